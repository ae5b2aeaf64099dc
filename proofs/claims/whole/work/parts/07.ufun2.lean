def u_reg (σ : ST) (key : Int32) : ST × Nat := match u_find σ key with
  | some i => (σ, i)
  | none => (sf (sa σ 3 (upd (σ.1 3) (σ.2.1 1) key)) 1 (σ.2.1 1 + 1), σ.2.1 1)
def u_hrow (σ : ST) (t x : Int32) : Option Nat := pq_fst (fun r => decide (σ.1 11 r = t) && decide (σ.1 12 r = x)) (σ.2.1 3)
def u_hold (σ : ST) (t x y : Int32) : ST := match u_hrow σ t x with
  | some q => sa σ 13 (upd (σ.1 13) q (if σ.1 13 q < y then y else σ.1 13 q))
  | none => sf (sa (sa (sa σ 11 (upd (σ.1 11) (σ.2.1 3) t)) 12 (upd (σ.1 12) (σ.2.1 3) x)) 13 (upd (σ.1 13) (σ.2.1 3) y)) 3 (σ.2.1 3 + 1)
def u_kind (σ : ST) (t x : Int32) : Int32 := match u_hrow σ t x with
  | none => 0
  | some q => σ.1 13 q
def u_wish (σ : ST) (k : Nat) (x y : Int32) : ST := sa (sa σ 15 (upd (σ.1 15) k x)) 16 (upd (σ.1 16) k y)
def u_calm (σ : ST) (k : Nat) : ST := sa σ 16 (upd (σ.1 16) k 0)
def u_write (σ : ST) (t x v : Int32) (b : Bool) (z : Int32) : ST := sf (sa (sa (sa (sa (sa σ 4 (upd (σ.1 4) (σ.2.1 2) t)) 5 (upd (σ.1 5) (σ.2.1 2) x)) 6 (upd (σ.1 6) (σ.2.1 2) v)) 7 (upd (σ.1 7) (σ.2.1 2) (pq_b b))) 8 (upd (σ.1 8) (σ.2.1 2) z)) 2 (σ.2.1 2 + 1)
def u_act (σ : ST) (t : Int32) : Bool := pq_act (σ.2.1 0) (σ.1 1) t
def u_open (σ : ST) (t : Int32) : Int32 × ST := if ((decide (t = 0) || u_act σ t) && !decide (σ.2.1 0 = 150)) = true then (nI (σ.2.1 0 + 1), sa (sa (sf σ 0 (σ.2.1 0 + 1)) 0 (upd (σ.1 0) (σ.2.1 0 + 1) t)) 1 (upd (σ.1 1) (σ.2.1 0 + 1) 0)) else (-1, σ)
def u_get (σ : ST) (t key : Int32) : Int64 × ST :=
  if t = 0 then (u_seen σ 0 key, σ) else if u_act σ t = true then
    (if u_least (u_reg σ key).1 t.toNatClampNeg (nI (u_reg σ key).2) 1 = 0 then
      (u_seen (u_hold (u_calm (u_reg σ key).1 t.toNatClampNeg) t (nI (u_reg σ key).2) 1) t.toNatClampNeg key, u_hold (u_calm (u_reg σ key).1 t.toNatClampNeg) t (nI (u_reg σ key).2) 1)
    else (2199023255552, u_wish (u_reg σ key).1 t.toNatClampNeg (nI (u_reg σ key).2) 1))
  else (4398046511104, σ)
def u_change (σ : ST) (t key v : Int32) (b : Bool) : Int32 × ST :=
  if u_act σ t = true then
    (if u_least (u_reg σ key).1 t.toNatClampNeg (nI (u_reg σ key).2) 2 = 0 then
      (if (!decide (u_seen (u_calm (u_reg σ key).1 t.toNatClampNeg) t.toNatClampNeg key = 1099511627776)) = b then 1 else 0, u_write (u_hold (u_calm (u_reg σ key).1 t.toNatClampNeg) t (nI (u_reg σ key).2) 2) t (nI (u_reg σ key).2) v b (nI (σ.2.1 4)))
    else (-2, u_wish (u_reg σ key).1 t.toNatClampNeg (nI (u_reg σ key).2) 2))
  else (-1, σ)
def u_marks (σ : ST) (t : Int32) : Nat := pq_cnt (fun r => decide (σ.1 14 r = t)) (σ.2.1 4)
def u_mark (σ : ST) (t : Int32) : Int32 × ST := if u_act σ t = true then (nI (u_marks σ t), sf (sa σ 14 (upd (σ.1 14) (σ.2.1 4) t)) 4 (σ.2.1 4 + 1)) else (-1, σ)
def u_kids (σ : ST) (k : Nat) : Nat := pq_cnt (fun u => decide (k < u) && decide (σ.1 0 u = nI k) && decide (σ.1 1 u = 0)) (σ.2.1 0 + 1)
def u_can (σ : ST) (t : Int32) : Bool := u_act σ t && decide (u_kids σ t.toNatClampNeg = 0)
def u_keys (σ : ST) (t : Int32) : Nat := pq_cnt (fun s => (pq_lst (pq_own σ t s) (σ.2.1 2)).isSome) 512
def u_holds (σ : ST) (t x : Int32) : Nat := pq_cnt (fun r => decide (σ.1 11 r = t) && decide (σ.1 13 r = x)) (σ.2.1 3)
def u_state (σ : ST) (t : Int32) : Int32 := if pq_ex (σ.2.1 0) t = true then σ.1 1 t.toNatClampNeg else -1
def u_told (σ : ST) (t w : Int32) : Int32 := if pq_ex (σ.2.1 0) t = true then
  (if w = 0 then σ.1 0 t.toNatClampNeg else if w = 1 then nI (u_kids σ t.toNatClampNeg) else if w = 2 then nI (u_marks σ t) else if w = 3 then nI (u_keys σ t) else if w = 4 then nI (u_holds σ t 1) else if w = 5 then nI (u_holds σ t 2) else -1) else -1
def u_held (σ : ST) (t key : Int32) : Int32 := if u_act σ t = true then u_kind σ t (pq_o (u_find σ key)) else -1
def u_blocker (σ : ST) (t key : Int32) (b : Bool) : Int32 := if u_act σ t = true then u_least σ t.toNatClampNeg (pq_o (u_find σ key)) (if b = true then 2 else 1) else -1
def u_waits (σ : ST) (t : Int32) : Int32 := if u_act σ t = true then (if σ.1 16 t.toNatClampNeg = 0 then 0 else u_least σ t.toNatClampNeg (σ.1 15 t.toNatClampNeg) (σ.1 16 t.toNatClampNeg)) else -1
def u_end (σ : ST) (k : Nat) (x : Int32) : ST := sa (sa (sa (sa (sa σ 1 (upd (σ.1 1) k x)) 4 (pq_msk (fun r => decide (σ.1 4 r = nI k) && !decide (σ.1 8 r < 0)) (-1) (σ.1 4) (σ.2.1 2))) 11 (pq_msk (fun r => decide (σ.1 11 r = nI k)) (-1) (σ.1 11) (σ.2.1 3))) 14 (pq_msk (fun r => decide (σ.1 14 r = nI k)) (-1) (σ.1 14) (σ.2.1 4))) 16 (upd (σ.1 16) k 0)
def u_size (σ : ST) (t : Int32) : Int32 := if (decide (t = 0) || u_act σ t) = true then nI (pq_cnt (fun s => u_has σ (u_row σ t.toNatClampNeg s)) (σ.2.1 1)) else -1
def u_nx (σ : ST) (t : Nat) (key : Int32) : Nat → Int64
  | 0 => 1099511627776
  | s + 1 => if (decide (key < σ.1 3 s) && u_has σ (u_row σ t s)) = true then (if (σ.1 3 s).toInt64 < u_nx σ t key s then (σ.1 3 s).toInt64 else u_nx σ t key s) else u_nx σ t key s
def u_next (σ : ST) (t key : Int32) : Int64 := if (decide (t = 0) || u_act σ t) = true then u_nx σ t.toNatClampNeg key (σ.2.1 1) else 4398046511104
def u_sm (σ : ST) (t : Nat) (lo hi : Int32) : Nat → Int64
  | 0 => 0
  | s + 1 => if (!decide (σ.1 3 s < lo) && !decide (hi < σ.1 3 s) && u_has σ (u_row σ t s)) = true then u_sm σ t lo hi s + u_val σ (u_row σ t s) else u_sm σ t lo hi s
def u_sum (σ : ST) (t lo hi : Int32) : Int64 := if (decide (t = 0) || u_act σ t) = true then u_sm σ t.toNatClampNeg lo hi (σ.2.1 1) else 4398046511104
theorem u_act_iff {σ : ST} (hF : uF σ) {t : Int32} : u_act σ t = true ↔ ∃ k, 1 ≤ k ∧ k ≤ σ.2.1 0 ∧ t = nI k ∧ σ.1 1 k = 0 := pq_act_iff (Nat.lt_of_le_of_lt hF.1 (by decide))
theorem u_asked_iff {σ : ST} (hF : uF σ) {t : Int32} : (decide (t = 0) || u_act σ t) = true ↔ ∃ k, k ≤ σ.2.1 0 ∧ t = nI k ∧ (k = 0 ∨ σ.1 1 k = 0) := by
  rw [Bool.or_eq_true, decide_eq_true_eq, u_act_iff hF]
  constructor
  · rintro (h | ⟨k, h1, h2, h3, h4⟩)
    · exact ⟨0, by omega, h, Or.inl rfl⟩
    · exact ⟨k, h2, h3, Or.inr h4⟩
  · rintro ⟨k, h2, h3, h4⟩
    by_cases e : k = 0
    · subst e; exact Or.inl h3
    · exact Or.inr ⟨k, by omega, h2, h3, h4.resolve_left e⟩
section UCONG
variable {σ σ' : ST}
theorem uEq.a (h : uEq σ σ') (j : Nat) (hj : decide (j ≠ 2 ∧ j ≠ 9 ∧ j ≠ 10) = true) : σ'.1 j = σ.1 j := h.2 j (of_decide_eq_true hj).1 (of_decide_eq_true hj).2.1 (of_decide_eq_true hj).2.2
theorem uEq.Q (h : uEq σ σ') : uQ σ' = uQ σ := by unfold uQ; rw [h.a 0 rfl]
theorem uEq.F (h : uEq σ σ') (hF : uF σ) : uF σ' := by unfold uF; rw [h.Q, h.a 0 rfl, h.1]; exact hF
theorem uEq.H (h : uEq σ σ') (hF : uH σ) : uH σ' := by unfold uH; rw [h.a 11 rfl, h.1]; exact hF
theorem uEq.W (h : uEq σ σ') (hF : uW σ) : uW σ' := by unfold uW; rw [h.a 4 rfl, h.a 5 rfl, h.1]; exact hF
theorem uEq.least (h : uEq σ σ') : u_least σ' = u_least σ := by
  funext t x y
  unfold u_least
  rw [h.a 11 rfl, h.1, show u_way σ' t x y = u_way σ t x y by funext r; unfold u_way; rw [h.Q, h.a 11 rfl, h.a 12 rfl, h.a 13 rfl]]
theorem uEq.row (h : uEq σ σ') : u_row σ' = u_row σ := by
  funext t s
  unfold u_row
  rw [h.1, show u_sees σ' t s = u_sees σ t s by funext r; unfold u_sees; rw [h.Q, h.a 4 rfl, h.a 5 rfl]]
theorem uEq.find (h : uEq σ σ') : u_find σ' = u_find σ := by funext key; unfold u_find; rw [h.a 3 rfl, h.1]
theorem uEq.val (h : uEq σ σ') : u_val σ' = u_val σ := by funext x; cases x <;> simp only [u_val]; rw [h.a 7 rfl, h.a 6 rfl]
theorem uEq.seen (h : uEq σ σ') : u_seen σ' = u_seen σ := by funext t key; unfold u_seen; rw [h.find, h.val, h.row]
theorem uEq.act (h : uEq σ σ') : u_act σ' = u_act σ := by funext t; unfold u_act; rw [h.a 1 rfl, h.1]
theorem uEq.hrow (h : uEq σ σ') : u_hrow σ' = u_hrow σ := by funext t x; unfold u_hrow; rw [h.a 11 rfl, h.a 12 rfl, h.1]
theorem uEq.hold (h : uEq σ σ') (t x y : Int32) : uEq (u_hold σ t x y) (u_hold σ' t x y) := by
  unfold u_hold
  rw [h.hrow, h.a 11 rfl, h.a 12 rfl, h.a 13 rfl, h.1]
  split
  · exact h.sa 13 _
  · exact (((h.sa 11 _).sa 12 _).sa 13 _).sf 3 _
theorem uEq.calm (h : uEq σ σ') (k : Nat) : uEq (u_calm σ k) (u_calm σ' k) := by unfold u_calm; rw [h.a 16 rfl]; exact h.sa 16 _
theorem uEq.wish (h : uEq σ σ') (k : Nat) (x y : Int32) : uEq (u_wish σ k x y) (u_wish σ' k x y) := by unfold u_wish; rw [h.a 15 rfl, h.a 16 rfl]; exact (h.sa 15 _).sa 16 _
theorem uEq.write (h : uEq σ σ') (t x v : Int32) (b : Bool) (z : Int32) : uEq (u_write σ t x v b z) (u_write σ' t x v b z) := by
  unfold u_write
  rw [h.a 4 rfl, h.a 5 rfl, h.a 6 rfl, h.a 7 rfl, h.a 8 rfl, h.1]
  exact (((((h.sa 4 _).sa 5 _).sa 6 _).sa 7 _).sa 8 _).sf 2 _
end UCONG
