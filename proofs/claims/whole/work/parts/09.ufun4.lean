def u_left (σ : ST) (u : Nat) : Bool := u_act σ (nI u) && !(decide (σ.1 0 u = 0) || u_act σ (σ.1 0 u))
def u_ab (σ : ST) (k : Nat) : Nat → Nat × ST
  | 0 => (1, u_end σ k 2)
  | j + 1 => if u_left (u_ab σ k j).2 (k + 1 + j) = true then ((u_ab σ k j).1 + 1, u_end (u_ab σ k j).2 (k + 1 + j) 2) else u_ab σ k j
def u_abort (σ : ST) (t : Int32) : Int32 × ST := if u_act σ t = true then (nI (u_ab σ t.toNatClampNeg (σ.2.1 0 - t.toNatClampNeg)).1, (u_ab σ t.toNatClampNeg (σ.2.1 0 - t.toNatClampNeg)).2) else (-1, σ)
def u_hw (σ : ST) (t p : Int32) : ST := sa (sa σ 4 (pq_msk (fun r => decide (σ.1 4 r = t)) p (σ.1 4) (σ.2.1 2))) 8 (pq_msk (fun r => decide (σ.1 4 r = t)) (nI (σ.2.1 4)) (σ.1 8) (σ.2.1 2))
def u_hh (σ : ST) (t p : Int32) : ST := if p = 0 then σ else u_hand σ t p
def u_commit (σ : ST) (t : Int32) : Int32 × ST := if u_can σ t = true then (nI (u_keys σ t), u_end (u_hh (u_hw σ t (σ.1 0 t.toNatClampNeg)) t (σ.1 0 t.toNatClampNeg)) t.toNatClampNeg 1) else (-1, σ)
def u_mrow (σ : ST) (t x : Int32) : Option Nat := pq_fst (fun r => decide (σ.1 14 r = t) && decide (nI (pq_cnt (fun r => decide (σ.1 14 r = t)) r) = x)) (σ.2.1 4)
def u_undo (σ : ST) (t : Int32) (z : Int32) : ST := sa σ 4 (pq_msk (fun r => decide (σ.1 4 r = t) && !decide (σ.1 8 r < z)) (-1) (σ.1 4) (σ.2.1 2))
def u_mdrop (σ : ST) (t : Int32) (a : Nat) : ST := sa σ 14 (pq_msk (fun r => decide (a ≤ r) && decide (σ.1 14 r = t)) (-1) (σ.1 14) (σ.2.1 4))
def u_diff (σ : ST) (t z : Int32) : Nat := pq_cnt (fun s => !pq_same σ (pq_lst (pq_own σ t s) (σ.2.1 2)) (pq_lst (pq_own (u_undo σ t z) t s) (σ.2.1 2))) 512
def u_back (σ : ST) (t x : Int32) : Int32 × ST := if u_can σ t = true then (match u_mrow σ t x with
  | none => (-1, σ)
  | some r => (nI (u_diff σ t (nI (r + 1))), u_undo (u_mdrop σ t (r + 1)) t (nI (r + 1)))) else (-1, σ)
def u_edge (σ : ST) (a b : Nat) : Bool := !decide (σ.1 16 a = 0) && (pq_fst (fun r => u_way σ a (σ.1 15 a) (σ.1 16 a) r && decide (σ.1 11 r = nI b)) (σ.2.1 3)).isSome
def u_ring (σ : ST) : Int32 := match pq_fst (fun j => pq_cl (u_edge σ) (σ.2.1 0) (j + 1) (j + 1)) (σ.2.1 0) with
  | none => 0
  | some j => nI (j + 1)
theorem pq_b_inj (a b : Bool) : pq_b a = pq_b b ↔ a = b := by cases a <;> cases b <;> decide
theorem u_end_c (σ : ST) (k : Nat) (x : Int32) : (u_end σ k x).2.1 = σ.2.1 := rfl
theorem u_ab_c (σ : ST) (k j : Nat) : (u_ab σ k j).2.2.1 = σ.2.1 := by
  induction j with
  | zero => rfl
  | succ j ih =>
    simp only [u_ab]
    split
    · exact ih
    · exact ih
section UCONG
variable {σ σ' : ST}
theorem uEq.end (h : uEq σ σ') (k : Nat) (x : Int32) : uEq (u_end σ k x) (u_end σ' k x) := by
  unfold u_end
  rw [h.a 1 rfl, h.a 4 rfl, h.a 8 rfl, h.a 11 rfl, h.a 14 rfl, h.a 16 rfl, h.1]
  exact ((((h.sa 1 _).sa 4 _).sa 11 _).sa 14 _).sa 16 _
theorem uEq.hand (h : uEq σ σ') (a b : Int32) : uEq (u_hand σ a b) (u_hand σ' a b) := by
  unfold u_hand u_kd u_hm
  rw [h.hrow, h.a 11 rfl, h.a 12 rfl, h.a 13 rfl, h.1]
  exact (h.sa 11 _).sa 13 _
theorem uEq.U (h : uEq σ σ') (hU : uU σ) : uU σ' := by unfold uU; rw [h.a 11 rfl, h.a 12 rfl, h.1]; exact hU
theorem uEq.hw (h : uEq σ σ') (t p : Int32) : uEq (u_hw σ t p) (u_hw σ' t p) := by
  unfold u_hw
  rw [h.a 4 rfl, h.a 8 rfl, h.1]
  exact (h.sa 4 _).sa 8 _
end UCONG
theorem u_has_sc {σ : ST} {f g : Nat → Int32} {x : Option Nat} : u_has (sa (sa σ 2 f) 9 g) x = u_has σ x := by cases x <;> rfl
theorem u_fv_sc {σ : ST} {f g : Nat → Int32} {x : Option Nat} (h : u_has σ x = true) : pq_fv (sa (sa σ 2 f) 9 g) x = u_val σ x := by
  cases x with
  | none => rfl
  | some r => exact (if_pos (of_decide_eq_true h)).symm
