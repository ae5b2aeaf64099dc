def m_open (τ : ST) (t : Int32) : Int32 × ST := if ((decide (t = 0) || m_act τ t) && !decide (τ.2.1 1 = 150)) = true then (nI (τ.2.1 1 + 1), sa (sa (sa (sf τ 1 (τ.2.1 1 + 1)) 4 (upd (τ.1 4) (τ.2.1 1 + 1) t)) 5 (upd (τ.1 5) (τ.2.1 1 + 1) 0)) 6 (upd (τ.1 6) (τ.2.1 1 + 1) (-1))) else (-1, τ)
def m_val (τ : ST) (a w : Nat) : Int64 := if m_sees τ a w = true then (τ.1 2 (520 * m_src τ a w + w)).toInt64 else 1099511627776
def m_val0 (τ : ST) : Option Nat → Int64
  | none => 1099511627776
  | some w => if τ.1 1 w = 1 then (τ.1 2 w).toInt64 else 1099511627776
def m_get (τ : ST) (t key : Int32) : Int64 × ST :=
  if t = 0 then (m_val0 τ (m_find τ key), τ) else if m_act τ t = true then
    (if m_fst (m_reg τ key).1 t.toNatClampNeg (m_reg τ key).2 false = 0 then (m_val (m_may (m_reg τ key).1 t.toNatClampNeg (m_reg τ key).2 false) t.toNatClampNeg (m_reg τ key).2, m_may (m_reg τ key).1 t.toNatClampNeg (m_reg τ key).2 false)
    else (2199023255552, m_may (m_reg τ key).1 t.toNatClampNeg (m_reg τ key).2 false))
  else (4398046511104, τ)
def m_wrt (τ : ST) (i : Nat) (x v : Int32) : ST := sa (sa τ 1 (upd (τ.1 1) i x)) 2 (upd (τ.1 2) i v)
def m_change (τ : ST) (t key v : Int32) (b : Bool) : Int32 × ST :=
  if m_act τ t = true then
    (if m_fst (m_reg τ key).1 t.toNatClampNeg (m_reg τ key).2 true = 0 then
      (if m_sees (m_may (m_reg τ key).1 t.toNatClampNeg (m_reg τ key).2 true) t.toNatClampNeg (m_reg τ key).2 = b then 1 else 0, m_wrt (m_may (m_reg τ key).1 t.toNatClampNeg (m_reg τ key).2 true) (520 * t.toNatClampNeg + (m_reg τ key).2) (if b = true then 2 else 1) v)
    else (-2, m_may (m_reg τ key).1 t.toNatClampNeg (m_reg τ key).2 true))
  else (-1, τ)
def m_kids (τ : ST) (k : Nat) : Nat := pq_cnt (fun u => decide (1 ≤ u) && m_act τ (nI u) && decide (τ.1 4 u = nI k)) (τ.2.1 1 + 1)
def m_mst (τ : ST) (t : Int32) (r : Nat) : Bool := decide (τ.1 8 r = t) && !decide (τ.1 9 r = 0)
def m_marks (τ : ST) (t : Int32) : Nat := pq_cnt (m_mst τ t) (τ.2.1 2)
def m_mark (τ : ST) (t : Int32) : Int32 × ST := if m_act τ t = true then (nI (m_marks τ t), sf (sa (sa (sa (sa τ 8 (upd (τ.1 8) (τ.2.1 2) t)) 9 (upd (τ.1 9) (τ.2.1 2) 1)) 10 (va_cpy (τ.1 1) (τ.1 10) (520 * t.toNatClampNeg) (520 * τ.2.1 2) 520)) 11 (va_cpy (τ.1 2) (τ.1 11) (520 * t.toNatClampNeg) (520 * τ.2.1 2) 520)) 2 (τ.2.1 2 + 1)) else (-1, τ)
def m_restore (τ : ST) (a m : Nat) : ST := sa (sa τ 1 (va_cpy (τ.1 10) (τ.1 1) (520 * m) (520 * a) 520)) 2 (va_cpy (τ.1 11) (τ.1 2) (520 * m) (520 * a) 520)
def m_dfw (τ : ST) (a m w : Nat) : Bool := !decide (τ.1 1 (520 * a + w) = τ.1 10 (520 * m + w)) || !decide (τ.1 2 (520 * a + w) = τ.1 11 (520 * m + w))
def m_dif (τ : ST) (a m : Nat) : Nat := pq_cnt (m_dfw τ a m) 520
def m_can (τ : ST) (t : Int32) : Bool := m_act τ t && decide (m_kids τ t.toNatClampNeg = 0)
def m_mrow (τ : ST) (t x : Int32) : Option Nat := pq_fst (fun r => m_mst τ t r && decide (nI (pq_cnt (m_mst τ t) r) = x)) (τ.2.1 2)
def m_bk (τ : ST) (k q n : Nat) : ST := sa (m_restore τ k q) 9 (pq_msk (fun r => decide (q < r) && m_mst τ (nI k) r) 0 (τ.1 9) n)
def m_back (τ : ST) (t x : Int32) : Int32 × ST := if m_can τ t = true then (match m_mrow τ t x with
  | none => (-1, τ)
  | some q => (nI (m_dif τ t.toNatClampNeg q), m_bk τ t.toNatClampNeg q (τ.2.1 2))) else (-1, τ)
def m_zero (f : Nat → Int32) (k n : Nat) : Nat → Int32 := va_cpy (fun _ => 0) f 0 (520 * k) n
def m_end (τ : ST) (k : Nat) (x : Int32) : ST := sa (sa (sa (sa (sa τ 5 (upd (τ.1 5) k x)) 1 (m_zero (τ.1 1) k 520)) 2 (m_zero (τ.1 2) k 520)) 3 (m_zero (τ.1 3) k 520)) 9 (pq_msk (fun m => decide (τ.1 8 m = nI k)) 0 (τ.1 9) (τ.2.1 2))
def m_mg (c : Nat → Bool) (f : Nat → Int32) (sp dp n : Nat) : Nat → Int32 := fun i => if dp ≤ i ∧ i < dp + n ∧ c (i - dp) = true then f (sp + (i - dp)) else f i
def m_mw (τ : ST) (k w : Nat) : Bool := !decide (τ.1 1 (520 * k + w) = 0)
def m_mh (τ : ST) (k p w : Nat) : Bool := decide (p ≠ 0) && decide (τ.1 3 (520 * p + w) < τ.1 3 (520 * k + w))
def m_merge (τ : ST) (k p n : Nat) : ST := sa (sa (sa τ 1 (m_mg (m_mw τ k) (τ.1 1) (520 * k) (520 * p) n)) 2 (m_mg (m_mw τ k) (τ.1 2) (520 * k) (520 * p) n)) 3 (m_mg (m_mh τ k p) (τ.1 3) (520 * k) (520 * p) n)
def m_commit (τ : ST) (t : Int32) : Int32 × ST := if m_can τ t = true then (nI (pq_cnt (m_mw τ t.toNatClampNeg) 520), m_end (m_merge τ t.toNatClampNeg (mQ τ t.toNatClampNeg) 520) t.toNatClampNeg 1) else (-1, τ)
def m_ab (τ : ST) (k : Nat) : Nat → Nat × ST
  | 0 => (0, τ)
  | j + 1 => if (m_act (m_ab τ k j).2 (nI (τ.2.1 1 - j)) && (decide (τ.2.1 1 - j = k) || m_anc τ k (τ.2.1 1 - j))) = true then ((m_ab τ k j).1 + 1, m_end (m_ab τ k j).2 (τ.2.1 1 - j) 2) else m_ab τ k j
def m_abort (τ : ST) (t : Int32) : Int32 × ST := if m_act τ t = true then (nI (m_ab τ t.toNatClampNeg (τ.2.1 1)).1, (m_ab τ t.toNatClampNeg (τ.2.1 1)).2) else (-1, τ)
def m_state (τ : ST) (t : Int32) : Int32 := if pq_ex (τ.2.1 1) t = true then τ.1 5 t.toNatClampNeg else -1
def m_told (τ : ST) (t w : Int32) : Int32 := if pq_ex (τ.2.1 1) t = true then
  (if w = 0 then τ.1 4 t.toNatClampNeg else if w = 1 then nI (m_kids τ t.toNatClampNeg) else if w = 2 then nI (m_marks τ t) else if w = 3 then nI (pq_cnt (m_mw τ t.toNatClampNeg) 520) else if w = 4 then nI (pq_cnt (fun q => decide (τ.1 3 (520 * t.toNatClampNeg + q) = 1)) 520) else if w = 5 then nI (pq_cnt (fun q => decide (τ.1 3 (520 * t.toNatClampNeg + q) = 2)) 520) else -1) else -1
def m_hd (τ : ST) (k : Nat) : Option Nat → Int32
  | none => 0
  | some w => τ.1 3 (520 * k + w)
def m_held (τ : ST) (t key : Int32) : Int32 := if m_act τ t = true then m_hd τ t.toNatClampNeg (m_find τ key) else -1
def m_blocker (τ : ST) (t key : Int32) (y : Bool) : Int32 := if m_act τ t = true then m_first τ t.toNatClampNeg (m_find τ key) y else -1
def m_wx (τ : ST) (k : Nat) : Option Nat := if τ.1 6 k = -1 then none else some (τ.1 6 k).toNatClampNeg
def m_wy (τ : ST) (k : Nat) : Bool := !decide (τ.1 7 k = 0)
/-- what a transaction waits for is a key's number, or nothing -/
def mW (τ : ST) : Prop := ∀ k, 1 ≤ k → k ≤ τ.2.1 1 → τ.1 6 k = pq_o (m_wx τ k) ∧ (∀ w, m_wx τ k = some w → w < 520) ∧ τ.1 7 k = pq_b (m_wy τ k)
def mS (τ : ST) : Prop := ∀ i, τ.1 9 i = 0 ∨ τ.1 9 i = 1
def m_waits (τ : ST) (t : Int32) : Int32 := if m_act τ t = true then m_first τ t.toNatClampNeg (m_wx τ t.toNatClampNeg) (m_wy τ t.toNatClampNeg) else -1
def m_size (τ : ST) (t : Int32) : Int32 := if (decide (t = 0) || m_act τ t) = true then nI (pq_cnt (m_sees τ t.toNatClampNeg) (τ.2.1 0)) else -1
def m_nx (τ : ST) (a : Nat) (key : Int32) : Nat → Int64
  | 0 => 1099511627776
  | s + 1 => if (decide (key < τ.1 0 s) && decide ((τ.1 0 s).toInt64 < m_nx τ a key s) && m_sees τ a s) = true then (τ.1 0 s).toInt64 else m_nx τ a key s
def m_next (τ : ST) (t key : Int32) : Int64 := if (decide (t = 0) || m_act τ t) = true then m_nx τ t.toNatClampNeg key (τ.2.1 0) else 4398046511104
def m_sm (τ : ST) (a : Nat) (lo hi : Int32) : Nat → Int64
  | 0 => 0
  | s + 1 => m_sm τ a lo hi s + (if (!decide (τ.1 0 s < lo) && !decide (hi < τ.1 0 s) && m_sees τ a s) = true then (τ.1 2 (520 * m_src τ a s + s)).toInt64 else 0)
def m_sum (τ : ST) (t lo hi : Int32) : Int64 := if (decide (t = 0) || m_act τ t) = true then m_sm τ t.toNatClampNeg lo hi (τ.2.1 0) else 4398046511104
theorem m_asked_iff {τ : ST} (hF : mF τ) {t : Int32} : (decide (t = 0) || m_act τ t) = true ↔ ∃ k, k ≤ τ.2.1 1 ∧ t = nI k ∧ (k = 0 ∨ τ.1 5 k = 0) := by
  rw [Bool.or_eq_true, decide_eq_true_eq, m_act_iff hF]
  constructor
  · rintro (h | ⟨k, h1, h2, h3, h4⟩)
    · exact ⟨0, by omega, h, Or.inl rfl⟩
    · exact ⟨k, h2, h3, Or.inr h4⟩
  · rintro ⟨k, h2, h3, h4⟩
    by_cases e : k = 0
    · subst e; exact Or.inl h3
    · exact Or.inr ⟨k, by omega, h2, h3, h4.resolve_left e⟩
theorem m_may_F {τ : ST} {b w : Nat} {y : Bool} (h : mF τ) : mF (m_may τ b w y) := by unfold m_may; split <;> exact h
theorem m_may_c (τ : ST) (b w : Nat) (y : Bool) : (m_may τ b w y).2.1 = τ.2.1 := by unfold m_may; split <;> rfl
theorem pq_nar1 : vp_nar .byte 1 = 1 := by decide
theorem pq_nar2 : vp_nar .byte 2 = 2 := by decide
theorem pq_nar0 : vp_nar .byte 0 = 0 := by decide
theorem m_hk_nar (τ : ST) (i : Nat) (y : Bool) : vp_nar .byte (m_hk τ i y) = m_hk τ i y := by
  unfold m_hk
  split
  · decide
  · split <;> decide
theorem pq_zero_lt {x : Int32} (h : x < 0) : ¬ 0 ≤ x := Int32.not_le.mpr h
