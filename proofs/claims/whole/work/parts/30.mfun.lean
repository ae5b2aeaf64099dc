/-- going up from u until f says so, or the store -/
def m_tp (q : Nat → Nat) (f : Nat → Bool) : Nat → Nat → Nat
  | 0, u => u
  | g + 1, u => if u = 0 ∨ f u = true then u else m_tp q f g (q u)
def m_top (q : Nat → Nat) (f : Nat → Bool) (u : Nat) : Nat := m_tp q f u u
theorem m_tp_fuel {n : Nat} {q : Nat → Nat} (hq : pq_dn n q) (f : Nat → Bool) : ∀ u g, u ≤ n → u ≤ g → m_tp q f g u = m_tp q f u u := by
  intro u
  induction u using Nat.strongRecOn with
  | _ u ih =>
    intro g hn hg
    rcases Nat.eq_zero_or_pos u with h | h
    · subst h
      cases g with
      | zero => rfl
      | succ g => simp [m_tp]
    · obtain ⟨u', rfl⟩ : ∃ u', u = u' + 1 := ⟨u - 1, by omega⟩
      obtain ⟨g', rfl⟩ : ∃ g', g = g' + 1 := ⟨g - 1, by omega⟩
      have h1 := hq (u' + 1) h hn
      simp only [m_tp]
      rw [ih (q (u' + 1)) h1 g' (by omega) (by omega), ih (q (u' + 1)) h1 u' (by omega) (by omega)]
theorem m_top_0 (q : Nat → Nat) (f : Nat → Bool) : m_top q f 0 = 0 := rfl
theorem m_top_t {n : Nat} {q : Nat → Nat} (hq : pq_dn n q) {f : Nat → Bool} {u : Nat} (hn : u ≤ n) (h : f u = true) : m_top q f u = u := by
  unfold m_top
  cases u with
  | zero => rfl
  | succ u => simp [m_tp, h]
theorem m_top_f {n : Nat} {q : Nat → Nat} (hq : pq_dn n q) {f : Nat → Bool} {u : Nat} (h0 : 0 < u) (hn : u ≤ n) (h : f u = false) : m_top q f u = m_top q f (q u) := by
  obtain ⟨u', rfl⟩ : ∃ u', u = u' + 1 := ⟨u - 1, by omega⟩
  have h1 := hq (u' + 1) h0 hn
  unfold m_top
  rw [← m_tp_fuel hq f (q (u' + 1)) u' (by omega) (by omega)]
  simp [m_tp, h]
theorem m_top_le {n : Nat} {q : Nat → Nat} (hq : pq_dn n q) (f : Nat → Bool) : ∀ u, u ≤ n → m_top q f u ≤ u := by
  intro u
  induction u using Nat.strongRecOn with
  | _ u ih =>
    intro hn
    rcases Nat.eq_zero_or_pos u with h | h
    · subst h; exact Nat.le_refl _
    · have h1 := hq u h hn
      cases hf : f u with
      | true => rw [m_top_t hq hn hf]; exact Nat.le_refl _
      | false =>
        rw [m_top_f hq h hn hf]
        have := ih (q u) h1 (by omega)
        omega
def mQ (τ : ST) : Nat → Nat := fun u => (τ.1 4 u).toNatClampNeg
def mF (τ : ST) : Prop := τ.2.1 1 ≤ 150 ∧ ∀ u, 1 ≤ u → u ≤ τ.2.1 1 → τ.1 4 u = nI (mQ τ u) ∧ mQ τ u < u
theorem mF_dn {τ : ST} (h : mF τ) : pq_dn (τ.2.1 1) (mQ τ) := fun t h0 hn => (h.2 t h0 hn).2
def mB (τ : ST) : Prop := ∀ i, vp_nar .byte (τ.1 1 i) = τ.1 1 i ∧ vp_nar .byte (τ.1 3 i) = τ.1 3 i ∧ vp_nar .byte (τ.1 10 i) = τ.1 10 i
def m_act (τ : ST) (t : Int32) : Bool := pq_act (τ.2.1 1) (τ.1 5) t
def m_find (τ : ST) (key : Int32) : Option Nat := pq_fst (fun j => decide (τ.1 0 j = key)) (τ.2.1 0)
def m_reg (τ : ST) (key : Int32) : ST × Nat := match m_find τ key with
  | some i => (τ, i)
  | none => (sf (sa τ 0 (upd (τ.1 0) (τ.2.1 0) key)) 0 (τ.2.1 0 + 1), τ.2.1 0)
def m_wr (τ : ST) (w u : Nat) : Bool := !decide (τ.1 1 (520 * u + w) = 0)
def m_src (τ : ST) (a w : Nat) : Nat := m_top (mQ τ) (m_wr τ w) a
def m_sees (τ : ST) (a w : Nat) : Bool := decide (τ.1 1 (520 * m_src τ a w + w) = 1)
def m_anc (τ : ST) (a b : Nat) : Bool := decide (b ≠ 0) && pq_on (mQ τ) (mQ τ b) a
def m_way (τ : ST) (b w : Nat) (y : Bool) (a : Nat) : Bool := !decide (a = b) && m_act τ (nI a) && !m_anc τ a b && !decide (τ.1 3 (520 * a + w) < (if y = true then 1 else 2))
def m_fst (τ : ST) (b w : Nat) (y : Bool) : Int32 := match pq_fst (fun j => m_way τ b w y (j + 1)) (τ.2.1 1) with
  | none => 0
  | some j => nI (j + 1)
def m_first (τ : ST) (b : Nat) (x : Option Nat) (y : Bool) : Int32 := match x with
  | none => 0
  | some w => m_fst τ b w y
def m_hk (τ : ST) (i : Nat) (y : Bool) : Int32 := if y = true then 2 else if τ.1 3 i = 2 then 2 else 1
def m_may (τ : ST) (b w : Nat) (y : Bool) : ST := if m_fst τ b w y = 0 then sa (sa (sa τ 6 (upd (τ.1 6) b (-1))) 7 (upd (τ.1 7) b (pq_b y))) 3 (upd (τ.1 3) (520 * b + w) (m_hk τ (520 * b + w) y)) else sa (sa τ 6 (upd (τ.1 6) b (nI w))) 7 (upd (τ.1 7) b (pq_b y))
theorem pq_pos {t : Int32} : ¬ t ≤ 0 ↔ 1 ≤ t := by
  rw [Int32.le_iff_toInt_le, Int32.le_iff_toInt_le]
  have e1 : (1 : Int32).toInt = 1 := by decide
  have e0 : (0 : Int32).toInt = 0 := by decide
  omega
theorem m_act_iff {τ : ST} (hF : mF τ) {t : Int32} : m_act τ t = true ↔ ∃ k, 1 ≤ k ∧ k ≤ τ.2.1 1 ∧ t = nI k ∧ τ.1 5 k = 0 := pq_act_iff (Nat.lt_of_le_of_lt hF.1 (by decide))
theorem m_reg_F {τ : ST} {key : Int32} (h : mF τ) : mF (m_reg τ key).1 := by unfold m_reg; split <;> exact h
theorem m_reg_B {τ : ST} {key : Int32} (h : mB τ) : mB (m_reg τ key).1 := by unfold m_reg; split <;> exact h
theorem m_reg_c (τ : ST) (key : Int32) (j : Nat) (hj : j ≠ 0) : (m_reg τ key).1.2.1 j = τ.2.1 j := by
  unfold m_reg; split
  · rfl
  · exact if_neg hj
theorem m_reg_a (τ : ST) (key : Int32) (j : Nat) (hj : j ≠ 0) : (m_reg τ key).1.1 j = τ.1 j := by
  unfold m_reg; split
  · rfl
  · exact if_neg hj
theorem m_reg_k (τ : ST) (key : Int32) : (m_reg τ key).1.2.1 0 ≤ τ.2.1 0 + 1 ∧ (m_reg τ key).2 < (m_reg τ key).1.2.1 0 := by
  unfold m_reg; split
  · next i hi => exact ⟨Nat.le_succ _, (pq_fst_some.mp hi).1⟩
  · exact ⟨Nat.le_refl _, Nat.lt_succ_self _⟩
