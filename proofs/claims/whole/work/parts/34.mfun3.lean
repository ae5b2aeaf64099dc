theorem va_cpy_0 (f g : Nat → Int32) (sp dp : Nat) : va_cpy f g sp dp 0 = g := by
  funext i
  unfold va_cpy
  rw [if_neg (by omega)]
theorem va_cpy_s (f g : Nat → Int32) (sp dp n : Nat) : upd (va_cpy f g sp dp n) (dp + n) (f (sp + n)) = va_cpy f g sp dp (n + 1) := by
  funext i
  rw [upd_at]
  unfold va_cpy
  by_cases e : i = dp + n
  · rw [if_pos e, if_pos (by omega), e, Nat.add_sub_cancel_left]
  · rw [if_neg e]
    by_cases c : dp ≤ i ∧ i < dp + n
    · rw [if_pos c, if_pos (by omega)]
    · rw [if_neg c, if_neg (by omega)]
theorem va_cpy_at (f g : Nat → Int32) (sp dp n : Nat) : va_cpy f g sp dp n (dp + n) = g (dp + n) := if_neg (by omega)
theorem m_mg_0 (c : Nat → Bool) (f : Nat → Int32) (sp dp : Nat) : m_mg c f sp dp 0 = f := by
  funext i
  unfold m_mg
  rw [if_neg (by omega)]
theorem m_mg_t {c : Nat → Bool} {f : Nat → Int32} {sp dp n : Nat} (h : c n = true) : upd (m_mg c f sp dp n) (dp + n) (f (sp + n)) = m_mg c f sp dp (n + 1) := by
  funext i
  rw [upd_at]
  unfold m_mg
  by_cases e : i = dp + n
  · rw [if_pos e, if_pos ⟨by omega, by omega, by rw [e, Nat.add_sub_cancel_left]; exact h⟩, e, Nat.add_sub_cancel_left]
  · rw [if_neg e]
    by_cases q : dp ≤ i ∧ i < dp + n ∧ c (i - dp) = true
    · rw [if_pos q, if_pos ⟨q.1, by omega, q.2.2⟩]
    · rw [if_neg q, if_neg (fun z => q ⟨z.1, by omega, z.2.2⟩)]
theorem m_mg_f {c : Nat → Bool} {f : Nat → Int32} {sp dp n : Nat} (h : c n = false) : m_mg c f sp dp n = m_mg c f sp dp (n + 1) := by
  funext i
  unfold m_mg
  by_cases e : i = dp + n
  · rw [if_neg (by omega), if_neg]
    rintro ⟨-, -, h3⟩
    rw [e, Nat.add_sub_cancel_left, h] at h3; cases h3
  · by_cases q : dp ≤ i ∧ i < dp + n ∧ c (i - dp) = true
    · rw [if_pos q, if_pos ⟨q.1, by omega, q.2.2⟩]
    · rw [if_neg q, if_neg (fun z => q ⟨z.1, by omega, z.2.2⟩)]
theorem m_mg_off {c : Nat → Bool} {f : Nat → Int32} {sp dp n i : Nat} (h : i < dp ∨ dp + n ≤ i) : m_mg c f sp dp n i = f i := if_neg (by omega)
theorem upd_self {f : Nat → Int32} {k : Nat} {x : Int32} (h : f k = x) : upd f k x = f := by
  funext j
  rw [upd_at]
  split
  · next e => rw [e, h]
  · rfl
def m_tw (τ : ST) (k : Nat) (w : Int32) (q : Nat) : Bool := if w = 3 then m_mw τ k q else decide (τ.1 3 (520 * k + q) = (if w = 4 then 1 else 2))
theorem m_end_c (τ : ST) (k : Nat) (x : Int32) : (m_end τ k x).2.1 = τ.2.1 := rfl
theorem m_ab_c (τ : ST) (k j : Nat) : (m_ab τ k j).2.2.1 = τ.2.1 := by
  induction j with
  | zero => rfl
  | succ j ih =>
    simp only [m_ab]
    split
    · exact ih
    · exact ih
theorem m_ab_p (τ : ST) (k j : Nat) : (m_ab τ k j).2.1 4 = τ.1 4 := by
  induction j with
  | zero => rfl
  | succ j ih =>
    simp only [m_ab]
    split
    · exact ih
    · exact ih
theorem m_ab_F {τ : ST} (h : mF τ) (k j : Nat) : mF (m_ab τ k j).2 := by unfold mF mQ; rw [m_ab_c, m_ab_p]; exact h
theorem m_ab_anc (τ : ST) (k j a b : Nat) : m_anc (m_ab τ k j).2 a b = m_anc τ a b := by unfold m_anc mQ; rw [m_ab_p]
theorem m_end_S {τ : ST} (h : mS τ) (k : Nat) (x : Int32) : mS (m_end τ k x) := by
  intro i
  rw [show (m_end τ k x).1 9 = pq_msk (fun m => decide (τ.1 8 m = nI k)) 0 (τ.1 9) (τ.2.1 2) from rfl]
  unfold pq_msk
  split
  · exact Or.inl rfl
  · exact h i
theorem m_ab_S {τ : ST} (h : mS τ) (k j : Nat) : mS (m_ab τ k j).2 := by
  induction j with
  | zero => exact h
  | succ j ih =>
    simp only [m_ab]
    split
    · exact m_end_S ih _ _
    · exact ih
theorem pq_cnt_mono {p : Nat → Bool} {i j : Nat} (h : i ≤ j) : pq_cnt p i ≤ pq_cnt p j := by
  induction j with
  | zero => rw [Nat.le_zero.mp h]; exact Nat.le_refl _
  | succ j ih =>
    by_cases e : i = j + 1
    · rw [e]; exact Nat.le_refl _
    · have := ih (by omega)
      simp only [pq_cnt]
      omega
theorem pq_cnt_hit {p : Nat → Bool} {n x : Nat} (h : x < pq_cnt p n) : ∃ q, q < n ∧ p q = true ∧ pq_cnt p q = x := by
  induction n with
  | zero => simp [pq_cnt] at h
  | succ n ih =>
    by_cases e : x < pq_cnt p n
    · obtain ⟨q, q1, q2⟩ := ih e
      exact ⟨q, by omega, q2⟩
    · simp only [pq_cnt] at h
      by_cases c : p n = true
      · rw [if_pos c] at h
        exact ⟨n, by omega, c, by omega⟩
      · rw [if_neg c] at h; omega
