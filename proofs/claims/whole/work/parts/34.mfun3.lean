theorem va_cpy_0 (f g : Nat → Int32) (sp dp : Nat) : va_cpy f g sp dp 0 = g := by
  funext i
  unfold va_cpy
  rw [if_neg (by omega)]
theorem va_cpy_s (f g : Nat → Int32) (sp dp n : Nat) : upd (va_cpy f g sp dp n) (dp + n) (f (sp + n)) = va_cpy f g sp dp (n + 1) := by
  funext i
  rw [upd_at]
  unfold va_cpy
  by_cases e : i = dp + n
  · rw [if_pos e, if_pos (by omega), e, Nat.add_sub_cancel_left]
  · rw [if_neg e]
    by_cases c : dp ≤ i ∧ i < dp + n
    · rw [if_pos c, if_pos (by omega)]
    · rw [if_neg c, if_neg (by omega)]
theorem va_cpy_at (f g : Nat → Int32) (sp dp n : Nat) : va_cpy f g sp dp n (dp + n) = g (dp + n) := if_neg (by omega)
theorem m_mg_0 (c : Nat → Bool) (f : Nat → Int32) (sp dp : Nat) : m_mg c f sp dp 0 = f := by
  funext i
  unfold m_mg
  rw [if_neg (by omega)]
theorem m_mg_t {c : Nat → Bool} {f : Nat → Int32} {sp dp n : Nat} (h : c n = true) : upd (m_mg c f sp dp n) (dp + n) (f (sp + n)) = m_mg c f sp dp (n + 1) := by
  funext i
  rw [upd_at]
  unfold m_mg
  by_cases e : i = dp + n
  · rw [if_pos e, if_pos ⟨by omega, by omega, by rw [e, Nat.add_sub_cancel_left]; exact h⟩, e, Nat.add_sub_cancel_left]
  · rw [if_neg e]
    by_cases q : dp ≤ i ∧ i < dp + n ∧ c (i - dp) = true
    · rw [if_pos q, if_pos ⟨q.1, by omega, q.2.2⟩]
    · rw [if_neg q, if_neg (fun z => q ⟨z.1, by omega, z.2.2⟩)]
theorem m_mg_f {c : Nat → Bool} {f : Nat → Int32} {sp dp n : Nat} (h : c n = false) : m_mg c f sp dp n = m_mg c f sp dp (n + 1) := by
  funext i
  unfold m_mg
  by_cases e : i = dp + n
  · rw [if_neg (by omega), if_neg]
    rintro ⟨-, -, h3⟩
    rw [e, Nat.add_sub_cancel_left, h] at h3; cases h3
  · by_cases q : dp ≤ i ∧ i < dp + n ∧ c (i - dp) = true
    · rw [if_pos q, if_pos ⟨q.1, by omega, q.2.2⟩]
    · rw [if_neg q, if_neg (fun z => q ⟨z.1, by omega, z.2.2⟩)]
theorem m_mg_off {c : Nat → Bool} {f : Nat → Int32} {sp dp n i : Nat} (h : i < dp ∨ dp + n ≤ i) : m_mg c f sp dp n i = f i := if_neg (by omega)
