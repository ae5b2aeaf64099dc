theorem pq_cl_mono {E : Nat → Nat → Bool} {k a b : Nat} (h : pq_cl E k a b = true) : pq_cl E (k + 1) a b = true := by simp only [pq_cl]; rw [h]; rfl
theorem pq_cl_le {E : Nat → Nat → Bool} {k n a b : Nat} (hk : k ≤ n) (h : pq_cl E k a b = true) : pq_cl E n a b = true := by
  induction n with
  | zero => rw [Nat.le_zero.mp hk] at h; exact h
  | succ n ih =>
    by_cases e : k = n + 1
    · rw [← e]; exact h
    · exact pq_cl_mono (ih (by omega))
theorem pq_cl_E {E : Nat → Nat → Bool} {n a b : Nat} (h : E a b = true) : pq_cl E n a b = true := pq_cl_le (k := 0) (Nat.zero_le _) h
theorem pq_cl_trans {E : Nat → Nat → Bool} : ∀ (n a c b : Nat), 1 ≤ c → c ≤ n → pq_cl E n a c = true → pq_cl E n c b = true → pq_cl E n a b = true := by
  intro n
  induction n with
  | zero => intro a c b h1 h2; omega
  | succ n ih =>
    intro a c b h1 h2 h3 h4
    by_cases e : c = n + 1
    · subst e
      simp only [pq_cl, Bool.or_eq_true, Bool.and_eq_true] at h3 h4 ⊢
      right
      refine ⟨?_, ?_⟩
      · rcases h3 with h | h
        · exact h
        · exact h.1
      · rcases h4 with h | h
        · exact h
        · exact h.2
    · have hc : c ≤ n := by omega
      simp only [pq_cl, Bool.or_eq_true, Bool.and_eq_true] at h3 h4 ⊢
      rcases h3 with h3 | ⟨h3, h3'⟩
      · rcases h4 with h4 | ⟨h4, h4'⟩
        · exact Or.inl (ih a c b h1 hc h3 h4)
        · exact Or.inr ⟨ih a c (n + 1) h1 hc h3 h4, h4'⟩
      · rcases h4 with h4 | ⟨h4, h4'⟩
        · exact Or.inr ⟨h3, ih (n + 1) c b h1 hc h3' h4⟩
        · exact Or.inr ⟨h3, h4'⟩
/-- what is closed under the edges holds all that is led to -/
theorem pq_cl_in {E : Nat → Nat → Bool} {n t : Nat} {F : Nat → Prop} (h : ∀ u v, 1 ≤ v → v ≤ n → (u = t ∨ (1 ≤ u ∧ u ≤ n ∧ F u)) → E u v = true → F v) : ∀ k, k ≤ n → ∀ a b, 1 ≤ b → b ≤ n → (a = t ∨ (1 ≤ a ∧ a ≤ n ∧ F a)) → pq_cl E k a b = true → F b := by
  intro k
  induction k with
  | zero => intro _ a b b1 b2 ha hc; exact h a b b1 b2 ha hc
  | succ k ih =>
    intro hk a b b1 b2 ha hc
    simp only [pq_cl, Bool.or_eq_true, Bool.and_eq_true] at hc
    rcases hc with hc | ⟨hc1, hc2⟩
    · exact ih (by omega) a b b1 b2 ha hc
    · have f1 := ih (by omega) a (k + 1) (by omega) hk ha hc1
      exact ih (by omega) (k + 1) b b1 b2 (Or.inr ⟨by omega, hk, f1⟩) hc2
theorem pq_cnt_sub {p q : Nat → Bool} {n : Nat} (h : ∀ j, j < n → p j = true → q j = true) : pq_cnt p n ≤ pq_cnt q n := by
  induction n with
  | zero => exact Nat.le_refl _
  | succ n ih =>
    have := ih (fun j hj => h j (by omega))
    simp only [pq_cnt]
    by_cases c : p n = true
    · rw [if_pos c, if_pos (h n (by omega) c)]; omega
    · rw [if_neg c]; omega
theorem pq_cnt_lt {p q : Nat → Bool} {n i : Nat} (h : ∀ j, j < n → p j = true → q j = true) (hi : i < n) (h1 : p i = false) (h2 : q i = true) : pq_cnt p n < pq_cnt q n := by
  induction n with
  | zero => omega
  | succ n ih =>
    simp only [pq_cnt]
    by_cases e : i = n
    · subst e
      have := pq_cnt_sub (p := p) (q := q) (n := i) (fun j hj => h j (by omega))
      rw [h1, h2]
      simp
      omega
    · have := ih (fun j hj => h j (by omega)) (by omega)
      by_cases c : p n = true
      · rw [if_pos c, if_pos (h n (by omega) c)]; omega
      · rw [if_neg c]; omega
def m_edge (τ : ST) (u v : Nat) : Bool := m_act τ (nI u) && (match m_wx τ u with
  | none => false
  | some w => m_way τ u w (m_wy τ u) v)
def m_ring (τ : ST) : Int32 := match pq_fst (fun j => m_act τ (nI (j + 1)) && pq_cl (m_edge τ) (τ.2.1 1) (j + 1) (j + 1)) (τ.2.1 1) with
  | none => 0
  | some j => nI (j + 1)
/-- how many are not reached yet -/
def m_z (n : Nat) (f : Nat → Int32) : Nat := pq_cnt (fun v => decide (1 ≤ v) && decide (f v = 0)) (n + 1)
theorem m_z_congr {n : Nat} {f g : Nat → Int32} (h : ∀ v, v ≤ n → f v = g v) : m_z n f = m_z n g := pq_cnt_congr (fun j hj => by rw [h j (by omega)])
theorem m_z_lt {n i : Nat} {f : Nat → Int32} (h1 : 1 ≤ i) (h2 : i ≤ n) (h3 : f i = 0) : m_z n (upd f i 1) < m_z n f := by
  refine pq_cnt_lt (i := i) (fun j hj hp => ?_) (by omega) ?_ ?_
  · rw [upd_at] at hp
    by_cases e : j = i
    · subst e; simp at hp
    · rw [if_neg e] at hp; exact hp
  · rw [upd_eq]; simp
  · rw [h3, decide_eq_true h1]; rfl
/-- the sheet of those that are reached from a: 0 or 1, and no more than is led to -/
def m_G (τ : ST) (a : Nat) (f : Nat → Int32) : Prop := (∀ v, v ≤ τ.2.1 1 → f v = 0 ∨ f v = 1) ∧ ∀ v, 1 ≤ v → v ≤ τ.2.1 1 → f v = 1 → pq_cl (m_edge τ) (τ.2.1 1) a v = true
def m_Cl (τ : ST) (u : Nat) (f : Nat → Int32) : Prop := ∀ v, 1 ≤ v → v ≤ τ.2.1 1 → m_edge τ u v = true → f v = 1
