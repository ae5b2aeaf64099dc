/-- one row for each holder and key -/
def uU (σ : ST) : Prop := ∀ r q, r < σ.2.1 3 → q < σ.2.1 3 → σ.1 11 r = σ.1 11 q → ¬ σ.1 11 r = -1 → σ.1 12 r = σ.1 12 q → r = q
def u_hm (σ : ST) (a b : Int32) : Nat → Bool := fun r => decide (σ.1 11 r = a) && (u_hrow σ b (σ.1 12 r)).isNone
def u_kd (σ : ST) (a b : Int32) (i : Nat) : Nat → Int32 := fun r => if r < σ.2.1 3 ∧ σ.1 11 r = b then (match pq_fst (fun q => decide (σ.1 11 q = a) && decide (σ.1 12 q = σ.1 12 r)) i with
  | none => σ.1 13 r
  | some q => if σ.1 13 r < σ.1 13 q then σ.1 13 q else σ.1 13 r) else σ.1 13 r
def u_hand (σ : ST) (a b : Int32) : ST := sa (sa σ 11 (pq_msk (u_hm σ a b) b (σ.1 11) (σ.2.1 3))) 13 (u_kd σ a b (σ.2.1 3))
theorem u_kd_0 (σ : ST) (a b : Int32) : u_kd σ a b 0 = σ.1 13 := by
  funext r
  unfold u_kd
  split <;> rfl
theorem pq_fst_f {p : Nat → Bool} {n : Nat} (h : p n = false) : pq_fst p (n + 1) = pq_fst p n := by
  simp only [pq_fst]
  cases pq_fst p n with
  | some i => rfl
  | none => simp [h]
theorem u_kd_f {σ : ST} {a b : Int32} {i : Nat} (h : ∀ r, r < σ.2.1 3 → σ.1 11 r = b → ¬ (σ.1 11 i = a ∧ σ.1 12 i = σ.1 12 r)) : u_kd σ a b i = u_kd σ a b (i + 1) := by
  funext r
  unfold u_kd
  by_cases c : r < σ.2.1 3 ∧ σ.1 11 r = b
  · rw [if_pos c, if_pos c, pq_fst_f (n := i)]
    have h1 := h r c.1 c.2
    by_cases e : σ.1 11 i = a
    · rw [decide_eq_false (fun e2 => h1 ⟨e, e2⟩)]; simp
    · rw [decide_eq_false e]; rfl
  · rw [if_neg c, if_neg c]
theorem u_kd_at {σ : ST} {a b : Int32} (hU : uU σ) (ha : ¬ a = -1) {i r : Nat} (hi : i < σ.2.1 3) (hia : σ.1 11 i = a) (hs : σ.1 12 r = σ.1 12 i) : u_kd σ a b i r = σ.1 13 r := by
  unfold u_kd
  by_cases c : r < σ.2.1 3 ∧ σ.1 11 r = b
  · rw [if_pos c]
    have : pq_fst (fun q => decide (σ.1 11 q = a) && decide (σ.1 12 q = σ.1 12 r)) i = none := by
      rw [pq_fst_none]
      intro j hj
      by_cases e : σ.1 11 j = a
      · by_cases e2 : σ.1 12 j = σ.1 12 r
        · have := hU j i (by omega) hi (e.trans hia.symm) (by rw [e]; exact ha) (e2.trans hs)
          omega
        · rw [decide_eq_false e2]; simp
      · rw [decide_eq_false e]; rfl
    rw [this]
  · rw [if_neg c]
theorem u_kd_t {σ : ST} {a b : Int32} (hU : uU σ) (ha : ¬ a = -1) (hb : ¬ b = -1) {i o : Nat} (hi : i < σ.2.1 3) (hia : σ.1 11 i = a) (ho : o < σ.2.1 3) (hob : σ.1 11 o = b) (hs : σ.1 12 o = σ.1 12 i) : upd (u_kd σ a b i) o (if σ.1 13 o < σ.1 13 i then σ.1 13 i else σ.1 13 o) = u_kd σ a b (i + 1) := by
  funext r
  rw [upd_at]
  by_cases e : r = o
  · rw [if_pos e, e]
    unfold u_kd
    rw [if_pos (show o < σ.2.1 3 ∧ σ.1 11 o = b from ⟨ho, hob⟩)]
    have hn : pq_fst (fun q => decide (σ.1 11 q = a) && decide (σ.1 12 q = σ.1 12 o)) (i + 1) = some i := by
      rw [pq_fst_some]
      refine ⟨by omega, by rw [decide_eq_true hia, decide_eq_true hs.symm]; rfl, fun j hj => ?_⟩
      by_cases e1 : σ.1 11 j = a
      · by_cases e2 : σ.1 12 j = σ.1 12 o
        · have := hU j i (by omega) hi (e1.trans hia.symm) (by rw [e1]; exact ha) (e2.trans hs)
          omega
        · rw [decide_eq_false e2]; simp
      · rw [decide_eq_false e1]; rfl
    rw [hn]
  · rw [if_neg e]
    unfold u_kd
    by_cases c : r < σ.2.1 3 ∧ σ.1 11 r = b
    · rw [if_pos c, if_pos c, pq_fst_f (n := i)]
      by_cases e2 : σ.1 12 i = σ.1 12 r
      · exact absurd (hU r o c.1 ho (c.2.trans hob.symm) (by rw [c.2]; exact hb) (e2.symm.trans hs.symm)) e
      · rw [decide_eq_false e2]; simp
    · rw [if_neg c, if_neg c]
theorem u_hand_find {σ : ST} {a b : Int32} (hU : uU σ) (ha : ¬ a = -1) {i : Nat} (hi : i < σ.2.1 3) (hia : σ.1 11 i = a) : pq_fst (fun r => decide (pq_msk (u_hm σ a b) b (σ.1 11) i r = b) && decide (σ.1 12 r = σ.1 12 i)) (σ.2.1 3) = u_hrow σ b (σ.1 12 i) := by
  unfold u_hrow
  refine pq_fst_congr (fun r hr => ?_)
  by_cases e : σ.1 12 r = σ.1 12 i
  · congr 1
    have : pq_msk (u_hm σ a b) b (σ.1 11) i r = σ.1 11 r := by
      unfold pq_msk
      rw [if_neg]
      rintro ⟨h1, h2⟩
      unfold u_hm at h2
      rw [Bool.and_eq_true, decide_eq_true_eq] at h2
      have := hU r i hr hi (h2.1.trans hia.symm) (by rw [h2.1]; exact ha) e
      omega
    rw [this]
  · rw [decide_eq_false e]; simp
theorem u_reg_F {σ : ST} {key : Int32} (h : uF σ) : uF (u_reg σ key).1 := by unfold u_reg; split <;> exact h
theorem u_reg_H {σ : ST} {key : Int32} (h : uH σ) : uH (u_reg σ key).1 := by unfold u_reg; split <;> exact h
theorem u_reg_W {σ : ST} {key : Int32} (h : uW σ) : uW (u_reg σ key).1 := by unfold u_reg; split <;> exact h
theorem u_reg_c (σ : ST) (key : Int32) (j : Nat) (hj : j ≠ 1) : (u_reg σ key).1.2.1 j = σ.2.1 j := by
  unfold u_reg; split
  · rfl
  · exact if_neg hj
theorem u_reg_k (σ : ST) (key : Int32) : (u_reg σ key).1.2.1 1 ≤ σ.2.1 1 + 1 ∧ (u_reg σ key).2 < (u_reg σ key).1.2.1 1 := by
  unfold u_reg; split
  · next i hi => exact ⟨Nat.le_succ _, u_find_lt hi⟩
  · exact ⟨Nat.le_refl _, Nat.lt_succ_self _⟩
theorem u_reg_of {σ σ' : ST} {key r : Int32} (h : (∃ i, pq_fst (fun j => decide (σ.1 3 j = key)) (σ.2.1 1) = some i ∧ r = nI i ∧ σ = σ') ∨ (pq_fst (fun j => decide (σ.1 3 j = key)) (σ.2.1 1) = none ∧ r = nI (σ.2.1 1) ∧ σ' = sf (sa σ 3 (upd (σ.1 3) (σ.2.1 1) key)) 1 (σ.2.1 1 + 1))) : r = nI (u_reg σ key).2 ∧ σ' = (u_reg σ key).1 := by
  unfold u_reg u_find
  rcases h with ⟨i, h1, h2, h3⟩ | ⟨h1, h2, h3⟩
  · rw [h1]; exact ⟨h2, h3.symm⟩
  · rw [h1]; exact ⟨h2, h3⟩
theorem u_hold_of {σ σ' : ST} {t x y : Int32} (h : (∃ q, pq_fst (fun r => decide (σ.1 11 r = t) && decide (σ.1 12 r = x)) (σ.2.1 3) = some q ∧ σ' = sa σ 13 (upd (σ.1 13) q (if σ.1 13 q < y then y else σ.1 13 q))) ∨ (pq_fst (fun r => decide (σ.1 11 r = t) && decide (σ.1 12 r = x)) (σ.2.1 3) = none ∧ σ' = sf (sa (sa (sa σ 11 (upd (σ.1 11) (σ.2.1 3) t)) 12 (upd (σ.1 12) (σ.2.1 3) x)) 13 (upd (σ.1 13) (σ.2.1 3) y)) 3 (σ.2.1 3 + 1))) : σ' = u_hold σ t x y := by
  unfold u_hold u_hrow
  rcases h with ⟨q, h1, h2⟩ | ⟨h1, h2⟩
  · rw [h1]; exact h2
  · rw [h1]; exact h2
theorem u_hold_F {σ : ST} {t x y : Int32} (h : uF σ) : uF (u_hold σ t x y) := by unfold u_hold; split <;> exact h
theorem u_hold_W {σ : ST} {t x y : Int32} (h : uW σ) : uW (u_hold σ t x y) := by unfold u_hold; split <;> exact h
theorem u_hold_c (σ : ST) (t x y : Int32) (j : Nat) (hj : j ≠ 3) : (u_hold σ t x y).2.1 j = σ.2.1 j := by
  unfold u_hold; split
  · rfl
  · exact if_neg hj
theorem ux_swap (σ : ST) (f g h : Nat → Int32) : sa (sa (sa σ 11 f) 13 g) 11 h = sa (sa σ 11 h) 13 g := by
  unfold sa
  refine Prod.ext ?_ rfl
  funext j
  dsimp only
  by_cases e1 : j = 11
  · subst e1; rfl
  · rw [if_neg e1, if_neg e1, if_neg e1]
