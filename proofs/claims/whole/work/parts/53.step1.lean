section S1
variable {c : Nat} {σ τ : ST} {t x : Int32}
theorem iAll.uEq {σ' : ST} (h : uEq σ σ') (hI : iAll c σ) : iAll c σ' := by
  obtain ⟨⟨f1, f2⟩, h2, h3, h4, h5, h6, h7, h8, h9⟩ := hI
  refine ⟨⟨h.F f1, ?_⟩, ?_, ?_, ?_, ?_, h.U h6, ?_, ?_, ?_⟩
  · rw [h.Q, h.a 1 rfl, h.1]; exact f2
  · unfold iC; rw [h.1]; exact h2
  · unfold iW; rw [h.a 4 rfl, h.a 1 rfl, h.a 5 rfl, h.a 7 rfl, h.a 8 rfl, h.1]; exact h3
  · unfold iO; rw [h.Q, h.a 4 rfl, h.a 5 rfl, h.1]; exact h4
  · unfold iH; rw [h.a 11 rfl, h.a 1 rfl, h.a 12 rfl, h.a 13 rfl, h.1]; exact h5
  · unfold iG; rw [h.a 4 rfl, h.a 5 rfl, h.a 11 rfl, h.a 12 rfl, h.a 13 rfl, h.1]; exact h7
  · unfold iM; rw [h.a 14 rfl, h.a 1 rfl, h.1]; exact h8
  · unfold iQ; rw [h.a 15 rfl, h.a 16 rfl, h.a 1 rfl, h.1]; exact h9
theorem uEq.wr {σ' : ST} (h : uEq σ σ') : u_wr σ' = u_wr σ := by
  funext x
  cases x with
  | none => rfl
  | some r => simp only [u_wr]; rw [h.a 6 rfl, h.a 7 rfl]
theorem uEq.own {σ' : ST} (h : uEq σ σ') : pq_own σ' = pq_own σ := by funext t s r; unfold pq_own; rw [h.a 4 rfl, h.a 5 rfl]
theorem jAll.uEq {σ' : ST} (h : uEq σ σ') (hJ : jAll σ τ) : jAll σ' τ := by
  obtain ⟨h1, h2, h3, h4, h5, h6, h7, h8, h9⟩ := hJ
  refine ⟨?_, ?_, ?_, ?_, ?_, ?_, h7, h8, h9⟩
  · unfold jB; rw [h.a 3 rfl, h.a 0 rfl, h.a 1 rfl, h.1]; exact h1
  · unfold jW u_last; rw [h.wr, h.own, h.1]; exact h2
  · unfold jH u_kind; rw [h.hrow, h.a 13 rfl]; exact h3
  · unfold jM; rw [h.a 14 rfl, h.1]; exact h4
  · unfold jO u_old; rw [h.wr, h.own, h.a 14 rfl, h.a 8 rfl, h.1]; exact h5
  · unfold jQ; rw [h.a 15 rfl, h.a 16 rfl, h.a 1 rfl, h.1]; exact h6
theorem Rel.uEq {σ' : ST} (h : uEq σ σ') (hR : Rel c σ τ) : Rel c σ' τ := ⟨hR.1.uEq h, hR.2.uEq h⟩
theorem Rel.re (hR : Rel c σ τ) (f : Nat → Int32) : Rel c σ (sa τ 12 f) := hR
theorem iC.up (h : iC c σ) (hc : c < 512) : iC (c + 1) σ := by obtain ⟨h1, h2, h3, h4, h5⟩ := h; exact ⟨by omega, by omega, by omega, by omega, by omega⟩
theorem Rel.up (hR : Rel c σ τ) (hc : c < 512) : Rel (c + 1) σ τ := ⟨⟨hR.1.1, hR.1.2.1.up hc, hR.1.2.2⟩, hR.2⟩
/-- a key gets its slot, in both alike -/
theorem rel_reg (hR : Rel c σ τ) (hc : c < 512) (key : Int32) : (m_reg τ key).2 = (u_reg σ key).2 ∧ Rel (c + 1) (u_reg σ key).1 (m_reg τ key).1 := by
  have hB := hR.2.1
  unfold u_reg m_reg
  rw [hB.find]
  cases hf : u_find σ key with
  | some i => exact ⟨rfl, hR.up hc⟩
  | none =>
    refine ⟨hB.2.1, ?_⟩
    obtain ⟨⟨f1, ⟨c1, c2, c3, c4, c5⟩, h3, h4, h5, h6, h7, h8, h9⟩, b1, j2, j3, j4, j5, j6, j7, j8, j9⟩ := hR
    refine ⟨⟨f1, ⟨by omega, ?_, ?_, ?_, ?_⟩, ?_, h4, ?_, h6, h7, h8, ?_⟩, ⟨?_, ?_, b1.2.2⟩, j2, j3, j4, j5, j6, j7, j8, ?_, j9.2⟩
    · show σ.2.1 1 + 1 ≤ c + 1; omega
    · show σ.2.1 2 ≤ c + 1; omega
    · show σ.2.1 3 ≤ c + 1; omega
    · show σ.2.1 4 ≤ c + 1; omega
    · intro r hr
      obtain ⟨q1, ⟨s, s1, s2⟩, q3⟩ := h3 r hr
      exact ⟨q1, ⟨s, Nat.lt_succ_of_lt s1, s2⟩, q3⟩
    · intro r hr
      obtain ⟨q1, ⟨s, s1, s2⟩, q3⟩ := h5 r hr
      exact ⟨q1, ⟨s, Nat.lt_succ_of_lt s1, s2⟩, q3⟩
    · intro t t1 t2
      rcases h9 t t1 t2 with e | ⟨e1, e2, e3, s, s1, s2⟩
      · exact Or.inl e
      · exact Or.inr ⟨e1, e2, e3, s, Nat.lt_succ_of_lt s1, s2⟩
    · show upd (τ.1 0) (τ.2.1 0) key = upd (σ.1 3) (σ.2.1 1) key
      rw [b1.1, b1.2.1]
    · show τ.2.1 0 + 1 = σ.2.1 1 + 1
      rw [b1.2.1]
    · intro k k1 k2
      rcases j9.1 k k1 k2 with e | ⟨w, w1, w2⟩
      · exact Or.inl e
      · exact Or.inr ⟨w, Nat.lt_succ_of_lt w1, w2⟩
/-- waiting, in both alike -/
theorem rel_wishing (hR : Rel c σ τ) {k s : Nat} {y : Bool} (k1 : 1 ≤ k) (k2 : k ≤ σ.2.1 0) (k3 : σ.1 1 k = 0) (hs : s < σ.2.1 1) (hl : ¬ m_fst τ k s y = 0) : Rel c (u_wish σ k (nI s) (if y = true then 2 else 1)) (m_may τ k s y) := by
  have hn := hR.1.n
  have hm : m_may τ k s y = sa (sa τ 6 (upd (τ.1 6) k (nI s))) 7 (upd (τ.1 7) k (pq_b y)) := if_neg hl
  rw [hm]
  obtain ⟨⟨f1, hc, h3, h4, h5, h6, h7, h8, h9⟩, b1, j2, j3, j4, j5, j6, j7, j8, j9⟩ := hR
  have hy : ¬ (if y = true then (2 : Int32) else 1) = 0 := by cases y <;> decide
  refine ⟨⟨f1, hc, h3, h4, h5, h6, h7, h8, ?_⟩, b1, j2, j3, j4, j5, ?_, j7, j8, ?_, ?_⟩
  · intro t t1 t2
    show upd (σ.1 16) k _ t = 0 ∨ (t ≤ σ.2.1 0 ∧ σ.1 1 t = 0 ∧ (upd (σ.1 16) k _ t = 1 ∨ upd (σ.1 16) k _ t = 2) ∧ ∃ s', s' < σ.2.1 1 ∧ upd (σ.1 15) k _ t = nI s')
    by_cases e : t = k
    · subst e
      rw [upd_eq, upd_eq]
      exact Or.inr ⟨k2, k3, by cases y <;> simp, s, hs, rfl⟩
    · rw [upd_ne _ _ e, upd_ne _ _ e]
      exact h9 t t1 t2
  · intro t t1 t2 t3
    show (upd (τ.1 6) k _ t = if upd (σ.1 16) k _ t = 0 then -1 else upd (σ.1 15) k _ t) ∧ (¬ upd (σ.1 16) k _ t = 0 → upd (τ.1 7) k _ t = if upd (σ.1 16) k _ t = 2 then 1 else 0)
    by_cases e : t = k
    · subst e
      rw [upd_eq, upd_eq, upd_eq, upd_eq, if_neg hy]
      exact ⟨rfl, fun _ => by cases y <;> rfl⟩
    · rw [upd_ne _ _ e, upd_ne _ _ e, upd_ne _ _ e, upd_ne _ _ e]
      exact j6 t t1 t2 t3
  · intro q q1 q2
    show upd (τ.1 6) k _ q = -1 ∨ ∃ w, w < τ.2.1 0 ∧ upd (τ.1 6) k _ q = nI w
    by_cases e : q = k
    · rw [e, upd_eq]; exact Or.inr ⟨s, by rw [b1.2.1]; exact hs, rfl⟩
    · rw [upd_ne _ _ e]; exact j9.1 q q1 q2
  · intro q
    show upd (τ.1 7) k _ q = 0 ∨ upd (τ.1 7) k _ q = 1
    by_cases e : q = k
    · rw [e, upd_eq]; cases y <;> simp [pq_b]
    · rw [upd_ne _ _ e]; exact j9.2 q
theorem u_kind_range (hI : iAll c σ) (t x : Int32) : u_kind σ t x = 0 ∨ u_kind σ t x = 1 ∨ u_kind σ t x = 2 := by
  unfold u_kind
  cases h : u_hrow σ t x with
  | none => exact Or.inl rfl
  | some q => exact Or.inr (hI.2.2.2.2.1 q (u_hrow_lt h).1).2.2
theorem u_hrow_push (hr : u_hrow σ t x = none) (t' x' y : Int32) : u_hrow (sf (sa (sa (sa σ 11 (upd (σ.1 11) (σ.2.1 3) t)) 12 (upd (σ.1 12) (σ.2.1 3) x)) 13 (upd (σ.1 13) (σ.2.1 3) y)) 3 (σ.2.1 3 + 1)) t' x' = (match u_hrow σ t' x' with
    | some r => some r
    | none => if (decide (t = t') && decide (x = x')) = true then some (σ.2.1 3) else none) := by
  show pq_fst (fun r => decide (upd (σ.1 11) (σ.2.1 3) t r = t') && decide (upd (σ.1 12) (σ.2.1 3) x r = x')) (σ.2.1 3 + 1) = _
  have e : pq_fst (fun r => decide (upd (σ.1 11) (σ.2.1 3) t r = t') && decide (upd (σ.1 12) (σ.2.1 3) x r = x')) (σ.2.1 3) = u_hrow σ t' x' := pq_fst_congr (fun r hr => by rw [upd_ne _ _ (by omega), upd_ne _ _ (by omega)])
  simp only [pq_fst]
  rw [e]
  cases u_hrow σ t' x' with
  | some r => rfl
  | none =>
    show (if (decide (upd (σ.1 11) (σ.2.1 3) t (σ.2.1 3) = t') && decide (upd (σ.1 12) (σ.2.1 3) x (σ.2.1 3) = x')) = true then some (σ.2.1 3) else none) = (if (decide (t = t') && decide (x = x')) = true then some (σ.2.1 3) else none)
    simp only [upd_eq]
theorem u_hold_kind {k s : Nat} (hk : k ≤ 150) (hs : s < 2 ^ 31) {y : Int32} (hy : 0 < y) (t' s' : Nat) (ht' : t' ≤ 150) (hs' : s' < 2 ^ 31) : u_kind (u_hold σ (nI k) (nI s) y) (nI t') (nI s') = if t' = k ∧ s' = s then (if u_kind σ (nI k) (nI s) < y then y else u_kind σ (nI k) (nI s)) else u_kind σ (nI t') (nI s') := by
  cases hr : u_hrow σ (nI k) (nI s) with
  | some q =>
    obtain ⟨q1, q2, q3⟩ := u_hrow_lt hr
    have hk0 : u_kind σ (nI k) (nI s) = σ.1 13 q := by unfold u_kind; rw [hr]
    have hh : u_hold σ (nI k) (nI s) y = sa σ 13 (upd (σ.1 13) q (if σ.1 13 q < y then y else σ.1 13 q)) := by unfold u_hold; rw [hr]
    rw [hh, hk0]
    have hu : ∀ f, u_kind (sa σ 13 f) (nI t') (nI s') = (match u_hrow σ (nI t') (nI s') with
      | none => 0
      | some r => f r) := fun f => rfl
    rw [hu]
    by_cases e : t' = k ∧ s' = s
    · rw [if_pos e, e.1, e.2, hr]
      show upd _ q _ q = _
      rw [upd_eq]
    · rw [if_neg e]
      unfold u_kind
      cases hr2 : u_hrow σ (nI t') (nI s') with
      | none => rfl
      | some r =>
        obtain ⟨r1, r2, r3⟩ := u_hrow_lt hr2
        have hne : r ≠ q := fun z => by
          subst z
          exact e ⟨pq_nI_inj (by omega) (by omega) (r2.symm.trans q2), pq_nI_inj hs' hs (r3.symm.trans q3)⟩
        show upd _ q _ r = _
        rw [upd_ne _ _ hne]
  | none =>
    have hk0 : u_kind σ (nI k) (nI s) = 0 := by unfold u_kind; rw [hr]
    have hh : u_hold σ (nI k) (nI s) y = sf (sa (sa (sa σ 11 (upd (σ.1 11) (σ.2.1 3) (nI k))) 12 (upd (σ.1 12) (σ.2.1 3) (nI s))) 13 (upd (σ.1 13) (σ.2.1 3) y)) 3 (σ.2.1 3 + 1) := by unfold u_hold; rw [hr]
    rw [hh, hk0, if_pos hy]
    unfold u_kind
    rw [u_hrow_push hr]
    by_cases e : t' = k ∧ s' = s
    · rw [if_pos e, e.1, e.2, hr]
      simp only []
      rw [if_pos (by simp)]
      show upd _ _ _ _ = _
      rw [upd_eq]
    · rw [if_neg e]
      cases hr2 : u_hrow σ (nI t') (nI s') with
      | some r =>
        have r1 := (u_hrow_lt hr2).1
        show upd _ _ _ r = _
        rw [upd_ne _ _ (by omega)]
      | none =>
        simp only []
        rw [if_neg]
        rw [Bool.and_eq_true, decide_eq_true_eq, decide_eq_true_eq]
        rintro ⟨z1, z2⟩
        exact e ⟨(pq_nI_inj (by omega) (by omega) z1).symm, (pq_nI_inj hs hs' z2).symm⟩
theorem rel_calm (hR : Rel c σ τ) {k : Nat} (y : Bool) (k1 : 1 ≤ k) (k2 : k ≤ σ.2.1 0) : Rel c (u_calm σ k) (sa (sa τ 6 (upd (τ.1 6) k (-1))) 7 (upd (τ.1 7) k (pq_b y))) := by
  obtain ⟨⟨f1, hc, h3, h4, h5, h6, h7, h8, h9⟩, b1, j2, j3, j4, j5, j6, j7, j8, j9⟩ := hR
  refine ⟨⟨f1, hc, h3, h4, h5, h6, h7, h8, ?_⟩, b1, j2, j3, j4, j5, ?_, j7, j8, ?_, ?_⟩
  · intro t t1 t2
    show upd (σ.1 16) k 0 t = 0 ∨ (t ≤ σ.2.1 0 ∧ σ.1 1 t = 0 ∧ (upd (σ.1 16) k 0 t = 1 ∨ upd (σ.1 16) k 0 t = 2) ∧ ∃ s', s' < σ.2.1 1 ∧ σ.1 15 t = nI s')
    by_cases e : t = k
    · rw [e, upd_eq]; exact Or.inl rfl
    · rw [upd_ne _ _ e]; exact h9 t t1 t2
  · intro t t1 t2 t3
    show (upd (τ.1 6) k _ t = if upd (σ.1 16) k 0 t = 0 then -1 else σ.1 15 t) ∧ (¬ upd (σ.1 16) k 0 t = 0 → upd (τ.1 7) k _ t = if upd (σ.1 16) k 0 t = 2 then 1 else 0)
    by_cases e : t = k
    · subst e
      rw [upd_eq, upd_eq, upd_eq, if_pos rfl]
      exact ⟨rfl, fun z => absurd rfl z⟩
    · rw [upd_ne _ _ e, upd_ne _ _ e, upd_ne _ _ e]
      exact j6 t t1 t2 t3
  · intro q q1 q2
    show upd (τ.1 6) k _ q = -1 ∨ ∃ w, w < τ.2.1 0 ∧ upd (τ.1 6) k _ q = nI w
    by_cases e : q = k
    · rw [e, upd_eq]; exact Or.inl rfl
    · rw [upd_ne _ _ e]; exact j9.1 q q1 q2
  · intro q
    show upd (τ.1 7) k _ q = 0 ∨ upd (τ.1 7) k _ q = 1
    by_cases e : q = k
    · rw [e, upd_eq]; cases y <;> simp [pq_b]
    · rw [upd_ne _ _ e]; exact j9.2 q
/-- holding a key, in both alike -/
theorem rel_hold (hR : Rel c σ τ) (hh : σ.2.1 3 < c) {k s : Nat} {y : Bool} (k1 : 1 ≤ k) (k2 : k ≤ σ.2.1 0) (k3 : σ.1 1 k = 0) (hs : s < σ.2.1 1) : Rel c (u_hold σ (nI k) (nI s) (if y = true then 2 else 1)) (sa τ 3 (upd (τ.1 3) (520 * k + s) (m_hk τ (520 * k + s) y))) := by
  have hn := hR.1.n
  have hI := hR.1
  obtain ⟨⟨f1, ⟨c1, c2, c3, c4, c5⟩, h3, h4, h5, h6, h7, h8, h9⟩, b1, j2, j3, j4, j5, j6, j7, j8, j9⟩ := hR
  have hy0 : (0 : Int32) < (if y = true then 2 else 1) := by cases y <;> decide
  have hy12 : (if y = true then (2 : Int32) else 1) = 1 ∨ (if y = true then (2 : Int32) else 1) = 2 := by cases y <;> simp
  have hkd := u_kind_range hI (nI k) (nI s)
  have hJ : jH (u_hold σ (nI k) (nI s) (if y = true then 2 else 1)) (sa τ 3 (upd (τ.1 3) (520 * k + s) (m_hk τ (520 * k + s) y))) := by
    intro t' s' t1 t2 s1
    rw [u_hold_kind (by omega) (by omega) hy0 t' s' (by omega) (by omega)]
    show upd (τ.1 3) (520 * k + s) _ (520 * t' + s') = _
    by_cases e : t' = k ∧ s' = s
    · rw [if_pos e, e.1, e.2, upd_eq]
      unfold m_hk
      rw [j3 k s k1 (by omega) (by omega)]
      cases y with
      | true => rcases hkd with q | q | q <;> (rw [q]; decide)
      | false => rcases hkd with q | q | q <;> (rw [q]; decide)
    · rw [if_neg e, upd_ne _ _ (by omega)]
      exact j3 t' s' t1 t2 s1
  have hX : mB (sa τ 3 (upd (τ.1 3) (520 * k + s) (m_hk τ (520 * k + s) y))) := by
    intro i
    refine ⟨(j7 i).1, ?_, (j7 i).2.2⟩
    show vp_nar .byte (upd (τ.1 3) _ _ i) = upd (τ.1 3) _ _ i
    rw [upd_at]
    split
    · exact m_hk_nar τ _ y
    · exact (j7 i).2.1
  unfold u_hold at hJ ⊢
  cases hr : u_hrow σ (nI k) (nI s) with
  | some q =>
    rw [hr] at hJ
    obtain ⟨q1, q2, q3⟩ := u_hrow_lt hr
    refine ⟨⟨f1, ⟨c1, c2, c3, c4, c5⟩, h3, h4, ?_, h6, ?_, h8, h9⟩, b1, j2, hJ, j4, j5, j6, hX, j8, j9⟩
    · intro r hr
      obtain ⟨g1, g2, g3⟩ := h5 r hr
      refine ⟨g1, g2, ?_⟩
      show upd (σ.1 13) q _ r = 1 ∨ upd (σ.1 13) q _ r = 2
      rw [upd_at]
      split
      · rcases (h5 q q1).2.2 with g | g
        · rw [g]; cases y <;> decide
        · rw [g]; cases y <;> decide
      · exact g3
    · intro r o r1 o1 o2 o3
      obtain ⟨p, p1, p2, p3, p4⟩ := h7 r o r1 o1 o2 o3
      refine ⟨p, p1, p2, p3, ?_⟩
      show upd (σ.1 13) q _ p = 2
      rw [upd_at]
      split
      · next e =>
        rw [← e, p4]
        cases y <;> decide
      · exact p4
  | none =>
    rw [hr] at hJ
    have hnone := u_hrow_none.mp hr
    refine ⟨⟨f1, ⟨c1, c2, c3, ?_, c5⟩, h3, h4, ?_, ?_, ?_, h8, h9⟩, b1, j2, hJ, j4, j5, j6, hX, j8, j9⟩
    · show σ.2.1 3 + 1 ≤ c; omega
    · intro r hr2
      show (upd (σ.1 11) (σ.2.1 3) _ r = -1 ∨ ∃ o, 1 ≤ o ∧ o ≤ σ.2.1 0 ∧ upd (σ.1 11) (σ.2.1 3) _ r = nI o ∧ σ.1 1 o = 0) ∧ (∃ s', s' < σ.2.1 1 ∧ upd (σ.1 12) (σ.2.1 3) _ r = nI s') ∧ (upd (σ.1 13) (σ.2.1 3) _ r = 1 ∨ upd (σ.1 13) (σ.2.1 3) _ r = 2)
      have hr2 : r < σ.2.1 3 + 1 := hr2
      by_cases e : r = σ.2.1 3
      · rw [e, upd_eq, upd_eq, upd_eq]
        exact ⟨Or.inr ⟨k, k1, k2, rfl, k3⟩, ⟨s, hs, rfl⟩, hy12⟩
      · rw [upd_ne _ _ e, upd_ne _ _ e, upd_ne _ _ e]
        exact h5 r (by omega)
    · intro r q hr2 hq2 z1 z2 z3
      have hr2 : r < σ.2.1 3 + 1 := hr2
      have hq2 : q < σ.2.1 3 + 1 := hq2
      have z1 : upd (σ.1 11) (σ.2.1 3) (nI k) r = upd (σ.1 11) (σ.2.1 3) (nI k) q := z1
      have z2 : ¬ upd (σ.1 11) (σ.2.1 3) (nI k) r = -1 := z2
      have z3 : upd (σ.1 12) (σ.2.1 3) (nI s) r = upd (σ.1 12) (σ.2.1 3) (nI s) q := z3
      by_cases e : r = σ.2.1 3
      · by_cases e2 : q = σ.2.1 3
        · omega
        · rw [e, upd_eq, upd_ne _ _ e2] at z1 z3
          exact absurd z3.symm (hnone q (by omega) z1.symm)
      · by_cases e2 : q = σ.2.1 3
        · rw [e2, upd_eq, upd_ne _ _ e] at z1 z3
          exact absurd z3 (hnone r (by omega) z1)
        · rw [upd_ne _ _ e] at z1 z2 z3
          rw [upd_ne _ _ e2] at z1 z3
          exact h6 r q (by omega) (by omega) z1 z2 z3
    · intro r o r1 o1 o2 o3
      obtain ⟨p, p1, p2, p3, p4⟩ := h7 r o r1 o1 o2 o3
      refine ⟨p, Nat.lt_succ_of_lt p1, ?_, ?_, ?_⟩
      · show upd (σ.1 11) (σ.2.1 3) _ p = _
        rw [upd_ne _ _ (by omega)]; exact p2
      · show upd (σ.1 12) (σ.2.1 3) _ p = _
        rw [upd_ne _ _ (by omega)]; exact p3
      · show upd (σ.1 13) (σ.2.1 3) _ p = _
        rw [upd_ne _ _ (by omega)]; exact p4
end S1
