section RT
variable {c : Nat} {σ τ : ST}
theorem rel_kids (hI : iAll c σ) (hB : jB σ τ) {k : Nat} (k1 : 1 ≤ k) (k2 : k ≤ σ.2.1 0) : u_kids σ k = m_kids τ k := by
  have hn := hI.n
  unfold u_kids m_kids
  rw [hB.2.2.2.2.1, hB.act, hB.2.2.1]
  refine pq_cnt_congr (fun u hu => ?_)
  rw [u_act_n hI (show u ≤ 150 by omega), decide_eq_true (show u ≤ σ.2.1 0 by omega)]
  by_cases h1 : 1 ≤ u
  · rw [decide_eq_true h1]
    by_cases e : σ.1 0 u = nI k
    · obtain ⟨p1, p2⟩ := hI.1.1.2 u h1 (by omega)
      have hq : uQ σ u = k := by unfold uQ; rw [e, nI_clamp (by omega)]
      rw [decide_eq_true e, decide_eq_true (show k < u by omega)]
      simp
    · rw [decide_eq_false e]; simp
  · rw [decide_eq_false h1, decide_eq_false (show ¬ k < u by omega)]; rfl
theorem rel_marks (hI : iAll c σ) (hB : jB σ τ) (hM : jM σ τ) {k : Nat} (k2 : k ≤ 150) : u_marks σ (nI k) = m_marks τ (nI k) := by
  unfold u_marks m_marks
  rw [hB.2.2.2.2.2]
  refine pq_cnt_congr (fun r hr => ?_)
  unfold m_mst
  rw [hM r hr]
  by_cases e : τ.1 9 r = 0
  · rw [if_pos e, decide_eq_true e, decide_eq_false (fun z => pq_nI_m1 (show k < 2 ^ 31 by omega) z.symm)]; simp
  · rw [if_neg e, decide_eq_false e]; simp
theorem rel_mw (hW : jW σ τ) {k w : Nat} (hk : k ≤ 150) (hw : w < 520) : m_mw τ k w = (u_last σ k w).isSome := by
  unfold m_mw
  cases h : u_last σ k w with
  | none => rw [decide_eq_true ((rel_wr0 hW hk hw).mpr h)]; rfl
  | some r => rw [decide_eq_false (fun z => by rw [(rel_wr0 hW hk hw).mp z] at h; cases h)]; rfl
theorem u_last_slot (hI : iAll c σ) {k w r : Nat} (hk : k ≤ 150) (h : u_last σ k w = some r) (hw : w < 2 ^ 31) : w < σ.2.1 1 := by
  obtain ⟨r1, r2, -⟩ := pq_lst_some.mp h
  obtain ⟨-, o2⟩ := pq_own_iff.mp r2
  obtain ⟨s, s1, s2⟩ := (hI.2.2.1 r r1).2.1
  have hc := hI.2.1
  have c1 := hc.1
  have c2 := hc.2.1
  have := pq_nI_inj hw (show s < 2 ^ 31 by omega) (o2.symm.trans s2)
  omega
theorem rel_keys (hI : iAll c σ) (hW : jW σ τ) {k : Nat} (hk : k ≤ 150) : u_keys σ (nI k) = pq_cnt (m_mw τ k) 520 := by
  have hc := hI.2.1
  have c1 := hc.1
  have c2 := hc.2.1
  rw [show (520 : Nat) = 512 + 8 from rfl, pq_cnt_tail (n := 512) (k := 8) (fun j h1 h2 => ?_)]
  · exact pq_cnt_congr (fun s hs => (rel_mw hW hk (by omega)).symm)
  · rw [rel_mw hW hk (by omega)]
    cases h : u_last σ k j with
    | none => rfl
    | some r => have := u_last_slot hI hk h (by omega); omega
theorem rel_holds (hI : iAll c σ) (hH : jH σ τ) {k : Nat} (k1 : 1 ≤ k) (hk : k ≤ 150) {x : Int32} (hx : ¬ x = 0) : u_holds σ (nI k) x = pq_cnt (fun q => decide (τ.1 3 (520 * k + q) = x)) 520 := by
  have hU := hI.2.2.2.2.2.1
  have hc := hI.2.1
  have c1 := hc.1
  have c2 := hc.2.1
  have key : ∀ i, i ≤ σ.2.1 3 → pq_cnt (fun r => decide (σ.1 11 r = nI k) && decide (σ.1 13 r = x)) i = pq_cnt (fun q => (pq_fst (fun r => decide (σ.1 11 r = nI k) && decide (σ.1 12 r = nI q) && decide (σ.1 13 r = x)) i).isSome) 520 := by
    intro i
    induction i with
    | zero => intro _; exact (pq_cnt_zero (fun j _ => rfl)).symm
    | succ i ih =>
      intro hi
      obtain ⟨s, s1, s2⟩ := (hI.2.2.2.2.1 i (by omega)).2.1
      by_cases e : (decide (σ.1 11 i = nI k) && decide (σ.1 13 i = x)) = true
      · rw [pq_cnt_t (n := i) e, ih (by omega)]
        rw [Bool.and_eq_true, decide_eq_true_eq, decide_eq_true_eq] at e
        refine (pq_cnt_add (s := s) (by omega) ?_ (fun j hj => ?_)).symm
        · cases hf : pq_fst (fun r => decide (σ.1 11 r = nI k) && decide (σ.1 12 r = nI s) && decide (σ.1 13 r = x)) i with
          | none => rfl
          | some q =>
            obtain ⟨q1, q2, -⟩ := pq_fst_some.mp hf
            rw [Bool.and_eq_true, Bool.and_eq_true, decide_eq_true_eq, decide_eq_true_eq, decide_eq_true_eq] at q2
            have := hU q i (by omega) (by omega) (q2.1.1.trans e.1.symm) (by rw [q2.1.1]; exact pq_nI_m1 (by omega)) (q2.1.2.trans s2.symm)
            omega
        · simp only [pq_fst]
          cases hf : pq_fst (fun r => decide (σ.1 11 r = nI k) && decide (σ.1 12 r = nI j) && decide (σ.1 13 r = x)) i with
          | some q => rfl
          | none =>
            show (if (decide (σ.1 11 i = nI k) && decide (σ.1 12 i = nI j) && decide (σ.1 13 i = x)) = true then some i else none).isSome = (false || decide (j = s))
            by_cases e2 : j = s
            · rw [if_pos (by rw [decide_eq_true e.1, decide_eq_true e.2, s2, e2]; simp), decide_eq_true e2]; rfl
            · rw [if_neg (by rw [s2, decide_eq_false (fun z => e2 (pq_nI_inj (by omega) (by omega) z).symm)]; simp), decide_eq_false e2]; rfl
      · rw [pq_cnt_f (n := i) (by simpa using e), ih (by omega)]
        refine pq_cnt_congr (fun j hj => ?_)
        rw [pq_fst_f (n := i)]
        have e3 : (decide (σ.1 11 i = nI k) && decide (σ.1 13 i = x)) = false := by simpa using e
        cases h1 : decide (σ.1 11 i = nI k) with
        | false => rfl
        | true => rw [h1, Bool.true_and] at e3; rw [e3]; simp
  unfold u_holds
  rw [key _ (Nat.le_refl _)]
  refine pq_cnt_congr (fun w hw => ?_)
  rw [hH k w k1 hk hw]
  unfold u_kind
  cases hr : u_hrow σ (nI k) (nI w) with
  | none =>
    rw [decide_eq_false (fun z => hx z.symm)]
    rw [pq_fst_none.mpr]
    · rfl
    · intro j hj
      have h5 := u_hrow_none.mp hr j hj
      by_cases e : σ.1 11 j = nI k
      · rw [decide_eq_false (h5 e)]; simp
      · rw [decide_eq_false e]; rfl
  | some q =>
    obtain ⟨q1, q2, q3⟩ := u_hrow_lt hr
    by_cases e : σ.1 13 q = x
    · rw [decide_eq_true e]
      have : pq_fst (fun r => decide (σ.1 11 r = nI k) && decide (σ.1 12 r = nI w) && decide (σ.1 13 r = x)) (σ.2.1 3) ≠ none := fun z => by
        have := pq_fst_none.mp z q q1
        rw [decide_eq_true q2, decide_eq_true q3, decide_eq_true e] at this
        cases this
      exact Option.isSome_iff_ne_none.mpr this
    · rw [decide_eq_false e, pq_fst_none.mpr]
      · rfl
      · intro j hj
        by_cases e1 : σ.1 11 j = nI k
        · by_cases e2 : σ.1 12 j = nI w
          · have := hU j q hj q1 (e1.trans q2.symm) (by rw [e1]; exact pq_nI_m1 (by omega)) (e2.trans q3.symm)
            subst this
            rw [decide_eq_false e]; simp
          · rw [decide_eq_false e2]; simp
        · rw [decide_eq_false e1]; rfl
theorem rel_told (hI : iAll c σ) (hB : jB σ τ) (hW : jW σ τ) (hH : jH σ τ) (hM : jM σ τ) (t w : Int32) : u_told σ t w = m_told τ t w := by
  unfold u_told m_told
  rw [hB.2.2.2.2.1]
  by_cases h : pq_ex (σ.2.1 0) t = true
  · rw [if_pos h, if_pos h]
    have hn := hI.n
    obtain ⟨k, k1, k2, rfl⟩ := (pq_ex_iff (by omega)).mp h
    rw [nI_clamp (by omega), hB.2.2.1, rel_kids hI hB k1 k2, rel_marks hI hB hM (by omega), rel_keys hI hW (by omega), rel_holds hI hH k1 (by omega) (by decide), rel_holds hI hH k1 (by omega) (by decide)]
  · rw [if_neg h, if_neg h]
theorem pq_cl_congr {E E' : Nat → Nat → Bool} {n : Nat} (h : ∀ a b, 1 ≤ a → a ≤ n → 1 ≤ b → b ≤ n → E a b = E' a b) : ∀ k, k ≤ n → ∀ a b, 1 ≤ a → a ≤ n → 1 ≤ b → b ≤ n → pq_cl E k a b = pq_cl E' k a b := by
  intro k
  induction k with
  | zero => intro _ a b a1 a2 b1 b2; exact h a b a1 a2 b1 b2
  | succ k ih =>
    intro hk a b a1 a2 b1 b2
    simp only [pq_cl]
    rw [ih (by omega) a b a1 a2 b1 b2, ih (by omega) a (k + 1) a1 a2 (by omega) hk, ih (by omega) (k + 1) b (by omega) hk b1 b2]
theorem pq_cl_out {E : Nat → Nat → Bool} : ∀ (k a b : Nat), pq_cl E k a b = true → ∃ v, E a v = true := by
  intro k
  induction k with
  | zero => intro a b h; exact ⟨b, h⟩
  | succ k ih =>
    intro a b h
    simp only [pq_cl, Bool.or_eq_true, Bool.and_eq_true] at h
    rcases h with h | ⟨h, -⟩
    · exact ih a b h
    · exact ih a (k + 1) h
theorem rel_edge (hI : iAll c σ) (hB : jB σ τ) (hH : jH σ τ) (hQ : jQ σ τ) {a b : Nat} (a1 : 1 ≤ a) (a2 : a ≤ σ.2.1 0) (b1 : 1 ≤ b) (b2 : b ≤ σ.2.1 0) : u_edge σ a b = m_edge τ a b := by
  have hn := hI.n
  unfold m_edge
  rw [hB.act, u_act_n hI (by omega), decide_eq_true a1, decide_eq_true a2]
  unfold u_edge
  by_cases hst : σ.1 1 a = 0
  · rw [decide_eq_true hst]
    rcases rel_wish hI hB hQ a1 a2 hst with ⟨e1, e2⟩ | ⟨s, s1, s2, s3, s4, s5⟩
    · rw [decide_eq_true e1, e2]; rfl
    · rw [decide_eq_false s2, s4]
      have h := rel_way hI hB hH (y := m_wy τ a) a1 a2 (show s < 520 by omega) b1 b2
      rw [s3, s5]
      rw [Bool.eq_iff_iff]
      simp only [Bool.not_false, Bool.true_and]
      rw [h, Option.isSome_iff_ne_none, ne_eq, pq_fst_none]
      constructor
      · intro hz
        apply Classical.byContradiction
        intro hne
        refine hz (fun j hj => ?_)
        cases q : (u_way σ a (nI s) (if m_wy τ a = true then 2 else 1) j && decide (σ.1 11 j = nI b)) with
        | false => rfl
        | true =>
          rw [Bool.and_eq_true, decide_eq_true_eq] at q
          exact absurd ⟨j, hj, q.1, q.2⟩ hne
      · rintro ⟨r, r1, r2, r3⟩ hz
        have := hz r r1
        rw [r2, decide_eq_true r3] at this
        cases this
  · rw [decide_eq_false hst]
    rcases hI.2.2.2.2.2.2.2.2 a a1 (by omega) with e | ⟨-, e, -⟩
    · rw [decide_eq_true e]; rfl
    · exact absurd e hst
theorem rel_ring (hI : iAll c σ) (hB : jB σ τ) (hH : jH σ τ) (hQ : jQ σ τ) : u_ring σ = m_ring τ := by
  have hn := hI.n
  unfold u_ring m_ring
  rw [hB.2.2.2.2.1]
  have key : ∀ j, j < σ.2.1 0 → pq_cl (u_edge σ) (σ.2.1 0) (j + 1) (j + 1) = (m_act τ (nI (j + 1)) && pq_cl (m_edge τ) (σ.2.1 0) (j + 1) (j + 1)) := by
    intro j hj
    have hc := pq_cl_congr (E := u_edge σ) (E' := m_edge τ) (n := σ.2.1 0) (fun a b a1 a2 b1 b2 => rel_edge hI hB hH hQ a1 a2 b1 b2) (σ.2.1 0) (Nat.le_refl _) (j + 1) (j + 1) (by omega) (by omega) (by omega) (by omega)
    rw [hc]
    cases h : pq_cl (m_edge τ) (σ.2.1 0) (j + 1) (j + 1) with
    | false => simp
    | true =>
      obtain ⟨v, hv⟩ := pq_cl_out _ _ _ h
      unfold m_edge at hv
      rw [Bool.and_eq_true] at hv
      rw [hv.1]; rfl
  rw [pq_fst_congr key]
  rfl
end RT
