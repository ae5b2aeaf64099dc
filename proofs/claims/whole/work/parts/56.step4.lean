section S4
variable {c : Nat} {σ τ : ST}
theorem rel_mst (hM : jM σ τ) {k r : Nat} (hk : k ≤ 150) (hr : r < σ.2.1 4) : decide (σ.1 14 r = nI k) = m_mst τ (nI k) r := by
  unfold m_mst
  rw [hM r hr]
  by_cases e : τ.1 9 r = 0
  · rw [if_pos e, decide_eq_true e, decide_eq_false (fun z => pq_nI_m1 (show k < 2 ^ 31 by omega) z.symm)]; simp
  · rw [if_neg e, decide_eq_false e]; simp
theorem rel_can (hI : iAll c σ) (hB : jB σ τ) (t : Int32) : u_can σ t = m_can τ t := by
  unfold u_can m_can
  rw [hB.act]
  cases h : u_act σ t with
  | false => rfl
  | true =>
    obtain ⟨k, k1, k2, rfl, k3⟩ := (u_act_iff hI.1.1).mp h
    have hn := hI.n
    rw [nI_clamp (by omega), rel_kids hI hB k1 k2]
theorem rel_mrow (hB : jB σ τ) (hM : jM σ τ) {k : Nat} (hk : k ≤ 150) (x : Int32) : u_mrow σ (nI k) x = m_mrow τ (nI k) x := by
  unfold u_mrow m_mrow
  rw [hB.2.2.2.2.2]
  refine pq_fst_congr (fun r hr => ?_)
  rw [rel_mst hM hk hr, pq_cnt_congr (fun j hj => rel_mst hM hk (show j < σ.2.1 4 by omega))]
theorem wr_same (hI : iAll c σ) {x y : Option Nat} (hx : ∀ r, x = some r → r < σ.2.1 2) (hy : ∀ r, y = some r → r < σ.2.1 2) : pq_same σ x y = (decide ((u_wr σ x).1 = (u_wr σ y).1) && decide ((u_wr σ x).2 = (u_wr σ y).2)) := by
  cases x with
  | none =>
    cases y with
    | none => rfl
    | some b =>
      show false = _
      simp only [u_wr]
      split <;> rfl
  | some a =>
    cases y with
    | none =>
      show false = _
      simp only [u_wr]
      split <;> rfl
    | some b =>
      have ha := (hI.2.2.1 a (hx a rfl)).2.2.1
      have hb := (hI.2.2.1 b (hy b rfl)).2.2.1
      show (decide (σ.1 7 a = σ.1 7 b) && (!decide (σ.1 7 a = 0) || decide (σ.1 6 a = σ.1 6 b))) = _
      rcases ha with ha | ha
      · rw [show u_wr σ (some a) = (1, σ.1 6 a) from if_pos ha]
        rcases hb with hb | hb
        · rw [show u_wr σ (some b) = (1, σ.1 6 b) from if_pos hb, ha, hb]; simp
        · rw [show u_wr σ (some b) = (2, 0) from if_neg (by rw [hb]; decide), ha, hb]; rfl
      · rw [show u_wr σ (some a) = (2, 0) from if_neg (by rw [ha]; decide)]
        rcases hb with hb | hb
        · rw [show u_wr σ (some b) = (1, σ.1 6 b) from if_pos hb, ha, hb]; rfl
        · rw [show u_wr σ (some b) = (2, 0) from if_neg (by rw [hb]; decide), ha, hb]; rfl
theorem rel_back (hR : Rel c σ τ) (hc : c < 512) (t x : Int32) : (u_back σ t x).1 = (m_back τ t x).1 ∧ Rel (c + 1) (u_back σ t x).2 (m_back τ t x).2 := by
  have hI := hR.1
  have hB := hR.2.1
  have hn := hI.n
  have hcc := hI.2.1
  by_cases hcan : u_can σ t = true
  · have ha : u_act σ t = true := by rw [u_can, Bool.and_eq_true] at hcan; exact hcan.1
    obtain ⟨k, k1, k2, rfl, k3⟩ := (u_act_iff hI.1.1).mp ha
    have hcl := nI_clamp (show k < 2 ^ 31 by omega)
    have hu : u_back σ (nI k) x = _ := if_pos hcan
    have hm : m_back τ (nI k) x = _ := if_pos (by rw [← rel_can hI hB]; exact hcan)
    rw [hcl, ← rel_mrow hB hR.2.2.2.2.1 (by omega)] at hm
    rw [hu, hm]
    cases hq : u_mrow σ (nI k) x with
    | none => exact ⟨rfl, hR.up hc⟩
    | some q =>
      show nI (u_diff σ (nI k) (nI (q + 1))) = nI (m_dif τ k q) ∧ Rel (c + 1) (u_undo (u_mdrop σ (nI k) (q + 1)) (nI k) (nI (q + 1))) (m_bk τ k q (τ.2.1 2))
      obtain ⟨q1, q2, -⟩ := pq_fst_some.mp hq
      rw [Bool.and_eq_true, decide_eq_true_eq] at q2
      have hmq := q2.1
      have hc4 := hcc.2.2.2.2
      have hc1 := hcc.1
      obtain ⟨⟨f1, hcc2, h3, h4, h5, h6, h7, h8, h9⟩, b1, j2, j3, j4, j5, j6, j7, j8, j9⟩ := hR.up hc
      have tm : ∀ r m, r < σ.2.1 2 → m ≤ 512 → (σ.1 8 r < nI m ↔ ∃ z, z < m ∧ σ.1 8 r = nI z) := by
        intro r m hr hm
        obtain ⟨-, -, -, z, z1, z2⟩ := h3 r hr
        rw [z2, nI_ltI (by omega) (by omega)]
        exact ⟨fun h => ⟨z, h, rfl⟩, fun ⟨z', w1, w2⟩ => by rw [pq_nI_inj (by omega) (by omega) w2]; exact w1⟩
      have ow : ∀ r, r < σ.2.1 2 → (u_undo (u_mdrop σ (nI k) (q + 1)) (nI k) (nI (q + 1))).1 4 r = if σ.1 4 r = nI k ∧ ¬ σ.1 8 r < nI (q + 1) then -1 else σ.1 4 r := by
        intro r hr
        show pq_msk (fun r => decide (σ.1 4 r = nI k) && !decide (σ.1 8 r < nI (q + 1))) (-1) (σ.1 4) (σ.2.1 2) r = _
        unfold pq_msk
        by_cases e : σ.1 4 r = nI k ∧ ¬ σ.1 8 r < nI (q + 1)
        · rw [if_pos e, if_pos ⟨hr, by dsimp only; rw [decide_eq_true e.1, decide_eq_false e.2]; rfl⟩]
        · rw [if_neg e, if_neg]
          rintro ⟨-, z⟩
          dsimp only at z
          rw [Bool.and_eq_true, decide_eq_true_eq, Bool.not_eq_true', decide_eq_false_iff_not] at z
          exact e z
      have own_k : ∀ s r, r < σ.2.1 2 → pq_own (u_undo (u_mdrop σ (nI k) (q + 1)) (nI k) (nI (q + 1))) (nI k) s r = (pq_own σ (nI k) s r && decide (σ.1 8 r < nI (q + 1))) := by
        intro s r hr
        unfold pq_own
        rw [ow r hr]
        show (decide ((if σ.1 4 r = nI k ∧ ¬ σ.1 8 r < nI (q + 1) then -1 else σ.1 4 r) = nI k) && decide (σ.1 5 r = nI s)) = _
        by_cases e1 : σ.1 4 r = nI k
        · by_cases e2 : σ.1 8 r < nI (q + 1)
          · rw [if_neg (fun z => z.2 e2), decide_eq_true e2, Bool.and_true]
          · rw [if_pos ⟨e1, e2⟩, decide_eq_false (fun z => pq_nI_m1 (show k < 2 ^ 31 by omega) z.symm), decide_eq_false e2]; simp
        · rw [if_neg (fun z => e1 z.1), decide_eq_false e1]; rfl
      have own_o : ∀ u s r, u ≤ 150 → u ≠ k → r < σ.2.1 2 → pq_own (u_undo (u_mdrop σ (nI k) (q + 1)) (nI k) (nI (q + 1))) (nI u) s r = pq_own σ (nI u) s r := by
        intro u s r hu huk hr
        unfold pq_own
        rw [ow r hr]
        show (decide ((if σ.1 4 r = nI k ∧ ¬ σ.1 8 r < nI (q + 1) then -1 else σ.1 4 r) = nI u) && decide (σ.1 5 r = nI s)) = _
        by_cases e : σ.1 4 r = nI k ∧ ¬ σ.1 8 r < nI (q + 1)
        · rw [if_pos e, e.1, decide_eq_false (fun z => pq_nI_m1 (show u < 2 ^ 31 by omega) z.symm), decide_eq_false (fun z => huk (pq_nI_inj (by omega) (by omega) z).symm)]
        · rw [if_neg e]
      have last_k : ∀ s, u_last (u_undo (u_mdrop σ (nI k) (q + 1)) (nI k) (nI (q + 1))) k s = u_old σ k s q := fun s => pq_lst_congr (fun r hr => own_k s r hr)
      have last_o : ∀ u s, u ≤ 150 → u ≠ k → u_last (u_undo (u_mdrop σ (nI k) (q + 1)) (nI k) (nI (q + 1))) u s = u_last σ u s := fun u s hu huk => pq_lst_congr (fun r hr => own_o u s r hu huk hr)
      have sub : ∀ r a, r < σ.2.1 2 → a ≤ 150 → (u_undo (u_mdrop σ (nI k) (q + 1)) (nI k) (nI (q + 1))).1 4 r = nI a → σ.1 4 r = nI a := by
        intro r a hr ha z
        rw [ow r hr] at z
        by_cases e : σ.1 4 r = nI k ∧ ¬ σ.1 8 r < nI (q + 1)
        · rw [if_pos e] at z; exact absurd z.symm (pq_nI_m1 (by omega))
        · rw [if_neg e] at z; exact z
      have mo : ∀ r, r < σ.2.1 4 → (u_undo (u_mdrop σ (nI k) (q + 1)) (nI k) (nI (q + 1))).1 14 r = if q < r ∧ σ.1 14 r = nI k then -1 else σ.1 14 r := by
        intro r hr
        show pq_msk (fun r => decide (q + 1 ≤ r) && decide (σ.1 14 r = nI k)) (-1) (σ.1 14) (σ.2.1 4) r = _
        unfold pq_msk
        by_cases e : q < r ∧ σ.1 14 r = nI k
        · rw [if_pos e, if_pos ⟨hr, by dsimp only; rw [decide_eq_true e.2, decide_eq_true (show q + 1 ≤ r by omega)]; rfl⟩]
        · rw [if_neg e, if_neg]
          rintro ⟨-, z⟩
          dsimp only at z
          rw [Bool.and_eq_true, decide_eq_true_eq, decide_eq_true_eq] at z
          exact e ⟨by omega, z.2⟩
      refine ⟨?_, ⟨f1, hcc2, ?_, ?_, h5, h6, ?_, ?_, h9⟩, b1, ?_, j3, ?_, ?_, j6, ?_, ?_, j9⟩
      · refine congrArg nI ?_
        unfold u_diff m_dif
        rw [show (520 : Nat) = 512 + 8 from rfl, pq_cnt_tail (n := 512) (k := 8) (fun s s1 s2 => ?_)]
        · refine pq_cnt_congr (fun s hs => ?_)
          have e2 : pq_lst (pq_own (u_undo σ (nI k) (nI (q + 1))) (nI k) s) (σ.2.1 2) = u_old σ k s q := last_k s
          rw [e2]
          show (!pq_same σ (u_last σ k s) (u_old σ k s q)) = _
          rw [wr_same hI (x := u_last σ k s) (y := u_old σ k s q) (fun r hr => (pq_lst_some.mp hr).1) (fun r hr => (pq_lst_some.mp hr).1)]
          have a1 := j2 k s (by omega) (show s < 520 by omega)
          have a2 := j5 q k s q1 k1 k2 hmq (show s < 520 by omega)
          unfold m_dfw
          rw [← a1, ← a2]
          simp
        · have n1 : u_last σ k s = none := by
            cases h : u_last σ k s with
            | none => rfl
            | some r => have := u_last_slot hI (by omega) h (by omega); have := hcc.2.1; omega
          have n2 : u_old σ k s q = none := by
            cases h : u_old σ k s q with
            | none => rfl
            | some r =>
              obtain ⟨r1, r2, -⟩ := pq_lst_some.mp h
              rw [Bool.and_eq_true] at r2
              have := pq_lst_none.mp n1 r r1
              rw [r2.1] at this; cases this
          have a1 := j2 k s (by omega) (show s < 520 by omega)
          have a2 := j5 q k s q1 k1 k2 hmq (show s < 520 by omega)
          rw [n1] at a1
          rw [n2] at a2
          have b1 := a1.trans a2.symm
          unfold m_dfw
          rw [decide_eq_true (congrArg Prod.fst b1), decide_eq_true (congrArg Prod.snd b1)]
          rfl
      · intro r hr
        have hr : r < σ.2.1 2 := hr
        obtain ⟨g1, g2⟩ := h3 r hr
        refine ⟨?_, g2⟩
        rw [ow r hr]
        by_cases e : σ.1 4 r = nI k ∧ ¬ σ.1 8 r < nI (q + 1)
        · rw [if_pos e]; exact Or.inl rfl
        · rw [if_neg e]; exact g1
      · intro p r hpr hr z1 a b ha hb za zb
        have hr : r < σ.2.1 2 := hr
        have ha : a ≤ σ.2.1 0 := ha
        have hb : b ≤ σ.2.1 0 := hb
        exact h4 p r hpr hr z1 a b ha hb (sub p a (by omega) (by omega) za) (sub r b hr (by omega) zb)
      · intro r o hr o1 o2 o3
        have hr : r < σ.2.1 2 := hr
        have o2 : o ≤ σ.2.1 0 := o2
        exact h7 r o hr o1 o2 (sub r o hr (by omega) o3)
      · intro r hr
        have hr : r < σ.2.1 4 := hr
        rw [mo r hr]
        by_cases e : q < r ∧ σ.1 14 r = nI k
        · rw [if_pos e]; exact Or.inl rfl
        · rw [if_neg e]; exact h8 r hr
      · intro u s hu hs
        show (va_cpy (τ.1 10) (τ.1 1) (520 * q) (520 * k) 520 (520 * u + s), va_cpy (τ.1 11) (τ.1 2) (520 * q) (520 * k) 520 (520 * u + s)) = u_wr σ (u_last _ u s)
        by_cases e : u = k
        · subst e
          rw [last_k, pk_cpy_in (by omega) (by omega), pk_cpy_in (by omega) (by omega), show 520 * q + (520 * u + s - 520 * u) = 520 * q + s by omega]
          exact j5 q u s q1 k1 k2 hmq hs
        · rw [last_o u s hu e, pk_cpy_out (by omega), pk_cpy_out (by omega)]
          exact j2 u s hu hs
      · intro r hr
        have hr : r < σ.2.1 4 := hr
        rw [mo r hr]
        have hst := rel_mst j4 (show k ≤ 150 by omega) hr
        have h9' : pq_msk (fun r => decide (q < r) && m_mst τ (nI k) r) 0 (τ.1 9) (τ.2.1 2) r = if q < r ∧ σ.1 14 r = nI k then 0 else τ.1 9 r := by
          unfold pq_msk
          by_cases e : q < r ∧ σ.1 14 r = nI k
          · rw [if_pos e]
            exact if_pos ⟨by rw [b1.2.2.2.2.2]; exact hr, by dsimp only; rw [← hst, decide_eq_true e.1, decide_eq_true e.2]; rfl⟩
          · rw [if_neg e]
            refine if_neg ?_
            rintro ⟨-, z⟩
            dsimp only at z
            rw [← hst, Bool.and_eq_true, decide_eq_true_eq, decide_eq_true_eq] at z
            exact e z
        show _ = if pq_msk (fun r => decide (q < r) && m_mst τ (nI k) r) 0 (τ.1 9) (τ.2.1 2) r = 0 then -1 else τ.1 8 r
        rw [h9']
        by_cases e : q < r ∧ σ.1 14 r = nI k
        · rw [if_pos e, if_pos e, if_pos rfl]
        · rw [if_neg e, if_neg e]
          exact j4 r hr
      · intro r u s hr u1 u2 hm2 hs
        have hr : r < σ.2.1 4 := hr
        have u2 : u ≤ σ.2.1 0 := u2
        rw [mo r hr] at hm2
        have hm3 : σ.1 14 r = nI u ∧ ¬ (q < r ∧ σ.1 14 r = nI k) := by
          by_cases e : q < r ∧ σ.1 14 r = nI k
          · rw [if_pos e] at hm2; exact absurd hm2.symm (pq_nI_m1 (by omega))
          · rw [if_neg e] at hm2; exact ⟨hm2, e⟩
        have hold : u_old (u_undo (u_mdrop σ (nI k) (q + 1)) (nI k) (nI (q + 1))) u s r = u_old σ u s r := by
          refine pq_lst_congr (fun p hp => ?_)
          show (pq_own _ (nI u) s p && decide (σ.1 8 p < nI (r + 1))) = _
          by_cases e : u = k
          · subst e
            rw [own_k s p hp]
            have hle : r ≤ q := by
              rcases Nat.lt_or_ge q r with z | z
              · exact absurd ⟨z, hm3.1⟩ hm3.2
              · exact z
            by_cases e3 : σ.1 8 p < nI (r + 1)
            · have : σ.1 8 p < nI (q + 1) := by
                obtain ⟨z, z1, z2⟩ := (tm p (r + 1) hp (by omega)).mp e3
                exact (tm p (q + 1) hp (by omega)).mpr ⟨z, by omega, z2⟩
              rw [decide_eq_true e3, decide_eq_true this]; simp
            · rw [decide_eq_false e3]; simp
          · rw [own_o u s p (by omega) e hp]
        show (τ.1 10 _, τ.1 11 _) = u_wr σ _
        rw [hold]
        exact j5 r u s hr u1 u2 hm3.1 hs
      · intro i
        refine ⟨?_, (j7 i).2.1, (j7 i).2.2⟩
        show vp_nar .byte (va_cpy (τ.1 10) (τ.1 1) (520 * q) (520 * k) 520 i) = va_cpy (τ.1 10) (τ.1 1) (520 * q) (520 * k) 520 i
        unfold va_cpy
        split
        · exact (j7 _).2.2
        · exact (j7 i).1
      · intro i
        show pq_msk (fun r => decide (q < r) && m_mst τ (nI k) r) 0 (τ.1 9) (τ.2.1 2) i = 0 ∨ pq_msk (fun r => decide (q < r) && m_mst τ (nI k) r) 0 (τ.1 9) (τ.2.1 2) i = 1
        unfold pq_msk
        split
        · exact Or.inl rfl
        · exact j8 i
  · rw [show u_back σ t x = (-1, σ) from if_neg hcan, show m_back τ t x = (-1, τ) from if_neg (by rw [← rel_can hI hB]; exact hcan)]
    exact ⟨rfl, hR.up hc⟩
end S4
