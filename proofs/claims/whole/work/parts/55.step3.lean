section S3
variable {c : Nat} {σ τ : ST}
theorem rel_open (hR : Rel c σ τ) (hc : c < 512) (t : Int32) : (u_open σ t).1 = (m_open τ t).1 ∧ Rel (c + 1) (u_open σ t).2 (m_open τ t).2 := by
  have hI := hR.1
  have hB := hR.2.1
  have hn := hI.n
  by_cases h : ((decide (t = 0) || u_act σ t) && !decide (σ.2.1 0 = 150)) = true
  · rw [show u_open σ t = _ from if_pos h, show m_open τ t = _ from if_pos (by rw [hB.act, hB.2.2.2.2.1]; exact h)]
    rw [Bool.and_eq_true, Bool.not_eq_true', decide_eq_false_iff_not] at h
    obtain ⟨k, k2, rfl, k3⟩ := (u_asked_iff hI.1.1).mp h.1
    have hn150 : σ.2.1 0 < 150 := by omega
    refine ⟨by show nI _ = nI _; rw [hB.2.2.2.2.1], ?_⟩
    have hR' := hR.up hc
    obtain ⟨⟨⟨f1, f2⟩, hcc, h3, h4, h5, h6, h7, h8, h9⟩, b1, j2, j3, j4, j5, j6, j7, j8, j9⟩ := hR'
    have hQn : upd (σ.1 0) (σ.2.1 0 + 1) (nI k) (σ.2.1 0 + 1) = nI k := upd_eq _ _ _
    have hQ : ∀ u, u ≤ σ.2.1 0 → (upd (σ.1 0) (σ.2.1 0 + 1) (nI k) u).toNatClampNeg = uQ σ u := fun u hu => by rw [upd_ne _ _ (by omega)]; rfl
    have hst : ∀ u, u ≤ σ.2.1 0 → upd (σ.1 1) (σ.2.1 0 + 1) 0 u = σ.1 1 u := fun u hu => upd_ne _ _ (by omega)
    have hkst : k = 0 ∨ σ.1 1 k = 0 := k3
    refine ⟨⟨⟨⟨?_, ?_⟩, ?_⟩, hcc, ?_, ?_, ?_, h6, ?_, ?_, ?_⟩, ?_, j2, j3, j4, ?_, ?_, j7, j8, ?_, j9.2⟩
    · show σ.2.1 0 + 1 ≤ 150; omega
    · intro u u1 u2
      have u2 : u ≤ σ.2.1 0 + 1 := u2
      show upd (σ.1 0) (σ.2.1 0 + 1) (nI k) u = nI (upd (σ.1 0) (σ.2.1 0 + 1) (nI k) u).toNatClampNeg ∧ (upd (σ.1 0) (σ.2.1 0 + 1) (nI k) u).toNatClampNeg < u
      by_cases e : u = σ.2.1 0 + 1
      · rw [e, hQn, nI_clamp (by omega)]; exact ⟨rfl, by omega⟩
      · rw [upd_ne _ _ e]; exact f1.2 u u1 (by omega)
    · intro u u1 u2 u3
      have u2 : u ≤ σ.2.1 0 + 1 := u2
      have u3 : upd (σ.1 1) (σ.2.1 0 + 1) 0 u = 0 := u3
      show (upd (σ.1 0) (σ.2.1 0 + 1) (nI k) u).toNatClampNeg = 0 ∨ upd (σ.1 1) (σ.2.1 0 + 1) 0 (upd (σ.1 0) (σ.2.1 0 + 1) (nI k) u).toNatClampNeg = 0
      by_cases e : u = σ.2.1 0 + 1
      · rw [e, hQn, nI_clamp (by omega), hst k k2]; exact hkst
      · have hu : u ≤ σ.2.1 0 := by omega
        rw [hQ u hu]
        have := (f1.2 u u1 hu).2
        rw [hst _ (by omega)]
        rw [hst u hu] at u3
        exact f2 u u1 hu u3
    · intro r hr
      obtain ⟨g1, g2⟩ := h3 r hr
      refine ⟨?_, g2⟩
      rcases g1 with e | ⟨o, o1, o2, o3⟩
      · exact Or.inl e
      · exact Or.inr ⟨o, Nat.le_succ_of_le o1, o2, o3.imp id (fun z => (hst o o1).trans z)⟩
    · intro q r hqr hr z1 a b ha hb za zb
      have bound : ∀ r a, r < σ.2.1 2 → a ≤ σ.2.1 0 + 1 → σ.1 4 r = nI a → a ≤ σ.2.1 0 := by
        intro r a hr ha2 z
        rcases (h3 r hr).1 with e | ⟨o, o1, o2, o3⟩
        · exact absurd (z.symm.trans e) (pq_nI_m1 (by omega))
        · rw [pq_nI_inj (by omega) (by omega) (z.symm.trans o2)]; exact o1
      have hr : r < σ.2.1 2 := hr
      have ha' := bound q a (by omega) ha za
      have hb' := bound r b hr hb zb
      show pq_on (fun u => (upd (σ.1 0) (σ.2.1 0 + 1) (nI k) u).toNatClampNeg) b a = true
      rw [pq_on_congr (uF_dn f1) (fun u _ hu => hQ u hu) b a hb']
      exact h4 q r hqr hr z1 a b ha' hb' za zb
    · intro r hr
      obtain ⟨g1, g2⟩ := h5 r hr
      refine ⟨?_, g2⟩
      rcases g1 with e | ⟨o, o0, o1, o2, o3⟩
      · exact Or.inl e
      · exact Or.inr ⟨o, o0, Nat.le_succ_of_le o1, o2, (hst o o1).trans o3⟩
    · intro r o hr o1 o2 o3
      have hr : r < σ.2.1 2 := hr
      have o2 : o ≤ σ.2.1 0 + 1 := o2
      have : o ≤ σ.2.1 0 := by
        rcases (h3 r hr).1 with e | ⟨o', p1, p2, p3⟩
        · exact absurd (o3.symm.trans e) (pq_nI_m1 (by omega))
        · rw [pq_nI_inj (by omega) (by omega) (o3.symm.trans p2)]; exact p1
      exact h7 r o hr o1 this o3
    · intro r hr
      rcases h8 r hr with e | ⟨o, o0, o1, o2, o3⟩
      · exact Or.inl e
      · exact Or.inr ⟨o, o0, Nat.le_succ_of_le o1, o2, (hst o o1).trans o3⟩
    · intro u u1 u2
      rcases h9 u u1 u2 with e | ⟨e1, e2, e3⟩
      · exact Or.inl e
      · exact Or.inr ⟨Nat.le_succ_of_le e1, (hst u e1).trans e2, e3⟩
    · refine ⟨b1.1, b1.2.1, ?_, ?_, ?_, b1.2.2.2.2.2⟩
      · show upd (τ.1 4) (τ.2.1 1 + 1) (nI k) = upd (σ.1 0) (σ.2.1 0 + 1) (nI k)
        rw [b1.2.2.1, b1.2.2.2.2.1]
      · show upd (τ.1 5) (τ.2.1 1 + 1) 0 = upd (σ.1 1) (σ.2.1 0 + 1) 0
        rw [b1.2.2.2.1, b1.2.2.2.2.1]
      · show τ.2.1 1 + 1 = σ.2.1 0 + 1
        rw [b1.2.2.2.2.1]
    · intro r u s hr u1 u2 hm hs
      have hr : r < σ.2.1 4 := hr
      have u2 : u ≤ σ.2.1 0 + 1 := u2
      have hu : u ≤ σ.2.1 0 := by
        rcases h8 r hr with e | ⟨o', p0, p1, p2, p3⟩
        · exact absurd (hm.symm.trans e) (pq_nI_m1 (by omega))
        · rw [pq_nI_inj (by omega) (by omega) (hm.symm.trans p2)]; exact p1
      exact j5 r u s hr u1 hu hm hs
    · intro u u1 u2 u3
      have u2 : u ≤ σ.2.1 0 + 1 := u2
      have u3 : upd (σ.1 1) (σ.2.1 0 + 1) 0 u = 0 := u3
      show (upd (τ.1 6) (τ.2.1 1 + 1) (-1) u = if σ.1 16 u = 0 then -1 else σ.1 15 u) ∧ (¬ σ.1 16 u = 0 → τ.1 7 u = if σ.1 16 u = 2 then 1 else 0)
      rw [b1.2.2.2.2.1]
      by_cases e : u = σ.2.1 0 + 1
      · have hz : σ.1 16 u = 0 := by
          rcases h9 u u1 (by omega) with z | ⟨z, -⟩
          · exact z
          · omega
        rw [if_pos hz, e, upd_eq]
        exact ⟨rfl, fun z => absurd (e ▸ hz) z⟩
      · have hu : u ≤ σ.2.1 0 := by omega
        rw [upd_ne _ _ e]
        exact j6 u u1 hu ((hst u hu).symm.trans u3)
    · intro q q1 q2
      show upd (τ.1 6) (τ.2.1 1 + 1) (-1) q = -1 ∨ ∃ w, w < τ.2.1 0 ∧ upd (τ.1 6) (τ.2.1 1 + 1) (-1) q = nI w
      have q2 : q ≤ τ.2.1 1 + 1 := q2
      by_cases e : q = τ.2.1 1 + 1
      · rw [e, upd_eq]; exact Or.inl rfl
      · rw [upd_ne _ _ e]; exact j9.1 q q1 (by omega)
  · rw [show u_open σ t = (-1, σ) from if_neg h, show m_open τ t = (-1, τ) from if_neg (by rw [hB.act, hB.2.2.2.2.1]; exact h)]
    exact ⟨rfl, hR.up hc⟩
theorem rel_mark (hR : Rel c σ τ) (hc : c < 512) (t : Int32) : (u_mark σ t).1 = (m_mark τ t).1 ∧ Rel (c + 1) (u_mark σ t).2 (m_mark τ t).2 := by
  have hI := hR.1
  have hB := hR.2.1
  have hn := hI.n
  by_cases ha : u_act σ t = true
  · obtain ⟨k, k1, k2, rfl, k3⟩ := (u_act_iff hI.1.1).mp ha
    have hcl := nI_clamp (show k < 2 ^ 31 by omega)
    have hm : m_mark τ (nI k) = _ := if_pos (by rw [hB.act]; exact ha)
    rw [hcl] at hm
    rw [show u_mark σ (nI k) = _ from if_pos ha, hm]
    refine ⟨by show nI _ = nI _; rw [rel_marks hI hB hR.2.2.2.2.1 (by omega)], ?_⟩
    have hc4 := hI.2.1.2.2.2.2
    obtain ⟨⟨f1, ⟨c1, c2, c3, c4, c5⟩, h3, h4, h5, h6, h7, h8, h9⟩, b1, j2, j3, j4, j5, j6, j7, j8, j9⟩ := hR.up hc
    rw [b1.2.2.2.2.2]
    refine ⟨⟨f1, ⟨c1, c2, c3, c4, ?_⟩, ?_, h4, h5, h6, h7, ?_, h9⟩, ⟨b1.1, b1.2.1, b1.2.2.1, b1.2.2.2.1, b1.2.2.2.2.1, rfl⟩, j2, j3, ?_, ?_, j6, ?_, ?_, j9⟩
    · show σ.2.1 4 + 1 ≤ c + 1; omega
    · intro r hr
      obtain ⟨g1, g2, g3, z, z1, z2⟩ := h3 r hr
      exact ⟨g1, g2, g3, z, Nat.le_succ_of_le z1, z2⟩
    · intro r hr
      have hr : r < σ.2.1 4 + 1 := hr
      show upd (σ.1 14) (σ.2.1 4) (nI k) r = -1 ∨ ∃ o, 1 ≤ o ∧ o ≤ σ.2.1 0 ∧ upd (σ.1 14) (σ.2.1 4) (nI k) r = nI o ∧ σ.1 1 o = 0
      by_cases e : r = σ.2.1 4
      · rw [e, upd_eq]; exact Or.inr ⟨k, k1, k2, rfl, k3⟩
      · rw [upd_ne _ _ e]; exact h8 r (by omega)
    · intro r hr
      have hr : r < σ.2.1 4 + 1 := hr
      show upd (σ.1 14) (σ.2.1 4) (nI k) r = if upd (τ.1 9) (σ.2.1 4) 1 r = 0 then -1 else upd (τ.1 8) (σ.2.1 4) (nI k) r
      by_cases e : r = σ.2.1 4
      · rw [e, upd_eq, upd_eq, upd_eq, if_neg (by decide)]
      · rw [upd_ne _ _ e, upd_ne _ _ e, upd_ne _ _ e]; exact j4 r (by omega)
    · intro r u s hr u1 u2 hm2 hs
      have hr : r < σ.2.1 4 + 1 := hr
      have hm2 : upd (σ.1 14) (σ.2.1 4) (nI k) r = nI u := hm2
      have u2 : u ≤ σ.2.1 0 := u2
      show (va_cpy (τ.1 1) (τ.1 10) (520 * k) (520 * σ.2.1 4) 520 (520 * r + s), va_cpy (τ.1 2) (τ.1 11) (520 * k) (520 * σ.2.1 4) 520 (520 * r + s)) = u_wr σ (u_old σ u s r)
      by_cases e : r = σ.2.1 4
      · rw [e, upd_eq] at hm2
        have ek := pq_nI_inj (by omega) (by omega) hm2
        subst ek
        rw [e, pk_cpy_in (by omega) (by omega), pk_cpy_in (by omega) (by omega), show 520 * k + (520 * σ.2.1 4 + s - 520 * σ.2.1 4) = 520 * k + s by omega, j2 k s (by omega) hs]
        congr 1
        refine pq_lst_congr (fun q hq => ?_)
        obtain ⟨-, -, -, z, z1, z2⟩ := h3 q hq
        rw [z2, decide_eq_true ((nI_ltI (by omega) (by omega)).mpr (show z < σ.2.1 4 + 1 by omega)), Bool.and_true]
      · rw [upd_ne _ _ e] at hm2
        rw [pk_cpy_out (by omega), pk_cpy_out (by omega)]
        exact j5 r u s (by omega) u1 u2 hm2 hs
    · intro i
      refine ⟨(j7 i).1, (j7 i).2.1, ?_⟩
      show vp_nar .byte (va_cpy (τ.1 1) (τ.1 10) (520 * k) (520 * σ.2.1 4) 520 i) = va_cpy (τ.1 1) (τ.1 10) (520 * k) (520 * σ.2.1 4) 520 i
      unfold va_cpy
      split
      · exact (j7 _).1
      · exact (j7 i).2.2
    · intro i
      show upd (τ.1 9) (σ.2.1 4) 1 i = 0 ∨ upd (τ.1 9) (σ.2.1 4) 1 i = 1
      rw [upd_at]
      split
      · exact Or.inr rfl
      · exact j8 i
  · rw [show u_mark σ t = (-1, σ) from if_neg ha, show m_mark τ t = (-1, τ) from if_neg (by rw [hB.act]; exact ha)]
    exact ⟨rfl, hR.up hc⟩
end S3
