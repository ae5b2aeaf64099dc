section S8
variable {c : Nat} {σ τ : ST}
theorem cm_I (hI : iAll c σ) {k P : Nat} (k1 : 1 ≤ k) (k2 : k ≤ σ.2.1 0) (k3 : σ.1 1 k = 0) (hP : P < k) (hQ : uQ σ k = P) (hkid : ∀ u, 1 ≤ u → u ≤ σ.2.1 0 → σ.1 1 u = 0 → ¬ uQ σ u = k) : iAll c (u_cm σ k P) := by
  have hn := hI.n
  have hdn := hI.dn
  have hU' := cm_U hI (show k ≤ 150 by omega) hP
  have hk : k ≤ 150 := by omega
  obtain ⟨⟨f1, f2⟩, hcc, h3, h4, h5, h6, h7, h8, h9⟩ := hI
  obtain ⟨a0, a3, a5, a6, a7, a12, a15⟩ := cm_a (σ := σ) k P
  have cc := cm_c (σ := σ) k P
  have hst : P = 0 ∨ σ.1 1 P = 0 := by have := f2 k k1 k2 k3; rw [hQ] at this; exact this
  have uq : uQ (u_cm σ k P) = uQ σ := by unfold uQ; rw [a0]
  have st1 : ∀ u, (u_cm σ k P).1 1 u = if u = k then 1 else σ.1 1 u := fun u => by rw [(cm_1 k P).1, upd_at]
  have st0 : ∀ u, (u_cm σ k P).1 1 u = 0 ↔ ¬ u = k ∧ σ.1 1 u = 0 := by
    intro u
    rw [st1]
    by_cases e : u = k
    · rw [if_pos e]; exact ⟨fun z => absurd z (by decide), fun z => absurd e z.1⟩
    · rw [if_neg e]; exact ⟨fun z => ⟨e, z⟩, fun z => z.2⟩
  have stP : P = 0 ∨ (u_cm σ k P).1 1 P = 0 := hst.imp id (fun z => (st0 P).mpr ⟨by omega, z⟩)
  refine ⟨⟨?_, ?_⟩, ?_, ?_, ?_, ?_, hU', ?_, ?_, ?_⟩
  · unfold uF; rw [uq, a0, cc]; exact f1
  · intro u u1 u2 u3
    rw [cc] at u2
    obtain ⟨z1, z2⟩ := (st0 u).mp u3
    rw [uq]
    rcases f2 u u1 u2 z2 with e | e
    · exact Or.inl e
    · exact Or.inr ((st0 _).mpr ⟨hkid u u1 u2 z2, e⟩)
  · unfold iC; rw [cc]; exact hcc
  · intro r hr
    rw [cc] at hr ⊢
    obtain ⟨g1, g2, g3, z, g4, g5⟩ := h3 r hr
    rw [a5, a7, cm_4 (by omega) hP hr, cm_8 hr]
    refine ⟨?_, g2, g3, ?_⟩
    · by_cases e : σ.1 4 r = nI k
      · rw [if_pos e]; exact Or.inr ⟨P, by omega, rfl, stP⟩
      · rw [if_neg e]
        rcases g1 with g | ⟨o, o1, o2, o3⟩
        · exact Or.inl g
        · exact Or.inr ⟨o, o1, o2, o3.imp id (fun z => (st0 o).mpr ⟨fun q => e (by rw [o2, q]), z⟩)⟩
    · by_cases e : σ.1 4 r = nI k
      · rw [if_pos e]; exact ⟨_, Nat.le_refl _, rfl⟩
      · rw [if_neg e]; exact ⟨z, g4, g5⟩
  · intro q r hqr hr z1 a b ha hb za zb
    rw [cc] at hr ha hb
    rw [a5] at z1
    rw [uq]
    rcases (cm_wown hk hP (show a ≤ 150 by omega) (show q < σ.2.1 2 by omega)).mp za with ⟨x1, x2⟩ | ⟨x1, x2⟩ <;> rcases (cm_wown hk hP (show b ≤ 150 by omega) hr).mp zb with ⟨y1, y2⟩ | ⟨y1, y2⟩
    · exact h4 q r hqr hr z1 a b ha hb x2 y2
    · have := h4 q r hqr hr z1 a k ha k2 x2 y2
      rw [pq_on_s hdn k1 k2, decide_eq_false x1, Bool.false_or, hQ] at this
      rw [y1]; exact this
    · have := h4 q r hqr hr z1 k b k2 hb x2 y2
      rw [x1, ← hQ]
      exact pq_on_step hdn hb this k1
    · rw [x1, y1]; exact pq_on_self hdn (by omega)
  · intro r hr
    rw [cc] at hr ⊢
    obtain ⟨g1, g2, g3⟩ := h5 r hr
    rw [a12]
    refine ⟨?_, g2, ?_⟩
    · rw [cm_11 (by omega) hP hr]
      by_cases e : σ.1 11 r = nI k
      · rw [if_pos e]
        by_cases e2 : ¬ P = 0 ∧ u_hrow σ (nI P) (σ.1 12 r) = none
        · rw [if_pos e2]; exact Or.inr ⟨P, by omega, by omega, rfl, stP.resolve_left e2.1⟩
        · rw [if_neg e2]; exact Or.inl rfl
      · rw [if_neg e]
        rcases g1 with g | ⟨o, o0, o1, o2, o3⟩
        · exact Or.inl g
        · exact Or.inr ⟨o, o0, o1, o2, (st0 o).mpr ⟨fun q => e (by rw [o2, q]), o3⟩⟩
    · rw [cm_13 (by omega) hr]
      by_cases e : ¬ P = 0 ∧ σ.1 11 r = nI P
      · rw [if_pos e]
        cases hq : u_hrow σ (nI k) (σ.1 12 r) with
        | none => exact g3
        | some q =>
          show (if σ.1 13 r < σ.1 13 q then σ.1 13 q else σ.1 13 r) = 1 ∨ (if σ.1 13 r < σ.1 13 q then σ.1 13 q else σ.1 13 r) = 2
          split
          · exact (h5 q (u_hrow_lt hq).1).2.2
          · exact g3
      · rw [if_neg e]; exact g3
  · intro r o hr o1 o2 o3
    rw [cc] at hr o2 ⊢
    rw [a12, a5]
    have ho : o ≤ 150 := by omega
    have two : ∀ q, q < σ.2.1 3 → σ.1 13 q = 2 → (u_cm σ k P).1 13 q = 2 := by
      intro q hq e
      rw [cm_13 (by omega) hq]
      by_cases e2 : ¬ P = 0 ∧ σ.1 11 q = nI P
      · rw [if_pos e2]
        cases hq2 : u_hrow σ (nI k) (σ.1 12 q) with
        | none => exact e
        | some q' =>
          show (if σ.1 13 q < σ.1 13 q' then σ.1 13 q' else σ.1 13 q) = 2
          rw [e]
          rcases (h5 q' (u_hrow_lt hq2).1).2.2 with z | z <;> rw [z] <;> rfl
      · rw [if_neg e2]; exact e
    rcases (cm_wown hk hP ho hr).mp o3 with ⟨x1, x2⟩ | ⟨x1, x2⟩
    · obtain ⟨q, q1, q2, q3, q4⟩ := h7 r o hr o1 o2 x2
      exact ⟨q, q1, (cm_own hk hP ho q1).mpr (Or.inl ⟨x1, q2⟩), q3, two q q1 q4⟩
    · obtain ⟨q, q1, q2, q3, q4⟩ := h7 r k hr k1 k2 x2
      have P0 : ¬ P = 0 := by omega
      cases hp : u_hrow σ (nI P) (σ.1 12 q) with
      | none => exact ⟨q, q1, (cm_own hk hP ho q1).mpr (Or.inr ⟨x1, P0, q2, hp⟩), q3, two q q1 q4⟩
      | some p =>
        obtain ⟨p1, p2, p3⟩ := u_hrow_lt hp
        refine ⟨p, p1, (cm_own hk hP ho p1).mpr (Or.inl ⟨by omega, by rw [x1]; exact p2⟩), p3.trans q3, ?_⟩
        rw [cm_13 (by omega) p1, if_pos ⟨P0, p2⟩, p3, u_hrow_of h6 (pq_nI_m1 (show k < 2 ^ 31 by omega)) q1 q2 rfl]
        show (if σ.1 13 p < σ.1 13 q then σ.1 13 q else σ.1 13 p) = 2
        rw [q4]
        rcases (h5 p p1).2.2 with z | z <;> rw [z] <;> rfl
  · intro r hr
    rw [cc] at hr ⊢
    rw [cm_14 hr]
    by_cases e : σ.1 14 r = nI k
    · rw [if_pos e]; exact Or.inl rfl
    · rw [if_neg e]
      rcases h8 r hr with g | ⟨o, o0, o1, o2, o3⟩
      · exact Or.inl g
      · exact Or.inr ⟨o, o0, o1, o2, (st0 o).mpr ⟨fun q => e (by rw [o2, q]), o3⟩⟩
  · intro u u1 u2
    rw [cc, a15, (cm_1 k P).2.1, upd_at]
    by_cases e : u = k
    · rw [if_pos e]; exact Or.inl rfl
    · rw [if_neg e]
      rcases h9 u u1 u2 with g | ⟨g1, g2, g3⟩
      · exact Or.inl g
      · exact Or.inr ⟨g1, (st0 u).mpr ⟨e, g2⟩, g3⟩
theorem cm_wr (k P : Nat) : u_wr (u_cm σ k P) = u_wr σ := by
  funext x
  cases x with
  | none => rfl
  | some r => unfold u_wr; rw [(cm_a k P).2.2.2.1, (cm_a k P).2.2.2.2.1]
theorem mg_at {f : Nat → Int32} {g : Nat → Bool} {k p t s : Nat} (hs : s < 520) : m_mg g f (520 * k) (520 * p) 520 (520 * t + s) = if t = p ∧ g s = true then f (520 * k + s) else f (520 * t + s) := by
  unfold m_mg
  by_cases e : t = p
  · subst e
    by_cases q : g s = true
    · rw [if_pos ⟨by omega, by omega, by rw [Nat.add_sub_cancel_left]; exact q⟩, if_pos ⟨rfl, q⟩, Nat.add_sub_cancel_left]
    · rw [if_neg (fun z => q (by have := z.2.2; rw [Nat.add_sub_cancel_left] at this; exact this)), if_neg (fun z => q z.2)]
  · rw [if_neg (fun z => e (by omega)), if_neg (fun z => e z.1)]
theorem zero_at {f : Nat → Int32} {k t s : Nat} (hs : s < 520) : m_zero f k 520 (520 * t + s) = if t = k then 0 else f (520 * t + s) := by
  unfold m_zero va_cpy
  by_cases e : t = k
  · rw [if_pos (by omega), if_pos e]
  · rw [if_neg (by omega), if_neg e]
theorem cm_J (hR : Rel c σ τ) {k P : Nat} (k1 : 1 ≤ k) (k2 : k ≤ σ.2.1 0) (k3 : σ.1 1 k = 0) (hP : P < k) : jAll (u_cm σ k P) (m_end (m_merge τ k P 520) k 1) := by
  have hI := hR.1
  have hn := hI.n
  have hk : k ≤ 150 := by omega
  have h4 := hI.2.2.2.1
  have hdn := hI.dn
  obtain ⟨b1, j2, j3, j4, j5, j6, j7, j8, j9⟩ := hR.2
  obtain ⟨a0, a3, a5, a6, a7, a12, a15⟩ := cm_a (σ := σ) k P
  have cc := cm_c (σ := σ) k P
  have own : ∀ t s r, t ≤ 150 → r < σ.2.1 2 → pq_own (u_cm σ k P) (nI t) s r = ((!decide (t = k) && pq_own σ (nI t) s r) || (decide (t = P) && pq_own σ (nI k) s r)) := by
    intro t s r ht hr
    unfold pq_own
    rw [a5, decide_eq_decide.mpr (cm_wown hk hP ht hr), Bool.decide_or, Bool.decide_and, Bool.decide_and, decide_not]
    cases decide (t = k) <;> cases decide (t = P) <;> cases decide (σ.1 4 r = nI t) <;> cases decide (σ.1 4 r = nI k) <;> cases decide (σ.1 5 r = nI s) <;> rfl
  have ec2 : (u_cm σ k P).2.1 2 = σ.2.1 2 := by rw [cc]
  have ec4 : (u_cm σ k P).2.1 4 = σ.2.1 4 := by rw [cc]
  have mwn : ∀ s, s < 520 → (m_mw τ k s = true ↔ ¬ u_last σ k s = none) := by
    intro s hs
    have := j2 k s hk hs
    unfold m_mw
    rw [show τ.1 1 (520 * k + s) = (u_wr σ (u_last σ k s)).1 from congrArg Prod.fst this]
    rw [Bool.not_eq_true', decide_eq_false_iff_not, u_wr_0]
  have last : ∀ t s, t ≤ 150 → s < 520 → u_last (u_cm σ k P) t s = if t = k then none else if t = P ∧ m_mw τ k s = true then u_last σ k s else u_last σ t s := by
    intro t s ht hs
    unfold u_last
    rw [ec2, pq_lst_congr (fun r hr => own t s r ht hr)]
    by_cases e : t = k
    · rw [if_pos e, decide_eq_true e, decide_eq_false (show ¬ t = P by omega)]
      exact pq_lst_none.mpr (fun r _ => by simp)
    · rw [if_neg e, decide_eq_false e]
      by_cases e2 : t = P
      · rw [decide_eq_true e2]
        cases hl : u_last σ k s with
        | none =>
          rw [if_neg (fun z => (mwn s hs).mp z.2 hl)]
          refine pq_lst_congr (fun r hr => ?_)
          rw [pq_lst_none.mp hl r hr]; simp
        | some r0 =>
          rw [if_pos ⟨e2, (mwn s hs).mpr (by rw [hl]; exact fun z => by cases z)⟩]
          obtain ⟨r1, r2, r3⟩ := pq_lst_some.mp hl
          refine (pq_lst_some.mpr ⟨r1, by rw [r2]; simp, fun r g1 g2 => ?_⟩).trans hl.symm
          rw [r3 r g1 g2]
          cases ho : pq_own σ (nI t) s r with
          | false => simp
          | true =>
            exfalso
            unfold pq_own at ho r2
            rw [Bool.and_eq_true, decide_eq_true_eq, decide_eq_true_eq] at ho r2
            have := h4 r0 r g1 g2 (r2.2.trans ho.2.symm) k t k2 (by omega) r2.1 ho.1
            have := pq_on_le hdn t k (by omega) this
            omega
      · rw [decide_eq_false e2, if_neg (fun z => e2 z.1)]
        exact pq_lst_congr (fun r hr => by simp)
  refine ⟨⟨?_, ?_, ?_, ?_, ?_, ?_⟩, ?_, ?_, ?_, ?_, ?_, ?_, ?_, j9⟩
  · rw [a3]; exact b1.1
  · rw [cc]; exact b1.2.1
  · rw [a0]; exact b1.2.2.1
  · rw [(cm_1 k P).1, ← b1.2.2.2.1]; rfl
  · rw [cc]; exact b1.2.2.2.2.1
  · rw [cc]; exact b1.2.2.2.2.2
  · intro t s ht hs
    rw [cm_wr, last t s ht hs]
    show (m_zero (m_mg (m_mw τ k) (τ.1 1) (520 * k) (520 * P) 520) k 520 (520 * t + s), m_zero (m_mg (m_mw τ k) (τ.1 2) (520 * k) (520 * P) 520) k 520 (520 * t + s)) = _
    rw [zero_at hs, zero_at hs, mg_at hs, mg_at hs]
    by_cases e : t = k
    · rw [if_pos e, if_pos e, if_pos e]; rfl
    · rw [if_neg e, if_neg e, if_neg e]
      by_cases e2 : t = P ∧ m_mw τ k s = true
      · rw [if_pos e2, if_pos e2, if_pos e2]; exact j2 k s hk hs
      · rw [if_neg e2, if_neg e2, if_neg e2]; exact j2 t s ht hs
  · intro t s t1 ht hs
    rw [cm_kind hI hk hP t1 ht]
    show m_zero (m_mg (m_mh τ k P) (τ.1 3) (520 * k) (520 * P) 520) k 520 (520 * t + s) = _
    rw [zero_at hs, mg_at hs]
    by_cases e : t = k
    · rw [if_pos e, if_pos e]
    · rw [if_neg e, if_neg e]
      by_cases e2 : t = P
      · have P1 : 1 ≤ P := by omega
        have jk := j3 k s k1 hk hs
        have jP := j3 P s P1 (by omega) hs
        rw [if_pos e2, ← jk, ← jP, e2]
        unfold m_mh
        rw [decide_eq_true (show P ≠ 0 by omega), Bool.true_and]
        by_cases q : τ.1 3 (520 * P + s) < τ.1 3 (520 * k + s)
        · rw [if_pos q, if_pos ⟨rfl, decide_eq_true q⟩]
        · rw [if_neg q, if_neg (fun z => q (of_decide_eq_true z.2))]
      · rw [if_neg e2, if_neg (fun z => e2 z.1)]
        exact j3 t s t1 ht hs
  · intro r hr
    rw [cc] at hr
    have hj := j4 r hr
    rw [cm_14 hr]
    show _ = if pq_msk (fun m => decide (τ.1 8 m = nI k)) 0 (τ.1 9) (τ.2.1 2) r = 0 then -1 else τ.1 8 r
    rw [b1.2.2.2.2.2]
    have em : pq_msk (fun m => decide (τ.1 8 m = nI k)) 0 (τ.1 9) (σ.2.1 4) r = if τ.1 8 r = nI k then 0 else τ.1 9 r := by
      unfold pq_msk
      by_cases q : τ.1 8 r = nI k
      · rw [if_pos ⟨hr, decide_eq_true q⟩, if_pos q]
      · rw [if_neg (fun z => q (of_decide_eq_true z.2)), if_neg q]
    rw [em]
    by_cases e9 : τ.1 9 r = 0
    · rw [if_pos e9] at hj
      have : (if τ.1 8 r = nI k then (0 : Int32) else τ.1 9 r) = 0 := by split; rfl; exact e9
      rw [if_pos this, hj, if_neg (fun z => pq_nI_m1 (show k < 2 ^ 31 by omega) z.symm)]
    · rw [if_neg e9] at hj
      rw [hj]
      by_cases e : τ.1 8 r = nI k
      · rw [if_pos e, if_pos e, if_pos rfl]
      · rw [if_neg e, if_neg e, if_neg e9]
  · intro r t s hr t1 t2 hm hs
    rw [cc] at hr t2
    rw [cm_14 hr] at hm
    have hm2 : ¬ t = k ∧ σ.1 14 r = nI t := by
      by_cases e : σ.1 14 r = nI k
      · rw [if_pos e] at hm; exact absurd hm.symm (pq_nI_m1 (by omega))
      · rw [if_neg e] at hm; exact ⟨fun z => e (by rw [hm, z]), hm⟩
    have hmc := hI.2.1.1
    have hmc2 := hI.2.1.2.2.2.2
    have : u_old (u_cm σ k P) t s r = u_old σ t s r := by
      unfold u_old
      rw [ec2]
      refine pq_lst_congr (fun q hq => ?_)
      rw [own t s q (by omega) hq, decide_eq_false hm2.1, cm_8 hq]
      cases ho : pq_own σ (nI k) s q with
      | true =>
        unfold pq_own at ho
        rw [Bool.and_eq_true, decide_eq_true_eq, decide_eq_true_eq] at ho
        rw [if_pos ho.1, decide_eq_false (show ¬ nI (σ.2.1 4) < nI (r + 1) from fun z => by have := (nI_ltI (by omega) (by omega)).mp z; omega)]
        have : pq_own σ (nI t) s q = false := by
          unfold pq_own
          rw [decide_eq_false (fun z => hm2.1 (pq_nI_inj (by omega) (by omega) (z.symm.trans ho.1)))]; rfl
        rw [this]; simp
      | false =>
        cases ht : pq_own σ (nI t) s q with
        | false => simp
        | true =>
          unfold pq_own at ht
          rw [Bool.and_eq_true, decide_eq_true_eq, decide_eq_true_eq] at ht
          rw [if_neg (fun z => hm2.1 (pq_nI_inj (by omega) (by omega) (ht.1.symm.trans z)))]; simp
    rw [cm_wr, this]
    exact j5 r t s hr t1 t2 hm2.2 hs
  · intro t t1 t2 t3
    rw [cc] at t2
    rw [(cm_1 k P).1, upd_at] at t3
    rw [a15, (cm_1 k P).2.1, upd_at]
    by_cases e : t = k
    · rw [if_pos e] at t3; exact absurd t3 (by decide)
    · rw [if_neg e] at t3 ⊢
      exact j6 t t1 t2 t3
  · intro i
    refine ⟨?_, ?_, (j7 i).2.2⟩
    · show vp_nar .byte (m_zero (m_mg (m_mw τ k) (τ.1 1) (520 * k) (520 * P) 520) k 520 i) = m_zero (m_mg (m_mw τ k) (τ.1 1) (520 * k) (520 * P) 520) k 520 i
      unfold m_zero va_cpy m_mg
      split
      · rfl
      · split
        · exact (j7 _).1
        · exact (j7 _).1
    · show vp_nar .byte (m_zero (m_mg (m_mh τ k P) (τ.1 3) (520 * k) (520 * P) 520) k 520 i) = m_zero (m_mg (m_mh τ k P) (τ.1 3) (520 * k) (520 * P) 520) k 520 i
      unfold m_zero va_cpy m_mg
      split
      · rfl
      · split
        · exact (j7 _).2.1
        · exact (j7 _).2.1
  · exact m_end_S j8 _ _
theorem rel_commit (hR : Rel c σ τ) (hc : c < 512) (t : Int32) : (u_commit σ t).1 = (m_commit τ t).1 ∧ Rel (c + 1) (u_commit σ t).2 (m_commit τ t).2 := by
  have hI := hR.1
  have hB := hR.2.1
  have hn := hI.n
  unfold u_commit m_commit
  rw [← rel_can hI hB]
  by_cases ha : u_can σ t = true
  · rw [if_pos ha, if_pos ha]
    have ha' := ha
    unfold u_can at ha'
    rw [Bool.and_eq_true, decide_eq_true_eq] at ha'
    obtain ⟨k, k1, k2, rfl, k3⟩ := (u_act_iff hI.1.1).mp ha'.1
    have hkid := ha'.2
    rw [nI_clamp (by omega)] at hkid ⊢
    obtain ⟨g1, g2⟩ := hI.1.1.2 k k1 k2
    rw [g1, hB.Q, rel_keys hI hR.2.2.1 (by omega)]
    refine ⟨rfl, (show Rel c (u_cm σ k (uQ σ k)) (m_end (m_merge τ k (uQ σ k) 520) k 1) from ⟨cm_I hI k1 k2 k3 g2 rfl ?_, cm_J hR k1 k2 k3 g2⟩).up hc⟩
    intro u u1 u2 u3 u4
    obtain ⟨y1, y2⟩ := hI.1.1.2 u u1 u2
    have hz : ∀ j, j < σ.2.1 0 + 1 → (decide (k < j) && decide (σ.1 0 j = nI k) && decide (σ.1 1 j = 0)) = false := by
      intro j hj
      cases hv : (decide (k < j) && decide (σ.1 0 j = nI k) && decide (σ.1 1 j = 0)) with
      | false => rfl
      | true =>
        exfalso
        have := pq_cnt_lt (p := fun _ => false) (q := fun u => decide (k < u) && decide (σ.1 0 u = nI k) && decide (σ.1 1 u = 0)) (n := σ.2.1 0 + 1) (i := j) (fun _ _ h => by cases h) hj rfl hv
        have h0 : pq_cnt (fun u => decide (k < u) && decide (σ.1 0 u = nI k) && decide (σ.1 1 u = 0)) (σ.2.1 0 + 1) = 0 := hkid
        omega
    have := hz u (by omega)
    rw [y1, u4, decide_eq_true (show k < u by omega), decide_eq_true rfl, decide_eq_true u3] at this
    cases this
  · rw [if_neg ha, if_neg ha]
    exact ⟨rfl, hR.up hc⟩
end S8
