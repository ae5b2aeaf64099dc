section S2
variable {c : Nat} {σ τ : ST}
theorem rel_write (hR : Rel c σ τ) (hw : σ.2.1 2 < c) {k s : Nat} {v : Int32} {b : Bool} (k1 : 1 ≤ k) (k2 : k ≤ σ.2.1 0) (k3 : σ.1 1 k = 0) (hs : s < σ.2.1 1) (hv : b = true → v = 0)
    (hline : ∀ q a, q < σ.2.1 2 → a ≤ σ.2.1 0 → σ.1 5 q = nI s → σ.1 4 q = nI a → pq_on (uQ σ) k a = true)
    (hhold : ∃ q, q < σ.2.1 3 ∧ σ.1 11 q = nI k ∧ σ.1 12 q = nI s ∧ σ.1 13 q = 2) : Rel c (u_write σ (nI k) (nI s) v b (nI (σ.2.1 4))) (m_wrt τ (520 * k + s) (if b = true then 2 else 1) v) := by
  have hn := hR.1.n
  obtain ⟨⟨f1, ⟨c1, c2, c3, c4, c5⟩, h3, h4, h5, h6, h7, h8, h9⟩, b1, j2, j3, j4, j5, j6, j7, j8, j9⟩ := hR
  have wold : ∀ x, (∀ r, x = some r → r < σ.2.1 2) → u_wr (u_write σ (nI k) (nI s) v b (nI (σ.2.1 4))) x = u_wr σ x := by
    intro x hx
    cases x with
    | none => rfl
    | some r =>
      have := hx r rfl
      show (if upd (σ.1 7) (σ.2.1 2) (pq_b b) r = 0 then (1, upd (σ.1 6) (σ.2.1 2) v r) else (2, 0)) = _
      rw [upd_ne _ _ (by omega), upd_ne _ _ (by omega)]
      rfl
  have wnew : u_wr (u_write σ (nI k) (nI s) v b (nI (σ.2.1 4))) (some (σ.2.1 2)) = ((if b = true then 2 else 1), v) := by
    show (if upd (σ.1 7) (σ.2.1 2) (pq_b b) (σ.2.1 2) = 0 then (1, upd (σ.1 6) (σ.2.1 2) v (σ.2.1 2)) else (2, 0)) = _
    rw [upd_eq, upd_eq]
    cases b with
    | true => rw [hv rfl]; rfl
    | false => rfl
  have ownlt : ∀ t' k' r, r < σ.2.1 2 → pq_own (u_write σ (nI k) (nI s) v b (nI (σ.2.1 4))) t' k' r = pq_own σ t' k' r := by
    intro t' k' r hr
    show (decide (upd (σ.1 4) (σ.2.1 2) (nI k) r = t') && decide (upd (σ.1 5) (σ.2.1 2) (nI s) r = nI k')) = _
    rw [upd_ne _ _ (by omega), upd_ne _ _ (by omega)]
    rfl
  have ownew : ∀ t' k', pq_own (u_write σ (nI k) (nI s) v b (nI (σ.2.1 4))) t' k' (σ.2.1 2) = (decide (nI k = t') && decide (nI s = nI k')) := by
    intro t' k'
    show (decide (upd (σ.1 4) (σ.2.1 2) (nI k) (σ.2.1 2) = t') && decide (upd (σ.1 5) (σ.2.1 2) (nI s) (σ.2.1 2) = nI k')) = _
    simp only [upd_eq]
  have last : ∀ t' k', u_last (u_write σ (nI k) (nI s) v b (nI (σ.2.1 4))) t' k' = if (decide (nI k = nI t') && decide (nI s = nI k')) = true then some (σ.2.1 2) else u_last σ t' k' := by
    intro t' k'
    show pq_lst (pq_own (u_write σ (nI k) (nI s) v b (nI (σ.2.1 4))) (nI t') k') (σ.2.1 2 + 1) = _
    simp only [pq_lst]
    rw [ownew, pq_lst_congr (fun r hr => ownlt (nI t') k' r hr)]
    rfl
  refine ⟨⟨f1, ⟨c1, c2, ?_, c4, c5⟩, ?_, ?_, h5, h6, ?_, h8, h9⟩, b1, ?_, j3, j4, ?_, j6, ?_, j8, j9⟩
  · show σ.2.1 2 + 1 ≤ c; omega
  · intro r hr
    have hr : r < σ.2.1 2 + 1 := hr
    show (upd (σ.1 4) (σ.2.1 2) (nI k) r = -1 ∨ ∃ o, o ≤ σ.2.1 0 ∧ upd (σ.1 4) (σ.2.1 2) (nI k) r = nI o ∧ (o = 0 ∨ σ.1 1 o = 0)) ∧ (∃ s', s' < σ.2.1 1 ∧ upd (σ.1 5) (σ.2.1 2) (nI s) r = nI s') ∧ (upd (σ.1 7) (σ.2.1 2) (pq_b b) r = 0 ∨ upd (σ.1 7) (σ.2.1 2) (pq_b b) r = 1) ∧ ∃ z, z ≤ σ.2.1 4 ∧ upd (σ.1 8) (σ.2.1 2) (nI (σ.2.1 4)) r = nI z
    by_cases e : r = σ.2.1 2
    · rw [e, upd_eq, upd_eq, upd_eq, upd_eq]
      exact ⟨Or.inr ⟨k, k2, rfl, Or.inr k3⟩, ⟨s, hs, rfl⟩, by cases b <;> simp [pq_b], _, Nat.le_refl _, rfl⟩
    · rw [upd_ne _ _ e, upd_ne _ _ e, upd_ne _ _ e, upd_ne _ _ e]
      exact h3 r (by omega)
  · intro q r hqr hr z1 a b' ha hb za zb
    have hr : r < σ.2.1 2 + 1 := hr
    have z1 : upd (σ.1 5) (σ.2.1 2) (nI s) q = upd (σ.1 5) (σ.2.1 2) (nI s) r := z1
    have za : upd (σ.1 4) (σ.2.1 2) (nI k) q = nI a := za
    have zb : upd (σ.1 4) (σ.2.1 2) (nI k) r = nI b' := zb
    have ha : a ≤ σ.2.1 0 := ha
    have hb : b' ≤ σ.2.1 0 := hb
    show pq_on (uQ σ) b' a = true
    rw [upd_ne _ _ (show q ≠ σ.2.1 2 by omega)] at z1 za
    by_cases e : r = σ.2.1 2
    · rw [e, upd_eq] at z1 zb
      rw [← pq_nI_inj (by omega) (by omega) zb]
      exact hline q a (by omega) ha z1 za
    · rw [upd_ne _ _ e] at z1 zb
      exact h4 q r hqr (by omega) z1 a b' ha hb za zb
  · intro r o hr o1 o2 o3
    have hr : r < σ.2.1 2 + 1 := hr
    have o3 : upd (σ.1 4) (σ.2.1 2) (nI k) r = nI o := o3
    show ∃ q, q < σ.2.1 3 ∧ σ.1 11 q = nI o ∧ σ.1 12 q = upd (σ.1 5) (σ.2.1 2) (nI s) r ∧ σ.1 13 q = 2
    by_cases e : r = σ.2.1 2
    · rw [e, upd_eq] at o3
      rw [e, upd_eq, ← o3]
      exact hhold
    · rw [upd_ne _ _ e] at o3 ⊢
      exact h7 r o (by omega) o1 o2 o3
  · intro t' k' ht' hk'
    show (upd (τ.1 1) (520 * k + s) _ (520 * t' + k'), upd (τ.1 2) (520 * k + s) v (520 * t' + k')) = _
    by_cases e : t' = k ∧ k' = s
    · have e' : u_last (u_write σ (nI k) (nI s) v b (nI (σ.2.1 4))) k s = some (σ.2.1 2) := by rw [last, if_pos (by simp)]
      rw [e.1, e.2, upd_eq, upd_eq, e', wnew]
    · have e' : u_last (u_write σ (nI k) (nI s) v b (nI (σ.2.1 4))) t' k' = u_last σ t' k' := by
        rw [last, if_neg]
        rw [Bool.and_eq_true, decide_eq_true_eq, decide_eq_true_eq]
        rintro ⟨z1, z2⟩
        exact e ⟨(pq_nI_inj (by omega) (by omega) z1).symm, (pq_nI_inj (by omega) (by omega) z2).symm⟩
      rw [upd_ne _ _ (by omega), upd_ne _ _ (by omega), e', wold (u_last σ t' k') (fun r hr => (pq_lst_some.mp hr).1)]
      exact j2 t' k' ht' hk'
  · intro r t' k' hr t1 t2 hm hk'
    have hr : r < σ.2.1 4 := hr
    have : u_old (u_write σ (nI k) (nI s) v b (nI (σ.2.1 4))) t' k' r = u_old σ t' k' r := by
      show pq_lst (fun q => pq_own (u_write σ (nI k) (nI s) v b (nI (σ.2.1 4))) (nI t') k' q && decide (upd (σ.1 8) (σ.2.1 2) (nI (σ.2.1 4)) q < nI (r + 1))) (σ.2.1 2 + 1) = _
      simp only [pq_lst]
      rw [if_neg (by rw [upd_eq, decide_eq_false (fun z => by have := (nI_ltI (by omega) (by omega)).mp z; omega)]; simp)]
      exact pq_lst_congr (fun q hq => by rw [ownlt _ _ q hq, upd_ne _ _ (by omega)])
    show (τ.1 10 _, τ.1 11 _) = _
    rw [this, wold (u_old σ t' k' r) (fun r hr => (pq_lst_some.mp hr).1)]
    exact j5 r t' k' hr t1 t2 hm hk'
  · intro i
    refine ⟨?_, (j7 i).2.1, (j7 i).2.2⟩
    show vp_nar .byte (upd (τ.1 1) _ _ i) = upd (τ.1 1) _ _ i
    rw [upd_at]
    split
    · cases b <;> decide
    · exact (j7 i).1
theorem u_find_reg (σ : ST) (key : Int32) : u_find (u_reg σ key).1 key = some (u_reg σ key).2 := by
  unfold u_reg
  cases hf : u_find σ key with
  | some i => exact hf
  | none =>
    show pq_fst (fun j => decide (upd (σ.1 3) (σ.2.1 1) key j = key)) (σ.2.1 1 + 1) = some (σ.2.1 1)
    refine pq_fst_some.mpr ⟨by omega, decide_eq_true (upd_eq _ _ _), fun j hj => ?_⟩
    rw [upd_ne _ _ (by omega)]
    exact pq_fst_none.mp hf j hj
theorem u_hold_a (σ : ST) (t x y : Int32) (j : Nat) (hj : decide (j ≠ 11 ∧ j ≠ 12 ∧ j ≠ 13) = true) : (u_hold σ t x y).1 j = σ.1 j := by
  have h := of_decide_eq_true hj
  unfold u_hold
  split
  · exact if_neg h.2.2
  · show (if j = 13 then _ else if j = 12 then _ else if j = 11 then _ else σ.1 j) = _
    rw [if_neg h.2.2, if_neg h.2.1, if_neg h.1]
theorem u_val_N (x : Int32) : ¬ x.toInt64 = 1099511627776 := by
  intro h
  have h1 := congrArg Int64.toInt h
  rw [Int32.toInt_toInt64] at h1
  have h2 := Int32.toInt_lt x
  have h3 : (1099511627776 : Int64).toInt = 1099511627776 := by decide
  omega
theorem u_seen_has (σ : ST) {k s : Nat} {key : Int32} (hf : u_find σ key = some s) : (!decide (u_seen σ k key = 1099511627776)) = u_has σ (u_row σ k s) := by
  unfold u_seen
  rw [hf]
  show (!decide (u_val σ (u_row σ k s) = 1099511627776)) = _
  cases u_row σ k s with
  | none => rfl
  | some r =>
    show (!decide ((if σ.1 7 r = 0 then (σ.1 6 r).toInt64 else 1099511627776) = 1099511627776)) = decide (σ.1 7 r = 0)
    by_cases e : σ.1 7 r = 0
    · rw [if_pos e, decide_eq_false (u_val_N _), decide_eq_true e]; rfl
    · rw [if_neg e, decide_eq_false e]; rfl
theorem rel_may (hR : Rel c σ τ) (hh : σ.2.1 3 < c) {k s : Nat} {y : Bool} (k1 : 1 ≤ k) (k2 : k ≤ σ.2.1 0) (k3 : σ.1 1 k = 0) (hs : s < σ.2.1 1) (hl : m_fst τ k s y = 0) : Rel c (u_hold (u_calm σ k) (nI k) (nI s) (if y = true then 2 else 1)) (m_may τ k s y) := by
  rw [show m_may τ k s y = sa (sa (sa τ 6 (upd (τ.1 6) k (-1))) 7 (upd (τ.1 7) k (pq_b y))) 3 (upd (τ.1 3) (520 * k + s) (m_hk τ (520 * k + s) y)) from if_pos hl]
  exact rel_hold (rel_calm hR y k1 k2) hh k1 k2 k3 hs
theorem rel_get (hR : Rel c σ τ) (hc : c < 512) (t key : Int32) : (u_get σ t key).1 = (m_get τ t key).1 ∧ Rel (c + 1) (u_get σ t key).2 (m_get τ t key).2 := by
  have hI := hR.1
  have hB := hR.2.1
  have hn := hI.n
  have hcc := hI.2.1
  by_cases h0 : t = 0
  · rw [show u_get σ t key = (u_seen σ 0 key, σ) from if_pos h0, show m_get τ t key = (m_val0 τ (m_find τ key), τ) from if_pos h0]
    refine ⟨?_, hR.up hc⟩
    show u_seen σ 0 key = m_val0 τ (m_find τ key)
    rw [hB.find]
    unfold u_seen
    cases hf : u_find σ key with
    | none => rfl
    | some s =>
      have hs := u_find_520 hI hf
      have := rel_mval hI hB hR.2.2.1 (k := 0) (s := s) (by omega) (by omega)
      show u_val σ (u_row σ 0 s) = if τ.1 1 s = 1 then (τ.1 2 s).toInt64 else 1099511627776
      rw [← this]
      unfold m_val m_sees
      rw [show m_src τ 0 s = 0 from rfl, show 520 * 0 + s = s by omega]
      by_cases e : τ.1 1 s = 1
      · rw [if_pos e, if_pos (decide_eq_true e)]
      · rw [if_neg e, if_neg (by rw [decide_eq_false e]; decide)]
  · by_cases ha : u_act σ t = true
    · obtain ⟨k, k1, k2, rfl, k3⟩ := (u_act_iff hI.1.1).mp ha
      obtain ⟨e1, hR1⟩ := rel_reg hR hc key
      have hcl := nI_clamp (show k < 2 ^ 31 by omega)
      have hreg := u_reg_k σ key
      have k2' : k ≤ (u_reg σ key).1.2.1 0 := by rw [u_reg_c σ key 0 (by decide)]; exact k2
      have k3' : (u_reg σ key).1.1 1 k = 0 := by unfold u_reg; split <;> exact k3
      have hs5 : (u_reg σ key).2 < 520 := by have := hcc.2.1; omega
      have hl := rel_least hR1.1 hR1.2.1 hR1.2.2.2.1 (y := false) k1 k2' hs5
      have hl : u_least (u_reg σ key).1 k (nI (u_reg σ key).2) 1 = m_fst (m_reg τ key).1 k (u_reg σ key).2 false := hl
      have hu : u_get σ (nI k) key = _ := (if_neg h0).trans (if_pos ha)
      have hm : m_get τ (nI k) key = _ := (if_neg h0).trans (if_pos (by rw [hB.act]; exact ha))
      rw [hcl] at hu hm
      rw [hu, hm, e1, hl]
      by_cases hz : m_fst (m_reg τ key).1 k (u_reg σ key).2 false = 0
      · rw [if_pos hz, if_pos hz]
        have hR2 := rel_may hR1 (by rw [u_reg_c σ key 3 (by decide)]; have := hcc.2.2.2.1; omega) (y := false) k1 k2' k3' hreg.2 hz
        have hR2 : Rel (c + 1) (u_hold (u_calm (u_reg σ key).1 k) (nI k) (nI (u_reg σ key).2) 1) (m_may (m_reg τ key).1 k (u_reg σ key).2 false) := hR2
        refine ⟨?_, hR2⟩
        have hf2 : u_find (u_hold (u_calm (u_reg σ key).1 k) (nI k) (nI (u_reg σ key).2) 1) key = some (u_reg σ key).2 := by
          unfold u_find
          rw [u_hold_a _ _ _ _ 3 rfl, u_hold_c _ _ _ _ 1 (by decide)]
          exact u_find_reg σ key
        show u_seen _ k key = m_val _ k _
        unfold u_seen
        rw [hf2]
        exact (rel_mval hR2.1 hR2.2.1 hR2.2.2.1 (by rw [u_hold_c _ _ _ _ 0 (by decide)]; exact k2') hs5).symm
      · rw [if_neg hz, if_neg hz]
        exact ⟨rfl, rel_wishing hR1 (y := false) k1 k2' k3' hreg.2 hz⟩
    · rw [show u_get σ t key = (4398046511104, σ) from (if_neg h0).trans (if_neg ha), show m_get τ t key = (4398046511104, τ) from (if_neg h0).trans (if_neg (by rw [hB.act]; exact ha))]
      exact ⟨rfl, hR.up hc⟩
theorem rel_change (hR : Rel c σ τ) (hc : c < 512) (t key v : Int32) (b : Bool) (hv : b = true → v = 0) : (u_change σ t key v b).1 = (m_change τ t key v b).1 ∧ Rel (c + 1) (u_change σ t key v b).2 (m_change τ t key v b).2 := by
  have hI := hR.1
  have hB := hR.2.1
  have hn := hI.n
  have hcc := hI.2.1
  by_cases ha : u_act σ t = true
  · obtain ⟨k, k1, k2, rfl, k3⟩ := (u_act_iff hI.1.1).mp ha
    obtain ⟨e1, hR1⟩ := rel_reg hR hc key
    have hcl := nI_clamp (show k < 2 ^ 31 by omega)
    have hreg := u_reg_k σ key
    have k2' : k ≤ (u_reg σ key).1.2.1 0 := by rw [u_reg_c σ key 0 (by decide)]; exact k2
    have k3' : (u_reg σ key).1.1 1 k = 0 := by unfold u_reg; split <;> exact k3
    have hs5 : (u_reg σ key).2 < 520 := by have := hcc.2.1; omega
    have hl := rel_least hR1.1 hR1.2.1 hR1.2.2.2.1 (y := true) k1 k2' hs5
    have hl : u_least (u_reg σ key).1 k (nI (u_reg σ key).2) 2 = m_fst (m_reg τ key).1 k (u_reg σ key).2 true := hl
    have hu : u_change σ (nI k) key v b = _ := if_pos ha
    have hm : m_change τ (nI k) key v b = _ := if_pos (by rw [hB.act]; exact ha)
    rw [hcl] at hu hm
    rw [hu, hm, e1, hl]
    by_cases hz : m_fst (m_reg τ key).1 k (u_reg σ key).2 true = 0
    · rw [if_pos hz, if_pos hz]
      have hR2 := rel_may hR1 (by rw [u_reg_c σ key 3 (by decide)]; have := hcc.2.2.2.1; omega) (y := true) k1 k2' k3' hreg.2 hz
      have hR2 : Rel (c + 1) (u_hold (u_calm (u_reg σ key).1 k) (nI k) (nI (u_reg σ key).2) 2) (m_may (m_reg τ key).1 k (u_reg σ key).2 true) := hR2
      have k2h : k ≤ (u_hold (u_calm (u_reg σ key).1 k) (nI k) (nI (u_reg σ key).2) 2).2.1 0 := by rw [u_hold_c _ _ _ _ 0 (by decide)]; exact k2'
      have hsees := rel_sees hR2.1 hR2.2.1 hR2.2.2.1 k2h hs5
      have hrow : u_has (u_hold (u_calm (u_reg σ key).1 k) (nI k) (nI (u_reg σ key).2) 2) (u_row (u_hold (u_calm (u_reg σ key).1 k) (nI k) (nI (u_reg σ key).2) 2) k (u_reg σ key).2) = u_has (u_calm (u_reg σ key).1 k) (u_row (u_calm (u_reg σ key).1 k) k (u_reg σ key).2) := by
        have r1 : u_row (u_hold (u_calm (u_reg σ key).1 k) (nI k) (nI (u_reg σ key).2) 2) k (u_reg σ key).2 = u_row (u_calm (u_reg σ key).1 k) k (u_reg σ key).2 := by
          unfold u_row u_sees uQ
          rw [u_hold_a _ _ _ _ 0 rfl, u_hold_a _ _ _ _ 4 rfl, u_hold_a _ _ _ _ 5 rfl, u_hold_c _ _ _ _ 2 (by decide)]
        rw [r1]
        cases u_row (u_calm (u_reg σ key).1 k) k (u_reg σ key).2 with
        | none => rfl
        | some r => simp only [u_has]; rw [u_hold_a _ _ _ _ 7 rfl]
      have hsaw := u_seen_has (u_calm (u_reg σ key).1 k) (k := k) (u_find_reg σ key : u_find (u_calm (u_reg σ key).1 k) key = some (u_reg σ key).2)
      refine ⟨?_, ?_⟩
      · show (if (!decide (u_seen (u_calm (u_reg σ key).1 k) k key = 1099511627776)) = b then (1 : Int32) else 0) = (if m_sees (m_may (m_reg τ key).1 k (u_reg σ key).2 true) k (u_reg σ key).2 = b then 1 else 0)
        rw [hsaw, hsees, hrow]
      · have hmc : σ.2.1 4 = (u_hold (u_calm (u_reg σ key).1 k) (nI k) (nI (u_reg σ key).2) 2).2.1 4 := by rw [u_hold_c _ _ _ _ 4 (by decide)]; exact (u_reg_c σ key 4 (by decide)).symm
        show Rel (c + 1) (u_write _ (nI k) (nI (u_reg σ key).2) v b (nI (σ.2.1 4))) (m_wrt _ (520 * k + (u_reg σ key).2) _ v)
        rw [hmc]
        refine rel_write hR2 ?_ k1 k2h ?_ ?_ hv ?_ ?_
        · rw [u_hold_c _ _ _ _ 2 (by decide)]
          show (u_reg σ key).1.2.1 2 < c + 1
          rw [u_reg_c σ key 2 (by decide)]
          have := hcc.2.2.1; omega
        · rw [u_hold_a _ _ _ _ 1 rfl]; exact k3'
        · rw [u_hold_c _ _ _ _ 1 (by decide)]; exact hreg.2
        · intro q a hq ha2 z1 z2
          rw [u_hold_c _ _ _ _ 2 (by decide)] at hq
          rw [u_hold_c _ _ _ _ 0 (by decide)] at ha2
          rw [u_hold_a _ _ _ _ 5 rfl] at z1
          rw [u_hold_a _ _ _ _ 4 rfl] at z2
          have hQ : uQ (u_hold (u_calm (u_reg σ key).1 k) (nI k) (nI (u_reg σ key).2) 2) = uQ (u_reg σ key).1 := by unfold uQ; rw [u_hold_a _ _ _ _ 0 rfl]; rfl
          rw [hQ]
          have hq : q < (u_reg σ key).1.2.1 2 := hq
          have ha2 : a ≤ (u_reg σ key).1.2.1 0 := ha2
          have z1 : (u_reg σ key).1.1 5 q = nI (u_reg σ key).2 := z1
          have z2 : (u_reg σ key).1.1 4 q = nI a := z2
          have hn1 := hR1.1.n
          rcases Nat.eq_zero_or_pos a with e | e
          · rw [e]; exact pq_on_root hR1.1.dn k k2'
          · obtain ⟨p, p1, p2, p3, p4⟩ := hR1.1.2.2.2.2.2.2.1 q a hq e ha2 z2
            have hlz : u_least (u_reg σ key).1 k (nI (u_reg σ key).2) 2 = 0 := hl.trans hz
            cases hon : pq_on (uQ (u_reg σ key).1) k a with
            | true => rfl
            | false =>
              exfalso
              have hway : m_way (m_reg τ key).1 k (u_reg σ key).2 true a = true := (rel_way hR1.1 hR1.2.1 hR1.2.2.2.1 (y := true) k1 k2' hs5 e ha2).mpr ⟨p, p1, by
                unfold u_way
                rw [p2, nI_clamp (by omega), hon, p3, z1, decide_eq_false (pq_nI_m1 (by omega))]
                simp, p2⟩
              have hfz := hz
              unfold m_fst at hfz
              cases hf : pq_fst (fun j => m_way (m_reg τ key).1 k (u_reg σ key).2 true (j + 1)) ((m_reg τ key).1.2.1 1) with
              | none =>
                have := pq_fst_none.mp hf (a - 1) (by rw [hR1.2.1.2.2.2.2.1]; omega)
                rw [show a - 1 + 1 = a by omega, hway] at this
                cases this
              | some j =>
                rw [hf] at hfz
                have hj := (pq_fst_some.mp hf).1
                rw [hR1.2.1.2.2.2.2.1] at hj
                exact nI_ne0 (by omega) (show j + 1 < 2 ^ 31 by omega) hfz
        · have hkk := u_hold_kind (σ := u_calm (u_reg σ key).1 k) (k := k) (s := (u_reg σ key).2) (by omega) (by omega) (y := 2) (by decide) k (u_reg σ key).2 (by omega) (by omega)
          rw [if_pos ⟨rfl, rfl⟩] at hkk
          have hk2 : u_kind (u_hold (u_calm (u_reg σ key).1 k) (nI k) (nI (u_reg σ key).2) 2) (nI k) (nI (u_reg σ key).2) = 2 := by
            rw [hkk]
            rcases u_kind_range (rel_calm hR1 true k1 k2').1 (nI k) (nI (u_reg σ key).2) with q | q | q <;> (rw [q]; decide)
          unfold u_kind at hk2
          cases hr : u_hrow (u_hold (u_calm (u_reg σ key).1 k) (nI k) (nI (u_reg σ key).2) 2) (nI k) (nI (u_reg σ key).2) with
          | none => rw [hr] at hk2; exact absurd (show (0 : Int32) = 2 from hk2) (by decide)
          | some q =>
            rw [hr] at hk2
            obtain ⟨q1, q2, q3⟩ := u_hrow_lt hr
            exact ⟨q, q1, q2, q3, hk2⟩
    · rw [if_neg hz, if_neg hz]
      exact ⟨rfl, rel_wishing hR1 (y := true) k1 k2' k3' hreg.2 hz⟩
  · rw [show u_change σ t key v b = (-1, σ) from if_neg ha, show m_change τ t key v b = (-1, τ) from if_neg (by rw [hB.act]; exact ha)]
    exact ⟨rfl, hR.up hc⟩
end S2
