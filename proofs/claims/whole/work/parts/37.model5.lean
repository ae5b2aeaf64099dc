theorem hiX8_back_8 : ∀ w ∈ wsX80, w ∈ wsX8_back := by decide +kernel
theorem flX8_back_103 : ux_F wsX8_back RX8 103 RX8 TX8 16 14 := ⟨hiX8_back_8, by decide, by decide +kernel⟩
theorem flX8_back_37 : ux_F wsX8_back RX8 37 RX8 TX8 16 10 := ⟨hiX8_back_8, by decide, by decide +kernel⟩
theorem flX8_back_40 : ux_F wsX8_back RX8 40 RX8 TX8 16 11 := ⟨hiX8_back_8, by decide, by decide +kernel⟩
theorem hiX8_commit_8 : ∀ w ∈ wsX80, w ∈ wsX8_commit := by decide +kernel
theorem flX8_commit_21 : ux_F wsX8_commit RX8 21 RX8 TX8 16 4 := ⟨hiX8_commit_8, by decide, by decide +kernel⟩
theorem flX8_commit_14 : ux_F wsX8_commit RX8 14 RX8 TX8 16 2 := ⟨hiX8_commit_8, by decide, by decide +kernel⟩
theorem flX8_commit_18 : ux_F wsX8_commit RX8 18 RX8 TX8 16 3 := ⟨hiX8_commit_8, by decide, by decide +kernel⟩
theorem flX8_commit_24 : ux_F wsX8_commit RX8 24 RX8 TX8 16 5 := ⟨hiX8_commit_8, by decide, by decide +kernel⟩
theorem hiX8_abort_8 : ∀ w ∈ wsX80, w ∈ wsX8_abort := by decide +kernel
theorem flX8_abort_53 : ux_F wsX8_abort RX8 53 RX8 TX8 16 7 := ⟨hiX8_abort_8, by decide, by decide +kernel⟩
theorem gkX8_back_68 : ux_G wsX8_back RX8 68 RX8 yX8_isActive wsX8_isActive 1 := ⟨gX8_back_X8_isActive, by decide +kernel⟩
theorem gkX8_back_106 : ux_G wsX8_back RX8 106 RX8 yX8_children wsX8_children 1 := ⟨gX8_back_X8_children, by decide +kernel⟩
theorem gkX8_back_100 : ux_G wsX8_back RX8 100 RX8 yX8_marksOf wsX8_marksOf 1 := ⟨gX8_back_X8_marksOf, by decide +kernel⟩
theorem gkX8_back_109 : ux_G wsX8_back RX8 109 RX8 yX8_restore wsX8_restore 2 := ⟨gX8_back_X8_restore, by decide +kernel⟩
theorem gkX8_commit_68 : ux_G wsX8_commit RX8 68 RX8 yX8_isActive wsX8_isActive 1 := ⟨gX8_commit_X8_isActive, by decide +kernel⟩
theorem gkX8_commit_106 : ux_G wsX8_commit RX8 106 RX8 yX8_children wsX8_children 1 := ⟨gX8_commit_X8_children, by decide +kernel⟩
theorem gkX8_commit_112 : ux_G wsX8_commit RX8 112 RX8 yX8_end wsX8_end 2 := ⟨gX8_commit_X8_end, by decide +kernel⟩
theorem gkX8_abort_68 : ux_G wsX8_abort RX8 68 RX8 yX8_isActive wsX8_isActive 1 := ⟨gX8_abort_X8_isActive, by decide +kernel⟩
theorem gkX8_abort_112 : ux_G wsX8_abort RX8 112 RX8 yX8_end wsX8_end 2 := ⟨gX8_abort_X8_end, by decide +kernel⟩
theorem gkX8_abort_72 : ux_G wsX8_abort RX8 72 RX8 yX8_isAncestor wsX8_isAncestor 2 := ⟨gX8_abort_X8_isAncestor, by decide +kernel⟩
set_option maxHeartbeats 4000000 in
set_option maxRecDepth 100000 in
theorem c_X8_back (l : Launch) (D : va_G) (ad : Nat → Nat) (cA : Nat → ClassId) (A : Nat → Prop) (σ : ST) (t x : Int32) (hF : mF σ) (hB : mB σ) (hS : mS σ) (hm : σ.2.1 2 ≤ 512) : ux_I l D vwCl (tyM cA) (wM ad cA) A yX8_back wsX8_back (ux_rm 2) [.ref (ad 0), .int t, .int x] σ (fun r σ' => r = (m_back σ t x).1 ∧ σ' = (m_back σ t x).2) := by
  refine ux_ofI (cc := cX8_back) (maxL := 6) (ret := (some .int)) (Ts := wsX8_back) (lv := [(0, .ref (ad 0)), (1, .int t), (2, .int x)]) (by decide) rfl (fun _ h => h) (Nat.le_of_ble_eq_true rfl) rfl ?_
  intro p e s m below meth c C
  have hF0 := hF.1
  refine ux_aload_n C dX8_back_0 0 rfl ?_
  refine ux_iload_n C dX8_back_1 1 rfl ?_
  refine ux_callI C gkX8_back_68 (c_X8_isActive l D ad cA A σ t hF0) rfl ⟨rfl, rfl⟩ ⟨(Nat.le_of_ble_eq_true rfl), (Nat.le_of_ble_eq_true rfl)⟩ ⟨Nat.le_refl _, Nat.le_refl _⟩ 0 rfl rfl rfl rfl (Nat.le_of_ble_eq_true rfl) dX8_back_2 (fun r σ1 hr => ?_)
  obtain ⟨rfl, rfl⟩ := hr
  refine ux_if_eq C 29 dX8_back_5 (by decide) (fun h => ?_) (fun h => ?_)
  · have ha := (pq_b0 _).mp h
    have hu : m_back σ t x = (-1, σ) := if_neg (by rw [m_can, ha]; simp)
    refine ux_iconst C ((-1 : Int32)) dX8_back_29 (by decide) ?_
    exact ux_iret C dX8_back_30 (by rw [hu]; exact ⟨rfl, rfl⟩)
  · have ha := (pq_bn0 _).mp h
    obtain ⟨k, k1, k2, rfl, k3⟩ := (m_act_iff hF).mp ha
    have hcl := nI_clamp (Nat.lt_of_le_of_lt (Nat.le_trans k2 hF.1) (show 150 < 2 ^ 31 by decide))
    have hkid : m_kids σ k ≤ σ.2.1 1 + 1 := pq_cnt_le _ _
    refine ux_aload_n C dX8_back_8 0 rfl ?_
    refine ux_iload_n C dX8_back_9 1 rfl ?_
    refine ux_callI C gkX8_back_106 (c_X8_children l D ad cA A σ k hF (by omega)) rfl ⟨rfl, rfl⟩ ⟨(Nat.le_of_ble_eq_true rfl), (Nat.le_of_ble_eq_true rfl)⟩ ⟨Nat.le_refl _, Nat.le_refl _⟩ 0 rfl rfl rfl rfl (Nat.le_of_ble_eq_true rfl) dX8_back_10 (fun r σ1 hr => ?_)
    obtain ⟨rfl, rfl⟩ := hr
    refine ux_if_gt C 29 dX8_back_13 (by decide) (fun h2 => ?_) (fun h2 => ?_)
    · have h2 : ¬ m_kids σ k = 0 := fun e => by rw [e] at h2; exact absurd h2 (by decide)
      have hu : m_back σ (nI k) x = (-1, σ) := if_neg (by rw [m_can, hcl, decide_eq_false h2]; simp)
      refine ux_iconst C ((-1 : Int32)) dX8_back_29 (by decide) ?_
      exact ux_iret C dX8_back_30 (by rw [hu]; exact ⟨rfl, rfl⟩)
    · have h2 : m_kids σ k = 0 := by
        rcases Nat.eq_zero_or_pos (m_kids σ k) with e | e
        · exact e
        · exact absurd ((nI_ltI (a := 0) (by omega) (by omega)).mpr e) h2
      have hcan : m_can σ (nI k) = true := by rw [m_can, ha, hcl, decide_eq_true h2]; rfl
      have hu0 : m_back σ (nI k) x = (match m_mrow σ (nI k) x with
        | none => (-1, σ)
        | some q => (nI (m_dif σ k q), m_bk σ k q (σ.2.1 2))) := by rw [m_back, if_pos hcan, hcl] <;> rfl
      have hmle : m_marks σ (nI k) ≤ σ.2.1 2 := pq_cnt_le _ _
      have none_of : (∀ q, q < σ.2.1 2 → m_mst σ (nI k) q = true → ¬ nI (pq_cnt (m_mst σ (nI k)) q) = x) → m_back σ (nI k) x = (-1, σ) := by
        intro hz
        rw [hu0, show m_mrow σ (nI k) x = none from pq_fst_none.mpr (fun q hq => by
          by_cases c : m_mst σ (nI k) q = true
          · rw [decide_eq_false (hz q hq c)]; simp
          · rw [show m_mst σ (nI k) q = false by simpa using c]; rfl)]
      refine ux_iload_n C dX8_back_16 2 rfl ?_
      refine ux_if_lt C 29 dX8_back_17 (by decide) (fun h3 => ?_) (fun h3 => ?_)
      · have hu := none_of (fun q hq _ e => by
          have := pq_cnt_le (m_mst σ (nI k)) q
          rw [← e] at h3
          exact absurd (nI_pos' (show pq_cnt (m_mst σ (nI k)) q < 2 ^ 31 by omega)) (pq_zero_lt h3))
        refine ux_iconst C ((-1 : Int32)) dX8_back_29 (by decide) ?_
        exact ux_iret C dX8_back_30 (by rw [hu]; exact ⟨rfl, rfl⟩)
      · obtain ⟨X, hX, rfl⟩ := nI_of h3
        refine ux_iload_n C dX8_back_20 2 rfl ?_
        refine ux_aload_n C dX8_back_21 0 rfl ?_
        refine ux_iload_n C dX8_back_22 1 rfl ?_
        refine ux_callI C gkX8_back_100 (c_X8_marksOf l D ad cA A σ (nI k) (by omega)) rfl ⟨rfl, rfl⟩ ⟨(Nat.le_of_ble_eq_true rfl), (Nat.le_of_ble_eq_true rfl)⟩ ⟨Nat.le_refl _, Nat.le_refl _⟩ 0 rfl rfl rfl rfl (Nat.le_of_ble_eq_true rfl) dX8_back_23 (fun r σ1 hr => ?_)
        obtain ⟨rfl, rfl⟩ := hr
        refine ux_icmp_lt C 31 dX8_back_26 (by decide) (fun h4 => ?_) (fun h4 => ?_)
        · have h4 := (nI_ltI (by omega) (by omega)).mp h4
          obtain ⟨q, q1, q2, q3⟩ := pq_cnt_hit h4
          have hrow : m_mrow σ (nI k) (nI X) = some q := pq_fst_some.mpr ⟨q1, by rw [q2, decide_eq_true (show nI (pq_cnt (m_mst σ (nI k)) q) = nI X by rw [q3])]; rfl, fun j hj => by
            by_cases c : m_mst σ (nI k) j = true
            · have a1 := pq_cnt_mono (p := m_mst σ (nI k)) (show j + 1 ≤ q by omega)
              rw [pq_cnt_t c] at a1
              rw [decide_eq_false (fun e => by have := (nI_eq (by omega) (by omega)).mp e; omega)]; simp
            · rw [show m_mst σ (nI k) j = false by simpa using c]; rfl⟩
          have hu : m_back σ (nI k) (nI X) = (nI (m_dif σ k q), m_bk σ k q (σ.2.1 2)) := by rw [hu0, hrow]
          have loopB : ∀ (p' i : Nat), σ.2.1 2 + 1 ≤ i + p' → q < i → i ≤ σ.2.1 2 → ux_V p l e (ux_rm 2) s m ([.ref (ad 0), .int (nI k), .int (nI X)] : List Value).toArray below meth c (MQ below (va_Qi (fun r σ' => r = (m_back σ (nI k) (nI X)).1 ∧ σ' = (m_back σ (nI k) (nI X)).2) (fun σ' tt => va_P D vwCl (wM ad cA σ') tt.heap) A) ([.ref (ad 0), .int (nI k), .int (nI X)] : List Value).toArray s 0 0 A) 6 D vwCl (wM ad cA) A 0 0 (m_bk σ k q i) 39 [(5, .int (nI i)), (4, .int (nI (m_dif σ k q))), (3, .int (nI (pq_cnt (m_mst σ (nI k)) i))), (0, .ref (ad 0)), (1, .int (nI k)), (2, .int (nI X))] [] := by
            intro p'
            induction p' with
            | zero => intro i h1 h2; omega
            | succ p' ih =>
              intro i h1 h2 h3
              refine ux_iload C dX8_back_39 0 rfl ?_
              refine ux_aload_n C dX8_back_41 3 rfl ?_
              refine ux_get C flX8_back_103 0 rfl rfl rfl dX8_back_42 ?_
              refine ux_icmp_ge C 109 dX8_back_45 (by decide) (fun hc => ?_) (fun hc => ?_)
              · have hc : nI (σ.2.1 2) ≤ nI i := hc
                have hc := (nI_leI (by omega) (by omega)).mp hc
                have e : i = σ.2.1 2 := by omega
                subst e
                refine ux_iload C dX8_back_109 1 rfl ?_
                exact ux_iret C dX8_back_111 (by rw [hu]; exact ⟨rfl, rfl⟩)
              · have hc : ¬ nI (σ.2.1 2) ≤ nI i := hc
                have hc := mt (nI_leI (by omega) (by omega)).mpr hc
                have hih := ih (i + 1) (by omega) (by omega) (by omega)
                have hat := pq_msk_at (fun r => decide (q < r) && m_mst σ (nI k) r) 0 (σ.1 9) i
                have hle := pq_cnt_le (m_mst σ (nI k)) i
                refine ux_aload_n C dX8_back_48 3 rfl ?_
                refine ux_get C flX8_back_37 0 rfl rfl rfl dX8_back_49 ?_
                refine ux_iload C dX8_back_52 0 rfl ?_
                refine ux_iald C 9 8 (i) rfl rfl (rfl) (by omega) (by decide) dX8_back_54 ?_
                refine ux_iload_n C dX8_back_55 4 rfl ?_
                refine ux_icmp_ne C 103 dX8_back_56 (by decide) (fun h5 => ?_) (fun h5 => ?_)
                · have h5 : ¬ σ.1 8 i = nI k := h5
                  have hp : m_mst σ (nI k) i = false := by rw [m_mst, decide_eq_false h5]; rfl
                  unfold m_bk at hih ⊢
                  rw [pq_cnt_f (n := i) hp, ← pq_msk_f (i := i) (by rw [hp]; simp)] at hih
                  refine ux_iinc C (nI (i + 1)) [(5, _), (4, _), (3, _), (0, _), (1, _), (2, _)] dX8_back_103 0 rfl (pq_inc i) (by decide) rfl ?_
                  refine ux_goto C 39 dX8_back_106 (by decide) ?_
                  exact hih
                · have h5 : σ.1 8 i = nI k := h5
                  refine ux_aload_n C dX8_back_59 3 rfl ?_
                  refine ux_get C flX8_back_40 0 rfl rfl rfl dX8_back_60 ?_
                  refine ux_iload C dX8_back_63 0 rfl ?_
                  refine ux_zald C 10 9 (i) rfl rfl (rfl) (by omega) (by decide) dX8_back_65 ?_
                  refine ux_top _ hat ?_
                  refine ux_if_eq C 103 dX8_back_66 (by decide) (fun h6 => ?_) (fun h6 => ?_)
                  · have hp : m_mst σ (nI k) i = false := by rw [m_mst, decide_eq_true h6]; simp
                    unfold m_bk at hih ⊢
                    rw [pq_cnt_f (n := i) hp, ← pq_msk_f (i := i) (by rw [hp]; simp)] at hih
                    refine ux_iinc C (nI (i + 1)) [(5, _), (4, _), (3, _), (0, _), (1, _), (2, _)] dX8_back_103 0 rfl (pq_inc i) (by decide) rfl ?_
                    refine ux_goto C 39 dX8_back_106 (by decide) ?_
                    exact hih
                  · have hp : m_mst σ (nI k) i = true := by rw [m_mst, decide_eq_true h5, decide_eq_false h6]; rfl
                    have a1 := pq_cnt_mono (p := m_mst σ (nI k)) (show q + 1 ≤ i by omega)
                    rw [pq_cnt_t q2] at a1
                    unfold m_bk at hih ⊢
                    rw [pq_cnt_t (n := i) hp, ← pq_msk_t (i := i) (by rw [hp, decide_eq_true h2]; rfl)] at hih
                    refine ux_iload_n C dX8_back_69 2 rfl ?_
                    refine ux_iload_n C dX8_back_70 5 rfl ?_
                    refine ux_icmp_ne C 83 dX8_back_71 (by decide) (fun h7 => ?_) (fun h7 => ?_)
                    · refine ux_aload_n C dX8_back_83 3 rfl ?_
                      refine ux_get C flX8_back_40 0 rfl rfl rfl dX8_back_84 ?_
                      refine ux_iload C dX8_back_87 0 rfl ?_
                      refine ux_iload_n C dX8_back_89 2 rfl ?_
                      refine ux_iload_n C dX8_back_90 5 rfl ?_
                      refine ux_icmp_gt C 98 dX8_back_91 (by decide) (fun h8 => ?_) (fun h8 => ?_)
                      · refine ux_iconst C ((0 : Int32)) dX8_back_98 (by decide) ?_
                        refine ux_zast C 10 9 (i) rfl rfl (rfl) (by omega) (by decide) (rfl) dX8_back_99 _ (awM_9 _ _ _ _) ?_
                        refine ux_iinc C (nI (_ + 1)) [(3, _), (5, _), (4, _), (0, _), (1, _), (2, _)] dX8_back_100 2 rfl (pq_inc _) (by decide) rfl ?_
                        refine ux_iinc C (nI (i + 1)) [(5, _), (3, _), (4, _), (0, _), (1, _), (2, _)] dX8_back_103 1 rfl (pq_inc i) (by decide) rfl ?_
                        refine ux_goto C 39 dX8_back_106 (by decide) ?_
                        refine ux_sub [(5, _), (4, _), (3, _), (0, _), (1, _), (2, _)] [0, 2, 1, 3, 4, 5] rfl ?_
                        refine ux_at (sa_sa _ _ _ _) ?_
                        exact hih
                      · exact absurd ((nI_ltI (by omega) (by omega)).mpr (show X < pq_cnt (m_mst σ (nI k)) i by omega)) h8
                    · exact absurd ((nI_eq (by omega) (by omega)).mp h7) (by omega)
          have loopA : ∀ (p' i : Nat), q + 1 ≤ i + p' → i ≤ q → ux_V p l e (ux_rm 2) s m ([.ref (ad 0), .int (nI k), .int (nI X)] : List Value).toArray below meth c (MQ below (va_Qi (fun r σ' => r = (m_back σ (nI k) (nI X)).1 ∧ σ' = (m_back σ (nI k) (nI X)).2) (fun σ' tt => va_P D vwCl (wM ad cA σ') tt.heap) A) ([.ref (ad 0), .int (nI k), .int (nI X)] : List Value).toArray s 0 0 A) 6 D vwCl (wM ad cA) A 0 0 σ 39 [(5, .int (nI i)), (4, .int (nI 0)), (3, .int (nI (pq_cnt (m_mst σ (nI k)) i))), (0, .ref (ad 0)), (1, .int (nI k)), (2, .int (nI X))] [] := by
            intro p'
            induction p' with
            | zero => intro i h1 h2; omega
            | succ p' ih =>
              intro i h1 h2
              have hle := pq_cnt_le (m_mst σ (nI k)) i
              have hmo := pq_cnt_mono (p := m_mst σ (nI k)) h2
              refine ux_iload C dX8_back_39 0 rfl ?_
              refine ux_aload_n C dX8_back_41 3 rfl ?_
              refine ux_get C flX8_back_103 0 rfl rfl rfl dX8_back_42 ?_
              refine ux_icmp_ge C 109 dX8_back_45 (by decide) (fun hc => ?_) (fun hc => ?_)
              · have hc := (nI_leI (by omega) (by omega)).mp hc
                omega
              · refine ux_aload_n C dX8_back_48 3 rfl ?_
                refine ux_get C flX8_back_37 0 rfl rfl rfl dX8_back_49 ?_
                refine ux_iload C dX8_back_52 0 rfl ?_
                refine ux_iald C 9 8 (i) rfl rfl (rfl) (by omega) (by decide) dX8_back_54 ?_
                refine ux_iload_n C dX8_back_55 4 rfl ?_
                refine ux_icmp_ne C 103 dX8_back_56 (by decide) (fun h5 => ?_) (fun h5 => ?_)
                · have hp : m_mst σ (nI k) i = false := by rw [m_mst, decide_eq_false h5]; rfl
                  have hne : i ≠ q := fun e => by rw [e, q2] at hp; cases hp
                  have hih := ih (i + 1) (by omega) (by omega)
                  rw [pq_cnt_f (n := i) hp] at hih
                  refine ux_iinc C (nI (i + 1)) [(5, _), (4, _), (3, _), (0, _), (1, _), (2, _)] dX8_back_103 0 rfl (pq_inc i) (by decide) rfl ?_
                  refine ux_goto C 39 dX8_back_106 (by decide) ?_
                  exact hih
                · refine ux_aload_n C dX8_back_59 3 rfl ?_
                  refine ux_get C flX8_back_40 0 rfl rfl rfl dX8_back_60 ?_
                  refine ux_iload C dX8_back_63 0 rfl ?_
                  refine ux_zald C 10 9 (i) rfl rfl (rfl) (by omega) (by decide) dX8_back_65 ?_
                  refine ux_if_eq C 103 dX8_back_66 (by decide) (fun h6 => ?_) (fun h6 => ?_)
                  · have hp : m_mst σ (nI k) i = false := by rw [m_mst, decide_eq_true h6]; simp
                    have hne : i ≠ q := fun e => by rw [e, q2] at hp; cases hp
                    have hih := ih (i + 1) (by omega) (by omega)
                    rw [pq_cnt_f (n := i) hp] at hih
                    refine ux_iinc C (nI (i + 1)) [(5, _), (4, _), (3, _), (0, _), (1, _), (2, _)] dX8_back_103 0 rfl (pq_inc i) (by decide) rfl ?_
                    refine ux_goto C 39 dX8_back_106 (by decide) ?_
                    exact hih
                  · have hp : m_mst σ (nI k) i = true := by rw [m_mst, decide_eq_true h5, decide_eq_false h6]; rfl
                    have h61 : σ.1 9 i = 1 := (hS i).resolve_left h6
                    refine ux_iload_n C dX8_back_69 2 rfl ?_
                    refine ux_iload_n C dX8_back_70 5 rfl ?_
                    refine ux_icmp_ne C 83 dX8_back_71 (by decide) (fun h7 => ?_) (fun h7 => ?_)
                    · have hne : i ≠ q := fun e => h7 (by rw [e, q3])
                      have a1 := pq_cnt_mono (p := m_mst σ (nI k)) (show i + 1 ≤ q by omega)
                      rw [pq_cnt_t hp] at a1
                      have hih := ih (i + 1) (by omega) (by omega)
                      rw [pq_cnt_t (n := i) hp] at hih
                      refine ux_aload_n C dX8_back_83 3 rfl ?_
                      refine ux_get C flX8_back_40 0 rfl rfl rfl dX8_back_84 ?_
                      refine ux_iload C dX8_back_87 0 rfl ?_
                      refine ux_iload_n C dX8_back_89 2 rfl ?_
                      refine ux_iload_n C dX8_back_90 5 rfl ?_
                      refine ux_icmp_gt C 98 dX8_back_91 (by decide) (fun h8 => ?_) (fun h8 => ?_)
                      · exact absurd ((nI_ltI (by omega) (by omega)).mp h8) (by omega)
                      · refine ux_iconst C ((1 : Int32)) dX8_back_94 (by decide) ?_
                        refine ux_goto C 99 dX8_back_95 (by decide) ?_
                        refine ux_zast C 10 9 (i) rfl rfl (rfl) (by omega) (by decide) (rfl) dX8_back_99 _ (awM_9 _ _ _ _) ?_
                        refine ux_iinc C (nI (_ + 1)) [(3, _), (5, _), (4, _), (0, _), (1, _), (2, _)] dX8_back_100 2 rfl (pq_inc _) (by decide) rfl ?_
                        refine ux_iinc C (nI (i + 1)) [(5, _), (3, _), (4, _), (0, _), (1, _), (2, _)] dX8_back_103 1 rfl (pq_inc i) (by decide) rfl ?_
                        refine ux_goto C 39 dX8_back_106 (by decide) ?_
                        refine ux_sub [(5, _), (4, _), (3, _), (0, _), (1, _), (2, _)] [0, 2, 1, 3, 4, 5] rfl ?_
                        rw [upd_self h61, sa_self]
                        exact hih
                    · have h7 := (nI_eq (by omega) (by omega)).mp h7
                      have e : i = q := by
                        rcases Nat.lt_or_ge i q with e | e
                        · have a1 := pq_cnt_mono (p := m_mst σ (nI k)) (show i + 1 ≤ q by omega)
                          rw [pq_cnt_t hp] at a1
                          omega
                        · omega
                      subst e
                      have hB2 := loopB (σ.2.1 2 + 1) (i + 1) (by omega) (by omega) (by omega)
                      rw [pq_cnt_t (n := i) hp] at hB2
                      unfold m_bk at hB2
                      rw [pq_msk_id (i := i + 1) (fun j hj => by rw [decide_eq_false (show ¬ i < j by omega)]; rfl)] at hB2
                      refine ux_aload_n C dX8_back_74 3 rfl ?_
                      refine ux_iload_n C dX8_back_75 4 rfl ?_
                      refine ux_iload C dX8_back_76 0 rfl ?_
                      refine ux_callI C gkX8_back_109 (c_X8_restore l D ad cA A σ k i hB (by omega) (by omega)) rfl ⟨rfl, rfl⟩ ⟨(Nat.le_of_ble_eq_true rfl), (Nat.le_of_ble_eq_true rfl)⟩ ⟨Nat.le_refl _, Nat.le_refl _⟩ 0 rfl rfl rfl rfl (Nat.le_of_ble_eq_true rfl) dX8_back_78 (fun r σ1 hr => ?_)
                      obtain ⟨rfl, rfl⟩ := hr
                      refine ux_istore C [(4, _), (5, _), (3, _), (0, _), (1, _), (2, _)] dX8_back_81 (by decide) rfl ?_
                      refine ux_aload_n C dX8_back_83 3 rfl ?_
                      refine ux_get C flX8_back_40 0 rfl rfl rfl dX8_back_84 ?_
                      refine ux_iload C dX8_back_87 1 rfl ?_
                      refine ux_iload_n C dX8_back_89 2 rfl ?_
                      refine ux_iload_n C dX8_back_90 5 rfl ?_
                      refine ux_icmp_gt C 98 dX8_back_91 (by decide) (fun h8 => ?_) (fun h8 => ?_)
                      · exact absurd ((nI_ltI (by omega) (by omega)).mp h8) (by omega)
                      · refine ux_iconst C ((1 : Int32)) dX8_back_94 (by decide) ?_
                        refine ux_goto C 99 dX8_back_95 (by decide) ?_
                        refine ux_zast C 10 9 (i) rfl rfl (rfl) (by omega) (by decide) (rfl) dX8_back_99 _ (awM_9 _ _ _ _) ?_
                        refine ux_iinc C (nI (_ + 1)) [(3, _), (4, _), (5, _), (0, _), (1, _), (2, _)] dX8_back_100 2 rfl (pq_inc _) (by decide) rfl ?_
                        refine ux_iinc C (nI (i + 1)) [(5, _), (3, _), (4, _), (0, _), (1, _), (2, _)] dX8_back_103 2 rfl (pq_inc i) (by decide) rfl ?_
                        refine ux_goto C 39 dX8_back_106 (by decide) ?_
                        refine ux_sub [(5, _), (4, _), (3, _), (0, _), (1, _), (2, _)] [0, 2, 1, 3, 4, 5] rfl ?_
                        rw [show upd ((m_restore σ k i).1 9) i 1 = σ.1 9 from upd_self h61]
                        exact hB2
          refine ux_iconst C (nI 0) dX8_back_31 (by decide) ?_
          refine ux_istore_n C [(3, _), (0, _), (1, _), (2, _)] dX8_back_32 rfl (by decide) rfl ?_
          refine ux_iconst C (nI 0) dX8_back_33 (by decide) ?_
          refine ux_istore C [(4, _), (3, _), (0, _), (1, _), (2, _)] dX8_back_34 (by decide) rfl ?_
          refine ux_iconst C (nI 0) dX8_back_36 (by decide) ?_
          refine ux_istore C [(5, _), (4, _), (3, _), (0, _), (1, _), (2, _)] dX8_back_37 (by decide) rfl ?_
          exact loopA (q + 1) 0 (by omega) (by omega)
        · have h4 := mt (nI_ltI (by omega) (by omega)).mpr h4
          have hu := none_of (fun q hq c e => by
            have a1 := pq_cnt_mono (p := m_mst σ (nI k)) (show q + 1 ≤ σ.2.1 2 by omega)
            rw [pq_cnt_t c] at a1
            have a2 : pq_cnt (m_mst σ (nI k)) (σ.2.1 2) = m_marks σ (nI k) := rfl
            have := (nI_eq (by omega) (by omega)).mp e
            omega)
          refine ux_iconst C ((-1 : Int32)) dX8_back_29 (by decide) ?_
          exact ux_iret C dX8_back_30 (by rw [hu]; exact ⟨rfl, rfl⟩)
set_option maxHeartbeats 4000000 in
set_option maxRecDepth 100000 in
theorem c_X8_commit (l : Launch) (D : va_G) (ad : Nat → Nat) (cA : Nat → ClassId) (A : Nat → Prop) (σ : ST) (t : Int32) (hF : mF σ) (hB : mB σ) (hS : mS σ) (hm : σ.2.1 2 ≤ 520) : ux_I l D vwCl (tyM cA) (wM ad cA) A yX8_commit wsX8_commit (ux_rm 2) [.ref (ad 0), .int t] σ (fun r σ' => r = (m_commit σ t).1 ∧ σ' = (m_commit σ t).2) := by
  refine ux_ofI (cc := cX8_commit) (maxL := 7) (ret := (some .int)) (Ts := wsX8_commit) (lv := [(0, .ref (ad 0)), (1, .int t)]) (by decide) rfl (fun _ h => h) (Nat.le_of_ble_eq_true rfl) rfl ?_
  intro p e s m below meth c C
  have hF0 := hF.1
  refine ux_aload_n C dX8_commit_0 0 rfl ?_
  refine ux_iload_n C dX8_commit_1 1 rfl ?_
  refine ux_callI C gkX8_commit_68 (c_X8_isActive l D ad cA A σ t hF0) rfl ⟨rfl, rfl⟩ ⟨(Nat.le_of_ble_eq_true rfl), (Nat.le_of_ble_eq_true rfl)⟩ ⟨Nat.le_refl _, Nat.le_refl _⟩ 0 rfl rfl rfl rfl (Nat.le_of_ble_eq_true rfl) dX8_commit_2 (fun r σ1 hr => ?_)
  obtain ⟨rfl, rfl⟩ := hr
  refine ux_if_eq C 16 dX8_commit_5 (by decide) (fun h => ?_) (fun h => ?_)
  · have ha := (pq_b0 _).mp h
    have hu : m_commit σ t = (-1, σ) := if_neg (by rw [m_can, ha]; simp)
    refine ux_iconst C ((-1 : Int32)) dX8_commit_16 (by decide) ?_
    exact ux_iret C dX8_commit_17 (by rw [hu]; exact ⟨rfl, rfl⟩)
  · have ha := (pq_bn0 _).mp h
    obtain ⟨k, k1, k2, rfl, k3⟩ := (m_act_iff hF).mp ha
    have hcl := nI_clamp (Nat.lt_of_le_of_lt (Nat.le_trans k2 hF.1) (show 150 < 2 ^ 31 by decide))
    have hkid : m_kids σ k ≤ σ.2.1 1 + 1 := pq_cnt_le _ _
    obtain ⟨hp1, hp2⟩ := hF.2 k k1 k2
    refine ux_aload_n C dX8_commit_8 0 rfl ?_
    refine ux_iload_n C dX8_commit_9 1 rfl ?_
    refine ux_callI C gkX8_commit_106 (c_X8_children l D ad cA A σ k hF (by omega)) rfl ⟨rfl, rfl⟩ ⟨(Nat.le_of_ble_eq_true rfl), (Nat.le_of_ble_eq_true rfl)⟩ ⟨Nat.le_refl _, Nat.le_refl _⟩ 0 rfl rfl rfl rfl (Nat.le_of_ble_eq_true rfl) dX8_commit_10 (fun r σ1 hr => ?_)
    obtain ⟨rfl, rfl⟩ := hr
    refine ux_if_le C 18 dX8_commit_13 (by decide) (fun h2 => ?_) (fun h2 => ?_)
    · have h2 : m_kids σ k = 0 := by
        rcases Nat.eq_zero_or_pos (m_kids σ k) with e | e
        · exact e
        · exact absurd h2 (nI_nle e (by omega))
      have hcan : m_can σ (nI k) = true := by rw [m_can, ha, hcl, decide_eq_true h2]; rfl
      have hu : m_commit σ (nI k) = (nI (pq_cnt (m_mw σ k) 520), m_end (m_merge σ k (mQ σ k) 520) k 1) := by rw [m_commit, if_pos hcan, hcl]
      generalize hP : mQ σ k = P at hp1 hp2 hu
      have loop : ∀ (q i : Nat), 521 ≤ i + q → i ≤ 520 → ux_V p l e (ux_rm 2) s m ([.ref (ad 0), .int (nI k)] : List Value).toArray below meth c (MQ below (va_Qi (fun r σ' => r = (m_commit σ (nI k)).1 ∧ σ' = (m_commit σ (nI k)).2) (fun σ' tt => va_P D vwCl (wM ad cA σ') tt.heap) A) ([.ref (ad 0), .int (nI k)] : List Value).toArray s 0 0 A) 7 D vwCl (wM ad cA) A 0 0 (m_merge σ k P i) 30 [(4, .int (nI i)), (3, .int (nI P)), (2, .int (nI (pq_cnt (m_mw σ k) i))), (0, .ref (ad 0)), (1, .int (nI k))] [] := by
        intro q
        induction q with
        | zero => intro i h1 h2; omega
        | succ q ih =>
          intro i h1 h2
          refine ux_iload C dX8_commit_30 0 rfl ?_
          refine ux_sipush C (nI 520) dX8_commit_32 (by decide) ?_
          refine ux_icmp_ge C 140 dX8_commit_35 (by decide) (fun hc => ?_) (fun hc => ?_)
          · have hc := (nI_leI (by omega) (by omega)).mp hc
            have e : i = 520 := by omega
            subst e
            refine ux_aload_n C dX8_commit_140 3 rfl ?_
            refine ux_iload_n C dX8_commit_141 4 rfl ?_
            refine ux_iconst C ((1 : Int32)) dX8_commit_142 (by decide) ?_
            refine ux_callN C gkX8_commit_112 (c_X8_end l D ad cA A (m_merge σ k P 520) k 1 hS (by omega) hm) rfl ⟨rfl, rfl⟩ ⟨(Nat.le_of_ble_eq_true rfl), (Nat.le_of_ble_eq_true rfl)⟩ ⟨Nat.le_refl _, Nat.le_refl _⟩ 0 rfl rfl rfl rfl (Nat.le_of_ble_eq_true rfl) dX8_commit_143 (fun σ1 hr => ?_)
            subst hr
            refine ux_iload_n C dX8_commit_146 2 rfl ?_
            exact ux_iret C dX8_commit_147 (by rw [hu]; exact ⟨rfl, rfl⟩)
          · have hc := mt (nI_leI (by omega) (by omega)).mpr hc
            have hih := ih (i + 1) (by omega) (by omega)
            have ow : m_mg (m_mw σ k) (σ.1 1) (520 * k) (520 * P) i (520 * k + i) = σ.1 1 (520 * k + i) := m_mg_off (by omega)
            have ov : m_mg (m_mw σ k) (σ.1 2) (520 * k) (520 * P) i (520 * k + i) = σ.1 2 (520 * k + i) := m_mg_off (by omega)
            have oh : m_mg (m_mh σ k P) (σ.1 3) (520 * k) (520 * P) i (520 * k + i) = σ.1 3 (520 * k + i) := m_mg_off (by omega)
            have up : m_mg (m_mh σ k P) (σ.1 3) (520 * k) (520 * P) i (520 * P + i) = σ.1 3 (520 * P + i) := m_mg_off (by omega)
            have second : ∀ (fw fv : Nat → Int32) (cn : Nat), fw = m_mg (m_mw σ k) (σ.1 1) (520 * k) (520 * P) (i + 1) → fv = m_mg (m_mw σ k) (σ.1 2) (520 * k) (520 * P) (i + 1) → cn = pq_cnt (m_mw σ k) (i + 1) → ux_V p l e (ux_rm 2) s m ([.ref (ad 0), .int (nI k)] : List Value).toArray below meth c (MQ below (va_Qi (fun r σ' => r = (m_commit σ (nI k)).1 ∧ σ' = (m_commit σ (nI k)).2) (fun σ' tt => va_P D vwCl (wM ad cA σ') tt.heap) A) ([.ref (ad 0), .int (nI k)] : List Value).toArray s 0 0 A) 7 D vwCl (wM ad cA) A 0 0 (sa (sa (sa σ 1 fw) 2 fv) 3 (m_mg (m_mh σ k P) (σ.1 3) (520 * k) (520 * P) i)) 99 [(6, .int (nI (520 * P + i))), (5, .int (nI (520 * k + i))), (4, .int (nI i)), (3, .int (nI P)), (2, .int (nI cn)), (0, .ref (ad 0)), (1, .int (nI k))] [] := by
              intro fw fv cn e1 e2 e3
              subst e1; subst e2; subst e3
              have fin : ∀ fh, fh = m_mg (m_mh σ k P) (σ.1 3) (520 * k) (520 * P) (i + 1) → ux_V p l e (ux_rm 2) s m ([.ref (ad 0), .int (nI k)] : List Value).toArray below meth c (MQ below (va_Qi (fun r σ' => r = (m_commit σ (nI k)).1 ∧ σ' = (m_commit σ (nI k)).2) (fun σ' tt => va_P D vwCl (wM ad cA σ') tt.heap) A) ([.ref (ad 0), .int (nI k)] : List Value).toArray s 0 0 A) 7 D vwCl (wM ad cA) A 0 0 (sa (sa (sa σ 1 (m_mg (m_mw σ k) (σ.1 1) (520 * k) (520 * P) (i + 1))) 2 (m_mg (m_mw σ k) (σ.1 2) (520 * k) (520 * P) (i + 1))) 3 fh) 134 [(6, .int (nI (520 * P + i))), (5, .int (nI (520 * k + i))), (4, .int (nI i)), (3, .int (nI P)), (2, .int (nI (pq_cnt (m_mw σ k) (i + 1)))), (0, .ref (ad 0)), (1, .int (nI k))] [] := by
                intro fh e4
                subst e4
                refine ux_iinc C (nI (i + 1)) [(4, _), (6, _), (5, _), (3, _), (2, _), (0, _), (1, _)] dX8_commit_134 2 rfl (pq_inc i) (by decide) rfl ?_
                refine ux_goto C 30 dX8_commit_137 (by decide) ?_
                refine ux_sub [(4, _), (3, _), (2, _), (0, _), (1, _)] [0, 3, 4, 5, 6] rfl ?_
                exact hih
              refine ux_iload_n C dX8_commit_99 3 rfl ?_
              refine ux_if_eq C 134 dX8_commit_100 (by decide) (fun h6 => ?_) (fun h6 => ?_)
              · have h6 : P = 0 := (nI_eq (b := 0) (by omega) (by omega)).mp h6
                exact fin _ (m_mg_f (by rw [m_mh, decide_eq_false (by omega)]; rfl))
              · have h6 : P ≠ 0 := fun e => h6 (by rw [e]; rfl)
                refine ux_aload_n C dX8_commit_103 5 rfl ?_
                refine ux_get C flX8_commit_21 0 rfl rfl rfl dX8_commit_104 ?_
                refine ux_iload C dX8_commit_107 1 rfl ?_
                refine ux_bald C 4 3 (520 * k + i) rfl rfl (rfl) (by omega) (by decide) dX8_commit_109 ?_
                refine ux_top _ oh ?_
                refine ux_aload_n C dX8_commit_110 5 rfl ?_
                refine ux_get C flX8_commit_21 0 rfl rfl rfl dX8_commit_111 ?_
                refine ux_iload C dX8_commit_114 0 rfl ?_
                refine ux_bald C 4 3 (520 * P + i) rfl rfl (rfl) (by omega) (by decide) dX8_commit_116 ?_
                refine ux_top _ up ?_
                refine ux_icmp_le C 134 dX8_commit_117 (by decide) (fun h7 => ?_) (fun h7 => ?_)
                · exact fin _ (m_mg_f (by rw [m_mh, decide_eq_false (Int32.not_lt.mpr h7)]; simp))
                · have h7 := Int32.not_le.mp h7
                  refine ux_aload_n C dX8_commit_120 5 rfl ?_
                  refine ux_get C flX8_commit_21 0 rfl rfl rfl dX8_commit_121 ?_
                  refine ux_iload C dX8_commit_124 0 rfl ?_
                  refine ux_aload_n C dX8_commit_126 5 rfl ?_
                  refine ux_get C flX8_commit_21 0 rfl rfl rfl dX8_commit_127 ?_
                  refine ux_iload C dX8_commit_130 1 rfl ?_
                  refine ux_bald C 4 3 (520 * k + i) rfl rfl (rfl) (by omega) (by decide) dX8_commit_132 ?_
                  refine ux_top _ oh ?_
                  refine ux_bast C 4 3 (520 * P + i) rfl rfl (rfl) (by omega) (by decide) ((hB _).2.1) dX8_commit_133 _ (awM_3 _ _ _ _) ?_
                  refine ux_at (sa_sa _ _ _ _) ?_
                  exact fin _ (m_mg_t (by rw [m_mh, decide_eq_true h6, decide_eq_true h7]; rfl))
            unfold m_merge
            refine ux_sipush C (nI 520) dX8_commit_38 (by decide) ?_
            refine ux_iload_n C dX8_commit_41 4 rfl ?_
            refine ux_imul C dX8_commit_42 ?_
            refine ux_iload C dX8_commit_43 0 rfl ?_
            refine ux_iadd C dX8_commit_45 ?_
            refine ux_top (nI (520 * k + i)) (by rw [pk_mul, nI_add] <;> rfl) ?_
            refine ux_istore C [(5, _), (4, _), (3, _), (2, _), (0, _), (1, _)] dX8_commit_46 (by decide) rfl ?_
            refine ux_sipush C (nI 520) dX8_commit_48 (by decide) ?_
            refine ux_iload_n C dX8_commit_51 2 rfl ?_
            refine ux_imul C dX8_commit_52 ?_
            refine ux_iload C dX8_commit_53 1 rfl ?_
            refine ux_iadd C dX8_commit_55 ?_
            refine ux_top (nI (520 * P + i)) (by rw [pk_mul, nI_add] <;> rfl) ?_
            refine ux_istore C [(6, _), (5, _), (4, _), (3, _), (2, _), (0, _), (1, _)] dX8_commit_56 (by decide) rfl ?_
            refine ux_aload_n C dX8_commit_58 5 rfl ?_
            refine ux_get C flX8_commit_14 0 rfl rfl rfl dX8_commit_59 ?_
            refine ux_iload C dX8_commit_62 1 rfl ?_
            refine ux_bald C 2 1 (520 * k + i) rfl rfl (rfl) (by omega) (by decide) dX8_commit_64 ?_
            refine ux_top _ ow ?_
            refine ux_if_eq C 99 dX8_commit_65 (by decide) (fun h5 => ?_) (fun h5 => ?_)
            · have hp : m_mw σ k i = false := by rw [m_mw, decide_eq_true h5]; rfl
              exact second _ _ _ (m_mg_f hp) (m_mg_f hp) (pq_cnt_f hp).symm
            · have hp : m_mw σ k i = true := by rw [m_mw, decide_eq_false h5]; rfl
              refine ux_iinc C (nI (_ + 1)) [(2, _), (6, _), (5, _), (4, _), (3, _), (0, _), (1, _)] dX8_commit_68 4 rfl (pq_inc _) (by decide) rfl ?_
              refine ux_aload_n C dX8_commit_71 5 rfl ?_
              refine ux_get C flX8_commit_14 0 rfl rfl rfl dX8_commit_72 ?_
              refine ux_iload C dX8_commit_75 1 rfl ?_
              refine ux_aload_n C dX8_commit_77 5 rfl ?_
              refine ux_get C flX8_commit_14 0 rfl rfl rfl dX8_commit_78 ?_
              refine ux_iload C dX8_commit_81 2 rfl ?_
              refine ux_bald C 2 1 (520 * k + i) rfl rfl (rfl) (by omega) (by decide) dX8_commit_83 ?_
              refine ux_top _ ow ?_
              refine ux_bast C 2 1 (520 * P + i) rfl rfl (rfl) (by omega) (by decide) ((hB _).1) dX8_commit_84 _ (awM_1 _ _ _ _) ?_
              refine ux_aload_n C dX8_commit_85 5 rfl ?_
              refine ux_get C flX8_commit_18 0 rfl rfl rfl dX8_commit_86 ?_
              refine ux_iload C dX8_commit_89 1 rfl ?_
              refine ux_aload_n C dX8_commit_91 5 rfl ?_
              refine ux_get C flX8_commit_18 0 rfl rfl rfl dX8_commit_92 ?_
              refine ux_iload C dX8_commit_95 2 rfl ?_
              refine ux_iald C 3 2 (520 * k + i) rfl rfl (rfl) (by omega) (by decide) dX8_commit_97 ?_
              refine ux_top _ ov ?_
              refine ux_iast C 3 2 (520 * P + i) rfl rfl (rfl) (by omega) (by decide) dX8_commit_98 _ (awM_2 _ _ _ _) ?_
              refine ux_sub [(6, _), (5, _), (4, _), (3, _), (2, _), (0, _), (1, _)] [1, 2, 3, 4, 0, 5, 6] rfl ?_
              exact second _ _ _ (m_mg_t hp) (m_mg_t hp) (pq_cnt_t hp).symm
      refine ux_iconst C (nI 0) dX8_commit_18 (by decide) ?_
      refine ux_istore_n C [(2, _), (0, _), (1, _)] dX8_commit_19 rfl (by decide) rfl ?_
      refine ux_aload_n C dX8_commit_20 1 rfl ?_
      refine ux_get C flX8_commit_24 0 rfl rfl rfl dX8_commit_21 ?_
      refine ux_iload_n C dX8_commit_24 2 rfl ?_
      refine ux_iald C 5 4 (k) rfl rfl (rfl) (by omega) (by decide) dX8_commit_25 ?_
      refine ux_top _ hp1 ?_
      refine ux_istore_n C [(3, _), (2, _), (0, _), (1, _)] dX8_commit_26 rfl (by decide) rfl ?_
      refine ux_iconst C (nI 0) dX8_commit_27 (by decide) ?_
      refine ux_istore C [(4, _), (3, _), (2, _), (0, _), (1, _)] dX8_commit_28 (by decide) rfl ?_
      have hl := loop 521 0 (by omega) (by omega)
      unfold m_merge at hl
      rw [m_mg_0, m_mg_0, m_mg_0, sa_self, sa_self, sa_self] at hl
      exact hl
    · have h2 : ¬ m_kids σ k = 0 := fun e => h2 (by rw [e]; decide)
      have hu : m_commit σ (nI k) = (-1, σ) := if_neg (by rw [m_can, hcl, decide_eq_false h2]; simp)
      refine ux_iconst C ((-1 : Int32)) dX8_commit_16 (by decide) ?_
      exact ux_iret C dX8_commit_17 (by rw [hu]; exact ⟨rfl, rfl⟩)
set_option maxHeartbeats 4000000 in
set_option maxRecDepth 100000 in
theorem c_X8_abort (l : Launch) (D : va_G) (ad : Nat → Nat) (cA : Nat → ClassId) (A : Nat → Prop) (σ : ST) (t : Int32) (hF : mF σ) (hS : mS σ) (hm : σ.2.1 2 ≤ 520) : ux_I l D vwCl (tyM cA) (wM ad cA) A yX8_abort wsX8_abort (ux_rm 1) [.ref (ad 0), .int t] σ (fun r σ' => r = (m_abort σ t).1 ∧ σ' = (m_abort σ t).2) := by
  refine ux_ofI (cc := cX8_abort) (maxL := 4) (ret := (some .int)) (Ts := wsX8_abort) (lv := [(0, .ref (ad 0)), (1, .int t)]) (by decide) rfl (fun _ h => h) (Nat.le_of_ble_eq_true rfl) rfl ?_
  intro p e s m below meth c C
  have hF0 := hF.1
  refine ux_aload_n C dX8_abort_0 0 rfl ?_
  refine ux_iload_n C dX8_abort_1 1 rfl ?_
  refine ux_callI C gkX8_abort_68 (c_X8_isActive l D ad cA A σ t hF0) rfl ⟨rfl, rfl⟩ ⟨(Nat.le_of_ble_eq_true rfl), (Nat.le_of_ble_eq_true rfl)⟩ ⟨Nat.le_refl _, Nat.le_refl _⟩ 0 rfl rfl rfl rfl (Nat.le_of_ble_eq_true rfl) dX8_abort_2 (fun r σ1 hr => ?_)
  obtain ⟨rfl, rfl⟩ := hr
  refine ux_if_ne C 10 dX8_abort_5 (by decide) (fun h => ?_) (fun h => ?_)
  · have ha := (pq_bn0 _).mp h
    obtain ⟨k, k1, k2, rfl, k3⟩ := (m_act_iff hF).mp ha
    have hcl := nI_clamp (Nat.lt_of_le_of_lt (Nat.le_trans k2 hF.1) (show 150 < 2 ^ 31 by decide))
    have hu : m_abort σ (nI k) = (nI (m_ab σ k (σ.2.1 1)).1, (m_ab σ k (σ.2.1 1)).2) := by rw [m_abort, if_pos ha, hcl]
    have loop : ∀ (q j : Nat), σ.2.1 1 + 1 ≤ j + q → j ≤ σ.2.1 1 → ux_V p l e (ux_rm 1) s m ([.ref (ad 0), .int (nI k)] : List Value).toArray below meth c (MQ below (va_Qi (fun r σ' => r = (m_abort σ (nI k)).1 ∧ σ' = (m_abort σ (nI k)).2) (fun σ' tt => va_P D vwCl (wM ad cA σ') tt.heap) A) ([.ref (ad 0), .int (nI k)] : List Value).toArray s 0 0 A) 4 D vwCl (wM ad cA) A 0 0 (m_ab σ k j).2 17 [(3, .int (nI (σ.2.1 1 - j))), (2, .int (nI (m_ab σ k j).1)), (0, .ref (ad 0)), (1, .int (nI k))] [] := by
      intro q
      induction q with
      | zero => intro j h1 h2; omega
      | succ q ih =>
        intro j h1 h2
        have hc := m_ab_c σ k j
        refine ux_iload_n C dX8_abort_17 0 rfl ?_
        refine ux_if_le C 58 dX8_abort_18 (by decide) (fun h4 => ?_) (fun h4 => ?_)
        · have e : j = σ.2.1 1 := by
            rcases Nat.eq_zero_or_pos (σ.2.1 1 - j) with e | e
            · omega
            · exact absurd h4 (nI_nle e (by omega))
          subst e
          refine ux_iload_n C dX8_abort_58 1 rfl ?_
          exact ux_iret C dX8_abort_59 (by rw [hu]; exact ⟨rfl, rfl⟩)
        · have hj : j < σ.2.1 1 := by
            rcases Nat.lt_or_ge j (σ.2.1 1) with e | e
            · exact e
            · exact absurd (show nI (σ.2.1 1 - j) ≤ 0 by rw [show σ.2.1 1 - j = 0 by omega]; decide) h4
          obtain ⟨u, hu1⟩ : ∃ u, σ.2.1 1 - j = u + 1 := ⟨σ.2.1 1 - j - 1, by omega⟩
          have hih := ih (j + 1) (by omega) (by omega)
          simp only [m_ab] at hih
          rw [show σ.2.1 1 - (j + 1) = u by omega] at hih
          rw [hu1] at hih ⊢
          have skip : (m_act (m_ab σ k j).2 (nI (u + 1)) && (decide (u + 1 = k) || m_anc σ k (u + 1))) = false → ux_V p l e (ux_rm 1) s m ([.ref (ad 0), .int (nI k)] : List Value).toArray below meth c (MQ below (va_Qi (fun r σ' => r = (m_abort σ (nI k)).1 ∧ σ' = (m_abort σ (nI k)).2) (fun σ' tt => va_P D vwCl (wM ad cA σ') tt.heap) A) ([.ref (ad 0), .int (nI k)] : List Value).toArray s 0 0 A) 4 D vwCl (wM ad cA) A 0 0 (m_ab σ k j).2 52 [(3, .int (nI (u + 1))), (2, .int (nI (m_ab σ k j).1)), (0, .ref (ad 0)), (1, .int (nI k))] [] := by
            intro hf
            rw [if_neg (by rw [hf]; decide)] at hih
            refine ux_iinc C (nI u) [(3, _), (2, _), (0, _), (1, _)] dX8_abort_52 0 rfl (pq_dec u) (by decide) rfl ?_
            refine ux_goto C 17 dX8_abort_55 (by decide) ?_
            exact hih
          have take : (m_act (m_ab σ k j).2 (nI (u + 1)) && (decide (u + 1 = k) || m_anc σ k (u + 1))) = true → ux_V p l e (ux_rm 1) s m ([.ref (ad 0), .int (nI k)] : List Value).toArray below meth c (MQ below (va_Qi (fun r σ' => r = (m_abort σ (nI k)).1 ∧ σ' = (m_abort σ (nI k)).2) (fun σ' tt => va_P D vwCl (wM ad cA σ') tt.heap) A) ([.ref (ad 0), .int (nI k)] : List Value).toArray s 0 0 A) 4 D vwCl (wM ad cA) A 0 0 (m_ab σ k j).2 43 [(3, .int (nI (u + 1))), (2, .int (nI (m_ab σ k j).1)), (0, .ref (ad 0)), (1, .int (nI k))] [] := by
            intro hf
            rw [if_pos hf] at hih
            refine ux_aload_n C dX8_abort_43 2 rfl ?_
            refine ux_iload_n C dX8_abort_44 0 rfl ?_
            refine ux_iconst C ((2 : Int32)) dX8_abort_45 (by decide) ?_
            refine ux_callN C gkX8_abort_112 (c_X8_end l D ad cA A (m_ab σ k j).2 (u + 1) 2 (m_ab_S hS k j) (by omega) (by rw [hc]; exact hm)) rfl ⟨rfl, rfl⟩ ⟨(Nat.le_of_ble_eq_true rfl), (Nat.le_of_ble_eq_true rfl)⟩ ⟨Nat.le_refl _, Nat.le_refl _⟩ 0 rfl rfl rfl rfl (Nat.le_of_ble_eq_true rfl) dX8_abort_46 (fun σ1 hr => ?_)
            subst hr
            refine ux_iinc C (nI (_ + 1)) [(2, _), (3, _), (0, _), (1, _)] dX8_abort_49 1 rfl (pq_inc _) (by decide) rfl ?_
            refine ux_iinc C (nI u) [(3, _), (2, _), (0, _), (1, _)] dX8_abort_52 1 rfl (pq_dec u) (by decide) rfl ?_
            refine ux_goto C 17 dX8_abort_55 (by decide) ?_
            exact hih
          refine ux_aload_n C dX8_abort_21 2 rfl ?_
          refine ux_iload_n C dX8_abort_22 0 rfl ?_
          refine ux_callI C gkX8_abort_68 (c_X8_isActive l D ad cA A (m_ab σ k j).2 (nI (u + 1)) (by rw [hc]; exact hF0)) rfl ⟨rfl, rfl⟩ ⟨(Nat.le_of_ble_eq_true rfl), (Nat.le_of_ble_eq_true rfl)⟩ ⟨Nat.le_refl _, Nat.le_refl _⟩ 0 rfl rfl rfl rfl (Nat.le_of_ble_eq_true rfl) dX8_abort_23 (fun r σ1 hr => ?_)
          obtain ⟨rfl, rfl⟩ := hr
          refine ux_if_eq C 52 dX8_abort_26 (by decide) (fun h5 => ?_) (fun h5 => ?_)
          · exact skip (by rw [(pq_b0 _).mp h5]; rfl)
          · have h5 := (pq_bn0 _).mp h5
            refine ux_iload_n C dX8_abort_29 0 rfl ?_
            refine ux_iload_n C dX8_abort_30 3 rfl ?_
            refine ux_icmp_eq C 43 dX8_abort_31 (by decide) (fun h6 => ?_) (fun h6 => ?_)
            · have h6 := (nI_eq (by omega) (by omega)).mp h6
              exact take (by rw [h5, decide_eq_true h6]; rfl)
            · have h6 : ¬ u + 1 = k := fun e => h6 (by rw [e])
              refine ux_aload_n C dX8_abort_34 2 rfl ?_
              refine ux_iload_n C dX8_abort_35 3 rfl ?_
              refine ux_iload_n C dX8_abort_36 0 rfl ?_
              refine ux_callI C gkX8_abort_72 (c_X8_isAncestor l D ad cA A (m_ab σ k j).2 k (u + 1) (m_ab_F hF k j) (by rw [hc]; omega) (by omega)) rfl ⟨rfl, rfl⟩ ⟨(Nat.le_of_ble_eq_true rfl), (Nat.le_of_ble_eq_true rfl)⟩ ⟨Nat.le_refl _, Nat.le_refl _⟩ 0 rfl rfl rfl rfl (Nat.le_of_ble_eq_true rfl) dX8_abort_37 (fun r σ1 hr => ?_)
              obtain ⟨rfl, rfl⟩ := hr
              rw [m_ab_anc]
              refine ux_if_eq C 52 dX8_abort_40 (by decide) (fun h7 => ?_) (fun h7 => ?_)
              · exact skip (by rw [(pq_b0 _).mp h7, decide_eq_false h6]; simp)
              · exact take (by rw [(pq_bn0 _).mp h7, h5]; simp)
    refine ux_iconst C (nI 0) dX8_abort_10 (by decide) ?_
    refine ux_istore_n C [(2, _), (0, _), (1, _)] dX8_abort_11 rfl (by decide) rfl ?_
    refine ux_aload_n C dX8_abort_12 1 rfl ?_
    refine ux_get C flX8_abort_53 0 rfl rfl rfl dX8_abort_13 ?_
    refine ux_istore_n C [(3, _), (2, _), (0, _), (1, _)] dX8_abort_16 rfl (by decide) rfl ?_
    exact loop (σ.2.1 1 + 1) 0 (by omega) (by omega)
  · have ha := (pq_b0 _).mp h
    have hu : m_abort σ t = (-1, σ) := if_neg (by rw [ha]; decide)
    refine ux_iconst C ((-1 : Int32)) dX8_abort_8 (by decide) ?_
    exact ux_iret C dX8_abort_9 (by rw [hu]; exact ⟨rfl, rfl⟩)

