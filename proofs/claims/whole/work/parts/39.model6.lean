theorem hiX8_reach_8 : ∀ w ∈ wsX80, w ∈ wsX8_reach := by decide +kernel
theorem flX8_reach_53 : ux_F wsX8_reach RX8 53 RX8 TX8 16 7 := ⟨hiX8_reach_8, by decide, by decide +kernel⟩
theorem flX8_reach_30 : ux_F wsX8_reach RX8 30 RX8 TX8 16 8 := ⟨hiX8_reach_8, by decide, by decide +kernel⟩
theorem flX8_reach_50 : ux_F wsX8_reach RX8 50 RX8 TX8 16 15 := ⟨hiX8_reach_8, by decide, by decide +kernel⟩
theorem flX8_reach_33 : ux_F wsX8_reach RX8 33 RX8 TX8 16 9 := ⟨hiX8_reach_8, by decide, by decide +kernel⟩
theorem hiX8_ring_8 : ∀ w ∈ wsX80, w ∈ wsX8_ring := by decide +kernel
theorem flX8_ring_53 : ux_F wsX8_ring RX8 53 RX8 TX8 16 7 := ⟨hiX8_ring_8, by decide, by decide +kernel⟩
theorem flX8_ring_50 : ux_F wsX8_ring RX8 50 RX8 TX8 16 15 := ⟨hiX8_ring_8, by decide, by decide +kernel⟩
theorem gkX8_reach_68 : ux_G wsX8_reach RX8 68 RX8 yX8_isActive wsX8_isActive 1 := ⟨gX8_reach_X8_isActive, by decide +kernel⟩
theorem gkX8_reach_76 : ux_G wsX8_reach RX8 76 RX8 yX8_isInWay wsX8_isInWay 4 := ⟨gX8_reach_X8_isInWay, by decide +kernel⟩
theorem gkX8_ring_116 : ux_G wsX8_ring RX8 116 RX8 yX8_reach wsX8_reach 1 := ⟨gX8_ring_X8_reach, by decide +kernel⟩
theorem gkX8_ring_68 : ux_G wsX8_ring RX8 68 RX8 yX8_isActive wsX8_isActive 1 := ⟨gX8_ring_X8_isActive, by decide +kernel⟩
set_option maxHeartbeats 4000000 in
set_option maxRecDepth 100000 in
theorem c_X8_reach (l : Launch) (D : va_G) (ad : Nat → Nat) (cA : Nat → ClassId) (A : Nat → Prop) (σ : ST) (a : Nat) (hF : mF σ) (hW : mW σ) (ha : a ≤ σ.2.1 1) (hz : ∀ v, v ≤ σ.2.1 1 → σ.1 12 v = 0) : ux_N l D vwCl (tyM cA) (wM ad cA) A yX8_reach wsX8_reach (ux_rm 2) [.ref (ad 0), .int (nI a)] σ (fun σ' => ∃ f, σ' = sa σ 12 f ∧ ∀ v, 1 ≤ v → v ≤ σ.2.1 1 → f v = pq_b (pq_cl (m_edge σ) (σ.2.1 1) a v)) := by
  refine ux_ofN (cc := cX8_reach) (maxL := 7) (ret := none) (Ts := wsX8_reach) (lv := [(0, .ref (ad 0)), (1, .int (nI a))]) (by decide) rfl (fun _ h => h) (Nat.le_of_ble_eq_true rfl) rfl ?_
  intro p e s m below meth c C
  have hF0 := hF.1
  have inner : ∀ (u : Nat) (f0 f1 : Nat → Int32) (fr bg : Bool), 1 ≤ u → u ≤ σ.2.1 1 → (fr = true → u = a ∨ pq_cl (m_edge σ) (σ.2.1 1) a u = true) → (∀ (g : Nat → Int32) (mo : Bool), m_G σ a g → (∀ v, v ≤ σ.2.1 1 → f1 v = 1 → g v = 1) → (mo = false → ∀ v, v ≤ σ.2.1 1 → g v = f0 v) → (mo = true → m_z (σ.2.1 1) g < m_z (σ.2.1 1) f0) → (fr = true → m_Cl σ u g) → ∀ i : Int32, ux_V p l e (ux_rm 2) s m ([.ref (ad 0), .int (nI a)] : List Value).toArray below meth c (MQ below (va_Qv (fun σ' => ∃ f, σ' = sa σ 12 f ∧ ∀ v, 1 ≤ v → v ≤ σ.2.1 1 → f v = pq_b (pq_cl (m_edge σ) (σ.2.1 1) a v)) (fun σ' t => va_P D vwCl (wM ad cA σ') t.heap) A) ([.ref (ad 0), .int (nI a)] : List Value).toArray s 0 0 A) 7 D vwCl (wM ad cA) A 0 0 (sa σ 12 g) 137 [(6, .int i), (5, .int (pq_b fr)), (4, .int (nI u)), (2, .int (pq_b mo)), (3, .int (pq_b bg)), (0, .ref (ad 0)), (1, .int (nI a))] []) → ∀ (k i : Nat) (g : Nat → Int32) (mo : Bool), σ.2.1 1 + 2 ≤ i + k → 1 ≤ i → i ≤ σ.2.1 1 + 1 → m_G σ a g → (∀ v, v ≤ σ.2.1 1 → f1 v = 1 → g v = 1) → (mo = false → ∀ v, v ≤ σ.2.1 1 → g v = f0 v) → (mo = true → m_z (σ.2.1 1) g < m_z (σ.2.1 1) f0) → (∀ v, 1 ≤ v → v < i → m_edge σ u v = true → g v = 1) → ux_V p l e (ux_rm 2) s m ([.ref (ad 0), .int (nI a)] : List Value).toArray below meth c (MQ below (va_Qv (fun σ' => ∃ f, σ' = sa σ 12 f ∧ ∀ v, 1 ≤ v → v ≤ σ.2.1 1 → f v = pq_b (pq_cl (m_edge σ) (σ.2.1 1) a v)) (fun σ' t => va_P D vwCl (wM ad cA σ') t.heap) A) ([.ref (ad 0), .int (nI a)] : List Value).toArray s 0 0 A) 7 D vwCl (wM ad cA) A 0 0 (sa σ 12 g) 52 [(6, .int (nI i)), (5, .int (pq_b fr)), (4, .int (nI u)), (2, .int (pq_b mo)), (3, .int (pq_b bg)), (0, .ref (ad 0)), (1, .int (nI a))] [] := by
    intro u f0 f1 fr bg hu1 hu2 hfr kk k
    induction k with
    | zero => intro i g mo h1 h2 h3; omega
    | succ k ih =>
      intro i g mo h1 h2 h3 hG hgr hm0 hm1 hcl
      refine ux_iload C dX8_reach_52 0 rfl ?_
      refine ux_aload_n C dX8_reach_54 5 rfl ?_
      refine ux_get C flX8_reach_53 0 rfl rfl rfl dX8_reach_55 ?_
      refine ux_icmp_gt C 137 dX8_reach_58 (by decide) (fun hc => ?_) (fun hc => ?_)
      · have hc : nI (σ.2.1 1) < nI i := hc
        have hc := (nI_ltI (by omega) (by omega)).mp hc
        exact kk g mo hG hgr hm0 hm1 (fun _ v v1 v2 hv => hcl v v1 (by omega) hv) _
      · have hc : ¬ nI (σ.2.1 1) < nI i := hc
        have hc := mt (nI_ltI (by omega) (by omega)).mpr hc
        refine ux_iload C dX8_reach_61 1 rfl ?_
        refine ux_if_eq C 137 dX8_reach_63 (by decide) (fun h4 => ?_) (fun h4 => ?_)
        · have h4 := (pq_b0 _).mp h4
          subst h4
          exact kk g mo hG hgr hm0 hm1 (fun q => by cases q) _
        · have h4 := (pq_bn0 _).mp h4
          subst h4
          refine ux_aload_n C dX8_reach_66 5 rfl ?_
          refine ux_iload C dX8_reach_67 2 rfl ?_
          refine ux_callI C gkX8_reach_68 (c_X8_isActive l D ad cA A (sa σ 12 g) (nI u) hF0) rfl ⟨rfl, rfl⟩ ⟨(Nat.le_of_ble_eq_true rfl), (Nat.le_of_ble_eq_true rfl)⟩ ⟨Nat.le_refl _, Nat.le_refl _⟩ 0 rfl rfl rfl rfl (Nat.le_of_ble_eq_true rfl) dX8_reach_69 (fun r σ1 hr => ?_)
          obtain ⟨rfl, rfl⟩ := hr
          refine ux_if_eq C 137 dX8_reach_72 (by decide) (fun h5 => ?_) (fun h5 => ?_)
          · have h5 : m_act σ (nI u) = false := (pq_b0 _).mp h5
            exact kk g mo hG hgr hm0 hm1 (fun _ v v1 v2 hv => by rw [m_edge, h5] at hv; cases hv) _
          · have h5 : m_act σ (nI u) = true := (pq_bn0 _).mp h5
            obtain ⟨w1, w2, w3⟩ := hW u hu1 hu2
            refine ux_aload_n C dX8_reach_75 5 rfl ?_
            refine ux_get C flX8_reach_30 0 rfl rfl rfl dX8_reach_76 ?_
            refine ux_iload C dX8_reach_79 2 rfl ?_
            refine ux_iald C 7 6 (u) rfl rfl (rfl) (by omega) (by decide) dX8_reach_81 ?_
            refine ux_top _ w1 ?_
            refine ux_iconst C ((-1 : Int32)) dX8_reach_82 (by decide) ?_
            refine ux_icmp_eq C 137 dX8_reach_83 (by decide) (fun h6 => ?_) (fun h6 => ?_)
            · have h6 : m_wx σ u = none := (pq_o_m1 (fun w hw => by have := w2 w hw; omega)).mp h6
              exact kk g mo hG hgr hm0 hm1 (fun _ v v1 v2 hv => by rw [m_edge, h6] at hv; simp at hv) _
            · have h6 : m_wx σ u ≠ none := fun e => h6 (by rw [e]; rfl)
              cases hx : m_wx σ u with
              | none => exact absurd hx h6
              | some w =>
                have hw := w2 w hx
                have hE : ∀ v, m_edge σ u v = m_way σ u w (m_wy σ u) v := fun v => by rw [m_edge, h5, hx]; rfl
                have w1' : σ.1 6 u = nI w := by rw [w1, hx]; rfl
                refine ux_aload_n C dX8_reach_86 5 rfl ?_
                refine ux_get C flX8_reach_50 0 rfl rfl rfl dX8_reach_87 ?_
                refine ux_iload C dX8_reach_90 0 rfl ?_
                refine ux_zald C 13 12 (i) rfl rfl (rfl) (by omega) (by decide) dX8_reach_92 ?_
                refine ux_if_ne C 131 dX8_reach_93 (by decide) (fun h7 => ?_) (fun h7 => ?_)
                · have h7 : ¬ g i = 0 := h7
                  have h71 : g i = 1 := (hG.1 i (by omega)).resolve_left h7
                  refine ux_iinc C (nI (i + 1)) [(6, _), (5, _), (4, _), (2, _), (3, _), (0, _), (1, _)] dX8_reach_131 0 rfl (pq_inc i) (by decide) rfl ?_
                  refine ux_goto C 52 dX8_reach_134 (by decide) ?_
                  exact ih (i + 1) g mo (by omega) (by omega) (by omega) hG hgr hm0 hm1 (fun v v1 v2 hv => by
                    rcases Nat.lt_succ_iff_lt_or_eq.mp v2 with h | h
                    · exact hcl v v1 h hv
                    · rw [h]; exact h71)
                · have h7 : g i = 0 := h7
                  refine ux_aload_n C dX8_reach_96 5 rfl ?_
                  refine ux_iload C dX8_reach_97 0 rfl ?_
                  refine ux_iload C dX8_reach_99 2 rfl ?_
                  refine ux_aload_n C dX8_reach_101 5 rfl ?_
                  refine ux_get C flX8_reach_30 0 rfl rfl rfl dX8_reach_102 ?_
                  refine ux_iload C dX8_reach_105 2 rfl ?_
                  refine ux_iald C 7 6 (u) rfl rfl (rfl) (by omega) (by decide) dX8_reach_107 ?_
                  refine ux_top _ w1' ?_
                  refine ux_aload_n C dX8_reach_108 5 rfl ?_
                  refine ux_get C flX8_reach_33 0 rfl rfl rfl dX8_reach_109 ?_
                  refine ux_iload C dX8_reach_112 2 rfl ?_
                  refine ux_zald C 8 7 (u) rfl rfl (rfl) (by omega) (by decide) dX8_reach_114 ?_
                  refine ux_top _ w3 ?_
                  refine ux_callI C gkX8_reach_76 (c_X8_isInWay l D ad cA A (sa σ 12 g) i u w (m_wy σ u) hF (by omega) hu2 hw) rfl ⟨rfl, rfl⟩ ⟨(Nat.le_of_ble_eq_true rfl), (Nat.le_of_ble_eq_true rfl)⟩ ⟨Nat.le_refl _, Nat.le_refl _⟩ 0 rfl rfl rfl rfl (Nat.le_of_ble_eq_true rfl) dX8_reach_115 (fun r σ1 hr => ?_)
                  obtain ⟨rfl, rfl⟩ := hr
                  refine ux_if_eq C 131 dX8_reach_118 (by decide) (fun h8 => ?_) (fun h8 => ?_)
                  · have h8 : m_way σ u w (m_wy σ u) i = false := (pq_b0 _).mp h8
                    refine ux_iinc C (nI (i + 1)) [(6, _), (5, _), (4, _), (2, _), (3, _), (0, _), (1, _)] dX8_reach_131 0 rfl (pq_inc i) (by decide) rfl ?_
                    refine ux_goto C 52 dX8_reach_134 (by decide) ?_
                    exact ih (i + 1) g mo (by omega) (by omega) (by omega) hG hgr hm0 hm1 (fun v v1 v2 hv => by
                      rcases Nat.lt_succ_iff_lt_or_eq.mp v2 with h | h
                      · exact hcl v v1 h hv
                      · subst h; rw [hE, h8] at hv; cases hv)
                  · have h8 : m_way σ u w (m_wy σ u) i = true := (pq_bn0 _).mp h8
                    have hEi : m_edge σ u i = true := by rw [hE]; exact h8
                    have hci : pq_cl (m_edge σ) (σ.2.1 1) a i = true := by
                      rcases hfr rfl with e | e
                      · subst e; exact pq_cl_E hEi
                      · exact pq_cl_trans _ a u i hu1 hu2 e (pq_cl_E hEi)
                    have hzl := m_z_lt (n := σ.2.1 1) h2 (by omega) h7
                    refine ux_aload_n C dX8_reach_121 5 rfl ?_
                    refine ux_get C flX8_reach_50 0 rfl rfl rfl dX8_reach_122 ?_
                    refine ux_iload C dX8_reach_125 0 rfl ?_
                    refine ux_iconst C ((1 : Int32)) dX8_reach_127 (by decide) ?_
                    refine ux_zast C 13 12 (i) rfl rfl (rfl) (by omega) (by decide) (rfl) dX8_reach_128 _ (awM_12 _ _ _ _) ?_
                    refine ux_iconst C (pq_b true) dX8_reach_129 (by decide) ?_
                    refine ux_istore_n C [(2, _), (6, _), (5, _), (4, _), (3, _), (0, _), (1, _)] dX8_reach_130 rfl (by decide) rfl ?_
                    refine ux_iinc C (nI (i + 1)) [(6, _), (2, _), (5, _), (4, _), (3, _), (0, _), (1, _)] dX8_reach_131 1 rfl (pq_inc i) (by decide) rfl ?_
                    refine ux_goto C 52 dX8_reach_134 (by decide) ?_
                    refine ux_sub [(6, _), (5, _), (4, _), (2, _), (3, _), (0, _), (1, _)] [0, 2, 3, 1, 4, 5, 6] rfl ?_
                    refine ux_at (sa_sa _ _ _ _) ?_
                    refine ih (i + 1) (upd g i 1) true (by omega) (by omega) (by omega) ⟨fun v hv => ?_, fun v v1 v2 hv => ?_⟩ (fun v v1 v2 => ?_) (fun q => by cases q) (fun _ => ?_) (fun v v1 v2 hv => ?_)
                    · rw [upd_at]; split
                      · exact Or.inr rfl
                      · exact hG.1 v hv
                    · rw [upd_at] at hv
                      by_cases e : v = i
                      · rw [e]; exact hci
                      · rw [if_neg e] at hv; exact hG.2 v v1 v2 hv
                    · rw [upd_at]; split
                      · rfl
                      · exact hgr v v1 v2
                    · cases hmo : mo with
                      | false => rw [← m_z_congr (hm0 hmo)]; exact hzl
                      | true => exact Nat.lt_trans hzl (hm1 hmo)
                    · rw [upd_at]; split
                      · rfl
                      · exact hcl v v1 (by omega) hv
  have pass : ∀ (f0 : Nat → Int32) (bg : Bool), (bg = true → m_Cl σ a f0) → (∀ (g : Nat → Int32) (mo : Bool), m_G σ a g → m_Cl σ a g → (mo = false → ∀ v, 1 ≤ v → v ≤ σ.2.1 1 → g v = 1 → m_Cl σ v g) → (mo = true → m_z (σ.2.1 1) g < m_z (σ.2.1 1) f0) → ∀ i : Int32, ux_V p l e (ux_rm 2) s m ([.ref (ad 0), .int (nI a)] : List Value).toArray below meth c (MQ below (va_Qv (fun σ' => ∃ f, σ' = sa σ 12 f ∧ ∀ v, 1 ≤ v → v ≤ σ.2.1 1 → f v = pq_b (pq_cl (m_edge σ) (σ.2.1 1) a v)) (fun σ' t => va_P D vwCl (wM ad cA σ') t.heap) A) ([.ref (ad 0), .int (nI a)] : List Value).toArray s 0 0 A) 7 D vwCl (wM ad cA) A 0 0 (sa σ 12 g) 143 [(4, .int i), (2, .int (pq_b mo)), (3, .int (pq_b bg)), (0, .ref (ad 0)), (1, .int (nI a))] []) → ∀ (k u : Nat) (f : Nat → Int32) (mo : Bool), σ.2.1 1 + 2 ≤ u + k → 1 ≤ u → u ≤ σ.2.1 1 + 1 → m_G σ a f → (∀ v, v ≤ σ.2.1 1 → f0 v = 1 → f v = 1) → (mo = false → ∀ v, v ≤ σ.2.1 1 → f v = f0 v) → (mo = true → m_z (σ.2.1 1) f < m_z (σ.2.1 1) f0) → (∀ u', 1 ≤ u' → u' < u → (f0 u' = 1 ∨ (u' = a ∧ bg = false)) → m_Cl σ u' f) → ux_V p l e (ux_rm 2) s m ([.ref (ad 0), .int (nI a)] : List Value).toArray below meth c (MQ below (va_Qv (fun σ' => ∃ f, σ' = sa σ 12 f ∧ ∀ v, 1 ≤ v → v ≤ σ.2.1 1 → f v = pq_b (pq_cl (m_edge σ) (σ.2.1 1) a v)) (fun σ' t => va_P D vwCl (wM ad cA σ') t.heap) A) ([.ref (ad 0), .int (nI a)] : List Value).toArray s 0 0 A) 7 D vwCl (wM ad cA) A 0 0 (sa σ 12 f) 13 [(4, .int (nI u)), (2, .int (pq_b mo)), (3, .int (pq_b bg)), (0, .ref (ad 0)), (1, .int (nI a))] [] := by
    intro f0 bg hbg kk k
    induction k with
    | zero => intro u f mo h1 h2 h3; omega
    | succ k ih =>
      intro u f mo h1 h2 h3 hG hgr hm0 hm1 hcl
      refine ux_iload C dX8_reach_13 0 rfl ?_
      refine ux_aload_n C dX8_reach_15 3 rfl ?_
      refine ux_get C flX8_reach_53 0 rfl rfl rfl dX8_reach_16 ?_
      refine ux_icmp_gt C 143 dX8_reach_19 (by decide) (fun hc => ?_) (fun hc => ?_)
      · have hc : nI (σ.2.1 1) < nI u := hc
        have hc := (nI_ltI (by omega) (by omega)).mp hc
        refine kk f mo hG ?_ (fun q v v1 v2 hv => hcl v v1 (by omega) (Or.inl ((hm0 q v v2).symm.trans hv))) hm1 _
        cases hb : bg with
        | false =>
          rcases Nat.eq_zero_or_pos a with e | e
          · intro v v1 v2 hv
            rw [m_edge, e, show m_act σ (nI 0) = false by rw [m_act, pq_act_n (by omega) (by omega)]; simp] at hv
            cases hv
          · exact hcl a e (by omega) (Or.inr ⟨rfl, hb⟩)
        | true => exact fun v v1 v2 hv => hgr v v2 (hbg hb v v1 v2 hv)
      · have hc : ¬ nI (σ.2.1 1) < nI u := hc
        have hc := mt (nI_ltI (by omega) (by omega)).mpr hc
        have go : ∀ fr : Bool, (fr = true → u = a ∨ pq_cl (m_edge σ) (σ.2.1 1) a u = true) → ((f0 u = 1 ∨ (u = a ∧ bg = false)) → fr = true) → ux_V p l e (ux_rm 2) s m ([.ref (ad 0), .int (nI a)] : List Value).toArray below meth c (MQ below (va_Qv (fun σ' => ∃ f, σ' = sa σ 12 f ∧ ∀ v, 1 ≤ v → v ≤ σ.2.1 1 → f v = pq_b (pq_cl (m_edge σ) (σ.2.1 1) a v)) (fun σ' t => va_P D vwCl (wM ad cA σ') t.heap) A) ([.ref (ad 0), .int (nI a)] : List Value).toArray s 0 0 A) 7 D vwCl (wM ad cA) A 0 0 (sa σ 12 f) 47 [(4, .int (nI u)), (2, .int (pq_b mo)), (3, .int (pq_b bg)), (0, .ref (ad 0)), (1, .int (nI a))] [.int (pq_b fr)] := by
          intro fr hfr hfr2
          refine ux_istore C [(5, _), (4, _), (2, _), (3, _), (0, _), (1, _)] dX8_reach_47 (by decide) rfl ?_
          refine ux_iconst C (nI 1) dX8_reach_49 (by decide) ?_
          refine ux_istore C [(6, _), (5, _), (4, _), (2, _), (3, _), (0, _), (1, _)] dX8_reach_50 (by decide) rfl ?_
          refine inner u f0 f fr bg h2 (by omega) hfr (fun g mo' gG ggr gm0 gm1 gcl i => ?_) (σ.2.1 1 + 2) 1 f mo (by omega) (by omega) (by omega) hG (fun _ _ q => q) hm0 hm1 (fun v v1 v2 => by omega)
          refine ux_iinc C (nI (u + 1)) [(4, _), (6, _), (5, _), (2, _), (3, _), (0, _), (1, _)] dX8_reach_137 2 rfl (pq_inc u) (by decide) rfl ?_
          refine ux_goto C 13 dX8_reach_140 (by decide) ?_
          refine ux_sub [(4, _), (2, _), (3, _), (0, _), (1, _)] [0, 3, 4, 5, 6] rfl ?_
          refine ih (u + 1) g mo' (by omega) (by omega) (by omega) gG (fun v v1 v2 => ggr v v1 (hgr v v1 v2)) gm0 gm1 (fun u' u1 u2 hu' => ?_)
          rcases Nat.lt_succ_iff_lt_or_eq.mp u2 with h | h
          · exact fun v v1 v2 hv => ggr v v2 (hcl u' u1 h hu' v v1 v2 hv)
          · subst h; exact gcl (hfr2 hu')
        refine ux_aload_n C dX8_reach_22 3 rfl ?_
        refine ux_get C flX8_reach_50 0 rfl rfl rfl dX8_reach_23 ?_
        refine ux_iload C dX8_reach_26 0 rfl ?_
        refine ux_zald C 13 12 (u) rfl rfl (rfl) (by omega) (by decide) dX8_reach_28 ?_
        refine ux_if_ne C 42 dX8_reach_29 (by decide) (fun h4 => ?_) (fun h4 => ?_)
        · have h4 : ¬ f u = 0 := h4
          have h41 : f u = 1 := (hG.1 u (by omega)).resolve_left h4
          refine ux_iconst C (pq_b true) dX8_reach_42 (by decide) ?_
          refine ux_goto C 47 dX8_reach_43 (by decide) ?_
          exact go true (fun _ => Or.inr (hG.2 u h2 (by omega) h41)) (fun _ => rfl)
        · have h4 : f u = 0 := h4
          have hf0 : ¬ f0 u = 1 := fun e => by have := hgr u (by omega) e; rw [h4] at this; exact absurd this (by decide)
          refine ux_iload C dX8_reach_32 0 rfl ?_
          refine ux_iload_n C dX8_reach_34 4 rfl ?_
          refine ux_icmp_ne C 46 dX8_reach_35 (by decide) (fun h5 => ?_) (fun h5 => ?_)
          · have h5 : ¬ u = a := fun e => h5 (by rw [e])
            refine ux_iconst C (pq_b false) dX8_reach_46 (by decide) ?_
            exact go false (fun q => by cases q) (fun q => by rcases q with q | q; exact absurd q hf0; exact absurd q.1 h5)
          · have h5 : u = a := (nI_eq (by omega) (by omega)).mp h5
            refine ux_iload_n C dX8_reach_38 2 rfl ?_
            refine ux_if_ne C 46 dX8_reach_39 (by decide) (fun h6 => ?_) (fun h6 => ?_)
            · have h6 := (pq_bn0 _).mp h6
              refine ux_iconst C (pq_b false) dX8_reach_46 (by decide) ?_
              exact go false (fun q => by cases q) (fun q => by rcases q with q | q; exact absurd q hf0; rw [h6] at q; exact absurd q.2 (by decide))
            · refine ux_iconst C (pq_b true) dX8_reach_42 (by decide) ?_
              refine ux_goto C 47 dX8_reach_43 (by decide) ?_
              exact go true (fun _ => Or.inl h5) (fun _ => rfl)
  have fin : ∀ (f : Nat → Int32) (bg : Bool), m_G σ a f → m_Cl σ a f → (∀ v, 1 ≤ v → v ≤ σ.2.1 1 → f v = 1 → m_Cl σ v f) → ux_V p l e (ux_rm 2) s m ([.ref (ad 0), .int (nI a)] : List Value).toArray below meth c (MQ below (va_Qv (fun σ' => ∃ f, σ' = sa σ 12 f ∧ ∀ v, 1 ≤ v → v ≤ σ.2.1 1 → f v = pq_b (pq_cl (m_edge σ) (σ.2.1 1) a v)) (fun σ' t => va_P D vwCl (wM ad cA σ') t.heap) A) ([.ref (ad 0), .int (nI a)] : List Value).toArray s 0 0 A) 7 D vwCl (wM ad cA) A 0 0 (sa σ 12 f) 4 [(3, .int (pq_b bg)), (2, .int (pq_b false)), (0, .ref (ad 0)), (1, .int (nI a))] [] := by
    intro f bg hG c1 c2
    refine ux_iload_n C dX8_reach_4 1 rfl ?_
    refine ux_if_eq C 148 dX8_reach_5 (by decide) (fun h4 => ?_) (fun h4 => ?_)
    · refine ux_vret C dX8_reach_148 ?_
      refine ⟨f, rfl, fun v v1 v2 => ?_⟩
      cases hc : pq_cl (m_edge σ) (σ.2.1 1) a v with
      | true =>
        refine pq_cl_in (F := fun x => f x = 1) (t := a) (fun u x x1 x2 hu hx => ?_) (σ.2.1 1) (Nat.le_refl _) a v v1 v2 (Or.inl rfl) hc
        rcases hu with e | ⟨u1, u2, u3⟩
        · subst e; exact c1 x x1 x2 hx
        · exact c2 u u1 u2 u3 x x1 x2 hx
      | false =>
        rcases hG.1 v v2 with e | e
        · exact e
        · rw [hG.2 v v1 v2 e] at hc; cases hc
    · exact absurd rfl h4
  have outer : ∀ (k : Nat) (f : Nat → Int32) (bg : Bool), m_z (σ.2.1 1) f < k → m_G σ a f → (bg = true → m_Cl σ a f) → ux_V p l e (ux_rm 2) s m ([.ref (ad 0), .int (nI a)] : List Value).toArray below meth c (MQ below (va_Qv (fun σ' => ∃ f, σ' = sa σ 12 f ∧ ∀ v, 1 ≤ v → v ≤ σ.2.1 1 → f v = pq_b (pq_cl (m_edge σ) (σ.2.1 1) a v)) (fun σ' t => va_P D vwCl (wM ad cA σ') t.heap) A) ([.ref (ad 0), .int (nI a)] : List Value).toArray s 0 0 A) 7 D vwCl (wM ad cA) A 0 0 (sa σ 12 f) 4 [(3, .int (pq_b bg)), (2, .int (pq_b true)), (0, .ref (ad 0)), (1, .int (nI a))] [] := by
    intro k
    induction k with
    | zero => intro f bg h1; omega
    | succ k ih =>
      intro f bg h1 hG hbg
      refine ux_iload_n C dX8_reach_4 1 rfl ?_
      refine ux_if_eq C 148 dX8_reach_5 (by decide) (fun h4 => ?_) (fun h4 => ?_)
      · exact absurd h4 (by decide)
      · refine ux_iconst C (pq_b false) dX8_reach_8 (by decide) ?_
        refine ux_istore_n C [(2, _), (3, _), (0, _), (1, _)] dX8_reach_9 rfl (by decide) rfl ?_
        refine ux_iconst C (nI 1) dX8_reach_10 (by decide) ?_
        refine ux_istore C [(4, _), (2, _), (3, _), (0, _), (1, _)] dX8_reach_11 (by decide) rfl ?_
        refine pass f bg hbg (fun g mo' gG gcl gm0 gm1 i => ?_) (σ.2.1 1 + 2) 1 f false (by omega) (by omega) (by omega) hG (fun _ _ q => q) (fun _ _ _ => rfl) (fun q => by cases q) (fun u' u1 u2 => by omega)
        refine ux_iconst C (pq_b true) dX8_reach_143 (by decide) ?_
        refine ux_istore_n C [(3, _), (4, _), (2, _), (0, _), (1, _)] dX8_reach_144 rfl (by decide) rfl ?_
        refine ux_goto C 4 dX8_reach_145 (by decide) ?_
        refine ux_sub [(3, _), (2, _), (0, _), (1, _)] [0, 2, 3, 4] rfl ?_
        cases mo' with
        | false => exact fin g true gG gcl (gm0 rfl)
        | true => exact ih g true (by have := gm1 rfl; omega) gG (fun _ => gcl)
  refine ux_iconst C (pq_b true) dX8_reach_0 (by decide) ?_
  refine ux_istore_n C [(2, _), (0, _), (1, _)] dX8_reach_1 rfl (by decide) rfl ?_
  refine ux_iconst C (pq_b false) dX8_reach_2 (by decide) ?_
  refine ux_istore_n C [(3, _), (2, _), (0, _), (1, _)] dX8_reach_3 rfl (by decide) rfl ?_
  refine ux_at (sa_self σ 12).symm ?_
  refine outer (m_z (σ.2.1 1) (σ.1 12) + 1) (σ.1 12) false (by omega) ⟨fun v hv => Or.inl (hz v hv), fun v v1 v2 hv => ?_⟩ (fun q => by cases q)
  rw [hz v v2] at hv
  exact absurd hv (by decide)
set_option maxHeartbeats 4000000 in
set_option maxRecDepth 100000 in
theorem c_X8_ring (l : Launch) (D : va_G) (ad : Nat → Nat) (cA : Nat → ClassId) (A : Nat → Prop) (σ : ST) (hF : mF σ) (hW : mW σ) : ux_I l D vwCl (tyM cA) (wM ad cA) A yX8_ring wsX8_ring (ux_rm 3) [.ref (ad 0)] σ (fun r σ' => r = m_ring σ ∧ ∃ f, σ' = sa σ 12 f) := by
  refine ux_ofI (cc := cX8_ring) (maxL := 3) (ret := (some .int)) (Ts := wsX8_ring) (lv := [(0, .ref (ad 0))]) (by decide) rfl (fun _ h => h) (Nat.le_of_ble_eq_true rfl) rfl ?_
  intro p e s m below meth c C
  have hF0 := hF.1
  have clear : ∀ (a : Nat) (f' : Nat → Int32) (kk : ∀ g, (∀ v, v ≤ σ.2.1 1 → g v = 0) → ∀ x, ux_V p l e (ux_rm 3) s m ([.ref (ad 0)] : List Value).toArray below meth c (MQ below (va_Qi (fun r σ' => r = m_ring σ ∧ ∃ f, σ' = sa σ 12 f) (fun σ' t => va_P D vwCl (wM ad cA σ') t.heap) A) ([.ref (ad 0)] : List Value).toArray s 0 0 A) 3 D vwCl (wM ad cA) A 0 0 (sa σ 12 g) 33 [(2, .int x), (1, .int (nI a)), (0, .ref (ad 0))] []) (k i : Nat) (g : Nat → Int32), σ.2.1 1 + 2 ≤ i + k → i ≤ σ.2.1 1 + 1 → (∀ v, v < i → g v = 0) → ux_V p l e (ux_rm 3) s m ([.ref (ad 0)] : List Value).toArray below meth c (MQ below (va_Qi (fun r σ' => r = m_ring σ ∧ ∃ f, σ' = sa σ 12 f) (fun σ' t => va_P D vwCl (wM ad cA σ') t.heap) A) ([.ref (ad 0)] : List Value).toArray s 0 0 A) 3 D vwCl (wM ad cA) A 0 0 (sa σ 12 g) 12 [(2, .int (nI i)), (1, .int (nI a)), (0, .ref (ad 0))] [] := by
    intro a f' kk k
    induction k with
    | zero => intro i g h1 h2; omega
    | succ k ih =>
      intro i g h1 h2 h3
      refine ux_iload_n C dX8_ring_12 0 rfl ?_
      refine ux_aload_n C dX8_ring_13 2 rfl ?_
      refine ux_get C flX8_ring_53 0 rfl rfl rfl dX8_ring_14 ?_
      refine ux_icmp_gt C 33 dX8_ring_17 (by decide) (fun hc => ?_) (fun hc => ?_)
      · have hc : nI (σ.2.1 1) < nI i := hc
        have hc := (nI_ltI (by omega) (by omega)).mp hc
        exact kk g (fun v hv => h3 v (by omega)) _
      · have hc : ¬ nI (σ.2.1 1) < nI i := hc
        have hc := mt (nI_ltI (by omega) (by omega)).mpr hc
        refine ux_aload_n C dX8_ring_20 2 rfl ?_
        refine ux_get C flX8_ring_50 0 rfl rfl rfl dX8_ring_21 ?_
        refine ux_iload_n C dX8_ring_24 0 rfl ?_
        refine ux_iconst C ((0 : Int32)) dX8_ring_25 (by decide) ?_
        refine ux_zast C 13 12 (i) rfl rfl (rfl) (by omega) (by decide) (rfl) dX8_ring_26 _ (awM_12 _ _ _ _) ?_
        refine ux_iinc C (nI (i + 1)) [(2, _), (1, _), (0, _)] dX8_ring_27 0 rfl (pq_inc i) (by decide) rfl ?_
        refine ux_goto C 12 dX8_ring_30 (by decide) ?_
        refine ux_at (sa_sa _ _ _ _) ?_
        refine ih (i + 1) (upd g i 0) (by omega) (by omega) (fun v hv => ?_)
        rw [upd_at]; split
        · rfl
        · exact h3 v (by omega)
  have loop : ∀ (k j : Nat) (f : Nat → Int32), σ.2.1 1 + 1 ≤ j + k → j ≤ σ.2.1 1 → (∀ i, i < j → (m_act σ (nI (i + 1)) && pq_cl (m_edge σ) (σ.2.1 1) (i + 1) (i + 1)) = false) → ux_V p l e (ux_rm 3) s m ([.ref (ad 0)] : List Value).toArray below meth c (MQ below (va_Qi (fun r σ' => r = m_ring σ ∧ ∃ f, σ' = sa σ 12 f) (fun σ' t => va_P D vwCl (wM ad cA σ') t.heap) A) ([.ref (ad 0)] : List Value).toArray s 0 0 A) 3 D vwCl (wM ad cA) A 0 0 (sa σ 12 f) 2 [(1, .int (nI (j + 1))), (0, .ref (ad 0))] [] := by
    intro k
    induction k with
    | zero => intro j f h1 h2; omega
    | succ k ih =>
      intro j f h1 h2 h3
      refine ux_iload_n C dX8_ring_2 0 rfl ?_
      refine ux_aload_n C dX8_ring_3 1 rfl ?_
      refine ux_get C flX8_ring_53 0 rfl rfl rfl dX8_ring_4 ?_
      refine ux_icmp_gt C 63 dX8_ring_7 (by decide) (fun hc => ?_) (fun hc => ?_)
      · have hc : nI (σ.2.1 1) < nI (j + 1) := hc
        have hc := (nI_ltI (by omega) (by omega)).mp hc
        have e : j = σ.2.1 1 := by omega
        subst e
        refine ux_iconst C ((0 : Int32)) dX8_ring_63 (by decide) ?_
        exact ux_iret C dX8_ring_64 (⟨by rw [m_ring, pq_fst_none.mpr h3], f, rfl⟩)
      · have hc : ¬ nI (σ.2.1 1) < nI (j + 1) := hc
        have hc := mt (nI_ltI (by omega) (by omega)).mpr hc
        refine ux_iconst C (nI 0) dX8_ring_10 (by decide) ?_
        refine ux_istore_n C [(2, _), (1, _), (0, _)] dX8_ring_11 rfl (by decide) rfl ?_
        refine clear (j + 1) f (fun g hg x => ?_) (σ.2.1 1 + 2) 0 f (by omega) (by omega) (fun v hv => by omega)
        refine ux_aload_n C dX8_ring_33 2 rfl ?_
        refine ux_iload_n C dX8_ring_34 1 rfl ?_
        refine ux_callN C gkX8_ring_116 (c_X8_reach l D ad cA A (sa σ 12 g) (j + 1) hF hW (by show j + 1 ≤ σ.2.1 1; omega) hg) rfl ⟨rfl, rfl⟩ ⟨(Nat.le_of_ble_eq_true rfl), (Nat.le_of_ble_eq_true rfl)⟩ ⟨Nat.le_refl _, Nat.le_refl _⟩ 0 rfl rfl rfl rfl (Nat.le_of_ble_eq_true rfl) dX8_ring_35 (fun σ1 hr => ?_)
        obtain ⟨g2, rfl, hg2⟩ := hr
        refine ux_at (show sa (sa σ 12 g) 12 g2 = sa σ 12 g2 from sa_sa _ _ _ _) ?_
        have hg2 : g2 (j + 1) = pq_b (pq_cl (m_edge σ) (σ.2.1 1) (j + 1) (j + 1)) := hg2 (j + 1) (by omega) (by show j + 1 ≤ σ.2.1 1; omega)
        refine ux_aload_n C dX8_ring_38 2 rfl ?_
        refine ux_iload_n C dX8_ring_39 1 rfl ?_
        refine ux_callI C gkX8_ring_68 (c_X8_isActive l D ad cA A (sa σ 12 g2) (nI (j + 1)) hF0) rfl ⟨rfl, rfl⟩ ⟨(Nat.le_of_ble_eq_true rfl), (Nat.le_of_ble_eq_true rfl)⟩ ⟨Nat.le_refl _, Nat.le_refl _⟩ 0 rfl rfl rfl rfl (Nat.le_of_ble_eq_true rfl) dX8_ring_40 (fun r σ1 hr => ?_)
        obtain ⟨rfl, rfl⟩ := hr
        have next : (m_act σ (nI (j + 1)) && pq_cl (m_edge σ) (σ.2.1 1) (j + 1) (j + 1)) = false → ux_V p l e (ux_rm 3) s m ([.ref (ad 0)] : List Value).toArray below meth c (MQ below (va_Qi (fun r σ' => r = m_ring σ ∧ ∃ f, σ' = sa σ 12 f) (fun σ' t => va_P D vwCl (wM ad cA σ') t.heap) A) ([.ref (ad 0)] : List Value).toArray s 0 0 A) 3 D vwCl (wM ad cA) A 0 0 (sa σ 12 g2) 57 [(2, .int x), (1, .int (nI (j + 1))), (0, .ref (ad 0))] [] := by
          intro hf
          refine ux_iinc C (nI (j + 1 + 1)) [(1, _), (2, _), (0, _)] dX8_ring_57 1 rfl (pq_inc (j + 1)) (by decide) rfl ?_
          refine ux_goto C 2 dX8_ring_60 (by decide) ?_
          refine ux_sub [(1, _), (0, _)] [0, 2] rfl ?_
          exact ih (j + 1) g2 (by omega) (by omega) (fun i hi => by rcases Nat.lt_succ_iff_lt_or_eq.mp hi with h | h; exact h3 i h; subst h; exact hf)
        refine ux_if_eq C 57 dX8_ring_43 (by decide) (fun h4 => ?_) (fun h4 => ?_)
        · have h4 : m_act σ (nI (j + 1)) = false := (pq_b0 _).mp h4
          exact next (by rw [h4]; rfl)
        · have h4 : m_act σ (nI (j + 1)) = true := (pq_bn0 _).mp h4
          refine ux_aload_n C dX8_ring_46 2 rfl ?_
          refine ux_get C flX8_ring_50 0 rfl rfl rfl dX8_ring_47 ?_
          refine ux_iload_n C dX8_ring_50 1 rfl ?_
          refine ux_zald C 13 12 (j + 1) rfl rfl (rfl) (by omega) (by decide) dX8_ring_51 ?_
          refine ux_top _ hg2 ?_
          refine ux_if_eq C 57 dX8_ring_52 (by decide) (fun h5 => ?_) (fun h5 => ?_)
          · exact next (by rw [(pq_b0 _).mp h5]; simp)
          · have h5 := (pq_bn0 _).mp h5
            refine ux_iload_n C dX8_ring_55 1 rfl ?_
            exact ux_iret C dX8_ring_56 (⟨by rw [m_ring, (pq_fst_some (p := fun i => m_act σ (nI (i + 1)) && pq_cl (m_edge σ) (σ.2.1 1) (i + 1) (i + 1)) (i := j)).mpr ⟨by omega, by rw [h4, h5]; rfl, h3⟩], g2, rfl⟩)
  refine ux_iconst C (nI 1) dX8_ring_0 (by decide) ?_
  refine ux_istore_n C [(1, _), (0, _)] dX8_ring_1 rfl (by decide) rfl ?_
  refine ux_at (sa_self σ 12).symm ?_
  exact loop (σ.2.1 1 + 1) 0 (σ.1 12) (by omega) (by omega) (fun i hi => by omega)

