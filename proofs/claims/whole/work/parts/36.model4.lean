theorem hiX8_told_8 : ∀ w ∈ wsX80, w ∈ wsX8_told := by decide +kernel
theorem flX8_told_53 : ux_F wsX8_told RX8 53 RX8 TX8 16 7 := ⟨hiX8_told_8, by decide, by decide +kernel⟩
theorem flX8_told_21 : ux_F wsX8_told RX8 21 RX8 TX8 16 4 := ⟨hiX8_told_8, by decide, by decide +kernel⟩
theorem flX8_told_14 : ux_F wsX8_told RX8 14 RX8 TX8 16 2 := ⟨hiX8_told_8, by decide, by decide +kernel⟩
theorem flX8_told_24 : ux_F wsX8_told RX8 24 RX8 TX8 16 5 := ⟨hiX8_told_8, by decide, by decide +kernel⟩
theorem hiX8_mark_8 : ∀ w ∈ wsX80, w ∈ wsX8_mark := by decide +kernel
theorem flX8_mark_103 : ux_F wsX8_mark RX8 103 RX8 TX8 16 14 := ⟨hiX8_mark_8, by decide, by decide +kernel⟩
theorem flX8_mark_44 : ux_F wsX8_mark RX8 44 RX8 TX8 16 12 := ⟨hiX8_mark_8, by decide, by decide +kernel⟩
theorem flX8_mark_14 : ux_F wsX8_mark RX8 14 RX8 TX8 16 2 := ⟨hiX8_mark_8, by decide, by decide +kernel⟩
theorem flX8_mark_47 : ux_F wsX8_mark RX8 47 RX8 TX8 16 13 := ⟨hiX8_mark_8, by decide, by decide +kernel⟩
theorem flX8_mark_18 : ux_F wsX8_mark RX8 18 RX8 TX8 16 3 := ⟨hiX8_mark_8, by decide, by decide +kernel⟩
theorem flX8_mark_37 : ux_F wsX8_mark RX8 37 RX8 TX8 16 10 := ⟨hiX8_mark_8, by decide, by decide +kernel⟩
theorem flX8_mark_40 : ux_F wsX8_mark RX8 40 RX8 TX8 16 11 := ⟨hiX8_mark_8, by decide, by decide +kernel⟩
theorem hiX8_restore_8 : ∀ w ∈ wsX80, w ∈ wsX8_restore := by decide +kernel
theorem flX8_restore_14 : ux_F wsX8_restore RX8 14 RX8 TX8 16 2 := ⟨hiX8_restore_8, by decide, by decide +kernel⟩
theorem flX8_restore_44 : ux_F wsX8_restore RX8 44 RX8 TX8 16 12 := ⟨hiX8_restore_8, by decide, by decide +kernel⟩
theorem flX8_restore_18 : ux_F wsX8_restore RX8 18 RX8 TX8 16 3 := ⟨hiX8_restore_8, by decide, by decide +kernel⟩
theorem flX8_restore_47 : ux_F wsX8_restore RX8 47 RX8 TX8 16 13 := ⟨hiX8_restore_8, by decide, by decide +kernel⟩
theorem hiX8_end_8 : ∀ w ∈ wsX80, w ∈ wsX8_end := by decide +kernel
theorem flX8_end_103 : ux_F wsX8_end RX8 103 RX8 TX8 16 14 := ⟨hiX8_end_8, by decide, by decide +kernel⟩
theorem flX8_end_40 : ux_F wsX8_end RX8 40 RX8 TX8 16 11 := ⟨hiX8_end_8, by decide, by decide +kernel⟩
theorem flX8_end_37 : ux_F wsX8_end RX8 37 RX8 TX8 16 10 := ⟨hiX8_end_8, by decide, by decide +kernel⟩
theorem flX8_end_14 : ux_F wsX8_end RX8 14 RX8 TX8 16 2 := ⟨hiX8_end_8, by decide, by decide +kernel⟩
theorem flX8_end_18 : ux_F wsX8_end RX8 18 RX8 TX8 16 3 := ⟨hiX8_end_8, by decide, by decide +kernel⟩
theorem flX8_end_21 : ux_F wsX8_end RX8 21 RX8 TX8 16 4 := ⟨hiX8_end_8, by decide, by decide +kernel⟩
theorem flX8_end_27 : ux_F wsX8_end RX8 27 RX8 TX8 16 6 := ⟨hiX8_end_8, by decide, by decide +kernel⟩
theorem gkX8_told_100 : ux_G wsX8_told RX8 100 RX8 yX8_marksOf wsX8_marksOf 1 := ⟨gX8_told_X8_marksOf, by decide +kernel⟩
theorem gkX8_told_106 : ux_G wsX8_told RX8 106 RX8 yX8_children wsX8_children 1 := ⟨gX8_told_X8_children, by decide +kernel⟩
theorem gkX8_mark_68 : ux_G wsX8_mark RX8 68 RX8 yX8_isActive wsX8_isActive 1 := ⟨gX8_mark_X8_isActive, by decide +kernel⟩
theorem gkX8_mark_100 : ux_G wsX8_mark RX8 100 RX8 yX8_marksOf wsX8_marksOf 1 := ⟨gX8_mark_X8_marksOf, by decide +kernel⟩
set_option maxHeartbeats 4000000 in
set_option maxRecDepth 100000 in
theorem c_X8_told (l : Launch) (D : va_G) (ad : Nat → Nat) (cA : Nat → ClassId) (A : Nat → Prop) (σ : ST) (t w : Int32) (hF : mF σ) (hm : σ.2.1 2 ≤ 520) : ux_I l D vwCl (tyM cA) (wM ad cA) A yX8_told wsX8_told (ux_rm 2) [.ref (ad 0), .int t, .int w] σ (fun r σ' => r = m_told σ t w ∧ σ = σ') := by
  refine ux_ofI (cc := cX8_told) (maxL := 6) (ret := (some .int)) (Ts := wsX8_told) (lv := [(0, .ref (ad 0)), (1, .int t), (2, .int w)]) (by decide) rfl (fun _ h => h) (Nat.le_of_ble_eq_true rfl) rfl ?_
  intro p e s m below meth c C
  have hF0 := hF.1
  refine ux_iload_n C dX8_told_0 1 rfl ?_
  refine ux_iconst C ((1 : Int32)) dX8_told_1 (by decide) ?_
  refine ux_icmp_lt C 22 dX8_told_2 (by decide) (fun h1 => ?_) (fun h1 => ?_)
  · refine ux_iconst C ((-1 : Int32)) dX8_told_22 (by decide) ?_
    exact ux_iret C dX8_told_23 (⟨(if_neg (by rw [pq_ex, decide_eq_false (Int32.not_le.mpr h1)]; simp)).symm, rfl⟩)
  · refine ux_iload_n C dX8_told_5 1 rfl ?_
    refine ux_aload_n C dX8_told_6 0 rfl ?_
    refine ux_get C flX8_told_53 0 rfl rfl rfl dX8_told_7 ?_
    refine ux_icmp_gt C 22 dX8_told_10 (by decide) (fun h2 => ?_) (fun h2 => ?_)
    · refine ux_iconst C ((-1 : Int32)) dX8_told_22 (by decide) ?_
      exact ux_iret C dX8_told_23 (⟨(if_neg (by rw [pq_ex, decide_eq_false (Int32.not_le.mpr h2)]; simp)).symm, rfl⟩)
    · have h : pq_ex (σ.2.1 1) t = true := by rw [pq_ex, decide_eq_true (Int32.not_lt.mp h1), decide_eq_true (Int32.not_lt.mp h2)]; rfl
      obtain ⟨k, k1, k2, rfl⟩ := (pq_ex_iff (by omega)).mp h
      have hcl := nI_clamp (Nat.lt_of_le_of_lt (Nat.le_trans k2 hF.1) (show 150 < 2 ^ 31 by decide))
      have hu : m_told σ (nI k) w = (if w = 0 then σ.1 4 k else if w = 1 then nI (m_kids σ k) else if w = 2 then nI (m_marks σ (nI k)) else if w = 3 then nI (pq_cnt (m_mw σ k) 520) else if w = 4 then nI (pq_cnt (fun q => decide (σ.1 3 (520 * k + q) = 1)) 520) else if w = 5 then nI (pq_cnt (fun q => decide (σ.1 3 (520 * k + q) = 2)) 520) else -1) := by rw [m_told, if_pos h, hcl]
      have out : w < 0 ∨ 5 < w → m_told σ (nI k) w = -1 := by
        intro ho
        have ne : ∀ v : Int32, 0 ≤ v → v ≤ 5 → ¬ w = v := fun v v0 v5 e => by
          subst e
          rcases ho with ho | ho
          · exact Int32.not_le.mpr ho v0
          · exact Int32.not_le.mpr ho v5
        rw [hu, if_neg (ne 0 (by decide) (by decide)), if_neg (ne 1 (by decide) (by decide)), if_neg (ne 2 (by decide) (by decide)), if_neg (ne 3 (by decide) (by decide)), if_neg (ne 4 (by decide) (by decide)), if_neg (ne 5 (by decide) (by decide))]
      refine ux_iload_n C dX8_told_13 2 rfl ?_
      refine ux_if_lt C 22 dX8_told_14 (by decide) (fun h3 => ?_) (fun h3 => ?_)
      · refine ux_iconst C ((-1 : Int32)) dX8_told_22 (by decide) ?_
        exact ux_iret C dX8_told_23 (⟨(out (Or.inl h3)).symm, rfl⟩)
      · refine ux_iload_n C dX8_told_17 2 rfl ?_
        refine ux_iconst C ((5 : Int32)) dX8_told_18 (by decide) ?_
        refine ux_icmp_le C 24 dX8_told_19 (by decide) (fun h4 => ?_) (fun h4 => ?_)
        · refine ux_iload_n C dX8_told_24 2 rfl ?_
          refine ux_if_ne C 35 dX8_told_25 (by decide) (fun w0 => ?_) (fun w0 => ?_)
          · rw [if_neg w0] at hu
            refine ux_iload_n C dX8_told_35 2 rfl ?_
            refine ux_iconst C ((1 : Int32)) dX8_told_36 (by decide) ?_
            refine ux_icmp_ne C 46 dX8_told_37 (by decide) (fun w1 => ?_) (fun w1 => ?_)
            · rw [if_neg w1] at hu
              refine ux_iload_n C dX8_told_46 2 rfl ?_
              refine ux_iconst C ((2 : Int32)) dX8_told_47 (by decide) ?_
              refine ux_icmp_ne C 57 dX8_told_48 (by decide) (fun w2 => ?_) (fun w2 => ?_)
              · rw [if_neg w2] at hu
                have hw : w = 3 ∨ w = 4 ∨ w = 5 := by
                  have a3 := Int32.le_iff_toInt_le.mp (Int32.not_lt.mp h3)
                  have a4 := Int32.le_iff_toInt_le.mp h4
                  have b0 := lv_neT (a := 0) w0 (by decide)
                  have b1 := lv_neT (a := 1) w1 (by decide)
                  have b2 := lv_neT (a := 2) w2 (by decide)
                  have c0 : (0 : Int32).toInt = 0 := by decide
                  have c5 : (5 : Int32).toInt = 5 := by decide
                  have c3 : (3 : Int32).toInt = 3 := by decide
                  have c4 : (4 : Int32).toInt = 4 := by decide
                  by_cases e3 : w.toInt = 3
                  · exact Or.inl (Int32.toInt_inj.mp (by rw [e3, c3]))
                  · by_cases e4 : w.toInt = 4
                    · exact Or.inr (Or.inl (Int32.toInt_inj.mp (by rw [e4, c4])))
                    · exact Or.inr (Or.inr (Int32.toInt_inj.mp (by rw [c5]; omega)))
                have hv : m_told σ (nI k) w = nI (pq_cnt (m_tw σ k w) 520) := by
                  rw [hu]
                  rcases hw with e | e | e
                  · subst e; rw [if_pos rfl]; rfl
                  · subst e; rw [if_neg (by decide), if_pos rfl]; rfl
                  · subst e; rw [if_neg (by decide), if_neg (by decide), if_pos rfl]; rfl
                have loop : ∀ (q i : Nat), 521 ≤ i + q → i ≤ 520 → ux_V p l e (ux_rm 2) s m ([.ref (ad 0), .int (nI k), .int w] : List Value).toArray below meth c (MQ below (va_Qi (fun r σ' => r = m_told σ (nI k) w ∧ σ = σ') (fun σ' tt => va_P D vwCl (wM ad cA σ') tt.heap) A) ([.ref (ad 0), .int (nI k), .int w] : List Value).toArray s 0 0 A) 6 D vwCl (wM ad cA) A 0 0 σ 62 [(4, .int (nI i)), (3, .int (nI (pq_cnt (m_tw σ k w) i))), (0, .ref (ad 0)), (1, .int (nI k)), (2, .int w)] [] := by
                  intro q
                  induction q with
                  | zero => intro i h1 h2; omega
                  | succ q ih =>
                    intro i h1 h2
                    refine ux_iload C dX8_told_62 0 rfl ?_
                    refine ux_sipush C (nI 520) dX8_told_64 (by decide) ?_
                    refine ux_icmp_ge C 132 dX8_told_67 (by decide) (fun hc => ?_) (fun hc => ?_)
                    · have hc := (nI_leI (by omega) (by omega)).mp hc
                      have e : i = 520 := by omega
                      subst e
                      refine ux_iload_n C dX8_told_132 1 rfl ?_
                      exact ux_iret C dX8_told_133 (⟨hv.symm, rfl⟩)
                    · have hc := mt (nI_leI (by omega) (by omega)).mpr hc
                      have hih := ih (i + 1) (by omega) (by omega)
                      have go0 : m_tw σ k w i = false → ux_V p l e (ux_rm 2) s m ([.ref (ad 0), .int (nI k), .int w] : List Value).toArray below meth c (MQ below (va_Qi (fun r σ' => r = m_told σ (nI k) w ∧ σ = σ') (fun σ' tt => va_P D vwCl (wM ad cA σ') tt.heap) A) ([.ref (ad 0), .int (nI k), .int w] : List Value).toArray s 0 0 A) 6 D vwCl (wM ad cA) A 0 0 σ 123 [(5, .int (nI (520 * k + i))), (4, .int (nI i)), (3, .int (nI (pq_cnt (m_tw σ k w) i))), (0, .ref (ad 0)), (1, .int (nI k)), (2, .int w)] [.int (nI (pq_cnt (m_tw σ k w) i))] := by
                        intro hf
                        rw [pq_cnt_f (n := i) hf] at hih
                        refine ux_iconst C (nI 0) dX8_told_123 (by decide) ?_
                        refine ux_iadd C dX8_told_124 ?_
                        refine ux_top (nI _) (nI_add _ _) ?_
                        refine ux_istore_n C [(3, _), (5, _), (4, _), (0, _), (1, _), (2, _)] dX8_told_125 rfl (by decide) rfl ?_
                        refine ux_iinc C (nI (i + 1)) [(4, _), (3, _), (5, _), (0, _), (1, _), (2, _)] dX8_told_126 2 rfl (pq_inc i) (by decide) rfl ?_
                        refine ux_goto C 62 dX8_told_129 (by decide) ?_
                        refine ux_sub [(4, _), (3, _), (0, _), (1, _), (2, _)] [0, 1, 3, 4, 5] rfl ?_
                        exact hih
                      have go1 : m_tw σ k w i = true → ux_V p l e (ux_rm 2) s m ([.ref (ad 0), .int (nI k), .int w] : List Value).toArray below meth c (MQ below (va_Qi (fun r σ' => r = m_told σ (nI k) w ∧ σ = σ') (fun σ' tt => va_P D vwCl (wM ad cA σ') tt.heap) A) ([.ref (ad 0), .int (nI k), .int w] : List Value).toArray s 0 0 A) 6 D vwCl (wM ad cA) A 0 0 σ 119 [(5, .int (nI (520 * k + i))), (4, .int (nI i)), (3, .int (nI (pq_cnt (m_tw σ k w) i))), (0, .ref (ad 0)), (1, .int (nI k)), (2, .int w)] [.int (nI (pq_cnt (m_tw σ k w) i))] := by
                        intro hf
                        rw [pq_cnt_t (n := i) hf] at hih
                        refine ux_iconst C (nI 1) dX8_told_119 (by decide) ?_
                        refine ux_goto C 124 dX8_told_120 (by decide) ?_
                        refine ux_iadd C dX8_told_124 ?_
                        refine ux_top (nI _) (nI_add _ _) ?_
                        refine ux_istore_n C [(3, _), (5, _), (4, _), (0, _), (1, _), (2, _)] dX8_told_125 rfl (by decide) rfl ?_
                        refine ux_iinc C (nI (i + 1)) [(4, _), (3, _), (5, _), (0, _), (1, _), (2, _)] dX8_told_126 2 rfl (pq_inc i) (by decide) rfl ?_
                        refine ux_goto C 62 dX8_told_129 (by decide) ?_
                        refine ux_sub [(4, _), (3, _), (0, _), (1, _), (2, _)] [0, 1, 3, 4, 5] rfl ?_
                        exact hih
                      refine ux_sipush C (nI 520) dX8_told_70 (by decide) ?_
                      refine ux_iload_n C dX8_told_73 3 rfl ?_
                      refine ux_imul C dX8_told_74 ?_
                      refine ux_iload C dX8_told_75 0 rfl ?_
                      refine ux_iadd C dX8_told_77 ?_
                      refine ux_top (nI (520 * k + i)) (by rw [pk_mul, nI_add] <;> rfl) ?_
                      refine ux_istore C [(5, _), (4, _), (3, _), (0, _), (1, _), (2, _)] dX8_told_78 (by decide) rfl ?_
                      refine ux_iload_n C dX8_told_80 2 rfl ?_
                      refine ux_iload_n C dX8_told_81 5 rfl ?_
                      refine ux_iconst C ((3 : Int32)) dX8_told_82 (by decide) ?_
                      refine ux_icmp_ne C 99 dX8_told_83 (by decide) (fun h6 => ?_) (fun h6 => ?_)
                      · refine ux_aload_n C dX8_told_99 3 rfl ?_
                        refine ux_get C flX8_told_21 0 rfl rfl rfl dX8_told_100 ?_
                        refine ux_iload C dX8_told_103 0 rfl ?_
                        refine ux_bald C 4 3 (_) rfl rfl (rfl) (by omega) (by decide) dX8_told_105 ?_
                        refine ux_iload_n C dX8_told_106 5 rfl ?_
                        refine ux_iconst C ((4 : Int32)) dX8_told_107 (by decide) ?_
                        refine ux_icmp_ne C 115 dX8_told_108 (by decide) (fun h7 => ?_) (fun h7 => ?_)
                        · refine ux_iconst C ((2 : Int32)) dX8_told_115 (by decide) ?_
                          refine ux_icmp_ne C 123 dX8_told_116 (by decide) (fun h8 => ?_) (fun h8 => ?_)
                          · exact go0 (by rw [m_tw, if_neg h6, if_neg h7, decide_eq_false h8])
                          · exact go1 (by rw [m_tw, if_neg h6, if_neg h7, decide_eq_true h8])
                        · refine ux_iconst C ((1 : Int32)) dX8_told_111 (by decide) ?_
                          refine ux_goto C 116 dX8_told_112 (by decide) ?_
                          refine ux_icmp_ne C 123 dX8_told_116 (by decide) (fun h8 => ?_) (fun h8 => ?_)
                          · exact go0 (by rw [m_tw, if_neg h6, if_pos h7, decide_eq_false h8])
                          · exact go1 (by rw [m_tw, if_neg h6, if_pos h7, decide_eq_true h8])
                      · refine ux_aload_n C dX8_told_86 3 rfl ?_
                        refine ux_get C flX8_told_14 0 rfl rfl rfl dX8_told_87 ?_
                        refine ux_iload C dX8_told_90 0 rfl ?_
                        refine ux_bald C 2 1 (_) rfl rfl (rfl) (by omega) (by decide) dX8_told_92 ?_
                        refine ux_if_eq C 123 dX8_told_93 (by decide) (fun h8 => ?_) (fun h8 => ?_)
                        · exact go0 (by rw [m_tw, if_pos h6, m_mw, decide_eq_true h8]; rfl)
                        · refine ux_goto C 119 dX8_told_96 (by decide) ?_
                          exact go1 (by rw [m_tw, if_pos h6, m_mw, decide_eq_false h8]; rfl)
                refine ux_iconst C (nI 0) dX8_told_57 (by decide) ?_
                refine ux_istore_n C [(3, _), (0, _), (1, _), (2, _)] dX8_told_58 rfl (by decide) rfl ?_
                refine ux_iconst C (nI 0) dX8_told_59 (by decide) ?_
                refine ux_istore C [(4, _), (3, _), (0, _), (1, _), (2, _)] dX8_told_60 (by decide) rfl ?_
                exact loop 521 0 (by omega) (by omega)
              · rw [if_pos w2] at hu
                refine ux_aload_n C dX8_told_51 0 rfl ?_
                refine ux_iload_n C dX8_told_52 1 rfl ?_
                refine ux_callI C gkX8_told_100 (c_X8_marksOf l D ad cA A σ (nI k) hm) rfl ⟨rfl, rfl⟩ ⟨(Nat.le_of_ble_eq_true rfl), (Nat.le_of_ble_eq_true rfl)⟩ ⟨Nat.le_refl _, Nat.le_refl _⟩ 0 rfl rfl rfl rfl (Nat.le_of_ble_eq_true rfl) dX8_told_53 (fun r σ1 hr => ?_)
                obtain ⟨rfl, rfl⟩ := hr
                exact ux_iret C dX8_told_56 (⟨hu.symm, rfl⟩)
            · rw [if_pos w1] at hu
              refine ux_aload_n C dX8_told_40 0 rfl ?_
              refine ux_iload_n C dX8_told_41 1 rfl ?_
              refine ux_callI C gkX8_told_106 (c_X8_children l D ad cA A σ k hF (by omega)) rfl ⟨rfl, rfl⟩ ⟨(Nat.le_of_ble_eq_true rfl), (Nat.le_of_ble_eq_true rfl)⟩ ⟨Nat.le_refl _, Nat.le_refl _⟩ 0 rfl rfl rfl rfl (Nat.le_of_ble_eq_true rfl) dX8_told_42 (fun r σ1 hr => ?_)
              obtain ⟨rfl, rfl⟩ := hr
              exact ux_iret C dX8_told_45 (⟨hu.symm, rfl⟩)
          · rw [if_pos w0] at hu
            refine ux_aload_n C dX8_told_28 0 rfl ?_
            refine ux_get C flX8_told_24 0 rfl rfl rfl dX8_told_29 ?_
            refine ux_iload_n C dX8_told_32 1 rfl ?_
            refine ux_iald C 5 4 (k) rfl rfl (rfl) (by omega) (by decide) dX8_told_33 ?_
            exact ux_iret C dX8_told_34 (⟨hu.symm, rfl⟩)
        · refine ux_iconst C ((-1 : Int32)) dX8_told_22 (by decide) ?_
          exact ux_iret C dX8_told_23 (⟨(out (Or.inr (Int32.not_le.mp h4))).symm, rfl⟩)
set_option maxHeartbeats 4000000 in
set_option maxRecDepth 100000 in
theorem c_X8_mark (l : Launch) (D : va_G) (ad : Nat → Nat) (cA : Nat → ClassId) (A : Nat → Prop) (σ : ST) (t : Int32) (hF : mF σ) (hB : mB σ) (hm : σ.2.1 2 < 520) : ux_I l D vwCl (tyM cA) (wM ad cA) A yX8_mark wsX8_mark (ux_rm 1) [.ref (ad 0), .int t] σ (fun r σ' => r = (m_mark σ t).1 ∧ σ' = (m_mark σ t).2) := by
  refine ux_ofI (cc := cX8_mark) (maxL := 4) (ret := (some .int)) (Ts := wsX8_mark) (lv := [(0, .ref (ad 0)), (1, .int t)]) (by decide) rfl (fun _ h => h) (Nat.le_of_ble_eq_true rfl) rfl ?_
  intro p e s m below meth c C
  have hF0 := hF.1
  refine ux_aload_n C dX8_mark_0 0 rfl ?_
  refine ux_iload_n C dX8_mark_1 1 rfl ?_
  refine ux_callI C gkX8_mark_68 (c_X8_isActive l D ad cA A σ t hF0) rfl ⟨rfl, rfl⟩ ⟨(Nat.le_of_ble_eq_true rfl), (Nat.le_of_ble_eq_true rfl)⟩ ⟨Nat.le_refl _, Nat.le_refl _⟩ 0 rfl rfl rfl rfl (Nat.le_of_ble_eq_true rfl) dX8_mark_2 (fun r σ1 hr => ?_)
  obtain ⟨rfl, rfl⟩ := hr
  refine ux_if_ne C 10 dX8_mark_5 (by decide) (fun h => ?_) (fun h => ?_)
  · have ha := (pq_bn0 _).mp h
    obtain ⟨k, k1, k2, rfl, k3⟩ := (m_act_iff hF).mp ha
    have hcl := nI_clamp (Nat.lt_of_le_of_lt (Nat.le_trans k2 hF.1) (show 150 < 2 ^ 31 by decide))
    have hu : m_mark σ (nI k) = (nI (m_marks σ (nI k)), sf (sa (sa (sa (sa σ 8 (upd (σ.1 8) (σ.2.1 2) (nI k))) 9 (upd (σ.1 9) (σ.2.1 2) 1)) 10 (va_cpy (σ.1 1) (σ.1 10) (520 * k) (520 * σ.2.1 2) 520)) 11 (va_cpy (σ.1 2) (σ.1 11) (520 * k) (520 * σ.2.1 2) 520)) 2 (σ.2.1 2 + 1)) := by rw [m_mark, if_pos ha, hcl]
    have loop : ∀ (q i : Nat), 521 ≤ i + q → i ≤ 520 → ux_V p l e (ux_rm 1) s m ([.ref (ad 0), .int (nI k)] : List Value).toArray below meth c (MQ below (va_Qi (fun r σ' => r = (m_mark σ (nI k)).1 ∧ σ' = (m_mark σ (nI k)).2) (fun σ' tt => va_P D vwCl (wM ad cA σ') tt.heap) A) ([.ref (ad 0), .int (nI k)] : List Value).toArray s 0 0 A) 4 D vwCl (wM ad cA) A 0 0 (sa (sa (sa (sa σ 8 (upd (σ.1 8) (σ.2.1 2) (nI k))) 9 (upd (σ.1 9) (σ.2.1 2) 1)) 10 (va_cpy (σ.1 1) (σ.1 10) (520 * k) (520 * σ.2.1 2) i)) 11 (va_cpy (σ.1 2) (σ.1 11) (520 * k) (520 * σ.2.1 2) i)) 38 [(3, .int (nI i)), (2, .int (nI (m_marks σ (nI k)))), (0, .ref (ad 0)), (1, .int (nI k))] [] := by
      intro q
      induction q with
      | zero => intro i h1 h2; omega
      | succ q ih =>
        intro i h1 h2
        refine ux_iload_n C dX8_mark_38 0 rfl ?_
        refine ux_sipush C (nI 520) dX8_mark_39 (by decide) ?_
        refine ux_icmp_ge C 105 dX8_mark_42 (by decide) (fun hc => ?_) (fun hc => ?_)
        · have hc := (nI_leI (by omega) (by omega)).mp hc
          have e : i = 520 := by omega
          subst e
          refine ux_aload_n C dX8_mark_105 2 rfl ?_
          refine ux_dup C dX8_mark_106 rfl ?_
          refine ux_get C flX8_mark_103 0 rfl rfl rfl dX8_mark_107 ?_
          refine ux_iconst C ((1 : Int32)) dX8_mark_110 (by decide) ?_
          refine ux_iadd C dX8_mark_111 ?_
          refine ux_top (nI (σ.2.1 2 + 1)) (nI_1 _) ?_
          refine ux_putI C flX8_mark_103 fiM_2 0 rfl rfl (Nat.le_of_ble_eq_true rfl) dX8_mark_112 _ (fwM_2 _ _ _ _) ?_
          refine ux_iload_n C dX8_mark_115 1 rfl ?_
          exact ux_iret C dX8_mark_116 (by rw [hu]; exact ⟨rfl, rfl⟩)
        · have hc := mt (nI_leI (by omega) (by omega)).mpr hc
          have hih := ih (i + 1) (by omega) (by omega)
          rw [← va_cpy_s, ← va_cpy_s] at hih
          refine ux_aload_n C dX8_mark_45 2 rfl ?_
          refine ux_get C flX8_mark_44 0 rfl rfl rfl dX8_mark_46 ?_
          refine ux_sipush C (nI 520) dX8_mark_49 (by decide) ?_
          refine ux_aload_n C dX8_mark_52 2 rfl ?_
          refine ux_get C flX8_mark_103 0 rfl rfl rfl dX8_mark_53 ?_
          refine ux_imul C dX8_mark_56 ?_
          refine ux_iload_n C dX8_mark_57 0 rfl ?_
          refine ux_iadd C dX8_mark_58 ?_
          refine ux_top (nI (520 * σ.2.1 2 + i)) (by rw [pk_mul, nI_add] <;> rfl) ?_
          refine ux_aload_n C dX8_mark_59 2 rfl ?_
          refine ux_get C flX8_mark_14 0 rfl rfl rfl dX8_mark_60 ?_
          refine ux_sipush C (nI 520) dX8_mark_63 (by decide) ?_
          refine ux_iload_n C dX8_mark_66 3 rfl ?_
          refine ux_imul C dX8_mark_67 ?_
          refine ux_iload_n C dX8_mark_68 0 rfl ?_
          refine ux_iadd C dX8_mark_69 ?_
          refine ux_top (nI (520 * k + i)) (by rw [pk_mul, nI_add] <;> rfl) ?_
          refine ux_bald C 2 1 (520 * k + i) rfl rfl (rfl) (by omega) (by decide) dX8_mark_70 ?_
          refine ux_bast C 11 10 (520 * σ.2.1 2 + i) rfl rfl (rfl) (by omega) (by decide) ((hB _).1) dX8_mark_71 _ (awM_10 _ _ _ _) ?_
          refine ux_aload_n C dX8_mark_72 2 rfl ?_
          refine ux_get C flX8_mark_47 0 rfl rfl rfl dX8_mark_73 ?_
          refine ux_sipush C (nI 520) dX8_mark_76 (by decide) ?_
          refine ux_aload_n C dX8_mark_79 2 rfl ?_
          refine ux_get C flX8_mark_103 0 rfl rfl rfl dX8_mark_80 ?_
          refine ux_imul C dX8_mark_83 ?_
          refine ux_iload_n C dX8_mark_84 0 rfl ?_
          refine ux_iadd C dX8_mark_85 ?_
          refine ux_top (nI (520 * σ.2.1 2 + i)) (by rw [pk_mul, nI_add] <;> rfl) ?_
          refine ux_aload_n C dX8_mark_86 2 rfl ?_
          refine ux_get C flX8_mark_18 0 rfl rfl rfl dX8_mark_87 ?_
          refine ux_sipush C (nI 520) dX8_mark_90 (by decide) ?_
          refine ux_iload_n C dX8_mark_93 3 rfl ?_
          refine ux_imul C dX8_mark_94 ?_
          refine ux_iload_n C dX8_mark_95 0 rfl ?_
          refine ux_iadd C dX8_mark_96 ?_
          refine ux_top (nI (520 * k + i)) (by rw [pk_mul, nI_add] <;> rfl) ?_
          refine ux_iald C 3 2 (520 * k + i) rfl rfl (rfl) (by omega) (by decide) dX8_mark_97 ?_
          refine ux_iast C 12 11 (520 * σ.2.1 2 + i) rfl rfl (rfl) (by omega) (by decide) dX8_mark_98 _ (awM_11 _ _ _ _) ?_
          refine ux_iinc C (nI (i + 1)) [(3, _), (2, _), (0, _), (1, _)] dX8_mark_99 0 rfl (pq_inc i) (by decide) rfl ?_
          refine ux_goto C 38 dX8_mark_102 (by decide) ?_
          exact hih
    refine ux_aload_n C dX8_mark_10 0 rfl ?_
    refine ux_iload_n C dX8_mark_11 1 rfl ?_
    refine ux_callI C gkX8_mark_100 (c_X8_marksOf l D ad cA A σ (nI k) (by omega)) rfl ⟨rfl, rfl⟩ ⟨(Nat.le_of_ble_eq_true rfl), (Nat.le_of_ble_eq_true rfl)⟩ ⟨Nat.le_refl _, Nat.le_refl _⟩ 0 rfl rfl rfl rfl (Nat.le_of_ble_eq_true rfl) dX8_mark_12 (fun r σ1 hr => ?_)
    obtain ⟨rfl, rfl⟩ := hr
    refine ux_istore_n C [(2, _), (0, _), (1, _)] dX8_mark_15 rfl (by decide) rfl ?_
    refine ux_aload_n C dX8_mark_16 1 rfl ?_
    refine ux_get C flX8_mark_37 0 rfl rfl rfl dX8_mark_17 ?_
    refine ux_aload_n C dX8_mark_20 1 rfl ?_
    refine ux_get C flX8_mark_103 0 rfl rfl rfl dX8_mark_21 ?_
    refine ux_iload_n C dX8_mark_24 2 rfl ?_
    refine ux_iast C 9 8 (σ.2.1 2) rfl rfl (rfl) (by omega) (by decide) dX8_mark_25 _ (awM_8 _ _ _ _) ?_
    refine ux_aload_n C dX8_mark_26 1 rfl ?_
    refine ux_get C flX8_mark_40 0 rfl rfl rfl dX8_mark_27 ?_
    refine ux_aload_n C dX8_mark_30 1 rfl ?_
    refine ux_get C flX8_mark_103 0 rfl rfl rfl dX8_mark_31 ?_
    refine ux_iconst C ((1 : Int32)) dX8_mark_34 (by decide) ?_
    refine ux_zast C 10 9 (σ.2.1 2) rfl rfl (rfl) (by omega) (by decide) (rfl) dX8_mark_35 _ (awM_9 _ _ _ _) ?_
    refine ux_iconst C (nI 0) dX8_mark_36 (by decide) ?_
    refine ux_istore_n C [(3, _), (2, _), (0, _), (1, _)] dX8_mark_37 rfl (by decide) rfl ?_
    have hl := loop 521 0 (by omega) (by omega)
    rw [va_cpy_0, va_cpy_0] at hl
    exact hl
  · have ha := (pq_b0 _).mp h
    have hu : m_mark σ t = (-1, σ) := if_neg (by rw [ha]; decide)
    refine ux_iconst C ((-1 : Int32)) dX8_mark_8 (by decide) ?_
    exact ux_iret C dX8_mark_9 (by rw [hu]; exact ⟨rfl, rfl⟩)
set_option maxHeartbeats 4000000 in
set_option maxRecDepth 100000 in
theorem c_X8_restore (l : Launch) (D : va_G) (ad : Nat → Nat) (cA : Nat → ClassId) (A : Nat → Prop) (σ : ST) (a m' : Nat) (hB : mB σ) (ha : a ≤ 150) (hm : m' < 520) : ux_I l D vwCl (tyM cA) (wM ad cA) A yX8_restore wsX8_restore (ux_rm 0) [.ref (ad 0), .int (nI a), .int (nI m')] σ (fun r σ' => r = nI (m_dif σ a m') ∧ σ' = m_restore σ a m') := by
  refine ux_ofI (cc := cX8_restore) (maxL := 7) (ret := (some .int)) (Ts := wsX8_restore) (lv := [(0, .ref (ad 0)), (1, .int (nI a)), (2, .int (nI m'))]) (by decide) rfl (fun _ h => h) (Nat.le_of_ble_eq_true rfl) rfl ?_
  intro p e s m below meth c C
  have loop : ∀ (q i : Nat), 521 ≤ i + q → i ≤ 520 → ux_V p l e (ux_rm 0) s m ([.ref (ad 0), .int (nI a), .int (nI m')] : List Value).toArray below meth c (MQ below (va_Qi (fun r σ' => r = nI (m_dif σ a m') ∧ σ' = m_restore σ a m') (fun σ' t => va_P D vwCl (wM ad cA σ') t.heap) A) ([.ref (ad 0), .int (nI a), .int (nI m')] : List Value).toArray s 0 0 A) 7 D vwCl (wM ad cA) A 0 0 (sa (sa σ 1 (va_cpy (σ.1 10) (σ.1 1) (520 * m') (520 * a) i)) 2 (va_cpy (σ.1 11) (σ.1 2) (520 * m') (520 * a) i)) 5 [(4, .int (nI i)), (3, .int (nI (pq_cnt (m_dfw σ a m') i))), (0, .ref (ad 0)), (1, .int (nI a)), (2, .int (nI m'))] [] := by
    intro q
    induction q with
    | zero => intro i h1 h2; omega
    | succ q ih =>
      intro i h1 h2
      refine ux_iload C dX8_restore_5 0 rfl ?_
      refine ux_sipush C (nI 520) dX8_restore_7 (by decide) ?_
      refine ux_icmp_ge C 109 dX8_restore_10 (by decide) (fun hc => ?_) (fun hc => ?_)
      · have hc := (nI_leI (by omega) (by omega)).mp hc
        have e : i = 520 := by omega
        subst e
        refine ux_iload_n C dX8_restore_109 1 rfl ?_
        exact ux_iret C dX8_restore_110 (⟨rfl, rfl⟩)
      · have hc := mt (nI_leI (by omega) (by omega)).mpr hc
        have hih := ih (i + 1) (by omega) (by omega)
        rw [← va_cpy_s, ← va_cpy_s] at hih
        have fin : ∀ x : Nat, pq_cnt (m_dfw σ a m') (i + 1) = pq_cnt (m_dfw σ a m') i + x → ux_V p l e (ux_rm 0) s m ([.ref (ad 0), .int (nI a), .int (nI m')] : List Value).toArray below meth c (MQ below (va_Qi (fun r σ' => r = nI (m_dif σ a m') ∧ σ' = m_restore σ a m') (fun σ' t => va_P D vwCl (wM ad cA σ') t.heap) A) ([.ref (ad 0), .int (nI a), .int (nI m')] : List Value).toArray s 0 0 A) 7 D vwCl (wM ad cA) A 0 0 (sa (sa σ 1 (va_cpy (σ.1 10) (σ.1 1) (520 * m') (520 * a) i)) 2 (va_cpy (σ.1 11) (σ.1 2) (520 * m') (520 * a) i)) 73 [(6, .int (nI (520 * m' + i))), (5, .int (nI (520 * a + i))), (4, .int (nI i)), (3, .int (nI (pq_cnt (m_dfw σ a m') i))), (0, .ref (ad 0)), (1, .int (nI a)), (2, .int (nI m'))] [.int (nI x), .int (nI (pq_cnt (m_dfw σ a m') i))] := by
          intro x hx
          rw [hx] at hih
          refine ux_iadd C dX8_restore_73 ?_
          refine ux_top (nI _) (nI_add _ _) ?_
          refine ux_istore_n C [(3, _), (6, _), (5, _), (4, _), (0, _), (1, _), (2, _)] dX8_restore_74 rfl (by decide) rfl ?_
          refine ux_aload_n C dX8_restore_75 4 rfl ?_
          refine ux_get C flX8_restore_14 0 rfl rfl rfl dX8_restore_76 ?_
          refine ux_iload C dX8_restore_79 2 rfl ?_
          refine ux_aload_n C dX8_restore_81 4 rfl ?_
          refine ux_get C flX8_restore_44 0 rfl rfl rfl dX8_restore_82 ?_
          refine ux_iload C dX8_restore_85 1 rfl ?_
          refine ux_bald C 11 10 (520 * m' + i) rfl rfl (rfl) (by omega) (by decide) dX8_restore_87 ?_
          refine ux_bast C 2 1 (520 * a + i) rfl rfl (rfl) (by omega) (by decide) ((hB _).2.2) dX8_restore_88 _ (awM_1 _ _ _ _) ?_
          refine ux_aload_n C dX8_restore_89 4 rfl ?_
          refine ux_get C flX8_restore_18 0 rfl rfl rfl dX8_restore_90 ?_
          refine ux_iload C dX8_restore_93 2 rfl ?_
          refine ux_aload_n C dX8_restore_95 4 rfl ?_
          refine ux_get C flX8_restore_47 0 rfl rfl rfl dX8_restore_96 ?_
          refine ux_iload C dX8_restore_99 1 rfl ?_
          refine ux_iald C 12 11 (520 * m' + i) rfl rfl (rfl) (by omega) (by decide) dX8_restore_101 ?_
          refine ux_iast C 3 2 (520 * a + i) rfl rfl (rfl) (by omega) (by decide) dX8_restore_102 _ (awM_2 _ _ _ _) ?_
          refine ux_iinc C (nI (i + 1)) [(4, _), (3, _), (6, _), (5, _), (0, _), (1, _), (2, _)] dX8_restore_103 3 rfl (pq_inc i) (by decide) rfl ?_
          refine ux_goto C 5 dX8_restore_106 (by decide) ?_
          refine ux_sub [(4, _), (3, _), (0, _), (1, _), (2, _)] [0, 1, 4, 5, 6] rfl ?_
          exact hih
        refine ux_sipush C (nI 520) dX8_restore_13 (by decide) ?_
        refine ux_iload_n C dX8_restore_16 3 rfl ?_
        refine ux_imul C dX8_restore_17 ?_
        refine ux_iload C dX8_restore_18 0 rfl ?_
        refine ux_iadd C dX8_restore_20 ?_
        refine ux_top (nI (520 * a + i)) (by rw [pk_mul, nI_add] <;> rfl) ?_
        refine ux_istore C [(5, _), (4, _), (3, _), (0, _), (1, _), (2, _)] dX8_restore_21 (by decide) rfl ?_
        refine ux_sipush C (nI 520) dX8_restore_23 (by decide) ?_
        refine ux_iload_n C dX8_restore_26 5 rfl ?_
        refine ux_imul C dX8_restore_27 ?_
        refine ux_iload C dX8_restore_28 1 rfl ?_
        refine ux_iadd C dX8_restore_30 ?_
        refine ux_top (nI (520 * m' + i)) (by rw [pk_mul, nI_add] <;> rfl) ?_
        refine ux_istore C [(6, _), (5, _), (4, _), (3, _), (0, _), (1, _), (2, _)] dX8_restore_31 (by decide) rfl ?_
        refine ux_iload_n C dX8_restore_33 3 rfl ?_
        refine ux_aload_n C dX8_restore_34 4 rfl ?_
        refine ux_get C flX8_restore_14 0 rfl rfl rfl dX8_restore_35 ?_
        refine ux_iload C dX8_restore_38 1 rfl ?_
        refine ux_bald C 2 1 (520 * a + i) rfl rfl (rfl) (by omega) (by decide) dX8_restore_40 ?_
        refine ux_top _ (congrFun ((sa_ne _ _ (by decide)).trans (sa_eq _ _ _)) _) ?_
        refine ux_top _ (va_cpy_at _ _ _ _ _) ?_
        refine ux_aload_n C dX8_restore_41 4 rfl ?_
        refine ux_get C flX8_restore_44 0 rfl rfl rfl dX8_restore_42 ?_
        refine ux_iload C dX8_restore_45 0 rfl ?_
        refine ux_bald C 11 10 (520 * m' + i) rfl rfl (rfl) (by omega) (by decide) dX8_restore_47 ?_
        refine ux_icmp_ne C 68 dX8_restore_48 (by decide) (fun h4 => ?_) (fun h4 => ?_)
        · have h4 : ¬ σ.1 1 (520 * a + i) = σ.1 10 (520 * m' + i) := h4
          refine ux_iconst C (nI 1) dX8_restore_68 (by decide) ?_
          refine ux_goto C 73 dX8_restore_69 (by decide) ?_
          exact fin 1 (pq_cnt_t (n := i) (by rw [m_dfw, decide_eq_false h4]; rfl))
        · have h4 : σ.1 1 (520 * a + i) = σ.1 10 (520 * m' + i) := h4
          refine ux_aload_n C dX8_restore_51 4 rfl ?_
          refine ux_get C flX8_restore_18 0 rfl rfl rfl dX8_restore_52 ?_
          refine ux_iload C dX8_restore_55 1 rfl ?_
          refine ux_iald C 3 2 (520 * a + i) rfl rfl (rfl) (by omega) (by decide) dX8_restore_57 ?_
          refine ux_top _ (congrFun (sa_eq _ _ _) _) ?_
          refine ux_top _ (va_cpy_at _ _ _ _ _) ?_
          refine ux_aload_n C dX8_restore_58 4 rfl ?_
          refine ux_get C flX8_restore_47 0 rfl rfl rfl dX8_restore_59 ?_
          refine ux_iload C dX8_restore_62 0 rfl ?_
          refine ux_iald C 12 11 (520 * m' + i) rfl rfl (rfl) (by omega) (by decide) dX8_restore_64 ?_
          refine ux_icmp_eq C 72 dX8_restore_65 (by decide) (fun h5 => ?_) (fun h5 => ?_)
          · have h5 : σ.1 2 (520 * a + i) = σ.1 11 (520 * m' + i) := h5
            refine ux_iconst C (nI 0) dX8_restore_72 (by decide) ?_
            exact fin 0 (pq_cnt_f (n := i) (by rw [m_dfw, decide_eq_true h4, decide_eq_true h5]; rfl))
          · have h5 : ¬ σ.1 2 (520 * a + i) = σ.1 11 (520 * m' + i) := h5
            refine ux_iconst C (nI 1) dX8_restore_68 (by decide) ?_
            refine ux_goto C 73 dX8_restore_69 (by decide) ?_
            exact fin 1 (pq_cnt_t (n := i) (by rw [m_dfw, decide_eq_true h4, decide_eq_false h5]; rfl))
  refine ux_iconst C (nI 0) dX8_restore_0 (by decide) ?_
  refine ux_istore_n C [(3, _), (0, _), (1, _), (2, _)] dX8_restore_1 rfl (by decide) rfl ?_
  refine ux_iconst C (nI 0) dX8_restore_2 (by decide) ?_
  refine ux_istore C [(4, _), (3, _), (0, _), (1, _), (2, _)] dX8_restore_3 (by decide) rfl ?_
  have hl := loop 521 0 (by omega) (by omega)
  rw [va_cpy_0, va_cpy_0, sa_self, sa_self] at hl
  exact hl
set_option maxHeartbeats 4000000 in
set_option maxRecDepth 100000 in
theorem c_X8_end (l : Launch) (D : va_G) (ad : Nat → Nat) (cA : Nat → ClassId) (A : Nat → Prop) (σ : ST) (k : Nat) (x : Int32) (hS : mS σ) (hk : k ≤ 150) (hm : σ.2.1 2 ≤ 520) : ux_N l D vwCl (tyM cA) (wM ad cA) A yX8_end wsX8_end (ux_rm 0) [.ref (ad 0), .int (nI k), .int x] σ (fun σ' => σ' = m_end σ k x) := by
  refine ux_ofN (cc := cX8_end) (maxL := 4) (ret := none) (Ts := wsX8_end) (lv := [(0, .ref (ad 0)), (1, .int (nI k)), (2, .int x)]) (by decide) rfl (fun _ h => h) (Nat.le_of_ble_eq_true rfl) rfl ?_
  intro p e s m below meth c C
  have loop2 : ∀ (q i : Nat), σ.2.1 2 + 1 ≤ i + q → i ≤ σ.2.1 2 → ux_V p l e (ux_rm 0) s m ([.ref (ad 0), .int (nI k), .int x] : List Value).toArray below meth c (MQ below (va_Qv (fun σ' => σ' = m_end σ k x) (fun σ' t => va_P D vwCl (wM ad cA σ') t.heap) A) ([.ref (ad 0), .int (nI k), .int x] : List Value).toArray s 0 0 A) 4 D vwCl (wM ad cA) A 0 0 (sa (sa (sa (sa (sa σ 5 (upd (σ.1 5) k x)) 1 (m_zero (σ.1 1) k 520)) 2 (m_zero (σ.1 2) k 520)) 3 (m_zero (σ.1 3) k 520)) 9 (pq_msk (fun m => decide (σ.1 8 m = nI k)) 0 (σ.1 9) i)) 63 [(3, .int (nI i)), (0, .ref (ad 0)), (1, .int (nI k)), (2, .int x)] [] := by
    intro q
    induction q with
    | zero => intro i h1 h2; omega
    | succ q ih =>
      intro i h1 h2
      refine ux_iload_n C dX8_end_63 0 rfl ?_
      refine ux_aload_n C dX8_end_64 1 rfl ?_
      refine ux_get C flX8_end_103 0 rfl rfl rfl dX8_end_65 ?_
      refine ux_icmp_ge C 107 dX8_end_68 (by decide) (fun hc => ?_) (fun hc => ?_)
      · have hc : nI (σ.2.1 2) ≤ nI i := hc
        have hc := (nI_leI (by omega) (by omega)).mp hc
        have e : i = σ.2.1 2 := by omega
        subst e
        exact ux_vret C dX8_end_107 (rfl)
      · have hc : ¬ nI (σ.2.1 2) ≤ nI i := hc
        have hc := mt (nI_leI (by omega) (by omega)).mpr hc
        have hih := ih (i + 1) (by omega) (by omega)
        have hat := pq_msk_at (fun m => decide (σ.1 8 m = nI k)) 0 (σ.1 9) i
        refine ux_aload_n C dX8_end_71 1 rfl ?_
        refine ux_get C flX8_end_40 0 rfl rfl rfl dX8_end_72 ?_
        refine ux_iload_n C dX8_end_75 0 rfl ?_
        refine ux_aload_n C dX8_end_76 1 rfl ?_
        refine ux_get C flX8_end_40 0 rfl rfl rfl dX8_end_77 ?_
        refine ux_iload_n C dX8_end_80 0 rfl ?_
        refine ux_zald C 10 9 (i) rfl rfl (rfl) (by omega) (by decide) dX8_end_81 ?_
        refine ux_top _ (congrFun (sa_eq _ _ _) _) ?_
        refine ux_top _ hat ?_
        refine ux_if_eq C 99 dX8_end_82 (by decide) (fun h4 => ?_) (fun h4 => ?_)
        · refine ux_iconst C ((0 : Int32)) dX8_end_99 (by decide) ?_
          refine ux_zast C 10 9 (i) rfl rfl (rfl) (by omega) (by decide) (rfl) dX8_end_100 _ (awM_9 _ _ _ _) ?_
          refine ux_iinc C (nI (i + 1)) [(3, _), (0, _), (1, _), (2, _)] dX8_end_101 0 rfl (pq_inc i) (by decide) rfl ?_
          refine ux_goto C 63 dX8_end_104 (by decide) ?_
          refine ux_at (sa_sa _ _ _ _) ?_
          by_cases e : σ.1 8 i = nI k
          · rw [← pq_msk_t (i := i) (decide_eq_true e)] at hih
            exact hih
          · rw [← pq_msk_f (i := i) (decide_eq_false e), ← upd_self (hat.trans h4)] at hih
            exact hih
        · have h4 : σ.1 9 i = 1 := (hS i).resolve_left h4
          refine ux_aload_n C dX8_end_85 1 rfl ?_
          refine ux_get C flX8_end_37 0 rfl rfl rfl dX8_end_86 ?_
          refine ux_iload_n C dX8_end_89 0 rfl ?_
          refine ux_iald C 9 8 (i) rfl rfl (rfl) (by omega) (by decide) dX8_end_90 ?_
          refine ux_iload_n C dX8_end_91 2 rfl ?_
          refine ux_icmp_eq C 99 dX8_end_92 (by decide) (fun h5 => ?_) (fun h5 => ?_)
          · have h5 : σ.1 8 i = nI k := h5
            rw [← pq_msk_t (i := i) (decide_eq_true h5)] at hih
            refine ux_iconst C ((0 : Int32)) dX8_end_99 (by decide) ?_
            refine ux_zast C 10 9 (i) rfl rfl (rfl) (by omega) (by decide) (rfl) dX8_end_100 _ (awM_9 _ _ _ _) ?_
            refine ux_iinc C (nI (i + 1)) [(3, _), (0, _), (1, _), (2, _)] dX8_end_101 0 rfl (pq_inc i) (by decide) rfl ?_
            refine ux_goto C 63 dX8_end_104 (by decide) ?_
            refine ux_at (sa_sa _ _ _ _) ?_
            exact hih
          · have h5 : ¬ σ.1 8 i = nI k := h5
            rw [← pq_msk_f (i := i) (decide_eq_false h5), ← upd_self (hat.trans h4)] at hih
            refine ux_iconst C ((1 : Int32)) dX8_end_95 (by decide) ?_
            refine ux_goto C 100 dX8_end_96 (by decide) ?_
            refine ux_zast C 10 9 (i) rfl rfl (rfl) (by omega) (by decide) (rfl) dX8_end_100 _ (awM_9 _ _ _ _) ?_
            refine ux_iinc C (nI (i + 1)) [(3, _), (0, _), (1, _), (2, _)] dX8_end_101 0 rfl (pq_inc i) (by decide) rfl ?_
            refine ux_goto C 63 dX8_end_104 (by decide) ?_
            refine ux_at (sa_sa _ _ _ _) ?_
            exact hih
  have loop1 : ∀ (q i : Nat), 521 ≤ i + q → i ≤ 520 → ux_V p l e (ux_rm 0) s m ([.ref (ad 0), .int (nI k), .int x] : List Value).toArray below meth c (MQ below (va_Qv (fun σ' => σ' = m_end σ k x) (fun σ' t => va_P D vwCl (wM ad cA σ') t.heap) A) ([.ref (ad 0), .int (nI k), .int x] : List Value).toArray s 0 0 A) 4 D vwCl (wM ad cA) A 0 0 (sa (sa (sa (sa σ 5 (upd (σ.1 5) k x)) 1 (m_zero (σ.1 1) k i)) 2 (m_zero (σ.1 2) k i)) 3 (m_zero (σ.1 3) k i)) 9 [(3, .int (nI i)), (0, .ref (ad 0)), (1, .int (nI k)), (2, .int x)] [] := by
    intro q
    induction q with
    | zero => intro i h1 h2; omega
    | succ q ih =>
      intro i h1 h2
      refine ux_iload_n C dX8_end_9 0 rfl ?_
      refine ux_sipush C (nI 520) dX8_end_10 (by decide) ?_
      refine ux_icmp_ge C 61 dX8_end_13 (by decide) (fun hc => ?_) (fun hc => ?_)
      · have hc := (nI_leI (by omega) (by omega)).mp hc
        have e : i = 520 := by omega
        subst e
        refine ux_iconst C (nI 0) dX8_end_61 (by decide) ?_
        refine ux_istore_n C [(3, _), (0, _), (1, _), (2, _)] dX8_end_62 rfl (by decide) rfl ?_
        have hl := loop2 (σ.2.1 2 + 1) 0 (by omega) (by omega)
        rw [pq_msk_id (i := 0) (fun j hj => by omega)] at hl
        exact hl
      · have hc := mt (nI_leI (by omega) (by omega)).mpr hc
        have hih := ih (i + 1) (by omega) (by omega)
        unfold m_zero at hih
        rw [← va_cpy_s, ← va_cpy_s, ← va_cpy_s] at hih
        refine ux_aload_n C dX8_end_16 1 rfl ?_
        refine ux_get C flX8_end_14 0 rfl rfl rfl dX8_end_17 ?_
        refine ux_sipush C (nI 520) dX8_end_20 (by decide) ?_
        refine ux_iload_n C dX8_end_23 2 rfl ?_
        refine ux_imul C dX8_end_24 ?_
        refine ux_iload_n C dX8_end_25 0 rfl ?_
        refine ux_iadd C dX8_end_26 ?_
        refine ux_top (nI (520 * k + i)) (by rw [pk_mul, nI_add] <;> rfl) ?_
        refine ux_iconst C ((0 : Int32)) dX8_end_27 (by decide) ?_
        refine ux_bast C 2 1 (520 * k + i) rfl rfl (rfl) (by omega) (by decide) (rfl) dX8_end_28 _ (awM_1 _ _ _ _) ?_
        refine ux_aload_n C dX8_end_29 1 rfl ?_
        refine ux_get C flX8_end_18 0 rfl rfl rfl dX8_end_30 ?_
        refine ux_sipush C (nI 520) dX8_end_33 (by decide) ?_
        refine ux_iload_n C dX8_end_36 2 rfl ?_
        refine ux_imul C dX8_end_37 ?_
        refine ux_iload_n C dX8_end_38 0 rfl ?_
        refine ux_iadd C dX8_end_39 ?_
        refine ux_top (nI (520 * k + i)) (by rw [pk_mul, nI_add] <;> rfl) ?_
        refine ux_iconst C ((0 : Int32)) dX8_end_40 (by decide) ?_
        refine ux_iast C 3 2 (520 * k + i) rfl rfl (rfl) (by omega) (by decide) dX8_end_41 _ (awM_2 _ _ _ _) ?_
        refine ux_aload_n C dX8_end_42 1 rfl ?_
        refine ux_get C flX8_end_21 0 rfl rfl rfl dX8_end_43 ?_
        refine ux_sipush C (nI 520) dX8_end_46 (by decide) ?_
        refine ux_iload_n C dX8_end_49 2 rfl ?_
        refine ux_imul C dX8_end_50 ?_
        refine ux_iload_n C dX8_end_51 0 rfl ?_
        refine ux_iadd C dX8_end_52 ?_
        refine ux_top (nI (520 * k + i)) (by rw [pk_mul, nI_add] <;> rfl) ?_
        refine ux_iconst C ((0 : Int32)) dX8_end_53 (by decide) ?_
        refine ux_bast C 4 3 (520 * k + i) rfl rfl (rfl) (by omega) (by decide) (rfl) dX8_end_54 _ (awM_3 _ _ _ _) ?_
        refine ux_iinc C (nI (i + 1)) [(3, _), (0, _), (1, _), (2, _)] dX8_end_55 0 rfl (pq_inc i) (by decide) rfl ?_
        refine ux_goto C 9 dX8_end_58 (by decide) ?_
        exact hih
  refine ux_aload_n C dX8_end_0 0 rfl ?_
  refine ux_get C flX8_end_27 0 rfl rfl rfl dX8_end_1 ?_
  refine ux_iload_n C dX8_end_4 1 rfl ?_
  refine ux_iload_n C dX8_end_5 2 rfl ?_
  refine ux_iast C 6 5 (k) rfl rfl (rfl) (by omega) (by decide) dX8_end_6 _ (awM_5 _ _ _ _) ?_
  refine ux_iconst C (nI 0) dX8_end_7 (by decide) ?_
  refine ux_istore_n C [(3, _), (0, _), (1, _), (2, _)] dX8_end_8 rfl (by decide) rfl ?_
  have hl := loop1 521 0 (by omega) (by omega)
  unfold m_zero at hl
  rw [va_cpy_0, va_cpy_0, va_cpy_0] at hl
  exact hl

