theorem hiX8_mayDo_8 : ∀ w ∈ wsX80, w ∈ wsX8_mayDo := by decide +kernel
theorem flX8_mayDo_30 : ux_F wsX8_mayDo RX8 30 RX8 TX8 16 8 := ⟨hiX8_mayDo_8, by decide, by decide +kernel⟩
theorem flX8_mayDo_33 : ux_F wsX8_mayDo RX8 33 RX8 TX8 16 9 := ⟨hiX8_mayDo_8, by decide, by decide +kernel⟩
theorem flX8_mayDo_21 : ux_F wsX8_mayDo RX8 21 RX8 TX8 16 4 := ⟨hiX8_mayDo_8, by decide, by decide +kernel⟩
theorem hiX8_open_8 : ∀ w ∈ wsX80, w ∈ wsX8_open := by decide +kernel
theorem flX8_open_53 : ux_F wsX8_open RX8 53 RX8 TX8 16 7 := ⟨hiX8_open_8, by decide, by decide +kernel⟩
theorem flX8_open_24 : ux_F wsX8_open RX8 24 RX8 TX8 16 5 := ⟨hiX8_open_8, by decide, by decide +kernel⟩
theorem flX8_open_27 : ux_F wsX8_open RX8 27 RX8 TX8 16 6 := ⟨hiX8_open_8, by decide, by decide +kernel⟩
theorem flX8_open_30 : ux_F wsX8_open RX8 30 RX8 TX8 16 8 := ⟨hiX8_open_8, by decide, by decide +kernel⟩
theorem hiX8_get_8 : ∀ w ∈ wsX80, w ∈ wsX8_get := by decide +kernel
theorem flX8_get_18 : ux_F wsX8_get RX8 18 RX8 TX8 16 3 := ⟨hiX8_get_8, by decide, by decide +kernel⟩
theorem flX8_get_14 : ux_F wsX8_get RX8 14 RX8 TX8 16 2 := ⟨hiX8_get_8, by decide, by decide +kernel⟩
theorem hiX8_put_8 : ∀ w ∈ wsX80, w ∈ wsX8_put := by decide +kernel
theorem flX8_put_14 : ux_F wsX8_put RX8 14 RX8 TX8 16 2 := ⟨hiX8_put_8, by decide, by decide +kernel⟩
theorem flX8_put_18 : ux_F wsX8_put RX8 18 RX8 TX8 16 3 := ⟨hiX8_put_8, by decide, by decide +kernel⟩
theorem hiX8_take_8 : ∀ w ∈ wsX80, w ∈ wsX8_take := by decide +kernel
theorem flX8_take_14 : ux_F wsX8_take RX8 14 RX8 TX8 16 2 := ⟨hiX8_take_8, by decide, by decide +kernel⟩
theorem flX8_take_18 : ux_F wsX8_take RX8 18 RX8 TX8 16 3 := ⟨hiX8_take_8, by decide, by decide +kernel⟩
theorem gkX8_mayDo_80 : ux_G wsX8_mayDo RX8 80 RX8 yX8_first wsX8_first 3 := ⟨gX8_mayDo_X8_first, by decide +kernel⟩
theorem gkX8_open_68 : ux_G wsX8_open RX8 68 RX8 yX8_isActive wsX8_isActive 1 := ⟨gX8_open_X8_isActive, by decide +kernel⟩
theorem gkX8_get_68 : ux_G wsX8_get RX8 68 RX8 yX8_isActive wsX8_isActive 1 := ⟨gX8_get_X8_isActive, by decide +kernel⟩
theorem gkX8_get_88 : ux_G wsX8_get RX8 88 RX8 yX8_number wsX8_number 1 := ⟨gX8_get_X8_number, by decide +kernel⟩
theorem gkX8_get_91 : ux_G wsX8_get RX8 91 RX8 yX8_mayDo wsX8_mayDo 3 := ⟨gX8_get_X8_mayDo, by decide +kernel⟩
theorem gkX8_get_64 : ux_G wsX8_get RX8 64 RX8 yX8_source wsX8_source 2 := ⟨gX8_get_X8_source, by decide +kernel⟩
theorem gkX8_get_60 : ux_G wsX8_get RX8 60 RX8 yX8_find wsX8_find 1 := ⟨gX8_get_X8_find, by decide +kernel⟩
theorem gkX8_put_68 : ux_G wsX8_put RX8 68 RX8 yX8_isActive wsX8_isActive 1 := ⟨gX8_put_X8_isActive, by decide +kernel⟩
theorem gkX8_put_88 : ux_G wsX8_put RX8 88 RX8 yX8_number wsX8_number 1 := ⟨gX8_put_X8_number, by decide +kernel⟩
theorem gkX8_put_91 : ux_G wsX8_put RX8 91 RX8 yX8_mayDo wsX8_mayDo 3 := ⟨gX8_put_X8_mayDo, by decide +kernel⟩
theorem gkX8_put_97 : ux_G wsX8_put RX8 97 RX8 yX8_sees wsX8_sees 2 := ⟨gX8_put_X8_sees, by decide +kernel⟩
theorem gkX8_take_68 : ux_G wsX8_take RX8 68 RX8 yX8_isActive wsX8_isActive 1 := ⟨gX8_take_X8_isActive, by decide +kernel⟩
theorem gkX8_take_88 : ux_G wsX8_take RX8 88 RX8 yX8_number wsX8_number 1 := ⟨gX8_take_X8_number, by decide +kernel⟩
theorem gkX8_take_91 : ux_G wsX8_take RX8 91 RX8 yX8_mayDo wsX8_mayDo 3 := ⟨gX8_take_X8_mayDo, by decide +kernel⟩
theorem gkX8_take_97 : ux_G wsX8_take RX8 97 RX8 yX8_sees wsX8_sees 2 := ⟨gX8_take_X8_sees, by decide +kernel⟩
set_option maxHeartbeats 4000000 in
set_option maxRecDepth 100000 in
theorem c_X8_mayDo (l : Launch) (D : va_G) (ad : Nat → Nat) (cA : Nat → ClassId) (A : Nat → Prop) (σ : ST) (b w : Nat) (y : Bool) (hF : mF σ) (hb : b ≤ σ.2.1 1) (hw : w < 520) : ux_I l D vwCl (tyM cA) (wM ad cA) A yX8_mayDo wsX8_mayDo (ux_rm 3) [.ref (ad 0), .int (nI b), .int (nI w), .int (pq_b y)] σ (fun r σ' => r = pq_b (decide (m_fst σ b w y = 0)) ∧ σ' = m_may σ b w y) := by
  refine ux_ofI (cc := cX8_mayDo) (maxL := 6) (ret := (some .boolean)) (Ts := wsX8_mayDo) (lv := [(0, .ref (ad 0)), (1, .int (nI b)), (2, .int (nI w)), (3, .int (pq_b y))]) (by decide) rfl (fun _ h => h) (Nat.le_of_ble_eq_true rfl) rfl ?_
  intro p e s m below meth c C
  have hF0 := hF.1
  refine ux_aload_n C dX8_mayDo_0 0 rfl ?_
  refine ux_iload_n C dX8_mayDo_1 1 rfl ?_
  refine ux_iload_n C dX8_mayDo_2 2 rfl ?_
  refine ux_iload_n C dX8_mayDo_3 3 rfl ?_
  refine ux_callI C gkX8_mayDo_80 (c_X8_first l D ad cA A σ b (some w) y hF hb (fun q h => by cases h; exact hw)) rfl ⟨rfl, rfl⟩ ⟨(Nat.le_of_ble_eq_true rfl), (Nat.le_of_ble_eq_true rfl)⟩ ⟨Nat.le_refl _, Nat.le_refl _⟩ 0 rfl rfl rfl rfl (Nat.le_of_ble_eq_true rfl) dX8_mayDo_4 (fun r σ1 hr => ?_)
  obtain ⟨rfl, rfl⟩ := hr
  refine ux_if_ne C 14 dX8_mayDo_7 (by decide) (fun h => ?_) (fun h => ?_)
  · have h : ¬ m_fst σ b w y = 0 := h
    have hu : m_may σ b w y = sa (sa σ 6 (upd (σ.1 6) b (nI w))) 7 (upd (σ.1 7) b (pq_b y)) := if_neg h
    refine ux_iconst C ((0 : Int32)) dX8_mayDo_14 (by decide) ?_
    refine ux_istore C [(4, _), (0, _), (1, _), (2, _), (3, _)] dX8_mayDo_15 (by decide) rfl ?_
    refine ux_aload_n C dX8_mayDo_17 1 rfl ?_
    refine ux_get C flX8_mayDo_30 0 rfl rfl rfl dX8_mayDo_18 ?_
    refine ux_iload_n C dX8_mayDo_21 2 rfl ?_
    refine ux_iload C dX8_mayDo_22 0 rfl ?_
    refine ux_if_eq C 31 dX8_mayDo_24 (by decide) (fun h2 => ?_) (fun h2 => ?_)
    · refine ux_iload_n C dX8_mayDo_31 3 rfl ?_
      refine ux_iast C 7 6 (b) rfl rfl (rfl) (by omega) (by decide) dX8_mayDo_32 _ (awM_6 _ _ _ _) ?_
      refine ux_aload_n C dX8_mayDo_33 1 rfl ?_
      refine ux_get C flX8_mayDo_33 0 rfl rfl rfl dX8_mayDo_34 ?_
      refine ux_iload_n C dX8_mayDo_37 2 rfl ?_
      refine ux_iload_n C dX8_mayDo_38 4 rfl ?_
      refine ux_zast C 8 7 (b) rfl rfl (rfl) (by omega) (by decide) (pq_b_nar y) dX8_mayDo_39 _ (awM_7 _ _ _ _) ?_
      refine ux_iload C dX8_mayDo_40 0 rfl ?_
      refine ux_if_eq C 85 dX8_mayDo_42 (by decide) (fun h3 => ?_) (fun h3 => ?_)
      · refine ux_iload C dX8_mayDo_85 0 rfl ?_
        exact ux_zret C dX8_mayDo_87 rfl (⟨by rw [decide_eq_false h]; rfl, hu.symm⟩)
      · exact absurd rfl h3
    · exact absurd rfl h2
  · have h : m_fst σ b w y = 0 := h
    have hu : m_may σ b w y = sa (sa (sa σ 6 (upd (σ.1 6) b (-1))) 7 (upd (σ.1 7) b (pq_b y))) 3 (upd (σ.1 3) (520 * b + w) (m_hk σ (520 * b + w) y)) := if_pos h
    refine ux_iconst C ((1 : Int32)) dX8_mayDo_10 (by decide) ?_
    refine ux_goto C 15 dX8_mayDo_11 (by decide) ?_
    refine ux_istore C [(4, _), (0, _), (1, _), (2, _), (3, _)] dX8_mayDo_15 (by decide) rfl ?_
    refine ux_aload_n C dX8_mayDo_17 1 rfl ?_
    refine ux_get C flX8_mayDo_30 0 rfl rfl rfl dX8_mayDo_18 ?_
    refine ux_iload_n C dX8_mayDo_21 2 rfl ?_
    refine ux_iload C dX8_mayDo_22 0 rfl ?_
    refine ux_if_eq C 31 dX8_mayDo_24 (by decide) (fun h2 => ?_) (fun h2 => ?_)
    · exact absurd h2 (by decide)
    · refine ux_iconst C ((-1 : Int32)) dX8_mayDo_27 (by decide) ?_
      refine ux_goto C 32 dX8_mayDo_28 (by decide) ?_
      refine ux_iast C 7 6 (b) rfl rfl (rfl) (by omega) (by decide) dX8_mayDo_32 _ (awM_6 _ _ _ _) ?_
      refine ux_aload_n C dX8_mayDo_33 1 rfl ?_
      refine ux_get C flX8_mayDo_33 0 rfl rfl rfl dX8_mayDo_34 ?_
      refine ux_iload_n C dX8_mayDo_37 2 rfl ?_
      refine ux_iload_n C dX8_mayDo_38 4 rfl ?_
      refine ux_zast C 8 7 (b) rfl rfl (rfl) (by omega) (by decide) (pq_b_nar y) dX8_mayDo_39 _ (awM_7 _ _ _ _) ?_
      refine ux_iload C dX8_mayDo_40 0 rfl ?_
      refine ux_if_eq C 85 dX8_mayDo_42 (by decide) (fun h3 => ?_) (fun h3 => ?_)
      · exact absurd h3 (by decide)
      · refine ux_sipush C (nI 520) dX8_mayDo_45 (by decide) ?_
        refine ux_iload_n C dX8_mayDo_48 2 rfl ?_
        refine ux_imul C dX8_mayDo_49 ?_
        refine ux_iload_n C dX8_mayDo_50 3 rfl ?_
        refine ux_iadd C dX8_mayDo_51 ?_
        refine ux_top (nI (520 * b + w)) (by rw [pk_mul, nI_add]) ?_
        refine ux_istore C [(5, _), (4, _), (0, _), (1, _), (2, _), (3, _)] dX8_mayDo_52 (by decide) rfl ?_
        refine ux_aload_n C dX8_mayDo_54 2 rfl ?_
        refine ux_get C flX8_mayDo_21 0 rfl rfl rfl dX8_mayDo_55 ?_
        refine ux_iload C dX8_mayDo_58 0 rfl ?_
        refine ux_iload_n C dX8_mayDo_60 5 rfl ?_
        refine ux_if_eq C 68 dX8_mayDo_61 (by decide) (fun h4 => ?_) (fun h4 => ?_)
        · have h4 := (pq_b0 _).mp h4
          subst h4
          refine ux_aload_n C dX8_mayDo_68 2 rfl ?_
          refine ux_get C flX8_mayDo_21 0 rfl rfl rfl dX8_mayDo_69 ?_
          refine ux_iload C dX8_mayDo_72 0 rfl ?_
          refine ux_bald C 4 3 (_) rfl rfl (rfl) (by omega) (by decide) dX8_mayDo_74 ?_
          refine ux_iconst C ((2 : Int32)) dX8_mayDo_75 (by decide) ?_
          refine ux_icmp_ne C 83 dX8_mayDo_76 (by decide) (fun h5 => ?_) (fun h5 => ?_)
          · have h5 : ¬ σ.1 3 (520 * b + w) = 2 := h5
            have hk : m_hk σ (520 * b + w) false = 1 := (if_neg (by decide)).trans (if_neg h5)
            refine ux_iconst C ((1 : Int32)) dX8_mayDo_83 (by decide) ?_
            refine ux_bast C 4 3 (_) rfl rfl (rfl) (by omega) (by decide) (pq_nar1) dX8_mayDo_84 _ (awM_3 _ _ _ _) ?_
            refine ux_iload C dX8_mayDo_85 1 rfl ?_
            exact ux_zret C dX8_mayDo_87 rfl (⟨by rw [decide_eq_true h]; rfl, by rw [hu, hk]; rfl⟩)
          · have h5 : σ.1 3 (520 * b + w) = 2 := h5
            have hk : m_hk σ (520 * b + w) false = 2 := (if_neg (by decide)).trans (if_pos h5)
            refine ux_iconst C ((2 : Int32)) dX8_mayDo_79 (by decide) ?_
            refine ux_goto C 84 dX8_mayDo_80 (by decide) ?_
            refine ux_bast C 4 3 (_) rfl rfl (rfl) (by omega) (by decide) (pq_nar2) dX8_mayDo_84 _ (awM_3 _ _ _ _) ?_
            refine ux_iload C dX8_mayDo_85 1 rfl ?_
            exact ux_zret C dX8_mayDo_87 rfl (⟨by rw [decide_eq_true h]; rfl, by rw [hu, hk]; rfl⟩)
        · have h4 := (pq_bn0 _).mp h4
          subst h4
          have hk : m_hk σ (520 * b + w) true = 2 := if_pos rfl
          refine ux_iconst C ((2 : Int32)) dX8_mayDo_64 (by decide) ?_
          refine ux_goto C 84 dX8_mayDo_65 (by decide) ?_
          refine ux_bast C 4 3 (_) rfl rfl (rfl) (by omega) (by decide) (pq_nar2) dX8_mayDo_84 _ (awM_3 _ _ _ _) ?_
          refine ux_iload C dX8_mayDo_85 1 rfl ?_
          exact ux_zret C dX8_mayDo_87 rfl (⟨by rw [decide_eq_true h]; rfl, by rw [hu, hk]; rfl⟩)
set_option maxHeartbeats 4000000 in
set_option maxRecDepth 100000 in
theorem c_X8_open (l : Launch) (D : va_G) (ad : Nat → Nat) (cA : Nat → ClassId) (A : Nat → Prop) (σ : ST) (t : Int32) (hF : mF σ) : ux_I l D vwCl (tyM cA) (wM ad cA) A yX8_open wsX8_open (ux_rm 1) [.ref (ad 0), .int t] σ (fun r σ' => r = (m_open σ t).1 ∧ σ' = (m_open σ t).2) := by
  refine ux_ofI (cc := cX8_open) (maxL := 2) (ret := (some .int)) (Ts := wsX8_open) (lv := [(0, .ref (ad 0)), (1, .int t)]) (by decide) rfl (fun _ h => h) (Nat.le_of_ble_eq_true rfl) rfl ?_
  intro p e s m below meth c C
  have hF0 := hF.1
  have fin : (decide (t = 0) || m_act σ t) = true → ux_V p l e (ux_rm 1) s m ([.ref (ad 0), .int t] : List Value).toArray below meth c (MQ below (va_Qi (fun r σ' => r = (m_open σ t).1 ∧ σ' = (m_open σ t).2) (fun σ' t => va_P D vwCl (wM ad cA σ') t.heap) A) ([.ref (ad 0), .int t] : List Value).toArray s 0 0 A) 2 D vwCl (wM ad cA) A 0 0 σ 12 [(0, .ref (ad 0)), (1, .int t)] [] := by
    intro ha
    refine ux_aload_n C dX8_open_12 0 rfl ?_
    refine ux_get C flX8_open_53 0 rfl rfl rfl dX8_open_13 ?_
    refine ux_sipush C (nI 150) dX8_open_16 (by decide) ?_
    refine ux_icmp_ne C 24 dX8_open_19 (by decide) (fun h => ?_) (fun h => ?_)
    · have h : ¬ σ.2.1 1 = 150 := fun e => h (by rw [e])
      have hu : m_open σ t = (nI (σ.2.1 1 + 1), sa (sa (sa (sf σ 1 (σ.2.1 1 + 1)) 4 (upd (σ.1 4) (σ.2.1 1 + 1) t)) 5 (upd (σ.1 5) (σ.2.1 1 + 1) 0)) 6 (upd (σ.1 6) (σ.2.1 1 + 1) (-1))) := if_pos (by rw [ha, decide_eq_false h]; rfl)
      refine ux_aload_n C dX8_open_24 0 rfl ?_
      refine ux_dup C dX8_open_25 rfl ?_
      refine ux_get C flX8_open_53 0 rfl rfl rfl dX8_open_26 ?_
      refine ux_iconst C ((1 : Int32)) dX8_open_29 (by decide) ?_
      refine ux_iadd C dX8_open_30 ?_
      refine ux_top (nI (σ.2.1 1 + 1)) (nI_1 _) ?_
      refine ux_putI C flX8_open_53 fiM_1 0 rfl rfl (Nat.le_of_ble_eq_true rfl) dX8_open_31 _ (fwM_1 _ _ _ _) ?_
      refine ux_aload_n C dX8_open_34 0 rfl ?_
      refine ux_get C flX8_open_24 0 rfl rfl rfl dX8_open_35 ?_
      refine ux_aload_n C dX8_open_38 0 rfl ?_
      refine ux_get C flX8_open_53 0 rfl rfl rfl dX8_open_39 ?_
      refine ux_iload_n C dX8_open_42 1 rfl ?_
      refine ux_iast C 5 4 (σ.2.1 1 + 1) rfl rfl (rfl) (by omega) (by decide) dX8_open_43 _ (awM_4 _ _ _ _) ?_
      refine ux_aload_n C dX8_open_44 0 rfl ?_
      refine ux_get C flX8_open_27 0 rfl rfl rfl dX8_open_45 ?_
      refine ux_aload_n C dX8_open_48 0 rfl ?_
      refine ux_get C flX8_open_53 0 rfl rfl rfl dX8_open_49 ?_
      refine ux_iconst C ((0 : Int32)) dX8_open_52 (by decide) ?_
      refine ux_iast C 6 5 (σ.2.1 1 + 1) rfl rfl (rfl) (by omega) (by decide) dX8_open_53 _ (awM_5 _ _ _ _) ?_
      refine ux_aload_n C dX8_open_54 0 rfl ?_
      refine ux_get C flX8_open_30 0 rfl rfl rfl dX8_open_55 ?_
      refine ux_aload_n C dX8_open_58 0 rfl ?_
      refine ux_get C flX8_open_53 0 rfl rfl rfl dX8_open_59 ?_
      refine ux_iconst C ((-1 : Int32)) dX8_open_62 (by decide) ?_
      refine ux_iast C 7 6 (σ.2.1 1 + 1) rfl rfl (rfl) (by omega) (by decide) dX8_open_63 _ (awM_6 _ _ _ _) ?_
      refine ux_aload_n C dX8_open_64 0 rfl ?_
      refine ux_get C flX8_open_53 0 rfl rfl rfl dX8_open_65 ?_
      exact ux_iret C dX8_open_68 (by rw [hu]; exact ⟨rfl, rfl⟩)
    · have h : σ.2.1 1 = 150 := (nI_eq (by omega) (by omega)).mp h
      have hu : m_open σ t = (-1, σ) := if_neg (by rw [ha, decide_eq_true h]; simp)
      refine ux_iconst C ((-1 : Int32)) dX8_open_22 (by decide) ?_
      exact ux_iret C dX8_open_23 (by rw [hu]; exact ⟨rfl, rfl⟩)
  refine ux_iload_n C dX8_open_0 1 rfl ?_
  refine ux_if_eq C 12 dX8_open_1 (by decide) (fun h => ?_) (fun h => ?_)
  · exact fin (by rw [decide_eq_true h]; rfl)
  · refine ux_aload_n C dX8_open_4 0 rfl ?_
    refine ux_iload_n C dX8_open_5 1 rfl ?_
    refine ux_callI C gkX8_open_68 (c_X8_isActive l D ad cA A σ t hF0) rfl ⟨rfl, rfl⟩ ⟨(Nat.le_of_ble_eq_true rfl), (Nat.le_of_ble_eq_true rfl)⟩ ⟨Nat.le_refl _, Nat.le_refl _⟩ 0 rfl rfl rfl rfl (Nat.le_of_ble_eq_true rfl) dX8_open_6 (fun r σ1 hr => ?_)
    obtain ⟨rfl, rfl⟩ := hr
    refine ux_if_eq C 22 dX8_open_9 (by decide) (fun h2 => ?_) (fun h2 => ?_)
    · have hu : m_open σ t = (-1, σ) := if_neg (by rw [decide_eq_false h, (pq_b0 _).mp h2]; simp)
      refine ux_iconst C ((-1 : Int32)) dX8_open_22 (by decide) ?_
      exact ux_iret C dX8_open_23 (by rw [hu]; exact ⟨rfl, rfl⟩)
    · exact fin (by rw [(pq_bn0 _).mp h2]; simp)
set_option maxHeartbeats 4000000 in
set_option maxRecDepth 100000 in
theorem c_X8_get (l : Launch) (D : va_G) (ad : Nat → Nat) (cA : Nat → ClassId) (A : Nat → Prop) (σ : ST) (t key : Int32) (hF : mF σ) (hk : σ.2.1 0 < 520) : ux_L l D vwCl (tyM cA) (wM ad cA) A yX8_get wsX8_get (ux_rm 4) [.ref (ad 0), .int t, .int key] σ (fun r σ' => r = (m_get σ t key).1 ∧ σ' = (m_get σ t key).2) := by
  refine ux_ofL (cc := cX8_get) (maxL := 5) (ret := (some .long)) (Ts := wsX8_get) (lv := [(0, .ref (ad 0)), (1, .int t), (2, .int key)]) (by decide) rfl (fun _ h => h) (Nat.le_of_ble_eq_true rfl) rfl ?_
  intro p e s m below meth c C
  have hF0 := hF.1
  refine ux_iload_n C dX8_get_0 1 rfl ?_
  refine ux_if_ne C 39 dX8_get_1 (by decide) (fun h0 => ?_) (fun h0 => ?_)
  · refine ux_aload_n C dX8_get_39 0 rfl ?_
    refine ux_iload_n C dX8_get_40 1 rfl ?_
    refine ux_callI C gkX8_get_68 (c_X8_isActive l D ad cA A σ t hF0) rfl ⟨rfl, rfl⟩ ⟨(Nat.le_of_ble_eq_true rfl), (Nat.le_of_ble_eq_true rfl)⟩ ⟨Nat.le_refl _, Nat.le_refl _⟩ 0 rfl rfl rfl rfl (Nat.le_of_ble_eq_true rfl) dX8_get_41 (fun r σ1 hr => ?_)
    obtain ⟨rfl, rfl⟩ := hr
    refine ux_if_ne C 51 dX8_get_44 (by decide) (fun h => ?_) (fun h => ?_)
    · have ha := (pq_bn0 _).mp h
      obtain ⟨k, k1, k2, rfl, k3⟩ := (m_act_iff hF).mp ha
      have hcl := nI_clamp (Nat.lt_of_le_of_lt (Nat.le_trans k2 hF.1) (show 150 < 2 ^ 31 by decide))
      have hu : m_get σ (nI k) key = (if m_fst (m_reg σ key).1 k (m_reg σ key).2 false = 0 then (m_val (m_may (m_reg σ key).1 k (m_reg σ key).2 false) k (m_reg σ key).2, m_may (m_reg σ key).1 k (m_reg σ key).2 false)
        else (2199023255552, m_may (m_reg σ key).1 k (m_reg σ key).2 false)) := by rw [m_get, if_neg h0, if_pos ha, hcl]
      have hs := m_reg_k σ key
      have hF1 := m_reg_F (key := key) hF
      have hc1 := m_reg_c σ key 1 (by decide)
      refine ux_aload_n C dX8_get_51 0 rfl ?_
      refine ux_iload_n C dX8_get_52 2 rfl ?_
      refine ux_callI C gkX8_get_88 (c_X8_number l D ad cA A σ key hk) rfl ⟨rfl, rfl⟩ ⟨(Nat.le_of_ble_eq_true rfl), (Nat.le_of_ble_eq_true rfl)⟩ ⟨Nat.le_refl _, Nat.le_refl _⟩ 0 rfl rfl rfl rfl (Nat.le_of_ble_eq_true rfl) dX8_get_53 (fun r σ1 hr => ?_)
      obtain ⟨rfl, rfl⟩ := hr
      refine ux_istore_n C [(3, _), (0, _), (1, _), (2, _)] dX8_get_56 rfl (by decide) rfl ?_
      refine ux_aload_n C dX8_get_57 1 rfl ?_
      refine ux_iload_n C dX8_get_58 2 rfl ?_
      refine ux_iload_n C dX8_get_59 0 rfl ?_
      refine ux_iconst C (pq_b false) dX8_get_60 (by decide) ?_
      refine ux_callI C gkX8_get_91 (c_X8_mayDo l D ad cA A (m_reg σ key).1 k (m_reg σ key).2 false hF1 (by omega) (by omega)) rfl ⟨rfl, rfl⟩ ⟨(Nat.le_of_ble_eq_true rfl), (Nat.le_of_ble_eq_true rfl)⟩ ⟨Nat.le_refl _, Nat.le_refl _⟩ 0 rfl rfl rfl rfl (Nat.le_of_ble_eq_true rfl) dX8_get_61 (fun r σ1 hr => ?_)
      obtain ⟨rfl, rfl⟩ := hr
      refine ux_if_ne C 71 dX8_get_64 (by decide) (fun h2 => ?_) (fun h2 => ?_)
      · have h2 := of_decide_eq_true ((pq_bn0 _).mp h2)
        rw [if_pos h2] at hu
        have hF2 := m_may_F (b := k) (w := (m_reg σ key).2) (y := false) hF1
        have hc2 := m_may_c (m_reg σ key).1 k (m_reg σ key).2 false
        have hk2 : k ≤ (m_may (m_reg σ key).1 k (m_reg σ key).2 false).2.1 1 := by rw [hc2]; omega
        have hle := m_top_le (mF_dn hF2) (m_wr (m_may (m_reg σ key).1 k (m_reg σ key).2 false) (m_reg σ key).2) k hk2
        refine ux_aload_n C dX8_get_71 1 rfl ?_
        refine ux_iload_n C dX8_get_72 2 rfl ?_
        refine ux_iload_n C dX8_get_73 0 rfl ?_
        refine ux_callI C gkX8_get_64 (c_X8_source l D ad cA A (m_may (m_reg σ key).1 k (m_reg σ key).2 false) k (m_reg σ key).2 hF2 hk2 (by omega)) rfl ⟨rfl, rfl⟩ ⟨(Nat.le_of_ble_eq_true rfl), (Nat.le_of_ble_eq_true rfl)⟩ ⟨Nat.le_refl _, Nat.le_refl _⟩ 0 rfl rfl rfl rfl (Nat.le_of_ble_eq_true rfl) dX8_get_74 (fun r σ1 hr => ?_)
        obtain ⟨hr, rfl⟩ := hr
        cases hse : m_sees (m_may (m_reg σ key).1 k (m_reg σ key).2 false) k (m_reg σ key).2 with
        | true =>
          rw [hse, if_pos rfl] at hr
          have hv : m_val (m_may (m_reg σ key).1 k (m_reg σ key).2 false) k (m_reg σ key).2 = _ := if_pos hse
          generalize hM : m_src (m_may (m_reg σ key).1 k (m_reg σ key).2 false) k (m_reg σ key).2 = M at hr hv
          have hM150 : M ≤ 150 := by
            have h9 : m_top (mQ (m_may (m_reg σ key).1 k (m_reg σ key).2 false)) (m_wr (m_may (m_reg σ key).1 k (m_reg σ key).2 false) (m_reg σ key).2) k = M := hM
            omega
          subst hr
          refine ux_istore C [(4, _), (3, _), (0, _), (1, _), (2, _)] dX8_get_77 (by decide) rfl ?_
          refine ux_iload C dX8_get_79 0 rfl ?_
          refine ux_iconst C ((-1 : Int32)) dX8_get_81 (by decide) ?_
          refine ux_icmp_ne C 91 dX8_get_82 (by decide) (fun h3 => ?_) (fun h3 => ?_)
          · refine ux_aload_n C dX8_get_91 2 rfl ?_
            refine ux_get C flX8_get_18 0 rfl rfl rfl dX8_get_92 ?_
            refine ux_sipush C (nI 520) dX8_get_95 (by decide) ?_
            refine ux_iload C dX8_get_98 0 rfl ?_
            refine ux_imul C dX8_get_100 ?_
            refine ux_iload_n C dX8_get_101 1 rfl ?_
            refine ux_iadd C dX8_get_102 ?_
            refine ux_top (nI (520 * M + (m_reg σ key).2)) (by rw [pk_mul, nI_add]) ?_
            refine ux_iald C 3 2 (_) rfl rfl (rfl) (by omega) (by decide) dX8_get_103 ?_
            refine ux_i2l C dX8_get_104 ?_
            exact ux_lret C dX8_get_105 (by rw [hu]; exact ⟨hv.symm, rfl⟩)
          · exact absurd h3 (pq_nI_m1 (by omega))
        | false =>
          rw [hse, if_neg (by decide)] at hr
          have hv : m_val (m_may (m_reg σ key).1 k (m_reg σ key).2 false) k (m_reg σ key).2 = 1099511627776 := if_neg (by rw [hse]; decide)
          subst hr
          refine ux_istore C [(4, _), (3, _), (0, _), (1, _), (2, _)] dX8_get_77 (by decide) rfl ?_
          refine ux_iload C dX8_get_79 0 rfl ?_
          refine ux_iconst C ((-1 : Int32)) dX8_get_81 (by decide) ?_
          refine ux_icmp_ne C 91 dX8_get_82 (by decide) (fun h3 => ?_) (fun h3 => ?_)
          · exact absurd rfl h3
          · refine ux_ldc2 C (1099511627776 : Int64) (by decide +kernel) dX8_get_85 ?_
            refine ux_goto C 105 dX8_get_88 (by decide) ?_
            exact ux_lret C dX8_get_105 (by rw [hu]; exact ⟨hv.symm, rfl⟩)
      · have h2 := of_decide_eq_false ((pq_b0 _).mp h2)
        rw [if_neg h2] at hu
        refine ux_ldc2 C (2199023255552 : Int64) (by decide +kernel) dX8_get_67 ?_
        exact ux_lret C dX8_get_70 (by rw [hu]; exact ⟨rfl, rfl⟩)
    · have ha := (pq_b0 _).mp h
      have hu : m_get σ t key = (4398046511104, σ) := by rw [m_get, if_neg h0, if_neg (by rw [ha]; decide)]
      refine ux_ldc2 C (4398046511104 : Int64) (by decide +kernel) dX8_get_47 ?_
      exact ux_lret C dX8_get_50 (by rw [hu]; exact ⟨rfl, rfl⟩)
  · have hu : m_get σ t key = (m_val0 σ (m_find σ key), σ) := if_pos h0
    refine ux_aload_n C dX8_get_4 0 rfl ?_
    refine ux_iload_n C dX8_get_5 2 rfl ?_
    refine ux_callI C gkX8_get_60 (c_X8_find l D ad cA A σ key (by omega)) rfl ⟨rfl, rfl⟩ ⟨(Nat.le_of_ble_eq_true rfl), (Nat.le_of_ble_eq_true rfl)⟩ ⟨Nat.le_refl _, Nat.le_refl _⟩ 0 rfl rfl rfl rfl (Nat.le_of_ble_eq_true rfl) dX8_get_6 (fun r σ1 hr => ?_)
    obtain ⟨hr, rfl⟩ := hr
    cases hf : m_find σ key with
    | none =>
      rw [hf] at hr hu
      have hr : r = -1 := hr
      subst hr
      refine ux_istore_n C [(3, _), (0, _), (1, _), (2, _)] dX8_get_9 rfl (by decide) rfl ?_
      refine ux_iload_n C dX8_get_10 0 rfl ?_
      refine ux_iconst C ((-1 : Int32)) dX8_get_11 (by decide) ?_
      refine ux_icmp_eq C 25 dX8_get_12 (by decide) (fun h => ?_) (fun h => ?_)
      · refine ux_ldc2 C (1099511627776 : Int64) (by decide +kernel) dX8_get_25 ?_
        refine ux_goto C 38 dX8_get_28 (by decide) ?_
        exact ux_lret C dX8_get_38 (by rw [hu]; exact ⟨rfl, rfl⟩)
      · exact absurd rfl h
    | some w =>
      rw [hf] at hr hu
      have hr : r = nI w := hr
      subst hr
      have hw := (pq_fst_some.mp hf).1
      refine ux_istore_n C [(3, _), (0, _), (1, _), (2, _)] dX8_get_9 rfl (by decide) rfl ?_
      refine ux_iload_n C dX8_get_10 0 rfl ?_
      refine ux_iconst C ((-1 : Int32)) dX8_get_11 (by decide) ?_
      refine ux_icmp_eq C 25 dX8_get_12 (by decide) (fun h => ?_) (fun h => ?_)
      · exact absurd h (pq_nI_m1 (by omega))
      · refine ux_aload_n C dX8_get_15 1 rfl ?_
        refine ux_get C flX8_get_14 0 rfl rfl rfl dX8_get_16 ?_
        refine ux_iload_n C dX8_get_19 0 rfl ?_
        refine ux_bald C 2 1 (w) rfl rfl (rfl) (by omega) (by decide) dX8_get_20 ?_
        refine ux_iconst C ((1 : Int32)) dX8_get_21 (by decide) ?_
        refine ux_icmp_eq C 31 dX8_get_22 (by decide) (fun h2 => ?_) (fun h2 => ?_)
        · refine ux_aload_n C dX8_get_31 1 rfl ?_
          refine ux_get C flX8_get_18 0 rfl rfl rfl dX8_get_32 ?_
          refine ux_iload_n C dX8_get_35 0 rfl ?_
          refine ux_iald C 3 2 (w) rfl rfl (rfl) (by omega) (by decide) dX8_get_36 ?_
          refine ux_i2l C dX8_get_37 ?_
          exact ux_lret C dX8_get_38 (by rw [hu]; exact ⟨(if_pos h2).symm, rfl⟩)
        · refine ux_ldc2 C (1099511627776 : Int64) (by decide +kernel) dX8_get_25 ?_
          refine ux_goto C 38 dX8_get_28 (by decide) ?_
          exact ux_lret C dX8_get_38 (by rw [hu]; exact ⟨(if_neg h2).symm, rfl⟩)
set_option maxHeartbeats 4000000 in
set_option maxRecDepth 100000 in
theorem c_X8_put (l : Launch) (D : va_G) (ad : Nat → Nat) (cA : Nat → ClassId) (A : Nat → Prop) (σ : ST) (t key v : Int32) (hF : mF σ) (hk : σ.2.1 0 < 520) : ux_I l D vwCl (tyM cA) (wM ad cA) A yX8_put wsX8_put (ux_rm 4) [.ref (ad 0), .int t, .int key, .int v] σ (fun r σ' => r = (m_change σ t key v false).1 ∧ σ' = (m_change σ t key v false).2) := by
  refine ux_ofI (cc := cX8_put) (maxL := 6) (ret := (some .int)) (Ts := wsX8_put) (lv := [(0, .ref (ad 0)), (1, .int t), (2, .int key), (3, .int v)]) (by decide) rfl (fun _ h => h) (Nat.le_of_ble_eq_true rfl) rfl ?_
  intro p e s m below meth c C
  have hF0 := hF.1
  refine ux_aload_n C dX8_put_0 0 rfl ?_
  refine ux_iload_n C dX8_put_1 1 rfl ?_
  refine ux_callI C gkX8_put_68 (c_X8_isActive l D ad cA A σ t hF0) rfl ⟨rfl, rfl⟩ ⟨(Nat.le_of_ble_eq_true rfl), (Nat.le_of_ble_eq_true rfl)⟩ ⟨Nat.le_refl _, Nat.le_refl _⟩ 0 rfl rfl rfl rfl (Nat.le_of_ble_eq_true rfl) dX8_put_2 (fun r σ1 hr => ?_)
  obtain ⟨rfl, rfl⟩ := hr
  refine ux_if_ne C 10 dX8_put_5 (by decide) (fun h => ?_) (fun h => ?_)
  · have ha := (pq_bn0 _).mp h
    obtain ⟨k, k1, k2, rfl, k3⟩ := (m_act_iff hF).mp ha
    have hcl := nI_clamp (Nat.lt_of_le_of_lt (Nat.le_trans k2 hF.1) (show 150 < 2 ^ 31 by decide))
    have hu : m_change σ (nI k) key v false = (if m_fst (m_reg σ key).1 k (m_reg σ key).2 true = 0 then
      (if m_sees (m_may (m_reg σ key).1 k (m_reg σ key).2 true) k (m_reg σ key).2 = false then 1 else 0, m_wrt (m_may (m_reg σ key).1 k (m_reg σ key).2 true) (520 * k + (m_reg σ key).2) 1 v)
      else (-2, m_may (m_reg σ key).1 k (m_reg σ key).2 true)) := by rw [m_change, if_pos ha, hcl]; rfl
    have hs := m_reg_k σ key
    have hF1 := m_reg_F (key := key) hF
    have hc1 := m_reg_c σ key 1 (by decide)
    refine ux_aload_n C dX8_put_10 0 rfl ?_
    refine ux_iload_n C dX8_put_11 2 rfl ?_
    refine ux_callI C gkX8_put_88 (c_X8_number l D ad cA A σ key hk) rfl ⟨rfl, rfl⟩ ⟨(Nat.le_of_ble_eq_true rfl), (Nat.le_of_ble_eq_true rfl)⟩ ⟨Nat.le_refl _, Nat.le_refl _⟩ 0 rfl rfl rfl rfl (Nat.le_of_ble_eq_true rfl) dX8_put_12 (fun r σ1 hr => ?_)
    obtain ⟨rfl, rfl⟩ := hr
    refine ux_istore C [(4, _), (0, _), (1, _), (2, _), (3, _)] dX8_put_15 (by decide) rfl ?_
    refine ux_aload_n C dX8_put_17 1 rfl ?_
    refine ux_iload_n C dX8_put_18 2 rfl ?_
    refine ux_iload C dX8_put_19 0 rfl ?_
    refine ux_iconst C (pq_b true) dX8_put_21 (by decide) ?_
    refine ux_callI C gkX8_put_91 (c_X8_mayDo l D ad cA A (m_reg σ key).1 k (m_reg σ key).2 true hF1 (by omega) (by omega)) rfl ⟨rfl, rfl⟩ ⟨(Nat.le_of_ble_eq_true rfl), (Nat.le_of_ble_eq_true rfl)⟩ ⟨Nat.le_refl _, Nat.le_refl _⟩ 0 rfl rfl rfl rfl (Nat.le_of_ble_eq_true rfl) dX8_put_22 (fun r σ1 hr => ?_)
    obtain ⟨rfl, rfl⟩ := hr
    refine ux_if_ne C 31 dX8_put_25 (by decide) (fun h2 => ?_) (fun h2 => ?_)
    · have h2 := of_decide_eq_true ((pq_bn0 _).mp h2)
      rw [if_pos h2] at hu
      have hF2 := m_may_F (b := k) (w := (m_reg σ key).2) (y := true) hF1
      have hc2 := m_may_c (m_reg σ key).1 k (m_reg σ key).2 true
      have hk2 : k ≤ (m_may (m_reg σ key).1 k (m_reg σ key).2 true).2.1 1 := by rw [hc2]; omega
      refine ux_aload_n C dX8_put_31 1 rfl ?_
      refine ux_iload_n C dX8_put_32 2 rfl ?_
      refine ux_iload C dX8_put_33 0 rfl ?_
      refine ux_callI C gkX8_put_97 (c_X8_sees l D ad cA A (m_may (m_reg σ key).1 k (m_reg σ key).2 true) k (m_reg σ key).2 hF2 hk2 (by omega)) rfl ⟨rfl, rfl⟩ ⟨(Nat.le_of_ble_eq_true rfl), (Nat.le_of_ble_eq_true rfl)⟩ ⟨Nat.le_refl _, Nat.le_refl _⟩ 0 rfl rfl rfl rfl (Nat.le_of_ble_eq_true rfl) dX8_put_35 (fun r σ1 hr => ?_)
      obtain ⟨rfl, rfl⟩ := hr
      refine ux_if_eq C 45 dX8_put_38 (by decide) (fun h3 => ?_) (fun h3 => ?_)
      · have h3 := (pq_b0 _).mp h3
        rw [if_pos h3] at hu
        refine ux_iconst C ((1 : Int32)) dX8_put_45 (by decide) ?_
        refine ux_istore C [(5, _), (4, _), (0, _), (1, _), (2, _), (3, _)] dX8_put_46 (by decide) rfl ?_
        refine ux_aload_n C dX8_put_48 2 rfl ?_
        refine ux_get C flX8_put_14 0 rfl rfl rfl dX8_put_49 ?_
        refine ux_sipush C (nI 520) dX8_put_52 (by decide) ?_
        refine ux_iload_n C dX8_put_55 3 rfl ?_
        refine ux_imul C dX8_put_56 ?_
        refine ux_iload C dX8_put_57 1 rfl ?_
        refine ux_iadd C dX8_put_59 ?_
        refine ux_top (nI (520 * k + (m_reg σ key).2)) (by rw [pk_mul, nI_add]) ?_
        refine ux_iconst C ((1 : Int32)) dX8_put_60 (by decide) ?_
        refine ux_bast C 2 1 (_) rfl rfl (rfl) (by omega) (by decide) (pq_nar1) dX8_put_61 _ (awM_1 _ _ _ _) ?_
        refine ux_aload_n C dX8_put_62 2 rfl ?_
        refine ux_get C flX8_put_18 0 rfl rfl rfl dX8_put_63 ?_
        refine ux_sipush C (nI 520) dX8_put_66 (by decide) ?_
        refine ux_iload_n C dX8_put_69 3 rfl ?_
        refine ux_imul C dX8_put_70 ?_
        refine ux_iload C dX8_put_71 1 rfl ?_
        refine ux_iadd C dX8_put_73 ?_
        refine ux_top (nI (520 * k + (m_reg σ key).2)) (by rw [pk_mul, nI_add]) ?_
        refine ux_iload_n C dX8_put_74 5 rfl ?_
        refine ux_iast C 3 2 (_) rfl rfl (rfl) (by omega) (by decide) dX8_put_75 _ (awM_2 _ _ _ _) ?_
        refine ux_iload C dX8_put_76 0 rfl ?_
        exact ux_iret C dX8_put_78 (by rw [hu]; exact ⟨rfl, rfl⟩)
      · have h3 := (pq_bn0 _).mp h3
        rw [if_neg (by rw [h3]; decide)] at hu
        refine ux_iconst C ((0 : Int32)) dX8_put_41 (by decide) ?_
        refine ux_goto C 46 dX8_put_42 (by decide) ?_
        refine ux_istore C [(5, _), (4, _), (0, _), (1, _), (2, _), (3, _)] dX8_put_46 (by decide) rfl ?_
        refine ux_aload_n C dX8_put_48 2 rfl ?_
        refine ux_get C flX8_put_14 0 rfl rfl rfl dX8_put_49 ?_
        refine ux_sipush C (nI 520) dX8_put_52 (by decide) ?_
        refine ux_iload_n C dX8_put_55 3 rfl ?_
        refine ux_imul C dX8_put_56 ?_
        refine ux_iload C dX8_put_57 1 rfl ?_
        refine ux_iadd C dX8_put_59 ?_
        refine ux_top (nI (520 * k + (m_reg σ key).2)) (by rw [pk_mul, nI_add]) ?_
        refine ux_iconst C ((1 : Int32)) dX8_put_60 (by decide) ?_
        refine ux_bast C 2 1 (_) rfl rfl (rfl) (by omega) (by decide) (pq_nar1) dX8_put_61 _ (awM_1 _ _ _ _) ?_
        refine ux_aload_n C dX8_put_62 2 rfl ?_
        refine ux_get C flX8_put_18 0 rfl rfl rfl dX8_put_63 ?_
        refine ux_sipush C (nI 520) dX8_put_66 (by decide) ?_
        refine ux_iload_n C dX8_put_69 3 rfl ?_
        refine ux_imul C dX8_put_70 ?_
        refine ux_iload C dX8_put_71 1 rfl ?_
        refine ux_iadd C dX8_put_73 ?_
        refine ux_top (nI (520 * k + (m_reg σ key).2)) (by rw [pk_mul, nI_add]) ?_
        refine ux_iload_n C dX8_put_74 5 rfl ?_
        refine ux_iast C 3 2 (_) rfl rfl (rfl) (by omega) (by decide) dX8_put_75 _ (awM_2 _ _ _ _) ?_
        refine ux_iload C dX8_put_76 0 rfl ?_
        exact ux_iret C dX8_put_78 (by rw [hu]; exact ⟨rfl, rfl⟩)
    · have h2 := of_decide_eq_false ((pq_b0 _).mp h2)
      rw [if_neg h2] at hu
      refine ux_bipush C ((-2 : Int32)) dX8_put_28 (by decide) ?_
      exact ux_iret C dX8_put_30 (by rw [hu]; exact ⟨rfl, rfl⟩)
  · have ha := (pq_b0 _).mp h
    have hu : m_change σ t key v false = (-1, σ) := if_neg (by rw [ha]; decide)
    refine ux_iconst C ((-1 : Int32)) dX8_put_8 (by decide) ?_
    exact ux_iret C dX8_put_9 (by rw [hu]; exact ⟨rfl, rfl⟩)
set_option maxHeartbeats 4000000 in
set_option maxRecDepth 100000 in
theorem c_X8_take (l : Launch) (D : va_G) (ad : Nat → Nat) (cA : Nat → ClassId) (A : Nat → Prop) (σ : ST) (t key : Int32) (hF : mF σ) (hk : σ.2.1 0 < 520) : ux_I l D vwCl (tyM cA) (wM ad cA) A yX8_take wsX8_take (ux_rm 4) [.ref (ad 0), .int t, .int key] σ (fun r σ' => r = (m_change σ t key 0 true).1 ∧ σ' = (m_change σ t key 0 true).2) := by
  refine ux_ofI (cc := cX8_take) (maxL := 5) (ret := (some .int)) (Ts := wsX8_take) (lv := [(0, .ref (ad 0)), (1, .int t), (2, .int key)]) (by decide) rfl (fun _ h => h) (Nat.le_of_ble_eq_true rfl) rfl ?_
  intro p e s m below meth c C
  have hF0 := hF.1
  refine ux_aload_n C dX8_take_0 0 rfl ?_
  refine ux_iload_n C dX8_take_1 1 rfl ?_
  refine ux_callI C gkX8_take_68 (c_X8_isActive l D ad cA A σ t hF0) rfl ⟨rfl, rfl⟩ ⟨(Nat.le_of_ble_eq_true rfl), (Nat.le_of_ble_eq_true rfl)⟩ ⟨Nat.le_refl _, Nat.le_refl _⟩ 0 rfl rfl rfl rfl (Nat.le_of_ble_eq_true rfl) dX8_take_2 (fun r σ1 hr => ?_)
  obtain ⟨rfl, rfl⟩ := hr
  refine ux_if_ne C 10 dX8_take_5 (by decide) (fun h => ?_) (fun h => ?_)
  · have ha := (pq_bn0 _).mp h
    obtain ⟨k, k1, k2, rfl, k3⟩ := (m_act_iff hF).mp ha
    have hcl := nI_clamp (Nat.lt_of_le_of_lt (Nat.le_trans k2 hF.1) (show 150 < 2 ^ 31 by decide))
    have hu : m_change σ (nI k) key 0 true = (if m_fst (m_reg σ key).1 k (m_reg σ key).2 true = 0 then
      (if m_sees (m_may (m_reg σ key).1 k (m_reg σ key).2 true) k (m_reg σ key).2 = true then 1 else 0, m_wrt (m_may (m_reg σ key).1 k (m_reg σ key).2 true) (520 * k + (m_reg σ key).2) 2 0)
      else (-2, m_may (m_reg σ key).1 k (m_reg σ key).2 true)) := by rw [m_change, if_pos ha, hcl]; rfl
    have hs := m_reg_k σ key
    have hF1 := m_reg_F (key := key) hF
    have hc1 := m_reg_c σ key 1 (by decide)
    refine ux_aload_n C dX8_take_10 0 rfl ?_
    refine ux_iload_n C dX8_take_11 2 rfl ?_
    refine ux_callI C gkX8_take_88 (c_X8_number l D ad cA A σ key hk) rfl ⟨rfl, rfl⟩ ⟨(Nat.le_of_ble_eq_true rfl), (Nat.le_of_ble_eq_true rfl)⟩ ⟨Nat.le_refl _, Nat.le_refl _⟩ 0 rfl rfl rfl rfl (Nat.le_of_ble_eq_true rfl) dX8_take_12 (fun r σ1 hr => ?_)
    obtain ⟨rfl, rfl⟩ := hr
    refine ux_istore_n C [(3, _), (0, _), (1, _), (2, _)] dX8_take_15 rfl (by decide) rfl ?_
    refine ux_aload_n C dX8_take_16 1 rfl ?_
    refine ux_iload_n C dX8_take_17 2 rfl ?_
    refine ux_iload_n C dX8_take_18 0 rfl ?_
    refine ux_iconst C (pq_b true) dX8_take_19 (by decide) ?_
    refine ux_callI C gkX8_take_91 (c_X8_mayDo l D ad cA A (m_reg σ key).1 k (m_reg σ key).2 true hF1 (by omega) (by omega)) rfl ⟨rfl, rfl⟩ ⟨(Nat.le_of_ble_eq_true rfl), (Nat.le_of_ble_eq_true rfl)⟩ ⟨Nat.le_refl _, Nat.le_refl _⟩ 0 rfl rfl rfl rfl (Nat.le_of_ble_eq_true rfl) dX8_take_20 (fun r σ1 hr => ?_)
    obtain ⟨rfl, rfl⟩ := hr
    refine ux_if_ne C 29 dX8_take_23 (by decide) (fun h2 => ?_) (fun h2 => ?_)
    · have h2 := of_decide_eq_true ((pq_bn0 _).mp h2)
      rw [if_pos h2] at hu
      have hF2 := m_may_F (b := k) (w := (m_reg σ key).2) (y := true) hF1
      have hc2 := m_may_c (m_reg σ key).1 k (m_reg σ key).2 true
      have hk2 : k ≤ (m_may (m_reg σ key).1 k (m_reg σ key).2 true).2.1 1 := by rw [hc2]; omega
      refine ux_aload_n C dX8_take_29 1 rfl ?_
      refine ux_iload_n C dX8_take_30 2 rfl ?_
      refine ux_iload_n C dX8_take_31 0 rfl ?_
      refine ux_callI C gkX8_take_97 (c_X8_sees l D ad cA A (m_may (m_reg σ key).1 k (m_reg σ key).2 true) k (m_reg σ key).2 hF2 hk2 (by omega)) rfl ⟨rfl, rfl⟩ ⟨(Nat.le_of_ble_eq_true rfl), (Nat.le_of_ble_eq_true rfl)⟩ ⟨Nat.le_refl _, Nat.le_refl _⟩ 0 rfl rfl rfl rfl (Nat.le_of_ble_eq_true rfl) dX8_take_32 (fun r σ1 hr => ?_)
      obtain ⟨rfl, rfl⟩ := hr
      refine ux_if_eq C 42 dX8_take_35 (by decide) (fun h3 => ?_) (fun h3 => ?_)
      · have h3 := (pq_b0 _).mp h3
        rw [if_neg (by rw [h3]; decide)] at hu
        refine ux_iconst C ((0 : Int32)) dX8_take_42 (by decide) ?_
        refine ux_istore C [(4, _), (3, _), (0, _), (1, _), (2, _)] dX8_take_43 (by decide) rfl ?_
        refine ux_aload_n C dX8_take_45 2 rfl ?_
        refine ux_get C flX8_take_14 0 rfl rfl rfl dX8_take_46 ?_
        refine ux_sipush C (nI 520) dX8_take_49 (by decide) ?_
        refine ux_iload_n C dX8_take_52 3 rfl ?_
        refine ux_imul C dX8_take_53 ?_
        refine ux_iload_n C dX8_take_54 1 rfl ?_
        refine ux_iadd C dX8_take_55 ?_
        refine ux_top (nI (520 * k + (m_reg σ key).2)) (by rw [pk_mul, nI_add]) ?_
        refine ux_iconst C ((2 : Int32)) dX8_take_56 (by decide) ?_
        refine ux_bast C 2 1 (_) rfl rfl (rfl) (by omega) (by decide) (pq_nar2) dX8_take_57 _ (awM_1 _ _ _ _) ?_
        refine ux_aload_n C dX8_take_58 2 rfl ?_
        refine ux_get C flX8_take_18 0 rfl rfl rfl dX8_take_59 ?_
        refine ux_sipush C (nI 520) dX8_take_62 (by decide) ?_
        refine ux_iload_n C dX8_take_65 3 rfl ?_
        refine ux_imul C dX8_take_66 ?_
        refine ux_iload_n C dX8_take_67 1 rfl ?_
        refine ux_iadd C dX8_take_68 ?_
        refine ux_top (nI (520 * k + (m_reg σ key).2)) (by rw [pk_mul, nI_add]) ?_
        refine ux_iconst C ((0 : Int32)) dX8_take_69 (by decide) ?_
        refine ux_iast C 3 2 (_) rfl rfl (rfl) (by omega) (by decide) dX8_take_70 _ (awM_2 _ _ _ _) ?_
        refine ux_iload C dX8_take_71 0 rfl ?_
        exact ux_iret C dX8_take_73 (by rw [hu]; exact ⟨rfl, rfl⟩)
      · have h3 := (pq_bn0 _).mp h3
        rw [if_pos h3] at hu
        refine ux_iconst C ((1 : Int32)) dX8_take_38 (by decide) ?_
        refine ux_goto C 43 dX8_take_39 (by decide) ?_
        refine ux_istore C [(4, _), (3, _), (0, _), (1, _), (2, _)] dX8_take_43 (by decide) rfl ?_
        refine ux_aload_n C dX8_take_45 2 rfl ?_
        refine ux_get C flX8_take_14 0 rfl rfl rfl dX8_take_46 ?_
        refine ux_sipush C (nI 520) dX8_take_49 (by decide) ?_
        refine ux_iload_n C dX8_take_52 3 rfl ?_
        refine ux_imul C dX8_take_53 ?_
        refine ux_iload_n C dX8_take_54 1 rfl ?_
        refine ux_iadd C dX8_take_55 ?_
        refine ux_top (nI (520 * k + (m_reg σ key).2)) (by rw [pk_mul, nI_add]) ?_
        refine ux_iconst C ((2 : Int32)) dX8_take_56 (by decide) ?_
        refine ux_bast C 2 1 (_) rfl rfl (rfl) (by omega) (by decide) (pq_nar2) dX8_take_57 _ (awM_1 _ _ _ _) ?_
        refine ux_aload_n C dX8_take_58 2 rfl ?_
        refine ux_get C flX8_take_18 0 rfl rfl rfl dX8_take_59 ?_
        refine ux_sipush C (nI 520) dX8_take_62 (by decide) ?_
        refine ux_iload_n C dX8_take_65 3 rfl ?_
        refine ux_imul C dX8_take_66 ?_
        refine ux_iload_n C dX8_take_67 1 rfl ?_
        refine ux_iadd C dX8_take_68 ?_
        refine ux_top (nI (520 * k + (m_reg σ key).2)) (by rw [pk_mul, nI_add]) ?_
        refine ux_iconst C ((0 : Int32)) dX8_take_69 (by decide) ?_
        refine ux_iast C 3 2 (_) rfl rfl (rfl) (by omega) (by decide) dX8_take_70 _ (awM_2 _ _ _ _) ?_
        refine ux_iload C dX8_take_71 0 rfl ?_
        exact ux_iret C dX8_take_73 (by rw [hu]; exact ⟨rfl, rfl⟩)
    · have h2 := of_decide_eq_false ((pq_b0 _).mp h2)
      rw [if_neg h2] at hu
      refine ux_bipush C ((-2 : Int32)) dX8_take_26 (by decide) ?_
      exact ux_iret C dX8_take_28 (by rw [hu]; exact ⟨rfl, rfl⟩)
  · have ha := (pq_b0 _).mp h
    have hu : m_change σ t key 0 true = (-1, σ) := if_neg (by rw [ha]; decide)
    refine ux_iconst C ((-1 : Int32)) dX8_take_8 (by decide) ?_
    exact ux_iret C dX8_take_9 (by rw [hu]; exact ⟨rfl, rfl⟩)

