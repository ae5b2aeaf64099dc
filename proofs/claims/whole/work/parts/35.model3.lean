theorem hiX8_children_8 : ∀ w ∈ wsX80, w ∈ wsX8_children := by decide +kernel
theorem flX8_children_53 : ux_F wsX8_children RX8 53 RX8 TX8 16 7 := ⟨hiX8_children_8, by decide, by decide +kernel⟩
theorem flX8_children_24 : ux_F wsX8_children RX8 24 RX8 TX8 16 5 := ⟨hiX8_children_8, by decide, by decide +kernel⟩
theorem hiX8_marksOf_8 : ∀ w ∈ wsX80, w ∈ wsX8_marksOf := by decide +kernel
theorem flX8_marksOf_103 : ux_F wsX8_marksOf RX8 103 RX8 TX8 16 14 := ⟨hiX8_marksOf_8, by decide, by decide +kernel⟩
theorem flX8_marksOf_37 : ux_F wsX8_marksOf RX8 37 RX8 TX8 16 10 := ⟨hiX8_marksOf_8, by decide, by decide +kernel⟩
theorem flX8_marksOf_40 : ux_F wsX8_marksOf RX8 40 RX8 TX8 16 11 := ⟨hiX8_marksOf_8, by decide, by decide +kernel⟩
theorem hiX8_state_8 : ∀ w ∈ wsX80, w ∈ wsX8_state := by decide +kernel
theorem flX8_state_53 : ux_F wsX8_state RX8 53 RX8 TX8 16 7 := ⟨hiX8_state_8, by decide, by decide +kernel⟩
theorem flX8_state_27 : ux_F wsX8_state RX8 27 RX8 TX8 16 6 := ⟨hiX8_state_8, by decide, by decide +kernel⟩
theorem hiX8_held_8 : ∀ w ∈ wsX80, w ∈ wsX8_held := by decide +kernel
theorem flX8_held_21 : ux_F wsX8_held RX8 21 RX8 TX8 16 4 := ⟨hiX8_held_8, by decide, by decide +kernel⟩
theorem hiX8_waits_8 : ∀ w ∈ wsX80, w ∈ wsX8_waits := by decide +kernel
theorem flX8_waits_30 : ux_F wsX8_waits RX8 30 RX8 TX8 16 8 := ⟨hiX8_waits_8, by decide, by decide +kernel⟩
theorem flX8_waits_33 : ux_F wsX8_waits RX8 33 RX8 TX8 16 9 := ⟨hiX8_waits_8, by decide, by decide +kernel⟩
theorem hiX8_size_8 : ∀ w ∈ wsX80, w ∈ wsX8_size := by decide +kernel
theorem flX8_size_57 : ux_F wsX8_size RX8 57 RX8 TX8 16 1 := ⟨hiX8_size_8, by decide, by decide +kernel⟩
theorem hiX8_next_8 : ∀ w ∈ wsX80, w ∈ wsX8_next := by decide +kernel
theorem flX8_next_57 : ux_F wsX8_next RX8 57 RX8 TX8 16 1 := ⟨hiX8_next_8, by decide, by decide +kernel⟩
theorem flX8_next_7 : ux_F wsX8_next RX8 7 RX8 TX8 16 0 := ⟨hiX8_next_8, by decide, by decide +kernel⟩
theorem hiX8_sum_8 : ∀ w ∈ wsX80, w ∈ wsX8_sum := by decide +kernel
theorem flX8_sum_57 : ux_F wsX8_sum RX8 57 RX8 TX8 16 1 := ⟨hiX8_sum_8, by decide, by decide +kernel⟩
theorem flX8_sum_7 : ux_F wsX8_sum RX8 7 RX8 TX8 16 0 := ⟨hiX8_sum_8, by decide, by decide +kernel⟩
theorem flX8_sum_18 : ux_F wsX8_sum RX8 18 RX8 TX8 16 3 := ⟨hiX8_sum_8, by decide, by decide +kernel⟩
theorem gkX8_children_68 : ux_G wsX8_children RX8 68 RX8 yX8_isActive wsX8_isActive 1 := ⟨gX8_children_X8_isActive, by decide +kernel⟩
theorem gkX8_held_68 : ux_G wsX8_held RX8 68 RX8 yX8_isActive wsX8_isActive 1 := ⟨gX8_held_X8_isActive, by decide +kernel⟩
theorem gkX8_held_60 : ux_G wsX8_held RX8 60 RX8 yX8_find wsX8_find 1 := ⟨gX8_held_X8_find, by decide +kernel⟩
theorem gkX8_blocker_68 : ux_G wsX8_blocker RX8 68 RX8 yX8_isActive wsX8_isActive 1 := ⟨gX8_blocker_X8_isActive, by decide +kernel⟩
theorem gkX8_blocker_60 : ux_G wsX8_blocker RX8 60 RX8 yX8_find wsX8_find 1 := ⟨gX8_blocker_X8_find, by decide +kernel⟩
theorem gkX8_blocker_80 : ux_G wsX8_blocker RX8 80 RX8 yX8_first wsX8_first 3 := ⟨gX8_blocker_X8_first, by decide +kernel⟩
theorem gkX8_waits_68 : ux_G wsX8_waits RX8 68 RX8 yX8_isActive wsX8_isActive 1 := ⟨gX8_waits_X8_isActive, by decide +kernel⟩
theorem gkX8_waits_80 : ux_G wsX8_waits RX8 80 RX8 yX8_first wsX8_first 3 := ⟨gX8_waits_X8_first, by decide +kernel⟩
theorem gkX8_size_120 : ux_G wsX8_size RX8 120 RX8 yX8_isThere wsX8_isThere 1 := ⟨gX8_size_X8_isThere, by decide +kernel⟩
theorem gkX8_size_97 : ux_G wsX8_size RX8 97 RX8 yX8_sees wsX8_sees 2 := ⟨gX8_size_X8_sees, by decide +kernel⟩
theorem gkX8_next_120 : ux_G wsX8_next RX8 120 RX8 yX8_isThere wsX8_isThere 1 := ⟨gX8_next_X8_isThere, by decide +kernel⟩
theorem gkX8_next_97 : ux_G wsX8_next RX8 97 RX8 yX8_sees wsX8_sees 2 := ⟨gX8_next_X8_sees, by decide +kernel⟩
theorem gkX8_sum_120 : ux_G wsX8_sum RX8 120 RX8 yX8_isThere wsX8_isThere 1 := ⟨gX8_sum_X8_isThere, by decide +kernel⟩
theorem gkX8_sum_97 : ux_G wsX8_sum RX8 97 RX8 yX8_sees wsX8_sees 2 := ⟨gX8_sum_X8_sees, by decide +kernel⟩
theorem gkX8_sum_64 : ux_G wsX8_sum RX8 64 RX8 yX8_source wsX8_source 2 := ⟨gX8_sum_X8_source, by decide +kernel⟩
set_option maxHeartbeats 4000000 in
set_option maxRecDepth 100000 in
theorem c_X8_children (l : Launch) (D : va_G) (ad : Nat → Nat) (cA : Nat → ClassId) (A : Nat → Prop) (σ : ST) (k : Nat) (hF : mF σ) (hk : k ≤ 150) : ux_I l D vwCl (tyM cA) (wM ad cA) A yX8_children wsX8_children (ux_rm 1) [.ref (ad 0), .int (nI k)] σ (fun r σ' => r = nI (m_kids σ k) ∧ σ = σ') := by
  refine ux_ofI (cc := cX8_children) (maxL := 4) (ret := (some .int)) (Ts := wsX8_children) (lv := [(0, .ref (ad 0)), (1, .int (nI k))]) (by decide) rfl (fun _ h => h) (Nat.le_of_ble_eq_true rfl) rfl ?_
  intro p e s m below meth c C
  have hF0 := hF.1
  have loop : ∀ (q i : Nat), σ.2.1 1 + 2 ≤ i + q → 1 ≤ i → i ≤ σ.2.1 1 + 1 → ux_V p l e (ux_rm 1) s m ([.ref (ad 0), .int (nI k)] : List Value).toArray below meth c (MQ below (va_Qi (fun r σ' => r = nI (m_kids σ k) ∧ σ = σ') (fun σ' t => va_P D vwCl (wM ad cA σ') t.heap) A) ([.ref (ad 0), .int (nI k)] : List Value).toArray s 0 0 A) 4 D vwCl (wM ad cA) A 0 0 σ 4 [(3, .int (nI i)), (2, .int (nI (pq_cnt (fun u => decide (1 ≤ u) && m_act σ (nI u) && decide (σ.1 4 u = nI k)) i))), (0, .ref (ad 0)), (1, .int (nI k))] [] := by
    intro q
    induction q with
    | zero => intro i h1 h2 h3; omega
    | succ q ih =>
      intro i h1 h2 h3
      refine ux_iload_n C dX8_children_4 0 rfl ?_
      refine ux_aload_n C dX8_children_5 2 rfl ?_
      refine ux_get C flX8_children_53 0 rfl rfl rfl dX8_children_6 ?_
      refine ux_icmp_gt C 44 dX8_children_9 (by decide) (fun hc => ?_) (fun hc => ?_)
      · have hc := (nI_ltI (by omega) (by omega)).mp hc
        have e : i = σ.2.1 1 + 1 := by omega
        subst e
        refine ux_iload_n C dX8_children_44 1 rfl ?_
        exact ux_iret C dX8_children_45 (⟨rfl, rfl⟩)
      · have hc := mt (nI_ltI (by omega) (by omega)).mpr hc
        have hih := ih (i + 1) (by omega) (by omega) (by omega)
        refine ux_iload_n C dX8_children_12 1 rfl ?_
        refine ux_aload_n C dX8_children_13 2 rfl ?_
        refine ux_iload_n C dX8_children_14 0 rfl ?_
        refine ux_callI C gkX8_children_68 (c_X8_isActive l D ad cA A σ (nI i) hF0) rfl ⟨rfl, rfl⟩ ⟨(Nat.le_of_ble_eq_true rfl), (Nat.le_of_ble_eq_true rfl)⟩ ⟨Nat.le_refl _, Nat.le_refl _⟩ 0 rfl rfl rfl rfl (Nat.le_of_ble_eq_true rfl) dX8_children_15 (fun r σ1 hr => ?_)
        obtain ⟨rfl, rfl⟩ := hr
        refine ux_if_eq C 35 dX8_children_18 (by decide) (fun h4 => ?_) (fun h4 => ?_)
        · have h4 := (pq_b0 _).mp h4
          rw [pq_cnt_f (n := i) (by rw [h4]; simp)] at hih
          refine ux_iconst C (nI 0) dX8_children_35 (by decide) ?_
          refine ux_iadd C dX8_children_36 ?_
          refine ux_top (nI _) (nI_add _ _) ?_
          refine ux_istore_n C [(2, _), (3, _), (0, _), (1, _)] dX8_children_37 rfl (by decide) rfl ?_
          refine ux_iinc C (nI (i + 1)) [(3, _), (2, _), (0, _), (1, _)] dX8_children_38 1 rfl (pq_inc i) (by decide) rfl ?_
          refine ux_goto C 4 dX8_children_41 (by decide) ?_
          exact hih
        · have h4 := (pq_bn0 _).mp h4
          refine ux_aload_n C dX8_children_21 2 rfl ?_
          refine ux_get C flX8_children_24 0 rfl rfl rfl dX8_children_22 ?_
          refine ux_iload_n C dX8_children_25 0 rfl ?_
          refine ux_iald C 5 4 (i) rfl rfl (rfl) (by omega) (by decide) dX8_children_26 ?_
          refine ux_iload_n C dX8_children_27 3 rfl ?_
          refine ux_icmp_ne C 35 dX8_children_28 (by decide) (fun h5 => ?_) (fun h5 => ?_)
          · rw [pq_cnt_f (n := i) (by rw [decide_eq_false h5]; simp)] at hih
            refine ux_iconst C (nI 0) dX8_children_35 (by decide) ?_
            refine ux_iadd C dX8_children_36 ?_
            refine ux_top (nI _) (nI_add _ _) ?_
            refine ux_istore_n C [(2, _), (3, _), (0, _), (1, _)] dX8_children_37 rfl (by decide) rfl ?_
            refine ux_iinc C (nI (i + 1)) [(3, _), (2, _), (0, _), (1, _)] dX8_children_38 1 rfl (pq_inc i) (by decide) rfl ?_
            refine ux_goto C 4 dX8_children_41 (by decide) ?_
            exact hih
          · rw [pq_cnt_t (n := i) (by rw [h4, decide_eq_true h5, decide_eq_true h2]; rfl)] at hih
            refine ux_iconst C (nI 1) dX8_children_31 (by decide) ?_
            refine ux_goto C 36 dX8_children_32 (by decide) ?_
            refine ux_iadd C dX8_children_36 ?_
            refine ux_top (nI _) (nI_add _ _) ?_
            refine ux_istore_n C [(2, _), (3, _), (0, _), (1, _)] dX8_children_37 rfl (by decide) rfl ?_
            refine ux_iinc C (nI (i + 1)) [(3, _), (2, _), (0, _), (1, _)] dX8_children_38 1 rfl (pq_inc i) (by decide) rfl ?_
            refine ux_goto C 4 dX8_children_41 (by decide) ?_
            exact hih
  refine ux_iconst C (nI 0) dX8_children_0 (by decide) ?_
  refine ux_istore_n C [(2, _), (0, _), (1, _)] dX8_children_1 rfl (by decide) rfl ?_
  refine ux_iconst C (nI 1) dX8_children_2 (by decide) ?_
  refine ux_istore_n C [(3, _), (2, _), (0, _), (1, _)] dX8_children_3 rfl (by decide) rfl ?_
  exact loop (σ.2.1 1 + 2) 1 (by omega) (by omega) (by omega)
set_option maxHeartbeats 4000000 in
set_option maxRecDepth 100000 in
theorem c_X8_marksOf (l : Launch) (D : va_G) (ad : Nat → Nat) (cA : Nat → ClassId) (A : Nat → Prop) (σ : ST) (t : Int32) (hm : σ.2.1 2 ≤ 520) : ux_I l D vwCl (tyM cA) (wM ad cA) A yX8_marksOf wsX8_marksOf (ux_rm 0) [.ref (ad 0), .int t] σ (fun r σ' => r = nI (m_marks σ t) ∧ σ = σ') := by
  refine ux_ofI (cc := cX8_marksOf) (maxL := 4) (ret := (some .int)) (Ts := wsX8_marksOf) (lv := [(0, .ref (ad 0)), (1, .int t)]) (by decide) rfl (fun _ h => h) (Nat.le_of_ble_eq_true rfl) rfl ?_
  intro p e s m below meth c C
  have loop : ∀ (q i : Nat), σ.2.1 2 + 1 ≤ i + q → i ≤ σ.2.1 2 → ux_V p l e (ux_rm 0) s m ([.ref (ad 0), .int t] : List Value).toArray below meth c (MQ below (va_Qi (fun r σ' => r = nI (m_marks σ t) ∧ σ = σ') (fun σ' t => va_P D vwCl (wM ad cA σ') t.heap) A) ([.ref (ad 0), .int t] : List Value).toArray s 0 0 A) 4 D vwCl (wM ad cA) A 0 0 σ 4 [(3, .int (nI i)), (2, .int (nI (pq_cnt (m_mst σ t) i))), (0, .ref (ad 0)), (1, .int t)] [] := by
    intro q
    induction q with
    | zero => intro i h1 h2; omega
    | succ q ih =>
      intro i h1 h2
      refine ux_iload_n C dX8_marksOf_4 0 rfl ?_
      refine ux_aload_n C dX8_marksOf_5 2 rfl ?_
      refine ux_get C flX8_marksOf_103 0 rfl rfl rfl dX8_marksOf_6 ?_
      refine ux_icmp_ge C 45 dX8_marksOf_9 (by decide) (fun hc => ?_) (fun hc => ?_)
      · have hc := (nI_leI (by omega) (by omega)).mp hc
        have e : i = σ.2.1 2 := by omega
        subst e
        refine ux_iload_n C dX8_marksOf_45 1 rfl ?_
        exact ux_iret C dX8_marksOf_46 (⟨rfl, rfl⟩)
      · have hc := mt (nI_leI (by omega) (by omega)).mpr hc
        have hih := ih (i + 1) (by omega) (by omega)
        refine ux_iload_n C dX8_marksOf_12 1 rfl ?_
        refine ux_aload_n C dX8_marksOf_13 2 rfl ?_
        refine ux_get C flX8_marksOf_37 0 rfl rfl rfl dX8_marksOf_14 ?_
        refine ux_iload_n C dX8_marksOf_17 0 rfl ?_
        refine ux_iald C 9 8 (i) rfl rfl (rfl) (by omega) (by decide) dX8_marksOf_18 ?_
        refine ux_iload_n C dX8_marksOf_19 3 rfl ?_
        refine ux_icmp_ne C 36 dX8_marksOf_20 (by decide) (fun h4 => ?_) (fun h4 => ?_)
        · rw [pq_cnt_f (n := i) (by rw [m_mst, decide_eq_false h4]; rfl)] at hih
          refine ux_iconst C (nI 0) dX8_marksOf_36 (by decide) ?_
          refine ux_iadd C dX8_marksOf_37 ?_
          refine ux_top (nI _) (nI_add _ _) ?_
          refine ux_istore_n C [(2, _), (3, _), (0, _), (1, _)] dX8_marksOf_38 rfl (by decide) rfl ?_
          refine ux_iinc C (nI (i + 1)) [(3, _), (2, _), (0, _), (1, _)] dX8_marksOf_39 1 rfl (pq_inc i) (by decide) rfl ?_
          refine ux_goto C 4 dX8_marksOf_42 (by decide) ?_
          exact hih
        · refine ux_aload_n C dX8_marksOf_23 2 rfl ?_
          refine ux_get C flX8_marksOf_40 0 rfl rfl rfl dX8_marksOf_24 ?_
          refine ux_iload_n C dX8_marksOf_27 0 rfl ?_
          refine ux_zald C 10 9 (i) rfl rfl (rfl) (by omega) (by decide) dX8_marksOf_28 ?_
          refine ux_if_eq C 36 dX8_marksOf_29 (by decide) (fun h5 => ?_) (fun h5 => ?_)
          · rw [pq_cnt_f (n := i) (by rw [m_mst, decide_eq_true h5]; simp)] at hih
            refine ux_iconst C (nI 0) dX8_marksOf_36 (by decide) ?_
            refine ux_iadd C dX8_marksOf_37 ?_
            refine ux_top (nI _) (nI_add _ _) ?_
            refine ux_istore_n C [(2, _), (3, _), (0, _), (1, _)] dX8_marksOf_38 rfl (by decide) rfl ?_
            refine ux_iinc C (nI (i + 1)) [(3, _), (2, _), (0, _), (1, _)] dX8_marksOf_39 1 rfl (pq_inc i) (by decide) rfl ?_
            refine ux_goto C 4 dX8_marksOf_42 (by decide) ?_
            exact hih
          · rw [pq_cnt_t (n := i) (by rw [m_mst, decide_eq_true h4, decide_eq_false h5]; rfl)] at hih
            refine ux_iconst C (nI 1) dX8_marksOf_32 (by decide) ?_
            refine ux_goto C 37 dX8_marksOf_33 (by decide) ?_
            refine ux_iadd C dX8_marksOf_37 ?_
            refine ux_top (nI _) (nI_add _ _) ?_
            refine ux_istore_n C [(2, _), (3, _), (0, _), (1, _)] dX8_marksOf_38 rfl (by decide) rfl ?_
            refine ux_iinc C (nI (i + 1)) [(3, _), (2, _), (0, _), (1, _)] dX8_marksOf_39 1 rfl (pq_inc i) (by decide) rfl ?_
            refine ux_goto C 4 dX8_marksOf_42 (by decide) ?_
            exact hih
  refine ux_iconst C (nI 0) dX8_marksOf_0 (by decide) ?_
  refine ux_istore_n C [(2, _), (0, _), (1, _)] dX8_marksOf_1 rfl (by decide) rfl ?_
  refine ux_iconst C (nI 0) dX8_marksOf_2 (by decide) ?_
  refine ux_istore_n C [(3, _), (2, _), (0, _), (1, _)] dX8_marksOf_3 rfl (by decide) rfl ?_
  exact loop (σ.2.1 2 + 1) 0 (by omega) (by omega)
set_option maxHeartbeats 4000000 in
set_option maxRecDepth 100000 in
theorem c_X8_state (l : Launch) (D : va_G) (ad : Nat → Nat) (cA : Nat → ClassId) (A : Nat → Prop) (σ : ST) (t : Int32) (hF : mF σ) : ux_I l D vwCl (tyM cA) (wM ad cA) A yX8_state wsX8_state (ux_rm 0) [.ref (ad 0), .int t] σ (fun r σ' => r = m_state σ t ∧ σ = σ') := by
  refine ux_ofI (cc := cX8_state) (maxL := 2) (ret := (some .int)) (Ts := wsX8_state) (lv := [(0, .ref (ad 0)), (1, .int t)]) (by decide) rfl (fun _ h => h) (Nat.le_of_ble_eq_true rfl) rfl ?_
  intro p e s m below meth c C
  have hF0 := hF.1
  refine ux_iload_n C dX8_state_0 1 rfl ?_
  refine ux_iconst C ((1 : Int32)) dX8_state_1 (by decide) ?_
  refine ux_icmp_lt C 13 dX8_state_2 (by decide) (fun h1 => ?_) (fun h1 => ?_)
  · refine ux_iconst C ((-1 : Int32)) dX8_state_13 (by decide) ?_
    refine ux_goto C 23 dX8_state_14 (by decide) ?_
    exact ux_iret C dX8_state_23 (⟨(if_neg (by rw [pq_ex, decide_eq_false (Int32.not_le.mpr h1)]; simp)).symm, rfl⟩)
  · refine ux_iload_n C dX8_state_5 1 rfl ?_
    refine ux_aload_n C dX8_state_6 0 rfl ?_
    refine ux_get C flX8_state_53 0 rfl rfl rfl dX8_state_7 ?_
    refine ux_icmp_le C 17 dX8_state_10 (by decide) (fun h2 => ?_) (fun h2 => ?_)
    · have h : pq_ex (σ.2.1 1) t = true := by rw [pq_ex, decide_eq_true (Int32.not_lt.mp h1), decide_eq_true h2]; rfl
      obtain ⟨k, k1, k2, rfl⟩ := (pq_ex_iff (by omega)).mp h
      refine ux_aload_n C dX8_state_17 0 rfl ?_
      refine ux_get C flX8_state_27 0 rfl rfl rfl dX8_state_18 ?_
      refine ux_iload_n C dX8_state_21 1 rfl ?_
      refine ux_iald C 6 5 (k) rfl rfl (rfl) (by omega) (by decide) dX8_state_22 ?_
      exact ux_iret C dX8_state_23 (⟨by rw [m_state, if_pos h, nI_clamp (by omega)], rfl⟩)
    · refine ux_iconst C ((-1 : Int32)) dX8_state_13 (by decide) ?_
      refine ux_goto C 23 dX8_state_14 (by decide) ?_
      exact ux_iret C dX8_state_23 (⟨(if_neg (by rw [pq_ex, decide_eq_false h2]; simp)).symm, rfl⟩)
set_option maxHeartbeats 4000000 in
set_option maxRecDepth 100000 in
theorem c_X8_held (l : Launch) (D : va_G) (ad : Nat → Nat) (cA : Nat → ClassId) (A : Nat → Prop) (σ : ST) (t key : Int32) (hF : mF σ) (hk : σ.2.1 0 ≤ 520) : ux_I l D vwCl (tyM cA) (wM ad cA) A yX8_held wsX8_held (ux_rm 1) [.ref (ad 0), .int t, .int key] σ (fun r σ' => r = m_held σ t key ∧ σ = σ') := by
  refine ux_ofI (cc := cX8_held) (maxL := 4) (ret := (some .int)) (Ts := wsX8_held) (lv := [(0, .ref (ad 0)), (1, .int t), (2, .int key)]) (by decide) rfl (fun _ h => h) (Nat.le_of_ble_eq_true rfl) rfl ?_
  intro p e s m below meth c C
  have hF0 := hF.1
  refine ux_aload_n C dX8_held_0 0 rfl ?_
  refine ux_iload_n C dX8_held_1 1 rfl ?_
  refine ux_callI C gkX8_held_68 (c_X8_isActive l D ad cA A σ t hF0) rfl ⟨rfl, rfl⟩ ⟨(Nat.le_of_ble_eq_true rfl), (Nat.le_of_ble_eq_true rfl)⟩ ⟨Nat.le_refl _, Nat.le_refl _⟩ 0 rfl rfl rfl rfl (Nat.le_of_ble_eq_true rfl) dX8_held_2 (fun r σ1 hr => ?_)
  obtain ⟨rfl, rfl⟩ := hr
  refine ux_if_ne C 10 dX8_held_5 (by decide) (fun h => ?_) (fun h => ?_)
  · have ha := (pq_bn0 _).mp h
    obtain ⟨k, k1, k2, rfl, k3⟩ := (m_act_iff hF).mp ha
    have hcl := nI_clamp (Nat.lt_of_le_of_lt (Nat.le_trans k2 hF.1) (show 150 < 2 ^ 31 by decide))
    have hu : m_held σ (nI k) key = m_hd σ k (m_find σ key) := by rw [m_held, if_pos ha, hcl]
    refine ux_aload_n C dX8_held_10 0 rfl ?_
    refine ux_iload_n C dX8_held_11 2 rfl ?_
    refine ux_callI C gkX8_held_60 (c_X8_find l D ad cA A σ key hk) rfl ⟨rfl, rfl⟩ ⟨(Nat.le_of_ble_eq_true rfl), (Nat.le_of_ble_eq_true rfl)⟩ ⟨Nat.le_refl _, Nat.le_refl _⟩ 0 rfl rfl rfl rfl (Nat.le_of_ble_eq_true rfl) dX8_held_12 (fun r σ1 hr => ?_)
    obtain ⟨hr, rfl⟩ := hr
    cases hf : m_find σ key with
    | none =>
      rw [hf] at hr hu
      have hr : r = -1 := hr
      subst hr
      refine ux_istore_n C [(3, _), (0, _), (1, _), (2, _)] dX8_held_15 rfl (by decide) rfl ?_
      refine ux_iload_n C dX8_held_16 0 rfl ?_
      refine ux_iconst C ((-1 : Int32)) dX8_held_17 (by decide) ?_
      refine ux_icmp_ne C 25 dX8_held_18 (by decide) (fun h2 => ?_) (fun h2 => ?_)
      · exact absurd rfl h2
      · refine ux_iconst C ((0 : Int32)) dX8_held_21 (by decide) ?_
        refine ux_goto C 37 dX8_held_22 (by decide) ?_
        exact ux_iret C dX8_held_37 (⟨hu.symm, rfl⟩)
    | some w =>
      rw [hf] at hr hu
      have hr : r = nI w := hr
      subst hr
      have hw := (pq_fst_some.mp hf).1
      refine ux_istore_n C [(3, _), (0, _), (1, _), (2, _)] dX8_held_15 rfl (by decide) rfl ?_
      refine ux_iload_n C dX8_held_16 0 rfl ?_
      refine ux_iconst C ((-1 : Int32)) dX8_held_17 (by decide) ?_
      refine ux_icmp_ne C 25 dX8_held_18 (by decide) (fun h2 => ?_) (fun h2 => ?_)
      · refine ux_aload_n C dX8_held_25 1 rfl ?_
        refine ux_get C flX8_held_21 0 rfl rfl rfl dX8_held_26 ?_
        refine ux_sipush C (nI 520) dX8_held_29 (by decide) ?_
        refine ux_iload_n C dX8_held_32 2 rfl ?_
        refine ux_imul C dX8_held_33 ?_
        refine ux_iload_n C dX8_held_34 0 rfl ?_
        refine ux_iadd C dX8_held_35 ?_
        refine ux_top (nI (520 * k + w)) (by rw [pk_mul, nI_add]) ?_
        refine ux_bald C 4 3 (_) rfl rfl (rfl) (by omega) (by decide) dX8_held_36 ?_
        exact ux_iret C dX8_held_37 (⟨hu.symm, rfl⟩)
      · exact absurd h2 (pq_nI_m1 (by omega))
  · have ha := (pq_b0 _).mp h
    refine ux_iconst C ((-1 : Int32)) dX8_held_8 (by decide) ?_
    exact ux_iret C dX8_held_9 (⟨(if_neg (by rw [ha]; decide)).symm, rfl⟩)
set_option maxHeartbeats 4000000 in
set_option maxRecDepth 100000 in
theorem c_X8_blocker (l : Launch) (D : va_G) (ad : Nat → Nat) (cA : Nat → ClassId) (A : Nat → Prop) (σ : ST) (t key : Int32) (y : Bool) (hF : mF σ) (hk : σ.2.1 0 ≤ 520) : ux_I l D vwCl (tyM cA) (wM ad cA) A yX8_blocker wsX8_blocker (ux_rm 3) [.ref (ad 0), .int t, .int key, .int (pq_b y)] σ (fun r σ' => r = m_blocker σ t key y ∧ σ = σ') := by
  refine ux_ofI (cc := cX8_blocker) (maxL := 4) (ret := (some .int)) (Ts := wsX8_blocker) (lv := [(0, .ref (ad 0)), (1, .int t), (2, .int key), (3, .int (pq_b y))]) (by decide) rfl (fun _ h => h) (Nat.le_of_ble_eq_true rfl) rfl ?_
  intro p e s m below meth c C
  have hF0 := hF.1
  refine ux_aload_n C dX8_blocker_0 0 rfl ?_
  refine ux_iload_n C dX8_blocker_1 1 rfl ?_
  refine ux_callI C gkX8_blocker_68 (c_X8_isActive l D ad cA A σ t hF0) rfl ⟨rfl, rfl⟩ ⟨(Nat.le_of_ble_eq_true rfl), (Nat.le_of_ble_eq_true rfl)⟩ ⟨Nat.le_refl _, Nat.le_refl _⟩ 0 rfl rfl rfl rfl (Nat.le_of_ble_eq_true rfl) dX8_blocker_2 (fun r σ1 hr => ?_)
  obtain ⟨rfl, rfl⟩ := hr
  refine ux_if_eq C 22 dX8_blocker_5 (by decide) (fun h => ?_) (fun h => ?_)
  · have ha := (pq_b0 _).mp h
    refine ux_iconst C ((-1 : Int32)) dX8_blocker_22 (by decide) ?_
    exact ux_iret C dX8_blocker_23 (⟨(if_neg (by rw [ha]; decide)).symm, rfl⟩)
  · have ha := (pq_bn0 _).mp h
    obtain ⟨k, k1, k2, rfl, k3⟩ := (m_act_iff hF).mp ha
    have hcl := nI_clamp (Nat.lt_of_le_of_lt (Nat.le_trans k2 hF.1) (show 150 < 2 ^ 31 by decide))
    have hu : m_blocker σ (nI k) key y = m_first σ k (m_find σ key) y := by rw [m_blocker, if_pos ha, hcl]
    refine ux_aload_n C dX8_blocker_8 0 rfl ?_
    refine ux_iload_n C dX8_blocker_9 1 rfl ?_
    refine ux_aload_n C dX8_blocker_10 0 rfl ?_
    refine ux_iload_n C dX8_blocker_11 2 rfl ?_
    refine ux_callI C gkX8_blocker_60 (c_X8_find l D ad cA A σ key hk) rfl ⟨rfl, rfl⟩ ⟨(Nat.le_of_ble_eq_true rfl), (Nat.le_of_ble_eq_true rfl)⟩ ⟨Nat.le_refl _, Nat.le_refl _⟩ 0 rfl rfl rfl rfl (Nat.le_of_ble_eq_true rfl) dX8_blocker_12 (fun r σ1 hr => ?_)
    obtain ⟨rfl, rfl⟩ := hr
    refine ux_iload_n C dX8_blocker_15 3 rfl ?_
    refine ux_callI C gkX8_blocker_80 (c_X8_first l D ad cA A σ k (m_find σ key) y hF k2 (fun w hw => Nat.lt_of_lt_of_le (pq_fst_some.mp hw).1 hk)) rfl ⟨rfl, rfl⟩ ⟨(Nat.le_of_ble_eq_true rfl), (Nat.le_of_ble_eq_true rfl)⟩ ⟨Nat.le_refl _, Nat.le_refl _⟩ 0 rfl rfl rfl rfl (Nat.le_of_ble_eq_true rfl) dX8_blocker_16 (fun r σ1 hr => ?_)
    obtain ⟨rfl, rfl⟩ := hr
    refine ux_goto C 23 dX8_blocker_19 (by decide) ?_
    exact ux_iret C dX8_blocker_23 (⟨hu.symm, rfl⟩)
set_option maxHeartbeats 4000000 in
set_option maxRecDepth 100000 in
theorem c_X8_waits (l : Launch) (D : va_G) (ad : Nat → Nat) (cA : Nat → ClassId) (A : Nat → Prop) (σ : ST) (t : Int32) (hF : mF σ) (hW : mW σ) : ux_I l D vwCl (tyM cA) (wM ad cA) A yX8_waits wsX8_waits (ux_rm 3) [.ref (ad 0), .int t] σ (fun r σ' => r = m_waits σ t ∧ σ = σ') := by
  refine ux_ofI (cc := cX8_waits) (maxL := 2) (ret := (some .int)) (Ts := wsX8_waits) (lv := [(0, .ref (ad 0)), (1, .int t)]) (by decide) rfl (fun _ h => h) (Nat.le_of_ble_eq_true rfl) rfl ?_
  intro p e s m below meth c C
  have hF0 := hF.1
  refine ux_aload_n C dX8_waits_0 0 rfl ?_
  refine ux_iload_n C dX8_waits_1 1 rfl ?_
  refine ux_callI C gkX8_waits_68 (c_X8_isActive l D ad cA A σ t hF0) rfl ⟨rfl, rfl⟩ ⟨(Nat.le_of_ble_eq_true rfl), (Nat.le_of_ble_eq_true rfl)⟩ ⟨Nat.le_refl _, Nat.le_refl _⟩ 0 rfl rfl rfl rfl (Nat.le_of_ble_eq_true rfl) dX8_waits_2 (fun r σ1 hr => ?_)
  obtain ⟨rfl, rfl⟩ := hr
  refine ux_if_eq C 28 dX8_waits_5 (by decide) (fun h => ?_) (fun h => ?_)
  · have ha := (pq_b0 _).mp h
    refine ux_iconst C ((-1 : Int32)) dX8_waits_28 (by decide) ?_
    exact ux_iret C dX8_waits_29 (⟨(if_neg (by rw [ha]; decide)).symm, rfl⟩)
  · have ha := (pq_bn0 _).mp h
    obtain ⟨k, k1, k2, rfl, k3⟩ := (m_act_iff hF).mp ha
    have hcl := nI_clamp (Nat.lt_of_le_of_lt (Nat.le_trans k2 hF.1) (show 150 < 2 ^ 31 by decide))
    obtain ⟨w1, w2, w3⟩ := hW k k1 k2
    have hu : m_waits σ (nI k) = m_first σ k (m_wx σ k) (m_wy σ k) := by rw [m_waits, if_pos ha, hcl]
    refine ux_aload_n C dX8_waits_8 0 rfl ?_
    refine ux_iload_n C dX8_waits_9 1 rfl ?_
    refine ux_aload_n C dX8_waits_10 0 rfl ?_
    refine ux_get C flX8_waits_30 0 rfl rfl rfl dX8_waits_11 ?_
    refine ux_iload_n C dX8_waits_14 1 rfl ?_
    refine ux_iald C 7 6 (k) rfl rfl (rfl) (by omega) (by decide) dX8_waits_15 ?_
    refine ux_top _ w1 ?_
    refine ux_aload_n C dX8_waits_16 0 rfl ?_
    refine ux_get C flX8_waits_33 0 rfl rfl rfl dX8_waits_17 ?_
    refine ux_iload_n C dX8_waits_20 1 rfl ?_
    refine ux_zald C 8 7 (k) rfl rfl (rfl) (by omega) (by decide) dX8_waits_21 ?_
    refine ux_top _ w3 ?_
    refine ux_callI C gkX8_waits_80 (c_X8_first l D ad cA A σ k (m_wx σ k) (m_wy σ k) hF k2 w2) rfl ⟨rfl, rfl⟩ ⟨(Nat.le_of_ble_eq_true rfl), (Nat.le_of_ble_eq_true rfl)⟩ ⟨Nat.le_refl _, Nat.le_refl _⟩ 0 rfl rfl rfl rfl (Nat.le_of_ble_eq_true rfl) dX8_waits_22 (fun r σ1 hr => ?_)
    obtain ⟨rfl, rfl⟩ := hr
    refine ux_goto C 29 dX8_waits_25 (by decide) ?_
    exact ux_iret C dX8_waits_29 (⟨hu.symm, rfl⟩)
set_option maxHeartbeats 4000000 in
set_option maxRecDepth 100000 in
theorem c_X8_size (l : Launch) (D : va_G) (ad : Nat → Nat) (cA : Nat → ClassId) (A : Nat → Prop) (σ : ST) (t : Int32) (hF : mF σ) (hk : σ.2.1 0 ≤ 520) : ux_I l D vwCl (tyM cA) (wM ad cA) A yX8_size wsX8_size (ux_rm 2) [.ref (ad 0), .int t] σ (fun r σ' => r = m_size σ t ∧ σ = σ') := by
  refine ux_ofI (cc := cX8_size) (maxL := 4) (ret := (some .int)) (Ts := wsX8_size) (lv := [(0, .ref (ad 0)), (1, .int t)]) (by decide) rfl (fun _ h => h) (Nat.le_of_ble_eq_true rfl) rfl ?_
  intro p e s m below meth c C
  have hF0 := hF.1
  refine ux_aload_n C dX8_size_0 0 rfl ?_
  refine ux_iload_n C dX8_size_1 1 rfl ?_
  refine ux_callI C gkX8_size_120 (c_X8_isThere l D ad cA A σ t hF0) rfl ⟨rfl, rfl⟩ ⟨(Nat.le_of_ble_eq_true rfl), (Nat.le_of_ble_eq_true rfl)⟩ ⟨Nat.le_refl _, Nat.le_refl _⟩ 0 rfl rfl rfl rfl (Nat.le_of_ble_eq_true rfl) dX8_size_2 (fun r σ1 hr => ?_)
  obtain ⟨rfl, rfl⟩ := hr
  refine ux_if_ne C 10 dX8_size_5 (by decide) (fun h => ?_) (fun h => ?_)
  · have h := (pq_bn0 _).mp h
    obtain ⟨k, k2, rfl, k3⟩ := (m_asked_iff hF).mp h
    have hcl := nI_clamp (Nat.lt_of_le_of_lt (Nat.le_trans k2 hF.1) (show 150 < 2 ^ 31 by decide))
    have hu : m_size σ (nI k) = nI (pq_cnt (m_sees σ k) (σ.2.1 0)) := by rw [m_size, if_pos h, hcl]
    have loop : ∀ (q i : Nat), σ.2.1 0 + 1 ≤ i + q → i ≤ σ.2.1 0 → ux_V p l e (ux_rm 2) s m ([.ref (ad 0), .int (nI k)] : List Value).toArray below meth c (MQ below (va_Qi (fun r σ' => r = m_size σ (nI k) ∧ σ = σ') (fun σ' tt => va_P D vwCl (wM ad cA σ') tt.heap) A) ([.ref (ad 0), .int (nI k)] : List Value).toArray s 0 0 A) 4 D vwCl (wM ad cA) A 0 0 σ 14 [(3, .int (nI i)), (2, .int (nI (pq_cnt (m_sees σ k) i))), (0, .ref (ad 0)), (1, .int (nI k))] [] := by
      intro q
      induction q with
      | zero => intro i h1 h2; omega
      | succ q ih =>
        intro i h1 h2
        refine ux_iload_n C dX8_size_14 0 rfl ?_
        refine ux_aload_n C dX8_size_15 2 rfl ?_
        refine ux_get C flX8_size_57 0 rfl rfl rfl dX8_size_16 ?_
        refine ux_icmp_ge C 45 dX8_size_19 (by decide) (fun hc => ?_) (fun hc => ?_)
        · have hc := (nI_leI (by omega) (by omega)).mp hc
          have e : i = σ.2.1 0 := by omega
          subst e
          refine ux_iload_n C dX8_size_45 1 rfl ?_
          exact ux_iret C dX8_size_46 (⟨hu.symm, rfl⟩)
        · have hc := mt (nI_leI (by omega) (by omega)).mpr hc
          have hih := ih (i + 1) (by omega) (by omega)
          refine ux_iload_n C dX8_size_22 1 rfl ?_
          refine ux_aload_n C dX8_size_23 2 rfl ?_
          refine ux_iload_n C dX8_size_24 3 rfl ?_
          refine ux_iload_n C dX8_size_25 0 rfl ?_
          refine ux_callI C gkX8_size_97 (c_X8_sees l D ad cA A σ k i hF k2 (by omega)) rfl ⟨rfl, rfl⟩ ⟨(Nat.le_of_ble_eq_true rfl), (Nat.le_of_ble_eq_true rfl)⟩ ⟨Nat.le_refl _, Nat.le_refl _⟩ 0 rfl rfl rfl rfl (Nat.le_of_ble_eq_true rfl) dX8_size_26 (fun r σ1 hr => ?_)
          obtain ⟨rfl, rfl⟩ := hr
          refine ux_if_eq C 36 dX8_size_29 (by decide) (fun h5 => ?_) (fun h5 => ?_)
          · rw [pq_cnt_f (n := i) ((pq_b0 _).mp h5)] at hih
            refine ux_iconst C (nI 0) dX8_size_36 (by decide) ?_
            refine ux_iadd C dX8_size_37 ?_
            refine ux_top (nI _) (nI_add _ _) ?_
            refine ux_istore_n C [(2, _), (3, _), (0, _), (1, _)] dX8_size_38 rfl (by decide) rfl ?_
            refine ux_iinc C (nI (i + 1)) [(3, _), (2, _), (0, _), (1, _)] dX8_size_39 1 rfl (pq_inc i) (by decide) rfl ?_
            refine ux_goto C 14 dX8_size_42 (by decide) ?_
            exact hih
          · rw [pq_cnt_t (n := i) ((pq_bn0 _).mp h5)] at hih
            refine ux_iconst C (nI 1) dX8_size_32 (by decide) ?_
            refine ux_goto C 37 dX8_size_33 (by decide) ?_
            refine ux_iadd C dX8_size_37 ?_
            refine ux_top (nI _) (nI_add _ _) ?_
            refine ux_istore_n C [(2, _), (3, _), (0, _), (1, _)] dX8_size_38 rfl (by decide) rfl ?_
            refine ux_iinc C (nI (i + 1)) [(3, _), (2, _), (0, _), (1, _)] dX8_size_39 1 rfl (pq_inc i) (by decide) rfl ?_
            refine ux_goto C 14 dX8_size_42 (by decide) ?_
            exact hih
    refine ux_iconst C (nI 0) dX8_size_10 (by decide) ?_
    refine ux_istore_n C [(2, _), (0, _), (1, _)] dX8_size_11 rfl (by decide) rfl ?_
    refine ux_iconst C (nI 0) dX8_size_12 (by decide) ?_
    refine ux_istore_n C [(3, _), (2, _), (0, _), (1, _)] dX8_size_13 rfl (by decide) rfl ?_
    exact loop (σ.2.1 0 + 1) 0 (by omega) (by omega)
  · have h := (pq_b0 _).mp h
    refine ux_iconst C ((-1 : Int32)) dX8_size_8 (by decide) ?_
    exact ux_iret C dX8_size_9 (⟨(if_neg (by rw [h]; decide)).symm, rfl⟩)
set_option maxHeartbeats 4000000 in
set_option maxRecDepth 100000 in
theorem c_X8_next (l : Launch) (D : va_G) (ad : Nat → Nat) (cA : Nat → ClassId) (A : Nat → Prop) (σ : ST) (t key : Int32) (hF : mF σ) (hk : σ.2.1 0 ≤ 520) : ux_L l D vwCl (tyM cA) (wM ad cA) A yX8_next wsX8_next (ux_rm 2) [.ref (ad 0), .int t, .int key] σ (fun r σ' => r = m_next σ t key ∧ σ = σ') := by
  refine ux_ofL (cc := cX8_next) (maxL := 6) (ret := (some .long)) (Ts := wsX8_next) (lv := [(0, .ref (ad 0)), (1, .int t), (2, .int key)]) (by decide) rfl (fun _ h => h) (Nat.le_of_ble_eq_true rfl) rfl ?_
  intro p e s m below meth c C
  have hF0 := hF.1
  refine ux_aload_n C dX8_next_0 0 rfl ?_
  refine ux_iload_n C dX8_next_1 1 rfl ?_
  refine ux_callI C gkX8_next_120 (c_X8_isThere l D ad cA A σ t hF0) rfl ⟨rfl, rfl⟩ ⟨(Nat.le_of_ble_eq_true rfl), (Nat.le_of_ble_eq_true rfl)⟩ ⟨Nat.le_refl _, Nat.le_refl _⟩ 0 rfl rfl rfl rfl (Nat.le_of_ble_eq_true rfl) dX8_next_2 (fun r σ1 hr => ?_)
  obtain ⟨rfl, rfl⟩ := hr
  refine ux_if_ne C 12 dX8_next_5 (by decide) (fun h => ?_) (fun h => ?_)
  · have h := (pq_bn0 _).mp h
    obtain ⟨k, k2, rfl, k3⟩ := (m_asked_iff hF).mp h
    have hcl := nI_clamp (Nat.lt_of_le_of_lt (Nat.le_trans k2 hF.1) (show 150 < 2 ^ 31 by decide))
    have hu : m_next σ (nI k) key = m_nx σ k key (σ.2.1 0) := by rw [m_next, if_pos h, hcl]
    have loop : ∀ (q i : Nat), σ.2.1 0 + 1 ≤ i + q → i ≤ σ.2.1 0 → ux_V p l e (ux_rm 2) s m ([.ref (ad 0), .int (nI k), .int key] : List Value).toArray below meth c (MQ below (va_Ql (fun r σ' => r = m_next σ (nI k) key ∧ σ = σ') (fun σ' tt => va_P D vwCl (wM ad cA σ') tt.heap) A) ([.ref (ad 0), .int (nI k), .int key] : List Value).toArray s 0 0 A) 6 D vwCl (wM ad cA) A 0 0 σ 19 [(5, .int (nI i)), (3, .long (m_nx σ k key i)), (0, .ref (ad 0)), (1, .int (nI k)), (2, .int key)] [] := by
      intro q
      induction q with
      | zero => intro i h1 h2; omega
      | succ q ih =>
        intro i h1 h2
        refine ux_iload C dX8_next_19 0 rfl ?_
        refine ux_aload_n C dX8_next_21 2 rfl ?_
        refine ux_get C flX8_next_57 0 rfl rfl rfl dX8_next_22 ?_
        refine ux_icmp_ge C 81 dX8_next_25 (by decide) (fun hc => ?_) (fun hc => ?_)
        · have hc := (nI_leI (by omega) (by omega)).mp hc
          have e : i = σ.2.1 0 := by omega
          subst e
          refine ux_lload_n C dX8_next_81 1 rfl ?_
          exact ux_lret C dX8_next_82 (⟨hu.symm, rfl⟩)
        · have hc := mt (nI_leI (by omega) (by omega)).mpr hc
          have hih := ih (i + 1) (by omega) (by omega)
          simp only [m_nx] at hih
          refine ux_aload_n C dX8_next_28 2 rfl ?_
          refine ux_get C flX8_next_7 0 rfl rfl rfl dX8_next_29 ?_
          refine ux_iload C dX8_next_32 0 rfl ?_
          refine ux_iald C 1 0 (i) rfl rfl (rfl) (by omega) (by decide) dX8_next_34 ?_
          refine ux_iload_n C dX8_next_35 4 rfl ?_
          refine ux_icmp_le C 73 dX8_next_36 (by decide) (fun h4 => ?_) (fun h4 => ?_)
          · rw [if_neg (by rw [decide_eq_false (Int32.not_lt.mpr h4)]; simp)] at hih
            refine ux_lload_n C dX8_next_73 1 rfl ?_
            refine ux_lstore_n C [(3, _), (5, _), (0, _), (1, _), (2, _)] dX8_next_74 rfl (by decide) rfl ?_
            refine ux_iinc C (nI (i + 1)) [(5, _), (3, _), (0, _), (1, _), (2, _)] dX8_next_75 1 rfl (pq_inc i) (by decide) rfl ?_
            refine ux_goto C 19 dX8_next_78 (by decide) ?_
            exact hih
          · have h4 := Int32.not_le.mp h4
            refine ux_aload_n C dX8_next_39 2 rfl ?_
            refine ux_get C flX8_next_7 0 rfl rfl rfl dX8_next_40 ?_
            refine ux_iload C dX8_next_43 0 rfl ?_
            refine ux_iald C 1 0 (i) rfl rfl (rfl) (by omega) (by decide) dX8_next_45 ?_
            refine ux_i2l C dX8_next_46 ?_
            refine ux_lload_n C dX8_next_47 1 rfl ?_
            refine ux_lcmp C dX8_next_48 ?_
            refine ux_if_ge C 73 dX8_next_49 (by decide) (fun h5 => ?_) (fun h5 => ?_)
            · have h5 : ¬ (σ.1 0 i).toInt64 < m_nx σ k key i := fun q => Int64.not_lt.mpr ((lg_cmp_ge _ _).mp h5) q
              rw [if_neg (by rw [decide_eq_false h5]; simp)] at hih
              refine ux_lload_n C dX8_next_73 1 rfl ?_
              refine ux_lstore_n C [(3, _), (5, _), (0, _), (1, _), (2, _)] dX8_next_74 rfl (by decide) rfl ?_
              refine ux_iinc C (nI (i + 1)) [(5, _), (3, _), (0, _), (1, _), (2, _)] dX8_next_75 1 rfl (pq_inc i) (by decide) rfl ?_
              refine ux_goto C 19 dX8_next_78 (by decide) ?_
              exact hih
            · have h5 : (σ.1 0 i).toInt64 < m_nx σ k key i := Int64.not_le.mp (mt (lg_cmp_ge _ _).mpr h5)
              refine ux_aload_n C dX8_next_52 2 rfl ?_
              refine ux_iload_n C dX8_next_53 3 rfl ?_
              refine ux_iload C dX8_next_54 0 rfl ?_
              refine ux_callI C gkX8_next_97 (c_X8_sees l D ad cA A σ k i hF k2 (by omega)) rfl ⟨rfl, rfl⟩ ⟨(Nat.le_of_ble_eq_true rfl), (Nat.le_of_ble_eq_true rfl)⟩ ⟨Nat.le_refl _, Nat.le_refl _⟩ 0 rfl rfl rfl rfl (Nat.le_of_ble_eq_true rfl) dX8_next_56 (fun r σ1 hr => ?_)
              obtain ⟨rfl, rfl⟩ := hr
              refine ux_if_eq C 73 dX8_next_59 (by decide) (fun h6 => ?_) (fun h6 => ?_)
              · rw [if_neg (by rw [(pq_b0 _).mp h6]; simp)] at hih
                refine ux_lload_n C dX8_next_73 1 rfl ?_
                refine ux_lstore_n C [(3, _), (5, _), (0, _), (1, _), (2, _)] dX8_next_74 rfl (by decide) rfl ?_
                refine ux_iinc C (nI (i + 1)) [(5, _), (3, _), (0, _), (1, _), (2, _)] dX8_next_75 1 rfl (pq_inc i) (by decide) rfl ?_
                refine ux_goto C 19 dX8_next_78 (by decide) ?_
                exact hih
              · rw [if_pos (by rw [(pq_bn0 _).mp h6, decide_eq_true h5, decide_eq_true h4]; rfl)] at hih
                refine ux_aload_n C dX8_next_62 2 rfl ?_
                refine ux_get C flX8_next_7 0 rfl rfl rfl dX8_next_63 ?_
                refine ux_iload C dX8_next_66 0 rfl ?_
                refine ux_iald C 1 0 (i) rfl rfl (rfl) (by omega) (by decide) dX8_next_68 ?_
                refine ux_i2l C dX8_next_69 ?_
                refine ux_goto C 74 dX8_next_70 (by decide) ?_
                refine ux_lstore_n C [(3, _), (5, _), (0, _), (1, _), (2, _)] dX8_next_74 rfl (by decide) rfl ?_
                refine ux_iinc C (nI (i + 1)) [(5, _), (3, _), (0, _), (1, _), (2, _)] dX8_next_75 1 rfl (pq_inc i) (by decide) rfl ?_
                refine ux_goto C 19 dX8_next_78 (by decide) ?_
                exact hih
    refine ux_ldc2 C (1099511627776 : Int64) (by decide +kernel) dX8_next_12 ?_
    refine ux_lstore_n C [(3, _), (0, _), (1, _), (2, _)] dX8_next_15 rfl (by decide) rfl ?_
    refine ux_iconst C (nI 0) dX8_next_16 (by decide) ?_
    refine ux_istore C [(5, _), (3, _), (0, _), (1, _), (2, _)] dX8_next_17 (by decide) rfl ?_
    exact loop (σ.2.1 0 + 1) 0 (by omega) (by omega)
  · have h := (pq_b0 _).mp h
    refine ux_ldc2 C (4398046511104 : Int64) (by decide +kernel) dX8_next_8 ?_
    exact ux_lret C dX8_next_11 (⟨(if_neg (by rw [h]; decide)).symm, rfl⟩)
set_option maxHeartbeats 4000000 in
set_option maxRecDepth 100000 in
theorem c_X8_sum (l : Launch) (D : va_G) (ad : Nat → Nat) (cA : Nat → ClassId) (A : Nat → Prop) (σ : ST) (t lo hi : Int32) (hF : mF σ) (hk : σ.2.1 0 ≤ 520) : ux_L l D vwCl (tyM cA) (wM ad cA) A yX8_sum wsX8_sum (ux_rm 2) [.ref (ad 0), .int t, .int lo, .int hi] σ (fun r σ' => r = m_sum σ t lo hi ∧ σ = σ') := by
  refine ux_ofL (cc := cX8_sum) (maxL := 7) (ret := (some .long)) (Ts := wsX8_sum) (lv := [(0, .ref (ad 0)), (1, .int t), (2, .int lo), (3, .int hi)]) (by decide) rfl (fun _ h => h) (Nat.le_of_ble_eq_true rfl) rfl ?_
  intro p e s m below meth c C
  have hF0 := hF.1
  refine ux_aload_n C dX8_sum_0 0 rfl ?_
  refine ux_iload_n C dX8_sum_1 1 rfl ?_
  refine ux_callI C gkX8_sum_120 (c_X8_isThere l D ad cA A σ t hF0) rfl ⟨rfl, rfl⟩ ⟨(Nat.le_of_ble_eq_true rfl), (Nat.le_of_ble_eq_true rfl)⟩ ⟨Nat.le_refl _, Nat.le_refl _⟩ 0 rfl rfl rfl rfl (Nat.le_of_ble_eq_true rfl) dX8_sum_2 (fun r σ1 hr => ?_)
  obtain ⟨rfl, rfl⟩ := hr
  refine ux_if_ne C 12 dX8_sum_5 (by decide) (fun h => ?_) (fun h => ?_)
  · have h := (pq_bn0 _).mp h
    obtain ⟨k, k2, rfl, k3⟩ := (m_asked_iff hF).mp h
    have hcl := nI_clamp (Nat.lt_of_le_of_lt (Nat.le_trans k2 hF.1) (show 150 < 2 ^ 31 by decide))
    have hu : m_sum σ (nI k) lo hi = m_sm σ k lo hi (σ.2.1 0) := by rw [m_sum, if_pos h, hcl]
    have loop : ∀ (q i : Nat), σ.2.1 0 + 1 ≤ i + q → i ≤ σ.2.1 0 → ux_V p l e (ux_rm 2) s m ([.ref (ad 0), .int (nI k), .int lo, .int hi] : List Value).toArray below meth c (MQ below (va_Ql (fun r σ' => r = m_sum σ (nI k) lo hi ∧ σ = σ') (fun σ' tt => va_P D vwCl (wM ad cA σ') tt.heap) A) ([.ref (ad 0), .int (nI k), .int lo, .int hi] : List Value).toArray s 0 0 A) 7 D vwCl (wM ad cA) A 0 0 σ 18 [(6, .int (nI i)), (4, .long (m_sm σ k lo hi i)), (0, .ref (ad 0)), (1, .int (nI k)), (2, .int lo), (3, .int hi)] [] := by
      intro q
      induction q with
      | zero => intro i h1 h2; omega
      | succ q ih =>
        intro i h1 h2
        refine ux_iload C dX8_sum_18 0 rfl ?_
        refine ux_aload_n C dX8_sum_20 2 rfl ?_
        refine ux_get C flX8_sum_57 0 rfl rfl rfl dX8_sum_21 ?_
        refine ux_icmp_ge C 94 dX8_sum_24 (by decide) (fun hc => ?_) (fun hc => ?_)
        · have hc := (nI_leI (by omega) (by omega)).mp hc
          have e : i = σ.2.1 0 := by omega
          subst e
          refine ux_lload C dX8_sum_94 1 rfl ?_
          exact ux_lret C dX8_sum_96 (⟨hu.symm, rfl⟩)
        · have hc := mt (nI_leI (by omega) (by omega)).mpr hc
          have hih := ih (i + 1) (by omega) (by omega)
          simp only [m_sm] at hih
          refine ux_lload C dX8_sum_27 1 rfl ?_
          refine ux_aload_n C dX8_sum_29 2 rfl ?_
          refine ux_get C flX8_sum_7 0 rfl rfl rfl dX8_sum_30 ?_
          refine ux_iload C dX8_sum_33 0 rfl ?_
          refine ux_iald C 1 0 (i) rfl rfl (rfl) (by omega) (by decide) dX8_sum_35 ?_
          refine ux_iload_n C dX8_sum_36 4 rfl ?_
          refine ux_icmp_lt C 84 dX8_sum_37 (by decide) (fun h3 => ?_) (fun h3 => ?_)
          · rw [if_neg (by rw [decide_eq_true h3]; simp)] at hih
            refine ux_lconst C ((0 : Int64)) dX8_sum_84 (by decide) ?_
            refine ux_ladd C dX8_sum_85 ?_
            refine ux_lstore C [(4, _), (6, _), (0, _), (1, _), (2, _), (3, _)] dX8_sum_86 (by decide) rfl ?_
            refine ux_iinc C (nI (i + 1)) [(6, _), (4, _), (0, _), (1, _), (2, _), (3, _)] dX8_sum_88 1 rfl (pq_inc i) (by decide) rfl ?_
            refine ux_goto C 18 dX8_sum_91 (by decide) ?_
            exact hih
          · refine ux_aload_n C dX8_sum_40 2 rfl ?_
            refine ux_get C flX8_sum_7 0 rfl rfl rfl dX8_sum_41 ?_
            refine ux_iload C dX8_sum_44 0 rfl ?_
            refine ux_iald C 1 0 (i) rfl rfl (rfl) (by omega) (by decide) dX8_sum_46 ?_
            refine ux_iload_n C dX8_sum_47 5 rfl ?_
            refine ux_icmp_gt C 84 dX8_sum_48 (by decide) (fun h4 => ?_) (fun h4 => ?_)
            · rw [if_neg (by rw [decide_eq_true h4]; simp)] at hih
              refine ux_lconst C ((0 : Int64)) dX8_sum_84 (by decide) ?_
              refine ux_ladd C dX8_sum_85 ?_
              refine ux_lstore C [(4, _), (6, _), (0, _), (1, _), (2, _), (3, _)] dX8_sum_86 (by decide) rfl ?_
              refine ux_iinc C (nI (i + 1)) [(6, _), (4, _), (0, _), (1, _), (2, _), (3, _)] dX8_sum_88 1 rfl (pq_inc i) (by decide) rfl ?_
              refine ux_goto C 18 dX8_sum_91 (by decide) ?_
              exact hih
            · refine ux_aload_n C dX8_sum_51 2 rfl ?_
              refine ux_iload_n C dX8_sum_52 3 rfl ?_
              refine ux_iload C dX8_sum_53 0 rfl ?_
              refine ux_callI C gkX8_sum_97 (c_X8_sees l D ad cA A σ k i hF k2 (by omega)) rfl ⟨rfl, rfl⟩ ⟨(Nat.le_of_ble_eq_true rfl), (Nat.le_of_ble_eq_true rfl)⟩ ⟨Nat.le_refl _, Nat.le_refl _⟩ 0 rfl rfl rfl rfl (Nat.le_of_ble_eq_true rfl) dX8_sum_55 (fun r σ1 hr => ?_)
              obtain ⟨rfl, rfl⟩ := hr
              refine ux_if_eq C 84 dX8_sum_58 (by decide) (fun h5 => ?_) (fun h5 => ?_)
              · rw [if_neg (by rw [(pq_b0 _).mp h5]; simp)] at hih
                refine ux_lconst C ((0 : Int64)) dX8_sum_84 (by decide) ?_
                refine ux_ladd C dX8_sum_85 ?_
                refine ux_lstore C [(4, _), (6, _), (0, _), (1, _), (2, _), (3, _)] dX8_sum_86 (by decide) rfl ?_
                refine ux_iinc C (nI (i + 1)) [(6, _), (4, _), (0, _), (1, _), (2, _), (3, _)] dX8_sum_88 1 rfl (pq_inc i) (by decide) rfl ?_
                refine ux_goto C 18 dX8_sum_91 (by decide) ?_
                exact hih
              · have h5 := (pq_bn0 _).mp h5
                have hle := m_top_le (mF_dn hF) (m_wr σ i) k k2
                have hle : m_src σ k i ≤ k := hle
                rw [if_pos (by rw [h5, decide_eq_false h3, decide_eq_false h4]; rfl)] at hih
                refine ux_aload_n C dX8_sum_61 2 rfl ?_
                refine ux_get C flX8_sum_18 0 rfl rfl rfl dX8_sum_62 ?_
                refine ux_sipush C (nI 520) dX8_sum_65 (by decide) ?_
                refine ux_aload_n C dX8_sum_68 2 rfl ?_
                refine ux_iload_n C dX8_sum_69 3 rfl ?_
                refine ux_iload C dX8_sum_70 0 rfl ?_
                refine ux_callI C gkX8_sum_64 (c_X8_source l D ad cA A σ k i hF k2 (by omega)) rfl ⟨rfl, rfl⟩ ⟨(Nat.le_of_ble_eq_true rfl), (Nat.le_of_ble_eq_true rfl)⟩ ⟨Nat.le_refl _, Nat.le_refl _⟩ 0 rfl rfl rfl rfl (Nat.le_of_ble_eq_true rfl) dX8_sum_72 (fun r σ1 hr => ?_)
                obtain ⟨hr, rfl⟩ := hr
                rw [if_pos h5] at hr
                subst hr
                refine ux_imul C dX8_sum_75 ?_
                refine ux_iload C dX8_sum_76 0 rfl ?_
                refine ux_iadd C dX8_sum_78 ?_
                refine ux_top (nI (520 * m_src σ k i + i)) (by rw [pk_mul, nI_add]) ?_
                refine ux_iald C 3 2 (_) rfl rfl (rfl) (by omega) (by decide) dX8_sum_79 ?_
                refine ux_i2l C dX8_sum_80 ?_
                refine ux_goto C 85 dX8_sum_81 (by decide) ?_
                refine ux_ladd C dX8_sum_85 ?_
                refine ux_lstore C [(4, _), (6, _), (0, _), (1, _), (2, _), (3, _)] dX8_sum_86 (by decide) rfl ?_
                refine ux_iinc C (nI (i + 1)) [(6, _), (4, _), (0, _), (1, _), (2, _), (3, _)] dX8_sum_88 1 rfl (pq_inc i) (by decide) rfl ?_
                refine ux_goto C 18 dX8_sum_91 (by decide) ?_
                exact hih
    refine ux_lconst C ((0 : Int64)) dX8_sum_12 (by decide) ?_
    refine ux_lstore C [(4, _), (0, _), (1, _), (2, _), (3, _)] dX8_sum_13 (by decide) rfl ?_
    refine ux_iconst C (nI 0) dX8_sum_15 (by decide) ?_
    refine ux_istore C [(6, _), (4, _), (0, _), (1, _), (2, _), (3, _)] dX8_sum_16 (by decide) rfl ?_
    exact loop (σ.2.1 0 + 1) 0 (by omega) (by omega)
  · have h := (pq_b0 _).mp h
    refine ux_ldc2 C (4398046511104 : Int64) (by decide +kernel) dX8_sum_8 ?_
    exact ux_lret C dX8_sum_11 (⟨(if_neg (by rw [h]; decide)).symm, rfl⟩)

