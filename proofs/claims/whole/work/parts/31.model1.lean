theorem hiX8_isActive_8 : ∀ w ∈ wsX80, w ∈ wsX8_isActive := by decide +kernel
theorem flX8_isActive_53 : ux_F wsX8_isActive RX8 53 RX8 TX8 16 7 := ⟨hiX8_isActive_8, by decide, by decide +kernel⟩
theorem flX8_isActive_27 : ux_F wsX8_isActive RX8 27 RX8 TX8 16 6 := ⟨hiX8_isActive_8, by decide, by decide +kernel⟩
theorem hiX8_find_8 : ∀ w ∈ wsX80, w ∈ wsX8_find := by decide +kernel
theorem flX8_find_57 : ux_F wsX8_find RX8 57 RX8 TX8 16 1 := ⟨hiX8_find_8, by decide, by decide +kernel⟩
theorem flX8_find_7 : ux_F wsX8_find RX8 7 RX8 TX8 16 0 := ⟨hiX8_find_8, by decide, by decide +kernel⟩
theorem hiX8_number_8 : ∀ w ∈ wsX80, w ∈ wsX8_number := by decide +kernel
theorem flX8_number_7 : ux_F wsX8_number RX8 7 RX8 TX8 16 0 := ⟨hiX8_number_8, by decide, by decide +kernel⟩
theorem flX8_number_57 : ux_F wsX8_number RX8 57 RX8 TX8 16 1 := ⟨hiX8_number_8, by decide, by decide +kernel⟩
theorem hiX8_source_8 : ∀ w ∈ wsX80, w ∈ wsX8_source := by decide +kernel
theorem flX8_source_14 : ux_F wsX8_source RX8 14 RX8 TX8 16 2 := ⟨hiX8_source_8, by decide, by decide +kernel⟩
theorem flX8_source_24 : ux_F wsX8_source RX8 24 RX8 TX8 16 5 := ⟨hiX8_source_8, by decide, by decide +kernel⟩
theorem hiX8_isAncestor_8 : ∀ w ∈ wsX80, w ∈ wsX8_isAncestor := by decide +kernel
theorem flX8_isAncestor_24 : ux_F wsX8_isAncestor RX8 24 RX8 TX8 16 5 := ⟨hiX8_isAncestor_8, by decide, by decide +kernel⟩
theorem hiX8_isInWay_8 : ∀ w ∈ wsX80, w ∈ wsX8_isInWay := by decide +kernel
theorem flX8_isInWay_21 : ux_F wsX8_isInWay RX8 21 RX8 TX8 16 4 := ⟨hiX8_isInWay_8, by decide, by decide +kernel⟩
theorem hiX8_first_8 : ∀ w ∈ wsX80, w ∈ wsX8_first := by decide +kernel
theorem flX8_first_53 : ux_F wsX8_first RX8 53 RX8 TX8 16 7 := ⟨hiX8_first_8, by decide, by decide +kernel⟩
theorem gkX8_isThere_68 : ux_G wsX8_isThere RX8 68 RX8 yX8_isActive wsX8_isActive 1 := ⟨gX8_isThere_X8_isActive, by decide +kernel⟩
theorem gkX8_number_60 : ux_G wsX8_number RX8 60 RX8 yX8_find wsX8_find 1 := ⟨gX8_number_X8_find, by decide +kernel⟩
theorem gkX8_sees_64 : ux_G wsX8_sees RX8 64 RX8 yX8_source wsX8_source 2 := ⟨gX8_sees_X8_source, by decide +kernel⟩
theorem gkX8_isInWay_68 : ux_G wsX8_isInWay RX8 68 RX8 yX8_isActive wsX8_isActive 1 := ⟨gX8_isInWay_X8_isActive, by decide +kernel⟩
theorem gkX8_isInWay_72 : ux_G wsX8_isInWay RX8 72 RX8 yX8_isAncestor wsX8_isAncestor 2 := ⟨gX8_isInWay_X8_isAncestor, by decide +kernel⟩
theorem gkX8_first_76 : ux_G wsX8_first RX8 76 RX8 yX8_isInWay wsX8_isInWay 4 := ⟨gX8_first_X8_isInWay, by decide +kernel⟩
set_option maxHeartbeats 4000000 in
set_option maxRecDepth 100000 in
theorem c_X8_isActive (l : Launch) (D : va_G) (ad : Nat → Nat) (cA : Nat → ClassId) (A : Nat → Prop) (σ : ST) (t : Int32) (hn : σ.2.1 1 ≤ 150) : ux_I l D vwCl (tyM cA) (wM ad cA) A yX8_isActive wsX8_isActive (ux_rm 0) [.ref (ad 0), .int t] σ (fun r σ' => r = pq_b (m_act σ t) ∧ σ = σ') := by
  refine ux_ofI (cc := cX8_isActive) (maxL := 2) (ret := (some .boolean)) (Ts := wsX8_isActive) (lv := [(0, .ref (ad 0)), (1, .int t)]) (by decide) rfl (fun _ h => h) (Nat.le_of_ble_eq_true rfl) rfl ?_
  intro p e s m below meth c C
  refine ux_iload_n C dX8_isActive_0 1 rfl ?_
  refine ux_if_le C 25 dX8_isActive_1 (by decide) (fun h1 => ?_) (fun h1 => ?_)
  · refine ux_iconst C ((0 : Int32)) dX8_isActive_25 (by decide) ?_
    exact ux_zret C dX8_isActive_26 rfl (⟨by rw [m_act, pq_act, pq_ex, decide_eq_false (fun q => pq_pos.mpr q h1)]; rfl, rfl⟩)
  · have h1 := pq_pos.mp h1
    refine ux_iload_n C dX8_isActive_4 1 rfl ?_
    refine ux_aload_n C dX8_isActive_5 0 rfl ?_
    refine ux_get C flX8_isActive_53 0 rfl rfl rfl dX8_isActive_6 ?_
    refine ux_icmp_gt C 25 dX8_isActive_9 (by decide) (fun h2 => ?_) (fun h2 => ?_)
    · refine ux_iconst C ((0 : Int32)) dX8_isActive_25 (by decide) ?_
      exact ux_zret C dX8_isActive_26 rfl (⟨by rw [m_act, pq_act, pq_ex, decide_eq_false (Int32.not_le.mpr h2)]; simp [pq_b], rfl⟩)
    · have h2 := Int32.not_lt.mp h2
      have hex : pq_ex (σ.2.1 1) t = true := by rw [pq_ex, decide_eq_true h1, decide_eq_true h2]; rfl
      obtain ⟨k, k1, k2, rfl⟩ := (pq_ex_iff (by omega)).mp hex
      refine ux_aload_n C dX8_isActive_12 0 rfl ?_
      refine ux_get C flX8_isActive_27 0 rfl rfl rfl dX8_isActive_13 ?_
      refine ux_iload_n C dX8_isActive_16 1 rfl ?_
      refine ux_iald C 6 5 (_) rfl rfl (rfl) (by omega) (by decide) dX8_isActive_17 ?_
      refine ux_if_ne C 25 dX8_isActive_18 (by decide) (fun h3 => ?_) (fun h3 => ?_)
      · refine ux_iconst C ((0 : Int32)) dX8_isActive_25 (by decide) ?_
        exact ux_zret C dX8_isActive_26 rfl (⟨by rw [m_act, pq_act, hex, nI_clamp (by omega), decide_eq_false h3]; rfl, rfl⟩)
      · refine ux_iconst C ((1 : Int32)) dX8_isActive_21 (by decide) ?_
        refine ux_goto C 26 dX8_isActive_22 (by decide) ?_
        exact ux_zret C dX8_isActive_26 rfl (⟨by rw [m_act, pq_act, hex, nI_clamp (by omega), decide_eq_true h3]; rfl, rfl⟩)
set_option maxHeartbeats 4000000 in
set_option maxRecDepth 100000 in
theorem c_X8_isThere (l : Launch) (D : va_G) (ad : Nat → Nat) (cA : Nat → ClassId) (A : Nat → Prop) (σ : ST) (t : Int32) (hn : σ.2.1 1 ≤ 150) : ux_I l D vwCl (tyM cA) (wM ad cA) A yX8_isThere wsX8_isThere (ux_rm 1) [.ref (ad 0), .int t] σ (fun r σ' => r = pq_b (decide (t = 0) || m_act σ t) ∧ σ = σ') := by
  refine ux_ofI (cc := cX8_isThere) (maxL := 2) (ret := (some .boolean)) (Ts := wsX8_isThere) (lv := [(0, .ref (ad 0)), (1, .int t)]) (by decide) rfl (fun _ h => h) (Nat.le_of_ble_eq_true rfl) rfl ?_
  intro p e s m below meth c C
  refine ux_iload_n C dX8_isThere_0 1 rfl ?_
  refine ux_if_eq C 12 dX8_isThere_1 (by decide) (fun h => ?_) (fun h => ?_)
  · refine ux_iconst C ((1 : Int32)) dX8_isThere_12 (by decide) ?_
    refine ux_goto C 17 dX8_isThere_13 (by decide) ?_
    exact ux_zret C dX8_isThere_17 rfl (⟨by rw [decide_eq_true h]; rfl, rfl⟩)
  · refine ux_aload_n C dX8_isThere_4 0 rfl ?_
    refine ux_iload_n C dX8_isThere_5 1 rfl ?_
    refine ux_callI C gkX8_isThere_68 (c_X8_isActive l D ad cA A σ t hn) rfl ⟨rfl, rfl⟩ ⟨(Nat.le_of_ble_eq_true rfl), (Nat.le_of_ble_eq_true rfl)⟩ ⟨Nat.le_refl _, Nat.le_refl _⟩ 0 rfl rfl rfl rfl (Nat.le_of_ble_eq_true rfl) dX8_isThere_6 (fun r σ1 hr => ?_)
    obtain ⟨rfl, rfl⟩ := hr
    refine ux_if_eq C 16 dX8_isThere_9 (by decide) (fun h2 => ?_) (fun h2 => ?_)
    · refine ux_iconst C ((0 : Int32)) dX8_isThere_16 (by decide) ?_
      exact ux_zret C dX8_isThere_17 rfl (⟨by rw [decide_eq_false h, (pq_b0 _).mp h2]; rfl, rfl⟩)
    · refine ux_iconst C ((1 : Int32)) dX8_isThere_12 (by decide) ?_
      refine ux_goto C 17 dX8_isThere_13 (by decide) ?_
      exact ux_zret C dX8_isThere_17 rfl (⟨by rw [decide_eq_false h, (pq_bn0 _).mp h2]; rfl, rfl⟩)
set_option maxHeartbeats 4000000 in
set_option maxRecDepth 100000 in
theorem c_X8_find (l : Launch) (D : va_G) (ad : Nat → Nat) (cA : Nat → ClassId) (A : Nat → Prop) (σ : ST) (key : Int32) (hk : σ.2.1 0 ≤ 520) : ux_I l D vwCl (tyM cA) (wM ad cA) A yX8_find wsX8_find (ux_rm 0) [.ref (ad 0), .int key] σ (fun r σ' => r = pq_o (m_find σ key) ∧ σ = σ') := by
  refine ux_ofI (cc := cX8_find) (maxL := 3) (ret := (some .int)) (Ts := wsX8_find) (lv := [(0, .ref (ad 0)), (1, .int key)]) (by decide) rfl (fun _ h => h) (Nat.le_of_ble_eq_true rfl) rfl ?_
  intro p e s m below meth c C
  have loop : ∀ (k i : Nat), σ.2.1 0 + 1 ≤ i + k → i ≤ σ.2.1 0 → (∀ j, j < i → decide (σ.1 0 j = key) = false) → ux_V p l e (ux_rm 0) s m ([.ref (ad 0), .int key] : List Value).toArray below meth c (MQ below (va_Qi (fun r σ' => r = pq_o (m_find σ key) ∧ σ = σ') (fun σ' t => va_P D vwCl (wM ad cA σ') t.heap) A) ([.ref (ad 0), .int key] : List Value).toArray s 0 0 A) 3 D vwCl (wM ad cA) A 0 0 σ 2 [(2, .int (nI i)), (0, .ref (ad 0)), (1, .int key)] [] := by
    intro k
    induction k with
    | zero => intro i h1 h2; omega
    | succ k ih =>
      intro i h1 h2 h3
      refine ux_iload_n C dX8_find_2 0 rfl ?_
      refine ux_aload_n C dX8_find_3 1 rfl ?_
      refine ux_get C flX8_find_57 0 rfl rfl rfl dX8_find_4 ?_
      refine ux_icmp_ge C 28 dX8_find_7 (by decide) (fun hc => ?_) (fun hc => ?_)
      · have hc := (nI_leI (by omega) (by omega)).mp hc
        have e : i = σ.2.1 0 := by omega
        subst e
        refine ux_iconst C ((-1 : Int32)) dX8_find_28 (by decide) ?_
        exact ux_iret C dX8_find_29 (⟨by rw [m_find, pq_fst_none.mpr h3]; rfl, rfl⟩)
      · have hc := mt (nI_leI (by omega) (by omega)).mpr hc
        refine ux_aload_n C dX8_find_10 1 rfl ?_
        refine ux_get C flX8_find_7 0 rfl rfl rfl dX8_find_11 ?_
        refine ux_iload_n C dX8_find_14 0 rfl ?_
        refine ux_iald C 1 0 (i) rfl rfl (rfl) (by omega) (by decide) dX8_find_15 ?_
        refine ux_iload_n C dX8_find_16 2 rfl ?_
        refine ux_icmp_ne C 22 dX8_find_17 (by decide) (fun he => ?_) (fun he => ?_)
        · refine ux_iinc C (nI (i + 1)) [(2, _), (0, _), (1, _)] dX8_find_22 0 rfl (pq_inc i) (by decide) rfl ?_
          refine ux_goto C 2 dX8_find_25 (by decide) ?_
          exact ih (i + 1) (by omega) (by omega) (fun j hj => by rcases Nat.lt_succ_iff_lt_or_eq.mp hj with h | h; exact h3 j h; subst h; exact decide_eq_false he)
        · refine ux_iload_n C dX8_find_20 0 rfl ?_
          exact ux_iret C dX8_find_21 (⟨by rw [m_find, pq_fst_some.mpr ⟨by omega, decide_eq_true he, h3⟩]; rfl, rfl⟩)
  refine ux_iconst C (nI 0) dX8_find_0 (by decide) ?_
  refine ux_istore_n C [(2, _), (0, _), (1, _)] dX8_find_1 rfl (by decide) rfl ?_
  exact loop (σ.2.1 0 + 1) 0 (by omega) (by omega) (fun j hj => by omega)
set_option maxHeartbeats 4000000 in
set_option maxRecDepth 100000 in
theorem c_X8_number (l : Launch) (D : va_G) (ad : Nat → Nat) (cA : Nat → ClassId) (A : Nat → Prop) (σ : ST) (key : Int32) (hk : σ.2.1 0 < 520) : ux_I l D vwCl (tyM cA) (wM ad cA) A yX8_number wsX8_number (ux_rm 1) [.ref (ad 0), .int key] σ (fun r σ' => r = nI (m_reg σ key).2 ∧ σ' = (m_reg σ key).1) := by
  refine ux_ofI (cc := cX8_number) (maxL := 3) (ret := (some .int)) (Ts := wsX8_number) (lv := [(0, .ref (ad 0)), (1, .int key)]) (by decide) rfl (fun _ h => h) (Nat.le_of_ble_eq_true rfl) rfl ?_
  intro p e s m below meth c C
  refine ux_aload_n C dX8_number_0 0 rfl ?_
  refine ux_iload_n C dX8_number_1 1 rfl ?_
  refine ux_callI C gkX8_number_60 (c_X8_find l D ad cA A σ key (by omega)) rfl ⟨rfl, rfl⟩ ⟨(Nat.le_of_ble_eq_true rfl), (Nat.le_of_ble_eq_true rfl)⟩ ⟨Nat.le_refl _, Nat.le_refl _⟩ 0 rfl rfl rfl rfl (Nat.le_of_ble_eq_true rfl) dX8_number_2 (fun r σ1 hr => ?_)
  obtain ⟨hr, rfl⟩ := hr
  cases hf : m_find σ key with
  | none =>
    rw [hf] at hr
    have hr : r = -1 := hr
    subst hr
    have hu : m_reg σ key = (sf (sa σ 0 (upd (σ.1 0) (σ.2.1 0) key)) 0 (σ.2.1 0 + 1), σ.2.1 0) := by rw [m_reg, hf]
    refine ux_istore_n C [(2, _), (0, _), (1, _)] dX8_number_5 rfl (by decide) rfl ?_
    refine ux_iload_n C dX8_number_6 0 rfl ?_
    refine ux_iconst C ((-1 : Int32)) dX8_number_7 (by decide) ?_
    refine ux_icmp_ne C 38 dX8_number_8 (by decide) (fun h => ?_) (fun h => ?_)
    · exact absurd rfl h
    · refine ux_aload_n C dX8_number_11 1 rfl ?_
      refine ux_get C flX8_number_7 0 rfl rfl rfl dX8_number_12 ?_
      refine ux_aload_n C dX8_number_15 1 rfl ?_
      refine ux_get C flX8_number_57 0 rfl rfl rfl dX8_number_16 ?_
      refine ux_iload_n C dX8_number_19 2 rfl ?_
      refine ux_iast C 1 0 (σ.2.1 0) rfl rfl (rfl) (by omega) (by decide) dX8_number_20 _ (awM_0 _ _ _ _) ?_
      refine ux_aload_n C dX8_number_21 1 rfl ?_
      refine ux_dup C dX8_number_22 rfl ?_
      refine ux_get C flX8_number_57 0 rfl rfl rfl dX8_number_23 ?_
      refine ux_iconst C ((1 : Int32)) dX8_number_26 (by decide) ?_
      refine ux_iadd C dX8_number_27 ?_
      refine ux_top (nI (σ.2.1 0 + 1)) (nI_1 _) ?_
      refine ux_putI C flX8_number_57 fiM_0 0 rfl rfl (Nat.le_of_ble_eq_true rfl) dX8_number_28 _ (fwM_0 _ _ _ _) ?_
      refine ux_aload_n C dX8_number_31 1 rfl ?_
      refine ux_get C flX8_number_57 0 rfl rfl rfl dX8_number_32 ?_
      refine ux_iconst C ((1 : Int32)) dX8_number_35 (by decide) ?_
      refine ux_isub C dX8_number_36 ?_
      refine ux_top (nI (σ.2.1 0)) (nI_pred _) ?_
      exact ux_iret C dX8_number_37 (by rw [hu]; exact ⟨rfl, rfl⟩)
  | some i =>
    rw [hf] at hr
    have hr : r = nI i := hr
    subst hr
    have hi := (pq_fst_some.mp hf).1
    have hu : m_reg σ key = (σ, i) := by rw [m_reg, hf]
    refine ux_istore_n C [(2, _), (0, _), (1, _)] dX8_number_5 rfl (by decide) rfl ?_
    refine ux_iload_n C dX8_number_6 0 rfl ?_
    refine ux_iconst C ((-1 : Int32)) dX8_number_7 (by decide) ?_
    refine ux_icmp_ne C 38 dX8_number_8 (by decide) (fun h => ?_) (fun h => ?_)
    · refine ux_iload_n C dX8_number_38 0 rfl ?_
      exact ux_iret C dX8_number_39 (by rw [hu]; exact ⟨rfl, rfl⟩)
    · exact absurd h (pq_nI_m1 (by omega))
set_option maxHeartbeats 4000000 in
set_option maxRecDepth 100000 in
theorem c_X8_source (l : Launch) (D : va_G) (ad : Nat → Nat) (cA : Nat → ClassId) (A : Nat → Prop) (σ : ST) (a w : Nat) (hF : mF σ) (ha : a ≤ σ.2.1 1) (hw : w < 520) : ux_I l D vwCl (tyM cA) (wM ad cA) A yX8_source wsX8_source (ux_rm 0) [.ref (ad 0), .int (nI a), .int (nI w)] σ (fun r σ' => r = (if m_sees σ a w = true then nI (m_src σ a w) else -1) ∧ σ = σ') := by
  refine ux_ofI (cc := cX8_source) (maxL := 4) (ret := (some .int)) (Ts := wsX8_source) (lv := [(0, .ref (ad 0)), (1, .int (nI a)), (2, .int (nI w))]) (by decide) rfl (fun _ h => h) (Nat.le_of_ble_eq_true rfl) rfl ?_
  intro p e s m below meth c C
  have hF0 := hF.1
  have fin : ∀ u, u ≤ σ.2.1 1 → m_src σ a w = u → ux_V p l e (ux_rm 0) s m ([.ref (ad 0), .int (nI a), .int (nI w)] : List Value).toArray below meth c (MQ below (va_Qi (fun r σ' => r = (if m_sees σ a w = true then nI (m_src σ a w) else -1) ∧ σ = σ') (fun σ' t => va_P D vwCl (wM ad cA σ') t.heap) A) ([.ref (ad 0), .int (nI a), .int (nI w)] : List Value).toArray s 0 0 A) 4 D vwCl (wM ad cA) A 0 0 σ 31 [(3, .int (nI u)), (0, .ref (ad 0)), (1, .int (nI a)), (2, .int (nI w))] [] := by
    intro u hu he
    refine ux_aload_n C dX8_source_31 1 rfl ?_
    refine ux_get C flX8_source_14 0 rfl rfl rfl dX8_source_32 ?_
    refine ux_sipush C (nI 520) dX8_source_35 (by decide) ?_
    refine ux_iload_n C dX8_source_38 0 rfl ?_
    refine ux_imul C dX8_source_39 ?_
    refine ux_iload_n C dX8_source_40 3 rfl ?_
    refine ux_iadd C dX8_source_41 ?_
    refine ux_top (nI (520 * u + w)) (by rw [pk_mul, nI_add]) ?_
    refine ux_bald C 2 1 (_) rfl rfl (rfl) (by omega) (by decide) dX8_source_42 ?_
    refine ux_iconst C ((1 : Int32)) dX8_source_43 (by decide) ?_
    refine ux_icmp_ne C 51 dX8_source_44 (by decide) (fun h => ?_) (fun h => ?_)
    · refine ux_iconst C ((-1 : Int32)) dX8_source_51 (by decide) ?_
      exact ux_iret C dX8_source_52 (⟨by rw [m_sees, he, decide_eq_false h]; rfl, rfl⟩)
    · refine ux_iload_n C dX8_source_47 0 rfl ?_
      refine ux_goto C 52 dX8_source_48 (by decide) ?_
      exact ux_iret C dX8_source_52 (⟨by rw [m_sees, he, decide_eq_true h]; rfl, rfl⟩)
  have loop : ∀ (k u : Nat), u < k → u ≤ σ.2.1 1 → m_src σ a w = m_src σ u w → ux_V p l e (ux_rm 0) s m ([.ref (ad 0), .int (nI a), .int (nI w)] : List Value).toArray below meth c (MQ below (va_Qi (fun r σ' => r = (if m_sees σ a w = true then nI (m_src σ a w) else -1) ∧ σ = σ') (fun σ' t => va_P D vwCl (wM ad cA σ') t.heap) A) ([.ref (ad 0), .int (nI a), .int (nI w)] : List Value).toArray s 0 0 A) 4 D vwCl (wM ad cA) A 0 0 σ 2 [(3, .int (nI u)), (0, .ref (ad 0)), (1, .int (nI a)), (2, .int (nI w))] [] := by
    intro k
    induction k with
    | zero => intro u h1; omega
    | succ k ih =>
      intro u h1 h2 h3
      refine ux_iload_n C dX8_source_2 0 rfl ?_
      refine ux_if_eq C 31 dX8_source_3 (by decide) (fun hc => ?_) (fun hc => ?_)
      · have hc : u = 0 := (nI_eq (b := 0) (by omega) (by omega)).mp hc
        subst hc
        exact fin 0 (by omega) h3
      · have hc : u ≠ 0 := fun e => hc (by rw [e]; rfl)
        have hq := hF.2 u (by omega) h2
        refine ux_aload_n C dX8_source_6 1 rfl ?_
        refine ux_get C flX8_source_14 0 rfl rfl rfl dX8_source_7 ?_
        refine ux_sipush C (nI 520) dX8_source_10 (by decide) ?_
        refine ux_iload_n C dX8_source_13 0 rfl ?_
        refine ux_imul C dX8_source_14 ?_
        refine ux_iload_n C dX8_source_15 3 rfl ?_
        refine ux_iadd C dX8_source_16 ?_
        refine ux_top (nI (520 * u + w)) (by rw [pk_mul, nI_add]) ?_
        refine ux_bald C 2 1 (_) rfl rfl (rfl) (by omega) (by decide) dX8_source_17 ?_
        refine ux_if_ne C 31 dX8_source_18 (by decide) (fun h4 => ?_) (fun h4 => ?_)
        · exact fin u h2 (h3.trans (m_top_t (mF_dn hF) h2 (by rw [m_wr, decide_eq_false h4]; rfl)))
        · refine ux_aload_n C dX8_source_21 1 rfl ?_
          refine ux_get C flX8_source_24 0 rfl rfl rfl dX8_source_22 ?_
          refine ux_iload_n C dX8_source_25 0 rfl ?_
          refine ux_iald C 5 4 (u) rfl rfl (rfl) (by omega) (by decide) dX8_source_26 ?_
          refine ux_top _ hq.1 ?_
          refine ux_istore_n C [(3, _), (0, _), (1, _), (2, _)] dX8_source_27 rfl (by decide) rfl ?_
          refine ux_goto C 2 dX8_source_28 (by decide) ?_
          exact ih (mQ σ u) (by omega) (by omega) (h3.trans (m_top_f (mF_dn hF) (by omega) h2 (by rw [m_wr, decide_eq_true h4]; rfl)))
  refine ux_iload_n C dX8_source_0 1 rfl ?_
  refine ux_istore_n C [(3, _), (0, _), (1, _), (2, _)] dX8_source_1 rfl (by decide) rfl ?_
  exact loop (a + 1) a (by omega) ha rfl
set_option maxHeartbeats 4000000 in
set_option maxRecDepth 100000 in
theorem c_X8_sees (l : Launch) (D : va_G) (ad : Nat → Nat) (cA : Nat → ClassId) (A : Nat → Prop) (σ : ST) (a w : Nat) (hF : mF σ) (ha : a ≤ σ.2.1 1) (hw : w < 520) : ux_I l D vwCl (tyM cA) (wM ad cA) A yX8_sees wsX8_sees (ux_rm 1) [.ref (ad 0), .int (nI a), .int (nI w)] σ (fun r σ' => r = pq_b (m_sees σ a w) ∧ σ = σ') := by
  refine ux_ofI (cc := cX8_sees) (maxL := 3) (ret := (some .boolean)) (Ts := wsX8_sees) (lv := [(0, .ref (ad 0)), (1, .int (nI a)), (2, .int (nI w))]) (by decide) rfl (fun _ h => h) (Nat.le_of_ble_eq_true rfl) rfl ?_
  intro p e s m below meth c C
  have hF0 := hF.1
  have hle := m_top_le (mF_dn hF) (m_wr σ w) a ha
  refine ux_aload_n C dX8_sees_0 0 rfl ?_
  refine ux_iload_n C dX8_sees_1 1 rfl ?_
  refine ux_iload_n C dX8_sees_2 2 rfl ?_
  refine ux_callI C gkX8_sees_64 (c_X8_source l D ad cA A σ a w hF ha hw) rfl ⟨rfl, rfl⟩ ⟨(Nat.le_of_ble_eq_true rfl), (Nat.le_of_ble_eq_true rfl)⟩ ⟨Nat.le_refl _, Nat.le_refl _⟩ 0 rfl rfl rfl rfl (Nat.le_of_ble_eq_true rfl) dX8_sees_3 (fun r σ1 hr => ?_)
  obtain ⟨hr, rfl⟩ := hr
  cases hs : m_sees σ a w with
  | true =>
    rw [hs, if_pos rfl] at hr
    subst hr
    refine ux_iconst C ((-1 : Int32)) dX8_sees_6 (by decide) ?_
    refine ux_icmp_eq C 14 dX8_sees_7 (by decide) (fun h => ?_) (fun h => ?_)
    · exact absurd h (pq_nI_m1 (Nat.lt_of_le_of_lt hle (by omega)))
    · refine ux_iconst C ((1 : Int32)) dX8_sees_10 (by decide) ?_
      refine ux_goto C 15 dX8_sees_11 (by decide) ?_
      exact ux_zret C dX8_sees_15 rfl (⟨rfl, rfl⟩)
  | false =>
    rw [hs, if_neg (by decide)] at hr
    subst hr
    refine ux_iconst C ((-1 : Int32)) dX8_sees_6 (by decide) ?_
    refine ux_icmp_eq C 14 dX8_sees_7 (by decide) (fun h => ?_) (fun h => ?_)
    · refine ux_iconst C ((0 : Int32)) dX8_sees_14 (by decide) ?_
      exact ux_zret C dX8_sees_15 rfl (⟨rfl, rfl⟩)
    · exact absurd rfl h
set_option maxHeartbeats 4000000 in
set_option maxRecDepth 100000 in
theorem c_X8_isAncestor (l : Launch) (D : va_G) (ad : Nat → Nat) (cA : Nat → ClassId) (A : Nat → Prop) (σ : ST) (a b : Nat) (hF : mF σ) (hb : b ≤ σ.2.1 1) (ha : a ≤ 150) : ux_I l D vwCl (tyM cA) (wM ad cA) A yX8_isAncestor wsX8_isAncestor (ux_rm 0) [.ref (ad 0), .int (nI a), .int (nI b)] σ (fun r σ' => r = pq_b (m_anc σ a b) ∧ σ = σ') := by
  refine ux_ofI (cc := cX8_isAncestor) (maxL := 4) (ret := (some .boolean)) (Ts := wsX8_isAncestor) (lv := [(0, .ref (ad 0)), (1, .int (nI a)), (2, .int (nI b))]) (by decide) rfl (fun _ h => h) (Nat.le_of_ble_eq_true rfl) rfl ?_
  intro p e s m below meth c C
  have hF0 := hF.1
  have loop : ∀ (k u : Nat), u < k → u ≤ σ.2.1 1 → m_anc σ a b = m_anc σ a u → ux_V p l e (ux_rm 0) s m ([.ref (ad 0), .int (nI a), .int (nI b)] : List Value).toArray below meth c (MQ below (va_Qi (fun r σ' => r = pq_b (m_anc σ a b) ∧ σ = σ') (fun σ' t => va_P D vwCl (wM ad cA σ') t.heap) A) ([.ref (ad 0), .int (nI a), .int (nI b)] : List Value).toArray s 0 0 A) 4 D vwCl (wM ad cA) A 0 0 σ 2 [(3, .int (nI u)), (0, .ref (ad 0)), (1, .int (nI a)), (2, .int (nI b))] [] := by
    intro k
    induction k with
    | zero => intro u h1; omega
    | succ k ih =>
      intro u h1 h2 h3
      refine ux_iload_n C dX8_isAncestor_2 0 rfl ?_
      refine ux_if_eq C 20 dX8_isAncestor_3 (by decide) (fun hc => ?_) (fun hc => ?_)
      · have hc : u = 0 := (nI_eq (b := 0) (by omega) (by omega)).mp hc
        subst hc
        refine ux_iconst C ((0 : Int32)) dX8_isAncestor_20 (by decide) ?_
        exact ux_zret C dX8_isAncestor_21 rfl (⟨by rw [h3]; rfl, rfl⟩)
      · have hc : u ≠ 0 := fun e => hc (by rw [e]; rfl)
        have hq := hF.2 u (by omega) h2
        have hv : m_anc σ a u = pq_on (mQ σ) (mQ σ u) a := by rw [m_anc, decide_eq_true hc]; rfl
        refine ux_aload_n C dX8_isAncestor_6 1 rfl ?_
        refine ux_get C flX8_isAncestor_24 0 rfl rfl rfl dX8_isAncestor_7 ?_
        refine ux_iload_n C dX8_isAncestor_10 0 rfl ?_
        refine ux_iald C 5 4 (u) rfl rfl (rfl) (by omega) (by decide) dX8_isAncestor_11 ?_
        refine ux_top _ hq.1 ?_
        refine ux_istore_n C [(3, _), (0, _), (1, _), (2, _)] dX8_isAncestor_12 rfl (by decide) rfl ?_
        refine ux_iload_n C dX8_isAncestor_13 0 rfl ?_
        refine ux_iload_n C dX8_isAncestor_14 2 rfl ?_
        refine ux_icmp_ne C 2 dX8_isAncestor_15 (by decide) (fun h4 => ?_) (fun h4 => ?_)
        · have h4 : a ≠ mQ σ u := fun e => h4 (by rw [e])
          refine ih (mQ σ u) (by omega) (by omega) ?_
          rw [h3, hv]
          rcases Nat.eq_zero_or_pos (mQ σ u) with h0 | h0
          · rw [h0, pq_on_0, m_anc]; simp; omega
          · rw [pq_on_s (mF_dn hF) h0 (by omega), decide_eq_false h4, m_anc, decide_eq_true (show mQ σ u ≠ 0 by omega)]; rfl
        · have h4 : mQ σ u = a := (nI_eq (by omega) (by omega)).mp h4
          refine ux_iconst C ((1 : Int32)) dX8_isAncestor_18 (by decide) ?_
          exact ux_zret C dX8_isAncestor_19 rfl (⟨by rw [h3, hv, ← h4, pq_on_self (mF_dn hF) (by omega)]; rfl, rfl⟩)
  refine ux_iload_n C dX8_isAncestor_0 2 rfl ?_
  refine ux_istore_n C [(3, _), (0, _), (1, _), (2, _)] dX8_isAncestor_1 rfl (by decide) rfl ?_
  exact loop (b + 1) b (by omega) hb rfl
set_option maxHeartbeats 4000000 in
set_option maxRecDepth 100000 in
theorem c_X8_isInWay (l : Launch) (D : va_G) (ad : Nat → Nat) (cA : Nat → ClassId) (A : Nat → Prop) (σ : ST) (a b w : Nat) (y : Bool) (hF : mF σ) (ha : a ≤ 150) (hb : b ≤ σ.2.1 1) (hw : w < 520) : ux_I l D vwCl (tyM cA) (wM ad cA) A yX8_isInWay wsX8_isInWay (ux_rm 1) [.ref (ad 0), .int (nI a), .int (nI b), .int (nI w), .int (pq_b y)] σ (fun r σ' => r = pq_b (m_way σ b w y a) ∧ σ = σ') := by
  refine ux_ofI (cc := cX8_isInWay) (maxL := 5) (ret := (some .boolean)) (Ts := wsX8_isInWay) (lv := [(0, .ref (ad 0)), (1, .int (nI a)), (2, .int (nI b)), (3, .int (nI w)), (4, .int (pq_b y))]) (by decide) rfl (fun _ h => h) (Nat.le_of_ble_eq_true rfl) rfl ?_
  intro p e s m below meth c C
  have hF0 := hF.1
  refine ux_iload_n C dX8_isInWay_0 1 rfl ?_
  refine ux_iload_n C dX8_isInWay_1 2 rfl ?_
  refine ux_icmp_eq C 51 dX8_isInWay_2 (by decide) (fun h1 => ?_) (fun h1 => ?_)
  · have h1 : a = b := (nI_eq (by omega) (by omega)).mp h1
    refine ux_iconst C ((0 : Int32)) dX8_isInWay_51 (by decide) ?_
    exact ux_zret C dX8_isInWay_52 rfl (⟨by rw [m_way, decide_eq_true h1]; rfl, rfl⟩)
  · have h1 : ¬ a = b := fun e => h1 (by rw [e])
    refine ux_aload_n C dX8_isInWay_5 0 rfl ?_
    refine ux_iload_n C dX8_isInWay_6 1 rfl ?_
    refine ux_callI C gkX8_isInWay_68 (c_X8_isActive l D ad cA A σ (nI a) hF0) rfl ⟨rfl, rfl⟩ ⟨(Nat.le_of_ble_eq_true rfl), (Nat.le_of_ble_eq_true rfl)⟩ ⟨Nat.le_refl _, Nat.le_refl _⟩ 0 rfl rfl rfl rfl (Nat.le_of_ble_eq_true rfl) dX8_isInWay_7 (fun r σ1 hr => ?_)
    obtain ⟨rfl, rfl⟩ := hr
    refine ux_if_eq C 51 dX8_isInWay_10 (by decide) (fun h2 => ?_) (fun h2 => ?_)
    · refine ux_iconst C ((0 : Int32)) dX8_isInWay_51 (by decide) ?_
      exact ux_zret C dX8_isInWay_52 rfl (⟨by rw [m_way, decide_eq_false h1, (pq_b0 _).mp h2]; rfl, rfl⟩)
    · have h2 := (pq_bn0 _).mp h2
      refine ux_aload_n C dX8_isInWay_13 0 rfl ?_
      refine ux_iload_n C dX8_isInWay_14 1 rfl ?_
      refine ux_iload_n C dX8_isInWay_15 2 rfl ?_
      refine ux_callI C gkX8_isInWay_72 (c_X8_isAncestor l D ad cA A σ a b hF hb ha) rfl ⟨rfl, rfl⟩ ⟨(Nat.le_of_ble_eq_true rfl), (Nat.le_of_ble_eq_true rfl)⟩ ⟨Nat.le_refl _, Nat.le_refl _⟩ 0 rfl rfl rfl rfl (Nat.le_of_ble_eq_true rfl) dX8_isInWay_16 (fun r σ1 hr => ?_)
      obtain ⟨rfl, rfl⟩ := hr
      refine ux_if_ne C 51 dX8_isInWay_19 (by decide) (fun h3 => ?_) (fun h3 => ?_)
      · refine ux_iconst C ((0 : Int32)) dX8_isInWay_51 (by decide) ?_
        exact ux_zret C dX8_isInWay_52 rfl (⟨by rw [m_way, decide_eq_false h1, h2, (pq_bn0 _).mp h3]; rfl, rfl⟩)
      · have h3 := (pq_b0 _).mp h3
        have hv : m_way σ b w y a = !decide (σ.1 3 (520 * a + w) < (if y = true then 1 else 2)) := by rw [m_way, decide_eq_false h1, h2, h3]; rfl
        rw [hv]
        refine ux_aload_n C dX8_isInWay_22 0 rfl ?_
        refine ux_get C flX8_isInWay_21 0 rfl rfl rfl dX8_isInWay_23 ?_
        refine ux_sipush C (nI 520) dX8_isInWay_26 (by decide) ?_
        refine ux_iload_n C dX8_isInWay_29 1 rfl ?_
        refine ux_imul C dX8_isInWay_30 ?_
        refine ux_iload_n C dX8_isInWay_31 3 rfl ?_
        refine ux_iadd C dX8_isInWay_32 ?_
        refine ux_top (nI (520 * a + w)) (by rw [pk_mul, nI_add]) ?_
        refine ux_bald C 4 3 (_) rfl rfl (rfl) (by omega) (by decide) dX8_isInWay_33 ?_
        refine ux_iload C dX8_isInWay_34 4 rfl ?_
        refine ux_if_eq C 43 dX8_isInWay_36 (by decide) (fun h4 => ?_) (fun h4 => ?_)
        · have h4 := (pq_b0 _).mp h4
          subst h4
          refine ux_iconst C ((2 : Int32)) dX8_isInWay_43 (by decide) ?_
          refine ux_icmp_lt C 51 dX8_isInWay_44 (by decide) (fun h5 => ?_) (fun h5 => ?_)
          · refine ux_iconst C ((0 : Int32)) dX8_isInWay_51 (by decide) ?_
            exact ux_zret C dX8_isInWay_52 rfl (⟨by rw [show (if false = true then (1 : Int32) else 2) = 2 from rfl, decide_eq_true h5]; rfl, rfl⟩)
          · refine ux_iconst C ((1 : Int32)) dX8_isInWay_47 (by decide) ?_
            refine ux_goto C 52 dX8_isInWay_48 (by decide) ?_
            exact ux_zret C dX8_isInWay_52 rfl (⟨by rw [show (if false = true then (1 : Int32) else 2) = 2 from rfl, decide_eq_false h5]; rfl, rfl⟩)
        · have h4 := (pq_bn0 _).mp h4
          subst h4
          refine ux_iconst C ((1 : Int32)) dX8_isInWay_39 (by decide) ?_
          refine ux_goto C 44 dX8_isInWay_40 (by decide) ?_
          refine ux_icmp_lt C 51 dX8_isInWay_44 (by decide) (fun h5 => ?_) (fun h5 => ?_)
          · refine ux_iconst C ((0 : Int32)) dX8_isInWay_51 (by decide) ?_
            exact ux_zret C dX8_isInWay_52 rfl (⟨by rw [show (if true = true then (1 : Int32) else 2) = 1 from rfl, decide_eq_true h5]; rfl, rfl⟩)
          · refine ux_iconst C ((1 : Int32)) dX8_isInWay_47 (by decide) ?_
            refine ux_goto C 52 dX8_isInWay_48 (by decide) ?_
            exact ux_zret C dX8_isInWay_52 rfl (⟨by rw [show (if true = true then (1 : Int32) else 2) = 1 from rfl, decide_eq_false h5]; rfl, rfl⟩)
set_option maxHeartbeats 4000000 in
set_option maxRecDepth 100000 in
theorem c_X8_first (l : Launch) (D : va_G) (ad : Nat → Nat) (cA : Nat → ClassId) (A : Nat → Prop) (σ : ST) (b : Nat) (x : Option Nat) (y : Bool) (hF : mF σ) (hb : b ≤ σ.2.1 1) (hx : ∀ w, x = some w → w < 520) : ux_I l D vwCl (tyM cA) (wM ad cA) A yX8_first wsX8_first (ux_rm 2) [.ref (ad 0), .int (nI b), .int (pq_o x), .int (pq_b y)] σ (fun r σ' => r = m_first σ b x y ∧ σ = σ') := by
  refine ux_ofI (cc := cX8_first) (maxL := 5) (ret := (some .int)) (Ts := wsX8_first) (lv := [(0, .ref (ad 0)), (1, .int (nI b)), (2, .int (pq_o x)), (3, .int (pq_b y))]) (by decide) rfl (fun _ h => h) (Nat.le_of_ble_eq_true rfl) rfl ?_
  intro p e s m below meth c C
  have hF0 := hF.1
  cases x with
  | none =>
    refine ux_iconst C (nI 1) dX8_first_0 (by decide) ?_
    refine ux_istore C [(4, _), (0, _), (1, _), (2, _), (3, _)] dX8_first_1 (by decide) rfl ?_
    refine ux_iload C dX8_first_3 0 rfl ?_
    refine ux_aload_n C dX8_first_5 1 rfl ?_
    refine ux_get C flX8_first_53 0 rfl rfl rfl dX8_first_6 ?_
    refine ux_icmp_gt C 38 dX8_first_9 (by decide) (fun hc => ?_) (fun hc => ?_)
    · refine ux_iconst C ((0 : Int32)) dX8_first_38 (by decide) ?_
      exact ux_iret C dX8_first_39 (⟨rfl, rfl⟩)
    · refine ux_iload_n C dX8_first_12 3 rfl ?_
      refine ux_iconst C ((-1 : Int32)) dX8_first_13 (by decide) ?_
      refine ux_icmp_eq C 38 dX8_first_14 (by decide) (fun h => ?_) (fun h => ?_)
      · refine ux_iconst C ((0 : Int32)) dX8_first_38 (by decide) ?_
        exact ux_iret C dX8_first_39 (⟨rfl, rfl⟩)
      · exact absurd rfl h
  | some w =>
    have hw := hx w rfl
    have loop : ∀ (k i : Nat), σ.2.1 1 + 1 ≤ i + k → i ≤ σ.2.1 1 → (∀ j, j < i → m_way σ b w y (j + 1) = false) → ux_V p l e (ux_rm 2) s m ([.ref (ad 0), .int (nI b), .int (pq_o (some w)), .int (pq_b y)] : List Value).toArray below meth c (MQ below (va_Qi (fun r σ' => r = m_first σ b (some w) y ∧ σ = σ') (fun σ' tt => va_P D vwCl (wM ad cA σ') tt.heap) A) ([.ref (ad 0), .int (nI b), .int (pq_o (some w)), .int (pq_b y)] : List Value).toArray s 0 0 A) 5 D vwCl (wM ad cA) A 0 0 σ 3 [(4, .int (nI (i + 1))), (0, .ref (ad 0)), (1, .int (nI b)), (2, .int (nI w)), (3, .int (pq_b y))] [] := by
      intro k
      induction k with
      | zero => intro i h1 h2; omega
      | succ k ih =>
        intro i h1 h2 h3
        refine ux_iload C dX8_first_3 0 rfl ?_
        refine ux_aload_n C dX8_first_5 1 rfl ?_
        refine ux_get C flX8_first_53 0 rfl rfl rfl dX8_first_6 ?_
        refine ux_icmp_gt C 38 dX8_first_9 (by decide) (fun hc => ?_) (fun hc => ?_)
        · have hc := (nI_ltI (by omega) (by omega)).mp hc
          have e : i = σ.2.1 1 := by omega
          subst e
          refine ux_iconst C ((0 : Int32)) dX8_first_38 (by decide) ?_
          exact ux_iret C dX8_first_39 (⟨by rw [m_first, m_fst, pq_fst_none.mpr h3], rfl⟩)
        · have hc := mt (nI_ltI (by omega) (by omega)).mpr hc
          refine ux_iload_n C dX8_first_12 3 rfl ?_
          refine ux_iconst C ((-1 : Int32)) dX8_first_13 (by decide) ?_
          refine ux_icmp_eq C 38 dX8_first_14 (by decide) (fun h4 => ?_) (fun h4 => ?_)
          · exact absurd h4 (pq_nI_m1 (by omega))
          · refine ux_aload_n C dX8_first_17 1 rfl ?_
            refine ux_iload C dX8_first_18 0 rfl ?_
            refine ux_iload_n C dX8_first_20 2 rfl ?_
            refine ux_iload_n C dX8_first_21 3 rfl ?_
            refine ux_iload_n C dX8_first_22 4 rfl ?_
            refine ux_callI C gkX8_first_76 (c_X8_isInWay l D ad cA A σ (i + 1) b w y hF (by omega) hb hw) rfl ⟨rfl, rfl⟩ ⟨(Nat.le_of_ble_eq_true rfl), (Nat.le_of_ble_eq_true rfl)⟩ ⟨Nat.le_refl _, Nat.le_refl _⟩ 0 rfl rfl rfl rfl (Nat.le_of_ble_eq_true rfl) dX8_first_23 (fun r σ1 hr => ?_)
            obtain ⟨rfl, rfl⟩ := hr
            refine ux_if_eq C 32 dX8_first_26 (by decide) (fun h5 => ?_) (fun h5 => ?_)
            · have h5 := (pq_b0 _).mp h5
              refine ux_iinc C (nI (i + 1 + 1)) [(4, _), (0, _), (1, _), (2, _), (3, _)] dX8_first_32 0 rfl (pq_inc (i + 1)) (by decide) rfl ?_
              refine ux_goto C 3 dX8_first_35 (by decide) ?_
              exact ih (i + 1) (by omega) (by omega) (fun j hj => by rcases Nat.lt_succ_iff_lt_or_eq.mp hj with h | h; exact h3 j h; subst h; exact h5)
            · have h5 := (pq_bn0 _).mp h5
              refine ux_iload C dX8_first_29 0 rfl ?_
              exact ux_iret C dX8_first_31 (⟨by rw [m_first, m_fst, (pq_fst_some (p := fun j => m_way σ b w y (j + 1)) (i := i)).mpr ⟨by omega, h5, h3⟩], rfl⟩)
    refine ux_iconst C (nI 1) dX8_first_0 (by decide) ?_
    refine ux_istore C [(4, _), (0, _), (1, _), (2, _), (3, _)] dX8_first_1 (by decide) rfl ?_
    exact loop (σ.2.1 1 + 1) 0 (by omega) (by omega) (fun j hj => by omega)

