theorem hiX0_opened_0 : ∀ w ∈ wsX00, w ∈ wsX0_opened := by decide +kernel
theorem flX0_opened_22 : ux_F wsX0_opened RX0 22 RX0 TX0 4 3 := ⟨hiX0_opened_0, by decide, by decide +kernel⟩
theorem hiX0_isFull_0 : ∀ w ∈ wsX00, w ∈ wsX0_isFull := by decide +kernel
theorem flX0_isFull_22 : ux_F wsX0_isFull RX0 22 RX0 TX0 4 3 := ⟨hiX0_isFull_0, by decide, by decide +kernel⟩
theorem hiX0_exists_0 : ∀ w ∈ wsX00, w ∈ wsX0_exists := by decide +kernel
theorem flX0_exists_22 : ux_F wsX0_exists RX0 22 RX0 TX0 4 3 := ⟨hiX0_exists_0, by decide, by decide +kernel⟩
theorem hiX0_isActive_0 : ∀ w ∈ wsX00, w ∈ wsX0_isActive := by decide +kernel
theorem flX0_isActive_15 : ux_F wsX0_isActive RX0 15 RX0 TX0 4 1 := ⟨hiX0_isActive_0, by decide, by decide +kernel⟩
theorem hiX0_parentOf_0 : ∀ w ∈ wsX00, w ∈ wsX0_parentOf := by decide +kernel
theorem flX0_parentOf_9 : ux_F wsX0_parentOf RX0 9 RX0 TX0 4 0 := ⟨hiX0_parentOf_0, by decide, by decide +kernel⟩
theorem hiX0_stateOf_0 : ∀ w ∈ wsX00, w ∈ wsX0_stateOf := by decide +kernel
theorem flX0_stateOf_15 : ux_F wsX0_stateOf RX0 15 RX0 TX0 4 1 := ⟨hiX0_stateOf_0, by decide, by decide +kernel⟩
theorem hiX0_add_0 : ∀ w ∈ wsX00, w ∈ wsX0_add := by decide +kernel
theorem flX0_add_22 : ux_F wsX0_add RX0 22 RX0 TX0 4 3 := ⟨hiX0_add_0, by decide, by decide +kernel⟩
theorem flX0_add_9 : ux_F wsX0_add RX0 9 RX0 TX0 4 0 := ⟨hiX0_add_0, by decide, by decide +kernel⟩
theorem flX0_add_15 : ux_F wsX0_add RX0 15 RX0 TX0 4 1 := ⟨hiX0_add_0, by decide, by decide +kernel⟩
theorem hiX0_end_0 : ∀ w ∈ wsX00, w ∈ wsX0_end := by decide +kernel
theorem flX0_end_15 : ux_F wsX0_end RX0 15 RX0 TX0 4 1 := ⟨hiX0_end_0, by decide, by decide +kernel⟩
theorem hiX0_isLeftBehind_0 : ∀ w ∈ wsX00, w ∈ wsX0_isLeftBehind := by decide +kernel
theorem flX0_isLeftBehind_9 : ux_F wsX0_isLeftBehind RX0 9 RX0 TX0 4 0 := ⟨hiX0_isLeftBehind_0, by decide, by decide +kernel⟩
theorem hiX0_activeChildrenOf_0 : ∀ w ∈ wsX00, w ∈ wsX0_activeChildrenOf := by decide +kernel
theorem flX0_activeChildrenOf_22 : ux_F wsX0_activeChildrenOf RX0 22 RX0 TX0 4 3 := ⟨hiX0_activeChildrenOf_0, by decide, by decide +kernel⟩
theorem flX0_activeChildrenOf_9 : ux_F wsX0_activeChildrenOf RX0 9 RX0 TX0 4 0 := ⟨hiX0_activeChildrenOf_0, by decide, by decide +kernel⟩
theorem flX0_activeChildrenOf_15 : ux_F wsX0_activeChildrenOf RX0 15 RX0 TX0 4 1 := ⟨hiX0_activeChildrenOf_0, by decide, by decide +kernel⟩
theorem hiX0_trace_0 : ∀ w ∈ wsX00, w ∈ wsX0_trace := by decide +kernel
theorem flX0_trace_18 : ux_F wsX0_trace RX0 18 RX0 TX0 4 2 := ⟨hiX0_trace_0, by decide, by decide +kernel⟩
theorem flX0_trace_9 : ux_F wsX0_trace RX0 9 RX0 TX0 4 0 := ⟨hiX0_trace_0, by decide, by decide +kernel⟩
theorem flX0_trace_22 : ux_F wsX0_trace RX0 22 RX0 TX0 4 3 := ⟨hiX0_trace_0, by decide, by decide +kernel⟩
theorem hiX0_line_0 : ∀ w ∈ wsX00, w ∈ wsX0_line := by decide +kernel
theorem flX0_line_18 : ux_F wsX0_line RX0 18 RX0 TX0 4 2 := ⟨hiX0_line_0, by decide, by decide +kernel⟩
theorem gkX0_isActive_26 : ux_G wsX0_isActive RX0 26 RX0 yX0_exists wsX0_exists 1 := ⟨gX0_isActive_X0_exists, by decide +kernel⟩
theorem gkX0_canBeAsked_30 : ux_G wsX0_canBeAsked RX0 30 RX0 yX0_isActive wsX0_isActive 1 := ⟨gX0_canBeAsked_X0_isActive, by decide +kernel⟩
theorem gkX0_isLeftBehind_30 : ux_G wsX0_isLeftBehind RX0 30 RX0 yX0_isActive wsX0_isActive 1 := ⟨gX0_isLeftBehind_X0_isActive, by decide +kernel⟩
theorem gkX0_isLeftBehind_33 : ux_G wsX0_isLeftBehind RX0 33 RX0 yX0_canBeAsked wsX0_canBeAsked 1 := ⟨gX0_isLeftBehind_X0_canBeAsked, by decide +kernel⟩
set_option maxHeartbeats 4000000 in
set_option maxRecDepth 100000 in
theorem c_X0_opened (l : Launch) (D : va_G) (ad : Nat → Nat) (cA : Nat → ClassId) (A : Nat → Prop) (σ : ST) : ux_I l D vwCl (tyU cA) (wU ad cA) A yX0_opened wsX0_opened (ux_rm 0) [.ref (ad 0)] σ (fun r σ' => r = nI (σ.2.1 0) ∧ σ = σ') := by
  refine ux_ofI (cc := cX0_opened) (maxL := 1) (ret := (some .int)) (Ts := wsX0_opened) (lv := [(0, .ref (ad 0))]) (by decide) rfl (fun _ h => h) (Nat.le_of_ble_eq_true rfl) rfl ?_
  intro p e s m below meth c C
  refine ux_aload_n C dX0_opened_0 0 rfl ?_
  refine ux_get C flX0_opened_22 0 rfl rfl rfl dX0_opened_1 ?_
  exact ux_iret C dX0_opened_4 (⟨rfl, rfl⟩)
set_option maxHeartbeats 4000000 in
set_option maxRecDepth 100000 in
theorem c_X0_isFull (l : Launch) (D : va_G) (ad : Nat → Nat) (cA : Nat → ClassId) (A : Nat → Prop) (σ : ST) (hn : σ.2.1 0 ≤ 150) : ux_I l D vwCl (tyU cA) (wU ad cA) A yX0_isFull wsX0_isFull (ux_rm 0) [.ref (ad 0)] σ (fun r σ' => r = pq_b (decide (σ.2.1 0 = 150)) ∧ σ = σ') := by
  refine ux_ofI (cc := cX0_isFull) (maxL := 1) (ret := (some .boolean)) (Ts := wsX0_isFull) (lv := [(0, .ref (ad 0))]) (by decide) rfl (fun _ h => h) (Nat.le_of_ble_eq_true rfl) rfl ?_
  intro p e s m below meth c C
  refine ux_aload_n C dX0_isFull_0 0 rfl ?_
  refine ux_get C flX0_isFull_22 0 rfl rfl rfl dX0_isFull_1 ?_
  refine ux_sipush C (nI 150) dX0_isFull_4 (by decide) ?_
  refine ux_icmp_ne C 14 dX0_isFull_7 (by decide) (fun h => ?_) (fun h => ?_)
  · refine ux_iconst C ((0 : Int32)) dX0_isFull_14 (by decide) ?_
    exact ux_zret C dX0_isFull_15 rfl (⟨by rw [decide_eq_false (fun e => h (by rw [e]))]; rfl, rfl⟩)
  · refine ux_iconst C ((1 : Int32)) dX0_isFull_10 (by decide) ?_
    refine ux_goto C 15 dX0_isFull_11 (by decide) ?_
    exact ux_zret C dX0_isFull_15 rfl (⟨by rw [decide_eq_true ((nI_eq (by omega) (by omega)).mp h)]; rfl, rfl⟩)
set_option maxHeartbeats 4000000 in
set_option maxRecDepth 100000 in
theorem c_X0_exists (l : Launch) (D : va_G) (ad : Nat → Nat) (cA : Nat → ClassId) (A : Nat → Prop) (σ : ST) (t : Int32) : ux_I l D vwCl (tyU cA) (wU ad cA) A yX0_exists wsX0_exists (ux_rm 0) [.ref (ad 0), .int t] σ (fun r σ' => r = pq_b (pq_ex (σ.2.1 0) t) ∧ σ = σ') := by
  refine ux_ofI (cc := cX0_exists) (maxL := 2) (ret := (some .boolean)) (Ts := wsX0_exists) (lv := [(0, .ref (ad 0)), (1, .int t)]) (by decide) rfl (fun _ h => h) (Nat.le_of_ble_eq_true rfl) rfl ?_
  intro p e s m below meth c C
  refine ux_iload_n C dX0_exists_0 1 rfl ?_
  refine ux_iconst C ((1 : Int32)) dX0_exists_1 (by decide) ?_
  refine ux_icmp_lt C 17 dX0_exists_2 (by decide) (fun h => ?_) (fun h => ?_)
  · refine ux_iconst C ((0 : Int32)) dX0_exists_17 (by decide) ?_
    exact ux_zret C dX0_exists_18 rfl (⟨by simp [pq_ex, pq_b, Int32.not_le.mpr h], rfl⟩)
  · refine ux_iload_n C dX0_exists_5 1 rfl ?_
    refine ux_aload_n C dX0_exists_6 0 rfl ?_
    refine ux_get C flX0_exists_22 0 rfl rfl rfl dX0_exists_7 ?_
    refine ux_icmp_gt C 17 dX0_exists_10 (by decide) (fun h2 => ?_) (fun h2 => ?_)
    · refine ux_iconst C ((0 : Int32)) dX0_exists_17 (by decide) ?_
      exact ux_zret C dX0_exists_18 rfl (⟨by simp [pq_ex, pq_b, Int32.not_le.mpr h2], rfl⟩)
    · refine ux_iconst C ((1 : Int32)) dX0_exists_13 (by decide) ?_
      refine ux_goto C 18 dX0_exists_14 (by decide) ?_
      exact ux_zret C dX0_exists_18 rfl (⟨by simp [pq_ex, pq_b, Int32.not_lt.mp h, Int32.not_lt.mp h2], rfl⟩)
set_option maxHeartbeats 4000000 in
set_option maxRecDepth 100000 in
theorem c_X0_isActive (l : Launch) (D : va_G) (ad : Nat → Nat) (cA : Nat → ClassId) (A : Nat → Prop) (σ : ST) (t : Int32) (hn : σ.2.1 0 ≤ 150) : ux_I l D vwCl (tyU cA) (wU ad cA) A yX0_isActive wsX0_isActive (ux_rm 1) [.ref (ad 0), .int t] σ (fun r σ' => r = pq_b (pq_act (σ.2.1 0) (σ.1 1) t) ∧ σ = σ') := by
  refine ux_ofI (cc := cX0_isActive) (maxL := 2) (ret := (some .boolean)) (Ts := wsX0_isActive) (lv := [(0, .ref (ad 0)), (1, .int t)]) (by decide) rfl (fun _ h => h) (Nat.le_of_ble_eq_true rfl) rfl ?_
  intro p e s m below meth c C
  refine ux_aload_n C dX0_isActive_0 0 rfl ?_
  refine ux_iload_n C dX0_isActive_1 1 rfl ?_
  refine ux_callI C gkX0_isActive_26 (c_X0_exists l D ad cA A σ t) rfl ⟨rfl, rfl⟩ ⟨(Nat.le_of_ble_eq_true rfl), (Nat.le_of_ble_eq_true rfl)⟩ ⟨Nat.le_refl _, Nat.le_refl _⟩ 0 rfl rfl rfl rfl (Nat.le_of_ble_eq_true rfl) dX0_isActive_2 (fun r σ1 hr => ?_)
  obtain ⟨rfl, rfl⟩ := hr
  refine ux_if_eq C 21 dX0_isActive_5 (by decide) (fun h => ?_) (fun h => ?_)
  · refine ux_iconst C ((0 : Int32)) dX0_isActive_21 (by decide) ?_
    exact ux_zret C dX0_isActive_22 rfl (⟨by rw [pq_act, (pq_b0 _).mp h]; rfl, rfl⟩)
  · have h := (pq_bn0 _).mp h
    obtain ⟨k, k1, k2, rfl⟩ := (pq_ex_iff (by omega)).mp h
    refine ux_aload_n C dX0_isActive_8 0 rfl ?_
    refine ux_get C flX0_isActive_15 0 rfl rfl rfl dX0_isActive_9 ?_
    refine ux_iload_n C dX0_isActive_12 1 rfl ?_
    refine ux_iald C 9 1 (_) rfl rfl (rfl) (by omega) (by decide) dX0_isActive_13 ?_
    refine ux_if_ne C 21 dX0_isActive_14 (by decide) (fun h2 => ?_) (fun h2 => ?_)
    · refine ux_iconst C ((0 : Int32)) dX0_isActive_21 (by decide) ?_
      exact ux_zret C dX0_isActive_22 rfl (⟨by rw [pq_act, h, nI_clamp (by omega), decide_eq_false h2]; rfl, rfl⟩)
    · refine ux_iconst C ((1 : Int32)) dX0_isActive_17 (by decide) ?_
      refine ux_goto C 22 dX0_isActive_18 (by decide) ?_
      exact ux_zret C dX0_isActive_22 rfl (⟨by rw [pq_act, h, nI_clamp (by omega), decide_eq_true h2]; rfl, rfl⟩)
set_option maxHeartbeats 4000000 in
set_option maxRecDepth 100000 in
theorem c_X0_canBeAsked (l : Launch) (D : va_G) (ad : Nat → Nat) (cA : Nat → ClassId) (A : Nat → Prop) (σ : ST) (t : Int32) (hn : σ.2.1 0 ≤ 150) : ux_I l D vwCl (tyU cA) (wU ad cA) A yX0_canBeAsked wsX0_canBeAsked (ux_rm 2) [.ref (ad 0), .int t] σ (fun r σ' => r = pq_b (decide (t = 0) || pq_act (σ.2.1 0) (σ.1 1) t) ∧ σ = σ') := by
  refine ux_ofI (cc := cX0_canBeAsked) (maxL := 2) (ret := (some .boolean)) (Ts := wsX0_canBeAsked) (lv := [(0, .ref (ad 0)), (1, .int t)]) (by decide) rfl (fun _ h => h) (Nat.le_of_ble_eq_true rfl) rfl ?_
  intro p e s m below meth c C
  refine ux_iload_n C dX0_canBeAsked_0 1 rfl ?_
  refine ux_if_eq C 12 dX0_canBeAsked_1 (by decide) (fun h => ?_) (fun h => ?_)
  · refine ux_iconst C ((1 : Int32)) dX0_canBeAsked_12 (by decide) ?_
    refine ux_goto C 17 dX0_canBeAsked_13 (by decide) ?_
    exact ux_zret C dX0_canBeAsked_17 rfl (⟨by rw [decide_eq_true h]; rfl, rfl⟩)
  · refine ux_aload_n C dX0_canBeAsked_4 0 rfl ?_
    refine ux_iload_n C dX0_canBeAsked_5 1 rfl ?_
    refine ux_callI C gkX0_canBeAsked_30 (c_X0_isActive l D ad cA A σ t hn) rfl ⟨rfl, rfl⟩ ⟨(Nat.le_of_ble_eq_true rfl), (Nat.le_of_ble_eq_true rfl)⟩ ⟨Nat.le_refl _, Nat.le_refl _⟩ 0 rfl rfl rfl rfl (Nat.le_of_ble_eq_true rfl) dX0_canBeAsked_6 (fun r σ1 hr => ?_)
    obtain ⟨rfl, rfl⟩ := hr
    refine ux_if_eq C 16 dX0_canBeAsked_9 (by decide) (fun h2 => ?_) (fun h2 => ?_)
    · refine ux_iconst C ((0 : Int32)) dX0_canBeAsked_16 (by decide) ?_
      exact ux_zret C dX0_canBeAsked_17 rfl (⟨by rw [decide_eq_false h, (pq_b0 _).mp h2]; rfl, rfl⟩)
    · refine ux_iconst C ((1 : Int32)) dX0_canBeAsked_12 (by decide) ?_
      refine ux_goto C 17 dX0_canBeAsked_13 (by decide) ?_
      exact ux_zret C dX0_canBeAsked_17 rfl (⟨by rw [decide_eq_false h, (pq_bn0 _).mp h2]; rfl, rfl⟩)
set_option maxHeartbeats 4000000 in
set_option maxRecDepth 100000 in
theorem c_X0_parentOf (l : Launch) (D : va_G) (ad : Nat → Nat) (cA : Nat → ClassId) (A : Nat → Prop) (σ : ST) (k : Nat) (hk : k ≤ 150) : ux_I l D vwCl (tyU cA) (wU ad cA) A yX0_parentOf wsX0_parentOf (ux_rm 0) [.ref (ad 0), .int (nI k)] σ (fun r σ' => r = σ.1 0 k ∧ σ = σ') := by
  refine ux_ofI (cc := cX0_parentOf) (maxL := 2) (ret := (some .int)) (Ts := wsX0_parentOf) (lv := [(0, .ref (ad 0)), (1, .int (nI k))]) (by decide) rfl (fun _ h => h) (Nat.le_of_ble_eq_true rfl) rfl ?_
  intro p e s m below meth c C
  refine ux_aload_n C dX0_parentOf_0 0 rfl ?_
  refine ux_get C flX0_parentOf_9 0 rfl rfl rfl dX0_parentOf_1 ?_
  refine ux_iload_n C dX0_parentOf_4 1 rfl ?_
  refine ux_iald C 8 0 (_) rfl rfl (rfl) (by omega) (by decide) dX0_parentOf_5 ?_
  exact ux_iret C dX0_parentOf_6 (⟨rfl, rfl⟩)
set_option maxHeartbeats 4000000 in
set_option maxRecDepth 100000 in
theorem c_X0_stateOf (l : Launch) (D : va_G) (ad : Nat → Nat) (cA : Nat → ClassId) (A : Nat → Prop) (σ : ST) (k : Nat) (hk : k ≤ 150) : ux_I l D vwCl (tyU cA) (wU ad cA) A yX0_stateOf wsX0_stateOf (ux_rm 0) [.ref (ad 0), .int (nI k)] σ (fun r σ' => r = σ.1 1 k ∧ σ = σ') := by
  refine ux_ofI (cc := cX0_stateOf) (maxL := 2) (ret := (some .int)) (Ts := wsX0_stateOf) (lv := [(0, .ref (ad 0)), (1, .int (nI k))]) (by decide) rfl (fun _ h => h) (Nat.le_of_ble_eq_true rfl) rfl ?_
  intro p e s m below meth c C
  refine ux_aload_n C dX0_stateOf_0 0 rfl ?_
  refine ux_get C flX0_stateOf_15 0 rfl rfl rfl dX0_stateOf_1 ?_
  refine ux_iload_n C dX0_stateOf_4 1 rfl ?_
  refine ux_iald C 9 1 (_) rfl rfl (rfl) (by omega) (by decide) dX0_stateOf_5 ?_
  exact ux_iret C dX0_stateOf_6 (⟨rfl, rfl⟩)
set_option maxHeartbeats 4000000 in
set_option maxRecDepth 100000 in
theorem c_X0_add (l : Launch) (D : va_G) (ad : Nat → Nat) (cA : Nat → ClassId) (A : Nat → Prop) (σ : ST) (t : Int32) (hn : σ.2.1 0 < 150) : ux_I l D vwCl (tyU cA) (wU ad cA) A yX0_add wsX0_add (ux_rm 0) [.ref (ad 0), .int t] σ (fun r σ' => r = nI (σ.2.1 0 + 1) ∧ σ' = sa (sa (sf σ 0 (σ.2.1 0 + 1)) 0 (upd (σ.1 0) (σ.2.1 0 + 1) t)) 1 (upd (σ.1 1) (σ.2.1 0 + 1) 0)) := by
  refine ux_ofI (cc := cX0_add) (maxL := 2) (ret := (some .int)) (Ts := wsX0_add) (lv := [(0, .ref (ad 0)), (1, .int t)]) (by decide) rfl (fun _ h => h) (Nat.le_of_ble_eq_true rfl) rfl ?_
  intro p e s m below meth c C
  refine ux_aload_n C dX0_add_0 0 rfl ?_
  refine ux_dup C dX0_add_1 rfl ?_
  refine ux_get C flX0_add_22 0 rfl rfl rfl dX0_add_2 ?_
  refine ux_iconst C ((1 : Int32)) dX0_add_5 (by decide) ?_
  refine ux_iadd C dX0_add_6 ?_
  refine ux_top (nI (σ.2.1 0 + 1)) (nI_1 _) ?_
  refine ux_putI C flX0_add_22 fiU_0 0 rfl rfl (Nat.le_of_ble_eq_true rfl) dX0_add_7 _ (fwU_0 _ _ _ _) ?_
  refine ux_aload_n C dX0_add_10 0 rfl ?_
  refine ux_get C flX0_add_9 0 rfl rfl rfl dX0_add_11 ?_
  refine ux_aload_n C dX0_add_14 0 rfl ?_
  refine ux_get C flX0_add_22 0 rfl rfl rfl dX0_add_15 ?_
  refine ux_iload_n C dX0_add_18 1 rfl ?_
  refine ux_iast C 8 0 (σ.2.1 0 + 1) rfl rfl (rfl) (by omega) (by decide) dX0_add_19 _ (awU_0 _ _ _ _) ?_
  refine ux_aload_n C dX0_add_20 0 rfl ?_
  refine ux_get C flX0_add_15 0 rfl rfl rfl dX0_add_21 ?_
  refine ux_aload_n C dX0_add_24 0 rfl ?_
  refine ux_get C flX0_add_22 0 rfl rfl rfl dX0_add_25 ?_
  refine ux_iconst C ((0 : Int32)) dX0_add_28 (by decide) ?_
  refine ux_iast C 9 1 (σ.2.1 0 + 1) rfl rfl (rfl) (by omega) (by decide) dX0_add_29 _ (awU_1 _ _ _ _) ?_
  refine ux_aload_n C dX0_add_30 0 rfl ?_
  refine ux_get C flX0_add_22 0 rfl rfl rfl dX0_add_31 ?_
  exact ux_iret C dX0_add_34 (⟨rfl, rfl⟩)
set_option maxHeartbeats 4000000 in
set_option maxRecDepth 100000 in
theorem c_X0_end (l : Launch) (D : va_G) (ad : Nat → Nat) (cA : Nat → ClassId) (A : Nat → Prop) (σ : ST) (k : Nat) (x : Int32) (hk : k ≤ 150) : ux_N l D vwCl (tyU cA) (wU ad cA) A yX0_end wsX0_end (ux_rm 0) [.ref (ad 0), .int (nI k), .int x] σ (fun σ' => σ' = sa σ 1 (upd (σ.1 1) k x)) := by
  refine ux_ofN (cc := cX0_end) (maxL := 3) (ret := none) (Ts := wsX0_end) (lv := [(0, .ref (ad 0)), (1, .int (nI k)), (2, .int x)]) (by decide) rfl (fun _ h => h) (Nat.le_of_ble_eq_true rfl) rfl ?_
  intro p e s m below meth c C
  refine ux_aload_n C dX0_end_0 0 rfl ?_
  refine ux_get C flX0_end_15 0 rfl rfl rfl dX0_end_1 ?_
  refine ux_iload_n C dX0_end_4 1 rfl ?_
  refine ux_iload_n C dX0_end_5 2 rfl ?_
  refine ux_iast C 9 1 (_) rfl rfl (rfl) (by omega) (by decide) dX0_end_6 _ (awU_1 _ _ _ _) ?_
  exact ux_vret C dX0_end_7 (rfl)
set_option maxHeartbeats 4000000 in
set_option maxRecDepth 100000 in
theorem c_X0_isLeftBehind (l : Launch) (D : va_G) (ad : Nat → Nat) (cA : Nat → ClassId) (A : Nat → Prop) (σ : ST) (k : Nat) (hk : k ≤ 150) (hn : σ.2.1 0 ≤ 150) : ux_I l D vwCl (tyU cA) (wU ad cA) A yX0_isLeftBehind wsX0_isLeftBehind (ux_rm 3) [.ref (ad 0), .int (nI k)] σ (fun r σ' => r = pq_b (pq_act (σ.2.1 0) (σ.1 1) (nI k) && !(decide (σ.1 0 k = 0) || pq_act (σ.2.1 0) (σ.1 1) (σ.1 0 k))) ∧ σ = σ') := by
  refine ux_ofI (cc := cX0_isLeftBehind) (maxL := 2) (ret := (some .boolean)) (Ts := wsX0_isLeftBehind) (lv := [(0, .ref (ad 0)), (1, .int (nI k))]) (by decide) rfl (fun _ h => h) (Nat.le_of_ble_eq_true rfl) rfl ?_
  intro p e s m below meth c C
  refine ux_aload_n C dX0_isLeftBehind_0 0 rfl ?_
  refine ux_iload_n C dX0_isLeftBehind_1 1 rfl ?_
  refine ux_callI C gkX0_isLeftBehind_30 (c_X0_isActive l D ad cA A σ (nI k) hn) rfl ⟨rfl, rfl⟩ ⟨(Nat.le_of_ble_eq_true rfl), (Nat.le_of_ble_eq_true rfl)⟩ ⟨Nat.le_refl _, Nat.le_refl _⟩ 0 rfl rfl rfl rfl (Nat.le_of_ble_eq_true rfl) dX0_isLeftBehind_2 (fun r σ1 hr => ?_)
  obtain ⟨rfl, rfl⟩ := hr
  refine ux_if_eq C 25 dX0_isLeftBehind_5 (by decide) (fun h => ?_) (fun h => ?_)
  · refine ux_iconst C ((0 : Int32)) dX0_isLeftBehind_25 (by decide) ?_
    exact ux_zret C dX0_isLeftBehind_26 rfl (⟨by rw [(pq_b0 _).mp h]; rfl, rfl⟩)
  · refine ux_aload_n C dX0_isLeftBehind_8 0 rfl ?_
    refine ux_aload_n C dX0_isLeftBehind_9 0 rfl ?_
    refine ux_get C flX0_isLeftBehind_9 0 rfl rfl rfl dX0_isLeftBehind_10 ?_
    refine ux_iload_n C dX0_isLeftBehind_13 1 rfl ?_
    refine ux_iald C 8 0 (k) rfl rfl (rfl) (by omega) (by decide) dX0_isLeftBehind_14 ?_
    refine ux_callI C gkX0_isLeftBehind_33 (c_X0_canBeAsked l D ad cA A σ (σ.1 0 k) hn) rfl ⟨rfl, rfl⟩ ⟨(Nat.le_of_ble_eq_true rfl), (Nat.le_of_ble_eq_true rfl)⟩ ⟨Nat.le_refl _, Nat.le_refl _⟩ 0 rfl rfl rfl rfl (Nat.le_of_ble_eq_true rfl) dX0_isLeftBehind_15 (fun r σ1 hr => ?_)
    obtain ⟨rfl, rfl⟩ := hr
    refine ux_if_ne C 25 dX0_isLeftBehind_18 (by decide) (fun h2 => ?_) (fun h2 => ?_)
    · refine ux_iconst C ((0 : Int32)) dX0_isLeftBehind_25 (by decide) ?_
      exact ux_zret C dX0_isLeftBehind_26 rfl (⟨by rw [(pq_bn0 _).mp h, (pq_bn0 _).mp h2]; rfl, rfl⟩)
    · refine ux_iconst C ((1 : Int32)) dX0_isLeftBehind_21 (by decide) ?_
      refine ux_goto C 26 dX0_isLeftBehind_22 (by decide) ?_
      exact ux_zret C dX0_isLeftBehind_26 rfl (⟨by rw [(pq_bn0 _).mp h, (pq_b0 _).mp h2]; rfl, rfl⟩)
set_option maxHeartbeats 4000000 in
set_option maxRecDepth 100000 in
theorem c_X0_activeChildrenOf (l : Launch) (D : va_G) (ad : Nat → Nat) (cA : Nat → ClassId) (A : Nat → Prop) (σ : ST) (t : Nat) (ht : t ≤ σ.2.1 0) (hn : σ.2.1 0 ≤ 150) : ux_I l D vwCl (tyU cA) (wU ad cA) A yX0_activeChildrenOf wsX0_activeChildrenOf (ux_rm 0) [.ref (ad 0), .int (nI t)] σ (fun r σ' => r = nI (pq_cnt (fun u => decide (t < u) && decide (σ.1 0 u = nI t) && decide (σ.1 1 u = 0)) (σ.2.1 0 + 1)) ∧ σ = σ') := by
  refine ux_ofI (cc := cX0_activeChildrenOf) (maxL := 4) (ret := (some .int)) (Ts := wsX0_activeChildrenOf) (lv := [(0, .ref (ad 0)), (1, .int (nI t))]) (by decide) rfl (fun _ h => h) (Nat.le_of_ble_eq_true rfl) rfl ?_
  intro p e s m below meth c C
  have loop : ∀ (k i : Nat), σ.2.1 0 + 2 ≤ i + k → t < i → i ≤ σ.2.1 0 + 1 → ux_V p l e (ux_rm 0) s m ([.ref (ad 0), .int (nI t)] : List Value).toArray below meth c (MQ below (va_Qi (fun r σ' => r = nI (pq_cnt (fun u => decide (t < u) && decide (σ.1 0 u = nI t) && decide (σ.1 1 u = 0)) (σ.2.1 0 + 1)) ∧ σ = σ') (fun σ' t => va_P D vwCl (wU ad cA σ') t.heap) A) ([.ref (ad 0), .int (nI t)] : List Value).toArray s 0 0 A) 4 D vwCl (wU ad cA) A 0 0 σ 6 [(3, .int (nI i)), (2, .int (nI (pq_cnt (fun u => decide (t < u) && decide (σ.1 0 u = nI t) && decide (σ.1 1 u = 0)) i))), (0, .ref (ad 0)), (1, .int (nI t))] [] := by
    intro k
    induction k with
    | zero => intro i h1 h2 h3; omega
    | succ k ih =>
      intro i h1 h2 h3
      refine ux_iload_n C dX0_activeChildrenOf_6 0 rfl ?_
      refine ux_aload_n C dX0_activeChildrenOf_7 2 rfl ?_
      refine ux_get C flX0_activeChildrenOf_22 0 rfl rfl rfl dX0_activeChildrenOf_8 ?_
      refine ux_icmp_gt C 42 dX0_activeChildrenOf_11 (by decide) (fun hc => ?_) (fun hc => ?_)
      · have hc := (nI_ltI (by omega) (by omega)).mp hc
        have e : i = σ.2.1 0 + 1 := by omega
        subst e
        refine ux_iload_n C dX0_activeChildrenOf_42 1 rfl ?_
        exact ux_iret C dX0_activeChildrenOf_43 (⟨rfl, rfl⟩)
      · have hc := mt (nI_ltI (by omega) (by omega)).mpr hc
        have hih := ih (i + 1) (by omega) (by omega) (by omega)
        refine ux_aload_n C dX0_activeChildrenOf_14 2 rfl ?_
        refine ux_get C flX0_activeChildrenOf_9 0 rfl rfl rfl dX0_activeChildrenOf_15 ?_
        refine ux_iload_n C dX0_activeChildrenOf_18 0 rfl ?_
        refine ux_iald C 8 0 (i) rfl rfl (rfl) (by omega) (by decide) dX0_activeChildrenOf_19 ?_
        refine ux_iload_n C dX0_activeChildrenOf_20 3 rfl ?_
        refine ux_icmp_ne C 36 dX0_activeChildrenOf_21 (by decide) (fun h4 => ?_) (fun h4 => ?_)
        · rw [pq_cnt_f (n := i) (by simp [h4])] at hih
          refine ux_iinc C (nI (i + 1)) [(3, _), (2, _), (0, _), (1, _)] dX0_activeChildrenOf_36 0 rfl (pq_inc i) (by decide) rfl ?_
          refine ux_goto C 6 dX0_activeChildrenOf_39 (by decide) ?_
          exact hih
        · refine ux_aload_n C dX0_activeChildrenOf_24 2 rfl ?_
          refine ux_get C flX0_activeChildrenOf_15 0 rfl rfl rfl dX0_activeChildrenOf_25 ?_
          refine ux_iload_n C dX0_activeChildrenOf_28 0 rfl ?_
          refine ux_iald C 9 1 (i) rfl rfl (rfl) (by omega) (by decide) dX0_activeChildrenOf_29 ?_
          refine ux_if_ne C 36 dX0_activeChildrenOf_30 (by decide) (fun h5 => ?_) (fun h5 => ?_)
          · rw [pq_cnt_f (n := i) (by simp [h5])] at hih
            refine ux_iinc C (nI (i + 1)) [(3, _), (2, _), (0, _), (1, _)] dX0_activeChildrenOf_36 0 rfl (pq_inc i) (by decide) rfl ?_
            refine ux_goto C 6 dX0_activeChildrenOf_39 (by decide) ?_
            exact hih
          · rw [pq_cnt_t (n := i) (by simp [h4, h5, h2])] at hih
            refine ux_iinc C (nI (_ + 1)) [(2, _), (3, _), (0, _), (1, _)] dX0_activeChildrenOf_33 1 rfl (pq_inc _) (by decide) rfl ?_
            refine ux_iinc C (nI (i + 1)) [(3, _), (2, _), (0, _), (1, _)] dX0_activeChildrenOf_36 1 rfl (pq_inc i) (by decide) rfl ?_
            refine ux_goto C 6 dX0_activeChildrenOf_39 (by decide) ?_
            exact hih
  refine ux_iconst C (nI 0) dX0_activeChildrenOf_0 (by decide) ?_
  refine ux_istore_n C [(2, _), (0, _), (1, _)] dX0_activeChildrenOf_1 rfl (by decide) rfl ?_
  refine ux_iload_n C dX0_activeChildrenOf_2 2 rfl ?_
  refine ux_iconst C (nI 1) dX0_activeChildrenOf_3 (by decide) ?_
  refine ux_iadd C dX0_activeChildrenOf_4 ?_
  refine ux_top (nI (t + 1)) (nI_add _ _) ?_
  refine ux_istore_n C [(3, _), (2, _), (0, _), (1, _)] dX0_activeChildrenOf_5 rfl (by decide) rfl ?_
  have hl := loop (σ.2.1 0 + 2) (t + 1) (by omega) (by omega) (by omega)
  rw [pq_cnt_zero (n := t + 1) (fun j hj => by simp [show ¬ t < j by omega])] at hl
  exact hl
set_option maxHeartbeats 4000000 in
set_option maxRecDepth 100000 in
theorem c_X0_trace (l : Launch) (D : va_G) (ad : Nat → Nat) (cA : Nat → ClassId) (A : Nat → Prop) (σ : ST) (Q : Nat → Nat) (t : Nat) (ht : t ≤ σ.2.1 0) (hn : σ.2.1 0 ≤ 150) (hq : pq_dn (σ.2.1 0) Q) (hp : ∀ u, 1 ≤ u → u ≤ σ.2.1 0 → σ.1 0 u = nI (Q u)) : ux_N l D vwCl (tyU cA) (wU ad cA) A yX0_trace wsX0_trace (ux_rm 0) [.ref (ad 0), .int (nI t)] σ (fun σ' => ∃ f, σ' = sa σ 2 f ∧ ∀ u, u ≤ σ.2.1 0 → f u = pq_b (pq_on Q t u)) := by
  refine ux_ofN (cc := cX0_trace) (maxL := 3) (ret := none) (Ts := wsX0_trace) (lv := [(0, .ref (ad 0)), (1, .int (nI t))]) (by decide) rfl (fun _ h => h) (Nat.le_of_ble_eq_true rfl) rfl ?_
  intro p e s m below meth c C
  have loop2 : ∀ (u : Nat) (f : Nat → Int32), u ≤ t → (∀ w, w ≤ σ.2.1 0 → f w = 1 ∨ f w = 0) → (∀ w, w ≤ σ.2.1 0 → (f w = 1 ↔ (w = t ∨ ∃ v, u < v ∧ v ≤ t ∧ pq_on Q t v = true ∧ Q v = w))) → ux_V p l e (ux_rm 0) s m ([.ref (ad 0), .int (nI t)] : List Value).toArray below meth c (MQ below (va_Qv (fun σ' => ∃ f, σ' = sa σ 2 f ∧ ∀ u, u ≤ σ.2.1 0 → f u = pq_b (pq_on Q t u)) (fun σ' t => va_P D vwCl (wU ad cA σ') t.heap) A) ([.ref (ad 0), .int (nI t)] : List Value).toArray s 0 0 A) 3 D vwCl (wU ad cA) A 0 0 (sa σ 2 f) 34 [(2, .int (nI u)), (0, .ref (ad 0)), (1, .int (nI t))] [] := by
    intro u
    induction u with
    | zero =>
      intro f h1 h2 h3
      refine ux_iload_n C dX0_trace_34 0 rfl ?_
      refine ux_if_le C 65 dX0_trace_35 (by decide) (fun hc => ?_) (fun hc => ?_)
      · refine ux_vret C dX0_trace_65 ?_
        refine ⟨f, rfl, fun w hw => ?_⟩
        have h4 := h3 w hw
        by_cases ho : pq_on Q t w = true
        · rw [ho, pq_b_t]
          refine h4.mpr ?_
          rcases pq_on_inv hq t w ht ho with e | ⟨v, v0, v1, v2, v3⟩
          · exact Or.inl e
          · exact Or.inr ⟨v, v0, v1, v2, v3⟩
        · have hof : pq_on Q t w = false := by simpa using ho
          rw [hof, pq_b_f]
          rcases h2 w hw with e | e
          · exfalso
            rcases h4.mp e with e2 | ⟨v, v0, v1, v2, v3⟩
            · subst e2; exact ho (pq_on_self hq ht)
            · exact ho (v3 ▸ pq_on_step hq ht v2 v0)
          · exact e
      · exact absurd (show nI 0 ≤ 0 by decide) hc
    | succ u ih =>
      intro f h1 h2 h3
      refine ux_iload_n C dX0_trace_34 0 rfl ?_
      refine ux_if_le C 65 dX0_trace_35 (by decide) (fun hc => ?_) (fun hc => ?_)
      · exact absurd hc (nI_nle (by omega) (by omega))
      · have hu : f (u + 1) = 1 ↔ pq_on Q t (u + 1) = true := by
          rw [h3 (u + 1) (by omega)]
          constructor
          · rintro (e | ⟨v, v0, v1, v2, v3⟩)
            · rw [e]; exact pq_on_self hq ht
            · exact v3 ▸ pq_on_step hq ht v2 (by omega)
          · intro ho
            rcases pq_on_inv hq t (u + 1) ht ho with e | ⟨v, v0, v1, v2, v3⟩
            · exact Or.inl e
            · have := hq v v0 (by omega)
              exact Or.inr ⟨v, by omega, v1, v2, v3⟩
        have hqu := hq (u + 1) (by omega) (by omega)
        refine ux_aload_n C dX0_trace_38 1 rfl ?_
        refine ux_get C flX0_trace_18 0 rfl rfl rfl dX0_trace_39 ?_
        refine ux_iload_n C dX0_trace_42 0 rfl ?_
        refine ux_zald C 10 2 (u + 1) rfl rfl (rfl) (by omega) (by decide) dX0_trace_43 ?_
        refine ux_if_eq C 59 dX0_trace_44 (by decide) (fun h0 => ?_) (fun h0 => ?_)
        · have h0 : f (u + 1) = 0 := h0
          have hno : ¬ pq_on Q t (u + 1) = true := fun ho => by
            rw [hu.mpr ho] at h0
            exact absurd h0 (by decide)
          refine ux_iinc C (nI u) [(2, _), (0, _), (1, _)] dX0_trace_59 0 rfl (pq_dec u) (by decide) rfl ?_
          refine ux_goto C 34 dX0_trace_62 (by decide) ?_
          refine ih f (by omega) h2 (fun w hw => ?_)
          rw [h3 w hw]
          constructor
          · rintro (e | ⟨v, v0, v1, v2, v3⟩)
            · exact Or.inl e
            · exact Or.inr ⟨v, by omega, v1, v2, v3⟩
          · rintro (e | ⟨v, v0, v1, v2, v3⟩)
            · exact Or.inl e
            · by_cases e : v = u + 1
              · subst e; exact absurd v2 hno
              · exact Or.inr ⟨v, by omega, v1, v2, v3⟩
        · have h0 : ¬ f (u + 1) = 0 := h0
          have hyes : pq_on Q t (u + 1) = true := hu.mp (by rcases h2 (u + 1) (by omega) with e | e; exact e; exact absurd e h0)
          refine ux_aload_n C dX0_trace_47 1 rfl ?_
          refine ux_get C flX0_trace_18 0 rfl rfl rfl dX0_trace_48 ?_
          refine ux_aload_n C dX0_trace_51 1 rfl ?_
          refine ux_get C flX0_trace_9 0 rfl rfl rfl dX0_trace_52 ?_
          refine ux_iload_n C dX0_trace_55 0 rfl ?_
          refine ux_iald C 8 0 (u + 1) rfl rfl (rfl) (by omega) (by decide) dX0_trace_56 ?_
          refine ux_iconst C ((1 : Int32)) dX0_trace_57 (by decide) ?_
          refine ux_zast C 10 2 (Q (u + 1)) rfl rfl (hp (u + 1) (by omega) (by omega)) (by omega) (by decide) (rfl) dX0_trace_58 _ (awU_2 _ _ _ _) ?_
          refine ux_iinc C (nI u) [(2, _), (0, _), (1, _)] dX0_trace_59 0 rfl (pq_dec u) (by decide) rfl ?_
          refine ux_goto C 34 dX0_trace_62 (by decide) ?_
          refine ux_at (sa_sa _ _ _ _) ?_
          refine ih (upd f (Q (u + 1)) 1) (by omega) (fun w hw => ?_) (fun w hw => ?_)
          · rw [upd_at]; split
            · exact Or.inl rfl
            · exact h2 w hw
          · rw [upd_at]
            by_cases e : w = Q (u + 1)
            · rw [if_pos e]
              exact ⟨fun _ => Or.inr ⟨u + 1, by omega, by omega, hyes, e.symm⟩, fun _ => rfl⟩
            · rw [if_neg e, h3 w hw]
              constructor
              · rintro (e | ⟨v, v0, v1, v2, v3⟩)
                · exact Or.inl e
                · exact Or.inr ⟨v, by omega, v1, v2, v3⟩
              · rintro (e2 | ⟨v, v0, v1, v2, v3⟩)
                · exact Or.inl e2
                · by_cases e2 : v = u + 1
                  · subst e2; exact absurd v3.symm e
                  · exact Or.inr ⟨v, by omega, v1, v2, v3⟩
  have loop1 : ∀ (k i : Nat) (f : Nat → Int32), σ.2.1 0 + 2 ≤ i + k → i ≤ σ.2.1 0 + 1 → (∀ w, w < i → f w = pq_b (decide (w = t))) → ux_V p l e (ux_rm 0) s m ([.ref (ad 0), .int (nI t)] : List Value).toArray below meth c (MQ below (va_Qv (fun σ' => ∃ f, σ' = sa σ 2 f ∧ ∀ u, u ≤ σ.2.1 0 → f u = pq_b (pq_on Q t u)) (fun σ' t => va_P D vwCl (wU ad cA σ') t.heap) A) ([.ref (ad 0), .int (nI t)] : List Value).toArray s 0 0 A) 3 D vwCl (wU ad cA) A 0 0 (sa σ 2 f) 2 [(2, .int (nI i)), (0, .ref (ad 0)), (1, .int (nI t))] [] := by
    intro k
    induction k with
    | zero => intro i f h1 h2; omega
    | succ k ih =>
      intro i f h1 h2 h3
      refine ux_iload_n C dX0_trace_2 0 rfl ?_
      refine ux_aload_n C dX0_trace_3 1 rfl ?_
      refine ux_get C flX0_trace_22 0 rfl rfl rfl dX0_trace_4 ?_
      refine ux_icmp_gt C 32 dX0_trace_7 (by decide) (fun hc => ?_) (fun hc => ?_)
      · have hc : nI (σ.2.1 0) < nI i := hc
        have hc := (nI_ltI (by omega) (by omega)).mp hc
        refine ux_iload_n C dX0_trace_32 2 rfl ?_
        refine ux_istore_n C [(2, _), (0, _), (1, _)] dX0_trace_33 rfl (by decide) rfl ?_
        refine loop2 t f (Nat.le_refl _) (fun w hw => ?_) (fun w hw => ?_)
        · rw [h3 w (by omega)]
          cases decide (w = t)
          · exact Or.inr rfl
          · exact Or.inl rfl
        · rw [h3 w (by omega), pq_b1, decide_eq_true_eq]
          constructor
          · exact Or.inl
          · rintro (e | ⟨v, v0, v1, v2, v3⟩)
            · exact e
            · omega
      · have hc : ¬ nI (σ.2.1 0) < nI i := hc
        have hc := mt (nI_ltI (by omega) (by omega)).mpr hc
        refine ux_aload_n C dX0_trace_10 1 rfl ?_
        refine ux_get C flX0_trace_18 0 rfl rfl rfl dX0_trace_11 ?_
        refine ux_iload_n C dX0_trace_14 0 rfl ?_
        refine ux_iload_n C dX0_trace_15 0 rfl ?_
        refine ux_iload_n C dX0_trace_16 2 rfl ?_
        refine ux_icmp_ne C 24 dX0_trace_17 (by decide) (fun he => ?_) (fun he => ?_)
        · refine ux_iconst C ((0 : Int32)) dX0_trace_24 (by decide) ?_
          refine ux_zast C 10 2 (i) rfl rfl (rfl) (by omega) (by decide) (rfl) dX0_trace_25 _ (awU_2 _ _ _ _) ?_
          refine ux_iinc C (nI (i + 1)) [(2, _), (0, _), (1, _)] dX0_trace_26 0 rfl (pq_inc i) (by decide) rfl ?_
          refine ux_goto C 2 dX0_trace_29 (by decide) ?_
          refine ux_at (sa_sa _ _ _ _) ?_
          refine ih (i + 1) (upd f i 0) (by omega) (by omega) (fun w hw => ?_)
          rw [upd_at]; split
          · next e => subst e; rw [decide_eq_false (fun e => he (by rw [e]))]; rfl
          · exact h3 w (by omega)
        · refine ux_iconst C ((1 : Int32)) dX0_trace_20 (by decide) ?_
          refine ux_goto C 25 dX0_trace_21 (by decide) ?_
          refine ux_zast C 10 2 (i) rfl rfl (rfl) (by omega) (by decide) (rfl) dX0_trace_25 _ (awU_2 _ _ _ _) ?_
          refine ux_iinc C (nI (i + 1)) [(2, _), (0, _), (1, _)] dX0_trace_26 0 rfl (pq_inc i) (by decide) rfl ?_
          refine ux_goto C 2 dX0_trace_29 (by decide) ?_
          refine ux_at (sa_sa _ _ _ _) ?_
          refine ih (i + 1) (upd f i 1) (by omega) (by omega) (fun w hw => ?_)
          rw [upd_at]; split
          · next e => subst e; rw [decide_eq_true ((nI_eq (by omega) (by omega)).mp he)]; rfl
          · exact h3 w (by omega)
  refine ux_iconst C (nI 0) dX0_trace_0 (by decide) ?_
  refine ux_istore_n C [(2, _), (0, _), (1, _)] dX0_trace_1 rfl (by decide) rfl ?_
  refine ux_at (sa_self σ 2).symm ?_
  exact loop1 (σ.2.1 0 + 2) 0 (σ.1 2) (by omega) (by omega) (fun w hw => by omega)
set_option maxHeartbeats 4000000 in
set_option maxRecDepth 100000 in
theorem c_X0_line (l : Launch) (D : va_G) (ad : Nat → Nat) (cA : Nat → ClassId) (A : Nat → Prop) (σ : ST) : ux_R l D vwCl (tyU cA) (wU ad cA) A yX0_line wsX0_line (ux_rm 0) [.ref (ad 0)] σ (ad 10) (fun σ' => σ = σ') := by
  refine ux_ofR (cc := cX0_line) (maxL := 1) (ret := (some (.array .boolean))) (Ts := wsX0_line) (lv := [(0, .ref (ad 0))]) (by decide) rfl (fun _ h => h) (Nat.le_of_ble_eq_true rfl) rfl ?_
  intro p e s m below meth c C
  refine ux_aload_n C dX0_line_0 0 rfl ?_
  refine ux_get C flX0_line_18 0 rfl rfl rfl dX0_line_1 ?_
  exact ux_aret C dX0_line_4 (rfl)

