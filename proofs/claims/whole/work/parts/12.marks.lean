theorem hiX3_isFull_3 : ∀ w ∈ wsX30, w ∈ wsX3_isFull := by decide +kernel
theorem flX3_isFull_15 : ux_F wsX3_isFull RX3 15 RX3 TX3 2 1 := ⟨hiX3_isFull_3, by decide, by decide +kernel⟩
theorem hiX3_now_3 : ∀ w ∈ wsX30, w ∈ wsX3_now := by decide +kernel
theorem flX3_now_15 : ux_F wsX3_now RX3 15 RX3 TX3 2 1 := ⟨hiX3_now_3, by decide, by decide +kernel⟩
theorem hiX3_countOf_3 : ∀ w ∈ wsX30, w ∈ wsX3_countOf := by decide +kernel
theorem flX3_countOf_15 : ux_F wsX3_countOf RX3 15 RX3 TX3 2 1 := ⟨hiX3_countOf_3, by decide, by decide +kernel⟩
theorem flX3_countOf_9 : ux_F wsX3_countOf RX3 9 RX3 TX3 2 0 := ⟨hiX3_countOf_3, by decide, by decide +kernel⟩
theorem hiX3_find_3 : ∀ w ∈ wsX30, w ∈ wsX3_find := by decide +kernel
theorem flX3_find_15 : ux_F wsX3_find RX3 15 RX3 TX3 2 1 := ⟨hiX3_find_3, by decide, by decide +kernel⟩
theorem flX3_find_9 : ux_F wsX3_find RX3 9 RX3 TX3 2 0 := ⟨hiX3_find_3, by decide, by decide +kernel⟩
theorem hiX3_add_3 : ∀ w ∈ wsX30, w ∈ wsX3_add := by decide +kernel
theorem flX3_add_9 : ux_F wsX3_add RX3 9 RX3 TX3 2 0 := ⟨hiX3_add_3, by decide, by decide +kernel⟩
theorem flX3_add_15 : ux_F wsX3_add RX3 15 RX3 TX3 2 1 := ⟨hiX3_add_3, by decide, by decide +kernel⟩
theorem hiX3_dropAfter_3 : ∀ w ∈ wsX30, w ∈ wsX3_dropAfter := by decide +kernel
theorem flX3_dropAfter_15 : ux_F wsX3_dropAfter RX3 15 RX3 TX3 2 1 := ⟨hiX3_dropAfter_3, by decide, by decide +kernel⟩
theorem flX3_dropAfter_9 : ux_F wsX3_dropAfter RX3 9 RX3 TX3 2 0 := ⟨hiX3_dropAfter_3, by decide, by decide +kernel⟩
theorem hiX5_has_5 : ∀ w ∈ wsX50, w ∈ wsX5_has := by decide +kernel
theorem flX5_has_15 : ux_F wsX5_has RX5 15 RX5 TX5 2 1 := ⟨hiX5_has_5, by decide, by decide +kernel⟩
theorem hiX5_slotOf_5 : ∀ w ∈ wsX50, w ∈ wsX5_slotOf := by decide +kernel
theorem flX5_slotOf_9 : ux_F wsX5_slotOf RX5 9 RX5 TX5 2 0 := ⟨hiX5_slotOf_5, by decide, by decide +kernel⟩
theorem hiX5_kindOf_5 : ∀ w ∈ wsX50, w ∈ wsX5_kindOf := by decide +kernel
theorem flX5_kindOf_15 : ux_F wsX5_kindOf RX5 15 RX5 TX5 2 1 := ⟨hiX5_kindOf_5, by decide, by decide +kernel⟩
theorem hiX5_set_5 : ∀ w ∈ wsX50, w ∈ wsX5_set := by decide +kernel
theorem flX5_set_9 : ux_F wsX5_set RX5 9 RX5 TX5 2 0 := ⟨hiX5_set_5, by decide, by decide +kernel⟩
theorem flX5_set_15 : ux_F wsX5_set RX5 15 RX5 TX5 2 1 := ⟨hiX5_set_5, by decide, by decide +kernel⟩
theorem hiX5_clear_5 : ∀ w ∈ wsX50, w ∈ wsX5_clear := by decide +kernel
theorem flX5_clear_15 : ux_F wsX5_clear RX5 15 RX5 TX5 2 1 := ⟨hiX5_clear_5, by decide, by decide +kernel⟩
theorem gkX3_add_19 : ux_G wsX3_add RX3 19 RX3 yX3_countOf wsX3_countOf 1 := ⟨gX3_add_X3_countOf, by decide +kernel⟩
theorem gkX3_drop_23 : ux_G wsX3_drop RX3 23 RX3 yX3_dropAfter wsX3_dropAfter 2 := ⟨gX3_drop_X3_dropAfter, by decide +kernel⟩
set_option maxHeartbeats 4000000 in
set_option maxRecDepth 100000 in
theorem c_X3_isFull (l : Launch) (D : va_G) (ad : Nat → Nat) (cA : Nat → ClassId) (A : Nat → Prop) (σ : ST) (hm : σ.2.1 4 ≤ 512) : ux_I l D vwCl (tyU cA) (wU ad cA) A yX3_isFull wsX3_isFull (ux_rm 0) [.ref (ad 3)] σ (fun r σ' => r = pq_b (decide (σ.2.1 4 = 512)) ∧ σ = σ') := by
  refine ux_ofI (cc := cX3_isFull) (maxL := 1) (ret := (some .boolean)) (Ts := wsX3_isFull) (lv := [(0, .ref (ad 3))]) (by decide) rfl (fun _ h => h) (Nat.le_of_ble_eq_true rfl) rfl ?_
  intro p e s m below meth c C
  refine ux_aload_n C dX3_isFull_0 0 rfl ?_
  refine ux_get C flX3_isFull_15 3 rfl rfl rfl dX3_isFull_1 ?_
  refine ux_sipush C (nI 512) dX3_isFull_4 (by decide) ?_
  refine ux_icmp_ne C 14 dX3_isFull_7 (by decide) (fun h => ?_) (fun h => ?_)
  · refine ux_iconst C ((0 : Int32)) dX3_isFull_14 (by decide) ?_
    exact ux_zret C dX3_isFull_15 rfl (⟨by rw [decide_eq_false (fun e => h (by rw [e]))]; rfl, rfl⟩)
  · refine ux_iconst C ((1 : Int32)) dX3_isFull_10 (by decide) ?_
    refine ux_goto C 15 dX3_isFull_11 (by decide) ?_
    exact ux_zret C dX3_isFull_15 rfl (⟨by rw [decide_eq_true ((nI_eq (by omega) (by omega)).mp h)]; rfl, rfl⟩)
set_option maxHeartbeats 4000000 in
set_option maxRecDepth 100000 in
theorem c_X3_now (l : Launch) (D : va_G) (ad : Nat → Nat) (cA : Nat → ClassId) (A : Nat → Prop) (σ : ST) : ux_I l D vwCl (tyU cA) (wU ad cA) A yX3_now wsX3_now (ux_rm 0) [.ref (ad 3)] σ (fun r σ' => r = nI (σ.2.1 4) ∧ σ = σ') := by
  refine ux_ofI (cc := cX3_now) (maxL := 1) (ret := (some .int)) (Ts := wsX3_now) (lv := [(0, .ref (ad 3))]) (by decide) rfl (fun _ h => h) (Nat.le_of_ble_eq_true rfl) rfl ?_
  intro p e s m below meth c C
  refine ux_aload_n C dX3_now_0 0 rfl ?_
  refine ux_get C flX3_now_15 3 rfl rfl rfl dX3_now_1 ?_
  exact ux_iret C dX3_now_4 (⟨rfl, rfl⟩)
set_option maxHeartbeats 4000000 in
set_option maxRecDepth 100000 in
theorem c_X3_timeOf (l : Launch) (D : va_G) (ad : Nat → Nat) (cA : Nat → ClassId) (A : Nat → Prop) (σ : ST) (k : Nat) : ux_I l D vwCl (tyU cA) (wU ad cA) A yX3_timeOf wsX3_timeOf (ux_rm 0) [.ref (ad 3), .int (nI k)] σ (fun r σ' => r = nI (k + 1) ∧ σ = σ') := by
  refine ux_ofI (cc := cX3_timeOf) (maxL := 2) (ret := (some .int)) (Ts := wsX3_timeOf) (lv := [(0, .ref (ad 3)), (1, .int (nI k))]) (by decide) rfl (fun _ h => h) (Nat.le_of_ble_eq_true rfl) rfl ?_
  intro p e s m below meth c C
  refine ux_iload_n C dX3_timeOf_0 1 rfl ?_
  refine ux_iconst C ((1 : Int32)) dX3_timeOf_1 (by decide) ?_
  refine ux_iadd C dX3_timeOf_2 ?_
  exact ux_iret C dX3_timeOf_3 (⟨nI_1 _, rfl⟩)
set_option maxHeartbeats 4000000 in
set_option maxRecDepth 100000 in
theorem c_X3_countOf (l : Launch) (D : va_G) (ad : Nat → Nat) (cA : Nat → ClassId) (A : Nat → Prop) (σ : ST) (t : Int32) (hm : σ.2.1 4 ≤ 512) : ux_I l D vwCl (tyU cA) (wU ad cA) A yX3_countOf wsX3_countOf (ux_rm 0) [.ref (ad 3), .int t] σ (fun r σ' => r = nI (pq_cnt (fun r => decide (σ.1 14 r = t)) (σ.2.1 4)) ∧ σ = σ') := by
  refine ux_ofI (cc := cX3_countOf) (maxL := 4) (ret := (some .int)) (Ts := wsX3_countOf) (lv := [(0, .ref (ad 3)), (1, .int t)]) (by decide) rfl (fun _ h => h) (Nat.le_of_ble_eq_true rfl) rfl ?_
  intro p e s m below meth c C
  have loop : ∀ (k i : Nat), σ.2.1 4 + 1 ≤ i + k → i ≤ σ.2.1 4 → ux_V p l e (ux_rm 0) s m ([.ref (ad 3), .int t] : List Value).toArray below meth c (MQ below (va_Qi (fun r σ' => r = nI (pq_cnt (fun r => decide (σ.1 14 r = t)) (σ.2.1 4)) ∧ σ = σ') (fun σ' t => va_P D vwCl (wU ad cA σ') t.heap) A) ([.ref (ad 3), .int t] : List Value).toArray s 0 0 A) 4 D vwCl (wU ad cA) A 0 0 σ 4 [(3, .int (nI i)), (2, .int (nI (pq_cnt (fun r => decide (σ.1 14 r = t)) i))), (0, .ref (ad 3)), (1, .int t)] [] := by
    intro k
    induction k with
    | zero => intro i h1 h2; omega
    | succ k ih =>
      intro i h1 h2
      refine ux_iload_n C dX3_countOf_4 0 rfl ?_
      refine ux_aload_n C dX3_countOf_5 2 rfl ?_
      refine ux_get C flX3_countOf_15 3 rfl rfl rfl dX3_countOf_6 ?_
      refine ux_icmp_ge C 31 dX3_countOf_9 (by decide) (fun hc => ?_) (fun hc => ?_)
      · have hc := (nI_leI (by omega) (by omega)).mp hc
        have e : i = σ.2.1 4 := by omega
        subst e
        refine ux_iload_n C dX3_countOf_31 1 rfl ?_
        exact ux_iret C dX3_countOf_32 (⟨rfl, rfl⟩)
      · have hc := mt (nI_leI (by omega) (by omega)).mpr hc
        have hih := ih (i + 1) (by omega) (by omega)
        simp only [pq_cnt] at hih
        refine ux_aload_n C dX3_countOf_12 2 rfl ?_
        refine ux_get C flX3_countOf_9 3 rfl rfl rfl dX3_countOf_13 ?_
        refine ux_iload_n C dX3_countOf_16 0 rfl ?_
        refine ux_iald C 22 14 (i) rfl rfl (rfl) (by omega) (by decide) dX3_countOf_17 ?_
        refine ux_iload_n C dX3_countOf_18 3 rfl ?_
        refine ux_icmp_ne C 25 dX3_countOf_19 (by decide) (fun h4 => ?_) (fun h4 => ?_)
        · rw [if_neg (by simp [h4])] at hih
          refine ux_iinc C (nI (i + 1)) [(3, _), (2, _), (0, _), (1, _)] dX3_countOf_25 0 rfl (pq_inc i) (by decide) rfl ?_
          refine ux_goto C 4 dX3_countOf_28 (by decide) ?_
          exact hih
        · rw [if_pos (by simp [h4])] at hih
          refine ux_iinc C (nI (_ + 1)) [(2, _), (3, _), (0, _), (1, _)] dX3_countOf_22 1 rfl (pq_inc _) (by decide) rfl ?_
          refine ux_iinc C (nI (i + 1)) [(3, _), (2, _), (0, _), (1, _)] dX3_countOf_25 1 rfl (pq_inc i) (by decide) rfl ?_
          refine ux_goto C 4 dX3_countOf_28 (by decide) ?_
          exact hih
  refine ux_iconst C (nI 0) dX3_countOf_0 (by decide) ?_
  refine ux_istore_n C [(2, _), (0, _), (1, _)] dX3_countOf_1 rfl (by decide) rfl ?_
  refine ux_iconst C (nI 0) dX3_countOf_2 (by decide) ?_
  refine ux_istore_n C [(3, _), (2, _), (0, _), (1, _)] dX3_countOf_3 rfl (by decide) rfl ?_
  exact loop (σ.2.1 4 + 1) 0 (by omega) (by omega)
set_option maxHeartbeats 4000000 in
set_option maxRecDepth 100000 in
theorem c_X3_find (l : Launch) (D : va_G) (ad : Nat → Nat) (cA : Nat → ClassId) (A : Nat → Prop) (σ : ST) (t x : Int32) (hm : σ.2.1 4 ≤ 512) : ux_I l D vwCl (tyU cA) (wU ad cA) A yX3_find wsX3_find (ux_rm 0) [.ref (ad 3), .int t, .int x] σ (fun r σ' => r = pq_o (pq_fst (fun r => decide (σ.1 14 r = t) && decide (nI (pq_cnt (fun r => decide (σ.1 14 r = t)) r) = x)) (σ.2.1 4)) ∧ σ = σ') := by
  refine ux_ofI (cc := cX3_find) (maxL := 5) (ret := (some .int)) (Ts := wsX3_find) (lv := [(0, .ref (ad 3)), (1, .int t), (2, .int x)]) (by decide) rfl (fun _ h => h) (Nat.le_of_ble_eq_true rfl) rfl ?_
  intro p e s m below meth c C
  have loop : ∀ (k i : Nat), σ.2.1 4 + 1 ≤ i + k → i ≤ σ.2.1 4 → (∀ j, j < i → (decide (σ.1 14 j = t) && decide (nI (pq_cnt (fun r => decide (σ.1 14 r = t)) j) = x)) = false) → ux_V p l e (ux_rm 0) s m ([.ref (ad 3), .int t, .int x] : List Value).toArray below meth c (MQ below (va_Qi (fun r σ' => r = pq_o (pq_fst (fun r => decide (σ.1 14 r = t) && decide (nI (pq_cnt (fun r => decide (σ.1 14 r = t)) r) = x)) (σ.2.1 4)) ∧ σ = σ') (fun σ' t => va_P D vwCl (wU ad cA σ') t.heap) A) ([.ref (ad 3), .int t, .int x] : List Value).toArray s 0 0 A) 5 D vwCl (wU ad cA) A 0 0 σ 5 [(4, .int (nI i)), (3, .int (nI (pq_cnt (fun r => decide (σ.1 14 r = t)) i))), (0, .ref (ad 3)), (1, .int t), (2, .int x)] [] := by
    intro k
    induction k with
    | zero => intro i h1 h2; omega
    | succ k ih =>
      intro i h1 h2 h3
      refine ux_iload C dX3_find_5 0 rfl ?_
      refine ux_aload_n C dX3_find_7 2 rfl ?_
      refine ux_get C flX3_find_15 3 rfl rfl rfl dX3_find_8 ?_
      refine ux_icmp_ge C 42 dX3_find_11 (by decide) (fun hc => ?_) (fun hc => ?_)
      · have hc := (nI_leI (by omega) (by omega)).mp hc
        have e : i = σ.2.1 4 := by omega
        subst e
        refine ux_iconst C ((-1 : Int32)) dX3_find_42 (by decide) ?_
        exact ux_iret C dX3_find_43 (⟨by rw [pq_fst_none.mpr h3]; rfl, rfl⟩)
      · have hc := mt (nI_leI (by omega) (by omega)).mpr hc
        have hih := fun (hz : (decide (σ.1 14 i = t) && decide (nI (pq_cnt (fun r => decide (σ.1 14 r = t)) i) = x)) = false) => ih (i + 1) (by omega) (by omega) (fun j hj => (Nat.lt_succ_iff_lt_or_eq.mp hj).elim (h3 j) (fun e => by rw [e]; exact hz))
        simp only [pq_cnt] at hih
        refine ux_aload_n C dX3_find_14 2 rfl ?_
        refine ux_get C flX3_find_9 3 rfl rfl rfl dX3_find_15 ?_
        refine ux_iload C dX3_find_18 0 rfl ?_
        refine ux_iald C 22 14 (i) rfl rfl (rfl) (by omega) (by decide) dX3_find_20 ?_
        refine ux_iload_n C dX3_find_21 3 rfl ?_
        refine ux_icmp_ne C 36 dX3_find_22 (by decide) (fun h4 => ?_) (fun h4 => ?_)
        · rw [if_neg (by simp [h4])] at hih
          refine ux_iinc C (nI (i + 1)) [(4, _), (3, _), (0, _), (1, _), (2, _)] dX3_find_36 0 rfl (pq_inc i) (by decide) rfl ?_
          refine ux_goto C 5 dX3_find_39 (by decide) ?_
          exact hih (by simp [h4])
        · rw [if_pos (by simp [h4])] at hih
          refine ux_iload_n C dX3_find_25 1 rfl ?_
          refine ux_iload_n C dX3_find_26 4 rfl ?_
          refine ux_icmp_ne C 33 dX3_find_27 (by decide) (fun h5 => ?_) (fun h5 => ?_)
          · refine ux_iinc C (nI (_ + 1)) [(3, _), (4, _), (0, _), (1, _), (2, _)] dX3_find_33 1 rfl (pq_inc _) (by decide) rfl ?_
            refine ux_iinc C (nI (i + 1)) [(4, _), (3, _), (0, _), (1, _), (2, _)] dX3_find_36 1 rfl (pq_inc i) (by decide) rfl ?_
            refine ux_goto C 5 dX3_find_39 (by decide) ?_
            exact hih (by simp [h5])
          · refine ux_iload C dX3_find_30 0 rfl ?_
            exact ux_iret C dX3_find_32 (⟨by rw [pq_fst_some.mpr ⟨by omega, by simp [h4, h5], h3⟩]; rfl, rfl⟩)
  refine ux_iconst C (nI 0) dX3_find_0 (by decide) ?_
  refine ux_istore_n C [(3, _), (0, _), (1, _), (2, _)] dX3_find_1 rfl (by decide) rfl ?_
  refine ux_iconst C (nI 0) dX3_find_2 (by decide) ?_
  refine ux_istore C [(4, _), (3, _), (0, _), (1, _), (2, _)] dX3_find_3 (by decide) rfl ?_
  exact loop (σ.2.1 4 + 1) 0 (by omega) (by omega) (fun j hj => by omega)
set_option maxHeartbeats 4000000 in
set_option maxRecDepth 100000 in
theorem c_X3_add (l : Launch) (D : va_G) (ad : Nat → Nat) (cA : Nat → ClassId) (A : Nat → Prop) (σ : ST) (t : Int32) (hm : σ.2.1 4 < 512) : ux_I l D vwCl (tyU cA) (wU ad cA) A yX3_add wsX3_add (ux_rm 1) [.ref (ad 3), .int t] σ (fun r σ' => r = nI (pq_cnt (fun r => decide (σ.1 14 r = t)) (σ.2.1 4)) ∧ σ' = sf (sa σ 14 (upd (σ.1 14) (σ.2.1 4) t)) 4 (σ.2.1 4 + 1)) := by
  refine ux_ofI (cc := cX3_add) (maxL := 3) (ret := (some .int)) (Ts := wsX3_add) (lv := [(0, .ref (ad 3)), (1, .int t)]) (by decide) rfl (fun _ h => h) (Nat.le_of_ble_eq_true rfl) rfl ?_
  intro p e s m below meth c C
  refine ux_aload_n C dX3_add_0 0 rfl ?_
  refine ux_iload_n C dX3_add_1 1 rfl ?_
  refine ux_callI C gkX3_add_19 (c_X3_countOf l D ad cA A σ t (by omega)) rfl ⟨rfl, rfl⟩ ⟨(Nat.le_of_ble_eq_true rfl), (Nat.le_of_ble_eq_true rfl)⟩ ⟨Nat.le_refl _, Nat.le_refl _⟩ 3 rfl rfl rfl rfl (Nat.le_of_ble_eq_true rfl) dX3_add_2 (fun r σ1 hr => ?_)
  obtain ⟨rfl, rfl⟩ := hr
  refine ux_istore_n C [(2, _), (0, _), (1, _)] dX3_add_5 rfl (by decide) rfl ?_
  refine ux_aload_n C dX3_add_6 1 rfl ?_
  refine ux_get C flX3_add_9 3 rfl rfl rfl dX3_add_7 ?_
  refine ux_aload_n C dX3_add_10 1 rfl ?_
  refine ux_get C flX3_add_15 3 rfl rfl rfl dX3_add_11 ?_
  refine ux_iload_n C dX3_add_14 2 rfl ?_
  refine ux_iast C 22 14 (σ.2.1 4) rfl rfl (rfl) (by omega) (by decide) dX3_add_15 _ (awU_14 _ _ _ _) ?_
  refine ux_aload_n C dX3_add_16 1 rfl ?_
  refine ux_dup C dX3_add_17 rfl ?_
  refine ux_get C flX3_add_15 3 rfl rfl rfl dX3_add_18 ?_
  refine ux_iconst C ((1 : Int32)) dX3_add_21 (by decide) ?_
  refine ux_iadd C dX3_add_22 ?_
  refine ux_top (nI (σ.2.1 4 + 1)) (nI_1 _) ?_
  refine ux_putI C flX3_add_15 fiU_4 3 rfl rfl (Nat.le_of_ble_eq_true rfl) dX3_add_23 _ (fwU_4 _ _ _ _) ?_
  refine ux_iload_n C dX3_add_26 0 rfl ?_
  exact ux_iret C dX3_add_27 (⟨rfl, rfl⟩)
set_option maxHeartbeats 4000000 in
set_option maxRecDepth 100000 in
theorem c_X3_dropAfter (l : Launch) (D : va_G) (ad : Nat → Nat) (cA : Nat → ClassId) (A : Nat → Prop) (σ : ST) (t x : Int32) (a : Nat) (hx : x + 1 = nI a) (ha : a ≤ σ.2.1 4) (hm : σ.2.1 4 ≤ 512) : ux_N l D vwCl (tyU cA) (wU ad cA) A yX3_dropAfter wsX3_dropAfter (ux_rm 0) [.ref (ad 3), .int t, .int x] σ (fun σ' => σ' = sa σ 14 (pq_msk (fun r => decide (a ≤ r) && decide (σ.1 14 r = t)) (-1) (σ.1 14) (σ.2.1 4))) := by
  refine ux_ofN (cc := cX3_dropAfter) (maxL := 4) (ret := none) (Ts := wsX3_dropAfter) (lv := [(0, .ref (ad 3)), (1, .int t), (2, .int x)]) (by decide) rfl (fun _ h => h) (Nat.le_of_ble_eq_true rfl) rfl ?_
  intro p e s m below meth c C
  have loop : ∀ (k i : Nat), σ.2.1 4 + 1 ≤ i + k → a ≤ i → i ≤ σ.2.1 4 → ux_V p l e (ux_rm 0) s m ([.ref (ad 3), .int t, .int x] : List Value).toArray below meth c (MQ below (va_Qv (fun σ' => σ' = sa σ 14 (pq_msk (fun r => decide (a ≤ r) && decide (σ.1 14 r = t)) (-1) (σ.1 14) (σ.2.1 4))) (fun σ' t => va_P D vwCl (wU ad cA σ') t.heap) A) ([.ref (ad 3), .int t, .int x] : List Value).toArray s 0 0 A) 4 D vwCl (wU ad cA) A 0 0 (sa σ 14 (pq_msk (fun r => decide (a ≤ r) && decide (σ.1 14 r = t)) (-1) (σ.1 14) i)) 4 [(3, .int (nI i)), (0, .ref (ad 3)), (1, .int t), (2, .int x)] [] := by
    intro k
    induction k with
    | zero => intro i h1 h2 h3; omega
    | succ k ih =>
      intro i h1 h2 h3
      refine ux_iload_n C dX3_dropAfter_4 0 rfl ?_
      refine ux_aload_n C dX3_dropAfter_5 1 rfl ?_
      refine ux_get C flX3_dropAfter_15 3 rfl rfl rfl dX3_dropAfter_6 ?_
      refine ux_icmp_ge C 35 dX3_dropAfter_9 (by decide) (fun hc => ?_) (fun hc => ?_)
      · have hc : nI (σ.2.1 4) ≤ nI i := hc
        have hc := (nI_leI (by omega) (by omega)).mp hc
        have e : i = σ.2.1 4 := by omega
        subst e
        exact ux_vret C dX3_dropAfter_35 (rfl)
      · have hc : ¬ nI (σ.2.1 4) ≤ nI i := hc
        have hc := mt (nI_leI (by omega) (by omega)).mpr hc
        have hih := ih (i + 1) (by omega) (by omega) (by omega)
        refine ux_aload_n C dX3_dropAfter_12 1 rfl ?_
        refine ux_get C flX3_dropAfter_9 3 rfl rfl rfl dX3_dropAfter_13 ?_
        refine ux_iload_n C dX3_dropAfter_16 0 rfl ?_
        refine ux_iald C 22 14 (i) rfl rfl (rfl) (by omega) (by decide) dX3_dropAfter_17 ?_
        refine ux_top _ (congrFun (sa_eq _ _ _) _) ?_
        refine ux_top _ (pq_msk_at _ _ _ _) ?_
        refine ux_iload_n C dX3_dropAfter_18 2 rfl ?_
        refine ux_icmp_ne C 29 dX3_dropAfter_19 (by decide) (fun h4 => ?_) (fun h4 => ?_)
        · rw [← pq_msk_f (by simp [h4])] at hih
          refine ux_iinc C (nI (i + 1)) [(3, _), (0, _), (1, _), (2, _)] dX3_dropAfter_29 0 rfl (pq_inc i) (by decide) rfl ?_
          refine ux_goto C 4 dX3_dropAfter_32 (by decide) ?_
          exact hih
        · rw [← pq_msk_t (by simp [h4, h2])] at hih
          refine ux_aload_n C dX3_dropAfter_22 1 rfl ?_
          refine ux_get C flX3_dropAfter_9 3 rfl rfl rfl dX3_dropAfter_23 ?_
          refine ux_iload_n C dX3_dropAfter_26 0 rfl ?_
          refine ux_iconst C ((-1 : Int32)) dX3_dropAfter_27 (by decide) ?_
          refine ux_iast C 22 14 (i) rfl rfl (rfl) (by omega) (by decide) dX3_dropAfter_28 _ (awU_14 _ _ _ _) ?_
          refine ux_iinc C (nI (i + 1)) [(3, _), (0, _), (1, _), (2, _)] dX3_dropAfter_29 0 rfl (pq_inc i) (by decide) rfl ?_
          refine ux_goto C 4 dX3_dropAfter_32 (by decide) ?_
          refine ux_at (sa_sa _ _ _ _) ?_
          exact hih
  refine ux_iload_n C dX3_dropAfter_0 2 rfl ?_
  refine ux_iconst C ((1 : Int32)) dX3_dropAfter_1 (by decide) ?_
  refine ux_iadd C dX3_dropAfter_2 ?_
  refine ux_top (nI a) hx ?_
  refine ux_istore_n C [(3, _), (0, _), (1, _), (2, _)] dX3_dropAfter_3 rfl (by decide) rfl ?_
  refine ux_at (sa_self σ 14).symm ?_
  have hl := loop (σ.2.1 4 + 1) a (by omega) (by omega) ha
  rw [pq_msk_id (i := a) (fun j hj => by simp [show ¬ a ≤ j by omega])] at hl
  exact hl
set_option maxHeartbeats 4000000 in
set_option maxRecDepth 100000 in
theorem c_X3_drop (l : Launch) (D : va_G) (ad : Nat → Nat) (cA : Nat → ClassId) (A : Nat → Prop) (σ : ST) (t : Int32) (hm : σ.2.1 4 ≤ 512) : ux_N l D vwCl (tyU cA) (wU ad cA) A yX3_drop wsX3_drop (ux_rm 1) [.ref (ad 3), .int t] σ (fun σ' => σ' = sa σ 14 (pq_msk (fun r => decide (σ.1 14 r = t)) (-1) (σ.1 14) (σ.2.1 4))) := by
  refine ux_ofN (cc := cX3_drop) (maxL := 2) (ret := none) (Ts := wsX3_drop) (lv := [(0, .ref (ad 3)), (1, .int t)]) (by decide) rfl (fun _ h => h) (Nat.le_of_ble_eq_true rfl) rfl ?_
  intro p e s m below meth c C
  refine ux_aload_n C dX3_drop_0 0 rfl ?_
  refine ux_iload_n C dX3_drop_1 1 rfl ?_
  refine ux_iconst C ((-1 : Int32)) dX3_drop_2 (by decide) ?_
  refine ux_callN C gkX3_drop_23 (c_X3_dropAfter l D ad cA A σ t (-1) 0 (by decide) (by omega) hm) rfl ⟨rfl, rfl⟩ ⟨(Nat.le_of_ble_eq_true rfl), (Nat.le_of_ble_eq_true rfl)⟩ ⟨Nat.le_refl _, Nat.le_refl _⟩ 3 rfl rfl rfl rfl (Nat.le_of_ble_eq_true rfl) dX3_drop_3 (fun σ1 hr => ?_)
  exact ux_vret C dX3_drop_6 (hr.trans (by simp))
set_option maxHeartbeats 4000000 in
set_option maxRecDepth 100000 in
theorem c_X5_has (l : Launch) (D : va_G) (ad : Nat → Nat) (cA : Nat → ClassId) (A : Nat → Prop) (σ : ST) (k : Nat) (hk : k ≤ 150) : ux_I l D vwCl (tyU cA) (wU ad cA) A yX5_has wsX5_has (ux_rm 0) [.ref (ad 5), .int (nI k)] σ (fun r σ' => r = pq_b (!decide (σ.1 16 k = 0)) ∧ σ = σ') := by
  refine ux_ofI (cc := cX5_has) (maxL := 2) (ret := (some .boolean)) (Ts := wsX5_has) (lv := [(0, .ref (ad 5)), (1, .int (nI k))]) (by decide) rfl (fun _ h => h) (Nat.le_of_ble_eq_true rfl) rfl ?_
  intro p e s m below meth c C
  refine ux_aload_n C dX5_has_0 0 rfl ?_
  refine ux_get C flX5_has_15 5 rfl rfl rfl dX5_has_1 ?_
  refine ux_iload_n C dX5_has_4 1 rfl ?_
  refine ux_iald C 24 16 (_) rfl rfl (rfl) (by omega) (by decide) dX5_has_5 ?_
  refine ux_if_eq C 13 dX5_has_6 (by decide) (fun h => ?_) (fun h => ?_)
  · refine ux_iconst C ((0 : Int32)) dX5_has_13 (by decide) ?_
    exact ux_zret C dX5_has_14 rfl (⟨by rw [decide_eq_true h]; rfl, rfl⟩)
  · refine ux_iconst C ((1 : Int32)) dX5_has_9 (by decide) ?_
    refine ux_goto C 14 dX5_has_10 (by decide) ?_
    exact ux_zret C dX5_has_14 rfl (⟨by rw [decide_eq_false h]; rfl, rfl⟩)
set_option maxHeartbeats 4000000 in
set_option maxRecDepth 100000 in
theorem c_X5_slotOf (l : Launch) (D : va_G) (ad : Nat → Nat) (cA : Nat → ClassId) (A : Nat → Prop) (σ : ST) (k : Nat) (hk : k ≤ 150) : ux_I l D vwCl (tyU cA) (wU ad cA) A yX5_slotOf wsX5_slotOf (ux_rm 0) [.ref (ad 5), .int (nI k)] σ (fun r σ' => r = σ.1 15 k ∧ σ = σ') := by
  refine ux_ofI (cc := cX5_slotOf) (maxL := 2) (ret := (some .int)) (Ts := wsX5_slotOf) (lv := [(0, .ref (ad 5)), (1, .int (nI k))]) (by decide) rfl (fun _ h => h) (Nat.le_of_ble_eq_true rfl) rfl ?_
  intro p e s m below meth c C
  refine ux_aload_n C dX5_slotOf_0 0 rfl ?_
  refine ux_get C flX5_slotOf_9 5 rfl rfl rfl dX5_slotOf_1 ?_
  refine ux_iload_n C dX5_slotOf_4 1 rfl ?_
  refine ux_iald C 23 15 (_) rfl rfl (rfl) (by omega) (by decide) dX5_slotOf_5 ?_
  exact ux_iret C dX5_slotOf_6 (⟨rfl, rfl⟩)
set_option maxHeartbeats 4000000 in
set_option maxRecDepth 100000 in
theorem c_X5_kindOf (l : Launch) (D : va_G) (ad : Nat → Nat) (cA : Nat → ClassId) (A : Nat → Prop) (σ : ST) (k : Nat) (hk : k ≤ 150) : ux_I l D vwCl (tyU cA) (wU ad cA) A yX5_kindOf wsX5_kindOf (ux_rm 0) [.ref (ad 5), .int (nI k)] σ (fun r σ' => r = σ.1 16 k ∧ σ = σ') := by
  refine ux_ofI (cc := cX5_kindOf) (maxL := 2) (ret := (some .int)) (Ts := wsX5_kindOf) (lv := [(0, .ref (ad 5)), (1, .int (nI k))]) (by decide) rfl (fun _ h => h) (Nat.le_of_ble_eq_true rfl) rfl ?_
  intro p e s m below meth c C
  refine ux_aload_n C dX5_kindOf_0 0 rfl ?_
  refine ux_get C flX5_kindOf_15 5 rfl rfl rfl dX5_kindOf_1 ?_
  refine ux_iload_n C dX5_kindOf_4 1 rfl ?_
  refine ux_iald C 24 16 (_) rfl rfl (rfl) (by omega) (by decide) dX5_kindOf_5 ?_
  exact ux_iret C dX5_kindOf_6 (⟨rfl, rfl⟩)
set_option maxHeartbeats 4000000 in
set_option maxRecDepth 100000 in
theorem c_X5_set (l : Launch) (D : va_G) (ad : Nat → Nat) (cA : Nat → ClassId) (A : Nat → Prop) (σ : ST) (k : Nat) (x y : Int32) (hk : k ≤ 150) : ux_N l D vwCl (tyU cA) (wU ad cA) A yX5_set wsX5_set (ux_rm 0) [.ref (ad 5), .int (nI k), .int x, .int y] σ (fun σ' => σ' = sa (sa σ 15 (upd (σ.1 15) k x)) 16 (upd (σ.1 16) k y)) := by
  refine ux_ofN (cc := cX5_set) (maxL := 4) (ret := none) (Ts := wsX5_set) (lv := [(0, .ref (ad 5)), (1, .int (nI k)), (2, .int x), (3, .int y)]) (by decide) rfl (fun _ h => h) (Nat.le_of_ble_eq_true rfl) rfl ?_
  intro p e s m below meth c C
  refine ux_aload_n C dX5_set_0 0 rfl ?_
  refine ux_get C flX5_set_9 5 rfl rfl rfl dX5_set_1 ?_
  refine ux_iload_n C dX5_set_4 1 rfl ?_
  refine ux_iload_n C dX5_set_5 2 rfl ?_
  refine ux_iast C 23 15 (_) rfl rfl (rfl) (by omega) (by decide) dX5_set_6 _ (awU_15 _ _ _ _) ?_
  refine ux_aload_n C dX5_set_7 0 rfl ?_
  refine ux_get C flX5_set_15 5 rfl rfl rfl dX5_set_8 ?_
  refine ux_iload_n C dX5_set_11 1 rfl ?_
  refine ux_iload_n C dX5_set_12 3 rfl ?_
  refine ux_iast C 24 16 (_) rfl rfl (rfl) (by omega) (by decide) dX5_set_13 _ (awU_16 _ _ _ _) ?_
  exact ux_vret C dX5_set_14 (rfl)
set_option maxHeartbeats 4000000 in
set_option maxRecDepth 100000 in
theorem c_X5_clear (l : Launch) (D : va_G) (ad : Nat → Nat) (cA : Nat → ClassId) (A : Nat → Prop) (σ : ST) (k : Nat) (hk : k ≤ 150) : ux_N l D vwCl (tyU cA) (wU ad cA) A yX5_clear wsX5_clear (ux_rm 0) [.ref (ad 5), .int (nI k)] σ (fun σ' => σ' = sa σ 16 (upd (σ.1 16) k 0)) := by
  refine ux_ofN (cc := cX5_clear) (maxL := 2) (ret := none) (Ts := wsX5_clear) (lv := [(0, .ref (ad 5)), (1, .int (nI k))]) (by decide) rfl (fun _ h => h) (Nat.le_of_ble_eq_true rfl) rfl ?_
  intro p e s m below meth c C
  refine ux_aload_n C dX5_clear_0 0 rfl ?_
  refine ux_get C flX5_clear_15 5 rfl rfl rfl dX5_clear_1 ?_
  refine ux_iload_n C dX5_clear_4 1 rfl ?_
  refine ux_iconst C ((0 : Int32)) dX5_clear_5 (by decide) ?_
  refine ux_iast C 24 16 (_) rfl rfl (rfl) (by omega) (by decide) dX5_clear_6 _ (awU_16 _ _ _ _) ?_
  exact ux_vret C dX5_clear_7 (rfl)

