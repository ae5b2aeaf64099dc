theorem hiX1_isFull_1 : ∀ w ∈ wsX10, w ∈ wsX1_isFull := by decide +kernel
theorem flX1_isFull_21 : ux_F wsX1_isFull RX1 21 RX1 TX1 4 3 := ⟨hiX1_isFull_1, by decide, by decide +kernel⟩
theorem hiX1_find_1 : ∀ w ∈ wsX10, w ∈ wsX1_find := by decide +kernel
theorem flX1_find_21 : ux_F wsX1_find RX1 21 RX1 TX1 4 3 := ⟨hiX1_find_1, by decide, by decide +kernel⟩
theorem flX1_find_9 : ux_F wsX1_find RX1 9 RX1 TX1 4 0 := ⟨hiX1_find_1, by decide, by decide +kernel⟩
theorem flX1_find_15 : ux_F wsX1_find RX1 15 RX1 TX1 4 1 := ⟨hiX1_find_1, by decide, by decide +kernel⟩
theorem hiX1_kindOf_1 : ∀ w ∈ wsX10, w ∈ wsX1_kindOf := by decide +kernel
theorem flX1_kindOf_18 : ux_F wsX1_kindOf RX1 18 RX1 TX1 4 2 := ⟨hiX1_kindOf_1, by decide, by decide +kernel⟩
theorem hiX1_countOf_1 : ∀ w ∈ wsX10, w ∈ wsX1_countOf := by decide +kernel
theorem flX1_countOf_21 : ux_F wsX1_countOf RX1 21 RX1 TX1 4 3 := ⟨hiX1_countOf_1, by decide, by decide +kernel⟩
theorem flX1_countOf_9 : ux_F wsX1_countOf RX1 9 RX1 TX1 4 0 := ⟨hiX1_countOf_1, by decide, by decide +kernel⟩
theorem flX1_countOf_18 : ux_F wsX1_countOf RX1 18 RX1 TX1 4 2 := ⟨hiX1_countOf_1, by decide, by decide +kernel⟩
theorem hiX1_drop_1 : ∀ w ∈ wsX10, w ∈ wsX1_drop := by decide +kernel
theorem flX1_drop_21 : ux_F wsX1_drop RX1 21 RX1 TX1 4 3 := ⟨hiX1_drop_1, by decide, by decide +kernel⟩
theorem flX1_drop_9 : ux_F wsX1_drop RX1 9 RX1 TX1 4 0 := ⟨hiX1_drop_1, by decide, by decide +kernel⟩
theorem hiX1_isInTheWay_1 : ∀ w ∈ wsX10, w ∈ wsX1_isInTheWay := by decide +kernel
theorem flX1_isInTheWay_15 : ux_F wsX1_isInTheWay RX1 15 RX1 TX1 4 1 := ⟨hiX1_isInTheWay_1, by decide, by decide +kernel⟩
theorem flX1_isInTheWay_9 : ux_F wsX1_isInTheWay RX1 9 RX1 TX1 4 0 := ⟨hiX1_isInTheWay_1, by decide, by decide +kernel⟩
theorem flX1_isInTheWay_18 : ux_F wsX1_isInTheWay RX1 18 RX1 TX1 4 2 := ⟨hiX1_isInTheWay_1, by decide, by decide +kernel⟩
theorem hiX1_leastInTheWay_1 : ∀ w ∈ wsX10, w ∈ wsX1_leastInTheWay := by decide +kernel
theorem flX1_leastInTheWay_21 : ux_F wsX1_leastInTheWay RX1 21 RX1 TX1 4 3 := ⟨hiX1_leastInTheWay_1, by decide, by decide +kernel⟩
theorem flX1_leastInTheWay_9 : ux_F wsX1_leastInTheWay RX1 9 RX1 TX1 4 0 := ⟨hiX1_leastInTheWay_1, by decide, by decide +kernel⟩
theorem hiX1_add_1 : ∀ w ∈ wsX10, w ∈ wsX1_add := by decide +kernel
theorem flX1_add_9 : ux_F wsX1_add RX1 9 RX1 TX1 4 0 := ⟨hiX1_add_1, by decide, by decide +kernel⟩
theorem flX1_add_21 : ux_F wsX1_add RX1 21 RX1 TX1 4 3 := ⟨hiX1_add_1, by decide, by decide +kernel⟩
theorem flX1_add_15 : ux_F wsX1_add RX1 15 RX1 TX1 4 1 := ⟨hiX1_add_1, by decide, by decide +kernel⟩
theorem flX1_add_18 : ux_F wsX1_add RX1 18 RX1 TX1 4 2 := ⟨hiX1_add_1, by decide, by decide +kernel⟩
theorem gkX1_kindOf_25 : ux_G wsX1_kindOf RX1 25 RX1 yX1_find wsX1_find 2 := ⟨gX1_kindOf_X1_find, by decide +kernel⟩
theorem gkX1_leastInTheWay_34 : ux_G wsX1_leastInTheWay RX1 34 RX1 yX1_isInTheWay wsX1_isInTheWay 4 := ⟨gX1_leastInTheWay_X1_isInTheWay, by decide +kernel⟩
theorem gkX1_add_25 : ux_G wsX1_add RX1 25 RX1 yX1_find wsX1_find 2 := ⟨gX1_add_X1_find, by decide +kernel⟩
set_option maxHeartbeats 4000000 in
set_option maxRecDepth 100000 in
theorem c_X1_isFull (l : Launch) (D : va_G) (ad : Nat → Nat) (cA : Nat → ClassId) (A : Nat → Prop) (σ : ST) (hm : σ.2.1 3 ≤ 512) : ux_I l D vwCl (tyU cA) (wU ad cA) A yX1_isFull wsX1_isFull (ux_rm 0) [.ref (ad 1)] σ (fun r σ' => r = pq_b (decide (σ.2.1 3 = 512)) ∧ σ = σ') := by
  refine ux_ofI (cc := cX1_isFull) (maxL := 1) (ret := (some .boolean)) (Ts := wsX1_isFull) (lv := [(0, .ref (ad 1))]) (by decide) rfl (fun _ h => h) (Nat.le_of_ble_eq_true rfl) rfl ?_
  intro p e s m below meth c C
  refine ux_aload_n C dX1_isFull_0 0 rfl ?_
  refine ux_get C flX1_isFull_21 1 rfl rfl rfl dX1_isFull_1 ?_
  refine ux_sipush C (nI 512) dX1_isFull_4 (by decide) ?_
  refine ux_icmp_ne C 14 dX1_isFull_7 (by decide) (fun h => ?_) (fun h => ?_)
  · refine ux_iconst C ((0 : Int32)) dX1_isFull_14 (by decide) ?_
    exact ux_zret C dX1_isFull_15 rfl (⟨by rw [decide_eq_false (fun e => h (by rw [e]))]; rfl, rfl⟩)
  · refine ux_iconst C ((1 : Int32)) dX1_isFull_10 (by decide) ?_
    refine ux_goto C 15 dX1_isFull_11 (by decide) ?_
    exact ux_zret C dX1_isFull_15 rfl (⟨by rw [decide_eq_true ((nI_eq (by omega) (by omega)).mp h)]; rfl, rfl⟩)
set_option maxHeartbeats 4000000 in
set_option maxRecDepth 100000 in
theorem c_X1_find (l : Launch) (D : va_G) (ad : Nat → Nat) (cA : Nat → ClassId) (A : Nat → Prop) (σ : ST) (t x : Int32) (hm : σ.2.1 3 ≤ 512) : ux_I l D vwCl (tyU cA) (wU ad cA) A yX1_find wsX1_find (ux_rm 0) [.ref (ad 1), .int t, .int x] σ (fun r σ' => r = pq_o (pq_fst (fun r => decide (σ.1 11 r = t) && decide (σ.1 12 r = x)) (σ.2.1 3)) ∧ σ = σ') := by
  refine ux_ofI (cc := cX1_find) (maxL := 4) (ret := (some .int)) (Ts := wsX1_find) (lv := [(0, .ref (ad 1)), (1, .int t), (2, .int x)]) (by decide) rfl (fun _ h => h) (Nat.le_of_ble_eq_true rfl) rfl ?_
  intro p e s m below meth c C
  have loop : ∀ (k i : Nat), σ.2.1 3 + 1 ≤ i + k → i ≤ σ.2.1 3 → (∀ j, j < i → (decide (σ.1 11 j = t) && decide (σ.1 12 j = x)) = false) → ux_V p l e (ux_rm 0) s m ([.ref (ad 1), .int t, .int x] : List Value).toArray below meth c (MQ below (va_Qi (fun r σ' => r = pq_o (pq_fst (fun r => decide (σ.1 11 r = t) && decide (σ.1 12 r = x)) (σ.2.1 3)) ∧ σ = σ') (fun σ' t => va_P D vwCl (wU ad cA σ') t.heap) A) ([.ref (ad 1), .int t, .int x] : List Value).toArray s 0 0 A) 4 D vwCl (wU ad cA) A 0 0 σ 2 [(3, .int (nI i)), (0, .ref (ad 1)), (1, .int t), (2, .int x)] [] := by
    intro k
    induction k with
    | zero => intro i h1 h2; omega
    | succ k ih =>
      intro i h1 h2 h3
      refine ux_iload_n C dX1_find_2 0 rfl ?_
      refine ux_aload_n C dX1_find_3 1 rfl ?_
      refine ux_get C flX1_find_21 1 rfl rfl rfl dX1_find_4 ?_
      refine ux_icmp_ge C 38 dX1_find_7 (by decide) (fun hc => ?_) (fun hc => ?_)
      · have hc := (nI_leI (by omega) (by omega)).mp hc
        have e : i = σ.2.1 3 := by omega
        subst e
        refine ux_iconst C ((-1 : Int32)) dX1_find_38 (by decide) ?_
        exact ux_iret C dX1_find_39 (⟨by rw [pq_fst_none.mpr h3]; rfl, rfl⟩)
      · have hc := mt (nI_leI (by omega) (by omega)).mpr hc
        have hih := fun (hz : (decide (σ.1 11 i = t) && decide (σ.1 12 i = x)) = false) => ih (i + 1) (by omega) (by omega) (fun j hj => (Nat.lt_succ_iff_lt_or_eq.mp hj).elim (h3 j) (fun e => by rw [e]; exact hz))
        refine ux_aload_n C dX1_find_10 1 rfl ?_
        refine ux_get C flX1_find_9 1 rfl rfl rfl dX1_find_11 ?_
        refine ux_iload_n C dX1_find_14 0 rfl ?_
        refine ux_iald C 19 11 (i) rfl rfl (rfl) (by omega) (by decide) dX1_find_15 ?_
        refine ux_iload_n C dX1_find_16 2 rfl ?_
        refine ux_icmp_ne C 32 dX1_find_17 (by decide) (fun h4 => ?_) (fun h4 => ?_)
        · refine ux_iinc C (nI (i + 1)) [(3, _), (0, _), (1, _), (2, _)] dX1_find_32 0 rfl (pq_inc i) (by decide) rfl ?_
          refine ux_goto C 2 dX1_find_35 (by decide) ?_
          exact hih (by simp [h4])
        · refine ux_aload_n C dX1_find_20 1 rfl ?_
          refine ux_get C flX1_find_15 1 rfl rfl rfl dX1_find_21 ?_
          refine ux_iload_n C dX1_find_24 0 rfl ?_
          refine ux_iald C 20 12 (i) rfl rfl (rfl) (by omega) (by decide) dX1_find_25 ?_
          refine ux_iload_n C dX1_find_26 3 rfl ?_
          refine ux_icmp_ne C 32 dX1_find_27 (by decide) (fun h5 => ?_) (fun h5 => ?_)
          · refine ux_iinc C (nI (i + 1)) [(3, _), (0, _), (1, _), (2, _)] dX1_find_32 0 rfl (pq_inc i) (by decide) rfl ?_
            refine ux_goto C 2 dX1_find_35 (by decide) ?_
            exact hih (by simp [h5])
          · refine ux_iload_n C dX1_find_30 0 rfl ?_
            exact ux_iret C dX1_find_31 (⟨by rw [pq_fst_some.mpr ⟨by omega, by simp [h4, h5], h3⟩]; rfl, rfl⟩)
  refine ux_iconst C (nI 0) dX1_find_0 (by decide) ?_
  refine ux_istore_n C [(3, _), (0, _), (1, _), (2, _)] dX1_find_1 rfl (by decide) rfl ?_
  exact loop (σ.2.1 3 + 1) 0 (by omega) (by omega) (fun j hj => by omega)
set_option maxHeartbeats 4000000 in
set_option maxRecDepth 100000 in
theorem c_X1_kindOf (l : Launch) (D : va_G) (ad : Nat → Nat) (cA : Nat → ClassId) (A : Nat → Prop) (σ : ST) (t x : Int32) (hm : σ.2.1 3 ≤ 512) : ux_I l D vwCl (tyU cA) (wU ad cA) A yX1_kindOf wsX1_kindOf (ux_rm 1) [.ref (ad 1), .int t, .int x] σ (fun r σ' => r = (match pq_fst (fun r => decide (σ.1 11 r = t) && decide (σ.1 12 r = x)) (σ.2.1 3) with | none => 0 | some q => σ.1 13 q) ∧ σ = σ') := by
  refine ux_ofI (cc := cX1_kindOf) (maxL := 4) (ret := (some .int)) (Ts := wsX1_kindOf) (lv := [(0, .ref (ad 1)), (1, .int t), (2, .int x)]) (by decide) rfl (fun _ h => h) (Nat.le_of_ble_eq_true rfl) rfl ?_
  intro p e s m below meth c C
  refine ux_aload_n C dX1_kindOf_0 0 rfl ?_
  refine ux_iload_n C dX1_kindOf_1 1 rfl ?_
  refine ux_iload_n C dX1_kindOf_2 2 rfl ?_
  refine ux_callI C gkX1_kindOf_25 (c_X1_find l D ad cA A σ t x hm) rfl ⟨rfl, rfl⟩ ⟨(Nat.le_of_ble_eq_true rfl), (Nat.le_of_ble_eq_true rfl)⟩ ⟨Nat.le_refl _, Nat.le_refl _⟩ 1 rfl rfl rfl rfl (Nat.le_of_ble_eq_true rfl) dX1_kindOf_3 (fun r σ1 hr => ?_)
  obtain ⟨hr, rfl⟩ := hr
  cases hf : pq_fst (fun r => decide (σ.1 11 r = t) && decide (σ.1 12 r = x)) (σ.2.1 3) with
  | none =>
    rw [hf] at hr
    have hr : r = -1 := hr
    subst hr
    refine ux_istore_n C [(3, _), (0, _), (1, _), (2, _)] dX1_kindOf_6 rfl (by decide) rfl ?_
    refine ux_iload_n C dX1_kindOf_7 0 rfl ?_
    refine ux_iconst C ((-1 : Int32)) dX1_kindOf_8 (by decide) ?_
    refine ux_icmp_ne C 16 dX1_kindOf_9 (by decide) (fun h => ?_) (fun h => ?_)
    · exact absurd rfl h
    · refine ux_iconst C ((0 : Int32)) dX1_kindOf_12 (by decide) ?_
      refine ux_goto C 22 dX1_kindOf_13 (by decide) ?_
      exact ux_iret C dX1_kindOf_22 (⟨rfl, rfl⟩)
  | some q =>
    rw [hf] at hr
    have hr : r = nI q := hr
    subst hr
    have hq := (pq_fst_some.mp hf).1
    refine ux_istore_n C [(3, _), (0, _), (1, _), (2, _)] dX1_kindOf_6 rfl (by decide) rfl ?_
    refine ux_iload_n C dX1_kindOf_7 0 rfl ?_
    refine ux_iconst C ((-1 : Int32)) dX1_kindOf_8 (by decide) ?_
    refine ux_icmp_ne C 16 dX1_kindOf_9 (by decide) (fun h => ?_) (fun h => ?_)
    · refine ux_aload_n C dX1_kindOf_16 1 rfl ?_
      refine ux_get C flX1_kindOf_18 1 rfl rfl rfl dX1_kindOf_17 ?_
      refine ux_iload_n C dX1_kindOf_20 0 rfl ?_
      refine ux_iald C 21 13 (q) rfl rfl (rfl) (by omega) (by decide) dX1_kindOf_21 ?_
      exact ux_iret C dX1_kindOf_22 (⟨rfl, rfl⟩)
    · exact absurd h (pq_nI_m1 (by omega))
set_option maxHeartbeats 4000000 in
set_option maxRecDepth 100000 in
theorem c_X1_countOf (l : Launch) (D : va_G) (ad : Nat → Nat) (cA : Nat → ClassId) (A : Nat → Prop) (σ : ST) (t x : Int32) (hm : σ.2.1 3 ≤ 512) : ux_I l D vwCl (tyU cA) (wU ad cA) A yX1_countOf wsX1_countOf (ux_rm 0) [.ref (ad 1), .int t, .int x] σ (fun r σ' => r = nI (pq_cnt (fun r => decide (σ.1 11 r = t) && decide (σ.1 13 r = x)) (σ.2.1 3)) ∧ σ = σ') := by
  refine ux_ofI (cc := cX1_countOf) (maxL := 5) (ret := (some .int)) (Ts := wsX1_countOf) (lv := [(0, .ref (ad 1)), (1, .int t), (2, .int x)]) (by decide) rfl (fun _ h => h) (Nat.le_of_ble_eq_true rfl) rfl ?_
  intro p e s m below meth c C
  have loop : ∀ (k i : Nat), σ.2.1 3 + 1 ≤ i + k → i ≤ σ.2.1 3 → ux_V p l e (ux_rm 0) s m ([.ref (ad 1), .int t, .int x] : List Value).toArray below meth c (MQ below (va_Qi (fun r σ' => r = nI (pq_cnt (fun r => decide (σ.1 11 r = t) && decide (σ.1 13 r = x)) (σ.2.1 3)) ∧ σ = σ') (fun σ' t => va_P D vwCl (wU ad cA σ') t.heap) A) ([.ref (ad 1), .int t, .int x] : List Value).toArray s 0 0 A) 5 D vwCl (wU ad cA) A 0 0 σ 5 [(4, .int (nI i)), (3, .int (nI (pq_cnt (fun r => decide (σ.1 11 r = t) && decide (σ.1 13 r = x)) i))), (0, .ref (ad 1)), (1, .int t), (2, .int x)] [] := by
    intro k
    induction k with
    | zero => intro i h1 h2; omega
    | succ k ih =>
      intro i h1 h2
      refine ux_iload C dX1_countOf_5 0 rfl ?_
      refine ux_aload_n C dX1_countOf_7 2 rfl ?_
      refine ux_get C flX1_countOf_21 1 rfl rfl rfl dX1_countOf_8 ?_
      refine ux_icmp_ge C 45 dX1_countOf_11 (by decide) (fun hc => ?_) (fun hc => ?_)
      · have hc := (nI_leI (by omega) (by omega)).mp hc
        have e : i = σ.2.1 3 := by omega
        subst e
        refine ux_iload_n C dX1_countOf_45 1 rfl ?_
        exact ux_iret C dX1_countOf_46 (⟨rfl, rfl⟩)
      · have hc := mt (nI_leI (by omega) (by omega)).mpr hc
        have hih := ih (i + 1) (by omega) (by omega)
        simp only [pq_cnt] at hih
        refine ux_aload_n C dX1_countOf_14 2 rfl ?_
        refine ux_get C flX1_countOf_9 1 rfl rfl rfl dX1_countOf_15 ?_
        refine ux_iload C dX1_countOf_18 0 rfl ?_
        refine ux_iald C 19 11 (i) rfl rfl (rfl) (by omega) (by decide) dX1_countOf_20 ?_
        refine ux_iload_n C dX1_countOf_21 3 rfl ?_
        refine ux_icmp_ne C 39 dX1_countOf_22 (by decide) (fun h4 => ?_) (fun h4 => ?_)
        · rw [if_neg (by simp [h4])] at hih
          refine ux_iinc C (nI (i + 1)) [(4, _), (3, _), (0, _), (1, _), (2, _)] dX1_countOf_39 0 rfl (pq_inc i) (by decide) rfl ?_
          refine ux_goto C 5 dX1_countOf_42 (by decide) ?_
          exact hih
        · refine ux_aload_n C dX1_countOf_25 2 rfl ?_
          refine ux_get C flX1_countOf_18 1 rfl rfl rfl dX1_countOf_26 ?_
          refine ux_iload C dX1_countOf_29 0 rfl ?_
          refine ux_iald C 21 13 (i) rfl rfl (rfl) (by omega) (by decide) dX1_countOf_31 ?_
          refine ux_iload_n C dX1_countOf_32 4 rfl ?_
          refine ux_icmp_ne C 39 dX1_countOf_33 (by decide) (fun h5 => ?_) (fun h5 => ?_)
          · rw [if_neg (by simp [h5])] at hih
            refine ux_iinc C (nI (i + 1)) [(4, _), (3, _), (0, _), (1, _), (2, _)] dX1_countOf_39 0 rfl (pq_inc i) (by decide) rfl ?_
            refine ux_goto C 5 dX1_countOf_42 (by decide) ?_
            exact hih
          · rw [if_pos (by simp [h4, h5])] at hih
            refine ux_iinc C (nI (_ + 1)) [(3, _), (4, _), (0, _), (1, _), (2, _)] dX1_countOf_36 1 rfl (pq_inc _) (by decide) rfl ?_
            refine ux_iinc C (nI (i + 1)) [(4, _), (3, _), (0, _), (1, _), (2, _)] dX1_countOf_39 1 rfl (pq_inc i) (by decide) rfl ?_
            refine ux_goto C 5 dX1_countOf_42 (by decide) ?_
            exact hih
  refine ux_iconst C (nI 0) dX1_countOf_0 (by decide) ?_
  refine ux_istore_n C [(3, _), (0, _), (1, _), (2, _)] dX1_countOf_1 rfl (by decide) rfl ?_
  refine ux_iconst C (nI 0) dX1_countOf_2 (by decide) ?_
  refine ux_istore C [(4, _), (3, _), (0, _), (1, _), (2, _)] dX1_countOf_3 (by decide) rfl ?_
  exact loop (σ.2.1 3 + 1) 0 (by omega) (by omega)
set_option maxHeartbeats 4000000 in
set_option maxRecDepth 100000 in
theorem c_X1_drop (l : Launch) (D : va_G) (ad : Nat → Nat) (cA : Nat → ClassId) (A : Nat → Prop) (σ : ST) (t : Int32) (hm : σ.2.1 3 ≤ 512) : ux_N l D vwCl (tyU cA) (wU ad cA) A yX1_drop wsX1_drop (ux_rm 0) [.ref (ad 1), .int t] σ (fun σ' => σ' = sa σ 11 (pq_msk (fun r => decide (σ.1 11 r = t)) (-1) (σ.1 11) (σ.2.1 3))) := by
  refine ux_ofN (cc := cX1_drop) (maxL := 3) (ret := none) (Ts := wsX1_drop) (lv := [(0, .ref (ad 1)), (1, .int t)]) (by decide) rfl (fun _ h => h) (Nat.le_of_ble_eq_true rfl) rfl ?_
  intro p e s m below meth c C
  have loop : ∀ (k i : Nat), σ.2.1 3 + 1 ≤ i + k → i ≤ σ.2.1 3 → ux_V p l e (ux_rm 0) s m ([.ref (ad 1), .int t] : List Value).toArray below meth c (MQ below (va_Qv (fun σ' => σ' = sa σ 11 (pq_msk (fun r => decide (σ.1 11 r = t)) (-1) (σ.1 11) (σ.2.1 3))) (fun σ' t => va_P D vwCl (wU ad cA σ') t.heap) A) ([.ref (ad 1), .int t] : List Value).toArray s 0 0 A) 3 D vwCl (wU ad cA) A 0 0 (sa σ 11 (pq_msk (fun r => decide (σ.1 11 r = t)) (-1) (σ.1 11) i)) 2 [(2, .int (nI i)), (0, .ref (ad 1)), (1, .int t)] [] := by
    intro k
    induction k with
    | zero => intro i h1 h2; omega
    | succ k ih =>
      intro i h1 h2
      refine ux_iload_n C dX1_drop_2 0 rfl ?_
      refine ux_aload_n C dX1_drop_3 1 rfl ?_
      refine ux_get C flX1_drop_21 1 rfl rfl rfl dX1_drop_4 ?_
      refine ux_icmp_ge C 33 dX1_drop_7 (by decide) (fun hc => ?_) (fun hc => ?_)
      · have hc : nI (σ.2.1 3) ≤ nI i := hc
        have hc := (nI_leI (by omega) (by omega)).mp hc
        have e : i = σ.2.1 3 := by omega
        subst e
        exact ux_vret C dX1_drop_33 (rfl)
      · have hc : ¬ nI (σ.2.1 3) ≤ nI i := hc
        have hc := mt (nI_leI (by omega) (by omega)).mpr hc
        have hih := ih (i + 1) (by omega) (by omega)
        refine ux_aload_n C dX1_drop_10 1 rfl ?_
        refine ux_get C flX1_drop_9 1 rfl rfl rfl dX1_drop_11 ?_
        refine ux_iload_n C dX1_drop_14 0 rfl ?_
        refine ux_iald C 19 11 (i) rfl rfl (rfl) (by omega) (by decide) dX1_drop_15 ?_
        refine ux_top _ (congrFun (sa_eq _ _ _) _) ?_
        refine ux_top _ (pq_msk_at _ _ _ _) ?_
        refine ux_iload_n C dX1_drop_16 2 rfl ?_
        refine ux_icmp_ne C 27 dX1_drop_17 (by decide) (fun h4 => ?_) (fun h4 => ?_)
        · rw [← pq_msk_f (by simp [h4])] at hih
          refine ux_iinc C (nI (i + 1)) [(2, _), (0, _), (1, _)] dX1_drop_27 0 rfl (pq_inc i) (by decide) rfl ?_
          refine ux_goto C 2 dX1_drop_30 (by decide) ?_
          exact hih
        · rw [← pq_msk_t (by simp [h4])] at hih
          refine ux_aload_n C dX1_drop_20 1 rfl ?_
          refine ux_get C flX1_drop_9 1 rfl rfl rfl dX1_drop_21 ?_
          refine ux_iload_n C dX1_drop_24 0 rfl ?_
          refine ux_iconst C ((-1 : Int32)) dX1_drop_25 (by decide) ?_
          refine ux_iast C 19 11 (i) rfl rfl (rfl) (by omega) (by decide) dX1_drop_26 _ (awU_11 _ _ _ _) ?_
          refine ux_iinc C (nI (i + 1)) [(2, _), (0, _), (1, _)] dX1_drop_27 0 rfl (pq_inc i) (by decide) rfl ?_
          refine ux_goto C 2 dX1_drop_30 (by decide) ?_
          refine ux_at (sa_sa _ _ _ _) ?_
          exact hih
  refine ux_iconst C (nI 0) dX1_drop_0 (by decide) ?_
  refine ux_istore_n C [(2, _), (0, _), (1, _)] dX1_drop_1 rfl (by decide) rfl ?_
  refine ux_at (sa_self σ 11).symm ?_
  have hl := loop (σ.2.1 3 + 1) 0 (by omega) (by omega)
  rw [pq_msk_id (i := 0) (fun j hj => by omega)] at hl
  exact hl
set_option maxHeartbeats 4000000 in
set_option maxRecDepth 100000 in
theorem c_X1_isInTheWay (l : Launch) (D : va_G) (ad : Nat → Nat) (cA : Nat → ClassId) (A : Nat → Prop) (σ : ST) (r : Nat) (x y : Int32) (hr : r < 512) (ho : σ.1 11 r = -1 ∨ ∃ o, o ≤ 150 ∧ σ.1 11 r = nI o) : ux_I l D vwCl (tyU cA) (wU ad cA) A yX1_isInTheWay wsX1_isInTheWay (ux_rm 0) [.ref (ad 1), .int (nI r), .int x, .int y, .ref (ad 10)] σ (fun z σ' => z = pq_b (pq_way σ x y r) ∧ σ = σ') := by
  refine ux_ofI (cc := cX1_isInTheWay) (maxL := 5) (ret := (some .boolean)) (Ts := wsX1_isInTheWay) (lv := [(0, .ref (ad 1)), (1, .int (nI r)), (2, .int x), (3, .int y), (4, .ref (ad 10))]) (by decide) rfl (fun _ h => h) (Nat.le_of_ble_eq_true rfl) rfl ?_
  intro p e s m below meth c C
  refine ux_aload_n C dX1_isInTheWay_0 0 rfl ?_
  refine ux_get C flX1_isInTheWay_15 1 rfl rfl rfl dX1_isInTheWay_1 ?_
  refine ux_iload_n C dX1_isInTheWay_4 1 rfl ?_
  refine ux_iald C 20 12 (r) rfl rfl (rfl) (hr) (by decide) dX1_isInTheWay_5 ?_
  refine ux_iload_n C dX1_isInTheWay_6 2 rfl ?_
  refine ux_icmp_ne C 32 dX1_isInTheWay_7 (by decide) (fun h1 => ?_) (fun h1 => ?_)
  · refine ux_iconst C ((0 : Int32)) dX1_isInTheWay_32 (by decide) ?_
    exact ux_zret C dX1_isInTheWay_33 rfl (⟨by simp [pq_way, pq_b, h1], rfl⟩)
  · refine ux_aload_n C dX1_isInTheWay_10 0 rfl ?_
    refine ux_get C flX1_isInTheWay_9 1 rfl rfl rfl dX1_isInTheWay_11 ?_
    refine ux_iload_n C dX1_isInTheWay_14 1 rfl ?_
    refine ux_iald C 19 11 (r) rfl rfl (rfl) (hr) (by decide) dX1_isInTheWay_15 ?_
    refine ux_iconst C ((-1 : Int32)) dX1_isInTheWay_16 (by decide) ?_
    refine ux_icmp_eq C 32 dX1_isInTheWay_17 (by decide) (fun h2 => ?_) (fun h2 => ?_)
    · refine ux_iconst C ((0 : Int32)) dX1_isInTheWay_32 (by decide) ?_
      exact ux_zret C dX1_isInTheWay_33 rfl (⟨by simp [pq_way, pq_b, h2], rfl⟩)
    · obtain ⟨o, o1, o2⟩ := ho.resolve_left h2
      have hw : pq_way σ x y r = (decide (σ.1 2 o = 0) && (decide (y = 2) || decide (σ.1 13 r = 2))) := by
        unfold pq_way
        rw [decide_eq_true h1, decide_eq_false h2, o2, nI_clamp (by omega)]
        rfl
      rw [hw]
      refine ux_aload C dX1_isInTheWay_20 4 rfl ?_
      refine ux_aload_n C dX1_isInTheWay_22 0 rfl ?_
      refine ux_get C flX1_isInTheWay_9 1 rfl rfl rfl dX1_isInTheWay_23 ?_
      refine ux_iload_n C dX1_isInTheWay_26 1 rfl ?_
      refine ux_iald C 19 11 (r) rfl rfl (rfl) (hr) (by decide) dX1_isInTheWay_27 ?_
      refine ux_zald C 10 2 (o) rfl rfl (o2) (by omega) (by decide) dX1_isInTheWay_28 ?_
      refine ux_if_eq C 34 dX1_isInTheWay_29 (by decide) (fun h3 => ?_) (fun h3 => ?_)
      · refine ux_iload_n C dX1_isInTheWay_34 3 rfl ?_
        refine ux_iconst C ((2 : Int32)) dX1_isInTheWay_35 (by decide) ?_
        refine ux_icmp_eq C 49 dX1_isInTheWay_36 (by decide) (fun h4 => ?_) (fun h4 => ?_)
        · refine ux_iconst C ((1 : Int32)) dX1_isInTheWay_49 (by decide) ?_
          refine ux_goto C 54 dX1_isInTheWay_50 (by decide) ?_
          exact ux_zret C dX1_isInTheWay_54 rfl (⟨by rw [decide_eq_true h3, decide_eq_true h4]; rfl, rfl⟩)
        · refine ux_aload_n C dX1_isInTheWay_39 0 rfl ?_
          refine ux_get C flX1_isInTheWay_18 1 rfl rfl rfl dX1_isInTheWay_40 ?_
          refine ux_iload_n C dX1_isInTheWay_43 1 rfl ?_
          refine ux_iald C 21 13 (r) rfl rfl (rfl) (hr) (by decide) dX1_isInTheWay_44 ?_
          refine ux_iconst C ((2 : Int32)) dX1_isInTheWay_45 (by decide) ?_
          refine ux_icmp_ne C 53 dX1_isInTheWay_46 (by decide) (fun h5 => ?_) (fun h5 => ?_)
          · refine ux_iconst C ((0 : Int32)) dX1_isInTheWay_53 (by decide) ?_
            exact ux_zret C dX1_isInTheWay_54 rfl (⟨by rw [decide_eq_true h3, decide_eq_false h4, decide_eq_false h5]; rfl, rfl⟩)
          · refine ux_iconst C ((1 : Int32)) dX1_isInTheWay_49 (by decide) ?_
            refine ux_goto C 54 dX1_isInTheWay_50 (by decide) ?_
            exact ux_zret C dX1_isInTheWay_54 rfl (⟨by rw [decide_eq_true h3, decide_eq_false h4, decide_eq_true h5]; rfl, rfl⟩)
      · refine ux_iconst C ((0 : Int32)) dX1_isInTheWay_32 (by decide) ?_
        exact ux_zret C dX1_isInTheWay_33 rfl (⟨by rw [decide_eq_false h3]; rfl, rfl⟩)
set_option maxHeartbeats 4000000 in
set_option maxRecDepth 100000 in
theorem c_X1_leastInTheWay (l : Launch) (D : va_G) (ad : Nat → Nat) (cA : Nat → ClassId) (A : Nat → Prop) (σ : ST) (x y : Int32) (hm : σ.2.1 3 ≤ 512) (hO : ∀ r, r < σ.2.1 3 → σ.1 11 r = -1 ∨ ∃ o, o ≤ 150 ∧ σ.1 11 r = nI o) : ux_I l D vwCl (tyU cA) (wU ad cA) A yX1_leastInTheWay wsX1_leastInTheWay (ux_rm 1) [.ref (ad 1), .int x, .int y, .ref (ad 10)] σ (fun r σ' => r = pq_lw (pq_way σ x y) (σ.1 11) (σ.2.1 3) ∧ σ = σ') := by
  refine ux_ofI (cc := cX1_leastInTheWay) (maxL := 6) (ret := (some .int)) (Ts := wsX1_leastInTheWay) (lv := [(0, .ref (ad 1)), (1, .int x), (2, .int y), (3, .ref (ad 10))]) (by decide) rfl (fun _ h => h) (Nat.le_of_ble_eq_true rfl) rfl ?_
  intro p e s m below meth c C
  have loop : ∀ (k i : Nat), σ.2.1 3 + 1 ≤ i + k → i ≤ σ.2.1 3 → ux_V p l e (ux_rm 1) s m ([.ref (ad 1), .int x, .int y, .ref (ad 10)] : List Value).toArray below meth c (MQ below (va_Qi (fun r σ' => r = pq_lw (pq_way σ x y) (σ.1 11) (σ.2.1 3) ∧ σ = σ') (fun σ' t => va_P D vwCl (wU ad cA σ') t.heap) A) ([.ref (ad 1), .int x, .int y, .ref (ad 10)] : List Value).toArray s 0 0 A) 6 D vwCl (wU ad cA) A 0 0 σ 6 [(5, .int (nI i)), (4, .int (pq_lw (pq_way σ x y) (σ.1 11) i)), (0, .ref (ad 1)), (1, .int x), (2, .int y), (3, .ref (ad 10))] [] := by
    intro k
    induction k with
    | zero => intro i h1 h2; omega
    | succ k ih =>
      intro i h1 h2
      refine ux_iload C dX1_leastInTheWay_6 0 rfl ?_
      refine ux_aload_n C dX1_leastInTheWay_8 2 rfl ?_
      refine ux_get C flX1_leastInTheWay_21 1 rfl rfl rfl dX1_leastInTheWay_9 ?_
      refine ux_icmp_ge C 59 dX1_leastInTheWay_12 (by decide) (fun hc => ?_) (fun hc => ?_)
      · have hc := (nI_leI (by omega) (by omega)).mp hc
        have e : i = σ.2.1 3 := by omega
        subst e
        refine ux_iload C dX1_leastInTheWay_59 1 rfl ?_
        exact ux_iret C dX1_leastInTheWay_61 (⟨rfl, rfl⟩)
      · have hc := mt (nI_leI (by omega) (by omega)).mpr hc
        have hih := ih (i + 1) (by omega) (by omega)
        simp only [pq_lw] at hih
        refine ux_aload_n C dX1_leastInTheWay_15 2 rfl ?_
        refine ux_iload C dX1_leastInTheWay_16 0 rfl ?_
        refine ux_iload_n C dX1_leastInTheWay_18 3 rfl ?_
        refine ux_iload_n C dX1_leastInTheWay_19 4 rfl ?_
        refine ux_aload_n C dX1_leastInTheWay_20 5 rfl ?_
        refine ux_callI C gkX1_leastInTheWay_34 (c_X1_isInTheWay l D ad cA A σ i x y (by omega) (hO i (by omega))) rfl ⟨rfl, rfl⟩ ⟨(Nat.le_of_ble_eq_true rfl), (Nat.le_of_ble_eq_true rfl)⟩ ⟨Nat.le_refl _, Nat.le_refl _⟩ 1 rfl rfl rfl rfl (Nat.le_of_ble_eq_true rfl) dX1_leastInTheWay_21 (fun r σ1 hr => ?_)
        obtain ⟨rfl, rfl⟩ := hr
        refine ux_if_eq C 53 dX1_leastInTheWay_24 (by decide) (fun h4 => ?_) (fun h4 => ?_)
        · rw [if_neg (by simp [(pq_b0 _).mp h4])] at hih
          refine ux_iinc C (nI (i + 1)) [(5, _), (4, _), (0, _), (1, _), (2, _), (3, _)] dX1_leastInTheWay_53 0 rfl (pq_inc i) (by decide) rfl ?_
          refine ux_goto C 6 dX1_leastInTheWay_56 (by decide) ?_
          exact hih
        · have h4 := (pq_bn0 _).mp h4
          refine ux_iload C dX1_leastInTheWay_27 1 rfl ?_
          refine ux_if_eq C 44 dX1_leastInTheWay_29 (by decide) (fun h5 => ?_) (fun h5 => ?_)
          · rw [if_pos (by simp [h4, h5])] at hih
            refine ux_aload_n C dX1_leastInTheWay_44 2 rfl ?_
            refine ux_get C flX1_leastInTheWay_9 1 rfl rfl rfl dX1_leastInTheWay_45 ?_
            refine ux_iload C dX1_leastInTheWay_48 0 rfl ?_
            refine ux_iald C 19 11 (i) rfl rfl (rfl) (by omega) (by decide) dX1_leastInTheWay_50 ?_
            refine ux_istore C [(4, _), (5, _), (0, _), (1, _), (2, _), (3, _)] dX1_leastInTheWay_51 (by decide) rfl ?_
            refine ux_iinc C (nI (i + 1)) [(5, _), (4, _), (0, _), (1, _), (2, _), (3, _)] dX1_leastInTheWay_53 1 rfl (pq_inc i) (by decide) rfl ?_
            refine ux_goto C 6 dX1_leastInTheWay_56 (by decide) ?_
            exact hih
          · refine ux_aload_n C dX1_leastInTheWay_32 2 rfl ?_
            refine ux_get C flX1_leastInTheWay_9 1 rfl rfl rfl dX1_leastInTheWay_33 ?_
            refine ux_iload C dX1_leastInTheWay_36 0 rfl ?_
            refine ux_iald C 19 11 (i) rfl rfl (rfl) (by omega) (by decide) dX1_leastInTheWay_38 ?_
            refine ux_iload C dX1_leastInTheWay_39 1 rfl ?_
            refine ux_icmp_ge C 53 dX1_leastInTheWay_41 (by decide) (fun h6 => ?_) (fun h6 => ?_)
            · rw [if_neg (by simp [h5, Int32.not_lt.mpr h6])] at hih
              refine ux_iinc C (nI (i + 1)) [(5, _), (4, _), (0, _), (1, _), (2, _), (3, _)] dX1_leastInTheWay_53 0 rfl (pq_inc i) (by decide) rfl ?_
              refine ux_goto C 6 dX1_leastInTheWay_56 (by decide) ?_
              exact hih
            · rw [if_pos (by simp [h4, Int32.not_le.mp h6])] at hih
              refine ux_aload_n C dX1_leastInTheWay_44 2 rfl ?_
              refine ux_get C flX1_leastInTheWay_9 1 rfl rfl rfl dX1_leastInTheWay_45 ?_
              refine ux_iload C dX1_leastInTheWay_48 0 rfl ?_
              refine ux_iald C 19 11 (i) rfl rfl (rfl) (by omega) (by decide) dX1_leastInTheWay_50 ?_
              refine ux_istore C [(4, _), (5, _), (0, _), (1, _), (2, _), (3, _)] dX1_leastInTheWay_51 (by decide) rfl ?_
              refine ux_iinc C (nI (i + 1)) [(5, _), (4, _), (0, _), (1, _), (2, _), (3, _)] dX1_leastInTheWay_53 1 rfl (pq_inc i) (by decide) rfl ?_
              refine ux_goto C 6 dX1_leastInTheWay_56 (by decide) ?_
              exact hih
  refine ux_iconst C (0) dX1_leastInTheWay_0 (by decide) ?_
  refine ux_istore C [(4, _), (0, _), (1, _), (2, _), (3, _)] dX1_leastInTheWay_1 (by decide) rfl ?_
  refine ux_iconst C (nI 0) dX1_leastInTheWay_3 (by decide) ?_
  refine ux_istore C [(5, _), (4, _), (0, _), (1, _), (2, _), (3, _)] dX1_leastInTheWay_4 (by decide) rfl ?_
  exact loop (σ.2.1 3 + 1) 0 (by omega) (by omega)
set_option maxHeartbeats 4000000 in
set_option maxRecDepth 100000 in
theorem c_X1_add (l : Launch) (D : va_G) (ad : Nat → Nat) (cA : Nat → ClassId) (A : Nat → Prop) (σ : ST) (t x y : Int32) (hm : σ.2.1 3 < 512) : ux_N l D vwCl (tyU cA) (wU ad cA) A yX1_add wsX1_add (ux_rm 1) [.ref (ad 1), .int t, .int x, .int y] σ (fun σ' => (∃ q, pq_fst (fun r => decide (σ.1 11 r = t) && decide (σ.1 12 r = x)) (σ.2.1 3) = some q ∧ σ' = sa σ 13 (upd (σ.1 13) q (if σ.1 13 q < y then y else σ.1 13 q))) ∨ (pq_fst (fun r => decide (σ.1 11 r = t) && decide (σ.1 12 r = x)) (σ.2.1 3) = none ∧ σ' = sf (sa (sa (sa σ 11 (upd (σ.1 11) (σ.2.1 3) t)) 12 (upd (σ.1 12) (σ.2.1 3) x)) 13 (upd (σ.1 13) (σ.2.1 3) y)) 3 (σ.2.1 3 + 1))) := by
  refine ux_ofN (cc := cX1_add) (maxL := 5) (ret := none) (Ts := wsX1_add) (lv := [(0, .ref (ad 1)), (1, .int t), (2, .int x), (3, .int y)]) (by decide) rfl (fun _ h => h) (Nat.le_of_ble_eq_true rfl) rfl ?_
  intro p e s m below meth c C
  refine ux_aload_n C dX1_add_0 0 rfl ?_
  refine ux_iload_n C dX1_add_1 1 rfl ?_
  refine ux_iload_n C dX1_add_2 2 rfl ?_
  refine ux_callI C gkX1_add_25 (c_X1_find l D ad cA A σ t x (by omega)) rfl ⟨rfl, rfl⟩ ⟨(Nat.le_of_ble_eq_true rfl), (Nat.le_of_ble_eq_true rfl)⟩ ⟨Nat.le_refl _, Nat.le_refl _⟩ 1 rfl rfl rfl rfl (Nat.le_of_ble_eq_true rfl) dX1_add_3 (fun r σ1 hr => ?_)
  obtain ⟨hr, rfl⟩ := hr
  cases hf : pq_fst (fun r => decide (σ.1 11 r = t) && decide (σ.1 12 r = x)) (σ.2.1 3) with
  | none =>
    rw [hf] at hr
    have hr : r = -1 := hr
    subst hr
    refine ux_istore C [(4, _), (0, _), (1, _), (2, _), (3, _)] dX1_add_6 (by decide) rfl ?_
    refine ux_iload C dX1_add_8 0 rfl ?_
    refine ux_iconst C ((-1 : Int32)) dX1_add_10 (by decide) ?_
    refine ux_icmp_eq C 33 dX1_add_11 (by decide) (fun h => ?_) (fun h => ?_)
    · refine ux_aload_n C dX1_add_33 1 rfl ?_
      refine ux_get C flX1_add_9 1 rfl rfl rfl dX1_add_34 ?_
      refine ux_aload_n C dX1_add_37 1 rfl ?_
      refine ux_get C flX1_add_21 1 rfl rfl rfl dX1_add_38 ?_
      refine ux_iload_n C dX1_add_41 2 rfl ?_
      refine ux_iast C 19 11 (σ.2.1 3) rfl rfl (rfl) (by omega) (by decide) dX1_add_42 _ (awU_11 _ _ _ _) ?_
      refine ux_aload_n C dX1_add_43 1 rfl ?_
      refine ux_get C flX1_add_15 1 rfl rfl rfl dX1_add_44 ?_
      refine ux_aload_n C dX1_add_47 1 rfl ?_
      refine ux_get C flX1_add_21 1 rfl rfl rfl dX1_add_48 ?_
      refine ux_iload_n C dX1_add_51 3 rfl ?_
      refine ux_iast C 20 12 (σ.2.1 3) rfl rfl (rfl) (by omega) (by decide) dX1_add_52 _ (awU_12 _ _ _ _) ?_
      refine ux_aload_n C dX1_add_53 1 rfl ?_
      refine ux_get C flX1_add_18 1 rfl rfl rfl dX1_add_54 ?_
      refine ux_aload_n C dX1_add_57 1 rfl ?_
      refine ux_get C flX1_add_21 1 rfl rfl rfl dX1_add_58 ?_
      refine ux_iload_n C dX1_add_61 4 rfl ?_
      refine ux_iast C 21 13 (σ.2.1 3) rfl rfl (rfl) (by omega) (by decide) dX1_add_62 _ (awU_13 _ _ _ _) ?_
      refine ux_aload_n C dX1_add_63 1 rfl ?_
      refine ux_dup C dX1_add_64 rfl ?_
      refine ux_get C flX1_add_21 1 rfl rfl rfl dX1_add_65 ?_
      refine ux_iconst C ((1 : Int32)) dX1_add_68 (by decide) ?_
      refine ux_iadd C dX1_add_69 ?_
      refine ux_top (nI (σ.2.1 3 + 1)) (nI_1 _) ?_
      refine ux_putI C flX1_add_21 fiU_3 1 rfl rfl (Nat.le_of_ble_eq_true rfl) dX1_add_70 _ (fwU_3 _ _ _ _) ?_
      exact ux_vret C dX1_add_73 (Or.inr ⟨rfl, rfl⟩)
    · exact absurd rfl h
  | some q =>
    rw [hf] at hr
    have hr : r = nI q := hr
    subst hr
    have hq := (pq_fst_some.mp hf).1
    refine ux_istore C [(4, _), (0, _), (1, _), (2, _), (3, _)] dX1_add_6 (by decide) rfl ?_
    refine ux_iload C dX1_add_8 0 rfl ?_
    refine ux_iconst C ((-1 : Int32)) dX1_add_10 (by decide) ?_
    refine ux_icmp_eq C 33 dX1_add_11 (by decide) (fun h => ?_) (fun h => ?_)
    · exact absurd h (pq_nI_m1 (by omega))
    · refine ux_aload_n C dX1_add_14 1 rfl ?_
      refine ux_get C flX1_add_18 1 rfl rfl rfl dX1_add_15 ?_
      refine ux_iload C dX1_add_18 0 rfl ?_
      refine ux_aload_n C dX1_add_20 1 rfl ?_
      refine ux_get C flX1_add_18 1 rfl rfl rfl dX1_add_21 ?_
      refine ux_iload C dX1_add_24 0 rfl ?_
      refine ux_iald C 21 13 (q) rfl rfl (rfl) (by omega) (by decide) dX1_add_26 ?_
      refine ux_iload_n C dX1_add_27 4 rfl ?_
      refine ux_mmax C (by decide +kernel) (by decide +kernel) (by decide +kernel) (List.mem_of_getElem? (i := 5) rfl) (Nat.le_of_ble_eq_true rfl) (Nat.le_of_ble_eq_true rfl) ⟨Nat.le_refl _, Nat.le_refl _⟩ dX1_add_28 ?_
      refine ux_iast C 21 13 (q) rfl rfl (rfl) (by omega) (by decide) dX1_add_31 _ (awU_13 _ _ _ _) ?_
      exact ux_vret C dX1_add_32 (Or.inl ⟨q, rfl, rfl⟩)

