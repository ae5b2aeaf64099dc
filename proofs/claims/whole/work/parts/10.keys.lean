theorem hiX2_count_2 : ∀ w ∈ wsX20, w ∈ wsX2_count := by decide +kernel
theorem flX2_count_15 : ux_F wsX2_count RX2 15 RX2 TX2 2 1 := ⟨hiX2_count_2, by decide, by decide +kernel⟩
theorem hiX2_at_2 : ∀ w ∈ wsX20, w ∈ wsX2_at := by decide +kernel
theorem flX2_at_9 : ux_F wsX2_at RX2 9 RX2 TX2 2 0 := ⟨hiX2_at_2, by decide, by decide +kernel⟩
theorem hiX2_find_2 : ∀ w ∈ wsX20, w ∈ wsX2_find := by decide +kernel
theorem flX2_find_15 : ux_F wsX2_find RX2 15 RX2 TX2 2 1 := ⟨hiX2_find_2, by decide, by decide +kernel⟩
theorem flX2_find_9 : ux_F wsX2_find RX2 9 RX2 TX2 2 0 := ⟨hiX2_find_2, by decide, by decide +kernel⟩
theorem hiX2_findOrAdd_2 : ∀ w ∈ wsX20, w ∈ wsX2_findOrAdd := by decide +kernel
theorem flX2_findOrAdd_15 : ux_F wsX2_findOrAdd RX2 15 RX2 TX2 2 1 := ⟨hiX2_findOrAdd_2, by decide, by decide +kernel⟩
theorem flX2_findOrAdd_9 : ux_F wsX2_findOrAdd RX2 9 RX2 TX2 2 0 := ⟨hiX2_findOrAdd_2, by decide, by decide +kernel⟩
theorem gkX2_findOrAdd_19 : ux_G wsX2_findOrAdd RX2 19 RX2 yX2_find wsX2_find 1 := ⟨gX2_findOrAdd_X2_find, by decide +kernel⟩
set_option maxHeartbeats 4000000 in
set_option maxRecDepth 100000 in
theorem c_X2_count (l : Launch) (D : va_G) (ad : Nat → Nat) (cA : Nat → ClassId) (A : Nat → Prop) (σ : ST) : ux_I l D vwCl (tyU cA) (wU ad cA) A yX2_count wsX2_count (ux_rm 0) [.ref (ad 2)] σ (fun r σ' => r = nI (σ.2.1 1) ∧ σ = σ') := by
  refine ux_ofI (cc := cX2_count) (maxL := 1) (ret := (some .int)) (Ts := wsX2_count) (lv := [(0, .ref (ad 2))]) (by decide) rfl (fun _ h => h) (Nat.le_of_ble_eq_true rfl) rfl ?_
  intro p e s m below meth c C
  refine ux_aload_n C dX2_count_0 0 rfl ?_
  refine ux_get C flX2_count_15 2 rfl rfl rfl dX2_count_1 ?_
  exact ux_iret C dX2_count_4 (⟨rfl, rfl⟩)
set_option maxHeartbeats 4000000 in
set_option maxRecDepth 100000 in
theorem c_X2_at (l : Launch) (D : va_G) (ad : Nat → Nat) (cA : Nat → ClassId) (A : Nat → Prop) (σ : ST) (k : Nat) (hk : k < 512) : ux_I l D vwCl (tyU cA) (wU ad cA) A yX2_at wsX2_at (ux_rm 0) [.ref (ad 2), .int (nI k)] σ (fun r σ' => r = σ.1 3 k ∧ σ = σ') := by
  refine ux_ofI (cc := cX2_at) (maxL := 2) (ret := (some .int)) (Ts := wsX2_at) (lv := [(0, .ref (ad 2)), (1, .int (nI k))]) (by decide) rfl (fun _ h => h) (Nat.le_of_ble_eq_true rfl) rfl ?_
  intro p e s m below meth c C
  refine ux_aload_n C dX2_at_0 0 rfl ?_
  refine ux_get C flX2_at_9 2 rfl rfl rfl dX2_at_1 ?_
  refine ux_iload_n C dX2_at_4 1 rfl ?_
  refine ux_iald C 11 3 (_) rfl rfl (rfl) (by omega) (by decide) dX2_at_5 ?_
  exact ux_iret C dX2_at_6 (⟨rfl, rfl⟩)
set_option maxHeartbeats 4000000 in
set_option maxRecDepth 100000 in
theorem c_X2_find (l : Launch) (D : va_G) (ad : Nat → Nat) (cA : Nat → ClassId) (A : Nat → Prop) (σ : ST) (key : Int32) (hk : σ.2.1 1 ≤ 512) : ux_I l D vwCl (tyU cA) (wU ad cA) A yX2_find wsX2_find (ux_rm 0) [.ref (ad 2), .int key] σ (fun r σ' => r = pq_o (pq_fst (fun j => decide (σ.1 3 j = key)) (σ.2.1 1)) ∧ σ = σ') := by
  refine ux_ofI (cc := cX2_find) (maxL := 3) (ret := (some .int)) (Ts := wsX2_find) (lv := [(0, .ref (ad 2)), (1, .int key)]) (by decide) rfl (fun _ h => h) (Nat.le_of_ble_eq_true rfl) rfl ?_
  intro p e s m below meth c C
  have loop : ∀ (k i : Nat), σ.2.1 1 + 1 ≤ i + k → i ≤ σ.2.1 1 → (∀ j, j < i → decide (σ.1 3 j = key) = false) → ux_V p l e (ux_rm 0) s m ([.ref (ad 2), .int key] : List Value).toArray below meth c (MQ below (va_Qi (fun r σ' => r = pq_o (pq_fst (fun j => decide (σ.1 3 j = key)) (σ.2.1 1)) ∧ σ = σ') (fun σ' t => va_P D vwCl (wU ad cA σ') t.heap) A) ([.ref (ad 2), .int key] : List Value).toArray s 0 0 A) 3 D vwCl (wU ad cA) A 0 0 σ 2 [(2, .int (nI i)), (0, .ref (ad 2)), (1, .int key)] [] := by
    intro k
    induction k with
    | zero => intro i h1 h2; omega
    | succ k ih =>
      intro i h1 h2 h3
      refine ux_iload_n C dX2_find_2 0 rfl ?_
      refine ux_aload_n C dX2_find_3 1 rfl ?_
      refine ux_get C flX2_find_15 2 rfl rfl rfl dX2_find_4 ?_
      refine ux_icmp_ge C 28 dX2_find_7 (by decide) (fun hc => ?_) (fun hc => ?_)
      · have hc := (nI_leI (by omega) (by omega)).mp hc
        have e : i = σ.2.1 1 := by omega
        subst e
        refine ux_iconst C ((-1 : Int32)) dX2_find_28 (by decide) ?_
        exact ux_iret C dX2_find_29 (⟨by rw [pq_fst_none.mpr h3]; rfl, rfl⟩)
      · have hc := mt (nI_leI (by omega) (by omega)).mpr hc
        refine ux_aload_n C dX2_find_10 1 rfl ?_
        refine ux_get C flX2_find_9 2 rfl rfl rfl dX2_find_11 ?_
        refine ux_iload_n C dX2_find_14 0 rfl ?_
        refine ux_iald C 11 3 (i) rfl rfl (rfl) (by omega) (by decide) dX2_find_15 ?_
        refine ux_iload_n C dX2_find_16 2 rfl ?_
        refine ux_icmp_ne C 22 dX2_find_17 (by decide) (fun he => ?_) (fun he => ?_)
        · refine ux_iinc C (nI (i + 1)) [(2, _), (0, _), (1, _)] dX2_find_22 0 rfl (pq_inc i) (by decide) rfl ?_
          refine ux_goto C 2 dX2_find_25 (by decide) ?_
          exact ih (i + 1) (by omega) (by omega) (fun j hj => by rcases Nat.lt_succ_iff_lt_or_eq.mp hj with h | h; exact h3 j h; subst h; exact decide_eq_false he)
        · refine ux_iload_n C dX2_find_20 0 rfl ?_
          exact ux_iret C dX2_find_21 (⟨by rw [pq_fst_some.mpr ⟨by omega, decide_eq_true he, h3⟩]; rfl, rfl⟩)
  refine ux_iconst C (nI 0) dX2_find_0 (by decide) ?_
  refine ux_istore_n C [(2, _), (0, _), (1, _)] dX2_find_1 rfl (by decide) rfl ?_
  exact loop (σ.2.1 1 + 1) 0 (by omega) (by omega) (fun j hj => by omega)
set_option maxHeartbeats 4000000 in
set_option maxRecDepth 100000 in
theorem c_X2_findOrAdd (l : Launch) (D : va_G) (ad : Nat → Nat) (cA : Nat → ClassId) (A : Nat → Prop) (σ : ST) (key : Int32) (hk : σ.2.1 1 < 512) : ux_I l D vwCl (tyU cA) (wU ad cA) A yX2_findOrAdd wsX2_findOrAdd (ux_rm 1) [.ref (ad 2), .int key] σ (fun r σ' => (∃ i, pq_fst (fun j => decide (σ.1 3 j = key)) (σ.2.1 1) = some i ∧ r = nI i ∧ σ = σ') ∨ (pq_fst (fun j => decide (σ.1 3 j = key)) (σ.2.1 1) = none ∧ r = nI (σ.2.1 1) ∧ σ' = sf (sa σ 3 (upd (σ.1 3) (σ.2.1 1) key)) 1 (σ.2.1 1 + 1))) := by
  refine ux_ofI (cc := cX2_findOrAdd) (maxL := 3) (ret := (some .int)) (Ts := wsX2_findOrAdd) (lv := [(0, .ref (ad 2)), (1, .int key)]) (by decide) rfl (fun _ h => h) (Nat.le_of_ble_eq_true rfl) rfl ?_
  intro p e s m below meth c C
  refine ux_aload_n C dX2_findOrAdd_0 0 rfl ?_
  refine ux_iload_n C dX2_findOrAdd_1 1 rfl ?_
  refine ux_callI C gkX2_findOrAdd_19 (c_X2_find l D ad cA A σ key (by omega)) rfl ⟨rfl, rfl⟩ ⟨(Nat.le_of_ble_eq_true rfl), (Nat.le_of_ble_eq_true rfl)⟩ ⟨Nat.le_refl _, Nat.le_refl _⟩ 2 rfl rfl rfl rfl (Nat.le_of_ble_eq_true rfl) dX2_findOrAdd_2 (fun r σ1 hr => ?_)
  refine ux_istore_n C [(2, _), (0, _), (1, _)] dX2_findOrAdd_5 rfl (by decide) rfl ?_
  obtain ⟨hr, rfl⟩ := hr
  refine ux_iload_n C dX2_findOrAdd_6 0 rfl ?_
  refine ux_iconst C ((-1 : Int32)) dX2_findOrAdd_7 (by decide) ?_
  refine ux_icmp_ne C 21 dX2_findOrAdd_8 (by decide) (fun hc => ?_) (fun hc => ?_)
  · refine ux_iload_n C dX2_findOrAdd_21 0 rfl ?_
    refine ux_iret C dX2_findOrAdd_22 ?_
    cases hf : pq_fst (fun j => decide (σ.1 3 j = key)) (σ.2.1 1) with
    | none => rw [hf] at hr; exact absurd hr hc
    | some i => rw [hf] at hr; exact Or.inl ⟨i, rfl, hr, rfl⟩
  · have hf : pq_fst (fun j => decide (σ.1 3 j = key)) (σ.2.1 1) = none := (pq_o_m1 (fun i hi => by have := (pq_fst_some.mp hi).1; omega)).mp (hr.symm.trans hc)
    refine ux_aload_n C dX2_findOrAdd_11 1 rfl ?_
    refine ux_get C flX2_findOrAdd_15 2 rfl rfl rfl dX2_findOrAdd_12 ?_
    refine ux_sipush C (nI 512) dX2_findOrAdd_15 (by decide) ?_
    refine ux_icmp_ne C 23 dX2_findOrAdd_18 (by decide) (fun hd => ?_) (fun hd => ?_)
    · refine ux_aload_n C dX2_findOrAdd_23 1 rfl ?_
      refine ux_get C flX2_findOrAdd_9 2 rfl rfl rfl dX2_findOrAdd_24 ?_
      refine ux_aload_n C dX2_findOrAdd_27 1 rfl ?_
      refine ux_get C flX2_findOrAdd_15 2 rfl rfl rfl dX2_findOrAdd_28 ?_
      refine ux_iload_n C dX2_findOrAdd_31 2 rfl ?_
      refine ux_iast C 11 3 (σ.2.1 1) rfl rfl (rfl) (by omega) (by decide) dX2_findOrAdd_32 _ (awU_3 _ _ _ _) ?_
      refine ux_aload_n C dX2_findOrAdd_33 1 rfl ?_
      refine ux_dup C dX2_findOrAdd_34 rfl ?_
      refine ux_get C flX2_findOrAdd_15 2 rfl rfl rfl dX2_findOrAdd_35 ?_
      refine ux_iconst C ((1 : Int32)) dX2_findOrAdd_38 (by decide) ?_
      refine ux_iadd C dX2_findOrAdd_39 ?_
      refine ux_top (nI (σ.2.1 1 + 1)) (nI_1 _) ?_
      refine ux_putI C flX2_findOrAdd_15 fiU_1 2 rfl rfl (Nat.le_of_ble_eq_true rfl) dX2_findOrAdd_40 _ (fwU_1 _ _ _ _) ?_
      refine ux_aload_n C dX2_findOrAdd_43 1 rfl ?_
      refine ux_get C flX2_findOrAdd_15 2 rfl rfl rfl dX2_findOrAdd_44 ?_
      refine ux_iconst C ((1 : Int32)) dX2_findOrAdd_47 (by decide) ?_
      refine ux_isub C dX2_findOrAdd_48 ?_
      refine ux_top (nI (σ.2.1 1)) (nI_pred _) ?_
      exact ux_iret C dX2_findOrAdd_49 (Or.inr ⟨hf, rfl, rfl⟩)
    · exact absurd ((nI_eq (by omega) (by omega)).mp hd) (by omega)

