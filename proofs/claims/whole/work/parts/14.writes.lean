theorem hiX6_isFull_6 : ∀ w ∈ wsX60, w ∈ wsX6_isFull := by decide +kernel
theorem flX6_isFull_28 : ux_F wsX6_isFull RX6 28 RX6 TX6 8 5 := ⟨hiX6_isFull_6, by decide, by decide +kernel⟩
theorem hiX6_add_6 : ∀ w ∈ wsX60, w ∈ wsX6_add := by decide +kernel
theorem flX6_add_9 : ux_F wsX6_add RX6 9 RX6 TX6 8 0 := ⟨hiX6_add_6, by decide, by decide +kernel⟩
theorem flX6_add_28 : ux_F wsX6_add RX6 28 RX6 TX6 8 5 := ⟨hiX6_add_6, by decide, by decide +kernel⟩
theorem flX6_add_15 : ux_F wsX6_add RX6 15 RX6 TX6 8 1 := ⟨hiX6_add_6, by decide, by decide +kernel⟩
theorem flX6_add_18 : ux_F wsX6_add RX6 18 RX6 TX6 8 2 := ⟨hiX6_add_6, by decide, by decide +kernel⟩
theorem flX6_add_21 : ux_F wsX6_add RX6 21 RX6 TX6 8 3 := ⟨hiX6_add_6, by decide, by decide +kernel⟩
theorem flX6_add_25 : ux_F wsX6_add RX6 25 RX6 TX6 8 4 := ⟨hiX6_add_6, by decide, by decide +kernel⟩
theorem hiX6_findSeen_6 : ∀ w ∈ wsX60, w ∈ wsX6_findSeen := by decide +kernel
theorem flX6_findSeen_28 : ux_F wsX6_findSeen RX6 28 RX6 TX6 8 5 := ⟨hiX6_findSeen_6, by decide, by decide +kernel⟩
theorem flX6_findSeen_9 : ux_F wsX6_findSeen RX6 9 RX6 TX6 8 0 := ⟨hiX6_findSeen_6, by decide, by decide +kernel⟩
theorem flX6_findSeen_32 : ux_F wsX6_findSeen RX6 32 RX6 TX6 8 6 := ⟨hiX6_findSeen_6, by decide, by decide +kernel⟩
theorem flX6_findSeen_15 : ux_F wsX6_findSeen RX6 15 RX6 TX6 8 1 := ⟨hiX6_findSeen_6, by decide, by decide +kernel⟩
theorem hiX6_hasFound_6 : ∀ w ∈ wsX60, w ∈ wsX6_hasFound := by decide +kernel
theorem flX6_hasFound_32 : ux_F wsX6_hasFound RX6 32 RX6 TX6 8 6 := ⟨hiX6_hasFound_6, by decide, by decide +kernel⟩
theorem flX6_hasFound_21 : ux_F wsX6_hasFound RX6 21 RX6 TX6 8 3 := ⟨hiX6_hasFound_6, by decide, by decide +kernel⟩
theorem hiX6_valueFound_6 : ∀ w ∈ wsX60, w ∈ wsX6_valueFound := by decide +kernel
theorem flX6_valueFound_32 : ux_F wsX6_valueFound RX6 32 RX6 TX6 8 6 := ⟨hiX6_valueFound_6, by decide, by decide +kernel⟩
theorem flX6_valueFound_18 : ux_F wsX6_valueFound RX6 18 RX6 TX6 8 2 := ⟨hiX6_valueFound_6, by decide, by decide +kernel⟩
theorem hiX6_findOwn_6 : ∀ w ∈ wsX60, w ∈ wsX6_findOwn := by decide +kernel
theorem flX6_findOwn_28 : ux_F wsX6_findOwn RX6 28 RX6 TX6 8 5 := ⟨hiX6_findOwn_6, by decide, by decide +kernel⟩
theorem flX6_findOwn_9 : ux_F wsX6_findOwn RX6 9 RX6 TX6 8 0 := ⟨hiX6_findOwn_6, by decide, by decide +kernel⟩
theorem flX6_findOwn_15 : ux_F wsX6_findOwn RX6 15 RX6 TX6 8 1 := ⟨hiX6_findOwn_6, by decide, by decide +kernel⟩
theorem hiX6_keysOf_6 : ∀ w ∈ wsX60, w ∈ wsX6_keysOf := by decide +kernel
theorem flX6_keysOf_32 : ux_F wsX6_keysOf RX6 32 RX6 TX6 8 6 := ⟨hiX6_keysOf_6, by decide, by decide +kernel⟩
theorem hiX6_handOver_6 : ∀ w ∈ wsX60, w ∈ wsX6_handOver := by decide +kernel
theorem flX6_handOver_28 : ux_F wsX6_handOver RX6 28 RX6 TX6 8 5 := ⟨hiX6_handOver_6, by decide, by decide +kernel⟩
theorem flX6_handOver_9 : ux_F wsX6_handOver RX6 9 RX6 TX6 8 0 := ⟨hiX6_handOver_6, by decide, by decide +kernel⟩
theorem flX6_handOver_25 : ux_F wsX6_handOver RX6 25 RX6 TX6 8 4 := ⟨hiX6_handOver_6, by decide, by decide +kernel⟩
theorem hiX6_dropFrom_6 : ∀ w ∈ wsX60, w ∈ wsX6_dropFrom := by decide +kernel
theorem flX6_dropFrom_28 : ux_F wsX6_dropFrom RX6 28 RX6 TX6 8 5 := ⟨hiX6_dropFrom_6, by decide, by decide +kernel⟩
theorem flX6_dropFrom_9 : ux_F wsX6_dropFrom RX6 9 RX6 TX6 8 0 := ⟨hiX6_dropFrom_6, by decide, by decide +kernel⟩
theorem flX6_dropFrom_25 : ux_F wsX6_dropFrom RX6 25 RX6 TX6 8 4 := ⟨hiX6_dropFrom_6, by decide, by decide +kernel⟩
theorem hiX6_sayTheSame_6 : ∀ w ∈ wsX60, w ∈ wsX6_sayTheSame := by decide +kernel
theorem flX6_sayTheSame_21 : ux_F wsX6_sayTheSame RX6 21 RX6 TX6 8 3 := ⟨hiX6_sayTheSame_6, by decide, by decide +kernel⟩
theorem flX6_sayTheSame_18 : ux_F wsX6_sayTheSame RX6 18 RX6 TX6 8 2 := ⟨hiX6_sayTheSame_6, by decide, by decide +kernel⟩
theorem hiX6_undo_6 : ∀ w ∈ wsX60, w ∈ wsX6_undo := by decide +kernel
theorem flX6_undo_32 : ux_F wsX6_undo RX6 32 RX6 TX6 8 6 := ⟨hiX6_undo_6, by decide, by decide +kernel⟩
theorem flX6_undo_35 : ux_F wsX6_undo RX6 35 RX6 TX6 8 7 := ⟨hiX6_undo_6, by decide, by decide +kernel⟩
theorem gkX6_findSeen_38 : ux_GS wsX6_findSeen RX6 38 yJ7_fill_53178 wsJ7_fill_53178 2 := ⟨gX6_findSeen_J7_fill_53178, by decide +kernel⟩
theorem gkX6_findOwn_38 : ux_GS wsX6_findOwn RX6 38 yJ7_fill_53178 wsJ7_fill_53178 2 := ⟨gX6_findOwn_J7_fill_53178, by decide +kernel⟩
theorem gkX6_keysOf_46 : ux_G wsX6_keysOf RX6 46 RX6 yX6_findOwn wsX6_findOwn 2 := ⟨gX6_keysOf_X6_findOwn, by decide +kernel⟩
theorem gkX6_drop_50 : ux_G wsX6_drop RX6 50 RX6 yX6_dropFrom wsX6_dropFrom 2 := ⟨gX6_drop_X6_dropFrom, by decide +kernel⟩
theorem gkX6_undo_46 : ux_G wsX6_undo RX6 46 RX6 yX6_findOwn wsX6_findOwn 2 := ⟨gX6_undo_X6_findOwn, by decide +kernel⟩
theorem gkX6_undo_50 : ux_G wsX6_undo RX6 50 RX6 yX6_dropFrom wsX6_dropFrom 2 := ⟨gX6_undo_X6_dropFrom, by decide +kernel⟩
theorem gkX6_undo_54 : ux_G wsX6_undo RX6 54 RX6 yX6_sayTheSame wsX6_sayTheSame 2 := ⟨gX6_undo_X6_sayTheSame, by decide +kernel⟩
set_option maxHeartbeats 4000000 in
set_option maxRecDepth 100000 in
theorem c_J7_fill_found (l : Launch) (D : va_G) (ad : Nat → Nat) (cA : Nat → ClassId) (A : Nat → Prop) (σ : ST) (v : Int32) : ux_N l D vwCl (tyU cA) (wU ad cA) A yJ7_fill_53178 wsJ7_fill_53178 (ux_rm 0) [.ref (ad 17), .int v] σ (fun σ' => σ' = sa σ 9 (pq_msk (fun _ => true) v (σ.1 9) 512)) := by
  refine ux_ofN (cc := cJ7_fill_53178) (maxL := 4) (ret := none) (Ts := wsJ7_fill_53178) (lv := [(0, .ref (ad 17)), (1, .int v)]) (by decide) rfl (fun _ h => h) (Nat.le_of_ble_eq_true rfl) rfl ?_
  intro p e s m below meth c C
  have loop : ∀ (k i : Nat), 513 ≤ i + k → i ≤ 512 → ux_V p l e (ux_rm 0) s m ([.ref (ad 17), .int v] : List Value).toArray below meth c (MQ below (va_Qv (fun σ' => σ' = sa σ 9 (pq_msk (fun _ => true) v (σ.1 9) 512)) (fun σ' t => va_P D vwCl (wU ad cA σ') t.heap) A) ([.ref (ad 17), .int v] : List Value).toArray s 0 0 A) 4 D vwCl (wU ad cA) A 0 0 (sa σ 9 (pq_msk (fun _ => true) v (σ.1 9) i)) 5 [(2, .int (nI i)), (3, .int (nI 512)), (0, .ref (ad 17)), (1, .int v)] [] := by
    intro k
    induction k with
    | zero => intro i h1 h2; omega
    | succ k ih =>
      intro i h1 h2
      refine ux_iload_n C dJ7_fill_53178_5 0 rfl ?_
      refine ux_iload_n C dJ7_fill_53178_6 1 rfl ?_
      refine ux_icmp_ge C 20 dJ7_fill_53178_7 (by decide) (fun hc => ?_) (fun hc => ?_)
      · have hc := (nI_leI (by omega) (by omega)).mp hc
        have e : i = 512 := by omega
        subst e
        exact ux_vret C dJ7_fill_53178_20 (rfl)
      · have hc := mt (nI_leI (by omega) (by omega)).mpr hc
        have hih := ih (i + 1) (by omega) (by omega)
        rw [← pq_msk_t (i := i) rfl] at hih
        refine ux_aload_n C dJ7_fill_53178_10 2 rfl ?_
        refine ux_iload_n C dJ7_fill_53178_11 0 rfl ?_
        refine ux_iload_n C dJ7_fill_53178_12 3 rfl ?_
        refine ux_iast C 17 9 (i) rfl rfl (rfl) (by omega) (by decide) dJ7_fill_53178_13 _ (awU_9 _ _ _ _) ?_
        refine ux_iinc C (nI (i + 1)) [(2, _), (3, _), (0, _), (1, _)] dJ7_fill_53178_14 0 rfl (pq_inc i) (by decide) rfl ?_
        refine ux_goto C 5 dJ7_fill_53178_17 (by decide) ?_
        refine ux_at (sa_sa _ _ _ _) ?_
        exact hih
  refine ux_iconst C (nI 0) dJ7_fill_53178_0 (by decide) ?_
  refine ux_istore_n C [(2, _), (0, _), (1, _)] dJ7_fill_53178_1 rfl (by decide) rfl ?_
  refine ux_aload_n C dJ7_fill_53178_2 1 rfl ?_
  refine ux_alen C 17 9 rfl rfl dJ7_fill_53178_3 ?_
  refine ux_istore_n C [(3, _), (2, _), (0, _), (1, _)] dJ7_fill_53178_4 rfl (by decide) rfl ?_
  refine ux_at (sa_self σ 9).symm ?_
  refine ux_sub [(2, _), (3, _), (0, _), (1, _)] [1, 0, 2, 3] rfl ?_
  have hl := loop 513 0 (by omega) (by omega)
  rw [pq_msk_id (i := 0) (fun j hj => by omega)] at hl
  exact hl
set_option maxHeartbeats 4000000 in
set_option maxRecDepth 100000 in
theorem c_J7_fill_earlier (l : Launch) (D : va_G) (ad : Nat → Nat) (cA : Nat → ClassId) (A : Nat → Prop) (σ : ST) (v : Int32) : ux_N l D vwCl (tyU cA) (wU ad cA) A yJ7_fill_53178 wsJ7_fill_53178 (ux_rm 0) [.ref (ad 18), .int v] σ (fun σ' => σ' = sa σ 10 (pq_msk (fun _ => true) v (σ.1 10) 512)) := by
  refine ux_ofN (cc := cJ7_fill_53178) (maxL := 4) (ret := none) (Ts := wsJ7_fill_53178) (lv := [(0, .ref (ad 18)), (1, .int v)]) (by decide) rfl (fun _ h => h) (Nat.le_of_ble_eq_true rfl) rfl ?_
  intro p e s m below meth c C
  have loop : ∀ (k i : Nat), 513 ≤ i + k → i ≤ 512 → ux_V p l e (ux_rm 0) s m ([.ref (ad 18), .int v] : List Value).toArray below meth c (MQ below (va_Qv (fun σ' => σ' = sa σ 10 (pq_msk (fun _ => true) v (σ.1 10) 512)) (fun σ' t => va_P D vwCl (wU ad cA σ') t.heap) A) ([.ref (ad 18), .int v] : List Value).toArray s 0 0 A) 4 D vwCl (wU ad cA) A 0 0 (sa σ 10 (pq_msk (fun _ => true) v (σ.1 10) i)) 5 [(2, .int (nI i)), (3, .int (nI 512)), (0, .ref (ad 18)), (1, .int v)] [] := by
    intro k
    induction k with
    | zero => intro i h1 h2; omega
    | succ k ih =>
      intro i h1 h2
      refine ux_iload_n C dJ7_fill_53178_5 0 rfl ?_
      refine ux_iload_n C dJ7_fill_53178_6 1 rfl ?_
      refine ux_icmp_ge C 20 dJ7_fill_53178_7 (by decide) (fun hc => ?_) (fun hc => ?_)
      · have hc := (nI_leI (by omega) (by omega)).mp hc
        have e : i = 512 := by omega
        subst e
        exact ux_vret C dJ7_fill_53178_20 (rfl)
      · have hc := mt (nI_leI (by omega) (by omega)).mpr hc
        have hih := ih (i + 1) (by omega) (by omega)
        rw [← pq_msk_t (i := i) rfl] at hih
        refine ux_aload_n C dJ7_fill_53178_10 2 rfl ?_
        refine ux_iload_n C dJ7_fill_53178_11 0 rfl ?_
        refine ux_iload_n C dJ7_fill_53178_12 3 rfl ?_
        refine ux_iast C 18 10 (i) rfl rfl (rfl) (by omega) (by decide) dJ7_fill_53178_13 _ (awU_10 _ _ _ _) ?_
        refine ux_iinc C (nI (i + 1)) [(2, _), (3, _), (0, _), (1, _)] dJ7_fill_53178_14 0 rfl (pq_inc i) (by decide) rfl ?_
        refine ux_goto C 5 dJ7_fill_53178_17 (by decide) ?_
        refine ux_at (sa_sa _ _ _ _) ?_
        exact hih
  refine ux_iconst C (nI 0) dJ7_fill_53178_0 (by decide) ?_
  refine ux_istore_n C [(2, _), (0, _), (1, _)] dJ7_fill_53178_1 rfl (by decide) rfl ?_
  refine ux_aload_n C dJ7_fill_53178_2 1 rfl ?_
  refine ux_alen C 18 10 rfl rfl dJ7_fill_53178_3 ?_
  refine ux_istore_n C [(3, _), (2, _), (0, _), (1, _)] dJ7_fill_53178_4 rfl (by decide) rfl ?_
  refine ux_at (sa_self σ 10).symm ?_
  refine ux_sub [(2, _), (3, _), (0, _), (1, _)] [1, 0, 2, 3] rfl ?_
  have hl := loop 513 0 (by omega) (by omega)
  rw [pq_msk_id (i := 0) (fun j hj => by omega)] at hl
  exact hl
set_option maxHeartbeats 4000000 in
set_option maxRecDepth 100000 in
theorem c_J7_fill_d0a16 (l : Launch) (D : va_G) (ad : Nat → Nat) (cA : Nat → ClassId) (A : Nat → Prop) (σ : ST) (v : Int64) : ux_N l D vwCl (tyU cA) (wU ad cA) A yJ7_fill_d0a16 wsJ7_fill_d0a16 (ux_rm 0) [.ref (ad 25), .long v] σ (fun σ' => ∃ B, σ' = sb σ B ∧ ∀ j, j < 453 → B j = v) := by
  refine ux_ofN (cc := cJ7_fill_d0a16) (maxL := 5) (ret := none) (Ts := wsJ7_fill_d0a16) (lv := [(0, .ref (ad 25)), (1, .long v)]) (by decide) rfl (fun _ h => h) (Nat.le_of_ble_eq_true rfl) rfl ?_
  intro p e s m below meth c C
  have loop : ∀ (k i : Nat) (B : Nat → Int64), 454 ≤ i + k → i ≤ 453 → (∀ j, j < i → B j = v) → ux_V p l e (ux_rm 0) s m ([.ref (ad 25), .long v] : List Value).toArray below meth c (MQ below (va_Qv (fun σ' => ∃ B, σ' = sb σ B ∧ ∀ j, j < 453 → B j = v) (fun σ' t => va_P D vwCl (wU ad cA σ') t.heap) A) ([.ref (ad 25), .long v] : List Value).toArray s 0 0 A) 5 D vwCl (wU ad cA) A 0 0 (sb σ B) 6 [(3, .int (nI i)), (4, .int (nI 453)), (0, .ref (ad 25)), (1, .long v)] [] := by
    intro k
    induction k with
    | zero => intro i B h1 h2; omega
    | succ k ih =>
      intro i B h1 h2 h3
      refine ux_iload_n C dJ7_fill_d0a16_6 0 rfl ?_
      refine ux_iload C dJ7_fill_d0a16_7 1 rfl ?_
      refine ux_icmp_ge C 22 dJ7_fill_d0a16_9 (by decide) (fun hc => ?_) (fun hc => ?_)
      · have hc := (nI_leI (by omega) (by omega)).mp hc
        have e : i = 453 := by omega
        subst e
        exact ux_vret C dJ7_fill_d0a16_22 (⟨B, rfl, h3⟩)
      · have hc := mt (nI_leI (by omega) (by omega)).mpr hc
        refine ux_aload_n C dJ7_fill_d0a16_12 2 rfl ?_
        refine ux_iload_n C dJ7_fill_d0a16_13 0 rfl ?_
        refine ux_lload_n C dJ7_fill_d0a16_14 3 rfl ?_
        refine ux_last C 25 17 (i) rfl rfl (rfl) (by omega) (by decide) dJ7_fill_d0a16_15 _ (awU_17 _ _ _ _) ?_
        refine ux_iinc C (nI (i + 1)) [(3, _), (4, _), (0, _), (1, _)] dJ7_fill_d0a16_16 0 rfl (pq_inc i) (by decide) rfl ?_
        refine ux_goto C 6 dJ7_fill_d0a16_19 (by decide) ?_
        refine ih (i + 1) (vp_updL B i v) (by omega) (by omega) (fun j hj => ?_)
        by_cases e : j = i
        · rw [e]; exact pk_uLs
        · rw [pk_uLn e]; exact h3 j (by omega)
  refine ux_iconst C (nI 0) dJ7_fill_d0a16_0 (by decide) ?_
  refine ux_istore_n C [(3, _), (0, _), (1, _)] dJ7_fill_d0a16_1 rfl (by decide) rfl ?_
  refine ux_aload_n C dJ7_fill_d0a16_2 1 rfl ?_
  refine ux_alen C 25 17 rfl rfl dJ7_fill_d0a16_3 ?_
  refine ux_istore C [(4, _), (3, _), (0, _), (1, _)] dJ7_fill_d0a16_4 (by decide) rfl ?_
  refine ux_sub [(3, _), (4, _), (0, _), (1, _)] [1, 0, 2, 3] rfl ?_
  exact loop 454 0 σ.2.2 (by omega) (by omega) (fun j hj => by omega)
set_option maxHeartbeats 4000000 in
set_option maxRecDepth 100000 in
theorem c_X6_isFull (l : Launch) (D : va_G) (ad : Nat → Nat) (cA : Nat → ClassId) (A : Nat → Prop) (σ : ST) (hm : σ.2.1 2 ≤ 512) : ux_I l D vwCl (tyU cA) (wU ad cA) A yX6_isFull wsX6_isFull (ux_rm 0) [.ref (ad 6)] σ (fun r σ' => r = pq_b (decide (σ.2.1 2 = 512)) ∧ σ = σ') := by
  refine ux_ofI (cc := cX6_isFull) (maxL := 1) (ret := (some .boolean)) (Ts := wsX6_isFull) (lv := [(0, .ref (ad 6))]) (by decide) rfl (fun _ h => h) (Nat.le_of_ble_eq_true rfl) rfl ?_
  intro p e s m below meth c C
  refine ux_aload_n C dX6_isFull_0 0 rfl ?_
  refine ux_get C flX6_isFull_28 6 rfl rfl rfl dX6_isFull_1 ?_
  refine ux_sipush C (nI 512) dX6_isFull_4 (by decide) ?_
  refine ux_icmp_ne C 14 dX6_isFull_7 (by decide) (fun h => ?_) (fun h => ?_)
  · refine ux_iconst C ((0 : Int32)) dX6_isFull_14 (by decide) ?_
    exact ux_zret C dX6_isFull_15 rfl (⟨by rw [decide_eq_false (fun e => h (by rw [e]))]; rfl, rfl⟩)
  · refine ux_iconst C ((1 : Int32)) dX6_isFull_10 (by decide) ?_
    refine ux_goto C 15 dX6_isFull_11 (by decide) ?_
    exact ux_zret C dX6_isFull_15 rfl (⟨by rw [decide_eq_true ((nI_eq (by omega) (by omega)).mp h)]; rfl, rfl⟩)
set_option maxHeartbeats 4000000 in
set_option maxRecDepth 100000 in
theorem c_X6_add (l : Launch) (D : va_G) (ad : Nat → Nat) (cA : Nat → ClassId) (A : Nat → Prop) (σ : ST) (t x v : Int32) (b : Bool) (z : Int32) (hm : σ.2.1 2 < 512) : ux_N l D vwCl (tyU cA) (wU ad cA) A yX6_add wsX6_add (ux_rm 0) [.ref (ad 6), .int t, .int x, .int v, .int (pq_b b), .int z] σ (fun σ' => σ' = sf (sa (sa (sa (sa (sa σ 4 (upd (σ.1 4) (σ.2.1 2) t)) 5 (upd (σ.1 5) (σ.2.1 2) x)) 6 (upd (σ.1 6) (σ.2.1 2) v)) 7 (upd (σ.1 7) (σ.2.1 2) (pq_b b))) 8 (upd (σ.1 8) (σ.2.1 2) z)) 2 (σ.2.1 2 + 1)) := by
  refine ux_ofN (cc := cX6_add) (maxL := 6) (ret := none) (Ts := wsX6_add) (lv := [(0, .ref (ad 6)), (1, .int t), (2, .int x), (3, .int v), (4, .int (pq_b b)), (5, .int z)]) (by decide) rfl (fun _ h => h) (Nat.le_of_ble_eq_true rfl) rfl ?_
  intro p e s m below meth c C
  refine ux_aload_n C dX6_add_0 0 rfl ?_
  refine ux_get C flX6_add_9 6 rfl rfl rfl dX6_add_1 ?_
  refine ux_aload_n C dX6_add_4 0 rfl ?_
  refine ux_get C flX6_add_28 6 rfl rfl rfl dX6_add_5 ?_
  refine ux_iload_n C dX6_add_8 1 rfl ?_
  refine ux_iast C 12 4 (σ.2.1 2) rfl rfl (rfl) (by omega) (by decide) dX6_add_9 _ (awU_4 _ _ _ _) ?_
  refine ux_aload_n C dX6_add_10 0 rfl ?_
  refine ux_get C flX6_add_15 6 rfl rfl rfl dX6_add_11 ?_
  refine ux_aload_n C dX6_add_14 0 rfl ?_
  refine ux_get C flX6_add_28 6 rfl rfl rfl dX6_add_15 ?_
  refine ux_iload_n C dX6_add_18 2 rfl ?_
  refine ux_iast C 13 5 (σ.2.1 2) rfl rfl (rfl) (by omega) (by decide) dX6_add_19 _ (awU_5 _ _ _ _) ?_
  refine ux_aload_n C dX6_add_20 0 rfl ?_
  refine ux_get C flX6_add_18 6 rfl rfl rfl dX6_add_21 ?_
  refine ux_aload_n C dX6_add_24 0 rfl ?_
  refine ux_get C flX6_add_28 6 rfl rfl rfl dX6_add_25 ?_
  refine ux_iload_n C dX6_add_28 3 rfl ?_
  refine ux_iast C 14 6 (σ.2.1 2) rfl rfl (rfl) (by omega) (by decide) dX6_add_29 _ (awU_6 _ _ _ _) ?_
  refine ux_aload_n C dX6_add_30 0 rfl ?_
  refine ux_get C flX6_add_21 6 rfl rfl rfl dX6_add_31 ?_
  refine ux_aload_n C dX6_add_34 0 rfl ?_
  refine ux_get C flX6_add_28 6 rfl rfl rfl dX6_add_35 ?_
  refine ux_iload C dX6_add_38 4 rfl ?_
  refine ux_zast C 15 7 (σ.2.1 2) rfl rfl (rfl) (by omega) (by decide) (pq_b_nar b) dX6_add_40 _ (awU_7 _ _ _ _) ?_
  refine ux_aload_n C dX6_add_41 0 rfl ?_
  refine ux_get C flX6_add_25 6 rfl rfl rfl dX6_add_42 ?_
  refine ux_aload_n C dX6_add_45 0 rfl ?_
  refine ux_get C flX6_add_28 6 rfl rfl rfl dX6_add_46 ?_
  refine ux_iload C dX6_add_49 5 rfl ?_
  refine ux_iast C 16 8 (σ.2.1 2) rfl rfl (rfl) (by omega) (by decide) dX6_add_51 _ (awU_8 _ _ _ _) ?_
  refine ux_aload_n C dX6_add_52 0 rfl ?_
  refine ux_dup C dX6_add_53 rfl ?_
  refine ux_get C flX6_add_28 6 rfl rfl rfl dX6_add_54 ?_
  refine ux_iconst C ((1 : Int32)) dX6_add_57 (by decide) ?_
  refine ux_iadd C dX6_add_58 ?_
  refine ux_top (nI (σ.2.1 2 + 1)) (nI_1 _) ?_
  refine ux_putI C flX6_add_28 fiU_2 6 rfl rfl (Nat.le_of_ble_eq_true rfl) dX6_add_59 _ (fwU_2 _ _ _ _) ?_
  exact ux_vret C dX6_add_62 (rfl)
set_option maxHeartbeats 4000000 in
set_option maxRecDepth 100000 in
theorem c_X6_findSeen (l : Launch) (D : va_G) (ad : Nat → Nat) (cA : Nat → ClassId) (A : Nat → Prop) (σ : ST) (hm : σ.2.1 2 ≤ 512) (hO : ∀ r, r < σ.2.1 2 → σ.1 4 r = -1 ∨ ∃ o, o ≤ 150 ∧ σ.1 4 r = nI o) (hS : ∀ r, r < σ.2.1 2 → ∃ s, s < 512 ∧ σ.1 5 r = nI s) : ux_N l D vwCl (tyU cA) (wU ad cA) A yX6_findSeen wsX6_findSeen (ux_rm 1) [.ref (ad 6), .ref (ad 10)] σ (fun σ' => ∃ f, σ' = sa σ 9 f ∧ ∀ s, s < 512 → f s = pq_o (pq_lst (pq_seen σ s) (σ.2.1 2))) := by
  refine ux_ofN (cc := cX6_findSeen) (maxL := 3) (ret := none) (Ts := wsX6_findSeen) (lv := [(0, .ref (ad 6)), (1, .ref (ad 10))]) (by decide) rfl (fun _ h => h) (Nat.le_of_ble_eq_true rfl) rfl ?_
  intro p e s m below meth c C
  have loop : ∀ (k i : Nat) (f : Nat → Int32), σ.2.1 2 + 1 ≤ i + k → i ≤ σ.2.1 2 → (∀ s, s < 512 → f s = pq_o (pq_lst (pq_seen σ s) i)) → ux_V p l e (ux_rm 1) s m ([.ref (ad 6), .ref (ad 10)] : List Value).toArray below meth c (MQ below (va_Qv (fun σ' => ∃ f, σ' = sa σ 9 f ∧ ∀ s, s < 512 → f s = pq_o (pq_lst (pq_seen σ s) (σ.2.1 2))) (fun σ' t => va_P D vwCl (wU ad cA σ') t.heap) A) ([.ref (ad 6), .ref (ad 10)] : List Value).toArray s 0 0 A) 3 D vwCl (wU ad cA) A 0 0 (sa σ 9 f) 10 [(2, .int (nI i)), (0, .ref (ad 6)), (1, .ref (ad 10))] [] := by
    intro k
    induction k with
    | zero => intro i f h1 h2; omega
    | succ k ih =>
      intro i f h1 h2 h3
      refine ux_iload_n C dX6_findSeen_10 0 rfl ?_
      refine ux_aload_n C dX6_findSeen_11 1 rfl ?_
      refine ux_get C flX6_findSeen_28 6 rfl rfl rfl dX6_findSeen_12 ?_
      refine ux_icmp_ge C 57 dX6_findSeen_15 (by decide) (fun hc => ?_) (fun hc => ?_)
      · have hc : nI (σ.2.1 2) ≤ nI i := hc
        have hc := (nI_leI (by omega) (by omega)).mp hc
        have e : i = σ.2.1 2 := by omega
        subst e
        exact ux_vret C dX6_findSeen_57 (⟨f, rfl, h3⟩)
      · have hc : ¬ nI (σ.2.1 2) ≤ nI i := hc
        have hc := mt (nI_leI (by omega) (by omega)).mpr hc
        have hno : (∀ s, s < 512 → pq_seen σ s i = false) → ∀ s, s < 512 → f s = pq_o (pq_lst (pq_seen σ s) (i + 1)) := fun hz s hs => by
          rw [h3 s hs]; simp only [pq_lst]; rw [if_neg (by rw [hz s hs]; decide)]
        refine ux_aload_n C dX6_findSeen_18 1 rfl ?_
        refine ux_get C flX6_findSeen_9 6 rfl rfl rfl dX6_findSeen_19 ?_
        refine ux_iload_n C dX6_findSeen_22 0 rfl ?_
        refine ux_iald C 12 4 (i) rfl rfl (rfl) (by omega) (by decide) dX6_findSeen_23 ?_
        refine ux_iconst C ((-1 : Int32)) dX6_findSeen_24 (by decide) ?_
        refine ux_icmp_eq C 51 dX6_findSeen_25 (by decide) (fun h4 => ?_) (fun h4 => ?_)
        · have h4 : σ.1 4 i = -1 := h4
          refine ux_iinc C (nI (i + 1)) [(2, _), (0, _), (1, _)] dX6_findSeen_51 0 rfl (pq_inc i) (by decide) rfl ?_
          refine ux_goto C 10 dX6_findSeen_54 (by decide) ?_
          exact ih (i + 1) f (by omega) (by omega) (hno (fun s hs => by simp [pq_seen, h4]))
        · have h4 : ¬ σ.1 4 i = -1 := h4
          obtain ⟨o, o1, o2⟩ := (hO i (by omega)).resolve_left h4
          obtain ⟨s0, s1, s2⟩ := hS i (by omega)
          refine ux_aload_n C dX6_findSeen_28 2 rfl ?_
          refine ux_aload_n C dX6_findSeen_29 1 rfl ?_
          refine ux_get C flX6_findSeen_9 6 rfl rfl rfl dX6_findSeen_30 ?_
          refine ux_iload_n C dX6_findSeen_33 0 rfl ?_
          refine ux_iald C 12 4 (i) rfl rfl (rfl) (by omega) (by decide) dX6_findSeen_34 ?_
          refine ux_zald C 10 2 (o) rfl rfl (o2) (by omega) (by decide) dX6_findSeen_35 ?_
          refine ux_if_eq C 51 dX6_findSeen_36 (by decide) (fun h5 => ?_) (fun h5 => ?_)
          · have h5 : σ.1 2 o = 0 := h5
            refine ux_iinc C (nI (i + 1)) [(2, _), (0, _), (1, _)] dX6_findSeen_51 0 rfl (pq_inc i) (by decide) rfl ?_
            refine ux_goto C 10 dX6_findSeen_54 (by decide) ?_
            exact ih (i + 1) f (by omega) (by omega) (hno (fun s hs => by unfold pq_seen; rw [o2, nI_clamp (by omega), h5]; simp))
          · have h5 : ¬ σ.1 2 o = 0 := h5
            refine ux_aload_n C dX6_findSeen_39 1 rfl ?_
            refine ux_get C flX6_findSeen_32 6 rfl rfl rfl dX6_findSeen_40 ?_
            refine ux_aload_n C dX6_findSeen_43 1 rfl ?_
            refine ux_get C flX6_findSeen_15 6 rfl rfl rfl dX6_findSeen_44 ?_
            refine ux_iload_n C dX6_findSeen_47 0 rfl ?_
            refine ux_iald C 13 5 (i) rfl rfl (rfl) (by omega) (by decide) dX6_findSeen_48 ?_
            refine ux_iload_n C dX6_findSeen_49 0 rfl ?_
            refine ux_iast C 17 9 (s0) rfl rfl (s2) (by omega) (by decide) dX6_findSeen_50 _ (awU_9 _ _ _ _) ?_
            refine ux_iinc C (nI (i + 1)) [(2, _), (0, _), (1, _)] dX6_findSeen_51 0 rfl (pq_inc i) (by decide) rfl ?_
            refine ux_goto C 10 dX6_findSeen_54 (by decide) ?_
            refine ux_at (sa_sa _ _ _ _) ?_
            refine ih (i + 1) (upd f s0 (nI i)) (by omega) (by omega) (fun s hs => ?_)
            simp only [pq_lst]
            rw [upd_at]
            by_cases e : s = s0
            · have hp : pq_seen σ s i = true := by
                unfold pq_seen
                rw [decide_eq_false h4, o2, nI_clamp (by omega), decide_eq_false h5, s2, e]
                simp
              rw [if_pos e, if_pos hp]; rfl
            · have hp : ¬ pq_seen σ s i = true := by
                unfold pq_seen
                rw [s2, decide_eq_false (fun q => e ((nI_eq (by omega) (by omega)).mp q).symm)]
                simp
              rw [if_neg e, if_neg hp]; exact h3 s hs
  refine ux_aload_n C dX6_findSeen_0 0 rfl ?_
  refine ux_get C flX6_findSeen_32 6 rfl rfl rfl dX6_findSeen_1 ?_
  refine ux_iconst C (-1) dX6_findSeen_4 (by decide) ?_
  refine ux_scallN C gkX6_findSeen_38 (c_J7_fill_found l D ad cA A σ (-1)) rfl ⟨rfl, rfl⟩ ⟨(Nat.le_of_ble_eq_true rfl), (Nat.le_of_ble_eq_true rfl)⟩ ⟨Nat.le_refl _, Nat.le_refl _⟩ rfl rfl (Nat.le_of_ble_eq_true rfl) dX6_findSeen_5 (fun σ1 hr => ?_)
  subst hr
  refine ux_iconst C (nI 0) dX6_findSeen_8 (by decide) ?_
  refine ux_istore_n C [(2, _), (0, _), (1, _)] dX6_findSeen_9 rfl (by decide) rfl ?_
  refine loop (σ.2.1 2 + 1) 0 _ (by omega) (by omega) (fun s hs => ?_)
  exact if_pos ⟨hs, rfl⟩
set_option maxHeartbeats 4000000 in
set_option maxRecDepth 100000 in
theorem c_X6_hasFound (l : Launch) (D : va_G) (ad : Nat → Nat) (cA : Nat → ClassId) (A : Nat → Prop) (σ : ST) (w : Nat) (x : Option Nat) (hs : w < 512) (hx : σ.1 9 w = pq_o x) (hb : ∀ r, x = some r → r < 512) : ux_I l D vwCl (tyU cA) (wU ad cA) A yX6_hasFound wsX6_hasFound (ux_rm 0) [.ref (ad 6), .int (nI w)] σ (fun r σ' => r = pq_b (u_has σ x) ∧ σ = σ') := by
  refine ux_ofI (cc := cX6_hasFound) (maxL := 2) (ret := (some .boolean)) (Ts := wsX6_hasFound) (lv := [(0, .ref (ad 6)), (1, .int (nI w))]) (by decide) rfl (fun _ h => h) (Nat.le_of_ble_eq_true rfl) rfl ?_
  intro p e s m below meth c C
  cases x with
  | none =>
    have hx : σ.1 9 w = -1 := hx
    refine ux_aload_n C dX6_hasFound_0 0 rfl ?_
    refine ux_get C flX6_hasFound_32 6 rfl rfl rfl dX6_hasFound_1 ?_
    refine ux_iload_n C dX6_hasFound_4 1 rfl ?_
    refine ux_iald C 17 9 (w) rfl rfl (rfl) (hs) (by decide) dX6_hasFound_5 ?_
    refine ux_iconst C ((-1 : Int32)) dX6_hasFound_6 (by decide) ?_
    refine ux_icmp_eq C 28 dX6_hasFound_7 (by decide) (fun h => ?_) (fun h => ?_)
    · refine ux_iconst C ((0 : Int32)) dX6_hasFound_28 (by decide) ?_
      exact ux_zret C dX6_hasFound_29 rfl (⟨rfl, rfl⟩)
    · exact absurd hx h
  | some q =>
    have hx : σ.1 9 w = nI q := hx
    have hq := hb q rfl
    refine ux_aload_n C dX6_hasFound_0 0 rfl ?_
    refine ux_get C flX6_hasFound_32 6 rfl rfl rfl dX6_hasFound_1 ?_
    refine ux_iload_n C dX6_hasFound_4 1 rfl ?_
    refine ux_iald C 17 9 (w) rfl rfl (rfl) (hs) (by decide) dX6_hasFound_5 ?_
    refine ux_iconst C ((-1 : Int32)) dX6_hasFound_6 (by decide) ?_
    refine ux_icmp_eq C 28 dX6_hasFound_7 (by decide) (fun h => ?_) (fun h => ?_)
    · exact absurd (hx.symm.trans h) (pq_nI_m1 (by omega))
    · refine ux_aload_n C dX6_hasFound_10 0 rfl ?_
      refine ux_get C flX6_hasFound_21 6 rfl rfl rfl dX6_hasFound_11 ?_
      refine ux_aload_n C dX6_hasFound_14 0 rfl ?_
      refine ux_get C flX6_hasFound_32 6 rfl rfl rfl dX6_hasFound_15 ?_
      refine ux_iload_n C dX6_hasFound_18 1 rfl ?_
      refine ux_iald C 17 9 (w) rfl rfl (rfl) (hs) (by decide) dX6_hasFound_19 ?_
      refine ux_zald C 15 7 (q) rfl rfl (hx) (by omega) (by decide) dX6_hasFound_20 ?_
      refine ux_if_ne C 28 dX6_hasFound_21 (by decide) (fun h2 => ?_) (fun h2 => ?_)
      · refine ux_iconst C ((0 : Int32)) dX6_hasFound_28 (by decide) ?_
        exact ux_zret C dX6_hasFound_29 rfl (⟨by show _ = pq_b (decide (σ.1 7 q = 0)); rw [decide_eq_false h2]; rfl, rfl⟩)
      · refine ux_iconst C ((1 : Int32)) dX6_hasFound_24 (by decide) ?_
        refine ux_goto C 29 dX6_hasFound_25 (by decide) ?_
        exact ux_zret C dX6_hasFound_29 rfl (⟨by show _ = pq_b (decide (σ.1 7 q = 0)); rw [decide_eq_true h2]; rfl, rfl⟩)
set_option maxHeartbeats 4000000 in
set_option maxRecDepth 100000 in
theorem c_X6_valueFound (l : Launch) (D : va_G) (ad : Nat → Nat) (cA : Nat → ClassId) (A : Nat → Prop) (σ : ST) (w : Nat) (x : Option Nat) (hs : w < 512) (hx : σ.1 9 w = pq_o x) (hb : ∀ r, x = some r → r < 512) : ux_L l D vwCl (tyU cA) (wU ad cA) A yX6_valueFound wsX6_valueFound (ux_rm 0) [.ref (ad 6), .int (nI w)] σ (fun r σ' => r = pq_fv σ x ∧ σ = σ') := by
  refine ux_ofL (cc := cX6_valueFound) (maxL := 2) (ret := (some .long)) (Ts := wsX6_valueFound) (lv := [(0, .ref (ad 6)), (1, .int (nI w))]) (by decide) rfl (fun _ h => h) (Nat.le_of_ble_eq_true rfl) rfl ?_
  intro p e s m below meth c C
  cases x with
  | none =>
    have hx : σ.1 9 w = -1 := hx
    refine ux_aload_n C dX6_valueFound_0 0 rfl ?_
    refine ux_get C flX6_valueFound_32 6 rfl rfl rfl dX6_valueFound_1 ?_
    refine ux_iload_n C dX6_valueFound_4 1 rfl ?_
    refine ux_iald C 17 9 (w) rfl rfl (rfl) (hs) (by decide) dX6_valueFound_5 ?_
    refine ux_iconst C ((-1 : Int32)) dX6_valueFound_6 (by decide) ?_
    refine ux_icmp_ne C 16 dX6_valueFound_7 (by decide) (fun h => ?_) (fun h => ?_)
    · exact absurd hx h
    · refine ux_ldc2 C (1099511627776 : Int64) (by decide +kernel) dX6_valueFound_10 ?_
      refine ux_goto C 28 dX6_valueFound_13 (by decide) ?_
      exact ux_lret C dX6_valueFound_28 (⟨rfl, rfl⟩)
  | some q =>
    have hx : σ.1 9 w = nI q := hx
    have hq := hb q rfl
    refine ux_aload_n C dX6_valueFound_0 0 rfl ?_
    refine ux_get C flX6_valueFound_32 6 rfl rfl rfl dX6_valueFound_1 ?_
    refine ux_iload_n C dX6_valueFound_4 1 rfl ?_
    refine ux_iald C 17 9 (w) rfl rfl (rfl) (hs) (by decide) dX6_valueFound_5 ?_
    refine ux_iconst C ((-1 : Int32)) dX6_valueFound_6 (by decide) ?_
    refine ux_icmp_ne C 16 dX6_valueFound_7 (by decide) (fun h => ?_) (fun h => ?_)
    · refine ux_aload_n C dX6_valueFound_16 0 rfl ?_
      refine ux_get C flX6_valueFound_18 6 rfl rfl rfl dX6_valueFound_17 ?_
      refine ux_aload_n C dX6_valueFound_20 0 rfl ?_
      refine ux_get C flX6_valueFound_32 6 rfl rfl rfl dX6_valueFound_21 ?_
      refine ux_iload_n C dX6_valueFound_24 1 rfl ?_
      refine ux_iald C 17 9 (w) rfl rfl (rfl) (hs) (by decide) dX6_valueFound_25 ?_
      refine ux_iald C 14 6 (q) rfl rfl (hx) (by omega) (by decide) dX6_valueFound_26 ?_
      refine ux_i2l C dX6_valueFound_27 ?_
      exact ux_lret C dX6_valueFound_28 (⟨rfl, rfl⟩)
    · exact absurd (hx.symm.trans h) (pq_nI_m1 (by omega))
set_option maxHeartbeats 4000000 in
set_option maxRecDepth 100000 in
theorem c_X6_findOwn_9 (l : Launch) (D : va_G) (ad : Nat → Nat) (cA : Nat → ClassId) (A : Nat → Prop) (σ : ST) (t : Int32) (hm : σ.2.1 2 ≤ 512) (hS : ∀ r, r < σ.2.1 2 → ∃ s, s < 512 ∧ σ.1 5 r = nI s) : ux_N l D vwCl (tyU cA) (wU ad cA) A yX6_findOwn wsX6_findOwn (ux_rm 1) [.ref (ad 6), .int t, .ref (ad 17)] σ (fun σ' => ∃ f, σ' = sa σ 9 f ∧ ∀ s, s < 512 → f s = pq_o (pq_lst (pq_own σ t s) (σ.2.1 2))) := by
  refine ux_ofN (cc := cX6_findOwn) (maxL := 4) (ret := none) (Ts := wsX6_findOwn) (lv := [(0, .ref (ad 6)), (1, .int t), (2, .ref (ad 17))]) (by decide) rfl (fun _ h => h) (Nat.le_of_ble_eq_true rfl) rfl ?_
  intro p e s m below meth c C
  have loop : ∀ (k i : Nat) (f : Nat → Int32), σ.2.1 2 + 1 ≤ i + k → i ≤ σ.2.1 2 → (∀ s, s < 512 → f s = pq_o (pq_lst (pq_own σ t s) i)) → ux_V p l e (ux_rm 1) s m ([.ref (ad 6), .int t, .ref (ad 17)] : List Value).toArray below meth c (MQ below (va_Qv (fun σ' => ∃ f, σ' = sa σ 9 f ∧ ∀ s, s < 512 → f s = pq_o (pq_lst (pq_own σ t s) (σ.2.1 2))) (fun σ' t => va_P D vwCl (wU ad cA σ') t.heap) A) ([.ref (ad 6), .int t, .ref (ad 17)] : List Value).toArray s 0 0 A) 4 D vwCl (wU ad cA) A 0 0 (sa σ 9 f) 7 [(3, .int (nI i)), (0, .ref (ad 6)), (1, .int t), (2, .ref (ad 17))] [] := by
    intro k
    induction k with
    | zero => intro i f h1 h2; omega
    | succ k ih =>
      intro i f h1 h2 h3
      refine ux_iload_n C dX6_findOwn_7 0 rfl ?_
      refine ux_aload_n C dX6_findOwn_8 1 rfl ?_
      refine ux_get C flX6_findOwn_28 6 rfl rfl rfl dX6_findOwn_9 ?_
      refine ux_icmp_ge C 40 dX6_findOwn_12 (by decide) (fun hc => ?_) (fun hc => ?_)
      · have hc : nI (σ.2.1 2) ≤ nI i := hc
        have hc := (nI_leI (by omega) (by omega)).mp hc
        have e : i = σ.2.1 2 := by omega
        subst e
        exact ux_vret C dX6_findOwn_40 (⟨f, rfl, h3⟩)
      · have hc : ¬ nI (σ.2.1 2) ≤ nI i := hc
        have hc := mt (nI_leI (by omega) (by omega)).mpr hc
        refine ux_aload_n C dX6_findOwn_15 1 rfl ?_
        refine ux_get C flX6_findOwn_9 6 rfl rfl rfl dX6_findOwn_16 ?_
        refine ux_iload_n C dX6_findOwn_19 0 rfl ?_
        refine ux_iald C 12 4 (i) rfl rfl (rfl) (by omega) (by decide) dX6_findOwn_20 ?_
        refine ux_iload_n C dX6_findOwn_21 2 rfl ?_
        refine ux_icmp_ne C 34 dX6_findOwn_22 (by decide) (fun h4 => ?_) (fun h4 => ?_)
        · have h4 : ¬ σ.1 4 i = t := h4
          refine ux_iinc C (nI (i + 1)) [(3, _), (0, _), (1, _), (2, _)] dX6_findOwn_34 0 rfl (pq_inc i) (by decide) rfl ?_
          refine ux_goto C 7 dX6_findOwn_37 (by decide) ?_
          refine ih (i + 1) f (by omega) (by omega) (fun s hs => ?_)
          rw [h3 s hs]; simp only [pq_lst]; rw [if_neg (by simp [pq_own, h4])]
        · have h4 : σ.1 4 i = t := h4
          obtain ⟨s0, s1, s2⟩ := hS i (by omega)
          refine ux_aload_n C dX6_findOwn_25 3 rfl ?_
          refine ux_aload_n C dX6_findOwn_26 1 rfl ?_
          refine ux_get C flX6_findOwn_15 6 rfl rfl rfl dX6_findOwn_27 ?_
          refine ux_iload_n C dX6_findOwn_30 0 rfl ?_
          refine ux_iald C 13 5 (i) rfl rfl (rfl) (by omega) (by decide) dX6_findOwn_31 ?_
          refine ux_iload_n C dX6_findOwn_32 0 rfl ?_
          refine ux_iast C 17 9 (s0) rfl rfl (s2) (by omega) (by decide) dX6_findOwn_33 _ (awU_9 _ _ _ _) ?_
          refine ux_iinc C (nI (i + 1)) [(3, _), (0, _), (1, _), (2, _)] dX6_findOwn_34 0 rfl (pq_inc i) (by decide) rfl ?_
          refine ux_goto C 7 dX6_findOwn_37 (by decide) ?_
          refine ux_at (sa_sa _ _ _ _) ?_
          refine ih (i + 1) (upd f s0 (nI i)) (by omega) (by omega) (fun s hs => ?_)
          simp only [pq_lst]
          rw [upd_at]
          by_cases e : s = s0
          · rw [if_pos e, if_pos (by simp [pq_own, h4, s2, e])]; rfl
          · rw [if_neg e, if_neg (by unfold pq_own; rw [s2, decide_eq_false (fun q => e ((nI_eq (by omega) (by omega)).mp q).symm)]; simp)]; exact h3 s hs
  refine ux_aload_n C dX6_findOwn_0 2 rfl ?_
  refine ux_iconst C (-1) dX6_findOwn_1 (by decide) ?_
  refine ux_scallN C gkX6_findOwn_38 (c_J7_fill_found l D ad cA A σ (-1)) rfl ⟨rfl, rfl⟩ ⟨(Nat.le_of_ble_eq_true rfl), (Nat.le_of_ble_eq_true rfl)⟩ ⟨Nat.le_refl _, Nat.le_refl _⟩ rfl rfl (Nat.le_of_ble_eq_true rfl) dX6_findOwn_2 (fun σ1 hr => ?_)
  subst hr
  refine ux_iconst C (nI 0) dX6_findOwn_5 (by decide) ?_
  refine ux_istore_n C [(3, _), (0, _), (1, _), (2, _)] dX6_findOwn_6 rfl (by decide) rfl ?_
  refine loop (σ.2.1 2 + 1) 0 _ (by omega) (by omega) (fun s hs => ?_)
  exact if_pos ⟨hs, rfl⟩
set_option maxHeartbeats 4000000 in
set_option maxRecDepth 100000 in
theorem c_X6_findOwn_10 (l : Launch) (D : va_G) (ad : Nat → Nat) (cA : Nat → ClassId) (A : Nat → Prop) (σ : ST) (t : Int32) (hm : σ.2.1 2 ≤ 512) (hS : ∀ r, r < σ.2.1 2 → ∃ s, s < 512 ∧ σ.1 5 r = nI s) : ux_N l D vwCl (tyU cA) (wU ad cA) A yX6_findOwn wsX6_findOwn (ux_rm 1) [.ref (ad 6), .int t, .ref (ad 18)] σ (fun σ' => ∃ f, σ' = sa σ 10 f ∧ ∀ s, s < 512 → f s = pq_o (pq_lst (pq_own σ t s) (σ.2.1 2))) := by
  refine ux_ofN (cc := cX6_findOwn) (maxL := 4) (ret := none) (Ts := wsX6_findOwn) (lv := [(0, .ref (ad 6)), (1, .int t), (2, .ref (ad 18))]) (by decide) rfl (fun _ h => h) (Nat.le_of_ble_eq_true rfl) rfl ?_
  intro p e s m below meth c C
  have loop : ∀ (k i : Nat) (f : Nat → Int32), σ.2.1 2 + 1 ≤ i + k → i ≤ σ.2.1 2 → (∀ s, s < 512 → f s = pq_o (pq_lst (pq_own σ t s) i)) → ux_V p l e (ux_rm 1) s m ([.ref (ad 6), .int t, .ref (ad 18)] : List Value).toArray below meth c (MQ below (va_Qv (fun σ' => ∃ f, σ' = sa σ 10 f ∧ ∀ s, s < 512 → f s = pq_o (pq_lst (pq_own σ t s) (σ.2.1 2))) (fun σ' t => va_P D vwCl (wU ad cA σ') t.heap) A) ([.ref (ad 6), .int t, .ref (ad 18)] : List Value).toArray s 0 0 A) 4 D vwCl (wU ad cA) A 0 0 (sa σ 10 f) 7 [(3, .int (nI i)), (0, .ref (ad 6)), (1, .int t), (2, .ref (ad 18))] [] := by
    intro k
    induction k with
    | zero => intro i f h1 h2; omega
    | succ k ih =>
      intro i f h1 h2 h3
      refine ux_iload_n C dX6_findOwn_7 0 rfl ?_
      refine ux_aload_n C dX6_findOwn_8 1 rfl ?_
      refine ux_get C flX6_findOwn_28 6 rfl rfl rfl dX6_findOwn_9 ?_
      refine ux_icmp_ge C 40 dX6_findOwn_12 (by decide) (fun hc => ?_) (fun hc => ?_)
      · have hc : nI (σ.2.1 2) ≤ nI i := hc
        have hc := (nI_leI (by omega) (by omega)).mp hc
        have e : i = σ.2.1 2 := by omega
        subst e
        exact ux_vret C dX6_findOwn_40 (⟨f, rfl, h3⟩)
      · have hc : ¬ nI (σ.2.1 2) ≤ nI i := hc
        have hc := mt (nI_leI (by omega) (by omega)).mpr hc
        refine ux_aload_n C dX6_findOwn_15 1 rfl ?_
        refine ux_get C flX6_findOwn_9 6 rfl rfl rfl dX6_findOwn_16 ?_
        refine ux_iload_n C dX6_findOwn_19 0 rfl ?_
        refine ux_iald C 12 4 (i) rfl rfl (rfl) (by omega) (by decide) dX6_findOwn_20 ?_
        refine ux_iload_n C dX6_findOwn_21 2 rfl ?_
        refine ux_icmp_ne C 34 dX6_findOwn_22 (by decide) (fun h4 => ?_) (fun h4 => ?_)
        · have h4 : ¬ σ.1 4 i = t := h4
          refine ux_iinc C (nI (i + 1)) [(3, _), (0, _), (1, _), (2, _)] dX6_findOwn_34 0 rfl (pq_inc i) (by decide) rfl ?_
          refine ux_goto C 7 dX6_findOwn_37 (by decide) ?_
          refine ih (i + 1) f (by omega) (by omega) (fun s hs => ?_)
          rw [h3 s hs]; simp only [pq_lst]; rw [if_neg (by simp [pq_own, h4])]
        · have h4 : σ.1 4 i = t := h4
          obtain ⟨s0, s1, s2⟩ := hS i (by omega)
          refine ux_aload_n C dX6_findOwn_25 3 rfl ?_
          refine ux_aload_n C dX6_findOwn_26 1 rfl ?_
          refine ux_get C flX6_findOwn_15 6 rfl rfl rfl dX6_findOwn_27 ?_
          refine ux_iload_n C dX6_findOwn_30 0 rfl ?_
          refine ux_iald C 13 5 (i) rfl rfl (rfl) (by omega) (by decide) dX6_findOwn_31 ?_
          refine ux_iload_n C dX6_findOwn_32 0 rfl ?_
          refine ux_iast C 18 10 (s0) rfl rfl (s2) (by omega) (by decide) dX6_findOwn_33 _ (awU_10 _ _ _ _) ?_
          refine ux_iinc C (nI (i + 1)) [(3, _), (0, _), (1, _), (2, _)] dX6_findOwn_34 0 rfl (pq_inc i) (by decide) rfl ?_
          refine ux_goto C 7 dX6_findOwn_37 (by decide) ?_
          refine ux_at (sa_sa _ _ _ _) ?_
          refine ih (i + 1) (upd f s0 (nI i)) (by omega) (by omega) (fun s hs => ?_)
          simp only [pq_lst]
          rw [upd_at]
          by_cases e : s = s0
          · rw [if_pos e, if_pos (by simp [pq_own, h4, s2, e])]; rfl
          · rw [if_neg e, if_neg (by unfold pq_own; rw [s2, decide_eq_false (fun q => e ((nI_eq (by omega) (by omega)).mp q).symm)]; simp)]; exact h3 s hs
  refine ux_aload_n C dX6_findOwn_0 2 rfl ?_
  refine ux_iconst C (-1) dX6_findOwn_1 (by decide) ?_
  refine ux_scallN C gkX6_findOwn_38 (c_J7_fill_earlier l D ad cA A σ (-1)) rfl ⟨rfl, rfl⟩ ⟨(Nat.le_of_ble_eq_true rfl), (Nat.le_of_ble_eq_true rfl)⟩ ⟨Nat.le_refl _, Nat.le_refl _⟩ rfl rfl (Nat.le_of_ble_eq_true rfl) dX6_findOwn_2 (fun σ1 hr => ?_)
  subst hr
  refine ux_iconst C (nI 0) dX6_findOwn_5 (by decide) ?_
  refine ux_istore_n C [(3, _), (0, _), (1, _), (2, _)] dX6_findOwn_6 rfl (by decide) rfl ?_
  refine loop (σ.2.1 2 + 1) 0 _ (by omega) (by omega) (fun s hs => ?_)
  exact if_pos ⟨hs, rfl⟩
set_option maxHeartbeats 4000000 in
set_option maxRecDepth 100000 in
theorem c_X6_keysOf (l : Launch) (D : va_G) (ad : Nat → Nat) (cA : Nat → ClassId) (A : Nat → Prop) (σ : ST) (t : Int32) (hm : σ.2.1 2 ≤ 512) (hS : ∀ r, r < σ.2.1 2 → ∃ s, s < 512 ∧ σ.1 5 r = nI s) : ux_I l D vwCl (tyU cA) (wU ad cA) A yX6_keysOf wsX6_keysOf (ux_rm 2) [.ref (ad 6), .int t] σ (fun r σ' => ∃ f, σ' = sa σ 9 f ∧ r = nI (pq_cnt (fun s => (pq_lst (pq_own σ t s) (σ.2.1 2)).isSome) 512)) := by
  refine ux_ofI (cc := cX6_keysOf) (maxL := 4) (ret := (some .int)) (Ts := wsX6_keysOf) (lv := [(0, .ref (ad 6)), (1, .int t)]) (by decide) rfl (fun _ h => h) (Nat.le_of_ble_eq_true rfl) rfl ?_
  intro p e s m below meth c C
  refine ux_aload_n C dX6_keysOf_0 0 rfl ?_
  refine ux_iload_n C dX6_keysOf_1 1 rfl ?_
  refine ux_aload_n C dX6_keysOf_2 0 rfl ?_
  refine ux_get C flX6_keysOf_32 6 rfl rfl rfl dX6_keysOf_3 ?_
  refine ux_callN C gkX6_keysOf_46 (c_X6_findOwn_9 l D ad cA A σ t hm hS) rfl ⟨rfl, rfl⟩ ⟨(Nat.le_of_ble_eq_true rfl), (Nat.le_of_ble_eq_true rfl)⟩ ⟨Nat.le_refl _, Nat.le_refl _⟩ 6 rfl rfl rfl rfl (Nat.le_of_ble_eq_true rfl) dX6_keysOf_6 (fun σ1 hr => ?_)
  obtain ⟨f, rfl, hf⟩ := hr
  have loop : ∀ (k i : Nat), 513 ≤ i + k → i ≤ 512 → ux_V p l e (ux_rm 2) s m ([.ref (ad 6), .int t] : List Value).toArray below meth c (MQ below (va_Qi (fun r σ' => ∃ f, σ' = sa σ 9 f ∧ r = nI (pq_cnt (fun s => (pq_lst (pq_own σ t s) (σ.2.1 2)).isSome) 512)) (fun σ' t => va_P D vwCl (wU ad cA σ') t.heap) A) ([.ref (ad 6), .int t] : List Value).toArray s 0 0 A) 4 D vwCl (wU ad cA) A 0 0 (sa σ 9 f) 13 [(3, .int (nI i)), (2, .int (nI (pq_cnt (fun s => (pq_lst (pq_own σ t s) (σ.2.1 2)).isSome) i))), (0, .ref (ad 6)), (1, .int t)] [] := by
    intro k
    induction k with
    | zero => intro i h1 h2; omega
    | succ k ih =>
      intro i h1 h2
      refine ux_iload_n C dX6_keysOf_13 0 rfl ?_
      refine ux_sipush C (nI 512) dX6_keysOf_14 (by decide) ?_
      refine ux_icmp_ge C 39 dX6_keysOf_17 (by decide) (fun hc => ?_) (fun hc => ?_)
      · have hc := (nI_leI (by omega) (by omega)).mp hc
        have e : i = 512 := by omega
        subst e
        refine ux_iload_n C dX6_keysOf_39 1 rfl ?_
        exact ux_iret C dX6_keysOf_40 (⟨f, rfl, rfl⟩)
      · have hc := mt (nI_leI (by omega) (by omega)).mpr hc
        have hih := ih (i + 1) (by omega) (by omega)
        have hb : ∀ q, pq_lst (pq_own σ t i) (σ.2.1 2) = some q → q < 2 ^ 31 := fun q hq => by have := (pq_lst_some.mp hq).1; omega
        refine ux_aload_n C dX6_keysOf_20 2 rfl ?_
        refine ux_get C flX6_keysOf_32 6 rfl rfl rfl dX6_keysOf_21 ?_
        refine ux_iload_n C dX6_keysOf_24 0 rfl ?_
        refine ux_iald C 17 9 (i) rfl rfl (rfl) (by omega) (by decide) dX6_keysOf_25 ?_
        refine ux_top _ (hf i (by omega)) ?_
        refine ux_iconst C ((-1 : Int32)) dX6_keysOf_26 (by decide) ?_
        refine ux_icmp_eq C 33 dX6_keysOf_27 (by decide) (fun h4 => ?_) (fun h4 => ?_)
        · have h4 := (pq_o_m1 hb).mp h4
          rw [pq_cnt_f (n := i) (by simp [h4])] at hih
          refine ux_iinc C (nI (i + 1)) [(3, _), (2, _), (0, _), (1, _)] dX6_keysOf_33 0 rfl (pq_inc i) (by decide) rfl ?_
          refine ux_goto C 13 dX6_keysOf_36 (by decide) ?_
          exact hih
        · have h4 := mt (pq_o_m1 hb).mpr h4
          rw [pq_cnt_t (n := i) (Option.isSome_iff_ne_none.mpr h4)] at hih
          refine ux_iinc C (nI (_ + 1)) [(2, _), (3, _), (0, _), (1, _)] dX6_keysOf_30 1 rfl (pq_inc _) (by decide) rfl ?_
          refine ux_iinc C (nI (i + 1)) [(3, _), (2, _), (0, _), (1, _)] dX6_keysOf_33 1 rfl (pq_inc i) (by decide) rfl ?_
          refine ux_goto C 13 dX6_keysOf_36 (by decide) ?_
          exact hih
  refine ux_iconst C (nI 0) dX6_keysOf_9 (by decide) ?_
  refine ux_istore_n C [(2, _), (0, _), (1, _)] dX6_keysOf_10 rfl (by decide) rfl ?_
  refine ux_iconst C (nI 0) dX6_keysOf_11 (by decide) ?_
  refine ux_istore_n C [(3, _), (2, _), (0, _), (1, _)] dX6_keysOf_12 rfl (by decide) rfl ?_
  exact loop 513 0 (by omega) (by omega)
set_option maxHeartbeats 4000000 in
set_option maxRecDepth 100000 in
theorem c_X6_handOver (l : Launch) (D : va_G) (ad : Nat → Nat) (cA : Nat → ClassId) (A : Nat → Prop) (σ : ST) (a b z : Int32) (hm : σ.2.1 2 ≤ 512) : ux_N l D vwCl (tyU cA) (wU ad cA) A yX6_handOver wsX6_handOver (ux_rm 0) [.ref (ad 6), .int a, .int b, .int z] σ (fun σ' => σ' = sa (sa σ 4 (pq_msk (fun r => decide (σ.1 4 r = a)) b (σ.1 4) (σ.2.1 2))) 8 (pq_msk (fun r => decide (σ.1 4 r = a)) z (σ.1 8) (σ.2.1 2))) := by
  refine ux_ofN (cc := cX6_handOver) (maxL := 5) (ret := none) (Ts := wsX6_handOver) (lv := [(0, .ref (ad 6)), (1, .int a), (2, .int b), (3, .int z)]) (by decide) rfl (fun _ h => h) (Nat.le_of_ble_eq_true rfl) rfl ?_
  intro p e s m below meth c C
  have loop : ∀ (k i : Nat), σ.2.1 2 + 1 ≤ i + k → i ≤ σ.2.1 2 → ux_V p l e (ux_rm 0) s m ([.ref (ad 6), .int a, .int b, .int z] : List Value).toArray below meth c (MQ below (va_Qv (fun σ' => σ' = sa (sa σ 4 (pq_msk (fun r => decide (σ.1 4 r = a)) b (σ.1 4) (σ.2.1 2))) 8 (pq_msk (fun r => decide (σ.1 4 r = a)) z (σ.1 8) (σ.2.1 2))) (fun σ' t => va_P D vwCl (wU ad cA σ') t.heap) A) ([.ref (ad 6), .int a, .int b, .int z] : List Value).toArray s 0 0 A) 5 D vwCl (wU ad cA) A 0 0 (sa (sa σ 4 (pq_msk (fun r => decide (σ.1 4 r = a)) b (σ.1 4) i)) 8 (pq_msk (fun r => decide (σ.1 4 r = a)) z (σ.1 8) i)) 3 [(4, .int (nI i)), (0, .ref (ad 6)), (1, .int a), (2, .int b), (3, .int z)] [] := by
    intro k
    induction k with
    | zero => intro i h1 h2; omega
    | succ k ih =>
      intro i h1 h2
      refine ux_iload C dX6_handOver_3 0 rfl ?_
      refine ux_aload_n C dX6_handOver_5 1 rfl ?_
      refine ux_get C flX6_handOver_28 6 rfl rfl rfl dX6_handOver_6 ?_
      refine ux_icmp_ge C 45 dX6_handOver_9 (by decide) (fun hc => ?_) (fun hc => ?_)
      · have hc : nI (σ.2.1 2) ≤ nI i := hc
        have hc := (nI_leI (by omega) (by omega)).mp hc
        have e : i = σ.2.1 2 := by omega
        subst e
        exact ux_vret C dX6_handOver_45 (rfl)
      · have hc : ¬ nI (σ.2.1 2) ≤ nI i := hc
        have hc := mt (nI_leI (by omega) (by omega)).mpr hc
        have hih := ih (i + 1) (by omega) (by omega)
        refine ux_aload_n C dX6_handOver_12 1 rfl ?_
        refine ux_get C flX6_handOver_9 6 rfl rfl rfl dX6_handOver_13 ?_
        refine ux_iload C dX6_handOver_16 0 rfl ?_
        refine ux_iald C 12 4 (i) rfl rfl (rfl) (by omega) (by decide) dX6_handOver_18 ?_
        refine ux_top _ (congrFun ((sa_ne _ _ (by decide)).trans (sa_eq _ _ _)) _) ?_
        refine ux_top _ (pq_msk_at _ _ _ _) ?_
        refine ux_iload_n C dX6_handOver_19 2 rfl ?_
        refine ux_icmp_ne C 39 dX6_handOver_20 (by decide) (fun h4 => ?_) (fun h4 => ?_)
        · rw [← pq_msk_f (by simp [h4]), ← pq_msk_f (by simp [h4])] at hih
          refine ux_iinc C (nI (i + 1)) [(4, _), (0, _), (1, _), (2, _), (3, _)] dX6_handOver_39 0 rfl (pq_inc i) (by decide) rfl ?_
          refine ux_goto C 3 dX6_handOver_42 (by decide) ?_
          exact hih
        · rw [← pq_msk_t (by simp [h4]), ← pq_msk_t (by simp [h4])] at hih
          refine ux_aload_n C dX6_handOver_23 1 rfl ?_
          refine ux_get C flX6_handOver_9 6 rfl rfl rfl dX6_handOver_24 ?_
          refine ux_iload C dX6_handOver_27 0 rfl ?_
          refine ux_iload_n C dX6_handOver_29 3 rfl ?_
          refine ux_iast C 12 4 (i) rfl rfl (rfl) (by omega) (by decide) dX6_handOver_30 _ (awU_4 _ _ _ _) ?_
          refine ux_aload_n C dX6_handOver_31 1 rfl ?_
          refine ux_get C flX6_handOver_25 6 rfl rfl rfl dX6_handOver_32 ?_
          refine ux_iload C dX6_handOver_35 0 rfl ?_
          refine ux_iload_n C dX6_handOver_37 4 rfl ?_
          refine ux_iast C 16 8 (i) rfl rfl (rfl) (by omega) (by decide) dX6_handOver_38 _ (awU_8 _ _ _ _) ?_
          refine ux_iinc C (nI (i + 1)) [(4, _), (0, _), (1, _), (2, _), (3, _)] dX6_handOver_39 0 rfl (pq_inc i) (by decide) rfl ?_
          refine ux_goto C 3 dX6_handOver_42 (by decide) ?_
          exact hih
  refine ux_iconst C (nI 0) dX6_handOver_0 (by decide) ?_
  refine ux_istore C [(4, _), (0, _), (1, _), (2, _), (3, _)] dX6_handOver_1 (by decide) rfl ?_
  have hl := loop (σ.2.1 2 + 1) 0 (by omega) (by omega)
  rw [pq_msk_id (i := 0) (fun j hj => by omega), pq_msk_id (i := 0) (fun j hj => by omega)] at hl
  rw [show sa (sa σ 4 (σ.1 4)) 8 (σ.1 8) = σ by rw [sa_self, sa_self]] at hl
  exact hl
set_option maxHeartbeats 4000000 in
set_option maxRecDepth 100000 in
theorem c_X6_dropFrom (l : Launch) (D : va_G) (ad : Nat → Nat) (cA : Nat → ClassId) (A : Nat → Prop) (σ : ST) (t z : Int32) (hm : σ.2.1 2 ≤ 512) : ux_N l D vwCl (tyU cA) (wU ad cA) A yX6_dropFrom wsX6_dropFrom (ux_rm 0) [.ref (ad 6), .int t, .int z] σ (fun σ' => σ' = sa σ 4 (pq_msk (fun r => decide (σ.1 4 r = t) && !decide (σ.1 8 r < z)) (-1) (σ.1 4) (σ.2.1 2))) := by
  refine ux_ofN (cc := cX6_dropFrom) (maxL := 4) (ret := none) (Ts := wsX6_dropFrom) (lv := [(0, .ref (ad 6)), (1, .int t), (2, .int z)]) (by decide) rfl (fun _ h => h) (Nat.le_of_ble_eq_true rfl) rfl ?_
  intro p e s m below meth c C
  have loop : ∀ (k i : Nat), σ.2.1 2 + 1 ≤ i + k → i ≤ σ.2.1 2 → ux_V p l e (ux_rm 0) s m ([.ref (ad 6), .int t, .int z] : List Value).toArray below meth c (MQ below (va_Qv (fun σ' => σ' = sa σ 4 (pq_msk (fun r => decide (σ.1 4 r = t) && !decide (σ.1 8 r < z)) (-1) (σ.1 4) (σ.2.1 2))) (fun σ' t => va_P D vwCl (wU ad cA σ') t.heap) A) ([.ref (ad 6), .int t, .int z] : List Value).toArray s 0 0 A) 4 D vwCl (wU ad cA) A 0 0 (sa σ 4 (pq_msk (fun r => decide (σ.1 4 r = t) && !decide (σ.1 8 r < z)) (-1) (σ.1 4) i)) 2 [(3, .int (nI i)), (0, .ref (ad 6)), (1, .int t), (2, .int z)] [] := by
    intro k
    induction k with
    | zero => intro i h1 h2; omega
    | succ k ih =>
      intro i h1 h2
      refine ux_iload_n C dX6_dropFrom_2 0 rfl ?_
      refine ux_aload_n C dX6_dropFrom_3 1 rfl ?_
      refine ux_get C flX6_dropFrom_28 6 rfl rfl rfl dX6_dropFrom_4 ?_
      refine ux_icmp_ge C 43 dX6_dropFrom_7 (by decide) (fun hc => ?_) (fun hc => ?_)
      · have hc : nI (σ.2.1 2) ≤ nI i := hc
        have hc := (nI_leI (by omega) (by omega)).mp hc
        have e : i = σ.2.1 2 := by omega
        subst e
        exact ux_vret C dX6_dropFrom_43 (rfl)
      · have hc : ¬ nI (σ.2.1 2) ≤ nI i := hc
        have hc := mt (nI_leI (by omega) (by omega)).mpr hc
        have hih := ih (i + 1) (by omega) (by omega)
        refine ux_aload_n C dX6_dropFrom_10 1 rfl ?_
        refine ux_get C flX6_dropFrom_9 6 rfl rfl rfl dX6_dropFrom_11 ?_
        refine ux_iload_n C dX6_dropFrom_14 0 rfl ?_
        refine ux_iald C 12 4 (i) rfl rfl (rfl) (by omega) (by decide) dX6_dropFrom_15 ?_
        refine ux_top _ (congrFun (sa_eq _ _ _) _) ?_
        refine ux_top _ (pq_msk_at _ _ _ _) ?_
        refine ux_iload_n C dX6_dropFrom_16 2 rfl ?_
        refine ux_icmp_ne C 37 dX6_dropFrom_17 (by decide) (fun h4 => ?_) (fun h4 => ?_)
        · rw [← pq_msk_f (by simp [h4])] at hih
          refine ux_iinc C (nI (i + 1)) [(3, _), (0, _), (1, _), (2, _)] dX6_dropFrom_37 0 rfl (pq_inc i) (by decide) rfl ?_
          refine ux_goto C 2 dX6_dropFrom_40 (by decide) ?_
          exact hih
        · refine ux_aload_n C dX6_dropFrom_20 1 rfl ?_
          refine ux_get C flX6_dropFrom_25 6 rfl rfl rfl dX6_dropFrom_21 ?_
          refine ux_iload_n C dX6_dropFrom_24 0 rfl ?_
          refine ux_iald C 16 8 (i) rfl rfl (rfl) (by omega) (by decide) dX6_dropFrom_25 ?_
          refine ux_iload_n C dX6_dropFrom_26 3 rfl ?_
          refine ux_icmp_lt C 37 dX6_dropFrom_27 (by decide) (fun h5 => ?_) (fun h5 => ?_)
          · have h5 : σ.1 8 i < z := h5
            rw [← pq_msk_f (by simp [h5])] at hih
            refine ux_iinc C (nI (i + 1)) [(3, _), (0, _), (1, _), (2, _)] dX6_dropFrom_37 0 rfl (pq_inc i) (by decide) rfl ?_
            refine ux_goto C 2 dX6_dropFrom_40 (by decide) ?_
            exact hih
          · have h5 : ¬ σ.1 8 i < z := h5
            rw [← pq_msk_t (by simp [h4, h5])] at hih
            refine ux_aload_n C dX6_dropFrom_30 1 rfl ?_
            refine ux_get C flX6_dropFrom_9 6 rfl rfl rfl dX6_dropFrom_31 ?_
            refine ux_iload_n C dX6_dropFrom_34 0 rfl ?_
            refine ux_iconst C ((-1 : Int32)) dX6_dropFrom_35 (by decide) ?_
            refine ux_iast C 12 4 (i) rfl rfl (rfl) (by omega) (by decide) dX6_dropFrom_36 _ (awU_4 _ _ _ _) ?_
            refine ux_iinc C (nI (i + 1)) [(3, _), (0, _), (1, _), (2, _)] dX6_dropFrom_37 0 rfl (pq_inc i) (by decide) rfl ?_
            refine ux_goto C 2 dX6_dropFrom_40 (by decide) ?_
            refine ux_at (sa_sa _ _ _ _) ?_
            exact hih
  refine ux_iconst C (nI 0) dX6_dropFrom_0 (by decide) ?_
  refine ux_istore_n C [(3, _), (0, _), (1, _), (2, _)] dX6_dropFrom_1 rfl (by decide) rfl ?_
  refine ux_at (sa_self σ 4).symm ?_
  have hl := loop (σ.2.1 2 + 1) 0 (by omega) (by omega)
  rw [pq_msk_id (i := 0) (fun j hj => by omega)] at hl
  exact hl
set_option maxHeartbeats 4000000 in
set_option maxRecDepth 100000 in
theorem c_X6_drop (l : Launch) (D : va_G) (ad : Nat → Nat) (cA : Nat → ClassId) (A : Nat → Prop) (σ : ST) (t : Int32) (hm : σ.2.1 2 ≤ 512) : ux_N l D vwCl (tyU cA) (wU ad cA) A yX6_drop wsX6_drop (ux_rm 1) [.ref (ad 6), .int t] σ (fun σ' => σ' = sa σ 4 (pq_msk (fun r => decide (σ.1 4 r = t) && !decide (σ.1 8 r < 0)) (-1) (σ.1 4) (σ.2.1 2))) := by
  refine ux_ofN (cc := cX6_drop) (maxL := 2) (ret := none) (Ts := wsX6_drop) (lv := [(0, .ref (ad 6)), (1, .int t)]) (by decide) rfl (fun _ h => h) (Nat.le_of_ble_eq_true rfl) rfl ?_
  intro p e s m below meth c C
  refine ux_aload_n C dX6_drop_0 0 rfl ?_
  refine ux_iload_n C dX6_drop_1 1 rfl ?_
  refine ux_iconst C ((0 : Int32)) dX6_drop_2 (by decide) ?_
  refine ux_callN C gkX6_drop_50 (c_X6_dropFrom l D ad cA A σ t 0 hm) rfl ⟨rfl, rfl⟩ ⟨(Nat.le_of_ble_eq_true rfl), (Nat.le_of_ble_eq_true rfl)⟩ ⟨Nat.le_refl _, Nat.le_refl _⟩ 6 rfl rfl rfl rfl (Nat.le_of_ble_eq_true rfl) dX6_drop_3 (fun σ1 hr => ?_)
  exact ux_vret C dX6_drop_6 (hr)
set_option maxHeartbeats 4000000 in
set_option maxRecDepth 100000 in
theorem c_X6_sayTheSame (l : Launch) (D : va_G) (ad : Nat → Nat) (cA : Nat → ClassId) (A : Nat → Prop) (σ : ST) (x y : Option Nat) (hx : ∀ r, x = some r → r < 512) (hy : ∀ r, y = some r → r < 512) : ux_I l D vwCl (tyU cA) (wU ad cA) A yX6_sayTheSame wsX6_sayTheSame (ux_rm 0) [.ref (ad 6), .int (pq_o x), .int (pq_o y)] σ (fun r σ' => r = pq_b (pq_same σ x y) ∧ σ = σ') := by
  refine ux_ofI (cc := cX6_sayTheSame) (maxL := 3) (ret := (some .boolean)) (Ts := wsX6_sayTheSame) (lv := [(0, .ref (ad 6)), (1, .int (pq_o x)), (2, .int (pq_o y))]) (by decide) rfl (fun _ h => h) (Nat.le_of_ble_eq_true rfl) rfl ?_
  intro p e s m below meth c C
  cases x with
  | none =>
    refine ux_iload_n C dX6_sayTheSame_0 1 rfl ?_
    refine ux_iconst C ((-1 : Int32)) dX6_sayTheSame_1 (by decide) ?_
    refine ux_icmp_eq C 10 dX6_sayTheSame_2 (by decide) (fun h => ?_) (fun h => ?_)
    · cases y with
      | none =>
        refine ux_iload_n C dX6_sayTheSame_10 1 rfl ?_
        refine ux_iload_n C dX6_sayTheSame_11 2 rfl ?_
        refine ux_icmp_ne C 19 dX6_sayTheSame_12 (by decide) (fun h2 => ?_) (fun h2 => ?_)
        · exact absurd rfl h2
        · refine ux_iconst C ((1 : Int32)) dX6_sayTheSame_15 (by decide) ?_
          refine ux_goto C 20 dX6_sayTheSame_16 (by decide) ?_
          exact ux_zret C dX6_sayTheSame_20 rfl (⟨rfl, rfl⟩)
      | some b =>
        refine ux_iload_n C dX6_sayTheSame_10 1 rfl ?_
        refine ux_iload_n C dX6_sayTheSame_11 2 rfl ?_
        refine ux_icmp_ne C 19 dX6_sayTheSame_12 (by decide) (fun h2 => ?_) (fun h2 => ?_)
        · refine ux_iconst C ((0 : Int32)) dX6_sayTheSame_19 (by decide) ?_
          exact ux_zret C dX6_sayTheSame_20 rfl (⟨rfl, rfl⟩)
        · exact absurd h2.symm (pq_nI_m1 (Nat.lt_trans (hy b rfl) (by decide)))
    · exact absurd rfl h
  | some a =>
    have ha := hx a rfl
    refine ux_iload_n C dX6_sayTheSame_0 1 rfl ?_
    refine ux_iconst C ((-1 : Int32)) dX6_sayTheSame_1 (by decide) ?_
    refine ux_icmp_eq C 10 dX6_sayTheSame_2 (by decide) (fun h => ?_) (fun h => ?_)
    · exact absurd h (pq_nI_m1 (by omega))
    · cases y with
      | none =>
        refine ux_iload_n C dX6_sayTheSame_5 2 rfl ?_
        refine ux_iconst C ((-1 : Int32)) dX6_sayTheSame_6 (by decide) ?_
        refine ux_icmp_ne C 21 dX6_sayTheSame_7 (by decide) (fun h2 => ?_) (fun h2 => ?_)
        · exact absurd rfl h2
        · refine ux_iload_n C dX6_sayTheSame_10 1 rfl ?_
          refine ux_iload_n C dX6_sayTheSame_11 2 rfl ?_
          refine ux_icmp_ne C 19 dX6_sayTheSame_12 (by decide) (fun h3 => ?_) (fun h3 => ?_)
          · refine ux_iconst C ((0 : Int32)) dX6_sayTheSame_19 (by decide) ?_
            exact ux_zret C dX6_sayTheSame_20 rfl (⟨rfl, rfl⟩)
          · exact absurd h3 (pq_nI_m1 (by omega))
      | some b =>
        have hb := hy b rfl
        refine ux_iload_n C dX6_sayTheSame_5 2 rfl ?_
        refine ux_iconst C ((-1 : Int32)) dX6_sayTheSame_6 (by decide) ?_
        refine ux_icmp_ne C 21 dX6_sayTheSame_7 (by decide) (fun h2 => ?_) (fun h2 => ?_)
        · rw [show pq_same σ (some a) (some b) = (decide (σ.1 7 a = σ.1 7 b) && (!decide (σ.1 7 a = 0) || decide (σ.1 6 a = σ.1 6 b))) from rfl]
          refine ux_aload_n C dX6_sayTheSame_21 0 rfl ?_
          refine ux_get C flX6_sayTheSame_21 6 rfl rfl rfl dX6_sayTheSame_22 ?_
          refine ux_iload_n C dX6_sayTheSame_25 1 rfl ?_
          refine ux_zald C 15 7 (a) rfl rfl (rfl) (ha) (by decide) dX6_sayTheSame_26 ?_
          refine ux_aload_n C dX6_sayTheSame_27 0 rfl ?_
          refine ux_get C flX6_sayTheSame_21 6 rfl rfl rfl dX6_sayTheSame_28 ?_
          refine ux_iload_n C dX6_sayTheSame_31 2 rfl ?_
          refine ux_zald C 15 7 (b) rfl rfl (rfl) (hb) (by decide) dX6_sayTheSame_32 ?_
          refine ux_icmp_ne C 64 dX6_sayTheSame_33 (by decide) (fun h4 => ?_) (fun h4 => ?_)
          · refine ux_iconst C ((0 : Int32)) dX6_sayTheSame_64 (by decide) ?_
            exact ux_zret C dX6_sayTheSame_65 rfl (⟨by rw [decide_eq_false h4]; rfl, rfl⟩)
          · refine ux_aload_n C dX6_sayTheSame_36 0 rfl ?_
            refine ux_get C flX6_sayTheSame_21 6 rfl rfl rfl dX6_sayTheSame_37 ?_
            refine ux_iload_n C dX6_sayTheSame_40 1 rfl ?_
            refine ux_zald C 15 7 (a) rfl rfl (rfl) (ha) (by decide) dX6_sayTheSame_41 ?_
            refine ux_if_ne C 60 dX6_sayTheSame_42 (by decide) (fun h5 => ?_) (fun h5 => ?_)
            · refine ux_iconst C ((1 : Int32)) dX6_sayTheSame_60 (by decide) ?_
              refine ux_goto C 65 dX6_sayTheSame_61 (by decide) ?_
              exact ux_zret C dX6_sayTheSame_65 rfl (⟨by rw [decide_eq_true h4, decide_eq_false h5]; rfl, rfl⟩)
            · refine ux_aload_n C dX6_sayTheSame_45 0 rfl ?_
              refine ux_get C flX6_sayTheSame_18 6 rfl rfl rfl dX6_sayTheSame_46 ?_
              refine ux_iload_n C dX6_sayTheSame_49 1 rfl ?_
              refine ux_iald C 14 6 (a) rfl rfl (rfl) (ha) (by decide) dX6_sayTheSame_50 ?_
              refine ux_aload_n C dX6_sayTheSame_51 0 rfl ?_
              refine ux_get C flX6_sayTheSame_18 6 rfl rfl rfl dX6_sayTheSame_52 ?_
              refine ux_iload_n C dX6_sayTheSame_55 2 rfl ?_
              refine ux_iald C 14 6 (b) rfl rfl (rfl) (hb) (by decide) dX6_sayTheSame_56 ?_
              refine ux_icmp_ne C 64 dX6_sayTheSame_57 (by decide) (fun h6 => ?_) (fun h6 => ?_)
              · refine ux_iconst C ((0 : Int32)) dX6_sayTheSame_64 (by decide) ?_
                exact ux_zret C dX6_sayTheSame_65 rfl (⟨by rw [decide_eq_true h4, decide_eq_true h5, decide_eq_false h6]; rfl, rfl⟩)
              · refine ux_iconst C ((1 : Int32)) dX6_sayTheSame_60 (by decide) ?_
                refine ux_goto C 65 dX6_sayTheSame_61 (by decide) ?_
                exact ux_zret C dX6_sayTheSame_65 rfl (⟨by rw [decide_eq_true h4, decide_eq_true h5, decide_eq_true h6]; rfl, rfl⟩)
        · exact absurd h2 (pq_nI_m1 (by omega))
set_option maxHeartbeats 4000000 in
set_option maxRecDepth 100000 in
theorem c_X6_undo (l : Launch) (D : va_G) (ad : Nat → Nat) (cA : Nat → ClassId) (A : Nat → Prop) (σ : ST) (t z : Int32) (hm : σ.2.1 2 ≤ 512) (hS : ∀ r, r < σ.2.1 2 → ∃ s, s < 512 ∧ σ.1 5 r = nI s) : ux_I l D vwCl (tyU cA) (wU ad cA) A yX6_undo wsX6_undo (ux_rm 2) [.ref (ad 6), .int t, .int z] σ (fun r σ' => ∃ f1 f2, σ' = sa (sa (sa σ 9 f1) 4 (pq_msk (fun r => decide (σ.1 4 r = t) && !decide (σ.1 8 r < z)) (-1) (σ.1 4) (σ.2.1 2))) 10 f2 ∧ r = nI (pq_cnt (fun s => !pq_same σ (pq_lst (pq_own σ t s) (σ.2.1 2)) (pq_lst (pq_own (sa σ 4 (pq_msk (fun r => decide (σ.1 4 r = t) && !decide (σ.1 8 r < z)) (-1) (σ.1 4) (σ.2.1 2))) t s) (σ.2.1 2))) 512)) := by
  refine ux_ofI (cc := cX6_undo) (maxL := 5) (ret := (some .int)) (Ts := wsX6_undo) (lv := [(0, .ref (ad 6)), (1, .int t), (2, .int z)]) (by decide) rfl (fun _ h => h) (Nat.le_of_ble_eq_true rfl) rfl ?_
  intro p e s m below meth c C
  refine ux_aload_n C dX6_undo_0 0 rfl ?_
  refine ux_iload_n C dX6_undo_1 1 rfl ?_
  refine ux_aload_n C dX6_undo_2 0 rfl ?_
  refine ux_get C flX6_undo_32 6 rfl rfl rfl dX6_undo_3 ?_
  refine ux_callN C gkX6_undo_46 (c_X6_findOwn_9 l D ad cA A σ t hm hS) rfl ⟨rfl, rfl⟩ ⟨(Nat.le_of_ble_eq_true rfl), (Nat.le_of_ble_eq_true rfl)⟩ ⟨Nat.le_refl _, Nat.le_refl _⟩ 6 rfl rfl rfl rfl (Nat.le_of_ble_eq_true rfl) dX6_undo_6 (fun σ1 hr => ?_)
  obtain ⟨f1, rfl, hf1⟩ := hr
  refine ux_aload_n C dX6_undo_9 0 rfl ?_
  refine ux_iload_n C dX6_undo_10 1 rfl ?_
  refine ux_iload_n C dX6_undo_11 2 rfl ?_
  refine ux_callN C gkX6_undo_50 (c_X6_dropFrom l D ad cA A (sa σ 9 f1) t z hm) rfl ⟨rfl, rfl⟩ ⟨(Nat.le_of_ble_eq_true rfl), (Nat.le_of_ble_eq_true rfl)⟩ ⟨Nat.le_refl _, Nat.le_refl _⟩ 6 rfl rfl rfl rfl (Nat.le_of_ble_eq_true rfl) dX6_undo_12 (fun σ1 hr => ?_)
  subst hr
  refine ux_aload_n C dX6_undo_15 0 rfl ?_
  refine ux_iload_n C dX6_undo_16 1 rfl ?_
  refine ux_aload_n C dX6_undo_17 0 rfl ?_
  refine ux_get C flX6_undo_35 6 rfl rfl rfl dX6_undo_18 ?_
  refine ux_callN C gkX6_undo_46 (c_X6_findOwn_10 l D ad cA A _ t hm hS) rfl ⟨rfl, rfl⟩ ⟨(Nat.le_of_ble_eq_true rfl), (Nat.le_of_ble_eq_true rfl)⟩ ⟨Nat.le_refl _, Nat.le_refl _⟩ 6 rfl rfl rfl rfl (Nat.le_of_ble_eq_true rfl) dX6_undo_21 (fun σ1 hr => ?_)
  obtain ⟨f2, rfl, hf2⟩ := hr
  have loop : ∀ (k i : Nat), 513 ≤ i + k → i ≤ 512 → ux_V p l e (ux_rm 2) s m ([.ref (ad 6), .int t, .int z] : List Value).toArray below meth c (MQ below (va_Qi (fun r σ' => ∃ f1 f2, σ' = sa (sa (sa σ 9 f1) 4 (pq_msk (fun r => decide (σ.1 4 r = t) && !decide (σ.1 8 r < z)) (-1) (σ.1 4) (σ.2.1 2))) 10 f2 ∧ r = nI (pq_cnt (fun s => !pq_same σ (pq_lst (pq_own σ t s) (σ.2.1 2)) (pq_lst (pq_own (sa σ 4 (pq_msk (fun r => decide (σ.1 4 r = t) && !decide (σ.1 8 r < z)) (-1) (σ.1 4) (σ.2.1 2))) t s) (σ.2.1 2))) 512)) (fun σ' t => va_P D vwCl (wU ad cA σ') t.heap) A) ([.ref (ad 6), .int t, .int z] : List Value).toArray s 0 0 A) 5 D vwCl (wU ad cA) A 0 0 (sa (sa (sa σ 9 f1) 4 (pq_msk (fun r => decide (σ.1 4 r = t) && !decide (σ.1 8 r < z)) (-1) (σ.1 4) (σ.2.1 2))) 10 f2) 29 [(4, .int (nI i)), (3, .int (nI (pq_cnt (fun s => !pq_same σ (pq_lst (pq_own σ t s) (σ.2.1 2)) (pq_lst (pq_own (sa σ 4 (pq_msk (fun r => decide (σ.1 4 r = t) && !decide (σ.1 8 r < z)) (-1) (σ.1 4) (σ.2.1 2))) t s) (σ.2.1 2))) i))), (0, .ref (ad 6)), (1, .int t), (2, .int z)] [] := by
    intro k
    induction k with
    | zero => intro i h1 h2; omega
    | succ k ih =>
      intro i h1 h2
      refine ux_iload C dX6_undo_29 0 rfl ?_
      refine ux_sipush C (nI 512) dX6_undo_31 (by decide) ?_
      refine ux_icmp_ge C 67 dX6_undo_34 (by decide) (fun hc => ?_) (fun hc => ?_)
      · have hc := (nI_leI (by omega) (by omega)).mp hc
        have e : i = 512 := by omega
        subst e
        refine ux_iload_n C dX6_undo_67 1 rfl ?_
        exact ux_iret C dX6_undo_68 (⟨f1, f2, rfl, rfl⟩)
      · have hc := mt (nI_leI (by omega) (by omega)).mpr hc
        have hih := ih (i + 1) (by omega) (by omega)
        refine ux_aload_n C dX6_undo_37 2 rfl ?_
        refine ux_aload_n C dX6_undo_38 2 rfl ?_
        refine ux_get C flX6_undo_32 6 rfl rfl rfl dX6_undo_39 ?_
        refine ux_iload C dX6_undo_42 0 rfl ?_
        refine ux_iald C 17 9 (i) rfl rfl (rfl) (by omega) (by decide) dX6_undo_44 ?_
        refine ux_top _ (hf1 i (by omega)) ?_
        refine ux_aload_n C dX6_undo_45 2 rfl ?_
        refine ux_get C flX6_undo_35 6 rfl rfl rfl dX6_undo_46 ?_
        refine ux_iload C dX6_undo_49 0 rfl ?_
        refine ux_iald C 18 10 (i) rfl rfl (rfl) (by omega) (by decide) dX6_undo_51 ?_
        refine ux_top _ (hf2 i (by omega)) ?_
        refine ux_callI C gkX6_undo_54 (c_X6_sayTheSame l D ad cA A _ (pq_lst (pq_own σ t i) (σ.2.1 2)) (pq_lst (pq_own (sa σ 4 (pq_msk (fun r => decide (σ.1 4 r = t) && !decide (σ.1 8 r < z)) (-1) (σ.1 4) (σ.2.1 2))) t i) (σ.2.1 2)) (fun q hq => by have := (pq_lst_some.mp hq).1; omega) (fun q hq => by have := (pq_lst_some.mp hq).1; omega)) rfl ⟨rfl, rfl⟩ ⟨(Nat.le_of_ble_eq_true rfl), (Nat.le_of_ble_eq_true rfl)⟩ ⟨Nat.le_refl _, Nat.le_refl _⟩ 6 rfl rfl rfl rfl (Nat.le_of_ble_eq_true rfl) dX6_undo_52 (fun r σ1 hr => ?_)
        obtain ⟨rfl, rfl⟩ := hr
        refine ux_if_ne C 61 dX6_undo_55 (by decide) (fun h4 => ?_) (fun h4 => ?_)
        · have h4 : pq_same σ (pq_lst (pq_own σ t i) (σ.2.1 2)) (pq_lst (pq_own (sa σ 4 (pq_msk (fun r => decide (σ.1 4 r = t) && !decide (σ.1 8 r < z)) (-1) (σ.1 4) (σ.2.1 2))) t i) (σ.2.1 2)) = true := (pq_bn0 _).mp h4
          rw [pq_cnt_f (n := i) (by rw [h4]; rfl)] at hih
          refine ux_iinc C (nI (i + 1)) [(4, _), (3, _), (0, _), (1, _), (2, _)] dX6_undo_61 0 rfl (pq_inc i) (by decide) rfl ?_
          refine ux_goto C 29 dX6_undo_64 (by decide) ?_
          exact hih
        · have h4 : pq_same σ (pq_lst (pq_own σ t i) (σ.2.1 2)) (pq_lst (pq_own (sa σ 4 (pq_msk (fun r => decide (σ.1 4 r = t) && !decide (σ.1 8 r < z)) (-1) (σ.1 4) (σ.2.1 2))) t i) (σ.2.1 2)) = false := (pq_b0 _).mp h4
          rw [pq_cnt_t (n := i) (by rw [h4]; rfl)] at hih
          refine ux_iinc C (nI (_ + 1)) [(3, _), (4, _), (0, _), (1, _), (2, _)] dX6_undo_58 1 rfl (pq_inc _) (by decide) rfl ?_
          refine ux_iinc C (nI (i + 1)) [(4, _), (3, _), (0, _), (1, _), (2, _)] dX6_undo_61 1 rfl (pq_inc i) (by decide) rfl ?_
          refine ux_goto C 29 dX6_undo_64 (by decide) ?_
          exact hih
  refine ux_iconst C (nI 0) dX6_undo_24 (by decide) ?_
  refine ux_istore_n C [(3, _), (0, _), (1, _), (2, _)] dX6_undo_25 rfl (by decide) rfl ?_
  refine ux_iconst C (nI 0) dX6_undo_26 (by decide) ?_
  refine ux_istore C [(4, _), (3, _), (0, _), (1, _), (2, _)] dX6_undo_27 (by decide) rfl ?_
  exact loop 513 0 (by omega) (by omega)

