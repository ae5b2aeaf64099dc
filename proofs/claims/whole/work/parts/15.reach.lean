theorem hiX4_clear_4 : ∀ w ∈ wsX40, w ∈ wsX4_clear := by decide +kernel
theorem flX4_clear_11 : ux_F wsX4_clear RX4 11 RX4 TX4 1 0 := ⟨hiX4_clear_4, by decide, by decide +kernel⟩
theorem hiX4_join_4 : ∀ w ∈ wsX40, w ∈ wsX4_join := by decide +kernel
theorem flX4_join_11 : ux_F wsX4_join RX4 11 RX4 TX4 1 0 := ⟨hiX4_join_4, by decide, by decide +kernel⟩
theorem hiX4_leads_4 : ∀ w ∈ wsX40, w ∈ wsX4_leads := by decide +kernel
theorem flX4_leads_11 : ux_F wsX4_leads RX4 11 RX4 TX4 1 0 := ⟨hiX4_leads_4, by decide, by decide +kernel⟩
theorem hiX4_joinAll_4 : ∀ w ∈ wsX40, w ∈ wsX4_joinAll := by decide +kernel
theorem flX4_joinAll_11 : ux_F wsX4_joinAll RX4 11 RX4 TX4 1 0 := ⟨hiX4_joinAll_4, by decide, by decide +kernel⟩
theorem hiX1_drawInTheWay_1 : ∀ w ∈ wsX10, w ∈ wsX1_drawInTheWay := by decide +kernel
theorem flX1_drawInTheWay_21 : ux_F wsX1_drawInTheWay RX1 21 RX1 TX1 4 3 := ⟨hiX1_drawInTheWay_1, by decide, by decide +kernel⟩
theorem flX1_drawInTheWay_9 : ux_F wsX1_drawInTheWay RX1 9 RX1 TX1 4 0 := ⟨hiX1_drawInTheWay_1, by decide, by decide +kernel⟩
theorem gkX4_clear_15 : ux_GS wsX4_clear RX4 15 yJ7_fill_d0a16 wsJ7_fill_d0a16 2 := ⟨gX4_clear_J7_fill_d0a16, by decide +kernel⟩
theorem gkX4_close_21 : ux_G wsX4_close RX4 21 RX4 yX4_leads wsX4_leads 2 := ⟨gX4_close_X4_leads, by decide +kernel⟩
theorem gkX4_close_25 : ux_G wsX4_close RX4 25 RX4 yX4_joinAll wsX4_joinAll 2 := ⟨gX4_close_X4_joinAll, by decide +kernel⟩
theorem gkX1_drawInTheWay_38 : ux_G wsX1_drawInTheWay RX1 38 RX5 yX5_slotOf wsX5_slotOf 1 := ⟨gX1_drawInTheWay_X5_slotOf, by decide +kernel⟩
theorem gkX1_drawInTheWay_44 : ux_G wsX1_drawInTheWay RX1 44 RX5 yX5_kindOf wsX5_kindOf 1 := ⟨gX1_drawInTheWay_X5_kindOf, by decide +kernel⟩
theorem gkX1_drawInTheWay_34 : ux_G wsX1_drawInTheWay RX1 34 RX1 yX1_isInTheWay wsX1_isInTheWay 4 := ⟨gX1_drawInTheWay_X1_isInTheWay, by decide +kernel⟩
theorem gkX1_drawInTheWay_47 : ux_G wsX1_drawInTheWay RX1 47 RX4 yX4_join wsX4_join 2 := ⟨gX1_drawInTheWay_X4_join, by decide +kernel⟩
set_option maxHeartbeats 4000000 in
set_option maxRecDepth 100000 in
theorem c_X4_clear (l : Launch) (D : va_G) (ad : Nat → Nat) (cA : Nat → ClassId) (A : Nat → Prop) (σ : ST) : ux_N l D vwCl (tyU cA) (wU ad cA) A yX4_clear wsX4_clear (ux_rm 1) [.ref (ad 4)] σ (fun σ' => ∃ B, σ' = sb σ B ∧ ∀ j, j < 453 → B j = 0) := by
  refine ux_ofN (cc := cX4_clear) (maxL := 1) (ret := none) (Ts := wsX4_clear) (lv := [(0, .ref (ad 4))]) (by decide) rfl (fun _ h => h) (Nat.le_of_ble_eq_true rfl) rfl ?_
  intro p e s m below meth c C
  refine ux_aload_n C dX4_clear_0 0 rfl ?_
  refine ux_get C flX4_clear_11 4 rfl rfl rfl dX4_clear_1 ?_
  refine ux_lconst C ((0 : Int64)) dX4_clear_4 (by decide) ?_
  refine ux_scallN C gkX4_clear_15 (c_J7_fill_d0a16 l D ad cA A σ 0) rfl ⟨rfl, rfl⟩ ⟨(Nat.le_of_ble_eq_true rfl), (Nat.le_of_ble_eq_true rfl)⟩ ⟨Nat.le_refl _, Nat.le_refl _⟩ rfl rfl (Nat.le_of_ble_eq_true rfl) dX4_clear_5 (fun σ1 hr => ?_)
  exact ux_vret C dX4_clear_8 (hr)
set_option maxHeartbeats 4000000 in
set_option maxRecDepth 100000 in
theorem c_X4_join (l : Launch) (D : va_G) (ad : Nat → Nat) (cA : Nat → ClassId) (A : Nat → Prop) (σ : ST) (a b : Nat) (ha : a ≤ 150) (hb : b ≤ 150) : ux_N l D vwCl (tyU cA) (wU ad cA) A yX4_join wsX4_join (ux_rm 0) [.ref (ad 4), .int (nI a), .int (nI b)] σ (fun σ' => ∃ B, σ' = sb σ B ∧ ∀ c d, d ≤ 150 → pq_bit B c d = (pq_bit σ.2.2 c d || (decide (c = a) && decide (d = b)))) := by
  refine ux_ofN (cc := cX4_join) (maxL := 3) (ret := none) (Ts := wsX4_join) (lv := [(0, .ref (ad 4)), (1, .int (nI a)), (2, .int (nI b))]) (by decide) rfl (fun _ h => h) (Nat.le_of_ble_eq_true rfl) rfl ?_
  intro p e s m below meth c C
  refine ux_aload_n C dX4_join_0 0 rfl ?_
  refine ux_get C flX4_join_11 4 rfl rfl rfl dX4_join_1 ?_
  refine ux_iload_n C dX4_join_4 1 rfl ?_
  refine ux_iconst C (nI 3) dX4_join_5 (by decide) ?_
  refine ux_imul C dX4_join_6 ?_
  refine ux_iload_n C dX4_join_7 2 rfl ?_
  refine ux_bipush C (nI 64) dX4_join_8 (by decide) ?_
  refine ux_idiv C dX4_join_10 (nI_ne0 (by omega) (by omega)) ?_
  refine ux_iadd C dX4_join_11 ?_
  refine ux_top (nI (a * 3 + b / 64)) (by rw [pk_mul, pk_div (by omega) (by omega) (by omega), nI_add]) ?_
  refine ux_dup2_11 C dX4_join_12 rfl rfl ?_
  refine ux_lald C 25 17 (_) rfl rfl (rfl) (by omega) (by decide) dX4_join_13 ?_
  refine ux_lconst C ((1 : Int64)) dX4_join_14 (by decide) ?_
  refine ux_iload_n C dX4_join_15 2 rfl ?_
  refine ux_bipush C (nI 64) dX4_join_16 (by decide) ?_
  refine ux_irem C dX4_join_18 (nI_ne0 (by omega) (by omega)) ?_
  refine ux_top (nI (b % 64)) (pk_rem (by omega) (by omega) (by omega)) ?_
  refine ux_lshl C dX4_join_19 ?_
  refine ux_lor C dX4_join_20 ?_
  refine ux_last C 25 17 (_) rfl rfl (rfl) (by omega) (by decide) dX4_join_21 _ (awU_17 _ _ _ _) ?_
  refine ux_vret C dX4_join_22 ?_
  refine ⟨_, rfl, fun c d hd => ?_⟩
  exact pq_bit_join (by omega) (by omega) σ.2.2
set_option maxHeartbeats 4000000 in
set_option maxRecDepth 100000 in
theorem c_X4_leads (l : Launch) (D : va_G) (ad : Nat → Nat) (cA : Nat → ClassId) (A : Nat → Prop) (σ : ST) (a b : Nat) (ha : a ≤ 150) (hb : b ≤ 150) : ux_I l D vwCl (tyU cA) (wU ad cA) A yX4_leads wsX4_leads (ux_rm 0) [.ref (ad 4), .int (nI a), .int (nI b)] σ (fun r σ' => r = pq_b (pq_bit σ.2.2 a b) ∧ σ = σ') := by
  refine ux_ofI (cc := cX4_leads) (maxL := 3) (ret := (some .boolean)) (Ts := wsX4_leads) (lv := [(0, .ref (ad 4)), (1, .int (nI a)), (2, .int (nI b))]) (by decide) rfl (fun _ h => h) (Nat.le_of_ble_eq_true rfl) rfl ?_
  intro p e s m below meth c C
  refine ux_aload_n C dX4_leads_0 0 rfl ?_
  refine ux_get C flX4_leads_11 4 rfl rfl rfl dX4_leads_1 ?_
  refine ux_iload_n C dX4_leads_4 1 rfl ?_
  refine ux_iconst C (nI 3) dX4_leads_5 (by decide) ?_
  refine ux_imul C dX4_leads_6 ?_
  refine ux_iload_n C dX4_leads_7 2 rfl ?_
  refine ux_bipush C (nI 64) dX4_leads_8 (by decide) ?_
  refine ux_idiv C dX4_leads_10 (nI_ne0 (by omega) (by omega)) ?_
  refine ux_iadd C dX4_leads_11 ?_
  refine ux_top (nI (a * 3 + b / 64)) (by rw [pk_mul, pk_div (by omega) (by omega) (by omega), nI_add]) ?_
  refine ux_lald C 25 17 (_) rfl rfl (rfl) (by omega) (by decide) dX4_leads_12 ?_
  refine ux_iload_n C dX4_leads_13 2 rfl ?_
  refine ux_bipush C (nI 64) dX4_leads_14 (by decide) ?_
  refine ux_irem C dX4_leads_16 (nI_ne0 (by omega) (by omega)) ?_
  refine ux_top (nI (b % 64)) (pk_rem (by omega) (by omega) (by omega)) ?_
  refine ux_lushr C dX4_leads_17 ?_
  refine ux_lconst C ((1 : Int64)) dX4_leads_18 (by decide) ?_
  refine ux_land C dX4_leads_19 ?_
  refine ux_lconst C ((0 : Int64)) dX4_leads_20 (by decide) ?_
  refine ux_lcmp C dX4_leads_21 ?_
  refine ux_if_eq C 29 dX4_leads_22 (by decide) (fun h => ?_) (fun h => ?_)
  · refine ux_iconst C ((0 : Int32)) dX4_leads_29 (by decide) ?_
    exact ux_zret C dX4_leads_30 rfl (⟨by rw [pq_bit_leads.mp h]; rfl, rfl⟩)
  · refine ux_iconst C ((1 : Int32)) dX4_leads_25 (by decide) ?_
    refine ux_goto C 30 dX4_leads_26 (by decide) ?_
    exact ux_zret C dX4_leads_30 rfl (⟨by rw [pq_bit_leadsN.mp h]; rfl, rfl⟩)
set_option maxHeartbeats 4000000 in
set_option maxRecDepth 100000 in
theorem c_X4_joinAll (l : Launch) (D : va_G) (ad : Nat → Nat) (cA : Nat → ClassId) (A : Nat → Prop) (σ : ST) (a b : Nat) (ha : a ≤ 150) (hb : b ≤ 150) : ux_N l D vwCl (tyU cA) (wU ad cA) A yX4_joinAll wsX4_joinAll (ux_rm 0) [.ref (ad 4), .int (nI a), .int (nI b)] σ (fun σ' => ∃ B, σ' = sb σ B ∧ ∀ c d, d ≤ 150 → pq_bit B c d = (pq_bit σ.2.2 c d || (decide (c = a) && pq_bit σ.2.2 b d))) := by
  refine ux_ofN (cc := cX4_joinAll) (maxL := 4) (ret := none) (Ts := wsX4_joinAll) (lv := [(0, .ref (ad 4)), (1, .int (nI a)), (2, .int (nI b))]) (by decide) rfl (fun _ h => h) (Nat.le_of_ble_eq_true rfl) rfl ?_
  intro p e s m below meth c C
  have loop : ∀ (k w : Nat) (B : Nat → Int64), 4 ≤ w + k → w ≤ 3 → (∀ i v, v < 3 → B (i * 3 + v) = if i = a ∧ v < w then σ.2.2 (i * 3 + v) ||| σ.2.2 (b * 3 + v) else σ.2.2 (i * 3 + v)) → ux_V p l e (ux_rm 0) s m ([.ref (ad 4), .int (nI a), .int (nI b)] : List Value).toArray below meth c (MQ below (va_Qv (fun σ' => ∃ B, σ' = sb σ B ∧ ∀ c d, d ≤ 150 → pq_bit B c d = (pq_bit σ.2.2 c d || (decide (c = a) && pq_bit σ.2.2 b d))) (fun σ' t => va_P D vwCl (wU ad cA σ') t.heap) A) ([.ref (ad 4), .int (nI a), .int (nI b)] : List Value).toArray s 0 0 A) 4 D vwCl (wU ad cA) A 0 0 (sb σ B) 2 [(3, .int (nI w)), (0, .ref (ad 4)), (1, .int (nI a)), (2, .int (nI b))] [] := by
    intro k
    induction k with
    | zero => intro w B h1 h2; omega
    | succ k ih =>
      intro w B h1 h2 h3
      refine ux_iload_n C dX4_joinAll_2 0 rfl ?_
      refine ux_iconst C (nI 3) dX4_joinAll_3 (by decide) ?_
      refine ux_icmp_ge C 36 dX4_joinAll_4 (by decide) (fun hc => ?_) (fun hc => ?_)
      · have hc := (nI_leI (by omega) (by omega)).mp hc
        have e : w = 3 := by omega
        subst e
        refine ux_vret C dX4_joinAll_36 ?_
        refine ⟨B, rfl, fun c d hd => ?_⟩
        unfold pq_bit
        rw [h3 c (d / 64) (by omega)]
        by_cases e : c = a
        · rw [if_pos ⟨e, by omega⟩, decide_eq_true e]; simp
        · rw [if_neg (fun q => e q.1), decide_eq_false e]; simp
      · have hc := mt (nI_leI (by omega) (by omega)).mpr hc
        refine ux_aload_n C dX4_joinAll_7 1 rfl ?_
        refine ux_get C flX4_joinAll_11 4 rfl rfl rfl dX4_joinAll_8 ?_
        refine ux_iload_n C dX4_joinAll_11 2 rfl ?_
        refine ux_iconst C (nI 3) dX4_joinAll_12 (by decide) ?_
        refine ux_imul C dX4_joinAll_13 ?_
        refine ux_iload_n C dX4_joinAll_14 0 rfl ?_
        refine ux_iadd C dX4_joinAll_15 ?_
        refine ux_top (nI (a * 3 + w)) (by rw [pk_mul, nI_add]) ?_
        refine ux_dup2_11 C dX4_joinAll_16 rfl rfl ?_
        refine ux_lald C 25 17 (_) rfl rfl (rfl) (by omega) (by decide) dX4_joinAll_17 ?_
        refine ux_aload_n C dX4_joinAll_18 1 rfl ?_
        refine ux_get C flX4_joinAll_11 4 rfl rfl rfl dX4_joinAll_19 ?_
        refine ux_iload_n C dX4_joinAll_22 3 rfl ?_
        refine ux_iconst C (nI 3) dX4_joinAll_23 (by decide) ?_
        refine ux_imul C dX4_joinAll_24 ?_
        refine ux_iload_n C dX4_joinAll_25 0 rfl ?_
        refine ux_iadd C dX4_joinAll_26 ?_
        refine ux_top (nI (b * 3 + w)) (by rw [pk_mul, nI_add]) ?_
        refine ux_lald C 25 17 (_) rfl rfl (rfl) (by omega) (by decide) dX4_joinAll_27 ?_
        refine ux_lor C dX4_joinAll_28 ?_
        refine ux_last C 25 17 (_) rfl rfl (rfl) (by omega) (by decide) dX4_joinAll_29 _ (awU_17 _ _ _ _) ?_
        refine ux_iinc C (nI (w + 1)) [(3, _), (0, _), (1, _), (2, _)] dX4_joinAll_30 0 rfl (pq_inc w) (by decide) rfl ?_
        refine ux_goto C 2 dX4_joinAll_33 (by decide) ?_
        refine ih (w + 1) _ (by omega) (by omega) (fun i v hv => ?_)
        have e1 : B (a * 3 + w) = σ.2.2 (a * 3 + w) := by rw [h3 a w (by omega), if_neg (by omega)]
        have e2 : B (b * 3 + w) = σ.2.2 (b * 3 + w) := by rw [h3 b w (by omega), if_neg (by omega)]
        show (if i * 3 + v = a * 3 + w then B (a * 3 + w) ||| B (b * 3 + w) else B (i * 3 + v)) = _
        by_cases e : i = a ∧ v = w
        · rw [if_pos (by omega), if_pos (by omega), e1, e2, e.1, e.2]
        · rw [if_neg (by omega), h3 i v hv]
          by_cases e3 : i = a ∧ v < w
          · rw [if_pos e3, if_pos (by omega)]
          · rw [if_neg e3, if_neg (by omega)]
  refine ux_iconst C (nI 0) dX4_joinAll_0 (by decide) ?_
  refine ux_istore_n C [(3, _), (0, _), (1, _), (2, _)] dX4_joinAll_1 rfl (by decide) rfl ?_
  exact loop 4 0 σ.2.2 (by omega) (by omega) (fun i v hv => by rw [if_neg (by omega)])
set_option maxHeartbeats 4000000 in
set_option maxRecDepth 100000 in
theorem c_X4_close (l : Launch) (D : va_G) (ad : Nat → Nat) (cA : Nat → ClassId) (A : Nat → Prop) (σ : ST) (n : Nat) (hn : n ≤ 150) (E : Nat → Nat → Bool) (hE : ∀ a b, 1 ≤ a → a ≤ n → b ≤ 150 → pq_bit σ.2.2 a b = E a b) : ux_N l D vwCl (tyU cA) (wU ad cA) A yX4_close wsX4_close (ux_rm 1) [.ref (ad 4), .int (nI n)] σ (fun σ' => ∃ B, σ' = sb σ B ∧ ∀ a b, 1 ≤ a → a ≤ n → b ≤ 150 → pq_bit B a b = pq_cl E n a b) := by
  refine ux_ofN (cc := cX4_close) (maxL := 4) (ret := none) (Ts := wsX4_close) (lv := [(0, .ref (ad 4)), (1, .int (nI n))]) (by decide) rfl (fun _ h => h) (Nat.le_of_ble_eq_true rfl) rfl ?_
  intro p e s m below meth c C
  have inner : ∀ (th : Nat) (hth : th + 1 ≤ n) (kk : ∀ B, (∀ a b, 1 ≤ a → a ≤ n → b ≤ 150 → pq_bit B a b = pq_cl E (th + 1) a b) → ux_V p l e (ux_rm 1) s m ([.ref (ad 4), .int (nI n)] : List Value).toArray below meth c (MQ below (va_Qv (fun σ' => ∃ B, σ' = sb σ B ∧ ∀ a b, 1 ≤ a → a ≤ n → b ≤ 150 → pq_bit B a b = pq_cl E n a b) (fun σ' t => va_P D vwCl (wU ad cA σ') t.heap) A) ([.ref (ad 4), .int (nI n)] : List Value).toArray s 0 0 A) 4 D vwCl (wU ad cA) A 0 0 (sb σ B) 35 [(3, .int (nI (n + 1))), (2, .int (nI (th + 1))), (0, .ref (ad 4)), (1, .int (nI n))] []) (k j : Nat) (B : Nat → Int64), n + 2 ≤ j + k → 1 ≤ j → j ≤ n + 1 → (∀ a b, 1 ≤ a → a ≤ n → b ≤ 150 → pq_bit B a b = if a < j then pq_cl E (th + 1) a b else pq_cl E th a b) → ux_V p l e (ux_rm 1) s m ([.ref (ad 4), .int (nI n)] : List Value).toArray below meth c (MQ below (va_Qv (fun σ' => ∃ B, σ' = sb σ B ∧ ∀ a b, 1 ≤ a → a ≤ n → b ≤ 150 → pq_bit B a b = pq_cl E n a b) (fun σ' t => va_P D vwCl (wU ad cA σ') t.heap) A) ([.ref (ad 4), .int (nI n)] : List Value).toArray s 0 0 A) 4 D vwCl (wU ad cA) A 0 0 (sb σ B) 9 [(3, .int (nI j)), (2, .int (nI (th + 1))), (0, .ref (ad 4)), (1, .int (nI n))] [] := by
    intro th hth kk k
    induction k with
    | zero => intro j B h1 h2 h3; omega
    | succ k ih =>
      intro j B h1 h2 h3 h4
      refine ux_iload_n C dX4_close_9 0 rfl ?_
      refine ux_iload_n C dX4_close_10 3 rfl ?_
      refine ux_icmp_gt C 35 dX4_close_11 (by decide) (fun hc => ?_) (fun hc => ?_)
      · have hc := (nI_ltI (by omega) (by omega)).mp hc
        have e : j = n + 1 := by omega
        subst e
        exact kk B (fun a b ha hb hd => by rw [h4 a b ha hb hd, if_pos (by omega)])
      · have hc := mt (nI_ltI (by omega) (by omega)).mpr hc
        have hrow : ∀ b, b ≤ 150 → pq_bit B (th + 1) b = pq_cl E th (th + 1) b := fun b hb => by
          rw [h4 (th + 1) b (by omega) hth hb]
          split
          · exact pq_cl_row E th b
          · rfl
        have hj : pq_bit B j (th + 1) = pq_cl E th j (th + 1) := by rw [h4 j (th + 1) h2 (by omega) (by omega), if_neg (by omega)]
        refine ux_aload_n C dX4_close_14 2 rfl ?_
        refine ux_iload_n C dX4_close_15 0 rfl ?_
        refine ux_iload_n C dX4_close_16 1 rfl ?_
        refine ux_callI C gkX4_close_21 (c_X4_leads l D ad cA A (sb σ B) j (th + 1) (by omega) (by omega)) rfl ⟨rfl, rfl⟩ ⟨(Nat.le_of_ble_eq_true rfl), (Nat.le_of_ble_eq_true rfl)⟩ ⟨Nat.le_refl _, Nat.le_refl _⟩ 4 rfl rfl rfl rfl (Nat.le_of_ble_eq_true rfl) dX4_close_17 (fun r σ1 hr => ?_)
        obtain ⟨rfl, rfl⟩ := hr
        refine ux_if_eq C 29 dX4_close_20 (by decide) (fun h5 => ?_) (fun h5 => ?_)
        · have h5 : pq_bit B j (th + 1) = false := (pq_b0 _).mp h5
          refine ux_iinc C (nI (j + 1)) [(3, _), (2, _), (0, _), (1, _)] dX4_close_29 0 rfl (pq_inc j) (by decide) rfl ?_
          refine ux_goto C 9 dX4_close_32 (by decide) ?_
          refine ih (j + 1) B (by omega) (by omega) (by omega) (fun a b ha hb hd => ?_)
          rw [h4 a b ha hb hd]
          by_cases e : a = j
          · subst e
            rw [if_neg (by omega), if_pos (by omega)]
            simp only [pq_cl]; rw [← hj, h5]; simp
          · by_cases e2 : a < j
            · rw [if_pos e2, if_pos (by omega)]
            · rw [if_neg e2, if_neg (by omega)]
        · have h5 : pq_bit B j (th + 1) = true := (pq_bn0 _).mp h5
          refine ux_aload_n C dX4_close_23 2 rfl ?_
          refine ux_iload_n C dX4_close_24 0 rfl ?_
          refine ux_iload_n C dX4_close_25 1 rfl ?_
          refine ux_callN C gkX4_close_25 (c_X4_joinAll l D ad cA A (sb σ B) j (th + 1) (by omega) (by omega)) rfl ⟨rfl, rfl⟩ ⟨(Nat.le_of_ble_eq_true rfl), (Nat.le_of_ble_eq_true rfl)⟩ ⟨Nat.le_refl _, Nat.le_refl _⟩ 4 rfl rfl rfl rfl (Nat.le_of_ble_eq_true rfl) dX4_close_26 (fun σ1 hr => ?_)
          obtain ⟨B2, rfl, hB⟩ := hr
          refine ux_iinc C (nI (j + 1)) [(3, _), (2, _), (0, _), (1, _)] dX4_close_29 0 rfl (pq_inc j) (by decide) rfl ?_
          refine ux_goto C 9 dX4_close_32 (by decide) ?_
          refine ih (j + 1) B2 (by omega) (by omega) (by omega) (fun a b ha hb hd => ?_)
          have hB : pq_bit B2 a b = (pq_bit B a b || (decide (a = j) && pq_bit B (th + 1) b)) := hB a b hd
          rw [hB, h4 a b ha hb hd, hrow b hd]
          by_cases e : a = j
          · subst e
            rw [if_neg (by omega), if_pos (by omega), decide_eq_true rfl]
            simp only [pq_cl]; rw [← hj, h5]
          · rw [decide_eq_false e]
            by_cases e2 : a < j
            · rw [if_pos e2, if_pos (by omega)]; simp
            · rw [if_neg e2, if_neg (by omega)]; simp
  have outer : ∀ (k th : Nat) (B : Nat → Int64), n + 1 ≤ th + k → th ≤ n → (∀ a b, 1 ≤ a → a ≤ n → b ≤ 150 → pq_bit B a b = pq_cl E th a b) → ux_V p l e (ux_rm 1) s m ([.ref (ad 4), .int (nI n)] : List Value).toArray below meth c (MQ below (va_Qv (fun σ' => ∃ B, σ' = sb σ B ∧ ∀ a b, 1 ≤ a → a ≤ n → b ≤ 150 → pq_bit B a b = pq_cl E n a b) (fun σ' t => va_P D vwCl (wU ad cA σ') t.heap) A) ([.ref (ad 4), .int (nI n)] : List Value).toArray s 0 0 A) 4 D vwCl (wU ad cA) A 0 0 (sb σ B) 2 [(2, .int (nI (th + 1))), (0, .ref (ad 4)), (1, .int (nI n))] [] := by
    intro k
    induction k with
    | zero => intro th B h1 h2; omega
    | succ k ih =>
      intro th B h1 h2 h3
      refine ux_iload_n C dX4_close_2 0 rfl ?_
      refine ux_iload_n C dX4_close_3 2 rfl ?_
      refine ux_icmp_gt C 41 dX4_close_4 (by decide) (fun hc => ?_) (fun hc => ?_)
      · have hc := (nI_ltI (by omega) (by omega)).mp hc
        have e : th = n := by omega
        subst e
        exact ux_vret C dX4_close_41 (⟨B, rfl, h3⟩)
      · have hc := mt (nI_ltI (by omega) (by omega)).mpr hc
        refine ux_iconst C (nI 1) dX4_close_7 (by decide) ?_
        refine ux_istore_n C [(3, _), (2, _), (0, _), (1, _)] dX4_close_8 rfl (by decide) rfl ?_
        refine inner th (by omega) (fun B hB => ?_) (n + 2) 1 B (by omega) (by omega) (by omega) (fun a b ha hb hd => by rw [if_neg (by omega)]; exact h3 a b ha hb hd)
        refine ux_iinc C (nI (th + 1 + 1)) [(2, _), (3, _), (0, _), (1, _)] dX4_close_35 1 rfl (pq_inc (th + 1)) (by decide) rfl ?_
        refine ux_goto C 2 dX4_close_38 (by decide) ?_
        refine ux_sub [(2, _), (0, _), (1, _)] [0, 2, 3] rfl ?_
        exact ih (th + 1) B (by omega) (by omega) hB
  refine ux_iconst C (nI 1) dX4_close_0 (by decide) ?_
  refine ux_istore_n C [(2, _), (0, _), (1, _)] dX4_close_1 rfl (by decide) rfl ?_
  exact outer (n + 1) 0 σ.2.2 (by omega) (by omega) hE
set_option maxHeartbeats 4000000 in
set_option maxRecDepth 100000 in
theorem c_X1_drawInTheWay (l : Launch) (D : va_G) (ad : Nat → Nat) (cA : Nat → ClassId) (A : Nat → Prop) (σ : ST) (t : Nat) (ht : t ≤ 150) (hm : σ.2.1 3 ≤ 512) (hO : ∀ r, r < σ.2.1 3 → σ.1 11 r = -1 ∨ ∃ o, o ≤ 150 ∧ σ.1 11 r = nI o) : ux_N l D vwCl (tyU cA) (wU ad cA) A yX1_drawInTheWay wsX1_drawInTheWay (ux_rm 1) [.ref (ad 1), .int (nI t), .ref (ad 5), .ref (ad 10), .ref (ad 4)] σ (fun σ' => ∃ B, σ' = sb σ B ∧ ∀ a b, b ≤ 150 → pq_bit B a b = (pq_bit σ.2.2 a b || (decide (a = t) && (pq_fst (fun r => pq_way σ (σ.1 15 t) (σ.1 16 t) r && decide (σ.1 11 r = nI b)) (σ.2.1 3)).isSome))) := by
  refine ux_ofN (cc := cX1_drawInTheWay) (maxL := 6) (ret := none) (Ts := wsX1_drawInTheWay) (lv := [(0, .ref (ad 1)), (1, .int (nI t)), (2, .ref (ad 5)), (3, .ref (ad 10)), (4, .ref (ad 4))]) (by decide) rfl (fun _ h => h) (Nat.le_of_ble_eq_true rfl) rfl ?_
  intro p e s m below meth c C
  have loop : ∀ (k i : Nat) (B : Nat → Int64), σ.2.1 3 + 1 ≤ i + k → i ≤ σ.2.1 3 → (∀ a b, b ≤ 150 → pq_bit B a b = (pq_bit σ.2.2 a b || (decide (a = t) && (pq_fst (fun r => pq_way σ (σ.1 15 t) (σ.1 16 t) r && decide (σ.1 11 r = nI b)) i).isSome))) → ux_V p l e (ux_rm 1) s m ([.ref (ad 1), .int (nI t), .ref (ad 5), .ref (ad 10), .ref (ad 4)] : List Value).toArray below meth c (MQ below (va_Qv (fun σ' => ∃ B, σ' = sb σ B ∧ ∀ a b, b ≤ 150 → pq_bit B a b = (pq_bit σ.2.2 a b || (decide (a = t) && (pq_fst (fun r => pq_way σ (σ.1 15 t) (σ.1 16 t) r && decide (σ.1 11 r = nI b)) (σ.2.1 3)).isSome))) (fun σ' t => va_P D vwCl (wU ad cA σ') t.heap) A) ([.ref (ad 1), .int (nI t), .ref (ad 5), .ref (ad 10), .ref (ad 4)] : List Value).toArray s 0 0 A) 6 D vwCl (wU ad cA) A 0 0 (sb σ B) 3 [(5, .int (nI i)), (0, .ref (ad 1)), (1, .int (nI t)), (2, .ref (ad 5)), (3, .ref (ad 10)), (4, .ref (ad 4))] [] := by
    intro k
    induction k with
    | zero => intro i B h1 h2; omega
    | succ k ih =>
      intro i B h1 h2 h3
      refine ux_iload C dX1_drawInTheWay_3 0 rfl ?_
      refine ux_aload_n C dX1_drawInTheWay_5 1 rfl ?_
      refine ux_get C flX1_drawInTheWay_21 1 rfl rfl rfl dX1_drawInTheWay_6 ?_
      refine ux_icmp_ge C 51 dX1_drawInTheWay_9 (by decide) (fun hc => ?_) (fun hc => ?_)
      · have hc : nI (σ.2.1 3) ≤ nI i := hc
        have hc := (nI_leI (by omega) (by omega)).mp hc
        have e : i = σ.2.1 3 := by omega
        subst e
        exact ux_vret C dX1_drawInTheWay_51 (⟨B, rfl, h3⟩)
      · have hc : ¬ nI (σ.2.1 3) ≤ nI i := hc
        have hc := mt (nI_leI (by omega) (by omega)).mpr hc
        refine ux_aload_n C dX1_drawInTheWay_12 1 rfl ?_
        refine ux_iload C dX1_drawInTheWay_13 0 rfl ?_
        refine ux_aload_n C dX1_drawInTheWay_15 3 rfl ?_
        refine ux_iload_n C dX1_drawInTheWay_16 2 rfl ?_
        refine ux_callI C gkX1_drawInTheWay_38 (c_X5_slotOf l D ad cA A (sb σ B) t ht) rfl ⟨rfl, rfl⟩ ⟨(Nat.le_of_ble_eq_true rfl), (Nat.le_of_ble_eq_true rfl)⟩ ⟨Nat.le_refl _, Nat.le_refl _⟩ 5 rfl rfl rfl rfl (Nat.le_of_ble_eq_true rfl) dX1_drawInTheWay_17 (fun r σ1 hr => ?_)
        obtain ⟨rfl, rfl⟩ := hr
        refine ux_aload_n C dX1_drawInTheWay_20 3 rfl ?_
        refine ux_iload_n C dX1_drawInTheWay_21 2 rfl ?_
        refine ux_callI C gkX1_drawInTheWay_44 (c_X5_kindOf l D ad cA A (sb σ B) t ht) rfl ⟨rfl, rfl⟩ ⟨(Nat.le_of_ble_eq_true rfl), (Nat.le_of_ble_eq_true rfl)⟩ ⟨Nat.le_refl _, Nat.le_refl _⟩ 5 rfl rfl rfl rfl (Nat.le_of_ble_eq_true rfl) dX1_drawInTheWay_22 (fun r σ1 hr => ?_)
        obtain ⟨rfl, rfl⟩ := hr
        refine ux_aload_n C dX1_drawInTheWay_25 4 rfl ?_
        refine ux_callI C gkX1_drawInTheWay_34 (c_X1_isInTheWay l D ad cA A (sb σ B) i _ _ (by omega) (hO i (by omega))) rfl ⟨rfl, rfl⟩ ⟨(Nat.le_of_ble_eq_true rfl), (Nat.le_of_ble_eq_true rfl)⟩ ⟨Nat.le_refl _, Nat.le_refl _⟩ 1 rfl rfl rfl rfl (Nat.le_of_ble_eq_true rfl) dX1_drawInTheWay_26 (fun r σ1 hr => ?_)
        obtain ⟨rfl, rfl⟩ := hr
        refine ux_if_eq C 45 dX1_drawInTheWay_29 (by decide) (fun h5 => ?_) (fun h5 => ?_)
        · have h5 : pq_way σ (σ.1 15 t) (σ.1 16 t) i = false := (pq_b0 _).mp h5
          refine ux_iinc C (nI (i + 1)) [(5, _), (0, _), (1, _), (2, _), (3, _), (4, _)] dX1_drawInTheWay_45 0 rfl (pq_inc i) (by decide) rfl ?_
          refine ux_goto C 3 dX1_drawInTheWay_48 (by decide) ?_
          refine ih (i + 1) B (by omega) (by omega) (fun a b hb => ?_)
          rw [h3 a b hb]
          simp only [pq_fst, h5, Bool.false_and]
          cases pq_fst (fun r => pq_way σ (σ.1 15 t) (σ.1 16 t) r && decide (σ.1 11 r = nI b)) i <;> rfl
        · have h5 : pq_way σ (σ.1 15 t) (σ.1 16 t) i = true := (pq_bn0 _).mp h5
          obtain ⟨o, o1, o2⟩ : ∃ o, o ≤ 150 ∧ σ.1 11 i = nI o := (hO i (by omega)).resolve_left (fun e => by simp [pq_way, e] at h5)
          refine ux_aload C dX1_drawInTheWay_32 5 rfl ?_
          refine ux_iload_n C dX1_drawInTheWay_34 2 rfl ?_
          refine ux_aload_n C dX1_drawInTheWay_35 1 rfl ?_
          refine ux_get C flX1_drawInTheWay_9 1 rfl rfl rfl dX1_drawInTheWay_36 ?_
          refine ux_iload C dX1_drawInTheWay_39 0 rfl ?_
          refine ux_iald C 19 11 (i) rfl rfl (rfl) (by omega) (by decide) dX1_drawInTheWay_41 ?_
          refine ux_top (nI o) o2 ?_
          refine ux_callN C gkX1_drawInTheWay_47 (c_X4_join l D ad cA A (sb σ B) t o ht o1) rfl ⟨rfl, rfl⟩ ⟨(Nat.le_of_ble_eq_true rfl), (Nat.le_of_ble_eq_true rfl)⟩ ⟨Nat.le_refl _, Nat.le_refl _⟩ 4 rfl rfl rfl rfl (Nat.le_of_ble_eq_true rfl) dX1_drawInTheWay_42 (fun σ1 hr => ?_)
          obtain ⟨B2, rfl, hB⟩ := hr
          refine ux_iinc C (nI (i + 1)) [(5, _), (0, _), (1, _), (2, _), (3, _), (4, _)] dX1_drawInTheWay_45 0 rfl (pq_inc i) (by decide) rfl ?_
          refine ux_goto C 3 dX1_drawInTheWay_48 (by decide) ?_
          refine ih (i + 1) B2 (by omega) (by omega) (fun a b hb => ?_)
          have hB : pq_bit B2 a b = (pq_bit B a b || (decide (a = t) && decide (b = o))) := hB a b hb
          rw [hB, h3 a b hb]
          simp only [pq_fst, h5, Bool.true_and, o2]
          rw [show decide (nI o = nI b) = decide (b = o) from decide_eq_decide.mpr ⟨fun q => ((nI_eq (by omega) (by omega)).mp q).symm, fun q => by rw [q]⟩]
          cases pq_fst (fun r => pq_way σ (σ.1 15 t) (σ.1 16 t) r && decide (σ.1 11 r = nI b)) i <;> cases pq_bit σ.2.2 a b <;> cases decide (a = t) <;> cases decide (b = o) <;> rfl
  refine ux_iconst C (nI 0) dX1_drawInTheWay_0 (by decide) ?_
  refine ux_istore C [(5, _), (0, _), (1, _), (2, _), (3, _), (4, _)] dX1_drawInTheWay_1 (by decide) rfl ?_
  exact loop (σ.2.1 3 + 1) 0 σ.2.2 (by omega) (by omega) (fun a b hb => by simp [pq_fst])

