theorem hiX7_get_7 : ∀ w ∈ wsX70, w ∈ wsX7_get := by decide +kernel
theorem flX7_get_10 : ux_F wsX7_get RX7 10 RX7 TX7 7 0 := ⟨hiX7_get_7, by decide, by decide +kernel⟩
theorem flX7_get_19 : ux_F wsX7_get RX7 19 RX7 TX7 7 1 := ⟨hiX7_get_7, by decide, by decide +kernel⟩
theorem flX7_get_33 : ux_F wsX7_get RX7 33 RX7 TX7 7 3 := ⟨hiX7_get_7, by decide, by decide +kernel⟩
theorem hiX7_change_7 : ∀ w ∈ wsX70, w ∈ wsX7_change := by decide +kernel
theorem flX7_change_10 : ux_F wsX7_change RX7 10 RX7 TX7 7 0 := ⟨hiX7_change_7, by decide, by decide +kernel⟩
theorem flX7_change_19 : ux_F wsX7_change RX7 19 RX7 TX7 7 1 := ⟨hiX7_change_7, by decide, by decide +kernel⟩
theorem flX7_change_33 : ux_F wsX7_change RX7 33 RX7 TX7 7 3 := ⟨hiX7_change_7, by decide, by decide +kernel⟩
theorem flX7_change_26 : ux_F wsX7_change RX7 26 RX7 TX7 7 2 := ⟨hiX7_change_7, by decide, by decide +kernel⟩
theorem flX7_change_40 : ux_F wsX7_change RX7 40 RX7 TX7 7 4 := ⟨hiX7_change_7, by decide, by decide +kernel⟩
theorem hiX7_canEndOrGoBack_7 : ∀ w ∈ wsX70, w ∈ wsX7_canEndOrGoBack := by decide +kernel
theorem flX7_canEndOrGoBack_10 : ux_F wsX7_canEndOrGoBack RX7 10 RX7 TX7 7 0 := ⟨hiX7_canEndOrGoBack_7, by decide, by decide +kernel⟩
theorem hiX7_end_7 : ∀ w ∈ wsX70, w ∈ wsX7_end := by decide +kernel
theorem flX7_end_10 : ux_F wsX7_end RX7 10 RX7 TX7 7 0 := ⟨hiX7_end_7, by decide, by decide +kernel⟩
theorem flX7_end_26 : ux_F wsX7_end RX7 26 RX7 TX7 7 2 := ⟨hiX7_end_7, by decide, by decide +kernel⟩
theorem flX7_end_33 : ux_F wsX7_end RX7 33 RX7 TX7 7 3 := ⟨hiX7_end_7, by decide, by decide +kernel⟩
theorem flX7_end_40 : ux_F wsX7_end RX7 40 RX7 TX7 7 4 := ⟨hiX7_end_7, by decide, by decide +kernel⟩
theorem flX7_end_47 : ux_F wsX7_end RX7 47 RX7 TX7 7 5 := ⟨hiX7_end_7, by decide, by decide +kernel⟩
theorem gkX7_get_58 : ux_G wsX7_get RX7 58 RX0 yX0_canBeAsked wsX0_canBeAsked 1 := ⟨gX7_get_X0_canBeAsked, by decide +kernel⟩
theorem gkX7_get_85 : ux_G wsX7_get RX7 85 RX7 yX7_valueSeen wsX7_valueSeen 2 := ⟨gX7_get_X7_valueSeen, by decide +kernel⟩
theorem gkX7_get_72 : ux_G wsX7_get RX7 72 RX2 yX2_findOrAdd wsX2_findOrAdd 1 := ⟨gX7_get_X2_findOrAdd, by decide +kernel⟩
theorem gkX7_get_75 : ux_G wsX7_get RX7 75 RX1 yX1_isFull wsX1_isFull 0 := ⟨gX7_get_X1_isFull, by decide +kernel⟩
theorem gkX7_get_76 : ux_G wsX7_get RX7 76 RX7 yX7_mustWait wsX7_mustWait 3 := ⟨gX7_get_X7_mustWait, by decide +kernel⟩
theorem gkX7_get_82 : ux_G wsX7_get RX7 82 RX1 yX1_add wsX1_add 3 := ⟨gX7_get_X1_add, by decide +kernel⟩
theorem gkX7_change_93 : ux_G wsX7_change RX7 93 RX0 yX0_isActive wsX0_isActive 1 := ⟨gX7_change_X0_isActive, by decide +kernel⟩
theorem gkX7_change_72 : ux_G wsX7_change RX7 72 RX2 yX2_findOrAdd wsX2_findOrAdd 1 := ⟨gX7_change_X2_findOrAdd, by decide +kernel⟩
theorem gkX7_change_75 : ux_G wsX7_change RX7 75 RX1 yX1_isFull wsX1_isFull 0 := ⟨gX7_change_X1_isFull, by decide +kernel⟩
theorem gkX7_change_205 : ux_G wsX7_change RX7 205 RX6 yX6_isFull wsX6_isFull 0 := ⟨gX7_change_X6_isFull, by decide +kernel⟩
theorem gkX7_change_76 : ux_G wsX7_change RX7 76 RX7 yX7_mustWait wsX7_mustWait 3 := ⟨gX7_change_X7_mustWait, by decide +kernel⟩
theorem gkX7_change_85 : ux_G wsX7_change RX7 85 RX7 yX7_valueSeen wsX7_valueSeen 2 := ⟨gX7_change_X7_valueSeen, by decide +kernel⟩
theorem gkX7_change_82 : ux_G wsX7_change RX7 82 RX1 yX1_add wsX1_add 3 := ⟨gX7_change_X1_add, by decide +kernel⟩
theorem gkX7_change_121 : ux_G wsX7_change RX7 121 RX3 yX3_now wsX3_now 0 := ⟨gX7_change_X3_now, by decide +kernel⟩
theorem gkX7_change_206 : ux_G wsX7_change RX7 206 RX6 yX6_add wsX6_add 5 := ⟨gX7_change_X6_add, by decide +kernel⟩
theorem gkX7_put_89 : ux_G wsX7_put RX7 89 RX7 yX7_change wsX7_change 4 := ⟨gX7_put_X7_change, by decide +kernel⟩
theorem gkX7_take_89 : ux_G wsX7_take RX7 89 RX7 yX7_change wsX7_change 4 := ⟨gX7_take_X7_change, by decide +kernel⟩
theorem gkX7_canEndOrGoBack_93 : ux_G wsX7_canEndOrGoBack RX7 93 RX0 yX0_isActive wsX0_isActive 1 := ⟨gX7_canEndOrGoBack_X0_isActive, by decide +kernel⟩
theorem gkX7_canEndOrGoBack_145 : ux_G wsX7_canEndOrGoBack RX7 145 RX0 yX0_activeChildrenOf wsX0_activeChildrenOf 1 := ⟨gX7_canEndOrGoBack_X0_activeChildrenOf, by decide +kernel⟩
theorem gkX7_end_229 : ux_G wsX7_end RX7 229 RX0 yX0_end wsX0_end 2 := ⟨gX7_end_X0_end, by decide +kernel⟩
theorem gkX7_end_230 : ux_G wsX7_end RX7 230 RX6 yX6_drop wsX6_drop 1 := ⟨gX7_end_X6_drop, by decide +kernel⟩
theorem gkX7_end_233 : ux_G wsX7_end RX7 233 RX1 yX1_drop wsX1_drop 1 := ⟨gX7_end_X1_drop, by decide +kernel⟩
theorem gkX7_end_234 : ux_G wsX7_end RX7 234 RX3 yX3_drop wsX3_drop 1 := ⟨gX7_end_X3_drop, by decide +kernel⟩
theorem gkX7_end_209 : ux_G wsX7_end RX7 209 RX5 yX5_clear wsX5_clear 1 := ⟨gX7_end_X5_clear, by decide +kernel⟩
set_option maxHeartbeats 4000000 in
set_option maxRecDepth 100000 in
theorem c_X7_get (l : Launch) (D : va_G) (ad : Nat → Nat) (cA : Nat → ClassId) (A : Nat → Prop) (σ : ST) (t key : Int32) (hF : uF σ) (hH : uH σ) (hW : uW σ) (hk : σ.2.1 1 < 512) (hh : σ.2.1 3 < 512) : ux_L l D vwCl (tyU cA) (wU ad cA) A yX7_get wsX7_get (ux_rm 4) [.ref (ad 7), .int t, .int key] σ (fun r σ' => r = (u_get σ t key).1 ∧ uEq (u_get σ t key).2 σ') := by
  refine ux_ofL (cc := cX7_get) (maxL := 4) (ret := (some .long)) (Ts := wsX7_get) (lv := [(0, .ref (ad 7)), (1, .int t), (2, .int key)]) (by decide) rfl (fun _ h => h) (Nat.le_of_ble_eq_true rfl) rfl ?_
  intro p e s m below meth c C
  refine ux_aload_n C dX7_get_0 0 rfl ?_
  refine ux_get C flX7_get_10 7 rfl rfl rfl dX7_get_1 ?_
  refine ux_iload_n C dX7_get_4 1 rfl ?_
  refine ux_callI C gkX7_get_58 (c_X0_canBeAsked l D ad cA A σ t hF.1) rfl ⟨rfl, rfl⟩ ⟨(Nat.le_of_ble_eq_true rfl), (Nat.le_of_ble_eq_true rfl)⟩ ⟨Nat.le_refl _, Nat.le_refl _⟩ 0 rfl rfl rfl rfl (Nat.le_of_ble_eq_true rfl) dX7_get_5 (fun r σ1 hr => ?_)
  obtain ⟨rfl, rfl⟩ := hr
  refine ux_if_ne C 15 dX7_get_8 (by decide) (fun h => ?_) (fun h => ?_)
  · have h : (decide (t = 0) || u_act σ t) = true := (pq_bn0 _).mp h
    refine ux_iload_n C dX7_get_15 1 rfl ?_
    refine ux_if_eq C 71 dX7_get_16 (by decide) (fun h0 => ?_) (fun h0 => ?_)
    · subst h0
      have hu : u_get σ 0 key = (u_seen σ 0 key, σ) := if_pos rfl
      refine ux_aload_n C dX7_get_71 0 rfl ?_
      refine ux_iload_n C dX7_get_72 1 rfl ?_
      refine ux_iload_n C dX7_get_73 2 rfl ?_
      refine ux_callL C gkX7_get_85 (c_X7_valueSeen l D ad cA A σ 0 key hF hW (Nat.zero_le _) (Nat.le_of_lt hk)) rfl ⟨rfl, rfl⟩ ⟨(Nat.le_of_ble_eq_true rfl), (Nat.le_of_ble_eq_true rfl)⟩ ⟨Nat.le_refl _, Nat.le_refl _⟩ 7 rfl rfl rfl rfl (Nat.le_of_ble_eq_true rfl) dX7_get_74 (fun r σ1 hr => ?_)
      obtain ⟨hE, rfl⟩ := hr
      exact ux_lret C dX7_get_77 (by rw [hu]; exact ⟨rfl, hE⟩)
    · have ha : u_act σ t = true := by rw [decide_eq_false h0] at h; simpa using h
      obtain ⟨k, k1, k2, rfl, k3⟩ := (u_act_iff hF).mp ha
      have hcl := nI_clamp (Nat.lt_of_le_of_lt (Nat.le_trans k2 hF.1) (show 150 < 2 ^ 31 by decide))
      have hu : u_get σ (nI k) key = (if u_least (u_reg σ key).1 k (nI (u_reg σ key).2) 1 = 0 then
        (u_seen (u_hold (u_calm (u_reg σ key).1 k) (nI k) (nI (u_reg σ key).2) 1) k key, u_hold (u_calm (u_reg σ key).1 k) (nI k) (nI (u_reg σ key).2) 1)
        else (2199023255552, u_wish (u_reg σ key).1 k (nI (u_reg σ key).2) 1)) := by rw [u_get, if_neg h0, if_pos ha, hcl]
      refine ux_aload_n C dX7_get_19 0 rfl ?_
      refine ux_get C flX7_get_19 7 rfl rfl rfl dX7_get_20 ?_
      refine ux_iload_n C dX7_get_23 2 rfl ?_
      refine ux_callI C gkX7_get_72 (c_X2_findOrAdd l D ad cA A σ key hk) rfl ⟨rfl, rfl⟩ ⟨(Nat.le_of_ble_eq_true rfl), (Nat.le_of_ble_eq_true rfl)⟩ ⟨Nat.le_refl _, Nat.le_refl _⟩ 2 rfl rfl rfl rfl (Nat.le_of_ble_eq_true rfl) dX7_get_24 (fun r σ1 hr => ?_)
      obtain ⟨rfl, rfl⟩ := u_reg_of hr
      have hs := u_reg_k σ key
      have hF1 := u_reg_F (key := key) hF
      have hH1 := u_reg_H (key := key) hH
      have hW1 := u_reg_W (key := key) hW
      have hc0 := u_reg_c σ key 0 (by decide)
      have hc3 := u_reg_c σ key 3 (by decide)
      refine ux_istore_n C [(3, _), (0, _), (1, _), (2, _)] dX7_get_27 rfl (by decide) rfl ?_
      refine ux_iload_n C dX7_get_28 0 rfl ?_
      refine ux_iconst C ((-1 : Int32)) dX7_get_29 (by decide) ?_
      refine ux_icmp_eq C 43 dX7_get_30 (by decide) (fun h1 => ?_) (fun h1 => ?_)
      · exact absurd h1 (pq_nI_m1 (by omega))
      · refine ux_aload_n C dX7_get_33 1 rfl ?_
        refine ux_get C flX7_get_33 7 rfl rfl rfl dX7_get_34 ?_
        refine ux_callI C gkX7_get_75 (c_X1_isFull l D ad cA A (u_reg σ key).1 (by omega)) rfl ⟨rfl, rfl⟩ ⟨(Nat.le_of_ble_eq_true rfl), (Nat.le_of_ble_eq_true rfl)⟩ ⟨Nat.le_refl _, Nat.le_refl _⟩ 1 rfl rfl rfl rfl (Nat.le_of_ble_eq_true rfl) dX7_get_37 (fun r σ1 hr => ?_)
        obtain ⟨rfl, rfl⟩ := hr
        refine ux_if_eq C 47 dX7_get_40 (by decide) (fun h2 => ?_) (fun h2 => ?_)
        · refine ux_aload_n C dX7_get_47 1 rfl ?_
          refine ux_iload_n C dX7_get_48 2 rfl ?_
          refine ux_iload_n C dX7_get_49 0 rfl ?_
          refine ux_iconst C ((1 : Int32)) dX7_get_50 (by decide) ?_
          refine ux_callI C gkX7_get_76 (c_X7_mustWait l D ad cA A (u_reg σ key).1 k (nI (u_reg σ key).2) 1 hF1 hH1 (by omega)) rfl ⟨rfl, rfl⟩ ⟨(Nat.le_of_ble_eq_true rfl), (Nat.le_of_ble_eq_true rfl)⟩ ⟨Nat.le_refl _, Nat.le_refl _⟩ 7 rfl rfl rfl rfl (Nat.le_of_ble_eq_true rfl) dX7_get_51 (fun r σ1 hr => ?_)
          rcases hr with ⟨hl, rfl, hE⟩ | ⟨hl, rfl, hE⟩
          · rw [if_pos hl] at hu
            have hh1 : σ1.2.1 3 < 512 := by
              rw [hE.1]
              show (u_reg σ key).1.2.1 3 < 512
              omega
            refine ux_if_eq C 61 dX7_get_54 (by decide) (fun h3 => ?_) (fun h3 => ?_)
            · refine ux_aload_n C dX7_get_61 1 rfl ?_
              refine ux_get C flX7_get_33 7 rfl rfl rfl dX7_get_62 ?_
              refine ux_iload_n C dX7_get_65 2 rfl ?_
              refine ux_iload_n C dX7_get_66 0 rfl ?_
              refine ux_iconst C ((1 : Int32)) dX7_get_67 (by decide) ?_
              refine ux_callN C gkX7_get_82 (c_X1_add l D ad cA A σ1 (nI k) (nI (u_reg σ key).2) 1 hh1) rfl ⟨rfl, rfl⟩ ⟨(Nat.le_of_ble_eq_true rfl), (Nat.le_of_ble_eq_true rfl)⟩ ⟨Nat.le_refl _, Nat.le_refl _⟩ 1 rfl rfl rfl rfl (Nat.le_of_ble_eq_true rfl) dX7_get_68 (fun σ2 hr => ?_)
              have hr := u_hold_of hr
              subst hr
              have hE2 := hE.hold (nI k) (nI (u_reg σ key).2) 1
              have hF2 := hE2.F (u_hold_F (show uF (u_calm (u_reg σ key).1 k) from hF1))
              have hW2 := hE2.W (u_hold_W (show uW (u_calm (u_reg σ key).1 k) from hW1))
              refine ux_aload_n C dX7_get_71 1 rfl ?_
              refine ux_iload_n C dX7_get_72 2 rfl ?_
              refine ux_iload_n C dX7_get_73 3 rfl ?_
              refine ux_callL C gkX7_get_85 (c_X7_valueSeen l D ad cA A _ k key hF2 hW2 (by rw [hE2.1, u_hold_c _ _ _ _ 0 (by decide)]; show k ≤ (u_reg σ key).1.2.1 0; omega) (by rw [hE2.1, u_hold_c _ _ _ _ 1 (by decide)]; show (u_reg σ key).1.2.1 1 ≤ 512; omega)) rfl ⟨rfl, rfl⟩ ⟨(Nat.le_of_ble_eq_true rfl), (Nat.le_of_ble_eq_true rfl)⟩ ⟨Nat.le_refl _, Nat.le_refl _⟩ 7 rfl rfl rfl rfl (Nat.le_of_ble_eq_true rfl) dX7_get_74 (fun r σ2 hr => ?_)
              obtain ⟨hE3, rfl⟩ := hr
              exact ux_lret C dX7_get_77 (by rw [hu]; exact ⟨by rw [hE2.seen], hE2.trans hE3⟩)
            · exact absurd rfl h3
          · rw [if_neg hl] at hu
            refine ux_if_eq C 61 dX7_get_54 (by decide) (fun h3 => ?_) (fun h3 => ?_)
            · exact absurd h3 (by decide)
            · refine ux_ldc2 C (2199023255552 : Int64) (by decide +kernel) dX7_get_57 ?_
              exact ux_lret C dX7_get_60 (by rw [hu]; exact ⟨rfl, hE⟩)
        · exact absurd (of_decide_eq_true ((pq_bn0 _).mp h2)) (by omega)
  · have h : (decide (t = 0) || u_act σ t) = false := (pq_b0 _).mp h
    have hu : u_get σ t key = (4398046511104, σ) := by
      rw [Bool.or_eq_false_iff] at h
      rw [u_get, if_neg (of_decide_eq_false h.1), if_neg (by rw [h.2]; decide)]
    refine ux_ldc2 C (4398046511104 : Int64) (by decide +kernel) dX7_get_11 ?_
    exact ux_lret C dX7_get_14 (by rw [hu]; exact ⟨rfl, uEq.refl σ⟩)
set_option maxHeartbeats 4000000 in
set_option maxRecDepth 100000 in
theorem c_X7_change (l : Launch) (D : va_G) (ad : Nat → Nat) (cA : Nat → ClassId) (A : Nat → Prop) (σ : ST) (t key v : Int32) (b : Bool) (hF : uF σ) (hH : uH σ) (hW : uW σ) (hk : σ.2.1 1 < 512) (hh : σ.2.1 3 < 512) (hw : σ.2.1 2 < 512) : ux_I l D vwCl (tyU cA) (wU ad cA) A yX7_change wsX7_change (ux_rm 4) [.ref (ad 7), .int t, .int key, .int v, .int (pq_b b)] σ (fun r σ' => r = (u_change σ t key v b).1 ∧ uEq (u_change σ t key v b).2 σ') := by
  refine ux_ofI (cc := cX7_change) (maxL := 7) (ret := (some .int)) (Ts := wsX7_change) (lv := [(0, .ref (ad 7)), (1, .int t), (2, .int key), (3, .int v), (4, .int (pq_b b))]) (by decide) rfl (fun _ h => h) (Nat.le_of_ble_eq_true rfl) rfl ?_
  intro p e s m below meth c C
  refine ux_aload_n C dX7_change_0 0 rfl ?_
  refine ux_get C flX7_change_10 7 rfl rfl rfl dX7_change_1 ?_
  refine ux_iload_n C dX7_change_4 1 rfl ?_
  refine ux_callI C gkX7_change_93 (c_X0_isActive l D ad cA A σ t hF.1) rfl ⟨rfl, rfl⟩ ⟨(Nat.le_of_ble_eq_true rfl), (Nat.le_of_ble_eq_true rfl)⟩ ⟨Nat.le_refl _, Nat.le_refl _⟩ 0 rfl rfl rfl rfl (Nat.le_of_ble_eq_true rfl) dX7_change_5 (fun r σ1 hr => ?_)
  obtain ⟨rfl, rfl⟩ := hr
  refine ux_if_ne C 13 dX7_change_8 (by decide) (fun h => ?_) (fun h => ?_)
  · have ha : u_act σ t = true := (pq_bn0 _).mp h
    obtain ⟨k, k1, k2, rfl, k3⟩ := (u_act_iff hF).mp ha
    have hcl := nI_clamp (Nat.lt_of_le_of_lt (Nat.le_trans k2 hF.1) (show 150 < 2 ^ 31 by decide))
    have hu : u_change σ (nI k) key v b = (if u_least (u_reg σ key).1 k (nI (u_reg σ key).2) 2 = 0 then
      (if (!decide (u_seen (u_calm (u_reg σ key).1 k) k key = 1099511627776)) = b then 1 else 0, u_write (u_hold (u_calm (u_reg σ key).1 k) (nI k) (nI (u_reg σ key).2) 2) (nI k) (nI (u_reg σ key).2) v b (nI (σ.2.1 4)))
      else (-2, u_wish (u_reg σ key).1 k (nI (u_reg σ key).2) 2)) := by rw [u_change, if_pos ha, hcl]
    refine ux_aload_n C dX7_change_13 0 rfl ?_
    refine ux_get C flX7_change_19 7 rfl rfl rfl dX7_change_14 ?_
    refine ux_iload_n C dX7_change_17 2 rfl ?_
    refine ux_callI C gkX7_change_72 (c_X2_findOrAdd l D ad cA A σ key hk) rfl ⟨rfl, rfl⟩ ⟨(Nat.le_of_ble_eq_true rfl), (Nat.le_of_ble_eq_true rfl)⟩ ⟨Nat.le_refl _, Nat.le_refl _⟩ 2 rfl rfl rfl rfl (Nat.le_of_ble_eq_true rfl) dX7_change_18 (fun r σ1 hr => ?_)
    obtain ⟨rfl, rfl⟩ := u_reg_of hr
    have hs := u_reg_k σ key
    have hF1 := u_reg_F (key := key) hF
    have hH1 := u_reg_H (key := key) hH
    have hW1 := u_reg_W (key := key) hW
    have hc0 := u_reg_c σ key 0 (by decide)
    have hc2 := u_reg_c σ key 2 (by decide)
    have hc3 := u_reg_c σ key 3 (by decide)
    have hc4 := u_reg_c σ key 4 (by decide)
    refine ux_istore C [(5, _), (0, _), (1, _), (2, _), (3, _), (4, _)] dX7_change_21 (by decide) rfl ?_
    refine ux_iload C dX7_change_23 0 rfl ?_
    refine ux_iconst C ((-1 : Int32)) dX7_change_25 (by decide) ?_
    refine ux_icmp_eq C 49 dX7_change_26 (by decide) (fun h1 => ?_) (fun h1 => ?_)
    · exact absurd h1 (pq_nI_m1 (by omega))
    · refine ux_aload_n C dX7_change_29 1 rfl ?_
      refine ux_get C flX7_change_33 7 rfl rfl rfl dX7_change_30 ?_
      refine ux_callI C gkX7_change_75 (c_X1_isFull l D ad cA A (u_reg σ key).1 (by omega)) rfl ⟨rfl, rfl⟩ ⟨(Nat.le_of_ble_eq_true rfl), (Nat.le_of_ble_eq_true rfl)⟩ ⟨Nat.le_refl _, Nat.le_refl _⟩ 1 rfl rfl rfl rfl (Nat.le_of_ble_eq_true rfl) dX7_change_33 (fun r σ1 hr => ?_)
      obtain ⟨rfl, rfl⟩ := hr
      refine ux_if_ne C 49 dX7_change_36 (by decide) (fun h2 => ?_) (fun h2 => ?_)
      · exact absurd (of_decide_eq_true ((pq_bn0 _).mp h2)) (by omega)
      · refine ux_aload_n C dX7_change_39 1 rfl ?_
        refine ux_get C flX7_change_26 7 rfl rfl rfl dX7_change_40 ?_
        refine ux_callI C gkX7_change_205 (c_X6_isFull l D ad cA A (u_reg σ key).1 (by omega)) rfl ⟨rfl, rfl⟩ ⟨(Nat.le_of_ble_eq_true rfl), (Nat.le_of_ble_eq_true rfl)⟩ ⟨Nat.le_refl _, Nat.le_refl _⟩ 6 rfl rfl rfl rfl (Nat.le_of_ble_eq_true rfl) dX7_change_43 (fun r σ1 hr => ?_)
        obtain ⟨rfl, rfl⟩ := hr
        refine ux_if_eq C 51 dX7_change_46 (by decide) (fun h2 => ?_) (fun h2 => ?_)
        · refine ux_aload_n C dX7_change_51 1 rfl ?_
          refine ux_iload_n C dX7_change_52 2 rfl ?_
          refine ux_iload C dX7_change_53 0 rfl ?_
          refine ux_iconst C ((2 : Int32)) dX7_change_55 (by decide) ?_
          refine ux_callI C gkX7_change_76 (c_X7_mustWait l D ad cA A (u_reg σ key).1 k (nI (u_reg σ key).2) 2 hF1 hH1 (by omega)) rfl ⟨rfl, rfl⟩ ⟨(Nat.le_of_ble_eq_true rfl), (Nat.le_of_ble_eq_true rfl)⟩ ⟨Nat.le_refl _, Nat.le_refl _⟩ 7 rfl rfl rfl rfl (Nat.le_of_ble_eq_true rfl) dX7_change_56 (fun r σ1 hr => ?_)
          rcases hr with ⟨hl, rfl, hE⟩ | ⟨hl, rfl, hE⟩
          · rw [if_pos hl] at hu
            have hF2 := hE.F (show uF (u_calm (u_reg σ key).1 k) from hF1)
            have hW2 := hE.W (show uW (u_calm (u_reg σ key).1 k) from hW1)
            have e0 : σ1.2.1 0 = σ.2.1 0 := by rw [hE.1]; exact hc0
            have e1 : σ1.2.1 1 = (u_reg σ key).1.2.1 1 := by rw [hE.1]; rfl
            have e2 : σ1.2.1 2 = σ.2.1 2 := by rw [hE.1]; exact hc2
            have e3 : σ1.2.1 3 = σ.2.1 3 := by rw [hE.1]; exact hc3
            have e4 : σ1.2.1 4 = σ.2.1 4 := by rw [hE.1]; exact hc4
            refine ux_if_eq C 65 dX7_change_59 (by decide) (fun h3 => ?_) (fun h3 => ?_)
            · refine ux_aload_n C dX7_change_65 1 rfl ?_
              refine ux_iload_n C dX7_change_66 2 rfl ?_
              refine ux_iload_n C dX7_change_67 3 rfl ?_
              refine ux_callL C gkX7_change_85 (c_X7_valueSeen l D ad cA A σ1 k key hF2 hW2 (by omega) (by omega)) rfl ⟨rfl, rfl⟩ ⟨(Nat.le_of_ble_eq_true rfl), (Nat.le_of_ble_eq_true rfl)⟩ ⟨Nat.le_refl _, Nat.le_refl _⟩ 7 rfl rfl rfl rfl (Nat.le_of_ble_eq_true rfl) dX7_change_68 (fun r σ2 hr => ?_)
              obtain ⟨hE3, rfl⟩ := hr
              have hE4 := hE.trans hE3
              have d2 : σ2.2.1 2 = σ.2.1 2 := by rw [hE3.1]; exact e2
              have d3 : σ2.2.1 3 = σ.2.1 3 := by rw [hE3.1]; exact e3
              have d4 : σ2.2.1 4 = σ.2.1 4 := by rw [hE3.1]; exact e4
              have rest : ∀ saw : Bool, saw = (!decide (u_seen (u_calm (u_reg σ key).1 k) k key = 1099511627776)) → ux_V p l e (ux_rm 4) s m ([.ref (ad 7), .int (nI k), .int key, .int v, .int (pq_b b)] : List Value).toArray below meth c (MQ below (va_Qi (fun r σ' => r = (u_change σ (nI k) key v b).1 ∧ uEq (u_change σ (nI k) key v b).2 σ') (fun σ' tt => va_P D vwCl (wU ad cA σ') tt.heap) A) ([.ref (ad 7), .int (nI k), .int key, .int v, .int (pq_b b)] : List Value).toArray s 0 0 A) 7 D vwCl (wU ad cA) A 0 0 σ2 83 [(5, .int (nI (u_reg σ key).2)), (0, .ref (ad 7)), (1, .int (nI k)), (2, .int key), (3, .int v), (4, .int (pq_b b))] [.int (pq_b saw)] := by
                intro saw hsaw
                refine ux_istore C [(6, _), (5, _), (0, _), (1, _), (2, _), (3, _), (4, _)] dX7_change_83 (by decide) rfl ?_
                refine ux_aload_n C dX7_change_85 2 rfl ?_
                refine ux_get C flX7_change_33 7 rfl rfl rfl dX7_change_86 ?_
                refine ux_iload_n C dX7_change_89 3 rfl ?_
                refine ux_iload C dX7_change_90 1 rfl ?_
                refine ux_iconst C ((2 : Int32)) dX7_change_92 (by decide) ?_
                refine ux_callN C gkX7_change_82 (c_X1_add l D ad cA A σ2 (nI k) (nI (u_reg σ key).2) 2 (by omega)) rfl ⟨rfl, rfl⟩ ⟨(Nat.le_of_ble_eq_true rfl), (Nat.le_of_ble_eq_true rfl)⟩ ⟨Nat.le_refl _, Nat.le_refl _⟩ 1 rfl rfl rfl rfl (Nat.le_of_ble_eq_true rfl) dX7_change_93 (fun σ3 hr => ?_)
                have hr := u_hold_of hr
                subst hr
                have hE5 := hE4.hold (nI k) (nI (u_reg σ key).2) 2
                have f2 : (u_hold σ2 (nI k) (nI (u_reg σ key).2) 2).2.1 2 = σ.2.1 2 := (u_hold_c _ _ _ _ 2 (by decide)).trans d2
                have f4 : (u_hold σ2 (nI k) (nI (u_reg σ key).2) 2).2.1 4 = σ.2.1 4 := (u_hold_c _ _ _ _ 4 (by decide)).trans d4
                refine ux_aload_n C dX7_change_96 2 rfl ?_
                refine ux_get C flX7_change_26 7 rfl rfl rfl dX7_change_97 ?_
                refine ux_iload_n C dX7_change_100 3 rfl ?_
                refine ux_iload C dX7_change_101 1 rfl ?_
                refine ux_iload_n C dX7_change_103 5 rfl ?_
                refine ux_iload C dX7_change_104 6 rfl ?_
                refine ux_aload_n C dX7_change_106 2 rfl ?_
                refine ux_get C flX7_change_40 7 rfl rfl rfl dX7_change_107 ?_
                refine ux_callI C gkX7_change_121 (c_X3_now l D ad cA A _) rfl ⟨rfl, rfl⟩ ⟨(Nat.le_of_ble_eq_true rfl), (Nat.le_of_ble_eq_true rfl)⟩ ⟨Nat.le_refl _, Nat.le_refl _⟩ 3 rfl rfl rfl rfl (Nat.le_of_ble_eq_true rfl) dX7_change_110 (fun r σ3 hr => ?_)
                obtain ⟨rfl, rfl⟩ := hr
                refine ux_callN C gkX7_change_206 (c_X6_add l D ad cA A (u_hold σ2 (nI k) (nI (u_reg σ key).2) 2) (nI k) (nI (u_reg σ key).2) v b _ (by omega)) rfl ⟨rfl, rfl⟩ ⟨(Nat.le_of_ble_eq_true rfl), (Nat.le_of_ble_eq_true rfl)⟩ ⟨Nat.le_refl _, Nat.le_refl _⟩ 6 rfl rfl rfl rfl (Nat.le_of_ble_eq_true rfl) dX7_change_113 (fun σ3 hr => ?_)
                have hE6 := hE5.write (nI k) (nI (u_reg σ key).2) v b (nI ((u_hold σ2 (nI k) (nI (u_reg σ key).2) 2).2.1 4))
                rw [f4] at hE6 hr
                have hr : σ3 = u_write (u_hold σ2 (nI k) (nI (u_reg σ key).2) 2) (nI k) (nI (u_reg σ key).2) v b (nI (σ.2.1 4)) := hr
                subst hr
                refine ux_iload C dX7_change_116 0 rfl ?_
                refine ux_iload C dX7_change_118 6 rfl ?_
                refine ux_icmp_ne C 127 dX7_change_120 (by decide) (fun h7 => ?_) (fun h7 => ?_)
                · refine ux_iconst C ((0 : Int32)) dX7_change_127 (by decide) ?_
                  exact ux_iret C dX7_change_128 (by rw [hu]; exact ⟨by rw [if_neg]; rw [← hsaw]; exact fun e => h7 (by rw [e]), hE6⟩)
                · refine ux_iconst C ((1 : Int32)) dX7_change_123 (by decide) ?_
                  refine ux_goto C 128 dX7_change_124 (by decide) ?_
                  exact ux_iret C dX7_change_128 (by rw [hu]; exact ⟨by rw [if_pos]; rw [← hsaw]; exact (pq_b_inj _ _).mp h7, hE6⟩)
              refine ux_ldc2 C (1099511627776 : Int64) (by decide +kernel) dX7_change_71 ?_
              refine ux_lcmp C dX7_change_74 ?_
              refine ux_if_eq C 82 dX7_change_75 (by decide) (fun h6 => ?_) (fun h6 => ?_)
              · have h6 := pq_cmp_zero.mp h6
                rw [hE.seen] at h6
                refine ux_iconst C (pq_b false) dX7_change_82 (by decide) ?_
                exact rest false (by rw [decide_eq_true h6]; rfl)
              · have h6 := mt pq_cmp_zero.mpr h6
                rw [hE.seen] at h6
                refine ux_iconst C (pq_b true) dX7_change_78 (by decide) ?_
                refine ux_goto C 83 dX7_change_79 (by decide) ?_
                exact rest true (by rw [decide_eq_false h6]; rfl)
            · exact absurd rfl h3
          · rw [if_neg hl] at hu
            refine ux_if_eq C 65 dX7_change_59 (by decide) (fun h3 => ?_) (fun h3 => ?_)
            · exact absurd h3 (by decide)
            · refine ux_bipush C ((-2 : Int32)) dX7_change_62 (by decide) ?_
              exact ux_iret C dX7_change_64 (by rw [hu]; exact ⟨rfl, hE⟩)
        · exact absurd (of_decide_eq_true ((pq_bn0 _).mp h2)) (by omega)
  · have h : u_act σ t = false := (pq_b0 _).mp h
    have hu : u_change σ t key v b = (-1, σ) := if_neg (by rw [h]; decide)
    refine ux_iconst C ((-1 : Int32)) dX7_change_11 (by decide) ?_
    exact ux_iret C dX7_change_12 (by rw [hu]; exact ⟨rfl, uEq.refl σ⟩)
set_option maxHeartbeats 4000000 in
set_option maxRecDepth 100000 in
theorem c_X7_put (l : Launch) (D : va_G) (ad : Nat → Nat) (cA : Nat → ClassId) (A : Nat → Prop) (σ : ST) (t key v : Int32) (hF : uF σ) (hH : uH σ) (hW : uW σ) (hk : σ.2.1 1 < 512) (hh : σ.2.1 3 < 512) (hw : σ.2.1 2 < 512) : ux_I l D vwCl (tyU cA) (wU ad cA) A yX7_put wsX7_put (ux_rm 5) [.ref (ad 7), .int t, .int key, .int v] σ (fun r σ' => r = (u_change σ t key v false).1 ∧ uEq (u_change σ t key v false).2 σ') := by
  refine ux_ofI (cc := cX7_put) (maxL := 4) (ret := (some .int)) (Ts := wsX7_put) (lv := [(0, .ref (ad 7)), (1, .int t), (2, .int key), (3, .int v)]) (by decide) rfl (fun _ h => h) (Nat.le_of_ble_eq_true rfl) rfl ?_
  intro p e s m below meth c C
  refine ux_aload_n C dX7_put_0 0 rfl ?_
  refine ux_iload_n C dX7_put_1 1 rfl ?_
  refine ux_iload_n C dX7_put_2 2 rfl ?_
  refine ux_iload_n C dX7_put_3 3 rfl ?_
  refine ux_iconst C (pq_b false) dX7_put_4 (by decide) ?_
  refine ux_callI C gkX7_put_89 (c_X7_change l D ad cA A σ t key v false hF hH hW hk hh hw) rfl ⟨rfl, rfl⟩ ⟨(Nat.le_of_ble_eq_true rfl), (Nat.le_of_ble_eq_true rfl)⟩ ⟨Nat.le_refl _, Nat.le_refl _⟩ 7 rfl rfl rfl rfl (Nat.le_of_ble_eq_true rfl) dX7_put_5 (fun r σ1 hr => ?_)
  exact ux_iret C dX7_put_8 (hr)
set_option maxHeartbeats 4000000 in
set_option maxRecDepth 100000 in
theorem c_X7_take (l : Launch) (D : va_G) (ad : Nat → Nat) (cA : Nat → ClassId) (A : Nat → Prop) (σ : ST) (t key : Int32) (hF : uF σ) (hH : uH σ) (hW : uW σ) (hk : σ.2.1 1 < 512) (hh : σ.2.1 3 < 512) (hw : σ.2.1 2 < 512) : ux_I l D vwCl (tyU cA) (wU ad cA) A yX7_take wsX7_take (ux_rm 5) [.ref (ad 7), .int t, .int key] σ (fun r σ' => r = (u_change σ t key 0 true).1 ∧ uEq (u_change σ t key 0 true).2 σ') := by
  refine ux_ofI (cc := cX7_take) (maxL := 3) (ret := (some .int)) (Ts := wsX7_take) (lv := [(0, .ref (ad 7)), (1, .int t), (2, .int key)]) (by decide) rfl (fun _ h => h) (Nat.le_of_ble_eq_true rfl) rfl ?_
  intro p e s m below meth c C
  refine ux_aload_n C dX7_take_0 0 rfl ?_
  refine ux_iload_n C dX7_take_1 1 rfl ?_
  refine ux_iload_n C dX7_take_2 2 rfl ?_
  refine ux_iconst C ((0 : Int32)) dX7_take_3 (by decide) ?_
  refine ux_iconst C (pq_b true) dX7_take_4 (by decide) ?_
  refine ux_callI C gkX7_take_89 (c_X7_change l D ad cA A σ t key 0 true hF hH hW hk hh hw) rfl ⟨rfl, rfl⟩ ⟨(Nat.le_of_ble_eq_true rfl), (Nat.le_of_ble_eq_true rfl)⟩ ⟨Nat.le_refl _, Nat.le_refl _⟩ 7 rfl rfl rfl rfl (Nat.le_of_ble_eq_true rfl) dX7_take_5 (fun r σ1 hr => ?_)
  exact ux_iret C dX7_take_8 (hr)
set_option maxHeartbeats 4000000 in
set_option maxRecDepth 100000 in
theorem c_X7_canEndOrGoBack (l : Launch) (D : va_G) (ad : Nat → Nat) (cA : Nat → ClassId) (A : Nat → Prop) (σ : ST) (t : Int32) (hF : uF σ) : ux_I l D vwCl (tyU cA) (wU ad cA) A yX7_canEndOrGoBack wsX7_canEndOrGoBack (ux_rm 2) [.ref (ad 7), .int t] σ (fun r σ' => r = pq_b (u_can σ t) ∧ σ = σ') := by
  refine ux_ofI (cc := cX7_canEndOrGoBack) (maxL := 2) (ret := (some .boolean)) (Ts := wsX7_canEndOrGoBack) (lv := [(0, .ref (ad 7)), (1, .int t)]) (by decide) rfl (fun _ h => h) (Nat.le_of_ble_eq_true rfl) rfl ?_
  intro p e s m below meth c C
  refine ux_aload_n C dX7_canEndOrGoBack_0 0 rfl ?_
  refine ux_get C flX7_canEndOrGoBack_10 7 rfl rfl rfl dX7_canEndOrGoBack_1 ?_
  refine ux_iload_n C dX7_canEndOrGoBack_4 1 rfl ?_
  refine ux_callI C gkX7_canEndOrGoBack_93 (c_X0_isActive l D ad cA A σ t hF.1) rfl ⟨rfl, rfl⟩ ⟨(Nat.le_of_ble_eq_true rfl), (Nat.le_of_ble_eq_true rfl)⟩ ⟨Nat.le_refl _, Nat.le_refl _⟩ 0 rfl rfl rfl rfl (Nat.le_of_ble_eq_true rfl) dX7_canEndOrGoBack_5 (fun r σ1 hr => ?_)
  obtain ⟨rfl, rfl⟩ := hr
  refine ux_if_eq C 26 dX7_canEndOrGoBack_8 (by decide) (fun h => ?_) (fun h => ?_)
  · have h : u_act σ t = false := (pq_b0 _).mp h
    refine ux_iconst C ((0 : Int32)) dX7_canEndOrGoBack_26 (by decide) ?_
    exact ux_zret C dX7_canEndOrGoBack_27 rfl (⟨by rw [u_can, h]; rfl, rfl⟩)
  · have ha : u_act σ t = true := (pq_bn0 _).mp h
    obtain ⟨k, k1, k2, rfl, k3⟩ := (u_act_iff hF).mp ha
    have hcl := nI_clamp (Nat.lt_of_le_of_lt (Nat.le_trans k2 hF.1) (show 150 < 2 ^ 31 by decide))
    have hle : u_kids σ k ≤ σ.2.1 0 + 1 := pq_cnt_le _ _
    have hF0 := hF.1
    refine ux_aload_n C dX7_canEndOrGoBack_11 0 rfl ?_
    refine ux_get C flX7_canEndOrGoBack_10 7 rfl rfl rfl dX7_canEndOrGoBack_12 ?_
    refine ux_iload_n C dX7_canEndOrGoBack_15 1 rfl ?_
    refine ux_callI C gkX7_canEndOrGoBack_145 (c_X0_activeChildrenOf l D ad cA A σ k k2 hF.1) rfl ⟨rfl, rfl⟩ ⟨(Nat.le_of_ble_eq_true rfl), (Nat.le_of_ble_eq_true rfl)⟩ ⟨Nat.le_refl _, Nat.le_refl _⟩ 0 rfl rfl rfl rfl (Nat.le_of_ble_eq_true rfl) dX7_canEndOrGoBack_16 (fun r σ1 hr => ?_)
    obtain ⟨rfl, rfl⟩ := hr
    refine ux_if_ne C 26 dX7_canEndOrGoBack_19 (by decide) (fun h2 => ?_) (fun h2 => ?_)
    · have h2 : ¬ u_kids σ k = 0 := fun e => h2 (show nI (u_kids σ k) = 0 by rw [e]; rfl)
      refine ux_iconst C ((0 : Int32)) dX7_canEndOrGoBack_26 (by decide) ?_
      exact ux_zret C dX7_canEndOrGoBack_27 rfl (⟨by rw [u_can, hcl, decide_eq_false h2]; simp [pq_b], rfl⟩)
    · have h2 : u_kids σ k = 0 := (nI_eq (b := 0) (by omega) (by omega)).mp h2
      refine ux_iconst C ((1 : Int32)) dX7_canEndOrGoBack_22 (by decide) ?_
      refine ux_goto C 27 dX7_canEndOrGoBack_23 (by decide) ?_
      exact ux_zret C dX7_canEndOrGoBack_27 rfl (⟨by rw [u_can, hcl, decide_eq_true h2, ha]; rfl, rfl⟩)
set_option maxHeartbeats 4000000 in
set_option maxRecDepth 100000 in
theorem c_X7_end (l : Launch) (D : va_G) (ad : Nat → Nat) (cA : Nat → ClassId) (A : Nat → Prop) (σ : ST) (k : Nat) (x : Int32) (hk : k ≤ 150) (hw : σ.2.1 2 ≤ 512) (hh : σ.2.1 3 ≤ 512) (hm : σ.2.1 4 ≤ 512) : ux_N l D vwCl (tyU cA) (wU ad cA) A yX7_end wsX7_end (ux_rm 2) [.ref (ad 7), .int (nI k), .int x] σ (fun σ' => σ' = u_end σ k x) := by
  refine ux_ofN (cc := cX7_end) (maxL := 3) (ret := none) (Ts := wsX7_end) (lv := [(0, .ref (ad 7)), (1, .int (nI k)), (2, .int x)]) (by decide) rfl (fun _ h => h) (Nat.le_of_ble_eq_true rfl) rfl ?_
  intro p e s m below meth c C
  refine ux_aload_n C dX7_end_0 0 rfl ?_
  refine ux_get C flX7_end_10 7 rfl rfl rfl dX7_end_1 ?_
  refine ux_iload_n C dX7_end_4 1 rfl ?_
  refine ux_iload_n C dX7_end_5 2 rfl ?_
  refine ux_callN C gkX7_end_229 (c_X0_end l D ad cA A σ k x hk) rfl ⟨rfl, rfl⟩ ⟨(Nat.le_of_ble_eq_true rfl), (Nat.le_of_ble_eq_true rfl)⟩ ⟨Nat.le_refl _, Nat.le_refl _⟩ 0 rfl rfl rfl rfl (Nat.le_of_ble_eq_true rfl) dX7_end_6 (fun σ1 hr => ?_)
  subst hr
  refine ux_aload_n C dX7_end_9 0 rfl ?_
  refine ux_get C flX7_end_26 7 rfl rfl rfl dX7_end_10 ?_
  refine ux_iload_n C dX7_end_13 1 rfl ?_
  refine ux_callN C gkX7_end_230 (c_X6_drop l D ad cA A _ (nI k) hw) rfl ⟨rfl, rfl⟩ ⟨(Nat.le_of_ble_eq_true rfl), (Nat.le_of_ble_eq_true rfl)⟩ ⟨Nat.le_refl _, Nat.le_refl _⟩ 6 rfl rfl rfl rfl (Nat.le_of_ble_eq_true rfl) dX7_end_14 (fun σ1 hr => ?_)
  subst hr
  refine ux_aload_n C dX7_end_17 0 rfl ?_
  refine ux_get C flX7_end_33 7 rfl rfl rfl dX7_end_18 ?_
  refine ux_iload_n C dX7_end_21 1 rfl ?_
  refine ux_callN C gkX7_end_233 (c_X1_drop l D ad cA A _ (nI k) hh) rfl ⟨rfl, rfl⟩ ⟨(Nat.le_of_ble_eq_true rfl), (Nat.le_of_ble_eq_true rfl)⟩ ⟨Nat.le_refl _, Nat.le_refl _⟩ 1 rfl rfl rfl rfl (Nat.le_of_ble_eq_true rfl) dX7_end_22 (fun σ1 hr => ?_)
  subst hr
  refine ux_aload_n C dX7_end_25 0 rfl ?_
  refine ux_get C flX7_end_40 7 rfl rfl rfl dX7_end_26 ?_
  refine ux_iload_n C dX7_end_29 1 rfl ?_
  refine ux_callN C gkX7_end_234 (c_X3_drop l D ad cA A _ (nI k) hm) rfl ⟨rfl, rfl⟩ ⟨(Nat.le_of_ble_eq_true rfl), (Nat.le_of_ble_eq_true rfl)⟩ ⟨Nat.le_refl _, Nat.le_refl _⟩ 3 rfl rfl rfl rfl (Nat.le_of_ble_eq_true rfl) dX7_end_30 (fun σ1 hr => ?_)
  subst hr
  refine ux_aload_n C dX7_end_33 0 rfl ?_
  refine ux_get C flX7_end_47 7 rfl rfl rfl dX7_end_34 ?_
  refine ux_iload_n C dX7_end_37 1 rfl ?_
  refine ux_callN C gkX7_end_209 (c_X5_clear l D ad cA A _ k hk) rfl ⟨rfl, rfl⟩ ⟨(Nat.le_of_ble_eq_true rfl), (Nat.le_of_ble_eq_true rfl)⟩ ⟨Nat.le_refl _, Nat.le_refl _⟩ 5 rfl rfl rfl rfl (Nat.le_of_ble_eq_true rfl) dX7_end_38 (fun σ1 hr => ?_)
  subst hr
  exact ux_vret C dX7_end_41 (rfl)

