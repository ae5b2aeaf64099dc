theorem hiX7_commit_7 : ∀ w ∈ wsX70, w ∈ wsX7_commit := by decide +kernel
theorem flX7_commit_26 : ux_F wsX7_commit RX7 26 RX7 TX7 7 2 := ⟨hiX7_commit_7, by decide, by decide +kernel⟩
theorem flX7_commit_10 : ux_F wsX7_commit RX7 10 RX7 TX7 7 0 := ⟨hiX7_commit_7, by decide, by decide +kernel⟩
theorem flX7_commit_40 : ux_F wsX7_commit RX7 40 RX7 TX7 7 4 := ⟨hiX7_commit_7, by decide, by decide +kernel⟩
theorem flX7_commit_33 : ux_F wsX7_commit RX7 33 RX7 TX7 7 3 := ⟨hiX7_commit_7, by decide, by decide +kernel⟩
theorem hiX7_back_7 : ∀ w ∈ wsX70, w ∈ wsX7_back := by decide +kernel
theorem flX7_back_40 : ux_F wsX7_back RX7 40 RX7 TX7 7 4 := ⟨hiX7_back_7, by decide, by decide +kernel⟩
theorem flX7_back_26 : ux_F wsX7_back RX7 26 RX7 TX7 7 2 := ⟨hiX7_back_7, by decide, by decide +kernel⟩
theorem hiX7_told_7 : ∀ w ∈ wsX70, w ∈ wsX7_told := by decide +kernel
theorem flX7_told_10 : ux_F wsX7_told RX7 10 RX7 TX7 7 0 := ⟨hiX7_told_7, by decide, by decide +kernel⟩
theorem flX7_told_40 : ux_F wsX7_told RX7 40 RX7 TX7 7 4 := ⟨hiX7_told_7, by decide, by decide +kernel⟩
theorem flX7_told_26 : ux_F wsX7_told RX7 26 RX7 TX7 7 2 := ⟨hiX7_told_7, by decide, by decide +kernel⟩
theorem flX7_told_33 : ux_F wsX7_told RX7 33 RX7 TX7 7 3 := ⟨hiX7_told_7, by decide, by decide +kernel⟩
theorem hiX7_abort_7 : ∀ w ∈ wsX70, w ∈ wsX7_abort := by decide +kernel
theorem flX7_abort_10 : ux_F wsX7_abort RX7 10 RX7 TX7 7 0 := ⟨hiX7_abort_7, by decide, by decide +kernel⟩
theorem hiX7_size_7 : ∀ w ∈ wsX70, w ∈ wsX7_size := by decide +kernel
theorem flX7_size_10 : ux_F wsX7_size RX7 10 RX7 TX7 7 0 := ⟨hiX7_size_7, by decide, by decide +kernel⟩
theorem flX7_size_19 : ux_F wsX7_size RX7 19 RX7 TX7 7 1 := ⟨hiX7_size_7, by decide, by decide +kernel⟩
theorem flX7_size_26 : ux_F wsX7_size RX7 26 RX7 TX7 7 2 := ⟨hiX7_size_7, by decide, by decide +kernel⟩
theorem hiX7_next_7 : ∀ w ∈ wsX70, w ∈ wsX7_next := by decide +kernel
theorem flX7_next_10 : ux_F wsX7_next RX7 10 RX7 TX7 7 0 := ⟨hiX7_next_7, by decide, by decide +kernel⟩
theorem flX7_next_19 : ux_F wsX7_next RX7 19 RX7 TX7 7 1 := ⟨hiX7_next_7, by decide, by decide +kernel⟩
theorem flX7_next_26 : ux_F wsX7_next RX7 26 RX7 TX7 7 2 := ⟨hiX7_next_7, by decide, by decide +kernel⟩
theorem hiX7_sum_7 : ∀ w ∈ wsX70, w ∈ wsX7_sum := by decide +kernel
theorem flX7_sum_10 : ux_F wsX7_sum RX7 10 RX7 TX7 7 0 := ⟨hiX7_sum_7, by decide, by decide +kernel⟩
theorem flX7_sum_19 : ux_F wsX7_sum RX7 19 RX7 TX7 7 1 := ⟨hiX7_sum_7, by decide, by decide +kernel⟩
theorem flX7_sum_26 : ux_F wsX7_sum RX7 26 RX7 TX7 7 2 := ⟨hiX7_sum_7, by decide, by decide +kernel⟩
theorem gkX7_commit_98 : ux_G wsX7_commit RX7 98 RX7 yX7_canEndOrGoBack wsX7_canEndOrGoBack 1 := ⟨gX7_commit_X7_canEndOrGoBack, by decide +kernel⟩
theorem gkX7_commit_115 : ux_G wsX7_commit RX7 115 RX6 yX6_keysOf wsX6_keysOf 1 := ⟨gX7_commit_X6_keysOf, by decide +kernel⟩
theorem gkX7_commit_118 : ux_G wsX7_commit RX7 118 RX0 yX0_parentOf wsX0_parentOf 1 := ⟨gX7_commit_X0_parentOf, by decide +kernel⟩
theorem gkX7_commit_121 : ux_G wsX7_commit RX7 121 RX3 yX3_now wsX3_now 0 := ⟨gX7_commit_X3_now, by decide +kernel⟩
theorem gkX7_commit_125 : ux_G wsX7_commit RX7 125 RX6 yX6_handOver wsX6_handOver 3 := ⟨gX7_commit_X6_handOver, by decide +kernel⟩
theorem gkX7_commit_130 : ux_G wsX7_commit RX7 130 RX7 yX7_end wsX7_end 2 := ⟨gX7_commit_X7_end, by decide +kernel⟩
theorem gkX7_commit_128 : ux_G wsX7_commit RX7 128 RX1 yX1_handOver wsX1_handOver 2 := ⟨gX7_commit_X1_handOver, by decide +kernel⟩
theorem gkX7_back_98 : ux_G wsX7_back RX7 98 RX7 yX7_canEndOrGoBack wsX7_canEndOrGoBack 1 := ⟨gX7_back_X7_canEndOrGoBack, by decide +kernel⟩
theorem gkX7_back_101 : ux_G wsX7_back RX7 101 RX3 yX3_find wsX3_find 2 := ⟨gX7_back_X3_find, by decide +kernel⟩
theorem gkX7_back_105 : ux_G wsX7_back RX7 105 RX3 yX3_dropAfter wsX3_dropAfter 2 := ⟨gX7_back_X3_dropAfter, by decide +kernel⟩
theorem gkX7_back_109 : ux_G wsX7_back RX7 109 RX3 yX3_timeOf wsX3_timeOf 1 := ⟨gX7_back_X3_timeOf, by decide +kernel⟩
theorem gkX7_back_112 : ux_G wsX7_back RX7 112 RX6 yX6_undo wsX6_undo 2 := ⟨gX7_back_X6_undo, by decide +kernel⟩
theorem gkX7_told_139 : ux_G wsX7_told RX7 139 RX0 yX0_exists wsX0_exists 1 := ⟨gX7_told_X0_exists, by decide +kernel⟩
theorem gkX7_told_118 : ux_G wsX7_told RX7 118 RX0 yX0_parentOf wsX0_parentOf 1 := ⟨gX7_told_X0_parentOf, by decide +kernel⟩
theorem gkX7_told_145 : ux_G wsX7_told RX7 145 RX0 yX0_activeChildrenOf wsX0_activeChildrenOf 1 := ⟨gX7_told_X0_activeChildrenOf, by decide +kernel⟩
theorem gkX7_told_148 : ux_G wsX7_told RX7 148 RX3 yX3_countOf wsX3_countOf 1 := ⟨gX7_told_X3_countOf, by decide +kernel⟩
theorem gkX7_told_115 : ux_G wsX7_told RX7 115 RX6 yX6_keysOf wsX6_keysOf 1 := ⟨gX7_told_X6_keysOf, by decide +kernel⟩
theorem gkX7_told_151 : ux_G wsX7_told RX7 151 RX1 yX1_countOf wsX1_countOf 2 := ⟨gX7_told_X1_countOf, by decide +kernel⟩
theorem gkX7_abort_93 : ux_G wsX7_abort RX7 93 RX0 yX0_isActive wsX0_isActive 1 := ⟨gX7_abort_X0_isActive, by decide +kernel⟩
theorem gkX7_abort_133 : ux_G wsX7_abort RX7 133 RX0 yX0_opened wsX0_opened 0 := ⟨gX7_abort_X0_opened, by decide +kernel⟩
theorem gkX7_abort_136 : ux_G wsX7_abort RX7 136 RX0 yX0_isLeftBehind wsX0_isLeftBehind 1 := ⟨gX7_abort_X0_isLeftBehind, by decide +kernel⟩
theorem gkX7_abort_130 : ux_G wsX7_abort RX7 130 RX7 yX7_end wsX7_end 2 := ⟨gX7_abort_X7_end, by decide +kernel⟩
theorem gkX7_size_58 : ux_G wsX7_size RX7 58 RX0 yX0_canBeAsked wsX0_canBeAsked 1 := ⟨gX7_size_X0_canBeAsked, by decide +kernel⟩
theorem gkX7_size_181 : ux_G wsX7_size RX7 181 RX7 yX7_look wsX7_look 1 := ⟨gX7_size_X7_look, by decide +kernel⟩
theorem gkX7_size_184 : ux_G wsX7_size RX7 184 RX2 yX2_count wsX2_count 0 := ⟨gX7_size_X2_count, by decide +kernel⟩
theorem gkX7_size_187 : ux_G wsX7_size RX7 187 RX6 yX6_hasFound wsX6_hasFound 1 := ⟨gX7_size_X6_hasFound, by decide +kernel⟩
theorem gkX7_next_58 : ux_G wsX7_next RX7 58 RX0 yX0_canBeAsked wsX0_canBeAsked 1 := ⟨gX7_next_X0_canBeAsked, by decide +kernel⟩
theorem gkX7_next_181 : ux_G wsX7_next RX7 181 RX7 yX7_look wsX7_look 1 := ⟨gX7_next_X7_look, by decide +kernel⟩
theorem gkX7_next_184 : ux_G wsX7_next RX7 184 RX2 yX2_count wsX2_count 0 := ⟨gX7_next_X2_count, by decide +kernel⟩
theorem gkX7_next_192 : ux_G wsX7_next RX7 192 RX2 yX2_at wsX2_at 1 := ⟨gX7_next_X2_at, by decide +kernel⟩
theorem gkX7_next_187 : ux_G wsX7_next RX7 187 RX6 yX6_hasFound wsX6_hasFound 1 := ⟨gX7_next_X6_hasFound, by decide +kernel⟩
theorem gkX7_sum_58 : ux_G wsX7_sum RX7 58 RX0 yX0_canBeAsked wsX0_canBeAsked 1 := ⟨gX7_sum_X0_canBeAsked, by decide +kernel⟩
theorem gkX7_sum_181 : ux_G wsX7_sum RX7 181 RX7 yX7_look wsX7_look 1 := ⟨gX7_sum_X7_look, by decide +kernel⟩
theorem gkX7_sum_184 : ux_G wsX7_sum RX7 184 RX2 yX2_count wsX2_count 0 := ⟨gX7_sum_X2_count, by decide +kernel⟩
theorem gkX7_sum_192 : ux_G wsX7_sum RX7 192 RX2 yX2_at wsX2_at 1 := ⟨gX7_sum_X2_at, by decide +kernel⟩
theorem gkX7_sum_187 : ux_G wsX7_sum RX7 187 RX6 yX6_hasFound wsX6_hasFound 1 := ⟨gX7_sum_X6_hasFound, by decide +kernel⟩
theorem gkX7_sum_201 : ux_G wsX7_sum RX7 201 RX6 yX6_valueFound wsX6_valueFound 1 := ⟨gX7_sum_X6_valueFound, by decide +kernel⟩
set_option maxHeartbeats 4000000 in
set_option maxRecDepth 100000 in
theorem c_X7_commit (l : Launch) (D : va_G) (ad : Nat → Nat) (cA : Nat → ClassId) (A : Nat → Prop) (σ : ST) (t : Int32) (hF : uF σ) (hW : uW σ) (hU : uU σ) (hh : σ.2.1 3 ≤ 512) (hm : σ.2.1 4 ≤ 512) : ux_I l D vwCl (tyU cA) (wU ad cA) A yX7_commit wsX7_commit (ux_rm 3) [.ref (ad 7), .int t] σ (fun r σ' => r = (u_commit σ t).1 ∧ uEq (u_commit σ t).2 σ') := by
  refine ux_ofI (cc := cX7_commit) (maxL := 4) (ret := (some .int)) (Ts := wsX7_commit) (lv := [(0, .ref (ad 7)), (1, .int t)]) (by decide) rfl (fun _ h => h) (Nat.le_of_ble_eq_true rfl) rfl ?_
  intro p e s m below meth c C
  have hF0 := hF.1
  refine ux_aload_n C dX7_commit_0 0 rfl ?_
  refine ux_iload_n C dX7_commit_1 1 rfl ?_
  refine ux_callI C gkX7_commit_98 (c_X7_canEndOrGoBack l D ad cA A σ t hF) rfl ⟨rfl, rfl⟩ ⟨(Nat.le_of_ble_eq_true rfl), (Nat.le_of_ble_eq_true rfl)⟩ ⟨Nat.le_refl _, Nat.le_refl _⟩ 7 rfl rfl rfl rfl (Nat.le_of_ble_eq_true rfl) dX7_commit_2 (fun r σ1 hr => ?_)
  obtain ⟨rfl, rfl⟩ := hr
  refine ux_if_ne C 10 dX7_commit_5 (by decide) (fun h => ?_) (fun h => ?_)
  · have h : u_can σ t = true := (pq_bn0 _).mp h
    have ha : u_act σ t = true := by rw [u_can, Bool.and_eq_true] at h; exact h.1
    obtain ⟨k, k1, k2, rfl, k3⟩ := (u_act_iff hF).mp ha
    have hcl := nI_clamp (Nat.lt_of_le_of_lt (Nat.le_trans k2 hF.1) (show 150 < 2 ^ 31 by decide))
    obtain ⟨hp1, hp2⟩ := hF.2 k k1 k2
    have hu : u_commit σ (nI k) = (nI (u_keys σ (nI k)), u_end (u_hh (u_hw σ (nI k) (σ.1 0 k)) (nI k) (σ.1 0 k)) k 1) := by rw [u_commit, if_pos h, hcl]
    refine ux_aload_n C dX7_commit_10 0 rfl ?_
    refine ux_get C flX7_commit_26 7 rfl rfl rfl dX7_commit_11 ?_
    refine ux_iload_n C dX7_commit_14 1 rfl ?_
    refine ux_callI C gkX7_commit_115 (c_X6_keysOf l D ad cA A σ (nI k) hW.1 (fun r hr => (hW.2 r hr).2)) rfl ⟨rfl, rfl⟩ ⟨(Nat.le_of_ble_eq_true rfl), (Nat.le_of_ble_eq_true rfl)⟩ ⟨Nat.le_refl _, Nat.le_refl _⟩ 6 rfl rfl rfl rfl (Nat.le_of_ble_eq_true rfl) dX7_commit_15 (fun r σ1 hr => ?_)
    obtain ⟨f, rfl, rfl⟩ := hr
    have hE := (uEq.refl σ).sa9 f
    refine ux_istore_n C [(2, _), (0, _), (1, _)] dX7_commit_18 rfl (by decide) rfl ?_
    refine ux_aload_n C dX7_commit_19 1 rfl ?_
    refine ux_get C flX7_commit_10 7 rfl rfl rfl dX7_commit_20 ?_
    refine ux_iload_n C dX7_commit_23 2 rfl ?_
    refine ux_callI C gkX7_commit_118 (c_X0_parentOf l D ad cA A (sa σ 9 f) k (by omega)) rfl ⟨rfl, rfl⟩ ⟨(Nat.le_of_ble_eq_true rfl), (Nat.le_of_ble_eq_true rfl)⟩ ⟨Nat.le_refl _, Nat.le_refl _⟩ 0 rfl rfl rfl rfl (Nat.le_of_ble_eq_true rfl) dX7_commit_24 (fun r σ1 hr => ?_)
    obtain ⟨rfl, rfl⟩ := hr
    refine ux_istore_n C [(3, _), (2, _), (0, _), (1, _)] dX7_commit_27 rfl (by decide) rfl ?_
    refine ux_aload_n C dX7_commit_28 2 rfl ?_
    refine ux_get C flX7_commit_26 7 rfl rfl rfl dX7_commit_29 ?_
    refine ux_iload_n C dX7_commit_32 3 rfl ?_
    refine ux_iload_n C dX7_commit_33 0 rfl ?_
    refine ux_aload_n C dX7_commit_34 2 rfl ?_
    refine ux_get C flX7_commit_40 7 rfl rfl rfl dX7_commit_35 ?_
    refine ux_callI C gkX7_commit_121 (c_X3_now l D ad cA A (sa σ 9 f)) rfl ⟨rfl, rfl⟩ ⟨(Nat.le_of_ble_eq_true rfl), (Nat.le_of_ble_eq_true rfl)⟩ ⟨Nat.le_refl _, Nat.le_refl _⟩ 3 rfl rfl rfl rfl (Nat.le_of_ble_eq_true rfl) dX7_commit_38 (fun r σ1 hr => ?_)
    obtain ⟨rfl, rfl⟩ := hr
    refine ux_callN C gkX7_commit_125 (c_X6_handOver l D ad cA A (sa σ 9 f) (nI k) (σ.1 0 k) (nI (σ.2.1 4)) hW.1) rfl ⟨rfl, rfl⟩ ⟨(Nat.le_of_ble_eq_true rfl), (Nat.le_of_ble_eq_true rfl)⟩ ⟨Nat.le_refl _, Nat.le_refl _⟩ 6 rfl rfl rfl rfl (Nat.le_of_ble_eq_true rfl) dX7_commit_41 (fun σ1 hr => ?_)
    have hr : σ1 = u_hw (sa σ 9 f) (nI k) (σ.1 0 k) := hr
    have hE2 := hE.hw (nI k) (σ.1 0 k)
    refine ux_iload_n C dX7_commit_44 0 rfl ?_
    refine ux_if_eq C 57 dX7_commit_45 (by decide) (fun h0 => ?_) (fun h0 => ?_)
    · have h0 : σ.1 0 k = 0 := h0
      rw [u_hh, if_pos h0] at hu
      subst hr
      refine ux_aload_n C dX7_commit_57 2 rfl ?_
      refine ux_iload_n C dX7_commit_58 3 rfl ?_
      refine ux_iconst C ((1 : Int32)) dX7_commit_59 (by decide) ?_
      refine ux_callN C gkX7_commit_130 (c_X7_end l D ad cA A _ k 1 (by omega) hW.1 hh hm) rfl ⟨rfl, rfl⟩ ⟨(Nat.le_of_ble_eq_true rfl), (Nat.le_of_ble_eq_true rfl)⟩ ⟨Nat.le_refl _, Nat.le_refl _⟩ 7 rfl rfl rfl rfl (Nat.le_of_ble_eq_true rfl) dX7_commit_60 (fun σ1 hr => ?_)
      subst hr
      refine ux_iload_n C dX7_commit_63 1 rfl ?_
      exact ux_iret C dX7_commit_64 (by rw [hu]; exact ⟨rfl, hE2.end k 1⟩)
    · have h0 : ¬ σ.1 0 k = 0 := h0
      rw [u_hh, if_neg h0] at hu
      subst hr
      refine ux_aload_n C dX7_commit_48 2 rfl ?_
      refine ux_get C flX7_commit_33 7 rfl rfl rfl dX7_commit_49 ?_
      refine ux_iload_n C dX7_commit_52 3 rfl ?_
      refine ux_iload_n C dX7_commit_53 0 rfl ?_
      refine ux_callN C gkX7_commit_128 (c_X1_handOver l D ad cA A _ (nI k) (σ.1 0 k) hh hU (pq_nI_m1 (by omega)) (by rw [hp1]; exact pq_nI_m1 (by omega)) (by rw [hp1]; exact fun e => by have := (nI_eq (by omega) (by omega)).mp e; omega)) rfl ⟨rfl, rfl⟩ ⟨(Nat.le_of_ble_eq_true rfl), (Nat.le_of_ble_eq_true rfl)⟩ ⟨Nat.le_refl _, Nat.le_refl _⟩ 1 rfl rfl rfl rfl (Nat.le_of_ble_eq_true rfl) dX7_commit_54 (fun σ1 hr => ?_)
      subst hr
      refine ux_aload_n C dX7_commit_57 2 rfl ?_
      refine ux_iload_n C dX7_commit_58 3 rfl ?_
      refine ux_iconst C ((1 : Int32)) dX7_commit_59 (by decide) ?_
      refine ux_callN C gkX7_commit_130 (c_X7_end l D ad cA A _ k 1 (by omega) hW.1 hh hm) rfl ⟨rfl, rfl⟩ ⟨(Nat.le_of_ble_eq_true rfl), (Nat.le_of_ble_eq_true rfl)⟩ ⟨Nat.le_refl _, Nat.le_refl _⟩ 7 rfl rfl rfl rfl (Nat.le_of_ble_eq_true rfl) dX7_commit_60 (fun σ1 hr => ?_)
      subst hr
      refine ux_iload_n C dX7_commit_63 1 rfl ?_
      exact ux_iret C dX7_commit_64 (by rw [hu]; exact ⟨rfl, (hE2.hand _ _).end k 1⟩)
  · have h : u_can σ t = false := (pq_b0 _).mp h
    have hu : u_commit σ t = (-1, σ) := if_neg (by rw [h]; decide)
    refine ux_iconst C ((-1 : Int32)) dX7_commit_8 (by decide) ?_
    exact ux_iret C dX7_commit_9 (by rw [hu]; exact ⟨rfl, uEq.refl σ⟩)
set_option maxHeartbeats 4000000 in
set_option maxRecDepth 100000 in
theorem c_X7_back (l : Launch) (D : va_G) (ad : Nat → Nat) (cA : Nat → ClassId) (A : Nat → Prop) (σ : ST) (t x : Int32) (hF : uF σ) (hW : uW σ) (hm : σ.2.1 4 ≤ 512) : ux_I l D vwCl (tyU cA) (wU ad cA) A yX7_back wsX7_back (ux_rm 3) [.ref (ad 7), .int t, .int x] σ (fun r σ' => r = (u_back σ t x).1 ∧ uEq (u_back σ t x).2 σ') := by
  refine ux_ofI (cc := cX7_back) (maxL := 4) (ret := (some .int)) (Ts := wsX7_back) (lv := [(0, .ref (ad 7)), (1, .int t), (2, .int x)]) (by decide) rfl (fun _ h => h) (Nat.le_of_ble_eq_true rfl) rfl ?_
  intro p e s m below meth c C
  refine ux_aload_n C dX7_back_0 0 rfl ?_
  refine ux_iload_n C dX7_back_1 1 rfl ?_
  refine ux_callI C gkX7_back_98 (c_X7_canEndOrGoBack l D ad cA A σ t hF) rfl ⟨rfl, rfl⟩ ⟨(Nat.le_of_ble_eq_true rfl), (Nat.le_of_ble_eq_true rfl)⟩ ⟨Nat.le_refl _, Nat.le_refl _⟩ 7 rfl rfl rfl rfl (Nat.le_of_ble_eq_true rfl) dX7_back_2 (fun r σ1 hr => ?_)
  obtain ⟨rfl, rfl⟩ := hr
  refine ux_if_ne C 10 dX7_back_5 (by decide) (fun h => ?_) (fun h => ?_)
  · have h : u_can σ t = true := (pq_bn0 _).mp h
    refine ux_aload_n C dX7_back_10 0 rfl ?_
    refine ux_get C flX7_back_40 7 rfl rfl rfl dX7_back_11 ?_
    refine ux_iload_n C dX7_back_14 1 rfl ?_
    refine ux_iload_n C dX7_back_15 2 rfl ?_
    refine ux_callI C gkX7_back_101 (c_X3_find l D ad cA A σ t x hm) rfl ⟨rfl, rfl⟩ ⟨(Nat.le_of_ble_eq_true rfl), (Nat.le_of_ble_eq_true rfl)⟩ ⟨Nat.le_refl _, Nat.le_refl _⟩ 3 rfl rfl rfl rfl (Nat.le_of_ble_eq_true rfl) dX7_back_16 (fun r σ1 hr => ?_)
    obtain ⟨hr, rfl⟩ := hr
    have hr : r = pq_o (u_mrow σ t x) := hr
    cases hf : u_mrow σ t x with
    | none =>
      have hu : u_back σ t x = (-1, σ) := by rw [u_back, if_pos h, hf]
      rw [hf] at hr
      have hr : r = -1 := hr
      subst hr
      refine ux_istore_n C [(3, _), (0, _), (1, _), (2, _)] dX7_back_19 rfl (by decide) rfl ?_
      refine ux_iload_n C dX7_back_20 0 rfl ?_
      refine ux_iconst C ((-1 : Int32)) dX7_back_21 (by decide) ?_
      refine ux_icmp_ne C 27 dX7_back_22 (by decide) (fun h2 => ?_) (fun h2 => ?_)
      · exact absurd rfl h2
      · refine ux_iconst C ((-1 : Int32)) dX7_back_25 (by decide) ?_
        exact ux_iret C dX7_back_26 (by rw [hu]; exact ⟨rfl, uEq.refl σ⟩)
    | some q =>
      have hu : u_back σ t x = (nI (u_diff σ t (nI (q + 1))), u_undo (u_mdrop σ t (q + 1)) t (nI (q + 1))) := by rw [u_back, if_pos h, hf]
      have hq := (pq_fst_some.mp hf).1
      rw [hf] at hr
      have hr : r = nI q := hr
      subst hr
      refine ux_istore_n C [(3, _), (0, _), (1, _), (2, _)] dX7_back_19 rfl (by decide) rfl ?_
      refine ux_iload_n C dX7_back_20 0 rfl ?_
      refine ux_iconst C ((-1 : Int32)) dX7_back_21 (by decide) ?_
      refine ux_icmp_ne C 27 dX7_back_22 (by decide) (fun h2 => ?_) (fun h2 => ?_)
      · refine ux_aload_n C dX7_back_27 1 rfl ?_
        refine ux_get C flX7_back_40 7 rfl rfl rfl dX7_back_28 ?_
        refine ux_iload_n C dX7_back_31 2 rfl ?_
        refine ux_iload_n C dX7_back_32 0 rfl ?_
        refine ux_callN C gkX7_back_105 (c_X3_dropAfter l D ad cA A σ t (nI q) (q + 1) (nI_1 q) (by omega) hm) rfl ⟨rfl, rfl⟩ ⟨(Nat.le_of_ble_eq_true rfl), (Nat.le_of_ble_eq_true rfl)⟩ ⟨Nat.le_refl _, Nat.le_refl _⟩ 3 rfl rfl rfl rfl (Nat.le_of_ble_eq_true rfl) dX7_back_33 (fun σ1 hr => ?_)
        subst hr
        refine ux_aload_n C dX7_back_36 1 rfl ?_
        refine ux_get C flX7_back_26 7 rfl rfl rfl dX7_back_37 ?_
        refine ux_iload_n C dX7_back_40 2 rfl ?_
        refine ux_aload_n C dX7_back_41 1 rfl ?_
        refine ux_get C flX7_back_40 7 rfl rfl rfl dX7_back_42 ?_
        refine ux_iload_n C dX7_back_45 0 rfl ?_
        refine ux_callI C gkX7_back_109 (c_X3_timeOf l D ad cA A _ q) rfl ⟨rfl, rfl⟩ ⟨(Nat.le_of_ble_eq_true rfl), (Nat.le_of_ble_eq_true rfl)⟩ ⟨Nat.le_refl _, Nat.le_refl _⟩ 3 rfl rfl rfl rfl (Nat.le_of_ble_eq_true rfl) dX7_back_46 (fun r σ1 hr => ?_)
        obtain ⟨rfl, rfl⟩ := hr
        refine ux_callI C gkX7_back_112 (c_X6_undo l D ad cA A _ t (nI (q + 1)) hW.1 (fun r hr => (hW.2 r hr).2)) rfl ⟨rfl, rfl⟩ ⟨(Nat.le_of_ble_eq_true rfl), (Nat.le_of_ble_eq_true rfl)⟩ ⟨Nat.le_refl _, Nat.le_refl _⟩ 6 rfl rfl rfl rfl (Nat.le_of_ble_eq_true rfl) dX7_back_49 (fun r σ1 hr => ?_)
        obtain ⟨f1, f2, rfl, rfl⟩ := hr
        refine ux_iret C dX7_back_52 ?_
        rw [hu]
        refine ⟨rfl, rfl, fun j q1 q2 q3 => ?_⟩
        show (if j = 10 then f2 else if j = 4 then _ else if j = 9 then f1 else _) = _
        rw [if_neg q3, if_neg q2]
        rfl
      · exact absurd h2 (pq_nI_m1 (by omega))
  · have h : u_can σ t = false := (pq_b0 _).mp h
    have hu : u_back σ t x = (-1, σ) := if_neg (by rw [h]; decide)
    refine ux_iconst C ((-1 : Int32)) dX7_back_8 (by decide) ?_
    exact ux_iret C dX7_back_9 (by rw [hu]; exact ⟨rfl, uEq.refl σ⟩)
set_option maxHeartbeats 4000000 in
set_option maxRecDepth 100000 in
theorem c_X7_told (l : Launch) (D : va_G) (ad : Nat → Nat) (cA : Nat → ClassId) (A : Nat → Prop) (σ : ST) (t w : Int32) (hF : uF σ) (hW : uW σ) (hh : σ.2.1 3 ≤ 512) (hm : σ.2.1 4 ≤ 512) : ux_I l D vwCl (tyU cA) (wU ad cA) A yX7_told wsX7_told (ux_rm 3) [.ref (ad 7), .int t, .int w] σ (fun r σ' => r = u_told σ t w ∧ uEq σ σ') := by
  refine ux_ofI (cc := cX7_told) (maxL := 3) (ret := (some .int)) (Ts := wsX7_told) (lv := [(0, .ref (ad 7)), (1, .int t), (2, .int w)]) (by decide) rfl (fun _ h => h) (Nat.le_of_ble_eq_true rfl) rfl ?_
  intro p e s m below meth c C
  have hF0 := hF.1
  refine ux_aload_n C dX7_told_0 0 rfl ?_
  refine ux_get C flX7_told_10 7 rfl rfl rfl dX7_told_1 ?_
  refine ux_iload_n C dX7_told_4 1 rfl ?_
  refine ux_callI C gkX7_told_139 (c_X0_exists l D ad cA A σ t) rfl ⟨rfl, rfl⟩ ⟨(Nat.le_of_ble_eq_true rfl), (Nat.le_of_ble_eq_true rfl)⟩ ⟨Nat.le_refl _, Nat.le_refl _⟩ 0 rfl rfl rfl rfl (Nat.le_of_ble_eq_true rfl) dX7_told_5 (fun r σ1 hr => ?_)
  obtain ⟨rfl, rfl⟩ := hr
  refine ux_if_ne C 13 dX7_told_8 (by decide) (fun h => ?_) (fun h => ?_)
  · have h := (pq_bn0 _).mp h
    obtain ⟨k, k1, k2, rfl⟩ := (pq_ex_iff (Nat.lt_of_le_of_lt hF.1 (by decide))).mp h
    have hcl := nI_clamp (Nat.lt_of_le_of_lt (Nat.le_trans k2 hF.1) (show 150 < 2 ^ 31 by decide))
    have hu : u_told σ (nI k) w = (if w = 0 then σ.1 0 k else if w = 1 then nI (u_kids σ k) else if w = 2 then nI (u_marks σ (nI k)) else if w = 3 then nI (u_keys σ (nI k)) else if w = 4 then nI (u_holds σ (nI k) 1) else if w = 5 then nI (u_holds σ (nI k) 2) else -1) := by rw [u_told, if_pos h, hcl]
    by_cases w0 : w = 0
    · subst w0
      refine ux_iload_n C dX7_told_13 2 rfl ?_
      refine ux_tableIn C 52 dX7_told_14 (by decide) (by decide) rfl (by decide) ?_
      refine ux_aload_n C dX7_told_52 0 rfl ?_
      refine ux_get C flX7_told_10 7 rfl rfl rfl dX7_told_53 ?_
      refine ux_iload_n C dX7_told_56 1 rfl ?_
      refine ux_callI C gkX7_told_118 (c_X0_parentOf l D ad cA A σ k (by omega)) rfl ⟨rfl, rfl⟩ ⟨(Nat.le_of_ble_eq_true rfl), (Nat.le_of_ble_eq_true rfl)⟩ ⟨Nat.le_refl _, Nat.le_refl _⟩ 0 rfl rfl rfl rfl (Nat.le_of_ble_eq_true rfl) dX7_told_57 (fun r σ1 hr => ?_)
      obtain ⟨rfl, rfl⟩ := hr
      exact ux_iret C dX7_told_60 (⟨by rw [hu]; rfl, uEq.refl σ⟩)
    by_cases w1 : w = 1
    · subst w1
      refine ux_iload_n C dX7_told_13 2 rfl ?_
      refine ux_tableIn C 61 dX7_told_14 (by decide) (by decide) rfl (by decide) ?_
      refine ux_aload_n C dX7_told_61 0 rfl ?_
      refine ux_get C flX7_told_10 7 rfl rfl rfl dX7_told_62 ?_
      refine ux_iload_n C dX7_told_65 1 rfl ?_
      refine ux_callI C gkX7_told_145 (c_X0_activeChildrenOf l D ad cA A σ k k2 hF.1) rfl ⟨rfl, rfl⟩ ⟨(Nat.le_of_ble_eq_true rfl), (Nat.le_of_ble_eq_true rfl)⟩ ⟨Nat.le_refl _, Nat.le_refl _⟩ 0 rfl rfl rfl rfl (Nat.le_of_ble_eq_true rfl) dX7_told_66 (fun r σ1 hr => ?_)
      obtain ⟨rfl, rfl⟩ := hr
      exact ux_iret C dX7_told_69 (⟨by rw [hu]; rfl, uEq.refl σ⟩)
    by_cases w2 : w = 2
    · subst w2
      refine ux_iload_n C dX7_told_13 2 rfl ?_
      refine ux_tableIn C 70 dX7_told_14 (by decide) (by decide) rfl (by decide) ?_
      refine ux_aload_n C dX7_told_70 0 rfl ?_
      refine ux_get C flX7_told_40 7 rfl rfl rfl dX7_told_71 ?_
      refine ux_iload_n C dX7_told_74 1 rfl ?_
      refine ux_callI C gkX7_told_148 (c_X3_countOf l D ad cA A σ (nI k) hm) rfl ⟨rfl, rfl⟩ ⟨(Nat.le_of_ble_eq_true rfl), (Nat.le_of_ble_eq_true rfl)⟩ ⟨Nat.le_refl _, Nat.le_refl _⟩ 3 rfl rfl rfl rfl (Nat.le_of_ble_eq_true rfl) dX7_told_75 (fun r σ1 hr => ?_)
      obtain ⟨rfl, rfl⟩ := hr
      exact ux_iret C dX7_told_78 (⟨by rw [hu]; rfl, uEq.refl σ⟩)
    by_cases w3 : w = 3
    · subst w3
      refine ux_iload_n C dX7_told_13 2 rfl ?_
      refine ux_tableIn C 79 dX7_told_14 (by decide) (by decide) rfl (by decide) ?_
      refine ux_aload_n C dX7_told_79 0 rfl ?_
      refine ux_get C flX7_told_26 7 rfl rfl rfl dX7_told_80 ?_
      refine ux_iload_n C dX7_told_83 1 rfl ?_
      refine ux_callI C gkX7_told_115 (c_X6_keysOf l D ad cA A σ (nI k) hW.1 (fun r hr => (hW.2 r hr).2)) rfl ⟨rfl, rfl⟩ ⟨(Nat.le_of_ble_eq_true rfl), (Nat.le_of_ble_eq_true rfl)⟩ ⟨Nat.le_refl _, Nat.le_refl _⟩ 6 rfl rfl rfl rfl (Nat.le_of_ble_eq_true rfl) dX7_told_84 (fun r σ1 hr => ?_)
      obtain ⟨f, rfl, rfl⟩ := hr
      exact ux_iret C dX7_told_87 (⟨by rw [hu]; rfl, (uEq.refl σ).sa9 f⟩)
    by_cases w4 : w = 4
    · subst w4
      refine ux_iload_n C dX7_told_13 2 rfl ?_
      refine ux_tableIn C 88 dX7_told_14 (by decide) (by decide) rfl (by decide) ?_
      refine ux_aload_n C dX7_told_88 0 rfl ?_
      refine ux_get C flX7_told_33 7 rfl rfl rfl dX7_told_89 ?_
      refine ux_iload_n C dX7_told_92 1 rfl ?_
      refine ux_iconst C ((1 : Int32)) dX7_told_93 (by decide) ?_
      refine ux_callI C gkX7_told_151 (c_X1_countOf l D ad cA A σ (nI k) 1 hh) rfl ⟨rfl, rfl⟩ ⟨(Nat.le_of_ble_eq_true rfl), (Nat.le_of_ble_eq_true rfl)⟩ ⟨Nat.le_refl _, Nat.le_refl _⟩ 1 rfl rfl rfl rfl (Nat.le_of_ble_eq_true rfl) dX7_told_94 (fun r σ1 hr => ?_)
      obtain ⟨rfl, rfl⟩ := hr
      exact ux_iret C dX7_told_97 (⟨by rw [hu]; rfl, uEq.refl σ⟩)
    by_cases w5 : w = 5
    · subst w5
      refine ux_iload_n C dX7_told_13 2 rfl ?_
      refine ux_tableIn C 98 dX7_told_14 (by decide) (by decide) rfl (by decide) ?_
      refine ux_aload_n C dX7_told_98 0 rfl ?_
      refine ux_get C flX7_told_33 7 rfl rfl rfl dX7_told_99 ?_
      refine ux_iload_n C dX7_told_102 1 rfl ?_
      refine ux_iconst C ((2 : Int32)) dX7_told_103 (by decide) ?_
      refine ux_callI C gkX7_told_151 (c_X1_countOf l D ad cA A σ (nI k) 2 hh) rfl ⟨rfl, rfl⟩ ⟨(Nat.le_of_ble_eq_true rfl), (Nat.le_of_ble_eq_true rfl)⟩ ⟨Nat.le_refl _, Nat.le_refl _⟩ 1 rfl rfl rfl rfl (Nat.le_of_ble_eq_true rfl) dX7_told_104 (fun r σ1 hr => ?_)
      obtain ⟨rfl, rfl⟩ := hr
      exact ux_iret C dX7_told_107 (⟨by rw [hu]; rfl, uEq.refl σ⟩)
    have e0 := lv_neT (a := 0) w0 (by decide)
    have e1 := lv_neT (a := 1) w1 (by decide)
    have e2 := lv_neT (a := 2) w2 (by decide)
    have e3 := lv_neT (a := 3) w3 (by decide)
    have e4 := lv_neT (a := 4) w4 (by decide)
    have e5 := lv_neT (a := 5) w5 (by decide)
    refine ux_iload_n C dX7_told_13 2 rfl ?_
    refine ux_tableOut C 108 dX7_told_14 (by omega) (by decide) ?_
    refine ux_iconst C ((-1 : Int32)) dX7_told_108 (by decide) ?_
    exact ux_iret C dX7_told_109 (⟨by rw [hu, if_neg w0, if_neg w1, if_neg w2, if_neg w3, if_neg w4, if_neg w5], uEq.refl σ⟩)
  · have h := (pq_b0 _).mp h
    refine ux_iconst C ((-1 : Int32)) dX7_told_11 (by decide) ?_
    exact ux_iret C dX7_told_12 (⟨(if_neg (by rw [h]; decide)).symm, uEq.refl σ⟩)
set_option maxHeartbeats 4000000 in
set_option maxRecDepth 100000 in
theorem c_X7_abort (l : Launch) (D : va_G) (ad : Nat → Nat) (cA : Nat → ClassId) (A : Nat → Prop) (σ : ST) (t : Int32) (hF : uF σ) (hw : σ.2.1 2 ≤ 512) (hh : σ.2.1 3 ≤ 512) (hm : σ.2.1 4 ≤ 512) : ux_I l D vwCl (tyU cA) (wU ad cA) A yX7_abort wsX7_abort (ux_rm 4) [.ref (ad 7), .int t] σ (fun r σ' => r = (u_abort σ t).1 ∧ uEq (u_abort σ t).2 σ') := by
  refine ux_ofI (cc := cX7_abort) (maxL := 4) (ret := (some .int)) (Ts := wsX7_abort) (lv := [(0, .ref (ad 7)), (1, .int t)]) (by decide) rfl (fun _ h => h) (Nat.le_of_ble_eq_true rfl) rfl ?_
  intro p e s m below meth c C
  have hF0 := hF.1
  refine ux_aload_n C dX7_abort_0 0 rfl ?_
  refine ux_get C flX7_abort_10 7 rfl rfl rfl dX7_abort_1 ?_
  refine ux_iload_n C dX7_abort_4 1 rfl ?_
  refine ux_callI C gkX7_abort_93 (c_X0_isActive l D ad cA A σ t hF.1) rfl ⟨rfl, rfl⟩ ⟨(Nat.le_of_ble_eq_true rfl), (Nat.le_of_ble_eq_true rfl)⟩ ⟨Nat.le_refl _, Nat.le_refl _⟩ 0 rfl rfl rfl rfl (Nat.le_of_ble_eq_true rfl) dX7_abort_5 (fun r σ1 hr => ?_)
  obtain ⟨rfl, rfl⟩ := hr
  refine ux_if_ne C 13 dX7_abort_8 (by decide) (fun h => ?_) (fun h => ?_)
  · have ha : u_act σ t = true := (pq_bn0 _).mp h
    obtain ⟨k, k1, k2, rfl, k3⟩ := (u_act_iff hF).mp ha
    have hcl := nI_clamp (Nat.lt_of_le_of_lt (Nat.le_trans k2 hF.1) (show 150 < 2 ^ 31 by decide))
    have hu : u_abort σ (nI k) = (nI (u_ab σ k (σ.2.1 0 - k)).1, (u_ab σ k (σ.2.1 0 - k)).2) := by rw [u_abort, if_pos ha, hcl]
    have loop : ∀ (q j : Nat), σ.2.1 0 - k + 1 ≤ j + q → j ≤ σ.2.1 0 - k → ux_V p l e (ux_rm 4) s m ([.ref (ad 7), .int (nI k)] : List Value).toArray below meth c (MQ below (va_Qi (fun r σ' => r = (u_abort σ (nI k)).1 ∧ uEq (u_abort σ (nI k)).2 σ') (fun σ' tt => va_P D vwCl (wU ad cA σ') tt.heap) A) ([.ref (ad 7), .int (nI k)] : List Value).toArray s 0 0 A) 4 D vwCl (wU ad cA) A 0 0 (u_ab σ k j).2 25 [(3, .int (nI (k + 1 + j))), (2, .int (nI (u_ab σ k j).1)), (0, .ref (ad 7)), (1, .int (nI k))] [] := by
      intro q
      induction q with
      | zero => intro j h1 h2; omega
      | succ q ih =>
        intro j h1 h2
        have hc := u_ab_c σ k j
        refine ux_iload_n C dX7_abort_25 0 rfl ?_
        refine ux_aload_n C dX7_abort_26 2 rfl ?_
        refine ux_get C flX7_abort_10 7 rfl rfl rfl dX7_abort_27 ?_
        refine ux_callI C gkX7_abort_133 (c_X0_opened l D ad cA A (u_ab σ k j).2) rfl ⟨rfl, rfl⟩ ⟨(Nat.le_of_ble_eq_true rfl), (Nat.le_of_ble_eq_true rfl)⟩ ⟨Nat.le_refl _, Nat.le_refl _⟩ 0 rfl rfl rfl rfl (Nat.le_of_ble_eq_true rfl) dX7_abort_30 (fun r σ1 hr => ?_)
        obtain ⟨rfl, rfl⟩ := hr
        rw [hc]
        refine ux_icmp_gt C 62 dX7_abort_33 (by decide) (fun h4 => ?_) (fun h4 => ?_)
        · have h4 := (nI_ltI (by omega) (by omega)).mp h4
          have e : j = σ.2.1 0 - k := by omega
          subst e
          refine ux_iload_n C dX7_abort_62 1 rfl ?_
          exact ux_iret C dX7_abort_63 (by rw [hu]; exact ⟨rfl, uEq.refl _⟩)
        · have h4 := mt (nI_ltI (by omega) (by omega)).mpr h4
          have hih := ih (j + 1) (by omega) (by omega)
          simp only [u_ab] at hih
          refine ux_aload_n C dX7_abort_36 2 rfl ?_
          refine ux_get C flX7_abort_10 7 rfl rfl rfl dX7_abort_37 ?_
          refine ux_iload_n C dX7_abort_40 0 rfl ?_
          refine ux_callI C gkX7_abort_136 (c_X0_isLeftBehind l D ad cA A (u_ab σ k j).2 (k + 1 + j) (by omega) (by rw [hc]; exact hF0)) rfl ⟨rfl, rfl⟩ ⟨(Nat.le_of_ble_eq_true rfl), (Nat.le_of_ble_eq_true rfl)⟩ ⟨Nat.le_refl _, Nat.le_refl _⟩ 0 rfl rfl rfl rfl (Nat.le_of_ble_eq_true rfl) dX7_abort_41 (fun r σ1 hr => ?_)
          obtain ⟨rfl, rfl⟩ := hr
          refine ux_if_eq C 56 dX7_abort_44 (by decide) (fun h5 => ?_) (fun h5 => ?_)
          · have h5 : u_left (u_ab σ k j).2 (k + 1 + j) = false := (pq_b0 _).mp h5
            rw [if_neg (by rw [h5]; decide)] at hih
            refine ux_iinc C (nI (k + 1 + j + 1)) [(3, _), (2, _), (0, _), (1, _)] dX7_abort_56 0 rfl (pq_inc _) (by decide) rfl ?_
            refine ux_goto C 25 dX7_abort_59 (by decide) ?_
            exact hih
          · have h5 : u_left (u_ab σ k j).2 (k + 1 + j) = true := (pq_bn0 _).mp h5
            rw [if_pos h5] at hih
            refine ux_aload_n C dX7_abort_47 2 rfl ?_
            refine ux_iload_n C dX7_abort_48 0 rfl ?_
            refine ux_iconst C ((2 : Int32)) dX7_abort_49 (by decide) ?_
            refine ux_callN C gkX7_abort_130 (c_X7_end l D ad cA A (u_ab σ k j).2 (k + 1 + j) 2 (by omega) (by rw [hc]; exact hw) (by rw [hc]; exact hh) (by rw [hc]; exact hm)) rfl ⟨rfl, rfl⟩ ⟨(Nat.le_of_ble_eq_true rfl), (Nat.le_of_ble_eq_true rfl)⟩ ⟨Nat.le_refl _, Nat.le_refl _⟩ 7 rfl rfl rfl rfl (Nat.le_of_ble_eq_true rfl) dX7_abort_50 (fun σ1 hr => ?_)
            subst hr
            refine ux_iinc C (nI (_ + 1)) [(2, _), (3, _), (0, _), (1, _)] dX7_abort_53 1 rfl (pq_inc _) (by decide) rfl ?_
            refine ux_iinc C (nI (k + 1 + j + 1)) [(3, _), (2, _), (0, _), (1, _)] dX7_abort_56 1 rfl (pq_inc _) (by decide) rfl ?_
            refine ux_goto C 25 dX7_abort_59 (by decide) ?_
            exact hih
    refine ux_aload_n C dX7_abort_13 0 rfl ?_
    refine ux_iload_n C dX7_abort_14 1 rfl ?_
    refine ux_iconst C ((2 : Int32)) dX7_abort_15 (by decide) ?_
    refine ux_callN C gkX7_abort_130 (c_X7_end l D ad cA A σ k 2 (by omega) hw hh hm) rfl ⟨rfl, rfl⟩ ⟨(Nat.le_of_ble_eq_true rfl), (Nat.le_of_ble_eq_true rfl)⟩ ⟨Nat.le_refl _, Nat.le_refl _⟩ 7 rfl rfl rfl rfl (Nat.le_of_ble_eq_true rfl) dX7_abort_16 (fun σ1 hr => ?_)
    subst hr
    refine ux_iconst C (nI 1) dX7_abort_19 (by decide) ?_
    refine ux_istore_n C [(2, _), (0, _), (1, _)] dX7_abort_20 rfl (by decide) rfl ?_
    refine ux_iload_n C dX7_abort_21 2 rfl ?_
    refine ux_iconst C (nI 1) dX7_abort_22 (by decide) ?_
    refine ux_iadd C dX7_abort_23 ?_
    refine ux_top (nI (k + 1)) (nI_add _ _) ?_
    refine ux_istore_n C [(3, _), (2, _), (0, _), (1, _)] dX7_abort_24 rfl (by decide) rfl ?_
    exact loop (σ.2.1 0 - k + 1) 0 (by omega) (by omega)
  · have h : u_act σ t = false := (pq_b0 _).mp h
    have hu : u_abort σ t = (-1, σ) := if_neg (by rw [h]; decide)
    refine ux_iconst C ((-1 : Int32)) dX7_abort_11 (by decide) ?_
    exact ux_iret C dX7_abort_12 (by rw [hu]; exact ⟨rfl, uEq.refl σ⟩)
set_option maxHeartbeats 4000000 in
set_option maxRecDepth 100000 in
theorem c_X7_size (l : Launch) (D : va_G) (ad : Nat → Nat) (cA : Nat → ClassId) (A : Nat → Prop) (σ : ST) (t : Int32) (hF : uF σ) (hW : uW σ) (hk : σ.2.1 1 ≤ 512) : ux_I l D vwCl (tyU cA) (wU ad cA) A yX7_size wsX7_size (ux_rm 3) [.ref (ad 7), .int t] σ (fun r σ' => r = u_size σ t ∧ uEq σ σ') := by
  refine ux_ofI (cc := cX7_size) (maxL := 4) (ret := (some .int)) (Ts := wsX7_size) (lv := [(0, .ref (ad 7)), (1, .int t)]) (by decide) rfl (fun _ h => h) (Nat.le_of_ble_eq_true rfl) rfl ?_
  intro p e s m below meth c C
  have hF0 := hF.1
  refine ux_aload_n C dX7_size_0 0 rfl ?_
  refine ux_get C flX7_size_10 7 rfl rfl rfl dX7_size_1 ?_
  refine ux_iload_n C dX7_size_4 1 rfl ?_
  refine ux_callI C gkX7_size_58 (c_X0_canBeAsked l D ad cA A σ t hF.1) rfl ⟨rfl, rfl⟩ ⟨(Nat.le_of_ble_eq_true rfl), (Nat.le_of_ble_eq_true rfl)⟩ ⟨Nat.le_refl _, Nat.le_refl _⟩ 0 rfl rfl rfl rfl (Nat.le_of_ble_eq_true rfl) dX7_size_5 (fun r σ1 hr => ?_)
  obtain ⟨rfl, rfl⟩ := hr
  refine ux_if_ne C 13 dX7_size_8 (by decide) (fun h => ?_) (fun h => ?_)
  · have h : (decide (t = 0) || u_act σ t) = true := (pq_bn0 _).mp h
    obtain ⟨k, k2, rfl, k3⟩ := (u_asked_iff hF).mp h
    have hcl := nI_clamp (Nat.lt_of_le_of_lt (Nat.le_trans k2 hF.1) (show 150 < 2 ^ 31 by decide))
    have hu : u_size σ (nI k) = nI (pq_cnt (fun s => u_has σ (u_row σ k s)) (σ.2.1 1)) := by rw [u_size, if_pos h, hcl]
    refine ux_aload_n C dX7_size_13 0 rfl ?_
    refine ux_iload_n C dX7_size_14 1 rfl ?_
    refine ux_callN C gkX7_size_181 (c_X7_look l D ad cA A σ k hF hW k2) rfl ⟨rfl, rfl⟩ ⟨(Nat.le_of_ble_eq_true rfl), (Nat.le_of_ble_eq_true rfl)⟩ ⟨Nat.le_refl _, Nat.le_refl _⟩ 7 rfl rfl rfl rfl (Nat.le_of_ble_eq_true rfl) dX7_size_15 (fun σ1 hr => ?_)
    obtain ⟨f, g, rfl, hg⟩ := hr
    have loop : ∀ (q i : Nat), σ.2.1 1 + 1 ≤ i + q → i ≤ σ.2.1 1 → ux_V p l e (ux_rm 3) s m ([.ref (ad 7), .int (nI k)] : List Value).toArray below meth c (MQ below (va_Qi (fun r σ' => r = u_size σ (nI k) ∧ uEq σ σ') (fun σ' tt => va_P D vwCl (wU ad cA σ') tt.heap) A) ([.ref (ad 7), .int (nI k)] : List Value).toArray s 0 0 A) 4 D vwCl (wU ad cA) A 0 0 (sa (sa σ 2 f) 9 g) 22 [(3, .int (nI i)), (2, .int (nI (pq_cnt (fun s => u_has σ (u_row σ k s)) i))), (0, .ref (ad 7)), (1, .int (nI k))] [] := by
      intro q
      induction q with
      | zero => intro i h1 h2; omega
      | succ q ih =>
        intro i h1 h2
        refine ux_iload_n C dX7_size_22 0 rfl ?_
        refine ux_aload_n C dX7_size_23 2 rfl ?_
        refine ux_get C flX7_size_19 7 rfl rfl rfl dX7_size_24 ?_
        refine ux_callI C gkX7_size_184 (c_X2_count l D ad cA A (sa (sa σ 2 f) 9 g)) rfl ⟨rfl, rfl⟩ ⟨(Nat.le_of_ble_eq_true rfl), (Nat.le_of_ble_eq_true rfl)⟩ ⟨Nat.le_refl _, Nat.le_refl _⟩ 2 rfl rfl rfl rfl (Nat.le_of_ble_eq_true rfl) dX7_size_27 (fun r σ1 hr => ?_)
        obtain ⟨rfl, rfl⟩ := hr
        refine ux_icmp_ge C 53 dX7_size_30 (by decide) (fun hc => ?_) (fun hc => ?_)
        · have hc : nI (σ.2.1 1) ≤ nI i := hc
          have hc := (nI_leI (by omega) (by omega)).mp hc
          have e : i = σ.2.1 1 := by omega
          subst e
          refine ux_iload_n C dX7_size_53 1 rfl ?_
          exact ux_iret C dX7_size_54 (⟨hu.symm, ((uEq.refl σ).sa2 f).sa9 g⟩)
        · have hc : ¬ nI (σ.2.1 1) ≤ nI i := hc
          have hc := mt (nI_leI (by omega) (by omega)).mpr hc
          have hih := ih (i + 1) (by omega) (by omega)
          refine ux_aload_n C dX7_size_33 2 rfl ?_
          refine ux_get C flX7_size_26 7 rfl rfl rfl dX7_size_34 ?_
          refine ux_iload_n C dX7_size_37 0 rfl ?_
          refine ux_callI C gkX7_size_187 (c_X6_hasFound l D ad cA A (sa (sa σ 2 f) 9 g) i (u_row σ k i) (by omega) (hg i (by omega)) (fun r hr => Nat.lt_of_lt_of_le (u_row_lt hr) hW.1)) rfl ⟨rfl, rfl⟩ ⟨(Nat.le_of_ble_eq_true rfl), (Nat.le_of_ble_eq_true rfl)⟩ ⟨Nat.le_refl _, Nat.le_refl _⟩ 6 rfl rfl rfl rfl (Nat.le_of_ble_eq_true rfl) dX7_size_38 (fun r σ1 hr => ?_)
          obtain ⟨rfl, rfl⟩ := hr
          refine ux_if_eq C 47 dX7_size_41 (by decide) (fun h5 => ?_) (fun h5 => ?_)
          · have h5 : u_has σ (u_row σ k i) = false := u_has_sc.symm.trans ((pq_b0 _).mp h5)
            rw [pq_cnt_f (n := i) h5] at hih
            refine ux_iinc C (nI (i + 1)) [(3, _), (2, _), (0, _), (1, _)] dX7_size_47 0 rfl (pq_inc i) (by decide) rfl ?_
            refine ux_goto C 22 dX7_size_50 (by decide) ?_
            exact hih
          · have h5 : u_has σ (u_row σ k i) = true := u_has_sc.symm.trans ((pq_bn0 _).mp h5)
            rw [pq_cnt_t (n := i) h5] at hih
            refine ux_iinc C (nI (_ + 1)) [(2, _), (3, _), (0, _), (1, _)] dX7_size_44 1 rfl (pq_inc _) (by decide) rfl ?_
            refine ux_iinc C (nI (i + 1)) [(3, _), (2, _), (0, _), (1, _)] dX7_size_47 1 rfl (pq_inc i) (by decide) rfl ?_
            refine ux_goto C 22 dX7_size_50 (by decide) ?_
            exact hih
    refine ux_iconst C (nI 0) dX7_size_18 (by decide) ?_
    refine ux_istore_n C [(2, _), (0, _), (1, _)] dX7_size_19 rfl (by decide) rfl ?_
    refine ux_iconst C (nI 0) dX7_size_20 (by decide) ?_
    refine ux_istore_n C [(3, _), (2, _), (0, _), (1, _)] dX7_size_21 rfl (by decide) rfl ?_
    exact loop (σ.2.1 1 + 1) 0 (by omega) (by omega)
  · have h : (decide (t = 0) || u_act σ t) = false := (pq_b0 _).mp h
    refine ux_iconst C ((-1 : Int32)) dX7_size_11 (by decide) ?_
    exact ux_iret C dX7_size_12 (⟨(if_neg (by rw [h]; decide)).symm, uEq.refl σ⟩)
set_option maxHeartbeats 4000000 in
set_option maxRecDepth 100000 in
theorem c_X7_next (l : Launch) (D : va_G) (ad : Nat → Nat) (cA : Nat → ClassId) (A : Nat → Prop) (σ : ST) (t key : Int32) (hF : uF σ) (hW : uW σ) (hk : σ.2.1 1 ≤ 512) : ux_L l D vwCl (tyU cA) (wU ad cA) A yX7_next wsX7_next (ux_rm 3) [.ref (ad 7), .int t, .int key] σ (fun r σ' => r = u_next σ t key ∧ uEq σ σ') := by
  refine ux_ofL (cc := cX7_next) (maxL := 6) (ret := (some .long)) (Ts := wsX7_next) (lv := [(0, .ref (ad 7)), (1, .int t), (2, .int key)]) (by decide) rfl (fun _ h => h) (Nat.le_of_ble_eq_true rfl) rfl ?_
  intro p e s m below meth c C
  have hF0 := hF.1
  refine ux_aload_n C dX7_next_0 0 rfl ?_
  refine ux_get C flX7_next_10 7 rfl rfl rfl dX7_next_1 ?_
  refine ux_iload_n C dX7_next_4 1 rfl ?_
  refine ux_callI C gkX7_next_58 (c_X0_canBeAsked l D ad cA A σ t hF.1) rfl ⟨rfl, rfl⟩ ⟨(Nat.le_of_ble_eq_true rfl), (Nat.le_of_ble_eq_true rfl)⟩ ⟨Nat.le_refl _, Nat.le_refl _⟩ 0 rfl rfl rfl rfl (Nat.le_of_ble_eq_true rfl) dX7_next_5 (fun r σ1 hr => ?_)
  obtain ⟨rfl, rfl⟩ := hr
  refine ux_if_ne C 15 dX7_next_8 (by decide) (fun h => ?_) (fun h => ?_)
  · have h : (decide (t = 0) || u_act σ t) = true := (pq_bn0 _).mp h
    obtain ⟨k, k2, rfl, k3⟩ := (u_asked_iff hF).mp h
    have hcl := nI_clamp (Nat.lt_of_le_of_lt (Nat.le_trans k2 hF.1) (show 150 < 2 ^ 31 by decide))
    have hu : u_next σ (nI k) key = u_nx σ k key (σ.2.1 1) := by rw [u_next, if_pos h, hcl]
    refine ux_aload_n C dX7_next_15 0 rfl ?_
    refine ux_iload_n C dX7_next_16 1 rfl ?_
    refine ux_callN C gkX7_next_181 (c_X7_look l D ad cA A σ k hF hW k2) rfl ⟨rfl, rfl⟩ ⟨(Nat.le_of_ble_eq_true rfl), (Nat.le_of_ble_eq_true rfl)⟩ ⟨Nat.le_refl _, Nat.le_refl _⟩ 7 rfl rfl rfl rfl (Nat.le_of_ble_eq_true rfl) dX7_next_17 (fun σ1 hr => ?_)
    obtain ⟨f, g, rfl, hg⟩ := hr
    have loop : ∀ (q i : Nat), σ.2.1 1 + 1 ≤ i + q → i ≤ σ.2.1 1 → ux_V p l e (ux_rm 3) s m ([.ref (ad 7), .int (nI k), .int key] : List Value).toArray below meth c (MQ below (va_Ql (fun r σ' => r = u_next σ (nI k) key ∧ uEq σ σ') (fun σ' tt => va_P D vwCl (wU ad cA σ') tt.heap) A) ([.ref (ad 7), .int (nI k), .int key] : List Value).toArray s 0 0 A) 6 D vwCl (wU ad cA) A 0 0 (sa (sa σ 2 f) 9 g) 27 [(5, .int (nI i)), (3, .long (u_nx σ k key i)), (0, .ref (ad 7)), (1, .int (nI k)), (2, .int key)] [] := by
      intro q
      induction q with
      | zero => intro i h1 h2; omega
      | succ q ih =>
        intro i h1 h2
        refine ux_iload C dX7_next_27 0 rfl ?_
        refine ux_aload_n C dX7_next_29 2 rfl ?_
        refine ux_get C flX7_next_19 7 rfl rfl rfl dX7_next_30 ?_
        refine ux_callI C gkX7_next_184 (c_X2_count l D ad cA A (sa (sa σ 2 f) 9 g)) rfl ⟨rfl, rfl⟩ ⟨(Nat.le_of_ble_eq_true rfl), (Nat.le_of_ble_eq_true rfl)⟩ ⟨Nat.le_refl _, Nat.le_refl _⟩ 2 rfl rfl rfl rfl (Nat.le_of_ble_eq_true rfl) dX7_next_33 (fun r σ1 hr => ?_)
        obtain ⟨rfl, rfl⟩ := hr
        refine ux_icmp_ge C 85 dX7_next_36 (by decide) (fun hc => ?_) (fun hc => ?_)
        · have hc : nI (σ.2.1 1) ≤ nI i := hc
          have hc := (nI_leI (by omega) (by omega)).mp hc
          have e : i = σ.2.1 1 := by omega
          subst e
          refine ux_lload_n C dX7_next_85 1 rfl ?_
          exact ux_lret C dX7_next_86 (⟨hu.symm, ((uEq.refl σ).sa2 f).sa9 g⟩)
        · have hc : ¬ nI (σ.2.1 1) ≤ nI i := hc
          have hc := mt (nI_leI (by omega) (by omega)).mpr hc
          have hih := ih (i + 1) (by omega) (by omega)
          simp only [u_nx] at hih
          refine ux_aload_n C dX7_next_39 2 rfl ?_
          refine ux_get C flX7_next_19 7 rfl rfl rfl dX7_next_40 ?_
          refine ux_iload C dX7_next_43 0 rfl ?_
          refine ux_callI C gkX7_next_192 (c_X2_at l D ad cA A (sa (sa σ 2 f) 9 g) i (by omega)) rfl ⟨rfl, rfl⟩ ⟨(Nat.le_of_ble_eq_true rfl), (Nat.le_of_ble_eq_true rfl)⟩ ⟨Nat.le_refl _, Nat.le_refl _⟩ 2 rfl rfl rfl rfl (Nat.le_of_ble_eq_true rfl) dX7_next_45 (fun r σ1 hr => ?_)
          obtain ⟨rfl, rfl⟩ := hr
          refine ux_iload_n C dX7_next_48 4 rfl ?_
          refine ux_icmp_le C 79 dX7_next_49 (by decide) (fun h4 => ?_) (fun h4 => ?_)
          · have h4 : σ.1 3 i ≤ key := h4
            rw [if_neg (by simp [Int32.not_lt.mpr h4])] at hih
            refine ux_iinc C (nI (i + 1)) [(5, _), (3, _), (0, _), (1, _), (2, _)] dX7_next_79 0 rfl (pq_inc i) (by decide) rfl ?_
            refine ux_goto C 27 dX7_next_82 (by decide) ?_
            exact hih
          · have h4 : ¬ σ.1 3 i ≤ key := h4
            refine ux_aload_n C dX7_next_52 2 rfl ?_
            refine ux_get C flX7_next_26 7 rfl rfl rfl dX7_next_53 ?_
            refine ux_iload C dX7_next_56 0 rfl ?_
            refine ux_callI C gkX7_next_187 (c_X6_hasFound l D ad cA A (sa (sa σ 2 f) 9 g) i (u_row σ k i) (by omega) (hg i (by omega)) (fun r hr => Nat.lt_of_lt_of_le (u_row_lt hr) hW.1)) rfl ⟨rfl, rfl⟩ ⟨(Nat.le_of_ble_eq_true rfl), (Nat.le_of_ble_eq_true rfl)⟩ ⟨Nat.le_refl _, Nat.le_refl _⟩ 6 rfl rfl rfl rfl (Nat.le_of_ble_eq_true rfl) dX7_next_58 (fun r σ1 hr => ?_)
            obtain ⟨rfl, rfl⟩ := hr
            refine ux_if_eq C 79 dX7_next_61 (by decide) (fun h5 => ?_) (fun h5 => ?_)
            · have h5 : u_has σ (u_row σ k i) = false := u_has_sc.symm.trans ((pq_b0 _).mp h5)
              rw [if_neg (by simp [h5])] at hih
              refine ux_iinc C (nI (i + 1)) [(5, _), (3, _), (0, _), (1, _), (2, _)] dX7_next_79 0 rfl (pq_inc i) (by decide) rfl ?_
              refine ux_goto C 27 dX7_next_82 (by decide) ?_
              exact hih
            · have h5 : u_has σ (u_row σ k i) = true := u_has_sc.symm.trans ((pq_bn0 _).mp h5)
              rw [if_pos (by simp [h5, Int32.not_le.mp h4])] at hih
              refine ux_lload_n C dX7_next_64 1 rfl ?_
              refine ux_aload_n C dX7_next_65 2 rfl ?_
              refine ux_get C flX7_next_19 7 rfl rfl rfl dX7_next_66 ?_
              refine ux_iload C dX7_next_69 0 rfl ?_
              refine ux_callI C gkX7_next_192 (c_X2_at l D ad cA A (sa (sa σ 2 f) 9 g) i (by omega)) rfl ⟨rfl, rfl⟩ ⟨(Nat.le_of_ble_eq_true rfl), (Nat.le_of_ble_eq_true rfl)⟩ ⟨Nat.le_refl _, Nat.le_refl _⟩ 2 rfl rfl rfl rfl (Nat.le_of_ble_eq_true rfl) dX7_next_71 (fun r σ1 hr => ?_)
              obtain ⟨rfl, rfl⟩ := hr
              refine ux_i2l C dX7_next_74 ?_
              refine ux_mminl C (by decide +kernel) (by decide +kernel) (by decide +kernel) (List.mem_of_getElem? (i := 9) rfl) (Nat.le_of_ble_eq_true rfl) (Nat.le_of_ble_eq_true rfl) ⟨Nat.le_refl _, Nat.le_refl _⟩ dX7_next_75 ?_
              refine ux_lstore_n C [(3, _), (5, _), (0, _), (1, _), (2, _)] dX7_next_78 rfl (by decide) rfl ?_
              refine ux_iinc C (nI (i + 1)) [(5, _), (3, _), (0, _), (1, _), (2, _)] dX7_next_79 1 rfl (pq_inc i) (by decide) rfl ?_
              refine ux_goto C 27 dX7_next_82 (by decide) ?_
              exact hih
    refine ux_ldc2 C (1099511627776 : Int64) (by decide +kernel) dX7_next_20 ?_
    refine ux_lstore_n C [(3, _), (0, _), (1, _), (2, _)] dX7_next_23 rfl (by decide) rfl ?_
    refine ux_iconst C (nI 0) dX7_next_24 (by decide) ?_
    refine ux_istore C [(5, _), (3, _), (0, _), (1, _), (2, _)] dX7_next_25 (by decide) rfl ?_
    exact loop (σ.2.1 1 + 1) 0 (by omega) (by omega)
  · have h : (decide (t = 0) || u_act σ t) = false := (pq_b0 _).mp h
    refine ux_ldc2 C (4398046511104 : Int64) (by decide +kernel) dX7_next_11 ?_
    exact ux_lret C dX7_next_14 (⟨(if_neg (by rw [h]; decide)).symm, uEq.refl σ⟩)
set_option maxHeartbeats 4000000 in
set_option maxRecDepth 100000 in
theorem c_X7_sum (l : Launch) (D : va_G) (ad : Nat → Nat) (cA : Nat → ClassId) (A : Nat → Prop) (σ : ST) (t lo hi : Int32) (hF : uF σ) (hW : uW σ) (hk : σ.2.1 1 ≤ 512) : ux_L l D vwCl (tyU cA) (wU ad cA) A yX7_sum wsX7_sum (ux_rm 3) [.ref (ad 7), .int t, .int lo, .int hi] σ (fun r σ' => r = u_sum σ t lo hi ∧ uEq σ σ') := by
  refine ux_ofL (cc := cX7_sum) (maxL := 8) (ret := (some .long)) (Ts := wsX7_sum) (lv := [(0, .ref (ad 7)), (1, .int t), (2, .int lo), (3, .int hi)]) (by decide) rfl (fun _ h => h) (Nat.le_of_ble_eq_true rfl) rfl ?_
  intro p e s m below meth c C
  have hF0 := hF.1
  refine ux_aload_n C dX7_sum_0 0 rfl ?_
  refine ux_get C flX7_sum_10 7 rfl rfl rfl dX7_sum_1 ?_
  refine ux_iload_n C dX7_sum_4 1 rfl ?_
  refine ux_callI C gkX7_sum_58 (c_X0_canBeAsked l D ad cA A σ t hF.1) rfl ⟨rfl, rfl⟩ ⟨(Nat.le_of_ble_eq_true rfl), (Nat.le_of_ble_eq_true rfl)⟩ ⟨Nat.le_refl _, Nat.le_refl _⟩ 0 rfl rfl rfl rfl (Nat.le_of_ble_eq_true rfl) dX7_sum_5 (fun r σ1 hr => ?_)
  obtain ⟨rfl, rfl⟩ := hr
  refine ux_if_ne C 15 dX7_sum_8 (by decide) (fun h => ?_) (fun h => ?_)
  · have h : (decide (t = 0) || u_act σ t) = true := (pq_bn0 _).mp h
    obtain ⟨k, k2, rfl, k3⟩ := (u_asked_iff hF).mp h
    have hcl := nI_clamp (Nat.lt_of_le_of_lt (Nat.le_trans k2 hF.1) (show 150 < 2 ^ 31 by decide))
    have hu : u_sum σ (nI k) lo hi = u_sm σ k lo hi (σ.2.1 1) := by rw [u_sum, if_pos h, hcl]
    refine ux_aload_n C dX7_sum_15 0 rfl ?_
    refine ux_iload_n C dX7_sum_16 1 rfl ?_
    refine ux_callN C gkX7_sum_181 (c_X7_look l D ad cA A σ k hF hW k2) rfl ⟨rfl, rfl⟩ ⟨(Nat.le_of_ble_eq_true rfl), (Nat.le_of_ble_eq_true rfl)⟩ ⟨Nat.le_refl _, Nat.le_refl _⟩ 7 rfl rfl rfl rfl (Nat.le_of_ble_eq_true rfl) dX7_sum_17 (fun σ1 hr => ?_)
    obtain ⟨f, g, rfl, hg⟩ := hr
    have loop : ∀ (q i : Nat), σ.2.1 1 + 1 ≤ i + q → i ≤ σ.2.1 1 → ux_V p l e (ux_rm 3) s m ([.ref (ad 7), .int (nI k), .int lo, .int hi] : List Value).toArray below meth c (MQ below (va_Ql (fun r σ' => r = u_sum σ (nI k) lo hi ∧ uEq σ σ') (fun σ' tt => va_P D vwCl (wU ad cA σ') tt.heap) A) ([.ref (ad 7), .int (nI k), .int lo, .int hi] : List Value).toArray s 0 0 A) 8 D vwCl (wU ad cA) A 0 0 (sa (sa σ 2 f) 9 g) 26 [(6, .int (nI i)), (4, .long (u_sm σ k lo hi i)), (0, .ref (ad 7)), (1, .int (nI k)), (2, .int lo), (3, .int hi)] [] := by
      intro q
      induction q with
      | zero => intro i h1 h2; omega
      | succ q ih =>
        intro i h1 h2
        refine ux_iload C dX7_sum_26 0 rfl ?_
        refine ux_aload_n C dX7_sum_28 2 rfl ?_
        refine ux_get C flX7_sum_19 7 rfl rfl rfl dX7_sum_29 ?_
        refine ux_callI C gkX7_sum_184 (c_X2_count l D ad cA A (sa (sa σ 2 f) 9 g)) rfl ⟨rfl, rfl⟩ ⟨(Nat.le_of_ble_eq_true rfl), (Nat.le_of_ble_eq_true rfl)⟩ ⟨Nat.le_refl _, Nat.le_refl _⟩ 2 rfl rfl rfl rfl (Nat.le_of_ble_eq_true rfl) dX7_sum_32 (fun r σ1 hr => ?_)
        obtain ⟨rfl, rfl⟩ := hr
        refine ux_icmp_ge C 93 dX7_sum_35 (by decide) (fun hc => ?_) (fun hc => ?_)
        · have hc : nI (σ.2.1 1) ≤ nI i := hc
          have hc := (nI_leI (by omega) (by omega)).mp hc
          have e : i = σ.2.1 1 := by omega
          subst e
          refine ux_lload C dX7_sum_93 1 rfl ?_
          exact ux_lret C dX7_sum_95 (⟨hu.symm, ((uEq.refl σ).sa2 f).sa9 g⟩)
        · have hc : ¬ nI (σ.2.1 1) ≤ nI i := hc
          have hc := mt (nI_leI (by omega) (by omega)).mpr hc
          have hih := ih (i + 1) (by omega) (by omega)
          simp only [u_sm] at hih
          refine ux_aload_n C dX7_sum_38 2 rfl ?_
          refine ux_get C flX7_sum_19 7 rfl rfl rfl dX7_sum_39 ?_
          refine ux_iload C dX7_sum_42 0 rfl ?_
          refine ux_callI C gkX7_sum_192 (c_X2_at l D ad cA A (sa (sa σ 2 f) 9 g) i (by omega)) rfl ⟨rfl, rfl⟩ ⟨(Nat.le_of_ble_eq_true rfl), (Nat.le_of_ble_eq_true rfl)⟩ ⟨Nat.le_refl _, Nat.le_refl _⟩ 2 rfl rfl rfl rfl (Nat.le_of_ble_eq_true rfl) dX7_sum_44 (fun r σ1 hr => ?_)
          obtain ⟨rfl, rfl⟩ := hr
          refine ux_istore C [(7, _), (6, _), (4, _), (0, _), (1, _), (2, _), (3, _)] dX7_sum_47 (by decide) rfl ?_
          refine ux_iload C dX7_sum_49 0 rfl ?_
          refine ux_iload_n C dX7_sum_51 5 rfl ?_
          refine ux_icmp_lt C 87 dX7_sum_52 (by decide) (fun h3 => ?_) (fun h3 => ?_)
          · have h3 : σ.1 3 i < lo := h3
            rw [if_neg (by simp [h3])] at hih
            refine ux_iinc C (nI (i + 1)) [(6, _), (7, _), (4, _), (0, _), (1, _), (2, _), (3, _)] dX7_sum_87 1 rfl (pq_inc i) (by decide) rfl ?_
            refine ux_goto C 26 dX7_sum_90 (by decide) ?_
            refine ux_sub [(6, _), (4, _), (0, _), (1, _), (2, _), (3, _)] [0, 2, 3, 4, 5, 6] rfl ?_
            exact hih
          · have h3 : ¬ σ.1 3 i < lo := h3
            refine ux_iload C dX7_sum_55 0 rfl ?_
            refine ux_iload_n C dX7_sum_57 6 rfl ?_
            refine ux_icmp_gt C 87 dX7_sum_58 (by decide) (fun h4 => ?_) (fun h4 => ?_)
            · have h4 : hi < σ.1 3 i := h4
              rw [if_neg (by simp [h4])] at hih
              refine ux_iinc C (nI (i + 1)) [(6, _), (7, _), (4, _), (0, _), (1, _), (2, _), (3, _)] dX7_sum_87 1 rfl (pq_inc i) (by decide) rfl ?_
              refine ux_goto C 26 dX7_sum_90 (by decide) ?_
              refine ux_sub [(6, _), (4, _), (0, _), (1, _), (2, _), (3, _)] [0, 2, 3, 4, 5, 6] rfl ?_
              exact hih
            · have h4 : ¬ hi < σ.1 3 i := h4
              refine ux_aload_n C dX7_sum_61 3 rfl ?_
              refine ux_get C flX7_sum_26 7 rfl rfl rfl dX7_sum_62 ?_
              refine ux_iload C dX7_sum_65 1 rfl ?_
              refine ux_callI C gkX7_sum_187 (c_X6_hasFound l D ad cA A (sa (sa σ 2 f) 9 g) i (u_row σ k i) (by omega) (hg i (by omega)) (fun r hr => Nat.lt_of_lt_of_le (u_row_lt hr) hW.1)) rfl ⟨rfl, rfl⟩ ⟨(Nat.le_of_ble_eq_true rfl), (Nat.le_of_ble_eq_true rfl)⟩ ⟨Nat.le_refl _, Nat.le_refl _⟩ 6 rfl rfl rfl rfl (Nat.le_of_ble_eq_true rfl) dX7_sum_67 (fun r σ1 hr => ?_)
              obtain ⟨rfl, rfl⟩ := hr
              refine ux_if_eq C 87 dX7_sum_70 (by decide) (fun h5 => ?_) (fun h5 => ?_)
              · have h5 : u_has σ (u_row σ k i) = false := u_has_sc.symm.trans ((pq_b0 _).mp h5)
                rw [if_neg (by simp [h5])] at hih
                refine ux_iinc C (nI (i + 1)) [(6, _), (7, _), (4, _), (0, _), (1, _), (2, _), (3, _)] dX7_sum_87 1 rfl (pq_inc i) (by decide) rfl ?_
                refine ux_goto C 26 dX7_sum_90 (by decide) ?_
                refine ux_sub [(6, _), (4, _), (0, _), (1, _), (2, _), (3, _)] [0, 2, 3, 4, 5, 6] rfl ?_
                exact hih
              · have h5 : u_has σ (u_row σ k i) = true := u_has_sc.symm.trans ((pq_bn0 _).mp h5)
                rw [if_pos (by simp [h5, h3, h4])] at hih
                refine ux_lload C dX7_sum_73 2 rfl ?_
                refine ux_aload_n C dX7_sum_75 3 rfl ?_
                refine ux_get C flX7_sum_26 7 rfl rfl rfl dX7_sum_76 ?_
                refine ux_iload C dX7_sum_79 1 rfl ?_
                refine ux_callL C gkX7_sum_201 (c_X6_valueFound l D ad cA A (sa (sa σ 2 f) 9 g) i (u_row σ k i) (by omega) (hg i (by omega)) (fun r hr => Nat.lt_of_lt_of_le (u_row_lt hr) hW.1)) rfl ⟨rfl, rfl⟩ ⟨(Nat.le_of_ble_eq_true rfl), (Nat.le_of_ble_eq_true rfl)⟩ ⟨Nat.le_refl _, Nat.le_refl _⟩ 6 rfl rfl rfl rfl (Nat.le_of_ble_eq_true rfl) dX7_sum_81 (fun r σ1 hr => ?_)
                obtain ⟨rfl, rfl⟩ := hr
                refine ux_ladd C dX7_sum_84 ?_
                refine ux_topl _ (congrArg (fun z => u_sm σ k lo hi i + z) (u_fv_sc h5)) ?_
                refine ux_lstore C [(4, _), (7, _), (6, _), (0, _), (1, _), (2, _), (3, _)] dX7_sum_85 (by decide) rfl ?_
                refine ux_iinc C (nI (i + 1)) [(6, _), (4, _), (7, _), (0, _), (1, _), (2, _), (3, _)] dX7_sum_87 2 rfl (pq_inc i) (by decide) rfl ?_
                refine ux_goto C 26 dX7_sum_90 (by decide) ?_
                refine ux_sub [(6, _), (4, _), (0, _), (1, _), (2, _), (3, _)] [0, 1, 3, 4, 5, 6] rfl ?_
                exact hih
    refine ux_lconst C ((0 : Int64)) dX7_sum_20 (by decide) ?_
    refine ux_lstore C [(4, _), (0, _), (1, _), (2, _), (3, _)] dX7_sum_21 (by decide) rfl ?_
    refine ux_iconst C (nI 0) dX7_sum_23 (by decide) ?_
    refine ux_istore C [(6, _), (4, _), (0, _), (1, _), (2, _), (3, _)] dX7_sum_24 (by decide) rfl ?_
    exact loop (σ.2.1 1 + 1) 0 (by omega) (by omega)
  · have h : (decide (t = 0) || u_act σ t) = false := (pq_b0 _).mp h
    refine ux_ldc2 C (4398046511104 : Int64) (by decide +kernel) dX7_sum_11 ?_
    exact ux_lret C dX7_sum_14 (⟨(if_neg (by rw [h]; decide)).symm, uEq.refl σ⟩)

