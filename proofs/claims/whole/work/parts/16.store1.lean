theorem hiX7_leastInTheWay_7 : ∀ w ∈ wsX70, w ∈ wsX7_leastInTheWay := by decide +kernel
theorem flX7_leastInTheWay_10 : ux_F wsX7_leastInTheWay RX7 10 RX7 TX7 7 0 := ⟨hiX7_leastInTheWay_7, by decide, by decide +kernel⟩
theorem flX7_leastInTheWay_33 : ux_F wsX7_leastInTheWay RX7 33 RX7 TX7 7 3 := ⟨hiX7_leastInTheWay_7, by decide, by decide +kernel⟩
theorem hiX7_look_7 : ∀ w ∈ wsX70, w ∈ wsX7_look := by decide +kernel
theorem flX7_look_10 : ux_F wsX7_look RX7 10 RX7 TX7 7 0 := ⟨hiX7_look_7, by decide, by decide +kernel⟩
theorem flX7_look_26 : ux_F wsX7_look RX7 26 RX7 TX7 7 2 := ⟨hiX7_look_7, by decide, by decide +kernel⟩
theorem hiX7_valueSeen_7 : ∀ w ∈ wsX70, w ∈ wsX7_valueSeen := by decide +kernel
theorem flX7_valueSeen_19 : ux_F wsX7_valueSeen RX7 19 RX7 TX7 7 1 := ⟨hiX7_valueSeen_7, by decide, by decide +kernel⟩
theorem flX7_valueSeen_26 : ux_F wsX7_valueSeen RX7 26 RX7 TX7 7 2 := ⟨hiX7_valueSeen_7, by decide, by decide +kernel⟩
theorem gkX7_leastInTheWay_215 : ux_G wsX7_leastInTheWay RX7 215 RX0 yX0_trace wsX0_trace 1 := ⟨gX7_leastInTheWay_X0_trace, by decide +kernel⟩
theorem gkX7_leastInTheWay_218 : ux_G wsX7_leastInTheWay RX7 218 RX0 yX0_line wsX0_line 0 := ⟨gX7_leastInTheWay_X0_line, by decide +kernel⟩
theorem gkX7_leastInTheWay_222 : ux_G wsX7_leastInTheWay RX7 222 RX1 yX1_leastInTheWay wsX1_leastInTheWay 3 := ⟨gX7_leastInTheWay_X1_leastInTheWay, by decide +kernel⟩
theorem gkX7_look_215 : ux_G wsX7_look RX7 215 RX0 yX0_trace wsX0_trace 1 := ⟨gX7_look_X0_trace, by decide +kernel⟩
theorem gkX7_look_218 : ux_G wsX7_look RX7 218 RX0 yX0_line wsX0_line 0 := ⟨gX7_look_X0_line, by decide +kernel⟩
theorem gkX7_look_225 : ux_G wsX7_look RX7 225 RX6 yX6_findSeen wsX6_findSeen 1 := ⟨gX7_look_X6_findSeen, by decide +kernel⟩
theorem gkX7_valueSeen_153 : ux_G wsX7_valueSeen RX7 153 RX2 yX2_find wsX2_find 1 := ⟨gX7_valueSeen_X2_find, by decide +kernel⟩
theorem gkX7_valueSeen_181 : ux_G wsX7_valueSeen RX7 181 RX7 yX7_look wsX7_look 1 := ⟨gX7_valueSeen_X7_look, by decide +kernel⟩
theorem gkX7_valueSeen_187 : ux_G wsX7_valueSeen RX7 187 RX6 yX6_hasFound wsX6_hasFound 1 := ⟨gX7_valueSeen_X6_hasFound, by decide +kernel⟩
theorem gkX7_valueSeen_201 : ux_G wsX7_valueSeen RX7 201 RX6 yX6_valueFound wsX6_valueFound 1 := ⟨gX7_valueSeen_X6_valueFound, by decide +kernel⟩
set_option maxHeartbeats 4000000 in
set_option maxRecDepth 100000 in
theorem c_X7_leastInTheWay (l : Launch) (D : va_G) (ad : Nat → Nat) (cA : Nat → ClassId) (A : Nat → Prop) (σ : ST) (t : Nat) (x y : Int32) (hF : uF σ) (hH : uH σ) (ht : t ≤ σ.2.1 0) : ux_I l D vwCl (tyU cA) (wU ad cA) A yX7_leastInTheWay wsX7_leastInTheWay (ux_rm 2) [.ref (ad 7), .int (nI t), .int x, .int y] σ (fun r σ' => ∃ f, σ' = sa σ 2 f ∧ r = u_least σ t x y) := by
  refine ux_ofI (cc := cX7_leastInTheWay) (maxL := 4) (ret := (some .int)) (Ts := wsX7_leastInTheWay) (lv := [(0, .ref (ad 7)), (1, .int (nI t)), (2, .int x), (3, .int y)]) (by decide) rfl (fun _ h => h) (Nat.le_of_ble_eq_true rfl) rfl ?_
  intro p e s m below meth c C
  refine ux_aload_n C dX7_leastInTheWay_0 0 rfl ?_
  refine ux_get C flX7_leastInTheWay_10 7 rfl rfl rfl dX7_leastInTheWay_1 ?_
  refine ux_iload_n C dX7_leastInTheWay_4 1 rfl ?_
  refine ux_callN C gkX7_leastInTheWay_215 (c_X0_trace l D ad cA A σ (uQ σ) t ht hF.1 (uF_dn hF) (fun u h1 h2 => (hF.2 u h1 h2).1)) rfl ⟨rfl, rfl⟩ ⟨(Nat.le_of_ble_eq_true rfl), (Nat.le_of_ble_eq_true rfl)⟩ ⟨Nat.le_refl _, Nat.le_refl _⟩ 0 rfl rfl rfl rfl (Nat.le_of_ble_eq_true rfl) dX7_leastInTheWay_5 (fun σ1 hr => ?_)
  obtain ⟨f, rfl, hf⟩ := hr
  refine ux_aload_n C dX7_leastInTheWay_8 0 rfl ?_
  refine ux_get C flX7_leastInTheWay_33 7 rfl rfl rfl dX7_leastInTheWay_9 ?_
  refine ux_iload_n C dX7_leastInTheWay_12 2 rfl ?_
  refine ux_iload_n C dX7_leastInTheWay_13 3 rfl ?_
  refine ux_aload_n C dX7_leastInTheWay_14 0 rfl ?_
  refine ux_get C flX7_leastInTheWay_10 7 rfl rfl rfl dX7_leastInTheWay_15 ?_
  refine ux_callR C gkX7_leastInTheWay_218 (c_X0_line l D ad cA A (sa σ 2 f)) rfl ⟨rfl, rfl⟩ ⟨(Nat.le_of_ble_eq_true rfl), (Nat.le_of_ble_eq_true rfl)⟩ ⟨Nat.le_refl _, Nat.le_refl _⟩ 0 rfl rfl rfl rfl (Nat.le_of_ble_eq_true rfl) dX7_leastInTheWay_18 (fun σ1 hr => ?_)
  subst hr
  refine ux_callI C gkX7_leastInTheWay_222 (c_X1_leastInTheWay l D ad cA A (sa σ 2 f) x y hH.1 (fun r hr => (hH.2 r hr).imp id (fun ⟨o, o1, o2⟩ => ⟨o, Nat.le_trans o1 hF.1, o2⟩))) rfl ⟨rfl, rfl⟩ ⟨(Nat.le_of_ble_eq_true rfl), (Nat.le_of_ble_eq_true rfl)⟩ ⟨Nat.le_refl _, Nat.le_refl _⟩ 1 rfl rfl rfl rfl (Nat.le_of_ble_eq_true rfl) dX7_leastInTheWay_21 (fun r σ1 hr => ?_)
  obtain ⟨rfl, rfl⟩ := hr
  exact ux_iret C dX7_leastInTheWay_24 (⟨f, rfl, pq_lw_congr (fun r hr => u_way_eq hH hf hF.1 x y hr)⟩)
set_option maxHeartbeats 4000000 in
set_option maxRecDepth 100000 in
theorem c_X7_look (l : Launch) (D : va_G) (ad : Nat → Nat) (cA : Nat → ClassId) (A : Nat → Prop) (σ : ST) (t : Nat) (hF : uF σ) (hW : uW σ) (ht : t ≤ σ.2.1 0) : ux_N l D vwCl (tyU cA) (wU ad cA) A yX7_look wsX7_look (ux_rm 2) [.ref (ad 7), .int (nI t)] σ (fun σ' => ∃ f g, σ' = sa (sa σ 2 f) 9 g ∧ ∀ s, s < 512 → g s = pq_o (u_row σ t s)) := by
  refine ux_ofN (cc := cX7_look) (maxL := 2) (ret := none) (Ts := wsX7_look) (lv := [(0, .ref (ad 7)), (1, .int (nI t))]) (by decide) rfl (fun _ h => h) (Nat.le_of_ble_eq_true rfl) rfl ?_
  intro p e s m below meth c C
  refine ux_aload_n C dX7_look_0 0 rfl ?_
  refine ux_get C flX7_look_10 7 rfl rfl rfl dX7_look_1 ?_
  refine ux_iload_n C dX7_look_4 1 rfl ?_
  refine ux_callN C gkX7_look_215 (c_X0_trace l D ad cA A σ (uQ σ) t ht hF.1 (uF_dn hF) (fun u h1 h2 => (hF.2 u h1 h2).1)) rfl ⟨rfl, rfl⟩ ⟨(Nat.le_of_ble_eq_true rfl), (Nat.le_of_ble_eq_true rfl)⟩ ⟨Nat.le_refl _, Nat.le_refl _⟩ 0 rfl rfl rfl rfl (Nat.le_of_ble_eq_true rfl) dX7_look_5 (fun σ1 hr => ?_)
  obtain ⟨f, rfl, hf⟩ := hr
  refine ux_aload_n C dX7_look_8 0 rfl ?_
  refine ux_get C flX7_look_26 7 rfl rfl rfl dX7_look_9 ?_
  refine ux_aload_n C dX7_look_12 0 rfl ?_
  refine ux_get C flX7_look_10 7 rfl rfl rfl dX7_look_13 ?_
  refine ux_callR C gkX7_look_218 (c_X0_line l D ad cA A (sa σ 2 f)) rfl ⟨rfl, rfl⟩ ⟨(Nat.le_of_ble_eq_true rfl), (Nat.le_of_ble_eq_true rfl)⟩ ⟨Nat.le_refl _, Nat.le_refl _⟩ 0 rfl rfl rfl rfl (Nat.le_of_ble_eq_true rfl) dX7_look_16 (fun σ1 hr => ?_)
  subst hr
  refine ux_callN C gkX7_look_225 (c_X6_findSeen l D ad cA A (sa σ 2 f) hW.1 (fun r hr => (hW.2 r hr).1.imp id (fun ⟨o, o1, o2⟩ => ⟨o, Nat.le_trans o1 hF.1, o2⟩)) (fun r hr => (hW.2 r hr).2)) rfl ⟨rfl, rfl⟩ ⟨(Nat.le_of_ble_eq_true rfl), (Nat.le_of_ble_eq_true rfl)⟩ ⟨Nat.le_refl _, Nat.le_refl _⟩ 6 rfl rfl rfl rfl (Nat.le_of_ble_eq_true rfl) dX7_look_19 (fun σ1 hr => ?_)
  obtain ⟨g, rfl, hg⟩ := hr
  exact ux_vret C dX7_look_22 (⟨f, g, rfl, fun s hs => (hg s hs).trans (congrArg pq_o (pq_lst_congr (fun r hr => u_sees_eq hW hf hF.1 s hr)))⟩)
set_option maxHeartbeats 4000000 in
set_option maxRecDepth 100000 in
theorem c_X7_valueSeen (l : Launch) (D : va_G) (ad : Nat → Nat) (cA : Nat → ClassId) (A : Nat → Prop) (σ : ST) (t : Nat) (key : Int32) (hF : uF σ) (hW : uW σ) (ht : t ≤ σ.2.1 0) (hk : σ.2.1 1 ≤ 512) : ux_L l D vwCl (tyU cA) (wU ad cA) A yX7_valueSeen wsX7_valueSeen (ux_rm 3) [.ref (ad 7), .int (nI t), .int key] σ (fun r σ' => uEq σ σ' ∧ r = u_seen σ t key) := by
  refine ux_ofL (cc := cX7_valueSeen) (maxL := 4) (ret := (some .long)) (Ts := wsX7_valueSeen) (lv := [(0, .ref (ad 7)), (1, .int (nI t)), (2, .int key)]) (by decide) rfl (fun _ h => h) (Nat.le_of_ble_eq_true rfl) rfl ?_
  intro p e s m below meth c C
  refine ux_aload_n C dX7_valueSeen_0 0 rfl ?_
  refine ux_get C flX7_valueSeen_19 7 rfl rfl rfl dX7_valueSeen_1 ?_
  refine ux_iload_n C dX7_valueSeen_4 2 rfl ?_
  refine ux_callI C gkX7_valueSeen_153 (c_X2_find l D ad cA A σ key hk) rfl ⟨rfl, rfl⟩ ⟨(Nat.le_of_ble_eq_true rfl), (Nat.le_of_ble_eq_true rfl)⟩ ⟨Nat.le_refl _, Nat.le_refl _⟩ 2 rfl rfl rfl rfl (Nat.le_of_ble_eq_true rfl) dX7_valueSeen_5 (fun r σ1 hr => ?_)
  obtain ⟨hr, rfl⟩ := hr
  have hr : r = pq_o (u_find σ key) := hr
  cases hf : u_find σ key with
  | none =>
    rw [hf] at hr
    have hr : r = -1 := hr
    subst hr
    refine ux_istore_n C [(3, _), (0, _), (1, _), (2, _)] dX7_valueSeen_8 rfl (by decide) rfl ?_
    refine ux_iload_n C dX7_valueSeen_9 0 rfl ?_
    refine ux_iconst C ((-1 : Int32)) dX7_valueSeen_10 (by decide) ?_
    refine ux_icmp_ne C 18 dX7_valueSeen_11 (by decide) (fun h => ?_) (fun h => ?_)
    · exact absurd rfl h
    · refine ux_ldc2 C (1099511627776 : Int64) (by decide +kernel) dX7_valueSeen_14 ?_
      exact ux_lret C dX7_valueSeen_17 (⟨uEq.refl σ, by rw [u_seen, hf]⟩)
  | some s =>
    rw [hf] at hr
    have hr : r = nI s := hr
    subst hr
    have hs := u_find_lt hf
    refine ux_istore_n C [(3, _), (0, _), (1, _), (2, _)] dX7_valueSeen_8 rfl (by decide) rfl ?_
    refine ux_iload_n C dX7_valueSeen_9 0 rfl ?_
    refine ux_iconst C ((-1 : Int32)) dX7_valueSeen_10 (by decide) ?_
    refine ux_icmp_ne C 18 dX7_valueSeen_11 (by decide) (fun h => ?_) (fun h => ?_)
    · refine ux_aload_n C dX7_valueSeen_18 1 rfl ?_
      refine ux_iload_n C dX7_valueSeen_19 2 rfl ?_
      refine ux_callN C gkX7_valueSeen_181 (c_X7_look l D ad cA A σ t hF hW ht) rfl ⟨rfl, rfl⟩ ⟨(Nat.le_of_ble_eq_true rfl), (Nat.le_of_ble_eq_true rfl)⟩ ⟨Nat.le_refl _, Nat.le_refl _⟩ 7 rfl rfl rfl rfl (Nat.le_of_ble_eq_true rfl) dX7_valueSeen_20 (fun σ1 hr => ?_)
      obtain ⟨f, g, rfl, hg⟩ := hr
      refine ux_aload_n C dX7_valueSeen_23 1 rfl ?_
      refine ux_get C flX7_valueSeen_26 7 rfl rfl rfl dX7_valueSeen_24 ?_
      refine ux_iload_n C dX7_valueSeen_27 0 rfl ?_
      refine ux_callI C gkX7_valueSeen_187 (c_X6_hasFound l D ad cA A (sa (sa σ 2 f) 9 g) s (u_row σ t s) (by omega) (hg s (by omega)) (fun r hr => Nat.lt_of_lt_of_le (u_row_lt hr) hW.1)) rfl ⟨rfl, rfl⟩ ⟨(Nat.le_of_ble_eq_true rfl), (Nat.le_of_ble_eq_true rfl)⟩ ⟨Nat.le_refl _, Nat.le_refl _⟩ 6 rfl rfl rfl rfl (Nat.le_of_ble_eq_true rfl) dX7_valueSeen_28 (fun r σ1 hr => ?_)
      obtain ⟨rfl, rfl⟩ := hr
      have huv : u_seen σ t key = u_val σ (u_row σ t s) := by rw [u_seen, hf]
      have hE := ((uEq.refl σ).sa2 f).sa9 g
      refine ux_if_eq C 45 dX7_valueSeen_31 (by decide) (fun h2 => ?_) (fun h2 => ?_)
      · refine ux_ldc2 C (1099511627776 : Int64) (by decide +kernel) dX7_valueSeen_45 ?_
        refine ux_lret C dX7_valueSeen_48 ?_
        refine ⟨hE, ?_⟩
        rw [huv]
        cases hrw : u_row σ t s with
        | none => rfl
        | some q =>
          rw [hrw] at h2
          have h2 : ¬ σ.1 7 q = 0 := of_decide_eq_false ((pq_b0 _).mp h2)
          exact (if_neg h2).symm
      · refine ux_aload_n C dX7_valueSeen_34 1 rfl ?_
        refine ux_get C flX7_valueSeen_26 7 rfl rfl rfl dX7_valueSeen_35 ?_
        refine ux_iload_n C dX7_valueSeen_38 0 rfl ?_
        refine ux_callL C gkX7_valueSeen_201 (c_X6_valueFound l D ad cA A (sa (sa σ 2 f) 9 g) s (u_row σ t s) (by omega) (hg s (by omega)) (fun r hr => Nat.lt_of_lt_of_le (u_row_lt hr) hW.1)) rfl ⟨rfl, rfl⟩ ⟨(Nat.le_of_ble_eq_true rfl), (Nat.le_of_ble_eq_true rfl)⟩ ⟨Nat.le_refl _, Nat.le_refl _⟩ 6 rfl rfl rfl rfl (Nat.le_of_ble_eq_true rfl) dX7_valueSeen_39 (fun r σ1 hr => ?_)
        obtain ⟨rfl, rfl⟩ := hr
        refine ux_goto C 48 dX7_valueSeen_42 (by decide) ?_
        refine ux_lret C dX7_valueSeen_48 ?_
        refine ⟨hE, ?_⟩
        rw [huv]
        cases hrw : u_row σ t s with
        | none => rfl
        | some q =>
          rw [hrw] at h2
          have h2 : σ.1 7 q = 0 := of_decide_eq_true ((pq_bn0 _).mp h2)
          exact (if_pos h2).symm
    · exact absurd h (pq_nI_m1 (by omega))

