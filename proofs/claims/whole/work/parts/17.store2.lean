theorem hiX1_handOver_1 : ∀ w ∈ wsX10, w ∈ wsX1_handOver := by decide +kernel
theorem flX1_handOver_21 : ux_F wsX1_handOver RX1 21 RX1 TX1 4 3 := ⟨hiX1_handOver_1, by decide, by decide +kernel⟩
theorem flX1_handOver_9 : ux_F wsX1_handOver RX1 9 RX1 TX1 4 0 := ⟨hiX1_handOver_1, by decide, by decide +kernel⟩
theorem flX1_handOver_15 : ux_F wsX1_handOver RX1 15 RX1 TX1 4 1 := ⟨hiX1_handOver_1, by decide, by decide +kernel⟩
theorem flX1_handOver_18 : ux_F wsX1_handOver RX1 18 RX1 TX1 4 2 := ⟨hiX1_handOver_1, by decide, by decide +kernel⟩
theorem hiX7_mustWait_7 : ∀ w ∈ wsX70, w ∈ wsX7_mustWait := by decide +kernel
theorem flX7_mustWait_47 : ux_F wsX7_mustWait RX7 47 RX7 TX7 7 5 := ⟨hiX7_mustWait_7, by decide, by decide +kernel⟩
theorem hiX7_open_7 : ∀ w ∈ wsX70, w ∈ wsX7_open := by decide +kernel
theorem flX7_open_10 : ux_F wsX7_open RX7 10 RX7 TX7 7 0 := ⟨hiX7_open_7, by decide, by decide +kernel⟩
theorem hiX7_mark_7 : ∀ w ∈ wsX70, w ∈ wsX7_mark := by decide +kernel
theorem flX7_mark_10 : ux_F wsX7_mark RX7 10 RX7 TX7 7 0 := ⟨hiX7_mark_7, by decide, by decide +kernel⟩
theorem flX7_mark_40 : ux_F wsX7_mark RX7 40 RX7 TX7 7 4 := ⟨hiX7_mark_7, by decide, by decide +kernel⟩
theorem hiX7_state_7 : ∀ w ∈ wsX70, w ∈ wsX7_state := by decide +kernel
theorem flX7_state_10 : ux_F wsX7_state RX7 10 RX7 TX7 7 0 := ⟨hiX7_state_7, by decide, by decide +kernel⟩
theorem hiX7_held_7 : ∀ w ∈ wsX70, w ∈ wsX7_held := by decide +kernel
theorem flX7_held_10 : ux_F wsX7_held RX7 10 RX7 TX7 7 0 := ⟨hiX7_held_7, by decide, by decide +kernel⟩
theorem flX7_held_33 : ux_F wsX7_held RX7 33 RX7 TX7 7 3 := ⟨hiX7_held_7, by decide, by decide +kernel⟩
theorem flX7_held_19 : ux_F wsX7_held RX7 19 RX7 TX7 7 1 := ⟨hiX7_held_7, by decide, by decide +kernel⟩
theorem hiX7_blocker_7 : ∀ w ∈ wsX70, w ∈ wsX7_blocker := by decide +kernel
theorem flX7_blocker_10 : ux_F wsX7_blocker RX7 10 RX7 TX7 7 0 := ⟨hiX7_blocker_7, by decide, by decide +kernel⟩
theorem flX7_blocker_19 : ux_F wsX7_blocker RX7 19 RX7 TX7 7 1 := ⟨hiX7_blocker_7, by decide, by decide +kernel⟩
theorem hiX7_waits_7 : ∀ w ∈ wsX70, w ∈ wsX7_waits := by decide +kernel
theorem flX7_waits_10 : ux_F wsX7_waits RX7 10 RX7 TX7 7 0 := ⟨hiX7_waits_7, by decide, by decide +kernel⟩
theorem flX7_waits_47 : ux_F wsX7_waits RX7 47 RX7 TX7 7 5 := ⟨hiX7_waits_7, by decide, by decide +kernel⟩
theorem gkX1_handOver_25 : ux_G wsX1_handOver RX1 25 RX1 yX1_find wsX1_find 2 := ⟨gX1_handOver_X1_find, by decide +kernel⟩
theorem gkX7_mustWait_158 : ux_G wsX7_mustWait RX7 158 RX7 yX7_leastInTheWay wsX7_leastInTheWay 3 := ⟨gX7_mustWait_X7_leastInTheWay, by decide +kernel⟩
theorem gkX7_mustWait_212 : ux_G wsX7_mustWait RX7 212 RX5 yX5_set wsX5_set 3 := ⟨gX7_mustWait_X5_set, by decide +kernel⟩
theorem gkX7_mustWait_209 : ux_G wsX7_mustWait RX7 209 RX5 yX5_clear wsX5_clear 1 := ⟨gX7_mustWait_X5_clear, by decide +kernel⟩
theorem gkX7_open_58 : ux_G wsX7_open RX7 58 RX0 yX0_canBeAsked wsX0_canBeAsked 1 := ⟨gX7_open_X0_canBeAsked, by decide +kernel⟩
theorem gkX7_open_62 : ux_G wsX7_open RX7 62 RX0 yX0_isFull wsX0_isFull 0 := ⟨gX7_open_X0_isFull, by decide +kernel⟩
theorem gkX7_open_66 : ux_G wsX7_open RX7 66 RX0 yX0_add wsX0_add 1 := ⟨gX7_open_X0_add, by decide +kernel⟩
theorem gkX7_mark_93 : ux_G wsX7_mark RX7 93 RX0 yX0_isActive wsX0_isActive 1 := ⟨gX7_mark_X0_isActive, by decide +kernel⟩
theorem gkX7_mark_96 : ux_G wsX7_mark RX7 96 RX3 yX3_isFull wsX3_isFull 0 := ⟨gX7_mark_X3_isFull, by decide +kernel⟩
theorem gkX7_mark_97 : ux_G wsX7_mark RX7 97 RX3 yX3_add wsX3_add 1 := ⟨gX7_mark_X3_add, by decide +kernel⟩
theorem gkX7_state_139 : ux_G wsX7_state RX7 139 RX0 yX0_exists wsX0_exists 1 := ⟨gX7_state_X0_exists, by decide +kernel⟩
theorem gkX7_state_142 : ux_G wsX7_state RX7 142 RX0 yX0_stateOf wsX0_stateOf 1 := ⟨gX7_state_X0_stateOf, by decide +kernel⟩
theorem gkX7_held_93 : ux_G wsX7_held RX7 93 RX0 yX0_isActive wsX0_isActive 1 := ⟨gX7_held_X0_isActive, by decide +kernel⟩
theorem gkX7_held_153 : ux_G wsX7_held RX7 153 RX2 yX2_find wsX2_find 1 := ⟨gX7_held_X2_find, by decide +kernel⟩
theorem gkX7_held_155 : ux_G wsX7_held RX7 155 RX1 yX1_kindOf wsX1_kindOf 2 := ⟨gX7_held_X1_kindOf, by decide +kernel⟩
theorem gkX7_blocker_93 : ux_G wsX7_blocker RX7 93 RX0 yX0_isActive wsX0_isActive 1 := ⟨gX7_blocker_X0_isActive, by decide +kernel⟩
theorem gkX7_blocker_153 : ux_G wsX7_blocker RX7 153 RX2 yX2_find wsX2_find 1 := ⟨gX7_blocker_X2_find, by decide +kernel⟩
theorem gkX7_blocker_158 : ux_G wsX7_blocker RX7 158 RX7 yX7_leastInTheWay wsX7_leastInTheWay 3 := ⟨gX7_blocker_X7_leastInTheWay, by decide +kernel⟩
theorem gkX7_waits_93 : ux_G wsX7_waits RX7 93 RX0 yX0_isActive wsX0_isActive 1 := ⟨gX7_waits_X0_isActive, by decide +kernel⟩
theorem gkX7_waits_162 : ux_G wsX7_waits RX7 162 RX5 yX5_has wsX5_has 1 := ⟨gX7_waits_X5_has, by decide +kernel⟩
theorem gkX7_waits_165 : ux_G wsX7_waits RX7 165 RX5 yX5_slotOf wsX5_slotOf 1 := ⟨gX7_waits_X5_slotOf, by decide +kernel⟩
theorem gkX7_waits_168 : ux_G wsX7_waits RX7 168 RX5 yX5_kindOf wsX5_kindOf 1 := ⟨gX7_waits_X5_kindOf, by decide +kernel⟩
theorem gkX7_waits_158 : ux_G wsX7_waits RX7 158 RX7 yX7_leastInTheWay wsX7_leastInTheWay 3 := ⟨gX7_waits_X7_leastInTheWay, by decide +kernel⟩
set_option maxHeartbeats 4000000 in
set_option maxRecDepth 100000 in
theorem c_X1_handOver (l : Launch) (D : va_G) (ad : Nat → Nat) (cA : Nat → ClassId) (A : Nat → Prop) (σ : ST) (a b : Int32) (hm : σ.2.1 3 ≤ 512) (hU : uU σ) (ha : ¬ a = -1) (hb : ¬ b = -1) (hab : ¬ a = b) : ux_N l D vwCl (tyU cA) (wU ad cA) A yX1_handOver wsX1_handOver (ux_rm 1) [.ref (ad 1), .int a, .int b] σ (fun σ' => σ' = u_hand σ a b) := by
  refine ux_ofN (cc := cX1_handOver) (maxL := 5) (ret := none) (Ts := wsX1_handOver) (lv := [(0, .ref (ad 1)), (1, .int a), (2, .int b)]) (by decide) rfl (fun _ h => h) (Nat.le_of_ble_eq_true rfl) rfl ?_
  intro p e s m below meth c C
  have loop : ∀ (k i : Nat), σ.2.1 3 + 1 ≤ i + k → i ≤ σ.2.1 3 → ux_V p l e (ux_rm 1) s m ([.ref (ad 1), .int a, .int b] : List Value).toArray below meth c (MQ below (va_Qv (fun σ' => σ' = u_hand σ a b) (fun σ' t => va_P D vwCl (wU ad cA σ') t.heap) A) ([.ref (ad 1), .int a, .int b] : List Value).toArray s 0 0 A) 5 D vwCl (wU ad cA) A 0 0 (sa (sa σ 11 (pq_msk (u_hm σ a b) b (σ.1 11) i)) 13 (u_kd σ a b i)) 2 [(3, .int (nI i)), (0, .ref (ad 1)), (1, .int a), (2, .int b)] [] := by
    intro k
    induction k with
    | zero => intro i h1 h2; omega
    | succ k ih =>
      intro i h1 h2
      refine ux_iload_n C dX1_handOver_2 0 rfl ?_
      refine ux_aload_n C dX1_handOver_3 1 rfl ?_
      refine ux_get C flX1_handOver_21 1 rfl rfl rfl dX1_handOver_4 ?_
      refine ux_icmp_ge C 78 dX1_handOver_7 (by decide) (fun hc => ?_) (fun hc => ?_)
      · have hc : nI (σ.2.1 3) ≤ nI i := hc
        have hc := (nI_leI (by omega) (by omega)).mp hc
        have e : i = σ.2.1 3 := by omega
        subst e
        exact ux_vret C dX1_handOver_78 (rfl)
      · have hc : ¬ nI (σ.2.1 3) ≤ nI i := hc
        have hc := mt (nI_leI (by omega) (by omega)).mpr hc
        have hih := ih (i + 1) (by omega) (by omega)
        refine ux_aload_n C dX1_handOver_10 1 rfl ?_
        refine ux_get C flX1_handOver_9 1 rfl rfl rfl dX1_handOver_11 ?_
        refine ux_iload_n C dX1_handOver_14 0 rfl ?_
        refine ux_iald C 19 11 (i) rfl rfl (rfl) (by omega) (by decide) dX1_handOver_15 ?_
        refine ux_top _ (congrFun ((sa_ne _ _ (by decide)).trans (sa_eq _ _ _)) _) ?_
        refine ux_top _ (pq_msk_at _ _ _ _) ?_
        refine ux_iload_n C dX1_handOver_16 2 rfl ?_
        refine ux_icmp_ne C 72 dX1_handOver_17 (by decide) (fun h4 => ?_) (fun h4 => ?_)
        · rw [← pq_msk_f (i := i) (by simp [u_hm, h4]), ← u_kd_f (fun r h5 h6 h7 => h4 h7.1)] at hih
          refine ux_iinc C (nI (i + 1)) [(3, _), (0, _), (1, _), (2, _)] dX1_handOver_72 0 rfl (pq_inc i) (by decide) rfl ?_
          refine ux_goto C 2 dX1_handOver_75 (by decide) ?_
          exact hih
        · have hf := u_hand_find (b := b) hU ha (show i < σ.2.1 3 by omega) h4
          refine ux_aload_n C dX1_handOver_20 1 rfl ?_
          refine ux_iload_n C dX1_handOver_21 3 rfl ?_
          refine ux_aload_n C dX1_handOver_22 1 rfl ?_
          refine ux_get C flX1_handOver_15 1 rfl rfl rfl dX1_handOver_23 ?_
          refine ux_iload_n C dX1_handOver_26 0 rfl ?_
          refine ux_iald C 20 12 (i) rfl rfl (rfl) (by omega) (by decide) dX1_handOver_27 ?_
          refine ux_callI C gkX1_handOver_25 (c_X1_find l D ad cA A (sa (sa σ 11 (pq_msk (u_hm σ a b) b (σ.1 11) i)) 13 (u_kd σ a b i)) b (σ.1 12 i) hm) rfl ⟨rfl, rfl⟩ ⟨(Nat.le_of_ble_eq_true rfl), (Nat.le_of_ble_eq_true rfl)⟩ ⟨Nat.le_refl _, Nat.le_refl _⟩ 1 rfl rfl rfl rfl (Nat.le_of_ble_eq_true rfl) dX1_handOver_28 (fun r σ1 hr => ?_)
          obtain ⟨hr, rfl⟩ := hr
          have hr : r = pq_o (u_hrow σ b (σ.1 12 i)) := hr.trans (congrArg pq_o hf)
          cases ho : u_hrow σ b (σ.1 12 i) with
          | none =>
            rw [ho] at hr
            have hr : r = -1 := hr
            subst hr
            rw [← pq_msk_t (i := i) (by simp [u_hm, h4, ho]), ← u_kd_f (fun r h5 h6 h7 => by
              have h8 := pq_fst_none.mp ho r h5
              simp [h6, h7.2] at h8)] at hih
            refine ux_istore C [(4, _), (3, _), (0, _), (1, _), (2, _)] dX1_handOver_31 (by decide) rfl ?_
            refine ux_iload C dX1_handOver_33 0 rfl ?_
            refine ux_iconst C ((-1 : Int32)) dX1_handOver_35 (by decide) ?_
            refine ux_icmp_ne C 49 dX1_handOver_36 (by decide) (fun h6 => ?_) (fun h6 => ?_)
            · exact absurd rfl h6
            · refine ux_aload_n C dX1_handOver_39 2 rfl ?_
              refine ux_get C flX1_handOver_9 1 rfl rfl rfl dX1_handOver_40 ?_
              refine ux_iload_n C dX1_handOver_43 1 rfl ?_
              refine ux_iload_n C dX1_handOver_44 4 rfl ?_
              refine ux_iast C 19 11 (i) rfl rfl (rfl) (by omega) (by decide) dX1_handOver_45 _ (awU_11 _ _ _ _) ?_
              refine ux_goto C 72 dX1_handOver_46 (by decide) ?_
              refine ux_iinc C (nI (i + 1)) [(3, _), (4, _), (0, _), (1, _), (2, _)] dX1_handOver_72 1 rfl (pq_inc i) (by decide) rfl ?_
              refine ux_goto C 2 dX1_handOver_75 (by decide) ?_
              refine ux_sub [(3, _), (0, _), (1, _), (2, _)] [0, 2, 3, 4] rfl ?_
              refine ux_at ?_ hih
              exact ux_swap σ _ _ _
          | some o =>
            rw [ho] at hr
            have hr : r = nI o := hr
            subst hr
            obtain ⟨o1, o2, o3⟩ := pq_fst_some.mp ho
            rw [Bool.and_eq_true, decide_eq_true_eq, decide_eq_true_eq] at o2
            rw [← pq_msk_f (i := i) (by simp [u_hm, ho]), ← u_kd_t hU ha hb (show i < σ.2.1 3 by omega) h4 o1 o2.1 o2.2] at hih
            refine ux_istore C [(4, _), (3, _), (0, _), (1, _), (2, _)] dX1_handOver_31 (by decide) rfl ?_
            refine ux_iload C dX1_handOver_33 0 rfl ?_
            refine ux_iconst C ((-1 : Int32)) dX1_handOver_35 (by decide) ?_
            refine ux_icmp_ne C 49 dX1_handOver_36 (by decide) (fun h6 => ?_) (fun h6 => ?_)
            · refine ux_aload_n C dX1_handOver_49 2 rfl ?_
              refine ux_get C flX1_handOver_18 1 rfl rfl rfl dX1_handOver_50 ?_
              refine ux_iload C dX1_handOver_53 0 rfl ?_
              refine ux_aload_n C dX1_handOver_55 2 rfl ?_
              refine ux_get C flX1_handOver_18 1 rfl rfl rfl dX1_handOver_56 ?_
              refine ux_iload C dX1_handOver_59 0 rfl ?_
              refine ux_iald C 21 13 (o) rfl rfl (rfl) (by omega) (by decide) dX1_handOver_61 ?_
              refine ux_top _ (congrFun (sa_eq _ _ _) _) ?_
              refine ux_top _ (u_kd_at hU ha (show i < σ.2.1 3 by omega) h4 o2.2) ?_
              refine ux_aload_n C dX1_handOver_62 2 rfl ?_
              refine ux_get C flX1_handOver_18 1 rfl rfl rfl dX1_handOver_63 ?_
              refine ux_iload_n C dX1_handOver_66 1 rfl ?_
              refine ux_iald C 21 13 (i) rfl rfl (rfl) (by omega) (by decide) dX1_handOver_67 ?_
              refine ux_top _ (congrFun (sa_eq _ _ _) _) ?_
              refine ux_top _ (u_kd_at hU ha (show i < σ.2.1 3 by omega) h4 rfl) ?_
              refine ux_mmax C (by decide +kernel) (by decide +kernel) (by decide +kernel) (List.mem_of_getElem? (i := 8) rfl) (Nat.le_of_ble_eq_true rfl) (Nat.le_of_ble_eq_true rfl) ⟨Nat.le_refl _, Nat.le_refl _⟩ dX1_handOver_68 ?_
              refine ux_iast C 21 13 (o) rfl rfl (rfl) (by omega) (by decide) dX1_handOver_71 _ (awU_13 _ _ _ _) ?_
              refine ux_iinc C (nI (i + 1)) [(3, _), (4, _), (0, _), (1, _), (2, _)] dX1_handOver_72 1 rfl (pq_inc i) (by decide) rfl ?_
              refine ux_goto C 2 dX1_handOver_75 (by decide) ?_
              refine ux_sub [(3, _), (0, _), (1, _), (2, _)] [0, 2, 3, 4] rfl ?_
              refine ux_at (sa_sa _ _ _ _) ?_
              exact hih
            · exact absurd h6 (pq_nI_m1 (by omega))
  refine ux_iconst C (nI 0) dX1_handOver_0 (by decide) ?_
  refine ux_istore_n C [(3, _), (0, _), (1, _), (2, _)] dX1_handOver_1 rfl (by decide) rfl ?_
  have hl := loop (σ.2.1 3 + 1) 0 (by omega) (by omega)
  rw [pq_msk_id (i := 0) (fun j hj => by omega), u_kd_0] at hl
  rw [show sa (sa σ 11 (σ.1 11)) 13 (σ.1 13) = σ by rw [sa_self, sa_self]] at hl
  exact hl
set_option maxHeartbeats 4000000 in
set_option maxRecDepth 100000 in
theorem c_X7_mustWait (l : Launch) (D : va_G) (ad : Nat → Nat) (cA : Nat → ClassId) (A : Nat → Prop) (σ : ST) (t : Nat) (x y : Int32) (hF : uF σ) (hH : uH σ) (ht : t ≤ σ.2.1 0) : ux_I l D vwCl (tyU cA) (wU ad cA) A yX7_mustWait wsX7_mustWait (ux_rm 3) [.ref (ad 7), .int (nI t), .int x, .int y] σ (fun r σ' => (u_least σ t x y = 0 ∧ r = 0 ∧ uEq (u_calm σ t) σ') ∨ (¬ u_least σ t x y = 0 ∧ r = 1 ∧ uEq (u_wish σ t x y) σ')) := by
  refine ux_ofI (cc := cX7_mustWait) (maxL := 4) (ret := (some .boolean)) (Ts := wsX7_mustWait) (lv := [(0, .ref (ad 7)), (1, .int (nI t)), (2, .int x), (3, .int y)]) (by decide) rfl (fun _ h => h) (Nat.le_of_ble_eq_true rfl) rfl ?_
  intro p e s m below meth c C
  have h150 := Nat.le_trans ht hF.1
  refine ux_aload_n C dX7_mustWait_0 0 rfl ?_
  refine ux_iload_n C dX7_mustWait_1 1 rfl ?_
  refine ux_iload_n C dX7_mustWait_2 2 rfl ?_
  refine ux_iload_n C dX7_mustWait_3 3 rfl ?_
  refine ux_callI C gkX7_mustWait_158 (c_X7_leastInTheWay l D ad cA A σ t x y hF hH ht) rfl ⟨rfl, rfl⟩ ⟨(Nat.le_of_ble_eq_true rfl), (Nat.le_of_ble_eq_true rfl)⟩ ⟨Nat.le_refl _, Nat.le_refl _⟩ 7 rfl rfl rfl rfl (Nat.le_of_ble_eq_true rfl) dX7_mustWait_4 (fun r σ1 hr => ?_)
  obtain ⟨f, rfl, rfl⟩ := hr
  refine ux_if_ne C 20 dX7_mustWait_7 (by decide) (fun h => ?_) (fun h => ?_)
  · refine ux_aload_n C dX7_mustWait_20 0 rfl ?_
    refine ux_get C flX7_mustWait_47 7 rfl rfl rfl dX7_mustWait_21 ?_
    refine ux_iload_n C dX7_mustWait_24 1 rfl ?_
    refine ux_iload_n C dX7_mustWait_25 2 rfl ?_
    refine ux_iload_n C dX7_mustWait_26 3 rfl ?_
    refine ux_callN C gkX7_mustWait_212 (c_X5_set l D ad cA A (sa σ 2 f) t x y h150) rfl ⟨rfl, rfl⟩ ⟨(Nat.le_of_ble_eq_true rfl), (Nat.le_of_ble_eq_true rfl)⟩ ⟨Nat.le_refl _, Nat.le_refl _⟩ 5 rfl rfl rfl rfl (Nat.le_of_ble_eq_true rfl) dX7_mustWait_27 (fun σ1 hr => ?_)
    subst hr
    refine ux_iconst C ((1 : Int32)) dX7_mustWait_30 (by decide) ?_
    exact ux_zret C dX7_mustWait_31 rfl (Or.inr ⟨h, rfl, ((uEq.refl σ).sa2 f).wish t x y⟩)
  · refine ux_aload_n C dX7_mustWait_10 0 rfl ?_
    refine ux_get C flX7_mustWait_47 7 rfl rfl rfl dX7_mustWait_11 ?_
    refine ux_iload_n C dX7_mustWait_14 1 rfl ?_
    refine ux_callN C gkX7_mustWait_209 (c_X5_clear l D ad cA A (sa σ 2 f) t h150) rfl ⟨rfl, rfl⟩ ⟨(Nat.le_of_ble_eq_true rfl), (Nat.le_of_ble_eq_true rfl)⟩ ⟨Nat.le_refl _, Nat.le_refl _⟩ 5 rfl rfl rfl rfl (Nat.le_of_ble_eq_true rfl) dX7_mustWait_15 (fun σ1 hr => ?_)
    subst hr
    refine ux_iconst C ((0 : Int32)) dX7_mustWait_18 (by decide) ?_
    exact ux_zret C dX7_mustWait_19 rfl (Or.inl ⟨h, rfl, ((uEq.refl σ).sa2 f).calm t⟩)
set_option maxHeartbeats 4000000 in
set_option maxRecDepth 100000 in
theorem c_X7_open (l : Launch) (D : va_G) (ad : Nat → Nat) (cA : Nat → ClassId) (A : Nat → Prop) (σ : ST) (t : Int32) (hF : uF σ) : ux_I l D vwCl (tyU cA) (wU ad cA) A yX7_open wsX7_open (ux_rm 3) [.ref (ad 7), .int t] σ (fun r σ' => r = (u_open σ t).1 ∧ uEq (u_open σ t).2 σ') := by
  refine ux_ofI (cc := cX7_open) (maxL := 2) (ret := (some .int)) (Ts := wsX7_open) (lv := [(0, .ref (ad 7)), (1, .int t)]) (by decide) rfl (fun _ h => h) (Nat.le_of_ble_eq_true rfl) rfl ?_
  intro p e s m below meth c C
  refine ux_aload_n C dX7_open_0 0 rfl ?_
  refine ux_get C flX7_open_10 7 rfl rfl rfl dX7_open_1 ?_
  refine ux_iload_n C dX7_open_4 1 rfl ?_
  refine ux_callI C gkX7_open_58 (c_X0_canBeAsked l D ad cA A σ t hF.1) rfl ⟨rfl, rfl⟩ ⟨(Nat.le_of_ble_eq_true rfl), (Nat.le_of_ble_eq_true rfl)⟩ ⟨Nat.le_refl _, Nat.le_refl _⟩ 0 rfl rfl rfl rfl (Nat.le_of_ble_eq_true rfl) dX7_open_5 (fun r σ1 hr => ?_)
  obtain ⟨rfl, rfl⟩ := hr
  refine ux_if_eq C 21 dX7_open_8 (by decide) (fun h => ?_) (fun h => ?_)
  · have h : (decide (t = 0) || u_act σ t) = false := (pq_b0 _).mp h
    have hu : u_open σ t = (-1, σ) := if_neg (by rw [h]; simp)
    refine ux_iconst C ((-1 : Int32)) dX7_open_21 (by decide) ?_
    exact ux_iret C dX7_open_22 (by rw [hu]; exact ⟨rfl, uEq.refl σ⟩)
  · have h : (decide (t = 0) || u_act σ t) = true := (pq_bn0 _).mp h
    refine ux_aload_n C dX7_open_11 0 rfl ?_
    refine ux_get C flX7_open_10 7 rfl rfl rfl dX7_open_12 ?_
    refine ux_callI C gkX7_open_62 (c_X0_isFull l D ad cA A σ hF.1) rfl ⟨rfl, rfl⟩ ⟨(Nat.le_of_ble_eq_true rfl), (Nat.le_of_ble_eq_true rfl)⟩ ⟨Nat.le_refl _, Nat.le_refl _⟩ 0 rfl rfl rfl rfl (Nat.le_of_ble_eq_true rfl) dX7_open_15 (fun r σ1 hr => ?_)
    obtain ⟨rfl, rfl⟩ := hr
    refine ux_if_eq C 23 dX7_open_18 (by decide) (fun h2 => ?_) (fun h2 => ?_)
    · have h2 := of_decide_eq_false ((pq_b0 _).mp h2)
      have hlt : σ.2.1 0 < 150 := Nat.lt_of_le_of_ne hF.1 h2
      refine ux_aload_n C dX7_open_23 0 rfl ?_
      refine ux_get C flX7_open_10 7 rfl rfl rfl dX7_open_24 ?_
      refine ux_iload_n C dX7_open_27 1 rfl ?_
      refine ux_callI C gkX7_open_66 (c_X0_add l D ad cA A σ t hlt) rfl ⟨rfl, rfl⟩ ⟨(Nat.le_of_ble_eq_true rfl), (Nat.le_of_ble_eq_true rfl)⟩ ⟨Nat.le_refl _, Nat.le_refl _⟩ 0 rfl rfl rfl rfl (Nat.le_of_ble_eq_true rfl) dX7_open_28 (fun r σ1 hr => ?_)
      obtain ⟨rfl, rfl⟩ := hr
      have hu : u_open σ t = (nI (σ.2.1 0 + 1), sa (sa (sf σ 0 (σ.2.1 0 + 1)) 0 (upd (σ.1 0) (σ.2.1 0 + 1) t)) 1 (upd (σ.1 1) (σ.2.1 0 + 1) 0)) := if_pos (by rw [h, decide_eq_false h2]; rfl)
      exact ux_iret C dX7_open_31 (by rw [hu]; exact ⟨rfl, uEq.refl _⟩)
    · have h2 := of_decide_eq_true ((pq_bn0 _).mp h2)
      have hu : u_open σ t = (-1, σ) := if_neg (by rw [h, decide_eq_true h2]; simp)
      refine ux_iconst C ((-1 : Int32)) dX7_open_21 (by decide) ?_
      exact ux_iret C dX7_open_22 (by rw [hu]; exact ⟨rfl, uEq.refl σ⟩)
set_option maxHeartbeats 4000000 in
set_option maxRecDepth 100000 in
theorem c_X7_mark (l : Launch) (D : va_G) (ad : Nat → Nat) (cA : Nat → ClassId) (A : Nat → Prop) (σ : ST) (t : Int32) (hF : uF σ) (hm : σ.2.1 4 < 512) : ux_I l D vwCl (tyU cA) (wU ad cA) A yX7_mark wsX7_mark (ux_rm 2) [.ref (ad 7), .int t] σ (fun r σ' => r = (u_mark σ t).1 ∧ uEq (u_mark σ t).2 σ') := by
  refine ux_ofI (cc := cX7_mark) (maxL := 2) (ret := (some .int)) (Ts := wsX7_mark) (lv := [(0, .ref (ad 7)), (1, .int t)]) (by decide) rfl (fun _ h => h) (Nat.le_of_ble_eq_true rfl) rfl ?_
  intro p e s m below meth c C
  refine ux_aload_n C dX7_mark_0 0 rfl ?_
  refine ux_get C flX7_mark_10 7 rfl rfl rfl dX7_mark_1 ?_
  refine ux_iload_n C dX7_mark_4 1 rfl ?_
  refine ux_callI C gkX7_mark_93 (c_X0_isActive l D ad cA A σ t hF.1) rfl ⟨rfl, rfl⟩ ⟨(Nat.le_of_ble_eq_true rfl), (Nat.le_of_ble_eq_true rfl)⟩ ⟨Nat.le_refl _, Nat.le_refl _⟩ 0 rfl rfl rfl rfl (Nat.le_of_ble_eq_true rfl) dX7_mark_5 (fun r σ1 hr => ?_)
  obtain ⟨rfl, rfl⟩ := hr
  refine ux_if_eq C 21 dX7_mark_8 (by decide) (fun h => ?_) (fun h => ?_)
  · have h : u_act σ t = false := (pq_b0 _).mp h
    have hu : u_mark σ t = (-1, σ) := if_neg (by rw [h]; decide)
    refine ux_iconst C ((-1 : Int32)) dX7_mark_21 (by decide) ?_
    exact ux_iret C dX7_mark_22 (by rw [hu]; exact ⟨rfl, uEq.refl σ⟩)
  · have h : u_act σ t = true := (pq_bn0 _).mp h
    refine ux_aload_n C dX7_mark_11 0 rfl ?_
    refine ux_get C flX7_mark_40 7 rfl rfl rfl dX7_mark_12 ?_
    refine ux_callI C gkX7_mark_96 (c_X3_isFull l D ad cA A σ (Nat.le_of_lt hm)) rfl ⟨rfl, rfl⟩ ⟨(Nat.le_of_ble_eq_true rfl), (Nat.le_of_ble_eq_true rfl)⟩ ⟨Nat.le_refl _, Nat.le_refl _⟩ 3 rfl rfl rfl rfl (Nat.le_of_ble_eq_true rfl) dX7_mark_15 (fun r σ1 hr => ?_)
    obtain ⟨rfl, rfl⟩ := hr
    refine ux_if_eq C 23 dX7_mark_18 (by decide) (fun h2 => ?_) (fun h2 => ?_)
    · refine ux_aload_n C dX7_mark_23 0 rfl ?_
      refine ux_get C flX7_mark_40 7 rfl rfl rfl dX7_mark_24 ?_
      refine ux_iload_n C dX7_mark_27 1 rfl ?_
      refine ux_callI C gkX7_mark_97 (c_X3_add l D ad cA A σ t hm) rfl ⟨rfl, rfl⟩ ⟨(Nat.le_of_ble_eq_true rfl), (Nat.le_of_ble_eq_true rfl)⟩ ⟨Nat.le_refl _, Nat.le_refl _⟩ 3 rfl rfl rfl rfl (Nat.le_of_ble_eq_true rfl) dX7_mark_28 (fun r σ1 hr => ?_)
      obtain ⟨rfl, rfl⟩ := hr
      exact ux_iret C dX7_mark_31 (by rw [show u_mark σ t = _ from if_pos h]; exact ⟨rfl, uEq.refl _⟩)
    · exact absurd (of_decide_eq_true ((pq_bn0 _).mp h2)) (by omega)
set_option maxHeartbeats 4000000 in
set_option maxRecDepth 100000 in
theorem c_X7_state (l : Launch) (D : va_G) (ad : Nat → Nat) (cA : Nat → ClassId) (A : Nat → Prop) (σ : ST) (t : Int32) (hF : uF σ) : ux_I l D vwCl (tyU cA) (wU ad cA) A yX7_state wsX7_state (ux_rm 1) [.ref (ad 7), .int t] σ (fun r σ' => r = u_state σ t ∧ uEq σ σ') := by
  refine ux_ofI (cc := cX7_state) (maxL := 2) (ret := (some .int)) (Ts := wsX7_state) (lv := [(0, .ref (ad 7)), (1, .int t)]) (by decide) rfl (fun _ h => h) (Nat.le_of_ble_eq_true rfl) rfl ?_
  intro p e s m below meth c C
  refine ux_aload_n C dX7_state_0 0 rfl ?_
  refine ux_get C flX7_state_10 7 rfl rfl rfl dX7_state_1 ?_
  refine ux_iload_n C dX7_state_4 1 rfl ?_
  refine ux_callI C gkX7_state_139 (c_X0_exists l D ad cA A σ t) rfl ⟨rfl, rfl⟩ ⟨(Nat.le_of_ble_eq_true rfl), (Nat.le_of_ble_eq_true rfl)⟩ ⟨Nat.le_refl _, Nat.le_refl _⟩ 0 rfl rfl rfl rfl (Nat.le_of_ble_eq_true rfl) dX7_state_5 (fun r σ1 hr => ?_)
  obtain ⟨rfl, rfl⟩ := hr
  refine ux_if_eq C 22 dX7_state_8 (by decide) (fun h => ?_) (fun h => ?_)
  · refine ux_iconst C ((-1 : Int32)) dX7_state_22 (by decide) ?_
    exact ux_iret C dX7_state_23 (⟨by rw [u_state, (pq_b0 _).mp h]; rfl, uEq.refl σ⟩)
  · have h := (pq_bn0 _).mp h
    obtain ⟨k, k1, k2, rfl⟩ := (pq_ex_iff (Nat.lt_of_le_of_lt hF.1 (by decide))).mp h
    refine ux_aload_n C dX7_state_11 0 rfl ?_
    refine ux_get C flX7_state_10 7 rfl rfl rfl dX7_state_12 ?_
    refine ux_iload_n C dX7_state_15 1 rfl ?_
    refine ux_callI C gkX7_state_142 (c_X0_stateOf l D ad cA A σ k (Nat.le_trans k2 hF.1)) rfl ⟨rfl, rfl⟩ ⟨(Nat.le_of_ble_eq_true rfl), (Nat.le_of_ble_eq_true rfl)⟩ ⟨Nat.le_refl _, Nat.le_refl _⟩ 0 rfl rfl rfl rfl (Nat.le_of_ble_eq_true rfl) dX7_state_16 (fun r σ1 hr => ?_)
    obtain ⟨rfl, rfl⟩ := hr
    refine ux_goto C 23 dX7_state_19 (by decide) ?_
    exact ux_iret C dX7_state_23 (⟨by rw [u_state, if_pos h, nI_clamp (Nat.lt_of_le_of_lt (Nat.le_trans k2 hF.1) (by decide))], uEq.refl σ⟩)
set_option maxHeartbeats 4000000 in
set_option maxRecDepth 100000 in
theorem c_X7_held (l : Launch) (D : va_G) (ad : Nat → Nat) (cA : Nat → ClassId) (A : Nat → Prop) (σ : ST) (t key : Int32) (hF : uF σ) (hk : σ.2.1 1 ≤ 512) (hh : σ.2.1 3 ≤ 512) : ux_I l D vwCl (tyU cA) (wU ad cA) A yX7_held wsX7_held (ux_rm 2) [.ref (ad 7), .int t, .int key] σ (fun r σ' => r = u_held σ t key ∧ uEq σ σ') := by
  refine ux_ofI (cc := cX7_held) (maxL := 3) (ret := (some .int)) (Ts := wsX7_held) (lv := [(0, .ref (ad 7)), (1, .int t), (2, .int key)]) (by decide) rfl (fun _ h => h) (Nat.le_of_ble_eq_true rfl) rfl ?_
  intro p e s m below meth c C
  refine ux_aload_n C dX7_held_0 0 rfl ?_
  refine ux_get C flX7_held_10 7 rfl rfl rfl dX7_held_1 ?_
  refine ux_iload_n C dX7_held_4 1 rfl ?_
  refine ux_callI C gkX7_held_93 (c_X0_isActive l D ad cA A σ t hF.1) rfl ⟨rfl, rfl⟩ ⟨(Nat.le_of_ble_eq_true rfl), (Nat.le_of_ble_eq_true rfl)⟩ ⟨Nat.le_refl _, Nat.le_refl _⟩ 0 rfl rfl rfl rfl (Nat.le_of_ble_eq_true rfl) dX7_held_5 (fun r σ1 hr => ?_)
  obtain ⟨rfl, rfl⟩ := hr
  refine ux_if_ne C 13 dX7_held_8 (by decide) (fun h => ?_) (fun h => ?_)
  · have h : u_act σ t = true := (pq_bn0 _).mp h
    refine ux_aload_n C dX7_held_13 0 rfl ?_
    refine ux_get C flX7_held_33 7 rfl rfl rfl dX7_held_14 ?_
    refine ux_iload_n C dX7_held_17 1 rfl ?_
    refine ux_aload_n C dX7_held_18 0 rfl ?_
    refine ux_get C flX7_held_19 7 rfl rfl rfl dX7_held_19 ?_
    refine ux_iload_n C dX7_held_22 2 rfl ?_
    refine ux_callI C gkX7_held_153 (c_X2_find l D ad cA A σ key hk) rfl ⟨rfl, rfl⟩ ⟨(Nat.le_of_ble_eq_true rfl), (Nat.le_of_ble_eq_true rfl)⟩ ⟨Nat.le_refl _, Nat.le_refl _⟩ 2 rfl rfl rfl rfl (Nat.le_of_ble_eq_true rfl) dX7_held_23 (fun r σ1 hr => ?_)
    obtain ⟨rfl, rfl⟩ := hr
    refine ux_callI C gkX7_held_155 (c_X1_kindOf l D ad cA A σ t _ hh) rfl ⟨rfl, rfl⟩ ⟨(Nat.le_of_ble_eq_true rfl), (Nat.le_of_ble_eq_true rfl)⟩ ⟨Nat.le_refl _, Nat.le_refl _⟩ 1 rfl rfl rfl rfl (Nat.le_of_ble_eq_true rfl) dX7_held_26 (fun r σ1 hr => ?_)
    obtain ⟨rfl, rfl⟩ := hr
    exact ux_iret C dX7_held_29 (⟨(if_pos h).symm, uEq.refl σ⟩)
  · have h : u_act σ t = false := (pq_b0 _).mp h
    refine ux_iconst C ((-1 : Int32)) dX7_held_11 (by decide) ?_
    exact ux_iret C dX7_held_12 (⟨(if_neg (by rw [h]; decide)).symm, uEq.refl σ⟩)
set_option maxHeartbeats 4000000 in
set_option maxRecDepth 100000 in
theorem c_X7_blocker (l : Launch) (D : va_G) (ad : Nat → Nat) (cA : Nat → ClassId) (A : Nat → Prop) (σ : ST) (t key : Int32) (b : Bool) (hF : uF σ) (hH : uH σ) (hk : σ.2.1 1 ≤ 512) : ux_I l D vwCl (tyU cA) (wU ad cA) A yX7_blocker wsX7_blocker (ux_rm 3) [.ref (ad 7), .int t, .int key, .int (pq_b b)] σ (fun r σ' => r = u_blocker σ t key b ∧ uEq σ σ') := by
  refine ux_ofI (cc := cX7_blocker) (maxL := 4) (ret := (some .int)) (Ts := wsX7_blocker) (lv := [(0, .ref (ad 7)), (1, .int t), (2, .int key), (3, .int (pq_b b))]) (by decide) rfl (fun _ h => h) (Nat.le_of_ble_eq_true rfl) rfl ?_
  intro p e s m below meth c C
  refine ux_aload_n C dX7_blocker_0 0 rfl ?_
  refine ux_get C flX7_blocker_10 7 rfl rfl rfl dX7_blocker_1 ?_
  refine ux_iload_n C dX7_blocker_4 1 rfl ?_
  refine ux_callI C gkX7_blocker_93 (c_X0_isActive l D ad cA A σ t hF.1) rfl ⟨rfl, rfl⟩ ⟨(Nat.le_of_ble_eq_true rfl), (Nat.le_of_ble_eq_true rfl)⟩ ⟨Nat.le_refl _, Nat.le_refl _⟩ 0 rfl rfl rfl rfl (Nat.le_of_ble_eq_true rfl) dX7_blocker_5 (fun r σ1 hr => ?_)
  obtain ⟨rfl, rfl⟩ := hr
  refine ux_if_ne C 13 dX7_blocker_8 (by decide) (fun h => ?_) (fun h => ?_)
  · have h : u_act σ t = true := (pq_bn0 _).mp h
    obtain ⟨k, k1, k2, rfl, k3⟩ := (u_act_iff hF).mp h
    have hcl := nI_clamp (Nat.lt_of_le_of_lt (Nat.le_trans k2 hF.1) (show 150 < 2 ^ 31 by decide))
    have hu : u_blocker σ (nI k) key b = u_least σ k (pq_o (u_find σ key)) (if b = true then 2 else 1) := by rw [u_blocker, if_pos h, hcl]
    refine ux_aload_n C dX7_blocker_13 0 rfl ?_
    refine ux_iload_n C dX7_blocker_14 1 rfl ?_
    refine ux_aload_n C dX7_blocker_15 0 rfl ?_
    refine ux_get C flX7_blocker_19 7 rfl rfl rfl dX7_blocker_16 ?_
    refine ux_iload_n C dX7_blocker_19 2 rfl ?_
    refine ux_callI C gkX7_blocker_153 (c_X2_find l D ad cA A σ key hk) rfl ⟨rfl, rfl⟩ ⟨(Nat.le_of_ble_eq_true rfl), (Nat.le_of_ble_eq_true rfl)⟩ ⟨Nat.le_refl _, Nat.le_refl _⟩ 2 rfl rfl rfl rfl (Nat.le_of_ble_eq_true rfl) dX7_blocker_20 (fun r σ1 hr => ?_)
    obtain ⟨rfl, rfl⟩ := hr
    refine ux_iload_n C dX7_blocker_23 3 rfl ?_
    refine ux_if_eq C 31 dX7_blocker_24 (by decide) (fun h2 => ?_) (fun h2 => ?_)
    · have h2 := (pq_b0 _).mp h2
      subst h2
      refine ux_iconst C ((1 : Int32)) dX7_blocker_31 (by decide) ?_
      refine ux_callI C gkX7_blocker_158 (c_X7_leastInTheWay l D ad cA A σ k _ _ hF hH k2) rfl ⟨rfl, rfl⟩ ⟨(Nat.le_of_ble_eq_true rfl), (Nat.le_of_ble_eq_true rfl)⟩ ⟨Nat.le_refl _, Nat.le_refl _⟩ 7 rfl rfl rfl rfl (Nat.le_of_ble_eq_true rfl) dX7_blocker_32 (fun r σ1 hr => ?_)
      obtain ⟨f, rfl, rfl⟩ := hr
      exact ux_iret C dX7_blocker_35 (⟨hu.symm, (uEq.refl σ).sa2 f⟩)
    · have h2 := (pq_bn0 _).mp h2
      subst h2
      refine ux_iconst C ((2 : Int32)) dX7_blocker_27 (by decide) ?_
      refine ux_goto C 32 dX7_blocker_28 (by decide) ?_
      refine ux_callI C gkX7_blocker_158 (c_X7_leastInTheWay l D ad cA A σ k _ _ hF hH k2) rfl ⟨rfl, rfl⟩ ⟨(Nat.le_of_ble_eq_true rfl), (Nat.le_of_ble_eq_true rfl)⟩ ⟨Nat.le_refl _, Nat.le_refl _⟩ 7 rfl rfl rfl rfl (Nat.le_of_ble_eq_true rfl) dX7_blocker_32 (fun r σ1 hr => ?_)
      obtain ⟨f, rfl, rfl⟩ := hr
      exact ux_iret C dX7_blocker_35 (⟨hu.symm, (uEq.refl σ).sa2 f⟩)
  · have h : u_act σ t = false := (pq_b0 _).mp h
    refine ux_iconst C ((-1 : Int32)) dX7_blocker_11 (by decide) ?_
    exact ux_iret C dX7_blocker_12 (⟨(if_neg (by rw [h]; decide)).symm, uEq.refl σ⟩)
set_option maxHeartbeats 4000000 in
set_option maxRecDepth 100000 in
theorem c_X7_waits (l : Launch) (D : va_G) (ad : Nat → Nat) (cA : Nat → ClassId) (A : Nat → Prop) (σ : ST) (t : Int32) (hF : uF σ) (hH : uH σ) : ux_I l D vwCl (tyU cA) (wU ad cA) A yX7_waits wsX7_waits (ux_rm 3) [.ref (ad 7), .int t] σ (fun r σ' => r = u_waits σ t ∧ uEq σ σ') := by
  refine ux_ofI (cc := cX7_waits) (maxL := 2) (ret := (some .int)) (Ts := wsX7_waits) (lv := [(0, .ref (ad 7)), (1, .int t)]) (by decide) rfl (fun _ h => h) (Nat.le_of_ble_eq_true rfl) rfl ?_
  intro p e s m below meth c C
  refine ux_aload_n C dX7_waits_0 0 rfl ?_
  refine ux_get C flX7_waits_10 7 rfl rfl rfl dX7_waits_1 ?_
  refine ux_iload_n C dX7_waits_4 1 rfl ?_
  refine ux_callI C gkX7_waits_93 (c_X0_isActive l D ad cA A σ t hF.1) rfl ⟨rfl, rfl⟩ ⟨(Nat.le_of_ble_eq_true rfl), (Nat.le_of_ble_eq_true rfl)⟩ ⟨Nat.le_refl _, Nat.le_refl _⟩ 0 rfl rfl rfl rfl (Nat.le_of_ble_eq_true rfl) dX7_waits_5 (fun r σ1 hr => ?_)
  obtain ⟨rfl, rfl⟩ := hr
  refine ux_if_ne C 13 dX7_waits_8 (by decide) (fun h => ?_) (fun h => ?_)
  · have h : u_act σ t = true := (pq_bn0 _).mp h
    obtain ⟨k, k1, k2, rfl, k3⟩ := (u_act_iff hF).mp h
    have h150 := Nat.le_trans k2 hF.1
    have hcl := nI_clamp (Nat.lt_of_le_of_lt h150 (show 150 < 2 ^ 31 by decide))
    have hu : u_waits σ (nI k) = if σ.1 16 k = 0 then 0 else u_least σ k (σ.1 15 k) (σ.1 16 k) := by rw [u_waits, if_pos h, hcl]
    refine ux_aload_n C dX7_waits_13 0 rfl ?_
    refine ux_get C flX7_waits_47 7 rfl rfl rfl dX7_waits_14 ?_
    refine ux_iload_n C dX7_waits_17 1 rfl ?_
    refine ux_callI C gkX7_waits_162 (c_X5_has l D ad cA A σ k h150) rfl ⟨rfl, rfl⟩ ⟨(Nat.le_of_ble_eq_true rfl), (Nat.le_of_ble_eq_true rfl)⟩ ⟨Nat.le_refl _, Nat.le_refl _⟩ 5 rfl rfl rfl rfl (Nat.le_of_ble_eq_true rfl) dX7_waits_18 (fun r σ1 hr => ?_)
    obtain ⟨rfl, rfl⟩ := hr
    refine ux_if_eq C 48 dX7_waits_21 (by decide) (fun h2 => ?_) (fun h2 => ?_)
    · have h2 := (pq_b0 _).mp h2
      have h2 : σ.1 16 k = 0 := by simpa using h2
      refine ux_iconst C ((0 : Int32)) dX7_waits_48 (by decide) ?_
      exact ux_iret C dX7_waits_49 (⟨by rw [hu, if_pos h2], uEq.refl σ⟩)
    · have h2 := (pq_bn0 _).mp h2
      have h2 : ¬ σ.1 16 k = 0 := by simpa using h2
      refine ux_aload_n C dX7_waits_24 0 rfl ?_
      refine ux_iload_n C dX7_waits_25 1 rfl ?_
      refine ux_aload_n C dX7_waits_26 0 rfl ?_
      refine ux_get C flX7_waits_47 7 rfl rfl rfl dX7_waits_27 ?_
      refine ux_iload_n C dX7_waits_30 1 rfl ?_
      refine ux_callI C gkX7_waits_165 (c_X5_slotOf l D ad cA A σ k h150) rfl ⟨rfl, rfl⟩ ⟨(Nat.le_of_ble_eq_true rfl), (Nat.le_of_ble_eq_true rfl)⟩ ⟨Nat.le_refl _, Nat.le_refl _⟩ 5 rfl rfl rfl rfl (Nat.le_of_ble_eq_true rfl) dX7_waits_31 (fun r σ1 hr => ?_)
      obtain ⟨rfl, rfl⟩ := hr
      refine ux_aload_n C dX7_waits_34 0 rfl ?_
      refine ux_get C flX7_waits_47 7 rfl rfl rfl dX7_waits_35 ?_
      refine ux_iload_n C dX7_waits_38 1 rfl ?_
      refine ux_callI C gkX7_waits_168 (c_X5_kindOf l D ad cA A σ k h150) rfl ⟨rfl, rfl⟩ ⟨(Nat.le_of_ble_eq_true rfl), (Nat.le_of_ble_eq_true rfl)⟩ ⟨Nat.le_refl _, Nat.le_refl _⟩ 5 rfl rfl rfl rfl (Nat.le_of_ble_eq_true rfl) dX7_waits_39 (fun r σ1 hr => ?_)
      obtain ⟨rfl, rfl⟩ := hr
      refine ux_callI C gkX7_waits_158 (c_X7_leastInTheWay l D ad cA A σ k _ _ hF hH k2) rfl ⟨rfl, rfl⟩ ⟨(Nat.le_of_ble_eq_true rfl), (Nat.le_of_ble_eq_true rfl)⟩ ⟨Nat.le_refl _, Nat.le_refl _⟩ 7 rfl rfl rfl rfl (Nat.le_of_ble_eq_true rfl) dX7_waits_42 (fun r σ1 hr => ?_)
      obtain ⟨f, rfl, rfl⟩ := hr
      refine ux_goto C 49 dX7_waits_45 (by decide) ?_
      exact ux_iret C dX7_waits_49 (⟨by rw [hu, if_neg h2], (uEq.refl σ).sa2 f⟩)
  · have h : u_act σ t = false := (pq_b0 _).mp h
    refine ux_iconst C ((-1 : Int32)) dX7_waits_11 (by decide) ?_
    exact ux_iret C dX7_waits_12 (⟨(if_neg (by rw [h]; decide)).symm, uEq.refl σ⟩)

