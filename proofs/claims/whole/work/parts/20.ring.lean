theorem hiX7_drawWaits_7 : ∀ w ∈ wsX70, w ∈ wsX7_drawWaits := by decide +kernel
theorem flX7_drawWaits_10 : ux_F wsX7_drawWaits RX7 10 RX7 TX7 7 0 := ⟨hiX7_drawWaits_7, by decide, by decide +kernel⟩
theorem flX7_drawWaits_47 : ux_F wsX7_drawWaits RX7 47 RX7 TX7 7 5 := ⟨hiX7_drawWaits_7, by decide, by decide +kernel⟩
theorem flX7_drawWaits_33 : ux_F wsX7_drawWaits RX7 33 RX7 TX7 7 3 := ⟨hiX7_drawWaits_7, by decide, by decide +kernel⟩
theorem flX7_drawWaits_54 : ux_F wsX7_drawWaits RX7 54 RX7 TX7 7 6 := ⟨hiX7_drawWaits_7, by decide, by decide +kernel⟩
theorem hiX7_ring_7 : ∀ w ∈ wsX70, w ∈ wsX7_ring := by decide +kernel
theorem flX7_ring_54 : ux_F wsX7_ring RX7 54 RX7 TX7 7 6 := ⟨hiX7_ring_7, by decide, by decide +kernel⟩
theorem flX7_ring_10 : ux_F wsX7_ring RX7 10 RX7 TX7 7 0 := ⟨hiX7_ring_7, by decide, by decide +kernel⟩
theorem gkX7_drawWaits_133 : ux_G wsX7_drawWaits RX7 133 RX0 yX0_opened wsX0_opened 0 := ⟨gX7_drawWaits_X0_opened, by decide +kernel⟩
theorem gkX7_drawWaits_162 : ux_G wsX7_drawWaits RX7 162 RX5 yX5_has wsX5_has 1 := ⟨gX7_drawWaits_X5_has, by decide +kernel⟩
theorem gkX7_drawWaits_215 : ux_G wsX7_drawWaits RX7 215 RX0 yX0_trace wsX0_trace 1 := ⟨gX7_drawWaits_X0_trace, by decide +kernel⟩
theorem gkX7_drawWaits_218 : ux_G wsX7_drawWaits RX7 218 RX0 yX0_line wsX0_line 0 := ⟨gX7_drawWaits_X0_line, by decide +kernel⟩
theorem gkX7_drawWaits_237 : ux_G wsX7_drawWaits RX7 237 RX1 yX1_drawInTheWay wsX1_drawInTheWay 4 := ⟨gX7_drawWaits_X1_drawInTheWay, by decide +kernel⟩
theorem gkX7_drawWaits_235 : ux_G wsX7_drawWaits RX7 235 RX4 yX4_clear wsX4_clear 0 := ⟨gX7_drawWaits_X4_clear, by decide +kernel⟩
theorem gkX7_ring_170 : ux_G wsX7_ring RX7 170 RX7 yX7_drawWaits wsX7_drawWaits 0 := ⟨gX7_ring_X7_drawWaits, by decide +kernel⟩
theorem gkX7_ring_133 : ux_G wsX7_ring RX7 133 RX0 yX0_opened wsX0_opened 0 := ⟨gX7_ring_X0_opened, by decide +kernel⟩
theorem gkX7_ring_173 : ux_G wsX7_ring RX7 173 RX4 yX4_close wsX4_close 1 := ⟨gX7_ring_X4_close, by decide +kernel⟩
theorem gkX7_ring_177 : ux_G wsX7_ring RX7 177 RX4 yX4_leads wsX4_leads 2 := ⟨gX7_ring_X4_leads, by decide +kernel⟩
set_option maxHeartbeats 4000000 in
set_option maxRecDepth 100000 in
theorem c_X7_drawWaits (l : Launch) (D : va_G) (ad : Nat → Nat) (cA : Nat → ClassId) (A : Nat → Prop) (σ : ST) (hF : uF σ) (hH : uH σ) : ux_N l D vwCl (tyU cA) (wU ad cA) A yX7_drawWaits wsX7_drawWaits (ux_rm 2) [.ref (ad 7)] σ (fun σ' => ∃ f B, σ' = sb (sa σ 2 f) B ∧ ∀ a b, 1 ≤ a → a ≤ σ.2.1 0 → b ≤ 150 → pq_bit B a b = u_edge σ a b) := by
  refine ux_ofN (cc := cX7_drawWaits) (maxL := 2) (ret := none) (Ts := wsX7_drawWaits) (lv := [(0, .ref (ad 7))]) (by decide) rfl (fun _ h => h) (Nat.le_of_ble_eq_true rfl) rfl ?_
  intro p e s m below meth c C
  have hF0 := hF.1
  have loop : ∀ (q i : Nat) (f : Nat → Int32) (B : Nat → Int64), σ.2.1 0 + 2 ≤ i + q → 1 ≤ i → i ≤ σ.2.1 0 + 1 → (∀ a b, a ≤ 150 → b ≤ 150 → pq_bit B a b = (decide (1 ≤ a ∧ a < i) && u_edge σ a b)) → ux_V p l e (ux_rm 2) s m ([.ref (ad 7)] : List Value).toArray below meth c (MQ below (va_Qv (fun σ' => ∃ f B, σ' = sb (sa σ 2 f) B ∧ ∀ a b, 1 ≤ a → a ≤ σ.2.1 0 → b ≤ 150 → pq_bit B a b = u_edge σ a b) (fun σ' t => va_P D vwCl (wU ad cA σ') t.heap) A) ([.ref (ad 7)] : List Value).toArray s 0 0 A) 2 D vwCl (wU ad cA) A 0 0 (sb (sa σ 2 f) B) 9 [(1, .int (nI i)), (0, .ref (ad 7))] [] := by
    intro q
    induction q with
    | zero => intro i f B h1 h2 h3; omega
    | succ q ih =>
      intro i f B h1 h2 h3 h4
      refine ux_iload_n C dX7_drawWaits_9 0 rfl ?_
      refine ux_aload_n C dX7_drawWaits_10 1 rfl ?_
      refine ux_get C flX7_drawWaits_10 7 rfl rfl rfl dX7_drawWaits_11 ?_
      refine ux_callI C gkX7_drawWaits_133 (c_X0_opened l D ad cA A (sb (sa σ 2 f) B)) rfl ⟨rfl, rfl⟩ ⟨(Nat.le_of_ble_eq_true rfl), (Nat.le_of_ble_eq_true rfl)⟩ ⟨Nat.le_refl _, Nat.le_refl _⟩ 0 rfl rfl rfl rfl (Nat.le_of_ble_eq_true rfl) dX7_drawWaits_14 (fun r σ1 hr => ?_)
      obtain ⟨rfl, rfl⟩ := hr
      refine ux_icmp_gt C 68 dX7_drawWaits_17 (by decide) (fun hc => ?_) (fun hc => ?_)
      · have hc : nI (σ.2.1 0) < nI i := hc
        have hc := (nI_ltI (by omega) (by omega)).mp hc
        exact ux_vret C dX7_drawWaits_68 (⟨f, B, rfl, fun a b ha hb hd => by rw [h4 a b (by omega) hd, decide_eq_true (show 1 ≤ a ∧ a < i by omega)]; rfl⟩)
      · have hc : ¬ nI (σ.2.1 0) < nI i := hc
        have hc := mt (nI_ltI (by omega) (by omega)).mpr hc
        refine ux_aload_n C dX7_drawWaits_20 1 rfl ?_
        refine ux_get C flX7_drawWaits_47 7 rfl rfl rfl dX7_drawWaits_21 ?_
        refine ux_iload_n C dX7_drawWaits_24 0 rfl ?_
        refine ux_callI C gkX7_drawWaits_162 (c_X5_has l D ad cA A (sb (sa σ 2 f) B) i (by omega)) rfl ⟨rfl, rfl⟩ ⟨(Nat.le_of_ble_eq_true rfl), (Nat.le_of_ble_eq_true rfl)⟩ ⟨Nat.le_refl _, Nat.le_refl _⟩ 5 rfl rfl rfl rfl (Nat.le_of_ble_eq_true rfl) dX7_drawWaits_25 (fun r σ1 hr => ?_)
        obtain ⟨rfl, rfl⟩ := hr
        refine ux_if_eq C 62 dX7_drawWaits_28 (by decide) (fun h5 => ?_) (fun h5 => ?_)
        · have h5 : σ.1 16 i = 0 := by
            have h6 := (pq_b0 _).mp h5
            rw [Bool.not_eq_false', decide_eq_true_eq] at h6
            exact h6
          refine ux_iinc C (nI (i + 1)) [(1, _), (0, _)] dX7_drawWaits_62 0 rfl (pq_inc i) (by decide) rfl ?_
          refine ux_goto C 9 dX7_drawWaits_65 (by decide) ?_
          refine ih (i + 1) f B (by omega) (by omega) (by omega) (fun a b ha hb => ?_)
          rw [h4 a b ha hb]
          by_cases e : a = i
          · subst e; rw [u_edge, decide_eq_true h5]; simp
          · rw [show decide (1 ≤ a ∧ a < i) = decide (1 ≤ a ∧ a < i + 1) from decide_eq_decide.mpr (by omega)]
        · have h5 : ¬ σ.1 16 i = 0 := by
            have h6 := (pq_bn0 _).mp h5
            rw [Bool.not_eq_true', decide_eq_false_iff_not] at h6
            exact h6
          refine ux_aload_n C dX7_drawWaits_31 1 rfl ?_
          refine ux_get C flX7_drawWaits_10 7 rfl rfl rfl dX7_drawWaits_32 ?_
          refine ux_iload_n C dX7_drawWaits_35 0 rfl ?_
          refine ux_callN C gkX7_drawWaits_215 (c_X0_trace l D ad cA A (sb (sa σ 2 f) B) (uQ σ) i (by show i ≤ σ.2.1 0; omega) hF.1 (uF_dn hF) (fun u h1 h2 => (hF.2 u h1 h2).1)) rfl ⟨rfl, rfl⟩ ⟨(Nat.le_of_ble_eq_true rfl), (Nat.le_of_ble_eq_true rfl)⟩ ⟨Nat.le_refl _, Nat.le_refl _⟩ 0 rfl rfl rfl rfl (Nat.le_of_ble_eq_true rfl) dX7_drawWaits_36 (fun σ1 hr => ?_)
          obtain ⟨f2, rfl, hf2⟩ := hr
          refine ux_aload_n C dX7_drawWaits_39 1 rfl ?_
          refine ux_get C flX7_drawWaits_33 7 rfl rfl rfl dX7_drawWaits_40 ?_
          refine ux_iload_n C dX7_drawWaits_43 0 rfl ?_
          refine ux_aload_n C dX7_drawWaits_44 1 rfl ?_
          refine ux_get C flX7_drawWaits_47 7 rfl rfl rfl dX7_drawWaits_45 ?_
          refine ux_aload_n C dX7_drawWaits_48 1 rfl ?_
          refine ux_get C flX7_drawWaits_10 7 rfl rfl rfl dX7_drawWaits_49 ?_
          refine ux_callR C gkX7_drawWaits_218 (c_X0_line l D ad cA A _) rfl ⟨rfl, rfl⟩ ⟨(Nat.le_of_ble_eq_true rfl), (Nat.le_of_ble_eq_true rfl)⟩ ⟨Nat.le_refl _, Nat.le_refl _⟩ 0 rfl rfl rfl rfl (Nat.le_of_ble_eq_true rfl) dX7_drawWaits_52 (fun σ1 hr => ?_)
          subst hr
          refine ux_aload_n C dX7_drawWaits_55 1 rfl ?_
          refine ux_get C flX7_drawWaits_54 7 rfl rfl rfl dX7_drawWaits_56 ?_
          refine ux_callN C gkX7_drawWaits_237 (c_X1_drawInTheWay l D ad cA A _ i (by omega) hH.1 (fun r hr => (hH.2 r hr).imp id (fun ⟨o, o1, o2⟩ => ⟨o, Nat.le_trans o1 hF.1, o2⟩))) rfl ⟨rfl, rfl⟩ ⟨(Nat.le_of_ble_eq_true rfl), (Nat.le_of_ble_eq_true rfl)⟩ ⟨Nat.le_refl _, Nat.le_refl _⟩ 1 rfl rfl rfl rfl (Nat.le_of_ble_eq_true rfl) dX7_drawWaits_59 (fun σ1 hr => ?_)
          obtain ⟨B2, rfl, hB⟩ := hr
          refine ux_iinc C (nI (i + 1)) [(1, _), (0, _)] dX7_drawWaits_62 0 rfl (pq_inc i) (by decide) rfl ?_
          refine ux_goto C 9 dX7_drawWaits_65 (by decide) ?_
          refine ux_at (show sb (sa (sb (sa σ 2 f) B) 2 f2) B2 = sb (sa σ 2 f2) B2 from (show sb (sa (sa σ 2 f) 2 f2) B2 = sb (sa σ 2 f2) B2 from congrArg (fun z => sb z B2) (sa_sa σ 2 f f2))) ?_
          refine ih (i + 1) f2 B2 (by omega) (by omega) (by omega) (fun a b ha hb => ?_)
          have hB := hB a b hb
          have hw : ∀ r, r < σ.2.1 3 → pq_way (sa (sa σ 2 f) 2 f2) (σ.1 15 i) (σ.1 16 i) r = u_way σ i (σ.1 15 i) (σ.1 16 i) r := fun r hr => by
            rw [sa_sa]
            exact u_way_eq hH hf2 hF.1 _ _ hr
          have hB : pq_bit B2 a b = (pq_bit B a b || (decide (a = i) && (pq_fst (fun r => pq_way (sa (sa σ 2 f) 2 f2) (σ.1 15 i) (σ.1 16 i) r && decide (σ.1 11 r = nI b)) (σ.2.1 3)).isSome)) := hB
          rw [pq_fst_congr (q := fun r => u_way σ i (σ.1 15 i) (σ.1 16 i) r && decide (σ.1 11 r = nI b)) (fun r hr => by rw [hw r hr])] at hB
          rw [hB, h4 a b ha hb]
          by_cases e : a = i
          · subst e
            rw [decide_eq_false (show ¬ (1 ≤ a ∧ a < a) by omega), decide_eq_true (show 1 ≤ a ∧ a < a + 1 by omega), decide_eq_true (rfl : a = a), u_edge, decide_eq_false h5]
            rfl
          · rw [decide_eq_false e, show decide (1 ≤ a ∧ a < i) = decide (1 ≤ a ∧ a < i + 1) from decide_eq_decide.mpr (by omega)]
            simp
  refine ux_aload_n C dX7_drawWaits_0 0 rfl ?_
  refine ux_get C flX7_drawWaits_54 7 rfl rfl rfl dX7_drawWaits_1 ?_
  refine ux_callN C gkX7_drawWaits_235 (c_X4_clear l D ad cA A σ) rfl ⟨rfl, rfl⟩ ⟨(Nat.le_of_ble_eq_true rfl), (Nat.le_of_ble_eq_true rfl)⟩ ⟨Nat.le_refl _, Nat.le_refl _⟩ 4 rfl rfl rfl rfl (Nat.le_of_ble_eq_true rfl) dX7_drawWaits_4 (fun σ1 hr => ?_)
  obtain ⟨B, rfl, hB⟩ := hr
  refine ux_iconst C (nI 1) dX7_drawWaits_7 (by decide) ?_
  refine ux_istore_n C [(1, _), (0, _)] dX7_drawWaits_8 rfl (by decide) rfl ?_
  refine ux_at (show sb σ B = sb (sa σ 2 (σ.1 2)) B by rw [sa_self]) ?_
  refine loop (σ.2.1 0 + 2) 1 _ B (by omega) (by omega) (by omega) (fun a b ha hb => ?_)
  rw [decide_eq_false (show ¬ (1 ≤ a ∧ a < 1) by omega), pq_bit, hB _ (by omega)]
  simp
set_option maxHeartbeats 4000000 in
set_option maxRecDepth 100000 in
theorem c_X7_ring (l : Launch) (D : va_G) (ad : Nat → Nat) (cA : Nat → ClassId) (A : Nat → Prop) (σ : ST) (hF : uF σ) (hH : uH σ) : ux_I l D vwCl (tyU cA) (wU ad cA) A yX7_ring wsX7_ring (ux_rm 3) [.ref (ad 7)] σ (fun r σ' => r = u_ring σ ∧ uEq σ σ') := by
  refine ux_ofI (cc := cX7_ring) (maxL := 2) (ret := (some .int)) (Ts := wsX7_ring) (lv := [(0, .ref (ad 7))]) (by decide) rfl (fun _ h => h) (Nat.le_of_ble_eq_true rfl) rfl ?_
  intro p e s m below meth c C
  have hF0 := hF.1
  refine ux_aload_n C dX7_ring_0 0 rfl ?_
  refine ux_callN C gkX7_ring_170 (c_X7_drawWaits l D ad cA A σ hF hH) rfl ⟨rfl, rfl⟩ ⟨(Nat.le_of_ble_eq_true rfl), (Nat.le_of_ble_eq_true rfl)⟩ ⟨Nat.le_refl _, Nat.le_refl _⟩ 7 rfl rfl rfl rfl (Nat.le_of_ble_eq_true rfl) dX7_ring_1 (fun σ1 hr => ?_)
  obtain ⟨f, B, rfl, hB⟩ := hr
  refine ux_aload_n C dX7_ring_4 0 rfl ?_
  refine ux_get C flX7_ring_54 7 rfl rfl rfl dX7_ring_5 ?_
  refine ux_aload_n C dX7_ring_8 0 rfl ?_
  refine ux_get C flX7_ring_10 7 rfl rfl rfl dX7_ring_9 ?_
  refine ux_callI C gkX7_ring_133 (c_X0_opened l D ad cA A _) rfl ⟨rfl, rfl⟩ ⟨(Nat.le_of_ble_eq_true rfl), (Nat.le_of_ble_eq_true rfl)⟩ ⟨Nat.le_refl _, Nat.le_refl _⟩ 0 rfl rfl rfl rfl (Nat.le_of_ble_eq_true rfl) dX7_ring_12 (fun r σ1 hr => ?_)
  obtain ⟨rfl, rfl⟩ := hr
  refine ux_callN C gkX7_ring_173 (c_X4_close l D ad cA A (sb (sa σ 2 f) B) (σ.2.1 0) hF0 (u_edge σ) hB) rfl ⟨rfl, rfl⟩ ⟨(Nat.le_of_ble_eq_true rfl), (Nat.le_of_ble_eq_true rfl)⟩ ⟨Nat.le_refl _, Nat.le_refl _⟩ 4 rfl rfl rfl rfl (Nat.le_of_ble_eq_true rfl) dX7_ring_15 (fun σ1 hr => ?_)
  obtain ⟨B2, rfl, hB2⟩ := hr
  have loop : ∀ (q i : Nat), σ.2.1 0 + 1 ≤ i + q → i ≤ σ.2.1 0 → (∀ j, j < i → pq_cl (u_edge σ) (σ.2.1 0) (j + 1) (j + 1) = false) → ux_V p l e (ux_rm 3) s m ([.ref (ad 7)] : List Value).toArray below meth c (MQ below (va_Qi (fun r σ' => r = u_ring σ ∧ uEq σ σ') (fun σ' t => va_P D vwCl (wU ad cA σ') t.heap) A) ([.ref (ad 7)] : List Value).toArray s 0 0 A) 2 D vwCl (wU ad cA) A 0 0 (sb (sa σ 2 f) B2) 20 [(1, .int (nI (i + 1))), (0, .ref (ad 7))] [] := by
    intro q
    induction q with
    | zero => intro i h1 h2; omega
    | succ q ih =>
      intro i h1 h2 h3
      refine ux_iload_n C dX7_ring_20 0 rfl ?_
      refine ux_aload_n C dX7_ring_21 1 rfl ?_
      refine ux_get C flX7_ring_10 7 rfl rfl rfl dX7_ring_22 ?_
      refine ux_callI C gkX7_ring_133 (c_X0_opened l D ad cA A (sb (sa σ 2 f) B2)) rfl ⟨rfl, rfl⟩ ⟨(Nat.le_of_ble_eq_true rfl), (Nat.le_of_ble_eq_true rfl)⟩ ⟨Nat.le_refl _, Nat.le_refl _⟩ 0 rfl rfl rfl rfl (Nat.le_of_ble_eq_true rfl) dX7_ring_25 (fun r σ1 hr => ?_)
      obtain ⟨rfl, rfl⟩ := hr
      refine ux_icmp_gt C 51 dX7_ring_28 (by decide) (fun hc => ?_) (fun hc => ?_)
      · have hc : nI (σ.2.1 0) < nI (i + 1) := hc
        have hc := (nI_ltI (by omega) (by omega)).mp hc
        have e : i = σ.2.1 0 := by omega
        subst e
        refine ux_iconst C ((0 : Int32)) dX7_ring_51 (by decide) ?_
        exact ux_iret C dX7_ring_52 (⟨by rw [u_ring, pq_fst_none.mpr h3], (uEq.refl σ).sa2 f⟩)
      · have hc : ¬ nI (σ.2.1 0) < nI (i + 1) := hc
        have hc := mt (nI_ltI (by omega) (by omega)).mpr hc
        refine ux_aload_n C dX7_ring_31 1 rfl ?_
        refine ux_get C flX7_ring_54 7 rfl rfl rfl dX7_ring_32 ?_
        refine ux_iload_n C dX7_ring_35 0 rfl ?_
        refine ux_iload_n C dX7_ring_36 0 rfl ?_
        refine ux_callI C gkX7_ring_177 (c_X4_leads l D ad cA A (sb (sa σ 2 f) B2) (i + 1) (i + 1) (by omega) (by omega)) rfl ⟨rfl, rfl⟩ ⟨(Nat.le_of_ble_eq_true rfl), (Nat.le_of_ble_eq_true rfl)⟩ ⟨Nat.le_refl _, Nat.le_refl _⟩ 4 rfl rfl rfl rfl (Nat.le_of_ble_eq_true rfl) dX7_ring_37 (fun r σ1 hr => ?_)
        obtain ⟨rfl, rfl⟩ := hr
        refine ux_if_eq C 45 dX7_ring_40 (by decide) (fun h5 => ?_) (fun h5 => ?_)
        · have h5 : pq_bit B2 (i + 1) (i + 1) = false := (pq_b0 _).mp h5
          rw [hB2 _ _ (by omega) (by omega) (by omega)] at h5
          refine ux_iinc C (nI (i + 1 + 1)) [(1, _), (0, _)] dX7_ring_45 0 rfl (pq_inc (i + 1)) (by decide) rfl ?_
          refine ux_goto C 20 dX7_ring_48 (by decide) ?_
          exact ih (i + 1) (by omega) (by omega) (fun j hj => by rcases Nat.lt_succ_iff_lt_or_eq.mp hj with h | h; exact h3 j h; subst h; exact h5)
        · have h5 : pq_bit B2 (i + 1) (i + 1) = true := (pq_bn0 _).mp h5
          rw [hB2 _ _ (by omega) (by omega) (by omega)] at h5
          refine ux_iload_n C dX7_ring_43 0 rfl ?_
          exact ux_iret C dX7_ring_44 (⟨by rw [u_ring, (pq_fst_some (p := fun j => pq_cl (u_edge σ) (σ.2.1 0) (j + 1) (j + 1)) (i := i)).mpr ⟨by omega, h5, h3⟩], (uEq.refl σ).sa2 f⟩)
  refine ux_iconst C (nI 1) dX7_ring_18 (by decide) ?_
  refine ux_istore_n C [(1, _), (0, _)] dX7_ring_19 rfl (by decide) rfl ?_
  exact loop (σ.2.1 0 + 1) 0 (by omega) (by omega) (fun j hj => by omega)

