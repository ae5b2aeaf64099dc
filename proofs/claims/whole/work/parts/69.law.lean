theorem law_gt {L j : Nat} (hL : L ≤ 2048) (hj : j ≤ 2048) : nI L - 4 < nI j ↔ L < j + 4 := by
  have h4 : (4 : Int32).toInt = 4 := by decide
  have h : (nI L - 4).toInt = (L : Int) - 4 := by
    rw [Int32.toInt_sub, nI_toInt (by omega), h4, Int.bmod_def]
    split <;> omega
  rw [Int32.lt_iff_toInt_lt, h, nI_toInt (by omega)]
  omega
set_option maxHeartbeats 4000000 in
set_option maxRecDepth 100000 in
theorem law_loop {p : Program} {l : Launch} {e : Env} {s : State} {m : MethodId} {below : List Frame} {meth : Method} {c : Code} {D : va_G} {ad : Nat → Nat} {cA : Nat → ClassId} {ae : Nat → Nat} {cB : Nat → ClassId} {b L : Nat} {xs : Nat → Int32} (hL : L ≤ 2048) (C0 : lw_At p s m meth c b L xs) (C : lwC p s m meth c D ad cA ae cB b) :
    ∀ (g n : Nat), 4 * n ≤ L → L + 1 ≤ 4 * n + 4 * g → ∀ (σ τ : ST), Rel n σ τ → ux_V p l e room_1 s m #[Value.ref b] below meth c (lw_Z below #[Value.ref b] s) 4 D vwCl (lwW ad cA ae cB) (fun q => s.heap.size ≤ q) 600000 7302250 (σ, τ) 18 [(0, .ref b), (1, .ref (ad 7)), (2, .ref (ae 0)), (3, .int (nI (4 * n)))] [] := by
  obtain ⟨hx, hb, hr, hml, hown, hts, hX, hbl, hlocks, hgv⟩ := C0
  have hbA : ¬ s.heap.size ≤ b := Nat.not_le.mpr hbl
  intro g
  induction g with
  | zero => intro n h1 h2; exact absurd h2 (by omega)
  | succ g ih =>
    intro n h1 h2 σ τ hR
    refine ux_iload_n C dL_law_18 3 rfl ?_
    refine ux_aload_n C dL_law_19 0 rfl ?_
    refine ux_slen C hX hbl hbA dL_law_20 ?_
    refine ux_iconst C 4 dL_law_21 rfl ?_
    refine ux_isub C dL_law_22 ?_
    refine ux_icmp_gt C 642 dL_law_23 (by decide) (fun hgt => ?_) (fun hle => ?_)
    · refine ux_iconst C 1 dL_law_642 rfl ?_
      intro H locs ls hP hS hl
      refine va_forget (fun q hq => hS.2.2 q hq) ?_
      exact lw_ret hx hb hr hlocks dL_law_643
    · have hj : 4 * n + 4 ≤ L := by
        have := mt (law_gt hL (show 4 * n ≤ 2048 by omega)).mpr hle
        omega
      have hc : n < 512 := by omega
      have K : ∀ σ' τ', Rel (n + 1) σ' τ' → ux_V p l e room_1 s m #[Value.ref b] below meth c (lw_Z below #[Value.ref b] s) 4 D vwCl (lwW ad cA ae cB) (fun q => s.heap.size ≤ q) 600000 7302250 (σ', τ') 636 [(0, .ref b), (1, .ref (ad 7)), (2, .ref (ae 0)), (3, .int (nI (4 * n)))] [] := by
        intro σ' τ' hR'
        refine ux_iinc C (nI (4 * (n + 1))) [(3, .int (nI (4 * (n + 1)))), (0, .ref b), (1, .ref (ad 7)), (2, .ref (ae 0))] dL_law_636 3 rfl (nI_add (4 * n) 4) (by decide) rfl ?_
        refine ux_goto C 18 dL_law_639 (by decide) ?_
        refine ux_sub [(0, .ref b), (1, .ref (ad 7)), (2, .ref (ae 0)), (3, .int (nI (4 * (n + 1))))] [1, 2, 3, 0] rfl ?_
        exact ih (n + 1) (by omega) (by omega) σ' τ' hR'
      refine ux_aload_n C dL_law_26 0 rfl ?_
      refine ux_iload_n C dL_law_27 3 rfl ?_
      refine ux_sld C hX hbl hbA (4 * n) rfl (by omega) (by omega) dL_law_28 ?_
      refine ux_bipush C 31 dL_law_29 (by decide) ?_
      refine ux_iand C dL_law_31 ?_
      generalize xs (4 * n) &&& 31 = v
      by_cases hv : 0 ≤ v.toInt ∧ v.toInt ≤ 16
      · obtain ⟨k, hk⟩ : ∃ k : Nat, v.toInt = (k : Int) := ⟨v.toInt.toNat, by omega⟩
        rcases (show k = 0 ∨ k = 1 ∨ k = 2 ∨ k = 3 ∨ k = 4 ∨ k = 5 ∨ k = 6 ∨ k = 7 ∨ k = 8 ∨ k = 9 ∨ k = 10 ∨ k = 11 ∨ k = 12 ∨ k = 13 ∨ k = 14 ∨ k = 15 ∨ k = 16 by omega) with rfl | rfl | rfl | rfl | rfl | rfl | rfl | rfl | rfl | rfl | rfl | rfl | rfl | rfl | rfl | rfl | rfl
        · exact ux_tableIn C 116 dL_law_32 (by rw [hk]; decide) (by rw [hk]; decide) (by rw [hk]; rfl) (by decide) (lx_open C hX hbl hL hj hR hc K)
        · exact ux_tableIn C 139 dL_law_32 (by rw [hk]; decide) (by rw [hk]; decide) (by rw [hk]; rfl) (by decide) (lx_get C hX hbl hL hj hR hc K)
        · exact ux_tableIn C 173 dL_law_32 (by rw [hk]; decide) (by rw [hk]; decide) (by rw [hk]; rfl) (by decide) (lx_put C hX hbl hL hj hR hc K)
        · exact ux_tableIn C 216 dL_law_32 (by rw [hk]; decide) (by rw [hk]; decide) (by rw [hk]; rfl) (by decide) (lx_take C hX hbl hL hj hR hc K)
        · exact ux_tableIn C 249 dL_law_32 (by rw [hk]; decide) (by rw [hk]; decide) (by rw [hk]; rfl) (by decide) (lx_mark C hX hbl hL hj hR hc K)
        · exact ux_tableIn C 272 dL_law_32 (by rw [hk]; decide) (by rw [hk]; decide) (by rw [hk]; rfl) (by decide) (lx_back C hX hbl hL hj hR hc K)
        · exact ux_tableIn C 305 dL_law_32 (by rw [hk]; decide) (by rw [hk]; decide) (by rw [hk]; rfl) (by decide) (lx_commit C hX hbl hL hj hR hc K)
        · exact ux_tableIn C 328 dL_law_32 (by rw [hk]; decide) (by rw [hk]; decide) (by rw [hk]; rfl) (by decide) (lx_abort C hX hbl hL hj hR hc K)
        · exact ux_tableIn C 351 dL_law_32 (by rw [hk]; decide) (by rw [hk]; decide) (by rw [hk]; rfl) (by decide) (lx_state C hX hbl hL hj hR hc K)
        · exact ux_tableIn C 374 dL_law_32 (by rw [hk]; decide) (by rw [hk]; decide) (by rw [hk]; rfl) (by decide) (lx_told C hX hbl hL hj hR hc K)
        · exact ux_tableIn C 407 dL_law_32 (by rw [hk]; decide) (by rw [hk]; decide) (by rw [hk]; rfl) (by decide) (lx_held C hX hbl hL hj hR hc K)
        · exact ux_tableIn C 440 dL_law_32 (by rw [hk]; decide) (by rw [hk]; decide) (by rw [hk]; rfl) (by decide) (lx_blocker C hX hbl hL hj hR hc K)
        · exact ux_tableIn C 499 dL_law_32 (by rw [hk]; decide) (by rw [hk]; decide) (by rw [hk]; rfl) (by decide) (lx_waits C hX hbl hL hj hR hc K)
        · exact ux_tableIn C 522 dL_law_32 (by rw [hk]; decide) (by rw [hk]; decide) (by rw [hk]; rfl) (by decide) (lx_ring C hX hbl hL hj hR hc K)
        · exact ux_tableIn C 535 dL_law_32 (by rw [hk]; decide) (by rw [hk]; decide) (by rw [hk]; rfl) (by decide) (lx_size C hX hbl hL hj hR hc K)
        · exact ux_tableIn C 558 dL_law_32 (by rw [hk]; decide) (by rw [hk]; decide) (by rw [hk]; rfl) (by decide) (lx_next C hX hbl hL hj hR hc K)
        · exact ux_tableIn C 592 dL_law_32 (by rw [hk]; decide) (by rw [hk]; decide) (by rw [hk]; rfl) (by decide) (lx_sum C hX hbl hL hj hR hc K)
      · exact ux_tableOut C 636 dL_law_32 (by omega) (by decide) (K σ τ (hR.up hc))
theorem fr_same {A : Nat → Prop} {w w' : va_W} (h : va_D A w) (he : w.map Prod.fst = w'.map Prod.fst) : va_D A w' := by
  have at' : ∀ (k : Nat) (q : Nat × va_E), w'[k]? = some q → ∃ x, w[k]? = some x ∧ x.1 = q.1 := by
    intro k q hk
    have h1 : (w'.map Prod.fst)[k]? = some q.1 := by rw [List.getElem?_map, hk]; rfl
    rw [← he, List.getElem?_map] at h1
    cases hx : w[k]? with
    | none => rw [hx] at h1; cases h1
    | some x => rw [hx] at h1; exact ⟨x, rfl, Option.some.inj h1⟩
  refine ⟨fun i j p q hi hj e => ?_, fun k q hk => ?_⟩
  · obtain ⟨x, x1, x2⟩ := at' i p hi
    obtain ⟨y, y1, y2⟩ := at' j q hj
    exact h.1 i j x y x1 y1 (x2.trans (e.trans y2.symm))
  · obtain ⟨x, x1, x2⟩ := at' k q hk
    rw [← x2]; exact h.2 k x x1
set_option maxHeartbeats 16000000 in
set_option maxRecDepth 100000 in
theorem whole_start {p : Program} {e : Env} {s : State} {m : MethodId} {below : List Frame} {meth : Method} {c : Code} (l : Launch) {b L : Nat} {xs : Nat → Int32} (hL : L ≤ 2048) (C0 : lw_At p s m meth c b L xs) : W p l e room_1 s m #[Value.ref b] below meth c s.heap [] 0 0 (lw_Z below #[Value.ref b] s) (entryFrame m ([Value.ref b] : List Value).toArray 4) := by
  obtain ⟨hx, hb, hr, hml, hown, hts, hX, hbl, hlocks, hgv⟩ := id C0
  have hown : s.vm.findClass RL = some m.cls := hown
  have hb : c.code = cL_law := hb
  have hA : ∀ q : Nat, s.heap.size ≤ q → (fun q : Nat => s.heap.size ≤ q) q := fun _ h => h
  have hws : ∀ w ∈ wsL_law, w.before #[Value.ref b] s = true := fun w h => hts w (wsL_law_in w h)
  have hN : nw7 s := ⟨va_Nw.of rfl (hts _ nest_9), va_Nw.of rfl (hts _ nest_18), va_Nw.of rfl (hts _ nest_25), va_Nw.of rfl (hts _ nest_32), va_Nw.of rfl (hts _ nest_39), va_Nw.of rfl (hts _ nest_46), va_Nw.of rfl (hts _ nest_53)⟩
  obtain ⟨c0, i0, hKn0⟩ := u_known (C := RX0) (T := TX0) (N := 4) (n := 4) hts inX0 (hws (.instantiable RX0 4) (List.mem_of_getElem? (i := 13) rfl))
  obtain ⟨c1, i1, hKn1⟩ := u_known (C := RX1) (T := TX1) (N := 4) (n := 4) hts inX1 (hws (.instantiable RX1 4) (List.mem_of_getElem? (i := 25) rfl))
  obtain ⟨c2, i2, hKn2⟩ := u_known (C := RX2) (T := TX2) (N := 2) (n := 2) hts inX2 (hws (.instantiable RX2 2) (List.mem_of_getElem? (i := 17) rfl))
  obtain ⟨c3, i3, hKn3⟩ := u_known (C := RX3) (T := TX3) (N := 2) (n := 2) hts inX3 (hws (.instantiable RX3 2) (List.mem_of_getElem? (i := 29) rfl))
  obtain ⟨c4, i4, hKn4⟩ := u_known (C := RX4) (T := TX4) (N := 1) (n := 1) hts inX4 (hws (.instantiable RX4 1) (List.mem_of_getElem? (i := 37) rfl))
  obtain ⟨c5, i5, hKn5⟩ := u_known (C := RX5) (T := TX5) (N := 2) (n := 2) hts inX5 (hws (.instantiable RX5 2) (List.mem_of_getElem? (i := 33) rfl))
  obtain ⟨c6, i6, hKn6⟩ := u_known (C := RX6) (T := TX6) (N := 8) (n := 8) hts inX6 (hws (.instantiable RX6 8) (List.mem_of_getElem? (i := 21) rfl))
  obtain ⟨c7, i7, hKn7⟩ := u_known (C := RX7) (T := TX7) (N := 7) (n := 7) hts inX7 (hws (.instantiable RX7 7) (List.mem_of_getElem? (i := 1) rfl))
  obtain ⟨c8, i8, hKn8⟩ := u_known (C := RX8) (T := TX8) (N := 16) (n := 16) hts inX8 (hws (.instantiable RX8 16) (List.mem_of_getElem? (i := 4) rfl))
  obtain ⟨D, hKc⟩ : ∃ (D : va_G), ∀ (k : Nat) (q : vw_C), vwCl[k]? = some q → u_Kn s q.1 q.2.1 q.2.2 (D.1 k) (D.2 k) := by
    refine ⟨(fun k => ([c0, c1, c2, c3, c4, c5, c6, c7, c8] : List ClassId).getD k c0, fun k => ([i0, i1, i2, i3, i4, i5, i6, i7, i8] : List (Nat → Nat)).getD k i0), ?_⟩
    intro k q hq
    match k, hq with
    | 0, hq => cases hq; exact hKn0
    | 1, hq => cases hq; exact hKn1
    | 2, hq => cases hq; exact hKn2
    | 3, hq => cases hq; exact hKn3
    | 4, hq => cases hq; exact hKn4
    | 5, hq => cases hq; exact hKn5
    | 6, hq => cases hq; exact hKn6
    | 7, hq => cases hq; exact hKn7
    | 8, hq => cases hq; exact hKn8
    | k + 9, hq => simp [vwCl] at hq
  have hS : va_S (fun q : Nat => s.heap.size ≤ q) s.heap s.heap [] := va_S.rf
  have hK : va_K D vwCl [] s := ⟨hKc, fun k q h => by simp at h⟩
  have hP : va_P D vwCl [] s.heap := fun k q h => by simp at h
  have hD : va_D (fun q : Nat => s.heap.size ≤ q) [] := ⟨fun i j p q h => by simp at h, fun k q h => by simp at h⟩
  have hl := lv_entry ([.ref b]) (n := 4) (Nat.le_of_ble_eq_true rfl)
  rw [lg_entry_eq]
  generalize (lg_sl ([.ref b]) ++ List.replicate (4 - (lg_sl ([.ref b])).length) Slot.unset).toArray = ls at hl ⊢
  have hl : lv_has ls 4 [(0, .ref b)] := hl
  refine va_new (ci := 7) (fs := [.null, .null, .null, .null, .null, .null, .null]) (C := RX7) (T := TX7) (N := 7) hx hb hts inX7 tyX7 tyX7_ok hown (hws (.classLink RL 7 RX7) (List.mem_of_getElem? (i := 0) rfl)) (hws (.instantiable RX7 7) (List.mem_of_getElem? (i := 1) rfl)) (hws (.initialized RX7) (List.mem_of_getElem? (i := 2) rfl)) hK hP hD hS hA rfl (fun j hj => by rcases (show j = 0 ∨ j = 1 ∨ j = 2 ∨ j = 3 ∨ j = 4 ∨ j = 5 ∨ j = 6 by omega) with rfl | rfl | rfl | rfl | rfl | rfl | rfl <;> rfl) (Nat.le_of_ble_eq_true rfl) (Nat.le_of_ble_eq_true rfl) dL_law_0 (fun q7 H hP hD hS => ?_)
  have hP : va_P D vwCl (iw7 q7) H := hP
  have hD : va_D (fun q : Nat => s.heap.size ≤ q) (iw7 q7) := hD
  refine W.widen (k := 1) (n := 7) (Nat.le_of_ble_eq_true rfl) (Nat.le_of_ble_eq_true rfl) ?_
  refine lv_dup hx hb dL_law_3 rfl ?_
  have hKc := hK.sub (tys' := []) [] rfl
  have hFc := va_free (wc := iw7 q7) hD hS hA [0] rfl
  refine va_callv (va_runI (As := []) (rest := [.ref q7]) ⟨hx, hb, hml, hown, hws⟩ (c_X7_init l D q7 H.size) (cwI 0 hws gL_law_X7_init rfl rfl rfl (hws (.initialized RX7) (List.mem_of_getElem? (i := 2) rfl)) (hws (.methodLink RL 9 yX7_init) (List.mem_of_getElem? (i := 6) rfl)) (hws (.instanceMethod yX7_init) (List.mem_of_getElem? (i := 7) rfl)) rfl (by decide +kernel) ⟨Nat.le_of_ble_eq_true rfl, Nat.le_of_ble_eq_true rfl⟩) ⟨fun a U g mk q => by obtain ⟨q0, q1, qP, qK, qD, qN⟩ := q; exact ⟨q0, q1, qP, va_K.moved (u := U) (U := U.calling g mk a) (Vm.Alike.refl U.vm) qK, qD, nw7.same (u := U) rfl qN⟩, fun U hU hW => ⟨rfl, by rw [hU], by rw [hU]; exact hP, va_K.moved hW.alike hKc, hD.weaken (fun _ _ _ _ => trivial), hN.warm hW⟩⟩ rfl rfl hl.1 rfl (lv_room (Nat.le_of_ble_eq_true rfl)) dL_law_4 ⟨Nat.le_of_ble_eq_true rfl, Nat.le_of_ble_eq_true rfl⟩) hS (fun q _ h => hFc q h) hFc (fun u t H1 locs ht hvm hw hB hz1 hk1 hS => ?_)
  obtain ⟨ad, cA, had, hP1, hK1, hD1⟩ := hB
  rw [ht] at hP1
  have hK1 := va_K.moved hvm.symm hK1
  obtain ⟨hP, hD⟩ := va_join (wr := []) (w1 := wU ad cA σz) hP hD [0] [] rfl rfl (by decide) (by decide) hk1 hFc hP1 hD1
  generalize H1 = H at hP hS ⊢
  have hP : va_P D vwCl (wU ad cA σz) H := hP
  have hD : va_D (fun q : Nat => s.heap.size ≤ q) (wU ad cA σz) := hD
  have hK : va_K D vwCl (tyU cA) s := hK1
  refine W.widen (k := 26) (n := 7382) (Nat.le_of_ble_eq_true rfl) (Nat.le_of_ble_eq_true rfl) ?_
  refine lv_astore_n (lv' := [(1, .ref q7), (0, .ref b)]) hx hb dL_law_7 rfl hl (by decide) rfl (fun ls hl => ?_)
  refine va_new (ci := 8) (fs := [.null, .int 0, .null, .null, .null, .null, .null, .int 0, .null, .null, .null, .null, .null, .null, .int 0, .null]) (C := RX8) (T := TX8) (N := 16) hx hb hts inX8 tyX8 tyX8_ok hown (hws (.classLink RL 10 RX8) (List.mem_of_getElem? (i := 3) rfl)) (hws (.instantiable RX8 16) (List.mem_of_getElem? (i := 4) rfl)) (hws (.initialized RX8) (List.mem_of_getElem? (i := 5) rfl)) hK hP hD hS hA rfl (fun j hj => by rcases (show j = 0 ∨ j = 1 ∨ j = 2 ∨ j = 3 ∨ j = 4 ∨ j = 5 ∨ j = 6 ∨ j = 7 ∨ j = 8 ∨ j = 9 ∨ j = 10 ∨ j = 11 ∨ j = 12 ∨ j = 13 ∨ j = 14 ∨ j = 15 by omega) with rfl | rfl | rfl | rfl | rfl | rfl | rfl | rfl | rfl | rfl | rfl | rfl | rfl | rfl | rfl | rfl <;> rfl) (Nat.le_of_ble_eq_true rfl) (Nat.le_of_ble_eq_true rfl) dL_law_8 (fun q8 H hP hD hS => ?_)
  have hP : va_P D vwCl (wU ad cA σz ++ iw8 q8) H := hP
  have hD : va_D (fun q : Nat => s.heap.size ≤ q) (wU ad cA σz ++ iw8 q8) := hD
  refine W.widen (k := 27) (n := 7398) (Nat.le_of_ble_eq_true rfl) (Nat.le_of_ble_eq_true rfl) ?_
  refine lv_dup hx hb dL_law_11 rfl ?_
  have hPc : va_P D vwCl (iw8 q8) H := fr_Pr hP
  have hDc : va_D (fun q : Nat => s.heap.size ≤ q) (iw8 q8) := fr_Dr hD
  have hKc := hK.sub (tys' := []) [] rfl
  have hFc := va_free (wc := iw8 q8) hD hS hA [26] rfl
  refine va_callv (va_runI (As := []) (rest := [.ref q8]) ⟨hx, hb, hml, hown, hws⟩ (c_X8_init l D q8 H.size) (cwI 0 hws gL_law_X8_init rfl rfl rfl (hws (.initialized RX8) (List.mem_of_getElem? (i := 5) rfl)) (hws (.methodLink RL 12 yX8_init) (List.mem_of_getElem? (i := 87) rfl)) (hws (.instanceMethod yX8_init) (List.mem_of_getElem? (i := 88) rfl)) rfl (by decide +kernel) ⟨Nat.le_of_ble_eq_true rfl, Nat.le_of_ble_eq_true rfl⟩) ⟨fun a U g mk q => by obtain ⟨q0, q1, qP, qK, qD⟩ := q; exact ⟨q0, q1, qP, va_K.moved (u := U) (U := U.calling g mk a) (Vm.Alike.refl U.vm) qK, qD⟩, fun U hU hW => ⟨rfl, by rw [hU], by rw [hU]; exact hPc, va_K.moved hW.alike hKc, hDc.weaken (fun _ _ _ _ => trivial)⟩⟩ rfl rfl hl.1 rfl (lv_room (Nat.le_of_ble_eq_true rfl)) dL_law_12 ⟨Nat.le_of_ble_eq_true rfl, Nat.le_of_ble_eq_true rfl⟩) hS (fun q _ h => hFc q h) hFc (fun u t H1 locs ht hvm hw hB hz1 hk1 hS => ?_)
  obtain ⟨a0, a1, a2, a3, a4, a5, a6, a7, a8, a9, a10, a11, a12, e0, e1, e2, e3, e4, e5, e6, e7, e8, e9, e10, e11, e12, hP1, hK1, hD1⟩ := hB
  rw [ht] at hP1
  have hK1 := va_K.moved hvm.symm hK1
  obtain ⟨hP, hD⟩ := va_join (wr := wU ad cA σz) (w1 := jw8 q8 a0 a1 a2 a3 a4 a5 a6 a7 a8 a9 a10 a11 a12 e0 e1 e2 e3 e4 e5 e6 e7 e8 e9 e10 e11 e12) hP hD [26] [0, 1, 2, 3, 4, 5, 6, 7, 8, 9, 10, 11, 12, 13, 14, 15, 16, 17, 18, 19, 20, 21, 22, 23, 24, 25] rfl rfl (by decide) (by decide) hk1 hFc hP1 hD1
  have hK := hK.app hK1
  generalize H1 = H at hP hS ⊢
  obtain ⟨ae, hae⟩ : ∃ ae : Nat → Nat, ae = fun k => ([q8, a0, a1, a2, a3, a4, a5, a6, a7, a8, a9, a10, a11, a12] : List Nat).getD k 0 := ⟨_, rfl⟩
  obtain ⟨cB, hcB⟩ : ∃ cB : Nat → ClassId, cB = fun k => ([e0, e1, e2, e3, e4, e5, e6, e7, e8, e9, e10, e11, e12] : List ClassId).getD k e0 := ⟨_, rfl⟩
  have hj8 : jw8 q8 a0 a1 a2 a3 a4 a5 a6 a7 a8 a9 a10 a11 a12 e0 e1 e2 e3 e4 e5 e6 e7 e8 e9 e10 e11 e12 = wM ae cB σz := by rw [hae, hcB]; rfl
  have hty : va_K D vwCl (tyU cA ++ tyM cB) s := by rw [hcB]; exact hK
  have hq8 : q8 = ae 0 := by rw [hae]; rfl
  rw [hj8] at hP hD
  have C : lwC p s m meth c D ad cA ae cB b := ⟨hx, hb, hml, hown, hws, hr, hlocks, hty, fun z => fr_same hD rfl⟩
  refine W.widen (k := 600000) (n := 7302250) (Nat.le_of_ble_eq_true rfl) (Nat.le_of_ble_eq_true rfl) ?_
  refine lv_astore_n (lv' := [(2, .ref q8), (1, .ref q7), (0, .ref b)]) hx hb dL_law_15 rfl hl (by decide) rfl (fun ls hl => ?_)
  refine lv_iconst (v := 0) hx hb dL_law_16 (by decide) ?_
  refine lv_istore_n (lv' := [(3, .int 0), (2, .ref q8), (1, .ref q7), (0, .ref b)]) hx hb dL_law_17 rfl hl (by decide) rfl (fun ls hl => ?_)
  rw [hq8, ← had] at hl
  exact law_loop hL C0 C (L + 1) 0 (Nat.zero_le _) (by omega) σz σz rel_0 H locs ls hP hS (lv_sub hl [3, 2, 1, 0] rfl)
