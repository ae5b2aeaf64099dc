/-! the law's two worlds: what a call of one leaves of the other -/
theorem rel_0 : Rel 0 σz σz := by
  have n1 : ∀ u, 1 ≤ u → u ≤ σz.2.1 0 → False := fun u h1 h2 => Nat.not_succ_le_zero 0 (Nat.le_trans h1 h2)
  have n0 : ∀ j r, r < σz.2.1 j → False := fun j r h => Nat.not_lt_zero r h
  refine ⟨⟨⟨⟨Nat.zero_le _, fun u h1 h2 => (n1 u h1 h2).elim⟩, fun u h1 h2 => (n1 u h1 h2).elim⟩, ⟨by decide, Nat.zero_le _, Nat.zero_le _, Nat.zero_le _, Nat.zero_le _⟩, fun r h => (n0 2 r h).elim, fun q r _ h => (n0 2 r h).elim, fun r h => (n0 3 r h).elim, fun r q h => (n0 3 r h).elim, fun r o h => (n0 2 r h).elim, fun r h => (n0 4 r h).elim, fun t _ _ => Or.inl rfl⟩, ⟨rfl, rfl, rfl, rfl, rfl, rfl⟩, fun t k _ _ => rfl, fun t k _ _ _ => rfl, fun r h => (n0 4 r h).elim, fun r t k h => (n0 4 r h).elim, fun t h1 h2 => (n1 t h1 h2).elim, fun i => ⟨rfl, rfl, rfl⟩, fun i => Or.inl rfl, fun k h1 h2 => (Nat.not_succ_le_zero 0 (Nat.le_trans h1 h2)).elim, fun k => Or.inl rfl⟩
theorem Rel.mW {c : Nat} {σ τ : ST} (hR : Rel c σ τ) : mW τ := by
  obtain ⟨hI, hB, -, -, -, -, -, -, -, hT1, hT2⟩ := hR
  intro k k1 k2
  have hc := hI.2.1
  have hk := hB.2.1
  refine ⟨?_, ?_, ?_⟩
  · unfold m_wx
    rcases hT1 k k1 k2 with e | ⟨w, w1, w2⟩
    · rw [if_pos e, e]; rfl
    · rw [if_neg (by rw [w2]; exact pq_nI_m1 (by have h1 := hc.1; have h2 := hc.2.1; omega)), w2, nI_clamp (by have h1 := hc.1; have h2 := hc.2.1; omega)]; rfl
  · intro w hw
    unfold m_wx at hw
    rcases hT1 k k1 k2 with e | ⟨w', w1, w2⟩
    · rw [if_pos e] at hw; cases hw
    · rw [if_neg (by rw [w2]; exact pq_nI_m1 (by have h1 := hc.1; have h2 := hc.2.1; omega)), w2, nI_clamp (by have h1 := hc.1; have h2 := hc.2.1; omega)] at hw
      cases hw
      have h1 := hc.1; have h2 := hc.2.1
      omega
  · unfold m_wy
    rcases hT2 k with e | e <;> rw [e] <;> rfl
section FA
variable {A : Nat → Prop} {w1 w2 : va_W} {D : va_G} {cl : List vw_C} {H : Heap}
theorem fr_l {k : Nat} {q : Nat × va_E} (h : w1[k]? = some q) : (w1 ++ w2)[k]? = some q := by
  rw [List.getElem?_append_left (List.getElem?_eq_some_iff.mp h).1]; exact h
theorem fr_r {k : Nat} {q : Nat × va_E} (h : w2[k]? = some q) : (w1 ++ w2)[w1.length + k]? = some q := by
  rw [List.getElem?_append_right (Nat.le_add_right _ _), Nat.add_sub_cancel_left]; exact h
theorem fr_Dl (h : va_D A (w1 ++ w2)) : va_D A w1 := ⟨fun i j p q hi hj e => h.1 i j p q (fr_l hi) (fr_l hj) e, fun k q hk => h.2 k q (fr_l hk)⟩
theorem fr_Dr (h : va_D A (w1 ++ w2)) : va_D A w2 := ⟨fun i j p q hi hj e => Nat.add_left_cancel (h.1 _ _ p q (fr_r hi) (fr_r hj) e), fun k q hk => h.2 _ q (fr_r hk)⟩
theorem fr_Pl (h : va_P D cl (w1 ++ w2) H) : va_P D cl w1 H := fun k q hk => h k q (fr_l hk)
theorem fr_Pr (h : va_P D cl (w1 ++ w2) H) : va_P D cl w2 H := fun k q hk => h _ q (fr_r hk)
theorem fr_x (h : va_D A (w1 ++ w2)) {i j : Nat} {x y : Nat × va_E} (hi : w1[i]? = some x) (hj : w2[j]? = some y) : ¬ x.1 = y.1 := by
  intro e
  have h1 := h.1 _ _ _ _ (fr_l (w2 := w2) hi) (fr_r hj) e
  have h2 := (List.getElem?_eq_some_iff.mp hi).1
  omega
theorem fr_in {w : va_W} {q : Nat} (h : q ∈ w.map Prod.fst) : ∃ (i : Nat) (x : Nat × va_E), w[i]? = some x ∧ x.1 = q := by
  obtain ⟨x, hx, e⟩ := List.mem_map.mp h
  obtain ⟨i, hi⟩ := List.getElem?_of_mem hx
  exact ⟨i, x, hi, e⟩
theorem fr_2 (h : va_D A (w1 ++ w2)) {k : Nat} {q : Nat × va_E} (hk : w2[k]? = some q) : ¬ q.1 ∈ w1.map Prod.fst := by
  intro z
  obtain ⟨i, x, hi, e⟩ := fr_in z
  exact fr_x h hi hk e
theorem fr_1 (h : va_D A (w1 ++ w2)) {k : Nat} {q : Nat × va_E} (hk : w1[k]? = some q) : ¬ q.1 ∈ w2.map Prod.fst := by
  intro z
  obtain ⟨i, x, hi, e⟩ := fr_in z
  exact fr_x h hk hi e.symm
theorem fr_own {w : va_W} (h : va_D A w) {L : List Nat} (he : w.map Prod.fst = L) : va_D (fun q => q ∈ L) w := h.weaken (fun k q hk _ => by rw [← he]; exact List.mem_map.mpr ⟨q, List.mem_of_getElem? hk, rfl⟩)
theorem fr_A {w : va_W} (h : va_D A w) {L : List Nat} (he : w.map Prod.fst = L) {q : Nat} (hq : q ∈ L) : A q := by
  rw [← he] at hq
  obtain ⟨i, x, hi, e⟩ := fr_in hq
  rw [← e]
  exact h.2 i x hi
end FA
section FR
variable {p : Program} {l : Launch} {e : Env} {R : Room} {s : State} {m : MethodId} {args : Array Value} {below : List Frame} {meth : Method} {c : Code} {Q : State → Prop} {cc : ByteArray} {nL : Nat} {own : String} {Ts : List Cond} {ret : Option FieldType} {D : va_G} {cl : List vw_C} {tys : List (ClassId × FieldType)} {S : Type} {wf : S → va_W} {A : Nat → Prop} {cs sl : Nat} {σ : S} {pc : Nat} {lv : List (Nat × Value)} {st : List Value}
theorem fr_callI (C : ux_C p s m args meth c cc nL own Ts ret D cl tys wf A) {S1 : Type} {w1 : S1 → va_W} {w2 : va_W} {σ1 : S1} (mk : S1 → S) {tys1 : List (ClassId × FieldType)} {A1 : Nat → Prop} (u1 : ∀ H, va_P D cl (wf σ) H → va_P D cl (w1 σ1) H) (u2 : ∀ H, va_P D cl (wf σ) H → va_P D cl w2 H) (jn : ∀ H σ', va_P D cl (w1 σ') H → va_P D cl w2 H → va_P D cl (wf (mk σ')) H) (hA1 : ∀ q, A1 q → A q) (hdis : ∀ (k : Nat) (q : Nat × va_E), w2[k]? = some q → ¬ A1 q.1) (hD1 : ∀ σ', va_D A1 (w1 σ')) (hK1 : va_K D cl tys1 s) {y : MethodName} {ws ws' : List Cond} {bytes : ByteArray} {maxL index n : Nat} {ret' : Option FieldType} {rm : Room} {As rest : List Value} {b ci : Nat} {fs : List Value} {Cn : String} {T : u_T} {N : Nat} {post : Int32 → S1 → Prop} (hG : ux_G Ts own index Cn y ws n) (hM : ux_I l D cl tys1 w1 A1 y ws rm (.ref b :: As) σ1 post) (hws : ws = Cond.code y bytes maxL ret' :: ws') (hz : rm.cells = 0 ∧ rm.slots = 0) (hR : rm.frames + 1 ≤ R.frames ∧ 8 + (maxL + 11) + rm.locals ≤ R.locals) (hcs : cs ≤ R.cells ∧ sl ≤ R.slots) (q0 : Nat) (he : (w1 σ1)[q0]? = some (b, .inr (ci, fs))) (hc : cl[ci]? = some (Cn, T, N)) (hn : As.length = n) (hst : st = As.reverse ++ .ref b :: rest) (hroom : (rest.map fun v => v.category).sum ≤ 8) (hdg : decode cc pc = .ok (.invokevirtual index, 3)) (kk : ∀ r σ', post r σ' → ux_V p l e R s m args below meth c Q nL D cl wf A cs sl (mk σ') (pc + 3) lv (.int r :: rest)) : ux_V p l e R s m args below meth c Q nL D cl wf A cs sl σ pc lv st := by
  intro H locs ls hP hS hl
  subst hst
  refine va_calli (va_runV (As := As) (rest := rest) ⟨C.1, C.2.1, C.2.2.1, C.2.2.2.1, C.2.2.2.2.1⟩ hM (cwV n C.2.2.2.2.1 hG.1 hws hz.1 hz.2 hG.2 hR) ⟨ux_Pre_blind, va_recv hK1 (u1 H hP) hc he, fun U hU hW => ⟨rfl, by rw [hU]; exact u1 H hP, va_K.moved hW.alike hK1, hD1⟩⟩ rfl hn hl.1 rfl (lv_room hroom) hdg hcs) hS (fun q _ h => hA1 q h) hA1 (fun r u t H1 locs ht hvm hw hB hz1 hk1 hS => ?_)
  exact kk r u hw H1 locs ls (jn H1 u (by rw [← ht]; exact hB) ((u2 H hP).kept (fun k q hk => hk1 q.1 ((u2 H hP k q hk).lt) (hdis k q hk)))) hS hl
theorem fr_callL (C : ux_C p s m args meth c cc nL own Ts ret D cl tys wf A) {S1 : Type} {w1 : S1 → va_W} {w2 : va_W} {σ1 : S1} (mk : S1 → S) {tys1 : List (ClassId × FieldType)} {A1 : Nat → Prop} (u1 : ∀ H, va_P D cl (wf σ) H → va_P D cl (w1 σ1) H) (u2 : ∀ H, va_P D cl (wf σ) H → va_P D cl w2 H) (jn : ∀ H σ', va_P D cl (w1 σ') H → va_P D cl w2 H → va_P D cl (wf (mk σ')) H) (hA1 : ∀ q, A1 q → A q) (hdis : ∀ (k : Nat) (q : Nat × va_E), w2[k]? = some q → ¬ A1 q.1) (hD1 : ∀ σ', va_D A1 (w1 σ')) (hK1 : va_K D cl tys1 s) {y : MethodName} {ws ws' : List Cond} {bytes : ByteArray} {maxL index n : Nat} {ret' : Option FieldType} {rm : Room} {As rest : List Value} {b ci : Nat} {fs : List Value} {Cn : String} {T : u_T} {N : Nat} {post : Int64 → S1 → Prop} (hG : ux_G Ts own index Cn y ws n) (hM : ux_L l D cl tys1 w1 A1 y ws rm (.ref b :: As) σ1 post) (hws : ws = Cond.code y bytes maxL ret' :: ws') (hz : rm.cells = 0 ∧ rm.slots = 0) (hR : rm.frames + 1 ≤ R.frames ∧ 8 + (maxL + 11) + rm.locals ≤ R.locals) (hcs : cs ≤ R.cells ∧ sl ≤ R.slots) (q0 : Nat) (he : (w1 σ1)[q0]? = some (b, .inr (ci, fs))) (hc : cl[ci]? = some (Cn, T, N)) (hn : As.length = n) (hst : st = As.reverse ++ .ref b :: rest) (hroom : (rest.map fun v => v.category).sum ≤ 8) (hdg : decode cc pc = .ok (.invokevirtual index, 3)) (kk : ∀ r σ', post r σ' → ux_V p l e R s m args below meth c Q nL D cl wf A cs sl (mk σ') (pc + 3) lv (.long r :: rest)) : ux_V p l e R s m args below meth c Q nL D cl wf A cs sl σ pc lv st := by
  intro H locs ls hP hS hl
  subst hst
  refine va_calll (va_runV (As := As) (rest := rest) ⟨C.1, C.2.1, C.2.2.1, C.2.2.2.1, C.2.2.2.2.1⟩ hM (cwV n C.2.2.2.2.1 hG.1 hws hz.1 hz.2 hG.2 hR) ⟨ux_Pre_blind, va_recv hK1 (u1 H hP) hc he, fun U hU hW => ⟨rfl, by rw [hU]; exact u1 H hP, va_K.moved hW.alike hK1, hD1⟩⟩ rfl hn hl.1 rfl (lv_room hroom) hdg hcs) hS (fun q _ h => hA1 q h) hA1 (fun r u t H1 locs ht hvm hw hB hz1 hk1 hS => ?_)
  exact kk r u hw H1 locs ls (jn H1 u (by rw [← ht]; exact hB) ((u2 H hP).kept (fun k q hk => hk1 q.1 ((u2 H hP k q hk).lt) (hdis k q hk)))) hS hl
theorem ux_sld (C : ux_C p s m args meth c cc nL own Ts ret D cl tys wf A) {b L : Nat} {xs : Nat → Int32} (hX : va_X b L xs s s.heap) (hbl : b < s.heap.size) (hbA : ¬ A b) {i : Int32} (j : Nat) (hi : i = nI j) (hj : j < L) (hL : L < 2 ^ 31) (hdg : decode cc pc = .ok (.iaload, 1)) (kk : ux_V p l e R s m args below meth c Q nL D cl wf A cs sl σ (pc + 1) lv (.int (xs j) :: st)) : ux_V p l e R s m args below meth c Q nL D cl wf A cs sl σ pc lv (.int i :: .ref b :: st) := by
  intro H locs ls hP hS hl
  subst hi
  refine va_sld C.1 C.2.1 hX hbl hbA hS (vp_in_nI hj hL) hdg ?_
  rw [nI_clamp (by omega)]
  exact kk H locs ls hP hS hl
theorem ux_slen (C : ux_C p s m args meth c cc nL own Ts ret D cl tys wf A) {b L : Nat} {xs : Nat → Int32} (hX : va_X b L xs s s.heap) (hbl : b < s.heap.size) (hbA : ¬ A b) (hdg : decode cc pc = .ok (.arraylength, 1)) (kk : ux_V p l e R s m args below meth c Q nL D cl wf A cs sl σ (pc + 1) lv (.int (nI L) :: st)) : ux_V p l e R s m args below meth c Q nL D cl wf A cs sl σ pc lv (.ref b :: st) :=
  fun H locs ls hP hS hl => va_slen C.1 C.2.1 hX hbl hbA hS hdg (kk H locs ls hP hS hl)
end FR
