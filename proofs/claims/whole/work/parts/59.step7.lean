def u_cm (σ : ST) (k P : Nat) : ST := u_end (u_hh (u_hw σ (nI k) (nI P)) (nI k) (nI P)) k 1
section S7
variable {c : Nat} {σ τ : ST}
theorem cm_c (k P : Nat) : (u_cm σ k P).2.1 = σ.2.1 := by unfold u_cm u_hh; split <;> rfl
theorem cm_a (k P : Nat) : (u_cm σ k P).1 0 = σ.1 0 ∧ (u_cm σ k P).1 3 = σ.1 3 ∧ (u_cm σ k P).1 5 = σ.1 5 ∧ (u_cm σ k P).1 6 = σ.1 6 ∧ (u_cm σ k P).1 7 = σ.1 7 ∧ (u_cm σ k P).1 12 = σ.1 12 ∧ (u_cm σ k P).1 15 = σ.1 15 := by unfold u_cm u_hh; split <;> exact ⟨rfl, rfl, rfl, rfl, rfl, rfl, rfl⟩
theorem cm_1 (k P : Nat) : (u_cm σ k P).1 1 = upd (σ.1 1) k 1 ∧ (u_cm σ k P).1 16 = upd (σ.1 16) k 0 ∧ (u_cm σ k P).1 14 = pq_msk (fun r => decide (σ.1 14 r = nI k)) (-1) (σ.1 14) (σ.2.1 4) ∧ (u_cm σ k P).1 8 = pq_msk (fun r => decide (σ.1 4 r = nI k)) (nI (σ.2.1 4)) (σ.1 8) (σ.2.1 2) := by unfold u_cm u_hh; split <;> exact ⟨rfl, rfl, rfl, rfl⟩
theorem cm_4 {k P r : Nat} (hk : k < 2 ^ 31) (hP : P < k) (hr : r < σ.2.1 2) : (u_cm σ k P).1 4 r = if σ.1 4 r = nI k then nI P else σ.1 4 r := by
  have h1 : ∀ g : Nat → Bool, pq_msk (fun r => decide (pq_msk (fun r => decide (σ.1 4 r = nI k)) (nI P) (σ.1 4) (σ.2.1 2) r = nI k) && g r) (-1) (pq_msk (fun r => decide (σ.1 4 r = nI k)) (nI P) (σ.1 4) (σ.2.1 2)) (σ.2.1 2) r = if σ.1 4 r = nI k then nI P else σ.1 4 r := by
    intro g
    have e : pq_msk (fun r => decide (σ.1 4 r = nI k)) (nI P) (σ.1 4) (σ.2.1 2) r = if σ.1 4 r = nI k then nI P else σ.1 4 r := by
      unfold pq_msk
      by_cases q : σ.1 4 r = nI k
      · rw [if_pos ⟨hr, decide_eq_true q⟩, if_pos q]
      · rw [if_neg (fun z => q (of_decide_eq_true z.2)), if_neg q]
    have e2 : ¬ (if σ.1 4 r = nI k then nI P else σ.1 4 r) = nI k := by
      by_cases q : σ.1 4 r = nI k
      · rw [if_pos q]; intro z; have := pq_nI_inj (by omega) hk z; omega
      · rw [if_neg q]; exact q
    refine (if_neg ?_).trans e
    rintro ⟨-, z⟩
    rw [Bool.and_eq_true, decide_eq_true_eq, e] at z
    exact e2 z.1
  unfold u_cm u_hh
  split
  · exact h1 (fun r => !decide (pq_msk (fun r => decide (σ.1 4 r = nI k)) (nI (σ.2.1 4)) (σ.1 8) (σ.2.1 2) r < 0))
  · exact h1 (fun r => !decide (pq_msk (fun r => decide (σ.1 4 r = nI k)) (nI (σ.2.1 4)) (σ.1 8) (σ.2.1 2) r < 0))
theorem cm_8 {k P r : Nat} (hr : r < σ.2.1 2) : (u_cm σ k P).1 8 r = if σ.1 4 r = nI k then nI (σ.2.1 4) else σ.1 8 r := by
  rw [(cm_1 k P).2.2.2]
  unfold pq_msk
  by_cases q : σ.1 4 r = nI k
  · rw [if_pos ⟨hr, decide_eq_true q⟩, if_pos q]
  · rw [if_neg (fun z => q (of_decide_eq_true z.2)), if_neg q]
theorem cm_14 {k P r : Nat} (hr : r < σ.2.1 4) : (u_cm σ k P).1 14 r = if σ.1 14 r = nI k then -1 else σ.1 14 r := by
  rw [(cm_1 k P).2.2.1]
  unfold pq_msk
  by_cases q : σ.1 14 r = nI k
  · rw [if_pos ⟨hr, decide_eq_true q⟩, if_pos q]
  · rw [if_neg (fun z => q (of_decide_eq_true z.2)), if_neg q]
/-- the held keys after it -/
theorem cm_11 {k P r : Nat} (hk : k < 2 ^ 31) (hP : P < k) (hr : r < σ.2.1 3) : (u_cm σ k P).1 11 r = if σ.1 11 r = nI k then (if ¬ P = 0 ∧ u_hrow σ (nI P) (σ.1 12 r) = none then nI P else -1) else σ.1 11 r := by
  unfold u_cm u_hh
  by_cases p0 : P = 0
  · rw [if_pos (show nI P = 0 by rw [p0]; rfl)]
    show pq_msk (fun r => decide (σ.1 11 r = nI k)) (-1) (σ.1 11) (σ.2.1 3) r = _
    unfold pq_msk
    by_cases q : σ.1 11 r = nI k
    · rw [if_pos ⟨hr, decide_eq_true q⟩, if_pos q, if_neg (fun z => z.1 p0)]
    · rw [if_neg (fun z => q (of_decide_eq_true z.2)), if_neg q]
  · rw [if_neg (show ¬ nI P = 0 from fun z => p0 (pq_nI_inj (by omega) (show 0 < 2 ^ 31 by omega) z))]
    show pq_msk (fun r => decide (pq_msk (u_hm σ (nI k) (nI P)) (nI P) (σ.1 11) (σ.2.1 3) r = nI k)) (-1) (pq_msk (u_hm σ (nI k) (nI P)) (nI P) (σ.1 11) (σ.2.1 3)) (σ.2.1 3) r = _
    have e : pq_msk (u_hm σ (nI k) (nI P)) (nI P) (σ.1 11) (σ.2.1 3) r = if σ.1 11 r = nI k ∧ u_hrow σ (nI P) (σ.1 12 r) = none then nI P else σ.1 11 r := by
      unfold pq_msk u_hm
      by_cases q : σ.1 11 r = nI k ∧ u_hrow σ (nI P) (σ.1 12 r) = none
      · rw [if_pos ⟨hr, by rw [decide_eq_true q.1, q.2]; rfl⟩, if_pos q]
      · rw [if_neg, if_neg q]
        rintro ⟨-, z⟩
        rw [Bool.and_eq_true, decide_eq_true_eq, Option.isNone_iff_eq_none] at z
        exact q z
    by_cases q : σ.1 11 r = nI k
    · rw [if_pos q]
      by_cases q2 : u_hrow σ (nI P) (σ.1 12 r) = none
      · rw [if_pos ⟨p0, q2⟩]
        rw [if_pos ⟨q, q2⟩] at e
        refine (if_neg ?_).trans e
        rintro ⟨-, z⟩
        have z := of_decide_eq_true z
        rw [e] at z
        have := pq_nI_inj (by omega) hk z
        omega
      · rw [if_neg (fun z => q2 z.2)]
        rw [if_neg (fun z => q2 z.2)] at e
        exact if_pos ⟨hr, decide_eq_true (e.trans q)⟩
    · rw [if_neg q]
      rw [if_neg (fun z => q z.1)] at e
      refine (if_neg ?_).trans e
      rintro ⟨-, z⟩
      exact q (e.symm.trans (of_decide_eq_true z))
theorem cm_13 {k P r : Nat} (hP : P < 2 ^ 31) (hr : r < σ.2.1 3) : (u_cm σ k P).1 13 r = if ¬ P = 0 ∧ σ.1 11 r = nI P then (match u_hrow σ (nI k) (σ.1 12 r) with
  | none => σ.1 13 r
  | some q => if σ.1 13 r < σ.1 13 q then σ.1 13 q else σ.1 13 r) else σ.1 13 r := by
  unfold u_cm u_hh
  by_cases p0 : P = 0
  · rw [if_pos (show nI P = 0 by rw [p0]; rfl), if_neg (fun z => z.1 p0)]
    rfl
  · rw [if_neg (show ¬ nI P = 0 from fun z => p0 (pq_nI_inj hP (show 0 < 2 ^ 31 by omega) z))]
    show u_kd σ (nI k) (nI P) (σ.2.1 3) r = _
    unfold u_kd
    by_cases q : σ.1 11 r = nI P
    · rw [if_pos ⟨hr, q⟩, if_pos ⟨p0, q⟩]; rfl
    · rw [if_neg (fun z => q z.2), if_neg (fun z => q z.2)]
/-- what of the held keys there is after it, by who holds -/
theorem cm_own {k P r t : Nat} (hk : k ≤ 150) (hP : P < k) (ht : t ≤ 150) (hr : r < σ.2.1 3) : (u_cm σ k P).1 11 r = nI t ↔ (¬ t = k ∧ σ.1 11 r = nI t) ∨ (t = P ∧ ¬ P = 0 ∧ σ.1 11 r = nI k ∧ u_hrow σ (nI P) (σ.1 12 r) = none) := by
  rw [cm_11 (by omega) hP hr]
  by_cases q : σ.1 11 r = nI k
  · rw [if_pos q]
    by_cases q2 : ¬ P = 0 ∧ u_hrow σ (nI P) (σ.1 12 r) = none
    · rw [if_pos q2]
      constructor
      · intro z; exact Or.inr ⟨(pq_nI_inj (by omega) (by omega) z).symm, q2.1, q, q2.2⟩
      · rintro (⟨z1, z2⟩ | ⟨z1, -⟩)
        · exact absurd (pq_nI_inj (by omega) (by omega) (z2.symm.trans q)) z1
        · rw [z1]
    · rw [if_neg q2]
      constructor
      · intro z; exact absurd z.symm (pq_nI_m1 (by omega))
      · rintro (⟨z1, z2⟩ | ⟨z1, z2, z3, z4⟩)
        · exact absurd (pq_nI_inj (by omega) (by omega) (z2.symm.trans q)) z1
        · exact absurd ⟨z2, z4⟩ q2
  · rw [if_neg q]
    constructor
    · intro z; refine Or.inl ⟨fun e => q ?_, z⟩; rw [z, e]
    · rintro (⟨z1, z2⟩ | ⟨z1, z2, z3, z4⟩)
      · exact z2
      · exact absurd z3 q
theorem cm_wown {k P r t : Nat} (hk : k ≤ 150) (hP : P < k) (ht : t ≤ 150) (hr : r < σ.2.1 2) : (u_cm σ k P).1 4 r = nI t ↔ (¬ t = k ∧ σ.1 4 r = nI t) ∨ (t = P ∧ σ.1 4 r = nI k) := by
  rw [cm_4 (by omega) hP hr]
  by_cases q : σ.1 4 r = nI k
  · rw [if_pos q]
    constructor
    · intro z; exact Or.inr ⟨(pq_nI_inj (by omega) (by omega) z).symm, q⟩
    · rintro (⟨z1, z2⟩ | ⟨z1, -⟩)
      · exact absurd (pq_nI_inj (by omega) (by omega) (z2.symm.trans q)) z1
      · rw [z1]
  · rw [if_neg q]
    constructor
    · intro z; refine Or.inl ⟨fun e => q ?_, z⟩; rw [z, e]
    · rintro (⟨z1, z2⟩ | ⟨z1, z2⟩)
      · exact z2
      · exact absurd z2 q
theorem cm_U (hI : iAll c σ) {k P : Nat} (hk : k ≤ 150) (hP : P < k) : uU (u_cm σ k P) := by
  have hn := hI.n
  have hU := hI.2.2.2.2.2.1
  have hH := hI.2.2.2.2.1
  intro r q hr hq z1 z2 z3
  rw [cm_c] at hr hq
  rw [(cm_a k P).2.2.2.2.2.1] at z3
  have hr11 : ∃ t, t ≤ 150 ∧ (u_cm σ k P).1 11 r = nI t := by
    rw [cm_11 (by omega) hP hr] at z2 ⊢
    by_cases e : σ.1 11 r = nI k
    · rw [if_pos e] at z2 ⊢
      by_cases e2 : ¬ P = 0 ∧ u_hrow σ (nI P) (σ.1 12 r) = none
      · rw [if_pos e2]; exact ⟨P, by omega, rfl⟩
      · rw [if_neg e2] at z2; exact absurd rfl z2
    · rw [if_neg e] at z2 ⊢
      rcases (hH r hr).1 with g | ⟨o, o0, o1, o2, o3⟩
      · exact absurd g z2
      · exact ⟨o, by omega, o2⟩
  obtain ⟨t, ht, et⟩ := hr11
  have nm : ∀ a, a ≤ 150 → ¬ nI a = -1 := fun a ha => pq_nI_m1 (by omega)
  rcases (cm_own hk hP ht hr).mp et with ⟨a1, a2⟩ | ⟨a1, a2, a3, a4⟩ <;> rcases (cm_own hk hP ht hq).mp (z1 ▸ et) with ⟨b1, b2⟩ | ⟨b1, b2, b3, b4⟩
  · exact hU r q hr hq (a2.trans b2.symm) (by rw [a2]; exact nm t ht) z3
  · exact absurd z3 (u_hrow_none.mp b4 r hr (by rw [a2, b1]))
  · exact absurd z3.symm (u_hrow_none.mp a4 q hq (by rw [b2, a1]))
  · exact hU r q hr hq (a3.trans b3.symm) (by rw [a3]; exact nm k hk) z3
theorem cm_hot {k P t : Nat} (hP : P < k) (hst : P = 0 ∨ σ.1 1 P = 0) (h : ¬ t = k) (h2 : σ.1 1 t = 0) : (u_cm σ k P).1 1 t = 0 := by
  rw [(cm_1 k P).1, upd_at, if_neg h]; exact h2
/-- the held keys of one after it -/
theorem cm_kind (hI : iAll c σ) {k P : Nat} (hk : k ≤ 150) (hP : P < k) {t s : Nat} (t1 : 1 ≤ t) (ht : t ≤ 150) : u_kind (u_cm σ k P) (nI t) (nI s) = if t = k then 0 else if t = P then (if u_kind σ (nI P) (nI s) < u_kind σ (nI k) (nI s) then u_kind σ (nI k) (nI s) else u_kind σ (nI P) (nI s)) else u_kind σ (nI t) (nI s) := by
  have hn := hI.n
  have hU := hI.2.2.2.2.2.1
  have hH := hI.2.2.2.2.1
  have hU' := cm_U hI hk hP
  have nm : ∀ a, a ≤ 150 → ¬ nI a = -1 := fun a ha => pq_nI_m1 (by omega)
  have a12 : (u_cm σ k P).1 12 = σ.1 12 := (cm_a k P).2.2.2.2.2.1
  have c3 : (u_cm σ k P).2.1 3 = σ.2.1 3 := by rw [cm_c]
  have at' : ∀ q, q < σ.2.1 3 → (u_cm σ k P).1 11 q = nI t → σ.1 12 q = nI s → u_kind (u_cm σ k P) (nI t) (nI s) = (u_cm σ k P).1 13 q := fun q q1 q2 q3 => u_kind_of hU' (nm t ht) (by rw [c3]; exact q1) q2 (by rw [a12]; exact q3)
  have no' : (∀ q, q < σ.2.1 3 → (u_cm σ k P).1 11 q = nI t → ¬ σ.1 12 q = nI s) → u_kind (u_cm σ k P) (nI t) (nI s) = 0 := by
    intro h
    have : u_hrow (u_cm σ k P) (nI t) (nI s) = none := u_hrow_none.mpr (fun q hq e => by rw [c3] at hq; rw [a12]; exact h q hq e)
    unfold u_kind; rw [this]
  by_cases e1 : t = k
  · rw [if_pos e1]
    refine no' (fun q hq e => ?_)
    rcases (cm_own hk hP ht hq).mp e with ⟨z, -⟩ | ⟨z, -⟩
    · exact absurd e1 z
    · omega
  rw [if_neg e1]
  have k3 : ∀ q, q < σ.2.1 3 → σ.1 13 q = 1 ∨ σ.1 13 q = 2 := fun q hq => (hH q hq).2.2
  by_cases e2 : t = P
  · rw [if_pos e2]
    subst e2
    have t0 : ¬ t = 0 := by omega
    cases hp : u_hrow σ (nI t) (nI s) with
    | some q =>
      obtain ⟨q1, q2, q3⟩ := u_hrow_lt hp
      rw [at' q q1 ((cm_own hk hP ht q1).mpr (Or.inl ⟨e1, q2⟩)) q3, cm_13 (by omega) q1, if_pos ⟨t0, q2⟩, q3]
      unfold u_kind
      rw [hp]
      cases hk2 : u_hrow σ (nI k) (nI s) with
      | none =>
        show σ.1 13 q = if σ.1 13 q < 0 then 0 else σ.1 13 q
        rcases k3 q q1 with z | z <;> rw [z] <;> rfl
      | some q' => rfl
    | none =>
      unfold u_kind
      rw [hp]
      show u_kind (u_cm σ k t) (nI t) (nI s) = _
      cases hk2 : u_hrow σ (nI k) (nI s) with
      | none =>
        rw [no']
        · rfl
        · intro q hq e
          rcases (cm_own hk hP ht hq).mp e with ⟨-, z⟩ | ⟨-, -, z, -⟩
          · exact u_hrow_none.mp hp q hq z
          · exact u_hrow_none.mp hk2 q hq z
      | some q =>
        obtain ⟨q1, q2, q3⟩ := u_hrow_lt hk2
        rw [at' q q1 ((cm_own hk hP ht q1).mpr (Or.inr ⟨rfl, t0, q2, by rw [q3]; exact hp⟩)) q3, cm_13 (by omega) q1, if_neg (fun z => by have := pq_nI_inj (by omega) (by omega) (z.2.symm.trans q2); omega)]
        show σ.1 13 q = if (0 : Int32) < σ.1 13 q then σ.1 13 q else 0
        rcases k3 q q1 with z | z <;> rw [z] <;> rfl
  · rw [if_neg e2]
    cases hp : u_hrow σ (nI t) (nI s) with
    | some q =>
      obtain ⟨q1, q2, q3⟩ := u_hrow_lt hp
      rw [at' q q1 ((cm_own hk hP ht q1).mpr (Or.inl ⟨e1, q2⟩)) q3, cm_13 (by omega) q1, if_neg (fun z => by have := pq_nI_inj (by omega) (by omega) (z.2.symm.trans q2); omega), u_kind_of hU (nm t ht) q1 q2 q3]
    | none =>
      rw [no']
      · unfold u_kind; rw [hp]
      · intro q hq e
        rcases (cm_own hk hP ht hq).mp e with ⟨-, z⟩ | ⟨z, -⟩
        · exact u_hrow_none.mp hp q hq z
        · exact absurd z e2
end S7
