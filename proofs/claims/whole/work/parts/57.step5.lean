/-- those of S end, with the state x -/
def uES (σ : ST) (S : Nat → Bool) (x : Int32) : ST := sa (sa (sa (sa (sa σ 1 (fun u => if S u = true then x else σ.1 1 u)) 4 (fun r => if r < σ.2.1 2 ∧ S (σ.1 4 r).toNatClampNeg = true then -1 else σ.1 4 r)) 11 (fun r => if r < σ.2.1 3 ∧ S (σ.1 11 r).toNatClampNeg = true then -1 else σ.1 11 r)) 14 (fun r => if r < σ.2.1 4 ∧ S (σ.1 14 r).toNatClampNeg = true then -1 else σ.1 14 r)) 16 (fun u => if S u = true then 0 else σ.1 16 u)
def mES (τ : ST) (S : Nat → Bool) (x : Int32) : ST := sa (sa (sa (sa (sa τ 5 (fun u => if S u = true then x else τ.1 5 u)) 1 (fun i => if S (i / 520) = true then 0 else τ.1 1 i)) 2 (fun i => if S (i / 520) = true then 0 else τ.1 2 i)) 3 (fun i => if S (i / 520) = true then 0 else τ.1 3 i)) 9 (fun m => if m < τ.2.1 2 ∧ S (τ.1 8 m).toNatClampNeg = true then 0 else τ.1 9 m)
theorem pq_clK {v : Int32} {k : Nat} (h1 : 1 ≤ k) (hk : k < 2 ^ 31) : v.toNatClampNeg = k ↔ v = nI k := by
  constructor
  · intro h
    by_cases e : v < 0
    · have : v.toNatClampNeg = 0 := by
        have := Int32.lt_iff_toInt_lt.mp e
        have e0 : (0 : Int32).toInt = 0 := by decide
        show v.toInt.toNat = 0
        omega
      omega
    · obtain ⟨j, j1, rfl⟩ := nI_of e
      rw [nI_clamp j1] at h
      rw [h]
  · intro h
    rw [h, nI_clamp hk]
theorem pq_clM : (-1 : Int32).toNatClampNeg = 0 := by decide
section S5
variable {c : Nat} {σ τ : ST}
theorem st_ext {a b : ST} (h : ∀ j, a.1 j = b.1 j) (h2 : a.2 = b.2) : a = b := Prod.ext (funext h) h2
theorem uES_congr {S S' : Nat → Bool} (h : ∀ u, S u = S' u) (x : Int32) : uES σ S x = uES σ S' x := by rw [show S = S' from funext h]
theorem mES_congr {S S' : Nat → Bool} (h : ∀ u, S u = S' u) (x : Int32) : mES τ S x = mES τ S' x := by rw [show S = S' from funext h]
theorem uES_0 (x : Int32) : uES σ (fun _ => false) x = σ := by
  refine st_ext (fun j => ?_) rfl
  unfold uES
  show (if j = 16 then _ else if j = 14 then _ else if j = 11 then _ else if j = 4 then _ else if j = 1 then _ else σ.1 j) = _
  by_cases e16 : j = 16
  · subst e16; rw [if_pos rfl]; funext u; simp
  rw [if_neg e16]
  by_cases e14 : j = 14
  · subst e14; rw [if_pos rfl]; funext u; simp
  rw [if_neg e14]
  by_cases e11 : j = 11
  · subst e11; rw [if_pos rfl]; funext u; simp
  rw [if_neg e11]
  by_cases e4 : j = 4
  · subst e4; rw [if_pos rfl]; funext u; simp
  rw [if_neg e4]
  by_cases e1 : j = 1
  · subst e1; rw [if_pos rfl]; funext u; simp
  rw [if_neg e1]
theorem mES_0 (x : Int32) : mES τ (fun _ => false) x = τ := by
  refine st_ext (fun j => ?_) rfl
  unfold mES
  show (if j = 9 then _ else if j = 3 then _ else if j = 2 then _ else if j = 1 then _ else if j = 5 then _ else τ.1 j) = _
  by_cases e9 : j = 9
  · subst e9; rw [if_pos rfl]; funext u; simp
  rw [if_neg e9]
  by_cases e3 : j = 3
  · subst e3; rw [if_pos rfl]; funext u; simp
  rw [if_neg e3]
  by_cases e2 : j = 2
  · subst e2; rw [if_pos rfl]; funext u; simp
  rw [if_neg e2]
  by_cases e1 : j = 1
  · subst e1; rw [if_pos rfl]; funext u; simp
  rw [if_neg e1]
  by_cases e5 : j = 5
  · subst e5; rw [if_pos rfl]; funext u; simp
  rw [if_neg e5]
theorem msk_set {S : Nat → Bool} {f : Nat → Int32} {n k : Nat} {P : Nat → Bool} (h0 : S 0 = false) (h1 : 1 ≤ k) (hk : k < 2 ^ 31) (hP : ∀ r, r < n → P r = decide ((if r < n ∧ S (f r).toNatClampNeg = true then (-1 : Int32) else f r) = nI k)) : pq_msk P (-1) (fun r => if r < n ∧ S (f r).toNatClampNeg = true then (-1 : Int32) else f r) n = fun r => if r < n ∧ (S (f r).toNatClampNeg || decide ((f r).toNatClampNeg = k)) = true then (-1 : Int32) else f r := by
  funext r
  have key : ∀ g : Int32, g = (if r < n ∧ S (f r).toNatClampNeg = true then (-1 : Int32) else f r) → (if r < n ∧ P r = true then (-1 : Int32) else g) = if r < n ∧ (S (f r).toNatClampNeg || decide ((f r).toNatClampNeg = k)) = true then (-1 : Int32) else f r := by
    intro g hg
    by_cases hr : r < n
    · have hp := hP r hr
      rw [← hg] at hp
      by_cases e : S (f r).toNatClampNeg = true
      · have e1 : g = -1 := hg.trans (if_pos ⟨hr, e⟩)
        rw [e1]
        exact (ite_self _).trans (if_pos ⟨hr, by rw [e]; rfl⟩).symm
      · have e1 : g = f r := hg.trans (if_neg (fun z => e z.2))
        by_cases e2 : f r = nI k
        · exact (if_pos ⟨hr, by rw [hp, e1]; exact decide_eq_true e2⟩).trans (if_pos ⟨hr, by rw [decide_eq_true ((pq_clK h1 hk).mpr e2)]; simp⟩).symm
        · refine (if_neg (fun z => e2 ?_)).trans (e1.trans (if_neg (fun z => e ?_)).symm)
          · have := z.2; rw [hp, e1] at this; exact of_decide_eq_true this
          · have := z.2; rw [decide_eq_false (fun q => e2 ((pq_clK h1 hk).mp q)), Bool.or_false] at this; exact this
    · exact (if_neg (fun z => hr z.1)).trans ((hg.trans (if_neg (fun z => hr z.1))).trans (if_neg (fun z => hr z.1)).symm)
  exact key _ rfl
theorem uES_end {S : Nat → Bool} (h0 : S 0 = false) {k : Nat} (h1 : 1 ≤ k) (hk : k < 2 ^ 31) (hT : ∀ r, r < σ.2.1 2 → ¬ σ.1 8 r < 0) (x : Int32) : u_end (uES σ S x) k x = uES σ (fun u => S u || decide (u = k)) x := by
  have e4 : (u_end (uES σ S x) k x).1 4 = (uES σ (fun u => S u || decide (u = k)) x).1 4 := msk_set h0 h1 hk (P := fun r => decide ((uES σ S x).1 4 r = nI k) && !decide ((uES σ S x).1 8 r < 0)) (fun r hr => by
    show (decide ((if r < σ.2.1 2 ∧ S (σ.1 4 r).toNatClampNeg = true then (-1 : Int32) else σ.1 4 r) = nI k) && !decide (σ.1 8 r < 0)) = _
    rw [decide_eq_false (hT r hr)]; exact Bool.and_true _)
  have e11 : (u_end (uES σ S x) k x).1 11 = (uES σ (fun u => S u || decide (u = k)) x).1 11 := msk_set h0 h1 hk (P := fun r => decide ((uES σ S x).1 11 r = nI k)) (fun r hr => rfl)
  have e14 : (u_end (uES σ S x) k x).1 14 = (uES σ (fun u => S u || decide (u = k)) x).1 14 := msk_set h0 h1 hk (P := fun r => decide ((uES σ S x).1 14 r = nI k)) (fun r hr => rfl)
  have e1 : (u_end (uES σ S x) k x).1 1 = (uES σ (fun u => S u || decide (u = k)) x).1 1 := by
    funext u
    show (if u = k then x else if S u = true then x else σ.1 1 u) = if (S u || decide (u = k)) = true then x else σ.1 1 u
    by_cases e : u = k
    · rw [if_pos e, if_pos (by rw [decide_eq_true e]; simp)]
    · rw [if_neg e, decide_eq_false e, Bool.or_false]
  have e16 : (u_end (uES σ S x) k x).1 16 = (uES σ (fun u => S u || decide (u = k)) x).1 16 := by
    funext u
    show (if u = k then 0 else if S u = true then 0 else σ.1 16 u) = if (S u || decide (u = k)) = true then 0 else σ.1 16 u
    by_cases e : u = k
    · rw [if_pos e, if_pos (by rw [decide_eq_true e]; simp)]
    · rw [if_neg e, decide_eq_false e, Bool.or_false]
  refine st_ext (fun j => ?_) rfl
  by_cases q16 : j = 16
  · rw [q16]; exact e16
  by_cases q14 : j = 14
  · rw [q14]; exact e14
  by_cases q11 : j = 11
  · rw [q11]; exact e11
  by_cases q4 : j = 4
  · rw [q4]; exact e4
  by_cases q1 : j = 1
  · rw [q1]; exact e1
  show (if j = 16 then _ else if j = 14 then _ else if j = 11 then _ else if j = 4 then _ else if j = 1 then _ else (if j = 16 then _ else if j = 14 then _ else if j = 11 then _ else if j = 4 then _ else if j = 1 then _ else σ.1 j)) = (if j = 16 then _ else if j = 14 then _ else if j = 11 then _ else if j = 4 then _ else if j = 1 then _ else σ.1 j)
  simp only [if_neg q16, if_neg q14, if_neg q11, if_neg q4, if_neg q1]
theorem zero_set {S : Nat → Bool} {f : Nat → Int32} {k : Nat} : m_zero (fun i => if S (i / 520) = true then 0 else f i) k 520 = fun i => if (S (i / 520) || decide (i / 520 = k)) = true then (0 : Int32) else f i := by
  funext i
  unfold m_zero va_cpy
  by_cases e : 520 * k ≤ i ∧ i < 520 * k + 520
  · rw [if_pos e, if_pos (by rw [decide_eq_true (show i / 520 = k by omega)]; simp)]
  · rw [if_neg e, decide_eq_false (show ¬ i / 520 = k by omega), Bool.or_false]
theorem mES_end {S : Nat → Bool} (h0 : S 0 = false) {k : Nat} (h1 : 1 ≤ k) (hk : k < 2 ^ 31) (x : Int32) : m_end (mES τ S x) k x = mES τ (fun u => S u || decide (u = k)) x := by
  have e5 : (m_end (mES τ S x) k x).1 5 = (mES τ (fun u => S u || decide (u = k)) x).1 5 := by
    funext u
    show (if u = k then x else if S u = true then x else τ.1 5 u) = if (S u || decide (u = k)) = true then x else τ.1 5 u
    by_cases e : u = k
    · rw [if_pos e, if_pos (by rw [decide_eq_true e]; simp)]
    · rw [if_neg e, decide_eq_false e, Bool.or_false]
  have e1 : (m_end (mES τ S x) k x).1 1 = (mES τ (fun u => S u || decide (u = k)) x).1 1 := zero_set
  have e2 : (m_end (mES τ S x) k x).1 2 = (mES τ (fun u => S u || decide (u = k)) x).1 2 := zero_set
  have e3 : (m_end (mES τ S x) k x).1 3 = (mES τ (fun u => S u || decide (u = k)) x).1 3 := zero_set
  have e9 : (m_end (mES τ S x) k x).1 9 = (mES τ (fun u => S u || decide (u = k)) x).1 9 := by
    funext m
    show (if m < τ.2.1 2 ∧ decide (τ.1 8 m = nI k) = true then 0 else if m < τ.2.1 2 ∧ S (τ.1 8 m).toNatClampNeg = true then 0 else τ.1 9 m) = if m < τ.2.1 2 ∧ (S (τ.1 8 m).toNatClampNeg || decide ((τ.1 8 m).toNatClampNeg = k)) = true then 0 else τ.1 9 m
    rw [show decide ((τ.1 8 m).toNatClampNeg = k) = decide (τ.1 8 m = nI k) from decide_eq_decide.mpr (pq_clK h1 hk)]
    by_cases e : m < τ.2.1 2
    · cases S (τ.1 8 m).toNatClampNeg <;> cases decide (τ.1 8 m = nI k) <;> simp [e]
    · simp [e]
  refine st_ext (fun j => ?_) rfl
  by_cases q9 : j = 9
  · rw [q9]; exact e9
  by_cases q3 : j = 3
  · rw [q3]; exact e3
  by_cases q2 : j = 2
  · rw [q2]; exact e2
  by_cases q1 : j = 1
  · rw [q1]; exact e1
  by_cases q5 : j = 5
  · rw [q5]; exact e5
  show (if j = 9 then _ else if j = 3 then _ else if j = 2 then _ else if j = 1 then _ else if j = 5 then _ else (if j = 9 then _ else if j = 3 then _ else if j = 2 then _ else if j = 1 then _ else if j = 5 then _ else τ.1 j)) = (if j = 9 then _ else if j = 3 then _ else if j = 2 then _ else if j = 1 then _ else if j = 5 then _ else τ.1 j)
  simp only [if_neg q9, if_neg q3, if_neg q2, if_neg q1, if_neg q5]
/-- those of a closed set end, in both alike -/
theorem rel_ends (hR : Rel c σ τ) {S : Nat → Bool} {x : Int32} (hx : ¬ x = 0) (hS : ∀ u, S u = true → 1 ≤ u ∧ u ≤ σ.2.1 0 ∧ σ.1 1 u = 0) (hS2 : ∀ u, 1 ≤ u → u ≤ σ.2.1 0 → σ.1 1 u = 0 → S u = false → S (uQ σ u) = false) : Rel c (uES σ S x) (mES τ S x) := by
  have hn := hR.1.n
  have h00 : S 0 = false := by cases h : S 0 with | false => rfl | true => have := (hS 0 h).1; omega
  obtain ⟨⟨⟨f1, f2⟩, hcc, h3, h4, h5, h6, h7, h8, h9⟩, b1, j2, j3, j4, j5, j6, j7, j8, j9⟩ := hR
  have cl : ∀ (v : Int32) a, a ≤ 150 → v = nI a → v.toNatClampNeg = a := fun v a ha e => by rw [e, nI_clamp (by omega)]
  have keep : ∀ (n : Nat) (f : Nat → Int32) r a, r < n → a ≤ 150 → ((if r < n ∧ S (f r).toNatClampNeg = true then (-1 : Int32) else f r) = nI a ↔ f r = nI a ∧ S a = false) := by
    intro n f r a hr ha
    by_cases e : S (f r).toNatClampNeg = true
    · rw [if_pos ⟨hr, e⟩]
      constructor
      · intro z; exact absurd z.symm (pq_nI_m1 (by omega))
      · rintro ⟨z1, z2⟩; rw [cl _ a ha z1, z2] at e; cases e
    · rw [if_neg (fun z => e z.2)]
      constructor
      · intro z; refine ⟨z, ?_⟩; rw [cl _ a ha z] at e; simpa using e
      · exact fun z => z.1
  have st0 : ∀ u, (if S u = true then x else σ.1 1 u) = 0 ↔ σ.1 1 u = 0 ∧ S u = false := by
    intro u
    cases e : S u with
    | true => rw [if_pos rfl]; exact ⟨fun z => absurd z hx, fun z => by cases z.2⟩
    | false => rw [if_neg (by decide)]; exact ⟨fun z => ⟨z, rfl⟩, fun z => z.1⟩
  have own : ∀ u s r, u ≤ 150 → r < σ.2.1 2 → pq_own (uES σ S x) (nI u) s r = (pq_own σ (nI u) s r && !S u) := by
    intro u s r hu hr
    have := keep (σ.2.1 2) (σ.1 4) r u hr hu
    show (decide ((if r < σ.2.1 2 ∧ S (σ.1 4 r).toNatClampNeg = true then (-1 : Int32) else σ.1 4 r) = nI u) && decide (σ.1 5 r = nI s)) = (decide (σ.1 4 r = nI u) && decide (σ.1 5 r = nI s) && !S u)
    rw [decide_eq_decide.mpr this, Bool.decide_and]
    cases S u <;> cases decide (σ.1 4 r = nI u) <;> simp
  refine ⟨⟨⟨f1, ?_⟩, hcc, ?_, ?_, ?_, ?_, ?_, ?_, ?_⟩, ?_, ?_, ?_, ?_, ?_, ?_, ?_, ?_, j9⟩
  · intro u u1 u2 u3
    obtain ⟨z1, z2⟩ := (st0 u).mp u3
    rcases f2 u u1 u2 z1 with e | e
    · exact Or.inl e
    · exact Or.inr ((st0 _).mpr ⟨e, hS2 u u1 u2 z1 z2⟩)
  · intro r hr
    have hr : r < σ.2.1 2 := hr
    obtain ⟨g1, g2⟩ := h3 r hr
    refine ⟨?_, g2⟩
    show (if r < σ.2.1 2 ∧ S (σ.1 4 r).toNatClampNeg = true then (-1 : Int32) else σ.1 4 r) = -1 ∨ ∃ o, o ≤ σ.2.1 0 ∧ (if r < σ.2.1 2 ∧ S (σ.1 4 r).toNatClampNeg = true then (-1 : Int32) else σ.1 4 r) = nI o ∧ (o = 0 ∨ (if S o = true then x else σ.1 1 o) = 0)
    by_cases e : S (σ.1 4 r).toNatClampNeg = true
    · rw [if_pos ⟨hr, e⟩]; exact Or.inl rfl
    · rw [if_neg (fun z => e z.2)]
      rcases g1 with g | ⟨o, o1, o2, o3⟩
      · exact Or.inl g
      · rw [cl _ o (by omega) o2] at e
        exact Or.inr ⟨o, o1, o2, o3.imp id (fun z => (st0 o).mpr ⟨z, by simpa using e⟩)⟩
  · intro q r hqr hr z1 a b ha hb za zb
    have hr : r < σ.2.1 2 := hr
    have ha : a ≤ σ.2.1 0 := ha
    have hb : b ≤ σ.2.1 0 := hb
    exact h4 q r hqr hr z1 a b ha hb ((keep _ (σ.1 4) q a (by omega) (by omega)).mp za).1 ((keep _ (σ.1 4) r b hr (by omega)).mp zb).1
  · intro r hr
    have hr : r < σ.2.1 3 := hr
    obtain ⟨g1, g2⟩ := h5 r hr
    refine ⟨?_, g2⟩
    show (if r < σ.2.1 3 ∧ S (σ.1 11 r).toNatClampNeg = true then (-1 : Int32) else σ.1 11 r) = -1 ∨ ∃ o, 1 ≤ o ∧ o ≤ σ.2.1 0 ∧ (if r < σ.2.1 3 ∧ S (σ.1 11 r).toNatClampNeg = true then (-1 : Int32) else σ.1 11 r) = nI o ∧ (if S o = true then x else σ.1 1 o) = 0
    by_cases e : S (σ.1 11 r).toNatClampNeg = true
    · rw [if_pos ⟨hr, e⟩]; exact Or.inl rfl
    · rw [if_neg (fun z => e z.2)]
      rcases g1 with g | ⟨o, o0, o1, o2, o3⟩
      · exact Or.inl g
      · rw [cl _ o (by omega) o2] at e
        exact Or.inr ⟨o, o0, o1, o2, (st0 o).mpr ⟨o3, by simpa using e⟩⟩
  · intro r q hr hq z1 z2 z3
    have hr : r < σ.2.1 3 := hr
    have hq : q < σ.2.1 3 := hq
    have back : ∀ r, ¬ (uES σ S x).1 11 r = -1 → (uES σ S x).1 11 r = σ.1 11 r := by
      intro r z
      show (if r < σ.2.1 3 ∧ S (σ.1 11 r).toNatClampNeg = true then (-1 : Int32) else σ.1 11 r) = _
      by_cases e : r < σ.2.1 3 ∧ S (σ.1 11 r).toNatClampNeg = true
      · exact absurd (if_pos e) z
      · exact if_neg e
    have y1 := back r z2
    have y2 := back q (z1 ▸ z2)
    rw [y1, y2] at z1
    rw [y1] at z2
    exact h6 r q hr hq z1 z2 z3
  · intro r o hr o1 o2 o3
    have hr : r < σ.2.1 2 := hr
    have o2 : o ≤ σ.2.1 0 := o2
    obtain ⟨p1, p2⟩ := (keep _ (σ.1 4) r o hr (by omega)).mp o3
    obtain ⟨q, q1, q2, q3, q4⟩ := h7 r o hr o1 o2 p1
    exact ⟨q, q1, (keep _ (σ.1 11) q o q1 (by omega)).mpr ⟨q2, p2⟩, q3, q4⟩
  · intro r hr
    have hr : r < σ.2.1 4 := hr
    show (if r < σ.2.1 4 ∧ S (σ.1 14 r).toNatClampNeg = true then (-1 : Int32) else σ.1 14 r) = -1 ∨ ∃ o, 1 ≤ o ∧ o ≤ σ.2.1 0 ∧ (if r < σ.2.1 4 ∧ S (σ.1 14 r).toNatClampNeg = true then (-1 : Int32) else σ.1 14 r) = nI o ∧ (if S o = true then x else σ.1 1 o) = 0
    by_cases e : S (σ.1 14 r).toNatClampNeg = true
    · rw [if_pos ⟨hr, e⟩]; exact Or.inl rfl
    · rw [if_neg (fun z => e z.2)]
      rcases h8 r hr with g | ⟨o, o0, o1, o2, o3⟩
      · exact Or.inl g
      · rw [cl _ o (by omega) o2] at e
        exact Or.inr ⟨o, o0, o1, o2, (st0 o).mpr ⟨o3, by simpa using e⟩⟩
  · intro u u1 u2
    show (if S u = true then 0 else σ.1 16 u) = 0 ∨ (u ≤ σ.2.1 0 ∧ (if S u = true then x else σ.1 1 u) = 0 ∧ ((if S u = true then 0 else σ.1 16 u) = 1 ∨ (if S u = true then 0 else σ.1 16 u) = 2) ∧ ∃ s, s < σ.2.1 1 ∧ σ.1 15 u = nI s)
    cases e : S u with
    | true => exact Or.inl rfl
    | false => exact h9 u u1 u2
  · refine ⟨b1.1, b1.2.1, b1.2.2.1, ?_, b1.2.2.2.2⟩
    show (fun u => if S u = true then x else τ.1 5 u) = fun u => if S u = true then x else σ.1 1 u
    rw [b1.2.2.2.1]
  · intro u s hu hs
    show ((if S ((520 * u + s) / 520) = true then (0 : Int32) else τ.1 1 (520 * u + s)), (if S ((520 * u + s) / 520) = true then (0 : Int32) else τ.1 2 (520 * u + s))) = u_wr σ (pq_lst (pq_own (uES σ S x) (nI u) s) (σ.2.1 2))
    rw [show (520 * u + s) / 520 = u by omega, pq_lst_congr (fun r hr => own u s r hu hr)]
    cases e : S u with
    | true =>
      rw [if_pos rfl, if_pos rfl, pq_lst_none.mpr (fun r _ => by simp)]
      rfl
    | false =>
      rw [if_neg (by decide), if_neg (by decide), pq_lst_congr (q := pq_own σ (nI u) s) (fun r _ => by simp)]
      exact j2 u s hu hs
  · intro u s u1 hu hs
    show (if S ((520 * u + s) / 520) = true then (0 : Int32) else τ.1 3 (520 * u + s)) = _
    have hrow : u_hrow (uES σ S x) (nI u) (nI s) = if S u = true then none else u_hrow σ (nI u) (nI s) := by
      show pq_fst (fun r => decide ((if r < σ.2.1 3 ∧ S (σ.1 11 r).toNatClampNeg = true then (-1 : Int32) else σ.1 11 r) = nI u) && decide (σ.1 12 r = nI s)) (σ.2.1 3) = _
      rw [pq_fst_congr (q := fun r => decide (σ.1 11 r = nI u) && decide (σ.1 12 r = nI s) && !S u) (fun r hr => by
        rw [decide_eq_decide.mpr (keep _ (σ.1 11) r u hr hu), Bool.decide_and]
        cases S u <;> cases decide (σ.1 11 r = nI u) <;> simp)]
      cases e : S u with
      | true => rw [if_pos rfl]; exact pq_fst_none.mpr (fun r _ => by simp)
      | false => rw [if_neg (by decide)]; exact pq_fst_congr (fun r _ => by simp)
    rw [show (520 * u + s) / 520 = u by omega]
    unfold u_kind
    rw [hrow]
    cases e : S u with
    | true => rw [if_pos rfl, if_pos rfl]
    | false =>
      rw [if_neg (by decide), if_neg (by decide)]
      exact j3 u s u1 hu hs
  · intro r hr
    have hr : r < σ.2.1 4 := hr
    have hj := j4 r hr
    show (if r < σ.2.1 4 ∧ S (σ.1 14 r).toNatClampNeg = true then (-1 : Int32) else σ.1 14 r) = if (if r < τ.2.1 2 ∧ S (τ.1 8 r).toNatClampNeg = true then 0 else τ.1 9 r) = 0 then -1 else τ.1 8 r
    rw [b1.2.2.2.2.2]
    by_cases e9 : τ.1 9 r = 0
    · rw [if_pos e9] at hj
      have : (if r < σ.2.1 4 ∧ S (τ.1 8 r).toNatClampNeg = true then (0 : Int32) else τ.1 9 r) = 0 := by split; rfl; exact e9
      rw [if_pos this, hj, pq_clM, h00]; simp
    · rw [if_neg e9] at hj
      rw [hj]
      by_cases e : r < σ.2.1 4 ∧ S (τ.1 8 r).toNatClampNeg = true
      · rw [if_pos e, if_pos e, if_pos rfl]
      · rw [if_neg e, if_neg e, if_neg e9]
  · intro r u s hr u1 u2 hm hs
    have hr : r < σ.2.1 4 := hr
    have u2 : u ≤ σ.2.1 0 := u2
    obtain ⟨p1, p2⟩ := (keep _ (σ.1 14) r u hr (by omega)).mp hm
    have : u_old (uES σ S x) u s r = u_old σ u s r := pq_lst_congr (fun q hq => by
      show (pq_own (uES σ S x) (nI u) s q && decide (σ.1 8 q < nI (r + 1))) = _
      rw [own u s q (by omega) hq, p2]; simp)
    rw [this]
    exact j5 r u s hr u1 u2 p1 hs
  · intro u u1 u2 u3
    obtain ⟨z1, z2⟩ := (st0 u).mp u3
    show (τ.1 6 u = if (if S u = true then 0 else σ.1 16 u) = 0 then -1 else σ.1 15 u) ∧ (¬ (if S u = true then 0 else σ.1 16 u) = 0 → τ.1 7 u = if (if S u = true then 0 else σ.1 16 u) = 2 then 1 else 0)
    rw [z2]
    exact j6 u u1 u2 z1
  · intro i
    refine ⟨?_, ?_, (j7 i).2.2⟩
    · show vp_nar .byte (if S (i / 520) = true then (0 : Int32) else τ.1 1 i) = _
      cases e : S (i / 520) with
      | true => show vp_nar .byte 0 = (if S (i / 520) = true then (0 : Int32) else τ.1 1 i); rw [e]; rfl
      | false => show vp_nar .byte (τ.1 1 i) = (if S (i / 520) = true then (0 : Int32) else τ.1 1 i); rw [e]; exact (j7 i).1
    · show vp_nar .byte (if S (i / 520) = true then (0 : Int32) else τ.1 3 i) = _
      cases e : S (i / 520) with
      | true => show vp_nar .byte 0 = (if S (i / 520) = true then (0 : Int32) else τ.1 3 i); rw [e]; rfl
      | false => show vp_nar .byte (τ.1 3 i) = (if S (i / 520) = true then (0 : Int32) else τ.1 3 i); rw [e]; exact (j7 i).2.1
  · intro i
    show (if i < τ.2.1 2 ∧ S (τ.1 8 i).toNatClampNeg = true then 0 else τ.1 9 i) = 0 ∨ (if i < τ.2.1 2 ∧ S (τ.1 8 i).toNatClampNeg = true then 0 else τ.1 9 i) = 1
    by_cases e : i < τ.2.1 2 ∧ S (τ.1 8 i).toNatClampNeg = true
    · rw [if_pos e]; exact Or.inl rfl
    · rw [if_neg e]; exact j8 i
end S5
