section S6
variable {c : Nat} {σ τ : ST}
/-- what an abort of k takes with it -/
def abS (σ : ST) (k u : Nat) : Bool := decide (1 ≤ u) && decide (u ≤ σ.2.1 0) && decide (σ.1 1 u = 0) && pq_on (uQ σ) u k
theorem abS_iff {k u : Nat} : abS σ k u = true ↔ 1 ≤ u ∧ u ≤ σ.2.1 0 ∧ σ.1 1 u = 0 ∧ pq_on (uQ σ) u k = true := by
  unfold abS
  simp only [Bool.and_eq_true, decide_eq_true_eq, and_assoc]
theorem uES_none (x : Int32) : uES σ (fun _ => false) x = σ := by
  refine st_ext (fun j => ?_) rfl
  have e1 : (uES σ (fun _ => false) x).1 1 = σ.1 1 := by funext u; exact if_neg (t := x) Bool.false_ne_true
  have e4 : (uES σ (fun _ => false) x).1 4 = σ.1 4 := by funext u; exact if_neg (fun z => by cases z.2)
  have e11 : (uES σ (fun _ => false) x).1 11 = σ.1 11 := by funext u; exact if_neg (fun z => by cases z.2)
  have e14 : (uES σ (fun _ => false) x).1 14 = σ.1 14 := by funext u; exact if_neg (fun z => by cases z.2)
  have e16 : (uES σ (fun _ => false) x).1 16 = σ.1 16 := by funext u; exact if_neg (t := 0) Bool.false_ne_true
  by_cases q16 : j = 16
  · rw [q16]; exact e16
  by_cases q14 : j = 14
  · rw [q14]; exact e14
  by_cases q11 : j = 11
  · rw [q11]; exact e11
  by_cases q4 : j = 4
  · rw [q4]; exact e4
  by_cases q1 : j = 1
  · rw [q1]; exact e1
  show (if j = 16 then _ else if j = 14 then _ else if j = 11 then _ else if j = 4 then _ else if j = 1 then _ else σ.1 j) = σ.1 j
  simp only [if_neg q16, if_neg q14, if_neg q11, if_neg q4, if_neg q1]
theorem mES_none (x : Int32) : mES τ (fun _ => false) x = τ := by
  refine st_ext (fun j => ?_) rfl
  have e1 : (mES τ (fun _ => false) x).1 1 = τ.1 1 := by funext u; exact if_neg (t := 0) Bool.false_ne_true
  have e2 : (mES τ (fun _ => false) x).1 2 = τ.1 2 := by funext u; exact if_neg (t := 0) Bool.false_ne_true
  have e3 : (mES τ (fun _ => false) x).1 3 = τ.1 3 := by funext u; exact if_neg (t := 0) Bool.false_ne_true
  have e5 : (mES τ (fun _ => false) x).1 5 = τ.1 5 := by funext u; exact if_neg (t := x) Bool.false_ne_true
  have e9 : (mES τ (fun _ => false) x).1 9 = τ.1 9 := by funext u; exact if_neg (fun z => by cases z.2)
  by_cases q9 : j = 9
  · rw [q9]; exact e9
  by_cases q3 : j = 3
  · rw [q3]; exact e3
  by_cases q2 : j = 2
  · rw [q2]; exact e2
  by_cases q1 : j = 1
  · rw [q1]; exact e1
  by_cases q5 : j = 5
  · rw [q5]; exact e5
  show (if j = 9 then _ else if j = 3 then _ else if j = 2 then _ else if j = 1 then _ else if j = 5 then _ else τ.1 j) = τ.1 j
  simp only [if_neg q9, if_neg q3, if_neg q2, if_neg q1, if_neg q5]
theorem ab_left (hI : iAll c σ) {k j : Nat} (k1 : 1 ≤ k) (hv : k + 1 + j ≤ σ.2.1 0) : u_left (uES σ (fun u => abS σ k u && decide (u ≤ k + j)) 2) (k + 1 + j) = abS σ k (k + 1 + j) := by
  have hn := hI.n
  obtain ⟨g1, g2⟩ := hI.1.1.2 (k + 1 + j) (by omega) hv
  have st : ∀ u, (uES σ (fun u => abS σ k u && decide (u ≤ k + j)) 2).1 1 u = 0 ↔ σ.1 1 u = 0 ∧ (abS σ k u && decide (u ≤ k + j)) = false := by
    intro u
    show (if (abS σ k u && decide (u ≤ k + j)) = true then (2 : Int32) else σ.1 1 u) = 0 ↔ _
    cases abS σ k u && decide (u ≤ k + j) with
    | true => rw [if_pos rfl]; exact ⟨fun z => absurd z (by decide), fun z => by cases z.2⟩
    | false => rw [if_neg (by decide)]; exact ⟨fun z => ⟨z, rfl⟩, fun z => z.1⟩
  have hact : ∀ u, u ≤ 150 → u_act (uES σ (fun u => abS σ k u && decide (u ≤ k + j)) 2) (nI u) = (decide (1 ≤ u) && decide (u ≤ σ.2.1 0) && decide ((uES σ (fun u => abS σ k u && decide (u ≤ k + j)) 2).1 1 u = 0)) := fun u hu => pq_act_n (Nat.lt_of_le_of_lt hI.n (by decide)) (by omega)
  rw [Bool.eq_iff_iff, abS_iff]
  unfold u_left
  rw [show (uES σ (fun u => abS σ k u && decide (u ≤ k + j)) 2).1 0 = σ.1 0 from rfl, g1, hact _ (by omega), hact _ (by omega)]
  simp only [Bool.and_eq_true, Bool.not_eq_true', Bool.or_eq_false_iff, decide_eq_true_eq, decide_eq_false_iff_not]
  rw [st, pq_on_s hI.dn (by omega) hv k]
  constructor
  · rintro ⟨⟨⟨h1, h2⟩, h3, -⟩, h4, h5⟩
    have hp : 1 ≤ uQ σ (k + 1 + j) := by
      rcases Nat.eq_zero_or_pos (uQ σ (k + 1 + j)) with e | e
      · rw [e] at h4; exact absurd rfl h4
      · exact e
    refine ⟨h1, h2, h3, ?_⟩
    have hs : σ.1 1 (uQ σ (k + 1 + j)) = 0 := (hI.1.2 _ (by omega) hv h3).resolve_left (by omega)
    cases hA : abS σ k (uQ σ (k + 1 + j)) with
    | true => rw [(abS_iff.mp hA).2.2.2]; simp
    | false =>
      exfalso
      have : decide ((uES σ (fun u => abS σ k u && decide (u ≤ k + j)) 2).1 1 (uQ σ (k + 1 + j)) = 0) = true := decide_eq_true ((st _).mpr ⟨hs, by rw [hA]; rfl⟩)
      rw [this, decide_eq_true hp, decide_eq_true (show uQ σ (k + 1 + j) ≤ σ.2.1 0 by omega)] at h5
      cases h5
  · rintro ⟨h1, h2, h3, h4⟩
    rw [decide_eq_false (show ¬ k = k + 1 + j by omega), Bool.false_or] at h4
    have hp : 1 ≤ uQ σ (k + 1 + j) := by
      have := pq_on_le hI.dn _ _ (by omega) h4
      omega
    have hs : σ.1 1 (uQ σ (k + 1 + j)) = 0 := (hI.1.2 _ (by omega) hv h3).resolve_left (by omega)
    refine ⟨⟨⟨h1, h2⟩, h3, by rw [decide_eq_false (show ¬ k + 1 + j ≤ k + j by omega)]; simp⟩, fun z => ?_, ?_⟩
    · have := pq_nI_inj (by omega) (show 0 < 2 ^ 31 by omega) z
      omega
    · have hA : abS σ k (uQ σ (k + 1 + j)) = true := abS_iff.mpr ⟨hp, by omega, hs, h4⟩
      have hz : ¬ (uES σ (fun u => abS σ k u && decide (u ≤ k + j)) 2).1 1 (uQ σ (k + 1 + j)) = 0 := fun z => by have := ((st _).mp z).2; rw [hA, decide_eq_true (show uQ σ (k + 1 + j) ≤ k + j by omega)] at this; cases this
      rw [decide_eq_false hz]
      simp
theorem ab_cnt (hI : iAll c σ) {k : Nat} (k1 : 1 ≤ k) (k2 : k ≤ σ.2.1 0) (k3 : σ.1 1 k = 0) : pq_cnt (abS σ k) (k + 1) = 1 := by
  show pq_cnt (abS σ k) k + (if abS σ k k = true then 1 else 0) = 1
  rw [if_pos (abS_iff.mpr ⟨k1, k2, k3, pq_on_self hI.dn k2⟩), pq_cnt_zero]
  intro j hj
  cases h : abS σ k j with
  | false => rfl
  | true =>
    obtain ⟨-, h2, -, h4⟩ := abS_iff.mp h
    have := pq_on_le hI.dn _ _ h2 h4
    omega
theorem iAll.T (hI : iAll c σ) : ∀ r, r < σ.2.1 2 → ¬ σ.1 8 r < 0 := by
  intro r hr
  obtain ⟨z, z1, z2⟩ := (hI.2.2.1 r hr).2.2.2
  have := hI.2.1.1
  have := hI.2.1.2.2.2.2
  rw [z2]
  exact nI_pos (by omega)
theorem ab_u (hI : iAll c σ) {k : Nat} (k1 : 1 ≤ k) (k2 : k ≤ σ.2.1 0) (k3 : σ.1 1 k = 0) : ∀ j, k + j ≤ σ.2.1 0 → u_ab σ k j = (pq_cnt (abS σ k) (k + 1 + j), uES σ (fun u => abS σ k u && decide (u ≤ k + j)) 2) := by
  have hn := hI.n
  have h0 : abS σ k 0 = false := rfl
  intro j
  induction j with
  | zero =>
    intro _
    show (1, u_end σ k 2) = _
    have e := uES_end (σ := σ) (S := fun _ => false) rfl k1 (by omega) hI.T 2
    rw [uES_none] at e
    rw [e, show k + 1 + 0 = k + 1 from rfl, ab_cnt hI k1 k2 k3]
    congr 2
    funext u
    show (false || decide (u = k)) = (abS σ k u && decide (u ≤ k + 0))
    by_cases q : u = k
    · rw [q, abS_iff.mpr ⟨k1, k2, k3, pq_on_self hI.dn k2⟩]; simp
    · rw [decide_eq_false q]
      cases h : abS σ k u with
      | false => rfl
      | true =>
        obtain ⟨-, h2, -, h4⟩ := abS_iff.mp h
        have := pq_on_le hI.dn _ _ h2 h4
        rw [decide_eq_false (show ¬ u ≤ k + 0 by omega)]; rfl
  | succ j ih =>
    intro hj
    have ih := ih (by omega)
    simp only [u_ab]
    rw [ih]
    show (if u_left (uES σ (fun u => abS σ k u && decide (u ≤ k + j)) 2) (k + 1 + j) = true then _ else _) = _
    rw [ab_left hI k1 (by omega)]
    show _ = (pq_cnt (abS σ k) (k + 1 + j) + (if abS σ k (k + 1 + j) = true then 1 else 0), _)
    by_cases q : abS σ k (k + 1 + j) = true
    · rw [if_pos q, if_pos q]
      refine Prod.ext rfl ?_
      show u_end (uES σ (fun u => abS σ k u && decide (u ≤ k + j)) 2) (k + 1 + j) 2 = uES σ (fun u => abS σ k u && decide (u ≤ k + (j + 1))) 2
      rw [uES_end (by rw [h0]; rfl) (by omega) (by omega) hI.T 2]
      congr 1
      funext u
      by_cases e : u = k + 1 + j
      · rw [e, q, decide_eq_true (show k + 1 + j ≤ k + (j + 1) by omega)]; simp
      · rw [decide_eq_false e, Bool.or_false, decide_eq_decide.mpr (show u ≤ k + j ↔ u ≤ k + (j + 1) by omega)]
    · rw [if_neg q, if_neg q]
      refine Prod.ext rfl ?_
      show uES σ _ 2 = uES σ _ 2
      congr 1
      funext u
      by_cases e : u = k + 1 + j
      · rw [e, Bool.eq_false_iff.mpr q]; rfl
      · rw [decide_eq_decide.mpr (show u ≤ k + j ↔ u ≤ k + (j + 1) by omega)]
theorem ab_m (hI : iAll c σ) (hB : jB σ τ) {k : Nat} (k1 : 1 ≤ k) (k2 : k ≤ σ.2.1 0) : ∀ j, j ≤ σ.2.1 0 → (m_ab τ k j).1 + pq_cnt (abS σ k) (σ.2.1 0 + 1 - j) = pq_cnt (abS σ k) (σ.2.1 0 + 1) ∧ (m_ab τ k j).2 = mES τ (fun u => abS σ k u && decide (σ.2.1 0 - j < u)) 2 := by
  have hn := hI.n
  have h0 : abS σ k 0 = false := rfl
  intro j
  induction j with
  | zero =>
    intro _
    refine ⟨by show 0 + _ = _; rw [Nat.zero_add, Nat.sub_zero], ?_⟩
    show τ = _
    rw [show (fun u => abS σ k u && decide (σ.2.1 0 - 0 < u)) = (fun _ => false) from ?_, mES_none]
    funext u
    cases h : abS σ k u with
    | false => rfl
    | true => rw [decide_eq_false (by have := (abS_iff.mp h).2.1; omega)]; rfl
  | succ j ih =>
    intro hj
    obtain ⟨i1, i2⟩ := ih (by omega)
    have hcond : (m_act (m_ab τ k j).2 (nI (τ.2.1 1 - j)) && (decide (τ.2.1 1 - j = k) || m_anc τ k (τ.2.1 1 - j))) = abS σ k (σ.2.1 0 - j) := by
      rw [i2, hB.2.2.2.2.1, hB.anc]
      have : m_act (mES τ (fun u => abS σ k u && decide (σ.2.1 0 - j < u)) 2) (nI (σ.2.1 0 - j)) = (decide (1 ≤ σ.2.1 0 - j) && decide (σ.2.1 0 - j ≤ τ.2.1 1) && decide ((mES τ (fun u => abS σ k u && decide (σ.2.1 0 - j < u)) 2).1 5 (σ.2.1 0 - j) = 0)) := pq_act_n (show τ.2.1 1 < 2 ^ 31 by rw [hB.2.2.2.2.1]; omega) (by omega)
      rw [this, hB.2.2.2.2.1]
      have e5 : (mES τ (fun u => abS σ k u && decide (σ.2.1 0 - j < u)) 2).1 5 (σ.2.1 0 - j) = σ.1 1 (σ.2.1 0 - j) := by
        show (if (abS σ k (σ.2.1 0 - j) && decide (σ.2.1 0 - j < σ.2.1 0 - j)) = true then (2 : Int32) else τ.1 5 (σ.2.1 0 - j)) = _
        rw [decide_eq_false (Nat.lt_irrefl _), Bool.and_false, if_neg (by decide), hB.2.2.2.1]
      rw [e5]
      unfold abS
      congr 1
      rw [pq_on_s hI.dn (t := σ.2.1 0 - j) (by omega) (by omega) k, decide_eq_true (show σ.2.1 0 - j ≠ 0 by omega), Bool.true_and, decide_eq_decide.mpr (show σ.2.1 0 - j = k ↔ k = σ.2.1 0 - j from eq_comm)]
    simp only [m_ab]
    rw [hcond]
    rw [show σ.2.1 0 + 1 - j = (σ.2.1 0 - j) + 1 by omega] at i1
    have i1 : (m_ab τ k j).1 + (pq_cnt (abS σ k) (σ.2.1 0 - j) + (if abS σ k (σ.2.1 0 - j) = true then 1 else 0)) = pq_cnt (abS σ k) (σ.2.1 0 + 1) := i1
    rw [show σ.2.1 0 + 1 - (j + 1) = σ.2.1 0 - j by omega]
    by_cases q : abS σ k (σ.2.1 0 - j) = true
    · rw [if_pos q]
      rw [if_pos q] at i1
      refine ⟨by show (m_ab τ k j).1 + 1 + _ = _; omega, ?_⟩
      show m_end (m_ab τ k j).2 (τ.2.1 1 - j) 2 = _
      rw [i2, hB.2.2.2.2.1, mES_end (by rw [h0]; rfl) (by omega) (by omega) 2]
      congr 1
      funext u
      by_cases e : u = σ.2.1 0 - j
      · rw [e, q, decide_eq_true (show σ.2.1 0 - (j + 1) < σ.2.1 0 - j by omega)]; simp
      · rw [decide_eq_false e, Bool.or_false, decide_eq_decide.mpr (show σ.2.1 0 - j < u ↔ σ.2.1 0 - (j + 1) < u by omega)]
    · rw [if_neg q]
      rw [if_neg q] at i1
      refine ⟨by omega, ?_⟩
      rw [i2]
      congr 1
      funext u
      by_cases e : u = σ.2.1 0 - j
      · rw [e, Bool.eq_false_iff.mpr q]; rfl
      · rw [decide_eq_decide.mpr (show σ.2.1 0 - j < u ↔ σ.2.1 0 - (j + 1) < u by omega)]
theorem rel_abort (hR : Rel c σ τ) (hc : c < 512) (t : Int32) : (u_abort σ t).1 = (m_abort τ t).1 ∧ Rel (c + 1) (u_abort σ t).2 (m_abort τ t).2 := by
  have hI := hR.1
  have hB := hR.2.1
  have hn := hI.n
  unfold u_abort m_abort
  rw [hB.act]
  by_cases ha : u_act σ t = true
  · rw [if_pos ha, if_pos ha]
    obtain ⟨k, k1, k2, rfl, k3⟩ := (u_act_iff hI.1.1).mp ha
    rw [nI_clamp (by omega), ab_u hI k1 k2 k3 (σ.2.1 0 - k) (by omega), hB.2.2.2.2.1]
    obtain ⟨m1, m2⟩ := ab_m hI hB k1 k2 (σ.2.1 0) (Nat.le_refl _)
    have e0 : pq_cnt (abS σ k) (σ.2.1 0 + 1 - σ.2.1 0) = 0 := by
      rw [show σ.2.1 0 + 1 - σ.2.1 0 = 1 by omega]; rfl
    rw [e0, Nat.add_zero] at m1
    have s1 : (fun u => abS σ k u && decide (u ≤ k + (σ.2.1 0 - k))) = abS σ k := by
      funext u
      cases h : abS σ k u with
      | false => rfl
      | true => rw [decide_eq_true (by have := (abS_iff.mp h).2.1; omega)]; rfl
    have s2 : (fun u => abS σ k u && decide (σ.2.1 0 - σ.2.1 0 < u)) = abS σ k := by
      funext u
      cases h : abS σ k u with
      | false => rfl
      | true => rw [decide_eq_true (by have := (abS_iff.mp h).1; omega)]; rfl
    rw [m1, m2, s1, s2, show k + 1 + (σ.2.1 0 - k) = σ.2.1 0 + 1 by omega]
    refine ⟨rfl, (rel_ends hR (by decide) (fun u hu => ?_) (fun u u1 u2 u3 hu => ?_)).up hc⟩
    · obtain ⟨a1, a2, a3, -⟩ := abS_iff.mp hu
      exact ⟨a1, a2, a3⟩
    · cases h : abS σ k (uQ σ u) with
      | false => rfl
      | true =>
        obtain ⟨a1, a2, a3, a4⟩ := abS_iff.mp h
        have : abS σ k u = true := abS_iff.mpr ⟨u1, u2, u3, by rw [pq_on_s hI.dn u1 u2, a4]; simp⟩
        rw [this] at hu; cases hu
  · rw [if_neg ha, if_neg ha]
    exact ⟨rfl, hR.up hc⟩
end S6
