/-! what holds between calls: of the store (i), and between it and the reference (j) -/
def u_last (σ : ST) (t k : Nat) : Option Nat := pq_lst (pq_own σ (nI t) k) (σ.2.1 2)
def u_old (σ : ST) (t k r : Nat) : Option Nat := pq_lst (fun q => pq_own σ (nI t) k q && decide (σ.1 8 q < nI (r + 1))) (σ.2.1 2)
def u_wr (σ : ST) : Option Nat → Int32 × Int32
  | none => (0, 0)
  | some r => if σ.1 7 r = 0 then (1, σ.1 6 r) else (2, 0)
def iF (σ : ST) : Prop := uF σ ∧ ∀ t, 1 ≤ t → t ≤ σ.2.1 0 → σ.1 1 t = 0 → uQ σ t = 0 ∨ σ.1 1 (uQ σ t) = 0
def iC (c : Nat) (σ : ST) : Prop := c ≤ 512 ∧ σ.2.1 1 ≤ c ∧ σ.2.1 2 ≤ c ∧ σ.2.1 3 ≤ c ∧ σ.2.1 4 ≤ c
def iW (σ : ST) : Prop := ∀ r, r < σ.2.1 2 → (σ.1 4 r = -1 ∨ ∃ o, o ≤ σ.2.1 0 ∧ σ.1 4 r = nI o ∧ (o = 0 ∨ σ.1 1 o = 0)) ∧ (∃ s, s < σ.2.1 1 ∧ σ.1 5 r = nI s) ∧ (σ.1 7 r = 0 ∨ σ.1 7 r = 1) ∧ ∃ z, z ≤ σ.2.1 4 ∧ σ.1 8 r = nI z
def iO (σ : ST) : Prop := ∀ q r, q < r → r < σ.2.1 2 → σ.1 5 q = σ.1 5 r → ∀ a b, a ≤ σ.2.1 0 → b ≤ σ.2.1 0 → σ.1 4 q = nI a → σ.1 4 r = nI b → pq_on (uQ σ) b a = true
def iH (σ : ST) : Prop := ∀ r, r < σ.2.1 3 → (σ.1 11 r = -1 ∨ ∃ o, 1 ≤ o ∧ o ≤ σ.2.1 0 ∧ σ.1 11 r = nI o ∧ σ.1 1 o = 0) ∧ (∃ s, s < σ.2.1 1 ∧ σ.1 12 r = nI s) ∧ (σ.1 13 r = 1 ∨ σ.1 13 r = 2)
def iG (σ : ST) : Prop := ∀ r o, r < σ.2.1 2 → 1 ≤ o → o ≤ σ.2.1 0 → σ.1 4 r = nI o → ∃ q, q < σ.2.1 3 ∧ σ.1 11 q = nI o ∧ σ.1 12 q = σ.1 5 r ∧ σ.1 13 q = 2
def iM (σ : ST) : Prop := ∀ r, r < σ.2.1 4 → σ.1 14 r = -1 ∨ ∃ o, 1 ≤ o ∧ o ≤ σ.2.1 0 ∧ σ.1 14 r = nI o ∧ σ.1 1 o = 0
def iQ (σ : ST) : Prop := ∀ t, 1 ≤ t → t ≤ 150 → σ.1 16 t = 0 ∨ (t ≤ σ.2.1 0 ∧ σ.1 1 t = 0 ∧ (σ.1 16 t = 1 ∨ σ.1 16 t = 2) ∧ ∃ s, s < σ.2.1 1 ∧ σ.1 15 t = nI s)
def jB (σ τ : ST) : Prop := τ.1 0 = σ.1 3 ∧ τ.2.1 0 = σ.2.1 1 ∧ τ.1 4 = σ.1 0 ∧ τ.1 5 = σ.1 1 ∧ τ.2.1 1 = σ.2.1 0 ∧ τ.2.1 2 = σ.2.1 4
def jW (σ τ : ST) : Prop := ∀ t k, t ≤ 150 → k < 520 → (τ.1 1 (520 * t + k), τ.1 2 (520 * t + k)) = u_wr σ (u_last σ t k)
def jH (σ τ : ST) : Prop := ∀ t k, 1 ≤ t → t ≤ 150 → k < 520 → τ.1 3 (520 * t + k) = u_kind σ (nI t) (nI k)
def jM (σ τ : ST) : Prop := ∀ r, r < σ.2.1 4 → σ.1 14 r = if τ.1 9 r = 0 then -1 else τ.1 8 r
def jO (σ τ : ST) : Prop := ∀ r t k, r < σ.2.1 4 → 1 ≤ t → t ≤ σ.2.1 0 → σ.1 14 r = nI t → k < 520 → (τ.1 10 (520 * r + k), τ.1 11 (520 * r + k)) = u_wr σ (u_old σ t k r)
def jQ (σ τ : ST) : Prop := ∀ t, 1 ≤ t → t ≤ σ.2.1 0 → σ.1 1 t = 0 → (τ.1 6 t = if σ.1 16 t = 0 then -1 else σ.1 15 t) ∧ (¬ σ.1 16 t = 0 → τ.1 7 t = if σ.1 16 t = 2 then 1 else 0)
def jT (τ : ST) : Prop := (∀ k, 1 ≤ k → k ≤ τ.2.1 1 → τ.1 6 k = -1 ∨ ∃ w, w < τ.2.1 0 ∧ τ.1 6 k = nI w) ∧ ∀ k, τ.1 7 k = 0 ∨ τ.1 7 k = 1
def iAll (c : Nat) (σ : ST) : Prop := iF σ ∧ iC c σ ∧ iW σ ∧ iO σ ∧ iH σ ∧ uU σ ∧ iG σ ∧ iM σ ∧ iQ σ
def jAll (σ τ : ST) : Prop := jB σ τ ∧ jW σ τ ∧ jH σ τ ∧ jM σ τ ∧ jO σ τ ∧ jQ σ τ ∧ mB τ ∧ mS τ ∧ jT τ
def Rel (c : Nat) (σ τ : ST) : Prop := iAll c σ ∧ jAll σ τ
section RB
variable {c : Nat} {σ τ : ST}
theorem iAll.n (h : iAll c σ) : σ.2.1 0 ≤ 150 := h.1.1.1
theorem iAll.H (h : iAll c σ) : uH σ := ⟨Nat.le_trans h.2.1.2.2.2.1 h.2.1.1, fun r hr => (h.2.2.2.2.1 r hr).1.imp id (fun ⟨o, _, o2, o3, _⟩ => ⟨o, o2, o3⟩)⟩
theorem iAll.W (h : iAll c σ) : uW σ := by
  have hc := h.2.1
  refine ⟨Nat.le_trans hc.2.2.1 hc.1, fun r hr => ?_⟩
  obtain ⟨h1, ⟨s, s1, s2⟩, -⟩ := h.2.2.1 r hr
  exact ⟨h1.imp id (fun ⟨o, o1, o2, _⟩ => ⟨o, o1, o2⟩), s, by have := hc.1; have := hc.2.1; omega, s2⟩
theorem iAll.dn (h : iAll c σ) : pq_dn (σ.2.1 0) (uQ σ) := uF_dn h.1.1
theorem jB.Q (h : jB σ τ) : mQ τ = uQ σ := by unfold mQ uQ; rw [h.2.2.1]
theorem jB.act (h : jB σ τ) : m_act τ = u_act σ := by funext t; unfold m_act u_act; rw [h.2.2.2.1, h.2.2.2.2.1]
theorem jB.find (h : jB σ τ) : m_find τ = u_find σ := by funext t; unfold m_find u_find; rw [h.1, h.2.1]
theorem jB.F (h : jB σ τ) (hF : uF σ) : mF τ := by unfold mF; rw [h.Q, h.2.2.1, h.2.2.2.2.1]; exact hF
theorem jB.anc (h : jB σ τ) (a b : Nat) : m_anc τ a b = (decide (b ≠ 0) && pq_on (uQ σ) (uQ σ b) a) := by unfold m_anc; rw [h.Q]
theorem u_act_n (h : iAll c σ) {k : Nat} (hk : k ≤ 150) : u_act σ (nI k) = (decide (1 ≤ k) && decide (k ≤ σ.2.1 0) && decide (σ.1 1 k = 0)) := pq_act_n (Nat.lt_of_le_of_lt h.n (by decide)) (by omega)
theorem u_hrow_lt {t x : Int32} {q : Nat} (h : u_hrow σ t x = some q) : q < σ.2.1 3 ∧ σ.1 11 q = t ∧ σ.1 12 q = x := by
  obtain ⟨h1, h2, -⟩ := pq_fst_some.mp h
  rw [Bool.and_eq_true, decide_eq_true_eq, decide_eq_true_eq] at h2
  exact ⟨h1, h2⟩
theorem u_hrow_of (hU : uU σ) {t x : Int32} {q : Nat} (ht : ¬ t = -1) (h1 : q < σ.2.1 3) (h2 : σ.1 11 q = t) (h3 : σ.1 12 q = x) : u_hrow σ t x = some q := by
  refine pq_fst_some.mpr ⟨h1, by rw [decide_eq_true h2, decide_eq_true h3]; rfl, fun j hj => ?_⟩
  by_cases e1 : σ.1 11 j = t
  · by_cases e2 : σ.1 12 j = x
    · have := hU j q (by omega) h1 (e1.trans h2.symm) (by rw [e1]; exact ht) (e2.trans h3.symm)
      omega
    · rw [decide_eq_false e2]; simp
  · rw [decide_eq_false e1]; rfl
theorem u_hrow_none {t x : Int32} : u_hrow σ t x = none ↔ ∀ q, q < σ.2.1 3 → σ.1 11 q = t → ¬ σ.1 12 q = x := by
  unfold u_hrow
  rw [pq_fst_none]
  constructor
  · intro h q hq e1 e2
    have := h q hq
    rw [decide_eq_true e1, decide_eq_true e2] at this
    cases this
  · intro h q hq
    by_cases e1 : σ.1 11 q = t
    · rw [decide_eq_false (h q hq e1)]; simp
    · rw [decide_eq_false e1]; rfl
/-- a holder's own row -/
theorem u_kind_of (hU : uU σ) {t x : Int32} {q : Nat} (ht : ¬ t = -1) (h1 : q < σ.2.1 3) (h2 : σ.1 11 q = t) (h3 : σ.1 12 q = x) : u_kind σ t x = σ.1 13 q := by
  unfold u_kind; rw [u_hrow_of hU ht h1 h2 h3]
theorem pq_nI_inj {a b : Nat} (ha : a < 2 ^ 31) (hb : b < 2 ^ 31) (h : nI a = nI b) : a = b := (nI_eq ha hb).mp h
/-- in the way: a row there, and the reference's word -/
theorem rel_way (hI : iAll c σ) (hB : jB σ τ) (hH : jH σ τ) {b w a : Nat} {y : Bool} (hb1 : 1 ≤ b) (hb : b ≤ σ.2.1 0) (hw : w < 520) (ha1 : 1 ≤ a) (ha : a ≤ σ.2.1 0) : m_way τ b w y a = true ↔ ∃ r, r < σ.2.1 3 ∧ u_way σ b (nI w) (if y = true then 2 else 1) r = true ∧ σ.1 11 r = nI a := by
  have hn := hI.n
  have hU := hI.2.2.2.2.2.1
  have hon := pq_on_s hI.dn (by omega) hb a
  have hk := hH a w ha1 (by omega) hw
  have hy : (decide ((if y = true then (2 : Int32) else 1) = 2)) = y := by cases y <;> rfl
  unfold m_way
  rw [hB.act, hB.anc, hk, u_act_n hI (by omega), decide_eq_true ha1, decide_eq_true ha, decide_eq_true (show b ≠ 0 by omega)]
  constructor
  · intro h
    simp only [Bool.and_eq_true, Bool.not_eq_true', decide_eq_false_iff_not, Bool.true_and, decide_eq_true_eq] at h
    obtain ⟨⟨⟨h1, h2⟩, h3⟩, h4⟩ := h
    cases hr : u_hrow σ (nI a) (nI w) with
    | none =>
      rw [u_kind, hr] at h4
      exfalso
      apply h4
      show (0 : Int32) < _
      cases y <;> decide
    | some r =>
      obtain ⟨r1, r2, r3⟩ := u_hrow_lt hr
      rw [u_kind, hr] at h4
      refine ⟨r, r1, ?_, r2⟩
      unfold u_way
      rw [r2, r3, nI_clamp (by omega), hon, hy, h3, decide_eq_false h1, decide_eq_false (pq_nI_m1 (by omega))]
      cases y with
      | true => simp
      | false =>
        have : σ.1 13 r = 2 := by
          rcases (hI.2.2.2.2.1 r r1).2.2 with e | e
          · exfalso; apply h4; show σ.1 13 r < 2; rw [e]; decide
          · exact e
        rw [this]; simp
  · rintro ⟨r, r1, r2, r3⟩
    unfold u_way at r2
    rw [r3, nI_clamp (by omega), hon, hy] at r2
    simp only [Bool.and_eq_true, Bool.not_eq_true', decide_eq_false_iff_not, decide_eq_true_eq, Bool.or_eq_false_iff, Bool.or_eq_true] at r2
    obtain ⟨⟨⟨s1, s2⟩, s3, s4⟩, s5⟩ := r2
    rw [u_kind_of hU (pq_nI_m1 (by omega)) r1 r3 s1]
    have hst : σ.1 1 a = 0 := by
      rcases (hI.2.2.2.2.1 r r1).1 with e | ⟨o, o1, o2, o3, o4⟩
      · exact absurd e (by rw [r3]; exact pq_nI_m1 (by omega))
      · rw [pq_nI_inj (by omega) (by omega) (r3.symm.trans o3)]; exact o4
    rw [decide_eq_false s3, s4, decide_eq_true hst]
    simp only [Bool.not_false, Bool.true_and, Bool.and_true, Bool.not_eq_true', decide_eq_false_iff_not]
    rcases (hI.2.2.2.2.1 r r1).2.2 with e | e
    · rw [e]
      rcases s5 with q | q
      · subst q; decide
      · rw [e] at q; exact absurd q (by decide)
    · rw [e]; cases y <;> decide
theorem pq_lw_none {p : Nat → Bool} {o : Nat → Int32} {n : Nat} (h : ∀ j, j < n → p j = false) : pq_lw p o n = 0 := by
  induction n with
  | zero => rfl
  | succ n ih => simp only [pq_lw]; rw [h n (by omega), ih (fun j hj => h j (by omega))]; rfl
/-- the least, by its two signs -/
theorem pq_lw_spec {p : Nat → Bool} {o : Nat → Int32} {n m : Nat} (hm : m < 2 ^ 31) (hpos : ∀ j, j < n → p j = true → ∃ a, 1 ≤ a ∧ a < 2 ^ 31 ∧ o j = nI a) (h1 : ∃ j, j < n ∧ p j = true ∧ o j = nI m) (h2 : ∀ j a, j < n → p j = true → o j = nI a → a < 2 ^ 31 → m ≤ a) : pq_lw p o n = nI m := by
  induction n generalizing m with
  | zero => obtain ⟨j, hj, -⟩ := h1; omega
  | succ n ih =>
    obtain ⟨j, hj, hp, ho⟩ := h1
    simp only [pq_lw]
    by_cases hpn : p n = true
    · obtain ⟨a, a1, a2, a3⟩ := hpos n (by omega) hpn
      have hma := h2 n a (by omega) hpn a3 a2
      by_cases hex : ∃ i, i < n ∧ p i = true
      · -- the least below n
        obtain ⟨l, hl⟩ : ∃ l, (∃ i, i < n ∧ p i = true ∧ o i = nI l) ∧ l < 2 ^ 31 ∧ ∀ i b, i < n → p i = true → o i = nI b → b < 2 ^ 31 → l ≤ b := by
          obtain ⟨i, hi, hpi⟩ := hex
          obtain ⟨b, b1, b2, b3⟩ := hpos i (by omega) hpi
          obtain ⟨l, hl1, hl2⟩ := pk_least (fun x => ∃ i, i < n ∧ p i = true ∧ o i = nI x ∧ x < 2 ^ 31) ⟨b, i, hi, hpi, b3, b2⟩
          obtain ⟨i', c1, c2, c3, c4⟩ := hl1
          refine ⟨l, ⟨i', c1, c2, c3⟩, c4, fun i b hi hpi hb hb2 => ?_⟩
          rcases Nat.lt_or_ge b l with e | e
          · exact absurd ⟨i, hi, hpi, hb, hb2⟩ (hl2 b e)
          · exact e
        obtain ⟨⟨i, i1, i2, i3⟩, l2, l3⟩ := hl
        have hlw := ih l2 (fun j hj => hpos j (by omega)) ⟨i, i1, i2, i3⟩ l3
        obtain ⟨l', l'1, l'2, l'3⟩ := hpos i (by omega) i2
        have ell : l = l' := pq_nI_inj l2 l'2 (i3.symm.trans l'3)
        have hml := h2 i l (by omega) i2 i3 l2
        rw [hlw, hpn, a3]
        by_cases c : a < l
        · rw [decide_eq_true ((nI_ltI (by omega) (by omega)).mpr c)]
          rw [if_pos (by simp)]
          congr 1
          rcases Nat.lt_succ_iff_lt_or_eq.mp hj with e | e
          · have := l3 j m e hp ho hm; omega
          · subst e; exact pq_nI_inj a2 hm (a3.symm.trans ho)
        · rw [decide_eq_false (mt (nI_ltI (by omega) (by omega)).mp c), decide_eq_false (show ¬ nI l = 0 from fun e => by have := pq_nI_inj l2 (show 0 < 2 ^ 31 by omega) e; omega)]
          rw [if_neg (by simp)]
          congr 1
          rcases Nat.lt_succ_iff_lt_or_eq.mp hj with e | e
          · have := l3 j m e hp ho hm; omega
          · subst e
            have := pq_nI_inj a2 hm (a3.symm.trans ho)
            omega
      · have hz : pq_lw p o n = 0 := pq_lw_none (fun i hi => by cases q : p i with | false => rfl | true => exact absurd ⟨i, hi, q⟩ hex)
        rw [hz, hpn, if_pos (by simp), a3]
        congr 1
        rcases Nat.lt_succ_iff_lt_or_eq.mp hj with e | e
        · exact absurd ⟨j, e, hp⟩ hex
        · subst e; exact pq_nI_inj a2 hm (a3.symm.trans ho)
    · rw [if_neg (by simp [hpn])]
      have hjn : j < n := by
        rcases Nat.lt_succ_iff_lt_or_eq.mp hj with e | e
        · exact e
        · subst e; exact absurd hp hpn
      exact ih hm (fun j hj => hpos j (by omega)) ⟨j, hjn, hp, ho⟩ (fun j a hj => h2 j a (by omega))
/-- the least in the way is the first one in the way -/
theorem rel_least (hI : iAll c σ) (hB : jB σ τ) (hH : jH σ τ) {b w : Nat} {y : Bool} (hb1 : 1 ≤ b) (hb : b ≤ σ.2.1 0) (hw : w < 520) : u_least σ b (nI w) (if y = true then 2 else 1) = m_fst τ b w y := by
  have hn := hI.n
  have hown : ∀ r, r < σ.2.1 3 → u_way σ b (nI w) (if y = true then 2 else 1) r = true → ∃ a, 1 ≤ a ∧ a ≤ σ.2.1 0 ∧ σ.1 11 r = nI a := by
    intro r hr h
    rcases (hI.2.2.2.2.1 r hr).1 with e | ⟨o, o1, o2, o3, o4⟩
    · unfold u_way at h; rw [decide_eq_true e] at h; simp at h
    · exact ⟨o, o1, o2, o3⟩
  unfold m_fst u_least
  rw [hB.2.2.2.2.1]
  cases hf : pq_fst (fun j => m_way τ b w y (j + 1)) (σ.2.1 0) with
  | none =>
    have h0 := pq_fst_none.mp hf
    refine pq_lw_none (fun r hr => ?_)
    cases hq : u_way σ b (nI w) (if y = true then 2 else 1) r with
    | false => rfl
    | true =>
      obtain ⟨a, a1, a2, a3⟩ := hown r hr hq
      have h1 := (rel_way hI hB hH (y := y) hb1 hb hw a1 a2).mpr ⟨r, hr, hq, a3⟩
      have h2 := h0 (a - 1) (by omega)
      rw [show a - 1 + 1 = a by omega, h1] at h2
      cases h2
  | some j =>
    obtain ⟨j1, j2, j3⟩ := pq_fst_some.mp hf
    obtain ⟨r, r1, r2, r3⟩ := (rel_way hI hB hH (y := y) hb1 hb hw (show 1 ≤ j + 1 by omega) (by omega)).mp j2
    refine pq_lw_spec (by omega) (fun i hi hp => ?_) ⟨r, r1, r2, r3⟩ (fun i a hi hp ho ha => ?_)
    · obtain ⟨a, a1, a2, a3⟩ := hown i hi hp
      exact ⟨a, a1, by omega, a3⟩
    · obtain ⟨a', a1, a2, a3⟩ := hown i hi hp
      have e := pq_nI_inj ha (by omega) (ho.symm.trans a3)
      subst e
      have h1 := (rel_way hI hB hH (y := y) hb1 hb hw a1 a2).mpr ⟨i, hi, hp, ho⟩
      rcases Nat.lt_or_ge (a - 1) j with e | e
      · have h2 := j3 (a - 1) e
        rw [show a - 1 + 1 = a by omega, h1] at h2
        cases h2
      · omega
theorem rel_least_none (hI : iAll c σ) (b : Nat) (y : Int32) : u_least σ b (-1) y = 0 := by
  refine pq_lw_none (fun r hr => ?_)
  obtain ⟨s, s1, s2⟩ := (hI.2.2.2.2.1 r hr).2.1
  have hc := hI.2.1
  unfold u_way
  rw [s2, decide_eq_false (pq_nI_m1 (by have h1 := hc.1; have h2 := hc.2.1; omega))]
  rfl
end RB
