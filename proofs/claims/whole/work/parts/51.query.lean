theorem m_top_is {n : Nat} {q : Nat → Nat} (hq : pq_dn n q) {f : Nat → Bool} {m : Nat} : ∀ a, a ≤ n → pq_on q a m = true → (m = 0 ∨ f m = true) → (∀ v, pq_on q a v = true → m < v → f v = false) → m_top q f a = m := by
  intro a
  induction a using Nat.strongRecOn with
  | _ a ih =>
    intro hn h1 h2 h3
    by_cases e : a = m
    · subst e
      rcases h2 with h2 | h2
      · rw [h2]; rfl
      · exact m_top_t hq hn h2
    · have hle := pq_on_le hq a m hn h1
      have h0 : 0 < a := by omega
      have hqa := hq a h0 hn
      rw [m_top_f hq h0 hn (h3 a (pq_on_self hq hn) (by omega))]
      rw [pq_on_s hq h0 hn, decide_eq_false (fun z => e z.symm), Bool.false_or] at h1
      exact ih (q a) hqa (by omega) h1 h2 (fun v hv => h3 v (by rw [pq_on_s hq h0 hn, hv]; simp))
theorem pq_cnt_add {p q : Nat → Bool} {n s : Nat} (hs : s < n) (h0 : p s = false) (h : ∀ j, j < n → q j = (p j || decide (j = s))) : pq_cnt q n = pq_cnt p n + 1 := by
  induction n with
  | zero => omega
  | succ n ih =>
    simp only [pq_cnt]
    by_cases e : s = n
    · subst e
      rw [h s (by omega), h0, decide_eq_true rfl, pq_cnt_congr (p := q) (q := p) (fun j hj => by rw [h j (by omega), decide_eq_false (by omega), Bool.or_false])]
      simp
    · rw [ih (by omega) (fun j hj => h j (by omega)), h n (by omega), decide_eq_false (by omega), Bool.or_false]
      omega
section RQ
variable {c : Nat} {σ τ : ST}
theorem u_wr_0 {x : Option Nat} : (u_wr σ x).1 = 0 ↔ x = none := by
  cases x with
  | none => simp [u_wr]
  | some r =>
    simp only [u_wr]
    split <;> simp
theorem rel_wr0 (hW : jW σ τ) {t k : Nat} (ht : t ≤ 150) (hk : k < 520) : τ.1 1 (520 * t + k) = 0 ↔ u_last σ t k = none := by
  have h := congrArg Prod.fst (hW t k ht hk)
  rw [show τ.1 1 (520 * t + k) = _ from h]
  exact u_wr_0
theorem pq_own_iff {t : Int32} {s r : Nat} : pq_own σ t s r = true ↔ σ.1 4 r = t ∧ σ.1 5 r = nI s := by
  unfold pq_own; rw [Bool.and_eq_true, decide_eq_true_eq, decide_eq_true_eq]
theorem u_sees_iff {k s r : Nat} : u_sees σ k s r = true ↔ ¬ σ.1 4 r = -1 ∧ pq_on (uQ σ) k (σ.1 4 r).toNatClampNeg = true ∧ σ.1 5 r = nI s := by
  unfold u_sees; rw [Bool.and_eq_true, Bool.and_eq_true, decide_eq_true_eq, Bool.not_eq_true', decide_eq_false_iff_not, and_assoc]
theorem rel_src (hI : iAll c σ) (hB : jB σ τ) (hW : jW σ τ) {k s : Nat} (hk : k ≤ σ.2.1 0) (hs : s < 520) : match u_row σ k s with
    | none => m_sees τ k s = false
    | some r => ∃ o, o ≤ σ.2.1 0 ∧ m_src τ k s = o ∧ (τ.1 1 (520 * o + s), τ.1 2 (520 * o + s)) = u_wr σ (some r) := by
  have hn := hI.n
  have hdn := hI.dn
  have row : ∀ v j, v ≤ σ.2.1 0 → pq_on (uQ σ) k v = true → j < σ.2.1 2 → pq_own σ (nI v) s j = true → u_sees σ k s j = true := by
    intro v j hv hon hj ho
    obtain ⟨o1, o2⟩ := pq_own_iff.mp ho
    exact u_sees_iff.mpr ⟨by rw [o1]; exact pq_nI_m1 (by omega), by rw [o1, nI_clamp (by omega)]; exact hon, o2⟩
  have onle : ∀ v, pq_on (uQ σ) k v = true → v ≤ σ.2.1 0 := fun v hv => Nat.le_trans (pq_on_le hdn k v hk hv) hk
  cases hr : u_row σ k s with
  | none =>
    have h0 := pq_lst_none.mp hr
    have hz : ∀ v, pq_on (uQ σ) k v = true → τ.1 1 (520 * v + s) = 0 := by
      intro v hv
      have hv2 := onle v hv
      refine (rel_wr0 hW (by omega) hs).mpr (pq_lst_none.mpr (fun j hj => ?_))
      cases q : pq_own σ (nI v) s j with
      | false => rfl
      | true => have q2 := h0 j hj; rw [row v j hv2 hv hj q] at q2; cases q2
    have hm : m_src τ k s = 0 := by
      unfold m_src
      rw [hB.Q]
      refine m_top_is hdn k hk (pq_on_root hdn k hk) (Or.inl rfl) (fun v hv _ => ?_)
      unfold m_wr
      rw [hz v hv]; rfl
    show m_sees τ k s = false
    unfold m_sees
    rw [hm, hz 0 (pq_on_root hdn k hk)]
    rfl
  | some r =>
    obtain ⟨r1, r2, r3⟩ := pq_lst_some.mp hr
    obtain ⟨s1, s2, s3⟩ := u_sees_iff.mp r2
    obtain ⟨o, o1, o2, o3⟩ := ((hI.2.2.1 r r1).1).resolve_left s1
    rw [o2, nI_clamp (by omega)] at s2
    have hlast : u_last σ o s = some r := by
      refine pq_lst_some.mpr ⟨r1, pq_own_iff.mpr ⟨o2, s3⟩, fun j j1 j2 => ?_⟩
      cases q : pq_own σ (nI o) s j with
      | false => rfl
      | true => have := r3 j j1 j2; rw [row o j o1 s2 j2 q] at this; cases this
    have hwo := hW o s (by omega) hs
    rw [hlast] at hwo
    refine ⟨o, o1, ?_, hwo⟩
    unfold m_src
    rw [hB.Q]
    refine m_top_is hdn k hk s2 (Or.inr ?_) (fun v hv hvo => ?_)
    · unfold m_wr
      rw [Bool.not_eq_true', decide_eq_false_iff_not, rel_wr0 hW (by omega) hs, hlast]
      exact fun z => by cases z
    · have hv2 := onle v hv
      unfold m_wr
      rw [Bool.not_eq_false', decide_eq_true_eq, rel_wr0 hW (by omega) hs]
      refine pq_lst_none.mpr (fun j hj => ?_)
      cases q : pq_own σ (nI v) s j with
      | false => rfl
      | true =>
        obtain ⟨p1, p2⟩ := pq_own_iff.mp q
        have hsj := row v j hv2 hv hj q
        rcases Nat.lt_trichotomy j r with e | e | e
        · have h5 := hI.2.2.2.1 j r e r1 (p2.trans s3.symm) v o hv2 o1 p1 o2
          have := pq_on_le hdn o v o1 h5
          omega
        · subst e
          have := pq_nI_inj (by omega) (by omega) (p1.symm.trans o2)
          omega
        · have := r3 j e hj
          rw [hsj] at this; cases this
theorem rel_sees (hI : iAll c σ) (hB : jB σ τ) (hW : jW σ τ) {k s : Nat} (hk : k ≤ σ.2.1 0) (hs : s < 520) : m_sees τ k s = u_has σ (u_row σ k s) := by
  have h := rel_src hI hB hW hk hs
  cases hr : u_row σ k s with
  | none => rw [hr] at h; exact h
  | some r =>
    rw [hr] at h
    obtain ⟨o, o1, o2, o3⟩ := h
    have h1 := congrArg Prod.fst o3
    unfold m_sees u_has
    by_cases e : σ.1 7 r = 0
    · have h2 : τ.1 1 (520 * o + s) = 1 := by rw [show τ.1 1 (520 * o + s) = _ from h1, u_wr, if_pos e]
      rw [o2, decide_eq_true h2]
      exact (decide_eq_true e).symm
    · have h2 : τ.1 1 (520 * o + s) = 2 := by rw [show τ.1 1 (520 * o + s) = _ from h1, u_wr, if_neg e]
      rw [o2, decide_eq_false (by rw [h2]; decide)]
      exact (decide_eq_false e).symm
theorem rel_val (hI : iAll c σ) (hB : jB σ τ) (hW : jW σ τ) {k s : Nat} (hk : k ≤ σ.2.1 0) (hs : s < 520) (hh : m_sees τ k s = true) : (τ.1 2 (520 * m_src τ k s + s)).toInt64 = u_val σ (u_row σ k s) := by
  have h := rel_src hI hB hW hk hs
  rw [rel_sees hI hB hW hk hs] at hh
  cases hr : u_row σ k s with
  | none => rw [hr] at hh; cases hh
  | some r =>
    rw [hr] at h hh
    obtain ⟨o, o1, o2, o3⟩ := h
    have e : σ.1 7 r = 0 := of_decide_eq_true hh
    have h2 := congrArg Prod.snd o3
    rw [o2, show τ.1 2 (520 * o + s) = _ from h2]
    simp only [u_wr, u_val]
    rw [if_pos e, if_pos e]
theorem rel_mval (hI : iAll c σ) (hB : jB σ τ) (hW : jW σ τ) {k s : Nat} (hk : k ≤ σ.2.1 0) (hs : s < 520) : m_val τ k s = u_val σ (u_row σ k s) := by
  unfold m_val
  by_cases h : m_sees τ k s = true
  · rw [if_pos h]; exact rel_val hI hB hW hk hs h
  · rw [if_neg h]
    have h2 : m_sees τ k s = false := by simpa using h
    rw [rel_sees hI hB hW hk hs] at h2
    cases hr : u_row σ k s with
    | none => rfl
    | some r =>
      rw [hr] at h2
      exact (if_neg (of_decide_eq_false h2)).symm
theorem rel_state (hB : jB σ τ) (t : Int32) : u_state σ t = m_state τ t := by unfold u_state m_state; rw [hB.2.2.2.1, hB.2.2.2.2.1]
theorem u_find_520 (hI : iAll c σ) {key : Int32} {s : Nat} (h : u_find σ key = some s) : s < 512 := by
  have h1 := u_find_lt h
  have hc := hI.2.1
  have h2 := hc.1
  have h3 := hc.2.1
  omega
theorem rel_held (hI : iAll c σ) (hB : jB σ τ) (hH : jH σ τ) (t key : Int32) : u_held σ t key = m_held τ t key := by
  unfold u_held m_held
  rw [hB.act, hB.find]
  by_cases h : u_act σ t = true
  · rw [if_pos h, if_pos h]
    obtain ⟨k, k1, k2, rfl, k3⟩ := (u_act_iff hI.1.1).mp h
    have hn := hI.n
    rw [nI_clamp (by omega)]
    cases hf : u_find σ key with
    | none =>
      have : u_hrow σ (nI k) (-1) = none := u_hrow_none.mpr (fun q hq _ e => by
        obtain ⟨s, s1, s2⟩ := (hI.2.2.2.2.1 q hq).2.1
        have hc := hI.2.1
        have h2 := hc.1
        have h3 := hc.2.1
        exact pq_nI_m1 (show s < 2 ^ 31 by omega) (s2.symm.trans e))
      show u_kind σ (nI k) (-1) = 0
      unfold u_kind; rw [this]
    | some s =>
      have := u_find_520 hI hf
      exact (hH k s k1 (by omega) (by omega)).symm
  · rw [if_neg h, if_neg h]
theorem rel_blocker (hI : iAll c σ) (hB : jB σ τ) (hH : jH σ τ) (t key : Int32) (y : Bool) : u_blocker σ t key y = m_blocker τ t key y := by
  unfold u_blocker m_blocker
  rw [hB.act, hB.find]
  by_cases h : u_act σ t = true
  · rw [if_pos h, if_pos h]
    obtain ⟨k, k1, k2, rfl, k3⟩ := (u_act_iff hI.1.1).mp h
    have hn := hI.n
    rw [nI_clamp (by omega)]
    cases hf : u_find σ key with
    | none => exact rel_least_none hI k _
    | some s =>
      have := u_find_520 hI hf
      exact rel_least hI hB hH k1 k2 (by omega)
  · rw [if_neg h, if_neg h]
/-- what an active one waits for, in both -/
theorem rel_wish (hI : iAll c σ) (hB : jB σ τ) (hQ : jQ σ τ) {k : Nat} (k1 : 1 ≤ k) (k2 : k ≤ σ.2.1 0) (k3 : σ.1 1 k = 0) : (σ.1 16 k = 0 ∧ m_wx τ k = none) ∨ ∃ s, s < 512 ∧ ¬ σ.1 16 k = 0 ∧ σ.1 15 k = nI s ∧ m_wx τ k = some s ∧ σ.1 16 k = (if m_wy τ k = true then 2 else 1) := by
  have hn := hI.n
  obtain ⟨q1, q2⟩ := hQ k k1 k2 k3
  rcases hI.2.2.2.2.2.2.2.2 k k1 (by omega) with e | ⟨e1, e2, e3, s, s1, s2⟩
  · left
    refine ⟨e, ?_⟩
    unfold m_wx
    rw [q1, if_pos e]; rfl
  · right
    have hc := hI.2.1
    have c1 := hc.1
    have c2 := hc.2.1
    have hne : ¬ σ.1 16 k = 0 := fun z => by rcases e3 with q | q <;> (rw [q] at z; exact absurd z (by decide))
    refine ⟨s, by omega, hne, s2, ?_, ?_⟩
    · unfold m_wx
      rw [q1, if_neg hne, s2, if_neg (pq_nI_m1 (by omega)), nI_clamp (by omega)]
    · have h7 := q2 hne
      unfold m_wy
      rw [h7]
      rcases e3 with q | q
      · rw [q]; decide
      · rw [q]; decide
theorem rel_waits (hI : iAll c σ) (hB : jB σ τ) (hH : jH σ τ) (hQ : jQ σ τ) (t : Int32) : u_waits σ t = m_waits τ t := by
  unfold u_waits m_waits
  rw [hB.act]
  by_cases h : u_act σ t = true
  · rw [if_pos h, if_pos h]
    obtain ⟨k, k1, k2, rfl, k3⟩ := (u_act_iff hI.1.1).mp h
    have hn := hI.n
    rw [nI_clamp (by omega)]
    rcases rel_wish hI hB hQ k1 k2 k3 with ⟨e1, e2⟩ | ⟨s, s1, s2, s3, s4, s5⟩
    · rw [if_pos e1, e2]; rfl
    · rw [if_neg s2, s3, s4, s5]
      exact rel_least hI hB hH k1 k2 (by omega)
  · rw [if_neg h, if_neg h]
theorem rel_size (hI : iAll c σ) (hB : jB σ τ) (hW : jW σ τ) (t : Int32) : u_size σ t = m_size τ t := by
  unfold u_size m_size
  rw [hB.act]
  by_cases h : (decide (t = 0) || u_act σ t) = true
  · rw [if_pos h, if_pos h]
    obtain ⟨k, k2, rfl, k3⟩ := (u_asked_iff hI.1.1).mp h
    have hn := hI.n
    have hc := hI.2.1
    have c1 := hc.1
    have c2 := hc.2.1
    rw [nI_clamp (by omega), hB.2.1]
    congr 1
    exact pq_cnt_congr (fun s hs => (rel_sees hI hB hW k2 (by omega)).symm)
  · rw [if_neg h, if_neg h]
theorem rel_next (hI : iAll c σ) (hB : jB σ τ) (hW : jW σ τ) (t key : Int32) : u_next σ t key = m_next τ t key := by
  unfold u_next m_next
  rw [hB.act]
  by_cases h : (decide (t = 0) || u_act σ t) = true
  · rw [if_pos h, if_pos h]
    obtain ⟨k, k2, rfl, k3⟩ := (u_asked_iff hI.1.1).mp h
    have hn := hI.n
    have hc := hI.2.1
    have c1 := hc.1
    have c2 := hc.2.1
    rw [nI_clamp (by omega), hB.2.1]
    have : ∀ s, s ≤ σ.2.1 1 → u_nx σ k key s = m_nx τ k key s := by
      intro s
      induction s with
      | zero => intro _; rfl
      | succ s ih =>
        intro hs
        simp only [u_nx, m_nx]
        rw [ih (by omega), hB.1, rel_sees hI hB hW k2 (show s < 520 by omega)]
        by_cases e1 : key < σ.1 3 s
        · by_cases e2 : (σ.1 3 s).toInt64 < m_nx τ k key s
          · cases u_has σ (u_row σ k s) <;> simp [e1, e2]
          · cases u_has σ (u_row σ k s) <;> simp [e1, e2]
        · simp [e1]
    exact this _ (Nat.le_refl _)
  · rw [if_neg h, if_neg h]
theorem rel_sum (hI : iAll c σ) (hB : jB σ τ) (hW : jW σ τ) (t lo hi : Int32) : u_sum σ t lo hi = m_sum τ t lo hi := by
  unfold u_sum m_sum
  rw [hB.act]
  by_cases h : (decide (t = 0) || u_act σ t) = true
  · rw [if_pos h, if_pos h]
    obtain ⟨k, k2, rfl, k3⟩ := (u_asked_iff hI.1.1).mp h
    have hn := hI.n
    have hc := hI.2.1
    have c1 := hc.1
    have c2 := hc.2.1
    rw [nI_clamp (by omega), hB.2.1]
    have : ∀ s, s ≤ σ.2.1 1 → u_sm σ k lo hi s = m_sm τ k lo hi s := by
      intro s
      induction s with
      | zero => intro _; rfl
      | succ s ih =>
        intro hs
        simp only [u_sm, m_sm]
        have h5 := rel_sees hI hB hW k2 (show s < 520 by omega)
        rw [ih (by omega), hB.1, h5]
        by_cases e : (!decide (σ.1 3 s < lo) && !decide (hi < σ.1 3 s) && u_has σ (u_row σ k s)) = true
        · rw [if_pos e, if_pos e]
          have h6 : m_sees τ k s = true := by
            rw [h5]
            rw [Bool.and_eq_true] at e
            exact e.2
          rw [rel_val hI hB hW k2 (show s < 520 by omega) h6]
        · rw [if_neg e, if_neg e]; simp
    exact this _ (Nat.le_refl _)
  · rw [if_neg h, if_neg h]
end RQ
