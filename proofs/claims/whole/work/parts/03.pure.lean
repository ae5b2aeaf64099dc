def pq_b (b : Bool) : Int32 := if b = true then 1 else 0
theorem pq_b_t : pq_b true = 1 := rfl
theorem pq_b_f : pq_b false = 0 := rfl
theorem pq_b0 (b : Bool) : pq_b b = 0 ↔ b = false := by cases b <;> decide
theorem pq_bn0 (b : Bool) : ¬ pq_b b = 0 ↔ b = true := by cases b <;> decide
theorem pq_b1 (b : Bool) : pq_b b = 1 ↔ b = true := by cases b <;> decide
theorem pq_b_nar (b : Bool) : vp_nar .boolean (pq_b b) = pq_b b := by cases b <;> rfl
theorem pq_b_narrow (b : Bool) : narrow .boolean (.int (pq_b b)) = .int (pq_b b) := by cases b <;> rfl
def pq_cnt (p : Nat → Bool) : Nat → Nat
  | 0 => 0
  | n + 1 => pq_cnt p n + (if p n = true then 1 else 0)
def pq_lst (p : Nat → Bool) : Nat → Option Nat
  | 0 => none
  | n + 1 => if p n = true then some n else pq_lst p n
def pq_fst (p : Nat → Bool) : Nat → Option Nat
  | 0 => none
  | n + 1 => match pq_fst p n with
    | some i => some i
    | none => if p n = true then some n else none
def pq_o : Option Nat → Int32
  | none => -1
  | some i => nI i
theorem pq_cnt_le (p : Nat → Bool) (n : Nat) : pq_cnt p n ≤ n := by
  induction n with
  | zero => exact Nat.le_refl _
  | succ n ih => simp only [pq_cnt]; split <;> omega
theorem pq_cnt_congr {p q : Nat → Bool} {n : Nat} (h : ∀ j, j < n → p j = q j) : pq_cnt p n = pq_cnt q n := by
  induction n with
  | zero => rfl
  | succ n ih => simp only [pq_cnt]; rw [ih (fun j hj => h j (by omega)), h n (by omega)]
theorem pq_cnt_zero {p : Nat → Bool} {n : Nat} (h : ∀ j, j < n → p j = false) : pq_cnt p n = 0 := by
  induction n with
  | zero => rfl
  | succ n ih => simp only [pq_cnt]; rw [ih (fun j hj => h j (by omega)), h n (by omega)]; rfl
theorem pq_cnt_tail {p : Nat → Bool} {n k : Nat} (h : ∀ j, n ≤ j → j < n + k → p j = false) : pq_cnt p (n + k) = pq_cnt p n := by
  induction k with
  | zero => rfl
  | succ k ih => show pq_cnt p (n + k + 1) = _; simp only [pq_cnt]; rw [ih (fun j h1 h2 => h j h1 (by omega)), h (n + k) (by omega) (by omega)]; rfl
theorem pq_lst_congr {p q : Nat → Bool} {n : Nat} (h : ∀ j, j < n → p j = q j) : pq_lst p n = pq_lst q n := by
  induction n with
  | zero => rfl
  | succ n ih => simp only [pq_lst]; rw [ih (fun j hj => h j (by omega)), h n (by omega)]
theorem pq_fst_congr {p q : Nat → Bool} {n : Nat} (h : ∀ j, j < n → p j = q j) : pq_fst p n = pq_fst q n := by
  induction n with
  | zero => rfl
  | succ n ih => simp only [pq_fst]; rw [ih (fun j hj => h j (by omega)), h n (by omega)]
theorem pq_lst_none {p : Nat → Bool} {n : Nat} : pq_lst p n = none ↔ ∀ j, j < n → p j = false := by
  induction n with
  | zero => simp [pq_lst]
  | succ n ih =>
    simp only [pq_lst]
    constructor
    · intro h j hj
      split at h
      · cases h
      · rcases Nat.lt_succ_iff_lt_or_eq.mp hj with h1 | h1
        · exact ih.mp h j h1
        · subst h1; simp_all
    · intro h
      rw [if_neg (by rw [h n (by omega)]; decide)]
      exact ih.mpr (fun j hj => h j (by omega))
theorem pq_lst_some {p : Nat → Bool} {n i : Nat} : pq_lst p n = some i ↔ i < n ∧ p i = true ∧ ∀ j, i < j → j < n → p j = false := by
  induction n with
  | zero => simp [pq_lst]
  | succ n ih =>
    simp only [pq_lst]
    by_cases hp : p n = true
    · rw [if_pos hp]
      constructor
      · intro h
        cases h
        exact ⟨by omega, hp, fun j h1 h2 => by omega⟩
      · rintro ⟨h1, h2, h3⟩
        by_cases e : i = n
        · rw [e]
        · have := h3 n (by omega) (by omega)
          rw [hp] at this; cases this
    · rw [if_neg hp, ih]
      constructor
      · rintro ⟨h1, h2, h3⟩
        refine ⟨by omega, h2, fun j h4 h5 => ?_⟩
        by_cases e : j = n
        · rw [e]; simpa using hp
        · exact h3 j h4 (by omega)
      · rintro ⟨h1, h2, h3⟩
        have e : i ≠ n := fun e => hp (e ▸ h2)
        exact ⟨by omega, h2, fun j h4 h5 => h3 j h4 (by omega)⟩
theorem pq_fst_none {p : Nat → Bool} {n : Nat} : pq_fst p n = none ↔ ∀ j, j < n → p j = false := by
  induction n with
  | zero => simp [pq_fst]
  | succ n ih =>
    simp only [pq_fst]
    cases hf : pq_fst p n with
    | some i =>
      constructor
      · intro h; cases h
      · intro h
        have := ih.mpr (fun j hj => h j (by omega))
        rw [hf] at this; cases this
    | none =>
      have h0 := ih.mp hf
      constructor
      · intro h j hj
        by_cases e : j = n
        · subst e
          by_cases hp : p j = true
          · simp [hp] at h
          · simpa using hp
        · exact h0 j (by omega)
      · intro h
        simp [h n (by omega)]
theorem pq_fst_some {p : Nat → Bool} {n i : Nat} : pq_fst p n = some i ↔ i < n ∧ p i = true ∧ ∀ j, j < i → p j = false := by
  induction n with
  | zero => simp [pq_fst]
  | succ n ih =>
    simp only [pq_fst]
    cases hf : pq_fst p n with
    | some k =>
      have hk := hf
      constructor
      · intro h
        cases h
        rw [hf] at ih
        obtain ⟨h1, h2, h3⟩ := ih.mp rfl
        exact ⟨by omega, h2, h3⟩
      · rintro ⟨h1, h2, h3⟩
        by_cases e : i = n
        · have h0 : pq_fst p n = none := pq_fst_none.mpr (fun j hj => h3 j (by omega))
          rw [hk] at h0; cases h0
        · have q := ih.mpr ⟨by omega, h2, h3⟩
          rw [hf] at q; exact q
    | none =>
      have h0 := pq_fst_none.mp hf
      constructor
      · intro h
        by_cases hp : p n = true
        · simp [hp] at h; subst h
          exact ⟨by omega, hp, h0⟩
        · simp [hp] at h
      · rintro ⟨h1, h2, h3⟩
        by_cases e : i = n
        · subst e; simp [h2]
        · have := h0 i (by omega)
          rw [h2] at this; cases this
theorem pq_o_m1 {x : Option Nat} (h : ∀ i, x = some i → i < 2 ^ 31) : pq_o x = -1 ↔ x = none := by
  cases x with
  | none => simp [pq_o]
  | some i =>
    simp only [pq_o]
    constructor
    · intro e
      have h1 := nI_toInt (h i rfl)
      rw [e] at h1
      have : (-1 : Int32).toInt = -1 := by decide
      omega
    · intro e; cases e
theorem pq_nI_m1 {i : Nat} (h : i < 2 ^ 31) : ¬ nI i = -1 := by
  intro e
  have h1 := nI_toInt h
  rw [e] at h1
  have : (-1 : Int32).toInt = -1 := by decide
  omega
/-- who lies on the line of t: itself, its parent, and so on up to the store -/
def pq_lin (q : Nat → Nat) : Nat → Nat → Nat → Bool
  | 0, t, u => decide (u = t)
  | f + 1, t, u => decide (u = t) || (decide (t ≠ 0) && pq_lin q f (q t) u)
def pq_on (q : Nat → Nat) (t u : Nat) : Bool := pq_lin q t t u
/-- a parent's number is smaller -/
def pq_dn (n : Nat) (q : Nat → Nat) : Prop := ∀ t, 0 < t → t ≤ n → q t < t
theorem pq_lin_0 (q : Nat → Nat) (f u : Nat) : pq_lin q f 0 u = decide (u = 0) := by cases f <;> simp [pq_lin]
theorem pq_lin_fuel {n : Nat} {q : Nat → Nat} (hq : pq_dn n q) (u : Nat) : ∀ t f, t ≤ n → t ≤ f → pq_lin q f t u = pq_lin q t t u := by
  intro t
  induction t using Nat.strongRecOn with
  | _ t ih =>
    intro f hn hf
    rcases Nat.eq_zero_or_pos t with h | h
    · subst h; rw [pq_lin_0, pq_lin_0]
    · obtain ⟨t', rfl⟩ : ∃ t', t = t' + 1 := ⟨t - 1, by omega⟩
      obtain ⟨f', rfl⟩ : ∃ f', f = f' + 1 := ⟨f - 1, by omega⟩
      have h1 := hq (t' + 1) h hn
      simp only [pq_lin]
      rw [ih (q (t' + 1)) h1 f' (by omega) (by omega), ih (q (t' + 1)) h1 t' (by omega) (by omega)]
theorem pq_on_0 (q : Nat → Nat) (u : Nat) : pq_on q 0 u = decide (u = 0) := pq_lin_0 q 0 u
theorem pq_on_s {n : Nat} {q : Nat → Nat} (hq : pq_dn n q) {t : Nat} (h : 0 < t) (hn : t ≤ n) (u : Nat) : pq_on q t u = (decide (u = t) || pq_on q (q t) u) := by
  obtain ⟨t', rfl⟩ : ∃ t', t = t' + 1 := ⟨t - 1, by omega⟩
  have h1 := hq (t' + 1) h hn
  unfold pq_on
  rw [← pq_lin_fuel hq u (q (t' + 1)) t' (by omega) (by omega)]
  simp [pq_lin]
theorem pq_on_self {n : Nat} {q : Nat → Nat} (hq : pq_dn n q) {t : Nat} (hn : t ≤ n) : pq_on q t t = true := by
  rcases Nat.eq_zero_or_pos t with h | h
  · subst h; simp [pq_on_0]
  · rw [pq_on_s hq h hn]; simp
theorem pq_on_root {n : Nat} {q : Nat → Nat} (hq : pq_dn n q) : ∀ t, t ≤ n → pq_on q t 0 = true := by
  intro t
  induction t using Nat.strongRecOn with
  | _ t ih =>
    intro hn
    rcases Nat.eq_zero_or_pos t with h | h
    · subst h; simp [pq_on_0]
    · have h1 := hq t h hn
      rw [pq_on_s hq h hn, ih (q t) h1 (by omega)]; simp
theorem pq_on_le {n : Nat} {q : Nat → Nat} (hq : pq_dn n q) : ∀ t u, t ≤ n → pq_on q t u = true → u ≤ t := by
  intro t
  induction t using Nat.strongRecOn with
  | _ t ih =>
    intro u hn hu
    rcases Nat.eq_zero_or_pos t with h | h
    · subst h; rw [pq_on_0] at hu; simpa using hu
    · have h1 := hq t h hn
      rw [pq_on_s hq h hn] at hu
      simp only [Bool.or_eq_true, decide_eq_true_eq] at hu
      rcases hu with hu | hu
      · omega
      · have := ih (q t) h1 u (by omega) hu
        omega
theorem pq_on_trans {n : Nat} {q : Nat → Nat} (hq : pq_dn n q) : ∀ t u v, t ≤ n → pq_on q t u = true → pq_on q u v = true → pq_on q t v = true := by
  intro t
  induction t using Nat.strongRecOn with
  | _ t ih =>
    intro u v hn hu hv
    rcases Nat.eq_zero_or_pos t with h | h
    · subst h; rw [pq_on_0] at hu; have : u = 0 := by simpa using hu
      subst this; exact hv
    · have h1 := hq t h hn
      rw [pq_on_s hq h hn] at hu ⊢
      simp only [Bool.or_eq_true, decide_eq_true_eq] at hu ⊢
      rcases hu with hu | hu
      · subst hu
        rw [pq_on_s hq h hn] at hv
        simpa using hv
      · exact Or.inr (ih (q t) h1 u v (by omega) hu hv)
theorem pq_on_step {n : Nat} {q : Nat → Nat} (hq : pq_dn n q) {t u : Nat} (hn : t ≤ n) (hu : pq_on q t u = true) (h0 : 0 < u) : pq_on q t (q u) = true := by
  have hle := pq_on_le hq t u hn hu
  have h1 := hq u h0 (by omega)
  refine pq_on_trans hq t u (q u) hn hu ?_
  rw [pq_on_s hq h0 (by omega), pq_on_self hq (t := q u) (by omega)]; simp
theorem pq_on_inv {n : Nat} {q : Nat → Nat} (hq : pq_dn n q) : ∀ t w, t ≤ n → pq_on q t w = true → w = t ∨ ∃ v, 0 < v ∧ v ≤ t ∧ pq_on q t v = true ∧ q v = w := by
  intro t
  induction t using Nat.strongRecOn with
  | _ t ih =>
    intro w hn hw
    rcases Nat.eq_zero_or_pos t with h | h
    · subst h; rw [pq_on_0] at hw; left; simpa using hw
    · have h1 := hq t h hn
      have hs := hw
      rw [pq_on_s hq h hn] at hs
      simp only [Bool.or_eq_true, decide_eq_true_eq] at hs
      rcases hs with hs | hs
      · exact Or.inl hs
      · right
        rcases ih (q t) h1 w (by omega) hs with e | ⟨v, v0, v1, v2, v3⟩
        · exact ⟨t, h, Nat.le_refl _, pq_on_self hq hn, e.symm⟩
        · refine ⟨v, v0, by omega, ?_, v3⟩
          rw [pq_on_s hq h hn, v2]; simp
theorem pq_on_total {n : Nat} {q : Nat → Nat} (hq : pq_dn n q) : ∀ t u v, t ≤ n → pq_on q t u = true → pq_on q t v = true → pq_on q u v = true ∨ pq_on q v u = true := by
  intro t
  induction t using Nat.strongRecOn with
  | _ t ih =>
    intro u v hn hu hv
    rcases Nat.eq_zero_or_pos t with h | h
    · subst h
      rw [pq_on_0] at hu hv
      have e1 : u = 0 := by simpa using hu
      have e2 : v = 0 := by simpa using hv
      subst e1; subst e2; left; simp [pq_on_0]
    · have h1 := hq t h hn
      have hu' := hu
      have hv' := hv
      rw [pq_on_s hq h hn] at hu' hv'
      simp only [Bool.or_eq_true, decide_eq_true_eq] at hu' hv'
      rcases hu' with e1 | e1
      · subst e1; exact Or.inl hv
      · rcases hv' with e2 | e2
        · subst e2; exact Or.inr hu
        · exact ih (q t) h1 u v (by omega) e1 e2
theorem pq_on_congr {n : Nat} {q q' : Nat → Nat} (hq : pq_dn n q) (h : ∀ t, 0 < t → t ≤ n → q' t = q t) : ∀ t u, t ≤ n → pq_on q' t u = pq_on q t u := by
  have hq' : pq_dn n q' := fun t h0 hn => by rw [h t h0 hn]; exact hq t h0 hn
  intro t
  induction t using Nat.strongRecOn with
  | _ t ih =>
    intro u hn
    rcases Nat.eq_zero_or_pos t with h0 | h0
    · subst h0; rw [pq_on_0, pq_on_0]
    · have h1 := hq t h0 hn
      rw [pq_on_s hq h0 hn, pq_on_s hq' h0 hn, h t h0 hn, ih (q t) h1 u (by omega)]
def pq_ex (n : Nat) (t : Int32) : Bool := decide (1 ≤ t) && decide (t ≤ nI n)
def pq_act (n : Nat) (st : Nat → Int32) (t : Int32) : Bool := pq_ex n t && decide (st t.toNatClampNeg = 0)
theorem pq_ex_iff {n : Nat} (hn : n < 2 ^ 31) {t : Int32} : pq_ex n t = true ↔ ∃ k, 1 ≤ k ∧ k ≤ n ∧ t = nI k := by
  unfold pq_ex
  rw [Bool.and_eq_true, decide_eq_true_eq, decide_eq_true_eq]
  constructor
  · rintro ⟨h1, h2⟩
    have h0 : ¬ t < 0 := by
      intro h
      have a1 := Int32.le_iff_toInt_le.mp h1
      have a2 := Int32.lt_iff_toInt_lt.mp h
      have e1 : (1 : Int32).toInt = 1 := by decide
      have e0 : (0 : Int32).toInt = 0 := by decide
      omega
    obtain ⟨j, hj, rfl⟩ := nI_of2 (nI_toInt hn) h0 h2
    exact ⟨j, (nI_leI (a := 1) (by omega) (by omega)).mp h1, hj, rfl⟩
  · rintro ⟨k, h1, h2, rfl⟩
    exact ⟨(nI_leI (a := 1) (by omega) (by omega)).mpr h1, (nI_leI (by omega) (by omega)).mpr h2⟩
theorem pq_act_iff {n : Nat} (hn : n < 2 ^ 31) {st : Nat → Int32} {t : Int32} : pq_act n st t = true ↔ ∃ k, 1 ≤ k ∧ k ≤ n ∧ t = nI k ∧ st k = 0 := by
  unfold pq_act
  rw [Bool.and_eq_true, pq_ex_iff hn, decide_eq_true_eq]
  constructor
  · rintro ⟨⟨k, h1, h2, rfl⟩, h3⟩
    rw [nI_clamp (by omega)] at h3
    exact ⟨k, h1, h2, rfl, h3⟩
  · rintro ⟨k, h1, h2, rfl, h3⟩
    refine ⟨⟨k, h1, h2, rfl⟩, ?_⟩
    rw [nI_clamp (by omega)]; exact h3
theorem pq_act_n {n : Nat} (hn : n < 2 ^ 31) {st : Nat → Int32} {k : Nat} (hk : k < 2 ^ 31) : pq_act n st (nI k) = (decide (1 ≤ k) && decide (k ≤ n) && decide (st k = 0)) := by
  rw [Bool.eq_iff_iff, pq_act_iff hn]
  simp only [Bool.and_eq_true, decide_eq_true_eq]
  constructor
  · rintro ⟨j, h1, h2, h3, h4⟩
    have e := (nI_eq hk (by omega)).mp h3
    subst e
    exact ⟨⟨h1, h2⟩, h4⟩
  · rintro ⟨⟨h1, h2⟩, h4⟩
    exact ⟨k, h1, h2, rfl, h4⟩
/-- the places below i of which P says so have v -/
def pq_msk (P : Nat → Bool) (v : Int32) (f : Nat → Int32) (i : Nat) : Nat → Int32 := fun r => if r < i ∧ P r = true then v else f r
theorem pq_msk_at (P : Nat → Bool) (v : Int32) (f : Nat → Int32) (i : Nat) : pq_msk P v f i i = f i := if_neg (fun h => Nat.lt_irrefl _ h.1)
theorem pq_msk_id {P : Nat → Bool} {v : Int32} {f : Nat → Int32} {i : Nat} (h : ∀ j, j < i → P j = false) : pq_msk P v f i = f := by
  funext r
  unfold pq_msk
  rw [if_neg]
  rintro ⟨h1, h2⟩
  rw [h r h1] at h2; cases h2
theorem pq_msk_f {P : Nat → Bool} {v : Int32} {f : Nat → Int32} {i : Nat} (h : P i = false) : pq_msk P v f i = pq_msk P v f (i + 1) := by
  funext r
  unfold pq_msk
  by_cases e : r = i
  · subst e
    rw [if_neg (fun q => Nat.lt_irrefl _ q.1), if_neg (fun q => by rw [h] at q; cases q.2)]
  · have e1 : (r < i ∧ P r = true) ↔ (r < i + 1 ∧ P r = true) := ⟨fun q => ⟨by omega, q.2⟩, fun q => ⟨by omega, q.2⟩⟩
    by_cases q : r < i ∧ P r = true
    · rw [if_pos q, if_pos (e1.mp q)]
    · rw [if_neg q, if_neg (fun z => q (e1.mpr z))]
theorem pq_msk_t {P : Nat → Bool} {v : Int32} {f : Nat → Int32} {i : Nat} (h : P i = true) : upd (pq_msk P v f i) i v = pq_msk P v f (i + 1) := by
  funext r
  unfold pq_msk upd
  by_cases e : r = i
  · subst e
    rw [if_pos rfl, if_pos ⟨by omega, h⟩]
  · rw [if_neg e]
    show (if r < i ∧ P r = true then v else f r) = _
    have e1 : (r < i ∧ P r = true) ↔ (r < i + 1 ∧ P r = true) := ⟨fun q => ⟨by omega, q.2⟩, fun q => ⟨by omega, q.2⟩⟩
    by_cases q : r < i ∧ P r = true
    · rw [if_pos q, if_pos (e1.mp q)]
    · rw [if_neg q, if_neg (fun z => q (e1.mpr z))]
/-- the least of o over the places of which p says so; 0 where there is none -/
def pq_lw (p : Nat → Bool) (o : Nat → Int32) : Nat → Int32
  | 0 => 0
  | n + 1 => if (p n && (decide (pq_lw p o n = 0) || decide (o n < pq_lw p o n))) = true then o n else pq_lw p o n
theorem pq_cnt_f {p : Nat → Bool} {n : Nat} (h : p n = false) : pq_cnt p (n + 1) = pq_cnt p n := by simp only [pq_cnt]; rw [h]; rfl
theorem pq_cnt_t {p : Nat → Bool} {n : Nat} (h : p n = true) : pq_cnt p (n + 1) = pq_cnt p n + 1 := by simp only [pq_cnt]; rw [h]; rfl
