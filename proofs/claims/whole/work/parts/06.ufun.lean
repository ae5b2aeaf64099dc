/-- the parents as numbers -/
def uQ (σ : ST) : Nat → Nat := fun u => (σ.1 0 u).toNatClampNeg
def uF (σ : ST) : Prop := σ.2.1 0 ≤ 150 ∧ ∀ u, 1 ≤ u → u ≤ σ.2.1 0 → σ.1 0 u = nI (uQ σ u) ∧ uQ σ u < u
def uH (σ : ST) : Prop := σ.2.1 3 ≤ 512 ∧ ∀ r, r < σ.2.1 3 → σ.1 11 r = -1 ∨ ∃ o, o ≤ σ.2.1 0 ∧ σ.1 11 r = nI o
def uW (σ : ST) : Prop := σ.2.1 2 ≤ 512 ∧ ∀ r, r < σ.2.1 2 → (σ.1 4 r = -1 ∨ ∃ o, o ≤ σ.2.1 0 ∧ σ.1 4 r = nI o) ∧ ∃ s, s < 512 ∧ σ.1 5 r = nI s
/-- the same but for what is only a sheet to draw on -/
def uEq (σ σ' : ST) : Prop := σ'.2.1 = σ.2.1 ∧ ∀ j, j ≠ 2 → j ≠ 9 → j ≠ 10 → σ'.1 j = σ.1 j
theorem uEq.refl (σ : ST) : uEq σ σ := ⟨rfl, fun _ _ _ _ => rfl⟩
theorem uEq.trans {a b c : ST} (h1 : uEq a b) (h2 : uEq b c) : uEq a c := ⟨h2.1.trans h1.1, fun j q1 q2 q3 => (h2.2 j q1 q2 q3).trans (h1.2 j q1 q2 q3)⟩
theorem uEq.sa2 {σ τ : ST} (h : uEq σ τ) (f : Nat → Int32) : uEq σ (sa τ 2 f) := ⟨h.1, fun j q1 q2 q3 => (if_neg q1).trans (h.2 j q1 q2 q3)⟩
theorem uEq.sa9 {σ τ : ST} (h : uEq σ τ) (f : Nat → Int32) : uEq σ (sa τ 9 f) := ⟨h.1, fun j q1 q2 q3 => (if_neg q2).trans (h.2 j q1 q2 q3)⟩
theorem uEq.sa10 {σ τ : ST} (h : uEq σ τ) (f : Nat → Int32) : uEq σ (sa τ 10 f) := ⟨h.1, fun j q1 q2 q3 => (if_neg q3).trans (h.2 j q1 q2 q3)⟩
theorem uEq.sb {σ τ : ST} (h : uEq σ τ) (f : Nat → Int64) : uEq σ (sb τ f) := h
theorem uEq.sa {σ τ : ST} (h : uEq σ τ) (k : Nat) (f : Nat → Int32) : uEq (sa σ k f) (sa τ k f) := by
  refine ⟨h.1, fun j q1 q2 q3 => ?_⟩
  show (if j = k then f else τ.1 j) = (if j = k then f else σ.1 j)
  split
  · rfl
  · exact h.2 j q1 q2 q3
theorem uEq.sf {σ τ : ST} (h : uEq σ τ) (k n : Nat) : uEq (sf σ k n) (sf τ k n) := by
  refine ⟨?_, h.2⟩
  funext j
  show (if j = k then n else τ.2.1 j) = (if j = k then n else σ.2.1 j)
  rw [h.1]
theorem uF_dn {σ : ST} (h : uF σ) : pq_dn (σ.2.1 0) (uQ σ) := fun t h0 hn => (h.2 t h0 hn).2
theorem pq_lw_congr {p q : Nat → Bool} {o : Nat → Int32} {n : Nat} (h : ∀ j, j < n → p j = q j) : pq_lw p o n = pq_lw q o n := by
  induction n with
  | zero => rfl
  | succ n ih => simp only [pq_lw]; rw [ih (fun j hj => h j (by omega)), h n (by omega)]
/-- a row of the held keys is in the way of t, that wants slot x for y -/
def u_way (σ : ST) (t : Nat) (x y : Int32) (r : Nat) : Bool := decide (σ.1 12 r = x) && !decide (σ.1 11 r = -1) && !pq_on (uQ σ) t (σ.1 11 r).toNatClampNeg && (decide (y = 2) || decide (σ.1 13 r = 2))
def u_least (σ : ST) (t : Nat) (x y : Int32) : Int32 := pq_lw (u_way σ t x y) (σ.1 11) (σ.2.1 3)
/-- what t sees of slot s: the newest row on its line -/
def u_sees (σ : ST) (t s r : Nat) : Bool := !decide (σ.1 4 r = -1) && pq_on (uQ σ) t (σ.1 4 r).toNatClampNeg && decide (σ.1 5 r = nI s)
def u_row (σ : ST) (t s : Nat) : Option Nat := pq_lst (u_sees σ t s) (σ.2.1 2)
def u_val (σ : ST) : Option Nat → Int64
  | none => 1099511627776
  | some r => if σ.1 7 r = 0 then (σ.1 6 r).toInt64 else 1099511627776
def u_find (σ : ST) (key : Int32) : Option Nat := pq_fst (fun j => decide (σ.1 3 j = key)) (σ.2.1 1)
def u_seen (σ : ST) (t : Nat) (key : Int32) : Int64 := match u_find σ key with
  | none => 1099511627776
  | some s => u_val σ (u_row σ t s)
theorem u_way_eq {σ : ST} {f : Nat → Int32} {t : Nat} (hH : uH σ) (hf : ∀ u, u ≤ σ.2.1 0 → f u = pq_b (pq_on (uQ σ) t u)) (hn : σ.2.1 0 ≤ 150) (x y : Int32) {r : Nat} (hr : r < σ.2.1 3) : pq_way (sa σ 2 f) x y r = u_way σ t x y r := by
  show (decide (σ.1 12 r = x) && !decide (σ.1 11 r = -1) && decide (f (σ.1 11 r).toNatClampNeg = 0) && (decide (y = 2) || decide (σ.1 13 r = 2))) = _
  unfold u_way
  rcases hH.2 r hr with e | ⟨o, o1, o2⟩
  · rw [decide_eq_true e]; simp
  · rw [o2, nI_clamp (by omega), hf o o1]
    congr 2
    cases pq_on (uQ σ) t o <;> rfl
theorem u_sees_eq {σ : ST} {f : Nat → Int32} {t : Nat} (hW : uW σ) (hf : ∀ u, u ≤ σ.2.1 0 → f u = pq_b (pq_on (uQ σ) t u)) (hn : σ.2.1 0 ≤ 150) (s : Nat) {r : Nat} (hr : r < σ.2.1 2) : pq_seen (sa σ 2 f) s r = u_sees σ t s r := by
  show (!decide (σ.1 4 r = -1) && !decide (f (σ.1 4 r).toNatClampNeg = 0) && decide (σ.1 5 r = nI s)) = _
  unfold u_sees
  rcases (hW.2 r hr).1 with e | ⟨o, o1, o2⟩
  · rw [decide_eq_true e]; simp
  · rw [o2, nI_clamp (by omega), hf o o1]
    congr 2
    cases pq_on (uQ σ) t o <;> rfl
theorem u_row_lt {σ : ST} {t s r : Nat} (h : u_row σ t s = some r) : r < σ.2.1 2 := (pq_lst_some.mp h).1
theorem u_find_lt {σ : ST} {key : Int32} {s : Nat} (h : u_find σ key = some s) : s < σ.2.1 1 := (pq_fst_some.mp h).1
