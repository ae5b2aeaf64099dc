/-- arrays of ints, counters, the one array of longs -/
abbrev ST : Type := (Nat → Nat → Int32) × (Nat → Nat) × (Nat → Int64)
def sa (σ : ST) (k : Nat) (f : Nat → Int32) : ST := (fun j => if j = k then f else σ.1 j, σ.2.1, σ.2.2)
def sf (σ : ST) (k n : Nat) : ST := (σ.1, fun j => if j = k then n else σ.2.1 j, σ.2.2)
def sb (σ : ST) (f : Nat → Int64) : ST := (σ.1, σ.2.1, f)
def wU (ad : Nat → Nat) (cA : Nat → ClassId) (σ : ST) : va_W := [(ad 0, .inr (0, [.ref (ad 8), .ref (ad 9), .ref (ad 10), .int (nI (σ.2.1 0))])), (ad 1, .inr (1, [.ref (ad 19), .ref (ad 20), .ref (ad 21), .int (nI (σ.2.1 3))])), (ad 2, .inr (2, [.ref (ad 11), .int (nI (σ.2.1 1))])), (ad 3, .inr (3, [.ref (ad 22), .int (nI (σ.2.1 4))])), (ad 4, .inr (4, [.ref (ad 25)])), (ad 5, .inr (5, [.ref (ad 23), .ref (ad 24)])), (ad 6, .inr (6, [.ref (ad 12), .ref (ad 13), .ref (ad 14), .ref (ad 15), .ref (ad 16), .int (nI (σ.2.1 2)), .ref (ad 17), .ref (ad 18)])), (ad 7, .inr (7, [.ref (ad 0), .ref (ad 2), .ref (ad 6), .ref (ad 1), .ref (ad 3), .ref (ad 5), .ref (ad 4)])), (ad 8, .inl (cA 0, 151, .inl (σ.1 0))), (ad 9, .inl (cA 1, 151, .inl (σ.1 1))), (ad 10, .inl (cA 2, 151, .inl (σ.1 2))), (ad 11, .inl (cA 3, 512, .inl (σ.1 3))), (ad 12, .inl (cA 4, 512, .inl (σ.1 4))), (ad 13, .inl (cA 5, 512, .inl (σ.1 5))), (ad 14, .inl (cA 6, 512, .inl (σ.1 6))), (ad 15, .inl (cA 7, 512, .inl (σ.1 7))), (ad 16, .inl (cA 8, 512, .inl (σ.1 8))), (ad 17, .inl (cA 9, 512, .inl (σ.1 9))), (ad 18, .inl (cA 10, 512, .inl (σ.1 10))), (ad 19, .inl (cA 11, 512, .inl (σ.1 11))), (ad 20, .inl (cA 12, 512, .inl (σ.1 12))), (ad 21, .inl (cA 13, 512, .inl (σ.1 13))), (ad 22, .inl (cA 14, 512, .inl (σ.1 14))), (ad 23, .inl (cA 15, 151, .inl (σ.1 15))), (ad 24, .inl (cA 16, 151, .inl (σ.1 16))), (ad 25, .inl (cA 17, 453, .inr (.inl σ.2.2)))]
def tyU (cA : Nat → ClassId) : List (ClassId × FieldType) := [(cA 0, .int), (cA 1, .int), (cA 2, .boolean), (cA 3, .int), (cA 4, .int), (cA 5, .int), (cA 6, .int), (cA 7, .boolean), (cA 8, .int), (cA 9, .int), (cA 10, .int), (cA 11, .int), (cA 12, .int), (cA 13, .int), (cA 14, .int), (cA 15, .int), (cA 16, .int), (cA 17, .long)]
theorem awU_0 (ad : Nat → Nat) (cA : Nat → ClassId) (σ : ST) (f : Nat → Int32) : (wU ad cA σ).set 8 (ad 8, .inl (cA 0, 151, .inl f)) = wU ad cA (sa σ 0 f) := rfl
theorem awU_1 (ad : Nat → Nat) (cA : Nat → ClassId) (σ : ST) (f : Nat → Int32) : (wU ad cA σ).set 9 (ad 9, .inl (cA 1, 151, .inl f)) = wU ad cA (sa σ 1 f) := rfl
theorem awU_2 (ad : Nat → Nat) (cA : Nat → ClassId) (σ : ST) (f : Nat → Int32) : (wU ad cA σ).set 10 (ad 10, .inl (cA 2, 151, .inl f)) = wU ad cA (sa σ 2 f) := rfl
theorem awU_3 (ad : Nat → Nat) (cA : Nat → ClassId) (σ : ST) (f : Nat → Int32) : (wU ad cA σ).set 11 (ad 11, .inl (cA 3, 512, .inl f)) = wU ad cA (sa σ 3 f) := rfl
theorem awU_4 (ad : Nat → Nat) (cA : Nat → ClassId) (σ : ST) (f : Nat → Int32) : (wU ad cA σ).set 12 (ad 12, .inl (cA 4, 512, .inl f)) = wU ad cA (sa σ 4 f) := rfl
theorem awU_5 (ad : Nat → Nat) (cA : Nat → ClassId) (σ : ST) (f : Nat → Int32) : (wU ad cA σ).set 13 (ad 13, .inl (cA 5, 512, .inl f)) = wU ad cA (sa σ 5 f) := rfl
theorem awU_6 (ad : Nat → Nat) (cA : Nat → ClassId) (σ : ST) (f : Nat → Int32) : (wU ad cA σ).set 14 (ad 14, .inl (cA 6, 512, .inl f)) = wU ad cA (sa σ 6 f) := rfl
theorem awU_7 (ad : Nat → Nat) (cA : Nat → ClassId) (σ : ST) (f : Nat → Int32) : (wU ad cA σ).set 15 (ad 15, .inl (cA 7, 512, .inl f)) = wU ad cA (sa σ 7 f) := rfl
theorem awU_8 (ad : Nat → Nat) (cA : Nat → ClassId) (σ : ST) (f : Nat → Int32) : (wU ad cA σ).set 16 (ad 16, .inl (cA 8, 512, .inl f)) = wU ad cA (sa σ 8 f) := rfl
theorem awU_9 (ad : Nat → Nat) (cA : Nat → ClassId) (σ : ST) (f : Nat → Int32) : (wU ad cA σ).set 17 (ad 17, .inl (cA 9, 512, .inl f)) = wU ad cA (sa σ 9 f) := rfl
theorem awU_10 (ad : Nat → Nat) (cA : Nat → ClassId) (σ : ST) (f : Nat → Int32) : (wU ad cA σ).set 18 (ad 18, .inl (cA 10, 512, .inl f)) = wU ad cA (sa σ 10 f) := rfl
theorem awU_11 (ad : Nat → Nat) (cA : Nat → ClassId) (σ : ST) (f : Nat → Int32) : (wU ad cA σ).set 19 (ad 19, .inl (cA 11, 512, .inl f)) = wU ad cA (sa σ 11 f) := rfl
theorem awU_12 (ad : Nat → Nat) (cA : Nat → ClassId) (σ : ST) (f : Nat → Int32) : (wU ad cA σ).set 20 (ad 20, .inl (cA 12, 512, .inl f)) = wU ad cA (sa σ 12 f) := rfl
theorem awU_13 (ad : Nat → Nat) (cA : Nat → ClassId) (σ : ST) (f : Nat → Int32) : (wU ad cA σ).set 21 (ad 21, .inl (cA 13, 512, .inl f)) = wU ad cA (sa σ 13 f) := rfl
theorem awU_14 (ad : Nat → Nat) (cA : Nat → ClassId) (σ : ST) (f : Nat → Int32) : (wU ad cA σ).set 22 (ad 22, .inl (cA 14, 512, .inl f)) = wU ad cA (sa σ 14 f) := rfl
theorem awU_15 (ad : Nat → Nat) (cA : Nat → ClassId) (σ : ST) (f : Nat → Int32) : (wU ad cA σ).set 23 (ad 23, .inl (cA 15, 151, .inl f)) = wU ad cA (sa σ 15 f) := rfl
theorem awU_16 (ad : Nat → Nat) (cA : Nat → ClassId) (σ : ST) (f : Nat → Int32) : (wU ad cA σ).set 24 (ad 24, .inl (cA 16, 151, .inl f)) = wU ad cA (sa σ 16 f) := rfl
theorem awU_17 (ad : Nat → Nat) (cA : Nat → ClassId) (σ : ST) (f : Nat → Int64) : (wU ad cA σ).set 25 (ad 25, .inl (cA 17, 453, .inr (.inl f))) = wU ad cA (sb σ f) := rfl
theorem fwU_0 (ad : Nat → Nat) (cA : Nat → ClassId) (σ : ST) (n : Nat) : (wU ad cA σ).set 0 (ad 0, .inr (0, List.set [.ref (ad 8), .ref (ad 9), .ref (ad 10), .int (nI (σ.2.1 0))] 3 (.int (nI n)))) = wU ad cA (sf σ 0 n) := rfl
theorem fiU_0 : ux_FI TX0 4 3 tyX0 := ⟨tyX0_ok, nmX0, rfl, by decide +kernel⟩
theorem fwU_1 (ad : Nat → Nat) (cA : Nat → ClassId) (σ : ST) (n : Nat) : (wU ad cA σ).set 2 (ad 2, .inr (2, List.set [.ref (ad 11), .int (nI (σ.2.1 1))] 1 (.int (nI n)))) = wU ad cA (sf σ 1 n) := rfl
theorem fiU_1 : ux_FI TX2 2 1 tyX2 := ⟨tyX2_ok, nmX2, rfl, by decide +kernel⟩
theorem fwU_2 (ad : Nat → Nat) (cA : Nat → ClassId) (σ : ST) (n : Nat) : (wU ad cA σ).set 6 (ad 6, .inr (6, List.set [.ref (ad 12), .ref (ad 13), .ref (ad 14), .ref (ad 15), .ref (ad 16), .int (nI (σ.2.1 2)), .ref (ad 17), .ref (ad 18)] 5 (.int (nI n)))) = wU ad cA (sf σ 2 n) := rfl
theorem fiU_2 : ux_FI TX6 8 5 tyX6 := ⟨tyX6_ok, nmX6, rfl, by decide +kernel⟩
theorem fwU_3 (ad : Nat → Nat) (cA : Nat → ClassId) (σ : ST) (n : Nat) : (wU ad cA σ).set 1 (ad 1, .inr (1, List.set [.ref (ad 19), .ref (ad 20), .ref (ad 21), .int (nI (σ.2.1 3))] 3 (.int (nI n)))) = wU ad cA (sf σ 3 n) := rfl
theorem fiU_3 : ux_FI TX1 4 3 tyX1 := ⟨tyX1_ok, nmX1, rfl, by decide +kernel⟩
theorem fwU_4 (ad : Nat → Nat) (cA : Nat → ClassId) (σ : ST) (n : Nat) : (wU ad cA σ).set 3 (ad 3, .inr (3, List.set [.ref (ad 22), .int (nI (σ.2.1 4))] 1 (.int (nI n)))) = wU ad cA (sf σ 4 n) := rfl
theorem fiU_4 : ux_FI TX3 2 1 tyX3 := ⟨tyX3_ok, nmX3, rfl, by decide +kernel⟩
def wM (ad : Nat → Nat) (cA : Nat → ClassId) (σ : ST) : va_W := [(ad 0, .inr (8, [.ref (ad 1), .int (nI (σ.2.1 0)), .ref (ad 2), .ref (ad 3), .ref (ad 4), .ref (ad 5), .ref (ad 6), .int (nI (σ.2.1 1)), .ref (ad 7), .ref (ad 8), .ref (ad 9), .ref (ad 10), .ref (ad 11), .ref (ad 12), .int (nI (σ.2.1 2)), .ref (ad 13)])), (ad 1, .inl (cA 0, 520, .inl (σ.1 0))), (ad 2, .inl (cA 1, 78520, .inl (σ.1 1))), (ad 3, .inl (cA 2, 78520, .inl (σ.1 2))), (ad 4, .inl (cA 3, 78520, .inl (σ.1 3))), (ad 5, .inl (cA 4, 151, .inl (σ.1 4))), (ad 6, .inl (cA 5, 151, .inl (σ.1 5))), (ad 7, .inl (cA 6, 151, .inl (σ.1 6))), (ad 8, .inl (cA 7, 151, .inl (σ.1 7))), (ad 9, .inl (cA 8, 520, .inl (σ.1 8))), (ad 10, .inl (cA 9, 520, .inl (σ.1 9))), (ad 11, .inl (cA 10, 270400, .inl (σ.1 10))), (ad 12, .inl (cA 11, 270400, .inl (σ.1 11))), (ad 13, .inl (cA 12, 151, .inl (σ.1 12)))]
def tyM (cA : Nat → ClassId) : List (ClassId × FieldType) := [(cA 0, .int), (cA 1, .byte), (cA 2, .int), (cA 3, .byte), (cA 4, .int), (cA 5, .int), (cA 6, .int), (cA 7, .boolean), (cA 8, .int), (cA 9, .boolean), (cA 10, .byte), (cA 11, .int), (cA 12, .boolean)]
theorem awM_0 (ad : Nat → Nat) (cA : Nat → ClassId) (σ : ST) (f : Nat → Int32) : (wM ad cA σ).set 1 (ad 1, .inl (cA 0, 520, .inl f)) = wM ad cA (sa σ 0 f) := rfl
theorem awM_1 (ad : Nat → Nat) (cA : Nat → ClassId) (σ : ST) (f : Nat → Int32) : (wM ad cA σ).set 2 (ad 2, .inl (cA 1, 78520, .inl f)) = wM ad cA (sa σ 1 f) := rfl
theorem awM_2 (ad : Nat → Nat) (cA : Nat → ClassId) (σ : ST) (f : Nat → Int32) : (wM ad cA σ).set 3 (ad 3, .inl (cA 2, 78520, .inl f)) = wM ad cA (sa σ 2 f) := rfl
theorem awM_3 (ad : Nat → Nat) (cA : Nat → ClassId) (σ : ST) (f : Nat → Int32) : (wM ad cA σ).set 4 (ad 4, .inl (cA 3, 78520, .inl f)) = wM ad cA (sa σ 3 f) := rfl
theorem awM_4 (ad : Nat → Nat) (cA : Nat → ClassId) (σ : ST) (f : Nat → Int32) : (wM ad cA σ).set 5 (ad 5, .inl (cA 4, 151, .inl f)) = wM ad cA (sa σ 4 f) := rfl
theorem awM_5 (ad : Nat → Nat) (cA : Nat → ClassId) (σ : ST) (f : Nat → Int32) : (wM ad cA σ).set 6 (ad 6, .inl (cA 5, 151, .inl f)) = wM ad cA (sa σ 5 f) := rfl
theorem awM_6 (ad : Nat → Nat) (cA : Nat → ClassId) (σ : ST) (f : Nat → Int32) : (wM ad cA σ).set 7 (ad 7, .inl (cA 6, 151, .inl f)) = wM ad cA (sa σ 6 f) := rfl
theorem awM_7 (ad : Nat → Nat) (cA : Nat → ClassId) (σ : ST) (f : Nat → Int32) : (wM ad cA σ).set 8 (ad 8, .inl (cA 7, 151, .inl f)) = wM ad cA (sa σ 7 f) := rfl
theorem awM_8 (ad : Nat → Nat) (cA : Nat → ClassId) (σ : ST) (f : Nat → Int32) : (wM ad cA σ).set 9 (ad 9, .inl (cA 8, 520, .inl f)) = wM ad cA (sa σ 8 f) := rfl
theorem awM_9 (ad : Nat → Nat) (cA : Nat → ClassId) (σ : ST) (f : Nat → Int32) : (wM ad cA σ).set 10 (ad 10, .inl (cA 9, 520, .inl f)) = wM ad cA (sa σ 9 f) := rfl
theorem awM_10 (ad : Nat → Nat) (cA : Nat → ClassId) (σ : ST) (f : Nat → Int32) : (wM ad cA σ).set 11 (ad 11, .inl (cA 10, 270400, .inl f)) = wM ad cA (sa σ 10 f) := rfl
theorem awM_11 (ad : Nat → Nat) (cA : Nat → ClassId) (σ : ST) (f : Nat → Int32) : (wM ad cA σ).set 12 (ad 12, .inl (cA 11, 270400, .inl f)) = wM ad cA (sa σ 11 f) := rfl
theorem awM_12 (ad : Nat → Nat) (cA : Nat → ClassId) (σ : ST) (f : Nat → Int32) : (wM ad cA σ).set 13 (ad 13, .inl (cA 12, 151, .inl f)) = wM ad cA (sa σ 12 f) := rfl
theorem fwM_0 (ad : Nat → Nat) (cA : Nat → ClassId) (σ : ST) (n : Nat) : (wM ad cA σ).set 0 (ad 0, .inr (8, List.set [.ref (ad 1), .int (nI (σ.2.1 0)), .ref (ad 2), .ref (ad 3), .ref (ad 4), .ref (ad 5), .ref (ad 6), .int (nI (σ.2.1 1)), .ref (ad 7), .ref (ad 8), .ref (ad 9), .ref (ad 10), .ref (ad 11), .ref (ad 12), .int (nI (σ.2.1 2)), .ref (ad 13)] 1 (.int (nI n)))) = wM ad cA (sf σ 0 n) := rfl
theorem fiM_0 : ux_FI TX8 16 1 tyX8 := ⟨tyX8_ok, nmX8, rfl, by decide +kernel⟩
theorem fwM_1 (ad : Nat → Nat) (cA : Nat → ClassId) (σ : ST) (n : Nat) : (wM ad cA σ).set 0 (ad 0, .inr (8, List.set [.ref (ad 1), .int (nI (σ.2.1 0)), .ref (ad 2), .ref (ad 3), .ref (ad 4), .ref (ad 5), .ref (ad 6), .int (nI (σ.2.1 1)), .ref (ad 7), .ref (ad 8), .ref (ad 9), .ref (ad 10), .ref (ad 11), .ref (ad 12), .int (nI (σ.2.1 2)), .ref (ad 13)] 7 (.int (nI n)))) = wM ad cA (sf σ 1 n) := rfl
theorem fiM_1 : ux_FI TX8 16 7 tyX8 := ⟨tyX8_ok, nmX8, rfl, by decide +kernel⟩
theorem fwM_2 (ad : Nat → Nat) (cA : Nat → ClassId) (σ : ST) (n : Nat) : (wM ad cA σ).set 0 (ad 0, .inr (8, List.set [.ref (ad 1), .int (nI (σ.2.1 0)), .ref (ad 2), .ref (ad 3), .ref (ad 4), .ref (ad 5), .ref (ad 6), .int (nI (σ.2.1 1)), .ref (ad 7), .ref (ad 8), .ref (ad 9), .ref (ad 10), .ref (ad 11), .ref (ad 12), .int (nI (σ.2.1 2)), .ref (ad 13)] 14 (.int (nI n)))) = wM ad cA (sf σ 2 n) := rfl
theorem fiM_2 : ux_FI TX8 16 14 tyX8 := ⟨tyX8_ok, nmX8, rfl, by decide +kernel⟩
theorem sa_eq (σ : ST) (k : Nat) (f : Nat → Int32) : (sa σ k f).1 k = f := if_pos rfl
theorem sa_ne (σ : ST) {k j : Nat} (f : Nat → Int32) (h : j ≠ k) : (sa σ k f).1 j = σ.1 j := if_neg h
theorem sa_f (σ : ST) (k : Nat) (f : Nat → Int32) : (sa σ k f).2 = σ.2 := rfl
theorem sf_a (σ : ST) (k n : Nat) : (sf σ k n).1 = σ.1 := rfl
theorem sf_eq (σ : ST) (k n : Nat) : (sf σ k n).2.1 k = n := if_pos rfl
theorem sf_ne (σ : ST) {k j : Nat} (n : Nat) (h : j ≠ k) : (sf σ k n).2.1 j = σ.2.1 j := if_neg h
theorem sa_sa (σ : ST) (k : Nat) (f g : Nat → Int32) : sa (sa σ k f) k g = sa σ k g := by
  unfold sa; congr 1; funext j; dsimp only; split <;> rfl
theorem sa_self (σ : ST) (k : Nat) : sa σ k (σ.1 k) = σ := by
  unfold sa; refine Prod.ext ?_ rfl; funext j; dsimp only; split
  · next h => rw [h]
  · rfl
theorem sb_sb (σ : ST) (f g : Nat → Int64) : sb (sb σ f) g = sb σ g := rfl
theorem sb_self (σ : ST) : sb σ σ.2.2 = σ := rfl
theorem upd_eq (f : Nat → Int32) (k : Nat) (x : Int32) : upd f k x k = x := if_pos rfl
theorem upd_ne (f : Nat → Int32) {k j : Nat} (x : Int32) (h : j ≠ k) : upd f k x j = f j := if_neg h
theorem upd_at (f : Nat → Int32) (k j : Nat) (x : Int32) : upd f k x j = if j = k then x else f j := rfl
theorem pq_inc (i : Nat) : nI i + Int32.ofInt 1 = nI (i + 1) := nI_1 i
theorem pq_dec (i : Nat) : nI (i + 1) + Int32.ofInt (-1) = nI i := pk_m1 i
theorem pq_nI0 : (0 : Int32) = nI 0 := rfl
theorem pq_nI1 : (1 : Int32) = nI 1 := rfl
/-- a row of the held keys is in the way of one that wants slot x for y, off the line that is drawn -/
def pq_way (σ : ST) (x y : Int32) (r : Nat) : Bool := decide (σ.1 12 r = x) && !decide (σ.1 11 r = -1) && decide (σ.1 2 (σ.1 11 r).toNatClampNeg = 0) && (decide (y = 2) || decide (σ.1 13 r = 2))
def pq_seen (σ : ST) (s r : Nat) : Bool := !decide (σ.1 4 r = -1) && !decide (σ.1 2 (σ.1 4 r).toNatClampNeg = 0) && decide (σ.1 5 r = nI s)
def pq_own (σ : ST) (t : Int32) (s r : Nat) : Bool := decide (σ.1 4 r = t) && decide (σ.1 5 r = nI s)
def pq_same (σ : ST) : Option Nat → Option Nat → Bool
  | none, none => true
  | some a, some b => decide (σ.1 7 a = σ.1 7 b) && (!decide (σ.1 7 a = 0) || decide (σ.1 6 a = σ.1 6 b))
  | _, _ => false
theorem pq_cmp_pos {x y : Int64} : 0 < lg_cmp x y ↔ y < x := by
  unfold lg_cmp
  split
  · next h => exact ⟨fun _ => h, fun _ => by decide⟩
  · next h =>
    split
    · exact ⟨fun q => absurd q (by decide), fun q => absurd q h⟩
    · exact ⟨fun q => absurd q (by decide), fun q => absurd q h⟩
def u_has (σ : ST) : Option Nat → Bool
  | none => false
  | some r => decide (σ.1 7 r = 0)
def pq_fv (σ : ST) : Option Nat → Int64
  | none => 1099511627776
  | some r => (σ.1 6 r).toInt64
