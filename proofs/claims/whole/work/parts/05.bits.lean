theorem ts_bit {w : Int64} {s : UInt64} {j : Nat} (hj : j < 64) (hs : s.toNat = j) : ((w.toUInt64 >>> s).toInt64 &&& 1) = 0 ↔ w.toBitVec.getLsbD j = false := by
  have e : (w.toUInt64 >>> s).toInt64.toBitVec = w.toBitVec >>> j := by
    apply BitVec.eq_of_toNat_eq
    show (w.toUInt64 >>> s).toNat = _
    rw [UInt64.toNat_shiftRight, hs, Nat.mod_eq_of_lt hj, BitVec.toNat_ushiftRight]
    rfl
  rw [← Int64.toBitVec_inj, Int64.toBitVec_and, e]
  show w.toBitVec >>> j &&& 1#64 = 0#64 ↔ _
  constructor
  · intro h
    have t := congrArg (fun x => x.getLsbD 0) h
    simpa using t
  · intro h
    apply BitVec.eq_of_getLsbD_eq
    intro i hi
    cases i with
    | zero => simp [h]
    | succ i => simp
theorem wb_cu : ∀ k, k < 64 → ((nI k).toInt64.toUInt64 &&& Int64.toUInt64 63) = UInt64.ofNat k := by decide +kernel
theorem u_tn {n : Nat} (h : n < 2 ^ 64) : (UInt64.ofNat n).toNat = n := Nat.mod_eq_of_lt h
theorem pq_shl1 : ∀ k, k < 64 → ((1 : Int64) <<< ((nI k).toInt64 &&& 63)).toBitVec = BitVec.twoPow 64 k := by decide +kernel
theorem pq_cmp_zero {x y : Int64} : lg_cmp x y = 0 ↔ x = y := by
  unfold lg_cmp
  split
  · next h =>
    constructor
    · intro q; exact absurd q (by decide)
    · intro q; subst q; exact (Int64.lt_irrefl h).elim
  · split
    · next h => exact ⟨fun _ => h, fun _ => rfl⟩
    · next h => exact ⟨fun q => absurd q (by decide), fun q => absurd q h⟩
/-- one bit for each pair -/
def pq_bit (B : Nat → Int64) (a b : Nat) : Bool := (B (a * 3 + b / 64)).toBitVec.getLsbD (b % 64)
theorem pq_bit_leads {B : Nat → Int64} {a b : Nat} : lg_cmp (((B (a * 3 + b / 64)).toUInt64 >>> ((nI (b % 64)).toInt64.toUInt64 &&& Int64.toUInt64 63)).toInt64 &&& 1) 0 = 0 ↔ pq_bit B a b = false := by
  have hk : b % 64 < 64 := Nat.mod_lt _ (by omega)
  rw [pq_cmp_zero, wb_cu _ hk]
  exact ts_bit hk (u_tn (by omega))
theorem pq_bit_leadsN {B : Nat → Int64} {a b : Nat} : ¬ lg_cmp (((B (a * 3 + b / 64)).toUInt64 >>> ((nI (b % 64)).toInt64.toUInt64 &&& Int64.toUInt64 63)).toInt64 &&& 1) 0 = 0 ↔ pq_bit B a b = true := by
  rw [pq_bit_leads]; simp
theorem pq_bit_join {a b c d : Nat} (hd : d ≤ 150) (hb : b ≤ 150) (B : Nat → Int64) : pq_bit (vp_updL B (a * 3 + b / 64) (B (a * 3 + b / 64) ||| ((1 : Int64) <<< ((nI (b % 64)).toInt64 &&& 63)))) c d = (pq_bit B c d || (decide (c = a) && decide (d = b))) := by
  have hk : b % 64 < 64 := Nat.mod_lt _ (by omega)
  unfold pq_bit vp_updL
  by_cases e : c * 3 + d / 64 = a * 3 + b / 64
  · rw [if_pos e, Int64.toBitVec_or, pq_shl1 _ hk, BitVec.getLsbD_or, BitVec.getLsbD_twoPow, e]
    have hc : c = a := by omega
    subst hc
    congr 1
    rw [decide_eq_true hk, decide_eq_true (rfl : c = c), Bool.true_and, Bool.true_and]
    exact decide_eq_decide.mpr ⟨fun q => by omega, fun q => by rw [q]⟩
  · rw [if_neg e]
    have : (decide (c = a) && decide (d = b)) = false := by
      rw [Bool.and_eq_false_iff]
      by_cases e1 : c = a
      · right; exact decide_eq_false (fun e2 => e (by rw [e1, e2]))
      · left; exact decide_eq_false e1
    rw [this, Bool.or_false]
/-- who leads to whom by way of 1 .. k -/
def pq_cl (E : Nat → Nat → Bool) : Nat → Nat → Nat → Bool
  | 0, a, b => E a b
  | k + 1, a, b => pq_cl E k a b || (pq_cl E k a (k + 1) && pq_cl E k (k + 1) b)
theorem pq_cl_row (E : Nat → Nat → Bool) (k b : Nat) : pq_cl E (k + 1) (k + 1) b = pq_cl E k (k + 1) b := by
  simp only [pq_cl]
  cases pq_cl E k (k + 1) b <;> cases pq_cl E k (k + 1) (k + 1) <;> rfl
