theorem yb_inj {a b : Int64} (h : a.toBitVec = b.toBitVec) : a = b := Int64.toBitVec_inj.mp h
theorem yb_of (x : Int64) : ∃ n, n < 2 ^ 64 ∧ x = lN n := ⟨x.toBitVec.toNat, x.toBitVec.isLt, yb_inj (by show x.toBitVec = BitVec.ofNat 64 _; simp)⟩
theorem lb_lN {n : Nat} (i : Nat) (hi : i < 64) : lb (lN n) i = n.testBit i := by
  show (BitVec.ofNat 64 n).getLsbD i = _
  rw [BitVec.getLsbD_ofNat]
  simp [hi]
theorem yb_and {a b : Nat} : lN a &&& lN b = lN (a &&& b) := lb_ext (fun i hi => by rw [lb_and, lb_lN i hi, lb_lN i hi, lb_lN i hi, Nat.testBit_and])
theorem yb_shr {n k : Nat} (hn : n < 2 ^ 64) (hk : k < 64) : ((lN n).toUInt64 >>> ((nI k).toInt64.toUInt64 &&& Int64.toUInt64 63)).toInt64 = lN (n / 2 ^ k) := lb_ext (fun i hi => by
  rw [lb_shr k hk, lb_lN i hi, Nat.testBit_div_two_pow]
  by_cases h : k + i < 64
  · rw [lb_lN _ h, Nat.add_comm]
  · rw [lb_big (by omega), Nat.testBit_lt_two_pow (Nat.lt_of_lt_of_le hn (Nat.pow_le_pow_right (by omega) (by omega)))])
/-- Long.bitCount, its steps -/
theorem bc_1 {X : Nat} (h : X < 2 ^ 64) : lN X - (((lN X).toUInt64 >>> ((nI 1).toInt64.toUInt64 &&& Int64.toUInt64 63)).toInt64 &&& 6148914691236517205) = lN (q1 8 X) := by
  rw [yb_shr h (by omega), show (6148914691236517205 : Int64) = lN (sk 85 8) from by decide +kernel, yb_and, lN_sub (Nat.le_trans Nat.and_le_left (Nat.div_le_self _ _))]
  rfl
theorem bc_1b {X : Nat} (h : X < 2 ^ 64) : q1 8 X < 2 ^ 64 := Nat.lt_of_le_of_lt (Nat.sub_le _ _) h
theorem bc_2 {X : Nat} (h : X < 2 ^ 64) : (lN X &&& 3689348814741910323) + (((lN X).toUInt64 >>> ((nI 2).toInt64.toUInt64 &&& Int64.toUInt64 63)).toInt64 &&& 3689348814741910323) = lN (q2 8 X) := by
  rw [yb_shr h (by omega), show (3689348814741910323 : Int64) = lN (sk 51 8) from by decide +kernel, yb_and, yb_and, lN_add]
  rfl
theorem bc_2b {X : Nat} : q2 8 X < 2 ^ 64 := by
  have h1 : X &&& sk 51 8 ≤ sk 51 8 := Nat.and_le_right
  have h2 : X / 4 &&& sk 51 8 ≤ sk 51 8 := Nat.and_le_right
  have h3 : sk 51 8 = 3689348814741910323 := by decide +kernel
  unfold q2
  omega
theorem bc_3 {X : Nat} (h : X < 2 ^ 64) : (lN X + ((lN X).toUInt64 >>> ((nI 4).toInt64.toUInt64 &&& Int64.toUInt64 63)).toInt64) &&& 1085102592571150095 = lN (q3 8 X) := by
  rw [yb_shr h (by omega), show (1085102592571150095 : Int64) = lN (sk 15 8) from by decide +kernel, lN_add, yb_and]
  rfl
theorem bc_3b {X : Nat} : q3 8 X ≤ 1085102592571150095 := by
  have h3 : sk 15 8 = 1085102592571150095 := by decide +kernel
  unfold q3
  rw [← h3]
  exact Nat.and_le_right
theorem bc_4 {X : Nat} (h : X < 2 ^ 64) : lN X + ((lN X).toUInt64 >>> ((nI 8).toInt64.toUInt64 &&& Int64.toUInt64 63)).toInt64 = lN (qs X) := by
  rw [yb_shr h (by omega), lN_add]
  rfl
theorem bc_5 {X : Nat} (h : X < 2 ^ 64) : lN X + ((lN X).toUInt64 >>> ((nI 16).toInt64.toUInt64 &&& Int64.toUInt64 63)).toInt64 = lN (qt X) := by
  rw [yb_shr h (by omega), lN_add]
  rfl
theorem bc_6 {X : Nat} (h : X < 2 ^ 64) : lN X + ((lN X).toUInt64 >>> ((nI 32).toInt64.toUInt64 &&& Int64.toUInt64 63)).toInt64 = lN (qu X) := by
  rw [yb_shr h (by omega), lN_add]
  rfl
theorem bc_7 (X : Nat) : (lN X).toInt32 &&& nI 127 = nI (X % 128) := by
  rw [lN_i, pk_and (nI X) 7 (by decide +kernel)]
  have e : (nI X).toBitVec.toNat = X % 2 ^ 32 := rfl
  rw [e]
  congr 1
  exact Nat.mod_mod_of_dvd X (by decide)
theorem bc_8 {x : Int64} {X : Nat} (e : x = lN X) : pcn (fun i => X.testBit i) 64 = pcn (lb x) 64 := pcn_congr (fun i hi => by rw [e, lb_lN i hi])
/-- the lowest 1 -/
theorem low_eq {x : Int64} {t : Nat} (ht : t < 64) (h1 : lb x t = true) (h0 : ∀ j, j < t → lb x j = false) : x &&& -x = lN (2 ^ t) := lb_ext (fun i hi => by
  rw [lb_and, lb_lN i hi, Nat.testBit_two_pow]
  have e : lb (-x) i = (lb x i ^^ decide (i < 64) && decide (∃ j < i, lb x j = true)) := by
    unfold lb
    rw [Int64.toBitVec_neg, BitVec.getLsbD_neg]
  rw [e]
  rcases Nat.lt_trichotomy i t with h | h | h
  · rw [h0 i h, decide_eq_false (show ¬ t = i by omega)]
    rfl
  · subst h
    rw [h1, decide_eq_true rfl, decide_eq_false (show ¬ ∃ j, j < i ∧ lb x j = true from fun ⟨j, hj, hj2⟩ => by rw [h0 j hj] at hj2; cases hj2)]
    simp
  · rw [decide_eq_false (show ¬ t = i by omega), decide_eq_true (show ∃ j, j < i ∧ lb x j = true from ⟨t, h, h1⟩), decide_eq_true hi]
    cases lb x i <;> rfl)
theorem low_pcn {x : Int64} {t : Nat} (ht : t < 64) (h1 : lb x t = true) (h0 : ∀ j, j < t → lb x j = false) : pcn (lb ((x &&& -x) - 1)) 64 = t := by
  have hp : 1 ≤ 2 ^ t := Nat.one_le_two_pow
  have e : (x &&& -x) - 1 = lN (2 ^ t - 1) := by
    rw [low_eq ht h1 h0, show (1 : Int64) = lN 1 from rfl, lN_sub hp]
  rw [e]
  have e2 : pcn (lb (lN (2 ^ t - 1))) 64 = pcn (fun i => decide (i < t)) 64 := pcn_congr (fun i hi => by rw [lb_lN i hi, Nat.testBit_two_pow_sub_one])
  rw [e2, show 64 = t + (64 - t) by omega, pcn_add, pcn_0 (f := fun i => decide (t + i < t)) (fun i _ => decide_eq_false (by omega))]
  have e3 : ∀ n, n ≤ t → pcn (fun i => decide (i < t)) n = n := by
    intro n
    induction n with
    | zero => intro _; rfl
    | succ n ih =>
      intro h
      show pcn (fun i => decide (i < t)) n + (decide (n < t)).toNat = n + 1
      rw [ih (by omega), decide_eq_true (by omega)]
      rfl
  rw [e3 t (Nat.le_refl t), Nat.add_zero]
theorem qq_le (X : Nat) : qq 8 X ≤ 1085102592571150095 := bc_3b
theorem qs_lt (X : Nat) : qs (qq 8 X) < 2 ^ 64 := by
  have := qq_le X
  unfold qs
  omega
theorem qt_lt (X : Nat) : qt (qs (qq 8 X)) < 2 ^ 64 := by
  have := qq_le X
  unfold qt qs
  omega
theorem qu_lt (X : Nat) : qu (qt (qs (qq 8 X))) < 2 ^ 64 := by
  have := (bc_nat X).2
  omega
