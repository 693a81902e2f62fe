/-! tuples: the values of c functions from first on at a point, as one number, the first the highest -/
def tp (g : Nat → Nat → Bool) (first p : Nat) : Nat → Nat
  | 0 => 0
  | c + 1 => 2 * tp g first p c + (g (first + c) p).toNat
theorem tp_lt (g : Nat → Nat → Bool) (first p : Nat) : ∀ c, tp g first p c < 2 ^ c
  | 0 => Nat.zero_lt_one
  | c + 1 => by
    have h := tp_lt g first p c
    have h2 : (g (first + c) p).toNat ≤ 1 := by cases g (first + c) p <;> decide
    show 2 * tp g first p c + (g (first + c) p).toNat < 2 ^ (c + 1)
    rw [Nat.pow_succ]
    omega
theorem tp_bit (g : Nat → Nat → Bool) (first p : Nat) : ∀ c j, j < c → (tp g first p c).testBit j = g (first + (c - 1 - j)) p
  | 0, _, h => absurd h (by omega)
  | c + 1, 0, _ => by
    show (2 * tp g first p c + (g (first + c) p).toNat).testBit 0 = g (first + (c + 1 - 1 - 0)) p
    rw [Nat.testBit_zero, show first + (c + 1 - 1 - 0) = first + c from rfl]
    cases g (first + c) p <;> simp <;> omega
  | c + 1, j + 1, h => by
    show (2 * tp g first p c + (g (first + c) p).toNat).testBit (j + 1) = g (first + (c + 1 - 1 - (j + 1))) p
    have h2 : (2 * tp g first p c + (g (first + c) p).toNat) / 2 = tp g first p c := by
      cases g (first + c) p <;> simp <;> omega
    rw [Nat.testBit_add_one, h2, tp_bit g first p c j (by omega)]
    congr 2
    omega
/-! a set of points spread over the bits below f: whatever those bits are -/
def sgs (g : Nat → Bool) : Nat → Nat → Bool
  | 0 => g
  | f + 1 => sg f (sgs g f)
theorem xr_div {p b f : Nat} (h : b < f) : (p ^^^ 2 ^ b) / 2 ^ f = p / 2 ^ f := by
  apply Nat.eq_of_testBit_eq
  intro j
  rw [Nat.testBit_div_two_pow, Nat.testBit_div_two_pow, Nat.testBit_xor, Nat.testBit_two_pow_of_ne (by omega), Bool.xor_false]
theorem sgs_iff (g : Nat → Bool) : ∀ f p, sgs g f p = true ↔ ∃ y, g y = true ∧ y / 2 ^ f = p / 2 ^ f
  | 0, p => by
    show g p = true ↔ _
    constructor
    · intro h; exact ⟨p, h, rfl⟩
    · rintro ⟨y, h1, h2⟩
      rw [Nat.pow_zero, Nat.div_one, Nat.div_one] at h2
      rw [← h2]; exact h1
  | f + 1, p => by
    show (sgs g f p || sgs g f (p ^^^ 2 ^ f)) = true ↔ _
    rw [Bool.or_eq_true, sgs_iff g f p, sgs_iff g f (p ^^^ 2 ^ f)]
    have hs : ∀ x : Nat, x / 2 ^ (f + 1) = x / 2 ^ f / 2 := fun x => by rw [Nat.pow_succ, Nat.div_div_eq_div_mul]
    have hx : (p ^^^ 2 ^ f) / 2 ^ f = p / 2 ^ f ^^^ 1 := by
      apply Nat.eq_of_testBit_eq
      intro j
      rw [Nat.testBit_div_two_pow, Nat.testBit_xor, Nat.testBit_xor, Nat.testBit_div_two_pow, Nat.testBit_two_pow, tb_one]
      congr 1
      rw [decide_eq_decide]
      omega
    rw [hx]
    have h1 : ∀ a b : Nat, a / 2 = b / 2 ↔ a = b ∨ a = b ^^^ 1 := fun a b => by
      have e : b ^^^ 1 = if b % 2 = 0 then b + 1 else b - 1 := by
        apply Nat.eq_of_testBit_eq
        intro j
        cases j with
        | zero =>
          rw [Nat.testBit_xor, Nat.testBit_zero, Nat.testBit_zero, Nat.testBit_zero]
          by_cases hb : b % 2 = 0
          · rw [if_pos hb, decide_eq_false (show ¬ b % 2 = 1 by omega), decide_eq_true (show (b + 1) % 2 = 1 by omega)]; rfl
          · rw [if_neg hb, decide_eq_true (show b % 2 = 1 by omega), decide_eq_false (show ¬ (b - 1) % 2 = 1 by omega)]; rfl
        | succ j =>
          rw [Nat.testBit_xor, Nat.testBit_add_one, Nat.testBit_add_one, Nat.testBit_add_one, show 1 / 2 = 0 from rfl, Nat.zero_testBit, Bool.xor_false]
          congr 1
          split <;> omega
      rw [e]
      split <;> omega
    constructor
    · rintro (⟨y, h2, h3⟩ | ⟨y, h2, h3⟩)
      · exact ⟨y, h2, by rw [hs, hs, h3]⟩
      · exact ⟨y, h2, by rw [hs, hs]; exact (h1 _ _).mpr (Or.inr h3)⟩
    · rintro ⟨y, h2, h3⟩
      rw [hs, hs] at h3
      rcases (h1 _ _).mp h3 with h4 | h4
      · exact Or.inl ⟨y, h2, h4⟩
      · exact Or.inr ⟨y, h2, h4⟩
theorem tp_30 (g : Nat → Nat → Bool) (first p : Nat) {c : Nat} (h : c ≤ 12) : tp g first p c < 2 ^ 30 := Nat.lt_of_lt_of_le (tp_lt g first p c) (Nat.pow_le_pow_right (by omega) (by omega))
theorem tp_w {T : Nat} {b : Bool} (h : T < 2 ^ 30) : (nI T <<< (nI 1 &&& 31)) ||| nI b.toNat = nI (2 * T + b.toNat) := by
  rw [pk_shlN (n := T) (nI 1 &&& 31) 1 (by decide) (by omega)]
  apply Int32.toBitVec_inj.1
  show BitVec.ofNat 32 (T * 2 ^ 1) ||| BitVec.ofNat 32 b.toNat = BitVec.ofNat 32 (2 * T + b.toNat)
  apply BitVec.eq_of_getLsbD_eq
  intro i hi
  rw [BitVec.getLsbD_or, BitVec.getLsbD_ofNat, BitVec.getLsbD_ofNat, BitVec.getLsbD_ofNat]
  have hb : b.toNat < 2 ^ 1 := by cases b <;> decide
  have e := Nat.testBit_two_pow_mul_add T (b := b.toNat) (i := 1) hb i
  rw [show 2 ^ 1 * T = 2 * T from rfl] at e
  rw [e, Nat.mul_comm T, Nat.testBit_two_pow_mul]
  simp only [hi, decide_true, Bool.true_and]
  cases i with
  | zero => cases b <;> simp
  | succ i =>
    have h0 : b.toNat.testBit (i + 1) = false := Nat.testBit_lt_two_pow (Nat.lt_of_lt_of_le hb (Nat.pow_le_pow_right (by omega) (by omega)))
    rw [h0]
    simp
theorem tp_congr {g g' : Nat → Nat → Bool} {first p p' : Nat} : ∀ {c : Nat}, (∀ k, k < c → g (first + k) p = g' (first + k) p') → tp g first p c = tp g' first p' c
  | 0, _ => rfl
  | c + 1, h => by
    show 2 * tp g first p c + (g (first + c) p).toNat = 2 * tp g' first p' c + (g' (first + c) p').toNat
    rw [tp_congr (fun k hk => h k (by omega)), h c (by omega)]
/-- marks: the points of the tuples of those places where the word has 1 -/
def mks (wd : Int64) (tn : Nat → Nat) (f : Nat) (dr : Nat → Int64) : Nat → Nat → Int64
  | 0 => dr
  | i + 1 => if lb wd i = true then vp_updL (mks wd tn f dr i) (tn i * 2 ^ f / 64) (mks wd tn f dr i (tn i * 2 ^ f / 64) ||| ((1 : Int64) <<< ((nI (tn i * 2 ^ f % 64)).toInt64 &&& 63))) else mks wd tn f dr i
theorem mks_yes {wd : Int64} {tn : Nat → Nat} {f : Nat} {dr : Nat → Int64} {i : Nat} (h : lb wd i = true) : mks wd tn f dr (i + 1) = vp_updL (mks wd tn f dr i) (tn i * 2 ^ f / 64) (mks wd tn f dr i (tn i * 2 ^ f / 64) ||| ((1 : Int64) <<< ((nI (tn i * 2 ^ f % 64)).toInt64 &&& 63))) := if_pos h
theorem mks_no {wd : Int64} {tn : Nat → Nat} {f : Nat} {dr : Nat → Int64} {i : Nat} (h : lb wd i = false) : mks wd tn f dr (i + 1) = mks wd tn f dr i := if_neg (by rw [h]; decide)
theorem mk_and (wd : Int64) {i : Nat} (hi : i < 64) : (wd.toUInt64 >>> ((nI i).toInt64.toUInt64 &&& Int64.toUInt64 63)).toInt64 &&& 1 = lN (lb wd i).toNat := lb_ext (fun j hj => by
  have h1 : lb (1 : Int64) j = (1 : Nat).testBit j := lb_lN (n := 1) j hj
  rw [lb_and, lb_shr i hi, h1, tb_one, lb_lN j hj]
  by_cases e : 0 = j
  · subst e
    rw [Nat.add_zero, decide_eq_true rfl, Bool.and_true]
    cases lb wd i <;> rfl
  · rw [decide_eq_false e, Bool.and_false]
    have hb : (lb wd i).toNat < 2 ^ 1 := by cases lb wd i <;> decide
    exact (Nat.testBit_lt_two_pow (Nat.lt_of_lt_of_le hb (Nat.pow_le_pow_right (by omega) (by omega)))).symm)
theorem mk_t {wd : Int64} {i : Nat} (hi : i < 64) (h : lg_cmp ((wd.toUInt64 >>> ((nI i).toInt64.toUInt64 &&& Int64.toUInt64 63)).toInt64 &&& 1) 1 = 0) : lb wd i = true := by
  have h1 := (lg_cmp_eq _ _).mp h
  rw [mk_and wd hi] at h1
  cases hb : lb wd i with
  | true => rfl
  | false => rw [hb] at h1; exact absurd h1 (by decide)
theorem mk_f {wd : Int64} {i : Nat} (hi : i < 64) (h : ¬ lg_cmp ((wd.toUInt64 >>> ((nI i).toInt64.toUInt64 &&& Int64.toUInt64 63)).toInt64 &&& 1) 1 = 0) : lb wd i = false := by
  cases hb : lb wd i with
  | false => rfl
  | true =>
    refine absurd ((lg_cmp_eq _ _).mpr ?_) h
    rw [mk_and wd hi, hb]
    rfl
theorem lb_put {b : Bool} {i z : Nat} (hi : i < 64) (hz : z < 64) : lb ((nI b.toNat).toInt64 <<< ((nI i).toInt64 &&& 63)) z = (decide (z = i) && b) := by
  have e : (nI b.toNat).toInt64 = lN b.toNat := nI_l (by cases b <;> decide)
  have hb : b.toNat < 2 ^ 1 := by cases b <;> decide
  rw [e, lb_shl i hi _ hz]
  by_cases h : z = i
  · subst h
    rw [decide_eq_true (Nat.le_refl z), decide_eq_true rfl, Nat.sub_self, lb_lN 0 (by omega)]
    cases b <;> rfl
  · rw [decide_eq_false h]
    by_cases h2 : i ≤ z
    · rw [lb_lN _ (by omega), Nat.testBit_lt_two_pow (Nat.lt_of_lt_of_le hb (Nat.pow_le_pow_right (by omega) (by omega))), Bool.and_false]
      rfl
    · rw [decide_eq_false h2]
      rfl
theorem decide_lt_s {z i : Nat} (h : ¬ z = i) : decide (z < i + 1) = decide (z < i) := by
  rw [decide_eq_decide]
  omega
