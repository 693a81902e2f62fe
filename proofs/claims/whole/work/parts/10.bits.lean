/-! bits of a long; the geometry of a row of words (own work; the shape of lb_shr, lb_shl is that of kit/laws/BITS) -/
def lb (x : Int64) (i : Nat) : Bool := x.toBitVec.getLsbD i
theorem lb_ext {x y : Int64} (h : ∀ i, i < 64 → lb x i = lb y i) : x = y := Int64.toBitVec_inj.mp (BitVec.eq_of_getLsbD_eq (fun i hi => h i hi))
theorem lb_or (x y : Int64) (i : Nat) : lb (x ||| y) i = (lb x i || lb y i) := by unfold lb; rw [Int64.toBitVec_or, BitVec.getLsbD_or]
theorem lb_and (x y : Int64) (i : Nat) : lb (x &&& y) i = (lb x i && lb y i) := by unfold lb; rw [Int64.toBitVec_and, BitVec.getLsbD_and]
theorem lb_xor (x y : Int64) (i : Nat) : lb (x ^^^ y) i = (lb x i ^^ lb y i) := by unfold lb; rw [Int64.toBitVec_xor, BitVec.getLsbD_xor]
theorem lb_big {x : Int64} {i : Nat} (h : 64 ≤ i) : lb x i = false := BitVec.getLsbD_of_ge _ _ h
theorem lb_0 (i : Nat) : lb 0 i = false := BitVec.getLsbD_zero
theorem lb_m1 : ∀ i, i < 64 → lb (-1) i = true := by decide +kernel
theorem lb_not (x : Int64) {i : Nat} (hi : i < 64) : lb (x ^^^ (-1)) i = !lb x i := by rw [lb_xor, lb_m1 i hi, Bool.xor_true]
theorem lb_su : ∀ n, n < 64 → (((nI n).toInt64.toUInt64 &&& Int64.toUInt64 63).toBitVec % 64).toNat = n := by decide +kernel
theorem lb_sl : ∀ n, n < 64 → (((nI n).toInt64 &&& 63).toBitVec.smod 64).toNat = n := by decide +kernel
theorem lb_shr (n : Nat) (hn : n < 64) (x : Int64) (i : Nat) : lb ((x.toUInt64 >>> ((nI n).toInt64.toUInt64 &&& Int64.toUInt64 63)).toInt64) i = lb x (n + i) := by
  show (x.toUInt64 >>> ((nI n).toInt64.toUInt64 &&& Int64.toUInt64 63)).toBitVec.getLsbD i = x.toUInt64.toBitVec.getLsbD (n + i)
  rw [UInt64.toBitVec_shiftRight]
  show (x.toUInt64.toBitVec >>> (((nI n).toInt64.toUInt64 &&& Int64.toUInt64 63).toBitVec % 64).toNat).getLsbD i = _
  rw [lb_su n hn, BitVec.getLsbD_ushiftRight]
theorem lb_shl (n : Nat) (hn : n < 64) (x : Int64) {i : Nat} (hi : i < 64) : lb (x <<< ((nI n).toInt64 &&& 63)) i = (decide (n ≤ i) && lb x (i - n)) := by
  unfold lb
  rw [Int64.toBitVec_shiftLeft]
  show (x.toBitVec <<< (((nI n).toInt64 &&& 63).toBitVec.smod 64).toNat).getLsbD i = _
  rw [lb_sl n hn, BitVec.getLsbD_shiftLeft]
  rcases Nat.lt_or_ge i n with h | h
  · simp [h, Nat.not_le.mpr h]
  · simp [hi, h, Nat.not_lt.mpr h]
/-- bit 0 of the low half, as an int -/
theorem lb_low (x : Int64) : x.toInt32 &&& nI 1 = nI (lb x 0).toNat := by
  apply Int32.toBitVec_inj.mp
  rw [Int32.toBitVec_and, Int64.toBitVec_toInt32]
  show (x.toBitVec.signExtend 32) &&& 1#32 = BitVec.ofNat 32 (lb x 0).toNat
  apply BitVec.eq_of_getLsbD_eq
  intro i hi
  rw [BitVec.getLsbD_and, BitVec.getLsbD_signExtend, if_pos (show i < 64 by omega)]
  unfold lb
  cases i with
  | zero => cases h : x.toBitVec.getLsbD 0 <;> simp
  | succ i => cases h : x.toBitVec.getLsbD 0 <;> simp
theorem tb_one (j : Nat) : (1 : Nat).testBit j = decide (0 = j) := Nat.testBit_two_pow (n := 0)
/-- the places (of a word) that have 1 at bit b -/
def pwb (b : Nat) : Int64 := match b with
  | 0 => -6148914691236517206
  | 1 => -3689348814741910324
  | 2 => -1085102592571150096
  | 3 => -71777214294589696
  | 4 => -281470681808896
  | _ => -4294967296
theorem lb_pwb : ∀ b, b < 6 → ∀ i, i < 64 → lb (pwb b) i = i.testBit b := by decide +kernel
/-- words, and points in a word, of a function of N variables -/
def nw (N : Nat) : Nat := if N ≤ 6 then 1 else 2 ^ (N - 6)
def pw (N : Nat) : Nat := if N ≤ 6 then 2 ^ N else 64
def ao (N : Nat) : Int64 := ((-1 : Int64).toUInt64 >>> ((nI (64 - pw N)).toInt64.toUInt64 &&& Int64.toUInt64 63)).toInt64
theorem pw_le (N : Nat) : pw N ≤ 64 := by
  unfold pw
  split
  · exact Nat.le_trans (Nat.pow_le_pow_right (by omega) (by assumption)) (by decide)
  · omega
theorem pw_pos (N : Nat) : 0 < pw N := by
  unfold pw
  split
  · exact Nat.pow_pos (by omega)
  · omega
theorem nw_pos (N : Nat) : 0 < nw N := by
  unfold nw
  split
  · omega
  · exact Nat.pow_pos (by omega)
theorem nw_le {N : Nat} (h : N ≤ 12) : nw N ≤ 64 := by
  unfold nw
  split
  · omega
  · exact Nat.le_trans (Nat.pow_le_pow_right (by omega) (show N - 6 ≤ 6 by omega)) (by decide)
theorem np_le {N : Nat} (h : N ≤ 12) : 2 ^ N ≤ 4096 := Nat.le_trans (Nat.pow_le_pow_right (by omega) h) (by decide)
theorem lb_ao (N : Nat) {i : Nat} (hi : i < 64) : lb (ao N) i = decide (i < pw N) := by
  have h1 := pw_pos N
  have h2 := pw_le N
  unfold ao
  rw [lb_shr (64 - pw N) (by omega)]
  by_cases h : i < pw N
  · rw [lb_m1 _ (by omega), decide_eq_true h]
  · rw [lb_big (by omega), decide_eq_false h]
theorem nw_big {N : Nat} (h : 6 < N) : 2 ^ N = 64 * nw N := by
  unfold nw
  rw [if_neg (by omega), show N = 6 + (N - 6) by omega, Nat.pow_add, show 6 + (N - 6) - 6 = N - 6 by omega]
/-- a place of a word is a point of the function just if it is below pw N -/
theorem nw_pt {N w i : Nat} (hw : w < nw N) (hi : i < 64) : 64 * w + i < 2 ^ N ↔ i < pw N := by
  by_cases h : N ≤ 6
  · have e1 : nw N = 1 := if_pos h
    have e2 : pw N = 2 ^ N := if_pos h
    rw [e2]
    have : w = 0 := by omega
    subst this
    simp
  · have e2 : pw N = 64 := if_neg h
    have e3 := nw_big (N := N) (by omega)
    rw [e2, e3]
    omega
theorem pt_nw {N p : Nat} (hp : p < 2 ^ N) : p / 64 < nw N ∧ p % 64 < pw N := by
  by_cases h : N ≤ 6
  · have e1 : nw N = 1 := if_pos h
    have e2 : pw N = 2 ^ N := if_pos h
    have h3 : 2 ^ N ≤ 64 := Nat.le_trans (Nat.pow_le_pow_right (by omega) h) (by decide)
    rw [e1, e2]
    have h4 : p / 64 = 0 := Nat.div_eq_of_lt (by omega)
    have h5 : p % 64 = p := Nat.mod_eq_of_lt (by omega)
    omega
  · have e2 : pw N = 64 := if_neg h
    have e3 := nw_big (N := N) (by omega)
    rw [e2]
    rw [e3] at hp
    omega
/-- the bits of a point's number -/
theorem tb_lo {w i b : Nat} (hi : i < 64) (hb : b < 6) : (64 * w + i).testBit b = i.testBit b := by
  have h := Nat.testBit_two_pow_mul_add w (b := i) (i := 6) (by omega) b
  rw [if_pos hb] at h
  exact h
theorem tb_hi {w i b : Nat} (hi : i < 64) (hb : 6 ≤ b) : (64 * w + i).testBit b = w.testBit (b - 6) := by
  have h := Nat.testBit_two_pow_mul_add w (b := i) (i := 6) (by omega) b
  rw [if_neg (by omega)] at h
  exact h
theorem xr_lo {w i b : Nat} (hi : i < 64) (hb : b < 6) : (64 * w + i) ^^^ 2 ^ b = 64 * w + (i ^^^ 2 ^ b) := by
  have hx : i ^^^ 2 ^ b < 64 := Nat.xor_lt_two_pow (n := 6) hi (Nat.pow_lt_pow_right (by omega) hb)
  apply Nat.eq_of_testBit_eq
  intro j
  rw [Nat.testBit_xor]
  by_cases hj : j < 6
  · rw [tb_lo hi hj, tb_lo hx hj, Nat.testBit_xor]
  · rw [tb_hi hi (by omega), tb_hi hx (by omega), Nat.testBit_two_pow_of_ne (by omega), Bool.xor_false]
theorem xr_hi {w i b : Nat} (hi : i < 64) (hb : 6 ≤ b) : (64 * w + i) ^^^ 2 ^ b = 64 * (w ^^^ 2 ^ (b - 6)) + i := by
  apply Nat.eq_of_testBit_eq
  intro j
  rw [Nat.testBit_xor]
  by_cases hj : j < 6
  · rw [tb_lo hi hj, tb_lo hi hj, Nat.testBit_two_pow_of_ne (by omega), Bool.xor_false]
  · rw [tb_hi hi (by omega), tb_hi hi (by omega), Nat.testBit_xor, Nat.testBit_two_pow, Nat.testBit_two_pow]
    congr 1
    by_cases h : b = j
    · rw [decide_eq_true h, decide_eq_true (by omega)]
    · rw [decide_eq_false h, decide_eq_false (by omega)]
theorem xr_xr (p b : Nat) : (p ^^^ 2 ^ b) ^^^ 2 ^ b = p := by rw [Nat.xor_assoc, Nat.xor_self, Nat.xor_zero]
theorem xr_lt {N p b : Nat} (hp : p < 2 ^ N) (hb : b < N) : p ^^^ 2 ^ b < 2 ^ N := Nat.xor_lt_two_pow hp (Nat.pow_lt_pow_right (by omega) hb)
theorem xw_lt {N w b : Nat} (hw : w < nw N) (hb : b < N) (h6 : 6 ≤ b) : w ^^^ 2 ^ (b - 6) < nw N := by
  have e : nw N = 2 ^ (N - 6) := if_neg (by omega)
  rw [e] at hw ⊢
  exact xr_lt hw (by omega)
/-- a row of n words holds the function g (0 at what is no point) -/
def rp (n : Nat) (r : Nat → Int64) (g : Nat → Bool) : Prop := ∀ w i, w < n → i < 64 → lb (r w) i = g (64 * w + i)
def dm (N : Nat) (g : Nat → Bool) : Prop := ∀ p, 2 ^ N ≤ p → g p = false
theorem rp_eq {n : Nat} {r r' : Nat → Int64} {g : Nat → Bool} (h : rp n r g) (e : ∀ w, w < n → r' w = r w) : rp n r' g := fun w i hw hi => by rw [e w hw]; exact h w i hw hi
/-- pointsWithBit -/
def pwN (N w b : Nat) : Int64 := if b < 6 then pwb b &&& ao N else if w.testBit (b - 6) then ao N else 0
theorem lb_pwN {N w b i : Nat} (hw : w < nw N) (hi : i < 64) : lb (pwN N w b) i = ((64 * w + i).testBit b && decide (64 * w + i < 2 ^ N)) := by
  have e : decide (64 * w + i < 2 ^ N) = decide (i < pw N) := by rw [decide_eq_decide]; exact nw_pt hw hi
  rw [e]
  unfold pwN
  by_cases hb : b < 6
  · rw [if_pos hb, lb_and, lb_pwb b hb i hi, lb_ao N hi, tb_lo hi hb]
  · rw [if_neg hb, tb_hi hi (by omega)]
    cases h : w.testBit (b - 6)
    · simp [lb_0]
    · simp [lb_ao N hi]
/-- acrossBit -/
def acl (x : Int64) (b : Nat) : Int64 := ((x &&& pwb b).toUInt64 >>> ((nI (2 ^ b)).toInt64.toUInt64 &&& Int64.toUInt64 63)).toInt64 ||| ((x &&& (pwb b ^^^ (-1))) <<< ((nI (2 ^ b)).toInt64 &&& 63))
def acr (r : Nat → Int64) (w b : Nat) : Int64 := if 6 ≤ b then r (w ^^^ 2 ^ (b - 6)) else acl (r w) b
theorem ac_f : ∀ b, b < 6 → ∀ i, i < 64 → i.testBit b = false → i + 2 ^ b < 64 ∧ (i + 2 ^ b).testBit b = true ∧ i ^^^ 2 ^ b = 2 ^ b + i ∧ (2 ^ b ≤ i → (i - 2 ^ b).testBit b = true) := by decide +kernel
theorem ac_t : ∀ b, b < 6 → ∀ i, i < 64 → i.testBit b = true → 2 ^ b ≤ i ∧ (i - 2 ^ b).testBit b = false ∧ i ^^^ 2 ^ b = i - 2 ^ b ∧ (2 ^ b + i < 64 → (2 ^ b + i).testBit b = false) := by decide +kernel
theorem lb_acl (x : Int64) {b i : Nat} (hb : b < 6) (hi : i < 64) : lb (acl x b) i = lb x (i ^^^ 2 ^ b) := by
  have hp : 2 ^ b < 64 := Nat.pow_lt_pow_right (a := 2) (by omega) hb
  have hs : i - 2 ^ b < 64 := Nat.lt_of_le_of_lt (Nat.sub_le _ _) hi
  unfold acl
  rw [lb_or, lb_shr (2 ^ b) hp, lb_shl (2 ^ b) hp _ hi, lb_and, lb_and]
  cases ht : i.testBit b
  · obtain ⟨h1, h2, h3, h4⟩ := ac_f b hb i hi ht
    rw [h3, lb_pwb b hb (2 ^ b + i) (by omega), show 2 ^ b + i = i + 2 ^ b from Nat.add_comm _ _, h2, Bool.and_true]
    by_cases hle : 2 ^ b ≤ i
    · rw [lb_not _ hs, lb_pwb b hb (i - 2 ^ b) hs, h4 hle]
      simp
    · simp [hle]
  · obtain ⟨h1, h2, h3, h4⟩ := ac_t b hb i hi ht
    rw [h3, lb_not _ hs, lb_pwb b hb (i - 2 ^ b) hs, h2]
    have e : (lb x (2 ^ b + i) && lb (pwb b) (2 ^ b + i)) = false := by
      by_cases hlt : 2 ^ b + i < 64
      · rw [lb_pwb b hb _ hlt, h4 hlt, Bool.and_false]
      · rw [lb_big (by omega), Bool.false_and]
    rw [e]
    simp [h1]
theorem lb_acr {N : Nat} {r : Nat → Int64} {g : Nat → Bool} (h : rp (nw N) r g) {w b i : Nat} (hw : w < nw N) (hb : b < N) (hi : i < 64) : lb (acr r w b) i = g ((64 * w + i) ^^^ 2 ^ b) := by
  unfold acr
  by_cases h6 : 6 ≤ b
  · rw [if_pos h6, h _ i (xw_lt hw hb h6) hi, xr_hi hi h6]
  · rw [if_neg h6, lb_acl _ (by omega) hi, h w _ hw (Nat.xor_lt_two_pow (n := 6) hi (Nat.pow_lt_pow_right (by omega) (by omega))), xr_lo hi (by omega)]
/-- spread, in place, j words done -/
def spr (b : Nat) (r : Nat → Int64) : Nat → Nat → Int64
  | 0 => r
  | j + 1 => vp_updL (spr b r j) j (spr b r j j ||| acr (spr b r j) j b)
theorem spr_in {N b : Nat} (hb : b < N) {r : Nat → Int64} {g : Nat → Bool} (h : rp (nw N) r g) : ∀ j, j ≤ nw N → ∀ w i, w < nw N → i < 64 → lb (spr b r j w) i = if w < j then (g (64 * w + i) || g ((64 * w + i) ^^^ 2 ^ b)) else g (64 * w + i)
  | 0, _, w, i, hw, hi => by rw [if_neg (by omega)]; exact h w i hw hi
  | j + 1, hj, w, i, hw, hi => by
    have ih := spr_in hb h j (by omega)
    show lb (vp_updL (spr b r j) j _ w) i = _
    by_cases e : w = j
    · subst e
      rw [pk_uLs, lb_or, ih w i hw hi, if_neg (by omega), if_pos (by omega)]
      unfold acr
      by_cases h6 : 6 ≤ b
      · rw [if_pos h6, ih _ i (xw_lt hw hb h6) hi, ← xr_hi hi h6, xr_xr]
        split
        · cases g (64 * w + i) <;> simp
        · rfl
      · rw [if_neg h6, lb_acl _ (by omega) hi, ih w _ hw (Nat.xor_lt_two_pow (n := 6) hi (Nat.pow_lt_pow_right (by omega) (by omega))), if_neg (by omega), xr_lo hi (by omega)]
    · rw [pk_uLn e, ih w i hw hi]
      by_cases hl : w < j
      · rw [if_pos hl, if_pos (by omega)]
      · rw [if_neg hl, if_neg (by omega)]
/-- spread: g, or g across the bit -/
def sg (b : Nat) (g : Nat → Bool) : Nat → Bool := fun p => g p || g (p ^^^ 2 ^ b)
theorem spr_rp {N b : Nat} (hb : b < N) {r : Nat → Int64} {g : Nat → Bool} (h : rp (nw N) r g) : rp (nw N) (spr b r (nw N)) (sg b g) := fun w i hw hi => by
  rw [spr_in hb h _ (Nat.le_refl _) w i hw hi, if_pos hw]
  rfl
theorem sg_dm {N b : Nat} (hb : b < N) {g : Nat → Bool} (h : dm N g) : dm N (sg b g) := fun p hp => by
  have h1 : ¬ (p ^^^ 2 ^ b) < 2 ^ N := fun h9 => by
    have := xr_lt h9 hb
    rw [xr_xr] at this
    omega
  unfold sg
  rw [h p hp, h _ (by omega)]
  rfl
theorem spr_out (b : Nat) (r : Nat → Int64) : ∀ j w, j ≤ w → spr b r j w = r w
  | 0, _, _ => rfl
  | j + 1, w, h => by
    show vp_updL (spr b r j) j _ w = _
    rw [pk_uLn (by omega), spr_out b r j w (by omega)]
/-- chosen -/
def chs (a b c : Int64) : Int64 := (a &&& b) ||| ((a ^^^ (-1)) &&& c)
theorem lb_chs (a b c : Int64) {i : Nat} (hi : i < 64) : lb (chs a b c) i = if lb a i = true then lb b i else lb c i := by
  unfold chs
  rw [lb_or, lb_and, lb_and, lb_not _ hi]
  cases lb a i <;> simp
/-- combined -/
def cmb (op : Nat) (a b : Int64) : Int64 := match op with
  | 0 => a &&& b
  | 1 => a ||| b
  | 2 => a ^^^ b
  | _ => a &&& (b ^^^ (-1))
def cmg (op : Nat) (a b : Bool) : Bool := match op with
  | 0 => a && b
  | 1 => a || b
  | 2 => a ^^ b
  | _ => a && !b
theorem lb_cmb (op : Nat) (a b : Int64) {i : Nat} (hi : i < 64) : lb (cmb op a b) i = cmg op (lb a i) (lb b i) := by
  unfold cmb cmg
  split
  · exact lb_and a b i
  · exact lb_or a b i
  · exact lb_xor a b i
  · rw [lb_and, lb_not _ hi]
