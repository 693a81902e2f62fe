/-- a point with bit b set to v -/
def fxi (p b : Nat) (v : Bool) : Nat := if p.testBit b = v then p else p ^^^ 2 ^ b
theorem fxi_lt {N p b : Nat} {v : Bool} (hp : p < 2 ^ N) (hb : b < N) : fxi p b v < 2 ^ N := by
  unfold fxi
  split
  · exact hp
  · exact xr_lt hp hb
theorem fxi_t {p b : Nat} : p ||| 2 ^ b = fxi p b true := by
  unfold fxi
  apply Nat.eq_of_testBit_eq
  intro j
  rw [Nat.testBit_or, Nat.testBit_two_pow]
  by_cases hp : p.testBit b = true
  · rw [if_pos hp]
    by_cases e : b = j
    · subst e; rw [hp]; rfl
    · rw [decide_eq_false e, Bool.or_false]
  · rw [if_neg hp, Nat.testBit_xor, Nat.testBit_two_pow]
    by_cases e : b = j
    · subst e
      rw [decide_eq_true rfl, Bool.or_true]
      cases h : p.testBit b with
      | false => rfl
      | true => exact absurd h hp
    · rw [decide_eq_false e, Bool.or_false, Bool.xor_false]
theorem fxi_f {p b : Nat} (hb : b < 32) : (nI p) &&& ((nI (2 ^ b)) ^^^ (-1)) = nI (fxi p b false) := by
  apply Int32.toBitVec_inj.1
  show BitVec.ofNat 32 p &&& (BitVec.ofNat 32 (2 ^ b) ^^^ BitVec.allOnes 32) = BitVec.ofNat 32 (fxi p b false)
  apply BitVec.eq_of_getLsbD_eq
  intro i hi
  rw [BitVec.getLsbD_and, BitVec.getLsbD_xor, BitVec.getLsbD_ofNat, BitVec.getLsbD_ofNat, BitVec.getLsbD_ofNat, BitVec.getLsbD_allOnes, Nat.testBit_two_pow]
  simp only [hi, decide_true, Bool.true_and]
  unfold fxi
  by_cases hp : p.testBit b = false
  · rw [if_pos hp]
    by_cases e : b = i
    · subst e; rw [hp]; rfl
    · rw [decide_eq_false e]; simp
  · rw [if_neg hp, Nat.testBit_xor, Nat.testBit_two_pow]
    by_cases e : b = i
    · subst e
      rw [decide_eq_true rfl]
      cases h : p.testBit b with
      | false => exact absurd h hp
      | true => rfl
    · rw [decide_eq_false e]; simp
/-- exists, in place: points below w done -/
theorem ex_t {P w B : Nat} {m3 m4 : Nat → Bool} (_ : 0 ≤ w) (hL : ∀ z, z < P → m4 z = (m3 z || (decide (z ^^^ 2 ^ B < w) && m3 (z ^^^ 2 ^ B)))) (hw : w < P) (hm : m4 w = true) : ∀ z, z < P → va_up m4 (w ^^^ 2 ^ B) true z = (m3 z || (decide (z ^^^ 2 ^ B < w + 1) && m3 (z ^^^ 2 ^ B))) := fun z hz => by
  have h1 := hL w hw
  rw [hm] at h1
  by_cases e : z = w ^^^ 2 ^ B
  · subst e
    rw [va_up_self, xr_xr, decide_eq_true (Nat.lt_succ_self w), Bool.true_and]
    revert h1
    cases m3 w <;> cases m3 (w ^^^ 2 ^ B) <;> simp
  · rw [va_up_ne _ _ e, hL z hz]
    have e2 : ¬ z ^^^ 2 ^ B = w := fun q => e (by rw [← q, xr_xr])
    rw [decide_lt_s e2]
theorem ex_f {P w B : Nat} {m3 m4 : Nat → Bool} (hL : ∀ z, z < P → m4 z = (m3 z || (decide (z ^^^ 2 ^ B < w) && m3 (z ^^^ 2 ^ B)))) (hw : w < P) (hm : m4 w = false) : ∀ z, z < P → m4 z = (m3 z || (decide (z ^^^ 2 ^ B < w + 1) && m3 (z ^^^ 2 ^ B))) := fun z hz => by
  have h1 := hL w hw
  rw [hm] at h1
  have h2 : m3 w = false := by
    revert h1
    cases m3 w <;> simp
  rw [hL z hz]
  by_cases e : z ^^^ 2 ^ B = w
  · rw [e, h2, Bool.and_false, Bool.and_false]
  · rw [decide_lt_s e]
theorem arR_in {f : Int32} {c : Nat} (h1 : ¬ f < 0) (h2 : f ≤ nI (32 - c)) : arR f c = true := decide_eq_true ⟨h1, fun q => by rw [Int32.lt_iff_toInt_lt] at q; rw [Int32.le_iff_toInt_le] at h2; omega⟩
theorem arR_lt {f : Int32} {c : Nat} (h : f < 0) : arR f c = false := decide_eq_false (fun q => q.1 h)
theorem arR_gt {f : Int32} {c : Nat} (h : ¬ f ≤ nI (32 - c)) : arR f c = false := decide_eq_false (fun q => q.2 (Int32.not_le.mp h))
theorem xr_cancel (p q : Nat) : p ^^^ (p ^^^ q) = q := by rw [← Nat.xor_assoc, Nat.xor_self, Nat.zero_xor]
theorem xr_ltN {N p d : Nat} (hp : p < 2 ^ N) (hd : d < 2 ^ N) : p ^^^ d < 2 ^ N := Nat.xor_lt_two_pow hp hd
theorem near_hit {N x1 x2 w d : Nat} {rb : Nat → Bool} {g : Nat → Nat → Bool} (hg : okM N rb g) (hx1 : x1 < 32) (hx2 : x2 < 32) (hw : w < 2 ^ N) (hd : d < 2 ^ N) (h1 : rb (4096 * x2 + (w ^^^ d)) = true) (h0 : ∀ y, y < d → rb (4096 * x2 + (w ^^^ y)) = false) : ng (g x1) (g x2) N w = rb (4096 * x1 + (w ^^^ d)) := by
  rw [hg x2 _ hx2 (xr_ltN hw hd)] at h1
  rw [hg x1 _ hx1 (xr_ltN hw hd)]
  unfold ng
  cases hq : nq (g x2) N w with
  | none =>
    exact absurd (show w ^^^ (w ^^^ d) < 2 ^ N by rw [xr_cancel]; exact hd) (nq_none hq _ h1)
  | some q =>
    obtain ⟨a1, a2, a3⟩ := nq_some hq
    have a4 := a3 _ h1 (by rw [xr_cancel]; exact hd)
    rw [xr_cancel] at a4
    have e : w ^^^ q = d := by
      rcases Nat.lt_or_ge (w ^^^ q) d with h9 | h9
      · have := h0 _ h9
        rw [xr_cancel, hg x2 q hx2 (by have := xr_ltN hw a2; rw [xr_cancel] at this; exact this), a1] at this
        cases this
      · omega
    show g x1 q = g x1 (w ^^^ d)
    rw [← e, xr_cancel]
theorem near_no {N x1 x2 w : Nat} {rb : Nat → Bool} {g : Nat → Nat → Bool} (hg : okM N rb g) (hx2 : x2 < 32) (hw : w < 2 ^ N) (h0 : ∀ y, y < 2 ^ N → rb (4096 * x2 + (w ^^^ y)) = false) : ng (g x1) (g x2) N w = false := by
  unfold ng
  cases hq : nq (g x2) N w with
  | none => rfl
  | some q =>
    obtain ⟨a1, a2, a3⟩ := nq_some hq
    have := h0 _ a2
    rw [xr_cancel, hg x2 q hx2 (by have := xr_ltN hw a2; rw [xr_cancel] at this; exact this), a1] at this
    cases this
