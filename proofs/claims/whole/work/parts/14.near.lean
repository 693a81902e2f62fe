/-! nearest: of the points where c is 1, the one whose number differs least from p (bit by bit, read as a number), in the block of 2 ^ b points round p -/
def nq (c : Nat → Bool) : Nat → Nat → Option Nat
  | 0, p => if c p then some p else none
  | b + 1, p => match nq c b p with
    | some q => some q
    | none => nq c b (p ^^^ 2 ^ b)
def ng (a c : Nat → Bool) (b p : Nat) : Bool := match nq c b p with
  | some q => a q
  | none => false
/-- some point of c in the block -/
def nc (c : Nat → Bool) (b p : Nat) : Bool := (nq c b p).isSome
theorem ng_s (a c : Nat → Bool) (b p : Nat) : ng a c (b + 1) p = (ng a c b p || (ng a c b (p ^^^ 2 ^ b) && !nc c b p)) := by
  unfold ng nc
  show (match (match nq c b p with | some q => some q | none => nq c b (p ^^^ 2 ^ b)) with | some q => a q | none => false) = _
  cases nq c b p with
  | none => simp
  | some q => simp
theorem nc_s (c : Nat → Bool) (b p : Nat) : nc c (b + 1) p = (nc c b p || nc c b (p ^^^ 2 ^ b)) := by
  unfold nc
  show (match nq c b p with | some q => some q | none => nq c b (p ^^^ 2 ^ b)).isSome = _
  cases nq c b p with
  | none => simp
  | some q => simp
theorem ng_0 (a c : Nat → Bool) (p : Nat) : ng a c 0 p = (a p && c p) := by
  unfold ng
  show (match (if c p then some p else none) with | some q => a q | none => false) = _
  cases c p <;> simp
theorem nc_0 (c : Nat → Bool) (p : Nat) : nc c 0 p = c p := by
  unfold nc
  show (if c p then some p else none).isSome = _
  cases c p <;> simp
theorem ng_nc {a c : Nat → Bool} {b p : Nat} (h : nc c b p = false) : ng a c b p = false := by
  unfold nc at h
  unfold ng
  cases hq : nq c b p with
  | none => rfl
  | some q => rw [hq] at h; cases h
/-- xor of a block's number: below 2 ^ (b + 1) it is below 2 ^ b, or 2 ^ b and the rest -/
theorem xr_half {x b : Nat} (h : x < 2 ^ (b + 1)) : x < 2 ^ b ∨ (x ^^^ 2 ^ b) < 2 ^ b ∧ x = 2 ^ b + (x ^^^ 2 ^ b) := by
  rcases Nat.lt_or_ge x (2 ^ b) with h1 | h1
  · exact Or.inl h1
  · right
    have h2 : x - 2 ^ b < 2 ^ b := by rw [Nat.pow_succ] at h; omega
    have e : 2 ^ b + (x - 2 ^ b) = 2 ^ b ^^^ (x - 2 ^ b) := by
      apply Nat.eq_of_testBit_eq
      intro j
      rw [Nat.testBit_xor, Nat.testBit_two_pow]
      have e3 := Nat.testBit_two_pow_mul_add 1 (b := x - 2 ^ b) (i := b) h2 j
      rw [Nat.mul_one] at e3
      rw [e3]
      split
      · rename_i hj
        rw [decide_eq_false (by omega), Bool.false_xor]
      · rename_i hj
        by_cases hjb : b = j
        · subst hjb
          rw [decide_eq_true rfl, Nat.testBit_lt_two_pow h2, Nat.sub_self]
          rfl
        · rw [decide_eq_false hjb, Bool.false_xor, Nat.testBit_lt_two_pow (Nat.lt_of_lt_of_le h2 (Nat.pow_le_pow_right (by omega) (by omega))), tb_one]
          exact decide_eq_false (by omega)
    have e2 : x ^^^ 2 ^ b = x - 2 ^ b := by
      have e4 : x = 2 ^ b ^^^ (x - 2 ^ b) := by rw [← e]; omega
      conv => lhs; rw [e4, Nat.xor_comm, ← Nat.xor_assoc, Nat.xor_self, Nat.zero_xor]
    rw [e2]
    omega
theorem nq_none {c : Nat → Bool} : ∀ {b p : Nat}, nq c b p = none → ∀ z, c z = true → ¬ (p ^^^ z) < 2 ^ b
  | 0, p, h, z, hz, hl => by
    have h : (if c p then some p else none) = none := h
    have e : p ^^^ z = 0 := by rw [Nat.pow_zero] at hl; omega
    have e2 : z = p := by
      have e3 : (p ^^^ z) ^^^ z = p := by rw [Nat.xor_assoc, Nat.xor_self, Nat.xor_zero]
      rw [e, Nat.zero_xor] at e3
      exact e3
    rw [← e2, hz] at h
    cases h
  | b + 1, p, h, z, hz, hl => by
    have h : (match nq c b p with | some q => some q | none => nq c b (p ^^^ 2 ^ b)) = none := h
    cases hq : nq c b p with
    | some q' => rw [hq] at h; cases h
    | none =>
      rw [hq] at h
      rcases xr_half hl with h9 | ⟨h9, -⟩
      · exact nq_none hq z hz h9
      · refine nq_none (show nq c b (p ^^^ 2 ^ b) = none from h) z hz ?_
        rw [Nat.xor_assoc, Nat.xor_comm (2 ^ b) z, ← Nat.xor_assoc]
        exact h9
theorem nq_some {c : Nat → Bool} : ∀ {b p q : Nat}, nq c b p = some q → c q = true ∧ (p ^^^ q) < 2 ^ b ∧ ∀ z, c z = true → (p ^^^ z) < 2 ^ b → (p ^^^ q) ≤ (p ^^^ z)
  | 0, p, q, h => by
    have h : (if c p then some p else none) = some q := h
    cases hc : c p with
    | false => rw [hc] at h; cases h
    | true =>
      rw [hc] at h
      cases h
      exact ⟨hc, by rw [Nat.xor_self]; decide, fun z _ _ => by rw [Nat.xor_self]; exact Nat.zero_le _⟩
  | b + 1, p, q, h => by
    have h : (match nq c b p with | some q => some q | none => nq c b (p ^^^ 2 ^ b)) = some q := h
    cases hq : nq c b p with
    | some q' =>
      rw [hq] at h
      cases h
      obtain ⟨h1, h2, h3⟩ := nq_some hq
      refine ⟨h1, Nat.lt_of_lt_of_le h2 (Nat.pow_le_pow_right (by omega) (by omega)), fun z hz hl => ?_⟩
      rcases Nat.lt_or_ge (p ^^^ z) (2 ^ b) with h9 | h9
      · exact h3 z hz h9
      · omega
    | none =>
      rw [hq] at h
      obtain ⟨h1, h2, h3⟩ := nq_some (show nq c b (p ^^^ 2 ^ b) = some q from h)
      have hc : ∀ z, (p ^^^ 2 ^ b) ^^^ z = (p ^^^ z) ^^^ 2 ^ b := fun z => by rw [Nat.xor_assoc, Nat.xor_comm (2 ^ b) z, ← Nat.xor_assoc]
      have hno := nq_none hq
      have hlt : (p ^^^ q) < 2 ^ (b + 1) := by
        have e : p ^^^ q = ((p ^^^ 2 ^ b) ^^^ q) ^^^ 2 ^ b := by rw [hc, xr_xr]
        rw [e]
        exact Nat.xor_lt_two_pow (Nat.lt_of_lt_of_le h2 (Nat.pow_le_pow_right (by omega) (by omega))) (Nat.pow_lt_pow_right (by omega) (by omega))
      refine ⟨h1, hlt, fun z hz hl => ?_⟩
      rcases xr_half hl with h9 | ⟨h9, e9⟩
      · exact absurd h9 (hno z hz)
      · rcases xr_half hlt with h8 | ⟨h8, e8⟩
        · exact absurd h8 (hno q h1)
        · have := h3 z hz (by rw [hc]; exact h9)
          rw [hc, hc] at this
          omega
/-- the step of nearest, in place, j words done -/
def nst (b : Nat) (re dr : Nat → Int64) : Nat → Nat → Int64
  | 0 => dr
  | j + 1 => vp_updL (nst b re dr j) j (nst b re dr j j ||| (acr (nst b re dr j) j b &&& (re j ^^^ (-1))))
theorem nst_in {N b : Nat} (hb : b < N) {re dr : Nat → Int64} {a c : Nat → Bool} (h : rp (nw N) dr (ng a c b)) (hr : rp (nw N) re (nc c b)) : ∀ j, j ≤ nw N → ∀ w i, w < nw N → i < 64 → lb (nst b re dr j w) i = if w < j then ng a c (b + 1) (64 * w + i) else ng a c b (64 * w + i)
  | 0, _, w, i, hw, hi => by rw [if_neg (by omega)]; exact h w i hw hi
  | j + 1, hj, w, i, hw, hi => by
    have ih := nst_in hb h hr j (by omega)
    show lb (vp_updL (nst b re dr j) j _ w) i = _
    by_cases e : w = j
    · subst e
      rw [pk_uLs, lb_or, lb_and, lb_not _ hi, hr w i hw hi, ih w i hw hi, if_neg (by omega), if_pos (by omega), ng_s]
      have hn : nc c b (64 * w + i) = false → ng a c b (64 * w + i) = false := ng_nc
      unfold acr
      by_cases h6 : 6 ≤ b
      · rw [if_pos h6, ih _ i (xw_lt hw hb h6) hi, ← xr_hi hi h6, ng_s, xr_xr]
        split
        · revert hn
          cases ng a c b (64 * w + i) <;> cases nc c b (64 * w + i) <;> simp
        · rfl
      · rw [if_neg h6, lb_acl _ (by omega) hi, ih w _ hw (Nat.xor_lt_two_pow (n := 6) hi (Nat.pow_lt_pow_right (by omega) (by omega))), if_neg (by omega), xr_lo hi (by omega)]
    · rw [pk_uLn e, ih w i hw hi]
      by_cases hl : w < j
      · rw [if_pos hl, if_pos (by omega)]
      · rw [if_neg hl, if_neg (by omega)]
theorem nst_rp {N b : Nat} (hb : b < N) {re dr : Nat → Int64} {a c : Nat → Bool} (h : rp (nw N) dr (ng a c b)) (hr : rp (nw N) re (nc c b)) : rp (nw N) (nst b re dr (nw N)) (ng a c (b + 1)) := fun w i hw hi => by
  rw [nst_in hb h hr _ (Nat.le_refl _) w i hw hi, if_pos hw]
theorem nc_sg (c : Nat → Bool) (b : Nat) : sg b (nc c b) = nc c (b + 1) := funext fun p => (nc_s c b p).symm
/-- what lies outside the points stays 0 -/
theorem nc_dm {N : Nat} {c : Nat → Bool} (h : dm N c) : ∀ b, b ≤ N → dm N (nc c b)
  | 0, _ => fun p hp => by rw [nc_0]; exact h p hp
  | b + 1, hb => by
    rw [← nc_sg]
    exact sg_dm (by omega) (nc_dm h b (by omega))
theorem ng_dm {N : Nat} {a c : Nat → Bool} (h : dm N c) {b : Nat} (hb : b ≤ N) : dm N (ng a c b) := fun p hp => ng_nc (nc_dm h b hb p hp)
