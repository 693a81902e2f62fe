/-! what the asking calls answer -/
def isP (N : Nat) (q : Int32) : Bool := decide (¬ q < 0 ∧ q < nI (2 ^ N))
theorem pt_of {N : Nat} {q : Int32} (h1 : ¬ q < 0) (h2 : q < nI (2 ^ N)) (h : 2 ^ N < 2 ^ 31) : ∃ j, j < 2 ^ N ∧ q = nI j := by
  rcases pk_ix q (n := 2 ^ N) h with h3 | h3 | h3
  · exact absurd h3 h1
  · exact absurd (Int32.lt_of_lt_of_le h2 h3) (by rw [Int32.lt_iff_toInt_lt]; omega)
  · exact h3
def sAt (N : Nat) (g : Nat → Nat → Bool) (k q : Int32) : Int32 := if (isR k && isP N q) = true then nI (g (ix k) (ix q)).toNat else -1
def eqg (N : Nat) (f h : Nat → Bool) : Bool := (List.range (2 ^ N)).all (fun p => f p == h p)
theorem eqg_iff {N : Nat} {f h : Nat → Bool} : eqg N f h = true ↔ ∀ p, p < 2 ^ N → f p = h p := by
  unfold eqg
  rw [List.all_eq_true]
  constructor
  · intro h1 p hp
    exact eq_of_beq (h1 p (List.mem_range.mpr hp))
  · intro h1 p hp
    exact beq_iff_eq.mpr (h1 p (List.mem_range.mp hp))
def sSm (N : Nat) (g : Nat → Nat → Bool) (a b : Int32) : Bool := isR a && (isR b && eqg N (g (ix a)) (g (ix b)))
theorem eqg_t {N : Nat} {r1 r2 : Nat → Int64} {f h : Nat → Bool} (h1 : rp (nw N) r1 f ∧ dm N f) (h2 : rp (nw N) r2 h ∧ dm N h) (he : ∀ w, w < nw N → r1 w = r2 w) : eqg N f h = true := eqg_iff.mpr (fun p hp => by
  obtain ⟨a1, a2⟩ := pt_nw hp
  have e := Nat.div_add_mod p 64
  have b1 := h1.1 (p / 64) (p % 64) a1 (Nat.mod_lt _ (by omega))
  have b2 := h2.1 (p / 64) (p % 64) a1 (Nat.mod_lt _ (by omega))
  rw [e] at b1 b2
  rw [← b1, ← b2, he _ a1])
theorem eqg_f {N : Nat} {r1 r2 : Nat → Int64} {f h : Nat → Bool} (h1 : rp (nw N) r1 f ∧ dm N f) (h2 : rp (nw N) r2 h ∧ dm N h) {w : Nat} (hw : w < nw N) (hne : ¬ r1 w = r2 w) : eqg N f h = false := by
  cases he : eqg N f h with
  | false => rfl
  | true =>
    rw [eqg_iff] at he
    refine absurd (lb_ext (fun i hi => ?_)) hne
    rw [h1.1 w i hw hi, h2.1 w i hw hi]
    rcases Nat.lt_or_ge (64 * w + i) (2 ^ N) with h3 | h3
    · exact he _ h3
    · rw [h1.2 _ h3, h2.2 _ h3]
def sOn (N : Nat) (g : Nat → Nat → Bool) (k : Int32) : Int32 := if isR k = true then nI (pcn (g (ix k)) (2 ^ N)) else -1
theorem on_s {n : Nat} {r : Nat → Int64} {f : Nat → Bool} (h : rp n r f) {w : Nat} (hw : w < n) : pcn f (64 * w) + pcn (lb (r w)) 64 = pcn f (64 * (w + 1)) := by
  rw [show 64 * (w + 1) = 64 * w + 64 by omega, pcn_add]
  congr 1
  exact pcn_congr (fun i hi => h w i hw hi)
theorem on_e {N : Nat} {f : Nat → Bool} (h : dm N f) : pcn f (64 * nw N) = pcn f (2 ^ N) := by
  by_cases hN : N ≤ 6
  · have h3 : 2 ^ N ≤ 64 := Nat.le_trans (Nat.pow_le_pow_right (by omega) hN) (by decide)
    have e1 : nw N = 1 := if_pos hN
    rw [e1, show 64 * 1 = 2 ^ N + (64 - 2 ^ N) by omega, pcn_add, pcn_0 (f := fun i => f (2 ^ N + i)) (fun i _ => h _ (by omega))]
    rfl
  · rw [nw_big (by omega)]
/-- the least point below n with f -/
def lq (f : Nat → Bool) : Nat → Option Nat
  | 0 => none
  | n + 1 => match lq f n with
    | some r => some r
    | none => if f n = true then some n else none
theorem lq_none {f : Nat → Bool} : ∀ {n : Nat}, (∀ p, p < n → f p = false) → lq f n = none
  | 0, _ => rfl
  | n + 1, h => by
    show (match lq f n with | some r => some r | none => if f n = true then some n else none) = none
    rw [lq_none (n := n) (fun p hp => h p (by omega))]
    show (if f n = true then some n else none) = none
    rw [h n (by omega)]
    rfl
theorem lq_some {f : Nat → Bool} {r : Nat} (hr : f r = true) (h : ∀ p, p < r → f p = false) : ∀ {n : Nat}, r < n → lq f n = some r
  | 0, h0 => absurd h0 (by omega)
  | n + 1, hn => by
    show (match lq f n with | some r => some r | none => if f n = true then some n else none) = some r
    rcases Nat.lt_or_ge r n with h1 | h1
    · rw [lq_some hr h h1]
    · have e : r = n := by omega
      subst e
      rw [lq_none h]
      show (if f r = true then some r else none) = some r
      rw [hr]
      rfl
def sLe (N : Nat) (g : Nat → Nat → Bool) (k : Int32) : Int32 := if isR k = true then en (lq (g (ix k)) (2 ^ N)) else -1
theorem le_none {N : Nat} {r : Nat → Int64} {f : Nat → Bool} (h : rp (nw N) r f) (h0 : ∀ w, w < nw N → r w = 0) : lq f (2 ^ N) = none := lq_none (fun p hp => by
  obtain ⟨a1, a2⟩ := pt_nw hp
  have b1 := h (p / 64) (p % 64) a1 (Nat.mod_lt _ (by omega))
  rw [Nat.div_add_mod, h0 _ a1, lb_0] at b1
  exact b1.symm)
theorem lb_ne {x : Int64} (h : ¬ x = 0) : ∃ t, t < 64 ∧ lb x t = true ∧ ∀ j, j < t → lb x j = false := by
  have h1 : ∃ t, t < 64 ∧ lb x t = true := Classical.byContradiction fun q => h (lb_ext (fun i hi => by
    rw [lb_0]
    cases hb : lb x i with
    | false => rfl
    | true => exact absurd ⟨i, hi, hb⟩ q))
  obtain ⟨t, ⟨h2, h3⟩, h4⟩ := pk_least _ h1
  refine ⟨t, h2, h3, fun j hj => ?_⟩
  cases hb : lb x j with
  | false => rfl
  | true => exact absurd ⟨by omega, hb⟩ (h4 j hj)
theorem le_some {N : Nat} {r : Nat → Int64} {f : Nat → Bool} (h : rp (nw N) r f) (hd : dm N f) {w : Nat} (hw : w < nw N) (h0 : ∀ z, z < w → r z = 0) (hne : ¬ r w = 0) : nI (w * 64 + pcn (lb ((r w &&& -r w) - 1)) 64) = en (lq f (2 ^ N)) := by
  obtain ⟨t, h1, h2, h3⟩ := lb_ne hne
  rw [low_pcn h1 h2 h3]
  have e2 := h w t hw h1
  rw [h2] at e2
  have hlt : 64 * w + t < 2 ^ N := by
    rcases Nat.lt_or_ge (64 * w + t) (2 ^ N) with h9 | h9
    · exact h9
    · rw [hd _ h9] at e2; cases e2
  have e : lq f (2 ^ N) = some (64 * w + t) := lq_some e2.symm (fun p hp => by
    have b1 := h (p / 64) (p % 64) (by omega) (Nat.mod_lt _ (by omega))
    rw [Nat.div_add_mod] at b1
    rcases Nat.lt_or_ge (p / 64) w with h8 | h8
    · rw [h0 _ h8, lb_0] at b1
      exact b1.symm
    · have e8 : p / 64 = w := by omega
      rw [e8, h3 _ (by omega)] at b1
      exact b1.symm) hlt
  rw [e, Nat.mul_comm]
  rfl
def sFo (N : Nat) (g : Nat → Nat → Bool) (k : Int32) : Int32 := if isR k = true then nI (fc (g (ix k)) N N) else -1
