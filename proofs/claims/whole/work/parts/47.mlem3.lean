theorem arR_in2 {f : Int32} {c : Nat} (h1 : ¬ f < 0) (h2 : ¬ nI (32 - c) < f) : arR f c = true := decide_eq_true ⟨h1, h2⟩
theorem arR_g2 {f : Int32} {c : Nat} (h : nI (32 - c) < f) : arR f c = false := decide_eq_false (fun q => q.2 h)
theorem tp_top {N m T : Nat} (hm : m ≤ N) (h : T < 2 ^ m) : T * 2 ^ (N - m) + 2 ^ (N - m) ≤ 2 ^ N := by
  have e : 2 ^ N = 2 ^ m * 2 ^ (N - m) := by rw [← Nat.pow_add]; congr 1; omega
  rw [e, show T * 2 ^ (N - m) + 2 ^ (N - m) = (T + 1) * 2 ^ (N - m) by rw [Nat.succ_mul]]
  exact Nat.mul_le_mul_right _ h
/-- image, as the reference marks: the points whose upper part is a tuple of the first n points of c -/
def imR (g : Nat → Nat → Bool) (x0 m f x2 n y : Nat) : Bool := (List.range n).any (fun p => g x2 p && decide (tp g x0 p m = y / 2 ^ f))
theorem imR_iff {g : Nat → Nat → Bool} {x0 m f x2 n y : Nat} : imR g x0 m f x2 n y = true ↔ ∃ p, p < n ∧ g x2 p = true ∧ tp g x0 p m = y / 2 ^ f := by
  unfold imR
  rw [List.any_eq_true]
  constructor
  · rintro ⟨p, hp, h⟩
    rw [Bool.and_eq_true] at h
    exact ⟨p, List.mem_range.mp hp, h.1, of_decide_eq_true h.2⟩
  · rintro ⟨p, hp, h1, h2⟩
    exact ⟨p, List.mem_range.mpr hp, by rw [h1, decide_eq_true h2]; rfl⟩
theorem imR_s {g : Nat → Nat → Bool} {x0 m f x2 n y : Nat} : imR g x0 m f x2 (n + 1) y = (imR g x0 m f x2 n y || (g x2 n && decide (tp g x0 n m = y / 2 ^ f))) := by
  unfold imR
  rw [List.range_succ, List.any_append]
  simp
theorem imR_no {N x0 m f x2 w : Nat} {rb : Nat → Bool} {g : Nat → Nat → Bool} {m3 : Nat → Bool} (hg : okM N rb g) (hx2 : x2 < 32) (hw : w < 2 ^ N) (h : rb (4096 * x2 + w) = false) (hJ : ∀ y, y < 2 ^ N → m3 y = imR g x0 m f x2 w y) : ∀ y, y < 2 ^ N → m3 y = imR g x0 m f x2 (w + 1) y := fun y hy => by
  rw [imR_s, hJ y hy, ← hg x2 w hx2 hw, h, Bool.false_and, Bool.or_false]
theorem blk {f T TO y : Nat} (hTO : T * 2 ^ f = TO) : T = y / 2 ^ f ↔ TO ≤ y ∧ y < TO + 2 ^ f := by
  have h0 : 0 < 2 ^ f := Nat.two_pow_pos f
  subst hTO
  constructor
  · rintro rfl
    have h1 := Nat.div_add_mod y (2 ^ f)
    have h2 := Nat.mod_lt y h0
    rw [Nat.mul_comm] at h1
    omega
  · rintro ⟨h1, h2⟩
    refine (Nat.div_eq_of_lt_le h1 ?_).symm
    rw [Nat.succ_mul]
    exact h2
theorem imR_yes {N x0 m x2 w T TO : Nat} {rb : Nat → Bool} {g : Nat → Nat → Bool} {m3 m4 : Nat → Bool} (hg : okM N rb g) (hx2 : x2 < 32) (h0 : x0 + m ≤ 32) (hTT : tp (fun k p => rb (4096 * k + p)) x0 w m = T) (hTO : T * 2 ^ (N - m) = TO) (_ : m ≤ N) (hw : w < 2 ^ N) (h : rb (4096 * x2 + w) = true) (hJ : ∀ y, y < 2 ^ N → m3 y = imR g x0 m (N - m) x2 w y) (hL : ∀ y, y < 2 ^ N → m4 y = (m3 y || decide (TO ≤ y ∧ y < TO + 2 ^ (N - m)))) : ∀ y, y < 2 ^ N → m4 y = imR g x0 m (N - m) x2 (w + 1) y := fun y hy => by
  have e : tp g x0 w m = T := by
    rw [← hTT]
    exact tp_congr (fun k hk => (hg (x0 + k) w (by omega) hw).symm)
  rw [imR_s, hL y hy, hJ y hy, ← hg x2 w hx2 hw, h, Bool.true_and, e]
  congr 1
  rw [decide_eq_decide]
  exact (blk hTO).symm
theorem imR_end {N m x0 x2 y : Nat} {g : Nat → Nat → Bool} : imR g x0 m (N - m) x2 (2 ^ N) y = sgs (imB g x0 m (N - m) x2 (2 ^ N)) (N - m) y := bool_iff (by
  rw [imR_iff, sgs_iff]
  have hp : ∀ T : Nat, T * 2 ^ (N - m) / 2 ^ (N - m) = T := fun T => Nat.mul_div_cancel _ (Nat.two_pow_pos _)
  constructor
  · rintro ⟨p, h1, h2, h3⟩
    exact ⟨tp g x0 p m * 2 ^ (N - m), imB_iff.mpr ⟨p, h1, h2, rfl⟩, by rw [hp]; exact h3⟩
  · rintro ⟨z, h1, h2⟩
    obtain ⟨p, h3, h4, h5⟩ := imB_iff.mp h1
    refine ⟨p, h3, h4, ?_⟩
    rw [← h2, ← h5, hp])
theorem sle_end {N w : Nat} {rb : Nat → Bool} {g : Nat → Nat → Bool} {k : Int32} (_ : N ≤ 12) (hg : okM N rb g) (hw : 2 ^ N ≤ w) (hI : ∀ z, z < w → isR k = true ∧ rb (4096 * ix k + z) = false) : -1 = sLe N g k := by
  unfold sLe
  by_cases hk : isR k = true
  · rw [if_pos hk, lq_none (fun p hp => ?_)]
    · rfl
    · obtain ⟨j, hj, ej⟩ := isR_t hk
      rw [ej, ix_nI (by omega), ← hg j p hj hp]
      have := (hI p (by omega)).2
      rw [ej, ix_nI (by omega)] at this
      exact this
  · rw [if_neg hk]
theorem eqg_alk {N x1 x2 : Nat} {rb : Nat → Bool} {g : Nat → Nat → Bool} (hg : okM N rb g) (h1 : x1 < 32) (h2 : x2 < 32) : eqg N (g x1) (g x2) = alk rb (4096 * 0 + 4096 * x1) (4096 * 0 + 4096 * x2) (2 ^ N) := bool_iff (by
  rw [eqg_iff, alk_iff, Nat.mul_zero, Nat.zero_add, Nat.zero_add]
  constructor
  · intro h p hp
    rw [hg x1 p h1 hp, hg x2 p h2 hp]
    exact h p hp
  · intro h p hp
    rw [← hg x1 p h1 hp, ← hg x2 p h2 hp]
    exact h p hp)
