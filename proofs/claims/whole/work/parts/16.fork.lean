/-! kinds: blocks with halves lo b, up b; ks x y n: the least block below n with halves x, y -/
def ks (lo up : Nat → Nat) (x y : Nat) : Nat → Option Nat
  | 0 => none
  | n + 1 => match ks lo up x y n with
    | some r => some r
    | none => if lo n = x ∧ up n = y then some n else none
/-- the first of its kind -/
def fi (lo up : Nat → Nat) (b : Nat) : Bool := (ks lo up (lo b) (up b) b).isNone
/-- a block's kind: the number of the first that equals it -/
def kn (lo up : Nat → Nat) (b : Nat) : Nat := (ks lo up (lo b) (up b) b).getD b
theorem ks_s (lo up : Nat → Nat) (x y n : Nat) : ks lo up x y (n + 1) = match ks lo up x y n with | some r => some r | none => if lo n = x ∧ up n = y then some n else none := rfl
theorem ks_some {lo up : Nat → Nat} {x y : Nat} : ∀ {n r : Nat}, ks lo up x y n = some r → r < n ∧ lo r = x ∧ up r = y ∧ ks lo up x y r = none
  | 0, r, h => by cases h
  | n + 1, r, h => by
    rw [ks_s] at h
    cases hk : ks lo up x y n with
    | some r' =>
      rw [hk] at h
      cases h
      obtain ⟨h1, h2, h3, h4⟩ := ks_some hk
      exact ⟨by omega, h2, h3, h4⟩
    | none =>
      rw [hk] at h
      by_cases hc : lo n = x ∧ up n = y
      · have h : (if lo n = x ∧ up n = y then some n else none) = some r := h
        rw [if_pos hc] at h
        cases h
        exact ⟨by omega, hc.1, hc.2, hk⟩
      · have h : (if lo n = x ∧ up n = y then some n else none) = some r := h
        rw [if_neg hc] at h
        cases h
theorem ks_none {lo up : Nat → Nat} {x y : Nat} : ∀ {n : Nat}, ks lo up x y n = none → ∀ r, r < n → ¬ (lo r = x ∧ up r = y)
  | 0, _, r, hr, _ => absurd hr (by omega)
  | n + 1, h, r, hr, hc => by
    rw [ks_s] at h
    cases hk : ks lo up x y n with
    | some r' => rw [hk] at h; cases h
    | none =>
      rw [hk] at h
      have h : (if lo n = x ∧ up n = y then some n else none) = none := h
      rcases Nat.lt_or_ge r n with h1 | h1
      · exact ks_none hk r h1 hc
      · have e : r = n := by omega
        subst e
        rw [if_pos hc] at h
        cases h
theorem ks_of {lo up : Nat → Nat} {x y r : Nat} (h1 : lo r = x) (h2 : up r = y) (h3 : ks lo up x y r = none) : ∀ {n : Nat}, r < n → ks lo up x y n = some r
  | 0, h => absurd h (by omega)
  | n + 1, h => by
    rw [ks_s]
    rcases Nat.lt_or_ge r n with h4 | h4
    · rw [ks_of h1 h2 h3 h4]
    · have e : r = n := by omega
      subst e
      rw [h3]
      show (if lo r = x ∧ up r = y then some r else none) = _
      rw [if_pos ⟨h1, h2⟩]
theorem fi_t {lo up : Nat → Nat} {b : Nat} (h : fi lo up b = true) : ks lo up (lo b) (up b) b = none := Option.isNone_iff_eq_none.mp h
theorem fi_of {lo up : Nat → Nat} {b : Nat} (h : ks lo up (lo b) (up b) b = none) : fi lo up b = true := Option.isNone_iff_eq_none.mpr h
theorem fi_no {lo up : Nat → Nat} {b r : Nat} (h : ks lo up (lo b) (up b) b = some r) : fi lo up b = false := by unfold fi; rw [h]; rfl
/-- equal halves, equal kind -/
theorem kn_eq {lo up : Nat → Nat} {a b : Nat} : kn lo up a = kn lo up b ↔ lo a = lo b ∧ up a = up b := by
  have hk : ∀ c, lo (kn lo up c) = lo c ∧ up (kn lo up c) = up c := fun c => by
    unfold kn
    cases h : ks lo up (lo c) (up c) c with
    | none => exact ⟨rfl, rfl⟩
    | some r => obtain ⟨h1, h2, h3, h4⟩ := ks_some h; exact ⟨h2, h3⟩
  have hf : ∀ c, ks lo up (lo c) (up c) (kn lo up c) = none := fun c => by
    unfold kn
    cases h : ks lo up (lo c) (up c) c with
    | none => exact h
    | some r => obtain ⟨h1, h2, h3, h4⟩ := ks_some h; exact h4
  constructor
  · intro h
    have h1 := hk a
    have h2 := hk b
    rw [h] at h1
    exact ⟨h1.1.symm.trans h2.1, h1.2.symm.trans h2.2⟩
  · rintro ⟨h1, h2⟩
    rcases Nat.lt_trichotomy (kn lo up a) (kn lo up b) with h | h | h
    · exact absurd ⟨(hk a).1.trans h1, (hk a).2.trans h2⟩ (ks_none (hf b) _ h)
    · exact h
    · exact absurd ⟨(hk b).1.trans h1.symm, (hk b).2.trans h2.symm⟩ (ks_none (hf a) _ h)
theorem kn_le (lo up : Nat → Nat) (b : Nat) : kn lo up b ≤ b := by
  unfold kn
  cases h : ks lo up (lo b) (up b) b with
  | none => exact Nat.le_refl _
  | some r => exact Nat.le_of_lt (ks_some h).1
theorem kn_fi {lo up : Nat → Nat} {b : Nat} : kn lo up b = b ↔ fi lo up b = true := by
  unfold kn fi
  cases h : ks lo up (lo b) (up b) b with
  | none => simp
  | some r =>
    have := (ks_some h).1
    simp
    omega
/-- the latest first block below m with the lower half x -/
def pv (lo up : Nat → Nat) (x : Nat) : Nat → Option Nat
  | 0 => none
  | m + 1 => if lo m = x ∧ fi lo up m = true then some m else pv lo up x m
theorem pv_some {lo up : Nat → Nat} {x : Nat} : ∀ {m f : Nat}, pv lo up x m = some f → f < m ∧ lo f = x ∧ fi lo up f = true ∧ ∀ g, f < g → g < m → lo g = x → fi lo up g = false
  | 0, f, h => by cases h
  | m + 1, f, h => by
    have h : (if lo m = x ∧ fi lo up m = true then some m else pv lo up x m) = some f := h
    by_cases hc : lo m = x ∧ fi lo up m = true
    · rw [if_pos hc] at h
      cases h
      exact ⟨by omega, hc.1, hc.2, fun g h1 h2 => absurd h1 (by omega)⟩
    · rw [if_neg hc] at h
      obtain ⟨h1, h2, h3, h4⟩ := pv_some h
      refine ⟨by omega, h2, h3, fun g h5 h6 h7 => ?_⟩
      rcases Nat.lt_or_ge g m with h8 | h8
      · exact h4 g h5 h8 h7
      · have e : g = m := by omega
        subst e
        cases h9 : fi lo up g with
        | false => rfl
        | true => exact absurd ⟨h7, h9⟩ hc
theorem pv_none {lo up : Nat → Nat} {x : Nat} : ∀ {m : Nat}, pv lo up x m = none → ∀ f, f < m → lo f = x → fi lo up f = false
  | 0, _, f, h, _ => absurd h (by omega)
  | m + 1, h, f, h1, h2 => by
    have h : (if lo m = x ∧ fi lo up m = true then some m else pv lo up x m) = none := h
    by_cases hc : lo m = x ∧ fi lo up m = true
    · rw [if_pos hc] at h; cases h
    · rw [if_neg hc] at h
      rcases Nat.lt_or_ge f m with h8 | h8
      · exact pv_none h f h8 h2
      · have e : f = m := by omega
        subst e
        cases h9 : fi lo up f with
        | false => rfl
        | true => exact absurd ⟨h2, h9⟩ hc
/-- the search down the chain of x: nothing with y from m on -/
def nb (lo up : Nat → Nat) (x y b m : Nat) : Prop := ∀ f, m ≤ f → f < b → lo f = x → fi lo up f = true → up f ≠ y
theorem nb_0 (lo up : Nat → Nat) (x y b : Nat) : nb lo up x y b b := fun f h1 h2 => absurd h1 (by omega)
theorem nb_hit {lo up : Nat → Nat} {x y b m f : Nat} (hm : m ≤ b) (h : pv lo up x m = some f) (hy : up f = y) : ks lo up x y b = some f := by
  obtain ⟨h1, h2, h3, -⟩ := pv_some h
  have h4 := fi_t h3
  rw [h2, hy] at h4
  exact ks_of h2 hy h4 (by omega)
theorem nb_on {lo up : Nat → Nat} {x y b m f : Nat} (hn : nb lo up x y b m) (h : pv lo up x m = some f) (hy : ¬ up f = y) : nb lo up x y b f := fun g h1 h2 h3 h4 => by
  obtain ⟨h5, h6, h7, h8⟩ := pv_some h
  rcases Nat.lt_or_ge g m with h9 | h9
  · rcases Nat.lt_or_ge f g with h10 | h10
    · rw [h8 g h10 h9 h3] at h4; cases h4
    · have e : g = f := by omega
      subst e
      exact hy
  · exact hn g h9 h2 h3 h4
theorem nb_end {lo up : Nat → Nat} {x y b m : Nat} (hn : nb lo up x y b m) (h : pv lo up x m = none) : ks lo up x y b = none := by
  cases hk : ks lo up x y b with
  | none => rfl
  | some r =>
    obtain ⟨h1, h2, h3, h4⟩ := ks_some hk
    have h5 : fi lo up r = true := fi_of (by rw [h2, h3]; exact h4)
    rcases Nat.lt_or_ge r m with h6 | h6
    · rw [pv_none h r h6 h2] at h5; cases h5
    · exact absurd h3 (hn r h6 h1 h2 h5)
def en (o : Option Nat) : Int32 := match o with
  | some f => nI f
  | none => -1
/-- the counter's three arrays when b blocks are done -/
def fk (lo up : Nat → Nat) (X b : Nat) (uh bf la : Nat → Int32) : Prop := (∀ x, x < X → la x = en (pv lo up x b)) ∧ ∀ f, f < b → fi lo up f = true → uh f = nI (up f) ∧ bf f = en (pv lo up (lo f) f)
theorem fk_0 (lo up : Nat → Nat) (X : Nat) (uh bf la : Nat → Int32) (h : ∀ x, x < X → la x = -1) : fk lo up X 0 uh bf la := ⟨h, fun f hf => absurd hf (by omega)⟩
theorem fk_old {lo up : Nat → Nat} {X b r : Nat} {uh bf la : Nat → Int32} (h : fk lo up X b uh bf la) (hk : ks lo up (lo b) (up b) b = some r) : fk lo up X (b + 1) uh bf la := by
  have hb := fi_no hk
  refine ⟨fun x hx => ?_, fun f hf h1 => ?_⟩
  · rw [h.1 x hx]
    show _ = en (if lo b = x ∧ fi lo up b = true then some b else pv lo up x b)
    rw [if_neg (fun q => by rw [hb] at q; cases q.2)]
  · rcases Nat.lt_or_ge f b with h2 | h2
    · exact h.2 f h2 h1
    · have e : f = b := by omega
      subst e
      rw [hb] at h1
      cases h1
theorem fk_new {lo up : Nat → Nat} {X b : Nat} {uh bf la : Nat → Int32} (h : fk lo up X b uh bf la) (hX : lo b < X) (hk : ks lo up (lo b) (up b) b = none) : fk lo up X (b + 1) (upd uh b (nI (up b))) (upd bf b (la (lo b))) (upd la (lo b) (nI b)) := by
  have hb := fi_of hk
  refine ⟨fun x hx => ?_, fun f hf h1 => ?_⟩
  · show _ = en (if lo b = x ∧ fi lo up b = true then some b else pv lo up x b)
    by_cases e : lo b = x
    · subst e
      rw [pk_us, if_pos ⟨rfl, hb⟩]
      rfl
    · rw [pk_un (fun q => e q.symm), h.1 x hx, if_neg (fun q => e q.1)]
  · rcases Nat.lt_or_ge f b with h2 | h2
    · rw [pk_un (by omega), pk_un (by omega)]
      exact h.2 f h2 h1
    · have e : f = b := by omega
      subst e
      rw [pk_us, pk_us]
      exact ⟨rfl, h.1 _ hX⟩
/-- forks of a level: the first blocks with unlike halves -/
def cf (lo up : Nat → Nat) : Nat → Nat
  | 0 => 0
  | n + 1 => cf lo up n + (fi lo up n && !decide (lo n = up n)).toNat
theorem cf_le (lo up : Nat → Nat) : ∀ n, cf lo up n ≤ n
  | 0 => Nat.le_refl 0
  | n + 1 => by
    have := cf_le lo up n
    have h : (fi lo up n && !decide (lo n = up n)).toNat ≤ 1 := by cases (fi lo up n && !decide (lo n = up n)) <;> decide
    show cf lo up n + (fi lo up n && !decide (lo n = up n)).toNat ≤ n + 1
    omega
/-- the kinds of the level with 2 ^ v blocks; of level N the points' values -/
def kl (g : Nat → Bool) (N : Nat) : Nat → Nat → Nat
  | 0 => fun p => (g p).toNat
  | d + 1 => fun b => kn (fun b => kl g N d (2 * b)) (fun b => kl g N d (2 * b + 1)) b
/-- forks from the last variable up, d variables done -/
def fc (g : Nat → Bool) (N : Nat) : Nat → Nat
  | 0 => 0
  | d + 1 => fc g N d + cf (fun b => kl g N d (2 * b)) (fun b => kl g N d (2 * b + 1)) (2 ^ (N - (d + 1)))
/-- two blocks are of one kind just if they are equal functions -/
theorem kl_eq (g : Nat → Bool) (N : Nat) : ∀ d a b, kl g N d a = kl g N d b ↔ ∀ i, i < 2 ^ d → g (a * 2 ^ d + i) = g (b * 2 ^ d + i)
  | 0, a, b => by
    show (g a).toNat = (g b).toNat ↔ _
    constructor
    · intro h i hi
      have : i = 0 := by rw [Nat.pow_zero] at hi; omega
      subst this
      rw [Nat.pow_zero, Nat.mul_one, Nat.mul_one, Nat.add_zero, Nat.add_zero]
      revert h
      cases g a <;> cases g b <;> simp
    · intro h
      have := h 0 (by decide)
      rw [Nat.pow_zero, Nat.mul_one, Nat.mul_one, Nat.add_zero, Nat.add_zero] at this
      rw [this]
  | d + 1, a, b => by
    show kn _ _ a = kn _ _ b ↔ _
    rw [kn_eq, kl_eq g N d, kl_eq g N d]
    have e : ∀ x : Nat, x * 2 ^ (d + 1) = 2 * x * 2 ^ d := fun x => by rw [Nat.pow_succ, Nat.mul_comm (2 ^ d) 2, ← Nat.mul_assoc, Nat.mul_comm x 2]
    have e2 : ∀ x : Nat, (2 * x + 1) * 2 ^ d = 2 * x * 2 ^ d + 2 ^ d := fun x => by rw [Nat.add_mul, Nat.one_mul]
    have e3 : 2 ^ (d + 1) = 2 ^ d + 2 ^ d := by rw [Nat.pow_succ]; omega
    rw [e, e]
    constructor
    · rintro ⟨h1, h2⟩ i hi
      rcases Nat.lt_or_ge i (2 ^ d) with h3 | h3
      · exact h1 i h3
      · have := h2 (i - 2 ^ d) (by omega)
        rw [e2, e2] at this
        rw [show 2 * a * 2 ^ d + i = 2 * a * 2 ^ d + 2 ^ d + (i - 2 ^ d) by omega, show 2 * b * 2 ^ d + i = 2 * b * 2 ^ d + 2 ^ d + (i - 2 ^ d) by omega]
        exact this
    · intro h
      refine ⟨fun i hi => h i (by omega), fun i hi => ?_⟩
      have := h (2 ^ d + i) (by omega)
      rw [e2, e2, Nat.add_assoc, Nat.add_assoc]
      exact this
theorem nI_z {n : Nat} (h : n < 2 ^ 31) (h0 : nI n ≤ 0) : n = 0 := by
  rcases Nat.eq_zero_or_pos n with e | e
  · exact e
  · exact absurd h0 (nI_nle e h)
theorem en_n {lo up : Nat → Nat} {x m : Nat} (hm : m < 2 ^ 31) (h : en (pv lo up x m) = -1) : pv lo up x m = none := by
  cases hp : pv lo up x m with
  | none => rfl
  | some f =>
    obtain ⟨h1, -⟩ := pv_some hp
    rw [hp] at h
    have h2 : nI f = -1 := h
    exact absurd (by rw [h2]; decide) (nI_pos (show f < 2 ^ 31 by omega))
theorem en_s {o : Option Nat} (h : ¬ en o = -1) : ∃ f, o = some f := by
  cases o with
  | none => exact absurd rfl h
  | some f => exact ⟨f, rfl⟩
theorem kn_no {lo up : Nat → Nat} {b : Nat} (h : ¬ kn lo up b = b) : fi lo up b = false := by
  cases hf : fi lo up b with
  | false => rfl
  | true => exact absurd (kn_fi.mpr hf) h
theorem cf_s (lo up : Nat → Nat) (n : Nat) : cf lo up (n + 1) = cf lo up n + (fi lo up n && !decide (lo n = up n)).toNat := rfl
theorem fc_s {g : Nat → Bool} {N v : Nat} (h : v + 1 ≤ N) : fc g N (N - (v + 1)) + cf (fun b => kl g N (N - (v + 1)) (2 * b)) (fun b => kl g N (N - (v + 1)) (2 * b + 1)) (2 ^ v) = fc g N (N - v) := by
  obtain ⟨d, hd⟩ : ∃ d, N - (v + 1) = d := ⟨_, rfl⟩
  have e : N - v = d + 1 := by omega
  rw [hd, e]
  show _ = fc g N d + cf _ _ (2 ^ (N - (d + 1)))
  rw [show N - (d + 1) = v by omega]
theorem kl_s {g : Nat → Bool} {N v : Nat} (h : v + 1 ≤ N) (i : Nat) : kn (fun b => kl g N (N - (v + 1)) (2 * b)) (fun b => kl g N (N - (v + 1)) (2 * b + 1)) i = kl g N (N - v) i := by
  obtain ⟨d, hd⟩ : ∃ d, N - (v + 1) = d := ⟨_, rfl⟩
  have e : N - v = d + 1 := by omega
  rw [hd, e]
  rfl
theorem kl_lt {g : Nat → Bool} {N v i : Nat} (h : v + 1 ≤ N) (hi : i < 2 ^ (v + 1)) : kl g N (N - (v + 1)) i < max 2 (2 ^ (N - 1)) := by
  cases hd : N - (v + 1) with
  | zero =>
    show (g i).toNat < _
    have : (g i).toNat ≤ 1 := by cases g i <;> decide
    exact Nat.lt_of_lt_of_le (by omega) (Nat.le_max_left 2 _)
  | succ d =>
    have h1 := kn_le (fun b => kl g N d (2 * b)) (fun b => kl g N d (2 * b + 1)) i
    have h2 : 2 ^ (v + 1) ≤ 2 ^ (N - 1) := Nat.pow_le_pow_right (by omega) (by omega)
    show kn _ _ i < _
    exact Nat.lt_of_lt_of_le (Nat.lt_of_le_of_lt h1 (by omega)) (Nat.le_max_right 2 _)
