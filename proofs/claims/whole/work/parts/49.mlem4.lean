/-! forks, as the reference counts: level by level, the starts of the different blocks with unlike halves kept in parts -/
def lof9 (g : Nat → Bool) (N d : Nat) : Nat → Nat := fun b => kl g N d (2 * b)
def upf9 (g : Nat → Bool) (N d : Nat) : Nat → Nat := fun b => kl g N d (2 * b + 1)
def fsm (g : Nat → Bool) (N : Nat) : Nat → Nat
  | 0 => 0
  | v + 1 => fsm g N v + cf (lof9 g N (N - (v + 1))) (upf9 g N (N - (v + 1))) (2 ^ v)
theorem fsm_fc (g : Nat → Bool) (N : Nat) : ∀ v, v ≤ N → fc g N (N - v) + fsm g N v = fc g N N
  | 0, _ => rfl
  | v + 1, h => by
    have ih := fsm_fc g N v (by omega)
    have e := fc_s (g := g) (N := N) (v := v) h
    show fc g N (N - (v + 1)) + (fsm g N v + cf (lof9 g N (N - (v + 1))) (upf9 g N (N - (v + 1))) (2 ^ v)) = _
    rw [← ih, ← e]
    unfold lof9 upf9
    omega
/-- the parts kept, b blocks done -/
def pok (lo up : Nat → Nat) (Sz b mn : Nat) (pt : Nat → Int32) : Prop := (∀ x, x < mn → ∃ f, f < b ∧ pt x = nI (f * Sz) ∧ fi lo up f = true ∧ ¬ lo f = up f) ∧ ∀ f, f < b → fi lo up f = true → ¬ lo f = up f → ∃ x, x < mn ∧ pt x = nI (f * Sz)
theorem pok_0 (lo up : Nat → Nat) (Sz : Nat) (pt : Nat → Int32) : pok lo up Sz 0 0 pt := ⟨fun x hx => absurd hx (by omega), fun f hf => absurd hf (by omega)⟩
theorem pok_old {lo up : Nat → Nat} {Sz b mn : Nat} {pt : Nat → Int32} (h : pok lo up Sz b mn pt) (hb : ¬ (fi lo up b = true ∧ ¬ lo b = up b)) : pok lo up Sz (b + 1) mn pt := ⟨fun x hx => by
    obtain ⟨f, h1, h2⟩ := h.1 x hx
    exact ⟨f, by omega, h2⟩, fun f hf h1 h2 => by
    rcases Nat.lt_or_ge f b with h3 | h3
    · exact h.2 f h3 h1 h2
    · have e : f = b := by omega
      subst e
      exact absurd ⟨h1, h2⟩ hb⟩
theorem pok_new {lo up : Nat → Nat} {Sz b mn : Nat} {pt : Nat → Int32} (h : pok lo up Sz b mn pt) (h1 : fi lo up b = true) (h2 : ¬ lo b = up b) : pok lo up Sz (b + 1) (mn + 1) (upd pt mn (nI (b * Sz))) := ⟨fun x hx => by
    by_cases e : x = mn
    · subst e
      exact ⟨b, by omega, pk_us, h1, h2⟩
    · obtain ⟨f, h3, h4, h5⟩ := h.1 x (by omega)
      exact ⟨f, by omega, by rw [pk_un e]; exact h4, h5⟩, fun f hf h3 h4 => by
    rcases Nat.lt_or_ge f b with h5 | h5
    · obtain ⟨x, h6, h7⟩ := h.2 f h5 h3 h4
      exact ⟨x, by omega, by rw [pk_un (by omega)]; exact h7⟩
    · have e : f = b := by omega
      subst e
      exact ⟨mn, by omega, pk_us⟩⟩
theorem cf_old {lo up : Nat → Nat} {b : Nat} (hb : ¬ (fi lo up b = true ∧ ¬ lo b = up b)) : cf lo up (b + 1) = cf lo up b := by
  rw [cf_s, show (fi lo up b && !decide (lo b = up b)) = false from ?_]
  · rfl
  · cases hf : fi lo up b with
    | false => rfl
    | true =>
      by_cases h : lo b = up b
      · rw [decide_eq_true h]; rfl
      · exact absurd ⟨hf, h⟩ hb
theorem cf_new {lo up : Nat → Nat} {b : Nat} (h1 : fi lo up b = true) (h2 : ¬ lo b = up b) : cf lo up (b + 1) = cf lo up b + 1 := by
  rw [cf_s, h1, decide_eq_false h2]; rfl
/-- halves, and blocks -/
theorem alk_half {N d j b Sz Hf fv : Nat} {rb : Nat → Bool} {g : Nat → Nat → Bool} (hg : okM N rb g) (hj : j < 32) (hHf : 2 ^ d = Hf) (hSz : Sz = 2 * Hf) (hfv : fv = b * Sz) (hle : fv + Sz ≤ 2 ^ N) : alk rb (4096 * j + fv) (4096 * j + (fv + (Sz / 2))) (Sz / 2) = true ↔ lof9 (g j) N d b = upf9 (g j) N d b := by
  have e2 : Sz / 2 = Hf := by omega
  have e3 : 2 * b * Hf = fv := by rw [hfv, hSz, Nat.mul_comm 2 b, Nat.mul_assoc]
  have e4 : (2 * b + 1) * Hf = fv + Hf := by rw [Nat.succ_mul, e3]
  unfold lof9 upf9
  rw [kl_eq, alk_iff, e2, hHf, e3, e4]
  constructor
  · intro h i hi
    have := h i hi
    rw [Nat.add_assoc, Nat.add_assoc, hg j _ hj (by omega), hg j _ hj (by omega)] at this
    exact this
  · intro h i hi
    rw [Nat.add_assoc, Nat.add_assoc, hg j _ hj (by omega), hg j _ hj (by omega)]
    exact h i hi
theorem alk_full {N d j f b Sz Hf fv : Nat} {rb : Nat → Bool} {g : Nat → Nat → Bool} (hg : okM N rb g) (hj : j < 32) (hHf : 2 ^ d = Hf) (hSz : Sz = 2 * Hf) (hfv : fv = b * Sz) (hle : fv + Sz ≤ 2 ^ N) (hlf : f * Sz + Sz ≤ 2 ^ N) : alk rb (4096 * j + f * Sz) (4096 * j + fv) Sz = true ↔ lof9 (g j) N d f = lof9 (g j) N d b ∧ upf9 (g j) N d f = upf9 (g j) N d b := by
  have e1 : 2 ^ (d + 1) = Sz := by rw [Nat.pow_succ, hHf, hSz, Nat.mul_comm]
  have e2 := kl_eq (g j) N (d + 1) f b
  have e3 : kl (g j) N (d + 1) f = kl (g j) N (d + 1) b ↔ lof9 (g j) N d f = lof9 (g j) N d b ∧ upf9 (g j) N d f = upf9 (g j) N d b := kn_eq
  rw [← e3, e2, alk_iff, e1, ← hfv]
  constructor
  · intro h i hi
    have := h i hi
    rw [Nat.add_assoc, Nat.add_assoc, hg j _ hj (by omega), hg j _ hj (by omega)] at this
    exact this
  · intro h i hi
    rw [Nat.add_assoc, Nat.add_assoc, hg j _ hj (by omega), hg j _ hj (by omega)]
    exact h i hi
theorem fi_dup {lo up : Nat → Nat} {f b : Nat} (hf : f < b) (h : lo f = lo b ∧ up f = up b) : ¬ fi lo up b = true := fun hb => ks_none (fi_t hb) f hf h
theorem fi_all {lo up : Nat → Nat} {Sz b mn : Nat} {pt : Nat → Int32} (hp : pok lo up Sz b mn pt) (hne : ¬ lo b = up b) (hno : ∀ y, y < mn → ∀ f, f < b → pt y = nI (f * Sz) → ¬ (lo f = lo b ∧ up f = up b)) : fi lo up b = true := by
  cases hb : fi lo up b with
  | true => rfl
  | false =>
    cases hk : ks lo up (lo b) (up b) b with
    | none => rw [fi_of hk] at hb; cases hb
    | some r =>
      obtain ⟨h1, h2, h3, h4⟩ := ks_some hk
      obtain ⟨x, h5, h6⟩ := hp.2 r h1 (fi_of (by rw [h2, h3]; exact h4)) (by rw [h2, h3]; exact hne)
      exact absurd ⟨h2, h3⟩ (hno x h5 r h1 h6)
theorem fs_inj {f f' Sz N : Nat} (hN : N ≤ 12) (h0 : 0 < Sz) (h1 : f * Sz + Sz ≤ 2 ^ N) (h2 : f' * Sz + Sz ≤ 2 ^ N) (h : nI (f * Sz) = nI (f' * Sz)) : f = f' := by
  have hnp := np_le hN
  have h3 := (nI_eq (by omega) (by omega)).mp h
  exact Nat.eq_of_mul_eq_mul_right h0 h3
theorem fs_le {f b Sz nb P : Nat} (hP : P = nb * Sz) (hf : f < b) (hb : b ≤ nb) : f * Sz + Sz ≤ P := by
  rw [hP, show f * Sz + Sz = (f + 1) * Sz by rw [Nat.succ_mul]]
  exact Nat.mul_le_mul_right _ (by omega)
