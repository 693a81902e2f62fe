/-! image: the points of the tuples, marked -/
def imB (g : Nat → Nat → Bool) (x0 m f x2 n y : Nat) : Bool := (List.range n).any (fun p => g x2 p && decide (tp g x0 p m * 2 ^ f = y))
theorem imB_iff {g : Nat → Nat → Bool} {x0 m f x2 n y : Nat} : imB g x0 m f x2 n y = true ↔ ∃ p, p < n ∧ g x2 p = true ∧ tp g x0 p m * 2 ^ f = y := by
  unfold imB
  rw [List.any_eq_true]
  constructor
  · rintro ⟨p, hp, h⟩
    rw [Bool.and_eq_true] at h
    exact ⟨p, List.mem_range.mp hp, h.1, of_decide_eq_true h.2⟩
  · rintro ⟨p, hp, h1, h2⟩
    exact ⟨p, List.mem_range.mpr hp, by rw [h1, decide_eq_true h2]; rfl⟩
theorem bool_iff {a b : Bool} (h : a = true ↔ b = true) : a = b := by
  cases a <;> cases b <;> simp_all
theorem tp_fb {N m t : Nat} (hm : m ≤ N) (h : t < 2 ^ m) : t * 2 ^ (N - m) < 2 ^ N := by
  have e : 2 ^ N = 2 ^ m * 2 ^ (N - m) := by rw [← Nat.pow_add]; congr 1; omega
  rw [e]
  exact Nat.mul_lt_mul_of_pos_right h (Nat.pow_pos (by omega))
theorem lb_one {j z : Nat} (hj : j < 64) (hz : z < 64) : lb ((1 : Int64) <<< ((nI j).toInt64 &&& 63)) z = decide (z = j) := by
  have h := lb_put (b := true) hj hz
  rw [Bool.and_true] at h
  exact h
theorem mks_lb {N : Nat} {wd : Int64} {tn : Nat → Nat} {f : Nat} {dr : Nat → Int64} (hlt : ∀ i, i < pw N → tn i * 2 ^ f < 2 ^ N) : ∀ i, i ≤ pw N → ∀ x z, x < nw N → z < 64 → (lb (mks wd tn f dr i x) z = true ↔ lb (dr x) z = true ∨ ∃ q, q < i ∧ lb wd q = true ∧ tn q * 2 ^ f = 64 * x + z)
  | 0, _, x, z, _, _ => ⟨Or.inl, fun h => h.elim id (fun ⟨q, hq, _⟩ => absurd hq (by omega))⟩
  | i + 1, hi, x, z, hx, hz => by
    have ih := mks_lb (wd := wd) (dr := dr) hlt i (by omega) x z hx hz
    cases hb : lb wd i with
    | false =>
      rw [mks_no hb, ih]
      constructor
      · rintro (h | ⟨q, h1, h2, h3⟩)
        · exact Or.inl h
        · exact Or.inr ⟨q, by omega, h2, h3⟩
      · rintro (h | ⟨q, h1, h2, h3⟩)
        · exact Or.inl h
        · rcases Nat.lt_or_ge q i with h4 | h4
          · exact Or.inr ⟨q, h4, h2, h3⟩
          · rw [show q = i by omega, hb] at h2; cases h2
    | true =>
      rw [mks_yes hb]
      have hm : tn i * 2 ^ f % 64 < 64 := Nat.mod_lt _ (by omega)
      by_cases hxe : x = tn i * 2 ^ f / 64
      · subst hxe
        rw [pk_uLs, lb_or, lb_one hm hz, Bool.or_eq_true, ih, decide_eq_true_eq]
        constructor
        · rintro ((h | ⟨q, h1, h2, h3⟩) | h)
          · exact Or.inl h
          · exact Or.inr ⟨q, by omega, h2, h3⟩
          · exact Or.inr ⟨i, by omega, hb, by rw [h, Nat.div_add_mod]⟩
        · rintro (h | ⟨q, h1, h2, h3⟩)
          · exact Or.inl (Or.inl h)
          · rcases Nat.lt_or_ge q i with h4 | h4
            · exact Or.inl (Or.inr ⟨q, h4, h2, h3⟩)
            · have e : q = i := by omega
              subst e
              exact Or.inr (by omega)
      · rw [pk_uLn hxe, ih]
        constructor
        · rintro (h | ⟨q, h1, h2, h3⟩)
          · exact Or.inl h
          · exact Or.inr ⟨q, by omega, h2, h3⟩
        · rintro (h | ⟨q, h1, h2, h3⟩)
          · exact Or.inl h
          · rcases Nat.lt_or_ge q i with h4 | h4
            · exact Or.inr ⟨q, h4, h2, h3⟩
            · have e : q = i := by omega
              subst e
              exact absurd (by omega) hxe
theorem im_skip {N : Nat} {g : Nat → Nat → Bool} {x0 m f x2 : Nat} {r : Nat → Int64} (h : rp (nw N) r (g x2)) {w : Nat} (hw : w < nw N) (h0 : r w = 0) {y : Nat} : imB g x0 m f x2 (64 * (w + 1)) y = imB g x0 m f x2 (64 * w) y := bool_iff (by
  rw [imB_iff, imB_iff]
  constructor
  · rintro ⟨p, h1, h2, h3⟩
    rcases Nat.lt_or_ge p (64 * w) with h4 | h4
    · exact ⟨p, h4, h2, h3⟩
    · have b1 := h w (p - 64 * w) hw (by omega)
      rw [h0, lb_0, show 64 * w + (p - 64 * w) = p by omega, h2] at b1
      cases b1
  · rintro ⟨p, h1, h2, h3⟩
    exact ⟨p, by omega, h2, h3⟩)
theorem im_mark {N : Nat} {g : Nat → Nat → Bool} {x0 m f x2 : Nat} {r : Nat → Int64} (h : rp (nw N) r (g x2) ∧ dm N (g x2)) {w : Nat} (hw : w < nw N) {dr : Nat → Int64} (hI : ∀ x z, x < nw N → z < 64 → lb (dr x) z = imB g x0 m f x2 (64 * w) (64 * x + z)) (hlt : ∀ i, i < pw N → tp g x0 (64 * w + i) m * 2 ^ f < 2 ^ N) :
    ∀ x z, x < nw N → z < 64 → lb (mks (r w) (fun i => tp g x0 (64 * w + i) m) f dr (pw N) x) z = imB g x0 m f x2 (64 * (w + 1)) (64 * x + z) := fun x z hx hz => bool_iff (by
  have hp := pw_le N
  rw [mks_lb hlt (pw N) (Nat.le_refl _) x z hx hz, hI x z hx hz, imB_iff, imB_iff]
  constructor
  · rintro (⟨p, h1, h2, h3⟩ | ⟨q, h1, h2, h3⟩)
    · exact ⟨p, by omega, h2, h3⟩
    · have b1 := h.1 w q hw (by omega)
      rw [h2] at b1
      exact ⟨64 * w + q, by omega, b1.symm, h3⟩
  · rintro ⟨p, h1, h2, h3⟩
    rcases Nat.lt_or_ge p (64 * w) with h4 | h4
    · exact Or.inl ⟨p, h4, h2, h3⟩
    · have e : p = 64 * w + (p - 64 * w) := by omega
      have hq : p - 64 * w < 64 := by omega
      have hlt2 : p < 2 ^ N := by
        rcases Nat.lt_or_ge p (2 ^ N) with h9 | h9
        · exact h9
        · rw [h.2 p h9] at h2; cases h2
      have b1 := h.1 w (p - 64 * w) hw hq
      rw [← e, h2] at b1
      refine Or.inr ⟨p - 64 * w, ?_, b1, by rw [← e]; exact h3⟩
      exact (nw_pt hw hq).mp (by rw [← e]; exact hlt2))
theorem im_end {N : Nat} {g : Nat → Nat → Bool} {x0 m f x2 : Nat} (h : dm N (g x2)) {y : Nat} : imB g x0 m f x2 (64 * nw N) y = imB g x0 m f x2 (2 ^ N) y := bool_iff (by
  rw [imB_iff, imB_iff]
  constructor
  · rintro ⟨p, h1, h2, h3⟩
    refine ⟨p, ?_, h2, h3⟩
    rcases Nat.lt_or_ge p (2 ^ N) with h9 | h9
    · exact h9
    · rw [h p h9] at h2; cases h2
  · rintro ⟨p, h1, h2, h3⟩
    refine ⟨p, ?_, h2, h3⟩
    have := (pt_nw h1).1
    omega)
theorem im_dm {N : Nat} {g : Nat → Nat → Bool} {x0 m x2 n : Nat} (hm : m ≤ N) : dm N (imB g x0 m (N - m) x2 n) := fun y hy => by
  cases hb : imB g x0 m (N - m) x2 n y with
  | false => rfl
  | true =>
    obtain ⟨p, -, -, h3⟩ := imB_iff.mp hb
    have := tp_fb hm (tp_lt g x0 p m)
    omega
theorem sgs_dm {N : Nat} {g : Nat → Bool} : ∀ {f : Nat}, f ≤ N → dm N g → dm N (sgs g f)
  | 0, _, h => h
  | f + 1, hf, h => sg_dm (by omega) (sgs_dm (by omega) h)
def spI (N : Nat) (g : Nat → Nat → Bool) (k f m c : Int32) : Option (Nat → Nat → Bool) := if (isR k && (isV N m && (arR f (ix m) && isR c))) = true then some (va_up g (ix k) (sgs (imB g (ix f) (ix m) (N - ix m) (ix c) (2 ^ N)) (N - ix m))) else none
