theorem nw_eq {N : Nat} : max 1 (2 ^ N / 64) = nw N := by
  unfold nw
  by_cases h : N ≤ 6
  · rw [if_pos h]
    have h1 : 2 ^ N ≤ 64 := Nat.le_trans (Nat.pow_le_pow_right (by omega) h) (by decide)
    exact Nat.max_eq_left (by omega)
  · rw [if_neg h]
    have e : 2 ^ N = 64 * 2 ^ (N - 6) := by
      conv => lhs; rw [show N = 6 + (N - 6) by omega, Nat.pow_add]
    have h1 : 0 < 2 ^ (N - 6) := Nat.two_pow_pos _
    rw [e, Nat.mul_div_cancel_left _ (by omega)]
    exact Nat.max_eq_right h1
theorem pw_eq {N : Nat} : min 64 (2 ^ N) = pw N := by
  unfold pw
  by_cases h : N ≤ 6
  · rw [if_pos h]
    exact Nat.min_eq_right (Nat.le_trans (Nat.pow_le_pow_right (by omega) h) (by decide))
  · rw [if_neg h]
    exact Nat.min_eq_left (Nat.le_trans (by decide : 64 ≤ 2 ^ 6) (Nat.pow_le_pow_right (by omega) (by omega)))
def adOf (h0 q1 q2 q3 q4 q5 : Nat) (u : Nat × Nat × Nat × Nat) (r : Nat → Nat) : Nat → Nat
  | 0 => h0
  | 1 => q1
  | 2 => q2
  | 3 => q3
  | 4 => q4
  | 5 => q5
  | 6 => u.1
  | 7 => u.2.1
  | 8 => u.2.2.1
  | 9 => u.2.2.2
  | k + 10 => r k
theorem adOf_r (h0 q1 q2 q3 q4 q5 : Nat) (u : Nat × Nat × Nat × Nat) (r : Nat → Nat) (k : Nat) : adOf h0 q1 q2 q3 q4 q5 u r (10 + k) = r k := by
  rw [Nat.add_comm]
  rfl
abbrev bigW (N : Nat) (ad r : Nat → Nat) (cJJ cJ cI : ClassId) (dr re : Nat → Int64) (tu kd uh bf la : Nat → Int32) (G : Nat → Nat → Int64) : va_W :=
  ([(ad 0, .inr (1, dkF N ad)), (ad 1, .inl (cJJ, 32, .inr (.inr (.inr (.inr (fun k => some (r k)))))))] ++ gw r cJ (nw N) 32 G) ++ [(ad 2, .inl (cJ, nw N, .inr (.inl dr))), (ad 3, .inl (cJ, nw N, .inr (.inl re))), (ad 4, .inl (cI, pw N, .inl tu)), (ad 5, .inr (0, dkG N ad)), (ad 6, .inl (cI, 2 ^ N, .inl kd)), (ad 7, .inl (cI, nh N, .inl uh)), (ad 8, .inl (cI, nh N, .inl bf)), (ad 9, .inl (cI, nm N, .inl la))]
theorem dk_ord {N : Nat} {ad r : Nat → Nat} {cJJ cJ cI : ClassId} {dr re : Nat → Int64} {tu kd uh bf la : Nat → Int32} {G : Nat → Nat → Int64} (hr : ∀ k, ad (10 + k) = r k) (k : Nat) (q : Nat × va_E) (hk : (dkW N ad cJJ cJ cI dr re tu kd uh bf la G)[k]? = some q) : (bigW N ad r cJJ cJ cI dr re tu kd uh bf la G)[if k < 2 then k else if k < 10 then k + 32 else k - 8]? = some q := by
  obtain ⟨h42, -⟩ := dk_adr hk
  have er : (fun k => some (ad (10 + k))) = (fun k => some (r k)) := funext fun k => by rw [hr]
  rcases Nat.lt_or_ge k 10 with h10 | h10
  · match k, h10, hk with
    | 0, _, hk => cases hk; rfl
    | 1, _, hk =>
      cases hk
      show some (ad 1, _) = some (ad 1, _)
      rw [er]
    | 2, _, hk => cases hk; rfl
    | 3, _, hk => cases hk; rfl
    | 4, _, hk => cases hk; rfl
    | 5, _, hk => cases hk; rfl
    | 6, _, hk => cases hk; rfl
    | 7, _, hk => cases hk; rfl
    | 8, _, hk => cases hk; rfl
    | 9, _, hk => cases hk; rfl
    | k + 10, h10, _ => exact absurd h10 (by omega)
  · obtain ⟨j, rfl⟩ : ∃ j, k = 10 + j := ⟨k - 10, by omega⟩
    rw [dk_row (by omega)] at hk
    cases hk
    rw [if_neg (by omega), if_neg (by omega), show 10 + j - 8 = 2 + j by omega]
    show ((_ ++ gw r cJ (nw N) 32 G) ++ _)[2 + j]? = _
    rw [List.getElem?_append_left (by simp [gw]; omega), hr j]
    exact gw_get (X := [(ad 0, .inr (1, dkF N ad)), (ad 1, .inl (cJJ, 32, .inr (.inr (.inr (.inr (fun k => some (r k)))))))]) (by omega)
theorem big_P {D : va_G} {H : Heap} {N : Nat} {ad r : Nat → Nat} {cJJ cJ cI : ClassId} {dr re : Nat → Int64} {tu kd uh bf la : Nat → Int32} {G : Nat → Nat → Int64} (hr : ∀ k, ad (10 + k) = r k) (h : va_P D vwCl (bigW N ad r cJJ cJ cI dr re tu kd uh bf la G) H) : va_P D vwCl (dkW N ad cJJ cJ cI dr re tu kd uh bf la G) H := h.by _ (dk_ord hr)
theorem big_D {A : Nat → Prop} {N : Nat} {ad r : Nat → Nat} {cJJ cJ cI : ClassId} {dr re : Nat → Int64} {tu kd uh bf la : Nat → Int32} {G : Nat → Nat → Int64} (hr : ∀ k, ad (10 + k) = r k) (h : va_D A (bigW N ad r cJJ cJ cI dr re tu kd uh bf la G)) : aok A ad := by
  have hD : va_D A (dkW N ad cJJ cJ cI dr re tu kd uh bf la G) := h.by _ (dk_ord hr) (fun i j hi hj e => by
    have h1 : i < 42 := by simpa [dkW, dkX, gw] using hi
    have h2 : j < 42 := by simpa [dkW, dkX, gw] using hj
    split at e <;> split at e <;> (try split at e) <;> (try split at e) <;> omega)
  have hx : ∀ i, i < 42 → ∃ e, (dkW N ad cJJ cJ cI dr re tu kd uh bf la G)[i]? = some (ad i, e) := fun i hi => by
    have hl : i < (dkW N ad cJJ cJ cI dr re tu kd uh bf la G).length := by simpa [dkW, dkX, gw] using hi
    have h9 := List.getElem?_eq_getElem hl
    obtain ⟨-, e9⟩ := dk_adr h9
    exact ⟨_, h9.trans (congrArg some (Prod.ext e9 rfl))⟩
  refine ⟨fun i j hi hj e => ?_, fun i hi => ?_⟩
  · obtain ⟨e1, h1⟩ := hx i hi
    obtain ⟨e2, h2⟩ := hx j hj
    exact hD.1 i j _ _ h1 h2 e
  · obtain ⟨e1, h1⟩ := hx i hi
    exact hD.2 i _ h1
