/-! the desk's cells: ad 0 the object, 1 registers, 2 draft, 3 reached, 4 tuples, 5 the counter, 6 kinds, 7 upperHalf, 8 before, 9 latest, 10 + k row k -/
abbrev nh (N : Nat) : Nat := 2 ^ (N - 1)
abbrev nm (N : Nat) : Nat := max 2 (2 ^ (N - 1))
abbrev dkF (N : Nat) (ad : Nat → Nat) : List Value := [.int (nI N), .int (nI (2 ^ N)), .int (nI (nw N)), .int (nI (pw N)), .long (ao N), .ref (ad 1), .ref (ad 2), .ref (ad 3), .ref (ad 4), .ref (ad 5)]
abbrev dkG (N : Nat) (ad : Nat → Nat) : List Value := [.int (nI N), .ref (ad 6), .ref (ad 7), .ref (ad 8), .ref (ad 9)]
abbrev dkX (N : Nat) (ad : Nat → Nat) (cJJ cJ cI : ClassId) (dr re : Nat → Int64) (tu kd uh bf la : Nat → Int32) : va_W :=
  [(ad 0, .inr (1, dkF N ad)), (ad 1, .inl (cJJ, 32, .inr (.inr (.inr (.inr (fun k => some (ad (10 + k)))))))), (ad 2, .inl (cJ, nw N, .inr (.inl dr))), (ad 3, .inl (cJ, nw N, .inr (.inl re))), (ad 4, .inl (cI, pw N, .inl tu)),
   (ad 5, .inr (0, dkG N ad)), (ad 6, .inl (cI, 2 ^ N, .inl kd)), (ad 7, .inl (cI, nh N, .inl uh)), (ad 8, .inl (cI, nh N, .inl bf)), (ad 9, .inl (cI, nm N, .inl la))]
abbrev dkW (N : Nat) (ad : Nat → Nat) (cJJ cJ cI : ClassId) (dr re : Nat → Int64) (tu kd uh bf la : Nat → Int32) (G : Nat → Nat → Int64) : va_W :=
  dkX N ad cJJ cJ cI dr re tu kd uh bf la ++ gw (fun k => ad (10 + k)) cJ (nw N) 32 G
abbrev dkT (cJJ cJ cI : ClassId) : List (ClassId × FieldType) := [(cJJ, .array .long), (cJ, .long), (cI, .int)]
theorem dk_row {N : Nat} {ad : Nat → Nat} {cJJ cJ cI : ClassId} {dr re : Nat → Int64} {tu kd uh bf la : Nat → Int32} {G : Nat → Nat → Int64} {k : Nat} (hk : k < 32) : (dkW N ad cJJ cJ cI dr re tu kd uh bf la G)[10 + k]? = some (ad (10 + k), .inl (cJ, nw N, .inr (.inl (G k)))) :=
  gw_get (X := dkX N ad cJJ cJ cI dr re tu kd uh bf la) (ra := fun k => ad (10 + k)) hk
theorem dk_set {N : Nat} {ad : Nat → Nat} {cJJ cJ cI : ClassId} {dr re : Nat → Int64} {tu kd uh bf la : Nat → Int32} {G : Nat → Nat → Int64} {k : Nat} (r : Nat → Int64) (hk : k < 32) : (dkW N ad cJJ cJ cI dr re tu kd uh bf la G).set (10 + k) (ad (10 + k), .inl (cJ, nw N, .inr (.inl r))) = dkW N ad cJJ cJ cI dr re tu kd uh bf la (va_up G k r) :=
  gw_set (X := dkX N ad cJJ cJ cI dr re tu kd uh bf la) (ra := fun k => ad (10 + k)) r hk
/-- the addresses: apart, and in A -/
def aok (A : Nat → Prop) (ad : Nat → Nat) : Prop := (∀ i j, i < 42 → j < 42 → ad i = ad j → i = j) ∧ ∀ i, i < 42 → A (ad i)
/-- what a call on the desk may change: its cells, and what is new -/
def fr (ad : Nat → Nat) (sz : Nat) : Nat → Prop := fun q => (∃ i, i < 42 ∧ q = ad i) ∨ sz ≤ q
theorem aok_fr {A : Nat → Prop} {ad : Nat → Nat} {sz : Nat} (h : aok A ad) : aok (fr ad sz) ad := ⟨h.1, fun i hi => Or.inl ⟨i, hi, rfl⟩⟩
theorem fr_in {A : Nat → Prop} {ad : Nat → Nat} {H0 H : Heap} {locs : List Loc} (h : aok A ad) (hS : va_S A H0 H locs) (hA : ∀ q, H0.size ≤ q → A q) : ∀ q, fr ad H.size q → A q := by
  intro q hq
  rcases hq with ⟨i, hi, rfl⟩ | hq
  · exact h.2 i hi
  · exact hA q (Nat.le_trans hS.1 hq)
theorem fr_new {ad : Nat → Nat} {sz : Nat} : ∀ q, sz ≤ q → fr ad sz q := fun _ h => Or.inr h
/-- every cell of the desk lies at one of the addresses -/
theorem dk_adr {N : Nat} {ad : Nat → Nat} {cJJ cJ cI : ClassId} {dr re : Nat → Int64} {tu kd uh bf la : Nat → Int32} {G : Nat → Nat → Int64} {k : Nat} {q : Nat × va_E} (h : (dkW N ad cJJ cJ cI dr re tu kd uh bf la G)[k]? = some q) : k < 42 ∧ q.1 = ad k := by
  have hl : k < 42 := by
    have h1 := (List.getElem?_eq_some_iff.mp h).1
    simpa [dkW, dkX, gw] using h1
  refine ⟨hl, ?_⟩
  rcases Nat.lt_or_ge k 10 with h10 | h10
  · match k, h10, h with
    | 0, _, h => cases h; rfl
    | 1, _, h => cases h; rfl
    | 2, _, h => cases h; rfl
    | 3, _, h => cases h; rfl
    | 4, _, h => cases h; rfl
    | 5, _, h => cases h; rfl
    | 6, _, h => cases h; rfl
    | 7, _, h => cases h; rfl
    | 8, _, h => cases h; rfl
    | 9, _, h => cases h; rfl
    | k + 10, h10, _ => exact absurd h10 (by omega)
  · obtain ⟨j, rfl⟩ : ∃ j, k = 10 + j := ⟨k - 10, by omega⟩
    rw [dk_row (by omega)] at h
    cases h
    rfl
theorem dk_D {A : Nat → Prop} {N : Nat} {ad : Nat → Nat} {cJJ cJ cI : ClassId} {dr re : Nat → Int64} {tu kd uh bf la : Nat → Int32} {G : Nat → Nat → Int64} (h : aok A ad) : va_D A (dkW N ad cJJ cJ cI dr re tu kd uh bf la G) :=
  ⟨fun i j p q hi hj e => by
    obtain ⟨a1, a2⟩ := dk_adr hi
    obtain ⟨b1, b2⟩ := dk_adr hj
    exact h.1 i j a1 b1 (by rw [← a2, ← b2, e]), fun k q hk => by
    obtain ⟨a1, a2⟩ := dk_adr hk
    rw [a2]
    exact h.2 k a1⟩
/-- one cell of a world, alone -/
theorem va_one {D : va_G} {cl : List vw_C} {ws : va_W} {H : Heap} (h : va_P D cl ws H) (i : Nat) {x : Nat × va_E} (hi : ws[i]? = some x) : va_P D cl [x] H := fun k q hk => by
  have h0 : k < 1 := (List.getElem?_eq_some_iff.mp hk).1
  rw [show k = 0 by omega] at hk
  cases hk
  exact h i x hi
/-- one cell of a world has changed -/
theorem va_put1 {A : Nat → Prop} {D : va_G} {cl : List vw_C} {ws : va_W} {H H1 : Heap} {a : Nat} {e0 e : va_E} (h : va_P D cl ws H) (hD : va_D A ws) (i : Nat) (hi : ws[i]? = some (a, e0)) (hq : ∀ q : Nat, q < H.size → ¬ (q = a) → H1[q]? = H[q]?) (h1 : va_P D cl [(a, e)] H1) : va_P D cl (ws.set i (a, e)) H1 := by
  intro k q hk
  rw [List.getElem?_set] at hk
  by_cases hik : i = k
  · subst hik
    rw [if_pos rfl] at hk
    have hl : i < ws.length := (List.getElem?_eq_some_iff.mp hi).1
    rw [if_pos hl] at hk
    cases hk
    exact h1 0 _ rfl
  · rw [if_neg hik] at hk
    have hne : q.1 ≠ a := fun e9 => hik (hD.1 i k _ _ hi hk e9.symm)
    exact (h k q hk).kept (hq q.1 ((h k q hk).lt) hne)
/-- the table of places, as a static; and the counter's link to its nest mate's valueAt -/
def tbl (A : Nat → Prop) (U : State) (H : Heap) : Prop := (∃ t : Nat, va_Z "ForkDesk" "PLACES_WITH_BIT" "[J" (.ref t) A U H ∧ va_T .long t 6 (fun j => .long (pwb j)) A U H) ∧ va_Nw (.methodLinkNest RX0 34 yX1_valueAt "ForkDesk") U
theorem tbl.to {A B : Nat → Prop} {s U : State} {H : Heap} {locs : List Loc} (h : tbl A s s.heap) (hS : va_S A s.heap H locs) (hB : ∀ q, B q → A q) (hW : s.WarmedH U.vm) : tbl B U H := by
  obtain ⟨⟨t, h1, h2⟩, h3⟩ := h
  exact ⟨⟨t, ((h1.kept hS.2.1).narrow hB).moved hW.alike, ((h2.kept hS.2.1).narrow hB).moved hW.alike⟩, va_Nw.warmM hW h3⟩
theorem nh_le {N : Nat} (h1 : 1 ≤ N) (h : N ≤ 12) : nh N ≤ 2048 := Nat.le_trans (Nat.pow_le_pow_right (by omega) (show N - 1 ≤ 11 by omega)) (by decide)
theorem nm_le {N : Nat} (h1 : 1 ≤ N) (h : N ≤ 12) : nm N ≤ 2048 := Nat.max_le.mpr ⟨by decide, nh_le h1 h⟩
theorem np_nh {N : Nat} (h1 : 1 ≤ N) : 2 ^ N = 2 * nh N := by
  have e : N = (N - 1) + 1 := by omega
  show 2 ^ N = 2 * 2 ^ (N - 1)
  conv => lhs; rw [e, Nat.pow_succ]
  omega
