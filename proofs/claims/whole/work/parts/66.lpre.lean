/-! what holds at the law's entry, in the contracts' words -/
theorem lw_arr {s : State} {args : Array Value} {ty : FieldType} (h : (Cond.arrayClass ty).before args s = true) : ∃ cA : ClassId, ArrOfT s cA ty ∧ s.vm.findClass ("[" ++ ty.toString) = some cA := by
  obtain ⟨cA, kA, comp, h1, h2, h3⟩ := Cond.arrayClass_spec h
  exact ⟨cA, fun n z => ⟨fun k h => (by cases h), kA, h2, comp, h3⟩, h1⟩
theorem lw_arrA {s : State} {args : Array Value} {ty : FieldType} (h : (Cond.arrayOver (.array ty)).before args s = true) : ∃ cA : ClassId, ArrOfT s cA (.array ty) ∧ s.vm.findClass ("[" ++ (FieldType.array ty).toString) = some cA := by
  obtain ⟨comp, cA, kA, h1, h2, h3, h4, h5⟩ := arrayOverA_spec h
  exact ⟨cA, fun n z => ⟨fun k h => (by cases h), kA, h3, comp, h4⟩, h5⟩
set_option maxHeartbeats 4000000 in
set_option maxRecDepth 100000 in
theorem lw_K {s : State} {args : Array Value} (hts : ∀ w ∈ lw_tbl, w.before args s = true) : ∃ (D : va_G) (cJJ cJ cI cZ : ClassId), va_K D vwCl (lwT cJJ cJ cI cZ) s := by
  obtain ⟨c0, iS0, hKn0⟩ := u_known (C := RX0) (T := TX0) (N := 5) (n := 5) hts inL_X0 (hts (.instantiable RX0 5) (by decide +kernel))
  obtain ⟨c1, iS1, hKn1⟩ := u_known (C := RX1) (T := TX1) (N := 10) (n := 10) hts inL_X1 (hts (.instantiable RX1 10) (by decide +kernel))
  obtain ⟨c2, iS2, hKn2⟩ := u_known (C := RX2) (T := TX2) (N := 6) (n := 6) hts inL_X2 (hts (.instantiable RX2 6) (by decide +kernel))
  obtain ⟨cJJ, a1, a2⟩ := lw_arrA (hts (.arrayOver (.array .long)) (by decide +kernel))
  obtain ⟨cJ, b1, b2⟩ := lw_arr (hts (.arrayClass .long) (by decide +kernel))
  obtain ⟨cI, d1, d2⟩ := lw_arr (hts (.arrayClass .int) (by decide +kernel))
  obtain ⟨cZ, e1, e2⟩ := lw_arr (hts (.arrayClass .boolean) (by decide +kernel))
  refine ⟨(fun k => if k = 0 then c0 else if k = 1 then c1 else c2, fun k => if k = 0 then iS0 else if k = 1 then iS1 else iS2), cJJ, cJ, cI, cZ, ?_, ?_⟩
  · intro k q hq
    match k, hq with
    | 0, hq => cases hq; exact hKn0
    | 1, hq => cases hq; exact hKn1
    | 2, hq => cases hq; exact hKn2
    | k + 3, hq => simp [vwCl] at hq
  · intro k q hq
    match k, hq with
    | 0, hq => cases hq; exact ⟨a1, a2⟩
    | 1, hq => cases hq; exact ⟨b1, b2⟩
    | 2, hq => cases hq; exact ⟨d1, d2⟩
    | 3, hq => cases hq; exact ⟨e1, e2⟩
    | k + 4, hq => simp [lwT] at hq
set_option maxHeartbeats 4000000 in
set_option maxRecDepth 100000 in
theorem lw_tb {s : State} {args : Array Value} (hts : ∀ w ∈ lw_tbl, w.before args s = true) (hgv : (Jvm.Cond.and given_1 narrow_1).before args s = true) : tbl (fun q : Nat => s.heap.size ≤ q) s s.heap := by
  have hs := flat_of_before _ hgv
  have hA : ∀ a : Nat, a < s.heap.size → ¬ (fun q : Nat => s.heap.size ≤ q) a := fun a h => Nat.not_le.mpr h
  have harr : (Cond.arrayOf (.static "ForkDesk" "PLACES_WITH_BIT" "[J") .long).before args s = true := hs _ (by decide +kernel)
  have hlen : (Cond.eq (.length (.static "ForkDesk" "PLACES_WITH_BIT" "[J")) (.int 6)).before args s = true := hs _ (by decide +kernel)
  have h0 : (Cond.eq (.elem (.static "ForkDesk" "PLACES_WITH_BIT" "[J") (.int 0)) (.long (-6148914691236517206))).before args s = true := hs _ (by decide +kernel)
  have h1 : (Cond.eq (.elem (.static "ForkDesk" "PLACES_WITH_BIT" "[J") (.int 1)) (.long (-3689348814741910324))).before args s = true := hs _ (by decide +kernel)
  have h2 : (Cond.eq (.elem (.static "ForkDesk" "PLACES_WITH_BIT" "[J") (.int 2)) (.long (-1085102592571150096))).before args s = true := hs _ (by decide +kernel)
  have h3 : (Cond.eq (.elem (.static "ForkDesk" "PLACES_WITH_BIT" "[J") (.int 3)) (.long (-71777214294589696))).before args s = true := hs _ (by decide +kernel)
  have h4 : (Cond.eq (.elem (.static "ForkDesk" "PLACES_WITH_BIT" "[J") (.int 4)) (.long (-281470681808896))).before args s = true := hs _ (by decide +kernel)
  have h5 : (Cond.eq (.elem (.static "ForkDesk" "PLACES_WITH_BIT" "[J") (.int 5)) (.long (-4294967296))).before args s = true := hs _ (by decide +kernel)
  obtain ⟨t, ht, hT⟩ := va_Tof (f := fun j => .long (pwb j)) (N := 6) (A := fun q : Nat => s.heap.size ≤ q) (by decide) harr (va_eqt hlen) (fun j hj => by
    match j, hj with
    | 0, _ => exact va_eqtl h0
    | 1, _ => exact va_eqtl h1
    | 2, _ => exact va_eqtl h2
    | 3, _ => exact va_eqtl h3
    | 4, _ => exact va_eqtl h4
    | 5, _ => exact va_eqtl h5
    | j + 6, hj => exact absurd hj (by omega)) hA
  exact ⟨⟨t, va_Zref (hts (.laysStatic "ForkDesk" "PLACES_WITH_BIT" "[J") (by decide +kernel)) (hts (.initialized "ForkDesk") (by decide +kernel)) ht hA, hT⟩, va_Nw.of rfl (hts (.methodLinkNest RX0 34 yX1_valueAt "ForkDesk") (by decide +kernel))⟩
/-- nothing in the registers -/
theorem okG_0 (N : Nat) : okG N (fun _ _ => 0) (fun _ _ => false) := fun k hk => ⟨fun w i hw hi => by
  show (0 : Int64).toBitVec.getLsbD i = false
  simp, fun p hp => rfl⟩
theorem okM_0 (N : Nat) : okM N (fun _ => false) (fun _ _ => false) := fun _ _ _ _ => rfl
/-- the reference's addresses -/
def bdOf (q : Nat) (u : Nat × Nat × Nat) : Nat → Nat := fun i => match i with
  | 0 => q
  | 1 => u.1
  | 2 => u.2.1
  | _ => u.2.2
theorem mm_at (N q : Nat) (cZ cI : ClassId) (u : Nat × Nat × Nat) : ∀ i, i < 4 → ∃ x : va_E, (mmW N q cZ cI u)[i]? = some (bdOf q u i, x) := fun i hi => by
  match i, hi with
  | 0, _ => exact ⟨_, rfl⟩
  | 1, _ => exact ⟨_, rfl⟩
  | 2, _ => exact ⟨_, rfl⟩
  | 3, _ => exact ⟨_, rfl⟩
  | i + 4, h => exact absurd h (by omega)
theorem mm_ok {A : Nat → Prop} {N q : Nat} {cZ cI : ClassId} {u : Nat × Nat × Nat} (h : va_D A (mmW N q cZ cI u)) : aok4 A (bdOf q u) :=
  ⟨fun i j hi hj e => by
    obtain ⟨x, hx⟩ := mm_at N q cZ cI u i hi
    obtain ⟨y, hy⟩ := mm_at N q cZ cI u j hj
    exact h.1 i j _ _ hx hy e, fun i hi => by
    obtain ⟨x, hx⟩ := mm_at N q cZ cI u i hi
    exact h.2 i _ hx⟩
theorem mm_md (N q : Nat) (cZ cI : ClassId) (u : Nat × Nat × Nat) : mmW N q cZ cI u = mdW N (bdOf q u) cZ cI 0 (fun _ => false) (fun _ => false) (fun _ => 0) := rfl
/-- a world and one cell more -/
theorem P_fst {D : va_G} {cl : List vw_C} {ws : va_W} {x : Nat × va_E} {H : Heap} (h : va_P D cl (ws ++ [x]) H) : va_P D cl ws H := fun k q hk => h k q (by rw [List.getElem?_append_left (List.getElem?_eq_some_iff.mp hk).1]; exact hk)
theorem P_lst {D : va_G} {cl : List vw_C} {ws : va_W} {x : Nat × va_E} {H : Heap} (h : va_P D cl (ws ++ [x]) H) : va_P D cl [x] H := va_one h ws.length (by rw [List.getElem?_append_right (Nat.le_refl _), Nat.sub_self]; rfl)
theorem D_lst {A : Nat → Prop} {ws : va_W} {x : Nat × va_E} (h : va_D A (ws ++ [x])) : A x.1 := h.2 ws.length x (by rw [List.getElem?_append_right (Nat.le_refl _), Nat.sub_self]; rfl)
theorem D_ne {A : Nat → Prop} {ws : va_W} {x : Nat × va_E} (h : va_D A (ws ++ [x])) {k : Nat} {q : Nat × va_E} (hk : ws[k]? = some q) : q.1 ≠ x.1 := fun e => by
  have hl : k < ws.length := (List.getElem?_eq_some_iff.mp hk).1
  have := h.1 k ws.length q x (by rw [List.getElem?_append_left hl]; exact hk) (by rw [List.getElem?_append_right (Nat.le_refl _), Nat.sub_self]; rfl) e
  omega
theorem A_one {A : Nat → Prop} {q sz : Nat} {x : va_E} (h1 : A q) (h2 : ∀ a, sz ≤ a → A a) : ∀ a, va_A [(q, x)] sz a → A a := fun a h => by
  rcases h with ⟨k, e, hk⟩ | h
  · have hl : k < 1 := (List.getElem?_eq_some_iff.mp hk).1
    rw [show k = 0 by omega] at hk
    cases hk
    exact h1
  · exact h2 a h
/-- every address of the desk is one of its cells' -/
theorem dk_at (N : Nat) (ad : Nat → Nat) (cJJ cJ cI : ClassId) (dr re : Nat → Int64) (tu kd uh bf la : Nat → Int32) (G : Nat → Nat → Int64) : ∀ i, i < 42 → ∃ x : va_E, (dkW N ad cJJ cJ cI dr re tu kd uh bf la G)[i]? = some (ad i, x) := fun i hi => by
  have hl : i < (dkW N ad cJJ cJ cI dr re tu kd uh bf la G).length := by simpa [dkW, dkX, gw] using hi
  have h := List.getElem?_eq_getElem hl
  obtain ⟨h1, h2⟩ := dk_adr h
  exact ⟨_, by rw [h, ← h2]⟩
