/-! rows for constructors: arrays of a known class, the grid of 32 rows -/
section XC
variable {p : Program} {l : Launch} {e : Env} {R : Room} {s : State} {m : MethodId} {args : Array Value} {below : List Frame} {meth : Method} {c : Code} {H : Heap} {locs : List Loc} {cells slots : Nat} {Q : State → Prop}
variable {cc : ByteArray} {pc : Nat} {ls : Array Slot} {rest : List Value} {D : va_G} {cl : List vw_C} {A : Nat → Prop} {a : Nat} {tys : List (ClassId × FieldType)} {ws : va_W} {H0 : Heap}
theorem xc_newi (hexec : p.tables.exec = Jvm.exec) (hb : c.code = cc) (harr : (Cond.arrayClass .int).before args s = true) (hK : va_K D cl tys s) (t0 : Nat) {cI : ClassId} (ht : tys[t0]? = some (cI, .int)) (hP : va_P D cl ws H) (hD : va_D A ws) (hS : va_S A H0 H locs) (hA : ∀ q, H0.size ≤ q → A q) {n : Nat} (hn : n ≤ 1000000) (hcells : cells + 1 ≤ R.cells) (hslots : slots + n ≤ R.slots) (hdg : decode cc pc = .ok (.newarray .int, 2))
    (kk : ∀ (q : Nat) (H1 : Heap), va_P D cl (ws ++ [(q, .inl (cI, n, .inl (fun _ => 0)))]) H1 → va_D A (ws ++ [(q, .inl (cI, n, .inl (fun _ => 0)))]) → va_S A H0 H1 locs → W p l e R s m args below meth c H1 locs (cells + 1) (slots + n) Q (F0 m (pc + 2) ls (.ref q :: rest))) : W p l e R s m args below meth c H locs cells slots Q (F0 m pc ls (.int (nI n) :: rest)) := by
  refine va_newa (atype := .int) (ty := .int) (a0 := (n, .inl (fun _ => 0))) hexec hb harr rfl hK hP hD hS hA (fun _ => rfl) (nI_pos (by omega)) (nI_clamp (by omega)) (by show n * 4 ≤ 536870912; omega) hcells hslots hdg (fun q cA H1 hK1 hP1 hD1 hS1 => ?_)
  have e9 : cA = cI := by
    have h1 := (hK1.2 tys.length (cA, .int) (by simp)).2
    have h2 := (hK.2 t0 _ ht).2
    exact Option.some.inj (h1.symm.trans h2)
  subst e9
  exact kk q H1 hP1 hD1 hS1
theorem xc_newl (hexec : p.tables.exec = Jvm.exec) (hb : c.code = cc) (harr : (Cond.arrayClass .long).before args s = true) (hK : va_K D cl tys s) (t0 : Nat) {cI : ClassId} (ht : tys[t0]? = some (cI, .long)) (hP : va_P D cl ws H) (hD : va_D A ws) (hS : va_S A H0 H locs) (hA : ∀ q, H0.size ≤ q → A q) {n : Nat} (hn : n ≤ 1000000) (hcells : cells + 1 ≤ R.cells) (hslots : slots + n ≤ R.slots) (hdg : decode cc pc = .ok (.newarray .long, 2))
    (kk : ∀ (q : Nat) (H1 : Heap), va_P D cl (ws ++ [(q, .inl (cI, n, .inr (.inl (fun _ => 0))))]) H1 → va_D A (ws ++ [(q, .inl (cI, n, .inr (.inl (fun _ => 0))))]) → va_S A H0 H1 locs → W p l e R s m args below meth c H1 locs (cells + 1) (slots + n) Q (F0 m (pc + 2) ls (.ref q :: rest))) : W p l e R s m args below meth c H locs cells slots Q (F0 m pc ls (.int (nI n) :: rest)) := by
  refine va_newa (atype := .long) (ty := .long) (a0 := (n, .inr (.inl (fun _ => 0)))) hexec hb harr rfl hK hP hD hS hA (fun _ => rfl) (nI_pos (by omega)) (nI_clamp (by omega)) (by show n * 8 ≤ 536870912; omega) hcells hslots hdg (fun q cA H1 hK1 hP1 hD1 hS1 => ?_)
  have e9 : cA = cI := by
    have h1 := (hK1.2 tys.length (cA, .long) (by simp)).2
    have h2 := (hK.2 t0 _ ht).2
    exact Option.some.inj (h1.symm.trans h2)
  subst e9
  exact kk q H1 hP1 hD1 hS1
theorem xc_newz (hexec : p.tables.exec = Jvm.exec) (hb : c.code = cc) (harr : (Cond.arrayClass .boolean).before args s = true) (hK : va_K D cl tys s) (t0 : Nat) {cI : ClassId} (ht : tys[t0]? = some (cI, .boolean)) (hP : va_P D cl ws H) (hD : va_D A ws) (hS : va_S A H0 H locs) (hA : ∀ q, H0.size ≤ q → A q) {n : Nat} (hn : n ≤ 1000000) (hcells : cells + 1 ≤ R.cells) (hslots : slots + n ≤ R.slots) (hdg : decode cc pc = .ok (.newarray .boolean, 2))
    (kk : ∀ (q : Nat) (H1 : Heap), va_P D cl (ws ++ [(q, .inl (cI, n, .inl (bz (fun _ => false))))]) H1 → va_D A (ws ++ [(q, .inl (cI, n, .inl (bz (fun _ => false))))]) → va_S A H0 H1 locs → W p l e R s m args below meth c H1 locs (cells + 1) (slots + n) Q (F0 m (pc + 2) ls (.ref q :: rest))) : W p l e R s m args below meth c H locs cells slots Q (F0 m pc ls (.int (nI n) :: rest)) := by
  refine va_newa (atype := .boolean) (ty := .boolean) (a0 := (n, .inl (bz (fun _ => false)))) hexec hb harr rfl hK hP hD hS hA (fun _ => rfl) (nI_pos (by omega)) (nI_clamp (by omega)) (by show n * 1 ≤ 536870912; omega) hcells hslots hdg (fun q cA H1 hK1 hP1 hD1 hS1 => ?_)
  have e9 : cA = cI := by
    have h1 := (hK1.2 tys.length (cA, .boolean) (by simp)).2
    have h2 := (hK.2 t0 _ ht).2
    exact Option.some.inj (h1.symm.trans h2)
  subst e9
  exact kk q H1 hP1 hD1 hS1
theorem gw_pl {r : Nat → Nat} {cJ : ClassId} {n M : Nat} {f : Nat → va_E} {z : vp_A} (hz : z = (n, .inr (.inl (fun _ => 0)))) : va_pl ([] ++ (List.range M).map r) (vr_up f ((List.range M).map r) (.inl (cJ, z))) = gw r cJ n M (fun _ _ => 0) := by
  unfold va_pl gw
  rw [List.nil_append, List.map_map]
  apply List.map_congr_left
  intro i hi
  show (r i, vr_up f ((List.range M).map r) (.inl (cJ, z)) (r i)) = _
  rw [vr_up_in (List.mem_map.mpr ⟨i, hi, rfl⟩), hz]
theorem ref_cell {c : ClassId} {n : Nat} {f f' : Nat → Option Nat} (h : ∀ i, i < n → f i = f' i) : vp_cell c (n, .inr (.inr (.inr (.inr f)))) = vp_cell c (n, .inr (.inr (.inr (.inr f')))) := by
  rw [vp_cell_q, vp_cell_q]
  unfold arrV
  congr 2
  funext j
  show va_rf (f j.val) = va_rf (f' j.val)
  rw [h j.val j.isLt]
theorem xc_mna (hexec : p.tables.exec = Jvm.exec) (hb : c.code = cc) {own : String} {index : Nat} (hown : s.vm.findClass own = some m.cls) (hclink : (Cond.classLink own index "[[J").before args s = true) (hover : (Cond.arrayOver (.array .long)).before args s = true) (harr : (Cond.arrayClass .long).before args s = true)
    (hK : va_K D cl tys s) (t0 t1 : Nat) {cJJ cJ : ClassId} (h0 : tys[t0]? = some (cJJ, .array .long)) (h1 : tys[t1]? = some (cJ, .long)) (hP : va_P D cl ws H) (hD : va_D A ws) (hS : va_S A H0 H locs) (hA : ∀ q, H0.size ≤ q → A q) {n : Nat} (hn : n ≤ 64) (hcells : cells + (1 + 32) ≤ R.cells) (hslots : slots + (32 + 32 * n) ≤ R.slots) (hdg : decode cc pc = .ok (.multianewarray index 2, 4))
    (kk : ∀ (q : Nat) (r : Nat → Nat) (H1 : Heap), va_P D cl ((ws ++ [(q, .inl (cJJ, 32, .inr (.inr (.inr (.inr (fun k => some (r k)))))))]) ++ gw r cJ n 32 (fun _ _ => 0)) H1 → va_D A ((ws ++ [(q, .inl (cJJ, 32, .inr (.inr (.inr (.inr (fun k => some (r k)))))))]) ++ gw r cJ n 32 (fun _ _ => 0)) → va_S A H0 H1 locs →
      W p l e R s m args below meth c H1 locs (cells + 1 + 32) (slots + 32 + 32 * n) Q (F0 m (pc + 4) ls (.ref q :: rest))) : W p l e R s m args below meth c H locs cells slots Q (F0 m pc ls (.int (nI n) :: .int (nI 32) :: rest)) := by
  have hP0 : va_P D cl (ws ++ va_pl [] (fun _ => .inr (0, []))) H := by
    show va_P D cl (ws ++ []) H
    rw [List.append_nil]
    exact hP
  have hD0 : va_D A (ws ++ va_pl [] (fun _ => .inr (0, []))) := by
    show va_D A (ws ++ [])
    rw [List.append_nil]
    exact hD
  refine va_mna (ty := .long) (cy := cJ) (N' := 32) (K' := n) (z := (n, .inr (.inl (fun _ => 0)))) hexec hb hown hclink hover harr ((hK.2 t1 _ h1).2) hK hP0 hD0 hS hA (nI_pos (by omega)) (nI_pos (by omega)) (nI_clamp (by omega)) (nI_clamp (by omega)) (by omega) (by show n * 8 ≤ 536870912; omega) (by omega) rfl hcells hslots ?_ hdg (fun q r cA H1 hr1 hr2 hK1 hP1 hD1 hS1 => ?_)
  · intro c9
    show ({ cls := c9, slots := Array.replicate n (defaultValue .long), vm := .none } : Cell) = _
    rw [arrV_new]
    rfl
  · have e9 : cA = cJJ := by
      have h2 := (hK1.2 tys.length (cA, .array .long) (by simp)).2
      have h3 := (hK.2 t0 _ h0).2
      exact Option.some.inj (h2.symm.trans h3)
    subst e9
    rw [gw_pl rfl] at hP1 hD1
    refine kk q r H1 ?_ ?_ hS1
    · intro k x hx
      by_cases hk : k = ws.length
      · subst hk
        rw [List.getElem?_append_left (by simp), List.getElem?_append_right (Nat.le_refl _), Nat.sub_self] at hx
        cases hx
        have h5 := hP1 ws.length _ (by rw [List.getElem?_append_left (by simp), List.getElem?_append_right (Nat.le_refl _), Nat.sub_self]; rfl)
        have h6 : H1[q]? = some (vp_cell cA (32, .inr (.inr (.inr (.inr (fun i => if i < 32 then some (r i) else none)))))) := h5
        exact h6.trans (congrArg some (ref_cell (fun i hi => if_pos hi)))
      · refine hP1 k x ?_
        rcases Nat.lt_or_ge k (ws.length + 1) with h7 | h7
        · rw [List.getElem?_append_left (by simp; omega), List.getElem?_append_left (by omega)] at hx ⊢
          exact hx
        · rw [List.getElem?_append_right (by simp; omega)] at hx ⊢
          simpa using hx
    · refine ⟨fun i j p9 q9 hi hj hpq => ?_, fun k x hx => ?_⟩
      · have hl : ∀ (k : Nat) (x : Nat × va_E), ((ws ++ [(q, .inl (cA, 32, .inr (.inr (.inr (.inr (fun k => some (r k)))))))]) ++ gw r cJ n 32 (fun _ _ => 0))[k]? = some x → ∃ y : Nat × va_E, ((ws ++ [(q, .inl (cA, 32, .inr (.inr (.inr (.inr (fun i => if i < 32 then some (r i) else none))))))]) ++ gw r cJ n 32 (fun _ _ => 0))[k]? = some y ∧ y.1 = x.1 := fun k x hx => by
          by_cases hk : k = ws.length
          · subst hk
            rw [List.getElem?_append_left (by simp), List.getElem?_append_right (Nat.le_refl _), Nat.sub_self] at hx
            cases hx
            exact ⟨(q, .inl (cA, 32, .inr (.inr (.inr (.inr (fun i => if i < 32 then some (r i) else none)))))), by rw [List.getElem?_append_left (by simp), List.getElem?_append_right (Nat.le_refl _), Nat.sub_self]; rfl, rfl⟩
          · refine ⟨x, ?_, rfl⟩
            rcases Nat.lt_or_ge k (ws.length + 1) with h7 | h7
            · rw [List.getElem?_append_left (by simp; omega), List.getElem?_append_left (by omega)] at hx ⊢
              exact hx
            · rw [List.getElem?_append_right (by simp; omega)] at hx ⊢
              simpa using hx
        obtain ⟨y1, g1, g2⟩ := hl i p9 hi
        obtain ⟨y2, g3, g4⟩ := hl j q9 hj
        exact hD1.1 i j y1 y2 g1 g3 (by rw [g2, g4, hpq])
      · by_cases hk : k = ws.length
        · subst hk
          rw [List.getElem?_append_left (by simp), List.getElem?_append_right (Nat.le_refl _), Nat.sub_self] at hx
          cases hx
          exact hD1.2 ws.length (q, .inl (cA, 32, .inr (.inr (.inr (.inr (fun i => if i < 32 then some (r i) else none)))))) (by rw [List.getElem?_append_left (by simp), List.getElem?_append_right (Nat.le_refl _), Nat.sub_self]; rfl)
        · refine hD1.2 k x ?_
          rcases Nat.lt_or_ge k (ws.length + 1) with h7 | h7
          · rw [List.getElem?_append_left (by simp; omega), List.getElem?_append_left (by omega)] at hx ⊢
            exact hx
          · rw [List.getElem?_append_right (by simp; omega)] at hx ⊢
            simpa using hx
end XC
theorem va_AOA.moved {t : FieldType} {u U : State} (hvm : u.vm.Alike U.vm) (h : va_AOA t u) : va_AOA t U := by
  obtain ⟨comp, c, k, h1, h2, h3, h4, h5⟩ := arrayOverA_spec h
  obtain ⟨k', hk', he⟩ := hvm.2.2 _ _ h3
  have hi : (U.vm.classes.findIdx? fun (x : Class) => match x.kind with | .array component _ => component == comp | _ => false) = some c := by
    rw [hvm.findIdx?_eq _ (fun _ => rfl)]
    exact h2
  have hkind : k'.kind = .array comp (.array t) := by rw [he]; exact h4
  have f1 : U.vm.findClass (FieldType.array t).toString = some comp := by rw [hvm.findClass]; exact h1
  have f2 : U.vm.findClass ("[" ++ (FieldType.array t).toString) = some c := by rw [hvm.findClass]; exact h5
  unfold va_AOA Cond.before Cond.holds
  simp only [Cond.value]
  rw [f1, Option.bind_some]
  refine (congrArg (fun o : Option Nat => (o.bind (fun c => (U.vm.classes[c]?).map fun (k : Class) => match k.kind with | .array _ ty => decide (ty = FieldType.array t) && decide (U.vm.findClass ("[" ++ (FieldType.array t).toString) = some c) | _ => false) == some true)) hi).trans ?_
  simp [hk', hkind, f2]
/-- what the desk's constructor takes beside -/
def wp1 (D : va_G) (ws : va_W) (tys : List (ClassId × FieldType)) (A : Nat → Prop) (sz : Nat) (U : State) : Prop := wp0 D ws tys A sz U ∧ va_AOA .long U
theorem wp1_blind {D : va_G} {ws : va_W} {tys : List (ClassId × FieldType)} {A : Nat → Prop} {sz : Nat} {av : List Value} : FrameBlind (va_Pc av (wp1 D ws tys A sz)) := fun a U g mk q => by
  obtain ⟨q0, q1, q2⟩ := q
  obtain ⟨r0, r1⟩ := wp0_blind a U g mk ⟨q0, q1⟩
  exact ⟨r0, r1, q2.moved (Vm.Alike.refl U.vm)⟩
theorem wp1_of {D : va_G} {ws : va_W} {tys : List (ClassId × FieldType)} {A A0 : Nat → Prop} {s U : State} {H : Heap} {locs : List Loc} {av : List Value} (hP : va_P D vwCl ws H) (hK : va_K D vwCl tys s) (htb : tbl A0 s s.heap) (hS : va_S A0 s.heap H locs) (hB : ∀ q, A q → A0 q) (ho : va_AOA .long s) (hU : U.heap = H) (hW : s.WarmedH U.vm) : va_Pc av (wp1 D ws tys A H.size) av.toArray U := by
  obtain ⟨r0, r1⟩ := wp0_of (av := av) hP hK htb hS hB hU hW
  exact ⟨r0, r1, ho.moved hW.alike⟩
theorem mx_nI {x y : Nat} (hx : x < 2 ^ 31) (hy : y < 2 ^ 31) : (if nI x < nI y then nI y else nI x) = nI (max x y) := by
  by_cases h : x < y
  · rw [if_pos ((nI_ltI hx hy).mpr h), Nat.max_eq_right (Nat.le_of_lt h)]
  · rw [if_neg (fun q => h ((nI_ltI hx hy).mp q)), Nat.max_eq_left (Nat.not_lt.mp h)]
theorem mn_nI {x y : Nat} (hx : x < 2 ^ 31) (hy : y < 2 ^ 31) : (if nI y < nI x then nI y else nI x) = nI (min x y) := by
  by_cases h : y < x
  · rw [if_pos ((nI_ltI hy hx).mpr h), Nat.min_eq_right (Nat.le_of_lt h)]
  · rw [if_neg (fun q => h ((nI_ltI hy hx).mp q)), Nat.min_eq_left (Nat.not_lt.mp h)]
/-- N of the argument -/
def nOf (v : Int32) : Nat := if v < nI 1 then 1 else if nI 12 < v then 12 else ix v
theorem nOf_le (v : Int32) : 1 ≤ nOf v ∧ nOf v ≤ 12 := by
  unfold nOf
  by_cases h1 : v < nI 1
  · rw [if_pos h1]; omega
  · rw [if_neg h1]
    by_cases h2 : nI 12 < v
    · rw [if_pos h2]; omega
    · rw [if_neg h2]
      rcases pk_ix v (n := 13) (by decide) with h3 | h3 | ⟨j, hj, rfl⟩
      · exact absurd (Int32.lt_of_lt_of_le h3 (by decide : (0 : Int32) ≤ nI 1)) h1
      · exact absurd (Int32.lt_of_lt_of_le (by decide : nI 12 < nI 13) h3) h2
      · rw [ix_nI (by omega)]
        refine ⟨?_, by omega⟩
        rcases Nat.lt_or_ge j 1 with h4 | h4
        · exact absurd (nI_lt h4 (by omega)) h1
        · exact h4
theorem nOf_mid {v : Int32} (h1 : ¬ v < nI 1) (h2 : ¬ nI 12 < v) : v = nI (ix v) := by
  rcases pk_ix v (n := 13) (by decide) with h3 | h3 | ⟨j, hj, rfl⟩
  · exact absurd (Int32.lt_of_lt_of_le h3 (by decide : (0 : Int32) ≤ nI 1)) h1
  · exact absurd (Int32.lt_of_lt_of_le (by decide : nI 12 < nI 13) h3) h2
  · rw [ix_nI (by omega)]
/-- max(1, min(12, v)), as the class asks it -/
theorem nOf_mm (v : Int32) : (if nI 1 < (if v < nI 12 then v else nI 12) then (if v < nI 12 then v else nI 12) else nI 1) = nI (nOf v) := by
  unfold nOf
  by_cases h1 : v < nI 1
  · have h2 : v < nI 12 := Int32.lt_of_lt_of_le h1 (by decide)
    have h3 : ¬ nI 1 < v := fun q => by rw [Int32.lt_iff_toInt_lt] at q h1; omega
    rw [if_pos h1, if_pos h2, if_neg h3]
  · rw [if_neg h1]
    by_cases h4 : nI 12 < v
    · have h5 : ¬ v < nI 12 := fun q => by rw [Int32.lt_iff_toInt_lt] at q h4; omega
      rw [if_pos h4, if_neg h5, if_pos (by decide)]
    · rw [if_neg h4]
      obtain ⟨a1, a2⟩ := nOf_le v
      unfold nOf at a1 a2
      rw [if_neg h1, if_neg h4] at a1 a2
      have e := nOf_mid h1 h4
      generalize ix v = j at e a1 a2 ⊢
      subst e
      by_cases h6 : j < 12
      · rw [if_pos (nI_lt h6 (by omega))]
        by_cases h7 : 1 < j
        · rw [if_pos (nI_lt h7 (by omega))]
        · rw [if_neg (nI_nlt (by omega) (by omega)), show j = 1 by omega]
      · rw [if_neg (nI_nlt (by omega) (by omega)), if_pos (by decide), show j = 12 by omega]
