set_option maxHeartbeats 4000000 in
set_option maxRecDepth 100000 in
/-- the reference: isRow -/
theorem c_isRow (l : Launch) (D : va_G) (sz : Nat) (k : Int32) : Met l yX2_isRow wsX2_isRow ({ frames := 0, cells := 0, slots := 0, locals := 0 } : Room) (va_Pc [.int k] (wp0 D [] [] (fun _ : Nat => False) sz)) (va_Qi (fun (r : Int32) (_ : Unit) => r = nI (isR k).toNat) (fun _ _ => True) (fun _ : Nat => False)) 0 0 (fun _ : Nat => False) := by
  refine Met.ofW (cc := cX2_isRow) (maxL := 1) (ret := (some .boolean)) (by decide) rfl ?_
  intro p e s m args below meth c s₁ B hml hv
  obtain ⟨rfl, hsz, hP, hK, htb⟩ := hv
  have hx := B.exec
  have hb := B.bytes
  have hr := B.returns
  have hts := atoms_spec (ws := wsX2_isRow) B.pre
  have hown : s.vm.findClass RX2 = some m.cls := findClass_of_methodNamed B.named
  have hlocks := B.notSynchronized
  subst hsz
  obtain ⟨⟨tt, hZ, hT⟩, hNst⟩ := id htb
  have hS : va_S (fun _ : Nat => False) s.heap s.heap [] := va_S.rf
  have hl := lv_entry ([.int k]) (n := 1) (Nat.le_of_ble_eq_true rfl)
  rw [lg_entry_eq]
  generalize (lg_sl ([.int k]) ++ List.replicate (1 - (lg_sl ([.int k])).length) Slot.unset).toArray = ls at hl ⊢
  have hl : lv_has ls 1 [(0, .int k)] := hl
  refine lv_iload_n hx hb dX2_isRow_0 rfl (lv_at hl 0 rfl) ?_
  refine lv_if_lt (tgt := 14) hx hb dX2_isRow_1 (by decide) (fun c_1 => ?_) (fun c_1 => ?_)
  · refine lv_iconst (v := nI 0) hx hb dX2_isRow_14 (by decide) ?_
    exact W.zret (v := (nI 0)) hx hb hr (by decide) (fun t ht hW => ⟨⟨(nI 0), (), rfl, (by rw [show isR k = false from decide_eq_false (fun q => by first | exact q.1 c_1 | exact q.2 c_7)]; rfl), trivial⟩, hS.F ht⟩) hS.2.2 dX2_isRow_15
  · refine lv_iload_n hx hb dX2_isRow_4 rfl (lv_at hl 0 rfl) ?_
    refine lv_bipush (v := nI 32) hx hb dX2_isRow_5 (by decide) ?_
    refine lv_icmp_ge (tgt := 14) hx hb dX2_isRow_7 (by decide) (fun c_7 => ?_) (fun c_7 => ?_)
    · refine lv_iconst (v := nI 0) hx hb dX2_isRow_14 (by decide) ?_
      exact W.zret (v := (nI 0)) hx hb hr (by decide) (fun t ht hW => ⟨⟨(nI 0), (), rfl, (by rw [show isR k = false from decide_eq_false (fun q => by first | exact q.1 c_1 | exact q.2 c_7)]; rfl), trivial⟩, hS.F ht⟩) hS.2.2 dX2_isRow_15
    · refine lv_iconst (v := nI 1) hx hb dX2_isRow_10 (by decide) ?_
      refine lv_goto (tgt := 15) hx hb dX2_isRow_11 (by decide) ?_
      exact W.zret (v := (nI 1)) hx hb hr (by decide) (fun t ht hW => ⟨⟨(nI 1), (), rfl, (by rw [show isR k = true from decide_eq_true ⟨c_1, c_7⟩]; rfl), trivial⟩, hS.F ht⟩) hS.2.2 dX2_isRow_15

set_option maxHeartbeats 4000000 in
set_option maxRecDepth 100000 in
/-- the reference: isVariable -/
theorem c_isVariableM (l : Launch) (D : va_G) (sz : Nat) (N : Nat) (bd : Nat → Nat) (th v : Int32) : Met l yX2_isVariable wsX2_isVariable ({ frames := 0, cells := 0, slots := 0, locals := 0 } : Room) (va_Pc [.ref (bd 0), .int v] (wp0 D [(bd 0, .inr (2, mdF N bd th))] [] (fun _ : Nat => False) sz)) (va_Qi (fun (r : Int32) (_ : Unit) => r = nI (isV N v).toNat) (fun _ _ => True) (fun _ : Nat => False)) 0 0 (fun _ : Nat => False) := by
  refine Met.ofW (cc := cX2_isVariable) (maxL := 2) (ret := (some .boolean)) (by decide) rfl ?_
  intro p e s m args below meth c s₁ B hml hv
  obtain ⟨rfl, hsz, hP, hK, htb⟩ := hv
  have hx := B.exec
  have hb := B.bytes
  have hr := B.returns
  have hts := atoms_spec (ws := wsX2_isVariable) B.pre
  have hown : s.vm.findClass RX2 = some m.cls := findClass_of_methodNamed B.named
  have hlocks := B.notSynchronized
  subst hsz
  obtain ⟨⟨tt, hZ, hT⟩, hNst⟩ := id htb
  have hS : va_S (fun _ : Nat => False) s.heap s.heap [] := va_S.rf
  have hl := lv_entry ([.ref (bd 0), .int v]) (n := 2) (Nat.le_of_ble_eq_true rfl)
  rw [lg_entry_eq]
  generalize (lg_sl ([.ref (bd 0), .int v]) ++ List.replicate (2 - (lg_sl ([.ref (bd 0), .int v])).length) Slot.unset).toArray = ls at hl ⊢
  have hl : lv_has ls 2 [(0, .ref (bd 0)), (1, .int v)] := hl
  refine lv_iload_n hx hb dX2_isVariable_0 rfl (lv_at hl 1 rfl) ?_
  refine lv_iconst (v := nI 1) hx hb dX2_isVariable_1 (by decide) ?_
  refine lv_icmp_lt (tgt := 17) hx hb dX2_isVariable_2 (by decide) (fun c_2 => ?_) (fun c_2 => ?_)
  · refine lv_iconst (v := nI 0) hx hb dX2_isVariable_17 (by decide) ?_
    exact W.zret (v := (nI 0)) hx hb hr (by decide) (fun t ht hW => ⟨⟨(nI 0), (), rfl, (by rw [show isV N v = false from decide_eq_false (fun q => by first | exact q.1 c_2 | exact q.2 c_10)]; rfl), trivial⟩, hS.F ht⟩) hS.2.2 dX2_isVariable_18
  · refine lv_iload_n hx hb dX2_isVariable_5 rfl (lv_at hl 1 rfl) ?_
    refine lv_aload_n hx hb dX2_isVariable_6 rfl (lv_at hl 0 rfl) ?_
    refine va_get (D := D) (ci := 2) (C := RX2) (T := TX2) (N := 6) hx hb hts (fun w h => List.mem_cons_of_mem _ (inBX2 w h)) hown hK hP 0 rfl rfl 1 (by decide) (hts (.fieldLink RX2 21 "ForkDeskModel" "n" "I") (by decide +kernel)) (fun _ h9 => h9) rfl dX2_isVariable_7 ?_
    refine lv_icmp_gt (tgt := 17) hx hb dX2_isVariable_10 (by decide) (fun c_10 => ?_) (fun c_10 => ?_)
    · refine lv_iconst (v := nI 0) hx hb dX2_isVariable_17 (by decide) ?_
      exact W.zret (v := (nI 0)) hx hb hr (by decide) (fun t ht hW => ⟨⟨(nI 0), (), rfl, (by rw [show isV N v = false from decide_eq_false (fun q => by first | exact q.1 c_2 | exact q.2 c_10)]; rfl), trivial⟩, hS.F ht⟩) hS.2.2 dX2_isVariable_18
    · refine lv_iconst (v := nI 1) hx hb dX2_isVariable_13 (by decide) ?_
      refine lv_goto (tgt := 18) hx hb dX2_isVariable_14 (by decide) ?_
      exact W.zret (v := (nI 1)) hx hb hr (by decide) (fun t ht hW => ⟨⟨(nI 1), (), rfl, (by rw [show isV N v = true from decide_eq_true ⟨c_2, c_10⟩]; rfl), trivial⟩, hS.F ht⟩) hS.2.2 dX2_isVariable_18

set_option maxHeartbeats 4000000 in
set_option maxRecDepth 100000 in
/-- the reference: has -/
theorem c_has (l : Launch) (D : va_G) (sz : Nat) (N : Nat) (bd : Nat → Nat) (cZ : ClassId) (th : Int32) (rb : Nat → Bool) (k p1 : Nat) (hi : 4096 * k + p1 < 131072) : Met l yX2_has wsX2_has ({ frames := 0, cells := 0, slots := 0, locals := 0 } : Room) (va_Pc [.ref (bd 0), .int (nI k), .int (nI p1)] (wp0 D [(bd 0, .inr (2, mdF N bd th)), (bd 1, .inl (cZ, 131072, .inl (bz rb)))] [(cZ, .boolean)] (fun _ : Nat => False) sz)) (va_Qi (fun (r : Int32) (_ : Unit) => r = nI (rb (4096 * k + p1)).toNat) (fun _ _ => True) (fun _ : Nat => False)) 0 0 (fun _ : Nat => False) := by
  refine Met.ofW (cc := cX2_has) (maxL := 3) (ret := (some .boolean)) (by decide) rfl ?_
  intro p e s m args below meth c s₁ B hml hv
  obtain ⟨rfl, hsz, hP, hK, htb⟩ := hv
  have hx := B.exec
  have hb := B.bytes
  have hr := B.returns
  have hts := atoms_spec (ws := wsX2_has) B.pre
  have hown : s.vm.findClass RX2 = some m.cls := findClass_of_methodNamed B.named
  have hlocks := B.notSynchronized
  subst hsz
  obtain ⟨⟨tt, hZ, hT⟩, hNst⟩ := id htb
  have hS : va_S (fun _ : Nat => False) s.heap s.heap [] := va_S.rf
  have hl := lv_entry ([.ref (bd 0), .int (nI k), .int (nI p1)]) (n := 3) (Nat.le_of_ble_eq_true rfl)
  rw [lg_entry_eq]
  generalize (lg_sl ([.ref (bd 0), .int (nI k), .int (nI p1)]) ++ List.replicate (3 - (lg_sl ([.ref (bd 0), .int (nI k), .int (nI p1)])).length) Slot.unset).toArray = ls at hl ⊢
  have hl : lv_has ls 3 [(0, .ref (bd 0)), (1, .int (nI k)), (2, .int (nI p1))] := hl
  refine lv_aload_n hx hb dX2_has_0 rfl (lv_at hl 0 rfl) ?_
  refine va_get (D := D) (ci := 2) (C := RX2) (T := TX2) (N := 6) hx hb hts (fun w h => List.mem_cons_of_mem _ (inBX2 w h)) hown hK hP 0 rfl rfl 3 (by decide) (hts (.fieldLink RX2 8 "ForkDeskModel" "rows" "[Z") (by decide +kernel)) (fun _ h9 => h9) rfl dX2_has_1 ?_
  refine lv_sipush (v := nI 4096) hx hb dX2_has_4 (by decide) ?_
  refine lv_iload_n hx hb dX2_has_7 rfl (lv_at hl 1 rfl) ?_
  refine xa_imul hx hb dX2_has_8 ?_
  refine lv_iload_n hx hb dX2_has_9 rfl (lv_at hl 2 rfl) ?_
  refine xa_iadd hx hb dX2_has_10 ?_
  refine xa_zald hx hb hK hP 1 0 rfl rfl (w := (4096 * k) + p1) (by omega) (by omega) dX2_has_11 ?_
  exact W.zret (v := (nI ((rb ((4096 * k) + p1)).toNat))) hx hb hr (nar_b _) (fun t ht hW => ⟨⟨(nI ((rb ((4096 * k) + p1)).toNat)), (), rfl, rfl, trivial⟩, hS.F ht⟩) hS.2.2 dX2_has_12

set_option maxHeartbeats 4000000 in
set_option maxRecDepth 100000 in
/-- the reference: value -/
theorem c_value (l : Launch) (D : va_G) (sz : Nat) (N : Nat) (hN : N ≤ 12) (bd : Nat → Nat) (th : Int32) (v p1 : Nat) (hv : v ≤ N) (hp : p1 < 2 ^ 31) : Met l yX2_value wsX2_value ({ frames := 0, cells := 0, slots := 0, locals := 0 } : Room) (va_Pc [.ref (bd 0), .int (nI v), .int (nI p1)] (wp0 D [(bd 0, .inr (2, mdF N bd th))] [] (fun _ : Nat => False) sz)) (va_Qi (fun (r : Int32) (_ : Unit) => r = nI (p1 / 2 ^ (N - v) % 2)) (fun _ _ => True) (fun _ : Nat => False)) 0 0 (fun _ : Nat => False) := by
  refine Met.ofW (cc := cX2_value) (maxL := 3) (ret := (some .int)) (by decide) rfl ?_
  intro p e s m args below meth c s₁ B hml hv
  obtain ⟨rfl, hsz, hP, hK, htb⟩ := hv
  have hx := B.exec
  have hb := B.bytes
  have hr := B.returns
  have hts := atoms_spec (ws := wsX2_value) B.pre
  have hown : s.vm.findClass RX2 = some m.cls := findClass_of_methodNamed B.named
  have hlocks := B.notSynchronized
  subst hsz
  obtain ⟨⟨tt, hZ, hT⟩, hNst⟩ := id htb
  have hS : va_S (fun _ : Nat => False) s.heap s.heap [] := va_S.rf
  have hl := lv_entry ([.ref (bd 0), .int (nI v), .int (nI p1)]) (n := 3) (Nat.le_of_ble_eq_true rfl)
  rw [lg_entry_eq]
  generalize (lg_sl ([.ref (bd 0), .int (nI v), .int (nI p1)]) ++ List.replicate (3 - (lg_sl ([.ref (bd 0), .int (nI v), .int (nI p1)])).length) Slot.unset).toArray = ls at hl ⊢
  have hl : lv_has ls 3 [(0, .ref (bd 0)), (1, .int (nI v)), (2, .int (nI p1))] := hl
  have hdiv : p1 / 2 ^ (N - v) ≤ p1 := Nat.div_le_self _ _
  refine lv_iload_n hx hb dX2_value_0 rfl (lv_at hl 2 rfl) ?_
  refine lv_aload_n hx hb dX2_value_1 rfl (lv_at hl 0 rfl) ?_
  refine va_get (D := D) (ci := 2) (C := RX2) (T := TX2) (N := 6) hx hb hts (fun w h => List.mem_cons_of_mem _ (inBX2 w h)) hown hK hP 0 rfl rfl 1 (by decide) (hts (.fieldLink RX2 21 "ForkDeskModel" "n" "I") (by decide +kernel)) (fun _ h9 => h9) rfl dX2_value_2 ?_
  refine lv_iload_n hx hb dX2_value_5 rfl (lv_at hl 1 rfl) ?_
  refine xa_isub hx hb (by omega) dX2_value_6 ?_
  refine xa_ishr hx hb (by omega) (by omega) dX2_value_7 ?_
  refine lv_iconst (v := nI 1) hx hb dX2_value_8 (by decide) ?_
  refine xa_iand1 hx hb (by omega) dX2_value_9 ?_
  exact W.iret (v := (nI ((p1 / 2 ^ (N - v)) % 2))) hx hb hr (fun t ht hW => ⟨⟨(nI ((p1 / 2 ^ (N - v)) % 2)), (), rfl, rfl, trivial⟩, hS.F ht⟩) hS.2.2 dX2_value_10

set_option maxHeartbeats 4000000 in
set_option maxRecDepth 100000 in
/-- the reference: keep -/
theorem c_keep (l : Launch) (D : va_G) (sz : Nat) (N : Nat) (hN1 : 1 ≤ N) (hN : N ≤ 12) (bd : Nat → Nat) (hao : aok4 (fun _ => True) bd) (cZ cI : ClassId) (th : Int32) (rb mb : Nat → Bool) (pt : Nat → Int32) (j : Nat) (hj : j < 32) : Met l yX2_keep wsX2_keep ({ frames := 0, cells := 0, slots := 0, locals := 0 } : Room) (va_Pc [.ref (bd 0), .int (nI j)] (wp0 D (mdW N bd cZ cI th rb mb pt) (mdT cZ cI) (fr4 bd sz) sz)) (va_Qi (fun (r : Int32) (u : Nat → Bool) => r = nI 1 ∧ u = kpt rb mb j (2 ^ N)) (fun (u : Nat → Bool) t => va_P D vwCl (mdW N bd cZ cI th u mb pt) t.heap) (fr4 bd sz)) 0 0 (fr4 bd sz) := by
  refine Met.ofW (cc := cX2_keep) (maxL := 3) (ret := (some .boolean)) (by decide) rfl ?_
  intro p e s m args below meth c s₁ B hml hv
  obtain ⟨rfl, hsz, hP, hK, htb⟩ := hv
  have hx := B.exec
  have hb := B.bytes
  have hr := B.returns
  have hts := atoms_spec (ws := wsX2_keep) B.pre
  have hown : s.vm.findClass RX2 = some m.cls := findClass_of_methodNamed B.named
  have hlocks := B.notSynchronized
  subst hsz
  generalize hAe : fr4 bd s.heap.size = A at htb ⊢
  have hA : ∀ q : Nat, s.heap.size ≤ q → A q := fun q h => by rw [← hAe]; exact fr4_new q h
  have hao : aok4 A bd := by rw [← hAe]; exact aok4_fr hao
  obtain ⟨⟨tt, hZ, hT⟩, hNst⟩ := id htb
  have hS : va_S A s.heap s.heap [] := va_S.rf
  have hl := lv_entry ([.ref (bd 0), .int (nI j)]) (n := 3) (Nat.le_of_ble_eq_true rfl)
  rw [lg_entry_eq]
  generalize (lg_sl ([.ref (bd 0), .int (nI j)]) ++ List.replicate (3 - (lg_sl ([.ref (bd 0), .int (nI j)])).length) Slot.unset).toArray = ls at hl ⊢
  have hl : lv_has ls 3 [(0, .ref (bd 0)), (1, .int (nI j))] := hl
  have hnp := np_le hN
  have hnp0 : 0 < 2 ^ N := Nat.two_pow_pos N
  refine lv_iconst (v := nI 0) hx hb dX2_keep_0 (by decide) ?_
  refine lv_istore_n (lv' := [(2, .int (nI 0)), (0, .ref (bd 0)), (1, .int (nI j))]) hx hb dX2_keep_1 rfl hl (by decide) rfl (fun ls hl => ?_)
  have lp_2 : ∀ (n9 w : Nat) (r2 : Nat → Bool) (H : Heap) (locs : List Loc) (ls : Array Slot), w ≤ 2 ^ N → 2 ^ N + 1 ≤ w + n9 → r2 = kpt rb mb j w → va_P D vwCl (mdW N bd cZ cI th r2 mb pt) H → va_S A s.heap H locs → lv_has ls 3 [(0, .ref (bd 0)), (1, .int (nI j)), (2, .int (nI w))] → W p l e (headSpec wsX2_keep ({ frames := 0, cells := 0, slots := 0, locals := 0 } : Room)).room s m ([.ref (bd 0), .int (nI j)] : List Value).toArray below meth c H locs 0 0 (MQ below (va_Qi (fun (r : Int32) (u : Nat → Bool) => r = nI 1 ∧ u = kpt rb mb j (2 ^ N)) (fun (u : Nat → Bool) t => va_P D vwCl (mdW N bd cZ cI th u mb pt) t.heap) A) ([.ref (bd 0), .int (nI j)] : List Value).toArray s 0 0 A) (F0 m 2 ls []) := by
    intro n9
    induction n9 with
    | zero => intro w r2 H locs ls h1 h2; exact absurd h2 (by omega)
    | succ n9 ih =>
      intro w r2 H locs ls hle_2 hmm_2 hI hP hS hl
      have ih_2 := @ih
      refine lv_iload_n hx hb dX2_keep_2 rfl (lv_at hl 2 rfl) ?_
      refine lv_aload_n hx hb dX2_keep_3 rfl (lv_at hl 0 rfl) ?_
      refine va_get (D := D) (ci := 2) (C := RX2) (T := TX2) (N := 6) hx hb hts (fun w h => List.mem_cons_of_mem _ (inBX2 w h)) hown hK hP 0 rfl rfl 2 (by decide) (hts (.fieldLink RX2 25 "ForkDeskModel" "points" "I") (by decide +kernel)) (fun _ h9 => h9) rfl dX2_keep_4 ?_
      refine xa_ge (tgt := 34) hx hb (by omega) (by omega) dX2_keep_7 (by decide) (fun c_7 => ?_) (fun c_7 => ?_)
      · refine lv_iconst (v := nI 1) hx hb dX2_keep_34 (by decide) ?_
        exact W.zret (v := (nI 1)) hx hb hr (by decide) (fun t ht hW => ⟨⟨(nI 1), r2, rfl, ⟨rfl, by rw [hI, show w = 2 ^ N by omega]⟩, (by show va_P _ _ _ _; rw [ht]; exact hP)⟩, hS.F ht⟩) hS.2.2 dX2_keep_35
      · refine lv_aload_n hx hb dX2_keep_10 rfl (lv_at hl 0 rfl) ?_
        refine va_get (D := D) (ci := 2) (C := RX2) (T := TX2) (N := 6) hx hb hts (fun w h => List.mem_cons_of_mem _ (inBX2 w h)) hown hK hP 0 rfl rfl 3 (by decide) (hts (.fieldLink RX2 8 "ForkDeskModel" "rows" "[Z") (by decide +kernel)) (fun _ h9 => h9) rfl dX2_keep_11 ?_
        refine lv_sipush (v := nI 4096) hx hb dX2_keep_14 (by decide) ?_
        refine lv_iload_n hx hb dX2_keep_17 rfl (lv_at hl 1 rfl) ?_
        refine xa_imul hx hb dX2_keep_18 ?_
        refine lv_iload_n hx hb dX2_keep_19 rfl (lv_at hl 2 rfl) ?_
        refine xa_iadd hx hb dX2_keep_20 ?_
        refine lv_aload_n hx hb dX2_keep_21 rfl (lv_at hl 0 rfl) ?_
        refine va_get (D := D) (ci := 2) (C := RX2) (T := TX2) (N := 6) hx hb hts (fun w h => List.mem_cons_of_mem _ (inBX2 w h)) hown hK hP 0 rfl rfl 4 (by decide) (hts (.fieldLink RX2 14 "ForkDeskModel" "made" "[Z") (by decide +kernel)) (fun _ h9 => h9) rfl dX2_keep_22 ?_
        refine lv_iload_n hx hb dX2_keep_25 rfl (lv_at hl 2 rfl) ?_
        refine xa_zald hx hb hK hP 2 0 rfl rfl (w := w) (by omega) (by omega) dX2_keep_26 ?_
        refine xa_zast hx hb hK hP (md_D hao) hS 1 0 rfl rfl (w := (4096 * j) + w) (b := (mb w)) (by omega) (by omega) dX2_keep_27 (fun H locs hP _ hS => ?_)
        have hP : va_P D vwCl (mdW N bd cZ cI th (va_up r2 ((4096 * j) + w) (mb w)) mb pt) H := hP
        refine xa_inc (k := 2) (lv' := [(2, .int (nI (w + 1))), (0, .ref (bd 0)), (1, .int (nI j))]) hx hb dX2_keep_28 hl rfl (by decide) rfl (fun ls hl => ?_)
        refine lv_goto (tgt := 2) hx hb dX2_keep_31 (by decide) ?_
        exact ih_2 (w + 1) (va_up r2 ((4096 * j) + w) (mb w)) _ _ _ (by omega) (by omega) (by subst hI; rfl) hP hS (lv_sub hl [1, 2, 0] rfl)
  exact lp_2 (2 ^ N + 1 - 0) 0 rb _ _ _ (by omega) (by omega) rfl hP hS (lv_sub hl [1, 2, 0] rfl)

set_option maxHeartbeats 4000000 in
set_option maxRecDepth 100000 in
/-- the reference: led -/
theorem c_led (l : Launch) (D : va_G) (sz : Nat) (N : Nat) (bd : Nat → Nat) (cZ : ClassId) (th : Int32) (rb : Nat → Bool) (x0 cn p1 : Nat) (h0 : x0 + cn ≤ 32) (hcn : cn ≤ 12) (hp : p1 < 4096) : Met l yX2_led wsX2_led ({ frames := 1, cells := 0, slots := 0, locals := 22 } : Room) (va_Pc [.ref (bd 0), .int (nI x0), .int (nI cn), .int (nI p1)] (wp0 D [(bd 0, .inr (2, mdF N bd th)), (bd 1, .inl (cZ, 131072, .inl (bz rb)))] [(cZ, .boolean)] (fun _ : Nat => False) sz)) (va_Qi (fun (r : Int32) (_ : Unit) => r = nI (tp (fun k p => rb (4096 * k + p)) x0 p1 cn)) (fun _ _ => True) (fun _ : Nat => False)) 0 0 (fun _ : Nat => False) := by
  refine Met.ofW (cc := cX2_led) (maxL := 6) (ret := (some .int)) (by decide) rfl ?_
  intro p e s m args below meth c s₁ B hml hv
  obtain ⟨rfl, hsz, hP, hK, htb⟩ := hv
  have hx := B.exec
  have hb := B.bytes
  have hr := B.returns
  have hts := atoms_spec (ws := wsX2_led) B.pre
  have hown : s.vm.findClass RX2 = some m.cls := findClass_of_methodNamed B.named
  have hlocks := B.notSynchronized
  subst hsz
  obtain ⟨⟨tt, hZ, hT⟩, hNst⟩ := id htb
  have hS : va_S (fun _ : Nat => False) s.heap s.heap [] := va_S.rf
  have hl := lv_entry ([.ref (bd 0), .int (nI x0), .int (nI cn), .int (nI p1)]) (n := 6) (Nat.le_of_ble_eq_true rfl)
  rw [lg_entry_eq]
  generalize (lg_sl ([.ref (bd 0), .int (nI x0), .int (nI cn), .int (nI p1)]) ++ List.replicate (6 - (lg_sl ([.ref (bd 0), .int (nI x0), .int (nI cn), .int (nI p1)])).length) Slot.unset).toArray = ls at hl ⊢
  have hl : lv_has ls 6 [(0, .ref (bd 0)), (1, .int (nI x0)), (2, .int (nI cn)), (3, .int (nI p1))] := hl
  refine lv_iconst (v := nI 0) hx hb dX2_led_0 (by decide) ?_
  refine lv_istore (lv' := [(4, .int (nI 0)), (0, .ref (bd 0)), (1, .int (nI x0)), (2, .int (nI cn)), (3, .int (nI p1))]) hx hb dX2_led_1 hl (by decide) rfl (fun ls hl => ?_)
  refine lv_iconst (v := nI 0) hx hb dX2_led_3 (by decide) ?_
  refine lv_istore (lv' := [(5, .int (nI 0)), (4, .int (nI 0)), (0, .ref (bd 0)), (1, .int (nI x0)), (2, .int (nI cn)), (3, .int (nI p1))]) hx hb dX2_led_4 hl (by decide) rfl (fun ls hl => ?_)
  have lp_6 : ∀ (n9 v1 : Nat) (to : Nat) (H : Heap) (locs : List Loc) (ls : Array Slot), v1 ≤ cn → cn + 1 ≤ v1 + n9 → to = tp (fun k p => rb (4096 * k + p)) x0 p1 v1 → va_P D vwCl ([(bd 0, .inr (2, mdF N bd th)), (bd 1, .inl (cZ, 131072, .inl (bz rb)))]) H → va_S (fun _ : Nat => False) s.heap H locs → lv_has ls 6 [(0, .ref (bd 0)), (1, .int (nI x0)), (2, .int (nI cn)), (3, .int (nI p1)), (4, .int (nI to)), (5, .int (nI v1))] → W p l e (headSpec wsX2_led ({ frames := 1, cells := 0, slots := 0, locals := 22 } : Room)).room s m ([.ref (bd 0), .int (nI x0), .int (nI cn), .int (nI p1)] : List Value).toArray below meth c H locs 0 0 (MQ below (va_Qi (fun (r : Int32) (_ : Unit) => r = nI (tp (fun k p => rb (4096 * k + p)) x0 p1 cn)) (fun _ _ => True) (fun _ : Nat => False)) ([.ref (bd 0), .int (nI x0), .int (nI cn), .int (nI p1)] : List Value).toArray s 0 0 (fun _ : Nat => False)) (F0 m 6 ls []) := by
    intro n9
    induction n9 with
    | zero => intro v1 to H locs ls h1 h2; exact absurd h2 (by omega)
    | succ n9 ih =>
      intro v1 to H locs ls hle_6 hmm_6 hI hP hS hl
      have ht30 : to < 2 ^ 30 := by rw [hI]; exact tp_30 _ _ _ (by omega)
      have ih_6 := @ih
      refine lv_iload hx hb dX2_led_6 (lv_at hl 5 rfl) ?_
      refine lv_iload_n hx hb dX2_led_8 rfl (lv_at hl 2 rfl) ?_
      refine xa_ge (tgt := 42) hx hb (by omega) (by omega) dX2_led_9 (by decide) (fun c_9 => ?_) (fun c_9 => ?_)
      · refine lv_iload hx hb dX2_led_42 (lv_at hl 4 rfl) ?_
        exact W.iret (v := (nI to)) hx hb hr (fun t ht hW => ⟨⟨(nI to), (), rfl, (by rw [hI, show v1 = cn by omega]), trivial⟩, hS.F ht⟩) hS.2.2 dX2_led_44
      · refine lv_iload hx hb dX2_led_12 (lv_at hl 4 rfl) ?_
        refine lv_iconst (v := nI 1) hx hb dX2_led_14 (by decide) ?_
        refine lv_ishl hx hb dX2_led_15 ?_
        refine lv_aload_n hx hb dX2_led_16 rfl (lv_at hl 0 rfl) ?_
        refine lv_iload_n hx hb dX2_led_17 rfl (lv_at hl 1 rfl) ?_
        refine lv_iload hx hb dX2_led_18 (lv_at hl 5 rfl) ?_
        refine xa_iadd hx hb dX2_led_20 ?_
        refine lv_iload_n hx hb dX2_led_21 rfl (lv_at hl 3 rfl) ?_
        refine va_calli (va_runV (As := [.int (nI (x0 + v1)), .int (nI p1)]) (rest := [.int ((nI to) <<< ((nI 1) &&& 31))]) ⟨hx, hb, hml, hown, hts⟩ (c_has l D _ N bd cZ th rb (x0 + v1) p1 (by omega)) (cwV 2 hts (goodIn_mono gX2_has) rfl rfl rfl (by decide +kernel) ⟨Nat.le_of_ble_eq_true rfl, Nat.le_of_ble_eq_true rfl⟩) ⟨wp0_blind, va_recv hK hP (ci := 2) (q0 := 0) rfl rfl, fun U hU hW => wp0_of (hP.sub [0, 1] rfl) (hK.sub [0] rfl) htb hS no_in hU hW⟩ rfl rfl hl.1 rfl (lv_room (Nat.le_of_ble_eq_true rfl)) dX2_led_22 ⟨Nat.zero_le _, Nat.zero_le _⟩) hS (fun q _ h => h.elim) (fun q h => h.elim) (fun r_22 u_22 t H1 locs ht hvm hw hB hz1 hk1 hS => ?_)
        have hP := xa_same hP hk1
        clear hz1 hk1 hB ht
        generalize H1 = H at hP hS ⊢
        subst hw
        refine xa_if0 (tgt := 32) hx hb dX2_led_25 (by decide) (fun c_25 => ?_) (fun c_25 => ?_)
        · refine lv_iconst (v := nI 0) hx hb dX2_led_32 (by decide) ?_
          refine lv_ior hx hb dX2_led_33 ?_
          rw [show (nI to) <<< ((nI 1) &&& 31) ||| (nI 0) = nI (2 * to + 0) from tp_w (b := false) ht30]
          refine lv_istore (lv' := [(4, .int (nI (2 * to + 0))), (0, .ref (bd 0)), (1, .int (nI x0)), (2, .int (nI cn)), (3, .int (nI p1)), (5, .int (nI v1))]) hx hb dX2_led_34 hl (by decide) rfl (fun ls hl => ?_)
          refine xa_inc (k := 5) (lv' := [(5, .int (nI (v1 + 1))), (4, .int (nI (2 * to + 0))), (0, .ref (bd 0)), (1, .int (nI x0)), (2, .int (nI cn)), (3, .int (nI p1))]) hx hb dX2_led_36 hl rfl (by decide) rfl (fun ls hl => ?_)
          refine lv_goto (tgt := 6) hx hb dX2_led_39 (by decide) ?_
          exact ih_6 (v1 + 1) (2 * to + 0) _ _ _ (by omega) (by omega) (by rw [hI]; show _ = 2 * tp (fun k p => rb (4096 * k + p)) x0 p1 v1 + (rb (4096 * (x0 + v1) + p1)).toNat; rw [c_25]; rfl) hP hS (lv_sub hl [2, 3, 4, 5, 1, 0] rfl)
        · refine lv_iconst (v := nI 1) hx hb dX2_led_28 (by decide) ?_
          refine lv_goto (tgt := 33) hx hb dX2_led_29 (by decide) ?_
          refine lv_ior hx hb dX2_led_33 ?_
          rw [show (nI to) <<< ((nI 1) &&& 31) ||| (nI 1) = nI (2 * to + 1) from tp_w (b := true) ht30]
          refine lv_istore (lv' := [(4, .int (nI (2 * to + 1))), (0, .ref (bd 0)), (1, .int (nI x0)), (2, .int (nI cn)), (3, .int (nI p1)), (5, .int (nI v1))]) hx hb dX2_led_34 hl (by decide) rfl (fun ls hl => ?_)
          refine xa_inc (k := 5) (lv' := [(5, .int (nI (v1 + 1))), (4, .int (nI (2 * to + 1))), (0, .ref (bd 0)), (1, .int (nI x0)), (2, .int (nI cn)), (3, .int (nI p1))]) hx hb dX2_led_36 hl rfl (by decide) rfl (fun ls hl => ?_)
          refine lv_goto (tgt := 6) hx hb dX2_led_39 (by decide) ?_
          exact ih_6 (v1 + 1) (2 * to + 1) _ _ _ (by omega) (by omega) (by rw [hI]; show _ = 2 * tp (fun k p => rb (4096 * k + p)) x0 p1 v1 + (rb (4096 * (x0 + v1) + p1)).toNat; rw [c_25]; rfl) hP hS (lv_sub hl [2, 3, 4, 5, 1, 0] rfl)
  exact lp_6 (cn + 1 - 0) 0 0 _ _ _ (by omega) (by omega) rfl hP hS (lv_sub hl [2, 3, 4, 5, 1, 0] rfl)

set_option maxHeartbeats 4000000 in
set_option maxRecDepth 100000 in
/-- the reference: alike -/
theorem c_alike (l : Launch) (D : va_G) (sz : Nat) (N : Nat) (bd : Nat → Nat) (cZ : ClassId) (th : Int32) (rb : Nat → Bool) (k a1 a2 zz : Nat) (h1 : 4096 * k + a1 + zz ≤ 131072) (h2 : 4096 * k + a2 + zz ≤ 131072) (hz9 : zz ≤ 4096) : Met l yX2_alike wsX2_alike ({ frames := 1, cells := 0, slots := 0, locals := 22 } : Room) (va_Pc [.ref (bd 0), .int (nI k), .int (nI a1), .int (nI a2), .int (nI zz)] (wp0 D [(bd 0, .inr (2, mdF N bd th)), (bd 1, .inl (cZ, 131072, .inl (bz rb)))] [(cZ, .boolean)] (fun _ : Nat => False) sz)) (va_Qi (fun (r : Int32) (_ : Unit) => r = nI (alk rb (4096 * k + a1) (4096 * k + a2) zz).toNat) (fun _ _ => True) (fun _ : Nat => False)) 0 0 (fun _ : Nat => False) := by
  refine Met.ofW (cc := cX2_alike) (maxL := 6) (ret := (some .boolean)) (by decide) rfl ?_
  intro p e s m args below meth c s₁ B hml hv
  obtain ⟨rfl, hsz, hP, hK, htb⟩ := hv
  have hx := B.exec
  have hb := B.bytes
  have hr := B.returns
  have hts := atoms_spec (ws := wsX2_alike) B.pre
  have hown : s.vm.findClass RX2 = some m.cls := findClass_of_methodNamed B.named
  have hlocks := B.notSynchronized
  subst hsz
  obtain ⟨⟨tt, hZ, hT⟩, hNst⟩ := id htb
  have hS : va_S (fun _ : Nat => False) s.heap s.heap [] := va_S.rf
  have hl := lv_entry ([.ref (bd 0), .int (nI k), .int (nI a1), .int (nI a2), .int (nI zz)]) (n := 6) (Nat.le_of_ble_eq_true rfl)
  rw [lg_entry_eq]
  generalize (lg_sl ([.ref (bd 0), .int (nI k), .int (nI a1), .int (nI a2), .int (nI zz)]) ++ List.replicate (6 - (lg_sl ([.ref (bd 0), .int (nI k), .int (nI a1), .int (nI a2), .int (nI zz)])).length) Slot.unset).toArray = ls at hl ⊢
  have hl : lv_has ls 6 [(0, .ref (bd 0)), (1, .int (nI k)), (2, .int (nI a1)), (3, .int (nI a2)), (4, .int (nI zz))] := hl
  refine lv_iconst (v := nI 0) hx hb dX2_alike_0 (by decide) ?_
  refine lv_istore (lv' := [(5, .int (nI 0)), (0, .ref (bd 0)), (1, .int (nI k)), (2, .int (nI a1)), (3, .int (nI a2)), (4, .int (nI zz))]) hx hb dX2_alike_1 hl (by decide) rfl (fun ls hl => ?_)
  have lp_3 : ∀ (n9 x : Nat) (H : Heap) (locs : List Loc) (ls : Array Slot), x ≤ zz → zz + 1 ≤ x + n9 → (∀ z, z < x → rb (4096 * k + (a1 + z)) = rb (4096 * k + (a2 + z))) → va_P D vwCl ([(bd 0, .inr (2, mdF N bd th)), (bd 1, .inl (cZ, 131072, .inl (bz rb)))]) H → va_S (fun _ : Nat => False) s.heap H locs → lv_has ls 6 [(0, .ref (bd 0)), (1, .int (nI k)), (2, .int (nI a1)), (3, .int (nI a2)), (4, .int (nI zz)), (5, .int (nI x))] → W p l e (headSpec wsX2_alike ({ frames := 1, cells := 0, slots := 0, locals := 22 } : Room)).room s m ([.ref (bd 0), .int (nI k), .int (nI a1), .int (nI a2), .int (nI zz)] : List Value).toArray below meth c H locs 0 0 (MQ below (va_Qi (fun (r : Int32) (_ : Unit) => r = nI (alk rb (4096 * k + a1) (4096 * k + a2) zz).toNat) (fun _ _ => True) (fun _ : Nat => False)) ([.ref (bd 0), .int (nI k), .int (nI a1), .int (nI a2), .int (nI zz)] : List Value).toArray s 0 0 (fun _ : Nat => False)) (F0 m 3 ls []) := by
    intro n9
    induction n9 with
    | zero => intro x  H locs ls h1 h2; exact absurd h2 (by omega)
    | succ n9 ih =>
      intro x  H locs ls hle_3 hmm_3 hI hP hS hl
      have ih_3 := @ih
      refine lv_iload hx hb dX2_alike_3 (lv_at hl 5 rfl) ?_
      refine lv_iload hx hb dX2_alike_5 (lv_at hl 4 rfl) ?_
      refine xa_ge (tgt := 39) hx hb (by omega) (by omega) dX2_alike_7 (by decide) (fun c_7 => ?_) (fun c_7 => ?_)
      · refine lv_iconst (v := nI 1) hx hb dX2_alike_39 (by decide) ?_
        exact W.zret (v := (nI 1)) hx hb hr (by decide) (fun t ht hW => ⟨⟨(nI 1), (), rfl, (by rw [alk_t (fun z hz => by rw [Nat.add_assoc, Nat.add_assoc]; exact hI z (by omega))]; rfl), trivial⟩, hS.F ht⟩) hS.2.2 dX2_alike_40
      · refine lv_aload_n hx hb dX2_alike_10 rfl (lv_at hl 0 rfl) ?_
        refine lv_iload_n hx hb dX2_alike_11 rfl (lv_at hl 1 rfl) ?_
        refine lv_iload_n hx hb dX2_alike_12 rfl (lv_at hl 2 rfl) ?_
        refine lv_iload hx hb dX2_alike_13 (lv_at hl 5 rfl) ?_
        refine xa_iadd hx hb dX2_alike_15 ?_
        refine va_calli (va_runV (As := [.int (nI k), .int (nI (a1 + x))]) (rest := []) ⟨hx, hb, hml, hown, hts⟩ (c_has l D _ N bd cZ th rb k (a1 + x) (by omega)) (cwV 2 hts (goodIn_mono gX2_has) rfl rfl rfl (by decide +kernel) ⟨Nat.le_of_ble_eq_true rfl, Nat.le_of_ble_eq_true rfl⟩) ⟨wp0_blind, va_recv hK hP (ci := 2) (q0 := 0) rfl rfl, fun U hU hW => wp0_of (hP.sub [0, 1] rfl) (hK.sub [0] rfl) htb hS no_in hU hW⟩ rfl rfl hl.1 rfl (lv_room (Nat.le_of_ble_eq_true rfl)) dX2_alike_16 ⟨Nat.zero_le _, Nat.zero_le _⟩) hS (fun q _ h => h.elim) (fun q h => h.elim) (fun r_16 u_16 t H1 locs ht hvm hw hB hz1 hk1 hS => ?_)
        have hP := xa_same hP hk1
        clear hz1 hk1 hB ht
        generalize H1 = H at hP hS ⊢
        subst hw
        refine lv_aload_n hx hb dX2_alike_19 rfl (lv_at hl 0 rfl) ?_
        refine lv_iload_n hx hb dX2_alike_20 rfl (lv_at hl 1 rfl) ?_
        refine lv_iload_n hx hb dX2_alike_21 rfl (lv_at hl 3 rfl) ?_
        refine lv_iload hx hb dX2_alike_22 (lv_at hl 5 rfl) ?_
        refine xa_iadd hx hb dX2_alike_24 ?_
        refine va_calli (va_runV (As := [.int (nI k), .int (nI (a2 + x))]) (rest := [.int (nI ((rb (4096 * k + (a1 + x))).toNat))]) ⟨hx, hb, hml, hown, hts⟩ (c_has l D _ N bd cZ th rb k (a2 + x) (by omega)) (cwV 2 hts (goodIn_mono gX2_has) rfl rfl rfl (by decide +kernel) ⟨Nat.le_of_ble_eq_true rfl, Nat.le_of_ble_eq_true rfl⟩) ⟨wp0_blind, va_recv hK hP (ci := 2) (q0 := 0) rfl rfl, fun U hU hW => wp0_of (hP.sub [0, 1] rfl) (hK.sub [0] rfl) htb hS no_in hU hW⟩ rfl rfl hl.1 rfl (lv_room (Nat.le_of_ble_eq_true rfl)) dX2_alike_25 ⟨Nat.zero_le _, Nat.zero_le _⟩) hS (fun q _ h => h.elim) (fun q h => h.elim) (fun r_25 u_25 t H1 locs ht hvm hw hB hz1 hk1 hS => ?_)
        have hP := xa_same hP hk1
        clear hz1 hk1 hB ht
        generalize H1 = H at hP hS ⊢
        subst hw
        refine xb_eq (tgt := 33) hx hb dX2_alike_28 (by decide) (fun c_28 => ?_) (fun c_28 => ?_)
        · refine xa_inc (k := 5) (lv' := [(5, .int (nI (x + 1))), (0, .ref (bd 0)), (1, .int (nI k)), (2, .int (nI a1)), (3, .int (nI a2)), (4, .int (nI zz))]) hx hb dX2_alike_33 hl rfl (by decide) rfl (fun ls hl => ?_)
          refine lv_goto (tgt := 3) hx hb dX2_alike_36 (by decide) ?_
          exact ih_3 (x + 1)  _ _ _ (by omega) (by omega) (fun z hz => by by_cases hzx : z = x; (subst hzx; exact c_28); (exact hI z (by omega))) hP hS (lv_sub hl [1, 2, 3, 4, 5, 0] rfl)
        · refine lv_iconst (v := nI 0) hx hb dX2_alike_31 (by decide) ?_
          exact W.zret (v := (nI 0)) hx hb hr (by decide) (fun t ht hW => ⟨⟨(nI 0), (), rfl, (by rw [alk_f (x := x) (by omega) (by rw [Nat.add_assoc, Nat.add_assoc]; exact c_28)]; rfl), trivial⟩, hS.F ht⟩) hS.2.2 dX2_alike_32
  exact lp_3 (zz + 1 - 0) 0  _ _ _ (by omega) (by omega) (fun z hz => absurd hz (by omega)) hP hS (lv_sub hl [1, 2, 3, 4, 5, 0] rfl)
