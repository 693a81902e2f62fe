set_option maxHeartbeats 4000000 in
set_option maxRecDepth 100000 in
/-- isRegister -/
theorem c_isRegister (l : Launch) (D : va_G) (sz : Nat) (k : Int32) : Met l yX1_isRegister wsX1_isRegister ({ frames := 0, cells := 0, slots := 0, locals := 0 } : Room) (va_Pc [.int k] (wp0 D [] [] (fun _ : Nat => False) sz)) (va_Qi (fun (r : Int32) (_ : Unit) => r = nI (isR k).toNat) (fun _ _ => True) (fun _ : Nat => False)) 0 0 (fun _ : Nat => False) := by
  refine Met.ofW (cc := cX1_isRegister) (maxL := 1) (ret := (some .boolean)) (by decide) rfl ?_
  intro p e s m args below meth c s₁ B hml hv
  obtain ⟨rfl, hsz, hP, hK, htb⟩ := hv
  have hx := B.exec
  have hb := B.bytes
  have hr := B.returns
  have hts := atoms_spec (ws := wsX1_isRegister) B.pre
  have hown : s.vm.findClass RX1 = some m.cls := findClass_of_methodNamed B.named
  have hlocks := B.notSynchronized
  subst hsz
  obtain ⟨⟨tt, hZ, hT⟩, hNst⟩ := id htb
  have hS : va_S (fun _ : Nat => False) s.heap s.heap [] := va_S.rf
  have hl := lv_entry ([.int k]) (n := 1) (Nat.le_of_ble_eq_true rfl)
  rw [lg_entry_eq]
  generalize (lg_sl ([.int k]) ++ List.replicate (1 - (lg_sl ([.int k])).length) Slot.unset).toArray = ls at hl ⊢
  have hl : lv_has ls 1 [(0, .int k)] := hl
  refine lv_iload_n hx hb dX1_isRegister_0 rfl (lv_at hl 0 rfl) ?_
  refine lv_if_lt (tgt := 14) hx hb dX1_isRegister_1 (by decide) (fun c_1 => ?_) (fun c_1 => ?_)
  · refine lv_iconst (v := nI 0) hx hb dX1_isRegister_14 (by decide) ?_
    exact W.zret (v := (nI 0)) hx hb hr (by decide) (fun t ht hW => ⟨⟨(nI 0), (), rfl, (by rw [show isR k = false from decide_eq_false (fun q => by first | exact q.1 c_1 | exact q.2 c_7)]; rfl), trivial⟩, hS.F ht⟩) hS.2.2 dX1_isRegister_15
  · refine lv_iload_n hx hb dX1_isRegister_4 rfl (lv_at hl 0 rfl) ?_
    refine lv_bipush (v := nI 32) hx hb dX1_isRegister_5 (by decide) ?_
    refine lv_icmp_ge (tgt := 14) hx hb dX1_isRegister_7 (by decide) (fun c_7 => ?_) (fun c_7 => ?_)
    · refine lv_iconst (v := nI 0) hx hb dX1_isRegister_14 (by decide) ?_
      exact W.zret (v := (nI 0)) hx hb hr (by decide) (fun t ht hW => ⟨⟨(nI 0), (), rfl, (by rw [show isR k = false from decide_eq_false (fun q => by first | exact q.1 c_1 | exact q.2 c_7)]; rfl), trivial⟩, hS.F ht⟩) hS.2.2 dX1_isRegister_15
    · refine lv_iconst (v := nI 1) hx hb dX1_isRegister_10 (by decide) ?_
      refine lv_goto (tgt := 15) hx hb dX1_isRegister_11 (by decide) ?_
      exact W.zret (v := (nI 1)) hx hb hr (by decide) (fun t ht hW => ⟨⟨(nI 1), (), rfl, (by rw [show isR k = true from decide_eq_true ⟨c_1, c_7⟩]; rfl), trivial⟩, hS.F ht⟩) hS.2.2 dX1_isRegister_15

set_option maxHeartbeats 4000000 in
set_option maxRecDepth 100000 in
/-- isValue -/
theorem c_isValue (l : Launch) (D : va_G) (sz : Nat) (v : Int32) : Met l yX1_isValue wsX1_isValue ({ frames := 0, cells := 0, slots := 0, locals := 0 } : Room) (va_Pc [.int v] (wp0 D [] [] (fun _ : Nat => False) sz)) (va_Qi (fun (r : Int32) (_ : Unit) => r = nI (isB v).toNat) (fun _ _ => True) (fun _ : Nat => False)) 0 0 (fun _ : Nat => False) := by
  refine Met.ofW (cc := cX1_isValue) (maxL := 1) (ret := (some .boolean)) (by decide) rfl ?_
  intro p e s m args below meth c s₁ B hml hv
  obtain ⟨rfl, hsz, hP, hK, htb⟩ := hv
  have hx := B.exec
  have hb := B.bytes
  have hr := B.returns
  have hts := atoms_spec (ws := wsX1_isValue) B.pre
  have hown : s.vm.findClass RX1 = some m.cls := findClass_of_methodNamed B.named
  have hlocks := B.notSynchronized
  subst hsz
  obtain ⟨⟨tt, hZ, hT⟩, hNst⟩ := id htb
  have hS : va_S (fun _ : Nat => False) s.heap s.heap [] := va_S.rf
  have hl := lv_entry ([.int v]) (n := 1) (Nat.le_of_ble_eq_true rfl)
  rw [lg_entry_eq]
  generalize (lg_sl ([.int v]) ++ List.replicate (1 - (lg_sl ([.int v])).length) Slot.unset).toArray = ls at hl ⊢
  have hl : lv_has ls 1 [(0, .int v)] := hl
  refine lv_iload_n hx hb dX1_isValue_0 rfl (lv_at hl 0 rfl) ?_
  refine lv_if_eq (tgt := 9) hx hb dX1_isValue_1 (by decide) (fun c_1 => ?_) (fun c_1 => ?_)
  · refine lv_iconst (v := nI 1) hx hb dX1_isValue_9 (by decide) ?_
    refine lv_goto (tgt := 14) hx hb dX1_isValue_10 (by decide) ?_
    exact W.zret (v := (nI 1)) hx hb hr (by decide) (fun t ht hW => ⟨⟨(nI 1), (), rfl, (by rw [show isB v = true from decide_eq_true (by first | exact Or.inl c_1 | exact Or.inr (Classical.not_not.mp c_6) | exact Or.inr c_6)]; rfl), trivial⟩, hS.F ht⟩) hS.2.2 dX1_isValue_14
  · refine lv_iload_n hx hb dX1_isValue_4 rfl (lv_at hl 0 rfl) ?_
    refine lv_iconst (v := nI 1) hx hb dX1_isValue_5 (by decide) ?_
    refine lv_icmp_ne (tgt := 13) hx hb dX1_isValue_6 (by decide) (fun c_6 => ?_) (fun c_6 => ?_)
    · refine lv_iconst (v := nI 0) hx hb dX1_isValue_13 (by decide) ?_
      exact W.zret (v := (nI 0)) hx hb hr (by decide) (fun t ht hW => ⟨⟨(nI 0), (), rfl, (by rw [show isB v = false from decide_eq_false (fun q => q.elim c_1 c_6)]; rfl), trivial⟩, hS.F ht⟩) hS.2.2 dX1_isValue_14
    · refine lv_iconst (v := nI 1) hx hb dX1_isValue_9 (by decide) ?_
      refine lv_goto (tgt := 14) hx hb dX1_isValue_10 (by decide) ?_
      exact W.zret (v := (nI 1)) hx hb hr (by decide) (fun t ht hW => ⟨⟨(nI 1), (), rfl, (by rw [show isB v = true from decide_eq_true (by first | exact Or.inl c_1 | exact Or.inr (Classical.not_not.mp c_6) | exact Or.inr c_6)]; rfl), trivial⟩, hS.F ht⟩) hS.2.2 dX1_isValue_14

set_option maxHeartbeats 4000000 in
set_option maxRecDepth 100000 in
/-- areRegisters -/
theorem c_areRegisters (l : Launch) (D : va_G) (sz : Nat) (f : Int32) (cn : Nat) (hcn : cn ≤ 12) : Met l yX1_areRegisters wsX1_areRegisters ({ frames := 0, cells := 0, slots := 0, locals := 0 } : Room) (va_Pc [.int f, .int (nI cn)] (wp0 D [] [] (fun _ : Nat => False) sz)) (va_Qi (fun (r : Int32) (_ : Unit) => r = nI (arR f cn).toNat) (fun _ _ => True) (fun _ : Nat => False)) 0 0 (fun _ : Nat => False) := by
  refine Met.ofW (cc := cX1_areRegisters) (maxL := 2) (ret := (some .boolean)) (by decide) rfl ?_
  intro p e s m args below meth c s₁ B hml hv
  obtain ⟨rfl, hsz, hP, hK, htb⟩ := hv
  have hx := B.exec
  have hb := B.bytes
  have hr := B.returns
  have hts := atoms_spec (ws := wsX1_areRegisters) B.pre
  have hown : s.vm.findClass RX1 = some m.cls := findClass_of_methodNamed B.named
  have hlocks := B.notSynchronized
  subst hsz
  obtain ⟨⟨tt, hZ, hT⟩, hNst⟩ := id htb
  have hS : va_S (fun _ : Nat => False) s.heap s.heap [] := va_S.rf
  have hl := lv_entry ([.int f, .int (nI cn)]) (n := 2) (Nat.le_of_ble_eq_true rfl)
  rw [lg_entry_eq]
  generalize (lg_sl ([.int f, .int (nI cn)]) ++ List.replicate (2 - (lg_sl ([.int f, .int (nI cn)])).length) Slot.unset).toArray = ls at hl ⊢
  have hl : lv_has ls 2 [(0, .int f), (1, .int (nI cn))] := hl
  refine lv_iload_n hx hb dX1_areRegisters_0 rfl (lv_at hl 0 rfl) ?_
  refine lv_if_lt (tgt := 16) hx hb dX1_areRegisters_1 (by decide) (fun c_1 => ?_) (fun c_1 => ?_)
  · refine lv_iconst (v := nI 0) hx hb dX1_areRegisters_16 (by decide) ?_
    exact W.zret (v := (nI 0)) hx hb hr (by decide) (fun t ht hW => ⟨⟨(nI 0), (), rfl, (by rw [show arR f cn = false from decide_eq_false (fun q => by first | exact q.1 c_1 | exact q.2 c_9)]; rfl), trivial⟩, hS.F ht⟩) hS.2.2 dX1_areRegisters_17
  · refine lv_iload_n hx hb dX1_areRegisters_4 rfl (lv_at hl 0 rfl) ?_
    refine lv_bipush (v := nI 32) hx hb dX1_areRegisters_5 (by decide) ?_
    refine lv_iload_n hx hb dX1_areRegisters_7 rfl (lv_at hl 1 rfl) ?_
    refine xa_isub hx hb (by omega) dX1_areRegisters_8 ?_
    refine lv_icmp_gt (tgt := 16) hx hb dX1_areRegisters_9 (by decide) (fun c_9 => ?_) (fun c_9 => ?_)
    · refine lv_iconst (v := nI 0) hx hb dX1_areRegisters_16 (by decide) ?_
      exact W.zret (v := (nI 0)) hx hb hr (by decide) (fun t ht hW => ⟨⟨(nI 0), (), rfl, (by rw [show arR f cn = false from decide_eq_false (fun q => by first | exact q.1 c_1 | exact q.2 c_9)]; rfl), trivial⟩, hS.F ht⟩) hS.2.2 dX1_areRegisters_17
    · refine lv_iconst (v := nI 1) hx hb dX1_areRegisters_12 (by decide) ?_
      refine lv_goto (tgt := 17) hx hb dX1_areRegisters_13 (by decide) ?_
      exact W.zret (v := (nI 1)) hx hb hr (by decide) (fun t ht hW => ⟨⟨(nI 1), (), rfl, (by rw [show arR f cn = true from decide_eq_true ⟨c_1, c_9⟩]; rfl), trivial⟩, hS.F ht⟩) hS.2.2 dX1_areRegisters_17

set_option maxHeartbeats 4000000 in
set_option maxRecDepth 100000 in
/-- isVariable -/
theorem c_isVariable (l : Launch) (D : va_G) (sz : Nat) (N : Nat) (ad : Nat → Nat) (v : Int32) : Met l yX1_isVariable wsX1_isVariable ({ frames := 0, cells := 0, slots := 0, locals := 0 } : Room) (va_Pc [.ref (ad 0), .int v] (wp0 D [(ad 0, .inr (1, dkF N ad))] [] (fun _ : Nat => False) sz)) (va_Qi (fun (r : Int32) (_ : Unit) => r = nI (isV N v).toNat) (fun _ _ => True) (fun _ : Nat => False)) 0 0 (fun _ : Nat => False) := by
  refine Met.ofW (cc := cX1_isVariable) (maxL := 2) (ret := (some .boolean)) (by decide) rfl ?_
  intro p e s m args below meth c s₁ B hml hv
  obtain ⟨rfl, hsz, hP, hK, htb⟩ := hv
  have hx := B.exec
  have hb := B.bytes
  have hr := B.returns
  have hts := atoms_spec (ws := wsX1_isVariable) B.pre
  have hown : s.vm.findClass RX1 = some m.cls := findClass_of_methodNamed B.named
  have hlocks := B.notSynchronized
  subst hsz
  obtain ⟨⟨tt, hZ, hT⟩, hNst⟩ := id htb
  have hS : va_S (fun _ : Nat => False) s.heap s.heap [] := va_S.rf
  have hl := lv_entry ([.ref (ad 0), .int v]) (n := 2) (Nat.le_of_ble_eq_true rfl)
  rw [lg_entry_eq]
  generalize (lg_sl ([.ref (ad 0), .int v]) ++ List.replicate (2 - (lg_sl ([.ref (ad 0), .int v])).length) Slot.unset).toArray = ls at hl ⊢
  have hl : lv_has ls 2 [(0, .ref (ad 0)), (1, .int v)] := hl
  refine lv_iload_n hx hb dX1_isVariable_0 rfl (lv_at hl 1 rfl) ?_
  refine lv_iconst (v := nI 1) hx hb dX1_isVariable_1 (by decide) ?_
  refine lv_icmp_lt (tgt := 17) hx hb dX1_isVariable_2 (by decide) (fun c_2 => ?_) (fun c_2 => ?_)
  · refine lv_iconst (v := nI 0) hx hb dX1_isVariable_17 (by decide) ?_
    exact W.zret (v := (nI 0)) hx hb hr (by decide) (fun t ht hW => ⟨⟨(nI 0), (), rfl, (by rw [show isV N v = false from decide_eq_false (fun q => by first | exact q.1 c_2 | exact q.2 c_10)]; rfl), trivial⟩, hS.F ht⟩) hS.2.2 dX1_isVariable_18
  · refine lv_iload_n hx hb dX1_isVariable_5 rfl (lv_at hl 1 rfl) ?_
    refine lv_aload_n hx hb dX1_isVariable_6 rfl (lv_at hl 0 rfl) ?_
    refine va_get (D := D) (ci := 1) (C := RX1) (T := TX1) (N := 10) hx hb hts (by decide +kernel) hown hK hP 0 rfl rfl 0 (by decide) (hts (.fieldLink RX1 18 "ForkDesk" "variables" "I") (by decide +kernel)) (fun _ h9 => h9) rfl dX1_isVariable_7 ?_
    refine lv_icmp_gt (tgt := 17) hx hb dX1_isVariable_10 (by decide) (fun c_10 => ?_) (fun c_10 => ?_)
    · refine lv_iconst (v := nI 0) hx hb dX1_isVariable_17 (by decide) ?_
      exact W.zret (v := (nI 0)) hx hb hr (by decide) (fun t ht hW => ⟨⟨(nI 0), (), rfl, (by rw [show isV N v = false from decide_eq_false (fun q => by first | exact q.1 c_2 | exact q.2 c_10)]; rfl), trivial⟩, hS.F ht⟩) hS.2.2 dX1_isVariable_18
    · refine lv_iconst (v := nI 1) hx hb dX1_isVariable_13 (by decide) ?_
      refine lv_goto (tgt := 18) hx hb dX1_isVariable_14 (by decide) ?_
      exact W.zret (v := (nI 1)) hx hb hr (by decide) (fun t ht hW => ⟨⟨(nI 1), (), rfl, (by rw [show isV N v = true from decide_eq_true ⟨c_2, c_10⟩]; rfl), trivial⟩, hS.F ht⟩) hS.2.2 dX1_isVariable_18

set_option maxHeartbeats 4000000 in
set_option maxRecDepth 100000 in
/-- bitOf -/
theorem c_bitOf (l : Launch) (D : va_G) (sz : Nat) (N : Nat) (ad : Nat → Nat) (j : Nat) (hj : j ≤ N) : Met l yX1_bitOf wsX1_bitOf ({ frames := 0, cells := 0, slots := 0, locals := 0 } : Room) (va_Pc [.ref (ad 0), .int (nI j)] (wp0 D [(ad 0, .inr (1, dkF N ad))] [] (fun _ : Nat => False) sz)) (va_Qi (fun (r : Int32) (_ : Unit) => r = nI (N - j)) (fun _ _ => True) (fun _ : Nat => False)) 0 0 (fun _ : Nat => False) := by
  refine Met.ofW (cc := cX1_bitOf) (maxL := 2) (ret := (some .int)) (by decide) rfl ?_
  intro p e s m args below meth c s₁ B hml hv
  obtain ⟨rfl, hsz, hP, hK, htb⟩ := hv
  have hx := B.exec
  have hb := B.bytes
  have hr := B.returns
  have hts := atoms_spec (ws := wsX1_bitOf) B.pre
  have hown : s.vm.findClass RX1 = some m.cls := findClass_of_methodNamed B.named
  have hlocks := B.notSynchronized
  subst hsz
  obtain ⟨⟨tt, hZ, hT⟩, hNst⟩ := id htb
  have hS : va_S (fun _ : Nat => False) s.heap s.heap [] := va_S.rf
  have hl := lv_entry ([.ref (ad 0), .int (nI j)]) (n := 2) (Nat.le_of_ble_eq_true rfl)
  rw [lg_entry_eq]
  generalize (lg_sl ([.ref (ad 0), .int (nI j)]) ++ List.replicate (2 - (lg_sl ([.ref (ad 0), .int (nI j)])).length) Slot.unset).toArray = ls at hl ⊢
  have hl : lv_has ls 2 [(0, .ref (ad 0)), (1, .int (nI j))] := hl
  refine lv_aload_n hx hb dX1_bitOf_0 rfl (lv_at hl 0 rfl) ?_
  refine va_get (D := D) (ci := 1) (C := RX1) (T := TX1) (N := 10) hx hb hts (by decide +kernel) hown hK hP 0 rfl rfl 0 (by decide) (hts (.fieldLink RX1 18 "ForkDesk" "variables" "I") (by decide +kernel)) (fun _ h9 => h9) rfl dX1_bitOf_1 ?_
  refine lv_iload_n hx hb dX1_bitOf_4 rfl (lv_at hl 1 rfl) ?_
  refine xa_isub hx hb (by omega) dX1_bitOf_5 ?_
  exact W.iret (v := (nI (N - j))) hx hb hr (fun t ht hW => ⟨⟨(nI (N - j)), (), rfl, rfl, trivial⟩, hS.F ht⟩) hS.2.2 dX1_bitOf_6

set_option maxHeartbeats 4000000 in
set_option maxRecDepth 100000 in
/-- valueAt -/
theorem c_valueAt (l : Launch) (D : va_G) (sz : Nat) (a : Nat) (cJ : ClassId) (n : Nat) (f : Nat → Int64) (pt : Nat) (hpt : pt / 64 < n) (hn : n < 2 ^ 31) (hp : pt < 2 ^ 31) : Met l yX1_valueAt wsX1_valueAt ({ frames := 0, cells := 0, slots := 0, locals := 0 } : Room) (va_Pc [.ref a, .int (nI pt)] (wp0 D [(a, .inl (cJ, n, .inr (.inl f)))] [(cJ, .long)] (fun _ : Nat => False) sz)) (va_Qi (fun (r : Int32) (_ : Unit) => r = nI (lb (f (pt / 64)) (pt % 64)).toNat) (fun _ _ => True) (fun _ : Nat => False)) 0 0 (fun _ : Nat => False) := by
  refine Met.ofW (cc := cX1_valueAt) (maxL := 2) (ret := (some .int)) (by decide) rfl ?_
  intro p e s m args below meth c s₁ B hml hv
  obtain ⟨rfl, hsz, hP, hK, htb⟩ := hv
  have hx := B.exec
  have hb := B.bytes
  have hr := B.returns
  have hts := atoms_spec (ws := wsX1_valueAt) B.pre
  have hown : s.vm.findClass RX1 = some m.cls := findClass_of_methodNamed B.named
  have hlocks := B.notSynchronized
  subst hsz
  obtain ⟨⟨tt, hZ, hT⟩, hNst⟩ := id htb
  have hS : va_S (fun _ : Nat => False) s.heap s.heap [] := va_S.rf
  have hl := lv_entry ([.ref a, .int (nI pt)]) (n := 2) (Nat.le_of_ble_eq_true rfl)
  rw [lg_entry_eq]
  generalize (lg_sl ([.ref a, .int (nI pt)]) ++ List.replicate (2 - (lg_sl ([.ref a, .int (nI pt)])).length) Slot.unset).toArray = ls at hl ⊢
  have hl : lv_has ls 2 [(0, .ref a), (1, .int (nI pt))] := hl
  refine lv_aload_n hx hb dX1_valueAt_0 rfl (lv_at hl 0 rfl) ?_
  refine lv_iload_n hx hb dX1_valueAt_1 rfl (lv_at hl 1 rfl) ?_
  refine lv_bipush (v := nI 64) hx hb dX1_valueAt_2 (by decide) ?_
  refine xa_idiv hx hb (by omega) (by omega) (by omega) dX1_valueAt_4 ?_
  refine xa_lald hx hb hK hP 0 0 rfl rfl (w := pt / 64) (by omega) (by omega) dX1_valueAt_5 ?_
  refine lv_iload_n hx hb dX1_valueAt_6 rfl (lv_at hl 1 rfl) ?_
  refine lv_bipush (v := nI 64) hx hb dX1_valueAt_7 (by decide) ?_
  refine xa_irem hx hb (by omega) (by omega) (by omega) dX1_valueAt_9 ?_
  refine lv_lushr (v := ((f (pt / 64)).toUInt64 >>> ((nI (pt % 64)).toInt64.toUInt64 &&& Int64.toUInt64 63)).toInt64) hx hb dX1_valueAt_10 rfl ?_
  refine lv_l2i (v := (((f (pt / 64)).toUInt64 >>> ((nI (pt % 64)).toInt64.toUInt64 &&& Int64.toUInt64 63)).toInt64).toInt32) hx hb dX1_valueAt_11 rfl ?_
  refine lv_iconst (v := nI 1) hx hb dX1_valueAt_12 (by decide) ?_
  refine lv_iand hx hb dX1_valueAt_13 ?_
  exact W.iret (v := (((((f (pt / 64)).toUInt64 >>> ((nI (pt % 64)).toInt64.toUInt64 &&& Int64.toUInt64 63)).toInt64).toInt32) &&& (nI 1))) hx hb hr (fun t ht hW => ⟨⟨(((((f (pt / 64)).toUInt64 >>> ((nI (pt % 64)).toInt64.toUInt64 &&& Int64.toUInt64 63)).toInt64).toInt32) &&& (nI 1)), (), rfl, (by rw [lb_low, lb_shr _ (Nat.mod_lt _ (by omega)), Nat.add_zero]), trivial⟩, hS.F ht⟩) hS.2.2 dX1_valueAt_14

set_option maxHeartbeats 4000000 in
set_option maxRecDepth 100000 in
/-- chosen -/
theorem c_chosen (l : Launch) (D : va_G) (sz : Nat) (x y z : Int64) : Met l yX1_chosen wsX1_chosen ({ frames := 0, cells := 0, slots := 0, locals := 0 } : Room) (va_Pc [.long x, .long y, .long z] (wp0 D [] [] (fun _ : Nat => False) sz)) (va_Ql (fun (r : Int64) (_ : Unit) => r = chs x y z) (fun _ _ => True) (fun _ : Nat => False)) 0 0 (fun _ : Nat => False) := by
  refine Met.ofW (cc := cX1_chosen) (maxL := 6) (ret := (some .long)) (by decide) rfl ?_
  intro p e s m args below meth c s₁ B hml hv
  obtain ⟨rfl, hsz, hP, hK, htb⟩ := hv
  have hx := B.exec
  have hb := B.bytes
  have hr := B.returns
  have hts := atoms_spec (ws := wsX1_chosen) B.pre
  have hown : s.vm.findClass RX1 = some m.cls := findClass_of_methodNamed B.named
  have hlocks := B.notSynchronized
  subst hsz
  obtain ⟨⟨tt, hZ, hT⟩, hNst⟩ := id htb
  have hS : va_S (fun _ : Nat => False) s.heap s.heap [] := va_S.rf
  have hl := lv_entry ([.long x, .long y, .long z]) (n := 6) (Nat.le_of_ble_eq_true rfl)
  rw [lg_entry_eq]
  generalize (lg_sl ([.long x, .long y, .long z]) ++ List.replicate (6 - (lg_sl ([.long x, .long y, .long z])).length) Slot.unset).toArray = ls at hl ⊢
  have hl : lv_has ls 6 [(0, .long x), (2, .long y), (4, .long z)] := hl
  refine lv_lload_n hx hb dX1_chosen_0 rfl (lv_at hl 0 rfl) ?_
  refine lv_lload_n hx hb dX1_chosen_1 rfl (lv_at hl 1 rfl) ?_
  refine lv_land hx hb dX1_chosen_2 ?_
  refine lv_lload_n hx hb dX1_chosen_3 rfl (lv_at hl 0 rfl) ?_
  refine lv_ldc2 (v := (-1)) hx hb hown (hts (.constantLong RX1 31 (-1)) (by decide +kernel)) dX1_chosen_4 ?_
  refine lv_lxor hx hb dX1_chosen_7 ?_
  refine lv_lload hx hb dX1_chosen_8 (lv_at hl 2 rfl) ?_
  refine lv_land hx hb dX1_chosen_10 ?_
  refine lv_lor hx hb dX1_chosen_11 ?_
  exact W.lret (v := ((x &&& y) ||| ((x ^^^ (-1)) &&& z))) hx hb hr (fun t ht hW => ⟨⟨((x &&& y) ||| ((x ^^^ (-1)) &&& z)), (), rfl, rfl, trivial⟩, hS.F ht⟩) hS.2.2 dX1_chosen_12

set_option maxHeartbeats 4000000 in
set_option maxRecDepth 100000 in
/-- combined -/
theorem c_combined (l : Launch) (D : va_G) (sz : Nat) (op : Nat) (hop : op < 4) (x y : Int64) : Met l yX1_combined wsX1_combined ({ frames := 0, cells := 0, slots := 0, locals := 0 } : Room) (va_Pc [.int (nI op), .long x, .long y] (wp0 D [] [] (fun _ : Nat => False) sz)) (va_Ql (fun (r : Int64) (_ : Unit) => r = cmb op x y) (fun _ _ => True) (fun _ : Nat => False)) 0 0 (fun _ : Nat => False) := by
  refine Met.ofW (cc := cX1_combined) (maxL := 5) (ret := (some .long)) (by decide) rfl ?_
  intro p e s m args below meth c s₁ B hml hv
  obtain ⟨rfl, hsz, hP, hK, htb⟩ := hv
  have hx := B.exec
  have hb := B.bytes
  have hr := B.returns
  have hts := atoms_spec (ws := wsX1_combined) B.pre
  have hown : s.vm.findClass RX1 = some m.cls := findClass_of_methodNamed B.named
  have hlocks := B.notSynchronized
  subst hsz
  obtain ⟨⟨tt, hZ, hT⟩, hNst⟩ := id htb
  have hS : va_S (fun _ : Nat => False) s.heap s.heap [] := va_S.rf
  have hl := lv_entry ([.int (nI op), .long x, .long y]) (n := 5) (Nat.le_of_ble_eq_true rfl)
  rw [lg_entry_eq]
  generalize (lg_sl ([.int (nI op), .long x, .long y]) ++ List.replicate (5 - (lg_sl ([.int (nI op), .long x, .long y])).length) Slot.unset).toArray = ls at hl ⊢
  have hl : lv_has ls 5 [(0, .int (nI op)), (1, .long x), (3, .long y)] := hl
  refine lv_iload_n hx hb dX1_combined_0 rfl (lv_at hl 0 rfl) ?_
  have h4 : op = 0 ∨ op = 1 ∨ op = 2 ∨ op = 3 := by omega
  rcases h4 with rfl | rfl | rfl | rfl
  · refine lv_tableIn (tgt := 28) hx hb dX1_combined_1 (by decide) (by decide) rfl (by decide) ?_
    refine lv_lload_n hx hb dX1_combined_28 rfl (lv_at hl 1 rfl) ?_
    refine lv_lload_n hx hb dX1_combined_29 rfl (lv_at hl 2 rfl) ?_
    refine lv_land hx hb dX1_combined_30 ?_
    exact W.lret (v := (x &&& y)) hx hb hr (fun t ht hW => ⟨⟨(x &&& y), (), rfl, rfl, trivial⟩, hS.F ht⟩) hS.2.2 dX1_combined_31
  · refine lv_tableIn (tgt := 32) hx hb dX1_combined_1 (by decide) (by decide) rfl (by decide) ?_
    refine lv_lload_n hx hb dX1_combined_32 rfl (lv_at hl 1 rfl) ?_
    refine lv_lload_n hx hb dX1_combined_33 rfl (lv_at hl 2 rfl) ?_
    refine lv_lor hx hb dX1_combined_34 ?_
    exact W.lret (v := (x ||| y)) hx hb hr (fun t ht hW => ⟨⟨(x ||| y), (), rfl, rfl, trivial⟩, hS.F ht⟩) hS.2.2 dX1_combined_35
  · refine lv_tableIn (tgt := 36) hx hb dX1_combined_1 (by decide) (by decide) rfl (by decide) ?_
    refine lv_lload_n hx hb dX1_combined_36 rfl (lv_at hl 1 rfl) ?_
    refine lv_lload_n hx hb dX1_combined_37 rfl (lv_at hl 2 rfl) ?_
    refine lv_lxor hx hb dX1_combined_38 ?_
    exact W.lret (v := (x ^^^ y)) hx hb hr (fun t ht hW => ⟨⟨(x ^^^ y), (), rfl, rfl, trivial⟩, hS.F ht⟩) hS.2.2 dX1_combined_39
  · refine lv_tableOut (tgt := 40) hx hb dX1_combined_1 (by decide) (by decide) ?_
    refine lv_lload_n hx hb dX1_combined_40 rfl (lv_at hl 1 rfl) ?_
    refine lv_lload_n hx hb dX1_combined_41 rfl (lv_at hl 2 rfl) ?_
    refine lv_ldc2 (v := (-1)) hx hb hown (hts (.constantLong RX1 31 (-1)) (by decide +kernel)) dX1_combined_42 ?_
    refine lv_lxor hx hb dX1_combined_45 ?_
    refine lv_land hx hb dX1_combined_46 ?_
    exact W.lret (v := (x &&& (y ^^^ (-1)))) hx hb hr (fun t ht hW => ⟨⟨(x &&& (y ^^^ (-1))), (), rfl, rfl, trivial⟩, hS.F ht⟩) hS.2.2 dX1_combined_47

set_option maxHeartbeats 4000000 in
set_option maxRecDepth 100000 in
/-- pointsWithBit -/
theorem c_pointsWithBit (l : Launch) (D : va_G) (sz : Nat) (N : Nat) (ad : Nat → Nat) (w b : Nat) (hw : w < 2 ^ 31) (hb12 : b < 12) : Met l yX1_pointsWithBit wsX1_pointsWithBit ({ frames := 0, cells := 0, slots := 0, locals := 0 } : Room) (va_Pc [.ref (ad 0), .int (nI w), .int (nI b)] (wp0 D [(ad 0, .inr (1, dkF N ad))] [] (fun _ : Nat => False) sz)) (va_Ql (fun (r : Int64) (_ : Unit) => r = pwN N w b) (fun _ _ => True) (fun _ : Nat => False)) 0 0 (fun _ : Nat => False) := by
  refine Met.ofW (cc := cX1_pointsWithBit) (maxL := 3) (ret := (some .long)) (by decide) rfl ?_
  intro p e s m args below meth c s₁ B hml hv
  obtain ⟨rfl, hsz, hP, hK, htb⟩ := hv
  have hx := B.exec
  have hb := B.bytes
  have hr := B.returns
  have hts := atoms_spec (ws := wsX1_pointsWithBit) B.pre
  have hown : s.vm.findClass RX1 = some m.cls := findClass_of_methodNamed B.named
  have hlocks := B.notSynchronized
  subst hsz
  obtain ⟨⟨tt, hZ, hT⟩, hNst⟩ := id htb
  have hS : va_S (fun _ : Nat => False) s.heap s.heap [] := va_S.rf
  have hl := lv_entry ([.ref (ad 0), .int (nI w), .int (nI b)]) (n := 3) (Nat.le_of_ble_eq_true rfl)
  rw [lg_entry_eq]
  generalize (lg_sl ([.ref (ad 0), .int (nI w), .int (nI b)]) ++ List.replicate (3 - (lg_sl ([.ref (ad 0), .int (nI w), .int (nI b)])).length) Slot.unset).toArray = ls at hl ⊢
  have hl : lv_has ls 3 [(0, .ref (ad 0)), (1, .int (nI w)), (2, .int (nI b))] := hl
  have hdiv : w / 2 ^ (b - 6) ≤ w := Nat.div_le_self _ _
  refine lv_iload_n hx hb dX1_pointsWithBit_0 rfl (lv_at hl 2 rfl) ?_
  refine lv_bipush (v := nI 6) hx hb dX1_pointsWithBit_1 (by decide) ?_
  refine xa_ge (tgt := 17) hx hb (by omega) (by omega) dX1_pointsWithBit_3 (by decide) (fun c_3 => ?_) (fun c_3 => ?_)
  · refine lv_iload_n hx hb dX1_pointsWithBit_17 rfl (lv_at hl 1 rfl) ?_
    refine lv_iload_n hx hb dX1_pointsWithBit_18 rfl (lv_at hl 2 rfl) ?_
    refine lv_bipush (v := nI 6) hx hb dX1_pointsWithBit_19 (by decide) ?_
    refine xa_isub hx hb (by omega) dX1_pointsWithBit_21 ?_
    refine xa_iushr hx hb (by omega) (by omega) dX1_pointsWithBit_22 ?_
    refine lv_iconst (v := nI 1) hx hb dX1_pointsWithBit_23 (by decide) ?_
    refine xa_iand1 hx hb (by omega) dX1_pointsWithBit_24 ?_
    refine lv_iconst (v := nI 1) hx hb dX1_pointsWithBit_25 (by decide) ?_
    refine xa_ne (tgt := 36) hx hb (by omega) (by omega) dX1_pointsWithBit_26 (by decide) (fun c_26 => ?_) (fun c_26 => ?_)
    · refine lv_lconst (v := 0) hx hb dX1_pointsWithBit_36 (by decide) ?_
      exact W.lret (v := (0 : Int64)) hx hb hr (fun t ht hW => ⟨⟨(0 : Int64), (), rfl, (by unfold pwN; rw [if_neg (by omega), Nat.testBit_eq_decide_div_mod_eq, decide_eq_false c_26]; rfl), trivial⟩, hS.F ht⟩) hS.2.2 dX1_pointsWithBit_37
    · refine lv_aload_n hx hb dX1_pointsWithBit_29 rfl (lv_at hl 0 rfl) ?_
      refine va_get (D := D) (ci := 1) (C := RX1) (T := TX1) (N := 10) hx hb hts (by decide +kernel) hown hK hP 0 rfl rfl 4 (by decide) (hts (.fieldLink RX1 33 "ForkDesk" "allOnes" "J") (by decide +kernel)) (fun _ h9 => h9) rfl dX1_pointsWithBit_30 ?_
      refine lv_goto (tgt := 37) hx hb dX1_pointsWithBit_33 (by decide) ?_
      exact W.lret (v := (ao N)) hx hb hr (fun t ht hW => ⟨⟨(ao N), (), rfl, (by unfold pwN; rw [if_neg (by omega), Nat.testBit_eq_decide_div_mod_eq, decide_eq_true c_26]; rfl), trivial⟩, hS.F ht⟩) hS.2.2 dX1_pointsWithBit_37
  · refine va_gets (C := "ForkDesk") (n := "PLACES_WITH_BIT") (d := "[J") hx hb hZ hS hown (hts (.fieldLink RX1 140 "ForkDesk" "PLACES_WITH_BIT" "[J") (by decide +kernel)) (fun _ h9 => h9) dX1_pointsWithBit_6 ?_
    refine lv_iload_n hx hb dX1_pointsWithBit_9 rfl (lv_at hl 2 rfl) ?_
    refine va_tl hx hb hT hS (vp_in_nI (n := b) (by omega) (by decide)) (v := .long (pwb b)) (by rw [nI_clamp (by omega)]) dX1_pointsWithBit_10 ?_
    refine lv_aload_n hx hb dX1_pointsWithBit_11 rfl (lv_at hl 0 rfl) ?_
    refine va_get (D := D) (ci := 1) (C := RX1) (T := TX1) (N := 10) hx hb hts (by decide +kernel) hown hK hP 0 rfl rfl 4 (by decide) (hts (.fieldLink RX1 33 "ForkDesk" "allOnes" "J") (by decide +kernel)) (fun _ h9 => h9) rfl dX1_pointsWithBit_12 ?_
    refine lv_land hx hb dX1_pointsWithBit_15 ?_
    exact W.lret (v := ((pwb b) &&& (ao N))) hx hb hr (fun t ht hW => ⟨⟨((pwb b) &&& (ao N)), (), rfl, (by unfold pwN; rw [if_pos c_3]), trivial⟩, hS.F ht⟩) hS.2.2 dX1_pointsWithBit_16

set_option maxHeartbeats 4000000 in
set_option maxRecDepth 100000 in
/-- acrossBit -/
theorem c_acrossBit (l : Launch) (D : va_G) (sz : Nat) (N : Nat) (a : Nat) (cJ : ClassId) (f : Nat → Int64) (w b : Nat) (hN : N ≤ 12) (hw : w < nw N) (hbN : b < N) : Met l yX1_acrossBit wsX1_acrossBit ({ frames := 0, cells := 0, slots := 0, locals := 0 } : Room) (va_Pc [.ref a, .int (nI w), .int (nI b)] (wp0 D [(a, .inl (cJ, nw N, .inr (.inl f)))] [(cJ, .long)] (fun _ : Nat => False) sz)) (va_Ql (fun (r : Int64) (_ : Unit) => r = acr f w b) (fun _ _ => True) (fun _ : Nat => False)) 0 0 (fun _ : Nat => False) := by
  refine Met.ofW (cc := cX1_acrossBit) (maxL := 8) (ret := (some .long)) (by decide) rfl ?_
  intro p e s m args below meth c s₁ B hml hv
  obtain ⟨rfl, hsz, hP, hK, htb⟩ := hv
  have hx := B.exec
  have hb := B.bytes
  have hr := B.returns
  have hts := atoms_spec (ws := wsX1_acrossBit) B.pre
  have hown : s.vm.findClass RX1 = some m.cls := findClass_of_methodNamed B.named
  have hlocks := B.notSynchronized
  subst hsz
  obtain ⟨⟨tt, hZ, hT⟩, hNst⟩ := id htb
  have hS : va_S (fun _ : Nat => False) s.heap s.heap [] := va_S.rf
  have hl := lv_entry ([.ref a, .int (nI w), .int (nI b)]) (n := 8) (Nat.le_of_ble_eq_true rfl)
  rw [lg_entry_eq]
  generalize (lg_sl ([.ref a, .int (nI w), .int (nI b)]) ++ List.replicate (8 - (lg_sl ([.ref a, .int (nI w), .int (nI b)])).length) Slot.unset).toArray = ls at hl ⊢
  have hl : lv_has ls 8 [(0, .ref a), (1, .int (nI w)), (2, .int (nI b))] := hl
  have hnw := nw_le hN
  refine lv_iload_n hx hb dX1_acrossBit_0 rfl (lv_at hl 2 rfl) ?_
  refine lv_bipush (v := nI 6) hx hb dX1_acrossBit_1 (by decide) ?_
  refine xa_lt (tgt := 17) hx hb (by omega) (by omega) dX1_acrossBit_3 (by decide) (fun c_3 => ?_) (fun c_3 => ?_)
  · refine lv_iconst (v := nI 1) hx hb dX1_acrossBit_17 (by decide) ?_
    refine lv_iload_n hx hb dX1_acrossBit_18 rfl (lv_at hl 2 rfl) ?_
    refine xa_ishl1 hx hb (by omega) dX1_acrossBit_19 ?_
    refine lv_istore_n (lv' := [(3, .int (nI (2 ^ b))), (0, .ref a), (1, .int (nI w)), (2, .int (nI b))]) hx hb dX1_acrossBit_20 rfl hl (by decide) rfl (fun ls hl => ?_)
    refine lv_aload_n hx hb dX1_acrossBit_21 rfl (lv_at hl 1 rfl) ?_
    refine lv_iload_n hx hb dX1_acrossBit_22 rfl (lv_at hl 2 rfl) ?_
    refine xa_lald hx hb hK hP 0 0 rfl rfl (w := w) (by omega) (by omega) dX1_acrossBit_23 ?_
    refine va_gets (C := "ForkDesk") (n := "PLACES_WITH_BIT") (d := "[J") hx hb hZ hS hown (hts (.fieldLink RX1 140 "ForkDesk" "PLACES_WITH_BIT" "[J") (by decide +kernel)) (fun _ h9 => h9) dX1_acrossBit_24 ?_
    refine lv_iload_n hx hb dX1_acrossBit_27 rfl (lv_at hl 3 rfl) ?_
    refine va_tl hx hb hT hS (vp_in_nI (n := b) (by omega) (by decide)) (v := .long (pwb b)) (by rw [nI_clamp (by omega)]) dX1_acrossBit_28 ?_
    refine lv_land hx hb dX1_acrossBit_29 ?_
    refine lv_lstore (lv' := [(4, .long ((f w) &&& (pwb b))), (3, .int (nI (2 ^ b))), (0, .ref a), (1, .int (nI w)), (2, .int (nI b))]) hx hb dX1_acrossBit_30 hl (by decide) rfl (fun ls hl => ?_)
    refine lv_aload_n hx hb dX1_acrossBit_32 rfl (lv_at hl 2 rfl) ?_
    refine lv_iload_n hx hb dX1_acrossBit_33 rfl (lv_at hl 3 rfl) ?_
    refine xa_lald hx hb hK hP 0 0 rfl rfl (w := w) (by omega) (by omega) dX1_acrossBit_34 ?_
    refine va_gets (C := "ForkDesk") (n := "PLACES_WITH_BIT") (d := "[J") hx hb hZ hS hown (hts (.fieldLink RX1 140 "ForkDesk" "PLACES_WITH_BIT" "[J") (by decide +kernel)) (fun _ h9 => h9) dX1_acrossBit_35 ?_
    refine lv_iload_n hx hb dX1_acrossBit_38 rfl (lv_at hl 4 rfl) ?_
    refine va_tl hx hb hT hS (vp_in_nI (n := b) (by omega) (by decide)) (v := .long (pwb b)) (by rw [nI_clamp (by omega)]) dX1_acrossBit_39 ?_
    refine lv_ldc2 (v := (-1)) hx hb hown (hts (.constantLong RX1 31 (-1)) (by decide +kernel)) dX1_acrossBit_40 ?_
    refine lv_lxor hx hb dX1_acrossBit_43 ?_
    refine lv_land hx hb dX1_acrossBit_44 ?_
    refine lv_lstore (lv' := [(6, .long ((f w) &&& ((pwb b) ^^^ (-1)))), (4, .long ((f w) &&& (pwb b))), (3, .int (nI (2 ^ b))), (0, .ref a), (1, .int (nI w)), (2, .int (nI b))]) hx hb dX1_acrossBit_45 hl (by decide) rfl (fun ls hl => ?_)
    refine lv_lload hx hb dX1_acrossBit_47 (lv_at hl 1 rfl) ?_
    refine lv_iload_n hx hb dX1_acrossBit_49 rfl (lv_at hl 2 rfl) ?_
    refine lv_lushr (v := (((f w) &&& (pwb b)).toUInt64 >>> ((nI (2 ^ b)).toInt64.toUInt64 &&& Int64.toUInt64 63)).toInt64) hx hb dX1_acrossBit_50 rfl ?_
    refine lv_lload hx hb dX1_acrossBit_51 (lv_at hl 0 rfl) ?_
    refine lv_iload_n hx hb dX1_acrossBit_53 rfl (lv_at hl 2 rfl) ?_
    refine lv_lshl (v := ((f w) &&& ((pwb b) ^^^ (-1))) <<< ((nI (2 ^ b)).toInt64 &&& 63)) hx hb dX1_acrossBit_54 rfl ?_
    refine lv_lor hx hb dX1_acrossBit_55 ?_
    exact W.lret (v := (((((f w) &&& (pwb b)).toUInt64 >>> ((nI (2 ^ b)).toInt64.toUInt64 &&& Int64.toUInt64 63)).toInt64) ||| (((f w) &&& ((pwb b) ^^^ (-1))) <<< ((nI (2 ^ b)).toInt64 &&& 63)))) hx hb hr (fun t ht hW => ⟨⟨(((((f w) &&& (pwb b)).toUInt64 >>> ((nI (2 ^ b)).toInt64.toUInt64 &&& Int64.toUInt64 63)).toInt64) ||| (((f w) &&& ((pwb b) ^^^ (-1))) <<< ((nI (2 ^ b)).toInt64 &&& 63))), (), rfl, (by unfold acr; rw [if_neg (by omega)]; rfl), trivial⟩, hS.F ht⟩) hS.2.2 dX1_acrossBit_56
  · refine lv_aload_n hx hb dX1_acrossBit_6 rfl (lv_at hl 0 rfl) ?_
    refine lv_iload_n hx hb dX1_acrossBit_7 rfl (lv_at hl 1 rfl) ?_
    refine lv_iconst (v := nI 1) hx hb dX1_acrossBit_8 (by decide) ?_
    refine lv_iload_n hx hb dX1_acrossBit_9 rfl (lv_at hl 2 rfl) ?_
    refine lv_bipush (v := nI 6) hx hb dX1_acrossBit_10 (by decide) ?_
    refine xa_isub hx hb (by omega) dX1_acrossBit_12 ?_
    refine xa_ishl1 hx hb (by omega) dX1_acrossBit_13 ?_
    refine xa_ixor hx hb dX1_acrossBit_14 ?_
    have hxw := xw_lt (N := N) hw hbN c_3
    refine xa_lald hx hb hK hP 0 0 rfl rfl (w := w ^^^ (2 ^ (b - 6))) (by omega) (by omega) dX1_acrossBit_15 ?_
    exact W.lret (v := (f (w ^^^ (2 ^ (b - 6))))) hx hb hr (fun t ht hW => ⟨⟨(f (w ^^^ (2 ^ (b - 6)))), (), rfl, (by unfold acr; rw [if_pos c_3]), trivial⟩, hS.F ht⟩) hS.2.2 dX1_acrossBit_16
