set_option maxHeartbeats 4000000 in
set_option maxRecDepth 100000 in
/-- ForkDeskModel(v) -/
theorem c_minit (l : Launch) (D : va_G) (sz : Nat) (v : Int32) (h0 : Nat) (cZ cI : ClassId) : Met l yX2_init wsX2_init ({ frames := 1, cells := 3, slots := 137216, locals := 20 } : Room) (va_Pc [.ref h0, .int v] (wp0 D [(h0, .inr (2, [.int 0, .int 0, .int 0, .null, .null, .null]))] [(cZ, .boolean), (cI, .int)] (va_A [(h0, .inr (2, [.int 0, .int 0, .int 0, .null, .null, .null]))] sz) sz)) (va_Qv (fun (_ : Nat × Nat × Nat) => True) (fun (u : Nat × Nat × Nat) t => va_P D vwCl (mmW (nOf v) h0 cZ cI u) t.heap ∧ va_D (va_A [(h0, .inr (2, [.int 0, .int 0, .int 0, .null, .null, .null]))] sz) (mmW (nOf v) h0 cZ cI u)) (va_A [(h0, .inr (2, [.int 0, .int 0, .int 0, .null, .null, .null]))] sz)) 3 137216 (va_A [(h0, .inr (2, [.int 0, .int 0, .int 0, .null, .null, .null]))] sz) := by
  refine Met.ofW (cc := cX2_init) (maxL := 2) (ret := none) (by decide) rfl ?_
  intro p e s m args below meth c s₁ B hml hv
  obtain ⟨rfl, hsz, hP, hK, htb⟩ := hv
  have hx := B.exec
  have hb := B.bytes
  have hr := B.returns
  have hts := atoms_spec (ws := wsX2_init) B.pre
  have hown : s.vm.findClass RX2 = some m.cls := findClass_of_methodNamed B.named
  have hlocks := B.notSynchronized
  have hin : meth.name = "<init>" := (name_of_methodNamed B.named B.method).1
  subst hsz
  generalize hAe : va_A [(h0, .inr (2, [.int 0, .int 0, .int 0, .null, .null, .null]))] s.heap.size = A at htb ⊢
  have hA : ∀ q : Nat, s.heap.size ≤ q → A q := fun q h => by rw [← hAe]; exact Or.inr h
  have hD : va_D A [(h0, .inr (2, [.int 0, .int 0, .int 0, .null, .null, .null]))] := one_D (by rw [← hAe]; exact Or.inl ⟨0, _, rfl⟩)
  have hS : va_S A s.heap s.heap [] := va_S.rf
  have hl := lv_entry ([.ref h0, .int v]) (n := 2) (Nat.le_of_ble_eq_true rfl)
  rw [lg_entry_eq]
  generalize (lg_sl ([.ref h0, .int v]) ++ List.replicate (2 - (lg_sl ([.ref h0, .int v])).length) Slot.unset).toArray = ls at hl ⊢
  have hl : lv_has ls 2 [(0, .ref h0), (1, .int v)] := hl
  obtain ⟨hn1, hn12⟩ := nOf_le v
  refine lv_aload_n hx hb dX2_init_0 rfl (lv_at hl 0 rfl) ?_
  refine W.objInit hx hb hown (hts (.methodLink RX2 1 objectInit) (by decide +kernel)) (hts (.instanceMethod objectInit) (by decide +kernel)) (hts _ (List.mem_cons_of_mem _ (List.mem_append_left _ (List.mem_of_getElem? (i := 2) rfl)))) rfl (by rw [hml]; exact hl.1) rfl dX2_init_1 (Nat.le_of_ble_eq_true rfl) (Nat.le_of_ble_eq_true rfl) ?_
  refine W.eq (g2 := F0 m 4 ls []) rfl ?_
  refine lv_aload_n hx hb dX2_init_4 rfl (lv_at hl 0 rfl) ?_
  refine lv_ldc (v := nI 131072) hx hb hown (hts (.constant RX2 7 131072) (by decide +kernel)) dX2_init_5 ?_
  refine xc_newz hx hb (hts (.arrayClass .boolean) (by decide +kernel)) hK 0 rfl hP hD hS hA (by omega) (Nat.le_of_ble_eq_true rfl) (Nat.le_of_ble_eq_true rfl) dX2_init_7 (fun q7 H hP hD hS => ?_)
  have hP : va_P D vwCl ([(h0, .inr (2, [.int 0, .int 0, .int 0, .null, .null, .null])), (q7, .inl (cZ, 131072, .inl (bz (fun _ => false))))]) H := hP
  have hD : va_D A ([(h0, .inr (2, [.int 0, .int 0, .int 0, .null, .null, .null])), (q7, .inl (cZ, 131072, .inl (bz (fun _ => false))))]) := hD
  refine va_putF (D := D) (ci := 2) (v := .ref q7) (ty := .array .boolean) (C := RX2) (T := TX2) (N := 6) hx hb hts (by decide +kernel) tyX2 tyX2_ok nmX2 hown hK hP hD hS 0 rfl rfl 3 (by decide) (hts (.fieldLink RX2 8 "ForkDeskModel" "rows" "[Z") (by decide +kernel)) (fun _ h9 => h9) rfl hin rfl (by decide +kernel) rfl rfl (Nat.le_of_ble_eq_true rfl) dX2_init_9 (fun H locs hP hD hS => ?_)
  have hP : va_P D vwCl ([(h0, .inr (2, [.int 0, .int 0, .int 0, .ref q7, .null, .null])), (q7, .inl (cZ, 131072, .inl (bz (fun _ => false))))]) H := hP
  have hD : va_D A ([(h0, .inr (2, [.int 0, .int 0, .int 0, .ref q7, .null, .null])), (q7, .inl (cZ, 131072, .inl (bz (fun _ => false))))]) := hD
  refine lv_aload_n hx hb dX2_init_12 rfl (lv_at hl 0 rfl) ?_
  refine lv_sipush (v := nI 4096) hx hb dX2_init_13 (by decide) ?_
  refine xc_newz hx hb (hts (.arrayClass .boolean) (by decide +kernel)) hK 0 rfl hP hD hS hA (by omega) (Nat.le_of_ble_eq_true rfl) (Nat.le_of_ble_eq_true rfl) dX2_init_16 (fun q16 H hP hD hS => ?_)
  have hP : va_P D vwCl ([(h0, .inr (2, [.int 0, .int 0, .int 0, .ref q7, .null, .null])), (q7, .inl (cZ, 131072, .inl (bz (fun _ => false)))), (q16, .inl (cZ, 4096, .inl (bz (fun _ => false))))]) H := hP
  have hD : va_D A ([(h0, .inr (2, [.int 0, .int 0, .int 0, .ref q7, .null, .null])), (q7, .inl (cZ, 131072, .inl (bz (fun _ => false)))), (q16, .inl (cZ, 4096, .inl (bz (fun _ => false))))]) := hD
  refine va_putF (D := D) (ci := 2) (v := .ref q16) (ty := .array .boolean) (C := RX2) (T := TX2) (N := 6) hx hb hts (by decide +kernel) tyX2 tyX2_ok nmX2 hown hK hP hD hS 0 rfl rfl 4 (by decide) (hts (.fieldLink RX2 14 "ForkDeskModel" "made" "[Z") (by decide +kernel)) (fun _ h9 => h9) rfl hin rfl (by decide +kernel) rfl rfl (Nat.le_of_ble_eq_true rfl) dX2_init_18 (fun H locs hP hD hS => ?_)
  have hP : va_P D vwCl ([(h0, .inr (2, [.int 0, .int 0, .int 0, .ref q7, .ref q16, .null])), (q7, .inl (cZ, 131072, .inl (bz (fun _ => false)))), (q16, .inl (cZ, 4096, .inl (bz (fun _ => false))))]) H := hP
  have hD : va_D A ([(h0, .inr (2, [.int 0, .int 0, .int 0, .ref q7, .ref q16, .null])), (q7, .inl (cZ, 131072, .inl (bz (fun _ => false)))), (q16, .inl (cZ, 4096, .inl (bz (fun _ => false))))]) := hD
  refine lv_aload_n hx hb dX2_init_21 rfl (lv_at hl 0 rfl) ?_
  refine lv_sipush (v := nI 2048) hx hb dX2_init_22 (by decide) ?_
  refine xc_newi hx hb (hts (.arrayClass .int) (by decide +kernel)) hK 1 rfl hP hD hS hA (by omega) (Nat.le_of_ble_eq_true rfl) (Nat.le_of_ble_eq_true rfl) dX2_init_25 (fun q25 H hP hD hS => ?_)
  have hP : va_P D vwCl ([(h0, .inr (2, [.int 0, .int 0, .int 0, .ref q7, .ref q16, .null])), (q7, .inl (cZ, 131072, .inl (bz (fun _ => false)))), (q16, .inl (cZ, 4096, .inl (bz (fun _ => false)))), (q25, .inl (cI, 2048, .inl (fun _ => 0)))]) H := hP
  have hD : va_D A ([(h0, .inr (2, [.int 0, .int 0, .int 0, .ref q7, .ref q16, .null])), (q7, .inl (cZ, 131072, .inl (bz (fun _ => false)))), (q16, .inl (cZ, 4096, .inl (bz (fun _ => false)))), (q25, .inl (cI, 2048, .inl (fun _ => 0)))]) := hD
  refine va_putF (D := D) (ci := 2) (v := .ref q25) (ty := .array .int) (C := RX2) (T := TX2) (N := 6) hx hb hts (by decide +kernel) tyX2 tyX2_ok nmX2 hown hK hP hD hS 0 rfl rfl 5 (by decide) (hts (.fieldLink RX2 17 "ForkDeskModel" "parts" "[I") (by decide +kernel)) (fun _ h9 => h9) rfl hin rfl (by decide +kernel) rfl rfl (Nat.le_of_ble_eq_true rfl) dX2_init_27 (fun H locs hP hD hS => ?_)
  have hP : va_P D vwCl ([(h0, .inr (2, [.int 0, .int 0, .int 0, .ref q7, .ref q16, .ref q25])), (q7, .inl (cZ, 131072, .inl (bz (fun _ => false)))), (q16, .inl (cZ, 4096, .inl (bz (fun _ => false)))), (q25, .inl (cI, 2048, .inl (fun _ => 0)))]) H := hP
  have hD : va_D A ([(h0, .inr (2, [.int 0, .int 0, .int 0, .ref q7, .ref q16, .ref q25])), (q7, .inl (cZ, 131072, .inl (bz (fun _ => false)))), (q16, .inl (cZ, 4096, .inl (bz (fun _ => false)))), (q25, .inl (cI, 2048, .inl (fun _ => 0)))]) := hD
  refine lv_aload_n hx hb dX2_init_30 rfl (lv_at hl 0 rfl) ?_
  refine lv_iload_n hx hb dX2_init_31 rfl (lv_at hl 1 rfl) ?_
  refine lv_iconst (v := nI 1) hx hb dX2_init_32 (by decide) ?_
  refine lv_icmp_ge (tgt := 40) hx hb dX2_init_33 (by decide) (fun c_33 => ?_) (fun c_33 => ?_)
  · refine lv_iload_n hx hb dX2_init_40 rfl (lv_at hl 1 rfl) ?_
    refine lv_bipush (v := nI 12) hx hb dX2_init_41 (by decide) ?_
    refine lv_icmp_le (tgt := 51) hx hb dX2_init_43 (by decide) (fun c_43 => ?_) (fun c_43 => ?_)
    · refine lv_iload_n hx hb dX2_init_51 rfl (lv_at hl 1 rfl) ?_
      refine W.eq (g2 := F0 m 52 ls [.int (nI (nOf v)), .ref h0]) (congrArg (fun z => F0 m 52 ls [.int z, .ref h0]) (show v = nI (nOf v) from (by have h1 : ¬ v < nI 1 := (fun q => by rw [Int32.lt_iff_toInt_lt] at q; rw [Int32.le_iff_toInt_le] at c_33; omega); have h2 : ¬ nI 12 < v := (fun q => by rw [Int32.lt_iff_toInt_lt] at q; rw [Int32.le_iff_toInt_le] at c_43; omega); unfold nOf; rw [if_neg h1, if_neg h2]; exact nOf_mid h1 h2))) ?_
      refine va_putF (D := D) (ci := 2) (v := .int (nI (nOf v))) (ty := .int) (C := RX2) (T := TX2) (N := 6) hx hb hts (by decide +kernel) tyX2 tyX2_ok nmX2 hown hK hP hD hS 0 rfl rfl 1 (by decide) (hts (.fieldLink RX2 21 "ForkDeskModel" "n" "I") (by decide +kernel)) (fun _ h9 => h9) rfl hin rfl (by decide +kernel) rfl rfl (Nat.le_of_ble_eq_true rfl) dX2_init_52 (fun H locs hP hD hS => ?_)
      have hP : va_P D vwCl ([(h0, .inr (2, [.int 0, .int (nI (nOf v)), .int 0, .ref q7, .ref q16, .ref q25])), (q7, .inl (cZ, 131072, .inl (bz (fun _ => false)))), (q16, .inl (cZ, 4096, .inl (bz (fun _ => false)))), (q25, .inl (cI, 2048, .inl (fun _ => 0)))]) H := hP
      have hD : va_D A ([(h0, .inr (2, [.int 0, .int (nI (nOf v)), .int 0, .ref q7, .ref q16, .ref q25])), (q7, .inl (cZ, 131072, .inl (bz (fun _ => false)))), (q16, .inl (cZ, 4096, .inl (bz (fun _ => false)))), (q25, .inl (cI, 2048, .inl (fun _ => 0)))]) := hD
      refine lv_aload_n hx hb dX2_init_55 rfl (lv_at hl 0 rfl) ?_
      refine lv_iconst (v := nI 1) hx hb dX2_init_56 (by decide) ?_
      refine lv_aload_n hx hb dX2_init_57 rfl (lv_at hl 0 rfl) ?_
      refine va_get (D := D) (ci := 2) (C := RX2) (T := TX2) (N := 6) hx hb hts (by decide +kernel) hown hK hP 0 rfl rfl 1 (by decide) (hts (.fieldLink RX2 21 "ForkDeskModel" "n" "I") (by decide +kernel)) (fun _ h9 => h9) rfl dX2_init_58 ?_
      refine xa_ishl1 hx hb (by omega) dX2_init_61 ?_
      refine va_putF (D := D) (ci := 2) (v := .int (nI (2 ^ nOf v))) (ty := .int) (C := RX2) (T := TX2) (N := 6) hx hb hts (by decide +kernel) tyX2 tyX2_ok nmX2 hown hK hP hD hS 0 rfl rfl 2 (by decide) (hts (.fieldLink RX2 25 "ForkDeskModel" "points" "I") (by decide +kernel)) (fun _ h9 => h9) rfl hin rfl (by decide +kernel) rfl rfl (Nat.le_of_ble_eq_true rfl) dX2_init_62 (fun H locs hP hD hS => ?_)
      have hP : va_P D vwCl ([(h0, .inr (2, [.int 0, .int (nI (nOf v)), .int (nI (2 ^ nOf v)), .ref q7, .ref q16, .ref q25])), (q7, .inl (cZ, 131072, .inl (bz (fun _ => false)))), (q16, .inl (cZ, 4096, .inl (bz (fun _ => false)))), (q25, .inl (cI, 2048, .inl (fun _ => 0)))]) H := hP
      have hD : va_D A ([(h0, .inr (2, [.int 0, .int (nI (nOf v)), .int (nI (2 ^ nOf v)), .ref q7, .ref q16, .ref q25])), (q7, .inl (cZ, 131072, .inl (bz (fun _ => false)))), (q16, .inl (cZ, 4096, .inl (bz (fun _ => false)))), (q25, .inl (cI, 2048, .inl (fun _ => 0)))]) := hD
      exact W.vret hx hb hr (fun t ht hW => ⟨⟨(q7, q16, q25), rfl, trivial, by show va_P _ _ _ _ ∧ _; rw [ht]; exact ⟨hP, hD⟩⟩, hS.F ht⟩) hS.2.2 dX2_init_65
    · refine lv_bipush (v := nI 12) hx hb dX2_init_46 (by decide) ?_
      refine lv_goto (tgt := 52) hx hb dX2_init_48 (by decide) ?_
      refine W.eq (g2 := F0 m 52 ls [.int (nI (nOf v)), .ref h0]) (congrArg (fun z => F0 m 52 ls [.int z, .ref h0]) (show (nI 12) = nI (nOf v) from (by unfold nOf; rw [if_neg (fun q => by rw [Int32.lt_iff_toInt_lt] at q; rw [Int32.le_iff_toInt_le] at c_33; omega), if_pos (Int32.not_le.mp c_43)]))) ?_
      refine va_putF (D := D) (ci := 2) (v := .int (nI (nOf v))) (ty := .int) (C := RX2) (T := TX2) (N := 6) hx hb hts (by decide +kernel) tyX2 tyX2_ok nmX2 hown hK hP hD hS 0 rfl rfl 1 (by decide) (hts (.fieldLink RX2 21 "ForkDeskModel" "n" "I") (by decide +kernel)) (fun _ h9 => h9) rfl hin rfl (by decide +kernel) rfl rfl (Nat.le_of_ble_eq_true rfl) dX2_init_52 (fun H locs hP hD hS => ?_)
      have hP : va_P D vwCl ([(h0, .inr (2, [.int 0, .int (nI (nOf v)), .int 0, .ref q7, .ref q16, .ref q25])), (q7, .inl (cZ, 131072, .inl (bz (fun _ => false)))), (q16, .inl (cZ, 4096, .inl (bz (fun _ => false)))), (q25, .inl (cI, 2048, .inl (fun _ => 0)))]) H := hP
      have hD : va_D A ([(h0, .inr (2, [.int 0, .int (nI (nOf v)), .int 0, .ref q7, .ref q16, .ref q25])), (q7, .inl (cZ, 131072, .inl (bz (fun _ => false)))), (q16, .inl (cZ, 4096, .inl (bz (fun _ => false)))), (q25, .inl (cI, 2048, .inl (fun _ => 0)))]) := hD
      refine lv_aload_n hx hb dX2_init_55 rfl (lv_at hl 0 rfl) ?_
      refine lv_iconst (v := nI 1) hx hb dX2_init_56 (by decide) ?_
      refine lv_aload_n hx hb dX2_init_57 rfl (lv_at hl 0 rfl) ?_
      refine va_get (D := D) (ci := 2) (C := RX2) (T := TX2) (N := 6) hx hb hts (by decide +kernel) hown hK hP 0 rfl rfl 1 (by decide) (hts (.fieldLink RX2 21 "ForkDeskModel" "n" "I") (by decide +kernel)) (fun _ h9 => h9) rfl dX2_init_58 ?_
      refine xa_ishl1 hx hb (by omega) dX2_init_61 ?_
      refine va_putF (D := D) (ci := 2) (v := .int (nI (2 ^ nOf v))) (ty := .int) (C := RX2) (T := TX2) (N := 6) hx hb hts (by decide +kernel) tyX2 tyX2_ok nmX2 hown hK hP hD hS 0 rfl rfl 2 (by decide) (hts (.fieldLink RX2 25 "ForkDeskModel" "points" "I") (by decide +kernel)) (fun _ h9 => h9) rfl hin rfl (by decide +kernel) rfl rfl (Nat.le_of_ble_eq_true rfl) dX2_init_62 (fun H locs hP hD hS => ?_)
      have hP : va_P D vwCl ([(h0, .inr (2, [.int 0, .int (nI (nOf v)), .int (nI (2 ^ nOf v)), .ref q7, .ref q16, .ref q25])), (q7, .inl (cZ, 131072, .inl (bz (fun _ => false)))), (q16, .inl (cZ, 4096, .inl (bz (fun _ => false)))), (q25, .inl (cI, 2048, .inl (fun _ => 0)))]) H := hP
      have hD : va_D A ([(h0, .inr (2, [.int 0, .int (nI (nOf v)), .int (nI (2 ^ nOf v)), .ref q7, .ref q16, .ref q25])), (q7, .inl (cZ, 131072, .inl (bz (fun _ => false)))), (q16, .inl (cZ, 4096, .inl (bz (fun _ => false)))), (q25, .inl (cI, 2048, .inl (fun _ => 0)))]) := hD
      exact W.vret hx hb hr (fun t ht hW => ⟨⟨(q7, q16, q25), rfl, trivial, by show va_P _ _ _ _ ∧ _; rw [ht]; exact ⟨hP, hD⟩⟩, hS.F ht⟩) hS.2.2 dX2_init_65
  · refine lv_iconst (v := nI 1) hx hb dX2_init_36 (by decide) ?_
    refine lv_goto (tgt := 52) hx hb dX2_init_37 (by decide) ?_
    refine W.eq (g2 := F0 m 52 ls [.int (nI (nOf v)), .ref h0]) (congrArg (fun z => F0 m 52 ls [.int z, .ref h0]) (show (nI 1) = nI (nOf v) from (by unfold nOf; rw [if_pos (Int32.not_le.mp c_33)]))) ?_
    refine va_putF (D := D) (ci := 2) (v := .int (nI (nOf v))) (ty := .int) (C := RX2) (T := TX2) (N := 6) hx hb hts (by decide +kernel) tyX2 tyX2_ok nmX2 hown hK hP hD hS 0 rfl rfl 1 (by decide) (hts (.fieldLink RX2 21 "ForkDeskModel" "n" "I") (by decide +kernel)) (fun _ h9 => h9) rfl hin rfl (by decide +kernel) rfl rfl (Nat.le_of_ble_eq_true rfl) dX2_init_52 (fun H locs hP hD hS => ?_)
    have hP : va_P D vwCl ([(h0, .inr (2, [.int 0, .int (nI (nOf v)), .int 0, .ref q7, .ref q16, .ref q25])), (q7, .inl (cZ, 131072, .inl (bz (fun _ => false)))), (q16, .inl (cZ, 4096, .inl (bz (fun _ => false)))), (q25, .inl (cI, 2048, .inl (fun _ => 0)))]) H := hP
    have hD : va_D A ([(h0, .inr (2, [.int 0, .int (nI (nOf v)), .int 0, .ref q7, .ref q16, .ref q25])), (q7, .inl (cZ, 131072, .inl (bz (fun _ => false)))), (q16, .inl (cZ, 4096, .inl (bz (fun _ => false)))), (q25, .inl (cI, 2048, .inl (fun _ => 0)))]) := hD
    refine lv_aload_n hx hb dX2_init_55 rfl (lv_at hl 0 rfl) ?_
    refine lv_iconst (v := nI 1) hx hb dX2_init_56 (by decide) ?_
    refine lv_aload_n hx hb dX2_init_57 rfl (lv_at hl 0 rfl) ?_
    refine va_get (D := D) (ci := 2) (C := RX2) (T := TX2) (N := 6) hx hb hts (by decide +kernel) hown hK hP 0 rfl rfl 1 (by decide) (hts (.fieldLink RX2 21 "ForkDeskModel" "n" "I") (by decide +kernel)) (fun _ h9 => h9) rfl dX2_init_58 ?_
    refine xa_ishl1 hx hb (by omega) dX2_init_61 ?_
    refine va_putF (D := D) (ci := 2) (v := .int (nI (2 ^ nOf v))) (ty := .int) (C := RX2) (T := TX2) (N := 6) hx hb hts (by decide +kernel) tyX2 tyX2_ok nmX2 hown hK hP hD hS 0 rfl rfl 2 (by decide) (hts (.fieldLink RX2 25 "ForkDeskModel" "points" "I") (by decide +kernel)) (fun _ h9 => h9) rfl hin rfl (by decide +kernel) rfl rfl (Nat.le_of_ble_eq_true rfl) dX2_init_62 (fun H locs hP hD hS => ?_)
    have hP : va_P D vwCl ([(h0, .inr (2, [.int 0, .int (nI (nOf v)), .int (nI (2 ^ nOf v)), .ref q7, .ref q16, .ref q25])), (q7, .inl (cZ, 131072, .inl (bz (fun _ => false)))), (q16, .inl (cZ, 4096, .inl (bz (fun _ => false)))), (q25, .inl (cI, 2048, .inl (fun _ => 0)))]) H := hP
    have hD : va_D A ([(h0, .inr (2, [.int 0, .int (nI (nOf v)), .int (nI (2 ^ nOf v)), .ref q7, .ref q16, .ref q25])), (q7, .inl (cZ, 131072, .inl (bz (fun _ => false)))), (q16, .inl (cZ, 4096, .inl (bz (fun _ => false)))), (q25, .inl (cI, 2048, .inl (fun _ => 0)))]) := hD
    exact W.vret hx hb hr (fun t ht hW => ⟨⟨(q7, q16, q25), rfl, trivial, by show va_P _ _ _ _ ∧ _; rw [ht]; exact ⟨hP, hD⟩⟩, hS.F ht⟩) hS.2.2 dX2_init_65
