set_option maxHeartbeats 4000000 in
set_option maxRecDepth 100000 in
/-- ForkDesk(v) -/
theorem c_dinit (l : Launch) (D : va_G) (sz : Nat) (v : Int32) (h0 : Nat) (cJJ cJ cI : ClassId) : Met l yX1_init wsX1_init ({ frames := 2, cells := 41, slots := 12600, locals := 60 } : Room) (va_Pc [.ref h0, .int v] (wp1 D [(h0, .inr (1, [.int 0, .int 0, .int 0, .int 0, .long 0, .null, .null, .null, .null, .null]))] (dkT cJJ cJ cI) (va_A [(h0, .inr (1, [.int 0, .int 0, .int 0, .int 0, .long 0, .null, .null, .null, .null, .null]))] sz) sz)) (va_Qv (fun (_ : Nat → Nat) => True) (fun (ad : Nat → Nat) t => ad 0 = h0 ∧ aok (va_A [(h0, .inr (1, [.int 0, .int 0, .int 0, .int 0, .long 0, .null, .null, .null, .null, .null]))] sz) ad ∧ va_P D vwCl (dkW (nOf v) ad cJJ cJ cI (fun _ => 0) (fun _ => 0) (fun _ => 0) (fun _ => 0) (fun _ => 0) (fun _ => 0) (fun _ => 0) (fun _ _ => 0)) t.heap) (va_A [(h0, .inr (1, [.int 0, .int 0, .int 0, .int 0, .long 0, .null, .null, .null, .null, .null]))] sz)) 41 12600 (va_A [(h0, .inr (1, [.int 0, .int 0, .int 0, .int 0, .long 0, .null, .null, .null, .null, .null]))] sz) := by
  refine Met.ofW (cc := cX1_init) (maxL := 2) (ret := none) (by decide) rfl ?_
  intro p e s m args below meth c s₁ B hml hv
  obtain ⟨rfl, ⟨hsz, hP, hK, htb⟩, hAO⟩ := hv
  have hx := B.exec
  have hb := B.bytes
  have hr := B.returns
  have hts := atoms_spec (ws := wsX1_init) B.pre
  have hown : s.vm.findClass RX1 = some m.cls := findClass_of_methodNamed B.named
  have hlocks := B.notSynchronized
  have hin : meth.name = "<init>" := (name_of_methodNamed B.named B.method).1
  subst hsz
  generalize hAe : va_A [(h0, .inr (1, [.int 0, .int 0, .int 0, .int 0, .long 0, .null, .null, .null, .null, .null]))] s.heap.size = A at htb ⊢
  have hA : ∀ q : Nat, s.heap.size ≤ q → A q := fun q h => by rw [← hAe]; exact Or.inr h
  have hD : va_D A [(h0, .inr (1, [.int 0, .int 0, .int 0, .int 0, .long 0, .null, .null, .null, .null, .null]))] := one_D (by rw [← hAe]; exact Or.inl ⟨0, _, rfl⟩)
  have hS : va_S A s.heap s.heap [] := va_S.rf
  have hl := lv_entry ([.ref h0, .int v]) (n := 2) (Nat.le_of_ble_eq_true rfl)
  rw [lg_entry_eq]
  generalize (lg_sl ([.ref h0, .int v]) ++ List.replicate (2 - (lg_sl ([.ref h0, .int v])).length) Slot.unset).toArray = ls at hl ⊢
  have hl : lv_has ls 2 [(0, .ref h0), (1, .int v)] := hl
  obtain ⟨hn1, hn12⟩ := nOf_le v
  generalize hNN : nOf v = N at hn1 hn12 ⊢
  have hnp := np_le hn12
  have hnw := nw_le hn12
  have hpw := pw_le N
  have hnp0 : 0 < 2 ^ N := Nat.two_pow_pos N
  refine lv_aload_n hx hb dX1_init_0 rfl (lv_at hl 0 rfl) ?_
  refine W.objInit hx hb hown (hts (.methodLink RX1 1 objectInit) (by decide +kernel)) (hts (.instanceMethod objectInit) (by decide +kernel)) (hts _ (List.mem_cons_of_mem _ (List.mem_append_left _ (List.mem_append_left _ (List.mem_append_left _ (List.mem_of_getElem? (i := 2) rfl)))))) rfl (by rw [hml]; exact hl.1) rfl dX1_init_1 (Nat.le_of_ble_eq_true rfl) (Nat.le_of_ble_eq_true rfl) ?_
  refine W.eq (g2 := F0 m 4 ls []) rfl ?_
  refine lv_aload_n hx hb dX1_init_4 rfl (lv_at hl 0 rfl) ?_
  refine lv_iconst (v := nI 1) hx hb dX1_init_5 (by decide) ?_
  refine lv_bipush (v := nI 12) hx hb dX1_init_6 (by decide) ?_
  refine lv_iload_n hx hb dX1_init_8 rfl (lv_at hl 1 rfl) ?_
  refine va_mmin hx hb (by rw [hml]; exact hl.1.symm) hown (hts (.methodLink RX1 9 Lib.Math.min.name) (by decide +kernel)) (hts (.static Lib.Math.min.name) (by decide +kernel)) (hts (.initialized "java/lang/Math") (by decide +kernel)) (hts _ (List.mem_cons_of_mem _ (List.mem_append_left _ (List.mem_append_left _ (List.mem_append_left _ (List.mem_of_getElem? (i := 6) rfl)))))) (Nat.le_of_ble_eq_true rfl) (Nat.le_of_ble_eq_true rfl) (Nat.le_of_ble_eq_true rfl) (by show _ ≤ 12600; omega) dX1_init_9 ?_
  refine va_mmax hx hb (by rw [hml]; exact hl.1.symm) hown (hts (.methodLink RX1 15 Lib.Math.max.name) (by decide +kernel)) (hts (.static Lib.Math.max.name) (by decide +kernel)) (hts (.initialized "java/lang/Math") (by decide +kernel)) (hts _ (List.mem_cons_of_mem _ (List.mem_append_left _ (List.mem_append_left _ (List.mem_append_left _ (List.mem_of_getElem? (i := 9) rfl)))))) (Nat.le_of_ble_eq_true rfl) (Nat.le_of_ble_eq_true rfl) (Nat.le_of_ble_eq_true rfl) (by show _ ≤ 12600; omega) dX1_init_12 ?_
  refine W.eq (g2 := F0 m 15 ls [.int (nI N), .ref h0]) (congrArg (fun z => F0 m 15 ls [.int z, .ref h0]) ((nOf_mm v).trans (by rw [hNN]))) ?_
  refine va_putF (D := D) (ci := 1) (v := .int (nI N)) (ty := .int) (C := RX1) (T := TX1) (N := 10) hx hb hts (by decide +kernel) tyX1 tyX1_ok nmX1 hown hK hP hD hS 0 rfl rfl 0 (by decide) (hts (.fieldLink RX1 18 "ForkDesk" "variables" "I") (by decide +kernel)) (fun _ h9 => h9) rfl hin rfl (by decide +kernel) rfl rfl (Nat.le_of_ble_eq_true rfl) dX1_init_15 (fun H locs hP hD hS => ?_)
  have hP : va_P D vwCl ([(h0, .inr (1, [.int (nI N), .int 0, .int 0, .int 0, .long 0, .null, .null, .null, .null, .null]))]) H := hP
  have hD : va_D A ([(h0, .inr (1, [.int (nI N), .int 0, .int 0, .int 0, .long 0, .null, .null, .null, .null, .null]))]) := hD
  refine lv_aload_n hx hb dX1_init_18 rfl (lv_at hl 0 rfl) ?_
  refine lv_iconst (v := nI 1) hx hb dX1_init_19 (by decide) ?_
  refine lv_aload_n hx hb dX1_init_20 rfl (lv_at hl 0 rfl) ?_
  refine va_get (D := D) (ci := 1) (C := RX1) (T := TX1) (N := 10) hx hb hts (by decide +kernel) hown hK hP 0 rfl rfl 0 (by decide) (hts (.fieldLink RX1 18 "ForkDesk" "variables" "I") (by decide +kernel)) (fun _ h9 => h9) rfl dX1_init_21 ?_
  refine xa_ishl1 hx hb (by omega) dX1_init_24 ?_
  refine va_putF (D := D) (ci := 1) (v := .int (nI (2 ^ N))) (ty := .int) (C := RX1) (T := TX1) (N := 10) hx hb hts (by decide +kernel) tyX1 tyX1_ok nmX1 hown hK hP hD hS 0 rfl rfl 1 (by decide) (hts (.fieldLink RX1 22 "ForkDesk" "points" "I") (by decide +kernel)) (fun _ h9 => h9) rfl hin rfl (by decide +kernel) rfl rfl (Nat.le_of_ble_eq_true rfl) dX1_init_25 (fun H locs hP hD hS => ?_)
  have hP : va_P D vwCl ([(h0, .inr (1, [.int (nI N), .int (nI (2 ^ N)), .int 0, .int 0, .long 0, .null, .null, .null, .null, .null]))]) H := hP
  have hD : va_D A ([(h0, .inr (1, [.int (nI N), .int (nI (2 ^ N)), .int 0, .int 0, .long 0, .null, .null, .null, .null, .null]))]) := hD
  refine lv_aload_n hx hb dX1_init_28 rfl (lv_at hl 0 rfl) ?_
  refine lv_iconst (v := nI 1) hx hb dX1_init_29 (by decide) ?_
  refine lv_aload_n hx hb dX1_init_30 rfl (lv_at hl 0 rfl) ?_
  refine va_get (D := D) (ci := 1) (C := RX1) (T := TX1) (N := 10) hx hb hts (by decide +kernel) hown hK hP 0 rfl rfl 1 (by decide) (hts (.fieldLink RX1 22 "ForkDesk" "points" "I") (by decide +kernel)) (fun _ h9 => h9) rfl dX1_init_31 ?_
  refine lv_bipush (v := nI 64) hx hb dX1_init_34 (by decide) ?_
  refine xa_idiv hx hb (by omega) (by omega) (by omega) dX1_init_36 ?_
  refine va_mmax hx hb (by rw [hml]; exact hl.1.symm) hown (hts (.methodLink RX1 15 Lib.Math.max.name) (by decide +kernel)) (hts (.static Lib.Math.max.name) (by decide +kernel)) (hts (.initialized "java/lang/Math") (by decide +kernel)) (hts _ (List.mem_cons_of_mem _ (List.mem_append_left _ (List.mem_append_left _ (List.mem_append_left _ (List.mem_of_getElem? (i := 9) rfl)))))) (Nat.le_of_ble_eq_true rfl) (Nat.le_of_ble_eq_true rfl) (Nat.le_of_ble_eq_true rfl) (by show _ ≤ 12600; omega) dX1_init_37 ?_
  rw [mx_nI (by omega) (by omega)]
  rw [nw_eq]
  refine va_putF (D := D) (ci := 1) (v := .int (nI (nw N))) (ty := .int) (C := RX1) (T := TX1) (N := 10) hx hb hts (by decide +kernel) tyX1 tyX1_ok nmX1 hown hK hP hD hS 0 rfl rfl 2 (by decide) (hts (.fieldLink RX1 25 "ForkDesk" "words" "I") (by decide +kernel)) (fun _ h9 => h9) rfl hin rfl (by decide +kernel) rfl rfl (Nat.le_of_ble_eq_true rfl) dX1_init_40 (fun H locs hP hD hS => ?_)
  have hP : va_P D vwCl ([(h0, .inr (1, [.int (nI N), .int (nI (2 ^ N)), .int (nI (nw N)), .int 0, .long 0, .null, .null, .null, .null, .null]))]) H := hP
  have hD : va_D A ([(h0, .inr (1, [.int (nI N), .int (nI (2 ^ N)), .int (nI (nw N)), .int 0, .long 0, .null, .null, .null, .null, .null]))]) := hD
  refine lv_aload_n hx hb dX1_init_43 rfl (lv_at hl 0 rfl) ?_
  refine lv_bipush (v := nI 64) hx hb dX1_init_44 (by decide) ?_
  refine lv_aload_n hx hb dX1_init_46 rfl (lv_at hl 0 rfl) ?_
  refine va_get (D := D) (ci := 1) (C := RX1) (T := TX1) (N := 10) hx hb hts (by decide +kernel) hown hK hP 0 rfl rfl 1 (by decide) (hts (.fieldLink RX1 22 "ForkDesk" "points" "I") (by decide +kernel)) (fun _ h9 => h9) rfl dX1_init_47 ?_
  refine va_mmin hx hb (by rw [hml]; exact hl.1.symm) hown (hts (.methodLink RX1 9 Lib.Math.min.name) (by decide +kernel)) (hts (.static Lib.Math.min.name) (by decide +kernel)) (hts (.initialized "java/lang/Math") (by decide +kernel)) (hts _ (List.mem_cons_of_mem _ (List.mem_append_left _ (List.mem_append_left _ (List.mem_append_left _ (List.mem_of_getElem? (i := 6) rfl)))))) (Nat.le_of_ble_eq_true rfl) (Nat.le_of_ble_eq_true rfl) (Nat.le_of_ble_eq_true rfl) (by show _ ≤ 12600; omega) dX1_init_50 ?_
  rw [mn_nI (by omega) (by omega)]
  rw [pw_eq]
  refine va_putF (D := D) (ci := 1) (v := .int (nI (pw N))) (ty := .int) (C := RX1) (T := TX1) (N := 10) hx hb hts (by decide +kernel) tyX1 tyX1_ok nmX1 hown hK hP hD hS 0 rfl rfl 3 (by decide) (hts (.fieldLink RX1 28 "ForkDesk" "pointsInWord" "I") (by decide +kernel)) (fun _ h9 => h9) rfl hin rfl (by decide +kernel) rfl rfl (Nat.le_of_ble_eq_true rfl) dX1_init_53 (fun H locs hP hD hS => ?_)
  have hP : va_P D vwCl ([(h0, .inr (1, [.int (nI N), .int (nI (2 ^ N)), .int (nI (nw N)), .int (nI (pw N)), .long 0, .null, .null, .null, .null, .null]))]) H := hP
  have hD : va_D A ([(h0, .inr (1, [.int (nI N), .int (nI (2 ^ N)), .int (nI (nw N)), .int (nI (pw N)), .long 0, .null, .null, .null, .null, .null]))]) := hD
  refine lv_aload_n hx hb dX1_init_56 rfl (lv_at hl 0 rfl) ?_
  refine lv_ldc2 (v := (-1)) hx hb hown (hts (.constantLong RX1 31 (-1)) (by decide +kernel)) dX1_init_57 ?_
  refine lv_bipush (v := nI 64) hx hb dX1_init_60 (by decide) ?_
  refine lv_aload_n hx hb dX1_init_62 rfl (lv_at hl 0 rfl) ?_
  refine va_get (D := D) (ci := 1) (C := RX1) (T := TX1) (N := 10) hx hb hts (by decide +kernel) hown hK hP 0 rfl rfl 3 (by decide) (hts (.fieldLink RX1 28 "ForkDesk" "pointsInWord" "I") (by decide +kernel)) (fun _ h9 => h9) rfl dX1_init_63 ?_
  refine xa_isub hx hb (by omega) dX1_init_66 ?_
  refine lv_lushr (v := ((-1 : Int64).toUInt64 >>> ((nI (64 - (pw N))).toInt64.toUInt64 &&& Int64.toUInt64 63)).toInt64) hx hb dX1_init_67 rfl ?_
  refine W.eq (g2 := F0 m 68 ls [.long (ao N), .ref h0]) rfl ?_
  refine va_putF (D := D) (ci := 1) (v := .long (ao N)) (ty := .long) (C := RX1) (T := TX1) (N := 10) hx hb hts (by decide +kernel) tyX1 tyX1_ok nmX1 hown hK hP hD hS 0 rfl rfl 4 (by decide) (hts (.fieldLink RX1 33 "ForkDesk" "allOnes" "J") (by decide +kernel)) (fun _ h9 => h9) rfl hin rfl (by decide +kernel) rfl rfl (Nat.le_of_ble_eq_true rfl) dX1_init_68 (fun H locs hP hD hS => ?_)
  have hP : va_P D vwCl ([(h0, .inr (1, [.int (nI N), .int (nI (2 ^ N)), .int (nI (nw N)), .int (nI (pw N)), .long (ao N), .null, .null, .null, .null, .null]))]) H := hP
  have hD : va_D A ([(h0, .inr (1, [.int (nI N), .int (nI (2 ^ N)), .int (nI (nw N)), .int (nI (pw N)), .long (ao N), .null, .null, .null, .null, .null]))]) := hD
  refine lv_aload_n hx hb dX1_init_71 rfl (lv_at hl 0 rfl) ?_
  refine lv_bipush (v := nI 32) hx hb dX1_init_72 (by decide) ?_
  refine lv_aload_n hx hb dX1_init_74 rfl (lv_at hl 0 rfl) ?_
  refine va_get (D := D) (ci := 1) (C := RX1) (T := TX1) (N := 10) hx hb hts (by decide +kernel) hown hK hP 0 rfl rfl 2 (by decide) (hts (.fieldLink RX1 25 "ForkDesk" "words" "I") (by decide +kernel)) (fun _ h9 => h9) rfl dX1_init_75 ?_
  refine xc_mna hx hb hown (hts (.classLink RX1 37 "[[J") (by decide +kernel)) (va_AOA.use hAO) (hts (.arrayClass .long) (by decide +kernel)) hK 0 1 rfl rfl hP hD hS hA (by omega) (Nat.le_of_ble_eq_true rfl) (by show _ ≤ 12600; omega) dX1_init_78 (fun q78 r H hP hD hS => ?_)
  have hP : va_P D vwCl ([(h0, .inr (1, [.int (nI N), .int (nI (2 ^ N)), .int (nI (nw N)), .int (nI (pw N)), .long (ao N), .null, .null, .null, .null, .null])), (q78, .inl (cJJ, 32, .inr (.inr (.inr (.inr (fun k => some (r k)))))))] ++ gw r cJ (nw N) 32 (fun _ _ => 0)) H := hP
  have hD : va_D A ([(h0, .inr (1, [.int (nI N), .int (nI (2 ^ N)), .int (nI (nw N)), .int (nI (pw N)), .long (ao N), .null, .null, .null, .null, .null])), (q78, .inl (cJJ, 32, .inr (.inr (.inr (.inr (fun k => some (r k)))))))] ++ gw r cJ (nw N) 32 (fun _ _ => 0)) := hD
  refine va_putF (D := D) (ci := 1) (v := .ref q78) (ty := .array (.array .long)) (C := RX1) (T := TX1) (N := 10) hx hb hts (by decide +kernel) tyX1 tyX1_ok nmX1 hown hK hP hD hS 0 rfl rfl 5 (by decide) (hts (.fieldLink RX1 39 "ForkDesk" "registers" "[[J") (by decide +kernel)) (fun _ h9 => h9) rfl hin rfl (by decide +kernel) rfl rfl (Nat.le_of_ble_eq_true rfl) dX1_init_82 (fun H locs hP hD hS => ?_)
  have hP : va_P D vwCl ([(h0, .inr (1, [.int (nI N), .int (nI (2 ^ N)), .int (nI (nw N)), .int (nI (pw N)), .long (ao N), .ref q78, .null, .null, .null, .null])), (q78, .inl (cJJ, 32, .inr (.inr (.inr (.inr (fun k => some (r k)))))))] ++ gw r cJ (nw N) 32 (fun _ _ => 0)) H := hP
  have hD : va_D A ([(h0, .inr (1, [.int (nI N), .int (nI (2 ^ N)), .int (nI (nw N)), .int (nI (pw N)), .long (ao N), .ref q78, .null, .null, .null, .null])), (q78, .inl (cJJ, 32, .inr (.inr (.inr (.inr (fun k => some (r k)))))))] ++ gw r cJ (nw N) 32 (fun _ _ => 0)) := hD
  refine lv_aload_n hx hb dX1_init_85 rfl (lv_at hl 0 rfl) ?_
  refine lv_aload_n hx hb dX1_init_86 rfl (lv_at hl 0 rfl) ?_
  refine va_get (D := D) (ci := 1) (C := RX1) (T := TX1) (N := 10) hx hb hts (by decide +kernel) hown hK hP 0 rfl rfl 2 (by decide) (hts (.fieldLink RX1 25 "ForkDesk" "words" "I") (by decide +kernel)) (fun _ h9 => h9) rfl dX1_init_87 ?_
  refine xc_newl hx hb (hts (.arrayClass .long) (by decide +kernel)) hK 1 rfl hP hD hS hA (by omega) (Nat.le_of_ble_eq_true rfl) (by show _ ≤ 12600; omega) dX1_init_90 (fun q90 H hP hD hS => ?_)
  have hP : va_P D vwCl (([(h0, .inr (1, [.int (nI N), .int (nI (2 ^ N)), .int (nI (nw N)), .int (nI (pw N)), .long (ao N), .ref q78, .null, .null, .null, .null])), (q78, .inl (cJJ, 32, .inr (.inr (.inr (.inr (fun k => some (r k)))))))] ++ gw r cJ (nw N) 32 (fun _ _ => 0)) ++ [(q90, .inl (cJ, (nw N), .inr (.inl (fun _ => 0))))]) H := hP
  have hD : va_D A (([(h0, .inr (1, [.int (nI N), .int (nI (2 ^ N)), .int (nI (nw N)), .int (nI (pw N)), .long (ao N), .ref q78, .null, .null, .null, .null])), (q78, .inl (cJJ, 32, .inr (.inr (.inr (.inr (fun k => some (r k)))))))] ++ gw r cJ (nw N) 32 (fun _ _ => 0)) ++ [(q90, .inl (cJ, (nw N), .inr (.inl (fun _ => 0))))]) := hD
  refine va_putF (D := D) (ci := 1) (v := .ref q90) (ty := .array .long) (C := RX1) (T := TX1) (N := 10) hx hb hts (by decide +kernel) tyX1 tyX1_ok nmX1 hown hK hP hD hS 0 rfl rfl 6 (by decide) (hts (.fieldLink RX1 42 "ForkDesk" "draft" "[J") (by decide +kernel)) (fun _ h9 => h9) rfl hin rfl (by decide +kernel) rfl rfl (Nat.le_of_ble_eq_true rfl) dX1_init_92 (fun H locs hP hD hS => ?_)
  have hP : va_P D vwCl (([(h0, .inr (1, [.int (nI N), .int (nI (2 ^ N)), .int (nI (nw N)), .int (nI (pw N)), .long (ao N), .ref q78, .ref q90, .null, .null, .null])), (q78, .inl (cJJ, 32, .inr (.inr (.inr (.inr (fun k => some (r k)))))))] ++ gw r cJ (nw N) 32 (fun _ _ => 0)) ++ [(q90, .inl (cJ, (nw N), .inr (.inl (fun _ => 0))))]) H := hP
  have hD : va_D A (([(h0, .inr (1, [.int (nI N), .int (nI (2 ^ N)), .int (nI (nw N)), .int (nI (pw N)), .long (ao N), .ref q78, .ref q90, .null, .null, .null])), (q78, .inl (cJJ, 32, .inr (.inr (.inr (.inr (fun k => some (r k)))))))] ++ gw r cJ (nw N) 32 (fun _ _ => 0)) ++ [(q90, .inl (cJ, (nw N), .inr (.inl (fun _ => 0))))]) := hD
  refine lv_aload_n hx hb dX1_init_95 rfl (lv_at hl 0 rfl) ?_
  refine lv_aload_n hx hb dX1_init_96 rfl (lv_at hl 0 rfl) ?_
  refine va_get (D := D) (ci := 1) (C := RX1) (T := TX1) (N := 10) hx hb hts (by decide +kernel) hown hK hP 0 rfl rfl 2 (by decide) (hts (.fieldLink RX1 25 "ForkDesk" "words" "I") (by decide +kernel)) (fun _ h9 => h9) rfl dX1_init_97 ?_
  refine xc_newl hx hb (hts (.arrayClass .long) (by decide +kernel)) hK 1 rfl hP hD hS hA (by omega) (Nat.le_of_ble_eq_true rfl) (by show _ ≤ 12600; omega) dX1_init_100 (fun q100 H hP hD hS => ?_)
  have hP : va_P D vwCl (([(h0, .inr (1, [.int (nI N), .int (nI (2 ^ N)), .int (nI (nw N)), .int (nI (pw N)), .long (ao N), .ref q78, .ref q90, .null, .null, .null])), (q78, .inl (cJJ, 32, .inr (.inr (.inr (.inr (fun k => some (r k)))))))] ++ gw r cJ (nw N) 32 (fun _ _ => 0)) ++ [(q90, .inl (cJ, (nw N), .inr (.inl (fun _ => 0)))), (q100, .inl (cJ, (nw N), .inr (.inl (fun _ => 0))))]) H := hP
  have hD : va_D A (([(h0, .inr (1, [.int (nI N), .int (nI (2 ^ N)), .int (nI (nw N)), .int (nI (pw N)), .long (ao N), .ref q78, .ref q90, .null, .null, .null])), (q78, .inl (cJJ, 32, .inr (.inr (.inr (.inr (fun k => some (r k)))))))] ++ gw r cJ (nw N) 32 (fun _ _ => 0)) ++ [(q90, .inl (cJ, (nw N), .inr (.inl (fun _ => 0)))), (q100, .inl (cJ, (nw N), .inr (.inl (fun _ => 0))))]) := hD
  refine va_putF (D := D) (ci := 1) (v := .ref q100) (ty := .array .long) (C := RX1) (T := TX1) (N := 10) hx hb hts (by decide +kernel) tyX1 tyX1_ok nmX1 hown hK hP hD hS 0 rfl rfl 7 (by decide) (hts (.fieldLink RX1 46 "ForkDesk" "reached" "[J") (by decide +kernel)) (fun _ h9 => h9) rfl hin rfl (by decide +kernel) rfl rfl (Nat.le_of_ble_eq_true rfl) dX1_init_102 (fun H locs hP hD hS => ?_)
  have hP : va_P D vwCl (([(h0, .inr (1, [.int (nI N), .int (nI (2 ^ N)), .int (nI (nw N)), .int (nI (pw N)), .long (ao N), .ref q78, .ref q90, .ref q100, .null, .null])), (q78, .inl (cJJ, 32, .inr (.inr (.inr (.inr (fun k => some (r k)))))))] ++ gw r cJ (nw N) 32 (fun _ _ => 0)) ++ [(q90, .inl (cJ, (nw N), .inr (.inl (fun _ => 0)))), (q100, .inl (cJ, (nw N), .inr (.inl (fun _ => 0))))]) H := hP
  have hD : va_D A (([(h0, .inr (1, [.int (nI N), .int (nI (2 ^ N)), .int (nI (nw N)), .int (nI (pw N)), .long (ao N), .ref q78, .ref q90, .ref q100, .null, .null])), (q78, .inl (cJJ, 32, .inr (.inr (.inr (.inr (fun k => some (r k)))))))] ++ gw r cJ (nw N) 32 (fun _ _ => 0)) ++ [(q90, .inl (cJ, (nw N), .inr (.inl (fun _ => 0)))), (q100, .inl (cJ, (nw N), .inr (.inl (fun _ => 0))))]) := hD
  refine lv_aload_n hx hb dX1_init_105 rfl (lv_at hl 0 rfl) ?_
  refine lv_aload_n hx hb dX1_init_106 rfl (lv_at hl 0 rfl) ?_
  refine va_get (D := D) (ci := 1) (C := RX1) (T := TX1) (N := 10) hx hb hts (by decide +kernel) hown hK hP 0 rfl rfl 3 (by decide) (hts (.fieldLink RX1 28 "ForkDesk" "pointsInWord" "I") (by decide +kernel)) (fun _ h9 => h9) rfl dX1_init_107 ?_
  refine xc_newi hx hb (hts (.arrayClass .int) (by decide +kernel)) hK 2 rfl hP hD hS hA (by omega) (Nat.le_of_ble_eq_true rfl) (by show _ ≤ 12600; omega) dX1_init_110 (fun q110 H hP hD hS => ?_)
  have hP : va_P D vwCl (([(h0, .inr (1, [.int (nI N), .int (nI (2 ^ N)), .int (nI (nw N)), .int (nI (pw N)), .long (ao N), .ref q78, .ref q90, .ref q100, .null, .null])), (q78, .inl (cJJ, 32, .inr (.inr (.inr (.inr (fun k => some (r k)))))))] ++ gw r cJ (nw N) 32 (fun _ _ => 0)) ++ [(q90, .inl (cJ, (nw N), .inr (.inl (fun _ => 0)))), (q100, .inl (cJ, (nw N), .inr (.inl (fun _ => 0)))), (q110, .inl (cI, (pw N), .inl (fun _ => 0)))]) H := hP
  have hD : va_D A (([(h0, .inr (1, [.int (nI N), .int (nI (2 ^ N)), .int (nI (nw N)), .int (nI (pw N)), .long (ao N), .ref q78, .ref q90, .ref q100, .null, .null])), (q78, .inl (cJJ, 32, .inr (.inr (.inr (.inr (fun k => some (r k)))))))] ++ gw r cJ (nw N) 32 (fun _ _ => 0)) ++ [(q90, .inl (cJ, (nw N), .inr (.inl (fun _ => 0)))), (q100, .inl (cJ, (nw N), .inr (.inl (fun _ => 0)))), (q110, .inl (cI, (pw N), .inl (fun _ => 0)))]) := hD
  refine va_putF (D := D) (ci := 1) (v := .ref q110) (ty := .array .int) (C := RX1) (T := TX1) (N := 10) hx hb hts (by decide +kernel) tyX1 tyX1_ok nmX1 hown hK hP hD hS 0 rfl rfl 8 (by decide) (hts (.fieldLink RX1 49 "ForkDesk" "tuples" "[I") (by decide +kernel)) (fun _ h9 => h9) rfl hin rfl (by decide +kernel) rfl rfl (Nat.le_of_ble_eq_true rfl) dX1_init_112 (fun H locs hP hD hS => ?_)
  have hP : va_P D vwCl (([(h0, .inr (1, [.int (nI N), .int (nI (2 ^ N)), .int (nI (nw N)), .int (nI (pw N)), .long (ao N), .ref q78, .ref q90, .ref q100, .ref q110, .null])), (q78, .inl (cJJ, 32, .inr (.inr (.inr (.inr (fun k => some (r k)))))))] ++ gw r cJ (nw N) 32 (fun _ _ => 0)) ++ [(q90, .inl (cJ, (nw N), .inr (.inl (fun _ => 0)))), (q100, .inl (cJ, (nw N), .inr (.inl (fun _ => 0)))), (q110, .inl (cI, (pw N), .inl (fun _ => 0)))]) H := hP
  have hD : va_D A (([(h0, .inr (1, [.int (nI N), .int (nI (2 ^ N)), .int (nI (nw N)), .int (nI (pw N)), .long (ao N), .ref q78, .ref q90, .ref q100, .ref q110, .null])), (q78, .inl (cJJ, 32, .inr (.inr (.inr (.inr (fun k => some (r k)))))))] ++ gw r cJ (nw N) 32 (fun _ _ => 0)) ++ [(q90, .inl (cJ, (nw N), .inr (.inl (fun _ => 0)))), (q100, .inl (cJ, (nw N), .inr (.inl (fun _ => 0)))), (q110, .inl (cI, (pw N), .inl (fun _ => 0)))]) := hD
  refine lv_aload_n hx hb dX1_init_115 rfl (lv_at hl 0 rfl) ?_
  refine va_new (ci := 0) (fs := [.int 0, .null, .null, .null, .null]) (C := RX0) (T := TX0) (N := 5) hx hb hts (by decide +kernel) tyX0 tyX0_ok hown (hts (.classLink RX1 53 RX0) (by decide +kernel)) (hts (.instantiable RX0 5) (by decide +kernel)) (hts (.initialized RX0) (by decide +kernel)) hK hP hD hS hA rfl (fun j hj => by rcases (show j = 0 ∨ j = 1 ∨ j = 2 ∨ j = 3 ∨ j = 4 by omega) with rfl | rfl | rfl | rfl | rfl <;> rfl) (Nat.le_of_ble_eq_true rfl) (by show _ ≤ 12600; omega) dX1_init_116 (fun q116 H hP hD hS => ?_)
  have hP : va_P D vwCl (([(h0, .inr (1, [.int (nI N), .int (nI (2 ^ N)), .int (nI (nw N)), .int (nI (pw N)), .long (ao N), .ref q78, .ref q90, .ref q100, .ref q110, .null])), (q78, .inl (cJJ, 32, .inr (.inr (.inr (.inr (fun k => some (r k)))))))] ++ gw r cJ (nw N) 32 (fun _ _ => 0)) ++ [(q90, .inl (cJ, (nw N), .inr (.inl (fun _ => 0)))), (q100, .inl (cJ, (nw N), .inr (.inl (fun _ => 0)))), (q110, .inl (cI, (pw N), .inl (fun _ => 0))), (q116, .inr (0, [.int 0, .null, .null, .null, .null]))]) H := hP
  have hD : va_D A (([(h0, .inr (1, [.int (nI N), .int (nI (2 ^ N)), .int (nI (nw N)), .int (nI (pw N)), .long (ao N), .ref q78, .ref q90, .ref q100, .ref q110, .null])), (q78, .inl (cJJ, 32, .inr (.inr (.inr (.inr (fun k => some (r k)))))))] ++ gw r cJ (nw N) 32 (fun _ _ => 0)) ++ [(q90, .inl (cJ, (nw N), .inr (.inl (fun _ => 0)))), (q100, .inl (cJ, (nw N), .inr (.inl (fun _ => 0)))), (q110, .inl (cI, (pw N), .inl (fun _ => 0))), (q116, .inr (0, [.int 0, .null, .null, .null, .null]))]) := hD
  refine lv_dup hx hb dX1_init_119 rfl ?_
  refine lv_aload_n hx hb dX1_init_120 rfl (lv_at hl 0 rfl) ?_
  refine va_get (D := D) (ci := 1) (C := RX1) (T := TX1) (N := 10) hx hb hts (by decide +kernel) hown hK hP 0 rfl rfl 0 (by decide) (hts (.fieldLink RX1 18 "ForkDesk" "variables" "I") (by decide +kernel)) (fun _ h9 => h9) rfl dX1_init_121 ?_
  have hPc := hP.sub (ws' := [(q116, .inr (0, [.int 0, .null, .null, .null, .null]))]) [37] rfl
  have hFc := va_free (wc := [(q116, .inr (0, [.int 0, .null, .null, .null, .null]))]) hD hS hA [37] rfl
  refine va_callv (va_runI (As := [.int (nI N)]) (rest := [.ref q116, .ref h0]) ⟨hx, hb, hml, hown, hts⟩ (c_cinit l D _ N hn1 hn12 q116 cI) (cwI 1 hts gX1_init_X0_init rfl rfl rfl (hts (.initialized RX0) (by decide +kernel)) (hts (.methodLink RX1 55 yX0_init) (by decide +kernel)) (hts (.instanceMethod yX0_init) (by decide +kernel)) rfl (by decide +kernel) ⟨Nat.le_of_ble_eq_true rfl, Nat.le_of_ble_eq_true rfl⟩) ⟨wp0_blind, fun U hU hW => wp0_of hPc (hK.sub [2] rfl) htb hS hFc hU hW⟩ rfl rfl hl.1 rfl (lv_room (Nat.le_of_ble_eq_true rfl)) dX1_init_124 ⟨Nat.le_of_ble_eq_true rfl, by show _ ≤ 12600; omega⟩) hS (fun q _ h => hFc q h) hFc (fun u t H1 locs ht hvm hw hB hz1 hk1 hS => ?_)
  obtain ⟨hP1, hD1⟩ := hB
  rw [ht] at hP1
  obtain ⟨hP, hD⟩ := va_join (wr := ([(h0, .inr (1, [.int (nI N), .int (nI (2 ^ N)), .int (nI (nw N)), .int (nI (pw N)), .long (ao N), .ref q78, .ref q90, .ref q100, .ref q110, .null])), (q78, .inl (cJJ, 32, .inr (.inr (.inr (.inr (fun k => some (r k)))))))] ++ gw r cJ (nw N) 32 (fun _ _ => 0)) ++ [(q90, .inl (cJ, (nw N), .inr (.inl (fun _ => 0)))), (q100, .inl (cJ, (nw N), .inr (.inl (fun _ => 0)))), (q110, .inl (cI, (pw N), .inl (fun _ => 0)))]) (w1 := ccW N q116 cI u) hP hD [37] [0, 1, 2, 3, 4, 5, 6, 7, 8, 9, 10, 11, 12, 13, 14, 15, 16, 17, 18, 19, 20, 21, 22, 23, 24, 25, 26, 27, 28, 29, 30, 31, 32, 33, 34, 35, 36] rfl rfl (by decide) (by decide) hk1 hFc hP1 hD1
  generalize H1 = H at hP hS ⊢
  rw [List.append_assoc] at hP hD
  have hP : va_P D vwCl (([(h0, .inr (1, [.int (nI N), .int (nI (2 ^ N)), .int (nI (nw N)), .int (nI (pw N)), .long (ao N), .ref q78, .ref q90, .ref q100, .ref q110, .null])), (q78, .inl (cJJ, 32, .inr (.inr (.inr (.inr (fun k => some (r k)))))))] ++ gw r cJ (nw N) 32 (fun _ _ => 0)) ++ [(q90, .inl (cJ, (nw N), .inr (.inl (fun _ => 0)))), (q100, .inl (cJ, (nw N), .inr (.inl (fun _ => 0)))), (q110, .inl (cI, (pw N), .inl (fun _ => 0))), (q116, .inr (0, [.int (nI N), .ref u.1, .ref u.2.1, .ref u.2.2.1, .ref u.2.2.2])), (u.1, .inl (cI, 2 ^ N, .inl (fun _ => 0))), (u.2.1, .inl (cI, 2 ^ (N - 1), .inl (fun _ => 0))), (u.2.2.1, .inl (cI, 2 ^ (N - 1), .inl (fun _ => 0))), (u.2.2.2, .inl (cI, max 2 (2 ^ (N - 1)), .inl (fun _ => 0)))]) H := hP
  have hD : va_D A (([(h0, .inr (1, [.int (nI N), .int (nI (2 ^ N)), .int (nI (nw N)), .int (nI (pw N)), .long (ao N), .ref q78, .ref q90, .ref q100, .ref q110, .null])), (q78, .inl (cJJ, 32, .inr (.inr (.inr (.inr (fun k => some (r k)))))))] ++ gw r cJ (nw N) 32 (fun _ _ => 0)) ++ [(q90, .inl (cJ, (nw N), .inr (.inl (fun _ => 0)))), (q100, .inl (cJ, (nw N), .inr (.inl (fun _ => 0)))), (q110, .inl (cI, (pw N), .inl (fun _ => 0))), (q116, .inr (0, [.int (nI N), .ref u.1, .ref u.2.1, .ref u.2.2.1, .ref u.2.2.2])), (u.1, .inl (cI, 2 ^ N, .inl (fun _ => 0))), (u.2.1, .inl (cI, 2 ^ (N - 1), .inl (fun _ => 0))), (u.2.2.1, .inl (cI, 2 ^ (N - 1), .inl (fun _ => 0))), (u.2.2.2, .inl (cI, max 2 (2 ^ (N - 1)), .inl (fun _ => 0)))]) := hD
  refine va_putF (D := D) (ci := 1) (v := .ref q116) (ty := .object "ForkDesk$ForkCounter") (C := RX1) (T := TX1) (N := 10) hx hb hts (by decide +kernel) tyX1 tyX1_ok nmX1 hown hK hP hD hS 0 rfl rfl 9 (by decide) (hts (.fieldLink RX1 58 "ForkDesk" "forkCounter" "LForkDesk$ForkCounter;") (by decide +kernel)) (fun _ h9 => h9) rfl hin rfl (by decide +kernel) rfl rfl (Nat.le_of_ble_eq_true rfl) dX1_init_127 (fun H locs hP hD hS => ?_)
  have hP : va_P D vwCl (([(h0, .inr (1, [.int (nI N), .int (nI (2 ^ N)), .int (nI (nw N)), .int (nI (pw N)), .long (ao N), .ref q78, .ref q90, .ref q100, .ref q110, .ref q116])), (q78, .inl (cJJ, 32, .inr (.inr (.inr (.inr (fun k => some (r k)))))))] ++ gw r cJ (nw N) 32 (fun _ _ => 0)) ++ [(q90, .inl (cJ, (nw N), .inr (.inl (fun _ => 0)))), (q100, .inl (cJ, (nw N), .inr (.inl (fun _ => 0)))), (q110, .inl (cI, (pw N), .inl (fun _ => 0))), (q116, .inr (0, [.int (nI N), .ref u.1, .ref u.2.1, .ref u.2.2.1, .ref u.2.2.2])), (u.1, .inl (cI, 2 ^ N, .inl (fun _ => 0))), (u.2.1, .inl (cI, 2 ^ (N - 1), .inl (fun _ => 0))), (u.2.2.1, .inl (cI, 2 ^ (N - 1), .inl (fun _ => 0))), (u.2.2.2, .inl (cI, max 2 (2 ^ (N - 1)), .inl (fun _ => 0)))]) H := hP
  have hD : va_D A (([(h0, .inr (1, [.int (nI N), .int (nI (2 ^ N)), .int (nI (nw N)), .int (nI (pw N)), .long (ao N), .ref q78, .ref q90, .ref q100, .ref q110, .ref q116])), (q78, .inl (cJJ, 32, .inr (.inr (.inr (.inr (fun k => some (r k)))))))] ++ gw r cJ (nw N) 32 (fun _ _ => 0)) ++ [(q90, .inl (cJ, (nw N), .inr (.inl (fun _ => 0)))), (q100, .inl (cJ, (nw N), .inr (.inl (fun _ => 0)))), (q110, .inl (cI, (pw N), .inl (fun _ => 0))), (q116, .inr (0, [.int (nI N), .ref u.1, .ref u.2.1, .ref u.2.2.1, .ref u.2.2.2])), (u.1, .inl (cI, 2 ^ N, .inl (fun _ => 0))), (u.2.1, .inl (cI, 2 ^ (N - 1), .inl (fun _ => 0))), (u.2.2.1, .inl (cI, 2 ^ (N - 1), .inl (fun _ => 0))), (u.2.2.2, .inl (cI, max 2 (2 ^ (N - 1)), .inl (fun _ => 0)))]) := hD
  refine W.widen (k := 41) (n := 12600) (Nat.le_of_ble_eq_true rfl) (by omega) ?_
  have hr9 := adOf_r h0 q78 q90 q100 q110 q116 u r
  have hPb : va_P D vwCl (bigW N (adOf h0 q78 q90 q100 q110 q116 u r) r cJJ cJ cI (fun _ => 0) (fun _ => 0) (fun _ => 0) (fun _ => 0) (fun _ => 0) (fun _ => 0) (fun _ => 0) (fun _ _ => 0)) H := hP
  have hDb : va_D A (bigW N (adOf h0 q78 q90 q100 q110 q116 u r) r cJJ cJ cI (fun _ => 0) (fun _ => 0) (fun _ => 0) (fun _ => 0) (fun _ => 0) (fun _ => 0) (fun _ => 0) (fun _ _ => 0)) := hD
  exact W.vret hx hb hr (fun t ht hW => ⟨⟨adOf h0 q78 q90 q100 q110 q116 u r, rfl, trivial, rfl, big_D hr9 hDb, by rw [ht]; exact big_P hr9 hPb⟩, hS.F ht⟩) hS.2.2 dX1_init_130
