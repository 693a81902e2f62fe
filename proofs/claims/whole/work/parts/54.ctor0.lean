set_option maxHeartbeats 4000000 in
set_option maxRecDepth 100000 in
/-- ForkCounter(N) -/
theorem c_cinit (l : Launch) (D : va_G) (sz : Nat) (N : Nat) (hN1 : 1 ≤ N) (hN : N ≤ 12) (h0 : Nat) (cI : ClassId) : Met l yX0_init wsX0_init ({ frames := 1, cells := 4, slots := 10240, locals := 20 } : Room) (va_Pc [.ref h0, .int (nI N)] (wp0 D [(h0, .inr (0, [.int 0, .null, .null, .null, .null]))] [(cI, .int)] (va_A [(h0, .inr (0, [.int 0, .null, .null, .null, .null]))] sz) sz)) (va_Qv (fun (_ : Nat × Nat × Nat × Nat) => True) (fun (u : Nat × Nat × Nat × Nat) t => va_P D vwCl (ccW N h0 cI u) t.heap ∧ va_D (va_A [(h0, .inr (0, [.int 0, .null, .null, .null, .null]))] sz) (ccW N h0 cI u)) (va_A [(h0, .inr (0, [.int 0, .null, .null, .null, .null]))] sz)) 4 10240 (va_A [(h0, .inr (0, [.int 0, .null, .null, .null, .null]))] sz) := by
  refine Met.ofW (cc := cX0_init) (maxL := 3) (ret := none) (by decide) rfl ?_
  intro p e s m args below meth c s₁ B hml hv
  obtain ⟨rfl, hsz, hP, hK, htb⟩ := hv
  have hx := B.exec
  have hb := B.bytes
  have hr := B.returns
  have hts := atoms_spec (ws := wsX0_init) B.pre
  have hown : s.vm.findClass RX0 = some m.cls := findClass_of_methodNamed B.named
  have hlocks := B.notSynchronized
  have hin : meth.name = "<init>" := (name_of_methodNamed B.named B.method).1
  subst hsz
  generalize hAe : va_A [(h0, .inr (0, [.int 0, .null, .null, .null, .null]))] s.heap.size = A at htb ⊢
  have hA : ∀ q : Nat, s.heap.size ≤ q → A q := fun q h => by rw [← hAe]; exact Or.inr h
  have hD : va_D A [(h0, .inr (0, [.int 0, .null, .null, .null, .null]))] := one_D (by rw [← hAe]; exact Or.inl ⟨0, _, rfl⟩)
  have hS : va_S A s.heap s.heap [] := va_S.rf
  have hl := lv_entry ([.ref h0, .int (nI N)]) (n := 3) (Nat.le_of_ble_eq_true rfl)
  rw [lg_entry_eq]
  generalize (lg_sl ([.ref h0, .int (nI N)]) ++ List.replicate (3 - (lg_sl ([.ref h0, .int (nI N)])).length) Slot.unset).toArray = ls at hl ⊢
  have hl : lv_has ls 3 [(0, .ref h0), (1, .int (nI N))] := hl
  have hnp := np_le hN
  have hnh := nh_le hN1 hN
  have hpn := np_nh hN1
  have hnm : max 2 (2 ^ (N - 1)) ≤ 2048 := nm_le hN1 hN
  refine lv_aload_n hx hb dX0_init_0 rfl (lv_at hl 0 rfl) ?_
  refine W.objInit hx hb hown (hts (.methodLink RX0 3 objectInit) (by decide +kernel)) (hts (.instanceMethod objectInit) (by decide +kernel)) (hts _ (List.mem_cons_of_mem _ (List.mem_append_left _ (List.mem_of_getElem? (i := 2) rfl)))) rfl (by rw [hml]; exact hl.1) rfl dX0_init_1 (Nat.le_of_ble_eq_true rfl) (Nat.le_of_ble_eq_true rfl) ?_
  refine W.eq (g2 := F0 m 4 ls []) rfl ?_
  refine lv_iconst (v := nI 1) hx hb dX0_init_4 (by decide) ?_
  refine lv_iload_n hx hb dX0_init_5 rfl (lv_at hl 1 rfl) ?_
  refine lv_iconst (v := nI 1) hx hb dX0_init_6 (by decide) ?_
  refine xa_isub hx hb (by omega) dX0_init_7 ?_
  refine xa_ishl1 hx hb (by omega) dX0_init_8 ?_
  refine lv_istore_n (lv' := [(2, .int (nI (2 ^ (N - 1)))), (0, .ref h0), (1, .int (nI N))]) hx hb dX0_init_9 rfl hl (by decide) rfl (fun ls hl => ?_)
  refine lv_aload_n hx hb dX0_init_10 rfl (lv_at hl 1 rfl) ?_
  refine lv_iload_n hx hb dX0_init_11 rfl (lv_at hl 2 rfl) ?_
  refine va_putF (D := D) (ci := 0) (v := .int (nI N)) (ty := .int) (C := RX0) (T := TX0) (N := 5) hx hb hts (by decide +kernel) tyX0 tyX0_ok nmX0 hown hK hP hD hS 0 rfl rfl 0 (by decide) (hts (.fieldLink RX0 9 "ForkDesk$ForkCounter" "variables" "I") (by decide +kernel)) (fun _ h9 => h9) rfl hin rfl (by decide +kernel) rfl rfl (Nat.le_of_ble_eq_true rfl) dX0_init_12 (fun H locs hP hD hS => ?_)
  have hP : va_P D vwCl ([(h0, .inr (0, [.int (nI N), .null, .null, .null, .null]))]) H := hP
  have hD : va_D A ([(h0, .inr (0, [.int (nI N), .null, .null, .null, .null]))]) := hD
  refine lv_aload_n hx hb dX0_init_15 rfl (lv_at hl 1 rfl) ?_
  refine lv_iconst (v := nI 2) hx hb dX0_init_16 (by decide) ?_
  refine lv_iload_n hx hb dX0_init_17 rfl (lv_at hl 0 rfl) ?_
  refine xa_imul hx hb dX0_init_18 ?_
  rw [show 2 * 2 ^ (N - 1) = 2 ^ N from hpn.symm]
  refine xc_newi hx hb (hts (.arrayClass .int) (by decide +kernel)) hK 0 rfl hP hD hS hA (by omega) (Nat.le_of_ble_eq_true rfl) (by show _ ≤ 10240; omega) dX0_init_19 (fun q19 H hP hD hS => ?_)
  have hP : va_P D vwCl ([(h0, .inr (0, [.int (nI N), .null, .null, .null, .null])), (q19, .inl (cI, 2 ^ N, .inl (fun _ => 0)))]) H := hP
  have hD : va_D A ([(h0, .inr (0, [.int (nI N), .null, .null, .null, .null])), (q19, .inl (cI, 2 ^ N, .inl (fun _ => 0)))]) := hD
  refine va_putF (D := D) (ci := 0) (v := .ref q19) (ty := .array .int) (C := RX0) (T := TX0) (N := 5) hx hb hts (by decide +kernel) tyX0 tyX0_ok nmX0 hown hK hP hD hS 0 rfl rfl 1 (by decide) (hts (.fieldLink RX0 15 "ForkDesk$ForkCounter" "kinds" "[I") (by decide +kernel)) (fun _ h9 => h9) rfl hin rfl (by decide +kernel) rfl rfl (Nat.le_of_ble_eq_true rfl) dX0_init_21 (fun H locs hP hD hS => ?_)
  have hP : va_P D vwCl ([(h0, .inr (0, [.int (nI N), .ref q19, .null, .null, .null])), (q19, .inl (cI, 2 ^ N, .inl (fun _ => 0)))]) H := hP
  have hD : va_D A ([(h0, .inr (0, [.int (nI N), .ref q19, .null, .null, .null])), (q19, .inl (cI, 2 ^ N, .inl (fun _ => 0)))]) := hD
  refine lv_aload_n hx hb dX0_init_24 rfl (lv_at hl 1 rfl) ?_
  refine lv_iload_n hx hb dX0_init_25 rfl (lv_at hl 0 rfl) ?_
  refine xc_newi hx hb (hts (.arrayClass .int) (by decide +kernel)) hK 0 rfl hP hD hS hA (by omega) (Nat.le_of_ble_eq_true rfl) (by show _ ≤ 10240; omega) dX0_init_26 (fun q26 H hP hD hS => ?_)
  have hP : va_P D vwCl ([(h0, .inr (0, [.int (nI N), .ref q19, .null, .null, .null])), (q19, .inl (cI, 2 ^ N, .inl (fun _ => 0))), (q26, .inl (cI, 2 ^ (N - 1), .inl (fun _ => 0)))]) H := hP
  have hD : va_D A ([(h0, .inr (0, [.int (nI N), .ref q19, .null, .null, .null])), (q19, .inl (cI, 2 ^ N, .inl (fun _ => 0))), (q26, .inl (cI, 2 ^ (N - 1), .inl (fun _ => 0)))]) := hD
  refine va_putF (D := D) (ci := 0) (v := .ref q26) (ty := .array .int) (C := RX0) (T := TX0) (N := 5) hx hb hts (by decide +kernel) tyX0 tyX0_ok nmX0 hown hK hP hD hS 0 rfl rfl 2 (by decide) (hts (.fieldLink RX0 19 "ForkDesk$ForkCounter" "upperHalf" "[I") (by decide +kernel)) (fun _ h9 => h9) rfl hin rfl (by decide +kernel) rfl rfl (Nat.le_of_ble_eq_true rfl) dX0_init_28 (fun H locs hP hD hS => ?_)
  have hP : va_P D vwCl ([(h0, .inr (0, [.int (nI N), .ref q19, .ref q26, .null, .null])), (q19, .inl (cI, 2 ^ N, .inl (fun _ => 0))), (q26, .inl (cI, 2 ^ (N - 1), .inl (fun _ => 0)))]) H := hP
  have hD : va_D A ([(h0, .inr (0, [.int (nI N), .ref q19, .ref q26, .null, .null])), (q19, .inl (cI, 2 ^ N, .inl (fun _ => 0))), (q26, .inl (cI, 2 ^ (N - 1), .inl (fun _ => 0)))]) := hD
  refine lv_aload_n hx hb dX0_init_31 rfl (lv_at hl 1 rfl) ?_
  refine lv_iload_n hx hb dX0_init_32 rfl (lv_at hl 0 rfl) ?_
  refine xc_newi hx hb (hts (.arrayClass .int) (by decide +kernel)) hK 0 rfl hP hD hS hA (by omega) (Nat.le_of_ble_eq_true rfl) (by show _ ≤ 10240; omega) dX0_init_33 (fun q33 H hP hD hS => ?_)
  have hP : va_P D vwCl ([(h0, .inr (0, [.int (nI N), .ref q19, .ref q26, .null, .null])), (q19, .inl (cI, 2 ^ N, .inl (fun _ => 0))), (q26, .inl (cI, 2 ^ (N - 1), .inl (fun _ => 0))), (q33, .inl (cI, 2 ^ (N - 1), .inl (fun _ => 0)))]) H := hP
  have hD : va_D A ([(h0, .inr (0, [.int (nI N), .ref q19, .ref q26, .null, .null])), (q19, .inl (cI, 2 ^ N, .inl (fun _ => 0))), (q26, .inl (cI, 2 ^ (N - 1), .inl (fun _ => 0))), (q33, .inl (cI, 2 ^ (N - 1), .inl (fun _ => 0)))]) := hD
  refine va_putF (D := D) (ci := 0) (v := .ref q33) (ty := .array .int) (C := RX0) (T := TX0) (N := 5) hx hb hts (by decide +kernel) tyX0 tyX0_ok nmX0 hown hK hP hD hS 0 rfl rfl 3 (by decide) (hts (.fieldLink RX0 22 "ForkDesk$ForkCounter" "before" "[I") (by decide +kernel)) (fun _ h9 => h9) rfl hin rfl (by decide +kernel) rfl rfl (Nat.le_of_ble_eq_true rfl) dX0_init_35 (fun H locs hP hD hS => ?_)
  have hP : va_P D vwCl ([(h0, .inr (0, [.int (nI N), .ref q19, .ref q26, .ref q33, .null])), (q19, .inl (cI, 2 ^ N, .inl (fun _ => 0))), (q26, .inl (cI, 2 ^ (N - 1), .inl (fun _ => 0))), (q33, .inl (cI, 2 ^ (N - 1), .inl (fun _ => 0)))]) H := hP
  have hD : va_D A ([(h0, .inr (0, [.int (nI N), .ref q19, .ref q26, .ref q33, .null])), (q19, .inl (cI, 2 ^ N, .inl (fun _ => 0))), (q26, .inl (cI, 2 ^ (N - 1), .inl (fun _ => 0))), (q33, .inl (cI, 2 ^ (N - 1), .inl (fun _ => 0)))]) := hD
  refine lv_aload_n hx hb dX0_init_38 rfl (lv_at hl 1 rfl) ?_
  refine lv_iconst (v := nI 2) hx hb dX0_init_39 (by decide) ?_
  refine lv_iload_n hx hb dX0_init_40 rfl (lv_at hl 0 rfl) ?_
  refine va_mmax hx hb (by rw [hml]; exact hl.1.symm) hown (hts (.methodLink RX0 25 Lib.Math.max.name) (by decide +kernel)) (hts (.static Lib.Math.max.name) (by decide +kernel)) (hts (.initialized "java/lang/Math") (by decide +kernel)) (hts _ (List.mem_cons_of_mem _ (List.mem_append_left _ (List.mem_of_getElem? (i := 11) rfl)))) (Nat.le_of_ble_eq_true rfl) (Nat.le_of_ble_eq_true rfl) (Nat.le_of_ble_eq_true rfl) (by show _ ≤ 10240; omega) dX0_init_41 ?_
  rw [mx_nI (by omega) (by omega)]
  refine xc_newi hx hb (hts (.arrayClass .int) (by decide +kernel)) hK 0 rfl hP hD hS hA (by omega) (Nat.le_of_ble_eq_true rfl) (by show _ ≤ 10240; omega) dX0_init_44 (fun q44 H hP hD hS => ?_)
  have hP : va_P D vwCl ([(h0, .inr (0, [.int (nI N), .ref q19, .ref q26, .ref q33, .null])), (q19, .inl (cI, 2 ^ N, .inl (fun _ => 0))), (q26, .inl (cI, 2 ^ (N - 1), .inl (fun _ => 0))), (q33, .inl (cI, 2 ^ (N - 1), .inl (fun _ => 0))), (q44, .inl (cI, max 2 (2 ^ (N - 1)), .inl (fun _ => 0)))]) H := hP
  have hD : va_D A ([(h0, .inr (0, [.int (nI N), .ref q19, .ref q26, .ref q33, .null])), (q19, .inl (cI, 2 ^ N, .inl (fun _ => 0))), (q26, .inl (cI, 2 ^ (N - 1), .inl (fun _ => 0))), (q33, .inl (cI, 2 ^ (N - 1), .inl (fun _ => 0))), (q44, .inl (cI, max 2 (2 ^ (N - 1)), .inl (fun _ => 0)))]) := hD
  refine va_putF (D := D) (ci := 0) (v := .ref q44) (ty := .array .int) (C := RX0) (T := TX0) (N := 5) hx hb hts (by decide +kernel) tyX0 tyX0_ok nmX0 hown hK hP hD hS 0 rfl rfl 4 (by decide) (hts (.fieldLink RX0 31 "ForkDesk$ForkCounter" "latest" "[I") (by decide +kernel)) (fun _ h9 => h9) rfl hin rfl (by decide +kernel) rfl rfl (Nat.le_of_ble_eq_true rfl) dX0_init_46 (fun H locs hP hD hS => ?_)
  have hP : va_P D vwCl ([(h0, .inr (0, [.int (nI N), .ref q19, .ref q26, .ref q33, .ref q44])), (q19, .inl (cI, 2 ^ N, .inl (fun _ => 0))), (q26, .inl (cI, 2 ^ (N - 1), .inl (fun _ => 0))), (q33, .inl (cI, 2 ^ (N - 1), .inl (fun _ => 0))), (q44, .inl (cI, max 2 (2 ^ (N - 1)), .inl (fun _ => 0)))]) H := hP
  have hD : va_D A ([(h0, .inr (0, [.int (nI N), .ref q19, .ref q26, .ref q33, .ref q44])), (q19, .inl (cI, 2 ^ N, .inl (fun _ => 0))), (q26, .inl (cI, 2 ^ (N - 1), .inl (fun _ => 0))), (q33, .inl (cI, 2 ^ (N - 1), .inl (fun _ => 0))), (q44, .inl (cI, max 2 (2 ^ (N - 1)), .inl (fun _ => 0)))]) := hD
  refine W.widen (k := 4) (n := 10240) (Nat.le_of_ble_eq_true rfl) (by omega) ?_
  exact W.vret hx hb hr (fun t ht hW => ⟨⟨(q19, q26, q33, q44), rfl, trivial, by show va_P _ _ _ _ ∧ _; rw [ht]; exact ⟨hP, hD⟩⟩, hS.F ht⟩) hS.2.2 dX0_init_49
