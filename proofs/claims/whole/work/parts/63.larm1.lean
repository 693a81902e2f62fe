set_option maxHeartbeats 4000000 in
set_option maxRecDepth 100000 in
theorem arm_exists {p : Program} {l : Launch} {e : Env} {s : State} {m : MethodId} {below : List Frame} {meth : Method} {c : Code} {b L : Nat} {xs : Nat → Int32} (hL : L ≤ 2561) (C0 : lw_At p s m meth c b L xs) {D : va_G} {A : Nat → Prop} (hA : ∀ q, s.heap.size ≤ q → A q) (hbA : ¬ A b) {N : Nat} (hN1 : 1 ≤ N) (hN : N ≤ 12) {ad bd : Nat → Nat} (haoD : aok A ad) (haoM : aok4 A bd) (hap : ∀ i j, i < 42 → j < 4 → ad i ≠ bd j) {cJJ cJ cI cZ : ClassId} (hK : va_K D vwCl (lwT cJJ cJ cI cZ) s) (htb : tbl A s s.heap) {t : Nat} (hi : 5 * t + 6 ≤ L) {g : Nat → Nat → Bool} {dr re : Nat → Int64} {tu kd uh bf la : Nat → Int32} {G : Nat → Nat → Int64} (hg : okG N G g) {th : Int32} {rb mb : Nat → Bool} {pt : Nat → Int32} (hm : okM N rb g) {H : Heap} {locs : List Loc} (hPd : va_P D vwCl (dkW N ad cJJ cJ cI dr re tu kd uh bf la G) H) (hPm : va_P D vwCl (mdW N bd cZ cI th rb mb pt) H) (hS : va_S A s.heap H locs) {ls : Array Slot} (hl : lv_has ls 4 [(0, .ref b), (1, .ref (ad 0)), (2, .ref (bd 0)), (3, .int (nI (5 * t + 1)))])
    (kk : ∀ (g : Nat → Nat → Bool) (u : dkS) (v : (Nat → Bool) × (Nat → Bool) × (Nat → Int32)) (H : Heap) (locs : List Loc), okG N (dkR u) g → okM N v.1 g → va_P D vwCl (dkU N ad cJJ cJ cI u) H → va_P D vwCl (mdW N bd cZ cI (nI 0) v.1 v.2.1 v.2.2) H → va_S A s.heap H locs → W p l e room_1 s m #[Value.ref b] below meth c H locs 46 149832 (lw_Z below #[Value.ref b] s) (F0 m 664 ls [])) : W p l e room_1 s m #[Value.ref b] below meth c H locs 46 149832 (lw_Z below #[Value.ref b] s) (F0 m 337 ls []) := by
  obtain ⟨hx, hb, hr, hml, hown0, hts, hX, hbl, hlocks, hgv⟩ := C0
  have hown : s.vm.findClass RL = some m.cls := hown0
  refine lv_aload_n hx hb dL_law_337 rfl (lv_at hl 1 rfl) ?_
  refine lv_aload_n hx hb dL_law_338 rfl (lv_at hl 0 rfl) ?_
  refine lv_iload_n hx hb dL_law_339 rfl (lv_at hl 3 rfl) ?_
  refine lv_iconst (v := nI 1) hx hb dL_law_340 (by decide) ?_
  refine xa_iadd hx hb dL_law_341 ?_
  refine xa_sld hx hb hX hbl hbA hS (by omega) (by omega) dL_law_342 ?_
  refine lv_aload_n hx hb dL_law_343 rfl (lv_at hl 0 rfl) ?_
  refine lv_iload_n hx hb dL_law_344 rfl (lv_at hl 3 rfl) ?_
  refine lv_iconst (v := nI 2) hx hb dL_law_345 (by decide) ?_
  refine xa_iadd hx hb dL_law_346 ?_
  refine xa_sld hx hb hX hbl hbA hS (by omega) (by omega) dL_law_347 ?_
  refine lv_aload_n hx hb dL_law_348 rfl (lv_at hl 0 rfl) ?_
  refine lv_iload_n hx hb dL_law_349 rfl (lv_at hl 3 rfl) ?_
  refine lv_iconst (v := nI 3) hx hb dL_law_350 (by decide) ?_
  refine xa_iadd hx hb dL_law_351 ?_
  refine xa_sld hx hb hX hbl hbA hS (by omega) (by omega) dL_law_352 ?_
  refine lv_aload_n hx hb dL_law_353 rfl (lv_at hl 0 rfl) ?_
  refine lv_iload_n hx hb dL_law_354 rfl (lv_at hl 3 rfl) ?_
  refine lv_iconst (v := nI 4) hx hb dL_law_355 (by decide) ?_
  refine xa_iadd hx hb dL_law_356 ?_
  refine xa_sld hx hb hX hbl hbA hS (by omega) (by omega) dL_law_357 ?_
  refine va_calli (va_runV (As := [.int (xs (5 * t + 1 + 1)), .int (xs (5 * t + 1 + 2)), .int (xs (5 * t + 1 + 3)), .int (xs (5 * t + 1 + 4))]) (rest := []) ⟨hx, hb, hml, hown, hts⟩ (c_exists l D _ N hN1 hN ad (aok_true haoD) cJJ cJ cI dr re tu kd uh bf la G g hg (xs (5 * t + 1 + 1)) (xs (5 * t + 1 + 2)) (xs (5 * t + 1 + 3)) (xs (5 * t + 1 + 4))) (cwV 4 hts gL_X1_exists rfl rfl rfl (by decide +kernel) ⟨Nat.le_of_ble_eq_true rfl, Nat.le_of_ble_eq_true rfl⟩) ⟨wp0_blind, va_recv hK hPd (ci := 1) (q0 := 0) rfl rfl, fun U hU hW => wp0_of hPd (hK.sub [0, 1, 2] rfl) htb hS (fr_in haoD hS hA) hU hW⟩ rfl rfl hl.1 rfl (lv_room (Nat.le_of_ble_eq_true rfl)) dL_law_358 ⟨Nat.le_of_ble_eq_true rfl, Nat.le_of_ble_eq_true rfl⟩) hS (fun q _ h => fr_in haoD hS hA q h) (fun q h => fr_in haoD hS hA q h) (fun r1 u t1 H1 locs ht hvm hw hB hz1 hk1 hS => ?_)
  obtain ⟨e1, hg1⟩ := hw
  rw [ht] at hB
  have hPm := md_kept hPm hap hk1
  have hPd := hB
  generalize H1 = H at hPd hPm hS ⊢
  refine lv_aload_n hx hb dL_law_361 rfl (lv_at hl 2 rfl) ?_
  refine lv_aload_n hx hb dL_law_362 rfl (lv_at hl 0 rfl) ?_
  refine lv_iload_n hx hb dL_law_363 rfl (lv_at hl 3 rfl) ?_
  refine lv_iconst (v := nI 1) hx hb dL_law_364 (by decide) ?_
  refine xa_iadd hx hb dL_law_365 ?_
  refine xa_sld hx hb hX hbl hbA hS (by omega) (by omega) dL_law_366 ?_
  refine lv_aload_n hx hb dL_law_367 rfl (lv_at hl 0 rfl) ?_
  refine lv_iload_n hx hb dL_law_368 rfl (lv_at hl 3 rfl) ?_
  refine lv_iconst (v := nI 2) hx hb dL_law_369 (by decide) ?_
  refine xa_iadd hx hb dL_law_370 ?_
  refine xa_sld hx hb hX hbl hbA hS (by omega) (by omega) dL_law_371 ?_
  refine lv_aload_n hx hb dL_law_372 rfl (lv_at hl 0 rfl) ?_
  refine lv_iload_n hx hb dL_law_373 rfl (lv_at hl 3 rfl) ?_
  refine lv_iconst (v := nI 3) hx hb dL_law_374 (by decide) ?_
  refine xa_iadd hx hb dL_law_375 ?_
  refine xa_sld hx hb hX hbl hbA hS (by omega) (by omega) dL_law_376 ?_
  refine lv_aload_n hx hb dL_law_377 rfl (lv_at hl 0 rfl) ?_
  refine lv_iload_n hx hb dL_law_378 rfl (lv_at hl 3 rfl) ?_
  refine lv_iconst (v := nI 4) hx hb dL_law_379 (by decide) ?_
  refine xa_iadd hx hb dL_law_380 ?_
  refine xa_sld hx hb hX hbl hbA hS (by omega) (by omega) dL_law_381 ?_
  refine va_calli (va_runV (As := [.int (xs (5 * t + 1 + 1)), .int (xs (5 * t + 1 + 2)), .int (xs (5 * t + 1 + 3)), .int (xs (5 * t + 1 + 4))]) (rest := [.int r1]) ⟨hx, hb, hml, hown, hts⟩ (c_mExists l D _ N hN1 hN bd (aok4_true haoM) cZ cI th rb mb pt g hm (xs (5 * t + 1 + 1)) (xs (5 * t + 1 + 2)) (xs (5 * t + 1 + 3)) (xs (5 * t + 1 + 4))) (cwV 4 hts gL_X2_exists rfl rfl rfl (by decide +kernel) ⟨Nat.le_of_ble_eq_true rfl, Nat.le_of_ble_eq_true rfl⟩) ⟨wp0_blind, va_recv hK hPm (ci := 2) (q0 := 0) rfl rfl, fun U hU hW => wp0_of hPm (hK.sub [3, 2] rfl) htb hS (fr4_in haoM hS hA) hU hW⟩ rfl rfl hl.1 rfl (lv_room (Nat.le_of_ble_eq_true rfl)) dL_law_382 ⟨Nat.le_of_ble_eq_true rfl, Nat.le_of_ble_eq_true rfl⟩) hS (fun q _ h => fr4_in haoM hS hA q h) (fun q h => fr4_in haoM hS hA q h) (fun r2 v t2 H2 locs ht2 hvm2 hw2 hB2 hz2 hk2 hS => ?_)
  obtain ⟨e2, hm2⟩ := hw2
  rw [ht2] at hB2
  have hPd := dk_kept hPd hap hk2
  exact lv_icmp_eq (tgt := 664) hx hb dL_law_385 (by decide) (fun _ => kk _ u v H2 locs hg1 hm2 hPd hB2 hS) (fun h => absurd (e1.trans e2.symm) h)
set_option maxHeartbeats 4000000 in
set_option maxRecDepth 100000 in
theorem arm_substitute {p : Program} {l : Launch} {e : Env} {s : State} {m : MethodId} {below : List Frame} {meth : Method} {c : Code} {b L : Nat} {xs : Nat → Int32} (hL : L ≤ 2561) (C0 : lw_At p s m meth c b L xs) {D : va_G} {A : Nat → Prop} (hA : ∀ q, s.heap.size ≤ q → A q) (hbA : ¬ A b) {N : Nat} (hN1 : 1 ≤ N) (hN : N ≤ 12) {ad bd : Nat → Nat} (haoD : aok A ad) (haoM : aok4 A bd) (hap : ∀ i j, i < 42 → j < 4 → ad i ≠ bd j) {cJJ cJ cI cZ : ClassId} (hK : va_K D vwCl (lwT cJJ cJ cI cZ) s) (htb : tbl A s s.heap) {t : Nat} (hi : 5 * t + 6 ≤ L) {g : Nat → Nat → Bool} {dr re : Nat → Int64} {tu kd uh bf la : Nat → Int32} {G : Nat → Nat → Int64} (hg : okG N G g) {th : Int32} {rb mb : Nat → Bool} {pt : Nat → Int32} (hm : okM N rb g) {H : Heap} {locs : List Loc} (hPd : va_P D vwCl (dkW N ad cJJ cJ cI dr re tu kd uh bf la G) H) (hPm : va_P D vwCl (mdW N bd cZ cI th rb mb pt) H) (hS : va_S A s.heap H locs) {ls : Array Slot} (hl : lv_has ls 4 [(0, .ref b), (1, .ref (ad 0)), (2, .ref (bd 0)), (3, .int (nI (5 * t + 1)))])
    (kk : ∀ (g : Nat → Nat → Bool) (u : dkS) (v : (Nat → Bool) × (Nat → Bool) × (Nat → Int32)) (H : Heap) (locs : List Loc), okG N (dkR u) g → okM N v.1 g → va_P D vwCl (dkU N ad cJJ cJ cI u) H → va_P D vwCl (mdW N bd cZ cI (nI 0) v.1 v.2.1 v.2.2) H → va_S A s.heap H locs → W p l e room_1 s m #[Value.ref b] below meth c H locs 46 149832 (lw_Z below #[Value.ref b] s) (F0 m 664 ls [])) : W p l e room_1 s m #[Value.ref b] below meth c H locs 46 149832 (lw_Z below #[Value.ref b] s) (F0 m 390 ls []) := by
  obtain ⟨hx, hb, hr, hml, hown0, hts, hX, hbl, hlocks, hgv⟩ := C0
  have hown : s.vm.findClass RL = some m.cls := hown0
  refine lv_aload_n hx hb dL_law_390 rfl (lv_at hl 1 rfl) ?_
  refine lv_aload_n hx hb dL_law_391 rfl (lv_at hl 0 rfl) ?_
  refine lv_iload_n hx hb dL_law_392 rfl (lv_at hl 3 rfl) ?_
  refine lv_iconst (v := nI 1) hx hb dL_law_393 (by decide) ?_
  refine xa_iadd hx hb dL_law_394 ?_
  refine xa_sld hx hb hX hbl hbA hS (by omega) (by omega) dL_law_395 ?_
  refine lv_aload_n hx hb dL_law_396 rfl (lv_at hl 0 rfl) ?_
  refine lv_iload_n hx hb dL_law_397 rfl (lv_at hl 3 rfl) ?_
  refine lv_iconst (v := nI 2) hx hb dL_law_398 (by decide) ?_
  refine xa_iadd hx hb dL_law_399 ?_
  refine xa_sld hx hb hX hbl hbA hS (by omega) (by omega) dL_law_400 ?_
  refine lv_aload_n hx hb dL_law_401 rfl (lv_at hl 0 rfl) ?_
  refine lv_iload_n hx hb dL_law_402 rfl (lv_at hl 3 rfl) ?_
  refine lv_iconst (v := nI 3) hx hb dL_law_403 (by decide) ?_
  refine xa_iadd hx hb dL_law_404 ?_
  refine xa_sld hx hb hX hbl hbA hS (by omega) (by omega) dL_law_405 ?_
  refine va_calli (va_runV (As := [.int (xs (5 * t + 1 + 1)), .int (xs (5 * t + 1 + 2)), .int (xs (5 * t + 1 + 3))]) (rest := []) ⟨hx, hb, hml, hown, hts⟩ (c_substitute l D _ N hN1 hN ad (aok_true haoD) cJJ cJ cI dr re tu kd uh bf la G g hg (xs (5 * t + 1 + 1)) (xs (5 * t + 1 + 2)) (xs (5 * t + 1 + 3))) (cwV 3 hts gL_X1_substitute rfl rfl rfl (by decide +kernel) ⟨Nat.le_of_ble_eq_true rfl, Nat.le_of_ble_eq_true rfl⟩) ⟨wp0_blind, va_recv hK hPd (ci := 1) (q0 := 0) rfl rfl, fun U hU hW => wp0_of hPd (hK.sub [0, 1, 2] rfl) htb hS (fr_in haoD hS hA) hU hW⟩ rfl rfl hl.1 rfl (lv_room (Nat.le_of_ble_eq_true rfl)) dL_law_406 ⟨Nat.le_of_ble_eq_true rfl, Nat.le_of_ble_eq_true rfl⟩) hS (fun q _ h => fr_in haoD hS hA q h) (fun q h => fr_in haoD hS hA q h) (fun r1 u t1 H1 locs ht hvm hw hB hz1 hk1 hS => ?_)
  obtain ⟨e1, hg1⟩ := hw
  rw [ht] at hB
  have hPm := md_kept hPm hap hk1
  have hPd := hB
  generalize H1 = H at hPd hPm hS ⊢
  refine lv_aload_n hx hb dL_law_409 rfl (lv_at hl 2 rfl) ?_
  refine lv_aload_n hx hb dL_law_410 rfl (lv_at hl 0 rfl) ?_
  refine lv_iload_n hx hb dL_law_411 rfl (lv_at hl 3 rfl) ?_
  refine lv_iconst (v := nI 1) hx hb dL_law_412 (by decide) ?_
  refine xa_iadd hx hb dL_law_413 ?_
  refine xa_sld hx hb hX hbl hbA hS (by omega) (by omega) dL_law_414 ?_
  refine lv_aload_n hx hb dL_law_415 rfl (lv_at hl 0 rfl) ?_
  refine lv_iload_n hx hb dL_law_416 rfl (lv_at hl 3 rfl) ?_
  refine lv_iconst (v := nI 2) hx hb dL_law_417 (by decide) ?_
  refine xa_iadd hx hb dL_law_418 ?_
  refine xa_sld hx hb hX hbl hbA hS (by omega) (by omega) dL_law_419 ?_
  refine lv_aload_n hx hb dL_law_420 rfl (lv_at hl 0 rfl) ?_
  refine lv_iload_n hx hb dL_law_421 rfl (lv_at hl 3 rfl) ?_
  refine lv_iconst (v := nI 3) hx hb dL_law_422 (by decide) ?_
  refine xa_iadd hx hb dL_law_423 ?_
  refine xa_sld hx hb hX hbl hbA hS (by omega) (by omega) dL_law_424 ?_
  refine va_calli (va_runV (As := [.int (xs (5 * t + 1 + 1)), .int (xs (5 * t + 1 + 2)), .int (xs (5 * t + 1 + 3))]) (rest := [.int r1]) ⟨hx, hb, hml, hown, hts⟩ (c_mSubstitute l D _ N hN1 hN bd (aok4_true haoM) cZ cI th rb mb pt g hm (xs (5 * t + 1 + 1)) (xs (5 * t + 1 + 2)) (xs (5 * t + 1 + 3))) (cwV 3 hts gL_X2_substitute rfl rfl rfl (by decide +kernel) ⟨Nat.le_of_ble_eq_true rfl, Nat.le_of_ble_eq_true rfl⟩) ⟨wp0_blind, va_recv hK hPm (ci := 2) (q0 := 0) rfl rfl, fun U hU hW => wp0_of hPm (hK.sub [3, 2] rfl) htb hS (fr4_in haoM hS hA) hU hW⟩ rfl rfl hl.1 rfl (lv_room (Nat.le_of_ble_eq_true rfl)) dL_law_425 ⟨Nat.le_of_ble_eq_true rfl, Nat.le_of_ble_eq_true rfl⟩) hS (fun q _ h => fr4_in haoM hS hA q h) (fun q h => fr4_in haoM hS hA q h) (fun r2 v t2 H2 locs ht2 hvm2 hw2 hB2 hz2 hk2 hS => ?_)
  obtain ⟨e2, hm2⟩ := hw2
  rw [ht2] at hB2
  have hPd := dk_kept hPd hap hk2
  exact lv_icmp_eq (tgt := 664) hx hb dL_law_428 (by decide) (fun _ => kk _ u v H2 locs hg1 hm2 hPd hB2 hS) (fun h => absurd (e1.trans e2.symm) h)
set_option maxHeartbeats 4000000 in
set_option maxRecDepth 100000 in
theorem arm_nearest {p : Program} {l : Launch} {e : Env} {s : State} {m : MethodId} {below : List Frame} {meth : Method} {c : Code} {b L : Nat} {xs : Nat → Int32} (hL : L ≤ 2561) (C0 : lw_At p s m meth c b L xs) {D : va_G} {A : Nat → Prop} (hA : ∀ q, s.heap.size ≤ q → A q) (hbA : ¬ A b) {N : Nat} (hN1 : 1 ≤ N) (hN : N ≤ 12) {ad bd : Nat → Nat} (haoD : aok A ad) (haoM : aok4 A bd) (hap : ∀ i j, i < 42 → j < 4 → ad i ≠ bd j) {cJJ cJ cI cZ : ClassId} (hK : va_K D vwCl (lwT cJJ cJ cI cZ) s) (htb : tbl A s s.heap) {t : Nat} (hi : 5 * t + 6 ≤ L) {g : Nat → Nat → Bool} {dr re : Nat → Int64} {tu kd uh bf la : Nat → Int32} {G : Nat → Nat → Int64} (hg : okG N G g) {th : Int32} {rb mb : Nat → Bool} {pt : Nat → Int32} (hm : okM N rb g) {H : Heap} {locs : List Loc} (hPd : va_P D vwCl (dkW N ad cJJ cJ cI dr re tu kd uh bf la G) H) (hPm : va_P D vwCl (mdW N bd cZ cI th rb mb pt) H) (hS : va_S A s.heap H locs) {ls : Array Slot} (hl : lv_has ls 4 [(0, .ref b), (1, .ref (ad 0)), (2, .ref (bd 0)), (3, .int (nI (5 * t + 1)))])
    (kk : ∀ (g : Nat → Nat → Bool) (u : dkS) (v : (Nat → Bool) × (Nat → Bool) × (Nat → Int32)) (H : Heap) (locs : List Loc), okG N (dkR u) g → okM N v.1 g → va_P D vwCl (dkU N ad cJJ cJ cI u) H → va_P D vwCl (mdW N bd cZ cI (nI 0) v.1 v.2.1 v.2.2) H → va_S A s.heap H locs → W p l e room_1 s m #[Value.ref b] below meth c H locs 46 149832 (lw_Z below #[Value.ref b] s) (F0 m 664 ls [])) : W p l e room_1 s m #[Value.ref b] below meth c H locs 46 149832 (lw_Z below #[Value.ref b] s) (F0 m 433 ls []) := by
  obtain ⟨hx, hb, hr, hml, hown0, hts, hX, hbl, hlocks, hgv⟩ := C0
  have hown : s.vm.findClass RL = some m.cls := hown0
  refine lv_aload_n hx hb dL_law_433 rfl (lv_at hl 1 rfl) ?_
  refine lv_aload_n hx hb dL_law_434 rfl (lv_at hl 0 rfl) ?_
  refine lv_iload_n hx hb dL_law_435 rfl (lv_at hl 3 rfl) ?_
  refine lv_iconst (v := nI 1) hx hb dL_law_436 (by decide) ?_
  refine xa_iadd hx hb dL_law_437 ?_
  refine xa_sld hx hb hX hbl hbA hS (by omega) (by omega) dL_law_438 ?_
  refine lv_aload_n hx hb dL_law_439 rfl (lv_at hl 0 rfl) ?_
  refine lv_iload_n hx hb dL_law_440 rfl (lv_at hl 3 rfl) ?_
  refine lv_iconst (v := nI 2) hx hb dL_law_441 (by decide) ?_
  refine xa_iadd hx hb dL_law_442 ?_
  refine xa_sld hx hb hX hbl hbA hS (by omega) (by omega) dL_law_443 ?_
  refine lv_aload_n hx hb dL_law_444 rfl (lv_at hl 0 rfl) ?_
  refine lv_iload_n hx hb dL_law_445 rfl (lv_at hl 3 rfl) ?_
  refine lv_iconst (v := nI 3) hx hb dL_law_446 (by decide) ?_
  refine xa_iadd hx hb dL_law_447 ?_
  refine xa_sld hx hb hX hbl hbA hS (by omega) (by omega) dL_law_448 ?_
  refine va_calli (va_runV (As := [.int (xs (5 * t + 1 + 1)), .int (xs (5 * t + 1 + 2)), .int (xs (5 * t + 1 + 3))]) (rest := []) ⟨hx, hb, hml, hown, hts⟩ (c_nearest l D _ N hN1 hN ad (aok_true haoD) cJJ cJ cI dr re tu kd uh bf la G g hg (xs (5 * t + 1 + 1)) (xs (5 * t + 1 + 2)) (xs (5 * t + 1 + 3))) (cwV 3 hts gL_X1_nearest rfl rfl rfl (by decide +kernel) ⟨Nat.le_of_ble_eq_true rfl, Nat.le_of_ble_eq_true rfl⟩) ⟨wp0_blind, va_recv hK hPd (ci := 1) (q0 := 0) rfl rfl, fun U hU hW => wp0_of hPd (hK.sub [0, 1, 2] rfl) htb hS (fr_in haoD hS hA) hU hW⟩ rfl rfl hl.1 rfl (lv_room (Nat.le_of_ble_eq_true rfl)) dL_law_449 ⟨Nat.le_of_ble_eq_true rfl, Nat.le_of_ble_eq_true rfl⟩) hS (fun q _ h => fr_in haoD hS hA q h) (fun q h => fr_in haoD hS hA q h) (fun r1 u t1 H1 locs ht hvm hw hB hz1 hk1 hS => ?_)
  obtain ⟨e1, hg1⟩ := hw
  rw [ht] at hB
  have hPm := md_kept hPm hap hk1
  have hPd := hB
  generalize H1 = H at hPd hPm hS ⊢
  refine lv_aload_n hx hb dL_law_452 rfl (lv_at hl 2 rfl) ?_
  refine lv_aload_n hx hb dL_law_453 rfl (lv_at hl 0 rfl) ?_
  refine lv_iload_n hx hb dL_law_454 rfl (lv_at hl 3 rfl) ?_
  refine lv_iconst (v := nI 1) hx hb dL_law_455 (by decide) ?_
  refine xa_iadd hx hb dL_law_456 ?_
  refine xa_sld hx hb hX hbl hbA hS (by omega) (by omega) dL_law_457 ?_
  refine lv_aload_n hx hb dL_law_458 rfl (lv_at hl 0 rfl) ?_
  refine lv_iload_n hx hb dL_law_459 rfl (lv_at hl 3 rfl) ?_
  refine lv_iconst (v := nI 2) hx hb dL_law_460 (by decide) ?_
  refine xa_iadd hx hb dL_law_461 ?_
  refine xa_sld hx hb hX hbl hbA hS (by omega) (by omega) dL_law_462 ?_
  refine lv_aload_n hx hb dL_law_463 rfl (lv_at hl 0 rfl) ?_
  refine lv_iload_n hx hb dL_law_464 rfl (lv_at hl 3 rfl) ?_
  refine lv_iconst (v := nI 3) hx hb dL_law_465 (by decide) ?_
  refine xa_iadd hx hb dL_law_466 ?_
  refine xa_sld hx hb hX hbl hbA hS (by omega) (by omega) dL_law_467 ?_
  refine va_calli (va_runV (As := [.int (xs (5 * t + 1 + 1)), .int (xs (5 * t + 1 + 2)), .int (xs (5 * t + 1 + 3))]) (rest := [.int r1]) ⟨hx, hb, hml, hown, hts⟩ (c_mNearest l D _ N hN1 hN bd (aok4_true haoM) cZ cI th rb mb pt g hm (xs (5 * t + 1 + 1)) (xs (5 * t + 1 + 2)) (xs (5 * t + 1 + 3))) (cwV 3 hts gL_X2_nearest rfl rfl rfl (by decide +kernel) ⟨Nat.le_of_ble_eq_true rfl, Nat.le_of_ble_eq_true rfl⟩) ⟨wp0_blind, va_recv hK hPm (ci := 2) (q0 := 0) rfl rfl, fun U hU hW => wp0_of hPm (hK.sub [3, 2] rfl) htb hS (fr4_in haoM hS hA) hU hW⟩ rfl rfl hl.1 rfl (lv_room (Nat.le_of_ble_eq_true rfl)) dL_law_468 ⟨Nat.le_of_ble_eq_true rfl, Nat.le_of_ble_eq_true rfl⟩) hS (fun q _ h => fr4_in haoM hS hA q h) (fun q h => fr4_in haoM hS hA q h) (fun r2 v t2 H2 locs ht2 hvm2 hw2 hB2 hz2 hk2 hS => ?_)
  obtain ⟨e2, hm2⟩ := hw2
  rw [ht2] at hB2
  have hPd := dk_kept hPd hap hk2
  exact lv_icmp_eq (tgt := 664) hx hb dL_law_471 (by decide) (fun _ => kk _ u v H2 locs hg1 hm2 hPd hB2 hS) (fun h => absurd (e1.trans e2.symm) h)
set_option maxHeartbeats 4000000 in
set_option maxRecDepth 100000 in
theorem arm_image {p : Program} {l : Launch} {e : Env} {s : State} {m : MethodId} {below : List Frame} {meth : Method} {c : Code} {b L : Nat} {xs : Nat → Int32} (hL : L ≤ 2561) (C0 : lw_At p s m meth c b L xs) {D : va_G} {A : Nat → Prop} (hA : ∀ q, s.heap.size ≤ q → A q) (hbA : ¬ A b) {N : Nat} (hN1 : 1 ≤ N) (hN : N ≤ 12) {ad bd : Nat → Nat} (haoD : aok A ad) (haoM : aok4 A bd) (hap : ∀ i j, i < 42 → j < 4 → ad i ≠ bd j) {cJJ cJ cI cZ : ClassId} (hK : va_K D vwCl (lwT cJJ cJ cI cZ) s) (htb : tbl A s s.heap) {t : Nat} (hi : 5 * t + 6 ≤ L) {g : Nat → Nat → Bool} {dr re : Nat → Int64} {tu kd uh bf la : Nat → Int32} {G : Nat → Nat → Int64} (hg : okG N G g) {th : Int32} {rb mb : Nat → Bool} {pt : Nat → Int32} (hm : okM N rb g) {H : Heap} {locs : List Loc} (hPd : va_P D vwCl (dkW N ad cJJ cJ cI dr re tu kd uh bf la G) H) (hPm : va_P D vwCl (mdW N bd cZ cI th rb mb pt) H) (hS : va_S A s.heap H locs) {ls : Array Slot} (hl : lv_has ls 4 [(0, .ref b), (1, .ref (ad 0)), (2, .ref (bd 0)), (3, .int (nI (5 * t + 1)))])
    (kk : ∀ (g : Nat → Nat → Bool) (u : dkS) (v : (Nat → Bool) × (Nat → Bool) × (Nat → Int32)) (H : Heap) (locs : List Loc), okG N (dkR u) g → okM N v.1 g → va_P D vwCl (dkU N ad cJJ cJ cI u) H → va_P D vwCl (mdW N bd cZ cI (nI 0) v.1 v.2.1 v.2.2) H → va_S A s.heap H locs → W p l e room_1 s m #[Value.ref b] below meth c H locs 46 149832 (lw_Z below #[Value.ref b] s) (F0 m 664 ls [])) : W p l e room_1 s m #[Value.ref b] below meth c H locs 46 149832 (lw_Z below #[Value.ref b] s) (F0 m 476 ls []) := by
  obtain ⟨hx, hb, hr, hml, hown0, hts, hX, hbl, hlocks, hgv⟩ := C0
  have hown : s.vm.findClass RL = some m.cls := hown0
  refine lv_aload_n hx hb dL_law_476 rfl (lv_at hl 1 rfl) ?_
  refine lv_aload_n hx hb dL_law_477 rfl (lv_at hl 0 rfl) ?_
  refine lv_iload_n hx hb dL_law_478 rfl (lv_at hl 3 rfl) ?_
  refine lv_iconst (v := nI 1) hx hb dL_law_479 (by decide) ?_
  refine xa_iadd hx hb dL_law_480 ?_
  refine xa_sld hx hb hX hbl hbA hS (by omega) (by omega) dL_law_481 ?_
  refine lv_aload_n hx hb dL_law_482 rfl (lv_at hl 0 rfl) ?_
  refine lv_iload_n hx hb dL_law_483 rfl (lv_at hl 3 rfl) ?_
  refine lv_iconst (v := nI 2) hx hb dL_law_484 (by decide) ?_
  refine xa_iadd hx hb dL_law_485 ?_
  refine xa_sld hx hb hX hbl hbA hS (by omega) (by omega) dL_law_486 ?_
  refine lv_aload_n hx hb dL_law_487 rfl (lv_at hl 0 rfl) ?_
  refine lv_iload_n hx hb dL_law_488 rfl (lv_at hl 3 rfl) ?_
  refine lv_iconst (v := nI 3) hx hb dL_law_489 (by decide) ?_
  refine xa_iadd hx hb dL_law_490 ?_
  refine xa_sld hx hb hX hbl hbA hS (by omega) (by omega) dL_law_491 ?_
  refine lv_aload_n hx hb dL_law_492 rfl (lv_at hl 0 rfl) ?_
  refine lv_iload_n hx hb dL_law_493 rfl (lv_at hl 3 rfl) ?_
  refine lv_iconst (v := nI 4) hx hb dL_law_494 (by decide) ?_
  refine xa_iadd hx hb dL_law_495 ?_
  refine xa_sld hx hb hX hbl hbA hS (by omega) (by omega) dL_law_496 ?_
  refine va_calli (va_runV (As := [.int (xs (5 * t + 1 + 1)), .int (xs (5 * t + 1 + 2)), .int (xs (5 * t + 1 + 3)), .int (xs (5 * t + 1 + 4))]) (rest := []) ⟨hx, hb, hml, hown, hts⟩ (c_image l D _ N hN1 hN ad (aok_true haoD) cJJ cJ cI dr re tu kd uh bf la G g hg (xs (5 * t + 1 + 1)) (xs (5 * t + 1 + 2)) (xs (5 * t + 1 + 3)) (xs (5 * t + 1 + 4))) (cwV 4 hts gL_X1_image rfl rfl rfl (by decide +kernel) ⟨Nat.le_of_ble_eq_true rfl, Nat.le_of_ble_eq_true rfl⟩) ⟨wp0_blind, va_recv hK hPd (ci := 1) (q0 := 0) rfl rfl, fun U hU hW => wp0_of hPd (hK.sub [0, 1, 2] rfl) htb hS (fr_in haoD hS hA) hU hW⟩ rfl rfl hl.1 rfl (lv_room (Nat.le_of_ble_eq_true rfl)) dL_law_497 ⟨Nat.le_of_ble_eq_true rfl, Nat.le_of_ble_eq_true rfl⟩) hS (fun q _ h => fr_in haoD hS hA q h) (fun q h => fr_in haoD hS hA q h) (fun r1 u t1 H1 locs ht hvm hw hB hz1 hk1 hS => ?_)
  obtain ⟨e1, hg1⟩ := hw
  rw [ht] at hB
  have hPm := md_kept hPm hap hk1
  have hPd := hB
  generalize H1 = H at hPd hPm hS ⊢
  refine lv_aload_n hx hb dL_law_500 rfl (lv_at hl 2 rfl) ?_
  refine lv_aload_n hx hb dL_law_501 rfl (lv_at hl 0 rfl) ?_
  refine lv_iload_n hx hb dL_law_502 rfl (lv_at hl 3 rfl) ?_
  refine lv_iconst (v := nI 1) hx hb dL_law_503 (by decide) ?_
  refine xa_iadd hx hb dL_law_504 ?_
  refine xa_sld hx hb hX hbl hbA hS (by omega) (by omega) dL_law_505 ?_
  refine lv_aload_n hx hb dL_law_506 rfl (lv_at hl 0 rfl) ?_
  refine lv_iload_n hx hb dL_law_507 rfl (lv_at hl 3 rfl) ?_
  refine lv_iconst (v := nI 2) hx hb dL_law_508 (by decide) ?_
  refine xa_iadd hx hb dL_law_509 ?_
  refine xa_sld hx hb hX hbl hbA hS (by omega) (by omega) dL_law_510 ?_
  refine lv_aload_n hx hb dL_law_511 rfl (lv_at hl 0 rfl) ?_
  refine lv_iload_n hx hb dL_law_512 rfl (lv_at hl 3 rfl) ?_
  refine lv_iconst (v := nI 3) hx hb dL_law_513 (by decide) ?_
  refine xa_iadd hx hb dL_law_514 ?_
  refine xa_sld hx hb hX hbl hbA hS (by omega) (by omega) dL_law_515 ?_
  refine lv_aload_n hx hb dL_law_516 rfl (lv_at hl 0 rfl) ?_
  refine lv_iload_n hx hb dL_law_517 rfl (lv_at hl 3 rfl) ?_
  refine lv_iconst (v := nI 4) hx hb dL_law_518 (by decide) ?_
  refine xa_iadd hx hb dL_law_519 ?_
  refine xa_sld hx hb hX hbl hbA hS (by omega) (by omega) dL_law_520 ?_
  refine va_calli (va_runV (As := [.int (xs (5 * t + 1 + 1)), .int (xs (5 * t + 1 + 2)), .int (xs (5 * t + 1 + 3)), .int (xs (5 * t + 1 + 4))]) (rest := [.int r1]) ⟨hx, hb, hml, hown, hts⟩ (c_mImage l D _ N hN1 hN bd (aok4_true haoM) cZ cI th rb mb pt g hm (xs (5 * t + 1 + 1)) (xs (5 * t + 1 + 2)) (xs (5 * t + 1 + 3)) (xs (5 * t + 1 + 4))) (cwV 4 hts gL_X2_image rfl rfl rfl (by decide +kernel) ⟨Nat.le_of_ble_eq_true rfl, Nat.le_of_ble_eq_true rfl⟩) ⟨wp0_blind, va_recv hK hPm (ci := 2) (q0 := 0) rfl rfl, fun U hU hW => wp0_of hPm (hK.sub [3, 2] rfl) htb hS (fr4_in haoM hS hA) hU hW⟩ rfl rfl hl.1 rfl (lv_room (Nat.le_of_ble_eq_true rfl)) dL_law_521 ⟨Nat.le_of_ble_eq_true rfl, Nat.le_of_ble_eq_true rfl⟩) hS (fun q _ h => fr4_in haoM hS hA q h) (fun q h => fr4_in haoM hS hA q h) (fun r2 v t2 H2 locs ht2 hvm2 hw2 hB2 hz2 hk2 hS => ?_)
  obtain ⟨e2, hm2⟩ := hw2
  rw [ht2] at hB2
  have hPd := dk_kept hPd hap hk2
  exact lv_icmp_eq (tgt := 664) hx hb dL_law_524 (by decide) (fun _ => kk _ u v H2 locs hg1 hm2 hPd hB2 hS) (fun h => absurd (e1.trans e2.symm) h)
set_option maxHeartbeats 4000000 in
set_option maxRecDepth 100000 in
theorem arm_forks {p : Program} {l : Launch} {e : Env} {s : State} {m : MethodId} {below : List Frame} {meth : Method} {c : Code} {b L : Nat} {xs : Nat → Int32} (hL : L ≤ 2561) (C0 : lw_At p s m meth c b L xs) {D : va_G} {A : Nat → Prop} (hA : ∀ q, s.heap.size ≤ q → A q) (hbA : ¬ A b) {N : Nat} (hN1 : 1 ≤ N) (hN : N ≤ 12) {ad bd : Nat → Nat} (haoD : aok A ad) (haoM : aok4 A bd) (hap : ∀ i j, i < 42 → j < 4 → ad i ≠ bd j) {cJJ cJ cI cZ : ClassId} (hK : va_K D vwCl (lwT cJJ cJ cI cZ) s) (htb : tbl A s s.heap) {t : Nat} (hi : 5 * t + 6 ≤ L) {g : Nat → Nat → Bool} {dr re : Nat → Int64} {tu kd uh bf la : Nat → Int32} {G : Nat → Nat → Int64} (hg : okG N G g) {th : Int32} {rb mb : Nat → Bool} {pt : Nat → Int32} (hm : okM N rb g) {H : Heap} {locs : List Loc} (hPd : va_P D vwCl (dkW N ad cJJ cJ cI dr re tu kd uh bf la G) H) (hPm : va_P D vwCl (mdW N bd cZ cI th rb mb pt) H) (hS : va_S A s.heap H locs) {ls : Array Slot} (hl : lv_has ls 4 [(0, .ref b), (1, .ref (ad 0)), (2, .ref (bd 0)), (3, .int (nI (5 * t + 1)))])
    (kk : ∀ (g : Nat → Nat → Bool) (u : dkS) (v : (Nat → Bool) × (Nat → Bool) × (Nat → Int32)) (H : Heap) (locs : List Loc), okG N (dkR u) g → okM N v.1 g → va_P D vwCl (dkU N ad cJJ cJ cI u) H → va_P D vwCl (mdW N bd cZ cI (nI 0) v.1 v.2.1 v.2.2) H → va_S A s.heap H locs → W p l e room_1 s m #[Value.ref b] below meth c H locs 46 149832 (lw_Z below #[Value.ref b] s) (F0 m 664 ls [])) : W p l e room_1 s m #[Value.ref b] below meth c H locs 46 149832 (lw_Z below #[Value.ref b] s) (F0 m 529 ls []) := by
  obtain ⟨hx, hb, hr, hml, hown0, hts, hX, hbl, hlocks, hgv⟩ := C0
  have hown : s.vm.findClass RL = some m.cls := hown0
  refine lv_aload_n hx hb dL_law_529 rfl (lv_at hl 1 rfl) ?_
  refine lv_aload_n hx hb dL_law_530 rfl (lv_at hl 0 rfl) ?_
  refine lv_iload_n hx hb dL_law_531 rfl (lv_at hl 3 rfl) ?_
  refine lv_iconst (v := nI 1) hx hb dL_law_532 (by decide) ?_
  refine xa_iadd hx hb dL_law_533 ?_
  refine xa_sld hx hb hX hbl hbA hS (by omega) (by omega) dL_law_534 ?_
  refine va_calli (va_runV (As := [.int (xs (5 * t + 1 + 1))]) (rest := []) ⟨hx, hb, hml, hown, hts⟩ (c_forks l D _ N hN1 hN ad (aok_true haoD) cJJ cJ cI dr re tu kd uh bf la G g hg (xs (5 * t + 1 + 1))) (cwV 1 hts gL_X1_forks rfl rfl rfl (by decide +kernel) ⟨Nat.le_of_ble_eq_true rfl, Nat.le_of_ble_eq_true rfl⟩) ⟨wp0_blind, va_recv hK hPd (ci := 1) (q0 := 0) rfl rfl, fun U hU hW => wp0_of hPd (hK.sub [0, 1, 2] rfl) htb hS (fr_in haoD hS hA) hU hW⟩ rfl rfl hl.1 rfl (lv_room (Nat.le_of_ble_eq_true rfl)) dL_law_535 ⟨Nat.le_of_ble_eq_true rfl, Nat.le_of_ble_eq_true rfl⟩) hS (fun q _ h => fr_in haoD hS hA q h) (fun q h => fr_in haoD hS hA q h) (fun r1 u t1 H1 locs ht hvm hw hB hz1 hk1 hS => ?_)
  obtain ⟨e1, hg⟩ := hw
  rw [ht] at hB
  have hPm := md_kept hPm hap hk1
  have hPd := hB
  generalize H1 = H at hPd hPm hS ⊢
  refine lv_aload_n hx hb dL_law_538 rfl (lv_at hl 2 rfl) ?_
  refine lv_aload_n hx hb dL_law_539 rfl (lv_at hl 0 rfl) ?_
  refine lv_iload_n hx hb dL_law_540 rfl (lv_at hl 3 rfl) ?_
  refine lv_iconst (v := nI 1) hx hb dL_law_541 (by decide) ?_
  refine xa_iadd hx hb dL_law_542 ?_
  refine xa_sld hx hb hX hbl hbA hS (by omega) (by omega) dL_law_543 ?_
  refine va_calli (va_runV (As := [.int (xs (5 * t + 1 + 1))]) (rest := [.int r1]) ⟨hx, hb, hml, hown, hts⟩ (c_mForks l D _ N hN1 hN bd (aok4_true haoM) cZ cI th rb mb pt g hm (xs (5 * t + 1 + 1))) (cwV 1 hts gL_X2_forks rfl rfl rfl (by decide +kernel) ⟨Nat.le_of_ble_eq_true rfl, Nat.le_of_ble_eq_true rfl⟩) ⟨wp0_blind, va_recv hK hPm (ci := 2) (q0 := 0) rfl rfl, fun U hU hW => wp0_of hPm (hK.sub [3, 2] rfl) htb hS (fr4_in haoM hS hA) hU hW⟩ rfl rfl hl.1 rfl (lv_room (Nat.le_of_ble_eq_true rfl)) dL_law_544 ⟨Nat.le_of_ble_eq_true rfl, Nat.le_of_ble_eq_true rfl⟩) hS (fun q _ h => fr4_in haoM hS hA q h) (fun q h => fr4_in haoM hS hA q h) (fun r2 v t2 H2 locs ht2 hvm2 hw2 hB2 hz2 hk2 hS => ?_)
  obtain ⟨e2, hm2⟩ := hw2
  rw [ht2] at hB2
  have hPd := dk_kept hPd hap hk2
  exact lv_icmp_eq (tgt := 664) hx hb dL_law_547 (by decide) (fun _ => kk g u v H2 locs hg hm2 hPd hB2 hS) (fun h => absurd (e1.trans e2.symm) h)
