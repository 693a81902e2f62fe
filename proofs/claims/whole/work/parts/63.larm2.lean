set_option maxHeartbeats 4000000 in
set_option maxRecDepth 100000 in
theorem arm_ones {p : Program} {l : Launch} {e : Env} {s : State} {m : MethodId} {below : List Frame} {meth : Method} {c : Code} {b L : Nat} {xs : Nat → Int32} (hL : L ≤ 2561) (C0 : lw_At p s m meth c b L xs) {D : va_G} {A : Nat → Prop} (hA : ∀ q, s.heap.size ≤ q → A q) (hbA : ¬ A b) {N : Nat} (hN1 : 1 ≤ N) (hN : N ≤ 12) {ad bd : Nat → Nat} (haoD : aok A ad) (haoM : aok4 A bd) (hap : ∀ i j, i < 42 → j < 4 → ad i ≠ bd j) {cJJ cJ cI cZ : ClassId} (hK : va_K D vwCl (lwT cJJ cJ cI cZ) s) (htb : tbl A s s.heap) {t : Nat} (hi : 5 * t + 6 ≤ L) {g : Nat → Nat → Bool} {dr re : Nat → Int64} {tu kd uh bf la : Nat → Int32} {G : Nat → Nat → Int64} (hg : okG N G g) {th : Int32} {rb mb : Nat → Bool} {pt : Nat → Int32} (hm : okM N rb g) {H : Heap} {locs : List Loc} (hPd : va_P D vwCl (dkW N ad cJJ cJ cI dr re tu kd uh bf la G) H) (hPm : va_P D vwCl (mdW N bd cZ cI th rb mb pt) H) (hS : va_S A s.heap H locs) {ls : Array Slot} (hl : lv_has ls 4 [(0, .ref b), (1, .ref (ad 0)), (2, .ref (bd 0)), (3, .int (nI (5 * t + 1)))])
    (kk : ∀ (g : Nat → Nat → Bool) (u : dkS) (v : (Nat → Bool) × (Nat → Bool) × (Nat → Int32)) (H : Heap) (locs : List Loc), okG N (dkR u) g → okM N v.1 g → va_P D vwCl (dkU N ad cJJ cJ cI u) H → va_P D vwCl (mdW N bd cZ cI (nI 0) v.1 v.2.1 v.2.2) H → va_S A s.heap H locs → W p l e room_1 s m #[Value.ref b] below meth c H locs 46 149832 (lw_Z below #[Value.ref b] s) (F0 m 664 ls [])) : W p l e room_1 s m #[Value.ref b] below meth c H locs 46 149832 (lw_Z below #[Value.ref b] s) (F0 m 552 ls []) := by
  obtain ⟨hx, hb, hr, hml, hown0, hts, hX, hbl, hlocks, hgv⟩ := C0
  have hown : s.vm.findClass RL = some m.cls := hown0
  refine lv_aload_n hx hb dL_law_552 rfl (lv_at hl 1 rfl) ?_
  refine lv_aload_n hx hb dL_law_553 rfl (lv_at hl 0 rfl) ?_
  refine lv_iload_n hx hb dL_law_554 rfl (lv_at hl 3 rfl) ?_
  refine lv_iconst (v := nI 1) hx hb dL_law_555 (by decide) ?_
  refine xa_iadd hx hb dL_law_556 ?_
  refine xa_sld hx hb hX hbl hbA hS (by omega) (by omega) dL_law_557 ?_
  refine va_calli (va_runV (As := [.int (xs (5 * t + 1 + 1))]) (rest := []) ⟨hx, hb, hml, hown, hts⟩ (c_ones l D _ N hN1 hN ad (aok_true haoD) cJJ cJ cI dr re tu kd uh bf la G g hg (xs (5 * t + 1 + 1))) (cwV 1 hts gL_X1_ones rfl rfl rfl (by decide +kernel) ⟨Nat.le_of_ble_eq_true rfl, Nat.le_of_ble_eq_true rfl⟩) ⟨wp0_blind, va_recv hK hPd (ci := 1) (q0 := 0) rfl rfl, fun U hU hW => wp0_of hPd (hK.sub [0, 1, 2] rfl) htb hS no_in hU hW⟩ rfl rfl hl.1 rfl (lv_room (Nat.le_of_ble_eq_true rfl)) dL_law_558 ⟨Nat.le_of_ble_eq_true rfl, Nat.le_of_ble_eq_true rfl⟩) hS (fun q _ h => h.elim) (fun q h => h.elim) (fun r1 u t1 H1 locs ht hvm hw hB hz1 hk1 hS => ?_)
  have e1 := hw
  have hPd := xa_same hPd hk1
  have hPm := xa_same hPm hk1
  generalize H1 = H at hPd hPm hS ⊢
  refine lv_aload_n hx hb dL_law_561 rfl (lv_at hl 2 rfl) ?_
  refine lv_aload_n hx hb dL_law_562 rfl (lv_at hl 0 rfl) ?_
  refine lv_iload_n hx hb dL_law_563 rfl (lv_at hl 3 rfl) ?_
  refine lv_iconst (v := nI 1) hx hb dL_law_564 (by decide) ?_
  refine xa_iadd hx hb dL_law_565 ?_
  refine xa_sld hx hb hX hbl hbA hS (by omega) (by omega) dL_law_566 ?_
  refine va_calli (va_runV (As := [.int (xs (5 * t + 1 + 1))]) (rest := [.int r1]) ⟨hx, hb, hml, hown, hts⟩ (c_mOnes l D _ N hN1 hN bd (aok4_true haoM) cZ cI th rb mb pt g hm (xs (5 * t + 1 + 1))) (cwV 1 hts gL_X2_ones rfl rfl rfl (by decide +kernel) ⟨Nat.le_of_ble_eq_true rfl, Nat.le_of_ble_eq_true rfl⟩) ⟨wp0_blind, va_recv hK hPm (ci := 2) (q0 := 0) rfl rfl, fun U hU hW => wp0_of hPm (hK.sub [3, 2] rfl) htb hS (fr4_in haoM hS hA) hU hW⟩ rfl rfl hl.1 rfl (lv_room (Nat.le_of_ble_eq_true rfl)) dL_law_567 ⟨Nat.le_of_ble_eq_true rfl, Nat.le_of_ble_eq_true rfl⟩) hS (fun q _ h => fr4_in haoM hS hA q h) (fun q h => fr4_in haoM hS hA q h) (fun r2 v t2 H2 locs ht2 hvm2 hw2 hB2 hz2 hk2 hS => ?_)
  obtain ⟨e2, hm2⟩ := hw2
  rw [ht2] at hB2
  have hPd := dk_kept hPd hap hk2
  exact lv_icmp_eq (tgt := 664) hx hb dL_law_570 (by decide) (fun _ => kk g (dr, re, tu, kd, uh, bf, la, G) v H2 locs hg hm2 hPd hB2 hS) (fun h => absurd (e1.trans e2.symm) h)
set_option maxHeartbeats 4000000 in
set_option maxRecDepth 100000 in
theorem arm_least {p : Program} {l : Launch} {e : Env} {s : State} {m : MethodId} {below : List Frame} {meth : Method} {c : Code} {b L : Nat} {xs : Nat → Int32} (hL : L ≤ 2561) (C0 : lw_At p s m meth c b L xs) {D : va_G} {A : Nat → Prop} (hA : ∀ q, s.heap.size ≤ q → A q) (hbA : ¬ A b) {N : Nat} (hN1 : 1 ≤ N) (hN : N ≤ 12) {ad bd : Nat → Nat} (haoD : aok A ad) (haoM : aok4 A bd) (hap : ∀ i j, i < 42 → j < 4 → ad i ≠ bd j) {cJJ cJ cI cZ : ClassId} (hK : va_K D vwCl (lwT cJJ cJ cI cZ) s) (htb : tbl A s s.heap) {t : Nat} (hi : 5 * t + 6 ≤ L) {g : Nat → Nat → Bool} {dr re : Nat → Int64} {tu kd uh bf la : Nat → Int32} {G : Nat → Nat → Int64} (hg : okG N G g) {th : Int32} {rb mb : Nat → Bool} {pt : Nat → Int32} (hm : okM N rb g) {H : Heap} {locs : List Loc} (hPd : va_P D vwCl (dkW N ad cJJ cJ cI dr re tu kd uh bf la G) H) (hPm : va_P D vwCl (mdW N bd cZ cI th rb mb pt) H) (hS : va_S A s.heap H locs) {ls : Array Slot} (hl : lv_has ls 4 [(0, .ref b), (1, .ref (ad 0)), (2, .ref (bd 0)), (3, .int (nI (5 * t + 1)))])
    (kk : ∀ (g : Nat → Nat → Bool) (u : dkS) (v : (Nat → Bool) × (Nat → Bool) × (Nat → Int32)) (H : Heap) (locs : List Loc), okG N (dkR u) g → okM N v.1 g → va_P D vwCl (dkU N ad cJJ cJ cI u) H → va_P D vwCl (mdW N bd cZ cI (nI 0) v.1 v.2.1 v.2.2) H → va_S A s.heap H locs → W p l e room_1 s m #[Value.ref b] below meth c H locs 46 149832 (lw_Z below #[Value.ref b] s) (F0 m 664 ls [])) : W p l e room_1 s m #[Value.ref b] below meth c H locs 46 149832 (lw_Z below #[Value.ref b] s) (F0 m 575 ls []) := by
  obtain ⟨hx, hb, hr, hml, hown0, hts, hX, hbl, hlocks, hgv⟩ := C0
  have hown : s.vm.findClass RL = some m.cls := hown0
  refine lv_aload_n hx hb dL_law_575 rfl (lv_at hl 1 rfl) ?_
  refine lv_aload_n hx hb dL_law_576 rfl (lv_at hl 0 rfl) ?_
  refine lv_iload_n hx hb dL_law_577 rfl (lv_at hl 3 rfl) ?_
  refine lv_iconst (v := nI 1) hx hb dL_law_578 (by decide) ?_
  refine xa_iadd hx hb dL_law_579 ?_
  refine xa_sld hx hb hX hbl hbA hS (by omega) (by omega) dL_law_580 ?_
  refine va_calli (va_runV (As := [.int (xs (5 * t + 1 + 1))]) (rest := []) ⟨hx, hb, hml, hown, hts⟩ (c_least l D _ N hN1 hN ad (aok_true haoD) cJJ cJ cI dr re tu kd uh bf la G g hg (xs (5 * t + 1 + 1))) (cwV 1 hts gL_X1_least rfl rfl rfl (by decide +kernel) ⟨Nat.le_of_ble_eq_true rfl, Nat.le_of_ble_eq_true rfl⟩) ⟨wp0_blind, va_recv hK hPd (ci := 1) (q0 := 0) rfl rfl, fun U hU hW => wp0_of hPd (hK.sub [0, 1, 2] rfl) htb hS no_in hU hW⟩ rfl rfl hl.1 rfl (lv_room (Nat.le_of_ble_eq_true rfl)) dL_law_581 ⟨Nat.le_of_ble_eq_true rfl, Nat.le_of_ble_eq_true rfl⟩) hS (fun q _ h => h.elim) (fun q h => h.elim) (fun r1 u t1 H1 locs ht hvm hw hB hz1 hk1 hS => ?_)
  have e1 := hw
  have hPd := xa_same hPd hk1
  have hPm := xa_same hPm hk1
  generalize H1 = H at hPd hPm hS ⊢
  refine lv_aload_n hx hb dL_law_584 rfl (lv_at hl 2 rfl) ?_
  refine lv_aload_n hx hb dL_law_585 rfl (lv_at hl 0 rfl) ?_
  refine lv_iload_n hx hb dL_law_586 rfl (lv_at hl 3 rfl) ?_
  refine lv_iconst (v := nI 1) hx hb dL_law_587 (by decide) ?_
  refine xa_iadd hx hb dL_law_588 ?_
  refine xa_sld hx hb hX hbl hbA hS (by omega) (by omega) dL_law_589 ?_
  refine va_calli (va_runV (As := [.int (xs (5 * t + 1 + 1))]) (rest := [.int r1]) ⟨hx, hb, hml, hown, hts⟩ (c_mLeast l D _ N hN1 hN bd (aok4_true haoM) cZ cI th rb mb pt g hm (xs (5 * t + 1 + 1))) (cwV 1 hts gL_X2_least rfl rfl rfl (by decide +kernel) ⟨Nat.le_of_ble_eq_true rfl, Nat.le_of_ble_eq_true rfl⟩) ⟨wp0_blind, va_recv hK hPm (ci := 2) (q0 := 0) rfl rfl, fun U hU hW => wp0_of hPm (hK.sub [3, 2] rfl) htb hS (fr4_in haoM hS hA) hU hW⟩ rfl rfl hl.1 rfl (lv_room (Nat.le_of_ble_eq_true rfl)) dL_law_590 ⟨Nat.le_of_ble_eq_true rfl, Nat.le_of_ble_eq_true rfl⟩) hS (fun q _ h => fr4_in haoM hS hA q h) (fun q h => fr4_in haoM hS hA q h) (fun r2 v t2 H2 locs ht2 hvm2 hw2 hB2 hz2 hk2 hS => ?_)
  obtain ⟨e2, hm2⟩ := hw2
  rw [ht2] at hB2
  have hPd := dk_kept hPd hap hk2
  exact lv_icmp_eq (tgt := 664) hx hb dL_law_593 (by decide) (fun _ => kk g (dr, re, tu, kd, uh, bf, la, G) v H2 locs hg hm2 hPd hB2 hS) (fun h => absurd (e1.trans e2.symm) h)
set_option maxHeartbeats 4000000 in
set_option maxRecDepth 100000 in
theorem arm_at {p : Program} {l : Launch} {e : Env} {s : State} {m : MethodId} {below : List Frame} {meth : Method} {c : Code} {b L : Nat} {xs : Nat → Int32} (hL : L ≤ 2561) (C0 : lw_At p s m meth c b L xs) {D : va_G} {A : Nat → Prop} (hA : ∀ q, s.heap.size ≤ q → A q) (hbA : ¬ A b) {N : Nat} (hN1 : 1 ≤ N) (hN : N ≤ 12) {ad bd : Nat → Nat} (haoD : aok A ad) (haoM : aok4 A bd) (hap : ∀ i j, i < 42 → j < 4 → ad i ≠ bd j) {cJJ cJ cI cZ : ClassId} (hK : va_K D vwCl (lwT cJJ cJ cI cZ) s) (htb : tbl A s s.heap) {t : Nat} (hi : 5 * t + 6 ≤ L) {g : Nat → Nat → Bool} {dr re : Nat → Int64} {tu kd uh bf la : Nat → Int32} {G : Nat → Nat → Int64} (hg : okG N G g) {th : Int32} {rb mb : Nat → Bool} {pt : Nat → Int32} (hm : okM N rb g) {H : Heap} {locs : List Loc} (hPd : va_P D vwCl (dkW N ad cJJ cJ cI dr re tu kd uh bf la G) H) (hPm : va_P D vwCl (mdW N bd cZ cI th rb mb pt) H) (hS : va_S A s.heap H locs) {ls : Array Slot} (hl : lv_has ls 4 [(0, .ref b), (1, .ref (ad 0)), (2, .ref (bd 0)), (3, .int (nI (5 * t + 1)))])
    (kk : ∀ (g : Nat → Nat → Bool) (u : dkS) (v : (Nat → Bool) × (Nat → Bool) × (Nat → Int32)) (H : Heap) (locs : List Loc), okG N (dkR u) g → okM N v.1 g → va_P D vwCl (dkU N ad cJJ cJ cI u) H → va_P D vwCl (mdW N bd cZ cI (nI 0) v.1 v.2.1 v.2.2) H → va_S A s.heap H locs → W p l e room_1 s m #[Value.ref b] below meth c H locs 46 149832 (lw_Z below #[Value.ref b] s) (F0 m 664 ls [])) : W p l e room_1 s m #[Value.ref b] below meth c H locs 46 149832 (lw_Z below #[Value.ref b] s) (F0 m 598 ls []) := by
  obtain ⟨hx, hb, hr, hml, hown0, hts, hX, hbl, hlocks, hgv⟩ := C0
  have hown : s.vm.findClass RL = some m.cls := hown0
  refine lv_aload_n hx hb dL_law_598 rfl (lv_at hl 1 rfl) ?_
  refine lv_aload_n hx hb dL_law_599 rfl (lv_at hl 0 rfl) ?_
  refine lv_iload_n hx hb dL_law_600 rfl (lv_at hl 3 rfl) ?_
  refine lv_iconst (v := nI 1) hx hb dL_law_601 (by decide) ?_
  refine xa_iadd hx hb dL_law_602 ?_
  refine xa_sld hx hb hX hbl hbA hS (by omega) (by omega) dL_law_603 ?_
  refine lv_aload_n hx hb dL_law_604 rfl (lv_at hl 0 rfl) ?_
  refine lv_iload_n hx hb dL_law_605 rfl (lv_at hl 3 rfl) ?_
  refine lv_iconst (v := nI 2) hx hb dL_law_606 (by decide) ?_
  refine xa_iadd hx hb dL_law_607 ?_
  refine xa_sld hx hb hX hbl hbA hS (by omega) (by omega) dL_law_608 ?_
  refine va_calli (va_runV (As := [.int (xs (5 * t + 1 + 1)), .int (xs (5 * t + 1 + 2))]) (rest := []) ⟨hx, hb, hml, hown, hts⟩ (c_at l D _ N hN1 hN ad (aok_true haoD) cJJ cJ cI dr re tu kd uh bf la G g hg (xs (5 * t + 1 + 1)) (xs (5 * t + 1 + 2))) (cwV 2 hts gL_X1_at rfl rfl rfl (by decide +kernel) ⟨Nat.le_of_ble_eq_true rfl, Nat.le_of_ble_eq_true rfl⟩) ⟨wp0_blind, va_recv hK hPd (ci := 1) (q0 := 0) rfl rfl, fun U hU hW => wp0_of hPd (hK.sub [0, 1, 2] rfl) htb hS no_in hU hW⟩ rfl rfl hl.1 rfl (lv_room (Nat.le_of_ble_eq_true rfl)) dL_law_609 ⟨Nat.le_of_ble_eq_true rfl, Nat.le_of_ble_eq_true rfl⟩) hS (fun q _ h => h.elim) (fun q h => h.elim) (fun r1 u t1 H1 locs ht hvm hw hB hz1 hk1 hS => ?_)
  have e1 := hw
  have hPd := xa_same hPd hk1
  have hPm := xa_same hPm hk1
  generalize H1 = H at hPd hPm hS ⊢
  refine lv_aload_n hx hb dL_law_612 rfl (lv_at hl 2 rfl) ?_
  refine lv_aload_n hx hb dL_law_613 rfl (lv_at hl 0 rfl) ?_
  refine lv_iload_n hx hb dL_law_614 rfl (lv_at hl 3 rfl) ?_
  refine lv_iconst (v := nI 1) hx hb dL_law_615 (by decide) ?_
  refine xa_iadd hx hb dL_law_616 ?_
  refine xa_sld hx hb hX hbl hbA hS (by omega) (by omega) dL_law_617 ?_
  refine lv_aload_n hx hb dL_law_618 rfl (lv_at hl 0 rfl) ?_
  refine lv_iload_n hx hb dL_law_619 rfl (lv_at hl 3 rfl) ?_
  refine lv_iconst (v := nI 2) hx hb dL_law_620 (by decide) ?_
  refine xa_iadd hx hb dL_law_621 ?_
  refine xa_sld hx hb hX hbl hbA hS (by omega) (by omega) dL_law_622 ?_
  refine va_calli (va_runV (As := [.int (xs (5 * t + 1 + 1)), .int (xs (5 * t + 1 + 2))]) (rest := [.int r1]) ⟨hx, hb, hml, hown, hts⟩ (c_mAt l D _ N hN1 hN bd (aok4_true haoM) cZ cI th rb mb pt g hm (xs (5 * t + 1 + 1)) (xs (5 * t + 1 + 2))) (cwV 2 hts gL_X2_at rfl rfl rfl (by decide +kernel) ⟨Nat.le_of_ble_eq_true rfl, Nat.le_of_ble_eq_true rfl⟩) ⟨wp0_blind, va_recv hK hPm (ci := 2) (q0 := 0) rfl rfl, fun U hU hW => wp0_of hPm (hK.sub [3, 2] rfl) htb hS (fr4_in haoM hS hA) hU hW⟩ rfl rfl hl.1 rfl (lv_room (Nat.le_of_ble_eq_true rfl)) dL_law_623 ⟨Nat.le_of_ble_eq_true rfl, Nat.le_of_ble_eq_true rfl⟩) hS (fun q _ h => fr4_in haoM hS hA q h) (fun q h => fr4_in haoM hS hA q h) (fun r2 v t2 H2 locs ht2 hvm2 hw2 hB2 hz2 hk2 hS => ?_)
  obtain ⟨e2, hm2⟩ := hw2
  rw [ht2] at hB2
  have hPd := dk_kept hPd hap hk2
  exact lv_icmp_eq (tgt := 664) hx hb dL_law_626 (by decide) (fun _ => kk g (dr, re, tu, kd, uh, bf, la, G) v H2 locs hg hm2 hPd hB2 hS) (fun h => absurd (e1.trans e2.symm) h)
set_option maxHeartbeats 4000000 in
set_option maxRecDepth 100000 in
theorem arm_same {p : Program} {l : Launch} {e : Env} {s : State} {m : MethodId} {below : List Frame} {meth : Method} {c : Code} {b L : Nat} {xs : Nat → Int32} (hL : L ≤ 2561) (C0 : lw_At p s m meth c b L xs) {D : va_G} {A : Nat → Prop} (hA : ∀ q, s.heap.size ≤ q → A q) (hbA : ¬ A b) {N : Nat} (hN1 : 1 ≤ N) (hN : N ≤ 12) {ad bd : Nat → Nat} (haoD : aok A ad) (haoM : aok4 A bd) (hap : ∀ i j, i < 42 → j < 4 → ad i ≠ bd j) {cJJ cJ cI cZ : ClassId} (hK : va_K D vwCl (lwT cJJ cJ cI cZ) s) (htb : tbl A s s.heap) {t : Nat} (hi : 5 * t + 6 ≤ L) {g : Nat → Nat → Bool} {dr re : Nat → Int64} {tu kd uh bf la : Nat → Int32} {G : Nat → Nat → Int64} (hg : okG N G g) {th : Int32} {rb mb : Nat → Bool} {pt : Nat → Int32} (hm : okM N rb g) {H : Heap} {locs : List Loc} (hPd : va_P D vwCl (dkW N ad cJJ cJ cI dr re tu kd uh bf la G) H) (hPm : va_P D vwCl (mdW N bd cZ cI th rb mb pt) H) (hS : va_S A s.heap H locs) {ls : Array Slot} (hl : lv_has ls 4 [(0, .ref b), (1, .ref (ad 0)), (2, .ref (bd 0)), (3, .int (nI (5 * t + 1)))])
    (kk : ∀ (g : Nat → Nat → Bool) (u : dkS) (v : (Nat → Bool) × (Nat → Bool) × (Nat → Int32)) (H : Heap) (locs : List Loc), okG N (dkR u) g → okM N v.1 g → va_P D vwCl (dkU N ad cJJ cJ cI u) H → va_P D vwCl (mdW N bd cZ cI (nI 0) v.1 v.2.1 v.2.2) H → va_S A s.heap H locs → W p l e room_1 s m #[Value.ref b] below meth c H locs 46 149832 (lw_Z below #[Value.ref b] s) (F0 m 664 ls [])) : W p l e room_1 s m #[Value.ref b] below meth c H locs 46 149832 (lw_Z below #[Value.ref b] s) (F0 m 631 ls []) := by
  obtain ⟨hx, hb, hr, hml, hown0, hts, hX, hbl, hlocks, hgv⟩ := C0
  have hown : s.vm.findClass RL = some m.cls := hown0
  refine lv_aload_n hx hb dL_law_631 rfl (lv_at hl 1 rfl) ?_
  refine lv_aload_n hx hb dL_law_632 rfl (lv_at hl 0 rfl) ?_
  refine lv_iload_n hx hb dL_law_633 rfl (lv_at hl 3 rfl) ?_
  refine lv_iconst (v := nI 1) hx hb dL_law_634 (by decide) ?_
  refine xa_iadd hx hb dL_law_635 ?_
  refine xa_sld hx hb hX hbl hbA hS (by omega) (by omega) dL_law_636 ?_
  refine lv_aload_n hx hb dL_law_637 rfl (lv_at hl 0 rfl) ?_
  refine lv_iload_n hx hb dL_law_638 rfl (lv_at hl 3 rfl) ?_
  refine lv_iconst (v := nI 2) hx hb dL_law_639 (by decide) ?_
  refine xa_iadd hx hb dL_law_640 ?_
  refine xa_sld hx hb hX hbl hbA hS (by omega) (by omega) dL_law_641 ?_
  refine va_calli (va_runV (As := [.int (xs (5 * t + 1 + 1)), .int (xs (5 * t + 1 + 2))]) (rest := []) ⟨hx, hb, hml, hown, hts⟩ (c_same l D _ N hN1 hN ad (aok_true haoD) cJJ cJ cI dr re tu kd uh bf la G g hg (xs (5 * t + 1 + 1)) (xs (5 * t + 1 + 2))) (cwV 2 hts gL_X1_same rfl rfl rfl (by decide +kernel) ⟨Nat.le_of_ble_eq_true rfl, Nat.le_of_ble_eq_true rfl⟩) ⟨wp0_blind, va_recv hK hPd (ci := 1) (q0 := 0) rfl rfl, fun U hU hW => wp0_of hPd (hK.sub [0, 1, 2] rfl) htb hS no_in hU hW⟩ rfl rfl hl.1 rfl (lv_room (Nat.le_of_ble_eq_true rfl)) dL_law_642 ⟨Nat.le_of_ble_eq_true rfl, Nat.le_of_ble_eq_true rfl⟩) hS (fun q _ h => h.elim) (fun q h => h.elim) (fun r1 u t1 H1 locs ht hvm hw hB hz1 hk1 hS => ?_)
  have e1 := hw
  have hPd := xa_same hPd hk1
  have hPm := xa_same hPm hk1
  generalize H1 = H at hPd hPm hS ⊢
  refine lv_aload_n hx hb dL_law_645 rfl (lv_at hl 2 rfl) ?_
  refine lv_aload_n hx hb dL_law_646 rfl (lv_at hl 0 rfl) ?_
  refine lv_iload_n hx hb dL_law_647 rfl (lv_at hl 3 rfl) ?_
  refine lv_iconst (v := nI 1) hx hb dL_law_648 (by decide) ?_
  refine xa_iadd hx hb dL_law_649 ?_
  refine xa_sld hx hb hX hbl hbA hS (by omega) (by omega) dL_law_650 ?_
  refine lv_aload_n hx hb dL_law_651 rfl (lv_at hl 0 rfl) ?_
  refine lv_iload_n hx hb dL_law_652 rfl (lv_at hl 3 rfl) ?_
  refine lv_iconst (v := nI 2) hx hb dL_law_653 (by decide) ?_
  refine xa_iadd hx hb dL_law_654 ?_
  refine xa_sld hx hb hX hbl hbA hS (by omega) (by omega) dL_law_655 ?_
  refine va_calli (va_runV (As := [.int (xs (5 * t + 1 + 1)), .int (xs (5 * t + 1 + 2))]) (rest := [.int r1]) ⟨hx, hb, hml, hown, hts⟩ (c_mSame l D _ N hN1 hN bd (aok4_true haoM) cZ cI th rb mb pt g hm (xs (5 * t + 1 + 1)) (xs (5 * t + 1 + 2))) (cwV 2 hts gL_X2_same rfl rfl rfl (by decide +kernel) ⟨Nat.le_of_ble_eq_true rfl, Nat.le_of_ble_eq_true rfl⟩) ⟨wp0_blind, va_recv hK hPm (ci := 2) (q0 := 0) rfl rfl, fun U hU hW => wp0_of hPm (hK.sub [3, 2] rfl) htb hS (fr4_in haoM hS hA) hU hW⟩ rfl rfl hl.1 rfl (lv_room (Nat.le_of_ble_eq_true rfl)) dL_law_656 ⟨Nat.le_of_ble_eq_true rfl, Nat.le_of_ble_eq_true rfl⟩) hS (fun q _ h => fr4_in haoM hS hA q h) (fun q h => fr4_in haoM hS hA q h) (fun r2 v t2 H2 locs ht2 hvm2 hw2 hB2 hz2 hk2 hS => ?_)
  obtain ⟨e2, hm2⟩ := hw2
  rw [ht2] at hB2
  have hPd := dk_kept hPd hap hk2
  exact lv_icmp_eq (tgt := 664) hx hb dL_law_659 (by decide) (fun _ => kk g (dr, re, tu, kd, uh, bf, la, G) v H2 locs hg hm2 hPd hB2 hS) (fun h => absurd (e1.trans e2.symm) h)
