set_option maxHeartbeats 4000000 in
set_option maxRecDepth 100000 in
/-- THE LAW'S LOOP: at its head, t calls done, both sides hold the same functions -/
theorem law_loop {p : Program} {l : Launch} {e : Env} {s : State} {m : MethodId} {below : List Frame} {meth : Method} {c : Code} {b L : Nat} {xs : Nat → Int32} (hL : L ≤ 2561) (C0 : lw_At p s m meth c b L xs) {D : va_G} {A : Nat → Prop} (hA : ∀ q, s.heap.size ≤ q → A q) (hbA : ¬ A b) {N : Nat} (hN1 : 1 ≤ N) (hN : N ≤ 12) {ad bd : Nat → Nat} (haoD : aok A ad) (haoM : aok4 A bd) (hap : ∀ i j, i < 42 → j < 4 → ad i ≠ bd j) {cJJ cJ cI cZ : ClassId} (hK : va_K D vwCl (lwT cJJ cJ cI cZ) s) (htb : tbl A s s.heap) (hA2 : ∀ q, A q → s.heap.size ≤ q) :
    ∀ (n t : Nat), 5 * t ≤ L → L < t + n → ∀ (g : Nat → Nat → Bool) (u : dkS) (th : Int32) (v : (Nat → Bool) × (Nat → Bool) × (Nat → Int32)) (H : Heap) (locs : List Loc), okG N (dkR u) g → okM N v.1 g → va_P D vwCl (dkU N ad cJJ cJ cI u) H → va_P D vwCl (mdW N bd cZ cI th v.1 v.2.1 v.2.2) H → va_S A s.heap H locs → ∀ (ls : Array Slot), lv_has ls 4 [(0, .ref b), (1, .ref (ad 0)), (2, .ref (bd 0)), (3, .int (nI (5 * t + 1)))] → W p l e room_1 s m #[Value.ref b] below meth c H locs 46 149832 (lw_Z below #[Value.ref b] s) (F0 m 28 ls []) := by
  obtain ⟨hx, hb, hr, hml, hown0, hts, hX, hbl, hlocks, hgv⟩ := id C0
  intro n
  induction n with
  | zero =>
    intro t h1 h2
    exact absurd h2 (by omega)
  | succ n ih =>
    intro t h1 h2 g u th v H locs hg hm hPd hPm hS ls hl
    refine lv_iload_n hx hb dL_law_28 rfl (lv_at hl 3 rfl) ?_
    refine lv_aload_n hx hb dL_law_29 rfl (lv_at hl 0 rfl) ?_
    refine xa_slen hx hb hX hbl hbA hS dL_law_30 ?_
    refine lv_iconst (v := nI 5) hx hb dL_law_31 (by decide) ?_
    refine lv_isub hx hb dL_law_32 ?_
    refine lv_icmp_gt (tgt := 670) hx hb dL_law_33 (by decide) (fun _ => ?_) (fun h33 => ?_)
    · refine lv_iconst (v := 1) hx hb dL_law_670 (by decide) ?_
      refine va_forget (fun q hq => hA2 _ (hS.2.2 q hq)) ?_
      refine W.widen (k := 600000) (n := 7302250) (Nat.le_of_ble_eq_true rfl) (Nat.le_of_ble_eq_true rfl) ?_
      exact lw_ret hx hb hr hlocks dL_law_671
    · have hi : 5 * t + 6 ≤ L := by
        rw [Int32.lt_iff_toInt_lt, pk_sub_toInt (by omega) (by omega), nI_toInt (by omega)] at h33
        omega
      have k664 : ∀ (g : Nat → Nat → Bool) (u : dkS) (th : Int32) (v : (Nat → Bool) × (Nat → Bool) × (Nat → Int32)) (H : Heap) (locs : List Loc), okG N (dkR u) g → okM N v.1 g → va_P D vwCl (dkU N ad cJJ cJ cI u) H → va_P D vwCl (mdW N bd cZ cI th v.1 v.2.1 v.2.2) H → va_S A s.heap H locs → W p l e room_1 s m #[Value.ref b] below meth c H locs 46 149832 (lw_Z below #[Value.ref b] s) (F0 m 664 ls []) := by
        intro g u th v H locs hg hm hPd hPm hS
        refine lv_iinc (v := nI (5 * (t + 1) + 1)) (lv' := [(3, .int (nI (5 * (t + 1) + 1))), (0, .ref b), (1, .ref (ad 0)), (2, .ref (bd 0))]) hx hb dL_law_664 hl (k := 3) rfl (by show nI (5 * t + 1) + nI 5 = nI (5 * (t + 1) + 1); rw [nI_add, show 5 * t + 1 + 5 = 5 * (t + 1) + 1 by omega]) (by decide) rfl (fun ls hl => ?_)
        refine lv_goto (tgt := 28) hx hb dL_law_667 (by decide) ?_
        exact ih (t + 1) (by omega) (by omega) g u th v H locs hg hm hPd hPm hS ls (lv_sub hl [1, 2, 3, 0] rfl)
      refine lv_aload_n hx hb dL_law_36 rfl (lv_at hl 0 rfl) ?_
      refine lv_iload_n hx hb dL_law_37 rfl (lv_at hl 3 rfl) ?_
      refine xa_sld hx hb hX hbl hbA hS (by omega) (by omega) dL_law_38 ?_
      refine lv_bipush (v := nI 15) hx hb dL_law_39 (by decide) ?_
      refine lv_iand hx hb dL_law_41 ?_
      obtain ⟨j, hj, ej⟩ := pk_andE (xs (5 * t + 1)) (m := nI 15) 4 (by decide)
      rw [ej]
      have hj : j < 16 := hj
      rcases (show j = 0 ∨ j = 1 ∨ j = 2 ∨ j = 3 ∨ j = 4 ∨ j = 5 ∨ j = 6 ∨ j = 7 ∨ j = 8 ∨ j = 9 ∨ j = 10 ∨ j = 11 ∨ j = 12 ∨ j = 13 ∨ j = 14 ∨ j = 15 by omega) with rfl | rfl | rfl | rfl | rfl | rfl | rfl | rfl | rfl | rfl | rfl | rfl | rfl | rfl | rfl | rfl
      · exact lv_tableIn (off := 70) (tgt := 112) hx hb dL_law_42 (by decide) (by decide) (by decide) (by decide) (arm_constant hL C0 hA hbA hN1 hN haoD haoM hap hK htb hi hg hm hPd hPm hS hl (fun g u v H locs => k664 g u (nI 0) v H locs))
      · exact lv_tableIn (off := 103) (tgt := 145) hx hb dL_law_42 (by decide) (by decide) (by decide) (by decide) (arm_variable hL C0 hA hbA hN1 hN haoD haoM hap hK htb hi hg hm hPd hPm hS hl (fun g u v H locs => k664 g u (nI 0) v H locs))
      · exact lv_tableIn (off := 136) (tgt := 178) hx hb dL_law_42 (by decide) (by decide) (by decide) (by decide) (arm_combine hL C0 hA hbA hN1 hN haoD haoM hap hK htb hi hg hm hPd hPm hS hl (fun g u v H locs => k664 g u (nI 0) v H locs))
      · exact lv_tableIn (off := 189) (tgt := 231) hx hb dL_law_42 (by decide) (by decide) (by decide) (by decide) (arm_choose hL C0 hA hbA hN1 hN haoD haoM hap hK htb hi hg hm hPd hPm hS hl (fun g u v H locs => k664 g u (nI 0) v H locs))
      · exact lv_tableIn (off := 242) (tgt := 284) hx hb dL_law_42 (by decide) (by decide) (by decide) (by decide) (arm_fix hL C0 hA hbA hN1 hN haoD haoM hap hK htb hi hg hm hPd hPm hS hl (fun g u v H locs => k664 g u (nI 0) v H locs))
      · exact lv_tableIn (off := 295) (tgt := 337) hx hb dL_law_42 (by decide) (by decide) (by decide) (by decide) (arm_exists hL C0 hA hbA hN1 hN haoD haoM hap hK htb hi hg hm hPd hPm hS hl (fun g u v H locs => k664 g u (nI 0) v H locs))
      · exact lv_tableIn (off := 348) (tgt := 390) hx hb dL_law_42 (by decide) (by decide) (by decide) (by decide) (arm_substitute hL C0 hA hbA hN1 hN haoD haoM hap hK htb hi hg hm hPd hPm hS hl (fun g u v H locs => k664 g u (nI 0) v H locs))
      · exact lv_tableIn (off := 391) (tgt := 433) hx hb dL_law_42 (by decide) (by decide) (by decide) (by decide) (arm_nearest hL C0 hA hbA hN1 hN haoD haoM hap hK htb hi hg hm hPd hPm hS hl (fun g u v H locs => k664 g u (nI 0) v H locs))
      · exact lv_tableIn (off := 434) (tgt := 476) hx hb dL_law_42 (by decide) (by decide) (by decide) (by decide) (arm_image hL C0 hA hbA hN1 hN haoD haoM hap hK htb hi hg hm hPd hPm hS hl (fun g u v H locs => k664 g u (nI 0) v H locs))
      · exact lv_tableIn (off := 487) (tgt := 529) hx hb dL_law_42 (by decide) (by decide) (by decide) (by decide) (arm_forks hL C0 hA hbA hN1 hN haoD haoM hap hK htb hi hg hm hPd hPm hS hl (fun g u v H locs => k664 g u (nI 0) v H locs))
      · exact lv_tableIn (off := 510) (tgt := 552) hx hb dL_law_42 (by decide) (by decide) (by decide) (by decide) (arm_ones hL C0 hA hbA hN1 hN haoD haoM hap hK htb hi hg hm hPd hPm hS hl (fun g u v H locs => k664 g u (nI 0) v H locs))
      · exact lv_tableIn (off := 533) (tgt := 575) hx hb dL_law_42 (by decide) (by decide) (by decide) (by decide) (arm_least hL C0 hA hbA hN1 hN haoD haoM hap hK htb hi hg hm hPd hPm hS hl (fun g u v H locs => k664 g u (nI 0) v H locs))
      · exact lv_tableIn (off := 556) (tgt := 598) hx hb dL_law_42 (by decide) (by decide) (by decide) (by decide) (arm_at hL C0 hA hbA hN1 hN haoD haoM hap hK htb hi hg hm hPd hPm hS hl (fun g u v H locs => k664 g u (nI 0) v H locs))
      · exact lv_tableIn (off := 589) (tgt := 631) hx hb dL_law_42 (by decide) (by decide) (by decide) (by decide) (arm_same hL C0 hA hbA hN1 hN haoD haoM hap hK htb hi hg hm hPd hPm hS hl (fun g u v H locs => k664 g u (nI 0) v H locs))
      · exact lv_tableOut (tgt := 664) hx hb dL_law_42 (Or.inr (by decide)) (by decide) (k664 g u th v H locs hg hm hPd hPm hS)
      · exact lv_tableOut (tgt := 664) hx hb dL_law_42 (Or.inr (by decide)) (by decide) (k664 g u th v H locs hg hm hPd hPm hS)
