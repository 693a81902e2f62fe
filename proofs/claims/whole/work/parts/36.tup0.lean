set_option maxHeartbeats 4000000 in
set_option maxRecDepth 100000 in
/-- readTuples -/
theorem c_readTuples (l : Launch) (D : va_G) (sz : Nat) (N : Nat) (hN1 : 1 ≤ N) (hN : N ≤ 12) (ad : Nat → Nat) (hao : aok (fun _ => True) ad) (cJJ cJ cI : ClassId) (dr re : Nat → Int64) (tu kd uh bf la : Nat → Int32) (G : Nat → Nat → Int64) (x0 cn w : Nat) (h0 : x0 + cn ≤ 32) (hcn : cn ≤ 12) (hw0 : w < nw N) : Met l yX1_readTuples wsX1_readTuples ({ frames := 1, cells := 0, slots := 0, locals := 23 } : Room) (va_Pc [.ref (ad 0), .int (nI x0), .int (nI cn), .int (nI w)] (wp0 D (dkW N ad cJJ cJ cI dr re tu kd uh bf la G) (dkT cJJ cJ cI) (fr ad sz) sz)) (va_Qv (fun (u : Nat → Int32) => ∀ i, i < pw N → u i = nI (tp (fun k i => lb (G k w) i) x0 i cn)) (fun (u : Nat → Int32) t => va_P D vwCl (dkW N ad cJJ cJ cI dr re u kd uh bf la G) t.heap) (fr ad sz)) 0 0 (fr ad sz) := by
  refine Met.ofW (cc := cX1_readTuples) (maxL := 8) (ret := none) (by decide) rfl ?_
  intro p e s m args below meth c s₁ B hml hv
  obtain ⟨rfl, hsz, hP, hK, htb⟩ := hv
  have hx := B.exec
  have hb := B.bytes
  have hr := B.returns
  have hts := atoms_spec (ws := wsX1_readTuples) B.pre
  have hown : s.vm.findClass RX1 = some m.cls := findClass_of_methodNamed B.named
  have hlocks := B.notSynchronized
  subst hsz
  generalize hAe : fr ad s.heap.size = A at htb ⊢
  have hA : ∀ q : Nat, s.heap.size ≤ q → A q := fun q h => by rw [← hAe]; exact fr_new q h
  have hao : aok A ad := by rw [← hAe]; exact aok_fr hao
  obtain ⟨⟨tt, hZ, hT⟩, hNst⟩ := id htb
  have hS : va_S A s.heap s.heap [] := va_S.rf
  have hl := lv_entry ([.ref (ad 0), .int (nI x0), .int (nI cn), .int (nI w)]) (n := 8) (Nat.le_of_ble_eq_true rfl)
  rw [lg_entry_eq]
  generalize (lg_sl ([.ref (ad 0), .int (nI x0), .int (nI cn), .int (nI w)]) ++ List.replicate (8 - (lg_sl ([.ref (ad 0), .int (nI x0), .int (nI cn), .int (nI w)])).length) Slot.unset).toArray = ls at hl ⊢
  have hl : lv_has ls 8 [(0, .ref (ad 0)), (1, .int (nI x0)), (2, .int (nI cn)), (3, .int (nI w))] := hl
  have hnw := nw_le hN
  have hnwp := nw_pos N
  have hpw := pw_le N
  have hpwp := pw_pos N
  have hnp := np_le hN
  refine lv_aload_n hx hb dX1_readTuples_0 rfl (lv_at hl 0 rfl) ?_
  refine va_get (D := D) (ci := 1) (C := RX1) (T := TX1) (N := 10) hx hb hts (by decide +kernel) hown hK hP 0 rfl rfl 8 (by decide) (hts (.fieldLink RX1 49 "ForkDesk" "tuples" "[I") (by decide +kernel)) (fun _ h9 => h9) rfl dX1_readTuples_1 ?_
  refine lv_iconst (v := nI 0) hx hb dX1_readTuples_4 (by decide) ?_
  refine va_callv (va_runS (As := [.ref (ad 4), .int (nI 0)]) (rest := []) ⟨hx, hb, hml, hown, hts⟩ (c_fillI l D _ (ad 4) cI (pw N) tu (nI 0) (by omega)) (va_cwS 2 hts gX1_readTuples_J7_fill_53178 rfl rfl rfl (by decide +kernel) ⟨Nat.le_of_ble_eq_true rfl, Nat.le_of_ble_eq_true rfl⟩) ⟨wp0_blind, fun U hU hW => wp0_of (va_one hP 4 rfl) (hK.sub [2] rfl) htb hS (one_in (hao.2 4 (by omega))) hU hW⟩ rfl rfl hl.1 rfl (lv_room (Nat.le_of_ble_eq_true rfl)) dX1_readTuples_5 ⟨Nat.zero_le _, Nat.zero_le _⟩) hS (fun q _ h => (one_in (hao.2 4 (by omega))) q h) ((one_in (hao.2 4 (by omega)))) (fun u_5 t H1 locs ht hvm hw hB hz1 hk1 hS => ?_)
  rw [ht] at hB
  have hP := va_put1 hP (dk_D hao) 4 rfl hk1 hB
  clear hz1 hk1 hB ht
  generalize H1 = H at hP hS ⊢
  have hP : va_P D vwCl (dkW N ad cJJ cJ cI dr re u_5 kd uh bf la G) H := hP
  refine lv_iload_n hx hb dX1_readTuples_8 rfl (lv_at hl 1 rfl) ?_
  refine lv_istore (lv' := [(4, .int (nI x0)), (0, .ref (ad 0)), (1, .int (nI x0)), (2, .int (nI cn)), (3, .int (nI w))]) hx hb dX1_readTuples_9 hl (by decide) rfl (fun ls hl => ?_)
  have lp_11 : ∀ (n9 k1 : Nat) (t2 : Nat → Int32) (H : Heap) (locs : List Loc) (ls : Array Slot), k1 ≤ x0 + cn → x0 + cn + 1 ≤ k1 + n9 → x0 ≤ k1 → (∀ i, i < pw N → t2 i = nI (tp (fun k i => lb (G k w) i) x0 i (k1 - x0))) → va_P D vwCl (dkW N ad cJJ cJ cI dr re t2 kd uh bf la G) H → va_S A s.heap H locs → lv_has ls 8 [(0, .ref (ad 0)), (1, .int (nI x0)), (2, .int (nI cn)), (3, .int (nI w)), (4, .int (nI k1))] → W p l e (headSpec wsX1_readTuples ({ frames := 1, cells := 0, slots := 0, locals := 23 } : Room)).room s m ([.ref (ad 0), .int (nI x0), .int (nI cn), .int (nI w)] : List Value).toArray below meth c H locs 0 0 (MQ below (va_Qv (fun (u : Nat → Int32) => ∀ i, i < pw N → u i = nI (tp (fun k i => lb (G k w) i) x0 i cn)) (fun (u : Nat → Int32) t => va_P D vwCl (dkW N ad cJJ cJ cI dr re u kd uh bf la G) t.heap) A) ([.ref (ad 0), .int (nI x0), .int (nI cn), .int (nI w)] : List Value).toArray s 0 0 A) (F0 m 11 ls []) := by
    intro n9
    induction n9 with
    | zero => intro k1 t2 H locs ls h1 h2; exact absurd h2 (by omega)
    | succ n9 ih =>
      intro k1 t2 H locs ls hle_11 hmm_11 hk0 hI hP hS hl
      have ih_11 := @ih
      refine lv_iload hx hb dX1_readTuples_11 (lv_at hl 4 rfl) ?_
      refine lv_iload_n hx hb dX1_readTuples_13 rfl (lv_at hl 1 rfl) ?_
      refine lv_iload_n hx hb dX1_readTuples_14 rfl (lv_at hl 2 rfl) ?_
      refine xa_iadd hx hb dX1_readTuples_15 ?_
      refine xa_ge (tgt := 79) hx hb (by omega) (by omega) dX1_readTuples_16 (by decide) (fun c_16 => ?_) (fun c_16 => ?_)
      · exact W.vret hx hb hr (fun t ht hW => ⟨⟨t2, rfl, (fun i hi => by rw [hI i hi, show k1 - x0 = cn by omega]), (by show va_P _ _ _ _; rw [ht]; exact hP)⟩, hS.F ht⟩) hS.2.2 dX1_readTuples_79
      · refine lv_aload_n hx hb dX1_readTuples_19 rfl (lv_at hl 0 rfl) ?_
        refine va_get (D := D) (ci := 1) (C := RX1) (T := TX1) (N := 10) hx hb hts (by decide +kernel) hown hK hP 0 rfl rfl 5 (by decide) (hts (.fieldLink RX1 39 "ForkDesk" "registers" "[[J") (by decide +kernel)) (fun _ h9 => h9) rfl dX1_readTuples_20 ?_
        refine lv_iload hx hb dX1_readTuples_23 (lv_at hl 4 rfl) ?_
        refine xa_aald hx hb hK hP 1 0 rfl rfl (w := k1) (y := ad (10 + k1)) (by omega) (by decide) rfl dX1_readTuples_25 ?_
        refine lv_iload_n hx hb dX1_readTuples_26 rfl (lv_at hl 3 rfl) ?_
        refine xa_lald hx hb hK hP (10 + k1) 1 (dk_row (by omega)) rfl (w := w) (by omega) (by omega) dX1_readTuples_27 ?_
        refine lv_lstore (lv' := [(5, .long (G k1 w)), (0, .ref (ad 0)), (1, .int (nI x0)), (2, .int (nI cn)), (3, .int (nI w)), (4, .int (nI k1))]) hx hb dX1_readTuples_28 hl (by decide) rfl (fun ls hl => ?_)
        refine lv_iconst (v := nI 0) hx hb dX1_readTuples_30 (by decide) ?_
        refine lv_istore (lv' := [(7, .int (nI 0)), (5, .long (G k1 w)), (0, .ref (ad 0)), (1, .int (nI x0)), (2, .int (nI cn)), (3, .int (nI w)), (4, .int (nI k1))]) hx hb dX1_readTuples_31 hl (by decide) rfl (fun ls hl => ?_)
        have lp_33 : ∀ (n9 i1 : Nat) (t3 : Nat → Int32) (H : Heap) (locs : List Loc) (ls : Array Slot), i1 ≤ pw N → pw N + 1 ≤ i1 + n9 → (∀ i, i < i1 → t3 i = nI (tp (fun k i => lb (G k w) i) x0 i (k1 - x0 + 1))) → (∀ i, i1 ≤ i → i < pw N → t3 i = t2 i) → va_P D vwCl (dkW N ad cJJ cJ cI dr re t3 kd uh bf la G) H → va_S A s.heap H locs → lv_has ls 8 [(0, .ref (ad 0)), (1, .int (nI x0)), (2, .int (nI cn)), (3, .int (nI w)), (4, .int (nI k1)), (5, .long (G k1 w)), (7, .int (nI i1))] → W p l e (headSpec wsX1_readTuples ({ frames := 1, cells := 0, slots := 0, locals := 23 } : Room)).room s m ([.ref (ad 0), .int (nI x0), .int (nI cn), .int (nI w)] : List Value).toArray below meth c H locs 0 0 (MQ below (va_Qv (fun (u : Nat → Int32) => ∀ i, i < pw N → u i = nI (tp (fun k i => lb (G k w) i) x0 i cn)) (fun (u : Nat → Int32) t => va_P D vwCl (dkW N ad cJJ cJ cI dr re u kd uh bf la G) t.heap) A) ([.ref (ad 0), .int (nI x0), .int (nI cn), .int (nI w)] : List Value).toArray s 0 0 A) (F0 m 33 ls []) := by
          intro n9
          induction n9 with
          | zero => intro i1 t3 H locs ls h1 h2; exact absurd h2 (by omega)
          | succ n9 ih =>
            intro i1 t3 H locs ls hle_33 hmm_33 hJ hL hP hS hl
            have ih_33 := @ih
            refine lv_iload hx hb dX1_readTuples_33 (lv_at hl 6 rfl) ?_
            refine lv_aload_n hx hb dX1_readTuples_35 rfl (lv_at hl 0 rfl) ?_
            refine va_get (D := D) (ci := 1) (C := RX1) (T := TX1) (N := 10) hx hb hts (by decide +kernel) hown hK hP 0 rfl rfl 3 (by decide) (hts (.fieldLink RX1 28 "ForkDesk" "pointsInWord" "I") (by decide +kernel)) (fun _ h9 => h9) rfl dX1_readTuples_36 ?_
            refine xa_ge (tgt := 73) hx hb (by omega) (by omega) dX1_readTuples_39 (by decide) (fun c_39 => ?_) (fun c_39 => ?_)
            · refine xa_inc (k := 4) (lv' := [(4, .int (nI (k1 + 1))), (0, .ref (ad 0)), (1, .int (nI x0)), (2, .int (nI cn)), (3, .int (nI w)), (5, .long (G k1 w)), (7, .int (nI i1))]) hx hb dX1_readTuples_73 hl rfl (by decide) rfl (fun ls hl => ?_)
              refine lv_goto (tgt := 11) hx hb dX1_readTuples_76 (by decide) ?_
              exact ih_11 (k1 + 1) t3 _ _ _ (by omega) (by omega) (by omega) (fun i hi => by rw [show k1 + 1 - x0 = k1 - x0 + 1 by omega]; exact hJ i (by omega)) hP hS (lv_sub hl [1, 2, 3, 4, 0] rfl)
            · refine lv_aload_n hx hb dX1_readTuples_42 rfl (lv_at hl 0 rfl) ?_
              refine va_get (D := D) (ci := 1) (C := RX1) (T := TX1) (N := 10) hx hb hts (by decide +kernel) hown hK hP 0 rfl rfl 8 (by decide) (hts (.fieldLink RX1 49 "ForkDesk" "tuples" "[I") (by decide +kernel)) (fun _ h9 => h9) rfl dX1_readTuples_43 ?_
              refine lv_iload hx hb dX1_readTuples_46 (lv_at hl 6 rfl) ?_
              refine lv_aload_n hx hb dX1_readTuples_48 rfl (lv_at hl 0 rfl) ?_
              refine va_get (D := D) (ci := 1) (C := RX1) (T := TX1) (N := 10) hx hb hts (by decide +kernel) hown hK hP 0 rfl rfl 8 (by decide) (hts (.fieldLink RX1 49 "ForkDesk" "tuples" "[I") (by decide +kernel)) (fun _ h9 => h9) rfl dX1_readTuples_49 ?_
              refine lv_iload hx hb dX1_readTuples_52 (lv_at hl 6 rfl) ?_
              refine xa_iald hx hb hK hP 4 2 rfl rfl (w := i1) (by omega) (by omega) dX1_readTuples_54 ?_
              refine lv_iconst (v := nI 1) hx hb dX1_readTuples_55 (by decide) ?_
              refine lv_ishl hx hb dX1_readTuples_56 ?_
              refine lv_lload hx hb dX1_readTuples_57 (lv_at hl 5 rfl) ?_
              refine lv_iload hx hb dX1_readTuples_59 (lv_at hl 6 rfl) ?_
              refine lv_lushr (v := ((G k1 w).toUInt64 >>> ((nI i1).toInt64.toUInt64 &&& Int64.toUInt64 63)).toInt64) hx hb dX1_readTuples_61 rfl ?_
              refine lv_l2i (v := (((G k1 w).toUInt64 >>> ((nI i1).toInt64.toUInt64 &&& Int64.toUInt64 63)).toInt64).toInt32) hx hb dX1_readTuples_62 rfl ?_
              refine lv_iconst (v := nI 1) hx hb dX1_readTuples_63 (by decide) ?_
              refine lv_iand hx hb dX1_readTuples_64 ?_
              refine lv_ior hx hb dX1_readTuples_65 ?_
              refine xa_iast hx hb hK hP (dk_D hao) hS 4 2 rfl rfl (w := i1) (by omega) (by omega) dX1_readTuples_66 (fun H locs hP _ hS => ?_)
              have hP : va_P D vwCl (dkW N ad cJJ cJ cI dr re (upd t3 i1 (((t3 i1) <<< ((nI 1) &&& 31)) ||| (((((G k1 w).toUInt64 >>> ((nI i1).toInt64.toUInt64 &&& Int64.toUInt64 63)).toInt64).toInt32) &&& (nI 1)))) kd uh bf la G) H := hP
              refine xa_inc (k := 6) (lv' := [(7, .int (nI (i1 + 1))), (0, .ref (ad 0)), (1, .int (nI x0)), (2, .int (nI cn)), (3, .int (nI w)), (4, .int (nI k1)), (5, .long (G k1 w))]) hx hb dX1_readTuples_67 hl rfl (by decide) rfl (fun ls hl => ?_)
              refine lv_goto (tgt := 33) hx hb dX1_readTuples_70 (by decide) ?_
              exact ih_33 (i1 + 1) (upd t3 i1 (((t3 i1) <<< ((nI 1) &&& 31)) ||| (((((G k1 w).toUInt64 >>> ((nI i1).toInt64.toUInt64 &&& Int64.toUInt64 63)).toInt64).toInt32) &&& (nI 1)))) _ _ _ (by omega) (by omega) (fun i hi => by by_cases hii : i = i1; (subst hii; rw [pk_us, hL i (Nat.le_refl i) (by omega), hI i (by omega), lb_low, lb_shr i (by omega), Nat.add_zero, tp_w (tp_30 _ _ _ (by omega))]; show nI (2 * _ + (lb (G k1 w) i).toNat) = nI (2 * _ + (lb (G (x0 + (k1 - x0)) w) i).toNat); rw [show x0 + (k1 - x0) = k1 by omega]); (rw [pk_un hii]; exact hJ i (by omega))) (fun i h1 h2 => by rw [pk_un (by omega)]; exact hL i (by omega) h2) hP hS (lv_sub hl [1, 2, 3, 4, 5, 6, 0] rfl)
        exact lp_33 (pw N + 1 - 0) 0 t2 _ _ _ (by omega) (by omega) (fun i hi => absurd hi (by omega)) (fun i _ _ => rfl) hP hS (lv_sub hl [2, 3, 4, 5, 6, 1, 0] rfl)
  exact lp_11 (x0 + cn + 1 - x0) x0 u_5 _ _ _ (by omega) (by omega) (Nat.le_refl x0) (fun i hi => by rw [Nat.sub_self]; exact hw i hi) hP hS (lv_sub hl [1, 2, 3, 4, 0] rfl)
