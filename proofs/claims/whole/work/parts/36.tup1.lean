set_option maxHeartbeats 4000000 in
set_option maxRecDepth 100000 in
/-- markTuples -/
theorem c_markTuples (l : Launch) (D : va_G) (sz : Nat) (N : Nat) (hN1 : 1 ≤ N) (hN : N ≤ 12) (ad : Nat → Nat) (hao : aok (fun _ => True) ad) (cJJ cJ cI : ClassId) (dr re : Nat → Int64) (tu kd uh bf la : Nat → Int32) (G : Nat → Nat → Int64) (wd : Int64) (fb : Nat) (tn : Nat → Nat) (htn : ∀ i, i < pw N → tu i = nI (tn i)) (hlt : ∀ i, i < pw N → tn i * 2 ^ fb < 2 ^ N) (hfb : fb < 12) : Met l yX1_markTuples wsX1_markTuples ({ frames := 0, cells := 0, slots := 0, locals := 0 } : Room) (va_Pc [.ref (ad 0), .long wd, .int (nI fb)] (wp0 D (dkW N ad cJJ cJ cI dr re tu kd uh bf la G) (dkT cJJ cJ cI) (fr ad sz) sz)) (va_Qv (fun (u : Nat → Int64) => u = mks wd tn fb dr (pw N)) (fun (u : Nat → Int64) t => va_P D vwCl (dkW N ad cJJ cJ cI u re tu kd uh bf la G) t.heap) (fr ad sz)) 0 0 (fr ad sz) := by
  refine Met.ofW (cc := cX1_markTuples) (maxL := 6) (ret := none) (by decide) rfl ?_
  intro p e s m args below meth c s₁ B hml hv
  obtain ⟨rfl, hsz, hP, hK, htb⟩ := hv
  have hx := B.exec
  have hb := B.bytes
  have hr := B.returns
  have hts := atoms_spec (ws := wsX1_markTuples) B.pre
  have hown : s.vm.findClass RX1 = some m.cls := findClass_of_methodNamed B.named
  have hlocks := B.notSynchronized
  subst hsz
  generalize hAe : fr ad s.heap.size = A at htb ⊢
  have hA : ∀ q : Nat, s.heap.size ≤ q → A q := fun q h => by rw [← hAe]; exact fr_new q h
  have hao : aok A ad := by rw [← hAe]; exact aok_fr hao
  obtain ⟨⟨tt, hZ, hT⟩, hNst⟩ := id htb
  have hS : va_S A s.heap s.heap [] := va_S.rf
  have hl := lv_entry ([.ref (ad 0), .long wd, .int (nI fb)]) (n := 6) (Nat.le_of_ble_eq_true rfl)
  rw [lg_entry_eq]
  generalize (lg_sl ([.ref (ad 0), .long wd, .int (nI fb)]) ++ List.replicate (6 - (lg_sl ([.ref (ad 0), .long wd, .int (nI fb)])).length) Slot.unset).toArray = ls at hl ⊢
  have hl : lv_has ls 6 [(0, .ref (ad 0)), (1, .long wd), (3, .int (nI fb))] := hl
  have hnw := nw_le hN
  have hnwp := nw_pos N
  have hpw := pw_le N
  have hpwp := pw_pos N
  have hnp := np_le hN
  refine lv_iconst (v := nI 0) hx hb dX1_markTuples_0 (by decide) ?_
  refine lv_istore (lv' := [(4, .int (nI 0)), (0, .ref (ad 0)), (1, .long wd), (3, .int (nI fb))]) hx hb dX1_markTuples_1 hl (by decide) rfl (fun ls hl => ?_)
  have lp_3 : ∀ (n9 i1 : Nat) (d2 : Nat → Int64) (H : Heap) (locs : List Loc) (ls : Array Slot), i1 ≤ pw N → pw N + 1 ≤ i1 + n9 → d2 = mks wd tn fb dr i1 → va_P D vwCl (dkW N ad cJJ cJ cI d2 re tu kd uh bf la G) H → va_S A s.heap H locs → lv_has ls 6 [(0, .ref (ad 0)), (1, .long wd), (3, .int (nI fb)), (4, .int (nI i1))] → W p l e (headSpec wsX1_markTuples ({ frames := 0, cells := 0, slots := 0, locals := 0 } : Room)).room s m ([.ref (ad 0), .long wd, .int (nI fb)] : List Value).toArray below meth c H locs 0 0 (MQ below (va_Qv (fun (u : Nat → Int64) => u = mks wd tn fb dr (pw N)) (fun (u : Nat → Int64) t => va_P D vwCl (dkW N ad cJJ cJ cI u re tu kd uh bf la G) t.heap) A) ([.ref (ad 0), .long wd, .int (nI fb)] : List Value).toArray s 0 0 A) (F0 m 3 ls []) := by
    intro n9
    induction n9 with
    | zero => intro i1 d2 H locs ls h1 h2; exact absurd h2 (by omega)
    | succ n9 ih =>
      intro i1 d2 H locs ls hle_3 hmm_3 hI hP hS hl
      have ih_3 := @ih
      refine lv_iload hx hb dX1_markTuples_3 (lv_at hl 3 rfl) ?_
      refine lv_aload_n hx hb dX1_markTuples_5 rfl (lv_at hl 0 rfl) ?_
      refine va_get (D := D) (ci := 1) (C := RX1) (T := TX1) (N := 10) hx hb hts (by decide +kernel) hown hK hP 0 rfl rfl 3 (by decide) (hts (.fieldLink RX1 28 "ForkDesk" "pointsInWord" "I") (by decide +kernel)) (fun _ h9 => h9) rfl dX1_markTuples_6 ?_
      refine xa_ge (tgt := 60) hx hb (by omega) (by omega) dX1_markTuples_9 (by decide) (fun c_9 => ?_) (fun c_9 => ?_)
      · exact W.vret hx hb hr (fun t ht hW => ⟨⟨d2, rfl, (by rw [hI, show i1 = pw N by omega]), (by show va_P _ _ _ _; rw [ht]; exact hP)⟩, hS.F ht⟩) hS.2.2 dX1_markTuples_60
      · refine lv_lload_n hx hb dX1_markTuples_12 rfl (lv_at hl 1 rfl) ?_
        refine lv_iload hx hb dX1_markTuples_13 (lv_at hl 3 rfl) ?_
        refine lv_lushr (v := (wd.toUInt64 >>> ((nI i1).toInt64.toUInt64 &&& Int64.toUInt64 63)).toInt64) hx hb dX1_markTuples_15 rfl ?_
        refine lv_lconst (v := 1) hx hb dX1_markTuples_16 (by decide) ?_
        refine lv_land hx hb dX1_markTuples_17 ?_
        refine lv_lconst (v := 1) hx hb dX1_markTuples_18 (by decide) ?_
        refine W.lcmp hx hb dX1_markTuples_19 ?_
        refine lv_if_ne (tgt := 54) hx hb dX1_markTuples_20 (by decide) (fun c_20 => ?_) (fun c_20 => ?_)
        · refine xa_inc (k := 3) (lv' := [(4, .int (nI (i1 + 1))), (0, .ref (ad 0)), (1, .long wd), (3, .int (nI fb))]) hx hb dX1_markTuples_54 hl rfl (by decide) rfl (fun ls hl => ?_)
          refine lv_goto (tgt := 3) hx hb dX1_markTuples_57 (by decide) ?_
          exact ih_3 (i1 + 1) d2 _ _ _ (by omega) (by omega) (by subst hI; exact (mks_no (mk_f (by omega) c_20)).symm) hP hS (lv_sub hl [1, 2, 3, 0] rfl)
        · refine lv_aload_n hx hb dX1_markTuples_23 rfl (lv_at hl 0 rfl) ?_
          refine va_get (D := D) (ci := 1) (C := RX1) (T := TX1) (N := 10) hx hb hts (by decide +kernel) hown hK hP 0 rfl rfl 8 (by decide) (hts (.fieldLink RX1 49 "ForkDesk" "tuples" "[I") (by decide +kernel)) (fun _ h9 => h9) rfl dX1_markTuples_24 ?_
          refine lv_iload hx hb dX1_markTuples_27 (lv_at hl 3 rfl) ?_
          refine xa_iald hx hb hK hP 4 2 rfl rfl (w := i1) (by omega) (by omega) dX1_markTuples_29 ?_
          rw [htn i1 (by omega)]
          have hti := hlt i1 (by omega)
          have hpn := pt_nw hti
          refine lv_iload_n hx hb dX1_markTuples_30 rfl (lv_at hl 2 rfl) ?_
          refine xa_ishl hx hb (by omega) (by omega) dX1_markTuples_31 ?_
          refine lv_istore (lv' := [(5, .int (nI (tn i1 * 2 ^ fb))), (0, .ref (ad 0)), (1, .long wd), (3, .int (nI fb)), (4, .int (nI i1))]) hx hb dX1_markTuples_32 hl (by decide) rfl (fun ls hl => ?_)
          refine lv_aload_n hx hb dX1_markTuples_34 rfl (lv_at hl 1 rfl) ?_
          refine va_get (D := D) (ci := 1) (C := RX1) (T := TX1) (N := 10) hx hb hts (by decide +kernel) hown hK hP 0 rfl rfl 6 (by decide) (hts (.fieldLink RX1 42 "ForkDesk" "draft" "[J") (by decide +kernel)) (fun _ h9 => h9) rfl dX1_markTuples_35 ?_
          refine lv_iload hx hb dX1_markTuples_38 (lv_at hl 0 rfl) ?_
          refine lv_bipush (v := nI 64) hx hb dX1_markTuples_40 (by decide) ?_
          refine xa_idiv hx hb (by omega) (by omega) (by omega) dX1_markTuples_42 ?_
          refine lv_dup2_11 hx hb dX1_markTuples_43 rfl rfl ?_
          refine xa_lald hx hb hK hP 2 1 rfl rfl (w := (tn i1 * 2 ^ fb) / 64) (by omega) (by omega) dX1_markTuples_44 ?_
          refine lv_lconst (v := 1) hx hb dX1_markTuples_45 (by decide) ?_
          refine lv_iload hx hb dX1_markTuples_46 (lv_at hl 0 rfl) ?_
          refine lv_bipush (v := nI 64) hx hb dX1_markTuples_48 (by decide) ?_
          refine xa_irem hx hb (by omega) (by omega) (by omega) dX1_markTuples_50 ?_
          refine lv_lshl (v := (1 : Int64) <<< ((nI ((tn i1 * 2 ^ fb) % 64)).toInt64 &&& 63)) hx hb dX1_markTuples_51 rfl ?_
          refine lv_lor hx hb dX1_markTuples_52 ?_
          refine xa_last hx hb hK hP (dk_D hao) hS 2 1 rfl rfl (w := (tn i1 * 2 ^ fb) / 64) (by omega) (by omega) dX1_markTuples_53 (fun H locs hP _ hS => ?_)
          have hP : va_P D vwCl (dkW N ad cJJ cJ cI (vp_updL d2 ((tn i1 * 2 ^ fb) / 64) ((d2 ((tn i1 * 2 ^ fb) / 64)) ||| ((1 : Int64) <<< ((nI ((tn i1 * 2 ^ fb) % 64)).toInt64 &&& 63)))) re tu kd uh bf la G) H := hP
          refine xa_inc (k := 4) (lv' := [(4, .int (nI (i1 + 1))), (5, .int (nI (tn i1 * 2 ^ fb))), (0, .ref (ad 0)), (1, .long wd), (3, .int (nI fb))]) hx hb dX1_markTuples_54 hl rfl (by decide) rfl (fun ls hl => ?_)
          refine lv_goto (tgt := 3) hx hb dX1_markTuples_57 (by decide) ?_
          exact ih_3 (i1 + 1) (vp_updL d2 ((tn i1 * 2 ^ fb) / 64) ((d2 ((tn i1 * 2 ^ fb) / 64)) ||| ((1 : Int64) <<< ((nI ((tn i1 * 2 ^ fb) % 64)).toInt64 &&& 63)))) _ _ _ (by omega) (by omega) (by subst hI; exact (mks_yes (mk_t (by omega) c_20)).symm) hP hS (lv_sub hl [2, 3, 4, 0] rfl)
  exact lp_3 (pw N + 1 - 0) 0 dr _ _ _ (by omega) (by omega) rfl hP hS (lv_sub hl [1, 2, 3, 0] rfl)
