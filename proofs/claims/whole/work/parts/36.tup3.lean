set_option maxHeartbeats 4000000 in
set_option maxRecDepth 100000 in
/-- substitute -/
theorem c_substitute (l : Launch) (D : va_G) (sz : Nat) (N : Nat) (hN1 : 1 ≤ N) (hN : N ≤ 12) (ad : Nat → Nat) (hao : aok (fun _ => True) ad) (cJJ cJ cI : ClassId) (dr re : Nat → Int64) (tu kd uh bf la : Nat → Int32) (G : Nat → Nat → Int64) (g : Nat → Nat → Bool) (hg : okG N G g) (k a f : Int32) : Met l yX1_substitute wsX1_substitute ({ frames := 2, cells := 0, slots := 0, locals := 61 } : Room) (va_Pc [.ref (ad 0), .int k, .int a, .int f] (wp0 D (dkW N ad cJJ cJ cI dr re tu kd uh bf la G) (dkT cJJ cJ cI) (fr ad sz) sz)) (va_Qi (fun (r : Int32) (u : dkS) => r = nI (spS N g k a f).isSome.toNat ∧ okG N (dkR u) ((spS N g k a f).getD g)) (fun (u : dkS) t => va_P D vwCl (dkU N ad cJJ cJ cI u) t.heap) (fr ad sz)) 0 0 (fr ad sz) := by
  refine Met.ofW (cc := cX1_substitute) (maxL := 8) (ret := (some .boolean)) (by decide) rfl ?_
  intro p e s m args below meth c s₁ B hml hv
  obtain ⟨rfl, hsz, hP, hK, htb⟩ := hv
  have hx := B.exec
  have hb := B.bytes
  have hr := B.returns
  have hts := atoms_spec (ws := wsX1_substitute) B.pre
  have hown : s.vm.findClass RX1 = some m.cls := findClass_of_methodNamed B.named
  have hlocks := B.notSynchronized
  subst hsz
  generalize hAe : fr ad s.heap.size = A at htb ⊢
  have hA : ∀ q : Nat, s.heap.size ≤ q → A q := fun q h => by rw [← hAe]; exact fr_new q h
  have hao : aok A ad := by rw [← hAe]; exact aok_fr hao
  obtain ⟨⟨tt, hZ, hT⟩, hNst⟩ := id htb
  have hS : va_S A s.heap s.heap [] := va_S.rf
  have hl := lv_entry ([.ref (ad 0), .int k, .int a, .int f]) (n := 8) (Nat.le_of_ble_eq_true rfl)
  rw [lg_entry_eq]
  generalize (lg_sl ([.ref (ad 0), .int k, .int a, .int f]) ++ List.replicate (8 - (lg_sl ([.ref (ad 0), .int k, .int a, .int f])).length) Slot.unset).toArray = ls at hl ⊢
  have hl : lv_has ls 8 [(0, .ref (ad 0)), (1, .int k), (2, .int a), (3, .int f)] := hl
  have hnw := nw_le hN
  have hnwp := nw_pos N
  have hpw := pw_le N
  have hpwp := pw_pos N
  have hnp := np_le hN
  refine lv_iload_n hx hb dX1_substitute_0 rfl (lv_at hl 1 rfl) ?_
  refine va_calli (va_runS (As := [.int k]) (rest := []) ⟨hx, hb, hml, hown, hts⟩ (c_isRegister l D _ k) (va_cwS 1 hts gX1_substitute_X1_isRegister rfl rfl rfl (by decide +kernel) ⟨Nat.le_of_ble_eq_true rfl, Nat.le_of_ble_eq_true rfl⟩) ⟨wp0_blind, fun U hU hW => wp0_of (va_P.sub hP [] rfl) (hK.sub [] rfl) htb hS no_in hU hW⟩ rfl rfl hl.1 rfl (lv_room (Nat.le_of_ble_eq_true rfl)) dX1_substitute_1 ⟨Nat.zero_le _, Nat.zero_le _⟩) hS (fun q _ h => h.elim) (fun q h => h.elim) (fun r_1 u_1 t H1 locs ht hvm hw hB hz1 hk1 hS => ?_)
  have hP := xa_same hP hk1
  clear hz1 hk1 hB ht
  generalize H1 = H at hP hS ⊢
  subst hw
  refine xa_if0 (tgt := 25) hx hb dX1_substitute_4 (by decide) (fun c_4 => ?_) (fun c_4 => ?_)
  · refine lv_iconst (v := nI 0) hx hb dX1_substitute_25 (by decide) ?_
    exact W.zret (v := (nI 0)) hx hb hr (by decide) (fun t ht hW => ⟨⟨(nI 0), (dr, re, tu, kd, uh, bf, la, G), rfl, ⟨by rw [(show spS N g k a f = none from if_neg (by simp [c_4]))]; rfl, by rw [(show spS N g k a f = none from if_neg (by simp [c_4]))]; exact hg⟩, (by show va_P _ _ _ _; rw [ht]; exact hP)⟩, hS.F ht⟩) hS.2.2 dX1_substitute_26
  · refine lv_iload_n hx hb dX1_substitute_7 rfl (lv_at hl 2 rfl) ?_
    refine va_calli (va_runS (As := [.int a]) (rest := []) ⟨hx, hb, hml, hown, hts⟩ (c_isRegister l D _ a) (va_cwS 1 hts gX1_substitute_X1_isRegister rfl rfl rfl (by decide +kernel) ⟨Nat.le_of_ble_eq_true rfl, Nat.le_of_ble_eq_true rfl⟩) ⟨wp0_blind, fun U hU hW => wp0_of (va_P.sub hP [] rfl) (hK.sub [] rfl) htb hS no_in hU hW⟩ rfl rfl hl.1 rfl (lv_room (Nat.le_of_ble_eq_true rfl)) dX1_substitute_8 ⟨Nat.zero_le _, Nat.zero_le _⟩) hS (fun q _ h => h.elim) (fun q h => h.elim) (fun r_8 u_8 t H1 locs ht hvm hw hB hz1 hk1 hS => ?_)
    have hP := xa_same hP hk1
    clear hz1 hk1 hB ht
    generalize H1 = H at hP hS ⊢
    subst hw
    refine xa_if0 (tgt := 25) hx hb dX1_substitute_11 (by decide) (fun c_11 => ?_) (fun c_11 => ?_)
    · refine lv_iconst (v := nI 0) hx hb dX1_substitute_25 (by decide) ?_
      exact W.zret (v := (nI 0)) hx hb hr (by decide) (fun t ht hW => ⟨⟨(nI 0), (dr, re, tu, kd, uh, bf, la, G), rfl, ⟨by rw [(show spS N g k a f = none from if_neg (by simp [c_4, c_11]))]; rfl, by rw [(show spS N g k a f = none from if_neg (by simp [c_4, c_11]))]; exact hg⟩, (by show va_P _ _ _ _; rw [ht]; exact hP)⟩, hS.F ht⟩) hS.2.2 dX1_substitute_26
    · refine lv_iload_n hx hb dX1_substitute_14 rfl (lv_at hl 3 rfl) ?_
      refine lv_aload_n hx hb dX1_substitute_15 rfl (lv_at hl 0 rfl) ?_
      refine va_get (D := D) (ci := 1) (C := RX1) (T := TX1) (N := 10) hx hb hts (by decide +kernel) hown hK hP 0 rfl rfl 0 (by decide) (hts (.fieldLink RX1 18 "ForkDesk" "variables" "I") (by decide +kernel)) (fun _ h9 => h9) rfl dX1_substitute_16 ?_
      refine va_calli (va_runS (As := [.int f, .int (nI N)]) (rest := []) ⟨hx, hb, hml, hown, hts⟩ (c_areRegisters l D _ f N (by omega)) (va_cwS 2 hts gX1_substitute_X1_areRegisters rfl rfl rfl (by decide +kernel) ⟨Nat.le_of_ble_eq_true rfl, Nat.le_of_ble_eq_true rfl⟩) ⟨wp0_blind, fun U hU hW => wp0_of (va_P.sub hP [] rfl) (hK.sub [] rfl) htb hS no_in hU hW⟩ rfl rfl hl.1 rfl (lv_room (Nat.le_of_ble_eq_true rfl)) dX1_substitute_19 ⟨Nat.zero_le _, Nat.zero_le _⟩) hS (fun q _ h => h.elim) (fun q h => h.elim) (fun r_19 u_19 t H1 locs ht hvm hw hB hz1 hk1 hS => ?_)
      have hP := xa_same hP hk1
      clear hz1 hk1 hB ht
      generalize H1 = H at hP hS ⊢
      subst hw
      refine xa_if1 (tgt := 27) hx hb dX1_substitute_22 (by decide) (fun c_22 => ?_) (fun c_22 => ?_)
      · obtain ⟨j, hj, ej⟩ := isR_t c_4
        rw [ej] at hl
        obtain ⟨x1, hx1, ex1⟩ := isR_t c_11
        rw [ex1] at hl
        obtain ⟨x0, hx0, ex0⟩ := arR_t (by omega) c_22
        rw [ex0] at hl
        have hsp : spS N g k a f = some (va_up g j (fun p => decide (p < 2 ^ N) && g x1 (tp g x0 p N))) := by unfold spS; rw [if_pos (by rw [c_4, c_11, c_22]; rfl), ej, ex1, ex0, ix_nI (by omega), ix_nI (by omega), ix_nI (by omega)]
        refine lv_iconst (v := nI 0) hx hb dX1_substitute_27 (by decide) ?_
        refine lv_istore (lv' := [(4, .int (nI 0)), (0, .ref (ad 0)), (1, .int (nI j)), (2, .int (nI x1)), (3, .int (nI x0))]) hx hb dX1_substitute_28 hl (by decide) rfl (fun ls hl => ?_)
        have lp_30 : ∀ (n9 w : Nat) (d2 : Nat → Int64) (t2 : Nat → Int32) (H : Heap) (locs : List Loc) (ls : Array Slot), w ≤ nw N → nw N + 1 ≤ w + n9 → (∀ x z, x < w → z < 64 → lb (d2 x) z = (decide (z < pw N) && g x1 (tp g x0 (64 * x + z) N))) → va_P D vwCl (dkW N ad cJJ cJ cI d2 re t2 kd uh bf la G) H → va_S A s.heap H locs → lv_has ls 8 [(0, .ref (ad 0)), (1, .int (nI j)), (2, .int (nI x1)), (3, .int (nI x0)), (4, .int (nI w))] → W p l e (headSpec wsX1_substitute ({ frames := 2, cells := 0, slots := 0, locals := 61 } : Room)).room s m ([.ref (ad 0), .int k, .int a, .int f] : List Value).toArray below meth c H locs 0 0 (MQ below (va_Qi (fun (r : Int32) (u : dkS) => r = nI (spS N g k a f).isSome.toNat ∧ okG N (dkR u) ((spS N g k a f).getD g)) (fun (u : dkS) t => va_P D vwCl (dkU N ad cJJ cJ cI u) t.heap) A) ([.ref (ad 0), .int k, .int a, .int f] : List Value).toArray s 0 0 A) (F0 m 30 ls []) := by
          intro n9
          induction n9 with
          | zero => intro w d2 t2 H locs ls h1 h2; exact absurd h2 (by omega)
          | succ n9 ih =>
            intro w d2 t2 H locs ls hle_30 hmm_30 hI hP hS hl
            have ih_30 := @ih
            refine lv_iload hx hb dX1_substitute_30 (lv_at hl 4 rfl) ?_
            refine lv_aload_n hx hb dX1_substitute_32 rfl (lv_at hl 0 rfl) ?_
            refine va_get (D := D) (ci := 1) (C := RX1) (T := TX1) (N := 10) hx hb hts (by decide +kernel) hown hK hP 0 rfl rfl 2 (by decide) (hts (.fieldLink RX1 25 "ForkDesk" "words" "I") (by decide +kernel)) (fun _ h9 => h9) rfl dX1_substitute_33 ?_
            refine xa_ge (tgt := 111) hx hb (by omega) (by omega) dX1_substitute_36 (by decide) (fun c_36 => ?_) (fun c_36 => ?_)
            · refine lv_aload_n hx hb dX1_substitute_111 rfl (lv_at hl 0 rfl) ?_
              refine lv_iload_n hx hb dX1_substitute_112 rfl (lv_at hl 1 rfl) ?_
              refine va_callv (va_runV (As := [.int (nI j)]) (rest := []) ⟨hx, hb, hml, hown, hts⟩ (c_keepDraft l D _ N hN1 hN ad (aok_true hao) cJJ cJ cI d2 re t2 kd uh bf la G j (by omega)) (cwV 1 hts gX1_substitute_X1_keepDraft rfl rfl rfl (by decide +kernel) ⟨Nat.le_of_ble_eq_true rfl, Nat.le_of_ble_eq_true rfl⟩) ⟨wp0_blind, va_recv hK hP (ci := 1) (q0 := 0) rfl rfl, fun U hU hW => wp0_of hP hK htb hS (fr_in hao hS hA) hU hW⟩ rfl rfl hl.1 rfl (lv_room (Nat.le_of_ble_eq_true rfl)) dX1_substitute_113 ⟨Nat.zero_le _, Nat.zero_le _⟩) hS (fun q _ h => (fr_in hao hS hA) q h) ((fr_in hao hS hA)) (fun u_113 t H1 locs ht hvm hw hB hz1 hk1 hS => ?_)
              rw [ht] at hB
              have hP := hB
              clear hz1 hk1 hB ht
              generalize H1 = H at hP hS ⊢
              refine lv_iconst (v := nI 1) hx hb dX1_substitute_116 (by decide) ?_
              exact W.zret (v := (nI 1)) hx hb hr (by decide) (fun t ht hW => ⟨⟨(nI 1), (d2, re, t2, kd, uh, bf, la, va_up G j u_113), rfl, ⟨by rw [hsp]; rfl, by rw [hsp]; exact (okG_up hg (fun z y hz hy => by rw [hw z hz, hI z y (by omega) hy]; show _ = (decide (64 * z + y < 2 ^ N) && _); rw [show decide (64 * z + y < 2 ^ N) = decide (y < pw N) by rw [decide_eq_decide]; exact nw_pt hz hy]) (dm_sub N _))⟩, (by show va_P _ _ _ _; rw [ht]; exact hP)⟩, hS.F ht⟩) hS.2.2 dX1_substitute_117
            · refine lv_aload_n hx hb dX1_substitute_39 rfl (lv_at hl 0 rfl) ?_
              refine lv_iload_n hx hb dX1_substitute_40 rfl (lv_at hl 3 rfl) ?_
              refine lv_aload_n hx hb dX1_substitute_41 rfl (lv_at hl 0 rfl) ?_
              refine va_get (D := D) (ci := 1) (C := RX1) (T := TX1) (N := 10) hx hb hts (by decide +kernel) hown hK hP 0 rfl rfl 0 (by decide) (hts (.fieldLink RX1 18 "ForkDesk" "variables" "I") (by decide +kernel)) (fun _ h9 => h9) rfl dX1_substitute_42 ?_
              refine lv_iload hx hb dX1_substitute_45 (lv_at hl 4 rfl) ?_
              refine va_callv (va_runV (As := [.int (nI x0), .int (nI N), .int (nI w)]) (rest := []) ⟨hx, hb, hml, hown, hts⟩ (c_readTuples l D _ N hN1 hN ad (aok_true hao) cJJ cJ cI d2 re t2 kd uh bf la G x0 N w (by omega) (by omega) (by omega)) (cwV 3 hts gX1_substitute_X1_readTuples rfl rfl rfl (by decide +kernel) ⟨Nat.le_of_ble_eq_true rfl, Nat.le_of_ble_eq_true rfl⟩) ⟨wp0_blind, va_recv hK hP (ci := 1) (q0 := 0) rfl rfl, fun U hU hW => wp0_of hP hK htb hS (fr_in hao hS hA) hU hW⟩ rfl rfl hl.1 rfl (lv_room (Nat.le_of_ble_eq_true rfl)) dX1_substitute_47 ⟨Nat.zero_le _, Nat.zero_le _⟩) hS (fun q _ h => (fr_in hao hS hA) q h) ((fr_in hao hS hA)) (fun u_47 t H1 locs ht hvm hw hB hz1 hk1 hS => ?_)
              rw [ht] at hB
              have hP := hB
              clear hz1 hk1 hB ht
              generalize H1 = H at hP hS ⊢
              have htu : ∀ i, i < pw N → u_47 i = nI (tp g x0 (64 * w + i) N) := fun i hi => by rw [hw i hi, tp_congr (fun k hk => (hg (x0 + k) (by omega)).1 w i (by omega) (by omega))]
              refine lv_lconst (v := 0) hx hb dX1_substitute_50 (by decide) ?_
              refine lv_lstore (lv' := [(5, .long (0 : Int64)), (0, .ref (ad 0)), (1, .int (nI j)), (2, .int (nI x1)), (3, .int (nI x0)), (4, .int (nI w))]) hx hb dX1_substitute_51 hl (by decide) rfl (fun ls hl => ?_)
              refine lv_iconst (v := nI 0) hx hb dX1_substitute_53 (by decide) ?_
              refine lv_istore (lv' := [(7, .int (nI 0)), (5, .long (0 : Int64)), (0, .ref (ad 0)), (1, .int (nI j)), (2, .int (nI x1)), (3, .int (nI x0)), (4, .int (nI w))]) hx hb dX1_substitute_54 hl (by decide) rfl (fun ls hl => ?_)
              have lp_56 : ∀ (n9 i1 : Nat) (wd : Int64) (H : Heap) (locs : List Loc) (ls : Array Slot), i1 ≤ pw N → pw N + 1 ≤ i1 + n9 → (∀ z, z < 64 → lb wd z = (decide (z < i1) && g x1 (tp g x0 (64 * w + z) N))) → va_P D vwCl (dkW N ad cJJ cJ cI d2 re u_47 kd uh bf la G) H → va_S A s.heap H locs → lv_has ls 8 [(0, .ref (ad 0)), (1, .int (nI j)), (2, .int (nI x1)), (3, .int (nI x0)), (4, .int (nI w)), (5, .long wd), (7, .int (nI i1))] → W p l e (headSpec wsX1_substitute ({ frames := 2, cells := 0, slots := 0, locals := 61 } : Room)).room s m ([.ref (ad 0), .int k, .int a, .int f] : List Value).toArray below meth c H locs 0 0 (MQ below (va_Qi (fun (r : Int32) (u : dkS) => r = nI (spS N g k a f).isSome.toNat ∧ okG N (dkR u) ((spS N g k a f).getD g)) (fun (u : dkS) t => va_P D vwCl (dkU N ad cJJ cJ cI u) t.heap) A) ([.ref (ad 0), .int k, .int a, .int f] : List Value).toArray s 0 0 A) (F0 m 56 ls []) := by
                intro n9
                induction n9 with
                | zero => intro i1 wd H locs ls h1 h2; exact absurd h2 (by omega)
                | succ n9 ih =>
                  intro i1 wd H locs ls hle_56 hmm_56 hJ hP hS hl
                  have ih_56 := @ih
                  refine lv_iload hx hb dX1_substitute_56 (lv_at hl 6 rfl) ?_
                  refine lv_aload_n hx hb dX1_substitute_58 rfl (lv_at hl 0 rfl) ?_
                  refine va_get (D := D) (ci := 1) (C := RX1) (T := TX1) (N := 10) hx hb hts (by decide +kernel) hown hK hP 0 rfl rfl 3 (by decide) (hts (.fieldLink RX1 28 "ForkDesk" "pointsInWord" "I") (by decide +kernel)) (fun _ h9 => h9) rfl dX1_substitute_59 ?_
                  refine xa_ge (tgt := 96) hx hb (by omega) (by omega) dX1_substitute_62 (by decide) (fun c_62 => ?_) (fun c_62 => ?_)
                  · refine lv_aload_n hx hb dX1_substitute_96 rfl (lv_at hl 0 rfl) ?_
                    refine va_get (D := D) (ci := 1) (C := RX1) (T := TX1) (N := 10) hx hb hts (by decide +kernel) hown hK hP 0 rfl rfl 6 (by decide) (hts (.fieldLink RX1 42 "ForkDesk" "draft" "[J") (by decide +kernel)) (fun _ h9 => h9) rfl dX1_substitute_97 ?_
                    refine lv_iload hx hb dX1_substitute_100 (lv_at hl 4 rfl) ?_
                    refine lv_lload hx hb dX1_substitute_102 (lv_at hl 5 rfl) ?_
                    refine xa_last hx hb hK hP (dk_D hao) hS 2 1 rfl rfl (w := w) (by omega) (by omega) dX1_substitute_104 (fun H locs hP _ hS => ?_)
                    have hP : va_P D vwCl (dkW N ad cJJ cJ cI (vp_updL d2 w wd) re u_47 kd uh bf la G) H := hP
                    refine xa_inc (k := 4) (lv' := [(4, .int (nI (w + 1))), (0, .ref (ad 0)), (1, .int (nI j)), (2, .int (nI x1)), (3, .int (nI x0)), (5, .long wd), (7, .int (nI i1))]) hx hb dX1_substitute_105 hl rfl (by decide) rfl (fun ls hl => ?_)
                    refine lv_goto (tgt := 30) hx hb dX1_substitute_108 (by decide) ?_
                    exact ih_30 (w + 1) (vp_updL d2 w wd) u_47 _ _ _ (by omega) (by omega) (fun x z hx hz => by by_cases hxw : x = w; (subst hxw; rw [pk_uLs, hJ z hz, show i1 = pw N by omega]); (rw [pk_uLn hxw]; exact hI x z (by omega) hz)) hP hS (lv_sub hl [1, 2, 3, 4, 0] rfl)
                  · refine lv_lload hx hb dX1_substitute_65 (lv_at hl 5 rfl) ?_
                    refine lv_aload_n hx hb dX1_substitute_67 rfl (lv_at hl 0 rfl) ?_
                    refine va_get (D := D) (ci := 1) (C := RX1) (T := TX1) (N := 10) hx hb hts (by decide +kernel) hown hK hP 0 rfl rfl 5 (by decide) (hts (.fieldLink RX1 39 "ForkDesk" "registers" "[[J") (by decide +kernel)) (fun _ h9 => h9) rfl dX1_substitute_68 ?_
                    refine lv_iload_n hx hb dX1_substitute_71 rfl (lv_at hl 2 rfl) ?_
                    refine xa_aald hx hb hK hP 1 0 rfl rfl (w := x1) (y := ad (10 + x1)) (by omega) (by decide) rfl dX1_substitute_72 ?_
                    refine lv_aload_n hx hb dX1_substitute_73 rfl (lv_at hl 0 rfl) ?_
                    refine va_get (D := D) (ci := 1) (C := RX1) (T := TX1) (N := 10) hx hb hts (by decide +kernel) hown hK hP 0 rfl rfl 8 (by decide) (hts (.fieldLink RX1 49 "ForkDesk" "tuples" "[I") (by decide +kernel)) (fun _ h9 => h9) rfl dX1_substitute_74 ?_
                    refine lv_iload hx hb dX1_substitute_77 (lv_at hl 6 rfl) ?_
                    refine xa_iald hx hb hK hP 4 2 rfl rfl (w := i1) (by omega) (by omega) dX1_substitute_79 ?_
                    rw [htu i1 (by omega)]
                    have hpt := tp_lt g x0 (64 * w + i1) N
                    have hpn := pt_nw hpt
                    refine va_calli (va_runS (As := [.ref (ad (10 + x1)), .int (nI (tp g x0 (64 * w + i1) N))]) (rest := [.long wd]) ⟨hx, hb, hml, hown, hts⟩ (c_valueAt l D _ (ad (10 + x1)) cJ (nw N) (G x1) (tp g x0 (64 * w + i1) N) (by omega) (by omega) (by omega)) (va_cwS 2 hts gX1_substitute_X1_valueAt rfl rfl rfl (by decide +kernel) ⟨Nat.le_of_ble_eq_true rfl, Nat.le_of_ble_eq_true rfl⟩) ⟨wp0_blind, fun U hU hW => wp0_of (va_one hP (10 + x1) (dk_row (by omega))) (hK.sub [1] rfl) htb hS no_in hU hW⟩ rfl rfl hl.1 rfl (lv_room (Nat.le_of_ble_eq_true rfl)) dX1_substitute_80 ⟨Nat.zero_le _, Nat.zero_le _⟩) hS (fun q _ h => h.elim) (fun q h => h.elim) (fun r_80 u_80 t H1 locs ht hvm hw hB hz1 hk1 hS => ?_)
                    have hP := xa_same hP hk1
                    clear hz1 hk1 hB ht
                    generalize H1 = H at hP hS ⊢
                    subst hw
                    rw [(hg x1 hx1).1 _ _ hpn.1 (Nat.mod_lt _ (by omega)), Nat.div_add_mod]
                    refine lv_i2l (v := (nI ((g x1 (tp g x0 (64 * w + i1) N)).toNat)).toInt64) hx hb dX1_substitute_83 rfl ?_
                    refine lv_iload hx hb dX1_substitute_84 (lv_at hl 6 rfl) ?_
                    refine lv_lshl (v := ((nI ((g x1 (tp g x0 (64 * w + i1) N)).toNat)).toInt64) <<< ((nI i1).toInt64 &&& 63)) hx hb dX1_substitute_86 rfl ?_
                    refine lv_lor hx hb dX1_substitute_87 ?_
                    refine lv_lstore (lv' := [(5, .long (wd ||| (((nI ((g x1 (tp g x0 (64 * w + i1) N)).toNat)).toInt64) <<< ((nI i1).toInt64 &&& 63)))), (0, .ref (ad 0)), (1, .int (nI j)), (2, .int (nI x1)), (3, .int (nI x0)), (4, .int (nI w)), (7, .int (nI i1))]) hx hb dX1_substitute_88 hl (by decide) rfl (fun ls hl => ?_)
                    refine xa_inc (k := 6) (lv' := [(7, .int (nI (i1 + 1))), (5, .long (wd ||| (((nI ((g x1 (tp g x0 (64 * w + i1) N)).toNat)).toInt64) <<< ((nI i1).toInt64 &&& 63)))), (0, .ref (ad 0)), (1, .int (nI j)), (2, .int (nI x1)), (3, .int (nI x0)), (4, .int (nI w))]) hx hb dX1_substitute_90 hl rfl (by decide) rfl (fun ls hl => ?_)
                    refine lv_goto (tgt := 56) hx hb dX1_substitute_93 (by decide) ?_
                    exact ih_56 (i1 + 1) (wd ||| (((nI ((g x1 (tp g x0 (64 * w + i1) N)).toNat)).toInt64) <<< ((nI i1).toInt64 &&& 63))) _ _ _ (by omega) (by omega) (fun z hz => by rw [lb_or, hJ z hz, lb_put (by omega) hz]; by_cases hzi : z = i1; (subst hzi; rw [decide_eq_true rfl, decide_eq_false (Nat.lt_irrefl z), decide_eq_true (Nat.lt_succ_self z)]; simp); (rw [decide_eq_false hzi, decide_lt_s hzi]; simp)) hP hS (lv_sub hl [2, 3, 4, 5, 6, 1, 0] rfl)
              exact lp_56 (pw N + 1 - 0) 0 (0 : Int64) _ _ _ (by omega) (by omega) (fun z hz => by rw [lb_0, decide_eq_false (by omega)]; rfl) hP hS (lv_sub hl [2, 3, 4, 5, 6, 1, 0] rfl)
        exact lp_30 (nw N + 1 - 0) 0 dr tu _ _ _ (by omega) (by omega) (fun x z hx _ => absurd hx (by omega)) hP hS (lv_sub hl [1, 2, 3, 4, 0] rfl)
      · refine lv_iconst (v := nI 0) hx hb dX1_substitute_25 (by decide) ?_
        exact W.zret (v := (nI 0)) hx hb hr (by decide) (fun t ht hW => ⟨⟨(nI 0), (dr, re, tu, kd, uh, bf, la, G), rfl, ⟨by rw [(show spS N g k a f = none from if_neg (by simp [c_4, c_11, c_22]))]; rfl, by rw [(show spS N g k a f = none from if_neg (by simp [c_4, c_11, c_22]))]; exact hg⟩, (by show va_P _ _ _ _; rw [ht]; exact hP)⟩, hS.F ht⟩) hS.2.2 dX1_substitute_26
