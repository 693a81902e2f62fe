set_option maxHeartbeats 4000000 in
set_option maxRecDepth 100000 in
/-- fix -/
theorem c_fix (l : Launch) (D : va_G) (sz : Nat) (N : Nat) (hN1 : 1 ≤ N) (hN : N ≤ 12) (ad : Nat → Nat) (hao : aok (fun _ => True) ad) (cJJ cJ cI : ClassId) (dr re : Nat → Int64) (tu kd uh bf la : Nat → Int32) (G : Nat → Nat → Int64) (g : Nat → Nat → Bool) (hg : okG N G g) (k a v x : Int32) : Met l yX1_fix wsX1_fix ({ frames := 2, cells := 0, slots := 0, locals := 61 } : Room) (va_Pc [.ref (ad 0), .int k, .int a, .int v, .int x] (wp0 D (dkW N ad cJJ cJ cI dr re tu kd uh bf la G) (dkT cJJ cJ cI) (fr ad sz) sz)) (va_Qi (fun (r : Int32) (u : dkS) => r = nI (spF N g k a v x).isSome.toNat ∧ okG N (dkR u) ((spF N g k a v x).getD g)) (fun (u : dkS) t => va_P D vwCl (dkU N ad cJJ cJ cI u) t.heap) (fr ad sz)) 0 0 (fr ad sz) := by
  refine Met.ofW (cc := cX1_fix) (maxL := 13) (ret := (some .boolean)) (by decide) rfl ?_
  intro p e s m args below meth c s₁ B hml hv
  obtain ⟨rfl, hsz, hP, hK, htb⟩ := hv
  have hx := B.exec
  have hb := B.bytes
  have hr := B.returns
  have hts := atoms_spec (ws := wsX1_fix) B.pre
  have hown : s.vm.findClass RX1 = some m.cls := findClass_of_methodNamed B.named
  have hlocks := B.notSynchronized
  subst hsz
  generalize hAe : fr ad s.heap.size = A at htb ⊢
  have hA : ∀ q : Nat, s.heap.size ≤ q → A q := fun q h => by rw [← hAe]; exact fr_new q h
  have hao : aok A ad := by rw [← hAe]; exact aok_fr hao
  obtain ⟨⟨tt, hZ, hT⟩, hNst⟩ := id htb
  have hS : va_S A s.heap s.heap [] := va_S.rf
  have hl := lv_entry ([.ref (ad 0), .int k, .int a, .int v, .int x]) (n := 13) (Nat.le_of_ble_eq_true rfl)
  rw [lg_entry_eq]
  generalize (lg_sl ([.ref (ad 0), .int k, .int a, .int v, .int x]) ++ List.replicate (13 - (lg_sl ([.ref (ad 0), .int k, .int a, .int v, .int x])).length) Slot.unset).toArray = ls at hl ⊢
  have hl : lv_has ls 13 [(0, .ref (ad 0)), (1, .int k), (2, .int a), (3, .int v), (4, .int x)] := hl
  have hnw := nw_le hN
  have hnwp := nw_pos N
  have hpw := pw_le N
  have hpwp := pw_pos N
  have hnp := np_le hN
  refine lv_iload_n hx hb dX1_fix_0 rfl (lv_at hl 1 rfl) ?_
  refine va_calli (va_runS (As := [.int k]) (rest := []) ⟨hx, hb, hml, hown, hts⟩ (c_isRegister l D _ k) (va_cwS 1 hts gX1_fix_X1_isRegister rfl rfl rfl (by decide +kernel) ⟨Nat.le_of_ble_eq_true rfl, Nat.le_of_ble_eq_true rfl⟩) ⟨wp0_blind, fun U hU hW => wp0_of (va_P.sub hP [] rfl) (hK.sub [] rfl) htb hS no_in hU hW⟩ rfl rfl hl.1 rfl (lv_room (Nat.le_of_ble_eq_true rfl)) dX1_fix_1 ⟨Nat.zero_le _, Nat.zero_le _⟩) hS (fun q _ h => h.elim) (fun q h => h.elim) (fun r_1 u_1 t H1 locs ht hvm hw hB hz1 hk1 hS => ?_)
  have hP := xa_same hP hk1
  clear hz1 hk1 hB ht
  generalize H1 = H at hP hS ⊢
  subst hw
  refine xa_if0 (tgt := 30) hx hb dX1_fix_4 (by decide) (fun c_4 => ?_) (fun c_4 => ?_)
  · refine lv_iconst (v := nI 0) hx hb dX1_fix_30 (by decide) ?_
    exact W.zret (v := (nI 0)) hx hb hr (by decide) (fun t ht hW => ⟨⟨(nI 0), (dr, re, tu, kd, uh, bf, la, G), rfl, ⟨by rw [(show spF N g k a v x = none from if_neg (by simp [c_4]))]; rfl, by rw [(show spF N g k a v x = none from if_neg (by simp [c_4]))]; exact hg⟩, (by show va_P _ _ _ _; rw [ht]; exact hP)⟩, hS.F ht⟩) hS.2.2 dX1_fix_31
  · refine lv_iload_n hx hb dX1_fix_7 rfl (lv_at hl 2 rfl) ?_
    refine va_calli (va_runS (As := [.int a]) (rest := []) ⟨hx, hb, hml, hown, hts⟩ (c_isRegister l D _ a) (va_cwS 1 hts gX1_fix_X1_isRegister rfl rfl rfl (by decide +kernel) ⟨Nat.le_of_ble_eq_true rfl, Nat.le_of_ble_eq_true rfl⟩) ⟨wp0_blind, fun U hU hW => wp0_of (va_P.sub hP [] rfl) (hK.sub [] rfl) htb hS no_in hU hW⟩ rfl rfl hl.1 rfl (lv_room (Nat.le_of_ble_eq_true rfl)) dX1_fix_8 ⟨Nat.zero_le _, Nat.zero_le _⟩) hS (fun q _ h => h.elim) (fun q h => h.elim) (fun r_8 u_8 t H1 locs ht hvm hw hB hz1 hk1 hS => ?_)
    have hP := xa_same hP hk1
    clear hz1 hk1 hB ht
    generalize H1 = H at hP hS ⊢
    subst hw
    refine xa_if0 (tgt := 30) hx hb dX1_fix_11 (by decide) (fun c_11 => ?_) (fun c_11 => ?_)
    · refine lv_iconst (v := nI 0) hx hb dX1_fix_30 (by decide) ?_
      exact W.zret (v := (nI 0)) hx hb hr (by decide) (fun t ht hW => ⟨⟨(nI 0), (dr, re, tu, kd, uh, bf, la, G), rfl, ⟨by rw [(show spF N g k a v x = none from if_neg (by simp [c_4, c_11]))]; rfl, by rw [(show spF N g k a v x = none from if_neg (by simp [c_4, c_11]))]; exact hg⟩, (by show va_P _ _ _ _; rw [ht]; exact hP)⟩, hS.F ht⟩) hS.2.2 dX1_fix_31
    · refine lv_aload_n hx hb dX1_fix_14 rfl (lv_at hl 0 rfl) ?_
      refine lv_iload_n hx hb dX1_fix_15 rfl (lv_at hl 3 rfl) ?_
      refine va_calli (va_runV (As := [.int v]) (rest := []) ⟨hx, hb, hml, hown, hts⟩ (c_isVariable l D _ N ad v) (cwV 1 hts gX1_fix_X1_isVariable rfl rfl rfl (by decide +kernel) ⟨Nat.le_of_ble_eq_true rfl, Nat.le_of_ble_eq_true rfl⟩) ⟨wp0_blind, va_recv hK hP (ci := 1) (q0 := 0) rfl rfl, fun U hU hW => wp0_of (va_one hP 0 rfl) (hK.sub [] rfl) htb hS no_in hU hW⟩ rfl rfl hl.1 rfl (lv_room (Nat.le_of_ble_eq_true rfl)) dX1_fix_16 ⟨Nat.zero_le _, Nat.zero_le _⟩) hS (fun q _ h => h.elim) (fun q h => h.elim) (fun r_16 u_16 t H1 locs ht hvm hw hB hz1 hk1 hS => ?_)
      have hP := xa_same hP hk1
      clear hz1 hk1 hB ht
      generalize H1 = H at hP hS ⊢
      subst hw
      refine xa_if0 (tgt := 30) hx hb dX1_fix_19 (by decide) (fun c_19 => ?_) (fun c_19 => ?_)
      · refine lv_iconst (v := nI 0) hx hb dX1_fix_30 (by decide) ?_
        exact W.zret (v := (nI 0)) hx hb hr (by decide) (fun t ht hW => ⟨⟨(nI 0), (dr, re, tu, kd, uh, bf, la, G), rfl, ⟨by rw [(show spF N g k a v x = none from if_neg (by simp [c_4, c_11, c_19]))]; rfl, by rw [(show spF N g k a v x = none from if_neg (by simp [c_4, c_11, c_19]))]; exact hg⟩, (by show va_P _ _ _ _; rw [ht]; exact hP)⟩, hS.F ht⟩) hS.2.2 dX1_fix_31
      · refine lv_iload hx hb dX1_fix_22 (lv_at hl 4 rfl) ?_
        refine va_calli (va_runS (As := [.int x]) (rest := []) ⟨hx, hb, hml, hown, hts⟩ (c_isValue l D _ x) (va_cwS 1 hts gX1_fix_X1_isValue rfl rfl rfl (by decide +kernel) ⟨Nat.le_of_ble_eq_true rfl, Nat.le_of_ble_eq_true rfl⟩) ⟨wp0_blind, fun U hU hW => wp0_of (va_P.sub hP [] rfl) (hK.sub [] rfl) htb hS no_in hU hW⟩ rfl rfl hl.1 rfl (lv_room (Nat.le_of_ble_eq_true rfl)) dX1_fix_24 ⟨Nat.zero_le _, Nat.zero_le _⟩) hS (fun q _ h => h.elim) (fun q h => h.elim) (fun r_24 u_24 t H1 locs ht hvm hw hB hz1 hk1 hS => ?_)
        have hP := xa_same hP hk1
        clear hz1 hk1 hB ht
        generalize H1 = H at hP hS ⊢
        subst hw
        refine xa_if1 (tgt := 32) hx hb dX1_fix_27 (by decide) (fun c_27 => ?_) (fun c_27 => ?_)
        · obtain ⟨j, hj, ej⟩ := isR_t c_4
          rw [ej] at hl
          obtain ⟨x1, hx1, ex1⟩ := isR_t c_11
          rw [ex1] at hl
          obtain ⟨i, hi1, hi, ei⟩ := isV_t hN c_19
          rw [ei] at hl
          obtain ⟨bv, ebv⟩ := isB_t c_27
          rw [ebv] at hl
          have hbv := tn_le bv
          have hsp : spF N g k a v x = some (va_up g j (fx (g x1) (N - i) bv)) := by unfold spF; rw [if_pos (by rw [c_4, c_11, c_19, c_27]; rfl), ej, ex1, ei, ebv, ix_nI (by omega), ix_nI (by omega), ix_nI (by omega), tn_d]
          refine lv_aload_n hx hb dX1_fix_32 rfl (lv_at hl 0 rfl) ?_
          refine lv_iload_n hx hb dX1_fix_33 rfl (lv_at hl 3 rfl) ?_
          refine va_calli (va_runV (As := [.int (nI i)]) (rest := []) ⟨hx, hb, hml, hown, hts⟩ (c_bitOf l D _ N ad i (by omega)) (cwV 1 hts gX1_fix_X1_bitOf rfl rfl rfl (by decide +kernel) ⟨Nat.le_of_ble_eq_true rfl, Nat.le_of_ble_eq_true rfl⟩) ⟨wp0_blind, va_recv hK hP (ci := 1) (q0 := 0) rfl rfl, fun U hU hW => wp0_of (va_one hP 0 rfl) (hK.sub [] rfl) htb hS no_in hU hW⟩ rfl rfl hl.1 rfl (lv_room (Nat.le_of_ble_eq_true rfl)) dX1_fix_34 ⟨Nat.zero_le _, Nat.zero_le _⟩) hS (fun q _ h => h.elim) (fun q h => h.elim) (fun r_34 u_34 t H1 locs ht hvm hw hB hz1 hk1 hS => ?_)
          have hP := xa_same hP hk1
          clear hz1 hk1 hB ht
          generalize H1 = H at hP hS ⊢
          subst hw
          refine lv_istore (lv' := [(5, .int (nI (N - i))), (0, .ref (ad 0)), (1, .int (nI j)), (2, .int (nI x1)), (3, .int (nI i)), (4, .int (nI bv.toNat))]) hx hb dX1_fix_37 hl (by decide) rfl (fun ls hl => ?_)
          refine lv_iconst (v := nI 0) hx hb dX1_fix_39 (by decide) ?_
          refine lv_istore (lv' := [(6, .int (nI 0)), (5, .int (nI (N - i))), (0, .ref (ad 0)), (1, .int (nI j)), (2, .int (nI x1)), (3, .int (nI i)), (4, .int (nI bv.toNat))]) hx hb dX1_fix_40 hl (by decide) rfl (fun ls hl => ?_)
          have lp_42 : ∀ (n9 w : Nat) (d2 : Nat → Int64) (H : Heap) (locs : List Loc) (ls : Array Slot), w ≤ nw N → nw N + 1 ≤ w + n9 → (∀ z, z < w → d2 z = fxw N (G x1) (N - i) bv z) → va_P D vwCl (dkW N ad cJJ cJ cI d2 re tu kd uh bf la G) H → va_S A s.heap H locs → lv_has ls 13 [(0, .ref (ad 0)), (1, .int (nI j)), (2, .int (nI x1)), (3, .int (nI i)), (4, .int (nI bv.toNat)), (5, .int (nI (N - i))), (6, .int (nI w))] → W p l e (headSpec wsX1_fix ({ frames := 2, cells := 0, slots := 0, locals := 61 } : Room)).room s m ([.ref (ad 0), .int k, .int a, .int v, .int x] : List Value).toArray below meth c H locs 0 0 (MQ below (va_Qi (fun (r : Int32) (u : dkS) => r = nI (spF N g k a v x).isSome.toNat ∧ okG N (dkR u) ((spF N g k a v x).getD g)) (fun (u : dkS) t => va_P D vwCl (dkU N ad cJJ cJ cI u) t.heap) A) ([.ref (ad 0), .int k, .int a, .int v, .int x] : List Value).toArray s 0 0 A) (F0 m 42 ls []) := by
            intro n9
            induction n9 with
            | zero => intro w d2 H locs ls h1 h2; exact absurd h2 (by omega)
            | succ n9 ih =>
              intro w d2 H locs ls hle_42 hmm_42 hI hP hS hl
              have ih_42 := @ih
              refine lv_iload hx hb dX1_fix_42 (lv_at hl 6 rfl) ?_
              refine lv_aload_n hx hb dX1_fix_44 rfl (lv_at hl 0 rfl) ?_
              refine va_get (D := D) (ci := 1) (C := RX1) (T := TX1) (N := 10) hx hb hts (by decide +kernel) hown hK hP 0 rfl rfl 2 (by decide) (hts (.fieldLink RX1 25 "ForkDesk" "words" "I") (by decide +kernel)) (fun _ h9 => h9) rfl dX1_fix_45 ?_
              refine xa_ge (tgt := 127) hx hb (by omega) (by omega) dX1_fix_48 (by decide) (fun c_48 => ?_) (fun c_48 => ?_)
              · refine lv_aload_n hx hb dX1_fix_127 rfl (lv_at hl 0 rfl) ?_
                refine lv_iload_n hx hb dX1_fix_128 rfl (lv_at hl 1 rfl) ?_
                refine va_callv (va_runV (As := [.int (nI j)]) (rest := []) ⟨hx, hb, hml, hown, hts⟩ (c_keepDraft l D _ N hN1 hN ad (aok_true hao) cJJ cJ cI d2 re tu kd uh bf la G j (by omega)) (cwV 1 hts gX1_fix_X1_keepDraft rfl rfl rfl (by decide +kernel) ⟨Nat.le_of_ble_eq_true rfl, Nat.le_of_ble_eq_true rfl⟩) ⟨wp0_blind, va_recv hK hP (ci := 1) (q0 := 0) rfl rfl, fun U hU hW => wp0_of hP hK htb hS (fr_in hao hS hA) hU hW⟩ rfl rfl hl.1 rfl (lv_room (Nat.le_of_ble_eq_true rfl)) dX1_fix_129 ⟨Nat.zero_le _, Nat.zero_le _⟩) hS (fun q _ h => (fr_in hao hS hA) q h) ((fr_in hao hS hA)) (fun u_129 t H1 locs ht hvm hw hB hz1 hk1 hS => ?_)
                rw [ht] at hB
                have hP := hB
                clear hz1 hk1 hB ht
                generalize H1 = H at hP hS ⊢
                refine lv_iconst (v := nI 1) hx hb dX1_fix_132 (by decide) ?_
                exact W.zret (v := (nI 1)) hx hb hr (by decide) (fun t ht hW => ⟨⟨(nI 1), (d2, re, tu, kd, uh, bf, la, va_up G j u_129), rfl, ⟨by rw [hsp]; rfl, by rw [hsp]; exact (okG_up hg (rp_fix (by omega) (hg x1 hx1).1 (hg x1 hx1).2 (fun z hz => by rw [hw z hz]; exact hI z (by omega))) (fx_dm (by omega) (hg x1 hx1).2 _))⟩, (by show va_P _ _ _ _; rw [ht]; exact hP)⟩, hS.F ht⟩) hS.2.2 dX1_fix_133
              · refine lv_aload_n hx hb dX1_fix_51 rfl (lv_at hl 0 rfl) ?_
                refine va_get (D := D) (ci := 1) (C := RX1) (T := TX1) (N := 10) hx hb hts (by decide +kernel) hown hK hP 0 rfl rfl 5 (by decide) (hts (.fieldLink RX1 39 "ForkDesk" "registers" "[[J") (by decide +kernel)) (fun _ h9 => h9) rfl dX1_fix_52 ?_
                refine lv_iload_n hx hb dX1_fix_55 rfl (lv_at hl 2 rfl) ?_
                refine xa_aald hx hb hK hP 1 0 rfl rfl (w := x1) (y := ad (10 + x1)) (by omega) (by decide) rfl dX1_fix_56 ?_
                refine lv_iload hx hb dX1_fix_57 (lv_at hl 6 rfl) ?_
                refine xa_lald hx hb hK hP (10 + x1) 1 (dk_row (by omega)) rfl (w := w) (by omega) (by omega) dX1_fix_59 ?_
                refine lv_lstore (lv' := [(7, .long (G x1 w)), (0, .ref (ad 0)), (1, .int (nI j)), (2, .int (nI x1)), (3, .int (nI i)), (4, .int (nI bv.toNat)), (5, .int (nI (N - i))), (6, .int (nI w))]) hx hb dX1_fix_60 hl (by decide) rfl (fun ls hl => ?_)
                refine lv_aload_n hx hb dX1_fix_62 rfl (lv_at hl 1 rfl) ?_
                refine va_get (D := D) (ci := 1) (C := RX1) (T := TX1) (N := 10) hx hb hts (by decide +kernel) hown hK hP 0 rfl rfl 5 (by decide) (hts (.fieldLink RX1 39 "ForkDesk" "registers" "[[J") (by decide +kernel)) (fun _ h9 => h9) rfl dX1_fix_63 ?_
                refine lv_iload_n hx hb dX1_fix_66 rfl (lv_at hl 3 rfl) ?_
                refine xa_aald hx hb hK hP 1 0 rfl rfl (w := x1) (y := ad (10 + x1)) (by omega) (by decide) rfl dX1_fix_67 ?_
                refine lv_iload hx hb dX1_fix_68 (lv_at hl 7 rfl) ?_
                refine lv_iload hx hb dX1_fix_70 (lv_at hl 6 rfl) ?_
                refine va_calll (va_runS (As := [.ref (ad (10 + x1)), .int (nI w), .int (nI (N - i))]) (rest := []) ⟨hx, hb, hml, hown, hts⟩ (c_acrossBit l D _ N (ad (10 + x1)) cJ (G x1) w (N - i) hN (by omega) (by omega)) (va_cwS 3 hts gX1_fix_X1_acrossBit rfl rfl rfl (by decide +kernel) ⟨Nat.le_of_ble_eq_true rfl, Nat.le_of_ble_eq_true rfl⟩) ⟨wp0_blind, fun U hU hW => wp0_of (va_one hP (10 + x1) (dk_row (by omega))) (hK.sub [1] rfl) htb hS no_in hU hW⟩ rfl rfl hl.1 rfl (lv_room (Nat.le_of_ble_eq_true rfl)) dX1_fix_72 ⟨Nat.zero_le _, Nat.zero_le _⟩) hS (fun q _ h => h.elim) (fun q h => h.elim) (fun r_72 u_72 t H1 locs ht hvm hw hB hz1 hk1 hS => ?_)
                have hP := xa_same hP hk1
                clear hz1 hk1 hB ht
                generalize H1 = H at hP hS ⊢
                subst hw
                refine lv_lstore (lv' := [(9, .long (acr (G x1) w (N - i))), (7, .long (G x1 w)), (0, .ref (ad 0)), (1, .int (nI j)), (2, .int (nI x1)), (3, .int (nI i)), (4, .int (nI bv.toNat)), (5, .int (nI (N - i))), (6, .int (nI w))]) hx hb dX1_fix_75 hl (by decide) rfl (fun ls hl => ?_)
                refine lv_aload_n hx hb dX1_fix_77 rfl (lv_at hl 2 rfl) ?_
                refine lv_iload hx hb dX1_fix_78 (lv_at hl 8 rfl) ?_
                refine lv_iload hx hb dX1_fix_80 (lv_at hl 7 rfl) ?_
                refine va_calll (va_runV (As := [.int (nI w), .int (nI (N - i))]) (rest := []) ⟨hx, hb, hml, hown, hts⟩ (c_pointsWithBit l D _ N ad w (N - i) (by omega) (by omega)) (cwV 2 hts gX1_fix_X1_pointsWithBit rfl rfl rfl (by decide +kernel) ⟨Nat.le_of_ble_eq_true rfl, Nat.le_of_ble_eq_true rfl⟩) ⟨wp0_blind, va_recv hK hP (ci := 1) (q0 := 0) rfl rfl, fun U hU hW => wp0_of (va_one hP 0 rfl) (hK.sub [] rfl) htb hS no_in hU hW⟩ rfl rfl hl.1 rfl (lv_room (Nat.le_of_ble_eq_true rfl)) dX1_fix_82 ⟨Nat.zero_le _, Nat.zero_le _⟩) hS (fun q _ h => h.elim) (fun q h => h.elim) (fun r_82 u_82 t H1 locs ht hvm hw hB hz1 hk1 hS => ?_)
                have hP := xa_same hP hk1
                clear hz1 hk1 hB ht
                generalize H1 = H at hP hS ⊢
                subst hw
                refine lv_lstore (lv' := [(11, .long (pwN N w (N - i))), (9, .long (acr (G x1) w (N - i))), (7, .long (G x1 w)), (0, .ref (ad 0)), (1, .int (nI j)), (2, .int (nI x1)), (3, .int (nI i)), (4, .int (nI bv.toNat)), (5, .int (nI (N - i))), (6, .int (nI w))]) hx hb dX1_fix_85 hl (by decide) rfl (fun ls hl => ?_)
                refine lv_aload_n hx hb dX1_fix_87 rfl (lv_at hl 3 rfl) ?_
                refine va_get (D := D) (ci := 1) (C := RX1) (T := TX1) (N := 10) hx hb hts (by decide +kernel) hown hK hP 0 rfl rfl 6 (by decide) (hts (.fieldLink RX1 42 "ForkDesk" "draft" "[J") (by decide +kernel)) (fun _ h9 => h9) rfl dX1_fix_88 ?_
                refine lv_iload hx hb dX1_fix_91 (lv_at hl 9 rfl) ?_
                refine lv_iload hx hb dX1_fix_93 (lv_at hl 7 rfl) ?_
                refine lv_iconst (v := nI 1) hx hb dX1_fix_95 (by decide) ?_
                refine xa_ne (tgt := 111) hx hb (by omega) (by omega) dX1_fix_96 (by decide) (fun c_96 => ?_) (fun c_96 => ?_)
                · refine lv_lload hx hb dX1_fix_111 (lv_at hl 0 rfl) ?_
                  refine lv_lload hx hb dX1_fix_113 (lv_at hl 1 rfl) ?_
                  refine lv_lload hx hb dX1_fix_115 (lv_at hl 2 rfl) ?_
                  refine va_calll (va_runS (As := [.long (pwN N w (N - i)), .long (acr (G x1) w (N - i)), .long (G x1 w)]) (rest := [.int (nI w), .ref (ad 2)]) ⟨hx, hb, hml, hown, hts⟩ (c_chosen l D _ (pwN N w (N - i)) (acr (G x1) w (N - i)) (G x1 w)) (va_cwS 3 hts gX1_fix_X1_chosen rfl rfl rfl (by decide +kernel) ⟨Nat.le_of_ble_eq_true rfl, Nat.le_of_ble_eq_true rfl⟩) ⟨wp0_blind, fun U hU hW => wp0_of (va_P.sub hP [] rfl) (hK.sub [] rfl) htb hS no_in hU hW⟩ rfl rfl hl.1 rfl (lv_room (Nat.le_of_ble_eq_true rfl)) dX1_fix_117 ⟨Nat.zero_le _, Nat.zero_le _⟩) hS (fun q _ h => h.elim) (fun q h => h.elim) (fun r_117 u_117 t H1 locs ht hvm hw hB hz1 hk1 hS => ?_)
                  have hP := xa_same hP hk1
                  clear hz1 hk1 hB ht
                  generalize H1 = H at hP hS ⊢
                  subst hw
                  refine xa_last hx hb hK hP (dk_D hao) hS 2 1 rfl rfl (w := w) (by omega) (by omega) dX1_fix_120 (fun H locs hP _ hS => ?_)
                  have hP : va_P D vwCl (dkW N ad cJJ cJ cI (vp_updL d2 w (chs (pwN N w (N - i)) (acr (G x1) w (N - i)) (G x1 w))) re tu kd uh bf la G) H := hP
                  refine xa_inc (k := 9) (lv' := [(6, .int (nI (w + 1))), (11, .long (pwN N w (N - i))), (9, .long (acr (G x1) w (N - i))), (7, .long (G x1 w)), (0, .ref (ad 0)), (1, .int (nI j)), (2, .int (nI x1)), (3, .int (nI i)), (4, .int (nI bv.toNat)), (5, .int (nI (N - i)))]) hx hb dX1_fix_121 hl rfl (by decide) rfl (fun ls hl => ?_)
                  refine lv_goto (tgt := 42) hx hb dX1_fix_124 (by decide) ?_
                  exact ih_42 (w + 1) (vp_updL d2 w (chs (pwN N w (N - i)) (acr (G x1) w (N - i)) (G x1 w))) _ _ _ (by omega) (by omega) (fun z hz => by by_cases hzw : z = w; (subst hzw; rw [pk_uLs]; unfold fxw; first | rw [if_pos (tn_1 c_96)] | rw [if_neg (tn_0 c_96)]); (rw [pk_uLn hzw]; exact hI z (by omega))) hP hS (lv_sub hl [4, 5, 6, 7, 8, 9, 0] rfl)
                · refine lv_lload hx hb dX1_fix_99 (lv_at hl 0 rfl) ?_
                  refine lv_lload hx hb dX1_fix_101 (lv_at hl 2 rfl) ?_
                  refine lv_lload hx hb dX1_fix_103 (lv_at hl 1 rfl) ?_
                  refine va_calll (va_runS (As := [.long (pwN N w (N - i)), .long (G x1 w), .long (acr (G x1) w (N - i))]) (rest := [.int (nI w), .ref (ad 2)]) ⟨hx, hb, hml, hown, hts⟩ (c_chosen l D _ (pwN N w (N - i)) (G x1 w) (acr (G x1) w (N - i))) (va_cwS 3 hts gX1_fix_X1_chosen rfl rfl rfl (by decide +kernel) ⟨Nat.le_of_ble_eq_true rfl, Nat.le_of_ble_eq_true rfl⟩) ⟨wp0_blind, fun U hU hW => wp0_of (va_P.sub hP [] rfl) (hK.sub [] rfl) htb hS no_in hU hW⟩ rfl rfl hl.1 rfl (lv_room (Nat.le_of_ble_eq_true rfl)) dX1_fix_105 ⟨Nat.zero_le _, Nat.zero_le _⟩) hS (fun q _ h => h.elim) (fun q h => h.elim) (fun r_105 u_105 t H1 locs ht hvm hw hB hz1 hk1 hS => ?_)
                  have hP := xa_same hP hk1
                  clear hz1 hk1 hB ht
                  generalize H1 = H at hP hS ⊢
                  subst hw
                  refine lv_goto (tgt := 120) hx hb dX1_fix_108 (by decide) ?_
                  refine xa_last hx hb hK hP (dk_D hao) hS 2 1 rfl rfl (w := w) (by omega) (by omega) dX1_fix_120 (fun H locs hP _ hS => ?_)
                  have hP : va_P D vwCl (dkW N ad cJJ cJ cI (vp_updL d2 w (chs (pwN N w (N - i)) (G x1 w) (acr (G x1) w (N - i)))) re tu kd uh bf la G) H := hP
                  refine xa_inc (k := 9) (lv' := [(6, .int (nI (w + 1))), (11, .long (pwN N w (N - i))), (9, .long (acr (G x1) w (N - i))), (7, .long (G x1 w)), (0, .ref (ad 0)), (1, .int (nI j)), (2, .int (nI x1)), (3, .int (nI i)), (4, .int (nI bv.toNat)), (5, .int (nI (N - i)))]) hx hb dX1_fix_121 hl rfl (by decide) rfl (fun ls hl => ?_)
                  refine lv_goto (tgt := 42) hx hb dX1_fix_124 (by decide) ?_
                  exact ih_42 (w + 1) (vp_updL d2 w (chs (pwN N w (N - i)) (G x1 w) (acr (G x1) w (N - i)))) _ _ _ (by omega) (by omega) (fun z hz => by by_cases hzw : z = w; (subst hzw; rw [pk_uLs]; unfold fxw; first | rw [if_pos (tn_1 c_96)] | rw [if_neg (tn_0 c_96)]); (rw [pk_uLn hzw]; exact hI z (by omega))) hP hS (lv_sub hl [4, 5, 6, 7, 8, 9, 0] rfl)
          exact lp_42 (nw N + 1 - 0) 0 dr _ _ _ (by omega) (by omega) (fun z hz => absurd hz (by omega)) hP hS (lv_sub hl [2, 3, 4, 5, 6, 1, 0] rfl)
        · refine lv_iconst (v := nI 0) hx hb dX1_fix_30 (by decide) ?_
          exact W.zret (v := (nI 0)) hx hb hr (by decide) (fun t ht hW => ⟨⟨(nI 0), (dr, re, tu, kd, uh, bf, la, G), rfl, ⟨by rw [(show spF N g k a v x = none from if_neg (by simp [c_4, c_11, c_19, c_27]))]; rfl, by rw [(show spF N g k a v x = none from if_neg (by simp [c_4, c_11, c_19, c_27]))]; exact hg⟩, (by show va_P _ _ _ _; rw [ht]; exact hP)⟩, hS.F ht⟩) hS.2.2 dX1_fix_31
