set_option maxHeartbeats 4000000 in
set_option maxRecDepth 100000 in
/-- combine -/
theorem c_combine (l : Launch) (D : va_G) (sz : Nat) (N : Nat) (hN1 : 1 ≤ N) (hN : N ≤ 12) (ad : Nat → Nat) (hao : aok (fun _ => True) ad) (cJJ cJ cI : ClassId) (dr re : Nat → Int64) (tu kd uh bf la : Nat → Int32) (G : Nat → Nat → Int64) (g : Nat → Nat → Bool) (hg : okG N G g) (k op a b : Int32) : Met l yX1_combine wsX1_combine ({ frames := 1, cells := 0, slots := 0, locals := 24 } : Room) (va_Pc [.ref (ad 0), .int k, .int op, .int a, .int b] (wp0 D (dkW N ad cJJ cJ cI dr re tu kd uh bf la G) (dkT cJJ cJ cI) (fr ad sz) sz)) (va_Qi (fun (r : Int32) (u : dkS) => r = nI (spM g k op a b).isSome.toNat ∧ okG N (dkR u) ((spM g k op a b).getD g)) (fun (u : dkS) t => va_P D vwCl (dkU N ad cJJ cJ cI u) t.heap) (fr ad sz)) 0 0 (fr ad sz) := by
  refine Met.ofW (cc := cX1_combine) (maxL := 6) (ret := (some .boolean)) (by decide) rfl ?_
  intro p e s m args below meth c s₁ B hml hv
  obtain ⟨rfl, hsz, hP, hK, htb⟩ := hv
  have hx := B.exec
  have hb := B.bytes
  have hr := B.returns
  have hts := atoms_spec (ws := wsX1_combine) B.pre
  have hown : s.vm.findClass RX1 = some m.cls := findClass_of_methodNamed B.named
  have hlocks := B.notSynchronized
  subst hsz
  generalize hAe : fr ad s.heap.size = A at htb ⊢
  have hA : ∀ q : Nat, s.heap.size ≤ q → A q := fun q h => by rw [← hAe]; exact fr_new q h
  have hao : aok A ad := by rw [← hAe]; exact aok_fr hao
  obtain ⟨⟨tt, hZ, hT⟩, hNst⟩ := id htb
  have hS : va_S A s.heap s.heap [] := va_S.rf
  have hl := lv_entry ([.ref (ad 0), .int k, .int op, .int a, .int b]) (n := 6) (Nat.le_of_ble_eq_true rfl)
  rw [lg_entry_eq]
  generalize (lg_sl ([.ref (ad 0), .int k, .int op, .int a, .int b]) ++ List.replicate (6 - (lg_sl ([.ref (ad 0), .int k, .int op, .int a, .int b])).length) Slot.unset).toArray = ls at hl ⊢
  have hl : lv_has ls 6 [(0, .ref (ad 0)), (1, .int k), (2, .int op), (3, .int a), (4, .int b)] := hl
  have hnw := nw_le hN
  have hnwp := nw_pos N
  have hpw := pw_le N
  have hpwp := pw_pos N
  have hnp := np_le hN
  refine lv_iload_n hx hb dX1_combine_0 rfl (lv_at hl 1 rfl) ?_
  refine va_calli (va_runS (As := [.int k]) (rest := []) ⟨hx, hb, hml, hown, hts⟩ (c_isRegister l D _ k) (va_cwS 1 hts gX1_combine_X1_isRegister rfl rfl rfl (by decide +kernel) ⟨Nat.le_of_ble_eq_true rfl, Nat.le_of_ble_eq_true rfl⟩) ⟨wp0_blind, fun U hU hW => wp0_of (va_P.sub hP [] rfl) (hK.sub [] rfl) htb hS no_in hU hW⟩ rfl rfl hl.1 rfl (lv_room (Nat.le_of_ble_eq_true rfl)) dX1_combine_1 ⟨Nat.zero_le _, Nat.zero_le _⟩) hS (fun q _ h => h.elim) (fun q h => h.elim) (fun r_1 u_1 t H1 locs ht hvm hw hB hz1 hk1 hS => ?_)
  have hP := xa_same hP hk1
  clear hz1 hk1 hB ht
  generalize H1 = H at hP hS ⊢
  subst hw
  refine xa_if0 (tgt := 31) hx hb dX1_combine_4 (by decide) (fun c_4 => ?_) (fun c_4 => ?_)
  · refine lv_iconst (v := nI 0) hx hb dX1_combine_31 (by decide) ?_
    exact W.zret (v := (nI 0)) hx hb hr (by decide) (fun t ht hW => ⟨⟨(nI 0), (dr, re, tu, kd, uh, bf, la, G), rfl, ⟨by rw [(show spM g k op a b = none from if_neg (by simp [isO, c_4]))]; rfl, by rw [(show spM g k op a b = none from if_neg (by simp [isO, c_4]))]; exact hg⟩, (by show va_P _ _ _ _; rw [ht]; exact hP)⟩, hS.F ht⟩) hS.2.2 dX1_combine_32
  · refine lv_iload_n hx hb dX1_combine_7 rfl (lv_at hl 2 rfl) ?_
    refine lv_if_lt (tgt := 31) hx hb dX1_combine_8 (by decide) (fun c_8 => ?_) (fun c_8 => ?_)
    · refine lv_iconst (v := nI 0) hx hb dX1_combine_31 (by decide) ?_
      exact W.zret (v := (nI 0)) hx hb hr (by decide) (fun t ht hW => ⟨⟨(nI 0), (dr, re, tu, kd, uh, bf, la, G), rfl, ⟨by rw [(show spM g k op a b = none from if_neg (by simp [isO, c_4, c_8]))]; rfl, by rw [(show spM g k op a b = none from if_neg (by simp [isO, c_4, c_8]))]; exact hg⟩, (by show va_P _ _ _ _; rw [ht]; exact hP)⟩, hS.F ht⟩) hS.2.2 dX1_combine_32
    · refine lv_iload_n hx hb dX1_combine_11 rfl (lv_at hl 2 rfl) ?_
      refine lv_iconst (v := nI 3) hx hb dX1_combine_12 (by decide) ?_
      refine lv_icmp_gt (tgt := 31) hx hb dX1_combine_13 (by decide) (fun c_13 => ?_) (fun c_13 => ?_)
      · refine lv_iconst (v := nI 0) hx hb dX1_combine_31 (by decide) ?_
        exact W.zret (v := (nI 0)) hx hb hr (by decide) (fun t ht hW => ⟨⟨(nI 0), (dr, re, tu, kd, uh, bf, la, G), rfl, ⟨by rw [(show spM g k op a b = none from if_neg (by simp [isO, c_4, c_8, c_13]))]; rfl, by rw [(show spM g k op a b = none from if_neg (by simp [isO, c_4, c_8, c_13]))]; exact hg⟩, (by show va_P _ _ _ _; rw [ht]; exact hP)⟩, hS.F ht⟩) hS.2.2 dX1_combine_32
      · refine lv_iload_n hx hb dX1_combine_16 rfl (lv_at hl 3 rfl) ?_
        refine va_calli (va_runS (As := [.int a]) (rest := []) ⟨hx, hb, hml, hown, hts⟩ (c_isRegister l D _ a) (va_cwS 1 hts gX1_combine_X1_isRegister rfl rfl rfl (by decide +kernel) ⟨Nat.le_of_ble_eq_true rfl, Nat.le_of_ble_eq_true rfl⟩) ⟨wp0_blind, fun U hU hW => wp0_of (va_P.sub hP [] rfl) (hK.sub [] rfl) htb hS no_in hU hW⟩ rfl rfl hl.1 rfl (lv_room (Nat.le_of_ble_eq_true rfl)) dX1_combine_17 ⟨Nat.zero_le _, Nat.zero_le _⟩) hS (fun q _ h => h.elim) (fun q h => h.elim) (fun r_17 u_17 t H1 locs ht hvm hw hB hz1 hk1 hS => ?_)
        have hP := xa_same hP hk1
        clear hz1 hk1 hB ht
        generalize H1 = H at hP hS ⊢
        subst hw
        refine xa_if0 (tgt := 31) hx hb dX1_combine_20 (by decide) (fun c_20 => ?_) (fun c_20 => ?_)
        · refine lv_iconst (v := nI 0) hx hb dX1_combine_31 (by decide) ?_
          exact W.zret (v := (nI 0)) hx hb hr (by decide) (fun t ht hW => ⟨⟨(nI 0), (dr, re, tu, kd, uh, bf, la, G), rfl, ⟨by rw [(show spM g k op a b = none from if_neg (by simp [isO, c_4, c_8, c_13, c_20]))]; rfl, by rw [(show spM g k op a b = none from if_neg (by simp [isO, c_4, c_8, c_13, c_20]))]; exact hg⟩, (by show va_P _ _ _ _; rw [ht]; exact hP)⟩, hS.F ht⟩) hS.2.2 dX1_combine_32
        · refine lv_iload hx hb dX1_combine_23 (lv_at hl 4 rfl) ?_
          refine va_calli (va_runS (As := [.int b]) (rest := []) ⟨hx, hb, hml, hown, hts⟩ (c_isRegister l D _ b) (va_cwS 1 hts gX1_combine_X1_isRegister rfl rfl rfl (by decide +kernel) ⟨Nat.le_of_ble_eq_true rfl, Nat.le_of_ble_eq_true rfl⟩) ⟨wp0_blind, fun U hU hW => wp0_of (va_P.sub hP [] rfl) (hK.sub [] rfl) htb hS no_in hU hW⟩ rfl rfl hl.1 rfl (lv_room (Nat.le_of_ble_eq_true rfl)) dX1_combine_25 ⟨Nat.zero_le _, Nat.zero_le _⟩) hS (fun q _ h => h.elim) (fun q h => h.elim) (fun r_25 u_25 t H1 locs ht hvm hw hB hz1 hk1 hS => ?_)
          have hP := xa_same hP hk1
          clear hz1 hk1 hB ht
          generalize H1 = H at hP hS ⊢
          subst hw
          refine xa_if1 (tgt := 33) hx hb dX1_combine_28 (by decide) (fun c_28 => ?_) (fun c_28 => ?_)
          · have hO : isO op = true := decide_eq_true ⟨c_8, c_13⟩
            obtain ⟨j, hj, ej⟩ := isR_t c_4
            rw [ej] at hl
            obtain ⟨o, ho, eo⟩ := isO_t hO
            rw [eo] at hl
            obtain ⟨x1, hx1, ex1⟩ := isR_t c_20
            rw [ex1] at hl
            obtain ⟨x2, hx2, ex2⟩ := isR_t c_28
            rw [ex2] at hl
            have hsp : spM g k op a b = some (va_up g j (fun p => cmg o (g x1 p) (g x2 p))) := by unfold spM; rw [if_pos (by rw [c_4, hO, c_20, c_28]; rfl), ej, eo, ex1, ex2, ix_nI (by omega), ix_nI (by omega), ix_nI (by omega), ix_nI (by omega)]
            refine lv_iconst (v := nI 0) hx hb dX1_combine_33 (by decide) ?_
            refine lv_istore (lv' := [(5, .int (nI 0)), (0, .ref (ad 0)), (1, .int (nI j)), (2, .int (nI o)), (3, .int (nI x1)), (4, .int (nI x2))]) hx hb dX1_combine_34 hl (by decide) rfl (fun ls hl => ?_)
            have lp_36 : ∀ (n9 w : Nat) (G2 : Nat → Nat → Int64) (H : Heap) (locs : List Loc) (ls : Array Slot), w ≤ nw N → nw N + 1 ≤ w + n9 → (∃ r, G2 = va_up G j r ∧ (∀ x, w ≤ x → r x = G j x) ∧ ∀ x, x < w → r x = cmb o (G x1 x) (G x2 x)) → va_P D vwCl (dkW N ad cJJ cJ cI dr re tu kd uh bf la G2) H → va_S A s.heap H locs → lv_has ls 6 [(0, .ref (ad 0)), (1, .int (nI j)), (2, .int (nI o)), (3, .int (nI x1)), (4, .int (nI x2)), (5, .int (nI w))] → W p l e (headSpec wsX1_combine ({ frames := 1, cells := 0, slots := 0, locals := 24 } : Room)).room s m ([.ref (ad 0), .int k, .int op, .int a, .int b] : List Value).toArray below meth c H locs 0 0 (MQ below (va_Qi (fun (r : Int32) (u : dkS) => r = nI (spM g k op a b).isSome.toNat ∧ okG N (dkR u) ((spM g k op a b).getD g)) (fun (u : dkS) t => va_P D vwCl (dkU N ad cJJ cJ cI u) t.heap) A) ([.ref (ad 0), .int k, .int op, .int a, .int b] : List Value).toArray s 0 0 A) (F0 m 36 ls []) := by
              intro n9
              induction n9 with
              | zero => intro w G2 H locs ls h1 h2; exact absurd h2 (by omega)
              | succ n9 ih =>
                intro w G2 H locs ls hle_36 hmm_36 hI hP hS hl
                have hrow : ∀ z, G2 z w = G z w := fun z => by obtain ⟨r, h1, h3, h2⟩ := hI; subst h1; by_cases hz : z = j; (subst hz; rw [va_up_self]; exact h3 w (Nat.le_refl w)); (rw [va_up_ne _ _ hz])
                have ih_36 := @ih
                refine lv_iload hx hb dX1_combine_36 (lv_at hl 5 rfl) ?_
                refine lv_aload_n hx hb dX1_combine_38 rfl (lv_at hl 0 rfl) ?_
                refine va_get (D := D) (ci := 1) (C := RX1) (T := TX1) (N := 10) hx hb hts (by decide +kernel) hown hK hP 0 rfl rfl 2 (by decide) (hts (.fieldLink RX1 25 "ForkDesk" "words" "I") (by decide +kernel)) (fun _ h9 => h9) rfl dX1_combine_39 ?_
                refine xa_ge (tgt := 83) hx hb (by omega) (by omega) dX1_combine_42 (by decide) (fun c_42 => ?_) (fun c_42 => ?_)
                · refine lv_iconst (v := nI 1) hx hb dX1_combine_83 (by decide) ?_
                  exact W.zret (v := (nI 1)) hx hb hr (by decide) (fun t ht hW => ⟨⟨(nI 1), (dr, re, tu, kd, uh, bf, la, G2), rfl, ⟨by rw [hsp]; rfl, by rw [hsp]; exact (by obtain ⟨r, h1, h3, h2⟩ := hI; subst h1; exact okG_up hg (rp_cmb (hg x1 hx1).1 (hg x2 hx2).1 (fun x hx => h2 x (by omega))) (dm_cmb (hg x1 hx1).2 (hg x2 hx2).2))⟩, (by show va_P _ _ _ _; rw [ht]; exact hP)⟩, hS.F ht⟩) hS.2.2 dX1_combine_84
                · refine lv_aload_n hx hb dX1_combine_45 rfl (lv_at hl 0 rfl) ?_
                  refine va_get (D := D) (ci := 1) (C := RX1) (T := TX1) (N := 10) hx hb hts (by decide +kernel) hown hK hP 0 rfl rfl 5 (by decide) (hts (.fieldLink RX1 39 "ForkDesk" "registers" "[[J") (by decide +kernel)) (fun _ h9 => h9) rfl dX1_combine_46 ?_
                  refine lv_iload_n hx hb dX1_combine_49 rfl (lv_at hl 1 rfl) ?_
                  refine xa_aald hx hb hK hP 1 0 rfl rfl (w := j) (y := ad (10 + j)) (by omega) (by decide) rfl dX1_combine_50 ?_
                  refine lv_iload hx hb dX1_combine_51 (lv_at hl 5 rfl) ?_
                  refine lv_iload_n hx hb dX1_combine_53 rfl (lv_at hl 2 rfl) ?_
                  refine lv_aload_n hx hb dX1_combine_54 rfl (lv_at hl 0 rfl) ?_
                  refine va_get (D := D) (ci := 1) (C := RX1) (T := TX1) (N := 10) hx hb hts (by decide +kernel) hown hK hP 0 rfl rfl 5 (by decide) (hts (.fieldLink RX1 39 "ForkDesk" "registers" "[[J") (by decide +kernel)) (fun _ h9 => h9) rfl dX1_combine_55 ?_
                  refine lv_iload_n hx hb dX1_combine_58 rfl (lv_at hl 3 rfl) ?_
                  refine xa_aald hx hb hK hP 1 0 rfl rfl (w := x1) (y := ad (10 + x1)) (by omega) (by decide) rfl dX1_combine_59 ?_
                  refine lv_iload hx hb dX1_combine_60 (lv_at hl 5 rfl) ?_
                  refine xa_lald hx hb hK hP (10 + x1) 1 (dk_row (by omega)) rfl (w := w) (by omega) (by omega) dX1_combine_62 ?_
                  refine lv_aload_n hx hb dX1_combine_63 rfl (lv_at hl 0 rfl) ?_
                  refine va_get (D := D) (ci := 1) (C := RX1) (T := TX1) (N := 10) hx hb hts (by decide +kernel) hown hK hP 0 rfl rfl 5 (by decide) (hts (.fieldLink RX1 39 "ForkDesk" "registers" "[[J") (by decide +kernel)) (fun _ h9 => h9) rfl dX1_combine_64 ?_
                  refine lv_iload hx hb dX1_combine_67 (lv_at hl 4 rfl) ?_
                  refine xa_aald hx hb hK hP 1 0 rfl rfl (w := x2) (y := ad (10 + x2)) (by omega) (by decide) rfl dX1_combine_69 ?_
                  refine lv_iload hx hb dX1_combine_70 (lv_at hl 5 rfl) ?_
                  refine xa_lald hx hb hK hP (10 + x2) 1 (dk_row (by omega)) rfl (w := w) (by omega) (by omega) dX1_combine_72 ?_
                  refine va_calll (va_runS (As := [.int (nI o), .long (G2 x1 w), .long (G2 x2 w)]) (rest := [.int (nI w), .ref (ad (10 + j))]) ⟨hx, hb, hml, hown, hts⟩ (c_combined l D _ o (by omega) (G2 x1 w) (G2 x2 w)) (va_cwS 3 hts gX1_combine_X1_combined rfl rfl rfl (by decide +kernel) ⟨Nat.le_of_ble_eq_true rfl, Nat.le_of_ble_eq_true rfl⟩) ⟨wp0_blind, fun U hU hW => wp0_of (va_P.sub hP [] rfl) (hK.sub [] rfl) htb hS no_in hU hW⟩ rfl rfl hl.1 rfl (lv_room (Nat.le_of_ble_eq_true rfl)) dX1_combine_73 ⟨Nat.zero_le _, Nat.zero_le _⟩) hS (fun q _ h => h.elim) (fun q h => h.elim) (fun r_73 u_73 t H1 locs ht hvm hw hB hz1 hk1 hS => ?_)
                  have hP := xa_same hP hk1
                  clear hz1 hk1 hB ht
                  generalize H1 = H at hP hS ⊢
                  subst hw
                  refine xa_last hx hb hK hP (dk_D hao) hS (10 + j) 1 (dk_row (by omega)) rfl (w := w) (by omega) (by omega) dX1_combine_76 (fun H locs hP _ hS => ?_)
                  rw [dk_set _ (by omega)] at hP
                  refine xa_inc (k := 5) (lv' := [(5, .int (nI (w + 1))), (0, .ref (ad 0)), (1, .int (nI j)), (2, .int (nI o)), (3, .int (nI x1)), (4, .int (nI x2))]) hx hb dX1_combine_77 hl rfl (by decide) rfl (fun ls hl => ?_)
                  refine lv_goto (tgt := 36) hx hb dX1_combine_80 (by decide) ?_
                  exact ih_36 (w + 1) (va_up G2 j (vp_updL (G2 j) w (cmb o (G2 x1 w) (G2 x2 w)))) _ _ _ (by omega) (by omega) (by obtain ⟨r, h1, h3, h2⟩ := hI; subst h1; refine ⟨_, va_upup _ _ _ _, fun x hx => by rw [va_up_self, pk_uLn (by omega)]; exact h3 x (by omega), fun x hx => ?_⟩; rw [va_up_self]; by_cases hxw : x = w; (subst hxw; rw [pk_uLs, hrow, hrow]); (rw [pk_uLn hxw]; exact h2 x (by omega))) hP hS (lv_sub hl [1, 2, 3, 4, 5, 0] rfl)
            exact lp_36 (nw N + 1 - 0) 0 G _ _ _ (by omega) (by omega) ⟨G j, (va_same G j).symm, fun x _ => rfl, fun x hx => absurd hx (by omega)⟩ hP hS (lv_sub hl [1, 2, 3, 4, 5, 0] rfl)
          · refine lv_iconst (v := nI 0) hx hb dX1_combine_31 (by decide) ?_
            exact W.zret (v := (nI 0)) hx hb hr (by decide) (fun t ht hW => ⟨⟨(nI 0), (dr, re, tu, kd, uh, bf, la, G), rfl, ⟨by rw [(show spM g k op a b = none from if_neg (by simp [isO, c_4, c_8, c_13, c_20, c_28]))]; rfl, by rw [(show spM g k op a b = none from if_neg (by simp [isO, c_4, c_8, c_13, c_20, c_28]))]; exact hg⟩, (by show va_P _ _ _ _; rw [ht]; exact hP)⟩, hS.F ht⟩) hS.2.2 dX1_combine_32
