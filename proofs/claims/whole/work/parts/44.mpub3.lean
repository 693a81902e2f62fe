set_option maxHeartbeats 4000000 in
set_option maxRecDepth 100000 in
/-- the reference: choose -/
theorem c_mChoose (l : Launch) (D : va_G) (sz : Nat) (N : Nat) (hN1 : 1 ≤ N) (hN : N ≤ 12) (bd : Nat → Nat) (hao : aok4 (fun _ => True) bd) (cZ cI : ClassId) (th : Int32) (rb mb : Nat → Bool) (pt : Nat → Int32) (g : Nat → Nat → Bool) (hg : okM N rb g) (k a b c1 : Int32) : Met l yX2_choose wsX2_choose ({ frames := 1, cells := 0, slots := 0, locals := 22 } : Room) (va_Pc [.ref (bd 0), .int k, .int a, .int b, .int c1] (wp0 D (mdW N bd cZ cI th rb mb pt) (mdT cZ cI) (fr4 bd sz) sz)) (va_Qi (fun (r : Int32) (u : (Nat → Bool) × (Nat → Bool) × (Nat → Int32)) => r = nI (spH g k a b c1).isSome.toNat ∧ okM N u.1 ((spH g k a b c1).getD g)) (fun (u : (Nat → Bool) × (Nat → Bool) × (Nat → Int32)) t => va_P D vwCl (mdW N bd cZ cI (nI 0) u.1 u.2.1 u.2.2) t.heap) (fr4 bd sz)) 0 0 (fr4 bd sz) := by
  refine Met.ofW (cc := cX2_choose) (maxL := 6) (ret := (some .boolean)) (by decide) rfl ?_
  intro p e s m args below meth c s₁ B hml hv
  obtain ⟨rfl, hsz, hP, hK, htb⟩ := hv
  have hx := B.exec
  have hb := B.bytes
  have hr := B.returns
  have hts := atoms_spec (ws := wsX2_choose) B.pre
  have hown : s.vm.findClass RX2 = some m.cls := findClass_of_methodNamed B.named
  have hlocks := B.notSynchronized
  subst hsz
  generalize hAe : fr4 bd s.heap.size = A at htb ⊢
  have hA : ∀ q : Nat, s.heap.size ≤ q → A q := fun q h => by rw [← hAe]; exact fr4_new q h
  have hao : aok4 A bd := by rw [← hAe]; exact aok4_fr hao
  obtain ⟨⟨tt, hZ, hT⟩, hNst⟩ := id htb
  have hS : va_S A s.heap s.heap [] := va_S.rf
  have hl := lv_entry ([.ref (bd 0), .int k, .int a, .int b, .int c1]) (n := 6) (Nat.le_of_ble_eq_true rfl)
  rw [lg_entry_eq]
  generalize (lg_sl ([.ref (bd 0), .int k, .int a, .int b, .int c1]) ++ List.replicate (6 - (lg_sl ([.ref (bd 0), .int k, .int a, .int b, .int c1])).length) Slot.unset).toArray = ls at hl ⊢
  have hl : lv_has ls 6 [(0, .ref (bd 0)), (1, .int k), (2, .int a), (3, .int b), (4, .int c1)] := hl
  have hnp := np_le hN
  have hnp0 : 0 < 2 ^ N := Nat.two_pow_pos N
  refine lv_aload_n hx hb dX2_choose_0 rfl (lv_at hl 0 rfl) ?_
  refine lv_iconst (v := nI 0) hx hb dX2_choose_1 (by decide) ?_
  refine va_put (D := D) (ci := 2) (v := .int (nI 0)) (ty := .int) (C := RX2) (T := TX2) (N := 6) hx hb hts (fun w h => List.mem_cons_of_mem _ (inBX2 w h)) tyX2 tyX2_ok nmX2 hown hK hP (md_D hao) hS 0 rfl rfl 0 (by decide) (hts (.fieldLink RX2 28 "ForkDeskModel" "thrown" "I") (by decide +kernel)) (fun _ h9 => h9) rfl (by decide +kernel) rfl rfl (Nat.le_of_ble_eq_true rfl) dX2_choose_2 (fun H locs hP _ hS => ?_)
  have hP : va_P D vwCl (mdW N bd cZ cI (nI 0) rb mb pt) H := hP
  refine lv_iload_n hx hb dX2_choose_5 rfl (lv_at hl 1 rfl) ?_
  refine va_calli (va_runS (As := [.int k]) (rest := []) ⟨hx, hb, hml, hown, hts⟩ (c_isRow l D _ k) (va_cwS 1 hts (goodIn_mono gX2_isRow) rfl rfl rfl (by decide +kernel) ⟨Nat.le_of_ble_eq_true rfl, Nat.le_of_ble_eq_true rfl⟩) ⟨wp0_blind, fun U hU hW => wp0_of (va_P.sub hP [] rfl) (hK.sub [] rfl) htb hS no_in hU hW⟩ rfl rfl hl.1 rfl (lv_room (Nat.le_of_ble_eq_true rfl)) dX2_choose_6 ⟨Nat.zero_le _, Nat.zero_le _⟩) hS (fun q _ h => h.elim) (fun q h => h.elim) (fun r_6 u_6 t H1 locs ht hvm hw hB hz1 hk1 hS => ?_)
  have hP := xa_same hP hk1
  clear hz1 hk1 hB ht
  generalize H1 = H at hP hS ⊢
  subst hw
  refine xa_if0 (tgt := 34) hx hb dX2_choose_9 (by decide) (fun c_9 => ?_) (fun c_9 => ?_)
  · refine lv_iconst (v := nI 0) hx hb dX2_choose_34 (by decide) ?_
    exact W.zret (v := (nI 0)) hx hb hr (by decide) (fun t ht hW => ⟨⟨(nI 0), (rb, mb, pt), rfl, ⟨by rw [(show spH g k a b c1 = none from if_neg (by simp [c_9]))]; rfl, by rw [(show spH g k a b c1 = none from if_neg (by simp [c_9]))]; exact hg⟩, (by show va_P _ _ _ _; rw [ht]; exact hP)⟩, hS.F ht⟩) hS.2.2 dX2_choose_35
  · refine lv_iload_n hx hb dX2_choose_12 rfl (lv_at hl 2 rfl) ?_
    refine va_calli (va_runS (As := [.int a]) (rest := []) ⟨hx, hb, hml, hown, hts⟩ (c_isRow l D _ a) (va_cwS 1 hts (goodIn_mono gX2_isRow) rfl rfl rfl (by decide +kernel) ⟨Nat.le_of_ble_eq_true rfl, Nat.le_of_ble_eq_true rfl⟩) ⟨wp0_blind, fun U hU hW => wp0_of (va_P.sub hP [] rfl) (hK.sub [] rfl) htb hS no_in hU hW⟩ rfl rfl hl.1 rfl (lv_room (Nat.le_of_ble_eq_true rfl)) dX2_choose_13 ⟨Nat.zero_le _, Nat.zero_le _⟩) hS (fun q _ h => h.elim) (fun q h => h.elim) (fun r_13 u_13 t H1 locs ht hvm hw hB hz1 hk1 hS => ?_)
    have hP := xa_same hP hk1
    clear hz1 hk1 hB ht
    generalize H1 = H at hP hS ⊢
    subst hw
    refine xa_if0 (tgt := 34) hx hb dX2_choose_16 (by decide) (fun c_16 => ?_) (fun c_16 => ?_)
    · refine lv_iconst (v := nI 0) hx hb dX2_choose_34 (by decide) ?_
      exact W.zret (v := (nI 0)) hx hb hr (by decide) (fun t ht hW => ⟨⟨(nI 0), (rb, mb, pt), rfl, ⟨by rw [(show spH g k a b c1 = none from if_neg (by simp [c_9, c_16]))]; rfl, by rw [(show spH g k a b c1 = none from if_neg (by simp [c_9, c_16]))]; exact hg⟩, (by show va_P _ _ _ _; rw [ht]; exact hP)⟩, hS.F ht⟩) hS.2.2 dX2_choose_35
    · refine lv_iload_n hx hb dX2_choose_19 rfl (lv_at hl 3 rfl) ?_
      refine va_calli (va_runS (As := [.int b]) (rest := []) ⟨hx, hb, hml, hown, hts⟩ (c_isRow l D _ b) (va_cwS 1 hts (goodIn_mono gX2_isRow) rfl rfl rfl (by decide +kernel) ⟨Nat.le_of_ble_eq_true rfl, Nat.le_of_ble_eq_true rfl⟩) ⟨wp0_blind, fun U hU hW => wp0_of (va_P.sub hP [] rfl) (hK.sub [] rfl) htb hS no_in hU hW⟩ rfl rfl hl.1 rfl (lv_room (Nat.le_of_ble_eq_true rfl)) dX2_choose_20 ⟨Nat.zero_le _, Nat.zero_le _⟩) hS (fun q _ h => h.elim) (fun q h => h.elim) (fun r_20 u_20 t H1 locs ht hvm hw hB hz1 hk1 hS => ?_)
      have hP := xa_same hP hk1
      clear hz1 hk1 hB ht
      generalize H1 = H at hP hS ⊢
      subst hw
      refine xa_if0 (tgt := 34) hx hb dX2_choose_23 (by decide) (fun c_23 => ?_) (fun c_23 => ?_)
      · refine lv_iconst (v := nI 0) hx hb dX2_choose_34 (by decide) ?_
        exact W.zret (v := (nI 0)) hx hb hr (by decide) (fun t ht hW => ⟨⟨(nI 0), (rb, mb, pt), rfl, ⟨by rw [(show spH g k a b c1 = none from if_neg (by simp [c_9, c_16, c_23]))]; rfl, by rw [(show spH g k a b c1 = none from if_neg (by simp [c_9, c_16, c_23]))]; exact hg⟩, (by show va_P _ _ _ _; rw [ht]; exact hP)⟩, hS.F ht⟩) hS.2.2 dX2_choose_35
      · refine lv_iload hx hb dX2_choose_26 (lv_at hl 4 rfl) ?_
        refine va_calli (va_runS (As := [.int c1]) (rest := []) ⟨hx, hb, hml, hown, hts⟩ (c_isRow l D _ c1) (va_cwS 1 hts (goodIn_mono gX2_isRow) rfl rfl rfl (by decide +kernel) ⟨Nat.le_of_ble_eq_true rfl, Nat.le_of_ble_eq_true rfl⟩) ⟨wp0_blind, fun U hU hW => wp0_of (va_P.sub hP [] rfl) (hK.sub [] rfl) htb hS no_in hU hW⟩ rfl rfl hl.1 rfl (lv_room (Nat.le_of_ble_eq_true rfl)) dX2_choose_28 ⟨Nat.zero_le _, Nat.zero_le _⟩) hS (fun q _ h => h.elim) (fun q h => h.elim) (fun r_28 u_28 t H1 locs ht hvm hw hB hz1 hk1 hS => ?_)
        have hP := xa_same hP hk1
        clear hz1 hk1 hB ht
        generalize H1 = H at hP hS ⊢
        subst hw
        refine xa_if1 (tgt := 36) hx hb dX2_choose_31 (by decide) (fun c_31 => ?_) (fun c_31 => ?_)
        · obtain ⟨j, hj, ej⟩ := isR_t c_9
          rw [ej] at hl
          obtain ⟨x1, hx1, ex1⟩ := isR_t c_16
          rw [ex1] at hl
          obtain ⟨x2, hx2, ex2⟩ := isR_t c_23
          rw [ex2] at hl
          obtain ⟨x3, hx3, ex3⟩ := isR_t c_31
          rw [ex3] at hl
          have hsp : spH g k a b c1 = some (va_up g j (fun p => if g x1 p = true then g x2 p else g x3 p)) := by unfold spH; rw [if_pos (by rw [c_9, c_16, c_23, c_31]; rfl), ej, ex1, ex2, ex3, ix_nI (by omega), ix_nI (by omega), ix_nI (by omega), ix_nI (by omega)]
          refine lv_iconst (v := nI 0) hx hb dX2_choose_36 (by decide) ?_
          refine lv_istore (lv' := [(5, .int (nI 0)), (0, .ref (bd 0)), (1, .int (nI j)), (2, .int (nI x1)), (3, .int (nI x2)), (4, .int (nI x3))]) hx hb dX2_choose_37 hl (by decide) rfl (fun ls hl => ?_)
          have lp_39 : ∀ (n9 w : Nat) (m2 : Nat → Bool) (H : Heap) (locs : List Loc) (ls : Array Slot), w ≤ 2 ^ N → 2 ^ N + 1 ≤ w + n9 → (∀ z, z < w → m2 z = if rb (4096 * x1 + z) = true then rb (4096 * x2 + z) else rb (4096 * x3 + z)) → va_P D vwCl (mdW N bd cZ cI (nI 0) rb m2 pt) H → va_S A s.heap H locs → lv_has ls 6 [(0, .ref (bd 0)), (1, .int (nI j)), (2, .int (nI x1)), (3, .int (nI x2)), (4, .int (nI x3)), (5, .int (nI w))] → W p l e (headSpec wsX2_choose ({ frames := 1, cells := 0, slots := 0, locals := 22 } : Room)).room s m ([.ref (bd 0), .int k, .int a, .int b, .int c1] : List Value).toArray below meth c H locs 0 0 (MQ below (va_Qi (fun (r : Int32) (u : (Nat → Bool) × (Nat → Bool) × (Nat → Int32)) => r = nI (spH g k a b c1).isSome.toNat ∧ okM N u.1 ((spH g k a b c1).getD g)) (fun (u : (Nat → Bool) × (Nat → Bool) × (Nat → Int32)) t => va_P D vwCl (mdW N bd cZ cI (nI 0) u.1 u.2.1 u.2.2) t.heap) A) ([.ref (bd 0), .int k, .int a, .int b, .int c1] : List Value).toArray s 0 0 A) (F0 m 39 ls []) := by
            intro n9
            induction n9 with
            | zero => intro w m2 H locs ls h1 h2; exact absurd h2 (by omega)
            | succ n9 ih =>
              intro w m2 H locs ls hle_39 hmm_39 hI hP hS hl
              have ih_39 := @ih
              refine lv_iload hx hb dX2_choose_39 (lv_at hl 5 rfl) ?_
              refine lv_aload_n hx hb dX2_choose_41 rfl (lv_at hl 0 rfl) ?_
              refine va_get (D := D) (ci := 2) (C := RX2) (T := TX2) (N := 6) hx hb hts (fun w h => List.mem_cons_of_mem _ (inBX2 w h)) hown hK hP 0 rfl rfl 2 (by decide) (hts (.fieldLink RX2 25 "ForkDeskModel" "points" "I") (by decide +kernel)) (fun _ h9 => h9) rfl dX2_choose_42 ?_
              refine xa_ge (tgt := 89) hx hb (by omega) (by omega) dX2_choose_45 (by decide) (fun c_45 => ?_) (fun c_45 => ?_)
              · refine lv_aload_n hx hb dX2_choose_89 rfl (lv_at hl 0 rfl) ?_
                refine lv_iload_n hx hb dX2_choose_90 rfl (lv_at hl 1 rfl) ?_
                refine va_calli (va_runV (As := [.int (nI j)]) (rest := []) ⟨hx, hb, hml, hown, hts⟩ (c_keep l D _ N hN1 hN bd (aok4_true hao) cZ cI (nI 0) rb m2 pt j (by omega)) (cwV 1 hts (goodIn_mono gX2_keep) rfl rfl rfl (by decide +kernel) ⟨Nat.le_of_ble_eq_true rfl, Nat.le_of_ble_eq_true rfl⟩) ⟨wp0_blind, va_recv hK hP (ci := 2) (q0 := 0) rfl rfl, fun U hU hW => wp0_of hP hK htb hS (fr4_in hao hS hA) hU hW⟩ rfl rfl hl.1 rfl (lv_room (Nat.le_of_ble_eq_true rfl)) dX2_choose_91 ⟨Nat.zero_le _, Nat.zero_le _⟩) hS (fun q _ h => (fr4_in hao hS hA) q h) ((fr4_in hao hS hA)) (fun r_91 u_91 t H1 locs ht hvm hw hB hz1 hk1 hS => ?_)
                rw [ht] at hB
                obtain ⟨hw1, hw2⟩ := hw
                subst hw1
                subst hw2
                have hP := hB
                clear hz1 hk1 hB ht
                generalize H1 = H at hP hS ⊢
                exact W.zret (v := (nI 1)) hx hb hr (by decide) (fun t ht hW => ⟨⟨(nI 1), (kpt rb m2 j (2 ^ N), m2, pt), rfl, ⟨by rw [hsp]; rfl, by rw [hsp]; exact (okM_up hN hg hj (fun z hz => by rw [hI z (by omega), hg x1 z hx1 hz, hg x2 z hx2 hz, hg x3 z hx3 hz]))⟩, (by show va_P _ _ _ _; rw [ht]; exact hP)⟩, hS.F ht⟩) hS.2.2 dX2_choose_94
              · refine lv_aload_n hx hb dX2_choose_48 rfl (lv_at hl 0 rfl) ?_
                refine va_get (D := D) (ci := 2) (C := RX2) (T := TX2) (N := 6) hx hb hts (fun w h => List.mem_cons_of_mem _ (inBX2 w h)) hown hK hP 0 rfl rfl 4 (by decide) (hts (.fieldLink RX2 14 "ForkDeskModel" "made" "[Z") (by decide +kernel)) (fun _ h9 => h9) rfl dX2_choose_49 ?_
                refine lv_iload hx hb dX2_choose_52 (lv_at hl 5 rfl) ?_
                refine lv_aload_n hx hb dX2_choose_54 rfl (lv_at hl 0 rfl) ?_
                refine lv_iload_n hx hb dX2_choose_55 rfl (lv_at hl 2 rfl) ?_
                refine lv_iload hx hb dX2_choose_56 (lv_at hl 5 rfl) ?_
                refine va_calli (va_runV (As := [.int (nI x1), .int (nI w)]) (rest := [.int (nI w), .ref (bd 2)]) ⟨hx, hb, hml, hown, hts⟩ (c_has l D _ N bd cZ (nI 0) rb x1 w (by omega)) (cwV 2 hts (goodIn_mono gX2_has) rfl rfl rfl (by decide +kernel) ⟨Nat.le_of_ble_eq_true rfl, Nat.le_of_ble_eq_true rfl⟩) ⟨wp0_blind, va_recv hK hP (ci := 2) (q0 := 0) rfl rfl, fun U hU hW => wp0_of (hP.sub [0, 1] rfl) (hK.sub [0] rfl) htb hS no_in hU hW⟩ rfl rfl hl.1 rfl (lv_room (Nat.le_of_ble_eq_true rfl)) dX2_choose_58 ⟨Nat.zero_le _, Nat.zero_le _⟩) hS (fun q _ h => h.elim) (fun q h => h.elim) (fun r_58 u_58 t H1 locs ht hvm hw hB hz1 hk1 hS => ?_)
                have hP := xa_same hP hk1
                clear hz1 hk1 hB ht
                generalize H1 = H at hP hS ⊢
                subst hw
                refine xa_if0 (tgt := 74) hx hb dX2_choose_61 (by decide) (fun c_61 => ?_) (fun c_61 => ?_)
                · refine lv_aload_n hx hb dX2_choose_74 rfl (lv_at hl 0 rfl) ?_
                  refine lv_iload hx hb dX2_choose_75 (lv_at hl 4 rfl) ?_
                  refine lv_iload hx hb dX2_choose_77 (lv_at hl 5 rfl) ?_
                  refine va_calli (va_runV (As := [.int (nI x3), .int (nI w)]) (rest := [.int (nI w), .ref (bd 2)]) ⟨hx, hb, hml, hown, hts⟩ (c_has l D _ N bd cZ (nI 0) rb x3 w (by omega)) (cwV 2 hts (goodIn_mono gX2_has) rfl rfl rfl (by decide +kernel) ⟨Nat.le_of_ble_eq_true rfl, Nat.le_of_ble_eq_true rfl⟩) ⟨wp0_blind, va_recv hK hP (ci := 2) (q0 := 0) rfl rfl, fun U hU hW => wp0_of (hP.sub [0, 1] rfl) (hK.sub [0] rfl) htb hS no_in hU hW⟩ rfl rfl hl.1 rfl (lv_room (Nat.le_of_ble_eq_true rfl)) dX2_choose_79 ⟨Nat.zero_le _, Nat.zero_le _⟩) hS (fun q _ h => h.elim) (fun q h => h.elim) (fun r_79 u_79 t H1 locs ht hvm hw hB hz1 hk1 hS => ?_)
                  have hP := xa_same hP hk1
                  clear hz1 hk1 hB ht
                  generalize H1 = H at hP hS ⊢
                  subst hw
                  refine xa_zast hx hb hK hP (md_D hao) hS 2 0 rfl rfl (w := w) (b := (rb (4096 * x3 + w))) (by omega) (by omega) dX2_choose_82 (fun H locs hP _ hS => ?_)
                  have hP : va_P D vwCl (mdW N bd cZ cI (nI 0) rb (va_up m2 w (rb (4096 * x3 + w))) pt) H := hP
                  refine xa_inc (k := 5) (lv' := [(5, .int (nI (w + 1))), (0, .ref (bd 0)), (1, .int (nI j)), (2, .int (nI x1)), (3, .int (nI x2)), (4, .int (nI x3))]) hx hb dX2_choose_83 hl rfl (by decide) rfl (fun ls hl => ?_)
                  refine lv_goto (tgt := 39) hx hb dX2_choose_86 (by decide) ?_
                  exact ih_39 (w + 1) (va_up m2 w (rb (4096 * x3 + w))) _ _ _ (by omega) (by omega) (fun z hz => by by_cases hzw : z = w; (subst hzw; rw [va_up_self]; rw [c_61]; rfl); (rw [va_up_ne _ _ hzw]; exact hI z (by omega))) hP hS (lv_sub hl [1, 2, 3, 4, 5, 0] rfl)
                · refine lv_aload_n hx hb dX2_choose_64 rfl (lv_at hl 0 rfl) ?_
                  refine lv_iload_n hx hb dX2_choose_65 rfl (lv_at hl 3 rfl) ?_
                  refine lv_iload hx hb dX2_choose_66 (lv_at hl 5 rfl) ?_
                  refine va_calli (va_runV (As := [.int (nI x2), .int (nI w)]) (rest := [.int (nI w), .ref (bd 2)]) ⟨hx, hb, hml, hown, hts⟩ (c_has l D _ N bd cZ (nI 0) rb x2 w (by omega)) (cwV 2 hts (goodIn_mono gX2_has) rfl rfl rfl (by decide +kernel) ⟨Nat.le_of_ble_eq_true rfl, Nat.le_of_ble_eq_true rfl⟩) ⟨wp0_blind, va_recv hK hP (ci := 2) (q0 := 0) rfl rfl, fun U hU hW => wp0_of (hP.sub [0, 1] rfl) (hK.sub [0] rfl) htb hS no_in hU hW⟩ rfl rfl hl.1 rfl (lv_room (Nat.le_of_ble_eq_true rfl)) dX2_choose_68 ⟨Nat.zero_le _, Nat.zero_le _⟩) hS (fun q _ h => h.elim) (fun q h => h.elim) (fun r_68 u_68 t H1 locs ht hvm hw hB hz1 hk1 hS => ?_)
                  have hP := xa_same hP hk1
                  clear hz1 hk1 hB ht
                  generalize H1 = H at hP hS ⊢
                  subst hw
                  refine lv_goto (tgt := 82) hx hb dX2_choose_71 (by decide) ?_
                  refine xa_zast hx hb hK hP (md_D hao) hS 2 0 rfl rfl (w := w) (b := (rb (4096 * x2 + w))) (by omega) (by omega) dX2_choose_82 (fun H locs hP _ hS => ?_)
                  have hP : va_P D vwCl (mdW N bd cZ cI (nI 0) rb (va_up m2 w (rb (4096 * x2 + w))) pt) H := hP
                  refine xa_inc (k := 5) (lv' := [(5, .int (nI (w + 1))), (0, .ref (bd 0)), (1, .int (nI j)), (2, .int (nI x1)), (3, .int (nI x2)), (4, .int (nI x3))]) hx hb dX2_choose_83 hl rfl (by decide) rfl (fun ls hl => ?_)
                  refine lv_goto (tgt := 39) hx hb dX2_choose_86 (by decide) ?_
                  exact ih_39 (w + 1) (va_up m2 w (rb (4096 * x2 + w))) _ _ _ (by omega) (by omega) (fun z hz => by by_cases hzw : z = w; (subst hzw; rw [va_up_self]; rw [c_61]; rfl); (rw [va_up_ne _ _ hzw]; exact hI z (by omega))) hP hS (lv_sub hl [1, 2, 3, 4, 5, 0] rfl)
          exact lp_39 (2 ^ N + 1 - 0) 0 mb _ _ _ (by omega) (by omega) (fun z hz => absurd hz (by omega)) hP hS (lv_sub hl [1, 2, 3, 4, 5, 0] rfl)
        · refine lv_iconst (v := nI 0) hx hb dX2_choose_34 (by decide) ?_
          exact W.zret (v := (nI 0)) hx hb hr (by decide) (fun t ht hW => ⟨⟨(nI 0), (rb, mb, pt), rfl, ⟨by rw [(show spH g k a b c1 = none from if_neg (by simp [c_9, c_16, c_23, c_31]))]; rfl, by rw [(show spH g k a b c1 = none from if_neg (by simp [c_9, c_16, c_23, c_31]))]; exact hg⟩, (by show va_P _ _ _ _; rw [ht]; exact hP)⟩, hS.F ht⟩) hS.2.2 dX2_choose_35
