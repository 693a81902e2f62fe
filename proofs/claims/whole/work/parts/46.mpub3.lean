set_option maxHeartbeats 4000000 in
set_option maxRecDepth 100000 in
/-- the reference: nearest -/
theorem c_mNearest (l : Launch) (D : va_G) (sz : Nat) (N : Nat) (hN1 : 1 ≤ N) (hN : N ≤ 12) (bd : Nat → Nat) (hao : aok4 (fun _ => True) bd) (cZ cI : ClassId) (th : Int32) (rb mb : Nat → Bool) (pt : Nat → Int32) (g : Nat → Nat → Bool) (hg : okM N rb g) (k a c1 : Int32) : Met l yX2_nearest wsX2_nearest ({ frames := 1, cells := 0, slots := 0, locals := 22 } : Room) (va_Pc [.ref (bd 0), .int k, .int a, .int c1] (wp0 D (mdW N bd cZ cI th rb mb pt) (mdT cZ cI) (fr4 bd sz) sz)) (va_Qi (fun (r : Int32) (u : (Nat → Bool) × (Nat → Bool) × (Nat → Int32)) => r = nI (spN N g k a c1).isSome.toNat ∧ okM N u.1 ((spN N g k a c1).getD g)) (fun (u : (Nat → Bool) × (Nat → Bool) × (Nat → Int32)) t => va_P D vwCl (mdW N bd cZ cI (nI 0) u.1 u.2.1 u.2.2) t.heap) (fr4 bd sz)) 0 0 (fr4 bd sz) := by
  refine Met.ofW (cc := cX2_nearest) (maxL := 6) (ret := (some .boolean)) (by decide) rfl ?_
  intro p e s m args below meth c s₁ B hml hv
  obtain ⟨rfl, hsz, hP, hK, htb⟩ := hv
  have hx := B.exec
  have hb := B.bytes
  have hr := B.returns
  have hts := atoms_spec (ws := wsX2_nearest) B.pre
  have hown : s.vm.findClass RX2 = some m.cls := findClass_of_methodNamed B.named
  have hlocks := B.notSynchronized
  subst hsz
  generalize hAe : fr4 bd s.heap.size = A at htb ⊢
  have hA : ∀ q : Nat, s.heap.size ≤ q → A q := fun q h => by rw [← hAe]; exact fr4_new q h
  have hao : aok4 A bd := by rw [← hAe]; exact aok4_fr hao
  obtain ⟨⟨tt, hZ, hT⟩, hNst⟩ := id htb
  have hS : va_S A s.heap s.heap [] := va_S.rf
  have hl := lv_entry ([.ref (bd 0), .int k, .int a, .int c1]) (n := 6) (Nat.le_of_ble_eq_true rfl)
  rw [lg_entry_eq]
  generalize (lg_sl ([.ref (bd 0), .int k, .int a, .int c1]) ++ List.replicate (6 - (lg_sl ([.ref (bd 0), .int k, .int a, .int c1])).length) Slot.unset).toArray = ls at hl ⊢
  have hl : lv_has ls 6 [(0, .ref (bd 0)), (1, .int k), (2, .int a), (3, .int c1)] := hl
  have hnp := np_le hN
  have hnp0 : 0 < 2 ^ N := Nat.two_pow_pos N
  refine lv_aload_n hx hb dX2_nearest_0 rfl (lv_at hl 0 rfl) ?_
  refine lv_iconst (v := nI 0) hx hb dX2_nearest_1 (by decide) ?_
  refine va_put (D := D) (ci := 2) (v := .int (nI 0)) (ty := .int) (C := RX2) (T := TX2) (N := 6) hx hb hts (fun w h => List.mem_cons_of_mem _ (inBX2 w h)) tyX2 tyX2_ok nmX2 hown hK hP (md_D hao) hS 0 rfl rfl 0 (by decide) (hts (.fieldLink RX2 28 "ForkDeskModel" "thrown" "I") (by decide +kernel)) (fun _ h9 => h9) rfl (by decide +kernel) rfl rfl (Nat.le_of_ble_eq_true rfl) dX2_nearest_2 (fun H locs hP _ hS => ?_)
  have hP : va_P D vwCl (mdW N bd cZ cI (nI 0) rb mb pt) H := hP
  refine lv_iload_n hx hb dX2_nearest_5 rfl (lv_at hl 1 rfl) ?_
  refine va_calli (va_runS (As := [.int k]) (rest := []) ⟨hx, hb, hml, hown, hts⟩ (c_isRow l D _ k) (va_cwS 1 hts (goodIn_mono gX2_isRow) rfl rfl rfl (by decide +kernel) ⟨Nat.le_of_ble_eq_true rfl, Nat.le_of_ble_eq_true rfl⟩) ⟨wp0_blind, fun U hU hW => wp0_of (va_P.sub hP [] rfl) (hK.sub [] rfl) htb hS no_in hU hW⟩ rfl rfl hl.1 rfl (lv_room (Nat.le_of_ble_eq_true rfl)) dX2_nearest_6 ⟨Nat.zero_le _, Nat.zero_le _⟩) hS (fun q _ h => h.elim) (fun q h => h.elim) (fun r_6 u_6 t H1 locs ht hvm hw hB hz1 hk1 hS => ?_)
  have hP := xa_same hP hk1
  clear hz1 hk1 hB ht
  generalize H1 = H at hP hS ⊢
  subst hw
  refine xa_if0 (tgt := 26) hx hb dX2_nearest_9 (by decide) (fun c_9 => ?_) (fun c_9 => ?_)
  · refine lv_iconst (v := nI 0) hx hb dX2_nearest_26 (by decide) ?_
    exact W.zret (v := (nI 0)) hx hb hr (by decide) (fun t ht hW => ⟨⟨(nI 0), (rb, mb, pt), rfl, ⟨by rw [(show spN N g k a c1 = none from if_neg (by simp [c_9]))]; rfl, by rw [(show spN N g k a c1 = none from if_neg (by simp [c_9]))]; exact hg⟩, (by show va_P _ _ _ _; rw [ht]; exact hP)⟩, hS.F ht⟩) hS.2.2 dX2_nearest_27
  · refine lv_iload_n hx hb dX2_nearest_12 rfl (lv_at hl 2 rfl) ?_
    refine va_calli (va_runS (As := [.int a]) (rest := []) ⟨hx, hb, hml, hown, hts⟩ (c_isRow l D _ a) (va_cwS 1 hts (goodIn_mono gX2_isRow) rfl rfl rfl (by decide +kernel) ⟨Nat.le_of_ble_eq_true rfl, Nat.le_of_ble_eq_true rfl⟩) ⟨wp0_blind, fun U hU hW => wp0_of (va_P.sub hP [] rfl) (hK.sub [] rfl) htb hS no_in hU hW⟩ rfl rfl hl.1 rfl (lv_room (Nat.le_of_ble_eq_true rfl)) dX2_nearest_13 ⟨Nat.zero_le _, Nat.zero_le _⟩) hS (fun q _ h => h.elim) (fun q h => h.elim) (fun r_13 u_13 t H1 locs ht hvm hw hB hz1 hk1 hS => ?_)
    have hP := xa_same hP hk1
    clear hz1 hk1 hB ht
    generalize H1 = H at hP hS ⊢
    subst hw
    refine xa_if0 (tgt := 26) hx hb dX2_nearest_16 (by decide) (fun c_16 => ?_) (fun c_16 => ?_)
    · refine lv_iconst (v := nI 0) hx hb dX2_nearest_26 (by decide) ?_
      exact W.zret (v := (nI 0)) hx hb hr (by decide) (fun t ht hW => ⟨⟨(nI 0), (rb, mb, pt), rfl, ⟨by rw [(show spN N g k a c1 = none from if_neg (by simp [c_9, c_16]))]; rfl, by rw [(show spN N g k a c1 = none from if_neg (by simp [c_9, c_16]))]; exact hg⟩, (by show va_P _ _ _ _; rw [ht]; exact hP)⟩, hS.F ht⟩) hS.2.2 dX2_nearest_27
    · refine lv_iload_n hx hb dX2_nearest_19 rfl (lv_at hl 3 rfl) ?_
      refine va_calli (va_runS (As := [.int c1]) (rest := []) ⟨hx, hb, hml, hown, hts⟩ (c_isRow l D _ c1) (va_cwS 1 hts (goodIn_mono gX2_isRow) rfl rfl rfl (by decide +kernel) ⟨Nat.le_of_ble_eq_true rfl, Nat.le_of_ble_eq_true rfl⟩) ⟨wp0_blind, fun U hU hW => wp0_of (va_P.sub hP [] rfl) (hK.sub [] rfl) htb hS no_in hU hW⟩ rfl rfl hl.1 rfl (lv_room (Nat.le_of_ble_eq_true rfl)) dX2_nearest_20 ⟨Nat.zero_le _, Nat.zero_le _⟩) hS (fun q _ h => h.elim) (fun q h => h.elim) (fun r_20 u_20 t H1 locs ht hvm hw hB hz1 hk1 hS => ?_)
      have hP := xa_same hP hk1
      clear hz1 hk1 hB ht
      generalize H1 = H at hP hS ⊢
      subst hw
      refine xa_if1 (tgt := 28) hx hb dX2_nearest_23 (by decide) (fun c_23 => ?_) (fun c_23 => ?_)
      · obtain ⟨j, hj, ej⟩ := isR_t c_9
        rw [ej] at hl
        obtain ⟨x1, hx1, ex1⟩ := isR_t c_16
        rw [ex1] at hl
        obtain ⟨x2, hx2, ex2⟩ := isR_t c_23
        rw [ex2] at hl
        have hsp : spN N g k a c1 = some (va_up g j (ng (g x1) (g x2) N)) := by unfold spN; rw [if_pos (by rw [c_9, c_16, c_23]; rfl), ej, ex1, ex2, ix_nI (by omega), ix_nI (by omega), ix_nI (by omega)]
        refine lv_iconst (v := nI 0) hx hb dX2_nearest_28 (by decide) ?_
        refine lv_istore (lv' := [(4, .int (nI 0)), (0, .ref (bd 0)), (1, .int (nI j)), (2, .int (nI x1)), (3, .int (nI x2))]) hx hb dX2_nearest_29 hl (by decide) rfl (fun ls hl => ?_)
        have lp_31 : ∀ (n9 w : Nat) (m2 : Nat → Bool) (H : Heap) (locs : List Loc) (ls : Array Slot), w ≤ 2 ^ N → 2 ^ N + 1 ≤ w + n9 → (∀ z, z < w → m2 z = ng (g x1) (g x2) N z) → va_P D vwCl (mdW N bd cZ cI (nI 0) rb m2 pt) H → va_S A s.heap H locs → lv_has ls 6 [(0, .ref (bd 0)), (1, .int (nI j)), (2, .int (nI x1)), (3, .int (nI x2)), (4, .int (nI w))] → W p l e (headSpec wsX2_nearest ({ frames := 1, cells := 0, slots := 0, locals := 22 } : Room)).room s m ([.ref (bd 0), .int k, .int a, .int c1] : List Value).toArray below meth c H locs 0 0 (MQ below (va_Qi (fun (r : Int32) (u : (Nat → Bool) × (Nat → Bool) × (Nat → Int32)) => r = nI (spN N g k a c1).isSome.toNat ∧ okM N u.1 ((spN N g k a c1).getD g)) (fun (u : (Nat → Bool) × (Nat → Bool) × (Nat → Int32)) t => va_P D vwCl (mdW N bd cZ cI (nI 0) u.1 u.2.1 u.2.2) t.heap) A) ([.ref (bd 0), .int k, .int a, .int c1] : List Value).toArray s 0 0 A) (F0 m 31 ls []) := by
          intro n9
          induction n9 with
          | zero => intro w m2 H locs ls h1 h2; exact absurd h2 (by omega)
          | succ n9 ih =>
            intro w m2 H locs ls hle_31 hmm_31 hI hP hS hl
            have ih_31 := @ih
            refine lv_iload hx hb dX2_nearest_31 (lv_at hl 4 rfl) ?_
            refine lv_aload_n hx hb dX2_nearest_33 rfl (lv_at hl 0 rfl) ?_
            refine va_get (D := D) (ci := 2) (C := RX2) (T := TX2) (N := 6) hx hb hts (fun w h => List.mem_cons_of_mem _ (inBX2 w h)) hown hK hP 0 rfl rfl 2 (by decide) (hts (.fieldLink RX2 25 "ForkDeskModel" "points" "I") (by decide +kernel)) (fun _ h9 => h9) rfl dX2_nearest_34 ?_
            refine xa_ge (tgt := 111) hx hb (by omega) (by omega) dX2_nearest_37 (by decide) (fun c_37 => ?_) (fun c_37 => ?_)
            · refine lv_aload_n hx hb dX2_nearest_111 rfl (lv_at hl 0 rfl) ?_
              refine lv_iload_n hx hb dX2_nearest_112 rfl (lv_at hl 1 rfl) ?_
              refine va_calli (va_runV (As := [.int (nI j)]) (rest := []) ⟨hx, hb, hml, hown, hts⟩ (c_keep l D _ N hN1 hN bd (aok4_true hao) cZ cI (nI 0) rb m2 pt j (by omega)) (cwV 1 hts (goodIn_mono gX2_keep) rfl rfl rfl (by decide +kernel) ⟨Nat.le_of_ble_eq_true rfl, Nat.le_of_ble_eq_true rfl⟩) ⟨wp0_blind, va_recv hK hP (ci := 2) (q0 := 0) rfl rfl, fun U hU hW => wp0_of hP hK htb hS (fr4_in hao hS hA) hU hW⟩ rfl rfl hl.1 rfl (lv_room (Nat.le_of_ble_eq_true rfl)) dX2_nearest_113 ⟨Nat.zero_le _, Nat.zero_le _⟩) hS (fun q _ h => (fr4_in hao hS hA) q h) ((fr4_in hao hS hA)) (fun r_113 u_113 t H1 locs ht hvm hw hB hz1 hk1 hS => ?_)
              rw [ht] at hB
              obtain ⟨hw1, hw2⟩ := hw
              subst hw1
              subst hw2
              have hP := hB
              clear hz1 hk1 hB ht
              generalize H1 = H at hP hS ⊢
              exact W.zret (v := (nI 1)) hx hb hr (by decide) (fun t ht hW => ⟨⟨(nI 1), (kpt rb m2 j (2 ^ N), m2, pt), rfl, ⟨by rw [hsp]; rfl, by rw [hsp]; exact (okM_up hN hg hj (fun z hz => hI z (by omega)))⟩, (by show va_P _ _ _ _; rw [ht]; exact hP)⟩, hS.F ht⟩) hS.2.2 dX2_nearest_116
            · refine lv_iconst (v := nI 0) hx hb dX2_nearest_40 (by decide) ?_
              refine lv_istore (lv' := [(5, .int (nI 0)), (0, .ref (bd 0)), (1, .int (nI j)), (2, .int (nI x1)), (3, .int (nI x2)), (4, .int (nI w))]) hx hb dX2_nearest_41 hl (by decide) rfl (fun ls hl => ?_)
              have lp_43 : ∀ (n9 d : Nat) (H : Heap) (locs : List Loc) (ls : Array Slot), d ≤ 2 ^ N → 2 ^ N + 1 ≤ d + n9 → (∀ y, y < d → rb (4096 * x2 + (w ^^^ y)) = false) → va_P D vwCl (mdW N bd cZ cI (nI 0) rb m2 pt) H → va_S A s.heap H locs → lv_has ls 6 [(0, .ref (bd 0)), (1, .int (nI j)), (2, .int (nI x1)), (3, .int (nI x2)), (4, .int (nI w)), (5, .int (nI d))] → W p l e (headSpec wsX2_nearest ({ frames := 1, cells := 0, slots := 0, locals := 22 } : Room)).room s m ([.ref (bd 0), .int k, .int a, .int c1] : List Value).toArray below meth c H locs 0 0 (MQ below (va_Qi (fun (r : Int32) (u : (Nat → Bool) × (Nat → Bool) × (Nat → Int32)) => r = nI (spN N g k a c1).isSome.toNat ∧ okM N u.1 ((spN N g k a c1).getD g)) (fun (u : (Nat → Bool) × (Nat → Bool) × (Nat → Int32)) t => va_P D vwCl (mdW N bd cZ cI (nI 0) u.1 u.2.1 u.2.2) t.heap) A) ([.ref (bd 0), .int k, .int a, .int c1] : List Value).toArray s 0 0 A) (F0 m 43 ls []) := by
                intro n9
                induction n9 with
                | zero => intro d  H locs ls h1 h2; exact absurd h2 (by omega)
                | succ n9 ih =>
                  intro d  H locs ls hle_43 hmm_43 hJ hP hS hl
                  have ih_43 := @ih
                  refine lv_iload hx hb dX2_nearest_43 (lv_at hl 5 rfl) ?_
                  refine lv_aload_n hx hb dX2_nearest_45 rfl (lv_at hl 0 rfl) ?_
                  refine va_get (D := D) (ci := 2) (C := RX2) (T := TX2) (N := 6) hx hb hts (fun w h => List.mem_cons_of_mem _ (inBX2 w h)) hown hK hP 0 rfl rfl 2 (by decide) (hts (.fieldLink RX2 25 "ForkDeskModel" "points" "I") (by decide +kernel)) (fun _ h9 => h9) rfl dX2_nearest_46 ?_
                  refine xa_ge (tgt := 71) hx hb (by omega) (by omega) dX2_nearest_49 (by decide) (fun c_49 => ?_) (fun c_49 => ?_)
                  · refine lv_aload_n hx hb dX2_nearest_71 rfl (lv_at hl 0 rfl) ?_
                    refine va_get (D := D) (ci := 2) (C := RX2) (T := TX2) (N := 6) hx hb hts (fun w h => List.mem_cons_of_mem _ (inBX2 w h)) hown hK hP 0 rfl rfl 4 (by decide) (hts (.fieldLink RX2 14 "ForkDeskModel" "made" "[Z") (by decide +kernel)) (fun _ h9 => h9) rfl dX2_nearest_72 ?_
                    refine lv_iload hx hb dX2_nearest_75 (lv_at hl 4 rfl) ?_
                    refine lv_iload hx hb dX2_nearest_77 (lv_at hl 5 rfl) ?_
                    refine lv_aload_n hx hb dX2_nearest_79 rfl (lv_at hl 0 rfl) ?_
                    refine va_get (D := D) (ci := 2) (C := RX2) (T := TX2) (N := 6) hx hb hts (fun w h => List.mem_cons_of_mem _ (inBX2 w h)) hown hK hP 0 rfl rfl 2 (by decide) (hts (.fieldLink RX2 25 "ForkDeskModel" "points" "I") (by decide +kernel)) (fun _ h9 => h9) rfl dX2_nearest_80 ?_
                    refine xa_ge (tgt := 103) hx hb (by omega) (by omega) dX2_nearest_83 (by decide) (fun c_83 => ?_) (fun c_83 => ?_)
                    · refine lv_iconst (v := nI 0) hx hb dX2_nearest_103 (by decide) ?_
                      refine xa_zast hx hb hK hP (md_D hao) hS 2 0 rfl rfl (w := w) (b := false) (by omega) (by omega) dX2_nearest_104 (fun H locs hP _ hS => ?_)
                      have hP : va_P D vwCl (mdW N bd cZ cI (nI 0) rb (va_up m2 w false) pt) H := hP
                      refine xa_inc (k := 4) (lv' := [(4, .int (nI (w + 1))), (0, .ref (bd 0)), (1, .int (nI j)), (2, .int (nI x1)), (3, .int (nI x2)), (5, .int (nI d))]) hx hb dX2_nearest_105 hl rfl (by decide) rfl (fun ls hl => ?_)
                      refine lv_goto (tgt := 31) hx hb dX2_nearest_108 (by decide) ?_
                      exact ih_31 (w + 1) (va_up m2 w false) _ _ _ (by omega) (by omega) (fun z hz => by by_cases hzw : z = w; (subst hzw; rw [va_up_self]; exact (near_no hg hx2 c_37 (fun y hy => hJ y (by omega))).symm); (rw [va_up_ne _ _ hzw]; exact hI z (by omega))) hP hS (lv_sub hl [1, 2, 3, 4, 0] rfl)
                    · exact absurd c_83 (by omega)
                  · have hxd : w ^^^ d < 2 ^ N := Nat.xor_lt_two_pow c_37 c_49
                    refine lv_aload_n hx hb dX2_nearest_52 rfl (lv_at hl 0 rfl) ?_
                    refine lv_iload_n hx hb dX2_nearest_53 rfl (lv_at hl 3 rfl) ?_
                    refine lv_iload hx hb dX2_nearest_54 (lv_at hl 4 rfl) ?_
                    refine lv_iload hx hb dX2_nearest_56 (lv_at hl 5 rfl) ?_
                    refine xa_ixor hx hb dX2_nearest_58 ?_
                    refine va_calli (va_runV (As := [.int (nI x2), .int (nI (w ^^^ d))]) (rest := []) ⟨hx, hb, hml, hown, hts⟩ (c_has l D _ N bd cZ (nI 0) rb x2 (w ^^^ d) (by omega)) (cwV 2 hts (goodIn_mono gX2_has) rfl rfl rfl (by decide +kernel) ⟨Nat.le_of_ble_eq_true rfl, Nat.le_of_ble_eq_true rfl⟩) ⟨wp0_blind, va_recv hK hP (ci := 2) (q0 := 0) rfl rfl, fun U hU hW => wp0_of (hP.sub [0, 1] rfl) (hK.sub [0] rfl) htb hS no_in hU hW⟩ rfl rfl hl.1 rfl (lv_room (Nat.le_of_ble_eq_true rfl)) dX2_nearest_59 ⟨Nat.zero_le _, Nat.zero_le _⟩) hS (fun q _ h => h.elim) (fun q h => h.elim) (fun r_59 u_59 t H1 locs ht hvm hw hB hz1 hk1 hS => ?_)
                    have hP := xa_same hP hk1
                    clear hz1 hk1 hB ht
                    generalize H1 = H at hP hS ⊢
                    subst hw
                    refine xa_if1 (tgt := 71) hx hb dX2_nearest_62 (by decide) (fun c_62 => ?_) (fun c_62 => ?_)
                    · refine lv_aload_n hx hb dX2_nearest_71 rfl (lv_at hl 0 rfl) ?_
                      refine va_get (D := D) (ci := 2) (C := RX2) (T := TX2) (N := 6) hx hb hts (fun w h => List.mem_cons_of_mem _ (inBX2 w h)) hown hK hP 0 rfl rfl 4 (by decide) (hts (.fieldLink RX2 14 "ForkDeskModel" "made" "[Z") (by decide +kernel)) (fun _ h9 => h9) rfl dX2_nearest_72 ?_
                      refine lv_iload hx hb dX2_nearest_75 (lv_at hl 4 rfl) ?_
                      refine lv_iload hx hb dX2_nearest_77 (lv_at hl 5 rfl) ?_
                      refine lv_aload_n hx hb dX2_nearest_79 rfl (lv_at hl 0 rfl) ?_
                      refine va_get (D := D) (ci := 2) (C := RX2) (T := TX2) (N := 6) hx hb hts (fun w h => List.mem_cons_of_mem _ (inBX2 w h)) hown hK hP 0 rfl rfl 2 (by decide) (hts (.fieldLink RX2 25 "ForkDeskModel" "points" "I") (by decide +kernel)) (fun _ h9 => h9) rfl dX2_nearest_80 ?_
                      refine xa_ge (tgt := 103) hx hb (by omega) (by omega) dX2_nearest_83 (by decide) (fun c_83 => ?_) (fun c_83 => ?_)
                      · exact absurd c_83 (by omega)
                      · refine lv_aload_n hx hb dX2_nearest_86 rfl (lv_at hl 0 rfl) ?_
                        refine lv_iload_n hx hb dX2_nearest_87 rfl (lv_at hl 2 rfl) ?_
                        refine lv_iload hx hb dX2_nearest_88 (lv_at hl 4 rfl) ?_
                        refine lv_iload hx hb dX2_nearest_90 (lv_at hl 5 rfl) ?_
                        refine xa_ixor hx hb dX2_nearest_92 ?_
                        refine va_calli (va_runV (As := [.int (nI x1), .int (nI (w ^^^ d))]) (rest := [.int (nI w), .ref (bd 2)]) ⟨hx, hb, hml, hown, hts⟩ (c_has l D _ N bd cZ (nI 0) rb x1 (w ^^^ d) (by omega)) (cwV 2 hts (goodIn_mono gX2_has) rfl rfl rfl (by decide +kernel) ⟨Nat.le_of_ble_eq_true rfl, Nat.le_of_ble_eq_true rfl⟩) ⟨wp0_blind, va_recv hK hP (ci := 2) (q0 := 0) rfl rfl, fun U hU hW => wp0_of (hP.sub [0, 1] rfl) (hK.sub [0] rfl) htb hS no_in hU hW⟩ rfl rfl hl.1 rfl (lv_room (Nat.le_of_ble_eq_true rfl)) dX2_nearest_93 ⟨Nat.zero_le _, Nat.zero_le _⟩) hS (fun q _ h => h.elim) (fun q h => h.elim) (fun r_93 u_93 t H1 locs ht hvm hw hB hz1 hk1 hS => ?_)
                        have hP := xa_same hP hk1
                        clear hz1 hk1 hB ht
                        generalize H1 = H at hP hS ⊢
                        subst hw
                        refine xa_if0 (tgt := 103) hx hb dX2_nearest_96 (by decide) (fun c_96 => ?_) (fun c_96 => ?_)
                        · refine lv_iconst (v := nI 0) hx hb dX2_nearest_103 (by decide) ?_
                          refine xa_zast hx hb hK hP (md_D hao) hS 2 0 rfl rfl (w := w) (b := false) (by omega) (by omega) dX2_nearest_104 (fun H locs hP _ hS => ?_)
                          have hP : va_P D vwCl (mdW N bd cZ cI (nI 0) rb (va_up m2 w false) pt) H := hP
                          refine xa_inc (k := 4) (lv' := [(4, .int (nI (w + 1))), (0, .ref (bd 0)), (1, .int (nI j)), (2, .int (nI x1)), (3, .int (nI x2)), (5, .int (nI d))]) hx hb dX2_nearest_105 hl rfl (by decide) rfl (fun ls hl => ?_)
                          refine lv_goto (tgt := 31) hx hb dX2_nearest_108 (by decide) ?_
                          exact ih_31 (w + 1) (va_up m2 w false) _ _ _ (by omega) (by omega) (fun z hz => by by_cases hzw : z = w; (subst hzw; rw [va_up_self]; rw [near_hit hg hx1 hx2 c_37 c_49 c_62 hJ, c_96]); (rw [va_up_ne _ _ hzw]; exact hI z (by omega))) hP hS (lv_sub hl [1, 2, 3, 4, 0] rfl)
                        · refine lv_iconst (v := nI 1) hx hb dX2_nearest_99 (by decide) ?_
                          refine lv_goto (tgt := 104) hx hb dX2_nearest_100 (by decide) ?_
                          refine xa_zast hx hb hK hP (md_D hao) hS 2 0 rfl rfl (w := w) (b := true) (by omega) (by omega) dX2_nearest_104 (fun H locs hP _ hS => ?_)
                          have hP : va_P D vwCl (mdW N bd cZ cI (nI 0) rb (va_up m2 w true) pt) H := hP
                          refine xa_inc (k := 4) (lv' := [(4, .int (nI (w + 1))), (0, .ref (bd 0)), (1, .int (nI j)), (2, .int (nI x1)), (3, .int (nI x2)), (5, .int (nI d))]) hx hb dX2_nearest_105 hl rfl (by decide) rfl (fun ls hl => ?_)
                          refine lv_goto (tgt := 31) hx hb dX2_nearest_108 (by decide) ?_
                          exact ih_31 (w + 1) (va_up m2 w true) _ _ _ (by omega) (by omega) (fun z hz => by by_cases hzw : z = w; (subst hzw; rw [va_up_self]; rw [near_hit hg hx1 hx2 c_37 c_49 c_62 hJ, c_96]); (rw [va_up_ne _ _ hzw]; exact hI z (by omega))) hP hS (lv_sub hl [1, 2, 3, 4, 0] rfl)
                    · refine xa_inc (k := 5) (lv' := [(5, .int (nI (d + 1))), (0, .ref (bd 0)), (1, .int (nI j)), (2, .int (nI x1)), (3, .int (nI x2)), (4, .int (nI w))]) hx hb dX2_nearest_65 hl rfl (by decide) rfl (fun ls hl => ?_)
                      refine lv_goto (tgt := 43) hx hb dX2_nearest_68 (by decide) ?_
                      exact ih_43 (d + 1)  _ _ _ (by omega) (by omega) (fun y hy => by by_cases hyd : y = d; (subst hyd; exact c_62); (exact hJ y (by omega))) hP hS (lv_sub hl [1, 2, 3, 4, 5, 0] rfl)
              exact lp_43 (2 ^ N + 1 - 0) 0  _ _ _ (by omega) (by omega) (fun y hy => absurd hy (by omega)) hP hS (lv_sub hl [1, 2, 3, 4, 5, 0] rfl)
        exact lp_31 (2 ^ N + 1 - 0) 0 mb _ _ _ (by omega) (by omega) (fun z hz => absurd hz (by omega)) hP hS (lv_sub hl [1, 2, 3, 4, 0] rfl)
      · refine lv_iconst (v := nI 0) hx hb dX2_nearest_26 (by decide) ?_
        exact W.zret (v := (nI 0)) hx hb hr (by decide) (fun t ht hW => ⟨⟨(nI 0), (rb, mb, pt), rfl, ⟨by rw [(show spN N g k a c1 = none from if_neg (by simp [c_9, c_16, c_23]))]; rfl, by rw [(show spN N g k a c1 = none from if_neg (by simp [c_9, c_16, c_23]))]; exact hg⟩, (by show va_P _ _ _ _; rw [ht]; exact hP)⟩, hS.F ht⟩) hS.2.2 dX2_nearest_27
