set_option maxHeartbeats 4000000 in
set_option maxRecDepth 100000 in
/-- the reference: combine -/
theorem c_mCombine (l : Launch) (D : va_G) (sz : Nat) (N : Nat) (hN1 : 1 ≤ N) (hN : N ≤ 12) (bd : Nat → Nat) (hao : aok4 (fun _ => True) bd) (cZ cI : ClassId) (th : Int32) (rb mb : Nat → Bool) (pt : Nat → Int32) (g : Nat → Nat → Bool) (hg : okM N rb g) (k op a b : Int32) : Met l yX2_combine wsX2_combine ({ frames := 1, cells := 0, slots := 0, locals := 22 } : Room) (va_Pc [.ref (bd 0), .int k, .int op, .int a, .int b] (wp0 D (mdW N bd cZ cI th rb mb pt) (mdT cZ cI) (fr4 bd sz) sz)) (va_Qi (fun (r : Int32) (u : (Nat → Bool) × (Nat → Bool) × (Nat → Int32)) => r = nI (spM g k op a b).isSome.toNat ∧ okM N u.1 ((spM g k op a b).getD g)) (fun (u : (Nat → Bool) × (Nat → Bool) × (Nat → Int32)) t => va_P D vwCl (mdW N bd cZ cI (nI 0) u.1 u.2.1 u.2.2) t.heap) (fr4 bd sz)) 0 0 (fr4 bd sz) := by
  refine Met.ofW (cc := cX2_combine) (maxL := 8) (ret := (some .boolean)) (by decide) rfl ?_
  intro p e s m args below meth c s₁ B hml hv
  obtain ⟨rfl, hsz, hP, hK, htb⟩ := hv
  have hx := B.exec
  have hb := B.bytes
  have hr := B.returns
  have hts := atoms_spec (ws := wsX2_combine) B.pre
  have hown : s.vm.findClass RX2 = some m.cls := findClass_of_methodNamed B.named
  have hlocks := B.notSynchronized
  subst hsz
  generalize hAe : fr4 bd s.heap.size = A at htb ⊢
  have hA : ∀ q : Nat, s.heap.size ≤ q → A q := fun q h => by rw [← hAe]; exact fr4_new q h
  have hao : aok4 A bd := by rw [← hAe]; exact aok4_fr hao
  obtain ⟨⟨tt, hZ, hT⟩, hNst⟩ := id htb
  have hS : va_S A s.heap s.heap [] := va_S.rf
  have hl := lv_entry ([.ref (bd 0), .int k, .int op, .int a, .int b]) (n := 8) (Nat.le_of_ble_eq_true rfl)
  rw [lg_entry_eq]
  generalize (lg_sl ([.ref (bd 0), .int k, .int op, .int a, .int b]) ++ List.replicate (8 - (lg_sl ([.ref (bd 0), .int k, .int op, .int a, .int b])).length) Slot.unset).toArray = ls at hl ⊢
  have hl : lv_has ls 8 [(0, .ref (bd 0)), (1, .int k), (2, .int op), (3, .int a), (4, .int b)] := hl
  have hnp := np_le hN
  have hnp0 : 0 < 2 ^ N := Nat.two_pow_pos N
  refine lv_aload_n hx hb dX2_combine_0 rfl (lv_at hl 0 rfl) ?_
  refine lv_iconst (v := nI 0) hx hb dX2_combine_1 (by decide) ?_
  refine va_put (D := D) (ci := 2) (v := .int (nI 0)) (ty := .int) (C := RX2) (T := TX2) (N := 6) hx hb hts (fun w h => List.mem_cons_of_mem _ (inBX2 w h)) tyX2 tyX2_ok nmX2 hown hK hP (md_D hao) hS 0 rfl rfl 0 (by decide) (hts (.fieldLink RX2 28 "ForkDeskModel" "thrown" "I") (by decide +kernel)) (fun _ h9 => h9) rfl (by decide +kernel) rfl rfl (Nat.le_of_ble_eq_true rfl) dX2_combine_2 (fun H locs hP _ hS => ?_)
  have hP : va_P D vwCl (mdW N bd cZ cI (nI 0) rb mb pt) H := hP
  refine lv_iload_n hx hb dX2_combine_5 rfl (lv_at hl 1 rfl) ?_
  refine va_calli (va_runS (As := [.int k]) (rest := []) ⟨hx, hb, hml, hown, hts⟩ (c_isRow l D _ k) (va_cwS 1 hts (goodIn_mono gX2_isRow) rfl rfl rfl (by decide +kernel) ⟨Nat.le_of_ble_eq_true rfl, Nat.le_of_ble_eq_true rfl⟩) ⟨wp0_blind, fun U hU hW => wp0_of (va_P.sub hP [] rfl) (hK.sub [] rfl) htb hS no_in hU hW⟩ rfl rfl hl.1 rfl (lv_room (Nat.le_of_ble_eq_true rfl)) dX2_combine_6 ⟨Nat.zero_le _, Nat.zero_le _⟩) hS (fun q _ h => h.elim) (fun q h => h.elim) (fun r_6 u_6 t H1 locs ht hvm hw hB hz1 hk1 hS => ?_)
  have hP := xa_same hP hk1
  clear hz1 hk1 hB ht
  generalize H1 = H at hP hS ⊢
  subst hw
  refine xa_if0 (tgt := 36) hx hb dX2_combine_9 (by decide) (fun c_9 => ?_) (fun c_9 => ?_)
  · refine lv_iconst (v := nI 0) hx hb dX2_combine_36 (by decide) ?_
    exact W.zret (v := (nI 0)) hx hb hr (by decide) (fun t ht hW => ⟨⟨(nI 0), (rb, mb, pt), rfl, ⟨by rw [(show spM g k op a b = none from if_neg (by simp [c_9]))]; rfl, by rw [(show spM g k op a b = none from if_neg (by simp [c_9]))]; exact hg⟩, (by show va_P _ _ _ _; rw [ht]; exact hP)⟩, hS.F ht⟩) hS.2.2 dX2_combine_37
  · refine lv_iload_n hx hb dX2_combine_12 rfl (lv_at hl 3 rfl) ?_
    refine va_calli (va_runS (As := [.int a]) (rest := []) ⟨hx, hb, hml, hown, hts⟩ (c_isRow l D _ a) (va_cwS 1 hts (goodIn_mono gX2_isRow) rfl rfl rfl (by decide +kernel) ⟨Nat.le_of_ble_eq_true rfl, Nat.le_of_ble_eq_true rfl⟩) ⟨wp0_blind, fun U hU hW => wp0_of (va_P.sub hP [] rfl) (hK.sub [] rfl) htb hS no_in hU hW⟩ rfl rfl hl.1 rfl (lv_room (Nat.le_of_ble_eq_true rfl)) dX2_combine_13 ⟨Nat.zero_le _, Nat.zero_le _⟩) hS (fun q _ h => h.elim) (fun q h => h.elim) (fun r_13 u_13 t H1 locs ht hvm hw hB hz1 hk1 hS => ?_)
    have hP := xa_same hP hk1
    clear hz1 hk1 hB ht
    generalize H1 = H at hP hS ⊢
    subst hw
    refine xa_if0 (tgt := 36) hx hb dX2_combine_16 (by decide) (fun c_16 => ?_) (fun c_16 => ?_)
    · refine lv_iconst (v := nI 0) hx hb dX2_combine_36 (by decide) ?_
      exact W.zret (v := (nI 0)) hx hb hr (by decide) (fun t ht hW => ⟨⟨(nI 0), (rb, mb, pt), rfl, ⟨by rw [(show spM g k op a b = none from if_neg (by simp [c_9, c_16]))]; rfl, by rw [(show spM g k op a b = none from if_neg (by simp [c_9, c_16]))]; exact hg⟩, (by show va_P _ _ _ _; rw [ht]; exact hP)⟩, hS.F ht⟩) hS.2.2 dX2_combine_37
    · refine lv_iload hx hb dX2_combine_19 (lv_at hl 4 rfl) ?_
      refine va_calli (va_runS (As := [.int b]) (rest := []) ⟨hx, hb, hml, hown, hts⟩ (c_isRow l D _ b) (va_cwS 1 hts (goodIn_mono gX2_isRow) rfl rfl rfl (by decide +kernel) ⟨Nat.le_of_ble_eq_true rfl, Nat.le_of_ble_eq_true rfl⟩) ⟨wp0_blind, fun U hU hW => wp0_of (va_P.sub hP [] rfl) (hK.sub [] rfl) htb hS no_in hU hW⟩ rfl rfl hl.1 rfl (lv_room (Nat.le_of_ble_eq_true rfl)) dX2_combine_21 ⟨Nat.zero_le _, Nat.zero_le _⟩) hS (fun q _ h => h.elim) (fun q h => h.elim) (fun r_21 u_21 t H1 locs ht hvm hw hB hz1 hk1 hS => ?_)
      have hP := xa_same hP hk1
      clear hz1 hk1 hB ht
      generalize H1 = H at hP hS ⊢
      subst hw
      refine xa_if0 (tgt := 36) hx hb dX2_combine_24 (by decide) (fun c_24 => ?_) (fun c_24 => ?_)
      · refine lv_iconst (v := nI 0) hx hb dX2_combine_36 (by decide) ?_
        exact W.zret (v := (nI 0)) hx hb hr (by decide) (fun t ht hW => ⟨⟨(nI 0), (rb, mb, pt), rfl, ⟨by rw [(show spM g k op a b = none from if_neg (by simp [c_9, c_16, c_24]))]; rfl, by rw [(show spM g k op a b = none from if_neg (by simp [c_9, c_16, c_24]))]; exact hg⟩, (by show va_P _ _ _ _; rw [ht]; exact hP)⟩, hS.F ht⟩) hS.2.2 dX2_combine_37
      · refine lv_iload_n hx hb dX2_combine_27 rfl (lv_at hl 2 rfl) ?_
        refine lv_if_lt (tgt := 36) hx hb dX2_combine_28 (by decide) (fun c_28 => ?_) (fun c_28 => ?_)
        · refine lv_iconst (v := nI 0) hx hb dX2_combine_36 (by decide) ?_
          exact W.zret (v := (nI 0)) hx hb hr (by decide) (fun t ht hW => ⟨⟨(nI 0), (rb, mb, pt), rfl, ⟨by rw [(show spM g k op a b = none from if_neg (by simp [c_9, c_16, c_24, isO_lt c_28]))]; rfl, by rw [(show spM g k op a b = none from if_neg (by simp [c_9, c_16, c_24, isO_lt c_28]))]; exact hg⟩, (by show va_P _ _ _ _; rw [ht]; exact hP)⟩, hS.F ht⟩) hS.2.2 dX2_combine_37
        · refine lv_iload_n hx hb dX2_combine_31 rfl (lv_at hl 2 rfl) ?_
          refine lv_iconst (v := nI 3) hx hb dX2_combine_32 (by decide) ?_
          refine lv_icmp_le (tgt := 38) hx hb dX2_combine_33 (by decide) (fun c_33 => ?_) (fun c_33 => ?_)
          · have hO : isO op = true := isO_in c_28 c_33
            obtain ⟨j, hj, ej⟩ := isR_t c_9
            rw [ej] at hl
            obtain ⟨o, ho, eo⟩ := isO_t hO
            rw [eo] at hl
            obtain ⟨x1, hx1, ex1⟩ := isR_t c_16
            rw [ex1] at hl
            obtain ⟨x2, hx2, ex2⟩ := isR_t c_24
            rw [ex2] at hl
            have hsp : spM g k op a b = some (va_up g j (fun p => cmg o (g x1 p) (g x2 p))) := by unfold spM; rw [if_pos (by rw [c_9, hO, c_16, c_24]; rfl), ej, eo, ex1, ex2, ix_nI (by omega), ix_nI (by omega), ix_nI (by omega), ix_nI (by omega)]
            refine lv_iconst (v := nI 0) hx hb dX2_combine_38 (by decide) ?_
            refine lv_istore (lv' := [(5, .int (nI 0)), (0, .ref (bd 0)), (1, .int (nI j)), (2, .int (nI o)), (3, .int (nI x1)), (4, .int (nI x2))]) hx hb dX2_combine_39 hl (by decide) rfl (fun ls hl => ?_)
            have lp_41 : ∀ (n9 w : Nat) (m2 : Nat → Bool) (H : Heap) (locs : List Loc) (ls : Array Slot), w ≤ 2 ^ N → 2 ^ N + 1 ≤ w + n9 → (∀ z, z < w → m2 z = cmg o (rb (4096 * x1 + z)) (rb (4096 * x2 + z))) → va_P D vwCl (mdW N bd cZ cI (nI 0) rb m2 pt) H → va_S A s.heap H locs → lv_has ls 8 [(0, .ref (bd 0)), (1, .int (nI j)), (2, .int (nI o)), (3, .int (nI x1)), (4, .int (nI x2)), (5, .int (nI w))] → W p l e (headSpec wsX2_combine ({ frames := 1, cells := 0, slots := 0, locals := 22 } : Room)).room s m ([.ref (bd 0), .int k, .int op, .int a, .int b] : List Value).toArray below meth c H locs 0 0 (MQ below (va_Qi (fun (r : Int32) (u : (Nat → Bool) × (Nat → Bool) × (Nat → Int32)) => r = nI (spM g k op a b).isSome.toNat ∧ okM N u.1 ((spM g k op a b).getD g)) (fun (u : (Nat → Bool) × (Nat → Bool) × (Nat → Int32)) t => va_P D vwCl (mdW N bd cZ cI (nI 0) u.1 u.2.1 u.2.2) t.heap) A) ([.ref (bd 0), .int k, .int op, .int a, .int b] : List Value).toArray s 0 0 A) (F0 m 41 ls []) := by
              intro n9
              induction n9 with
              | zero => intro w m2 H locs ls h1 h2; exact absurd h2 (by omega)
              | succ n9 ih =>
                intro w m2 H locs ls hle_41 hmm_41 hI hP hS hl
                have ih_41 := @ih
                refine lv_iload hx hb dX2_combine_41 (lv_at hl 5 rfl) ?_
                refine lv_aload_n hx hb dX2_combine_43 rfl (lv_at hl 0 rfl) ?_
                refine va_get (D := D) (ci := 2) (C := RX2) (T := TX2) (N := 6) hx hb hts (fun w h => List.mem_cons_of_mem _ (inBX2 w h)) hown hK hP 0 rfl rfl 2 (by decide) (hts (.fieldLink RX2 25 "ForkDeskModel" "points" "I") (by decide +kernel)) (fun _ h9 => h9) rfl dX2_combine_44 ?_
                refine xa_ge (tgt := 162) hx hb (by omega) (by omega) dX2_combine_47 (by decide) (fun c_47 => ?_) (fun c_47 => ?_)
                · refine lv_aload_n hx hb dX2_combine_162 rfl (lv_at hl 0 rfl) ?_
                  refine lv_iload_n hx hb dX2_combine_163 rfl (lv_at hl 1 rfl) ?_
                  refine va_calli (va_runV (As := [.int (nI j)]) (rest := []) ⟨hx, hb, hml, hown, hts⟩ (c_keep l D _ N hN1 hN bd (aok4_true hao) cZ cI (nI 0) rb m2 pt j (by omega)) (cwV 1 hts (goodIn_mono gX2_keep) rfl rfl rfl (by decide +kernel) ⟨Nat.le_of_ble_eq_true rfl, Nat.le_of_ble_eq_true rfl⟩) ⟨wp0_blind, va_recv hK hP (ci := 2) (q0 := 0) rfl rfl, fun U hU hW => wp0_of hP hK htb hS (fr4_in hao hS hA) hU hW⟩ rfl rfl hl.1 rfl (lv_room (Nat.le_of_ble_eq_true rfl)) dX2_combine_164 ⟨Nat.zero_le _, Nat.zero_le _⟩) hS (fun q _ h => (fr4_in hao hS hA) q h) ((fr4_in hao hS hA)) (fun r_164 u_164 t H1 locs ht hvm hw hB hz1 hk1 hS => ?_)
                  rw [ht] at hB
                  obtain ⟨hw1, hw2⟩ := hw
                  subst hw1
                  subst hw2
                  have hP := hB
                  clear hz1 hk1 hB ht
                  generalize H1 = H at hP hS ⊢
                  exact W.zret (v := (nI 1)) hx hb hr (by decide) (fun t ht hW => ⟨⟨(nI 1), (kpt rb m2 j (2 ^ N), m2, pt), rfl, ⟨by rw [hsp]; rfl, by rw [hsp]; exact (okM_up hN hg hj (fun z hz => by rw [hI z (by omega), hg x1 z hx1 hz, hg x2 z hx2 hz]))⟩, (by show va_P _ _ _ _; rw [ht]; exact hP)⟩, hS.F ht⟩) hS.2.2 dX2_combine_167
                · refine lv_aload_n hx hb dX2_combine_50 rfl (lv_at hl 0 rfl) ?_
                  refine lv_iload_n hx hb dX2_combine_51 rfl (lv_at hl 3 rfl) ?_
                  refine lv_iload hx hb dX2_combine_52 (lv_at hl 5 rfl) ?_
                  refine va_calli (va_runV (As := [.int (nI x1), .int (nI w)]) (rest := []) ⟨hx, hb, hml, hown, hts⟩ (c_has l D _ N bd cZ (nI 0) rb x1 w (by omega)) (cwV 2 hts (goodIn_mono gX2_has) rfl rfl rfl (by decide +kernel) ⟨Nat.le_of_ble_eq_true rfl, Nat.le_of_ble_eq_true rfl⟩) ⟨wp0_blind, va_recv hK hP (ci := 2) (q0 := 0) rfl rfl, fun U hU hW => wp0_of (hP.sub [0, 1] rfl) (hK.sub [0] rfl) htb hS no_in hU hW⟩ rfl rfl hl.1 rfl (lv_room (Nat.le_of_ble_eq_true rfl)) dX2_combine_54 ⟨Nat.zero_le _, Nat.zero_le _⟩) hS (fun q _ h => h.elim) (fun q h => h.elim) (fun r_54 u_54 t H1 locs ht hvm hw hB hz1 hk1 hS => ?_)
                  have hP := xa_same hP hk1
                  clear hz1 hk1 hB ht
                  generalize H1 = H at hP hS ⊢
                  subst hw
                  refine lv_istore (lv' := [(6, .int (nI ((rb (4096 * x1 + w)).toNat))), (0, .ref (bd 0)), (1, .int (nI j)), (2, .int (nI o)), (3, .int (nI x1)), (4, .int (nI x2)), (5, .int (nI w))]) hx hb dX2_combine_57 hl (by decide) rfl (fun ls hl => ?_)
                  refine lv_aload_n hx hb dX2_combine_59 rfl (lv_at hl 1 rfl) ?_
                  refine lv_iload hx hb dX2_combine_60 (lv_at hl 5 rfl) ?_
                  refine lv_iload hx hb dX2_combine_62 (lv_at hl 6 rfl) ?_
                  refine va_calli (va_runV (As := [.int (nI x2), .int (nI w)]) (rest := []) ⟨hx, hb, hml, hown, hts⟩ (c_has l D _ N bd cZ (nI 0) rb x2 w (by omega)) (cwV 2 hts (goodIn_mono gX2_has) rfl rfl rfl (by decide +kernel) ⟨Nat.le_of_ble_eq_true rfl, Nat.le_of_ble_eq_true rfl⟩) ⟨wp0_blind, va_recv hK hP (ci := 2) (q0 := 0) rfl rfl, fun U hU hW => wp0_of (hP.sub [0, 1] rfl) (hK.sub [0] rfl) htb hS no_in hU hW⟩ rfl rfl hl.1 rfl (lv_room (Nat.le_of_ble_eq_true rfl)) dX2_combine_64 ⟨Nat.zero_le _, Nat.zero_le _⟩) hS (fun q _ h => h.elim) (fun q h => h.elim) (fun r_64 u_64 t H1 locs ht hvm hw hB hz1 hk1 hS => ?_)
                  have hP := xa_same hP hk1
                  clear hz1 hk1 hB ht
                  generalize H1 = H at hP hS ⊢
                  subst hw
                  refine lv_istore (lv' := [(7, .int (nI ((rb (4096 * x2 + w)).toNat))), (6, .int (nI ((rb (4096 * x1 + w)).toNat))), (0, .ref (bd 0)), (1, .int (nI j)), (2, .int (nI o)), (3, .int (nI x1)), (4, .int (nI x2)), (5, .int (nI w))]) hx hb dX2_combine_67 hl (by decide) rfl (fun ls hl => ?_)
                  refine lv_aload_n hx hb dX2_combine_69 rfl (lv_at hl 2 rfl) ?_
                  refine va_get (D := D) (ci := 2) (C := RX2) (T := TX2) (N := 6) hx hb hts (fun w h => List.mem_cons_of_mem _ (inBX2 w h)) hown hK hP 0 rfl rfl 4 (by decide) (hts (.fieldLink RX2 14 "ForkDeskModel" "made" "[Z") (by decide +kernel)) (fun _ h9 => h9) rfl dX2_combine_70 ?_
                  refine lv_iload hx hb dX2_combine_73 (lv_at hl 7 rfl) ?_
                  refine lv_iload_n hx hb dX2_combine_75 rfl (lv_at hl 4 rfl) ?_
                  refine lv_if_ne (tgt := 97) hx hb dX2_combine_76 (by decide) (fun c_76 => ?_) (fun c_76 => ?_)
                  · refine lv_iload_n hx hb dX2_combine_97 rfl (lv_at hl 4 rfl) ?_
                    refine lv_iconst (v := nI 1) hx hb dX2_combine_98 (by decide) ?_
                    refine xa_ne (tgt := 120) hx hb (by omega) (by omega) dX2_combine_99 (by decide) (fun c_99 => ?_) (fun c_99 => ?_)
                    · refine lv_iload_n hx hb dX2_combine_120 rfl (lv_at hl 4 rfl) ?_
                      refine lv_iconst (v := nI 2) hx hb dX2_combine_121 (by decide) ?_
                      refine xa_ne (tgt := 140) hx hb (by omega) (by omega) dX2_combine_122 (by decide) (fun c_122 => ?_) (fun c_122 => ?_)
                      · refine lv_iload hx hb dX2_combine_140 (lv_at hl 1 rfl) ?_
                        refine xa_if0 (tgt := 154) hx hb dX2_combine_142 (by decide) (fun c_142 => ?_) (fun c_142 => ?_)
                        · refine lv_iconst (v := nI 0) hx hb dX2_combine_154 (by decide) ?_
                          refine xa_zast hx hb hK hP (md_D hao) hS 2 0 rfl rfl (w := w) (b := false) (by omega) (by omega) dX2_combine_155 (fun H locs hP _ hS => ?_)
                          have hP : va_P D vwCl (mdW N bd cZ cI (nI 0) rb (va_up m2 w false) pt) H := hP
                          refine xa_inc (k := 7) (lv' := [(5, .int (nI (w + 1))), (7, .int (nI ((rb (4096 * x2 + w)).toNat))), (6, .int (nI ((rb (4096 * x1 + w)).toNat))), (0, .ref (bd 0)), (1, .int (nI j)), (2, .int (nI o)), (3, .int (nI x1)), (4, .int (nI x2))]) hx hb dX2_combine_156 hl rfl (by decide) rfl (fun ls hl => ?_)
                          refine lv_goto (tgt := 41) hx hb dX2_combine_159 (by decide) ?_
                          exact ih_41 (w + 1) (va_up m2 w false) _ _ _ (by omega) (by omega) (fun z hz => by by_cases hzw : z = w; (subst hzw; rw [va_up_self]; exact cmg_m3 ho c_76 c_99 c_122 (by simp_all)); (rw [va_up_ne _ _ hzw]; exact hI z (by omega))) hP hS (lv_sub hl [3, 4, 5, 6, 7, 0] rfl)
                        · refine lv_iload hx hb dX2_combine_145 (lv_at hl 0 rfl) ?_
                          refine xa_if1 (tgt := 154) hx hb dX2_combine_147 (by decide) (fun c_147 => ?_) (fun c_147 => ?_)
                          · refine lv_iconst (v := nI 0) hx hb dX2_combine_154 (by decide) ?_
                            refine xa_zast hx hb hK hP (md_D hao) hS 2 0 rfl rfl (w := w) (b := false) (by omega) (by omega) dX2_combine_155 (fun H locs hP _ hS => ?_)
                            have hP : va_P D vwCl (mdW N bd cZ cI (nI 0) rb (va_up m2 w false) pt) H := hP
                            refine xa_inc (k := 7) (lv' := [(5, .int (nI (w + 1))), (7, .int (nI ((rb (4096 * x2 + w)).toNat))), (6, .int (nI ((rb (4096 * x1 + w)).toNat))), (0, .ref (bd 0)), (1, .int (nI j)), (2, .int (nI o)), (3, .int (nI x1)), (4, .int (nI x2))]) hx hb dX2_combine_156 hl rfl (by decide) rfl (fun ls hl => ?_)
                            refine lv_goto (tgt := 41) hx hb dX2_combine_159 (by decide) ?_
                            exact ih_41 (w + 1) (va_up m2 w false) _ _ _ (by omega) (by omega) (fun z hz => by by_cases hzw : z = w; (subst hzw; rw [va_up_self]; exact cmg_m3 ho c_76 c_99 c_122 (by simp_all)); (rw [va_up_ne _ _ hzw]; exact hI z (by omega))) hP hS (lv_sub hl [3, 4, 5, 6, 7, 0] rfl)
                          · refine lv_iconst (v := nI 1) hx hb dX2_combine_150 (by decide) ?_
                            refine lv_goto (tgt := 155) hx hb dX2_combine_151 (by decide) ?_
                            refine xa_zast hx hb hK hP (md_D hao) hS 2 0 rfl rfl (w := w) (b := true) (by omega) (by omega) dX2_combine_155 (fun H locs hP _ hS => ?_)
                            have hP : va_P D vwCl (mdW N bd cZ cI (nI 0) rb (va_up m2 w true) pt) H := hP
                            refine xa_inc (k := 7) (lv' := [(5, .int (nI (w + 1))), (7, .int (nI ((rb (4096 * x2 + w)).toNat))), (6, .int (nI ((rb (4096 * x1 + w)).toNat))), (0, .ref (bd 0)), (1, .int (nI j)), (2, .int (nI o)), (3, .int (nI x1)), (4, .int (nI x2))]) hx hb dX2_combine_156 hl rfl (by decide) rfl (fun ls hl => ?_)
                            refine lv_goto (tgt := 41) hx hb dX2_combine_159 (by decide) ?_
                            exact ih_41 (w + 1) (va_up m2 w true) _ _ _ (by omega) (by omega) (fun z hz => by by_cases hzw : z = w; (subst hzw; rw [va_up_self]; exact cmg_m3 ho c_76 c_99 c_122 (by simp_all)); (rw [va_up_ne _ _ hzw]; exact hI z (by omega))) hP hS (lv_sub hl [3, 4, 5, 6, 7, 0] rfl)
                      · refine lv_iload hx hb dX2_combine_125 (lv_at hl 1 rfl) ?_
                        refine lv_iload hx hb dX2_combine_127 (lv_at hl 0 rfl) ?_
                        refine xb_eq (tgt := 136) hx hb dX2_combine_129 (by decide) (fun c_129 => ?_) (fun c_129 => ?_)
                        · refine lv_iconst (v := nI 0) hx hb dX2_combine_136 (by decide) ?_
                          refine lv_goto (tgt := 155) hx hb dX2_combine_137 (by decide) ?_
                          refine xa_zast hx hb hK hP (md_D hao) hS 2 0 rfl rfl (w := w) (b := false) (by omega) (by omega) dX2_combine_155 (fun H locs hP _ hS => ?_)
                          have hP : va_P D vwCl (mdW N bd cZ cI (nI 0) rb (va_up m2 w false) pt) H := hP
                          refine xa_inc (k := 7) (lv' := [(5, .int (nI (w + 1))), (7, .int (nI ((rb (4096 * x2 + w)).toNat))), (6, .int (nI ((rb (4096 * x1 + w)).toNat))), (0, .ref (bd 0)), (1, .int (nI j)), (2, .int (nI o)), (3, .int (nI x1)), (4, .int (nI x2))]) hx hb dX2_combine_156 hl rfl (by decide) rfl (fun ls hl => ?_)
                          refine lv_goto (tgt := 41) hx hb dX2_combine_159 (by decide) ?_
                          exact ih_41 (w + 1) (va_up m2 w false) _ _ _ (by omega) (by omega) (fun z hz => by by_cases hzw : z = w; (subst hzw; rw [va_up_self]; exact cmg_m2 ho c_122 (by simp_all)); (rw [va_up_ne _ _ hzw]; exact hI z (by omega))) hP hS (lv_sub hl [3, 4, 5, 6, 7, 0] rfl)
                        · refine lv_iconst (v := nI 1) hx hb dX2_combine_132 (by decide) ?_
                          refine lv_goto (tgt := 155) hx hb dX2_combine_133 (by decide) ?_
                          refine xa_zast hx hb hK hP (md_D hao) hS 2 0 rfl rfl (w := w) (b := true) (by omega) (by omega) dX2_combine_155 (fun H locs hP _ hS => ?_)
                          have hP : va_P D vwCl (mdW N bd cZ cI (nI 0) rb (va_up m2 w true) pt) H := hP
                          refine xa_inc (k := 7) (lv' := [(5, .int (nI (w + 1))), (7, .int (nI ((rb (4096 * x2 + w)).toNat))), (6, .int (nI ((rb (4096 * x1 + w)).toNat))), (0, .ref (bd 0)), (1, .int (nI j)), (2, .int (nI o)), (3, .int (nI x1)), (4, .int (nI x2))]) hx hb dX2_combine_156 hl rfl (by decide) rfl (fun ls hl => ?_)
                          refine lv_goto (tgt := 41) hx hb dX2_combine_159 (by decide) ?_
                          exact ih_41 (w + 1) (va_up m2 w true) _ _ _ (by omega) (by omega) (fun z hz => by by_cases hzw : z = w; (subst hzw; rw [va_up_self]; exact cmg_m2 ho c_122 (by simp_all)); (rw [va_up_ne _ _ hzw]; exact hI z (by omega))) hP hS (lv_sub hl [3, 4, 5, 6, 7, 0] rfl)
                    · refine lv_iload hx hb dX2_combine_102 (lv_at hl 1 rfl) ?_
                      refine xa_if1 (tgt := 112) hx hb dX2_combine_104 (by decide) (fun c_104 => ?_) (fun c_104 => ?_)
                      · refine lv_iconst (v := nI 1) hx hb dX2_combine_112 (by decide) ?_
                        refine lv_goto (tgt := 155) hx hb dX2_combine_113 (by decide) ?_
                        refine xa_zast hx hb hK hP (md_D hao) hS 2 0 rfl rfl (w := w) (b := true) (by omega) (by omega) dX2_combine_155 (fun H locs hP _ hS => ?_)
                        have hP : va_P D vwCl (mdW N bd cZ cI (nI 0) rb (va_up m2 w true) pt) H := hP
                        refine xa_inc (k := 7) (lv' := [(5, .int (nI (w + 1))), (7, .int (nI ((rb (4096 * x2 + w)).toNat))), (6, .int (nI ((rb (4096 * x1 + w)).toNat))), (0, .ref (bd 0)), (1, .int (nI j)), (2, .int (nI o)), (3, .int (nI x1)), (4, .int (nI x2))]) hx hb dX2_combine_156 hl rfl (by decide) rfl (fun ls hl => ?_)
                        refine lv_goto (tgt := 41) hx hb dX2_combine_159 (by decide) ?_
                        exact ih_41 (w + 1) (va_up m2 w true) _ _ _ (by omega) (by omega) (fun z hz => by by_cases hzw : z = w; (subst hzw; rw [va_up_self]; exact cmg_m1 ho c_99 (by simp_all)); (rw [va_up_ne _ _ hzw]; exact hI z (by omega))) hP hS (lv_sub hl [3, 4, 5, 6, 7, 0] rfl)
                      · refine lv_iload hx hb dX2_combine_107 (lv_at hl 0 rfl) ?_
                        refine xa_if0 (tgt := 116) hx hb dX2_combine_109 (by decide) (fun c_109 => ?_) (fun c_109 => ?_)
                        · refine lv_iconst (v := nI 0) hx hb dX2_combine_116 (by decide) ?_
                          refine lv_goto (tgt := 155) hx hb dX2_combine_117 (by decide) ?_
                          refine xa_zast hx hb hK hP (md_D hao) hS 2 0 rfl rfl (w := w) (b := false) (by omega) (by omega) dX2_combine_155 (fun H locs hP _ hS => ?_)
                          have hP : va_P D vwCl (mdW N bd cZ cI (nI 0) rb (va_up m2 w false) pt) H := hP
                          refine xa_inc (k := 7) (lv' := [(5, .int (nI (w + 1))), (7, .int (nI ((rb (4096 * x2 + w)).toNat))), (6, .int (nI ((rb (4096 * x1 + w)).toNat))), (0, .ref (bd 0)), (1, .int (nI j)), (2, .int (nI o)), (3, .int (nI x1)), (4, .int (nI x2))]) hx hb dX2_combine_156 hl rfl (by decide) rfl (fun ls hl => ?_)
                          refine lv_goto (tgt := 41) hx hb dX2_combine_159 (by decide) ?_
                          exact ih_41 (w + 1) (va_up m2 w false) _ _ _ (by omega) (by omega) (fun z hz => by by_cases hzw : z = w; (subst hzw; rw [va_up_self]; exact cmg_m1 ho c_99 (by simp_all)); (rw [va_up_ne _ _ hzw]; exact hI z (by omega))) hP hS (lv_sub hl [3, 4, 5, 6, 7, 0] rfl)
                        · refine lv_iconst (v := nI 1) hx hb dX2_combine_112 (by decide) ?_
                          refine lv_goto (tgt := 155) hx hb dX2_combine_113 (by decide) ?_
                          refine xa_zast hx hb hK hP (md_D hao) hS 2 0 rfl rfl (w := w) (b := true) (by omega) (by omega) dX2_combine_155 (fun H locs hP _ hS => ?_)
                          have hP : va_P D vwCl (mdW N bd cZ cI (nI 0) rb (va_up m2 w true) pt) H := hP
                          refine xa_inc (k := 7) (lv' := [(5, .int (nI (w + 1))), (7, .int (nI ((rb (4096 * x2 + w)).toNat))), (6, .int (nI ((rb (4096 * x1 + w)).toNat))), (0, .ref (bd 0)), (1, .int (nI j)), (2, .int (nI o)), (3, .int (nI x1)), (4, .int (nI x2))]) hx hb dX2_combine_156 hl rfl (by decide) rfl (fun ls hl => ?_)
                          refine lv_goto (tgt := 41) hx hb dX2_combine_159 (by decide) ?_
                          exact ih_41 (w + 1) (va_up m2 w true) _ _ _ (by omega) (by omega) (fun z hz => by by_cases hzw : z = w; (subst hzw; rw [va_up_self]; exact cmg_m1 ho c_99 (by simp_all)); (rw [va_up_ne _ _ hzw]; exact hI z (by omega))) hP hS (lv_sub hl [3, 4, 5, 6, 7, 0] rfl)
                  · refine lv_iload hx hb dX2_combine_79 (lv_at hl 1 rfl) ?_
                    refine xa_if0 (tgt := 93) hx hb dX2_combine_81 (by decide) (fun c_81 => ?_) (fun c_81 => ?_)
                    · refine lv_iconst (v := nI 0) hx hb dX2_combine_93 (by decide) ?_
                      refine lv_goto (tgt := 155) hx hb dX2_combine_94 (by decide) ?_
                      refine xa_zast hx hb hK hP (md_D hao) hS 2 0 rfl rfl (w := w) (b := false) (by omega) (by omega) dX2_combine_155 (fun H locs hP _ hS => ?_)
                      have hP : va_P D vwCl (mdW N bd cZ cI (nI 0) rb (va_up m2 w false) pt) H := hP
                      refine xa_inc (k := 7) (lv' := [(5, .int (nI (w + 1))), (7, .int (nI ((rb (4096 * x2 + w)).toNat))), (6, .int (nI ((rb (4096 * x1 + w)).toNat))), (0, .ref (bd 0)), (1, .int (nI j)), (2, .int (nI o)), (3, .int (nI x1)), (4, .int (nI x2))]) hx hb dX2_combine_156 hl rfl (by decide) rfl (fun ls hl => ?_)
                      refine lv_goto (tgt := 41) hx hb dX2_combine_159 (by decide) ?_
                      exact ih_41 (w + 1) (va_up m2 w false) _ _ _ (by omega) (by omega) (fun z hz => by by_cases hzw : z = w; (subst hzw; rw [va_up_self]; exact cmg_m0 ho c_76 (by simp_all)); (rw [va_up_ne _ _ hzw]; exact hI z (by omega))) hP hS (lv_sub hl [3, 4, 5, 6, 7, 0] rfl)
                    · refine lv_iload hx hb dX2_combine_84 (lv_at hl 0 rfl) ?_
                      refine xa_if0 (tgt := 93) hx hb dX2_combine_86 (by decide) (fun c_86 => ?_) (fun c_86 => ?_)
                      · refine lv_iconst (v := nI 0) hx hb dX2_combine_93 (by decide) ?_
                        refine lv_goto (tgt := 155) hx hb dX2_combine_94 (by decide) ?_
                        refine xa_zast hx hb hK hP (md_D hao) hS 2 0 rfl rfl (w := w) (b := false) (by omega) (by omega) dX2_combine_155 (fun H locs hP _ hS => ?_)
                        have hP : va_P D vwCl (mdW N bd cZ cI (nI 0) rb (va_up m2 w false) pt) H := hP
                        refine xa_inc (k := 7) (lv' := [(5, .int (nI (w + 1))), (7, .int (nI ((rb (4096 * x2 + w)).toNat))), (6, .int (nI ((rb (4096 * x1 + w)).toNat))), (0, .ref (bd 0)), (1, .int (nI j)), (2, .int (nI o)), (3, .int (nI x1)), (4, .int (nI x2))]) hx hb dX2_combine_156 hl rfl (by decide) rfl (fun ls hl => ?_)
                        refine lv_goto (tgt := 41) hx hb dX2_combine_159 (by decide) ?_
                        exact ih_41 (w + 1) (va_up m2 w false) _ _ _ (by omega) (by omega) (fun z hz => by by_cases hzw : z = w; (subst hzw; rw [va_up_self]; exact cmg_m0 ho c_76 (by simp_all)); (rw [va_up_ne _ _ hzw]; exact hI z (by omega))) hP hS (lv_sub hl [3, 4, 5, 6, 7, 0] rfl)
                      · refine lv_iconst (v := nI 1) hx hb dX2_combine_89 (by decide) ?_
                        refine lv_goto (tgt := 155) hx hb dX2_combine_90 (by decide) ?_
                        refine xa_zast hx hb hK hP (md_D hao) hS 2 0 rfl rfl (w := w) (b := true) (by omega) (by omega) dX2_combine_155 (fun H locs hP _ hS => ?_)
                        have hP : va_P D vwCl (mdW N bd cZ cI (nI 0) rb (va_up m2 w true) pt) H := hP
                        refine xa_inc (k := 7) (lv' := [(5, .int (nI (w + 1))), (7, .int (nI ((rb (4096 * x2 + w)).toNat))), (6, .int (nI ((rb (4096 * x1 + w)).toNat))), (0, .ref (bd 0)), (1, .int (nI j)), (2, .int (nI o)), (3, .int (nI x1)), (4, .int (nI x2))]) hx hb dX2_combine_156 hl rfl (by decide) rfl (fun ls hl => ?_)
                        refine lv_goto (tgt := 41) hx hb dX2_combine_159 (by decide) ?_
                        exact ih_41 (w + 1) (va_up m2 w true) _ _ _ (by omega) (by omega) (fun z hz => by by_cases hzw : z = w; (subst hzw; rw [va_up_self]; exact cmg_m0 ho c_76 (by simp_all)); (rw [va_up_ne _ _ hzw]; exact hI z (by omega))) hP hS (lv_sub hl [3, 4, 5, 6, 7, 0] rfl)
            exact lp_41 (2 ^ N + 1 - 0) 0 mb _ _ _ (by omega) (by omega) (fun z hz => absurd hz (by omega)) hP hS (lv_sub hl [1, 2, 3, 4, 5, 0] rfl)
          · refine lv_iconst (v := nI 0) hx hb dX2_combine_36 (by decide) ?_
            exact W.zret (v := (nI 0)) hx hb hr (by decide) (fun t ht hW => ⟨⟨(nI 0), (rb, mb, pt), rfl, ⟨by rw [(show spM g k op a b = none from if_neg (by simp [c_9, c_16, c_24, isO_gt c_33]))]; rfl, by rw [(show spM g k op a b = none from if_neg (by simp [c_9, c_16, c_24, isO_gt c_33]))]; exact hg⟩, (by show va_P _ _ _ _; rw [ht]; exact hP)⟩, hS.F ht⟩) hS.2.2 dX2_combine_37
