set_option maxHeartbeats 4000000 in
set_option maxRecDepth 100000 in
/-- the reference: image -/
theorem c_mImage (l : Launch) (D : va_G) (sz : Nat) (N : Nat) (hN1 : 1 ≤ N) (hN : N ≤ 12) (bd : Nat → Nat) (hao : aok4 (fun _ => True) bd) (cZ cI : ClassId) (th : Int32) (rb mb : Nat → Bool) (pt : Nat → Int32) (g : Nat → Nat → Bool) (hg : okM N rb g) (k f mv c1 : Int32) : Met l yX2_image wsX2_image ({ frames := 2, cells := 0, slots := 0, locals := 47 } : Room) (va_Pc [.ref (bd 0), .int k, .int f, .int mv, .int c1] (wp0 D (mdW N bd cZ cI th rb mb pt) (mdT cZ cI) (fr4 bd sz) sz)) (va_Qi (fun (r : Int32) (u : (Nat → Bool) × (Nat → Bool) × (Nat → Int32)) => r = nI (spI N g k f mv c1).isSome.toNat ∧ okM N u.1 ((spI N g k f mv c1).getD g)) (fun (u : (Nat → Bool) × (Nat → Bool) × (Nat → Int32)) t => va_P D vwCl (mdW N bd cZ cI (nI 0) u.1 u.2.1 u.2.2) t.heap) (fr4 bd sz)) 0 0 (fr4 bd sz) := by
  refine Met.ofW (cc := cX2_image) (maxL := 9) (ret := (some .boolean)) (by decide) rfl ?_
  intro p e s m args below meth c s₁ B hml hv
  obtain ⟨rfl, hsz, hP, hK, htb⟩ := hv
  have hx := B.exec
  have hb := B.bytes
  have hr := B.returns
  have hts := atoms_spec (ws := wsX2_image) B.pre
  have hown : s.vm.findClass RX2 = some m.cls := findClass_of_methodNamed B.named
  have hlocks := B.notSynchronized
  subst hsz
  generalize hAe : fr4 bd s.heap.size = A at htb ⊢
  have hA : ∀ q : Nat, s.heap.size ≤ q → A q := fun q h => by rw [← hAe]; exact fr4_new q h
  have hao : aok4 A bd := by rw [← hAe]; exact aok4_fr hao
  obtain ⟨⟨tt, hZ, hT⟩, hNst⟩ := id htb
  have hS : va_S A s.heap s.heap [] := va_S.rf
  have hl := lv_entry ([.ref (bd 0), .int k, .int f, .int mv, .int c1]) (n := 9) (Nat.le_of_ble_eq_true rfl)
  rw [lg_entry_eq]
  generalize (lg_sl ([.ref (bd 0), .int k, .int f, .int mv, .int c1]) ++ List.replicate (9 - (lg_sl ([.ref (bd 0), .int k, .int f, .int mv, .int c1])).length) Slot.unset).toArray = ls at hl ⊢
  have hl : lv_has ls 9 [(0, .ref (bd 0)), (1, .int k), (2, .int f), (3, .int mv), (4, .int c1)] := hl
  have hnp := np_le hN
  have hnp0 : 0 < 2 ^ N := Nat.two_pow_pos N
  refine lv_aload_n hx hb dX2_image_0 rfl (lv_at hl 0 rfl) ?_
  refine lv_iconst (v := nI 0) hx hb dX2_image_1 (by decide) ?_
  refine va_put (D := D) (ci := 2) (v := .int (nI 0)) (ty := .int) (C := RX2) (T := TX2) (N := 6) hx hb hts (fun w h => List.mem_cons_of_mem _ (inBX2 w h)) tyX2 tyX2_ok nmX2 hown hK hP (md_D hao) hS 0 rfl rfl 0 (by decide) (hts (.fieldLink RX2 28 "ForkDeskModel" "thrown" "I") (by decide +kernel)) (fun _ h9 => h9) rfl (by decide +kernel) rfl rfl (Nat.le_of_ble_eq_true rfl) dX2_image_2 (fun H locs hP _ hS => ?_)
  have hP : va_P D vwCl (mdW N bd cZ cI (nI 0) rb mb pt) H := hP
  refine lv_iload_n hx hb dX2_image_5 rfl (lv_at hl 1 rfl) ?_
  refine va_calli (va_runS (As := [.int k]) (rest := []) ⟨hx, hb, hml, hown, hts⟩ (c_isRow l D _ k) (va_cwS 1 hts (goodIn_mono gX2_isRow) rfl rfl rfl (by decide +kernel) ⟨Nat.le_of_ble_eq_true rfl, Nat.le_of_ble_eq_true rfl⟩) ⟨wp0_blind, fun U hU hW => wp0_of (va_P.sub hP [] rfl) (hK.sub [] rfl) htb hS no_in hU hW⟩ rfl rfl hl.1 rfl (lv_room (Nat.le_of_ble_eq_true rfl)) dX2_image_6 ⟨Nat.zero_le _, Nat.zero_le _⟩) hS (fun q _ h => h.elim) (fun q h => h.elim) (fun r_6 u_6 t H1 locs ht hvm hw hB hz1 hk1 hS => ?_)
  have hP := xa_same hP hk1
  clear hz1 hk1 hB ht
  generalize H1 = H at hP hS ⊢
  subst hw
  refine xa_if0 (tgt := 40) hx hb dX2_image_9 (by decide) (fun c_9 => ?_) (fun c_9 => ?_)
  · refine lv_iconst (v := nI 0) hx hb dX2_image_40 (by decide) ?_
    exact W.zret (v := (nI 0)) hx hb hr (by decide) (fun t ht hW => ⟨⟨(nI 0), (rb, mb, pt), rfl, ⟨by rw [(show spI N g k f mv c1 = none from if_neg (by simp [c_9]))]; rfl, by rw [(show spI N g k f mv c1 = none from if_neg (by simp [c_9]))]; exact hg⟩, (by show va_P _ _ _ _; rw [ht]; exact hP)⟩, hS.F ht⟩) hS.2.2 dX2_image_41
  · refine lv_aload_n hx hb dX2_image_12 rfl (lv_at hl 0 rfl) ?_
    refine lv_iload_n hx hb dX2_image_13 rfl (lv_at hl 3 rfl) ?_
    refine va_calli (va_runV (As := [.int mv]) (rest := []) ⟨hx, hb, hml, hown, hts⟩ (c_isVariableM l D _ N bd (nI 0) mv) (cwV 1 hts (goodIn_mono gX2_isVariable) rfl rfl rfl (by decide +kernel) ⟨Nat.le_of_ble_eq_true rfl, Nat.le_of_ble_eq_true rfl⟩) ⟨wp0_blind, va_recv hK hP (ci := 2) (q0 := 0) rfl rfl, fun U hU hW => wp0_of (va_one hP 0 rfl) (hK.sub [] rfl) htb hS no_in hU hW⟩ rfl rfl hl.1 rfl (lv_room (Nat.le_of_ble_eq_true rfl)) dX2_image_14 ⟨Nat.zero_le _, Nat.zero_le _⟩) hS (fun q _ h => h.elim) (fun q h => h.elim) (fun r_14 u_14 t H1 locs ht hvm hw hB hz1 hk1 hS => ?_)
    have hP := xa_same hP hk1
    clear hz1 hk1 hB ht
    generalize H1 = H at hP hS ⊢
    subst hw
    refine xa_if0 (tgt := 40) hx hb dX2_image_17 (by decide) (fun c_17 => ?_) (fun c_17 => ?_)
    · refine lv_iconst (v := nI 0) hx hb dX2_image_40 (by decide) ?_
      exact W.zret (v := (nI 0)) hx hb hr (by decide) (fun t ht hW => ⟨⟨(nI 0), (rb, mb, pt), rfl, ⟨by rw [(show spI N g k f mv c1 = none from if_neg (by simp [c_9, c_17]))]; rfl, by rw [(show spI N g k f mv c1 = none from if_neg (by simp [c_9, c_17]))]; exact hg⟩, (by show va_P _ _ _ _; rw [ht]; exact hP)⟩, hS.F ht⟩) hS.2.2 dX2_image_41
    · obtain ⟨mm, hmm1, hmm, emm⟩ := isV_t hN c_17
      rw [emm] at hl
      have hix : ix mv = mm := by rw [emm]; exact ix_nI (by omega)
      refine lv_iload_n hx hb dX2_image_20 rfl (lv_at hl 2 rfl) ?_
      refine lv_if_lt (tgt := 40) hx hb dX2_image_21 (by decide) (fun c_21 => ?_) (fun c_21 => ?_)
      · refine lv_iconst (v := nI 0) hx hb dX2_image_40 (by decide) ?_
        exact W.zret (v := (nI 0)) hx hb hr (by decide) (fun t ht hW => ⟨⟨(nI 0), (rb, mb, pt), rfl, ⟨by rw [(show spI N g k f mv c1 = none from if_neg (by simp [c_9, c_17, hix, arR_lt c_21]))]; rfl, by rw [(show spI N g k f mv c1 = none from if_neg (by simp [c_9, c_17, hix, arR_lt c_21]))]; exact hg⟩, (by show va_P _ _ _ _; rw [ht]; exact hP)⟩, hS.F ht⟩) hS.2.2 dX2_image_41
      · refine lv_iload_n hx hb dX2_image_24 rfl (lv_at hl 2 rfl) ?_
        refine lv_bipush (v := nI 32) hx hb dX2_image_25 (by decide) ?_
        refine lv_iload_n hx hb dX2_image_27 rfl (lv_at hl 3 rfl) ?_
        refine xa_isub hx hb (by omega) dX2_image_28 ?_
        refine lv_icmp_gt (tgt := 40) hx hb dX2_image_29 (by decide) (fun c_29 => ?_) (fun c_29 => ?_)
        · refine lv_iconst (v := nI 0) hx hb dX2_image_40 (by decide) ?_
          exact W.zret (v := (nI 0)) hx hb hr (by decide) (fun t ht hW => ⟨⟨(nI 0), (rb, mb, pt), rfl, ⟨by rw [(show spI N g k f mv c1 = none from if_neg (by simp [c_9, c_17, hix, arR_g2 c_29]))]; rfl, by rw [(show spI N g k f mv c1 = none from if_neg (by simp [c_9, c_17, hix, arR_g2 c_29]))]; exact hg⟩, (by show va_P _ _ _ _; rw [ht]; exact hP)⟩, hS.F ht⟩) hS.2.2 dX2_image_41
        · refine lv_iload hx hb dX2_image_32 (lv_at hl 4 rfl) ?_
          refine va_calli (va_runS (As := [.int c1]) (rest := []) ⟨hx, hb, hml, hown, hts⟩ (c_isRow l D _ c1) (va_cwS 1 hts (goodIn_mono gX2_isRow) rfl rfl rfl (by decide +kernel) ⟨Nat.le_of_ble_eq_true rfl, Nat.le_of_ble_eq_true rfl⟩) ⟨wp0_blind, fun U hU hW => wp0_of (va_P.sub hP [] rfl) (hK.sub [] rfl) htb hS no_in hU hW⟩ rfl rfl hl.1 rfl (lv_room (Nat.le_of_ble_eq_true rfl)) dX2_image_34 ⟨Nat.zero_le _, Nat.zero_le _⟩) hS (fun q _ h => h.elim) (fun q h => h.elim) (fun r_34 u_34 t H1 locs ht hvm hw hB hz1 hk1 hS => ?_)
          have hP := xa_same hP hk1
          clear hz1 hk1 hB ht
          generalize H1 = H at hP hS ⊢
          subst hw
          refine xa_if1 (tgt := 42) hx hb dX2_image_37 (by decide) (fun c_37 => ?_) (fun c_37 => ?_)
          · have hAt : arR f mm = true := arR_in2 c_21 c_29
            obtain ⟨j, hj, ej⟩ := isR_t c_9
            rw [ej] at hl
            obtain ⟨x0, hx0, ex0⟩ := arR_t (by omega) hAt
            rw [ex0] at hl
            obtain ⟨x2, hx2, ex2⟩ := isR_t c_37
            rw [ex2] at hl
            have hsp : spI N g k f mv c1 = some (va_up g j (sgs (imB g x0 mm (N - mm) x2 (2 ^ N)) (N - mm))) := by unfold spI; rw [emm, ix_nI (by omega), if_pos (by rw [c_9, ← emm, c_17, hAt, c_37]; rfl), ej, ex0, ex2, ix_nI (by omega), ix_nI (by omega), ix_nI (by omega)]
            have hf0 : 0 < 2 ^ (N - mm) := Nat.two_pow_pos _
            have hf12 : 2 ^ (N - mm) ≤ 2 ^ N := Nat.pow_le_pow_right (by omega) (by omega)
            refine lv_iconst (v := nI 0) hx hb dX2_image_42 (by decide) ?_
            refine lv_istore (lv' := [(5, .int (nI 0)), (0, .ref (bd 0)), (1, .int (nI j)), (2, .int (nI x0)), (3, .int (nI mm)), (4, .int (nI x2))]) hx hb dX2_image_43 hl (by decide) rfl (fun ls hl => ?_)
            have lp_45 : ∀ (n9 w : Nat) (m2 : Nat → Bool) (H : Heap) (locs : List Loc) (ls : Array Slot), w ≤ 2 ^ N → 2 ^ N + 1 ≤ w + n9 → (∀ z, z < w → m2 z = false) → va_P D vwCl (mdW N bd cZ cI (nI 0) rb m2 pt) H → va_S A s.heap H locs → lv_has ls 9 [(0, .ref (bd 0)), (1, .int (nI j)), (2, .int (nI x0)), (3, .int (nI mm)), (4, .int (nI x2)), (5, .int (nI w))] → W p l e (headSpec wsX2_image ({ frames := 2, cells := 0, slots := 0, locals := 47 } : Room)).room s m ([.ref (bd 0), .int k, .int f, .int mv, .int c1] : List Value).toArray below meth c H locs 0 0 (MQ below (va_Qi (fun (r : Int32) (u : (Nat → Bool) × (Nat → Bool) × (Nat → Int32)) => r = nI (spI N g k f mv c1).isSome.toNat ∧ okM N u.1 ((spI N g k f mv c1).getD g)) (fun (u : (Nat → Bool) × (Nat → Bool) × (Nat → Int32)) t => va_P D vwCl (mdW N bd cZ cI (nI 0) u.1 u.2.1 u.2.2) t.heap) A) ([.ref (bd 0), .int k, .int f, .int mv, .int c1] : List Value).toArray s 0 0 A) (F0 m 45 ls []) := by
              intro n9
              induction n9 with
              | zero => intro w m2 H locs ls h1 h2; exact absurd h2 (by omega)
              | succ n9 ih =>
                intro w m2 H locs ls hle_45 hmm_45 hI hP hS hl
                have ih_45 := @ih
                refine lv_iload hx hb dX2_image_45 (lv_at hl 5 rfl) ?_
                refine lv_aload_n hx hb dX2_image_47 rfl (lv_at hl 0 rfl) ?_
                refine va_get (D := D) (ci := 2) (C := RX2) (T := TX2) (N := 6) hx hb hts (fun w h => List.mem_cons_of_mem _ (inBX2 w h)) hown hK hP 0 rfl rfl 2 (by decide) (hts (.fieldLink RX2 25 "ForkDeskModel" "points" "I") (by decide +kernel)) (fun _ h9 => h9) rfl dX2_image_48 ?_
                refine xa_ge (tgt := 68) hx hb (by omega) (by omega) dX2_image_51 (by decide) (fun c_51 => ?_) (fun c_51 => ?_)
                · refine lv_iconst (v := nI 1) hx hb dX2_image_68 (by decide) ?_
                  refine lv_aload_n hx hb dX2_image_69 rfl (lv_at hl 0 rfl) ?_
                  refine va_get (D := D) (ci := 2) (C := RX2) (T := TX2) (N := 6) hx hb hts (fun w h => List.mem_cons_of_mem _ (inBX2 w h)) hown hK hP 0 rfl rfl 1 (by decide) (hts (.fieldLink RX2 21 "ForkDeskModel" "n" "I") (by decide +kernel)) (fun _ h9 => h9) rfl dX2_image_70 ?_
                  refine lv_iload_n hx hb dX2_image_73 rfl (lv_at hl 3 rfl) ?_
                  refine xa_isub hx hb (by omega) dX2_image_74 ?_
                  refine xa_ishl1 hx hb (by omega) dX2_image_75 ?_
                  refine lv_istore (lv' := [(5, .int (nI (2 ^ (N - mm)))), (0, .ref (bd 0)), (1, .int (nI j)), (2, .int (nI x0)), (3, .int (nI mm)), (4, .int (nI x2))]) hx hb dX2_image_76 hl (by decide) rfl (fun ls hl => ?_)
                  refine lv_iconst (v := nI 0) hx hb dX2_image_78 (by decide) ?_
                  refine lv_istore (lv' := [(6, .int (nI 0)), (5, .int (nI (2 ^ (N - mm)))), (0, .ref (bd 0)), (1, .int (nI j)), (2, .int (nI x0)), (3, .int (nI mm)), (4, .int (nI x2))]) hx hb dX2_image_79 hl (by decide) rfl (fun ls hl => ?_)
                  have lp_81 : ∀ (n9 w : Nat) (m3 : Nat → Bool) (H : Heap) (locs : List Loc) (ls : Array Slot), w ≤ 2 ^ N → 2 ^ N + 1 ≤ w + n9 → (∀ y, y < 2 ^ N → m3 y = imR g x0 mm (N - mm) x2 w y) → va_P D vwCl (mdW N bd cZ cI (nI 0) rb m3 pt) H → va_S A s.heap H locs → lv_has ls 9 [(0, .ref (bd 0)), (1, .int (nI j)), (2, .int (nI x0)), (3, .int (nI mm)), (4, .int (nI x2)), (5, .int (nI (2 ^ (N - mm)))), (6, .int (nI w))] → W p l e (headSpec wsX2_image ({ frames := 2, cells := 0, slots := 0, locals := 47 } : Room)).room s m ([.ref (bd 0), .int k, .int f, .int mv, .int c1] : List Value).toArray below meth c H locs 0 0 (MQ below (va_Qi (fun (r : Int32) (u : (Nat → Bool) × (Nat → Bool) × (Nat → Int32)) => r = nI (spI N g k f mv c1).isSome.toNat ∧ okM N u.1 ((spI N g k f mv c1).getD g)) (fun (u : (Nat → Bool) × (Nat → Bool) × (Nat → Int32)) t => va_P D vwCl (mdW N bd cZ cI (nI 0) u.1 u.2.1 u.2.2) t.heap) A) ([.ref (bd 0), .int k, .int f, .int mv, .int c1] : List Value).toArray s 0 0 A) (F0 m 81 ls []) := by
                    intro n9
                    induction n9 with
                    | zero => intro w m3 H locs ls h1 h2; exact absurd h2 (by omega)
                    | succ n9 ih =>
                      intro w m3 H locs ls hle_81 hmm_81 hJ hP hS hl
                      have ih_81 := @ih
                      refine lv_iload hx hb dX2_image_81 (lv_at hl 6 rfl) ?_
                      refine lv_aload_n hx hb dX2_image_83 rfl (lv_at hl 0 rfl) ?_
                      refine va_get (D := D) (ci := 2) (C := RX2) (T := TX2) (N := 6) hx hb hts (fun w h => List.mem_cons_of_mem _ (inBX2 w h)) hown hK hP 0 rfl rfl 2 (by decide) (hts (.fieldLink RX2 25 "ForkDeskModel" "points" "I") (by decide +kernel)) (fun _ h9 => h9) rfl dX2_image_84 ?_
                      refine xa_ge (tgt := 150) hx hb (by omega) (by omega) dX2_image_87 (by decide) (fun c_87 => ?_) (fun c_87 => ?_)
                      · refine lv_aload_n hx hb dX2_image_150 rfl (lv_at hl 0 rfl) ?_
                        refine lv_iload_n hx hb dX2_image_151 rfl (lv_at hl 1 rfl) ?_
                        refine va_calli (va_runV (As := [.int (nI j)]) (rest := []) ⟨hx, hb, hml, hown, hts⟩ (c_keep l D _ N hN1 hN bd (aok4_true hao) cZ cI (nI 0) rb m3 pt j (by omega)) (cwV 1 hts (goodIn_mono gX2_keep) rfl rfl rfl (by decide +kernel) ⟨Nat.le_of_ble_eq_true rfl, Nat.le_of_ble_eq_true rfl⟩) ⟨wp0_blind, va_recv hK hP (ci := 2) (q0 := 0) rfl rfl, fun U hU hW => wp0_of hP hK htb hS (fr4_in hao hS hA) hU hW⟩ rfl rfl hl.1 rfl (lv_room (Nat.le_of_ble_eq_true rfl)) dX2_image_152 ⟨Nat.zero_le _, Nat.zero_le _⟩) hS (fun q _ h => (fr4_in hao hS hA) q h) ((fr4_in hao hS hA)) (fun r_152 u_152 t H1 locs ht hvm hw hB hz1 hk1 hS => ?_)
                        rw [ht] at hB
                        obtain ⟨hw1, hw2⟩ := hw
                        subst hw1
                        subst hw2
                        have hP := hB
                        clear hz1 hk1 hB ht
                        generalize H1 = H at hP hS ⊢
                        exact W.zret (v := (nI 1)) hx hb hr (by decide) (fun t ht hW => ⟨⟨(nI 1), (kpt rb m3 j (2 ^ N), m3, pt), rfl, ⟨by rw [hsp]; rfl, by rw [hsp]; exact (okM_up hN hg hj (fun z hz => by rw [hJ z hz, show w = 2 ^ N by omega]; exact imR_end))⟩, (by show va_P _ _ _ _; rw [ht]; exact hP)⟩, hS.F ht⟩) hS.2.2 dX2_image_155
                      · refine lv_aload_n hx hb dX2_image_90 rfl (lv_at hl 0 rfl) ?_
                        refine lv_iload hx hb dX2_image_91 (lv_at hl 4 rfl) ?_
                        refine lv_iload hx hb dX2_image_93 (lv_at hl 6 rfl) ?_
                        refine va_calli (va_runV (As := [.int (nI x2), .int (nI w)]) (rest := []) ⟨hx, hb, hml, hown, hts⟩ (c_has l D _ N bd cZ (nI 0) rb x2 w (by omega)) (cwV 2 hts (goodIn_mono gX2_has) rfl rfl rfl (by decide +kernel) ⟨Nat.le_of_ble_eq_true rfl, Nat.le_of_ble_eq_true rfl⟩) ⟨wp0_blind, va_recv hK hP (ci := 2) (q0 := 0) rfl rfl, fun U hU hW => wp0_of (hP.sub [0, 1] rfl) (hK.sub [0] rfl) htb hS no_in hU hW⟩ rfl rfl hl.1 rfl (lv_room (Nat.le_of_ble_eq_true rfl)) dX2_image_95 ⟨Nat.zero_le _, Nat.zero_le _⟩) hS (fun q _ h => h.elim) (fun q h => h.elim) (fun r_95 u_95 t H1 locs ht hvm hw hB hz1 hk1 hS => ?_)
                        have hP := xa_same hP hk1
                        clear hz1 hk1 hB ht
                        generalize H1 = H at hP hS ⊢
                        subst hw
                        refine xa_if1 (tgt := 104) hx hb dX2_image_98 (by decide) (fun c_98 => ?_) (fun c_98 => ?_)
                        · refine lv_aload_n hx hb dX2_image_104 rfl (lv_at hl 0 rfl) ?_
                          refine lv_iload_n hx hb dX2_image_105 rfl (lv_at hl 2 rfl) ?_
                          refine lv_iload_n hx hb dX2_image_106 rfl (lv_at hl 3 rfl) ?_
                          refine lv_iload hx hb dX2_image_107 (lv_at hl 6 rfl) ?_
                          refine va_calli (va_runV (As := [.int (nI x0), .int (nI mm), .int (nI w)]) (rest := []) ⟨hx, hb, hml, hown, hts⟩ (c_led l D _ N bd cZ (nI 0) rb x0 mm w (by omega) (by omega) (by omega)) (cwV 3 hts (goodIn_mono gX2_led) rfl rfl rfl (by decide +kernel) ⟨Nat.le_of_ble_eq_true rfl, Nat.le_of_ble_eq_true rfl⟩) ⟨wp0_blind, va_recv hK hP (ci := 2) (q0 := 0) rfl rfl, fun U hU hW => wp0_of (hP.sub [0, 1] rfl) (hK.sub [0] rfl) htb hS no_in hU hW⟩ rfl rfl hl.1 rfl (lv_room (Nat.le_of_ble_eq_true rfl)) dX2_image_109 ⟨Nat.zero_le _, Nat.zero_le _⟩) hS (fun q _ h => h.elim) (fun q h => h.elim) (fun r_109 u_109 t H1 locs ht hvm hw hB hz1 hk1 hS => ?_)
                          have hP := xa_same hP hk1
                          clear hz1 hk1 hB ht
                          generalize H1 = H at hP hS ⊢
                          subst hw
                          have htl := tp_lt (fun k p => rb (4096 * k + p)) x0 w mm
                          have hto := tp_top hmm htl
                          generalize hTT : tp (fun k p => rb (4096 * k + p)) x0 w mm = TT at htl hto ⊢
                          generalize hTO : TT * 2 ^ (N - mm) = TO at hto
                          refine lv_iload hx hb dX2_image_112 (lv_at hl 5 rfl) ?_
                          refine xa_imul hx hb dX2_image_114 ?_
                          rw [hTO]
                          refine lv_istore (lv' := [(7, .int (nI TO)), (0, .ref (bd 0)), (1, .int (nI j)), (2, .int (nI x0)), (3, .int (nI mm)), (4, .int (nI x2)), (5, .int (nI (2 ^ (N - mm)))), (6, .int (nI w))]) hx hb dX2_image_115 hl (by decide) rfl (fun ls hl => ?_)
                          refine lv_iconst (v := nI 0) hx hb dX2_image_117 (by decide) ?_
                          refine lv_istore (lv' := [(8, .int (nI 0)), (7, .int (nI TO)), (0, .ref (bd 0)), (1, .int (nI j)), (2, .int (nI x0)), (3, .int (nI mm)), (4, .int (nI x2)), (5, .int (nI (2 ^ (N - mm)))), (6, .int (nI w))]) hx hb dX2_image_118 hl (by decide) rfl (fun ls hl => ?_)
                          have lp_120 : ∀ (n9 x : Nat) (m4 : Nat → Bool) (H : Heap) (locs : List Loc) (ls : Array Slot), x ≤ 2 ^ (N - mm) → 2 ^ (N - mm) + 1 ≤ x + n9 → (∀ y, y < 2 ^ N → m4 y = (m3 y || decide (TO ≤ y ∧ y < TO + x))) → va_P D vwCl (mdW N bd cZ cI (nI 0) rb m4 pt) H → va_S A s.heap H locs → lv_has ls 9 [(0, .ref (bd 0)), (1, .int (nI j)), (2, .int (nI x0)), (3, .int (nI mm)), (4, .int (nI x2)), (5, .int (nI (2 ^ (N - mm)))), (6, .int (nI w)), (7, .int (nI TO)), (8, .int (nI x))] → W p l e (headSpec wsX2_image ({ frames := 2, cells := 0, slots := 0, locals := 47 } : Room)).room s m ([.ref (bd 0), .int k, .int f, .int mv, .int c1] : List Value).toArray below meth c H locs 0 0 (MQ below (va_Qi (fun (r : Int32) (u : (Nat → Bool) × (Nat → Bool) × (Nat → Int32)) => r = nI (spI N g k f mv c1).isSome.toNat ∧ okM N u.1 ((spI N g k f mv c1).getD g)) (fun (u : (Nat → Bool) × (Nat → Bool) × (Nat → Int32)) t => va_P D vwCl (mdW N bd cZ cI (nI 0) u.1 u.2.1 u.2.2) t.heap) A) ([.ref (bd 0), .int k, .int f, .int mv, .int c1] : List Value).toArray s 0 0 A) (F0 m 120 ls []) := by
                            intro n9
                            induction n9 with
                            | zero => intro x m4 H locs ls h1 h2; exact absurd h2 (by omega)
                            | succ n9 ih =>
                              intro x m4 H locs ls hle_120 hmm_120 hL hP hS hl
                              have ih_120 := @ih
                              refine lv_iload hx hb dX2_image_120 (lv_at hl 8 rfl) ?_
                              refine lv_iload hx hb dX2_image_122 (lv_at hl 5 rfl) ?_
                              refine xa_ge (tgt := 144) hx hb (by omega) (by omega) dX2_image_124 (by decide) (fun c_124 => ?_) (fun c_124 => ?_)
                              · refine xa_inc (k := 6) (lv' := [(6, .int (nI (w + 1))), (0, .ref (bd 0)), (1, .int (nI j)), (2, .int (nI x0)), (3, .int (nI mm)), (4, .int (nI x2)), (5, .int (nI (2 ^ (N - mm)))), (7, .int (nI TO)), (8, .int (nI x))]) hx hb dX2_image_144 hl rfl (by decide) rfl (fun ls hl => ?_)
                                refine lv_goto (tgt := 81) hx hb dX2_image_147 (by decide) ?_
                                exact ih_81 (w + 1) m4 _ _ _ (by omega) (by omega) (imR_yes hg hx2 (by omega) hTT hTO hmm c_87 c_98 hJ (fun y hy => by rw [hL y hy, show x = 2 ^ (N - mm) by omega])) hP hS (lv_sub hl [1, 2, 3, 4, 5, 6, 0] rfl)
                              · refine lv_aload_n hx hb dX2_image_127 rfl (lv_at hl 0 rfl) ?_
                                refine va_get (D := D) (ci := 2) (C := RX2) (T := TX2) (N := 6) hx hb hts (fun w h => List.mem_cons_of_mem _ (inBX2 w h)) hown hK hP 0 rfl rfl 4 (by decide) (hts (.fieldLink RX2 14 "ForkDeskModel" "made" "[Z") (by decide +kernel)) (fun _ h9 => h9) rfl dX2_image_128 ?_
                                refine lv_iload hx hb dX2_image_131 (lv_at hl 7 rfl) ?_
                                refine lv_iload hx hb dX2_image_133 (lv_at hl 8 rfl) ?_
                                refine xa_iadd hx hb dX2_image_135 ?_
                                refine lv_iconst (v := nI 1) hx hb dX2_image_136 (by decide) ?_
                                refine xa_zast hx hb hK hP (md_D hao) hS 2 0 rfl rfl (w := TO + x) (b := true) (by omega) (by omega) dX2_image_137 (fun H locs hP _ hS => ?_)
                                have hP : va_P D vwCl (mdW N bd cZ cI (nI 0) rb (va_up m4 (TO + x) true) pt) H := hP
                                refine xa_inc (k := 8) (lv' := [(8, .int (nI (x + 1))), (0, .ref (bd 0)), (1, .int (nI j)), (2, .int (nI x0)), (3, .int (nI mm)), (4, .int (nI x2)), (5, .int (nI (2 ^ (N - mm)))), (6, .int (nI w)), (7, .int (nI TO))]) hx hb dX2_image_138 hl rfl (by decide) rfl (fun ls hl => ?_)
                                refine lv_goto (tgt := 120) hx hb dX2_image_141 (by decide) ?_
                                exact ih_120 (x + 1) (va_up m4 (TO + x) true) _ _ _ (by omega) (by omega) (fun y hy => by by_cases hyx : y = TO + x; (subst hyx; rw [va_up_self, decide_eq_true (by omega), Bool.or_true]); (rw [va_up_ne _ _ hyx, hL y hy, show decide (TO ≤ y ∧ y < TO + (x + 1)) = decide (TO ≤ y ∧ y < TO + x) by rw [decide_eq_decide]; omega])) hP hS (lv_sub hl [1, 2, 3, 4, 5, 6, 7, 8, 0] rfl)
                          exact lp_120 (2 ^ (N - mm) + 1 - 0) 0 m3 _ _ _ (by omega) (by omega) (fun y hy => by rw [decide_eq_false (by omega), Bool.or_false]) hP hS (lv_sub hl [2, 3, 4, 5, 6, 7, 8, 1, 0] rfl)
                        · refine lv_goto (tgt := 144) hx hb dX2_image_101 (by decide) ?_
                          refine xa_inc (k := 6) (lv' := [(6, .int (nI (w + 1))), (0, .ref (bd 0)), (1, .int (nI j)), (2, .int (nI x0)), (3, .int (nI mm)), (4, .int (nI x2)), (5, .int (nI (2 ^ (N - mm))))]) hx hb dX2_image_144 hl rfl (by decide) rfl (fun ls hl => ?_)
                          refine lv_goto (tgt := 81) hx hb dX2_image_147 (by decide) ?_
                          exact ih_81 (w + 1) m3 _ _ _ (by omega) (by omega) (imR_no hg hx2 c_87 c_98 hJ) hP hS (lv_sub hl [1, 2, 3, 4, 5, 6, 0] rfl)
                  exact lp_81 (2 ^ N + 1 - 0) 0 m2 _ _ _ (by omega) (by omega) (fun y hy => by rw [hI y (by omega)]; rfl) hP hS (lv_sub hl [2, 3, 4, 5, 6, 1, 0] rfl)
                · refine lv_aload_n hx hb dX2_image_54 rfl (lv_at hl 0 rfl) ?_
                  refine va_get (D := D) (ci := 2) (C := RX2) (T := TX2) (N := 6) hx hb hts (fun w h => List.mem_cons_of_mem _ (inBX2 w h)) hown hK hP 0 rfl rfl 4 (by decide) (hts (.fieldLink RX2 14 "ForkDeskModel" "made" "[Z") (by decide +kernel)) (fun _ h9 => h9) rfl dX2_image_55 ?_
                  refine lv_iload hx hb dX2_image_58 (lv_at hl 5 rfl) ?_
                  refine lv_iconst (v := nI 0) hx hb dX2_image_60 (by decide) ?_
                  refine xa_zast hx hb hK hP (md_D hao) hS 2 0 rfl rfl (w := w) (b := false) (by omega) (by omega) dX2_image_61 (fun H locs hP _ hS => ?_)
                  have hP : va_P D vwCl (mdW N bd cZ cI (nI 0) rb (va_up m2 w false) pt) H := hP
                  refine xa_inc (k := 5) (lv' := [(5, .int (nI (w + 1))), (0, .ref (bd 0)), (1, .int (nI j)), (2, .int (nI x0)), (3, .int (nI mm)), (4, .int (nI x2))]) hx hb dX2_image_62 hl rfl (by decide) rfl (fun ls hl => ?_)
                  refine lv_goto (tgt := 45) hx hb dX2_image_65 (by decide) ?_
                  exact ih_45 (w + 1) (va_up m2 w false) _ _ _ (by omega) (by omega) (fun z hz => by by_cases hzw : z = w; (subst hzw; rw [va_up_self]; skip); (rw [va_up_ne _ _ hzw]; exact hI z (by omega))) hP hS (lv_sub hl [1, 2, 3, 4, 5, 0] rfl)
            exact lp_45 (2 ^ N + 1 - 0) 0 mb _ _ _ (by omega) (by omega) (fun z hz => absurd hz (by omega)) hP hS (lv_sub hl [1, 2, 3, 4, 5, 0] rfl)
          · refine lv_iconst (v := nI 0) hx hb dX2_image_40 (by decide) ?_
            exact W.zret (v := (nI 0)) hx hb hr (by decide) (fun t ht hW => ⟨⟨(nI 0), (rb, mb, pt), rfl, ⟨by rw [(show spI N g k f mv c1 = none from if_neg (by simp [c_9, c_17, hix, arR_in2 c_21 c_29, c_37]))]; rfl, by rw [(show spI N g k f mv c1 = none from if_neg (by simp [c_9, c_17, hix, arR_in2 c_21 c_29, c_37]))]; exact hg⟩, (by show va_P _ _ _ _; rw [ht]; exact hP)⟩, hS.F ht⟩) hS.2.2 dX2_image_41
