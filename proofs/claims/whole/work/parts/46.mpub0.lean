set_option maxHeartbeats 4000000 in
set_option maxRecDepth 100000 in
/-- the reference: fix -/
theorem c_mFix (l : Launch) (D : va_G) (sz : Nat) (N : Nat) (hN1 : 1 ≤ N) (hN : N ≤ 12) (bd : Nat → Nat) (hao : aok4 (fun _ => True) bd) (cZ cI : ClassId) (th : Int32) (rb mb : Nat → Bool) (pt : Nat → Int32) (g : Nat → Nat → Bool) (hg : okM N rb g) (k a v x : Int32) : Met l yX2_fix wsX2_fix ({ frames := 1, cells := 0, slots := 0, locals := 22 } : Room) (va_Pc [.ref (bd 0), .int k, .int a, .int v, .int x] (wp0 D (mdW N bd cZ cI th rb mb pt) (mdT cZ cI) (fr4 bd sz) sz)) (va_Qi (fun (r : Int32) (u : (Nat → Bool) × (Nat → Bool) × (Nat → Int32)) => r = nI (spF N g k a v x).isSome.toNat ∧ okM N u.1 ((spF N g k a v x).getD g)) (fun (u : (Nat → Bool) × (Nat → Bool) × (Nat → Int32)) t => va_P D vwCl (mdW N bd cZ cI (nI 0) u.1 u.2.1 u.2.2) t.heap) (fr4 bd sz)) 0 0 (fr4 bd sz) := by
  refine Met.ofW (cc := cX2_fix) (maxL := 7) (ret := (some .boolean)) (by decide) rfl ?_
  intro p e s m args below meth c s₁ B hml hv
  obtain ⟨rfl, hsz, hP, hK, htb⟩ := hv
  have hx := B.exec
  have hb := B.bytes
  have hr := B.returns
  have hts := atoms_spec (ws := wsX2_fix) B.pre
  have hown : s.vm.findClass RX2 = some m.cls := findClass_of_methodNamed B.named
  have hlocks := B.notSynchronized
  subst hsz
  generalize hAe : fr4 bd s.heap.size = A at htb ⊢
  have hA : ∀ q : Nat, s.heap.size ≤ q → A q := fun q h => by rw [← hAe]; exact fr4_new q h
  have hao : aok4 A bd := by rw [← hAe]; exact aok4_fr hao
  obtain ⟨⟨tt, hZ, hT⟩, hNst⟩ := id htb
  have hS : va_S A s.heap s.heap [] := va_S.rf
  have hl := lv_entry ([.ref (bd 0), .int k, .int a, .int v, .int x]) (n := 7) (Nat.le_of_ble_eq_true rfl)
  rw [lg_entry_eq]
  generalize (lg_sl ([.ref (bd 0), .int k, .int a, .int v, .int x]) ++ List.replicate (7 - (lg_sl ([.ref (bd 0), .int k, .int a, .int v, .int x])).length) Slot.unset).toArray = ls at hl ⊢
  have hl : lv_has ls 7 [(0, .ref (bd 0)), (1, .int k), (2, .int a), (3, .int v), (4, .int x)] := hl
  have hnp := np_le hN
  have hnp0 : 0 < 2 ^ N := Nat.two_pow_pos N
  refine lv_aload_n hx hb dX2_fix_0 rfl (lv_at hl 0 rfl) ?_
  refine lv_iconst (v := nI 0) hx hb dX2_fix_1 (by decide) ?_
  refine va_put (D := D) (ci := 2) (v := .int (nI 0)) (ty := .int) (C := RX2) (T := TX2) (N := 6) hx hb hts (fun w h => List.mem_cons_of_mem _ (inBX2 w h)) tyX2 tyX2_ok nmX2 hown hK hP (md_D hao) hS 0 rfl rfl 0 (by decide) (hts (.fieldLink RX2 28 "ForkDeskModel" "thrown" "I") (by decide +kernel)) (fun _ h9 => h9) rfl (by decide +kernel) rfl rfl (Nat.le_of_ble_eq_true rfl) dX2_fix_2 (fun H locs hP _ hS => ?_)
  have hP : va_P D vwCl (mdW N bd cZ cI (nI 0) rb mb pt) H := hP
  refine lv_iload_n hx hb dX2_fix_5 rfl (lv_at hl 1 rfl) ?_
  refine va_calli (va_runS (As := [.int k]) (rest := []) ⟨hx, hb, hml, hown, hts⟩ (c_isRow l D _ k) (va_cwS 1 hts (goodIn_mono gX2_isRow) rfl rfl rfl (by decide +kernel) ⟨Nat.le_of_ble_eq_true rfl, Nat.le_of_ble_eq_true rfl⟩) ⟨wp0_blind, fun U hU hW => wp0_of (va_P.sub hP [] rfl) (hK.sub [] rfl) htb hS no_in hU hW⟩ rfl rfl hl.1 rfl (lv_room (Nat.le_of_ble_eq_true rfl)) dX2_fix_6 ⟨Nat.zero_le _, Nat.zero_le _⟩) hS (fun q _ h => h.elim) (fun q h => h.elim) (fun r_6 u_6 t H1 locs ht hvm hw hB hz1 hk1 hS => ?_)
  have hP := xa_same hP hk1
  clear hz1 hk1 hB ht
  generalize H1 = H at hP hS ⊢
  subst hw
  refine xa_if0 (tgt := 38) hx hb dX2_fix_9 (by decide) (fun c_9 => ?_) (fun c_9 => ?_)
  · refine lv_iconst (v := nI 0) hx hb dX2_fix_38 (by decide) ?_
    exact W.zret (v := (nI 0)) hx hb hr (by decide) (fun t ht hW => ⟨⟨(nI 0), (rb, mb, pt), rfl, ⟨by rw [(show spF N g k a v x = none from if_neg (by simp [c_9]))]; rfl, by rw [(show spF N g k a v x = none from if_neg (by simp [c_9]))]; exact hg⟩, (by show va_P _ _ _ _; rw [ht]; exact hP)⟩, hS.F ht⟩) hS.2.2 dX2_fix_39
  · refine lv_iload_n hx hb dX2_fix_12 rfl (lv_at hl 2 rfl) ?_
    refine va_calli (va_runS (As := [.int a]) (rest := []) ⟨hx, hb, hml, hown, hts⟩ (c_isRow l D _ a) (va_cwS 1 hts (goodIn_mono gX2_isRow) rfl rfl rfl (by decide +kernel) ⟨Nat.le_of_ble_eq_true rfl, Nat.le_of_ble_eq_true rfl⟩) ⟨wp0_blind, fun U hU hW => wp0_of (va_P.sub hP [] rfl) (hK.sub [] rfl) htb hS no_in hU hW⟩ rfl rfl hl.1 rfl (lv_room (Nat.le_of_ble_eq_true rfl)) dX2_fix_13 ⟨Nat.zero_le _, Nat.zero_le _⟩) hS (fun q _ h => h.elim) (fun q h => h.elim) (fun r_13 u_13 t H1 locs ht hvm hw hB hz1 hk1 hS => ?_)
    have hP := xa_same hP hk1
    clear hz1 hk1 hB ht
    generalize H1 = H at hP hS ⊢
    subst hw
    refine xa_if0 (tgt := 38) hx hb dX2_fix_16 (by decide) (fun c_16 => ?_) (fun c_16 => ?_)
    · refine lv_iconst (v := nI 0) hx hb dX2_fix_38 (by decide) ?_
      exact W.zret (v := (nI 0)) hx hb hr (by decide) (fun t ht hW => ⟨⟨(nI 0), (rb, mb, pt), rfl, ⟨by rw [(show spF N g k a v x = none from if_neg (by simp [c_9, c_16]))]; rfl, by rw [(show spF N g k a v x = none from if_neg (by simp [c_9, c_16]))]; exact hg⟩, (by show va_P _ _ _ _; rw [ht]; exact hP)⟩, hS.F ht⟩) hS.2.2 dX2_fix_39
    · refine lv_aload_n hx hb dX2_fix_19 rfl (lv_at hl 0 rfl) ?_
      refine lv_iload_n hx hb dX2_fix_20 rfl (lv_at hl 3 rfl) ?_
      refine va_calli (va_runV (As := [.int v]) (rest := []) ⟨hx, hb, hml, hown, hts⟩ (c_isVariableM l D _ N bd (nI 0) v) (cwV 1 hts (goodIn_mono gX2_isVariable) rfl rfl rfl (by decide +kernel) ⟨Nat.le_of_ble_eq_true rfl, Nat.le_of_ble_eq_true rfl⟩) ⟨wp0_blind, va_recv hK hP (ci := 2) (q0 := 0) rfl rfl, fun U hU hW => wp0_of (va_one hP 0 rfl) (hK.sub [] rfl) htb hS no_in hU hW⟩ rfl rfl hl.1 rfl (lv_room (Nat.le_of_ble_eq_true rfl)) dX2_fix_21 ⟨Nat.zero_le _, Nat.zero_le _⟩) hS (fun q _ h => h.elim) (fun q h => h.elim) (fun r_21 u_21 t H1 locs ht hvm hw hB hz1 hk1 hS => ?_)
      have hP := xa_same hP hk1
      clear hz1 hk1 hB ht
      generalize H1 = H at hP hS ⊢
      subst hw
      refine xa_if0 (tgt := 38) hx hb dX2_fix_24 (by decide) (fun c_24 => ?_) (fun c_24 => ?_)
      · refine lv_iconst (v := nI 0) hx hb dX2_fix_38 (by decide) ?_
        exact W.zret (v := (nI 0)) hx hb hr (by decide) (fun t ht hW => ⟨⟨(nI 0), (rb, mb, pt), rfl, ⟨by rw [(show spF N g k a v x = none from if_neg (by simp [c_9, c_16, c_24]))]; rfl, by rw [(show spF N g k a v x = none from if_neg (by simp [c_9, c_16, c_24]))]; exact hg⟩, (by show va_P _ _ _ _; rw [ht]; exact hP)⟩, hS.F ht⟩) hS.2.2 dX2_fix_39
      · refine lv_iload hx hb dX2_fix_27 (lv_at hl 4 rfl) ?_
        refine lv_if_lt (tgt := 38) hx hb dX2_fix_29 (by decide) (fun c_29 => ?_) (fun c_29 => ?_)
        · refine lv_iconst (v := nI 0) hx hb dX2_fix_38 (by decide) ?_
          exact W.zret (v := (nI 0)) hx hb hr (by decide) (fun t ht hW => ⟨⟨(nI 0), (rb, mb, pt), rfl, ⟨by rw [(show spF N g k a v x = none from if_neg (by simp [c_9, c_16, c_24, isB_lt c_29]))]; rfl, by rw [(show spF N g k a v x = none from if_neg (by simp [c_9, c_16, c_24, isB_lt c_29]))]; exact hg⟩, (by show va_P _ _ _ _; rw [ht]; exact hP)⟩, hS.F ht⟩) hS.2.2 dX2_fix_39
        · refine lv_iload hx hb dX2_fix_32 (lv_at hl 4 rfl) ?_
          refine lv_iconst (v := nI 1) hx hb dX2_fix_34 (by decide) ?_
          refine lv_icmp_le (tgt := 40) hx hb dX2_fix_35 (by decide) (fun c_35 => ?_) (fun c_35 => ?_)
          · have hBt : isB x = true := isB_in c_29 c_35
            obtain ⟨j, hj, ej⟩ := isR_t c_9
            rw [ej] at hl
            obtain ⟨x1, hx1, ex1⟩ := isR_t c_16
            rw [ex1] at hl
            obtain ⟨i, hi1, hi, ei⟩ := isV_t hN c_24
            rw [ei] at hl
            obtain ⟨bv, ebv⟩ := isB_t hBt
            rw [ebv] at hl
            have hbv := tn_le bv
            have hsp : spF N g k a v x = some (va_up g j (fx (g x1) (N - i) bv)) := by unfold spF; rw [if_pos (by rw [c_9, c_16, c_24, hBt]; rfl), ej, ex1, ei, ebv, ix_nI (by omega), ix_nI (by omega), ix_nI (by omega), tn_d]
            refine lv_iconst (v := nI 1) hx hb dX2_fix_40 (by decide) ?_
            refine lv_aload_n hx hb dX2_fix_41 rfl (lv_at hl 0 rfl) ?_
            refine va_get (D := D) (ci := 2) (C := RX2) (T := TX2) (N := 6) hx hb hts (fun w h => List.mem_cons_of_mem _ (inBX2 w h)) hown hK hP 0 rfl rfl 1 (by decide) (hts (.fieldLink RX2 21 "ForkDeskModel" "n" "I") (by decide +kernel)) (fun _ h9 => h9) rfl dX2_fix_42 ?_
            refine lv_iload_n hx hb dX2_fix_45 rfl (lv_at hl 3 rfl) ?_
            refine xa_isub hx hb (by omega) dX2_fix_46 ?_
            refine xa_ishl1 hx hb (by omega) dX2_fix_47 ?_
            refine lv_istore (lv' := [(5, .int (nI (2 ^ (N - i)))), (0, .ref (bd 0)), (1, .int (nI j)), (2, .int (nI x1)), (3, .int (nI i)), (4, .int (nI bv.toNat))]) hx hb dX2_fix_48 hl (by decide) rfl (fun ls hl => ?_)
            refine lv_iconst (v := nI 0) hx hb dX2_fix_50 (by decide) ?_
            refine lv_istore (lv' := [(6, .int (nI 0)), (5, .int (nI (2 ^ (N - i)))), (0, .ref (bd 0)), (1, .int (nI j)), (2, .int (nI x1)), (3, .int (nI i)), (4, .int (nI bv.toNat))]) hx hb dX2_fix_51 hl (by decide) rfl (fun ls hl => ?_)
            have lp_53 : ∀ (n9 w : Nat) (m2 : Nat → Bool) (H : Heap) (locs : List Loc) (ls : Array Slot), w ≤ 2 ^ N → 2 ^ N + 1 ≤ w + n9 → (∀ z, z < w → m2 z = rb (4096 * x1 + fxi z (N - i) bv)) → va_P D vwCl (mdW N bd cZ cI (nI 0) rb m2 pt) H → va_S A s.heap H locs → lv_has ls 7 [(0, .ref (bd 0)), (1, .int (nI j)), (2, .int (nI x1)), (3, .int (nI i)), (4, .int (nI bv.toNat)), (5, .int (nI (2 ^ (N - i)))), (6, .int (nI w))] → W p l e (headSpec wsX2_fix ({ frames := 1, cells := 0, slots := 0, locals := 22 } : Room)).room s m ([.ref (bd 0), .int k, .int a, .int v, .int x] : List Value).toArray below meth c H locs 0 0 (MQ below (va_Qi (fun (r : Int32) (u : (Nat → Bool) × (Nat → Bool) × (Nat → Int32)) => r = nI (spF N g k a v x).isSome.toNat ∧ okM N u.1 ((spF N g k a v x).getD g)) (fun (u : (Nat → Bool) × (Nat → Bool) × (Nat → Int32)) t => va_P D vwCl (mdW N bd cZ cI (nI 0) u.1 u.2.1 u.2.2) t.heap) A) ([.ref (bd 0), .int k, .int a, .int v, .int x] : List Value).toArray s 0 0 A) (F0 m 53 ls []) := by
              intro n9
              induction n9 with
              | zero => intro w m2 H locs ls h1 h2; exact absurd h2 (by omega)
              | succ n9 ih =>
                intro w m2 H locs ls hle_53 hmm_53 hI hP hS hl
                have ih_53 := @ih
                refine lv_iload hx hb dX2_fix_53 (lv_at hl 6 rfl) ?_
                refine lv_aload_n hx hb dX2_fix_55 rfl (lv_at hl 0 rfl) ?_
                refine va_get (D := D) (ci := 2) (C := RX2) (T := TX2) (N := 6) hx hb hts (fun w h => List.mem_cons_of_mem _ (inBX2 w h)) hown hK hP 0 rfl rfl 2 (by decide) (hts (.fieldLink RX2 25 "ForkDeskModel" "points" "I") (by decide +kernel)) (fun _ h9 => h9) rfl dX2_fix_56 ?_
                refine xa_ge (tgt := 101) hx hb (by omega) (by omega) dX2_fix_59 (by decide) (fun c_59 => ?_) (fun c_59 => ?_)
                · refine lv_aload_n hx hb dX2_fix_101 rfl (lv_at hl 0 rfl) ?_
                  refine lv_iload_n hx hb dX2_fix_102 rfl (lv_at hl 1 rfl) ?_
                  refine va_calli (va_runV (As := [.int (nI j)]) (rest := []) ⟨hx, hb, hml, hown, hts⟩ (c_keep l D _ N hN1 hN bd (aok4_true hao) cZ cI (nI 0) rb m2 pt j (by omega)) (cwV 1 hts (goodIn_mono gX2_keep) rfl rfl rfl (by decide +kernel) ⟨Nat.le_of_ble_eq_true rfl, Nat.le_of_ble_eq_true rfl⟩) ⟨wp0_blind, va_recv hK hP (ci := 2) (q0 := 0) rfl rfl, fun U hU hW => wp0_of hP hK htb hS (fr4_in hao hS hA) hU hW⟩ rfl rfl hl.1 rfl (lv_room (Nat.le_of_ble_eq_true rfl)) dX2_fix_103 ⟨Nat.zero_le _, Nat.zero_le _⟩) hS (fun q _ h => (fr4_in hao hS hA) q h) ((fr4_in hao hS hA)) (fun r_103 u_103 t H1 locs ht hvm hw hB hz1 hk1 hS => ?_)
                  rw [ht] at hB
                  obtain ⟨hw1, hw2⟩ := hw
                  subst hw1
                  subst hw2
                  have hP := hB
                  clear hz1 hk1 hB ht
                  generalize H1 = H at hP hS ⊢
                  exact W.zret (v := (nI 1)) hx hb hr (by decide) (fun t ht hW => ⟨⟨(nI 1), (kpt rb m2 j (2 ^ N), m2, pt), rfl, ⟨by rw [hsp]; rfl, by rw [hsp]; exact (okM_up hN hg hj (fun z hz => by rw [hI z (by omega), hg x1 _ hx1 (fxi_lt hz (show N - i < N by omega))]; rfl))⟩, (by show va_P _ _ _ _; rw [ht]; exact hP)⟩, hS.F ht⟩) hS.2.2 dX2_fix_106
                · refine lv_aload_n hx hb dX2_fix_62 rfl (lv_at hl 0 rfl) ?_
                  refine va_get (D := D) (ci := 2) (C := RX2) (T := TX2) (N := 6) hx hb hts (fun w h => List.mem_cons_of_mem _ (inBX2 w h)) hown hK hP 0 rfl rfl 4 (by decide) (hts (.fieldLink RX2 14 "ForkDeskModel" "made" "[Z") (by decide +kernel)) (fun _ h9 => h9) rfl dX2_fix_63 ?_
                  refine lv_iload hx hb dX2_fix_66 (lv_at hl 6 rfl) ?_
                  refine lv_aload_n hx hb dX2_fix_68 rfl (lv_at hl 0 rfl) ?_
                  refine lv_iload_n hx hb dX2_fix_69 rfl (lv_at hl 2 rfl) ?_
                  refine lv_iload hx hb dX2_fix_70 (lv_at hl 4 rfl) ?_
                  refine lv_iconst (v := nI 1) hx hb dX2_fix_72 (by decide) ?_
                  refine xa_ne (tgt := 84) hx hb (by omega) (by omega) dX2_fix_73 (by decide) (fun c_73 => ?_) (fun c_73 => ?_)
                  · refine lv_iload hx hb dX2_fix_84 (lv_at hl 6 rfl) ?_
                    refine lv_iload hx hb dX2_fix_86 (lv_at hl 5 rfl) ?_
                    refine lv_iconst (v := (-1)) hx hb dX2_fix_88 (by decide) ?_
                    refine lv_ixor hx hb dX2_fix_89 ?_
                    refine lv_iand hx hb dX2_fix_90 ?_
                    rw [fxi_f (show N - i < 32 by omega)]
                    have hfx := fxi_lt (v := false) c_59 (show N - i < N by omega)
                    refine va_calli (va_runV (As := [.int (nI x1), .int (nI (fxi w (N - i) false))]) (rest := [.int (nI w), .ref (bd 2)]) ⟨hx, hb, hml, hown, hts⟩ (c_has l D _ N bd cZ (nI 0) rb x1 (fxi w (N - i) false) (by omega)) (cwV 2 hts (goodIn_mono gX2_has) rfl rfl rfl (by decide +kernel) ⟨Nat.le_of_ble_eq_true rfl, Nat.le_of_ble_eq_true rfl⟩) ⟨wp0_blind, va_recv hK hP (ci := 2) (q0 := 0) rfl rfl, fun U hU hW => wp0_of (hP.sub [0, 1] rfl) (hK.sub [0] rfl) htb hS no_in hU hW⟩ rfl rfl hl.1 rfl (lv_room (Nat.le_of_ble_eq_true rfl)) dX2_fix_91 ⟨Nat.zero_le _, Nat.zero_le _⟩) hS (fun q _ h => h.elim) (fun q h => h.elim) (fun r_91 u_91 t H1 locs ht hvm hw hB hz1 hk1 hS => ?_)
                    have hP := xa_same hP hk1
                    clear hz1 hk1 hB ht
                    generalize H1 = H at hP hS ⊢
                    subst hw
                    refine xa_zast hx hb hK hP (md_D hao) hS 2 0 rfl rfl (w := w) (b := (rb (4096 * x1 + (fxi w (N - i) false)))) (by omega) (by omega) dX2_fix_94 (fun H locs hP _ hS => ?_)
                    have hP : va_P D vwCl (mdW N bd cZ cI (nI 0) rb (va_up m2 w (rb (4096 * x1 + (fxi w (N - i) false)))) pt) H := hP
                    refine xa_inc (k := 6) (lv' := [(6, .int (nI (w + 1))), (0, .ref (bd 0)), (1, .int (nI j)), (2, .int (nI x1)), (3, .int (nI i)), (4, .int (nI bv.toNat)), (5, .int (nI (2 ^ (N - i))))]) hx hb dX2_fix_95 hl rfl (by decide) rfl (fun ls hl => ?_)
                    refine lv_goto (tgt := 53) hx hb dX2_fix_98 (by decide) ?_
                    exact ih_53 (w + 1) (va_up m2 w (rb (4096 * x1 + (fxi w (N - i) false)))) _ _ _ (by omega) (by omega) (fun z hz => by by_cases hzw : z = w; (subst hzw; rw [va_up_self]; first | rw [tn_1 c_73] | rw [tn_f c_73]); (rw [va_up_ne _ _ hzw]; exact hI z (by omega))) hP hS (lv_sub hl [1, 2, 3, 4, 5, 6, 0] rfl)
                  · refine lv_iload hx hb dX2_fix_76 (lv_at hl 6 rfl) ?_
                    refine lv_iload hx hb dX2_fix_78 (lv_at hl 5 rfl) ?_
                    refine xa_ior hx hb dX2_fix_80 ?_
                    refine lv_goto (tgt := 91) hx hb dX2_fix_81 (by decide) ?_
                    rw [fxi_t]
                    have hfx := fxi_lt (v := true) c_59 (show N - i < N by omega)
                    refine va_calli (va_runV (As := [.int (nI x1), .int (nI (fxi w (N - i) true))]) (rest := [.int (nI w), .ref (bd 2)]) ⟨hx, hb, hml, hown, hts⟩ (c_has l D _ N bd cZ (nI 0) rb x1 (fxi w (N - i) true) (by omega)) (cwV 2 hts (goodIn_mono gX2_has) rfl rfl rfl (by decide +kernel) ⟨Nat.le_of_ble_eq_true rfl, Nat.le_of_ble_eq_true rfl⟩) ⟨wp0_blind, va_recv hK hP (ci := 2) (q0 := 0) rfl rfl, fun U hU hW => wp0_of (hP.sub [0, 1] rfl) (hK.sub [0] rfl) htb hS no_in hU hW⟩ rfl rfl hl.1 rfl (lv_room (Nat.le_of_ble_eq_true rfl)) dX2_fix_91 ⟨Nat.zero_le _, Nat.zero_le _⟩) hS (fun q _ h => h.elim) (fun q h => h.elim) (fun r_91 u_91 t H1 locs ht hvm hw hB hz1 hk1 hS => ?_)
                    have hP := xa_same hP hk1
                    clear hz1 hk1 hB ht
                    generalize H1 = H at hP hS ⊢
                    subst hw
                    refine xa_zast hx hb hK hP (md_D hao) hS 2 0 rfl rfl (w := w) (b := (rb (4096 * x1 + (fxi w (N - i) true)))) (by omega) (by omega) dX2_fix_94 (fun H locs hP _ hS => ?_)
                    have hP : va_P D vwCl (mdW N bd cZ cI (nI 0) rb (va_up m2 w (rb (4096 * x1 + (fxi w (N - i) true)))) pt) H := hP
                    refine xa_inc (k := 6) (lv' := [(6, .int (nI (w + 1))), (0, .ref (bd 0)), (1, .int (nI j)), (2, .int (nI x1)), (3, .int (nI i)), (4, .int (nI bv.toNat)), (5, .int (nI (2 ^ (N - i))))]) hx hb dX2_fix_95 hl rfl (by decide) rfl (fun ls hl => ?_)
                    refine lv_goto (tgt := 53) hx hb dX2_fix_98 (by decide) ?_
                    exact ih_53 (w + 1) (va_up m2 w (rb (4096 * x1 + (fxi w (N - i) true)))) _ _ _ (by omega) (by omega) (fun z hz => by by_cases hzw : z = w; (subst hzw; rw [va_up_self]; first | rw [tn_1 c_73] | rw [tn_f c_73]); (rw [va_up_ne _ _ hzw]; exact hI z (by omega))) hP hS (lv_sub hl [1, 2, 3, 4, 5, 6, 0] rfl)
            exact lp_53 (2 ^ N + 1 - 0) 0 mb _ _ _ (by omega) (by omega) (fun z hz => absurd hz (by omega)) hP hS (lv_sub hl [2, 3, 4, 5, 6, 1, 0] rfl)
          · refine lv_iconst (v := nI 0) hx hb dX2_fix_38 (by decide) ?_
            exact W.zret (v := (nI 0)) hx hb hr (by decide) (fun t ht hW => ⟨⟨(nI 0), (rb, mb, pt), rfl, ⟨by rw [(show spF N g k a v x = none from if_neg (by simp [c_9, c_16, c_24, isB_gt c_35]))]; rfl, by rw [(show spF N g k a v x = none from if_neg (by simp [c_9, c_16, c_24, isB_gt c_35]))]; exact hg⟩, (by show va_P _ _ _ _; rw [ht]; exact hP)⟩, hS.F ht⟩) hS.2.2 dX2_fix_39
