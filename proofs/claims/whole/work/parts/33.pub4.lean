set_option maxHeartbeats 4000000 in
set_option maxRecDepth 100000 in
/-- exists -/
theorem c_exists (l : Launch) (D : va_G) (sz : Nat) (N : Nat) (hN1 : 1 ≤ N) (hN : N ≤ 12) (ad : Nat → Nat) (hao : aok (fun _ => True) ad) (cJJ cJ cI : ClassId) (dr re : Nat → Int64) (tu kd uh bf la : Nat → Int32) (G : Nat → Nat → Int64) (g : Nat → Nat → Bool) (hg : okG N G g) (k a f t1 : Int32) : Met l yX1_exists wsX1_exists ({ frames := 2, cells := 0, slots := 0, locals := 61 } : Room) (va_Pc [.ref (ad 0), .int k, .int a, .int f, .int t1] (wp0 D (dkW N ad cJJ cJ cI dr re tu kd uh bf la G) (dkT cJJ cJ cI) (fr ad sz) sz)) (va_Qi (fun (r : Int32) (u : dkS) => r = nI (spE N g k a f t1).isSome.toNat ∧ okG N (dkR u) ((spE N g k a f t1).getD g)) (fun (u : dkS) t => va_P D vwCl (dkU N ad cJJ cJ cI u) t.heap) (fr ad sz)) 0 0 (fr ad sz) := by
  refine Met.ofW (cc := cX1_exists) (maxL := 6) (ret := (some .boolean)) (by decide) rfl ?_
  intro p e s m args below meth c s₁ B hml hv
  obtain ⟨rfl, hsz, hP, hK, htb⟩ := hv
  have hx := B.exec
  have hb := B.bytes
  have hr := B.returns
  have hts := atoms_spec (ws := wsX1_exists) B.pre
  have hown : s.vm.findClass RX1 = some m.cls := findClass_of_methodNamed B.named
  have hlocks := B.notSynchronized
  subst hsz
  generalize hAe : fr ad s.heap.size = A at htb ⊢
  have hA : ∀ q : Nat, s.heap.size ≤ q → A q := fun q h => by rw [← hAe]; exact fr_new q h
  have hao : aok A ad := by rw [← hAe]; exact aok_fr hao
  obtain ⟨⟨tt, hZ, hT⟩, hNst⟩ := id htb
  have hS : va_S A s.heap s.heap [] := va_S.rf
  have hl := lv_entry ([.ref (ad 0), .int k, .int a, .int f, .int t1]) (n := 6) (Nat.le_of_ble_eq_true rfl)
  rw [lg_entry_eq]
  generalize (lg_sl ([.ref (ad 0), .int k, .int a, .int f, .int t1]) ++ List.replicate (6 - (lg_sl ([.ref (ad 0), .int k, .int a, .int f, .int t1])).length) Slot.unset).toArray = ls at hl ⊢
  have hl : lv_has ls 6 [(0, .ref (ad 0)), (1, .int k), (2, .int a), (3, .int f), (4, .int t1)] := hl
  have hnw := nw_le hN
  have hnwp := nw_pos N
  have hpw := pw_le N
  have hpwp := pw_pos N
  have hnp := np_le hN
  refine lv_iload_n hx hb dX1_exists_0 rfl (lv_at hl 1 rfl) ?_
  refine va_calli (va_runS (As := [.int k]) (rest := []) ⟨hx, hb, hml, hown, hts⟩ (c_isRegister l D _ k) (va_cwS 1 hts gX1_exists_X1_isRegister rfl rfl rfl (by decide +kernel) ⟨Nat.le_of_ble_eq_true rfl, Nat.le_of_ble_eq_true rfl⟩) ⟨wp0_blind, fun U hU hW => wp0_of (va_P.sub hP [] rfl) (hK.sub [] rfl) htb hS no_in hU hW⟩ rfl rfl hl.1 rfl (lv_room (Nat.le_of_ble_eq_true rfl)) dX1_exists_1 ⟨Nat.zero_le _, Nat.zero_le _⟩) hS (fun q _ h => h.elim) (fun q h => h.elim) (fun r_1 u_1 t H1 locs ht hvm hw hB hz1 hk1 hS => ?_)
  have hP := xa_same hP hk1
  clear hz1 hk1 hB ht
  generalize H1 = H at hP hS ⊢
  subst hw
  refine xa_if0 (tgt := 37) hx hb dX1_exists_4 (by decide) (fun c_4 => ?_) (fun c_4 => ?_)
  · refine lv_iconst (v := nI 0) hx hb dX1_exists_37 (by decide) ?_
    exact W.zret (v := (nI 0)) hx hb hr (by decide) (fun t ht hW => ⟨⟨(nI 0), (dr, re, tu, kd, uh, bf, la, G), rfl, ⟨by rw [(show spE N g k a f t1 = none from if_neg (by simp [c_4]))]; rfl, by rw [(show spE N g k a f t1 = none from if_neg (by simp [c_4]))]; exact hg⟩, (by show va_P _ _ _ _; rw [ht]; exact hP)⟩, hS.F ht⟩) hS.2.2 dX1_exists_38
  · refine lv_iload_n hx hb dX1_exists_7 rfl (lv_at hl 2 rfl) ?_
    refine va_calli (va_runS (As := [.int a]) (rest := []) ⟨hx, hb, hml, hown, hts⟩ (c_isRegister l D _ a) (va_cwS 1 hts gX1_exists_X1_isRegister rfl rfl rfl (by decide +kernel) ⟨Nat.le_of_ble_eq_true rfl, Nat.le_of_ble_eq_true rfl⟩) ⟨wp0_blind, fun U hU hW => wp0_of (va_P.sub hP [] rfl) (hK.sub [] rfl) htb hS no_in hU hW⟩ rfl rfl hl.1 rfl (lv_room (Nat.le_of_ble_eq_true rfl)) dX1_exists_8 ⟨Nat.zero_le _, Nat.zero_le _⟩) hS (fun q _ h => h.elim) (fun q h => h.elim) (fun r_8 u_8 t H1 locs ht hvm hw hB hz1 hk1 hS => ?_)
    have hP := xa_same hP hk1
    clear hz1 hk1 hB ht
    generalize H1 = H at hP hS ⊢
    subst hw
    refine xa_if0 (tgt := 37) hx hb dX1_exists_11 (by decide) (fun c_11 => ?_) (fun c_11 => ?_)
    · refine lv_iconst (v := nI 0) hx hb dX1_exists_37 (by decide) ?_
      exact W.zret (v := (nI 0)) hx hb hr (by decide) (fun t ht hW => ⟨⟨(nI 0), (dr, re, tu, kd, uh, bf, la, G), rfl, ⟨by rw [(show spE N g k a f t1 = none from if_neg (by simp [c_4, c_11]))]; rfl, by rw [(show spE N g k a f t1 = none from if_neg (by simp [c_4, c_11]))]; exact hg⟩, (by show va_P _ _ _ _; rw [ht]; exact hP)⟩, hS.F ht⟩) hS.2.2 dX1_exists_38
    · refine lv_aload_n hx hb dX1_exists_14 rfl (lv_at hl 0 rfl) ?_
      refine lv_iload_n hx hb dX1_exists_15 rfl (lv_at hl 3 rfl) ?_
      refine va_calli (va_runV (As := [.int f]) (rest := []) ⟨hx, hb, hml, hown, hts⟩ (c_isVariable l D _ N ad f) (cwV 1 hts gX1_exists_X1_isVariable rfl rfl rfl (by decide +kernel) ⟨Nat.le_of_ble_eq_true rfl, Nat.le_of_ble_eq_true rfl⟩) ⟨wp0_blind, va_recv hK hP (ci := 1) (q0 := 0) rfl rfl, fun U hU hW => wp0_of (va_one hP 0 rfl) (hK.sub [] rfl) htb hS no_in hU hW⟩ rfl rfl hl.1 rfl (lv_room (Nat.le_of_ble_eq_true rfl)) dX1_exists_16 ⟨Nat.zero_le _, Nat.zero_le _⟩) hS (fun q _ h => h.elim) (fun q h => h.elim) (fun r_16 u_16 t H1 locs ht hvm hw hB hz1 hk1 hS => ?_)
      have hP := xa_same hP hk1
      clear hz1 hk1 hB ht
      generalize H1 = H at hP hS ⊢
      subst hw
      refine xa_if0 (tgt := 37) hx hb dX1_exists_19 (by decide) (fun c_19 => ?_) (fun c_19 => ?_)
      · refine lv_iconst (v := nI 0) hx hb dX1_exists_37 (by decide) ?_
        exact W.zret (v := (nI 0)) hx hb hr (by decide) (fun t ht hW => ⟨⟨(nI 0), (dr, re, tu, kd, uh, bf, la, G), rfl, ⟨by rw [(show spE N g k a f t1 = none from if_neg (by simp [c_4, c_11, c_19]))]; rfl, by rw [(show spE N g k a f t1 = none from if_neg (by simp [c_4, c_11, c_19]))]; exact hg⟩, (by show va_P _ _ _ _; rw [ht]; exact hP)⟩, hS.F ht⟩) hS.2.2 dX1_exists_38
      · refine lv_aload_n hx hb dX1_exists_22 rfl (lv_at hl 0 rfl) ?_
        refine lv_iload hx hb dX1_exists_23 (lv_at hl 4 rfl) ?_
        refine va_calli (va_runV (As := [.int t1]) (rest := []) ⟨hx, hb, hml, hown, hts⟩ (c_isVariable l D _ N ad t1) (cwV 1 hts gX1_exists_X1_isVariable rfl rfl rfl (by decide +kernel) ⟨Nat.le_of_ble_eq_true rfl, Nat.le_of_ble_eq_true rfl⟩) ⟨wp0_blind, va_recv hK hP (ci := 1) (q0 := 0) rfl rfl, fun U hU hW => wp0_of (va_one hP 0 rfl) (hK.sub [] rfl) htb hS no_in hU hW⟩ rfl rfl hl.1 rfl (lv_room (Nat.le_of_ble_eq_true rfl)) dX1_exists_25 ⟨Nat.zero_le _, Nat.zero_le _⟩) hS (fun q _ h => h.elim) (fun q h => h.elim) (fun r_25 u_25 t H1 locs ht hvm hw hB hz1 hk1 hS => ?_)
        have hP := xa_same hP hk1
        clear hz1 hk1 hB ht
        generalize H1 = H at hP hS ⊢
        subst hw
        refine xa_if0 (tgt := 37) hx hb dX1_exists_28 (by decide) (fun c_28 => ?_) (fun c_28 => ?_)
        · refine lv_iconst (v := nI 0) hx hb dX1_exists_37 (by decide) ?_
          exact W.zret (v := (nI 0)) hx hb hr (by decide) (fun t ht hW => ⟨⟨(nI 0), (dr, re, tu, kd, uh, bf, la, G), rfl, ⟨by rw [(show spE N g k a f t1 = none from if_neg (by simp [c_4, c_11, c_19, c_28]))]; rfl, by rw [(show spE N g k a f t1 = none from if_neg (by simp [c_4, c_11, c_19, c_28]))]; exact hg⟩, (by show va_P _ _ _ _; rw [ht]; exact hP)⟩, hS.F ht⟩) hS.2.2 dX1_exists_38
        · refine lv_iload_n hx hb dX1_exists_31 rfl (lv_at hl 3 rfl) ?_
          refine lv_iload hx hb dX1_exists_32 (lv_at hl 4 rfl) ?_
          refine lv_icmp_le (tgt := 39) hx hb dX1_exists_34 (by decide) (fun c_34 => ?_) (fun c_34 => ?_)
          · obtain ⟨j, hj, ej⟩ := isR_t c_4
            rw [ej] at hl
            obtain ⟨x1, hx1, ex1⟩ := isR_t c_11
            rw [ex1] at hl
            obtain ⟨i, hi1, hi, ei⟩ := isV_t hN c_19
            rw [ei] at hl
            obtain ⟨i2, hi21, hi2, ei2⟩ := isV_t hN c_28
            rw [ei2] at hl
            have hii : i ≤ i2 := (nI_leI (by omega) (by omega)).mp (by rw [← ei, ← ei2]; exact c_34)
            have hsp : spE N g k a f t1 = some (va_up g j (exs N i (g x1) (i2 + 1 - i))) := by unfold spE; rw [if_pos (by rw [c_4, c_11, c_19, c_28, decide_eq_true c_34]; rfl), ej, ex1, ei, ei2, ix_nI (by omega), ix_nI (by omega), ix_nI (by omega), ix_nI (by omega)]
            refine lv_aload_n hx hb dX1_exists_39 rfl (lv_at hl 0 rfl) ?_
            refine va_get (D := D) (ci := 1) (C := RX1) (T := TX1) (N := 10) hx hb hts (by decide +kernel) hown hK hP 0 rfl rfl 5 (by decide) (hts (.fieldLink RX1 39 "ForkDesk" "registers" "[[J") (by decide +kernel)) (fun _ h9 => h9) rfl dX1_exists_40 ?_
            refine lv_iload_n hx hb dX1_exists_43 rfl (lv_at hl 2 rfl) ?_
            refine xa_aald hx hb hK hP 1 0 rfl rfl (w := x1) (y := ad (10 + x1)) (by omega) (by decide) rfl dX1_exists_44 ?_
            refine lv_iconst (v := nI 0) hx hb dX1_exists_45 (by decide) ?_
            refine lv_aload_n hx hb dX1_exists_46 rfl (lv_at hl 0 rfl) ?_
            refine va_get (D := D) (ci := 1) (C := RX1) (T := TX1) (N := 10) hx hb hts (by decide +kernel) hown hK hP 0 rfl rfl 6 (by decide) (hts (.fieldLink RX1 42 "ForkDesk" "draft" "[J") (by decide +kernel)) (fun _ h9 => h9) rfl dX1_exists_47 ?_
            refine lv_iconst (v := nI 0) hx hb dX1_exists_50 (by decide) ?_
            refine lv_aload_n hx hb dX1_exists_51 rfl (lv_at hl 0 rfl) ?_
            refine va_get (D := D) (ci := 1) (C := RX1) (T := TX1) (N := 10) hx hb hts (by decide +kernel) hown hK hP 0 rfl rfl 2 (by decide) (hts (.fieldLink RX1 25 "ForkDesk" "words" "I") (by decide +kernel)) (fun _ h9 => h9) rfl dX1_exists_52 ?_
            refine va_copyl hx hb (by rw [hml]; exact hl.1.symm) hown (hts (.methodLink RX1 101 arraycopyName) (by decide +kernel)) (hts (.native arraycopyName) (by decide +kernel)) (hts (.static arraycopyName) (by decide +kernel)) (hts (.initialized "java/lang/System") (by decide +kernel)) hK hP (dk_D hao) hS (10 + x1) 2 1 1 (dk_row hx1) rfl rfl rfl rfl (nI_pos (by omega)) (nI_pos (by omega)) (nI_pos (by omega)) (by rw [nI_clamp (by omega), nI_clamp (by omega)]; omega) (by rw [nI_clamp (by omega), nI_clamp (by omega)]; omega) (fun _ _ => rfl) (Nat.le_of_ble_eq_true rfl) (Nat.le_of_ble_eq_true rfl) dX1_exists_55 (fun H locs hP _ hS => ?_)
            rw [nI_clamp (by omega), nI_clamp (by omega)] at hP
            have hP : va_P D vwCl (dkW N ad cJJ cJ cI (va_cpy (G x1) dr 0 0 (nw N)) re tu kd uh bf la G) H := hP
            refine lv_iload_n hx hb dX1_exists_58 rfl (lv_at hl 3 rfl) ?_
            refine lv_istore (lv' := [(5, .int (nI i)), (0, .ref (ad 0)), (1, .int (nI j)), (2, .int (nI x1)), (3, .int (nI i)), (4, .int (nI i2))]) hx hb dX1_exists_59 hl (by decide) rfl (fun ls hl => ?_)
            have lp_61 : ∀ (n9 v1 : Nat) (d2 : Nat → Int64) (H : Heap) (locs : List Loc) (ls : Array Slot), v1 ≤ i2 + 1 → i2 + 1 + 1 ≤ v1 + n9 → i ≤ v1 → rp (nw N) d2 (exs N i (g x1) (v1 - i)) → va_P D vwCl (dkW N ad cJJ cJ cI d2 re tu kd uh bf la G) H → va_S A s.heap H locs → lv_has ls 6 [(0, .ref (ad 0)), (1, .int (nI j)), (2, .int (nI x1)), (3, .int (nI i)), (4, .int (nI i2)), (5, .int (nI v1))] → W p l e (headSpec wsX1_exists ({ frames := 2, cells := 0, slots := 0, locals := 61 } : Room)).room s m ([.ref (ad 0), .int k, .int a, .int f, .int t1] : List Value).toArray below meth c H locs 0 0 (MQ below (va_Qi (fun (r : Int32) (u : dkS) => r = nI (spE N g k a f t1).isSome.toNat ∧ okG N (dkR u) ((spE N g k a f t1).getD g)) (fun (u : dkS) t => va_P D vwCl (dkU N ad cJJ cJ cI u) t.heap) A) ([.ref (ad 0), .int k, .int a, .int f, .int t1] : List Value).toArray s 0 0 A) (F0 m 61 ls []) := by
              intro n9
              induction n9 with
              | zero => intro v1 d2 H locs ls h1 h2; exact absurd h2 (by omega)
              | succ n9 ih =>
                intro v1 d2 H locs ls hle_61 hmm_61 hiv hI hP hS hl
                have ih_61 := @ih
                refine lv_iload hx hb dX1_exists_61 (lv_at hl 5 rfl) ?_
                refine lv_iload hx hb dX1_exists_63 (lv_at hl 4 rfl) ?_
                refine xa_gt (tgt := 88) hx hb (by omega) (by omega) dX1_exists_65 (by decide) (fun c_65 => ?_) (fun c_65 => ?_)
                · refine lv_aload_n hx hb dX1_exists_88 rfl (lv_at hl 0 rfl) ?_
                  refine lv_iload_n hx hb dX1_exists_89 rfl (lv_at hl 1 rfl) ?_
                  refine va_callv (va_runV (As := [.int (nI j)]) (rest := []) ⟨hx, hb, hml, hown, hts⟩ (c_keepDraft l D _ N hN1 hN ad (aok_true hao) cJJ cJ cI d2 re tu kd uh bf la G j (by omega)) (cwV 1 hts gX1_exists_X1_keepDraft rfl rfl rfl (by decide +kernel) ⟨Nat.le_of_ble_eq_true rfl, Nat.le_of_ble_eq_true rfl⟩) ⟨wp0_blind, va_recv hK hP (ci := 1) (q0 := 0) rfl rfl, fun U hU hW => wp0_of hP hK htb hS (fr_in hao hS hA) hU hW⟩ rfl rfl hl.1 rfl (lv_room (Nat.le_of_ble_eq_true rfl)) dX1_exists_90 ⟨Nat.zero_le _, Nat.zero_le _⟩) hS (fun q _ h => (fr_in hao hS hA) q h) ((fr_in hao hS hA)) (fun u_90 t H1 locs ht hvm hw hB hz1 hk1 hS => ?_)
                  rw [ht] at hB
                  have hP := hB
                  clear hz1 hk1 hB ht
                  generalize H1 = H at hP hS ⊢
                  refine lv_iconst (v := nI 1) hx hb dX1_exists_93 (by decide) ?_
                  exact W.zret (v := (nI 1)) hx hb hr (by decide) (fun t ht hW => ⟨⟨(nI 1), (d2, re, tu, kd, uh, bf, la, va_up G j u_90), rfl, ⟨by rw [hsp]; rfl, by rw [hsp]; exact (okG_up hg (rp_eq (by rw [← show v1 = i2 + 1 by omega]; exact hI) (fun z hz => hw z hz)) (exs_dm hi1 (hg x1 hx1).2 _ (by omega)))⟩, (by show va_P _ _ _ _; rw [ht]; exact hP)⟩, hS.F ht⟩) hS.2.2 dX1_exists_94
                · refine lv_aload_n hx hb dX1_exists_68 rfl (lv_at hl 0 rfl) ?_
                  refine lv_aload_n hx hb dX1_exists_69 rfl (lv_at hl 0 rfl) ?_
                  refine va_get (D := D) (ci := 1) (C := RX1) (T := TX1) (N := 10) hx hb hts (by decide +kernel) hown hK hP 0 rfl rfl 6 (by decide) (hts (.fieldLink RX1 42 "ForkDesk" "draft" "[J") (by decide +kernel)) (fun _ h9 => h9) rfl dX1_exists_70 ?_
                  refine lv_aload_n hx hb dX1_exists_73 rfl (lv_at hl 0 rfl) ?_
                  refine lv_iload hx hb dX1_exists_74 (lv_at hl 5 rfl) ?_
                  refine va_calli (va_runV (As := [.int (nI v1)]) (rest := [.ref (ad 2), .ref (ad 0)]) ⟨hx, hb, hml, hown, hts⟩ (c_bitOf l D _ N ad v1 (by omega)) (cwV 1 hts gX1_exists_X1_bitOf rfl rfl rfl (by decide +kernel) ⟨Nat.le_of_ble_eq_true rfl, Nat.le_of_ble_eq_true rfl⟩) ⟨wp0_blind, va_recv hK hP (ci := 1) (q0 := 0) rfl rfl, fun U hU hW => wp0_of (va_one hP 0 rfl) (hK.sub [] rfl) htb hS no_in hU hW⟩ rfl rfl hl.1 rfl (lv_room (Nat.le_of_ble_eq_true rfl)) dX1_exists_76 ⟨Nat.zero_le _, Nat.zero_le _⟩) hS (fun q _ h => h.elim) (fun q h => h.elim) (fun r_76 u_76 t H1 locs ht hvm hw hB hz1 hk1 hS => ?_)
                  have hP := xa_same hP hk1
                  clear hz1 hk1 hB ht
                  generalize H1 = H at hP hS ⊢
                  subst hw
                  refine va_callv (va_runV (As := [.ref (ad 2), .int (nI (N - v1))]) (rest := []) ⟨hx, hb, hml, hown, hts⟩ (c_spread l D _ N hN ad (ad 2) (fun h => absurd (hao.1 0 2 (by omega) (by omega) h) (by omega)) cJ d2 (N - v1) (by omega)) (cwV 2 hts gX1_exists_X1_spread rfl rfl rfl (by decide +kernel) ⟨Nat.le_of_ble_eq_true rfl, Nat.le_of_ble_eq_true rfl⟩) ⟨wp0_blind, va_recv hK hP (ci := 1) (q0 := 0) rfl rfl, fun U hU hW => wp0_of (hP.sub [0, 2] rfl) (hK.sub [1] rfl) htb hS (one_in (hao.2 2 (by omega))) hU hW⟩ rfl rfl hl.1 rfl (lv_room (Nat.le_of_ble_eq_true rfl)) dX1_exists_79 ⟨Nat.zero_le _, Nat.zero_le _⟩) hS (fun q _ h => (one_in (hao.2 2 (by omega))) q h) ((one_in (hao.2 2 (by omega)))) (fun u_79 t H1 locs ht hvm hw hB hz1 hk1 hS => ?_)
                  rw [ht] at hB
                  have hP := va_put1 hP (dk_D hao) 2 rfl hk1 hB
                  clear hz1 hk1 hB ht
                  generalize H1 = H at hP hS ⊢
                  have hP : va_P D vwCl (dkW N ad cJJ cJ cI u_79 re tu kd uh bf la G) H := hP
                  refine xa_inc (k := 5) (lv' := [(5, .int (nI (v1 + 1))), (0, .ref (ad 0)), (1, .int (nI j)), (2, .int (nI x1)), (3, .int (nI i)), (4, .int (nI i2))]) hx hb dX1_exists_82 hl rfl (by decide) rfl (fun ls hl => ?_)
                  refine lv_goto (tgt := 61) hx hb dX1_exists_85 (by decide) ?_
                  exact ih_61 (v1 + 1) u_79 _ _ _ (by omega) (by omega) (by omega) (by rw [hw, show v1 + 1 - i = (v1 - i) + 1 by omega]; show rp _ _ (sg (N - (i + (v1 - i))) _); rw [show i + (v1 - i) = v1 by omega]; exact spr_rp (by omega) hI) hP hS (lv_sub hl [1, 2, 3, 4, 5, 0] rfl)
            exact lp_61 (i2 + 1 + 1 - i) i (va_cpy (G x1) dr 0 0 (nw N)) _ _ _ (by omega) (by omega) (Nat.le_refl i) (by rw [Nat.sub_self]; exact rp_eq (hg x1 hx1).1 (fun z hz => sb_cpyL hz)) hP hS (lv_sub hl [1, 2, 3, 4, 5, 0] rfl)
          · refine lv_iconst (v := nI 0) hx hb dX1_exists_37 (by decide) ?_
            exact W.zret (v := (nI 0)) hx hb hr (by decide) (fun t ht hW => ⟨⟨(nI 0), (dr, re, tu, kd, uh, bf, la, G), rfl, ⟨by rw [(show spE N g k a f t1 = none from if_neg (by simp [c_4, c_11, c_19, c_28, c_34]))]; rfl, by rw [(show spE N g k a f t1 = none from if_neg (by simp [c_4, c_11, c_19, c_28, c_34]))]; exact hg⟩, (by show va_P _ _ _ _; rw [ht]; exact hP)⟩, hS.F ht⟩) hS.2.2 dX1_exists_38
