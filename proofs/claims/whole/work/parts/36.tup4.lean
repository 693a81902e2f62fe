set_option maxHeartbeats 4000000 in
set_option maxRecDepth 100000 in
/-- image -/
theorem c_image (l : Launch) (D : va_G) (sz : Nat) (N : Nat) (hN1 : 1 ≤ N) (hN : N ≤ 12) (ad : Nat → Nat) (hao : aok (fun _ => True) ad) (cJJ cJ cI : ClassId) (dr re : Nat → Int64) (tu kd uh bf la : Nat → Int32) (G : Nat → Nat → Int64) (g : Nat → Nat → Bool) (hg : okG N G g) (k f mv c1 : Int32) : Met l yX1_image wsX1_image ({ frames := 2, cells := 0, slots := 0, locals := 61 } : Room) (va_Pc [.ref (ad 0), .int k, .int f, .int mv, .int c1] (wp0 D (dkW N ad cJJ cJ cI dr re tu kd uh bf la G) (dkT cJJ cJ cI) (fr ad sz) sz)) (va_Qi (fun (r : Int32) (u : dkS) => r = nI (spI N g k f mv c1).isSome.toNat ∧ okG N (dkR u) ((spI N g k f mv c1).getD g)) (fun (u : dkS) t => va_P D vwCl (dkU N ad cJJ cJ cI u) t.heap) (fr ad sz)) 0 0 (fr ad sz) := by
  refine Met.ofW (cc := cX1_image) (maxL := 7) (ret := (some .boolean)) (by decide) rfl ?_
  intro p e s m args below meth c s₁ B hml hv
  obtain ⟨rfl, hsz, hP, hK, htb⟩ := hv
  have hx := B.exec
  have hb := B.bytes
  have hr := B.returns
  have hts := atoms_spec (ws := wsX1_image) B.pre
  have hown : s.vm.findClass RX1 = some m.cls := findClass_of_methodNamed B.named
  have hlocks := B.notSynchronized
  subst hsz
  generalize hAe : fr ad s.heap.size = A at htb ⊢
  have hA : ∀ q : Nat, s.heap.size ≤ q → A q := fun q h => by rw [← hAe]; exact fr_new q h
  have hao : aok A ad := by rw [← hAe]; exact aok_fr hao
  obtain ⟨⟨tt, hZ, hT⟩, hNst⟩ := id htb
  have hS : va_S A s.heap s.heap [] := va_S.rf
  have hl := lv_entry ([.ref (ad 0), .int k, .int f, .int mv, .int c1]) (n := 7) (Nat.le_of_ble_eq_true rfl)
  rw [lg_entry_eq]
  generalize (lg_sl ([.ref (ad 0), .int k, .int f, .int mv, .int c1]) ++ List.replicate (7 - (lg_sl ([.ref (ad 0), .int k, .int f, .int mv, .int c1])).length) Slot.unset).toArray = ls at hl ⊢
  have hl : lv_has ls 7 [(0, .ref (ad 0)), (1, .int k), (2, .int f), (3, .int mv), (4, .int c1)] := hl
  have hnw := nw_le hN
  have hnwp := nw_pos N
  have hpw := pw_le N
  have hpwp := pw_pos N
  have hnp := np_le hN
  refine lv_iload_n hx hb dX1_image_0 rfl (lv_at hl 1 rfl) ?_
  refine va_calli (va_runS (As := [.int k]) (rest := []) ⟨hx, hb, hml, hown, hts⟩ (c_isRegister l D _ k) (va_cwS 1 hts gX1_image_X1_isRegister rfl rfl rfl (by decide +kernel) ⟨Nat.le_of_ble_eq_true rfl, Nat.le_of_ble_eq_true rfl⟩) ⟨wp0_blind, fun U hU hW => wp0_of (va_P.sub hP [] rfl) (hK.sub [] rfl) htb hS no_in hU hW⟩ rfl rfl hl.1 rfl (lv_room (Nat.le_of_ble_eq_true rfl)) dX1_image_1 ⟨Nat.zero_le _, Nat.zero_le _⟩) hS (fun q _ h => h.elim) (fun q h => h.elim) (fun r_1 u_1 t H1 locs ht hvm hw hB hz1 hk1 hS => ?_)
  have hP := xa_same hP hk1
  clear hz1 hk1 hB ht
  generalize H1 = H at hP hS ⊢
  subst hw
  refine xa_if0 (tgt := 31) hx hb dX1_image_4 (by decide) (fun c_4 => ?_) (fun c_4 => ?_)
  · refine lv_iconst (v := nI 0) hx hb dX1_image_31 (by decide) ?_
    exact W.zret (v := (nI 0)) hx hb hr (by decide) (fun t ht hW => ⟨⟨(nI 0), (dr, re, tu, kd, uh, bf, la, G), rfl, ⟨by rw [(show spI N g k f mv c1 = none from if_neg (by simp [c_4]))]; rfl, by rw [(show spI N g k f mv c1 = none from if_neg (by simp [c_4]))]; exact hg⟩, (by show va_P _ _ _ _; rw [ht]; exact hP)⟩, hS.F ht⟩) hS.2.2 dX1_image_32
  · refine lv_aload_n hx hb dX1_image_7 rfl (lv_at hl 0 rfl) ?_
    refine lv_iload_n hx hb dX1_image_8 rfl (lv_at hl 3 rfl) ?_
    refine va_calli (va_runV (As := [.int mv]) (rest := []) ⟨hx, hb, hml, hown, hts⟩ (c_isVariable l D _ N ad mv) (cwV 1 hts gX1_image_X1_isVariable rfl rfl rfl (by decide +kernel) ⟨Nat.le_of_ble_eq_true rfl, Nat.le_of_ble_eq_true rfl⟩) ⟨wp0_blind, va_recv hK hP (ci := 1) (q0 := 0) rfl rfl, fun U hU hW => wp0_of (va_one hP 0 rfl) (hK.sub [] rfl) htb hS no_in hU hW⟩ rfl rfl hl.1 rfl (lv_room (Nat.le_of_ble_eq_true rfl)) dX1_image_9 ⟨Nat.zero_le _, Nat.zero_le _⟩) hS (fun q _ h => h.elim) (fun q h => h.elim) (fun r_9 u_9 t H1 locs ht hvm hw hB hz1 hk1 hS => ?_)
    have hP := xa_same hP hk1
    clear hz1 hk1 hB ht
    generalize H1 = H at hP hS ⊢
    subst hw
    refine xa_if0 (tgt := 31) hx hb dX1_image_12 (by decide) (fun c_12 => ?_) (fun c_12 => ?_)
    · refine lv_iconst (v := nI 0) hx hb dX1_image_31 (by decide) ?_
      exact W.zret (v := (nI 0)) hx hb hr (by decide) (fun t ht hW => ⟨⟨(nI 0), (dr, re, tu, kd, uh, bf, la, G), rfl, ⟨by rw [(show spI N g k f mv c1 = none from if_neg (by simp [c_4, c_12]))]; rfl, by rw [(show spI N g k f mv c1 = none from if_neg (by simp [c_4, c_12]))]; exact hg⟩, (by show va_P _ _ _ _; rw [ht]; exact hP)⟩, hS.F ht⟩) hS.2.2 dX1_image_32
    · obtain ⟨mm, hmm1, hmm, emm⟩ := isV_t hN c_12
      rw [emm] at hl
      have hix : ix mv = mm := by rw [emm]; exact ix_nI (by omega)
      refine lv_iload_n hx hb dX1_image_15 rfl (lv_at hl 2 rfl) ?_
      refine lv_iload_n hx hb dX1_image_16 rfl (lv_at hl 3 rfl) ?_
      refine va_calli (va_runS (As := [.int f, .int (nI mm)]) (rest := []) ⟨hx, hb, hml, hown, hts⟩ (c_areRegisters l D _ f mm (by omega)) (va_cwS 2 hts gX1_image_X1_areRegisters rfl rfl rfl (by decide +kernel) ⟨Nat.le_of_ble_eq_true rfl, Nat.le_of_ble_eq_true rfl⟩) ⟨wp0_blind, fun U hU hW => wp0_of (va_P.sub hP [] rfl) (hK.sub [] rfl) htb hS no_in hU hW⟩ rfl rfl hl.1 rfl (lv_room (Nat.le_of_ble_eq_true rfl)) dX1_image_17 ⟨Nat.zero_le _, Nat.zero_le _⟩) hS (fun q _ h => h.elim) (fun q h => h.elim) (fun r_17 u_17 t H1 locs ht hvm hw hB hz1 hk1 hS => ?_)
      have hP := xa_same hP hk1
      clear hz1 hk1 hB ht
      generalize H1 = H at hP hS ⊢
      subst hw
      refine xa_if0 (tgt := 31) hx hb dX1_image_20 (by decide) (fun c_20 => ?_) (fun c_20 => ?_)
      · refine lv_iconst (v := nI 0) hx hb dX1_image_31 (by decide) ?_
        exact W.zret (v := (nI 0)) hx hb hr (by decide) (fun t ht hW => ⟨⟨(nI 0), (dr, re, tu, kd, uh, bf, la, G), rfl, ⟨by rw [(show spI N g k f mv c1 = none from if_neg (by simp [c_4, c_12, hix, c_20]))]; rfl, by rw [(show spI N g k f mv c1 = none from if_neg (by simp [c_4, c_12, hix, c_20]))]; exact hg⟩, (by show va_P _ _ _ _; rw [ht]; exact hP)⟩, hS.F ht⟩) hS.2.2 dX1_image_32
      · refine lv_iload hx hb dX1_image_23 (lv_at hl 4 rfl) ?_
        refine va_calli (va_runS (As := [.int c1]) (rest := []) ⟨hx, hb, hml, hown, hts⟩ (c_isRegister l D _ c1) (va_cwS 1 hts gX1_image_X1_isRegister rfl rfl rfl (by decide +kernel) ⟨Nat.le_of_ble_eq_true rfl, Nat.le_of_ble_eq_true rfl⟩) ⟨wp0_blind, fun U hU hW => wp0_of (va_P.sub hP [] rfl) (hK.sub [] rfl) htb hS no_in hU hW⟩ rfl rfl hl.1 rfl (lv_room (Nat.le_of_ble_eq_true rfl)) dX1_image_25 ⟨Nat.zero_le _, Nat.zero_le _⟩) hS (fun q _ h => h.elim) (fun q h => h.elim) (fun r_25 u_25 t H1 locs ht hvm hw hB hz1 hk1 hS => ?_)
        have hP := xa_same hP hk1
        clear hz1 hk1 hB ht
        generalize H1 = H at hP hS ⊢
        subst hw
        refine xa_if1 (tgt := 33) hx hb dX1_image_28 (by decide) (fun c_28 => ?_) (fun c_28 => ?_)
        · obtain ⟨j, hj, ej⟩ := isR_t c_4
          rw [ej] at hl
          obtain ⟨x0, hx0, ex0⟩ := arR_t (by omega) c_20
          rw [ex0] at hl
          obtain ⟨x2, hx2, ex2⟩ := isR_t c_28
          rw [ex2] at hl
          have hsp : spI N g k f mv c1 = some (va_up g j (sgs (imB g x0 mm (N - mm) x2 (2 ^ N)) (N - mm))) := by unfold spI; rw [emm, ix_nI (by omega), if_pos (by rw [c_4, ← emm, c_12, c_20, c_28]; rfl), ej, ex0, ex2, ix_nI (by omega), ix_nI (by omega), ix_nI (by omega)]
          refine lv_aload_n hx hb dX1_image_33 rfl (lv_at hl 0 rfl) ?_
          refine va_get (D := D) (ci := 1) (C := RX1) (T := TX1) (N := 10) hx hb hts (by decide +kernel) hown hK hP 0 rfl rfl 0 (by decide) (hts (.fieldLink RX1 18 "ForkDesk" "variables" "I") (by decide +kernel)) (fun _ h9 => h9) rfl dX1_image_34 ?_
          refine lv_iload_n hx hb dX1_image_37 rfl (lv_at hl 3 rfl) ?_
          refine xa_isub hx hb (by omega) dX1_image_38 ?_
          refine lv_istore (lv' := [(5, .int (nI (N - mm))), (0, .ref (ad 0)), (1, .int (nI j)), (2, .int (nI x0)), (3, .int (nI mm)), (4, .int (nI x2))]) hx hb dX1_image_39 hl (by decide) rfl (fun ls hl => ?_)
          refine lv_aload_n hx hb dX1_image_41 rfl (lv_at hl 1 rfl) ?_
          refine va_get (D := D) (ci := 1) (C := RX1) (T := TX1) (N := 10) hx hb hts (by decide +kernel) hown hK hP 0 rfl rfl 6 (by decide) (hts (.fieldLink RX1 42 "ForkDesk" "draft" "[J") (by decide +kernel)) (fun _ h9 => h9) rfl dX1_image_42 ?_
          refine lv_lconst (v := 0) hx hb dX1_image_45 (by decide) ?_
          refine va_callv (va_runS (As := [.ref (ad 2), .long (0 : Int64)]) (rest := []) ⟨hx, hb, hml, hown, hts⟩ (c_fillL l D _ (ad 2) cJ (nw N) dr (0 : Int64) (by omega)) (va_cwS 2 hts gX1_image_J7_fill_d0a16 rfl rfl rfl (by decide +kernel) ⟨Nat.le_of_ble_eq_true rfl, Nat.le_of_ble_eq_true rfl⟩) ⟨wp0_blind, fun U hU hW => wp0_of (va_one hP 2 rfl) (hK.sub [1] rfl) htb hS (one_in (hao.2 2 (by omega))) hU hW⟩ rfl rfl hl.1 rfl (lv_room (Nat.le_of_ble_eq_true rfl)) dX1_image_46 ⟨Nat.zero_le _, Nat.zero_le _⟩) hS (fun q _ h => (one_in (hao.2 2 (by omega))) q h) ((one_in (hao.2 2 (by omega)))) (fun u_46 t H1 locs ht hvm hw hB hz1 hk1 hS => ?_)
          rw [ht] at hB
          have hP := va_put1 hP (dk_D hao) 2 rfl hk1 hB
          clear hz1 hk1 hB ht
          generalize H1 = H at hP hS ⊢
          have hP : va_P D vwCl (dkW N ad cJJ cJ cI u_46 re tu kd uh bf la G) H := hP
          refine lv_iconst (v := nI 0) hx hb dX1_image_49 (by decide) ?_
          refine lv_istore (lv' := [(6, .int (nI 0)), (5, .int (nI (N - mm))), (0, .ref (ad 0)), (1, .int (nI j)), (2, .int (nI x0)), (3, .int (nI mm)), (4, .int (nI x2))]) hx hb dX1_image_50 hl (by decide) rfl (fun ls hl => ?_)
          have lp_52 : ∀ (n9 w : Nat) (d2 : Nat → Int64) (t2 : Nat → Int32) (H : Heap) (locs : List Loc) (ls : Array Slot), w ≤ nw N → nw N + 1 ≤ w + n9 → (∀ x z, x < nw N → z < 64 → lb (d2 x) z = imB g x0 mm (N - mm) x2 (64 * w) (64 * x + z)) → va_P D vwCl (dkW N ad cJJ cJ cI d2 re t2 kd uh bf la G) H → va_S A s.heap H locs → lv_has ls 7 [(0, .ref (ad 0)), (1, .int (nI j)), (2, .int (nI x0)), (3, .int (nI mm)), (4, .int (nI x2)), (5, .int (nI (N - mm))), (6, .int (nI w))] → W p l e (headSpec wsX1_image ({ frames := 2, cells := 0, slots := 0, locals := 61 } : Room)).room s m ([.ref (ad 0), .int k, .int f, .int mv, .int c1] : List Value).toArray below meth c H locs 0 0 (MQ below (va_Qi (fun (r : Int32) (u : dkS) => r = nI (spI N g k f mv c1).isSome.toNat ∧ okG N (dkR u) ((spI N g k f mv c1).getD g)) (fun (u : dkS) t => va_P D vwCl (dkU N ad cJJ cJ cI u) t.heap) A) ([.ref (ad 0), .int k, .int f, .int mv, .int c1] : List Value).toArray s 0 0 A) (F0 m 52 ls []) := by
            intro n9
            induction n9 with
            | zero => intro w d2 t2 H locs ls h1 h2; exact absurd h2 (by omega)
            | succ n9 ih =>
              intro w d2 t2 H locs ls hle_52 hmm_52 hI hP hS hl
              have ih_52 := @ih
              refine lv_iload hx hb dX1_image_52 (lv_at hl 6 rfl) ?_
              refine lv_aload_n hx hb dX1_image_54 rfl (lv_at hl 0 rfl) ?_
              refine va_get (D := D) (ci := 1) (C := RX1) (T := TX1) (N := 10) hx hb hts (by decide +kernel) hown hK hP 0 rfl rfl 2 (by decide) (hts (.fieldLink RX1 25 "ForkDesk" "words" "I") (by decide +kernel)) (fun _ h9 => h9) rfl dX1_image_55 ?_
              refine xa_ge (tgt := 106) hx hb (by omega) (by omega) dX1_image_58 (by decide) (fun c_58 => ?_) (fun c_58 => ?_)
              · refine lv_iconst (v := nI 0) hx hb dX1_image_106 (by decide) ?_
                refine lv_istore (lv' := [(6, .int (nI 0)), (0, .ref (ad 0)), (1, .int (nI j)), (2, .int (nI x0)), (3, .int (nI mm)), (4, .int (nI x2)), (5, .int (nI (N - mm)))]) hx hb dX1_image_107 hl (by decide) rfl (fun ls hl => ?_)
                have lp_109 : ∀ (n9 b : Nat) (d3 : Nat → Int64) (H : Heap) (locs : List Loc) (ls : Array Slot), b ≤ N - mm → N - mm + 1 ≤ b + n9 → rp (nw N) d3 (sgs (imB g x0 mm (N - mm) x2 (2 ^ N)) b) → va_P D vwCl (dkW N ad cJJ cJ cI d3 re t2 kd uh bf la G) H → va_S A s.heap H locs → lv_has ls 7 [(0, .ref (ad 0)), (1, .int (nI j)), (2, .int (nI x0)), (3, .int (nI mm)), (4, .int (nI x2)), (5, .int (nI (N - mm))), (6, .int (nI b))] → W p l e (headSpec wsX1_image ({ frames := 2, cells := 0, slots := 0, locals := 61 } : Room)).room s m ([.ref (ad 0), .int k, .int f, .int mv, .int c1] : List Value).toArray below meth c H locs 0 0 (MQ below (va_Qi (fun (r : Int32) (u : dkS) => r = nI (spI N g k f mv c1).isSome.toNat ∧ okG N (dkR u) ((spI N g k f mv c1).getD g)) (fun (u : dkS) t => va_P D vwCl (dkU N ad cJJ cJ cI u) t.heap) A) ([.ref (ad 0), .int k, .int f, .int mv, .int c1] : List Value).toArray s 0 0 A) (F0 m 109 ls []) := by
                  intro n9
                  induction n9 with
                  | zero => intro b d3 H locs ls h1 h2; exact absurd h2 (by omega)
                  | succ n9 ih =>
                    intro b d3 H locs ls hle_109 hmm_109 hJ hP hS hl
                    have ih_109 := @ih
                    refine lv_iload hx hb dX1_image_109 (lv_at hl 6 rfl) ?_
                    refine lv_iload hx hb dX1_image_111 (lv_at hl 5 rfl) ?_
                    refine xa_ge (tgt := 132) hx hb (by omega) (by omega) dX1_image_113 (by decide) (fun c_113 => ?_) (fun c_113 => ?_)
                    · refine lv_aload_n hx hb dX1_image_132 rfl (lv_at hl 0 rfl) ?_
                      refine lv_iload_n hx hb dX1_image_133 rfl (lv_at hl 1 rfl) ?_
                      refine va_callv (va_runV (As := [.int (nI j)]) (rest := []) ⟨hx, hb, hml, hown, hts⟩ (c_keepDraft l D _ N hN1 hN ad (aok_true hao) cJJ cJ cI d3 re t2 kd uh bf la G j (by omega)) (cwV 1 hts gX1_image_X1_keepDraft rfl rfl rfl (by decide +kernel) ⟨Nat.le_of_ble_eq_true rfl, Nat.le_of_ble_eq_true rfl⟩) ⟨wp0_blind, va_recv hK hP (ci := 1) (q0 := 0) rfl rfl, fun U hU hW => wp0_of hP hK htb hS (fr_in hao hS hA) hU hW⟩ rfl rfl hl.1 rfl (lv_room (Nat.le_of_ble_eq_true rfl)) dX1_image_134 ⟨Nat.zero_le _, Nat.zero_le _⟩) hS (fun q _ h => (fr_in hao hS hA) q h) ((fr_in hao hS hA)) (fun u_134 t H1 locs ht hvm hw hB hz1 hk1 hS => ?_)
                      rw [ht] at hB
                      have hP := hB
                      clear hz1 hk1 hB ht
                      generalize H1 = H at hP hS ⊢
                      refine lv_iconst (v := nI 1) hx hb dX1_image_137 (by decide) ?_
                      exact W.zret (v := (nI 1)) hx hb hr (by decide) (fun t ht hW => ⟨⟨(nI 1), (d3, re, t2, kd, uh, bf, la, va_up G j u_134), rfl, ⟨by rw [hsp]; rfl, by rw [hsp]; exact (okG_up hg (rp_eq (by have e9 : b = N - mm := (by omega); rw [e9] at hJ; exact hJ) (fun z hz => hw z hz)) (sgs_dm (by omega) (im_dm hmm)))⟩, (by show va_P _ _ _ _; rw [ht]; exact hP)⟩, hS.F ht⟩) hS.2.2 dX1_image_138
                    · refine lv_aload_n hx hb dX1_image_116 rfl (lv_at hl 0 rfl) ?_
                      refine lv_aload_n hx hb dX1_image_117 rfl (lv_at hl 0 rfl) ?_
                      refine va_get (D := D) (ci := 1) (C := RX1) (T := TX1) (N := 10) hx hb hts (by decide +kernel) hown hK hP 0 rfl rfl 6 (by decide) (hts (.fieldLink RX1 42 "ForkDesk" "draft" "[J") (by decide +kernel)) (fun _ h9 => h9) rfl dX1_image_118 ?_
                      refine lv_iload hx hb dX1_image_121 (lv_at hl 6 rfl) ?_
                      refine va_callv (va_runV (As := [.ref (ad 2), .int (nI b)]) (rest := []) ⟨hx, hb, hml, hown, hts⟩ (c_spread l D _ N hN ad (ad 2) (fun h => absurd (hao.1 0 2 (by omega) (by omega) h) (by omega)) cJ d3 b (by omega)) (cwV 2 hts gX1_image_X1_spread rfl rfl rfl (by decide +kernel) ⟨Nat.le_of_ble_eq_true rfl, Nat.le_of_ble_eq_true rfl⟩) ⟨wp0_blind, va_recv hK hP (ci := 1) (q0 := 0) rfl rfl, fun U hU hW => wp0_of (hP.sub [0, 2] rfl) (hK.sub [1] rfl) htb hS (one_in (hao.2 2 (by omega))) hU hW⟩ rfl rfl hl.1 rfl (lv_room (Nat.le_of_ble_eq_true rfl)) dX1_image_123 ⟨Nat.zero_le _, Nat.zero_le _⟩) hS (fun q _ h => (one_in (hao.2 2 (by omega))) q h) ((one_in (hao.2 2 (by omega)))) (fun u_123 t H1 locs ht hvm hw hB hz1 hk1 hS => ?_)
                      rw [ht] at hB
                      have hP := va_put1 hP (dk_D hao) 2 rfl hk1 hB
                      clear hz1 hk1 hB ht
                      generalize H1 = H at hP hS ⊢
                      have hP : va_P D vwCl (dkW N ad cJJ cJ cI u_123 re t2 kd uh bf la G) H := hP
                      refine xa_inc (k := 6) (lv' := [(6, .int (nI (b + 1))), (0, .ref (ad 0)), (1, .int (nI j)), (2, .int (nI x0)), (3, .int (nI mm)), (4, .int (nI x2)), (5, .int (nI (N - mm)))]) hx hb dX1_image_126 hl rfl (by decide) rfl (fun ls hl => ?_)
                      refine lv_goto (tgt := 109) hx hb dX1_image_129 (by decide) ?_
                      exact ih_109 (b + 1) u_123 _ _ _ (by omega) (by omega) (by rw [hw]; exact spr_rp (by omega) hJ) hP hS (lv_sub hl [1, 2, 3, 4, 5, 6, 0] rfl)
                exact lp_109 (N - mm + 1 - 0) 0 d2 _ _ _ (by omega) (by omega) (fun x z hx hz => by rw [hI x z hx hz, show w = nw N by omega, im_end (hg x2 hx2).2]; rfl) hP hS (lv_sub hl [1, 2, 3, 4, 5, 6, 0] rfl)
              · refine lv_aload_n hx hb dX1_image_61 rfl (lv_at hl 0 rfl) ?_
                refine va_get (D := D) (ci := 1) (C := RX1) (T := TX1) (N := 10) hx hb hts (by decide +kernel) hown hK hP 0 rfl rfl 5 (by decide) (hts (.fieldLink RX1 39 "ForkDesk" "registers" "[[J") (by decide +kernel)) (fun _ h9 => h9) rfl dX1_image_62 ?_
                refine lv_iload hx hb dX1_image_65 (lv_at hl 4 rfl) ?_
                refine xa_aald hx hb hK hP 1 0 rfl rfl (w := x2) (y := ad (10 + x2)) (by omega) (by decide) rfl dX1_image_67 ?_
                refine lv_iload hx hb dX1_image_68 (lv_at hl 6 rfl) ?_
                refine xa_lald hx hb hK hP (10 + x2) 1 (dk_row (by omega)) rfl (w := w) (by omega) (by omega) dX1_image_70 ?_
                refine lv_lconst (v := 0) hx hb dX1_image_71 (by decide) ?_
                refine W.lcmp hx hb dX1_image_72 ?_
                refine lv_if_eq (tgt := 100) hx hb dX1_image_73 (by decide) (fun c_73 => ?_) (fun c_73 => ?_)
                · refine xa_inc (k := 6) (lv' := [(6, .int (nI (w + 1))), (0, .ref (ad 0)), (1, .int (nI j)), (2, .int (nI x0)), (3, .int (nI mm)), (4, .int (nI x2)), (5, .int (nI (N - mm)))]) hx hb dX1_image_100 hl rfl (by decide) rfl (fun ls hl => ?_)
                  refine lv_goto (tgt := 52) hx hb dX1_image_103 (by decide) ?_
                  exact ih_52 (w + 1) d2 t2 _ _ _ (by omega) (by omega) (fun x z hx hz => by rw [hI x z hx hz]; exact (im_skip (hg x2 hx2).1 (by omega) ((lg_cmp_eq _ _).mp c_73)).symm) hP hS (lv_sub hl [1, 2, 3, 4, 5, 6, 0] rfl)
                · refine lv_aload_n hx hb dX1_image_76 rfl (lv_at hl 0 rfl) ?_
                  refine lv_iload_n hx hb dX1_image_77 rfl (lv_at hl 2 rfl) ?_
                  refine lv_iload_n hx hb dX1_image_78 rfl (lv_at hl 3 rfl) ?_
                  refine lv_iload hx hb dX1_image_79 (lv_at hl 6 rfl) ?_
                  refine va_callv (va_runV (As := [.int (nI x0), .int (nI mm), .int (nI w)]) (rest := []) ⟨hx, hb, hml, hown, hts⟩ (c_readTuples l D _ N hN1 hN ad (aok_true hao) cJJ cJ cI d2 re t2 kd uh bf la G x0 mm w (by omega) (by omega) (by omega)) (cwV 3 hts gX1_image_X1_readTuples rfl rfl rfl (by decide +kernel) ⟨Nat.le_of_ble_eq_true rfl, Nat.le_of_ble_eq_true rfl⟩) ⟨wp0_blind, va_recv hK hP (ci := 1) (q0 := 0) rfl rfl, fun U hU hW => wp0_of hP hK htb hS (fr_in hao hS hA) hU hW⟩ rfl rfl hl.1 rfl (lv_room (Nat.le_of_ble_eq_true rfl)) dX1_image_81 ⟨Nat.zero_le _, Nat.zero_le _⟩) hS (fun q _ h => (fr_in hao hS hA) q h) ((fr_in hao hS hA)) (fun u_81 t H1 locs ht hvm hw hB hz1 hk1 hS => ?_)
                  rw [ht] at hB
                  have hP := hB
                  clear hz1 hk1 hB ht
                  generalize H1 = H at hP hS ⊢
                  have htu : ∀ i, i < pw N → u_81 i = nI (tp g x0 (64 * w + i) mm) := fun i hi => by rw [hw i hi, tp_congr (fun k hk => (hg (x0 + k) (by omega)).1 w i (by omega) (by omega))]
                  refine lv_aload_n hx hb dX1_image_84 rfl (lv_at hl 0 rfl) ?_
                  refine lv_aload_n hx hb dX1_image_85 rfl (lv_at hl 0 rfl) ?_
                  refine va_get (D := D) (ci := 1) (C := RX1) (T := TX1) (N := 10) hx hb hts (by decide +kernel) hown hK hP 0 rfl rfl 5 (by decide) (hts (.fieldLink RX1 39 "ForkDesk" "registers" "[[J") (by decide +kernel)) (fun _ h9 => h9) rfl dX1_image_86 ?_
                  refine lv_iload hx hb dX1_image_89 (lv_at hl 4 rfl) ?_
                  refine xa_aald hx hb hK hP 1 0 rfl rfl (w := x2) (y := ad (10 + x2)) (by omega) (by decide) rfl dX1_image_91 ?_
                  refine lv_iload hx hb dX1_image_92 (lv_at hl 6 rfl) ?_
                  refine xa_lald hx hb hK hP (10 + x2) 1 (dk_row (by omega)) rfl (w := w) (by omega) (by omega) dX1_image_94 ?_
                  refine lv_iload hx hb dX1_image_95 (lv_at hl 5 rfl) ?_
                  refine va_callv (va_runV (As := [.long (G x2 w), .int (nI (N - mm))]) (rest := []) ⟨hx, hb, hml, hown, hts⟩ (c_markTuples l D _ N hN1 hN ad (aok_true hao) cJJ cJ cI d2 re u_81 kd uh bf la G (G x2 w) (N - mm) (fun i => tp g x0 (64 * w + i) mm) htu (fun i hi => tp_fb hmm (tp_lt g x0 (64 * w + i) mm)) (by omega)) (cwV 2 hts gX1_image_X1_markTuples rfl rfl rfl (by decide +kernel) ⟨Nat.le_of_ble_eq_true rfl, Nat.le_of_ble_eq_true rfl⟩) ⟨wp0_blind, va_recv hK hP (ci := 1) (q0 := 0) rfl rfl, fun U hU hW => wp0_of hP hK htb hS (fr_in hao hS hA) hU hW⟩ rfl rfl hl.1 rfl (lv_room (Nat.le_of_ble_eq_true rfl)) dX1_image_97 ⟨Nat.zero_le _, Nat.zero_le _⟩) hS (fun q _ h => (fr_in hao hS hA) q h) ((fr_in hao hS hA)) (fun u_97 t H1 locs ht hvm hw hB hz1 hk1 hS => ?_)
                  rw [ht] at hB
                  have hP := hB
                  clear hz1 hk1 hB ht
                  generalize H1 = H at hP hS ⊢
                  refine xa_inc (k := 6) (lv' := [(6, .int (nI (w + 1))), (0, .ref (ad 0)), (1, .int (nI j)), (2, .int (nI x0)), (3, .int (nI mm)), (4, .int (nI x2)), (5, .int (nI (N - mm)))]) hx hb dX1_image_100 hl rfl (by decide) rfl (fun ls hl => ?_)
                  refine lv_goto (tgt := 52) hx hb dX1_image_103 (by decide) ?_
                  exact ih_52 (w + 1) u_97 u_81 _ _ _ (by omega) (by omega) (fun x z hx hz => by rw [hw]; exact im_mark (hg x2 hx2) (by omega) hI (fun i hi => tp_fb hmm (tp_lt g x0 (64 * w + i) mm)) x z hx hz) hP hS (lv_sub hl [1, 2, 3, 4, 5, 6, 0] rfl)
          exact lp_52 (nw N + 1 - 0) 0 u_46 tu _ _ _ (by omega) (by omega) (fun x z hx _ => by rw [hw x hx, lb_0]; rfl) hP hS (lv_sub hl [2, 3, 4, 5, 6, 1, 0] rfl)
        · refine lv_iconst (v := nI 0) hx hb dX1_image_31 (by decide) ?_
          exact W.zret (v := (nI 0)) hx hb hr (by decide) (fun t ht hW => ⟨⟨(nI 0), (dr, re, tu, kd, uh, bf, la, G), rfl, ⟨by rw [(show spI N g k f mv c1 = none from if_neg (by simp [c_4, c_12, hix, c_20, c_28]))]; rfl, by rw [(show spI N g k f mv c1 = none from if_neg (by simp [c_4, c_12, hix, c_20, c_28]))]; exact hg⟩, (by show va_P _ _ _ _; rw [ht]; exact hP)⟩, hS.F ht⟩) hS.2.2 dX1_image_32
