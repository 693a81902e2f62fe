set_option maxHeartbeats 4000000 in
set_option maxRecDepth 100000 in
/-- nearest -/
theorem c_nearest (l : Launch) (D : va_G) (sz : Nat) (N : Nat) (hN1 : 1 ≤ N) (hN : N ≤ 12) (ad : Nat → Nat) (hao : aok (fun _ => True) ad) (cJJ cJ cI : ClassId) (dr re : Nat → Int64) (tu kd uh bf la : Nat → Int32) (G : Nat → Nat → Int64) (g : Nat → Nat → Bool) (hg : okG N G g) (k a c1 : Int32) : Met l yX1_nearest wsX1_nearest ({ frames := 2, cells := 0, slots := 0, locals := 61 } : Room) (va_Pc [.ref (ad 0), .int k, .int a, .int c1] (wp0 D (dkW N ad cJJ cJ cI dr re tu kd uh bf la G) (dkT cJJ cJ cI) (fr ad sz) sz)) (va_Qi (fun (r : Int32) (u : dkS) => r = nI (spN N g k a c1).isSome.toNat ∧ okG N (dkR u) ((spN N g k a c1).getD g)) (fun (u : dkS) t => va_P D vwCl (dkU N ad cJJ cJ cI u) t.heap) (fr ad sz)) 0 0 (fr ad sz) := by
  refine Met.ofW (cc := cX1_nearest) (maxL := 6) (ret := (some .boolean)) (by decide) rfl ?_
  intro p e s m args below meth c s₁ B hml hv
  obtain ⟨rfl, hsz, hP, hK, htb⟩ := hv
  have hx := B.exec
  have hb := B.bytes
  have hr := B.returns
  have hts := atoms_spec (ws := wsX1_nearest) B.pre
  have hown : s.vm.findClass RX1 = some m.cls := findClass_of_methodNamed B.named
  have hlocks := B.notSynchronized
  subst hsz
  generalize hAe : fr ad s.heap.size = A at htb ⊢
  have hA : ∀ q : Nat, s.heap.size ≤ q → A q := fun q h => by rw [← hAe]; exact fr_new q h
  have hao : aok A ad := by rw [← hAe]; exact aok_fr hao
  obtain ⟨⟨tt, hZ, hT⟩, hNst⟩ := id htb
  have hS : va_S A s.heap s.heap [] := va_S.rf
  have hl := lv_entry ([.ref (ad 0), .int k, .int a, .int c1]) (n := 6) (Nat.le_of_ble_eq_true rfl)
  rw [lg_entry_eq]
  generalize (lg_sl ([.ref (ad 0), .int k, .int a, .int c1]) ++ List.replicate (6 - (lg_sl ([.ref (ad 0), .int k, .int a, .int c1])).length) Slot.unset).toArray = ls at hl ⊢
  have hl : lv_has ls 6 [(0, .ref (ad 0)), (1, .int k), (2, .int a), (3, .int c1)] := hl
  have hnw := nw_le hN
  have hnwp := nw_pos N
  have hpw := pw_le N
  have hpwp := pw_pos N
  have hnp := np_le hN
  refine lv_iload_n hx hb dX1_nearest_0 rfl (lv_at hl 1 rfl) ?_
  refine va_calli (va_runS (As := [.int k]) (rest := []) ⟨hx, hb, hml, hown, hts⟩ (c_isRegister l D _ k) (va_cwS 1 hts gX1_nearest_X1_isRegister rfl rfl rfl (by decide +kernel) ⟨Nat.le_of_ble_eq_true rfl, Nat.le_of_ble_eq_true rfl⟩) ⟨wp0_blind, fun U hU hW => wp0_of (va_P.sub hP [] rfl) (hK.sub [] rfl) htb hS no_in hU hW⟩ rfl rfl hl.1 rfl (lv_room (Nat.le_of_ble_eq_true rfl)) dX1_nearest_1 ⟨Nat.zero_le _, Nat.zero_le _⟩) hS (fun q _ h => h.elim) (fun q h => h.elim) (fun r_1 u_1 t H1 locs ht hvm hw hB hz1 hk1 hS => ?_)
  have hP := xa_same hP hk1
  clear hz1 hk1 hB ht
  generalize H1 = H at hP hS ⊢
  subst hw
  refine xa_if0 (tgt := 21) hx hb dX1_nearest_4 (by decide) (fun c_4 => ?_) (fun c_4 => ?_)
  · refine lv_iconst (v := nI 0) hx hb dX1_nearest_21 (by decide) ?_
    exact W.zret (v := (nI 0)) hx hb hr (by decide) (fun t ht hW => ⟨⟨(nI 0), (dr, re, tu, kd, uh, bf, la, G), rfl, ⟨by rw [(show spN N g k a c1 = none from if_neg (by simp [c_4]))]; rfl, by rw [(show spN N g k a c1 = none from if_neg (by simp [c_4]))]; exact hg⟩, (by show va_P _ _ _ _; rw [ht]; exact hP)⟩, hS.F ht⟩) hS.2.2 dX1_nearest_22
  · refine lv_iload_n hx hb dX1_nearest_7 rfl (lv_at hl 2 rfl) ?_
    refine va_calli (va_runS (As := [.int a]) (rest := []) ⟨hx, hb, hml, hown, hts⟩ (c_isRegister l D _ a) (va_cwS 1 hts gX1_nearest_X1_isRegister rfl rfl rfl (by decide +kernel) ⟨Nat.le_of_ble_eq_true rfl, Nat.le_of_ble_eq_true rfl⟩) ⟨wp0_blind, fun U hU hW => wp0_of (va_P.sub hP [] rfl) (hK.sub [] rfl) htb hS no_in hU hW⟩ rfl rfl hl.1 rfl (lv_room (Nat.le_of_ble_eq_true rfl)) dX1_nearest_8 ⟨Nat.zero_le _, Nat.zero_le _⟩) hS (fun q _ h => h.elim) (fun q h => h.elim) (fun r_8 u_8 t H1 locs ht hvm hw hB hz1 hk1 hS => ?_)
    have hP := xa_same hP hk1
    clear hz1 hk1 hB ht
    generalize H1 = H at hP hS ⊢
    subst hw
    refine xa_if0 (tgt := 21) hx hb dX1_nearest_11 (by decide) (fun c_11 => ?_) (fun c_11 => ?_)
    · refine lv_iconst (v := nI 0) hx hb dX1_nearest_21 (by decide) ?_
      exact W.zret (v := (nI 0)) hx hb hr (by decide) (fun t ht hW => ⟨⟨(nI 0), (dr, re, tu, kd, uh, bf, la, G), rfl, ⟨by rw [(show spN N g k a c1 = none from if_neg (by simp [c_4, c_11]))]; rfl, by rw [(show spN N g k a c1 = none from if_neg (by simp [c_4, c_11]))]; exact hg⟩, (by show va_P _ _ _ _; rw [ht]; exact hP)⟩, hS.F ht⟩) hS.2.2 dX1_nearest_22
    · refine lv_iload_n hx hb dX1_nearest_14 rfl (lv_at hl 3 rfl) ?_
      refine va_calli (va_runS (As := [.int c1]) (rest := []) ⟨hx, hb, hml, hown, hts⟩ (c_isRegister l D _ c1) (va_cwS 1 hts gX1_nearest_X1_isRegister rfl rfl rfl (by decide +kernel) ⟨Nat.le_of_ble_eq_true rfl, Nat.le_of_ble_eq_true rfl⟩) ⟨wp0_blind, fun U hU hW => wp0_of (va_P.sub hP [] rfl) (hK.sub [] rfl) htb hS no_in hU hW⟩ rfl rfl hl.1 rfl (lv_room (Nat.le_of_ble_eq_true rfl)) dX1_nearest_15 ⟨Nat.zero_le _, Nat.zero_le _⟩) hS (fun q _ h => h.elim) (fun q h => h.elim) (fun r_15 u_15 t H1 locs ht hvm hw hB hz1 hk1 hS => ?_)
      have hP := xa_same hP hk1
      clear hz1 hk1 hB ht
      generalize H1 = H at hP hS ⊢
      subst hw
      refine xa_if1 (tgt := 23) hx hb dX1_nearest_18 (by decide) (fun c_18 => ?_) (fun c_18 => ?_)
      · obtain ⟨j, hj, ej⟩ := isR_t c_4
        rw [ej] at hl
        obtain ⟨x1, hx1, ex1⟩ := isR_t c_11
        rw [ex1] at hl
        obtain ⟨x2, hx2, ex2⟩ := isR_t c_18
        rw [ex2] at hl
        have hsp : spN N g k a c1 = some (va_up g j (ng (g x1) (g x2) N)) := by unfold spN; rw [if_pos (by rw [c_4, c_11, c_18]; rfl), ej, ex1, ex2, ix_nI (by omega), ix_nI (by omega), ix_nI (by omega)]
        refine lv_iconst (v := nI 0) hx hb dX1_nearest_23 (by decide) ?_
        refine lv_istore (lv' := [(4, .int (nI 0)), (0, .ref (ad 0)), (1, .int (nI j)), (2, .int (nI x1)), (3, .int (nI x2))]) hx hb dX1_nearest_24 hl (by decide) rfl (fun ls hl => ?_)
        have lp_26 : ∀ (n9 w : Nat) (d2 : Nat → Int64) (e2 : Nat → Int64) (H : Heap) (locs : List Loc) (ls : Array Slot), w ≤ nw N → nw N + 1 ≤ w + n9 → (∀ z, z < w → e2 z = G x2 z ∧ d2 z = G x1 z &&& G x2 z) → va_P D vwCl (dkW N ad cJJ cJ cI d2 e2 tu kd uh bf la G) H → va_S A s.heap H locs → lv_has ls 6 [(0, .ref (ad 0)), (1, .int (nI j)), (2, .int (nI x1)), (3, .int (nI x2)), (4, .int (nI w))] → W p l e (headSpec wsX1_nearest ({ frames := 2, cells := 0, slots := 0, locals := 61 } : Room)).room s m ([.ref (ad 0), .int k, .int a, .int c1] : List Value).toArray below meth c H locs 0 0 (MQ below (va_Qi (fun (r : Int32) (u : dkS) => r = nI (spN N g k a c1).isSome.toNat ∧ okG N (dkR u) ((spN N g k a c1).getD g)) (fun (u : dkS) t => va_P D vwCl (dkU N ad cJJ cJ cI u) t.heap) A) ([.ref (ad 0), .int k, .int a, .int c1] : List Value).toArray s 0 0 A) (F0 m 26 ls []) := by
          intro n9
          induction n9 with
          | zero => intro w d2 e2 H locs ls h1 h2; exact absurd h2 (by omega)
          | succ n9 ih =>
            intro w d2 e2 H locs ls hle_26 hmm_26 hI hP hS hl
            have ih_26 := @ih
            refine lv_iload hx hb dX1_nearest_26 (lv_at hl 4 rfl) ?_
            refine lv_aload_n hx hb dX1_nearest_28 rfl (lv_at hl 0 rfl) ?_
            refine va_get (D := D) (ci := 1) (C := RX1) (T := TX1) (N := 10) hx hb hts (by decide +kernel) hown hK hP 0 rfl rfl 2 (by decide) (hts (.fieldLink RX1 25 "ForkDesk" "words" "I") (by decide +kernel)) (fun _ h9 => h9) rfl dX1_nearest_29 ?_
            refine xa_ge (tgt := 83) hx hb (by omega) (by omega) dX1_nearest_32 (by decide) (fun c_32 => ?_) (fun c_32 => ?_)
            · refine lv_iconst (v := nI 0) hx hb dX1_nearest_83 (by decide) ?_
              refine lv_istore (lv' := [(4, .int (nI 0)), (0, .ref (ad 0)), (1, .int (nI j)), (2, .int (nI x1)), (3, .int (nI x2))]) hx hb dX1_nearest_84 hl (by decide) rfl (fun ls hl => ?_)
              have lp_86 : ∀ (n9 b : Nat) (d3 : Nat → Int64) (e3 : Nat → Int64) (H : Heap) (locs : List Loc) (ls : Array Slot), b ≤ N → N + 1 ≤ b + n9 → rp (nw N) e3 (nc (g x2) b) → rp (nw N) d3 (ng (g x1) (g x2) b) → va_P D vwCl (dkW N ad cJJ cJ cI d3 e3 tu kd uh bf la G) H → va_S A s.heap H locs → lv_has ls 6 [(0, .ref (ad 0)), (1, .int (nI j)), (2, .int (nI x1)), (3, .int (nI x2)), (4, .int (nI b))] → W p l e (headSpec wsX1_nearest ({ frames := 2, cells := 0, slots := 0, locals := 61 } : Room)).room s m ([.ref (ad 0), .int k, .int a, .int c1] : List Value).toArray below meth c H locs 0 0 (MQ below (va_Qi (fun (r : Int32) (u : dkS) => r = nI (spN N g k a c1).isSome.toNat ∧ okG N (dkR u) ((spN N g k a c1).getD g)) (fun (u : dkS) t => va_P D vwCl (dkU N ad cJJ cJ cI u) t.heap) A) ([.ref (ad 0), .int k, .int a, .int c1] : List Value).toArray s 0 0 A) (F0 m 86 ls []) := by
                intro n9
                induction n9 with
                | zero => intro b d3 e3 H locs ls h1 h2; exact absurd h2 (by omega)
                | succ n9 ih =>
                  intro b d3 e3 H locs ls hle_86 hmm_86 hc hd hP hS hl
                  have ih_86 := @ih
                  refine lv_iload hx hb dX1_nearest_86 (lv_at hl 4 rfl) ?_
                  refine lv_aload_n hx hb dX1_nearest_88 rfl (lv_at hl 0 rfl) ?_
                  refine va_get (D := D) (ci := 1) (C := RX1) (T := TX1) (N := 10) hx hb hts (by decide +kernel) hown hK hP 0 rfl rfl 0 (by decide) (hts (.fieldLink RX1 18 "ForkDesk" "variables" "I") (by decide +kernel)) (fun _ h9 => h9) rfl dX1_nearest_89 ?_
                  refine xa_ge (tgt := 162) hx hb (by omega) (by omega) dX1_nearest_92 (by decide) (fun c_92 => ?_) (fun c_92 => ?_)
                  · refine lv_aload_n hx hb dX1_nearest_162 rfl (lv_at hl 0 rfl) ?_
                    refine lv_iload_n hx hb dX1_nearest_163 rfl (lv_at hl 1 rfl) ?_
                    refine va_callv (va_runV (As := [.int (nI j)]) (rest := []) ⟨hx, hb, hml, hown, hts⟩ (c_keepDraft l D _ N hN1 hN ad (aok_true hao) cJJ cJ cI d3 e3 tu kd uh bf la G j (by omega)) (cwV 1 hts gX1_nearest_X1_keepDraft rfl rfl rfl (by decide +kernel) ⟨Nat.le_of_ble_eq_true rfl, Nat.le_of_ble_eq_true rfl⟩) ⟨wp0_blind, va_recv hK hP (ci := 1) (q0 := 0) rfl rfl, fun U hU hW => wp0_of hP hK htb hS (fr_in hao hS hA) hU hW⟩ rfl rfl hl.1 rfl (lv_room (Nat.le_of_ble_eq_true rfl)) dX1_nearest_164 ⟨Nat.zero_le _, Nat.zero_le _⟩) hS (fun q _ h => (fr_in hao hS hA) q h) ((fr_in hao hS hA)) (fun u_164 t H1 locs ht hvm hw hB hz1 hk1 hS => ?_)
                    rw [ht] at hB
                    have hP := hB
                    clear hz1 hk1 hB ht
                    generalize H1 = H at hP hS ⊢
                    refine lv_iconst (v := nI 1) hx hb dX1_nearest_167 (by decide) ?_
                    exact W.zret (v := (nI 1)) hx hb hr (by decide) (fun t ht hW => ⟨⟨(nI 1), (d3, e3, tu, kd, uh, bf, la, va_up G j u_164), rfl, ⟨by rw [hsp]; rfl, by rw [hsp]; exact (okG_up hg (rp_eq (by have e9 : b = N := (by omega); rw [e9] at hd; exact hd) (fun z hz => hw z hz)) (ng_dm (hg x2 hx2).2 (Nat.le_refl N)))⟩, (by show va_P _ _ _ _; rw [ht]; exact hP)⟩, hS.F ht⟩) hS.2.2 dX1_nearest_168
                  · refine lv_iconst (v := nI 0) hx hb dX1_nearest_95 (by decide) ?_
                    refine lv_istore (lv' := [(5, .int (nI 0)), (0, .ref (ad 0)), (1, .int (nI j)), (2, .int (nI x1)), (3, .int (nI x2)), (4, .int (nI b))]) hx hb dX1_nearest_96 hl (by decide) rfl (fun ls hl => ?_)
                    have lp_98 : ∀ (n9 w : Nat) (d4 : Nat → Int64) (H : Heap) (locs : List Loc) (ls : Array Slot), w ≤ nw N → nw N + 1 ≤ w + n9 → d4 = nst b e3 d3 w → va_P D vwCl (dkW N ad cJJ cJ cI d4 e3 tu kd uh bf la G) H → va_S A s.heap H locs → lv_has ls 6 [(0, .ref (ad 0)), (1, .int (nI j)), (2, .int (nI x1)), (3, .int (nI x2)), (4, .int (nI b)), (5, .int (nI w))] → W p l e (headSpec wsX1_nearest ({ frames := 2, cells := 0, slots := 0, locals := 61 } : Room)).room s m ([.ref (ad 0), .int k, .int a, .int c1] : List Value).toArray below meth c H locs 0 0 (MQ below (va_Qi (fun (r : Int32) (u : dkS) => r = nI (spN N g k a c1).isSome.toNat ∧ okG N (dkR u) ((spN N g k a c1).getD g)) (fun (u : dkS) t => va_P D vwCl (dkU N ad cJJ cJ cI u) t.heap) A) ([.ref (ad 0), .int k, .int a, .int c1] : List Value).toArray s 0 0 A) (F0 m 98 ls []) := by
                      intro n9
                      induction n9 with
                      | zero => intro w d4 H locs ls h1 h2; exact absurd h2 (by omega)
                      | succ n9 ih =>
                        intro w d4 H locs ls hle_98 hmm_98 hJ hP hS hl
                        have ih_98 := @ih
                        refine lv_iload hx hb dX1_nearest_98 (lv_at hl 5 rfl) ?_
                        refine lv_aload_n hx hb dX1_nearest_100 rfl (lv_at hl 0 rfl) ?_
                        refine va_get (D := D) (ci := 1) (C := RX1) (T := TX1) (N := 10) hx hb hts (by decide +kernel) hown hK hP 0 rfl rfl 2 (by decide) (hts (.fieldLink RX1 25 "ForkDesk" "words" "I") (by decide +kernel)) (fun _ h9 => h9) rfl dX1_nearest_101 ?_
                        refine xa_ge (tgt := 146) hx hb (by omega) (by omega) dX1_nearest_104 (by decide) (fun c_104 => ?_) (fun c_104 => ?_)
                        · refine lv_aload_n hx hb dX1_nearest_146 rfl (lv_at hl 0 rfl) ?_
                          refine lv_aload_n hx hb dX1_nearest_147 rfl (lv_at hl 0 rfl) ?_
                          refine va_get (D := D) (ci := 1) (C := RX1) (T := TX1) (N := 10) hx hb hts (by decide +kernel) hown hK hP 0 rfl rfl 7 (by decide) (hts (.fieldLink RX1 46 "ForkDesk" "reached" "[J") (by decide +kernel)) (fun _ h9 => h9) rfl dX1_nearest_148 ?_
                          refine lv_iload hx hb dX1_nearest_151 (lv_at hl 4 rfl) ?_
                          refine va_callv (va_runV (As := [.ref (ad 3), .int (nI b)]) (rest := []) ⟨hx, hb, hml, hown, hts⟩ (c_spread l D _ N hN ad (ad 3) (fun h => absurd (hao.1 0 3 (by omega) (by omega) h) (by omega)) cJ e3 b (by omega)) (cwV 2 hts gX1_nearest_X1_spread rfl rfl rfl (by decide +kernel) ⟨Nat.le_of_ble_eq_true rfl, Nat.le_of_ble_eq_true rfl⟩) ⟨wp0_blind, va_recv hK hP (ci := 1) (q0 := 0) rfl rfl, fun U hU hW => wp0_of (hP.sub [0, 3] rfl) (hK.sub [1] rfl) htb hS (one_in (hao.2 3 (by omega))) hU hW⟩ rfl rfl hl.1 rfl (lv_room (Nat.le_of_ble_eq_true rfl)) dX1_nearest_153 ⟨Nat.zero_le _, Nat.zero_le _⟩) hS (fun q _ h => (one_in (hao.2 3 (by omega))) q h) ((one_in (hao.2 3 (by omega)))) (fun u_153 t H1 locs ht hvm hw hB hz1 hk1 hS => ?_)
                          rw [ht] at hB
                          have hP := va_put1 hP (dk_D hao) 3 rfl hk1 hB
                          clear hz1 hk1 hB ht
                          generalize H1 = H at hP hS ⊢
                          have hP : va_P D vwCl (dkW N ad cJJ cJ cI d4 u_153 tu kd uh bf la G) H := hP
                          refine xa_inc (k := 4) (lv' := [(4, .int (nI (b + 1))), (0, .ref (ad 0)), (1, .int (nI j)), (2, .int (nI x1)), (3, .int (nI x2)), (5, .int (nI w))]) hx hb dX1_nearest_156 hl rfl (by decide) rfl (fun ls hl => ?_)
                          refine lv_goto (tgt := 86) hx hb dX1_nearest_159 (by decide) ?_
                          exact ih_86 (b + 1) d4 u_153 _ _ _ (by omega) (by omega) (by rw [hw, ← nc_sg]; exact spr_rp (by omega) hc) (by rw [hJ, show w = nw N by omega]; exact nst_rp (by omega) hd hc) hP hS (lv_sub hl [1, 2, 3, 4, 0] rfl)
                        · refine lv_aload_n hx hb dX1_nearest_107 rfl (lv_at hl 0 rfl) ?_
                          refine va_get (D := D) (ci := 1) (C := RX1) (T := TX1) (N := 10) hx hb hts (by decide +kernel) hown hK hP 0 rfl rfl 6 (by decide) (hts (.fieldLink RX1 42 "ForkDesk" "draft" "[J") (by decide +kernel)) (fun _ h9 => h9) rfl dX1_nearest_108 ?_
                          refine lv_iload hx hb dX1_nearest_111 (lv_at hl 5 rfl) ?_
                          refine lv_dup2_11 hx hb dX1_nearest_113 rfl rfl ?_
                          refine xa_lald hx hb hK hP 2 1 rfl rfl (w := w) (by omega) (by omega) dX1_nearest_114 ?_
                          refine lv_aload_n hx hb dX1_nearest_115 rfl (lv_at hl 0 rfl) ?_
                          refine va_get (D := D) (ci := 1) (C := RX1) (T := TX1) (N := 10) hx hb hts (by decide +kernel) hown hK hP 0 rfl rfl 6 (by decide) (hts (.fieldLink RX1 42 "ForkDesk" "draft" "[J") (by decide +kernel)) (fun _ h9 => h9) rfl dX1_nearest_116 ?_
                          refine lv_iload hx hb dX1_nearest_119 (lv_at hl 5 rfl) ?_
                          refine lv_iload hx hb dX1_nearest_121 (lv_at hl 4 rfl) ?_
                          refine va_calll (va_runS (As := [.ref (ad 2), .int (nI w), .int (nI b)]) (rest := [.long (d4 w), .int (nI w), .ref (ad 2)]) ⟨hx, hb, hml, hown, hts⟩ (c_acrossBit l D _ N (ad 2) cJ d4 w b hN (by omega) (by omega)) (va_cwS 3 hts gX1_nearest_X1_acrossBit rfl rfl rfl (by decide +kernel) ⟨Nat.le_of_ble_eq_true rfl, Nat.le_of_ble_eq_true rfl⟩) ⟨wp0_blind, fun U hU hW => wp0_of (va_one hP 2 rfl) (hK.sub [1] rfl) htb hS no_in hU hW⟩ rfl rfl hl.1 rfl (lv_room (Nat.le_of_ble_eq_true rfl)) dX1_nearest_123 ⟨Nat.zero_le _, Nat.zero_le _⟩) hS (fun q _ h => h.elim) (fun q h => h.elim) (fun r_123 u_123 t H1 locs ht hvm hw hB hz1 hk1 hS => ?_)
                          have hP := xa_same hP hk1
                          clear hz1 hk1 hB ht
                          generalize H1 = H at hP hS ⊢
                          subst hw
                          refine lv_aload_n hx hb dX1_nearest_126 rfl (lv_at hl 0 rfl) ?_
                          refine va_get (D := D) (ci := 1) (C := RX1) (T := TX1) (N := 10) hx hb hts (by decide +kernel) hown hK hP 0 rfl rfl 7 (by decide) (hts (.fieldLink RX1 46 "ForkDesk" "reached" "[J") (by decide +kernel)) (fun _ h9 => h9) rfl dX1_nearest_127 ?_
                          refine lv_iload hx hb dX1_nearest_130 (lv_at hl 5 rfl) ?_
                          refine xa_lald hx hb hK hP 3 1 rfl rfl (w := w) (by omega) (by omega) dX1_nearest_132 ?_
                          refine lv_ldc2 (v := (-1)) hx hb hown (hts (.constantLong RX1 31 (-1)) (by decide +kernel)) dX1_nearest_133 ?_
                          refine lv_lxor hx hb dX1_nearest_136 ?_
                          refine lv_land hx hb dX1_nearest_137 ?_
                          refine lv_lor hx hb dX1_nearest_138 ?_
                          refine xa_last hx hb hK hP (dk_D hao) hS 2 1 rfl rfl (w := w) (by omega) (by omega) dX1_nearest_139 (fun H locs hP _ hS => ?_)
                          have hP : va_P D vwCl (dkW N ad cJJ cJ cI (vp_updL d4 w ((d4 w) ||| ((acr d4 w b) &&& ((e3 w) ^^^ (-1))))) e3 tu kd uh bf la G) H := hP
                          refine xa_inc (k := 5) (lv' := [(5, .int (nI (w + 1))), (0, .ref (ad 0)), (1, .int (nI j)), (2, .int (nI x1)), (3, .int (nI x2)), (4, .int (nI b))]) hx hb dX1_nearest_140 hl rfl (by decide) rfl (fun ls hl => ?_)
                          refine lv_goto (tgt := 98) hx hb dX1_nearest_143 (by decide) ?_
                          exact ih_98 (w + 1) (vp_updL d4 w ((d4 w) ||| ((acr d4 w b) &&& ((e3 w) ^^^ (-1))))) _ _ _ (by omega) (by omega) (by subst hJ; rfl) hP hS (lv_sub hl [1, 2, 3, 4, 5, 0] rfl)
                    exact lp_98 (nw N + 1 - 0) 0 d3 _ _ _ (by omega) (by omega) rfl hP hS (lv_sub hl [1, 2, 3, 4, 5, 0] rfl)
              exact lp_86 (N + 1 - 0) 0 d2 e2 _ _ _ (by omega) (by omega) (fun z y hz hy => by rw [(hI z (by omega)).1, nc_0]; exact (hg x2 hx2).1 z y hz hy) (fun z y hz hy => by rw [(hI z (by omega)).2, ng_0, lb_and, (hg x1 hx1).1 z y hz hy, (hg x2 hx2).1 z y hz hy]) hP hS (lv_sub hl [1, 2, 3, 4, 0] rfl)
            · refine lv_aload_n hx hb dX1_nearest_35 rfl (lv_at hl 0 rfl) ?_
              refine va_get (D := D) (ci := 1) (C := RX1) (T := TX1) (N := 10) hx hb hts (by decide +kernel) hown hK hP 0 rfl rfl 7 (by decide) (hts (.fieldLink RX1 46 "ForkDesk" "reached" "[J") (by decide +kernel)) (fun _ h9 => h9) rfl dX1_nearest_36 ?_
              refine lv_iload hx hb dX1_nearest_39 (lv_at hl 4 rfl) ?_
              refine lv_aload_n hx hb dX1_nearest_41 rfl (lv_at hl 0 rfl) ?_
              refine va_get (D := D) (ci := 1) (C := RX1) (T := TX1) (N := 10) hx hb hts (by decide +kernel) hown hK hP 0 rfl rfl 5 (by decide) (hts (.fieldLink RX1 39 "ForkDesk" "registers" "[[J") (by decide +kernel)) (fun _ h9 => h9) rfl dX1_nearest_42 ?_
              refine lv_iload_n hx hb dX1_nearest_45 rfl (lv_at hl 3 rfl) ?_
              refine xa_aald hx hb hK hP 1 0 rfl rfl (w := x2) (y := ad (10 + x2)) (by omega) (by decide) rfl dX1_nearest_46 ?_
              refine lv_iload hx hb dX1_nearest_47 (lv_at hl 4 rfl) ?_
              refine xa_lald hx hb hK hP (10 + x2) 1 (dk_row (by omega)) rfl (w := w) (by omega) (by omega) dX1_nearest_49 ?_
              refine xa_last hx hb hK hP (dk_D hao) hS 3 1 rfl rfl (w := w) (by omega) (by omega) dX1_nearest_50 (fun H locs hP _ hS => ?_)
              have hP : va_P D vwCl (dkW N ad cJJ cJ cI d2 (vp_updL e2 w (G x2 w)) tu kd uh bf la G) H := hP
              refine lv_aload_n hx hb dX1_nearest_51 rfl (lv_at hl 0 rfl) ?_
              refine va_get (D := D) (ci := 1) (C := RX1) (T := TX1) (N := 10) hx hb hts (by decide +kernel) hown hK hP 0 rfl rfl 6 (by decide) (hts (.fieldLink RX1 42 "ForkDesk" "draft" "[J") (by decide +kernel)) (fun _ h9 => h9) rfl dX1_nearest_52 ?_
              refine lv_iload hx hb dX1_nearest_55 (lv_at hl 4 rfl) ?_
              refine lv_aload_n hx hb dX1_nearest_57 rfl (lv_at hl 0 rfl) ?_
              refine va_get (D := D) (ci := 1) (C := RX1) (T := TX1) (N := 10) hx hb hts (by decide +kernel) hown hK hP 0 rfl rfl 5 (by decide) (hts (.fieldLink RX1 39 "ForkDesk" "registers" "[[J") (by decide +kernel)) (fun _ h9 => h9) rfl dX1_nearest_58 ?_
              refine lv_iload_n hx hb dX1_nearest_61 rfl (lv_at hl 2 rfl) ?_
              refine xa_aald hx hb hK hP 1 0 rfl rfl (w := x1) (y := ad (10 + x1)) (by omega) (by decide) rfl dX1_nearest_62 ?_
              refine lv_iload hx hb dX1_nearest_63 (lv_at hl 4 rfl) ?_
              refine xa_lald hx hb hK hP (10 + x1) 1 (dk_row (by omega)) rfl (w := w) (by omega) (by omega) dX1_nearest_65 ?_
              refine lv_aload_n hx hb dX1_nearest_66 rfl (lv_at hl 0 rfl) ?_
              refine va_get (D := D) (ci := 1) (C := RX1) (T := TX1) (N := 10) hx hb hts (by decide +kernel) hown hK hP 0 rfl rfl 5 (by decide) (hts (.fieldLink RX1 39 "ForkDesk" "registers" "[[J") (by decide +kernel)) (fun _ h9 => h9) rfl dX1_nearest_67 ?_
              refine lv_iload_n hx hb dX1_nearest_70 rfl (lv_at hl 3 rfl) ?_
              refine xa_aald hx hb hK hP 1 0 rfl rfl (w := x2) (y := ad (10 + x2)) (by omega) (by decide) rfl dX1_nearest_71 ?_
              refine lv_iload hx hb dX1_nearest_72 (lv_at hl 4 rfl) ?_
              refine xa_lald hx hb hK hP (10 + x2) 1 (dk_row (by omega)) rfl (w := w) (by omega) (by omega) dX1_nearest_74 ?_
              refine lv_land hx hb dX1_nearest_75 ?_
              refine xa_last hx hb hK hP (dk_D hao) hS 2 1 rfl rfl (w := w) (by omega) (by omega) dX1_nearest_76 (fun H locs hP _ hS => ?_)
              have hP : va_P D vwCl (dkW N ad cJJ cJ cI (vp_updL d2 w ((G x1 w) &&& (G x2 w))) (vp_updL e2 w (G x2 w)) tu kd uh bf la G) H := hP
              refine xa_inc (k := 4) (lv' := [(4, .int (nI (w + 1))), (0, .ref (ad 0)), (1, .int (nI j)), (2, .int (nI x1)), (3, .int (nI x2))]) hx hb dX1_nearest_77 hl rfl (by decide) rfl (fun ls hl => ?_)
              refine lv_goto (tgt := 26) hx hb dX1_nearest_80 (by decide) ?_
              exact ih_26 (w + 1) (vp_updL d2 w ((G x1 w) &&& (G x2 w))) (vp_updL e2 w (G x2 w)) _ _ _ (by omega) (by omega) (fun z hz => by by_cases hzw : z = w; (subst hzw; rw [pk_uLs, pk_uLs]; exact ⟨rfl, rfl⟩); (rw [pk_uLn hzw, pk_uLn hzw]; exact hI z (by omega))) hP hS (lv_sub hl [1, 2, 3, 4, 0] rfl)
        exact lp_26 (nw N + 1 - 0) 0 dr re _ _ _ (by omega) (by omega) (fun z hz => absurd hz (by omega)) hP hS (lv_sub hl [1, 2, 3, 4, 0] rfl)
      · refine lv_iconst (v := nI 0) hx hb dX1_nearest_21 (by decide) ?_
        exact W.zret (v := (nI 0)) hx hb hr (by decide) (fun t ht hW => ⟨⟨(nI 0), (dr, re, tu, kd, uh, bf, la, G), rfl, ⟨by rw [(show spN N g k a c1 = none from if_neg (by simp [c_4, c_11, c_18]))]; rfl, by rw [(show spN N g k a c1 = none from if_neg (by simp [c_4, c_11, c_18]))]; exact hg⟩, (by show va_P _ _ _ _; rw [ht]; exact hP)⟩, hS.F ht⟩) hS.2.2 dX1_nearest_22
