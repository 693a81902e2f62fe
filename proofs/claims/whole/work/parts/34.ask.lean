set_option maxHeartbeats 4000000 in
set_option maxRecDepth 100000 in
/-- at -/
theorem c_at (l : Launch) (D : va_G) (sz : Nat) (N : Nat) (hN1 : 1 ≤ N) (hN : N ≤ 12) (ad : Nat → Nat) (hao : aok (fun _ => True) ad) (cJJ cJ cI : ClassId) (dr re : Nat → Int64) (tu kd uh bf la : Nat → Int32) (G : Nat → Nat → Int64) (g : Nat → Nat → Bool) (hg : okG N G g) (k q : Int32) : Met l yX1_at wsX1_at ({ frames := 1, cells := 0, slots := 0, locals := 21 } : Room) (va_Pc [.ref (ad 0), .int k, .int q] (wp0 D (dkW N ad cJJ cJ cI dr re tu kd uh bf la G) (dkT cJJ cJ cI) (fun _ : Nat => False) sz)) (va_Qi (fun (r : Int32) (_ : Unit) => r = sAt N g k q) (fun _ _ => True) (fun _ : Nat => False)) 0 0 (fun _ : Nat => False) := by
  refine Met.ofW (cc := cX1_at) (maxL := 3) (ret := (some .int)) (by decide) rfl ?_
  intro p e s m args below meth c s₁ B hml hv
  obtain ⟨rfl, hsz, hP, hK, htb⟩ := hv
  have hx := B.exec
  have hb := B.bytes
  have hr := B.returns
  have hts := atoms_spec (ws := wsX1_at) B.pre
  have hown : s.vm.findClass RX1 = some m.cls := findClass_of_methodNamed B.named
  have hlocks := B.notSynchronized
  subst hsz
  obtain ⟨⟨tt, hZ, hT⟩, hNst⟩ := id htb
  have hS : va_S (fun _ : Nat => False) s.heap s.heap [] := va_S.rf
  have hl := lv_entry ([.ref (ad 0), .int k, .int q]) (n := 3) (Nat.le_of_ble_eq_true rfl)
  rw [lg_entry_eq]
  generalize (lg_sl ([.ref (ad 0), .int k, .int q]) ++ List.replicate (3 - (lg_sl ([.ref (ad 0), .int k, .int q])).length) Slot.unset).toArray = ls at hl ⊢
  have hl : lv_has ls 3 [(0, .ref (ad 0)), (1, .int k), (2, .int q)] := hl
  have hnw := nw_le hN
  have hnwp := nw_pos N
  have hpw := pw_le N
  have hpwp := pw_pos N
  have hnp := np_le hN
  refine lv_iload_n hx hb dX1_at_0 rfl (lv_at hl 1 rfl) ?_
  refine va_calli (va_runS (As := [.int k]) (rest := []) ⟨hx, hb, hml, hown, hts⟩ (c_isRegister l D _ k) (va_cwS 1 hts gX1_at_X1_isRegister rfl rfl rfl (by decide +kernel) ⟨Nat.le_of_ble_eq_true rfl, Nat.le_of_ble_eq_true rfl⟩) ⟨wp0_blind, fun U hU hW => wp0_of (va_P.sub hP [] rfl) (hK.sub [] rfl) htb hS no_in hU hW⟩ rfl rfl hl.1 rfl (lv_room (Nat.le_of_ble_eq_true rfl)) dX1_at_1 ⟨Nat.zero_le _, Nat.zero_le _⟩) hS (fun q _ h => h.elim) (fun q h => h.elim) (fun r_1 u_1 t H1 locs ht hvm hw hB hz1 hk1 hS => ?_)
  have hP := xa_same hP hk1
  clear hz1 hk1 hB ht
  generalize H1 = H at hP hS ⊢
  subst hw
  refine xa_if0 (tgt := 19) hx hb dX1_at_4 (by decide) (fun c_4 => ?_) (fun c_4 => ?_)
  · refine lv_iconst (v := (-1)) hx hb dX1_at_19 (by decide) ?_
    exact W.iret (v := (-1)) hx hb hr (fun t ht hW => ⟨⟨(-1), (), rfl, (by unfold sAt; rw [if_neg (by simp [isP, c_4])]), trivial⟩, hS.F ht⟩) hS.2.2 dX1_at_20
  · refine lv_iload_n hx hb dX1_at_7 rfl (lv_at hl 2 rfl) ?_
    refine lv_if_lt (tgt := 19) hx hb dX1_at_8 (by decide) (fun c_8 => ?_) (fun c_8 => ?_)
    · refine lv_iconst (v := (-1)) hx hb dX1_at_19 (by decide) ?_
      exact W.iret (v := (-1)) hx hb hr (fun t ht hW => ⟨⟨(-1), (), rfl, (by unfold sAt; rw [if_neg (by simp [isP, c_4, c_8])]), trivial⟩, hS.F ht⟩) hS.2.2 dX1_at_20
    · refine lv_iload_n hx hb dX1_at_11 rfl (lv_at hl 2 rfl) ?_
      refine lv_aload_n hx hb dX1_at_12 rfl (lv_at hl 0 rfl) ?_
      refine va_get (D := D) (ci := 1) (C := RX1) (T := TX1) (N := 10) hx hb hts (by decide +kernel) hown hK hP 0 rfl rfl 1 (by decide) (hts (.fieldLink RX1 22 "ForkDesk" "points" "I") (by decide +kernel)) (fun _ h9 => h9) rfl dX1_at_13 ?_
      refine lv_icmp_lt (tgt := 21) hx hb dX1_at_16 (by decide) (fun c_16 => ?_) (fun c_16 => ?_)
      · obtain ⟨j, hj, ej⟩ := isR_t c_4
        rw [ej] at hl
        obtain ⟨pp, hpp, epp⟩ := pt_of c_8 c_16 (by omega)
        rw [epp] at hl
        have hpn := pt_nw hpp
        refine lv_aload_n hx hb dX1_at_21 rfl (lv_at hl 0 rfl) ?_
        refine va_get (D := D) (ci := 1) (C := RX1) (T := TX1) (N := 10) hx hb hts (by decide +kernel) hown hK hP 0 rfl rfl 5 (by decide) (hts (.fieldLink RX1 39 "ForkDesk" "registers" "[[J") (by decide +kernel)) (fun _ h9 => h9) rfl dX1_at_22 ?_
        refine lv_iload_n hx hb dX1_at_25 rfl (lv_at hl 1 rfl) ?_
        refine xa_aald hx hb hK hP 1 0 rfl rfl (w := j) (y := ad (10 + j)) (by omega) (by decide) rfl dX1_at_26 ?_
        refine lv_iload_n hx hb dX1_at_27 rfl (lv_at hl 2 rfl) ?_
        refine va_calli (va_runS (As := [.ref (ad (10 + j)), .int (nI pp)]) (rest := []) ⟨hx, hb, hml, hown, hts⟩ (c_valueAt l D _ (ad (10 + j)) cJ (nw N) (G j) pp (by omega) (by omega) (by omega)) (va_cwS 2 hts gX1_at_X1_valueAt rfl rfl rfl (by decide +kernel) ⟨Nat.le_of_ble_eq_true rfl, Nat.le_of_ble_eq_true rfl⟩) ⟨wp0_blind, fun U hU hW => wp0_of (va_one hP (10 + j) (dk_row (by omega))) (hK.sub [1] rfl) htb hS no_in hU hW⟩ rfl rfl hl.1 rfl (lv_room (Nat.le_of_ble_eq_true rfl)) dX1_at_28 ⟨Nat.zero_le _, Nat.zero_le _⟩) hS (fun q _ h => h.elim) (fun q h => h.elim) (fun r_28 u_28 t H1 locs ht hvm hw hB hz1 hk1 hS => ?_)
        have hP := xa_same hP hk1
        clear hz1 hk1 hB ht
        generalize H1 = H at hP hS ⊢
        subst hw
        exact W.iret (v := (nI ((lb (G j (pp / 64)) (pp % 64)).toNat))) hx hb hr (fun t ht hW => ⟨⟨(nI ((lb (G j (pp / 64)) (pp % 64)).toNat)), (), rfl, (by unfold sAt; rw [if_pos (by rw [c_4, show isP N q = true from decide_eq_true ⟨c_8, c_16⟩]; rfl), ej, epp, ix_nI (by omega), ix_nI (by omega), (hg j hj).1 _ _ hpn.1 (Nat.mod_lt _ (by omega)), Nat.div_add_mod]), trivial⟩, hS.F ht⟩) hS.2.2 dX1_at_31
      · refine lv_iconst (v := (-1)) hx hb dX1_at_19 (by decide) ?_
        exact W.iret (v := (-1)) hx hb hr (fun t ht hW => ⟨⟨(-1), (), rfl, (by unfold sAt; rw [if_neg (by simp [isP, c_4, c_8, c_16])]), trivial⟩, hS.F ht⟩) hS.2.2 dX1_at_20

set_option maxHeartbeats 4000000 in
set_option maxRecDepth 100000 in
/-- same -/
theorem c_same (l : Launch) (D : va_G) (sz : Nat) (N : Nat) (hN1 : 1 ≤ N) (hN : N ≤ 12) (ad : Nat → Nat) (hao : aok (fun _ => True) ad) (cJJ cJ cI : ClassId) (dr re : Nat → Int64) (tu kd uh bf la : Nat → Int32) (G : Nat → Nat → Int64) (g : Nat → Nat → Bool) (hg : okG N G g) (a b : Int32) : Met l yX1_same wsX1_same ({ frames := 1, cells := 0, slots := 0, locals := 20 } : Room) (va_Pc [.ref (ad 0), .int a, .int b] (wp0 D (dkW N ad cJJ cJ cI dr re tu kd uh bf la G) (dkT cJJ cJ cI) (fun _ : Nat => False) sz)) (va_Qi (fun (r : Int32) (_ : Unit) => r = nI (sSm N g a b).toNat) (fun _ _ => True) (fun _ : Nat => False)) 0 0 (fun _ : Nat => False) := by
  refine Met.ofW (cc := cX1_same) (maxL := 4) (ret := (some .boolean)) (by decide) rfl ?_
  intro p e s m args below meth c s₁ B hml hv
  obtain ⟨rfl, hsz, hP, hK, htb⟩ := hv
  have hx := B.exec
  have hb := B.bytes
  have hr := B.returns
  have hts := atoms_spec (ws := wsX1_same) B.pre
  have hown : s.vm.findClass RX1 = some m.cls := findClass_of_methodNamed B.named
  have hlocks := B.notSynchronized
  subst hsz
  obtain ⟨⟨tt, hZ, hT⟩, hNst⟩ := id htb
  have hS : va_S (fun _ : Nat => False) s.heap s.heap [] := va_S.rf
  have hl := lv_entry ([.ref (ad 0), .int a, .int b]) (n := 4) (Nat.le_of_ble_eq_true rfl)
  rw [lg_entry_eq]
  generalize (lg_sl ([.ref (ad 0), .int a, .int b]) ++ List.replicate (4 - (lg_sl ([.ref (ad 0), .int a, .int b])).length) Slot.unset).toArray = ls at hl ⊢
  have hl : lv_has ls 4 [(0, .ref (ad 0)), (1, .int a), (2, .int b)] := hl
  have hnw := nw_le hN
  have hnwp := nw_pos N
  have hpw := pw_le N
  have hpwp := pw_pos N
  have hnp := np_le hN
  refine lv_iload_n hx hb dX1_same_0 rfl (lv_at hl 1 rfl) ?_
  refine va_calli (va_runS (As := [.int a]) (rest := []) ⟨hx, hb, hml, hown, hts⟩ (c_isRegister l D _ a) (va_cwS 1 hts gX1_same_X1_isRegister rfl rfl rfl (by decide +kernel) ⟨Nat.le_of_ble_eq_true rfl, Nat.le_of_ble_eq_true rfl⟩) ⟨wp0_blind, fun U hU hW => wp0_of (va_P.sub hP [] rfl) (hK.sub [] rfl) htb hS no_in hU hW⟩ rfl rfl hl.1 rfl (lv_room (Nat.le_of_ble_eq_true rfl)) dX1_same_1 ⟨Nat.zero_le _, Nat.zero_le _⟩) hS (fun q _ h => h.elim) (fun q h => h.elim) (fun r_1 u_1 t H1 locs ht hvm hw hB hz1 hk1 hS => ?_)
  have hP := xa_same hP hk1
  clear hz1 hk1 hB ht
  generalize H1 = H at hP hS ⊢
  subst hw
  refine xa_if0 (tgt := 14) hx hb dX1_same_4 (by decide) (fun c_4 => ?_) (fun c_4 => ?_)
  · refine lv_iconst (v := nI 0) hx hb dX1_same_14 (by decide) ?_
    exact W.zret (v := (nI 0)) hx hb hr (by decide) (fun t ht hW => ⟨⟨(nI 0), (), rfl, (by unfold sSm; simp [c_4]), trivial⟩, hS.F ht⟩) hS.2.2 dX1_same_15
  · refine lv_iload_n hx hb dX1_same_7 rfl (lv_at hl 2 rfl) ?_
    refine va_calli (va_runS (As := [.int b]) (rest := []) ⟨hx, hb, hml, hown, hts⟩ (c_isRegister l D _ b) (va_cwS 1 hts gX1_same_X1_isRegister rfl rfl rfl (by decide +kernel) ⟨Nat.le_of_ble_eq_true rfl, Nat.le_of_ble_eq_true rfl⟩) ⟨wp0_blind, fun U hU hW => wp0_of (va_P.sub hP [] rfl) (hK.sub [] rfl) htb hS no_in hU hW⟩ rfl rfl hl.1 rfl (lv_room (Nat.le_of_ble_eq_true rfl)) dX1_same_8 ⟨Nat.zero_le _, Nat.zero_le _⟩) hS (fun q _ h => h.elim) (fun q h => h.elim) (fun r_8 u_8 t H1 locs ht hvm hw hB hz1 hk1 hS => ?_)
    have hP := xa_same hP hk1
    clear hz1 hk1 hB ht
    generalize H1 = H at hP hS ⊢
    subst hw
    refine xa_if1 (tgt := 16) hx hb dX1_same_11 (by decide) (fun c_11 => ?_) (fun c_11 => ?_)
    · obtain ⟨x1, hx1, ex1⟩ := isR_t c_4
      rw [ex1] at hl
      obtain ⟨x2, hx2, ex2⟩ := isR_t c_11
      rw [ex2] at hl
      have hsm : sSm N g a b = eqg N (g x1) (g x2) := by unfold sSm; rw [c_4, c_11, ex1, ex2, ix_nI (by omega), ix_nI (by omega)]; rfl
      refine lv_iconst (v := nI 0) hx hb dX1_same_16 (by decide) ?_
      refine lv_istore_n (lv' := [(3, .int (nI 0)), (0, .ref (ad 0)), (1, .int (nI x1)), (2, .int (nI x2))]) hx hb dX1_same_17 rfl hl (by decide) rfl (fun ls hl => ?_)
      have lp_18 : ∀ (n9 w : Nat) (H : Heap) (locs : List Loc) (ls : Array Slot), w ≤ nw N → nw N + 1 ≤ w + n9 → (∀ z, z < w → G x1 z = G x2 z) → va_P D vwCl (dkW N ad cJJ cJ cI dr re tu kd uh bf la G) H → va_S (fun _ : Nat => False) s.heap H locs → lv_has ls 4 [(0, .ref (ad 0)), (1, .int (nI x1)), (2, .int (nI x2)), (3, .int (nI w))] → W p l e (headSpec wsX1_same ({ frames := 1, cells := 0, slots := 0, locals := 20 } : Room)).room s m ([.ref (ad 0), .int a, .int b] : List Value).toArray below meth c H locs 0 0 (MQ below (va_Qi (fun (r : Int32) (_ : Unit) => r = nI (sSm N g a b).toNat) (fun _ _ => True) (fun _ : Nat => False)) ([.ref (ad 0), .int a, .int b] : List Value).toArray s 0 0 (fun _ : Nat => False)) (F0 m 18 ls []) := by
        intro n9
        induction n9 with
        | zero => intro w  H locs ls h1 h2; exact absurd h2 (by omega)
        | succ n9 ih =>
          intro w  H locs ls hle_18 hmm_18 hI hP hS hl
          have ih_18 := @ih
          refine lv_iload_n hx hb dX1_same_18 rfl (lv_at hl 3 rfl) ?_
          refine lv_aload_n hx hb dX1_same_19 rfl (lv_at hl 0 rfl) ?_
          refine va_get (D := D) (ci := 1) (C := RX1) (T := TX1) (N := 10) hx hb hts (by decide +kernel) hown hK hP 0 rfl rfl 2 (by decide) (hts (.fieldLink RX1 25 "ForkDesk" "words" "I") (by decide +kernel)) (fun _ h9 => h9) rfl dX1_same_20 ?_
          refine xa_ge (tgt := 54) hx hb (by omega) (by omega) dX1_same_23 (by decide) (fun c_23 => ?_) (fun c_23 => ?_)
          · refine lv_iconst (v := nI 1) hx hb dX1_same_54 (by decide) ?_
            exact W.zret (v := (nI 1)) hx hb hr (by decide) (fun t ht hW => ⟨⟨(nI 1), (), rfl, (by rw [hsm, eqg_t (hg x1 hx1) (hg x2 hx2) (fun z hz => hI z (by omega))]; rfl), trivial⟩, hS.F ht⟩) hS.2.2 dX1_same_55
          · refine lv_aload_n hx hb dX1_same_26 rfl (lv_at hl 0 rfl) ?_
            refine va_get (D := D) (ci := 1) (C := RX1) (T := TX1) (N := 10) hx hb hts (by decide +kernel) hown hK hP 0 rfl rfl 5 (by decide) (hts (.fieldLink RX1 39 "ForkDesk" "registers" "[[J") (by decide +kernel)) (fun _ h9 => h9) rfl dX1_same_27 ?_
            refine lv_iload_n hx hb dX1_same_30 rfl (lv_at hl 1 rfl) ?_
            refine xa_aald hx hb hK hP 1 0 rfl rfl (w := x1) (y := ad (10 + x1)) (by omega) (by decide) rfl dX1_same_31 ?_
            refine lv_iload_n hx hb dX1_same_32 rfl (lv_at hl 3 rfl) ?_
            refine xa_lald hx hb hK hP (10 + x1) 1 (dk_row (by omega)) rfl (w := w) (by omega) (by omega) dX1_same_33 ?_
            refine lv_aload_n hx hb dX1_same_34 rfl (lv_at hl 0 rfl) ?_
            refine va_get (D := D) (ci := 1) (C := RX1) (T := TX1) (N := 10) hx hb hts (by decide +kernel) hown hK hP 0 rfl rfl 5 (by decide) (hts (.fieldLink RX1 39 "ForkDesk" "registers" "[[J") (by decide +kernel)) (fun _ h9 => h9) rfl dX1_same_35 ?_
            refine lv_iload_n hx hb dX1_same_38 rfl (lv_at hl 2 rfl) ?_
            refine xa_aald hx hb hK hP 1 0 rfl rfl (w := x2) (y := ad (10 + x2)) (by omega) (by decide) rfl dX1_same_39 ?_
            refine lv_iload_n hx hb dX1_same_40 rfl (lv_at hl 3 rfl) ?_
            refine xa_lald hx hb hK hP (10 + x2) 1 (dk_row (by omega)) rfl (w := w) (by omega) (by omega) dX1_same_41 ?_
            refine W.lcmp hx hb dX1_same_42 ?_
            refine lv_if_eq (tgt := 48) hx hb dX1_same_43 (by decide) (fun c_43 => ?_) (fun c_43 => ?_)
            · refine xa_inc (k := 3) (lv' := [(3, .int (nI (w + 1))), (0, .ref (ad 0)), (1, .int (nI x1)), (2, .int (nI x2))]) hx hb dX1_same_48 hl rfl (by decide) rfl (fun ls hl => ?_)
              refine lv_goto (tgt := 18) hx hb dX1_same_51 (by decide) ?_
              exact ih_18 (w + 1)  _ _ _ (by omega) (by omega) (fun z hz => by by_cases hzw : z = w; (subst hzw; exact (lg_cmp_eq _ _).mp c_43); (exact hI z (by omega))) hP hS (lv_sub hl [1, 2, 3, 0] rfl)
            · refine lv_iconst (v := nI 0) hx hb dX1_same_46 (by decide) ?_
              exact W.zret (v := (nI 0)) hx hb hr (by decide) (fun t ht hW => ⟨⟨(nI 0), (), rfl, (by rw [hsm, eqg_f (hg x1 hx1) (hg x2 hx2) c_23 (fun h => c_43 ((lg_cmp_eq _ _).mpr h))]; rfl), trivial⟩, hS.F ht⟩) hS.2.2 dX1_same_47
      exact lp_18 (nw N + 1 - 0) 0  _ _ _ (by omega) (by omega) (fun z hz => absurd hz (by omega)) hP hS (lv_sub hl [1, 2, 3, 0] rfl)
    · refine lv_iconst (v := nI 0) hx hb dX1_same_14 (by decide) ?_
      exact W.zret (v := (nI 0)) hx hb hr (by decide) (fun t ht hW => ⟨⟨(nI 0), (), rfl, (by unfold sSm; simp [c_4, c_11]), trivial⟩, hS.F ht⟩) hS.2.2 dX1_same_15
