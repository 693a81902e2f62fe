set_option maxHeartbeats 4000000 in
set_option maxRecDepth 100000 in
/-- lowestPlace -/
theorem c_lowestPlace (l : Launch) (D : va_G) (sz : Nat) (x : Int64) : Met l yX1_lowestPlace wsX1_lowestPlace ({ frames := 1, cells := 0, slots := 0, locals := 21 } : Room) (va_Pc [.long x] (wp0 D [] [] (fun _ : Nat => False) sz)) (va_Qi (fun (r : Int32) (_ : Unit) => r = nI (pcn (lb ((x &&& -x) - 1)) 64)) (fun _ _ => True) (fun _ : Nat => False)) 0 0 (fun _ : Nat => False) := by
  refine Met.ofW (cc := cX1_lowestPlace) (maxL := 2) (ret := (some .int)) (by decide) rfl ?_
  intro p e s m args below meth c s₁ B hml hv
  obtain ⟨rfl, hsz, hP, hK, htb⟩ := hv
  have hx := B.exec
  have hb := B.bytes
  have hr := B.returns
  have hts := atoms_spec (ws := wsX1_lowestPlace) B.pre
  have hown : s.vm.findClass RX1 = some m.cls := findClass_of_methodNamed B.named
  have hlocks := B.notSynchronized
  subst hsz
  obtain ⟨⟨tt, hZ, hT⟩, hNst⟩ := id htb
  have hS : va_S (fun _ : Nat => False) s.heap s.heap [] := va_S.rf
  have hl := lv_entry ([.long x]) (n := 2) (Nat.le_of_ble_eq_true rfl)
  rw [lg_entry_eq]
  generalize (lg_sl ([.long x]) ++ List.replicate (2 - (lg_sl ([.long x])).length) Slot.unset).toArray = ls at hl ⊢
  have hl : lv_has ls 2 [(0, .long x)] := hl
  refine lv_lload_n hx hb dX1_lowestPlace_0 rfl (lv_at hl 0 rfl) ?_
  refine lv_lload_n hx hb dX1_lowestPlace_1 rfl (lv_at hl 0 rfl) ?_
  refine lv_lneg hx hb dX1_lowestPlace_2 ?_
  refine lv_land hx hb dX1_lowestPlace_3 ?_
  refine lv_lconst (v := 1) hx hb dX1_lowestPlace_4 (by decide) ?_
  refine lv_lsub hx hb dX1_lowestPlace_5 ?_
  refine va_calli (va_runS (As := [.long ((x &&& (-x)) - (1 : Int64))]) (rest := []) ⟨hx, hb, hml, hown, hts⟩ (c_bitCount l D _ ((x &&& (-x)) - (1 : Int64))) (va_cwS 1 hts gX1_lowestPlace_J13_bitCount_95d88 rfl rfl rfl (by decide +kernel) ⟨Nat.le_of_ble_eq_true rfl, Nat.le_of_ble_eq_true rfl⟩) ⟨wp0_blind, fun U hU hW => wp0_of (va_P.sub hP [] rfl) (hK.sub [] rfl) htb hS no_in hU hW⟩ rfl rfl hl.1 rfl (lv_room (Nat.le_of_ble_eq_true rfl)) dX1_lowestPlace_6 ⟨Nat.zero_le _, Nat.zero_le _⟩) hS (fun q _ h => h.elim) (fun q h => h.elim) (fun r_6 u_6 t H1 locs ht hvm hw hB hz1 hk1 hS => ?_)
  have hP := xa_same hP hk1
  clear hz1 hk1 hB ht
  generalize H1 = H at hP hS ⊢
  subst hw
  exact W.iret (v := (nI (pcn (lb ((x &&& (-x)) - (1 : Int64))) 64))) hx hb hr (fun t ht hW => ⟨⟨(nI (pcn (lb ((x &&& (-x)) - (1 : Int64))) 64)), (), rfl, rfl, trivial⟩, hS.F ht⟩) hS.2.2 dX1_lowestPlace_9

set_option maxHeartbeats 4000000 in
set_option maxRecDepth 100000 in
/-- ones -/
theorem c_ones (l : Launch) (D : va_G) (sz : Nat) (N : Nat) (hN1 : 1 ≤ N) (hN : N ≤ 12) (ad : Nat → Nat) (hao : aok (fun _ => True) ad) (cJJ cJ cI : ClassId) (dr re : Nat → Int64) (tu kd uh bf la : Nat → Int32) (G : Nat → Nat → Int64) (g : Nat → Nat → Bool) (hg : okG N G g) (k : Int32) : Met l yX1_ones wsX1_ones ({ frames := 1, cells := 0, slots := 0, locals := 21 } : Room) (va_Pc [.ref (ad 0), .int k] (wp0 D (dkW N ad cJJ cJ cI dr re tu kd uh bf la G) (dkT cJJ cJ cI) (fun _ : Nat => False) sz)) (va_Qi (fun (r : Int32) (_ : Unit) => r = sOn N g k) (fun _ _ => True) (fun _ : Nat => False)) 0 0 (fun _ : Nat => False) := by
  refine Met.ofW (cc := cX1_ones) (maxL := 4) (ret := (some .int)) (by decide) rfl ?_
  intro p e s m args below meth c s₁ B hml hv
  obtain ⟨rfl, hsz, hP, hK, htb⟩ := hv
  have hx := B.exec
  have hb := B.bytes
  have hr := B.returns
  have hts := atoms_spec (ws := wsX1_ones) B.pre
  have hown : s.vm.findClass RX1 = some m.cls := findClass_of_methodNamed B.named
  have hlocks := B.notSynchronized
  subst hsz
  obtain ⟨⟨tt, hZ, hT⟩, hNst⟩ := id htb
  have hS : va_S (fun _ : Nat => False) s.heap s.heap [] := va_S.rf
  have hl := lv_entry ([.ref (ad 0), .int k]) (n := 4) (Nat.le_of_ble_eq_true rfl)
  rw [lg_entry_eq]
  generalize (lg_sl ([.ref (ad 0), .int k]) ++ List.replicate (4 - (lg_sl ([.ref (ad 0), .int k])).length) Slot.unset).toArray = ls at hl ⊢
  have hl : lv_has ls 4 [(0, .ref (ad 0)), (1, .int k)] := hl
  have hnw := nw_le hN
  have hnwp := nw_pos N
  have hpw := pw_le N
  have hpwp := pw_pos N
  have hnp := np_le hN
  refine lv_iload_n hx hb dX1_ones_0 rfl (lv_at hl 1 rfl) ?_
  refine va_calli (va_runS (As := [.int k]) (rest := []) ⟨hx, hb, hml, hown, hts⟩ (c_isRegister l D _ k) (va_cwS 1 hts gX1_ones_X1_isRegister rfl rfl rfl (by decide +kernel) ⟨Nat.le_of_ble_eq_true rfl, Nat.le_of_ble_eq_true rfl⟩) ⟨wp0_blind, fun U hU hW => wp0_of (va_P.sub hP [] rfl) (hK.sub [] rfl) htb hS no_in hU hW⟩ rfl rfl hl.1 rfl (lv_room (Nat.le_of_ble_eq_true rfl)) dX1_ones_1 ⟨Nat.zero_le _, Nat.zero_le _⟩) hS (fun q _ h => h.elim) (fun q h => h.elim) (fun r_1 u_1 t H1 locs ht hvm hw hB hz1 hk1 hS => ?_)
  have hP := xa_same hP hk1
  clear hz1 hk1 hB ht
  generalize H1 = H at hP hS ⊢
  subst hw
  refine xa_if1 (tgt := 9) hx hb dX1_ones_4 (by decide) (fun c_4 => ?_) (fun c_4 => ?_)
  · obtain ⟨j, hj, ej⟩ := isR_t c_4
    rw [ej] at hl
    refine lv_iconst (v := nI 0) hx hb dX1_ones_9 (by decide) ?_
    refine lv_istore_n (lv' := [(2, .int (nI 0)), (0, .ref (ad 0)), (1, .int (nI j))]) hx hb dX1_ones_10 rfl hl (by decide) rfl (fun ls hl => ?_)
    refine lv_iconst (v := nI 0) hx hb dX1_ones_11 (by decide) ?_
    refine lv_istore_n (lv' := [(3, .int (nI 0)), (2, .int (nI 0)), (0, .ref (ad 0)), (1, .int (nI j))]) hx hb dX1_ones_12 rfl hl (by decide) rfl (fun ls hl => ?_)
    have lp_13 : ∀ (n9 w : Nat) (sm : Nat) (H : Heap) (locs : List Loc) (ls : Array Slot), w ≤ nw N → nw N + 1 ≤ w + n9 → sm = pcn (g j) (64 * w) → va_P D vwCl (dkW N ad cJJ cJ cI dr re tu kd uh bf la G) H → va_S (fun _ : Nat => False) s.heap H locs → lv_has ls 4 [(0, .ref (ad 0)), (1, .int (nI j)), (2, .int (nI sm)), (3, .int (nI w))] → W p l e (headSpec wsX1_ones ({ frames := 1, cells := 0, slots := 0, locals := 21 } : Room)).room s m ([.ref (ad 0), .int k] : List Value).toArray below meth c H locs 0 0 (MQ below (va_Qi (fun (r : Int32) (_ : Unit) => r = sOn N g k) (fun _ _ => True) (fun _ : Nat => False)) ([.ref (ad 0), .int k] : List Value).toArray s 0 0 (fun _ : Nat => False)) (F0 m 13 ls []) := by
      intro n9
      induction n9 with
      | zero => intro w sm H locs ls h1 h2; exact absurd h2 (by omega)
      | succ n9 ih =>
        intro w sm H locs ls hle_13 hmm_13 hI hP hS hl
        have hpc := pcn_le (g j) (64 * w)
        have ih_13 := @ih
        refine lv_iload_n hx hb dX1_ones_13 rfl (lv_at hl 3 rfl) ?_
        refine lv_aload_n hx hb dX1_ones_14 rfl (lv_at hl 0 rfl) ?_
        refine va_get (D := D) (ci := 1) (C := RX1) (T := TX1) (N := 10) hx hb hts (by decide +kernel) hown hK hP 0 rfl rfl 2 (by decide) (hts (.fieldLink RX1 25 "ForkDesk" "words" "I") (by decide +kernel)) (fun _ h9 => h9) rfl dX1_ones_15 ?_
        refine xa_ge (tgt := 41) hx hb (by omega) (by omega) dX1_ones_18 (by decide) (fun c_18 => ?_) (fun c_18 => ?_)
        · refine lv_iload_n hx hb dX1_ones_41 rfl (lv_at hl 2 rfl) ?_
          exact W.iret (v := (nI sm)) hx hb hr (fun t ht hW => ⟨⟨(nI sm), (), rfl, (by unfold sOn; rw [if_pos c_4, ej, ix_nI (by omega), hI, show w = nw N by omega, on_e (hg j hj).2]), trivial⟩, hS.F ht⟩) hS.2.2 dX1_ones_42
        · refine lv_iload_n hx hb dX1_ones_21 rfl (lv_at hl 2 rfl) ?_
          refine lv_aload_n hx hb dX1_ones_22 rfl (lv_at hl 0 rfl) ?_
          refine va_get (D := D) (ci := 1) (C := RX1) (T := TX1) (N := 10) hx hb hts (by decide +kernel) hown hK hP 0 rfl rfl 5 (by decide) (hts (.fieldLink RX1 39 "ForkDesk" "registers" "[[J") (by decide +kernel)) (fun _ h9 => h9) rfl dX1_ones_23 ?_
          refine lv_iload_n hx hb dX1_ones_26 rfl (lv_at hl 1 rfl) ?_
          refine xa_aald hx hb hK hP 1 0 rfl rfl (w := j) (y := ad (10 + j)) (by omega) (by decide) rfl dX1_ones_27 ?_
          refine lv_iload_n hx hb dX1_ones_28 rfl (lv_at hl 3 rfl) ?_
          refine xa_lald hx hb hK hP (10 + j) 1 (dk_row (by omega)) rfl (w := w) (by omega) (by omega) dX1_ones_29 ?_
          refine va_calli (va_runS (As := [.long (G j w)]) (rest := [.int (nI sm)]) ⟨hx, hb, hml, hown, hts⟩ (c_bitCount l D _ (G j w)) (va_cwS 1 hts gX1_ones_J13_bitCount_95d88 rfl rfl rfl (by decide +kernel) ⟨Nat.le_of_ble_eq_true rfl, Nat.le_of_ble_eq_true rfl⟩) ⟨wp0_blind, fun U hU hW => wp0_of (va_P.sub hP [] rfl) (hK.sub [] rfl) htb hS no_in hU hW⟩ rfl rfl hl.1 rfl (lv_room (Nat.le_of_ble_eq_true rfl)) dX1_ones_30 ⟨Nat.zero_le _, Nat.zero_le _⟩) hS (fun q _ h => h.elim) (fun q h => h.elim) (fun r_30 u_30 t H1 locs ht hvm hw hB hz1 hk1 hS => ?_)
          have hP := xa_same hP hk1
          clear hz1 hk1 hB ht
          generalize H1 = H at hP hS ⊢
          subst hw
          refine xa_iadd hx hb dX1_ones_33 ?_
          refine lv_istore_n (lv' := [(2, .int (nI (sm + (pcn (lb (G j w)) 64)))), (0, .ref (ad 0)), (1, .int (nI j)), (3, .int (nI w))]) hx hb dX1_ones_34 rfl hl (by decide) rfl (fun ls hl => ?_)
          refine xa_inc (k := 3) (lv' := [(3, .int (nI (w + 1))), (2, .int (nI (sm + (pcn (lb (G j w)) 64)))), (0, .ref (ad 0)), (1, .int (nI j))]) hx hb dX1_ones_35 hl rfl (by decide) rfl (fun ls hl => ?_)
          refine lv_goto (tgt := 13) hx hb dX1_ones_38 (by decide) ?_
          exact ih_13 (w + 1) (sm + (pcn (lb (G j w)) 64)) _ _ _ (by omega) (by omega) (by rw [hI]; exact on_s (hg j hj).1 (by omega)) hP hS (lv_sub hl [2, 3, 1, 0] rfl)
    exact lp_13 (nw N + 1 - 0) 0 0 _ _ _ (by omega) (by omega) rfl hP hS (lv_sub hl [2, 3, 1, 0] rfl)
  · refine lv_iconst (v := (-1)) hx hb dX1_ones_7 (by decide) ?_
    exact W.iret (v := (-1)) hx hb hr (fun t ht hW => ⟨⟨(-1), (), rfl, (by unfold sOn; rw [c_4]; rfl), trivial⟩, hS.F ht⟩) hS.2.2 dX1_ones_8

set_option maxHeartbeats 4000000 in
set_option maxRecDepth 100000 in
/-- least -/
theorem c_least (l : Launch) (D : va_G) (sz : Nat) (N : Nat) (hN1 : 1 ≤ N) (hN : N ≤ 12) (ad : Nat → Nat) (hao : aok (fun _ => True) ad) (cJJ cJ cI : ClassId) (dr re : Nat → Int64) (tu kd uh bf la : Nat → Int32) (G : Nat → Nat → Int64) (g : Nat → Nat → Bool) (hg : okG N G g) (k : Int32) : Met l yX1_least wsX1_least ({ frames := 2, cells := 0, slots := 0, locals := 42 } : Room) (va_Pc [.ref (ad 0), .int k] (wp0 D (dkW N ad cJJ cJ cI dr re tu kd uh bf la G) (dkT cJJ cJ cI) (fun _ : Nat => False) sz)) (va_Qi (fun (r : Int32) (_ : Unit) => r = sLe N g k) (fun _ _ => True) (fun _ : Nat => False)) 0 0 (fun _ : Nat => False) := by
  refine Met.ofW (cc := cX1_least) (maxL := 5) (ret := (some .int)) (by decide) rfl ?_
  intro p e s m args below meth c s₁ B hml hv
  obtain ⟨rfl, hsz, hP, hK, htb⟩ := hv
  have hx := B.exec
  have hb := B.bytes
  have hr := B.returns
  have hts := atoms_spec (ws := wsX1_least) B.pre
  have hown : s.vm.findClass RX1 = some m.cls := findClass_of_methodNamed B.named
  have hlocks := B.notSynchronized
  subst hsz
  obtain ⟨⟨tt, hZ, hT⟩, hNst⟩ := id htb
  have hS : va_S (fun _ : Nat => False) s.heap s.heap [] := va_S.rf
  have hl := lv_entry ([.ref (ad 0), .int k]) (n := 5) (Nat.le_of_ble_eq_true rfl)
  rw [lg_entry_eq]
  generalize (lg_sl ([.ref (ad 0), .int k]) ++ List.replicate (5 - (lg_sl ([.ref (ad 0), .int k])).length) Slot.unset).toArray = ls at hl ⊢
  have hl : lv_has ls 5 [(0, .ref (ad 0)), (1, .int k)] := hl
  have hnw := nw_le hN
  have hnwp := nw_pos N
  have hpw := pw_le N
  have hpwp := pw_pos N
  have hnp := np_le hN
  refine lv_iload_n hx hb dX1_least_0 rfl (lv_at hl 1 rfl) ?_
  refine va_calli (va_runS (As := [.int k]) (rest := []) ⟨hx, hb, hml, hown, hts⟩ (c_isRegister l D _ k) (va_cwS 1 hts gX1_least_X1_isRegister rfl rfl rfl (by decide +kernel) ⟨Nat.le_of_ble_eq_true rfl, Nat.le_of_ble_eq_true rfl⟩) ⟨wp0_blind, fun U hU hW => wp0_of (va_P.sub hP [] rfl) (hK.sub [] rfl) htb hS no_in hU hW⟩ rfl rfl hl.1 rfl (lv_room (Nat.le_of_ble_eq_true rfl)) dX1_least_1 ⟨Nat.zero_le _, Nat.zero_le _⟩) hS (fun q _ h => h.elim) (fun q h => h.elim) (fun r_1 u_1 t H1 locs ht hvm hw hB hz1 hk1 hS => ?_)
  have hP := xa_same hP hk1
  clear hz1 hk1 hB ht
  generalize H1 = H at hP hS ⊢
  subst hw
  refine xa_if1 (tgt := 9) hx hb dX1_least_4 (by decide) (fun c_4 => ?_) (fun c_4 => ?_)
  · obtain ⟨j, hj, ej⟩ := isR_t c_4
    rw [ej] at hl
    refine lv_iconst (v := nI 0) hx hb dX1_least_9 (by decide) ?_
    refine lv_istore_n (lv' := [(2, .int (nI 0)), (0, .ref (ad 0)), (1, .int (nI j))]) hx hb dX1_least_10 rfl hl (by decide) rfl (fun ls hl => ?_)
    have lp_11 : ∀ (n9 w : Nat) (H : Heap) (locs : List Loc) (ls : Array Slot), w ≤ nw N → nw N + 1 ≤ w + n9 → (∀ z, z < w → G j z = 0) → va_P D vwCl (dkW N ad cJJ cJ cI dr re tu kd uh bf la G) H → va_S (fun _ : Nat => False) s.heap H locs → lv_has ls 5 [(0, .ref (ad 0)), (1, .int (nI j)), (2, .int (nI w))] → W p l e (headSpec wsX1_least ({ frames := 2, cells := 0, slots := 0, locals := 42 } : Room)).room s m ([.ref (ad 0), .int k] : List Value).toArray below meth c H locs 0 0 (MQ below (va_Qi (fun (r : Int32) (_ : Unit) => r = sLe N g k) (fun _ _ => True) (fun _ : Nat => False)) ([.ref (ad 0), .int k] : List Value).toArray s 0 0 (fun _ : Nat => False)) (F0 m 11 ls []) := by
      intro n9
      induction n9 with
      | zero => intro w  H locs ls h1 h2; exact absurd h2 (by omega)
      | succ n9 ih =>
        intro w  H locs ls hle_11 hmm_11 hI hP hS hl
        have ih_11 := @ih
        refine lv_iload_n hx hb dX1_least_11 rfl (lv_at hl 2 rfl) ?_
        refine lv_aload_n hx hb dX1_least_12 rfl (lv_at hl 0 rfl) ?_
        refine va_get (D := D) (ci := 1) (C := RX1) (T := TX1) (N := 10) hx hb hts (by decide +kernel) hown hK hP 0 rfl rfl 2 (by decide) (hts (.fieldLink RX1 25 "ForkDesk" "words" "I") (by decide +kernel)) (fun _ h9 => h9) rfl dX1_least_13 ?_
        refine xa_ge (tgt := 50) hx hb (by omega) (by omega) dX1_least_16 (by decide) (fun c_16 => ?_) (fun c_16 => ?_)
        · refine lv_iconst (v := (-1)) hx hb dX1_least_50 (by decide) ?_
          exact W.iret (v := (-1)) hx hb hr (fun t ht hW => ⟨⟨(-1), (), rfl, (by unfold sLe; rw [if_pos c_4, ej, ix_nI (by omega), le_none (hg j hj).1 (fun z hz => hI z (by omega))]; rfl), trivial⟩, hS.F ht⟩) hS.2.2 dX1_least_51
        · refine lv_aload_n hx hb dX1_least_19 rfl (lv_at hl 0 rfl) ?_
          refine va_get (D := D) (ci := 1) (C := RX1) (T := TX1) (N := 10) hx hb hts (by decide +kernel) hown hK hP 0 rfl rfl 5 (by decide) (hts (.fieldLink RX1 39 "ForkDesk" "registers" "[[J") (by decide +kernel)) (fun _ h9 => h9) rfl dX1_least_20 ?_
          refine lv_iload_n hx hb dX1_least_23 rfl (lv_at hl 1 rfl) ?_
          refine xa_aald hx hb hK hP 1 0 rfl rfl (w := j) (y := ad (10 + j)) (by omega) (by decide) rfl dX1_least_24 ?_
          refine lv_iload_n hx hb dX1_least_25 rfl (lv_at hl 2 rfl) ?_
          refine xa_lald hx hb hK hP (10 + j) 1 (dk_row (by omega)) rfl (w := w) (by omega) (by omega) dX1_least_26 ?_
          refine lv_lstore_n (lv' := [(3, .long (G j w)), (0, .ref (ad 0)), (1, .int (nI j)), (2, .int (nI w))]) hx hb dX1_least_27 rfl hl (by decide) rfl (fun ls hl => ?_)
          refine lv_lload_n hx hb dX1_least_28 rfl (lv_at hl 0 rfl) ?_
          refine lv_lconst (v := 0) hx hb dX1_least_29 (by decide) ?_
          refine W.lcmp hx hb dX1_least_30 ?_
          refine lv_if_eq (tgt := 44) hx hb dX1_least_31 (by decide) (fun c_31 => ?_) (fun c_31 => ?_)
          · refine xa_inc (k := 3) (lv' := [(2, .int (nI (w + 1))), (3, .long (G j w)), (0, .ref (ad 0)), (1, .int (nI j))]) hx hb dX1_least_44 hl rfl (by decide) rfl (fun ls hl => ?_)
            refine lv_goto (tgt := 11) hx hb dX1_least_47 (by decide) ?_
            exact ih_11 (w + 1)  _ _ _ (by omega) (by omega) (fun z hz => by by_cases hzw : z = w; (subst hzw; exact (lg_cmp_eq _ _).mp c_31); (exact hI z (by omega))) hP hS (lv_sub hl [2, 3, 0] rfl)
          · refine lv_iload_n hx hb dX1_least_34 rfl (lv_at hl 3 rfl) ?_
            refine lv_bipush (v := nI 64) hx hb dX1_least_35 (by decide) ?_
            refine xa_imul hx hb dX1_least_37 ?_
            refine lv_lload_n hx hb dX1_least_38 rfl (lv_at hl 0 rfl) ?_
            refine va_calli (va_runS (As := [.long (G j w)]) (rest := [.int (nI (w * 64))]) ⟨hx, hb, hml, hown, hts⟩ (c_lowestPlace l D _ (G j w)) (va_cwS 1 hts gX1_least_X1_lowestPlace rfl rfl rfl (by decide +kernel) ⟨Nat.le_of_ble_eq_true rfl, Nat.le_of_ble_eq_true rfl⟩) ⟨wp0_blind, fun U hU hW => wp0_of (va_P.sub hP [] rfl) (hK.sub [] rfl) htb hS no_in hU hW⟩ rfl rfl hl.1 rfl (lv_room (Nat.le_of_ble_eq_true rfl)) dX1_least_39 ⟨Nat.zero_le _, Nat.zero_le _⟩) hS (fun q _ h => h.elim) (fun q h => h.elim) (fun r_39 u_39 t H1 locs ht hvm hw hB hz1 hk1 hS => ?_)
            have hP := xa_same hP hk1
            clear hz1 hk1 hB ht
            generalize H1 = H at hP hS ⊢
            subst hw
            refine xa_iadd hx hb dX1_least_42 ?_
            exact W.iret (v := (nI ((w * 64) + (pcn (lb (((G j w) &&& -(G j w)) - 1)) 64)))) hx hb hr (fun t ht hW => ⟨⟨(nI ((w * 64) + (pcn (lb (((G j w) &&& -(G j w)) - 1)) 64))), (), rfl, (by unfold sLe; rw [if_pos c_4, ej, ix_nI (by omega)]; exact le_some (hg j hj).1 (hg j hj).2 (by omega) hI (fun h => c_31 ((lg_cmp_eq _ _).mpr h))), trivial⟩, hS.F ht⟩) hS.2.2 dX1_least_43
    exact lp_11 (nw N + 1 - 0) 0  _ _ _ (by omega) (by omega) (fun z hz => absurd hz (by omega)) hP hS (lv_sub hl [1, 2, 0] rfl)
  · refine lv_iconst (v := (-1)) hx hb dX1_least_7 (by decide) ?_
    exact W.iret (v := (-1)) hx hb hr (fun t ht hW => ⟨⟨(-1), (), rfl, (by unfold sLe; rw [c_4]; rfl), trivial⟩, hS.F ht⟩) hS.2.2 dX1_least_8

set_option maxHeartbeats 4000000 in
set_option maxRecDepth 100000 in
/-- forks -/
theorem c_forks (l : Launch) (D : va_G) (sz : Nat) (N : Nat) (hN1 : 1 ≤ N) (hN : N ≤ 12) (ad : Nat → Nat) (hao : aok (fun _ => True) ad) (cJJ cJ cI : ClassId) (dr re : Nat → Int64) (tu kd uh bf la : Nat → Int32) (G : Nat → Nat → Int64) (g : Nat → Nat → Bool) (hg : okG N G g) (k : Int32) : Met l yX1_forks wsX1_forks ({ frames := 3, cells := 0, slots := 0, locals := 74 } : Room) (va_Pc [.ref (ad 0), .int k] (wp0 D (dkW N ad cJJ cJ cI dr re tu kd uh bf la G) (dkT cJJ cJ cI) (fr ad sz) sz)) (va_Qi (fun (r : Int32) (u : dkS) => r = sFo N g k ∧ okG N (dkR u) g) (fun (u : dkS) t => va_P D vwCl (dkU N ad cJJ cJ cI u) t.heap) (fr ad sz)) 0 0 (fr ad sz) := by
  refine Met.ofW (cc := cX1_forks) (maxL := 2) (ret := (some .int)) (by decide) rfl ?_
  intro p e s m args below meth c s₁ B hml hv
  obtain ⟨rfl, hsz, hP, hK, htb⟩ := hv
  have hx := B.exec
  have hb := B.bytes
  have hr := B.returns
  have hts := atoms_spec (ws := wsX1_forks) B.pre
  have hown : s.vm.findClass RX1 = some m.cls := findClass_of_methodNamed B.named
  have hlocks := B.notSynchronized
  subst hsz
  generalize hAe : fr ad s.heap.size = A at htb ⊢
  have hA : ∀ q : Nat, s.heap.size ≤ q → A q := fun q h => by rw [← hAe]; exact fr_new q h
  have hao : aok A ad := by rw [← hAe]; exact aok_fr hao
  obtain ⟨⟨tt, hZ, hT⟩, hNst⟩ := id htb
  have hS : va_S A s.heap s.heap [] := va_S.rf
  have hl := lv_entry ([.ref (ad 0), .int k]) (n := 2) (Nat.le_of_ble_eq_true rfl)
  rw [lg_entry_eq]
  generalize (lg_sl ([.ref (ad 0), .int k]) ++ List.replicate (2 - (lg_sl ([.ref (ad 0), .int k])).length) Slot.unset).toArray = ls at hl ⊢
  have hl : lv_has ls 2 [(0, .ref (ad 0)), (1, .int k)] := hl
  have hnw := nw_le hN
  have hnwp := nw_pos N
  have hpw := pw_le N
  have hpwp := pw_pos N
  have hnp := np_le hN
  refine lv_iload_n hx hb dX1_forks_0 rfl (lv_at hl 1 rfl) ?_
  refine va_calli (va_runS (As := [.int k]) (rest := []) ⟨hx, hb, hml, hown, hts⟩ (c_isRegister l D _ k) (va_cwS 1 hts gX1_forks_X1_isRegister rfl rfl rfl (by decide +kernel) ⟨Nat.le_of_ble_eq_true rfl, Nat.le_of_ble_eq_true rfl⟩) ⟨wp0_blind, fun U hU hW => wp0_of (va_P.sub hP [] rfl) (hK.sub [] rfl) htb hS no_in hU hW⟩ rfl rfl hl.1 rfl (lv_room (Nat.le_of_ble_eq_true rfl)) dX1_forks_1 ⟨Nat.zero_le _, Nat.zero_le _⟩) hS (fun q _ h => h.elim) (fun q h => h.elim) (fun r_1 u_1 t H1 locs ht hvm hw hB hz1 hk1 hS => ?_)
  have hP := xa_same hP hk1
  clear hz1 hk1 hB ht
  generalize H1 = H at hP hS ⊢
  subst hw
  refine xa_if0 (tgt := 23) hx hb dX1_forks_4 (by decide) (fun c_4 => ?_) (fun c_4 => ?_)
  · refine lv_iconst (v := (-1)) hx hb dX1_forks_23 (by decide) ?_
    exact W.iret (v := (-1)) hx hb hr (fun t ht hW => ⟨⟨(-1), (dr, re, tu, kd, uh, bf, la, G), rfl, ⟨by unfold sFo; rw [c_4]; rfl, hg⟩, (by show va_P _ _ _ _; rw [ht]; exact hP)⟩, hS.F ht⟩) hS.2.2 dX1_forks_24
  · obtain ⟨j, hj, ej⟩ := isR_t c_4
    rw [ej] at hl
    refine lv_aload_n hx hb dX1_forks_7 rfl (lv_at hl 0 rfl) ?_
    refine va_get (D := D) (ci := 1) (C := RX1) (T := TX1) (N := 10) hx hb hts (by decide +kernel) hown hK hP 0 rfl rfl 9 (by decide) (hts (.fieldLink RX1 58 "ForkDesk" "forkCounter" "LForkDesk$ForkCounter;") (by decide +kernel)) (fun _ h9 => h9) rfl dX1_forks_8 ?_
    refine lv_aload_n hx hb dX1_forks_11 rfl (lv_at hl 0 rfl) ?_
    refine va_get (D := D) (ci := 1) (C := RX1) (T := TX1) (N := 10) hx hb hts (by decide +kernel) hown hK hP 0 rfl rfl 5 (by decide) (hts (.fieldLink RX1 39 "ForkDesk" "registers" "[[J") (by decide +kernel)) (fun _ h9 => h9) rfl dX1_forks_12 ?_
    refine lv_iload_n hx hb dX1_forks_15 rfl (lv_at hl 1 rfl) ?_
    refine xa_aald hx hb hK hP 1 0 rfl rfl (w := j) (y := ad (10 + j)) (by omega) (by decide) rfl dX1_forks_16 ?_
    refine va_calli (va_runV (As := [.ref (ad (10 + j))]) (rest := []) ⟨hx, hb, hml, hown, hts⟩ (c_count l D _ N hN1 hN ad (aok_true hao) cJJ cJ cI dr re tu kd uh bf la G j hj (g j) (hg j hj).1) (cwV 1 hts gX1_forks_X0_count rfl rfl rfl (by decide +kernel) ⟨Nat.le_of_ble_eq_true rfl, Nat.le_of_ble_eq_true rfl⟩) ⟨wp0_blind, va_recv hK hP (ci := 0) (q0 := 5) rfl rfl, fun U hU hW => wp0_of hP hK htb hS (fr_in hao hS hA) hU hW⟩ rfl rfl hl.1 rfl (lv_room (Nat.le_of_ble_eq_true rfl)) dX1_forks_17 ⟨Nat.zero_le _, Nat.zero_le _⟩) hS (fun q _ h => (fr_in hao hS hA) q h) ((fr_in hao hS hA)) (fun r_17 u_17 t H1 locs ht hvm hw hB hz1 hk1 hS => ?_)
    rw [ht] at hB
    have hP := hB
    clear hz1 hk1 hB ht
    generalize H1 = H at hP hS ⊢
    subst hw
    refine lv_goto (tgt := 24) hx hb dX1_forks_20 (by decide) ?_
    exact W.iret (v := (nI (fc (g j) N N))) hx hb hr (fun t ht hW => ⟨⟨(nI (fc (g j) N N)), (dr, re, tu, u_17.1, u_17.2.1, u_17.2.2.1, u_17.2.2.2, G), rfl, ⟨by unfold sFo; rw [if_pos c_4, ej, ix_nI (by omega)], hg⟩, (by show va_P _ _ _ _; rw [ht]; exact hP)⟩, hS.F ht⟩) hS.2.2 dX1_forks_24
