set_option maxHeartbeats 4000000 in
set_option maxRecDepth 100000 in
/-- the reference: variable -/
theorem c_mVariable (l : Launch) (D : va_G) (sz : Nat) (N : Nat) (hN1 : 1 ≤ N) (hN : N ≤ 12) (bd : Nat → Nat) (hao : aok4 (fun _ => True) bd) (cZ cI : ClassId) (th : Int32) (rb mb : Nat → Bool) (pt : Nat → Int32) (g : Nat → Nat → Bool) (hg : okM N rb g) (k v : Int32) : Met l yX2_variable wsX2_variable ({ frames := 1, cells := 0, slots := 0, locals := 22 } : Room) (va_Pc [.ref (bd 0), .int k, .int v] (wp0 D (mdW N bd cZ cI th rb mb pt) (mdT cZ cI) (fr4 bd sz) sz)) (va_Qi (fun (r : Int32) (u : (Nat → Bool) × (Nat → Bool) × (Nat → Int32)) => r = nI (spV N g k v).isSome.toNat ∧ okM N u.1 ((spV N g k v).getD g)) (fun (u : (Nat → Bool) × (Nat → Bool) × (Nat → Int32)) t => va_P D vwCl (mdW N bd cZ cI (nI 0) u.1 u.2.1 u.2.2) t.heap) (fr4 bd sz)) 0 0 (fr4 bd sz) := by
  refine Met.ofW (cc := cX2_variable) (maxL := 4) (ret := (some .boolean)) (by decide) rfl ?_
  intro p e s m args below meth c s₁ B hml hv
  obtain ⟨rfl, hsz, hP, hK, htb⟩ := hv
  have hx := B.exec
  have hb := B.bytes
  have hr := B.returns
  have hts := atoms_spec (ws := wsX2_variable) B.pre
  have hown : s.vm.findClass RX2 = some m.cls := findClass_of_methodNamed B.named
  have hlocks := B.notSynchronized
  subst hsz
  generalize hAe : fr4 bd s.heap.size = A at htb ⊢
  have hA : ∀ q : Nat, s.heap.size ≤ q → A q := fun q h => by rw [← hAe]; exact fr4_new q h
  have hao : aok4 A bd := by rw [← hAe]; exact aok4_fr hao
  obtain ⟨⟨tt, hZ, hT⟩, hNst⟩ := id htb
  have hS : va_S A s.heap s.heap [] := va_S.rf
  have hl := lv_entry ([.ref (bd 0), .int k, .int v]) (n := 4) (Nat.le_of_ble_eq_true rfl)
  rw [lg_entry_eq]
  generalize (lg_sl ([.ref (bd 0), .int k, .int v]) ++ List.replicate (4 - (lg_sl ([.ref (bd 0), .int k, .int v])).length) Slot.unset).toArray = ls at hl ⊢
  have hl : lv_has ls 4 [(0, .ref (bd 0)), (1, .int k), (2, .int v)] := hl
  have hnp := np_le hN
  have hnp0 : 0 < 2 ^ N := Nat.two_pow_pos N
  refine lv_aload_n hx hb dX2_variable_0 rfl (lv_at hl 0 rfl) ?_
  refine lv_iconst (v := nI 0) hx hb dX2_variable_1 (by decide) ?_
  refine va_put (D := D) (ci := 2) (v := .int (nI 0)) (ty := .int) (C := RX2) (T := TX2) (N := 6) hx hb hts (fun w h => List.mem_cons_of_mem _ (inBX2 w h)) tyX2 tyX2_ok nmX2 hown hK hP (md_D hao) hS 0 rfl rfl 0 (by decide) (hts (.fieldLink RX2 28 "ForkDeskModel" "thrown" "I") (by decide +kernel)) (fun _ h9 => h9) rfl (by decide +kernel) rfl rfl (Nat.le_of_ble_eq_true rfl) dX2_variable_2 (fun H locs hP _ hS => ?_)
  have hP : va_P D vwCl (mdW N bd cZ cI (nI 0) rb mb pt) H := hP
  refine lv_iload_n hx hb dX2_variable_5 rfl (lv_at hl 1 rfl) ?_
  refine va_calli (va_runS (As := [.int k]) (rest := []) ⟨hx, hb, hml, hown, hts⟩ (c_isRow l D _ k) (va_cwS 1 hts (goodIn_mono gX2_isRow) rfl rfl rfl (by decide +kernel) ⟨Nat.le_of_ble_eq_true rfl, Nat.le_of_ble_eq_true rfl⟩) ⟨wp0_blind, fun U hU hW => wp0_of (va_P.sub hP [] rfl) (hK.sub [] rfl) htb hS no_in hU hW⟩ rfl rfl hl.1 rfl (lv_room (Nat.le_of_ble_eq_true rfl)) dX2_variable_6 ⟨Nat.zero_le _, Nat.zero_le _⟩) hS (fun q _ h => h.elim) (fun q h => h.elim) (fun r_6 u_6 t H1 locs ht hvm hw hB hz1 hk1 hS => ?_)
  have hP := xa_same hP hk1
  clear hz1 hk1 hB ht
  generalize H1 = H at hP hS ⊢
  subst hw
  refine xa_if0 (tgt := 20) hx hb dX2_variable_9 (by decide) (fun c_9 => ?_) (fun c_9 => ?_)
  · refine lv_iconst (v := nI 0) hx hb dX2_variable_20 (by decide) ?_
    exact W.zret (v := (nI 0)) hx hb hr (by decide) (fun t ht hW => ⟨⟨(nI 0), (rb, mb, pt), rfl, ⟨by rw [(show spV N g k v = none from if_neg (by simp [c_9]))]; rfl, by rw [(show spV N g k v = none from if_neg (by simp [c_9]))]; exact hg⟩, (by show va_P _ _ _ _; rw [ht]; exact hP)⟩, hS.F ht⟩) hS.2.2 dX2_variable_21
  · refine lv_aload_n hx hb dX2_variable_12 rfl (lv_at hl 0 rfl) ?_
    refine lv_iload_n hx hb dX2_variable_13 rfl (lv_at hl 2 rfl) ?_
    refine va_calli (va_runV (As := [.int v]) (rest := []) ⟨hx, hb, hml, hown, hts⟩ (c_isVariableM l D _ N bd (nI 0) v) (cwV 1 hts (goodIn_mono gX2_isVariable) rfl rfl rfl (by decide +kernel) ⟨Nat.le_of_ble_eq_true rfl, Nat.le_of_ble_eq_true rfl⟩) ⟨wp0_blind, va_recv hK hP (ci := 2) (q0 := 0) rfl rfl, fun U hU hW => wp0_of (va_one hP 0 rfl) (hK.sub [] rfl) htb hS no_in hU hW⟩ rfl rfl hl.1 rfl (lv_room (Nat.le_of_ble_eq_true rfl)) dX2_variable_14 ⟨Nat.zero_le _, Nat.zero_le _⟩) hS (fun q _ h => h.elim) (fun q h => h.elim) (fun r_14 u_14 t H1 locs ht hvm hw hB hz1 hk1 hS => ?_)
    have hP := xa_same hP hk1
    clear hz1 hk1 hB ht
    generalize H1 = H at hP hS ⊢
    subst hw
    refine xa_if1 (tgt := 22) hx hb dX2_variable_17 (by decide) (fun c_17 => ?_) (fun c_17 => ?_)
    · obtain ⟨j, hj, ej⟩ := isR_t c_9
      rw [ej] at hl
      obtain ⟨i, hi1, hi, ei⟩ := isV_t hN c_17
      rw [ei] at hl
      have hsp : spV N g k v = some (va_up g j (fun p => p.testBit (N - i) && decide (p < 2 ^ N))) := by unfold spV; rw [if_pos (by rw [c_9, c_17]; rfl), ej, ei, ix_nI (by omega), ix_nI (by omega)]
      refine lv_iconst (v := nI 0) hx hb dX2_variable_22 (by decide) ?_
      refine lv_istore_n (lv' := [(3, .int (nI 0)), (0, .ref (bd 0)), (1, .int (nI j)), (2, .int (nI i))]) hx hb dX2_variable_23 rfl hl (by decide) rfl (fun ls hl => ?_)
      have lp_24 : ∀ (n9 w : Nat) (m2 : Nat → Bool) (H : Heap) (locs : List Loc) (ls : Array Slot), w ≤ 2 ^ N → 2 ^ N + 1 ≤ w + n9 → (∀ z, z < w → m2 z = z.testBit (N - i)) → va_P D vwCl (mdW N bd cZ cI (nI 0) rb m2 pt) H → va_S A s.heap H locs → lv_has ls 4 [(0, .ref (bd 0)), (1, .int (nI j)), (2, .int (nI i)), (3, .int (nI w))] → W p l e (headSpec wsX2_variable ({ frames := 1, cells := 0, slots := 0, locals := 22 } : Room)).room s m ([.ref (bd 0), .int k, .int v] : List Value).toArray below meth c H locs 0 0 (MQ below (va_Qi (fun (r : Int32) (u : (Nat → Bool) × (Nat → Bool) × (Nat → Int32)) => r = nI (spV N g k v).isSome.toNat ∧ okM N u.1 ((spV N g k v).getD g)) (fun (u : (Nat → Bool) × (Nat → Bool) × (Nat → Int32)) t => va_P D vwCl (mdW N bd cZ cI (nI 0) u.1 u.2.1 u.2.2) t.heap) A) ([.ref (bd 0), .int k, .int v] : List Value).toArray s 0 0 A) (F0 m 24 ls []) := by
        intro n9
        induction n9 with
        | zero => intro w m2 H locs ls h1 h2; exact absurd h2 (by omega)
        | succ n9 ih =>
          intro w m2 H locs ls hle_24 hmm_24 hI hP hS hl
          have ih_24 := @ih
          refine lv_iload_n hx hb dX2_variable_24 rfl (lv_at hl 3 rfl) ?_
          refine lv_aload_n hx hb dX2_variable_25 rfl (lv_at hl 0 rfl) ?_
          refine va_get (D := D) (ci := 2) (C := RX2) (T := TX2) (N := 6) hx hb hts (fun w h => List.mem_cons_of_mem _ (inBX2 w h)) hown hK hP 0 rfl rfl 2 (by decide) (hts (.fieldLink RX2 25 "ForkDeskModel" "points" "I") (by decide +kernel)) (fun _ h9 => h9) rfl dX2_variable_26 ?_
          refine xa_ge (tgt := 59) hx hb (by omega) (by omega) dX2_variable_29 (by decide) (fun c_29 => ?_) (fun c_29 => ?_)
          · refine lv_aload_n hx hb dX2_variable_59 rfl (lv_at hl 0 rfl) ?_
            refine lv_iload_n hx hb dX2_variable_60 rfl (lv_at hl 1 rfl) ?_
            refine va_calli (va_runV (As := [.int (nI j)]) (rest := []) ⟨hx, hb, hml, hown, hts⟩ (c_keep l D _ N hN1 hN bd (aok4_true hao) cZ cI (nI 0) rb m2 pt j (by omega)) (cwV 1 hts (goodIn_mono gX2_keep) rfl rfl rfl (by decide +kernel) ⟨Nat.le_of_ble_eq_true rfl, Nat.le_of_ble_eq_true rfl⟩) ⟨wp0_blind, va_recv hK hP (ci := 2) (q0 := 0) rfl rfl, fun U hU hW => wp0_of hP hK htb hS (fr4_in hao hS hA) hU hW⟩ rfl rfl hl.1 rfl (lv_room (Nat.le_of_ble_eq_true rfl)) dX2_variable_61 ⟨Nat.zero_le _, Nat.zero_le _⟩) hS (fun q _ h => (fr4_in hao hS hA) q h) ((fr4_in hao hS hA)) (fun r_61 u_61 t H1 locs ht hvm hw hB hz1 hk1 hS => ?_)
            rw [ht] at hB
            obtain ⟨hw1, hw2⟩ := hw
            subst hw1
            subst hw2
            have hP := hB
            clear hz1 hk1 hB ht
            generalize H1 = H at hP hS ⊢
            exact W.zret (v := (nI 1)) hx hb hr (by decide) (fun t ht hW => ⟨⟨(nI 1), (kpt rb m2 j (2 ^ N), m2, pt), rfl, ⟨by rw [hsp]; rfl, by rw [hsp]; exact (okM_up hN hg hj (fun z hz => by rw [hI z (by omega), decide_eq_true hz, Bool.and_true]))⟩, (by show va_P _ _ _ _; rw [ht]; exact hP)⟩, hS.F ht⟩) hS.2.2 dX2_variable_64
          · refine lv_aload_n hx hb dX2_variable_32 rfl (lv_at hl 0 rfl) ?_
            refine va_get (D := D) (ci := 2) (C := RX2) (T := TX2) (N := 6) hx hb hts (fun w h => List.mem_cons_of_mem _ (inBX2 w h)) hown hK hP 0 rfl rfl 4 (by decide) (hts (.fieldLink RX2 14 "ForkDeskModel" "made" "[Z") (by decide +kernel)) (fun _ h9 => h9) rfl dX2_variable_33 ?_
            refine lv_iload_n hx hb dX2_variable_36 rfl (lv_at hl 3 rfl) ?_
            refine lv_aload_n hx hb dX2_variable_37 rfl (lv_at hl 0 rfl) ?_
            refine lv_iload_n hx hb dX2_variable_38 rfl (lv_at hl 2 rfl) ?_
            refine lv_iload_n hx hb dX2_variable_39 rfl (lv_at hl 3 rfl) ?_
            refine va_calli (va_runV (As := [.int (nI i), .int (nI w)]) (rest := [.int (nI w), .ref (bd 2)]) ⟨hx, hb, hml, hown, hts⟩ (c_value l D _ N hN bd (nI 0) i w (by omega) (by omega)) (cwV 2 hts (goodIn_mono gX2_value) rfl rfl rfl (by decide +kernel) ⟨Nat.le_of_ble_eq_true rfl, Nat.le_of_ble_eq_true rfl⟩) ⟨wp0_blind, va_recv hK hP (ci := 2) (q0 := 0) rfl rfl, fun U hU hW => wp0_of (va_one hP 0 rfl) (hK.sub [] rfl) htb hS no_in hU hW⟩ rfl rfl hl.1 rfl (lv_room (Nat.le_of_ble_eq_true rfl)) dX2_variable_40 ⟨Nat.zero_le _, Nat.zero_le _⟩) hS (fun q _ h => h.elim) (fun q h => h.elim) (fun r_40 u_40 t H1 locs ht hvm hw hB hz1 hk1 hS => ?_)
            have hP := xa_same hP hk1
            clear hz1 hk1 hB ht
            generalize H1 = H at hP hS ⊢
            subst hw
            refine lv_iconst (v := nI 1) hx hb dX2_variable_43 (by decide) ?_
            refine xa_ne (tgt := 51) hx hb (by omega) (by omega) dX2_variable_44 (by decide) (fun c_44 => ?_) (fun c_44 => ?_)
            · refine lv_iconst (v := nI 0) hx hb dX2_variable_51 (by decide) ?_
              refine xa_zast hx hb hK hP (md_D hao) hS 2 0 rfl rfl (w := w) (b := false) (by omega) (by omega) dX2_variable_52 (fun H locs hP _ hS => ?_)
              have hP : va_P D vwCl (mdW N bd cZ cI (nI 0) rb (va_up m2 w false) pt) H := hP
              refine xa_inc (k := 3) (lv' := [(3, .int (nI (w + 1))), (0, .ref (bd 0)), (1, .int (nI j)), (2, .int (nI i))]) hx hb dX2_variable_53 hl rfl (by decide) rfl (fun ls hl => ?_)
              refine lv_goto (tgt := 24) hx hb dX2_variable_56 (by decide) ?_
              exact ih_24 (w + 1) (va_up m2 w false) _ _ _ (by omega) (by omega) (fun z hz => by by_cases hzw : z = w; (subst hzw; rw [va_up_self]; rw [Nat.testBit_eq_decide_div_mod_eq]; first | exact (decide_eq_true c_44).symm | exact (decide_eq_false c_44).symm); (rw [va_up_ne _ _ hzw]; exact hI z (by omega))) hP hS (lv_sub hl [1, 2, 3, 0] rfl)
            · refine lv_iconst (v := nI 1) hx hb dX2_variable_47 (by decide) ?_
              refine lv_goto (tgt := 52) hx hb dX2_variable_48 (by decide) ?_
              refine xa_zast hx hb hK hP (md_D hao) hS 2 0 rfl rfl (w := w) (b := true) (by omega) (by omega) dX2_variable_52 (fun H locs hP _ hS => ?_)
              have hP : va_P D vwCl (mdW N bd cZ cI (nI 0) rb (va_up m2 w true) pt) H := hP
              refine xa_inc (k := 3) (lv' := [(3, .int (nI (w + 1))), (0, .ref (bd 0)), (1, .int (nI j)), (2, .int (nI i))]) hx hb dX2_variable_53 hl rfl (by decide) rfl (fun ls hl => ?_)
              refine lv_goto (tgt := 24) hx hb dX2_variable_56 (by decide) ?_
              exact ih_24 (w + 1) (va_up m2 w true) _ _ _ (by omega) (by omega) (fun z hz => by by_cases hzw : z = w; (subst hzw; rw [va_up_self]; rw [Nat.testBit_eq_decide_div_mod_eq]; first | exact (decide_eq_true c_44).symm | exact (decide_eq_false c_44).symm); (rw [va_up_ne _ _ hzw]; exact hI z (by omega))) hP hS (lv_sub hl [1, 2, 3, 0] rfl)
      exact lp_24 (2 ^ N + 1 - 0) 0 mb _ _ _ (by omega) (by omega) (fun z hz => absurd hz (by omega)) hP hS (lv_sub hl [1, 2, 3, 0] rfl)
    · refine lv_iconst (v := nI 0) hx hb dX2_variable_20 (by decide) ?_
      exact W.zret (v := (nI 0)) hx hb hr (by decide) (fun t ht hW => ⟨⟨(nI 0), (rb, mb, pt), rfl, ⟨by rw [(show spV N g k v = none from if_neg (by simp [c_9, c_17]))]; rfl, by rw [(show spV N g k v = none from if_neg (by simp [c_9, c_17]))]; exact hg⟩, (by show va_P _ _ _ _; rw [ht]; exact hP)⟩, hS.F ht⟩) hS.2.2 dX2_variable_21
