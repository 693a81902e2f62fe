set_option maxHeartbeats 4000000 in
set_option maxRecDepth 100000 in
/-- variable -/
theorem c_variable (l : Launch) (D : va_G) (sz : Nat) (N : Nat) (hN1 : 1 ≤ N) (hN : N ≤ 12) (ad : Nat → Nat) (hao : aok (fun _ => True) ad) (cJJ cJ cI : ClassId) (dr re : Nat → Int64) (tu kd uh bf la : Nat → Int32) (G : Nat → Nat → Int64) (g : Nat → Nat → Bool) (hg : okG N G g) (k v : Int32) : Met l yX1_variable wsX1_variable ({ frames := 1, cells := 0, slots := 0, locals := 22 } : Room) (va_Pc [.ref (ad 0), .int k, .int v] (wp0 D (dkW N ad cJJ cJ cI dr re tu kd uh bf la G) (dkT cJJ cJ cI) (fr ad sz) sz)) (va_Qi (fun (r : Int32) (u : dkS) => r = nI (spV N g k v).isSome.toNat ∧ okG N (dkR u) ((spV N g k v).getD g)) (fun (u : dkS) t => va_P D vwCl (dkU N ad cJJ cJ cI u) t.heap) (fr ad sz)) 0 0 (fr ad sz) := by
  refine Met.ofW (cc := cX1_variable) (maxL := 5) (ret := (some .boolean)) (by decide) rfl ?_
  intro p e s m args below meth c s₁ B hml hv
  obtain ⟨rfl, hsz, hP, hK, htb⟩ := hv
  have hx := B.exec
  have hb := B.bytes
  have hr := B.returns
  have hts := atoms_spec (ws := wsX1_variable) B.pre
  have hown : s.vm.findClass RX1 = some m.cls := findClass_of_methodNamed B.named
  have hlocks := B.notSynchronized
  subst hsz
  generalize hAe : fr ad s.heap.size = A at htb ⊢
  have hA : ∀ q : Nat, s.heap.size ≤ q → A q := fun q h => by rw [← hAe]; exact fr_new q h
  have hao : aok A ad := by rw [← hAe]; exact aok_fr hao
  obtain ⟨⟨tt, hZ, hT⟩, hNst⟩ := id htb
  have hS : va_S A s.heap s.heap [] := va_S.rf
  have hl := lv_entry ([.ref (ad 0), .int k, .int v]) (n := 5) (Nat.le_of_ble_eq_true rfl)
  rw [lg_entry_eq]
  generalize (lg_sl ([.ref (ad 0), .int k, .int v]) ++ List.replicate (5 - (lg_sl ([.ref (ad 0), .int k, .int v])).length) Slot.unset).toArray = ls at hl ⊢
  have hl : lv_has ls 5 [(0, .ref (ad 0)), (1, .int k), (2, .int v)] := hl
  have hnw := nw_le hN
  have hnwp := nw_pos N
  have hpw := pw_le N
  have hpwp := pw_pos N
  have hnp := np_le hN
  refine lv_iload_n hx hb dX1_variable_0 rfl (lv_at hl 1 rfl) ?_
  refine va_calli (va_runS (As := [.int k]) (rest := []) ⟨hx, hb, hml, hown, hts⟩ (c_isRegister l D _ k) (va_cwS 1 hts gX1_variable_X1_isRegister rfl rfl rfl (by decide +kernel) ⟨Nat.le_of_ble_eq_true rfl, Nat.le_of_ble_eq_true rfl⟩) ⟨wp0_blind, fun U hU hW => wp0_of (va_P.sub hP [] rfl) (hK.sub [] rfl) htb hS no_in hU hW⟩ rfl rfl hl.1 rfl (lv_room (Nat.le_of_ble_eq_true rfl)) dX1_variable_1 ⟨Nat.zero_le _, Nat.zero_le _⟩) hS (fun q _ h => h.elim) (fun q h => h.elim) (fun r_1 u_1 t H1 locs ht hvm hw hB hz1 hk1 hS => ?_)
  have hP := xa_same hP hk1
  clear hz1 hk1 hB ht
  generalize H1 = H at hP hS ⊢
  subst hw
  refine xa_if0 (tgt := 15) hx hb dX1_variable_4 (by decide) (fun c_4 => ?_) (fun c_4 => ?_)
  · refine lv_iconst (v := nI 0) hx hb dX1_variable_15 (by decide) ?_
    exact W.zret (v := (nI 0)) hx hb hr (by decide) (fun t ht hW => ⟨⟨(nI 0), (dr, re, tu, kd, uh, bf, la, G), rfl, ⟨by rw [(show spV N g k v = none from if_neg (by simp [c_4]))]; rfl, by rw [(show spV N g k v = none from if_neg (by simp [c_4]))]; exact hg⟩, (by show va_P _ _ _ _; rw [ht]; exact hP)⟩, hS.F ht⟩) hS.2.2 dX1_variable_16
  · refine lv_aload_n hx hb dX1_variable_7 rfl (lv_at hl 0 rfl) ?_
    refine lv_iload_n hx hb dX1_variable_8 rfl (lv_at hl 2 rfl) ?_
    refine va_calli (va_runV (As := [.int v]) (rest := []) ⟨hx, hb, hml, hown, hts⟩ (c_isVariable l D _ N ad v) (cwV 1 hts gX1_variable_X1_isVariable rfl rfl rfl (by decide +kernel) ⟨Nat.le_of_ble_eq_true rfl, Nat.le_of_ble_eq_true rfl⟩) ⟨wp0_blind, va_recv hK hP (ci := 1) (q0 := 0) rfl rfl, fun U hU hW => wp0_of (va_one hP 0 rfl) (hK.sub [] rfl) htb hS no_in hU hW⟩ rfl rfl hl.1 rfl (lv_room (Nat.le_of_ble_eq_true rfl)) dX1_variable_9 ⟨Nat.zero_le _, Nat.zero_le _⟩) hS (fun q _ h => h.elim) (fun q h => h.elim) (fun r_9 u_9 t H1 locs ht hvm hw hB hz1 hk1 hS => ?_)
    have hP := xa_same hP hk1
    clear hz1 hk1 hB ht
    generalize H1 = H at hP hS ⊢
    subst hw
    refine xa_if1 (tgt := 17) hx hb dX1_variable_12 (by decide) (fun c_12 => ?_) (fun c_12 => ?_)
    · obtain ⟨j, hj, ej⟩ := isR_t c_4
      rw [ej] at hl
      obtain ⟨i, hi1, hi, ei⟩ := isV_t hN c_12
      rw [ei] at hl
      have hsp : spV N g k v = some (va_up g j (fun p => p.testBit (N - i) && decide (p < 2 ^ N))) := by unfold spV; rw [if_pos (by rw [c_4, c_12]; rfl), ej, ei, ix_nI (by omega), ix_nI (by omega)]
      refine lv_aload_n hx hb dX1_variable_17 rfl (lv_at hl 0 rfl) ?_
      refine lv_iload_n hx hb dX1_variable_18 rfl (lv_at hl 2 rfl) ?_
      refine va_calli (va_runV (As := [.int (nI i)]) (rest := []) ⟨hx, hb, hml, hown, hts⟩ (c_bitOf l D _ N ad i (by omega)) (cwV 1 hts gX1_variable_X1_bitOf rfl rfl rfl (by decide +kernel) ⟨Nat.le_of_ble_eq_true rfl, Nat.le_of_ble_eq_true rfl⟩) ⟨wp0_blind, va_recv hK hP (ci := 1) (q0 := 0) rfl rfl, fun U hU hW => wp0_of (va_one hP 0 rfl) (hK.sub [] rfl) htb hS no_in hU hW⟩ rfl rfl hl.1 rfl (lv_room (Nat.le_of_ble_eq_true rfl)) dX1_variable_19 ⟨Nat.zero_le _, Nat.zero_le _⟩) hS (fun q _ h => h.elim) (fun q h => h.elim) (fun r_19 u_19 t H1 locs ht hvm hw hB hz1 hk1 hS => ?_)
      have hP := xa_same hP hk1
      clear hz1 hk1 hB ht
      generalize H1 = H at hP hS ⊢
      subst hw
      refine lv_istore_n (lv' := [(3, .int (nI (N - i))), (0, .ref (ad 0)), (1, .int (nI j)), (2, .int (nI i))]) hx hb dX1_variable_22 rfl hl (by decide) rfl (fun ls hl => ?_)
      refine lv_iconst (v := nI 0) hx hb dX1_variable_23 (by decide) ?_
      refine lv_istore (lv' := [(4, .int (nI 0)), (3, .int (nI (N - i))), (0, .ref (ad 0)), (1, .int (nI j)), (2, .int (nI i))]) hx hb dX1_variable_24 hl (by decide) rfl (fun ls hl => ?_)
      have lp_26 : ∀ (n9 w : Nat) (G2 : Nat → Nat → Int64) (H : Heap) (locs : List Loc) (ls : Array Slot), w ≤ nw N → nw N + 1 ≤ w + n9 → (∃ r, G2 = va_up G j r ∧ ∀ x, x < w → r x = pwN N x (N - i)) → va_P D vwCl (dkW N ad cJJ cJ cI dr re tu kd uh bf la G2) H → va_S A s.heap H locs → lv_has ls 5 [(0, .ref (ad 0)), (1, .int (nI j)), (2, .int (nI i)), (3, .int (nI (N - i))), (4, .int (nI w))] → W p l e (headSpec wsX1_variable ({ frames := 1, cells := 0, slots := 0, locals := 22 } : Room)).room s m ([.ref (ad 0), .int k, .int v] : List Value).toArray below meth c H locs 0 0 (MQ below (va_Qi (fun (r : Int32) (u : dkS) => r = nI (spV N g k v).isSome.toNat ∧ okG N (dkR u) ((spV N g k v).getD g)) (fun (u : dkS) t => va_P D vwCl (dkU N ad cJJ cJ cI u) t.heap) A) ([.ref (ad 0), .int k, .int v] : List Value).toArray s 0 0 A) (F0 m 26 ls []) := by
        intro n9
        induction n9 with
        | zero => intro w G2 H locs ls h1 h2; exact absurd h2 (by omega)
        | succ n9 ih =>
          intro w G2 H locs ls hle_26 hmm_26 hI hP hS hl
          have ih_26 := @ih
          refine lv_iload hx hb dX1_variable_26 (lv_at hl 4 rfl) ?_
          refine lv_aload_n hx hb dX1_variable_28 rfl (lv_at hl 0 rfl) ?_
          refine va_get (D := D) (ci := 1) (C := RX1) (T := TX1) (N := 10) hx hb hts (by decide +kernel) hown hK hP 0 rfl rfl 2 (by decide) (hts (.fieldLink RX1 25 "ForkDesk" "words" "I") (by decide +kernel)) (fun _ h9 => h9) rfl dX1_variable_29 ?_
          refine xa_ge (tgt := 57) hx hb (by omega) (by omega) dX1_variable_32 (by decide) (fun c_32 => ?_) (fun c_32 => ?_)
          · refine lv_iconst (v := nI 1) hx hb dX1_variable_57 (by decide) ?_
            exact W.zret (v := (nI 1)) hx hb hr (by decide) (fun t ht hW => ⟨⟨(nI 1), (dr, re, tu, kd, uh, bf, la, G2), rfl, ⟨by rw [hsp]; rfl, by rw [hsp]; exact (by obtain ⟨r, h1, h2⟩ := hI; subst h1; exact okG_up hg (rp_var (fun x hx => h2 x (by omega))) (dm_lt N _))⟩, (by show va_P _ _ _ _; rw [ht]; exact hP)⟩, hS.F ht⟩) hS.2.2 dX1_variable_58
          · refine lv_aload_n hx hb dX1_variable_35 rfl (lv_at hl 0 rfl) ?_
            refine va_get (D := D) (ci := 1) (C := RX1) (T := TX1) (N := 10) hx hb hts (by decide +kernel) hown hK hP 0 rfl rfl 5 (by decide) (hts (.fieldLink RX1 39 "ForkDesk" "registers" "[[J") (by decide +kernel)) (fun _ h9 => h9) rfl dX1_variable_36 ?_
            refine lv_iload_n hx hb dX1_variable_39 rfl (lv_at hl 1 rfl) ?_
            refine xa_aald hx hb hK hP 1 0 rfl rfl (w := j) (y := ad (10 + j)) (by omega) (by decide) rfl dX1_variable_40 ?_
            refine lv_iload hx hb dX1_variable_41 (lv_at hl 4 rfl) ?_
            refine lv_aload_n hx hb dX1_variable_43 rfl (lv_at hl 0 rfl) ?_
            refine lv_iload hx hb dX1_variable_44 (lv_at hl 4 rfl) ?_
            refine lv_iload_n hx hb dX1_variable_46 rfl (lv_at hl 3 rfl) ?_
            refine va_calll (va_runV (As := [.int (nI w), .int (nI (N - i))]) (rest := [.int (nI w), .ref (ad (10 + j))]) ⟨hx, hb, hml, hown, hts⟩ (c_pointsWithBit l D _ N ad w (N - i) (by omega) (by omega)) (cwV 2 hts gX1_variable_X1_pointsWithBit rfl rfl rfl (by decide +kernel) ⟨Nat.le_of_ble_eq_true rfl, Nat.le_of_ble_eq_true rfl⟩) ⟨wp0_blind, va_recv hK hP (ci := 1) (q0 := 0) rfl rfl, fun U hU hW => wp0_of (va_one hP 0 rfl) (hK.sub [] rfl) htb hS no_in hU hW⟩ rfl rfl hl.1 rfl (lv_room (Nat.le_of_ble_eq_true rfl)) dX1_variable_47 ⟨Nat.zero_le _, Nat.zero_le _⟩) hS (fun q _ h => h.elim) (fun q h => h.elim) (fun r_47 u_47 t H1 locs ht hvm hw hB hz1 hk1 hS => ?_)
            have hP := xa_same hP hk1
            clear hz1 hk1 hB ht
            generalize H1 = H at hP hS ⊢
            subst hw
            refine xa_last hx hb hK hP (dk_D hao) hS (10 + j) 1 (dk_row (by omega)) rfl (w := w) (by omega) (by omega) dX1_variable_50 (fun H locs hP _ hS => ?_)
            rw [dk_set _ (by omega)] at hP
            refine xa_inc (k := 4) (lv' := [(4, .int (nI (w + 1))), (0, .ref (ad 0)), (1, .int (nI j)), (2, .int (nI i)), (3, .int (nI (N - i)))]) hx hb dX1_variable_51 hl rfl (by decide) rfl (fun ls hl => ?_)
            refine lv_goto (tgt := 26) hx hb dX1_variable_54 (by decide) ?_
            exact ih_26 (w + 1) (va_up G2 j (vp_updL (G2 j) w (pwN N w (N - i)))) _ _ _ (by omega) (by omega) (by obtain ⟨r, h1, h2⟩ := hI; subst h1; exact ⟨_, va_upup _ _ _ _, fun x hx => by rw [va_up_self]; by_cases hxw : x = w; (subst hxw; rw [pk_uLs]); (rw [pk_uLn hxw]; exact h2 x (by omega))⟩) hP hS (lv_sub hl [1, 2, 3, 4, 0] rfl)
      exact lp_26 (nw N + 1 - 0) 0 G _ _ _ (by omega) (by omega) ⟨G j, (va_same G j).symm, fun x hx => absurd hx (by omega)⟩ hP hS (lv_sub hl [2, 3, 4, 1, 0] rfl)
    · refine lv_iconst (v := nI 0) hx hb dX1_variable_15 (by decide) ?_
      exact W.zret (v := (nI 0)) hx hb hr (by decide) (fun t ht hW => ⟨⟨(nI 0), (dr, re, tu, kd, uh, bf, la, G), rfl, ⟨by rw [(show spV N g k v = none from if_neg (by simp [c_4, c_12]))]; rfl, by rw [(show spV N g k v = none from if_neg (by simp [c_4, c_12]))]; exact hg⟩, (by show va_P _ _ _ _; rw [ht]; exact hP)⟩, hS.F ht⟩) hS.2.2 dX1_variable_16
