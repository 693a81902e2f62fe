set_option maxHeartbeats 4000000 in
set_option maxRecDepth 100000 in
/-- constant -/
theorem c_constant (l : Launch) (D : va_G) (sz : Nat) (N : Nat) (hN1 : 1 ≤ N) (hN : N ≤ 12) (ad : Nat → Nat) (hao : aok (fun _ => True) ad) (cJJ cJ cI : ClassId) (dr re : Nat → Int64) (tu kd uh bf la : Nat → Int32) (G : Nat → Nat → Int64) (g : Nat → Nat → Bool) (hg : okG N G g) (k v : Int32) : Met l yX1_constant wsX1_constant ({ frames := 1, cells := 0, slots := 0, locals := 24 } : Room) (va_Pc [.ref (ad 0), .int k, .int v] (wp0 D (dkW N ad cJJ cJ cI dr re tu kd uh bf la G) (dkT cJJ cJ cI) (fr ad sz) sz)) (va_Qi (fun (r : Int32) (u : dkS) => r = nI (spC N g k v).isSome.toNat ∧ okG N (dkR u) ((spC N g k v).getD g)) (fun (u : dkS) t => va_P D vwCl (dkU N ad cJJ cJ cI u) t.heap) (fr ad sz)) 0 0 (fr ad sz) := by
  refine Met.ofW (cc := cX1_constant) (maxL := 3) (ret := (some .boolean)) (by decide) rfl ?_
  intro p e s m args below meth c s₁ B hml hv
  obtain ⟨rfl, hsz, hP, hK, htb⟩ := hv
  have hx := B.exec
  have hb := B.bytes
  have hr := B.returns
  have hts := atoms_spec (ws := wsX1_constant) B.pre
  have hown : s.vm.findClass RX1 = some m.cls := findClass_of_methodNamed B.named
  have hlocks := B.notSynchronized
  subst hsz
  generalize hAe : fr ad s.heap.size = A at htb ⊢
  have hA : ∀ q : Nat, s.heap.size ≤ q → A q := fun q h => by rw [← hAe]; exact fr_new q h
  have hao : aok A ad := by rw [← hAe]; exact aok_fr hao
  obtain ⟨⟨tt, hZ, hT⟩, hNst⟩ := id htb
  have hS : va_S A s.heap s.heap [] := va_S.rf
  have hl := lv_entry ([.ref (ad 0), .int k, .int v]) (n := 3) (Nat.le_of_ble_eq_true rfl)
  rw [lg_entry_eq]
  generalize (lg_sl ([.ref (ad 0), .int k, .int v]) ++ List.replicate (3 - (lg_sl ([.ref (ad 0), .int k, .int v])).length) Slot.unset).toArray = ls at hl ⊢
  have hl : lv_has ls 3 [(0, .ref (ad 0)), (1, .int k), (2, .int v)] := hl
  have hnw := nw_le hN
  have hnwp := nw_pos N
  have hpw := pw_le N
  have hpwp := pw_pos N
  have hnp := np_le hN
  refine lv_iload_n hx hb dX1_constant_0 rfl (lv_at hl 1 rfl) ?_
  refine va_calli (va_runS (As := [.int k]) (rest := []) ⟨hx, hb, hml, hown, hts⟩ (c_isRegister l D _ k) (va_cwS 1 hts gX1_constant_X1_isRegister rfl rfl rfl (by decide +kernel) ⟨Nat.le_of_ble_eq_true rfl, Nat.le_of_ble_eq_true rfl⟩) ⟨wp0_blind, fun U hU hW => wp0_of (va_P.sub hP [] rfl) (hK.sub [] rfl) htb hS no_in hU hW⟩ rfl rfl hl.1 rfl (lv_room (Nat.le_of_ble_eq_true rfl)) dX1_constant_1 ⟨Nat.zero_le _, Nat.zero_le _⟩) hS (fun q _ h => h.elim) (fun q h => h.elim) (fun r_1 u_1 t H1 locs ht hvm hw hB hz1 hk1 hS => ?_)
  have hP := xa_same hP hk1
  clear hz1 hk1 hB ht
  generalize H1 = H at hP hS ⊢
  subst hw
  refine xa_if0 (tgt := 14) hx hb dX1_constant_4 (by decide) (fun c_4 => ?_) (fun c_4 => ?_)
  · refine lv_iconst (v := nI 0) hx hb dX1_constant_14 (by decide) ?_
    exact W.zret (v := (nI 0)) hx hb hr (by decide) (fun t ht hW => ⟨⟨(nI 0), (dr, re, tu, kd, uh, bf, la, G), rfl, ⟨by rw [(show spC N g k v = none from if_neg (by simp [c_4]))]; rfl, by rw [(show spC N g k v = none from if_neg (by simp [c_4]))]; exact hg⟩, (by show va_P _ _ _ _; rw [ht]; exact hP)⟩, hS.F ht⟩) hS.2.2 dX1_constant_15
  · refine lv_iload_n hx hb dX1_constant_7 rfl (lv_at hl 2 rfl) ?_
    refine va_calli (va_runS (As := [.int v]) (rest := []) ⟨hx, hb, hml, hown, hts⟩ (c_isValue l D _ v) (va_cwS 1 hts gX1_constant_X1_isValue rfl rfl rfl (by decide +kernel) ⟨Nat.le_of_ble_eq_true rfl, Nat.le_of_ble_eq_true rfl⟩) ⟨wp0_blind, fun U hU hW => wp0_of (va_P.sub hP [] rfl) (hK.sub [] rfl) htb hS no_in hU hW⟩ rfl rfl hl.1 rfl (lv_room (Nat.le_of_ble_eq_true rfl)) dX1_constant_8 ⟨Nat.zero_le _, Nat.zero_le _⟩) hS (fun q _ h => h.elim) (fun q h => h.elim) (fun r_8 u_8 t H1 locs ht hvm hw hB hz1 hk1 hS => ?_)
    have hP := xa_same hP hk1
    clear hz1 hk1 hB ht
    generalize H1 = H at hP hS ⊢
    subst hw
    refine xa_if1 (tgt := 16) hx hb dX1_constant_11 (by decide) (fun c_11 => ?_) (fun c_11 => ?_)
    · obtain ⟨j, hj, ej⟩ := isR_t c_4
      rw [ej] at hl
      obtain ⟨bv, ebv⟩ := isB_t c_11
      rw [ebv] at hl
      have hbv := tn_le bv
      have hsp : spC N g k v = some (va_up g j (fun p => bv && decide (p < 2 ^ N))) := by unfold spC; rw [if_pos (by rw [c_4, c_11]; rfl), ej, ebv, ix_nI (by omega), tn_d]
      refine lv_aload_n hx hb dX1_constant_16 rfl (lv_at hl 0 rfl) ?_
      refine va_get (D := D) (ci := 1) (C := RX1) (T := TX1) (N := 10) hx hb hts (by decide +kernel) hown hK hP 0 rfl rfl 5 (by decide) (hts (.fieldLink RX1 39 "ForkDesk" "registers" "[[J") (by decide +kernel)) (fun _ h9 => h9) rfl dX1_constant_17 ?_
      refine lv_iload_n hx hb dX1_constant_20 rfl (lv_at hl 1 rfl) ?_
      refine xa_aald hx hb hK hP 1 0 rfl rfl (w := j) (y := ad (10 + j)) (by omega) (by decide) rfl dX1_constant_21 ?_
      refine lv_iload_n hx hb dX1_constant_22 rfl (lv_at hl 2 rfl) ?_
      refine lv_iconst (v := nI 1) hx hb dX1_constant_23 (by decide) ?_
      refine xa_ne (tgt := 34) hx hb (by omega) (by omega) dX1_constant_24 (by decide) (fun c_24 => ?_) (fun c_24 => ?_)
      · refine lv_lconst (v := 0) hx hb dX1_constant_34 (by decide) ?_
        refine va_callv (va_runS (As := [.ref (ad (10 + j)), .long (0 : Int64)]) (rest := []) ⟨hx, hb, hml, hown, hts⟩ (c_fillL l D _ (ad (10 + j)) cJ (nw N) (G j) (0 : Int64) (by omega)) (va_cwS 2 hts gX1_constant_J7_fill_d0a16 rfl rfl rfl (by decide +kernel) ⟨Nat.le_of_ble_eq_true rfl, Nat.le_of_ble_eq_true rfl⟩) ⟨wp0_blind, fun U hU hW => wp0_of (va_one hP (10 + j) (dk_row (by omega))) (hK.sub [1] rfl) htb hS (one_in (hao.2 (10 + j) (by omega))) hU hW⟩ rfl rfl hl.1 rfl (lv_room (Nat.le_of_ble_eq_true rfl)) dX1_constant_35 ⟨Nat.zero_le _, Nat.zero_le _⟩) hS (fun q _ h => (one_in (hao.2 (10 + j) (by omega))) q h) ((one_in (hao.2 (10 + j) (by omega)))) (fun u_35 t H1 locs ht hvm hw hB hz1 hk1 hS => ?_)
        rw [ht] at hB
        have hP := va_put1 hP (dk_D hao) (10 + j) (dk_row (by omega)) hk1 hB
        rw [dk_set _ (by omega)] at hP
        clear hz1 hk1 hB ht
        generalize H1 = H at hP hS ⊢
        refine lv_iconst (v := nI 1) hx hb dX1_constant_38 (by decide) ?_
        exact W.zret (v := (nI 1)) hx hb hr (by decide) (fun t ht hW => ⟨⟨(nI 1), (dr, re, tu, kd, uh, bf, la, va_up G j u_35), rfl, ⟨by rw [hsp]; rfl, by rw [hsp]; exact (okG_up hg (rp_const (b := bv) (fun z hz => by rw [hw z hz]; first | rw [if_pos (tn_1 c_24)] | rw [if_neg (tn_0 c_24)])) (dm_lt N (fun _ => bv)))⟩, (by show va_P _ _ _ _; rw [ht]; exact hP)⟩, hS.F ht⟩) hS.2.2 dX1_constant_39
      · refine lv_aload_n hx hb dX1_constant_27 rfl (lv_at hl 0 rfl) ?_
        refine va_get (D := D) (ci := 1) (C := RX1) (T := TX1) (N := 10) hx hb hts (by decide +kernel) hown hK hP 0 rfl rfl 4 (by decide) (hts (.fieldLink RX1 33 "ForkDesk" "allOnes" "J") (by decide +kernel)) (fun _ h9 => h9) rfl dX1_constant_28 ?_
        refine lv_goto (tgt := 35) hx hb dX1_constant_31 (by decide) ?_
        refine va_callv (va_runS (As := [.ref (ad (10 + j)), .long (ao N)]) (rest := []) ⟨hx, hb, hml, hown, hts⟩ (c_fillL l D _ (ad (10 + j)) cJ (nw N) (G j) (ao N) (by omega)) (va_cwS 2 hts gX1_constant_J7_fill_d0a16 rfl rfl rfl (by decide +kernel) ⟨Nat.le_of_ble_eq_true rfl, Nat.le_of_ble_eq_true rfl⟩) ⟨wp0_blind, fun U hU hW => wp0_of (va_one hP (10 + j) (dk_row (by omega))) (hK.sub [1] rfl) htb hS (one_in (hao.2 (10 + j) (by omega))) hU hW⟩ rfl rfl hl.1 rfl (lv_room (Nat.le_of_ble_eq_true rfl)) dX1_constant_35 ⟨Nat.zero_le _, Nat.zero_le _⟩) hS (fun q _ h => (one_in (hao.2 (10 + j) (by omega))) q h) ((one_in (hao.2 (10 + j) (by omega)))) (fun u_35 t H1 locs ht hvm hw hB hz1 hk1 hS => ?_)
        rw [ht] at hB
        have hP := va_put1 hP (dk_D hao) (10 + j) (dk_row (by omega)) hk1 hB
        rw [dk_set _ (by omega)] at hP
        clear hz1 hk1 hB ht
        generalize H1 = H at hP hS ⊢
        refine lv_iconst (v := nI 1) hx hb dX1_constant_38 (by decide) ?_
        exact W.zret (v := (nI 1)) hx hb hr (by decide) (fun t ht hW => ⟨⟨(nI 1), (dr, re, tu, kd, uh, bf, la, va_up G j u_35), rfl, ⟨by rw [hsp]; rfl, by rw [hsp]; exact (okG_up hg (rp_const (b := bv) (fun z hz => by rw [hw z hz]; first | rw [if_pos (tn_1 c_24)] | rw [if_neg (tn_0 c_24)])) (dm_lt N (fun _ => bv)))⟩, (by show va_P _ _ _ _; rw [ht]; exact hP)⟩, hS.F ht⟩) hS.2.2 dX1_constant_39
    · refine lv_iconst (v := nI 0) hx hb dX1_constant_14 (by decide) ?_
      exact W.zret (v := (nI 0)) hx hb hr (by decide) (fun t ht hW => ⟨⟨(nI 0), (dr, re, tu, kd, uh, bf, la, G), rfl, ⟨by rw [(show spC N g k v = none from if_neg (by simp [c_4, c_11]))]; rfl, by rw [(show spC N g k v = none from if_neg (by simp [c_4, c_11]))]; exact hg⟩, (by show va_P _ _ _ _; rw [ht]; exact hP)⟩, hS.F ht⟩) hS.2.2 dX1_constant_15
