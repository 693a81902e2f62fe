set_option maxHeartbeats 4000000 in
set_option maxRecDepth 100000 in
/-- count -/
theorem c_count (l : Launch) (D : va_G) (sz : Nat) (N : Nat) (hN1 : 1 ≤ N) (hN : N ≤ 12) (ad : Nat → Nat) (hao : aok (fun _ => True) ad) (cJJ cJ cI : ClassId) (dr re : Nat → Int64) (tu kd uh bf la : Nat → Int32) (G : Nat → Nat → Int64) (j : Nat) (hj : j < 32) (gj : Nat → Bool) (hgj : rp (nw N) (G j) gj) : Met l yX0_count wsX0_count ({ frames := 2, cells := 0, slots := 0, locals := 51 } : Room) (va_Pc [.ref (ad 5), .ref (ad (10 + j))] (wp0 D (dkW N ad cJJ cJ cI dr re tu kd uh bf la G) (dkT cJJ cJ cI) (fr ad sz) sz)) (va_Qi (fun (r : Int32) (u : (Nat → Int32) × (Nat → Int32) × (Nat → Int32) × (Nat → Int32)) => r = nI (fc gj N N)) (fun (u : (Nat → Int32) × (Nat → Int32) × (Nat → Int32) × (Nat → Int32)) t => va_P D vwCl (dkW N ad cJJ cJ cI dr re tu u.1 u.2.1 u.2.2.1 u.2.2.2 G) t.heap) (fr ad sz)) 0 0 (fr ad sz) := by
  refine Met.ofW (cc := cX0_count) (maxL := 4) (ret := (some .int)) (by decide) rfl ?_
  intro p e s m args below meth c s₁ B hml hv
  obtain ⟨rfl, hsz, hP, hK, htb⟩ := hv
  have hx := B.exec
  have hb := B.bytes
  have hr := B.returns
  have hts := atoms_spec (ws := wsX0_count) B.pre
  have hown : s.vm.findClass RX0 = some m.cls := findClass_of_methodNamed B.named
  have hlocks := B.notSynchronized
  subst hsz
  generalize hAe : fr ad s.heap.size = A at htb ⊢
  have hA : ∀ q : Nat, s.heap.size ≤ q → A q := fun q h => by rw [← hAe]; exact fr_new q h
  have hao : aok A ad := by rw [← hAe]; exact aok_fr hao
  obtain ⟨⟨tt, hZ, hT⟩, hNst⟩ := id htb
  have hS : va_S A s.heap s.heap [] := va_S.rf
  have hl := lv_entry ([.ref (ad 5), .ref (ad (10 + j))]) (n := 4) (Nat.le_of_ble_eq_true rfl)
  rw [lg_entry_eq]
  generalize (lg_sl ([.ref (ad 5), .ref (ad (10 + j))]) ++ List.replicate (4 - (lg_sl ([.ref (ad 5), .ref (ad (10 + j))])).length) Slot.unset).toArray = ls at hl ⊢
  have hl : lv_has ls 4 [(0, .ref (ad 5)), (1, .ref (ad (10 + j)))] := hl
  have hnw := nw_le hN
  have hnwp := nw_pos N
  have hpw := pw_le N
  have hpwp := pw_pos N
  have hnp := np_le hN
  have hnh := nh_le hN1 hN
  have hnm := nm_le hN1 hN
  have hnp0 : 0 < 2 ^ N := Nat.two_pow_pos N
  refine lv_iconst (v := nI 0) hx hb dX0_count_0 (by decide) ?_
  refine lv_istore_n (lv' := [(2, .int (nI 0)), (0, .ref (ad 5)), (1, .ref (ad (10 + j)))]) hx hb dX0_count_1 rfl hl (by decide) rfl (fun ls hl => ?_)
  have lp_2 : ∀ (n9 pt : Nat) (k2 : Nat → Int32) (H : Heap) (locs : List Loc) (ls : Array Slot), pt ≤ 2 ^ N → 2 ^ N + 1 ≤ pt + n9 → (∀ i, i < pt → k2 i = nI (gj i).toNat) → va_P D vwCl (dkW N ad cJJ cJ cI dr re tu k2 uh bf la G) H → va_S A s.heap H locs → lv_has ls 4 [(0, .ref (ad 5)), (1, .ref (ad (10 + j))), (2, .int (nI pt))] → W p l e (headSpec wsX0_count ({ frames := 2, cells := 0, slots := 0, locals := 51 } : Room)).room s m ([.ref (ad 5), .ref (ad (10 + j))] : List Value).toArray below meth c H locs 0 0 (MQ below (va_Qi (fun (r : Int32) (u : (Nat → Int32) × (Nat → Int32) × (Nat → Int32) × (Nat → Int32)) => r = nI (fc gj N N)) (fun (u : (Nat → Int32) × (Nat → Int32) × (Nat → Int32) × (Nat → Int32)) t => va_P D vwCl (dkW N ad cJJ cJ cI dr re tu u.1 u.2.1 u.2.2.1 u.2.2.2 G) t.heap) A) ([.ref (ad 5), .ref (ad (10 + j))] : List Value).toArray s 0 0 A) (F0 m 2 ls []) := by
    intro n9
    induction n9 with
    | zero => intro pt k2 H locs ls h1 h2; exact absurd h2 (by omega)
    | succ n9 ih =>
      intro pt k2 H locs ls hle_2 hmm_2 hI hP hS hl
      have ih_2 := @ih
      refine lv_iload_n hx hb dX0_count_2 rfl (lv_at hl 2 rfl) ?_
      refine lv_aload_n hx hb dX0_count_3 rfl (lv_at hl 0 rfl) ?_
      refine va_get (D := D) (ci := 0) (C := RX0) (T := TX0) (N := 5) hx hb hts (by decide +kernel) hown hK hP 5 rfl rfl 1 (by decide) (hts (.fieldLink RX0 15 "ForkDesk$ForkCounter" "kinds" "[I") (by decide +kernel)) (fun _ h9 => h9) rfl dX0_count_4 ?_
      refine va_alen hx hb hK hP 6 2 rfl rfl (v := nI (2 ^ N)) rfl dX0_count_7 ?_
      refine xa_ge (tgt := 28) hx hb (by omega) (by omega) dX0_count_8 (by decide) (fun c_8 => ?_) (fun c_8 => ?_)
      · refine lv_iconst (v := nI 0) hx hb dX0_count_28 (by decide) ?_
        refine lv_istore_n (lv' := [(2, .int (nI 0)), (0, .ref (ad 5)), (1, .ref (ad (10 + j)))]) hx hb dX0_count_29 rfl hl (by decide) rfl (fun ls hl => ?_)
        refine lv_aload_n hx hb dX0_count_30 rfl (lv_at hl 1 rfl) ?_
        refine va_get (D := D) (ci := 0) (C := RX0) (T := TX0) (N := 5) hx hb hts (by decide +kernel) hown hK hP 5 rfl rfl 0 (by decide) (hts (.fieldLink RX0 9 "ForkDesk$ForkCounter" "variables" "I") (by decide +kernel)) (fun _ h9 => h9) rfl dX0_count_31 ?_
        refine lv_istore_n (lv' := [(3, .int (nI N)), (2, .int (nI 0)), (0, .ref (ad 5)), (1, .ref (ad (10 + j)))]) hx hb dX0_count_34 rfl hl (by decide) rfl (fun ls hl => ?_)
        have lp_35 : ∀ (n9 : Nat) (v : Nat) (sm : Nat) (k3 : Nat → Int32) (uh3 : Nat → Int32) (bf3 : Nat → Int32) (la3 : Nat → Int32) (H : Heap) (locs : List Loc) (ls : Array Slot), (v < n9) → (v ≤ N) → (sm = fc gj N (N - v)) → (∀ i, i < 2 ^ v → k3 i = nI (kl gj N (N - v) i)) → va_P D vwCl (dkW N ad cJJ cJ cI dr re tu k3 uh3 bf3 la3 G) H → va_S A s.heap H locs → lv_has ls 4 [(0, .ref (ad 5)), (1, .ref (ad (10 + j))), (2, .int (nI sm)), (3, .int (nI v))] → W p l e (headSpec wsX0_count ({ frames := 2, cells := 0, slots := 0, locals := 51 } : Room)).room s m ([.ref (ad 5), .ref (ad (10 + j))] : List Value).toArray below meth c H locs 0 0 (MQ below (va_Qi (fun (r : Int32) (u : (Nat → Int32) × (Nat → Int32) × (Nat → Int32) × (Nat → Int32)) => r = nI (fc gj N N)) (fun (u : (Nat → Int32) × (Nat → Int32) × (Nat → Int32) × (Nat → Int32)) t => va_P D vwCl (dkW N ad cJJ cJ cI dr re tu u.1 u.2.1 u.2.2.1 u.2.2.2 G) t.heap) A) ([.ref (ad 5), .ref (ad (10 + j))] : List Value).toArray s 0 0 A) (F0 m 35 ls []) := by
          intro n9
          induction n9 with
          | zero => intro v sm k3 uh3 bf3 la3 H locs ls h0; exact absurd h0 (by omega)
          | succ n9 ih =>
            intro v sm k3 uh3 bf3 la3 H locs ls hn hvN hsm hkk hP hS hl
            have ih_35 := @ih
            refine lv_iload_n hx hb dX0_count_35 rfl (lv_at hl 3 rfl) ?_
            refine lv_iconst (v := nI 1) hx hb dX0_count_36 (by decide) ?_
            refine xa_lt (tgt := 58) hx hb (by omega) (by omega) dX0_count_37 (by decide) (fun c_37 => ?_) (fun c_37 => ?_)
            · refine lv_iload_n hx hb dX0_count_58 rfl (lv_at hl 2 rfl) ?_
              exact W.iret (v := (nI sm)) hx hb hr (fun t ht hW => ⟨⟨(nI sm), (k3, uh3, bf3, la3), rfl, (by rw [hsm, show v = 0 by omega, Nat.sub_zero]), (by show va_P _ _ _ _; rw [ht]; exact hP)⟩, hS.F ht⟩) hS.2.2 dX0_count_59
            · obtain ⟨v1, ev1⟩ : ∃ z, v = z + 1 := ⟨v - 1, by omega⟩
              subst ev1
              have hv1N : v1 + 1 ≤ N := hvN
              have hvh : 2 ^ v1 ≤ nh N := Nat.pow_le_pow_right (by omega) (by omega)
              refine lv_iload_n hx hb dX0_count_40 rfl (lv_at hl 2 rfl) ?_
              refine lv_aload_n hx hb dX0_count_41 rfl (lv_at hl 0 rfl) ?_
              refine lv_iconst (v := nI 1) hx hb dX0_count_42 (by decide) ?_
              refine lv_iload_n hx hb dX0_count_43 rfl (lv_at hl 3 rfl) ?_
              refine lv_iconst (v := nI 1) hx hb dX0_count_44 (by decide) ?_
              refine xa_isub hx hb (by omega) dX0_count_45 ?_
              refine xa_ishl1 hx hb (by omega) dX0_count_46 ?_
              refine va_calli (va_runV (As := [.int (nI (2 ^ (v1 + 1 - 1)))]) (rest := [.int (nI sm)]) ⟨hx, hb, hml, hown, hts⟩ (c_countLevel l D _ N hN1 hN ad (aok_true hao) cJJ cJ cI dr re tu k3 uh3 bf3 la3 G (kl gj N (N - (v1 + 1))) (2 ^ (v1 + 1 - 1)) (by rw [Nat.add_sub_cancel]; exact hvh) (fun i hi => hkk i (by rw [Nat.add_sub_cancel] at hi; rw [Nat.pow_succ]; omega)) (fun i hi => kl_lt hv1N (by rw [Nat.add_sub_cancel] at hi; rw [Nat.pow_succ]; omega))) (cwV 1 hts gX0_count_X0_countLevel rfl rfl rfl (by decide +kernel) ⟨Nat.le_of_ble_eq_true rfl, Nat.le_of_ble_eq_true rfl⟩) ⟨wp0_blind, va_recv hK hP (ci := 0) (q0 := 5) rfl rfl, fun U hU hW => wp0_of hP hK htb hS (fr_in hao hS hA) hU hW⟩ rfl rfl hl.1 rfl (lv_room (Nat.le_of_ble_eq_true rfl)) dX0_count_47 ⟨Nat.zero_le _, Nat.zero_le _⟩) hS (fun q _ h => (fr_in hao hS hA) q h) ((fr_in hao hS hA)) (fun r_47 u_47 t H1 locs ht hvm hw hB hz1 hk1 hS => ?_)
              rw [ht] at hB
              have hP := hB
              clear hz1 ht
              generalize H1 = H at hP hS ⊢
              rw [hw.1, show v1 + 1 - 1 = v1 by omega]
              have hcf := cf_le (fun b => kl gj N (N - (v1 + 1)) (2 * b)) (fun b => kl gj N (N - (v1 + 1)) (2 * b + 1)) (2 ^ v1)
              refine xa_iadd hx hb dX0_count_50 ?_
              refine lv_istore_n (lv' := [(2, .int (nI (sm + (cf (fun b => kl gj N (N - (v1 + 1)) (2 * b)) (fun b => kl gj N (N - (v1 + 1)) (2 * b + 1)) (2 ^ v1))))), (0, .ref (ad 5)), (1, .ref (ad (10 + j))), (3, .int (nI (v1 + 1)))]) hx hb dX0_count_51 rfl hl (by decide) rfl (fun ls hl => ?_)
              refine xa_dec (k := 3) (lv' := [(3, .int (nI v1)), (2, .int (nI (sm + (cf (fun b => kl gj N (N - (v1 + 1)) (2 * b)) (fun b => kl gj N (N - (v1 + 1)) (2 * b + 1)) (2 ^ v1))))), (0, .ref (ad 5)), (1, .ref (ad (10 + j)))]) hx hb dX0_count_52 hl rfl (by decide) rfl (fun ls hl => ?_)
              refine lv_goto (tgt := 35) hx hb dX0_count_55 (by decide) ?_
              exact ih_35 v1 (sm + cf (fun b => kl gj N (N - (v1 + 1)) (2 * b)) (fun b => kl gj N (N - (v1 + 1)) (2 * b + 1)) (2 ^ v1)) u_47.1 u_47.2.1 u_47.2.2.1 u_47.2.2.2 _ _ _ (by omega) (by omega) (by rw [hsm]; exact fc_s hv1N) (fun i hi => by rw [hw.2 i (by rw [Nat.add_sub_cancel]; exact hi)]; exact congrArg nI (kl_s hv1N i)) hP hS (lv_sub hl [2, 3, 1, 0] rfl)
        exact lp_35 (N + 1) N 0 k2 uh bf la _ _ _ (by omega) (Nat.le_refl N) (by rw [Nat.sub_self]; rfl) (fun i hi => by rw [Nat.sub_self]; exact hI i (by omega)) hP hS (lv_sub hl [2, 3, 1, 0] rfl)
      · refine lv_aload_n hx hb dX0_count_11 rfl (lv_at hl 0 rfl) ?_
        refine va_get (D := D) (ci := 0) (C := RX0) (T := TX0) (N := 5) hx hb hts (by decide +kernel) hown hK hP 5 rfl rfl 1 (by decide) (hts (.fieldLink RX0 15 "ForkDesk$ForkCounter" "kinds" "[I") (by decide +kernel)) (fun _ h9 => h9) rfl dX0_count_12 ?_
        refine lv_iload_n hx hb dX0_count_15 rfl (lv_at hl 2 rfl) ?_
        refine lv_aload_n hx hb dX0_count_16 rfl (lv_at hl 1 rfl) ?_
        refine lv_iload_n hx hb dX0_count_17 rfl (lv_at hl 2 rfl) ?_
        have hpn := pt_nw c_8
        refine va_calli (va_runSN (As := [.ref (ad (10 + j)), .int (nI pt)]) (rest := [.int (nI pt), .ref (ad 6)]) ⟨hx, hb, hml, hown, hts⟩ (c_valueAt l D _ (ad (10 + j)) cJ (nw N) (G j) pt (by omega) (by omega) (by omega)) (⟨va_cnB 2 hts gX0_count_X1_valueAt_n34 rfl rfl rfl hNst (hts (.initialized RX1) (by decide +kernel)) (by decide +kernel) ⟨Nat.le_of_ble_eq_true rfl, Nat.le_of_ble_eq_true rfl⟩, hts (.static yX1_valueAt) (by decide +kernel), trivial⟩) ⟨wp0_blind, fun U hU hW => wp0_of (va_one hP (10 + j) (dk_row (by omega))) (hK.sub [1] rfl) htb hS no_in hU hW⟩ rfl rfl hl.1 rfl (lv_room (Nat.le_of_ble_eq_true rfl)) dX0_count_18 ⟨Nat.zero_le _, Nat.zero_le _⟩) hS (fun q _ h => h.elim) (fun q h => h.elim) (fun r_18 u_18 t H1 locs ht hvm hw hB hz1 hk1 hS => ?_)
        have hP := xa_same hP hk1
        clear hz1 hk1 hB ht
        generalize H1 = H at hP hS ⊢
        subst hw
        refine xa_iast hx hb hK hP (dk_D hao) hS 6 2 rfl rfl (w := pt) (by omega) (by omega) dX0_count_21 (fun H locs hP _ hS => ?_)
        have hP : va_P D vwCl (dkW N ad cJJ cJ cI dr re tu (upd k2 pt (nI ((lb (G j (pt / 64)) (pt % 64)).toNat))) uh bf la G) H := hP
        refine xa_inc (k := 2) (lv' := [(2, .int (nI (pt + 1))), (0, .ref (ad 5)), (1, .ref (ad (10 + j)))]) hx hb dX0_count_22 hl rfl (by decide) rfl (fun ls hl => ?_)
        refine lv_goto (tgt := 2) hx hb dX0_count_25 (by decide) ?_
        exact ih_2 (pt + 1) (upd k2 pt (nI ((lb (G j (pt / 64)) (pt % 64)).toNat))) _ _ _ (by omega) (by omega) (fun i hi => by by_cases hip : i = pt; (subst hip; rw [pk_us, hgj _ _ hpn.1 (Nat.mod_lt _ (by omega)), Nat.div_add_mod]); (rw [pk_un hip]; exact hI i (by omega))) hP hS (lv_sub hl [1, 2, 0] rfl)
  exact lp_2 (2 ^ N + 1 - 0) 0 kd _ _ _ (by omega) (by omega) (fun i hi => absurd hi (by omega)) hP hS (lv_sub hl [1, 2, 0] rfl)
