set_option maxHeartbeats 4000000 in
set_option maxRecDepth 100000 in
/-- spread -/
theorem c_spread (l : Launch) (D : va_G) (sz : Nat) (N : Nat) (hN : N ≤ 12) (ad : Nat → Nat) (a : Nat) (hne : ad 0 ≠ a) (cJ : ClassId) (f : Nat → Int64) (b : Nat) (hbN : b < N) : Met l yX1_spread wsX1_spread ({ frames := 1, cells := 0, slots := 0, locals := 27 } : Room) (va_Pc [.ref (ad 0), .ref a, .int (nI b)] (wp0 D [(ad 0, .inr (1, dkF N ad)), (a, .inl (cJ, nw N, .inr (.inl f)))] [(cJ, .long)] (fun q : Nat => q = a) sz)) (va_Qv (fun (u : Nat → Int64) => u = spr b f (nw N)) (fun (u : Nat → Int64) t => va_P D vwCl [(a, .inl (cJ, nw N, .inr (.inl u)))] t.heap) (fun q : Nat => q = a)) 0 0 (fun q : Nat => q = a) := by
  refine Met.ofW (cc := cX1_spread) (maxL := 4) (ret := none) (by decide) rfl ?_
  intro p e s m args below meth c s₁ B hml hv
  obtain ⟨rfl, hsz, hP, hK, htb⟩ := hv
  have hx := B.exec
  have hb := B.bytes
  have hr := B.returns
  have hts := atoms_spec (ws := wsX1_spread) B.pre
  have hown : s.vm.findClass RX1 = some m.cls := findClass_of_methodNamed B.named
  have hlocks := B.notSynchronized
  subst hsz
  generalize hAe : (fun q : Nat => q = a) = A at htb ⊢
  obtain ⟨⟨tt, hZ, hT⟩, hNst⟩ := id htb
  have hS : va_S A s.heap s.heap [] := va_S.rf
  have hl := lv_entry ([.ref (ad 0), .ref a, .int (nI b)]) (n := 4) (Nat.le_of_ble_eq_true rfl)
  rw [lg_entry_eq]
  generalize (lg_sl ([.ref (ad 0), .ref a, .int (nI b)]) ++ List.replicate (4 - (lg_sl ([.ref (ad 0), .ref a, .int (nI b)])).length) Slot.unset).toArray = ls at hl ⊢
  have hl : lv_has ls 4 [(0, .ref (ad 0)), (1, .ref a), (2, .int (nI b))] := hl
  have hAa : A a := by rw [← hAe]
  have hA0 : ¬ A (ad 0) := by rw [← hAe]; exact hne
  have hO : ∀ {H : Heap} {locs : List Loc}, va_S A s.heap H locs → va_P D vwCl [(ad 0, .inr (1, dkF N ad))] H := fun hS => ro_kept (va_one hP 0 rfl) hA0 hS
  have hP := va_one hP 1 rfl
  have hnw := nw_le hN
  refine lv_iconst (v := nI 0) hx hb dX1_spread_0 (by decide) ?_
  refine lv_istore_n (lv' := [(3, .int (nI 0)), (0, .ref (ad 0)), (1, .ref a), (2, .int (nI b))]) hx hb dX1_spread_1 rfl hl (by decide) rfl (fun ls hl => ?_)
  have lp_2 : ∀ (n9 w : Nat) (f2 : Nat → Int64) (H : Heap) (locs : List Loc) (ls : Array Slot), w ≤ nw N → nw N + 1 ≤ w + n9 → f2 = spr b f w → va_P D vwCl ([(a, .inl (cJ, nw N, .inr (.inl f2)))]) H → va_S A s.heap H locs → lv_has ls 4 [(0, .ref (ad 0)), (1, .ref a), (2, .int (nI b)), (3, .int (nI w))] → W p l e (headSpec wsX1_spread ({ frames := 1, cells := 0, slots := 0, locals := 27 } : Room)).room s m ([.ref (ad 0), .ref a, .int (nI b)] : List Value).toArray below meth c H locs 0 0 (MQ below (va_Qv (fun (u : Nat → Int64) => u = spr b f (nw N)) (fun (u : Nat → Int64) t => va_P D vwCl [(a, .inl (cJ, nw N, .inr (.inl u)))] t.heap) A) ([.ref (ad 0), .ref a, .int (nI b)] : List Value).toArray s 0 0 A) (F0 m 2 ls []) := by
    intro n9
    induction n9 with
    | zero => intro w f2 H locs ls h1 h2; exact absurd h2 (by omega)
    | succ n9 ih =>
      intro w f2 H locs ls hle_2 hmm_2 hI hP hS hl
      have ih_2 := @ih
      refine lv_iload_n hx hb dX1_spread_2 rfl (lv_at hl 3 rfl) ?_
      refine lv_aload_n hx hb dX1_spread_3 rfl (lv_at hl 0 rfl) ?_
      refine va_get (D := D) (ci := 1) (C := RX1) (T := TX1) (N := 10) hx hb hts (by decide +kernel) hown hK (hO hS) 0 rfl rfl 2 (by decide) (hts (.fieldLink RX1 25 "ForkDesk" "words" "I") (by decide +kernel)) (fun _ h9 => h9) rfl dX1_spread_4 ?_
      refine xa_ge (tgt := 28) hx hb (by omega) (by omega) dX1_spread_7 (by decide) (fun c_7 => ?_) (fun c_7 => ?_)
      · exact W.vret hx hb hr (fun t ht hW => ⟨⟨f2, rfl, (by rw [hI, show w = nw N by omega]), (by show va_P _ _ _ _; rw [ht]; exact hP)⟩, hS.F ht⟩) hS.2.2 dX1_spread_28
      · refine lv_aload_n hx hb dX1_spread_10 rfl (lv_at hl 1 rfl) ?_
        refine lv_iload_n hx hb dX1_spread_11 rfl (lv_at hl 3 rfl) ?_
        refine lv_dup2_11 hx hb dX1_spread_12 rfl rfl ?_
        refine xa_lald hx hb hK hP 0 0 rfl rfl (w := w) (by omega) (by omega) dX1_spread_13 ?_
        refine lv_aload_n hx hb dX1_spread_14 rfl (lv_at hl 1 rfl) ?_
        refine lv_iload_n hx hb dX1_spread_15 rfl (lv_at hl 3 rfl) ?_
        refine lv_iload_n hx hb dX1_spread_16 rfl (lv_at hl 2 rfl) ?_
        refine va_calll (va_runS (As := [.ref a, .int (nI w), .int (nI b)]) (rest := [.long (f2 w), .int (nI w), .ref a]) ⟨hx, hb, hml, hown, hts⟩ (c_acrossBit l D _ N a cJ f2 w b hN (by omega) hbN) (va_cwS 3 hts gX1_spread_X1_acrossBit rfl rfl rfl (by decide +kernel) ⟨Nat.le_of_ble_eq_true rfl, Nat.le_of_ble_eq_true rfl⟩) ⟨wp0_blind, fun U hU hW => wp0_of hP hK htb hS no_in hU hW⟩ rfl rfl hl.1 rfl (lv_room (Nat.le_of_ble_eq_true rfl)) dX1_spread_17 ⟨Nat.zero_le _, Nat.zero_le _⟩) hS (fun q _ h => h.elim) (fun q h => h.elim) (fun r_17 u_17 t H1 locs ht hvm hw hB hz1 hk1 hS => ?_)
        have hP := xa_same hP hk1
        clear hz1 hk1 hB ht
        generalize H1 = H at hP hS ⊢
        subst hw
        refine lv_lor hx hb dX1_spread_20 ?_
        refine xa_last hx hb hK hP (one_D hAa) hS 0 0 rfl rfl (w := w) (by omega) (by omega) dX1_spread_21 (fun H locs hP _ hS => ?_)
        have hP : va_P D vwCl ([(a, .inl (cJ, nw N, .inr (.inl (vp_updL f2 w ((f2 w) ||| (acr f2 w b))))))]) H := hP
        refine xa_inc (k := 3) (lv' := [(3, .int (nI (w + 1))), (0, .ref (ad 0)), (1, .ref a), (2, .int (nI b))]) hx hb dX1_spread_22 hl rfl (by decide) rfl (fun ls hl => ?_)
        refine lv_goto (tgt := 2) hx hb dX1_spread_25 (by decide) ?_
        exact ih_2 (w + 1) (vp_updL f2 w ((f2 w) ||| (acr f2 w b))) _ _ _ (by omega) (by omega) (by subst hI; rfl) hP hS (lv_sub hl [1, 2, 3, 0] rfl)
  exact lp_2 (nw N + 1 - 0) 0 f _ _ _ (by omega) (by omega) rfl hP hS (lv_sub hl [1, 2, 3, 0] rfl)

set_option maxHeartbeats 4000000 in
set_option maxRecDepth 100000 in
/-- keepDraft -/
theorem c_keepDraft (l : Launch) (D : va_G) (sz : Nat) (N : Nat) (hN1 : 1 ≤ N) (hN : N ≤ 12) (ad : Nat → Nat) (hao : aok (fun _ => True) ad) (cJJ cJ cI : ClassId) (dr re : Nat → Int64) (tu kd uh bf la : Nat → Int32) (G : Nat → Nat → Int64) (j : Nat) (hj : j < 32) : Met l yX1_keepDraft wsX1_keepDraft ({ frames := 1, cells := 0, slots := 0, locals := 40 } : Room) (va_Pc [.ref (ad 0), .int (nI j)] (wp0 D (dkW N ad cJJ cJ cI dr re tu kd uh bf la G) (dkT cJJ cJ cI) (fr ad sz) sz)) (va_Qv (fun (u : Nat → Int64) => ∀ x, x < nw N → u x = dr x) (fun (u : Nat → Int64) t => va_P D vwCl (dkW N ad cJJ cJ cI dr re tu kd uh bf la (va_up G j u)) t.heap) (fr ad sz)) 0 0 (fr ad sz) := by
  refine Met.ofW (cc := cX1_keepDraft) (maxL := 2) (ret := none) (by decide) rfl ?_
  intro p e s m args below meth c s₁ B hml hv
  obtain ⟨rfl, hsz, hP, hK, htb⟩ := hv
  have hx := B.exec
  have hb := B.bytes
  have hr := B.returns
  have hts := atoms_spec (ws := wsX1_keepDraft) B.pre
  have hown : s.vm.findClass RX1 = some m.cls := findClass_of_methodNamed B.named
  have hlocks := B.notSynchronized
  subst hsz
  generalize hAe : fr ad s.heap.size = A at htb ⊢
  have hA : ∀ q : Nat, s.heap.size ≤ q → A q := fun q h => by rw [← hAe]; exact fr_new q h
  have hao : aok A ad := by rw [← hAe]; exact aok_fr hao
  obtain ⟨⟨tt, hZ, hT⟩, hNst⟩ := id htb
  have hS : va_S A s.heap s.heap [] := va_S.rf
  have hl := lv_entry ([.ref (ad 0), .int (nI j)]) (n := 2) (Nat.le_of_ble_eq_true rfl)
  rw [lg_entry_eq]
  generalize (lg_sl ([.ref (ad 0), .int (nI j)]) ++ List.replicate (2 - (lg_sl ([.ref (ad 0), .int (nI j)])).length) Slot.unset).toArray = ls at hl ⊢
  have hl : lv_has ls 2 [(0, .ref (ad 0)), (1, .int (nI j))] := hl
  have hnw := nw_le hN
  have hnwp := nw_pos N
  have hpw := pw_le N
  have hpwp := pw_pos N
  have hnp := np_le hN
  refine lv_aload_n hx hb dX1_keepDraft_0 rfl (lv_at hl 0 rfl) ?_
  refine va_get (D := D) (ci := 1) (C := RX1) (T := TX1) (N := 10) hx hb hts (by decide +kernel) hown hK hP 0 rfl rfl 6 (by decide) (hts (.fieldLink RX1 42 "ForkDesk" "draft" "[J") (by decide +kernel)) (fun _ h9 => h9) rfl dX1_keepDraft_1 ?_
  refine lv_iconst (v := nI 0) hx hb dX1_keepDraft_4 (by decide) ?_
  refine lv_aload_n hx hb dX1_keepDraft_5 rfl (lv_at hl 0 rfl) ?_
  refine va_get (D := D) (ci := 1) (C := RX1) (T := TX1) (N := 10) hx hb hts (by decide +kernel) hown hK hP 0 rfl rfl 5 (by decide) (hts (.fieldLink RX1 39 "ForkDesk" "registers" "[[J") (by decide +kernel)) (fun _ h9 => h9) rfl dX1_keepDraft_6 ?_
  refine lv_iload_n hx hb dX1_keepDraft_9 rfl (lv_at hl 1 rfl) ?_
  refine xa_aald hx hb hK hP 1 0 rfl rfl (w := j) (y := ad (10 + j)) (by omega) (by decide) rfl dX1_keepDraft_10 ?_
  refine lv_iconst (v := nI 0) hx hb dX1_keepDraft_11 (by decide) ?_
  refine lv_aload_n hx hb dX1_keepDraft_12 rfl (lv_at hl 0 rfl) ?_
  refine va_get (D := D) (ci := 1) (C := RX1) (T := TX1) (N := 10) hx hb hts (by decide +kernel) hown hK hP 0 rfl rfl 2 (by decide) (hts (.fieldLink RX1 25 "ForkDesk" "words" "I") (by decide +kernel)) (fun _ h9 => h9) rfl dX1_keepDraft_13 ?_
  refine va_copyl hx hb (by rw [hml]; exact hl.1.symm) hown (hts (.methodLink RX1 101 arraycopyName) (by decide +kernel)) (hts (.native arraycopyName) (by decide +kernel)) (hts (.static arraycopyName) (by decide +kernel)) (hts (.initialized "java/lang/System") (by decide +kernel)) hK hP (dk_D hao) hS 2 (10 + j) 1 1 rfl (dk_row hj) rfl rfl rfl (nI_pos (by omega)) (nI_pos (by omega)) (nI_pos (by omega)) (by rw [nI_clamp (by omega), nI_clamp (by omega)]; omega) (by rw [nI_clamp (by omega), nI_clamp (by omega)]; omega) (fun _ _ => rfl) (Nat.le_of_ble_eq_true rfl) (Nat.le_of_ble_eq_true rfl) dX1_keepDraft_16 (fun H locs hP _ hS => ?_)
  rw [dk_set _ hj, nI_clamp (by omega), nI_clamp (by omega)] at hP
  exact W.vret hx hb hr (fun t ht hW => ⟨⟨va_cpy dr (G j) 0 0 (nw N), rfl, (fun x hx => sb_cpyL hx), (by show va_P _ _ _ _; rw [ht]; exact hP)⟩, hS.F ht⟩) hS.2.2 dX1_keepDraft_19
