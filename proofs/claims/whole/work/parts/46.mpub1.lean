set_option maxHeartbeats 4000000 in
set_option maxRecDepth 100000 in
/-- the reference: exists -/
theorem c_mExists (l : Launch) (D : va_G) (sz : Nat) (N : Nat) (hN1 : 1 ≤ N) (hN : N ≤ 12) (bd : Nat → Nat) (hao : aok4 (fun _ => True) bd) (cZ cI : ClassId) (th : Int32) (rb mb : Nat → Bool) (pt : Nat → Int32) (g : Nat → Nat → Bool) (hg : okM N rb g) (k a f t1 : Int32) : Met l yX2_exists wsX2_exists ({ frames := 1, cells := 0, slots := 0, locals := 22 } : Room) (va_Pc [.ref (bd 0), .int k, .int a, .int f, .int t1] (wp0 D (mdW N bd cZ cI th rb mb pt) (mdT cZ cI) (fr4 bd sz) sz)) (va_Qi (fun (r : Int32) (u : (Nat → Bool) × (Nat → Bool) × (Nat → Int32)) => r = nI (spE N g k a f t1).isSome.toNat ∧ okM N u.1 ((spE N g k a f t1).getD g)) (fun (u : (Nat → Bool) × (Nat → Bool) × (Nat → Int32)) t => va_P D vwCl (mdW N bd cZ cI (nI 0) u.1 u.2.1 u.2.2) t.heap) (fr4 bd sz)) 0 0 (fr4 bd sz) := by
  refine Met.ofW (cc := cX2_exists) (maxL := 8) (ret := (some .boolean)) (by decide) rfl ?_
  intro p e s m args below meth c s₁ B hml hv
  obtain ⟨rfl, hsz, hP, hK, htb⟩ := hv
  have hx := B.exec
  have hb := B.bytes
  have hr := B.returns
  have hts := atoms_spec (ws := wsX2_exists) B.pre
  have hown : s.vm.findClass RX2 = some m.cls := findClass_of_methodNamed B.named
  have hlocks := B.notSynchronized
  subst hsz
  generalize hAe : fr4 bd s.heap.size = A at htb ⊢
  have hA : ∀ q : Nat, s.heap.size ≤ q → A q := fun q h => by rw [← hAe]; exact fr4_new q h
  have hao : aok4 A bd := by rw [← hAe]; exact aok4_fr hao
  obtain ⟨⟨tt, hZ, hT⟩, hNst⟩ := id htb
  have hS : va_S A s.heap s.heap [] := va_S.rf
  have hl := lv_entry ([.ref (bd 0), .int k, .int a, .int f, .int t1]) (n := 8) (Nat.le_of_ble_eq_true rfl)
  rw [lg_entry_eq]
  generalize (lg_sl ([.ref (bd 0), .int k, .int a, .int f, .int t1]) ++ List.replicate (8 - (lg_sl ([.ref (bd 0), .int k, .int a, .int f, .int t1])).length) Slot.unset).toArray = ls at hl ⊢
  have hl : lv_has ls 8 [(0, .ref (bd 0)), (1, .int k), (2, .int a), (3, .int f), (4, .int t1)] := hl
  have hnp := np_le hN
  have hnp0 : 0 < 2 ^ N := Nat.two_pow_pos N
  refine lv_aload_n hx hb dX2_exists_0 rfl (lv_at hl 0 rfl) ?_
  refine lv_iconst (v := nI 0) hx hb dX2_exists_1 (by decide) ?_
  refine va_put (D := D) (ci := 2) (v := .int (nI 0)) (ty := .int) (C := RX2) (T := TX2) (N := 6) hx hb hts (fun w h => List.mem_cons_of_mem _ (inBX2 w h)) tyX2 tyX2_ok nmX2 hown hK hP (md_D hao) hS 0 rfl rfl 0 (by decide) (hts (.fieldLink RX2 28 "ForkDeskModel" "thrown" "I") (by decide +kernel)) (fun _ h9 => h9) rfl (by decide +kernel) rfl rfl (Nat.le_of_ble_eq_true rfl) dX2_exists_2 (fun H locs hP _ hS => ?_)
  have hP : va_P D vwCl (mdW N bd cZ cI (nI 0) rb mb pt) H := hP
  refine lv_iload_n hx hb dX2_exists_5 rfl (lv_at hl 1 rfl) ?_
  refine va_calli (va_runS (As := [.int k]) (rest := []) ⟨hx, hb, hml, hown, hts⟩ (c_isRow l D _ k) (va_cwS 1 hts (goodIn_mono gX2_isRow) rfl rfl rfl (by decide +kernel) ⟨Nat.le_of_ble_eq_true rfl, Nat.le_of_ble_eq_true rfl⟩) ⟨wp0_blind, fun U hU hW => wp0_of (va_P.sub hP [] rfl) (hK.sub [] rfl) htb hS no_in hU hW⟩ rfl rfl hl.1 rfl (lv_room (Nat.le_of_ble_eq_true rfl)) dX2_exists_6 ⟨Nat.zero_le _, Nat.zero_le _⟩) hS (fun q _ h => h.elim) (fun q h => h.elim) (fun r_6 u_6 t H1 locs ht hvm hw hB hz1 hk1 hS => ?_)
  have hP := xa_same hP hk1
  clear hz1 hk1 hB ht
  generalize H1 = H at hP hS ⊢
  subst hw
  refine xa_if0 (tgt := 42) hx hb dX2_exists_9 (by decide) (fun c_9 => ?_) (fun c_9 => ?_)
  · refine lv_iconst (v := nI 0) hx hb dX2_exists_42 (by decide) ?_
    exact W.zret (v := (nI 0)) hx hb hr (by decide) (fun t ht hW => ⟨⟨(nI 0), (rb, mb, pt), rfl, ⟨by rw [(show spE N g k a f t1 = none from if_neg (by simp [c_9]))]; rfl, by rw [(show spE N g k a f t1 = none from if_neg (by simp [c_9]))]; exact hg⟩, (by show va_P _ _ _ _; rw [ht]; exact hP)⟩, hS.F ht⟩) hS.2.2 dX2_exists_43
  · refine lv_iload_n hx hb dX2_exists_12 rfl (lv_at hl 2 rfl) ?_
    refine va_calli (va_runS (As := [.int a]) (rest := []) ⟨hx, hb, hml, hown, hts⟩ (c_isRow l D _ a) (va_cwS 1 hts (goodIn_mono gX2_isRow) rfl rfl rfl (by decide +kernel) ⟨Nat.le_of_ble_eq_true rfl, Nat.le_of_ble_eq_true rfl⟩) ⟨wp0_blind, fun U hU hW => wp0_of (va_P.sub hP [] rfl) (hK.sub [] rfl) htb hS no_in hU hW⟩ rfl rfl hl.1 rfl (lv_room (Nat.le_of_ble_eq_true rfl)) dX2_exists_13 ⟨Nat.zero_le _, Nat.zero_le _⟩) hS (fun q _ h => h.elim) (fun q h => h.elim) (fun r_13 u_13 t H1 locs ht hvm hw hB hz1 hk1 hS => ?_)
    have hP := xa_same hP hk1
    clear hz1 hk1 hB ht
    generalize H1 = H at hP hS ⊢
    subst hw
    refine xa_if0 (tgt := 42) hx hb dX2_exists_16 (by decide) (fun c_16 => ?_) (fun c_16 => ?_)
    · refine lv_iconst (v := nI 0) hx hb dX2_exists_42 (by decide) ?_
      exact W.zret (v := (nI 0)) hx hb hr (by decide) (fun t ht hW => ⟨⟨(nI 0), (rb, mb, pt), rfl, ⟨by rw [(show spE N g k a f t1 = none from if_neg (by simp [c_9, c_16]))]; rfl, by rw [(show spE N g k a f t1 = none from if_neg (by simp [c_9, c_16]))]; exact hg⟩, (by show va_P _ _ _ _; rw [ht]; exact hP)⟩, hS.F ht⟩) hS.2.2 dX2_exists_43
    · refine lv_aload_n hx hb dX2_exists_19 rfl (lv_at hl 0 rfl) ?_
      refine lv_iload_n hx hb dX2_exists_20 rfl (lv_at hl 3 rfl) ?_
      refine va_calli (va_runV (As := [.int f]) (rest := []) ⟨hx, hb, hml, hown, hts⟩ (c_isVariableM l D _ N bd (nI 0) f) (cwV 1 hts (goodIn_mono gX2_isVariable) rfl rfl rfl (by decide +kernel) ⟨Nat.le_of_ble_eq_true rfl, Nat.le_of_ble_eq_true rfl⟩) ⟨wp0_blind, va_recv hK hP (ci := 2) (q0 := 0) rfl rfl, fun U hU hW => wp0_of (va_one hP 0 rfl) (hK.sub [] rfl) htb hS no_in hU hW⟩ rfl rfl hl.1 rfl (lv_room (Nat.le_of_ble_eq_true rfl)) dX2_exists_21 ⟨Nat.zero_le _, Nat.zero_le _⟩) hS (fun q _ h => h.elim) (fun q h => h.elim) (fun r_21 u_21 t H1 locs ht hvm hw hB hz1 hk1 hS => ?_)
      have hP := xa_same hP hk1
      clear hz1 hk1 hB ht
      generalize H1 = H at hP hS ⊢
      subst hw
      refine xa_if0 (tgt := 42) hx hb dX2_exists_24 (by decide) (fun c_24 => ?_) (fun c_24 => ?_)
      · refine lv_iconst (v := nI 0) hx hb dX2_exists_42 (by decide) ?_
        exact W.zret (v := (nI 0)) hx hb hr (by decide) (fun t ht hW => ⟨⟨(nI 0), (rb, mb, pt), rfl, ⟨by rw [(show spE N g k a f t1 = none from if_neg (by simp [c_9, c_16, c_24]))]; rfl, by rw [(show spE N g k a f t1 = none from if_neg (by simp [c_9, c_16, c_24]))]; exact hg⟩, (by show va_P _ _ _ _; rw [ht]; exact hP)⟩, hS.F ht⟩) hS.2.2 dX2_exists_43
      · refine lv_aload_n hx hb dX2_exists_27 rfl (lv_at hl 0 rfl) ?_
        refine lv_iload hx hb dX2_exists_28 (lv_at hl 4 rfl) ?_
        refine va_calli (va_runV (As := [.int t1]) (rest := []) ⟨hx, hb, hml, hown, hts⟩ (c_isVariableM l D _ N bd (nI 0) t1) (cwV 1 hts (goodIn_mono gX2_isVariable) rfl rfl rfl (by decide +kernel) ⟨Nat.le_of_ble_eq_true rfl, Nat.le_of_ble_eq_true rfl⟩) ⟨wp0_blind, va_recv hK hP (ci := 2) (q0 := 0) rfl rfl, fun U hU hW => wp0_of (va_one hP 0 rfl) (hK.sub [] rfl) htb hS no_in hU hW⟩ rfl rfl hl.1 rfl (lv_room (Nat.le_of_ble_eq_true rfl)) dX2_exists_30 ⟨Nat.zero_le _, Nat.zero_le _⟩) hS (fun q _ h => h.elim) (fun q h => h.elim) (fun r_30 u_30 t H1 locs ht hvm hw hB hz1 hk1 hS => ?_)
        have hP := xa_same hP hk1
        clear hz1 hk1 hB ht
        generalize H1 = H at hP hS ⊢
        subst hw
        refine xa_if0 (tgt := 42) hx hb dX2_exists_33 (by decide) (fun c_33 => ?_) (fun c_33 => ?_)
        · refine lv_iconst (v := nI 0) hx hb dX2_exists_42 (by decide) ?_
          exact W.zret (v := (nI 0)) hx hb hr (by decide) (fun t ht hW => ⟨⟨(nI 0), (rb, mb, pt), rfl, ⟨by rw [(show spE N g k a f t1 = none from if_neg (by simp [c_9, c_16, c_24, c_33]))]; rfl, by rw [(show spE N g k a f t1 = none from if_neg (by simp [c_9, c_16, c_24, c_33]))]; exact hg⟩, (by show va_P _ _ _ _; rw [ht]; exact hP)⟩, hS.F ht⟩) hS.2.2 dX2_exists_43
        · refine lv_iload_n hx hb dX2_exists_36 rfl (lv_at hl 3 rfl) ?_
          refine lv_iload hx hb dX2_exists_37 (lv_at hl 4 rfl) ?_
          refine lv_icmp_le (tgt := 44) hx hb dX2_exists_39 (by decide) (fun c_39 => ?_) (fun c_39 => ?_)
          · obtain ⟨j, hj, ej⟩ := isR_t c_9
            rw [ej] at hl
            obtain ⟨x1, hx1, ex1⟩ := isR_t c_16
            rw [ex1] at hl
            obtain ⟨i, hi1, hi, ei⟩ := isV_t hN c_24
            rw [ei] at hl
            obtain ⟨i2, hi21, hi2, ei2⟩ := isV_t hN c_33
            rw [ei2] at hl
            have hii : i ≤ i2 := (nI_leI (by omega) (by omega)).mp (by rw [← ei, ← ei2]; exact c_39)
            have hsp : spE N g k a f t1 = some (va_up g j (exs N i (g x1) (i2 + 1 - i))) := by unfold spE; rw [if_pos (by rw [c_9, c_16, c_24, c_33, decide_eq_true c_39]; rfl), ej, ex1, ei, ei2, ix_nI (by omega), ix_nI (by omega), ix_nI (by omega), ix_nI (by omega)]
            refine lv_iconst (v := nI 0) hx hb dX2_exists_44 (by decide) ?_
            refine lv_istore (lv' := [(5, .int (nI 0)), (0, .ref (bd 0)), (1, .int (nI j)), (2, .int (nI x1)), (3, .int (nI i)), (4, .int (nI i2))]) hx hb dX2_exists_45 hl (by decide) rfl (fun ls hl => ?_)
            have lp_47 : ∀ (n9 w : Nat) (m2 : Nat → Bool) (H : Heap) (locs : List Loc) (ls : Array Slot), w ≤ 2 ^ N → 2 ^ N + 1 ≤ w + n9 → (∀ z, z < w → m2 z = rb (4096 * x1 + z)) → va_P D vwCl (mdW N bd cZ cI (nI 0) rb m2 pt) H → va_S A s.heap H locs → lv_has ls 8 [(0, .ref (bd 0)), (1, .int (nI j)), (2, .int (nI x1)), (3, .int (nI i)), (4, .int (nI i2)), (5, .int (nI w))] → W p l e (headSpec wsX2_exists ({ frames := 1, cells := 0, slots := 0, locals := 22 } : Room)).room s m ([.ref (bd 0), .int k, .int a, .int f, .int t1] : List Value).toArray below meth c H locs 0 0 (MQ below (va_Qi (fun (r : Int32) (u : (Nat → Bool) × (Nat → Bool) × (Nat → Int32)) => r = nI (spE N g k a f t1).isSome.toNat ∧ okM N u.1 ((spE N g k a f t1).getD g)) (fun (u : (Nat → Bool) × (Nat → Bool) × (Nat → Int32)) t => va_P D vwCl (mdW N bd cZ cI (nI 0) u.1 u.2.1 u.2.2) t.heap) A) ([.ref (bd 0), .int k, .int a, .int f, .int t1] : List Value).toArray s 0 0 A) (F0 m 47 ls []) := by
              intro n9
              induction n9 with
              | zero => intro w m2 H locs ls h1 h2; exact absurd h2 (by omega)
              | succ n9 ih =>
                intro w m2 H locs ls hle_47 hmm_47 hI hP hS hl
                have ih_47 := @ih
                refine lv_iload hx hb dX2_exists_47 (lv_at hl 5 rfl) ?_
                refine lv_aload_n hx hb dX2_exists_49 rfl (lv_at hl 0 rfl) ?_
                refine va_get (D := D) (ci := 2) (C := RX2) (T := TX2) (N := 6) hx hb hts (fun w h => List.mem_cons_of_mem _ (inBX2 w h)) hown hK hP 0 rfl rfl 2 (by decide) (hts (.fieldLink RX2 25 "ForkDeskModel" "points" "I") (by decide +kernel)) (fun _ h9 => h9) rfl dX2_exists_50 ?_
                refine xa_ge (tgt := 76) hx hb (by omega) (by omega) dX2_exists_53 (by decide) (fun c_53 => ?_) (fun c_53 => ?_)
                · refine lv_iload_n hx hb dX2_exists_76 rfl (lv_at hl 3 rfl) ?_
                  refine lv_istore (lv' := [(5, .int (nI i)), (0, .ref (bd 0)), (1, .int (nI j)), (2, .int (nI x1)), (3, .int (nI i)), (4, .int (nI i2))]) hx hb dX2_exists_77 hl (by decide) rfl (fun ls hl => ?_)
                  have lp_79 : ∀ (n9 v1 : Nat) (m3 : Nat → Bool) (H : Heap) (locs : List Loc) (ls : Array Slot), v1 ≤ i2 + 1 → i2 + 1 + 1 ≤ v1 + n9 → i ≤ v1 → (∀ z, z < 2 ^ N → m3 z = exs N i (g x1) (v1 - i) z) → va_P D vwCl (mdW N bd cZ cI (nI 0) rb m3 pt) H → va_S A s.heap H locs → lv_has ls 8 [(0, .ref (bd 0)), (1, .int (nI j)), (2, .int (nI x1)), (3, .int (nI i)), (4, .int (nI i2)), (5, .int (nI v1))] → W p l e (headSpec wsX2_exists ({ frames := 1, cells := 0, slots := 0, locals := 22 } : Room)).room s m ([.ref (bd 0), .int k, .int a, .int f, .int t1] : List Value).toArray below meth c H locs 0 0 (MQ below (va_Qi (fun (r : Int32) (u : (Nat → Bool) × (Nat → Bool) × (Nat → Int32)) => r = nI (spE N g k a f t1).isSome.toNat ∧ okM N u.1 ((spE N g k a f t1).getD g)) (fun (u : (Nat → Bool) × (Nat → Bool) × (Nat → Int32)) t => va_P D vwCl (mdW N bd cZ cI (nI 0) u.1 u.2.1 u.2.2) t.heap) A) ([.ref (bd 0), .int k, .int a, .int f, .int t1] : List Value).toArray s 0 0 A) (F0 m 79 ls []) := by
                    intro n9
                    induction n9 with
                    | zero => intro v1 m3 H locs ls h1 h2; exact absurd h2 (by omega)
                    | succ n9 ih =>
                      intro v1 m3 H locs ls hle_79 hmm_79 hiv hJ hP hS hl
                      have ih_79 := @ih
                      refine lv_iload hx hb dX2_exists_79 (lv_at hl 5 rfl) ?_
                      refine lv_iload hx hb dX2_exists_81 (lv_at hl 4 rfl) ?_
                      refine xa_gt (tgt := 142) hx hb (by omega) (by omega) dX2_exists_83 (by decide) (fun c_83 => ?_) (fun c_83 => ?_)
                      · refine lv_aload_n hx hb dX2_exists_142 rfl (lv_at hl 0 rfl) ?_
                        refine lv_iload_n hx hb dX2_exists_143 rfl (lv_at hl 1 rfl) ?_
                        refine va_calli (va_runV (As := [.int (nI j)]) (rest := []) ⟨hx, hb, hml, hown, hts⟩ (c_keep l D _ N hN1 hN bd (aok4_true hao) cZ cI (nI 0) rb m3 pt j (by omega)) (cwV 1 hts (goodIn_mono gX2_keep) rfl rfl rfl (by decide +kernel) ⟨Nat.le_of_ble_eq_true rfl, Nat.le_of_ble_eq_true rfl⟩) ⟨wp0_blind, va_recv hK hP (ci := 2) (q0 := 0) rfl rfl, fun U hU hW => wp0_of hP hK htb hS (fr4_in hao hS hA) hU hW⟩ rfl rfl hl.1 rfl (lv_room (Nat.le_of_ble_eq_true rfl)) dX2_exists_144 ⟨Nat.zero_le _, Nat.zero_le _⟩) hS (fun q _ h => (fr4_in hao hS hA) q h) ((fr4_in hao hS hA)) (fun r_144 u_144 t H1 locs ht hvm hw hB hz1 hk1 hS => ?_)
                        rw [ht] at hB
                        obtain ⟨hw1, hw2⟩ := hw
                        subst hw1
                        subst hw2
                        have hP := hB
                        clear hz1 hk1 hB ht
                        generalize H1 = H at hP hS ⊢
                        exact W.zret (v := (nI 1)) hx hb hr (by decide) (fun t ht hW => ⟨⟨(nI 1), (kpt rb m3 j (2 ^ N), m3, pt), rfl, ⟨by rw [hsp]; rfl, by rw [hsp]; exact (okM_up hN hg hj (fun z hz => by rw [hJ z hz, show v1 = i2 + 1 by omega]))⟩, (by show va_P _ _ _ _; rw [ht]; exact hP)⟩, hS.F ht⟩) hS.2.2 dX2_exists_147
                      · refine lv_iconst (v := nI 1) hx hb dX2_exists_86 (by decide) ?_
                        refine lv_aload_n hx hb dX2_exists_87 rfl (lv_at hl 0 rfl) ?_
                        refine va_get (D := D) (ci := 2) (C := RX2) (T := TX2) (N := 6) hx hb hts (fun w h => List.mem_cons_of_mem _ (inBX2 w h)) hown hK hP 0 rfl rfl 1 (by decide) (hts (.fieldLink RX2 21 "ForkDeskModel" "n" "I") (by decide +kernel)) (fun _ h9 => h9) rfl dX2_exists_88 ?_
                        refine lv_iload hx hb dX2_exists_91 (lv_at hl 5 rfl) ?_
                        refine xa_isub hx hb (by omega) dX2_exists_93 ?_
                        refine xa_ishl1 hx hb (by omega) dX2_exists_94 ?_
                        refine lv_istore (lv' := [(6, .int (nI (2 ^ (N - v1)))), (0, .ref (bd 0)), (1, .int (nI j)), (2, .int (nI x1)), (3, .int (nI i)), (4, .int (nI i2)), (5, .int (nI v1))]) hx hb dX2_exists_95 hl (by decide) rfl (fun ls hl => ?_)
                        refine lv_iconst (v := nI 0) hx hb dX2_exists_97 (by decide) ?_
                        refine lv_istore (lv' := [(7, .int (nI 0)), (6, .int (nI (2 ^ (N - v1)))), (0, .ref (bd 0)), (1, .int (nI j)), (2, .int (nI x1)), (3, .int (nI i)), (4, .int (nI i2)), (5, .int (nI v1))]) hx hb dX2_exists_98 hl (by decide) rfl (fun ls hl => ?_)
                        have lp_100 : ∀ (n9 w : Nat) (m4 : Nat → Bool) (H : Heap) (locs : List Loc) (ls : Array Slot), w ≤ 2 ^ N → 2 ^ N + 1 ≤ w + n9 → (∀ z, z < 2 ^ N → m4 z = (m3 z || (decide (z ^^^ 2 ^ (N - v1) < w) && m3 (z ^^^ 2 ^ (N - v1))))) → va_P D vwCl (mdW N bd cZ cI (nI 0) rb m4 pt) H → va_S A s.heap H locs → lv_has ls 8 [(0, .ref (bd 0)), (1, .int (nI j)), (2, .int (nI x1)), (3, .int (nI i)), (4, .int (nI i2)), (5, .int (nI v1)), (6, .int (nI (2 ^ (N - v1)))), (7, .int (nI w))] → W p l e (headSpec wsX2_exists ({ frames := 1, cells := 0, slots := 0, locals := 22 } : Room)).room s m ([.ref (bd 0), .int k, .int a, .int f, .int t1] : List Value).toArray below meth c H locs 0 0 (MQ below (va_Qi (fun (r : Int32) (u : (Nat → Bool) × (Nat → Bool) × (Nat → Int32)) => r = nI (spE N g k a f t1).isSome.toNat ∧ okM N u.1 ((spE N g k a f t1).getD g)) (fun (u : (Nat → Bool) × (Nat → Bool) × (Nat → Int32)) t => va_P D vwCl (mdW N bd cZ cI (nI 0) u.1 u.2.1 u.2.2) t.heap) A) ([.ref (bd 0), .int k, .int a, .int f, .int t1] : List Value).toArray s 0 0 A) (F0 m 100 ls []) := by
                          intro n9
                          induction n9 with
                          | zero => intro w m4 H locs ls h1 h2; exact absurd h2 (by omega)
                          | succ n9 ih =>
                            intro w m4 H locs ls hle_100 hmm_100 hL hP hS hl
                            have ih_100 := @ih
                            refine lv_iload hx hb dX2_exists_100 (lv_at hl 7 rfl) ?_
                            refine lv_aload_n hx hb dX2_exists_102 rfl (lv_at hl 0 rfl) ?_
                            refine va_get (D := D) (ci := 2) (C := RX2) (T := TX2) (N := 6) hx hb hts (fun w h => List.mem_cons_of_mem _ (inBX2 w h)) hown hK hP 0 rfl rfl 2 (by decide) (hts (.fieldLink RX2 25 "ForkDeskModel" "points" "I") (by decide +kernel)) (fun _ h9 => h9) rfl dX2_exists_103 ?_
                            refine xa_ge (tgt := 136) hx hb (by omega) (by omega) dX2_exists_106 (by decide) (fun c_106 => ?_) (fun c_106 => ?_)
                            · refine xa_inc (k := 5) (lv' := [(5, .int (nI (v1 + 1))), (0, .ref (bd 0)), (1, .int (nI j)), (2, .int (nI x1)), (3, .int (nI i)), (4, .int (nI i2)), (6, .int (nI (2 ^ (N - v1)))), (7, .int (nI w))]) hx hb dX2_exists_136 hl rfl (by decide) rfl (fun ls hl => ?_)
                              refine lv_goto (tgt := 79) hx hb dX2_exists_139 (by decide) ?_
                              exact ih_79 (v1 + 1) m4 _ _ _ (by omega) (by omega) (by omega) (fun z hz => by rw [hL z hz, show w = 2 ^ N by omega, decide_eq_true (xr_lt hz (show N - v1 < N by omega)), Bool.true_and, hJ z hz, hJ _ (xr_lt hz (show N - v1 < N by omega)), show v1 + 1 - i = (v1 - i) + 1 by omega]; show _ = sg (N - (i + (v1 - i))) _ z; rw [show i + (v1 - i) = v1 by omega]; rfl) hP hS (lv_sub hl [1, 2, 3, 4, 5, 0] rfl)
                            · refine lv_aload_n hx hb dX2_exists_109 rfl (lv_at hl 0 rfl) ?_
                              refine va_get (D := D) (ci := 2) (C := RX2) (T := TX2) (N := 6) hx hb hts (fun w h => List.mem_cons_of_mem _ (inBX2 w h)) hown hK hP 0 rfl rfl 4 (by decide) (hts (.fieldLink RX2 14 "ForkDeskModel" "made" "[Z") (by decide +kernel)) (fun _ h9 => h9) rfl dX2_exists_110 ?_
                              refine lv_iload hx hb dX2_exists_113 (lv_at hl 7 rfl) ?_
                              refine xa_zald hx hb hK hP 2 0 rfl rfl (w := w) (by omega) (by omega) dX2_exists_115 ?_
                              refine xa_if0 (tgt := 130) hx hb dX2_exists_116 (by decide) (fun c_116 => ?_) (fun c_116 => ?_)
                              · refine xa_inc (k := 7) (lv' := [(7, .int (nI (w + 1))), (0, .ref (bd 0)), (1, .int (nI j)), (2, .int (nI x1)), (3, .int (nI i)), (4, .int (nI i2)), (5, .int (nI v1)), (6, .int (nI (2 ^ (N - v1))))]) hx hb dX2_exists_130 hl rfl (by decide) rfl (fun ls hl => ?_)
                                refine lv_goto (tgt := 100) hx hb dX2_exists_133 (by decide) ?_
                                exact ih_100 (w + 1) m4 _ _ _ (by omega) (by omega) (ex_f hL c_106 c_116) hP hS (lv_sub hl [1, 2, 3, 4, 5, 6, 7, 0] rfl)
                              · have hxl := xr_lt c_106 (show N - v1 < N by omega)
                                refine lv_aload_n hx hb dX2_exists_119 rfl (lv_at hl 0 rfl) ?_
                                refine va_get (D := D) (ci := 2) (C := RX2) (T := TX2) (N := 6) hx hb hts (fun w h => List.mem_cons_of_mem _ (inBX2 w h)) hown hK hP 0 rfl rfl 4 (by decide) (hts (.fieldLink RX2 14 "ForkDeskModel" "made" "[Z") (by decide +kernel)) (fun _ h9 => h9) rfl dX2_exists_120 ?_
                                refine lv_iload hx hb dX2_exists_123 (lv_at hl 7 rfl) ?_
                                refine lv_iload hx hb dX2_exists_125 (lv_at hl 6 rfl) ?_
                                refine xa_ixor hx hb dX2_exists_127 ?_
                                refine lv_iconst (v := nI 1) hx hb dX2_exists_128 (by decide) ?_
                                refine xa_zast hx hb hK hP (md_D hao) hS 2 0 rfl rfl (w := w ^^^ (2 ^ (N - v1))) (b := true) (by omega) (by omega) dX2_exists_129 (fun H locs hP _ hS => ?_)
                                have hP : va_P D vwCl (mdW N bd cZ cI (nI 0) rb (va_up m4 (w ^^^ (2 ^ (N - v1))) true) pt) H := hP
                                refine xa_inc (k := 7) (lv' := [(7, .int (nI (w + 1))), (0, .ref (bd 0)), (1, .int (nI j)), (2, .int (nI x1)), (3, .int (nI i)), (4, .int (nI i2)), (5, .int (nI v1)), (6, .int (nI (2 ^ (N - v1))))]) hx hb dX2_exists_130 hl rfl (by decide) rfl (fun ls hl => ?_)
                                refine lv_goto (tgt := 100) hx hb dX2_exists_133 (by decide) ?_
                                exact ih_100 (w + 1) (va_up m4 (w ^^^ (2 ^ (N - v1))) true) _ _ _ (by omega) (by omega) (ex_t (by omega) hL c_106 c_116) hP hS (lv_sub hl [1, 2, 3, 4, 5, 6, 7, 0] rfl)
                        exact lp_100 (2 ^ N + 1 - 0) 0 m3 _ _ _ (by omega) (by omega) (fun z hz => by rw [decide_eq_false (Nat.not_lt_zero _)]; simp) hP hS (lv_sub hl [2, 3, 4, 5, 6, 7, 1, 0] rfl)
                  exact lp_79 (i2 + 1 + 1 - i) i m2 _ _ _ (by omega) (by omega) (Nat.le_refl i) (fun z hz => by rw [hI z (by omega), Nat.sub_self]; exact hg x1 z hx1 hz) hP hS (lv_sub hl [1, 2, 3, 4, 5, 0] rfl)
                · refine lv_aload_n hx hb dX2_exists_56 rfl (lv_at hl 0 rfl) ?_
                  refine va_get (D := D) (ci := 2) (C := RX2) (T := TX2) (N := 6) hx hb hts (fun w h => List.mem_cons_of_mem _ (inBX2 w h)) hown hK hP 0 rfl rfl 4 (by decide) (hts (.fieldLink RX2 14 "ForkDeskModel" "made" "[Z") (by decide +kernel)) (fun _ h9 => h9) rfl dX2_exists_57 ?_
                  refine lv_iload hx hb dX2_exists_60 (lv_at hl 5 rfl) ?_
                  refine lv_aload_n hx hb dX2_exists_62 rfl (lv_at hl 0 rfl) ?_
                  refine lv_iload_n hx hb dX2_exists_63 rfl (lv_at hl 2 rfl) ?_
                  refine lv_iload hx hb dX2_exists_64 (lv_at hl 5 rfl) ?_
                  refine va_calli (va_runV (As := [.int (nI x1), .int (nI w)]) (rest := [.int (nI w), .ref (bd 2)]) ⟨hx, hb, hml, hown, hts⟩ (c_has l D _ N bd cZ (nI 0) rb x1 w (by omega)) (cwV 2 hts (goodIn_mono gX2_has) rfl rfl rfl (by decide +kernel) ⟨Nat.le_of_ble_eq_true rfl, Nat.le_of_ble_eq_true rfl⟩) ⟨wp0_blind, va_recv hK hP (ci := 2) (q0 := 0) rfl rfl, fun U hU hW => wp0_of (hP.sub [0, 1] rfl) (hK.sub [0] rfl) htb hS no_in hU hW⟩ rfl rfl hl.1 rfl (lv_room (Nat.le_of_ble_eq_true rfl)) dX2_exists_66 ⟨Nat.zero_le _, Nat.zero_le _⟩) hS (fun q _ h => h.elim) (fun q h => h.elim) (fun r_66 u_66 t H1 locs ht hvm hw hB hz1 hk1 hS => ?_)
                  have hP := xa_same hP hk1
                  clear hz1 hk1 hB ht
                  generalize H1 = H at hP hS ⊢
                  subst hw
                  refine xa_zast hx hb hK hP (md_D hao) hS 2 0 rfl rfl (w := w) (b := (rb (4096 * x1 + w))) (by omega) (by omega) dX2_exists_69 (fun H locs hP _ hS => ?_)
                  have hP : va_P D vwCl (mdW N bd cZ cI (nI 0) rb (va_up m2 w (rb (4096 * x1 + w))) pt) H := hP
                  refine xa_inc (k := 5) (lv' := [(5, .int (nI (w + 1))), (0, .ref (bd 0)), (1, .int (nI j)), (2, .int (nI x1)), (3, .int (nI i)), (4, .int (nI i2))]) hx hb dX2_exists_70 hl rfl (by decide) rfl (fun ls hl => ?_)
                  refine lv_goto (tgt := 47) hx hb dX2_exists_73 (by decide) ?_
                  exact ih_47 (w + 1) (va_up m2 w (rb (4096 * x1 + w))) _ _ _ (by omega) (by omega) (fun z hz => by by_cases hzw : z = w; (subst hzw; rw [va_up_self]; skip); (rw [va_up_ne _ _ hzw]; exact hI z (by omega))) hP hS (lv_sub hl [1, 2, 3, 4, 5, 0] rfl)
            exact lp_47 (2 ^ N + 1 - 0) 0 mb _ _ _ (by omega) (by omega) (fun z hz => absurd hz (by omega)) hP hS (lv_sub hl [1, 2, 3, 4, 5, 0] rfl)
          · refine lv_iconst (v := nI 0) hx hb dX2_exists_42 (by decide) ?_
            exact W.zret (v := (nI 0)) hx hb hr (by decide) (fun t ht hW => ⟨⟨(nI 0), (rb, mb, pt), rfl, ⟨by rw [(show spE N g k a f t1 = none from if_neg (by simp [c_9, c_16, c_24, c_33, c_39]))]; rfl, by rw [(show spE N g k a f t1 = none from if_neg (by simp [c_9, c_16, c_24, c_33, c_39]))]; exact hg⟩, (by show va_P _ _ _ _; rw [ht]; exact hP)⟩, hS.F ht⟩) hS.2.2 dX2_exists_43
