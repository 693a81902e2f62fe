set_option maxHeartbeats 4000000 in
set_option maxRecDepth 100000 in
/-- the reference: least -/
theorem c_mLeast (l : Launch) (D : va_G) (sz : Nat) (N : Nat) (hN1 : 1 ≤ N) (hN : N ≤ 12) (bd : Nat → Nat) (hao : aok4 (fun _ => True) bd) (cZ cI : ClassId) (th : Int32) (rb mb : Nat → Bool) (pt : Nat → Int32) (g : Nat → Nat → Bool) (hg : okM N rb g) (k : Int32) : Met l yX2_least wsX2_least ({ frames := 1, cells := 0, slots := 0, locals := 22 } : Room) (va_Pc [.ref (bd 0), .int k] (wp0 D (mdW N bd cZ cI th rb mb pt) (mdT cZ cI) (fr4 bd sz) sz)) (va_Qi (fun (r : Int32) (u : (Nat → Bool) × (Nat → Bool) × (Nat → Int32)) => r = sLe N g k ∧ okM N u.1 g) (fun (u : (Nat → Bool) × (Nat → Bool) × (Nat → Int32)) t => va_P D vwCl (mdW N bd cZ cI (nI 0) u.1 u.2.1 u.2.2) t.heap) (fr4 bd sz)) 0 0 (fr4 bd sz) := by
  refine Met.ofW (cc := cX2_least) (maxL := 3) (ret := (some .int)) (by decide) rfl ?_
  intro p e s m args below meth c s₁ B hml hv
  obtain ⟨rfl, hsz, hP, hK, htb⟩ := hv
  have hx := B.exec
  have hb := B.bytes
  have hr := B.returns
  have hts := atoms_spec (ws := wsX2_least) B.pre
  have hown : s.vm.findClass RX2 = some m.cls := findClass_of_methodNamed B.named
  have hlocks := B.notSynchronized
  subst hsz
  generalize hAe : fr4 bd s.heap.size = A at htb ⊢
  have hA : ∀ q : Nat, s.heap.size ≤ q → A q := fun q h => by rw [← hAe]; exact fr4_new q h
  have hao : aok4 A bd := by rw [← hAe]; exact aok4_fr hao
  obtain ⟨⟨tt, hZ, hT⟩, hNst⟩ := id htb
  have hS : va_S A s.heap s.heap [] := va_S.rf
  have hl := lv_entry ([.ref (bd 0), .int k]) (n := 3) (Nat.le_of_ble_eq_true rfl)
  rw [lg_entry_eq]
  generalize (lg_sl ([.ref (bd 0), .int k]) ++ List.replicate (3 - (lg_sl ([.ref (bd 0), .int k])).length) Slot.unset).toArray = ls at hl ⊢
  have hl : lv_has ls 3 [(0, .ref (bd 0)), (1, .int k)] := hl
  have hnp := np_le hN
  have hnp0 : 0 < 2 ^ N := Nat.two_pow_pos N
  refine lv_aload_n hx hb dX2_least_0 rfl (lv_at hl 0 rfl) ?_
  refine lv_iconst (v := nI 0) hx hb dX2_least_1 (by decide) ?_
  refine va_put (D := D) (ci := 2) (v := .int (nI 0)) (ty := .int) (C := RX2) (T := TX2) (N := 6) hx hb hts (fun w h => List.mem_cons_of_mem _ (inBX2 w h)) tyX2 tyX2_ok nmX2 hown hK hP (md_D hao) hS 0 rfl rfl 0 (by decide) (hts (.fieldLink RX2 28 "ForkDeskModel" "thrown" "I") (by decide +kernel)) (fun _ h9 => h9) rfl (by decide +kernel) rfl rfl (Nat.le_of_ble_eq_true rfl) dX2_least_2 (fun H locs hP _ hS => ?_)
  have hP : va_P D vwCl (mdW N bd cZ cI (nI 0) rb mb pt) H := hP
  refine lv_iconst (v := nI 0) hx hb dX2_least_5 (by decide) ?_
  refine lv_istore_n (lv' := [(2, .int (nI 0)), (0, .ref (bd 0)), (1, .int k)]) hx hb dX2_least_6 rfl hl (by decide) rfl (fun ls hl => ?_)
  have lp_7 : ∀ (n9 w : Nat) (H : Heap) (locs : List Loc) (ls : Array Slot), w ≤ 2 ^ N → 2 ^ N + 1 ≤ w + n9 → (∀ z, z < w → isR k = true ∧ rb (4096 * ix k + z) = false) → va_P D vwCl (mdW N bd cZ cI (nI 0) rb mb pt) H → va_S A s.heap H locs → lv_has ls 3 [(0, .ref (bd 0)), (1, .int k), (2, .int (nI w))] → W p l e (headSpec wsX2_least ({ frames := 1, cells := 0, slots := 0, locals := 22 } : Room)).room s m ([.ref (bd 0), .int k] : List Value).toArray below meth c H locs 0 0 (MQ below (va_Qi (fun (r : Int32) (u : (Nat → Bool) × (Nat → Bool) × (Nat → Int32)) => r = sLe N g k ∧ okM N u.1 g) (fun (u : (Nat → Bool) × (Nat → Bool) × (Nat → Int32)) t => va_P D vwCl (mdW N bd cZ cI (nI 0) u.1 u.2.1 u.2.2) t.heap) A) ([.ref (bd 0), .int k] : List Value).toArray s 0 0 A) (F0 m 7 ls []) := by
    intro n9
    induction n9 with
    | zero => intro w  H locs ls h1 h2; exact absurd h2 (by omega)
    | succ n9 ih =>
      intro w  H locs ls hle_7 hmm_7 hI hP hS hl
      have ih_7 := @ih
      refine lv_iload_n hx hb dX2_least_7 rfl (lv_at hl 2 rfl) ?_
      refine lv_aload_n hx hb dX2_least_8 rfl (lv_at hl 0 rfl) ?_
      refine va_get (D := D) (ci := 2) (C := RX2) (T := TX2) (N := 6) hx hb hts (fun w h => List.mem_cons_of_mem _ (inBX2 w h)) hown hK hP 0 rfl rfl 2 (by decide) (hts (.fieldLink RX2 25 "ForkDeskModel" "points" "I") (by decide +kernel)) (fun _ h9 => h9) rfl dX2_least_9 ?_
      refine xa_ge (tgt := 39) hx hb (by omega) (by omega) dX2_least_12 (by decide) (fun c_12 => ?_) (fun c_12 => ?_)
      · refine lv_iconst (v := (-1)) hx hb dX2_least_39 (by decide) ?_
        exact W.iret (v := (-1)) hx hb hr (fun t ht hW => ⟨⟨(-1), (rb, mb, pt), rfl, ⟨sle_end hN hg (by omega) hI, hg⟩, (by show va_P _ _ _ _; rw [ht]; exact hP)⟩, hS.F ht⟩) hS.2.2 dX2_least_40
      · refine lv_iload_n hx hb dX2_least_15 rfl (lv_at hl 1 rfl) ?_
        refine va_calli (va_runS (As := [.int k]) (rest := []) ⟨hx, hb, hml, hown, hts⟩ (c_isRow l D _ k) (va_cwS 1 hts (goodIn_mono gX2_isRow) rfl rfl rfl (by decide +kernel) ⟨Nat.le_of_ble_eq_true rfl, Nat.le_of_ble_eq_true rfl⟩) ⟨wp0_blind, fun U hU hW => wp0_of (va_P.sub hP [] rfl) (hK.sub [] rfl) htb hS no_in hU hW⟩ rfl rfl hl.1 rfl (lv_room (Nat.le_of_ble_eq_true rfl)) dX2_least_16 ⟨Nat.zero_le _, Nat.zero_le _⟩) hS (fun q _ h => h.elim) (fun q h => h.elim) (fun r_16 u_16 t H1 locs ht hvm hw hB hz1 hk1 hS => ?_)
        have hP := xa_same hP hk1
        clear hz1 hk1 hB ht
        generalize H1 = H at hP hS ⊢
        subst hw
        refine xa_if0 (tgt := 39) hx hb dX2_least_19 (by decide) (fun c_19 => ?_) (fun c_19 => ?_)
        · refine lv_iconst (v := (-1)) hx hb dX2_least_39 (by decide) ?_
          exact W.iret (v := (-1)) hx hb hr (fun t ht hW => ⟨⟨(-1), (rb, mb, pt), rfl, ⟨by unfold sLe; rw [c_19]; rfl, hg⟩, (by show va_P _ _ _ _; rw [ht]; exact hP)⟩, hS.F ht⟩) hS.2.2 dX2_least_40
        · obtain ⟨j, hj, ej⟩ := isR_t c_19
          have hlk := hl
          rw [ej] at hl
          refine lv_aload_n hx hb dX2_least_22 rfl (lv_at hl 0 rfl) ?_
          refine lv_iload_n hx hb dX2_least_23 rfl (lv_at hl 1 rfl) ?_
          refine lv_iload_n hx hb dX2_least_24 rfl (lv_at hl 2 rfl) ?_
          refine va_calli (va_runV (As := [.int (nI j), .int (nI w)]) (rest := []) ⟨hx, hb, hml, hown, hts⟩ (c_has l D _ N bd cZ (nI 0) rb j w (by omega)) (cwV 2 hts (goodIn_mono gX2_has) rfl rfl rfl (by decide +kernel) ⟨Nat.le_of_ble_eq_true rfl, Nat.le_of_ble_eq_true rfl⟩) ⟨wp0_blind, va_recv hK hP (ci := 2) (q0 := 0) rfl rfl, fun U hU hW => wp0_of (hP.sub [0, 1] rfl) (hK.sub [0] rfl) htb hS no_in hU hW⟩ rfl rfl hl.1 rfl (lv_room (Nat.le_of_ble_eq_true rfl)) dX2_least_25 ⟨Nat.zero_le _, Nat.zero_le _⟩) hS (fun q _ h => h.elim) (fun q h => h.elim) (fun r_25 u_25 t H1 locs ht hvm hw hB hz1 hk1 hS => ?_)
          have hP := xa_same hP hk1
          clear hz1 hk1 hB ht
          generalize H1 = H at hP hS ⊢
          subst hw
          refine xa_if0 (tgt := 33) hx hb dX2_least_28 (by decide) (fun c_28 => ?_) (fun c_28 => ?_)
          · rw [← ej] at hl
            refine xa_inc (k := 2) (lv' := [(2, .int (nI (w + 1))), (0, .ref (bd 0)), (1, .int k)]) hx hb dX2_least_33 hl rfl (by decide) rfl (fun ls hl => ?_)
            refine lv_goto (tgt := 7) hx hb dX2_least_36 (by decide) ?_
            exact ih_7 (w + 1)  _ _ _ (by omega) (by omega) (fun z hz => by by_cases hzw : z = w; (subst hzw; exact ⟨c_19, by rw [ej, ix_nI (by omega)]; exact c_28⟩); (exact hI z (by omega))) hP hS (lv_sub hl [1, 2, 0] rfl)
          · refine lv_iload_n hx hb dX2_least_31 rfl (lv_at hl 2 rfl) ?_
            exact W.iret (v := (nI w)) hx hb hr (fun t ht hW => ⟨⟨(nI w), (rb, mb, pt), rfl, ⟨by unfold sLe; rw [if_pos c_19, ej, ix_nI (by omega), lq_some (show g j w = true by rw [← hg j w hj c_12]; exact c_28) (fun q hq => by rw [← hg j q hj (by omega)]; have := (hI q hq).2; rw [ej, ix_nI (by omega)] at this; exact this) c_12]; rfl, hg⟩, (by show va_P _ _ _ _; rw [ht]; exact hP)⟩, hS.F ht⟩) hS.2.2 dX2_least_32
  exact lp_7 (2 ^ N + 1 - 0) 0  _ _ _ (by omega) (by omega) (fun z hz => absurd hz (by omega)) hP hS (lv_sub hl [1, 2, 0] rfl)
