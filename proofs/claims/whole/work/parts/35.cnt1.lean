set_option maxHeartbeats 4000000 in
set_option maxRecDepth 100000 in
/-- countLevel -/
theorem c_countLevel (l : Launch) (D : va_G) (sz : Nat) (N : Nat) (hN1 : 1 ≤ N) (hN : N ≤ 12) (ad : Nat → Nat) (hao : aok (fun _ => True) ad) (cJJ cJ cI : ClassId) (dr re : Nat → Int64) (tu kd uh bf la : Nat → Int32) (G : Nat → Nat → Int64) (kv : Nat → Nat) (bl : Nat) (hbl : bl ≤ nh N) (hkd : ∀ i, i < 2 * bl → kd i = nI (kv i)) (hkv : ∀ i, i < 2 * bl → kv i < nm N) : Met l yX0_countLevel wsX0_countLevel ({ frames := 1, cells := 0, slots := 0, locals := 25 } : Room) (va_Pc [.ref (ad 5), .int (nI bl)] (wp0 D (dkW N ad cJJ cJ cI dr re tu kd uh bf la G) (dkT cJJ cJ cI) (fr ad sz) sz)) (va_Qi (fun (r : Int32) (u : (Nat → Int32) × (Nat → Int32) × (Nat → Int32) × (Nat → Int32)) => r = nI (cf (fun b => kv (2 * b)) (fun b => kv (2 * b + 1)) bl) ∧ ∀ i, i < bl → u.1 i = nI (kn (fun b => kv (2 * b)) (fun b => kv (2 * b + 1)) i)) (fun (u : (Nat → Int32) × (Nat → Int32) × (Nat → Int32) × (Nat → Int32)) t => va_P D vwCl (dkW N ad cJJ cJ cI dr re tu u.1 u.2.1 u.2.2.1 u.2.2.2 G) t.heap) (fr ad sz)) 0 0 (fr ad sz) := by
  refine Met.ofW (cc := cX0_countLevel) (maxL := 7) (ret := (some .int)) (by decide) rfl ?_
  intro p e s m args below meth c s₁ B hml hv
  obtain ⟨rfl, hsz, hP, hK, htb⟩ := hv
  have hx := B.exec
  have hb := B.bytes
  have hr := B.returns
  have hts := atoms_spec (ws := wsX0_countLevel) B.pre
  have hown : s.vm.findClass RX0 = some m.cls := findClass_of_methodNamed B.named
  have hlocks := B.notSynchronized
  subst hsz
  generalize hAe : fr ad s.heap.size = A at htb ⊢
  have hA : ∀ q : Nat, s.heap.size ≤ q → A q := fun q h => by rw [← hAe]; exact fr_new q h
  have hao : aok A ad := by rw [← hAe]; exact aok_fr hao
  obtain ⟨⟨tt, hZ, hT⟩, hNst⟩ := id htb
  have hS : va_S A s.heap s.heap [] := va_S.rf
  have hl := lv_entry ([.ref (ad 5), .int (nI bl)]) (n := 7) (Nat.le_of_ble_eq_true rfl)
  rw [lg_entry_eq]
  generalize (lg_sl ([.ref (ad 5), .int (nI bl)]) ++ List.replicate (7 - (lg_sl ([.ref (ad 5), .int (nI bl)])).length) Slot.unset).toArray = ls at hl ⊢
  have hl : lv_has ls 7 [(0, .ref (ad 5)), (1, .int (nI bl))] := hl
  have hnw := nw_le hN
  have hnwp := nw_pos N
  have hpw := pw_le N
  have hpwp := pw_pos N
  have hnp := np_le hN
  have hnh := nh_le hN1 hN
  have hnm := nm_le hN1 hN
  have hpn := np_nh hN1
  obtain ⟨lof, elof⟩ : ∃ z : Nat → Nat, z = fun b => kv (2 * b) := ⟨_, rfl⟩
  obtain ⟨upf, eupf⟩ : ∃ z : Nat → Nat, z = fun b => kv (2 * b + 1) := ⟨_, rfl⟩
  rw [← elof, ← eupf]
  refine lv_iconst (v := nI 0) hx hb dX0_countLevel_0 (by decide) ?_
  refine lv_istore_n (lv' := [(2, .int (nI 0)), (0, .ref (ad 5)), (1, .int (nI bl))]) hx hb dX0_countLevel_1 rfl hl (by decide) rfl (fun ls hl => ?_)
  refine lv_aload_n hx hb dX0_countLevel_2 rfl (lv_at hl 1 rfl) ?_
  refine va_get (D := D) (ci := 0) (C := RX0) (T := TX0) (N := 5) hx hb hts (by decide +kernel) hown hK hP 5 rfl rfl 4 (by decide) (hts (.fieldLink RX0 31 "ForkDesk$ForkCounter" "latest" "[I") (by decide +kernel)) (fun _ h9 => h9) rfl dX0_countLevel_3 ?_
  refine lv_iconst (v := (-1)) hx hb dX0_countLevel_6 (by decide) ?_
  refine va_callv (va_runS (As := [.ref (ad 9), .int (-1)]) (rest := []) ⟨hx, hb, hml, hown, hts⟩ (c_fillI l D _ (ad 9) cI (nm N) la (-1) (by omega)) (va_cwS 2 hts gX0_countLevel_J7_fill_53178 rfl rfl rfl (by decide +kernel) ⟨Nat.le_of_ble_eq_true rfl, Nat.le_of_ble_eq_true rfl⟩) ⟨wp0_blind, fun U hU hW => wp0_of (va_one hP 9 rfl) (hK.sub [2] rfl) htb hS (one_in (hao.2 9 (by omega))) hU hW⟩ rfl rfl hl.1 rfl (lv_room (Nat.le_of_ble_eq_true rfl)) dX0_countLevel_7 ⟨Nat.zero_le _, Nat.zero_le _⟩) hS (fun q _ h => (one_in (hao.2 9 (by omega))) q h) ((one_in (hao.2 9 (by omega)))) (fun u_7 t H1 locs ht hvm hw hB hz1 hk1 hS => ?_)
  rw [ht] at hB
  have hP := va_put1 hP (dk_D hao) 9 rfl hk1 hB
  clear hz1 hk1 hB ht
  generalize H1 = H at hP hS ⊢
  have hP : va_P D vwCl (dkW N ad cJJ cJ cI dr re tu kd uh bf u_7 G) H := hP
  refine lv_iconst (v := nI 0) hx hb dX0_countLevel_10 (by decide) ?_
  refine lv_istore_n (lv' := [(3, .int (nI 0)), (2, .int (nI 0)), (0, .ref (ad 5)), (1, .int (nI bl))]) hx hb dX0_countLevel_11 rfl hl (by decide) rfl (fun ls hl => ?_)
  have hfk0 := fk_0 lof upf (nm N) uh bf u_7 (fun x hx => hw x hx)
  have lp_12 : ∀ (n9 b : Nat) (k2 : Nat → Int32) (uh2 : Nat → Int32) (bf2 : Nat → Int32) (la2 : Nat → Int32) (fo : Nat) (H : Heap) (locs : List Loc) (ls : Array Slot), b ≤ bl → bl + 1 ≤ b + n9 → fo = cf lof upf b → fk lof upf (nm N) b uh2 bf2 la2 → (∀ i, i < b → k2 i = nI (kn lof upf i)) → (∀ i, b ≤ i → i < 2 * bl → k2 i = nI (kv i)) → va_P D vwCl (dkW N ad cJJ cJ cI dr re tu k2 uh2 bf2 la2 G) H → va_S A s.heap H locs → lv_has ls 7 [(0, .ref (ad 5)), (1, .int (nI bl)), (2, .int (nI fo)), (3, .int (nI b))] → W p l e (headSpec wsX0_countLevel ({ frames := 1, cells := 0, slots := 0, locals := 25 } : Room)).room s m ([.ref (ad 5), .int (nI bl)] : List Value).toArray below meth c H locs 0 0 (MQ below (va_Qi (fun (r : Int32) (u : (Nat → Int32) × (Nat → Int32) × (Nat → Int32) × (Nat → Int32)) => r = nI (cf lof upf bl) ∧ ∀ i, i < bl → u.1 i = nI (kn lof upf i)) (fun (u : (Nat → Int32) × (Nat → Int32) × (Nat → Int32) × (Nat → Int32)) t => va_P D vwCl (dkW N ad cJJ cJ cI dr re tu u.1 u.2.1 u.2.2.1 u.2.2.2 G) t.heap) A) ([.ref (ad 5), .int (nI bl)] : List Value).toArray s 0 0 A) (F0 m 12 ls []) := by
    intro n9
    induction n9 with
    | zero => intro b k2 uh2 bf2 la2 fo H locs ls h1 h2; exact absurd h2 (by omega)
    | succ n9 ih =>
      intro b k2 uh2 bf2 la2 fo H locs ls hle_12 hmm_12 hfo hfk hq1 hq2 hP hS hl
      have hcf := cf_le lof upf b
      have ih_12 := @ih
      refine lv_iload_n hx hb dX0_countLevel_12 rfl (lv_at hl 3 rfl) ?_
      refine lv_iload_n hx hb dX0_countLevel_13 rfl (lv_at hl 1 rfl) ?_
      refine xa_ge (tgt := 80) hx hb (by omega) (by omega) dX0_countLevel_14 (by decide) (fun c_14 => ?_) (fun c_14 => ?_)
      · refine lv_iload_n hx hb dX0_countLevel_80 rfl (lv_at hl 2 rfl) ?_
        exact W.iret (v := (nI fo)) hx hb hr (fun t ht hW => ⟨⟨(nI fo), (k2, uh2, bf2, la2), rfl, ⟨by rw [hfo, show b = bl by omega], fun i hi => hq1 i (by omega)⟩, (by show va_P _ _ _ _; rw [ht]; exact hP)⟩, hS.F ht⟩) hS.2.2 dX0_countLevel_81
      · refine lv_aload_n hx hb dX0_countLevel_17 rfl (lv_at hl 0 rfl) ?_
        refine va_get (D := D) (ci := 0) (C := RX0) (T := TX0) (N := 5) hx hb hts (by decide +kernel) hown hK hP 5 rfl rfl 1 (by decide) (hts (.fieldLink RX0 15 "ForkDesk$ForkCounter" "kinds" "[I") (by decide +kernel)) (fun _ h9 => h9) rfl dX0_countLevel_18 ?_
        refine lv_iconst (v := nI 2) hx hb dX0_countLevel_21 (by decide) ?_
        refine lv_iload_n hx hb dX0_countLevel_22 rfl (lv_at hl 3 rfl) ?_
        refine xa_imul hx hb dX0_countLevel_23 ?_
        refine xa_iald hx hb hK hP 6 2 rfl rfl (w := 2 * b) (by omega) (by omega) dX0_countLevel_24 ?_
        rw [hq2 (2 * b) (by omega) (by omega), show kv (2 * b) = lof b by rw [elof]]
        refine lv_istore (lv' := [(4, .int (nI (lof b))), (0, .ref (ad 5)), (1, .int (nI bl)), (2, .int (nI fo)), (3, .int (nI b))]) hx hb dX0_countLevel_25 hl (by decide) rfl (fun ls hl => ?_)
        refine lv_aload_n hx hb dX0_countLevel_27 rfl (lv_at hl 1 rfl) ?_
        refine va_get (D := D) (ci := 0) (C := RX0) (T := TX0) (N := 5) hx hb hts (by decide +kernel) hown hK hP 5 rfl rfl 1 (by decide) (hts (.fieldLink RX0 15 "ForkDesk$ForkCounter" "kinds" "[I") (by decide +kernel)) (fun _ h9 => h9) rfl dX0_countLevel_28 ?_
        refine lv_iconst (v := nI 2) hx hb dX0_countLevel_31 (by decide) ?_
        refine lv_iload_n hx hb dX0_countLevel_32 rfl (lv_at hl 4 rfl) ?_
        refine xa_imul hx hb dX0_countLevel_33 ?_
        refine lv_iconst (v := nI 1) hx hb dX0_countLevel_34 (by decide) ?_
        refine xa_iadd hx hb dX0_countLevel_35 ?_
        refine xa_iald hx hb hK hP 6 2 rfl rfl (w := (2 * b) + 1) (by omega) (by omega) dX0_countLevel_36 ?_
        rw [hq2 (2 * b + 1) (by omega) (by omega), show kv (2 * b + 1) = upf b by rw [eupf]]
        have hlob : lof b < nm N := by rw [elof]; exact hkv _ (by omega)
        have hupz : ∀ z, z ≤ b → upf z < nm N := fun z hz => by rw [eupf]; exact hkv _ (by omega)
        have hupb := hupz b (Nat.le_refl b)
        refine lv_istore (lv' := [(5, .int (nI (upf b))), (4, .int (nI (lof b))), (0, .ref (ad 5)), (1, .int (nI bl)), (2, .int (nI fo)), (3, .int (nI b))]) hx hb dX0_countLevel_37 hl (by decide) rfl (fun ls hl => ?_)
        refine lv_aload_n hx hb dX0_countLevel_39 rfl (lv_at hl 2 rfl) ?_
        refine lv_iload_n hx hb dX0_countLevel_40 rfl (lv_at hl 5 rfl) ?_
        refine lv_iload hx hb dX0_countLevel_41 (lv_at hl 1 rfl) ?_
        refine lv_iload hx hb dX0_countLevel_43 (lv_at hl 0 rfl) ?_
        refine va_calli (va_runV (As := [.int (nI b), .int (nI (lof b)), .int (nI (upf b))]) (rest := []) ⟨hx, hb, hml, hown, hts⟩ (c_kindOf l D _ N hN1 hN ad (aok_true hao) cJJ cJ cI dr re tu k2 uh2 bf2 la2 G lof upf b (by omega) hlob (fun z hz => by have := hupz z hz; omega) hfk) (cwV 3 hts gX0_countLevel_X0_kindOf rfl rfl rfl (by decide +kernel) ⟨Nat.le_of_ble_eq_true rfl, Nat.le_of_ble_eq_true rfl⟩) ⟨wp0_blind, va_recv hK hP (ci := 0) (q0 := 5) rfl rfl, fun U hU hW => wp0_of hP hK htb hS (fr_in hao hS hA) hU hW⟩ rfl rfl hl.1 rfl (lv_room (Nat.le_of_ble_eq_true rfl)) dX0_countLevel_45 ⟨Nat.zero_le _, Nat.zero_le _⟩) hS (fun q _ h => (fr_in hao hS hA) q h) ((fr_in hao hS hA)) (fun r_45 u_45 t H1 locs ht hvm hw hB hz1 hk1 hS => ?_)
        rw [ht] at hB
        have hP := hB
        clear hz1 ht
        generalize H1 = H at hP hS ⊢
        rw [hw.1]
        have hkn := kn_le lof upf b
        refine lv_istore (lv' := [(6, .int (nI (kn lof upf b))), (5, .int (nI (upf b))), (4, .int (nI (lof b))), (0, .ref (ad 5)), (1, .int (nI bl)), (2, .int (nI fo)), (3, .int (nI b))]) hx hb dX0_countLevel_48 hl (by decide) rfl (fun ls hl => ?_)
        refine lv_iload hx hb dX0_countLevel_50 (lv_at hl 0 rfl) ?_
        refine lv_iload_n hx hb dX0_countLevel_52 rfl (lv_at hl 6 rfl) ?_
        refine xa_ne (tgt := 66) hx hb (by omega) (by omega) dX0_countLevel_53 (by decide) (fun c_53 => ?_) (fun c_53 => ?_)
        · refine lv_aload_n hx hb dX0_countLevel_66 rfl (lv_at hl 3 rfl) ?_
          refine va_get (D := D) (ci := 0) (C := RX0) (T := TX0) (N := 5) hx hb hts (by decide +kernel) hown hK hP 5 rfl rfl 1 (by decide) (hts (.fieldLink RX0 15 "ForkDesk$ForkCounter" "kinds" "[I") (by decide +kernel)) (fun _ h9 => h9) rfl dX0_countLevel_67 ?_
          refine lv_iload_n hx hb dX0_countLevel_70 rfl (lv_at hl 6 rfl) ?_
          refine lv_iload hx hb dX0_countLevel_71 (lv_at hl 0 rfl) ?_
          refine xa_iast hx hb hK hP (dk_D hao) hS 6 2 rfl rfl (w := b) (by omega) (by omega) dX0_countLevel_73 (fun H locs hP _ hS => ?_)
          have hP : va_P D vwCl (dkW N ad cJJ cJ cI dr re tu (upd k2 b (nI (kn lof upf b))) u_45.1 u_45.2.1 u_45.2.2 G) H := hP
          refine xa_inc (k := 6) (lv' := [(3, .int (nI (b + 1))), (6, .int (nI (kn lof upf b))), (5, .int (nI (upf b))), (4, .int (nI (lof b))), (0, .ref (ad 5)), (1, .int (nI bl)), (2, .int (nI fo))]) hx hb dX0_countLevel_74 hl rfl (by decide) rfl (fun ls hl => ?_)
          refine lv_goto (tgt := 12) hx hb dX0_countLevel_77 (by decide) ?_
          exact ih_12 (b + 1) (upd k2 b (nI (kn lof upf b))) u_45.1 u_45.2.1 u_45.2.2 fo _ _ _ (by omega) (by omega) (by rw [hfo, cf_s, show (fi lof upf b && !decide (lof b = upf b)) = false by first | rw [kn_fi.mp c_53, decide_eq_false c_60]; rfl | (rw [kn_no c_53]; rfl) | (rw [decide_eq_true c_60]; simp)]; rfl) hw.2 (fun i hi => by by_cases hib : i = b; (subst hib; rw [pk_us]); (rw [pk_un hib]; exact hq1 i (by omega))) (fun i h1 h2 => by rw [pk_un (by omega)]; exact hq2 i (by omega) h2) hP hS (lv_sub hl [4, 5, 6, 0] rfl)
        · refine lv_iload hx hb dX0_countLevel_56 (lv_at hl 2 rfl) ?_
          refine lv_iload hx hb dX0_countLevel_58 (lv_at hl 1 rfl) ?_
          refine xa_eq (tgt := 66) hx hb (by omega) (by omega) dX0_countLevel_60 (by decide) (fun c_60 => ?_) (fun c_60 => ?_)
          · refine lv_aload_n hx hb dX0_countLevel_66 rfl (lv_at hl 3 rfl) ?_
            refine va_get (D := D) (ci := 0) (C := RX0) (T := TX0) (N := 5) hx hb hts (by decide +kernel) hown hK hP 5 rfl rfl 1 (by decide) (hts (.fieldLink RX0 15 "ForkDesk$ForkCounter" "kinds" "[I") (by decide +kernel)) (fun _ h9 => h9) rfl dX0_countLevel_67 ?_
            refine lv_iload_n hx hb dX0_countLevel_70 rfl (lv_at hl 6 rfl) ?_
            refine lv_iload hx hb dX0_countLevel_71 (lv_at hl 0 rfl) ?_
            refine xa_iast hx hb hK hP (dk_D hao) hS 6 2 rfl rfl (w := b) (by omega) (by omega) dX0_countLevel_73 (fun H locs hP _ hS => ?_)
            have hP : va_P D vwCl (dkW N ad cJJ cJ cI dr re tu (upd k2 b (nI (kn lof upf b))) u_45.1 u_45.2.1 u_45.2.2 G) H := hP
            refine xa_inc (k := 6) (lv' := [(3, .int (nI (b + 1))), (6, .int (nI (kn lof upf b))), (5, .int (nI (upf b))), (4, .int (nI (lof b))), (0, .ref (ad 5)), (1, .int (nI bl)), (2, .int (nI fo))]) hx hb dX0_countLevel_74 hl rfl (by decide) rfl (fun ls hl => ?_)
            refine lv_goto (tgt := 12) hx hb dX0_countLevel_77 (by decide) ?_
            exact ih_12 (b + 1) (upd k2 b (nI (kn lof upf b))) u_45.1 u_45.2.1 u_45.2.2 fo _ _ _ (by omega) (by omega) (by rw [hfo, cf_s, show (fi lof upf b && !decide (lof b = upf b)) = false by first | rw [kn_fi.mp c_53, decide_eq_false c_60]; rfl | (rw [kn_no c_53]; rfl) | (rw [decide_eq_true c_60]; simp)]; rfl) hw.2 (fun i hi => by by_cases hib : i = b; (subst hib; rw [pk_us]); (rw [pk_un hib]; exact hq1 i (by omega))) (fun i h1 h2 => by rw [pk_un (by omega)]; exact hq2 i (by omega) h2) hP hS (lv_sub hl [4, 5, 6, 0] rfl)
          · refine xa_inc (k := 5) (lv' := [(2, .int (nI (fo + 1))), (6, .int (nI (kn lof upf b))), (5, .int (nI (upf b))), (4, .int (nI (lof b))), (0, .ref (ad 5)), (1, .int (nI bl)), (3, .int (nI b))]) hx hb dX0_countLevel_63 hl rfl (by decide) rfl (fun ls hl => ?_)
            refine lv_aload_n hx hb dX0_countLevel_66 rfl (lv_at hl 4 rfl) ?_
            refine va_get (D := D) (ci := 0) (C := RX0) (T := TX0) (N := 5) hx hb hts (by decide +kernel) hown hK hP 5 rfl rfl 1 (by decide) (hts (.fieldLink RX0 15 "ForkDesk$ForkCounter" "kinds" "[I") (by decide +kernel)) (fun _ h9 => h9) rfl dX0_countLevel_67 ?_
            refine lv_iload_n hx hb dX0_countLevel_70 rfl (lv_at hl 6 rfl) ?_
            refine lv_iload hx hb dX0_countLevel_71 (lv_at hl 1 rfl) ?_
            refine xa_iast hx hb hK hP (dk_D hao) hS 6 2 rfl rfl (w := b) (by omega) (by omega) dX0_countLevel_73 (fun H locs hP _ hS => ?_)
            have hP : va_P D vwCl (dkW N ad cJJ cJ cI dr re tu (upd k2 b (nI (kn lof upf b))) u_45.1 u_45.2.1 u_45.2.2 G) H := hP
            refine xa_inc (k := 6) (lv' := [(3, .int (nI (b + 1))), (2, .int (nI (fo + 1))), (6, .int (nI (kn lof upf b))), (5, .int (nI (upf b))), (4, .int (nI (lof b))), (0, .ref (ad 5)), (1, .int (nI bl))]) hx hb dX0_countLevel_74 hl rfl (by decide) rfl (fun ls hl => ?_)
            refine lv_goto (tgt := 12) hx hb dX0_countLevel_77 (by decide) ?_
            exact ih_12 (b + 1) (upd k2 b (nI (kn lof upf b))) u_45.1 u_45.2.1 u_45.2.2 (fo + 1) _ _ _ (by omega) (by omega) (by rw [hfo, cf_s, show (fi lof upf b && !decide (lof b = upf b)) = true by first | rw [kn_fi.mp c_53, decide_eq_false c_60]; rfl | (rw [kn_no c_53]; rfl) | (rw [decide_eq_true c_60]; simp)]; rfl) hw.2 (fun i hi => by by_cases hib : i = b; (subst hib; rw [pk_us]); (rw [pk_un hib]; exact hq1 i (by omega))) (fun i h1 h2 => by rw [pk_un (by omega)]; exact hq2 i (by omega) h2) hP hS (lv_sub hl [5, 6, 1, 0] rfl)
  exact lp_12 (bl + 1 - 0) 0 kd uh bf u_7 0 _ _ _ (by omega) (by omega) rfl hfk0 (fun i hi => absurd hi (by omega)) (fun i _ hi => hkd i hi) hP hS (lv_sub hl [2, 3, 1, 0] rfl)
