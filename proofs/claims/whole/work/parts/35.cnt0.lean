set_option maxHeartbeats 4000000 in
set_option maxRecDepth 100000 in
/-- kindOf -/
theorem c_kindOf (l : Launch) (D : va_G) (sz : Nat) (N : Nat) (hN1 : 1 ≤ N) (hN : N ≤ 12) (ad : Nat → Nat) (hao : aok (fun _ => True) ad) (cJJ cJ cI : ClassId) (dr re : Nat → Int64) (tu kd uh bf la : Nat → Int32) (G : Nat → Nat → Int64) (lof upf : Nat → Nat) (b : Nat) (hb1 : b < nh N) (hlo : lof b < nm N) (hup : ∀ z, z ≤ b → upf z < 2 ^ 31) (hfk : fk lof upf (nm N) b uh bf la) : Met l yX0_kindOf wsX0_kindOf ({ frames := 0, cells := 0, slots := 0, locals := 0 } : Room) (va_Pc [.ref (ad 5), .int (nI b), .int (nI (lof b)), .int (nI (upf b))] (wp0 D (dkW N ad cJJ cJ cI dr re tu kd uh bf la G) (dkT cJJ cJ cI) (fr ad sz) sz)) (va_Qi (fun (r : Int32) (u : (Nat → Int32) × (Nat → Int32) × (Nat → Int32)) => r = nI (kn lof upf b) ∧ fk lof upf (nm N) (b + 1) u.1 u.2.1 u.2.2) (fun (u : (Nat → Int32) × (Nat → Int32) × (Nat → Int32)) t => va_P D vwCl (dkW N ad cJJ cJ cI dr re tu kd u.1 u.2.1 u.2.2 G) t.heap) (fr ad sz)) 0 0 (fr ad sz) := by
  refine Met.ofW (cc := cX0_kindOf) (maxL := 6) (ret := (some .int)) (by decide) rfl ?_
  intro p e s m args below meth c s₁ B hml hv
  obtain ⟨rfl, hsz, hP, hK, htb⟩ := hv
  have hx := B.exec
  have hb := B.bytes
  have hr := B.returns
  have hts := atoms_spec (ws := wsX0_kindOf) B.pre
  have hown : s.vm.findClass RX0 = some m.cls := findClass_of_methodNamed B.named
  have hlocks := B.notSynchronized
  subst hsz
  generalize hAe : fr ad s.heap.size = A at htb ⊢
  have hA : ∀ q : Nat, s.heap.size ≤ q → A q := fun q h => by rw [← hAe]; exact fr_new q h
  have hao : aok A ad := by rw [← hAe]; exact aok_fr hao
  obtain ⟨⟨tt, hZ, hT⟩, hNst⟩ := id htb
  have hS : va_S A s.heap s.heap [] := va_S.rf
  have hl := lv_entry ([.ref (ad 5), .int (nI b), .int (nI (lof b)), .int (nI (upf b))]) (n := 6) (Nat.le_of_ble_eq_true rfl)
  rw [lg_entry_eq]
  generalize (lg_sl ([.ref (ad 5), .int (nI b), .int (nI (lof b)), .int (nI (upf b))]) ++ List.replicate (6 - (lg_sl ([.ref (ad 5), .int (nI b), .int (nI (lof b)), .int (nI (upf b))])).length) Slot.unset).toArray = ls at hl ⊢
  have hl : lv_has ls 6 [(0, .ref (ad 5)), (1, .int (nI b)), (2, .int (nI (lof b))), (3, .int (nI (upf b)))] := hl
  have hnw := nw_le hN
  have hnwp := nw_pos N
  have hpw := pw_le N
  have hpwp := pw_pos N
  have hnp := np_le hN
  have hnh := nh_le hN1 hN
  have hnm := nm_le hN1 hN
  refine lv_aload_n hx hb dX0_kindOf_0 rfl (lv_at hl 0 rfl) ?_
  refine va_get (D := D) (ci := 0) (C := RX0) (T := TX0) (N := 5) hx hb hts (by decide +kernel) hown hK hP 5 rfl rfl 4 (by decide) (hts (.fieldLink RX0 31 "ForkDesk$ForkCounter" "latest" "[I") (by decide +kernel)) (fun _ h9 => h9) rfl dX0_kindOf_1 ?_
  refine lv_iload_n hx hb dX0_kindOf_4 rfl (lv_at hl 2 rfl) ?_
  refine xa_iald hx hb hK hP 9 2 rfl rfl (w := lof b) (by omega) (by omega) dX0_kindOf_5 ?_
  rw [hfk.1 _ hlo]
  refine lv_istore (lv' := [(4, .int (en (pv lof upf (lof b) b))), (0, .ref (ad 5)), (1, .int (nI b)), (2, .int (nI (lof b))), (3, .int (nI (upf b)))]) hx hb dX0_kindOf_6 hl (by decide) rfl (fun ls hl => ?_)
  refine lv_iload_n hx hb dX0_kindOf_8 rfl (lv_at hl 2 rfl) ?_
  refine lv_istore (lv' := [(5, .int (nI b)), (4, .int (en (pv lof upf (lof b) b))), (0, .ref (ad 5)), (1, .int (nI b)), (2, .int (nI (lof b))), (3, .int (nI (upf b)))]) hx hb dX0_kindOf_9 hl (by decide) rfl (fun ls hl => ?_)
  have lp_11 : ∀ (n9 : Nat) (left : Nat) (mm : Nat) (H : Heap) (locs : List Loc) (ls : Array Slot), (left < n9) → (mm ≤ left) → (left ≤ b) → (nb lof upf (lof b) (upf b) b mm) → va_P D vwCl (dkW N ad cJJ cJ cI dr re tu kd uh bf la G) H → va_S A s.heap H locs → lv_has ls 6 [(0, .ref (ad 5)), (1, .int (nI b)), (2, .int (nI (lof b))), (3, .int (nI (upf b))), (4, .int (en (pv lof upf (lof b) mm))), (5, .int (nI left))] → W p l e (headSpec wsX0_kindOf ({ frames := 0, cells := 0, slots := 0, locals := 0 } : Room)).room s m ([.ref (ad 5), .int (nI b), .int (nI (lof b)), .int (nI (upf b))] : List Value).toArray below meth c H locs 0 0 (MQ below (va_Qi (fun (r : Int32) (u : (Nat → Int32) × (Nat → Int32) × (Nat → Int32)) => r = nI (kn lof upf b) ∧ fk lof upf (nm N) (b + 1) u.1 u.2.1 u.2.2) (fun (u : (Nat → Int32) × (Nat → Int32) × (Nat → Int32)) t => va_P D vwCl (dkW N ad cJJ cJ cI dr re tu kd u.1 u.2.1 u.2.2 G) t.heap) A) ([.ref (ad 5), .int (nI b), .int (nI (lof b)), .int (nI (upf b))] : List Value).toArray s 0 0 A) (F0 m 11 ls []) := by
    intro n9
    induction n9 with
    | zero => intro left mm H locs ls h0; exact absurd h0 (by omega)
    | succ n9 ih =>
      intro left mm H locs ls hn hml hlb hnb hP hS hl
      have ih_11 := @ih
      refine lv_iload hx hb dX0_kindOf_11 (lv_at hl 5 rfl) ?_
      refine lv_if_le (tgt := 51) hx hb dX0_kindOf_13 (by decide) (fun c_13 => ?_) (fun c_13 => ?_)
      · have hl0 : left = 0 := nI_z (by omega) c_13
        have hks : ks lof upf (lof b) (upf b) b = none := nb_end hnb (by rw [show mm = 0 by omega]; rfl)
        refine lv_aload_n hx hb dX0_kindOf_51 rfl (lv_at hl 0 rfl) ?_
        refine va_get (D := D) (ci := 0) (C := RX0) (T := TX0) (N := 5) hx hb hts (by decide +kernel) hown hK hP 5 rfl rfl 2 (by decide) (hts (.fieldLink RX0 19 "ForkDesk$ForkCounter" "upperHalf" "[I") (by decide +kernel)) (fun _ h9 => h9) rfl dX0_kindOf_52 ?_
        refine lv_iload_n hx hb dX0_kindOf_55 rfl (lv_at hl 1 rfl) ?_
        refine lv_iload_n hx hb dX0_kindOf_56 rfl (lv_at hl 3 rfl) ?_
        refine xa_iast hx hb hK hP (dk_D hao) hS 7 2 rfl rfl (w := b) (by omega) (by omega) dX0_kindOf_57 (fun H locs hP _ hS => ?_)
        have hP : va_P D vwCl (dkW N ad cJJ cJ cI dr re tu kd (upd uh b (nI (upf b))) bf la G) H := hP
        refine lv_aload_n hx hb dX0_kindOf_58 rfl (lv_at hl 0 rfl) ?_
        refine va_get (D := D) (ci := 0) (C := RX0) (T := TX0) (N := 5) hx hb hts (by decide +kernel) hown hK hP 5 rfl rfl 3 (by decide) (hts (.fieldLink RX0 22 "ForkDesk$ForkCounter" "before" "[I") (by decide +kernel)) (fun _ h9 => h9) rfl dX0_kindOf_59 ?_
        refine lv_iload_n hx hb dX0_kindOf_62 rfl (lv_at hl 1 rfl) ?_
        refine lv_aload_n hx hb dX0_kindOf_63 rfl (lv_at hl 0 rfl) ?_
        refine va_get (D := D) (ci := 0) (C := RX0) (T := TX0) (N := 5) hx hb hts (by decide +kernel) hown hK hP 5 rfl rfl 4 (by decide) (hts (.fieldLink RX0 31 "ForkDesk$ForkCounter" "latest" "[I") (by decide +kernel)) (fun _ h9 => h9) rfl dX0_kindOf_64 ?_
        refine lv_iload_n hx hb dX0_kindOf_67 rfl (lv_at hl 2 rfl) ?_
        refine xa_iald hx hb hK hP 9 2 rfl rfl (w := lof b) (by omega) (by omega) dX0_kindOf_68 ?_
        refine xa_iast hx hb hK hP (dk_D hao) hS 8 2 rfl rfl (w := b) (by omega) (by omega) dX0_kindOf_69 (fun H locs hP _ hS => ?_)
        have hP : va_P D vwCl (dkW N ad cJJ cJ cI dr re tu kd (upd uh b (nI (upf b))) (upd bf b (la (lof b))) la G) H := hP
        refine lv_aload_n hx hb dX0_kindOf_70 rfl (lv_at hl 0 rfl) ?_
        refine va_get (D := D) (ci := 0) (C := RX0) (T := TX0) (N := 5) hx hb hts (by decide +kernel) hown hK hP 5 rfl rfl 4 (by decide) (hts (.fieldLink RX0 31 "ForkDesk$ForkCounter" "latest" "[I") (by decide +kernel)) (fun _ h9 => h9) rfl dX0_kindOf_71 ?_
        refine lv_iload_n hx hb dX0_kindOf_74 rfl (lv_at hl 2 rfl) ?_
        refine lv_iload_n hx hb dX0_kindOf_75 rfl (lv_at hl 1 rfl) ?_
        refine xa_iast hx hb hK hP (dk_D hao) hS 9 2 rfl rfl (w := lof b) (by omega) (by omega) dX0_kindOf_76 (fun H locs hP _ hS => ?_)
        have hP : va_P D vwCl (dkW N ad cJJ cJ cI dr re tu kd (upd uh b (nI (upf b))) (upd bf b (la (lof b))) (upd la (lof b) (nI b)) G) H := hP
        refine lv_iload_n hx hb dX0_kindOf_77 rfl (lv_at hl 1 rfl) ?_
        exact W.iret (v := (nI b)) hx hb hr (fun t ht hW => ⟨⟨(nI b), (upd uh b (nI (upf b)), upd bf b (la (lof b)), upd la (lof b) (nI b)), rfl, ⟨by unfold kn; rw [hks]; rfl, fk_new hfk hlo hks⟩, (by show va_P _ _ _ _; rw [ht]; exact hP)⟩, hS.F ht⟩) hS.2.2 dX0_kindOf_78
      · refine lv_iload hx hb dX0_kindOf_16 (lv_at hl 4 rfl) ?_
        refine lv_iconst (v := (-1)) hx hb dX0_kindOf_18 (by decide) ?_
        refine lv_icmp_eq (tgt := 51) hx hb dX0_kindOf_19 (by decide) (fun c_19 => ?_) (fun c_19 => ?_)
        · have hpv : pv lof upf (lof b) mm = none := en_n (by omega) c_19
          have hks : ks lof upf (lof b) (upf b) b = none := nb_end hnb hpv
          refine lv_aload_n hx hb dX0_kindOf_51 rfl (lv_at hl 0 rfl) ?_
          refine va_get (D := D) (ci := 0) (C := RX0) (T := TX0) (N := 5) hx hb hts (by decide +kernel) hown hK hP 5 rfl rfl 2 (by decide) (hts (.fieldLink RX0 19 "ForkDesk$ForkCounter" "upperHalf" "[I") (by decide +kernel)) (fun _ h9 => h9) rfl dX0_kindOf_52 ?_
          refine lv_iload_n hx hb dX0_kindOf_55 rfl (lv_at hl 1 rfl) ?_
          refine lv_iload_n hx hb dX0_kindOf_56 rfl (lv_at hl 3 rfl) ?_
          refine xa_iast hx hb hK hP (dk_D hao) hS 7 2 rfl rfl (w := b) (by omega) (by omega) dX0_kindOf_57 (fun H locs hP _ hS => ?_)
          have hP : va_P D vwCl (dkW N ad cJJ cJ cI dr re tu kd (upd uh b (nI (upf b))) bf la G) H := hP
          refine lv_aload_n hx hb dX0_kindOf_58 rfl (lv_at hl 0 rfl) ?_
          refine va_get (D := D) (ci := 0) (C := RX0) (T := TX0) (N := 5) hx hb hts (by decide +kernel) hown hK hP 5 rfl rfl 3 (by decide) (hts (.fieldLink RX0 22 "ForkDesk$ForkCounter" "before" "[I") (by decide +kernel)) (fun _ h9 => h9) rfl dX0_kindOf_59 ?_
          refine lv_iload_n hx hb dX0_kindOf_62 rfl (lv_at hl 1 rfl) ?_
          refine lv_aload_n hx hb dX0_kindOf_63 rfl (lv_at hl 0 rfl) ?_
          refine va_get (D := D) (ci := 0) (C := RX0) (T := TX0) (N := 5) hx hb hts (by decide +kernel) hown hK hP 5 rfl rfl 4 (by decide) (hts (.fieldLink RX0 31 "ForkDesk$ForkCounter" "latest" "[I") (by decide +kernel)) (fun _ h9 => h9) rfl dX0_kindOf_64 ?_
          refine lv_iload_n hx hb dX0_kindOf_67 rfl (lv_at hl 2 rfl) ?_
          refine xa_iald hx hb hK hP 9 2 rfl rfl (w := lof b) (by omega) (by omega) dX0_kindOf_68 ?_
          refine xa_iast hx hb hK hP (dk_D hao) hS 8 2 rfl rfl (w := b) (by omega) (by omega) dX0_kindOf_69 (fun H locs hP _ hS => ?_)
          have hP : va_P D vwCl (dkW N ad cJJ cJ cI dr re tu kd (upd uh b (nI (upf b))) (upd bf b (la (lof b))) la G) H := hP
          refine lv_aload_n hx hb dX0_kindOf_70 rfl (lv_at hl 0 rfl) ?_
          refine va_get (D := D) (ci := 0) (C := RX0) (T := TX0) (N := 5) hx hb hts (by decide +kernel) hown hK hP 5 rfl rfl 4 (by decide) (hts (.fieldLink RX0 31 "ForkDesk$ForkCounter" "latest" "[I") (by decide +kernel)) (fun _ h9 => h9) rfl dX0_kindOf_71 ?_
          refine lv_iload_n hx hb dX0_kindOf_74 rfl (lv_at hl 2 rfl) ?_
          refine lv_iload_n hx hb dX0_kindOf_75 rfl (lv_at hl 1 rfl) ?_
          refine xa_iast hx hb hK hP (dk_D hao) hS 9 2 rfl rfl (w := lof b) (by omega) (by omega) dX0_kindOf_76 (fun H locs hP _ hS => ?_)
          have hP : va_P D vwCl (dkW N ad cJJ cJ cI dr re tu kd (upd uh b (nI (upf b))) (upd bf b (la (lof b))) (upd la (lof b) (nI b)) G) H := hP
          refine lv_iload_n hx hb dX0_kindOf_77 rfl (lv_at hl 1 rfl) ?_
          exact W.iret (v := (nI b)) hx hb hr (fun t ht hW => ⟨⟨(nI b), (upd uh b (nI (upf b)), upd bf b (la (lof b)), upd la (lof b) (nI b)), rfl, ⟨by unfold kn; rw [hks]; rfl, fk_new hfk hlo hks⟩, (by show va_P _ _ _ _; rw [ht]; exact hP)⟩, hS.F ht⟩) hS.2.2 dX0_kindOf_78
        · obtain ⟨f, hpv⟩ := en_s c_19
          obtain ⟨hf1, hf2, hf3, -⟩ := pv_some hpv
          have hupf := hup f (by omega)
          have hupb := hup b (Nat.le_refl b)
          obtain ⟨lf, elf⟩ : ∃ z, left = z + 1 := ⟨left - 1, by omega⟩
          subst elf
          rw [show en (pv lof upf (lof b) mm) = nI f by rw [hpv]; rfl] at hl
          refine lv_aload_n hx hb dX0_kindOf_22 rfl (lv_at hl 0 rfl) ?_
          refine va_get (D := D) (ci := 0) (C := RX0) (T := TX0) (N := 5) hx hb hts (by decide +kernel) hown hK hP 5 rfl rfl 2 (by decide) (hts (.fieldLink RX0 19 "ForkDesk$ForkCounter" "upperHalf" "[I") (by decide +kernel)) (fun _ h9 => h9) rfl dX0_kindOf_23 ?_
          refine lv_iload hx hb dX0_kindOf_26 (lv_at hl 4 rfl) ?_
          refine xa_iald hx hb hK hP 7 2 rfl rfl (w := f) (by omega) (by omega) dX0_kindOf_28 ?_
          rw [(hfk.2 f (by omega) hf3).1]
          refine lv_iload_n hx hb dX0_kindOf_29 rfl (lv_at hl 3 rfl) ?_
          refine xa_ne (tgt := 36) hx hb (by omega) (by omega) dX0_kindOf_30 (by decide) (fun c_30 => ?_) (fun c_30 => ?_)
          · refine lv_aload_n hx hb dX0_kindOf_36 rfl (lv_at hl 0 rfl) ?_
            refine va_get (D := D) (ci := 0) (C := RX0) (T := TX0) (N := 5) hx hb hts (by decide +kernel) hown hK hP 5 rfl rfl 3 (by decide) (hts (.fieldLink RX0 22 "ForkDesk$ForkCounter" "before" "[I") (by decide +kernel)) (fun _ h9 => h9) rfl dX0_kindOf_37 ?_
            refine lv_iload hx hb dX0_kindOf_40 (lv_at hl 4 rfl) ?_
            refine xa_iald hx hb hK hP 8 2 rfl rfl (w := f) (by omega) (by omega) dX0_kindOf_42 ?_
            rw [(hfk.2 f (by omega) hf3).2, hf2]
            refine lv_istore (lv' := [(4, .int (en (pv lof upf (lof b) f))), (0, .ref (ad 5)), (1, .int (nI b)), (2, .int (nI (lof b))), (3, .int (nI (upf b))), (5, .int (nI (lf + 1)))]) hx hb dX0_kindOf_43 hl (by decide) rfl (fun ls hl => ?_)
            refine xa_dec (k := 5) (lv' := [(5, .int (nI lf)), (4, .int (en (pv lof upf (lof b) f))), (0, .ref (ad 5)), (1, .int (nI b)), (2, .int (nI (lof b))), (3, .int (nI (upf b)))]) hx hb dX0_kindOf_45 hl rfl (by decide) rfl (fun ls hl => ?_)
            refine lv_goto (tgt := 11) hx hb dX0_kindOf_48 (by decide) ?_
            exact ih_11 lf f  _ _ _ (by omega) (by omega) (by omega) (nb_on hnb hpv c_30) hP hS (lv_sub hl [2, 3, 4, 5, 1, 0] rfl)
          · refine lv_iload hx hb dX0_kindOf_33 (lv_at hl 4 rfl) ?_
            exact W.iret (v := (nI f)) hx hb hr (fun t ht hW => ⟨⟨(nI f), (uh, bf, la), rfl, ⟨by unfold kn; rw [nb_hit (by omega) hpv c_30]; rfl, fk_old hfk (nb_hit (by omega) hpv c_30)⟩, (by show va_P _ _ _ _; rw [ht]; exact hP)⟩, hS.F ht⟩) hS.2.2 dX0_kindOf_35
  exact lp_11 (b + 1) b b  _ _ _ (by omega) (Nat.le_refl b) (Nat.le_refl b) (nb_0 _ _ _ _ _) hP hS (lv_sub hl [2, 3, 4, 5, 1, 0] rfl)
