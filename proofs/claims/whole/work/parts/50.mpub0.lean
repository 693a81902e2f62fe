set_option maxHeartbeats 4000000 in
set_option maxRecDepth 100000 in
/-- the reference: forks -/
theorem c_mForks (l : Launch) (D : va_G) (sz : Nat) (N : Nat) (hN1 : 1 ≤ N) (hN : N ≤ 12) (bd : Nat → Nat) (hao : aok4 (fun _ => True) bd) (cZ cI : ClassId) (th : Int32) (rb mb : Nat → Bool) (pt : Nat → Int32) (g : Nat → Nat → Bool) (hg : okM N rb g) (k : Int32) : Met l yX2_forks wsX2_forks ({ frames := 2, cells := 0, slots := 0, locals := 47 } : Room) (va_Pc [.ref (bd 0), .int k] (wp0 D (mdW N bd cZ cI th rb mb pt) (mdT cZ cI) (fr4 bd sz) sz)) (va_Qi (fun (r : Int32) (u : (Nat → Bool) × (Nat → Bool) × (Nat → Int32)) => r = sFo N g k ∧ okM N u.1 g) (fun (u : (Nat → Bool) × (Nat → Bool) × (Nat → Int32)) t => va_P D vwCl (mdW N bd cZ cI (nI 0) u.1 u.2.1 u.2.2) t.heap) (fr4 bd sz)) 0 0 (fr4 bd sz) := by
  refine Met.ofW (cc := cX2_forks) (maxL := 8) (ret := (some .int)) (by decide) rfl ?_
  intro p e s m args below meth c s₁ B hml hv
  obtain ⟨rfl, hsz, hP, hK, htb⟩ := hv
  have hx := B.exec
  have hb := B.bytes
  have hr := B.returns
  have hts := atoms_spec (ws := wsX2_forks) B.pre
  have hown : s.vm.findClass RX2 = some m.cls := findClass_of_methodNamed B.named
  have hlocks := B.notSynchronized
  subst hsz
  generalize hAe : fr4 bd s.heap.size = A at htb ⊢
  have hA : ∀ q : Nat, s.heap.size ≤ q → A q := fun q h => by rw [← hAe]; exact fr4_new q h
  have hao : aok4 A bd := by rw [← hAe]; exact aok4_fr hao
  obtain ⟨⟨tt, hZ, hT⟩, hNst⟩ := id htb
  have hS : va_S A s.heap s.heap [] := va_S.rf
  have hl := lv_entry ([.ref (bd 0), .int k]) (n := 8) (Nat.le_of_ble_eq_true rfl)
  rw [lg_entry_eq]
  generalize (lg_sl ([.ref (bd 0), .int k]) ++ List.replicate (8 - (lg_sl ([.ref (bd 0), .int k])).length) Slot.unset).toArray = ls at hl ⊢
  have hl : lv_has ls 8 [(0, .ref (bd 0)), (1, .int k)] := hl
  have hnp := np_le hN
  have hnp0 : 0 < 2 ^ N := Nat.two_pow_pos N
  refine lv_aload_n hx hb dX2_forks_0 rfl (lv_at hl 0 rfl) ?_
  refine lv_iconst (v := nI 0) hx hb dX2_forks_1 (by decide) ?_
  refine va_put (D := D) (ci := 2) (v := .int (nI 0)) (ty := .int) (C := RX2) (T := TX2) (N := 6) hx hb hts (fun w h => List.mem_cons_of_mem _ (inBX2 w h)) tyX2 tyX2_ok nmX2 hown hK hP (md_D hao) hS 0 rfl rfl 0 (by decide) (hts (.fieldLink RX2 28 "ForkDeskModel" "thrown" "I") (by decide +kernel)) (fun _ h9 => h9) rfl (by decide +kernel) rfl rfl (Nat.le_of_ble_eq_true rfl) dX2_forks_2 (fun H locs hP _ hS => ?_)
  have hP : va_P D vwCl (mdW N bd cZ cI (nI 0) rb mb pt) H := hP
  refine lv_iload_n hx hb dX2_forks_5 rfl (lv_at hl 1 rfl) ?_
  refine va_calli (va_runS (As := [.int k]) (rest := []) ⟨hx, hb, hml, hown, hts⟩ (c_isRow l D _ k) (va_cwS 1 hts (goodIn_mono gX2_isRow) rfl rfl rfl (by decide +kernel) ⟨Nat.le_of_ble_eq_true rfl, Nat.le_of_ble_eq_true rfl⟩) ⟨wp0_blind, fun U hU hW => wp0_of (va_P.sub hP [] rfl) (hK.sub [] rfl) htb hS no_in hU hW⟩ rfl rfl hl.1 rfl (lv_room (Nat.le_of_ble_eq_true rfl)) dX2_forks_6 ⟨Nat.zero_le _, Nat.zero_le _⟩) hS (fun q _ h => h.elim) (fun q h => h.elim) (fun r_6 u_6 t H1 locs ht hvm hw hB hz1 hk1 hS => ?_)
  have hP := xa_same hP hk1
  clear hz1 hk1 hB ht
  generalize H1 = H at hP hS ⊢
  subst hw
  refine xa_if1 (tgt := 14) hx hb dX2_forks_9 (by decide) (fun c_9 => ?_) (fun c_9 => ?_)
  · obtain ⟨j, hj, ej⟩ := isR_t c_9
    rw [ej] at hl
    refine lv_iconst (v := nI 0) hx hb dX2_forks_14 (by decide) ?_
    refine lv_istore_n (lv' := [(2, .int (nI 0)), (0, .ref (bd 0)), (1, .int (nI j))]) hx hb dX2_forks_15 rfl hl (by decide) rfl (fun ls hl => ?_)
    refine lv_iconst (v := nI 1) hx hb dX2_forks_16 (by decide) ?_
    refine lv_istore_n (lv' := [(3, .int (nI 1)), (2, .int (nI 0)), (0, .ref (bd 0)), (1, .int (nI j))]) hx hb dX2_forks_17 rfl hl (by decide) rfl (fun ls hl => ?_)
    have lp_18 : ∀ (n9 v : Nat) (p2 : Nat → Int32) (al : Nat) (H : Heap) (locs : List Loc) (ls : Array Slot), v ≤ N + 1 → N + 1 + 1 ≤ v + n9 → 1 ≤ v → al = fsm (g j) N (v - 1) → al ≤ 4096 * (v - 1) → va_P D vwCl (mdW N bd cZ cI (nI 0) rb mb p2) H → va_S A s.heap H locs → lv_has ls 8 [(0, .ref (bd 0)), (1, .int (nI j)), (2, .int (nI al)), (3, .int (nI v))] → W p l e (headSpec wsX2_forks ({ frames := 2, cells := 0, slots := 0, locals := 47 } : Room)).room s m ([.ref (bd 0), .int k] : List Value).toArray below meth c H locs 0 0 (MQ below (va_Qi (fun (r : Int32) (u : (Nat → Bool) × (Nat → Bool) × (Nat → Int32)) => r = sFo N g k ∧ okM N u.1 g) (fun (u : (Nat → Bool) × (Nat → Bool) × (Nat → Int32)) t => va_P D vwCl (mdW N bd cZ cI (nI 0) u.1 u.2.1 u.2.2) t.heap) A) ([.ref (bd 0), .int k] : List Value).toArray s 0 0 A) (F0 m 18 ls []) := by
      intro n9
      induction n9 with
      | zero => intro v p2 al H locs ls h1 h2; exact absurd h2 (by omega)
      | succ n9 ih =>
        intro v p2 al H locs ls hle_18 hmm_18 hv1 hal hal2 hP hS hl
        have ih_18 := @ih
        refine lv_iload_n hx hb dX2_forks_18 rfl (lv_at hl 3 rfl) ?_
        refine lv_aload_n hx hb dX2_forks_19 rfl (lv_at hl 0 rfl) ?_
        refine va_get (D := D) (ci := 2) (C := RX2) (T := TX2) (N := 6) hx hb hts (fun w h => List.mem_cons_of_mem _ (inBX2 w h)) hown hK hP 0 rfl rfl 1 (by decide) (hts (.fieldLink RX2 21 "ForkDeskModel" "n" "I") (by decide +kernel)) (fun _ h9 => h9) rfl dX2_forks_20 ?_
        refine xa_gt (tgt := 155) hx hb (by omega) (by omega) dX2_forks_23 (by decide) (fun c_23 => ?_) (fun c_23 => ?_)
        · refine lv_iload_n hx hb dX2_forks_155 rfl (lv_at hl 2 rfl) ?_
          exact W.iret (v := (nI al)) hx hb hr (fun t ht hW => ⟨⟨(nI al), (rb, mb, p2), rfl, ⟨by unfold sFo; rw [if_pos c_9, ej, ix_nI (by omega), hal, show v - 1 = N by omega, ← fsm_fc (g j) N N (Nat.le_refl N), Nat.sub_self]; exact congrArg nI (Nat.zero_add _).symm, hg⟩, (by show va_P _ _ _ _; rw [ht]; exact hP)⟩, hS.F ht⟩) hS.2.2 dX2_forks_156
        · refine lv_iconst (v := nI 1) hx hb dX2_forks_26 (by decide) ?_
          refine lv_aload_n hx hb dX2_forks_27 rfl (lv_at hl 0 rfl) ?_
          refine va_get (D := D) (ci := 2) (C := RX2) (T := TX2) (N := 6) hx hb hts (fun w h => List.mem_cons_of_mem _ (inBX2 w h)) hown hK hP 0 rfl rfl 1 (by decide) (hts (.fieldLink RX2 21 "ForkDeskModel" "n" "I") (by decide +kernel)) (fun _ h9 => h9) rfl dX2_forks_28 ?_
          refine lv_iload_n hx hb dX2_forks_31 rfl (lv_at hl 3 rfl) ?_
          refine xa_isub hx hb (by omega) dX2_forks_32 ?_
          refine lv_iconst (v := nI 1) hx hb dX2_forks_33 (by decide) ?_
          refine xa_iadd hx hb dX2_forks_34 ?_
          refine xa_ishl1 hx hb (by omega) dX2_forks_35 ?_
          obtain ⟨d, hd⟩ : ∃ d, N - v = d := ⟨_, rfl⟩
          obtain ⟨Hf, hHf⟩ : ∃ z, 2 ^ d = z := ⟨_, rfl⟩
          obtain ⟨Sz, hSz2⟩ : ∃ z, 2 ^ (N - v + 1) = z := ⟨_, rfl⟩
          have hSz : Sz = 2 * Hf := by rw [← hSz2, hd, Nat.pow_succ, hHf, Nat.mul_comm]
          have hHp : 0 < Hf := by rw [← hHf]; exact Nat.two_pow_pos d
          obtain ⟨nb9, hnb9⟩ : ∃ z, 2 ^ (v - 1) = z := ⟨_, rfl⟩
          have hNB : 2 ^ N = nb9 * Sz := by rw [← hnb9, ← hSz2, ← Nat.pow_add]; congr 1; omega
          have hnb : nb9 ≤ 2048 := by rw [← hnb9]; exact Nat.le_trans (Nat.pow_le_pow_right (by omega) (show v - 1 ≤ 11 by omega)) (by decide)
          have hSzN : Sz ≤ 2 ^ N := by rw [← hSz2]; exact Nat.pow_le_pow_right (by omega) (by omega)
          rw [hSz2]
          refine lv_istore (lv' := [(4, .int (nI Sz)), (0, .ref (bd 0)), (1, .int (nI j)), (2, .int (nI al)), (3, .int (nI v))]) hx hb dX2_forks_36 hl (by decide) rfl (fun ls hl => ?_)
          refine lv_iconst (v := nI 0) hx hb dX2_forks_38 (by decide) ?_
          refine lv_istore (lv' := [(5, .int (nI 0)), (4, .int (nI Sz)), (0, .ref (bd 0)), (1, .int (nI j)), (2, .int (nI al)), (3, .int (nI v))]) hx hb dX2_forks_39 hl (by decide) rfl (fun ls hl => ?_)
          refine lv_iconst (v := nI 0) hx hb dX2_forks_41 (by decide) ?_
          refine lv_istore (lv' := [(6, .int (nI 0)), (5, .int (nI 0)), (4, .int (nI Sz)), (0, .ref (bd 0)), (1, .int (nI j)), (2, .int (nI al)), (3, .int (nI v))]) hx hb dX2_forks_42 hl (by decide) rfl (fun ls hl => ?_)
          have lp_44 : ∀ (n9 : Nat) (b : Nat) (fv : Nat) (mn : Nat) (p3 : Nat → Int32) (H : Heap) (locs : List Loc) (ls : Array Slot), (b ≤ nb9 ∧ nb9 + 1 ≤ b + n9) → (fv = b * Sz) → (mn = cf (lof9 (g j) N d) (upf9 (g j) N d) b) → (pok (lof9 (g j) N d) (upf9 (g j) N d) Sz b mn p3) → va_P D vwCl (mdW N bd cZ cI (nI 0) rb mb p3) H → va_S A s.heap H locs → lv_has ls 8 [(0, .ref (bd 0)), (1, .int (nI j)), (2, .int (nI al)), (3, .int (nI v)), (4, .int (nI Sz)), (5, .int (nI mn)), (6, .int (nI fv))] → W p l e (headSpec wsX2_forks ({ frames := 2, cells := 0, slots := 0, locals := 47 } : Room)).room s m ([.ref (bd 0), .int k] : List Value).toArray below meth c H locs 0 0 (MQ below (va_Qi (fun (r : Int32) (u : (Nat → Bool) × (Nat → Bool) × (Nat → Int32)) => r = sFo N g k ∧ okM N u.1 g) (fun (u : (Nat → Bool) × (Nat → Bool) × (Nat → Int32)) t => va_P D vwCl (mdW N bd cZ cI (nI 0) u.1 u.2.1 u.2.2) t.heap) A) ([.ref (bd 0), .int k] : List Value).toArray s 0 0 A) (F0 m 44 ls []) := by
            intro n9
            induction n9 with
            | zero => intro b fv mn p3 H locs ls h0; exact absurd h0 (by omega)
            | succ n9 ih =>
              intro b fv mn p3 H locs ls hbn hfv hmn hpk hP hS hl
              have hcf : mn ≤ b := by rw [hmn]; exact cf_le _ _ b
              have hfvN : fv ≤ 2 ^ N := by rw [hfv, hNB]; exact Nat.mul_le_mul_right _ hbn.1
              have ih_44 := @ih
              refine lv_iload hx hb dX2_forks_44 (lv_at hl 6 rfl) ?_
              refine lv_aload_n hx hb dX2_forks_46 rfl (lv_at hl 0 rfl) ?_
              refine va_get (D := D) (ci := 2) (C := RX2) (T := TX2) (N := 6) hx hb hts (fun w h => List.mem_cons_of_mem _ (inBX2 w h)) hown hK hP 0 rfl rfl 2 (by decide) (hts (.fieldLink RX2 25 "ForkDeskModel" "points" "I") (by decide +kernel)) (fun _ h9 => h9) rfl dX2_forks_47 ?_
              refine xa_ge (tgt := 144) hx hb (by omega) (by omega) dX2_forks_50 (by decide) (fun c_50 => ?_) (fun c_50 => ?_)
              · have hbe : b = 2 ^ (v - 1) := by rw [hnb9]; rw [hfv, hNB] at c_50; exact Nat.le_antisymm hbn.1 (Nat.le_of_mul_le_mul_right c_50 (by omega))
                refine lv_iload_n hx hb dX2_forks_144 rfl (lv_at hl 2 rfl) ?_
                refine lv_iload hx hb dX2_forks_145 (lv_at hl 5 rfl) ?_
                refine xa_iadd hx hb dX2_forks_147 ?_
                refine lv_istore_n (lv' := [(2, .int (nI (al + mn))), (0, .ref (bd 0)), (1, .int (nI j)), (3, .int (nI v)), (4, .int (nI Sz)), (5, .int (nI mn)), (6, .int (nI fv))]) hx hb dX2_forks_148 rfl hl (by decide) rfl (fun ls hl => ?_)
                refine xa_inc (k := 3) (lv' := [(3, .int (nI (v + 1))), (2, .int (nI (al + mn))), (0, .ref (bd 0)), (1, .int (nI j)), (4, .int (nI Sz)), (5, .int (nI mn)), (6, .int (nI fv))]) hx hb dX2_forks_149 hl rfl (by decide) rfl (fun ls hl => ?_)
                refine lv_goto (tgt := 18) hx hb dX2_forks_152 (by decide) ?_
                exact ih_18 (v + 1) p3 (al + mn) _ _ _ (by omega) (by omega) (by omega) (by rw [hal, hmn, show v + 1 - 1 = (v - 1) + 1 by omega]; show _ = fsm (g j) N (v - 1) + cf (lof9 (g j) N (N - (v - 1 + 1))) (upf9 (g j) N (N - (v - 1 + 1))) (2 ^ (v - 1)); rw [show N - (v - 1 + 1) = d by omega, show b = 2 ^ (v - 1) by omega]) (by omega) hP hS (lv_sub hl [2, 3, 1, 0] rfl)
              · have hb9 : b < nb9 := by rw [hfv, hNB] at c_50; exact Nat.lt_of_mul_lt_mul_right c_50
                have hfs : fv + Sz ≤ 2 ^ N := by rw [hfv]; exact fs_le hNB hb9 (Nat.le_refl _)
                have hhalf := alk_half (d := d) (b := b) (fv := fv) hg hj hHf hSz hfv hfs
                refine lv_aload_n hx hb dX2_forks_53 rfl (lv_at hl 0 rfl) ?_
                refine lv_iload_n hx hb dX2_forks_54 rfl (lv_at hl 1 rfl) ?_
                refine lv_iload hx hb dX2_forks_55 (lv_at hl 6 rfl) ?_
                refine lv_iload hx hb dX2_forks_57 (lv_at hl 6 rfl) ?_
                refine lv_iload hx hb dX2_forks_59 (lv_at hl 4 rfl) ?_
                refine lv_iconst (v := nI 2) hx hb dX2_forks_61 (by decide) ?_
                refine xa_idiv hx hb (by omega) (by omega) (by omega) dX2_forks_62 ?_
                refine xa_iadd hx hb dX2_forks_63 ?_
                refine lv_iload hx hb dX2_forks_64 (lv_at hl 4 rfl) ?_
                refine lv_iconst (v := nI 2) hx hb dX2_forks_66 (by decide) ?_
                refine xa_idiv hx hb (by omega) (by omega) (by omega) dX2_forks_67 ?_
                refine va_calli (va_runV (As := [.int (nI j), .int (nI fv), .int (nI (fv + (Sz / 2))), .int (nI (Sz / 2))]) (rest := []) ⟨hx, hb, hml, hown, hts⟩ (c_alike l D _ N bd cZ (nI 0) rb j fv (fv + (Sz / 2)) (Sz / 2) (by omega) (by omega) (by omega)) (cwV 4 hts (goodIn_mono gX2_alike) rfl rfl rfl (by decide +kernel) ⟨Nat.le_of_ble_eq_true rfl, Nat.le_of_ble_eq_true rfl⟩) ⟨wp0_blind, va_recv hK hP (ci := 2) (q0 := 0) rfl rfl, fun U hU hW => wp0_of (hP.sub [0, 1] rfl) (hK.sub [0] rfl) htb hS no_in hU hW⟩ rfl rfl hl.1 rfl (lv_room (Nat.le_of_ble_eq_true rfl)) dX2_forks_68 ⟨Nat.zero_le _, Nat.zero_le _⟩) hS (fun q _ h => h.elim) (fun q h => h.elim) (fun r_68 u_68 t H1 locs ht hvm hw hB hz1 hk1 hS => ?_)
                have hP := xa_same hP hk1
                clear hz1 hk1 hB ht
                generalize H1 = H at hP hS ⊢
                subst hw
                refine xa_if0 (tgt := 77) hx hb dX2_forks_71 (by decide) (fun c_71 => ?_) (fun c_71 => ?_)
                · have hne : ¬ lof9 (g j) N d b = upf9 (g j) N d b := fun q => by rw [hhalf.mpr q] at c_71; cases c_71
                  refine lv_iconst (v := nI 0) hx hb dX2_forks_77 (by decide) ?_
                  refine lv_istore (lv' := [(7, .int (nI 0)), (0, .ref (bd 0)), (1, .int (nI j)), (2, .int (nI al)), (3, .int (nI v)), (4, .int (nI Sz)), (5, .int (nI mn)), (6, .int (nI fv))]) hx hb dX2_forks_78 hl (by decide) rfl (fun ls hl => ?_)
                  have lp_80 : ∀ (n9 x : Nat) (H : Heap) (locs : List Loc) (ls : Array Slot), x ≤ mn → mn + 1 ≤ x + n9 → (∀ y, y < x → ∀ f, f < b → p3 y = nI (f * Sz) → ¬ (lof9 (g j) N d f = lof9 (g j) N d b ∧ upf9 (g j) N d f = upf9 (g j) N d b)) → va_P D vwCl (mdW N bd cZ cI (nI 0) rb mb p3) H → va_S A s.heap H locs → lv_has ls 8 [(0, .ref (bd 0)), (1, .int (nI j)), (2, .int (nI al)), (3, .int (nI v)), (4, .int (nI Sz)), (5, .int (nI mn)), (6, .int (nI fv)), (7, .int (nI x))] → W p l e (headSpec wsX2_forks ({ frames := 2, cells := 0, slots := 0, locals := 47 } : Room)).room s m ([.ref (bd 0), .int k] : List Value).toArray below meth c H locs 0 0 (MQ below (va_Qi (fun (r : Int32) (u : (Nat → Bool) × (Nat → Bool) × (Nat → Int32)) => r = sFo N g k ∧ okM N u.1 g) (fun (u : (Nat → Bool) × (Nat → Bool) × (Nat → Int32)) t => va_P D vwCl (mdW N bd cZ cI (nI 0) u.1 u.2.1 u.2.2) t.heap) A) ([.ref (bd 0), .int k] : List Value).toArray s 0 0 A) (F0 m 80 ls []) := by
                    intro n9
                    induction n9 with
                    | zero => intro x  H locs ls h1 h2; exact absurd h2 (by omega)
                    | succ n9 ih =>
                      intro x  H locs ls hle_80 hmm_80 hX hP hS hl
                      have ih_80 := @ih
                      refine lv_iload hx hb dX2_forks_80 (lv_at hl 7 rfl) ?_
                      refine lv_iload hx hb dX2_forks_82 (lv_at hl 5 rfl) ?_
                      refine xa_ge (tgt := 112) hx hb (by omega) (by omega) dX2_forks_84 (by decide) (fun c_84 => ?_) (fun c_84 => ?_)
                      · refine lv_iload hx hb dX2_forks_112 (lv_at hl 7 rfl) ?_
                        refine lv_iload hx hb dX2_forks_114 (lv_at hl 5 rfl) ?_
                        refine xa_ge (tgt := 122) hx hb (by omega) (by omega) dX2_forks_116 (by decide) (fun c_116 => ?_) (fun c_116 => ?_)
                        · have hfi : fi (lof9 (g j) N d) (upf9 (g j) N d) b = true := fi_all hpk hne (fun y hy => hX y (by omega))
                          refine lv_aload_n hx hb dX2_forks_122 rfl (lv_at hl 0 rfl) ?_
                          refine va_get (D := D) (ci := 2) (C := RX2) (T := TX2) (N := 6) hx hb hts (fun w h => List.mem_cons_of_mem _ (inBX2 w h)) hown hK hP 0 rfl rfl 5 (by decide) (hts (.fieldLink RX2 17 "ForkDeskModel" "parts" "[I") (by decide +kernel)) (fun _ h9 => h9) rfl dX2_forks_123 ?_
                          refine lv_iload hx hb dX2_forks_126 (lv_at hl 5 rfl) ?_
                          refine lv_iload hx hb dX2_forks_128 (lv_at hl 6 rfl) ?_
                          refine xa_iast hx hb hK hP (md_D hao) hS 3 1 rfl rfl (w := mn) (by omega) (by omega) dX2_forks_130 (fun H locs hP _ hS => ?_)
                          have hP : va_P D vwCl (mdW N bd cZ cI (nI 0) rb mb (upd p3 mn (nI fv))) H := hP
                          refine xa_inc (k := 5) (lv' := [(5, .int (nI (mn + 1))), (0, .ref (bd 0)), (1, .int (nI j)), (2, .int (nI al)), (3, .int (nI v)), (4, .int (nI Sz)), (6, .int (nI fv)), (7, .int (nI x))]) hx hb dX2_forks_131 hl rfl (by decide) rfl (fun ls hl => ?_)
                          refine lv_iload hx hb dX2_forks_134 (lv_at hl 6 rfl) ?_
                          refine lv_iload hx hb dX2_forks_136 (lv_at hl 5 rfl) ?_
                          refine xa_iadd hx hb dX2_forks_138 ?_
                          refine lv_istore (lv' := [(6, .int (nI (fv + Sz))), (5, .int (nI (mn + 1))), (0, .ref (bd 0)), (1, .int (nI j)), (2, .int (nI al)), (3, .int (nI v)), (4, .int (nI Sz)), (7, .int (nI x))]) hx hb dX2_forks_139 hl (by decide) rfl (fun ls hl => ?_)
                          refine lv_goto (tgt := 44) hx hb dX2_forks_141 (by decide) ?_
                          exact ih_44 (b + 1) (fv + Sz) (mn + 1) (upd p3 mn (nI fv)) _ _ _ (by omega) (by rw [hfv, Nat.succ_mul]) (by rw [hmn]; exact (cf_new hfi hne).symm) (by rw [hfv]; exact pok_new hpk hfi hne) hP hS (lv_sub hl [2, 3, 4, 5, 6, 1, 0] rfl)
                        · exact absurd c_116 (by omega)
                      · refine lv_aload_n hx hb dX2_forks_87 rfl (lv_at hl 0 rfl) ?_
                        refine lv_iload_n hx hb dX2_forks_88 rfl (lv_at hl 1 rfl) ?_
                        refine lv_aload_n hx hb dX2_forks_89 rfl (lv_at hl 0 rfl) ?_
                        refine va_get (D := D) (ci := 2) (C := RX2) (T := TX2) (N := 6) hx hb hts (fun w h => List.mem_cons_of_mem _ (inBX2 w h)) hown hK hP 0 rfl rfl 5 (by decide) (hts (.fieldLink RX2 17 "ForkDeskModel" "parts" "[I") (by decide +kernel)) (fun _ h9 => h9) rfl dX2_forks_90 ?_
                        refine lv_iload hx hb dX2_forks_93 (lv_at hl 7 rfl) ?_
                        refine xa_iald hx hb hK hP 3 1 rfl rfl (w := x) (by omega) (by omega) dX2_forks_95 ?_
                        obtain ⟨f, hf1, hf2, hf3, hf4⟩ := hpk.1 x c_84
                        rw [hf2]
                        have hff : f * Sz + Sz ≤ 2 ^ N := fs_le hNB hf1 (by omega)
                        have hfull := alk_full (d := d) (f := f) (b := b) (fv := fv) hg hj hHf hSz hfv hfs hff
                        refine lv_iload hx hb dX2_forks_96 (lv_at hl 6 rfl) ?_
                        refine lv_iload hx hb dX2_forks_98 (lv_at hl 4 rfl) ?_
                        refine va_calli (va_runV (As := [.int (nI j), .int (nI (f * Sz)), .int (nI fv), .int (nI Sz)]) (rest := []) ⟨hx, hb, hml, hown, hts⟩ (c_alike l D _ N bd cZ (nI 0) rb j (f * Sz) fv Sz (by omega) (by omega) (by omega)) (cwV 4 hts (goodIn_mono gX2_alike) rfl rfl rfl (by decide +kernel) ⟨Nat.le_of_ble_eq_true rfl, Nat.le_of_ble_eq_true rfl⟩) ⟨wp0_blind, va_recv hK hP (ci := 2) (q0 := 0) rfl rfl, fun U hU hW => wp0_of (hP.sub [0, 1] rfl) (hK.sub [0] rfl) htb hS no_in hU hW⟩ rfl rfl hl.1 rfl (lv_room (Nat.le_of_ble_eq_true rfl)) dX2_forks_100 ⟨Nat.zero_le _, Nat.zero_le _⟩) hS (fun q _ h => h.elim) (fun q h => h.elim) (fun r_100 u_100 t H1 locs ht hvm hw hB hz1 hk1 hS => ?_)
                        have hP := xa_same hP hk1
                        clear hz1 hk1 hB ht
                        generalize H1 = H at hP hS ⊢
                        subst hw
                        refine xa_if1 (tgt := 112) hx hb dX2_forks_103 (by decide) (fun c_103 => ?_) (fun c_103 => ?_)
                        · refine lv_iload hx hb dX2_forks_112 (lv_at hl 7 rfl) ?_
                          refine lv_iload hx hb dX2_forks_114 (lv_at hl 5 rfl) ?_
                          refine xa_ge (tgt := 122) hx hb (by omega) (by omega) dX2_forks_116 (by decide) (fun c_116 => ?_) (fun c_116 => ?_)
                          · exact absurd c_116 (by omega)
                          · have hnf : ¬ (fi (lof9 (g j) N d) (upf9 (g j) N d) b = true ∧ ¬ lof9 (g j) N d b = upf9 (g j) N d b) := fun q => fi_dup hf1 (hfull.mp c_103) q.1
                            refine lv_goto (tgt := 134) hx hb dX2_forks_119 (by decide) ?_
                            refine lv_iload hx hb dX2_forks_134 (lv_at hl 6 rfl) ?_
                            refine lv_iload hx hb dX2_forks_136 (lv_at hl 4 rfl) ?_
                            refine xa_iadd hx hb dX2_forks_138 ?_
                            refine lv_istore (lv' := [(6, .int (nI (fv + Sz))), (0, .ref (bd 0)), (1, .int (nI j)), (2, .int (nI al)), (3, .int (nI v)), (4, .int (nI Sz)), (5, .int (nI mn)), (7, .int (nI x))]) hx hb dX2_forks_139 hl (by decide) rfl (fun ls hl => ?_)
                            refine lv_goto (tgt := 44) hx hb dX2_forks_141 (by decide) ?_
                            exact ih_44 (b + 1) (fv + Sz) mn p3 _ _ _ (by omega) (by rw [hfv, Nat.succ_mul]) (by rw [hmn]; exact (cf_old hnf).symm) (pok_old hpk hnf) hP hS (lv_sub hl [1, 2, 3, 4, 5, 6, 0] rfl)
                        · refine xa_inc (k := 7) (lv' := [(7, .int (nI (x + 1))), (0, .ref (bd 0)), (1, .int (nI j)), (2, .int (nI al)), (3, .int (nI v)), (4, .int (nI Sz)), (5, .int (nI mn)), (6, .int (nI fv))]) hx hb dX2_forks_106 hl rfl (by decide) rfl (fun ls hl => ?_)
                          refine lv_goto (tgt := 80) hx hb dX2_forks_109 (by decide) ?_
                          exact ih_80 (x + 1)  _ _ _ (by omega) (by omega) (fun y hy f2 hf2b he2 => by by_cases hyx : y = x; (subst hyx; rw [hf2] at he2; rw [← fs_inj hN (by omega) hff (fs_le hNB hf2b (by omega)) he2]; exact fun q => by rw [hfull.mpr q] at c_103; cases c_103); (exact hX y (by omega) f2 hf2b he2)) hP hS (lv_sub hl [1, 2, 3, 4, 5, 6, 7, 0] rfl)
                  exact lp_80 (mn + 1 - 0) 0  _ _ _ (by omega) (by omega) (fun y hy => absurd hy (by omega)) hP hS (lv_sub hl [1, 2, 3, 4, 5, 6, 7, 0] rfl)
                · have hnf : ¬ (fi (lof9 (g j) N d) (upf9 (g j) N d) b = true ∧ ¬ lof9 (g j) N d b = upf9 (g j) N d b) := fun q => q.2 (hhalf.mp c_71)
                  refine lv_goto (tgt := 134) hx hb dX2_forks_74 (by decide) ?_
                  refine lv_iload hx hb dX2_forks_134 (lv_at hl 6 rfl) ?_
                  refine lv_iload hx hb dX2_forks_136 (lv_at hl 4 rfl) ?_
                  refine xa_iadd hx hb dX2_forks_138 ?_
                  refine lv_istore (lv' := [(6, .int (nI (fv + Sz))), (0, .ref (bd 0)), (1, .int (nI j)), (2, .int (nI al)), (3, .int (nI v)), (4, .int (nI Sz)), (5, .int (nI mn))]) hx hb dX2_forks_139 hl (by decide) rfl (fun ls hl => ?_)
                  refine lv_goto (tgt := 44) hx hb dX2_forks_141 (by decide) ?_
                  exact ih_44 (b + 1) (fv + Sz) mn p3 _ _ _ (by omega) (by rw [hfv, Nat.succ_mul]) (by rw [hmn]; exact (cf_old hnf).symm) (pok_old hpk hnf) hP hS (lv_sub hl [1, 2, 3, 4, 5, 6, 0] rfl)
          exact lp_44 (nb9 + 1) 0 0 0 p2 _ _ _ (by omega) (Nat.zero_mul _).symm rfl (pok_0 _ _ _ _) hP hS (lv_sub hl [3, 4, 5, 6, 2, 1, 0] rfl)
    exact lp_18 (N + 1 + 1 - 1) 1 pt 0 _ _ _ (by omega) (by omega) (Nat.le_refl 1) rfl (by omega) hP hS (lv_sub hl [2, 3, 1, 0] rfl)
  · refine lv_iconst (v := (-1)) hx hb dX2_forks_12 (by decide) ?_
    exact W.iret (v := (-1)) hx hb hr (fun t ht hW => ⟨⟨(-1), (rb, mb, pt), rfl, ⟨by unfold sFo; rw [c_9]; rfl, hg⟩, (by show va_P _ _ _ _; rw [ht]; exact hP)⟩, hS.F ht⟩) hS.2.2 dX2_forks_13
