set_option maxHeartbeats 4000000 in
set_option maxRecDepth 100000 in
/-- THE LAW, from its entry -/
theorem whole_start {p : Program} {e : Env} {s : State} {m : MethodId} {below : List Frame} {meth : Method} {c : Code} (l : Launch) {b L : Nat} {xs : Nat → Int32} (hL : L ≤ 2561) (C0 : lw_At p s m meth c b L xs) : W p l e room_1 s m #[Value.ref b] below meth c s.heap [] 0 0 (lw_Z below #[Value.ref b] s) (entryFrame m ([Value.ref b] : List Value).toArray 4) := by
  obtain ⟨hx, hb, hr, hml, hown0, hts, hX, hbl, hlocks, hgv⟩ := id C0
  have hown : s.vm.findClass RL = some m.cls := hown0
  have htb := lw_tb hts hgv
  obtain ⟨D, cJJ, cJ, cI, cZ, hK⟩ := lw_K hts
  have ho : va_AOA .long s := hts (.arrayOver (.array .long)) (by decide +kernel)
  obtain ⟨A, hAe⟩ : ∃ A : Nat → Prop, A = fun q : Nat => s.heap.size ≤ q := ⟨_, rfl⟩
  rw [← hAe] at htb
  have hA : ∀ q : Nat, s.heap.size ≤ q → A q := fun q h => by rw [hAe]; exact h
  have hA2 : ∀ q : Nat, A q → s.heap.size ≤ q := fun q h => by rw [hAe] at h; exact h
  have hbA : ¬ A b := fun h => absurd hbl (Nat.not_lt.mpr (hA2 b h))
  have hS : va_S A s.heap s.heap [] := va_S.rf
  have hP : va_P D vwCl [] s.heap := fun k q h => by simp at h
  have hD : va_D A [] := ⟨fun i j p q h => by simp at h, fun k q h => by simp at h⟩
  have hl := lv_entry ([.ref b]) (n := 4) (Nat.le_of_ble_eq_true rfl)
  rw [lg_entry_eq]
  generalize (lg_sl ([.ref b]) ++ List.replicate (4 - (lg_sl ([.ref b])).length) Slot.unset).toArray = ls at hl ⊢
  have hl : lv_has ls 4 [(0, .ref b)] := hl
  refine va_new (ci := 1) (fs := [.int 0, .int 0, .int 0, .int 0, .long 0, .null, .null, .null, .null, .null]) (C := RX1) (T := TX1) (N := 10) hx hb hts inL_X1 tyX1 tyX1_ok hown (hts (.classLink RL 7 RX1) (by decide +kernel)) (hts (.instantiable RX1 10) (by decide +kernel)) (hts (.initialized RX1) (by decide +kernel)) hK hP hD hS hA rfl (fun j hj => by rcases (show j = 0 ∨ j = 1 ∨ j = 2 ∨ j = 3 ∨ j = 4 ∨ j = 5 ∨ j = 6 ∨ j = 7 ∨ j = 8 ∨ j = 9 by omega) with rfl | rfl | rfl | rfl | rfl | rfl | rfl | rfl | rfl | rfl <;> rfl) (Nat.le_of_ble_eq_true rfl) (Nat.le_of_ble_eq_true rfl) dL_law_0 (fun q0 H hP hD hS => ?_)
  have hP : va_P D vwCl [(q0, .inr (1, [.int 0, .int 0, .int 0, .int 0, .long 0, .null, .null, .null, .null, .null]))] H := hP
  have hD : va_D A [(q0, .inr (1, [.int 0, .int 0, .int 0, .int 0, .long 0, .null, .null, .null, .null, .null]))] := hD
  refine W.widen (k := 1) (n := 10) (by omega) (by omega) ?_
  refine lv_dup hx hb dL_law_3 rfl ?_
  refine lv_aload_n hx hb dL_law_4 rfl (lv_at hl 0 rfl) ?_
  refine lv_iconst (v := nI 0) hx hb dL_law_5 (by decide) ?_
  refine va_calli (va_runS (As := [.ref b, .int (nI 0)]) (rest := [.ref q0, .ref q0]) ⟨hx, hb, hml, hown, hts⟩ (c_cell l _ b L xs hL) (va_cwS 2 hts gL_cell rfl rfl rfl (by decide +kernel) ⟨Nat.le_of_ble_eq_true rfl, Nat.le_of_ble_eq_true rfl⟩) ⟨wpX_blind, fun U hU hW => wpX_of hX hbl hbA hS hU hW⟩ rfl rfl hl.1 rfl (lv_room (Nat.le_of_ble_eq_true rfl)) dL_law_6 ⟨Nat.le_of_ble_eq_true rfl, Nat.le_of_ble_eq_true rfl⟩) hS (fun q _ h => h.elim) (fun q h => h.elim) (fun r1 u1 t1 H1 locs ht hvm hw hB hz1 hk1 hS => ?_)
  have hP := xa_same hP hk1
  generalize H1 = H at hP hS ⊢
  have hw : r1 = x0 L xs := hw
  subst hw
  have hFc : ∀ q, va_A [(q0, .inr (1, [.int 0, .int 0, .int 0, .int 0, .long 0, .null, .null, .null, .null, .null]))] H.size q → A q := A_one (hD.2 0 _ rfl) (fun a h => hA a (Nat.le_trans hS.1 h))
  refine va_callv (va_runI (As := [.int (x0 L xs)]) (rest := [.ref q0]) ⟨hx, hb, hml, hown, hts⟩ (c_dinit l D _ (x0 L xs) q0 cJJ cJ cI) (cwI 1 hts gL_X1_init rfl rfl rfl (hts (.initialized RX1) (by decide +kernel)) (hts (.methodLink RL 15 yX1_init) (by decide +kernel)) (hts (.instanceMethod yX1_init) (by decide +kernel)) rfl (by decide +kernel) ⟨Nat.le_of_ble_eq_true rfl, Nat.le_of_ble_eq_true rfl⟩) ⟨wp1_blind, fun U hU hW => wp1_of hP (hK.sub [0, 1, 2] rfl) htb hS hFc ho hU hW⟩ rfl rfl hl.1 rfl (lv_room (Nat.le_of_ble_eq_true rfl)) dL_law_9 ⟨Nat.le_of_ble_eq_true rfl, Nat.le_of_ble_eq_true rfl⟩) hS (fun q _ h => hFc q h) hFc (fun ad t H1 locs ht hvm hw hB hz1 hk1 hS => ?_)
  obtain ⟨had0, hao0, hPd⟩ := hB
  rw [ht] at hPd
  have haoD : aok A ad := ⟨hao0.1, fun i hi => hFc _ (hao0.2 i hi)⟩
  generalize H1 = H at hPd hS ⊢
  refine W.widen (k := 42) (n := 12610) (Nat.le_of_ble_eq_true rfl) (Nat.le_of_ble_eq_true rfl) ?_
  refine lv_astore_n (lv' := [(1, .ref q0), (0, .ref b)]) hx hb dL_law_12 rfl hl (by decide) rfl (fun ls hl => ?_)
  refine va_new (ci := 2) (fs := [.int 0, .int 0, .int 0, .null, .null, .null]) (C := RX2) (T := TX2) (N := 6) hx hb hts inL_X2 tyX2 tyX2_ok hown (hts (.classLink RL 18 RX2) (by decide +kernel)) (hts (.instantiable RX2 6) (by decide +kernel)) (hts (.initialized RX2) (by decide +kernel)) hK hPd (dk_D haoD) hS hA rfl (fun j hj => by rcases (show j = 0 ∨ j = 1 ∨ j = 2 ∨ j = 3 ∨ j = 4 ∨ j = 5 by omega) with rfl | rfl | rfl | rfl | rfl | rfl <;> rfl) (Nat.le_of_ble_eq_true rfl) (Nat.le_of_ble_eq_true rfl) dL_law_13 (fun q1 H hP hD hS => ?_)
  have hPd := P_fst hP
  have hPq := P_lst hP
  have hq1 : A q1 := D_lst hD
  have hne : ∀ i, i < 42 → ad i ≠ q1 := fun i hi => by
    obtain ⟨x, hx9⟩ := dk_at (nOf (x0 L xs)) ad cJJ cJ cI (fun _ => 0) (fun _ => 0) (fun _ => 0) (fun _ => 0) (fun _ => 0) (fun _ => 0) (fun _ => 0) (fun _ _ => 0) i hi
    exact D_ne hD hx9
  refine W.widen (k := 43) (n := 12616) (Nat.le_of_ble_eq_true rfl) (Nat.le_of_ble_eq_true rfl) ?_
  refine lv_dup hx hb dL_law_16 rfl ?_
  refine lv_aload_n hx hb dL_law_17 rfl (lv_at hl 1 rfl) ?_
  refine lv_iconst (v := nI 0) hx hb dL_law_18 (by decide) ?_
  refine va_calli (va_runS (As := [.ref b, .int (nI 0)]) (rest := [.ref q1, .ref q1]) ⟨hx, hb, hml, hown, hts⟩ (c_cell l _ b L xs hL) (va_cwS 2 hts gL_cell rfl rfl rfl (by decide +kernel) ⟨Nat.le_of_ble_eq_true rfl, Nat.le_of_ble_eq_true rfl⟩) ⟨wpX_blind, fun U hU hW => wpX_of hX hbl hbA hS hU hW⟩ rfl rfl hl.1 rfl (lv_room (Nat.le_of_ble_eq_true rfl)) dL_law_19 ⟨Nat.le_of_ble_eq_true rfl, Nat.le_of_ble_eq_true rfl⟩) hS (fun q _ h => h.elim) (fun q h => h.elim) (fun r1 u1 t1 H1 locs ht hvm hw hB hz1 hk1 hS => ?_)
  have hPd := xa_same hPd hk1
  have hPq := xa_same hPq hk1
  generalize H1 = H at hPd hPq hS ⊢
  have hw : r1 = x0 L xs := hw
  subst hw
  have hFc : ∀ q, va_A [(q1, .inr (2, [.int 0, .int 0, .int 0, .null, .null, .null]))] H.size q → A q := A_one hq1 (fun a h => hA a (Nat.le_trans hS.1 h))
  refine va_callv (va_runI (As := [.int (x0 L xs)]) (rest := [.ref q1]) ⟨hx, hb, hml, hown, hts⟩ (c_minit l D _ (x0 L xs) q1 cZ cI) (cwI 1 hts gL_X2_init rfl rfl rfl (hts (.initialized RX2) (by decide +kernel)) (hts (.methodLink RL 20 yX2_init) (by decide +kernel)) (hts (.instanceMethod yX2_init) (by decide +kernel)) rfl (by decide +kernel) ⟨Nat.le_of_ble_eq_true rfl, Nat.le_of_ble_eq_true rfl⟩) ⟨wp0_blind, fun U hU hW => wp0_of hPq (hK.sub [3, 2] rfl) htb hS hFc hU hW⟩ rfl rfl hl.1 rfl (lv_room (Nat.le_of_ble_eq_true rfl)) dL_law_22 ⟨Nat.le_of_ble_eq_true rfl, Nat.le_of_ble_eq_true rfl⟩) hS (fun q _ h => hFc q h) hFc (fun u t H1 locs ht hvm hw hB hz1 hk1 hS => ?_)
  obtain ⟨hPm, hDm⟩ := hB
  rw [ht, mm_md] at hPm
  have hao4 := mm_ok hDm
  have haoM : aok4 A (bdOf q1 u) := ⟨hao4.1, fun i hi => hFc _ (hao4.2 i hi)⟩
  have hlt : ∀ i, i < 42 → ad i < H.size := fun i hi => by
    obtain ⟨x, hx9⟩ := dk_at (nOf (x0 L xs)) ad cJJ cJ cI (fun _ => 0) (fun _ => 0) (fun _ => 0) (fun _ => 0) (fun _ => 0) (fun _ => 0) (fun _ => 0) (fun _ _ => 0) i hi
    exact (hPd i _ hx9).lt
  have hnot : ∀ i, i < 42 → ¬ va_A [(q1, .inr (2, [.int 0, .int 0, .int 0, .null, .null, .null]))] H.size (ad i) := fun i hi h => by
    have := A_one (A := fun a => a = q1 ∨ H.size ≤ a) (Or.inl rfl) (fun a h => Or.inr h) (ad i) h
    rcases this with h9 | h9
    · exact hne i hi h9
    · exact absurd (hlt i hi) (Nat.not_lt.mpr h9)
  have hap : ∀ i j, i < 42 → j < 4 → ad i ≠ bdOf q1 u j := fun i j hi hj h => hnot i hi (by rw [h]; exact hao4.2 j hj)
  have hPd := hPd.kept (fun k q hq => by
    have hlt9 := (hPd k q hq).lt
    obtain ⟨h1, h2⟩ := dk_adr hq
    exact hk1 q.1 hlt9 (by rw [h2]; exact hnot k h1))
  generalize H1 = H at hPd hPm hS ⊢
  refine W.widen (k := 46) (n := 149832) (Nat.le_of_ble_eq_true rfl) (Nat.le_of_ble_eq_true rfl) ?_
  refine lv_astore_n (lv' := [(2, .ref q1), (1, .ref q0), (0, .ref b)]) hx hb dL_law_25 rfl hl (by decide) rfl (fun ls hl => ?_)
  refine lv_iconst (v := nI 1) hx hb dL_law_26 (by decide) ?_
  refine lv_istore_n (lv' := [(3, .int (nI 1)), (2, .ref q1), (1, .ref q0), (0, .ref b)]) hx hb dL_law_27 rfl hl (by decide) rfl (fun ls hl => ?_)
  obtain ⟨hn1, hn2⟩ := nOf_le (x0 L xs)
  subst had0
  exact law_loop hL C0 hA hbA hn1 hn2 haoD haoM hap hK htb hA2 (L + 1) 0 (Nat.zero_le L) (by omega) (fun _ _ => false) (fun _ => 0, fun _ => 0, fun _ => 0, fun _ => 0, fun _ => 0, fun _ => 0, fun _ => 0, fun _ _ => 0) 0 (fun _ => false, fun _ => false, fun _ => 0) H locs (okG_0 _) (okM_0 _) hPd hPm hS ls (lv_sub hl [3, 2, 1, 0] rfl)
