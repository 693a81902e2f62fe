set_option maxHeartbeats 4000000 in
set_option maxRecDepth 100000 in
theorem arm_constant {p : Program} {l : Launch} {e : Env} {s : State} {m : MethodId} {below : List Frame} {meth : Method} {c : Code} {b L : Nat} {xs : Nat → Int32} (hL : L ≤ 2561) (C0 : lw_At p s m meth c b L xs) {D : va_G} {A : Nat → Prop} (hA : ∀ q, s.heap.size ≤ q → A q) (hbA : ¬ A b) {N : Nat} (hN1 : 1 ≤ N) (hN : N ≤ 12) {ad bd : Nat → Nat} (haoD : aok A ad) (haoM : aok4 A bd) (hap : ∀ i j, i < 42 → j < 4 → ad i ≠ bd j) {cJJ cJ cI cZ : ClassId} (hK : va_K D vwCl (lwT cJJ cJ cI cZ) s) (htb : tbl A s s.heap) {t : Nat} (hi : 5 * t + 6 ≤ L) {g : Nat → Nat → Bool} {dr re : Nat → Int64} {tu kd uh bf la : Nat → Int32} {G : Nat → Nat → Int64} (hg : okG N G g) {th : Int32} {rb mb : Nat → Bool} {pt : Nat → Int32} (hm : okM N rb g) {H : Heap} {locs : List Loc} (hPd : va_P D vwCl (dkW N ad cJJ cJ cI dr re tu kd uh bf la G) H) (hPm : va_P D vwCl (mdW N bd cZ cI th rb mb pt) H) (hS : va_S A s.heap H locs) {ls : Array Slot} (hl : lv_has ls 4 [(0, .ref b), (1, .ref (ad 0)), (2, .ref (bd 0)), (3, .int (nI (5 * t + 1)))])
    (kk : ∀ (g : Nat → Nat → Bool) (u : dkS) (v : (Nat → Bool) × (Nat → Bool) × (Nat → Int32)) (H : Heap) (locs : List Loc), okG N (dkR u) g → okM N v.1 g → va_P D vwCl (dkU N ad cJJ cJ cI u) H → va_P D vwCl (mdW N bd cZ cI (nI 0) v.1 v.2.1 v.2.2) H → va_S A s.heap H locs → W p l e room_1 s m #[Value.ref b] below meth c H locs 46 149832 (lw_Z below #[Value.ref b] s) (F0 m 664 ls [])) : W p l e room_1 s m #[Value.ref b] below meth c H locs 46 149832 (lw_Z below #[Value.ref b] s) (F0 m 112 ls []) := by
  obtain ⟨hx, hb, hr, hml, hown0, hts, hX, hbl, hlocks, hgv⟩ := C0
  have hown : s.vm.findClass RL = some m.cls := hown0
  refine lv_aload_n hx hb dL_law_112 rfl (lv_at hl 1 rfl) ?_
  refine lv_aload_n hx hb dL_law_113 rfl (lv_at hl 0 rfl) ?_
  refine lv_iload_n hx hb dL_law_114 rfl (lv_at hl 3 rfl) ?_
  refine lv_iconst (v := nI 1) hx hb dL_law_115 (by decide) ?_
  refine xa_iadd hx hb dL_law_116 ?_
  refine xa_sld hx hb hX hbl hbA hS (by omega) (by omega) dL_law_117 ?_
  refine lv_aload_n hx hb dL_law_118 rfl (lv_at hl 0 rfl) ?_
  refine lv_iload_n hx hb dL_law_119 rfl (lv_at hl 3 rfl) ?_
  refine lv_iconst (v := nI 2) hx hb dL_law_120 (by decide) ?_
  refine xa_iadd hx hb dL_law_121 ?_
  refine xa_sld hx hb hX hbl hbA hS (by omega) (by omega) dL_law_122 ?_
  refine va_calli (va_runV (As := [.int (xs (5 * t + 1 + 1)), .int (xs (5 * t + 1 + 2))]) (rest := []) ⟨hx, hb, hml, hown, hts⟩ (c_constant l D _ N hN1 hN ad (aok_true haoD) cJJ cJ cI dr re tu kd uh bf la G g hg (xs (5 * t + 1 + 1)) (xs (5 * t + 1 + 2))) (cwV 2 hts gL_X1_constant rfl rfl rfl (by decide +kernel) ⟨Nat.le_of_ble_eq_true rfl, Nat.le_of_ble_eq_true rfl⟩) ⟨wp0_blind, va_recv hK hPd (ci := 1) (q0 := 0) rfl rfl, fun U hU hW => wp0_of hPd (hK.sub [0, 1, 2] rfl) htb hS (fr_in haoD hS hA) hU hW⟩ rfl rfl hl.1 rfl (lv_room (Nat.le_of_ble_eq_true rfl)) dL_law_123 ⟨Nat.le_of_ble_eq_true rfl, Nat.le_of_ble_eq_true rfl⟩) hS (fun q _ h => fr_in haoD hS hA q h) (fun q h => fr_in haoD hS hA q h) (fun r1 u t1 H1 locs ht hvm hw hB hz1 hk1 hS => ?_)
  obtain ⟨e1, hg1⟩ := hw
  rw [ht] at hB
  have hPm := md_kept hPm hap hk1
  have hPd := hB
  generalize H1 = H at hPd hPm hS ⊢
  refine lv_aload_n hx hb dL_law_126 rfl (lv_at hl 2 rfl) ?_
  refine lv_aload_n hx hb dL_law_127 rfl (lv_at hl 0 rfl) ?_
  refine lv_iload_n hx hb dL_law_128 rfl (lv_at hl 3 rfl) ?_
  refine lv_iconst (v := nI 1) hx hb dL_law_129 (by decide) ?_
  refine xa_iadd hx hb dL_law_130 ?_
  refine xa_sld hx hb hX hbl hbA hS (by omega) (by omega) dL_law_131 ?_
  refine lv_aload_n hx hb dL_law_132 rfl (lv_at hl 0 rfl) ?_
  refine lv_iload_n hx hb dL_law_133 rfl (lv_at hl 3 rfl) ?_
  refine lv_iconst (v := nI 2) hx hb dL_law_134 (by decide) ?_
  refine xa_iadd hx hb dL_law_135 ?_
  refine xa_sld hx hb hX hbl hbA hS (by omega) (by omega) dL_law_136 ?_
  refine va_calli (va_runV (As := [.int (xs (5 * t + 1 + 1)), .int (xs (5 * t + 1 + 2))]) (rest := [.int r1]) ⟨hx, hb, hml, hown, hts⟩ (c_mConstant l D _ N hN1 hN bd (aok4_true haoM) cZ cI th rb mb pt g hm (xs (5 * t + 1 + 1)) (xs (5 * t + 1 + 2))) (cwV 2 hts gL_X2_constant rfl rfl rfl (by decide +kernel) ⟨Nat.le_of_ble_eq_true rfl, Nat.le_of_ble_eq_true rfl⟩) ⟨wp0_blind, va_recv hK hPm (ci := 2) (q0 := 0) rfl rfl, fun U hU hW => wp0_of hPm (hK.sub [3, 2] rfl) htb hS (fr4_in haoM hS hA) hU hW⟩ rfl rfl hl.1 rfl (lv_room (Nat.le_of_ble_eq_true rfl)) dL_law_137 ⟨Nat.le_of_ble_eq_true rfl, Nat.le_of_ble_eq_true rfl⟩) hS (fun q _ h => fr4_in haoM hS hA q h) (fun q h => fr4_in haoM hS hA q h) (fun r2 v t2 H2 locs ht2 hvm2 hw2 hB2 hz2 hk2 hS => ?_)
  obtain ⟨e2, hm2⟩ := hw2
  rw [ht2] at hB2
  have hPd := dk_kept hPd hap hk2
  exact lv_icmp_eq (tgt := 664) hx hb dL_law_140 (by decide) (fun _ => kk _ u v H2 locs hg1 hm2 hPd hB2 hS) (fun h => absurd (e1.trans e2.symm) h)
set_option maxHeartbeats 4000000 in
set_option maxRecDepth 100000 in
theorem arm_variable {p : Program} {l : Launch} {e : Env} {s : State} {m : MethodId} {below : List Frame} {meth : Method} {c : Code} {b L : Nat} {xs : Nat → Int32} (hL : L ≤ 2561) (C0 : lw_At p s m meth c b L xs) {D : va_G} {A : Nat → Prop} (hA : ∀ q, s.heap.size ≤ q → A q) (hbA : ¬ A b) {N : Nat} (hN1 : 1 ≤ N) (hN : N ≤ 12) {ad bd : Nat → Nat} (haoD : aok A ad) (haoM : aok4 A bd) (hap : ∀ i j, i < 42 → j < 4 → ad i ≠ bd j) {cJJ cJ cI cZ : ClassId} (hK : va_K D vwCl (lwT cJJ cJ cI cZ) s) (htb : tbl A s s.heap) {t : Nat} (hi : 5 * t + 6 ≤ L) {g : Nat → Nat → Bool} {dr re : Nat → Int64} {tu kd uh bf la : Nat → Int32} {G : Nat → Nat → Int64} (hg : okG N G g) {th : Int32} {rb mb : Nat → Bool} {pt : Nat → Int32} (hm : okM N rb g) {H : Heap} {locs : List Loc} (hPd : va_P D vwCl (dkW N ad cJJ cJ cI dr re tu kd uh bf la G) H) (hPm : va_P D vwCl (mdW N bd cZ cI th rb mb pt) H) (hS : va_S A s.heap H locs) {ls : Array Slot} (hl : lv_has ls 4 [(0, .ref b), (1, .ref (ad 0)), (2, .ref (bd 0)), (3, .int (nI (5 * t + 1)))])
    (kk : ∀ (g : Nat → Nat → Bool) (u : dkS) (v : (Nat → Bool) × (Nat → Bool) × (Nat → Int32)) (H : Heap) (locs : List Loc), okG N (dkR u) g → okM N v.1 g → va_P D vwCl (dkU N ad cJJ cJ cI u) H → va_P D vwCl (mdW N bd cZ cI (nI 0) v.1 v.2.1 v.2.2) H → va_S A s.heap H locs → W p l e room_1 s m #[Value.ref b] below meth c H locs 46 149832 (lw_Z below #[Value.ref b] s) (F0 m 664 ls [])) : W p l e room_1 s m #[Value.ref b] below meth c H locs 46 149832 (lw_Z below #[Value.ref b] s) (F0 m 145 ls []) := by
  obtain ⟨hx, hb, hr, hml, hown0, hts, hX, hbl, hlocks, hgv⟩ := C0
  have hown : s.vm.findClass RL = some m.cls := hown0
  refine lv_aload_n hx hb dL_law_145 rfl (lv_at hl 1 rfl) ?_
  refine lv_aload_n hx hb dL_law_146 rfl (lv_at hl 0 rfl) ?_
  refine lv_iload_n hx hb dL_law_147 rfl (lv_at hl 3 rfl) ?_
  refine lv_iconst (v := nI 1) hx hb dL_law_148 (by decide) ?_
  refine xa_iadd hx hb dL_law_149 ?_
  refine xa_sld hx hb hX hbl hbA hS (by omega) (by omega) dL_law_150 ?_
  refine lv_aload_n hx hb dL_law_151 rfl (lv_at hl 0 rfl) ?_
  refine lv_iload_n hx hb dL_law_152 rfl (lv_at hl 3 rfl) ?_
  refine lv_iconst (v := nI 2) hx hb dL_law_153 (by decide) ?_
  refine xa_iadd hx hb dL_law_154 ?_
  refine xa_sld hx hb hX hbl hbA hS (by omega) (by omega) dL_law_155 ?_
  refine va_calli (va_runV (As := [.int (xs (5 * t + 1 + 1)), .int (xs (5 * t + 1 + 2))]) (rest := []) ⟨hx, hb, hml, hown, hts⟩ (c_variable l D _ N hN1 hN ad (aok_true haoD) cJJ cJ cI dr re tu kd uh bf la G g hg (xs (5 * t + 1 + 1)) (xs (5 * t + 1 + 2))) (cwV 2 hts gL_X1_variable rfl rfl rfl (by decide +kernel) ⟨Nat.le_of_ble_eq_true rfl, Nat.le_of_ble_eq_true rfl⟩) ⟨wp0_blind, va_recv hK hPd (ci := 1) (q0 := 0) rfl rfl, fun U hU hW => wp0_of hPd (hK.sub [0, 1, 2] rfl) htb hS (fr_in haoD hS hA) hU hW⟩ rfl rfl hl.1 rfl (lv_room (Nat.le_of_ble_eq_true rfl)) dL_law_156 ⟨Nat.le_of_ble_eq_true rfl, Nat.le_of_ble_eq_true rfl⟩) hS (fun q _ h => fr_in haoD hS hA q h) (fun q h => fr_in haoD hS hA q h) (fun r1 u t1 H1 locs ht hvm hw hB hz1 hk1 hS => ?_)
  obtain ⟨e1, hg1⟩ := hw
  rw [ht] at hB
  have hPm := md_kept hPm hap hk1
  have hPd := hB
  generalize H1 = H at hPd hPm hS ⊢
  refine lv_aload_n hx hb dL_law_159 rfl (lv_at hl 2 rfl) ?_
  refine lv_aload_n hx hb dL_law_160 rfl (lv_at hl 0 rfl) ?_
  refine lv_iload_n hx hb dL_law_161 rfl (lv_at hl 3 rfl) ?_
  refine lv_iconst (v := nI 1) hx hb dL_law_162 (by decide) ?_
  refine xa_iadd hx hb dL_law_163 ?_
  refine xa_sld hx hb hX hbl hbA hS (by omega) (by omega) dL_law_164 ?_
  refine lv_aload_n hx hb dL_law_165 rfl (lv_at hl 0 rfl) ?_
  refine lv_iload_n hx hb dL_law_166 rfl (lv_at hl 3 rfl) ?_
  refine lv_iconst (v := nI 2) hx hb dL_law_167 (by decide) ?_
  refine xa_iadd hx hb dL_law_168 ?_
  refine xa_sld hx hb hX hbl hbA hS (by omega) (by omega) dL_law_169 ?_
  refine va_calli (va_runV (As := [.int (xs (5 * t + 1 + 1)), .int (xs (5 * t + 1 + 2))]) (rest := [.int r1]) ⟨hx, hb, hml, hown, hts⟩ (c_mVariable l D _ N hN1 hN bd (aok4_true haoM) cZ cI th rb mb pt g hm (xs (5 * t + 1 + 1)) (xs (5 * t + 1 + 2))) (cwV 2 hts gL_X2_variable rfl rfl rfl (by decide +kernel) ⟨Nat.le_of_ble_eq_true rfl, Nat.le_of_ble_eq_true rfl⟩) ⟨wp0_blind, va_recv hK hPm (ci := 2) (q0 := 0) rfl rfl, fun U hU hW => wp0_of hPm (hK.sub [3, 2] rfl) htb hS (fr4_in haoM hS hA) hU hW⟩ rfl rfl hl.1 rfl (lv_room (Nat.le_of_ble_eq_true rfl)) dL_law_170 ⟨Nat.le_of_ble_eq_true rfl, Nat.le_of_ble_eq_true rfl⟩) hS (fun q _ h => fr4_in haoM hS hA q h) (fun q h => fr4_in haoM hS hA q h) (fun r2 v t2 H2 locs ht2 hvm2 hw2 hB2 hz2 hk2 hS => ?_)
  obtain ⟨e2, hm2⟩ := hw2
  rw [ht2] at hB2
  have hPd := dk_kept hPd hap hk2
  exact lv_icmp_eq (tgt := 664) hx hb dL_law_173 (by decide) (fun _ => kk _ u v H2 locs hg1 hm2 hPd hB2 hS) (fun h => absurd (e1.trans e2.symm) h)
set_option maxHeartbeats 4000000 in
set_option maxRecDepth 100000 in
theorem arm_combine {p : Program} {l : Launch} {e : Env} {s : State} {m : MethodId} {below : List Frame} {meth : Method} {c : Code} {b L : Nat} {xs : Nat → Int32} (hL : L ≤ 2561) (C0 : lw_At p s m meth c b L xs) {D : va_G} {A : Nat → Prop} (hA : ∀ q, s.heap.size ≤ q → A q) (hbA : ¬ A b) {N : Nat} (hN1 : 1 ≤ N) (hN : N ≤ 12) {ad bd : Nat → Nat} (haoD : aok A ad) (haoM : aok4 A bd) (hap : ∀ i j, i < 42 → j < 4 → ad i ≠ bd j) {cJJ cJ cI cZ : ClassId} (hK : va_K D vwCl (lwT cJJ cJ cI cZ) s) (htb : tbl A s s.heap) {t : Nat} (hi : 5 * t + 6 ≤ L) {g : Nat → Nat → Bool} {dr re : Nat → Int64} {tu kd uh bf la : Nat → Int32} {G : Nat → Nat → Int64} (hg : okG N G g) {th : Int32} {rb mb : Nat → Bool} {pt : Nat → Int32} (hm : okM N rb g) {H : Heap} {locs : List Loc} (hPd : va_P D vwCl (dkW N ad cJJ cJ cI dr re tu kd uh bf la G) H) (hPm : va_P D vwCl (mdW N bd cZ cI th rb mb pt) H) (hS : va_S A s.heap H locs) {ls : Array Slot} (hl : lv_has ls 4 [(0, .ref b), (1, .ref (ad 0)), (2, .ref (bd 0)), (3, .int (nI (5 * t + 1)))])
    (kk : ∀ (g : Nat → Nat → Bool) (u : dkS) (v : (Nat → Bool) × (Nat → Bool) × (Nat → Int32)) (H : Heap) (locs : List Loc), okG N (dkR u) g → okM N v.1 g → va_P D vwCl (dkU N ad cJJ cJ cI u) H → va_P D vwCl (mdW N bd cZ cI (nI 0) v.1 v.2.1 v.2.2) H → va_S A s.heap H locs → W p l e room_1 s m #[Value.ref b] below meth c H locs 46 149832 (lw_Z below #[Value.ref b] s) (F0 m 664 ls [])) : W p l e room_1 s m #[Value.ref b] below meth c H locs 46 149832 (lw_Z below #[Value.ref b] s) (F0 m 178 ls []) := by
  obtain ⟨hx, hb, hr, hml, hown0, hts, hX, hbl, hlocks, hgv⟩ := C0
  have hown : s.vm.findClass RL = some m.cls := hown0
  refine lv_aload_n hx hb dL_law_178 rfl (lv_at hl 1 rfl) ?_
  refine lv_aload_n hx hb dL_law_179 rfl (lv_at hl 0 rfl) ?_
  refine lv_iload_n hx hb dL_law_180 rfl (lv_at hl 3 rfl) ?_
  refine lv_iconst (v := nI 1) hx hb dL_law_181 (by decide) ?_
  refine xa_iadd hx hb dL_law_182 ?_
  refine xa_sld hx hb hX hbl hbA hS (by omega) (by omega) dL_law_183 ?_
  refine lv_aload_n hx hb dL_law_184 rfl (lv_at hl 0 rfl) ?_
  refine lv_iload_n hx hb dL_law_185 rfl (lv_at hl 3 rfl) ?_
  refine lv_iconst (v := nI 2) hx hb dL_law_186 (by decide) ?_
  refine xa_iadd hx hb dL_law_187 ?_
  refine xa_sld hx hb hX hbl hbA hS (by omega) (by omega) dL_law_188 ?_
  refine lv_aload_n hx hb dL_law_189 rfl (lv_at hl 0 rfl) ?_
  refine lv_iload_n hx hb dL_law_190 rfl (lv_at hl 3 rfl) ?_
  refine lv_iconst (v := nI 3) hx hb dL_law_191 (by decide) ?_
  refine xa_iadd hx hb dL_law_192 ?_
  refine xa_sld hx hb hX hbl hbA hS (by omega) (by omega) dL_law_193 ?_
  refine lv_aload_n hx hb dL_law_194 rfl (lv_at hl 0 rfl) ?_
  refine lv_iload_n hx hb dL_law_195 rfl (lv_at hl 3 rfl) ?_
  refine lv_iconst (v := nI 4) hx hb dL_law_196 (by decide) ?_
  refine xa_iadd hx hb dL_law_197 ?_
  refine xa_sld hx hb hX hbl hbA hS (by omega) (by omega) dL_law_198 ?_
  refine va_calli (va_runV (As := [.int (xs (5 * t + 1 + 1)), .int (xs (5 * t + 1 + 2)), .int (xs (5 * t + 1 + 3)), .int (xs (5 * t + 1 + 4))]) (rest := []) ⟨hx, hb, hml, hown, hts⟩ (c_combine l D _ N hN1 hN ad (aok_true haoD) cJJ cJ cI dr re tu kd uh bf la G g hg (xs (5 * t + 1 + 1)) (xs (5 * t + 1 + 2)) (xs (5 * t + 1 + 3)) (xs (5 * t + 1 + 4))) (cwV 4 hts gL_X1_combine rfl rfl rfl (by decide +kernel) ⟨Nat.le_of_ble_eq_true rfl, Nat.le_of_ble_eq_true rfl⟩) ⟨wp0_blind, va_recv hK hPd (ci := 1) (q0 := 0) rfl rfl, fun U hU hW => wp0_of hPd (hK.sub [0, 1, 2] rfl) htb hS (fr_in haoD hS hA) hU hW⟩ rfl rfl hl.1 rfl (lv_room (Nat.le_of_ble_eq_true rfl)) dL_law_199 ⟨Nat.le_of_ble_eq_true rfl, Nat.le_of_ble_eq_true rfl⟩) hS (fun q _ h => fr_in haoD hS hA q h) (fun q h => fr_in haoD hS hA q h) (fun r1 u t1 H1 locs ht hvm hw hB hz1 hk1 hS => ?_)
  obtain ⟨e1, hg1⟩ := hw
  rw [ht] at hB
  have hPm := md_kept hPm hap hk1
  have hPd := hB
  generalize H1 = H at hPd hPm hS ⊢
  refine lv_aload_n hx hb dL_law_202 rfl (lv_at hl 2 rfl) ?_
  refine lv_aload_n hx hb dL_law_203 rfl (lv_at hl 0 rfl) ?_
  refine lv_iload_n hx hb dL_law_204 rfl (lv_at hl 3 rfl) ?_
  refine lv_iconst (v := nI 1) hx hb dL_law_205 (by decide) ?_
  refine xa_iadd hx hb dL_law_206 ?_
  refine xa_sld hx hb hX hbl hbA hS (by omega) (by omega) dL_law_207 ?_
  refine lv_aload_n hx hb dL_law_208 rfl (lv_at hl 0 rfl) ?_
  refine lv_iload_n hx hb dL_law_209 rfl (lv_at hl 3 rfl) ?_
  refine lv_iconst (v := nI 2) hx hb dL_law_210 (by decide) ?_
  refine xa_iadd hx hb dL_law_211 ?_
  refine xa_sld hx hb hX hbl hbA hS (by omega) (by omega) dL_law_212 ?_
  refine lv_aload_n hx hb dL_law_213 rfl (lv_at hl 0 rfl) ?_
  refine lv_iload_n hx hb dL_law_214 rfl (lv_at hl 3 rfl) ?_
  refine lv_iconst (v := nI 3) hx hb dL_law_215 (by decide) ?_
  refine xa_iadd hx hb dL_law_216 ?_
  refine xa_sld hx hb hX hbl hbA hS (by omega) (by omega) dL_law_217 ?_
  refine lv_aload_n hx hb dL_law_218 rfl (lv_at hl 0 rfl) ?_
  refine lv_iload_n hx hb dL_law_219 rfl (lv_at hl 3 rfl) ?_
  refine lv_iconst (v := nI 4) hx hb dL_law_220 (by decide) ?_
  refine xa_iadd hx hb dL_law_221 ?_
  refine xa_sld hx hb hX hbl hbA hS (by omega) (by omega) dL_law_222 ?_
  refine va_calli (va_runV (As := [.int (xs (5 * t + 1 + 1)), .int (xs (5 * t + 1 + 2)), .int (xs (5 * t + 1 + 3)), .int (xs (5 * t + 1 + 4))]) (rest := [.int r1]) ⟨hx, hb, hml, hown, hts⟩ (c_mCombine l D _ N hN1 hN bd (aok4_true haoM) cZ cI th rb mb pt g hm (xs (5 * t + 1 + 1)) (xs (5 * t + 1 + 2)) (xs (5 * t + 1 + 3)) (xs (5 * t + 1 + 4))) (cwV 4 hts gL_X2_combine rfl rfl rfl (by decide +kernel) ⟨Nat.le_of_ble_eq_true rfl, Nat.le_of_ble_eq_true rfl⟩) ⟨wp0_blind, va_recv hK hPm (ci := 2) (q0 := 0) rfl rfl, fun U hU hW => wp0_of hPm (hK.sub [3, 2] rfl) htb hS (fr4_in haoM hS hA) hU hW⟩ rfl rfl hl.1 rfl (lv_room (Nat.le_of_ble_eq_true rfl)) dL_law_223 ⟨Nat.le_of_ble_eq_true rfl, Nat.le_of_ble_eq_true rfl⟩) hS (fun q _ h => fr4_in haoM hS hA q h) (fun q h => fr4_in haoM hS hA q h) (fun r2 v t2 H2 locs ht2 hvm2 hw2 hB2 hz2 hk2 hS => ?_)
  obtain ⟨e2, hm2⟩ := hw2
  rw [ht2] at hB2
  have hPd := dk_kept hPd hap hk2
  exact lv_icmp_eq (tgt := 664) hx hb dL_law_226 (by decide) (fun _ => kk _ u v H2 locs hg1 hm2 hPd hB2 hS) (fun h => absurd (e1.trans e2.symm) h)
set_option maxHeartbeats 4000000 in
set_option maxRecDepth 100000 in
theorem arm_choose {p : Program} {l : Launch} {e : Env} {s : State} {m : MethodId} {below : List Frame} {meth : Method} {c : Code} {b L : Nat} {xs : Nat → Int32} (hL : L ≤ 2561) (C0 : lw_At p s m meth c b L xs) {D : va_G} {A : Nat → Prop} (hA : ∀ q, s.heap.size ≤ q → A q) (hbA : ¬ A b) {N : Nat} (hN1 : 1 ≤ N) (hN : N ≤ 12) {ad bd : Nat → Nat} (haoD : aok A ad) (haoM : aok4 A bd) (hap : ∀ i j, i < 42 → j < 4 → ad i ≠ bd j) {cJJ cJ cI cZ : ClassId} (hK : va_K D vwCl (lwT cJJ cJ cI cZ) s) (htb : tbl A s s.heap) {t : Nat} (hi : 5 * t + 6 ≤ L) {g : Nat → Nat → Bool} {dr re : Nat → Int64} {tu kd uh bf la : Nat → Int32} {G : Nat → Nat → Int64} (hg : okG N G g) {th : Int32} {rb mb : Nat → Bool} {pt : Nat → Int32} (hm : okM N rb g) {H : Heap} {locs : List Loc} (hPd : va_P D vwCl (dkW N ad cJJ cJ cI dr re tu kd uh bf la G) H) (hPm : va_P D vwCl (mdW N bd cZ cI th rb mb pt) H) (hS : va_S A s.heap H locs) {ls : Array Slot} (hl : lv_has ls 4 [(0, .ref b), (1, .ref (ad 0)), (2, .ref (bd 0)), (3, .int (nI (5 * t + 1)))])
    (kk : ∀ (g : Nat → Nat → Bool) (u : dkS) (v : (Nat → Bool) × (Nat → Bool) × (Nat → Int32)) (H : Heap) (locs : List Loc), okG N (dkR u) g → okM N v.1 g → va_P D vwCl (dkU N ad cJJ cJ cI u) H → va_P D vwCl (mdW N bd cZ cI (nI 0) v.1 v.2.1 v.2.2) H → va_S A s.heap H locs → W p l e room_1 s m #[Value.ref b] below meth c H locs 46 149832 (lw_Z below #[Value.ref b] s) (F0 m 664 ls [])) : W p l e room_1 s m #[Value.ref b] below meth c H locs 46 149832 (lw_Z below #[Value.ref b] s) (F0 m 231 ls []) := by
  obtain ⟨hx, hb, hr, hml, hown0, hts, hX, hbl, hlocks, hgv⟩ := C0
  have hown : s.vm.findClass RL = some m.cls := hown0
  refine lv_aload_n hx hb dL_law_231 rfl (lv_at hl 1 rfl) ?_
  refine lv_aload_n hx hb dL_law_232 rfl (lv_at hl 0 rfl) ?_
  refine lv_iload_n hx hb dL_law_233 rfl (lv_at hl 3 rfl) ?_
  refine lv_iconst (v := nI 1) hx hb dL_law_234 (by decide) ?_
  refine xa_iadd hx hb dL_law_235 ?_
  refine xa_sld hx hb hX hbl hbA hS (by omega) (by omega) dL_law_236 ?_
  refine lv_aload_n hx hb dL_law_237 rfl (lv_at hl 0 rfl) ?_
  refine lv_iload_n hx hb dL_law_238 rfl (lv_at hl 3 rfl) ?_
  refine lv_iconst (v := nI 2) hx hb dL_law_239 (by decide) ?_
  refine xa_iadd hx hb dL_law_240 ?_
  refine xa_sld hx hb hX hbl hbA hS (by omega) (by omega) dL_law_241 ?_
  refine lv_aload_n hx hb dL_law_242 rfl (lv_at hl 0 rfl) ?_
  refine lv_iload_n hx hb dL_law_243 rfl (lv_at hl 3 rfl) ?_
  refine lv_iconst (v := nI 3) hx hb dL_law_244 (by decide) ?_
  refine xa_iadd hx hb dL_law_245 ?_
  refine xa_sld hx hb hX hbl hbA hS (by omega) (by omega) dL_law_246 ?_
  refine lv_aload_n hx hb dL_law_247 rfl (lv_at hl 0 rfl) ?_
  refine lv_iload_n hx hb dL_law_248 rfl (lv_at hl 3 rfl) ?_
  refine lv_iconst (v := nI 4) hx hb dL_law_249 (by decide) ?_
  refine xa_iadd hx hb dL_law_250 ?_
  refine xa_sld hx hb hX hbl hbA hS (by omega) (by omega) dL_law_251 ?_
  refine va_calli (va_runV (As := [.int (xs (5 * t + 1 + 1)), .int (xs (5 * t + 1 + 2)), .int (xs (5 * t + 1 + 3)), .int (xs (5 * t + 1 + 4))]) (rest := []) ⟨hx, hb, hml, hown, hts⟩ (c_choose l D _ N hN1 hN ad (aok_true haoD) cJJ cJ cI dr re tu kd uh bf la G g hg (xs (5 * t + 1 + 1)) (xs (5 * t + 1 + 2)) (xs (5 * t + 1 + 3)) (xs (5 * t + 1 + 4))) (cwV 4 hts gL_X1_choose rfl rfl rfl (by decide +kernel) ⟨Nat.le_of_ble_eq_true rfl, Nat.le_of_ble_eq_true rfl⟩) ⟨wp0_blind, va_recv hK hPd (ci := 1) (q0 := 0) rfl rfl, fun U hU hW => wp0_of hPd (hK.sub [0, 1, 2] rfl) htb hS (fr_in haoD hS hA) hU hW⟩ rfl rfl hl.1 rfl (lv_room (Nat.le_of_ble_eq_true rfl)) dL_law_252 ⟨Nat.le_of_ble_eq_true rfl, Nat.le_of_ble_eq_true rfl⟩) hS (fun q _ h => fr_in haoD hS hA q h) (fun q h => fr_in haoD hS hA q h) (fun r1 u t1 H1 locs ht hvm hw hB hz1 hk1 hS => ?_)
  obtain ⟨e1, hg1⟩ := hw
  rw [ht] at hB
  have hPm := md_kept hPm hap hk1
  have hPd := hB
  generalize H1 = H at hPd hPm hS ⊢
  refine lv_aload_n hx hb dL_law_255 rfl (lv_at hl 2 rfl) ?_
  refine lv_aload_n hx hb dL_law_256 rfl (lv_at hl 0 rfl) ?_
  refine lv_iload_n hx hb dL_law_257 rfl (lv_at hl 3 rfl) ?_
  refine lv_iconst (v := nI 1) hx hb dL_law_258 (by decide) ?_
  refine xa_iadd hx hb dL_law_259 ?_
  refine xa_sld hx hb hX hbl hbA hS (by omega) (by omega) dL_law_260 ?_
  refine lv_aload_n hx hb dL_law_261 rfl (lv_at hl 0 rfl) ?_
  refine lv_iload_n hx hb dL_law_262 rfl (lv_at hl 3 rfl) ?_
  refine lv_iconst (v := nI 2) hx hb dL_law_263 (by decide) ?_
  refine xa_iadd hx hb dL_law_264 ?_
  refine xa_sld hx hb hX hbl hbA hS (by omega) (by omega) dL_law_265 ?_
  refine lv_aload_n hx hb dL_law_266 rfl (lv_at hl 0 rfl) ?_
  refine lv_iload_n hx hb dL_law_267 rfl (lv_at hl 3 rfl) ?_
  refine lv_iconst (v := nI 3) hx hb dL_law_268 (by decide) ?_
  refine xa_iadd hx hb dL_law_269 ?_
  refine xa_sld hx hb hX hbl hbA hS (by omega) (by omega) dL_law_270 ?_
  refine lv_aload_n hx hb dL_law_271 rfl (lv_at hl 0 rfl) ?_
  refine lv_iload_n hx hb dL_law_272 rfl (lv_at hl 3 rfl) ?_
  refine lv_iconst (v := nI 4) hx hb dL_law_273 (by decide) ?_
  refine xa_iadd hx hb dL_law_274 ?_
  refine xa_sld hx hb hX hbl hbA hS (by omega) (by omega) dL_law_275 ?_
  refine va_calli (va_runV (As := [.int (xs (5 * t + 1 + 1)), .int (xs (5 * t + 1 + 2)), .int (xs (5 * t + 1 + 3)), .int (xs (5 * t + 1 + 4))]) (rest := [.int r1]) ⟨hx, hb, hml, hown, hts⟩ (c_mChoose l D _ N hN1 hN bd (aok4_true haoM) cZ cI th rb mb pt g hm (xs (5 * t + 1 + 1)) (xs (5 * t + 1 + 2)) (xs (5 * t + 1 + 3)) (xs (5 * t + 1 + 4))) (cwV 4 hts gL_X2_choose rfl rfl rfl (by decide +kernel) ⟨Nat.le_of_ble_eq_true rfl, Nat.le_of_ble_eq_true rfl⟩) ⟨wp0_blind, va_recv hK hPm (ci := 2) (q0 := 0) rfl rfl, fun U hU hW => wp0_of hPm (hK.sub [3, 2] rfl) htb hS (fr4_in haoM hS hA) hU hW⟩ rfl rfl hl.1 rfl (lv_room (Nat.le_of_ble_eq_true rfl)) dL_law_276 ⟨Nat.le_of_ble_eq_true rfl, Nat.le_of_ble_eq_true rfl⟩) hS (fun q _ h => fr4_in haoM hS hA q h) (fun q h => fr4_in haoM hS hA q h) (fun r2 v t2 H2 locs ht2 hvm2 hw2 hB2 hz2 hk2 hS => ?_)
  obtain ⟨e2, hm2⟩ := hw2
  rw [ht2] at hB2
  have hPd := dk_kept hPd hap hk2
  exact lv_icmp_eq (tgt := 664) hx hb dL_law_279 (by decide) (fun _ => kk _ u v H2 locs hg1 hm2 hPd hB2 hS) (fun h => absurd (e1.trans e2.symm) h)
set_option maxHeartbeats 4000000 in
set_option maxRecDepth 100000 in
theorem arm_fix {p : Program} {l : Launch} {e : Env} {s : State} {m : MethodId} {below : List Frame} {meth : Method} {c : Code} {b L : Nat} {xs : Nat → Int32} (hL : L ≤ 2561) (C0 : lw_At p s m meth c b L xs) {D : va_G} {A : Nat → Prop} (hA : ∀ q, s.heap.size ≤ q → A q) (hbA : ¬ A b) {N : Nat} (hN1 : 1 ≤ N) (hN : N ≤ 12) {ad bd : Nat → Nat} (haoD : aok A ad) (haoM : aok4 A bd) (hap : ∀ i j, i < 42 → j < 4 → ad i ≠ bd j) {cJJ cJ cI cZ : ClassId} (hK : va_K D vwCl (lwT cJJ cJ cI cZ) s) (htb : tbl A s s.heap) {t : Nat} (hi : 5 * t + 6 ≤ L) {g : Nat → Nat → Bool} {dr re : Nat → Int64} {tu kd uh bf la : Nat → Int32} {G : Nat → Nat → Int64} (hg : okG N G g) {th : Int32} {rb mb : Nat → Bool} {pt : Nat → Int32} (hm : okM N rb g) {H : Heap} {locs : List Loc} (hPd : va_P D vwCl (dkW N ad cJJ cJ cI dr re tu kd uh bf la G) H) (hPm : va_P D vwCl (mdW N bd cZ cI th rb mb pt) H) (hS : va_S A s.heap H locs) {ls : Array Slot} (hl : lv_has ls 4 [(0, .ref b), (1, .ref (ad 0)), (2, .ref (bd 0)), (3, .int (nI (5 * t + 1)))])
    (kk : ∀ (g : Nat → Nat → Bool) (u : dkS) (v : (Nat → Bool) × (Nat → Bool) × (Nat → Int32)) (H : Heap) (locs : List Loc), okG N (dkR u) g → okM N v.1 g → va_P D vwCl (dkU N ad cJJ cJ cI u) H → va_P D vwCl (mdW N bd cZ cI (nI 0) v.1 v.2.1 v.2.2) H → va_S A s.heap H locs → W p l e room_1 s m #[Value.ref b] below meth c H locs 46 149832 (lw_Z below #[Value.ref b] s) (F0 m 664 ls [])) : W p l e room_1 s m #[Value.ref b] below meth c H locs 46 149832 (lw_Z below #[Value.ref b] s) (F0 m 284 ls []) := by
  obtain ⟨hx, hb, hr, hml, hown0, hts, hX, hbl, hlocks, hgv⟩ := C0
  have hown : s.vm.findClass RL = some m.cls := hown0
  refine lv_aload_n hx hb dL_law_284 rfl (lv_at hl 1 rfl) ?_
  refine lv_aload_n hx hb dL_law_285 rfl (lv_at hl 0 rfl) ?_
  refine lv_iload_n hx hb dL_law_286 rfl (lv_at hl 3 rfl) ?_
  refine lv_iconst (v := nI 1) hx hb dL_law_287 (by decide) ?_
  refine xa_iadd hx hb dL_law_288 ?_
  refine xa_sld hx hb hX hbl hbA hS (by omega) (by omega) dL_law_289 ?_
  refine lv_aload_n hx hb dL_law_290 rfl (lv_at hl 0 rfl) ?_
  refine lv_iload_n hx hb dL_law_291 rfl (lv_at hl 3 rfl) ?_
  refine lv_iconst (v := nI 2) hx hb dL_law_292 (by decide) ?_
  refine xa_iadd hx hb dL_law_293 ?_
  refine xa_sld hx hb hX hbl hbA hS (by omega) (by omega) dL_law_294 ?_
  refine lv_aload_n hx hb dL_law_295 rfl (lv_at hl 0 rfl) ?_
  refine lv_iload_n hx hb dL_law_296 rfl (lv_at hl 3 rfl) ?_
  refine lv_iconst (v := nI 3) hx hb dL_law_297 (by decide) ?_
  refine xa_iadd hx hb dL_law_298 ?_
  refine xa_sld hx hb hX hbl hbA hS (by omega) (by omega) dL_law_299 ?_
  refine lv_aload_n hx hb dL_law_300 rfl (lv_at hl 0 rfl) ?_
  refine lv_iload_n hx hb dL_law_301 rfl (lv_at hl 3 rfl) ?_
  refine lv_iconst (v := nI 4) hx hb dL_law_302 (by decide) ?_
  refine xa_iadd hx hb dL_law_303 ?_
  refine xa_sld hx hb hX hbl hbA hS (by omega) (by omega) dL_law_304 ?_
  refine va_calli (va_runV (As := [.int (xs (5 * t + 1 + 1)), .int (xs (5 * t + 1 + 2)), .int (xs (5 * t + 1 + 3)), .int (xs (5 * t + 1 + 4))]) (rest := []) ⟨hx, hb, hml, hown, hts⟩ (c_fix l D _ N hN1 hN ad (aok_true haoD) cJJ cJ cI dr re tu kd uh bf la G g hg (xs (5 * t + 1 + 1)) (xs (5 * t + 1 + 2)) (xs (5 * t + 1 + 3)) (xs (5 * t + 1 + 4))) (cwV 4 hts gL_X1_fix rfl rfl rfl (by decide +kernel) ⟨Nat.le_of_ble_eq_true rfl, Nat.le_of_ble_eq_true rfl⟩) ⟨wp0_blind, va_recv hK hPd (ci := 1) (q0 := 0) rfl rfl, fun U hU hW => wp0_of hPd (hK.sub [0, 1, 2] rfl) htb hS (fr_in haoD hS hA) hU hW⟩ rfl rfl hl.1 rfl (lv_room (Nat.le_of_ble_eq_true rfl)) dL_law_305 ⟨Nat.le_of_ble_eq_true rfl, Nat.le_of_ble_eq_true rfl⟩) hS (fun q _ h => fr_in haoD hS hA q h) (fun q h => fr_in haoD hS hA q h) (fun r1 u t1 H1 locs ht hvm hw hB hz1 hk1 hS => ?_)
  obtain ⟨e1, hg1⟩ := hw
  rw [ht] at hB
  have hPm := md_kept hPm hap hk1
  have hPd := hB
  generalize H1 = H at hPd hPm hS ⊢
  refine lv_aload_n hx hb dL_law_308 rfl (lv_at hl 2 rfl) ?_
  refine lv_aload_n hx hb dL_law_309 rfl (lv_at hl 0 rfl) ?_
  refine lv_iload_n hx hb dL_law_310 rfl (lv_at hl 3 rfl) ?_
  refine lv_iconst (v := nI 1) hx hb dL_law_311 (by decide) ?_
  refine xa_iadd hx hb dL_law_312 ?_
  refine xa_sld hx hb hX hbl hbA hS (by omega) (by omega) dL_law_313 ?_
  refine lv_aload_n hx hb dL_law_314 rfl (lv_at hl 0 rfl) ?_
  refine lv_iload_n hx hb dL_law_315 rfl (lv_at hl 3 rfl) ?_
  refine lv_iconst (v := nI 2) hx hb dL_law_316 (by decide) ?_
  refine xa_iadd hx hb dL_law_317 ?_
  refine xa_sld hx hb hX hbl hbA hS (by omega) (by omega) dL_law_318 ?_
  refine lv_aload_n hx hb dL_law_319 rfl (lv_at hl 0 rfl) ?_
  refine lv_iload_n hx hb dL_law_320 rfl (lv_at hl 3 rfl) ?_
  refine lv_iconst (v := nI 3) hx hb dL_law_321 (by decide) ?_
  refine xa_iadd hx hb dL_law_322 ?_
  refine xa_sld hx hb hX hbl hbA hS (by omega) (by omega) dL_law_323 ?_
  refine lv_aload_n hx hb dL_law_324 rfl (lv_at hl 0 rfl) ?_
  refine lv_iload_n hx hb dL_law_325 rfl (lv_at hl 3 rfl) ?_
  refine lv_iconst (v := nI 4) hx hb dL_law_326 (by decide) ?_
  refine xa_iadd hx hb dL_law_327 ?_
  refine xa_sld hx hb hX hbl hbA hS (by omega) (by omega) dL_law_328 ?_
  refine va_calli (va_runV (As := [.int (xs (5 * t + 1 + 1)), .int (xs (5 * t + 1 + 2)), .int (xs (5 * t + 1 + 3)), .int (xs (5 * t + 1 + 4))]) (rest := [.int r1]) ⟨hx, hb, hml, hown, hts⟩ (c_mFix l D _ N hN1 hN bd (aok4_true haoM) cZ cI th rb mb pt g hm (xs (5 * t + 1 + 1)) (xs (5 * t + 1 + 2)) (xs (5 * t + 1 + 3)) (xs (5 * t + 1 + 4))) (cwV 4 hts gL_X2_fix rfl rfl rfl (by decide +kernel) ⟨Nat.le_of_ble_eq_true rfl, Nat.le_of_ble_eq_true rfl⟩) ⟨wp0_blind, va_recv hK hPm (ci := 2) (q0 := 0) rfl rfl, fun U hU hW => wp0_of hPm (hK.sub [3, 2] rfl) htb hS (fr4_in haoM hS hA) hU hW⟩ rfl rfl hl.1 rfl (lv_room (Nat.le_of_ble_eq_true rfl)) dL_law_329 ⟨Nat.le_of_ble_eq_true rfl, Nat.le_of_ble_eq_true rfl⟩) hS (fun q _ h => fr4_in haoM hS hA q h) (fun q h => fr4_in haoM hS hA q h) (fun r2 v t2 H2 locs ht2 hvm2 hw2 hB2 hz2 hk2 hS => ?_)
  obtain ⟨e2, hm2⟩ := hw2
  rw [ht2] at hB2
  have hPd := dk_kept hPd hap hk2
  exact lv_icmp_eq (tgt := 664) hx hb dL_law_332 (by decide) (fun _ => kk _ u v H2 locs hg1 hm2 hPd hB2 hS) (fun h => absurd (e1.trans e2.symm) h)
