section
/-! own rows over the kit's: ints that are numbers, array places by number, grids -/
theorem xs_l : ∀ n, n < 32 → ((nI n &&& 31).toBitVec.smod 32).toNat = n := by decide +kernel
theorem xs_u : ∀ n, n < 32 → (((nI n).toUInt32 &&& Int32.toUInt32 31).toBitVec % 32).toNat = n := by decide +kernel
section XA
variable {p : Program} {l : Launch} {e : Env} {R : Room} {s : State} {m : MethodId} {args : Array Value} {below : List Frame} {meth : Method} {c : Code} {H : Heap} {locs : List Loc} {cells slots : Nat} {Q : State → Prop}
variable {cc : ByteArray} {pc : Nat} {ls : Array Slot} {rest : List Value} {D : va_G} {cl : List vw_C} {A : Nat → Prop} {a : Nat} {tys : List (ClassId × FieldType)} {ws : va_W} {H0 : Heap}
theorem xa_iadd (hexec : p.tables.exec = Jvm.exec) (hb : c.code = cc) {x y : Nat} (hdg : decode cc pc = .ok (.iadd, 1)) (k : W p l e R s m args below meth c H locs cells slots Q (F0 m (pc + 1) ls (.int (nI (x + y)) :: rest))) : W p l e R s m args below meth c H locs cells slots Q (F0 m pc ls (.int (nI y) :: .int (nI x) :: rest)) :=
  lv_iadd hexec hb hdg (by rw [nI_add]; exact k)
theorem xa_isub (hexec : p.tables.exec = Jvm.exec) (hb : c.code = cc) {x y : Nat} (h : y ≤ x) (hdg : decode cc pc = .ok (.isub, 1)) (k : W p l e R s m args below meth c H locs cells slots Q (F0 m (pc + 1) ls (.int (nI (x - y)) :: rest))) : W p l e R s m args below meth c H locs cells slots Q (F0 m pc ls (.int (nI y) :: .int (nI x) :: rest)) :=
  lv_isub hexec hb hdg (by rw [pk_sub h]; exact k)
theorem xa_imul (hexec : p.tables.exec = Jvm.exec) (hb : c.code = cc) {x y : Nat} (hdg : decode cc pc = .ok (.imul, 1)) (k : W p l e R s m args below meth c H locs cells slots Q (F0 m (pc + 1) ls (.int (nI (x * y)) :: rest))) : W p l e R s m args below meth c H locs cells slots Q (F0 m pc ls (.int (nI y) :: .int (nI x) :: rest)) :=
  lv_imul hexec hb hdg (by rw [pk_mul]; exact k)
theorem xa_idiv (hexec : p.tables.exec = Jvm.exec) (hb : c.code = cc) {x y : Nat} (hx : x < 2 ^ 31) (h0 : 0 < y) (hy : y < 2 ^ 31) (hdg : decode cc pc = .ok (.idiv, 1)) (k : W p l e R s m args below meth c H locs cells slots Q (F0 m (pc + 1) ls (.int (nI (x / y)) :: rest))) : W p l e R s m args below meth c H locs cells slots Q (F0 m pc ls (.int (nI y) :: .int (nI x) :: rest)) :=
  lv_idiv hexec hb hdg (nI_ne0 h0 hy) (by rw [pk_div hx h0 hy]; exact k)
theorem xa_irem (hexec : p.tables.exec = Jvm.exec) (hb : c.code = cc) {x y : Nat} (hx : x < 2 ^ 31) (h0 : 0 < y) (hy : y < 2 ^ 31) (hdg : decode cc pc = .ok (.irem, 1)) (k : W p l e R s m args below meth c H locs cells slots Q (F0 m (pc + 1) ls (.int (nI (x % y)) :: rest))) : W p l e R s m args below meth c H locs cells slots Q (F0 m pc ls (.int (nI y) :: .int (nI x) :: rest)) :=
  lv_irem hexec hb hdg (nI_ne0 h0 hy) (by rw [pk_rem hx h0 hy]; exact k)
theorem xa_ishl (hexec : p.tables.exec = Jvm.exec) (hb : c.code = cc) {x y : Nat} (hy : y < 32) (h : x * 2 ^ y < 2 ^ 32) (hdg : decode cc pc = .ok (.ishl, 1)) (k : W p l e R s m args below meth c H locs cells slots Q (F0 m (pc + 1) ls (.int (nI (x * 2 ^ y)) :: rest))) : W p l e R s m args below meth c H locs cells slots Q (F0 m pc ls (.int (nI y) :: .int (nI x) :: rest)) :=
  lv_ishl hexec hb hdg (by rw [pk_shlN _ y (xs_l y hy) h]; exact k)
theorem xa_ishl1 (hexec : p.tables.exec = Jvm.exec) (hb : c.code = cc) {y : Nat} (hy : y < 32) (hdg : decode cc pc = .ok (.ishl, 1)) (k : W p l e R s m args below meth c H locs cells slots Q (F0 m (pc + 1) ls (.int (nI (2 ^ y)) :: rest))) : W p l e R s m args below meth c H locs cells slots Q (F0 m pc ls (.int (nI y) :: .int (nI 1) :: rest)) :=
  xa_ishl hexec hb hy (by rw [Nat.one_mul]; exact Nat.pow_lt_pow_right (by omega) hy) hdg (by rw [Nat.one_mul]; exact k)
theorem xa_iushr (hexec : p.tables.exec = Jvm.exec) (hb : c.code = cc) {x y : Nat} (hx : x < 2 ^ 32) (hy : y < 32) (hdg : decode cc pc = .ok (.iushr, 1)) (k : W p l e R s m args below meth c H locs cells slots Q (F0 m (pc + 1) ls (.int (nI (x / 2 ^ y)) :: rest))) : W p l e R s m args below meth c H locs cells slots Q (F0 m pc ls (.int (nI y) :: .int (nI x) :: rest)) :=
  lv_iushr hexec hb hdg (pk_ushrN hx _ y (xs_u y hy)) k
theorem xa_iand1 (hexec : p.tables.exec = Jvm.exec) (hb : c.code = cc) {x : Nat} (hx : x < 2 ^ 32) (hdg : decode cc pc = .ok (.iand, 1)) (k : W p l e R s m args below meth c H locs cells slots Q (F0 m (pc + 1) ls (.int (nI (x % 2)) :: rest))) : W p l e R s m args below meth c H locs cells slots Q (F0 m pc ls (.int (nI 1) :: .int (nI x) :: rest)) :=
  lv_iand hexec hb hdg (by rw [pk_andN hx 1 (by decide)]; exact k)
theorem xa_ixor (hexec : p.tables.exec = Jvm.exec) (hb : c.code = cc) {x y : Nat} (hdg : decode cc pc = .ok (.ixor, 1)) (k : W p l e R s m args below meth c H locs cells slots Q (F0 m (pc + 1) ls (.int (nI (x ^^^ y)) :: rest))) : W p l e R s m args below meth c H locs cells slots Q (F0 m pc ls (.int (nI y) :: .int (nI x) :: rest)) :=
  lv_ixor hexec hb hdg (by
    have h : nI x ^^^ nI y = nI (x ^^^ y) := by
      apply Int32.toBitVec_inj.1
      show BitVec.ofNat 32 x ^^^ BitVec.ofNat 32 y = BitVec.ofNat 32 (x ^^^ y)
      apply BitVec.eq_of_getLsbD_eq
      intro i hi
      simp [hi]
    rw [h]; exact k)
theorem xa_ge (hexec : p.tables.exec = Jvm.exec) (hb : c.code = cc) {x y : Nat} (hx : x < 2 ^ 31) (hy : y < 2 ^ 31) {off : Int} {tgt : Nat} (hdg : decode cc pc = .ok (.if_icmp .ge off, 3)) (ht : (pc : Int) + off = (tgt : Int))
    (kt : y ≤ x → W p l e R s m args below meth c H locs cells slots Q (F0 m tgt ls rest)) (kf : x < y → W p l e R s m args below meth c H locs cells slots Q (F0 m (pc + 3) ls rest)) : W p l e R s m args below meth c H locs cells slots Q (F0 m pc ls (.int (nI y) :: .int (nI x) :: rest)) :=
  lv_icmp_ge hexec hb hdg ht (fun h => kt ((nI_leI hy hx).mp h)) (fun h => kf (Nat.not_le.mp fun q => h ((nI_leI hy hx).mpr q)))
theorem xa_lt (hexec : p.tables.exec = Jvm.exec) (hb : c.code = cc) {x y : Nat} (hx : x < 2 ^ 31) (hy : y < 2 ^ 31) {off : Int} {tgt : Nat} (hdg : decode cc pc = .ok (.if_icmp .lt off, 3)) (ht : (pc : Int) + off = (tgt : Int))
    (kt : x < y → W p l e R s m args below meth c H locs cells slots Q (F0 m tgt ls rest)) (kf : y ≤ x → W p l e R s m args below meth c H locs cells slots Q (F0 m (pc + 3) ls rest)) : W p l e R s m args below meth c H locs cells slots Q (F0 m pc ls (.int (nI y) :: .int (nI x) :: rest)) :=
  lv_icmp_lt hexec hb hdg ht (fun h => kt ((nI_ltI hx hy).mp h)) (fun h => kf (Nat.not_lt.mp fun q => h ((nI_ltI hx hy).mpr q)))
theorem xa_gt (hexec : p.tables.exec = Jvm.exec) (hb : c.code = cc) {x y : Nat} (hx : x < 2 ^ 31) (hy : y < 2 ^ 31) {off : Int} {tgt : Nat} (hdg : decode cc pc = .ok (.if_icmp .gt off, 3)) (ht : (pc : Int) + off = (tgt : Int))
    (kt : y < x → W p l e R s m args below meth c H locs cells slots Q (F0 m tgt ls rest)) (kf : x ≤ y → W p l e R s m args below meth c H locs cells slots Q (F0 m (pc + 3) ls rest)) : W p l e R s m args below meth c H locs cells slots Q (F0 m pc ls (.int (nI y) :: .int (nI x) :: rest)) :=
  lv_icmp_gt hexec hb hdg ht (fun h => kt ((nI_ltI hy hx).mp h)) (fun h => kf (Nat.not_lt.mp fun q => h ((nI_ltI hy hx).mpr q)))
theorem xa_le (hexec : p.tables.exec = Jvm.exec) (hb : c.code = cc) {x y : Nat} (hx : x < 2 ^ 31) (hy : y < 2 ^ 31) {off : Int} {tgt : Nat} (hdg : decode cc pc = .ok (.if_icmp .le off, 3)) (ht : (pc : Int) + off = (tgt : Int))
    (kt : x ≤ y → W p l e R s m args below meth c H locs cells slots Q (F0 m tgt ls rest)) (kf : y < x → W p l e R s m args below meth c H locs cells slots Q (F0 m (pc + 3) ls rest)) : W p l e R s m args below meth c H locs cells slots Q (F0 m pc ls (.int (nI y) :: .int (nI x) :: rest)) :=
  lv_icmp_le hexec hb hdg ht (fun h => kt ((nI_leI hx hy).mp h)) (fun h => kf (Nat.not_le.mp fun q => h ((nI_leI hx hy).mpr q)))
theorem xa_eq (hexec : p.tables.exec = Jvm.exec) (hb : c.code = cc) {x y : Nat} (hx : x < 2 ^ 31) (hy : y < 2 ^ 31) {off : Int} {tgt : Nat} (hdg : decode cc pc = .ok (.if_icmp .eq off, 3)) (ht : (pc : Int) + off = (tgt : Int))
    (kt : x = y → W p l e R s m args below meth c H locs cells slots Q (F0 m tgt ls rest)) (kf : ¬ x = y → W p l e R s m args below meth c H locs cells slots Q (F0 m (pc + 3) ls rest)) : W p l e R s m args below meth c H locs cells slots Q (F0 m pc ls (.int (nI y) :: .int (nI x) :: rest)) :=
  lv_icmp_eq hexec hb hdg ht (fun h => kt ((nI_eq hx hy).mp h)) (fun h => kf fun q => h ((nI_eq hx hy).mpr q))
theorem xa_ne (hexec : p.tables.exec = Jvm.exec) (hb : c.code = cc) {x y : Nat} (hx : x < 2 ^ 31) (hy : y < 2 ^ 31) {off : Int} {tgt : Nat} (hdg : decode cc pc = .ok (.if_icmp .ne off, 3)) (ht : (pc : Int) + off = (tgt : Int))
    (kt : ¬ x = y → W p l e R s m args below meth c H locs cells slots Q (F0 m tgt ls rest)) (kf : x = y → W p l e R s m args below meth c H locs cells slots Q (F0 m (pc + 3) ls rest)) : W p l e R s m args below meth c H locs cells slots Q (F0 m pc ls (.int (nI y) :: .int (nI x) :: rest)) :=
  lv_icmp_ne hexec hb hdg ht (fun h => kt fun q => h ((nI_eq hx hy).mpr q)) (fun h => kf ((nI_eq hx hy).mp h))
theorem xa_if0 (hexec : p.tables.exec = Jvm.exec) (hb : c.code = cc) {b : Bool} {off : Int} {tgt : Nat} (hdg : decode cc pc = .ok (.ifCond .eq off, 3)) (ht : (pc : Int) + off = (tgt : Int))
    (kt : b = false → W p l e R s m args below meth c H locs cells slots Q (F0 m tgt ls rest)) (kf : b = true → W p l e R s m args below meth c H locs cells slots Q (F0 m (pc + 3) ls rest)) : W p l e R s m args below meth c H locs cells slots Q (F0 m pc ls (.int (nI b.toNat) :: rest)) :=
  lv_if_eq hexec hb hdg ht (fun h => kt (by cases b <;> first | rfl | exact absurd h (by decide))) (fun h => kf (by cases b <;> first | rfl | exact absurd rfl h))
theorem xa_if1 (hexec : p.tables.exec = Jvm.exec) (hb : c.code = cc) {b : Bool} {off : Int} {tgt : Nat} (hdg : decode cc pc = .ok (.ifCond .ne off, 3)) (ht : (pc : Int) + off = (tgt : Int))
    (kt : b = true → W p l e R s m args below meth c H locs cells slots Q (F0 m tgt ls rest)) (kf : b = false → W p l e R s m args below meth c H locs cells slots Q (F0 m (pc + 3) ls rest)) : W p l e R s m args below meth c H locs cells slots Q (F0 m pc ls (.int (nI b.toNat) :: rest)) :=
  lv_if_ne hexec hb hdg ht (fun h => kt (by cases b <;> first | rfl | exact absurd rfl h)) (fun h => kf (by cases b <;> first | rfl | exact absurd h (by decide)))
theorem xa_inc (hexec : p.tables.exec = Jvm.exec) (hb : c.code = cc) {i nL k x : Nat} {lv lv' : List (Nat × Value)} (hdg : decode cc pc = .ok (.iinc i 1, 3)) (h : lv_has ls nL lv) (hk : lv[k]? = some (i, .int (nI x))) (hn : i < nL) (hl : (i, Value.int (nI (x + 1))) :: lv.filter (fun q => !(q.1 == i) && !(q.1 + 1 == i && q.2.category == 2)) = lv')
    (kk : ∀ ls' : Array Slot, lv_has ls' nL lv' → W p l e R s m args below meth c H locs cells slots Q (F0 m (pc + 3) ls' rest)) : W p l e R s m args below meth c H locs cells slots Q (F0 m pc ls rest) :=
  lv_iinc (k := k) hexec hb hdg h hk (nI_1 x) hn hl kk
theorem xa_dec (hexec : p.tables.exec = Jvm.exec) (hb : c.code = cc) {i nL k x : Nat} {lv lv' : List (Nat × Value)} (hdg : decode cc pc = .ok (.iinc i (-1), 3)) (h : lv_has ls nL lv) (hk : lv[k]? = some (i, .int (nI (x + 1)))) (hn : i < nL) (hl : (i, Value.int (nI x)) :: lv.filter (fun q => !(q.1 == i) && !(q.1 + 1 == i && q.2.category == 2)) = lv')
    (kk : ∀ ls' : Array Slot, lv_has ls' nL lv' → W p l e R s m args below meth c H locs cells slots Q (F0 m (pc + 3) ls' rest)) : W p l e R s m args below meth c H locs cells slots Q (F0 m pc ls rest) :=
  lv_iinc (k := k) hexec hb hdg h hk (pk_m1 x) hn hl kk
theorem xa_iald (hexec : p.tables.exec = Jvm.exec) (hb : c.code = cc) (hK : va_K D cl tys s) (hP : va_P D cl ws H) (q0 t0 : Nat) {cA : ClassId} {n : Nat} {f : Nat → Int32} (ha : ws[q0]? = some (a, .inl (cA, n, .inl f))) (ht : tys[t0]? = some (cA, .int)) {w : Nat} (hw : w < n) (hn : n < 2 ^ 31) (hdg : decode cc pc = .ok (.iaload, 1))
    (kk : W p l e R s m args below meth c H locs cells slots Q (F0 m (pc + 1) ls (.int (f w) :: rest))) : W p l e R s m args below meth c H locs cells slots Q (F0 m pc ls (.int (nI w) :: .ref a :: rest)) :=
  va_iald hexec hb hK hP q0 t0 ha ht (vp_in_nI hw hn) hdg (by rw [nI_clamp (Nat.lt_trans hw hn)]; exact kk)
theorem xa_lald (hexec : p.tables.exec = Jvm.exec) (hb : c.code = cc) (hK : va_K D cl tys s) (hP : va_P D cl ws H) (q0 t0 : Nat) {cA : ClassId} {n : Nat} {f : Nat → Int64} (ha : ws[q0]? = some (a, .inl (cA, n, .inr (.inl f)))) (ht : tys[t0]? = some (cA, .long)) {w : Nat} (hw : w < n) (hn : n < 2 ^ 31) (hdg : decode cc pc = .ok (.laload, 1))
    (kk : W p l e R s m args below meth c H locs cells slots Q (F0 m (pc + 1) ls (.long (f w) :: rest))) : W p l e R s m args below meth c H locs cells slots Q (F0 m pc ls (.int (nI w) :: .ref a :: rest)) :=
  va_lald hexec hb hK hP q0 t0 ha ht (vp_in_nI hw hn) hdg (by rw [nI_clamp (Nat.lt_trans hw hn)]; exact kk)
theorem xa_iast (hexec : p.tables.exec = Jvm.exec) (hb : c.code = cc) (hK : va_K D cl tys s) (hP : va_P D cl ws H) (hD : va_D A ws) (hS : va_S A H0 H locs) (q0 t0 : Nat) {cA : ClassId} {n : Nat} {f : Nat → Int32} (ha : ws[q0]? = some (a, .inl (cA, n, .inl f))) (ht : tys[t0]? = some (cA, .int)) {w : Nat} {x : Int32} (hw : w < n) (hn : n < 2 ^ 31) (hdg : decode cc pc = .ok (.iastore, 1))
    (kk : ∀ (H1 : Heap) (locs1 : List Loc), va_P D cl (ws.set q0 (a, .inl (cA, n, .inl (upd f w x)))) H1 → va_D A (ws.set q0 (a, .inl (cA, n, .inl (upd f w x)))) → va_S A H0 H1 locs1 → W p l e R s m args below meth c H1 locs1 cells slots Q (F0 m (pc + 1) ls rest)) : W p l e R s m args below meth c H locs cells slots Q (F0 m pc ls (.int x :: .int (nI w) :: .ref a :: rest)) :=
  va_iast hexec hb hK hP hD hS q0 t0 ha ht (vp_in_nI hw hn) hdg (by rw [nI_clamp (Nat.lt_trans hw hn)]; exact kk)
theorem xa_last (hexec : p.tables.exec = Jvm.exec) (hb : c.code = cc) (hK : va_K D cl tys s) (hP : va_P D cl ws H) (hD : va_D A ws) (hS : va_S A H0 H locs) (q0 t0 : Nat) {cA : ClassId} {n : Nat} {f : Nat → Int64} (ha : ws[q0]? = some (a, .inl (cA, n, .inr (.inl f)))) (ht : tys[t0]? = some (cA, .long)) {w : Nat} {x : Int64} (hw : w < n) (hn : n < 2 ^ 31) (hdg : decode cc pc = .ok (.lastore, 1))
    (kk : ∀ (H1 : Heap) (locs1 : List Loc), va_P D cl (ws.set q0 (a, .inl (cA, n, .inr (.inl (vp_updL f w x))))) H1 → va_D A (ws.set q0 (a, .inl (cA, n, .inr (.inl (vp_updL f w x))))) → va_S A H0 H1 locs1 → W p l e R s m args below meth c H1 locs1 cells slots Q (F0 m (pc + 1) ls rest)) : W p l e R s m args below meth c H locs cells slots Q (F0 m pc ls (.long x :: .int (nI w) :: .ref a :: rest)) :=
  va_last hexec hb hK hP hD hS q0 t0 ha ht (vp_in_nI hw hn) hdg (by rw [nI_clamp (Nat.lt_trans hw hn)]; exact kk)
/-- an array of arrays: the row's reference -/
theorem xa_aald (hexec : p.tables.exec = Jvm.exec) (hb : c.code = cc) (hK : va_K D cl tys s) (hP : va_P D cl ws H) (q0 t0 : Nat) {cA : ClassId} {ty : FieldType} {n : Nat} {f : Nat → Option Nat} (ha : ws[q0]? = some (a, .inl (cA, n, .inr (.inr (.inr (.inr f)))))) (ht : tys[t0]? = some (cA, .array ty)) {w y : Nat} (hw : w < n) (hn : n < 2 ^ 31) (hy : f w = some y) (hdg : decode cc pc = .ok (.aaload, 1))
    (kk : W p l e R s m args below meth c H locs cells slots Q (F0 m (pc + 1) ls (.ref y :: rest))) : W p l e R s m args below meth c H locs cells slots Q (F0 m pc ls (.int (nI w) :: .ref a :: rest)) := by
  have hin : vp_in (nI w) n := vp_in_nI hw hn
  have e : (nI w).toNatClampNeg = w := nI_clamp (Nat.lt_trans hw hn)
  exact W.aald (v := .ref y) (ty := .array ty) hexec hb (hP q0 _ ha) ((hK.2 t0 _ ht).1 n (fun j => va_rf (f j))) rfl (fun q => by cases q) (by show ¬ (nI w < 0 ∨ (arrV _ _ _).slots.size ≤ _); rw [arrV_size]; exact hin) (by show (arrV _ _ _).slots[_]? = _; rw [e, arrV_read _ _ hw, hy]; rfl) rfl rfl hdg kk
/-- behind a call that changes nothing -/
theorem xa_same {H1 : Heap} (hP : va_P D cl ws H) (hk : ∀ q : Nat, q < H.size → ¬ (fun _ : Nat => False) q → H1[q]? = H[q]?) : va_P D cl ws H1 := hP.kept (fun k q hq => hk q.1 ((hP k q hq).lt) id)
end XA
/-- rows of a grid: row k (of n words) at the address ra k -/
def gw (ra : Nat → Nat) (cJ : ClassId) (n M : Nat) (R : Nat → Nat → Int64) : va_W := (List.range M).map (fun k => (ra k, .inl (cJ, n, .inr (.inl (R k)))))
theorem gw_get {X : va_W} {ra : Nat → Nat} {cJ : ClassId} {n M k : Nat} {R : Nat → Nat → Int64} (hk : k < M) : (X ++ gw ra cJ n M R)[X.length + k]? = some (ra k, .inl (cJ, n, .inr (.inl (R k)))) := by
  rw [List.getElem?_append_right (Nat.le_add_right _ _), Nat.add_sub_cancel_left]
  unfold gw
  rw [List.getElem?_map, List.getElem?_range hk]
  rfl
theorem gw_set {X : va_W} {ra : Nat → Nat} {cJ : ClassId} {n M k : Nat} {R : Nat → Nat → Int64} (r : Nat → Int64) (hk : k < M) : (X ++ gw ra cJ n M R).set (X.length + k) (ra k, .inl (cJ, n, .inr (.inl r))) = X ++ gw ra cJ n M (va_up R k r) := by
  rw [List.set_append_right _ _ (Nat.le_add_right _ _), Nat.add_sub_cancel_left]
  congr 1
  unfold gw
  apply List.ext_getElem?
  intro j
  rw [List.getElem?_set]
  by_cases e : k = j
  · subst e
    simp [hk, va_up]
  · simp only [e, if_false, List.getElem?_map]
    by_cases hj : j < M
    · rw [List.getElem?_range hj]
      simp [va_up, Ne.symm e]
    · have hn0 : (List.range M)[j]? = none := List.getElem?_eq_none (by rw [List.length_range]; omega)
      rw [hn0]
      rfl
theorem va_same {α : Type} (G : Nat → α) (j : Nat) : va_up G j (G j) = G := funext fun k => by
  by_cases e : k = j
  · subst e; exact va_up_self _ _ _
  · exact va_up_ne _ _ e
theorem va_upup {α : Type} (G : Nat → α) (j : Nat) (r r' : α) : va_up (va_up G j r) j r' = va_up G j r' := bx_uu G j r r'
/-- a cell that the frame leaves alone -/
theorem ro_kept {D : va_G} {cl : List vw_C} {A : Nat → Prop} {x : Nat × va_E} {H0 H : Heap} {locs : List Loc} (hP : va_P D cl [x] H0) (hx : ¬ A x.1) (hS : va_S A H0 H locs) : va_P D cl [x] H := hP.kept (fun k q hk => by
  have h0 : k < 1 := (List.getElem?_eq_some_iff.mp hk).1
  have hk2 := hk
  rw [show k = 0 by omega] at hk2
  cases hk2
  exact hS.2.1 _ ((hP k _ hk).lt) hx)
theorem one_D {A : Nat → Prop} {a : Nat} {e : va_E} (h : A a) : va_D A [(a, e)] := by
  refine ⟨fun i j p q hi hj _ => ?_, fun k q hk => ?_⟩
  · have h1 : i < 1 := (List.getElem?_eq_some_iff.mp hi).1
    have h2 : j < 1 := (List.getElem?_eq_some_iff.mp hj).1
    omega
  · have h1 : k < 1 := (List.getElem?_eq_some_iff.mp hk).1
    rw [show k = 0 by omega] at hk
    cases hk
    exact h
end
section
/-! bits of a long; the geometry of a row of words (own work; the shape of lb_shr, lb_shl is that of kit/laws/BITS) -/
def lb (x : Int64) (i : Nat) : Bool := x.toBitVec.getLsbD i
theorem lb_ext {x y : Int64} (h : ∀ i, i < 64 → lb x i = lb y i) : x = y := Int64.toBitVec_inj.mp (BitVec.eq_of_getLsbD_eq (fun i hi => h i hi))
theorem lb_or (x y : Int64) (i : Nat) : lb (x ||| y) i = (lb x i || lb y i) := by unfold lb; rw [Int64.toBitVec_or, BitVec.getLsbD_or]
theorem lb_and (x y : Int64) (i : Nat) : lb (x &&& y) i = (lb x i && lb y i) := by unfold lb; rw [Int64.toBitVec_and, BitVec.getLsbD_and]
theorem lb_xor (x y : Int64) (i : Nat) : lb (x ^^^ y) i = (lb x i ^^ lb y i) := by unfold lb; rw [Int64.toBitVec_xor, BitVec.getLsbD_xor]
theorem lb_big {x : Int64} {i : Nat} (h : 64 ≤ i) : lb x i = false := BitVec.getLsbD_of_ge _ _ h
theorem lb_0 (i : Nat) : lb 0 i = false := BitVec.getLsbD_zero
theorem lb_m1 : ∀ i, i < 64 → lb (-1) i = true := by decide +kernel
theorem lb_not (x : Int64) {i : Nat} (hi : i < 64) : lb (x ^^^ (-1)) i = !lb x i := by rw [lb_xor, lb_m1 i hi, Bool.xor_true]
theorem lb_su : ∀ n, n < 64 → (((nI n).toInt64.toUInt64 &&& Int64.toUInt64 63).toBitVec % 64).toNat = n := by decide +kernel
theorem lb_sl : ∀ n, n < 64 → (((nI n).toInt64 &&& 63).toBitVec.smod 64).toNat = n := by decide +kernel
theorem lb_shr (n : Nat) (hn : n < 64) (x : Int64) (i : Nat) : lb ((x.toUInt64 >>> ((nI n).toInt64.toUInt64 &&& Int64.toUInt64 63)).toInt64) i = lb x (n + i) := by
  show (x.toUInt64 >>> ((nI n).toInt64.toUInt64 &&& Int64.toUInt64 63)).toBitVec.getLsbD i = x.toUInt64.toBitVec.getLsbD (n + i)
  rw [UInt64.toBitVec_shiftRight]
  show (x.toUInt64.toBitVec >>> (((nI n).toInt64.toUInt64 &&& Int64.toUInt64 63).toBitVec % 64).toNat).getLsbD i = _
  rw [lb_su n hn, BitVec.getLsbD_ushiftRight]
theorem lb_shl (n : Nat) (hn : n < 64) (x : Int64) {i : Nat} (hi : i < 64) : lb (x <<< ((nI n).toInt64 &&& 63)) i = (decide (n ≤ i) && lb x (i - n)) := by
  unfold lb
  rw [Int64.toBitVec_shiftLeft]
  show (x.toBitVec <<< (((nI n).toInt64 &&& 63).toBitVec.smod 64).toNat).getLsbD i = _
  rw [lb_sl n hn, BitVec.getLsbD_shiftLeft]
  rcases Nat.lt_or_ge i n with h | h
  · simp [h, Nat.not_le.mpr h]
  · simp [hi, h, Nat.not_lt.mpr h]
/-- bit 0 of the low half, as an int -/
theorem lb_low (x : Int64) : x.toInt32 &&& nI 1 = nI (lb x 0).toNat := by
  apply Int32.toBitVec_inj.mp
  rw [Int32.toBitVec_and, Int64.toBitVec_toInt32]
  show (x.toBitVec.signExtend 32) &&& 1#32 = BitVec.ofNat 32 (lb x 0).toNat
  apply BitVec.eq_of_getLsbD_eq
  intro i hi
  rw [BitVec.getLsbD_and, BitVec.getLsbD_signExtend, if_pos (show i < 64 by omega)]
  unfold lb
  cases i with
  | zero => cases h : x.toBitVec.getLsbD 0 <;> simp
  | succ i => cases h : x.toBitVec.getLsbD 0 <;> simp
theorem tb_one (j : Nat) : (1 : Nat).testBit j = decide (0 = j) := Nat.testBit_two_pow (n := 0)
/-- the places (of a word) that have 1 at bit b -/
def pwb (b : Nat) : Int64 := match b with
  | 0 => -6148914691236517206
  | 1 => -3689348814741910324
  | 2 => -1085102592571150096
  | 3 => -71777214294589696
  | 4 => -281470681808896
  | _ => -4294967296
theorem lb_pwb : ∀ b, b < 6 → ∀ i, i < 64 → lb (pwb b) i = i.testBit b := by decide +kernel
/-- words, and points in a word, of a function of N variables -/
def nw (N : Nat) : Nat := if N ≤ 6 then 1 else 2 ^ (N - 6)
def pw (N : Nat) : Nat := if N ≤ 6 then 2 ^ N else 64
def ao (N : Nat) : Int64 := ((-1 : Int64).toUInt64 >>> ((nI (64 - pw N)).toInt64.toUInt64 &&& Int64.toUInt64 63)).toInt64
theorem pw_le (N : Nat) : pw N ≤ 64 := by
  unfold pw
  split
  · exact Nat.le_trans (Nat.pow_le_pow_right (by omega) (by assumption)) (by decide)
  · omega
theorem pw_pos (N : Nat) : 0 < pw N := by
  unfold pw
  split
  · exact Nat.pow_pos (by omega)
  · omega
theorem nw_pos (N : Nat) : 0 < nw N := by
  unfold nw
  split
  · omega
  · exact Nat.pow_pos (by omega)
theorem nw_le {N : Nat} (h : N ≤ 12) : nw N ≤ 64 := by
  unfold nw
  split
  · omega
  · exact Nat.le_trans (Nat.pow_le_pow_right (by omega) (show N - 6 ≤ 6 by omega)) (by decide)
theorem np_le {N : Nat} (h : N ≤ 12) : 2 ^ N ≤ 4096 := Nat.le_trans (Nat.pow_le_pow_right (by omega) h) (by decide)
theorem lb_ao (N : Nat) {i : Nat} (hi : i < 64) : lb (ao N) i = decide (i < pw N) := by
  have h1 := pw_pos N
  have h2 := pw_le N
  unfold ao
  rw [lb_shr (64 - pw N) (by omega)]
  by_cases h : i < pw N
  · rw [lb_m1 _ (by omega), decide_eq_true h]
  · rw [lb_big (by omega), decide_eq_false h]
theorem nw_big {N : Nat} (h : 6 < N) : 2 ^ N = 64 * nw N := by
  unfold nw
  rw [if_neg (by omega), show N = 6 + (N - 6) by omega, Nat.pow_add, show 6 + (N - 6) - 6 = N - 6 by omega]
/-- a place of a word is a point of the function just if it is below pw N -/
theorem nw_pt {N w i : Nat} (hw : w < nw N) (hi : i < 64) : 64 * w + i < 2 ^ N ↔ i < pw N := by
  by_cases h : N ≤ 6
  · have e1 : nw N = 1 := if_pos h
    have e2 : pw N = 2 ^ N := if_pos h
    rw [e2]
    have : w = 0 := by omega
    subst this
    simp
  · have e2 : pw N = 64 := if_neg h
    have e3 := nw_big (N := N) (by omega)
    rw [e2, e3]
    omega
theorem pt_nw {N p : Nat} (hp : p < 2 ^ N) : p / 64 < nw N ∧ p % 64 < pw N := by
  by_cases h : N ≤ 6
  · have e1 : nw N = 1 := if_pos h
    have e2 : pw N = 2 ^ N := if_pos h
    have h3 : 2 ^ N ≤ 64 := Nat.le_trans (Nat.pow_le_pow_right (by omega) h) (by decide)
    rw [e1, e2]
    have h4 : p / 64 = 0 := Nat.div_eq_of_lt (by omega)
    have h5 : p % 64 = p := Nat.mod_eq_of_lt (by omega)
    omega
  · have e2 : pw N = 64 := if_neg h
    have e3 := nw_big (N := N) (by omega)
    rw [e2]
    rw [e3] at hp
    omega
/-- the bits of a point's number -/
theorem tb_lo {w i b : Nat} (hi : i < 64) (hb : b < 6) : (64 * w + i).testBit b = i.testBit b := by
  have h := Nat.testBit_two_pow_mul_add w (b := i) (i := 6) (by omega) b
  rw [if_pos hb] at h
  exact h
theorem tb_hi {w i b : Nat} (hi : i < 64) (hb : 6 ≤ b) : (64 * w + i).testBit b = w.testBit (b - 6) := by
  have h := Nat.testBit_two_pow_mul_add w (b := i) (i := 6) (by omega) b
  rw [if_neg (by omega)] at h
  exact h
theorem xr_lo {w i b : Nat} (hi : i < 64) (hb : b < 6) : (64 * w + i) ^^^ 2 ^ b = 64 * w + (i ^^^ 2 ^ b) := by
  have hx : i ^^^ 2 ^ b < 64 := Nat.xor_lt_two_pow (n := 6) hi (Nat.pow_lt_pow_right (by omega) hb)
  apply Nat.eq_of_testBit_eq
  intro j
  rw [Nat.testBit_xor]
  by_cases hj : j < 6
  · rw [tb_lo hi hj, tb_lo hx hj, Nat.testBit_xor]
  · rw [tb_hi hi (by omega), tb_hi hx (by omega), Nat.testBit_two_pow_of_ne (by omega), Bool.xor_false]
theorem xr_hi {w i b : Nat} (hi : i < 64) (hb : 6 ≤ b) : (64 * w + i) ^^^ 2 ^ b = 64 * (w ^^^ 2 ^ (b - 6)) + i := by
  apply Nat.eq_of_testBit_eq
  intro j
  rw [Nat.testBit_xor]
  by_cases hj : j < 6
  · rw [tb_lo hi hj, tb_lo hi hj, Nat.testBit_two_pow_of_ne (by omega), Bool.xor_false]
  · rw [tb_hi hi (by omega), tb_hi hi (by omega), Nat.testBit_xor, Nat.testBit_two_pow, Nat.testBit_two_pow]
    congr 1
    by_cases h : b = j
    · rw [decide_eq_true h, decide_eq_true (by omega)]
    · rw [decide_eq_false h, decide_eq_false (by omega)]
theorem xr_xr (p b : Nat) : (p ^^^ 2 ^ b) ^^^ 2 ^ b = p := by rw [Nat.xor_assoc, Nat.xor_self, Nat.xor_zero]
theorem xr_lt {N p b : Nat} (hp : p < 2 ^ N) (hb : b < N) : p ^^^ 2 ^ b < 2 ^ N := Nat.xor_lt_two_pow hp (Nat.pow_lt_pow_right (by omega) hb)
theorem xw_lt {N w b : Nat} (hw : w < nw N) (hb : b < N) (h6 : 6 ≤ b) : w ^^^ 2 ^ (b - 6) < nw N := by
  have e : nw N = 2 ^ (N - 6) := if_neg (by omega)
  rw [e] at hw ⊢
  exact xr_lt hw (by omega)
/-- a row of n words holds the function g (0 at what is no point) -/
def rp (n : Nat) (r : Nat → Int64) (g : Nat → Bool) : Prop := ∀ w i, w < n → i < 64 → lb (r w) i = g (64 * w + i)
def dm (N : Nat) (g : Nat → Bool) : Prop := ∀ p, 2 ^ N ≤ p → g p = false
theorem rp_eq {n : Nat} {r r' : Nat → Int64} {g : Nat → Bool} (h : rp n r g) (e : ∀ w, w < n → r' w = r w) : rp n r' g := fun w i hw hi => by rw [e w hw]; exact h w i hw hi
/-- pointsWithBit -/
def pwN (N w b : Nat) : Int64 := if b < 6 then pwb b &&& ao N else if w.testBit (b - 6) then ao N else 0
theorem lb_pwN {N w b i : Nat} (hw : w < nw N) (hi : i < 64) : lb (pwN N w b) i = ((64 * w + i).testBit b && decide (64 * w + i < 2 ^ N)) := by
  have e : decide (64 * w + i < 2 ^ N) = decide (i < pw N) := by rw [decide_eq_decide]; exact nw_pt hw hi
  rw [e]
  unfold pwN
  by_cases hb : b < 6
  · rw [if_pos hb, lb_and, lb_pwb b hb i hi, lb_ao N hi, tb_lo hi hb]
  · rw [if_neg hb, tb_hi hi (by omega)]
    cases h : w.testBit (b - 6)
    · simp [lb_0]
    · simp [lb_ao N hi]
/-- acrossBit -/
def acl (x : Int64) (b : Nat) : Int64 := ((x &&& pwb b).toUInt64 >>> ((nI (2 ^ b)).toInt64.toUInt64 &&& Int64.toUInt64 63)).toInt64 ||| ((x &&& (pwb b ^^^ (-1))) <<< ((nI (2 ^ b)).toInt64 &&& 63))
def acr (r : Nat → Int64) (w b : Nat) : Int64 := if 6 ≤ b then r (w ^^^ 2 ^ (b - 6)) else acl (r w) b
theorem ac_f : ∀ b, b < 6 → ∀ i, i < 64 → i.testBit b = false → i + 2 ^ b < 64 ∧ (i + 2 ^ b).testBit b = true ∧ i ^^^ 2 ^ b = 2 ^ b + i ∧ (2 ^ b ≤ i → (i - 2 ^ b).testBit b = true) := by decide +kernel
theorem ac_t : ∀ b, b < 6 → ∀ i, i < 64 → i.testBit b = true → 2 ^ b ≤ i ∧ (i - 2 ^ b).testBit b = false ∧ i ^^^ 2 ^ b = i - 2 ^ b ∧ (2 ^ b + i < 64 → (2 ^ b + i).testBit b = false) := by decide +kernel
theorem lb_acl (x : Int64) {b i : Nat} (hb : b < 6) (hi : i < 64) : lb (acl x b) i = lb x (i ^^^ 2 ^ b) := by
  have hp : 2 ^ b < 64 := Nat.pow_lt_pow_right (a := 2) (by omega) hb
  have hs : i - 2 ^ b < 64 := Nat.lt_of_le_of_lt (Nat.sub_le _ _) hi
  unfold acl
  rw [lb_or, lb_shr (2 ^ b) hp, lb_shl (2 ^ b) hp _ hi, lb_and, lb_and]
  cases ht : i.testBit b
  · obtain ⟨h1, h2, h3, h4⟩ := ac_f b hb i hi ht
    rw [h3, lb_pwb b hb (2 ^ b + i) (by omega), show 2 ^ b + i = i + 2 ^ b from Nat.add_comm _ _, h2, Bool.and_true]
    by_cases hle : 2 ^ b ≤ i
    · rw [lb_not _ hs, lb_pwb b hb (i - 2 ^ b) hs, h4 hle]
      simp
    · simp [hle]
  · obtain ⟨h1, h2, h3, h4⟩ := ac_t b hb i hi ht
    rw [h3, lb_not _ hs, lb_pwb b hb (i - 2 ^ b) hs, h2]
    have e : (lb x (2 ^ b + i) && lb (pwb b) (2 ^ b + i)) = false := by
      by_cases hlt : 2 ^ b + i < 64
      · rw [lb_pwb b hb _ hlt, h4 hlt, Bool.and_false]
      · rw [lb_big (by omega), Bool.false_and]
    rw [e]
    simp [h1]
theorem lb_acr {N : Nat} {r : Nat → Int64} {g : Nat → Bool} (h : rp (nw N) r g) {w b i : Nat} (hw : w < nw N) (hb : b < N) (hi : i < 64) : lb (acr r w b) i = g ((64 * w + i) ^^^ 2 ^ b) := by
  unfold acr
  by_cases h6 : 6 ≤ b
  · rw [if_pos h6, h _ i (xw_lt hw hb h6) hi, xr_hi hi h6]
  · rw [if_neg h6, lb_acl _ (by omega) hi, h w _ hw (Nat.xor_lt_two_pow (n := 6) hi (Nat.pow_lt_pow_right (by omega) (by omega))), xr_lo hi (by omega)]
/-- spread, in place, j words done -/
def spr (b : Nat) (r : Nat → Int64) : Nat → Nat → Int64
  | 0 => r
  | j + 1 => vp_updL (spr b r j) j (spr b r j j ||| acr (spr b r j) j b)
theorem spr_in {N b : Nat} (hb : b < N) {r : Nat → Int64} {g : Nat → Bool} (h : rp (nw N) r g) : ∀ j, j ≤ nw N → ∀ w i, w < nw N → i < 64 → lb (spr b r j w) i = if w < j then (g (64 * w + i) || g ((64 * w + i) ^^^ 2 ^ b)) else g (64 * w + i)
  | 0, _, w, i, hw, hi => by rw [if_neg (by omega)]; exact h w i hw hi
  | j + 1, hj, w, i, hw, hi => by
    have ih := spr_in hb h j (by omega)
    show lb (vp_updL (spr b r j) j _ w) i = _
    by_cases e : w = j
    · subst e
      rw [pk_uLs, lb_or, ih w i hw hi, if_neg (by omega), if_pos (by omega)]
      unfold acr
      by_cases h6 : 6 ≤ b
      · rw [if_pos h6, ih _ i (xw_lt hw hb h6) hi, ← xr_hi hi h6, xr_xr]
        split
        · cases g (64 * w + i) <;> simp
        · rfl
      · rw [if_neg h6, lb_acl _ (by omega) hi, ih w _ hw (Nat.xor_lt_two_pow (n := 6) hi (Nat.pow_lt_pow_right (by omega) (by omega))), if_neg (by omega), xr_lo hi (by omega)]
    · rw [pk_uLn e, ih w i hw hi]
      by_cases hl : w < j
      · rw [if_pos hl, if_pos (by omega)]
      · rw [if_neg hl, if_neg (by omega)]
/-- spread: g, or g across the bit -/
def sg (b : Nat) (g : Nat → Bool) : Nat → Bool := fun p => g p || g (p ^^^ 2 ^ b)
theorem spr_rp {N b : Nat} (hb : b < N) {r : Nat → Int64} {g : Nat → Bool} (h : rp (nw N) r g) : rp (nw N) (spr b r (nw N)) (sg b g) := fun w i hw hi => by
  rw [spr_in hb h _ (Nat.le_refl _) w i hw hi, if_pos hw]
  rfl
theorem sg_dm {N b : Nat} (hb : b < N) {g : Nat → Bool} (h : dm N g) : dm N (sg b g) := fun p hp => by
  have h1 : ¬ (p ^^^ 2 ^ b) < 2 ^ N := fun h9 => by
    have := xr_lt h9 hb
    rw [xr_xr] at this
    omega
  unfold sg
  rw [h p hp, h _ (by omega)]
  rfl
theorem spr_out (b : Nat) (r : Nat → Int64) : ∀ j w, j ≤ w → spr b r j w = r w
  | 0, _, _ => rfl
  | j + 1, w, h => by
    show vp_updL (spr b r j) j _ w = _
    rw [pk_uLn (by omega), spr_out b r j w (by omega)]
/-- chosen -/
def chs (a b c : Int64) : Int64 := (a &&& b) ||| ((a ^^^ (-1)) &&& c)
theorem lb_chs (a b c : Int64) {i : Nat} (hi : i < 64) : lb (chs a b c) i = if lb a i = true then lb b i else lb c i := by
  unfold chs
  rw [lb_or, lb_and, lb_and, lb_not _ hi]
  cases lb a i <;> simp
/-- combined -/
def cmb (op : Nat) (a b : Int64) : Int64 := match op with
  | 0 => a &&& b
  | 1 => a ||| b
  | 2 => a ^^^ b
  | _ => a &&& (b ^^^ (-1))
def cmg (op : Nat) (a b : Bool) : Bool := match op with
  | 0 => a && b
  | 1 => a || b
  | 2 => a ^^ b
  | _ => a && !b
theorem lb_cmb (op : Nat) (a b : Int64) {i : Nat} (hi : i < 64) : lb (cmb op a b) i = cmg op (lb a i) (lb b i) := by
  unfold cmb cmg
  split
  · exact lb_and a b i
  · exact lb_or a b i
  · exact lb_xor a b i
  · rw [lb_and, lb_not _ hi]
end
section
/-! how many of the first n are true -/
def pcn (f : Nat → Bool) : Nat → Nat
  | 0 => 0
  | n + 1 => pcn f n + (f n).toNat
theorem pcn_le (f : Nat → Bool) : ∀ n, pcn f n ≤ n
  | 0 => Nat.le_refl 0
  | n + 1 => by
    have := pcn_le f n
    have h : (f n).toNat ≤ 1 := by cases f n <;> decide
    show pcn f n + (f n).toNat ≤ n + 1
    omega
theorem pcn_add (f : Nat → Bool) (m : Nat) : ∀ n, pcn f (m + n) = pcn f m + pcn (fun i => f (m + i)) n
  | 0 => rfl
  | n + 1 => by
    show pcn f (m + n) + (f (m + n)).toNat = pcn f m + (pcn (fun i => f (m + i)) n + (f (m + n)).toNat)
    rw [pcn_add f m n]
    omega
theorem pcn_congr {f g : Nat → Bool} : ∀ {n : Nat}, (∀ i, i < n → f i = g i) → pcn f n = pcn g n
  | 0, _ => rfl
  | n + 1, h => by
    show pcn f n + (f n).toNat = pcn g n + (g n).toNat
    rw [pcn_congr (n := n) (fun i hi => h i (by omega)), h n (by omega)]
theorem pcn_0 {f : Nat → Bool} : ∀ {n : Nat}, (∀ i, i < n → f i = false) → pcn f n = 0
  | 0, _ => rfl
  | n + 1, h => by
    show pcn f n + (f n).toNat = 0
    rw [pcn_0 (n := n) (fun i hi => h i (by omega)), h n (by omega)]
    rfl
/-! the sums inside a word: Long.bitCount -/
def sk (d : Nat) : Nat → Nat
  | 0 => 0
  | k + 1 => 256 * sk d k + d
theorem an256 {a b c d : Nat} (hb : b < 256) (hd : d < 256) : (256 * a + b) &&& (256 * c + d) = 256 * (a &&& c) + (b &&& d) := by
  have hx : b &&& d < 2 ^ 8 := Nat.and_lt_two_pow b (n := 8) hd
  apply Nat.eq_of_testBit_eq
  intro j
  have e1 := Nat.testBit_two_pow_mul_add a (b := b) (i := 8) hb j
  have e2 := Nat.testBit_two_pow_mul_add c (b := d) (i := 8) hd j
  have e3 := Nat.testBit_two_pow_mul_add (a &&& c) (b := b &&& d) (i := 8) hx j
  rw [Nat.testBit_and]
  rw [show 256 * a + b = 2 ^ 8 * a + b from rfl, show 256 * c + d = 2 ^ 8 * c + d from rfl, show 256 * (a &&& c) + (b &&& d) = 2 ^ 8 * (a &&& c) + (b &&& d) from rfl, e1, e2, e3]
  split
  · rw [Nat.testBit_and]
  · rw [Nat.testBit_and]
def q1 (k x : Nat) : Nat := x - (x / 2 &&& sk 85 k)
def q2 (k x : Nat) : Nat := (x &&& sk 51 k) + (x / 4 &&& sk 51 k)
def q3 (k x : Nat) : Nat := (x + x / 16) &&& sk 15 k
def r1 (b : Nat) : Nat := b - (b / 2 &&& 85)
def r2 (b : Nat) : Nat := (b &&& 51) + (b / 4 &&& 51)
def r3 (b : Nat) : Nat := (b + b / 16) &&& 15
theorem q1_f : ∀ b, b < 256 → ∀ e, e < 2 → (128 * e + b / 2) &&& 85 = b / 2 &&& 85 := by decide +kernel
theorem q2_f : ∀ b, b < 256 → ∀ e, e < 4 → (64 * e + b / 4) &&& 51 = b / 4 &&& 51 := by decide +kernel
theorem r_f : ∀ b, b < 256 → r1 b < 256 ∧ r2 (r1 b) ≤ 68 ∧ r2 (r1 b) % 16 ≤ 4 ∧ r3 (r2 (r1 b)) = pcn (fun i => b.testBit i) 8 := by decide +kernel
theorem q1_s (k : Nat) {a b : Nat} (hb : b < 256) : q1 (k + 1) (256 * a + b) = 256 * q1 k a + r1 b := by
  have e : (256 * a + b) / 2 = 256 * (a / 2) + (128 * (a % 2) + b / 2) := by omega
  have h1 : a / 2 &&& sk 85 k ≤ a := Nat.le_trans Nat.and_le_left (Nat.div_le_self _ _)
  have h2 : b / 2 &&& 85 ≤ b := Nat.le_trans Nat.and_le_left (Nat.div_le_self _ _)
  unfold q1 r1
  show 256 * a + b - ((256 * a + b) / 2 &&& (256 * sk 85 k + 85)) = _
  rw [e, an256 (by omega) (by omega), q1_f b hb _ (Nat.mod_lt _ (by omega))]
  omega
theorem q2_s (k : Nat) {a b : Nat} (hb : b < 256) : q2 (k + 1) (256 * a + b) = 256 * q2 k a + r2 b := by
  have e : (256 * a + b) / 4 = 256 * (a / 4) + (64 * (a % 4) + b / 4) := by omega
  unfold q2 r2
  show ((256 * a + b) &&& (256 * sk 51 k + 51)) + ((256 * a + b) / 4 &&& (256 * sk 51 k + 51)) = _
  rw [e, an256 hb (by omega), an256 (by omega) (by omega), q2_f b hb _ (Nat.mod_lt _ (by omega))]
  omega
theorem q3_s (k : Nat) {a b : Nat} (hb : b ≤ 68) (ha : a % 16 ≤ 4) : q3 (k + 1) (256 * a + b) = 256 * q3 k a + r3 b := by
  have e : 256 * a + b + (256 * a + b) / 16 = 256 * (a + a / 16) + (b + b / 16 + 16 * (a % 16)) := by omega
  unfold q3 r3
  show (256 * a + b + (256 * a + b) / 16) &&& (256 * sk 15 k + 15) = _
  rw [e, an256 (by omega) (by omega)]
  congr 1
  have h1 := Nat.and_two_pow_sub_one_eq_mod (b + b / 16 + 16 * (a % 16)) 4
  have h2 := Nat.and_two_pow_sub_one_eq_mod (b + b / 16) 4
  have e1 : (b + b / 16 + 16 * (a % 16)) &&& 15 = (b + b / 16 + 16 * (a % 16)) % 16 := h1
  have e2 : (b + b / 16) &&& 15 = (b + b / 16) % 16 := h2
  rw [e1, e2]
  omega
def qq (k x : Nat) : Nat := q3 k (q2 k (q1 k x))
theorem qq_s (k : Nat) {a b : Nat} (hb : b < 256) (ha : q2 k (q1 k a) % 16 ≤ 4) : qq (k + 1) (256 * a + b) = 256 * qq k a + pcn (fun i => b.testBit i) 8 := by
  obtain ⟨h1, h2, h3, h4⟩ := r_f b hb
  unfold qq
  rw [q1_s k hb, q2_s k h1, q3_s k h2 ha, h4]
theorem qq_m (k : Nat) {a : Nat} : q2 k (q1 k a) % 16 ≤ 4 := by
  cases k with
  | zero =>
    show ((q1 0 a &&& 0) + (q1 0 a / 4 &&& 0)) % 16 ≤ 4
    rw [Nat.and_zero, Nat.and_zero]
    decide
  | succ k =>
    have hb : a % 256 < 256 := Nat.mod_lt _ (by omega)
    obtain ⟨h1, h2, h3, h4⟩ := r_f (a % 256) hb
    have e : a = 256 * (a / 256) + a % 256 := by omega
    rw [e, q1_s k hb, q2_s k h1]
    omega
theorem qq_b (k x : Nat) : qq (k + 1) x = 256 * qq k (x / 256) + pcn (fun i => (x % 256).testBit i) 8 := by
  have e : x = 256 * (x / 256) + x % 256 := by omega
  conv => lhs; rw [e]
  exact qq_s k (Nat.mod_lt _ (by omega)) (qq_m k)
theorem pcn_b (x n : Nat) : pcn (fun i => x.testBit i) (8 + n) = pcn (fun i => (x % 256).testBit i) 8 + pcn (fun i => (x / 256).testBit i) n := by
  rw [pcn_add]
  congr 1
  · apply pcn_congr
    intro i hi
    show x.testBit i = (x % 2 ^ 8).testBit i
    rw [Nat.testBit_mod_two_pow]
    simp [hi]
  · apply pcn_congr
    intro i _
    show x.testBit (8 + i) = (x / 2 ^ 8).testBit i
    rw [Nat.testBit_div_two_pow, Nat.add_comm]
/-- the last three sums -/
def qs (w : Nat) : Nat := w + w / 256
def qt (w : Nat) : Nat := w + w / 65536
def qu (w : Nat) : Nat := w + w / 4294967296
theorem qq_z (x : Nat) : q3 0 x = 0 := Nat.and_zero _
theorem bc_nat (x : Nat) : qu (qt (qs (qq 8 x))) % 128 = pcn (fun i => x.testBit i) 64 ∧ qu (qt (qs (qq 8 x))) < 2 ^ 63 := by
  have hp : ∀ y, pcn (fun i => (y % 256).testBit i) 8 ≤ 8 := fun y => pcn_le _ 8
  have e : pcn (fun i => x.testBit i) 64 = pcn (fun i => (x % 256).testBit i) 8 + (pcn (fun i => (x / 256 % 256).testBit i) 8 + (pcn (fun i => (x / 256 / 256 % 256).testBit i) 8 + (pcn (fun i => (x / 256 / 256 / 256 % 256).testBit i) 8 + (pcn (fun i => (x / 256 / 256 / 256 / 256 % 256).testBit i) 8 + (pcn (fun i => (x / 256 / 256 / 256 / 256 / 256 % 256).testBit i) 8 + (pcn (fun i => (x / 256 / 256 / 256 / 256 / 256 / 256 % 256).testBit i) 8 + (pcn (fun i => (x / 256 / 256 / 256 / 256 / 256 / 256 / 256 % 256).testBit i) 8 + 0))))))) := by
    rw [show 64 = 8 + 56 from rfl, pcn_b, show 56 = 8 + 48 from rfl, pcn_b, show 48 = 8 + 40 from rfl, pcn_b, show 40 = 8 + 32 from rfl, pcn_b, show 32 = 8 + 24 from rfl, pcn_b, show 24 = 8 + 16 from rfl, pcn_b, show 16 = 8 + 8 from rfl, pcn_b, show pcn (fun i => (x / 256 / 256 / 256 / 256 / 256 / 256 / 256).testBit i) 8 = pcn (fun i => (x / 256 / 256 / 256 / 256 / 256 / 256 / 256).testBit i) (8 + 0) from rfl, pcn_b]
    rfl
  have z : ∀ y, qq 0 y = 0 := fun y => qq_z _
  rw [e, qq_b, qq_b, qq_b, qq_b, qq_b, qq_b, qq_b, qq_b, z]
  have h0 := hp x
  have h1 := hp (x / 256)
  have h2 := hp (x / 256 / 256)
  have h3 := hp (x / 256 / 256 / 256)
  have h4 := hp (x / 256 / 256 / 256 / 256)
  have h5 := hp (x / 256 / 256 / 256 / 256 / 256)
  have h6 := hp (x / 256 / 256 / 256 / 256 / 256 / 256)
  have h7 := hp (x / 256 / 256 / 256 / 256 / 256 / 256 / 256)
  generalize pcn (fun i => (x % 256).testBit i) 8 = p0 at h0 ⊢
  generalize pcn (fun i => (x / 256 % 256).testBit i) 8 = p1 at h1 ⊢
  generalize pcn (fun i => (x / 256 / 256 % 256).testBit i) 8 = p2 at h2 ⊢
  generalize pcn (fun i => (x / 256 / 256 / 256 % 256).testBit i) 8 = p3 at h3 ⊢
  generalize pcn (fun i => (x / 256 / 256 / 256 / 256 % 256).testBit i) 8 = p4 at h4 ⊢
  generalize pcn (fun i => (x / 256 / 256 / 256 / 256 / 256 % 256).testBit i) 8 = p5 at h5 ⊢
  generalize pcn (fun i => (x / 256 / 256 / 256 / 256 / 256 / 256 % 256).testBit i) 8 = p6 at h6 ⊢
  generalize pcn (fun i => (x / 256 / 256 / 256 / 256 / 256 / 256 / 256 % 256).testBit i) 8 = p7 at h7 ⊢
  generalize hw : 256 * (256 * (256 * (256 * (256 * (256 * (256 * (256 * 0 + p7) + p6) + p5) + p4) + p3) + p2) + p1) + p0 = w
  have e1 : qs w = 256 * (256 * (256 * (256 * (256 * (256 * (256 * p7 + (p6 + p7)) + (p5 + p6)) + (p4 + p5)) + (p3 + p4)) + (p2 + p3)) + (p1 + p2)) + (p0 + p1) := by
    unfold qs
    omega
  generalize qs w = v at e1 ⊢
  have e2 : qt v = 65536 * (65536 * (65536 * (256 * p7 + (p6 + p7)) + (256 * (p5 + p6 + p7) + (p4 + p5 + p6 + p7))) + (256 * (p3 + p4 + p5 + p6) + (p2 + p3 + p4 + p5))) + (256 * (p1 + p2 + p3 + p4) + (p0 + p1 + p2 + p3)) := by
    unfold qt
    omega
  generalize qt v = u at e2 ⊢
  unfold qu
  clear e e1 hw
  have e3 : u / 4294967296 = 65536 * (256 * p7 + (p6 + p7)) + (256 * (p5 + p6 + p7) + (p4 + p5 + p6 + p7)) := by omega
  rw [e3]
  refine ⟨?_, by omega⟩
  have e4 : u + (65536 * (256 * p7 + (p6 + p7)) + (256 * (p5 + p6 + p7) + (p4 + p5 + p6 + p7))) = 128 * (2 * (256 * (65536 * (65536 * (256 * p7 + (p6 + p7)) + (256 * (p5 + p6 + p7) + (p4 + p5 + p6 + p7))) + (256 * (p3 + p4 + p5 + p6) + (p2 + p3 + p4 + p5))) + (p1 + p2 + p3 + p4)) + 2 * (256 * (256 * p7 + (p6 + p7)) + (p5 + p6 + p7))) + (p0 + (p1 + (p2 + (p3 + (p4 + (p5 + (p6 + (p7 + 0)))))))) := by omega
  rw [e4, Nat.mul_add_mod]
  exact Nat.mod_eq_of_lt (by omega)
end
section
theorem yb_inj {a b : Int64} (h : a.toBitVec = b.toBitVec) : a = b := Int64.toBitVec_inj.mp h
theorem yb_of (x : Int64) : ∃ n, n < 2 ^ 64 ∧ x = lN n := ⟨x.toBitVec.toNat, x.toBitVec.isLt, yb_inj (by show x.toBitVec = BitVec.ofNat 64 _; simp)⟩
theorem lb_lN {n : Nat} (i : Nat) (hi : i < 64) : lb (lN n) i = n.testBit i := by
  show (BitVec.ofNat 64 n).getLsbD i = _
  rw [BitVec.getLsbD_ofNat]
  simp [hi]
theorem yb_and {a b : Nat} : lN a &&& lN b = lN (a &&& b) := lb_ext (fun i hi => by rw [lb_and, lb_lN i hi, lb_lN i hi, lb_lN i hi, Nat.testBit_and])
theorem yb_shr {n k : Nat} (hn : n < 2 ^ 64) (hk : k < 64) : ((lN n).toUInt64 >>> ((nI k).toInt64.toUInt64 &&& Int64.toUInt64 63)).toInt64 = lN (n / 2 ^ k) := lb_ext (fun i hi => by
  rw [lb_shr k hk, lb_lN i hi, Nat.testBit_div_two_pow]
  by_cases h : k + i < 64
  · rw [lb_lN _ h, Nat.add_comm]
  · rw [lb_big (by omega), Nat.testBit_lt_two_pow (Nat.lt_of_lt_of_le hn (Nat.pow_le_pow_right (by omega) (by omega)))])
/-- Long.bitCount, its steps -/
theorem bc_1 {X : Nat} (h : X < 2 ^ 64) : lN X - (((lN X).toUInt64 >>> ((nI 1).toInt64.toUInt64 &&& Int64.toUInt64 63)).toInt64 &&& 6148914691236517205) = lN (q1 8 X) := by
  rw [yb_shr h (by omega), show (6148914691236517205 : Int64) = lN (sk 85 8) from by decide +kernel, yb_and, lN_sub (Nat.le_trans Nat.and_le_left (Nat.div_le_self _ _))]
  rfl
theorem bc_1b {X : Nat} (h : X < 2 ^ 64) : q1 8 X < 2 ^ 64 := Nat.lt_of_le_of_lt (Nat.sub_le _ _) h
theorem bc_2 {X : Nat} (h : X < 2 ^ 64) : (lN X &&& 3689348814741910323) + (((lN X).toUInt64 >>> ((nI 2).toInt64.toUInt64 &&& Int64.toUInt64 63)).toInt64 &&& 3689348814741910323) = lN (q2 8 X) := by
  rw [yb_shr h (by omega), show (3689348814741910323 : Int64) = lN (sk 51 8) from by decide +kernel, yb_and, yb_and, lN_add]
  rfl
theorem bc_2b {X : Nat} : q2 8 X < 2 ^ 64 := by
  have h1 : X &&& sk 51 8 ≤ sk 51 8 := Nat.and_le_right
  have h2 : X / 4 &&& sk 51 8 ≤ sk 51 8 := Nat.and_le_right
  have h3 : sk 51 8 = 3689348814741910323 := by decide +kernel
  unfold q2
  omega
theorem bc_3 {X : Nat} (h : X < 2 ^ 64) : (lN X + ((lN X).toUInt64 >>> ((nI 4).toInt64.toUInt64 &&& Int64.toUInt64 63)).toInt64) &&& 1085102592571150095 = lN (q3 8 X) := by
  rw [yb_shr h (by omega), show (1085102592571150095 : Int64) = lN (sk 15 8) from by decide +kernel, lN_add, yb_and]
  rfl
theorem bc_3b {X : Nat} : q3 8 X ≤ 1085102592571150095 := by
  have h3 : sk 15 8 = 1085102592571150095 := by decide +kernel
  unfold q3
  rw [← h3]
  exact Nat.and_le_right
theorem bc_4 {X : Nat} (h : X < 2 ^ 64) : lN X + ((lN X).toUInt64 >>> ((nI 8).toInt64.toUInt64 &&& Int64.toUInt64 63)).toInt64 = lN (qs X) := by
  rw [yb_shr h (by omega), lN_add]
  rfl
theorem bc_5 {X : Nat} (h : X < 2 ^ 64) : lN X + ((lN X).toUInt64 >>> ((nI 16).toInt64.toUInt64 &&& Int64.toUInt64 63)).toInt64 = lN (qt X) := by
  rw [yb_shr h (by omega), lN_add]
  rfl
theorem bc_6 {X : Nat} (h : X < 2 ^ 64) : lN X + ((lN X).toUInt64 >>> ((nI 32).toInt64.toUInt64 &&& Int64.toUInt64 63)).toInt64 = lN (qu X) := by
  rw [yb_shr h (by omega), lN_add]
  rfl
theorem bc_7 (X : Nat) : (lN X).toInt32 &&& nI 127 = nI (X % 128) := by
  rw [lN_i, pk_and (nI X) 7 (by decide +kernel)]
  have e : (nI X).toBitVec.toNat = X % 2 ^ 32 := rfl
  rw [e]
  congr 1
  exact Nat.mod_mod_of_dvd X (by decide)
theorem bc_8 {x : Int64} {X : Nat} (e : x = lN X) : pcn (fun i => X.testBit i) 64 = pcn (lb x) 64 := pcn_congr (fun i hi => by rw [e, lb_lN i hi])
/-- the lowest 1 -/
theorem low_eq {x : Int64} {t : Nat} (ht : t < 64) (h1 : lb x t = true) (h0 : ∀ j, j < t → lb x j = false) : x &&& -x = lN (2 ^ t) := lb_ext (fun i hi => by
  rw [lb_and, lb_lN i hi, Nat.testBit_two_pow]
  have e : lb (-x) i = (lb x i ^^ decide (i < 64) && decide (∃ j < i, lb x j = true)) := by
    unfold lb
    rw [Int64.toBitVec_neg, BitVec.getLsbD_neg]
  rw [e]
  rcases Nat.lt_trichotomy i t with h | h | h
  · rw [h0 i h, decide_eq_false (show ¬ t = i by omega)]
    rfl
  · subst h
    rw [h1, decide_eq_true rfl, decide_eq_false (show ¬ ∃ j, j < i ∧ lb x j = true from fun ⟨j, hj, hj2⟩ => by rw [h0 j hj] at hj2; cases hj2)]
    simp
  · rw [decide_eq_false (show ¬ t = i by omega), decide_eq_true (show ∃ j, j < i ∧ lb x j = true from ⟨t, h, h1⟩), decide_eq_true hi]
    cases lb x i <;> rfl)
theorem low_pcn {x : Int64} {t : Nat} (ht : t < 64) (h1 : lb x t = true) (h0 : ∀ j, j < t → lb x j = false) : pcn (lb ((x &&& -x) - 1)) 64 = t := by
  have hp : 1 ≤ 2 ^ t := Nat.one_le_two_pow
  have e : (x &&& -x) - 1 = lN (2 ^ t - 1) := by
    rw [low_eq ht h1 h0, show (1 : Int64) = lN 1 from rfl, lN_sub hp]
  rw [e]
  have e2 : pcn (lb (lN (2 ^ t - 1))) 64 = pcn (fun i => decide (i < t)) 64 := pcn_congr (fun i hi => by rw [lb_lN i hi, Nat.testBit_two_pow_sub_one])
  rw [e2, show 64 = t + (64 - t) by omega, pcn_add, pcn_0 (f := fun i => decide (t + i < t)) (fun i _ => decide_eq_false (by omega))]
  have e3 : ∀ n, n ≤ t → pcn (fun i => decide (i < t)) n = n := by
    intro n
    induction n with
    | zero => intro _; rfl
    | succ n ih =>
      intro h
      show pcn (fun i => decide (i < t)) n + (decide (n < t)).toNat = n + 1
      rw [ih (by omega), decide_eq_true (by omega)]
      rfl
  rw [e3 t (Nat.le_refl t), Nat.add_zero]
theorem qq_le (X : Nat) : qq 8 X ≤ 1085102592571150095 := bc_3b
theorem qs_lt (X : Nat) : qs (qq 8 X) < 2 ^ 64 := by
  have := qq_le X
  unfold qs
  omega
theorem qt_lt (X : Nat) : qt (qs (qq 8 X)) < 2 ^ 64 := by
  have := qq_le X
  unfold qt qs
  omega
theorem qu_lt (X : Nat) : qu (qt (qs (qq 8 X))) < 2 ^ 64 := by
  have := (bc_nat X).2
  omega
end
section
/-! nearest: of the points where c is 1, the one whose number differs least from p (bit by bit, read as a number), in the block of 2 ^ b points round p -/
def nq (c : Nat → Bool) : Nat → Nat → Option Nat
  | 0, p => if c p then some p else none
  | b + 1, p => match nq c b p with
    | some q => some q
    | none => nq c b (p ^^^ 2 ^ b)
def ng (a c : Nat → Bool) (b p : Nat) : Bool := match nq c b p with
  | some q => a q
  | none => false
/-- some point of c in the block -/
def nc (c : Nat → Bool) (b p : Nat) : Bool := (nq c b p).isSome
theorem ng_s (a c : Nat → Bool) (b p : Nat) : ng a c (b + 1) p = (ng a c b p || (ng a c b (p ^^^ 2 ^ b) && !nc c b p)) := by
  unfold ng nc
  show (match (match nq c b p with | some q => some q | none => nq c b (p ^^^ 2 ^ b)) with | some q => a q | none => false) = _
  cases nq c b p with
  | none => simp
  | some q => simp
theorem nc_s (c : Nat → Bool) (b p : Nat) : nc c (b + 1) p = (nc c b p || nc c b (p ^^^ 2 ^ b)) := by
  unfold nc
  show (match nq c b p with | some q => some q | none => nq c b (p ^^^ 2 ^ b)).isSome = _
  cases nq c b p with
  | none => simp
  | some q => simp
theorem ng_0 (a c : Nat → Bool) (p : Nat) : ng a c 0 p = (a p && c p) := by
  unfold ng
  show (match (if c p then some p else none) with | some q => a q | none => false) = _
  cases c p <;> simp
theorem nc_0 (c : Nat → Bool) (p : Nat) : nc c 0 p = c p := by
  unfold nc
  show (if c p then some p else none).isSome = _
  cases c p <;> simp
theorem ng_nc {a c : Nat → Bool} {b p : Nat} (h : nc c b p = false) : ng a c b p = false := by
  unfold nc at h
  unfold ng
  cases hq : nq c b p with
  | none => rfl
  | some q => rw [hq] at h; cases h
/-- xor of a block's number: below 2 ^ (b + 1) it is below 2 ^ b, or 2 ^ b and the rest -/
theorem xr_half {x b : Nat} (h : x < 2 ^ (b + 1)) : x < 2 ^ b ∨ (x ^^^ 2 ^ b) < 2 ^ b ∧ x = 2 ^ b + (x ^^^ 2 ^ b) := by
  rcases Nat.lt_or_ge x (2 ^ b) with h1 | h1
  · exact Or.inl h1
  · right
    have h2 : x - 2 ^ b < 2 ^ b := by rw [Nat.pow_succ] at h; omega
    have e : 2 ^ b + (x - 2 ^ b) = 2 ^ b ^^^ (x - 2 ^ b) := by
      apply Nat.eq_of_testBit_eq
      intro j
      rw [Nat.testBit_xor, Nat.testBit_two_pow]
      have e3 := Nat.testBit_two_pow_mul_add 1 (b := x - 2 ^ b) (i := b) h2 j
      rw [Nat.mul_one] at e3
      rw [e3]
      split
      · rename_i hj
        rw [decide_eq_false (by omega), Bool.false_xor]
      · rename_i hj
        by_cases hjb : b = j
        · subst hjb
          rw [decide_eq_true rfl, Nat.testBit_lt_two_pow h2, Nat.sub_self]
          rfl
        · rw [decide_eq_false hjb, Bool.false_xor, Nat.testBit_lt_two_pow (Nat.lt_of_lt_of_le h2 (Nat.pow_le_pow_right (by omega) (by omega))), tb_one]
          exact decide_eq_false (by omega)
    have e2 : x ^^^ 2 ^ b = x - 2 ^ b := by
      have e4 : x = 2 ^ b ^^^ (x - 2 ^ b) := by rw [← e]; omega
      conv => lhs; rw [e4, Nat.xor_comm, ← Nat.xor_assoc, Nat.xor_self, Nat.zero_xor]
    rw [e2]
    omega
theorem nq_none {c : Nat → Bool} : ∀ {b p : Nat}, nq c b p = none → ∀ z, c z = true → ¬ (p ^^^ z) < 2 ^ b
  | 0, p, h, z, hz, hl => by
    have h : (if c p then some p else none) = none := h
    have e : p ^^^ z = 0 := by rw [Nat.pow_zero] at hl; omega
    have e2 : z = p := by
      have e3 : (p ^^^ z) ^^^ z = p := by rw [Nat.xor_assoc, Nat.xor_self, Nat.xor_zero]
      rw [e, Nat.zero_xor] at e3
      exact e3
    rw [← e2, hz] at h
    cases h
  | b + 1, p, h, z, hz, hl => by
    have h : (match nq c b p with | some q => some q | none => nq c b (p ^^^ 2 ^ b)) = none := h
    cases hq : nq c b p with
    | some q' => rw [hq] at h; cases h
    | none =>
      rw [hq] at h
      rcases xr_half hl with h9 | ⟨h9, -⟩
      · exact nq_none hq z hz h9
      · refine nq_none (show nq c b (p ^^^ 2 ^ b) = none from h) z hz ?_
        rw [Nat.xor_assoc, Nat.xor_comm (2 ^ b) z, ← Nat.xor_assoc]
        exact h9
theorem nq_some {c : Nat → Bool} : ∀ {b p q : Nat}, nq c b p = some q → c q = true ∧ (p ^^^ q) < 2 ^ b ∧ ∀ z, c z = true → (p ^^^ z) < 2 ^ b → (p ^^^ q) ≤ (p ^^^ z)
  | 0, p, q, h => by
    have h : (if c p then some p else none) = some q := h
    cases hc : c p with
    | false => rw [hc] at h; cases h
    | true =>
      rw [hc] at h
      cases h
      exact ⟨hc, by rw [Nat.xor_self]; decide, fun z _ _ => by rw [Nat.xor_self]; exact Nat.zero_le _⟩
  | b + 1, p, q, h => by
    have h : (match nq c b p with | some q => some q | none => nq c b (p ^^^ 2 ^ b)) = some q := h
    cases hq : nq c b p with
    | some q' =>
      rw [hq] at h
      cases h
      obtain ⟨h1, h2, h3⟩ := nq_some hq
      refine ⟨h1, Nat.lt_of_lt_of_le h2 (Nat.pow_le_pow_right (by omega) (by omega)), fun z hz hl => ?_⟩
      rcases Nat.lt_or_ge (p ^^^ z) (2 ^ b) with h9 | h9
      · exact h3 z hz h9
      · omega
    | none =>
      rw [hq] at h
      obtain ⟨h1, h2, h3⟩ := nq_some (show nq c b (p ^^^ 2 ^ b) = some q from h)
      have hc : ∀ z, (p ^^^ 2 ^ b) ^^^ z = (p ^^^ z) ^^^ 2 ^ b := fun z => by rw [Nat.xor_assoc, Nat.xor_comm (2 ^ b) z, ← Nat.xor_assoc]
      have hno := nq_none hq
      have hlt : (p ^^^ q) < 2 ^ (b + 1) := by
        have e : p ^^^ q = ((p ^^^ 2 ^ b) ^^^ q) ^^^ 2 ^ b := by rw [hc, xr_xr]
        rw [e]
        exact Nat.xor_lt_two_pow (Nat.lt_of_lt_of_le h2 (Nat.pow_le_pow_right (by omega) (by omega))) (Nat.pow_lt_pow_right (by omega) (by omega))
      refine ⟨h1, hlt, fun z hz hl => ?_⟩
      rcases xr_half hl with h9 | ⟨h9, e9⟩
      · exact absurd h9 (hno z hz)
      · rcases xr_half hlt with h8 | ⟨h8, e8⟩
        · exact absurd h8 (hno q h1)
        · have := h3 z hz (by rw [hc]; exact h9)
          rw [hc, hc] at this
          omega
/-- the step of nearest, in place, j words done -/
def nst (b : Nat) (re dr : Nat → Int64) : Nat → Nat → Int64
  | 0 => dr
  | j + 1 => vp_updL (nst b re dr j) j (nst b re dr j j ||| (acr (nst b re dr j) j b &&& (re j ^^^ (-1))))
theorem nst_in {N b : Nat} (hb : b < N) {re dr : Nat → Int64} {a c : Nat → Bool} (h : rp (nw N) dr (ng a c b)) (hr : rp (nw N) re (nc c b)) : ∀ j, j ≤ nw N → ∀ w i, w < nw N → i < 64 → lb (nst b re dr j w) i = if w < j then ng a c (b + 1) (64 * w + i) else ng a c b (64 * w + i)
  | 0, _, w, i, hw, hi => by rw [if_neg (by omega)]; exact h w i hw hi
  | j + 1, hj, w, i, hw, hi => by
    have ih := nst_in hb h hr j (by omega)
    show lb (vp_updL (nst b re dr j) j _ w) i = _
    by_cases e : w = j
    · subst e
      rw [pk_uLs, lb_or, lb_and, lb_not _ hi, hr w i hw hi, ih w i hw hi, if_neg (by omega), if_pos (by omega), ng_s]
      have hn : nc c b (64 * w + i) = false → ng a c b (64 * w + i) = false := ng_nc
      unfold acr
      by_cases h6 : 6 ≤ b
      · rw [if_pos h6, ih _ i (xw_lt hw hb h6) hi, ← xr_hi hi h6, ng_s, xr_xr]
        split
        · revert hn
          cases ng a c b (64 * w + i) <;> cases nc c b (64 * w + i) <;> simp
        · rfl
      · rw [if_neg h6, lb_acl _ (by omega) hi, ih w _ hw (Nat.xor_lt_two_pow (n := 6) hi (Nat.pow_lt_pow_right (by omega) (by omega))), if_neg (by omega), xr_lo hi (by omega)]
    · rw [pk_uLn e, ih w i hw hi]
      by_cases hl : w < j
      · rw [if_pos hl, if_pos (by omega)]
      · rw [if_neg hl, if_neg (by omega)]
theorem nst_rp {N b : Nat} (hb : b < N) {re dr : Nat → Int64} {a c : Nat → Bool} (h : rp (nw N) dr (ng a c b)) (hr : rp (nw N) re (nc c b)) : rp (nw N) (nst b re dr (nw N)) (ng a c (b + 1)) := fun w i hw hi => by
  rw [nst_in hb h hr _ (Nat.le_refl _) w i hw hi, if_pos hw]
theorem nc_sg (c : Nat → Bool) (b : Nat) : sg b (nc c b) = nc c (b + 1) := funext fun p => (nc_s c b p).symm
/-- what lies outside the points stays 0 -/
theorem nc_dm {N : Nat} {c : Nat → Bool} (h : dm N c) : ∀ b, b ≤ N → dm N (nc c b)
  | 0, _ => fun p hp => by rw [nc_0]; exact h p hp
  | b + 1, hb => by
    rw [← nc_sg]
    exact sg_dm (by omega) (nc_dm h b (by omega))
theorem ng_dm {N : Nat} {a c : Nat → Bool} (h : dm N c) {b : Nat} (hb : b ≤ N) : dm N (ng a c b) := fun p hp => ng_nc (nc_dm h b hb p hp)
end
section
/-! tuples: the values of c functions from first on at a point, as one number, the first the highest -/
def tp (g : Nat → Nat → Bool) (first p : Nat) : Nat → Nat
  | 0 => 0
  | c + 1 => 2 * tp g first p c + (g (first + c) p).toNat
theorem tp_lt (g : Nat → Nat → Bool) (first p : Nat) : ∀ c, tp g first p c < 2 ^ c
  | 0 => Nat.zero_lt_one
  | c + 1 => by
    have h := tp_lt g first p c
    have h2 : (g (first + c) p).toNat ≤ 1 := by cases g (first + c) p <;> decide
    show 2 * tp g first p c + (g (first + c) p).toNat < 2 ^ (c + 1)
    rw [Nat.pow_succ]
    omega
theorem tp_bit (g : Nat → Nat → Bool) (first p : Nat) : ∀ c j, j < c → (tp g first p c).testBit j = g (first + (c - 1 - j)) p
  | 0, _, h => absurd h (by omega)
  | c + 1, 0, _ => by
    show (2 * tp g first p c + (g (first + c) p).toNat).testBit 0 = g (first + (c + 1 - 1 - 0)) p
    rw [Nat.testBit_zero, show first + (c + 1 - 1 - 0) = first + c from rfl]
    cases g (first + c) p <;> simp <;> omega
  | c + 1, j + 1, h => by
    show (2 * tp g first p c + (g (first + c) p).toNat).testBit (j + 1) = g (first + (c + 1 - 1 - (j + 1))) p
    have h2 : (2 * tp g first p c + (g (first + c) p).toNat) / 2 = tp g first p c := by
      cases g (first + c) p <;> simp <;> omega
    rw [Nat.testBit_add_one, h2, tp_bit g first p c j (by omega)]
    congr 2
    omega
/-! a set of points spread over the bits below f: whatever those bits are -/
def sgs (g : Nat → Bool) : Nat → Nat → Bool
  | 0 => g
  | f + 1 => sg f (sgs g f)
theorem xr_div {p b f : Nat} (h : b < f) : (p ^^^ 2 ^ b) / 2 ^ f = p / 2 ^ f := by
  apply Nat.eq_of_testBit_eq
  intro j
  rw [Nat.testBit_div_two_pow, Nat.testBit_div_two_pow, Nat.testBit_xor, Nat.testBit_two_pow_of_ne (by omega), Bool.xor_false]
theorem sgs_iff (g : Nat → Bool) : ∀ f p, sgs g f p = true ↔ ∃ y, g y = true ∧ y / 2 ^ f = p / 2 ^ f
  | 0, p => by
    show g p = true ↔ _
    constructor
    · intro h; exact ⟨p, h, rfl⟩
    · rintro ⟨y, h1, h2⟩
      rw [Nat.pow_zero, Nat.div_one, Nat.div_one] at h2
      rw [← h2]; exact h1
  | f + 1, p => by
    show (sgs g f p || sgs g f (p ^^^ 2 ^ f)) = true ↔ _
    rw [Bool.or_eq_true, sgs_iff g f p, sgs_iff g f (p ^^^ 2 ^ f)]
    have hs : ∀ x : Nat, x / 2 ^ (f + 1) = x / 2 ^ f / 2 := fun x => by rw [Nat.pow_succ, Nat.div_div_eq_div_mul]
    have hx : (p ^^^ 2 ^ f) / 2 ^ f = p / 2 ^ f ^^^ 1 := by
      apply Nat.eq_of_testBit_eq
      intro j
      rw [Nat.testBit_div_two_pow, Nat.testBit_xor, Nat.testBit_xor, Nat.testBit_div_two_pow, Nat.testBit_two_pow, tb_one]
      congr 1
      rw [decide_eq_decide]
      omega
    rw [hx]
    have h1 : ∀ a b : Nat, a / 2 = b / 2 ↔ a = b ∨ a = b ^^^ 1 := fun a b => by
      have e : b ^^^ 1 = if b % 2 = 0 then b + 1 else b - 1 := by
        apply Nat.eq_of_testBit_eq
        intro j
        cases j with
        | zero =>
          rw [Nat.testBit_xor, Nat.testBit_zero, Nat.testBit_zero, Nat.testBit_zero]
          by_cases hb : b % 2 = 0
          · rw [if_pos hb, decide_eq_false (show ¬ b % 2 = 1 by omega), decide_eq_true (show (b + 1) % 2 = 1 by omega)]; rfl
          · rw [if_neg hb, decide_eq_true (show b % 2 = 1 by omega), decide_eq_false (show ¬ (b - 1) % 2 = 1 by omega)]; rfl
        | succ j =>
          rw [Nat.testBit_xor, Nat.testBit_add_one, Nat.testBit_add_one, Nat.testBit_add_one, show 1 / 2 = 0 from rfl, Nat.zero_testBit, Bool.xor_false]
          congr 1
          split <;> omega
      rw [e]
      split <;> omega
    constructor
    · rintro (⟨y, h2, h3⟩ | ⟨y, h2, h3⟩)
      · exact ⟨y, h2, by rw [hs, hs, h3]⟩
      · exact ⟨y, h2, by rw [hs, hs]; exact (h1 _ _).mpr (Or.inr h3)⟩
    · rintro ⟨y, h2, h3⟩
      rw [hs, hs] at h3
      rcases (h1 _ _).mp h3 with h4 | h4
      · exact Or.inl ⟨y, h2, h4⟩
      · exact Or.inr ⟨y, h2, h4⟩
theorem tp_30 (g : Nat → Nat → Bool) (first p : Nat) {c : Nat} (h : c ≤ 12) : tp g first p c < 2 ^ 30 := Nat.lt_of_lt_of_le (tp_lt g first p c) (Nat.pow_le_pow_right (by omega) (by omega))
theorem tp_w {T : Nat} {b : Bool} (h : T < 2 ^ 30) : (nI T <<< (nI 1 &&& 31)) ||| nI b.toNat = nI (2 * T + b.toNat) := by
  rw [pk_shlN (n := T) (nI 1 &&& 31) 1 (by decide) (by omega)]
  apply Int32.toBitVec_inj.1
  show BitVec.ofNat 32 (T * 2 ^ 1) ||| BitVec.ofNat 32 b.toNat = BitVec.ofNat 32 (2 * T + b.toNat)
  apply BitVec.eq_of_getLsbD_eq
  intro i hi
  rw [BitVec.getLsbD_or, BitVec.getLsbD_ofNat, BitVec.getLsbD_ofNat, BitVec.getLsbD_ofNat]
  have hb : b.toNat < 2 ^ 1 := by cases b <;> decide
  have e := Nat.testBit_two_pow_mul_add T (b := b.toNat) (i := 1) hb i
  rw [show 2 ^ 1 * T = 2 * T from rfl] at e
  rw [e, Nat.mul_comm T, Nat.testBit_two_pow_mul]
  simp only [hi, decide_true, Bool.true_and]
  cases i with
  | zero => cases b <;> simp
  | succ i =>
    have h0 : b.toNat.testBit (i + 1) = false := Nat.testBit_lt_two_pow (Nat.lt_of_lt_of_le hb (Nat.pow_le_pow_right (by omega) (by omega)))
    rw [h0]
    simp
theorem tp_congr {g g' : Nat → Nat → Bool} {first p p' : Nat} : ∀ {c : Nat}, (∀ k, k < c → g (first + k) p = g' (first + k) p') → tp g first p c = tp g' first p' c
  | 0, _ => rfl
  | c + 1, h => by
    show 2 * tp g first p c + (g (first + c) p).toNat = 2 * tp g' first p' c + (g' (first + c) p').toNat
    rw [tp_congr (fun k hk => h k (by omega)), h c (by omega)]
/-- marks: the points of the tuples of those places where the word has 1 -/
def mks (wd : Int64) (tn : Nat → Nat) (f : Nat) (dr : Nat → Int64) : Nat → Nat → Int64
  | 0 => dr
  | i + 1 => if lb wd i = true then vp_updL (mks wd tn f dr i) (tn i * 2 ^ f / 64) (mks wd tn f dr i (tn i * 2 ^ f / 64) ||| ((1 : Int64) <<< ((nI (tn i * 2 ^ f % 64)).toInt64 &&& 63))) else mks wd tn f dr i
theorem mks_yes {wd : Int64} {tn : Nat → Nat} {f : Nat} {dr : Nat → Int64} {i : Nat} (h : lb wd i = true) : mks wd tn f dr (i + 1) = vp_updL (mks wd tn f dr i) (tn i * 2 ^ f / 64) (mks wd tn f dr i (tn i * 2 ^ f / 64) ||| ((1 : Int64) <<< ((nI (tn i * 2 ^ f % 64)).toInt64 &&& 63))) := if_pos h
theorem mks_no {wd : Int64} {tn : Nat → Nat} {f : Nat} {dr : Nat → Int64} {i : Nat} (h : lb wd i = false) : mks wd tn f dr (i + 1) = mks wd tn f dr i := if_neg (by rw [h]; decide)
theorem mk_and (wd : Int64) {i : Nat} (hi : i < 64) : (wd.toUInt64 >>> ((nI i).toInt64.toUInt64 &&& Int64.toUInt64 63)).toInt64 &&& 1 = lN (lb wd i).toNat := lb_ext (fun j hj => by
  have h1 : lb (1 : Int64) j = (1 : Nat).testBit j := lb_lN (n := 1) j hj
  rw [lb_and, lb_shr i hi, h1, tb_one, lb_lN j hj]
  by_cases e : 0 = j
  · subst e
    rw [Nat.add_zero, decide_eq_true rfl, Bool.and_true]
    cases lb wd i <;> rfl
  · rw [decide_eq_false e, Bool.and_false]
    have hb : (lb wd i).toNat < 2 ^ 1 := by cases lb wd i <;> decide
    exact (Nat.testBit_lt_two_pow (Nat.lt_of_lt_of_le hb (Nat.pow_le_pow_right (by omega) (by omega)))).symm)
theorem mk_t {wd : Int64} {i : Nat} (hi : i < 64) (h : lg_cmp ((wd.toUInt64 >>> ((nI i).toInt64.toUInt64 &&& Int64.toUInt64 63)).toInt64 &&& 1) 1 = 0) : lb wd i = true := by
  have h1 := (lg_cmp_eq _ _).mp h
  rw [mk_and wd hi] at h1
  cases hb : lb wd i with
  | true => rfl
  | false => rw [hb] at h1; exact absurd h1 (by decide)
theorem mk_f {wd : Int64} {i : Nat} (hi : i < 64) (h : ¬ lg_cmp ((wd.toUInt64 >>> ((nI i).toInt64.toUInt64 &&& Int64.toUInt64 63)).toInt64 &&& 1) 1 = 0) : lb wd i = false := by
  cases hb : lb wd i with
  | false => rfl
  | true =>
    refine absurd ((lg_cmp_eq _ _).mpr ?_) h
    rw [mk_and wd hi, hb]
    rfl
theorem lb_put {b : Bool} {i z : Nat} (hi : i < 64) (hz : z < 64) : lb ((nI b.toNat).toInt64 <<< ((nI i).toInt64 &&& 63)) z = (decide (z = i) && b) := by
  have e : (nI b.toNat).toInt64 = lN b.toNat := nI_l (by cases b <;> decide)
  have hb : b.toNat < 2 ^ 1 := by cases b <;> decide
  rw [e, lb_shl i hi _ hz]
  by_cases h : z = i
  · subst h
    rw [decide_eq_true (Nat.le_refl z), decide_eq_true rfl, Nat.sub_self, lb_lN 0 (by omega)]
    cases b <;> rfl
  · rw [decide_eq_false h]
    by_cases h2 : i ≤ z
    · rw [lb_lN _ (by omega), Nat.testBit_lt_two_pow (Nat.lt_of_lt_of_le hb (Nat.pow_le_pow_right (by omega) (by omega))), Bool.and_false]
      rfl
    · rw [decide_eq_false h2]
      rfl
theorem decide_lt_s {z i : Nat} (h : ¬ z = i) : decide (z < i + 1) = decide (z < i) := by
  rw [decide_eq_decide]
  omega
end
section
/-! kinds: blocks with halves lo b, up b; ks x y n: the least block below n with halves x, y -/
def ks (lo up : Nat → Nat) (x y : Nat) : Nat → Option Nat
  | 0 => none
  | n + 1 => match ks lo up x y n with
    | some r => some r
    | none => if lo n = x ∧ up n = y then some n else none
/-- the first of its kind -/
def fi (lo up : Nat → Nat) (b : Nat) : Bool := (ks lo up (lo b) (up b) b).isNone
/-- a block's kind: the number of the first that equals it -/
def kn (lo up : Nat → Nat) (b : Nat) : Nat := (ks lo up (lo b) (up b) b).getD b
theorem ks_s (lo up : Nat → Nat) (x y n : Nat) : ks lo up x y (n + 1) = match ks lo up x y n with | some r => some r | none => if lo n = x ∧ up n = y then some n else none := rfl
theorem ks_some {lo up : Nat → Nat} {x y : Nat} : ∀ {n r : Nat}, ks lo up x y n = some r → r < n ∧ lo r = x ∧ up r = y ∧ ks lo up x y r = none
  | 0, r, h => by cases h
  | n + 1, r, h => by
    rw [ks_s] at h
    cases hk : ks lo up x y n with
    | some r' =>
      rw [hk] at h
      cases h
      obtain ⟨h1, h2, h3, h4⟩ := ks_some hk
      exact ⟨by omega, h2, h3, h4⟩
    | none =>
      rw [hk] at h
      by_cases hc : lo n = x ∧ up n = y
      · have h : (if lo n = x ∧ up n = y then some n else none) = some r := h
        rw [if_pos hc] at h
        cases h
        exact ⟨by omega, hc.1, hc.2, hk⟩
      · have h : (if lo n = x ∧ up n = y then some n else none) = some r := h
        rw [if_neg hc] at h
        cases h
theorem ks_none {lo up : Nat → Nat} {x y : Nat} : ∀ {n : Nat}, ks lo up x y n = none → ∀ r, r < n → ¬ (lo r = x ∧ up r = y)
  | 0, _, r, hr, _ => absurd hr (by omega)
  | n + 1, h, r, hr, hc => by
    rw [ks_s] at h
    cases hk : ks lo up x y n with
    | some r' => rw [hk] at h; cases h
    | none =>
      rw [hk] at h
      have h : (if lo n = x ∧ up n = y then some n else none) = none := h
      rcases Nat.lt_or_ge r n with h1 | h1
      · exact ks_none hk r h1 hc
      · have e : r = n := by omega
        subst e
        rw [if_pos hc] at h
        cases h
theorem ks_of {lo up : Nat → Nat} {x y r : Nat} (h1 : lo r = x) (h2 : up r = y) (h3 : ks lo up x y r = none) : ∀ {n : Nat}, r < n → ks lo up x y n = some r
  | 0, h => absurd h (by omega)
  | n + 1, h => by
    rw [ks_s]
    rcases Nat.lt_or_ge r n with h4 | h4
    · rw [ks_of h1 h2 h3 h4]
    · have e : r = n := by omega
      subst e
      rw [h3]
      show (if lo r = x ∧ up r = y then some r else none) = _
      rw [if_pos ⟨h1, h2⟩]
theorem fi_t {lo up : Nat → Nat} {b : Nat} (h : fi lo up b = true) : ks lo up (lo b) (up b) b = none := Option.isNone_iff_eq_none.mp h
theorem fi_of {lo up : Nat → Nat} {b : Nat} (h : ks lo up (lo b) (up b) b = none) : fi lo up b = true := Option.isNone_iff_eq_none.mpr h
theorem fi_no {lo up : Nat → Nat} {b r : Nat} (h : ks lo up (lo b) (up b) b = some r) : fi lo up b = false := by unfold fi; rw [h]; rfl
/-- equal halves, equal kind -/
theorem kn_eq {lo up : Nat → Nat} {a b : Nat} : kn lo up a = kn lo up b ↔ lo a = lo b ∧ up a = up b := by
  have hk : ∀ c, lo (kn lo up c) = lo c ∧ up (kn lo up c) = up c := fun c => by
    unfold kn
    cases h : ks lo up (lo c) (up c) c with
    | none => exact ⟨rfl, rfl⟩
    | some r => obtain ⟨h1, h2, h3, h4⟩ := ks_some h; exact ⟨h2, h3⟩
  have hf : ∀ c, ks lo up (lo c) (up c) (kn lo up c) = none := fun c => by
    unfold kn
    cases h : ks lo up (lo c) (up c) c with
    | none => exact h
    | some r => obtain ⟨h1, h2, h3, h4⟩ := ks_some h; exact h4
  constructor
  · intro h
    have h1 := hk a
    have h2 := hk b
    rw [h] at h1
    exact ⟨h1.1.symm.trans h2.1, h1.2.symm.trans h2.2⟩
  · rintro ⟨h1, h2⟩
    rcases Nat.lt_trichotomy (kn lo up a) (kn lo up b) with h | h | h
    · exact absurd ⟨(hk a).1.trans h1, (hk a).2.trans h2⟩ (ks_none (hf b) _ h)
    · exact h
    · exact absurd ⟨(hk b).1.trans h1.symm, (hk b).2.trans h2.symm⟩ (ks_none (hf a) _ h)
theorem kn_le (lo up : Nat → Nat) (b : Nat) : kn lo up b ≤ b := by
  unfold kn
  cases h : ks lo up (lo b) (up b) b with
  | none => exact Nat.le_refl _
  | some r => exact Nat.le_of_lt (ks_some h).1
theorem kn_fi {lo up : Nat → Nat} {b : Nat} : kn lo up b = b ↔ fi lo up b = true := by
  unfold kn fi
  cases h : ks lo up (lo b) (up b) b with
  | none => simp
  | some r =>
    have := (ks_some h).1
    simp
    omega
/-- the latest first block below m with the lower half x -/
def pv (lo up : Nat → Nat) (x : Nat) : Nat → Option Nat
  | 0 => none
  | m + 1 => if lo m = x ∧ fi lo up m = true then some m else pv lo up x m
theorem pv_some {lo up : Nat → Nat} {x : Nat} : ∀ {m f : Nat}, pv lo up x m = some f → f < m ∧ lo f = x ∧ fi lo up f = true ∧ ∀ g, f < g → g < m → lo g = x → fi lo up g = false
  | 0, f, h => by cases h
  | m + 1, f, h => by
    have h : (if lo m = x ∧ fi lo up m = true then some m else pv lo up x m) = some f := h
    by_cases hc : lo m = x ∧ fi lo up m = true
    · rw [if_pos hc] at h
      cases h
      exact ⟨by omega, hc.1, hc.2, fun g h1 h2 => absurd h1 (by omega)⟩
    · rw [if_neg hc] at h
      obtain ⟨h1, h2, h3, h4⟩ := pv_some h
      refine ⟨by omega, h2, h3, fun g h5 h6 h7 => ?_⟩
      rcases Nat.lt_or_ge g m with h8 | h8
      · exact h4 g h5 h8 h7
      · have e : g = m := by omega
        subst e
        cases h9 : fi lo up g with
        | false => rfl
        | true => exact absurd ⟨h7, h9⟩ hc
theorem pv_none {lo up : Nat → Nat} {x : Nat} : ∀ {m : Nat}, pv lo up x m = none → ∀ f, f < m → lo f = x → fi lo up f = false
  | 0, _, f, h, _ => absurd h (by omega)
  | m + 1, h, f, h1, h2 => by
    have h : (if lo m = x ∧ fi lo up m = true then some m else pv lo up x m) = none := h
    by_cases hc : lo m = x ∧ fi lo up m = true
    · rw [if_pos hc] at h; cases h
    · rw [if_neg hc] at h
      rcases Nat.lt_or_ge f m with h8 | h8
      · exact pv_none h f h8 h2
      · have e : f = m := by omega
        subst e
        cases h9 : fi lo up f with
        | false => rfl
        | true => exact absurd ⟨h2, h9⟩ hc
/-- the search down the chain of x: nothing with y from m on -/
def nb (lo up : Nat → Nat) (x y b m : Nat) : Prop := ∀ f, m ≤ f → f < b → lo f = x → fi lo up f = true → up f ≠ y
theorem nb_0 (lo up : Nat → Nat) (x y b : Nat) : nb lo up x y b b := fun f h1 h2 => absurd h1 (by omega)
theorem nb_hit {lo up : Nat → Nat} {x y b m f : Nat} (hm : m ≤ b) (h : pv lo up x m = some f) (hy : up f = y) : ks lo up x y b = some f := by
  obtain ⟨h1, h2, h3, -⟩ := pv_some h
  have h4 := fi_t h3
  rw [h2, hy] at h4
  exact ks_of h2 hy h4 (by omega)
theorem nb_on {lo up : Nat → Nat} {x y b m f : Nat} (hn : nb lo up x y b m) (h : pv lo up x m = some f) (hy : ¬ up f = y) : nb lo up x y b f := fun g h1 h2 h3 h4 => by
  obtain ⟨h5, h6, h7, h8⟩ := pv_some h
  rcases Nat.lt_or_ge g m with h9 | h9
  · rcases Nat.lt_or_ge f g with h10 | h10
    · rw [h8 g h10 h9 h3] at h4; cases h4
    · have e : g = f := by omega
      subst e
      exact hy
  · exact hn g h9 h2 h3 h4
theorem nb_end {lo up : Nat → Nat} {x y b m : Nat} (hn : nb lo up x y b m) (h : pv lo up x m = none) : ks lo up x y b = none := by
  cases hk : ks lo up x y b with
  | none => rfl
  | some r =>
    obtain ⟨h1, h2, h3, h4⟩ := ks_some hk
    have h5 : fi lo up r = true := fi_of (by rw [h2, h3]; exact h4)
    rcases Nat.lt_or_ge r m with h6 | h6
    · rw [pv_none h r h6 h2] at h5; cases h5
    · exact absurd h3 (hn r h6 h1 h2 h5)
def en (o : Option Nat) : Int32 := match o with
  | some f => nI f
  | none => -1
/-- the counter's three arrays when b blocks are done -/
def fk (lo up : Nat → Nat) (X b : Nat) (uh bf la : Nat → Int32) : Prop := (∀ x, x < X → la x = en (pv lo up x b)) ∧ ∀ f, f < b → fi lo up f = true → uh f = nI (up f) ∧ bf f = en (pv lo up (lo f) f)
theorem fk_0 (lo up : Nat → Nat) (X : Nat) (uh bf la : Nat → Int32) (h : ∀ x, x < X → la x = -1) : fk lo up X 0 uh bf la := ⟨h, fun f hf => absurd hf (by omega)⟩
theorem fk_old {lo up : Nat → Nat} {X b r : Nat} {uh bf la : Nat → Int32} (h : fk lo up X b uh bf la) (hk : ks lo up (lo b) (up b) b = some r) : fk lo up X (b + 1) uh bf la := by
  have hb := fi_no hk
  refine ⟨fun x hx => ?_, fun f hf h1 => ?_⟩
  · rw [h.1 x hx]
    show _ = en (if lo b = x ∧ fi lo up b = true then some b else pv lo up x b)
    rw [if_neg (fun q => by rw [hb] at q; cases q.2)]
  · rcases Nat.lt_or_ge f b with h2 | h2
    · exact h.2 f h2 h1
    · have e : f = b := by omega
      subst e
      rw [hb] at h1
      cases h1
theorem fk_new {lo up : Nat → Nat} {X b : Nat} {uh bf la : Nat → Int32} (h : fk lo up X b uh bf la) (hX : lo b < X) (hk : ks lo up (lo b) (up b) b = none) : fk lo up X (b + 1) (upd uh b (nI (up b))) (upd bf b (la (lo b))) (upd la (lo b) (nI b)) := by
  have hb := fi_of hk
  refine ⟨fun x hx => ?_, fun f hf h1 => ?_⟩
  · show _ = en (if lo b = x ∧ fi lo up b = true then some b else pv lo up x b)
    by_cases e : lo b = x
    · subst e
      rw [pk_us, if_pos ⟨rfl, hb⟩]
      rfl
    · rw [pk_un (fun q => e q.symm), h.1 x hx, if_neg (fun q => e q.1)]
  · rcases Nat.lt_or_ge f b with h2 | h2
    · rw [pk_un (by omega), pk_un (by omega)]
      exact h.2 f h2 h1
    · have e : f = b := by omega
      subst e
      rw [pk_us, pk_us]
      exact ⟨rfl, h.1 _ hX⟩
/-- forks of a level: the first blocks with unlike halves -/
def cf (lo up : Nat → Nat) : Nat → Nat
  | 0 => 0
  | n + 1 => cf lo up n + (fi lo up n && !decide (lo n = up n)).toNat
theorem cf_le (lo up : Nat → Nat) : ∀ n, cf lo up n ≤ n
  | 0 => Nat.le_refl 0
  | n + 1 => by
    have := cf_le lo up n
    have h : (fi lo up n && !decide (lo n = up n)).toNat ≤ 1 := by cases (fi lo up n && !decide (lo n = up n)) <;> decide
    show cf lo up n + (fi lo up n && !decide (lo n = up n)).toNat ≤ n + 1
    omega
/-- the kinds of the level with 2 ^ v blocks; of level N the points' values -/
def kl (g : Nat → Bool) (N : Nat) : Nat → Nat → Nat
  | 0 => fun p => (g p).toNat
  | d + 1 => fun b => kn (fun b => kl g N d (2 * b)) (fun b => kl g N d (2 * b + 1)) b
/-- forks from the last variable up, d variables done -/
def fc (g : Nat → Bool) (N : Nat) : Nat → Nat
  | 0 => 0
  | d + 1 => fc g N d + cf (fun b => kl g N d (2 * b)) (fun b => kl g N d (2 * b + 1)) (2 ^ (N - (d + 1)))
/-- two blocks are of one kind just if they are equal functions -/
theorem kl_eq (g : Nat → Bool) (N : Nat) : ∀ d a b, kl g N d a = kl g N d b ↔ ∀ i, i < 2 ^ d → g (a * 2 ^ d + i) = g (b * 2 ^ d + i)
  | 0, a, b => by
    show (g a).toNat = (g b).toNat ↔ _
    constructor
    · intro h i hi
      have : i = 0 := by rw [Nat.pow_zero] at hi; omega
      subst this
      rw [Nat.pow_zero, Nat.mul_one, Nat.mul_one, Nat.add_zero, Nat.add_zero]
      revert h
      cases g a <;> cases g b <;> simp
    · intro h
      have := h 0 (by decide)
      rw [Nat.pow_zero, Nat.mul_one, Nat.mul_one, Nat.add_zero, Nat.add_zero] at this
      rw [this]
  | d + 1, a, b => by
    show kn _ _ a = kn _ _ b ↔ _
    rw [kn_eq, kl_eq g N d, kl_eq g N d]
    have e : ∀ x : Nat, x * 2 ^ (d + 1) = 2 * x * 2 ^ d := fun x => by rw [Nat.pow_succ, Nat.mul_comm (2 ^ d) 2, ← Nat.mul_assoc, Nat.mul_comm x 2]
    have e2 : ∀ x : Nat, (2 * x + 1) * 2 ^ d = 2 * x * 2 ^ d + 2 ^ d := fun x => by rw [Nat.add_mul, Nat.one_mul]
    have e3 : 2 ^ (d + 1) = 2 ^ d + 2 ^ d := by rw [Nat.pow_succ]; omega
    rw [e, e]
    constructor
    · rintro ⟨h1, h2⟩ i hi
      rcases Nat.lt_or_ge i (2 ^ d) with h3 | h3
      · exact h1 i h3
      · have := h2 (i - 2 ^ d) (by omega)
        rw [e2, e2] at this
        rw [show 2 * a * 2 ^ d + i = 2 * a * 2 ^ d + 2 ^ d + (i - 2 ^ d) by omega, show 2 * b * 2 ^ d + i = 2 * b * 2 ^ d + 2 ^ d + (i - 2 ^ d) by omega]
        exact this
    · intro h
      refine ⟨fun i hi => h i (by omega), fun i hi => ?_⟩
      have := h (2 ^ d + i) (by omega)
      rw [e2, e2, Nat.add_assoc, Nat.add_assoc]
      exact this
theorem nI_z {n : Nat} (h : n < 2 ^ 31) (h0 : nI n ≤ 0) : n = 0 := by
  rcases Nat.eq_zero_or_pos n with e | e
  · exact e
  · exact absurd h0 (nI_nle e h)
theorem en_n {lo up : Nat → Nat} {x m : Nat} (hm : m < 2 ^ 31) (h : en (pv lo up x m) = -1) : pv lo up x m = none := by
  cases hp : pv lo up x m with
  | none => rfl
  | some f =>
    obtain ⟨h1, -⟩ := pv_some hp
    rw [hp] at h
    have h2 : nI f = -1 := h
    exact absurd (by rw [h2]; decide) (nI_pos (show f < 2 ^ 31 by omega))
theorem en_s {o : Option Nat} (h : ¬ en o = -1) : ∃ f, o = some f := by
  cases o with
  | none => exact absurd rfl h
  | some f => exact ⟨f, rfl⟩
theorem kn_no {lo up : Nat → Nat} {b : Nat} (h : ¬ kn lo up b = b) : fi lo up b = false := by
  cases hf : fi lo up b with
  | false => rfl
  | true => exact absurd (kn_fi.mpr hf) h
theorem cf_s (lo up : Nat → Nat) (n : Nat) : cf lo up (n + 1) = cf lo up n + (fi lo up n && !decide (lo n = up n)).toNat := rfl
theorem fc_s {g : Nat → Bool} {N v : Nat} (h : v + 1 ≤ N) : fc g N (N - (v + 1)) + cf (fun b => kl g N (N - (v + 1)) (2 * b)) (fun b => kl g N (N - (v + 1)) (2 * b + 1)) (2 ^ v) = fc g N (N - v) := by
  obtain ⟨d, hd⟩ : ∃ d, N - (v + 1) = d := ⟨_, rfl⟩
  have e : N - v = d + 1 := by omega
  rw [hd, e]
  show _ = fc g N d + cf _ _ (2 ^ (N - (d + 1)))
  rw [show N - (d + 1) = v by omega]
theorem kl_s {g : Nat → Bool} {N v : Nat} (h : v + 1 ≤ N) (i : Nat) : kn (fun b => kl g N (N - (v + 1)) (2 * b)) (fun b => kl g N (N - (v + 1)) (2 * b + 1)) i = kl g N (N - v) i := by
  obtain ⟨d, hd⟩ : ∃ d, N - (v + 1) = d := ⟨_, rfl⟩
  have e : N - v = d + 1 := by omega
  rw [hd, e]
  rfl
theorem kl_lt {g : Nat → Bool} {N v i : Nat} (h : v + 1 ≤ N) (hi : i < 2 ^ (v + 1)) : kl g N (N - (v + 1)) i < max 2 (2 ^ (N - 1)) := by
  cases hd : N - (v + 1) with
  | zero =>
    show (g i).toNat < _
    have : (g i).toNat ≤ 1 := by cases g i <;> decide
    exact Nat.lt_of_lt_of_le (by omega) (Nat.le_max_left 2 _)
  | succ d =>
    have h1 := kn_le (fun b => kl g N d (2 * b)) (fun b => kl g N d (2 * b + 1)) i
    have h2 : 2 ^ (v + 1) ≤ 2 ^ (N - 1) := Nat.pow_le_pow_right (by omega) (by omega)
    show kn _ _ i < _
    exact Nat.lt_of_lt_of_le (Nat.lt_of_le_of_lt h1 (by omega)) (Nat.le_max_right 2 _)
end
