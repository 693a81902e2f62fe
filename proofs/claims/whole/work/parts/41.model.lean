/-! the reference's cells: bd 0 the object, 1 rows, 2 made, 3 parts; arrays of truth by their truth -/
def bz (f : Nat → Bool) : Nat → Int32 := fun i => nI (f i).toNat
theorem bz_up (f : Nat → Bool) (i : Nat) (b : Bool) : upd (bz f) i (vp_nar .boolean (nI b.toNat)) = bz (va_up f i b) := by
  have e : vp_nar .boolean (nI b.toNat) = nI b.toNat := by cases b <;> decide
  rw [e]
  funext j
  by_cases h : j = i
  · subst h
    rw [pk_us]
    show _ = nI (va_up f j b j).toNat
    rw [va_up_self]
  · rw [pk_un h]
    show _ = nI (va_up f i b j).toNat
    rw [va_up_ne _ _ h]
    rfl
abbrev mdF (N : Nat) (bd : Nat → Nat) (th : Int32) : List Value := [.int th, .int (nI N), .int (nI (2 ^ N)), .ref (bd 1), .ref (bd 2), .ref (bd 3)]
abbrev mdW (N : Nat) (bd : Nat → Nat) (cZ cI : ClassId) (th : Int32) (rb mb : Nat → Bool) (pt : Nat → Int32) : va_W :=
  [(bd 0, .inr (2, mdF N bd th)), (bd 1, .inl (cZ, 131072, .inl (bz rb))), (bd 2, .inl (cZ, 4096, .inl (bz mb))), (bd 3, .inl (cI, 2048, .inl pt))]
abbrev mdT (cZ cI : ClassId) : List (ClassId × FieldType) := [(cZ, .boolean), (cI, .int)]
def aok4 (A : Nat → Prop) (bd : Nat → Nat) : Prop := (∀ i j, i < 4 → j < 4 → bd i = bd j → i = j) ∧ ∀ i, i < 4 → A (bd i)
def fr4 (bd : Nat → Nat) (sz : Nat) : Nat → Prop := fun q => (∃ i, i < 4 ∧ q = bd i) ∨ sz ≤ q
theorem aok4_fr {A : Nat → Prop} {bd : Nat → Nat} {sz : Nat} (h : aok4 A bd) : aok4 (fr4 bd sz) bd := ⟨h.1, fun i hi => Or.inl ⟨i, hi, rfl⟩⟩
theorem aok4_true {A : Nat → Prop} {bd : Nat → Nat} (h : aok4 A bd) : aok4 (fun _ => True) bd := ⟨h.1, fun _ _ => trivial⟩
theorem fr4_in {A : Nat → Prop} {bd : Nat → Nat} {H0 H : Heap} {locs : List Loc} (h : aok4 A bd) (hS : va_S A H0 H locs) (hA : ∀ q, H0.size ≤ q → A q) : ∀ q, fr4 bd H.size q → A q := by
  intro q hq
  rcases hq with ⟨i, hi, rfl⟩ | hq
  · exact h.2 i hi
  · exact hA q (Nat.le_trans hS.1 hq)
theorem fr4_new {bd : Nat → Nat} {sz : Nat} : ∀ q, sz ≤ q → fr4 bd sz q := fun _ h => Or.inr h
theorem md_adr {N : Nat} {bd : Nat → Nat} {cZ cI : ClassId} {th : Int32} {rb mb : Nat → Bool} {pt : Nat → Int32} {k : Nat} {q : Nat × va_E} (h : (mdW N bd cZ cI th rb mb pt)[k]? = some q) : k < 4 ∧ q.1 = bd k := by
  match k, h with
  | 0, h => cases h; exact ⟨by omega, rfl⟩
  | 1, h => cases h; exact ⟨by omega, rfl⟩
  | 2, h => cases h; exact ⟨by omega, rfl⟩
  | 3, h => cases h; exact ⟨by omega, rfl⟩
  | k + 4, h => cases h
theorem md_D {A : Nat → Prop} {N : Nat} {bd : Nat → Nat} {cZ cI : ClassId} {th : Int32} {rb mb : Nat → Bool} {pt : Nat → Int32} (h : aok4 A bd) : va_D A (mdW N bd cZ cI th rb mb pt) :=
  ⟨fun i j p q hi hj e => by
    obtain ⟨a1, a2⟩ := md_adr hi
    obtain ⟨b1, b2⟩ := md_adr hj
    exact h.1 i j a1 b1 (by rw [← a2, ← b2, e]), fun k q hk => by
    obtain ⟨a1, a2⟩ := md_adr hk
    rw [a2]
    exact h.2 k a1⟩
section XZ
variable {p : Program} {l : Launch} {e : Env} {R : Room} {s : State} {m : MethodId} {args : Array Value} {below : List Frame} {meth : Method} {c : Code} {H : Heap} {locs : List Loc} {cells slots : Nat} {Q : State → Prop}
variable {cc : ByteArray} {pc : Nat} {ls : Array Slot} {rest : List Value} {D : va_G} {cl : List vw_C} {A : Nat → Prop} {a : Nat} {tys : List (ClassId × FieldType)} {ws : va_W} {H0 : Heap}
theorem xa_zald (hexec : p.tables.exec = Jvm.exec) (hb : c.code = cc) (hK : va_K D cl tys s) (hP : va_P D cl ws H) (q0 t0 : Nat) {cA : ClassId} {n : Nat} {f : Nat → Bool} (ha : ws[q0]? = some (a, .inl (cA, n, .inl (bz f)))) (ht : tys[t0]? = some (cA, .boolean)) {w : Nat} (hw : w < n) (hn : n < 2 ^ 31) (hdg : decode cc pc = .ok (.baload, 1))
    (kk : W p l e R s m args below meth c H locs cells slots Q (F0 m (pc + 1) ls (.int (nI (f w).toNat) :: rest))) : W p l e R s m args below meth c H locs cells slots Q (F0 m pc ls (.int (nI w) :: .ref a :: rest)) :=
  va_zald hexec hb hK hP q0 t0 ha ht (vp_in_nI hw hn) hdg (by rw [nI_clamp (Nat.lt_trans hw hn)]; exact kk)
theorem xa_zast (hexec : p.tables.exec = Jvm.exec) (hb : c.code = cc) (hK : va_K D cl tys s) (hP : va_P D cl ws H) (hD : va_D A ws) (hS : va_S A H0 H locs) (q0 t0 : Nat) {cA : ClassId} {n : Nat} {f : Nat → Bool} (ha : ws[q0]? = some (a, .inl (cA, n, .inl (bz f)))) (ht : tys[t0]? = some (cA, .boolean)) {w : Nat} {b : Bool} (hw : w < n) (hn : n < 2 ^ 31) (hdg : decode cc pc = .ok (.bastore, 1))
    (kk : ∀ (H1 : Heap) (locs1 : List Loc), va_P D cl (ws.set q0 (a, .inl (cA, n, .inl (bz (va_up f w b))))) H1 → va_D A (ws.set q0 (a, .inl (cA, n, .inl (bz (va_up f w b))))) → va_S A H0 H1 locs1 → W p l e R s m args below meth c H1 locs1 cells slots Q (F0 m (pc + 1) ls rest)) : W p l e R s m args below meth c H locs cells slots Q (F0 m pc ls (.int (nI b.toNat) :: .int (nI w) :: .ref a :: rest)) :=
  va_zast hexec hb hK hP hD hS q0 t0 ha ht (vp_in_nI hw hn) hdg (by rw [nI_clamp (Nat.lt_trans hw hn), bz_up]; exact kk)
theorem xb_eq (hexec : p.tables.exec = Jvm.exec) (hb : c.code = cc) {x y : Bool} {off : Int} {tgt : Nat} (hdg : decode cc pc = .ok (.if_icmp .eq off, 3)) (ht : (pc : Int) + off = (tgt : Int))
    (kt : x = y → W p l e R s m args below meth c H locs cells slots Q (F0 m tgt ls rest)) (kf : ¬ x = y → W p l e R s m args below meth c H locs cells slots Q (F0 m (pc + 3) ls rest)) : W p l e R s m args below meth c H locs cells slots Q (F0 m pc ls (.int (nI y.toNat) :: .int (nI x.toNat) :: rest)) :=
  lv_icmp_eq hexec hb hdg ht (fun h => kt (by cases x <;> cases y <;> first | rfl | exact absurd h (by decide))) (fun h => kf (fun e => h (by rw [e])))
theorem xa_ishr (hexec : p.tables.exec = Jvm.exec) (hb : c.code = cc) {x y : Nat} (hx : x < 2 ^ 31) (hy : y < 32) (hdg : decode cc pc = .ok (.ishr, 1)) (k : W p l e R s m args below meth c H locs cells slots Q (F0 m (pc + 1) ls (.int (nI (x / 2 ^ y)) :: rest))) : W p l e R s m args below meth c H locs cells slots Q (F0 m pc ls (.int (nI y) :: .int (nI x) :: rest)) :=
  lv_ishr hexec hb hdg (by rw [pk_shrN hx _ y (xs_l y hy)]; exact k)
theorem xa_ior (hexec : p.tables.exec = Jvm.exec) (hb : c.code = cc) {x y : Nat} (hdg : decode cc pc = .ok (.ior, 1)) (k : W p l e R s m args below meth c H locs cells slots Q (F0 m (pc + 1) ls (.int (nI (x ||| y)) :: rest))) : W p l e R s m args below meth c H locs cells slots Q (F0 m pc ls (.int (nI y) :: .int (nI x) :: rest)) :=
  lv_ior hexec hb hdg (by
    have h : nI x ||| nI y = nI (x ||| y) := by
      apply Int32.toBitVec_inj.1
      show BitVec.ofNat 32 x ||| BitVec.ofNat 32 y = BitVec.ofNat 32 (x ||| y)
      apply BitVec.eq_of_getLsbD_eq
      intro i hi
      simp [hi]
    rw [h]; exact k)
end XZ
/-- the rows hold the functions g -/
def okM (N : Nat) (rb : Nat → Bool) (g : Nat → Nat → Bool) : Prop := ∀ k p, k < 32 → p < 2 ^ N → rb (4096 * k + p) = g k p
/-- keep: row k becomes what was made, p points done -/
def kpt (rb mb : Nat → Bool) (k : Nat) : Nat → Nat → Bool
  | 0 => rb
  | p + 1 => va_up (kpt rb mb k p) (4096 * k + p) (mb p)
theorem kpt_at (rb mb : Nat → Bool) (k : Nat) : ∀ n i, kpt rb mb k n i = if 4096 * k ≤ i ∧ i < 4096 * k + n then mb (i - 4096 * k) else rb i
  | 0, i => by rw [if_neg (by omega)]; rfl
  | n + 1, i => by
    show va_up (kpt rb mb k n) (4096 * k + n) (mb n) i = _
    by_cases e : i = 4096 * k + n
    · subst e
      rw [va_up_self, if_pos (by omega), Nat.add_sub_cancel_left]
    · rw [va_up_ne _ _ e, kpt_at rb mb k n i]
      by_cases h : 4096 * k ≤ i ∧ i < 4096 * k + n
      · rw [if_pos h, if_pos (by omega)]
      · rw [if_neg h, if_neg (by omega)]
theorem okM_up {N : Nat} (hN : N ≤ 12) {rb mb : Nat → Bool} {g : Nat → Nat → Bool} (h : okM N rb g) {j : Nat} (hj : j < 32) {f : Nat → Bool} (hf : ∀ p, p < 2 ^ N → mb p = f p) : okM N (kpt rb mb j (2 ^ N)) (va_up g j f) := fun k p hk hp => by
  have hnp := np_le hN
  rw [kpt_at]
  by_cases e : k = j
  · subst e
    rw [if_pos (by omega), va_up_self, Nat.add_sub_cancel_left]
    exact hf p hp
  · rw [if_neg (by omega), va_up_ne _ _ e]
    exact h k p hk hp
