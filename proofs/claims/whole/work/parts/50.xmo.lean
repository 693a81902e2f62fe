section MNX
variable {E : CtlPost} {e : Env} {d : Bool} {acts : List Action} {S : State}
/-- two dimensions -/
theorem mn_two {cA cB comp : ClassId} {kA kB : Class} {tA ty : FieldType} {n m : Int32} {Q : Addr → Pre} (hkA : S.vm.classes[cA]? = some kA) (hkindA : kA.kind = .array cB tA) (hkB : S.vm.classes[cB]? = some kB) (hkindB : kB.kind = .array comp ty) (hfA : fits tA .null = true) (hfR : ∀ a : Addr, fits tA (.ref a) = true) (hf : fits ty (defaultValue ty) = true) (hn : ¬ n < 0) (hm : ¬ m < 0)
    (h1 : ¬ n.toNatClampNeg > e.platform.arrayLengthLimit) (h2 : ¬ n.toNatClampNeg * componentBytes tA > e.platform.maxHeapBytes) (h3 : ¬ m.toNatClampNeg > e.platform.arrayLengthLimit) (h4 : ¬ m.toNatClampNeg * componentBytes ty > e.platform.maxHeapBytes) (hc : S.heap.size + (1 + n.toNatClampNeg) ≤ e.platform.maxCells) (hs : S.slotsUsed + (n.toNatClampNeg + n.toNatClampNeg * m.toNatClampNeg) ≤ e.platform.maxSlots)
    (hq : ∀ d' acts', Q S.heap.size d' acts' (mnF S cA cB n.toNatClampNeg m.toNatClampNeg (defaultValue ty) n.toNatClampNeg)) : wp (Op.multianewarray.make cA [n, m]) Q E e d acts S := by
  have hneg : ([m].find? (· < 0)) = none := by simp [hm]
  rw [Op.multianewarray.make]
  simp only [wp_bind', W.ite, hn, if_false, wp_pure', W.theClass, hkA, Option.some.injEq, exists_eq_left', hkindA]
  refine mn_new hkA hkindA h1 h2 (by omega) (by omega) hfA (fun acts' => ?_)
  rw [mnO_0 cA n.toNatClampNeg S.heap.size]
  simp only [hneg, ite_self, wp_bind', Std.Legacy.Range.forIn_eq_forIn_range']
  have hsz : ([:n.toNatClampNeg] : Std.Legacy.Range).size = n.toNatClampNeg := by simp [Std.Legacy.Range.size]
  rw [hsz]
  generalize hN : n.toNatClampNeg = N at *
  generalize hM : m.toNatClampNeg = M at *
  refine wp_forIn_inv (fun rest s' => ∃ i, i ≤ N ∧ rest = List.range' i (N - i) ∧ s' = mnF S cA cB N M (defaultValue ty) i) _ _ ⟨0, Nat.zero_le N, by rw [Nat.sub_zero], rfl⟩ ?_ ?_
  · intro x rest s' d' acts9 Q' hI hk
    obtain ⟨i, hi, hr, rfl⟩ := hI
    have hlt : i < N := by
      rcases Nat.lt_or_ge i N with h | h
      · exact h
      · rw [show N - i = 0 by omega] at hr
        cases hr
    obtain ⟨w, hw⟩ : ∃ w, N - i = w + 1 := ⟨N - i - 1, by omega⟩
    rw [hw, List.range'_succ] at hr
    obtain ⟨e1, e2⟩ := List.cons.inj hr
    rw [e1]
    simp only [wp_bind']
    have hsz9 := mnF_size S cA cB N M (defaultValue ty) i
    have hus9 := mnF_used S cA cB N M (defaultValue ty) i
    have hmul : i * M + M ≤ N * M := by
      have := Nat.mul_le_mul_right M (show i + 1 ≤ N by omega)
      rw [Nat.succ_mul] at this
      exact this
    refine mn_one (by rw [mnF_vm]; exact hkB) hkindB hm (by rw [hM]; exact h3) (by rw [hM]; exact h4) (by rw [hsz9]; omega) (by rw [hus9, hM]; omega) hf (fun acts8 => ?_)
    rw [hM]
    have hcell : ((mnF S cA cB N M (defaultValue ty) i).pushCell (mnR cB M (defaultValue ty))).heap[S.heap.size]? = some (mnO cA N S.heap.size i) := by
      have h9 : S.heap.size < (mnF S cA cB N M (defaultValue ty) i).heap.size := by rw [hsz9]; omega
      rw [State.heap_pushCell_of_lt _ _ h9]
      exact mnF_out S cA cB N M (defaultValue ty) i
    simp only [wp_bind', W.writeLoc, wp_pure']
    refine ⟨_, hcell, ?_, by rw [mnO_size]; exact hlt, ?_, ?_⟩
    · intro h9
      cases h9
    · rw [State.fitsSlot_pushCell]
      show (mnF S cA cB N M (defaultValue ty) i).fitsSlot cA .none i _ = true
      simp [State.fitsSlot, State.slotType?, mnF_vm, hkA, hkindA, hfR]
    · rw [hsz9, mnO_s]
      exact hk _ _ _ ⟨i + 1, hlt, by rw [show N - (i + 1) = w by omega, e2], rfl⟩
  · intro s' d' acts9 hI
    obtain ⟨i, hi, hr, rfl⟩ := hI
    have hiN : i = N := by
      rcases Nat.lt_or_ge i N with h | h
      · obtain ⟨w, hw⟩ : ∃ w, N - i = w + 1 := ⟨N - i - 1, by omega⟩
        rw [hw, List.range'_succ] at hr
        cases hr
      · omega
    subst hiN
    simp only [wp_pure']
    exact hq _ _
/-- the instruction, its class resolved -/
theorem mn_sem {f : JFrame} {index : Nat} {cA cB comp : ClassId} {kA kB : Class} {tA ty : FieldType} {n m : Int32} {rest : List Value} {Q : Unit → Pre} (htop : S.topJava?.isSome) (hr : S.vm.classReady f.method.cls index cA) (hst : f.stack = .int m :: .int n :: rest) (hkA : S.vm.classes[cA]? = some kA) (hkindA : kA.kind = .array cB tA) (hkB : S.vm.classes[cB]? = some kB) (hkindB : kB.kind = .array comp ty) (hfA : fits tA .null = true) (hfR : ∀ a : Addr, fits tA (.ref a) = true) (hf : fits ty (defaultValue ty) = true) (hn : ¬ n < 0) (hm : ¬ m < 0)
    (h1 : ¬ n.toNatClampNeg > e.platform.arrayLengthLimit) (h2 : ¬ n.toNatClampNeg * componentBytes tA > e.platform.maxHeapBytes) (h3 : ¬ m.toNatClampNeg > e.platform.arrayLengthLimit) (h4 : ¬ m.toNatClampNeg * componentBytes ty > e.platform.maxHeapBytes) (hc : S.heap.size + (1 + n.toNatClampNeg) ≤ e.platform.maxCells) (hs : S.slotsUsed + (n.toNatClampNeg + n.toNatClampNeg * m.toNatClampNeg) ≤ e.platform.maxSlots)
    (hq : ∀ d' acts', Q () d' acts' ((mnF S cA cB n.toNatClampNeg m.toNatClampNeg (defaultValue ty) n.toNatClampNeg).setTop { f with stack := .ref S.heap.size :: rest })) : wp (Op.multianewarray.sem index 2) Q E e d acts (S.setTop f) := by
  simp only [Op.multianewarray.sem, wp_bind', W.resolveClassAt_ready (State.method?_setTop f htop) hr, Jvm.popN, W.pop, State.topJava?_setTop' _ htop, Option.some.injEq, exists_eq_left', hst, List.cons.injEq, exists_cons_eq, State.setTop_setTop, wp_pure', List.nil_append, List.cons_append, List.mapM_cons, List.mapM_nil, W.mark]
  refine mn_two (S := S.setTop _) hkA hkindA hkB hkindB hfA hfR hf hn hm h1 h2 h3 h4 hc hs (fun d' acts' => ?_)
  rw [mnF_top]
  have htop9 : (mnF S cA cB n.toNatClampNeg m.toNatClampNeg (defaultValue ty) n.toNatClampNeg).topJava?.isSome := by rw [mnF_tj]; exact htop
  simp only [wp_bind', W.mark, W.pushRef, State.topJava?_setTop' _ htop9, Option.some.injEq, exists_eq_left', State.setTop_setTop, State.heap_setTop]
  exact hq _ _
theorem mn_cold {f : JFrame} {index cA : Nat} {vm' : Vm} {Q : Unit → Pre} (htop : S.topJava?.isSome) (hg : (Jvm.resolveClass f.method.cls index).Gives e.toSetting S.vm (.ok cA) vm') (hr : vm'.classReady f.method.cls index cA) (hsz : vm'.classes.size ≤ S.vm.classes.size) :
    wp (Op.multianewarray.sem index 2) Q E e d acts (S.setTop f) ↔ wp (Op.multianewarray.sem index 2) Q E e d acts ((S.setVm vm').setTop f) := by
  simp only [Op.multianewarray.sem, wp_bind']
  exact W.resolveClassAt_transfer (s := S.setTop f) (State.method?_setTop f htop) hg hr hsz
end MNX
section MNY
variable {p : Program} {l : Launch} {e : Env} {R : Room} {s : State} {m : MethodId} {args : Array Value} {below : List Frame} {meth : Method} {c : Code} {T : State} {locs : List Loc} {cells slots : Nat}
theorem mn_stand (X : Stand p l e R s m args below meth c T locs cells slots) (cA cB : ClassId) (N M : Nat) (dv : Value) : ∀ i, Stand p l e R s m args below meth c (mnF T cA cB N M dv i) locs (cells + 1 + i) (slots + N + i * M)
  | 0 => by
    have h := X.pushed (mnO cA N T.heap.size 0)
    rw [mnO_size] at h
    rw [Nat.zero_mul]
    exact h
  | i + 1 => by
    have h := (mn_stand X cA cB N M dv i).pushed (mnR cB M dv)
    have hlt : T.heap.size < (mnF T cA cB N M dv i).heap.size := by rw [mnF_size]; omega
    have hcell : ((mnF T cA cB N M dv i).pushCell (mnR cB M dv)).heap[T.heap.size]? = some (mnO cA N T.heap.size i) := by
      rw [State.heap_pushCell_of_lt _ _ hlt]
      exact mnF_out T cA cB N M dv i
    have h2 := (h.stored hcell i (.ref (T.heap.size + 1 + i))).dropFresh (fun x hx => by
      rcases List.mem_cons.mp hx with rfl | hx
      · exact X.heapGrown
      · cases hx)
    rw [mnO_s] at h2
    have e1 : slots + N + i * M + (mnR cB M dv).slots.size = slots + N + (i + 1) * M := by
      show _ + (Array.replicate M dv).size = _
      rw [Array.size_replicate, Nat.succ_mul]
      omega
    rw [e1] at h2
    exact h2
theorem mn_step (X : Stand p l e R s m args below meth c T locs cells slots) (hexec : p.tables.exec = Jvm.exec) {own : String} {index : Nat} {ty : FieldType} (hown : s.vm.findClass own = some m.cls) (hclink : (Cond.classLink own index ("[" ++ (FieldType.array ty).toString)).before args s = true) (hover : (Cond.arrayOver (.array ty)).before args s = true) (harr : (Cond.arrayClass ty).before args s = true)
    {g : JFrame} (hg : g.method = m) (hdg : decode c.code g.pc = .ok (.multianewarray index 2, 4)) {n k : Int32} {rest : List Value} (hstack : g.stack = .int k :: .int n :: rest) (hn : ¬ n < 0) (hk : ¬ k < 0) (hb1 : n.toNatClampNeg * 4 ≤ 536870912) (hb2 : k.toNatClampNeg * componentBytes ty ≤ 536870912) (hb3 : k.toNatClampNeg ≤ 536870912) (hf : fits ty (defaultValue ty) = true)
    (hcells : cells + (1 + n.toNatClampNeg) ≤ R.cells) (hslots : slots + (n.toNatClampNeg + n.toNatClampNeg * k.toNatClampNeg) ≤ R.slots) :
    ∃ (vm₁ : Vm) (cA cB : ClassId), s.vm.findClass ("[" ++ (FieldType.array ty).toString) = some cA ∧ s.vm.findClass (FieldType.array ty).toString = some cB ∧ ArrOfT s cA (.array ty) ∧
      Stand p l e R s m args below meth c (mnF (T.setVm vm₁) cA cB n.toNatClampNeg k.toNatClampNeg (defaultValue ty) n.toNatClampNeg) locs (cells + 1 + n.toNatClampNeg) (slots + n.toNatClampNeg + n.toNatClampNeg * k.toNatClampNeg) ∧
      ∀ target, Steps p.tables e below ((mnF (T.setVm vm₁) cA cB n.toNatClampNeg k.toNatClampNeg (defaultValue ty) n.toNatClampNeg).setTop { g with pc := g.pc + 4, stack := .ref T.heap.size :: rest }) target → Steps p.tables e below (T.setTop g) target := by
  subst hg
  have hpl : e.platform.magicAccessors = ({} : Platform).magicAccessors := by rw [X.admits.platform]
  obtain ⟨cB, cA, kA, hB, -, hkA, hkindA, hA⟩ := arrayOverA_spec hover
  obtain ⟨cB2, kB, comp, hB2, hkB, hkindB⟩ := Cond.arrayClass_spec harr
  have eB : some cB = some cB2 := hB.symm.trans hB2
  cases eB
  obtain ⟨cc', hfcc, hcl⟩ := Cond.classLink_spec hown hclink e.platform hpl
  cases hA.symm.trans hfcc
  obtain ⟨hg₁, hwarm₁, hready₁⟩ := State.classEntry (e := e) X.warmed hcl
  have hsz₁ : (T.vm.noted g.method.cls index (.cls cA)).classes.size ≤ T.vm.classes.size := by no_record
  generalize T.vm.noted g.method.cls index (.cls cA) = vm₁ at hg₁ hwarm₁ hready₁ hsz₁
  have hal : s.vm.Alike vm₁ := hwarm₁.alike
  obtain ⟨kA₁, hkA₁, heA⟩ := hal.2.2 _ _ hkA
  obtain ⟨kB₁, hkB₁, heB⟩ := hal.2.2 _ _ hkB
  have hkindA₁ : kA₁.kind = .array cB (.array ty) := by rw [heA]; exact hkindA
  have hkindB₁ : kB₁.kind = .array comp ty := by rw [heB]; exact hkindB
  obtain ⟨hr1, hr2⟩ := X.roomAbove hcells hslots
  refine ⟨vm₁, cA, cB, hA, hB, fun n z => ⟨fun k h => (by cases h), kA, hkA, cB, hkindA⟩, mn_stand (X.noted hwarm₁) cA cB _ _ _ _, fun target hst => ?_⟩
  have hlim : e.platform.arrayLengthLimit = 2147483645 := Launch.admits_arrayLengthLimit X.admits
  have hmax : e.platform.maxHeapBytes = 536870912 := Launch.admits_maxHeapBytes X.admits
  refine Steps.instr (c := c) X.here ?_
  rw [hdg, hexec]
  show wpRun (Jvm.exec (.multianewarray index 2)) _ _ e (T.setTop g)
  unfold wpRun
  show wp (Op.multianewarray.sem index 2) _ _ e _ _ (T.setTop g)
  rw [mn_cold X.here.top hg₁ hready₁ hsz₁]
  refine mn_sem (S := T.setVm vm₁) X.here.top hready₁ hstack hkA₁ hkindA₁ hkB₁ hkindB₁ rfl (fun _ => rfl) hf hn hk (by rw [hlim]; omega) (by rw [hmax]; show ¬ n.toNatClampNeg * 4 > _; omega) (by rw [hlim]; omega) (by rw [hmax]; omega) hr1 hr2 (fun d' acts' acts => ?_)
  rw [afterInstr_ok]
  exact hst
end MNY
