/-! own law of multianewarray with two dimensions: a row of N rows of M values each -/
/-- the outer array, i rows laid -/
def mnO (cA : ClassId) (N h0 i : Nat) : Cell := arrV cA N (fun j => va_rf (if j < i then some (h0 + 1 + j) else none))
/-- a row -/
def mnR (cB : ClassId) (M : Nat) (dv : Value) : Cell := { cls := cB, slots := Array.replicate M dv, vm := .none }
/-- the state with the outer array made and i rows laid -/
def mnF (S : State) (cA cB : ClassId) (N M : Nat) (dv : Value) : Nat → State
  | 0 => S.pushCell (mnO cA N S.heap.size 0)
  | i + 1 => ((mnF S cA cB N M dv i).pushCell (mnR cB M dv)).setCell S.heap.size (mnO cA N S.heap.size (i + 1))
theorem mnO_0 (cA : ClassId) (N h0 : Nat) : ({ cls := cA, slots := Array.replicate N .null, vm := .none } : Cell) = mnO cA N h0 0 := by
  rw [arrV_new]
  unfold mnO
  refine congrArg (arrV cA N) (funext fun j => ?_)
  rw [if_neg (Nat.not_lt_zero j)]
  rfl
theorem mnO_s (cA : ClassId) (N h0 i : Nat) : (mnO cA N h0 i).setSlot i (.ref (h0 + 1 + i)) = mnO cA N h0 (i + 1) := by
  unfold mnO
  rw [arrV_store]
  refine congrArg (arrV cA N) (funext fun j => ?_)
  unfold updV
  by_cases e1 : j = i
  · subst e1
    rw [if_pos rfl, if_pos (Nat.lt_succ_self j)]
    rfl
  · rw [if_neg e1]
    show va_rf (if j < i then some (h0 + 1 + j) else none) = va_rf (if j < i + 1 then some (h0 + 1 + j) else none)
    by_cases h : j < i
    · rw [if_pos h, if_pos (by omega)]
    · rw [if_neg h, if_neg (by omega)]
theorem mnO_size (cA : ClassId) (N h0 i : Nat) : (mnO cA N h0 i).slots.size = N := by simp [mnO, arrV]
theorem mnF_0 (S : State) (cA cB : ClassId) (N M : Nat) (dv : Value) : (mnF S cA cB N M dv 0) = S.pushCell (mnO cA N S.heap.size 0) := rfl
theorem mnF_s (S : State) (cA cB : ClassId) (N M : Nat) (dv : Value) (i : Nat) : mnF S cA cB N M dv (i + 1) = ((mnF S cA cB N M dv i).pushCell (mnR cB M dv)).setCell S.heap.size (mnO cA N S.heap.size (i + 1)) := rfl
theorem mnF_size (S : State) (cA cB : ClassId) (N M : Nat) (dv : Value) : ∀ i, (mnF S cA cB N M dv i).heap.size = S.heap.size + 1 + i
  | 0 => by rw [mnF_0, State.heap_pushCell, Array.size_push]
  | i + 1 => by rw [mnF_s, State.heap_setCell, Array.size_setIfInBounds, State.heap_pushCell, Array.size_push, mnF_size S cA cB N M dv i]; omega
theorem mnF_vm (S : State) (cA cB : ClassId) (N M : Nat) (dv : Value) : ∀ i, (mnF S cA cB N M dv i).vm = S.vm
  | 0 => rfl
  | i + 1 => by rw [mnF_s, State.vm_setCell, State.vm_pushCell, mnF_vm S cA cB N M dv i]
theorem mnF_tj (S : State) (cA cB : ClassId) (N M : Nat) (dv : Value) : ∀ i, (mnF S cA cB N M dv i).topJava? = S.topJava?
  | 0 => rfl
  | i + 1 => by rw [mnF_s, State.topJava?_setCell, State.topJava?_pushCell, mnF_tj S cA cB N M dv i]
theorem mnF_used (S : State) (cA cB : ClassId) (N M : Nat) (dv : Value) : ∀ i, (mnF S cA cB N M dv i).slotsUsed = S.slotsUsed + N + i * M
  | 0 => by rw [mnF_0, State.slotsUsed_pushCell, mnO_size]; omega
  | i + 1 => by
    rw [mnF_s, State.slotsUsed_setCell, State.slotsUsed_pushCell, mnF_used S cA cB N M dv i, Nat.succ_mul]
    show _ + (Array.replicate M dv).size = _
    rw [Array.size_replicate]
    omega
theorem mnF_top (S : State) (f : JFrame) (cA cB : ClassId) (N M : Nat) (dv : Value) : ∀ i, mnF (S.setTop f) cA cB N M dv i = (mnF S cA cB N M dv i).setTop f
  | 0 => rfl
  | i + 1 => by
    rw [mnF_s, mnF_top S f cA cB N M dv i]
    rfl
theorem mnF_out (S : State) (cA cB : ClassId) (N M : Nat) (dv : Value) : ∀ i, (mnF S cA cB N M dv i).heap[S.heap.size]? = some (mnO cA N S.heap.size i)
  | 0 => by rw [mnF_0, State.heap_pushCell_size]
  | i + 1 => by
    have h : S.heap.size < ((mnF S cA cB N M dv i).pushCell (mnR cB M dv)).heap.size := by
      rw [State.heap_pushCell, Array.size_push, mnF_size]
      omega
    rw [mnF_s]
    exact heapAt_setCell_self _ h
theorem mnF_old (S : State) (cA cB : ClassId) (N M : Nat) (dv : Value) {a : Nat} (ha : a < S.heap.size) : ∀ i, (mnF S cA cB N M dv i).heap[a]? = S.heap[a]?
  | 0 => by rw [mnF_0]; exact State.heap_pushCell_of_lt _ _ ha
  | i + 1 => by
    have h : a < (mnF S cA cB N M dv i).heap.size := by rw [mnF_size]; omega
    rw [mnF_s, heapAt_setCell_ne _ (Nat.ne_of_gt ha), State.heap_pushCell_of_lt _ _ h]
    exact mnF_old S cA cB N M dv ha i
theorem mnF_row (S : State) (cA cB : ClassId) (N M : Nat) (dv : Value) : ∀ i j, j < i → (mnF S cA cB N M dv i).heap[S.heap.size + 1 + j]? = some (mnR cB M dv)
  | 0, j, h => absurd h (Nat.not_lt_zero j)
  | i + 1, j, h => by
    have hne : S.heap.size ≠ S.heap.size + 1 + j := by omega
    rw [mnF_s, heapAt_setCell_ne _ hne]
    by_cases e1 : j = i
    · subst e1
      have h9 := State.heap_pushCell_size (mnF S cA cB N M dv j) (mnR cB M dv)
      rw [mnF_size] at h9
      exact h9
    · have h : S.heap.size + 1 + j < (mnF S cA cB N M dv i).heap.size := by rw [mnF_size]; omega
      rw [State.heap_pushCell_of_lt _ _ h]
      exact mnF_row S cA cB N M dv i j (by omega)
section MNW
variable {E : CtlPost} {e : Env} {d : Bool} {acts : List Action} {S : State}
/-- a new array, of a class that is there, within the limits -/
theorem mn_new {cA comp : ClassId} {k : Class} {ty : FieldType} {n : Nat} {v : Value} {Q : Addr → Pre} (hk : S.vm.classes[cA]? = some k) (hkind : k.kind = .array comp ty) (h1 : ¬ n > e.platform.arrayLengthLimit) (h2 : ¬ n * componentBytes ty > e.platform.maxHeapBytes) (hc : S.heap.size < e.platform.maxCells) (hs : S.slotsUsed + n ≤ e.platform.maxSlots) (hf : fits ty v = true)
    (hq : ∀ acts', Q S.heap.size d acts' (S.pushCell { cls := cA, slots := Array.replicate n v, vm := .none })) : wp (Jvm.newArray cA n v) Q E e d acts S := by
  have hfit : ∀ i x, (Array.replicate n v)[i]? = some x → S.fitsSlot cA .none i x = true := by
    intro i x hx
    rw [Array.getElem?_replicate] at hx
    by_cases hi : i < n
    · rw [if_pos hi] at hx
      cases hx
      simp [State.fitsSlot, State.slotType?, hk, hkind, hf]
    · rw [if_neg hi] at hx
      cases hx
  simp only [Jvm.newArray, Jvm.arrayFits, wp_bind', W.ask, W.ite, h1, if_false, wp_pure', W.theClass, hk, Option.some.injEq, exists_eq_left', hkind, h2, W.alloc, W.stop, Array.size_replicate]
  rw [if_neg (by omega)]
  exact ⟨hc, hs, hfit, hq _⟩
/-- one dimension -/
theorem mn_one {cB comp : ClassId} {k : Class} {ty : FieldType} {m : Int32} {Q : Addr → Pre} (hk : S.vm.classes[cB]? = some k) (hkind : k.kind = .array comp ty) (hm : ¬ m < 0) (h1 : ¬ m.toNatClampNeg > e.platform.arrayLengthLimit) (h2 : ¬ m.toNatClampNeg * componentBytes ty > e.platform.maxHeapBytes) (hc : S.heap.size < e.platform.maxCells) (hs : S.slotsUsed + m.toNatClampNeg ≤ e.platform.maxSlots) (hf : fits ty (defaultValue ty) = true)
    (hq : ∀ acts', Q S.heap.size d acts' (S.pushCell (mnR cB m.toNatClampNeg (defaultValue ty)))) : wp (Op.multianewarray.make cB [m]) Q E e d acts S := by
  simp only [Op.multianewarray.make, wp_bind', W.ite, hm, if_false, wp_pure', W.theClass, hk, Option.some.injEq, exists_eq_left', hkind]
  exact mn_new hk hkind h1 h2 hc hs hf hq
end MNW
