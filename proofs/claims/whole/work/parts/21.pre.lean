/-! what every contract of the desk takes: the size of the heap, its cells, the classes, the table of places -/
def wp0 (D : va_G) (ws : va_W) (tys : List (ClassId × FieldType)) (A : Nat → Prop) (sz : Nat) (U : State) : Prop := U.heap.size = sz ∧ va_P D vwCl ws U.heap ∧ va_K D vwCl tys U ∧ tbl A U U.heap
theorem tbl.mv {A : Nat → Prop} {s U : State} {H : Heap} (h : tbl A s H) (hvm : s.vm = U.vm) : tbl A U H := by
  obtain ⟨⟨t, h1, h2⟩, h3⟩ := h
  exact ⟨⟨t, h1.moved (hvm ▸ Vm.Alike.refl s.vm), h2.moved (hvm ▸ Vm.Alike.refl s.vm)⟩, va_Nw.same rfl hvm h3⟩
theorem wp0_blind {D : va_G} {ws : va_W} {tys : List (ClassId × FieldType)} {A : Nat → Prop} {sz : Nat} {av : List Value} : FrameBlind (va_Pc av (wp0 D ws tys A sz)) := fun a U g mk q => by
  obtain ⟨q0, q1, qP, qK, qT⟩ := q
  exact ⟨q0, q1, qP, va_K.moved (u := U) (U := U.calling g mk a) (Vm.Alike.refl U.vm) qK, qT.mv (s := U) (U := U.calling g mk a) rfl⟩
theorem wp0_of {D : va_G} {ws : va_W} {tys : List (ClassId × FieldType)} {A A0 : Nat → Prop} {s U : State} {H : Heap} {locs : List Loc} {av : List Value} (hP : va_P D vwCl ws H) (hK : va_K D vwCl tys s) (htb : tbl A0 s s.heap) (hS : va_S A0 s.heap H locs) (hB : ∀ q, A q → A0 q) (hU : U.heap = H) (hW : s.WarmedH U.vm) : va_Pc av (wp0 D ws tys A H.size) av.toArray U := by
  subst hU
  exact ⟨rfl, rfl, hP, va_K.moved hW.alike hK, htb.to hS hB hW⟩
theorem no_in {A0 : Nat → Prop} : ∀ q : Nat, (fun _ : Nat => False) q → A0 q := fun _ h => h.elim
/-- the words' tests -/
def isR (k : Int32) : Bool := decide (¬ k < 0 ∧ ¬ nI 32 ≤ k)
def isV (N : Nat) (v : Int32) : Bool := decide (¬ v < nI 1 ∧ ¬ nI N < v)
def isB (v : Int32) : Bool := decide (v = 0 ∨ v = nI 1)
def arR (f : Int32) (c : Nat) : Bool := decide (¬ f < 0 ∧ ¬ nI (32 - c) < f)
theorem isR_t {k : Int32} (h : isR k = true) : ∃ j, j < 32 ∧ k = nI j := by
  obtain ⟨h1, h2⟩ := of_decide_eq_true h
  rcases pk_ix k (n := 32) (by decide) with h3 | h3 | h3
  · exact absurd h3 h1
  · exact absurd h3 h2
  · exact h3
theorem isV_t {N : Nat} {v : Int32} (hN : N ≤ 12) (h : isV N v = true) : ∃ j, 1 ≤ j ∧ j ≤ N ∧ v = nI j := by
  obtain ⟨h1, h2⟩ := of_decide_eq_true h
  rcases pk_ix v (n := N + 1) (by omega) with h3 | h3 | ⟨j, h3, rfl⟩
  · exact absurd (Int32.lt_of_lt_of_le h3 (by decide : (0 : Int32) ≤ nI 1)) h1
  · exact absurd (Int32.lt_of_lt_of_le (nI_lt (Nat.lt_succ_self N) (by omega)) h3) h2
  · refine ⟨j, ?_, by omega, rfl⟩
    rcases Nat.lt_or_ge j 1 with h4 | h4
    · exact absurd (nI_lt h4 (by omega)) h1
    · exact h4
theorem isB_t {v : Int32} (h : isB v = true) : ∃ b : Bool, v = nI b.toNat := by
  rcases of_decide_eq_true h with h1 | h1
  · exact ⟨false, h1⟩
  · exact ⟨true, h1⟩
theorem arR_t {f : Int32} {c : Nat} (hc : c ≤ 12) (h : arR f c = true) : ∃ j, j + c ≤ 32 ∧ f = nI j := by
  obtain ⟨h1, h2⟩ := of_decide_eq_true h
  rcases pk_ix f (n := 33 - c) (by omega) with h3 | h3 | ⟨j, h3, rfl⟩
  · exact absurd h3 h1
  · exact absurd (Int32.lt_of_lt_of_le (nI_lt (show 32 - c < 33 - c by omega) (by omega)) h3) h2
  · exact ⟨j, by omega, rfl⟩
theorem one_in {A : Nat → Prop} {a : Nat} (h : A a) : ∀ q : Nat, (fun q : Nat => q = a) q → A q := fun q e => by
  have e2 : q = a := e
  rw [e2]
  exact h
