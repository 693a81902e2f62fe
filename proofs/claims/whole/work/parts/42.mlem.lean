theorem nar_b (b : Bool) : narrow .boolean (.int (nI b.toNat)) = .int (nI b.toNat) := by cases b <;> rfl
theorem tn_f {b : Bool} (h : ¬ b.toNat = 1) : b = false := by cases b <;> first | rfl | exact absurd rfl h
/-- alike: zz places from a on as from b on -/
def alk (rb : Nat → Bool) (a b zz : Nat) : Bool := (List.range zz).all (fun x => rb (a + x) == rb (b + x))
theorem alk_iff {rb : Nat → Bool} {a b zz : Nat} : alk rb a b zz = true ↔ ∀ x, x < zz → rb (a + x) = rb (b + x) := by
  unfold alk
  rw [List.all_eq_true]
  constructor
  · intro h1 p hp
    exact eq_of_beq (h1 p (List.mem_range.mpr hp))
  · intro h1 p hp
    exact beq_iff_eq.mpr (h1 p (List.mem_range.mp hp))
theorem alk_t {rb : Nat → Bool} {a b zz : Nat} (h : ∀ x, x < zz → rb (a + x) = rb (b + x)) : alk rb a b zz = true := alk_iff.mpr h
theorem alk_f {rb : Nat → Bool} {a b zz x : Nat} (hx : x < zz) (h : ¬ rb (a + x) = rb (b + x)) : alk rb a b zz = false := by
  cases hb : alk rb a b zz with
  | false => rfl
  | true => exact absurd (alk_iff.mp hb x hx) h
theorem isB_in {v : Int32} (h1 : ¬ v < 0) (h2 : v ≤ nI 1) : isB v = true := by
  rcases pk_ix v (n := 2) (by decide) with h3 | h3 | ⟨j, hj, rfl⟩
  · exact absurd h3 h1
  · exact absurd (Int32.lt_of_lt_of_le (by decide : nI 1 < nI 2) h3) (fun q => by rw [Int32.lt_iff_toInt_lt] at q; rw [Int32.le_iff_toInt_le] at h2; omega)
  · rcases (show j = 0 ∨ j = 1 by omega) with rfl | rfl <;> decide
theorem isB_lt {v : Int32} (h : v < 0) : isB v = false := decide_eq_false (fun q => by
  rcases q with rfl | rfl
  · exact absurd h (by decide)
  · exact absurd h (by decide))
theorem isB_gt {v : Int32} (h : ¬ v ≤ nI 1) : isB v = false := decide_eq_false (fun q => by
  rcases q with rfl | rfl
  · exact h (by decide)
  · exact h (by decide))
theorem isO_in {v : Int32} (h1 : ¬ v < 0) (h2 : v ≤ nI 3) : isO v = true := decide_eq_true ⟨h1, fun q => by rw [Int32.lt_iff_toInt_lt] at q; rw [Int32.le_iff_toInt_le] at h2; omega⟩
theorem isO_lt {v : Int32} (h : v < 0) : isO v = false := decide_eq_false (fun q => q.1 h)
theorem isO_gt {v : Int32} (h : ¬ v ≤ nI 3) : isO v = false := decide_eq_false (fun q => q.2 (Int32.not_le.mp h))
/-- combine, as the reference asks op -/
theorem nI_0i {o : Nat} (ho : o < 4) (h : nI o = 0) : o = 0 := (nI_eq (by omega) (by omega)).mp (show nI o = nI 0 from h)
theorem cmg_m0 {o : Nat} {x y z : Bool} (ho : o < 4) (h : nI o = 0) (hz : z = (x && y)) : z = cmg o x y := by
  rw [nI_0i ho h, hz]; rfl
theorem cmg_m1 {o : Nat} {x y z : Bool} (_ : o < 4) (h : o = 1) (hz : z = (x || y)) : z = cmg o x y := by rw [h, hz]; rfl
theorem cmg_m2 {o : Nat} {x y z : Bool} (_ : o < 4) (h : o = 2) (hz : z = (x ^^ y)) : z = cmg o x y := by rw [h, hz]; rfl
theorem cmg_m3 {o : Nat} {x y z : Bool} (ho : o < 4) (h0 : ¬ nI o = 0) (h1 : ¬ o = 1) (h2 : ¬ o = 2) (hz : z = (x && !y)) : z = cmg o x y := by
  have h00 : ¬ o = 0 := fun q => h0 (by rw [q]; rfl)
  rw [show o = 3 by omega, hz]; rfl
