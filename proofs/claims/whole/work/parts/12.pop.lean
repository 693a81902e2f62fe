/-! how many of the first n are true -/
def pcn (f : Nat → Bool) : Nat → Nat
  | 0 => 0
  | n + 1 => pcn f n + (f n).toNat
theorem pcn_le (f : Nat → Bool) : ∀ n, pcn f n ≤ n
  | 0 => Nat.le_refl 0
  | n + 1 => by
    have := pcn_le f n
    have h : (f n).toNat ≤ 1 := by cases f n <;> decide
    show pcn f n + (f n).toNat ≤ n + 1
    omega
theorem pcn_add (f : Nat → Bool) (m : Nat) : ∀ n, pcn f (m + n) = pcn f m + pcn (fun i => f (m + i)) n
  | 0 => rfl
  | n + 1 => by
    show pcn f (m + n) + (f (m + n)).toNat = pcn f m + (pcn (fun i => f (m + i)) n + (f (m + n)).toNat)
    rw [pcn_add f m n]
    omega
theorem pcn_congr {f g : Nat → Bool} : ∀ {n : Nat}, (∀ i, i < n → f i = g i) → pcn f n = pcn g n
  | 0, _ => rfl
  | n + 1, h => by
    show pcn f n + (f n).toNat = pcn g n + (g n).toNat
    rw [pcn_congr (n := n) (fun i hi => h i (by omega)), h n (by omega)]
theorem pcn_0 {f : Nat → Bool} : ∀ {n : Nat}, (∀ i, i < n → f i = false) → pcn f n = 0
  | 0, _ => rfl
  | n + 1, h => by
    show pcn f n + (f n).toNat = 0
    rw [pcn_0 (n := n) (fun i hi => h i (by omega)), h n (by omega)]
    rfl
/-! the sums inside a word: Long.bitCount -/
def sk (d : Nat) : Nat → Nat
  | 0 => 0
  | k + 1 => 256 * sk d k + d
theorem an256 {a b c d : Nat} (hb : b < 256) (hd : d < 256) : (256 * a + b) &&& (256 * c + d) = 256 * (a &&& c) + (b &&& d) := by
  have hx : b &&& d < 2 ^ 8 := Nat.and_lt_two_pow b (n := 8) hd
  apply Nat.eq_of_testBit_eq
  intro j
  have e1 := Nat.testBit_two_pow_mul_add a (b := b) (i := 8) hb j
  have e2 := Nat.testBit_two_pow_mul_add c (b := d) (i := 8) hd j
  have e3 := Nat.testBit_two_pow_mul_add (a &&& c) (b := b &&& d) (i := 8) hx j
  rw [Nat.testBit_and]
  rw [show 256 * a + b = 2 ^ 8 * a + b from rfl, show 256 * c + d = 2 ^ 8 * c + d from rfl, show 256 * (a &&& c) + (b &&& d) = 2 ^ 8 * (a &&& c) + (b &&& d) from rfl, e1, e2, e3]
  split
  · rw [Nat.testBit_and]
  · rw [Nat.testBit_and]
def q1 (k x : Nat) : Nat := x - (x / 2 &&& sk 85 k)
def q2 (k x : Nat) : Nat := (x &&& sk 51 k) + (x / 4 &&& sk 51 k)
def q3 (k x : Nat) : Nat := (x + x / 16) &&& sk 15 k
def r1 (b : Nat) : Nat := b - (b / 2 &&& 85)
def r2 (b : Nat) : Nat := (b &&& 51) + (b / 4 &&& 51)
def r3 (b : Nat) : Nat := (b + b / 16) &&& 15
theorem q1_f : ∀ b, b < 256 → ∀ e, e < 2 → (128 * e + b / 2) &&& 85 = b / 2 &&& 85 := by decide +kernel
theorem q2_f : ∀ b, b < 256 → ∀ e, e < 4 → (64 * e + b / 4) &&& 51 = b / 4 &&& 51 := by decide +kernel
theorem r_f : ∀ b, b < 256 → r1 b < 256 ∧ r2 (r1 b) ≤ 68 ∧ r2 (r1 b) % 16 ≤ 4 ∧ r3 (r2 (r1 b)) = pcn (fun i => b.testBit i) 8 := by decide +kernel
theorem q1_s (k : Nat) {a b : Nat} (hb : b < 256) : q1 (k + 1) (256 * a + b) = 256 * q1 k a + r1 b := by
  have e : (256 * a + b) / 2 = 256 * (a / 2) + (128 * (a % 2) + b / 2) := by omega
  have h1 : a / 2 &&& sk 85 k ≤ a := Nat.le_trans Nat.and_le_left (Nat.div_le_self _ _)
  have h2 : b / 2 &&& 85 ≤ b := Nat.le_trans Nat.and_le_left (Nat.div_le_self _ _)
  unfold q1 r1
  show 256 * a + b - ((256 * a + b) / 2 &&& (256 * sk 85 k + 85)) = _
  rw [e, an256 (by omega) (by omega), q1_f b hb _ (Nat.mod_lt _ (by omega))]
  omega
theorem q2_s (k : Nat) {a b : Nat} (hb : b < 256) : q2 (k + 1) (256 * a + b) = 256 * q2 k a + r2 b := by
  have e : (256 * a + b) / 4 = 256 * (a / 4) + (64 * (a % 4) + b / 4) := by omega
  unfold q2 r2
  show ((256 * a + b) &&& (256 * sk 51 k + 51)) + ((256 * a + b) / 4 &&& (256 * sk 51 k + 51)) = _
  rw [e, an256 hb (by omega), an256 (by omega) (by omega), q2_f b hb _ (Nat.mod_lt _ (by omega))]
  omega
theorem q3_s (k : Nat) {a b : Nat} (hb : b ≤ 68) (ha : a % 16 ≤ 4) : q3 (k + 1) (256 * a + b) = 256 * q3 k a + r3 b := by
  have e : 256 * a + b + (256 * a + b) / 16 = 256 * (a + a / 16) + (b + b / 16 + 16 * (a % 16)) := by omega
  unfold q3 r3
  show (256 * a + b + (256 * a + b) / 16) &&& (256 * sk 15 k + 15) = _
  rw [e, an256 (by omega) (by omega)]
  congr 1
  have h1 := Nat.and_two_pow_sub_one_eq_mod (b + b / 16 + 16 * (a % 16)) 4
  have h2 := Nat.and_two_pow_sub_one_eq_mod (b + b / 16) 4
  have e1 : (b + b / 16 + 16 * (a % 16)) &&& 15 = (b + b / 16 + 16 * (a % 16)) % 16 := h1
  have e2 : (b + b / 16) &&& 15 = (b + b / 16) % 16 := h2
  rw [e1, e2]
  omega
def qq (k x : Nat) : Nat := q3 k (q2 k (q1 k x))
theorem qq_s (k : Nat) {a b : Nat} (hb : b < 256) (ha : q2 k (q1 k a) % 16 ≤ 4) : qq (k + 1) (256 * a + b) = 256 * qq k a + pcn (fun i => b.testBit i) 8 := by
  obtain ⟨h1, h2, h3, h4⟩ := r_f b hb
  unfold qq
  rw [q1_s k hb, q2_s k h1, q3_s k h2 ha, h4]
theorem qq_m (k : Nat) {a : Nat} : q2 k (q1 k a) % 16 ≤ 4 := by
  cases k with
  | zero =>
    show ((q1 0 a &&& 0) + (q1 0 a / 4 &&& 0)) % 16 ≤ 4
    rw [Nat.and_zero, Nat.and_zero]
    decide
  | succ k =>
    have hb : a % 256 < 256 := Nat.mod_lt _ (by omega)
    obtain ⟨h1, h2, h3, h4⟩ := r_f (a % 256) hb
    have e : a = 256 * (a / 256) + a % 256 := by omega
    rw [e, q1_s k hb, q2_s k h1]
    omega
theorem qq_b (k x : Nat) : qq (k + 1) x = 256 * qq k (x / 256) + pcn (fun i => (x % 256).testBit i) 8 := by
  have e : x = 256 * (x / 256) + x % 256 := by omega
  conv => lhs; rw [e]
  exact qq_s k (Nat.mod_lt _ (by omega)) (qq_m k)
theorem pcn_b (x n : Nat) : pcn (fun i => x.testBit i) (8 + n) = pcn (fun i => (x % 256).testBit i) 8 + pcn (fun i => (x / 256).testBit i) n := by
  rw [pcn_add]
  congr 1
  · apply pcn_congr
    intro i hi
    show x.testBit i = (x % 2 ^ 8).testBit i
    rw [Nat.testBit_mod_two_pow]
    simp [hi]
  · apply pcn_congr
    intro i _
    show x.testBit (8 + i) = (x / 2 ^ 8).testBit i
    rw [Nat.testBit_div_two_pow, Nat.add_comm]
/-- the last three sums -/
def qs (w : Nat) : Nat := w + w / 256
def qt (w : Nat) : Nat := w + w / 65536
def qu (w : Nat) : Nat := w + w / 4294967296
theorem qq_z (x : Nat) : q3 0 x = 0 := Nat.and_zero _
theorem bc_nat (x : Nat) : qu (qt (qs (qq 8 x))) % 128 = pcn (fun i => x.testBit i) 64 ∧ qu (qt (qs (qq 8 x))) < 2 ^ 63 := by
  have hp : ∀ y, pcn (fun i => (y % 256).testBit i) 8 ≤ 8 := fun y => pcn_le _ 8
  have e : pcn (fun i => x.testBit i) 64 = pcn (fun i => (x % 256).testBit i) 8 + (pcn (fun i => (x / 256 % 256).testBit i) 8 + (pcn (fun i => (x / 256 / 256 % 256).testBit i) 8 + (pcn (fun i => (x / 256 / 256 / 256 % 256).testBit i) 8 + (pcn (fun i => (x / 256 / 256 / 256 / 256 % 256).testBit i) 8 + (pcn (fun i => (x / 256 / 256 / 256 / 256 / 256 % 256).testBit i) 8 + (pcn (fun i => (x / 256 / 256 / 256 / 256 / 256 / 256 % 256).testBit i) 8 + (pcn (fun i => (x / 256 / 256 / 256 / 256 / 256 / 256 / 256 % 256).testBit i) 8 + 0))))))) := by
    rw [show 64 = 8 + 56 from rfl, pcn_b, show 56 = 8 + 48 from rfl, pcn_b, show 48 = 8 + 40 from rfl, pcn_b, show 40 = 8 + 32 from rfl, pcn_b, show 32 = 8 + 24 from rfl, pcn_b, show 24 = 8 + 16 from rfl, pcn_b, show 16 = 8 + 8 from rfl, pcn_b, show pcn (fun i => (x / 256 / 256 / 256 / 256 / 256 / 256 / 256).testBit i) 8 = pcn (fun i => (x / 256 / 256 / 256 / 256 / 256 / 256 / 256).testBit i) (8 + 0) from rfl, pcn_b]
    rfl
  have z : ∀ y, qq 0 y = 0 := fun y => qq_z _
  rw [e, qq_b, qq_b, qq_b, qq_b, qq_b, qq_b, qq_b, qq_b, z]
  have h0 := hp x
  have h1 := hp (x / 256)
  have h2 := hp (x / 256 / 256)
  have h3 := hp (x / 256 / 256 / 256)
  have h4 := hp (x / 256 / 256 / 256 / 256)
  have h5 := hp (x / 256 / 256 / 256 / 256 / 256)
  have h6 := hp (x / 256 / 256 / 256 / 256 / 256 / 256)
  have h7 := hp (x / 256 / 256 / 256 / 256 / 256 / 256 / 256)
  generalize pcn (fun i => (x % 256).testBit i) 8 = p0 at h0 ⊢
  generalize pcn (fun i => (x / 256 % 256).testBit i) 8 = p1 at h1 ⊢
  generalize pcn (fun i => (x / 256 / 256 % 256).testBit i) 8 = p2 at h2 ⊢
  generalize pcn (fun i => (x / 256 / 256 / 256 % 256).testBit i) 8 = p3 at h3 ⊢
  generalize pcn (fun i => (x / 256 / 256 / 256 / 256 % 256).testBit i) 8 = p4 at h4 ⊢
  generalize pcn (fun i => (x / 256 / 256 / 256 / 256 / 256 % 256).testBit i) 8 = p5 at h5 ⊢
  generalize pcn (fun i => (x / 256 / 256 / 256 / 256 / 256 / 256 % 256).testBit i) 8 = p6 at h6 ⊢
  generalize pcn (fun i => (x / 256 / 256 / 256 / 256 / 256 / 256 / 256 % 256).testBit i) 8 = p7 at h7 ⊢
  generalize hw : 256 * (256 * (256 * (256 * (256 * (256 * (256 * (256 * 0 + p7) + p6) + p5) + p4) + p3) + p2) + p1) + p0 = w
  have e1 : qs w = 256 * (256 * (256 * (256 * (256 * (256 * (256 * p7 + (p6 + p7)) + (p5 + p6)) + (p4 + p5)) + (p3 + p4)) + (p2 + p3)) + (p1 + p2)) + (p0 + p1) := by
    unfold qs
    omega
  generalize qs w = v at e1 ⊢
  have e2 : qt v = 65536 * (65536 * (65536 * (256 * p7 + (p6 + p7)) + (256 * (p5 + p6 + p7) + (p4 + p5 + p6 + p7))) + (256 * (p3 + p4 + p5 + p6) + (p2 + p3 + p4 + p5))) + (256 * (p1 + p2 + p3 + p4) + (p0 + p1 + p2 + p3)) := by
    unfold qt
    omega
  generalize qt v = u at e2 ⊢
  unfold qu
  clear e e1 hw
  have e3 : u / 4294967296 = 65536 * (256 * p7 + (p6 + p7)) + (256 * (p5 + p6 + p7) + (p4 + p5 + p6 + p7)) := by omega
  rw [e3]
  refine ⟨?_, by omega⟩
  have e4 : u + (65536 * (256 * p7 + (p6 + p7)) + (256 * (p5 + p6 + p7) + (p4 + p5 + p6 + p7))) = 128 * (2 * (256 * (65536 * (65536 * (256 * p7 + (p6 + p7)) + (256 * (p5 + p6 + p7) + (p4 + p5 + p6 + p7))) + (256 * (p3 + p4 + p5 + p6) + (p2 + p3 + p4 + p5))) + (p1 + p2 + p3 + p4)) + 2 * (256 * (256 * p7 + (p6 + p7)) + (p5 + p6 + p7))) + (p0 + (p1 + (p2 + (p3 + (p4 + (p5 + (p6 + (p7 + 0)))))))) := by omega
  rw [e4, Nat.mul_add_mod]
  exact Nat.mod_eq_of_lt (by omega)
