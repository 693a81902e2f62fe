/-! what the calls do, in words for functions g k (register k) of points -/
def ix (k : Int32) : Nat := k.toNatClampNeg
theorem ix_nI {j : Nat} (h : j < 2 ^ 31) : ix (nI j) = j := nI_clamp h
def isO (op : Int32) : Bool := decide (¬ op < 0 ∧ ¬ nI 3 < op)
theorem isO_t {op : Int32} (h : isO op = true) : ∃ j, j < 4 ∧ op = nI j := by
  obtain ⟨h1, h2⟩ := of_decide_eq_true h
  rcases pk_ix op (n := 4) (by decide) with h3 | h3 | h3
  · exact absurd h3 h1
  · exact absurd (Int32.lt_of_lt_of_le (by decide : nI 3 < nI 4) h3) h2
  · exact h3
/-- a variable fixed: bit b of the point set to v -/
def fx (g : Nat → Bool) (b : Nat) (v : Bool) (p : Nat) : Bool := g (if p.testBit b = v then p else p ^^^ 2 ^ b)
/-- spread over c variables from f on -/
def exs (N f : Nat) (g : Nat → Bool) : Nat → Nat → Bool
  | 0 => g
  | c + 1 => sg (N - (f + c)) (exs N f g c)
def spC (N : Nat) (g : Nat → Nat → Bool) (k v : Int32) : Option (Nat → Nat → Bool) := if (isR k && isB v) = true then some (va_up g (ix k) (fun p => decide (v = nI 1) && decide (p < 2 ^ N))) else none
def spV (N : Nat) (g : Nat → Nat → Bool) (k v : Int32) : Option (Nat → Nat → Bool) := if (isR k && isV N v) = true then some (va_up g (ix k) (fun p => p.testBit (N - ix v) && decide (p < 2 ^ N))) else none
def spM (g : Nat → Nat → Bool) (k op a b : Int32) : Option (Nat → Nat → Bool) := if (isR k && (isO op && (isR a && isR b))) = true then some (va_up g (ix k) (fun p => cmg (ix op) (g (ix a) p) (g (ix b) p))) else none
def spH (g : Nat → Nat → Bool) (k a b c : Int32) : Option (Nat → Nat → Bool) := if (isR k && (isR a && (isR b && isR c))) = true then some (va_up g (ix k) (fun p => if g (ix a) p = true then g (ix b) p else g (ix c) p)) else none
def spF (N : Nat) (g : Nat → Nat → Bool) (k a v x : Int32) : Option (Nat → Nat → Bool) := if (isR k && (isR a && (isV N v && isB x))) = true then some (va_up g (ix k) (fx (g (ix a)) (N - ix v) (decide (x = nI 1)))) else none
def spE (N : Nat) (g : Nat → Nat → Bool) (k a f t : Int32) : Option (Nat → Nat → Bool) := if (isR k && (isR a && (isV N f && (isV N t && decide (f ≤ t))))) = true then some (va_up g (ix k) (exs N (ix f) (g (ix a)) (ix t + 1 - ix f))) else none
def spS (N : Nat) (g : Nat → Nat → Bool) (k a f : Int32) : Option (Nat → Nat → Bool) := if (isR k && (isR a && arR f N)) = true then some (va_up g (ix k) (fun p => decide (p < 2 ^ N) && g (ix a) (tp g (ix f) p N))) else none
def spN (N : Nat) (g : Nat → Nat → Bool) (k a c : Int32) : Option (Nat → Nat → Bool) := if (isR k && (isR a && isR c)) = true then some (va_up g (ix k) (ng (g (ix a)) (g (ix c)) N)) else none
/-- the rows of the desk hold the functions g -/
def okG (N : Nat) (G : Nat → Nat → Int64) (g : Nat → Nat → Bool) : Prop := ∀ k, k < 32 → rp (nw N) (G k) (g k) ∧ dm N (g k)
theorem okG_up {N : Nat} {G : Nat → Nat → Int64} {g : Nat → Nat → Bool} (h : okG N G g) {k : Nat} {r : Nat → Int64} {f : Nat → Bool} (h1 : rp (nw N) r f) (h2 : dm N f) : okG N (va_up G k r) (va_up g k f) := fun j hj => by
  by_cases e : j = k
  · subst e
    rw [va_up_self, va_up_self]
    exact ⟨h1, h2⟩
  · rw [va_up_ne _ _ e, va_up_ne _ _ e]
    exact h j hj
theorem dm_lt (N : Nat) (f : Nat → Bool) : dm N (fun p => f p && decide (p < 2 ^ N)) := fun p hp => by
  show (f p && decide (p < 2 ^ N)) = false
  rw [decide_eq_false (Nat.not_lt.mpr hp), Bool.and_false]
/-- constant -/
theorem rp_const {N : Nat} {r : Nat → Int64} {b : Bool} (h : ∀ w, w < nw N → r w = if b = true then ao N else 0) : rp (nw N) r (fun p => b && decide (p < 2 ^ N)) := fun w i hw hi => by
  rw [h w hw]
  have e : decide (64 * w + i < 2 ^ N) = decide (i < pw N) := by rw [decide_eq_decide]; exact nw_pt hw hi
  show _ = (b && decide (64 * w + i < 2 ^ N))
  rw [e]
  cases b
  · rw [if_neg (by decide), lb_0]; rfl
  · rw [if_pos rfl, lb_ao N hi]; rfl
/-- variable -/
theorem rp_var {N b : Nat} {r : Nat → Int64} (h : ∀ w, w < nw N → r w = pwN N w b) : rp (nw N) r (fun p => p.testBit b && decide (p < 2 ^ N)) := fun w i hw hi => by
  rw [h w hw, lb_pwN hw hi]
/-- combine, choose -/
theorem rp_cmb {n op : Nat} {r ra rb : Nat → Int64} {ga gb : Nat → Bool} (ha : rp n ra ga) (hb : rp n rb gb) (h : ∀ w, w < n → r w = cmb op (ra w) (rb w)) : rp n r (fun p => cmg op (ga p) (gb p)) := fun w i hw hi => by
  rw [h w hw, lb_cmb op _ _ hi, ha w i hw hi, hb w i hw hi]
theorem cmg_ff (op : Nat) : cmg op false false = false := by unfold cmg; split <;> rfl
theorem dm_cmb {N op : Nat} {ga gb : Nat → Bool} (ha : dm N ga) (hb : dm N gb) : dm N (fun p => cmg op (ga p) (gb p)) := fun p hp => by
  show cmg op (ga p) (gb p) = false
  rw [ha p hp, hb p hp, cmg_ff]
theorem rp_chs {n : Nat} {r ra rb rc : Nat → Int64} {ga gb gc : Nat → Bool} (ha : rp n ra ga) (hb : rp n rb gb) (hc : rp n rc gc) (h : ∀ w, w < n → r w = chs (ra w) (rb w) (rc w)) : rp n r (fun p => if ga p = true then gb p else gc p) := fun w i hw hi => by
  rw [h w hw, lb_chs _ _ _ hi, ha w i hw hi, hb w i hw hi, hc w i hw hi]
theorem dm_chs {N : Nat} {ga gb gc : Nat → Bool} (hb : dm N gb) (hc : dm N gc) : dm N (fun p => if ga p = true then gb p else gc p) := fun p hp => by
  show (if ga p = true then gb p else gc p) = false
  rw [hb p hp, hc p hp, ite_self]
/-- fix -/
def fxw (N : Nat) (r : Nat → Int64) (b : Nat) (v : Bool) (w : Nat) : Int64 := if v = true then chs (pwN N w b) (r w) (acr r w b) else chs (pwN N w b) (acr r w b) (r w)
theorem fx_dm {N b : Nat} (hb : b < N) {g : Nat → Bool} (h : dm N g) (v : Bool) : dm N (fx g b v) := fun p hp => by
  unfold fx
  split
  · exact h p hp
  · refine h _ ?_
    rcases Nat.lt_or_ge (p ^^^ 2 ^ b) (2 ^ N) with h1 | h1
    · have := xr_lt h1 hb
      rw [xr_xr] at this
      omega
    · exact h1
theorem rp_fix {N b : Nat} (hb : b < N) {r r' : Nat → Int64} {g : Nat → Bool} (h : rp (nw N) r g) (hd : dm N g) {v : Bool} (h' : ∀ w, w < nw N → r' w = fxw N r b v w) : rp (nw N) r' (fx g b v) := fun w i hw hi => by
  rw [h' w hw]
  have h1 := lb_pwN (N := N) (b := b) hw hi
  have h2 := lb_acr h hw hb hi
  have h3 := h w i hw hi
  by_cases hp : 64 * w + i < 2 ^ N
  · rw [decide_eq_true hp, Bool.and_true] at h1
    unfold fxw fx
    cases v
    · rw [if_neg (by decide), lb_chs _ _ _ hi, h1, h2, h3]
      cases (64 * w + i).testBit b <;> simp
    · rw [if_pos rfl, lb_chs _ _ _ hi, h1, h2, h3]
      cases (64 * w + i).testBit b <;> simp
  · rw [fx_dm hb hd v _ (by omega)]
    rw [decide_eq_false hp, Bool.and_false] at h1
    have h4 : g (64 * w + i) = false := hd _ (by omega)
    have h5 : g ((64 * w + i) ^^^ 2 ^ b) = false := by
      refine hd _ ?_
      rcases Nat.lt_or_ge ((64 * w + i) ^^^ 2 ^ b) (2 ^ N) with h9 | h9
      · have := xr_lt h9 hb
        rw [xr_xr] at this
        omega
      · exact h9
    unfold fxw
    cases v
    · rw [if_neg (by decide), lb_chs _ _ _ hi, h1, h2, h3, h4, h5]; rfl
    · rw [if_pos rfl, lb_chs _ _ _ hi, h1, h2, h3, h4, h5]; rfl
/-- exists -/
theorem exs_dm {N f : Nat} {g : Nat → Bool} (hf : 1 ≤ f) (h : dm N g) : ∀ c, f + c ≤ N + 1 → dm N (exs N f g c)
  | 0, _ => h
  | c + 1, hc => sg_dm (by omega) (exs_dm hf h c (by omega))
/-- substitute -/
theorem dm_sub (N : Nat) (f : Nat → Bool) : dm N (fun p => decide (p < 2 ^ N) && f p) := fun p hp => by
  show (decide (p < 2 ^ N) && f p) = false
  rw [decide_eq_false (Nat.not_lt.mpr hp), Bool.false_and]
/-- the desk's contents: draft, reached, tuples, kinds, upperHalf, before, latest, rows -/
abbrev dkS : Type := (Nat → Int64) × (Nat → Int64) × (Nat → Int32) × (Nat → Int32) × (Nat → Int32) × (Nat → Int32) × (Nat → Int32) × (Nat → Nat → Int64)
abbrev dkU (N : Nat) (ad : Nat → Nat) (cJJ cJ cI : ClassId) (u : dkS) : va_W := dkW N ad cJJ cJ cI u.1 u.2.1 u.2.2.1 u.2.2.2.1 u.2.2.2.2.1 u.2.2.2.2.2.1 u.2.2.2.2.2.2.1 u.2.2.2.2.2.2.2
abbrev dkR (u : dkS) : Nat → Nat → Int64 := u.2.2.2.2.2.2.2
theorem tn_le (b : Bool) : b.toNat ≤ 1 := by cases b <;> decide
theorem tn_1 {b : Bool} (h : b.toNat = 1) : b = true := by cases b <;> first | rfl | exact absurd h (by decide)
theorem tn_0 {b : Bool} (h : ¬ b.toNat = 1) : ¬ b = true := fun e => h (by rw [e]; rfl)
theorem tn_d (b : Bool) : decide (nI b.toNat = nI 1) = b := by cases b <;> decide
theorem aok_true {A : Nat → Prop} {ad : Nat → Nat} (h : aok A ad) : aok (fun _ => True) ad := ⟨h.1, fun _ _ => trivial⟩
theorem sb_cpyL {f g : Nat → Int64} {n j : Nat} (h : j < n) : va_cpy f g 0 0 n j = f j := by rw [pk_cpy_in (Nat.zero_le j) (by omega), Nat.zero_add, Nat.sub_zero]
