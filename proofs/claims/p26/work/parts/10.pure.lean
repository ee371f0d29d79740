/-- lo to hi -/
def inN (lo hi : Nat) (v : Int32) : Bool := decide ((lo : Int) ≤ v.toInt ∧ v.toInt ≤ hi)
theorem inN_of {lo hi : Nat} {v : Int32} (hn : hi < 2 ^ 31) (h : inN lo hi v = true) : ∃ i, lo ≤ i ∧ i ≤ hi ∧ v = nI i := by
  unfold inN at h
  have h := of_decide_eq_true h
  refine ⟨v.toInt.toNat, by omega, by omega, ?_⟩
  apply Int32.toInt_inj.mp
  rw [nI_toInt (by omega)]
  omega
theorem inN_nI {lo hi i : Nat} (hi' : i < 2 ^ 31) : inN lo hi (nI i) = decide (lo ≤ i ∧ i ≤ hi) := by
  unfold inN
  rw [nI_toInt hi']
  simp
/-- how many of the first n -/
def cnt (p : Nat → Bool) : Nat → Nat
  | 0 => 0
  | n + 1 => cnt p n + if p n = true then 1 else 0
/-- a set of numbers below n -/
def bits (p : Nat → Bool) : Nat → Nat
  | 0 => 0
  | n + 1 => bits p n ||| (if p n = true then 2 ^ n else 0)
theorem bits_lt (p : Nat → Bool) : ∀ n, bits p n < 2 ^ n
  | 0 => by show 0 < 1; decide
  | n + 1 => by
    show bits p n ||| (if p n = true then 2 ^ n else 0) < 2 ^ (n + 1)
    refine Nat.or_lt_two_pow (Nat.lt_trans (bits_lt p n) (Nat.pow_lt_pow_right (by decide) (by omega))) ?_
    split
    · exact Nat.pow_lt_pow_right (by decide) (by omega)
    · exact Nat.two_pow_pos _
/-- 0 for nobody, else the number and one more -/
def bv (b : Nat) : Int32 := if b = 0 then -1 else nI (b - 1)
theorem bv_s (b : Nat) : bv (b + 1) = nI b := rfl
theorem cnt_s (p : Nat → Bool) (n : Nat) : cnt p (n + 1) = cnt p n + if p n = true then 1 else 0 := rfl
theorem upN_upN (f : Nat → Nat) (k x y : Nat) : upN (upN f k x) k y = upN f k y := by
  funext j; simp only [upN]; split <;> rfl
theorem loopDn {Z : Nat → Prop} (h : ∀ f, (0 < f → Z (f - 1)) → Z f) : ∀ f, Z f
  | 0 => h 0 (fun z => absurd z (Nat.lt_irrefl 0))
  | f + 1 => h (f + 1) (fun _ => loopDn h f)
theorem nI_nn {a : Nat} (h : a < 2 ^ 31) {k : Int32} (hk : k.toInt < 0) : nI a ≠ k := fun z => by
  have h1 := nI_toInt h
  rw [z] at h1
  omega
