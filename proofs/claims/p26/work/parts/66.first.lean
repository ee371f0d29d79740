/-! THE FIRST WORLD -/
def w_0 : WD := (fun o k => if k = 0 ∧ o < 7 then upN (fun _ => 0) 2 10 else fun _ => 0, fun i => i + 2)
theorem w_0_0 : w_0.1 0 0 = upN (fun _ => 0) 2 10 := rfl
theorem w_0_z {o k : Nat} (h : k ≠ 0) : w_0.1 o k = fun _ => 0 := if_neg (fun z => h z.1)
theorem WJ_0 : WJ w_0 0 0 0 := by
  refine ⟨⟨Nat.zero_le _, fun i hi => ?_⟩, fun i j hi hj e => ?_, ?_, rfl⟩
  · show 2 ≤ i + 2 ∧ i + 2 < 7
    omega
  · have e : i + 2 = j + 2 := e
    omega
  · rw [J, w_0_0, w_0_z (o := 0) (k := 1) (by decide), w_0_z (o := 0) (k := 2) (by decide), w_0_z (o := 0) (k := 3) (by decide), w_0_z (o := 0) (k := 4) (by decide), w_0_z (o := 0) (k := 5) (by decide), w_0_z (o := 0) (k := 6) (by decide), w_0_z (o := 0) (k := 7) (by decide), w_0_z (o := 0) (k := 8) (by decide), w_0_z (o := 0) (k := 9) (by decide), w_0_z (o := 0) (k := 10) (by decide), w_0_z (o := 0) (k := 11) (by decide)]
    refine ⟨by decide, by decide, by decide, by decide, fun i hi => ⟨Nat.zero_le _, Nat.zero_le _, Nat.zero_le _, Nat.zero_le _, fun _ _ _ => rfl⟩, fun i t hi ht h => absurd rfl h, fun p hp => ⟨Nat.zero_le _, Nat.zero_le _, Nat.zero_le _, (show 0 < 128 by decide), Nat.zero_le _⟩, fun t ht => Nat.zero_le _⟩
theorem nl_of_tbl {s : State} {args : Array Value} (h : ∀ w ∈ lw_tbl, w.before args s = true) : ∀ x ∈ NL, va_Nw x s := by
  intro x hx
  have h1 := h x (List.mem_filter.mp hx).1
  have h2 := (List.mem_filter.mp hx).2
  cases x <;> first | exact va_Nw.of rfl h1 | (simp [NWq] at h2)
/-- the classes and the rows' classes, out of the tables -/
theorem known_all {s : State} {args : Array Value} (h : ∀ w ∈ lw_tbl, w.before args s = true) : ∃ (D : va_G) (cI cC cO : ClassId), va_K D vwCl (tyK cI cC cO) s := by
  have hTB : ∀ w ∈ TB, w.before args s = true := fun w hw => h w (tb_in hw)
  obtain ⟨c0, i0, k0⟩ := u_known (C := RX0) (T := TX0) (N := 2) (n := 2) hTB inT_X0 (hTB _ wi_X0)
  obtain ⟨c1, i1, k1⟩ := u_known (C := RX1) (T := TX1) (N := 6) (n := 6) hTB inT_X1 (hTB _ wi_X1)
  obtain ⟨c2, i2, k2⟩ := u_known (C := RX2) (T := TX2) (N := 15) (n := 15) hTB inT_X2 (hTB _ wi_X2)
  obtain ⟨c3, i3, k3⟩ := u_known (C := RX3) (T := TX3) (N := 4) (n := 4) hTB inT_X3 (hTB _ wi_X3)
  obtain ⟨cI, kI, pI, a1, a2, a3⟩ := Cond.arrayClass_spec (hTB _ wa_int)
  obtain ⟨cC, kC, pC, b1, b2, b3⟩ := Cond.arrayClass_spec (hTB _ wa_char)
  obtain ⟨pO, cO, kO, d1, d2, d3, d4, d5⟩ := Cond.arrayOver_spec (h _ wo_X2)
  refine ⟨(fun k => if k = 0 then c0 else if k = 1 then c1 else if k = 2 then c2 else c3, fun k => if k = 0 then i0 else if k = 1 then i1 else if k = 2 then i2 else i3), cI, cC, cO, fun k q hq => ?_, fun k q hq => ?_⟩
  · match k, hq with
    | 0, hq => cases hq; exact k0
    | 1, hq => cases hq; exact k1
    | 2, hq => cases hq; exact k2
    | 3, hq => cases hq; exact k3
    | k + 4, hq => simp [vwCl] at hq
  · match k, hq with
    | 0, hq => cases hq; exact ⟨fun n z => ⟨(fun k h => by cases h), kI, a2, pI, a3⟩, a1⟩
    | 1, hq => cases hq; exact ⟨fun n z => ⟨(fun k h => by cases h), kC, b2, pC, b3⟩, b1⟩
    | 2, hq => cases hq; exact ⟨fun n z => ⟨(fun k h => by cases h), kO, d3, pO, d4⟩, kO, pO, d3, d4, d1, d5⟩
    | k + 3, hq => simp [tyK] at hq
