/-! THE FIRST WORLD -/
def w_0 : WD := (fun o k => if o = 9 ∧ k = 1 then upN (fun _ => 0) 2 10 else if k = 0 ∧ o < 7 then upN (fun _ => 0) 2 10 else fun _ => 0, fun i => i + 2)
theorem w_0_9 : w_0.1 9 1 = upN (fun _ => 0) 2 10 := rfl
theorem w_0_0 : w_0.1 0 0 = upN (fun _ => 0) 2 10 := rfl
theorem w_0_z {o k : Nat} (h : k ≠ 0) (h9 : o ≠ 9) : w_0.1 o k = fun _ => 0 := by
  show (if o = 9 ∧ k = 1 then upN (fun _ => 0) 2 10 else if k = 0 ∧ o < 7 then upN (fun _ => 0) 2 10 else fun _ => 0) = _
  rw [if_neg (fun z => h9 z.1), if_neg (fun z => h z.1)]
theorem u_0 {j : Nat} (h : j ≠ 2) : upN (fun _ => 0) 2 10 j = 0 := upN_n _ _ h
theorem rG_0 : rG (w_0.1 0) (w_0.1 9 1) 0 := by
  rw [w_0_9]
  have vz : ∀ k, k ≠ 0 → ∀ j, w_0.1 0 k j = 0 := fun k hk j => by rw [w_0_z hk (by decide)]
  refine ⟨⟨⟨?_, fun v hv => ?_, fun v t hv ht => ?_, fun v t hv ht => ?_, fun t ht => ?_⟩, ⟨fun v k a b c => u_0 (by omega), fun v t hv ht hq => ?_, fun v hv hq => ?_, fun v u t hv hu ht hq => ?_⟩, ⟨⟨fun i a b => ?_, fun v k a b c => ?_, ?_, ?_, ?_⟩, fun v t hv ht => ?_, fun v hv => ?_, ?_⟩, fun p hp => ?_, fun j a b => ?_⟩, fun v t hv ht hq => u_0 (by omega)⟩
  · rw [w_0_0]
    exact ⟨rfl, rfl, rfl, rfl, rfl⟩
  · rw [vz 1 (by decide), vz 2 (by decide), vz 4 (by decide), vz 3 (by decide), u_0 (by omega), u_0 (by omega), u_0 (by omega), u_0 (by omega)]
    exact ⟨rfl, rfl, rfl, rfl⟩
  · exact Or.inl ⟨u_0 (by omega), vz 5 (by decide) _⟩
  · rw [vz 10 (by decide), u_0 (by omega), u_0 (by omega)]
    exact ⟨rfl, by decide⟩
  · rw [vz 11 (by decide), u_0 (by omega), u_0 (by omega)]
    exact ⟨rfl, by decide⟩
  · exact absurd (u_0 (by omega)) hq
  · rw [u_0 (by omega)] at hq
    exact absurd hq (by decide)
  · exact absurd (u_0 (by omega)) hq
  · rw [u_0 (by omega)]; decide
  · rw [u_0 (by omega)]; decide
  · decide
  · decide
  · decide
  · rw [u_0 (by omega)]; exact Nat.zero_le _
  · rw [u_0 (by omega)]; exact Nat.zero_le _
  · decide
  · rw [vz 6 (by decide), vz 7 (by decide), vz 8 (by decide), vz 9 (by decide)]
    exact ⟨by decide, by decide, Nat.zero_le _, by decide⟩
  · rw [u_0 (by omega)]; exact Nat.zero_le _
theorem RW_0 : RW w_0 0 := by
  refine ⟨⟨Nat.zero_le _, fun i hi => ?_⟩, fun i j hi hj e => ?_, rfl, rG_0, fun i hi => absurd hi (Nat.not_lt_zero i), rfl, Nat.zero_le _, rfl, fun j => ?_⟩
  · show 2 ≤ i + 2 ∧ i + 2 < 7
    omega
  · have e : i + 2 = j + 2 := e
    omega
  · show (0 : Nat) < 65536
    decide
theorem nl_of_tbl {s : State} {args : Array Value} (h : ∀ w ∈ lw_tbl, w.before args s = true) : ∀ x ∈ NL, va_Nw x s := by
  intro x hx
  have h1 := h x (List.mem_filter.mp hx).1
  have h2 := (List.mem_filter.mp hx).2
  cases x <;> first | exact va_Nw.of rfl h1 | (simp [NWq] at h2)
/-- the classes and the rows' classes, out of the tables -/
theorem known_all {s : State} {args : Array Value} (h : ∀ w ∈ lw_tbl, w.before args s = true) : ∃ (D : va_G) (cI cC cO : ClassId), va_K D vwCl (tyK cI cC cO) s := by
  have hTB : ∀ w ∈ TB, w.before args s = true := fun w hw => h w (tb_in hw)
  obtain ⟨c0, i0, k0⟩ := u_known (C := RX0) (T := TX0) (N := 2) (n := 2) hTB inT_X0 (hTB _ wi_X0)
  obtain ⟨c1, i1, k1⟩ := u_known (C := RX1) (T := TX1) (N := 6) (n := 6) hTB inT_X1 (hTB _ wi_X1)
  obtain ⟨c2, i2, k2⟩ := u_known (C := RX2) (T := TX2) (N := 15) (n := 15) hTB inT_X2 (hTB _ wi_X2)
  obtain ⟨c3, i3, k3⟩ := u_known (C := RX3) (T := TX3) (N := 4) (n := 4) hTB inT_X3 (hTB _ wi_X3)
  obtain ⟨c4, i4, k4⟩ := u_known (C := RX4) (T := TX4) (N := 10) (n := 10) hTB inT_X4 (hTB _ wi_X4)
  obtain ⟨cI, kI, pI, a1, a2, a3⟩ := Cond.arrayClass_spec (hTB _ wa_int)
  obtain ⟨cC, kC, pC, b1, b2, b3⟩ := Cond.arrayClass_spec (hTB _ wa_char)
  obtain ⟨pO, cO, kO, d1, d2, d3, d4, d5⟩ := Cond.arrayOver_spec (h _ wo_X2)
  refine ⟨(fun k => if k = 0 then c0 else if k = 1 then c1 else if k = 2 then c2 else if k = 3 then c3 else c4, fun k => if k = 0 then i0 else if k = 1 then i1 else if k = 2 then i2 else if k = 3 then i3 else i4), cI, cC, cO, fun k q hq => ?_, fun k q hq => ?_⟩
  · match k, hq with
    | 0, hq => cases hq; exact k0
    | 1, hq => cases hq; exact k1
    | 2, hq => cases hq; exact k2
    | 3, hq => cases hq; exact k3
    | 4, hq => cases hq; exact k4
    | k + 5, hq => simp [vwCl] at hq
  · match k, hq with
    | 0, hq => cases hq; exact ⟨fun n z => ⟨(fun k h => by cases h), kI, a2, pI, a3⟩, a1⟩
    | 1, hq => cases hq; exact ⟨fun n z => ⟨(fun k h => by cases h), kC, b2, pC, b3⟩, b1⟩
    | 2, hq => cases hq; exact ⟨fun n z => ⟨(fun k h => by cases h), kO, d3, pO, d4⟩, kO, pO, d3, d4, d1, d5⟩
    | k + 3, hq => simp [tyK] at hq
