abbrev rm_X2_init : Room := { frames := 1, cells := 11, slots := 544, locals := 12 }
set_option maxHeartbeats 4000000 in
set_option maxRecDepth 100000 in
theorem ki_X2 (l : Launch) (D : va_G) (cI cC cO : ClassId) (h0 sz : Nat) : Met l yX2_init (.code yX2_init cX2_init 1 none :: TB) rm_X2_init (va_Pc [.ref h0] (IP D cI cC cO sz (h0, .inr (2, vZ)))) (QP (S := Nat → Nat) D (fun u => vC cI h0 u) (fun _ => True) (h0, .inr (2, vZ)) sz) 11 544 (va_A [(h0, .inr (2, vZ))] sz) := by
  refine Met.ofW (cc := cX2_init) (maxL := 1) (ret := none) (by decide +kernel) rfl ?_
  intro p e s m args below meth c s₁ B hml hv
  obtain ⟨rfl, hsz, hP, hK, hD0, hN, hO⟩ := hv
  have hx := B.exec
  have hb := B.bytes
  have hr := B.returns
  have hts := atoms_spec (ws := Cond.code yX2_init cX2_init 1 none :: TB) B.pre
  have hTB : ∀ w ∈ TB, w.before ([.ref h0] : List Value).toArray s = true := fun w hw => hts w (List.mem_cons_of_mem _ hw)
  have hown : s.vm.findClass RX2 = some m.cls := findClass_of_methodNamed B.named
  have hlocks := B.notSynchronized
  have hin : meth.name = "<init>" := (name_of_methodNamed B.named B.method).1
  subst hsz
  have hD := hD0.self (sz := s.heap.size)
  generalize hAe : va_A [(h0, .inr (2, vZ))] s.heap.size = A at hD ⊢
  have hA : ∀ q : Nat, s.heap.size ≤ q → A q := fun q h => by rw [← hAe]; exact Or.inr h
  have hS : va_S A s.heap s.heap [] := va_S.rf
  have hP : va_P D vwCl [(h0, .inr (2, [.int (nI 0), .int (nI 0), .int (nI 0), .int (nI 0), .null, .null, .null, .null, .null, .null, .null, .null, .null, .null, .null]))] s.heap := hP
  have hD : va_D A [(h0, .inr (2, [.int (nI 0), .int (nI 0), .int (nI 0), .int (nI 0), .null, .null, .null, .null, .null, .null, .null, .null, .null, .null, .null]))] := hD
  have hl := lv_entry ([.ref h0]) (n := 1) (Nat.le_of_ble_eq_true rfl)
  rw [lg_entry_eq]
  generalize (lg_sl ([.ref h0]) ++ List.replicate (1 - (lg_sl ([.ref h0])).length) Slot.unset).toArray = ls at hl ⊢
  have hl : lv_has ls 1 [(0, .ref h0)] := hl
  refine lv_aload_n hx hb dX2_init_0 rfl (lv_at hl 0 rfl) ?_
  refine W.objInit hx hb hown (hTB _ ml_X2_3) (hTB _ wm_obj) (hTB _ wc_obj) rfl (by rw [hml]; exact hl.1) rfl dX2_init_1 (Nat.le_of_ble_eq_true rfl) (Nat.le_of_ble_eq_true rfl) ?_
  refine W.eq (g2 := F0 m 4 ls []) rfl ?_
  refine lv_aload_n hx hb dX2_init_4 rfl (lv_at hl 0 rfl) ?_
  refine lv_iconst (v := nI 0) hx hb dX2_init_5 (by decide) ?_
  refine va_put (D := D) (ci := 2) (v := .int (nI 0)) (ty := .int) (C := RX2) (T := TX2) (N := 15) hx hb hTB inT_X2 tyX2 tyX2_ok nmX2 hown hK hP hD hS 0 rfl rfl 0 (by decide) (hTB _ fl_X2_9) (fun _ h9 => h9) rfl (by decide +kernel) rfl rfl (Nat.le_of_ble_eq_true rfl) dX2_init_6 (fun H locs hP hD hS => ?_)
  have hP : va_P D vwCl ([(h0, .inr (2, [.int (nI 0), .int (nI 0), .int (nI 0), .int (nI 0), .null, .null, .null, .null, .null, .null, .null, .null, .null, .null, .null]))]) H := hP
  have hD : va_D A ([(h0, .inr (2, [.int (nI 0), .int (nI 0), .int (nI 0), .int (nI 0), .null, .null, .null, .null, .null, .null, .null, .null, .null, .null, .null]))]) := hD
  refine lv_aload_n hx hb dX2_init_9 rfl (lv_at hl 0 rfl) ?_
  refine lv_iconst (v := nI 0) hx hb dX2_init_10 (by decide) ?_
  refine va_put (D := D) (ci := 2) (v := .int (nI 0)) (ty := .int) (C := RX2) (T := TX2) (N := 15) hx hb hTB inT_X2 tyX2 tyX2_ok nmX2 hown hK hP hD hS 0 rfl rfl 1 (by decide) (hTB _ fl_X2_15) (fun _ h9 => h9) rfl (by decide +kernel) rfl rfl (Nat.le_of_ble_eq_true rfl) dX2_init_11 (fun H locs hP hD hS => ?_)
  have hP : va_P D vwCl ([(h0, .inr (2, [.int (nI 0), .int (nI 0), .int (nI 0), .int (nI 0), .null, .null, .null, .null, .null, .null, .null, .null, .null, .null, .null]))]) H := hP
  have hD : va_D A ([(h0, .inr (2, [.int (nI 0), .int (nI 0), .int (nI 0), .int (nI 0), .null, .null, .null, .null, .null, .null, .null, .null, .null, .null, .null]))]) := hD
  refine lv_aload_n hx hb dX2_init_14 rfl (lv_at hl 0 rfl) ?_
  refine lv_bipush (v := nI 10) hx hb dX2_init_15 (by decide +kernel) ?_
  refine va_put (D := D) (ci := 2) (v := .int (nI 10)) (ty := .int) (C := RX2) (T := TX2) (N := 15) hx hb hTB inT_X2 tyX2 tyX2_ok nmX2 hown hK hP hD hS 0 rfl rfl 2 (by decide) (hTB _ fl_X2_18) (fun _ h9 => h9) rfl (by decide +kernel) rfl rfl (Nat.le_of_ble_eq_true rfl) dX2_init_17 (fun H locs hP hD hS => ?_)
  have hP : va_P D vwCl ([(h0, .inr (2, [.int (nI 0), .int (nI 0), .int (nI 10), .int (nI 0), .null, .null, .null, .null, .null, .null, .null, .null, .null, .null, .null]))]) H := hP
  have hD : va_D A ([(h0, .inr (2, [.int (nI 0), .int (nI 0), .int (nI 10), .int (nI 0), .null, .null, .null, .null, .null, .null, .null, .null, .null, .null, .null]))]) := hD
  refine lv_aload_n hx hb dX2_init_20 rfl (lv_at hl 0 rfl) ?_
  refine lv_iconst (v := nI 0) hx hb dX2_init_21 (by decide) ?_
  refine va_put (D := D) (ci := 2) (v := .int (nI 0)) (ty := .int) (C := RX2) (T := TX2) (N := 15) hx hb hTB inT_X2 tyX2 tyX2_ok nmX2 hown hK hP hD hS 0 rfl rfl 3 (by decide) (hTB _ fl_X2_21) (fun _ h9 => h9) rfl (by decide +kernel) rfl rfl (Nat.le_of_ble_eq_true rfl) dX2_init_22 (fun H locs hP hD hS => ?_)
  have hP : va_P D vwCl ([(h0, .inr (2, [.int (nI 0), .int (nI 0), .int (nI 10), .int (nI 0), .null, .null, .null, .null, .null, .null, .null, .null, .null, .null, .null]))]) H := hP
  have hD : va_D A ([(h0, .inr (2, [.int (nI 0), .int (nI 0), .int (nI 10), .int (nI 0), .null, .null, .null, .null, .null, .null, .null, .null, .null, .null, .null]))]) := hD
  refine lv_aload_n hx hb dX2_init_25 rfl (lv_at hl 0 rfl) ?_
  refine lv_bipush (v := nI 7) hx hb dX2_init_26 (by decide +kernel) ?_
  refine va_newI (cI := cI) (atype := .int) (ty := .int) (a0 := (7, .inl (fun _ => nI 0))) hx hb (hTB _ wa_int) rfl hK hP hD hS hA 0 rfl (fun _ => rfl) (by decide +kernel) (by decide +kernel) (by decide +kernel) (Nat.le_of_ble_eq_true rfl) (Nat.le_of_ble_eq_true rfl) dX2_init_28 (fun q1 H hP hD hS => ?_)
  refine W.widen (k := 1) (n := 7) (Nat.le_of_ble_eq_true rfl) (Nat.le_of_ble_eq_true rfl) ?_
  have hP : va_P D vwCl ([(h0, .inr (2, [.int (nI 0), .int (nI 0), .int (nI 10), .int (nI 0), .null, .null, .null, .null, .null, .null, .null, .null, .null, .null, .null])), (q1, .inl (cI, 7, .inl (fun _ => nI 0)))]) H := hP
  have hD : va_D A ([(h0, .inr (2, [.int (nI 0), .int (nI 0), .int (nI 10), .int (nI 0), .null, .null, .null, .null, .null, .null, .null, .null, .null, .null, .null])), (q1, .inl (cI, 7, .inl (fun _ => nI 0)))]) := hD
  refine va_putF (D := D) (ci := 2) (v := .ref q1) (ty := (.array .int)) (C := RX2) (T := TX2) (N := 15) hx hb hTB inT_X2 tyX2 tyX2_ok nmX2 hown hK hP hD hS 0 rfl rfl 4 (by decide) (hTB _ fl_X2_24) (fun _ h9 => h9) rfl hin rfl (by decide +kernel) rfl rfl (Nat.le_of_ble_eq_true rfl) dX2_init_30 (fun H locs hP hD hS => ?_)
  have hP : va_P D vwCl ([(h0, .inr (2, [.int (nI 0), .int (nI 0), .int (nI 10), .int (nI 0), .ref q1, .null, .null, .null, .null, .null, .null, .null, .null, .null, .null])), (q1, .inl (cI, 7, .inl (fun _ => nI 0)))]) H := hP
  have hD : va_D A ([(h0, .inr (2, [.int (nI 0), .int (nI 0), .int (nI 10), .int (nI 0), .ref q1, .null, .null, .null, .null, .null, .null, .null, .null, .null, .null])), (q1, .inl (cI, 7, .inl (fun _ => nI 0)))]) := hD
  refine lv_aload_n hx hb dX2_init_33 rfl (lv_at hl 0 rfl) ?_
  refine lv_bipush (v := nI 7) hx hb dX2_init_34 (by decide +kernel) ?_
  refine va_newI (cI := cI) (atype := .int) (ty := .int) (a0 := (7, .inl (fun _ => nI 0))) hx hb (hTB _ wa_int) rfl hK hP hD hS hA 0 rfl (fun _ => rfl) (by decide +kernel) (by decide +kernel) (by decide +kernel) (Nat.le_of_ble_eq_true rfl) (Nat.le_of_ble_eq_true rfl) dX2_init_36 (fun q2 H hP hD hS => ?_)
  refine W.widen (k := 2) (n := 14) (Nat.le_of_ble_eq_true rfl) (Nat.le_of_ble_eq_true rfl) ?_
  have hP : va_P D vwCl ([(h0, .inr (2, [.int (nI 0), .int (nI 0), .int (nI 10), .int (nI 0), .ref q1, .null, .null, .null, .null, .null, .null, .null, .null, .null, .null])), (q1, .inl (cI, 7, .inl (fun _ => nI 0))), (q2, .inl (cI, 7, .inl (fun _ => nI 0)))]) H := hP
  have hD : va_D A ([(h0, .inr (2, [.int (nI 0), .int (nI 0), .int (nI 10), .int (nI 0), .ref q1, .null, .null, .null, .null, .null, .null, .null, .null, .null, .null])), (q1, .inl (cI, 7, .inl (fun _ => nI 0))), (q2, .inl (cI, 7, .inl (fun _ => nI 0)))]) := hD
  refine va_putF (D := D) (ci := 2) (v := .ref q2) (ty := (.array .int)) (C := RX2) (T := TX2) (N := 15) hx hb hTB inT_X2 tyX2 tyX2_ok nmX2 hown hK hP hD hS 0 rfl rfl 5 (by decide) (hTB _ fl_X2_28) (fun _ h9 => h9) rfl hin rfl (by decide +kernel) rfl rfl (Nat.le_of_ble_eq_true rfl) dX2_init_38 (fun H locs hP hD hS => ?_)
  have hP : va_P D vwCl ([(h0, .inr (2, [.int (nI 0), .int (nI 0), .int (nI 10), .int (nI 0), .ref q1, .ref q2, .null, .null, .null, .null, .null, .null, .null, .null, .null])), (q1, .inl (cI, 7, .inl (fun _ => nI 0))), (q2, .inl (cI, 7, .inl (fun _ => nI 0)))]) H := hP
  have hD : va_D A ([(h0, .inr (2, [.int (nI 0), .int (nI 0), .int (nI 10), .int (nI 0), .ref q1, .ref q2, .null, .null, .null, .null, .null, .null, .null, .null, .null])), (q1, .inl (cI, 7, .inl (fun _ => nI 0))), (q2, .inl (cI, 7, .inl (fun _ => nI 0)))]) := hD
  refine lv_aload_n hx hb dX2_init_41 rfl (lv_at hl 0 rfl) ?_
  refine lv_bipush (v := nI 7) hx hb dX2_init_42 (by decide +kernel) ?_
  refine va_newI (cI := cI) (atype := .int) (ty := .int) (a0 := (7, .inl (fun _ => nI 0))) hx hb (hTB _ wa_int) rfl hK hP hD hS hA 0 rfl (fun _ => rfl) (by decide +kernel) (by decide +kernel) (by decide +kernel) (Nat.le_of_ble_eq_true rfl) (Nat.le_of_ble_eq_true rfl) dX2_init_44 (fun q3 H hP hD hS => ?_)
  refine W.widen (k := 3) (n := 21) (Nat.le_of_ble_eq_true rfl) (Nat.le_of_ble_eq_true rfl) ?_
  have hP : va_P D vwCl ([(h0, .inr (2, [.int (nI 0), .int (nI 0), .int (nI 10), .int (nI 0), .ref q1, .ref q2, .null, .null, .null, .null, .null, .null, .null, .null, .null])), (q1, .inl (cI, 7, .inl (fun _ => nI 0))), (q2, .inl (cI, 7, .inl (fun _ => nI 0))), (q3, .inl (cI, 7, .inl (fun _ => nI 0)))]) H := hP
  have hD : va_D A ([(h0, .inr (2, [.int (nI 0), .int (nI 0), .int (nI 10), .int (nI 0), .ref q1, .ref q2, .null, .null, .null, .null, .null, .null, .null, .null, .null])), (q1, .inl (cI, 7, .inl (fun _ => nI 0))), (q2, .inl (cI, 7, .inl (fun _ => nI 0))), (q3, .inl (cI, 7, .inl (fun _ => nI 0)))]) := hD
  refine va_putF (D := D) (ci := 2) (v := .ref q3) (ty := (.array .int)) (C := RX2) (T := TX2) (N := 15) hx hb hTB inT_X2 tyX2 tyX2_ok nmX2 hown hK hP hD hS 0 rfl rfl 6 (by decide) (hTB _ fl_X2_31) (fun _ h9 => h9) rfl hin rfl (by decide +kernel) rfl rfl (Nat.le_of_ble_eq_true rfl) dX2_init_46 (fun H locs hP hD hS => ?_)
  have hP : va_P D vwCl ([(h0, .inr (2, [.int (nI 0), .int (nI 0), .int (nI 10), .int (nI 0), .ref q1, .ref q2, .ref q3, .null, .null, .null, .null, .null, .null, .null, .null])), (q1, .inl (cI, 7, .inl (fun _ => nI 0))), (q2, .inl (cI, 7, .inl (fun _ => nI 0))), (q3, .inl (cI, 7, .inl (fun _ => nI 0)))]) H := hP
  have hD : va_D A ([(h0, .inr (2, [.int (nI 0), .int (nI 0), .int (nI 10), .int (nI 0), .ref q1, .ref q2, .ref q3, .null, .null, .null, .null, .null, .null, .null, .null])), (q1, .inl (cI, 7, .inl (fun _ => nI 0))), (q2, .inl (cI, 7, .inl (fun _ => nI 0))), (q3, .inl (cI, 7, .inl (fun _ => nI 0)))]) := hD
  refine lv_aload_n hx hb dX2_init_49 rfl (lv_at hl 0 rfl) ?_
  refine lv_bipush (v := nI 7) hx hb dX2_init_50 (by decide +kernel) ?_
  refine va_newI (cI := cI) (atype := .int) (ty := .int) (a0 := (7, .inl (fun _ => nI 0))) hx hb (hTB _ wa_int) rfl hK hP hD hS hA 0 rfl (fun _ => rfl) (by decide +kernel) (by decide +kernel) (by decide +kernel) (Nat.le_of_ble_eq_true rfl) (Nat.le_of_ble_eq_true rfl) dX2_init_52 (fun q4 H hP hD hS => ?_)
  refine W.widen (k := 4) (n := 28) (Nat.le_of_ble_eq_true rfl) (Nat.le_of_ble_eq_true rfl) ?_
  have hP : va_P D vwCl ([(h0, .inr (2, [.int (nI 0), .int (nI 0), .int (nI 10), .int (nI 0), .ref q1, .ref q2, .ref q3, .null, .null, .null, .null, .null, .null, .null, .null])), (q1, .inl (cI, 7, .inl (fun _ => nI 0))), (q2, .inl (cI, 7, .inl (fun _ => nI 0))), (q3, .inl (cI, 7, .inl (fun _ => nI 0))), (q4, .inl (cI, 7, .inl (fun _ => nI 0)))]) H := hP
  have hD : va_D A ([(h0, .inr (2, [.int (nI 0), .int (nI 0), .int (nI 10), .int (nI 0), .ref q1, .ref q2, .ref q3, .null, .null, .null, .null, .null, .null, .null, .null])), (q1, .inl (cI, 7, .inl (fun _ => nI 0))), (q2, .inl (cI, 7, .inl (fun _ => nI 0))), (q3, .inl (cI, 7, .inl (fun _ => nI 0))), (q4, .inl (cI, 7, .inl (fun _ => nI 0)))]) := hD
  refine va_putF (D := D) (ci := 2) (v := .ref q4) (ty := (.array .int)) (C := RX2) (T := TX2) (N := 15) hx hb hTB inT_X2 tyX2 tyX2_ok nmX2 hown hK hP hD hS 0 rfl rfl 7 (by decide) (hTB _ fl_X2_34) (fun _ h9 => h9) rfl hin rfl (by decide +kernel) rfl rfl (Nat.le_of_ble_eq_true rfl) dX2_init_54 (fun H locs hP hD hS => ?_)
  have hP : va_P D vwCl ([(h0, .inr (2, [.int (nI 0), .int (nI 0), .int (nI 10), .int (nI 0), .ref q1, .ref q2, .ref q3, .ref q4, .null, .null, .null, .null, .null, .null, .null])), (q1, .inl (cI, 7, .inl (fun _ => nI 0))), (q2, .inl (cI, 7, .inl (fun _ => nI 0))), (q3, .inl (cI, 7, .inl (fun _ => nI 0))), (q4, .inl (cI, 7, .inl (fun _ => nI 0)))]) H := hP
  have hD : va_D A ([(h0, .inr (2, [.int (nI 0), .int (nI 0), .int (nI 10), .int (nI 0), .ref q1, .ref q2, .ref q3, .ref q4, .null, .null, .null, .null, .null, .null, .null])), (q1, .inl (cI, 7, .inl (fun _ => nI 0))), (q2, .inl (cI, 7, .inl (fun _ => nI 0))), (q3, .inl (cI, 7, .inl (fun _ => nI 0))), (q4, .inl (cI, 7, .inl (fun _ => nI 0)))]) := hD
  refine lv_aload_n hx hb dX2_init_57 rfl (lv_at hl 0 rfl) ?_
  refine lv_bipush (v := nI 84) hx hb dX2_init_58 (by decide +kernel) ?_
  refine va_newI (cI := cI) (atype := .int) (ty := .int) (a0 := (84, .inl (fun _ => nI 0))) hx hb (hTB _ wa_int) rfl hK hP hD hS hA 0 rfl (fun _ => rfl) (by decide +kernel) (by decide +kernel) (by decide +kernel) (Nat.le_of_ble_eq_true rfl) (Nat.le_of_ble_eq_true rfl) dX2_init_60 (fun q5 H hP hD hS => ?_)
  refine W.widen (k := 5) (n := 112) (Nat.le_of_ble_eq_true rfl) (Nat.le_of_ble_eq_true rfl) ?_
  have hP : va_P D vwCl ([(h0, .inr (2, [.int (nI 0), .int (nI 0), .int (nI 10), .int (nI 0), .ref q1, .ref q2, .ref q3, .ref q4, .null, .null, .null, .null, .null, .null, .null])), (q1, .inl (cI, 7, .inl (fun _ => nI 0))), (q2, .inl (cI, 7, .inl (fun _ => nI 0))), (q3, .inl (cI, 7, .inl (fun _ => nI 0))), (q4, .inl (cI, 7, .inl (fun _ => nI 0))), (q5, .inl (cI, 84, .inl (fun _ => nI 0)))]) H := hP
  have hD : va_D A ([(h0, .inr (2, [.int (nI 0), .int (nI 0), .int (nI 10), .int (nI 0), .ref q1, .ref q2, .ref q3, .ref q4, .null, .null, .null, .null, .null, .null, .null])), (q1, .inl (cI, 7, .inl (fun _ => nI 0))), (q2, .inl (cI, 7, .inl (fun _ => nI 0))), (q3, .inl (cI, 7, .inl (fun _ => nI 0))), (q4, .inl (cI, 7, .inl (fun _ => nI 0))), (q5, .inl (cI, 84, .inl (fun _ => nI 0)))]) := hD
  refine va_putF (D := D) (ci := 2) (v := .ref q5) (ty := (.array .int)) (C := RX2) (T := TX2) (N := 15) hx hb hTB inT_X2 tyX2 tyX2_ok nmX2 hown hK hP hD hS 0 rfl rfl 8 (by decide) (hTB _ fl_X2_37) (fun _ h9 => h9) rfl hin rfl (by decide +kernel) rfl rfl (Nat.le_of_ble_eq_true rfl) dX2_init_62 (fun H locs hP hD hS => ?_)
  have hP : va_P D vwCl ([(h0, .inr (2, [.int (nI 0), .int (nI 0), .int (nI 10), .int (nI 0), .ref q1, .ref q2, .ref q3, .ref q4, .ref q5, .null, .null, .null, .null, .null, .null])), (q1, .inl (cI, 7, .inl (fun _ => nI 0))), (q2, .inl (cI, 7, .inl (fun _ => nI 0))), (q3, .inl (cI, 7, .inl (fun _ => nI 0))), (q4, .inl (cI, 7, .inl (fun _ => nI 0))), (q5, .inl (cI, 84, .inl (fun _ => nI 0)))]) H := hP
  have hD : va_D A ([(h0, .inr (2, [.int (nI 0), .int (nI 0), .int (nI 10), .int (nI 0), .ref q1, .ref q2, .ref q3, .ref q4, .ref q5, .null, .null, .null, .null, .null, .null])), (q1, .inl (cI, 7, .inl (fun _ => nI 0))), (q2, .inl (cI, 7, .inl (fun _ => nI 0))), (q3, .inl (cI, 7, .inl (fun _ => nI 0))), (q4, .inl (cI, 7, .inl (fun _ => nI 0))), (q5, .inl (cI, 84, .inl (fun _ => nI 0)))]) := hD
  refine lv_aload_n hx hb dX2_init_65 rfl (lv_at hl 0 rfl) ?_
  refine lv_bipush (v := nI 84) hx hb dX2_init_66 (by decide +kernel) ?_
  refine va_newI (cI := cI) (atype := .int) (ty := .int) (a0 := (84, .inl (fun _ => nI 0))) hx hb (hTB _ wa_int) rfl hK hP hD hS hA 0 rfl (fun _ => rfl) (by decide +kernel) (by decide +kernel) (by decide +kernel) (Nat.le_of_ble_eq_true rfl) (Nat.le_of_ble_eq_true rfl) dX2_init_68 (fun q6 H hP hD hS => ?_)
  refine W.widen (k := 6) (n := 196) (Nat.le_of_ble_eq_true rfl) (Nat.le_of_ble_eq_true rfl) ?_
  have hP : va_P D vwCl ([(h0, .inr (2, [.int (nI 0), .int (nI 0), .int (nI 10), .int (nI 0), .ref q1, .ref q2, .ref q3, .ref q4, .ref q5, .null, .null, .null, .null, .null, .null])), (q1, .inl (cI, 7, .inl (fun _ => nI 0))), (q2, .inl (cI, 7, .inl (fun _ => nI 0))), (q3, .inl (cI, 7, .inl (fun _ => nI 0))), (q4, .inl (cI, 7, .inl (fun _ => nI 0))), (q5, .inl (cI, 84, .inl (fun _ => nI 0))), (q6, .inl (cI, 84, .inl (fun _ => nI 0)))]) H := hP
  have hD : va_D A ([(h0, .inr (2, [.int (nI 0), .int (nI 0), .int (nI 10), .int (nI 0), .ref q1, .ref q2, .ref q3, .ref q4, .ref q5, .null, .null, .null, .null, .null, .null])), (q1, .inl (cI, 7, .inl (fun _ => nI 0))), (q2, .inl (cI, 7, .inl (fun _ => nI 0))), (q3, .inl (cI, 7, .inl (fun _ => nI 0))), (q4, .inl (cI, 7, .inl (fun _ => nI 0))), (q5, .inl (cI, 84, .inl (fun _ => nI 0))), (q6, .inl (cI, 84, .inl (fun _ => nI 0)))]) := hD
  refine va_putF (D := D) (ci := 2) (v := .ref q6) (ty := (.array .int)) (C := RX2) (T := TX2) (N := 15) hx hb hTB inT_X2 tyX2 tyX2_ok nmX2 hown hK hP hD hS 0 rfl rfl 9 (by decide) (hTB _ fl_X2_40) (fun _ h9 => h9) rfl hin rfl (by decide +kernel) rfl rfl (Nat.le_of_ble_eq_true rfl) dX2_init_70 (fun H locs hP hD hS => ?_)
  have hP : va_P D vwCl ([(h0, .inr (2, [.int (nI 0), .int (nI 0), .int (nI 10), .int (nI 0), .ref q1, .ref q2, .ref q3, .ref q4, .ref q5, .ref q6, .null, .null, .null, .null, .null])), (q1, .inl (cI, 7, .inl (fun _ => nI 0))), (q2, .inl (cI, 7, .inl (fun _ => nI 0))), (q3, .inl (cI, 7, .inl (fun _ => nI 0))), (q4, .inl (cI, 7, .inl (fun _ => nI 0))), (q5, .inl (cI, 84, .inl (fun _ => nI 0))), (q6, .inl (cI, 84, .inl (fun _ => nI 0)))]) H := hP
  have hD : va_D A ([(h0, .inr (2, [.int (nI 0), .int (nI 0), .int (nI 10), .int (nI 0), .ref q1, .ref q2, .ref q3, .ref q4, .ref q5, .ref q6, .null, .null, .null, .null, .null])), (q1, .inl (cI, 7, .inl (fun _ => nI 0))), (q2, .inl (cI, 7, .inl (fun _ => nI 0))), (q3, .inl (cI, 7, .inl (fun _ => nI 0))), (q4, .inl (cI, 7, .inl (fun _ => nI 0))), (q5, .inl (cI, 84, .inl (fun _ => nI 0))), (q6, .inl (cI, 84, .inl (fun _ => nI 0)))]) := hD
  refine lv_aload_n hx hb dX2_init_73 rfl (lv_at hl 0 rfl) ?_
  refine lv_bipush (v := nI 84) hx hb dX2_init_74 (by decide +kernel) ?_
  refine va_newI (cI := cI) (atype := .int) (ty := .int) (a0 := (84, .inl (fun _ => nI 0))) hx hb (hTB _ wa_int) rfl hK hP hD hS hA 0 rfl (fun _ => rfl) (by decide +kernel) (by decide +kernel) (by decide +kernel) (Nat.le_of_ble_eq_true rfl) (Nat.le_of_ble_eq_true rfl) dX2_init_76 (fun q7 H hP hD hS => ?_)
  refine W.widen (k := 7) (n := 280) (Nat.le_of_ble_eq_true rfl) (Nat.le_of_ble_eq_true rfl) ?_
  have hP : va_P D vwCl ([(h0, .inr (2, [.int (nI 0), .int (nI 0), .int (nI 10), .int (nI 0), .ref q1, .ref q2, .ref q3, .ref q4, .ref q5, .ref q6, .null, .null, .null, .null, .null])), (q1, .inl (cI, 7, .inl (fun _ => nI 0))), (q2, .inl (cI, 7, .inl (fun _ => nI 0))), (q3, .inl (cI, 7, .inl (fun _ => nI 0))), (q4, .inl (cI, 7, .inl (fun _ => nI 0))), (q5, .inl (cI, 84, .inl (fun _ => nI 0))), (q6, .inl (cI, 84, .inl (fun _ => nI 0))), (q7, .inl (cI, 84, .inl (fun _ => nI 0)))]) H := hP
  have hD : va_D A ([(h0, .inr (2, [.int (nI 0), .int (nI 0), .int (nI 10), .int (nI 0), .ref q1, .ref q2, .ref q3, .ref q4, .ref q5, .ref q6, .null, .null, .null, .null, .null])), (q1, .inl (cI, 7, .inl (fun _ => nI 0))), (q2, .inl (cI, 7, .inl (fun _ => nI 0))), (q3, .inl (cI, 7, .inl (fun _ => nI 0))), (q4, .inl (cI, 7, .inl (fun _ => nI 0))), (q5, .inl (cI, 84, .inl (fun _ => nI 0))), (q6, .inl (cI, 84, .inl (fun _ => nI 0))), (q7, .inl (cI, 84, .inl (fun _ => nI 0)))]) := hD
  refine va_putF (D := D) (ci := 2) (v := .ref q7) (ty := (.array .int)) (C := RX2) (T := TX2) (N := 15) hx hb hTB inT_X2 tyX2 tyX2_ok nmX2 hown hK hP hD hS 0 rfl rfl 10 (by decide) (hTB _ fl_X2_43) (fun _ h9 => h9) rfl hin rfl (by decide +kernel) rfl rfl (Nat.le_of_ble_eq_true rfl) dX2_init_78 (fun H locs hP hD hS => ?_)
  have hP : va_P D vwCl ([(h0, .inr (2, [.int (nI 0), .int (nI 0), .int (nI 10), .int (nI 0), .ref q1, .ref q2, .ref q3, .ref q4, .ref q5, .ref q6, .ref q7, .null, .null, .null, .null])), (q1, .inl (cI, 7, .inl (fun _ => nI 0))), (q2, .inl (cI, 7, .inl (fun _ => nI 0))), (q3, .inl (cI, 7, .inl (fun _ => nI 0))), (q4, .inl (cI, 7, .inl (fun _ => nI 0))), (q5, .inl (cI, 84, .inl (fun _ => nI 0))), (q6, .inl (cI, 84, .inl (fun _ => nI 0))), (q7, .inl (cI, 84, .inl (fun _ => nI 0)))]) H := hP
  have hD : va_D A ([(h0, .inr (2, [.int (nI 0), .int (nI 0), .int (nI 10), .int (nI 0), .ref q1, .ref q2, .ref q3, .ref q4, .ref q5, .ref q6, .ref q7, .null, .null, .null, .null])), (q1, .inl (cI, 7, .inl (fun _ => nI 0))), (q2, .inl (cI, 7, .inl (fun _ => nI 0))), (q3, .inl (cI, 7, .inl (fun _ => nI 0))), (q4, .inl (cI, 7, .inl (fun _ => nI 0))), (q5, .inl (cI, 84, .inl (fun _ => nI 0))), (q6, .inl (cI, 84, .inl (fun _ => nI 0))), (q7, .inl (cI, 84, .inl (fun _ => nI 0)))]) := hD
  refine lv_aload_n hx hb dX2_init_81 rfl (lv_at hl 0 rfl) ?_
  refine lv_bipush (v := nI 84) hx hb dX2_init_82 (by decide +kernel) ?_
  refine va_newI (cI := cI) (atype := .int) (ty := .int) (a0 := (84, .inl (fun _ => nI 0))) hx hb (hTB _ wa_int) rfl hK hP hD hS hA 0 rfl (fun _ => rfl) (by decide +kernel) (by decide +kernel) (by decide +kernel) (Nat.le_of_ble_eq_true rfl) (Nat.le_of_ble_eq_true rfl) dX2_init_84 (fun q8 H hP hD hS => ?_)
  refine W.widen (k := 8) (n := 364) (Nat.le_of_ble_eq_true rfl) (Nat.le_of_ble_eq_true rfl) ?_
  have hP : va_P D vwCl ([(h0, .inr (2, [.int (nI 0), .int (nI 0), .int (nI 10), .int (nI 0), .ref q1, .ref q2, .ref q3, .ref q4, .ref q5, .ref q6, .ref q7, .null, .null, .null, .null])), (q1, .inl (cI, 7, .inl (fun _ => nI 0))), (q2, .inl (cI, 7, .inl (fun _ => nI 0))), (q3, .inl (cI, 7, .inl (fun _ => nI 0))), (q4, .inl (cI, 7, .inl (fun _ => nI 0))), (q5, .inl (cI, 84, .inl (fun _ => nI 0))), (q6, .inl (cI, 84, .inl (fun _ => nI 0))), (q7, .inl (cI, 84, .inl (fun _ => nI 0))), (q8, .inl (cI, 84, .inl (fun _ => nI 0)))]) H := hP
  have hD : va_D A ([(h0, .inr (2, [.int (nI 0), .int (nI 0), .int (nI 10), .int (nI 0), .ref q1, .ref q2, .ref q3, .ref q4, .ref q5, .ref q6, .ref q7, .null, .null, .null, .null])), (q1, .inl (cI, 7, .inl (fun _ => nI 0))), (q2, .inl (cI, 7, .inl (fun _ => nI 0))), (q3, .inl (cI, 7, .inl (fun _ => nI 0))), (q4, .inl (cI, 7, .inl (fun _ => nI 0))), (q5, .inl (cI, 84, .inl (fun _ => nI 0))), (q6, .inl (cI, 84, .inl (fun _ => nI 0))), (q7, .inl (cI, 84, .inl (fun _ => nI 0))), (q8, .inl (cI, 84, .inl (fun _ => nI 0)))]) := hD
  refine va_putF (D := D) (ci := 2) (v := .ref q8) (ty := (.array .int)) (C := RX2) (T := TX2) (N := 15) hx hb hTB inT_X2 tyX2 tyX2_ok nmX2 hown hK hP hD hS 0 rfl rfl 11 (by decide) (hTB _ fl_X2_46) (fun _ h9 => h9) rfl hin rfl (by decide +kernel) rfl rfl (Nat.le_of_ble_eq_true rfl) dX2_init_86 (fun H locs hP hD hS => ?_)
  have hP : va_P D vwCl ([(h0, .inr (2, [.int (nI 0), .int (nI 0), .int (nI 10), .int (nI 0), .ref q1, .ref q2, .ref q3, .ref q4, .ref q5, .ref q6, .ref q7, .ref q8, .null, .null, .null])), (q1, .inl (cI, 7, .inl (fun _ => nI 0))), (q2, .inl (cI, 7, .inl (fun _ => nI 0))), (q3, .inl (cI, 7, .inl (fun _ => nI 0))), (q4, .inl (cI, 7, .inl (fun _ => nI 0))), (q5, .inl (cI, 84, .inl (fun _ => nI 0))), (q6, .inl (cI, 84, .inl (fun _ => nI 0))), (q7, .inl (cI, 84, .inl (fun _ => nI 0))), (q8, .inl (cI, 84, .inl (fun _ => nI 0)))]) H := hP
  have hD : va_D A ([(h0, .inr (2, [.int (nI 0), .int (nI 0), .int (nI 10), .int (nI 0), .ref q1, .ref q2, .ref q3, .ref q4, .ref q5, .ref q6, .ref q7, .ref q8, .null, .null, .null])), (q1, .inl (cI, 7, .inl (fun _ => nI 0))), (q2, .inl (cI, 7, .inl (fun _ => nI 0))), (q3, .inl (cI, 7, .inl (fun _ => nI 0))), (q4, .inl (cI, 7, .inl (fun _ => nI 0))), (q5, .inl (cI, 84, .inl (fun _ => nI 0))), (q6, .inl (cI, 84, .inl (fun _ => nI 0))), (q7, .inl (cI, 84, .inl (fun _ => nI 0))), (q8, .inl (cI, 84, .inl (fun _ => nI 0)))]) := hD
  refine lv_aload_n hx hb dX2_init_89 rfl (lv_at hl 0 rfl) ?_
  refine lv_bipush (v := nI 84) hx hb dX2_init_90 (by decide +kernel) ?_
  refine va_newI (cI := cI) (atype := .int) (ty := .int) (a0 := (84, .inl (fun _ => nI 0))) hx hb (hTB _ wa_int) rfl hK hP hD hS hA 0 rfl (fun _ => rfl) (by decide +kernel) (by decide +kernel) (by decide +kernel) (Nat.le_of_ble_eq_true rfl) (Nat.le_of_ble_eq_true rfl) dX2_init_92 (fun q9 H hP hD hS => ?_)
  refine W.widen (k := 9) (n := 448) (Nat.le_of_ble_eq_true rfl) (Nat.le_of_ble_eq_true rfl) ?_
  have hP : va_P D vwCl ([(h0, .inr (2, [.int (nI 0), .int (nI 0), .int (nI 10), .int (nI 0), .ref q1, .ref q2, .ref q3, .ref q4, .ref q5, .ref q6, .ref q7, .ref q8, .null, .null, .null])), (q1, .inl (cI, 7, .inl (fun _ => nI 0))), (q2, .inl (cI, 7, .inl (fun _ => nI 0))), (q3, .inl (cI, 7, .inl (fun _ => nI 0))), (q4, .inl (cI, 7, .inl (fun _ => nI 0))), (q5, .inl (cI, 84, .inl (fun _ => nI 0))), (q6, .inl (cI, 84, .inl (fun _ => nI 0))), (q7, .inl (cI, 84, .inl (fun _ => nI 0))), (q8, .inl (cI, 84, .inl (fun _ => nI 0))), (q9, .inl (cI, 84, .inl (fun _ => nI 0)))]) H := hP
  have hD : va_D A ([(h0, .inr (2, [.int (nI 0), .int (nI 0), .int (nI 10), .int (nI 0), .ref q1, .ref q2, .ref q3, .ref q4, .ref q5, .ref q6, .ref q7, .ref q8, .null, .null, .null])), (q1, .inl (cI, 7, .inl (fun _ => nI 0))), (q2, .inl (cI, 7, .inl (fun _ => nI 0))), (q3, .inl (cI, 7, .inl (fun _ => nI 0))), (q4, .inl (cI, 7, .inl (fun _ => nI 0))), (q5, .inl (cI, 84, .inl (fun _ => nI 0))), (q6, .inl (cI, 84, .inl (fun _ => nI 0))), (q7, .inl (cI, 84, .inl (fun _ => nI 0))), (q8, .inl (cI, 84, .inl (fun _ => nI 0))), (q9, .inl (cI, 84, .inl (fun _ => nI 0)))]) := hD
  refine va_putF (D := D) (ci := 2) (v := .ref q9) (ty := (.array .int)) (C := RX2) (T := TX2) (N := 15) hx hb hTB inT_X2 tyX2 tyX2_ok nmX2 hown hK hP hD hS 0 rfl rfl 12 (by decide) (hTB _ fl_X2_49) (fun _ h9 => h9) rfl hin rfl (by decide +kernel) rfl rfl (Nat.le_of_ble_eq_true rfl) dX2_init_94 (fun H locs hP hD hS => ?_)
  have hP : va_P D vwCl ([(h0, .inr (2, [.int (nI 0), .int (nI 0), .int (nI 10), .int (nI 0), .ref q1, .ref q2, .ref q3, .ref q4, .ref q5, .ref q6, .ref q7, .ref q8, .ref q9, .null, .null])), (q1, .inl (cI, 7, .inl (fun _ => nI 0))), (q2, .inl (cI, 7, .inl (fun _ => nI 0))), (q3, .inl (cI, 7, .inl (fun _ => nI 0))), (q4, .inl (cI, 7, .inl (fun _ => nI 0))), (q5, .inl (cI, 84, .inl (fun _ => nI 0))), (q6, .inl (cI, 84, .inl (fun _ => nI 0))), (q7, .inl (cI, 84, .inl (fun _ => nI 0))), (q8, .inl (cI, 84, .inl (fun _ => nI 0))), (q9, .inl (cI, 84, .inl (fun _ => nI 0)))]) H := hP
  have hD : va_D A ([(h0, .inr (2, [.int (nI 0), .int (nI 0), .int (nI 10), .int (nI 0), .ref q1, .ref q2, .ref q3, .ref q4, .ref q5, .ref q6, .ref q7, .ref q8, .ref q9, .null, .null])), (q1, .inl (cI, 7, .inl (fun _ => nI 0))), (q2, .inl (cI, 7, .inl (fun _ => nI 0))), (q3, .inl (cI, 7, .inl (fun _ => nI 0))), (q4, .inl (cI, 7, .inl (fun _ => nI 0))), (q5, .inl (cI, 84, .inl (fun _ => nI 0))), (q6, .inl (cI, 84, .inl (fun _ => nI 0))), (q7, .inl (cI, 84, .inl (fun _ => nI 0))), (q8, .inl (cI, 84, .inl (fun _ => nI 0))), (q9, .inl (cI, 84, .inl (fun _ => nI 0)))]) := hD
  refine lv_aload_n hx hb dX2_init_97 rfl (lv_at hl 0 rfl) ?_
  refine lv_bipush (v := nI 84) hx hb dX2_init_98 (by decide +kernel) ?_
  refine va_newI (cI := cI) (atype := .int) (ty := .int) (a0 := (84, .inl (fun _ => nI 0))) hx hb (hTB _ wa_int) rfl hK hP hD hS hA 0 rfl (fun _ => rfl) (by decide +kernel) (by decide +kernel) (by decide +kernel) (Nat.le_of_ble_eq_true rfl) (Nat.le_of_ble_eq_true rfl) dX2_init_100 (fun q10 H hP hD hS => ?_)
  refine W.widen (k := 10) (n := 532) (Nat.le_of_ble_eq_true rfl) (Nat.le_of_ble_eq_true rfl) ?_
  have hP : va_P D vwCl ([(h0, .inr (2, [.int (nI 0), .int (nI 0), .int (nI 10), .int (nI 0), .ref q1, .ref q2, .ref q3, .ref q4, .ref q5, .ref q6, .ref q7, .ref q8, .ref q9, .null, .null])), (q1, .inl (cI, 7, .inl (fun _ => nI 0))), (q2, .inl (cI, 7, .inl (fun _ => nI 0))), (q3, .inl (cI, 7, .inl (fun _ => nI 0))), (q4, .inl (cI, 7, .inl (fun _ => nI 0))), (q5, .inl (cI, 84, .inl (fun _ => nI 0))), (q6, .inl (cI, 84, .inl (fun _ => nI 0))), (q7, .inl (cI, 84, .inl (fun _ => nI 0))), (q8, .inl (cI, 84, .inl (fun _ => nI 0))), (q9, .inl (cI, 84, .inl (fun _ => nI 0))), (q10, .inl (cI, 84, .inl (fun _ => nI 0)))]) H := hP
  have hD : va_D A ([(h0, .inr (2, [.int (nI 0), .int (nI 0), .int (nI 10), .int (nI 0), .ref q1, .ref q2, .ref q3, .ref q4, .ref q5, .ref q6, .ref q7, .ref q8, .ref q9, .null, .null])), (q1, .inl (cI, 7, .inl (fun _ => nI 0))), (q2, .inl (cI, 7, .inl (fun _ => nI 0))), (q3, .inl (cI, 7, .inl (fun _ => nI 0))), (q4, .inl (cI, 7, .inl (fun _ => nI 0))), (q5, .inl (cI, 84, .inl (fun _ => nI 0))), (q6, .inl (cI, 84, .inl (fun _ => nI 0))), (q7, .inl (cI, 84, .inl (fun _ => nI 0))), (q8, .inl (cI, 84, .inl (fun _ => nI 0))), (q9, .inl (cI, 84, .inl (fun _ => nI 0))), (q10, .inl (cI, 84, .inl (fun _ => nI 0)))]) := hD
  refine va_putF (D := D) (ci := 2) (v := .ref q10) (ty := (.array .int)) (C := RX2) (T := TX2) (N := 15) hx hb hTB inT_X2 tyX2 tyX2_ok nmX2 hown hK hP hD hS 0 rfl rfl 13 (by decide) (hTB _ fl_X2_52) (fun _ h9 => h9) rfl hin rfl (by decide +kernel) rfl rfl (Nat.le_of_ble_eq_true rfl) dX2_init_102 (fun H locs hP hD hS => ?_)
  have hP : va_P D vwCl ([(h0, .inr (2, [.int (nI 0), .int (nI 0), .int (nI 10), .int (nI 0), .ref q1, .ref q2, .ref q3, .ref q4, .ref q5, .ref q6, .ref q7, .ref q8, .ref q9, .ref q10, .null])), (q1, .inl (cI, 7, .inl (fun _ => nI 0))), (q2, .inl (cI, 7, .inl (fun _ => nI 0))), (q3, .inl (cI, 7, .inl (fun _ => nI 0))), (q4, .inl (cI, 7, .inl (fun _ => nI 0))), (q5, .inl (cI, 84, .inl (fun _ => nI 0))), (q6, .inl (cI, 84, .inl (fun _ => nI 0))), (q7, .inl (cI, 84, .inl (fun _ => nI 0))), (q8, .inl (cI, 84, .inl (fun _ => nI 0))), (q9, .inl (cI, 84, .inl (fun _ => nI 0))), (q10, .inl (cI, 84, .inl (fun _ => nI 0)))]) H := hP
  have hD : va_D A ([(h0, .inr (2, [.int (nI 0), .int (nI 0), .int (nI 10), .int (nI 0), .ref q1, .ref q2, .ref q3, .ref q4, .ref q5, .ref q6, .ref q7, .ref q8, .ref q9, .ref q10, .null])), (q1, .inl (cI, 7, .inl (fun _ => nI 0))), (q2, .inl (cI, 7, .inl (fun _ => nI 0))), (q3, .inl (cI, 7, .inl (fun _ => nI 0))), (q4, .inl (cI, 7, .inl (fun _ => nI 0))), (q5, .inl (cI, 84, .inl (fun _ => nI 0))), (q6, .inl (cI, 84, .inl (fun _ => nI 0))), (q7, .inl (cI, 84, .inl (fun _ => nI 0))), (q8, .inl (cI, 84, .inl (fun _ => nI 0))), (q9, .inl (cI, 84, .inl (fun _ => nI 0))), (q10, .inl (cI, 84, .inl (fun _ => nI 0)))]) := hD
  refine lv_aload_n hx hb dX2_init_105 rfl (lv_at hl 0 rfl) ?_
  refine lv_bipush (v := nI 12) hx hb dX2_init_106 (by decide +kernel) ?_
  refine va_newI (cI := cI) (atype := .int) (ty := .int) (a0 := (12, .inl (fun _ => nI 0))) hx hb (hTB _ wa_int) rfl hK hP hD hS hA 0 rfl (fun _ => rfl) (by decide +kernel) (by decide +kernel) (by decide +kernel) (Nat.le_of_ble_eq_true rfl) (Nat.le_of_ble_eq_true rfl) dX2_init_108 (fun q11 H hP hD hS => ?_)
  refine W.widen (k := 11) (n := 544) (Nat.le_of_ble_eq_true rfl) (Nat.le_of_ble_eq_true rfl) ?_
  have hP : va_P D vwCl ([(h0, .inr (2, [.int (nI 0), .int (nI 0), .int (nI 10), .int (nI 0), .ref q1, .ref q2, .ref q3, .ref q4, .ref q5, .ref q6, .ref q7, .ref q8, .ref q9, .ref q10, .null])), (q1, .inl (cI, 7, .inl (fun _ => nI 0))), (q2, .inl (cI, 7, .inl (fun _ => nI 0))), (q3, .inl (cI, 7, .inl (fun _ => nI 0))), (q4, .inl (cI, 7, .inl (fun _ => nI 0))), (q5, .inl (cI, 84, .inl (fun _ => nI 0))), (q6, .inl (cI, 84, .inl (fun _ => nI 0))), (q7, .inl (cI, 84, .inl (fun _ => nI 0))), (q8, .inl (cI, 84, .inl (fun _ => nI 0))), (q9, .inl (cI, 84, .inl (fun _ => nI 0))), (q10, .inl (cI, 84, .inl (fun _ => nI 0))), (q11, .inl (cI, 12, .inl (fun _ => nI 0)))]) H := hP
  have hD : va_D A ([(h0, .inr (2, [.int (nI 0), .int (nI 0), .int (nI 10), .int (nI 0), .ref q1, .ref q2, .ref q3, .ref q4, .ref q5, .ref q6, .ref q7, .ref q8, .ref q9, .ref q10, .null])), (q1, .inl (cI, 7, .inl (fun _ => nI 0))), (q2, .inl (cI, 7, .inl (fun _ => nI 0))), (q3, .inl (cI, 7, .inl (fun _ => nI 0))), (q4, .inl (cI, 7, .inl (fun _ => nI 0))), (q5, .inl (cI, 84, .inl (fun _ => nI 0))), (q6, .inl (cI, 84, .inl (fun _ => nI 0))), (q7, .inl (cI, 84, .inl (fun _ => nI 0))), (q8, .inl (cI, 84, .inl (fun _ => nI 0))), (q9, .inl (cI, 84, .inl (fun _ => nI 0))), (q10, .inl (cI, 84, .inl (fun _ => nI 0))), (q11, .inl (cI, 12, .inl (fun _ => nI 0)))]) := hD
  refine va_putF (D := D) (ci := 2) (v := .ref q11) (ty := (.array .int)) (C := RX2) (T := TX2) (N := 15) hx hb hTB inT_X2 tyX2 tyX2_ok nmX2 hown hK hP hD hS 0 rfl rfl 14 (by decide) (hTB _ fl_X2_55) (fun _ h9 => h9) rfl hin rfl (by decide +kernel) rfl rfl (Nat.le_of_ble_eq_true rfl) dX2_init_110 (fun H locs hP hD hS => ?_)
  have hP : va_P D vwCl ([(h0, .inr (2, [.int (nI 0), .int (nI 0), .int (nI 10), .int (nI 0), .ref q1, .ref q2, .ref q3, .ref q4, .ref q5, .ref q6, .ref q7, .ref q8, .ref q9, .ref q10, .ref q11])), (q1, .inl (cI, 7, .inl (fun _ => nI 0))), (q2, .inl (cI, 7, .inl (fun _ => nI 0))), (q3, .inl (cI, 7, .inl (fun _ => nI 0))), (q4, .inl (cI, 7, .inl (fun _ => nI 0))), (q5, .inl (cI, 84, .inl (fun _ => nI 0))), (q6, .inl (cI, 84, .inl (fun _ => nI 0))), (q7, .inl (cI, 84, .inl (fun _ => nI 0))), (q8, .inl (cI, 84, .inl (fun _ => nI 0))), (q9, .inl (cI, 84, .inl (fun _ => nI 0))), (q10, .inl (cI, 84, .inl (fun _ => nI 0))), (q11, .inl (cI, 12, .inl (fun _ => nI 0)))]) H := hP
  have hD : va_D A ([(h0, .inr (2, [.int (nI 0), .int (nI 0), .int (nI 10), .int (nI 0), .ref q1, .ref q2, .ref q3, .ref q4, .ref q5, .ref q6, .ref q7, .ref q8, .ref q9, .ref q10, .ref q11])), (q1, .inl (cI, 7, .inl (fun _ => nI 0))), (q2, .inl (cI, 7, .inl (fun _ => nI 0))), (q3, .inl (cI, 7, .inl (fun _ => nI 0))), (q4, .inl (cI, 7, .inl (fun _ => nI 0))), (q5, .inl (cI, 84, .inl (fun _ => nI 0))), (q6, .inl (cI, 84, .inl (fun _ => nI 0))), (q7, .inl (cI, 84, .inl (fun _ => nI 0))), (q8, .inl (cI, 84, .inl (fun _ => nI 0))), (q9, .inl (cI, 84, .inl (fun _ => nI 0))), (q10, .inl (cI, 84, .inl (fun _ => nI 0))), (q11, .inl (cI, 12, .inl (fun _ => nI 0)))]) := hD
  have hu : ∃ u : Nat → Nat, [(h0, .inr (2, [.int (nI 0), .int (nI 0), .int (nI 10), .int (nI 0), .ref q1, .ref q2, .ref q3, .ref q4, .ref q5, .ref q6, .ref q7, .ref q8, .ref q9, .ref q10, .ref q11])), (q1, .inl (cI, 7, .inl (fun _ => nI 0))), (q2, .inl (cI, 7, .inl (fun _ => nI 0))), (q3, .inl (cI, 7, .inl (fun _ => nI 0))), (q4, .inl (cI, 7, .inl (fun _ => nI 0))), (q5, .inl (cI, 84, .inl (fun _ => nI 0))), (q6, .inl (cI, 84, .inl (fun _ => nI 0))), (q7, .inl (cI, 84, .inl (fun _ => nI 0))), (q8, .inl (cI, 84, .inl (fun _ => nI 0))), (q9, .inl (cI, 84, .inl (fun _ => nI 0))), (q10, .inl (cI, 84, .inl (fun _ => nI 0))), (q11, .inl (cI, 12, .inl (fun _ => nI 0)))] = vC cI h0 u := ⟨fun k => [h0, q1, q2, q3, q4, q5, q6, q7, q8, q9, q10, q11].getD k 0, rfl⟩
  obtain ⟨u, hu⟩ := hu
  rw [hu] at hP hD
  exact W.vret hx hb hr (fun t ht hW => ⟨⟨u, rfl, trivial, by rw [ht]; exact hP, by rw [hAe]; exact hD⟩, by rw [hAe]; exact hS.F ht⟩) hS.2.2 dX2_init_113
abbrev rm_X1_init : Room := { frames := 1, cells := 2, slots := 63, locals := 12 }
set_option maxHeartbeats 4000000 in
set_option maxRecDepth 100000 in
theorem ki_X1 (l : Launch) (D : va_G) (cI cC cO : ClassId) (h0 sz : Nat) : Met l yX1_init (.code yX1_init cX1_init 1 none :: TB) rm_X1_init (va_Pc [.ref h0] (IP D cI cC cO sz (h0, .inr (1, oZ)))) (QP (S := Nat → Nat) D (fun u => oC cI cC h0 u) (fun _ => True) (h0, .inr (1, oZ)) sz) 2 63 (va_A [(h0, .inr (1, oZ))] sz) := by
  refine Met.ofW (cc := cX1_init) (maxL := 1) (ret := none) (by decide +kernel) rfl ?_
  intro p e s m args below meth c s₁ B hml hv
  obtain ⟨rfl, hsz, hP, hK, hD0, hN, hO⟩ := hv
  have hx := B.exec
  have hb := B.bytes
  have hr := B.returns
  have hts := atoms_spec (ws := Cond.code yX1_init cX1_init 1 none :: TB) B.pre
  have hTB : ∀ w ∈ TB, w.before ([.ref h0] : List Value).toArray s = true := fun w hw => hts w (List.mem_cons_of_mem _ hw)
  have hown : s.vm.findClass RX1 = some m.cls := findClass_of_methodNamed B.named
  have hlocks := B.notSynchronized
  have hin : meth.name = "<init>" := (name_of_methodNamed B.named B.method).1
  subst hsz
  have hD := hD0.self (sz := s.heap.size)
  generalize hAe : va_A [(h0, .inr (1, oZ))] s.heap.size = A at hD ⊢
  have hA : ∀ q : Nat, s.heap.size ≤ q → A q := fun q h => by rw [← hAe]; exact Or.inr h
  have hS : va_S A s.heap s.heap [] := va_S.rf
  have hP : va_P D vwCl [(h0, .inr (1, [.null, .int (nI 0), .null, .int (nI 0), .int (nI 0), .int (nI 0)]))] s.heap := hP
  have hD : va_D A [(h0, .inr (1, [.null, .int (nI 0), .null, .int (nI 0), .int (nI 0), .int (nI 0)]))] := hD
  have hl := lv_entry ([.ref h0]) (n := 1) (Nat.le_of_ble_eq_true rfl)
  rw [lg_entry_eq]
  generalize (lg_sl ([.ref h0]) ++ List.replicate (1 - (lg_sl ([.ref h0])).length) Slot.unset).toArray = ls at hl ⊢
  have hl : lv_has ls 1 [(0, .ref h0)] := hl
  refine lv_aload_n hx hb dX1_init_0 rfl (lv_at hl 0 rfl) ?_
  refine W.objInit hx hb hown (hTB _ ml_X1_3) (hTB _ wm_obj) (hTB _ wc_obj) rfl (by rw [hml]; exact hl.1) rfl dX1_init_1 (Nat.le_of_ble_eq_true rfl) (Nat.le_of_ble_eq_true rfl) ?_
  refine W.eq (g2 := F0 m 4 ls []) rfl ?_
  refine lv_aload_n hx hb dX1_init_4 rfl (lv_at hl 0 rfl) ?_
  refine lv_bipush (v := nI 60) hx hb dX1_init_5 (by decide +kernel) ?_
  refine va_newI (cI := cC) (atype := .char) (ty := .char) (a0 := (60, .inl (fun _ => nI 0))) hx hb (hTB _ wa_char) rfl hK hP hD hS hA 1 rfl (fun _ => rfl) (by decide +kernel) (by decide +kernel) (by decide +kernel) (Nat.le_of_ble_eq_true rfl) (Nat.le_of_ble_eq_true rfl) dX1_init_7 (fun q1 H hP hD hS => ?_)
  refine W.widen (k := 1) (n := 60) (Nat.le_of_ble_eq_true rfl) (Nat.le_of_ble_eq_true rfl) ?_
  have hP : va_P D vwCl ([(h0, .inr (1, [.null, .int (nI 0), .null, .int (nI 0), .int (nI 0), .int (nI 0)])), (q1, .inl (cC, 60, .inl (fun _ => nI 0)))]) H := hP
  have hD : va_D A ([(h0, .inr (1, [.null, .int (nI 0), .null, .int (nI 0), .int (nI 0), .int (nI 0)])), (q1, .inl (cC, 60, .inl (fun _ => nI 0)))]) := hD
  refine va_putF (D := D) (ci := 1) (v := .ref q1) (ty := (.array .char)) (C := RX1) (T := TX1) (N := 6) hx hb hTB inT_X1 tyX1 tyX1_ok nmX1 hown hK hP hD hS 0 rfl rfl 0 (by decide) (hTB _ fl_X1_9) (fun _ h9 => h9) rfl hin rfl (by decide +kernel) rfl rfl (Nat.le_of_ble_eq_true rfl) dX1_init_9 (fun H locs hP hD hS => ?_)
  have hP : va_P D vwCl ([(h0, .inr (1, [.ref q1, .int (nI 0), .null, .int (nI 0), .int (nI 0), .int (nI 0)])), (q1, .inl (cC, 60, .inl (fun _ => nI 0)))]) H := hP
  have hD : va_D A ([(h0, .inr (1, [.ref q1, .int (nI 0), .null, .int (nI 0), .int (nI 0), .int (nI 0)])), (q1, .inl (cC, 60, .inl (fun _ => nI 0)))]) := hD
  refine lv_aload_n hx hb dX1_init_12 rfl (lv_at hl 0 rfl) ?_
  refine lv_iconst (v := nI 0) hx hb dX1_init_13 (by decide) ?_
  refine va_put (D := D) (ci := 1) (v := .int (nI 0)) (ty := .int) (C := RX1) (T := TX1) (N := 6) hx hb hTB inT_X1 tyX1 tyX1_ok nmX1 hown hK hP hD hS 0 rfl rfl 1 (by decide) (hTB _ fl_X1_15) (fun _ h9 => h9) rfl (by decide +kernel) rfl rfl (Nat.le_of_ble_eq_true rfl) dX1_init_14 (fun H locs hP hD hS => ?_)
  have hP : va_P D vwCl ([(h0, .inr (1, [.ref q1, .int (nI 0), .null, .int (nI 0), .int (nI 0), .int (nI 0)])), (q1, .inl (cC, 60, .inl (fun _ => nI 0)))]) H := hP
  have hD : va_D A ([(h0, .inr (1, [.ref q1, .int (nI 0), .null, .int (nI 0), .int (nI 0), .int (nI 0)])), (q1, .inl (cC, 60, .inl (fun _ => nI 0)))]) := hD
  refine lv_aload_n hx hb dX1_init_17 rfl (lv_at hl 0 rfl) ?_
  refine lv_iconst (v := nI 3) hx hb dX1_init_18 (by decide) ?_
  refine va_newI (cI := cI) (atype := .int) (ty := .int) (a0 := (3, .inl (fun _ => nI 0))) hx hb (hTB _ wa_int) rfl hK hP hD hS hA 0 rfl (fun _ => rfl) (by decide +kernel) (by decide +kernel) (by decide +kernel) (Nat.le_of_ble_eq_true rfl) (Nat.le_of_ble_eq_true rfl) dX1_init_19 (fun q2 H hP hD hS => ?_)
  refine W.widen (k := 2) (n := 63) (Nat.le_of_ble_eq_true rfl) (Nat.le_of_ble_eq_true rfl) ?_
  have hP : va_P D vwCl ([(h0, .inr (1, [.ref q1, .int (nI 0), .null, .int (nI 0), .int (nI 0), .int (nI 0)])), (q1, .inl (cC, 60, .inl (fun _ => nI 0))), (q2, .inl (cI, 3, .inl (fun _ => nI 0)))]) H := hP
  have hD : va_D A ([(h0, .inr (1, [.ref q1, .int (nI 0), .null, .int (nI 0), .int (nI 0), .int (nI 0)])), (q1, .inl (cC, 60, .inl (fun _ => nI 0))), (q2, .inl (cI, 3, .inl (fun _ => nI 0)))]) := hD
  refine va_putF (D := D) (ci := 1) (v := .ref q2) (ty := (.array .int)) (C := RX1) (T := TX1) (N := 6) hx hb hTB inT_X1 tyX1 tyX1_ok nmX1 hown hK hP hD hS 0 rfl rfl 2 (by decide) (hTB _ fl_X1_19) (fun _ h9 => h9) rfl hin rfl (by decide +kernel) rfl rfl (Nat.le_of_ble_eq_true rfl) dX1_init_21 (fun H locs hP hD hS => ?_)
  have hP : va_P D vwCl ([(h0, .inr (1, [.ref q1, .int (nI 0), .ref q2, .int (nI 0), .int (nI 0), .int (nI 0)])), (q1, .inl (cC, 60, .inl (fun _ => nI 0))), (q2, .inl (cI, 3, .inl (fun _ => nI 0)))]) H := hP
  have hD : va_D A ([(h0, .inr (1, [.ref q1, .int (nI 0), .ref q2, .int (nI 0), .int (nI 0), .int (nI 0)])), (q1, .inl (cC, 60, .inl (fun _ => nI 0))), (q2, .inl (cI, 3, .inl (fun _ => nI 0)))]) := hD
  refine lv_aload_n hx hb dX1_init_24 rfl (lv_at hl 0 rfl) ?_
  refine lv_iconst (v := nI 0) hx hb dX1_init_25 (by decide) ?_
  refine va_put (D := D) (ci := 1) (v := .int (nI 0)) (ty := .int) (C := RX1) (T := TX1) (N := 6) hx hb hTB inT_X1 tyX1 tyX1_ok nmX1 hown hK hP hD hS 0 rfl rfl 3 (by decide) (hTB _ fl_X1_23) (fun _ h9 => h9) rfl (by decide +kernel) rfl rfl (Nat.le_of_ble_eq_true rfl) dX1_init_26 (fun H locs hP hD hS => ?_)
  have hP : va_P D vwCl ([(h0, .inr (1, [.ref q1, .int (nI 0), .ref q2, .int (nI 0), .int (nI 0), .int (nI 0)])), (q1, .inl (cC, 60, .inl (fun _ => nI 0))), (q2, .inl (cI, 3, .inl (fun _ => nI 0)))]) H := hP
  have hD : va_D A ([(h0, .inr (1, [.ref q1, .int (nI 0), .ref q2, .int (nI 0), .int (nI 0), .int (nI 0)])), (q1, .inl (cC, 60, .inl (fun _ => nI 0))), (q2, .inl (cI, 3, .inl (fun _ => nI 0)))]) := hD
  refine lv_aload_n hx hb dX1_init_29 rfl (lv_at hl 0 rfl) ?_
  refine lv_iconst (v := nI 0) hx hb dX1_init_30 (by decide) ?_
  refine va_put (D := D) (ci := 1) (v := .int (nI 0)) (ty := .int) (C := RX1) (T := TX1) (N := 6) hx hb hTB inT_X1 tyX1 tyX1_ok nmX1 hown hK hP hD hS 0 rfl rfl 4 (by decide) (hTB _ fl_X1_26) (fun _ h9 => h9) rfl (by decide +kernel) rfl rfl (Nat.le_of_ble_eq_true rfl) dX1_init_31 (fun H locs hP hD hS => ?_)
  have hP : va_P D vwCl ([(h0, .inr (1, [.ref q1, .int (nI 0), .ref q2, .int (nI 0), .int (nI 0), .int (nI 0)])), (q1, .inl (cC, 60, .inl (fun _ => nI 0))), (q2, .inl (cI, 3, .inl (fun _ => nI 0)))]) H := hP
  have hD : va_D A ([(h0, .inr (1, [.ref q1, .int (nI 0), .ref q2, .int (nI 0), .int (nI 0), .int (nI 0)])), (q1, .inl (cC, 60, .inl (fun _ => nI 0))), (q2, .inl (cI, 3, .inl (fun _ => nI 0)))]) := hD
  refine lv_aload_n hx hb dX1_init_34 rfl (lv_at hl 0 rfl) ?_
  refine lv_iconst (v := nI 0) hx hb dX1_init_35 (by decide) ?_
  refine va_put (D := D) (ci := 1) (v := .int (nI 0)) (ty := .int) (C := RX1) (T := TX1) (N := 6) hx hb hTB inT_X1 tyX1 tyX1_ok nmX1 hown hK hP hD hS 0 rfl rfl 5 (by decide) (hTB _ fl_X1_29) (fun _ h9 => h9) rfl (by decide +kernel) rfl rfl (Nat.le_of_ble_eq_true rfl) dX1_init_36 (fun H locs hP hD hS => ?_)
  have hP : va_P D vwCl ([(h0, .inr (1, [.ref q1, .int (nI 0), .ref q2, .int (nI 0), .int (nI 0), .int (nI 0)])), (q1, .inl (cC, 60, .inl (fun _ => nI 0))), (q2, .inl (cI, 3, .inl (fun _ => nI 0)))]) H := hP
  have hD : va_D A ([(h0, .inr (1, [.ref q1, .int (nI 0), .ref q2, .int (nI 0), .int (nI 0), .int (nI 0)])), (q1, .inl (cC, 60, .inl (fun _ => nI 0))), (q2, .inl (cI, 3, .inl (fun _ => nI 0)))]) := hD
  have hu : ∃ u : Nat → Nat, [(h0, .inr (1, [.ref q1, .int (nI 0), .ref q2, .int (nI 0), .int (nI 0), .int (nI 0)])), (q1, .inl (cC, 60, .inl (fun _ => nI 0))), (q2, .inl (cI, 3, .inl (fun _ => nI 0)))] = oC cI cC h0 u := ⟨fun k => [h0, q1, q2].getD k 0, rfl⟩
  obtain ⟨u, hu⟩ := hu
  rw [hu] at hP hD
  exact W.vret hx hb hr (fun t ht hW => ⟨⟨u, rfl, trivial, by rw [ht]; exact hP, by rw [hAe]; exact hD⟩, by rw [hAe]; exact hS.F ht⟩) hS.2.2 dX1_init_39
