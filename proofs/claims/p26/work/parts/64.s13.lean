abbrev rm_X0_init : Room := { frames := 2, cells := 61, slots := 2800, locals := 32 }
set_option maxHeartbeats 4000000 in
set_option maxRecDepth 100000 in
theorem ki_X0 (l : Launch) (D : va_G) (cI cC cO : ClassId) (h0 sz : Nat) : Met l yX0_init (.code yX0_init cX0_init 2 none :: TB) rm_X0_init (va_Pc [.ref h0] (IP D cI cC cO sz (h0, .inr (0, hZ)))) (QP (S := (Nat → Nat → Nat) × (Nat → Option Nat)) D (fun u => hC cI cO h0 u.1 u.2) (fun u => ∀ i, i < 5 → u.2 i = some (u.1 i 0)) (h0, .inr (0, hZ)) sz) 61 2800 (va_A [(h0, .inr (0, hZ))] sz) := by
  refine Met.ofW (cc := cX0_init) (maxL := 2) (ret := none) (by decide +kernel) rfl ?_
  intro p e s m args below meth c s₁ B hml hv
  obtain ⟨rfl, hsz, hP, hK, hD0, hN, hO⟩ := hv
  have hx := B.exec
  have hb := B.bytes
  have hr := B.returns
  have hts := atoms_spec (ws := Cond.code yX0_init cX0_init 2 none :: TB) B.pre
  have hTB : ∀ w ∈ TB, w.before ([.ref h0] : List Value).toArray s = true := fun w hw => hts w (List.mem_cons_of_mem _ hw)
  have hown : s.vm.findClass RX0 = some m.cls := findClass_of_methodNamed B.named
  have hlocks := B.notSynchronized
  have hin : meth.name = "<init>" := (name_of_methodNamed B.named B.method).1
  subst hsz
  have hD := hD0.self (sz := s.heap.size)
  generalize hAe : va_A [(h0, .inr (0, hZ))] s.heap.size = A at hD ⊢
  have hA : ∀ q : Nat, s.heap.size ≤ q → A q := fun q h => by rw [← hAe]; exact Or.inr h
  have hS : va_S A s.heap s.heap [] := va_S.rf
  have hP : va_P D vwCl [(h0, .inr (0, [.null, .int (nI 0)]))] s.heap := hP
  have hD : va_D A [(h0, .inr (0, [.null, .int (nI 0)]))] := hD
  have hl := lv_entry ([.ref h0]) (n := 2) (Nat.le_of_ble_eq_true rfl)
  rw [lg_entry_eq]
  generalize (lg_sl ([.ref h0]) ++ List.replicate (2 - (lg_sl ([.ref h0])).length) Slot.unset).toArray = ls at hl ⊢
  have hl : lv_has ls 2 [(0, .ref h0)] := hl
  refine lv_aload_n hx hb dX0_init_0 rfl (lv_at hl 0 rfl) ?_
  refine W.objInit hx hb hown (hTB _ ml_X0_3) (hTB _ wm_obj) (hTB _ wc_obj) rfl (by rw [hml]; exact hl.1) rfl dX0_init_1 (Nat.le_of_ble_eq_true rfl) (Nat.le_of_ble_eq_true rfl) ?_
  refine W.eq (g2 := F0 m 4 ls []) rfl ?_
  refine lv_aload_n hx hb dX0_init_4 rfl (lv_at hl 0 rfl) ?_
  refine lv_iconst (v := nI 5) hx hb dX0_init_5 (by decide) ?_
  refine va_newq (C := RX2) hx hb hown (hTB _ wl_X0_9) hO hK hP hD hS hA (N' := 5) (by decide +kernel) (by decide +kernel) (by decide +kernel) (Nat.le_of_ble_eq_true rfl) (Nat.le_of_ble_eq_true rfl) dX0_init_6 (fun q1 cA H hK2 hP hD hS => ?_)
  obtain rfl : cA = cO := tys_eq hK2 (i := 3) (j := 2) (ty := .object RX2) rfl rfl
  refine W.widen (k := 1) (n := 5) (Nat.le_of_ble_eq_true rfl) (Nat.le_of_ble_eq_true rfl) ?_
  have hP : va_P D vwCl ([(h0, .inr (0, [.null, .int (nI 0)])), (q1, .inl (cA, 5, .inr (.inr (.inr (.inr (fun _ => none))))))]) H := hP
  have hD : va_D A ([(h0, .inr (0, [.null, .int (nI 0)])), (q1, .inl (cA, 5, .inr (.inr (.inr (.inr (fun _ => none))))))]) := hD
  refine va_putF (D := D) (ci := 0) (v := .ref q1) (ty := (.array (.object RX2))) (C := RX0) (T := TX0) (N := 2) hx hb hTB inT_X0 tyX0 tyX0_ok nmX0 hown hK hP hD hS 0 rfl rfl 0 (by decide) (hTB _ fl_X0_11) (fun _ h9 => h9) rfl hin rfl (by decide +kernel) rfl rfl (Nat.le_of_ble_eq_true rfl) dX0_init_9 (fun H locs hP hD hS => ?_)
  have hP : va_P D vwCl ([(h0, .inr (0, [.ref q1, .int (nI 0)])), (q1, .inl (cA, 5, .inr (.inr (.inr (.inr (fun _ => none))))))]) H := hP
  have hD : va_D A ([(h0, .inr (0, [.ref q1, .int (nI 0)])), (q1, .inl (cA, 5, .inr (.inr (.inr (.inr (fun _ => none))))))]) := hD
  refine lv_aload_n hx hb dX0_init_12 rfl (lv_at hl 0 rfl) ?_
  refine lv_iconst (v := nI 0) hx hb dX0_init_13 (by decide) ?_
  refine va_put (D := D) (ci := 0) (v := .int (nI 0)) (ty := .int) (C := RX0) (T := TX0) (N := 2) hx hb hTB inT_X0 tyX0 tyX0_ok nmX0 hown hK hP hD hS 0 rfl rfl 1 (by decide) (hTB _ fl_X0_17) (fun _ h9 => h9) rfl (by decide +kernel) rfl rfl (Nat.le_of_ble_eq_true rfl) dX0_init_14 (fun H locs hP hD hS => ?_)
  have hP : va_P D vwCl ([(h0, .inr (0, [.ref q1, .int (nI 0)])), (q1, .inl (cA, 5, .inr (.inr (.inr (.inr (fun _ => none))))))]) H := hP
  have hD : va_D A ([(h0, .inr (0, [.ref q1, .int (nI 0)])), (q1, .inl (cA, 5, .inr (.inr (.inr (.inr (fun _ => none))))))]) := hD
  refine lv_iconst (v := nI 0) hx hb dX0_init_17 (by decide) ?_
  refine lv_istore_n (lv' := [(1, .int (nI 0)), (0, .ref h0)]) hx hb dX0_init_18 rfl hl (by decide) rfl (fun ls hl => ?_)
  refine lv_iload_n hx hb dX0_init_19 rfl (lv_at hl 0 rfl) ?_
  refine lv_aload_n hx hb dX0_init_20 rfl (lv_at hl 1 rfl) ?_
  refine va_get (D := D) (ci := 0) (v := .ref q1) (C := RX0) (T := TX0) (N := 2) hx hb hTB inT_X0 hown hK hP 0 rfl rfl 0 (by decide) (hTB _ fl_X0_11) (fun _ h9 => h9) rfl dX0_init_21 ?_
  refine va_alen (v := nI 5) hx hb hK hP 1 2 rfl rfl rfl dX0_init_24 ?_
  refine lv_icmp_ge (tgt := 47) hx hb dX0_init_25 (by decide) (fun c9 => absurd c9 (by decide)) (fun _ => ?_)
  refine lv_aload_n hx hb dX0_init_28 rfl (lv_at hl 1 rfl) ?_
  refine va_get (D := D) (ci := 0) (v := .ref q1) (C := RX0) (T := TX0) (N := 2) hx hb hTB inT_X0 hown hK hP 0 rfl rfl 0 (by decide) (hTB _ fl_X0_11) (fun _ h9 => h9) rfl dX0_init_29 ?_
  refine lv_iload_n hx hb dX0_init_32 rfl (lv_at hl 0 rfl) ?_
  refine va_new (ci := 2) (fs := vZ) (C := RX2) (T := TX2) (N := 15) hx hb hTB inT_X2 tyX2 tyX2_ok hown (hTB _ wl_X0_9) (hTB _ wi_X2) (hTB _ ini_X2) hK hP hD hS hA rfl dv_X2 (Nat.le_of_ble_eq_true rfl) (Nat.le_of_ble_eq_true rfl) dX0_init_33 (fun q2 H hP hD hS => ?_)
  refine W.widen (k := 2) (n := 20) (Nat.le_of_ble_eq_true rfl) (Nat.le_of_ble_eq_true rfl) ?_
  refine lv_dup hx hb dX0_init_36 rfl ?_
  have hrun := va_runIN (As := []) (rest := [.ref q2, .int (nI 0), .ref q1]) (g := F0 m 37 ls (.ref q2 :: [.ref q2, .int (nI 0), .ref q1])) (p := p) (e := e) (s := s) (m := m) (below := below) (meth := meth) (c := c) (H := H) (cells := 2) (slots := 20) (R := rm_X0_init) (locs := locs) ⟨hx, hb, hml, hown, hts⟩ (ki_X2 l D cI cC cA q2 H.size) ⟨⟨⟨rfl, rfl, by decide, by decide, ct_ws hTB wc_X2, List.mem_cons_self⟩, hTB _ wc_X2, hTB _ ini_X2, ⟨by decide +kernel, by decide +kernel⟩, fun sig hs => by have h9 : (parseMethodDescriptor yX2_init.desc).map (fun d => d.parameters.length) = some 0 := (by decide +kernel); rw [hs] at h9; exact (Option.some.inj h9).symm, va_Nw.use rfl (hN _ mn_X0_21)⟩, rfl, hTB _ wm_X2⟩ ⟨ip_blind, ip_pre hP hK hN hO⟩ rfl rfl hl.1 rfl (lv_room (Nat.le_of_ble_eq_true rfl)) dX0_init_37 ⟨Nat.le_of_ble_eq_true rfl, Nat.le_of_ble_eq_true rfl⟩
  refine ic_back hrun hP hD hS hA (fun u2 H locs hu2 hP hD hS => ?_)
  refine W.widen (k := 13) (n := 564) (Nat.le_of_ble_eq_true rfl) (Nat.le_of_ble_eq_true rfl) ?_
  have hP : va_P D vwCl ([(h0, .inr (0, [.ref q1, .int (nI 0)])), (q1, .inl (cA, 5, .inr (.inr (.inr (.inr (fun _ => none))))))] ++ vC cI q2 u2) H := hP
  have hD : va_D A ([(h0, .inr (0, [.ref q1, .int (nI 0)])), (q1, .inl (cA, 5, .inr (.inr (.inr (.inr (fun _ => none))))))] ++ vC cI q2 u2) := hD
  refine va_astq hx hb hK hP hD hS 1 2 2 2 rfl rfl rfl rfl (vp_in_nI (by decide) (by decide)) dX0_init_40 (fun H locs hP hD hS => ?_)
  have hP : va_P D vwCl ([(h0, .inr (0, [.ref q1, .int (nI 0)])), (q1, .inl (cA, 5, .inr (.inr (.inr (.inr (va_up (fun _ => none) (nI 0).toNatClampNeg (some q2)))))))] ++ vC cI q2 u2) H := hP
  have hD : va_D A ([(h0, .inr (0, [.ref q1, .int (nI 0)])), (q1, .inl (cA, 5, .inr (.inr (.inr (.inr (va_up (fun _ => none) (nI 0).toNatClampNeg (some q2)))))))] ++ vC cI q2 u2) := hD
  refine lv_iinc (v := nI 1) (lv' := [(1, .int (nI 1)), (0, .ref h0)]) hx hb dX0_init_41 hl (k := 0) rfl (by decide) (by decide) rfl (fun ls hl => ?_)
  refine lv_goto (tgt := 19) hx hb dX0_init_44 (by decide) ?_
  refine lv_iload_n hx hb dX0_init_19 rfl (lv_at hl 0 rfl) ?_
  refine lv_aload_n hx hb dX0_init_20 rfl (lv_at hl 1 rfl) ?_
  refine va_get (D := D) (ci := 0) (v := .ref q1) (C := RX0) (T := TX0) (N := 2) hx hb hTB inT_X0 hown hK hP 0 rfl rfl 0 (by decide) (hTB _ fl_X0_11) (fun _ h9 => h9) rfl dX0_init_21 ?_
  refine va_alen (v := nI 5) hx hb hK hP 1 2 rfl rfl rfl dX0_init_24 ?_
  refine lv_icmp_ge (tgt := 47) hx hb dX0_init_25 (by decide) (fun c9 => absurd c9 (by decide)) (fun _ => ?_)
  refine lv_aload_n hx hb dX0_init_28 rfl (lv_at hl 1 rfl) ?_
  refine va_get (D := D) (ci := 0) (v := .ref q1) (C := RX0) (T := TX0) (N := 2) hx hb hTB inT_X0 hown hK hP 0 rfl rfl 0 (by decide) (hTB _ fl_X0_11) (fun _ h9 => h9) rfl dX0_init_29 ?_
  refine lv_iload_n hx hb dX0_init_32 rfl (lv_at hl 0 rfl) ?_
  refine va_new (ci := 2) (fs := vZ) (C := RX2) (T := TX2) (N := 15) hx hb hTB inT_X2 tyX2 tyX2_ok hown (hTB _ wl_X0_9) (hTB _ wi_X2) (hTB _ ini_X2) hK hP hD hS hA rfl dv_X2 (Nat.le_of_ble_eq_true rfl) (Nat.le_of_ble_eq_true rfl) dX0_init_33 (fun q3 H hP hD hS => ?_)
  refine W.widen (k := 14) (n := 579) (Nat.le_of_ble_eq_true rfl) (Nat.le_of_ble_eq_true rfl) ?_
  refine lv_dup hx hb dX0_init_36 rfl ?_
  have hrun := va_runIN (As := []) (rest := [.ref q3, .int (nI 1), .ref q1]) (g := F0 m 37 ls (.ref q3 :: [.ref q3, .int (nI 1), .ref q1])) (p := p) (e := e) (s := s) (m := m) (below := below) (meth := meth) (c := c) (H := H) (cells := 14) (slots := 579) (R := rm_X0_init) (locs := locs) ⟨hx, hb, hml, hown, hts⟩ (ki_X2 l D cI cC cA q3 H.size) ⟨⟨⟨rfl, rfl, by decide, by decide, ct_ws hTB wc_X2, List.mem_cons_self⟩, hTB _ wc_X2, hTB _ ini_X2, ⟨by decide +kernel, by decide +kernel⟩, fun sig hs => by have h9 : (parseMethodDescriptor yX2_init.desc).map (fun d => d.parameters.length) = some 0 := (by decide +kernel); rw [hs] at h9; exact (Option.some.inj h9).symm, va_Nw.use rfl (hN _ mn_X0_21)⟩, rfl, hTB _ wm_X2⟩ ⟨ip_blind, ip_pre hP hK hN hO⟩ rfl rfl hl.1 rfl (lv_room (Nat.le_of_ble_eq_true rfl)) dX0_init_37 ⟨Nat.le_of_ble_eq_true rfl, Nat.le_of_ble_eq_true rfl⟩
  refine ic_back hrun hP hD hS hA (fun u3 H locs hu3 hP hD hS => ?_)
  refine W.widen (k := 25) (n := 1123) (Nat.le_of_ble_eq_true rfl) (Nat.le_of_ble_eq_true rfl) ?_
  have hP : va_P D vwCl ([(h0, .inr (0, [.ref q1, .int (nI 0)])), (q1, .inl (cA, 5, .inr (.inr (.inr (.inr (va_up (fun _ => none) (nI 0).toNatClampNeg (some q2)))))))] ++ vC cI q2 u2 ++ vC cI q3 u3) H := hP
  have hD : va_D A ([(h0, .inr (0, [.ref q1, .int (nI 0)])), (q1, .inl (cA, 5, .inr (.inr (.inr (.inr (va_up (fun _ => none) (nI 0).toNatClampNeg (some q2)))))))] ++ vC cI q2 u2 ++ vC cI q3 u3) := hD
  refine va_astq hx hb hK hP hD hS 1 2 14 2 rfl rfl rfl rfl (vp_in_nI (by decide) (by decide)) dX0_init_40 (fun H locs hP hD hS => ?_)
  have hP : va_P D vwCl ([(h0, .inr (0, [.ref q1, .int (nI 0)])), (q1, .inl (cA, 5, .inr (.inr (.inr (.inr (va_up (va_up (fun _ => none) (nI 0).toNatClampNeg (some q2)) (nI 1).toNatClampNeg (some q3)))))))] ++ vC cI q2 u2 ++ vC cI q3 u3) H := hP
  have hD : va_D A ([(h0, .inr (0, [.ref q1, .int (nI 0)])), (q1, .inl (cA, 5, .inr (.inr (.inr (.inr (va_up (va_up (fun _ => none) (nI 0).toNatClampNeg (some q2)) (nI 1).toNatClampNeg (some q3)))))))] ++ vC cI q2 u2 ++ vC cI q3 u3) := hD
  refine lv_iinc (v := nI 2) (lv' := [(1, .int (nI 2)), (0, .ref h0)]) hx hb dX0_init_41 hl (k := 0) rfl (by decide) (by decide) rfl (fun ls hl => ?_)
  refine lv_goto (tgt := 19) hx hb dX0_init_44 (by decide) ?_
  refine lv_iload_n hx hb dX0_init_19 rfl (lv_at hl 0 rfl) ?_
  refine lv_aload_n hx hb dX0_init_20 rfl (lv_at hl 1 rfl) ?_
  refine va_get (D := D) (ci := 0) (v := .ref q1) (C := RX0) (T := TX0) (N := 2) hx hb hTB inT_X0 hown hK hP 0 rfl rfl 0 (by decide) (hTB _ fl_X0_11) (fun _ h9 => h9) rfl dX0_init_21 ?_
  refine va_alen (v := nI 5) hx hb hK hP 1 2 rfl rfl rfl dX0_init_24 ?_
  refine lv_icmp_ge (tgt := 47) hx hb dX0_init_25 (by decide) (fun c9 => absurd c9 (by decide)) (fun _ => ?_)
  refine lv_aload_n hx hb dX0_init_28 rfl (lv_at hl 1 rfl) ?_
  refine va_get (D := D) (ci := 0) (v := .ref q1) (C := RX0) (T := TX0) (N := 2) hx hb hTB inT_X0 hown hK hP 0 rfl rfl 0 (by decide) (hTB _ fl_X0_11) (fun _ h9 => h9) rfl dX0_init_29 ?_
  refine lv_iload_n hx hb dX0_init_32 rfl (lv_at hl 0 rfl) ?_
  refine va_new (ci := 2) (fs := vZ) (C := RX2) (T := TX2) (N := 15) hx hb hTB inT_X2 tyX2 tyX2_ok hown (hTB _ wl_X0_9) (hTB _ wi_X2) (hTB _ ini_X2) hK hP hD hS hA rfl dv_X2 (Nat.le_of_ble_eq_true rfl) (Nat.le_of_ble_eq_true rfl) dX0_init_33 (fun q4 H hP hD hS => ?_)
  refine W.widen (k := 26) (n := 1138) (Nat.le_of_ble_eq_true rfl) (Nat.le_of_ble_eq_true rfl) ?_
  refine lv_dup hx hb dX0_init_36 rfl ?_
  have hrun := va_runIN (As := []) (rest := [.ref q4, .int (nI 2), .ref q1]) (g := F0 m 37 ls (.ref q4 :: [.ref q4, .int (nI 2), .ref q1])) (p := p) (e := e) (s := s) (m := m) (below := below) (meth := meth) (c := c) (H := H) (cells := 26) (slots := 1138) (R := rm_X0_init) (locs := locs) ⟨hx, hb, hml, hown, hts⟩ (ki_X2 l D cI cC cA q4 H.size) ⟨⟨⟨rfl, rfl, by decide, by decide, ct_ws hTB wc_X2, List.mem_cons_self⟩, hTB _ wc_X2, hTB _ ini_X2, ⟨by decide +kernel, by decide +kernel⟩, fun sig hs => by have h9 : (parseMethodDescriptor yX2_init.desc).map (fun d => d.parameters.length) = some 0 := (by decide +kernel); rw [hs] at h9; exact (Option.some.inj h9).symm, va_Nw.use rfl (hN _ mn_X0_21)⟩, rfl, hTB _ wm_X2⟩ ⟨ip_blind, ip_pre hP hK hN hO⟩ rfl rfl hl.1 rfl (lv_room (Nat.le_of_ble_eq_true rfl)) dX0_init_37 ⟨Nat.le_of_ble_eq_true rfl, Nat.le_of_ble_eq_true rfl⟩
  refine ic_back hrun hP hD hS hA (fun u4 H locs hu4 hP hD hS => ?_)
  refine W.widen (k := 37) (n := 1682) (Nat.le_of_ble_eq_true rfl) (Nat.le_of_ble_eq_true rfl) ?_
  have hP : va_P D vwCl ([(h0, .inr (0, [.ref q1, .int (nI 0)])), (q1, .inl (cA, 5, .inr (.inr (.inr (.inr (va_up (va_up (fun _ => none) (nI 0).toNatClampNeg (some q2)) (nI 1).toNatClampNeg (some q3)))))))] ++ vC cI q2 u2 ++ vC cI q3 u3 ++ vC cI q4 u4) H := hP
  have hD : va_D A ([(h0, .inr (0, [.ref q1, .int (nI 0)])), (q1, .inl (cA, 5, .inr (.inr (.inr (.inr (va_up (va_up (fun _ => none) (nI 0).toNatClampNeg (some q2)) (nI 1).toNatClampNeg (some q3)))))))] ++ vC cI q2 u2 ++ vC cI q3 u3 ++ vC cI q4 u4) := hD
  refine va_astq hx hb hK hP hD hS 1 2 26 2 rfl rfl rfl rfl (vp_in_nI (by decide) (by decide)) dX0_init_40 (fun H locs hP hD hS => ?_)
  have hP : va_P D vwCl ([(h0, .inr (0, [.ref q1, .int (nI 0)])), (q1, .inl (cA, 5, .inr (.inr (.inr (.inr (va_up (va_up (va_up (fun _ => none) (nI 0).toNatClampNeg (some q2)) (nI 1).toNatClampNeg (some q3)) (nI 2).toNatClampNeg (some q4)))))))] ++ vC cI q2 u2 ++ vC cI q3 u3 ++ vC cI q4 u4) H := hP
  have hD : va_D A ([(h0, .inr (0, [.ref q1, .int (nI 0)])), (q1, .inl (cA, 5, .inr (.inr (.inr (.inr (va_up (va_up (va_up (fun _ => none) (nI 0).toNatClampNeg (some q2)) (nI 1).toNatClampNeg (some q3)) (nI 2).toNatClampNeg (some q4)))))))] ++ vC cI q2 u2 ++ vC cI q3 u3 ++ vC cI q4 u4) := hD
  refine lv_iinc (v := nI 3) (lv' := [(1, .int (nI 3)), (0, .ref h0)]) hx hb dX0_init_41 hl (k := 0) rfl (by decide) (by decide) rfl (fun ls hl => ?_)
  refine lv_goto (tgt := 19) hx hb dX0_init_44 (by decide) ?_
  refine lv_iload_n hx hb dX0_init_19 rfl (lv_at hl 0 rfl) ?_
  refine lv_aload_n hx hb dX0_init_20 rfl (lv_at hl 1 rfl) ?_
  refine va_get (D := D) (ci := 0) (v := .ref q1) (C := RX0) (T := TX0) (N := 2) hx hb hTB inT_X0 hown hK hP 0 rfl rfl 0 (by decide) (hTB _ fl_X0_11) (fun _ h9 => h9) rfl dX0_init_21 ?_
  refine va_alen (v := nI 5) hx hb hK hP 1 2 rfl rfl rfl dX0_init_24 ?_
  refine lv_icmp_ge (tgt := 47) hx hb dX0_init_25 (by decide) (fun c9 => absurd c9 (by decide)) (fun _ => ?_)
  refine lv_aload_n hx hb dX0_init_28 rfl (lv_at hl 1 rfl) ?_
  refine va_get (D := D) (ci := 0) (v := .ref q1) (C := RX0) (T := TX0) (N := 2) hx hb hTB inT_X0 hown hK hP 0 rfl rfl 0 (by decide) (hTB _ fl_X0_11) (fun _ h9 => h9) rfl dX0_init_29 ?_
  refine lv_iload_n hx hb dX0_init_32 rfl (lv_at hl 0 rfl) ?_
  refine va_new (ci := 2) (fs := vZ) (C := RX2) (T := TX2) (N := 15) hx hb hTB inT_X2 tyX2 tyX2_ok hown (hTB _ wl_X0_9) (hTB _ wi_X2) (hTB _ ini_X2) hK hP hD hS hA rfl dv_X2 (Nat.le_of_ble_eq_true rfl) (Nat.le_of_ble_eq_true rfl) dX0_init_33 (fun q5 H hP hD hS => ?_)
  refine W.widen (k := 38) (n := 1697) (Nat.le_of_ble_eq_true rfl) (Nat.le_of_ble_eq_true rfl) ?_
  refine lv_dup hx hb dX0_init_36 rfl ?_
  have hrun := va_runIN (As := []) (rest := [.ref q5, .int (nI 3), .ref q1]) (g := F0 m 37 ls (.ref q5 :: [.ref q5, .int (nI 3), .ref q1])) (p := p) (e := e) (s := s) (m := m) (below := below) (meth := meth) (c := c) (H := H) (cells := 38) (slots := 1697) (R := rm_X0_init) (locs := locs) ⟨hx, hb, hml, hown, hts⟩ (ki_X2 l D cI cC cA q5 H.size) ⟨⟨⟨rfl, rfl, by decide, by decide, ct_ws hTB wc_X2, List.mem_cons_self⟩, hTB _ wc_X2, hTB _ ini_X2, ⟨by decide +kernel, by decide +kernel⟩, fun sig hs => by have h9 : (parseMethodDescriptor yX2_init.desc).map (fun d => d.parameters.length) = some 0 := (by decide +kernel); rw [hs] at h9; exact (Option.some.inj h9).symm, va_Nw.use rfl (hN _ mn_X0_21)⟩, rfl, hTB _ wm_X2⟩ ⟨ip_blind, ip_pre hP hK hN hO⟩ rfl rfl hl.1 rfl (lv_room (Nat.le_of_ble_eq_true rfl)) dX0_init_37 ⟨Nat.le_of_ble_eq_true rfl, Nat.le_of_ble_eq_true rfl⟩
  refine ic_back hrun hP hD hS hA (fun u5 H locs hu5 hP hD hS => ?_)
  refine W.widen (k := 49) (n := 2241) (Nat.le_of_ble_eq_true rfl) (Nat.le_of_ble_eq_true rfl) ?_
  have hP : va_P D vwCl ([(h0, .inr (0, [.ref q1, .int (nI 0)])), (q1, .inl (cA, 5, .inr (.inr (.inr (.inr (va_up (va_up (va_up (fun _ => none) (nI 0).toNatClampNeg (some q2)) (nI 1).toNatClampNeg (some q3)) (nI 2).toNatClampNeg (some q4)))))))] ++ vC cI q2 u2 ++ vC cI q3 u3 ++ vC cI q4 u4 ++ vC cI q5 u5) H := hP
  have hD : va_D A ([(h0, .inr (0, [.ref q1, .int (nI 0)])), (q1, .inl (cA, 5, .inr (.inr (.inr (.inr (va_up (va_up (va_up (fun _ => none) (nI 0).toNatClampNeg (some q2)) (nI 1).toNatClampNeg (some q3)) (nI 2).toNatClampNeg (some q4)))))))] ++ vC cI q2 u2 ++ vC cI q3 u3 ++ vC cI q4 u4 ++ vC cI q5 u5) := hD
  refine va_astq hx hb hK hP hD hS 1 2 38 2 rfl rfl rfl rfl (vp_in_nI (by decide) (by decide)) dX0_init_40 (fun H locs hP hD hS => ?_)
  have hP : va_P D vwCl ([(h0, .inr (0, [.ref q1, .int (nI 0)])), (q1, .inl (cA, 5, .inr (.inr (.inr (.inr (va_up (va_up (va_up (va_up (fun _ => none) (nI 0).toNatClampNeg (some q2)) (nI 1).toNatClampNeg (some q3)) (nI 2).toNatClampNeg (some q4)) (nI 3).toNatClampNeg (some q5)))))))] ++ vC cI q2 u2 ++ vC cI q3 u3 ++ vC cI q4 u4 ++ vC cI q5 u5) H := hP
  have hD : va_D A ([(h0, .inr (0, [.ref q1, .int (nI 0)])), (q1, .inl (cA, 5, .inr (.inr (.inr (.inr (va_up (va_up (va_up (va_up (fun _ => none) (nI 0).toNatClampNeg (some q2)) (nI 1).toNatClampNeg (some q3)) (nI 2).toNatClampNeg (some q4)) (nI 3).toNatClampNeg (some q5)))))))] ++ vC cI q2 u2 ++ vC cI q3 u3 ++ vC cI q4 u4 ++ vC cI q5 u5) := hD
  refine lv_iinc (v := nI 4) (lv' := [(1, .int (nI 4)), (0, .ref h0)]) hx hb dX0_init_41 hl (k := 0) rfl (by decide) (by decide) rfl (fun ls hl => ?_)
  refine lv_goto (tgt := 19) hx hb dX0_init_44 (by decide) ?_
  refine lv_iload_n hx hb dX0_init_19 rfl (lv_at hl 0 rfl) ?_
  refine lv_aload_n hx hb dX0_init_20 rfl (lv_at hl 1 rfl) ?_
  refine va_get (D := D) (ci := 0) (v := .ref q1) (C := RX0) (T := TX0) (N := 2) hx hb hTB inT_X0 hown hK hP 0 rfl rfl 0 (by decide) (hTB _ fl_X0_11) (fun _ h9 => h9) rfl dX0_init_21 ?_
  refine va_alen (v := nI 5) hx hb hK hP 1 2 rfl rfl rfl dX0_init_24 ?_
  refine lv_icmp_ge (tgt := 47) hx hb dX0_init_25 (by decide) (fun c9 => absurd c9 (by decide)) (fun _ => ?_)
  refine lv_aload_n hx hb dX0_init_28 rfl (lv_at hl 1 rfl) ?_
  refine va_get (D := D) (ci := 0) (v := .ref q1) (C := RX0) (T := TX0) (N := 2) hx hb hTB inT_X0 hown hK hP 0 rfl rfl 0 (by decide) (hTB _ fl_X0_11) (fun _ h9 => h9) rfl dX0_init_29 ?_
  refine lv_iload_n hx hb dX0_init_32 rfl (lv_at hl 0 rfl) ?_
  refine va_new (ci := 2) (fs := vZ) (C := RX2) (T := TX2) (N := 15) hx hb hTB inT_X2 tyX2 tyX2_ok hown (hTB _ wl_X0_9) (hTB _ wi_X2) (hTB _ ini_X2) hK hP hD hS hA rfl dv_X2 (Nat.le_of_ble_eq_true rfl) (Nat.le_of_ble_eq_true rfl) dX0_init_33 (fun q6 H hP hD hS => ?_)
  refine W.widen (k := 50) (n := 2256) (Nat.le_of_ble_eq_true rfl) (Nat.le_of_ble_eq_true rfl) ?_
  refine lv_dup hx hb dX0_init_36 rfl ?_
  have hrun := va_runIN (As := []) (rest := [.ref q6, .int (nI 4), .ref q1]) (g := F0 m 37 ls (.ref q6 :: [.ref q6, .int (nI 4), .ref q1])) (p := p) (e := e) (s := s) (m := m) (below := below) (meth := meth) (c := c) (H := H) (cells := 50) (slots := 2256) (R := rm_X0_init) (locs := locs) ⟨hx, hb, hml, hown, hts⟩ (ki_X2 l D cI cC cA q6 H.size) ⟨⟨⟨rfl, rfl, by decide, by decide, ct_ws hTB wc_X2, List.mem_cons_self⟩, hTB _ wc_X2, hTB _ ini_X2, ⟨by decide +kernel, by decide +kernel⟩, fun sig hs => by have h9 : (parseMethodDescriptor yX2_init.desc).map (fun d => d.parameters.length) = some 0 := (by decide +kernel); rw [hs] at h9; exact (Option.some.inj h9).symm, va_Nw.use rfl (hN _ mn_X0_21)⟩, rfl, hTB _ wm_X2⟩ ⟨ip_blind, ip_pre hP hK hN hO⟩ rfl rfl hl.1 rfl (lv_room (Nat.le_of_ble_eq_true rfl)) dX0_init_37 ⟨Nat.le_of_ble_eq_true rfl, Nat.le_of_ble_eq_true rfl⟩
  refine ic_back hrun hP hD hS hA (fun u6 H locs hu6 hP hD hS => ?_)
  refine W.widen (k := 61) (n := 2800) (Nat.le_of_ble_eq_true rfl) (Nat.le_of_ble_eq_true rfl) ?_
  have hP : va_P D vwCl ([(h0, .inr (0, [.ref q1, .int (nI 0)])), (q1, .inl (cA, 5, .inr (.inr (.inr (.inr (va_up (va_up (va_up (va_up (fun _ => none) (nI 0).toNatClampNeg (some q2)) (nI 1).toNatClampNeg (some q3)) (nI 2).toNatClampNeg (some q4)) (nI 3).toNatClampNeg (some q5)))))))] ++ vC cI q2 u2 ++ vC cI q3 u3 ++ vC cI q4 u4 ++ vC cI q5 u5 ++ vC cI q6 u6) H := hP
  have hD : va_D A ([(h0, .inr (0, [.ref q1, .int (nI 0)])), (q1, .inl (cA, 5, .inr (.inr (.inr (.inr (va_up (va_up (va_up (va_up (fun _ => none) (nI 0).toNatClampNeg (some q2)) (nI 1).toNatClampNeg (some q3)) (nI 2).toNatClampNeg (some q4)) (nI 3).toNatClampNeg (some q5)))))))] ++ vC cI q2 u2 ++ vC cI q3 u3 ++ vC cI q4 u4 ++ vC cI q5 u5 ++ vC cI q6 u6) := hD
  refine va_astq hx hb hK hP hD hS 1 2 50 2 rfl rfl rfl rfl (vp_in_nI (by decide) (by decide)) dX0_init_40 (fun H locs hP hD hS => ?_)
  have hP : va_P D vwCl ([(h0, .inr (0, [.ref q1, .int (nI 0)])), (q1, .inl (cA, 5, .inr (.inr (.inr (.inr (va_up (va_up (va_up (va_up (va_up (fun _ => none) (nI 0).toNatClampNeg (some q2)) (nI 1).toNatClampNeg (some q3)) (nI 2).toNatClampNeg (some q4)) (nI 3).toNatClampNeg (some q5)) (nI 4).toNatClampNeg (some q6)))))))] ++ vC cI q2 u2 ++ vC cI q3 u3 ++ vC cI q4 u4 ++ vC cI q5 u5 ++ vC cI q6 u6) H := hP
  have hD : va_D A ([(h0, .inr (0, [.ref q1, .int (nI 0)])), (q1, .inl (cA, 5, .inr (.inr (.inr (.inr (va_up (va_up (va_up (va_up (va_up (fun _ => none) (nI 0).toNatClampNeg (some q2)) (nI 1).toNatClampNeg (some q3)) (nI 2).toNatClampNeg (some q4)) (nI 3).toNatClampNeg (some q5)) (nI 4).toNatClampNeg (some q6)))))))] ++ vC cI q2 u2 ++ vC cI q3 u3 ++ vC cI q4 u4 ++ vC cI q5 u5 ++ vC cI q6 u6) := hD
  refine lv_iinc (v := nI 5) (lv' := [(1, .int (nI 5)), (0, .ref h0)]) hx hb dX0_init_41 hl (k := 0) rfl (by decide) (by decide) rfl (fun ls hl => ?_)
  refine lv_goto (tgt := 19) hx hb dX0_init_44 (by decide) ?_
  refine lv_iload_n hx hb dX0_init_19 rfl (lv_at hl 0 rfl) ?_
  refine lv_aload_n hx hb dX0_init_20 rfl (lv_at hl 1 rfl) ?_
  refine va_get (D := D) (ci := 0) (v := .ref q1) (C := RX0) (T := TX0) (N := 2) hx hb hTB inT_X0 hown hK hP 0 rfl rfl 0 (by decide) (hTB _ fl_X0_11) (fun _ h9 => h9) rfl dX0_init_21 ?_
  refine va_alen (v := nI 5) hx hb hK hP 1 2 rfl rfl rfl dX0_init_24 ?_
  refine lv_icmp_ge (tgt := 47) hx hb dX0_init_25 (by decide) (fun _ => ?_) (fun c9 => absurd (by decide) c9)
  have hu : ∃ u : (Nat → Nat → Nat) × (Nat → Option Nat), [(h0, .inr (0, [.ref q1, .int (nI 0)])), (q1, .inl (cA, 5, .inr (.inr (.inr (.inr (va_up (va_up (va_up (va_up (va_up (fun _ => none) (nI 0).toNatClampNeg (some q2)) (nI 1).toNatClampNeg (some q3)) (nI 2).toNatClampNeg (some q4)) (nI 3).toNatClampNeg (some q5)) (nI 4).toNatClampNeg (some q6)))))))] ++ vC cI q2 u2 ++ vC cI q3 u3 ++ vC cI q4 u4 ++ vC cI q5 u5 ++ vC cI q6 u6 = hC cI cA h0 u.1 u.2 ∧ ∀ i, i < 5 → u.2 i = some (u.1 i 0) := ⟨(fun i k => if i = 5 then q1 else if i = 0 then (if k = 0 then q2 else u2 k) else if i = 1 then (if k = 0 then q3 else u3 k) else if i = 2 then (if k = 0 then q4 else u4 k) else if i = 3 then (if k = 0 then q5 else u5 k) else (if k = 0 then q6 else u6 k), (va_up (va_up (va_up (va_up (va_up (fun _ => none) (nI 0).toNatClampNeg (some q2)) (nI 1).toNatClampNeg (some q3)) (nI 2).toNatClampNeg (some q4)) (nI 3).toNatClampNeg (some q5)) (nI 4).toNatClampNeg (some q6))), rfl, fun i hi => by rcases (show i = 0 ∨ i = 1 ∨ i = 2 ∨ i = 3 ∨ i = 4 by omega) with rfl | rfl | rfl | rfl | rfl <;> rfl⟩
  obtain ⟨u, hu, hu2⟩ := hu
  rw [hu] at hP hD
  exact W.vret hx hb hr (fun t ht hW => ⟨⟨u, rfl, hu2, by rw [ht]; exact hP, by rw [hAe]; exact hD⟩, by rw [hAe]; exact hS.F ht⟩) hS.2.2 dX0_init_47
