abbrev rm_X3_init : Room := { frames := 3, cells := 89, slots := 3989, locals := 53 }
set_option maxHeartbeats 4000000 in
set_option maxRecDepth 100000 in
theorem ki_X3 (l : Launch) (D : va_G) (cI cC cO : ClassId) (h0 sz : Nat) : Met l yX3_init (.code yX3_init cX3_init 1 none :: TB) rm_X3_init (va_Pc [.ref h0] (IP D cI cC cO sz (h0, .inr (3, rZ)))) (QP (S := (Nat → Nat → Nat) × (Nat → Option Nat)) D (fun u => rC cI cC cO h0 u.1 u.2) (fun u => ∀ i, i < 5 → u.2 i = some (u.1 (i + 2) 0)) (h0, .inr (3, rZ)) sz) 89 3989 (va_A [(h0, .inr (3, rZ))] sz) := by
  refine Met.ofW (cc := cX3_init) (maxL := 1) (ret := none) (by decide +kernel) rfl ?_
  intro p e s m args below meth c s₁ B hml hv
  obtain ⟨rfl, hsz, hP, hK, hD0, hN, hO⟩ := hv
  have hx := B.exec
  have hb := B.bytes
  have hr := B.returns
  have hts := atoms_spec (ws := Cond.code yX3_init cX3_init 1 none :: TB) B.pre
  have hTB : ∀ w ∈ TB, w.before ([.ref h0] : List Value).toArray s = true := fun w hw => hts w (List.mem_cons_of_mem _ hw)
  have hown : s.vm.findClass RX3 = some m.cls := findClass_of_methodNamed B.named
  have hlocks := B.notSynchronized
  have hin : meth.name = "<init>" := (name_of_methodNamed B.named B.method).1
  subst hsz
  have hD := hD0.self (sz := s.heap.size)
  generalize hAe : va_A [(h0, .inr (3, rZ))] s.heap.size = A at hD ⊢
  have hA : ∀ q : Nat, s.heap.size ≤ q → A q := fun q h => by rw [← hAe]; exact Or.inr h
  have hS : va_S A s.heap s.heap [] := va_S.rf
  have hP : va_P D vwCl [(h0, .inr (3, [.null, .null, .null, .null]))] s.heap := hP
  have hD : va_D A [(h0, .inr (3, [.null, .null, .null, .null]))] := hD
  have hl := lv_entry ([.ref h0]) (n := 1) (Nat.le_of_ble_eq_true rfl)
  rw [lg_entry_eq]
  generalize (lg_sl ([.ref h0]) ++ List.replicate (1 - (lg_sl ([.ref h0])).length) Slot.unset).toArray = ls at hl ⊢
  have hl : lv_has ls 1 [(0, .ref h0)] := hl
  refine lv_aload_n hx hb dX3_init_0 rfl (lv_at hl 0 rfl) ?_
  refine W.objInit hx hb hown (hTB _ ml_X3_1) (hTB _ wm_obj) (hTB _ wc_obj) rfl (by rw [hml]; exact hl.1) rfl dX3_init_1 (Nat.le_of_ble_eq_true rfl) (Nat.le_of_ble_eq_true rfl) ?_
  refine W.eq (g2 := F0 m 4 ls []) rfl ?_
  refine lv_aload_n hx hb dX3_init_4 rfl (lv_at hl 0 rfl) ?_
  refine va_new (ci := 2) (fs := vZ) (C := RX2) (T := TX2) (N := 15) hx hb hTB inT_X2 tyX2 tyX2_ok hown (hTB _ wl_X3_7) (hTB _ wi_X2) (hTB _ ini_X2) hK hP hD hS hA rfl dv_X2 (Nat.le_of_ble_eq_true rfl) (Nat.le_of_ble_eq_true rfl) dX3_init_5 (fun q1 H hP hD hS => ?_)
  refine W.widen (k := 1) (n := 15) (Nat.le_of_ble_eq_true rfl) (Nat.le_of_ble_eq_true rfl) ?_
  refine lv_dup hx hb dX3_init_8 rfl ?_
  have hrun := va_runIN (As := []) (rest := [.ref q1, .ref h0]) (g := F0 m 9 ls (.ref q1 :: [.ref q1, .ref h0])) (p := p) (e := e) (s := s) (m := m) (below := below) (meth := meth) (c := c) (H := H) (cells := 1) (slots := 15) (R := rm_X3_init) (locs := []) ⟨hx, hb, hml, hown, hts⟩ (ki_X2 l D cI cC cO q1 H.size) ⟨⟨⟨rfl, rfl, by decide, by decide, ct_ws hTB wc_X2, List.mem_cons_self⟩, hTB _ wc_X2, hTB _ ini_X2, ⟨by decide +kernel, by decide +kernel⟩, fun sig hs => by have h9 : (parseMethodDescriptor yX2_init.desc).map (fun d => d.parameters.length) = some 0 := (by decide +kernel); rw [hs] at h9; exact (Option.some.inj h9).symm, va_Nw.use rfl (hN _ mn_X3_9)⟩, rfl, hTB _ wm_X2⟩ ⟨ip_blind, ip_pre hP hK hN hO⟩ rfl rfl hl.1 rfl (lv_room (Nat.le_of_ble_eq_true rfl)) dX3_init_9 ⟨Nat.le_of_ble_eq_true rfl, Nat.le_of_ble_eq_true rfl⟩
  refine ic_back hrun hP hD hS hA (fun u1 H locs hu1 hP hD hS => ?_)
  refine W.widen (k := 12) (n := 559) (Nat.le_of_ble_eq_true rfl) (Nat.le_of_ble_eq_true rfl) ?_
  have hP : va_P D vwCl ([(h0, .inr (3, [.null, .null, .null, .null]))] ++ vC cI q1 u1) H := hP
  have hD : va_D A ([(h0, .inr (3, [.null, .null, .null, .null]))] ++ vC cI q1 u1) := hD
  refine va_putF (D := D) (ci := 3) (v := .ref q1) (ty := (.object "RumorTombs$Village")) (C := RX3) (T := TX3) (N := 4) hx hb hTB inT_X3 tyX3 tyX3_ok nmX3 hown hK hP hD hS 0 rfl rfl 0 (by decide) (hTB _ fl_X3_10) (fun _ h9 => h9) rfl hin rfl (by decide +kernel) rfl rfl (Nat.le_of_ble_eq_true rfl) dX3_init_12 (fun H locs hP hD hS => ?_)
  have hP : va_P D vwCl ([(h0, .inr (3, [.ref q1, .null, .null, .null]))] ++ vC cI q1 u1) H := hP
  have hD : va_D A ([(h0, .inr (3, [.ref q1, .null, .null, .null]))] ++ vC cI q1 u1) := hD
  refine lv_aload_n hx hb dX3_init_15 rfl (lv_at hl 0 rfl) ?_
  refine va_new (ci := 2) (fs := vZ) (C := RX2) (T := TX2) (N := 15) hx hb hTB inT_X2 tyX2 tyX2_ok hown (hTB _ wl_X3_7) (hTB _ wi_X2) (hTB _ ini_X2) hK hP hD hS hA rfl dv_X2 (Nat.le_of_ble_eq_true rfl) (Nat.le_of_ble_eq_true rfl) dX3_init_16 (fun q2 H hP hD hS => ?_)
  refine W.widen (k := 13) (n := 574) (Nat.le_of_ble_eq_true rfl) (Nat.le_of_ble_eq_true rfl) ?_
  refine lv_dup hx hb dX3_init_19 rfl ?_
  have hrun := va_runIN (As := []) (rest := [.ref q2, .ref h0]) (g := F0 m 20 ls (.ref q2 :: [.ref q2, .ref h0])) (p := p) (e := e) (s := s) (m := m) (below := below) (meth := meth) (c := c) (H := H) (cells := 13) (slots := 574) (R := rm_X3_init) (locs := locs) ⟨hx, hb, hml, hown, hts⟩ (ki_X2 l D cI cC cO q2 H.size) ⟨⟨⟨rfl, rfl, by decide, by decide, ct_ws hTB wc_X2, List.mem_cons_self⟩, hTB _ wc_X2, hTB _ ini_X2, ⟨by decide +kernel, by decide +kernel⟩, fun sig hs => by have h9 : (parseMethodDescriptor yX2_init.desc).map (fun d => d.parameters.length) = some 0 := (by decide +kernel); rw [hs] at h9; exact (Option.some.inj h9).symm, va_Nw.use rfl (hN _ mn_X3_9)⟩, rfl, hTB _ wm_X2⟩ ⟨ip_blind, ip_pre hP hK hN hO⟩ rfl rfl hl.1 rfl (lv_room (Nat.le_of_ble_eq_true rfl)) dX3_init_20 ⟨Nat.le_of_ble_eq_true rfl, Nat.le_of_ble_eq_true rfl⟩
  refine ic_back hrun hP hD hS hA (fun u2 H locs hu2 hP hD hS => ?_)
  refine W.widen (k := 24) (n := 1118) (Nat.le_of_ble_eq_true rfl) (Nat.le_of_ble_eq_true rfl) ?_
  have hP : va_P D vwCl ([(h0, .inr (3, [.ref q1, .null, .null, .null]))] ++ vC cI q1 u1 ++ vC cI q2 u2) H := hP
  have hD : va_D A ([(h0, .inr (3, [.ref q1, .null, .null, .null]))] ++ vC cI q1 u1 ++ vC cI q2 u2) := hD
  refine va_putF (D := D) (ci := 3) (v := .ref q2) (ty := (.object "RumorTombs$Village")) (C := RX3) (T := TX3) (N := 4) hx hb hTB inT_X3 tyX3 tyX3_ok nmX3 hown hK hP hD hS 0 rfl rfl 1 (by decide) (hTB _ fl_X3_16) (fun _ h9 => h9) rfl hin rfl (by decide +kernel) rfl rfl (Nat.le_of_ble_eq_true rfl) dX3_init_23 (fun H locs hP hD hS => ?_)
  have hP : va_P D vwCl ([(h0, .inr (3, [.ref q1, .ref q2, .null, .null]))] ++ vC cI q1 u1 ++ vC cI q2 u2) H := hP
  have hD : va_D A ([(h0, .inr (3, [.ref q1, .ref q2, .null, .null]))] ++ vC cI q1 u1 ++ vC cI q2 u2) := hD
  refine lv_aload_n hx hb dX3_init_26 rfl (lv_at hl 0 rfl) ?_
  refine va_new (ci := 0) (fs := hZ) (C := RX0) (T := TX0) (N := 2) hx hb hTB inT_X0 tyX0 tyX0_ok hown (hTB _ wl_X3_19) (hTB _ wi_X0) (hTB _ ini_X0) hK hP hD hS hA rfl dv_X0 (Nat.le_of_ble_eq_true rfl) (Nat.le_of_ble_eq_true rfl) dX3_init_27 (fun q3 H hP hD hS => ?_)
  refine W.widen (k := 25) (n := 1120) (Nat.le_of_ble_eq_true rfl) (Nat.le_of_ble_eq_true rfl) ?_
  refine lv_dup hx hb dX3_init_30 rfl ?_
  have hrun := va_runI (As := []) (rest := [.ref q3, .ref h0]) (g := F0 m 31 ls (.ref q3 :: [.ref q3, .ref h0])) (p := p) (e := e) (s := s) (m := m) (below := below) (meth := meth) (c := c) (H := H) (cells := 25) (slots := 1120) (R := rm_X3_init) (locs := locs) ⟨hx, hb, hml, hown, hts⟩ (ki_X0 l D cI cC cO q3 H.size) ⟨⟨rfl, rfl, by decide, by decide, ct_ws hTB wc_X0, List.mem_cons_self, hTB _ wc_X0, hTB _ ini_X0, ⟨by decide +kernel, by decide +kernel⟩, fun sig hs => by have h9 : (parseMethodDescriptor yX0_init.desc).map (fun d => d.parameters.length) = some 0 := (by decide +kernel); rw [hs] at h9; exact (Option.some.inj h9).symm, hTB _ ml_X3_21⟩, rfl, hTB _ wm_X0⟩ ⟨ip_blind, ip_pre hP hK hN hO⟩ rfl rfl hl.1 rfl (lv_room (Nat.le_of_ble_eq_true rfl)) dX3_init_31 ⟨Nat.le_of_ble_eq_true rfl, Nat.le_of_ble_eq_true rfl⟩
  refine ic_back hrun hP hD hS hA (fun u3 H locs hu3 hP hD hS => ?_)
  refine W.widen (k := 86) (n := 3920) (Nat.le_of_ble_eq_true rfl) (Nat.le_of_ble_eq_true rfl) ?_
  have hP : va_P D vwCl ([(h0, .inr (3, [.ref q1, .ref q2, .null, .null]))] ++ vC cI q1 u1 ++ vC cI q2 u2 ++ hC cI cO q3 u3.1 u3.2) H := hP
  have hD : va_D A ([(h0, .inr (3, [.ref q1, .ref q2, .null, .null]))] ++ vC cI q1 u1 ++ vC cI q2 u2 ++ hC cI cO q3 u3.1 u3.2) := hD
  refine va_putF (D := D) (ci := 3) (v := .ref q3) (ty := (.object "RumorTombs$History")) (C := RX3) (T := TX3) (N := 4) hx hb hTB inT_X3 tyX3 tyX3_ok nmX3 hown hK hP hD hS 0 rfl rfl 2 (by decide) (hTB _ fl_X3_22) (fun _ h9 => h9) rfl hin rfl (by decide +kernel) rfl rfl (Nat.le_of_ble_eq_true rfl) dX3_init_34 (fun H locs hP hD hS => ?_)
  have hP : va_P D vwCl ([(h0, .inr (3, [.ref q1, .ref q2, .ref q3, .null]))] ++ vC cI q1 u1 ++ vC cI q2 u2 ++ hC cI cO q3 u3.1 u3.2) H := hP
  have hD : va_D A ([(h0, .inr (3, [.ref q1, .ref q2, .ref q3, .null]))] ++ vC cI q1 u1 ++ vC cI q2 u2 ++ hC cI cO q3 u3.1 u3.2) := hD
  refine lv_aload_n hx hb dX3_init_37 rfl (lv_at hl 0 rfl) ?_
  refine va_new (ci := 1) (fs := oZ) (C := RX1) (T := TX1) (N := 6) hx hb hTB inT_X1 tyX1 tyX1_ok hown (hTB _ wl_X3_26) (hTB _ wi_X1) (hTB _ ini_X1) hK hP hD hS hA rfl dv_X1 (Nat.le_of_ble_eq_true rfl) (Nat.le_of_ble_eq_true rfl) dX3_init_38 (fun q4 H hP hD hS => ?_)
  refine W.widen (k := 87) (n := 3926) (Nat.le_of_ble_eq_true rfl) (Nat.le_of_ble_eq_true rfl) ?_
  refine lv_dup hx hb dX3_init_41 rfl ?_
  have hrun := va_runIN (As := []) (rest := [.ref q4, .ref h0]) (g := F0 m 42 ls (.ref q4 :: [.ref q4, .ref h0])) (p := p) (e := e) (s := s) (m := m) (below := below) (meth := meth) (c := c) (H := H) (cells := 87) (slots := 3926) (R := rm_X3_init) (locs := locs) ⟨hx, hb, hml, hown, hts⟩ (ki_X1 l D cI cC cO q4 H.size) ⟨⟨⟨rfl, rfl, by decide, by decide, ct_ws hTB wc_X1, List.mem_cons_self⟩, hTB _ wc_X1, hTB _ ini_X1, ⟨by decide +kernel, by decide +kernel⟩, fun sig hs => by have h9 : (parseMethodDescriptor yX1_init.desc).map (fun d => d.parameters.length) = some 0 := (by decide +kernel); rw [hs] at h9; exact (Option.some.inj h9).symm, va_Nw.use rfl (hN _ mn_X3_28)⟩, rfl, hTB _ wm_X1⟩ ⟨ip_blind, ip_pre hP hK hN hO⟩ rfl rfl hl.1 rfl (lv_room (Nat.le_of_ble_eq_true rfl)) dX3_init_42 ⟨Nat.le_of_ble_eq_true rfl, Nat.le_of_ble_eq_true rfl⟩
  refine ic_back hrun hP hD hS hA (fun u4 H locs hu4 hP hD hS => ?_)
  refine W.widen (k := 89) (n := 3989) (Nat.le_of_ble_eq_true rfl) (Nat.le_of_ble_eq_true rfl) ?_
  have hP : va_P D vwCl ([(h0, .inr (3, [.ref q1, .ref q2, .ref q3, .null]))] ++ vC cI q1 u1 ++ vC cI q2 u2 ++ hC cI cO q3 u3.1 u3.2 ++ oC cI cC q4 u4) H := hP
  have hD : va_D A ([(h0, .inr (3, [.ref q1, .ref q2, .ref q3, .null]))] ++ vC cI q1 u1 ++ vC cI q2 u2 ++ hC cI cO q3 u3.1 u3.2 ++ oC cI cC q4 u4) := hD
  refine va_putF (D := D) (ci := 3) (v := .ref q4) (ty := (.object "RumorTombs$Orders")) (C := RX3) (T := TX3) (N := 4) hx hb hTB inT_X3 tyX3 tyX3_ok nmX3 hown hK hP hD hS 0 rfl rfl 3 (by decide) (hTB _ fl_X3_29) (fun _ h9 => h9) rfl hin rfl (by decide +kernel) rfl rfl (Nat.le_of_ble_eq_true rfl) dX3_init_45 (fun H locs hP hD hS => ?_)
  have hP : va_P D vwCl ([(h0, .inr (3, [.ref q1, .ref q2, .ref q3, .ref q4]))] ++ vC cI q1 u1 ++ vC cI q2 u2 ++ hC cI cO q3 u3.1 u3.2 ++ oC cI cC q4 u4) H := hP
  have hD : va_D A ([(h0, .inr (3, [.ref q1, .ref q2, .ref q3, .ref q4]))] ++ vC cI q1 u1 ++ vC cI q2 u2 ++ hC cI cO q3 u3.1 u3.2 ++ oC cI cC q4 u4) := hD
  have hu : ∃ u : (Nat → Nat → Nat) × (Nat → Option Nat), [(h0, .inr (3, [.ref q1, .ref q2, .ref q3, .ref q4]))] ++ vC cI q1 u1 ++ vC cI q2 u2 ++ hC cI cO q3 u3.1 u3.2 ++ oC cI cC q4 u4 = rC cI cC cO h0 u.1 u.2 ∧ ∀ i, i < 5 → u.2 i = some (u.1 (i + 2) 0) := ⟨(fun o k => if o = 0 then (if k = 0 then q1 else u1 k) else if o = 1 then (if k = 0 then q2 else u2 k) else if o = 8 then (if k = 0 then q3 else u3.1 5 k) else if o = 7 then (if k = 0 then q4 else u4 k) else u3.1 (o - 2) k, u3.2), rfl, fun i hi => by rcases (show i = 0 ∨ i = 1 ∨ i = 2 ∨ i = 3 ∨ i = 4 by omega) with rfl | rfl | rfl | rfl | rfl <;> exact hu3 _ (by decide)⟩
  obtain ⟨u, hu, hu2⟩ := hu
  rw [hu] at hP hD
  exact W.vret hx hb hr (fun t ht hW => ⟨⟨u, rfl, hu2, by rw [ht]; exact hP, by rw [hAe]; exact hD⟩, by rw [hAe]; exact hS.F ht⟩) hS.2.2 dX3_init_48
