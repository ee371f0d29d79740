/-! THE CLAIM OUT OF ONE WALK OF THE LAW'S BODY. Your part is whole_start (and what it stands on); all else here is the same for every law, but numbers. -/
def R_law : String := "RumorTombsLaw"
def lw_P (b : Addr) (xs : List Int32) (args : Array Value) (s : State) : Prop := args = #[.ref b] ∧ s.IntsAt b xs ∧ xs.length ≤ 2560 ∧ (Jvm.Cond.and given_1 narrow_1).before args s = true
def lw_Q (_ : Array Value) (s : State) (o : Outcome) (t : State) : Prop := o = .returned (some (.int 1)) ∧ Framed s o t [] 600000 7302250
def lw_Z (below : List Frame) (a : Array Value) (s : State) : State → Prop := fun t => ∃ o, t.status = .running ∧ Ended t below o ∧ lw_Q a s o t
/-- the law's own end, with 1 on the stack, nothing written that was there before, its room as the claim has it -/
theorem lw_ret {p : Program} {l : Launch} {e : Env} {s : State} {m : MethodId} {below : List Frame} {meth : Method} {c : Code} {b : Nat} (hx : p.tables.exec = Jvm.exec) (hb : c.code = code) (hr : meth.sig.returnType = ret) (hlocks : meth.locks = false) {pc : Nat} {H : Heap} {ls : Array Slot} (hdg : decode code pc = .ok (.ireturn, 1)) : W p l e room_1 s m #[Value.ref b] below meth c H [] 600000 7302250 (lw_Z below #[Value.ref b] s) (F0 m pc ls [.int 1]) := by
  intro T hT X
  obtain ⟨fs, hret, hrun, hended, hW, hframe⟩ := X.leave (v := some (.int 1)) (hlocks := hlocks) (fun h => by rw [hr] at h; cases h)
  have hmeth' : T.vm.method? m = some meth := X.method'
  refine ⟨T.setFrames fs, ?_, .returned (some (.int 1)), hrun, hended, rfl, ⟨_, rfl⟩, hW, hframe⟩
  jvm_step X.here [X.here.top, hx, hb, hdg, hmeth', hr, ret, narrow_b1]
  (try refine ⟨rfl, ?_⟩); (try refine ⟨rfl, ?_⟩)
  first | (intro acts; rw [hret _ acts rfl rfl rfl]) | rw [hret _ _ rfl rfl rfl]
  exact Steps.refl _
/-- what holds at the law's entry: the machine, the code, the tables' words (any of lw_tbl by 'hts w (by decide +kernel)'), the script of L ints xs at the cell b, what the Statement gives of the start (any of its parts by flat_of_before) -/
def lw_At (p : Program) (s : State) (m : MethodId) (meth : Method) (c : Code) (b L : Nat) (xs : Nat → Int32) : Prop :=
  p.tables.exec = Jvm.exec ∧ c.code = code ∧ meth.sig.returnType = ret ∧ c.maxLocals = 4 ∧ s.vm.findClass R_law = some m.cls ∧ (∀ w ∈ lw_tbl, w.before #[Value.ref b] s = true) ∧ va_X b L xs s s.heap ∧ b < s.heap.size ∧ meth.locks = false ∧ (Jvm.Cond.and given_1 narrow_1).before #[Value.ref b] s = true
theorem ginj_of {g : Geo} {A : Nat → Prop} (hD : va_D A (g_wl g w_0)) : Ginj g ∧ ∀ q, Ag g q → A q := by
  refine ⟨fun z hz z' hz' e => ?_, fun q hq => ?_⟩
  · obtain ⟨i, i1, i2⟩ := wl_at g hz
    obtain ⟨j, j1, j2⟩ := wl_at g hz'
    have := hD.1 i j _ _ (i2 w_0) (j2 w_0) e
    subst this
    exact Option.some.inj (i1.symm.trans j1)
  · obtain ⟨z, hz, rfl⟩ := hq
    obtain ⟨i, i1, i2⟩ := wl_at g hz
    exact hD.2 i _ (i2 w_0)
set_option maxHeartbeats 4000000 in
set_option maxRecDepth 100000 in
/-- THE LAW, from its entry -/
theorem whole_start {p : Program} {e : Env} {s : State} {m : MethodId} {below : List Frame} {meth : Method} {c : Code} (l : Launch) (hflags : l.flags = flags0) {b L : Nat} {xs : Nat → Int32} (hL : L ≤ 2560) (C0 : lw_At p s m meth c b L xs) : W p l e room_1 s m #[Value.ref b] below meth c s.heap [] 0 0 (lw_Z below #[Value.ref b] s) (entryFrame m ([Value.ref b] : List Value).toArray 4) := by
  obtain ⟨hx, hb, hr, hml, hown, hts, hX, hbl, hlocks, hgv⟩ := C0
  have hown : s.vm.findClass RL = some m.cls := hown
  have hTB : ∀ w ∈ TB, w.before #[Value.ref b] s = true := fun w hw => hts w (tb_in hw)
  have hN := nl_of_tbl hts
  have hO : va_AO RX2 s := va_AO.of (hts _ wo_X2)
  obtain ⟨D, cI, cC, cO, hK⟩ := known_all hts
  have hA : ∀ q : Nat, s.heap.size ≤ q → (fun q : Nat => s.heap.size ≤ q) q := fun _ h => h
  have hbA : ¬ (fun q : Nat => s.heap.size ≤ q) b := Nat.not_le.mpr hbl
  have hS : va_S (fun q : Nat => s.heap.size ≤ q) s.heap s.heap [] := va_S.rf
  have hP : va_P D vwCl [] s.heap := fun k q h => by simp at h
  have hD : va_D (fun q : Nat => s.heap.size ≤ q) [] := ⟨fun i j p q h => by simp at h, fun k q h => by simp at h⟩
  have hl := lv_entry ([.ref b]) (n := 4) (Nat.le_of_ble_eq_true rfl)
  rw [lg_entry_eq]
  generalize (lg_sl ([.ref b]) ++ List.replicate (4 - (lg_sl ([.ref b])).length) Slot.unset).toArray = ls at hl ⊢
  have hl : lv_has ls 4 [(0, .ref b)] := hl
  refine va_new (ci := 3) (fs := rZ) (C := RX3) (T := TX3) (N := 4) hx hb hTB inT_X3 tyX3 tyX3_ok hown (hTB _ wl_L_7) (hTB _ wi_X3) (hTB _ ini_X3) hK hP hD hS hA rfl dv_X3 (Nat.le_of_ble_eq_true rfl) (Nat.le_of_ble_eq_true rfl) dL_law_0 (fun qR H hP hD hS => ?_)
  refine W.widen (k := 1) (n := 4) (Nat.le_of_ble_eq_true rfl) (Nat.le_of_ble_eq_true rfl) ?_
  refine lv_dup hx hb dL_law_3 rfl ?_
  have hrun := va_runI (As := []) (rest := [.ref qR]) (g := F0 m 4 ls (.ref qR :: [.ref qR])) (p := p) (e := e) (s := s) (m := m) (below := below) (meth := meth) (c := c) (H := H) (cells := 1) (slots := 4) (R := room_1) (locs := []) ⟨hx, hb, hml, hown, hTB⟩ (ki_X3 l D cI cC cO qR H.size) ⟨⟨rfl, rfl, by decide, by decide, ct_ws hTB wc_X3, List.mem_cons_self, hTB _ wc_X3, hTB _ ini_X3, ⟨by decide +kernel, by decide +kernel⟩, fun sig hs => by have h9 : (parseMethodDescriptor yX3_init.desc).map (fun d => d.parameters.length) = some 0 := (by decide +kernel); rw [hs] at h9; exact (Option.some.inj h9).symm, hTB _ ml_L_9⟩, rfl, hTB _ wm_X3⟩ ⟨ip_blind, ip_pre hP hK hN hO⟩ rfl rfl hl.1 rfl (lv_room (Nat.le_of_ble_eq_true rfl)) dL_law_4 ⟨Nat.le_of_ble_eq_true rfl, Nat.le_of_ble_eq_true rfl⟩
  refine ic_back hrun hP hD hS hA (fun u H locs hu hP hD hS => ?_)
  refine W.widen (k := 90) (n := 3993) (Nat.le_of_ble_eq_true rfl) (Nat.le_of_ble_eq_true rfl) ?_
  refine lv_astore_n (lv' := [(1, .ref qR), (0, .ref b)]) hx hb dL_law_7 rfl hl (by decide) rfl (fun ls hl => ?_)
  refine va_new (ci := 4) (fs := mZ) (C := RX4) (T := TX4) (N := 10) hx hb hTB inT_X4 tyX4 tyX4_ok hown (hTB _ wl_L_10) (hTB _ wi_X4) (hTB _ ini_X4) hK hP hD hS hA rfl dv_X4 (Nat.le_of_ble_eq_true rfl) (Nat.le_of_ble_eq_true rfl) dL_law_8 (fun qM H hP hD hS => ?_)
  refine W.widen (k := 91) (n := 4003) (Nat.le_of_ble_eq_true rfl) (Nat.le_of_ble_eq_true rfl) ?_
  refine lv_dup hx hb dL_law_11 rfl ?_
  have hrun := va_runI (As := []) (rest := [.ref qM]) (g := F0 m 12 ls (.ref qM :: [.ref qM])) (p := p) (e := e) (s := s) (m := m) (below := below) (meth := meth) (c := c) (H := H) (cells := 91) (slots := 4003) (R := room_1) (locs := locs) ⟨hx, hb, hml, hown, hTB⟩ (ki_X4 l D cI cC cO qM H.size) ⟨⟨rfl, rfl, by decide, by decide, ct_ws hTB wc_X4, List.mem_cons_self, hTB _ wc_X4, hTB _ ini_X4, ⟨by decide +kernel, by decide +kernel⟩, fun sig hs => by have h9 : (parseMethodDescriptor yX4_init.desc).map (fun d => d.parameters.length) = some 0 := (by decide +kernel); rw [hs] at h9; exact (Option.some.inj h9).symm, hTB _ ml_L_12⟩, rfl, hTB _ wm_X4⟩ ⟨ip_blind, ip_pre hP hK hN hO⟩ rfl rfl hl.1 rfl (lv_room (Nat.le_of_ble_eq_true rfl)) dL_law_12 ⟨Nat.le_of_ble_eq_true rfl, Nat.le_of_ble_eq_true rfl⟩
  refine ic_back hrun hP hD hS hA (fun bm H locs _ hP hD hS => ?_)
  refine W.widen (k := 97) (n := 9757) (Nat.le_of_ble_eq_true rfl) (Nat.le_of_ble_eq_true rfl) ?_
  refine lv_astore_n (lv' := [(2, .ref qM), (1, .ref qR), (0, .ref b)]) hx hb dL_law_15 rfl hl (by decide) rfl (fun ls hl => ?_)
  refine lv_iconst (v := nI 0) hx hb dL_law_16 (by decide) ?_
  refine lv_istore_n (lv' := [(3, .int (nI 0)), (2, .ref qM), (1, .ref qR), (0, .ref b)]) hx hb dL_law_17 rfl hl (by decide) rfl (fun ls hl => ?_)
  obtain ⟨g, g1, g2, g3, g4, gP, gD⟩ := first_world hu hP hD
  obtain ⟨gi, gA⟩ := ginj_of gD
  have hG : Gd l g RL cL_law room_1 4 (some .boolean) (fun r _ => r = some (.int 1)) (fun b' L' xs' => b' = b ∧ L' = L ∧ xs' = xs) (fun w pc lv st => ∀ (H : Heap) (locs : List Loc) (ls : Array Slot), va_P g.1 vwCl (g_wl g w) H → va_S (fun q : Nat => s.heap.size ≤ q) s.heap H locs → lvh ls 4 lv → W p l e room_1 s m #[Value.ref b] below meth c H locs 97 9757 (lw_Z below #[Value.ref b] s) (F0 m pc ls st)) := by
    refine ⟨p, e, s, m, #[Value.ref b], below, meth, c, 97, 9757, lw_Z below #[Value.ref b] s, fun q : Nat => s.heap.size ≤ q, rfl, hx, hb, hml, hown, hTB, hN, by rw [g1, g2]; exact hK, ⟨gi, gA⟩, ⟨Nat.le_of_ble_eq_true rfl, Nat.le_of_ble_eq_true rfl⟩, fun b' L' xs' h => ?_, fun w pc lv v hd _ hfin H locs ls hP hS hl => ?_, fun w pc lv hd hret => by cases hret⟩
    · obtain ⟨rfl, rfl, rfl⟩ := h
      exact ⟨hbl, hbA, hX⟩
    · have hv : v = 1 := by
        cases hfin
        rfl
      subst hv
      refine va_forget (fun q hq => hS.2.2 q hq) ?_
      refine W.widen (k := 600000) (n := 7302250) (Nat.le_of_ble_eq_true rfl) (Nat.le_of_ble_eq_true rfl) ?_
      exact lw_ret hx hb hr hlocks hd
  have hloop := law_loop hG (b := b) (L := L) (xs := xs) ⟨rfl, rfl, rfl⟩ hL L 0 w_0 0 (by omega) (by omega) (Nat.zero_le _) RW_0
  refine hloop H locs ls gP hS ⟨hl.1, hl.2.1, fun i v hi => ?_⟩
  match i, hi with
  | 0, hi => cases hi; exact ⟨lv_at hl 3 rfl, rfl⟩
  | 1, hi => cases hi; exact ⟨by rw [g3]; exact lv_at hl 2 rfl, rfl⟩
  | 2, hi => cases hi; exact ⟨by rw [g4]; exact lv_at hl 1 rfl, rfl⟩
  | 3, hi => cases hi; exact ⟨lv_at hl 0 rfl, rfl⟩
  | i + 4, hi => simp [lg] at hi
