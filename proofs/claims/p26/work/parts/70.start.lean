/-! THE CLAIM OUT OF ONE WALK OF THE LAW'S BODY. Your part is whole_start (and what it stands on); all else here is the same for every law, but numbers. -/
def R_law : String := "RumorTombsLaw"
def lw_P (b : Addr) (xs : List Int32) (args : Array Value) (s : State) : Prop := args = #[.ref b] ∧ s.IntsAt b xs ∧ xs.length ≤ 260 ∧ (Jvm.Cond.and given_1 narrow_1).before args s = true
def lw_Q (_ : Array Value) (s : State) (o : Outcome) (t : State) : Prop := o = .returned (some (.int 1)) ∧ Framed s o t [] 600000 7302250
def lw_Z (below : List Frame) (a : Array Value) (s : State) : State → Prop := fun t => ∃ o, t.status = .running ∧ Ended t below o ∧ lw_Q a s o t
/-- the law's own end, with 1 on the stack, nothing written that was there before, its room as the claim has it -/
theorem lw_ret {p : Program} {l : Launch} {e : Env} {s : State} {m : MethodId} {below : List Frame} {meth : Method} {c : Code} {b : Nat} (hx : p.tables.exec = Jvm.exec) (hb : c.code = code) (hr : meth.sig.returnType = ret) (hlocks : meth.locks = false) {pc : Nat} {H : Heap} {ls : Array Slot} (hdg : decode code pc = .ok (.ireturn, 1)) : W p l e room_1 s m #[Value.ref b] below meth c H [] 600000 7302250 (lw_Z below #[Value.ref b] s) (F0 m pc ls [.int 1]) := by
  intro T hT X
  obtain ⟨fs, hret, hrun, hended, hW, hframe⟩ := X.leave (v := some (.int 1)) (hlocks := hlocks) (fun h => by rw [hr] at h; cases h)
  have hmeth' : T.vm.method? m = some meth := X.method'
  refine ⟨T.setFrames fs, ?_, .returned (some (.int 1)), hrun, hended, rfl, ⟨_, rfl⟩, hW, hframe⟩
  jvm_step X.here [X.here.top, hx, hb, hdg, hmeth', hr, ret, narrow_b1]
  (try refine ⟨rfl, ?_⟩); (try refine ⟨rfl, ?_⟩)
  first | (intro acts; rw [hret _ acts rfl rfl rfl]) | rw [hret _ _ rfl rfl rfl]
  exact Steps.refl _
/-- what holds at the law's entry: the machine, the code, the tables' words (any of lw_tbl by 'hts w (by decide +kernel)'), the script of L ints xs at the cell b, what the Statement gives of the start (any of its parts by flat_of_before) -/
def lw_At (p : Program) (s : State) (m : MethodId) (meth : Method) (c : Code) (b L : Nat) (xs : Nat → Int32) : Prop :=
  p.tables.exec = Jvm.exec ∧ c.code = code ∧ meth.sig.returnType = ret ∧ c.maxLocals = 5 ∧ s.vm.findClass R_law = some m.cls ∧ (∀ w ∈ lw_tbl, w.before #[Value.ref b] s = true) ∧ va_X b L xs s s.heap ∧ b < s.heap.size ∧ meth.locks = false ∧ (Jvm.Cond.and given_1 narrow_1).before #[Value.ref b] s = true
theorem law_0 {l : Launch} {g : Geo} {X : Nat → Nat → (Nat → Int32) → Prop} {b L : Nat} {xs : Nat → Int32} {p : Program} {e : Env} {s : State} {m : MethodId} {args : Array Value} {below : List Frame} {meth : Method} {c : Code} {Q : State → Prop} {A : Nat → Prop} (h : GX l g RL cL_law room_1 5 (some .boolean) (fun r _ => r = some (.int 1)) X 124 4809 p e s m args below meth c Q A) (hX0 : X b L xs) (hL : L ≤ 260) (hf : g_fl g = false) : PW l g room_1 5 p e s m args below meth c Q A 90 3993 w_0 8 [some (.ref b), some (.ref (g_ad g 10 0)), none, none, none] [] := by
  have hX := h.gd (by decide) (n := 90) (k := 3993) (by decide) (by decide)
  refine pw_aload_n hX rfl dL_law_8 (q := 9) rfl ?_
  refine pw_csI1 hX dL_law_9 (q := 12) rfl mi_L_holds ml_L_67 ⟨rfl, rfl, by decide, by decide⟩ rfl (Nat.le_of_ble_eq_true rfl) (c_L_holds WJ_0.2.2.1 (by decide)) ?_
  refine pw_istore_n hX (by decide) dL_law_12 (q := 13) rfl ?_
  refine pw_iconst hX (k := 0) rfl (by decide) dL_law_13 (q := 14) rfl ?_
  refine pw_istore_n hX (by decide) dL_law_14 (q := 15) rfl ?_
  exact law_a h hX0 hL hf 0 (by decide) w_0 WJ_0
set_option maxHeartbeats 4000000 in
set_option maxRecDepth 100000 in
/-- THE LAW, from its entry -/
theorem whole_start {p : Program} {e : Env} {s : State} {m : MethodId} {below : List Frame} {meth : Method} {c : Code} (l : Launch) (hflags : l.flags = flags0) {b L : Nat} {xs : Nat → Int32} (hL : L ≤ 260) (C0 : lw_At p s m meth c b L xs) : W p l e room_1 s m #[Value.ref b] below meth c s.heap [] 0 0 (lw_Z below #[Value.ref b] s) (entryFrame m ([Value.ref b] : List Value).toArray 5) := by
  obtain ⟨hx, hb, hr, hml, hown, hts, hX, hbl, hlocks, hgv⟩ := C0
  have hown : s.vm.findClass RL = some m.cls := hown
  have hTB : ∀ w ∈ TB, w.before #[Value.ref b] s = true := fun w hw => hts w (tb_in hw)
  have hN := nl_of_tbl hts
  have hO : va_AO RX2 s := va_AO.of (hts _ wo_X2)
  obtain ⟨D, cI, cC, cO, hK⟩ := known_all hts
  have hA : ∀ q : Nat, s.heap.size ≤ q → (fun q : Nat => s.heap.size ≤ q) q := fun _ h => h
  have hbA : ¬ (fun q : Nat => s.heap.size ≤ q) b := Nat.not_le.mpr hbl
  have hS : va_S (fun q : Nat => s.heap.size ≤ q) s.heap s.heap [] := va_S.rf
  have hP : va_P D vwCl [] s.heap := fun k q h => by simp at h
  have hD : va_D (fun q : Nat => s.heap.size ≤ q) [] := ⟨fun i j p q h => by simp at h, fun k q h => by simp at h⟩
  have hl := lv_entry ([.ref b]) (n := 5) (Nat.le_of_ble_eq_true rfl)
  rw [lg_entry_eq]
  generalize (lg_sl ([.ref b]) ++ List.replicate (5 - (lg_sl ([.ref b])).length) Slot.unset).toArray = ls at hl ⊢
  have hl : lv_has ls 5 [(0, .ref b)] := hl
  refine va_new (ci := 3) (fs := rZ) (C := RX3) (T := TX3) (N := 4) hx hb hTB inT_X3 tyX3 tyX3_ok hown (hTB _ wl_L_10) (hTB _ wi_X3) (hTB _ ini_X3) hK hP hD hS hA rfl dv_X3 (Nat.le_of_ble_eq_true rfl) (Nat.le_of_ble_eq_true rfl) dL_law_0 (fun qR H hP hD hS => ?_)
  refine W.widen (k := 1) (n := 4) (Nat.le_of_ble_eq_true rfl) (Nat.le_of_ble_eq_true rfl) ?_
  refine lv_dup hx hb dL_law_3 rfl ?_
  have hrun := va_runI (As := []) (rest := [.ref qR]) (g := F0 m 4 ls (.ref qR :: [.ref qR])) (p := p) (e := e) (s := s) (m := m) (below := below) (meth := meth) (c := c) (H := H) (cells := 1) (slots := 4) (R := room_1) (locs := []) ⟨hx, hb, hml, hown, hTB⟩ (ki_X3 l D cI cC cO qR H.size) ⟨⟨rfl, rfl, by decide, by decide, ct_ws hTB wc_X3, List.mem_cons_self, hTB _ wc_X3, hTB _ ini_X3, ⟨by decide +kernel, by decide +kernel⟩, fun sig hs => by have h9 : (parseMethodDescriptor yX3_init.desc).map (fun d => d.parameters.length) = some 0 := (by decide +kernel); rw [hs] at h9; exact (Option.some.inj h9).symm, hTB _ ml_L_66⟩, rfl, hTB _ wm_X3⟩ ⟨ip_blind, ip_pre hP hK hN hO⟩ rfl rfl hl.1 rfl (lv_room (Nat.le_of_ble_eq_true rfl)) dL_law_4 ⟨Nat.le_of_ble_eq_true rfl, Nat.le_of_ble_eq_true rfl⟩
  refine ic_back hrun hP hD hS hA (fun u H locs hu hP hD hS => ?_)
  refine W.widen (k := 90) (n := 3993) (Nat.le_of_ble_eq_true rfl) (Nat.le_of_ble_eq_true rfl) ?_
  refine lv_astore_n (lv' := [(1, .ref qR), (0, .ref b)]) hx hb dL_law_7 rfl hl (by decide) rfl (fun ls hl => ?_)
  obtain ⟨g, g1, g2, g3, gf, gP, gD⟩ := first_world hu hP hD
  obtain ⟨gi, gA⟩ := ginj_of gD
  have hG : GX l g RL cL_law room_1 5 (some .boolean) (fun r _ => r = some (.int 1)) (fun b' L' xs' => b' = b ∧ L' = L ∧ xs' = xs) 124 4809 p e s m #[Value.ref b] below meth c (lw_Z below #[Value.ref b] s) (fun q : Nat => s.heap.size ≤ q) := by
    refine ⟨hx, hb, hml, hown, hTB, hN, by rw [g1, g2]; exact hK, ⟨gi, gA⟩, ⟨Nat.le_of_ble_eq_true rfl, Nat.le_of_ble_eq_true rfl⟩, fun b' L' xs' h => ?_, fun _ h => h, fun n k hn hk w pc lv v hd _ hfin H locs ls hP hS hl => ?_⟩
    · obtain ⟨rfl, rfl, rfl⟩ := h
      exact ⟨hbl, hbA, hX⟩
    · have hv : v = 1 := by
        cases hfin
        rfl
      subst hv
      refine va_forget (fun q hq => hS.2.2 q hq) ?_
      refine W.widen (k := 600000) (n := 7302250) (by omega) (by omega) ?_
      exact lw_ret hx hb hr hlocks hd
  have hrun2 := law_0 hG (b := b) (L := L) (xs := xs) ⟨rfl, rfl, rfl⟩ hL gf
  refine hrun2 H locs ls gP hS ⟨hl.1, hl.2.1, fun i v hi => ?_⟩
  match i, hi with
  | 0, hi => cases hi; exact ⟨lv_at hl 1 rfl, rfl⟩
  | 1, hi => cases hi; exact ⟨by rw [g3]; exact lv_at hl 0 rfl, rfl⟩
  | 2, hi => simp [lg] at hi
  | 3, hi => simp [lg] at hi
  | 4, hi => simp [lg] at hi
  | i + 5, hi => simp [lg] at hi
