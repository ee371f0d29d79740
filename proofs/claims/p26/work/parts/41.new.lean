/-! what makes a row: the law's own methods, whose contracts make cells -/
theorem pw_sld {l : Launch} {g : Geo} {own : String} {cc : ByteArray} {rm : Room} {nL : Nat} {ret : Option FieldType} {fin : Option Value → WD → Prop} {X : Nat → Nat → (Nat → Int32) → Prop} {P : PT} (hX : Gd l g own cc rm nL ret fin X P) {w : WD} {pc q : Nat} {lv : List (Option Value)} {st : List Value} {b L : Nat} {xs : Nat → Int32} (hb0 : X b L xs) {i : Int32} (hin : vp_in i L) (hd : decode cc pc = .ok (.iaload, 1)) (hq : pc + 1 = q) (kk : P w q lv (.int (xs i.toNatClampNeg) :: st)) : P w pc lv (.int i :: .ref b :: st) := by
  obtain ⟨p, e, s, m, args, below, meth, c, cells, slots, Q, A, rfl, hx, hb, hml, hown, hTB, hNL, hK, hG, hcs, hScr, hri, hrv⟩ := hX
  subst hq
  obtain ⟨x1, x2, x3⟩ := hScr _ _ _ hb0
  intro H locs ls hP hS hl
  exact va_sld hx hb x3 x1 x2 hS hin hd (kk H locs ls hP hS hl)
theorem pw_slen {l : Launch} {g : Geo} {own : String} {cc : ByteArray} {rm : Room} {nL : Nat} {ret : Option FieldType} {fin : Option Value → WD → Prop} {X : Nat → Nat → (Nat → Int32) → Prop} {P : PT} (hX : Gd l g own cc rm nL ret fin X P) {w : WD} {pc q : Nat} {lv : List (Option Value)} {st : List Value} {b L : Nat} {xs : Nat → Int32} (hb0 : X b L xs) (hd : decode cc pc = .ok (.arraylength, 1)) (hq : pc + 1 = q) (kk : P w q lv (.int (nI L) :: st)) : P w pc lv (.ref b :: st) := by
  obtain ⟨p, e, s, m, args, below, meth, c, cells, slots, Q, A, rfl, hx, hb, hml, hown, hTB, hNL, hK, hG, hcs, hScr, hri, hrv⟩ := hX
  subst hq
  obtain ⟨x1, x2, x3⟩ := hScr _ _ _ hb0
  intro H locs ls hP hS hl
  exact va_slen hx hb x3 x1 x2 hS hd (kk H locs ls hP hS hl)
theorem pw_ishr {l : Launch} {g : Geo} {own : String} {cc : ByteArray} {rm : Room} {nL : Nat} {ret : Option FieldType} {fin : Option Value → WD → Prop} {X : Nat → Nat → (Nat → Int32) → Prop} {P : PT} (hX : Gd l g own cc rm nL ret fin X P) {w : WD} {pc q : Nat} {lv : List (Option Value)} {st : List Value} {x y : Int32} (hd : decode cc pc = .ok (.ishr, 1)) (hq : pc + 1 = q) (kk : P w q lv (.int (x >>> (y &&& 31)) :: st)) : P w pc lv (.int y :: .int x :: st) := by
  obtain ⟨p, e, s, m, args, below, meth, c, cells, slots, Q, A, rfl, hx, hb, hml, hown, hTB, hNL, hK, hG, hcs, hScr, hri, hrv⟩ := hX
  subst hq
  intro H locs ls hP hS hl
  exact lv_ishr hx hb hd (kk H locs ls hP hS hl)
/-- a point of a run in the open -/
def PW (l : Launch) (g : Geo) (rm : Room) (nL : Nat) (p : Program) (e : Env) (s : State) (m : MethodId) (args : Array Value) (below : List Frame) (meth : Method) (c : Code) (Q : State → Prop) (A : Nat → Prop) (n k : Nat) : PT :=
  fun w pc lv st => ∀ (H : Heap) (locs : List Loc) (ls : Array Slot), va_P g.1 vwCl (g_wl g w) H → va_S A s.heap H locs → lvh ls nL lv → W p l e rm s m args below meth c H locs n k Q (F0 m pc ls st)
def GX (l : Launch) (g : Geo) (own : String) (cc : ByteArray) (rm : Room) (nL : Nat) (ret : Option FieldType) (fin : Option Value → WD → Prop) (X : Nat → Nat → (Nat → Int32) → Prop) (mc ms : Nat) (p : Program) (e : Env) (s : State) (m : MethodId) (args : Array Value) (below : List Frame) (meth : Method) (c : Code) (Q : State → Prop) (A : Nat → Prop) : Prop :=
  p.tables.exec = Jvm.exec ∧ c.code = cc ∧ c.maxLocals = nL ∧ s.vm.findClass own = some m.cls ∧ (∀ w ∈ TB, w.before args s = true) ∧ (∀ x ∈ NL, va_Nw x s) ∧ va_K g.1 vwCl (g_ty g) s ∧ (Ginj g ∧ ∀ q, Ag g q → A q) ∧ (mc ≤ rm.cells ∧ ms ≤ rm.slots) ∧
  (∀ b L xs, X b L xs → b < s.heap.size ∧ ¬ A b ∧ va_X b L xs s s.heap) ∧ (∀ q, s.heap.size ≤ q → A q) ∧
  (∀ n k, n ≤ mc → k ≤ ms → ∀ w pc lv v, decode cc pc = .ok (.ireturn, 1) → (∃ ty, ret = some ty ∧ narrow ty (.int v) = .int v) → fin (some (.int v)) w → PW l g rm nL p e s m args below meth c Q A n k w pc lv [.int v])
theorem GX.gd {l : Launch} {g : Geo} {own : String} {cc : ByteArray} {rm : Room} {nL : Nat} {ret : Option FieldType} {fin : Option Value → WD → Prop} {X : Nat → Nat → (Nat → Int32) → Prop} {mc ms : Nat} {p : Program} {e : Env} {s : State} {m : MethodId} {args : Array Value} {below : List Frame} {meth : Method} {c : Code} {Q : State → Prop} {A : Nat → Prop} (h : GX l g own cc rm nL ret fin X mc ms p e s m args below meth c Q A) (hret : ret ≠ none) {n k : Nat} (hn : n ≤ mc) (hk : k ≤ ms) : Gd l g own cc rm nL ret fin X (PW l g rm nL p e s m args below meth c Q A n k) := by
  obtain ⟨hx, hb, hml, hown, hTB, hNL, hK, hG, hcs, hScr, hA, hri⟩ := h
  exact ⟨p, e, s, m, args, below, meth, c, n, k, Q, A, rfl, hx, hb, hml, hown, hTB, hNL, hK, hG, ⟨Nat.le_trans hn hcs.1, Nat.le_trans hk hcs.2⟩, hScr, hri n k hn hk, fun _ _ _ _ h => absurd h hret⟩
/-- the geometry with the law's row -/
def gR (g : Geo) (q : Nat) : Geo := (g.1, fun o k => if o = 9 ∧ k = 1 then q else g_ad g o k, g.2.2.1, g.2.2.2.1, g.2.2.2.2.1, true)
theorem gR_fl (g : Geo) (q : Nat) : g_fl (gR g q) = true := rfl
theorem gR_9 (g : Geo) (q : Nat) : g_ad (gR g q) 9 1 = q := rfl
theorem gR_n (g : Geo) (q : Nat) {o k : Nat} (h : ¬ (o = 9 ∧ k = 1)) : g_ad (gR g q) o k = g_ad g o k := if_neg h
theorem gR_a (g : Geo) (q : Nat) {o : Nat} (k : Nat) (h : o ≠ 9) : g_ad (gR g q) o k = g_ad g o k := gR_n g q (fun z => h z.1)
theorem d0_9 {o k : Nat} (h : (o, k) ∈ g_d0) : o ≠ 9 := by
  have h0 : g_d0.all (fun q => decide (q.1 ≠ 9)) = true := by decide +kernel
  exact of_decide_eq_true (List.all_eq_true.mp h0 _ h)
theorem d0_8 {k : Nat} (h : (8, k) ∈ g_d0) : k < 2 := by
  have h0 : g_d0.all (fun q => decide (q.1 = 8 → q.2 < 2)) = true := by decide +kernel
  exact of_decide_eq_true (List.all_eq_true.mp h0 _ h) rfl
theorem dm_f {g : Geo} (h : g_fl g = false) : g_dm g = g_d0 := by
  unfold g_dm
  rw [h]
  simp
theorem dm_t {g : Geo} (h : g_fl g = true) : g_dm g = g_d0 ++ [(9, 1)] := by
  unfold g_dm
  rw [h]
  simp
theorem gR_cell {g : Geo} {q : Nat} {w : WD} {o k : Nat} (hz : (o, k) ∈ g_d0) : g_cell (gR g q) w o k = g_cell g w o k := by
  have h9 : o ≠ 9 := d0_9 hz
  unfold g_cell
  by_cases hk : k = 0
  · rw [if_pos hk, if_pos hk]
    have e : ∀ a b, a ≠ 9 → g_ad (gR g q) a b = g_ad g a b := fun a b h => gR_a g q b h
    unfold g_fs
    by_cases h1 : o < 7
    · simp only [if_pos h1, fsV, e o _ h9]
    · by_cases h2 : o = 7
      · simp only [if_neg h1, if_pos h2, fsO, e 7 _ (by decide)]
      · by_cases h3 : o = 8
        · simp only [if_neg h1, if_neg h2, if_pos h3, fsH, e 8 _ (by decide)]
        · simp only [if_neg h1, if_neg h2, if_neg h3, fsR, e 0 _ (by decide), e 1 _ (by decide), e 8 _ (by decide), e 7 _ (by decide)]
  · rw [if_neg hk, if_neg hk]
    by_cases h8 : o = 8
    · rw [if_pos h8, if_pos h8]
      have e : (fun i => some (g_ad (gR g q) (w.2 i) 0)) = fun i => some (g_ad g (w.2 i) 0) := funext (fun i => by rw [gR_n g q (o := w.2 i) (k := 0) (fun z => absurd z.2 (by decide))])
      rw [e]
      rfl
    · rw [if_neg h8, if_neg h8]
      rfl
theorem gR_wl {g : Geo} (hf : g_fl g = false) (q : Nat) (w : WD) : g_wl (gR g q) w = g_wl g w ++ [(q, .inl (g.2.2.1, 24, .inl (fun j => nI (w.1 9 1 j))))] := by
  unfold g_wl
  rw [dm_f hf, dm_t (gR_fl g q), List.map_append]
  congr 1
  refine List.map_congr_left (fun z hz => ?_)
  obtain ⟨o, k⟩ := z
  dsimp only
  rw [gR_cell hz, gR_a g q k (d0_9 hz)]
theorem wl_wA9 {g : Geo} (hf : g_fl g = false) (w : WD) (f : Nat → Nat) : g_wl g (wA w 9 1 f) = g_wl g w := by
  unfold g_wl
  rw [dm_f hf]
  refine List.map_congr_left (fun z hz => ?_)
  obtain ⟨o, k⟩ := z
  dsimp only
  rw [cell_wA (fun h => d0_9 hz (congrArg Prod.fst h))]
theorem va_P_left {D : va_G} {cl : List vw_C} {ws ys : va_W} {H : Heap} (h : va_P D cl (ws ++ ys) H) : va_P D cl ws H := fun k q hq => h k q (by rw [List.getElem?_append_left (List.getElem?_eq_some_iff.mp hq).1]; exact hq)
theorem ginj_of {g : Geo} {A : Nat → Prop} {w : WD} (hD : va_D A (g_wl g w)) : Ginj g ∧ ∀ q, Ag g q → A q := by
  refine ⟨fun z hz z' hz' e => ?_, fun q hq => ?_⟩
  · obtain ⟨i, i1, i2⟩ := wl_at g hz
    obtain ⟨j, j1, j2⟩ := wl_at g hz'
    have := hD.1 i j _ _ (i2 w) (j2 w) e
    subst this
    exact Option.some.inj (i1.symm.trans j1)
  · obtain ⟨z, hz, rfl⟩ := hq
    obtain ⟨i, i1, i2⟩ := wl_at g hz
    exact hD.2 i _ (i2 w)
theorem pw_newR {l : Launch} {g : Geo} {own : String} {cc : ByteArray} {rm : Room} {nL : Nat} {ret : Option FieldType} {fin : Option Value → WD → Prop} {X : Nat → Nat → (Nat → Int32) → Prop} {mc ms : Nat} {p : Program} {e : Env} {s : State} {m : MethodId} {args : Array Value} {below : List Frame} {meth : Method} {c : Code} {Q : State → Prop} {A : Nat → Prop} (h : GX l g own cc rm nL ret fin X mc ms p e s m args below meth c Q A) (hf : g_fl g = false) {n k : Nat} (hn : n + 1 ≤ mc) (hk : k + 24 ≤ ms) {w : WD} {pc q : Nat} {lv : List (Option Value)} {st : List Value} (hd : decode cc pc = .ok (.newarray .int, 2)) (hq : pc + 2 = q)
    (kk : ∀ a, GX l (gR g a) own cc rm nL ret fin X mc ms p e s m args below meth c Q A → PW l (gR g a) rm nL p e s m args below meth c Q A (n + 1) (k + 24) (wA w 9 1 (fun _ => 0)) q lv (.ref (g_ad (gR g a) 9 1) :: st)) : PW l g rm nL p e s m args below meth c Q A n k w pc lv (.int (nI 24) :: st) := by
  obtain ⟨hx, hb, hml, hown, hTB, hNL, hK, hG, hcs, hScr, hA, hri⟩ := h
  subst hq
  intro H locs ls hP hS hl
  refine va_newI (cI := g.2.2.1) (atype := .int) (ty := .int) hx hb (hTB _ wa_int) rfl hK hP (g_D hG.1 hG.2 w) hS hA 0 rfl (n := nI 24) (N' := 24) (a0 := (24, .inl (fun _ => nI 0))) (fun _ => rfl) (by decide +kernel) (by decide +kernel) (by decide +kernel) (by omega) (by omega) hd (fun a H1 hP1 hD1 hS1 => ?_)
  have e1 : ∀ w' : WD, w'.1 9 1 = (fun _ => 0) → g_wl g w' = g_wl g w → g_wl (gR g a) w' = g_wl g w ++ [(a, .inl (g.2.2.1, 24, .inl (fun _ => nI 0)))] := fun w' h1 h2 => by rw [gR_wl hf, h1, h2]
  have e2 := e1 (wA w 9 1 (fun _ => 0)) (wA_s _ _ _ _) (wl_wA9 hf w _)
  have hD2 : va_D A (g_wl (gR g a) (wA w 9 1 (fun _ => 0))) := by rw [e2]; exact hD1
  refine kk a ⟨hx, hb, hml, hown, hTB, hNL, hK, ginj_of hD2, hcs, hScr, hA, fun n k hn hk w pc lv v h1 h2 h3 H locs ls hP hS hl => hri n k hn hk w pc lv v h1 h2 h3 H locs ls (by rw [gR_wl hf] at hP; exact va_P_left hP) hS hl⟩ H1 locs ls (by rw [e2]; exact hP1) hS1 hl
/-- which cells a method that makes cells may change -/
def Af (g : Geo) (sz : Nat) : Nat → Prop := fun q => Ag g q ∨ sz ≤ q
/-- a contract of a method that makes cells: by what its answer and its world hold -/
def CtN (mc ms : Nat) (l : Launch) (g : Geo) (sz : Nat) (y : MethodName) (bytes : ByteArray) (maxL : Nat) (ret : Option FieldType) (rm : Room) (av : List Value) (w : WD) (T : Option Value → WD → Prop) : Prop :=
  Met l y (.code y bytes maxL ret :: TB) rm (va_Pc av (fun U => U.heap.size = sz ∧ va_P g.1 vwCl (g_wl g w) U.heap ∧ va_K g.1 vwCl (g_ty g) U ∧ (∀ x ∈ NL, va_Nw x U) ∧ Ginj g)) (fun _ st o t => ∃ (r : Option Value) (w' : WD), o = .returned r ∧ T r w' ∧ va_P g.1 vwCl (g_wl g w') t.heap ∧ va_F (Af g sz) st t) mc ms (Af g sz)
theorem ct_ofN {mc ms : Nat} {l : Launch} {g : Geo} {sz : Nat} {y : MethodName} {bytes : ByteArray} {maxL : Nat} {ret : Option FieldType} {rm : Room} {av : List Value} {w : WD} {T : Option Value → WD → Prop} (hy : plainName y.cls = true) (hrc : rm.cells = mc ∧ rm.slots = ms) (hcat : ∀ v ∈ av, v.category = 1) (hlen : av.length ≤ maxL)
    (body : ∀ (p : Program) (e : Env) (s : State) (m : MethodId) (args : Array Value) (below : List Frame) (meth : Method) (c : Code) (Q : State → Prop) (A : Nat → Prop), GX l g y.cls bytes rm maxL ret T (fun _ _ _ => False) mc ms p e s m args below meth c Q A → PW l g rm maxL p e s m args below meth c Q A 0 0 w 0 (lvOf maxL av) []) : CtN mc ms l g sz y bytes maxL ret rm av w T := by
  refine Met.ofW (cc := bytes) (maxL := maxL) (ret := ret) hy rfl ?_
  intro p e s m args below meth c s₁ B hml hv
  obtain ⟨rfl, hsz, hP, hK, hN, hG⟩ := hv
  have hx := B.exec
  have hb := B.bytes
  have hr := B.returns
  have hts := atoms_spec (ws := Cond.code y bytes maxL ret :: TB) B.pre
  have hown : s.vm.findClass y.cls = some m.cls := findClass_of_methodNamed B.named
  have hl := lv_entry av (n := maxL) (by rw [lg_slen av hcat]; exact hlen)
  rw [lg_entry_eq]
  generalize (lg_sl av ++ List.replicate (maxL - (lg_sl av).length) Slot.unset).toArray = ls at hl ⊢
  have hlv : lvh ls maxL (lvOf maxL av) := ⟨hl.1, hl.2.1, fun i v h => by
    have h1 := lg_of _ av i v 0 hcat h
    rw [Nat.zero_add] at h1
    exact ⟨hl.2.2 _ h1.1, h1.2⟩⟩
  refine body p e s m av.toArray below meth c (MQ below (fun _ st o t => ∃ (r : Option Value) (w' : WD), o = .returned r ∧ T r w' ∧ va_P g.1 vwCl (g_wl g w') t.heap ∧ va_F (Af g sz) st t) av.toArray s mc ms (Af g sz)) (Af g sz) ⟨hx, hb, hml, hown, fun w hw => hts w (List.mem_cons_of_mem _ hw), hN, hK, ⟨hG, fun _ h => Or.inl h⟩, ⟨Nat.le_of_eq hrc.1.symm, Nat.le_of_eq hrc.2.symm⟩, fun _ _ _ h => h.elim, fun q hq => Or.inr (by rw [← hsz]; exact hq), ?_⟩ s.heap [] ls hP va_S.rf hlv
  intro n k hn hk w2 pc lv v hd hty hfin H locs ls hP hS hl
  obtain ⟨ty, hty, hnr⟩ := hty
  refine W.widen (k := mc) (n := ms) hn hk ?_
  exact W.zret hx hb (hr.trans hty) hnr (fun t ht _ => ⟨_, w2, rfl, hfin, by rw [ht]; exact hP, hS.F ht⟩) hS.2.2 hd
theorem ctn_blind {g : Geo} {sz : Nat} {av : List Value} {w : WD} : FrameBlind (va_Pc av (fun U => U.heap.size = sz ∧ va_P g.1 vwCl (g_wl g w) U.heap ∧ va_K g.1 vwCl (g_ty g) U ∧ (∀ x ∈ NL, va_Nw x U) ∧ Ginj g)) := fun a U fr mk q => by
  obtain ⟨q0, qz, qP, qK, qN, qG⟩ := q
  exact ⟨q0, qz, qP, va_K.moved (u := U) (U := U.calling fr mk a) (Vm.Alike.refl U.vm) qK, nl_same (s := U) (U := U.calling fr mk a) rfl qN, qG⟩
theorem ctn_pre {g : Geo} {av : List Value} {w : WD} {s : State} {H : Heap} (hP : va_P g.1 vwCl (g_wl g w) H) (hK : va_K g.1 vwCl (g_ty g) s) (hN : ∀ x ∈ NL, va_Nw x s) (hG : Ginj g) : ∀ U : State, U.heap = H → s.WarmedH U.vm → va_Pc av (fun U => U.heap.size = H.size ∧ va_P g.1 vwCl (g_wl g w) U.heap ∧ va_K g.1 vwCl (g_ty g) U ∧ (∀ x ∈ NL, va_Nw x U) ∧ Ginj g) av.toArray U :=
  fun U hU hW => ⟨rfl, by rw [hU], by rw [hU]; exact hP, va_K.moved hW.alike hK, nl_warm hW hN, hG⟩
abbrev RmOkN (mc ms : Nat) (rm rmc : Room) (maxL : Nat) : Prop := rmc.cells = mc ∧ rmc.slots = ms ∧ rmc.frames + 1 ≤ rm.frames ∧ 8 + (maxL + 11) + rmc.locals ≤ rm.locals
theorem pw_csN {l : Launch} {g : Geo} {own : String} {cc : ByteArray} {rm : Room} {nL : Nat} {ret : Option FieldType} {fin : Option Value → WD → Prop} {X : Nat → Nat → (Nat → Int32) → Prop} {mc ms : Nat} {p : Program} {e : Env} {s : State} {m : MethodId} {args : Array Value} {below : List Frame} {meth : Method} {c : Code} {Q : State → Prop} {A : Nat → Prop} (h : GX l g own cc rm nL ret fin X mc ms p e s m args below meth c Q A) {n k mc' ms' : Nat} (hn' : n + mc' ≤ mc) (hk' : k + ms' ≤ ms) {w : WD} {pc q : Nat} {lv : List (Option Value)} {st : List Value} {y : MethodName} {bytes : ByteArray} {maxL np index : Nat} {rt : Option FieldType} {rmc : Room} {T : Option Value → WD → Prop} {As : List Value} {st0 : List Value} (hd : decode cc pc = .ok (.invokestatic index, 3)) (hq : pc + 3 = q) (hM : MS y bytes maxL rt np) (hlk : Cond.methodLink own index y ∈ TB) (hrm : RmOkN mc' ms' rm rmc maxL) (hn : As.length = np) (hst : st0 = As.reverse ++ st) (hcat : (st.map fun v => v.category).sum ≤ 8) (hC : ∀ sz, CtN mc' ms' l g sz y bytes maxL rt rmc As w T) (kk : ∀ r w', T r w' → PW l g rm nL p e s m args below meth c Q A (n + mc') (k + ms') w' q lv (r.toList ++ st)) : PW l g rm nL p e s m args below meth c Q A n k w pc lv st0 := by
  subst hst
  obtain ⟨hx, hb, hml, hown, hTB, hNL, hK, hG, hcs, hScr, hA, hri⟩ := h
  subst hq
  intro H locs ls hP hS hl
  obtain ⟨h1, h3, h4, h5, h6⟩ := hM
  have hr := va_runS (own := own) (index := index) (n := np) (y := y) (bytes := bytes) (maxL := maxL) (ret := rt) (As := As) (rest := st) (g := F0 m pc ls (As.reverse ++ st)) (p := p) (e := e) (s := s) (m := m) (args := args) (below := below) (meth := meth) (c := c) (H := H) (locs := locs) (cells := n) (slots := k) (R := rm) ⟨hx, hb, hml, hown, hTB⟩ (hC H.size) ⟨⟨hrm.1, hrm.2.1, hrm.2.2.1, hrm.2.2.2, ct_ws hTB h4, List.mem_cons_self, hTB _ h4, hTB _ h3, ⟨h5.1, h5.2.1⟩, fun sig hs => by have h9 := h5.2.2; rw [hs] at h9; exact (Option.some.inj h9).symm, hTB _ hlk⟩, hTB _ h1⟩ ⟨ctn_blind, ctn_pre hP hK hNL hG.1⟩ rfl hn hl.1 rfl (lv_room hcat) hd ⟨by omega, by omega⟩
  intro TT hT XX
  obtain ⟨v, st₀, t, T', L, h0, X', hL, e1, e2, ⟨r, w', hv, hT', hP', hF⟩, stp⟩ := hr TT hT XX
  cases hv
  obtain ⟨hz, hk⟩ := hF
  rw [h0] at hz hk
  have hAf : ∀ q, Af g H.size q → A q := fun q hq => by
    rcases hq with hq | hq
    · exact hG.2 q hq
    · exact hA q (Nat.le_trans hS.1 hq)
  have hS1 : va_S A s.heap T'.heap (locs ++ L) := ⟨Nat.le_trans hS.1 (by rw [e1]; exact hz), fun q h1 h2 => by rw [e1, hk q (Nat.lt_of_lt_of_le h1 hS.1) (fun z => h2 (hAf q z))]; exact hS.2.1 q h1 h2, fun q hq => by
    rcases List.mem_append.mp hq with h | h
    · exact hS.2.2 q h
    · exact hAf _ (hL q h)⟩
  obtain ⟨t2, a1, b1⟩ := kk _ w' hT' T'.heap (locs ++ L) ls (by rw [e1]; exact hP') hS1 hl T' rfl X'
  exact ⟨t2, stp t2 a1, b1⟩
/-- a contract of a method that reads the script too -/
def CtS (b L : Nat) (xs : Nat → Int32) (l : Launch) (g : Geo) (y : MethodName) (bytes : ByteArray) (maxL : Nat) (ret : Option FieldType) (rm : Room) (av : List Value) (w : WD) (T : Option Value → WD → Prop) : Prop :=
  Met l y (.code y bytes maxL ret :: TB) rm (va_Pc av (fun U => (va_X b L xs U U.heap ∧ b < U.heap.size ∧ ¬ Ag g b) ∧ va_P g.1 vwCl (g_wl g w) U.heap ∧ va_K g.1 vwCl (g_ty g) U ∧ (∀ x ∈ NL, va_Nw x U) ∧ Ginj g)) (fun _ st o t => ∃ (r : Option Value) (w' : WD), o = .returned r ∧ T r w' ∧ va_P g.1 vwCl (g_wl g w') t.heap ∧ va_F (Ag g) st t) 0 0 (Ag g)
theorem ct_ofS {b L : Nat} {xs : Nat → Int32} {l : Launch} {g : Geo} {y : MethodName} {bytes : ByteArray} {maxL : Nat} {ret : Option FieldType} {rm : Room} {av : List Value} {w : WD} {T : Option Value → WD → Prop} (hy : plainName y.cls = true) (hrc : rm.cells = 0 ∧ rm.slots = 0) (hcat : ∀ v ∈ av, v.category = 1) (hlen : av.length ≤ maxL)
    (body : ∀ P : PT, Gd l g y.cls bytes rm maxL ret T (fun b' L' xs' => b' = b ∧ L' = L ∧ xs' = xs) P → P w 0 (lvOf maxL av) []) : CtS b L xs l g y bytes maxL ret rm av w T := by
  refine Met.ofW (cc := bytes) (maxL := maxL) (ret := ret) hy rfl ?_
  intro p e s m args below meth c s₁ B hml hv
  obtain ⟨rfl, ⟨hX, hbl, hbA⟩, hP, hK, hN, hG⟩ := hv
  have hx := B.exec
  have hb := B.bytes
  have hr := B.returns
  have hts := atoms_spec (ws := Cond.code y bytes maxL ret :: TB) B.pre
  have hown : s.vm.findClass y.cls = some m.cls := findClass_of_methodNamed B.named
  have hl := lv_entry av (n := maxL) (by rw [lg_slen av hcat]; exact hlen)
  rw [lg_entry_eq]
  generalize (lg_sl av ++ List.replicate (maxL - (lg_sl av).length) Slot.unset).toArray = ls at hl ⊢
  have hlv : lvh ls maxL (lvOf maxL av) := ⟨hl.1, hl.2.1, fun i v h => by
    have h1 := lg_of _ av i v 0 hcat h
    rw [Nat.zero_add] at h1
    exact ⟨hl.2.2 _ h1.1, h1.2⟩⟩
  refine body _ ⟨p, e, s, m, av.toArray, below, meth, c, 0, 0, MQ below (fun _ st o t => ∃ (r : Option Value) (w' : WD), o = .returned r ∧ T r w' ∧ va_P g.1 vwCl (g_wl g w') t.heap ∧ va_F (Ag g) st t) av.toArray s 0 0 (Ag g), Ag g, rfl, hx, hb, hml, hown, fun w hw => hts w (List.mem_cons_of_mem _ hw), hN, hK, ⟨hG, fun _ h => h⟩, ⟨Nat.zero_le _, Nat.zero_le _⟩, fun b' L' xs' h => by obtain ⟨rfl, rfl, rfl⟩ := h; exact ⟨hbl, hbA, hX⟩, ?_, ?_⟩ s.heap [] ls hP va_S.rf hlv
  · intro w2 pc lv v hd hty hfin H locs ls hP hS hl
    obtain ⟨ty, hty, hn⟩ := hty
    exact W.zret hx hb (hr.trans hty) hn (fun t ht _ => ⟨_, w2, rfl, hfin, by rw [ht]; exact hP, hS.F ht⟩) hS.2.2 hd
  · intro w2 pc lv hd hty hfin H locs ls hP hS hl
    exact W.vret hx hb (hr.trans hty) (fun t ht _ => ⟨_, w2, rfl, hfin, by rw [ht]; exact hP, hS.F ht⟩) hS.2.2 hd
theorem cts_blind {b L : Nat} {xs : Nat → Int32} {g : Geo} {av : List Value} {w : WD} : FrameBlind (va_Pc av (fun U => (va_X b L xs U U.heap ∧ b < U.heap.size ∧ ¬ Ag g b) ∧ va_P g.1 vwCl (g_wl g w) U.heap ∧ va_K g.1 vwCl (g_ty g) U ∧ (∀ x ∈ NL, va_Nw x U) ∧ Ginj g)) := fun a U fr mk q => by
  obtain ⟨q0, ⟨qX, ql, qA⟩, qP, qK, qN, qG⟩ := q
  exact ⟨q0, ⟨va_X.moved (u := U) (U := U.calling fr mk a) (Vm.Alike.refl U.vm) qX, ql, qA⟩, qP, va_K.moved (u := U) (U := U.calling fr mk a) (Vm.Alike.refl U.vm) qK, nl_same (s := U) (U := U.calling fr mk a) rfl qN, qG⟩
theorem pw_csS {b L : Nat} {xs : Nat → Int32} {l : Launch} {g : Geo} {own : String} {cc : ByteArray} {rm : Room} {nL : Nat} {ret : Option FieldType} {fin : Option Value → WD → Prop} {X : Nat → Nat → (Nat → Int32) → Prop} {P : PT} (hX : Gd l g own cc rm nL ret fin X P) (hb0 : X b L xs) {w : WD} {pc q : Nat} {lv : List (Option Value)} {st : List Value} {y : MethodName} {bytes : ByteArray} {maxL n index : Nat} {rt : Option FieldType} {rmc : Room} {T : Option Value → WD → Prop} {As : List Value} {st0 : List Value} (hd : decode cc pc = .ok (.invokestatic index, 3)) (hq : pc + 3 = q) (hM : MS y bytes maxL rt n) (hlk : Cond.methodLink own index y ∈ TB) (hrm : RmOk rm rmc maxL) (hn : As.length = n) (hst : st0 = As.reverse ++ st) (hcat : (st.map fun v => v.category).sum ≤ 8) (hC : CtS b L xs l g y bytes maxL rt rmc As w T) (kk : ∀ r w', T r w' → P w' q lv (r.toList ++ st)) : P w pc lv st0 := by
  subst hst
  obtain ⟨p, e, s, m, args, below, meth, c, cells, slots, Q, A, rfl, hx, hb, hml, hown, hTB, hNL, hK, hG, hcs, hScr, hri, hrv⟩ := hX
  subst hq
  obtain ⟨x1, x2, x3⟩ := hScr _ _ _ hb0
  intro H locs ls hP hS hl
  obtain ⟨h1, h3, h4, h5, h6⟩ := hM
  have hr := va_runS (own := own) (index := index) (n := n) (y := y) (bytes := bytes) (maxL := maxL) (ret := rt) (As := As) (rest := st) (g := F0 m pc ls (As.reverse ++ st)) (p := p) (e := e) (s := s) (m := m) (args := args) (below := below) (meth := meth) (c := c) (H := H) (locs := locs) (cells := cells) (slots := slots) (R := rm) ⟨hx, hb, hml, hown, hTB⟩ hC ⟨⟨hrm.1, hrm.2.1, hrm.2.2.1, hrm.2.2.2, ct_ws hTB h4, List.mem_cons_self, hTB _ h4, hTB _ h3, ⟨h5.1, h5.2.1⟩, fun sig hs => by have h9 := h5.2.2; rw [hs] at h9; exact (Option.some.inj h9).symm, hTB _ hlk⟩, hTB _ h1⟩ ⟨cts_blind, fun U hU hW => ⟨rfl, ⟨by rw [hU]; exact (x3.kept (hS.2.1 b x1 x2)).moved hW.alike, by rw [hU]; exact Nat.lt_of_lt_of_le x1 hS.1, fun z => x2 (hG.2 b z)⟩, (ct_pre (av := As) hP hK hNL hG.1 U hU hW).2⟩⟩ rfl hn hl.1 rfl (lv_room hcat) hd ⟨hcs.1, hcs.2⟩
  intro TT hT XX
  obtain ⟨v, st₀, t, T', L, h0, X', hL, e1, e2, ⟨r, w', hv, hT', hP', hF⟩, stp⟩ := hr TT hT XX
  cases hv
  obtain ⟨hz, hk⟩ := hF
  rw [h0] at hz hk
  have hS1 : va_S A s.heap T'.heap (locs ++ L) := ⟨Nat.le_trans hS.1 (by rw [e1]; exact hz), fun q h1 h2 => by rw [e1, hk q (Nat.lt_of_lt_of_le h1 hS.1) (fun z => h2 (hG.2 q z))]; exact hS.2.1 q h1 h2, fun q hq => by
    rcases List.mem_append.mp hq with h | h
    · exact hS.2.2 q h
    · exact hG.2 _ (hL q h)⟩
  obtain ⟨t2, a1, b1⟩ := kk _ w' hT' T'.heap (locs ++ L) ls (by rw [e1]; exact hP') hS1 hl T' rfl X'
  exact ⟨t2, stp t2 a1, b1⟩
