/-! THE WORLD as numbers: objects 0..6 villages (0 now, 1 trial, 2..6 the history's), 7 orders, 8 history, 9 the reference, 10 the class's own object; part 0 of an object: its int fields by their slots, part k its k-th array -/
abbrev WD : Type := (Nat → Nat → Nat → Nat) × (Nat → Nat)
def upN (f : Nat → Nat) (k x : Nat) : Nat → Nat := fun j => if j = k then x else f j
theorem upN_I (f : Nat → Nat) (k x : Nat) : upd (fun j => nI (f j)) k (nI x) = fun j => nI (upN f k x j) := by
  funext j
  by_cases h : j = k
  · simp [upd, upN, h]
  · simp [upd, upN, h]
theorem upN_s (f : Nat → Nat) (k x : Nat) : upN f k x k = x := by simp [upN]
theorem upN_n (f : Nat → Nat) {k j : Nat} (x : Nat) (h : j ≠ k) : upN f k x j = f j := by simp [upN, h]
abbrev Geo : Type := va_G × (Nat → Nat → Nat) × (ClassId × ClassId × ClassId × Bool)
def g_ad (g : Geo) : Nat → Nat → Nat := g.2.1
def g_ty (g : Geo) : List (ClassId × FieldType) := [(g.2.2.1, .int), (g.2.2.2.1, .char), (g.2.2.2.2.1, .object RX2)]
def lnV (k : Nat) : Nat := if k < 5 then 7 else if k < 11 then 84 else 12
def lnM (_ : Nat) : Nat := 24
def g_ci (o : Nat) : Nat := if o < 7 then 2 else if o = 7 then 1 else if o = 8 then 0 else 3
def fsV (g : Geo) (w : WD) (o : Nat) : List Value := [.int (nI (w.1 o 0 0)), .int (nI (w.1 o 0 1)), .int (nI (w.1 o 0 2)), .int (nI (w.1 o 0 3)), .ref (g_ad g o 1), .ref (g_ad g o 2), .ref (g_ad g o 3), .ref (g_ad g o 4), .ref (g_ad g o 5), .ref (g_ad g o 6), .ref (g_ad g o 7), .ref (g_ad g o 8), .ref (g_ad g o 9), .ref (g_ad g o 10), .ref (g_ad g o 11)]
def fsO (g : Geo) (w : WD) : List Value := [.ref (g_ad g 7 1), .int (nI (w.1 7 0 1)), .ref (g_ad g 7 2), .int (nI (w.1 7 0 3)), .int (nI (w.1 7 0 4)), .int (nI (w.1 7 0 5))]
def fsH (g : Geo) (w : WD) : List Value := [.ref (g_ad g 8 1), .int (nI (w.1 8 0 1))]
def fsR (g : Geo) : List Value := [.ref (g_ad g 0 0), .ref (g_ad g 1 0), .ref (g_ad g 8 0), .ref (g_ad g 7 0)]
def g_fs (g : Geo) (w : WD) (o : Nat) : List Value := if o < 7 then fsV g w o else if o = 7 then fsO g w else if o = 8 then fsH g w else fsR g
def g_ch (o k : Nat) : Bool := decide (o = 7) && decide (k = 1)
def g_ln (o k : Nat) : Nat := if o < 7 then lnV k else if o = 7 then (if k = 1 then 60 else 3) else lnM k
def g_cell (g : Geo) (w : WD) (o k : Nat) : va_E := if k = 0 then .inr (g_ci o, g_fs g w o) else if o = 8 then .inl (g.2.2.2.2.1, 5, .inr (.inr (.inr (.inr (fun i => some (g_ad g (w.2 i) 0)))))) else .inl ((if g_ch o k = true then g.2.2.2.1 else g.2.2.1), g_ln o k, .inl (fun j => nI (w.1 o k j)))
def g_d0 : List (Nat × Nat) := (List.range 7).flatMap (fun o => (List.range 12).map (fun k => (o, k))) ++ [(7,0),(7,1),(7,2),(8,0),(8,1),(10,0)]
def g_dF : List (Nat × Nat) := g_d0 ++ [(9,1)]
def g_fl (g : Geo) : Bool := g.2.2.2.2.2
def g_dm (g : Geo) : List (Nat × Nat) := g_d0 ++ (if g_fl g = true then [(9,1)] else [])
theorem dmb {g : Geo} {q : Nat × Nat} (h : q ∈ g_d0) : q ∈ g_dm g := List.mem_append_left _ h
theorem dm9 {g : Geo} (h : g_fl g = true) : (9, 1) ∈ g_dm g := List.mem_append_right _ (by rw [if_pos h]; exact List.mem_cons_self)
theorem dmF {g : Geo} {q : Nat × Nat} (h : q ∈ g_dm g) : q ∈ g_dF := by
  rcases List.mem_append.mp h with h | h
  · exact List.mem_append_left _ h
  · refine List.mem_append_right _ ?_
    by_cases hf : g_fl g = true
    · rw [if_pos hf] at h; exact h
    · rw [if_neg hf] at h; exact absurd h List.not_mem_nil
theorem d0V {o k : Nat} (ho : o < 7) (hk : k < 12) : (o, k) ∈ g_d0 := List.mem_append_left _ (List.mem_flatMap.mpr ⟨o, List.mem_range.mpr ho, List.mem_map.mpr ⟨k, List.mem_range.mpr hk, rfl⟩⟩)
theorem dmV {g : Geo} {o k : Nat} (ho : o < 7) (hk : k < 12) : (o, k) ∈ g_dm g := dmb (d0V ho hk)
theorem dm_inj {g : Geo} {i j : Nat} {q : Nat × Nat} (h1 : (g_dm g)[i]? = some q) (h2 : (g_dm g)[j]? = some q) : i = j := by
  unfold g_dm at h1 h2
  by_cases hf : g_fl g = true
  · rw [if_pos hf] at h1 h2
    exact va_nd_inj ((g_d0 ++ [(9,1)]).map (fun q : Nat × Nat => 100 * q.1 + q.2)) (by decide +kernel) i j (100 * q.1 + q.2) (by rw [List.getElem?_map, h1]; rfl) (by rw [List.getElem?_map, h2]; rfl)
  · rw [if_neg hf] at h1 h2
    exact va_nd_inj ((g_d0 ++ []).map (fun q : Nat × Nat => 100 * q.1 + q.2)) (by decide +kernel) i j (100 * q.1 + q.2) (by rw [List.getElem?_map, h1]; rfl) (by rw [List.getElem?_map, h2]; rfl)
def g_wl (g : Geo) (w : WD) : va_W := (g_dm g).map (fun q => (g_ad g q.1 q.2, g_cell g w q.1 q.2))
theorem wl_at (g : Geo) {q : Nat × Nat} (h : q ∈ g_dm g) : ∃ i : Nat, (g_dm g)[i]? = some q ∧ ∀ w : WD, (g_wl g w)[i]? = some (g_ad g q.1 q.2, g_cell g w q.1 q.2) := by
  obtain ⟨i, hi⟩ := List.getElem?_of_mem h
  exact ⟨i, hi, fun w => by simp [g_wl, List.getElem?_map, hi]⟩
theorem wl_set {g : Geo} {w w' : WD} {q : Nat × Nat} {i : Nat} (hi : (g_dm g)[i]? = some q) (hne : ∀ o k, (o, k) ∈ g_dm g → (o, k) ≠ q → g_cell g w' o k = g_cell g w o k) {e : va_E} (he : g_cell g w' q.1 q.2 = e) : (g_wl g w).set i (g_ad g q.1 q.2, e) = g_wl g w' := by
  subst he
  apply List.ext_getElem?
  intro j
  have hlt : i < (g_dm g).length := (List.getElem?_eq_some_iff.mp hi).1
  by_cases hj : i = j
  · subst hj
    rw [List.getElem?_set_self (by simpa [g_wl] using hlt)]
    simp [g_wl, List.getElem?_map, hi]
  · rw [List.getElem?_set_ne hj]
    simp only [g_wl, List.getElem?_map]
    cases hq : (g_dm g)[j]? with
    | none => rfl
    | some q' =>
      have hne' : q' ≠ q := by
        intro h
        subst h
        exact hj (dm_inj hi hq)
      simp only [Option.map_some]
      rw [hne q'.1 q'.2 (List.mem_of_getElem? hq) hne']
/-- a new content of a part of an object -/
def wA (w : WD) (o k : Nat) (f : Nat → Nat) : WD := (fun a b => if a = o ∧ b = k then f else w.1 a b, w.2)
def wH (w : WD) (i v : Nat) : WD := (w.1, fun j => if j = i then v else w.2 j)
theorem wA_s (w : WD) (o k : Nat) (f : Nat → Nat) : (wA w o k f).1 o k = f := by simp [wA]
theorem wA_n (w : WD) {o k o' k' : Nat} (f : Nat → Nat) (h : ¬ (o' = o ∧ k' = k)) : (wA w o k f).1 o' k' = w.1 o' k' := by simp only [wA]; rw [if_neg h]
theorem wA_2 (w : WD) (o k : Nat) (f : Nat → Nat) : (wA w o k f).2 = w.2 := rfl
theorem wA_id (w : WD) (o k : Nat) : wA w o k (w.1 o k) = w := by
  refine Prod.ext (funext fun a => funext fun b => ?_) rfl
  by_cases h : a = o ∧ b = k
  · obtain ⟨rfl, rfl⟩ := h; simp [wA]
  · simp only [wA]; rw [if_neg h]
theorem wA_wA (w : WD) (o k : Nat) (f f' : Nat → Nat) : wA (wA w o k f) o k f' = wA w o k f' := by
  refine Prod.ext (funext fun a => funext fun b => ?_) rfl
  simp only [wA]
  by_cases h : a = o ∧ b = k
  · rw [if_pos h, if_pos h]
  · rw [if_neg h, if_neg h, if_neg h]
theorem cell_wA {g : Geo} {w : WD} {o k o' k' : Nat} {f : Nat → Nat} (h : (o', k') ≠ (o, k)) : g_cell g (wA w o k f) o' k' = g_cell g w o' k' := by
  have hn : ¬ (o' = o ∧ k' = k) := fun z => h (by rw [z.1, z.2])
  unfold g_cell
  by_cases hk : k' = 0
  · subst hk
    rw [if_pos rfl, if_pos rfl]
    have e : ∀ a, a = o' → (wA w o k f).1 a 0 = w.1 a 0 := fun a ha => wA_n w f (by rw [ha]; exact hn)
    unfold g_fs
    by_cases h1 : o' < 7
    · simp only [if_pos h1, fsV, e o' rfl]
    · by_cases h2 : o' = 7
      · subst h2; simp [fsO, e 7 rfl]
      · by_cases h3 : o' = 8
        · subst h3; simp [fsH, e 8 rfl]
        · simp only [if_neg h1, if_neg h2, if_neg h3]
  · rw [if_neg hk, if_neg hk, wA_n w f hn]
    rfl
theorem cell_wH {g : Geo} {w : WD} {i v o' k' : Nat} (h : (o', k') ≠ (8, 1)) (hk2 : k' < 2 ∨ o' ≠ 8) : g_cell g (wH w i v) o' k' = g_cell g w o' k' := by
  unfold g_cell
  by_cases hk : k' = 0
  · subst hk; rfl
  · rw [if_neg hk, if_neg hk]
    by_cases h8 : o' = 8
    · exact absurd (show (o', k') = (8, 1) by rw [h8, show k' = 1 by omega]) h
    · rw [if_neg h8, if_neg h8]; rfl
/-- locals by their slots -/
def lg : List (Option Value) → Nat → Option Value
  | [], _ => none
  | a :: _, 0 => a
  | _ :: l, n + 1 => lg l n
def lst : List (Option Value) → Nat → Value → List (Option Value)
  | [], _, _ => []
  | _ :: l, 0, v => some v :: l
  | a :: l, n + 1, v => a :: lst l n v
theorem lg_lst : ∀ (l : List (Option Value)) (i j : Nat) (v u : Value), lg (lst l i v) j = some u → (j = i ∧ u = v) ∨ (j ≠ i ∧ lg l j = some u)
  | [], _, _, _, _, h => by simp [lst, lg] at h
  | _ :: l, 0, 0, v, u, h => Or.inl ⟨rfl, by simpa [lst, lg] using h.symm⟩
  | _ :: l, 0, j + 1, v, u, h => Or.inr ⟨by omega, by simpa [lst, lg] using h⟩
  | _ :: l, i + 1, 0, v, u, h => Or.inr ⟨by omega, by simpa [lst, lg] using h⟩
  | _ :: l, i + 1, j + 1, v, u, h => by
    rcases lg_lst l i j v u (by simpa [lst, lg] using h) with ⟨a, b⟩ | ⟨a, b⟩
    · exact Or.inl ⟨by omega, b⟩
    · exact Or.inr ⟨by omega, by simpa [lg] using b⟩
def lvh (ls : Array Slot) (nL : Nat) (lv : List (Option Value)) : Prop := ls.size = nL ∧ lv_wf ls ∧ ∀ i v, lg lv i = some v → ls[i]? = some (.val v) ∧ v.category = 1
def lvl (nL : Nat) (lv : List (Option Value)) : List (Nat × Value) := (List.range nL).filterMap (fun i => (lg lv i).map (fun v => (i, v)))
theorem lvl_mem {nL : Nat} {lv : List (Option Value)} {i : Nat} {v : Value} (hi : i < nL) (h : lg lv i = some v) : (i, v) ∈ lvl nL lv := List.mem_filterMap.mpr ⟨i, List.mem_range.mpr hi, by rw [h]; rfl⟩
theorem lvh.has {ls : Array Slot} {nL : Nat} {lv : List (Option Value)} (h : lvh ls nL lv) : lv_has ls nL (lvl nL lv) := by
  refine ⟨h.1, h.2.1, fun q hq => ?_⟩
  obtain ⟨i, -, hi⟩ := List.mem_filterMap.mp hq
  cases hg : lg lv i with
  | none => rw [hg] at hi; cases hi
  | some v =>
    rw [hg] at hi
    cases hi
    exact (h.2.2 i v hg).1
theorem lvh.put {ls ls' : Array Slot} {nL i : Nat} {lv : List (Option Value)} {v : Value} (h : lvh ls nL lv) (hc : v.category = 1) (h' : lv_has ls' nL ((i, v) :: (lvl nL lv).filter (fun q => !(q.1 == i) && !(q.1 + 1 == i && q.2.category == 2)))) : lvh ls' nL (lst lv i v) := by
  refine ⟨h'.1, h'.2.1, fun j u hj => ?_⟩
  rcases lg_lst lv i j v u hj with ⟨rfl, rfl⟩ | ⟨hne, hg⟩
  · exact ⟨h'.2.2 _ List.mem_cons_self, hc⟩
  · obtain ⟨g1, g2⟩ := h.2.2 j u hg
    have hjn : j < nL := by rw [← h.1]; exact lv_lt g1
    refine ⟨h'.2.2 (j, u) (List.mem_cons_of_mem _ (List.mem_filter.mpr ⟨lvl_mem hjn hg, ?_⟩)), g2⟩
    have e1 : (j == i) = false := by simpa using hne
    have e2 : (u.category == 2) = false := by rw [g2]; rfl
    simp only [e1, e2, Bool.and_false, Bool.not_false, Bool.and_self]
/-- the nest words stay -/
theorem nl_warm {s U : State} (hW : s.WarmedH U.vm) (h : ∀ x ∈ NL, va_Nw x s) : ∀ x ∈ NL, va_Nw x U := by
  intro x hx
  have h1 := h x hx
  have h2 := (List.mem_filter.mp hx).2
  cases x <;> first | exact va_Nw.warmF hW h1 | exact va_Nw.warmM hW h1 | (simp [NWq] at h2)
theorem nl_same {s U : State} (hv : s.vm = U.vm) (h : ∀ x ∈ NL, va_Nw x s) : ∀ x ∈ NL, va_Nw x U := by
  intro x hx
  have h1 := h x hx
  have h2 := (List.mem_filter.mp hx).2
  cases x <;> first | exact va_Nw.same rfl hv h1 | (simp [NWq] at h2)
def Ag (g : Geo) : Nat → Prop := fun q => ∃ z ∈ g_dm g, q = g_ad g z.1 z.2
def Ginj (g : Geo) : Prop := ∀ z ∈ g_dm g, ∀ z' ∈ g_dm g, g_ad g z.1 z.2 = g_ad g z'.1 z'.2 → z = z'
theorem g_D {g : Geo} {A : Nat → Prop} (hi : Ginj g) (hA : ∀ q, Ag g q → A q) (w : WD) : va_D A (g_wl g w) := by
  refine ⟨fun i j p q hp hq he => ?_, fun k q hk => ?_⟩
  · simp only [g_wl, List.getElem?_map] at hp hq
    cases h1 : (g_dm g)[i]? with
    | none => rw [h1] at hp; cases hp
    | some z =>
      cases h2 : (g_dm g)[j]? with
      | none => rw [h2] at hq; cases hq
      | some z' =>
        rw [h1] at hp; rw [h2] at hq
        cases hp; cases hq
        have e := hi z (List.mem_of_getElem? h1) z' (List.mem_of_getElem? h2) he
        subst e
        exact dm_inj h1 h2
  · simp only [g_wl, List.getElem?_map] at hk
    cases h1 : (g_dm g)[k]? with
    | none => rw [h1] at hk; cases hk
    | some z =>
      rw [h1] at hk
      cases hk
      exact hA _ ⟨z, List.mem_of_getElem? h1, rfl⟩
/-- a point of a method's run: the world, the place, the locals, the stack -/
abbrev PT : Type := WD → Nat → List (Option Value) → List Value → Prop
def Gd (l : Launch) (g : Geo) (own : String) (cc : ByteArray) (rm : Room) (nL : Nat) (ret : Option FieldType) (fin : Option Value → WD → Prop) (X : Nat → Nat → (Nat → Int32) → Prop) (P : PT) : Prop :=
  ∃ (p : Program) (e : Env) (s : State) (m : MethodId) (args : Array Value) (below : List Frame) (meth : Method) (c : Code) (cells slots : Nat) (Q : State → Prop) (A : Nat → Prop),
    P = (fun w pc lv st => ∀ (H : Heap) (locs : List Loc) (ls : Array Slot), va_P g.1 vwCl (g_wl g w) H → va_S A s.heap H locs → lvh ls nL lv → W p l e rm s m args below meth c H locs cells slots Q (F0 m pc ls st)) ∧
    p.tables.exec = Jvm.exec ∧ c.code = cc ∧ c.maxLocals = nL ∧ s.vm.findClass own = some m.cls ∧ (∀ w ∈ TB, w.before args s = true) ∧ (∀ x ∈ NL, va_Nw x s) ∧ va_K g.1 vwCl (g_ty g) s ∧ (Ginj g ∧ ∀ q, Ag g q → A q) ∧ (cells ≤ rm.cells ∧ slots ≤ rm.slots) ∧
    (∀ b L xs, X b L xs → b < s.heap.size ∧ ¬ A b ∧ va_X b L xs s s.heap) ∧
    (∀ w pc lv v, decode cc pc = .ok (.ireturn, 1) → (∃ ty, ret = some ty ∧ narrow ty (.int v) = .int v) → fin (some (.int v)) w → P w pc lv [.int v]) ∧
    (∀ w pc lv, decode cc pc = .ok (.return_, 1) → ret = none → fin none w → P w pc lv [])
/-- a method's contract over the whole world: what it answers, what the world is then -/
def Ct (l : Launch) (g : Geo) (y : MethodName) (bytes : ByteArray) (maxL : Nat) (ret : Option FieldType) (rm : Room) (av : List Value) (w : WD) (T : Option Value → WD → Prop) : Prop :=
  Met l y (.code y bytes maxL ret :: TB) rm (va_Pc av (fun U => va_P g.1 vwCl (g_wl g w) U.heap ∧ va_K g.1 vwCl (g_ty g) U ∧ (∀ x ∈ NL, va_Nw x U) ∧ Ginj g)) (fun _ st o t => ∃ (r : Option Value) (w' : WD), o = .returned r ∧ T r w' ∧ va_P g.1 vwCl (g_wl g w') t.heap ∧ va_F (Ag g) st t) 0 0 (Ag g)
def lvOf (nL : Nat) (av : List Value) : List (Option Value) := av.map some ++ List.replicate (nL - av.length) none
theorem lg_of : ∀ (n : Nat) (av : List Value) (i : Nat) (v : Value) (b : Nat), (∀ v ∈ av, v.category = 1) → lg (av.map some ++ List.replicate n none) i = some v → (b + i, v) ∈ lv_args b av ∧ v.category = 1
  | n, [], i, v, b, _, h => by
    exfalso
    have : ∀ (n i : Nat), lg (List.replicate n none) i = none := by
      intro n
      induction n with
      | zero => intro i; rfl
      | succ n ih => intro i; cases i with
        | zero => rfl
        | succ i => exact ih i
    rw [List.map_nil, List.nil_append, this] at h
    cases h
  | n, a :: av, 0, v, b, hc, h => by
    have e : a = v := by simpa [lg] using h
    subst e
    exact ⟨List.mem_cons_self, hc a List.mem_cons_self⟩
  | n, a :: av, i + 1, v, b, hc, h => by
    have h1 := lg_of n av i v (b + 1) (fun u hu => hc u (List.mem_cons_of_mem _ hu)) (by simpa [lg] using h)
    have h2 : ¬ a.category = 2 := by rw [hc a List.mem_cons_self]; decide
    refine ⟨?_, h1.2⟩
    show (b + (i + 1), v) ∈ (b, a) :: lv_args (if a.category = 2 then b + 2 else b + 1) av
    rw [if_neg h2, show b + (i + 1) = b + 1 + i by omega]
    exact List.mem_cons_of_mem _ h1.1
theorem lg_slen (av : List Value) (hc : ∀ v ∈ av, v.category = 1) : (lg_sl av).length = av.length := by
  induction av with
  | nil => rfl
  | cons a av ih =>
    have h2 : ¬ a.category = 2 := by rw [hc a List.mem_cons_self]; decide
    have := ih (fun u hu => hc u (List.mem_cons_of_mem _ hu))
    simp only [lg_sl] at this
    simp [lg_sl, h2, this]
theorem ct_of {l : Launch} {g : Geo} {y : MethodName} {bytes : ByteArray} {maxL : Nat} {ret : Option FieldType} {rm : Room} {av : List Value} {w : WD} {T : Option Value → WD → Prop} (hy : plainName y.cls = true) (hrc : rm.cells = 0 ∧ rm.slots = 0) (hcat : ∀ v ∈ av, v.category = 1) (hlen : av.length ≤ maxL)
    (body : ∀ P : PT, Gd l g y.cls bytes rm maxL ret T (fun _ _ _ => False) P → P w 0 (lvOf maxL av) []) : Ct l g y bytes maxL ret rm av w T := by
  refine Met.ofW (cc := bytes) (maxL := maxL) (ret := ret) hy rfl ?_
  intro p e s m args below meth c s₁ B hml hv
  obtain ⟨rfl, hP, hK, hN, hG⟩ := hv
  have hx := B.exec
  have hb := B.bytes
  have hr := B.returns
  have hts := atoms_spec (ws := Cond.code y bytes maxL ret :: TB) B.pre
  have hown : s.vm.findClass y.cls = some m.cls := findClass_of_methodNamed B.named
  have hlocks := B.notSynchronized
  have hl := lv_entry av (n := maxL) (by rw [lg_slen av hcat]; exact hlen)
  rw [lg_entry_eq]
  generalize (lg_sl av ++ List.replicate (maxL - (lg_sl av).length) Slot.unset).toArray = ls at hl ⊢
  have hlv : lvh ls maxL (lvOf maxL av) := ⟨hl.1, hl.2.1, fun i v h => by
    have h1 := lg_of _ av i v 0 hcat h
    rw [Nat.zero_add] at h1
    exact ⟨hl.2.2 _ h1.1, h1.2⟩⟩
  refine body _ ⟨p, e, s, m, av.toArray, below, meth, c, 0, 0, MQ below (fun _ st o t => ∃ (r : Option Value) (w' : WD), o = .returned r ∧ T r w' ∧ va_P g.1 vwCl (g_wl g w') t.heap ∧ va_F (Ag g) st t) av.toArray s 0 0 (Ag g), Ag g, rfl, hx, hb, hml, hown, fun w hw => hts w (List.mem_cons_of_mem _ hw), hN, hK, ⟨hG, fun _ h => h⟩, ⟨Nat.zero_le _, Nat.zero_le _⟩, fun _ _ _ h => h.elim, ?_, ?_⟩ s.heap [] ls hP va_S.rf hlv
  · intro w2 pc lv v hd hty hfin H locs ls hP hS hl
    obtain ⟨ty, hty, hn⟩ := hty
    exact W.zret hx hb (hr.trans hty) hn (fun t ht _ => ⟨_, w2, rfl, hfin, by rw [ht]; exact hP, hS.F ht⟩) hS.2.2 hd
  · intro w2 pc lv hd hty hfin H locs ls hP hS hl
    exact W.vret hx hb (hr.trans hty) (fun t ht _ => ⟨_, w2, rfl, hfin, by rw [ht]; exact hP, hS.F ht⟩) hS.2.2 hd
