theorem ofI (k : Nat) (h : k < 2 ^ 31) : Int32.ofInt (k : Int) = nI k := by
  apply Int32.toInt_inj.mp
  rw [nI_toInt h, Int32.toInt_ofInt_of_le (by omega) (by omega)]
theorem lvh.gi {ls : Array Slot} {nL i : Nat} {lv : List (Option Value)} {v : Value} (h : lvh ls nL lv) (hl : lg lv i = some v) : ls[i]? = some (.val v) := (h.2.2 i v hl).1
def bI (b : Bool) : Int32 := if b = true then nI 1 else nI 0
theorem bI_t : bI true = nI 1 := rfl
theorem bI_f : bI false = nI 0 := rfl
theorem bI_nar (b : Bool) : narrow .boolean (.int (bI b)) = .int (bI b) := by cases b <;> rfl
theorem bI_eq0 (b : Bool) : bI b = 0 ↔ b = false := by cases b <;> decide
def weq (w w' : WD) : Prop := (∀ o k j, (o, k) ∈ g_dF → j < (if k = 0 then 10 else g_ln o k) → w.1 o k j = w'.1 o k j) ∧ ∀ i, i < 5 → w.2 i = w'.2 i
theorem arrV_congr {cA : ClassId} {n : Nat} {f f' : Nat → Value} (h : ∀ j, j < n → f j = f' j) : arrV cA n f = arrV cA n f' := by
  have e : (Array.ofFn (n := n) fun j => f j.val) = Array.ofFn (n := n) fun j => f' j.val := by
    apply congrArg
    funext j
    exact h j.val j.isLt
  simp only [arrV, e]
theorem weq_fs {g : Geo} {w w' : WD} {o : Nat} (h : weq w w') (hz : (o, 0) ∈ g_dF) : g_fs g w o = g_fs g w' o := by
  have e : ∀ j, j < 10 → w.1 o 0 j = w'.1 o 0 j := fun j hj => h.1 o 0 j hz (by rw [if_pos rfl]; exact hj)
  unfold g_fs
  by_cases h1 : o < 7
  · simp only [if_pos h1, fsV, e 0 (by omega), e 1 (by omega), e 2 (by omega), e 3 (by omega)]
  · by_cases h2 : o = 7
    · subst h2; simp [fsO, e 1 (by omega), e 3 (by omega), e 4 (by omega), e 5 (by omega)]
    · by_cases h3 : o = 8
      · subst h3; simp [fsH, e 1 (by omega)]
      · simp only [if_neg h1, if_neg h2, if_neg h3]
theorem weq_P {g : Geo} {w w' : WD} {H : Heap} (h : weq w w') (hP : va_P g.1 vwCl (g_wl g w) H) : va_P g.1 vwCl (g_wl g w') H := by
  intro i q hq
  simp only [g_wl, List.getElem?_map] at hq
  cases hz : (g_dm g)[i]? with
  | none => rw [hz] at hq; cases hq
  | some z =>
    rw [hz] at hq
    cases hq
    have h1 := hP i (g_ad g z.1 z.2, g_cell g w z.1 z.2) (by simp [g_wl, List.getElem?_map, hz])
    obtain ⟨o, k⟩ := z
    have hm : (o, k) ∈ g_dF := dmF (List.mem_of_getElem? hz)
    dsimp only at h1 ⊢
    unfold g_cell at h1 ⊢
    by_cases hk : k = 0
    · subst hk
      rw [if_pos rfl] at h1 ⊢
      rw [← weq_fs h hm]
      exact h1
    · rw [if_neg hk] at h1 ⊢
      by_cases h8 : o = 8
      · rw [if_pos h8] at h1 ⊢
        have e : arrV g.2.2.2.2.1 5 (fun j => va_rf (some (g_ad g (w.2 j) 0))) = arrV g.2.2.2.2.1 5 (fun j => va_rf (some (g_ad g (w'.2 j) 0))) := arrV_congr (fun j hj => by rw [h.2 j hj])
        show H[_]? = some (vp_cell _ _)
        have h2 : H[_]? = some (vp_cell _ _) := h1
        rw [vp_cell_q] at h2 ⊢
        rw [← e]; exact h2
      · rw [if_neg h8] at h1 ⊢
        have e : ∀ cA, arrV cA (g_ln o k) (fun j => Value.int (nI (w.1 o k j))) = arrV cA (g_ln o k) (fun j => Value.int (nI (w'.1 o k j))) := fun cA => arrV_congr (fun j hj => by rw [h.1 o k j hm (by rw [if_neg hk]; exact hj)])
        show H[_]? = some (vp_cell _ _)
        have h2 : H[_]? = some (vp_cell _ _) := h1
        rw [vp_cell_i] at h2 ⊢
        rw [← e]; exact h2
theorem pw_weq {l : Launch} {g : Geo} {own : String} {cc : ByteArray} {rm : Room} {nL : Nat} {ret : Option FieldType} {fin : Option Value → WD → Prop} {X : Nat → Nat → (Nat → Int32) → Prop} {P : PT} (hX : Gd l g own cc rm nL ret fin X P) {w : WD} {pc : Nat} {lv : List (Option Value)} {st : List Value} {w' : WD} (h : weq w w') (kk : P w' pc lv st) : P w pc lv st := by
  obtain ⟨p, e, s, m, args, below, meth, c, cells, slots, Q, A, rfl, hx, hb, hml, hown, hTB, hNL, hK, hG, hcs, hScr, hri, hrv⟩ := hX
  intro H locs ls hP hS hl
  exact kk H locs ls (weq_P h hP) hS hl
theorem pw_eq {P : PT} {w w' : WD} {pc : Nat} {lv lv' : List (Option Value)} {st st' : List Value} (hw : w = w') (hl : lv = lv') (hs : st = st') (kk : P w' pc lv' st') : P w pc lv st := by rw [hw, hl, hs]; exact kk
theorem pw_iconst {l : Launch} {g : Geo} {own : String} {cc : ByteArray} {rm : Room} {nL : Nat} {ret : Option FieldType} {fin : Option Value → WD → Prop} {X : Nat → Nat → (Nat → Int32) → Prop} {P : PT} (hX : Gd l g own cc rm nL ret fin X P) {w : WD} {pc q : Nat} {lv : List (Option Value)} {st : List Value} {n : Int} {k : Nat} (hn : n = (k : Int)) (hk : k < 2 ^ 31) (hd : decode cc pc = .ok (.iconst n, 1)) (hq : pc + 1 = q) (kk : P w q lv (.int (nI k) :: st)) : P w pc lv (st) := by
  obtain ⟨p, e, s, m, args, below, meth, c, cells, slots, Q, A, rfl, hx, hb, hml, hown, hTB, hNL, hK, hG, hcs, hScr, hri, hrv⟩ := hX
  subst hq
  intro H locs ls hP hS hl
  exact lv_iconst hx hb hd (by rw [hn]; exact ofI k hk) (kk H locs ls hP hS hl)
theorem pw_iconstm {l : Launch} {g : Geo} {own : String} {cc : ByteArray} {rm : Room} {nL : Nat} {ret : Option FieldType} {fin : Option Value → WD → Prop} {X : Nat → Nat → (Nat → Int32) → Prop} {P : PT} (hX : Gd l g own cc rm nL ret fin X P) {w : WD} {pc q : Nat} {lv : List (Option Value)} {st : List Value}  (hd : decode cc pc = .ok (.iconst (-1), 1)) (hq : pc + 1 = q) (kk : P w q lv (.int (-1) :: st)) : P w pc lv (st) := by
  obtain ⟨p, e, s, m, args, below, meth, c, cells, slots, Q, A, rfl, hx, hb, hml, hown, hTB, hNL, hK, hG, hcs, hScr, hri, hrv⟩ := hX
  subst hq
  intro H locs ls hP hS hl
  exact lv_iconst hx hb hd (by decide) (kk H locs ls hP hS hl)
theorem pw_bipush {l : Launch} {g : Geo} {own : String} {cc : ByteArray} {rm : Room} {nL : Nat} {ret : Option FieldType} {fin : Option Value → WD → Prop} {X : Nat → Nat → (Nat → Int32) → Prop} {P : PT} (hX : Gd l g own cc rm nL ret fin X P) {w : WD} {pc q : Nat} {lv : List (Option Value)} {st : List Value} {n : Int} {k : Nat} (hn : (Int8.ofInt n).toInt32 = nI k) (hd : decode cc pc = .ok (.bipush n, 2)) (hq : pc + 2 = q) (kk : P w q lv (.int (nI k) :: st)) : P w pc lv (st) := by
  obtain ⟨p, e, s, m, args, below, meth, c, cells, slots, Q, A, rfl, hx, hb, hml, hown, hTB, hNL, hK, hG, hcs, hScr, hri, hrv⟩ := hX
  subst hq
  intro H locs ls hP hS hl
  exact lv_bipush hx hb hd hn (kk H locs ls hP hS hl)
theorem pw_sipush {l : Launch} {g : Geo} {own : String} {cc : ByteArray} {rm : Room} {nL : Nat} {ret : Option FieldType} {fin : Option Value → WD → Prop} {X : Nat → Nat → (Nat → Int32) → Prop} {P : PT} (hX : Gd l g own cc rm nL ret fin X P) {w : WD} {pc q : Nat} {lv : List (Option Value)} {st : List Value} {n : Int} {k : Nat} (hn : (Int16.ofInt n).toInt32 = nI k) (hd : decode cc pc = .ok (.sipush n, 3)) (hq : pc + 3 = q) (kk : P w q lv (.int (nI k) :: st)) : P w pc lv (st) := by
  obtain ⟨p, e, s, m, args, below, meth, c, cells, slots, Q, A, rfl, hx, hb, hml, hown, hTB, hNL, hK, hG, hcs, hScr, hri, hrv⟩ := hX
  subst hq
  intro H locs ls hP hS hl
  exact lv_sipush hx hb hd hn (kk H locs ls hP hS hl)
theorem pw_ldc {l : Launch} {g : Geo} {own : String} {cc : ByteArray} {rm : Room} {nL : Nat} {ret : Option FieldType} {fin : Option Value → WD → Prop} {X : Nat → Nat → (Nat → Int32) → Prop} {P : PT} (hX : Gd l g own cc rm nL ret fin X P) {w : WD} {pc q : Nat} {lv : List (Option Value)} {st : List Value} {i : Nat} {v : Int32} (hc : Cond.constant own i v ∈ TB) (hd : decode cc pc = .ok (.ldc i, 2)) (hq : pc + 2 = q) (kk : P w q lv (.int v :: st)) : P w pc lv (st) := by
  obtain ⟨p, e, s, m, args, below, meth, c, cells, slots, Q, A, rfl, hx, hb, hml, hown, hTB, hNL, hK, hG, hcs, hScr, hri, hrv⟩ := hX
  subst hq
  intro H locs ls hP hS hl
  exact lv_ldc hx hb hown (hTB _ hc) hd (kk H locs ls hP hS hl)
theorem pw_ldcw {l : Launch} {g : Geo} {own : String} {cc : ByteArray} {rm : Room} {nL : Nat} {ret : Option FieldType} {fin : Option Value → WD → Prop} {X : Nat → Nat → (Nat → Int32) → Prop} {P : PT} (hX : Gd l g own cc rm nL ret fin X P) {w : WD} {pc q : Nat} {lv : List (Option Value)} {st : List Value} {i : Nat} {v : Int32} (hc : Cond.constant own i v ∈ TB) (hd : decode cc pc = .ok (.ldc_w i, 3)) (hq : pc + 3 = q) (kk : P w q lv (.int v :: st)) : P w pc lv (st) := by
  obtain ⟨p, e, s, m, args, below, meth, c, cells, slots, Q, A, rfl, hx, hb, hml, hown, hTB, hNL, hK, hG, hcs, hScr, hri, hrv⟩ := hX
  subst hq
  intro H locs ls hP hS hl
  exact lv_ldcw hx hb hown (hTB _ hc) hd (kk H locs ls hP hS hl)
theorem pw_iload_n {l : Launch} {g : Geo} {own : String} {cc : ByteArray} {rm : Room} {nL : Nat} {ret : Option FieldType} {fin : Option Value → WD → Prop} {X : Nat → Nat → (Nat → Int32) → Prop} {P : PT} (hX : Gd l g own cc rm nL ret fin X P) {w : WD} {pc q : Nat} {lv : List (Option Value)} {st : List Value} {k : Fin 4} {x : Int32} (hg : lg lv k = some (.int x)) (hd : decode cc pc = .ok (.iload_n k, 1)) (hq : pc + 1 = q) (kk : P w q lv (.int x :: st)) : P w pc lv (st) := by
  obtain ⟨p, e, s, m, args, below, meth, c, cells, slots, Q, A, rfl, hx, hb, hml, hown, hTB, hNL, hK, hG, hcs, hScr, hri, hrv⟩ := hX
  subst hq
  intro H locs ls hP hS hl
  exact lv_iload_n hx hb hd rfl (hl.gi hg) (kk H locs ls hP hS hl)
theorem pw_iload {l : Launch} {g : Geo} {own : String} {cc : ByteArray} {rm : Room} {nL : Nat} {ret : Option FieldType} {fin : Option Value → WD → Prop} {X : Nat → Nat → (Nat → Int32) → Prop} {P : PT} (hX : Gd l g own cc rm nL ret fin X P) {w : WD} {pc q : Nat} {lv : List (Option Value)} {st : List Value} {i : Nat} {x : Int32} (hg : lg lv i = some (.int x)) (hd : decode cc pc = .ok (.iload i, 2)) (hq : pc + 2 = q) (kk : P w q lv (.int x :: st)) : P w pc lv (st) := by
  obtain ⟨p, e, s, m, args, below, meth, c, cells, slots, Q, A, rfl, hx, hb, hml, hown, hTB, hNL, hK, hG, hcs, hScr, hri, hrv⟩ := hX
  subst hq
  intro H locs ls hP hS hl
  exact lv_iload hx hb hd (hl.gi hg) (kk H locs ls hP hS hl)
theorem pw_aload_n {l : Launch} {g : Geo} {own : String} {cc : ByteArray} {rm : Room} {nL : Nat} {ret : Option FieldType} {fin : Option Value → WD → Prop} {X : Nat → Nat → (Nat → Int32) → Prop} {P : PT} (hX : Gd l g own cc rm nL ret fin X P) {w : WD} {pc q : Nat} {lv : List (Option Value)} {st : List Value} {k : Fin 4} {x : Nat} (hg : lg lv k = some (.ref x)) (hd : decode cc pc = .ok (.aload_n k, 1)) (hq : pc + 1 = q) (kk : P w q lv (.ref x :: st)) : P w pc lv (st) := by
  obtain ⟨p, e, s, m, args, below, meth, c, cells, slots, Q, A, rfl, hx, hb, hml, hown, hTB, hNL, hK, hG, hcs, hScr, hri, hrv⟩ := hX
  subst hq
  intro H locs ls hP hS hl
  exact lv_aload_n hx hb hd rfl (hl.gi hg) (kk H locs ls hP hS hl)
theorem pw_aload {l : Launch} {g : Geo} {own : String} {cc : ByteArray} {rm : Room} {nL : Nat} {ret : Option FieldType} {fin : Option Value → WD → Prop} {X : Nat → Nat → (Nat → Int32) → Prop} {P : PT} (hX : Gd l g own cc rm nL ret fin X P) {w : WD} {pc q : Nat} {lv : List (Option Value)} {st : List Value} {i : Nat} {x : Nat} (hg : lg lv i = some (.ref x)) (hd : decode cc pc = .ok (.aload i, 2)) (hq : pc + 2 = q) (kk : P w q lv (.ref x :: st)) : P w pc lv (st) := by
  obtain ⟨p, e, s, m, args, below, meth, c, cells, slots, Q, A, rfl, hx, hb, hml, hown, hTB, hNL, hK, hG, hcs, hScr, hri, hrv⟩ := hX
  subst hq
  intro H locs ls hP hS hl
  exact lv_aload hx hb hd (hl.gi hg) (kk H locs ls hP hS hl)
theorem pw_istore_n {l : Launch} {g : Geo} {own : String} {cc : ByteArray} {rm : Room} {nL : Nat} {ret : Option FieldType} {fin : Option Value → WD → Prop} {X : Nat → Nat → (Nat → Int32) → Prop} {P : PT} (hX : Gd l g own cc rm nL ret fin X P) {w : WD} {pc q : Nat} {lv : List (Option Value)} {st : List Value} {k : Fin 4} {x : Int32} (hi : (k : Nat) < nL) (hd : decode cc pc = .ok (.istore_n k, 1)) (hq : pc + 1 = q) (kk : P w q (lst lv k (.int x)) (st)) : P w pc lv (.int x :: st) := by
  obtain ⟨p, e, s, m, args, below, meth, c, cells, slots, Q, A, rfl, hx, hb, hml, hown, hTB, hNL, hK, hG, hcs, hScr, hri, hrv⟩ := hX
  subst hq
  intro H locs ls hP hS hl
  exact lv_istore_n hx hb hd rfl hl.has hi rfl (fun ls' h' => kk H locs ls' hP hS (hl.put rfl h'))
theorem pw_istore {l : Launch} {g : Geo} {own : String} {cc : ByteArray} {rm : Room} {nL : Nat} {ret : Option FieldType} {fin : Option Value → WD → Prop} {X : Nat → Nat → (Nat → Int32) → Prop} {P : PT} (hX : Gd l g own cc rm nL ret fin X P) {w : WD} {pc q : Nat} {lv : List (Option Value)} {st : List Value} {i : Nat} {x : Int32} (hi : i < nL) (hd : decode cc pc = .ok (.istore i, 2)) (hq : pc + 2 = q) (kk : P w q (lst lv i (.int x)) (st)) : P w pc lv (.int x :: st) := by
  obtain ⟨p, e, s, m, args, below, meth, c, cells, slots, Q, A, rfl, hx, hb, hml, hown, hTB, hNL, hK, hG, hcs, hScr, hri, hrv⟩ := hX
  subst hq
  intro H locs ls hP hS hl
  exact lv_istore hx hb hd hl.has hi rfl (fun ls' h' => kk H locs ls' hP hS (hl.put rfl h'))
theorem pw_astore_n {l : Launch} {g : Geo} {own : String} {cc : ByteArray} {rm : Room} {nL : Nat} {ret : Option FieldType} {fin : Option Value → WD → Prop} {X : Nat → Nat → (Nat → Int32) → Prop} {P : PT} (hX : Gd l g own cc rm nL ret fin X P) {w : WD} {pc q : Nat} {lv : List (Option Value)} {st : List Value} {k : Fin 4} {x : Nat} (hi : (k : Nat) < nL) (hd : decode cc pc = .ok (.astore_n k, 1)) (hq : pc + 1 = q) (kk : P w q (lst lv k (.ref x)) (st)) : P w pc lv (.ref x :: st) := by
  obtain ⟨p, e, s, m, args, below, meth, c, cells, slots, Q, A, rfl, hx, hb, hml, hown, hTB, hNL, hK, hG, hcs, hScr, hri, hrv⟩ := hX
  subst hq
  intro H locs ls hP hS hl
  exact lv_astore_n hx hb hd rfl hl.has hi rfl (fun ls' h' => kk H locs ls' hP hS (hl.put rfl h'))
theorem pw_iinc {l : Launch} {g : Geo} {own : String} {cc : ByteArray} {rm : Room} {nL : Nat} {ret : Option FieldType} {fin : Option Value → WD → Prop} {X : Nat → Nat → (Nat → Int32) → Prop} {P : PT} (hX : Gd l g own cc rm nL ret fin X P) {w : WD} {pc q : Nat} {lv : List (Option Value)} {st : List Value} {i : Nat} {n : Int} {x y : Int32} (hg : lg lv i = some (.int x)) (hi : i < nL) (hy : x + Int32.ofInt n = y) (hd : decode cc pc = .ok (.iinc i n, 3)) (hq : pc + 3 = q) (kk : P w q (lst lv i (.int y)) (st)) : P w pc lv (st) := by
  obtain ⟨p, e, s, m, args, below, meth, c, cells, slots, Q, A, rfl, hx, hb, hml, hown, hTB, hNL, hK, hG, hcs, hScr, hri, hrv⟩ := hX
  subst hq
  intro H locs ls hP hS hl
  obtain ⟨k, hk⟩ := List.getElem?_of_mem (lvl_mem hi hg)
  exact lv_iinc hx hb hd hl.has hk hy hi rfl (fun ls' h' => kk H locs ls' hP hS (hl.put rfl h'))
theorem pw_iadd {l : Launch} {g : Geo} {own : String} {cc : ByteArray} {rm : Room} {nL : Nat} {ret : Option FieldType} {fin : Option Value → WD → Prop} {X : Nat → Nat → (Nat → Int32) → Prop} {P : PT} (hX : Gd l g own cc rm nL ret fin X P) {w : WD} {pc q : Nat} {lv : List (Option Value)} {st : List Value} {x y : Int32} (hd : decode cc pc = .ok (.iadd, 1)) (hq : pc + 1 = q) (kk : P w q lv (.int (x + y) :: st)) : P w pc lv (.int y :: .int x :: st) := by
  obtain ⟨p, e, s, m, args, below, meth, c, cells, slots, Q, A, rfl, hx, hb, hml, hown, hTB, hNL, hK, hG, hcs, hScr, hri, hrv⟩ := hX
  subst hq
  intro H locs ls hP hS hl
  exact lv_iadd hx hb hd (kk H locs ls hP hS hl)
theorem pw_isub {l : Launch} {g : Geo} {own : String} {cc : ByteArray} {rm : Room} {nL : Nat} {ret : Option FieldType} {fin : Option Value → WD → Prop} {X : Nat → Nat → (Nat → Int32) → Prop} {P : PT} (hX : Gd l g own cc rm nL ret fin X P) {w : WD} {pc q : Nat} {lv : List (Option Value)} {st : List Value} {x y : Int32} (hd : decode cc pc = .ok (.isub, 1)) (hq : pc + 1 = q) (kk : P w q lv (.int (x - y) :: st)) : P w pc lv (.int y :: .int x :: st) := by
  obtain ⟨p, e, s, m, args, below, meth, c, cells, slots, Q, A, rfl, hx, hb, hml, hown, hTB, hNL, hK, hG, hcs, hScr, hri, hrv⟩ := hX
  subst hq
  intro H locs ls hP hS hl
  exact lv_isub hx hb hd (kk H locs ls hP hS hl)
theorem pw_imul {l : Launch} {g : Geo} {own : String} {cc : ByteArray} {rm : Room} {nL : Nat} {ret : Option FieldType} {fin : Option Value → WD → Prop} {X : Nat → Nat → (Nat → Int32) → Prop} {P : PT} (hX : Gd l g own cc rm nL ret fin X P) {w : WD} {pc q : Nat} {lv : List (Option Value)} {st : List Value} {x y : Int32} (hd : decode cc pc = .ok (.imul, 1)) (hq : pc + 1 = q) (kk : P w q lv (.int (x * y) :: st)) : P w pc lv (.int y :: .int x :: st) := by
  obtain ⟨p, e, s, m, args, below, meth, c, cells, slots, Q, A, rfl, hx, hb, hml, hown, hTB, hNL, hK, hG, hcs, hScr, hri, hrv⟩ := hX
  subst hq
  intro H locs ls hP hS hl
  exact lv_imul hx hb hd (kk H locs ls hP hS hl)
theorem pw_iand {l : Launch} {g : Geo} {own : String} {cc : ByteArray} {rm : Room} {nL : Nat} {ret : Option FieldType} {fin : Option Value → WD → Prop} {X : Nat → Nat → (Nat → Int32) → Prop} {P : PT} (hX : Gd l g own cc rm nL ret fin X P) {w : WD} {pc q : Nat} {lv : List (Option Value)} {st : List Value} {x y : Int32} (hd : decode cc pc = .ok (.iand, 1)) (hq : pc + 1 = q) (kk : P w q lv (.int (x &&& y) :: st)) : P w pc lv (.int y :: .int x :: st) := by
  obtain ⟨p, e, s, m, args, below, meth, c, cells, slots, Q, A, rfl, hx, hb, hml, hown, hTB, hNL, hK, hG, hcs, hScr, hri, hrv⟩ := hX
  subst hq
  intro H locs ls hP hS hl
  exact lv_iand hx hb hd (kk H locs ls hP hS hl)
theorem pw_ior {l : Launch} {g : Geo} {own : String} {cc : ByteArray} {rm : Room} {nL : Nat} {ret : Option FieldType} {fin : Option Value → WD → Prop} {X : Nat → Nat → (Nat → Int32) → Prop} {P : PT} (hX : Gd l g own cc rm nL ret fin X P) {w : WD} {pc q : Nat} {lv : List (Option Value)} {st : List Value} {x y : Int32} (hd : decode cc pc = .ok (.ior, 1)) (hq : pc + 1 = q) (kk : P w q lv (.int (x ||| y) :: st)) : P w pc lv (.int y :: .int x :: st) := by
  obtain ⟨p, e, s, m, args, below, meth, c, cells, slots, Q, A, rfl, hx, hb, hml, hown, hTB, hNL, hK, hG, hcs, hScr, hri, hrv⟩ := hX
  subst hq
  intro H locs ls hP hS hl
  exact lv_ior hx hb hd (kk H locs ls hP hS hl)
theorem pw_ixor {l : Launch} {g : Geo} {own : String} {cc : ByteArray} {rm : Room} {nL : Nat} {ret : Option FieldType} {fin : Option Value → WD → Prop} {X : Nat → Nat → (Nat → Int32) → Prop} {P : PT} (hX : Gd l g own cc rm nL ret fin X P) {w : WD} {pc q : Nat} {lv : List (Option Value)} {st : List Value} {x y : Int32} (hd : decode cc pc = .ok (.ixor, 1)) (hq : pc + 1 = q) (kk : P w q lv (.int (x ^^^ y) :: st)) : P w pc lv (.int y :: .int x :: st) := by
  obtain ⟨p, e, s, m, args, below, meth, c, cells, slots, Q, A, rfl, hx, hb, hml, hown, hTB, hNL, hK, hG, hcs, hScr, hri, hrv⟩ := hX
  subst hq
  intro H locs ls hP hS hl
  exact lv_ixor hx hb hd (kk H locs ls hP hS hl)
theorem pw_ishl {l : Launch} {g : Geo} {own : String} {cc : ByteArray} {rm : Room} {nL : Nat} {ret : Option FieldType} {fin : Option Value → WD → Prop} {X : Nat → Nat → (Nat → Int32) → Prop} {P : PT} (hX : Gd l g own cc rm nL ret fin X P) {w : WD} {pc q : Nat} {lv : List (Option Value)} {st : List Value} {x y : Int32} (hd : decode cc pc = .ok (.ishl, 1)) (hq : pc + 1 = q) (kk : P w q lv (.int (x <<< (y &&& 31)) :: st)) : P w pc lv (.int y :: .int x :: st) := by
  obtain ⟨p, e, s, m, args, below, meth, c, cells, slots, Q, A, rfl, hx, hb, hml, hown, hTB, hNL, hK, hG, hcs, hScr, hri, hrv⟩ := hX
  subst hq
  intro H locs ls hP hS hl
  exact lv_ishl hx hb hd (kk H locs ls hP hS hl)
theorem pw_iushr {l : Launch} {g : Geo} {own : String} {cc : ByteArray} {rm : Room} {nL : Nat} {ret : Option FieldType} {fin : Option Value → WD → Prop} {X : Nat → Nat → (Nat → Int32) → Prop} {P : PT} (hX : Gd l g own cc rm nL ret fin X P) {w : WD} {pc q : Nat} {lv : List (Option Value)} {st : List Value} {x y : Int32} (hd : decode cc pc = .ok (.iushr, 1)) (hq : pc + 1 = q) (kk : P w q lv (.int ((x.toUInt32 >>> (y.toUInt32 &&& Int32.toUInt32 31)).toInt32) :: st)) : P w pc lv (.int y :: .int x :: st) := by
  obtain ⟨p, e, s, m, args, below, meth, c, cells, slots, Q, A, rfl, hx, hb, hml, hown, hTB, hNL, hK, hG, hcs, hScr, hri, hrv⟩ := hX
  subst hq
  intro H locs ls hP hS hl
  exact lv_iushr hx hb hd rfl (kk H locs ls hP hS hl)
theorem pw_irem {l : Launch} {g : Geo} {own : String} {cc : ByteArray} {rm : Room} {nL : Nat} {ret : Option FieldType} {fin : Option Value → WD → Prop} {X : Nat → Nat → (Nat → Int32) → Prop} {P : PT} (hX : Gd l g own cc rm nL ret fin X P) {w : WD} {pc q : Nat} {lv : List (Option Value)} {st : List Value} {x y : Int32} (hy : ¬ y = 0) (hd : decode cc pc = .ok (.irem, 1)) (hq : pc + 1 = q) (kk : P w q lv (.int (x - x / y * y) :: st)) : P w pc lv (.int y :: .int x :: st) := by
  obtain ⟨p, e, s, m, args, below, meth, c, cells, slots, Q, A, rfl, hx, hb, hml, hown, hTB, hNL, hK, hG, hcs, hScr, hri, hrv⟩ := hX
  subst hq
  intro H locs ls hP hS hl
  exact lv_irem hx hb hd hy (kk H locs ls hP hS hl)
theorem pw_idiv {l : Launch} {g : Geo} {own : String} {cc : ByteArray} {rm : Room} {nL : Nat} {ret : Option FieldType} {fin : Option Value → WD → Prop} {X : Nat → Nat → (Nat → Int32) → Prop} {P : PT} (hX : Gd l g own cc rm nL ret fin X P) {w : WD} {pc q : Nat} {lv : List (Option Value)} {st : List Value} {x y : Int32} (hy : ¬ y = 0) (hd : decode cc pc = .ok (.idiv, 1)) (hq : pc + 1 = q) (kk : P w q lv (.int (x / y) :: st)) : P w pc lv (.int y :: .int x :: st) := by
  obtain ⟨p, e, s, m, args, below, meth, c, cells, slots, Q, A, rfl, hx, hb, hml, hown, hTB, hNL, hK, hG, hcs, hScr, hri, hrv⟩ := hX
  subst hq
  intro H locs ls hP hS hl
  exact lv_idiv hx hb hd hy (kk H locs ls hP hS hl)
theorem pw_i2c {l : Launch} {g : Geo} {own : String} {cc : ByteArray} {rm : Room} {nL : Nat} {ret : Option FieldType} {fin : Option Value → WD → Prop} {X : Nat → Nat → (Nat → Int32) → Prop} {P : PT} (hX : Gd l g own cc rm nL ret fin X P) {w : WD} {pc q : Nat} {lv : List (Option Value)} {st : List Value} {x v : Int32} (hv : (x.toUInt32 % 65536).toInt32 = v) (hd : decode cc pc = .ok (.i2c, 1)) (hq : pc + 1 = q) (kk : P w q lv (.int v :: st)) : P w pc lv (.int x :: st) := by
  obtain ⟨p, e, s, m, args, below, meth, c, cells, slots, Q, A, rfl, hx, hb, hml, hown, hTB, hNL, hK, hG, hcs, hScr, hri, hrv⟩ := hX
  subst hq
  intro H locs ls hP hS hl
  exact lv_i2c hx hb hd hv (kk H locs ls hP hS hl)
theorem pw_iaddN {l : Launch} {g : Geo} {own : String} {cc : ByteArray} {rm : Room} {nL : Nat} {ret : Option FieldType} {fin : Option Value → WD → Prop} {X : Nat → Nat → (Nat → Int32) → Prop} {P : PT} (hX : Gd l g own cc rm nL ret fin X P) {w : WD} {pc q : Nat} {lv : List (Option Value)} {st : List Value} {a b : Nat} (hd : decode cc pc = .ok (.iadd, 1)) (hq : pc + 1 = q) (kk : P w q lv (.int (nI (a + b)) :: st)) : P w pc lv (.int (nI b) :: .int (nI a) :: st) := pw_iadd hX hd hq (by rw [nI_add]; exact kk)
theorem pw_imulN {l : Launch} {g : Geo} {own : String} {cc : ByteArray} {rm : Room} {nL : Nat} {ret : Option FieldType} {fin : Option Value → WD → Prop} {X : Nat → Nat → (Nat → Int32) → Prop} {P : PT} (hX : Gd l g own cc rm nL ret fin X P) {w : WD} {pc q : Nat} {lv : List (Option Value)} {st : List Value} {a b : Nat} (hd : decode cc pc = .ok (.imul, 1)) (hq : pc + 1 = q) (kk : P w q lv (.int (nI (a * b)) :: st)) : P w pc lv (.int (nI b) :: .int (nI a) :: st) := pw_imul hX hd hq (by rw [pk_mul]; exact kk)
theorem pw_isubN {l : Launch} {g : Geo} {own : String} {cc : ByteArray} {rm : Room} {nL : Nat} {ret : Option FieldType} {fin : Option Value → WD → Prop} {X : Nat → Nat → (Nat → Int32) → Prop} {P : PT} (hX : Gd l g own cc rm nL ret fin X P) {w : WD} {pc q : Nat} {lv : List (Option Value)} {st : List Value} {a b : Nat} (hab : b ≤ a) (hd : decode cc pc = .ok (.isub, 1)) (hq : pc + 1 = q) (kk : P w q lv (.int (nI (a - b)) :: st)) : P w pc lv (.int (nI b) :: .int (nI a) :: st) := pw_isub hX hd hq (by rw [pk_sub hab]; exact kk)
theorem pw_dup {l : Launch} {g : Geo} {own : String} {cc : ByteArray} {rm : Room} {nL : Nat} {ret : Option FieldType} {fin : Option Value → WD → Prop} {X : Nat → Nat → (Nat → Int32) → Prop} {P : PT} (hX : Gd l g own cc rm nL ret fin X P) {w : WD} {pc q : Nat} {lv : List (Option Value)} {st : List Value} {v : Value} (hv : v.category = 1) (hd : decode cc pc = .ok (.dup, 1)) (hq : pc + 1 = q) (kk : P w q lv (v :: v :: st)) : P w pc lv (v :: st) := by
  obtain ⟨p, e, s, m, args, below, meth, c, cells, slots, Q, A, rfl, hx, hb, hml, hown, hTB, hNL, hK, hG, hcs, hScr, hri, hrv⟩ := hX
  subst hq
  intro H locs ls hP hS hl
  exact lv_dup hx hb hd hv (kk H locs ls hP hS hl)
theorem pw_dup2 {l : Launch} {g : Geo} {own : String} {cc : ByteArray} {rm : Room} {nL : Nat} {ret : Option FieldType} {fin : Option Value → WD → Prop} {X : Nat → Nat → (Nat → Int32) → Prop} {P : PT} (hX : Gd l g own cc rm nL ret fin X P) {w : WD} {pc q : Nat} {lv : List (Option Value)} {st : List Value} {v u : Value} (hv : v.category = 1) (hu : u.category = 1) (hd : decode cc pc = .ok (.dup2, 1)) (hq : pc + 1 = q) (kk : P w q lv (v :: u :: v :: u :: st)) : P w pc lv (v :: u :: st) := by
  obtain ⟨p, e, s, m, args, below, meth, c, cells, slots, Q, A, rfl, hx, hb, hml, hown, hTB, hNL, hK, hG, hcs, hScr, hri, hrv⟩ := hX
  subst hq
  intro H locs ls hP hS hl
  exact lv_dup2_11 hx hb hd hv hu (kk H locs ls hP hS hl)
theorem pw_pop {l : Launch} {g : Geo} {own : String} {cc : ByteArray} {rm : Room} {nL : Nat} {ret : Option FieldType} {fin : Option Value → WD → Prop} {X : Nat → Nat → (Nat → Int32) → Prop} {P : PT} (hX : Gd l g own cc rm nL ret fin X P) {w : WD} {pc q : Nat} {lv : List (Option Value)} {st : List Value} {v : Value} (hv : v.category = 1) (hd : decode cc pc = .ok (.pop, 1)) (hq : pc + 1 = q) (kk : P w q lv (st)) : P w pc lv (v :: st) := by
  obtain ⟨p, e, s, m, args, below, meth, c, cells, slots, Q, A, rfl, hx, hb, hml, hown, hTB, hNL, hK, hG, hcs, hScr, hri, hrv⟩ := hX
  subst hq
  intro H locs ls hP hS hl
  exact lv_pop hx hb hd hv (kk H locs ls hP hS hl)
theorem pw_if_eq {l : Launch} {g : Geo} {own : String} {cc : ByteArray} {rm : Room} {nL : Nat} {ret : Option FieldType} {fin : Option Value → WD → Prop} {X : Nat → Nat → (Nat → Int32) → Prop} {P : PT} (hX : Gd l g own cc rm nL ret fin X P) {w : WD} {pc q : Nat} {lv : List (Option Value)} {st : List Value} {x : Int32} {off : Int} {tgt : Nat} (hd : decode cc pc = .ok (.ifCond .eq off, 3)) (hq : pc + 3 = q) (ht : (pc : Int) + off = (tgt : Int)) (kt : x = 0 → P w tgt lv st) (kf : ¬ x = 0 → P w q lv st) : P w pc lv (.int x :: st) := by
  obtain ⟨p, e, s, m, args, below, meth, c, cells, slots, Q, A, rfl, hx, hb, hml, hown, hTB, hNL, hK, hG, hcs, hScr, hri, hrv⟩ := hX
  subst hq
  intro H locs ls hP hS hl
  exact lv_if_eq hx hb hd ht (fun h => kt h H locs ls hP hS hl) (fun h => kf h H locs ls hP hS hl)
theorem pw_icmp_eq {l : Launch} {g : Geo} {own : String} {cc : ByteArray} {rm : Room} {nL : Nat} {ret : Option FieldType} {fin : Option Value → WD → Prop} {X : Nat → Nat → (Nat → Int32) → Prop} {P : PT} (hX : Gd l g own cc rm nL ret fin X P) {w : WD} {pc q : Nat} {lv : List (Option Value)} {st : List Value} {x y : Int32} {off : Int} {tgt : Nat} (hd : decode cc pc = .ok (.if_icmp .eq off, 3)) (hq : pc + 3 = q) (ht : (pc : Int) + off = (tgt : Int)) (kt : x = y → P w tgt lv st) (kf : ¬ x = y → P w q lv st) : P w pc lv (.int y :: .int x :: st) := by
  obtain ⟨p, e, s, m, args, below, meth, c, cells, slots, Q, A, rfl, hx, hb, hml, hown, hTB, hNL, hK, hG, hcs, hScr, hri, hrv⟩ := hX
  subst hq
  intro H locs ls hP hS hl
  exact lv_icmp_eq hx hb hd ht (fun h => kt h H locs ls hP hS hl) (fun h => kf h H locs ls hP hS hl)
theorem pw_if_ne {l : Launch} {g : Geo} {own : String} {cc : ByteArray} {rm : Room} {nL : Nat} {ret : Option FieldType} {fin : Option Value → WD → Prop} {X : Nat → Nat → (Nat → Int32) → Prop} {P : PT} (hX : Gd l g own cc rm nL ret fin X P) {w : WD} {pc q : Nat} {lv : List (Option Value)} {st : List Value} {x : Int32} {off : Int} {tgt : Nat} (hd : decode cc pc = .ok (.ifCond .ne off, 3)) (hq : pc + 3 = q) (ht : (pc : Int) + off = (tgt : Int)) (kt : ¬ x = 0 → P w tgt lv st) (kf : x = 0 → P w q lv st) : P w pc lv (.int x :: st) := by
  obtain ⟨p, e, s, m, args, below, meth, c, cells, slots, Q, A, rfl, hx, hb, hml, hown, hTB, hNL, hK, hG, hcs, hScr, hri, hrv⟩ := hX
  subst hq
  intro H locs ls hP hS hl
  exact lv_if_ne hx hb hd ht (fun h => kt h H locs ls hP hS hl) (fun h => kf h H locs ls hP hS hl)
theorem pw_icmp_ne {l : Launch} {g : Geo} {own : String} {cc : ByteArray} {rm : Room} {nL : Nat} {ret : Option FieldType} {fin : Option Value → WD → Prop} {X : Nat → Nat → (Nat → Int32) → Prop} {P : PT} (hX : Gd l g own cc rm nL ret fin X P) {w : WD} {pc q : Nat} {lv : List (Option Value)} {st : List Value} {x y : Int32} {off : Int} {tgt : Nat} (hd : decode cc pc = .ok (.if_icmp .ne off, 3)) (hq : pc + 3 = q) (ht : (pc : Int) + off = (tgt : Int)) (kt : ¬ x = y → P w tgt lv st) (kf : x = y → P w q lv st) : P w pc lv (.int y :: .int x :: st) := by
  obtain ⟨p, e, s, m, args, below, meth, c, cells, slots, Q, A, rfl, hx, hb, hml, hown, hTB, hNL, hK, hG, hcs, hScr, hri, hrv⟩ := hX
  subst hq
  intro H locs ls hP hS hl
  exact lv_icmp_ne hx hb hd ht (fun h => kt h H locs ls hP hS hl) (fun h => kf h H locs ls hP hS hl)
theorem pw_if_lt {l : Launch} {g : Geo} {own : String} {cc : ByteArray} {rm : Room} {nL : Nat} {ret : Option FieldType} {fin : Option Value → WD → Prop} {X : Nat → Nat → (Nat → Int32) → Prop} {P : PT} (hX : Gd l g own cc rm nL ret fin X P) {w : WD} {pc q : Nat} {lv : List (Option Value)} {st : List Value} {x : Int32} {off : Int} {tgt : Nat} (hd : decode cc pc = .ok (.ifCond .lt off, 3)) (hq : pc + 3 = q) (ht : (pc : Int) + off = (tgt : Int)) (kt : x < 0 → P w tgt lv st) (kf : ¬ x < 0 → P w q lv st) : P w pc lv (.int x :: st) := by
  obtain ⟨p, e, s, m, args, below, meth, c, cells, slots, Q, A, rfl, hx, hb, hml, hown, hTB, hNL, hK, hG, hcs, hScr, hri, hrv⟩ := hX
  subst hq
  intro H locs ls hP hS hl
  exact lv_if_lt hx hb hd ht (fun h => kt h H locs ls hP hS hl) (fun h => kf h H locs ls hP hS hl)
theorem pw_icmp_lt {l : Launch} {g : Geo} {own : String} {cc : ByteArray} {rm : Room} {nL : Nat} {ret : Option FieldType} {fin : Option Value → WD → Prop} {X : Nat → Nat → (Nat → Int32) → Prop} {P : PT} (hX : Gd l g own cc rm nL ret fin X P) {w : WD} {pc q : Nat} {lv : List (Option Value)} {st : List Value} {x y : Int32} {off : Int} {tgt : Nat} (hd : decode cc pc = .ok (.if_icmp .lt off, 3)) (hq : pc + 3 = q) (ht : (pc : Int) + off = (tgt : Int)) (kt : x < y → P w tgt lv st) (kf : ¬ x < y → P w q lv st) : P w pc lv (.int y :: .int x :: st) := by
  obtain ⟨p, e, s, m, args, below, meth, c, cells, slots, Q, A, rfl, hx, hb, hml, hown, hTB, hNL, hK, hG, hcs, hScr, hri, hrv⟩ := hX
  subst hq
  intro H locs ls hP hS hl
  exact lv_icmp_lt hx hb hd ht (fun h => kt h H locs ls hP hS hl) (fun h => kf h H locs ls hP hS hl)
theorem pw_if_ge {l : Launch} {g : Geo} {own : String} {cc : ByteArray} {rm : Room} {nL : Nat} {ret : Option FieldType} {fin : Option Value → WD → Prop} {X : Nat → Nat → (Nat → Int32) → Prop} {P : PT} (hX : Gd l g own cc rm nL ret fin X P) {w : WD} {pc q : Nat} {lv : List (Option Value)} {st : List Value} {x : Int32} {off : Int} {tgt : Nat} (hd : decode cc pc = .ok (.ifCond .ge off, 3)) (hq : pc + 3 = q) (ht : (pc : Int) + off = (tgt : Int)) (kt : 0 ≤ x → P w tgt lv st) (kf : ¬ 0 ≤ x → P w q lv st) : P w pc lv (.int x :: st) := by
  obtain ⟨p, e, s, m, args, below, meth, c, cells, slots, Q, A, rfl, hx, hb, hml, hown, hTB, hNL, hK, hG, hcs, hScr, hri, hrv⟩ := hX
  subst hq
  intro H locs ls hP hS hl
  exact lv_if_ge hx hb hd ht (fun h => kt h H locs ls hP hS hl) (fun h => kf h H locs ls hP hS hl)
theorem pw_icmp_ge {l : Launch} {g : Geo} {own : String} {cc : ByteArray} {rm : Room} {nL : Nat} {ret : Option FieldType} {fin : Option Value → WD → Prop} {X : Nat → Nat → (Nat → Int32) → Prop} {P : PT} (hX : Gd l g own cc rm nL ret fin X P) {w : WD} {pc q : Nat} {lv : List (Option Value)} {st : List Value} {x y : Int32} {off : Int} {tgt : Nat} (hd : decode cc pc = .ok (.if_icmp .ge off, 3)) (hq : pc + 3 = q) (ht : (pc : Int) + off = (tgt : Int)) (kt : y ≤ x → P w tgt lv st) (kf : ¬ y ≤ x → P w q lv st) : P w pc lv (.int y :: .int x :: st) := by
  obtain ⟨p, e, s, m, args, below, meth, c, cells, slots, Q, A, rfl, hx, hb, hml, hown, hTB, hNL, hK, hG, hcs, hScr, hri, hrv⟩ := hX
  subst hq
  intro H locs ls hP hS hl
  exact lv_icmp_ge hx hb hd ht (fun h => kt h H locs ls hP hS hl) (fun h => kf h H locs ls hP hS hl)
theorem pw_if_gt {l : Launch} {g : Geo} {own : String} {cc : ByteArray} {rm : Room} {nL : Nat} {ret : Option FieldType} {fin : Option Value → WD → Prop} {X : Nat → Nat → (Nat → Int32) → Prop} {P : PT} (hX : Gd l g own cc rm nL ret fin X P) {w : WD} {pc q : Nat} {lv : List (Option Value)} {st : List Value} {x : Int32} {off : Int} {tgt : Nat} (hd : decode cc pc = .ok (.ifCond .gt off, 3)) (hq : pc + 3 = q) (ht : (pc : Int) + off = (tgt : Int)) (kt : 0 < x → P w tgt lv st) (kf : ¬ 0 < x → P w q lv st) : P w pc lv (.int x :: st) := by
  obtain ⟨p, e, s, m, args, below, meth, c, cells, slots, Q, A, rfl, hx, hb, hml, hown, hTB, hNL, hK, hG, hcs, hScr, hri, hrv⟩ := hX
  subst hq
  intro H locs ls hP hS hl
  exact lv_if_gt hx hb hd ht (fun h => kt h H locs ls hP hS hl) (fun h => kf h H locs ls hP hS hl)
theorem pw_icmp_gt {l : Launch} {g : Geo} {own : String} {cc : ByteArray} {rm : Room} {nL : Nat} {ret : Option FieldType} {fin : Option Value → WD → Prop} {X : Nat → Nat → (Nat → Int32) → Prop} {P : PT} (hX : Gd l g own cc rm nL ret fin X P) {w : WD} {pc q : Nat} {lv : List (Option Value)} {st : List Value} {x y : Int32} {off : Int} {tgt : Nat} (hd : decode cc pc = .ok (.if_icmp .gt off, 3)) (hq : pc + 3 = q) (ht : (pc : Int) + off = (tgt : Int)) (kt : y < x → P w tgt lv st) (kf : ¬ y < x → P w q lv st) : P w pc lv (.int y :: .int x :: st) := by
  obtain ⟨p, e, s, m, args, below, meth, c, cells, slots, Q, A, rfl, hx, hb, hml, hown, hTB, hNL, hK, hG, hcs, hScr, hri, hrv⟩ := hX
  subst hq
  intro H locs ls hP hS hl
  exact lv_icmp_gt hx hb hd ht (fun h => kt h H locs ls hP hS hl) (fun h => kf h H locs ls hP hS hl)
theorem pw_if_le {l : Launch} {g : Geo} {own : String} {cc : ByteArray} {rm : Room} {nL : Nat} {ret : Option FieldType} {fin : Option Value → WD → Prop} {X : Nat → Nat → (Nat → Int32) → Prop} {P : PT} (hX : Gd l g own cc rm nL ret fin X P) {w : WD} {pc q : Nat} {lv : List (Option Value)} {st : List Value} {x : Int32} {off : Int} {tgt : Nat} (hd : decode cc pc = .ok (.ifCond .le off, 3)) (hq : pc + 3 = q) (ht : (pc : Int) + off = (tgt : Int)) (kt : x ≤ 0 → P w tgt lv st) (kf : ¬ x ≤ 0 → P w q lv st) : P w pc lv (.int x :: st) := by
  obtain ⟨p, e, s, m, args, below, meth, c, cells, slots, Q, A, rfl, hx, hb, hml, hown, hTB, hNL, hK, hG, hcs, hScr, hri, hrv⟩ := hX
  subst hq
  intro H locs ls hP hS hl
  exact lv_if_le hx hb hd ht (fun h => kt h H locs ls hP hS hl) (fun h => kf h H locs ls hP hS hl)
theorem pw_icmp_le {l : Launch} {g : Geo} {own : String} {cc : ByteArray} {rm : Room} {nL : Nat} {ret : Option FieldType} {fin : Option Value → WD → Prop} {X : Nat → Nat → (Nat → Int32) → Prop} {P : PT} (hX : Gd l g own cc rm nL ret fin X P) {w : WD} {pc q : Nat} {lv : List (Option Value)} {st : List Value} {x y : Int32} {off : Int} {tgt : Nat} (hd : decode cc pc = .ok (.if_icmp .le off, 3)) (hq : pc + 3 = q) (ht : (pc : Int) + off = (tgt : Int)) (kt : x ≤ y → P w tgt lv st) (kf : ¬ x ≤ y → P w q lv st) : P w pc lv (.int y :: .int x :: st) := by
  obtain ⟨p, e, s, m, args, below, meth, c, cells, slots, Q, A, rfl, hx, hb, hml, hown, hTB, hNL, hK, hG, hcs, hScr, hri, hrv⟩ := hX
  subst hq
  intro H locs ls hP hS hl
  exact lv_icmp_le hx hb hd ht (fun h => kt h H locs ls hP hS hl) (fun h => kf h H locs ls hP hS hl)
theorem pw_icmpN_eq {l : Launch} {g : Geo} {own : String} {cc : ByteArray} {rm : Room} {nL : Nat} {ret : Option FieldType} {fin : Option Value → WD → Prop} {X : Nat → Nat → (Nat → Int32) → Prop} {P : PT} (hX : Gd l g own cc rm nL ret fin X P) {w : WD} {pc q : Nat} {lv : List (Option Value)} {st : List Value} {a b : Nat} (ha : a < 2 ^ 31) (hb : b < 2 ^ 31) {off : Int} {tgt : Nat} (hd : decode cc pc = .ok (.if_icmp .eq off, 3)) (hq : pc + 3 = q) (ht : (pc : Int) + off = (tgt : Int)) (kt : a = b → P w tgt lv st) (kf : a ≠ b → P w q lv st) : P w pc lv (.int (nI b) :: .int (nI a) :: st) := pw_icmp_eq hX hd hq ht (fun h => kt ((nI_eq ha hb).mp h)) (fun h => kf (fun z => h ((nI_eq ha hb).mpr z)))
theorem pw_icmpN_ne {l : Launch} {g : Geo} {own : String} {cc : ByteArray} {rm : Room} {nL : Nat} {ret : Option FieldType} {fin : Option Value → WD → Prop} {X : Nat → Nat → (Nat → Int32) → Prop} {P : PT} (hX : Gd l g own cc rm nL ret fin X P) {w : WD} {pc q : Nat} {lv : List (Option Value)} {st : List Value} {a b : Nat} (ha : a < 2 ^ 31) (hb : b < 2 ^ 31) {off : Int} {tgt : Nat} (hd : decode cc pc = .ok (.if_icmp .ne off, 3)) (hq : pc + 3 = q) (ht : (pc : Int) + off = (tgt : Int)) (kt : a ≠ b → P w tgt lv st) (kf : a = b → P w q lv st) : P w pc lv (.int (nI b) :: .int (nI a) :: st) := pw_icmp_ne hX hd hq ht (fun h => kt (fun z => h ((nI_eq ha hb).mpr z))) (fun h => kf ((nI_eq ha hb).mp h))
theorem pw_icmpN_lt {l : Launch} {g : Geo} {own : String} {cc : ByteArray} {rm : Room} {nL : Nat} {ret : Option FieldType} {fin : Option Value → WD → Prop} {X : Nat → Nat → (Nat → Int32) → Prop} {P : PT} (hX : Gd l g own cc rm nL ret fin X P) {w : WD} {pc q : Nat} {lv : List (Option Value)} {st : List Value} {a b : Nat} (ha : a < 2 ^ 31) (hb : b < 2 ^ 31) {off : Int} {tgt : Nat} (hd : decode cc pc = .ok (.if_icmp .lt off, 3)) (hq : pc + 3 = q) (ht : (pc : Int) + off = (tgt : Int)) (kt : a < b → P w tgt lv st) (kf : b ≤ a → P w q lv st) : P w pc lv (.int (nI b) :: .int (nI a) :: st) := pw_icmp_lt hX hd hq ht (fun h => kt ((nI_ltI ha hb).mp h)) (fun h => kf (Nat.not_lt.mp (fun z => h ((nI_ltI ha hb).mpr z))))
theorem pw_icmpN_ge {l : Launch} {g : Geo} {own : String} {cc : ByteArray} {rm : Room} {nL : Nat} {ret : Option FieldType} {fin : Option Value → WD → Prop} {X : Nat → Nat → (Nat → Int32) → Prop} {P : PT} (hX : Gd l g own cc rm nL ret fin X P) {w : WD} {pc q : Nat} {lv : List (Option Value)} {st : List Value} {a b : Nat} (ha : a < 2 ^ 31) (hb : b < 2 ^ 31) {off : Int} {tgt : Nat} (hd : decode cc pc = .ok (.if_icmp .ge off, 3)) (hq : pc + 3 = q) (ht : (pc : Int) + off = (tgt : Int)) (kt : b ≤ a → P w tgt lv st) (kf : a < b → P w q lv st) : P w pc lv (.int (nI b) :: .int (nI a) :: st) := pw_icmp_ge hX hd hq ht (fun h => kt ((nI_leI hb ha).mp h)) (fun h => kf (Nat.not_le.mp (fun z => h ((nI_leI hb ha).mpr z))))
theorem pw_icmpN_gt {l : Launch} {g : Geo} {own : String} {cc : ByteArray} {rm : Room} {nL : Nat} {ret : Option FieldType} {fin : Option Value → WD → Prop} {X : Nat → Nat → (Nat → Int32) → Prop} {P : PT} (hX : Gd l g own cc rm nL ret fin X P) {w : WD} {pc q : Nat} {lv : List (Option Value)} {st : List Value} {a b : Nat} (ha : a < 2 ^ 31) (hb : b < 2 ^ 31) {off : Int} {tgt : Nat} (hd : decode cc pc = .ok (.if_icmp .gt off, 3)) (hq : pc + 3 = q) (ht : (pc : Int) + off = (tgt : Int)) (kt : b < a → P w tgt lv st) (kf : a ≤ b → P w q lv st) : P w pc lv (.int (nI b) :: .int (nI a) :: st) := pw_icmp_gt hX hd hq ht (fun h => kt ((nI_ltI hb ha).mp h)) (fun h => kf (Nat.not_lt.mp (fun z => h ((nI_ltI hb ha).mpr z))))
theorem pw_icmpN_le {l : Launch} {g : Geo} {own : String} {cc : ByteArray} {rm : Room} {nL : Nat} {ret : Option FieldType} {fin : Option Value → WD → Prop} {X : Nat → Nat → (Nat → Int32) → Prop} {P : PT} (hX : Gd l g own cc rm nL ret fin X P) {w : WD} {pc q : Nat} {lv : List (Option Value)} {st : List Value} {a b : Nat} (ha : a < 2 ^ 31) (hb : b < 2 ^ 31) {off : Int} {tgt : Nat} (hd : decode cc pc = .ok (.if_icmp .le off, 3)) (hq : pc + 3 = q) (ht : (pc : Int) + off = (tgt : Int)) (kt : a ≤ b → P w tgt lv st) (kf : b < a → P w q lv st) : P w pc lv (.int (nI b) :: .int (nI a) :: st) := pw_icmp_le hX hd hq ht (fun h => kt ((nI_leI ha hb).mp h)) (fun h => kf (Nat.not_le.mp (fun z => h ((nI_leI ha hb).mpr z))))
theorem pw_ifB_eq {l : Launch} {g : Geo} {own : String} {cc : ByteArray} {rm : Room} {nL : Nat} {ret : Option FieldType} {fin : Option Value → WD → Prop} {X : Nat → Nat → (Nat → Int32) → Prop} {P : PT} (hX : Gd l g own cc rm nL ret fin X P) {w : WD} {pc q : Nat} {lv : List (Option Value)} {st : List Value} {b : Bool} {off : Int} {tgt : Nat} (hd : decode cc pc = .ok (.ifCond .eq off, 3)) (hq : pc + 3 = q) (ht : (pc : Int) + off = (tgt : Int)) (kt : b = false → P w tgt lv st) (kf : b = true → P w q lv st) : P w pc lv (.int (bI b) :: st) := pw_if_eq hX hd hq ht (fun h => kt (by exact (bI_eq0 b).mp h)) (fun h => kf (by simpa [bI_eq0] using h))
theorem pw_ifB_ne {l : Launch} {g : Geo} {own : String} {cc : ByteArray} {rm : Room} {nL : Nat} {ret : Option FieldType} {fin : Option Value → WD → Prop} {X : Nat → Nat → (Nat → Int32) → Prop} {P : PT} (hX : Gd l g own cc rm nL ret fin X P) {w : WD} {pc q : Nat} {lv : List (Option Value)} {st : List Value} {b : Bool} {off : Int} {tgt : Nat} (hd : decode cc pc = .ok (.ifCond .ne off, 3)) (hq : pc + 3 = q) (ht : (pc : Int) + off = (tgt : Int)) (kt : b = true → P w tgt lv st) (kf : b = false → P w q lv st) : P w pc lv (.int (bI b) :: st) := pw_if_ne hX hd hq ht (fun h => kt (by simpa [bI_eq0] using h)) (fun h => kf (by exact (bI_eq0 b).mp h))
theorem pw_ifN_eq {l : Launch} {g : Geo} {own : String} {cc : ByteArray} {rm : Room} {nL : Nat} {ret : Option FieldType} {fin : Option Value → WD → Prop} {X : Nat → Nat → (Nat → Int32) → Prop} {P : PT} (hX : Gd l g own cc rm nL ret fin X P) {w : WD} {pc q : Nat} {lv : List (Option Value)} {st : List Value} {a : Nat} (ha : a < 2 ^ 31) {off : Int} {tgt : Nat} (hd : decode cc pc = .ok (.ifCond .eq off, 3)) (hq : pc + 3 = q) (ht : (pc : Int) + off = (tgt : Int)) (kt : a = 0 → P w tgt lv st) (kf : a ≠ 0 → P w q lv st) : P w pc lv (.int (nI a) :: st) := pw_if_eq hX hd hq ht (fun h => kt ((nI_eq ha (by decide)).mp (h.trans nI_0.symm))) (fun h => kf (fun z => h (((nI_eq ha (by decide)).mpr z).trans nI_0)))
theorem pw_ifN_ne {l : Launch} {g : Geo} {own : String} {cc : ByteArray} {rm : Room} {nL : Nat} {ret : Option FieldType} {fin : Option Value → WD → Prop} {X : Nat → Nat → (Nat → Int32) → Prop} {P : PT} (hX : Gd l g own cc rm nL ret fin X P) {w : WD} {pc q : Nat} {lv : List (Option Value)} {st : List Value} {a : Nat} (ha : a < 2 ^ 31) {off : Int} {tgt : Nat} (hd : decode cc pc = .ok (.ifCond .ne off, 3)) (hq : pc + 3 = q) (ht : (pc : Int) + off = (tgt : Int)) (kt : a ≠ 0 → P w tgt lv st) (kf : a = 0 → P w q lv st) : P w pc lv (.int (nI a) :: st) := pw_if_ne hX hd hq ht (fun h => kt (fun z => h (((nI_eq ha (by decide)).mpr z).trans nI_0))) (fun h => kf ((nI_eq ha (by decide)).mp (h.trans nI_0.symm)))
theorem pw_ifN_le {l : Launch} {g : Geo} {own : String} {cc : ByteArray} {rm : Room} {nL : Nat} {ret : Option FieldType} {fin : Option Value → WD → Prop} {X : Nat → Nat → (Nat → Int32) → Prop} {P : PT} (hX : Gd l g own cc rm nL ret fin X P) {w : WD} {pc q : Nat} {lv : List (Option Value)} {st : List Value} {a : Nat} (ha : a < 2 ^ 31) {off : Int} {tgt : Nat} (hd : decode cc pc = .ok (.ifCond .le off, 3)) (hq : pc + 3 = q) (ht : (pc : Int) + off = (tgt : Int)) (kt : a = 0 → P w tgt lv st) (kf : 0 < a → P w q lv st) : P w pc lv (.int (nI a) :: st) := pw_if_le hX hd hq ht (fun h => kt (Nat.eq_zero_of_le_zero ((nI_leI ha (by decide)).mp (by rw [nI_0]; exact h)))) (fun h => kf (Nat.not_le.mp (fun z => h (by rw [← nI_0]; exact (nI_leI ha (by decide)).mpr z))))
theorem pw_ifN_gt {l : Launch} {g : Geo} {own : String} {cc : ByteArray} {rm : Room} {nL : Nat} {ret : Option FieldType} {fin : Option Value → WD → Prop} {X : Nat → Nat → (Nat → Int32) → Prop} {P : PT} (hX : Gd l g own cc rm nL ret fin X P) {w : WD} {pc q : Nat} {lv : List (Option Value)} {st : List Value} {a : Nat} (ha : a < 2 ^ 31) {off : Int} {tgt : Nat} (hd : decode cc pc = .ok (.ifCond .gt off, 3)) (hq : pc + 3 = q) (ht : (pc : Int) + off = (tgt : Int)) (kt : 0 < a → P w tgt lv st) (kf : a = 0 → P w q lv st) : P w pc lv (.int (nI a) :: st) := pw_if_gt hX hd hq ht (fun h => kt ((nI_ltI (by decide) ha).mp (by rw [nI_0]; exact h))) (fun h => kf (Nat.eq_zero_of_not_pos (fun z => h (by rw [← nI_0]; exact (nI_ltI (by decide) ha).mpr z))))
theorem inc1 (i : Nat) : nI i + Int32.ofInt 1 = nI (i + 1) := by rw [show Int32.ofInt 1 = nI 1 by decide, nI_add]
theorem pw_goto {l : Launch} {g : Geo} {own : String} {cc : ByteArray} {rm : Room} {nL : Nat} {ret : Option FieldType} {fin : Option Value → WD → Prop} {X : Nat → Nat → (Nat → Int32) → Prop} {P : PT} (hX : Gd l g own cc rm nL ret fin X P) {w : WD} {pc : Nat} {lv : List (Option Value)} {st : List Value} {off : Int} {tgt : Nat} (hd : decode cc pc = .ok (.goto off, 3)) (ht : (pc : Int) + off = (tgt : Int)) (kk : P w tgt lv st) : P w pc lv st := by
  obtain ⟨p, e, s, m, args, below, meth, c, cells, slots, Q, A, rfl, hx, hb, hml, hown, hTB, hNL, hK, hG, hcs, hScr, hri, hrv⟩ := hX
  intro H locs ls hP hS hl
  exact lv_goto hx hb hd ht (kk H locs ls hP hS hl)
theorem pw_lookup {l : Launch} {g : Geo} {own : String} {cc : ByteArray} {rm : Room} {nL : Nat} {ret : Option FieldType} {fin : Option Value → WD → Prop} {X : Nat → Nat → (Nat → Int32) → Prop} {P : PT} (hX : Gd l g own cc rm nL ret fin X P) {w : WD} {pc : Nat} {lv : List (Option Value)} {st : List Value} {dflt : Int} {ps : Array (Int × Int)} {len : Nat} {x : Int32} {off : Int} {tgt : Nat} (hd : decode cc pc = .ok (.lookupswitch dflt ps, len)) (hp : (ps.toList.zip (ps.toList.drop 1)).all (fun (a, next) => a.1 < next.1) = true) (ho : Op.lookupswitch.offset ps.toList dflt x.toInt = off) (ht : (pc : Int) + off = (tgt : Int)) (kk : P w tgt lv st) : P w pc lv (.int x :: st) := by
  obtain ⟨p, e, s, m, args, below, meth, c, cells, slots, Q, A, rfl, hx, hb, hml, hown, hTB, hNL, hK, hG, hcs, hScr, hri, hrv⟩ := hX
  intro H locs ls hP hS hl
  exact lv_lookup hx hb hd hp ho ht (kk H locs ls hP hS hl)
theorem pw_tabOut {l : Launch} {g : Geo} {own : String} {cc : ByteArray} {rm : Room} {nL : Nat} {ret : Option FieldType} {fin : Option Value → WD → Prop} {X : Nat → Nat → (Nat → Int32) → Prop} {P : PT} (hX : Gd l g own cc rm nL ret fin X P) {w : WD} {pc : Nat} {lv : List (Option Value)} {st : List Value} {dflt lo hi : Int} {offs : Array Int} {len : Nat} {x : Int32} {tgt : Nat} (hd : decode cc pc = .ok (.tableswitch dflt lo hi offs, len)) (h : x.toInt < lo ∨ hi < x.toInt) (ht : (pc : Int) + dflt = (tgt : Int)) (kk : P w tgt lv st) : P w pc lv (.int x :: st) := by
  obtain ⟨p, e, s, m, args, below, meth, c, cells, slots, Q, A, rfl, hx, hb, hml, hown, hTB, hNL, hK, hG, hcs, hScr, hri, hrv⟩ := hX
  intro H locs ls hP hS hl
  exact lv_tableOut hx hb hd h ht (kk H locs ls hP hS hl)
theorem pw_tabIn {l : Launch} {g : Geo} {own : String} {cc : ByteArray} {rm : Room} {nL : Nat} {ret : Option FieldType} {fin : Option Value → WD → Prop} {X : Nat → Nat → (Nat → Int32) → Prop} {P : PT} (hX : Gd l g own cc rm nL ret fin X P) {w : WD} {pc : Nat} {lv : List (Option Value)} {st : List Value} {dflt lo hi : Int} {offs : Array Int} {len : Nat} {x : Int32} {off : Int} {tgt : Nat} (hd : decode cc pc = .ok (.tableswitch dflt lo hi offs, len)) (h1 : ¬ x.toInt < lo) (h2 : ¬ hi < x.toInt) (ho : offs[(x.toInt - lo).toNat]? = some off) (ht : (pc : Int) + off = (tgt : Int)) (kk : P w tgt lv st) : P w pc lv (.int x :: st) := by
  obtain ⟨p, e, s, m, args, below, meth, c, cells, slots, Q, A, rfl, hx, hb, hml, hown, hTB, hNL, hK, hG, hcs, hScr, hri, hrv⟩ := hX
  intro H locs ls hP hS hl
  exact lv_tableIn hx hb hd h1 h2 ho ht (kk H locs ls hP hS hl)
theorem pw_ireturn {l : Launch} {g : Geo} {own : String} {cc : ByteArray} {rm : Room} {nL : Nat} {ret : Option FieldType} {fin : Option Value → WD → Prop} {X : Nat → Nat → (Nat → Int32) → Prop} {P : PT} (hX : Gd l g own cc rm nL ret fin X P) {w : WD} {pc : Nat} {lv : List (Option Value)} {v : Int32} (hd : decode cc pc = .ok (.ireturn, 1)) (hr : ∃ ty, ret = some ty ∧ narrow ty (.int v) = .int v) (hf : fin (some (.int v)) w) : P w pc lv [.int v] := by
  obtain ⟨p, e, s, m, args, below, meth, c, cells, slots, Q, A, rfl, hx, hb, hml, hown, hTB, hNL, hK, hG, hcs, hScr, hri, hrv⟩ := hX
  exact hri w pc lv v hd hr hf
theorem pw_return {l : Launch} {g : Geo} {own : String} {cc : ByteArray} {rm : Room} {nL : Nat} {ret : Option FieldType} {fin : Option Value → WD → Prop} {X : Nat → Nat → (Nat → Int32) → Prop} {P : PT} (hX : Gd l g own cc rm nL ret fin X P) {w : WD} {pc : Nat} {lv : List (Option Value)} (hd : decode cc pc = .ok (.return_, 1)) (hr : ret = none) (hf : fin none w) : P w pc lv [] := by
  obtain ⟨p, e, s, m, args, below, meth, c, cells, slots, Q, A, rfl, hx, hb, hml, hown, hTB, hNL, hK, hG, hcs, hScr, hri, hrv⟩ := hX
  exact hrv w pc lv hd hr hf
theorem wl_o (g : Geo) (w : WD) {o : Nat} (h : (o, 0) ∈ g_dm g) : ∃ i : Nat, (g_dm g)[i]? = some (o, 0) ∧ (g_wl g w)[i]? = some (g_ad g o 0, .inr (g_ci o, g_fs g w o)) := by
  obtain ⟨i, h1, h2⟩ := wl_at g h
  exact ⟨i, h1, by rw [h2 w]; rfl⟩
theorem wl_a (g : Geo) (w : WD) {o k : Nat} (h : (o, k) ∈ g_dm g) (hk : k ≠ 0) (h8 : o ≠ 8) : ∃ i : Nat, (g_dm g)[i]? = some (o, k) ∧ (g_wl g w)[i]? = some (g_ad g o k, .inl ((if g_ch o k = true then g.2.2.2.1 else g.2.2.1), g_ln o k, .inl (fun j => nI (w.1 o k j)))) := by
  obtain ⟨i, h1, h2⟩ := wl_at g h
  refine ⟨i, h1, ?_⟩
  rw [h2 w]
  simp only [g_cell, if_neg hk, if_neg h8]
theorem pw_getf {l : Launch} {g : Geo} {own : String} {cc : ByteArray} {rm : Room} {nL : Nat} {ret : Option FieldType} {fin : Option Value → WD → Prop} {X : Nat → Nat → (Nat → Int32) → Prop} {P : PT} (hX : Gd l g own cc rm nL ret fin X P) {w : WD} {pc q : Nat} {lv : List (Option Value)} {st : List Value} {o k index ci N : Nat} {C : String} {T : u_T} {v : Value} (ho : (o, 0) ∈ g_dm g) (hci : g_ci o = ci) (hc : vwCl[ci]? = some (C, T, N)) (hin : ∀ w ∈ u_ws C T N, w ∈ TB) (hk : k < N) (hlink : Cond.fieldLink own index (T k).1 (T k).2.1 (T k).2.2.1 ∈ TB) (hv : (g_fs g w o)[k]? = some v) (hd : decode cc pc = .ok (.getfield index, 3)) (hq : pc + 3 = q) (kk : P w q lv (v :: st)) : P w pc lv (.ref (g_ad g o 0) :: st) := by
  obtain ⟨p, e, s, m, args, below, meth, c, cells, slots, Q, A, rfl, hx, hb, hml, hown, hTB, hNL, hK, hG, hcs, hScr, hri, hrv⟩ := hX
  subst hq
  intro H locs ls hP hS hl
  subst hci
  obtain ⟨i, -, hi⟩ := wl_o g w ho
  exact va_get hx hb hTB hin hown hK hP i hi hc k hk (hTB _ hlink) (fun _ h => h) hv hd (kk H locs ls hP hS hl)
theorem pw_getfN {l : Launch} {g : Geo} {own : String} {cc : ByteArray} {rm : Room} {nL : Nat} {ret : Option FieldType} {fin : Option Value → WD → Prop} {X : Nat → Nat → (Nat → Int32) → Prop} {P : PT} (hX : Gd l g own cc rm nL ret fin X P) {w : WD} {pc q : Nat} {lv : List (Option Value)} {st : List Value} {o k index ci N : Nat} {C host : String} {T : u_T} {v : Value} (ho : (o, 0) ∈ g_dm g) (hci : g_ci o = ci) (hc : vwCl[ci]? = some (C, T, N)) (hin : ∀ w ∈ u_ws C T N, w ∈ TB) (hk : k < N) (hlink : Cond.fieldLinkNest own index (T k).1 (T k).2.1 (T k).2.2.1 host ∈ NL) (hv : (g_fs g w o)[k]? = some v) (hd : decode cc pc = .ok (.getfield index, 3)) (hq : pc + 3 = q) (kk : P w q lv (v :: st)) : P w pc lv (.ref (g_ad g o 0) :: st) := by
  obtain ⟨p, e, s, m, args, below, meth, c, cells, slots, Q, A, rfl, hx, hb, hml, hown, hTB, hNL, hK, hG, hcs, hScr, hri, hrv⟩ := hX
  subst hq
  intro H locs ls hP hS hl
  subst hci
  obtain ⟨i, -, hi⟩ := wl_o g w ho
  exact va_getN hx hb hTB hin hown hK hP i hi hc k hk (va_Nw.use rfl (hNL _ hlink)) (fun _ h => h) hv hd (kk H locs ls hP hS hl)
theorem pw_putf {l : Launch} {g : Geo} {own : String} {cc : ByteArray} {rm : Room} {nL : Nat} {ret : Option FieldType} {fin : Option Value → WD → Prop} {X : Nat → Nat → (Nat → Int32) → Prop} {P : PT} (hX : Gd l g own cc rm nL ret fin X P) {w : WD} {pc q : Nat} {lv : List (Option Value)} {st : List Value} {o k index ci N : Nat} {C : String} {T : u_T} {x : Nat} (ty0 : Nat → FieldType) (hty : ∀ k, k < N → parseFieldDescriptor (T k).2.2.1 = some (ty0 k)) (hnm : ∀ a, a < N → ∀ b, b < N → a ≠ b → (T a).2.1 ≠ (T b).2.1) (ho : (o, 0) ∈ g_dm g) (hci : g_ci o = ci) (hc : vwCl[ci]? = some (C, T, N)) (hin : ∀ w ∈ u_ws C T N, w ∈ TB) (hk : k < N) (hlink : Cond.fieldLink own index (T k).1 (T k).2.1 (T k).2.2.1 ∈ TB) (hfin : (T k).2.2.2 = false) (hd0 : parseFieldDescriptor (T k).2.2.1 = some .int) (hfs : g_fs g (wA w o 0 (upN (w.1 o 0) k x)) o = (g_fs g w o).set k (.int (nI x))) (hln : k < (g_fs g w o).length) (hd : decode cc pc = .ok (.putfield index, 3)) (hq : pc + 3 = q) (kk : P (wA w o 0 (upN (w.1 o 0) k x)) q lv (st)) : P w pc lv (.int (nI x) :: .ref (g_ad g o 0) :: st) := by
  obtain ⟨p, e, s, m, args, below, meth, c, cells, slots, Q, A, rfl, hx, hb, hml, hown, hTB, hNL, hK, hG, hcs, hScr, hri, hrv⟩ := hX
  subst hq
  intro H locs ls hP hS hl
  subst hci
  obtain ⟨i, h1, hi⟩ := wl_o g w ho
  refine va_put hx hb hTB hin ty0 hty hnm hown hK hP (g_D hG.1 hG.2 w) hS i hi hc k hk (hTB _ hlink) (fun _ h => h) hfin hd0 rfl rfl hln hd (fun H1 locs1 hP1 _ hS1 => kk H1 locs1 ls ?_ hS1 hl)
  have e := wl_set (g := g) (w := w) (w' := wA w o 0 (upN (w.1 o 0) k x)) (q := (o, 0)) h1 (fun o' k' _ h => cell_wA h) (e := .inr (g_ci o, (g_fs g w o).set k (.int (nI x)))) (by simp only [g_cell, if_pos]; rw [hfs])
  rw [← e]; exact hP1
theorem pw_putfN {l : Launch} {g : Geo} {own : String} {cc : ByteArray} {rm : Room} {nL : Nat} {ret : Option FieldType} {fin : Option Value → WD → Prop} {X : Nat → Nat → (Nat → Int32) → Prop} {P : PT} (hX : Gd l g own cc rm nL ret fin X P) {w : WD} {pc q : Nat} {lv : List (Option Value)} {st : List Value} {o k index ci N : Nat} {C host : String} {T : u_T} {x : Nat} (ty0 : Nat → FieldType) (hty : ∀ k, k < N → parseFieldDescriptor (T k).2.2.1 = some (ty0 k)) (hnm : ∀ a, a < N → ∀ b, b < N → a ≠ b → (T a).2.1 ≠ (T b).2.1) (ho : (o, 0) ∈ g_dm g) (hci : g_ci o = ci) (hc : vwCl[ci]? = some (C, T, N)) (hin : ∀ w ∈ u_ws C T N, w ∈ TB) (hk : k < N) (hlink : Cond.fieldLinkNest own index (T k).1 (T k).2.1 (T k).2.2.1 host ∈ NL) (hfin : (T k).2.2.2 = false) (hd0 : parseFieldDescriptor (T k).2.2.1 = some .int) (hfs : g_fs g (wA w o 0 (upN (w.1 o 0) k x)) o = (g_fs g w o).set k (.int (nI x))) (hln : k < (g_fs g w o).length) (hd : decode cc pc = .ok (.putfield index, 3)) (hq : pc + 3 = q) (kk : P (wA w o 0 (upN (w.1 o 0) k x)) q lv (st)) : P w pc lv (.int (nI x) :: .ref (g_ad g o 0) :: st) := by
  obtain ⟨p, e, s, m, args, below, meth, c, cells, slots, Q, A, rfl, hx, hb, hml, hown, hTB, hNL, hK, hG, hcs, hScr, hri, hrv⟩ := hX
  subst hq
  intro H locs ls hP hS hl
  subst hci
  obtain ⟨i, h1, hi⟩ := wl_o g w ho
  refine va_putN hx hb hTB hin ty0 hty hnm hown hK hP (g_D hG.1 hG.2 w) hS i hi hc k hk (va_Nw.use rfl (hNL _ hlink)) (fun _ h => h) hfin hd0 rfl rfl hln hd (fun H1 locs1 hP1 _ hS1 => kk H1 locs1 ls ?_ hS1 hl)
  have e := wl_set (g := g) (w := w) (w' := wA w o 0 (upN (w.1 o 0) k x)) (q := (o, 0)) h1 (fun o' k' _ h => cell_wA h) (e := .inr (g_ci o, (g_fs g w o).set k (.int (nI x)))) (by simp only [g_cell, if_pos]; rw [hfs])
  rw [← e]; exact hP1
theorem g_ln_le (o k : Nat) : g_ln o k ≤ 3252 := by
  unfold g_ln lnV lnM
  repeat' split
  all_goals omega
theorem nIc {i : Nat} (h : i < 3252) : (nI i).toNatClampNeg = i := nI_clamp (by omega)
theorem pw_iald {l : Launch} {g : Geo} {own : String} {cc : ByteArray} {rm : Room} {nL : Nat} {ret : Option FieldType} {fin : Option Value → WD → Prop} {X : Nat → Nat → (Nat → Int32) → Prop} {P : PT} (hX : Gd l g own cc rm nL ret fin X P) {w : WD} {pc q : Nat} {lv : List (Option Value)} {st : List Value} {o k i : Nat} (hz : (o, k) ∈ g_dm g) (hk : k ≠ 0) (h8 : o ≠ 8) (hch : g_ch o k = false) (hlt : i < g_ln o k) (hd : decode cc pc = .ok (.iaload, 1)) (hq : pc + 1 = q) (kk : P w q lv (.int (nI (w.1 o k i)) :: st)) : P w pc lv (.int (nI i) :: .ref (g_ad g o k) :: st) := by
  obtain ⟨p, e, s, m, args, below, meth, c, cells, slots, Q, A, rfl, hx, hb, hml, hown, hTB, hNL, hK, hG, hcs, hScr, hri, hrv⟩ := hX
  subst hq
  intro H locs ls hP hS hl
  obtain ⟨j, -, hj⟩ := wl_a g w hz hk h8
  rw [hch] at hj
  refine va_iald hx hb hK hP j 0 (i := nI i) hj rfl (vp_in_nI hlt (Nat.lt_of_le_of_lt (g_ln_le o k) (by decide))) hd ?_
  rw [nIc (Nat.lt_of_lt_of_le hlt (g_ln_le o k))]
  exact kk H locs ls hP hS hl
theorem pw_iast {l : Launch} {g : Geo} {own : String} {cc : ByteArray} {rm : Room} {nL : Nat} {ret : Option FieldType} {fin : Option Value → WD → Prop} {X : Nat → Nat → (Nat → Int32) → Prop} {P : PT} (hX : Gd l g own cc rm nL ret fin X P) {w : WD} {pc q : Nat} {lv : List (Option Value)} {st : List Value} {o k i : Nat} (hz : (o, k) ∈ g_dm g) (hk : k ≠ 0) (h8 : o ≠ 8) (hch : g_ch o k = false) (hlt : i < g_ln o k) {x : Nat} (hd : decode cc pc = .ok (.iastore, 1)) (hq : pc + 1 = q) (kk : P (wA w o k (upN (w.1 o k) i x)) q lv (st)) : P w pc lv (.int (nI x) :: .int (nI i) :: .ref (g_ad g o k) :: st) := by
  obtain ⟨p, e, s, m, args, below, meth, c, cells, slots, Q, A, rfl, hx, hb, hml, hown, hTB, hNL, hK, hG, hcs, hScr, hri, hrv⟩ := hX
  subst hq
  intro H locs ls hP hS hl
  obtain ⟨j, h1, hj⟩ := wl_a g w hz hk h8
  rw [hch] at hj
  refine va_iast hx hb hK hP (g_D hG.1 hG.2 w) hS j 0 hj rfl (vp_in_nI hlt (Nat.lt_of_le_of_lt (g_ln_le o k) (by decide))) hd (fun H1 locs1 hP1 _ hS1 => kk H1 locs1 ls ?_ hS1 hl)
  rw [nIc (Nat.lt_of_lt_of_le hlt (g_ln_le o k)), upN_I] at hP1
  have e := wl_set (g := g) (w := w) (w' := wA w o k (upN (w.1 o k) i x)) (q := (o, k)) h1 (fun o' k' _ h => cell_wA h) (e := .inl (_, g_ln o k, .inl (fun j => nI (upN (w.1 o k) i x j)))) (by simp only [g_cell, if_neg hk, if_neg h8, wA_s, hch]; rfl)
  rw [← e]; exact hP1
theorem pw_cald {l : Launch} {g : Geo} {own : String} {cc : ByteArray} {rm : Room} {nL : Nat} {ret : Option FieldType} {fin : Option Value → WD → Prop} {X : Nat → Nat → (Nat → Int32) → Prop} {P : PT} (hX : Gd l g own cc rm nL ret fin X P) {w : WD} {pc q : Nat} {lv : List (Option Value)} {st : List Value} {o k i : Nat} (hz : (o, k) ∈ g_dm g) (hk : k ≠ 0) (h8 : o ≠ 8) (hch : g_ch o k = true) (hlt : i < g_ln o k) (hd : decode cc pc = .ok (.caload, 1)) (hq : pc + 1 = q) (kk : P w q lv (.int (nI (w.1 o k i)) :: st)) : P w pc lv (.int (nI i) :: .ref (g_ad g o k) :: st) := by
  obtain ⟨p, e, s, m, args, below, meth, c, cells, slots, Q, A, rfl, hx, hb, hml, hown, hTB, hNL, hK, hG, hcs, hScr, hri, hrv⟩ := hX
  subst hq
  intro H locs ls hP hS hl
  obtain ⟨j, -, hj⟩ := wl_a g w hz hk h8
  rw [hch] at hj
  refine va_cald hx hb hK hP j 1 (i := nI i) hj rfl (vp_in_nI hlt (Nat.lt_of_le_of_lt (g_ln_le o k) (by decide))) hd ?_
  rw [nIc (Nat.lt_of_lt_of_le hlt (g_ln_le o k))]
  exact kk H locs ls hP hS hl
theorem pw_cast {l : Launch} {g : Geo} {own : String} {cc : ByteArray} {rm : Room} {nL : Nat} {ret : Option FieldType} {fin : Option Value → WD → Prop} {X : Nat → Nat → (Nat → Int32) → Prop} {P : PT} (hX : Gd l g own cc rm nL ret fin X P) {w : WD} {pc q : Nat} {lv : List (Option Value)} {st : List Value} {o k i : Nat} (hz : (o, k) ∈ g_dm g) (hk : k ≠ 0) (h8 : o ≠ 8) (hch : g_ch o k = true) (hlt : i < g_ln o k) {x : Nat} (hxc : x < 65536) (hd : decode cc pc = .ok (.castore, 1)) (hq : pc + 1 = q) (kk : P (wA w o k (upN (w.1 o k) i x)) q lv (st)) : P w pc lv (.int (nI x) :: .int (nI i) :: .ref (g_ad g o k) :: st) := by
  obtain ⟨p, e, s, m, args, below, meth, c, cells, slots, Q, A, rfl, hx, hb, hml, hown, hTB, hNL, hK, hG, hcs, hScr, hri, hrv⟩ := hX
  subst hq
  intro H locs ls hP hS hl
  have hnar : vp_nar .char (nI x) = nI x := by have hh := (pk_charN hxc).1; unfold vp_nar; rw [hh]
  obtain ⟨j, h1, hj⟩ := wl_a g w hz hk h8
  rw [hch] at hj
  refine va_cast hx hb hK hP (g_D hG.1 hG.2 w) hS j 1 hj rfl (vp_in_nI hlt (Nat.lt_of_le_of_lt (g_ln_le o k) (by decide))) hd (fun H1 locs1 hP1 _ hS1 => kk H1 locs1 ls ?_ hS1 hl)
  rw [hnar] at hP1
  rw [nIc (Nat.lt_of_lt_of_le hlt (g_ln_le o k)), upN_I] at hP1
  have e := wl_set (g := g) (w := w) (w' := wA w o k (upN (w.1 o k) i x)) (q := (o, k)) h1 (fun o' k' _ h => cell_wA h) (e := .inl (_, g_ln o k, .inl (fun j => nI (upN (w.1 o k) i x j)))) (by simp only [g_cell, if_neg hk, if_neg h8, wA_s, hch]; rfl)
  rw [← e]; exact hP1
theorem dm8 {g : Geo} {k : Nat} (h : (8, k) ∈ g_dm g) : k < 2 := by
  have h0 : g_dF.all (fun q => decide (q.1 = 8 → q.2 < 2)) = true := by decide +kernel
  exact of_decide_eq_true (List.all_eq_true.mp h0 _ (dmF h)) rfl
theorem wl_h (g : Geo) (w : WD) : ∃ i : Nat, (g_dm g)[i]? = some (8, 1) ∧ (g_wl g w)[i]? = some (g_ad g 8 1, .inl (g.2.2.2.2.1, 5, .inr (.inr (.inr (.inr (fun i => some (g_ad g (w.2 i) 0))))))) := by
  obtain ⟨i, h1, h2⟩ := wl_at g (q := (8, 1)) (dmb (by decide))
  exact ⟨i, h1, by rw [h2 w]; rfl⟩
theorem pw_aald {l : Launch} {g : Geo} {own : String} {cc : ByteArray} {rm : Room} {nL : Nat} {ret : Option FieldType} {fin : Option Value → WD → Prop} {X : Nat → Nat → (Nat → Int32) → Prop} {P : PT} (hX : Gd l g own cc rm nL ret fin X P) {w : WD} {pc q : Nat} {lv : List (Option Value)} {st : List Value} {i : Nat} (hlt : i < 5) (hd : decode cc pc = .ok (.aaload, 1)) (hq : pc + 1 = q) (kk : P w q lv (.ref (g_ad g (w.2 i) 0) :: st)) : P w pc lv (.int (nI i) :: .ref (g_ad g 8 1) :: st) := by
  obtain ⟨p, e, s, m, args, below, meth, c, cells, slots, Q, A, rfl, hx, hb, hml, hown, hTB, hNL, hK, hG, hcs, hScr, hri, hrv⟩ := hX
  subst hq
  intro H locs ls hP hS hl
  obtain ⟨j, -, hj⟩ := wl_h g w
  refine va_aldq hx hb hK hP j 2 (i := nI i) hj rfl (vp_in_nI hlt (by decide)) hd ?_
  rw [nIc (by omega)]
  exact kk H locs ls hP hS hl
theorem pw_aast {l : Launch} {g : Geo} {own : String} {cc : ByteArray} {rm : Room} {nL : Nat} {ret : Option FieldType} {fin : Option Value → WD → Prop} {X : Nat → Nat → (Nat → Int32) → Prop} {P : PT} (hX : Gd l g own cc rm nL ret fin X P) {w : WD} {pc q : Nat} {lv : List (Option Value)} {st : List Value} {i v : Nat} (hlt : i < 5) (hv : v < 7) (hd : decode cc pc = .ok (.aastore, 1)) (hq : pc + 1 = q) (kk : P (wH w i v) q lv (st)) : P w pc lv (.ref (g_ad g v 0) :: .int (nI i) :: .ref (g_ad g 8 1) :: st) := by
  obtain ⟨p, e, s, m, args, below, meth, c, cells, slots, Q, A, rfl, hx, hb, hml, hown, hTB, hNL, hK, hG, hcs, hScr, hri, hrv⟩ := hX
  subst hq
  intro H locs ls hP hS hl
  obtain ⟨j, h1, hj⟩ := wl_h g w
  obtain ⟨jv, -, hjv⟩ := wl_o g w (dmV hv (k := 0) (by decide))
  have hc2 : g_ci v = 2 := by simp only [g_ci, if_pos hv]
  rw [hc2] at hjv
  refine va_astq hx hb hK hP (g_D hG.1 hG.2 w) hS j 2 jv 2 (r := (RX2, TX2, 15)) hj rfl hjv rfl (vp_in_nI hlt (by decide)) hd (fun H1 locs1 hP1 _ hS1 => kk H1 locs1 ls ?_ hS1 hl)
  rw [nIc (by omega)] at hP1
  have e := wl_set (g := g) (w := w) (w' := wH w i v) (q := (8, 1)) h1 (fun o' k' hm h => by
    by_cases h8 : o' = 8
    · subst h8; exact cell_wH h (Or.inl (dm8 hm))
    · exact cell_wH h (Or.inr h8)) (e := .inl (g.2.2.2.2.1, 5, .inr (.inr (.inr (.inr (va_up (fun i => some (g_ad g (w.2 i) 0)) i (some (g_ad g v 0)))))))) (by
    simp only [g_cell, wH]
    simp
    funext b
    by_cases hb : b = i
    · subst hb; simp [va_up]
    · simp [va_up, hb])
  rw [← e]; exact hP1
