theorem wl_L_10 : Cond.classLink "RumorTombsLaw" 10 RX3 ∈ TB := tb_of 16 (by decide +kernel) rfl
theorem wi_X3 : Cond.instantiable RX3 4 ∈ TB := tb_of 17 (by decide +kernel) rfl
theorem wm_X3 : Cond.instanceMethod yX3_init ∈ TB := tb_of 19 (by decide +kernel) rfl
theorem wc_X3 : Cond.code yX3_init cX3_init 1 none ∈ TB := tb_of 20 (by exact rfl) rfl
theorem wm_obj : Cond.instanceMethod objectInit ∈ TB := tb_of 22 (by decide +kernel) rfl
theorem wc_obj : Cond.code objectInit ⟨#[0xb1]⟩ 1 none ∈ TB := tb_of 23 (by exact rfl) rfl
theorem wl_X3_7 : Cond.classLink RX3 7 RX2 ∈ TB := tb_of 24 (by decide +kernel) rfl
theorem wi_X2 : Cond.instantiable RX2 15 ∈ TB := tb_of 25 (by decide +kernel) rfl
theorem wm_X2 : Cond.instanceMethod yX2_init ∈ TB := tb_of 27 (by decide +kernel) rfl
theorem wc_X2 : Cond.code yX2_init cX2_init 1 none ∈ TB := tb_of 28 (by exact rfl) rfl
theorem wa_int : Cond.arrayClass .int ∈ TB := tb_of 88 (by decide +kernel) rfl
theorem wa_char : Cond.arrayClass .char ∈ TB := tb_of 132 (by decide +kernel) rfl
theorem wl_X3_19 : Cond.classLink RX3 19 RX0 ∈ TB := tb_of 89 (by decide +kernel) rfl
theorem wi_X0 : Cond.instantiable RX0 2 ∈ TB := tb_of 90 (by decide +kernel) rfl
theorem wm_X0 : Cond.instanceMethod yX0_init ∈ TB := tb_of 92 (by decide +kernel) rfl
theorem wc_X0 : Cond.code yX0_init cX0_init 2 none ∈ TB := tb_of 93 (by exact rfl) rfl
theorem wl_X0_9 : Cond.classLink RX0 9 RX2 ∈ TB := tb_of 95 (by decide +kernel) rfl
theorem wo_X2 : Cond.arrayOver (.object RX2) ∈ lw_tbl := List.mem_of_getElem? (i := 96) (by decide +kernel)
theorem wl_X3_26 : Cond.classLink RX3 26 RX1 ∈ TB := tb_of 106 (by decide +kernel) rfl
theorem wi_X1 : Cond.instantiable RX1 6 ∈ TB := tb_of 107 (by decide +kernel) rfl
theorem wm_X1 : Cond.instanceMethod yX1_init ∈ TB := tb_of 109 (by decide +kernel) rfl
theorem wc_X1 : Cond.code yX1_init cX1_init 1 none ∈ TB := tb_of 110 (by exact rfl) rfl
/-! THE CONSTRUCTORS: the cells that they leave -/
def aI (n : Nat) (f : Nat → Int32) : vp_A := (n, .inl f)
def tyK (cI cC cO : ClassId) : List (ClassId × FieldType) := [(cI, .int), (cC, .char), (cO, .object RX2)]
def vC (cI : ClassId) (h : Nat) (a : Nat → Nat) : va_W := [(h, .inr (2, [.int (nI 0), .int (nI 0), .int (nI 10), .int (nI 0), .ref (a 1), .ref (a 2), .ref (a 3), .ref (a 4), .ref (a 5), .ref (a 6), .ref (a 7), .ref (a 8), .ref (a 9), .ref (a 10), .ref (a 11)])), (a 1, .inl (cI, 7, .inl (fun _ => nI 0))), (a 2, .inl (cI, 7, .inl (fun _ => nI 0))), (a 3, .inl (cI, 7, .inl (fun _ => nI 0))), (a 4, .inl (cI, 7, .inl (fun _ => nI 0))), (a 5, .inl (cI, 84, .inl (fun _ => nI 0))), (a 6, .inl (cI, 84, .inl (fun _ => nI 0))), (a 7, .inl (cI, 84, .inl (fun _ => nI 0))), (a 8, .inl (cI, 84, .inl (fun _ => nI 0))), (a 9, .inl (cI, 84, .inl (fun _ => nI 0))), (a 10, .inl (cI, 84, .inl (fun _ => nI 0))), (a 11, .inl (cI, 12, .inl (fun _ => nI 0)))]
def hC (cI cO : ClassId) (h : Nat) (a : Nat → Nat → Nat) (f : Nat → Option Nat) : va_W := [(h, .inr (0, [.ref (a 5 1), .int (nI 0)])), (a 5 1, .inl (cO, 5, .inr (.inr (.inr (.inr f)))))] ++ vC cI (a 0 0) (a 0) ++ vC cI (a 1 0) (a 1) ++ vC cI (a 2 0) (a 2) ++ vC cI (a 3 0) (a 3) ++ vC cI (a 4 0) (a 4)
def oC (cI cC : ClassId) (h : Nat) (a : Nat → Nat) : va_W := [(h, .inr (1, [.ref (a 1), .int (nI 0), .ref (a 2), .int (nI 0), .int (nI 0), .int (nI 0)])), (a 1, .inl (cC, 60, .inl (fun _ => nI 0))), (a 2, .inl (cI, 3, .inl (fun _ => nI 0)))]
def hH (a : Nat → Nat → Nat) : Nat → Nat → Nat := fun i k => if i = 5 then a 8 k else a (i + 2) k
def rC (cI cC cO : ClassId) (h : Nat) (a : Nat → Nat → Nat) (f : Nat → Option Nat) : va_W := [(h, .inr (3, [.ref (a 0 0), .ref (a 1 0), .ref (a 8 0), .ref (a 7 0)]))] ++ vC cI (a 0 0) (a 0) ++ vC cI (a 1 0) (a 1) ++ hC cI cO (a 8 0) (hH a) f ++ oC cI cC (a 7 0) (a 7)
abbrev vZ : List Value := [.int (nI 0), .int (nI 0), .int (nI 0), .int (nI 0), .null, .null, .null, .null, .null, .null, .null, .null, .null, .null, .null]
abbrev hZ : List Value := [.null, .int (nI 0)]
abbrev oZ : List Value := [.null, .int (nI 0), .null, .int (nI 0), .int (nI 0), .int (nI 0)]
abbrev rZ : List Value := [.null, .null, .null, .null]
theorem dv_X2 : ∀ j, j < 15 → defaultValue (tyX2 j) = vp_V vZ j := fun j hj => by rcases (show j = 0 ∨ j = 1 ∨ j = 2 ∨ j = 3 ∨ j = 4 ∨ j = 5 ∨ j = 6 ∨ j = 7 ∨ j = 8 ∨ j = 9 ∨ j = 10 ∨ j = 11 ∨ j = 12 ∨ j = 13 ∨ j = 14 by omega) with rfl | rfl | rfl | rfl | rfl | rfl | rfl | rfl | rfl | rfl | rfl | rfl | rfl | rfl | rfl <;> rfl
theorem dv_X0 : ∀ j, j < 2 → defaultValue (tyX0 j) = vp_V hZ j := fun j hj => by rcases (show j = 0 ∨ j = 1 by omega) with rfl | rfl <;> rfl
theorem dv_X1 : ∀ j, j < 6 → defaultValue (tyX1 j) = vp_V oZ j := fun j hj => by rcases (show j = 0 ∨ j = 1 ∨ j = 2 ∨ j = 3 ∨ j = 4 ∨ j = 5 by omega) with rfl | rfl | rfl | rfl | rfl | rfl <;> rfl
theorem dv_X3 : ∀ j, j < 4 → defaultValue (tyX3 j) = vp_V rZ j := fun j hj => by rcases (show j = 0 ∨ j = 1 ∨ j = 2 ∨ j = 3 by omega) with rfl | rfl | rfl | rfl <;> rfl
theorem tys_eq {D : va_G} {cl : List vw_C} {tys : List (ClassId × FieldType)} {s : State} (hK : va_K D cl tys s) {i j : Nat} {x y : ClassId} {ty : FieldType} (hi : tys[i]? = some (x, ty)) (hj : tys[j]? = some (y, ty)) : x = y := by
  have h1 := (hK.2 i _ hi).2
  have h2 := (hK.2 j _ hj).2
  cases ty with
  | object C =>
    obtain ⟨-, -, -, -, -, h3⟩ := h1
    obtain ⟨-, -, -, -, -, h4⟩ := h2
    exact Option.some.inj (h3.symm.trans h4)
  | _ => exact Option.some.inj (h1.symm.trans h2)
theorem va_newI {p : Program} {l : Launch} {e : Env} {R : Room} {s : State} {m : MethodId} {args : Array Value} {below : List Frame} {meth : Method} {c : Code} {Q : State → Prop} {cc : ByteArray} {pc : Nat} {ls : Array Slot} {rest : List Value} {D : va_G} {cl : List vw_C} {tys : List (ClassId × FieldType)} {ws : va_W} {A : Nat → Prop} {H0 H : Heap} {locs : List Loc} {cells slots : Nat} {cI : ClassId} (hexec : p.tables.exec = Jvm.exec) (hb : c.code = cc) {atype : ArrayType} (harr : (Cond.arrayClass (newarray.typeOf atype)).before args s = true) {ty : FieldType} (hty : newarray.typeOf atype = ty) (hK : va_K D cl tys s) (hP : va_P D cl ws H) (hD : va_D A ws) (hS : va_S A H0 H locs) (hA : ∀ q, H0.size ≤ q → A q) (t0 : Nat) (ht : tys[t0]? = some (cI, ty))
    {n : Int32} {N' : Nat} {a0 : vp_A} (ha : ∀ cA : ClassId, vp_cell cA a0 = arrV cA N' (fun _ => defaultValue ty)) (hn : ¬ n < 0) (hN : n.toNatClampNeg = N') (hbytes : N' * componentBytes ty ≤ 536870912) (hcells : cells + 1 ≤ R.cells) (hslots : slots + N' ≤ R.slots) (hdg : decode cc pc = .ok (.newarray atype, 2))
    (kk : ∀ (q : Nat) (H1 : Heap), va_P D cl (ws ++ [(q, .inl (cI, a0))]) H1 → va_D A (ws ++ [(q, .inl (cI, a0))]) → va_S A H0 H1 locs → W p l e R s m args below meth c H1 locs (cells + 1) (slots + N') Q (F0 m (pc + 2) ls (.ref q :: rest))) : W p l e R s m args below meth c H locs cells slots Q (F0 m pc ls (.int n :: rest)) := by
  refine va_newa hexec hb harr hty hK hP hD hS hA ha hn hN hbytes hcells hslots hdg (fun q cA H1 hK' hP' hD' hS' => ?_)
  have hlt : t0 < tys.length := (List.getElem?_eq_some_iff.mp ht).1
  have e1 : cA = cI := tys_eq hK' (i := tys.length) (j := t0) (ty := ty) (by rw [List.getElem?_append_right (Nat.le_refl _), Nat.sub_self]; rfl) (by rw [List.getElem?_append_left hlt]; exact ht)
  subst e1
  exact kk q H1 hP' hD' hS'
/-- a constructor's start: its own new cell, the tables -/
def IP (D : va_G) (cI cC cO : ClassId) (sz : Nat) (x : Nat × va_E) (U : State) : Prop := U.heap.size = sz ∧ va_P D vwCl [x] U.heap ∧ va_K D vwCl (tyK cI cC cO) U ∧ va_D (fun _ => True) [x] ∧ (∀ w ∈ NL, va_Nw w U) ∧ va_AO RX2 U
abbrev QP {S : Type} (D : va_G) (cf : S → va_W) (post : S → Prop) (x : Nat × va_E) (sz : Nat) : Array Value → State → Outcome → State → Prop := va_Qv post (fun u t => va_P D vwCl (cf u) t.heap ∧ va_D (va_A [x] sz) (cf u)) (va_A [x] sz)
theorem one_D (x : Nat × va_E) : va_D (fun _ => True) [x] := by
  refine ⟨fun i j p q hi hj _ => ?_, fun _ _ _ => trivial⟩
  have h1 : i < 1 := (List.getElem?_eq_some_iff.mp hi).1
  have h2 : j < 1 := (List.getElem?_eq_some_iff.mp hj).1
  omega
theorem ip_blind {D : va_G} {cI cC cO : ClassId} {sz : Nat} {x : Nat × va_E} {av : List Value} : FrameBlind (va_Pc av (IP D cI cC cO sz x)) := fun a U fr mk q => by
  obtain ⟨q0, qz, qP, qK, qD, qN, qO⟩ := q
  exact ⟨q0, qz, qP, va_K.moved (u := U) (U := U.calling fr mk a) (Vm.Alike.refl U.vm) qK, qD, nl_same (s := U) (U := U.calling fr mk a) rfl qN, va_AO.moved (u := U) (U := U.calling fr mk a) (Vm.Alike.refl U.vm) qO⟩
theorem ip_pre {D : va_G} {cI cC cO : ClassId} {ws0 : va_W} {x : Nat × va_E} {av : List Value} {s : State} {H : Heap} (hP : va_P D vwCl (ws0 ++ [x]) H) (hK : va_K D vwCl (tyK cI cC cO) s) (hN : ∀ w ∈ NL, va_Nw w s) (hO : va_AO RX2 s) : ∀ U : State, U.heap = H → s.WarmedH U.vm → va_Pc av (IP D cI cC cO H.size x) av.toArray U := fun U hU hW => by
  refine ⟨rfl, by rw [hU], ?_, va_K.moved hW.alike hK, one_D x, nl_warm hW hN, va_AO.moved hW.alike hO⟩
  rw [hU]
  refine hP.sub [ws0.length] ?_
  simp
theorem ic_back {S : Type} {post : S → Prop} {cf : S → va_W} {p : Program} {l : Launch} {e : Env} {R : Room} {s : State} {m : MethodId} {args : Array Value} {below : List Frame} {meth : Method} {c : Code} {Q : State → Prop} {pc : Nat} {ls : Array Slot} {st0 rest : List Value} {D : va_G} {ws0 : va_W} {q : Nat} {e0 : va_E} {A : Nat → Prop} {H0 H : Heap} {locs : List Loc} {cells slots mc ms : Nat} {a : Array Value}
    (hr : va_Run p l e R s m args below meth c H locs cells slots mc ms (F0 m pc ls st0) rest (QP D cf post (q, e0) H.size a) (va_A [(q, e0)] H.size))
    (hP : va_P D vwCl (ws0 ++ [(q, e0)]) H) (hD : va_D A (ws0 ++ [(q, e0)])) (hS : va_S A H0 H locs) (hA : ∀ x, H0.size ≤ x → A x)
    (kk : ∀ (u : S) (H1 : Heap) (locs1 : List Loc), post u → va_P D vwCl (ws0 ++ cf u) H1 → va_D A (ws0 ++ cf u) → va_S A H0 H1 locs1 → W p l e R s m args below meth c H1 locs1 (cells + mc) (slots + ms) Q (F0 m (pc + 3) ls rest)) : W p l e R s m args below meth c H locs cells slots Q (F0 m pc ls st0) := by
  have hq : (ws0 ++ [(q, e0)])[ws0.length]? = some (q, e0) := by simp
  have hF : ∀ x, va_A [(q, e0)] H.size x → A x := fun x hx => by
    rcases hx with ⟨k, e1, hk⟩ | hx
    · have hk1 : k < 1 := (List.getElem?_eq_some_iff.mp hk).1
      obtain rfl : k = 0 := by omega
      cases hk
      exact hD.2 _ _ hq
    · exact hA x (Nat.le_trans hS.1 hx)
  refine va_callv hr hS (fun x _ h => hF x h) hF (fun u t H1 locs1 ht hvm hpost hB hz hk hS1 => ?_)
  obtain ⟨hB1, hB2⟩ := hB
  rw [ht] at hB1
  have hw0 : ∀ (k : Nat) (x : Nat × va_E), ws0[k]? = some x → (ws0 ++ [(q, e0)])[k]? = some x ∧ k < ws0.length := fun k x hx => by
    have hl := (List.getElem?_eq_some_iff.mp hx).1
    exact ⟨by rw [List.getElem?_append_left hl]; exact hx, hl⟩
  have hne : ∀ (k : Nat) (x : Nat × va_E), ws0[k]? = some x → x.1 < H.size ∧ ¬ va_A [(q, e0)] H.size x.1 := fun k x hx => by
    obtain ⟨h1, h2⟩ := hw0 k x hx
    have hl : x.1 < H.size := (hP k x h1).lt
    refine ⟨hl, fun z => ?_⟩
    rcases z with ⟨j, e1, hj⟩ | z
    · have hj1 : j < 1 := (List.getElem?_eq_some_iff.mp hj).1
      obtain rfl : j = 0 := by omega
      cases hj
      have := hD.1 k ws0.length x _ h1 hq rfl
      omega
    · omega
  refine kk u H1 locs1 hpost (va_P.app (va_P.kept (ws := ws0) (H := H) (fun k x hx => hP k x (hw0 k x hx).1) (fun k x hx => hk _ (hne k x hx).1 (hne k x hx).2)) hB1) (va_D.app ⟨fun i j x y hx hy hxy => hD.1 i j x y (hw0 i x hx).1 (hw0 j y hy).1 hxy, fun k x hx => hD.2 k x (hw0 k x hx).1⟩ (va_D.weaken hB2 (fun _ _ _ h => hF _ h)) (fun i j x y hx hy hxy => ?_)) hS1
  exact (hne i x hx).2 (by rw [hxy]; exact hB2.2 j y hy)
