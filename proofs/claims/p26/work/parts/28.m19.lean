def HH (w : WD) : Prop := w.1 8 0 1 ≤ 4 ∧ ∀ i, i < 5 → 2 ≤ w.2 i ∧ w.2 i < 7
theorem HH_wO {w : WD} (h : HH w) {o : Nat} (V : Nat → Nat → Nat) (ho : o < 8) : HH (wO w o V) := by
  refine ⟨?_, h.2⟩
  rw [wO_n _ _ (show 8 ≠ o by omega)]; exact h.1
theorem h07 : 0 < 7 := by decide
abbrev Prep (w : WD) : WD := wO w (w.2 (w.1 8 0 1)) (kCp (w.1 (w.2 (w.1 8 0 1))) (w.1 0))
def Rec (w : WD) (r : Int32) : WD := if r < 0 then w else hKeep w
theorem HH.k {w : WD} (h : HH w) : w.1 8 0 1 < 5 := by have := h.1; omega
theorem HH.s {w : WD} (h : HH w) : w.2 (w.1 8 0 1) < 7 := (h.2 _ h.k).2
theorem HH.n {w : WD} (h : HH w) : 0 ≠ w.2 (w.1 8 0 1) := by have := (h.2 _ h.k).1; omega
theorem Prep_H {w : WD} (h : HH w) : HH (Prep w) := HH_wO h _ (by have := h.s; omega)
theorem Prep_id {w : WD} (h : HH w) : wO (Prep w) 0 (w.1 0) = Prep w := by
  have e : (Prep w).1 0 = w.1 0 := wO_n _ _ h.n
  rw [← e, wO_id]
theorem CtI.p {l : Launch} {g : Geo} {y : MethodName} {bytes : ByteArray} {maxL : Nat} {ret : Option FieldType} {rm : Room} {av : List Value} {w : WD} {r : Int32} {z : WD} (h : CtI l g y bytes maxL ret rm av (wO (Prep w) 0 (w.1 0)) r z) (hH : HH w) : CtI l g y bytes maxL ret rm av (Prep w) r z := by
  rw [Prep_id hH] at h; exact h
theorem CtI.r {l : Launch} {g : Geo} {y : MethodName} {bytes : ByteArray} {maxL : Nat} {ret : Option FieldType} {rm : Room} {av : List Value} {w : WD} {o : Nat} {r : Int32} (h : CtI l g y bytes maxL ret rm av (wO w o (w.1 o)) r (wO w o (w.1 o))) : CtI l g y bytes maxL ret rm av w r w := by
  rw [wO_id] at h; exact h
theorem oW_id (w : WD) : oW w (w.1 7) = w := wO_id w 7
theorem CtI.o {l : Launch} {g : Geo} {y : MethodName} {bytes : ByteArray} {maxL : Nat} {ret : Option FieldType} {rm : Room} {av : List Value} {w : WD} {r : Int32} {z : WD} (h : CtI l g y bytes maxL ret rm av (oW w (w.1 7)) r z) : CtI l g y bytes maxL ret rm av w r z := by
  rw [oW_id] at h; exact h
theorem CtV.o {l : Launch} {g : Geo} {y : MethodName} {bytes : ByteArray} {maxL : Nat} {ret : Option FieldType} {rm : Room} {av : List Value} {w : WD} {o : Nat} {V : Nat → Nat → Nat} {z : WD} (h : CtV l g y bytes maxL ret rm av (wO (oW w (w.1 7)) o V) z) : CtV l g y bytes maxL ret rm av (wO w o V) z := by
  rw [oW_id] at h; exact h
abbrev rm_X3_recorded : Room := { frames := 2, cells := 0, slots := 0, locals := 42 }
set_option maxHeartbeats 800000 in
set_option maxRecDepth 20000 in
theorem c_X3_recorded {l : Launch} {g : Geo} {w : WD} {r : Int32} (hH : HH w) : CtI l g yX3_recorded cX3_recorded 2 (some .int) rm_X3_recorded [.ref (g_ad g 10 0), .int r] (w) (r) (Rec w r) := by
  refine ct_of mi_X3_recorded.2.2.2.2.2 ⟨rfl, rfl⟩ (List.forall_mem_cons.mpr ⟨rfl, List.forall_mem_cons.mpr ⟨rfl, fun _ h => absurd h List.not_mem_nil⟩⟩) (Nat.le_of_ble_eq_true rfl) (fun P hX => ?_)
  replace hX : Gd l g RX3 cX3_recorded rm_X3_recorded 2 (some .int) _ _ P := hX
  show P (w) 0 [some (.ref (g_ad g 10 0)), some (.int r)] []
  refine pw_iload_n hX rfl dX3_recorded_0 (q := 1) rfl ?_
  refine pw_if_lt hX (tgt := 11) dX3_recorded_1 (q := 4) rfl (by decide) (fun h_1 => ?_) (fun h_1 => ?_)
  · refine pw_iload_n hX rfl dX3_recorded_11 (q := 12) rfl ?_
    refine pw_ireturn hX dX3_recorded_12 ⟨_, rfl, rfl⟩ ⟨congrArg (fun z => some (Value.int z)) ?_, ?_⟩
    · rfl
    · first | (rw [Rec, if_pos h_1]; done) | (rw [Rec, if_neg h_1]; done)
  · refine pw_aload_n hX rfl dX3_recorded_4 (q := 5) rfl ?_
    refine pw_getR hX 2 (by decide) fl_X3_22 rfl dX3_recorded_5 (q := 8) rfl ?_
    refine pw_cvV0 hX dX3_recorded_8 (q := 11) rfl mi_X0_keep ml_X3_219 rcH ⟨rfl, rfl, by decide, by decide⟩ rfl (Nat.le_of_ble_eq_true rfl) (c_X0_keep hH.1 (fun i hi => (hH.2 i hi).2)) ?_
    refine pw_iload_n hX rfl dX3_recorded_11 (q := 12) rfl ?_
    refine pw_ireturn hX dX3_recorded_12 ⟨_, rfl, rfl⟩ ⟨congrArg (fun z => some (Value.int z)) ?_, ?_⟩
    · rfl
    · first | (rw [Rec, if_pos h_1]; done) | (rw [Rec, if_neg h_1]; done)
abbrev rm_X3_villager : Room := { frames := 4, cells := 0, slots := 0, locals := 90 }
set_option maxHeartbeats 800000 in
set_option maxRecDepth 20000 in
theorem c_X3_villager {l : Launch} {g : Geo} {w : WD} (hH : HH w) (hV : bV (w.1 0)) : CtI l g yX3_villager cX3_villager 1 (some .int) rm_X3_villager [.ref (g_ad g 10 0)] (w) ((kAdd (w.1 0)).2) (Rec (wO (Prep w) 0 (kAdd (w.1 0)).1) (kAdd (w.1 0)).2) := by
  refine ct_of mi_X3_villager.2.2.2.2.2 ⟨rfl, rfl⟩ (List.forall_mem_cons.mpr ⟨rfl, fun _ h => absurd h List.not_mem_nil⟩) (Nat.le_of_ble_eq_true rfl) (fun P hX => ?_)
  replace hX : Gd l g RX3 cX3_villager rm_X3_villager 1 (some .int) _ _ P := hX
  show P (w) 0 [some (.ref (g_ad g 10 0))] []
  refine pw_aload_n hX rfl dX3_villager_0 (q := 1) rfl ?_
  refine pw_getR hX 2 (by decide) fl_X3_22 rfl dX3_villager_1 (q := 4) rfl ?_
  refine pw_aload_n hX rfl dX3_villager_4 (q := 5) rfl ?_
  refine pw_getR hX 0 (by decide) fl_X3_10 rfl dX3_villager_5 (q := 8) rfl ?_
  refine pw_cvV1 hX dX3_villager_8 (q := 11) rfl mi_X0_prepare ml_X3_33 rcH ⟨rfl, rfl, by decide, by decide⟩ rfl (Nat.le_of_ble_eq_true rfl) (c_X0_prepare hH.k hH.s h07 hH.n) ?_
  refine pw_aload_n hX rfl dX3_villager_11 (q := 12) rfl ?_
  refine pw_aload_n hX rfl dX3_villager_12 (q := 13) rfl ?_
  refine pw_getR hX 0 (by decide) fl_X3_10 rfl dX3_villager_13 (q := 16) rfl ?_
  refine pw_cvI0 hX dX3_villager_16 (q := 19) rfl mi_X2_addVillager ml_X3_37 (rcV (show 0 < 7 by decide)) ⟨rfl, rfl, by decide, by decide⟩ rfl (Nat.le_of_ble_eq_true rfl) ((c_X2_addVillager h07 hV).p hH) ?_
  refine pw_cvI1 hX dX3_villager_19 (q := 22) rfl mi_X3_recorded ml_X3_41 rcR ⟨rfl, rfl, by decide, by decide⟩ rfl (Nat.le_of_ble_eq_true rfl) (c_X3_recorded (HH_wO (Prep_H hH) _ (by decide))) ?_
  refine pw_ireturn hX dX3_villager_22 ⟨_, rfl, rfl⟩ ⟨congrArg (fun z => some (Value.int z)) ?_, ?_⟩
  · rfl
  · rfl
abbrev rm_X3_sleep : Room := { frames := 4, cells := 0, slots := 0, locals := 90 }
set_option maxHeartbeats 800000 in
set_option maxRecDepth 20000 in
theorem c_X3_sleep {l : Launch} {g : Geo} {w : WD} {v : Int32} (hH : HH w) (hV : bV (w.1 0)) : CtI l g yX3_sleep cX3_sleep 2 (some .int) rm_X3_sleep [.ref (g_ad g 10 0), .int v] (w) ((kSl (w.1 0) v).2) (Rec (wO (Prep w) 0 (kSl (w.1 0) v).1) (kSl (w.1 0) v).2) := by
  refine ct_of mi_X3_sleep.2.2.2.2.2 ⟨rfl, rfl⟩ (List.forall_mem_cons.mpr ⟨rfl, List.forall_mem_cons.mpr ⟨rfl, fun _ h => absurd h List.not_mem_nil⟩⟩) (Nat.le_of_ble_eq_true rfl) (fun P hX => ?_)
  replace hX : Gd l g RX3 cX3_sleep rm_X3_sleep 2 (some .int) _ _ P := hX
  show P (w) 0 [some (.ref (g_ad g 10 0)), some (.int v)] []
  refine pw_aload_n hX rfl dX3_sleep_0 (q := 1) rfl ?_
  refine pw_getR hX 2 (by decide) fl_X3_22 rfl dX3_sleep_1 (q := 4) rfl ?_
  refine pw_aload_n hX rfl dX3_sleep_4 (q := 5) rfl ?_
  refine pw_getR hX 0 (by decide) fl_X3_10 rfl dX3_sleep_5 (q := 8) rfl ?_
  refine pw_cvV1 hX dX3_sleep_8 (q := 11) rfl mi_X0_prepare ml_X3_33 rcH ⟨rfl, rfl, by decide, by decide⟩ rfl (Nat.le_of_ble_eq_true rfl) (c_X0_prepare hH.k hH.s h07 hH.n) ?_
  refine pw_aload_n hX rfl dX3_sleep_11 (q := 12) rfl ?_
  refine pw_aload_n hX rfl dX3_sleep_12 (q := 13) rfl ?_
  refine pw_getR hX 0 (by decide) fl_X3_10 rfl dX3_sleep_13 (q := 16) rfl ?_
  refine pw_iload_n hX rfl dX3_sleep_16 (q := 17) rfl ?_
  refine pw_cvI1 hX dX3_sleep_17 (q := 20) rfl mi_X2_fallAsleep ml_X3_45 (rcV (show 0 < 7 by decide)) ⟨rfl, rfl, by decide, by decide⟩ rfl (Nat.le_of_ble_eq_true rfl) ((c_X2_fallAsleep h07 hV).p hH) ?_
  refine pw_cvI1 hX dX3_sleep_20 (q := 23) rfl mi_X3_recorded ml_X3_41 rcR ⟨rfl, rfl, by decide, by decide⟩ rfl (Nat.le_of_ble_eq_true rfl) (c_X3_recorded (HH_wO (Prep_H hH) _ (by decide))) ?_
  refine pw_ireturn hX dX3_sleep_23 ⟨_, rfl, rfl⟩ ⟨congrArg (fun z => some (Value.int z)) ?_, ?_⟩
  · rfl
  · rfl
abbrev rm_X3_wake : Room := { frames := 4, cells := 0, slots := 0, locals := 90 }
set_option maxHeartbeats 800000 in
set_option maxRecDepth 20000 in
theorem c_X3_wake {l : Launch} {g : Geo} {w : WD} {v : Int32} (hH : HH w) (hV : bV (w.1 0)) : CtI l g yX3_wake cX3_wake 2 (some .int) rm_X3_wake [.ref (g_ad g 10 0), .int v] (w) ((kWk (w.1 0) v).2) (Rec (wO (Prep w) 0 (kWk (w.1 0) v).1) (kWk (w.1 0) v).2) := by
  refine ct_of mi_X3_wake.2.2.2.2.2 ⟨rfl, rfl⟩ (List.forall_mem_cons.mpr ⟨rfl, List.forall_mem_cons.mpr ⟨rfl, fun _ h => absurd h List.not_mem_nil⟩⟩) (Nat.le_of_ble_eq_true rfl) (fun P hX => ?_)
  replace hX : Gd l g RX3 cX3_wake rm_X3_wake 2 (some .int) _ _ P := hX
  show P (w) 0 [some (.ref (g_ad g 10 0)), some (.int v)] []
  refine pw_aload_n hX rfl dX3_wake_0 (q := 1) rfl ?_
  refine pw_getR hX 2 (by decide) fl_X3_22 rfl dX3_wake_1 (q := 4) rfl ?_
  refine pw_aload_n hX rfl dX3_wake_4 (q := 5) rfl ?_
  refine pw_getR hX 0 (by decide) fl_X3_10 rfl dX3_wake_5 (q := 8) rfl ?_
  refine pw_cvV1 hX dX3_wake_8 (q := 11) rfl mi_X0_prepare ml_X3_33 rcH ⟨rfl, rfl, by decide, by decide⟩ rfl (Nat.le_of_ble_eq_true rfl) (c_X0_prepare hH.k hH.s h07 hH.n) ?_
  refine pw_aload_n hX rfl dX3_wake_11 (q := 12) rfl ?_
  refine pw_aload_n hX rfl dX3_wake_12 (q := 13) rfl ?_
  refine pw_getR hX 0 (by decide) fl_X3_10 rfl dX3_wake_13 (q := 16) rfl ?_
  refine pw_iload_n hX rfl dX3_wake_16 (q := 17) rfl ?_
  refine pw_cvI1 hX dX3_wake_17 (q := 20) rfl mi_X2_wakeUp ml_X3_48 (rcV (show 0 < 7 by decide)) ⟨rfl, rfl, by decide, by decide⟩ rfl (Nat.le_of_ble_eq_true rfl) ((c_X2_wakeUp h07 hV).p hH) ?_
  refine pw_cvI1 hX dX3_wake_20 (q := 23) rfl mi_X3_recorded ml_X3_41 rcR ⟨rfl, rfl, by decide, by decide⟩ rfl (Nat.le_of_ble_eq_true rfl) (c_X3_recorded (HH_wO (Prep_H hH) _ (by decide))) ?_
  refine pw_ireturn hX dX3_wake_23 ⟨_, rfl, rfl⟩ ⟨congrArg (fun z => some (Value.int z)) ?_, ?_⟩
  · rfl
  · rfl
abbrev rm_X3_leave : Room := { frames := 4, cells := 0, slots := 0, locals := 90 }
set_option maxHeartbeats 800000 in
set_option maxRecDepth 20000 in
theorem c_X3_leave {l : Launch} {g : Geo} {w : WD} {v : Int32} (hH : HH w) (hV : bV (w.1 0)) : CtI l g yX3_leave cX3_leave 2 (some .int) rm_X3_leave [.ref (g_ad g 10 0), .int v] (w) ((kLv (w.1 0) v).2) (Rec (wO (Prep w) 0 (kLv (w.1 0) v).1) (kLv (w.1 0) v).2) := by
  refine ct_of mi_X3_leave.2.2.2.2.2 ⟨rfl, rfl⟩ (List.forall_mem_cons.mpr ⟨rfl, List.forall_mem_cons.mpr ⟨rfl, fun _ h => absurd h List.not_mem_nil⟩⟩) (Nat.le_of_ble_eq_true rfl) (fun P hX => ?_)
  replace hX : Gd l g RX3 cX3_leave rm_X3_leave 2 (some .int) _ _ P := hX
  show P (w) 0 [some (.ref (g_ad g 10 0)), some (.int v)] []
  refine pw_aload_n hX rfl dX3_leave_0 (q := 1) rfl ?_
  refine pw_getR hX 2 (by decide) fl_X3_22 rfl dX3_leave_1 (q := 4) rfl ?_
  refine pw_aload_n hX rfl dX3_leave_4 (q := 5) rfl ?_
  refine pw_getR hX 0 (by decide) fl_X3_10 rfl dX3_leave_5 (q := 8) rfl ?_
  refine pw_cvV1 hX dX3_leave_8 (q := 11) rfl mi_X0_prepare ml_X3_33 rcH ⟨rfl, rfl, by decide, by decide⟩ rfl (Nat.le_of_ble_eq_true rfl) (c_X0_prepare hH.k hH.s h07 hH.n) ?_
  refine pw_aload_n hX rfl dX3_leave_11 (q := 12) rfl ?_
  refine pw_aload_n hX rfl dX3_leave_12 (q := 13) rfl ?_
  refine pw_getR hX 0 (by decide) fl_X3_10 rfl dX3_leave_13 (q := 16) rfl ?_
  refine pw_iload_n hX rfl dX3_leave_16 (q := 17) rfl ?_
  refine pw_cvI1 hX dX3_leave_17 (q := 20) rfl mi_X2_goAway ml_X3_51 (rcV (show 0 < 7 by decide)) ⟨rfl, rfl, by decide, by decide⟩ rfl (Nat.le_of_ble_eq_true rfl) ((c_X2_goAway h07 hV).p hH) ?_
  refine pw_cvI1 hX dX3_leave_20 (q := 23) rfl mi_X3_recorded ml_X3_41 rcR ⟨rfl, rfl, by decide, by decide⟩ rfl (Nat.le_of_ble_eq_true rfl) (c_X3_recorded (HH_wO (Prep_H hH) _ (by decide))) ?_
  refine pw_ireturn hX dX3_leave_23 ⟨_, rfl, rfl⟩ ⟨congrArg (fun z => some (Value.int z)) ?_, ?_⟩
  · rfl
  · rfl
abbrev rm_X3_watch : Room := { frames := 4, cells := 0, slots := 0, locals := 90 }
set_option maxHeartbeats 800000 in
set_option maxRecDepth 20000 in
theorem c_X3_watch {l : Launch} {g : Geo} {w : WD} {v : Int32} (hH : HH w) (hV : bV (w.1 0)) : CtI l g yX3_watch cX3_watch 2 (some .int) rm_X3_watch [.ref (g_ad g 10 0), .int v] (w) ((kCw (w.1 0) v).2) (Rec (wO (Prep w) 0 (kCw (w.1 0) v).1) (kCw (w.1 0) v).2) := by
  refine ct_of mi_X3_watch.2.2.2.2.2 ⟨rfl, rfl⟩ (List.forall_mem_cons.mpr ⟨rfl, List.forall_mem_cons.mpr ⟨rfl, fun _ h => absurd h List.not_mem_nil⟩⟩) (Nat.le_of_ble_eq_true rfl) (fun P hX => ?_)
  replace hX : Gd l g RX3 cX3_watch rm_X3_watch 2 (some .int) _ _ P := hX
  show P (w) 0 [some (.ref (g_ad g 10 0)), some (.int v)] []
  refine pw_aload_n hX rfl dX3_watch_0 (q := 1) rfl ?_
  refine pw_getR hX 2 (by decide) fl_X3_22 rfl dX3_watch_1 (q := 4) rfl ?_
  refine pw_aload_n hX rfl dX3_watch_4 (q := 5) rfl ?_
  refine pw_getR hX 0 (by decide) fl_X3_10 rfl dX3_watch_5 (q := 8) rfl ?_
  refine pw_cvV1 hX dX3_watch_8 (q := 11) rfl mi_X0_prepare ml_X3_33 rcH ⟨rfl, rfl, by decide, by decide⟩ rfl (Nat.le_of_ble_eq_true rfl) (c_X0_prepare hH.k hH.s h07 hH.n) ?_
  refine pw_aload_n hX rfl dX3_watch_11 (q := 12) rfl ?_
  refine pw_aload_n hX rfl dX3_watch_12 (q := 13) rfl ?_
  refine pw_getR hX 0 (by decide) fl_X3_10 rfl dX3_watch_13 (q := 16) rfl ?_
  refine pw_iload_n hX rfl dX3_watch_16 (q := 17) rfl ?_
  refine pw_cvI1 hX dX3_watch_17 (q := 20) rfl mi_X2_changeWatch ml_X3_54 (rcV (show 0 < 7 by decide)) ⟨rfl, rfl, by decide, by decide⟩ rfl (Nat.le_of_ble_eq_true rfl) ((c_X2_changeWatch h07).p hH) ?_
  refine pw_cvI1 hX dX3_watch_20 (q := 23) rfl mi_X3_recorded ml_X3_41 rcR ⟨rfl, rfl, by decide, by decide⟩ rfl (Nat.le_of_ble_eq_true rfl) (c_X3_recorded (HH_wO (Prep_H hH) _ (by decide))) ?_
  refine pw_ireturn hX dX3_watch_23 ⟨_, rfl, rfl⟩ ⟨congrArg (fun z => some (Value.int z)) ?_, ?_⟩
  · rfl
  · rfl
abbrev rm_X3_tell : Room := { frames := 4, cells := 0, slots := 0, locals := 90 }
set_option maxHeartbeats 800000 in
set_option maxRecDepth 20000 in
theorem c_X3_tell {l : Launch} {g : Geo} {w : WD} {v t a k : Int32} (hH : HH w) (hV : bV (w.1 0)) : CtI l g yX3_tell cX3_tell 5 (some .int) rm_X3_tell [.ref (g_ad g 10 0), .int v, .int t, .int a, .int k] (w) ((kMR (w.1 0) v t a k).2) (Rec (wO (Prep w) 0 (kMR (w.1 0) v t a k).1) (kMR (w.1 0) v t a k).2) := by
  refine ct_of mi_X3_tell.2.2.2.2.2 ⟨rfl, rfl⟩ (List.forall_mem_cons.mpr ⟨rfl, List.forall_mem_cons.mpr ⟨rfl, List.forall_mem_cons.mpr ⟨rfl, List.forall_mem_cons.mpr ⟨rfl, List.forall_mem_cons.mpr ⟨rfl, fun _ h => absurd h List.not_mem_nil⟩⟩⟩⟩⟩) (Nat.le_of_ble_eq_true rfl) (fun P hX => ?_)
  replace hX : Gd l g RX3 cX3_tell rm_X3_tell 5 (some .int) _ _ P := hX
  show P (w) 0 [some (.ref (g_ad g 10 0)), some (.int v), some (.int t), some (.int a), some (.int k)] []
  refine pw_aload_n hX rfl dX3_tell_0 (q := 1) rfl ?_
  refine pw_getR hX 2 (by decide) fl_X3_22 rfl dX3_tell_1 (q := 4) rfl ?_
  refine pw_aload_n hX rfl dX3_tell_4 (q := 5) rfl ?_
  refine pw_getR hX 0 (by decide) fl_X3_10 rfl dX3_tell_5 (q := 8) rfl ?_
  refine pw_cvV1 hX dX3_tell_8 (q := 11) rfl mi_X0_prepare ml_X3_33 rcH ⟨rfl, rfl, by decide, by decide⟩ rfl (Nat.le_of_ble_eq_true rfl) (c_X0_prepare hH.k hH.s h07 hH.n) ?_
  refine pw_aload_n hX rfl dX3_tell_11 (q := 12) rfl ?_
  refine pw_aload_n hX rfl dX3_tell_12 (q := 13) rfl ?_
  refine pw_getR hX 0 (by decide) fl_X3_10 rfl dX3_tell_13 (q := 16) rfl ?_
  refine pw_iload_n hX rfl dX3_tell_16 (q := 17) rfl ?_
  refine pw_iload_n hX rfl dX3_tell_17 (q := 18) rfl ?_
  refine pw_iload_n hX rfl dX3_tell_18 (q := 19) rfl ?_
  refine pw_iload hX rfl dX3_tell_19 (q := 21) rfl ?_
  refine pw_cvI4 hX dX3_tell_21 (q := 24) rfl mi_X2_makeRumor ml_X3_85 (rcV (show 0 < 7 by decide)) ⟨rfl, rfl, by decide, by decide⟩ rfl (Nat.le_of_ble_eq_true rfl) ((c_X2_makeRumor h07 hV).p hH) ?_
  refine pw_cvI1 hX dX3_tell_24 (q := 27) rfl mi_X3_recorded ml_X3_41 rcR ⟨rfl, rfl, by decide, by decide⟩ rfl (Nat.le_of_ble_eq_true rfl) (c_X3_recorded (HH_wO (Prep_H hH) _ (by decide))) ?_
  refine pw_ireturn hX dX3_tell_27 ⟨_, rfl, rfl⟩ ⟨congrArg (fun z => some (Value.int z)) ?_, ?_⟩
  · rfl
  · rfl
abbrev rm_X3_bury : Room := { frames := 4, cells := 0, slots := 0, locals := 90 }
set_option maxHeartbeats 800000 in
set_option maxRecDepth 20000 in
theorem c_X3_bury {l : Launch} {g : Geo} {w : WD} {v t : Int32} (hH : HH w) (hV : bV (w.1 0)) (hc2 : ∀ i, i < 7 → (w.1 0 2 i + 1) * 8 + i < 2 ^ 30) : CtI l g yX3_bury cX3_bury 3 (some .int) rm_X3_bury [.ref (g_ad g 10 0), .int v, .int t] (w) ((kMT (w.1 0) v t).2) (Rec (wO (Prep w) 0 (kMT (w.1 0) v t).1) (kMT (w.1 0) v t).2) := by
  refine ct_of mi_X3_bury.2.2.2.2.2 ⟨rfl, rfl⟩ (List.forall_mem_cons.mpr ⟨rfl, List.forall_mem_cons.mpr ⟨rfl, List.forall_mem_cons.mpr ⟨rfl, fun _ h => absurd h List.not_mem_nil⟩⟩⟩) (Nat.le_of_ble_eq_true rfl) (fun P hX => ?_)
  replace hX : Gd l g RX3 cX3_bury rm_X3_bury 3 (some .int) _ _ P := hX
  show P (w) 0 [some (.ref (g_ad g 10 0)), some (.int v), some (.int t)] []
  refine pw_aload_n hX rfl dX3_bury_0 (q := 1) rfl ?_
  refine pw_getR hX 2 (by decide) fl_X3_22 rfl dX3_bury_1 (q := 4) rfl ?_
  refine pw_aload_n hX rfl dX3_bury_4 (q := 5) rfl ?_
  refine pw_getR hX 0 (by decide) fl_X3_10 rfl dX3_bury_5 (q := 8) rfl ?_
  refine pw_cvV1 hX dX3_bury_8 (q := 11) rfl mi_X0_prepare ml_X3_33 rcH ⟨rfl, rfl, by decide, by decide⟩ rfl (Nat.le_of_ble_eq_true rfl) (c_X0_prepare hH.k hH.s h07 hH.n) ?_
  refine pw_aload_n hX rfl dX3_bury_11 (q := 12) rfl ?_
  refine pw_aload_n hX rfl dX3_bury_12 (q := 13) rfl ?_
  refine pw_getR hX 0 (by decide) fl_X3_10 rfl dX3_bury_13 (q := 16) rfl ?_
  refine pw_iload_n hX rfl dX3_bury_16 (q := 17) rfl ?_
  refine pw_iload_n hX rfl dX3_bury_17 (q := 18) rfl ?_
  refine pw_cvI2 hX dX3_bury_18 (q := 21) rfl mi_X2_makeTomb ml_X3_89 (rcV (show 0 < 7 by decide)) ⟨rfl, rfl, by decide, by decide⟩ rfl (Nat.le_of_ble_eq_true rfl) ((c_X2_makeTomb h07 hV hc2).p hH) ?_
  refine pw_cvI1 hX dX3_bury_21 (q := 24) rfl mi_X3_recorded ml_X3_41 rcR ⟨rfl, rfl, by decide, by decide⟩ rfl (Nat.le_of_ble_eq_true rfl) (c_X3_recorded (HH_wO (Prep_H hH) _ (by decide))) ?_
  refine pw_ireturn hX dX3_bury_24 ⟨_, rfl, rfl⟩ ⟨congrArg (fun z => some (Value.int z)) ?_, ?_⟩
  · rfl
  · rfl
abbrev rm_X3_meet : Room := { frames := 5, cells := 0, slots := 0, locals := 120 }
set_option maxHeartbeats 800000 in
set_option maxRecDepth 20000 in
theorem c_X3_meet {l : Launch} {g : Geo} {w : WD} {v u : Int32} (hH : HH w) (hV : bV (w.1 0)) : CtI l g yX3_meet cX3_meet 3 (some .int) rm_X3_meet [.ref (g_ad g 10 0), .int v, .int u] (w) ((kMeet (w.1 0) v u).2) (Rec (wO (Prep w) 0 (kMeet (w.1 0) v u).1) (kMeet (w.1 0) v u).2) := by
  refine ct_of mi_X3_meet.2.2.2.2.2 ⟨rfl, rfl⟩ (List.forall_mem_cons.mpr ⟨rfl, List.forall_mem_cons.mpr ⟨rfl, List.forall_mem_cons.mpr ⟨rfl, fun _ h => absurd h List.not_mem_nil⟩⟩⟩) (Nat.le_of_ble_eq_true rfl) (fun P hX => ?_)
  replace hX : Gd l g RX3 cX3_meet rm_X3_meet 3 (some .int) _ _ P := hX
  show P (w) 0 [some (.ref (g_ad g 10 0)), some (.int v), some (.int u)] []
  refine pw_aload_n hX rfl dX3_meet_0 (q := 1) rfl ?_
  refine pw_getR hX 2 (by decide) fl_X3_22 rfl dX3_meet_1 (q := 4) rfl ?_
  refine pw_aload_n hX rfl dX3_meet_4 (q := 5) rfl ?_
  refine pw_getR hX 0 (by decide) fl_X3_10 rfl dX3_meet_5 (q := 8) rfl ?_
  refine pw_cvV1 hX dX3_meet_8 (q := 11) rfl mi_X0_prepare ml_X3_33 rcH ⟨rfl, rfl, by decide, by decide⟩ rfl (Nat.le_of_ble_eq_true rfl) (c_X0_prepare hH.k hH.s h07 hH.n) ?_
  refine pw_aload_n hX rfl dX3_meet_11 (q := 12) rfl ?_
  refine pw_aload_n hX rfl dX3_meet_12 (q := 13) rfl ?_
  refine pw_getR hX 0 (by decide) fl_X3_10 rfl dX3_meet_13 (q := 16) rfl ?_
  refine pw_iload_n hX rfl dX3_meet_16 (q := 17) rfl ?_
  refine pw_iload_n hX rfl dX3_meet_17 (q := 18) rfl ?_
  refine pw_cvI2 hX dX3_meet_18 (q := 21) rfl mi_X2_bringTogether ml_X3_93 (rcV (show 0 < 7 by decide)) ⟨rfl, rfl, by decide, by decide⟩ rfl (Nat.le_of_ble_eq_true rfl) ((c_X2_bringTogether h07 hV).p hH) ?_
  refine pw_cvI1 hX dX3_meet_21 (q := 24) rfl mi_X3_recorded ml_X3_41 rcR ⟨rfl, rfl, by decide, by decide⟩ rfl (Nat.le_of_ble_eq_true rfl) (c_X3_recorded (HH_wO (Prep_H hH) _ (by decide))) ?_
  refine pw_ireturn hX dX3_meet_24 ⟨_, rfl, rfl⟩ ⟨congrArg (fun z => some (Value.int z)) ?_, ?_⟩
  · rfl
  · rfl
abbrev rm_X3_tick : Room := { frames := 4, cells := 0, slots := 0, locals := 90 }
set_option maxHeartbeats 800000 in
set_option maxRecDepth 20000 in
theorem c_X3_tick {l : Launch} {g : Geo} {w : WD} {v : Int32} (hH : HH w) (hV : bV (w.1 0)) (hm : ∀ p, p < 84 → w.1 0 8 p ≤ w.1 0 0 1) : CtI l g yX3_tick cX3_tick 2 (some .int) rm_X3_tick [.ref (g_ad g 10 0), .int v] (w) ((kTick (w.1 0) v).2) (Rec (wO (Prep w) 0 (kTick (w.1 0) v).1) (kTick (w.1 0) v).2) := by
  refine ct_of mi_X3_tick.2.2.2.2.2 ⟨rfl, rfl⟩ (List.forall_mem_cons.mpr ⟨rfl, List.forall_mem_cons.mpr ⟨rfl, fun _ h => absurd h List.not_mem_nil⟩⟩) (Nat.le_of_ble_eq_true rfl) (fun P hX => ?_)
  replace hX : Gd l g RX3 cX3_tick rm_X3_tick 2 (some .int) _ _ P := hX
  show P (w) 0 [some (.ref (g_ad g 10 0)), some (.int v)] []
  refine pw_aload_n hX rfl dX3_tick_0 (q := 1) rfl ?_
  refine pw_getR hX 2 (by decide) fl_X3_22 rfl dX3_tick_1 (q := 4) rfl ?_
  refine pw_aload_n hX rfl dX3_tick_4 (q := 5) rfl ?_
  refine pw_getR hX 0 (by decide) fl_X3_10 rfl dX3_tick_5 (q := 8) rfl ?_
  refine pw_cvV1 hX dX3_tick_8 (q := 11) rfl mi_X0_prepare ml_X3_33 rcH ⟨rfl, rfl, by decide, by decide⟩ rfl (Nat.le_of_ble_eq_true rfl) (c_X0_prepare hH.k hH.s h07 hH.n) ?_
  refine pw_aload_n hX rfl dX3_tick_11 (q := 12) rfl ?_
  refine pw_aload_n hX rfl dX3_tick_12 (q := 13) rfl ?_
  refine pw_getR hX 0 (by decide) fl_X3_10 rfl dX3_tick_13 (q := 16) rfl ?_
  refine pw_iload_n hX rfl dX3_tick_16 (q := 17) rfl ?_
  refine pw_cvI1 hX dX3_tick_17 (q := 20) rfl mi_X2_letGoBy ml_X3_127 (rcV (show 0 < 7 by decide)) ⟨rfl, rfl, by decide, by decide⟩ rfl (Nat.le_of_ble_eq_true rfl) ((c_X2_letGoBy h07 ⟨hV, hm⟩).p hH) ?_
  refine pw_cvI1 hX dX3_tick_20 (q := 23) rfl mi_X3_recorded ml_X3_41 rcR ⟨rfl, rfl, by decide, by decide⟩ rfl (Nat.le_of_ble_eq_true rfl) (c_X3_recorded (HH_wO (Prep_H hH) _ (by decide))) ?_
  refine pw_ireturn hX dX3_tick_23 ⟨_, rfl, rfl⟩ ⟨congrArg (fun z => some (Value.int z)) ?_, ?_⟩
  · rfl
  · rfl
abbrev rm_X3_undo : Room := { frames := 4, cells := 0, slots := 0, locals := 90 }
set_option maxHeartbeats 800000 in
set_option maxRecDepth 20000 in
theorem c_X3_undo {l : Launch} {g : Geo} {w : WD} (hH : HH w) : CtI l g yX3_undo cX3_undo 1 (some .int) rm_X3_undo [.ref (g_ad g 10 0)] (w) (if w.1 8 0 1 = 0 then -1000002 else nI (w.1 8 0 1 - 1)) (if w.1 8 0 1 = 0 then w else wO (hK w (w.1 8 0 1 - 1) w.2) 0 (kCp (w.1 0) (w.1 (w.2 (w.1 8 0 1 - 1))))) := by
  refine ct_of mi_X3_undo.2.2.2.2.2 ⟨rfl, rfl⟩ (List.forall_mem_cons.mpr ⟨rfl, fun _ h => absurd h List.not_mem_nil⟩) (Nat.le_of_ble_eq_true rfl) (fun P hX => ?_)
  replace hX : Gd l g RX3 cX3_undo rm_X3_undo 1 (some .int) _ _ P := hX
  show P (w) 0 [some (.ref (g_ad g 10 0))] []
  refine pw_aload_n hX rfl dX3_undo_0 (q := 1) rfl ?_
  refine pw_getR hX 2 (by decide) fl_X3_22 rfl dX3_undo_1 (q := 4) rfl ?_
  refine pw_getHN hX 1 (by decide) fn_X3_193 rfl dX3_undo_4 (q := 7) rfl ?_
  refine pw_ifN_ne hX (by first | omega | (have h9 := hH.1; omega)) (tgt := 13) dX3_undo_7 (q := 10) rfl (by decide) (fun h_7 => ?_) (fun h_7 => ?_)
  · refine pw_aload_n hX rfl dX3_undo_13 (q := 14) rfl ?_
    refine pw_getR hX 2 (by decide) fl_X3_22 rfl dX3_undo_14 (q := 17) rfl ?_
    refine pw_aload_n hX rfl dX3_undo_17 (q := 18) rfl ?_
    refine pw_getR hX 0 (by decide) fl_X3_10 rfl dX3_undo_18 (q := 21) rfl ?_
    refine pw_cvV1 hX dX3_undo_21 (q := 24) rfl mi_X0_restore ml_X3_199 rcH ⟨rfl, rfl, by decide, by decide⟩ rfl (Nat.le_of_ble_eq_true rfl) (c_X0_restore (by omega) (by have h9 := hH.1; omega) (hH.2 _ (by have h9 := hH.1; omega)).2 h07 (by have h9 := (hH.2 (w.1 8 0 1 - 1) (by have h9 := hH.1; omega)).1; omega)) ?_
    refine pw_aload_n hX rfl dX3_undo_24 (q := 25) rfl ?_
    refine pw_getR hX 2 (by decide) fl_X3_22 rfl dX3_undo_25 (q := 28) rfl ?_
    refine pw_getHN hX 1 (by decide) fn_X3_193 rfl dX3_undo_28 (q := 31) rfl ?_
    refine pw_ireturn hX dX3_undo_31 ⟨_, rfl, rfl⟩ ⟨congrArg (fun z => some (Value.int z)) ?_, ?_⟩
    · rw [if_neg h_7]; rfl
    · rw [if_neg h_7]
  · refine pw_ldc hX cn_X3_142 dX3_undo_10 (q := 12) rfl ?_
    refine pw_ireturn hX dX3_undo_12 ⟨_, rfl, rfl⟩ ⟨congrArg (fun z => some (Value.int z)) ?_, ?_⟩
    · rw [if_pos h_7]
    · rw [if_pos h_7]
