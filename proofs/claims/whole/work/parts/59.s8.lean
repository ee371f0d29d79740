theorem mW_e {w1 : WD} {V : Nat → Nat → Nat} (h : w1.1 9 = V) : mW w1 V (V 1) = w1 := by subst h; exact mW_of w1
theorem CtI.m {l : Launch} {g : Geo} {y : MethodName} {bytes : ByteArray} {maxL : Nat} {ret : Option FieldType} {rm : Room} {av : List Value} {w1 : WD} {V : Nat → Nat → Nat} {r : Int32} {z : WD} (e : w1.1 9 = V) (h : CtI l g y bytes maxL ret rm av (mW w1 V (V 1)) r z) : CtI l g y bytes maxL ret rm av w1 r z := by
  rw [mW_e e] at h; exact h
theorem CtE.m {l : Launch} {g : Geo} {y : MethodName} {bytes : ByteArray} {maxL : Nat} {ret : Option FieldType} {rm : Room} {av : List Value} {w1 : WD} {V : Nat → Nat → Nat} {r : Int32} {Z : WD → Prop} (e : w1.1 9 = V) (h : CtE l g y bytes maxL ret rm av (mW w1 V (V 1)) r Z) : CtE l g y bytes maxL ret rm av w1 r Z := by
  rw [mW_e e] at h; exact h
/-- a call of both, their answers alike, the world in step behind it -/
def STP (l : Launch) (g : Geo) (y1 y2 : MethodName) (b1 b2 : ByteArray) (m1 m2 : Nat) (r1 r2 : Room) (As : List Value) (w : WD) (N : Nat) : Prop := ∃ (r : Int32) (w1 : WD) (Z : WD → Prop), CtI l g y1 b1 m1 (some .int) r1 (.ref (g_ad g 10 0) :: As) w r w1 ∧ CtE l g y2 b2 m2 (some .int) r2 (.ref (g_ad g 9 0) :: As) w1 r Z ∧ ∀ z, Z z → RW z (N + 60)
theorem RW.facts {w : WD} {N : Nat} (h : RW w N) (hN : N ≤ 2 ^ 26 - 200) : w.1 9 0 4 ≤ 4 ∧ rG (w.1 0) (w.1 9 1) N ∧ mI (w.1 9 1) N ∧ w.1 9 1 0 ≤ 7 ∧ bP (w.1 0) ∧ (∀ i, i < 7 → (w.1 0 2 i + 1) * 8 + i < 2 ^ 30) ∧ N + 1 < 2 ^ 30 := by
  have hG := h.2.2.2.1
  have hI := hG.1.2.2.1
  have hb := rA_b hG.1 (by omega)
  exact ⟨by rw [← h.2.2.1]; exact h.1.1, hG, hI, hI.1.2.2.1, hb.1, hb.2, by omega⟩
theorem st_sleep {l : Launch} {g : Geo} {w : WD} {N : Nat} (h : RW w N) (hN : N ≤ 2 ^ 26 - 200) (v : Int32) : STP l g yX3_sleep yX4_sleep cX3_sleep cX4_sleep 2 2 rm_X3_sleep rm_X4_sleep [.int v] w N := by
  obtain ⟨h4, hG, hI, h7, hP, hc2, hN1⟩ := h.facts hN
  have q := rA_sl hG.1 v
  have hok : okR (mSleeps (w.1 9 1) v).2 := okR_sl h7 _
  have c := (c_X4_sleep (l := l) (g := g) (w := Rec (wO (Prep w) 0 (kSl (w.1 0) v).1) (kSl (w.1 0) v).2) (V := w.1 9) (S := w.1 9 1) (v := v) h4 hI.1).m (Rec_9 h _ _)
  rw [← q.2] at c hok
  refine ⟨_, _, _, c_X3_sleep h.1 hP.1, c.E, fun z hz => ?_⟩
  rw [hz]
  exact RW_rec h (by omega) ⟨rA_le q.1 (by omega), gI_sl hG.2 h7 _⟩ hok
theorem st_wake {l : Launch} {g : Geo} {w : WD} {N : Nat} (h : RW w N) (hN : N ≤ 2 ^ 26 - 200) (v : Int32) : STP l g yX3_wake yX4_wake cX3_wake cX4_wake 2 2 rm_X3_wake rm_X4_wake [.int v] w N := by
  obtain ⟨h4, hG, hI, h7, hP, hc2, hN1⟩ := h.facts hN
  have q := rA_wk hG.1 v
  have hok : okR (mWakes (w.1 9 1) v).2 := okR_wk hG.1.2.1 h7 hI.2.2.2 _
  have c := (c_X4_wake (l := l) (g := g) (w := Rec (wO (Prep w) 0 (kWk (w.1 0) v).1) (kWk (w.1 0) v).2) (V := w.1 9) (S := w.1 9 1) (v := v) h4 hI.1).m (Rec_9 h _ _)
  rw [← q.2] at c hok
  refine ⟨_, _, _, c_X3_wake h.1 hP.1, c.E, fun z hz => ?_⟩
  rw [hz]
  exact RW_rec h (by omega) ⟨rA_le q.1 (by omega), gI_wk hG.2 h7 _⟩ hok
theorem st_tell {l : Launch} {g : Geo} {w : WD} {N : Nat} (h : RW w N) (hN : N ≤ 2 ^ 26 - 200) (v t a k : Int32) : STP l g yX3_tell yX4_tell cX3_tell cX4_tell 5 5 rm_X3_tell rm_X4_tell [.int v, .int t, .int a, .int k] w N := by
  obtain ⟨h4, hG, hI, h7, hP, hc2, hN1⟩ := h.facts hN
  have q := rA_mr hG.1 hN1 v t a k
  have hok : okR (mTells (w.1 9 1) v t a k).2 := okR_mr hI hN1 _ _ _ _
  have c := (c_X4_tell (l := l) (g := g) (w := Rec (wO (Prep w) 0 (kMR (w.1 0) v t a k).1) (kMR (w.1 0) v t a k).2) (V := w.1 9) (S := w.1 9 1) (v := v) (t := t) (a := a) (k := k) h4 hI.1).m (Rec_9 h _ _)
  rw [← q.2] at c hok
  refine ⟨_, _, _, c_X3_tell h.1 hP.1, c.E, fun z hz => ?_⟩
  rw [hz]
  exact RW_rec h (by omega) ⟨rA_le q.1 (by omega), gI_mr hG.2 h7 _ _ _ _⟩ hok
theorem st_bury {l : Launch} {g : Geo} {w : WD} {N : Nat} (h : RW w N) (hN : N ≤ 2 ^ 26 - 200) (v t : Int32) : STP l g yX3_bury yX4_bury cX3_bury cX4_bury 3 3 rm_X3_bury rm_X4_bury [.int v, .int t] w N := by
  obtain ⟨h4, hG, hI, h7, hP, hc2, hN1⟩ := h.facts hN
  have q := rA_mt hG.1 hN1 v t
  have hok : okR (mBuries (w.1 9 1) v t).2 := okR_mt hI hN1 _ _
  have c := (c_X4_bury (l := l) (g := g) (w := Rec (wO (Prep w) 0 (kMT (w.1 0) v t).1) (kMT (w.1 0) v t).2) (V := w.1 9) (S := w.1 9 1) (v := v) (t := t) h4 hI.1).m (Rec_9 h _ _)
  rw [← q.2] at c hok
  refine ⟨_, _, _, c_X3_bury h.1 hP.1 hc2, c.E, fun z hz => ?_⟩
  rw [hz]
  exact RW_rec h (by omega) ⟨rA_le q.1 (by omega), gI_mt hG.2 h7 _ _⟩ hok
theorem st_meet {l : Launch} {g : Geo} {w : WD} {N : Nat} (h : RW w N) (hN : N ≤ 2 ^ 26 - 200) (v u : Int32) : STP l g yX3_meet yX4_meet cX3_meet cX4_meet 3 3 rm_X3_meet rm_X4_meet [.int v, .int u] w N := by
  obtain ⟨h4, hG, hI, h7, hP, hc2, hN1⟩ := h.facts hN
  have q := rA_meet hG.1 v u
  have hok : okR (mMeets1 (w.1 9 1) v u).2 := (by rw [← q.2]; exact okR_kt (by rw [hG.1.1.1.1]; exact h7) _ _)
  have c := (c_X4_meet (l := l) (g := g) (w := Rec (wO (Prep w) 0 (kMeet (w.1 0) v u).1) (kMeet (w.1 0) v u).2) (V := w.1 9) (S := w.1 9 1) (v := v) (u := u) h4 hI.1).m (Rec_9 h _ _)
  rw [← q.2] at c hok
  refine ⟨_, _, _, c_X3_meet h.1 hP.1, c.E, fun z hz => ?_⟩
  rw [hz]
  exact RW_rec h (by omega) ⟨rA_le q.1 (by omega), gI_meet hG.2 h7 _ _⟩ hok
theorem st_tick {l : Launch} {g : Geo} {w : WD} {N : Nat} (h : RW w N) (hN : N ≤ 2 ^ 26 - 200) (v : Int32) : STP l g yX3_tick yX4_tick cX3_tick cX4_tick 2 2 rm_X3_tick rm_X4_tick [.int v] w N := by
  obtain ⟨h4, hG, hI, h7, hP, hc2, hN1⟩ := h.facts hN
  have q := rG_tick hG v
  have hok : okR (mTicks (w.1 9 1) v).2 := okR_tk h7 _
  have c := (c_X4_tick (l := l) (g := g) (w := Rec (wO (Prep w) 0 (kTick (w.1 0) v).1) (kTick (w.1 0) v).2) (V := w.1 9) (S := w.1 9 1) (v := v) h4 hI.1 hI.2.1).m (Rec_9 h _ _)
  rw [← q.2] at c hok
  refine ⟨_, _, _, c_X3_tick h.1 hP.1 hP.2, c.E, fun z hz => ?_⟩
  rw [hz]
  exact RW_rec h (by omega) ⟨rA_le q.1.1 (by omega), q.1.2⟩ hok
theorem st_villager {l : Launch} {g : Geo} {w : WD} {N : Nat} (h : RW w N) (hN : N ≤ 2 ^ 26 - 200) : STP l g yX3_villager yX4_villager cX3_villager cX4_villager 1 3 rm_X3_villager rm_X4_villager [] w N := by
  obtain ⟨h4, hG, hI, h7, hP, hc2, hN1⟩ := h.facts hN
  have q := rA_add hG.1
  have c := (c_X4_villager (l := l) (g := g) (w := Rec (wO (Prep w) 0 (kAdd (w.1 0)).1) (kAdd (w.1 0)).2) (V := w.1 9) (S := w.1 9 1) h4 hI.1).m (Rec_9 h _ _)
  have hq : rG (kAdd (w.1 0)).1 (mAdd (w.1 9 1)).1 (N + 60) := ⟨rA_le q.1 (by omega), gI_add hG.2 hG.1.2.1 h7⟩
  have hq2 := q.2
  unfold mAdd at hq hq2
  by_cases hx : w.1 9 1 0 = 7
  · rw [if_pos hx, if_pos hx] at c
    rw [if_pos hx] at hq hq2
    have hq2 : (kAdd (w.1 0)).2 = -1000003 := hq2
    rw [← hq2] at c
    refine ⟨_, _, _, c_X3_villager h.1 hP.1, c.E, fun z hz => ?_⟩
    rw [hz]
    exact RW_rec2 h (by omega) hq (fun _ => rfl) (fun z => absurd (by rw [hq2]; decide) z)
  · rw [if_neg hx, if_neg hx] at c
    rw [if_neg hx] at hq hq2
    have hq2 : (kAdd (w.1 0)).2 = nI (w.1 9 1 0) := hq2
    rw [← hq2] at c
    refine ⟨_, _, _, c_X3_villager h.1 hP.1, c.E, fun z hz => ?_⟩
    rw [hz]
    exact RW_rec2 h (by omega) hq (fun z => absurd z (by rw [hq2]; exact nI_pos (by omega))) (fun _ => rfl)
theorem st_leave {l : Launch} {g : Geo} {w : WD} {N : Nat} (h : RW w N) (hN : N ≤ 2 ^ 26 - 200) (v : Int32) : STP l g yX3_leave yX4_leave cX3_leave cX4_leave 2 3 rm_X3_leave rm_X4_leave [.int v] w N := by
  obtain ⟨h4, hG, hI, h7, hP, hc2, hN1⟩ := h.facts hN
  have q := rA_lv hG.1 v
  have hq : rG (kLv (w.1 0) v).1 (mLvP (w.1 9 1) v).1 (N + 60) := ⟨rA_le q.1 (by omega), gI_lv hG.2 h7 _⟩
  have c := (c_X4_leave (l := l) (g := g) (w := Rec (wO (Prep w) 0 (kLv (w.1 0) v).1) (kLv (w.1 0) v).2) (V := w.1 9) (S := w.1 9 1) (v := v) h4 hI.1).m (Rec_9 h _ _)
  have hq2 : (kLv (w.1 0) v).2 = mLeave (w.1 9 1) v := q.2
  rw [← hq2] at c
  refine ⟨_, _, _, c_X3_leave h.1 hP.1, c.E, fun z hz => ?_⟩
  rw [hz]
  refine RW_rec2 h (by omega) hq (fun hl => ?_) (fun hl => ?_)
  · rw [hq2] at hl
    unfold mLeaveV
    unfold mLeave at hl
    by_cases h1 : hasN (w.1 9 1 0) v = true
    · rw [if_pos h1] at hl ⊢
      by_cases h2 : w.1 9 1 (5 + 4 * ix v + 0) = 2
      · rw [if_pos h2]
      · rw [if_neg h2] at hl
        refine absurd hl (nI_pos ?_)
        have e1 := cnt_le (fun u => decide (mLv (w.1 9 1) (ix v) (5 + 4 * u + 0) = 0)) (mLv (w.1 9 1) (ix v) 0)
        have e2 := cnt_le (fun u => decide (mLv (w.1 9 1) (ix v) (5 + 4 * u + 0) = 1)) (mLv (w.1 9 1) (ix v) 0)
        have e3 : mLv (w.1 9 1) (ix v) 0 = w.1 9 1 0 := (zE_n _ (Or.inl (by omega))).trans (upN_n _ _ (by omega))
        unfold mMany
        omega
    · rw [if_neg h1]
  · rw [hq2] at hl
    unfold mLeaveV
    unfold mLeave at hl
    by_cases h1 : hasN (w.1 9 1 0) v = true
    · rw [if_pos h1] at hl ⊢
      by_cases h2 : w.1 9 1 (5 + 4 * ix v + 0) = 2
      · rw [if_pos h2] at hl
        exact absurd (by decide) hl
      · rw [if_neg h2]
    · rw [if_neg h1] at hl
      exact absurd (by decide) hl
theorem st_watch {l : Launch} {g : Geo} {w : WD} {N : Nat} (h : RW w N) (hN : N ≤ 2 ^ 26 - 200) (v : Int32) : STP l g yX3_watch yX4_watch cX3_watch cX4_watch 2 3 rm_X3_watch rm_X4_watch [.int v] w N := by
  obtain ⟨h4, hG, hI, h7, hP, hc2, hN1⟩ := h.facts hN
  have q := rA_cw hG.1 v
  have hq : rG (kCw (w.1 0) v).1 (mCw (w.1 9 1) v).1 (N + 60) := ⟨rA_le q.1 (by omega), gI_cw hG.2 _⟩
  have c := (c_X4_watch (l := l) (g := g) (w := Rec (wO (Prep w) 0 (kCw (w.1 0) v).1) (kCw (w.1 0) v).2) (V := w.1 9) (S := w.1 9 1) (v := v) h4 hI.1).m (Rec_9 h _ _)
  have hq2 := q.2
  unfold mCw at hq hq2
  have hw2 := hI.1.2.2.2.2
  by_cases hx : inN 1 60 v = true
  · rw [if_pos hx, if_pos hx] at c
    rw [if_pos hx] at hq hq2
    have hq2 : (kCw (w.1 0) v).2 = nI (w.1 9 1 2) := hq2
    rw [← hq2] at c
    refine ⟨_, _, _, c_X3_watch h.1 hP.1, c.E, fun z hz => ?_⟩
    rw [hz]
    exact RW_rec2 h (by omega) hq (fun z => absurd z (by rw [hq2]; exact nI_pos (by omega))) (fun _ => rfl)
  · rw [if_neg hx, if_neg hx] at c
    rw [if_neg hx] at hq hq2
    have hq2 : (kCw (w.1 0) v).2 = -1000001 := hq2
    rw [← hq2] at c
    refine ⟨_, _, _, c_X3_watch h.1 hP.1, c.E, fun z hz => ?_⟩
    rw [hz]
    exact RW_rec2 h (by omega) hq (fun _ => rfl) (fun z => absurd (by rw [hq2]; decide) z)
theorem st_villagerOf {l : Launch} {g : Geo} {w : WD} {N : Nat} (h : RW w N) (hN : N ≤ 2 ^ 26 - 200) (v a : Int32) : STP l g yX3_villagerOf yX4_villagerOf cX3_villagerOf cX4_villagerOf 3 3 rm_X3_villagerOf rm_X4_villagerOf [.int v, .int a] w N := by
  obtain ⟨h4, hG, hI, h7, hP, hc2, hN1⟩ := h.facts hN
  have c := (c_X4_villagerOf (l := l) (g := g) (w := w) (V := w.1 9) (S := w.1 9 1) (v := v) (a := a) hI.1).m rfl
  have q := qOf_eq hG.1.1 h7 v a
  rw [← q, mW_of] at c
  refine ⟨_, _, _, c_X3_villagerOf (v := v) (a := a) hP.1, c.E, fun z hz => ?_⟩
  rw [hz]
  exact RW_le h (by omega)
theorem st_entryOf {l : Launch} {g : Geo} {w : WD} {N : Nat} (h : RW w N) (hN : N ≤ 2 ^ 26 - 200) (v t a : Int32) : STP l g yX3_entryOf yX4_entryOf cX3_entryOf cX4_entryOf 6 6 rm_X3_entryOf rm_X4_entryOf [.int v, .int t, .int a] w N := by
  obtain ⟨h4, hG, hI, h7, hP, hc2, hN1⟩ := h.facts hN
  have c := (c_X4_entryOf (l := l) (g := g) (w := w) (V := w.1 9) (S := w.1 9 1) (v := v) (t := t) (a := a) hI.1).m rfl
  have q := qEO_eq hG.1.1 h7 v t a
  rw [← q, mW_of] at c
  refine ⟨_, _, _, c_X3_entryOf (v := v) (t := t) (a := a) hP.1, c.E, fun z hz => ?_⟩
  rw [hz]
  exact RW_le h (by omega)
theorem st_newest {l : Launch} {g : Geo} {w : WD} {N : Nat} (h : RW w N) (hN : N ≤ 2 ^ 26 - 200) (v : Int32) : STP l g yX3_newest yX4_newest cX3_newest cX4_newest 3 5 rm_X3_newest rm_X4_newest [.int v] w N := by
  obtain ⟨h4, hG, hI, h7, hP, hc2, hN1⟩ := h.facts hN
  have c := (c_X4_newest (l := l) (g := g) (w := w) (V := w.1 9) (S := w.1 9 1) (v := v) hI.1).m rfl
  have q := qNew_eq hG.1.1 h7 v
  rw [← q, mW_of] at c
  refine ⟨_, _, _, c_X3_newest (v := v) hP.1, c.E, fun z hz => ?_⟩
  rw [hz]
  exact RW_le h (by omega)
theorem st_unlike {l : Launch} {g : Geo} {w : WD} {N : Nat} (h : RW w N) (hN : N ≤ 2 ^ 26 - 200) (v u : Int32) : STP l g yX3_unlike yX4_unlike cX3_unlike cX4_unlike 3 5 rm_X3_unlike rm_X4_unlike [.int v, .int u] w N := by
  obtain ⟨h4, hG, hI, h7, hP, hc2, hN1⟩ := h.facts hN
  have c := (c_X4_unlike (l := l) (g := g) (w := w) (V := w.1 9) (S := w.1 9 1) (v := v) (u := u) hI.1).m rfl
  have q := qUnl_eq hG.1.1 h7 v u
  rw [← q, mW_of] at c
  refine ⟨_, _, _, c_X3_unlike (v := v) (u := u) hP.1, c.E, fun z hz => ?_⟩
  rw [hz]
  exact RW_le h (by omega)
theorem st_dead {l : Launch} {g : Geo} {w : WD} {N : Nat} (h : RW w N) (hN : N ≤ 2 ^ 26 - 200) (v : Int32) : STP l g yX3_dead yX4_dead cX3_dead cX4_dead 2 4 rm_X3_dead rm_X4_dead [.int v] w N := by
  obtain ⟨h4, hG, hI, h7, hP, hc2, hN1⟩ := h.facts hN
  have c := (c_X4_dead (l := l) (g := g) (w := w) (V := w.1 9) (S := w.1 9 1) (v := v) hI.1).m rfl
  have q := qDead_eq hG.1.1 h7 v
  rw [← q, mW_of] at c
  refine ⟨_, _, _, c_X3_dead (v := v) hP.1, c.E, fun z hz => ?_⟩
  rw [hz]
  exact RW_le h (by omega)
theorem st_count {l : Launch} {g : Geo} {w : WD} {N : Nat} (h : RW w N) (hN : N ≤ 2 ^ 26 - 200) (v : Int32) : STP l g yX3_count yX4_count cX3_count cX4_count 2 2 rm_X3_count rm_X4_count [.int v] w N := by
  obtain ⟨h4, hG, hI, h7, hP, hc2, hN1⟩ := h.facts hN
  have c := (c_X4_count (l := l) (g := g) (w := w) (V := w.1 9) (S := w.1 9 1) (v := v) hI.1).m rfl
  have q := qCnt_eq (W := w.1 9) hG.1.1 h7 v h.2.2.1.symm h.2.2.2.2.2.1.symm
  rw [← q, mW_of] at c
  refine ⟨_, _, _, c_X3_count (a := v) hP.1, c.E, fun z hz => ?_⟩
  rw [hz]
  exact RW_le h (by omega)
theorem st_bestMeeting {l : Launch} {g : Geo} {w : WD} {N : Nat} (h : RW w N) (hN : N ≤ 2 ^ 26 - 200) (v : Int32) : STP l g yX3_bestMeeting yX4_bestMeeting cX3_bestMeeting cX4_bestMeeting 7 7 rm_X3_bestMeeting rm_X4_bestMeeting [.int v] w N := by
  obtain ⟨h4, hG, hI, h7, hP, hc2, hN1⟩ := h.facts hN
  have c := (c_X4_bestMeeting (l := l) (g := g) (w := w) (V := w.1 9) (S := w.1 9 1) (v := v) hI.1).m rfl
  rw [← qBM_eq hG.1 v] at c
  refine ⟨_, _, _, c_X3_bestMeeting (v := v) hP.1, c, fun z hz => ?_⟩
  obtain ⟨V1, hV, rfl⟩ := hz
  exact RW_le (RW_9 h hV) (by omega)
theorem st_rounds {l : Launch} {g : Geo} {w : WD} {N : Nat} (h : RW w N) (hN : N ≤ 2 ^ 26 - 200) : STP l g yX3_rounds yX4_rounds cX3_rounds cX4_rounds 2 3 rm_X3_rounds rm_X4_rounds [] w N := by
  obtain ⟨h4, hG, hI, h7, hP, hc2, hN1⟩ := h.facts hN
  have e9 : (wO w 1 (qrF 7 (kCp (w.1 1) (w.1 0)) 0).2).1 9 = w.1 9 := wO_n _ _ (by decide)
  have c := (c_X4_rounds (l := l) (g := g) (w := wO w 1 (qrF 7 (kCp (w.1 1) (w.1 0)) 0).2) (V := w.1 9) (S := w.1 9 1) hI.1).m e9
  rw [← qRds_eq (w.1 1) hG.1.1 hG.1.2.1 h7] at c
  refine ⟨_, _, _, c_X3_rounds hP.1 hP, c, fun z hz => ?_⟩
  obtain ⟨V1, hV, rfl⟩ := hz
  have hR := RW_1 h (qrF 7 (kCp (w.1 1) (w.1 0)) 0).2
  have hS := RW_9 hR (V1 := V1) (by rw [e9]; exact hV)
  rw [e9] at hS
  exact RW_le hS (by omega)
theorem st_ghosts {l : Launch} {g : Geo} {w : WD} {N : Nat} (h : RW w N) (hN : N ≤ 2 ^ 26 - 200) (v u a : Int32) : STP l g yX3_ghosts yX4_ghosts cX3_ghosts cX4_ghosts 4 6 rm_X3_ghosts rm_X4_ghosts [.int v, .int u, .int a] w N := by
  obtain ⟨h4, hG, hI, h7, hP, hc2, hN1⟩ := h.facts hN
  have ht : w.1 0 0 1 ≤ 100000 := by rw [hG.1.1.1.2.1]; exact hI.2.2.2
  have key : (qGhW w v u a).1 9 = w.1 9 ∧ RW (qGhW w v u a) N := by
    unfold qGhW
    (repeat' split) <;> first | exact ⟨rfl, h⟩ | exact ⟨wO_n _ _ (by decide), RW_1 h _⟩
  have c := (c_X4_ghosts (l := l) (g := g) (w := qGhW w v u a) (V := w.1 9) (S := w.1 9 1) (v := v) (u := u) (a := a) hI.1 hI.2.1 hI.2.2.2).m key.1
  rw [← qGh_eq (w.1 1) hG.1.1 hG.1.2.1 hG.2 h7 v u a] at c
  refine ⟨_, _, _, c_X3_ghosts hP ht, c, fun z hz => ?_⟩
  obtain ⟨V1, hV, rfl⟩ := hz
  have hS := RW_9 key.2 (V1 := V1) (by rw [key.1]; exact hV)
  rw [key.1] at hS
  exact RW_le hS (by omega)
theorem st_undo {l : Launch} {g : Geo} {w : WD} {N : Nat} (h : RW w N) (hN : N ≤ 2 ^ 26 - 200) : STP l g yX3_undo yX4_undo cX3_undo cX4_undo 1 2 rm_X3_undo rm_X4_undo [] w N := by
  obtain ⟨h4, hG, hI, h7, hP, hc2, hN1⟩ := h.facts hN
  have hk := h.2.2.1
  by_cases hz : w.1 8 0 1 = 0
  · have c := (c_X4_undo (l := l) (g := g) (w := w) (V := w.1 9) (S := w.1 9 1) h4).m rfl
    have d := c_X3_undo (l := l) (g := g) (w := w) h.1
    rw [if_pos (hk.symm.trans hz), if_pos (hk.symm.trans hz), mW_of] at c
    rw [if_pos hz, if_pos hz] at d
    refine ⟨_, _, _, d, c.E, fun z hz => ?_⟩
    rw [hz]
    exact RW_le h (by omega)
  · have d := c_X3_undo (l := l) (g := g) (w := w) h.1
    rw [if_neg hz, if_neg hz] at d
    have e9 : (wO (hK w (w.1 8 0 1 - 1) w.2) 0 (kCp (w.1 0) (w.1 (w.2 (w.1 8 0 1 - 1))))).1 9 = w.1 9 := by rw [wO_n _ _ (by decide), hK_n _ _ _ (by decide)]
    have c := (c_X4_undo (l := l) (g := g) (w := wO (hK w (w.1 8 0 1 - 1) w.2) 0 (kCp (w.1 0) (w.1 (w.2 (w.1 8 0 1 - 1))))) (V := w.1 9) (S := w.1 9 1) h4).m e9
    rw [if_neg (fun z => hz (hk.trans z)), if_neg (fun z => hz (hk.trans z)), ← hk] at c
    refine ⟨_, _, _, d, c.E, fun z hz2 => ?_⟩
    rw [hz2]
    refine RW_le (N := N) ?_ (by omega)
    obtain ⟨a1, a2, a3, a4, a5, a6⟩ := h
    have hk4 := a1.1
    have e8 : (mW (wO (hK w (w.1 8 0 1 - 1) w.2) 0 (kCp (w.1 0) (w.1 (w.2 (w.1 8 0 1 - 1))))) (vU (w.1 9) 0 4 (w.1 8 0 1 - 1)) (mUndoS (w.1 9))).1 8 0 1 = w.1 8 0 1 - 1 := by rw [mW_n _ _ _ (by decide), wO_n _ _ (by decide), hK_k]
    refine ⟨⟨by rw [e8]; omega, fun i hi => a1.2 i hi⟩, a2, ?_, ?_, fun i hi => ?_, ?_⟩
    · rw [e8, mW_V _ _ _ (by decide)]
      exact (upN_s (w.1 9 0) 4 (w.1 8 0 1 - 1)).symm
    · rw [mW_n _ _ _ (by decide), wO_s, mW_S]
      refine rG_cp _ (rG_c (a5 (w.1 8 0 1 - 1) (by omega)) (fun j hj => ?_))
      unfold mUndoS
      rw [← a3]
    · rw [e8] at hi
      have hi5 := a1.2 i (by omega)
      show rG ((mW _ _ _).1 (w.2 i)) _ N
      rw [mW_n _ _ _ (by omega), wO_n _ _ (by omega), hK_n _ _ _ (by omega), mW_V _ _ _ (by decide), vU_n _ _ _ (by decide)]
      exact a5 i (by omega)
    · unfold oT
      rw [mW_n _ _ _ (by decide), wO_n _ _ (by decide), hK_n _ _ _ (by decide), mW_V _ _ _ (by decide), mW_V _ _ _ (by decide), vU_n _ _ _ (show 5 ≠ 0 by decide)]
      exact a6
theorem st_clearText {l : Launch} {g : Geo} {w : WD} {N : Nat} (h : RW w N) (hN : N ≤ 2 ^ 26 - 200) : STP l g yX3_clearText yX4_clearText cX3_clearText cX4_clearText 2 2 rm_X3_clearText rm_X4_clearText [] w N := by
  obtain ⟨h4, hG, hI, h7, hP, hc2, hN1⟩ := h.facts hN
  have e9 : (oW w (vU (w.1 7) 0 1 0)).1 9 = w.1 9 := by unfold oW; exact wO_n _ _ (by decide)
  have c := (c_X4_clearText (l := l) (g := g) (w := oW w (vU (w.1 7) 0 1 0)) (V := w.1 9) (S := w.1 9 1)).m e9
  obtain ⟨o1, o2, o3, o4⟩ := h.2.2.2.2.2
  rw [← o1] at c
  refine ⟨_, _, _, c_X3_clearText, c.E, fun z hz => ?_⟩
  rw [hz]
  refine RW_le (N := N) ?_ (by omega)
  obtain ⟨a1, a2, a3, a4, a5, a6⟩ := h
  have ew : ∀ o, o ≠ 7 → o ≠ 9 → (mW (oW w (vU (w.1 7) 0 1 0)) (vU (w.1 9) 0 6 0) (w.1 9 1)).1 o = w.1 o := fun o x y => by
    rw [mW_n _ _ _ y]
    unfold oW
    rw [wO_n _ _ x]
  refine ⟨⟨by rw [ew 8 (by decide) (by decide)]; exact a1.1, fun i hi => a1.2 i hi⟩, a2, ?_, ?_, fun i hi => ?_, ?_⟩
  · rw [ew 8 (by decide) (by decide), mW_V _ _ _ (by decide)]; exact a3
  · rw [ew 0 (by decide) (by decide), mW_S]; exact a4
  · rw [ew 8 (by decide) (by decide)] at hi
    have hi5 := a1.2 i (by have := a1.1; omega)
    show rG ((mW _ _ _).1 (w.2 i)) _ N
    rw [ew _ (by omega) (by omega), mW_V _ _ _ (by decide), vU_n _ _ _ (by decide)]
    exact a5 i hi
  · unfold oT
    rw [mW_n _ _ _ (by decide), oW_7, mW_V _ _ _ (by decide), mW_V _ _ _ (by decide), vU_n _ _ _ (show 1 ≠ 0 by decide), vU_n _ _ _ (show 5 ≠ 0 by decide)]
    exact ⟨rfl, Nat.zero_le _, o3, o4⟩
theorem st_type {l : Launch} {g : Geo} {w : WD} {N : Nat} (h : RW w N) (hN : N ≤ 2 ^ 26 - 200) (v : Int32) : STP l g yX3_type yX4_type cX3_type cX4_type 2 2 rm_X3_type rm_X4_type [.int v] w N := by
  obtain ⟨h4, hG, hI, h7, hP, hc2, hN1⟩ := h.facts hN
  obtain ⟨o1, o2, o3, o4⟩ := h.2.2.2.2.2
  have d := c_X3_type (l := l) (g := g) (w := w) (v := v) o2
  by_cases hx : inN 32 126 v = true
  · rw [if_pos hx, if_pos hx] at d
    have e9 : (oW w (kApp (w.1 7) (ix v))).1 9 = w.1 9 := by unfold oW; exact wO_n _ _ (by decide)
    have c := (c_X4_type (l := l) (g := g) (w := oW w (kApp (w.1 7) (ix v))) (V := w.1 9) (S := w.1 9 1) (v := v) (by rw [← o1]; exact o2)).m e9
    unfold mType mTypeV at c
    rw [if_pos hx, if_pos hx, ← o1] at c
    obtain ⟨k, k1, k2, rfl⟩ := inN_of (by decide) hx
    rw [ix_nI (by omega)] at c d
    by_cases hl : w.1 7 0 1 = 60
    · have hka : kApp (w.1 7) k = w.1 7 := by unfold kApp; rw [if_neg (by omega)]
      rw [if_pos hl, if_pos hl] at c
      rw [if_neg (show ¬ w.1 7 0 1 < 60 by omega)] at d
      refine ⟨_, _, _, d, c.E, fun z hz => ?_⟩
      rw [hz, hka]
      have hR := RW_7 h (w.1 7) rfl rfl
      rw [oW_id] at hR ⊢
      rw [mW_of]
      exact RW_le hR (by omega)
    · rw [if_neg hl, if_neg hl] at c
      rw [if_pos (show w.1 7 0 1 < 60 by omega)] at d
      refine ⟨_, _, _, d, c.E, fun z hz => ?_⟩
      rw [hz]
      refine RW_le (N := N) ?_ (by omega)
      have hka : kApp (w.1 7) k = vU (vU (w.1 7) 1 (w.1 7 0 1) k) 0 1 (w.1 7 0 1 + 1) := by unfold kApp; rw [if_pos (by omega)]
      rw [hka]
      obtain ⟨a1, a2, a3, a4, a5, a6⟩ := h
      generalize hO : vU (vU (w.1 7) 1 (w.1 7 0 1) k) 0 1 (w.1 7 0 1 + 1) = O
      generalize hQ : vU (vU (w.1 9) 5 (w.1 7 0 1) k) 0 6 (w.1 7 0 1 + 1) = Q
      have ew : ∀ o, o ≠ 7 → o ≠ 9 → (mW (oW w O) Q (w.1 9 1)).1 o = w.1 o := fun o x y => by
        rw [mW_n _ _ _ y]
        unfold oW
        rw [wO_n _ _ x]
      refine ⟨⟨by rw [ew 8 (by decide) (by decide)]; exact a1.1, fun i hi => a1.2 i hi⟩, a2, ?_, ?_, fun i hi => ?_, ?_⟩
      · rw [ew 8 (by decide) (by decide), mW_V _ _ _ (by decide), ← hQ]; exact a3
      · rw [ew 0 (by decide) (by decide), mW_S]; exact a4
      · rw [ew 8 (by decide) (by decide)] at hi
        have hi5 := a1.2 i (by have := a1.1; omega)
        show rG ((mW _ _ _).1 (w.2 i)) _ N
        rw [ew _ (by omega) (by omega), mW_V _ _ _ (by decide), ← hQ, vU_n _ _ _ (by decide), vU_n _ _ _ (by decide)]
        exact a5 i hi
      · unfold oT
        rw [mW_n _ _ _ (by decide), oW_7, mW_V _ _ _ (by decide), mW_V _ _ _ (by decide), ← hO, ← hQ]
        refine ⟨rfl, ?_, ?_, fun j => ?_⟩
        · show w.1 7 0 1 + 1 ≤ 60
          omega
        · show upN (w.1 7 1) (w.1 7 0 1) k = upN (w.1 9 5) (w.1 7 0 1) k
          rw [o3]
        · show upN (w.1 7 1) (w.1 7 0 1) k j < 65536
          unfold upN
          split
          · omega
          · exact o4 j
  · rw [if_neg hx, if_neg hx] at d
    have c := (c_X4_type (l := l) (g := g) (w := w) (V := w.1 9) (S := w.1 9 1) (v := v) (by rw [← o1]; exact o2)).m rfl
    unfold mType mTypeV at c
    rw [if_neg hx, if_neg hx, mW_of] at c
    refine ⟨_, _, _, d, c.E, fun z hz => ?_⟩
    rw [hz]
    exact RW_le h (by omega)
theorem kC_3 (V O : Nat → Nat → Nat) : ∀ e, (kC V O e).2.2.1 0 3 ≤ e
  | 0 => Nat.le_refl _
  | e + 1 => by
    have ih := kC_3 V O e
    rw [kC_s]
    split
    · omega
    · split
      · unfold kSO
        split
        · show (kC V O e).2.2.1 0 3 + 1 ≤ e + 1
          omega
        · show (kC V O e).2.2.1 0 3 ≤ e + 1
          omega
      · omega
theorem carry_7 (V O : Nat → Nat → Nat) : (kCarry V O).2 0 1 = O 0 1 ∧ (kCarry V O).2 1 = O 1 ∧ (kCarry V O).2 0 3 ≤ O 0 1 := by
  obtain ⟨o1, o2, o3⟩ := kC_O V O (O 0 1)
  have h3 := kC_3 V O (O 0 1)
  unfold kCarry
  split
  · exact ⟨o2, o1, h3⟩
  · exact ⟨o2, o1, h3⟩
theorem RW_X {w : WD} {N : Nat} (h : RW w N) : RW (qW1 w) N ∧ (qW1 w).1 9 = w.1 9 := by
  obtain ⟨c1, c2, c3⟩ := carry_7 (kCp (w.1 1) (w.1 0)) (w.1 7)
  refine ⟨RW_1 (RW_7 h _ c1 c2) _, ?_⟩
  rw [wO_n _ _ (by decide)]
  unfold oW
  rw [wO_n _ _ (by decide)]
theorem st_fault {l : Launch} {g : Geo} {w : WD} {N : Nat} (h : RW w N) (hN : N ≤ 2 ^ 26 - 200) (v : Int32) : STP l g yX3_fault yX4_fault cX3_fault cX4_fault 2 3 rm_X3_fault rm_X4_fault [.int v] w N := by
  obtain ⟨h4, hG, hI, h7, hP, hc2, hN1⟩ := h.facts hN
  obtain ⟨o1, o2, o3, o4⟩ := h.2.2.2.2.2
  obtain ⟨k1, k2, k3⟩ := sim_carry (O := w.1 7) (w.1 9 6) (rG_cp (w.1 1) hG) (by omega) o2
  obtain ⟨x1, x2⟩ := RW_X h
  have key : (if v = 0 ∨ v = nI 1 then qW1 w else w).1 9 = w.1 9 ∧ RW (if v = 0 ∨ v = nI 1 then qW1 w else w) N := by
    split
    · exact ⟨x2, x1⟩
    · exact ⟨rfl, h⟩
  have c := (c_X4_fault (l := l) (g := g) (w := if v = 0 ∨ v = nI 1 then qW1 w else w) (V := w.1 9) (S := w.1 9 1) (v := v) (N := N) (by rw [← o1]; exact o2) (fun j _ => by rw [← o3]; exact o4 j) hI (by omega)).m key.1
  have d := c_X3_fault (l := l) (g := g) (w := w) (v := v) o2 (fun j _ => o4 j) k1
  have he : qFl w v = mFault (w.1 9) (w.1 9 1) v := by
    unfold qFl mFault
    rw [← o1, ← o3]
    by_cases hr : (qX w).2 0 5 = 0
    · rw [if_pos hr, (k2 hr).1]
      by_cases h0 : v = 0
      · subst h0
        rw [if_pos (Or.inl rfl), if_pos (show inN 0 1 0 = true by decide), if_pos (Or.inl rfl)]
        rfl
      · by_cases h1 : v = nI 1
        · subst h1
          rw [if_pos (Or.inr rfl), if_pos (show inN 0 1 (nI 1) = true by decide), if_pos (Or.inl rfl)]
          rfl
        · rw [if_neg (fun z => z.elim h0 h1), if_neg]
          intro z
          obtain ⟨k, -, hk, rfl⟩ := inN_of (by decide) z
          rcases (show k = 0 ∨ k = 1 by omega) with rfl | rfl
          · exact h0 nI_0
          · exact h1 rfl
    · rw [if_neg hr, k3 hr]
      by_cases h0 : v = 0
      · subst h0
        rw [if_pos (Or.inl rfl), if_pos rfl, if_pos (show inN 0 1 0 = true by decide), if_pos (Or.inr (show ix 0 = 0 by decide))]
        rfl
      · by_cases h1 : v = nI 1
        · subst h1
          rw [if_pos (Or.inr rfl), if_neg h0, if_pos (show inN 0 1 (nI 1) = true by decide), if_neg]
          rintro (z | z)
          · exact absurd z (Nat.succ_ne_zero _)
          · exact absurd z (by decide)
        · rw [if_neg (fun z => z.elim h0 h1), if_neg]
          intro z
          obtain ⟨k, -, hk, rfl⟩ := inN_of (by decide) z
          rcases (show k = 0 ∨ k = 1 by omega) with rfl | rfl
          · exact h0 nI_0
          · exact h1 rfl
  rw [← he] at c
  refine ⟨_, _, _, d, c, fun z hz => ?_⟩
  obtain ⟨V1, hV, rfl⟩ := hz
  have hS := RW_9 key.2 (V1 := V1) (by rw [key.1]; exact hV)
  rw [key.1] at hS
  exact RW_le hS (by omega)
theorem st_play {l : Launch} {g : Geo} {w : WD} {N : Nat} (h : RW w N) (hN : N ≤ 2 ^ 26 - 200) : STP l g yX3_play yX4_play cX3_play cX4_play 1 2 rm_X3_play rm_X4_play [] w N := by
  obtain ⟨h4, hG, hI, h7, hP, hc2, hN1⟩ := h.facts hN
  obtain ⟨o1, o2, o3, o4⟩ := h.2.2.2.2.2
  obtain ⟨k1, k2, k3⟩ := sim_carry (O := w.1 7) (w.1 9 6) (rG_cp (w.1 1) hG) (by omega) o2
  obtain ⟨x1, x2⟩ := RW_X h
  have d := c_X3_play (l := l) (g := g) (w := w) h.1 o2 (fun j _ => o4 j) k1
  have c3 := (carry_7 (kCp (w.1 1) (w.1 0)) (w.1 7)).2.2
  unfold qPl qPlW at d
  by_cases hr : (qX w).2 0 5 = 0
  · rw [if_pos hr, if_pos hr] at d
    obtain ⟨f1, f2, f3⟩ := k2 hr
    have e9 := (Rec_9 x1 (kCp ((Prep (qW1 w)).1 0) ((Prep (qW1 w)).1 1)) (nI ((qX w).2 0 3))).trans x2
    have c := (c_X4_play (l := l) (g := g) (w := Rec (wO (Prep (qW1 w)) 0 (kCp ((Prep (qW1 w)).1 0) ((Prep (qW1 w)).1 1))) (nI ((qX w).2 0 3))) (V := w.1 9) (S := w.1 9 1) (N := N) h4 (by rw [← o1]; exact o2) (fun j _ => by rw [← o3]; exact o4 j) hI (by omega)).m e9
    unfold mPlay at c
    rw [← o1, ← o3] at c
    rw [if_pos (show (fF (w.1 7 1) (w.1 7 0 1) (w.1 7 0 1) (w.1 9 1) 0 (w.1 9 6)).1 = 0 by rw [f1]), f2] at c
    refine ⟨_, _, _, d, c, fun z hz => ?_⟩
    rw [if_pos (show (fF (w.1 7 1) (w.1 7 0 1) (w.1 7 0 1) (w.1 9 1) 0 (w.1 9 6)).1 = 0 by rw [f1])] at hz
    obtain ⟨a', r', G', rfl⟩ := hz
    unfold Rec
    rw [if_neg (nI_pos (Nat.lt_of_le_of_lt c3 (by omega)))]
    have e1 : (Prep (qW1 w)).1 1 = (qX w).1 := by
      have hk := x1.1.k
      have := x1.1.2 _ hk
      rw [wO_n _ _ (by omega), wO_s]
    have h9 : ∀ k, (qW1 w).1 9 k = w.1 9 k := fun k => by rw [x2]
    refine RW_keep x1 (show N ≤ N + 60 by omega) (by rw [e1]; exact rG_cp _ f3) ?_ ?_ ?_ ?_ ?_
    · rw [h9]; rfl
    · rw [h9]; rfl
    · rw [h9]; rfl
    · rw [h9]; rfl
    · rw [h9]; rfl
  · rw [if_neg hr, if_neg hr] at d
    have f1 := k3 hr
    have hne : ¬ (fF (w.1 7 1) (w.1 7 0 1) (w.1 7 0 1) (w.1 9 1) 0 (w.1 9 6)).1 = 0 := by
      rw [f1]
      exact Nat.succ_ne_zero _
    have c := (c_X4_play (l := l) (g := g) (w := qW1 w) (V := w.1 9) (S := w.1 9 1) (N := N) h4 (by rw [← o1]; exact o2) (fun j _ => by rw [← o3]; exact o4 j) hI (by omega)).m x2
    unfold mPlay at c
    rw [← o1, ← o3] at c
    rw [if_neg hne] at c
    refine ⟨_, _, _, d, c, fun z hz => ?_⟩
    rw [if_neg hne] at hz
    obtain ⟨V1, hV, rfl⟩ := hz
    have hS := RW_9 x1 (V1 := V1) (by rw [x2]; exact hV)
    rw [x2] at hS
    exact RW_le hS (by omega)
