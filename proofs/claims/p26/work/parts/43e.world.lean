/-! the world between calls -/
def WJ (w : WD) (N G n : Nat) : Prop := HH w ∧ (∀ i j, i < 5 → j < 5 → w.2 i = w.2 j → i = j) ∧ J (w.1 0) N G ∧ w.1 0 0 0 = n
theorem WJ_le {w : WD} {N N' G G' n : Nat} (h : WJ w N G n) (hN : N ≤ N') (hG : G ≤ G') : WJ w N' G' n := ⟨h.1, h.2.1, J_le h.2.2.1 hN hG, h.2.2.2⟩
theorem hKa_n (w : WD) (k : Nat) (s : Nat → Nat) {a : Nat} (h : a ≠ 8) : (hK w k s).1 a = w.1 a := by
  funext b
  exact wA_n w _ (fun z => h z.1)
theorem hKa_8 (w : WD) (k : Nat) (s : Nat → Nat) : (hK w k s).1 8 0 1 = k := by
  unfold hK
  dsimp only
  rw [wA_s, upN_s]
theorem rot_in {s : Nat → Nat} {i : Nat} (hi : i < 5) : ∃ j, j < 5 ∧ rot s i = s j ∧ j = (i + 1) % 5 := by
  by_cases h4 : i = 4
  · subst h4; exact ⟨0, by decide, rfl, rfl⟩
  · refine ⟨i + 1, by omega, ?_, by omega⟩
    unfold rot
    rw [if_neg h4, if_pos (by omega)]
theorem keep_spec {w : WD} {N G n N' G' n' : Nat} (h : WJ w N G n) {V' : Nat → Nat → Nat} (hJ : J V' N' G') (hn : V' 0 0 = n') : WJ (hKeep (wO (Prep w) 0 V')) N' G' n' ∧ (hKeep (wO (Prep w) 0 V')).1 0 = V' ∧ 1 ≤ (hKeep (wO (Prep w) 0 V')).1 8 0 1 ∧ ∃ U, (hKeep (wO (Prep w) 0 V')).1 ((hKeep (wO (Prep w) 0 V')).2 ((hKeep (wO (Prep w) 0 V')).1 8 0 1 - 1)) = kCp U (w.1 0) := by
  obtain ⟨hH, hI, -, -⟩ := h
  have hs := hH.s
  have hne := hH.n
  have hk4 := hH.1
  have p0 : (wO (Prep w) 0 V').1 0 = V' := wO_s _ _ _
  have p8 : (wO (Prep w) 0 V').1 8 = w.1 8 := by rw [wO_n _ _ (by decide), wO_n _ _ (by omega)]
  have p2 : (wO (Prep w) 0 V').2 = w.2 := rfl
  have pk : (wO (Prep w) 0 V').1 (w.2 (w.1 8 0 1)) = kCp (w.1 (w.2 (w.1 8 0 1))) (w.1 0) := by rw [wO_n _ _ (Ne.symm hne), wO_s]
  generalize wO (Prep w) 0 V' = W0 at *
  unfold hKeep
  rw [p8, p2]
  by_cases hk : w.1 8 0 1 = 4
  · rw [if_pos hk]
    refine ⟨⟨⟨by rw [hKa_8]; exact Nat.le_refl _, fun i hi => ?_⟩, fun i j hi hj e => ?_, by rw [hKa_n _ _ _ (by decide), p0]; exact hJ, by rw [hKa_n _ _ _ (by decide), p0]; exact hn⟩, by rw [hKa_n _ _ _ (by decide), p0], by rw [hKa_8]; decide, ⟨w.1 (w.2 (w.1 8 0 1)), ?_⟩⟩
    · obtain ⟨j, j1, j2, -⟩ := rot_in (s := w.2) hi
      show 2 ≤ rot w.2 i ∧ rot w.2 i < 7
      rw [j2]; exact hH.2 j j1
    · have e : rot w.2 i = rot w.2 j := e
      obtain ⟨x, x1, x2, x3⟩ := rot_in (s := w.2) hi
      obtain ⟨y, y1, y2, y3⟩ := rot_in (s := w.2) hj
      rw [x2, y2] at e
      have := hI x y x1 y1 e
      omega
    · rw [hKa_8]
      show (hK W0 4 (rot w.2)).1 (rot w.2 3) = _
      have e3 : rot w.2 3 = w.2 4 := rfl
      rw [e3, hKa_n _ _ _ (by have := (hH.2 4 (by decide)).2; omega), ← hk]
      exact pk
  · rw [if_neg hk]
    refine ⟨⟨⟨by rw [hKa_8]; omega, fun i hi => hH.2 i hi⟩, fun i j hi hj e => hI i j hi hj e, by rw [hKa_n _ _ _ (by decide), p0]; exact hJ, by rw [hKa_n _ _ _ (by decide), p0]; exact hn⟩, by rw [hKa_n _ _ _ (by decide), p0], by rw [hKa_8]; omega, ⟨w.1 (w.2 (w.1 8 0 1)), ?_⟩⟩
    rw [hKa_8]
    show (hK W0 (w.1 8 0 1 + 1) w.2).1 (w.2 (w.1 8 0 1 + 1 - 1)) = _
    rw [Nat.add_sub_cancel, hKa_n _ _ _ (by omega)]
    exact pk
theorem WJ_rec {w : WD} {N G n N' G' n' : Nat} (h : WJ w N G n) {V' : Nat → Nat → Nat} (hJ : J V' N' G') (hn : V' 0 0 = n') (r : Int32) : WJ (Rec (wO (Prep w) 0 V') r) N' G' n' ∧ (Rec (wO (Prep w) 0 V') r).1 0 = V' := by
  unfold Rec
  split
  · obtain ⟨hH, hI, -, -⟩ := h
    have p0 : (wO (Prep w) 0 V').1 0 = V' := wO_s _ _ _
    have p8 : (wO (Prep w) 0 V').1 8 = w.1 8 := by have := hH.s; rw [wO_n _ _ (by decide), wO_n _ _ (by omega)]
    exact ⟨⟨⟨by rw [p8]; exact hH.1, hH.2⟩, hI, by rw [p0]; exact hJ, by rw [p0]; exact hn⟩, p0⟩
  · have := keep_spec h hJ hn
    exact ⟨this.1, this.2.1⟩
theorem Cp_0 (U V : Nat → Nat → Nat) {j : Nat} (h : j < 4) : kCp U V 0 j = V 0 j := by
  unfold kCp
  rw [if_pos rfl]
  exact if_pos h
theorem Cp_k (U V : Nat → Nat → Nat) {k : Nat} (h : 1 ≤ k ∧ k < 12) : kCp U V k = V k := by
  unfold kCp
  rw [if_neg (by omega), if_pos h.2]
theorem J_cp {V : Nat → Nat → Nat} {N G : Nat} (U : Nat → Nat → Nat) (h : J V N G) : J (kCp U V) N G := by
  rw [J, Cp_0 U V (j := 0) (by decide), Cp_0 U V (j := 1) (by decide), Cp_0 U V (j := 2) (by decide), Cp_0 U V (j := 3) (by decide), Cp_k U V (k := 1) (by decide), Cp_k U V (k := 2) (by decide), Cp_k U V (k := 3) (by decide), Cp_k U V (k := 4) (by decide), Cp_k U V (k := 5) (by decide), Cp_k U V (k := 6) (by decide), Cp_k U V (k := 7) (by decide), Cp_k U V (k := 8) (by decide), Cp_k U V (k := 9) (by decide), Cp_k U V (k := 10) (by decide), Cp_k U V (k := 11) (by decide)]
  exact h
theorem nTo_cp (U V : Nat → Nat → Nat) (n : Nat) : nTo (kCp U V) n = nTo V n := by
  unfold nTo
  refine sm_congr _ (fun u _ => cnt_congr 12 (fun s _ => ?_))
  show kTmb (kCp U V) _ = kTmb V _
  unfold kTmb
  rw [Cp_k U V (k := 5) (by decide), Cp_k U V (k := 6) (by decide)]
theorem WJ_undo {w : WD} {N G n : Nat} (h : WJ w N G n) {V U U' : Nat → Nat → Nat} (h1 : 1 ≤ w.1 8 0 1) (hJ : J V N G) (hn : V 0 0 = n) : WJ (wO (hK w (w.1 8 0 1 - 1) w.2) 0 (kCp U' (kCp U V))) N G n := by
  obtain ⟨hH, hI, -, -⟩ := h
  have e0 : (wO (hK w (w.1 8 0 1 - 1) w.2) 0 (kCp U' (kCp U V))).1 0 = kCp U' (kCp U V) := wO_s _ _ _
  refine ⟨⟨?_, hH.2⟩, hI, by rw [e0]; exact J_cp _ (J_cp _ hJ), by rw [e0, Cp_0 _ _ (by decide), Cp_0 _ _ (by decide)]; exact hn⟩
  rw [wO_n _ _ (by decide), hKa_8]
  have := hH.1
  omega
/-- who is awake -/
theorem cnt_set {p q : Nat → Bool} {v : Nat} (hp : p v = true) (hq : q v = false) (h : ∀ i, i ≠ v → q i = p i) : ∀ n, (v < n → cnt p n = cnt q n + 1) ∧ (n ≤ v → cnt p n = cnt q n)
  | 0 => ⟨fun z => absurd z (Nat.not_lt_zero _), fun _ => rfl⟩
  | n + 1 => by
    obtain ⟨h1, h2⟩ := cnt_set hp hq h n
    rw [cnt_s, cnt_s]
    by_cases hv : n = v
    · subst hv
      rw [hp, hq, if_pos rfl, if_neg (by decide), h2 (Nat.le_refl _)]
      exact ⟨fun _ => rfl, fun z => absurd z (by omega)⟩
    · rw [h n hv]
      exact ⟨fun z => by rw [h1 (by omega)]; omega, fun z => by rw [h2 (by omega)]⟩
theorem many_sl {V : Nat → Nat → Nat} {v : Nat} (hv : v < V 0 0) (h : V 1 v = 0) : kMany V 0 = kMany (vU (vU V 1 v 1) 3 v (V 0 1)) 0 + 1 := by
  have e0 : vU (vU V 1 v 1) 3 v (V 0 1) 0 = V 0 := by simp (disch := decide) only [vU_n]
  have e1 : ∀ j, vU (vU V 1 v 1) 3 v (V 0 1) 1 j = if j = v then 1 else V 1 j := fun j => by simp (disch := decide) only [vU_n, vUe]
  unfold kMany
  rw [e0]
  refine (cnt_set (decide_eq_true h) ?_ (fun i hi => ?_) (V 0 0)).1 hv
  · show decide (vU (vU V 1 v 1) 3 v (V 0 1) 1 v = 0) = false
    rw [e1, if_pos rfl]
    rfl
  · show decide (vU (vU V 1 v 1) 3 v (V 0 1) 1 i = 0) = _
    rw [e1, if_neg hi]
