/-! THE WORLD IN STEP: the class's village and history against the reference's rows -/
theorem rG_c {V : Nat → Nat → Nat} {S S' : Nat → Nat} {N : Nat} (h : rG V S N) (e : ∀ j, j < 813 → S' j = S j) : rG V S' N := by
  obtain ⟨⟨⟨a1, a2, a3, a4, a5⟩, ⟨b1, b2, b3, b4⟩, ⟨⟨c1, c2, c3, c4, c5⟩, d2, d3, d4⟩, hj, hd⟩, hg⟩ := h
  refine ⟨⟨⟨?_, fun v hv => ?_, fun v t hv ht => ?_, fun v t hv ht => ?_, fun t ht => ?_⟩, ⟨fun v k a b c => ?_, fun v t hv ht hq => ?_, fun v hv hq => ?_, fun v u t hv hu ht => ?_⟩, ⟨⟨fun i a b => ?_, fun v k a b c => ?_, ?_, ?_, ?_⟩, fun v t hv ht => ?_, fun v hv => ?_, ?_⟩, hj, fun j a b => ?_⟩, fun v t hv ht hq => ?_⟩
  · rw [e 0 (by decide), e 1 (by decide), e 2 (by decide), e 3 (by decide), e 4 (by decide)]; exact a1
  · rw [e _ (by omega), e _ (by omega), e _ (by omega), e _ (by omega)]; exact a2 v hv
  · exact rE_c (a3 v t hv ht) (fun _ _ _ => rfl) (fun k hk => e _ (by omega))
  · rw [e _ (by omega), e _ (by omega)]; exact a4 v t hv ht
  · rw [e _ (by omega), e _ (by omega)]; exact a5 t ht
  · rw [e 0 (by decide)] at a; rw [e _ (by omega)]; exact b1 v k a b c
  · rw [e _ (by omega)] at hq
    have hau : S (225 + 84 * v + 7 * t + 2) < 7 := by
      rcases a3 v t hv ht with h1 | h1 | h1
      · exact absurd h1.1 hq
      · exact h1.2.2.2.1
      · exact h1.2.2.2.1
    rw [e (225 + 84 * v + 7 * t + 1) (by omega), e (225 + 84 * v + 7 * t + 2) (by omega), e _ (by omega)]; exact b2 v t hv ht hq
  · rw [e _ (by omega)] at hq; rw [e _ (by omega), e 1 (by decide)]; exact b3 v hv hq
  · rw [e _ (by omega), e _ (by omega), e _ (by omega), e _ (by omega), e _ (by omega), e _ (by omega)]; exact b4 v u t hv hu ht
  · rw [e i b]; exact c1 i a b
  · rw [e _ (by omega)]; exact c2 v k a b c
  · rw [e 0 (by decide)]; exact c3
  · rw [e 1 (by decide)]; exact c4
  · rw [e 2 (by decide)]; exact c5
  · rw [e _ (by omega), e 1 (by decide)]; exact d2 v t hv ht
  · rw [e _ (by omega)]; exact d3 v hv
  · rw [e 1 (by decide)]; exact d4
  · rw [e j (by omega)]; exact hd j a b
  · rw [e _ (by omega)] at hq; rw [e _ (by omega)]; exact hg v t hv ht hq
theorem rG_le {V : Nat → Nat → Nat} {S : Nat → Nat} {N N' : Nat} (h : rG V S N) (hN : N ≤ N') : rG V S N' := ⟨rA_le h.1 hN, h.2⟩
def oT (w : WD) : Prop := w.1 7 0 1 = w.1 9 0 6 ∧ w.1 7 0 1 ≤ 60 ∧ w.1 7 1 = w.1 9 5 ∧ ∀ j, w.1 7 1 j < 65536
def RW (w : WD) (N : Nat) : Prop := HH w ∧ (∀ i j, i < 5 → j < 5 → w.2 i = w.2 j → i = j) ∧ w.1 8 0 1 = w.1 9 0 4 ∧ rG (w.1 0) (w.1 9 1) N ∧ (∀ i, i < w.1 8 0 1 → rG (w.1 (w.2 i)) (fun j => w.1 9 2 (813 * i + j)) N) ∧ oT w
theorem RW_le {w : WD} {N N' : Nat} (h : RW w N) (hN : N ≤ N') : RW w N' := ⟨h.1, h.2.1, h.2.2.1, rG_le h.2.2.2.1 hN, fun i hi => rG_le (h.2.2.2.2.1 i hi) hN, h.2.2.2.2.2⟩
/-- nothing is changed but what does not count -/
theorem RW_of {w w' : WD} {N : Nat} (h : RW w N) (hs : w'.2 = w.2) (h8 : w'.1 8 0 1 = w.1 8 0 1) (hv : ∀ o, o < 7 → o ≠ 1 → w'.1 o = w.1 o) (h94 : w'.1 9 0 4 = w.1 9 0 4) (h96 : w'.1 9 0 6 = w.1 9 0 6) (h91 : w'.1 9 1 = w.1 9 1) (h92 : w'.1 9 2 = w.1 9 2) (h95 : w'.1 9 5 = w.1 9 5) (h70 : w'.1 7 0 1 = w.1 7 0 1) (h71 : w'.1 7 1 = w.1 7 1) : RW w' N := by
  obtain ⟨a1, a2, a3, a4, a5, a6⟩ := h
  refine ⟨⟨by rw [h8]; exact a1.1, fun i hi => by rw [hs]; exact a1.2 i hi⟩, by rw [hs]; exact a2, by rw [h8, h94]; exact a3, by rw [hv 0 (by decide) (by decide), h91]; exact a4, fun i hi => ?_, ?_⟩
  · rw [h8] at hi
    have hi5 := a1.2 i (by have := a1.1; omega)
    rw [hs, hv _ hi5.2 (by omega), h92]
    exact a5 i hi
  · unfold oT
    rw [h70, h71, h96, h95]
    exact a6
theorem RW_1 {w : WD} {N : Nat} (h : RW w N) (U : Nat → Nat → Nat) : RW (wO w 1 U) N := RW_of h rfl (by rw [wO_n _ _ (by decide)]) (fun o ho h1 => wO_n _ _ h1) (by rw [wO_n _ _ (by decide)]) (by rw [wO_n _ _ (by decide)]) (by rw [wO_n _ _ (by decide)]) (by rw [wO_n _ _ (by decide)]) (by rw [wO_n _ _ (by decide)]) (by rw [wO_n _ _ (by decide)]) (by rw [wO_n _ _ (by decide)])
theorem RW_7 {w : WD} {N : Nat} (h : RW w N) (O : Nat → Nat → Nat) (h0 : O 0 1 = w.1 7 0 1) (h1 : O 1 = w.1 7 1) : RW (oW w O) N := RW_of h rfl (by unfold oW; rw [wO_n _ _ (by decide)]) (fun o ho _ => by unfold oW; rw [wO_n _ _ (by omega)]) (by unfold oW; rw [wO_n _ _ (by decide)]) (by unfold oW; rw [wO_n _ _ (by decide)]) (by unfold oW; rw [wO_n _ _ (by decide)]) (by unfold oW; rw [wO_n _ _ (by decide)]) (by unfold oW; rw [wO_n _ _ (by decide)]) (by rw [oW_7]; exact h0) (by rw [oW_7]; exact h1)
theorem mW_2 (w : WD) (V : Nat → Nat → Nat) (S : Nat → Nat) : (mW w V S).2 = w.2 := rfl
theorem RW_9 {w : WD} {N : Nat} (h : RW w N) {V1 : Nat → Nat → Nat} (hV : sV (w.1 9) V1) : RW (mW w V1 (w.1 9 1)) N := by
  obtain ⟨v2, v5, v4, v6⟩ := hV
  exact RW_of h rfl (by rw [mW_n _ _ _ (by decide)]) (fun o ho _ => mW_n _ _ _ (by omega)) (by rw [mW_V _ _ _ (by decide)]; exact v4) (by rw [mW_V _ _ _ (by decide)]; exact v6) (mW_S _ _ _) (by rw [mW_V _ _ _ (by decide)]; exact v2) (by rw [mW_V _ _ _ (by decide)]; exact v5) (by rw [mW_n _ _ _ (by decide)]) (by rw [mW_n _ _ _ (by decide)])
theorem hKa_n (w : WD) (k : Nat) (s : Nat → Nat) {a : Nat} (h : a ≠ 8) : (hK w k s).1 a = w.1 a := by
  funext b
  exact wA_n w _ (fun z => h z.1)
theorem hKa_8 (w : WD) (k : Nat) (s : Nat → Nat) : (hK w k s).1 8 0 1 = k := by
  unfold hK
  dsimp only
  rw [wA_s, upN_s]
theorem hKa_2 (w : WD) (k : Nat) (s : Nat → Nat) : (hK w k s).2 = s := rfl
/-- the world with the state prepared and a new village -/
theorem prep_at {w : WD} {N : Nat} (h : RW w N) (V' : Nat → Nat → Nat) : (∀ o, o ≠ 0 → o ≠ w.2 (w.1 8 0 1) → (wO (Prep w) 0 V').1 o = w.1 o) ∧ (∃ U, (wO (Prep w) 0 V').1 (w.2 (w.1 8 0 1)) = kCp U (w.1 0)) ∧ (wO (Prep w) 0 V').1 0 = V' ∧ (wO (Prep w) 0 V').2 = w.2 := by
  have hH := h.1
  refine ⟨fun o h0 hk => ?_, ⟨w.1 (w.2 (w.1 8 0 1)), ?_⟩, wO_s _ _ _, rfl⟩
  · rw [wO_n _ _ h0, wO_n _ _ hk]
  · rw [wO_n _ _ (Ne.symm hH.n), wO_s]
theorem RW_err {w : WD} {N N' : Nat} (h : RW w N) (hN : N ≤ N') {V' : Nat → Nat → Nat} {S' : Nat → Nat} (hG : rG V' S' N') {Q : Nat → Nat → Nat} (q2 : Q 2 = w.1 9 2) (q4 : Q 0 4 = w.1 9 0 4) (q5 : Q 5 = w.1 9 5) (q6 : Q 0 6 = w.1 9 0 6) : RW (mW (wO (Prep w) 0 V') Q S') N' := by
  obtain ⟨p1, p2, p3, p4⟩ := prep_at h V'
  obtain ⟨a1, a2, a3, a4, a5, a6⟩ := h
  have hs := a1.s
  have hn := a1.n
  have e8 : (mW (wO (Prep w) 0 V') Q S').1 8 = w.1 8 := by rw [mW_n _ _ _ (by decide), p1 8 (by decide) (by omega)]
  have e7 : (mW (wO (Prep w) 0 V') Q S').1 7 = w.1 7 := by rw [mW_n _ _ _ (by decide), p1 7 (by decide) (by omega)]
  have e9 : ∀ k, k ≠ 1 → (mW (wO (Prep w) 0 V') Q S').1 9 k = Q k := fun k x => by rw [mW_V _ _ _ x]
  refine ⟨⟨by rw [e8]; exact a1.1, fun i hi => by rw [mW_2, p4]; exact a1.2 i hi⟩, by rw [mW_2, p4]; exact a2, by rw [e8, e9 0 (by decide), q4]; exact a3, by rw [mW_n _ _ _ (by decide), p3, mW_S]; exact hG, fun i hi => ?_, ?_⟩
  · rw [e8] at hi
    have h4 := a1.1
    have hi5 := a1.2 i (by omega)
    have hne : w.2 i ≠ w.2 (w.1 8 0 1) := fun z => by
      have := a2 i _ (by omega) (by omega) z
      omega
    rw [mW_2, p4, mW_n _ _ _ (by omega), p1 _ (by omega) hne, e9 2 (by decide), q2]
    exact rG_le (a5 i hi) hN
  · unfold oT
    rw [e7, e9 0 (by decide), e9 5 (by decide), q6, q5]
    exact a6
theorem mPu_2 (V : Nat → Nat → Nat) (j : Nat) : mPu V 2 j = if 813 * V 0 4 ≤ j ∧ j < 813 * V 0 4 + 813 then V 3 (j - 813 * V 0 4) else V 2 j := by
  unfold mPu
  rw [vA_n _ _ (by decide), vA_s]
theorem mPu_0 (V : Nat → Nat → Nat) : mPu V 0 = upN (V 0) 4 (V 0 4 + 1) := by unfold mPu; rw [vA_s]
theorem mPu_n (V : Nat → Nat → Nat) {k : Nat} (h0 : k ≠ 0) (h2 : k ≠ 2) : mPu V k = V k := by unfold mPu; rw [vA_n _ _ h0, vA_n _ _ h2]
theorem mSh_2 (V : Nat → Nat → Nat) (j : Nat) : mSh V 2 j = if j < 2439 then V 2 (j + 813) else V 2 j := by
  unfold mSh
  rw [vA_n _ _ (by decide), vA_s]
  rfl
theorem mSh_0 (V : Nat → Nat → Nat) : mSh V 0 = upN (V 0) 4 3 := by unfold mSh; rw [vA_s]
theorem mSh_n (V : Nat → Nat → Nat) {k : Nat} (h0 : k ≠ 0) (h2 : k ≠ 2) : mSh V k = V k := by unfold mSh; rw [vA_n _ _ h0, vA_n _ _ h2]
theorem RW_keep {w : WD} {N N' : Nat} (h : RW w N) (hN : N ≤ N') {V' : Nat → Nat → Nat} {S' : Nat → Nat} (hG : rG V' S' N') {Q : Nat → Nat → Nat} (q2 : Q 2 = w.1 9 2) (q3 : Q 3 = w.1 9 1) (q4 : Q 0 4 = w.1 9 0 4) (q5 : Q 5 = w.1 9 5) (q6 : Q 0 6 = w.1 9 0 6) : RW (mW (hKeep (wO (Prep w) 0 V')) (mPush Q) S') N' := by
  obtain ⟨p1, ⟨U, p2⟩, p3, p4⟩ := prep_at h V'
  obtain ⟨a1, a2, a3, a4, a5, a6⟩ := h
  have hs := a1.s
  have hn := a1.n
  have h4 := a1.1
  generalize wO (Prep w) 0 V' = W0 at p1 p2 p3 p4 ⊢
  have w8 : W0.1 8 = w.1 8 := p1 8 (by decide) (by omega)
  have w7 : W0.1 7 = w.1 7 := p1 7 (by decide) (by omega)
  have w9 : W0.1 9 = w.1 9 := p1 9 (by decide) (by omega)
  have hcp : rG (kCp U (w.1 0)) (w.1 9 1) N' := rG_cp U (rG_le a4 hN)
  have hold : ∀ i, i < w.1 8 0 1 → rG (W0.1 (w.2 i)) (fun j => w.1 9 2 (813 * i + j)) N' := fun i hi => by
    have hi5 := a1.2 i (by omega)
    have hne : w.2 i ≠ w.2 (w.1 8 0 1) := fun z => by
      have := a2 i _ (by omega) (by omega) z
      omega
    rw [p1 _ (by omega) hne]
    exact rG_le (a5 i hi) hN
  have hq4 : Q 0 4 = w.1 8 0 1 := by rw [q4, a3]
  unfold hKeep mPush
  rw [w8, hq4, p4]
  by_cases hk : w.1 8 0 1 = 4
  · rw [if_pos hk, if_pos hk]
    rw [hk] at p2 hold hq4
    have r4 : rot w.2 4 = w.2 0 := rfl
    have rl : ∀ i, i < 4 → rot w.2 i = w.2 (i + 1) := fun i hi => by
      unfold rot
      rw [if_neg (by omega), if_pos hi]
    have rin : ∀ i, i < 5 → ∃ j, j < 5 ∧ rot w.2 i = w.2 j ∧ j = (i + 1) % 5 := fun i hi => by
      by_cases h4 : i = 4
      · subst h4; exact ⟨0, by decide, r4, rfl⟩
      · exact ⟨i + 1, by omega, rl i (by omega), by omega⟩
    have e3 : (mSh Q) 0 4 = 3 := by rw [mSh_0, upN_s]
    refine ⟨⟨?_, fun i hi => ?_⟩, fun i j hi hj e => ?_, ?_, ?_, fun i hi => ?_, ?_⟩
    · rw [mW_n _ _ _ (by decide), hKa_8]; exact Nat.le_refl _
    · rw [mW_2, hKa_2]
      obtain ⟨j, j1, j2, -⟩ := rin i hi
      rw [j2]; exact a1.2 j j1
    · rw [mW_2, hKa_2] at e
      obtain ⟨x, x1, x2, x3⟩ := rin i hi
      obtain ⟨y, y1, y2, y3⟩ := rin j hj
      rw [x2, y2] at e
      have := a2 x y x1 y1 e
      omega
    · rw [mW_n _ _ _ (by decide), hKa_8, mW_V _ _ _ (by decide), mPu_0, upN_s, e3]
    · rw [mW_n _ _ _ (by decide), hKa_n _ _ _ (by decide), p3, mW_S]; exact hG
    · rw [mW_n _ _ _ (by decide), hKa_8] at hi
      rw [mW_2, hKa_2, mW_V _ _ _ (by decide)]
      have hi5 := a1.2 (i + 1) (by omega)
      rw [rl i hi, mW_n _ _ _ (by omega), hKa_n _ _ _ (by omega)]
      by_cases hi3 : i = 3
      · subst hi3
        rw [p2]
        refine rG_c hcp (fun j hj => ?_)
        rw [mPu_2, e3, if_pos (by omega), mSh_n _ (by decide) (by decide), q3]
        rw [show 813 * 3 + j - 813 * 3 = j by omega]
      · refine rG_c (hold (i + 1) (by omega)) (fun j hj => ?_)
        rw [mPu_2, e3, if_neg (by omega), mSh_2, if_pos (by omega), q2]
        rw [show 813 * i + j + 813 = 813 * (i + 1) + j by omega]
    · unfold oT
      rw [mW_n _ _ _ (by decide), hKa_n _ _ _ (by decide), w7, mW_V _ _ _ (by decide), mW_V _ _ _ (by decide), mPu_0, upN_n _ _ (by decide), mSh_0, upN_n _ _ (by decide), q6, mPu_n _ (by decide) (by decide), mSh_n _ (by decide) (by decide), q5]
      exact a6
  · rw [if_neg hk, if_neg hk]
    refine ⟨⟨?_, fun i hi => ?_⟩, fun i j hi hj e => ?_, ?_, ?_, fun i hi => ?_, ?_⟩
    · rw [mW_n _ _ _ (by decide), hKa_8]; omega
    · rw [mW_2, hKa_2]; exact a1.2 i hi
    · rw [mW_2, hKa_2] at e; exact a2 i j hi hj e
    · rw [mW_n _ _ _ (by decide), hKa_8, mW_V _ _ _ (by decide), mPu_0, upN_s, hq4]
    · rw [mW_n _ _ _ (by decide), hKa_n _ _ _ (by decide), p3, mW_S]; exact hG
    · rw [mW_n _ _ _ (by decide), hKa_8] at hi
      rw [mW_2, hKa_2, mW_V _ _ _ (by decide)]
      have hi5 := a1.2 i (by omega)
      rw [mW_n _ _ _ (by omega), hKa_n _ _ _ (by omega)]
      by_cases hie : i = w.1 8 0 1
      · rw [hie, p2]
        refine rG_c hcp (fun j hj => ?_)
        rw [mPu_2, hq4, if_pos (by omega), q3]
        rw [show 813 * w.1 8 0 1 + j - 813 * w.1 8 0 1 = j by omega]
      · refine rG_c (hold i (by omega)) (fun j hj => ?_)
        rw [mPu_2, hq4, if_neg (by omega), q2]
    · unfold oT
      rw [mW_n _ _ _ (by decide), hKa_n _ _ _ (by decide), w7, mW_V _ _ _ (by decide), mW_V _ _ _ (by decide), mPu_0, upN_n _ _ (by decide), q6, mPu_n _ (by decide) (by decide), q5]
      exact a6
theorem Rec_9 {w : WD} {N : Nat} (h : RW w N) (V' : Nat → Nat → Nat) (r : Int32) : (Rec (wO (Prep w) 0 V') r).1 9 = w.1 9 := by
  obtain ⟨p1, -, -, -⟩ := prep_at h V'
  have hs := h.1.s
  unfold Rec hKeep
  (repeat' split)
  · exact p1 9 (by decide) (by omega)
  · rw [hKa_n _ _ _ (by decide)]; exact p1 9 (by decide) (by omega)
  · rw [hKa_n _ _ _ (by decide)]; exact p1 9 (by decide) (by omega)
theorem RW_rec {w : WD} {N N' : Nat} (h : RW w N) (hN : N ≤ N') {V' : Nat → Nat → Nat} {S' : Nat → Nat} (hG : rG V' S' N') {r : Int32} (hr : okR r) : RW (mW (Rec (wO (Prep w) 0 V') r) (mActed (vA (w.1 9) 3 (w.1 9 1)) r) S') N' := by
  unfold Rec mActed
  by_cases hl : r < 0
  · rw [if_pos hl, if_neg (hr.mp hl)]
    exact RW_err h hN hG (vA_n _ _ (by decide)) (by rw [vA_n _ _ (by decide)]) (vA_n _ _ (by decide)) (by rw [vA_n _ _ (by decide)])
  · rw [if_neg hl]
    have : -1000001 < r := by
      by_cases hx : -1000001 < r
      · exact hx
      · exact absurd (hr.mpr hx) hl
    rw [if_pos this]
    exact RW_keep h hN hG (vA_n _ _ (by decide)) (vA_s _ _ _) (by rw [vA_n _ _ (by decide)]) (vA_n _ _ (by decide)) (by rw [vA_n _ _ (by decide)])
theorem RW_rec2 {w : WD} {N N' : Nat} (h : RW w N) (hN : N ≤ N') {V' : Nat → Nat → Nat} {S' : Nat → Nat} (hG : rG V' S' N') {r : Int32} {Q : Nat → Nat → Nat} (hlt : r < 0 → Q = w.1 9) (hge : ¬ r < 0 → Q = mPush (vA (w.1 9) 3 (w.1 9 1))) : RW (mW (Rec (wO (Prep w) 0 V') r) Q S') N' := by
  unfold Rec
  by_cases hl : r < 0
  · rw [if_pos hl, hlt hl]
    exact RW_err h hN hG rfl rfl rfl rfl
  · rw [if_neg hl, hge hl]
    exact RW_keep h hN hG (vA_n _ _ (by decide)) (vA_s _ _ _) (by rw [vA_n _ _ (by decide)]) (vA_n _ _ (by decide)) (by rw [vA_n _ _ (by decide)])
