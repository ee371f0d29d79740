/-- the tombs that are over, dropped below a place -/
def pD (V : Nat → Nat → Nat) (a n : Nat) : Nat → Nat → Nat := fun b j => if j < n ∧ kPb V j a = true then (if b = 5 then 0 else if b = 10 then mx (V 10 j) (V 5 j) else V b j) else V b j
theorem kPb_iff (V : Nat → Nat → Nat) (p a : Nat) : kPb V p a = true ↔ (V 5 p ≠ 0 ∧ V 6 p = 3 ∧ (V 9 p &&& a = a ∨ V 0 2 ≤ V 0 1 - V 8 p)) := by
  unfold kPb kTmb kOver
  rw [Bool.and_eq_true, decide_eq_true_eq, decide_eq_true_eq]
  exact ⟨fun z => ⟨z.1.1, z.1.2, z.2⟩, fun z => ⟨⟨z.1, z.2.1⟩, z.2.2⟩⟩
theorem kPb_c {V V' : Nat → Nat → Nat} {p : Nat} (a : Nat) (h5 : V' 5 p = V 5 p) (h6 : V' 6 p = V 6 p) (h8 : V' 8 p = V 8 p) (h9 : V' 9 p = V 9 p) (h1 : V' 0 1 = V 0 1) (h2 : V' 0 2 = V 0 2) : kPb V' p a = kPb V p a := by
  unfold kPb kTmb kOver
  rw [h5, h6, h8, h9, h1, h2]
theorem pD_o {V : Nat → Nat → Nat} {a n j : Nat} (b : Nat) (h : n ≤ j) : pD V a n b j = V b j := if_neg (fun z => by omega)
theorem pD_n {V : Nat → Nat → Nat} {a n j : Nat} (b : Nat) (h : ¬ kPb V j a = true) : pD V a n b j = V b j := if_neg (fun z => h z.2)
theorem pD_b {V : Nat → Nat → Nat} {a n : Nat} {b : Nat} (h5 : b ≠ 5) (h10 : b ≠ 10) : pD V a n b = V b := by
  funext j
  unfold pD
  rw [if_neg h5, if_neg h10, ite_self]
theorem pD_5 {V : Nat → Nat → Nat} {a n j : Nat} (h : j < n) (hk : kPb V j a = true) : pD V a n 5 j = 0 := by
  unfold pD; rw [if_pos ⟨h, hk⟩, if_pos rfl]
theorem pD_10 {V : Nat → Nat → Nat} {a n j : Nat} (h : j < n) (hk : kPb V j a = true) : pD V a n 10 j = mx (V 10 j) (V 5 j) := by
  unfold pD; rw [if_pos ⟨h, hk⟩, if_neg (by decide), if_pos rfl]
theorem pD_s (V : Nat → Nat → Nat) (a q : Nat) : kPb (pD V a q) q a = kPb V q a ∧ kPs (pD V a q) q a = pD V a (q + 1) := by
  have e : kPb (pD V a q) q a = kPb V q a := kPb_c a (pD_o _ (Nat.le_refl _)) (pD_o _ (Nat.le_refl _)) (pD_o _ (Nat.le_refl _)) (pD_o _ (Nat.le_refl _)) (by rw [pD_b (by decide) (by decide)]) (by rw [pD_b (by decide) (by decide)])
  refine ⟨e, ?_⟩
  unfold kPs
  rw [e, pD_o 10 (Nat.le_refl _), pD_o 5 (Nat.le_refl _)]
  by_cases hk : kPb V q a = true
  · rw [if_pos hk]
    funext b j
    rw [vU_at, vU_at]
    by_cases hj : j = q
    · subst hj
      by_cases h5 : b = 5
      · subst h5
        rw [if_pos rfl, if_pos rfl, pD_5 (Nat.lt_succ_self _) hk]
      · rw [if_neg h5]
        by_cases h10 : b = 10
        · subst h10
          rw [if_pos rfl, if_pos rfl, pD_10 (Nat.lt_succ_self _) hk]
        · rw [if_neg h10, pD_b h5 h10, pD_b h5 h10]
    · rw [if_neg hj, if_neg hj, ite_self, ite_self]
      unfold pD
      by_cases hc : j < q ∧ kPb V j a = true
      · rw [if_pos hc, if_pos (show j < q + 1 ∧ kPb V j a = true from ⟨by omega, hc.2⟩)]
      · rw [if_neg hc, if_neg (fun z => hc ⟨by omega, z.2⟩)]
  · rw [if_neg hk]
    funext b j
    unfold pD
    by_cases hc : j < q ∧ kPb V j a = true
    · rw [if_pos hc, if_pos (show j < q + 1 ∧ kPb V j a = true from ⟨by omega, hc.2⟩)]
    · rw [if_neg hc, if_neg (fun z => hc ⟨by
        have := z.1
        rcases Nat.lt_or_ge j q with h | h
        · exact h
        · exact absurd (by rw [← show j = q by omega]; exact z.2) hk, z.2⟩)]
theorem kPt_pD (V : Nat → Nat → Nat) (v a : Nat) : ∀ t, (kPt (pD V a (v * 12)) v a t).1 = pD V a (v * 12 + t) ∧ cnt (fun p => kPb V p a) (v * 12) + (kPt (pD V a (v * 12)) v a t).2 = cnt (fun p => kPb V p a) (v * 12 + t)
  | 0 => ⟨rfl, rfl⟩
  | t + 1 => by
    obtain ⟨h1, h2⟩ := kPt_pD V v a t
    obtain ⟨e1, e2⟩ := pD_s V a (v * 12 + t)
    rw [kPt_s]
    dsimp only
    rw [h1, e1, e2, ← Nat.add_assoc (v * 12) t 1, cnt_s, ← h2]
    exact ⟨rfl, (Nat.add_assoc _ _ _).symm⟩
theorem pD_z (V : Nat → Nat → Nat) (a : Nat) : pD V a 0 = V := by
  funext b j
  exact pD_o b (Nat.zero_le _)
theorem kPv_pD (V : Nat → Nat → Nat) (a : Nat) : ∀ v, (kPv V a v).1 = pD V a (v * 12) ∧ (kPv V a v).2 = cnt (fun p => kPb V p a) (v * 12)
  | 0 => ⟨(pD_z V a).symm, rfl⟩
  | v + 1 => by
    obtain ⟨h1, h2⟩ := kPv_pD V a v
    obtain ⟨e1, e2⟩ := kPt_pD V v a 12
    rw [kPv_s]
    dsimp only
    unfold kPr
    rw [h1, h2, e1, e2, show (v + 1) * 12 = v * 12 + 12 by omega]
    exact ⟨rfl, rfl⟩
theorem cnt_add3 {p q r : Nat → Bool} : ∀ n, (∀ i, i < n → ((if p i = true then 1 else 0) + (if q i = true then 1 else 0) : Nat) = if r i = true then 1 else 0) → cnt p n + cnt q n = cnt r n
  | 0, _ => rfl
  | n + 1, h => by
    have h1 := cnt_add3 n (fun i hi => h i (by omega))
    have h2 := h n (by omega)
    rw [cnt_s, cnt_s, cnt_s, ← h1, ← h2]
    omega
theorem kPass_d (V : Nat → Nat → Nat) (k : Nat) : (kPass V k).1 = pD (vU V 0 1 (V 0 1 + k)) (kPres V) (V 0 0 * 12) ∧ (kPass V k).2 = cnt (fun p => kPb (vU V 0 1 (V 0 1 + k)) p (kPres V)) (V 0 0 * 12) := by
  unfold kPass
  have e : kPres (vU V 0 1 (V 0 1 + k)) = kPres V := rfl
  rw [e]
  exact kPv_pD _ _ _
/-- one look behind all ticks is as one behind each -/
theorem kPass_s (V : Nat → Nat → Nat) (k : Nat) : (kPass (kPass V k).1 1).1 = (kPass V (k + 1)).1 ∧ (kPass V k).2 + (kPass (kPass V k).1 1).2 = (kPass V (k + 1)).2 := by
  obtain ⟨u1, u2⟩ := kPass_d V k
  obtain ⟨w1, w2⟩ := kPass_d V (k + 1)
  obtain ⟨x1, x2⟩ := kPass_d (kPass V k).1 1
  rw [x1, x2, w1, w2, u2]
  rw [u1]
  have c0 : pD (vU V 0 1 (V 0 1 + k)) (kPres V) (V 0 0 * 12) 0 = upN (V 0) 1 (V 0 1 + k) := by rw [pD_b (by decide) (by decide)]; rfl
  have c1 : pD (vU V 0 1 (V 0 1 + k)) (kPres V) (V 0 0 * 12) 1 = V 1 := by rw [pD_b (by decide) (by decide)]; rfl
  have c00 : pD (vU V 0 1 (V 0 1 + k)) (kPres V) (V 0 0 * 12) 0 0 = V 0 0 := by rw [c0]; rfl
  have c01 : pD (vU V 0 1 (V 0 1 + k)) (kPres V) (V 0 0 * 12) 0 1 = V 0 1 + k := by rw [c0]; rfl
  have cp0 : ∀ X : Nat → Nat → Nat, X 0 0 = V 0 0 → X 1 = V 1 → kPres X = kPres V := fun X x0 x1 => by unfold kPres; rw [x0, x1]
  have cp : kPres (pD (vU V 0 1 (V 0 1 + k)) (kPres V) (V 0 0 * 12)) = kPres V := cp0 _ c00 c1
  rw [cp, c00, c01, Nat.add_assoc]
  generalize hA : vU V 0 1 (V 0 1 + k) = A
  generalize hB : vU V 0 1 (V 0 1 + (k + 1)) = B
  generalize ha : kPres V = a
  generalize V 0 0 * 12 = n
  have hAb : ∀ b, b ≠ 0 → A b = V b := fun b hb => by rw [← hA, vU_n _ _ _ hb]
  have hBb : ∀ b, b ≠ 0 → B b = V b := fun b hb => by rw [← hB, vU_n _ _ _ hb]
  have hA1 : A 0 1 = V 0 1 + k := by rw [← hA]; rfl
  have hB1 : B 0 1 = V 0 1 + (k + 1) := by rw [← hB]; rfl
  have hA2 : A 0 2 = V 0 2 := by rw [← hA]; rfl
  have hB2 : B 0 2 = V 0 2 := by rw [← hB]; rfl
  have hAi : ∀ i, i ≠ 1 → A 0 i = B 0 i := fun i hi => by
    rw [← hA, ← hB]
    show upN (V 0) 1 _ i = upN (V 0) 1 _ i
    rw [upN_n _ _ hi, upN_n _ _ hi]
  have mono : ∀ j, kPb A j a = true → kPb B j a = true := fun j hj => by
    rw [kPb_iff] at hj ⊢
    rw [hAb 5 (by decide), hAb 6 (by decide), hAb 8 (by decide), hAb 9 (by decide), hA1, hA2] at hj
    rw [hBb 5 (by decide), hBb 6 (by decide), hBb 8 (by decide), hBb 9 (by decide), hB1, hB2]
    refine ⟨hj.1, hj.2.1, ?_⟩
    rcases hj.2.2 with h | h
    · exact Or.inl h
    · exact Or.inr (by omega)
  generalize hC : vU (pD A a n) 0 1 (V 0 1 + (k + 1)) = C
  have hCb : ∀ b, b ≠ 0 → C b = pD A a n b := fun b hb => by rw [← hC, vU_n _ _ _ hb]
  have hC0 : C 0 = B 0 := by
    funext i
    by_cases hi : i = 1
    · subst hi; rw [← hC, ← hB]; rfl
    · rw [← hC, ← hAi i hi]
      show upN (pD A a n 0) 1 _ i = _
      rw [upN_n _ _ hi, pD_b (by decide) (by decide)]
  have dropped : ∀ j, j < n → kPb A j a = true → ¬ kPb C j a = true := fun j hj hk z => by
    rw [kPb_iff, hCb 5 (by decide), pD_5 hj hk] at z
    exact z.1 rfl
  have kept : ∀ j, ¬ kPb A j a = true → kPb C j a = kPb B j a := fun j hk => by
    refine kPb_c a ?_ ?_ ?_ ?_ (by rw [hC0]) (by rw [hC0]) <;> rw [hCb _ (by decide), pD_n _ hk, hAb _ (by decide), hBb _ (by decide)]
  refine ⟨?_, ?_⟩
  · funext b j
    by_cases hj : j < n
    · by_cases hk : kPb A j a = true
      · rw [pD_n b (dropped j hj hk)]
        by_cases h5 : b = 5
        · subst h5
          rw [hCb 5 (by decide), pD_5 hj hk, pD_5 hj (mono j hk)]
        · by_cases h10 : b = 10
          · subst h10
            rw [hCb 10 (by decide), pD_10 hj hk, pD_10 hj (mono j hk), hAb 10 (by decide), hAb 5 (by decide), hBb 10 (by decide), hBb 5 (by decide)]
          · rw [pD_b h5 h10]
            by_cases h0 : b = 0
            · subst h0; rw [hC0]
            · rw [hCb b h0, pD_b h5 h10, hAb b h0, hBb b h0]
      · have ek := kept j hk
        have eb : ∀ b, C b j = B b j := fun b => by
          by_cases h0 : b = 0
          · subst h0; rw [hC0]
          · rw [hCb b h0, pD_n b hk, hAb b h0, hBb b h0]
        unfold pD
        rw [ek, eb, eb, eb]
    · rw [pD_o b (by omega), pD_o b (by omega)]
      by_cases h0 : b = 0
      · subst h0; rw [hC0]
      · rw [hCb b h0, pD_o b (by omega), hAb b h0, hBb b h0]
  · refine cnt_add3 n (fun j hj => ?_)
    by_cases hk : kPb A j a = true
    · rw [if_pos hk, if_neg (dropped j hj hk), if_pos (mono j hk)]
    · rw [if_neg hk, kept j hk, Nat.zero_add]
theorem mTickI_s (S : Nat → Nat) (k : Nat) : mTickI S (k + 1) = ((mTick1 (mTickI S k).1).1, (mTickI S k).2 + (mTick1 (mTickI S k).1).2) := rfl
theorem sim_pass {V : Nat → Nat → Nat} {S : Nat → Nat} (h : rV V S) (hs : sI S) (hg : gI S) (h7 : S 0 ≤ 7) : ∀ k, rV (kPass V (k + 1)).1 (mTickI S (k + 1)).1 ∧ sI (mTickI S (k + 1)).1 ∧ gI (mTickI S (k + 1)).1 ∧ (kPass V (k + 1)).2 = (mTickI S (k + 1)).2
  | 0 => by
    obtain ⟨h1, h2, h3, h4⟩ := sim_p1 h hs hg h7
    rw [mTickI_s]
    refine ⟨h1, h2, h3, ?_⟩
    rw [h4]
    show _ = 0 + _
    rw [Nat.zero_add]
    rfl
  | k + 1 => by
    obtain ⟨h1, h2, h3, h4⟩ := sim_pass h hs hg h7 k
    have e0 := (mTickI_t h7 (k + 1)).2
    obtain ⟨q1, q2, q3, q4⟩ := sim_p1 h1 h2 h3 (by rw [e0]; exact h7)
    obtain ⟨p1, p2⟩ := kPass_s V (k + 1)
    rw [mTickI_s, ← p1, ← p2]
    exact ⟨q1, q2, q3, by rw [h4, q4]⟩
theorem gI_of {S S' : Nat → Nat} (hg : gI S) (h : ∀ v t, v < 7 → t < 12 → S' (5 + 4 * v + 0) = 2 → S' (225 + 84 * v + 7 * t + 0) = 0 ∨ (S (5 + 4 * v + 0) = 2 ∧ S' (225 + 84 * v + 7 * t + 0) = S (225 + 84 * v + 7 * t + 0))) : gI S' := by
  intro v t hv ht hq
  rcases h v t hv ht hq with e | ⟨e1, e2⟩
  · exact e
  · rw [e2]; exact hg v t hv ht e1
theorem gI_sl {S : Nat → Nat} (hg : gI S) (h7 : S 0 ≤ 7) (v : Int32) : gI (mSleeps S v).1 := by
  unfold mSleeps
  split
  · rename_i hv
    obtain ⟨i, hi, rfl⟩ := hasN_of (by omega) hv
    rw [ix_nI (by omega)]
    split
    · refine gI_of hg (fun u t hu ht hq => Or.inr ?_)
      dsimp only at hq ⊢
      rw [upN_n _ _ (by omega)] at hq
      rw [upN_n _ _ (by omega), upN_n _ _ (by omega)]
      by_cases hui : u = i
      · subst hui; rw [upN_s] at hq; omega
      · rw [upN_n _ _ (by omega)] at hq
        exact ⟨hq, rfl⟩
    · exact hg
  · exact hg
theorem gI_wk {S : Nat → Nat} (hg : gI S) (h7 : S 0 ≤ 7) (v : Int32) : gI (mWakes S v).1 := by
  unfold mWakes
  split
  · rename_i hv
    obtain ⟨i, hi, rfl⟩ := hasN_of (by omega) hv
    rw [ix_nI (by omega)]
    split
    · refine gI_of hg (fun u t hu ht hq => Or.inr ?_)
      dsimp only at hq ⊢
      rw [upN_n _ _ (by omega)]
      by_cases hui : u = i
      · subst hui; rw [upN_s] at hq; omega
      · rw [upN_n _ _ (by omega)] at hq
        exact ⟨hq, rfl⟩
    · exact hg
  · exact hg
theorem gI_cw {S : Nat → Nat} (hg : gI S) (v : Int32) : gI (mCw S v).1 := by
  unfold mCw
  split
  · refine gI_of hg (fun u t hu ht hq => Or.inr ?_)
    dsimp only at hq ⊢
    rw [upN_n _ _ (by omega)] at hq ⊢
    exact ⟨hq, rfl⟩
  · exact hg
theorem gI_add {S : Nat → Nat} (hg : gI S) (hs : sI S) (h7 : S 0 ≤ 7) : gI (mAdd S).1 := by
  unfold mAdd
  split
  · exact hg
  · unfold mNew
    rw [zS_id hs (by omega)]
    refine gI_of hg (fun u t hu ht hq => Or.inr ?_)
    dsimp only at hq ⊢
    rw [upN_n _ _ (by omega)] at hq ⊢
    exact ⟨hq, rfl⟩
theorem gI_mk {S : Nat → Nat} (hg : gI S) {i t a b c : Nat} (hi : i < 7) (ht : t < 12) (hz : S (5 + 4 * i + 0) = 0) : gI (mMake S i t a b c) := by
  refine gI_of hg (fun u t' hu ht' hq => Or.inr ?_)
  rw [mMake_n S (by omega) (Or.inl (by omega))] at hq
  refine ⟨hq, ?_⟩
  have hui : u ≠ i := fun z => by subst z; omega
  exact mMake_n S (by omega) (by omega)
theorem gI_mr {S : Nat → Nat} (hg : gI S) (h7 : S 0 ≤ 7) (v t a k : Int32) : gI (mTells S v t a k).1 := by
  unfold mTells
  split
  · rename_i hc
    obtain ⟨hv, ht, ha, hk⟩ := hc
    obtain ⟨i, hi, rfl⟩ := hasN_of (by omega) hv
    obtain ⟨j, hj, rfl⟩ := hasN_of (by decide) ht
    rw [ix_nI (by omega), ix_nI (by omega)]
    split
    · rename_i hz
      exact gI_mk hg (by omega) hj hz
    · exact hg
  · exact hg
theorem gI_mt {S : Nat → Nat} (hg : gI S) (h7 : S 0 ≤ 7) (v t : Int32) : gI (mBuries S v t).1 := by
  unfold mBuries
  split
  · rename_i hc
    obtain ⟨hv, ht⟩ := hc
    obtain ⟨i, hi, rfl⟩ := hasN_of (by omega) hv
    obtain ⟨j, hj, rfl⟩ := hasN_of (by decide) ht
    rw [ix_nI (by omega), ix_nI (by omega)]
    split
    · rename_i hz
      refine gI_of (gI_mk (a := 2) (b := 0) (c := 0) hg (show i < 7 by omega) hj hz.1) (fun u t' hu ht' hq => Or.inr ?_)
      dsimp only at hq ⊢
      rw [mBury_n S hj (by omega) (by omega)] at hq ⊢
      exact ⟨hq, rfl⟩
    · exact hg
  · exact hg
theorem mPs_e (S : Nat → Nat) {f p t j : Nat} (hp : p < 7) (h : 225 ≤ j) (h2 : j < 225 + 84 * p + 7 * t ∨ 225 + 84 * p + 7 * t + 7 ≤ j) : mPs S f p t j = S j := by
  unfold mPs
  split
  · rw [cpE_out _ h2]
    exact gS_n S (f := f) (t := t) (by omega) (by omega)
  · rfl
theorem mMt_e (S : Nat → Nat) {o p u t' k : Nat} (ho : o < 7) (hp : p < 7) (huo : u ≠ o) (hup : u ≠ p) (ht' : t' < 12) (hk : k < 7) : ∀ t, t ≤ 12 → (mMt S o p t).1 (225 + 84 * u + 7 * t' + k) = S (225 + 84 * u + 7 * t' + k)
  | 0, _ => rfl
  | t + 1, ht => by
    have ih := mMt_e S ho hp huo hup ht' hk t (by omega)
    rw [mMt_s]
    dsimp only
    rw [← ih]
    generalize (mMt S o p t).1 = U
    have e1 : ∀ W : Nat → Nat, mSee W o p t (225 + 84 * u + 7 * t' + k) = W (225 + 84 * u + 7 * t' + k) := fun W => by
      unfold mSee
      split
      · rw [upN_n _ _ (by omega), upN_n _ _ (by omega)]
      · rfl
    rw [e1]
    unfold mP2s
    split
    · exact mPs_e U hp (by omega) (by omega)
    · exact mPs_e U ho (by omega) (by omega)
theorem gI_meet1 {S : Nat → Nat} (hg : gI S) {o p : Nat} (ho : o < 7) (hp : p < 7) (h1 : S (5 + 4 * o + 0) ≠ 2) (h2 : S (5 + 4 * p + 0) ≠ 2) : gI (mMeet S o p).1 := by
  refine gI_of hg (fun u t hu ht hq => Or.inr ?_)
  rw [mMeet_lo S ho hp (by omega) (by omega) (by omega)] at hq
  refine ⟨hq, ?_⟩
  have huo : u ≠ o := fun z => by subst z; omega
  have hup : u ≠ p := fun z => by subst z; omega
  unfold mMeet
  rw [mMt_e _ ho hp huo hup ht (by decide) 12 (Nat.le_refl _)]
  unfold mMeet0
  rw [upN_n _ _ (by omega), upN_n _ _ (by omega)]
theorem gI_meet {S : Nat → Nat} (hg : gI S) (h7 : S 0 ≤ 7) (v u : Int32) : gI (mMeets1 S v u).1 := by
  unfold mMeets1
  by_cases hc : hasN (S 0) v = true ∧ hasN (S 0) u = true ∧ v ≠ u
  · rw [if_pos hc]
    obtain ⟨hv, hu, hne⟩ := hc
    obtain ⟨i, hi, rfl⟩ := hasN_of (by omega) hv
    obtain ⟨j, hj, rfl⟩ := hasN_of (by omega) hu
    rw [ix_nI (by omega), ix_nI (by omega)]
    by_cases hz : S (5 + 4 * i + 0) = 0 ∧ S (5 + 4 * j + 0) = 0
    · rw [if_pos hz]
      dsimp only
      exact gI_meet1 hg (by omega) (by omega) (by omega) (by omega)
    · rw [if_neg hz]
      exact hg
  · rw [if_neg hc]
    exact hg
theorem gI_lv {S : Nat → Nat} (hg : gI S) (h7 : S 0 ≤ 7) (v : Int32) : gI (mLvP S v).1 := by
  unfold mLvP mLeaveS
  dsimp only
  split
  · rename_i hv
    obtain ⟨i, hi, rfl⟩ := hasN_of (by omega) hv
    rw [ix_nI (by omega)]
    split
    · exact hg
    · refine gI_of hg (fun u t hu ht hq => ?_)
      have lo : ∀ j, j < 225 → mLv S i j = upN S (5 + 4 * i + 0) 2 j := fun j hj => zE_n _ (Or.inl (by omega))
      by_cases hui : u = i
      · subst hui
        exact Or.inl (zE_z _ ht)
      · rw [lo _ (by omega), upN_n _ _ (by omega)] at hq
        refine Or.inr ⟨hq, ?_⟩
        unfold mLv
        rw [zE_n _ (by omega), upN_n _ _ (by omega)]
  · exact hg
/-- in step, and who is gone has nothing -/
def rG (V : Nat → Nat → Nat) (S : Nat → Nat) (N : Nat) : Prop := rA V S N ∧ gI S
theorem jV_pass {V : Nat → Nat → Nat} (h : jV V) (k : Nat) : jV (kPass V k).1 := by
  rw [(kPass_d V k).1]
  intro p hp
  rw [pD_b (by decide) (by decide), pD_b (by decide) (by decide), pD_b (by decide) (by decide), pD_b (by decide) (by decide), pD_b (by decide) (by decide)]
  obtain ⟨h1, h2, h3, h4⟩ := h p hp
  refine ⟨h1, h2, ?_, h4⟩
  show V 8 p ≤ V 0 1 + k
  omega
theorem rG_tick {V : Nat → Nat → Nat} {S : Nat → Nat} {N : Nat} (h : rG V S N) (v : Int32) : rG (kTick V v).1 (mTicks S v).1 N ∧ (kTick V v).2 = (mTicks S v).2 := by
  obtain ⟨⟨hr, hs, hI, hj, hd⟩, hg⟩ := h
  have h7 := hI.1.2.2.1
  have hmI := mI_Ticks hI v
  unfold mTicks at hmI
  unfold kTick mTicks
  rw [hr.1.2.1]
  by_cases hv : inN 1 60 v = true
  · rw [if_pos hv] at hmI
    rw [if_pos hv, if_pos hv]
    obtain ⟨k, hk1, hk, rfl⟩ := inN_of (by decide) hv
    rw [ix_nI (by omega)] at hmI ⊢
    by_cases hl : 100000 < S 1 + k
    · rw [if_pos hl, if_pos hl]
      exact ⟨⟨⟨hr, hs, hI, hj, hd⟩, hg⟩, rfl⟩
    · rw [if_neg hl] at hmI
      rw [if_neg hl, if_neg hl]
      obtain ⟨m, rfl⟩ : ∃ m, k = m + 1 := ⟨k - 1, by omega⟩
      obtain ⟨q1, q2, q3, q4⟩ := sim_pass hr hs hg h7 m
      refine ⟨⟨⟨q1, q2, hmI, jV_pass hj _, fun j a b => ?_⟩, q3⟩, congrArg nI q4⟩
      dsimp only at q1 ⊢
      by_cases h57 : j < 57
      · rw [mTickI_lo h7 h57 (by omega)]; exact hd j a b
      · obtain ⟨u, t, e, hu, ht, he⟩ : ∃ u t e, u < 7 ∧ t < 12 ∧ j = 57 + 24 * u + 2 * t + e ∧ e < 2 := ⟨(j - 57) / 24, (j - 57) % 24 / 2, (j - 57) % 2, by omega, by omega, by omega, by omega⟩
        have w1 := q1.2.2.2.1 u t hu ht
        have w2 := hr.2.2.2.1 u t hu ht
        have d1 := hd (57 + 24 * u + 2 * t) (by omega) (by omega)
        have hv5 : V 5 (u * 12 + t) ≤ 8 * N + 6 := by
          have hv2 := hs.2.1 u t hu ht
          rcases hr.2.2.1 u t hu ht with h1 | h1 | h1
          · omega
          · have := hI.2.2.1 _ h1.2.2.2.1
            have := hv2 (by omega)
            omega
          · have := hI.2.2.1 _ h1.2.2.2.1
            have := hv2 (by omega)
            omega
        have hD : (kPass V (m + 1)).1 10 (u * 12 + t) = V 10 (u * 12 + t) ∨ (kPass V (m + 1)).1 10 (u * 12 + t) = mx (V 10 (u * 12 + t)) (V 5 (u * 12 + t)) := by
          rw [(kPass_d V (m + 1)).1]
          unfold pD
          split
          · exact Or.inr rfl
          · exact Or.inl rfl
        unfold mx at hD
        obtain ⟨he1, he2⟩ := he
        have : (kPass V (m + 1)).1 10 (u * 12 + t) ≤ 8 * (N + 7) + 6 := by
          rcases hD with hD | hD
          · omega
          · split at hD <;> omega
        rcases (show e = 0 ∨ e = 1 by omega) with rfl | rfl
        · rw [he1]
          show (mTickI S (m + 1)).1 (57 + 24 * u + 2 * t) ≤ N + 7
          omega
        · rw [he1]; omega
  · rw [if_neg hv, if_neg hv]
    exact ⟨⟨⟨hr, hs, hI, hj, hd⟩, hg⟩, rfl⟩
