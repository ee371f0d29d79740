/-! ticks -/
theorem Pb_eq {V W : Nat → Nat → Nat} {p a : Nat} (h0 : W 0 = V 0) (h5 : W 5 p = V 5 p) (h6 : W 6 = V 6) (h8 : W 8 = V 8) (h9 : W 9 = V 9) : kPb W p a = kPb V p a := by
  unfold kPb kTmb kOver
  rw [h0, h5, h6, h8, h9]
theorem Ps_n (V : Nat → Nat → Nat) (p a : Nat) {k : Nat} (h5 : k ≠ 5) (h10 : k ≠ 10) : kPs V p a k = V k := by
  unfold kPs
  split
  · rw [vU_n _ _ _ h5, vU_n _ _ _ h10]
  · rfl
theorem Ps_5 (V : Nat → Nat → Nat) (p a j : Nat) : kPs V p a 5 j = if j = p ∧ kPb V p a = true then 0 else V 5 j := by
  unfold kPs
  by_cases h : kPb V p a = true
  · rw [if_pos h, vUe, vU_n _ _ _ (by decide)]
    by_cases hq : j = p
    · rw [if_pos hq, if_pos ⟨hq, h⟩]
    · rw [if_neg hq, if_neg (fun z => hq z.1)]
  · rw [if_neg h, if_neg (fun z => h z.2)]
theorem Ps_10 (V : Nat → Nat → Nat) (p a j : Nat) : kPs V p a 10 j = V 10 j ∨ (j = p ∧ kPs V p a 10 j = mx (V 10 j) (V 5 j)) := by
  unfold kPs
  by_cases h : kPb V p a = true
  · rw [if_pos h, vU_n _ _ _ (by decide), vUe]
    by_cases hq : j = p
    · subst hq; rw [if_pos rfl]; exact Or.inr ⟨rfl, rfl⟩
    · rw [if_neg hq]; exact Or.inl rfl
  · rw [if_neg h]; exact Or.inl rfl
theorem Pt_spec (V : Nat → Nat → Nat) (v a : Nat) : ∀ t, t ≤ 12 → (∀ k, k ≠ 5 → k ≠ 10 → (kPt V v a t).1 k = V k) ∧ (∀ j, ¬ (v * 12 ≤ j ∧ j < v * 12 + t) → (kPt V v a t).1 5 j = V 5 j ∧ (kPt V v a t).1 10 j = V 10 j) ∧ (∀ j, v * 12 ≤ j → j < v * 12 + t → (kPt V v a t).1 5 j = if kPb V j a = true then 0 else V 5 j) ∧ (∀ j, (kPt V v a t).1 10 j ≤ mx (V 10 j) (V 5 j)) ∧ (kPt V v a t).2 = cnt (fun s => kPb V (v * 12 + s) a) t
  | 0, _ => ⟨fun _ _ _ => rfl, fun _ _ => ⟨rfl, rfl⟩, fun j h1 h2 => absurd h2 (by omega), fun j => by show V 10 j ≤ _; unfold mx; split <;> omega, rfl⟩
  | t + 1, ht => by
    obtain ⟨i1, i2, i3, i4, i5⟩ := Pt_spec V v a t (by omega)
    rw [kPt_s]
    dsimp only
    have g := i2 (v * 12 + t) (by omega)
    have eP : kPb (kPt V v a t).1 (v * 12 + t) a = kPb V (v * 12 + t) a := Pb_eq (i1 0 (by decide) (by decide)) g.1 (i1 6 (by decide) (by decide)) (i1 8 (by decide) (by decide)) (i1 9 (by decide) (by decide))
    refine ⟨fun k h5 h10 => by rw [Ps_n _ _ _ h5 h10]; exact i1 k h5 h10, fun j hj => ?_, fun j h1 h2 => ?_, fun j => ?_, ?_⟩
    · have := i2 j (by omega)
      refine ⟨by rw [Ps_5, if_neg (fun z => by omega)]; exact this.1, ?_⟩
      rcases Ps_10 (kPt V v a t).1 (v * 12 + t) a j with e | e
      · rw [e]; exact this.2
      · omega
    · rw [Ps_5, eP]
      by_cases hq : j = v * 12 + t
      · subst hq
        by_cases hb : kPb V (v * 12 + t) a = true
        · rw [if_pos ⟨rfl, hb⟩, if_pos hb]
        · rw [if_neg (fun z => hb z.2), if_neg hb]; exact g.1
      · rw [if_neg (fun z => hq z.1)]
        exact i3 j h1 (by omega)
    · rcases Ps_10 (kPt V v a t).1 (v * 12 + t) a j with e | e
      · rw [e]; exact i4 j
      · rw [e.2, e.1, g.1, g.2]
        exact Nat.le_refl _
    · rw [eP, i5]
      rfl
theorem Pv_spec (V : Nat → Nat → Nat) (a : Nat) : ∀ v, v ≤ 7 → (∀ k, k ≠ 5 → k ≠ 10 → (kPv V a v).1 k = V k) ∧ (∀ j, v * 12 ≤ j → (kPv V a v).1 5 j = V 5 j ∧ (kPv V a v).1 10 j = V 10 j) ∧ (∀ j, j < v * 12 → (kPv V a v).1 5 j = if kPb V j a = true then 0 else V 5 j) ∧ (∀ j, (kPv V a v).1 10 j ≤ mx (V 10 j) (V 5 j)) ∧ (kPv V a v).2 = sm (fun u => cnt (fun s => kPb V (u * 12 + s) a) 12) v
  | 0, _ => ⟨fun _ _ _ => rfl, fun _ _ => ⟨rfl, rfl⟩, fun j h1 => absurd h1 (by omega), fun j => by show V 10 j ≤ _; unfold mx; split <;> omega, rfl⟩
  | v + 1, hv => by
    obtain ⟨i1, i2, i3, i4, i5⟩ := Pv_spec V a v (by omega)
    obtain ⟨q1, q2, q3, q4, q5⟩ := Pt_spec (kPv V a v).1 v a 12 (Nat.le_refl _)
    rw [kPv_s]
    dsimp only
    unfold kPr
    have eP : ∀ j, v * 12 ≤ j → kPb (kPv V a v).1 j a = kPb V j a := fun j hj => Pb_eq (i1 0 (by decide) (by decide)) (i2 j hj).1 (i1 6 (by decide) (by decide)) (i1 8 (by decide) (by decide)) (i1 9 (by decide) (by decide))
    refine ⟨fun k h5 h10 => by rw [q1 k h5 h10]; exact i1 k h5 h10, fun j hj => ?_, fun j hj => ?_, fun j => ?_, ?_⟩
    · have := q2 j (by omega)
      have := i2 j (by omega)
      exact ⟨by omega, by omega⟩
    · by_cases hq : v * 12 ≤ j
      · rw [q3 j hq (by omega), eP j hq, (i2 j hq).1]
      · rw [(q2 j (by omega)).1]
        exact i3 j (by omega)
    · by_cases hq : v * 12 ≤ j
      · have := q4 j
        rw [(i2 j hq).1, (i2 j hq).2] at this
        exact this
      · rw [(q2 j (by omega)).2]
        exact i4 j
    · rw [q5, i5]
      show _ + _ = sm _ v + cnt (fun s => kPb V (v * 12 + s) a) 12
      rw [cnt_congr 12 (fun s _ => eP (v * 12 + s) (by omega))]
theorem cnt_split {p p' q : Nat → Bool} : ∀ n, (∀ i, i < n → p' i = (p i && !(q i)) ∧ (q i = true → p i = true)) → cnt p n = cnt p' n + cnt q n
  | 0, _ => rfl
  | n + 1, h => by
    have ih := cnt_split n (fun i hi => h i (by omega))
    obtain ⟨h1, h2⟩ := h n (by omega)
    rw [cnt_s, cnt_s, cnt_s, ih, h1]
    cases hp : p n <;> cases hq : q n
    · simp
    · rw [hp] at h2; exact absurd (h2 hq) (by decide)
    · simp; omega
    · simp; omega
theorem sm_add {f g h : Nat → Nat} : ∀ n, (∀ i, i < n → f i = g i + h i) → sm f n = sm g n + sm h n
  | 0, _ => rfl
  | n + 1, e => by
    have ih := sm_add n (fun i hi => e i (by omega))
    have := e n (by omega)
    show sm f n + f n = (sm g n + g n) + (sm h n + h n)
    omega
theorem sm_congr {f g : Nat → Nat} : ∀ n, (∀ i, i < n → f i = g i) → sm f n = sm g n
  | 0, _ => rfl
  | n + 1, e => by
    show sm f n + f n = sm g n + g n
    rw [sm_congr n (fun i hi => e i (by omega)), e n (by omega)]
theorem sm_0 {f : Nat → Nat} : ∀ n, (∀ i, i < n → f i = 0) → sm f n = 0
  | 0, _ => rfl
  | n + 1, e => by
    show sm f n + f n = 0
    rw [sm_0 n (fun i hi => e i (by omega)), e n (by omega)]
theorem cnt_0 {p : Nat → Bool} : ∀ n, (∀ i, i < n → p i = false) → cnt p n = 0
  | 0, _ => rfl
  | n + 1, e => by rw [cnt_s, cnt_0 n (fun i hi => e i (by omega)), e n (by omega)]; rfl
theorem Pass_spec {V : Nat → Nat → Nat} {N G : Nat} (h : J V N G) (k d : Nat) (hk : k ≤ 4 * d) :
    J (kPass V k).1 (N + d) G ∧ (kPass V k).1 0 0 = V 0 0 ∧ (kPass V k).1 0 1 = V 0 1 + k ∧ nRu (kPass V k).1 (V 0 0) = nRu V (V 0 0) ∧ nTo V (V 0 0) = nTo (kPass V k).1 (V 0 0) + (kPass V k).2 ∧ (60 ≤ k → nTo (kPass V k).1 (V 0 0) = 0) := by
  have eV0 : ∀ j, vU V 0 1 (V 0 1 + k) 0 j = if j = 1 then V 0 1 + k else V 0 j := fun j => vUe _ _ _ _ _
  have eVn : ∀ z, z ≠ 0 → vU V 0 1 (V 0 1 + k) z = V z := fun z hz => vU_n _ _ _ hz
  have hn7 := h.1
  obtain ⟨i1, i2, i3, i4, i5⟩ := Pv_spec (vU V 0 1 (V 0 1 + k)) (kPres (vU V 0 1 (V 0 1 + k))) (V 0 0) hn7
  have hJ5 : ∀ p, p < 84 → V 5 p ≤ 8 * N + 7 := fun p hp => J5 h hp
  unfold kPass
  generalize hW : kPv (vU V 0 1 (V 0 1 + k)) (kPres (vU V 0 1 (V 0 1 + k))) (V 0 0) = W at *
  generalize kPres (vU V 0 1 (V 0 1 + k)) = a at *
  generalize vU V 0 1 (V 0 1 + k) = V1 at *
  have e0 : W.1 0 0 = V 0 0 ∧ W.1 0 1 = V 0 1 + k ∧ W.1 0 2 = V 0 2 ∧ W.1 0 3 = V 0 3 := by
    rw [i1 0 (by decide) (by decide), eV0, eV0, eV0, eV0]
    exact ⟨rfl, rfl, rfl, rfl⟩
  have en : ∀ z, z ≠ 0 → z ≠ 5 → z ≠ 10 → W.1 z = V z := fun z z0 z5 z10 => by rw [i1 z z5 z10, eVn z z0]
  have e5 : ∀ j, W.1 5 j = 0 ∨ W.1 5 j = V 5 j := fun j => by
    by_cases hj : j < V 0 0 * 12
    · rw [i3 j hj, eVn 5 (by decide)]
      split
      · exact Or.inl rfl
      · exact Or.inr rfl
    · rw [(i2 j (by omega)).1, eVn 5 (by decide)]
      exact Or.inr rfl
  have eT : ∀ j, j < V 0 0 * 12 → kTmb W.1 j = (kTmb V j && !(kPb V1 j a)) ∧ (kPb V1 j a = true → kTmb V j = true) := fun j hj => by
    have hT : kTmb V1 j = kTmb V j := by unfold kTmb; rw [eVn 5 (by decide), eVn 6 (by decide)]
    have hw : kTmb W.1 j = decide ((if kPb V1 j a = true then 0 else V 5 j) ≠ 0 ∧ V 6 j = 3) := by
      unfold kTmb
      rw [i3 j hj, eVn 5 (by decide), en 6 (by decide) (by decide) (by decide)]
    refine ⟨?_, fun z => ?_⟩
    · rw [hw]
      cases hb : kPb V1 j a
      · rw [if_neg (by decide), Bool.not_false, Bool.and_true]; rfl
      · rw [if_pos rfl, Bool.not_true, Bool.and_false]; exact decide_eq_false (fun z => z.1 rfl)
    · unfold kPb at z
      rw [Bool.and_eq_true] at z
      rw [← hT]; exact z.1
  have eR : ∀ j, j < V 0 0 * 12 → kRum W.1 j = kRum V j := fun j hj => by
    have hw : kRum W.1 j = decide ((if kPb V1 j a = true then 0 else V 5 j) ≠ 0 ∧ V 6 j ≠ 3) := by
      unfold kRum
      rw [i3 j hj, eVn 5 (by decide), en 6 (by decide) (by decide) (by decide)]
    rw [hw]
    cases hb : kPb V1 j a
    · rw [if_neg (by decide)]; rfl
    · rw [if_pos rfl]
      have := (kTmb_0 ((eT j hj).2 hb)).2
      unfold kRum
      rw [decide_eq_false (fun z => z.1 rfl), decide_eq_false (fun z => z.2 this)]
  obtain ⟨h0, h1, h2, h3, h4, h5, h6, h7⟩ := h
  refine ⟨⟨by rw [e0.1]; exact h0, by rw [e0.2.1]; omega, by rw [e0.2.2.1]; exact h2, by rw [e0.2.2.2]; omega, fun i hi => ?_, fun i s hi hs hq => ?_, fun p hp => ?_, fun t ht => ?_⟩, e0.1, e0.2.1, ?_, ?_, fun hk60 => ?_⟩
  · obtain ⟨a1, a2, a3, a4, a5⟩ := h4 i hi
    rw [e0.2.1, en 1 (by decide) (by decide) (by decide), en 2 (by decide) (by decide) (by decide), en 3 (by decide) (by decide) (by decide), en 4 (by decide) (by decide) (by decide)]
    refine ⟨a1, by omega, by omega, a4, fun z s hs => ?_⟩
    rcases e5 (i * 12 + s) with e | e
    · exact e
    · rw [e]; exact a5 z s hs
  · rcases e5 (i * 12 + s) with e | e
    · exact absurd e hq
    · rw [e] at hq ⊢
      rw [en 2 (by decide) (by decide) (by decide), en 6 (by decide) (by decide) (by decide), en 9 (by decide) (by decide) (by decide)]
      exact h5 i s hi hs hq
  · obtain ⟨c1, c2, c3, c4, c5⟩ := h6 p hp
    rw [e0.2.1, en 6 (by decide) (by decide) (by decide), en 7 (by decide) (by decide) (by decide), en 8 (by decide) (by decide) (by decide), en 9 (by decide) (by decide) (by decide)]
    refine ⟨c1, c2, by omega, c4, ?_⟩
    have a1 := i4 p
    have a2 := hJ5 p hp
    rw [eVn 10 (by decide), eVn 5 (by decide)] at a1
    unfold mx at a1
    split at a1 <;> omega
  · have := h7 t ht
    rw [en 11 (by decide) (by decide) (by decide)]
    omega
  · unfold nRu
    exact sm_congr _ (fun u hu => cnt_congr 12 (fun s hs => eR (u * 12 + s) (by omega)))
  · unfold nTo
    rw [i5]
    exact sm_add _ (fun u hu => cnt_split 12 (fun s hs => eT (u * 12 + s) (by omega)))
  · unfold nTo
    refine sm_0 _ (fun u hu => cnt_0 12 (fun s hs => ?_))
    have hj : u * 12 + s < V 0 0 * 12 := by omega
    show kTmb W.1 (u * 12 + s) = false
    rw [(eT _ hj).1]
    cases hT : kTmb V (u * 12 + s)
    · rfl
    · have hT1 : kTmb V1 (u * 12 + s) = true := by rw [← hT]; unfold kTmb; rw [eVn 5 (by decide), eVn 6 (by decide)]
      have hO : kOver V1 (u * 12 + s) a = true := by
        refine decide_eq_true (Or.inr ?_)
        rw [eV0, eV0, eVn 8 (by decide), if_neg (by decide), if_pos rfl]
        have := (h6 (u * 12 + s) (by omega)).2.2.1
        omega
      unfold kPb
      rw [hT1, hO]
      rfl
theorem kTick_at {V : Nat → Nat → Nat} {k : Nat} (h1 : 1 ≤ k) (h2 : k ≤ 60) (ht : V 0 1 + k ≤ 100000) : kTick V (nI k) = ((kPass V k).1, nI (kPass V k).2) := by
  unfold kTick
  rw [if_pos (by rw [inN_nI (by omega)]; exact decide_eq_true ⟨h1, h2⟩), ixn (i := k) (by omega), if_neg (by omega)]
