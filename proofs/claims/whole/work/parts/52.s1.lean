/-- who is gone has no entries -/
def gI (S : Nat → Nat) : Prop := ∀ v t, v < 7 → t < 12 → S (5 + 4 * v + 0) = 2 → S (225 + 84 * v + 7 * t + 0) = 0
theorem kPb_eq {V : Nat → Nat → Nat} {S : Nat → Nat} (h : rV V S) (hg : gI S) {v t a : Nat} (hv : v < 7) (ht : t < 12) : kPb V (v * 12 + t) a = mDb S v t a := by
  have h1 := h.2.2.1 v t hv ht
  unfold kPb mDb
  rw [rE_tmb h1]
  by_cases hz : S (225 + 84 * v + 7 * t + 0) = 2
  · have hne : S (5 + 4 * v + 0) ≠ 2 := fun z => by have := hg v t hv ht z; omega
    have eo : kOver V (v * 12 + t) a = mOver S v t a := by
      unfold kOver mOver
      rcases h1 with h1 | h1 | h1
      · omega
      · omega
      · rw [h1.2.2.2.2.2.1, h1.2.2.2.2.2.2, h.1.2.1, h.1.2.2.1]
    rw [decide_eq_true hz, Bool.true_and, eo]
    by_cases ho : mOver S v t a = true
    · rw [ho]; exact (decide_eq_true ⟨hne, hz, rfl⟩).symm
    · rw [decide_eq_false (fun z => ho z.2.2)]
      exact Bool.eq_false_iff.mpr ho
  · rw [decide_eq_false hz, Bool.false_and, decide_eq_false (fun z => hz z.2.1)]
theorem sI_del {S S' : Nat → Nat} (hs : sI S) (hau : ∀ v t, v < 7 → t < 12 → S (225 + 84 * v + 7 * t + 0) ≠ 0 → S (225 + 84 * v + 7 * t + 2) < 7) (hlo : ∀ j, j < 57 → S' j = S j) (hE : ∀ v t k, v < 7 → t < 12 → k < 7 → S' (225 + 84 * v + 7 * t + 0) ≠ 0 → S' (225 + 84 * v + 7 * t + k) = S (225 + 84 * v + 7 * t + k)) : sI S' := by
  refine ⟨fun u k a b c => ?_, fun u t hu ht hq => ?_, fun u hu hq => ?_, fun u w t hu hw ht hq hq2 e3 e4 => ?_⟩
  · rw [hlo 0 (by omega)] at a
    rw [hlo _ (by omega)]
    exact hs.1 u k a b c
  · have e0 := hE u t 0 hu ht (by decide) hq
    rw [hE u t 1 hu ht (by decide) hq, hE u t 2 hu ht (by decide) hq]
    have hq' := hq
    rw [e0] at hq'
    have h2 := hau u t hu ht hq'
    rw [hlo _ (by omega)]
    exact hs.2.1 u t hu ht hq'
  · rw [hlo _ (by omega)] at hq ⊢
    rw [hlo 1 (by omega)]
    exact hs.2.2.1 u hu hq
  · have h0 := hE u t 0 hu ht (by decide) hq
    have h0' := hE w t 0 hw ht (by decide) hq2
    rw [hE u t 1 hu ht (by decide) hq, hE w t 1 hw ht (by decide) hq2] at e3
    rw [hE u t 2 hu ht (by decide) hq, hE w t 2 hw ht (by decide) hq2] at e4
    rw [h0] at hq ⊢
    rw [h0'] at hq2 ⊢
    exact hs.2.2.2 u w t hu hw ht hq hq2 e3 e4
theorem mDrop_t {S : Nat → Nat} {v t a : Nat} (h : mDb S v t a = true) : mDrop S v t a = upN (mDs S v t) (225 + 84 * v + 7 * t) 0 := if_pos h
theorem mDrop_f {S : Nat → Nat} {v t a : Nat} (h : ¬ mDb S v t a = true) : mDrop S v t a = S := if_neg h
theorem mDs_d {V : Nat → Nat → Nat} {S : Nat → Nat} (h : rV V S) {v t : Nat} (hv : v < 7) (ht : t < 12) (hne : S (225 + 84 * v + 7 * t + 0) ≠ 0) : mx (V 10 (v * 12 + t)) (V 5 (v * 12 + t)) = 8 * mDs S v t (57 + 24 * v + 2 * t) + mDs S v t (57 + 24 * v + 2 * t + 1) ∧ mDs S v t (57 + 24 * v + 2 * t + 1) < 7 := by
  have h1 := h.2.2.1 v t hv ht
  have h2 := h.2.2.2.1 v t hv ht
  have h5 : V 5 (v * 12 + t) = 8 * S (225 + 84 * v + 7 * t + 1) + S (225 + 84 * v + 7 * t + 2) ∧ S (225 + 84 * v + 7 * t + 2) < 7 := by
    rcases h1 with h1 | h1 | h1
    · omega
    · exact ⟨h1.2.1, h1.2.2.2.1⟩
    · exact ⟨h1.2.1, h1.2.2.2.1⟩
  unfold mDs
  rw [newer_lt (by omega) (by omega), ← h2.1, ← h5.1]
  unfold mx
  by_cases hl : V 10 (v * 12 + t) < V 5 (v * 12 + t)
  · rw [if_pos hl, if_pos (decide_eq_true hl), upN_s, upN_n _ _ (by omega), upN_s]
    exact h5
  · rw [if_neg hl, if_neg (by rw [decide_eq_false hl]; decide)]
    exact h2
theorem sim_drop {V : Nat → Nat → Nat} {S : Nat → Nat} (h : rV V S) (hs : sI S) (hg : gI S) {v t a : Nat} (hv : v < 7) (ht : t < 12) : rV (kPs V (v * 12 + t) a) (mDrop S v t a) ∧ sI (mDrop S v t a) ∧ gI (mDrop S v t a) := by
  have he := kPb_eq h hg (a := a) hv ht
  unfold kPs
  by_cases hc : mDb S v t a = true
  · rw [he, if_pos hc]
    have hne : S (225 + 84 * v + 7 * t + 0) ≠ 0 := by
      have := of_decide_eq_true hc
      omega
    have hlo : ∀ j, j < 57 → mDrop S v t a j = S j := fun j hj => mDrop_n S (Or.inl (by omega)) (by omega)
    have hz : mDrop S v t a (225 + 84 * v + 7 * t + 0) = 0 := by rw [mDrop_t hc]; exact upN_s _ _ _
    have hE : ∀ u t' k, ¬ (u = v ∧ t' = t) → u < 7 → t' < 12 → k < 7 → mDrop S v t a (225 + 84 * u + 7 * t' + k) = S (225 + 84 * u + 7 * t' + k) := fun u t' k hn hu ht' hk => mDrop_n S (by omega) (by omega)
    refine ⟨⟨?_, fun u hu => ?_, fun u t' hu ht' => ?_, fun u t' hu ht' => ?_, fun t' ht' => ?_⟩, ?_, ?_⟩
    · rw [hlo 0 (by decide), hlo 1 (by decide), hlo 2 (by decide), hlo 3 (by decide), hlo 4 (by decide)]
      exact h.1
    · rw [hlo _ (by omega), hlo _ (by omega), hlo _ (by omega), hlo _ (by omega)]
      exact h.2.1 u hu
    · by_cases hut : u = v ∧ t' = t
      · obtain ⟨rfl, rfl⟩ := hut
        exact Or.inl ⟨hz, upN_s _ _ _⟩
      · refine rE_c (h.2.2.1 u t' hu ht') (fun k x y => ?_) (fun k hk => hE u t' k hut hu ht' hk)
        have hq : u * 12 + t' ≠ v * 12 + t := by omega
        simp only [vU_at, if_neg hq, ite_self]
    · by_cases hut : u = v ∧ t' = t
      · obtain ⟨rfl, rfl⟩ := hut
        rw [mDrop_t hc, upN_n _ _ (by omega), upN_n _ _ (by omega)]
        have hd := mDs_d h hu ht' hne
        refine ⟨?_, hd.2⟩
        rw [← hd.1]
        show upN (V 10) (u * 12 + t') _ (u * 12 + t') = _
        rw [upN_s]
      · rw [mDrop_n S (by omega) (by omega), mDrop_n S (by omega) (by omega)]
        have hq : u * 12 + t' ≠ v * 12 + t := by omega
        have := h.2.2.2.1 u t' hu ht'
        refine ⟨?_, this.2⟩
        rw [← this.1]
        show upN (V 10) (v * 12 + t) _ (u * 12 + t') = _
        rw [upN_n _ _ hq]
    · rw [hlo _ (by omega), hlo _ (by omega)]
      exact h.2.2.2.2 t' ht'
    · refine sI_del hs (rV_au h) hlo (fun u t' k hu ht' hk hq => ?_)
      by_cases hut : u = v ∧ t' = t
      · obtain ⟨rfl, rfl⟩ := hut
        exact absurd hz hq
      · exact hE u t' k hut hu ht' hk
    · intro u t' hu ht' hq
      rw [hlo _ (by omega)] at hq
      by_cases hut : u = v ∧ t' = t
      · obtain ⟨rfl, rfl⟩ := hut
        exact hz
      · rw [hE u t' 0 hut hu ht' (by decide)]
        exact hg u t' hu ht' hq
  · rw [he, if_neg hc, mDrop_f hc]
    exact ⟨h, hs, hg⟩
theorem sim_dt {V : Nat → Nat → Nat} {S : Nat → Nat} (h : rV V S) (hs : sI S) (hg : gI S) {v a : Nat} (hv : v < 7) : ∀ t, t ≤ 12 → rV (kPt V v a t).1 (mDt S v a t).1 ∧ sI (mDt S v a t).1 ∧ gI (mDt S v a t).1 ∧ (kPt V v a t).2 = (mDt S v a t).2
  | 0, _ => ⟨h, hs, hg, rfl⟩
  | t + 1, ht => by
    obtain ⟨h1, h2, h3, h4⟩ := sim_dt h hs hg hv t (by omega)
    obtain ⟨q1, q2, q3⟩ := sim_drop h1 h2 h3 (a := a) hv (show t < 12 by omega)
    rw [kPt_s, mDt_s]
    dsimp only
    refine ⟨q1, q2, q3, ?_⟩
    rw [h4, kPb_eq h1 h3 hv (by omega)]
    rfl
theorem sim_dv {V : Nat → Nat → Nat} {S : Nat → Nat} (h : rV V S) (hs : sI S) (hg : gI S) {a : Nat} : ∀ v, v ≤ 7 → rV (kPv V a v).1 (mDv S a v).1 ∧ sI (mDv S a v).1 ∧ gI (mDv S a v).1 ∧ (kPv V a v).2 = (mDv S a v).2
  | 0, _ => ⟨h, hs, hg, rfl⟩
  | v + 1, hv => by
    obtain ⟨h1, h2, h3, h4⟩ := sim_dv h hs hg (a := a) v (by omega)
    obtain ⟨q1, q2, q3, q4⟩ := sim_dt h1 h2 h3 (a := a) (show v < 7 by omega) 12 (Nat.le_refl _)
    rw [kPv_s, mDv_s]
    dsimp only
    unfold kPr mRow
    exact ⟨q1, q2, q3, by rw [h4, q4]⟩
theorem sim_p1 {V : Nat → Nat → Nat} {S : Nat → Nat} (h : rV V S) (hs : sI S) (hg : gI S) (h7 : S 0 ≤ 7) : rV (kPass V 1).1 (mTick1 S).1 ∧ sI (mTick1 S).1 ∧ gI (mTick1 S).1 ∧ (kPass V 1).2 = (mTick1 S).2 := by
  have hr : rV (vU V 0 1 (V 0 1 + 1)) (upN S 1 (S 1 + 1)) := by
    obtain ⟨b0, b1, b2, b3, b4⟩ := h.1
    refine rV_num h ⟨?_, ?_, ?_, ?_, ?_⟩ (fun u hu => ?_) (fun k a b => ?_) (fun j hj => ?_)
    · (simp only [upN_at, vU_at]; repeat first | rw [if_pos trivial] | rw [if_pos (by omega)] | rw [if_neg (by omega)]); assumption
    · (simp only [upN_at, vU_at]; repeat first | rw [if_pos trivial] | rw [if_pos (by omega)] | rw [if_neg (by omega)]); rw [b1]
    · (simp only [upN_at, vU_at]; repeat first | rw [if_pos trivial] | rw [if_pos (by omega)] | rw [if_neg (by omega)]); assumption
    · (simp only [upN_at, vU_at]; repeat first | rw [if_pos trivial] | rw [if_pos (by omega)] | rw [if_neg (by omega)]); assumption
    · exact b4
    · obtain ⟨a1, a2, a3, a4⟩ := h.2.1 u hu
      refine ⟨?_, ?_, ?_, ?_⟩ <;> (simp only [upN_at, vU_at]; repeat first | rw [if_pos trivial] | rw [if_pos (by omega)] | rw [if_neg (by omega)]) <;> assumption
    · rw [vU_n _ _ _ (by omega)]
    · rw [upN_n _ _ (by omega)]
  have hs2 : sI (upN S 1 (S 1 + 1)) := by
    refine sI_num hs (fun u k a b c => ?_) (fun u hu => ?_) (rV_au h) (fun u hu hq => ?_) (fun j hj => ?_)
    · rw [upN_n _ _ (by decide)] at a
      rw [upN_n _ _ (by omega)]
      exact hs.1 u k a b c
    · rw [upN_n _ _ (by omega)]; exact Nat.le_refl _
    · rw [upN_n _ _ (by omega)] at hq
      rw [upN_n _ _ (by omega), upN_s]
      have := hs.2.2.1 u hu hq
      omega
    · rw [upN_n _ _ (by omega)]
  have hg2 : gI (upN S 1 (S 1 + 1)) := fun u t hu ht hq => by
    rw [upN_n _ _ (by omega)] at hq ⊢
    exact hg u t hu ht hq
  have ea : kPres (vU V 0 1 (V 0 1 + 1)) = mHere (upN S 1 (S 1 + 1)) (S 0) := by
    unfold kPres mHere
    rw [hr.1.1, upN_n _ _ (by decide)]
    exact bits_congr _ (fun i hi => by rw [(hr.2.1 i (by omega)).1])
  unfold kPass mTick1
  rw [ea, h.1.1]
  exact sim_dv hr hs2 hg2 (S 0) h7
