theorem sim_step {V : Nat → Nat → Nat} {S : Nat → Nat} {o p t : Nat} (h : rV V S) (hs : sI S) (h7 : S 0 ≤ 7) (ho : o < S 0) (hp : p < S 0) (hop : o ≠ p) (ht : t < 12) : rV (kSt V o p t) (mSee (mP2s S o p t) o p t) ∧ sI (mSee (mP2s S o p t) o p t) ∧ (if kGv V o p t = 0 then 0 else 1) = mP2n S o p t := by
  have hg := kGv_P (h.2.2.1 o t (by omega) ht) (h.2.2.1 p t (by omega) ht)
  have fin : ∀ V1 S1, rV V1 S1 → sI S1 → rV (kSh V1 o p t) (mSee S1 o p t) ∧ sI (mSee S1 o p t) := fun V1 S1 a b => ⟨rV_see a b (by omega) (by omega) ht, sI_see b ht (rV_au a)⟩
  unfold kSt mP2s mP2n
  by_cases h1 : mPb S o p t = true
  · rw [if_pos h1] at hg
    rw [if_pos h1, if_pos h1, hg, if_neg (show ¬ o + 1 = 0 by omega), if_neg (show ¬ o + 1 = 0 by omega), Nat.add_sub_cancel, if_pos (show o = o from rfl)]
    have e : mPs S o p t = cpE (gS S o p t) o p t 7 := if_pos h1
    rw [e]
    have hr := rV_hn (f := o) h h7 (by omega) hp ht
    have hg1 := rV_g (f := o) h h7 (by omega) hp ht
    have q := fin _ _ hr (sI_cp (sI_g h hs h7 hp) (by omega) (by omega) ht (rV_au hg1))
    exact ⟨q.1, q.2, rfl⟩
  · rw [if_neg h1] at hg
    rw [if_neg h1, if_neg h1]
    unfold mPr
    by_cases h2 : mPb S p o t = true
    · rw [if_pos h2] at hg
      rw [if_pos h2, hg, if_neg (show ¬ p + 1 = 0 by omega), if_neg (show ¬ p + 1 = 0 by omega), Nat.add_sub_cancel, if_neg (show ¬ p = o by omega)]
      have e : mPs S p o t = cpE (gS S p o t) p o t 7 := if_pos h2
      rw [e]
      have hr := rV_hn (f := p) h h7 (by omega) ho ht
      have hg1 := rV_g (f := p) h h7 (by omega) ho ht
      have q := fin _ _ hr (sI_cp (sI_g h hs h7 ho) (by omega) (by omega) ht (rV_au hg1))
      exact ⟨q.1, q.2, rfl⟩
    · rw [if_neg h2] at hg
      rw [if_neg h2, hg, if_pos rfl, if_pos rfl]
      have e : mPs S p o t = S := if_neg h2
      rw [e]
      have q := fin _ _ h hs
      exact ⟨q.1, q.2, rfl⟩
theorem sim_m0 {V : Nat → Nat → Nat} {S : Nat → Nat} {o p : Nat} (h : rV V S) (hs : sI S) (h7 : S 0 ≤ 7) (ho : o < S 0) (hp : p < S 0) : rV (kT0 V o p) (mMeet0 S o p) ∧ sI (mMeet0 S o p) := by
  have hc : mx (V 2 o) (V 2 p) = mClk S o p := by
    rw [(h.2.1 o (by omega)).2.1, (h.2.1 p (by omega)).2.1]
    unfold mx mClk
    split <;> split <;> omega
  have c1 : S (5 + 4 * o + 1) ≤ mClk S o p := by unfold mClk; split <;> omega
  have c2 : S (5 + 4 * p + 1) ≤ mClk S o p := by unfold mClk; split <;> omega
  unfold kT0 mMeet0
  rw [hc]
  generalize mClk S o p = c at c1 c2
  refine ⟨rV_num h ?_ (fun u hu => ?_) (fun k a b => ?_) (fun j hj => ?_), sI_num hs (fun u k a b d => ?_) (fun u hu => ?_) (rV_au h) (fun u hu hq => ?_) (fun j hj => ?_)⟩
  · (simp only [upN_at, vU_at]; repeat first | rw [if_pos trivial] | rw [if_pos (by omega)] | rw [if_neg (by omega)])
    exact h.1
  · obtain ⟨a1, a2, a3, a4⟩ := h.2.1 u hu
    by_cases hup : u = p
    · subst hup
      refine ⟨?_, ?_, ?_, ?_⟩ <;> (simp only [upN_at, vU_at]; repeat first | rw [if_pos trivial] | rw [if_pos (by omega)] | rw [if_neg (by omega)]) <;> assumption
    · by_cases huo : u = o
      · subst huo
        refine ⟨?_, ?_, ?_, ?_⟩ <;> (simp only [upN_at, vU_at]; repeat first | rw [if_pos trivial] | rw [if_pos (by omega)] | rw [if_neg (by omega)]) <;> assumption
      · refine ⟨?_, ?_, ?_, ?_⟩ <;> (simp only [upN_at, vU_at]; repeat first | rw [if_pos trivial] | rw [if_pos (by omega)] | rw [if_neg (by omega)]) <;> assumption
  · rw [vU_n _ _ _ (by omega), vU_n _ _ _ (by omega)]
  · rw [upN_n _ _ (by omega), upN_n _ _ (by omega)]
  · rw [upN_n _ _ (by omega), upN_n _ _ (by omega)] at a
    rw [upN_n _ _ (by omega), upN_n _ _ (by omega)]
    exact hs.1 u k a b d
  · by_cases hup : u = p
    · subst hup
      rw [upN_s]; exact c2
    · rw [upN_n _ _ (by omega)]
      by_cases huo : u = o
      · subst huo
        rw [upN_s]; exact c1
      · rw [upN_n _ _ (by omega)]; exact Nat.le_refl _
  · rw [upN_n _ _ (by omega), upN_n _ _ (by omega)] at hq
    rw [upN_n _ _ (by omega), upN_n _ _ (by omega), upN_n _ _ (by omega), upN_n _ _ (by omega)]
    exact hs.2.2.1 u hu hq
  · rw [upN_n _ _ (by omega), upN_n _ _ (by omega)]
theorem mMt_s (S : Nat → Nat) (o p t : Nat) : mMt S o p (t + 1) = (mSee (mP2s (mMt S o p t).1 o p t) o p t, (mMt S o p t).2 + mP2n (mMt S o p t).1 o p t) := rfl
theorem sim_tt {V : Nat → Nat → Nat} {S : Nat → Nat} {o p : Nat} (h : rV V S) (hs : sI S) (h7 : S 0 ≤ 7) (ho : o < S 0) (hp : p < S 0) (hop : o ≠ p) : ∀ t, t ≤ 12 → rV (kTt V o p t).1 (mMt (mMeet0 S o p) o p t).1 ∧ sI (mMt (mMeet0 S o p) o p t).1 ∧ (kTt V o p t).2 = (mMt (mMeet0 S o p) o p t).2
  | 0, _ => by
    have h0 := sim_m0 h hs h7 ho hp
    exact ⟨h0.1, h0.2, rfl⟩
  | t + 1, ht => by
    obtain ⟨h1, h2, h3⟩ := sim_tt h hs h7 ho hp hop t (by omega)
    have e0 : (mMt (mMeet0 S o p) o p t).1 0 = S 0 := by
      rw [mMt_lo _ (by omega) (by omega) (by decide) (by decide) (by omega)]
      unfold mMeet0
      rw [upN_n _ _ (by omega), upN_n _ _ (by omega)]
    obtain ⟨q1, q2, q3⟩ := sim_step h1 h2 (by rw [e0]; exact h7) (by rw [e0]; exact ho) (by rw [e0]; exact hp) hop (show t < 12 by omega)
    rw [kTt_s, mMt_s]
    dsimp only
    exact ⟨q1, q2, by rw [h3, q3]⟩
theorem sim_tk {V : Nat → Nat → Nat} {S : Nat → Nat} {o p : Nat} (h : rV V S) (hs : sI S) (h7 : S 0 ≤ 7) (ho : o < S 0) (hp : p < S 0) (hop : o ≠ p) : rV (kTk V o p).1 (mMeet S o p).1 ∧ sI (mMeet S o p).1 ∧ (kTk V o p).2 = (mMeet S o p).2 := by
  unfold kTk mMeet
  exact sim_tt h hs h7 ho hp hop 12 (Nat.le_refl _)
theorem sim_meet {V : Nat → Nat → Nat} {S : Nat → Nat} (h : rV V S) (hs : sI S) (h7 : S 0 ≤ 7) (v u : Int32) : sim (kMeet V v u) (mMeets1 S v u) := by
  unfold kMeet mMeets1
  have hk : kTwo V v u = true ↔ hasN (S 0) v = true ∧ hasN (S 0) u = true ∧ v ≠ u := by
    unfold kTwo
    rw [h.1.1, Bool.and_eq_true, Bool.and_eq_true, decide_eq_true_eq]
  by_cases hc : hasN (S 0) v = true ∧ hasN (S 0) u = true ∧ v ≠ u
  · rw [if_pos hc, if_pos (hk.mpr hc)]
    obtain ⟨hv, hu, hne⟩ := hc
    obtain ⟨i, hi, rfl⟩ := hasN_of (by omega) hv
    obtain ⟨j, hj, rfl⟩ := hasN_of (by omega) hu
    have hij : i ≠ j := fun z => hne (by rw [z])
    rw [ix_nI (by omega), ix_nI (by omega), (h.2.1 i (by omega)).1, (h.2.1 j (by omega)).1]
    by_cases hz : S (5 + 4 * i + 0) = 0 ∧ S (5 + 4 * j + 0) = 0
    · rw [if_pos hz, if_pos hz]
      obtain ⟨q1, q2, q3⟩ := sim_tk h hs h7 hi hj hij
      refine ⟨?_, ?_, ?_⟩
      · dsimp only; exact q1
      · dsimp only; exact q2
      · dsimp only; rw [q3]
    · rw [if_neg hz, if_neg hz]
      exact ⟨h, hs, rfl⟩
  · rw [if_neg hc, if_neg (fun z => hc (hk.mp z))]
    exact ⟨h, hs, rfl⟩

