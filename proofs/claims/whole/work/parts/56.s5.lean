/-! THE TEXT: the reference reads from left to right, the class from one ';' to the next -/
theorem rn_dig {T : Nat → Nat} {n s e : Nat} {N : Nat → Nat} {k p r v L : Nat} {M : Nat → Nat} (hp : s + 1 + k = p) (h : rN T n s e N k = (true, r, v, L, M)) (hd : 48 ≤ T p ∧ T p ≤ 57) : rN T n s e N (k + 1) = (decide (L + 1 ≤ 2), r, v * 10 + (T p - 48), L + 1, M) := by
  subst hp
  rw [rN_s, h, if_pos rfl]
  unfold rSt
  rw [if_pos hd]
theorem rn_del {T : Nat → Nat} {n s e : Nat} {N : Nat → Nat} {k p r v L : Nat} {M : Nat → Nat} (hp : s + 1 + k = p) (h : rN T n s e N k = (true, r, v, L, M)) (hd : ¬ (48 ≤ T p ∧ T p ≤ 57)) (hc : (p = e ∨ T p = 44) ∧ L ≠ 0 ∧ r < n) : rN T n s e N (k + 1) = (true, r + 1, 0, 0, upN M r v) := by
  subst hp
  rw [rN_s, h, if_pos rfl]
  unfold rSt
  rw [if_neg hd, if_pos hc]
theorem rn_bad {T : Nat → Nat} {n s e : Nat} {N : Nat → Nat} {k p r v L : Nat} {M : Nat → Nat} (hp : s + 1 + k = p) (h : rN T n s e N k = (true, r, v, L, M)) (hd : ¬ (48 ≤ T p ∧ T p ≤ 57)) (hc : ¬ ((p = e ∨ T p = 44) ∧ L ≠ 0 ∧ r < n)) : (rN T n s e N (k + 1)).1 = false := by
  subst hp
  rw [rN_s, h, if_pos rfl]
  unfold rSt
  rw [if_neg hd, if_neg hc]
theorem rn_stay {T : Nat → Nat} {n s e : Nat} {N : Nat → Nat} {k : Nat} (h : (rN T n s e N k).1 = false) {m : Nat} (hm : k ≤ m) : (rN T n s e N m).1 = false := by
  obtain ⟨d, rfl⟩ : ∃ d, m = k + d := ⟨m - k, by omega⟩
  rw [rN_f h d]; exact h
theorem isD_iff (T : Nat → Nat) (X p : Nat) : isD T X p = true ↔ p < X ∧ 48 ≤ T p ∧ T p ≤ 57 := by
  unfold isD
  rw [decide_eq_true_eq]
theorem rn_num {T : Nat → Nat} {X n s e : Nat} {N : Nat → Nat} {k p r : Nat} {M : Nat → Nat} (hp : s + 1 + k = p) (h : rN T n s e N k = (true, r, 0, 0, M)) (hpe : p ≤ e) (he : T e = 59) (heX : e < X) :
    (tLen T X p = 0 → (rN T n s e N (k + 1)).1 = false) ∧ (0 < tLen T X p → p + tLen T X p ≤ e ∧ rN T n s e N (k + tLen T X p) = (true, r, tVal T X p, tLen T X p, M) ∧ (tLen T X p = 2 ∨ ¬ (48 ≤ T (p + tLen T X p) ∧ T (p + tLen T X p) ≤ 57))) := by
  have hlt : ∀ q, q ≤ e → 48 ≤ T q ∧ T q ≤ 57 → q < e := fun q a b => by
    rcases Nat.lt_or_ge q e with z | z
    · exact z
    · have : q = e := by omega
      subst this
      omega
  unfold tLen tVal
  by_cases h1 : isD T X p = true
  · have d1 := (isD_iff T X p).mp h1
    have l1 := hlt p hpe d1.2
    have s1 := rn_dig hp h d1.2
    rw [decide_eq_true (show 0 + 1 ≤ 2 by omega)] at s1
    rw [if_pos h1, if_pos h1]
    by_cases h2 : isD T X (p + 1) = true
    · have d2 := (isD_iff T X (p + 1)).mp h2
      have l2 := hlt (p + 1) (by omega) d2.2
      have s2 := rn_dig (p := p + 1) (by omega) s1 d2.2
      rw [decide_eq_true (show 0 + 1 + 1 ≤ 2 by omega)] at s2
      rw [if_pos h2, if_pos h2]
      refine ⟨fun z => by omega, fun _ => ⟨by omega, ?_, Or.inl rfl⟩⟩
      rw [show k + 2 = k + 1 + 1 from rfl, s2]
      refine Prod.ext rfl (Prod.ext rfl (Prod.ext ?_ (Prod.ext rfl rfl)))
      dsimp only
      omega
    · rw [if_neg h2, if_neg h2]
      refine ⟨fun z => by omega, fun _ => ⟨by omega, ?_, Or.inr (fun z => h2 ((isD_iff T X (p + 1)).mpr ⟨by omega, z⟩))⟩⟩
      rw [s1]
      refine Prod.ext rfl (Prod.ext rfl (Prod.ext ?_ (Prod.ext rfl rfl)))
      dsimp only
      omega
  · rw [if_neg h1, if_neg h1]
    refine ⟨fun _ => ?_, fun z => absurd z (Nat.lt_irrefl 0)⟩
    exact rn_bad hp h (fun z => h1 ((isD_iff T X p).mpr ⟨by omega, z⟩)) (fun z => z.2.1 rfl)
theorem rn_full {T : Nat → Nat} {n s e : Nat} {N : Nat → Nat} (he : T e = 59) : ∀ d k v L M, e - (s + 1 + k) = d → s + 1 + k ≤ e → rN T n s e N k = (true, n, v, L, M) → (rN T n s e N (e - s)).1 = false
  | 0, k, v, L, M, hd, hk, h => by
    have e1 : s + 1 + k = e := by omega
    exact rn_stay (rn_bad e1 h (by omega) (fun z => Nat.lt_irrefl n z.2.2)) (by omega)
  | d + 1, k, v, L, M, hd, hk, h => by
    by_cases hdg : 48 ≤ T (s + 1 + k) ∧ T (s + 1 + k) ≤ 57
    · have h1 := rn_dig rfl h hdg
      by_cases hL : L + 1 ≤ 2
      · rw [decide_eq_true hL] at h1
        exact rn_full he d (k + 1) _ _ _ (by omega) (by omega) h1
      · rw [decide_eq_false hL] at h1
        exact rn_stay (k := k + 1) (by rw [h1]) (by omega)
    · exact rn_stay (rn_bad rfl h hdg (fun z => Nat.lt_irrefl n z.2.2)) (by omega)
theorem tR_rN {T : Nat → Nat} {X n s e : Nat} {G N : Nat → Nat} (hse : s < e) (he : T e = 59) (heX : e < X) (hn : 0 < n) : ∀ j, j < n →
    ((tR T X n (s + 1) G j).1 = true → ∃ v L M, (tR T X n (s + 1) G j).2.1 ≤ e ∧ s + 1 ≤ (tR T X n (s + 1) G j).2.1 ∧ rN T n s e N ((tR T X n (s + 1) G j).2.1 - (s + 1)) = (true, j, v, L, M) ∧ L ≠ 0 ∧ (L = 2 ∨ ¬ (48 ≤ T (tR T X n (s + 1) G j).2.1 ∧ T (tR T X n (s + 1) G j).2.1 ≤ 57)) ∧ (∀ i, i < j → (tR T X n (s + 1) G j).2.2 i = M i) ∧ (tR T X n (s + 1) G j).2.2 j = v) ∧
    ((tR T X n (s + 1) G j).1 = false → ¬ ((rN T n s e N (e - s)).1 = true ∧ (rN T n s e N (e - s)).2.1 = n))
  | 0, hj => by
    obtain ⟨q1, q2⟩ := rn_num (X := X) (p := s + 1) (k := 0) rfl (show rN T n s e N 0 = (true, 0, 0, 0, N) from rfl) (by omega) he heX
    have e0 : tR T X n (s + 1) G 0 = tNum T X (s + 1) G 0 := by
      unfold tR
      rw [if_neg (by omega)]
    rw [e0]
    unfold tNum
    dsimp only
    refine ⟨fun z => ?_, fun z => ?_⟩
    · obtain ⟨a1, a2, a3⟩ := q2 (of_decide_eq_true z)
      refine ⟨tVal T X (s + 1), tLen T X (s + 1), N, a1, by omega, ?_, ?_, a3, fun i hi => absurd hi (Nat.not_lt_zero i), upN_s _ _ _⟩
      · rw [show s + 1 + tLen T X (s + 1) - (s + 1) = 0 + tLen T X (s + 1) by omega]
        exact a2
      · have := of_decide_eq_true z
        omega
    · have hz := of_decide_eq_false z
      have := rn_stay (q1 (by omega)) (m := e - s) (by omega)
      rw [this]
      exact fun y => by cases y.1
  | j + 1, hj => by
    obtain ⟨i1, i2⟩ := tR_rN (G := G) (N := N) hse he heX hn j (by omega)
    rw [tR_s]
    by_cases hb : (tR T X n (s + 1) G j).1 = true
    · rw [if_pos hb]
      obtain ⟨v, L, M, b1, b2, b3, b4, b5, b6, b7⟩ := i1 hb
      generalize hq : (tR T X n (s + 1) G j).2.1 = q at b1 b2 b3 b5 ⊢
      generalize (tR T X n (s + 1) G j).2.2 = G' at b6 b7 ⊢
      have hkq : s + 1 + (q - (s + 1)) = q := by omega
      by_cases hc : tHas T X q 44 = true
      · rw [if_pos hc]
        have hc2 := of_decide_eq_true hc
        have hqe : q < e := by
          rcases Nat.lt_or_ge q e with z | z
          · exact z
          · have : q = e := by omega
            subst this
            omega
        have h1 := rn_del hkq b3 (by omega) ⟨Or.inr hc2.2, b4, by omega⟩
        obtain ⟨q1, q2⟩ := rn_num (X := X) (p := q + 1) (by omega) h1 (by omega) he heX
        unfold tNum
        dsimp only
        refine ⟨fun z => ?_, fun z => ?_⟩
        · obtain ⟨a1, a2, a3⟩ := q2 (of_decide_eq_true z)
          refine ⟨tVal T X (q + 1), tLen T X (q + 1), upN M j v, a1, by omega, ?_, ?_, a3, fun i hi => ?_, upN_s _ _ _⟩
          · rw [show q + 1 + tLen T X (q + 1) - (s + 1) = q - (s + 1) + 1 + tLen T X (q + 1) by omega]
            exact a2
          · have := of_decide_eq_true z
            omega
          · rw [upN_n _ _ (by omega)]
            by_cases hij : i = j
            · subst hij
              rw [upN_s]; exact b7
            · rw [upN_n _ _ hij]; exact b6 i (by omega)
        · have hz := of_decide_eq_false z
          have := rn_stay (q1 (by omega)) (m := e - s) (by omega)
          rw [this]
          exact fun y => by cases y.1
      · rw [if_neg hc]
        refine ⟨fun z => absurd z Bool.false_ne_true, fun _ => ?_⟩
        by_cases hqe : q = e
        · have h1 := rn_del hkq b3 (by rw [hqe]; omega) ⟨Or.inl hqe, b4, by omega⟩
          rw [show q - (s + 1) + 1 = e - s by omega] at h1
          rw [h1]
          exact fun y => by
            have := y.2
            dsimp only at this
            omega
        · have h44 : T q ≠ 44 := fun z => hc (decide_eq_true ⟨by omega, z⟩)
          have h1 : (rN T n s e N (q - (s + 1) + 1)).1 = false := by
            by_cases hdg : 48 ≤ T q ∧ T q ≤ 57
            · have hL : L = 2 := by
                rcases b5 with z | z
                · exact z
                · exact absurd hdg z
              rw [rn_dig hkq b3 hdg, hL]
              rfl
            · exact rn_bad hkq b3 hdg (fun z => by rcases z.1 with y | y <;> contradiction)
          rw [rn_stay h1 (m := e - s) (by omega)]
          exact fun y => by cases y.1
    · rw [if_neg hb]
      exact ⟨fun z => absurd z hb, fun z => i2 z⟩
theorem tNums_59 : tNums 59 = 0 := by decide
/-- one order, up to its ';' -/
theorem form_eq {T : Nat → Nat} {X s e : Nat} (G N : Nat → Nat) (hse : s ≤ e) (he : T e = 59) (heX : e < X) (hns : ∀ i, s ≤ i → i < e → T i ≠ 59) :
    (tForm T X (T s) (s + 1) G).1 = rOk T s e N ∧ (rOk T s e N = true → (tForm T X (T s) (s + 1) G).2.1 = e + 1 ∧ ∀ j, j < tNums (T s) → (tForm T X (T s) (s + 1) G).2.2 j = (rAll T s e N).2.2.2.2 j) := by
  by_cases hn : 0 < tNums (T s)
  · have hlt : s < e := by
      rcases Nat.lt_or_ge s e with z | z
      · exact z
      · have : s = e := by omega
        subst this
        rw [he, tNums_59] at hn
        omega
    obtain ⟨i1, i2⟩ := tR_rN (G := G) (N := N) hlt he heX hn (tNums (T s) - 1) (by omega)
    unfold tForm rOk rAll
    generalize tNums (T s) = n at hn i1 i2 ⊢
    by_cases hb : (tR T X n (s + 1) G (n - 1)).1 = true
    · obtain ⟨v, L, M, b1, b2, b3, b4, b5, b6, b7⟩ := i1 hb
      generalize hq : (tR T X n (s + 1) G (n - 1)).2.1 = q at b1 b2 b3 b5 ⊢
      generalize (tR T X n (s + 1) G (n - 1)).2.2 = G' at b6 b7 ⊢
      have hkq : s + 1 + (q - (s + 1)) = q := by omega
      by_cases hqe : q = e
      · have h1 := rn_del hkq b3 (by rw [hqe]; omega) ⟨Or.inl hqe, b4, by omega⟩
        rw [show q - (s + 1) + 1 = e - s by omega, show n - 1 + 1 = n by omega] at h1
        have hc : tHas T X q 59 = true := decide_eq_true ⟨by omega, by rw [hqe]; exact he⟩
        rw [if_pos ⟨hb, hc⟩, h1]
        dsimp only
        refine ⟨by rw [decide_eq_true ⟨hn, rfl⟩]; rfl, fun _ => ⟨by omega, fun j hj => ?_⟩⟩
        by_cases hj2 : j = n - 1
        · rw [hj2, upN_s]; exact b7
        · rw [upN_n _ _ hj2]; exact b6 j (by omega)
      · have hcn : ¬ tHas T X q 59 = true := fun z => hns q (by omega) (by omega) (of_decide_eq_true z).2
        have hf : (rN T n s e N (e - s)).1 = false := by
          by_cases hdg : 48 ≤ T q ∧ T q ≤ 57
          · have hL : L = 2 := by
              rcases b5 with z | z
              · exact z
              · exact absurd hdg z
            refine rn_stay (k := q - (s + 1) + 1) ?_ (by omega)
            rw [rn_dig hkq b3 hdg, hL]
            rfl
          · by_cases h44 : T q = 44
            · have h1 := rn_del hkq b3 hdg ⟨Or.inr h44, b4, by omega⟩
              rw [show n - 1 + 1 = n by omega] at h1
              exact rn_full he _ _ _ _ _ rfl (by omega) h1
            · exact rn_stay (rn_bad hkq b3 hdg (fun z => by rcases z.1 with y | y <;> contradiction)) (by omega)
        rw [if_neg (fun z => hcn z.2), hf]
        exact ⟨rfl, fun z => absurd z Bool.false_ne_true⟩
    · have hfa := i2 (Bool.eq_false_iff.mpr hb)
      have hr : ((rN T n s e N (e - s)).1 && decide (0 < n ∧ (rN T n s e N (e - s)).2.1 = n)) = false := by
        rw [Bool.eq_false_iff]
        intro z
        rw [Bool.and_eq_true, decide_eq_true_eq] at z
        exact hfa ⟨z.1, z.2.2⟩
      rw [if_neg (fun z => hb z.1), hr]
      exact ⟨rfl, fun z => absurd z Bool.false_ne_true⟩
  · have hr : rOk T s e N = false := by
      unfold rOk
      rw [Bool.eq_false_iff]
      intro z
      rw [Bool.and_eq_true, decide_eq_true_eq] at z
      exact hn z.2.1
    have ht : (tForm T X (T s) (s + 1) G).1 = false := by
      unfold tForm
      rw [if_neg]
      rintro ⟨z, -⟩
      rw [show tNums (T s) = 0 by omega] at z
      exact absurd z Bool.false_ne_true
    rw [hr, ht]
    exact ⟨rfl, fun z => absurd z Bool.false_ne_true⟩
theorem form_no {T : Nat → Nat} {X s : Nat} (G : Nat → Nat) (hs : s < X) (hns : ∀ i, s ≤ i → i < X → T i ≠ 59) : (tForm T X (T s) (s + 1) G).1 = false := by
  have h := tR_X (T := T) (X := X) (n := tNums (T s)) (G := G) (a := s + 1) (by omega) (tNums (T s) - 1)
  unfold tForm
  rw [if_neg]
  rintro ⟨-, hc⟩
  have := of_decide_eq_true hc
  exact hns _ (by omega) this.1 this.2
/-- an answer is an error for both or for none -/
def okR (r : Int32) : Prop := r < 0 ↔ ¬ (-1000001 < r)
theorem okR_n {x : Nat} (h : x < 2 ^ 31) : okR (nI x) := by
  refine ⟨fun z => absurd z (nI_pos h), fun z => absurd ?_ z⟩
  rw [Int32.lt_iff_toInt_lt, nI_toInt h, show ((-1000001 : Int32)).toInt = -1000001 by decide]
  omega
theorem okR_1 : okR (-1000001) := by unfold okR; decide
theorem okR_2 : okR (-1000002) := by unfold okR; decide
theorem okR_3 : okR (-1000003) := by unfold okR; decide
theorem okR_sl {S : Nat → Nat} (h7 : S 0 ≤ 7) (v : Int32) : okR (mSleeps S v).2 := by
  unfold mSleeps
  split
  · rename_i hv
    obtain ⟨i, hi, rfl⟩ := hasN_of (by omega) hv
    rw [ix_nI (by omega)]
    split
    · refine okR_n ?_
      have := cnt_le (fun v => decide (upN (upN S (5 + 4 * i + 0) 1) (5 + 4 * i + 3) (S 1) (5 + 4 * v + 0) = 0)) (upN (upN S (5 + 4 * i + 0) 1) (5 + 4 * i + 3) (S 1) 0)
      unfold mMany
      rw [upN_n _ _ (by omega), upN_n _ _ (by omega)] at this ⊢
      omega
    · exact okR_2
  · exact okR_1
theorem okR_wk {S : Nat → Nat} (hs : sI S) (h7 : S 0 ≤ 7) (h1 : S 1 ≤ 100000) (v : Int32) : okR (mWakes S v).2 := by
  unfold mWakes
  split
  · rename_i hv
    obtain ⟨i, hi, rfl⟩ := hasN_of (by omega) hv
    rw [ix_nI (by omega)]
    split
    · rename_i hz
      have := hs.2.2.1 i (by omega) hz
      dsimp only
      rw [pk_sub this]
      exact okR_n (by omega)
    · exact okR_2
  · exact okR_1
theorem okR_mr {S : Nat → Nat} {N : Nat} (hI : mI S N) (hN : N + 1 < 2 ^ 30) (v t a k : Int32) : okR (mTells S v t a k).2 := by
  have h7 := hI.1.2.2.1
  unfold mTells
  split
  · rename_i hc
    obtain ⟨i, hi, rfl⟩ := hasN_of (by omega) hc.1
    rw [ix_nI (by omega)]
    split
    · have := hI.2.2.1 i (by omega)
      refine okR_n ?_
      rw [mMake_c S (by omega)]
      omega
    · exact okR_2
  · exact okR_1
theorem okR_mt {S : Nat → Nat} {N : Nat} (hI : mI S N) (hN : N + 1 < 2 ^ 30) (v t : Int32) : okR (mBuries S v t).2 := by
  have h7 := hI.1.2.2.1
  unfold mBuries
  split
  · rename_i hc
    obtain ⟨i, hi, rfl⟩ := hasN_of (by omega) hc.1
    rw [ix_nI (by omega)]
    split
    · have := hI.2.2.1 i (by omega)
      refine okR_n ?_
      rw [mMake_c S (by omega)]
      omega
    · exact okR_2
  · exact okR_1
theorem okR_kt {V : Nat → Nat → Nat} (h7 : V 0 0 ≤ 7) (v u : Int32) : okR (kMeet V v u).2 := by
  unfold kMeet
  split
  · split
    · dsimp only
      refine okR_n ?_
      have := kTt_n V (ix v) (ix u) 12
      unfold kTk
      omega
    · exact okR_2
  · exact okR_1
theorem mTickI_c {S : Nat → Nat} (h7 : S 0 ≤ 7) : ∀ k, (mTickI S k).2 ≤ 84 * k
  | 0 => Nat.zero_le _
  | k + 1 => by
    have ih := mTickI_c h7 k
    have e0 := (mTickI_t h7 k).2
    have h1 : (mTick1 (mTickI S k).1).2 ≤ 12 * (mTickI S k).1 0 := by
      unfold mTick1
      exact mDv_c _ _ _
    rw [e0] at h1
    rw [mTickI_s]
    dsimp only
    omega
theorem okR_tk {S : Nat → Nat} (h7 : S 0 ≤ 7) (v : Int32) : okR (mTicks S v).2 := by
  unfold mTicks
  by_cases hv : inN 1 60 v = true
  · rw [if_pos hv]
    obtain ⟨k, hk1, hk, rfl⟩ := inN_of (by decide) hv
    rw [ix_nI (by omega)]
    by_cases hl : 100000 < S 1 + k
    · rw [if_pos hl]; exact okR_3
    · rw [if_neg hl]
      have := mTickI_c h7 k
      exact okR_n (by omega)
  · rw [if_neg hv]; exact okR_1
