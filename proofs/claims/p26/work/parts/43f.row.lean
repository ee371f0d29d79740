/-! the law's row in the world -/
theorem w9_n (w : WD) (f : Nat → Nat) {o : Nat} (h : o ≠ 9) : (wA w 9 1 f).1 o = w.1 o := by
  funext b
  exact wA_n w f (fun z => h z.1)
theorem w9_0 (w : WD) (f : Nat → Nat) : (wA w 9 1 f).1 0 = w.1 0 := w9_n w f (by decide)
theorem w9V {w : WD} {f : Nat → Nat} (h : bV (w.1 0)) : bV ((wA w 9 1 f).1 0) := by rw [w9_0]; exact h
theorem w9W {w : WD} {f : Nat → Nat} {N G n : Nat} (h : WJ w N G n) : WJ (wA w 9 1 f) N G n := by
  obtain ⟨h1, h2, h3, h4⟩ := h
  exact ⟨⟨by rw [w9_n _ _ (by decide)]; exact h1.1, h1.2⟩, h2, by rw [w9_0]; exact h3, by rw [w9_0]; exact h4⟩
theorem Rec_9 {w : WD} (h : HH w) (V' : Nat → Nat → Nat) (r : Int32) : (Rec (wO (Prep w) 0 V') r).1 9 = w.1 9 := by
  have hs := h.s
  have p9 : (wO (Prep w) 0 V').1 9 = w.1 9 := by rw [wO_n _ _ (by decide), wO_n _ _ (by omega)]
  unfold Rec hKeep
  (repeat' split)
  · exact p9
  · rw [hKa_n _ _ _ (by decide)]; exact p9
  · rw [hKa_n _ _ _ (by decide)]; exact p9
theorem pw_iastR {l : Launch} {g : Geo} {own : String} {cc : ByteArray} {rm : Room} {nL : Nat} {ret : Option FieldType} {fin : Option Value → WD → Prop} {X : Nat → Nat → (Nat → Int32) → Prop} {P : PT} (hX : Gd l g own cc rm nL ret fin X P) (hf : g_fl g = true) {w : WD} {f : Nat → Nat} {pc q : Nat} {lv : List (Option Value)} {st : List Value} {i x : Nat} (hlt : i < 24) (hd : decode cc pc = .ok (.iastore, 1)) (hq : pc + 1 = q) (kk : P (wA w 9 1 (upN f i x)) q lv st) : P (wA w 9 1 f) pc lv (.int (nI x) :: .int (nI i) :: .ref (g_ad g 9 1) :: st) :=
  pw_iast hX (dm9 hf) (by decide) (by decide) rfl hlt hd hq (by rw [wA_s, wA_wA]; exact kk)
theorem pw_ialdR {l : Launch} {g : Geo} {own : String} {cc : ByteArray} {rm : Room} {nL : Nat} {ret : Option FieldType} {fin : Option Value → WD → Prop} {X : Nat → Nat → (Nat → Int32) → Prop} {P : PT} (hX : Gd l g own cc rm nL ret fin X P) (hf : g_fl g = true) {w : WD} {pc q : Nat} {lv : List (Option Value)} {st : List Value} {i : Nat} (hlt : i < 24) (hd : decode cc pc = .ok (.iaload, 1)) (hq : pc + 1 = q) (kk : P w q lv (.int (nI (w.1 9 1 i)) :: st)) : P w pc lv (.int (nI i) :: .ref (g_ad g 9 1) :: st) :=
  pw_iald hX (dm9 hf) (by decide) (by decide) rfl hlt hd hq kk
/-- the row behind i rounds -/
def wf (V : Nat → Nat → Nat) (a b i : Nat) : Nat → Nat := fun j => if j < i then V 5 (a * 12 + j) else if 12 ≤ j ∧ j < 12 + i then V 5 (b * 12 + (j - 12)) else 0
theorem wf_0 (V : Nat → Nat → Nat) (a b : Nat) : wf V a b 0 = fun _ => 0 := by
  funext j
  unfold wf
  rw [if_neg (by omega), if_neg (by omega)]
theorem wf_s (V : Nat → Nat → Nat) (a b : Nat) {i : Nat} (hi : i < 12) : upN (upN (wf V a b i) i (V 5 (a * 12 + i))) (12 + i) (V 5 (b * 12 + i)) = wf V a b (i + 1) := by
  funext j
  unfold upN wf
  by_cases h1 : j = 12 + i
  · subst h1
    rw [if_pos rfl, if_neg (by omega), if_pos (by omega), Nat.add_sub_cancel_left]
  · rw [if_neg h1]
    by_cases h2 : j = i
    · subst h2
      rw [if_pos rfl, if_pos (by omega)]
    · rw [if_neg h2]
      by_cases h3 : j < i
      · rw [if_pos h3, if_pos (by omega)]
      · rw [if_neg h3, if_neg (show ¬ j < i + 1 by omega)]
        by_cases h4 : 12 ≤ j ∧ j < 12 + i
        · rw [if_pos h4, if_pos (by omega)]
        · rw [if_neg h4, if_neg (by omega)]
theorem wf_a (V : Nat → Nat → Nat) (a b : Nat) {i : Nat} (hi : i < 12) : wf V a b 12 i = V 5 (a * 12 + i) := if_pos hi
theorem wf_b (V : Nat → Nat → Nat) (a b : Nat) {i : Nat} (hi : i < 12) : wf V a b 12 (12 + i) = V 5 (b * 12 + i) := by
  unfold wf
  rw [if_neg (by omega), if_pos (by omega), Nat.add_sub_cancel_left]
theorem kMeet_at {V : Nat → Nat → Nat} {a b : Nat} (hn : V 0 0 ≤ 7) (ha : a < V 0 0) (hb : b < V 0 0) (hne : a ≠ b) : kMeet V (nI a) (nI b) = if V 1 a = 0 ∧ V 1 b = 0 then ((kTk V a b).1, nI (kTk V a b).2) else (V, -1000002) := by
  unfold kMeet kTwo
  rw [hasn ha (by omega), hasn hb (by omega), decide_eq_true (show nI a ≠ nI b from fun z => hne ((nI_eq (by omega) (by omega)).mp z)), ixn (i := a) (by omega), ixn (i := b) (by omega)]
  rfl
theorem nGh_le {V : Nat → Nat → Nat} {N G : Nat} (h : J V N G) : nGh V (V 0 0) ≤ 7 * G := by
  have h0 := h.1
  have key : ∀ n, n ≤ 7 → sm (V 4) n ≤ n * G := by
    intro n
    induction n with
    | zero => intro _; exact Nat.zero_le _
    | succ n ih =>
      intro hn
      have := ih (by omega)
      have := (h.2.2.2.2.1 n (by omega)).2.2.2.1
      show sm (V 4) n + V 4 n ≤ (n + 1) * G
      rw [Nat.succ_mul]
      omega
  have := key (V 0 0) h0
  exact Nat.le_trans this (Nat.mul_le_mul_right G h0)
theorem cnt_mono {p : Nat → Bool} {n m : Nat} (h : n ≤ m) : cnt p n ≤ cnt p m := by
  induction m with
  | zero => rw [Nat.le_zero.mp h]; exact Nat.le_refl _
  | succ m ih =>
    by_cases hq : n = m + 1
    · rw [hq]; exact Nat.le_refl _
    · have := ih (by omega)
      rw [cnt_s]
      omega
theorem bits_congr {p q : Nat → Bool} {n : Nat} (h : ∀ i, i < n → p i = q i) : bits p n = bits q n := by
  apply Nat.eq_of_testBit_eq
  intro i
  rw [bits_tb, bits_tb]
  by_cases hi : i < n
  · rw [h i hi]
  · rw [decide_eq_false hi, Bool.false_and, Bool.false_and]
theorem qEO_ne {V : Nat → Nat → Nat} {v t : Nat} (hn : V 0 0 ≤ 7) (hv : v < V 0 0) (ht : t < 12) (h : ¬ kTmb V (v * 12 + t) = true) : qEO V (nI v) (nI t) (nI 0) ≠ nI 1 := by
  rw [Bool.not_eq_true] at h
  by_cases hz : V 5 (v * 12 + t) = 0
  · rw [qEO_z hn hv ht (by decide) hz]; decide
  · rw [qEO_0 hn hv ht hz, h]; decide
theorem qEO_t {V : Nat → Nat → Nat} {v t : Nat} (hn : V 0 0 ≤ 7) (hv : v < V 0 0) (ht : t < 12) (h : kTmb V (v * 12 + t) = true) : qEO V (nI v) (nI t) (nI 0) = nI 1 := by
  rw [qEO_0 hn hv ht (kTmb_0 h).1, h]; rfl
theorem pd_b {A B C D : Nat} (h : (A < C ∨ B < D) ↔ (A ≠ B ∧ C = D)) : (!(decide (A = B)) && !(!(decide (C = D)))) = decide (A < C ∨ B < D) := by
  by_cases hq : A ≠ B ∧ C = D
  · rw [decide_eq_true (h.mpr hq), decide_eq_false hq.1, decide_eq_true hq.2]; rfl
  · rw [decide_eq_false (fun z => hq (h.mp z))]
    by_cases h1 : A = B
    · rw [decide_eq_true h1]; rfl
    · rw [decide_eq_false (show ¬ C = D from fun z => hq ⟨h1, z⟩)]; cases decide (A = B) <;> rfl
theorem lu_b {A B C D : Nat} (h : C ≠ D → A ≠ B) : (!(decide (C = D)) && !(!(decide (A = B)))) = false := by
  by_cases h1 : C = D
  · rw [decide_eq_true h1]; rfl
  · rw [decide_eq_false h1, decide_eq_false (h h1)]; rfl
