/-- object o's parts are V -/
def wO (w : WD) (o : Nat) (V : Nat → Nat → Nat) : WD := (fun a => if a = o then V else w.1 a, w.2)
def vA (V : Nat → Nat → Nat) (k : Nat) (f : Nat → Nat) : Nat → Nat → Nat := fun b => if b = k then f else V b
def vU (V : Nat → Nat → Nat) (k i x : Nat) : Nat → Nat → Nat := vA V k (upN (V k) i x)
theorem wO_s (w : WD) (o : Nat) (V : Nat → Nat → Nat) : (wO w o V).1 o = V := by simp [wO]
theorem wO_n (w : WD) {o a : Nat} (V : Nat → Nat → Nat) (h : a ≠ o) : (wO w o V).1 a = w.1 a := by simp [wO, h]
theorem wO_2 (w : WD) (o : Nat) (V : Nat → Nat → Nat) : (wO w o V).2 = w.2 := rfl
theorem wO_id (w : WD) (o : Nat) : wO w o (w.1 o) = w := by
  refine Prod.ext (funext fun a => ?_) rfl
  by_cases h : a = o
  · subst h; simp [wO]
  · simp [wO, h]
theorem wO_wO (w : WD) (o : Nat) (V V' : Nat → Nat → Nat) : wO (wO w o V) o V' = wO w o V' := by
  refine Prod.ext (funext fun a => ?_) rfl
  by_cases h : a = o
  · subst h; simp [wO]
  · simp [wO, h]
theorem wO_comm (w : WD) {o o' : Nat} (V V' : Nat → Nat → Nat) (h : o ≠ o') : wO (wO w o V) o' V' = wO (wO w o' V') o V := by
  refine Prod.ext (funext fun a => ?_) rfl
  by_cases h1 : a = o
  · subst h1; simp [wO, h]
  · by_cases h2 : a = o'
    · subst h2; simp [wO, h1]
    · simp [wO, h1, h2]
theorem vA_s (V : Nat → Nat → Nat) (k : Nat) (f : Nat → Nat) : vA V k f k = f := by simp [vA]
theorem vA_n (V : Nat → Nat → Nat) {k b : Nat} (f : Nat → Nat) (h : b ≠ k) : vA V k f b = V b := by simp [vA, h]
theorem vA_vA (V : Nat → Nat → Nat) (k : Nat) (f f' : Nat → Nat) : vA (vA V k f) k f' = vA V k f' := by
  funext b
  by_cases h : b = k
  · subst h; simp [vA]
  · simp [vA, h]
theorem vA_id (V : Nat → Nat → Nat) (k : Nat) : vA V k (V k) = V := by
  funext b
  by_cases h : b = k
  · subst h; simp [vA]
  · simp [vA, h]
theorem vU_s (V : Nat → Nat → Nat) (k i x : Nat) : vU V k i x k = upN (V k) i x := by simp [vU, vA]
theorem vU_n (V : Nat → Nat → Nat) {k b : Nat} (i x : Nat) (h : b ≠ k) : vU V k i x b = V b := by simp [vU, vA, h]
theorem wA_wO (w : WD) (o k : Nat) (V : Nat → Nat → Nat) (f : Nat → Nat) : wA (wO w o V) o k f = wO w o (vA V k f) := by
  refine Prod.ext (funext fun a => funext fun b => ?_) rfl
  by_cases h : a = o
  · subst h
    by_cases hb : b = k
    · subst hb; simp [wA, wO, vA]
    · simp [wA, wO, vA, hb]
  · simp [wA, wO, h]
def fsVF (g : Geo) (o : Nat) (V : Nat → Nat → Nat) : List Value := [.int (nI (V 0 0)), .int (nI (V 0 1)), .int (nI (V 0 2)), .int (nI (V 0 3)), .ref (g_ad g o 1), .ref (g_ad g o 2), .ref (g_ad g o 3), .ref (g_ad g o 4), .ref (g_ad g o 5), .ref (g_ad g o 6), .ref (g_ad g o 7), .ref (g_ad g o 8), .ref (g_ad g o 9), .ref (g_ad g o 10), .ref (g_ad g o 11)]
theorem fsVF_e (g : Geo) (w : WD) (o : Nat) (V : Nat → Nat → Nat) : fsV g (wO w o V) o = fsVF g o V := by simp [fsV, fsVF, wO_s]
theorem pw_getVF {l : Launch} {g : Geo} {own : String} {cc : ByteArray} {rm : Room} {nL : Nat} {ret : Option FieldType} {fin : Option Value → WD → Prop} {X : Nat → Nat → (Nat → Int32) → Prop} {P : PT} (hX : Gd l g own cc rm nL ret fin X P) {w : WD} {pc q : Nat} {lv : List (Option Value)} {st : List Value} {V : Nat → Nat → Nat} {o : Nat} (ho : o < 7) (k : Nat) {v : Value} {index : Nat} (hk : k < 15) (hlink : Cond.fieldLink own index (TX2 k).1 (TX2 k).2.1 (TX2 k).2.2.1 ∈ TB) (hv : (fsVF g o V)[k]? = some v) (hd : decode cc pc = .ok (.getfield index, 3)) (hq : pc + 3 = q) (kk : P (wO w o V) q lv (v :: st)) : P (wO w o V) pc lv (.ref (g_ad g o 0) :: st) := pw_getV hX ho k hk hlink (by rw [fsVF_e]; exact hv) hd hq kk
theorem pw_putVF {l : Launch} {g : Geo} {own : String} {cc : ByteArray} {rm : Room} {nL : Nat} {ret : Option FieldType} {fin : Option Value → WD → Prop} {X : Nat → Nat → (Nat → Int32) → Prop} {P : PT} (hX : Gd l g own cc rm nL ret fin X P) {w : WD} {pc q : Nat} {lv : List (Option Value)} {st : List Value} {V : Nat → Nat → Nat} {o : Nat} (ho : o < 7) (k : Nat) {x index : Nat} (hk : k < 4) (hlink : Cond.fieldLink own index (TX2 k).1 (TX2 k).2.1 (TX2 k).2.2.1 ∈ TB) (hd : decode cc pc = .ok (.putfield index, 3)) (hq : pc + 3 = q) (kk : P (wO w o (vU V 0 k x)) q lv st) : P (wO w o V) pc lv (.int (nI x) :: .ref (g_ad g o 0) :: st) := pw_putV hX ho k hk hlink hd hq (by rw [wA_wO, wO_s]; exact kk)
theorem pw_ialdVF {l : Launch} {g : Geo} {own : String} {cc : ByteArray} {rm : Room} {nL : Nat} {ret : Option FieldType} {fin : Option Value → WD → Prop} {X : Nat → Nat → (Nat → Int32) → Prop} {P : PT} (hX : Gd l g own cc rm nL ret fin X P) {w : WD} {pc q : Nat} {lv : List (Option Value)} {st : List Value} {V : Nat → Nat → Nat} {o : Nat} (ho : o < 7) (k : Nat) {i : Nat} (hk : 1 ≤ k ∧ k < 12) (hlt : i < lnV k) (hd : decode cc pc = .ok (.iaload, 1)) (hq : pc + 1 = q) (kk : P (wO w o V) q lv (.int (nI (V k i)) :: st)) : P (wO w o V) pc lv (.int (nI i) :: .ref (g_ad g o k) :: st) := pw_ialdV hX ho k hk hlt hd hq (by rw [wO_s]; exact kk)
theorem pw_iastVF {l : Launch} {g : Geo} {own : String} {cc : ByteArray} {rm : Room} {nL : Nat} {ret : Option FieldType} {fin : Option Value → WD → Prop} {X : Nat → Nat → (Nat → Int32) → Prop} {P : PT} (hX : Gd l g own cc rm nL ret fin X P) {w : WD} {pc q : Nat} {lv : List (Option Value)} {st : List Value} {V : Nat → Nat → Nat} {o : Nat} (ho : o < 7) (k : Nat) {i x : Nat} (hk : 1 ≤ k ∧ k < 12) (hlt : i < lnV k) (hd : decode cc pc = .ok (.iastore, 1)) (hq : pc + 1 = q) (kk : P (wO w o (vU V k i x)) q lv st) : P (wO w o V) pc lv (.int (nI x) :: .int (nI i) :: .ref (g_ad g o k) :: st) := pw_iastV hX ho k hk hlt hd hq (by rw [wA_wO, wO_s]; exact kk)
theorem n_or (a b : Nat) : nI a ||| nI b = nI (a ||| b) := by
  apply Int32.toBitVec_inj.mp
  show BitVec.ofNat 32 a ||| BitVec.ofNat 32 b = BitVec.ofNat 32 (a ||| b)
  apply BitVec.eq_of_toNat_eq
  simp [BitVec.toNat_or, Nat.or_mod_two_pow]
theorem n_and (a b : Nat) : nI a &&& nI b = nI (a &&& b) := by
  apply Int32.toBitVec_inj.mp
  show BitVec.ofNat 32 a &&& BitVec.ofNat 32 b = BitVec.ofNat 32 (a &&& b)
  apply BitVec.eq_of_toNat_eq
  simp [BitVec.toNat_and, Nat.and_mod_two_pow]
theorem n_shc : ∀ n, n < 31 → (nI 1) <<< (nI n &&& 31) = nI (2 ^ n) := by decide +kernel
theorem pw_iorN {l : Launch} {g : Geo} {own : String} {cc : ByteArray} {rm : Room} {nL : Nat} {ret : Option FieldType} {fin : Option Value → WD → Prop} {X : Nat → Nat → (Nat → Int32) → Prop} {P : PT} (hX : Gd l g own cc rm nL ret fin X P) {w : WD} {pc q : Nat} {lv : List (Option Value)} {st : List Value} {a b : Nat} (hd : decode cc pc = .ok (.ior, 1)) (hq : pc + 1 = q) (kk : P w q lv (.int (nI (a ||| b)) :: st)) : P w pc lv (.int (nI b) :: .int (nI a) :: st) := pw_ior hX hd hq (by rw [n_or]; exact kk)
theorem pw_iandN {l : Launch} {g : Geo} {own : String} {cc : ByteArray} {rm : Room} {nL : Nat} {ret : Option FieldType} {fin : Option Value → WD → Prop} {X : Nat → Nat → (Nat → Int32) → Prop} {P : PT} (hX : Gd l g own cc rm nL ret fin X P) {w : WD} {pc q : Nat} {lv : List (Option Value)} {st : List Value} {a b : Nat} (hd : decode cc pc = .ok (.iand, 1)) (hq : pc + 1 = q) (kk : P w q lv (.int (nI (a &&& b)) :: st)) : P w pc lv (.int (nI b) :: .int (nI a) :: st) := pw_iand hX hd hq (by rw [n_and]; exact kk)
theorem pw_ishl1 {l : Launch} {g : Geo} {own : String} {cc : ByteArray} {rm : Room} {nL : Nat} {ret : Option FieldType} {fin : Option Value → WD → Prop} {X : Nat → Nat → (Nat → Int32) → Prop} {P : PT} (hX : Gd l g own cc rm nL ret fin X P) {w : WD} {pc q : Nat} {lv : List (Option Value)} {st : List Value} {b : Nat} (hb : b < 31) (hd : decode cc pc = .ok (.ishl, 1)) (hq : pc + 1 = q) (kk : P w q lv (.int (nI (2 ^ b)) :: st)) : P w pc lv (.int (nI b) :: .int (nI 1) :: st) := pw_ishl hX hd hq (by rw [n_shc _ hb]; exact kk)
theorem pw_iremN {l : Launch} {g : Geo} {own : String} {cc : ByteArray} {rm : Room} {nL : Nat} {ret : Option FieldType} {fin : Option Value → WD → Prop} {X : Nat → Nat → (Nat → Int32) → Prop} {P : PT} (hX : Gd l g own cc rm nL ret fin X P) {w : WD} {pc q : Nat} {lv : List (Option Value)} {st : List Value} {a b : Nat} (ha : a < 2 ^ 31) (h0 : 0 < b) (hb : b < 2 ^ 31) (hd : decode cc pc = .ok (.irem, 1)) (hq : pc + 1 = q) (kk : P w q lv (.int (nI (a % b)) :: st)) : P w pc lv (.int (nI b) :: .int (nI a) :: st) := pw_irem hX (fun z => by have h9 := (nI_eq (by omega) (by decide)).mp (z.trans nI_0.symm); omega) hd hq (by rw [pk_rem ha h0 hb]; exact kk)
theorem pw_idivN {l : Launch} {g : Geo} {own : String} {cc : ByteArray} {rm : Room} {nL : Nat} {ret : Option FieldType} {fin : Option Value → WD → Prop} {X : Nat → Nat → (Nat → Int32) → Prop} {P : PT} (hX : Gd l g own cc rm nL ret fin X P) {w : WD} {pc q : Nat} {lv : List (Option Value)} {st : List Value} {a b : Nat} (ha : a < 2 ^ 31) (h0 : 0 < b) (hb : b < 2 ^ 31) (hd : decode cc pc = .ok (.idiv, 1)) (hq : pc + 1 = q) (kk : P w q lv (.int (nI (a / b)) :: st)) : P w pc lv (.int (nI b) :: .int (nI a) :: st) := pw_idiv hX (fun z => by have h9 := (nI_eq (by omega) (by decide)).mp (z.trans nI_0.symm); omega) hd hq (by rw [pk_div ha h0 hb]; exact kk)
theorem loopUp {Z : Nat → Prop} {e : Nat} (h : ∀ i, i ≤ e → (i < e → Z (i + 1)) → Z i) : ∀ i, i ≤ e → Z i := by
  have key : ∀ d i, i ≤ e → e - i ≤ d → Z i := by
    intro d
    induction d with
    | zero => intro i hi hd; exact h i hi (fun hlt => by omega)
    | succ d ih => intro i hi hd; exact h i hi (fun hlt => ih (i + 1) (by omega) (by omega))
  exact fun i hi => key (e - i) i hi (Nat.le_refl _)
theorem CtI.at {l : Launch} {g : Geo} {y : MethodName} {bytes : ByteArray} {maxL : Nat} {ret : Option FieldType} {rm : Room} {av : List Value} {o : Nat} {w : WD} {r : Int32} {V' : Nat → Nat → Nat} (h : CtI l g y bytes maxL ret rm av (wO w o (w.1 o)) r (wO w o V')) : CtI l g y bytes maxL ret rm av w r (wO w o V') := by
  rw [wO_id] at h; exact h
theorem CtV.at {l : Launch} {g : Geo} {y : MethodName} {bytes : ByteArray} {maxL : Nat} {ret : Option FieldType} {rm : Room} {av : List Value} {o : Nat} {w : WD} {V' : Nat → Nat → Nat} (h : CtV l g y bytes maxL ret rm av (wO w o (w.1 o)) (wO w o V')) : CtV l g y bytes maxL ret rm av w (wO w o V') := by
  rw [wO_id] at h; exact h
/-- a number that an index test lets through -/
def hasN (n : Nat) (v : Int32) : Bool := decide (0 ≤ v.toInt ∧ v.toInt < n)
theorem hasN_nI {n i : Nat} (hi : i < 2 ^ 31) : hasN n (nI i) = decide (i < n) := by
  unfold hasN
  rw [nI_toInt hi]
  by_cases h : i < n
  · simp [h]
  · simp [h]
theorem hasN_of {n : Nat} {v : Int32} (hn : n < 2 ^ 31) (h : hasN n v = true) : ∃ i, i < n ∧ v = nI i := by
  unfold hasN at h
  have h := of_decide_eq_true h
  refine ⟨v.toInt.toNat, by omega, ?_⟩
  apply Int32.toInt_inj.mp
  rw [nI_toInt (by omega)]
  omega
/-- the reference: its row s is S, all else of it V -/
theorem vA_comm (V : Nat → Nat → Nat) {k k' : Nat} (f f' : Nat → Nat) (h : k ≠ k') : vA (vA V k f) k' f' = vA (vA V k' f') k f := by
  funext b
  by_cases h1 : b = k
  · subst h1; simp [vA, h]
  · by_cases h2 : b = k'
    · subst h2; simp [vA, h1]
    · simp [vA, h1, h2]
theorem jn {A B : Prop} (a : A) (f : A → B) : B := f a
def lle (l' l : List (Option Value)) : Prop := ∀ i v, lg l' i = some v → lg l i = some v
theorem lle_nil {l : List (Option Value)} : lle [] l := fun i v h => by simp [lg] at h
theorem lle_rfl {l : List (Option Value)} : lle l l := fun i v h => h
theorem lle_cons {a : Option Value} {l l' : List (Option Value)} (h : lle l' l) : lle (a :: l') (a :: l) := fun i v hi => by
  cases i with
  | zero => exact hi
  | succ i => exact h i v hi
theorem lle_none {b : Option Value} {l l' : List (Option Value)} (h : lle l' l) : lle (none :: l') (b :: l) := fun i v hi => by
  cases i with
  | zero => simp [lg] at hi
  | succ i => exact h i v hi
def ix (v : Int32) : Nat := v.toInt.toNat
theorem ix_nI {i : Nat} (h : i < 2 ^ 31) : ix (nI i) = i := by unfold ix; rw [nI_toInt h]; omega
/-- the first n of f, then g -/
def cp (n : Nat) (f g : Nat → Nat) : Nat → Nat := fun k => if k < n then f k else g k
theorem cp_0 (f g : Nat → Nat) : cp 0 f g = g := by funext k; simp [cp]
theorem cp_s (n : Nat) (f g : Nat → Nat) : upN (cp n f g) n (f n) = cp (n + 1) f g := by
  funext k
  by_cases h : k = n
  · subst h; simp [upN, cp]
  · simp only [upN, if_neg h, cp]
    by_cases h2 : k < n
    · rw [if_pos h2, if_pos (by omega)]
    · rw [if_neg h2, if_neg (by omega)]
theorem pw_fg {l : Launch} {g : Geo} {own : String} {cc : ByteArray} {rm : Room} {nL : Nat} {ret : Option FieldType} {fin : Option Value → WD → Prop} {X : Nat → Nat → (Nat → Int32) → Prop} {P : PT} (hX : Gd l g own cc rm nL ret fin X P) {w : WD} {pc : Nat} {lv : List (Option Value)} {st : List Value} {lv' : List (Option Value)} (hle : lle lv' lv) (kk : P w pc lv' st) : P w pc lv st := by
  obtain ⟨p, e, s, m, args, below, meth, c, cells, slots, Q, A, rfl, hx, hb, hml, hown, hTB, hNL, hK, hG, hcs, hScr, hri, hrv⟩ := hX
  intro H locs ls hP hS hl
  exact kk H locs ls hP hS ⟨hl.1, hl.2.1, fun i v h => hl.2.2 i v (hle i v h)⟩
