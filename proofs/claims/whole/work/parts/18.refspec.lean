/-! the reference: pure rows -/
def isInB (v a b : Int32) : Bool := decide (a ≤ v ∧ v ≤ b)
def lsS (a b : Int32) : Int32 := if a < b then a else b
def okR (x : Int32) : Prop := ∃ c, c < 7 ∧ x = -nI c
def nof (f : Nat → Int32) (x : Int32) : Nat → Int32 := upd f (ix (-x)) (f (ix (-x)) + nI 1)
theorem okR_1 : okR (-1) := ⟨1, by decide, by decide⟩
theorem okR_2 : okR (-2) := ⟨2, by decide, by decide⟩
theorem okR_3 : okR (-3) := ⟨3, by decide, by decide⟩
theorem okR_4 : okR (-4) := ⟨4, by decide, by decide⟩
theorem okR_6 : okR (-6) := ⟨6, by decide, by decide⟩
theorem nof_e {f : Nat → Int32} {x : Int32} {c : Nat} (h : x = -nI c) (hc : c < 7) : nof f x = upd f c (f c + nI 1) := by
  unfold nof
  rw [h, Int32.neg_neg, ix_nI (by omega)]
def wrS (v a b : Int32) : Int32 := if v < a then -4 else if b < v then -6 else 0
theorem okR_wr {v a b : Int32} (h : ¬ wrS v a b = 0) : okR (wrS v a b) := by
  unfold wrS at h ⊢
  split
  · exact okR_4
  · split
    · exact okR_6
    · rename_i h1 h2
      rw [if_neg h1, if_neg h2] at h
      exact absurd rfl h
def chE {α : Type} (e : Int32) (a b : α) : α := if e = 0 then a else b
theorem chE_0 {α : Type} {e : Int32} {a b : α} (h : e = 0) : chE e a b = a := if_pos h
theorem chE_n {α : Type} {e : Int32} {a b : α} (h : ¬ e = 0) : chE e a b = b := if_neg h
theorem isInB_N {n : Nat} {x : Int32} (hn : n < 2 ^ 30) : isInB x (nI 0) (nI n - nI 1) = inN n x := by
  have h : (nI n - nI 1).toInt = (n : Int) - 1 := by
    have := pk_sub_toInt (a := n) (b := 1) hn (by decide)
    exact this
  unfold isInB inN
  congr 1
  rw [nI_0, Int32.le_iff_toInt_le, Int32.le_iff_toInt_le, h, Int32.toInt_zero]
  apply propext
  omega
theorem isInB_t {v a b : Int32} (h1 : ¬ v < a) (h2 : ¬ b < v) : isInB v a b = true := decide_eq_true ⟨Int32.not_lt.mp h1, Int32.not_lt.mp h2⟩
theorem isInB_f1 {v a b : Int32} (h1 : v < a) : isInB v a b = false := decide_eq_false fun z => absurd h1 (Int32.not_lt.mpr z.1)
theorem isInB_f2 {v a b : Int32} (h1 : b < v) : isInB v a b = false := decide_eq_false fun z => absurd h1 (Int32.not_lt.mpr z.2)
theorem ls_mn (n : Nat) (v : Int32) : lsS (nI n) v = if v < nI n then v else nI n := by
  unfold lsS
  by_cases h : nI n < v
  · rw [if_pos h, if_neg (Int32.not_lt.mpr (Int32.le_of_lt h))]
  · rw [if_neg h]
    by_cases q : v < nI n
    · rw [if_pos q]
    · rw [if_neg q]
      exact Int32.le_antisymm (Int32.not_lt.mp h) (Int32.not_lt.mp q)
theorem ls999 (v : Int32) : lsS (nI 999) v = mn999 v := ls_mn 999 v
theorem ls99 (v : Int32) : lsS (nI 99) v = mn99 v := ls_mn 99 v
theorem sumTo_cut {f : Nat → Int32} {n : Nat} : ∀ m, n ≤ m → (∀ k, n ≤ k → k < m → f k = nI 0) → sumTo f m = sumTo f n
  | 0, h, _ => by rw [show n = 0 by omega]
  | m + 1, h, hf => by
    by_cases e : n = m + 1
    · rw [e]
    · show sumTo f m + f m = _
      rw [hf m (by omega) (by omega), add0]
      exact sumTo_cut m (by omega) (fun k h1 h2 => hf k h1 (by omega))
theorem sumTo_cong {f g : Nat → Int32} : ∀ {n : Nat}, (∀ k, k < n → f k = g k) → sumTo f n = sumTo g n
  | 0, _ => rfl
  | n + 1, h => by
    show sumTo f n + f n = sumTo g n + g n
    rw [sumTo_cong (fun k hk => h k (by omega)), h n (by omega)]
theorem soakTo_nM {r : Nat → Int32} : ∀ k, nM (soakTo r k) = nM r
  | 0 => rfl
  | k + 1 => by
    show nM (soakX _ _ _) = _
    unfold soakX
    split
    · exact soakTo_nM k
    · rw [soak_nM]; exact soakTo_nM k
theorem soakTo_nG {r : Nat → Int32} : ∀ k, nG (soakTo r k) = nG r
  | 0 => rfl
  | k + 1 => by
    show nG (soakX _ _ _) = _
    unfold soakX
    split
    · exact soakTo_nG k
    · rw [soak_nG]; exact soakTo_nG k
theorem fadeTo_nM {r : Nat → Int32} : ∀ k, nM (fadeTo r k) = nM r
  | 0 => rfl
  | k + 1 => by rw [fadeTo_s, nM_M]; exact fadeTo_nM k
theorem fadeTo_nG {r : Nat → Int32} : ∀ k, nG (fadeTo r k) = nG r
  | 0 => rfl
  | k + 1 => by rw [fadeTo_s, nG_M]; exact fadeTo_nG k
theorem soakTo_cut {r : Nat → Int32} : ∀ m, nM r ≤ m → soakTo r m = soakTo r (nM r)
  | 0, h => by rw [show nM r = 0 by omega]
  | m + 1, h => by
    by_cases e : nM r = m + 1
    · rw [e]
    · rw [soakTo_s]
      have : pl (soakTo r m) m = -9 := by unfold pl; rw [soakTo_nM, if_neg (by omega)]
      rw [this, soakX_9]
      exact soakTo_cut m (by omega)
theorem upd_same {f : Nat → Int32} {i : Nat} {x : Int32} (h : f i = x) : upd f i x = f := by
  funext j
  unfold upd
  split
  · rename_i e; rw [e, h]
  · rfl
theorem fadeTo_cut {r : Nat → Int32} (hI : Inv r) : ∀ m, nM r ≤ m → m ≤ 6 → fadeTo r m = fadeTo r (nM r)
  | 0, h, _ => by rw [show nM r = 0 by omega]
  | m + 1, h, h6 => by
    by_cases e : nM r = m + 1
    · rw [e]
    · have ih := fadeTo_cut hI m (by omega) (by omega)
      have J := Inv_fadeTo hI m (by omega)
      have z := J.e0 (p := m) (by omega) (by rw [fadeTo_nM]; omega)
      obtain ⟨n, hn, e2⟩ := fadeK_ok (J.mK (p := m) (by omega)).2
      rw [fadeTo_s, ← ih]
      refine upd_same ?_
      rw [z, (J.mK (p := m) (by omega)).1, e2, mx0_ok (by omega) (by omega)]
      congr 1
      omega
def wdayS (r : Nat → Int32) : Nat → Int32 := fadeTo (upd r 2 (r 2 + nI 1)) 6
def dayB (r : Nat → Int32) (b : Bool) : Nat → Int32 := if b = true then wdayS r else dayS r
theorem nM_2 {r : Nat → Int32} {x : Int32} : nM (upd r 2 x) = nM r := by unfold nM; rw [upd_n (by decide)]
theorem nG_2 {r : Nat → Int32} {x : Int32} : nG (upd r 2 x) = nG r := by unfold nG; rw [upd_n (by decide)]
theorem dayS_cut {r : Nat → Int32} (hI : Inv r) : dayS r = fadeTo (soakTo (upd r 2 (r 2 + nI 1)) (nM r)) (nM r) := by
  have h6 := hI.m
  rw [dayS_e, soakTo_cut 6 (by rw [nM_2]; exact h6), nM_2]
  have J := Inv_soakTo (Inv_2 hI (x := r 2 + nI 1)) (nM r) h6
  have := fadeTo_cut J 6 (by rw [soakTo_nM, nM_2]; exact h6) (by omega)
  rw [soakTo_nM, nM_2] at this
  exact this
theorem wdayS_cut {r : Nat → Int32} (hI : Inv r) : wdayS r = fadeTo (upd r 2 (r 2 + nI 1)) (nM r) := by
  have h6 := hI.m
  have := fadeTo_cut (Inv_2 hI (x := r 2 + nI 1)) 6 (by rw [nM_2]; exact h6) (by omega)
  rw [nM_2] at this
  exact this
theorem soakTo_neg {r : Nat → Int32} {k : Nat} (h : pl (soakTo r k) k < 0) : soakTo r (k + 1) = soakTo r k := soakX_neg h
theorem soakTo_N {r : Nat → Int32} {k g : Nat} (h : pl (soakTo r k) k = nI g) (hg : g < 2 ^ 31) : soakTo r (k + 1) = soakS (soakTo r k) g (weepS (soakTo r k) k) := by
  show soakX _ _ _ = _
  rw [h, soakX_N hg]
theorem Inv_wdayS {r : Nat → Int32} (h : Inv r) : Inv (wdayS r) := Inv_fadeTo (Inv_2 h) 6 (Nat.le_refl 6)
theorem Inv_dayB {r : Nat → Int32} (h : Inv r) (b : Bool) : Inv (dayB r b) := by
  unfold dayB
  split
  · exact Inv_wdayS h
  · exact Inv_dayS h
theorem dayS_nG {r : Nat → Int32} : nG (dayS r) = nG r := by rw [dayS_e, fadeTo_nG, soakTo_nG, nG_2]
theorem dayS_nM {r : Nat → Int32} : nM (dayS r) = nM r := by rw [dayS_e, fadeTo_nM, soakTo_nM, nM_2]
theorem daysS_nG {r : Nat → Int32} : ∀ k, nG (daysS r k) = nG r
  | 0 => rfl
  | k + 1 => by rw [daysS_s, dayS_nG]; exact daysS_nG k
theorem daysS_nM {r : Nat → Int32} : ∀ k, nM (daysS r k) = nM r
  | 0 => rfl
  | k + 1 => by rw [daysS_s, dayS_nM]; exact daysS_nM k
theorem payS_cut {r : Nat → Int32} (hI : Inv r) : payS r = sumTo (fun g => r (iG g 1) / nI 12) (nG r) := by
  have h5 := hI.g
  exact sumTo_cut 5 h5 fun k h1 h2 => by rw [hI.d0 h2 h1]; decide
theorem incS_cut {r : Nat → Int32} (hI : Inv r) : incS r = sumTo (fun g => r (iG g 1)) (nG r) := by
  have h5 := hI.g
  exact sumTo_cut 5 h5 fun k h1 h2 => by rw [hI.d0 h2 h1]
theorem grfS_cut {r : Nat → Int32} (hI : Inv r) : grfS r = sumTo (fun p => r (iM p 2)) (nM r) := by
  have h6 := hI.m
  exact sumTo_cut 6 h6 fun k h1 h2 => by rw [hI.e0 h2 h1]
theorem pl_in {r : Nat → Int32} {p : Nat} (h : p < nM r) : pl r p = r (iM p 3) := if_pos h
theorem pl_out {r : Nat → Int32} {p : Nat} (h : nM r ≤ p) : pl r p = -9 := if_neg (by omega)
theorem ppl_cut {r : Nat → Int32} (hI : Inv r) {x : Int32} (hx : ¬ x = -9) : ppl r x = sumTo (fun p => if r (iM p 3) = x then nI 1 else nI 0) (nM r) := by
  have h6 := hI.m
  rw [ppl, sumTo_cut (n := nM r) 6 h6 (fun k h1 h2 => by show (if pl r k = x then nI 1 else nI 0) = nI 0; rw [pl_out h1, if_neg (fun z => hx z.symm)])]
  exact sumTo_cong fun k hk => by rw [pl_in hk]
theorem wat_cut {r : Nat → Int32} (hI : Inv r) {x : Int32} (hx : ¬ x = -9) : wat r x = sumTo (fun p => if r (iM p 3) = x then weepS r p else nI 0) (nM r) := by
  have h6 := hI.m
  rw [wat, sumTo_cut (n := nM r) 6 h6 (fun k h1 h2 => by show (if pl r k = x then weepS r k else nI 0) = nI 0; rw [pl_out h1, if_neg (fun z => hx z.symm)])]
  exact sumTo_cong fun k hk => by rw [pl_in hk]
def mo (h : Nat) (a : Nat → Nat) (hi : Bool) (lm rm pc : Nat) (bi sd : Int32) : va_W := eO h 5 [.ref (a 0), .ref (a 1), .ref (a 2), .ref (a 3), .int (bz hi), .ref (a 4), .ref (a 5), .ref (a 6), .int (nI lm), .int (nI rm), .int (nI pc), .ref (a 7), .ref (a 8), .ref (a 9), .ref (a 10), .int bi, .int sd]
def hasB (set k : Nat) : Bool := decide (set / 2 ^ k % 2 = 1)
theorem has_sh {s k : Nat} (hs : s < 64) (hk : k < 32) : nI s >>> (nI k &&& 31) = nI (s / 2 ^ k) := by
  have e : ∀ k, k < 32 → ((nI k &&& 31).toBitVec.smod 32).toNat = k := by decide +kernel
  exact pk_shrN (by omega) _ k (e k hk)
theorem and1 (n : Nat) : nI n &&& nI 1 = nI (n % 2) := by
  show Int32.ofNat n &&& Int32.ofNat 1 = Int32.ofNat (n % 2)
  apply Int32.toBitVec_inj.mp
  apply BitVec.eq_of_toNat_eq
  have e : n &&& 1 = n % 2 := Nat.and_one_is_mod n
  simp [Int32.toBitVec_and, ← Nat.and_mod_two_pow, e]
  omega
