/-! THE CALLS: refusals and answers -/
theorem nt {b : Bool} (h : b = false) : ¬ b = true := by rw [h]; decide
theorem ex_n {e a c : Int32} (he : e = c) (hc : ¬ c = 0) : chE e a e = c := by rw [chE_n (by rw [he]; exact hc), he]
theorem ex_0 {e a v : Int32} (he : e = 0) (ha : a = v) : chE e a e = v := by rw [chE_0 he, ha]
theorem ch_n {α : Type} {e c : Int32} {f : α} {g : Int32 → α} (he : e = c) (hc : ¬ c = 0) : chE e f (g e) = g c := by rw [chE_n (by rw [he]; exact hc), he]
theorem exR_n {e a c : Int32} (he : e = c) (hc : ¬ c = 0) : chE e a (1000000000 - e) = 1000000000 - c := by rw [chE_n (by rw [he]; exact hc), he]
theorem exR_0 {e a v : Int32} (he : e = 0) (ha : a = v) : chE e a (1000000000 - e) = v := by rw [chE_0 he, ha]
theorem exL_n {e c : Int32} {a : Int64} (he : e = c) (hc : ¬ c = 0) : chE e a (4000000000000000000 - e.toInt64) = 4000000000000000000 - c.toInt64 := by rw [chE_n (by rw [he]; exact hc), he]
theorem exL_0 {e : Int32} {a v : Int64} (he : e = 0) (ha : a = v) : chE e a (4000000000000000000 - e.toInt64) = v := by rw [chE_0 he, ha]
theorem inN_e {n : Nat} {x : Int32} (h : inN n x = true) (hn : n < 2 ^ 31) : x = nI (ix x) := by
  obtain ⟨j, _, e, e2⟩ := inN_of h hn
  rw [e2]; exact e
theorem isInB_out {x : Int32} {lo hi : Nat} (hh : hi < 2 ^ 30) (hl : lo ≤ hi) (h : ∀ v : Nat, lo ≤ v → v ≤ hi → v < 2 ^ 31 → ¬ x = nI v) : isInB x (nI lo) (nI hi) = false := by
  refine decide_eq_false (fun z => ?_)
  have z1 := z.1
  have z2 := z.2
  rw [Int32.le_iff_toInt_le, nI_toInt (by omega)] at z1 z2
  exact h x.toInt.toNat (by omega) (by omega) (by omega) (nI_int (by omega) (by omega))
theorem isInB_ok {x : Int32} {lo hi : Nat} (hh : hi < 2 ^ 30) (hl : lo ≤ hi) (h : isInB x (nI lo) (nI hi) = true) : x = nI (ix x) ∧ lo ≤ ix x ∧ ix x ≤ hi := by
  have z := of_decide_eq_true h
  have z1 := z.1
  have z2 := z.2
  rw [Int32.le_iff_toInt_le, nI_toInt (by omega)] at z1 z2
  have e : x = nI x.toInt.toNat := nI_int (by omega) (by omega)
  have e2 : ix x = x.toInt.toNat := by rw [e, ix_nI (by omega)]; congr 1; rw [← e]
  rw [e2]
  exact ⟨e, by omega, by omega⟩
theorem wrS_is {x : Int32} {lo hi : Nat} (h : wrS x (nI lo) (nI hi) = 0) : isInB x (nI lo) (nI hi) = true := by
  unfold wrS at h
  by_cases h1 : x < nI lo
  · rw [if_pos h1] at h; exact absurd h (by decide)
  · rw [if_neg h1] at h
    by_cases h2 : nI hi < x
    · rw [if_pos h2] at h; exact absurd h (by decide)
    · exact isInB_t h1 h2
theorem wrS_ok {x : Int32} {lo hi : Nat} (hh : hi < 2 ^ 30) (hl : lo ≤ hi) (h : wrS x (nI lo) (nI hi) = 0) : x = nI (ix x) ∧ lo ≤ ix x ∧ ix x ≤ hi := isInB_ok hh hl (wrS_is h)
theorem nlt0 {x : Int32} {hi : Nat} (hh : hi < 2 ^ 30) (h0 : ¬ x < 0) (h : ¬ nI hi < x) : x = nI (ix x) ∧ ix x ≤ hi := by
  have := isInB_ok (lo := 0) hh (Nat.zero_le _) (isInB_t h0 h)
  exact ⟨this.1, this.2.2⟩
def eLetter (lm : Nat) (c : Int32) : Int32 := if c < 0 then -4 else if nI 255 < c ∨ lm = 96 then -6 else 0
def yaR (lt : Nat → Int32) (lm : Nat) (r : Nat → Int32) : Nat → Int32 := if tlA lt lm r < 0 then r else tlQ lt lm r
def eGrave (r : Nat → Int32) (x w : Int32) : Int32 := if ¬ inN (nG r) x = true then -1 else if ¬ isInB w (nI 0) (nI 5) = true then -2 else 0
def aGrave (r : Nat → Int32) (x w : Int32) : Int32 := if w = nI 3 then r (iG (ix x) 1) / nI 12 else if w = nI 4 then wat r x else if w = nI 5 then dtfS r (ix x) else r (iG (ix x) (ix w))
def eMourner (r : Nat → Int32) (x w : Int32) : Int32 := if ¬ inN (nM r) x = true then -1 else if ¬ isInB w (nI 0) (nI 4) = true then -2 else 0
def aMourner (r : Nat → Int32) (x w : Int32) : Int32 := if w = nI 4 then weepS r (ix x) else r (iM (ix x) (ix w))
def eGoes (r : Nat → Int32) (x y : Int32) : Int32 := if ¬ inN (nM r) x = true then -1 else if ¬ inN (nG r) y = true then -1 else 0
def eLeaves (r : Nat → Int32) (x : Int32) : Int32 := if ¬ inN (nM r) x = true then -1 else if r (iM (ix x) 3) = -9 then -3 else 0
def eMo (r : Nat → Int32) (x : Int32) : Int32 := if ¬ inN (nM r) x = true then -1 else 0
def eGr (r : Nat → Int32) (x : Int32) : Int32 := if ¬ inN (nG r) x = true then -1 else 0
/-- a mourner (a grave) and a number between -/
def eMoW (r : Nat → Int32) (x v a b : Int32) : Int32 := if ¬ inN (nM r) x = true then -1 else if ¬ wrS v a b = 0 then wrS v a b else 0
def eGrW (r : Nat → Int32) (x v a b : Int32) : Int32 := if ¬ inN (nG r) x = true then -1 else if ¬ wrS v a b = 0 then wrS v a b else 0
def eW (v a b : Int32) : Int32 := if ¬ wrS v a b = 0 then wrS v a b else 0
def eTurn (r : Nat → Int32) (x k f : Int32) : Int32 := if ¬ inN (nM r) x = true then -1 else if ¬ isInB k (nI 0) (nI 5) = true then -2 else if ¬ wrS f (nI 0) (nI 9) = 0 then wrS f (nI 0) (nI 9) else 0
def eDays (r : Nat → Int32) (n : Int32) : Int32 := if ¬ wrS n (nI 1) (nI 60) = 0 then wrS n (nI 1) (nI 60) else if ¬ r 2 + n ≤ nI 999 then -6 else 0
def eGraveThen (r : Nat → Int32) (x n w : Int32) : Int32 := if ¬ inN (nG r) x = true then -1 else if ¬ wrS n (nI 0) (nI 60) = 0 then wrS n (nI 0) (nI 60) else if ¬ isInB w (nI 0) (nI 1) = true then -2 else 0
def eIs (w a b : Int32) : Int32 := if ¬ isInB w a b = true then -2 else 0
def aFirst (r : Nat → Int32) (w : Int32) : Int32 := if w = nI 0 then ftG r 61 r else if w = nI 1 then ftL r 61 r 0 else if w = nI 2 then dyL 61 r 0 else if w = nI 3 then exF r false (nG r) else exF r true (nG r)
def eSeat (r : Nat → Int32) (x : Int32) : Int32 := if ¬ x = -1 ∧ ¬ inN (nM r) x = true then -1 else 0
def eFewest (r : Nat → Int32) (x v n : Int32) : Int32 := if ¬ inN (nG r) x = true then -1 else if v < 0 ∨ n < 0 then -4 else if nI 99 < v ∨ nI 30 < n then -6 else 0
def eWIs (n a b w c d : Int32) : Int32 := if ¬ wrS n a b = 0 then wrS n a b else if ¬ isInB w c d = true then -2 else 0
def aSend (r : Nat → Int32) (n : Nat) (w : Int32) : Int32 := if (sdF r n (nM r)).1 = -9 ∨ w = nI 0 then (sdF r n (nM r)).1 else (sdF r n (nM r)).2
def aAlone (r : Nat → Int32) (w : Int32) : Int32 := if w = nI 0 then gwF r (nI 1) (nG r) else if w = nI 1 then gwF r (nI 0) (nG r) else doF r (nG r)
def aLevel (r : Nat → Int32) : Int32 := if nG r = 0 then nI 0 else r (iG (ix (exF r true (nG r))) 1) - r (iG (ix (exF r false (nG r))) 1)
def eTwo (r : Nat → Int32) (a b n : Int32) : Int32 := if ¬ (inN (nM r) a = true ∧ inN (nM r) b = true ∧ ¬ a = b) then -1 else if ¬ wrS n (nI 1) (nI 30) = 0 then wrS n (nI 1) (nI 30) else if r (iM (ix a) 3) = -9 ∨ r (iM (ix b) 3) = -9 then -3 else 0
def aTwo (r : Nat → Int32) (a b n : Int32) : Int32 := calmL r (ix a) (ix b) (ix n) (ix (r (iM (ix a) 3))) (ix (r (iM (ix b) 3))) 4 0
def eShare (r : Nat → Int32) (x p : Int32) : Int32 := if ¬ inN (nM r) x = true then -1 else if ¬ isInB p (nI 0) (nI 1) = true then -2 else if r (iM (ix x) 3) = -9 then -3 else 0
def aShare (r : Nat → Int32) (x p : Int32) : Int64 := partS (ix (weepS r (ix x))) (ix (wat r (r (iM (ix x) 3)))) p
def eWinter (r : Nat → Int32) (g n t v p : Int32) : Int32 := if ¬ inN (nG r) g = true then -1 else if n < 0 ∨ v < 0 ∨ t < nI 2 then -4 else if nI 7 < n ∨ nI 20 < t ∨ nI 99 < v then -6 else if ¬ isInB p (nI 0) (nI 1) = true then -2 else 0
def aWinter (r : Nat → Int32) (g n t v p : Int32) : Int64 := partS (wyF r (ix g) (ix n) (ix t) v (2 ^ ix n)) (powS (ix t) (ix n)) p
def aMean (r : Nat → Int32) (p : Int32) : Int64 := partS (ix (incS r)) (nG r) p
def eWhatIs (r : Nat → Int32) (x w : Int32) : Int32 := if ¬ inN (nM r) x = true then -1 else if ¬ isInB w (nI 0) (nI 1) = true then -2 else 0
def aWhatIs (r : Nat → Int32) (rw : Nat → Int32) (rm : Nat) (x w : Int32) : Int32 := if r (iM (ix x) 3) = -9 then nI 0 else if w = nI 0 then wiF r (ix x) 0 (ix (r (iM (ix x) 3))) rw rm 6 else wiF r (ix x) 1 (ix (r (iM (ix x) 3))) rw rm 10
def eRow (rm : Nat) (v : Int32) : Int32 := if ¬ wrS v (nI 0) (nI 99) = 0 then wrS v (nI 0) (nI 99) else if rm = 16 then -6 else 0
def jgL (r rw : Nat → Int32) : Nat → Nat → Int32
  | 0, _ => -9
  | f + 1, i => if i < nM r ∧ r (iM i 2) = rw i then jgL r rw f (i + 1) else nI i
def eLots (r : Nat → Int32) (n w : Int32) : Int32 := if ¬ wrS n (nI 1) (nI 20) = 0 then wrS n (nI 1) (nI 20) else if ¬ isInB w (nI 0) (nI 1) = true then -2 else if nG r = 0 then -3 else 0
def eOn (hi : Bool) : Int32 := if ¬ hi = true then -3 else 0
def aCount (r rf : Nat → Int32) (rm lm : Nat) (w : Int32) : Int32 := if isInB w (nI 11) (nI 16) = true then rf (ix w - 10) else if w = nI 0 then nI (nG r) else if w = nI 1 then nI (nM r) else if w = nI 2 then r 2 else if w = nI 3 then payS r else if w = nI 4 then incS r else if w = nI 5 then grfS r else if w = nI 6 then nI rm else if w = nI 7 then nI lm else -9
theorem jgL_t {r rw : Nat → Int32} {f i : Nat} (h : i < nM r) (h2 : r (iM i 2) = rw i) : jgL r rw (f + 1) i = jgL r rw f (i + 1) := if_pos ⟨h, h2⟩
theorem jgL_n {r rw : Nat → Int32} {f i : Nat} (h : ¬ (i < nM r ∧ r (iM i 2) = rw i)) : jgL r rw (f + 1) i = nI i := if_neg h
/-- the class's object -/
def go (h : Nat) (b : Nat → Nat) (rm : Nat) (hi : Bool) : va_W := eO h 4 [.ref (b 0), .ref (b 1), .ref (b 2), .ref (b 3), .ref (b 4), .ref (b 5), .ref (b 6), .ref (b 7), .int (nI rm), .int (bz hi)]
theorem yaR_n {lt r : Nat → Int32} {lm : Nat} (h : tlA lt lm r < 0) : yaR lt lm r = r := if_pos h
theorem yaR_p {lt r : Nat → Int32} {lm : Nat} (h : ¬ tlA lt lm r < 0) : yaR lt lm r = tlQ lt lm r := if_neg h
theorem lt_pr {x : Int32} (n : Nat) (hn : n < 2 ^ 30) (h : x < nI (n + 1)) : ¬ nI n < x := by
  rw [Int32.lt_iff_toInt_lt, nI_toInt (by omega)] at h ⊢
  omega
theorem ge_pr {x : Int32} (n : Nat) (hn : n < 2 ^ 30) (h : ¬ x < nI (n + 1)) : nI n < x := by
  rw [Int32.lt_iff_toInt_lt, nI_toInt (by omega)] at h ⊢
  omega
theorem aFirst_0 (r : Nat → Int32) : aFirst r (nI 0) = ftG r 61 r := by unfold aFirst; rw [if_pos rfl]
theorem aFirst_1 (r : Nat → Int32) : aFirst r (nI 1) = ftL r 61 r 0 := by unfold aFirst; rw [if_neg (by decide), if_pos rfl]
theorem aFirst_2 (r : Nat → Int32) : aFirst r (nI 2) = dyL 61 r 0 := by unfold aFirst; rw [if_neg (by decide), if_neg (by decide), if_pos rfl]
theorem aFirst_3 (r : Nat → Int32) : aFirst r (nI 3) = exF r false (nG r) := by unfold aFirst; rw [if_neg (by decide), if_neg (by decide), if_neg (by decide), if_pos rfl]
theorem aFirst_4 (r : Nat → Int32) : aFirst r (nI 4) = exF r true (nG r) := by unfold aFirst; rw [if_neg (by decide), if_neg (by decide), if_neg (by decide), if_neg (by decide)]
