/-! LETTERS: what they say -/
def sgS (lt : Nat → Int32) (lm p : Nat) : Int32 := if p < lm then lt p else nI 0
def dgV (x : Int32) : Int32 := if nI 0 < (if x - nI 48 < nI 9 then x - nI 48 else nI 9) then (if x - nI 48 < nI 9 then x - nI 48 else nI 9) else nI 0
def dgL (lt : Nat → Int32) (lm p : Nat) : Int32 := dgV (sgS lt lm p)
def twL (lt : Nat → Int32) (lm p : Nat) : Int32 := nI 10 * dgL lt lm p + dgL lt lm (p + 1)
def lnS (c : Int32) : Nat := if c = nI 103 ∨ c = nI 110 ∨ c = nI 116 then 3 else if c = nI 97 ∨ c = nI 100 ∨ c = nI 104 then 4 else if c = nI 109 then 6 else 0
def fiS (lt : Nat → Int32) (lm p i len : Nat) : Bool := if i + 1 = len then decide (sgS lt lm (p + i) = nI 59) else if i = 1 ∧ sgS lt lm p = nI 109 then decide (¬ kindC (sgS lt lm (p + i)) = -9) else isInB (sgS lt lm (p + i)) (nI 48) (nI 57)
def miI (lt : Nat → Int32) (lm p len : Nat) : Nat → Nat → Option Nat
  | 0, _ => none
  | f + 1, i => if p + i < lm ∧ fiS lt lm p i len = true then miI lt lm p len f (i + 1) else some (p + i)
def miO (lt : Nat → Int32) (lm : Nat) : Nat → Nat → Int32
  | 0, _ => -9
  | f + 1, p => if p < lm then (if lnS (sgS lt lm p) = 0 then nI p else match miI lt lm p (lnS (sgS lt lm p)) (lnS (sgS lt lm p) - 1) 1 with
    | some x => nI x
    | none => miO lt lm f (p + lnS (sgS lt lm p))) else -9
def fMis (lt : Nat → Int32) (lm : Nat) : Int32 := if lm = 0 then nI 0 else miO lt lm (lm + 1) 0
/-- a statement comes: whether it can, and what it makes -/
def dnB (q : Nat → Int32) (c a b : Int32) : Bool := if c = nI 103 then decide (nG q < 5) else if c = nI 109 then decide (nM q < 6) else if c = nI 97 then inN (nM q) a && inN (nG q) b else if c = nI 110 ∨ c = nI 116 then inN (nM q) a else if c = nI 104 then inN (nG q) a else if c = nI 100 then decide (nI 1 ≤ a ∧ a ≤ nI 60 ∧ q 2 + a ≤ nI 999) else false
def dnQ (q : Nat → Int32) (c a b e : Int32) : Nat → Int32 := if c = nI 103 then addGr q a else if c = nI 109 then addMo q a b e else if c = nI 97 then upd q (iM (ix a) 3) b else if c = nI 110 then upd q (iM (ix a) 3) (-9) else if c = nI 116 then tellS q (ix a) else if c = nI 104 then upd q (iG (ix a) 0) b else daysS q (ix a)
def arA (lt : Nat → Int32) (lm p : Nat) : Int32 := if sgS lt lm p = nI 109 then kindC (sgS lt lm (p + 1)) else if sgS lt lm p = nI 100 then twL lt lm (p + 1) else dgL lt lm (p + 1)
def stB (q lt : Nat → Int32) (lm p : Nat) : Bool := dnB q (sgS lt lm p) (arA lt lm p) (dgL lt lm (p + 2))
def stR (q lt : Nat → Int32) (lm p : Nat) : Nat → Int32 := if stB q lt lm p = true then dnQ q (sgS lt lm p) (arA lt lm p) (dgL lt lm (p + 2)) (twL lt lm (p + 3)) else q
def tlO (lt : Nat → Int32) (lm : Nat) : Nat → Nat → Nat → (Nat → Int32) → Int32 × (Nat → Int32)
  | 0, _, n, q => (nI n, q)
  | f + 1, p, n, q => if p < lm then (if stB q lt lm p = true then tlO lt lm f (p + lnS (sgS lt lm p)) (n + 1) (stR q lt lm p) else (-2000 - nI p, q)) else (nI n, q)
def tlA (lt : Nat → Int32) (lm : Nat) (q : Nat → Int32) : Int32 := if fMis lt lm = -9 then (tlO lt lm (lm + 1) 0 0 q).1 else -1000 - fMis lt lm
def tlQ (lt : Nat → Int32) (lm : Nat) (q : Nat → Int32) : Nat → Int32 := if fMis lt lm = -9 then (tlO lt lm (lm + 1) 0 0 q).2 else q
def addGX (r : Nat → Int32) (v : Int32) : Nat → Int32 := if nG r < 5 then addGr r v else r
def addMX (r : Nat → Int32) (k f e : Int32) : Nat → Int32 := if nM r < 6 then addMo r k f e else r
def cmX (r : Nat → Int32) (x y : Int32) : Nat → Int32 := if (inN (nM r) x && inN (nG r) y) = true then upd r (iM (ix x) 3) y else r
def dgB (r : Nat → Int32) (a : Int32) : Bool := decide (nI 1 ≤ a ∧ a ≤ nI 60 ∧ r 2 + a ≤ nI 999)
def dgX (r : Nat → Int32) (a : Int32) : Nat → Int32 := if dgB r a = true then daysS r (ix a) else r
theorem lnS_n {c : Int32} (h : ∀ v : Nat, 97 ≤ v → v ≤ 116 → v < 2 ^ 31 → ¬ c = nI v) : lnS c = 0 := by
  unfold lnS
  rw [if_neg (fun z => z.elim (h 103 (by decide) (by decide) (by decide)) (fun z => z.elim (h 110 (by decide) (by decide) (by decide)) (h 116 (by decide) (by decide) (by decide)))), if_neg (fun z => z.elim (h 97 (by decide) (by decide) (by decide)) (fun z => z.elim (h 100 (by decide) (by decide) (by decide)) (h 104 (by decide) (by decide) (by decide)))), if_neg (h 109 (by decide) (by decide) (by decide))]
theorem lnS_le (c : Int32) : lnS c ≤ 6 ∧ (¬ lnS c = 0 → 3 ≤ lnS c) := by
  unfold lnS
  repeat' split
  all_goals omega
theorem lnS_m {c : Int32} (h : c = nI 109) : lnS c = 6 := by rw [h]; rfl
theorem nI_int {x : Int32} {n : Nat} (h : x.toInt = n) (hn : n < 2 ^ 31) : x = nI n := Int32.toInt_inj.mp (by rw [h, nI_toInt hn])
theorem dgV_ok (x : Int32) : okN 9 (dgV x) := by
  unfold dgV
  generalize x - nI 48 = y
  have h9 : (nI 9).toInt = 9 := rfl
  have h0 : (nI 0).toInt = 0 := rfl
  by_cases h : y < nI 9
  · rw [if_pos h]
    by_cases g : nI 0 < y
    · rw [if_pos g]
      rw [Int32.lt_iff_toInt_lt, h9] at h
      rw [Int32.lt_iff_toInt_lt, h0] at g
      exact okN_of (n := y.toInt.toNat) (nI_int (by omega) (by omega)) (by omega) (by decide)
    · rw [if_neg g]; exact okN_nI (by decide) (by decide)
  · rw [if_neg h]; exact okN_nI (by decide) (by decide)
theorem dgL_ok (lt : Nat → Int32) (lm p : Nat) : okN 9 (dgL lt lm p) := dgV_ok _
theorem twL_ok (lt : Nat → Int32) (lm p : Nat) : okN 99 (twL lt lm p) := by
  obtain ⟨e1, l1⟩ := dgL_ok lt lm p
  obtain ⟨e2, l2⟩ := dgL_ok lt lm (p + 1)
  unfold twL
  rw [e1, e2, pk_mul, nI_add]
  exact okN_nI (by omega) (by decide)
theorem kindC_ok {c : Int32} (h : ¬ kindC c = -9) : okN 5 (kindC c) := by
  unfold kindC at h ⊢
  repeat' split
  all_goals first | exact okN_nI (by decide) (by decide) | skip
  simp_all
theorem miI_t {lt : Nat → Int32} {lm p len f i : Nat} (h1 : p + i < lm) (h2 : fiS lt lm p i len = true) : miI lt lm p len (f + 1) i = miI lt lm p len f (i + 1) := if_pos ⟨h1, h2⟩
theorem miI_n {lt : Nat → Int32} {lm p len f i : Nat} (h : ¬ (p + i < lm ∧ fiS lt lm p i len = true)) : miI lt lm p len (f + 1) i = some (p + i) := if_neg h
theorem miO_e {lt : Nat → Int32} {lm f p : Nat} (h : ¬ p < lm) : miO lt lm f p = -9 := by
  cases f
  · rfl
  · exact if_neg h
theorem miO_0 {lt : Nat → Int32} {lm f p : Nat} (h : p < lm) (h0 : lnS (sgS lt lm p) = 0) : miO lt lm (f + 1) p = nI p := by
  show (if p < lm then _ else _) = _
  rw [if_pos h, if_pos h0]
theorem miO_s {lt : Nat → Int32} {lm f p x : Nat} (h : p < lm) (h0 : ¬ lnS (sgS lt lm p) = 0) (h1 : miI lt lm p (lnS (sgS lt lm p)) (lnS (sgS lt lm p) - 1) 1 = some x) : miO lt lm (f + 1) p = nI x := by
  show (if p < lm then _ else _) = _
  rw [if_pos h, if_neg h0, h1]
theorem miO_n {lt : Nat → Int32} {lm f p : Nat} (h : p < lm) (h0 : ¬ lnS (sgS lt lm p) = 0) (h1 : miI lt lm p (lnS (sgS lt lm p)) (lnS (sgS lt lm p) - 1) 1 = none) : miO lt lm (f + 1) p = miO lt lm f (p + lnS (sgS lt lm p)) := by
  show (if p < lm then _ else _) = _
  rw [if_pos h, if_neg h0, h1]
theorem miI_all {lt : Nat → Int32} {lm p len : Nat} : ∀ {f i : Nat}, miI lt lm p len f i = none → ∀ j, i ≤ j → j < i + f → p + j < lm ∧ fiS lt lm p j len = true
  | 0, _, _, _, _, _ => by omega
  | f + 1, i, h, j, h1, h2 => by
    by_cases c : p + i < lm ∧ fiS lt lm p i len = true
    · by_cases e : i = j
      · subst e; exact c
      · rw [miI_t c.1 c.2] at h
        exact miI_all h j (by omega) (by omega)
    · rw [miI_n c] at h
      cases h
/-- what fits at a place where nothing misfits -/
theorem miO_ok {lt : Nat → Int32} {lm f p : Nat} (hp : p < lm) (h : miO lt lm (f + 1) p = -9) (hl : lm < 2 ^ 20) : ¬ lnS (sgS lt lm p) = 0 ∧ p + lnS (sgS lt lm p) ≤ lm ∧ (∀ j, 1 ≤ j → j < lnS (sgS lt lm p) → fiS lt lm p j (lnS (sgS lt lm p)) = true) ∧ miO lt lm f (p + lnS (sgS lt lm p)) = -9 := by
  have h0 : ¬ lnS (sgS lt lm p) = 0 := fun z => by
    rw [miO_0 hp z] at h
    exact nI_n9 (by omega) h
  have h3 := (lnS_le (sgS lt lm p)).2 h0
  cases e : miI lt lm p (lnS (sgS lt lm p)) (lnS (sgS lt lm p) - 1) 1 with
  | none =>
    rw [miO_n hp h0 e] at h
    have q := miI_all e
    exact ⟨h0, by have := (q (lnS (sgS lt lm p) - 1) (by omega) (by omega)).1; omega, fun j h1 h2 => (q j h1 (by omega)).2, h⟩
  | some x =>
    have hx : x < p + 6 := by
      have : ∀ {f i : Nat}, i + f ≤ 6 → miI lt lm p (lnS (sgS lt lm p)) f i = some x → x < p + 6 := by
        intro f
        induction f with
        | zero => intro i _ z; cases z
        | succ f ih =>
          intro i hi z
          by_cases c : p + i < lm ∧ fiS lt lm p i (lnS (sgS lt lm p)) = true
          · rw [miI_t c.1 c.2] at z; exact ih (by omega) z
          · rw [miI_n c] at z; cases z; omega
      exact this (by have := (lnS_le (sgS lt lm p)).1; omega) e
    rw [miO_s hp h0 e] at h
    exact absurd h (nI_n9 (by omega))
theorem miO_kind {lt : Nat → Int32} {lm f p : Nat} (hp : p < lm) (h : miO lt lm (f + 1) p = -9) (hl : lm < 2 ^ 20) (hc : sgS lt lm p = nI 109) : okN 5 (kindC (sgS lt lm (p + 1))) := by
  have q := (miO_ok hp h hl).2.2.1 1 (by decide) (by rw [lnS_m hc]; decide)
  rw [lnS_m hc] at q
  unfold fiS at q
  rw [if_neg (by decide), if_pos ⟨rfl, hc⟩] at q
  exact kindC_ok (of_decide_eq_true q)
theorem fMis_s {lt : Nat → Int32} {lm : Nat} (h : ¬ lm = 0) : fMis lt lm = miO lt lm (lm + 1) 0 := if_neg h
/-! what each statement makes -/
section ST
variable {q lt : Nat → Int32} {lm p : Nat}
theorem stB_of {c : Int32} (h : sgS lt lm p = c) : stB q lt lm p = dnB q c (if c = nI 109 then kindC (sgS lt lm (p + 1)) else if c = nI 100 then twL lt lm (p + 1) else dgL lt lm (p + 1)) (dgL lt lm (p + 2)) := by
  unfold stB arA
  rw [h]
theorem stR_of {c : Int32} (h : sgS lt lm p = c) : stR q lt lm p = if stB q lt lm p = true then dnQ q c (if c = nI 109 then kindC (sgS lt lm (p + 1)) else if c = nI 100 then twL lt lm (p + 1) else dgL lt lm (p + 1)) (dgL lt lm (p + 2)) (twL lt lm (p + 3)) else q := by
  unfold stR arA
  rw [h]
theorem stB_g (h : sgS lt lm p = nI 103) : stB q lt lm p = decide (nG q < 5) := (stB_of h).trans rfl
theorem stB_m (h : sgS lt lm p = nI 109) : stB q lt lm p = decide (nM q < 6) := (stB_of h).trans rfl
theorem stB_a (h : sgS lt lm p = nI 97) : stB q lt lm p = (inN (nM q) (dgL lt lm (p + 1)) && inN (nG q) (dgL lt lm (p + 2))) := (stB_of h).trans rfl
theorem stB_no (h : sgS lt lm p = nI 110) : stB q lt lm p = inN (nM q) (dgL lt lm (p + 1)) := (stB_of h).trans rfl
theorem stB_t (h : sgS lt lm p = nI 116) : stB q lt lm p = inN (nM q) (dgL lt lm (p + 1)) := (stB_of h).trans rfl
theorem stB_h (h : sgS lt lm p = nI 104) : stB q lt lm p = inN (nG q) (dgL lt lm (p + 1)) := (stB_of h).trans rfl
theorem stB_d (h : sgS lt lm p = nI 100) : stB q lt lm p = dgB q (twL lt lm (p + 1)) := (stB_of h).trans rfl
theorem stB_z (h : ¬ sgS lt lm p = nI 103) (h2 : ¬ sgS lt lm p = nI 109) (h3 : ¬ sgS lt lm p = nI 97) (h4 : ¬ sgS lt lm p = nI 110) (h5 : ¬ sgS lt lm p = nI 116) (h6 : ¬ sgS lt lm p = nI 104) (h7 : ¬ sgS lt lm p = nI 100) : stB q lt lm p = false := by
  unfold stB dnB
  rw [if_neg h, if_neg h2, if_neg h3, if_neg (fun z => z.elim h4 h5), if_neg h6, if_neg h7]
theorem stB_out (h : ∀ v : Nat, 97 ≤ v → v ≤ 116 → v < 2 ^ 31 → ¬ sgS lt lm p = nI v) : stB q lt lm p = false :=
  stB_z (h 103 (by decide) (by decide) (by decide)) (h 109 (by decide) (by decide) (by decide)) (h 97 (by decide) (by decide) (by decide)) (h 110 (by decide) (by decide) (by decide)) (h 116 (by decide) (by decide) (by decide)) (h 104 (by decide) (by decide) (by decide)) (h 100 (by decide) (by decide) (by decide))
theorem stB_v {v : Nat} (h : sgS lt lm p = nI v) (hv : v < 2 ^ 31) (h2 : v ≠ 103 ∧ v ≠ 109 ∧ v ≠ 97 ∧ v ≠ 110 ∧ v ≠ 116 ∧ v ≠ 104 ∧ v ≠ 100) : stB q lt lm p = false := by
  have n : ∀ w : Nat, w < 2 ^ 31 → v ≠ w → ¬ sgS lt lm p = nI w := fun w hw hne e => hne (by
    have := congrArg Int32.toInt (h.symm.trans e)
    rw [nI_toInt hv, nI_toInt hw] at this
    omega)
  exact stB_z (n _ (by decide) h2.1) (n _ (by decide) h2.2.1) (n _ (by decide) h2.2.2.1) (n _ (by decide) h2.2.2.2.1) (n _ (by decide) h2.2.2.2.2.1) (n _ (by decide) h2.2.2.2.2.2.1) (n _ (by decide) h2.2.2.2.2.2.2)
theorem stR_f (h : stB q lt lm p = false) : stR q lt lm p = q := if_neg (by rw [h]; decide)
theorem stR_g (h : sgS lt lm p = nI 103) : stR q lt lm p = addGX q (dgL lt lm (p + 1)) := by
  rw [stR_of h, stB_g h]
  unfold addGX
  by_cases z : nG q < 5
  · rw [if_pos (decide_eq_true z), if_pos z]; rfl
  · rw [if_neg (by simpa using z), if_neg z]
theorem stR_m (h : sgS lt lm p = nI 109) : stR q lt lm p = addMX q (kindC (sgS lt lm (p + 1))) (dgL lt lm (p + 2)) (twL lt lm (p + 3)) := by
  rw [stR_of h, stB_m h]
  unfold addMX
  by_cases z : nM q < 6
  · rw [if_pos (decide_eq_true z), if_pos z]; rfl
  · rw [if_neg (by simpa using z), if_neg z]
theorem stR_a (h : sgS lt lm p = nI 97) : stR q lt lm p = cmX q (dgL lt lm (p + 1)) (dgL lt lm (p + 2)) := by
  rw [stR_of h, stB_a h]
  rfl
theorem stR_no (h : sgS lt lm p = nI 110) : stR q lt lm p = setM q 3 (dgL lt lm (p + 1)) (-9) := by
  rw [stR_of h, stB_no h]
  rfl
theorem tellX_if (r : Nat → Int32) (x : Int32) : tellX r x = if inN (nM r) x = true then tellS r (ix x) else r := by
  unfold tellX setM
  by_cases z : inN (nM r) x = true
  · rw [if_pos z, if_pos z]
    unfold tellS mv
    rw [if_pos z, if_pos z]
  · rw [if_neg z, if_neg z]
theorem stR_t (h : sgS lt lm p = nI 116) : stR q lt lm p = tellX q (dgL lt lm (p + 1)) := by
  rw [stR_of h, stB_t h, tellX_if]
  rfl
theorem stR_h (h : sgS lt lm p = nI 104) : stR q lt lm p = setG q 0 (dgL lt lm (p + 1)) (dgL lt lm (p + 2)) := by
  rw [stR_of h, stB_h h]
  rfl
theorem stR_d (h : sgS lt lm p = nI 100) : stR q lt lm p = dgX q (twL lt lm (p + 1)) := by
  rw [stR_of h, stB_d h]
  rfl
end ST
theorem Inv_addGX {r : Nat → Int32} (h : Inv r) {v : Int32} (hv : okN 9 v) : Inv (addGX r v) := by
  unfold addGX
  split
  · rename_i hg
    have e0 : nI (nG r) = r 0 := h.r0.symm
    have k0 : nG (addGr r v) = nG r + 1 := by
      unfold nG addGr
      rw [upd_s]
      exact ix_nI (by have := h.g; unfold nG at *; omega)
    have k1 : nM (addGr r v) = nM r := by
      unfold nM addGr
      rw [upd_n (by decide), uG1, uG1, uG1]
    have at_ : ∀ g w, w < 3 → addGr r v (iG g w) = if g = nG r then (if w = 0 then v else nI 0) else r (iG g w) := by
      intro g w hw
      unfold addGr
      rw [upd_n (by unfold iG; omega), uG_at (by decide) hw, uG_at (by decide) hw, uG_at (by decide) hw]
      by_cases z : g = nG r
      · subst z
        have : w = 0 ∨ w = 1 ∨ w = 2 := by omega
        rcases this with rfl | rfl | rfl <;> simp
      · simp [z]
    have atM : ∀ p w, addGr r v (iM p w) = r (iM p w) := by
      intro p w
      unfold addGr
      rw [upd_n (by unfold iM; omega), upd_n (by unfold iG iM; omega), upd_n (by unfold iG iM; omega), upd_n (by unfold iG iM; omega)]
    refine ⟨⟨by unfold addGr; rw [upd_s, ix_nI (by omega)], by rw [show ix (addGr r v 0) = nG (addGr r v) from rfl, k0]; omega⟩, ?_, ?_, ?_, ?_⟩
    · have : addGr r v 1 = r 1 := by unfold addGr; rw [upd_n (by decide), uG1, uG1, uG1]
      rw [this]; exact h.2.1
    · intro g hg5
      rw [at_ g 0 (by decide), at_ g 1 (by decide), at_ g 2 (by decide), k0]
      by_cases z : g = nG r
      · rw [if_pos z, if_pos z, if_pos z]
        exact ⟨hv, okN_nI (by decide) (by decide), okN_nI (by decide) (by decide), fun _ => rfl⟩
      · rw [if_neg z, if_neg z, if_neg z]
        have := h.2.2.1 g hg5
        exact ⟨this.1, this.2.1, this.2.2.1, fun y => this.2.2.2 (by omega)⟩
    · intro p hp
      rw [atM, atM, atM, k1]
      exact h.2.2.2.1 p hp
    · intro p hp
      rw [k1] at hp
      rw [atM, k0]
      rcases h.2.2.2.2 p hp with y | ⟨g, hg, y⟩
      · exact Or.inl y
      · exact Or.inr ⟨g, by omega, y⟩
  · exact h
theorem Inv_addMX {r : Nat → Int32} (h : Inv r) {k f e : Int32} (hk : okN 5 k) (hf : okN 9 f) (he : okN 99 e) : Inv (addMX r k f e) := by
  unfold addMX
  split
  · rename_i hm
    have k0 : nM (addMo r k f e) = nM r + 1 := by
      unfold nM addMo
      rw [upd_s]
      exact ix_nI (by have := h.m; unfold nM at *; omega)
    have k1 : nG (addMo r k f e) = nG r := by
      unfold nG addMo
      rw [upd_n (by decide), uM0, uM0, uM0, uM0]
    have at_ : ∀ p w, w < 4 → addMo r k f e (iM p w) = if p = nM r then (if w = 0 then k else if w = 1 then f else if w = 2 then e else -9) else r (iM p w) := by
      intro p w hw
      unfold addMo
      rw [upd_n (by unfold iM; omega), uM_at (by decide) hw, uM_at (by decide) hw, uM_at (by decide) hw, uM_at (by decide) hw]
      by_cases z : p = nM r
      · subst z
        have : w = 0 ∨ w = 1 ∨ w = 2 ∨ w = 3 := by omega
        rcases this with rfl | rfl | rfl | rfl <;> simp
      · simp [z]
    have atG : ∀ g w, g < 5 → w < 3 → addMo r k f e (iG g w) = r (iG g w) := by
      intro g w h1 h2
      unfold addMo
      rw [upd_n (by unfold iG; omega), upd_n (iG_iM h1 h2), upd_n (iG_iM h1 h2), upd_n (iG_iM h1 h2), upd_n (iG_iM h1 h2)]
    refine ⟨?_, ⟨by unfold addMo; rw [upd_s, ix_nI (by omega)], by rw [show ix (addMo r k f e 1) = nM (addMo r k f e) from rfl, k0]; omega⟩, ?_, ?_, ?_⟩
    · have : addMo r k f e 0 = r 0 := by unfold addMo; rw [upd_n (by decide), uM0, uM0, uM0, uM0]
      rw [this]; exact h.1
    · intro g hg5
      rw [atG g 0 hg5 (by decide), atG g 1 hg5 (by decide), atG g 2 hg5 (by decide), k1]
      exact h.2.2.1 g hg5
    · intro p hp
      rw [at_ p 0 (by decide), at_ p 1 (by decide), at_ p 2 (by decide), k0]
      by_cases z : p = nM r
      · rw [if_pos z, if_pos z, if_pos z]
        exact ⟨hk, hf, he, fun y => by omega⟩
      · rw [if_neg z, if_neg z, if_neg z]
        have := h.2.2.2.1 p hp
        exact ⟨this.1, this.2.1, this.2.2.1, fun y => this.2.2.2 (by omega)⟩
    · intro p hp
      rw [k0] at hp
      rw [at_ p 3 (by decide), k1]
      by_cases z : p = nM r
      · rw [if_pos z]; exact Or.inl rfl
      · rw [if_neg z]; exact h.2.2.2.2 p (by omega)
  · exact h
theorem Inv_setM9 {r : Nat → Int32} (h : Inv r) {x : Int32} : Inv (setM r 3 x (-9)) := by
  unfold setM
  split
  · exact Inv_at h (Or.inl rfl)
  · exact h
theorem Inv_setG0 {r : Nat → Int32} (h : Inv r) {x v : Int32} (hv : okN 9 v) : Inv (setG r 0 x v) := by
  unfold setG
  split
  · rename_i z
    exact Inv_G h (Nat.lt_of_lt_of_le (ix_lt z (by have := h.g; omega)) h.g) (by decide) (fun _ => hv) (fun q => by cases q) (fun q => by cases q)
  · exact h
theorem Inv_tellX {r : Nat → Int32} (h : Inv r) {x : Int32} : Inv (tellX r x) := by
  rw [tellX_if]
  split
  · rename_i z
    exact Inv_tellS h (ix_lt z (by have := h.m; omega))
  · exact h
theorem Inv_cmX {r : Nat → Int32} (h : Inv r) {x y : Int32} : Inv (cmX r x y) := by
  unfold cmX
  split
  · rename_i z
    rw [Bool.and_eq_true] at z
    obtain ⟨j, hj, e, _⟩ := inN_of z.2 (by have := h.g; omega)
    exact Inv_at h (Or.inr ⟨j, hj, e⟩)
  · exact h
theorem Inv_dgX {r : Nat → Int32} (h : Inv r) {x : Int32} : Inv (dgX r x) := by
  unfold dgX
  split
  · exact Inv_daysS h _
  · exact h
theorem Inv_stR {q lt : Nat → Int32} {lm p : Nat} (h : Inv q) (hk : sgS lt lm p = nI 109 → okN 5 (kindC (sgS lt lm (p + 1)))) : Inv (stR q lt lm p) := by
  by_cases c1 : sgS lt lm p = nI 103
  · rw [stR_g c1]; exact Inv_addGX h (dgL_ok _ _ _)
  by_cases c2 : sgS lt lm p = nI 109
  · rw [stR_m c2]; exact Inv_addMX h (hk c2) (dgL_ok _ _ _) (twL_ok _ _ _)
  by_cases c3 : sgS lt lm p = nI 97
  · rw [stR_a c3]; exact Inv_cmX h
  by_cases c4 : sgS lt lm p = nI 110
  · rw [stR_no c4]; exact Inv_setM9 h
  by_cases c5 : sgS lt lm p = nI 116
  · rw [stR_t c5]; exact Inv_tellX h
  by_cases c6 : sgS lt lm p = nI 104
  · rw [stR_h c6]; exact Inv_setG0 h (dgL_ok _ _ _)
  by_cases c7 : sgS lt lm p = nI 100
  · rw [stR_d c7]; exact Inv_dgX h
  rw [stR_f (stB_z c1 c2 c3 c4 c5 c6 c7)]
  exact h
theorem tlO_e {lt q : Nat → Int32} {lm f p n : Nat} (h : ¬ p < lm) : tlO lt lm f p n q = (nI n, q) := by
  cases f
  · rfl
  · exact if_neg h
theorem tlO_f {lt q : Nat → Int32} {lm f p n : Nat} (h : p < lm) (h2 : stB q lt lm p = false) : tlO lt lm (f + 1) p n q = (-2000 - nI p, q) := by
  show (if p < lm then _ else _) = _
  rw [if_pos h, if_neg (by rw [h2]; decide)]
theorem tlO_t {lt q : Nat → Int32} {lm f p n : Nat} (h : p < lm) (h2 : stB q lt lm p = true) : tlO lt lm (f + 1) p n q = tlO lt lm f (p + lnS (sgS lt lm p)) (n + 1) (stR q lt lm p) := by
  show (if p < lm then _ else _) = _
  rw [if_pos h, if_pos h2]
theorem fMis_9 {lt : Nat → Int32} {lm : Nat} (h : fMis lt lm = -9) : miO lt lm (lm + 1) 0 = -9 := by
  unfold fMis at h
  by_cases z : lm = 0
  · rw [if_pos z] at h; exact absurd h (by decide)
  · rw [if_neg z] at h; exact h
theorem tlA_e {lt r : Nat → Int32} {lm : Nat} (h : fMis lt lm = -9) {v : Int32 × (Nat → Int32)} (he : tlO lt lm (lm + 1) 0 0 r = v) : tlA lt lm r = v.1 ∧ tlQ lt lm r = v.2 := by
  unfold tlA tlQ
  rw [if_pos h, if_pos h, he]
  exact ⟨rfl, rfl⟩
theorem tlQ_n {lt r : Nat → Int32} {lm : Nat} (h : ¬ fMis lt lm = -9) : tlQ lt lm r = r := if_neg h
theorem tlA_n {lt r : Nat → Int32} {lm : Nat} (h : ¬ fMis lt lm = -9) : tlA lt lm r = -1000 - fMis lt lm := if_neg h
theorem setM_nM {r : Nat → Int32} {w : Nat} {x v : Int32} : nM (setM r w x v) = nM r := by
  unfold setM
  split
  · exact nM_M
  · rfl
theorem setG_nG {r : Nat → Int32} {w : Nat} {x v : Int32} : nG (setG r w x v) = nG r := by
  unfold setG
  split
  · exact nG_G
  · rfl
theorem tellX_nM {r : Nat → Int32} {x : Int32} : nM (tellX r x) = nM r := setM_nM
theorem dgB_f {r : Nat → Int32} {n : Nat} (hn : n < 2 ^ 31) (h : n < 1 ∨ 60 < n ∨ ¬ r 2 + nI n ≤ nI 999) : dgB r (nI n) = false := by
  unfold dgB
  refine decide_eq_false (fun z => ?_)
  have z1 := (nI_leI (by decide) hn).mp z.1
  have z2 := (nI_leI hn (by decide)).mp z.2.1
  rcases h with h | h | h
  · omega
  · omega
  · exact h z.2.2
theorem dgB_t {r : Nat → Int32} {n : Nat} (h1 : 1 ≤ n) (h2 : n ≤ 60) (h3 : r 2 + nI n ≤ nI 999) : dgB r (nI n) = true := by
  unfold dgB
  exact decide_eq_true ⟨nI_le h1 (by omega), nI_le h2 (by decide), h3⟩
theorem dgX_f {r : Nat → Int32} {x : Int32} (h : dgB r x = false) : dgX r x = r := if_neg (by rw [h]; decide)
theorem dgX_t {r : Nat → Int32} {n : Nat} (h : dgB r (nI n) = true) (hn : n < 2 ^ 31) : dgX r (nI n) = daysS r n := by
  unfold dgX
  rw [if_pos h, ix_nI hn]
