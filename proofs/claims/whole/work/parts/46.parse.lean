/-! THE REFERENCE'S READING of letters -/
def hrS (lt : Nat → Int32) (lm p : Nat) : Int32 := if p < lm then lt p else -1
def dgB1 (lt : Nat → Int32) (lm p : Nat) : Bool := isInB (hrS lt lm p) (nI 48) (nI 57)
def kdB (lt : Nat → Int32) (lm p : Nat) : Bool := decide (0 ≤ kindC (hrS lt lm p))
theorem hr_in {lt : Nat → Int32} {lm p : Nat} (h : p < lm) : hrS lt lm p = sgS lt lm p := by unfold hrS sgS; rw [if_pos h, if_pos h]
theorem hr_out {lt : Nat → Int32} {lm p : Nat} (h : ¬ p < lm) : hrS lt lm p = -1 := if_neg h
theorem nI_m1 {n : Nat} (h : n < 2 ^ 31) : ¬ (-1 : Int32) = nI n := fun z => nI_n1 h z.symm
theorem hr_v {lt : Nat → Int32} {lm p v : Nat} (h : hrS lt lm p = nI v) (hv : v < 2 ^ 31) : p < lm ∧ sgS lt lm p = nI v := by
  by_cases c : p < lm
  · rw [hr_in c] at h; exact ⟨c, h⟩
  · rw [hr_out c] at h; exact absurd h (nI_m1 hv)
theorem dg_lt {lt : Nat → Int32} {lm p : Nat} (h : dgB1 lt lm p = true) : p < lm := by
  by_cases c : p < lm
  · exact c
  · unfold dgB1 at h; rw [hr_out c] at h; exact absurd h (by decide)
theorem dg_ok {lt : Nat → Int32} {lm p : Nat} (h : dgB1 lt lm p = true) : hrS lt lm p - nI 48 = dgL lt lm p := by
  have hp := dg_lt h
  unfold dgB1 at h
  rw [hr_in hp] at h ⊢
  obtain ⟨e, h1, h2⟩ := isInB_ok (lo := 48) (hi := 57) (by decide) (by decide) h
  unfold dgL
  rw [e]
  generalize ix (sgS lt lm p) = n at h1 h2
  have : ∀ n, n ≤ 57 → 48 ≤ n → nI n - nI 48 = dgV (nI n) := by decide +kernel
  exact this n h2 h1
theorem kd_lt {lt : Nat → Int32} {lm p : Nat} (h : kdB lt lm p = true) : p < lm := by
  by_cases c : p < lm
  · exact c
  · unfold kdB at h; rw [hr_out c] at h; exact absurd h (by decide)
theorem kind_9 {c : Int32} : (0 ≤ kindC c) ↔ ¬ kindC c = -9 := by
  constructor
  · exact ge0_n9
  · intro h
    obtain ⟨e, _⟩ := kindC_ok h
    rw [e]
    exact nI_pos' (by omega)
/-- the i-th letter of a statement at p, as the reference tests it -/
def tB (lt : Nat → Int32) (lm p i len : Nat) : Bool := if i + 1 = len then decide (hrS lt lm (p + i) = nI 59) else if i = 1 ∧ sgS lt lm p = nI 109 then kdB lt lm (p + i) else dgB1 lt lm (p + i)
theorem tB_iff {lt : Nat → Int32} {lm p i len : Nat} : (p + i < lm ∧ fiS lt lm p i len = true) ↔ tB lt lm p i len = true := by
  unfold fiS tB
  by_cases c : p + i < lm
  · rw [hr_in c]
    unfold kdB dgB1
    rw [hr_in c]
    have : decide (¬ kindC (sgS lt lm (p + i)) = -9) = decide (0 ≤ kindC (sgS lt lm (p + i))) := by
      rw [decide_eq_decide]; exact kind_9.symm
    rw [this]
    exact ⟨fun z => z.2, fun z => ⟨c, z⟩⟩
  · have h1 : ¬ hrS lt lm (p + i) = nI 59 := by rw [hr_out c]; exact nI_m1 (by decide)
    have h2 : kdB lt lm (p + i) = false := by
      cases z : kdB lt lm (p + i) with
      | false => rfl
      | true => exact absurd (kd_lt z) c
    have h3 : dgB1 lt lm (p + i) = false := by
      cases z : dgB1 lt lm (p + i) with
      | false => rfl
      | true => exact absurd (dg_lt z) c
    rw [h2, h3, decide_eq_false h1]
    constructor
    · intro z; exact absurd z.1 c
    · intro z
      split at z
      · cases z
      · split at z <;> cases z
theorem miI_tB {lt : Nat → Int32} {lm p len f i : Nat} : miI lt lm p len (f + 1) i = if tB lt lm p i len = true then miI lt lm p len f (i + 1) else some (p + i) := by
  by_cases c : p + i < lm ∧ fiS lt lm p i len = true
  · rw [miI_t c.1 c.2, if_pos (tB_iff.mp c)]
  · rw [miI_n c, if_neg (fun z => c (tB_iff.mpr z))]
def rsB (lt : Nat → Int32) (lm p : Nat) : Bool := decide (p < lm ∧ ¬ lnS (sgS lt lm p) = 0 ∧ miI lt lm p (lnS (sgS lt lm p)) (lnS (sgS lt lm p) - 1) 1 = none)
def rsP (lt : Nat → Int32) (lm p : Nat) : Nat := if p < lm ∧ ¬ lnS (sgS lt lm p) = 0 then (match miI lt lm p (lnS (sgS lt lm p)) (lnS (sgS lt lm p) - 1) 1 with
  | none => p + lnS (sgS lt lm p)
  | some x => x) else p
theorem rs_0 {lt : Nat → Int32} {lm p : Nat} (h : ¬ (p < lm ∧ ¬ lnS (sgS lt lm p) = 0)) : rsB lt lm p = false ∧ rsP lt lm p = p := by
  refine ⟨decide_eq_false (fun z => h ⟨z.1, z.2.1⟩), if_neg h⟩
theorem rs_n {lt : Nat → Int32} {lm p L x : Nat} (hp : p < lm) (hL : lnS (sgS lt lm p) = L) (h0 : ¬ L = 0) (h : miI lt lm p L (L - 1) 1 = some x) : rsB lt lm p = false ∧ rsP lt lm p = x := by
  unfold rsB rsP
  rw [hL, h, if_pos ⟨hp, h0⟩]
  exact ⟨decide_eq_false (fun z => by cases z.2.2), rfl⟩
theorem rs_y {lt : Nat → Int32} {lm p L : Nat} (hp : p < lm) (hL : lnS (sgS lt lm p) = L) (h0 : ¬ L = 0) (h : miI lt lm p L (L - 1) 1 = none) : rsB lt lm p = true ∧ rsP lt lm p = p + L := by
  unfold rsB rsP
  rw [hL, h, if_pos ⟨hp, h0⟩]
  exact ⟨decide_eq_true ⟨hp, h0, rfl⟩, rfl⟩
/-- what the numbers are behind a statement that is read -/
def nbO (lt : Nat → Int32) (lm p : Nat) (u : Nat → Int32) : Prop := u 0 = arA lt lm p ∧ ((sgS lt lm p = nI 97 ∨ sgS lt lm p = nI 104 ∨ sgS lt lm p = nI 109) → u 1 = dgL lt lm (p + 2)) ∧ (sgS lt lm p = nI 109 → u 2 = twL lt lm (p + 3))
section RS
variable {lt : Nat → Int32} {lm p : Nat}
theorem tB_d {i len : Nat} (h1 : ¬ i + 1 = len) (h2 : ¬ (i = 1 ∧ sgS lt lm p = nI 109)) : tB lt lm p i len = dgB1 lt lm (p + i) := by
  unfold tB; rw [if_neg h1, if_neg h2]
theorem tB_k {len : Nat} (h1 : ¬ 1 + 1 = len) (h2 : sgS lt lm p = nI 109) : tB lt lm p 1 len = kdB lt lm (p + 1) := by
  unfold tB; rw [if_neg h1, if_pos ⟨rfl, h2⟩]
theorem tB_e {i len : Nat} (h1 : i + 1 = len) : tB lt lm p i len = decide (hrS lt lm (p + i) = nI 59) := by
  unfold tB; rw [if_pos h1]
theorem n109 {v : Nat} (h : sgS lt lm p = nI v) (hv : v < 2 ^ 31) (hne : ¬ v = 109) : ¬ sgS lt lm p = nI 109 := fun z => hne ((nI_eq hv (by decide)).mp (h.symm.trans z))
theorem dec_f {a : Prop} [Decidable a] (h : ¬ a) : ¬ decide a = true := by simpa using h
theorem dec_t {a : Prop} [Decidable a] (h : a) : decide a = true := decide_eq_true h
/-- three letters -/
theorem mi3 (hn : ¬ sgS lt lm p = nI 109) : miI lt lm p 3 (3 - 1) 1 = if dgB1 lt lm (p + 1) = true then (if hrS lt lm (p + 2) = nI 59 then none else some (p + 2)) else some (p + 1) := by
  rw [show 3 - 1 = 1 + 1 from rfl, miI_tB, tB_d (by decide) (fun z => hn z.2), show (1 : Nat) = 0 + 1 from rfl, miI_tB, tB_e (by decide)]
  by_cases c : hrS lt lm (p + 2) = nI 59
  · rw [if_pos c, if_pos (dec_t c)]; rfl
  · rw [if_neg c, if_neg (dec_f c)]
theorem mi4 (hn : ¬ sgS lt lm p = nI 109) : miI lt lm p 4 (4 - 1) 1 = if dgB1 lt lm (p + 1) = true then (if dgB1 lt lm (p + 2) = true then (if hrS lt lm (p + 3) = nI 59 then none else some (p + 3)) else some (p + 2)) else some (p + 1) := by
  rw [show 4 - 1 = 2 + 1 from rfl, miI_tB, tB_d (by decide) (fun z => hn z.2), show (2 : Nat) = 1 + 1 from rfl, miI_tB, tB_d (by decide) (fun z => hn z.2)]
  show (if dgB1 lt lm (p + 1) = true then (if dgB1 lt lm (p + 2) = true then miI lt lm p 4 (0 + 1) 3 else some (p + 2)) else some (p + 1)) = _
  rw [miI_tB, tB_e (by decide)]
  by_cases c : hrS lt lm (p + 3) = nI 59
  · rw [if_pos c, if_pos (dec_t c)]; rfl
  · rw [if_neg c, if_neg (dec_f c)]
theorem mi6 (hn : sgS lt lm p = nI 109) : miI lt lm p 6 (6 - 1) 1 = if kdB lt lm (p + 1) = true then (if dgB1 lt lm (p + 2) = true then (if dgB1 lt lm (p + 3) = true then (if dgB1 lt lm (p + 4) = true then (if hrS lt lm (p + 5) = nI 59 then none else some (p + 5)) else some (p + 4)) else some (p + 3)) else some (p + 2)) else some (p + 1) := by
  rw [show 6 - 1 = 4 + 1 from rfl, miI_tB, tB_k (by decide) hn]
  show (if kdB lt lm (p + 1) = true then miI lt lm p 6 (3 + 1) 2 else some (p + 1)) = _
  rw [miI_tB, tB_d (by decide) (fun z => absurd z.1 (by decide))]
  show (if kdB lt lm (p + 1) = true then (if dgB1 lt lm (p + 2) = true then miI lt lm p 6 (2 + 1) 3 else some (p + 2)) else some (p + 1)) = _
  rw [miI_tB, tB_d (by decide) (fun z => absurd z.1 (by decide))]
  show (if kdB lt lm (p + 1) = true then (if dgB1 lt lm (p + 2) = true then (if dgB1 lt lm (p + 3) = true then miI lt lm p 6 (1 + 1) 4 else some (p + 3)) else some (p + 2)) else some (p + 1)) = _
  rw [miI_tB, tB_d (by decide) (fun z => absurd z.1 (by decide))]
  show (if kdB lt lm (p + 1) = true then (if dgB1 lt lm (p + 2) = true then (if dgB1 lt lm (p + 3) = true then (if dgB1 lt lm (p + 4) = true then miI lt lm p 6 (0 + 1) 5 else some (p + 4)) else some (p + 3)) else some (p + 2)) else some (p + 1)) = _
  rw [miI_tB, tB_e (by decide)]
  by_cases c : hrS lt lm (p + 5) = nI 59
  · rw [if_pos c, if_pos (dec_t c)]; rfl
  · rw [if_neg c, if_neg (dec_f c)]
end RS
/-- the place behind a number of one digit, of two -/
def p1N (lt : Nat → Int32) (lm p : Nat) : Nat := if dgB1 lt lm p = true then p + 1 else p
def p2N (lt : Nat → Int32) (lm p : Nat) : Nat := if dgB1 lt lm p = true then (if dgB1 lt lm (p + 1) = true then p + 2 else p + 1) else p
def pkN (lt : Nat → Int32) (lm p : Nat) : Nat := if kdB lt lm p = true then p + 1 else p
theorem tw_ok {lt : Nat → Int32} {lm p : Nat} (h1 : dgB1 lt lm p = true) (h2 : dgB1 lt lm (p + 1) = true) : nI 10 * dgL lt lm p + dgL lt lm (p + 1) = twL lt lm p := rfl
theorem add_sub48 (a b : Int32) : a + b - nI 48 = a + (b - nI 48) := by rw [Int32.sub_eq_add_neg, Int32.sub_eq_add_neg, Int32.add_assoc]
theorem mul10_0 : nI 10 * nI 0 = nI 0 := by decide
theorem zero_addI (x : Int32) : nI 0 + x = x := by rw [nI_0]; exact Int32.zero_add x
