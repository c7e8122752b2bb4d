/-! more pure rows for the reference's calls -/
theorem isInB_w {x : Int32} {lo hi hi2 : Nat} (h : isInB x (nI lo) (nI hi) = true) (hh : hi ≤ hi2) (h2 : hi2 < 2 ^ 30) : isInB x (nI lo) (nI hi2) = true := by
  have z := of_decide_eq_true h
  exact decide_eq_true ⟨z.1, Int32.le_trans z.2 (nI_le hh (by omega))⟩
theorem ne_ix {w : Int32} {n : Nat} (h : ¬ ix w = n) (hn : n < 2 ^ 31) : ¬ w = nI n := fun z => h (by rw [z]; exact ix_nI hn)
theorem isInB_43 {w : Int32} (h : isInB w (nI 0) (nI 3) = false) (h4 : ¬ w = nI 4) : isInB w (nI 0) (nI 4) = false := by
  refine isInB_out (by decide) (by decide) (fun v h0 h1 _ e => ?_)
  by_cases c : v = 4
  · subst c; exact h4 e
  · rw [e] at h
    have : isInB (nI v) (nI 0) (nI 3) = true := decide_eq_true ⟨nI_le (by omega) (by omega), nI_le (by omega) (by decide)⟩
    rw [this] at h
    cases h
theorem ge0_n9 {x : Int32} (h : 0 ≤ x) : ¬ x = -9 := fun z => by rw [z] at h; exact absurd h (by decide)
theorem at9 {r : Nat → Int32} (hI : Inv r) {p : Nat} (hp : p < nM r) (h : r (iM p 3) < 0) : r (iM p 3) = -9 := by
  have h5 := hI.g
  rcases hI.pl3 hp with q | ⟨g, hg, q⟩
  · exact q
  · rw [q] at h; exact absurd h (nI_pos (by omega))
theorem lt0_of {x : Int32} (h : ¬ 0 ≤ x) : x < 0 := Int32.not_le.mp h
theorem wrS_lo {v a b : Int32} (h : v < a) : wrS v a b = -4 := if_pos h
theorem wrS_hi {v a b : Int32} (h : ¬ v < a) (h2 : b < v) : wrS v a b = -6 := by unfold wrS; rw [if_neg h, if_pos h2]
theorem wrS_0 {v a b : Int32} (h : ¬ v < a) (h2 : ¬ b < v) : wrS v a b = 0 := by unfold wrS; rw [if_neg h, if_neg h2]
theorem ff_iff {x y : Int32} (hx : okN 999 x) (hy : okN 999 y) : (nI 12 ≤ x - y) ↔ ¬ x < y + nI 12 := by
  obtain ⟨ex, lx⟩ := hx
  obtain ⟨ey, ly⟩ := hy
  rw [ex, ey, nI_add, nI_ltI (by omega) (by omega), Int32.le_iff_toInt_le, pk_sub_toInt (by omega) (by omega), nI_toInt (by decide)]
  omega
theorem ff_0 {r : Nat → Int32} : ∀ f g, ffF r r f g = -9
  | 0, _ => rfl
  | f + 1, g => by
    rw [ffF_n (by rw [Int32.sub_self]; decide)]
    exact ff_0 f (g + 1)
/-- who weeps at all, summed -/
def dsF (q : Nat → Int32) (p : Nat) : Int32 := if q (iM p 3) < 0 then nI 0 else weepS q p
theorem dry_sum {q : Nat → Int32} (hI : Inv q) : ∀ k, k ≤ nM q → ∃ n, n ≤ 12 * k ∧ sumTo (dsF q) k = nI n ∧ (n = 0 ↔ dryF q k = true)
  | 0, _ => ⟨0, by omega, rfl, by simp [dryF]⟩
  | k + 1, hk => by
    have h6 := hI.m
    have h5 := hI.g
    obtain ⟨n, hn, e, hi⟩ := dry_sum hI k (by omega)
    obtain ⟨w, hw, ew⟩ := weepS_ok hI (p := k) (by omega)
    show ∃ n, n ≤ 12 * (k + 1) ∧ sumTo (dsF q) k + dsF q k = nI n ∧ (n = 0 ↔ (dryF q k && decide (q (iM k 3) = -9 ∨ weepS q k ≤ 0)) = true)
    rw [e, Bool.and_eq_true, ← hi, decide_eq_true_iff]
    unfold dsF
    by_cases c : q (iM k 3) < 0
    · rw [if_pos c]
      refine ⟨n, by omega, by rw [nI_add]; rfl, ?_⟩
      have := at9 hI (p := k) (by omega) c
      constructor
      · intro z; exact ⟨z, Or.inl this⟩
      · intro z; exact z.1
    · rw [if_neg c, ew]
      refine ⟨n + w, by omega, by rw [nI_add], ?_⟩
      have h9 : ¬ q (iM k 3) = -9 := fun z => c (by rw [z]; decide)
      have hw0 : (nI w ≤ 0) ↔ w = 0 := by
        rw [← nI_0, nI_leI (by omega) (by decide)]; omega
      rw [hw0]
      constructor
      · intro z; exact ⟨by omega, Or.inr (by omega)⟩
      · rintro ⟨z1, z2 | z2⟩
        · exact absurd z2 h9
        · omega
theorem dry_t {q : Nat → Int32} (hI : Inv q) {v : Int32} (hv : v = sumTo (dsF q) (nM q)) (h : v = 0) : dryF q (nM q) = true := by
  have h6 := hI.m
  obtain ⟨n, hn, e, hi⟩ := dry_sum hI (nM q) (Nat.le_refl _)
  refine hi.mp ?_
  rw [hv, e, ← nI_0, nI_eq (by omega) (by decide)] at h
  exact h
theorem dry_f {q : Nat → Int32} (hI : Inv q) {v : Int32} (hv : v = sumTo (dsF q) (nM q)) (h : ¬ v = 0) : dryF q (nM q) = false := by
  have h6 := hI.m
  obtain ⟨n, hn, e, hi⟩ := dry_sum hI (nM q) (Nat.le_refl _)
  cases c : dryF q (nM q) with
  | false => rfl
  | true => exact absurd (by rw [hv, e, hi.mpr c, nI_0]) h
theorem sgn_p {a b : Int32} : (nI 1 * a ≤ nI 1 * b) ↔ ¬ b < a := by
  rw [show nI 1 = (1 : Int32) from rfl, Int32.one_mul, Int32.one_mul]
  exact Int32.not_lt.symm
theorem sgn_m {a b : Int32} (ha : okN 999 a) (hb : okN 999 b) : (-1 * a ≤ -1 * b) ↔ ¬ a < b := by
  obtain ⟨ea, la⟩ := ha
  obtain ⟨eb, lb⟩ := hb
  have e : ∀ n, n ≤ 999 → ((-1 : Int32) * nI n).toInt = -(n : Int) := by decide +kernel
  rw [ea, eb, Int32.le_iff_toInt_le, e _ la, e _ lb, nI_ltI (by omega) (by omega)]
  omega
theorem ex_neg {r : Nat → Int32} {up : Bool} {k : Nat} (hk : k ≤ 5) (h : exF r up k < 0) : exF r up k = -9 := by
  rcases exF_cases r up k with q | ⟨j, hj, q⟩
  · exact q
  · rw [q] at h; exact absurd h (nI_pos (by omega))
theorem wm_neg {r : Nat → Int32} {k : Nat} (hk : k ≤ 6) (h : wmF r k < 0) : wmF r k = -9 := by
  rcases wmF_cases r k with q | ⟨j, hj, q⟩
  · exact q
  · rw [q] at h; exact absurd h (nI_pos (by omega))
theorem n9_of {x : Int32} (h : ¬ x < 0) : ¬ x = -9 := fun z => h (by rw [z]; decide)
theorem dayB_f {r : Nat → Int32} : dayB r false = dayS r := rfl
theorem dayB_t {r : Nat → Int32} : dayB r true = wdayS r := rfl
