/-! THE REFERENCE'S SEATING: all seatings, one by one -/
def poN (r gi : Nat → Int32) (g : Nat) : Nat → Int32
  | 0 => -9
  | p + 1 => if gi p = nI g then (if poN r gi g p < 0 then nI 0 else poN r gi g p) + weepS r p else poN r gi g p
def poR (r gi po : Nat → Int32) (p : Nat) : Nat → Int32 := fun j => if j < nG r then poN r gi j p else po j
def igF (r gi : Nat → Int32) (g : Nat) : Int32 := if poN r gi g (nM r) < 0 then nI 0 else (r (iG g 2) + poN r gi g (nM r)) / (r (iG g 0) + nI 1)
def igS (r gi : Nat → Int32) : Int32 := sumTo (igF r gi) (nG r)
def giOK (r gi : Nat → Int32) (p : Nat) : Prop := ∀ q, q < p → ∃ g, g < nG r ∧ gi q = nI g
theorem poR_in {r gi po : Nat → Int32} {p j : Nat} (h : j < nG r) : poR r gi po p j = poN r gi j p := if_pos h
theorem poR_0 {r gi po : Nat → Int32} : cpF (fun _ => -9) po (nG r) = poR r gi po 0 := rfl
theorem poR_s {r gi po : Nat → Int32} {p g : Nat} (hg : g < nG r) (h5 : nG r ≤ 5) (e : gi p = nI g) : upd (poR r gi po p) g ((if poN r gi g p < 0 then nI 0 else poN r gi g p) + weepS r p) = poR r gi po (p + 1) := by
  funext j
  unfold upd poR
  by_cases c : j = g
  · subst c
    rw [if_pos rfl, if_pos hg]
    exact (if_pos e).symm
  · rw [if_neg c]
    by_cases d : j < nG r
    · rw [if_pos d, if_pos d]
      refine (if_neg (fun z => c ?_)).symm
      rw [e] at z
      exact ((nI_eq (by omega) (by omega)).mp z).symm
    · rw [if_neg d, if_neg d]
theorem igF_0 {r gi : Nat → Int32} {g : Nat} (h : poN r gi g (nM r) < 0) : igF r gi g = nI 0 := if_pos h
theorem igF_n {r gi : Nat → Int32} {g : Nat} (h : ¬ poN r gi g (nM r) < 0) : igF r gi g = (r (iG g 2) + poN r gi g (nM r)) / (r (iG g 0) + nI 1) := if_neg h
abbrev seT : Type := (Nat → Int32) × (Nat → Int32) × Int32
def seLoop (F : seT → seT) (p : Nat) : Nat → seT → seT
  | 0, t => t
  | g + 1, t => F (upd (seLoop F p g t).1 p (nI g), (seLoop F p g t).2)
def seF (r : Nat → Int32) : Nat → seT → seT
  | 0 => fun t => if igS r t.1 ≤ t.2.2 then t else (t.1, t.1, igS r t.1)
  | d + 1 => fun t => seLoop (seF r d) (nM r - (d + 1)) (nG r) t
theorem seF_0n {r gi bg : Nat → Int32} {bi : Int32} (h : igS r gi ≤ bi) : seF r 0 (gi, bg, bi) = (gi, bg, bi) := if_pos h
theorem seF_0p {r gi bg : Nat → Int32} {bi : Int32} (h : ¬ igS r gi ≤ bi) : seF r 0 (gi, bg, bi) = (gi, gi, igS r gi) := if_neg h
theorem seF_s (r : Nat → Int32) (d : Nat) (t : seT) : seF r (d + 1) t = seLoop (seF r d) (nM r - (d + 1)) (nG r) t := rfl
theorem seLoop_s (F : seT → seT) (p g : Nat) (t : seT) : seLoop F p (g + 1) t = F (upd (seLoop F p g t).1 p (nI g), (seLoop F p g t).2) := rfl
theorem seF_lt {r : Nat → Int32} : ∀ d t j, j + d < nM r → (seF r d t).1 j = t.1 j
  | 0, t, j, _ => by
    show (if igS r t.1 ≤ t.2.2 then t else (t.1, t.1, igS r t.1)).1 j = _
    split <;> rfl
  | d + 1, t, j, h => by
    rw [seF_s]
    have : ∀ g, (seLoop (seF r d) (nM r - (d + 1)) g t).1 j = t.1 j := by
      intro g
      induction g with
      | zero => rfl
      | succ g ih =>
        rw [seLoop_s, seF_lt d _ j (by omega)]
        show upd _ _ _ j = _
        rw [upd_n (by omega)]; exact ih
    exact this _
theorem seLoop_lt {r : Nat → Int32} {d p : Nat} {t : seT} {j : Nat} (h : j < p) (hp : p + d < nM r) : ∀ g, (seLoop (seF r d) p g t).1 j = t.1 j
  | 0 => rfl
  | g + 1 => by
    rw [seLoop_s, seF_lt d _ j (by omega)]
    show upd _ _ _ j = _
    rw [upd_n (by omega)]; exact seLoop_lt h hp g
theorem giOK_u {r : Nat → Int32} {d p g : Nat} {t : seT} (h : giOK r t.1 p) (hp : p + d < nM r) (k : Nat) (hg : g < nG r) : giOK r (upd (seLoop (seF r d) p k t).1 p (nI g)) (p + 1) := by
  intro q hq
  by_cases c : q = p
  · subst c; exact ⟨g, hg, upd_s⟩
  · rw [upd_n c, seLoop_lt (by omega) hp]
    exact h q (by omega)
theorem nI_n1 {n : Nat} (h : n < 2 ^ 31) : ¬ nI n = -1 := by
  intro e
  have := nI_toInt h
  rw [e] at this
  have h2 : (-1 : Int32).toInt = -1 := by decide
  omega
