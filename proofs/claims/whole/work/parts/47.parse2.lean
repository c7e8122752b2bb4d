def d1V (lt : Nat → Int32) (lm p : Nat) : Int32 := if dgB1 lt lm p = true then dgL lt lm p else nI 0
def d2V (lt : Nat → Int32) (lm p : Nat) : Int32 := if dgB1 lt lm p = true then (if dgB1 lt lm (p + 1) = true then twL lt lm p else dgL lt lm p) else nI 0
section RS2
variable {lt : Nat → Int32} {lm p : Nat}
theorem p1N_t (h : dgB1 lt lm p = true) : p1N lt lm p = p + 1 := if_pos h
theorem p1N_f (h : dgB1 lt lm p = false) : p1N lt lm p = p := if_neg (nt h)
theorem d1V_t (h : dgB1 lt lm p = true) : d1V lt lm p = dgL lt lm p := if_pos h
theorem d1V_f (h : dgB1 lt lm p = false) : d1V lt lm p = nI 0 := if_neg (nt h)
theorem p2N_t (h : dgB1 lt lm p = true) (h2 : dgB1 lt lm (p + 1) = true) : p2N lt lm p = p + 2 := by unfold p2N; rw [if_pos h, if_pos h2]
theorem p2N_m (h : dgB1 lt lm p = true) (h2 : dgB1 lt lm (p + 1) = false) : p2N lt lm p = p + 1 := by unfold p2N; rw [if_pos h, if_neg (nt h2)]
theorem p2N_f (h : dgB1 lt lm p = false) : p2N lt lm p = p := if_neg (nt h)
theorem d2V_t (h : dgB1 lt lm p = true) (h2 : dgB1 lt lm (p + 1) = true) : d2V lt lm p = twL lt lm p := by unfold d2V; rw [if_pos h, if_pos h2]
theorem d2V_m (h : dgB1 lt lm p = true) (h2 : dgB1 lt lm (p + 1) = false) : d2V lt lm p = dgL lt lm p := by unfold d2V; rw [if_pos h, if_neg (nt h2)]
theorem d2V_f (h : dgB1 lt lm p = false) : d2V lt lm p = nI 0 := if_neg (nt h)
theorem and_f1 {b : Bool} (h : dgB1 lt lm p = false) : (dgB1 lt lm p && b) = false := by rw [h]; rfl
theorem and_f2 {b : Bool} (h : b = false) : (dgB1 lt lm p && b) = false := by rw [h, Bool.and_false]
theorem and_tt {b : Bool} (h : dgB1 lt lm p = true) (h2 : b = true) : (dgB1 lt lm p && b) = true := by rw [h, h2]; rfl
theorem p2N_le : p2N lt lm p ≤ p + 2 := by
  unfold p2N
  split
  · split <;> omega
  · omega
theorem p1N_le : p1N lt lm p ≤ p + 1 := by unfold p1N; split <;> omega
theorem pkN_t (h : kdB lt lm p = true) : pkN lt lm p = p + 1 := if_pos h
theorem pkN_f (h : kdB lt lm p = false) : pkN lt lm p = p := if_neg (nt h)
theorem mi2f {X : Option Nat} (h : (dgB1 lt lm p && dgB1 lt lm (p + 1)) = false) : (if dgB1 lt lm p = true then (if dgB1 lt lm (p + 1) = true then X else some (p + 1)) else some p) = some (p2N lt lm p) := by
  cases h1 : dgB1 lt lm p with
  | false => rw [if_neg (by decide), p2N_f h1]
  | true =>
    rw [h1, Bool.true_and] at h
    rw [if_pos rfl, h, if_neg (by decide), p2N_m h1 h]
theorem mi2t {X : Option Nat} (h : (dgB1 lt lm p && dgB1 lt lm (p + 1)) = true) : (if dgB1 lt lm p = true then (if dgB1 lt lm (p + 1) = true then X else some (p + 1)) else some p) = X := by
  rw [Bool.and_eq_true] at h
  rw [if_pos h.1, if_pos h.2]
theorem p2N_and (h : (dgB1 lt lm p && dgB1 lt lm (p + 1)) = true) : p2N lt lm p = p + 2 := by
  rw [Bool.and_eq_true] at h
  exact p2N_t h.1 h.2
theorem d2V_and (h : (dgB1 lt lm p && dgB1 lt lm (p + 1)) = true) : d2V lt lm p = twL lt lm p := by
  rw [Bool.and_eq_true] at h
  exact d2V_t h.1 h.2
theorem nbO_g {u : Nat → Int32} {v : Nat} (hs : sgS lt lm p = nI v) (hv : v = 103 ∨ v = 110 ∨ v = 116) (h : u 0 = dgL lt lm (p + 1)) : nbO lt lm p u := by
  have ne : ∀ w : Nat, w < 2 ^ 31 → ¬ v = w → ¬ sgS lt lm p = nI w := fun w hw hne z => hne ((nI_eq (by omega) hw).mp (hs.symm.trans z))
  refine ⟨?_, fun z => ?_, fun z => absurd z (ne 109 (by decide) (by omega))⟩
  · unfold arA
    rw [if_neg (ne 109 (by decide) (by omega)), if_neg (ne 100 (by decide) (by omega))]; exact h
  · rcases z with z | z | z
    · exact absurd z (ne 97 (by decide) (by omega))
    · exact absurd z (ne 104 (by decide) (by omega))
    · exact absurd z (ne 109 (by decide) (by omega))
theorem nbO_a {u : Nat → Int32} {v : Nat} (hs : sgS lt lm p = nI v) (hv : v = 97 ∨ v = 104) (h : u 0 = dgL lt lm (p + 1)) (h1 : u 1 = dgL lt lm (p + 2)) : nbO lt lm p u := by
  have ne : ∀ w : Nat, w < 2 ^ 31 → ¬ v = w → ¬ sgS lt lm p = nI w := fun w hw hne z => hne ((nI_eq (by omega) hw).mp (hs.symm.trans z))
  refine ⟨?_, fun _ => h1, fun z => absurd z (ne 109 (by decide) (by omega))⟩
  unfold arA
  rw [if_neg (ne 109 (by decide) (by omega)), if_neg (ne 100 (by decide) (by omega))]; exact h
theorem nbO_d {u : Nat → Int32} (hs : sgS lt lm p = nI 100) (h : u 0 = twL lt lm (p + 1)) : nbO lt lm p u := by
  have ne : ∀ w : Nat, w < 2 ^ 31 → ¬ 100 = w → ¬ sgS lt lm p = nI w := fun w hw hne z => hne ((nI_eq (by omega) hw).mp (hs.symm.trans z))
  refine ⟨?_, fun z => ?_, fun z => absurd z (ne 109 (by decide) (by omega))⟩
  · unfold arA
    rw [if_neg (ne 109 (by decide) (by omega)), if_pos hs]; exact h
  · rcases z with z | z | z
    · exact absurd z (ne 97 (by decide) (by omega))
    · exact absurd z (ne 104 (by decide) (by omega))
    · exact absurd z (ne 109 (by decide) (by omega))
theorem nbO_m {u : Nat → Int32} (hs : sgS lt lm p = nI 109) (hk : kdB lt lm (p + 1) = true) (h : u 0 = kindC (hrS lt lm (p + 1))) (h1 : u 1 = dgL lt lm (p + 2)) (h2 : u 2 = twL lt lm (p + 3)) : nbO lt lm p u := by
  refine ⟨?_, fun _ => h1, fun _ => h2⟩
  unfold arA
  rw [if_pos hs, h, hr_in (kd_lt hk)]
end RS2
/-- a statement is done -/
def dnX (q : Nat → Int32) (c a b e : Int32) : Nat → Int32 := if dnB q c a b = true then dnQ q c a b e else q
def okC (c : Int32) : Prop := c = nI 97 ∨ c = nI 100 ∨ c = nI 103 ∨ c = nI 104 ∨ c = nI 109 ∨ c = nI 110 ∨ c = nI 116
theorem okC_v {c : Int32} {v : Nat} (h : okC c) (e : c = nI v) (hv : v < 2 ^ 31) : v = 97 ∨ v = 100 ∨ v = 103 ∨ v = 104 ∨ v = 109 ∨ v = 110 ∨ v = 116 := by
  unfold okC at h
  rw [e] at h
  rw [nI_eq hv (by decide), nI_eq hv (by decide), nI_eq hv (by decide), nI_eq hv (by decide), nI_eq hv (by decide), nI_eq hv (by decide), nI_eq hv (by decide)] at h
  exact h
theorem okC_out {c : Int32} (h : okC c) (h2 : ∀ v : Nat, 97 ≤ v → v ≤ 116 → v < 2 ^ 31 → ¬ c = nI v) : False := by
  rcases h with z | z | z | z | z | z | z
  · exact h2 97 (by decide) (by decide) (by decide) z
  · exact h2 100 (by decide) (by decide) (by decide) z
  · exact h2 103 (by decide) (by decide) (by decide) z
  · exact h2 104 (by decide) (by decide) (by decide) z
  · exact h2 109 (by decide) (by decide) (by decide) z
  · exact h2 110 (by decide) (by decide) (by decide) z
  · exact h2 116 (by decide) (by decide) (by decide) z
section DN
variable {q : Nat → Int32} {c a b e : Int32}
theorem dnX_t (h : dnB q c a b = true) : dnX q c a b e = dnQ q c a b e := if_pos h
theorem dnX_f (h : dnB q c a b = false) : dnX q c a b e = q := if_neg (nt h)
theorem dnB_g (h : c = nI 103) : dnB q c a b = decide (nG q < 5) := by rw [h]; rfl
theorem dnB_m (h : c = nI 109) : dnB q c a b = decide (nM q < 6) := by rw [h]; rfl
theorem dnB_a (h : c = nI 97) : dnB q c a b = (inN (nM q) a && inN (nG q) b) := by rw [h]; rfl
theorem dnB_n (h : c = nI 110) : dnB q c a b = inN (nM q) a := by rw [h]; rfl
theorem dnB_t (h : c = nI 116) : dnB q c a b = inN (nM q) a := by rw [h]; rfl
theorem dnB_h (h : c = nI 104) : dnB q c a b = inN (nG q) a := by rw [h]; rfl
theorem dnB_d (h : c = nI 100) : dnB q c a b = decide (nI 1 ≤ a ∧ a ≤ nI 60 ∧ q 2 + a ≤ nI 999) := by rw [h]; rfl
theorem dnQ_g (h : c = nI 103) : dnQ q c a b e = addGr q a := by rw [h]; rfl
theorem dnQ_m (h : c = nI 109) : dnQ q c a b e = addMo q a b e := by rw [h]; rfl
theorem dnQ_a (h : c = nI 97) : dnQ q c a b e = upd q (iM (ix a) 3) b := by rw [h]; rfl
theorem dnQ_n (h : c = nI 110) : dnQ q c a b e = upd q (iM (ix a) 3) (-9) := by rw [h]; rfl
theorem dnQ_t (h : c = nI 116) : dnQ q c a b e = tellS q (ix a) := by rw [h]; rfl
theorem dnQ_h (h : c = nI 104) : dnQ q c a b e = upd q (iG (ix a) 0) b := by rw [h]; rfl
theorem dnQ_d (h : c = nI 100) : dnQ q c a b e = daysS q (ix a) := by rw [h]; rfl
end DN
/-- the statement of the letters at p, done by the reference's numbers -/
theorem nb_stB {q lt u : Nat → Int32} {lm p : Nat} (h : nbO lt lm p u) : dnB q (sgS lt lm p) (u 0) (u 1) = stB q lt lm p := by
  unfold stB
  rw [h.1]
  by_cases c : sgS lt lm p = nI 97
  · rw [h.2.1 (Or.inl c)]
  · unfold dnB
    by_cases c1 : sgS lt lm p = nI 103
    · rw [if_pos c1, if_pos c1]
    · rw [if_neg c1, if_neg c1, if_neg c, if_neg c]
theorem nb_stR {q lt u : Nat → Int32} {lm p : Nat} (h : nbO lt lm p u) : dnX q (sgS lt lm p) (u 0) (u 1) (u 2) = stR q lt lm p := by
  unfold dnX stR
  rw [nb_stB h]
  by_cases z : stB q lt lm p = true
  · rw [if_pos z, if_pos z, h.1]
    unfold dnQ
    by_cases c1 : sgS lt lm p = nI 103
    · rw [if_pos c1, if_pos c1]
    · rw [if_neg c1, if_neg c1]
      by_cases c2 : sgS lt lm p = nI 109
      · rw [if_pos c2, if_pos c2, h.2.1 (Or.inr (Or.inr c2)), h.2.2 c2]
      · rw [if_neg c2, if_neg c2]
        by_cases c3 : sgS lt lm p = nI 97
        · rw [if_pos c3, if_pos c3, h.2.1 (Or.inl c3)]
        · rw [if_neg c3, if_neg c3]
          by_cases c4 : sgS lt lm p = nI 110
          · rw [if_pos c4, if_pos c4]
          · rw [if_neg c4, if_neg c4]
            by_cases c5 : sgS lt lm p = nI 116
            · rw [if_pos c5, if_pos c5]
            · rw [if_neg c5, if_neg c5]
              by_cases c6 : sgS lt lm p = nI 104
              · rw [if_pos c6, if_pos c6, h.2.1 (Or.inr (Or.inl c6))]
              · rw [if_neg c6, if_neg c6]
  · rw [if_neg z, if_neg z]
theorem ln_okC {c : Int32} (h : ¬ lnS c = 0) : okC c := by
  unfold lnS at h
  unfold okC
  by_cases c1 : c = nI 103 ∨ c = nI 110 ∨ c = nI 116
  · rcases c1 with z | z | z
    · exact Or.inr (Or.inr (Or.inl z))
    · exact Or.inr (Or.inr (Or.inr (Or.inr (Or.inr (Or.inl z)))))
    · exact Or.inr (Or.inr (Or.inr (Or.inr (Or.inr (Or.inr z)))))
  · rw [if_neg c1] at h
    by_cases c2 : c = nI 97 ∨ c = nI 100 ∨ c = nI 104
    · rcases c2 with z | z | z
      · exact Or.inl z
      · exact Or.inr (Or.inl z)
      · exact Or.inr (Or.inr (Or.inr (Or.inl z)))
    · rw [if_neg c2] at h
      by_cases c3 : c = nI 109
      · exact Or.inr (Or.inr (Or.inr (Or.inr (Or.inl c3))))
      · rw [if_neg c3] at h; exact absurd rfl h
/-- how many statements there are from a place -/
def stN (lt : Nat → Int32) (lm : Nat) : Nat → Nat → Nat
  | 0, _ => 0
  | f + 1, p => if p < lm then 1 + stN lt lm f (p + lnS (sgS lt lm p)) else 0
theorem stN_s {lt : Nat → Int32} {lm f p : Nat} (h : p < lm) : stN lt lm (f + 1) p = 1 + stN lt lm f (p + lnS (sgS lt lm p)) := if_pos h
theorem stN_0 {lt : Nat → Int32} {lm f p : Nat} (h : ¬ p < lm) : stN lt lm f p = 0 := by
  cases f
  · rfl
  · exact if_neg h
theorem rs_miO {lt : Nat → Int32} {lm f p : Nat} (hp : p < lm) : (rsB lt lm p = true → ¬ lnS (sgS lt lm p) = 0 ∧ rsP lt lm p = p + lnS (sgS lt lm p) ∧ miO lt lm (f + 1) p = miO lt lm f (p + lnS (sgS lt lm p))) ∧ (rsB lt lm p = false → miO lt lm (f + 1) p = nI (rsP lt lm p)) := by
  by_cases h0 : lnS (sgS lt lm p) = 0
  · obtain ⟨e1, e2⟩ := rs_0 (lt := lt) (lm := lm) (p := p) (fun z => z.2 h0)
    exact ⟨fun z => absurd (e1.symm.trans z) (by decide), fun _ => by rw [e2]; exact miO_0 hp h0⟩
  · cases e : miI lt lm p (lnS (sgS lt lm p)) (lnS (sgS lt lm p) - 1) 1 with
    | none =>
      obtain ⟨e1, e2⟩ := rs_y hp rfl h0 e
      exact ⟨fun _ => ⟨h0, e2, miO_n hp h0 e⟩, fun z => absurd (e1.symm.trans z) (by decide)⟩
    | some x =>
      obtain ⟨e1, e2⟩ := rs_n hp rfl h0 e
      exact ⟨fun z => absurd (e1.symm.trans z) (by decide), fun _ => by rw [e2]; exact miO_s hp h0 e⟩
theorem rsP_le {lt : Nat → Int32} {lm p : Nat} (h : rsB lt lm p = true) : rsP lt lm p ≤ lm ∧ p < rsP lt lm p ∧ p < lm := by
  have z := of_decide_eq_true h
  obtain ⟨e1, e2⟩ := rs_y z.1 rfl z.2.1 z.2.2
  have q := miI_all z.2.2
  have h3 := (lnS_le (sgS lt lm p)).2 z.2.1
  have := (q (lnS (sgS lt lm p) - 1) (by omega) (by omega)).1
  rw [e2]
  exact ⟨by omega, by omega, z.1⟩
theorem rsP_bd {lt : Nat → Int32} {lm p : Nat} : rsP lt lm p ≤ p + 6 := by
  unfold rsP
  have hl := (lnS_le (sgS lt lm p)).1
  have key : ∀ {L f i x : Nat}, i + f ≤ 6 → miI lt lm p L f i = some x → x < p + 6 := by
    intro L f
    induction f with
    | zero => intro i x _ z; cases z
    | succ f ih =>
      intro i x hi z
      by_cases c : p + i < lm ∧ fiS lt lm p i L = true
      · rw [miI_t c.1 c.2] at z; exact ih (by omega) z
      · rw [miI_n c] at z; cases z; omega
  split
  · cases e : miI lt lm p (lnS (sgS lt lm p)) (lnS (sgS lt lm p) - 1) 1 with
    | none => show p + lnS (sgS lt lm p) ≤ _; omega
    | some x =>
      show x ≤ _
      by_cases h0 : lnS (sgS lt lm p) = 0
      · rw [h0] at e; cases e
      · have := key (by omega) e; omega
  · omega
