/-! THE SEATING: seatings by their codes; the reference finds the best -/
def cd5 (p : Nat) : Nat := match p with
  | 0 => 15625
  | 1 => 3125
  | 2 => 625
  | 3 => 125
  | 4 => 25
  | 5 => 5
  | _ => 1
def dig (c m : Nat) : Nat := c / dgN m % 5
def valC (M G c : Nat) : Prop := c < 15625 ∧ ∀ m, m < 6 → dig c m < (if m < M then G else 1)
def toN (w σ : Nat → Nat) (g : Nat) : Nat → Nat
  | 0 => 0
  | m + 1 => toN w σ g m + (if σ m = g then w m else 0)
def anN (σ : Nat → Nat) (g : Nat) : Nat → Bool
  | 0 => false
  | m + 1 => anN σ g m || decide (σ m = g)
def incN (w a h σ : Nat → Nat) (M g : Nat) : Nat := if anN σ g M = true then (a g + toN w σ g M) / h g else 0
def ivN (w a h : Nat → Nat) (M G : Nat) (σ : Nat → Nat) : Nat := sumN (incN w a h σ M) G
def rW (r : Nat → Int32) (p : Nat) : Nat := ix (weepS r p)
def rA (r : Nat → Int32) (g : Nat) : Nat := ix (r (iG g 2))
def rH (r : Nat → Int32) (g : Nat) : Nat := ix (r (iG g 0)) + 1
def ivR (r : Nat → Int32) (σ : Nat → Nat) : Nat := ivN (rW r) (rA r) (rH r) (nM r) (nG r) σ
def wvR (r : Nat → Int32) (c : Nat) : Int := (ivR r (dig c) : Int) * 15625 - c
theorem toN_cong {w σ τ : Nat → Nat} {g : Nat} : ∀ k, (∀ m, m < k → σ m = τ m) → toN w σ g k = toN w τ g k
  | 0, _ => rfl
  | k + 1, h => by
    show toN w σ g k + (if σ k = g then w k else 0) = toN w τ g k + (if τ k = g then w k else 0)
    rw [toN_cong k (fun m hm => h m (by omega)), h k (by omega)]
theorem anN_cong {σ τ : Nat → Nat} {g : Nat} : ∀ k, (∀ m, m < k → σ m = τ m) → anN σ g k = anN τ g k
  | 0, _ => rfl
  | k + 1, h => by
    show (anN σ g k || decide (σ k = g)) = (anN τ g k || decide (τ k = g))
    rw [anN_cong k (fun m hm => h m (by omega)), h k (by omega)]
theorem ivN_cong {w a h σ τ : Nat → Nat} {M G : Nat} (e : ∀ m, m < M → σ m = τ m) : ivN w a h M G σ = ivN w a h M G τ := by
  refine sumN_cong G (fun g _ => ?_)
  unfold incN
  rw [toN_cong M e, anN_cong M e]
theorem toN_le {w σ : Nat → Nat} {g b : Nat} (hw : ∀ m, m < 6 → w m ≤ b) : ∀ k, k ≤ 6 → toN w σ g k ≤ b * k
  | 0, _ => by show 0 ≤ _; omega
  | k + 1, hk => by
    have ih := toN_le (σ := σ) (g := g) hw k (by omega)
    have := hw k (by omega)
    show toN w σ g k + (if σ k = g then w k else 0) ≤ _
    rw [Nat.mul_succ]
    split <;> omega
theorem rW_ok {r : Nat → Int32} (hI : Inv r) {p : Nat} (hp : p < 6) : weepS r p = nI (rW r p) ∧ rW r p ≤ 12 := by
  obtain ⟨n, hn, e⟩ := weepS_ok hI hp
  unfold rW
  rw [e, ix_nI (by omega)]
  exact ⟨rfl, hn⟩
theorem rH_ok {r : Nat → Int32} (hI : Inv r) {g : Nat} (hg : g < 5) : r (iG g 0) + nI 1 = nI (rH r g) ∧ 1 ≤ rH r g ∧ rH r g ≤ 10 := by
  obtain ⟨e, l⟩ := hI.gH hg
  unfold rH
  refine ⟨?_, by omega, by omega⟩
  rw [← nI_add, ← e]
theorem rA_ok {r : Nat → Int32} (hI : Inv r) {g : Nat} (hg : g < 5) : r (iG g 2) = nI (rA r g) ∧ rA r g ≤ 9 := hI.gW hg
theorem poN_e {r gi : Nat → Int32} (hI : Inv r) {σ : Nat → Nat} {g : Nat} (hg : g < 5) (hs : ∀ m, m < nM r → gi m = nI (σ m) ∧ σ m < 5) : ∀ k, k ≤ nM r → poN r gi g k = if anN σ g k = true then nI (toN (rW r) σ g k) else -9
  | 0, _ => rfl
  | k + 1, hk => by
    have h6 := hI.m
    have ih := poN_e hI hg hs k (by omega)
    obtain ⟨e1, l1⟩ := hs k (by omega)
    obtain ⟨e2, l2⟩ := rW_ok hI (p := k) (by omega)
    have hle := toN_le (w := rW r) (σ := σ) (g := g) (b := 12) (fun m hm => (rW_ok hI hm).2) k (by omega)
    show (if gi k = nI g then (if poN r gi g k < 0 then nI 0 else poN r gi g k) + weepS r k else poN r gi g k) = if (anN σ g k || decide (σ k = g)) = true then nI (toN (rW r) σ g k + (if σ k = g then rW r k else 0)) else -9
    rw [ih, e1]
    by_cases c : σ k = g
    · rw [if_pos (show nI (σ k) = nI g by rw [c]), if_pos c, decide_eq_true c, Bool.or_true, if_pos rfl, e2]
      cases ha : anN σ g k with
      | true => rw [if_pos rfl, if_neg (nI_pos (by omega)), nI_add]
      | false =>
        have z : toN (rW r) σ g k = 0 := by
          have : ∀ j, anN σ g j = false → toN (rW r) σ g j = 0 := by
            intro j
            induction j with
            | zero => intro _; rfl
            | succ j ihj =>
              intro h
              have h2 : (anN σ g j || decide (σ j = g)) = false := h
              rw [Bool.or_eq_false_iff] at h2
              show toN (rW r) σ g j + (if σ j = g then rW r j else 0) = 0
              rw [ihj h2.1, if_neg (of_decide_eq_false h2.2)]
          exact this k ha
        rw [if_neg (show ¬ false = true by decide), if_pos m9, z, nI_add]
    · rw [if_neg (show ¬ nI (σ k) = nI g from fun z => c ((nI_eq (by omega) (by omega)).mp z)), if_neg c, decide_eq_false c, Bool.or_false, Nat.add_zero]
theorem igS_e {r gi : Nat → Int32} (hI : Inv r) {σ : Nat → Nat} (hs : ∀ m, m < nM r → gi m = nI (σ m) ∧ σ m < 5) : igS r gi = nI (ivR r σ) ∧ ivR r σ ≤ 405 := by
  have h5 := hI.g
  have h6 := hI.m
  have key : ∀ k, k ≤ nG r → sumTo (igF r gi) k = nI (sumN (incN (rW r) (rA r) (rH r) σ (nM r)) k) ∧ sumN (incN (rW r) (rA r) (rH r) σ (nM r)) k ≤ 81 * k := by
    intro k
    induction k with
    | zero => intro _; exact ⟨rfl, by show 0 ≤ _; omega⟩
    | succ k ih =>
      intro hk
      obtain ⟨i1, i2⟩ := ih (by omega)
      obtain ⟨eA, lA⟩ := rA_ok hI (g := k) (by omega)
      obtain ⟨eH, lH, lH2⟩ := rH_ok hI (g := k) (by omega)
      have hle := toN_le (w := rW r) (σ := σ) (g := k) (b := 12) (fun m hm => (rW_ok hI hm).2) (nM r) h6
      have e : igF r gi k = nI (incN (rW r) (rA r) (rH r) σ (nM r) k) := by
        have hpo := poN_e hI (g := k) (by omega) hs (nM r) (Nat.le_refl _)
        unfold igF incN
        cases ha : anN σ k (nM r) with
        | true =>
          rw [ha, if_pos rfl] at hpo
          rw [hpo, if_neg (nI_pos (by omega)), if_pos rfl, eA, eH, nI_add, pk_div (by omega) (by omega) (by omega)]
        | false =>
          rw [ha, if_neg (show ¬ false = true by decide)] at hpo
          rw [hpo, if_pos m9, if_neg (show ¬ false = true by decide)]
      have hb : incN (rW r) (rA r) (rH r) σ (nM r) k ≤ 81 := by
        unfold incN
        split
        · exact Nat.le_trans (Nat.div_le_self _ _) (by omega)
        · omega
      show sumTo (igF r gi) k + igF r gi k = nI (sumN _ k + incN (rW r) (rA r) (rH r) σ (nM r) k) ∧ sumN _ k + incN (rW r) (rA r) (rH r) σ (nM r) k ≤ _
      rw [i1, e, nI_add]
      exact ⟨rfl, by omega⟩
  obtain ⟨k1, k2⟩ := key (nG r) (Nat.le_refl _)
  exact ⟨k1, by unfold ivR ivN; omega⟩
/-- the best of all codes below C -/
def bstR (r : Nat → Int32) (C : Nat) (b : Int32) (bg : Nat → Int32) : Prop := (b = -1 ∧ ∀ c, c < C → ¬ valC (nM r) (nG r) c) ∨ ∃ c0, c0 < C ∧ valC (nM r) (nG r) c0 ∧ b = nI (ivR r (dig c0)) ∧ (∀ m, m < nM r → bg m = nI (dig c0 m)) ∧ ∀ c, c < C → valC (nM r) (nG r) c → wvR r c ≤ wvR r c0
theorem bst_mono {r : Nat → Int32} {C C2 : Nat} {b : Int32} {bg : Nat → Int32} (h : bstR r C b bg) (hC : C ≤ C2) (hn : ∀ c, C ≤ c → c < C2 → ¬ valC (nM r) (nG r) c) : bstR r C2 b bg := by
  rcases h with ⟨h1, h2⟩ | ⟨c0, h1, h2, h3, h4, h5⟩
  · refine Or.inl ⟨h1, fun c hc => ?_⟩
    by_cases z : c < C
    · exact h2 c z
    · exact hn c (by omega) hc
  · refine Or.inr ⟨c0, by omega, h2, h3, h4, fun c hc hv => ?_⟩
    by_cases z : c < C
    · exact h5 c z hv
    · exact absurd hv (hn c (by omega) hc)
theorem dig_lt (c m : Nat) : dig c m < 5 := Nat.mod_lt _ (by decide)
/-- what stands of a code when p mourners are set -/
def preC (r gi : Nat → Int32) (p C : Nat) : Prop := C % cd5 p = 0 ∧ C + cd5 p ≤ 15625 ∧ (∀ m, m < p → dig C m < nG r) ∧ ∀ m, m < p → gi m = nI (dig C m)
theorem leaf_val {M G C : Nat} (hM : M ≤ 6) (h0 : C % cd5 M = 0) (h1 : C + cd5 M ≤ 15625) (h2 : ∀ m, m < M → dig C m < G) : valC M G C := by
  have cs : M = 0 ∨ M = 1 ∨ M = 2 ∨ M = 3 ∨ M = 4 ∨ M = 5 ∨ M = 6 := by omega
  refine ⟨by rcases cs with rfl | rfl | rfl | rfl | rfl | rfl | rfl <;> simp only [cd5] at h1 <;> omega, fun m hm => ?_⟩
  by_cases c : m < M
  · rw [if_pos c]; exact h2 m c
  · rw [if_neg c]
    have ms : m = 0 ∨ m = 1 ∨ m = 2 ∨ m = 3 ∨ m = 4 ∨ m = 5 := by omega
    unfold dig
    rcases cs with rfl | rfl | rfl | rfl | rfl | rfl | rfl <;> simp only [cd5] at h0 h1 <;> rcases ms with rfl | rfl | rfl | rfl | rfl | rfl <;> simp only [dgN] <;> omega
theorem leaf_gap {M G C c : Nat} (hM : M ≤ 6) (h0 : C % cd5 M = 0) (h1 : C < c) (h2 : c < C + cd5 M) : ¬ valC M G c := by
  rintro ⟨_, hv⟩
  have cs : M = 0 ∨ M = 1 ∨ M = 2 ∨ M = 3 ∨ M = 4 ∨ M = 5 ∨ M = 6 := by omega
  have v0 := hv 0 (by decide)
  have v1 := hv 1 (by decide)
  have v2 := hv 2 (by decide)
  have v3 := hv 3 (by decide)
  have v4 := hv 4 (by decide)
  have v5 := hv 5 (by decide)
  unfold dig at v0 v1 v2 v3 v4 v5
  rcases cs with rfl | rfl | rfl | rfl | rfl | rfl | rfl <;> simp [cd5, dgN] at h0 h2 v0 v1 v2 v3 v4 v5 <;> omega
theorem step_pre {p C k m : Nat} (hp : p < 6) (h0 : C % cd5 p = 0) (h1 : C + cd5 p ≤ 15625) (hk : k < 5) (hm : m ≤ p) : dig (C + k * dgN p) m = if m = p then k else dig C m := by
  have cs : p = 0 ∨ p = 1 ∨ p = 2 ∨ p = 3 ∨ p = 4 ∨ p = 5 := by omega
  have ms : m = 0 ∨ m = 1 ∨ m = 2 ∨ m = 3 ∨ m = 4 ∨ m = 5 := by omega
  unfold dig
  rcases cs with rfl | rfl | rfl | rfl | rfl | rfl <;> simp only [cd5] at h0 h1 <;> rcases ms with rfl | rfl | rfl | rfl | rfl | rfl <;> simp only [dgN] <;> first | omega | (exfalso; omega) | (simp; omega)
theorem step_e {p C k : Nat} (hp : p < 6) (h0 : C % cd5 p = 0) (h1 : C + cd5 p ≤ 15625) (hk : k < 5) : (C + k * dgN p) % cd5 (p + 1) = 0 ∧ C + k * dgN p + cd5 (p + 1) ≤ 15625 ∧ cd5 (p + 1) = dgN p ∧ cd5 p = 5 * dgN p := by
  have cs : p = 0 ∨ p = 1 ∨ p = 2 ∨ p = 3 ∨ p = 4 ∨ p = 5 := by omega
  rcases cs with rfl | rfl | rfl | rfl | rfl | rfl <;> simp only [cd5] at h0 h1 <;> refine ⟨?_, ?_, rfl, rfl⟩ <;> simp only [Nat.zero_add, Nat.reduceAdd, cd5, dgN] <;> omega
theorem gap_G {p C c G : Nat} (hp : p < 6) (h0 : C % cd5 p = 0) (h1 : C + G * dgN p ≤ c) (h2 : c < C + cd5 p) : G ≤ dig c p := by
  have cs : p = 0 ∨ p = 1 ∨ p = 2 ∨ p = 3 ∨ p = 4 ∨ p = 5 := by omega
  unfold dig
  rcases cs with rfl | rfl | rfl | rfl | rfl | rfl <;> simp only [cd5, dgN] at h0 h1 h2 ⊢ <;> omega
theorem seF_best {r : Nat → Int32} (hI : Inv r) : ∀ d p C (gi bg : Nat → Int32) (b : Int32), p + d = nM r → preC r gi p C → bstR r C b bg → bstR r (C + cd5 p) (seF r d (gi, bg, b)).2.2 (seF r d (gi, bg, b)).2.1
  | 0, p, C, gi, bg, b, hp, hC, hb => by
    have h6 := hI.m
    have h5 := hI.g
    obtain ⟨c0, c1, c2, c3⟩ := hC
    have hpM : p = nM r := by omega
    subst hpM
    have hv : valC (nM r) (nG r) C := leaf_val h6 c0 c1 c2
    have hgap : ∀ c, C < c → c < C + cd5 (nM r) → ¬ valC (nM r) (nG r) c := fun c z1 z2 => leaf_gap h6 c0 z1 z2
    obtain ⟨e1, l1⟩ := igS_e hI (gi := gi) (σ := dig C) (fun m hm => ⟨c3 m hm, dig_lt _ _⟩)
    have hC15 := hv.1
    by_cases z : igS r gi ≤ b
    · rw [seF_0n z]
      show bstR r (C + cd5 (nM r)) b bg
      rcases hb with ⟨h1, h2⟩ | ⟨k, h1, h2, h3, h4, h5'⟩
      · rw [e1, h1] at z
        exact absurd z (by rw [Int32.le_iff_toInt_le, nI_toInt (by omega)]; have : (-1 : Int32).toInt = -1 := by decide
                           omega)
      · obtain ⟨e2, l2⟩ := igS_e hI (gi := fun m => nI (dig k m)) (σ := dig k) (fun m hm => ⟨rfl, dig_lt _ _⟩)
        rw [e1, h3, nI_leI (by omega) (by omega)] at z
        refine Or.inr ⟨k, by omega, h2, h3, h4, fun c hc hcv => ?_⟩
        by_cases y : c < C
        · exact h5' c y hcv
        · by_cases y2 : c = C
          · subst y2; unfold wvR; omega
          · exact absurd hcv (hgap c (by omega) hc)
    · rw [seF_0p z]
      show bstR r (C + cd5 (nM r)) (igS r gi) gi
      have hep : 0 < cd5 (nM r) := by
        have cs : nM r = 0 ∨ nM r = 1 ∨ nM r = 2 ∨ nM r = 3 ∨ nM r = 4 ∨ nM r = 5 ∨ nM r = 6 := by omega
        rcases cs with e | e | e | e | e | e | e <;> rw [e] <;> decide
      refine Or.inr ⟨C, by omega, hv, e1, c3, fun c hc hcv => ?_⟩
      by_cases y : c < C
      · rcases hb with ⟨h1, h2⟩ | ⟨k, h1, h2, h3, h4, h5'⟩
        · exact absurd hcv (h2 c y)
        · have q := h5' c y hcv
          obtain ⟨e2, l2⟩ := igS_e hI (gi := fun m => nI (dig k m)) (σ := dig k) (fun m hm => ⟨rfl, dig_lt _ _⟩)
          rw [e1, h3, nI_leI (by omega) (by omega)] at z
          unfold wvR at q ⊢
          omega
      · by_cases y2 : c = C
        · subst y2; exact Int.le_refl _
        · exact absurd hcv (hgap c (by omega) hc)
  | d + 1, p, C, gi, bg, b, hp, hC, hb => by
    have h6 := hI.m
    have h5 := hI.g
    obtain ⟨c0, c1, c2, c3⟩ := hC
    have hp6 : p < 6 := by omega
    rw [seF_s, show nM r - (d + 1) = p by omega]
    have loop : ∀ k, k ≤ nG r → bstR r (C + k * dgN p) (seLoop (seF r d) p k (gi, bg, b)).2.2 (seLoop (seF r d) p k (gi, bg, b)).2.1 := by
      intro k
      induction k with
      | zero => intro _; rw [Nat.zero_mul]; exact hb
      | succ k ih =>
        intro hk
        have ihk := ih (by omega)
        obtain ⟨s1, s2, s3, s4⟩ := step_e hp6 c0 c1 (k := k) (by omega)
        have q := seF_best hI d (p + 1) (C + k * dgN p) (upd (seLoop (seF r d) p k (gi, bg, b)).1 p (nI k)) (seLoop (seF r d) p k (gi, bg, b)).2.1 (seLoop (seF r d) p k (gi, bg, b)).2.2 (by omega)
          ⟨s1, s2, fun m hm => by
            rw [step_pre hp6 c0 c1 (by omega) (by omega)]
            by_cases y : m = p
            · rw [if_pos y]; omega
            · rw [if_neg y]; exact c2 m (by omega), fun m hm => by
            rw [step_pre hp6 c0 c1 (by omega) (by omega)]
            by_cases y : m = p
            · rw [if_pos y, y]; exact upd_s
            · rw [if_neg y, upd_n y, seLoop_lt (by omega) (by omega)]
              exact c3 m (by omega)⟩ ihk
        rw [s3, show C + k * dgN p + dgN p = C + (k + 1) * dgN p by rw [Nat.succ_mul]; omega] at q
        exact q
    obtain ⟨s1, s2, s3, s4⟩ := step_e hp6 c0 c1 (k := 0) (by omega)
    refine bst_mono (loop (nG r) (Nat.le_refl _)) (by rw [s4]; have := Nat.mul_le_mul_right (dgN p) h5; omega) (fun c z1 z2 hv => ?_)
    have := gap_G hp6 c0 z1 z2
    have q := hv.2 p hp6
    rw [if_pos (by omega)] at q
    omega
theorem wv_inj {r : Nat → Int32} {c c2 : Nat} (h : c < 15625) (h2 : c2 < 15625) (e : wvR r c = wvR r c2) : c = c2 := by
  unfold wvR at e
  omega
theorem ref_best {r : Nat → Int32} (hI : Inv r) (hG : 0 < nG r) (gi bg : Nat → Int32) : ∃ c0, valC (nM r) (nG r) c0 ∧ (seF r (nM r) (gi, bg, -1)).2.2 = nI (ivR r (dig c0)) ∧ (∀ m, m < nM r → (seF r (nM r) (gi, bg, -1)).2.1 m = nI (dig c0 m)) ∧ ∀ c, valC (nM r) (nG r) c → wvR r c ≤ wvR r c0 := by
  have q := seF_best hI (nM r) 0 0 gi bg (-1) (by omega) ⟨by decide, by decide, fun m hm => by omega, fun m hm => by omega⟩ (Or.inl ⟨rfl, fun c hc => by omega⟩)
  rcases q with ⟨_, h2⟩ | ⟨c0, h1, h2, h3, h4, h5⟩
  · refine absurd ?_ (h2 0 (by decide))
    refine ⟨by decide, fun m _ => ?_⟩
    have : dig 0 m = 0 := by unfold dig; rw [Nat.zero_div]
    rw [this]
    split <;> omega
  · exact ⟨c0, h2, h3, h4, fun c hc => h5 c hc.1 hc⟩
