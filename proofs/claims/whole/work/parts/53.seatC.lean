/-! THE SEATING: both sides' best is one -/
theorem full_has {M m : Nat} (hM : M ≤ 6) (hm : m < 6) : hasB (2 ^ M - 1) m = decide (m < M) := by
  have e : ∀ M, M < 7 → ∀ m, m < 6 → hasB (2 ^ M - 1) m = decide (m < M) := by decide +kernel
  exact e M (by omega) m hm
theorem wsm_sel {w σ : Nat → Nat} {M g : Nat} (hM : M ≤ 6) : ∀ k, k ≤ 6 → wsm w (selN (2 ^ M - 1) σ g) k = toN w σ g (if k ≤ M then k else M)
  | 0, _ => by rw [if_pos (Nat.zero_le _)]; rfl
  | k + 1, hk => by
    have ih := wsm_sel (w := w) (σ := σ) (g := g) hM k (by omega)
    show wsm w _ k + (if hasB (selN (2 ^ M - 1) σ g) k = true then w k else 0) = _
    rw [ih, sel_has (by omega), full_has hM (by omega)]
    by_cases c : k < M
    · rw [if_pos (show k ≤ M by omega), if_pos (show k + 1 ≤ M by omega), decide_eq_true c, Bool.true_and]
      show _ = toN w σ g k + (if σ k = g then w k else 0)
      by_cases d : σ k = g
      · rw [decide_eq_true d, if_pos rfl, if_pos d]
      · rw [decide_eq_false d, if_neg (by decide), if_neg d]
    · rw [decide_eq_false c, Bool.false_and, if_neg (show ¬ false = true by decide), Nat.add_zero, if_neg (show ¬ k + 1 ≤ M by omega)]
      by_cases d : k ≤ M
      · rw [if_pos d, show k = M by omega]
      · rw [if_neg d]
theorem sel_0 {σ : Nat → Nat} {M g : Nat} (hM : M ≤ 6) : selN (2 ^ M - 1) σ g = 0 ↔ anN σ g M = false := by
  have key : ∀ k, k ≤ M → (anN σ g k = false ↔ ∀ m, m < k → ¬ σ m = g) := by
    intro k
    induction k with
    | zero => intro _; exact ⟨fun _ m hm => by omega, fun _ => rfl⟩
    | succ k ih =>
      intro hk
      show (anN σ g k || decide (σ k = g)) = false ↔ _
      rw [Bool.or_eq_false_iff, ih (by omega), decide_eq_false_iff_not]
      constructor
      · rintro ⟨a, b⟩ m hm
        by_cases c : m = k
        · subst c; exact b
        · exact a m (by omega)
      · intro a
        exact ⟨fun m hm => a m (by omega), a k (by omega)⟩
  rw [key M (Nat.le_refl _)]
  constructor
  · intro z m hm hσ
    have h := sel_has (s := 2 ^ M - 1) (σ := σ) (g := g) (m := m) (by omega)
    rw [z, has_0, full_has hM (by omega), decide_eq_true hm, decide_eq_true hσ] at h
    cases h
  · intro z
    refine set_ext sel_lt (by decide) (fun m hm => ?_)
    rw [sel_has hm, has_0, full_has hM hm]
    by_cases c : m < M
    · rw [decide_eq_false (z m c), Bool.and_false]
    · rw [decide_eq_false c]; rfl
theorem toN_0 {w σ : Nat → Nat} {g : Nat} : ∀ k, anN σ g k = false → toN w σ g k = 0
  | 0, _ => rfl
  | k + 1, h => by
    have h2 : (anN σ g k || decide (σ k = g)) = false := h
    rw [Bool.or_eq_false_iff] at h2
    show toN w σ g k + (if σ k = g then w k else 0) = 0
    rw [toN_0 k h2.1, if_neg (of_decide_eq_false h2.2)]
theorem th_sum {r : Nat → Int32} {σ : Nat → Nat} (h6 : nM r ≤ 6) : ∀ k, thZ r (2 ^ nM r - 1) σ k = (sumN (incN (rW r) (rA r) (rH r) σ (nM r)) k : Int) * 15625 - (sumN (fun g => g * toN dgN σ g (nM r)) k : Int)
  | 0 => by
    show (0 : Int) = ((0 : Nat) : Int) * 15625 - ((0 : Nat) : Int)
    omega
  | k + 1 => by
    show thZ r (2 ^ nM r - 1) σ k + (if selN (2 ^ nM r - 1) σ k = 0 then 0 else hzZ r k (selN (2 ^ nM r - 1) σ k)) = ((sumN _ k + incN (rW r) (rA r) (rH r) σ (nM r) k : Nat) : Int) * 15625 - ((sumN (fun g => g * toN dgN σ g (nM r)) k + k * toN dgN σ k (nM r) : Nat) : Int)
    rw [th_sum h6 k]
    have wm : ∀ w : Nat → Nat, wsm w (selN (2 ^ nM r - 1) σ k) 6 = toN w σ k (nM r) := by
      intro w
      rw [wsm_sel h6 6 (Nat.le_refl _)]
      by_cases c : 6 ≤ nM r
      · rw [if_pos c, show nM r = 6 by omega]
      · rw [if_neg c]
    unfold incN hzZ
    rw [wm, wm]
    cases ha : anN σ k (nM r) with
    | true =>
      rw [if_neg (fun z => by rw [(sel_0 h6).mp z] at ha; cases ha), if_pos rfl]
      generalize (rA r k + toN (rW r) σ k (nM r)) / rH r k = x
      generalize k * toN dgN σ k (nM r) = y
      omega
    | false =>
      rw [if_pos ((sel_0 h6).mpr ha), if_neg (show ¬ false = true by decide), toN_0 (w := dgN) _ ha, Nat.mul_zero, Nat.add_zero, Nat.add_zero, Int.add_zero]
def codeN (σ : Nat → Nat) : Nat → Nat
  | 0 => 0
  | m + 1 => codeN σ m + σ m * dgN m
theorem sumN_add {F G : Nat → Nat} : ∀ n, sumN (fun g => F g + G g) n = sumN F n + sumN G n
  | 0 => rfl
  | n + 1 => by
    show sumN (fun g => F g + G g) n + (F n + G n) = sumN F n + F n + (sumN G n + G n)
    rw [sumN_add n]; omega
theorem sumN_one {s x : Nat} : ∀ n, sumN (fun g => g * (if s = g then x else 0)) n = if s < n then s * x else 0
  | 0 => by rw [if_neg (by omega)]; rfl
  | n + 1 => by
    show sumN (fun g => g * (if s = g then x else 0)) n + n * (if s = n then x else 0) = _
    rw [sumN_one n]
    by_cases c : s = n
    · subst c; rw [if_neg (by omega), if_pos rfl, if_pos (by omega), Nat.zero_add]
    · rw [if_neg c, Nat.mul_zero, Nat.add_zero]
      by_cases d : s < n
      · rw [if_pos d, if_pos (by omega)]
      · rw [if_neg d, if_neg (by omega)]
theorem sum_code {σ : Nat → Nat} {G : Nat} : ∀ k, (∀ m, m < k → σ m < G) → sumN (fun g => g * toN dgN σ g k) G = codeN σ k
  | 0, _ => by
    have : ∀ n, sumN (fun g => g * toN dgN σ g 0) n = 0 := by
      intro n
      induction n with
      | zero => rfl
      | succ n ih => show sumN _ n + n * 0 = 0; rw [ih]; omega
    exact this G
  | k + 1, h => by
    have e : sumN (fun g => g * toN dgN σ g (k + 1)) G = sumN (fun g => g * toN dgN σ g k + g * (if σ k = g then dgN k else 0)) G := sumN_cong G (fun g _ => by
      show g * (toN dgN σ g k + (if σ k = g then dgN k else 0)) = _
      rw [Nat.mul_add])
    rw [e, sumN_add, sum_code k (fun m hm => h m (by omega)), sumN_one, if_pos (h k (by omega))]
    rfl
theorem code_dig {M G c : Nat} (hM : M ≤ 6) (hv : valC M G c) : codeN (dig c) M = c := by
  obtain ⟨h1, h2⟩ := hv
  have v0 := h2 0 (by decide)
  have v1 := h2 1 (by decide)
  have v2 := h2 2 (by decide)
  have v3 := h2 3 (by decide)
  have v4 := h2 4 (by decide)
  have v5 := h2 5 (by decide)
  have cs : M = 0 ∨ M = 1 ∨ M = 2 ∨ M = 3 ∨ M = 4 ∨ M = 5 ∨ M = 6 := by omega
  rcases cs with rfl | rfl | rfl | rfl | rfl | rfl | rfl <;> simp [dig, dgN] at v0 v1 v2 v3 v4 v5 <;> simp only [codeN, dig, dgN] <;> omega
theorem dig_code {M G : Nat} {σ : Nat → Nat} (hM : M ≤ 6) (hG : G ≤ 5) (hG0 : 0 < G) (h : ∀ m, m < M → σ m < G) : valC M G (codeN σ M) ∧ ∀ m, m < M → dig (codeN σ M) m = σ m := by
  have key : codeN σ M < 15625 ∧ ∀ m, m < 6 → dig (codeN σ M) m = if m < M then σ m else 0 := by
    have cs : M = 0 ∨ M = 1 ∨ M = 2 ∨ M = 3 ∨ M = 4 ∨ M = 5 ∨ M = 6 := by omega
    have b : ∀ m, m < M → σ m < 5 := fun m hm => Nat.lt_of_lt_of_le (h m hm) hG
    rcases cs with rfl | rfl | rfl | rfl | rfl | rfl | rfl
    · exact ⟨show 0 < 15625 by decide, fun m hm => by rw [if_neg (by omega)]; show 0 / dgN m % 5 = 0; rw [Nat.zero_div]⟩
    · have b0 := b 0 (by decide)
      simp only [codeN, dgN]
      refine ⟨by omega, fun m hm => ?_⟩
      have ms : m = 0 ∨ m = 1 ∨ m = 2 ∨ m = 3 ∨ m = 4 ∨ m = 5 := by omega
      rcases ms with rfl | rfl | rfl | rfl | rfl | rfl <;> simp only [dig, dgN] <;> simp <;> omega
    · have b0 := b 0 (by decide)
      have b1 := b 1 (by decide)
      simp only [codeN, dgN]
      refine ⟨by omega, fun m hm => ?_⟩
      have ms : m = 0 ∨ m = 1 ∨ m = 2 ∨ m = 3 ∨ m = 4 ∨ m = 5 := by omega
      rcases ms with rfl | rfl | rfl | rfl | rfl | rfl <;> simp only [dig, dgN] <;> simp <;> omega
    · have b0 := b 0 (by decide)
      have b1 := b 1 (by decide)
      have b2 := b 2 (by decide)
      simp only [codeN, dgN]
      refine ⟨by omega, fun m hm => ?_⟩
      have ms : m = 0 ∨ m = 1 ∨ m = 2 ∨ m = 3 ∨ m = 4 ∨ m = 5 := by omega
      rcases ms with rfl | rfl | rfl | rfl | rfl | rfl <;> simp only [dig, dgN] <;> simp <;> omega
    · have b0 := b 0 (by decide)
      have b1 := b 1 (by decide)
      have b2 := b 2 (by decide)
      have b3 := b 3 (by decide)
      simp only [codeN, dgN]
      refine ⟨by omega, fun m hm => ?_⟩
      have ms : m = 0 ∨ m = 1 ∨ m = 2 ∨ m = 3 ∨ m = 4 ∨ m = 5 := by omega
      rcases ms with rfl | rfl | rfl | rfl | rfl | rfl <;> simp only [dig, dgN] <;> simp <;> omega
    · have b0 := b 0 (by decide)
      have b1 := b 1 (by decide)
      have b2 := b 2 (by decide)
      have b3 := b 3 (by decide)
      have b4 := b 4 (by decide)
      simp only [codeN, dgN]
      refine ⟨by omega, fun m hm => ?_⟩
      have ms : m = 0 ∨ m = 1 ∨ m = 2 ∨ m = 3 ∨ m = 4 ∨ m = 5 := by omega
      rcases ms with rfl | rfl | rfl | rfl | rfl | rfl <;> simp only [dig, dgN] <;> simp <;> omega
    · have b0 := b 0 (by decide)
      have b1 := b 1 (by decide)
      have b2 := b 2 (by decide)
      have b3 := b 3 (by decide)
      have b4 := b 4 (by decide)
      have b5 := b 5 (by decide)
      simp only [codeN, dgN]
      refine ⟨by omega, fun m hm => ?_⟩
      have ms : m = 0 ∨ m = 1 ∨ m = 2 ∨ m = 3 ∨ m = 4 ∨ m = 5 := by omega
      rcases ms with rfl | rfl | rfl | rfl | rfl | rfl <;> simp only [dig, dgN] <;> simp <;> omega
  refine ⟨⟨key.1, fun m hm => ?_⟩, fun m hm => by rw [key.2 m (by omega), if_pos hm]⟩
  rw [key.2 m hm]
  by_cases c : m < M
  · rw [if_pos c, if_pos c]; exact h m c
  · rw [if_neg c, if_neg c]; omega
theorem th_wv {r : Nat → Int32} (hI : Inv r) {c : Nat} (hv : valC (nM r) (nG r) c) : thZ r (2 ^ nM r - 1) (dig c) (nG r) = wvR r c := by
  have h6 := hI.m
  rw [th_sum h6, sum_code (nM r) (fun m hm => by have := hv.2 m (by omega); rw [if_pos hm] at this; exact this), code_dig h6 hv]
  rfl
theorem ivR_le {r : Nat → Int32} (hI : Inv r) (c : Nat) : ivR r (dig c) ≤ 405 := (igS_e hI (gi := fun m => nI (dig c m)) (σ := dig c) (fun m _ => ⟨rfl, dig_lt _ _⟩)).2
/-- the class's best worth -/
theorem cls_best {r : Nat → Int32} (hI : Inv r) (hG : 0 < nG r) : ∃ c0, valC (nM r) (nG r) c0 ∧ (bestS r).toInt = wvR r c0 ∧ ∀ c, valC (nM r) (nG r) c → wvR r c ≤ wvR r c0 := by
  have h5 := hI.g
  have h6 := hI.m
  have hp := pow6 h6
  have hF : 2 ^ nM r - 1 < 64 := by omega
  obtain ⟨e, _, _⟩ := wt_e hI (nG r) h5 (2 ^ nM r - 1) hF
  have e : (bestS r).toInt = wtZ r (nG r) (2 ^ nM r - 1) := e
  have inF : ∀ m, m < 6 → hasB (2 ^ nM r - 1) m = true → m < nM r := fun m hm hh => by
    rw [full_has h6 hm] at hh; exact of_decide_eq_true hh
  have up : ∀ c, valC (nM r) (nG r) c → wvR r c ≤ wtZ r (nG r) (2 ^ nM r - 1) := fun c hv => by
    rw [← th_wv hI hv]
    exact th_up _ _ hF (fun m hm hh => by have := hv.2 m hm; rw [if_pos (inF m hm hh)] at this; exact this)
  have v0 : valC (nM r) (nG r) 0 := ⟨by decide, fun m _ => by
    have : dig 0 m = 0 := by unfold dig; rw [Nat.zero_div]
    rw [this]
    split <;> omega⟩
  have u0 := up 0 v0
  rcases th_at hI (nG r) h5 (2 ^ nM r - 1) hF with z | ⟨σ, z1, z2⟩
  · exfalso
    unfold wvR at u0
    omega
  · obtain ⟨d1, d2⟩ := dig_code (M := nM r) (G := nG r) (σ := σ) h6 h5 hG (fun m hm => z1 m (by omega) (by rw [full_has h6 (by omega)]; exact decide_eq_true hm))
    refine ⟨codeN σ (nM r), d1, ?_, fun c hv => ?_⟩
    · rw [e, z2, ← th_wv hI d1]
      refine thZ_cong _ (fun g _ => set_ext sel_lt sel_lt (fun m hm => ?_))
      rw [sel_has hm, sel_has hm, full_has h6 hm]
      by_cases c : m < nM r
      · rw [d2 m c]
      · rw [decide_eq_false c]; rfl
    · refine Int.le_trans (up c hv) ?_
      rw [z2, ← th_wv hI d1]
      refine Int.le_of_eq (thZ_cong _ (fun g _ => set_ext sel_lt sel_lt (fun m hm => ?_)))
      rw [sel_has hm, sel_has hm, full_has h6 hm]
      by_cases c : m < nM r
      · rw [d2 m c]
      · rw [decide_eq_false c]; rfl
/-- SEAT: what both sides need -/
theorem seat_ok {r : Nat → Int32} (hI : Inv r) : ∃ sx sc : Nat, (0 < nG r → bestS r + nI 15625 - nI 1 = nI sx ∧ nI (sx / 15625 * 15625) - bestS r = nI sc) ∧ sx < 2 ^ 31 ∧ sc < 15625 ∧ ∀ gi bg : Nat → Int32, (0 < nG r → (seF r (nM r) (gi, bg, -1)).2.2 = nI (sx / 15625)) ∧ (0 < nG r → ∀ m, m < nM r → (seF r (nM r) (gi, bg, -1)).2.1 m = nI (sc / dgN m % 5)) := by
  by_cases hG : 0 < nG r
  · obtain ⟨c0, v, e, mx⟩ := cls_best hI hG
    have hc := v.1
    have hiv := ivR_le hI c0
    have hx : (ivR r (dig c0) * 15625 + 15624 - c0) / 15625 = ivR r (dig c0) := by omega
    have ew : (bestS r).toInt = (ivR r (dig c0) : Int) * 15625 - c0 := e
    have s1 : (bestS r + nI 15625).toInt = (ivR r (dig c0) : Int) * 15625 - c0 + 15625 := add_toI ew (nI_toInt (by decide)) (by omega) (by omega)
    have eb : bestS r + nI 15625 = nI (ivR r (dig c0) * 15625 + 15625 - c0) := nI_int (by rw [s1]; omega) (by omega)
    refine ⟨ivR r (dig c0) * 15625 + 15624 - c0, c0, fun _ => ⟨?_, ?_⟩, by omega, hc, fun gi bg => ?_⟩
    · rw [eb, pk_sub (by omega)]
      exact congrArg nI (by omega)
    · rw [hx]
      apply Int32.toInt_inj.mp
      rw [Int32.toInt_sub, ew, nI_toInt (by omega), nI_toInt (by omega)]
      refine (Int.bmod_eq_of_le (by omega) (by omega)).trans ?_
      omega
    · obtain ⟨c1, w1, w2, w3, w4⟩ := ref_best hI hG gi bg
      have ec : c1 = c0 := wv_inj (r := r) w1.1 hc (by have := mx c1 w1; have := w4 c0 v; omega)
      subst ec
      rw [hx]
      exact ⟨fun _ => w2, fun _ => w3⟩
  · exact ⟨0, 0, fun z => absurd z hG, by decide, by decide, fun _ _ => ⟨fun z => absurd z hG, fun z => absurd z hG⟩⟩
