/-! THE SEATING: the class's sets of mourners -/
def encN (β : Nat → Bool) : Nat := (if β 0 = true then 1 else 0) + (if β 1 = true then 2 else 0) + (if β 2 = true then 4 else 0) + (if β 3 = true then 8 else 0) + (if β 4 = true then 16 else 0) + (if β 5 = true then 32 else 0)
theorem encN_lt (β : Nat → Bool) : encN β < 64 := by
  unfold encN
  have e : ∀ (b : Bool) (x : Nat), (if b = true then x else 0) ≤ x := by intro b x; cases b <;> simp
  have := e (β 0) 1
  have := e (β 1) 2
  have := e (β 2) 4
  have := e (β 3) 8
  have := e (β 4) 16
  have := e (β 5) 32
  omega
theorem enc_has (β : Nat → Bool) {m : Nat} (hm : m < 6) : hasB (encN β) m = β m := by
  have ms : m = 0 ∨ m = 1 ∨ m = 2 ∨ m = 3 ∨ m = 4 ∨ m = 5 := by omega
  have key : ∀ a b c d e f : Bool, ∀ m, m < 6 → hasB ((if a = true then 1 else 0) + (if b = true then 2 else 0) + (if c = true then 4 else 0) + (if d = true then 8 else 0) + (if e = true then 16 else 0) + (if f = true then 32 else 0)) m = (match m with | 0 => a | 1 => b | 2 => c | 3 => d | 4 => e | _ => f) := by decide +kernel
  have q := key (β 0) (β 1) (β 2) (β 3) (β 4) (β 5) m hm
  unfold encN
  rw [q]
  rcases ms with rfl | rfl | rfl | rfl | rfl | rfl <;> rfl
theorem has_enc : ∀ s, s < 64 → encN (hasB s) = s := by decide +kernel
theorem set_ext {s t : Nat} (hs : s < 64) (ht : t < 64) (h : ∀ m, m < 6 → hasB s m = hasB t m) : s = t := by
  rw [← has_enc s hs, ← has_enc t ht]
  unfold encN
  rw [h 0 (by decide), h 1 (by decide), h 2 (by decide), h 3 (by decide), h 4 (by decide), h 5 (by decide)]
def subN (h s : Nat) : Bool := (List.range 6).all (fun m => !hasB h m || hasB s m)
theorem sub_N : ∀ s, s < 64 → ∀ h, h < 64 → subB h s = subN h s := by decide +kernel
theorem subN_iff {h s : Nat} : subN h s = true ↔ ∀ m, m < 6 → hasB h m = true → hasB s m = true := by
  unfold subN
  rw [List.all_eq_true]
  constructor
  · intro z m hm hh
    have := z m (List.mem_range.mpr hm)
    rw [hh] at this
    simpa using this
  · intro z m hm
    have hm := List.mem_range.mp hm
    cases c : hasB h m with
    | false => rfl
    | true => rw [z m hm c]; rfl
theorem sub_has : ∀ s, s < 64 → ∀ h, h < 64 → subN h s = true → h ≤ s ∧ ∀ m, m < 6 → hasB (s - h) m = (hasB s m && !hasB h m) := by decide +kernel
def wsm (w : Nat → Nat) (s : Nat) : Nat → Nat
  | 0 => 0
  | m + 1 => wsm w s m + (if hasB s m = true then w m else 0)
theorem wsm_le {w : Nat → Nat} {s b : Nat} (hw : ∀ m, m < 6 → w m ≤ b) : ∀ k, k ≤ 6 → wsm w s k ≤ b * k
  | 0, _ => by show 0 ≤ _; omega
  | k + 1, hk => by
    have ih := wsm_le (s := s) hw k (by omega)
    have := hw k (by omega)
    show wsm w s k + (if hasB s k = true then w k else 0) ≤ _
    rw [Nat.mul_succ]
    split <;> omega
theorem wpS_e {r : Nat → Int32} (hI : Inv r) {s : Nat} : ∀ k, k ≤ 6 → wpS r s k = nI (wsm (rW r) s k)
  | 0, _ => rfl
  | k + 1, hk => by
    have ih := wpS_e hI (s := s) k (by omega)
    obtain ⟨e, l⟩ := rW_ok hI (p := k) (by omega)
    show _ = nI (wsm (rW r) s k + (if hasB s k = true then rW r k else 0))
    by_cases c : hasB s k = true
    · rw [wpS_t c, if_pos c, ih, e, nI_add]
    · rw [wpS_n c, if_neg c, ih, Nat.add_zero]
theorem dpS_e {s : Nat} : ∀ k, dpS s k = wsm dgN s k
  | 0 => rfl
  | k + 1 => by
    show _ = wsm dgN s k + (if hasB s k = true then dgN k else 0)
    by_cases c : hasB s k = true
    · rw [dpS_t c, if_pos c, dpS_e k]
    · rw [dpS_n c, if_neg c, dpS_e k, Nat.add_zero]
/-- in whole numbers -/
def hzZ (r : Nat → Int32) (g h : Nat) : Int := (((rA r g + wsm (rW r) h 6) / rH r g : Nat) : Int) * 15625 - ((g * wsm dgN h 6 : Nat) : Int)
def bwZ (r : Nat → Int32) (g : Nat) (W : Nat → Int) (s : Nat) : Nat → Int
  | 0 => W s
  | k + 1 => if subN (k + 1) s = true then (if bwZ r g W s k < W (s - (k + 1)) + hzZ r g (k + 1) then W (s - (k + 1)) + hzZ r g (k + 1) else bwZ r g W s k) else bwZ r g W s k
def wtZ (r : Nat → Int32) : Nat → Nat → Int
  | 0 => fun j => if j = 0 then 0 else -1000000000
  | g + 1 => fun j => bwZ r g (wtZ r g) j j
theorem wtZ_s (r : Nat → Int32) (g j : Nat) : wtZ r (g + 1) j = bwZ r g (wtZ r g) j j := rfl
theorem hz_bd {r : Nat → Int32} (hI : Inv r) {g h : Nat} (hg : g < 5) : -100000 ≤ hzZ r g h ∧ hzZ r g h ≤ 1300000 := by
  obtain ⟨eA, lA⟩ := rA_ok hI hg
  have l1 := wsm_le (w := rW r) (s := h) (b := 12) (fun m hm => (rW_ok hI hm).2) 6 (by decide)
  have l2 := wsm_le (w := dgN) (s := h) (b := 3125) (fun m hm => (dgN_ok hm).2) 6 (by decide)
  have l3 : (rA r g + wsm (rW r) h 6) / rH r g ≤ 81 := Nat.le_trans (Nat.div_le_self _ _) (by omega)
  have l4 : g * wsm dgN h 6 ≤ 4 * 18750 := Nat.mul_le_mul (by omega) (by omega)
  unfold hzZ
  generalize (rA r g + wsm (rW r) h 6) / rH r g = x at l3 ⊢
  generalize g * wsm dgN h 6 = y at l4 ⊢
  omega
theorem here_e {r : Nat → Int32} (hI : Inv r) {g h : Nat} (hg : g < 5) : (hereS r g h).toInt = hzZ r g h := by
  obtain ⟨eA, lA⟩ := rA_ok hI hg
  obtain ⟨eH, lH, lH2⟩ := rH_ok hI hg
  have l1 := wsm_le (w := rW r) (s := h) (b := 12) (fun m hm => (rW_ok hI hm).2) 6 (by decide)
  have l2 := wsm_le (w := dgN) (s := h) (b := 3125) (fun m hm => (dgN_ok hm).2) 6 (by decide)
  have l3 : (rA r g + wsm (rW r) h 6) / rH r g ≤ 81 := Nat.le_trans (Nat.div_le_self _ _) (by omega)
  have l4 : g * wsm dgN h 6 ≤ 4 * 18750 := Nat.mul_le_mul (by omega) (by omega)
  unfold hereS
  rw [eA, eH, wpS_e hI 6 (Nat.le_refl _), dpS_e, nI_add, pk_div (by omega) (by omega) (by omega), pk_mul, pk_mul, pk_sub_toInt (by omega) (by omega)]
  unfold hzZ
  rw [Int.natCast_mul]
  rfl
theorem add_toI {x y : Int32} {a b : Int} (hx : x.toInt = a) (hy : y.toInt = b) (h1 : -2147483648 ≤ a + b) (h2 : a + b < 2147483648) : (x + y).toInt = a + b := by
  rw [Int32.toInt_add, hx, hy]
  exact Int.bmod_eq_of_le (by omega) (by omega)
theorem bw_e {r : Nat → Int32} (hI : Inv r) {g : Nat} (hg : g < 5) {W : Nat → Int32} {Z : Nat → Int} {s : Nat} (hs : s < 64) {lo hi : Int} (hlo : -1400000000 ≤ lo) (hhi : hi ≤ 1400000000) (hW : ∀ j, j ≤ s → (W j).toInt = Z j ∧ lo ≤ Z j ∧ Z j ≤ hi) : ∀ k, k ≤ s → (bwL r g W s k).toInt = bwZ r g Z s k ∧ lo ≤ bwZ r g Z s k ∧ bwZ r g Z s k ≤ hi + 1300000
  | 0, _ => by
    obtain ⟨a, b, c⟩ := hW s (Nat.le_refl _)
    exact ⟨a, b, by show Z s ≤ _; omega⟩
  | k + 1, hk => by
    obtain ⟨i1, i2, i3⟩ := bw_e hI hg hs hlo hhi hW k (by omega)
    obtain ⟨w1, w2, w3⟩ := hW (s - (k + 1)) (Nat.sub_le _ _)
    obtain ⟨b1, b2⟩ := hz_bd hI hg (h := k + 1)
    have e := add_toI w1 (here_e hI hg (h := k + 1)) (by omega) (by omega)
    have es := sub_N s hs (k + 1) (by omega)
    show _ = (if subN (k + 1) s = true then (if bwZ r g Z s k < Z (s - (k + 1)) + hzZ r g (k + 1) then Z (s - (k + 1)) + hzZ r g (k + 1) else bwZ r g Z s k) else bwZ r g Z s k) ∧ lo ≤ (if subN (k + 1) s = true then (if bwZ r g Z s k < Z (s - (k + 1)) + hzZ r g (k + 1) then Z (s - (k + 1)) + hzZ r g (k + 1) else bwZ r g Z s k) else bwZ r g Z s k) ∧ (if subN (k + 1) s = true then (if bwZ r g Z s k < Z (s - (k + 1)) + hzZ r g (k + 1) then Z (s - (k + 1)) + hzZ r g (k + 1) else bwZ r g Z s k) else bwZ r g Z s k) ≤ _
    by_cases c : subN (k + 1) s = true
    · rw [bwL_t (es.trans c), if_pos c]
      have iff : (bwL r g W s k < W (s - (k + 1)) + hereS r g (k + 1)) ↔ (bwZ r g Z s k < Z (s - (k + 1)) + hzZ r g (k + 1)) := by
        rw [Int32.lt_iff_toInt_lt, i1, e]
      by_cases d : bwZ r g Z s k < Z (s - (k + 1)) + hzZ r g (k + 1)
      · rw [if_pos d, if_pos (iff.mpr d)]; exact ⟨e, by omega, by omega⟩
      · rw [if_neg d, if_neg (fun z => d (iff.mp z))]; exact ⟨i1, i2, i3⟩
    · rw [bwL_n (fun z => c (es.symm.trans z)), if_neg c]; exact ⟨i1, i2, i3⟩
theorem wt_e {r : Nat → Int32} (hI : Inv r) : ∀ g, g ≤ 5 → ∀ s, s < 64 → (wtS r g s).toInt = wtZ r g s ∧ -1000000000 ≤ wtZ r g s ∧ wtZ r g s ≤ g * 1300000
  | 0, _, s, hs => by
    show (if s = 0 then nI 0 else -1000000000 : Int32).toInt = (if s = 0 then 0 else -1000000000 : Int) ∧ -1000000000 ≤ (if s = 0 then 0 else -1000000000 : Int) ∧ (if s = 0 then 0 else -1000000000 : Int) ≤ ((0 : Nat) : Int) * 1300000
    by_cases c : s = 0
    · rw [if_pos c, if_pos c]; exact ⟨rfl, by omega, by omega⟩
    · rw [if_neg c, if_neg c]; exact ⟨by decide, by omega, by omega⟩
  | g + 1, hg, s, hs => by
    have q := bw_e hI (g := g) (by omega) (W := wtS r g) (Z := wtZ r g) hs (lo := -1000000000) (hi := g * 1300000) (by omega) (by omega) (fun j hj => wt_e hI g (by omega) j (by omega)) s (Nat.le_refl _)
    rw [wtS_s, wtZ_s]
    exact ⟨q.1, q.2.1, by have := q.2.2; omega⟩
theorem bwZ_ge {r : Nat → Int32} {g s : Nat} {W : Nat → Int} : ∀ k, W s ≤ bwZ r g W s k
  | 0 => Int.le_refl _
  | k + 1 => by
    have ih := bwZ_ge (r := r) (g := g) (s := s) (W := W) k
    show _ ≤ (if subN (k + 1) s = true then _ else _)
    split
    · split <;> omega
    · exact ih
theorem bwZ_up {r : Nat → Int32} {g s h : Nat} {W : Nat → Int} (h1 : 1 ≤ h) (hs : subN h s = true) : ∀ k, h ≤ k → W (s - h) + hzZ r g h ≤ bwZ r g W s k
  | 0, hk => by omega
  | k + 1, hk => by
    show _ ≤ (if subN (k + 1) s = true then (if bwZ r g W s k < W (s - (k + 1)) + hzZ r g (k + 1) then W (s - (k + 1)) + hzZ r g (k + 1) else bwZ r g W s k) else bwZ r g W s k)
    by_cases c : h = k + 1
    · subst c
      rw [if_pos hs]
      split <;> omega
    · have ih := bwZ_up (r := r) (g := g) (W := W) h1 hs k (by omega)
      split
      · split <;> omega
      · exact ih
theorem bwZ_at {r : Nat → Int32} {g s : Nat} {W : Nat → Int} : ∀ k, bwZ r g W s k = W s ∨ ∃ h, 1 ≤ h ∧ h ≤ k ∧ subN h s = true ∧ bwZ r g W s k = W (s - h) + hzZ r g h
  | 0 => Or.inl rfl
  | k + 1 => by
    have ih := bwZ_at (r := r) (g := g) (s := s) (W := W) k
    have old : bwZ r g W s (k + 1) = bwZ r g W s k → (bwZ r g W s (k + 1) = W s ∨ ∃ h, 1 ≤ h ∧ h ≤ k + 1 ∧ subN h s = true ∧ bwZ r g W s (k + 1) = W (s - h) + hzZ r g h) := by
      intro e
      rw [e]
      rcases ih with z | ⟨h, a, b, c, d⟩
      · exact Or.inl z
      · exact Or.inr ⟨h, a, by omega, c, d⟩
    by_cases c : subN (k + 1) s = true
    · by_cases d : bwZ r g W s k < W (s - (k + 1)) + hzZ r g (k + 1)
      · refine Or.inr ⟨k + 1, by omega, Nat.le_refl _, c, ?_⟩
        show (if subN (k + 1) s = true then (if bwZ r g W s k < W (s - (k + 1)) + hzZ r g (k + 1) then _ else _) else _) = _
        rw [if_pos c, if_pos d]
      · refine old ?_
        show (if subN (k + 1) s = true then (if bwZ r g W s k < W (s - (k + 1)) + hzZ r g (k + 1) then _ else _) else _) = _
        rw [if_pos c, if_neg d]
    · refine old ?_
      show (if subN (k + 1) s = true then _ else _) = _
      rw [if_neg c]
/-- those of s who are set at g -/
def selN (s : Nat) (σ : Nat → Nat) (g : Nat) : Nat := encN (fun m => hasB s m && decide (σ m = g))
theorem sel_has {s : Nat} {σ : Nat → Nat} {g m : Nat} (hm : m < 6) : hasB (selN s σ g) m = (hasB s m && decide (σ m = g)) := enc_has _ hm
theorem sel_lt {s : Nat} {σ : Nat → Nat} {g : Nat} : selN s σ g < 64 := encN_lt _
def thZ (r : Nat → Int32) (s : Nat) (σ : Nat → Nat) : Nat → Int
  | 0 => 0
  | g + 1 => thZ r s σ g + (if selN s σ g = 0 then 0 else hzZ r g (selN s σ g))
theorem thZ_cong {r : Nat → Int32} {s s2 : Nat} {σ τ : Nat → Nat} : ∀ k, (∀ g, g < k → selN s σ g = selN s2 τ g) → thZ r s σ k = thZ r s2 τ k
  | 0, _ => rfl
  | k + 1, h => by
    show thZ r s σ k + (if selN s σ k = 0 then 0 else hzZ r k (selN s σ k)) = thZ r s2 τ k + (if selN s2 τ k = 0 then 0 else hzZ r k (selN s2 τ k))
    rw [thZ_cong k (fun g hg => h g (by omega)), h k (by omega)]
theorem has_0 {m : Nat} : hasB 0 m = false := by unfold hasB; rw [Nat.zero_div]; decide
theorem th_up {r : Nat → Int32} {σ : Nat → Nat} : ∀ g s, s < 64 → (∀ m, m < 6 → hasB s m = true → σ m < g) → thZ r s σ g ≤ wtZ r g s
  | 0, s, hs, h => by
    have e : s = 0 := set_ext hs (by decide) (fun m hm => by
      rw [has_0]
      cases c : hasB s m with
      | false => rfl
      | true => exact absurd (h m hm c) (Nat.not_lt_zero _))
    subst e
    exact Int.le_refl _
  | g + 1, s, hs, h => by
    rw [wtZ_s]
    show thZ r s σ g + (if selN s σ g = 0 then 0 else hzZ r g (selN s σ g)) ≤ _
    by_cases c : selN s σ g = 0
    · rw [if_pos c]
      have : thZ r s σ g ≤ wtZ r g s := th_up g s hs (fun m hm hh => by
        have h1 := h m hm hh
        have h2 := sel_has (s := s) (σ := σ) (g := g) hm
        rw [c, has_0, hh, Bool.true_and] at h2
        have := of_decide_eq_false h2.symm
        omega)
      have := bwZ_ge (r := r) (g := g) (s := s) (W := wtZ r g) s
      omega
    · rw [if_neg c]
      have hsub : subN (selN s σ g) s = true := subN_iff.mpr (fun m hm hh => by
        rw [sel_has hm, Bool.and_eq_true] at hh; exact hh.1)
      obtain ⟨hle, hmin⟩ := sub_has s hs (selN s σ g) sel_lt hsub
      have ih := th_up (r := r) (σ := σ) g (s - selN s σ g) (by omega) (fun m hm hh => by
        rw [hmin m hm, sel_has hm, Bool.and_eq_true] at hh
        have h1 := h m hm hh.1
        have h2 := hh.2
        rw [hh.1, Bool.true_and] at h2
        have : ¬ σ m = g := fun z => by rw [decide_eq_true z] at h2; cases h2
        omega)
      have e : thZ r (s - selN s σ g) σ g = thZ r s σ g := thZ_cong g (fun j hj => set_ext sel_lt sel_lt (fun m hm => by
        rw [sel_has hm, sel_has hm, hmin m hm, sel_has hm]
        by_cases y : σ m = j
        · have : ¬ σ m = g := by omega
          rw [decide_eq_true y, decide_eq_false this, Bool.and_false, Bool.not_false, Bool.and_true]
        · rw [decide_eq_false y, Bool.and_false, Bool.and_false]))
      rw [e] at ih
      have := bwZ_up (r := r) (g := g) (s := s) (h := selN s σ g) (W := wtZ r g) (by omega) hsub s hle
      omega
theorem th_at {r : Nat → Int32} (hI : Inv r) : ∀ g, g ≤ 5 → ∀ s, s < 64 → wtZ r g s ≤ -1000000000 + g * 1300000 ∨ ∃ σ : Nat → Nat, (∀ m, m < 6 → hasB s m = true → σ m < g) ∧ wtZ r g s = thZ r s σ g
  | 0, _, s, hs => by
    by_cases c : s = 0
    · exact Or.inr ⟨fun _ => 0, fun m hm hh => absurd hh (by rw [c, has_0]; decide), if_pos c⟩
    · refine Or.inl ?_
      have : wtZ r 0 s = -1000000000 := if_neg c
      omega
  | g + 1, hg, s, hs => by
    rw [wtZ_s]
    rcases bwZ_at (r := r) (g := g) (s := s) (W := wtZ r g) s with e | ⟨h, h1, h2, h3, e⟩
    · rw [e]
      rcases th_at hI g (by omega) s hs with z | ⟨σ, z1, z2⟩
      · exact Or.inl (by omega)
      · refine Or.inr ⟨σ, fun m hm hh => by have := z1 m hm hh; omega, ?_⟩
        have : selN s σ g = 0 := set_ext sel_lt (by decide) (fun m hm => by
          rw [sel_has hm, has_0]
          cases c : hasB s m with
          | false => rfl
          | true =>
            have := z1 m hm c
            rw [Bool.true_and]
            exact decide_eq_false (by omega))
        show wtZ r g s = thZ r s σ g + (if selN s σ g = 0 then 0 else hzZ r g (selN s σ g))
        rw [if_pos this, z2, Int.add_zero]
    · rw [e]
      obtain ⟨hle, hmin⟩ := sub_has s hs h (by omega) h3
      obtain ⟨b1, b2⟩ := hz_bd hI (g := g) (h := h) (by omega)
      rcases th_at hI g (by omega) (s - h) (by omega) with z | ⟨σ, z1, z2⟩
      · exact Or.inl (by omega)
      · refine Or.inr ⟨fun m => if hasB h m = true then g else σ m, fun m hm hh => ?_, ?_⟩
        · show (if hasB h m = true then g else σ m) < g + 1
          by_cases c : hasB h m = true
          · rw [if_pos c]; omega
          · rw [if_neg c]
            have c := Bool.eq_false_iff.mpr c
            have := z1 m hm (by rw [hmin m hm, hh, c]; rfl)
            omega
        · have es : selN s (fun m => if hasB h m = true then g else σ m) g = h := set_ext sel_lt (by omega) (fun m hm => by
            rw [sel_has hm]
            cases c : hasB h m with
            | true =>
              rw [subN_iff.mp h3 m hm c, if_pos rfl, decide_eq_true rfl]; rfl
            | false =>
              rw [if_neg (show ¬ false = true by decide)]
              cases d : hasB s m with
              | false => rfl
              | true =>
                have := z1 m hm (by rw [hmin m hm, d, c]; rfl)
                rw [Bool.true_and]
                exact decide_eq_false (by omega))
          have et : thZ r s (fun m => if hasB h m = true then g else σ m) g = thZ r (s - h) σ g := thZ_cong g (fun j hj => set_ext sel_lt sel_lt (fun m hm => by
            rw [sel_has hm, sel_has hm, hmin m hm]
            cases c : hasB h m with
            | true =>
              rw [if_pos rfl, decide_eq_false (show ¬ g = j by omega), Bool.and_false, Bool.not_true, Bool.and_false, Bool.false_and]
            | false =>
              rw [if_neg (show ¬ false = true by decide), Bool.not_false, Bool.and_true]))
          show wtZ r g (s - h) + hzZ r g h = thZ r s (fun m => if hasB h m = true then g else σ m) g + (if selN s (fun m => if hasB h m = true then g else σ m) g = 0 then 0 else hzZ r g (selN s (fun m => if hasB h m = true then g else σ m) g))
          rw [es, et, if_neg (by omega), z2]
