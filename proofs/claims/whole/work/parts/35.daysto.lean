/-! DAYS TO a foot: soaking one by one, and all at once -/
def m9N (x : Nat) : Nat := if x < 999 then x else 999
theorem m9N_le (x : Nat) : m9N x ≤ 999 := by unfold m9N; split <;> omega
theorem m9N_add (x y : Nat) : m9N (m9N x + y) = m9N (x + y) := by unfold m9N; repeat' split
                                                                  all_goals omega
theorem m9N_ge {v x : Nat} (h : v ≤ 999) : v ≤ m9N x ↔ v ≤ x := by unfold m9N; split <;> omega
/-- W has soaked in all (the wet at first too); b: something has soaked -/
def soSt (d w h g : Nat) (q : Nat → Int32) (W : Nat) (b : Bool) : Prop := q (iG g 0) = nI h ∧ (if b = true then q (iG g 1) = nI (m9N (d + W / (h + 1))) ∧ q (iG g 2) = nI (W % (h + 1)) else q (iG g 1) = nI d ∧ q (iG g 2) = nI w ∧ W = w)
theorem soakS_1 {r : Nat → Int32} {g : Nat} {w : Int32} : soakS r g w (iG g 1) = mn999 (r (iG g 1) + (r (iG g 2) + w) / (r (iG g 0) + nI 1)) := by
  unfold soakS
  rw [upd_n (by unfold iG; omega), upd_s]
theorem soakS_2 {r : Nat → Int32} {g : Nat} {w : Int32} : soakS r g w (iG g 2) = (r (iG g 2) + w) - (r (iG g 2) + w) / (r (iG g 0) + nI 1) * (r (iG g 0) + nI 1) := by
  unfold soakS
  rw [upd_s]
theorem soSt_s {d w h g : Nat} {q : Nat → Int32} {W : Nat} {b : Bool} (hs : soSt d w h g q W b) (hd : d ≤ 999) (hw : w ≤ 9) (hh : h ≤ 9) {k : Nat} (hk : k ≤ 1000) (hW : W ≤ 1000000) : soSt d w h g (soakS q g (nI k)) (W + k) true := by
  obtain ⟨h0, h1⟩ := hs
  refine ⟨by rw [soak_h]; exact h0, ?_⟩
  rw [if_pos rfl, soakS_1, soakS_2, h0]
  by_cases hb : b = true
  · rw [if_pos hb] at h1
    rw [h1.1, h1.2]
    have hr : W % (h + 1) < h + 1 := Nat.mod_lt _ (by omega)
    obtain ⟨e1, e2⟩ := soak_num (d := m9N (d + W / (h + 1))) (w0 := W % (h + 1)) (h := h) (k := k) (m9N_le _) (by omega) hh (by omega)
    rw [e1, e2]
    have hdiv : (W + k) / (h + 1) = W / (h + 1) + (W % (h + 1) + k) / (h + 1) := by
      have e := Nat.div_add_mod W (h + 1)
      rw [show W + k = (h + 1) * (W / (h + 1)) + (W % (h + 1) + k) by omega, Nat.mul_add_div (by omega)]
    refine ⟨?_, ?_⟩
    · show nI (m9N (m9N (d + W / (h + 1)) + (W % (h + 1) + k) / (h + 1))) = _
      rw [m9N_add, hdiv, Nat.add_assoc]
    · rw [Nat.mod_add_mod]
  · rw [if_neg hb] at h1
    obtain ⟨a1, a2, rfl⟩ := h1
    rw [a1, a2]
    obtain ⟨e1, e2⟩ := soak_num (d := d) (w0 := W) (h := h) (k := k) hd hw hh (by omega)
    rw [e1, e2]
    exact ⟨rfl, rfl⟩
/-- what weeps at g among the first p -/
def wsN (r : Nat → Int32) (g : Nat) : Nat → Nat
  | 0 => 0
  | p + 1 => wsN r g p + (if r (iM p 3) = nI g then ix (weepS r p) else 0)
def anB (r : Nat → Int32) (g : Nat) : Nat → Bool
  | 0 => false
  | p + 1 => anB r g p || decide (r (iM p 3) = nI g)
theorem wsN_le {r : Nat → Int32} (hI : Inv r) {g : Nat} : ∀ p, p ≤ 6 → wsN r g p ≤ 12 * p
  | 0, _ => by show 0 ≤ _; omega
  | p + 1, hp => by
    have ih := wsN_le hI (g := g) p (by omega)
    obtain ⟨n, hn, e⟩ := weepS_ok hI (p := p) (by omega)
    show wsN r g p + (if r (iM p 3) = nI g then ix (weepS r p) else 0) ≤ _
    rw [e, ix_nI (by omega)]
    split <;> omega
theorem wsN_sum {r : Nat → Int32} (hI : Inv r) {g : Nat} : ∀ p, p ≤ 6 → sumTo (fun p => if r (iM p 3) = nI g then weepS r p else nI 0) p = nI (wsN r g p)
  | 0, _ => rfl
  | p + 1, hp => by
    obtain ⟨n, hn, e⟩ := weepS_ok hI (p := p) (by omega)
    show sumTo _ p + (if r (iM p 3) = nI g then weepS r p else nI 0) = nI (wsN r g p + (if r (iM p 3) = nI g then ix (weepS r p) else 0))
    rw [wsN_sum hI p (by omega)]
    split
    · rw [e, ix_nI (by omega), nI_add]
    · rw [nI_add]
theorem anB_sum {r : Nat → Int32} {g : Nat} : ∀ p, p ≤ 6 → anB r g p = false → sumTo (fun p => if r (iM p 3) = nI g then nI 1 else nI 0) p = nI 0
  | 0, _, _ => rfl
  | p + 1, hp, h => by
    have h2 : (anB r g p || decide (r (iM p 3) = nI g)) = false := h
    rw [Bool.or_eq_false_iff] at h2
    show sumTo _ p + (if r (iM p 3) = nI g then nI 1 else nI 0) = nI 0
    rw [anB_sum p (by omega) h2.1, if_neg (of_decide_eq_false h2.2)]
    decide
theorem soSt_P {r : Nat → Int32} (hI : Inv r) {d w h g : Nat} {q : Nat → Int32} {W : Nat} {b : Bool} (hs : soSt d w h g q W b) (hd : d ≤ 999) (hw : w ≤ 9) (hh : h ≤ 9) (hW : W ≤ 900000) : ∀ p, p ≤ 6 → soSt d w h g (dtP r g q p) (W + wsN r g p) (b || anB r g p)
  | 0, _ => by
    show soSt d w h g q (W + 0) (b || false)
    rw [Bool.or_false]; exact hs
  | p + 1, hp => by
    have ih := soSt_P hI hs hd hw hh hW p (by omega)
    have hle := wsN_le hI (g := g) p (by omega)
    obtain ⟨n, hn, e⟩ := weepS_ok hI (p := p) (by omega)
    show soSt d w h g (dtP r g q (p + 1)) (W + (wsN r g p + (if r (iM p 3) = nI g then ix (weepS r p) else 0))) (b || (anB r g p || decide (r (iM p 3) = nI g)))
    by_cases c : r (iM p 3) = nI g
    · rw [dtP_t c, if_pos c, decide_eq_true c, Bool.or_true, Bool.or_true, e, ix_nI (by omega), ← Nat.add_assoc]
      exact soSt_s ih hd hw hh (by omega) (by omega)
    · rw [dtP_n c, if_neg c, decide_eq_false c, Bool.or_false, Nat.add_zero]
      exact ih
theorem soSt_D {r : Nat → Int32} (hI : Inv r) {d w h g : Nat} (h0 : r (iG g 0) = nI h) (h1 : r (iG g 1) = nI d) (h2 : r (iG g 2) = nI w) (hd : d ≤ 999) (hw : w ≤ 9) (hh : h ≤ 9) : ∀ n, n ≤ 100 → soSt d w h g (dtD r g n) (w + n * wsN r g (nM r)) (decide (0 < n) && anB r g (nM r))
  | 0, _ => ⟨h0, by rw [if_neg (by simp)]; exact ⟨h1, h2, by omega⟩⟩
  | n + 1, hn => by
    have h6 := hI.m
    have ih := soSt_D hI h0 h1 h2 hd hw hh n (by omega)
    have hle := wsN_le hI (g := g) (nM r) h6
    have hm : n * wsN r g (nM r) ≤ 100 * 72 := Nat.mul_le_mul (by omega) (by omega)
    have q := soSt_P hI ih hd hw hh (by omega) (nM r) h6
    have e1 : w + n * wsN r g (nM r) + wsN r g (nM r) = w + (n + 1) * wsN r g (nM r) := by rw [Nat.succ_mul]; omega
    have e2 : (decide (0 < n) && anB r g (nM r) || anB r g (nM r)) = (decide (0 < n + 1) && anB r g (nM r)) := by
      rw [decide_eq_true (Nat.succ_pos n)]
      cases anB r g (nM r) <;> simp
    rw [e1, e2] at q
    exact q
theorem dtL_eq {r : Nat → Int32} (hI : Inv r) {d w h g : Nat} (h0 : r (iG g 0) = nI h) (h1 : r (iG g 1) = nI d) (h2 : r (iG g 2) = nI w) (hd : d ≤ 999) (hw : w ≤ 9) (hh : h ≤ 9) (ha : anB r g (nM r) = true) (hG : (d / 12 + 1) * 12 ≤ 999) : ∀ f n, 1 ≤ n → n + f ≤ 100 → dtL r g f n = dtfL (nI w) (nI (wsN r g (nM r))) (nI (((d / 12 + 1) * 12 - d) * (h + 1))) f n
  | 0, _, _, _ => rfl
  | f + 1, n, hn, hf => by
    have h6 := hI.m
    have hle := wsN_le hI (g := g) (nM r) h6
    have hm : n * wsN r g (nM r) ≤ 100 * 72 := Nat.mul_le_mul (by omega) (by omega)
    have st := soSt_D hI h0 h1 h2 hd hw hh n (by omega)
    rw [ha, decide_eq_true (show 0 < n by omega), Bool.and_true] at st
    have sd := st.2
    rw [if_pos rfl] at sd
    have ew : dtW r g = nI ((d / 12 + 1) * 12) := by
      unfold dtW
      rw [h1, pk_div (by omega) (by decide) (by decide), nI_add, pk_mul]
    have hk : ((d / 12 + 1) * 12 - d) * (h + 1) ≤ 12 * 10 := Nat.mul_le_mul (by omega) (by omega)
    have hdv : (w + n * wsN r g (nM r)) / (h + 1) ≤ w + n * wsN r g (nM r) := Nat.div_le_self _ _
    have iff1 : (dtW r g ≤ dtD r g n (iG g 1)) ↔ (nI (((d / 12 + 1) * 12 - d) * (h + 1)) ≤ nI w + nI n * nI (wsN r g (nM r))) := by
      rw [ew, sd.1, pk_mul, nI_add, nI_leI (by omega) (by have := m9N_le (d + (w + n * wsN r g (nM r)) / (h + 1)); omega), nI_leI (by omega) (by omega), m9N_ge hG]
      have e3 := Nat.le_div_iff_mul_le (x := (d / 12 + 1) * 12 - d) (y := w + n * wsN r g (nM r)) (k := h + 1) (by omega)
      constructor
      · intro z; exact e3.mp (by omega)
      · intro z; have := e3.mpr z; omega
    show (if dtW r g ≤ dtD r g n (iG g 1) then nI n else dtL r g f (n + 1)) = (if nI (((d / 12 + 1) * 12 - d) * (h + 1)) ≤ nI w + nI n * nI (wsN r g (nM r)) then nI n else dtfL _ _ _ f (n + 1))
    by_cases c : dtW r g ≤ dtD r g n (iG g 1)
    · rw [if_pos c, if_pos (iff1.mp c)]
    · rw [if_neg c, if_neg (fun z => c (iff1.mpr z))]
      exact dtL_eq hI h0 h1 h2 hd hw hh ha hG f (n + 1) (by omega) (by omega)
theorem dtf_eq {r : Nat → Int32} (hI : Inv r) {g : Nat} (hg : g < nG r) : dtfR r g = dtfS r g := by
  have h5 := hI.g
  have h6 := hI.m
  obtain ⟨eh, lh⟩ := hI.gH (g := g) (by omega)
  obtain ⟨ed, ld⟩ := hI.gD (g := g) (by omega)
  obtain ⟨ew, lw⟩ := hI.gW (g := g) (by omega)
  have eW : dtW r g = nI ((ix (r (iG g 1)) / 12 + 1) * 12) := by
    unfold dtW
    rw [ed, pk_div (by omega) (by decide) (by decide), nI_add, pk_mul, ix_nI (by omega)]
  unfold dtfR dtfS
  by_cases c : nI 999 < dtW r g ∨ ppl r (nI g) = 0
  · rw [if_pos c]; exact (if_pos c).symm
  · rw [if_neg c]
    have c' := c
    unfold dtW at c'
    rw [if_neg c']
    have ha : anB r g (nM r) = true := by
      cases q : anB r g (nM r) with
      | true => rfl
      | false =>
        exact absurd (Or.inr (by rw [ppl_cut hI (nI_n9 (by omega)), anB_sum _ h6 q]; rfl)) c
    have hG : (ix (r (iG g 1)) / 12 + 1) * 12 ≤ 999 := by
      refine Nat.not_lt.mp (fun z => c (Or.inl ?_))
      rw [eW]
      exact nI_lt z (by omega)
    have e1 : ((r (iG g 1) / nI 12 + nI 1) * nI 12 - r (iG g 1)) * (r (iG g 0) + nI 1) = nI (((ix (r (iG g 1)) / 12 + 1) * 12 - ix (r (iG g 1))) * (ix (r (iG g 0)) + 1)) := by
      have : (r (iG g 1) / nI 12 + nI 1) * nI 12 = nI ((ix (r (iG g 1)) / 12 + 1) * 12) := eW
      rw [this]
      generalize ix (r (iG g 1)) = d at ed ld ⊢
      generalize ix (r (iG g 0)) = h at eh lh ⊢
      rw [ed, eh, pk_sub (by omega), nI_add, pk_mul]
    rw [e1, wat_cut hI (nI_n9 (by omega)), wsN_sum hI _ h6]
    have := dtL_eq hI eh ed ew ld lw lh ha hG 99 1 (Nat.le_refl _) (by omega)
    rw [this]
    congr 1
    exact ew.symm
