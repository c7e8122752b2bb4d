/-! pure rows for the reference's calls, third part -/
def sdB (r : Nat → Int32) (n k : Nat) : Int32 := if (sdF r n k).1 = -9 then 1000000000 else (sdF r n k).2
theorem lost_ok {r : Nat → Int32} (hI : Inv r) {p n : Nat} : lostS r p n < 1000000000 := by
  obtain ⟨x, hx, ex⟩ := incS_ok (Inv_daysS hI n)
  obtain ⟨y, hy, ey⟩ := incS_ok (Inv_daysS (Inv_at hI (p := p) (x := -9) (Or.inl rfl)) n)
  unfold lostS
  rw [ex, ey, Int32.lt_iff_toInt_lt, pk_sub_toInt (by omega) (by omega)]
  have : (1000000000 : Int32).toInt = 1000000000 := by decide
  rw [this]
  omega
theorem sd_lt {r : Nat → Int32} (hI : Inv r) {n k : Nat} : (lostS r k n < sdB r n k) ↔ ((sdF r n k).1 = -9 ∨ lostS r k n < (sdF r n k).2) := by
  unfold sdB
  by_cases c : (sdF r n k).1 = -9
  · rw [if_pos c]; exact ⟨fun _ => Or.inl c, fun _ => lost_ok hI⟩
  · rw [if_neg c]; exact ⟨fun z => Or.inr z, fun z => z.elim (fun z => absurd z c) id⟩
theorem sd_t {r : Nat → Int32} (hI : Inv r) {n k : Nat} (h : ¬ r (iM k 3) = -9) (h2 : lostS r k n < sdB r n k) : sdF r n (k + 1) = (nI k, lostS r k n) := sdF_t ⟨h, (sd_lt hI).mp h2⟩
theorem sd_n {r : Nat → Int32} (hI : Inv r) {n k : Nat} (h2 : ¬ lostS r k n < sdB r n k) : sdF r n (k + 1) = sdF r n k := sdF_n (fun z => h2 ((sd_lt hI).mpr z.2))
theorem sd_9 {r : Nat → Int32} {n k : Nat} (h : r (iM k 3) = -9) : sdF r n (k + 1) = sdF r n k := sdF_n (fun z => z.1 h)
theorem sdB_t {r : Nat → Int32} {n k : Nat} (hk : k < 6) (h : sdF r n (k + 1) = (nI k, lostS r k n)) : sdB r n (k + 1) = lostS r k n := by
  unfold sdB
  rw [h, if_neg (nI_n9 (by omega))]
theorem sdB_n {r : Nat → Int32} {n k : Nat} (h : sdF r n (k + 1) = sdF r n k) : sdB r n (k + 1) = sdB r n k := by
  unfold sdB
  rw [h]
theorem sd_neg {r : Nat → Int32} {n k : Nat} (hk : k ≤ 6) (h : (sdF r n k).1 < 0) : (sdF r n k).1 = -9 := by
  rcases sdF_cases r n k with q | ⟨j, hj, q, _⟩
  · exact q
  · rw [q] at h; exact absurd h (nI_pos (by omega))
theorem fw_neg {r : Nat → Int32} {g n : Nat} {v : Int32} {k : Nat} (hk : k ≤ 64) (h : fwF r g n v k < 0) : fwF r g n v k = -9 := by
  rcases fwF_cases r g n v k with q | ⟨j, hj, q⟩
  · exact q
  · rw [q] at h; exact absurd h (nI_pos (by omega))
theorem or0 (x : Int32) : x ||| nI 0 = x := by rw [nI_0]; exact Int32.or_zero
/-- ALONE, BARE, DEEP ones -/
def aloT (r : Nat → Int32) (w k : Nat) : Int32 := if w = 2 then doF r k else gwF r (nI (1 - w)) k
theorem aloT_2t {r : Nat → Int32} {w k : Nat} (hw : w = 2) (h : nI 12 ≤ r (iG k 1)) : aloT r w (k + 1) = aloT r w k ||| (nI 1 <<< (nI k &&& 31)) := by
  unfold aloT; rw [if_pos hw, if_pos hw, doF_s h]
theorem aloT_2n {r : Nat → Int32} {w k : Nat} (hw : w = 2) (h : ¬ nI 12 ≤ r (iG k 1)) : aloT r w (k + 1) = aloT r w k := by
  unfold aloT; rw [if_pos hw, if_pos hw, doF_n h]
theorem aloT_t {r : Nat → Int32} {w k : Nat} (hw : ¬ w = 2) (h : ppl r (nI k) = nI (1 - w)) : aloT r w (k + 1) = aloT r w k ||| (nI 1 <<< (nI k &&& 31)) := by
  unfold aloT; rw [if_neg hw, if_neg hw, gwF_s h]
theorem aloT_n {r : Nat → Int32} {w k : Nat} (hw : ¬ w = 2) (h : ¬ ppl r (nI k) = nI (1 - w)) : aloT r w (k + 1) = aloT r w k := by
  unfold aloT; rw [if_neg hw, if_neg hw, gwF_n h]
theorem aloT_e {r : Nat → Int32} {w : Nat} (hw : w ≤ 2) : aAlone r (nI w) = aloT r w (nG r) := by
  have : w = 0 ∨ w = 1 ∨ w = 2 := by omega
  rcases this with rfl | rfl | rfl <;> rfl
/-- TWO -/
def owR (r : Nat → Int32) (o p x b y n g : Nat) : Int32 := daysS (gnT r p (decide (x = 1)) b (decide (y = 1))) n (iG g 1) - r (iG g 1) - nI (2 * (if o = p then x else y))
theorem Inv_gnT {r : Nat → Int32} (hI : Inv r) {p b : Nat} {x y : Bool} (hp : p < nM r) (hb : b < nM r) : Inv (gnT r p x b y) := by
  unfold gnT
  cases x <;> cases y
  · exact hI
  · exact Inv_tellS hI hb
  · exact Inv_tellS hI hp
  · exact Inv_tellS (Inv_tellS hI hp) (by rw [tellS_nM]; exact hb)
theorem tell_comm {r : Nat → Int32} {a b : Nat} (h : ¬ a = b) : tellS (tellS r a) b = tellS (tellS r b) a := by
  have n1 : ∀ u v, u < 4 → v < 4 → ¬ iM a u = iM b v := fun u v hu hv z => h ((iM_inj hu hv).mp z).1
  have n2 : ∀ u v, u < 4 → v < 4 → ¬ iM b u = iM a v := fun u v hu hv z => h ((iM_inj hu hv).mp z).1.symm
  unfold tellS
  rw [upd_n (n2 2 2 (by decide) (by decide)), upd_n (n2 0 2 (by decide) (by decide)), upd_n (n1 2 2 (by decide) (by decide)), upd_n (n1 0 2 (by decide) (by decide))]
  funext j
  unfold upd
  by_cases c : j = iM a 2
  · subst c
    rw [if_neg (n1 2 2 (by decide) (by decide)), if_pos rfl, if_pos rfl]
  · rw [if_neg c]
    by_cases d : j = iM b 2
    · rw [if_pos d, if_neg c]
    · rw [if_neg d, if_neg c]
theorem gnT_comm {r : Nat → Int32} {a b : Nat} {x y : Bool} (h : ¬ a = b) : gnT r a x b y = gnT r b y a x := by
  cases x <;> cases y
  · simp [gnT]
  · simp [gnT]
  · simp [gnT]
  · unfold gnT
    rw [if_pos rfl, if_pos rfl, if_pos rfl, if_pos rfl]
    exact tell_comm h
theorem owR_a {r : Nat → Int32} {p b n g : Nat} (X Y : Bool) : owR r p p (if X = true then 1 else 0) b (if Y = true then 1 else 0) n g = gnS r p X b Y n g := by
  unfold owR gnS
  rw [if_pos rfl]
  cases X <;> cases Y <;> rfl
theorem owR_b {r : Nat → Int32} {p b n g : Nat} (h : ¬ p = b) (X Y : Bool) : owR r b p (if X = true then 1 else 0) b (if Y = true then 1 else 0) n g = gnS r b Y p X n g := by
  unfold owR gnS
  rw [if_neg (show ¬ b = p from fun z => h z.symm), gnT_comm (a := b) (b := p) (fun z => h z.symm)]
  cases X <;> cases Y <;> rfl
theorem bit_n {X : Bool} : (1 : Nat) - (if X = true then 1 else 0) = if (!X) = true then 1 else 0 := by cases X <;> rfl
theorem calm_iff {r : Nat → Int32} {p b n ga gb k : Nat} (h : ¬ p = b) (hk : k < 4) : calmB r p b n ga gb (decide (2 ≤ k)) (decide (k % 2 = 1)) = true ↔ (owR r p p (1 - k / 2) b (k % 2) n ga ≤ owR r p p (k / 2) b (k % 2) n ga ∧ owR r b p (k / 2) b (1 - k % 2) n gb ≤ owR r b p (k / 2) b (k % 2) n gb) := by
  have e1 : k / 2 = if decide (2 ≤ k) = true then 1 else 0 := by
    by_cases c : 2 ≤ k
    · rw [decide_eq_true c, if_pos rfl]; omega
    · rw [decide_eq_false c, if_neg (by decide)]; omega
  have e2 : k % 2 = if decide (k % 2 = 1) = true then 1 else 0 := by
    by_cases c : k % 2 = 1
    · rw [decide_eq_true c, if_pos rfl]; exact c
    · rw [decide_eq_false c, if_neg (by decide)]; omega
  generalize decide (2 ≤ k) = X at e1 ⊢
  generalize hY : decide (k % 2 = 1) = Y at e2 ⊢
  rw [e1, e2, bit_n, bit_n, owR_a, owR_a, owR_b h, owR_b h]
  unfold calmB
  rw [Bool.and_eq_true, decide_eq_true_iff, decide_eq_true_iff]
theorem calm_v {k : Nat} (hk : k < 4) : nI (10 * (k / 2) + k % 2) = (if 2 ≤ k then nI 10 else nI 0) + (if k % 2 = 1 then nI 1 else nI 0) := by
  have : k = 0 ∨ k = 1 ∨ k = 2 ∨ k = 3 := by omega
  rcases this with rfl | rfl | rfl | rfl <;> decide
/-- told in a row -/
theorem bz_and1 (b : Bool) : bz b &&& nI 1 = bz b := by cases b <;> decide
theorem bz_and0 (b : Bool) : bz b &&& nI 0 = bz false := by cases b <;> decide
theorem alone_at {r : Nat → Int32} {s g : Nat} (j : Nat) : ∀ k, aloneTo r s g k j = if ∃ p, p < k ∧ j = iM p 3 then (if hasB s ((j - 21) / 4) = true then nI g else -9) else r j
  | 0 => by rw [if_neg (fun z => by obtain ⟨p, hp, _⟩ := z; omega)]; rfl
  | k + 1 => by
    rw [aloneTo_s]
    by_cases c : j = iM k 3
    · rw [c, upd_s, if_pos (show ∃ p, p < k + 1 ∧ iM k 3 = iM p 3 from ⟨k, by omega, rfl⟩)]
      rw [show (iM k 3 - 21) / 4 = k from by unfold iM; omega]
    · rw [upd_n c, alone_at j k]
      by_cases d : ∃ p, p < k ∧ j = iM p 3
      · rw [if_pos d, if_pos (show ∃ p, p < k + 1 ∧ j = iM p 3 from by obtain ⟨p, hp, e⟩ := d; exact ⟨p, by omega, e⟩)]
      · rw [if_neg d, if_neg (show ¬ ∃ p, p < k + 1 ∧ j = iM p 3 from fun z => by
          obtain ⟨p, hp, e⟩ := z
          by_cases y : p = k
          · subst y; exact c e
          · exact d ⟨p, by omega, e⟩)]
theorem has_pow {k p : Nat} (hk : k < 6) (hp : p < 6) : hasB (2 ^ k) p = decide (p = k) := by
  have e : ∀ k, k < 6 → ∀ p, p < 6 → hasB (2 ^ k) p = decide (p = k) := by decide +kernel
  exact e k hk p hp
theorem alone_leave {r : Nat → Int32} {k g : Nat} (hk : k < nM r) (h6 : nM r ≤ 6) : aloneTo r (2 ^ k) g (nM r) = upd (leaveS r) (iM k 3) (nI g) := by
  funext j
  rw [alone_at]
  by_cases c : ∃ p, p < nM r ∧ j = iM p 3
  · rw [if_pos c]
    obtain ⟨p, hp, e⟩ := c
    subst e
    rw [show (iM p 3 - 21) / 4 = p from by unfold iM; omega, has_pow (by omega) (by omega)]
    by_cases d : p = k
    · subst d; rw [upd_s, decide_eq_true rfl, if_pos rfl]
    · rw [decide_eq_false d, if_neg (by decide), upd_n (fun z => d ((iM_inj (by decide) (by decide)).mp z).1)]
      exact (if_pos (by unfold iM; omega)).symm
  · rw [if_neg c, upd_n (fun z => c ⟨k, hk, z⟩)]
    exact (if_neg (fun z => c ⟨(j - 21) / 4, by omega, by unfold iM; omega⟩)).symm
theorem frL_nI {g : Nat} {rw q : Nat → Int32} {f i : Nat} {b : Bool} (h : ¬ q (iG g 1) = rw i) : (false && frL g rw f (dayS q) (i + 1)) = (b && frL g rw (f + 1) q i) := by
  rw [frL_n h]; cases b <;> rfl
theorem frL_tI {g : Nat} {rw q : Nat → Int32} {f i : Nat} {b : Bool} (h : q (iG g 1) = rw i) : (b && frL g rw f (dayS q) (i + 1)) = (b && frL g rw (f + 1) q i) := by
  rw [frL_t h]
def wiX (r rw : Nat → Int32) (rm x w k : Nat) : Int32 := if r (iM x 3) = -9 then nI 0 else wiF r x w (ix (r (iM x 3))) rw rm k
theorem wiX_0 {r rw : Nat → Int32} {rm x w : Nat} : wiX r rw rm x w 0 = nI 0 := by unfold wiX; split <;> rfl
theorem wiX_9 {r rw : Nat → Int32} {rm x w k : Nat} (h : r (iM x 3) = -9) : wiX r rw rm x w k = nI 0 := if_pos h
theorem wiX_g {r rw : Nat → Int32} {rm x w k g : Nat} (h : r (iM x 3) = nI g) (hg : g < 2 ^ 31) : wiX r rw rm x w k = wiF r x w g rw rm k := by
  unfold wiX; rw [h, if_neg (nI_n9 hg), ix_nI hg]
theorem aWhat_0 {r rw : Nat → Int32} {rm : Nat} {x w : Int32} (h : w = nI 0) : aWhatIs r rw rm x w = wiX r rw rm (ix x) 0 6 := by
  unfold aWhatIs wiX; rw [if_pos h]
theorem aWhat_1 {r rw : Nat → Int32} {rm : Nat} {x w : Int32} (h : ¬ w = nI 0) : aWhatIs r rw rm x w = wiX r rw rm (ix x) 1 10 := by
  unfold aWhatIs wiX; rw [if_neg h]
theorem aWhat_9 {r rw : Nat → Int32} {rm : Nat} {x w : Int32} (h : r (iM (ix x) 3) = -9) : aWhatIs r rw rm x w = nI 0 := if_pos h
theorem inc_0 {r : Nat → Int32} (hI : Inv r) {n : Nat} (h : nG r = 0) (e : incS r = nI n) (hn : n < 2 ^ 31) : n = 0 := by
  rw [incS_cut hI, h] at e
  exact ((nI_eq (by decide) hn).mp e).symm
theorem wat_ge {r : Nat → Int32} (hI : Inv r) {p : Nat} {x : Int32} (hp : p < nM r) (hx : r (iM p 3) = x) {a b : Nat} (ea : weepS r p = nI a) (ha : a ≤ 12) (eb : wat r x = nI b) (hb : b ≤ 72) : b = 0 → a = 0 := by
  have h6 := hI.m
  have : ∀ k, k ≤ 6 → ∃ s, s ≤ 12 * k ∧ sumTo (fun p => if pl r p = x then weepS r p else nI 0) k = nI s ∧ (p < k → a ≤ s) := by
    intro k
    induction k with
    | zero => intro _; exact ⟨0, by omega, rfl, fun z => by omega⟩
    | succ k ih =>
      intro hk
      obtain ⟨s, hs, e, h⟩ := ih (by omega)
      obtain ⟨w, hw, ew⟩ := weepS_ok hI (p := k) (by omega)
      show ∃ s, s ≤ 12 * (k + 1) ∧ sumTo _ k + (if pl r k = x then weepS r k else nI 0) = nI s ∧ (p < k + 1 → a ≤ s)
      rw [e, ew]
      by_cases c : pl r k = x
      · rw [if_pos c]
        refine ⟨s + w, by omega, nI_add _ _, fun z => ?_⟩
        by_cases d : p = k
        · subst d
          rw [ea] at ew
          have := (nI_eq (by omega) (by omega)).mp ew
          omega
        · have := h (by omega); omega
      · rw [if_neg c]
        refine ⟨s, by omega, add0 _, fun z => ?_⟩
        by_cases d : p = k
        · subst d; exact absurd ((pl_in hp).trans hx) c
        · exact h (by omega)
  obtain ⟨s, hs, e, h⟩ := this 6 (Nat.le_refl _)
  have e2 : wat r x = nI s := e
  rw [eb] at e2
  have := (nI_eq (by omega) (by omega)).mp e2
  have := h (by omega)
  omega
