/-! what is thought: pure rows over r -/
def deepL (g : Nat) (v : Int32) : Nat → (Nat → Int32) → Nat → Int32
  | 0, _, _ => -9
  | f + 1, q, n => if v ≤ q (iG g 1) then nI n else deepL g v f (dayS q) (n + 1)
def ffF (r q : Nat → Int32) : Nat → Nat → Int32
  | 0, _ => -9
  | f + 1, g => if nI 12 ≤ q (iG g 1) - r (iG g 1) then nI g else ffF r q f (g + 1)
def ftL (r : Nat → Int32) : Nat → (Nat → Int32) → Nat → Int32
  | 0, _, _ => -9
  | f + 1, q, n => if ffF r q (nG r) 0 = -9 then ftL r f (dayS q) (n + 1) else nI n
def ftG (r : Nat → Int32) : Nat → (Nat → Int32) → Int32
  | 0, _ => -9
  | f + 1, q => if ffF r q (nG r) 0 = -9 then ftG r f (dayS q) else ffF r q (nG r) 0
def dyL : Nat → (Nat → Int32) → Nat → Int32
  | 0, _, _ => -9
  | f + 1, q, n => if dryF q (nM q) = true then nI n else dyL f (dayS q) (n + 1)
def aloneTo (r : Nat → Int32) (s g : Nat) : Nat → Nat → Int32
  | 0 => r
  | k + 1 => upd (aloneTo r s g k) (iM k 3) (if hasB s k = true then nI g else -9)
def depS (r : Nat → Int32) (s g n : Nat) : Int32 := daysS (aloneTo r s g (nM r)) n (iG g 1)
def fwF (r : Nat → Int32) (g n : Nat) (v : Int32) : Nat → Int32
  | 0 => -9
  | k + 1 => if (fwF r g n v k = -9 ∨ pop6 k < pop6 (ix (fwF r g n v k))) ∧ v ≤ depS r k g n then nI k else fwF r g n v k
def amF (f : Nat → Int32) (m0 : Int32) : Nat → Int32 × Int32
  | 0 => (m0, -9)
  | k + 1 => if (amF f m0 k).1 < f k then (f k, nI k) else amF f m0 k
def amI (f x : Nat → Int32) (lo : Nat) (st : Int32 × Int32) : Nat → Int32 × Int32
  | 0 => st
  | k + 1 => if (amI f x lo st k).1 < f (lo + k) then (f (lo + k), x (lo + k)) else amI f x lo st k
def lostS (r : Nat → Int32) (p n : Nat) : Int32 := incS (daysS r n) - incS (daysS (upd r (iM p 3) (-9)) n)
def sdF (r : Nat → Int32) (n : Nat) : Nat → Int32 × Int32
  | 0 => (-9, nI 0)
  | k + 1 => if ¬ r (iM k 3) = -9 ∧ ((sdF r n k).1 = -9 ∨ lostS r k n < (sdF r n k).2) then (nI k, lostS r k n) else sdF r n k
def tellV (r : Nat → Int32) (n p : Nat) : Int32 := incS (daysS (tellS r p) n)
def bringV (r : Nat → Int32) (p n g : Nat) : Int32 := payS (daysS (upd r (iM p 3) (nI g)) n)
def chgV (r : Nat → Int32) (n a b : Nat) : Int32 := payS (daysS (upd (upd r (iM a 3) (r (iM b 3))) (iM b 3) (r (iM a 3))) n)
def chO (r : Nat → Int32) (n : Nat) : Nat → Int32 × Int32
  | 0 => (payS (daysS r n), -9)
  | a + 1 => amI (chgV r n a) (fun b => nI (10 * a + b)) (a + 1) (chO r n a) (nM r - (a + 1))
def onS (r : Nat → Int32) (p n : Nat) : Int32 := incS (daysS (upd r (iM p 0) (nI 2)) n) - incS (daysS r n)
def gnT (r : Nat → Int32) (a : Nat) (x : Bool) (b : Nat) (y : Bool) : Nat → Int32 := if y = true then tellS (if x = true then tellS r a else r) b else (if x = true then tellS r a else r)
def gnS (r : Nat → Int32) (a : Nat) (x : Bool) (b : Nat) (y : Bool) (n g : Nat) : Int32 := daysS (gnT r a x b y) n (iG g 1) - r (iG g 1) - (if x = true then nI 2 else nI 0)
def calmB (r : Nat → Int32) (a b n ga gb : Nat) (x y : Bool) : Bool := decide (gnS r a (!x) b y n ga ≤ gnS r a x b y n ga) && decide (gnS r b (!y) a x n gb ≤ gnS r b y a x n gb)
def calmL (r : Nat → Int32) (a b n ga gb : Nat) : Nat → Nat → Int32
  | 0, _ => -9
  | f + 1, k => if calmB r a b n ga gb (decide (2 ≤ k)) (decide (k % 2 = 1)) = true then (if 2 ≤ k then nI 10 else nI 0) + (if k % 2 = 1 then nI 1 else nI 0) else calmL r a b n ga gb f (k + 1)
def frL (g : Nat) (rw : Nat → Int32) : Nat → (Nat → Int32) → Nat → Bool
  | 0, _, _ => true
  | f + 1, q, i => if q (iG g 1) = rw i then frL g rw f (dayS q) (i + 1) else false
def wwF (r : Nat → Int32) (g : Nat) (rw : Nat → Int32) (m : Nat) : Nat → Int32
  | 0 => nI 0
  | k + 1 => if frL g rw m (upd (leaveS r) (iM k 3) (nI g)) 0 = true then wwF r g rw m k ||| (nI 1 <<< (nI k &&& 31)) else wwF r g rw m k
def wiF (r : Nat → Int32) (p w g : Nat) (rw : Nat → Int32) (m : Nat) : Nat → Int32
  | 0 => nI 0
  | k + 1 => if frL g rw m (upd r (iM p w) (nI k)) 0 = true then wiF r p w g rw m k ||| (nI 1 <<< (nI k &&& 31)) else wiF r p w g rw m k
def sdN (z : Int32) : Int32 := z * 1664525 + 1013904223
def dvS (z : Int32) (m : Nat) : Int32 := (z &&& 2147483647) / nI 256 - (z &&& 2147483647) / nI 256 / nI m * nI m
def dcF (r : Nat → Int32) (z : Int32) : Nat → (Nat → Int32) × Int32
  | 0 => (r, z)
  | k + 1 => (upd (upd (dcF r z k).1 (iM k 3) (dvS (sdN (dcF r z k).2) (nG r))) (iM k 2) (dvS (sdN (sdN (dcF r z k).2)) 100), sdN (sdN (dcF r z k).2))
def ltF (r : Nat → Int32) (pay : Bool) (z : Int32) : Nat → Int32 × Int32
  | 0 => (nI 0, z)
  | k + 1 => ((ltF r pay z k).1 + (if pay = true then payS (daysS (dcF r (ltF r pay z k).2 (nM r)).1 10) else incS (daysS (dcF r (ltF r pay z k).2 (nM r)).1 10) - incS r), (dcF r (ltF r pay z k).2 (nM r)).2)
theorem deepL_t {g : Nat} {v : Int32} {f n : Nat} {q : Nat → Int32} (h : v ≤ q (iG g 1)) : deepL g v (f + 1) q n = nI n := if_pos h
theorem deepL_n {g : Nat} {v : Int32} {f n : Nat} {q : Nat → Int32} (h : ¬ v ≤ q (iG g 1)) : deepL g v (f + 1) q n = deepL g v f (dayS q) (n + 1) := if_neg h
theorem ffF_t {r q : Nat → Int32} {f g : Nat} (h : nI 12 ≤ q (iG g 1) - r (iG g 1)) : ffF r q (f + 1) g = nI g := if_pos h
theorem ffF_n {r q : Nat → Int32} {f g : Nat} (h : ¬ nI 12 ≤ q (iG g 1) - r (iG g 1)) : ffF r q (f + 1) g = ffF r q f (g + 1) := if_neg h
theorem ftL_n {r q : Nat → Int32} {f n : Nat} (h : ffF r q (nG r) 0 = -9) : ftL r (f + 1) q n = ftL r f (dayS q) (n + 1) := if_pos h
theorem ftL_t {r q : Nat → Int32} {f n : Nat} (h : ¬ ffF r q (nG r) 0 = -9) : ftL r (f + 1) q n = nI n := if_neg h
theorem ftG_n {r q : Nat → Int32} {f : Nat} (h : ffF r q (nG r) 0 = -9) : ftG r (f + 1) q = ftG r f (dayS q) := if_pos h
theorem ftG_t {r q : Nat → Int32} {f : Nat} (h : ¬ ffF r q (nG r) 0 = -9) : ftG r (f + 1) q = ffF r q (nG r) 0 := if_neg h
theorem dyL_t {q : Nat → Int32} {f n : Nat} (h : dryF q (nM q) = true) : dyL (f + 1) q n = nI n := if_pos h
theorem dyL_n {q : Nat → Int32} {f n : Nat} (h : dryF q (nM q) = false) : dyL (f + 1) q n = dyL f (dayS q) (n + 1) := if_neg (by rw [h]; decide)
theorem fwF_t {r : Nat → Int32} {g n k : Nat} {v : Int32} (h : (fwF r g n v k = -9 ∨ pop6 k < pop6 (ix (fwF r g n v k))) ∧ v ≤ depS r k g n) : fwF r g n v (k + 1) = nI k := if_pos h
theorem fwF_n {r : Nat → Int32} {g n k : Nat} {v : Int32} (h : ¬ ((fwF r g n v k = -9 ∨ pop6 k < pop6 (ix (fwF r g n v k))) ∧ v ≤ depS r k g n)) : fwF r g n v (k + 1) = fwF r g n v k := if_neg h
theorem fwF_cases (r : Nat → Int32) (g n : Nat) (v : Int32) : ∀ k, fwF r g n v k = -9 ∨ ∃ j, j < k ∧ fwF r g n v k = nI j
  | 0 => Or.inl rfl
  | k + 1 => by
    simp only [fwF]
    split
    · exact Or.inr ⟨k, by omega, rfl⟩
    · rcases fwF_cases r g n v k with h | ⟨j, hj, h⟩
      · exact Or.inl h
      · exact Or.inr ⟨j, by omega, h⟩
theorem amF_t {f : Nat → Int32} {m0 : Int32} {k : Nat} (h : (amF f m0 k).1 < f k) : amF f m0 (k + 1) = (f k, nI k) := if_pos h
theorem amF_n {f : Nat → Int32} {m0 : Int32} {k : Nat} (h : ¬ (amF f m0 k).1 < f k) : amF f m0 (k + 1) = amF f m0 k := if_neg h
theorem amI_t {f x : Nat → Int32} {lo k : Nat} {st : Int32 × Int32} (h : (amI f x lo st k).1 < f (lo + k)) : amI f x lo st (k + 1) = (f (lo + k), x (lo + k)) := if_pos h
theorem amI_n {f x : Nat → Int32} {lo k : Nat} {st : Int32 × Int32} (h : ¬ (amI f x lo st k).1 < f (lo + k)) : amI f x lo st (k + 1) = amI f x lo st k := if_neg h
theorem sdF_t {r : Nat → Int32} {n k : Nat} (h : ¬ r (iM k 3) = -9 ∧ ((sdF r n k).1 = -9 ∨ lostS r k n < (sdF r n k).2)) : sdF r n (k + 1) = (nI k, lostS r k n) := if_pos h
theorem sdF_n {r : Nat → Int32} {n k : Nat} (h : ¬ (¬ r (iM k 3) = -9 ∧ ((sdF r n k).1 = -9 ∨ lostS r k n < (sdF r n k).2))) : sdF r n (k + 1) = sdF r n k := if_neg h
theorem sdF_cases (r : Nat → Int32) (n : Nat) : ∀ k, (sdF r n k).1 = -9 ∨ ∃ j, j < k ∧ (sdF r n k).1 = nI j ∧ (sdF r n k).2 = lostS r j n
  | 0 => Or.inl rfl
  | k + 1 => by
    simp only [sdF]
    split
    · exact Or.inr ⟨k, by omega, rfl, rfl⟩
    · rcases sdF_cases r n k with h | ⟨j, hj, h⟩
      · exact Or.inl h
      · exact Or.inr ⟨j, by omega, h⟩
theorem calmL_t {r : Nat → Int32} {a b n ga gb f k : Nat} (h : calmB r a b n ga gb (decide (2 ≤ k)) (decide (k % 2 = 1)) = true) : calmL r a b n ga gb (f + 1) k = (if 2 ≤ k then nI 10 else nI 0) + (if k % 2 = 1 then nI 1 else nI 0) := if_pos h
theorem calmL_n {r : Nat → Int32} {a b n ga gb f k : Nat} (h : ¬ calmB r a b n ga gb (decide (2 ≤ k)) (decide (k % 2 = 1)) = true) : calmL r a b n ga gb (f + 1) k = calmL r a b n ga gb f (k + 1) := if_neg h
theorem frL_t {g : Nat} {rw q : Nat → Int32} {f i : Nat} (h : q (iG g 1) = rw i) : frL g rw (f + 1) q i = frL g rw f (dayS q) (i + 1) := if_pos h
theorem frL_n {g : Nat} {rw q : Nat → Int32} {f i : Nat} (h : ¬ q (iG g 1) = rw i) : frL g rw (f + 1) q i = false := if_neg h
theorem wwF_t {r : Nat → Int32} {g m k : Nat} {rw : Nat → Int32} (h : frL g rw m (upd (leaveS r) (iM k 3) (nI g)) 0 = true) : wwF r g rw m (k + 1) = wwF r g rw m k ||| (nI 1 <<< (nI k &&& 31)) := if_pos h
theorem wwF_n {r : Nat → Int32} {g m k : Nat} {rw : Nat → Int32} (h : frL g rw m (upd (leaveS r) (iM k 3) (nI g)) 0 = false) : wwF r g rw m (k + 1) = wwF r g rw m k := if_neg (by rw [h]; decide)
theorem wiF_t {r : Nat → Int32} {p w g m k : Nat} {rw : Nat → Int32} (h : frL g rw m (upd r (iM p w) (nI k)) 0 = true) : wiF r p w g rw m (k + 1) = wiF r p w g rw m k ||| (nI 1 <<< (nI k &&& 31)) := if_pos h
theorem wiF_n {r : Nat → Int32} {p w g m k : Nat} {rw : Nat → Int32} (h : frL g rw m (upd r (iM p w) (nI k)) 0 = false) : wiF r p w g rw m (k + 1) = wiF r p w g rw m k := if_neg (by rw [h]; decide)
theorem daysS_d (r : Nat → Int32) (n : Nat) : dayS (daysS r n) = daysS r (n + 1) := rfl
theorem sh1 {k : Nat} (h : k < 31) : nI 1 <<< (nI k &&& 31) = nI (2 ^ k) := by
  have : ∀ k, k < 31 → nI 1 <<< (nI k &&& 31) = nI (2 ^ k) := by decide +kernel
  exact this k h
theorem pow6 {k : Nat} (h : k ≤ 6) : 2 ^ k ≤ 64 := Nat.le_trans (Nat.pow_le_pow_right (by decide) h) (by decide)
theorem Inv_at {r : Nat → Int32} (h : Inv r) {p : Nat} {x : Int32} (hx : x = -9 ∨ ∃ g, g < nG r ∧ x = nI g) : Inv (upd r (iM p 3) x) := Inv_M h (by decide) (fun q => by cases q) (fun q => by cases q) (fun q => by cases q) (fun _ => hx)
theorem aloneTo_s (r : Nat → Int32) (s g k : Nat) : aloneTo r s g (k + 1) = upd (aloneTo r s g k) (iM k 3) (if hasB s k = true then nI g else -9) := rfl
theorem aloneTo_nM {r : Nat → Int32} {s g : Nat} : ∀ k, nM (aloneTo r s g k) = nM r
  | 0 => rfl
  | k + 1 => by rw [aloneTo_s, nM_M]; exact aloneTo_nM k
theorem aloneTo_nG {r : Nat → Int32} {s g : Nat} : ∀ k, nG (aloneTo r s g k) = nG r
  | 0 => rfl
  | k + 1 => by rw [aloneTo_s, nG_M]; exact aloneTo_nG k
theorem Inv_alone {r : Nat → Int32} (h : Inv r) {s g : Nat} (hg : g < nG r) : ∀ k, Inv (aloneTo r s g k)
  | 0 => h
  | k + 1 => by
    rw [aloneTo_s]
    refine Inv_at (Inv_alone h hg k) ?_
    split
    · exact Or.inr ⟨g, by rw [aloneTo_nG]; exact hg, rfl⟩
    · exact Or.inl rfl
theorem Inv_leave {r : Nat → Int32} (h : Inv r) : Inv (leaveS r) := by
  obtain ⟨a1, a2, a3, a4, a5⟩ := h
  refine ⟨by rw [lv_n (by omega)]; exact a1, by rw [lv_n (by omega)]; exact a2, fun g hg => ?_, fun p hp => ?_, fun p hp => ?_⟩
  · rw [lv_nG, lv_n (by unfold iG; omega), lv_n (by unfold iG; omega), lv_n (by unfold iG; omega)]
    exact a3 g hg
  · rw [lv_nM, lv_n (by unfold iM; omega), lv_n (by unfold iM; omega), lv_n (by unfold iM; omega)]
    exact a4 p hp
  · have := pl_leave (r := r) (p := p)
    rw [pl_in hp] at this
    exact Or.inl this
theorem tellS_nG {r : Nat → Int32} {p : Nat} : nG (tellS r p) = nG r := nG_M
theorem tellS_nM {r : Nat → Int32} {p : Nat} : nM (tellS r p) = nM r := nM_M
theorem Inv_onion {r : Nat → Int32} (h : Inv r) {p k : Nat} (hk : k ≤ 5) : Inv (upd r (iM p 0) (nI k)) := Inv_M h (by decide) (fun _ => okN_nI hk (by decide)) (fun q => by cases q) (fun q => by cases q) (fun q => by cases q)
theorem Inv_fig {r : Nat → Int32} (h : Inv r) {p k : Nat} (hk : k ≤ 9) : Inv (upd r (iM p 1) (nI k)) := Inv_M h (by decide) (fun q => by cases q) (fun _ => okN_nI hk (by decide)) (fun q => by cases q) (fun q => by cases q)
theorem Inv_grief {r : Nat → Int32} (h : Inv r) {p k : Nat} (hk : k ≤ 99) (hp : p < nM r) : Inv (upd r (iM p 2) (nI k)) := Inv_M h (by decide) (fun q => by cases q) (fun q => by cases q) (fun _ => ⟨okN_nI hk (by decide), fun q => by omega⟩) (fun q => by cases q)
theorem gnT_nG {r : Nat → Int32} {a b : Nat} {x y : Bool} : nG (gnT r a x b y) = nG r := by
  cases x <;> cases y <;> rfl
theorem gnT_nM {r : Nat → Int32} {a b : Nat} {x y : Bool} : nM (gnT r a x b y) = nM r := by
  cases x <;> cases y <;> rfl
