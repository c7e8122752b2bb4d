/-! helpers of the walks -/
section AUX
variable {V : Nat → List (Nat × Value) → List Value → List va_W → Prop} {pc : Nat} {lv lv1 : List (Nat × Value)} {st : List Value} {ws : List va_W}
theorem r_top {x y : Int32} (h : x = y) (g : V pc lv (.int y :: st) ws) : V pc lv (.int x :: st) ws := by rw [h]; exact g
theorem r_top1 {x y : Int32} {v : Value} (h : x = y) (g : V pc lv (v :: .int y :: st) ws) : V pc lv (v :: .int x :: st) ws := by rw [h]; exact g
theorem r_top2 {x y : Int32} {v w : Value} (h : x = y) (g : V pc lv (v :: w :: .int y :: st) ws) : V pc lv (v :: w :: .int x :: st) ws := by rw [h]; exact g
theorem r_topL {x y : Int64} (h : x = y) (g : V pc lv (.long y :: st) ws) : V pc lv (.long x :: st) ws := by rw [h]; exact g
theorem r_lc (h : lv = lv1) (g : V pc lv1 st ws) : V pc lv st ws := by rw [h]; exact g
end AUX
theorem e_ri {a b : Int32} (h : a = b) : some (Value.int a) = some (Value.int b) := by rw [h]
theorem e_rl {a b : Int64} (h : a = b) : some (Value.long a) = some (Value.long b) := by rw [h]
theorem e_rr {a b : Nat} (h : a = b) : some (Value.ref a) = some (Value.ref b) := by rw [h]
/-! THE STATE of a churchyard: a row r of 42 numbers, as the reference lays them -/
def iG (g w : Nat) : Nat := 3 + 3 * g + w
def iM (p w : Nat) : Nat := 18 + 4 * p + w
def ix (x : Int32) : Nat := x.toNatClampNeg
def nG (r : Nat → Int32) : Nat := ix (r 0)
def nM (r : Nat → Int32) : Nat := ix (r 1)
def inN (n : Nat) (x : Int32) : Bool := decide (0 ≤ x.toInt ∧ x.toInt < n)
theorem iG_inj {g w g2 w2 : Nat} (h : w < 3) (h2 : w2 < 3) : iG g w = iG g2 w2 ↔ g = g2 ∧ w = w2 := by unfold iG; omega
theorem iM_inj {g w g2 w2 : Nat} (h : w < 4) (h2 : w2 < 4) : iM g w = iM g2 w2 ↔ g = g2 ∧ w = w2 := by unfold iM; omega
theorem iG_iM {g w p v : Nat} (hg : g < 5) (hw : w < 3) : iG g w ≠ iM p v := by unfold iG iM; omega
theorem iG_lt {g w : Nat} (hg : g < 5) (hw : w < 3) : iG g w < 42 := by unfold iG; omega
theorem iM_lt {p w : Nat} (hp : p < 6) (hw : w < 4) : iM p w < 42 := by unfold iM; omega
theorem ix_nI {n : Nat} (h : n < 2 ^ 31) : ix (nI n) = n := nI_clamp h
theorem inN_iff {n : Nat} {x : Int32} : inN n x = true ↔ 0 ≤ x.toInt ∧ x.toInt < n := by simp [inN]
theorem inN_of {n : Nat} {x : Int32} (h : inN n x = true) (hn : n < 2 ^ 31) : ∃ j, j < n ∧ x = nI j ∧ ix x = j := by
  obtain ⟨j, hj, rfl⟩ := vp_in_of (vp_in_iff.mpr (inN_iff.mp h)) hn
  exact ⟨j, hj, rfl, ix_nI (by omega)⟩
theorem inN_vp {n m : Nat} {x : Int32} (h : inN n x = true) (hm : n ≤ m) : vp_in x m := vp_in_iff.mpr ⟨(inN_iff.mp h).1, by have := (inN_iff.mp h).2; omega⟩
theorem inN_nI {n j : Nat} (hj : j < 2 ^ 31) : inN n (nI j) = decide (j < n) := by
  have h : (inN n (nI j) = true) ↔ j < n := by rw [inN_iff, nI_toInt hj]; omega
  by_cases q : j < n
  · rw [h.mpr q]; simp [q]
  · have : ¬ inN n (nI j) = true := fun z => q (h.mp z)
    simp [q, this]
theorem inN_neg {n : Nat} {x : Int32} (h : x < 0) : inN n x = false := by
  have h1 : x.toInt < 0 := by rw [Int32.lt_iff_toInt_lt] at h; simpa using h
  have : ¬ inN n x = true := fun z => by have := (inN_iff.mp z).1; omega
  simpa using this
theorem inN_big {n : Nat} {x : Int32} (hn : n < 2 ^ 31) (h : nI n ≤ x) : inN n x = false := by
  have h1 : (n : Int) ≤ x.toInt := by rw [Int32.le_iff_toInt_le, nI_toInt hn] at h; exact h
  have : ¬ inN n x = true := fun z => by have := (inN_iff.mp z).2; omega
  simpa using this
theorem inN_tt {n : Nat} {x : Int32} (hn : n < 2 ^ 31) (h0 : ¬ x < 0) (h : ¬ nI n ≤ x) : inN n x = true := by
  have h1 : ¬ x.toInt < 0 := by rw [Int32.lt_iff_toInt_lt] at h0; simpa using h0
  have h2 : ¬ (n : Int) ≤ x.toInt := by rw [Int32.le_iff_toInt_le, nI_toInt hn] at h; exact h
  exact inN_iff.mpr ⟨by omega, by omega⟩
theorem inN_le {n m : Nat} {x : Int32} (h : inN n x = true) (hm : n ≤ m) : inN m x = true := inN_iff.mpr ⟨(inN_iff.mp h).1, by have := (inN_iff.mp h).2; omega⟩
theorem nI_le_trans {n m : Nat} {x : Int32} (hm : m < 2 ^ 31) (h : nI m ≤ x) (hnm : n ≤ m) : nI n ≤ x := by
  rw [Int32.le_iff_toInt_le, nI_toInt (by omega)] at h ⊢
  omega
/-- what a mourner weeps, fades, hears -/
def weepK (k f g : Int32) : Int32 := if k = nI 1 then f / nI 2 + nI 1 else if k = nI 2 then nI 2 * (f / nI 2 + nI 1) else if k = nI 3 then (if g < nI 50 then nI 0 else g / nI 10) else if k = nI 4 then g / nI 10 + f / nI 3 else if k = nI 5 then nI 1 else g / nI 10
def fadeK (k : Int32) : Int32 := if k = nI 1 ∨ k = nI 2 ∨ k = nI 5 then nI 0 else if k = nI 4 then nI 1 else nI 2
def toldK (k : Int32) : Int32 := if k = nI 1 ∨ k = nI 3 then nI 0 else if k = nI 2 then nI 5 else if k = nI 4 ∨ k = nI 5 then nI 30 else nI 20
def kindC (c : Int32) : Int32 := if c = nI 109 then nI 0 else if c = nI 104 then nI 1 else if c = nI 111 then nI 2 else if c = nI 119 then nI 3 else if c = nI 102 then nI 4 else if c = nI 108 then nI 5 else -9
def weepS (r : Nat → Int32) (p : Nat) : Int32 := weepK (r (iM p 0)) (r (iM p 1)) (r (iM p 2))
/-- where a mourner is: -9 for one who isn't born -/
def pl (r : Nat → Int32) (p : Nat) : Int32 := if p < nM r then r (iM p 3) else -9
def mn999 (x : Int32) : Int32 := if x < nI 999 then x else nI 999
def mn99 (x : Int32) : Int32 := if x < nI 99 then x else nI 99
def mx0 (x : Int32) : Int32 := if x < 0 then nI 0 else x
def okN (b : Nat) (x : Int32) : Prop := x = nI (ix x) ∧ ix x ≤ b
theorem okN_nI {b n : Nat} (h : n ≤ b) (hb : b < 2 ^ 31) : okN b (nI n) := by
  unfold okN
  rw [ix_nI (by omega)]
  exact ⟨rfl, h⟩
theorem okN_of {b n : Nat} {x : Int32} (hx : x = nI n) (h : n ≤ b) (hb : b < 2 ^ 31) : okN b x := by rw [hx]; exact okN_nI h hb
/-- what holds of every churchyard that comes -/
def Inv (r : Nat → Int32) : Prop := okN 5 (r 0) ∧ okN 6 (r 1) ∧ (∀ g, g < 5 → okN 9 (r (iG g 0)) ∧ okN 999 (r (iG g 1)) ∧ okN 9 (r (iG g 2)) ∧ (nG r ≤ g → r (iG g 1) = nI 0)) ∧ (∀ p, p < 6 → okN 5 (r (iM p 0)) ∧ okN 9 (r (iM p 1)) ∧ okN 99 (r (iM p 2)) ∧ (nM r ≤ p → r (iM p 2) = nI 0)) ∧ ∀ p, p < nM r → r (iM p 3) = -9 ∨ ∃ g, g < nG r ∧ r (iM p 3) = nI g
theorem Inv.g {r : Nat → Int32} (h : Inv r) : nG r ≤ 5 := h.1.2
theorem Inv.m {r : Nat → Int32} (h : Inv r) : nM r ≤ 6 := h.2.1.2
theorem Inv.r0 {r : Nat → Int32} (h : Inv r) : r 0 = nI (nG r) := h.1.1
theorem Inv.r1 {r : Nat → Int32} (h : Inv r) : r 1 = nI (nM r) := h.2.1.1
theorem Inv.at {r : Nat → Int32} (h : Inv r) (p : Nat) : pl r p = -9 ∨ ∃ g, g < nG r ∧ pl r p = nI g := by
  unfold pl
  split
  · exact h.2.2.2.2 p (by assumption)
  · exact Or.inl rfl
/-- the world's chunk of a churchyard: its object and its seven rows -/
def ydW (Γ : eG) (h : Nat) (a : Nat → Nat) (r : Nat → Int32) : va_W := [(h, .inr (0, [.ref (a 0), .ref (a 1), .ref (a 2), .ref (a 3), .ref (a 4), .ref (a 5), .ref (a 6), .int (nI (nG r)), .int (nI (nM r)), .int (r 2)])), (a 0, .inl (Γ.2.1, 5, .inl (fun g => r (iG g 0)))), (a 1, .inl (Γ.2.1, 5, .inl (fun g => r (iG g 1)))), (a 2, .inl (Γ.2.1, 5, .inl (fun g => r (iG g 2)))), (a 3, .inl (Γ.2.1, 6, .inl (fun p => r (iM p 0)))), (a 4, .inl (Γ.2.1, 6, .inl (fun p => r (iM p 1)))), (a 5, .inl (Γ.2.1, 6, .inl (fun p => r (iM p 2)))), (a 6, .inl (Γ.2.1, 6, .inl (fun p => pl r p)))]
/-- read by an int: 0, or -9, where there is none -/
def gv (r : Nat → Int32) (w : Nat) (x : Int32) : Int32 := if inN (nG r) x = true then r (iG (ix x) w) else nI 0
def mv (r : Nat → Int32) (w : Nat) (d : Int32) (x : Int32) : Int32 := if inN (nM r) x = true then r (iM (ix x) w) else d
def setG (r : Nat → Int32) (w : Nat) (x v : Int32) : Nat → Int32 := if inN (nG r) x = true then upd r (iG (ix x) w) v else r
def setM (r : Nat → Int32) (w : Nat) (x v : Int32) : Nat → Int32 := if inN (nM r) x = true then upd r (iM (ix x) w) v else r
theorem gv_N {r : Nat → Int32} {w g : Nat} (hg : g < nG r) (h5 : nG r ≤ 5) : gv r w (nI g) = r (iG g w) := by
  unfold gv
  rw [inN_nI (by omega), ix_nI (by omega)]
  simp [hg]
theorem mv_N {r : Nat → Int32} {w p : Nat} {d : Int32} (hp : p < nM r) (h6 : nM r ≤ 6) : mv r w d (nI p) = r (iM p w) := by
  unfold mv
  rw [inN_nI (by omega), ix_nI (by omega)]
  simp [hp]
theorem setG_N {r : Nat → Int32} {w g : Nat} {v : Int32} (hg : g < nG r) (h5 : nG r ≤ 5) : setG r w (nI g) v = upd r (iG g w) v := by
  unfold setG
  rw [inN_nI (by omega), ix_nI (by omega)]
  simp [hg]
theorem setM_N {r : Nat → Int32} {w p : Nat} {v : Int32} (hp : p < nM r) (h6 : nM r ≤ 6) : setM r w (nI p) v = upd r (iM p w) v := by
  unfold setM
  rw [inN_nI (by omega), ix_nI (by omega)]
  simp [hp]
theorem upd_s {f : Nat → Int32} {k : Nat} {x : Int32} : upd f k x k = x := if_pos rfl
theorem upd_n {f : Nat → Int32} {k j : Nat} {x : Int32} (h : j ≠ k) : upd f k x j = f j := if_neg h
/-- the pictures of a changed row -/
theorem pG_s {r : Nat → Int32} {g w : Nat} {x : Int32} (hw : w < 3) : (fun j => upd r (iG g w) x (iG j w)) = upd (fun j => r (iG j w)) g x := by
  funext j
  by_cases h : j = g
  · subst h; rw [upd_s, upd_s]
  · rw [upd_n (fun e => h ((iG_inj hw hw).mp e).1), upd_n h]
theorem pG_n {r : Nat → Int32} {g w v : Nat} {x : Int32} (hw : w < 3) (hv : v < 3) (h : v ≠ w) : (fun j => upd r (iG g w) x (iG j v)) = (fun j => r (iG j v)) := by
  funext j
  exact upd_n (fun e => h ((iG_inj hv hw).mp e).2)
theorem pM_s {r : Nat → Int32} {g w : Nat} {x : Int32} (hw : w < 4) : (fun j => upd r (iM g w) x (iM j w)) = upd (fun j => r (iM j w)) g x := by
  funext j
  by_cases h : j = g
  · subst h; rw [upd_s, upd_s]
  · rw [upd_n (fun e => h ((iM_inj hw hw).mp e).1), upd_n h]
theorem pM_n {r : Nat → Int32} {g w v : Nat} {x : Int32} (hw : w < 4) (hv : v < 4) (h : v ≠ w) : (fun j => upd r (iM g w) x (iM j v)) = (fun j => r (iM j v)) := by
  funext j
  exact upd_n (fun e => h ((iM_inj hv hw).mp e).2)
theorem nG_G {r : Nat → Int32} {g w : Nat} {x : Int32} : nG (upd r (iG g w) x) = nG r := by unfold nG; rw [upd_n (by unfold iG; omega)]
theorem nM_G {r : Nat → Int32} {g w : Nat} {x : Int32} : nM (upd r (iG g w) x) = nM r := by unfold nM; rw [upd_n (by unfold iG; omega)]
theorem nG_M {r : Nat → Int32} {g w : Nat} {x : Int32} : nG (upd r (iM g w) x) = nG r := by unfold nG; rw [upd_n (by unfold iM; omega)]
theorem nM_M {r : Nat → Int32} {g w : Nat} {x : Int32} : nM (upd r (iM g w) x) = nM r := by unfold nM; rw [upd_n (by unfold iM; omega)]
theorem r2_G {r : Nat → Int32} {g w : Nat} {x : Int32} : upd r (iG g w) x 2 = r 2 := upd_n (by unfold iG; omega)
theorem r2_M {r : Nat → Int32} {g w : Nat} {x : Int32} : upd r (iM g w) x 2 = r 2 := upd_n (by unfold iM; omega)
