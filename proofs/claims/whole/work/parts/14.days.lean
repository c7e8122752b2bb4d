/-! a day: soaking, fading; what keeps Inv -/
def sumTo (f : Nat → Int32) : Nat → Int32
  | 0 => nI 0
  | n + 1 => sumTo f n + f n
def soakS (r : Nat → Int32) (g : Nat) (w : Int32) : Nat → Int32 := upd (upd r (iG g 1) (mn999 (r (iG g 1) + (r (iG g 2) + w) / (r (iG g 0) + nI 1)))) (iG g 2) ((r (iG g 2) + w) - (r (iG g 2) + w) / (r (iG g 0) + nI 1) * (r (iG g 0) + nI 1))
def soakX (r : Nat → Int32) (x w : Int32) : Nat → Int32 := if x < 0 then r else soakS r (ix x) w
def soakTo (r : Nat → Int32) : Nat → Nat → Int32
  | 0 => r
  | k + 1 => soakX (soakTo r k) (pl (soakTo r k) k) (weepS (soakTo r k) k)
def fadeTo (r : Nat → Int32) : Nat → Nat → Int32
  | 0 => r
  | k + 1 => upd (fadeTo r k) (iM k 2) (mx0 (fadeTo r k (iM k 2) - fadeK (fadeTo r k (iM k 0))))
def dayS (r : Nat → Int32) : Nat → Int32 := fadeTo (soakTo (upd r 2 (r 2 + nI 1)) 6) 6
def daysS (r : Nat → Int32) : Nat → Nat → Int32
  | 0 => r
  | k + 1 => dayS (daysS r k)
def tellS (r : Nat → Int32) (p : Nat) : Nat → Int32 := upd r (iM p 2) (mn99 (r (iM p 2) + toldK (r (iM p 0))))
def tellX (r : Nat → Int32) (x : Int32) : Nat → Int32 := setM r 2 x (mn99 (mv r 2 (nI 0) x + toldK (mv r 0 (-9) x)))
def addGr (r : Nat → Int32) (v : Int32) : Nat → Int32 := upd (upd (upd (upd r (iG (nG r) 0) v) (iG (nG r) 1) (nI 0)) (iG (nG r) 2) (nI 0)) 0 (nI (nG r + 1))
def addMo (r : Nat → Int32) (k f e : Int32) : Nat → Int32 := upd (upd (upd (upd (upd r (iM (nM r) 0) k) (iM (nM r) 1) f) (iM (nM r) 2) e) (iM (nM r) 3) (-9)) 1 (nI (nM r + 1))
def leaveS (r : Nat → Int32) : Nat → Int32 := fun k => if k % 4 = 1 ∧ 21 ≤ k ∧ k < 21 + 4 * nM r then -9 else r k
def lvF (f : Nat → Int32) (i : Nat) : Nat → Int32 := fun p => if p < i then -9 else f p
def ppl (r : Nat → Int32) (x : Int32) : Int32 := sumTo (fun p => if pl r p = x then nI 1 else nI 0) 6
def wat (r : Nat → Int32) (x : Int32) : Int32 := sumTo (fun p => if pl r p = x then weepS r p else nI 0) 6
theorem m9 : (-9 : Int32) < 0 := by decide
theorem nI_n9 {n : Nat} (h : n < 2 ^ 31) : ¬ nI n = -9 := by
  intro e
  have := nI_toInt h
  rw [e] at this
  have h2 : (-9 : Int32).toInt = -9 := by decide
  omega
theorem add0 (x : Int32) : x + nI 0 = x := by rw [nI_0]; exact Int32.add_zero x
theorem ix_lt {n : Nat} {x : Int32} (h : inN n x = true) (hn : n < 2 ^ 31) : ix x < n := by
  obtain ⟨j, hj, -, e⟩ := inN_of h hn
  omega
theorem setG_t {r : Nat → Int32} {w : Nat} {x v : Int32} (h : inN (nG r) x = true) : setG r w x v = upd r (iG (ix x) w) v := if_pos h
theorem setG_f {r : Nat → Int32} {w : Nat} {x v : Int32} (h : inN (nG r) x = false) : setG r w x v = r := if_neg (by rw [h]; decide)
theorem setM_t {r : Nat → Int32} {w : Nat} {x v : Int32} (h : inN (nM r) x = true) : setM r w x v = upd r (iM (ix x) w) v := if_pos h
theorem setM_f {r : Nat → Int32} {w : Nat} {x v : Int32} (h : inN (nM r) x = false) : setM r w x v = r := if_neg (by rw [h]; decide)
theorem tellX_N {r : Nat → Int32} {p : Nat} (hp : p < nM r) (h6 : nM r ≤ 6) : tellX r (nI p) = tellS r p := by
  unfold tellX tellS
  rw [setM_N hp h6, mv_N hp h6, mv_N hp h6]
theorem soakX_N {r : Nat → Int32} {g : Nat} {w : Int32} (hg : g < 2 ^ 31) : soakX r (nI g) w = soakS r g w := by
  unfold soakX
  rw [if_neg (nI_pos hg), ix_nI hg]
theorem soakX_9 {r : Nat → Int32} {w : Int32} : soakX r (-9) w = r := if_pos m9
theorem soakX_neg {r : Nat → Int32} {x w : Int32} (h : x < 0) : soakX r x w = r := if_pos h
theorem mx0_eq (v : Int32) : (if nI 0 < v then v else nI 0) = mx0 v := by
  unfold mx0
  rw [nI_0]
  rcases Int32.lt_or_le v 0 with h | h
  · rw [if_pos h, if_neg (Int32.not_lt.mpr (Int32.le_of_lt h))]
  · rw [if_neg (Int32.not_lt.mpr h)]
    by_cases e : (0 : Int32) < v
    · rw [if_pos e]
    · rw [if_neg e]
      exact Int32.le_antisymm h (Int32.not_lt.mp e)
theorem hd1 {x : Int32} (h : okN 9 x) : (if nI 1 < x + nI 1 then x + nI 1 else nI 1) = x + nI 1 := by
  rw [h.1, nI_add]
  by_cases q : nI 1 < nI (ix x + 1)
  · rw [if_pos q]
  · rw [if_neg q]
    have h2 := h.2
    rw [nI_ltI (by omega) (by omega)] at q
    rw [show ix x = 0 by omega]
theorem hd1_ne {x : Int32} (h : okN 9 x) : ¬ x + nI 1 = 0 := by
  have h2 := h.2
  rw [h.1, nI_add]
  exact nI_ne0 (by omega) (by omega)
theorem mn999_ok {n : Nat} (h : n < 2 ^ 31) : mn999 (nI n) = nI (if n < 999 then n else 999) := by
  unfold mn999
  by_cases q : n < 999
  · rw [if_pos ((nI_ltI h (by decide)).mpr q), if_pos q]
  · rw [if_neg (fun z => q ((nI_ltI h (by decide)).mp z)), if_neg q]
theorem mn99_ok {n : Nat} (h : n < 2 ^ 31) : mn99 (nI n) = nI (if n < 99 then n else 99) := by
  unfold mn99
  by_cases q : n < 99
  · rw [if_pos ((nI_ltI h (by decide)).mpr q), if_pos q]
  · rw [if_neg (fun z => q ((nI_ltI h (by decide)).mp z)), if_neg q]
theorem mx0_ok {a b : Nat} (ha : a < 2 ^ 30) (hb : b < 2 ^ 30) : mx0 (nI a - nI b) = nI (a - b) := by
  unfold mx0
  by_cases q : a < b
  · rw [if_pos (pk_sneg hb q), show a - b = 0 by omega]
  · rw [pk_sub (by omega), if_neg (nI_pos (by omega))]
/-! Inv of changed rows -/
theorem Inv.gH {r : Nat → Int32} (h : Inv r) {g : Nat} (hg : g < 5) : okN 9 (r (iG g 0)) := (h.2.2.1 g hg).1
theorem Inv.gD {r : Nat → Int32} (h : Inv r) {g : Nat} (hg : g < 5) : okN 999 (r (iG g 1)) := (h.2.2.1 g hg).2.1
theorem Inv.gW {r : Nat → Int32} (h : Inv r) {g : Nat} (hg : g < 5) : okN 9 (r (iG g 2)) := (h.2.2.1 g hg).2.2.1
theorem Inv.mK {r : Nat → Int32} (h : Inv r) {p : Nat} (hp : p < 6) : okN 5 (r (iM p 0)) := (h.2.2.2.1 p hp).1
theorem Inv.mF {r : Nat → Int32} (h : Inv r) {p : Nat} (hp : p < 6) : okN 9 (r (iM p 1)) := (h.2.2.2.1 p hp).2.1
theorem Inv.mE {r : Nat → Int32} (h : Inv r) {p : Nat} (hp : p < 6) : okN 99 (r (iM p 2)) := (h.2.2.2.1 p hp).2.2.1
theorem Inv.d0 {r : Nat → Int32} (h : Inv r) {g : Nat} (hg : g < 5) (h2 : nG r ≤ g) : r (iG g 1) = nI 0 := (h.2.2.1 g hg).2.2.2 h2
theorem Inv.e0 {r : Nat → Int32} (h : Inv r) {p : Nat} (hp : p < 6) (h2 : nM r ≤ p) : r (iM p 2) = nI 0 := (h.2.2.2.1 p hp).2.2.2 h2
theorem uG0 {r : Nat → Int32} {j w : Nat} {x : Int32} : upd r (iG j w) x 0 = r 0 := upd_n (by unfold iG; omega)
theorem uG1 {r : Nat → Int32} {j w : Nat} {x : Int32} : upd r (iG j w) x 1 = r 1 := upd_n (by unfold iG; omega)
theorem uM0 {r : Nat → Int32} {j w : Nat} {x : Int32} : upd r (iM j w) x 0 = r 0 := upd_n (by unfold iM; omega)
theorem uM1 {r : Nat → Int32} {j w : Nat} {x : Int32} : upd r (iM j w) x 1 = r 1 := upd_n (by unfold iM; omega)
theorem uG_at {r : Nat → Int32} {j w i v : Nat} {x : Int32} (hw : w < 3) (hv : v < 3) : upd r (iG j w) x (iG i v) = if i = j ∧ v = w then x else r (iG i v) := by
  by_cases h : i = j ∧ v = w
  · rw [if_pos h, h.1, h.2, upd_s]
  · rw [if_neg h, upd_n (fun e => h ((iG_inj hv hw).mp e))]
theorem uM_at {r : Nat → Int32} {j w i v : Nat} {x : Int32} (hw : w < 4) (hv : v < 4) : upd r (iM j w) x (iM i v) = if i = j ∧ v = w then x else r (iM i v) := by
  by_cases h : i = j ∧ v = w
  · rw [if_pos h, h.1, h.2, upd_s]
  · rw [if_neg h, upd_n (fun e => h ((iM_inj hv hw).mp e))]
theorem Inv_G {r : Nat → Int32} (h : Inv r) {j w : Nat} {x : Int32} (hj : j < 5) (hw : w < 3) (h0 : w = 0 → okN 9 x) (h1 : w = 1 → okN 999 x ∧ (nG r ≤ j → x = nI 0)) (h2 : w = 2 → okN 9 x) : Inv (upd r (iG j w) x) := by
  obtain ⟨a1, a2, a3, a4, a5⟩ := h
  refine ⟨by rw [uG0]; exact a1, by rw [uG1]; exact a2, fun g hg => ?_, fun p hp => ?_, fun p hp => ?_⟩
  · rw [nG_G, uG_at hw (by decide), uG_at hw (by decide), uG_at hw (by decide)]
    obtain ⟨b1, b2, b3, b4⟩ := a3 g hg
    by_cases e : g = j
    · subst e
      refine ⟨?_, ?_, ?_, fun q => ?_⟩
      · split
        · exact h0 (by omega)
        · exact b1
      · split
        · exact (h1 (by omega)).1
        · exact b2
      · split
        · exact h2 (by omega)
        · exact b3
      · split
        · exact (h1 (by omega)).2 q
        · exact b4 q
    · rw [if_neg (by omega), if_neg (by omega), if_neg (by omega)]
      exact a3 g hg
  · rw [nM_G, uGM hj hw, uGM hj hw, uGM hj hw]
    exact a4 p hp
  · rw [nM_G] at hp
    rw [nG_G, uGM hj hw]
    exact a5 p hp
theorem Inv_M {r : Nat → Int32} (h : Inv r) {j w : Nat} {x : Int32} (hw : w < 4) (h0 : w = 0 → okN 5 x) (h1 : w = 1 → okN 9 x) (h2 : w = 2 → okN 99 x ∧ (nM r ≤ j → x = nI 0)) (h3 : w = 3 → x = -9 ∨ ∃ g, g < nG r ∧ x = nI g) : Inv (upd r (iM j w) x) := by
  obtain ⟨a1, a2, a3, a4, a5⟩ := h
  refine ⟨by rw [uM0]; exact a1, by rw [uM1]; exact a2, fun g hg => ?_, fun p hp => ?_, fun p hp => ?_⟩
  · rw [nG_M, uMG hg (by decide), uMG hg (by decide), uMG hg (by decide)]
    exact a3 g hg
  · rw [nM_M, uM_at hw (by decide), uM_at hw (by decide), uM_at hw (by decide)]
    obtain ⟨b1, b2, b3, b4⟩ := a4 p hp
    by_cases e : p = j
    · subst e
      refine ⟨?_, ?_, ?_, fun q => ?_⟩
      · split
        · exact h0 (by omega)
        · exact b1
      · split
        · exact h1 (by omega)
        · exact b2
      · split
        · exact (h2 (by omega)).1
        · exact b3
      · split
        · exact (h2 (by omega)).2 q
        · exact b4 q
    · rw [if_neg (by omega), if_neg (by omega), if_neg (by omega)]
      exact a4 p hp
  · rw [nM_M] at hp
    rw [nG_M, uM_at hw (by decide)]
    split
    · exact h3 (by omega)
    · exact a5 p hp
theorem Inv_2 {r : Nat → Int32} (h : Inv r) {x : Int32} : Inv (upd r 2 x) := by
  obtain ⟨a1, a2, a3, a4, a5⟩ := h
  have e0 : upd r 2 x 0 = r 0 := upd_n (by decide)
  have e1 : upd r 2 x 1 = r 1 := upd_n (by decide)
  have eG : nG (upd r 2 x) = nG r := by unfold nG; rw [e0]
  have eM : nM (upd r 2 x) = nM r := by unfold nM; rw [e1]
  refine ⟨by rw [e0]; exact a1, by rw [e1]; exact a2, fun g hg => ?_, fun p hp => ?_, fun p hp => ?_⟩
  · rw [eG, u0G (by decide), u0G (by decide), u0G (by decide)]
    exact a3 g hg
  · rw [eM, u0M (by decide), u0M (by decide), u0M (by decide)]
    exact a4 p hp
  · rw [eM] at hp
    rw [eG, u0M (by decide)]
    exact a5 p hp
theorem weepK_0 (f g : Int32) : weepK (nI 0) f g = g / nI 10 := rfl
theorem weepK_ok {k f e : Nat} (hk : k ≤ 5) (hf : f ≤ 9) (he : e ≤ 99) : ∃ n, n ≤ 12 ∧ weepK (nI k) (nI f) (nI e) = nI n := by
  have q1 : nI e / nI 10 = nI (e / 10) := pk_div (by omega) (by decide) (by decide)
  have q2 : nI f / nI 2 = nI (f / 2) := pk_div (by omega) (by decide) (by decide)
  have q3 : nI f / nI 3 = nI (f / 3) := pk_div (by omega) (by decide) (by decide)
  have : k = 0 ∨ k = 1 ∨ k = 2 ∨ k = 3 ∨ k = 4 ∨ k = 5 := by omega
  rcases this with rfl | rfl | rfl | rfl | rfl | rfl
  · exact ⟨e / 10, by omega, by rw [weepK_0, q1]⟩
  · exact ⟨f / 2 + 1, by omega, by rw [weepK_1, q2, nI_add]⟩
  · exact ⟨2 * (f / 2 + 1), by omega, by rw [weepK_2, q2, nI_add, pk_mul]⟩
  · by_cases h : nI e < nI 50
    · exact ⟨0, by omega, by rw [weepK_3, if_pos h]⟩
    · exact ⟨e / 10, by omega, by rw [weepK_3, if_neg h, q1]⟩
  · exact ⟨e / 10 + f / 3, by omega, by rw [weepK_4, q1, q3, nI_add]⟩
  · exact ⟨1, by omega, weepK_5 _ _⟩
theorem weepS_ok {r : Nat → Int32} (h : Inv r) {p : Nat} (hp : p < 6) : ∃ n, n ≤ 12 ∧ weepS r p = nI n := by
  unfold weepS
  rw [(h.mK hp).1, (h.mF hp).1, (h.mE hp).1]
  exact weepK_ok (h.mK hp).2 (h.mF hp).2 (h.mE hp).2
theorem fadeK_ok {k : Nat} (hk : k ≤ 5) : ∃ n, n ≤ 2 ∧ fadeK (nI k) = nI n := by
  have : k = 0 ∨ k = 1 ∨ k = 2 ∨ k = 3 ∨ k = 4 ∨ k = 5 := by omega
  rcases this with rfl | rfl | rfl | rfl | rfl | rfl
  · exact ⟨2, by omega, rfl⟩
  · exact ⟨0, by omega, rfl⟩
  · exact ⟨0, by omega, rfl⟩
  · exact ⟨2, by omega, rfl⟩
  · exact ⟨1, by omega, rfl⟩
  · exact ⟨0, by omega, rfl⟩
theorem toldK_ok {k : Nat} (hk : k ≤ 5) : ∃ n, n ≤ 30 ∧ toldK (nI k) = nI n := by
  have : k = 0 ∨ k = 1 ∨ k = 2 ∨ k = 3 ∨ k = 4 ∨ k = 5 := by omega
  rcases this with rfl | rfl | rfl | rfl | rfl | rfl
  · exact ⟨20, by omega, rfl⟩
  · exact ⟨0, by omega, rfl⟩
  · exact ⟨5, by omega, rfl⟩
  · exact ⟨0, by omega, rfl⟩
  · exact ⟨30, by omega, rfl⟩
  · exact ⟨30, by omega, rfl⟩
/-- soaking in numbers -/
theorem soak_num {d w0 h k : Nat} (hd : d ≤ 999) (hw : w0 ≤ 9) (hh : h ≤ 9) (hk : k ≤ 1000000) : mn999 (nI d + (nI w0 + nI k) / (nI h + nI 1)) = nI (if d + (w0 + k) / (h + 1) < 999 then d + (w0 + k) / (h + 1) else 999) ∧ (nI w0 + nI k) - (nI w0 + nI k) / (nI h + nI 1) * (nI h + nI 1) = nI ((w0 + k) % (h + 1)) := by
  rw [nI_add, nI_add, pk_div (by omega) (by omega) (by omega), nI_add, pk_mul]
  have hb : (w0 + k) / (h + 1) ≤ w0 + k := Nat.div_le_self _ _
  refine ⟨mn999_ok (by omega), ?_⟩
  have := pk_rem (a := w0 + k) (d := h + 1) (by omega) (by omega) (by omega)
  rw [pk_div (by omega) (by omega) (by omega), pk_mul] at this
  exact this
theorem Inv_soakS {r : Nat → Int32} (h : Inv r) {g k : Nat} {w : Int32} (hg : g < nG r) (hk : k ≤ 1000000) (hw : w = nI k) : Inv (soakS r g w) := by
  have hg5 : g < 5 := Nat.lt_of_lt_of_le hg h.g
  obtain ⟨n1, n2⟩ := soak_num (h.gD hg5).2 (h.gW hg5).2 (h.gH hg5).2 hk
  rw [← (h.gD hg5).1, ← (h.gW hg5).1, ← (h.gH hg5).1, ← hw] at n1
  rw [← (h.gW hg5).1, ← (h.gH hg5).1, ← hw] at n2
  unfold soakS
  rw [n1, n2]
  have hm : (ix (r (iG g 2)) + k) % (ix (r (iG g 0)) + 1) < ix (r (iG g 0)) + 1 := Nat.mod_lt _ (by omega)
  have hh := (h.gH hg5).2
  refine Inv_G (Inv_G h hg5 (by decide) (fun e => by cases e) (fun _ => ⟨okN_nI (by split <;> omega) (by decide), fun q => by omega⟩) (fun e => by cases e)) hg5 (by decide) (fun e => by cases e) (fun e => by cases e) (fun _ => okN_nI (by omega) (by decide))
theorem soak_nG {r : Nat → Int32} {g : Nat} {w : Int32} : nG (soakS r g w) = nG r := by unfold soakS; rw [nG_G, nG_G]
theorem soak_nM {r : Nat → Int32} {g : Nat} {w : Int32} : nM (soakS r g w) = nM r := by unfold soakS; rw [nM_G, nM_G]
theorem Inv_soakX {r : Nat → Int32} (h : Inv r) {x w : Int32} {k : Nat} (hx : x = -9 ∨ ∃ g, g < nG r ∧ x = nI g) (hk : k ≤ 1000000) (hw : w = nI k) : Inv (soakX r x w) := by
  rcases hx with rfl | ⟨g, hg, rfl⟩
  · rw [soakX_9]; exact h
  · have := h.g
    rw [soakX_N (by omega)]; exact Inv_soakS h hg hk hw
theorem Inv_soakTo {r : Nat → Int32} (h : Inv r) : ∀ k, k ≤ 6 → Inv (soakTo r k)
  | 0, _ => h
  | k + 1, hk => by
    have ih := Inv_soakTo h k (by omega)
    obtain ⟨n, hn, e⟩ := weepS_ok ih (p := k) (by omega)
    exact Inv_soakX ih (ih.at k) (k := n) (by omega) e
theorem Inv_fadeTo {r : Nat → Int32} (h : Inv r) : ∀ k, k ≤ 6 → Inv (fadeTo r k)
  | 0, _ => h
  | k + 1, hk => by
    have ih := Inv_fadeTo h k (by omega)
    obtain ⟨n, hn, e⟩ := fadeK_ok (ih.mK (p := k) (by omega)).2
    have h2 := (ih.mE (p := k) (by omega)).2
    show Inv (upd (fadeTo r k) (iM k 2) (mx0 (fadeTo r k (iM k 2) - fadeK (fadeTo r k (iM k 0)))))
    rw [(ih.mK (p := k) (by omega)).1, e, (ih.mE (p := k) (by omega)).1, mx0_ok (by omega) (by omega)]
    refine Inv_M ih (by decide) (fun q => by cases q) (fun q => by cases q) (fun _ => ⟨okN_nI (by omega) (by decide), fun q => ?_⟩) (fun q => by cases q)
    have := ih.e0 (p := k) (by omega) q
    rw [this, ix_nI (by decide)]
    congr 1
    omega
theorem Inv_dayS {r : Nat → Int32} (h : Inv r) : Inv (dayS r) := Inv_fadeTo (Inv_soakTo (Inv_2 h) 6 (Nat.le_refl 6)) 6 (Nat.le_refl 6)
theorem Inv_daysS {r : Nat → Int32} (h : Inv r) : ∀ k, Inv (daysS r k)
  | 0 => h
  | k + 1 => Inv_dayS (Inv_daysS h k)
theorem Inv_tellS {r : Nat → Int32} (h : Inv r) {p : Nat} (hp : p < nM r) : Inv (tellS r p) := by
  have h6 := h.m
  obtain ⟨n, hn, e⟩ := toldK_ok (h.mK (p := p) (by omega)).2
  have h2 := (h.mE (p := p) (by omega)).2
  unfold tellS
  rw [(h.mK (p := p) (by omega)).1, e, (h.mE (p := p) (by omega)).1, nI_add, mn99_ok (by omega)]
  exact Inv_M h (by decide) (fun q => by cases q) (fun q => by cases q) (fun _ => ⟨okN_nI (by split <;> omega) (by decide), fun q => by omega⟩) (fun q => by cases q)
theorem yd_addG {Γ : eG} {h : Nat} {a : Nat → Nat} {r : Nat → Int32} {v : Int32} (hg : nG r < 5) : weq (ydC Γ h a (nG r + 1) (nM r) (r 2) (upd (fun g => r (iG g 0)) (nG r) v) (upd (fun g => r (iG g 1)) (nG r) (nI 0)) (upd (fun g => r (iG g 2)) (nG r) (nI 0)) (fun p => r (iM p 0)) (fun p => r (iM p 1)) (fun p => r (iM p 2)) (fun p => pl r p)) (ydW Γ h a (addGr r v)) := by
  have e : ∀ i w, addGr r v (iM i w) = r (iM i w) := fun i w => by unfold addGr; rw [u0M (by decide), uGM hg (by decide), uGM hg (by decide), uGM hg (by decide)]
  have em : nM (addGr r v) = nM r := by unfold addGr nM; rw [upd_n (by decide), uG1, uG1, uG1]
  have eg : nG (addGr r v) = nG r + 1 := by
    have : addGr r v 0 = nI (nG r + 1) := upd_s
    rw [show nG (addGr r v) = ix (addGr r v 0) from rfl, this, ix_nI (by omega)]
  refine yd_of eg.symm em.symm ?_ (fun i _ => ?_) (fun i _ => ?_) (fun i _ => ?_) (fun i _ => (e i 0).symm) (fun i _ => (e i 1).symm) (fun i _ => (e i 2).symm) (fun i _ => ?_)
  · unfold addGr; rw [upd_n (by decide), r2_G, r2_G, r2_G]
  · unfold addGr; rw [u0G (by decide), uG_n (by decide) (by decide) (by decide), uG_n (by decide) (by decide) (by decide), uG_s (by decide)]
  · unfold addGr; rw [u0G (by decide), uG_n (by decide) (by decide) (by decide), uG_s (by decide), pG_n (by decide) (by decide) (by decide)]
  · unfold addGr; rw [u0G (by decide), uG_s (by decide), pG_n (by decide) (by decide) (by decide), pG_n (by decide) (by decide) (by decide)]
  · unfold pl; rw [em, e]
theorem yd_addM {Γ : eG} {h : Nat} {a : Nat → Nat} {r : Nat → Int32} {k f e : Int32} (hm : nM r < 6) : weq (ydC Γ h a (nG r) (nM r + 1) (r 2) (fun g => r (iG g 0)) (fun g => r (iG g 1)) (fun g => r (iG g 2)) (upd (fun p => r (iM p 0)) (nM r) k) (upd (fun p => r (iM p 1)) (nM r) f) (upd (fun p => r (iM p 2)) (nM r) e) (upd (fun p => pl r p) (nM r) (-9))) (ydW Γ h a (addMo r k f e)) := by
  have eq : ∀ i w, i < 5 → w < 3 → addMo r k f e (iG i w) = r (iG i w) := fun i w hi hw => by unfold addMo; rw [u0G (by decide), uMG hi hw, uMG hi hw, uMG hi hw, uMG hi hw]
  have eg : nG (addMo r k f e) = nG r := by unfold addMo nG; rw [upd_n (by decide), uM0, uM0, uM0, uM0]
  have em : nM (addMo r k f e) = nM r + 1 := by
    have : addMo r k f e 1 = nI (nM r + 1) := upd_s
    rw [show nM (addMo r k f e) = ix (addMo r k f e 1) from rfl, this, ix_nI (by omega)]
  refine yd_of eg.symm em.symm ?_ (fun i hi => (eq i 0 hi (by decide)).symm) (fun i hi => (eq i 1 hi (by decide)).symm) (fun i hi => (eq i 2 hi (by decide)).symm) (fun i _ => ?_) (fun i _ => ?_) (fun i _ => ?_) (fun i _ => ?_)
  · unfold addMo; rw [upd_n (by decide), r2_M, r2_M, r2_M, r2_M]
  · unfold addMo; rw [u0M (by decide), uM_n (by decide) (by decide) (by decide), uM_n (by decide) (by decide) (by decide), uM_n (by decide) (by decide) (by decide), uM_s (by decide)]
  · unfold addMo; rw [u0M (by decide), uM_n (by decide) (by decide) (by decide), uM_n (by decide) (by decide) (by decide), uM_s (by decide), pM_n (by decide) (by decide) (by decide)]
  · unfold addMo; rw [u0M (by decide), uM_n (by decide) (by decide) (by decide), uM_s (by decide), pM_n (by decide) (by decide) (by decide), pM_n (by decide) (by decide) (by decide)]
  · have e3 : addMo r k f e (iM i 3) = if i = nM r then -9 else r (iM i 3) := by
      unfold addMo
      rw [u0M (by decide), uM_at (by decide) (by decide), uM_n (by decide) (by decide) (by decide), uM_n (by decide) (by decide) (by decide), uM_n (by decide) (by decide) (by decide)]
      by_cases q : i = nM r
      · rw [if_pos ⟨q, rfl⟩, if_pos q]
      · rw [if_neg (fun z => q z.1), if_neg q]
    unfold pl
    rw [em, e3]
    unfold upd
    by_cases h1 : i = nM r
    · rw [if_pos h1, if_pos h1, if_pos (by omega)]
    · rw [if_neg h1, if_neg h1]
      show (if i < nM r then r (iM i 3) else -9) = _
      by_cases h2 : i < nM r
      · rw [if_pos h2, if_pos (by omega)]
      · rw [if_neg h2, if_neg (by omega)]
theorem lv_n {r : Nat → Int32} {k : Nat} (h : k < 21 ∨ k % 4 ≠ 1) : leaveS r k = r k := if_neg (by omega)
theorem lv_nM {r : Nat → Int32} : nM (leaveS r) = nM r := by unfold nM; rw [lv_n (by omega)]
theorem lv_nG {r : Nat → Int32} : nG (leaveS r) = nG r := by unfold nG; rw [lv_n (by omega)]
theorem pl_leave {r : Nat → Int32} {p : Nat} : pl (leaveS r) p = -9 := by
  unfold pl
  rw [lv_nM]
  by_cases h : p < nM r
  · rw [if_pos h]
    exact if_pos (by unfold iM; omega)
  · rw [if_neg h]
theorem yd_leave {Γ : eG} {h : Nat} {a : Nat → Nat} {r f : Nat → Int32} : weq (ydC Γ h a (nG r) (nM r) (r 2) (fun g => r (iG g 0)) (fun g => r (iG g 1)) (fun g => r (iG g 2)) (fun p => r (iM p 0)) (fun p => r (iM p 1)) (fun p => r (iM p 2)) (lvF f 6)) (ydW Γ h a (leaveS r)) :=
  yd_of lv_nG.symm lv_nM.symm (lv_n (by omega)).symm (fun i _ => (lv_n (by unfold iG; omega)).symm) (fun i _ => (lv_n (by unfold iG; omega)).symm) (fun i _ => (lv_n (by unfold iG; omega)).symm) (fun i _ => (lv_n (by unfold iM; omega)).symm) (fun i _ => (lv_n (by unfold iM; omega)).symm) (fun i _ => (lv_n (by unfold iM; omega)).symm) (fun i hi => by rw [pl_leave]; unfold lvF; rw [if_pos hi])
def ydX (Γ : eG) (h : Nat) (a : Nat → Nat) (r f : Nat → Int32) : va_W := ydC Γ h a (nG r) (nM r) (r 2) (fun g => r (iG g 0)) (fun g => r (iG g 1)) (fun g => r (iG g 2)) (fun p => r (iM p 0)) (fun p => r (iM p 1)) (fun p => r (iM p 2)) f
theorem lvF_s {f : Nat → Int32} {i : Nat} : upd (lvF f i) i (-9) = lvF f (i + 1) := by
  funext p
  unfold upd lvF
  by_cases h : p = i
  · rw [if_pos h, if_pos (by omega)]
  · rw [if_neg h]
    by_cases h2 : p < i
    · rw [if_pos h2, if_pos (by omega)]
    · rw [if_neg h2, if_neg (by omega)]
theorem lvF_0 {f : Nat → Int32} : lvF f 0 = f := by funext p; unfold lvF; rw [if_neg (by omega)]
theorem yd_G0c {Γ : eG} {h : Nat} {a : Nat → Nat} {r : Nat → Int32} {j : Nat} {x : Int32} (hj : j < 5) : weq (ydL Γ h a (nG r) (nM r) (r 2) (upd (fun g => r (iG g 0)) j x) (fun g => r (iG g 1)) (fun g => r (iG g 2)) (fun p => r (iM p 0)) (fun p => r (iM p 1)) (fun p => r (iM p 2)) (fun p => pl r p)).flatten [ydW Γ h a (upd r (iG j 0) x)].flatten := by rw [ydL_fl, fl1]; exact yd_G0 hj
theorem yd_G1c {Γ : eG} {h : Nat} {a : Nat → Nat} {r : Nat → Int32} {j : Nat} {x : Int32} (hj : j < 5) : weq (ydL Γ h a (nG r) (nM r) (r 2) (fun g => r (iG g 0)) (upd (fun g => r (iG g 1)) j x) (fun g => r (iG g 2)) (fun p => r (iM p 0)) (fun p => r (iM p 1)) (fun p => r (iM p 2)) (fun p => pl r p)).flatten [ydW Γ h a (upd r (iG j 1) x)].flatten := by rw [ydL_fl, fl1]; exact yd_G1 hj
theorem yd_G2c {Γ : eG} {h : Nat} {a : Nat → Nat} {r : Nat → Int32} {j : Nat} {x : Int32} (hj : j < 5) : weq (ydL Γ h a (nG r) (nM r) (r 2) (fun g => r (iG g 0)) (fun g => r (iG g 1)) (upd (fun g => r (iG g 2)) j x) (fun p => r (iM p 0)) (fun p => r (iM p 1)) (fun p => r (iM p 2)) (fun p => pl r p)).flatten [ydW Γ h a (upd r (iG j 2) x)].flatten := by rw [ydL_fl, fl1]; exact yd_G2 hj
theorem yd_M0c {Γ : eG} {h : Nat} {a : Nat → Nat} {r : Nat → Int32} {j : Nat} {x : Int32} : weq (ydL Γ h a (nG r) (nM r) (r 2) (fun g => r (iG g 0)) (fun g => r (iG g 1)) (fun g => r (iG g 2)) (upd (fun p => r (iM p 0)) j x) (fun p => r (iM p 1)) (fun p => r (iM p 2)) (fun p => pl r p)).flatten [ydW Γ h a (upd r (iM j 0) x)].flatten := by rw [ydL_fl, fl1]; exact yd_M0
theorem yd_M1c {Γ : eG} {h : Nat} {a : Nat → Nat} {r : Nat → Int32} {j : Nat} {x : Int32} : weq (ydL Γ h a (nG r) (nM r) (r 2) (fun g => r (iG g 0)) (fun g => r (iG g 1)) (fun g => r (iG g 2)) (fun p => r (iM p 0)) (upd (fun p => r (iM p 1)) j x) (fun p => r (iM p 2)) (fun p => pl r p)).flatten [ydW Γ h a (upd r (iM j 1) x)].flatten := by rw [ydL_fl, fl1]; exact yd_M1
theorem yd_M2c {Γ : eG} {h : Nat} {a : Nat → Nat} {r : Nat → Int32} {j : Nat} {x : Int32} : weq (ydL Γ h a (nG r) (nM r) (r 2) (fun g => r (iG g 0)) (fun g => r (iG g 1)) (fun g => r (iG g 2)) (fun p => r (iM p 0)) (fun p => r (iM p 1)) (upd (fun p => r (iM p 2)) j x) (fun p => pl r p)).flatten [ydW Γ h a (upd r (iM j 2) x)].flatten := by rw [ydL_fl, fl1]; exact yd_M2
theorem yd_M3c {Γ : eG} {h : Nat} {a : Nat → Nat} {r : Nat → Int32} {j : Nat} {x : Int32} (hj : j < nM r) : weq (ydL Γ h a (nG r) (nM r) (r 2) (fun g => r (iG g 0)) (fun g => r (iG g 1)) (fun g => r (iG g 2)) (fun p => r (iM p 0)) (fun p => r (iM p 1)) (fun p => r (iM p 2)) (upd (fun p => pl r p) j x)).flatten [ydW Γ h a (upd r (iM j 3) x)].flatten := by rw [ydL_fl, fl1]; exact yd_M3 hj
theorem yd_2c {Γ : eG} {h : Nat} {a : Nat → Nat} {r : Nat → Int32} {x : Int32} : weq (ydL Γ h a (nG r) (nM r) x (fun g => r (iG g 0)) (fun g => r (iG g 1)) (fun g => r (iG g 2)) (fun p => r (iM p 0)) (fun p => r (iM p 1)) (fun p => r (iM p 2)) (fun p => pl r p)).flatten [ydW Γ h a (upd r 2 x)].flatten := by rw [ydL_fl, fl1]; exact yd_2
theorem yd_addGc {Γ : eG} {h : Nat} {a : Nat → Nat} {r : Nat → Int32} {v : Int32} (hg : nG r < 5) : weq (ydL Γ h a (nG r + 1) (nM r) (r 2) (upd (fun g => r (iG g 0)) (nG r) v) (upd (fun g => r (iG g 1)) (nG r) (nI 0)) (upd (fun g => r (iG g 2)) (nG r) (nI 0)) (fun p => r (iM p 0)) (fun p => r (iM p 1)) (fun p => r (iM p 2)) (fun p => pl r p)).flatten [ydW Γ h a (addGr r v)].flatten := by rw [ydL_fl, fl1]; exact yd_addG hg
theorem yd_addMc {Γ : eG} {h : Nat} {a : Nat → Nat} {r : Nat → Int32} {k f e : Int32} (hm : nM r < 6) : weq (ydL Γ h a (nG r) (nM r + 1) (r 2) (fun g => r (iG g 0)) (fun g => r (iG g 1)) (fun g => r (iG g 2)) (upd (fun p => r (iM p 0)) (nM r) k) (upd (fun p => r (iM p 1)) (nM r) f) (upd (fun p => r (iM p 2)) (nM r) e) (upd (fun p => pl r p) (nM r) (-9))).flatten [ydW Γ h a (addMo r k f e)].flatten := by rw [ydL_fl, fl1]; exact yd_addM hm
theorem yd_leavec {Γ : eG} {h : Nat} {a : Nat → Nat} {r f : Nat → Int32} : weq (ydL Γ h a (nG r) (nM r) (r 2) (fun g => r (iG g 0)) (fun g => r (iG g 1)) (fun g => r (iG g 2)) (fun p => r (iM p 0)) (fun p => r (iM p 1)) (fun p => r (iM p 2)) (lvF f 6)).flatten [ydW Γ h a (leaveS r)].flatten := by rw [ydL_fl, fl1]; exact yd_leave
theorem yd_x {Γ : eG} {h : Nat} {a : Nat → Nat} {r f : Nat → Int32} : weq [ydX Γ h a r f].flatten (ydL Γ h a (nG r) (nM r) (r 2) (fun g => r (iG g 0)) (fun g => r (iG g 1)) (fun g => r (iG g 2)) (fun p => r (iM p 0)) (fun p => r (iM p 1)) (fun p => r (iM p 2)) f).flatten := weq.of (by rw [fl1, ydL_fl]; rfl)
theorem soakTo_s (r : Nat → Int32) (k : Nat) : soakTo r (k + 1) = soakX (soakTo r k) (pl (soakTo r k) k) (weepK (soakTo r k (iM k 0)) (soakTo r k (iM k 1)) (soakTo r k (iM k 2))) := rfl
theorem fadeTo_s (r : Nat → Int32) (k : Nat) : fadeTo r (k + 1) = upd (fadeTo r k) (iM k 2) (mx0 (fadeTo r k (iM k 2) - fadeK (fadeTo r k (iM k 0)))) := rfl
theorem daysS_s (r : Nat → Int32) (k : Nat) : daysS r (k + 1) = dayS (daysS r k) := rfl
theorem dayS_e (r : Nat → Int32) : dayS r = fadeTo (soakTo (upd r 2 (r 2 + nI 1)) 6) 6 := rfl
