/-! THE SEATING: sets of mourners, grave by grave -/
def wpS (r : Nat → Int32) (s : Nat) : Nat → Int32
  | 0 => nI 0
  | m + 1 => if hasB s m = true then wpS r s m + weepS r m else wpS r s m
def dpS (s : Nat) : Nat → Nat
  | 0 => 0
  | m + 1 => if hasB s m = true then dpS s m + dgN m else dpS s m
def subB (h s : Nat) : Bool := decide (nI h &&& (nI s ^^^ (-1)) = 0)
def hereS (r : Nat → Int32) (g h : Nat) : Int32 := (r (iG g 2) + wpS r h 6) / (r (iG g 0) + nI 1) * nI 15625 - nI g * nI (dpS h 6)
def bwL (r : Nat → Int32) (g : Nat) (W : Nat → Int32) (s : Nat) : Nat → Int32
  | 0 => W s
  | k + 1 => if subB (k + 1) s = true then (if bwL r g W s k < W (s - (k + 1)) + hereS r g (k + 1) then W (s - (k + 1)) + hereS r g (k + 1) else bwL r g W s k) else bwL r g W s k
def wtS (r : Nat → Int32) : Nat → Nat → Int32
  | 0 => fun j => if j = 0 then nI 0 else -1000000000
  | g + 1 => fun j => bwL r g (wtS r g) j j
def bestS (r : Nat → Int32) : Int32 := wtS r (nG r) (2 ^ nM r - 1)
theorem hasB_lt {s k n : Nat} (h : hasB s k = true) (hs : s < 2 ^ n) : k < n := by
  have h1 := of_decide_eq_true h
  refine Nat.not_le.mp (fun hn => ?_)
  have := Nat.pow_le_pow_right (show 0 < 2 by decide) hn
  rw [Nat.div_eq_of_lt (by omega)] at h1
  exact absurd h1 (by decide)
theorem wpS_t {r : Nat → Int32} {s m : Nat} (h : hasB s m = true) : wpS r s (m + 1) = wpS r s m + weepS r m := if_pos h
theorem wpS_n {r : Nat → Int32} {s m : Nat} (h : ¬ hasB s m = true) : wpS r s (m + 1) = wpS r s m := if_neg h
theorem dpS_t {s m : Nat} (h : hasB s m = true) : dpS s (m + 1) = dpS s m + dgN m := if_pos h
theorem dpS_n {s m : Nat} (h : ¬ hasB s m = true) : dpS s (m + 1) = dpS s m := if_neg h
theorem bwL_t {r W : Nat → Int32} {g s k : Nat} (h : subB (k + 1) s = true) : bwL r g W s (k + 1) = if bwL r g W s k < W (s - (k + 1)) + hereS r g (k + 1) then W (s - (k + 1)) + hereS r g (k + 1) else bwL r g W s k := if_pos h
theorem bwL_n {r W : Nat → Int32} {g s k : Nat} (h : ¬ subB (k + 1) s = true) : bwL r g W s (k + 1) = bwL r g W s k := if_neg h
theorem bwL_cong {r W W2 : Nat → Int32} {g s : Nat} (h : ∀ j, j ≤ s → W j = W2 j) : ∀ k, bwL r g W s k = bwL r g W2 s k
  | 0 => h s (Nat.le_refl s)
  | k + 1 => by
    unfold bwL
    rw [bwL_cong h k, h (s - (k + 1)) (Nat.sub_le _ _)]
theorem wtS_s (r : Nat → Int32) (g j : Nat) : wtS r (g + 1) j = bwL r g (wtS r g) j j := rfl
theorem wtS_0 {r : Nat → Int32} {j : Nat} (h : j = 0) : wtS r 0 j = nI 0 := if_pos h
theorem wtS_1 {r : Nat → Int32} {j : Nat} (h : ¬ j = 0) : wtS r 0 j = -1000000000 := if_neg h
theorem upd_upd {f : Nat → Int32} {k : Nat} {x y : Int32} : upd (upd f k x) k y = upd f k y := by
  funext j
  unfold upd
  by_cases h : j = k
  · rw [if_pos h, if_pos h]
  · rw [if_neg h, if_neg h, if_neg h]
theorem cpF_out {f g : Nat → Int32} {i j : Nat} (h : ¬ j < i) : cpF f g i j = g j := if_neg h
theorem dn_neg {e : Nat} (he : e < 2 ^ 30) (h : nI e - nI 1 < 0) : e = 0 := by
  refine Nat.eq_zero_of_not_pos (fun z => ?_)
  rw [pk_sub (by omega)] at h
  exact nI_pos (by omega) h
theorem dn_pos {e : Nat} (h : ¬ nI e - nI 1 < 0) : 1 ≤ e := by
  refine Nat.pos_of_ne_zero (fun z => h ?_)
  subst z
  exact pk_sneg (by decide) (by decide)
theorem dn_s (e : Nat) : nI (e + 1) - nI 1 = nI e := pk_sub (by omega)
theorem dn_m (e : Nat) : nI e + (-1) = nI e - nI 1 := by
  rw [show nI 1 = (1 : Int32) from rfl, Int32.sub_eq_add_neg]
theorem mn64 {n : Nat} (h : n ≤ 6) : (if nI (2 ^ n) < nI 64 then nI (2 ^ n) else nI 64) = nI (2 ^ n) := by
  have := pow6 h
  by_cases q : nI (2 ^ n) < nI 64
  · rw [if_pos q]
  · rw [if_neg q]
    rw [nI_ltI (by omega) (by decide)] at q
    rw [show 2 ^ n = 64 by omega]
/-- the rows of what a set weeps: a step -/
theorem cpF_d {f g : Nat → Int32} {e : Nat} : upd (cpF f g (e + 1)) e (g e) = cpF f g e := by
  funext j
  unfold upd cpF
  by_cases h : j = e
  · subst h; rw [if_pos rfl, if_neg (Nat.lt_irrefl _)]
  · rw [if_neg h]
    by_cases q : j < e
    · rw [if_pos q, if_pos (by omega)]
    · rw [if_neg q, if_neg (by omega)]
theorem cpF_up {f g : Nat → Int32} {n e : Nat} {x : Int32} (h : e < n) : upd (cpF f g n) e x = cpF (upd f e x) g n := by
  funext j
  unfold upd cpF
  by_cases q : j = e
  · subst q; rw [if_pos rfl, if_pos h]; exact (if_pos rfl).symm
  · rw [if_neg q]
    by_cases z : j < n
    · rw [if_pos z, if_pos z]; exact (if_neg q).symm
    · rw [if_neg z, if_neg z]
theorem dgN_ok {m : Nat} (h : m < 6) : 0 < dgN m ∧ dgN m ≤ 3125 := by
  have : m = 0 ∨ m = 1 ∨ m = 2 ∨ m = 3 ∨ m = 4 ∨ m = 5 := by omega
  rcases this with rfl | rfl | rfl | rfl | rfl | rfl <;> decide
