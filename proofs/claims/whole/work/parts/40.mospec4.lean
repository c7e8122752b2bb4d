theorem partS_0 {x y p : Nat} (h : x = 0) (hp : p ≤ 1) : partS x y (nI p) = (nI p).toInt64 := by
  have : p = 0 ∨ p = 1 := by omega
  unfold partS
  rw [if_pos (Or.inl h)]
  rcases this with rfl | rfl <;> decide
theorem partS_n {x y : Nat} {p : Int32} (hx : 0 < x) (hy : 0 < y) (hp : ¬ p = 0) : partS x y p = lN (y / Nat.gcd x y) := by
  unfold partS
  rw [if_neg (by omega), if_neg hp]
theorem partS_p {x y : Nat} {p : Int32} (hx : 0 < x) (hy : 0 < y) (hp : p = 0) : partS x y p = lN (x / Nat.gcd x y) := by
  unfold partS
  rw [if_neg (by omega), if_pos hp]
theorem Inv_kf {r : Nat → Int32} (hI : Inv r) {p w k : Nat} (hw : w ≤ 1) (h0 : w = 0 → k < 6) (h1 : k < 10) : Inv (upd r (iM p w) (nI k)) := by
  have : w = 0 ∨ w = 1 := by omega
  rcases this with rfl | rfl
  · exact Inv_onion hI (by have := h0 rfl; omega)
  · exact Inv_fig hI (by omega)
