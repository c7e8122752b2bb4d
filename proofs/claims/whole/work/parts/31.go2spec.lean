/-! more of the answers -/
def aSeat (r : Nat → Int32) (x : Int32) (sx sc : Nat) : Int32 := if nG r = 0 then (if x = -1 then nI 0 else -9) else if x = -1 then nI (sx / 15625) else nI (sc / dgN (ix x) % 5)
def aLots (r : Nat → Int32) (n z w : Int32) : Int32 := (ltF r (decide (w = nI 0)) z (ix n)).1
theorem exF_ne {r : Nat → Int32} {up : Bool} {k : Nat} (hk : 0 < k ∧ k ≤ 5) : ¬ exF r up k = -9 := by
  obtain ⟨k, rfl⟩ : ∃ q, k = q + 1 := ⟨k - 1, by omega⟩
  by_cases c : exF r up k = -9 ∨ exLt up (r (iG (ix (exF r up k)) 1)) (r (iG k 1)) = true
  · rw [exF_s c]; exact nI_n9 (by omega)
  · rw [exF_n c]; exact fun z => c (Or.inl z)
theorem powS_le {b n : Nat} (hb : b ≤ 20) : powS b n ≤ 20 ^ n := by
  rw [powS_e]
  exact Nat.pow_le_pow_left hb n
theorem powS_lt {b n : Nat} (hb : b ≤ 20) (hn : n ≤ 7) : powS b n < 2 ^ 63 := by
  have h1 := powS_le (n := n) hb
  have h2 := Nat.pow_le_pow_right (show 0 < 20 by decide) hn
  exact Nat.lt_of_le_of_lt (Nat.le_trans h1 h2) (by decide)
theorem wyF_le {r : Nat → Int32} {g n t : Nat} {v : Int32} (ht : t ≤ 20) : ∀ s, wyF r g n t v s ≤ s * 1280000000
  | 0 => by show 0 ≤ _; omega
  | s + 1 => by
    have ih := wyF_le (r := r) (g := g) (n := n) (t := t) (v := v) ht s
    have h4 : powS (t - 1) (pop6 s) ≤ 1280000000 := Nat.le_trans (powS_le (b := t - 1) (n := pop6 s) (Nat.le_trans (Nat.sub_le _ _) ht)) (Nat.le_trans (Nat.pow_le_pow_right (show 0 < 20 by decide) (pop6_7 (s := s))) (Nat.le_of_ble_eq_true rfl))
    rw [Nat.succ_mul]
    rw [wyF_s]
    split
    · exact Nat.add_le_add ih h4
    · exact Nat.le_trans ih (Nat.le_add_right _ _)
theorem wyF_lt {r : Nat → Int32} {g n t : Nat} {v : Int32} (ht : t ≤ 20) (hn : n ≤ 7) : wyF r g n t v (2 ^ n) < 2 ^ 63 := by
  have h1 := wyF_le (r := r) (g := g) (n := n) (v := v) ht (2 ^ n)
  have h2 := pow7 hn
  have h3 : 2 ^ n * 1280000000 ≤ 128 * 1280000000 := Nat.mul_le_mul_right _ h2
  exact Nat.lt_of_le_of_lt (Nat.le_trans h1 h3) (by decide)
theorem incS_ok {r : Nat → Int32} (h : Inv r) : ∃ n, n ≤ 4995 ∧ incS r = nI n := by
  obtain ⟨n, hn, e⟩ := sumTo_ok (f := fun g => r (iG g 1)) (b := 999) (n := 5) (fun k hk => ⟨ix (r (iG k 1)), (h.2.2.1 k hk).2.1.2, (h.2.2.1 k hk).2.1.1⟩)
  exact ⟨n, by omega, e⟩
theorem aCount_d {r rf : Nat → Int32} {rm lm : Nat} {w : Int32} (hb : isInB w (nI 11) (nI 16) = false) (h : ∀ v : Nat, 0 ≤ v → v ≤ 7 → v < 2 ^ 31 → ¬ w = nI v) : aCount r rf rm lm w = -9 := by
  unfold aCount
  rw [if_neg (nt hb), if_neg (h 0 (by decide) (by decide) (by decide)), if_neg (h 1 (by decide) (by decide) (by decide)), if_neg (h 2 (by decide) (by decide) (by decide)), if_neg (h 3 (by decide) (by decide) (by decide)), if_neg (h 4 (by decide) (by decide) (by decide)), if_neg (h 5 (by decide) (by decide) (by decide)), if_neg (h 6 (by decide) (by decide) (by decide)), if_neg (h 7 (by decide) (by decide) (by decide))]
