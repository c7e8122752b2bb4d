/-! the reference's object: pure rows -/
def bitsT (s : Nat) : Nat → Nat
  | 0 => 0
  | k + 1 => bitsT s k + s / 2 ^ k % 2
theorem bitsT_6 {s : Nat} (hs : s < 64) : bitsT s 6 = pop6 s := by
  have e : ∀ s, s < 64 → bitsT s 6 = pop6 s := by decide +kernel
  exact e s hs
def dtW (r : Nat → Int32) (g : Nat) : Int32 := (r (iG g 1) / nI 12 + nI 1) * nI 12
def dtP (r : Nat → Int32) (g : Nat) (q : Nat → Int32) : Nat → Nat → Int32
  | 0 => q
  | p + 1 => if r (iM p 3) = nI g then soakS (dtP r g q p) g (weepS r p) else dtP r g q p
def dtD (r : Nat → Int32) (g : Nat) : Nat → Nat → Int32
  | 0 => r
  | n + 1 => dtP r g (dtD r g n) (nM r)
def dtL (r : Nat → Int32) (g : Nat) : Nat → Nat → Int32
  | 0, _ => -9
  | f + 1, n => if dtW r g ≤ dtD r g n (iG g 1) then nI n else dtL r g f (n + 1)
def dtfR (r : Nat → Int32) (g : Nat) : Int32 := if nI 999 < dtW r g ∨ ppl r (nI g) = 0 then -9 else dtL r g 99 1
theorem dtfR_9 {r : Nat → Int32} {g : Nat} (h : nI 999 < dtW r g ∨ ppl r (nI g) = 0) : dtfR r g = -9 := if_pos h
theorem dtfR_n {r : Nat → Int32} {g : Nat} (h : ¬ nI 999 < dtW r g) (h2 : ¬ ppl r (nI g) = 0) : dtfR r g = dtL r g 99 1 := if_neg (fun z => z.elim h h2)
theorem dtL_t {r : Nat → Int32} {g f n : Nat} (h : dtW r g ≤ dtD r g n (iG g 1)) : dtL r g (f + 1) n = nI n := if_pos h
theorem dtL_n {r : Nat → Int32} {g f n : Nat} (h : ¬ dtW r g ≤ dtD r g n (iG g 1)) : dtL r g (f + 1) n = dtL r g f (n + 1) := if_neg h
theorem dtP_t {r q : Nat → Int32} {g p : Nat} (h : r (iM p 3) = nI g) : dtP r g q (p + 1) = soakS (dtP r g q p) g (weepS r p) := if_pos h
theorem dtP_n {r q : Nat → Int32} {g p : Nat} (h : ¬ r (iM p 3) = nI g) : dtP r g q (p + 1) = dtP r g q p := if_neg h
theorem dtD_s {r : Nat → Int32} {g n : Nat} (h : 1 ≤ n) : dtP r g (dtD r g (n - 1)) (nM r) = dtD r g n := by
  obtain ⟨m, rfl⟩ : ∃ m, n = m + 1 := ⟨n - 1, by omega⟩
  rfl
theorem soak_h {r : Nat → Int32} {g : Nat} {w : Int32} : soakS r g w (iG g 0) = r (iG g 0) := by
  unfold soakS
  rw [upd_n (by unfold iG; omega), upd_n (by unfold iG; omega)]
theorem dtP_h {r q : Nat → Int32} {g : Nat} : ∀ p, dtP r g q p (iG g 0) = q (iG g 0)
  | 0 => rfl
  | p + 1 => by
    by_cases h : r (iM p 3) = nI g
    · rw [dtP_t h, soak_h]; exact dtP_h p
    · rw [dtP_n h]; exact dtP_h p
theorem dtD_h {r : Nat → Int32} {g : Nat} : ∀ n, dtD r g n (iG g 0) = r (iG g 0)
  | 0 => rfl
  | n + 1 => by
    show dtP r g (dtD r g n) (nM r) (iG g 0) = _
    rw [dtP_h]; exact dtD_h n
