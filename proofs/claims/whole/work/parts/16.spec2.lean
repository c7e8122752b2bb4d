/-! more of a churchyard -/
section AUX2
variable {V : Nat → List (Nat × Value) → List Value → List va_W → Prop} {pc : Nat} {lv : List (Nat × Value)} {st : List Value} {ws : List va_W}
theorem r_nm {x : Int32} (k : ∀ y : Int32, y = x → V pc lv (.int y :: st) ws) : V pc lv (.int x :: st) ws := k x rfl
theorem r_nmL {x : Int64} (k : ∀ y : Int64, y = x → V pc lv (.long y :: st) ws) : V pc lv (.long x :: st) ws := k x rfl
end AUX2
theorem yd_us {Γ : eG} {h : Nat} {a : Nat → Nat} (pre post : List va_W) (r : Nat → Int32) : weq (pre ++ [ydW Γ h a r] ++ post).flatten (pre ++ ydL Γ h a (nG r) (nM r) (r 2) (fun g => r (iG g 0)) (fun g => r (iG g 1)) (fun g => r (iG g 2)) (fun p => r (iM p 0)) (fun p => r (iM p 1)) (fun p => r (iM p 2)) (fun p => pl r p) ++ post).flatten := by
  rw [List.flatten_append, List.flatten_append, List.flatten_append, List.flatten_append, yd_uf]
  exact weq.rf
theorem yd_fs {Γ : eG} {h : Nat} {a : Nat → Nat} (pre post : List va_W) (r : Nat → Int32) : weq (pre ++ ydL Γ h a (nG r) (nM r) (r 2) (fun g => r (iG g 0)) (fun g => r (iG g 1)) (fun g => r (iG g 2)) (fun p => r (iM p 0)) (fun p => r (iM p 1)) (fun p => r (iM p 2)) (fun p => pl r p) ++ post).flatten (pre ++ [ydW Γ h a r] ++ post).flatten := by
  rw [List.flatten_append, List.flatten_append, List.flatten_append, List.flatten_append, yd_uf]
  exact weq.rf
def payS (r : Nat → Int32) : Int32 := sumTo (fun g => r (iG g 1) / nI 12) 5
def incS (r : Nat → Int32) : Int32 := sumTo (fun g => r (iG g 1)) 5
def grfS (r : Nat → Int32) : Int32 := sumTo (fun p => r (iM p 2)) 6
def dtfL (w dly nd : Int32) : Nat → Nat → Int32
  | 0, _ => -9
  | f + 1, n => if nd ≤ w + nI n * dly then nI n else dtfL w dly nd f (n + 1)
def dtfS (r : Nat → Int32) (g : Nat) : Int32 := if nI 999 < (r (iG g 1) / nI 12 + nI 1) * nI 12 ∨ ppl r (nI g) = 0 then -9 else dtfL (r (iG g 2)) (wat r (nI g)) (((r (iG g 1) / nI 12 + nI 1) * nI 12 - r (iG g 1)) * (r (iG g 0) + nI 1)) 99 1
def dryF (r : Nat → Int32) : Nat → Bool
  | 0 => true
  | k + 1 => dryF r k && decide (r (iM k 3) = -9 ∨ weepS r k ≤ 0)
def exLt (up : Bool) (x y : Int32) : Bool := if up then decide (x < y) else decide (y < x)
def exF (r : Nat → Int32) (up : Bool) : Nat → Int32
  | 0 => -9
  | k + 1 => if exF r up k = -9 ∨ exLt up (r (iG (ix (exF r up k)) 1)) (r (iG k 1)) = true then nI k else exF r up k
def wmF (r : Nat → Int32) : Nat → Int32
  | 0 => -9
  | k + 1 => if ¬ r (iM k 3) = -9 ∧ (wmF r k = -9 ∨ weepS r (ix (wmF r k)) < weepS r k) then nI k else wmF r k
def gwF (r : Nat → Int32) (x : Int32) : Nat → Int32
  | 0 => nI 0
  | k + 1 => if ppl r (nI k) = x then gwF r x k ||| (nI 1 <<< (nI k &&& 31)) else gwF r x k
def doF (r : Nat → Int32) : Nat → Int32
  | 0 => nI 0
  | k + 1 => if nI 12 ≤ r (iG k 1) then doF r k ||| (nI 1 <<< (nI k &&& 31)) else doF r k
theorem exF_cases (r : Nat → Int32) (up : Bool) : ∀ k, exF r up k = -9 ∨ ∃ j, j < k ∧ exF r up k = nI j
  | 0 => Or.inl rfl
  | k + 1 => by
    simp only [exF]
    split
    · exact Or.inr ⟨k, by omega, rfl⟩
    · rcases exF_cases r up k with h | ⟨j, hj, h⟩
      · exact Or.inl h
      · exact Or.inr ⟨j, by omega, h⟩
theorem wmF_cases (r : Nat → Int32) : ∀ k, wmF r k = -9 ∨ ∃ j, j < k ∧ wmF r k = nI j
  | 0 => Or.inl rfl
  | k + 1 => by
    simp only [wmF]
    split
    · exact Or.inr ⟨k, by omega, rfl⟩
    · rcases wmF_cases r k with h | ⟨j, hj, h⟩
      · exact Or.inl h
      · exact Or.inr ⟨j, by omega, h⟩
theorem dryF_f (r : Nat → Int32) {i : Nat} (h : dryF r (i + 1) = false) : ∀ k, i + 1 ≤ k → dryF r k = false
  | 0, hk => by omega
  | k + 1, hk => by
    by_cases e : k = i
    · subst e; exact h
    · have := dryF_f r h k (by omega)
      show (dryF r k && _) = false
      rw [this]; rfl
theorem exF_s {r : Nat → Int32} {up : Bool} {k : Nat} (h : exF r up k = -9 ∨ exLt up (r (iG (ix (exF r up k)) 1)) (r (iG k 1)) = true) : exF r up (k + 1) = nI k := if_pos h
theorem exF_n {r : Nat → Int32} {up : Bool} {k : Nat} (h : ¬ (exF r up k = -9 ∨ exLt up (r (iG (ix (exF r up k)) 1)) (r (iG k 1)) = true)) : exF r up (k + 1) = exF r up k := if_neg h
theorem wmF_s {r : Nat → Int32} {k : Nat} (h : ¬ r (iM k 3) = -9 ∧ (wmF r k = -9 ∨ weepS r (ix (wmF r k)) < weepS r k)) : wmF r (k + 1) = nI k := if_pos h
theorem wmF_n {r : Nat → Int32} {k : Nat} (h : ¬ (¬ r (iM k 3) = -9 ∧ (wmF r k = -9 ∨ weepS r (ix (wmF r k)) < weepS r k))) : wmF r (k + 1) = wmF r k := if_neg h
theorem gwF_s {r : Nat → Int32} {x : Int32} {k : Nat} (h : ppl r (nI k) = x) : gwF r x (k + 1) = gwF r x k ||| (nI 1 <<< (nI k &&& 31)) := if_pos h
theorem gwF_n {r : Nat → Int32} {x : Int32} {k : Nat} (h : ¬ ppl r (nI k) = x) : gwF r x (k + 1) = gwF r x k := if_neg h
theorem doF_s {r : Nat → Int32} {k : Nat} (h : nI 12 ≤ r (iG k 1)) : doF r (k + 1) = doF r k ||| (nI 1 <<< (nI k &&& 31)) := if_pos h
theorem doF_n {r : Nat → Int32} {k : Nat} (h : ¬ nI 12 ≤ r (iG k 1)) : doF r (k + 1) = doF r k := if_neg h
def cpF (f g : Nat → Int32) (i : Nat) : Nat → Int32 := fun j => if j < i then f j else g j
theorem cpF_0 {f g : Nat → Int32} : cpF f g 0 = g := by funext j; unfold cpF; rw [if_neg (by omega)]
theorem cpF_s {f g : Nat → Int32} {i : Nat} : upd (cpF f g i) i (f i) = cpF f g (i + 1) := by
  funext j
  unfold upd cpF
  by_cases h : j = i
  · rw [if_pos h, if_pos (by omega), h]
  · rw [if_neg h]
    by_cases h2 : j < i
    · rw [if_pos h2, if_pos (by omega)]
    · rw [if_neg h2, if_neg (by omega)]
theorem cpF_in {f g : Nat → Int32} {i j : Nat} (h : j < i) : cpF f g i j = f j := if_pos h
/-! fractions -/
def gcL : Nat → Int64 → Int64 → Int64
  | 0, a, _ => a
  | f + 1, a, b => if b = 0 then a else gcL f b (a - a / b * b)
theorem lN_0 : lN 0 = 0 := rfl
theorem lN_ne0 {n : Nat} (h0 : 0 < n) (h : n < 2 ^ 63) : ¬ lN n = 0 := by
  intro e
  rw [← lN_0, pk_lEQ h (by decide)] at e
  omega
theorem gcL_ok : ∀ (k f a b : Nat), a < 2 ^ 63 → b < 2 ^ k → k ≤ 63 → 2 * k + 1 ≤ f → gcL f (lN a) (lN b) = lN (Nat.gcd a b) := by
  intro k
  induction k with
  | zero =>
    intro f a b ha hb hk hf
    obtain ⟨f1, rfl⟩ : ∃ f1, f = f1 + 1 := ⟨f - 1, by omega⟩
    have : b = 0 := by omega
    subst this
    rw [Nat.gcd_zero_right]
    exact if_pos rfl
  | succ k ih =>
    intro f a b ha hb hk hf
    obtain ⟨f1, rfl⟩ : ∃ f1, f = f1 + 2 := ⟨f - 2, by omega⟩
    have hp : 2 ^ (k + 1) ≤ 2 ^ 63 := Nat.pow_le_pow_right (by decide) hk
    have hb63 : b < 2 ^ 63 := by omega
    show (if lN b = 0 then lN a else gcL (f1 + 1) (lN b) (lN a - lN a / lN b * lN b)) = _
    by_cases h0 : b = 0
    · subst h0
      rw [Nat.gcd_zero_right]
      exact if_pos rfl
    · rw [if_neg (lN_ne0 (by omega) hb63), pk_lRem ha (by omega) hb63]
      have hr : a % b < b := Nat.mod_lt _ (by omega)
      show (if lN (a % b) = 0 then lN b else gcL f1 (lN (a % b)) (lN b - lN b / lN (a % b) * lN (a % b))) = _
      by_cases h1 : a % b = 0
      · rw [h1]
        rw [if_pos lN_0, Nat.gcd_comm, Nat.gcd_rec, h1, Nat.gcd_zero_left]
      · rw [if_neg (lN_ne0 (by omega) (by omega)), pk_lRem hb63 (by omega) (by omega)]
        have hr2 : b % (a % b) < a % b := Nat.mod_lt _ (by omega)
        have hlt : b % (a % b) < 2 ^ k := by
          rw [Nat.pow_succ] at hb
          rcases Nat.lt_or_ge (a % b) (2 ^ k) with q | q
          · omega
          · have e : b % (a % b) = b - a % b := by
              rw [Nat.mod_eq_sub_mod (by omega), Nat.mod_eq_of_lt (by omega)]
            omega
        rw [ih f1 (a % b) (b % (a % b)) (by omega) hlt (by omega) (by omega)]
        congr 1
        rw [Nat.gcd_comm, ← Nat.gcd_rec, Nat.gcd_comm a b, Nat.gcd_rec b a]
/-- a fraction's part in least terms -/
def partS (a b : Nat) (part : Int32) : Int64 := if a = 0 ∨ b = 0 then (if part = 0 then lN 0 else lN 1) else (if part = 0 then lN (a / Nat.gcd a b) else lN (b / Nat.gcd a b))
theorem lg_le0 {a b : Nat} (ha : a < 2 ^ 63) (hb : b < 2 ^ 63) : (lg_cmp (lN a) (lN b) ≤ 0) ↔ a ≤ b := by rw [lg_cmp_le, pk_lLE ha hb]
theorem lg_gt0 {a b : Nat} (ha : a < 2 ^ 63) (hb : b < 2 ^ 63) : (0 < lg_cmp (lN a) (lN b)) ↔ b < a := by rw [lg_cmp_gt, pk_lLT hb ha]
theorem lg_eq0 {a b : Nat} (ha : a < 2 ^ 63) (hb : b < 2 ^ 63) : (lg_cmp (lN a) (lN b) = 0) ↔ a = b := by rw [lg_cmp_eq, pk_lEQ ha hb]
def powS (b : Nat) : Nat → Nat
  | 0 => 1
  | n + 1 => powS b n * b
theorem powS_e (b n : Nat) : powS b n = b ^ n := by
  induction n with
  | zero => rfl
  | succ n ih => rw [Nat.pow_succ, ← ih]; rfl
/-! the JDK's own -/
def bcF (x : Int32) : Int32 :=
  let a := x - (((x.toUInt32 >>> ((nI 1).toUInt32 &&& Int32.toUInt32 31)).toInt32) &&& 1431655765)
  let b := (a &&& 858993459) + (((a.toUInt32 >>> ((nI 2).toUInt32 &&& Int32.toUInt32 31)).toInt32) &&& 858993459)
  let c := (b + ((b.toUInt32 >>> ((nI 4).toUInt32 &&& Int32.toUInt32 31)).toInt32)) &&& 252645135
  let d := c + ((c.toUInt32 >>> ((nI 8).toUInt32 &&& Int32.toUInt32 31)).toInt32)
  let e := d + ((d.toUInt32 >>> ((nI 16).toUInt32 &&& Int32.toUInt32 31)).toInt32)
  e &&& nI 63
def pop6 (n : Nat) : Nat := n % 2 + n / 2 % 2 + n / 4 % 2 + n / 8 % 2 + n / 16 % 2 + n / 32 % 2 + n / 64 % 2
theorem bcF_ok : ∀ n, n < 128 → bcF (nI n) = nI (pop6 n) := by decide +kernel
theorem nx_xorI (a b : Nat) : nI a ^^^ nI b = nI (a ^^^ b) := by
  show Int32.ofNat a ^^^ Int32.ofNat b = Int32.ofNat (a ^^^ b)
  apply Int32.toBitVec_inj.mp
  apply BitVec.eq_of_toNat_eq
  simp [Int32.toBitVec_xor, Nat.xor_mod_two_pow]
theorem yd_uu {Γ : eG} {h h2 : Nat} {a a2 : Nat → Nat} (r q : Nat → Int32) : weq [ydW Γ h a r, ydW Γ h2 a2 q].flatten (ydL Γ h a (nG r) (nM r) (r 2) (fun g => r (iG g 0)) (fun g => r (iG g 1)) (fun g => r (iG g 2)) (fun p => r (iM p 0)) (fun p => r (iM p 1)) (fun p => r (iM p 2)) (fun p => pl r p) ++ ydL Γ h2 a2 (nG q) (nM q) (q 2) (fun g => q (iG g 0)) (fun g => q (iG g 1)) (fun g => q (iG g 2)) (fun p => q (iM p 0)) (fun p => q (iM p 1)) (fun p => q (iM p 2)) (fun p => pl q p)).flatten := by
  rw [List.flatten_append, ← yd_uf, ← yd_uf, ← List.flatten_append]
  exact weq.rf
theorem yd_bec {Γ : eG} {h h2 : Nat} {a a2 : Nat → Nat} {r q : Nat → Int32} : weq (ydL Γ h a (nG q) (nM q) (q 2) (cpF (fun g => q (iG g 0)) (fun g => r (iG g 0)) 5) (cpF (fun g => q (iG g 1)) (fun g => r (iG g 1)) 5) (cpF (fun g => q (iG g 2)) (fun g => r (iG g 2)) 5) (cpF (fun p => q (iM p 0)) (fun p => r (iM p 0)) 6) (cpF (fun p => q (iM p 1)) (fun p => r (iM p 1)) 6) (cpF (fun p => q (iM p 2)) (fun p => r (iM p 2)) 6) (cpF (fun p => pl q p) (fun p => pl r p) 6) ++ ydL Γ h2 a2 (nG q) (nM q) (q 2) (fun g => q (iG g 0)) (fun g => q (iG g 1)) (fun g => q (iG g 2)) (fun p => q (iM p 0)) (fun p => q (iM p 1)) (fun p => q (iM p 2)) (fun p => pl q p)).flatten [ydW Γ h a q, ydW Γ h2 a2 q].flatten := by
  have e : [ydW Γ h a q, ydW Γ h2 a2 q].flatten = [ydW Γ h a q].flatten ++ [ydW Γ h2 a2 q].flatten := by simp
  rw [e, List.flatten_append, ← yd_uf]
  refine weq.app ?_ weq.rf
  rw [fl1]
  exact yd_of rfl rfl rfl (fun i hi => cpF_in hi) (fun i hi => cpF_in hi) (fun i hi => cpF_in hi) (fun i hi => cpF_in hi) (fun i hi => cpF_in hi) (fun i hi => cpF_in hi) (fun i hi => cpF_in hi)
