/-! more pure rows of what is thought -/
def fade6 (r : Nat → Int32) : Nat → Int32 := fadeTo r 6
def fdS (r : Nat → Int32) : Nat → Nat → Int32
  | 0 => r
  | k + 1 => fade6 (fdS r k)
def iodF (r : Nat → Int32) (g s : Nat) (w : Nat → Int32) : Nat → Nat → Int32
  | 0 => r
  | k + 1 => if hasB s k = true then soakS (iodF r g s w k) g (w k) else iodF r g s w k
def dwS (r : Nat → Int32) (g : Nat) : Nat → Int32 := fun j => wat (fdS r j) (nI g)
def iodS (r : Nat → Int32) (g s n : Nat) (w : Nat → Int32) : Int32 := if ppl r (nI g) = 0 then nI 0 else iodF r g s w n (iG g 1) - r (iG g 1)
def wyF (r : Nat → Int32) (g n t : Nat) (v : Int32) : Nat → Nat
  | 0 => 0
  | s + 1 => wyF r g n t v s + (if v ≤ iodS r g s n (dwS r g) then powS (t - 1) (pop6 s) else 0)
theorem has_sh2 {s k : Nat} (hs : s < 2 ^ 31) (hk : k < 32) : nI s >>> (nI k &&& 31) = nI (s / 2 ^ k) := by
  have e : ∀ k, k < 32 → ((nI k &&& 31).toBitVec.smod 32).toNat = k := by decide +kernel
  exact pk_shrN (by omega) _ k (e k hk)
theorem fdS_s (r : Nat → Int32) (k : Nat) : fdS r (k + 1) = fade6 (fdS r k) := rfl
theorem fade6_nM {r : Nat → Int32} : nM (fade6 r) = nM r := fadeTo_nM 6
theorem fade6_nG {r : Nat → Int32} : nG (fade6 r) = nG r := fadeTo_nG 6
theorem Inv_fade6 {r : Nat → Int32} (h : Inv r) : Inv (fade6 r) := Inv_fadeTo h 6 (Nat.le_refl 6)
theorem Inv_fdS {r : Nat → Int32} (h : Inv r) : ∀ k, Inv (fdS r k)
  | 0 => h
  | k + 1 => Inv_fade6 (Inv_fdS h k)
theorem fdS_nG {r : Nat → Int32} : ∀ k, nG (fdS r k) = nG r
  | 0 => rfl
  | k + 1 => by rw [fdS_s, fade6_nG]; exact fdS_nG k
theorem sumTo_ok {f : Nat → Int32} {b : Nat} : ∀ {n : Nat}, (∀ k, k < n → ∃ j, j ≤ b ∧ f k = nI j) → ∃ j, j ≤ n * b ∧ sumTo f n = nI j
  | 0, _ => ⟨0, by omega, rfl⟩
  | n + 1, h => by
    obtain ⟨j, hj, e⟩ := sumTo_ok (n := n) (fun k hk => h k (by omega))
    obtain ⟨i, hi, e2⟩ := h n (by omega)
    refine ⟨j + i, by rw [Nat.succ_mul]; omega, ?_⟩
    show sumTo f n + f n = _
    rw [e, e2, nI_add]
theorem wat_ok {r : Nat → Int32} (h : Inv r) (x : Int32) : ∃ n, n ≤ 72 ∧ wat r x = nI n := by
  refine sumTo_ok (b := 12) (n := 6) fun k hk => ?_
  show ∃ j, j ≤ 12 ∧ (if pl r k = x then weepS r k else nI 0) = nI j
  split
  · exact weepS_ok h hk
  · exact ⟨0, by omega, rfl⟩
theorem ppl_ok {r : Nat → Int32} (x : Int32) : ∃ n, n ≤ 6 ∧ ppl r x = nI n := by
  refine sumTo_ok (b := 1) (n := 6) fun k hk => ?_
  show ∃ j, j ≤ 1 ∧ (if pl r k = x then nI 1 else nI 0) = nI j
  split
  · exact ⟨1, by omega, rfl⟩
  · exact ⟨0, by omega, rfl⟩
theorem iodF_s (r : Nat → Int32) (g s : Nat) (w : Nat → Int32) (k : Nat) : iodF r g s w (k + 1) = if hasB s k = true then soakS (iodF r g s w k) g (w k) else iodF r g s w k := rfl
theorem iodF_nG {r : Nat → Int32} {g s : Nat} {w : Nat → Int32} : ∀ k, nG (iodF r g s w k) = nG r
  | 0 => rfl
  | k + 1 => by
    rw [iodF_s]
    split
    · rw [soak_nG]; exact iodF_nG k
    · exact iodF_nG k
theorem Inv_iodF {r : Nat → Int32} (h : Inv r) {g s : Nat} (hg : g < nG r) {w : Nat → Int32} : ∀ k, (∀ j, j < k → ∃ n, n ≤ 72 ∧ w j = nI n) → Inv (iodF r g s w k)
  | 0, _ => h
  | k + 1, hw => by
    rw [iodF_s]
    have ih := Inv_iodF h hg (s := s) k (fun j hj => hw j (by omega))
    split
    · obtain ⟨n, hn, e⟩ := hw k (by omega)
      exact Inv_soakS ih (by rw [iodF_nG]; exact hg) (k := n) (by omega) e
    · exact ih
theorem dwS_ok {r : Nat → Int32} (h : Inv r) (g : Nat) : ∀ k, ∃ n, n ≤ 72 ∧ dwS r g k = nI n := fun k => wat_ok (Inv_fdS h k) _
theorem iodF_cong {r : Nat → Int32} {g s : Nat} {w w2 : Nat → Int32} : ∀ k, (∀ j, j < k → w j = w2 j) → iodF r g s w k = iodF r g s w2 k
  | 0, _ => rfl
  | k + 1, h => by
    rw [iodF_s, iodF_s, iodF_cong k (fun j hj => h j (by omega)), h k (by omega)]
theorem wyF_s (r : Nat → Int32) (g n t : Nat) (v : Int32) (s : Nat) : wyF r g n t v (s + 1) = wyF r g n t v s + (if v ≤ iodS r g s n (dwS r g) then powS (t - 1) (pop6 s) else 0) := rfl
theorem mx1 {m : Nat} (h0 : 0 < m) (h : m < 2 ^ 31) : (if nI 1 < nI m then nI m else nI 1) = nI m := by
  by_cases q : nI 1 < nI m
  · rw [if_pos q]
  · rw [if_neg q]
    rw [nI_ltI (by decide) h] at q
    rw [show m = 1 by omega]
theorem and31 (z : Int32) : ∃ j, j < 2 ^ 31 ∧ z &&& 2147483647 = nI j := by
  obtain ⟨j, hj, e⟩ := pk_andE z (m := 2147483647) 31 (by decide)
  exact ⟨j, hj, e⟩
theorem dvS_ok (z : Int32) {m : Nat} (h0 : 0 < m) (hm : m < 2 ^ 31) : ∃ j, j < m ∧ dvS z m = nI j := by
  obtain ⟨j, hj, e⟩ := and31 z
  unfold dvS
  rw [e, pk_div hj (by decide) (by decide), pk_rem (by omega) h0 hm]
  exact ⟨_, Nat.mod_lt _ h0, rfl⟩
theorem dcF_s (r : Nat → Int32) (z : Int32) (k : Nat) : dcF r z (k + 1) = (upd (upd (dcF r z k).1 (iM k 3) (dvS (sdN (dcF r z k).2) (nG r))) (iM k 2) (dvS (sdN (sdN (dcF r z k).2)) 100), sdN (sdN (dcF r z k).2)) := rfl
theorem dcF_nM {r : Nat → Int32} {z : Int32} : ∀ k, nM (dcF r z k).1 = nM r
  | 0 => rfl
  | k + 1 => by rw [dcF_s]; show nM (upd (upd _ _ _) _ _) = _; rw [nM_M, nM_M]; exact dcF_nM k
theorem dcF_nG {r : Nat → Int32} {z : Int32} : ∀ k, nG (dcF r z k).1 = nG r
  | 0 => rfl
  | k + 1 => by rw [dcF_s]; show nG (upd (upd _ _ _) _ _) = _; rw [nG_M, nG_M]; exact dcF_nG k
theorem Inv_dcF {r : Nat → Int32} (h : Inv r) (h0 : 0 < nG r) {z : Int32} : ∀ k, k ≤ nM r → Inv (dcF r z k).1
  | 0, _ => h
  | k + 1, hk => by
    have ih := Inv_dcF h h0 (z := z) k (by omega)
    have h5 := h.g
    rw [dcF_s]
    obtain ⟨j, hj, e⟩ := dvS_ok (sdN (dcF r z k).2) h0 (by omega)
    obtain ⟨i, hi, e2⟩ := dvS_ok (sdN (sdN (dcF r z k).2)) (m := 100) (by decide) (by decide)
    show Inv (upd (upd _ _ _) _ _)
    rw [e, e2]
    exact Inv_grief (Inv_at ih (Or.inr ⟨j, by rw [dcF_nG]; exact hj, rfl⟩)) (by omega) (by rw [nM_M, dcF_nM]; omega)
theorem ltF_s (r : Nat → Int32) (pay : Bool) (z : Int32) (k : Nat) : ltF r pay z (k + 1) = ((ltF r pay z k).1 + (if pay = true then payS (daysS (dcF r (ltF r pay z k).2 (nM r)).1 10) else incS (daysS (dcF r (ltF r pay z k).2 (nM r)).1 10) - incS r), (dcF r (ltF r pay z k).2 (nM r)).2) := rfl
theorem yd_yx {Γ : eG} {h : Nat} {a : Nat → Nat} (pre post : List va_W) (r : Nat → Int32) : weq (pre ++ [ydW Γ h a r] ++ post).flatten (pre ++ [ydX Γ h a r (fun p => pl r p)] ++ post).flatten := by
  rw [List.flatten_append, List.flatten_append, List.flatten_append, List.flatten_append, fl1, fl1]
  exact weq.rf
theorem Inv.pl3 {r : Nat → Int32} (h : Inv r) {p : Nat} (hp : p < nM r) : r (iM p 3) = -9 ∨ ∃ g, g < nG r ∧ r (iM p 3) = nI g := h.2.2.2.2 p hp
theorem pop6_7 {s : Nat} : pop6 s ≤ 7 := by unfold pop6; omega
theorem pow7 {k : Nat} (h : k ≤ 7) : 2 ^ k ≤ 128 := Nat.le_trans (Nat.pow_le_pow_right (by decide) h) (by decide)
