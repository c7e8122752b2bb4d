/-! WINTERS: the rain's sets and those of the sun -/
theorem soakTo_pl {q : Nat → Int32} (hI : Inv q) : ∀ k, k ≤ 6 → ∀ p w, soakTo q k (iM p w) = q (iM p w)
  | 0, _, _, _ => rfl
  | k + 1, hk, p, w => by
    have h5 := hI.g
    have ih := soakTo_pl hI k (by omega)
    have epl : pl (soakTo q k) k = pl q k := by unfold pl; rw [soakTo_nM, ih]
    rw [soakTo_s, epl]
    rcases hI.at k with z | ⟨g, hg, z⟩
    · rw [z, soakX_9]; exact ih p w
    · rw [z, soakX_N (by omega)]
      unfold soakS
      rw [upd_n (fun y => iG_iM (by omega) (by decide) y.symm), upd_n (fun y => iG_iM (by omega) (by decide) y.symm)]
      exact ih p w
theorem weepS_of {q r : Nat → Int32} {p : Nat} (h0 : q (iM p 0) = r (iM p 0)) (h1 : q (iM p 1) = r (iM p 1)) (h2 : q (iM p 2) = r (iM p 2)) : weepS q p = weepS r p := by
  unfold weepS
  rw [h0, h1, h2]
theorem soSt_o {d w h g j : Nat} {q : Nat → Int32} {W : Nat} {b : Bool} {x : Int32} (hs : soSt d w h g q W b) (hj : ¬ g = j) : soSt d w h g (soakS q j x) W b := by
  have e : ∀ v, v < 3 → soakS q j x (iG g v) = q (iG g v) := by
    intro v hv
    unfold soakS
    rw [upd_n (fun z => hj ((iG_inj hv (by decide)).mp z).1), upd_n (fun z => hj ((iG_inj hv (by decide)).mp z).1)]
  obtain ⟨h0, h1⟩ := hs
  unfold soSt
  rw [e 0 (by decide), e 1 (by decide), e 2 (by decide)]
  exact ⟨h0, h1⟩
theorem soSt_c {d w h g : Nat} {q q2 : Nat → Int32} {W : Nat} {b : Bool} (hs : soSt d w h g q W b) (e : ∀ v, v < 3 → q2 (iG g v) = q (iG g v)) : soSt d w h g q2 W b := by
  unfold soSt at hs ⊢
  rw [e 0 (by decide), e 1 (by decide), e 2 (by decide)]
  exact hs
theorem soSt_T {q : Nat → Int32} (hI : Inv q) {d w h g : Nat} {W : Nat} {b : Bool} (hs : soSt d w h g q W b) (hg : g < 5) (hd : d ≤ 999) (hw : w ≤ 9) (hh : h ≤ 9) (hW : W ≤ 900000) : ∀ k, k ≤ nM q → soSt d w h g (soakTo q k) (W + wsN q g k) (b || anB q g k)
  | 0, _ => by
    show soSt d w h g q (W + 0) (b || false)
    rw [Bool.or_false]; exact hs
  | k + 1, hk => by
    have h6 := hI.m
    have h5 := hI.g
    have ih := soSt_T hI hs hg hd hw hh hW k (by omega)
    have hle := wsN_le hI (g := g) k (by omega)
    obtain ⟨n, hn, e⟩ := weepS_ok hI (p := k) (by omega)
    have em := soakTo_pl hI k (by omega)
    have epl : pl (soakTo q k) k = q (iM k 3) := by unfold pl; rw [soakTo_nM, em, if_pos (by omega)]
    have ew : weepK (soakTo q k (iM k 0)) (soakTo q k (iM k 1)) (soakTo q k (iM k 2)) = weepS q k := weepS_of (em _ _) (em _ _) (em _ _)
    rw [soakTo_s, epl, ew]
    show soSt d w h g _ (W + (wsN q g k + (if q (iM k 3) = nI g then ix (weepS q k) else 0))) (b || (anB q g k || decide (q (iM k 3) = nI g)))
    rcases hI.pl3 (p := k) (by omega) with z | ⟨j, hj, z⟩
    · rw [z, soakX_9, if_neg (fun y => nI_n9 (by omega) y.symm), decide_eq_false (fun y => nI_n9 (by omega) y.symm), Bool.or_false, Nat.add_zero]
      exact ih
    · rw [z, soakX_N (by omega)]
      by_cases c : j = g
      · subst c
        rw [if_pos rfl, decide_eq_true rfl, Bool.or_true, Bool.or_true, e, ix_nI (by omega), ← Nat.add_assoc]
        exact soSt_s ih hd hw hh (by omega) (by omega)
      · have c2 : ¬ nI j = nI g := fun y => c ((nI_eq (by omega) (by omega)).mp y)
        rw [if_neg c2, decide_eq_false c2, Bool.or_false, Nat.add_zero]
        exact soSt_o ih (fun y => c y.symm)
theorem fade_g {q : Nat → Int32} {g v : Nat} (hg : g < 5) (hv : v < 3) : ∀ k, fadeTo q k (iG g v) = q (iG g v)
  | 0 => rfl
  | k + 1 => by rw [fadeTo_s, uMG hg hv]; exact fade_g hg hv k
theorem fade_m {q : Nat → Int32} {p w : Nat} (hw : w < 4) (h2 : ¬ w = 2) : ∀ k, fadeTo q k (iM p w) = q (iM p w)
  | 0 => rfl
  | k + 1 => by rw [fadeTo_s, upd_n (fun z => h2 ((iM_inj hw (by decide)).mp z).2)]; exact fade_m hw h2 k
theorem fade_2 {q : Nat → Int32} {p : Nat} : ∀ k, fadeTo q k (iM p 2) = if p < k then mx0 (q (iM p 2) - fadeK (q (iM p 0))) else q (iM p 2)
  | 0 => by rw [if_neg (by omega)]; rfl
  | k + 1 => by
    rw [fadeTo_s]
    by_cases c : p = k
    · subst c
      rw [upd_s, if_pos (by omega), fade_2 p, if_neg (by omega), fade_m (by decide) (by decide)]
    · rw [upd_n (fun z => c ((iM_inj (by decide) (by decide)).mp z).1), fade_2 k]
      by_cases d : p < k
      · rw [if_pos d, if_pos (by omega)]
      · rw [if_neg d, if_neg (by omega)]
def wgN (s t : Nat) : Nat → Nat
  | 0 => 1
  | k + 1 => wgN s t k * (if hasB s k = true then 1 else t - 1)
def dwF (r : Nat → Int32) (s : Nat) : Nat → Nat → Int32
  | 0 => r
  | k + 1 => dayB (dwF r s k) (hasB s k)
def wrF (r : Nat → Int32) (g n t : Nat) (v : Int32) : Nat → Nat
  | 0 => 0
  | s + 1 => wrF r g n t v s + (if v ≤ dwF r s n (iG g 1) - r (iG g 1) then wgN s t n else 0)
theorem dayB_m {q : Nat → Int32} (hI : Inv q) {b : Bool} {p w : Nat} (hw : w < 4) : dayB q b (iM p w) = if w = 2 ∧ p < 6 then mx0 (q (iM p 2) - fadeK (q (iM p 0))) else q (iM p w) := by
  have h2 : ∀ p w, upd q 2 (q 2 + nI 1) (iM p w) = q (iM p w) := fun p w => u0M (by decide)
  have hs : ∀ p w, soakTo (upd q 2 (q 2 + nI 1)) 6 (iM p w) = q (iM p w) := fun p w => (soakTo_pl (Inv_2 hI) 6 (by decide) p w).trans (h2 p w)
  have main : ∀ z : Nat → Int32, (∀ p w, z (iM p w) = q (iM p w)) → fadeTo z 6 (iM p w) = if w = 2 ∧ p < 6 then mx0 (q (iM p 2) - fadeK (q (iM p 0))) else q (iM p w) := by
    intro z hz
    by_cases c : w = 2
    · subst c
      rw [fade_2, hz, hz]
      by_cases d : p < 6
      · rw [if_pos d, if_pos ⟨rfl, d⟩]
      · rw [if_neg d, if_neg (fun y => d y.2)]
    · rw [fade_m hw c, hz, if_neg (fun y => c y.1)]
  cases b
  · rw [dayB_f, dayS_e]; exact main _ hs
  · rw [dayB_t]; unfold wdayS; exact main _ h2
theorem dayB_nM {q : Nat → Int32} {b : Bool} : nM (dayB q b) = nM q := by
  cases b
  · exact dayS_nM
  · rw [dayB_t]; unfold wdayS; rw [fadeTo_nM, nM_2]
theorem dayB_nG {q : Nat → Int32} {b : Bool} : nG (dayB q b) = nG q := by
  cases b
  · exact dayS_nG
  · rw [dayB_t]; unfold wdayS; rw [fadeTo_nG, nG_2]
theorem Inv_dwF {r : Nat → Int32} (hI : Inv r) {s : Nat} : ∀ k, Inv (dwF r s k)
  | 0 => hI
  | k + 1 => Inv_dayB (Inv_dwF hI k) _
theorem dwF_nM {r : Nat → Int32} {s : Nat} : ∀ k, nM (dwF r s k) = nM r
  | 0 => rfl
  | k + 1 => by show nM (dayB _ _) = _; rw [dayB_nM]; exact dwF_nM k
theorem dwF_nG {r : Nat → Int32} {s : Nat} : ∀ k, nG (dwF r s k) = nG r
  | 0 => rfl
  | k + 1 => by show nG (dayB _ _) = _; rw [dayB_nG]; exact dwF_nG k
theorem fd_m {r : Nat → Int32} {p w : Nat} (hw : w < 4) {k : Nat} : fdS r (k + 1) (iM p w) = if w = 2 ∧ p < 6 then mx0 (fdS r k (iM p 2) - fadeK (fdS r k (iM p 0))) else fdS r k (iM p w) := by
  rw [fdS_s]
  show fadeTo _ 6 _ = _
  by_cases c : w = 2
  · subst c
    rw [fade_2]
    by_cases d : p < 6
    · rw [if_pos d, if_pos ⟨rfl, d⟩]
    · rw [if_neg d, if_neg (fun y => d y.2)]
  · rw [fade_m hw c, if_neg (fun y => c y.1)]
theorem dw_fd {r : Nat → Int32} (hI : Inv r) {s : Nat} : ∀ k p w, w < 4 → dwF r s k (iM p w) = fdS r k (iM p w)
  | 0, _, _, _ => rfl
  | k + 1, p, w, hw => by
    show dayB (dwF r s k) (hasB s k) (iM p w) = _
    rw [dayB_m (Inv_dwF hI k) hw, fd_m hw, dw_fd hI k p 2 (by decide), dw_fd hI k p 0 (by decide), dw_fd hI k p w hw]
theorem fd_3 {r : Nat → Int32} {p : Nat} : ∀ k, fdS r k (iM p 3) = r (iM p 3)
  | 0 => rfl
  | k + 1 => by rw [fd_m (by decide), if_neg (fun y => absurd y.1 (by decide))]; exact fd_3 k
theorem wsN_of {q r : Nat → Int32} {g : Nat} (h : ∀ p w, w < 4 → q (iM p w) = r (iM p w)) : ∀ k, wsN q g k = wsN r g k
  | 0 => rfl
  | k + 1 => by
    show wsN q g k + (if q (iM k 3) = nI g then ix (weepS q k) else 0) = wsN r g k + (if r (iM k 3) = nI g then ix (weepS r k) else 0)
    rw [wsN_of h k, h k 3 (by decide), weepS_of (h k 0 (by decide)) (h k 1 (by decide)) (h k 2 (by decide))]
theorem anB_of {q r : Nat → Int32} {g : Nat} (h : ∀ p, q (iM p 3) = r (iM p 3)) : ∀ k, anB q g k = anB r g k
  | 0 => rfl
  | k + 1 => by
    show (anB q g k || decide (q (iM k 3) = nI g)) = (anB r g k || decide (r (iM k 3) = nI g))
    rw [anB_of h k, h k]
def Wn (r : Nat → Int32) (g s : Nat) : Nat → Nat
  | 0 => 0
  | k + 1 => Wn r g s k + (if hasB s k = true then 0 else wsN (fdS r k) g (nM r))
def Bn (r : Nat → Int32) (g s : Nat) : Nat → Bool
  | 0 => false
  | k + 1 => Bn r g s k || (!hasB s k && anB r g (nM r))
theorem Wn_le {r : Nat → Int32} (hI : Inv r) {g s : Nat} : ∀ k, Wn r g s k ≤ 72 * k
  | 0 => by show 0 ≤ _; omega
  | k + 1 => by
    have h6 := hI.m
    have ih := Wn_le hI (g := g) (s := s) k
    have := wsN_le (Inv_fdS hI k) (g := g) (nM r) h6
    show Wn r g s k + (if hasB s k = true then 0 else wsN (fdS r k) g (nM r)) ≤ _
    split <;> omega
theorem dw_st {r : Nat → Int32} (hI : Inv r) {d w h g s : Nat} (hg : g < 5) (h0 : r (iG g 0) = nI h) (h1 : r (iG g 1) = nI d) (h2 : r (iG g 2) = nI w) (hd : d ≤ 999) (hw : w ≤ 9) (hh : h ≤ 9) : ∀ k, k ≤ 7 → soSt d w h g (dwF r s k) (w + Wn r g s k) (Bn r g s k)
  | 0, _ => ⟨h0, by rw [if_neg (by simp [Bn])]; exact ⟨h1, h2, rfl⟩⟩
  | k + 1, hk => by
    have h6 := hI.m
    have ih := dw_st hI (s := s) hg h0 h1 h2 hd hw hh k (by omega)
    have hW := Wn_le hI (g := g) (s := s) k
    have J := Inv_dwF hI (s := s) k
    show soSt d w h g (dayB (dwF r s k) (hasB s k)) (w + (Wn r g s k + (if hasB s k = true then 0 else wsN (fdS r k) g (nM r)))) (Bn r g s k || (!hasB s k && anB r g (nM r)))
    have e2 : ∀ v, v < 3 → upd (dwF r s k) 2 (dwF r s k 2 + nI 1) (iG g v) = dwF r s k (iG g v) := fun v hv => u0G (by decide)
    cases hb : hasB s k with
    | true =>
      rw [if_pos rfl, dayB_t, Bool.not_true, Bool.false_and, Bool.or_false, Nat.add_zero]
      refine soSt_c ih (fun v hv => ?_)
      unfold wdayS
      rw [fade_g hg hv, e2 v hv]
    | false =>
      rw [if_neg (by decide), dayB_f, Bool.not_false, Bool.true_and, dayS_e, ← Nat.add_assoc]
      have st := soSt_T (Inv_2 J (x := dwF r s k 2 + nI 1)) (soSt_c ih e2) hg hd hw hh (by omega) (nM r) (by rw [nM_2, dwF_nM]; exact Nat.le_refl _)
      rw [wsN_of (r := fdS r k) (fun p v hv => (u0M (by decide)).trans (dw_fd hI k p v hv)), anB_of (r := r) (fun p => (u0M (by decide)).trans ((dw_fd hI k p 3 (by decide)).trans (fd_3 k)))] at st
      refine soSt_c st (fun v hv => ?_)
      rw [fade_g hg hv, soakTo_cut 6 (by rw [nM_2, dwF_nM]; exact h6), nM_2, dwF_nM]
theorem anB_ppl {r : Nat → Int32} {g : Nat} : ∀ k, k ≤ 6 → ∃ n, n ≤ k ∧ sumTo (fun p => if r (iM p 3) = nI g then nI 1 else nI 0) k = nI n ∧ (anB r g k = true → 0 < n)
  | 0, _ => ⟨0, by omega, rfl, fun z => by cases z⟩
  | k + 1, hk => by
    obtain ⟨n, hn, e, h⟩ := anB_ppl (r := r) (g := g) k (by omega)
    show ∃ n, n ≤ k + 1 ∧ sumTo _ k + (if r (iM k 3) = nI g then nI 1 else nI 0) = nI n ∧ ((anB r g k || decide (r (iM k 3) = nI g)) = true → 0 < n)
    rw [e]
    by_cases c : r (iM k 3) = nI g
    · rw [if_pos c]; exact ⟨n + 1, by omega, nI_add _ _, fun _ => by omega⟩
    · rw [if_neg c, decide_eq_false c, Bool.or_false]; exact ⟨n, by omega, nI_add _ _, h⟩
theorem fdS_1 {r : Nat → Int32} : ∀ k, fdS r k 1 = r 1
  | 0 => rfl
  | k + 1 => by
    rw [fdS_s]
    show fadeTo _ 6 1 = _
    have e : ∀ q : Nat → Int32, ∀ j, fadeTo q j 1 = q 1 := by
      intro q j
      induction j with
      | zero => rfl
      | succ j ih => rw [fadeTo_s, upd_n (by unfold iM; omega)]; exact ih
    rw [e]; exact fdS_1 k
theorem io_st {r : Nat → Int32} (hI : Inv r) {d w h g s s2 n : Nat} (hg : g < 5) (h0 : r (iG g 0) = nI h) (h1 : r (iG g 1) = nI d) (h2 : r (iG g 2) = nI w) (hd : d ≤ 999) (hw : w ≤ 9) (hh : h ≤ 9) (ha : anB r g (nM r) = true) (hs : ∀ k, k < n → hasB s2 k = !hasB s k) (hn : n ≤ 7) : ∀ k, k ≤ n → soSt d w h g (iodF r g s2 (dwS r g) k) (w + Wn r g s k) (Bn r g s k)
  | 0, _ => ⟨h0, by rw [if_neg (by simp [Bn])]; exact ⟨h1, h2, rfl⟩⟩
  | k + 1, hk => by
    have h6 := hI.m
    have ih := io_st hI hg h0 h1 h2 hd hw hh ha hs hn k (by omega)
    have hW := Wn_le hI (g := g) (s := s) k
    have hle := wsN_le (Inv_fdS hI k) (g := g) (nM r) h6
    show soSt d w h g _ (w + (Wn r g s k + (if hasB s k = true then 0 else wsN (fdS r k) g (nM r)))) (Bn r g s k || (!hasB s k && anB r g (nM r)))
    rw [iodF_s, hs k (by omega), ha]
    cases hb : hasB s k with
    | true =>
      rw [if_pos rfl, if_neg (by decide), Bool.not_true, Bool.false_and, Bool.or_false, Nat.add_zero]
      exact ih
    | false =>
      have ew : dwS r g k = nI (wsN (fdS r k) g (nM r)) := by
        unfold dwS
        have e6 : nM (fdS r k) = nM r := by unfold nM; congr 1; exact (fdS_1 k)
        rw [wat_cut (Inv_fdS hI k) (nI_n9 (by omega)), wsN_sum (Inv_fdS hI k) _ (by rw [e6]; exact h6), e6]
      rw [Bool.not_false, if_pos rfl, if_neg (by decide), Bool.true_and, Bool.or_true, ew, ← Nat.add_assoc]
      exact soSt_s ih hd hw hh (by omega) (by omega)
/-- the depth behind a winter: both ways -/
theorem dw_io {r : Nat → Int32} (hI : Inv r) {g s s2 n : Nat} (hg : g < nG r) (hs : ∀ k, k < n → hasB s2 k = !hasB s k) (hn : n ≤ 7) : dwF r s n (iG g 1) - r (iG g 1) = iodS r g s2 n (dwS r g) := by
  have h5 := hI.g
  have h6 := hI.m
  obtain ⟨eh, lh⟩ := hI.gH (g := g) (by omega)
  obtain ⟨ed, ld⟩ := hI.gD (g := g) (by omega)
  obtain ⟨ew, lw⟩ := hI.gW (g := g) (by omega)
  have st := dw_st hI (s := s) (by omega) eh ed ew ld lw lh n hn
  unfold iodS
  cases ha : anB r g (nM r) with
  | true =>
    obtain ⟨m, hm, em, hm0⟩ := anB_ppl (r := r) (g := g) (nM r) h6
    have hp : ¬ ppl r (nI g) = 0 := by
      rw [ppl_cut hI (nI_n9 (by omega)), em]
      exact nI_ne0 (hm0 ha) (by omega)
    rw [if_neg hp]
    have st2 := io_st hI (by omega) eh ed ew ld lw lh ha hs hn n (Nat.le_refl _)
    cases hb : Bn r g s n with
    | true =>
      rw [hb] at st st2
      have a1 := st.2
      have a2 := st2.2
      rw [if_pos rfl] at a1 a2
      rw [a1.1, a2.1]
    | false =>
      rw [hb] at st st2
      have a1 := st.2
      have a2 := st2.2
      rw [if_neg (by decide)] at a1 a2
      rw [a1.1, a2.1]
  | false =>
    have hp : ppl r (nI g) = 0 := by
      rw [ppl_cut hI (nI_n9 (by omega)), anB_sum (nM r) h6 ha]; rfl
    rw [if_pos hp]
    have hB : ∀ k, Bn r g s k = false := by
      intro k
      induction k with
      | zero => rfl
      | succ k ih =>
        show (Bn r g s k || (!hasB s k && anB r g (nM r))) = false
        rw [ih, ha, Bool.and_false]; rfl
    have a1 := st.2
    rw [hB n, if_neg (by decide)] at a1
    rw [a1.1, ← ed, Int32.sub_self, nI_0]
def czN (s : Nat) : Nat → Nat
  | 0 => 0
  | k + 1 => czN s k + (if hasB s k = true then 0 else 1)
theorem wgN_e {s t : Nat} : ∀ k, wgN s t k = powS (t - 1) (czN s k)
  | 0 => rfl
  | k + 1 => by
    show wgN s t k * (if hasB s k = true then 1 else t - 1) = powS (t - 1) (czN s k + (if hasB s k = true then 0 else 1))
    rw [wgN_e k]
    split
    · rw [Nat.mul_one, Nat.add_zero]
    · rfl
theorem cz_pop : ∀ n, n < 8 → ∀ s, s < 2 ^ n → czN s n = pop6 (2 ^ n - 1 - s) := by decide +kernel
theorem has_com : ∀ n, n < 8 → ∀ s, s < 2 ^ n → ∀ k, k < n → hasB (2 ^ n - 1 - s) k = !hasB s k := by decide +kernel
def sumN (F : Nat → Nat) : Nat → Nat
  | 0 => 0
  | n + 1 => sumN F n + F n
theorem sumN_cong {F G : Nat → Nat} : ∀ n, (∀ s, s < n → F s = G s) → sumN F n = sumN G n
  | 0, _ => rfl
  | n + 1, h => by
    show sumN F n + F n = sumN G n + G n
    rw [sumN_cong n (fun s hs => h s (by omega)), h n (by omega)]
theorem sumN_front {F : Nat → Nat} : ∀ n, sumN F (n + 1) = F 0 + sumN (fun s => F (s + 1)) n
  | 0 => by show 0 + F 0 = F 0 + 0; omega
  | n + 1 => by
    show sumN F (n + 1) + F (n + 1) = F 0 + (sumN (fun s => F (s + 1)) n + F (n + 1))
    rw [sumN_front n]; omega
theorem sumN_rev {G : Nat → Nat} : ∀ n, sumN (fun s => G (n - 1 - s)) n = sumN G n
  | 0 => rfl
  | n + 1 => by
    rw [sumN_front]
    show G (n + 1 - 1 - 0) + sumN (fun s => G (n + 1 - 1 - (s + 1))) n = sumN G n + G n
    rw [show n + 1 - 1 - 0 = n by omega, sumN_cong n (G := fun s => G (n - 1 - s)) (fun s hs => by show G _ = G _; congr 1; omega), sumN_rev n]
    omega
theorem wrF_sum {r : Nat → Int32} {g n t : Nat} {v : Int32} : ∀ k, wrF r g n t v k = sumN (fun s => if v ≤ dwF r s n (iG g 1) - r (iG g 1) then wgN s t n else 0) k
  | 0 => rfl
  | k + 1 => by show wrF r g n t v k + _ = sumN _ k + _; rw [wrF_sum k]
theorem wyF_sum {r : Nat → Int32} {g n t : Nat} {v : Int32} : ∀ k, wyF r g n t v k = sumN (fun s => if v ≤ iodS r g s n (dwS r g) then powS (t - 1) (pop6 s) else 0) k
  | 0 => rfl
  | k + 1 => by rw [wyF_s, wyF_sum k]; rfl
theorem wr_wy {r : Nat → Int32} (hI : Inv r) {g n t : Nat} {v : Int32} (hg : g < nG r) (hn : n ≤ 7) : wrF r g n t v (2 ^ n) = wyF r g n t v (2 ^ n) := by
  rw [wrF_sum, wyF_sum]
  refine Eq.trans (sumN_cong _ (fun s hs => ?_)) (sumN_rev (2 ^ n))
  show (if v ≤ dwF r s n (iG g 1) - r (iG g 1) then wgN s t n else 0) = (if v ≤ iodS r g (2 ^ n - 1 - s) n (dwS r g) then powS (t - 1) (pop6 (2 ^ n - 1 - s)) else 0)
  rw [dw_io hI hg (has_com n (by omega) s hs) hn, wgN_e, cz_pop n (by omega) s hs]
theorem wrF_s (r : Nat → Int32) (g n t : Nat) (v : Int32) (s : Nat) : wrF r g n t v (s + 1) = wrF r g n t v s + (if v ≤ dwF r s n (iG g 1) - r (iG g 1) then wgN s t n else 0) := rfl
theorem wgN_s (s t k : Nat) : wgN s t (k + 1) = wgN s t k * (if hasB s k = true then 1 else t - 1) := rfl
theorem pow_pos7 {t n : Nat} (ht : 2 ≤ t) : 0 < powS t n := by rw [powS_e]; exact Nat.pow_pos (by omega)
