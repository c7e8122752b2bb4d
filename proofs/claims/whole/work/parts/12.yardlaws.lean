/-! the pictures of a churchyard when its row changes -/
theorem tsw_out {x : Int32} {lo hi : Nat} (h : x.toInt < (lo : Int) ∨ (hi : Int) < x.toInt) : ∀ v : Nat, lo ≤ v → v ≤ hi → v < 2 ^ 31 → ¬ x = nI v := by
  intro v h1 h2 h3 e
  rw [e, nI_toInt h3] at h
  omega
theorem weepK_1 (f g : Int32) : weepK (nI 1) f g = f / nI 2 + nI 1 := rfl
theorem weepK_2 (f g : Int32) : weepK (nI 2) f g = nI 2 * (f / nI 2 + nI 1) := rfl
theorem weepK_3 (f g : Int32) : weepK (nI 3) f g = if g < nI 50 then nI 0 else g / nI 10 := rfl
theorem weepK_4 (f g : Int32) : weepK (nI 4) f g = g / nI 10 + f / nI 3 := rfl
theorem weepK_5 (f g : Int32) : weepK (nI 5) f g = nI 1 := rfl
theorem weepK_n {k : Int32} (h : ∀ v : Nat, 1 ≤ v → v ≤ 5 → v < 2 ^ 31 → ¬ k = nI v) (f g : Int32) : weepK k f g = g / nI 10 := by
  unfold weepK
  rw [if_neg (h 1 (by decide) (by decide) (by decide)), if_neg (h 2 (by decide) (by decide) (by decide)), if_neg (h 3 (by decide) (by decide) (by decide)), if_neg (h 4 (by decide) (by decide) (by decide)), if_neg (h 5 (by decide) (by decide) (by decide))]
theorem fadeK_n {k : Int32} (h : ∀ v : Nat, 1 ≤ v → v ≤ 5 → v < 2 ^ 31 → ¬ k = nI v) : fadeK k = nI 2 := by
  unfold fadeK
  rw [if_neg, if_neg (h 4 (by decide) (by decide) (by decide))]
  rintro (e | e | e)
  · exact h 1 (by decide) (by decide) (by decide) e
  · exact h 2 (by decide) (by decide) (by decide) e
  · exact h 5 (by decide) (by decide) (by decide) e
theorem toldK_n {k : Int32} (h : ∀ v : Nat, 1 ≤ v → v ≤ 5 → v < 2 ^ 31 → ¬ k = nI v) : toldK k = nI 20 := by
  unfold toldK
  rw [if_neg, if_neg (h 2 (by decide) (by decide) (by decide)), if_neg]
  · rintro (e | e)
    · exact h 4 (by decide) (by decide) (by decide) e
    · exact h 5 (by decide) (by decide) (by decide) e
  · rintro (e | e)
    · exact h 1 (by decide) (by decide) (by decide) e
    · exact h 3 (by decide) (by decide) (by decide) e
theorem kindC_n {c : Int32} (h : ∀ v : Nat, 102 ≤ v → v ≤ 119 → v < 2 ^ 31 → ¬ c = nI v) : kindC c = -9 := by
  unfold kindC
  rw [if_neg (h 109 (by decide) (by decide) (by decide)), if_neg (h 104 (by decide) (by decide) (by decide)), if_neg (h 111 (by decide) (by decide) (by decide)), if_neg (h 119 (by decide) (by decide) (by decide)), if_neg (h 102 (by decide) (by decide) (by decide)), if_neg (h 108 (by decide) (by decide) (by decide))]
def ydC (Γ : eG) (h : Nat) (a : Nat → Nat) (g m : Nat) (d : Int32) (f0 f1 f2 f3 f4 f5 f6 : Nat → Int32) : va_W := [(h, .inr (0, [.ref (a 0), .ref (a 1), .ref (a 2), .ref (a 3), .ref (a 4), .ref (a 5), .ref (a 6), .int (nI g), .int (nI m), .int d])), (a 0, .inl (Γ.2.1, 5, .inl f0)), (a 1, .inl (Γ.2.1, 5, .inl f1)), (a 2, .inl (Γ.2.1, 5, .inl f2)), (a 3, .inl (Γ.2.1, 6, .inl f3)), (a 4, .inl (Γ.2.1, 6, .inl f4)), (a 5, .inl (Γ.2.1, 6, .inl f5)), (a 6, .inl (Γ.2.1, 6, .inl f6))]
theorem yd_of {Γ : eG} {h : Nat} {a : Nat → Nat} {g m : Nat} {d : Int32} {f0 f1 f2 f3 f4 f5 f6 : Nat → Int32} {r : Nat → Int32} (hg : g = nG r) (hm : m = nM r) (hd : d = r 2) (h0 : ∀ i, i < 5 → f0 i = r (iG i 0)) (h1 : ∀ i, i < 5 → f1 i = r (iG i 1)) (h2 : ∀ i, i < 5 → f2 i = r (iG i 2)) (h3 : ∀ i, i < 6 → f3 i = r (iM i 0)) (h4 : ∀ i, i < 6 → f4 i = r (iM i 1)) (h5 : ∀ i, i < 6 → f5 i = r (iM i 2)) (h6 : ∀ i, i < 6 → f6 i = pl r i) : weq (ydC Γ h a g m d f0 f1 f2 f3 f4 f5 f6) (ydW Γ h a r) := by
  subst hg; subst hm; subst hd
  exact weq.cons (weq.arr h0 (weq.arr h1 (weq.arr h2 (weq.arr h3 (weq.arr h4 (weq.arr h5 (weq.arr h6 weq.rf)))))))
theorem uG_s {r : Nat → Int32} {j w i : Nat} {x : Int32} (hw : w < 3) : upd r (iG j w) x (iG i w) = upd (fun g => r (iG g w)) j x i := congrFun (pG_s (r := r) (g := j) (x := x) hw) i
theorem uG_n {r : Nat → Int32} {j w v i : Nat} {x : Int32} (hw : w < 3) (hv : v < 3) (h : v ≠ w) : upd r (iG j w) x (iG i v) = r (iG i v) := congrFun (pG_n (r := r) (g := j) (x := x) hw hv h) i
theorem uM_s {r : Nat → Int32} {j w i : Nat} {x : Int32} (hw : w < 4) : upd r (iM j w) x (iM i w) = upd (fun g => r (iM g w)) j x i := congrFun (pM_s (r := r) (g := j) (x := x) hw) i
theorem uM_n {r : Nat → Int32} {j w v i : Nat} {x : Int32} (hw : w < 4) (hv : v < 4) (h : v ≠ w) : upd r (iM j w) x (iM i v) = r (iM i v) := congrFun (pM_n (r := r) (g := j) (x := x) hw hv h) i
theorem uGM {r : Nat → Int32} {j w v i : Nat} {x : Int32} (hj : j < 5) (hw : w < 3) : upd r (iG j w) x (iM i v) = r (iM i v) := upd_n (fun e => iG_iM hj hw e.symm)
theorem uMG {r : Nat → Int32} {j w v i : Nat} {x : Int32} (hi : i < 5) (hv : v < 3) : upd r (iM j w) x (iG i v) = r (iG i v) := upd_n (fun e => iG_iM hi hv e)
theorem u0G {r : Nat → Int32} {k v i : Nat} {x : Int32} (hk : k < 3) : upd r k x (iG i v) = r (iG i v) := upd_n (by unfold iG; omega)
theorem u0M {r : Nat → Int32} {k v i : Nat} {x : Int32} (hk : k < 3) : upd r k x (iM i v) = r (iM i v) := upd_n (by unfold iM; omega)
theorem plG {r : Nat → Int32} {j w i : Nat} {x : Int32} (hj : j < 5) (hw : w < 3) : pl (upd r (iG j w) x) i = pl r i := by unfold pl; rw [nM_G, uGM hj hw]
theorem plM {r : Nat → Int32} {j w i : Nat} {x : Int32} (hw : w < 3) : pl (upd r (iM j w) x) i = pl r i := by unfold pl; rw [nM_M, uM_n (by omega) (by omega) (by omega)]
theorem plM3 {r : Nat → Int32} {j i : Nat} {x : Int32} (hj : j < nM r) : pl (upd r (iM j 3) x) i = upd (fun p => pl r p) j x i := by
  unfold pl
  rw [nM_M, uM_s (by omega)]
  by_cases h : i = j
  · subst h; rw [upd_s, upd_s, if_pos hj]
  · rw [upd_n h, upd_n h]
theorem pl2 {r : Nat → Int32} {i : Nat} {x : Int32} : pl (upd r 2 x) i = pl r i := by unfold pl nM; rw [upd_n (by decide), u0M (by decide)]
section YD
variable {Γ : eG} {h : Nat} {a : Nat → Nat} {r : Nat → Int32} {j : Nat} {x : Int32}
theorem yd_G0 (hj : j < 5) : weq (ydC Γ h a (nG r) (nM r) (r 2) (upd (fun g => r (iG g 0)) j x) (fun g => r (iG g 1)) (fun g => r (iG g 2)) (fun p => r (iM p 0)) (fun p => r (iM p 1)) (fun p => r (iM p 2)) (fun p => pl r p)) (ydW Γ h a (upd r (iG j 0) x)) :=
  yd_of nG_G.symm nM_G.symm r2_G.symm (fun i _ => (uG_s (by decide)).symm) (fun i _ => (uG_n (by decide) (by decide) (by decide)).symm) (fun i _ => (uG_n (by decide) (by decide) (by decide)).symm) (fun i _ => (uGM hj (by decide)).symm) (fun i _ => (uGM hj (by decide)).symm) (fun i _ => (uGM hj (by decide)).symm) (fun i _ => (plG hj (by decide)).symm)
theorem yd_G1 (hj : j < 5) : weq (ydC Γ h a (nG r) (nM r) (r 2) (fun g => r (iG g 0)) (upd (fun g => r (iG g 1)) j x) (fun g => r (iG g 2)) (fun p => r (iM p 0)) (fun p => r (iM p 1)) (fun p => r (iM p 2)) (fun p => pl r p)) (ydW Γ h a (upd r (iG j 1) x)) :=
  yd_of nG_G.symm nM_G.symm r2_G.symm (fun i _ => (uG_n (by decide) (by decide) (by decide)).symm) (fun i _ => (uG_s (by decide)).symm) (fun i _ => (uG_n (by decide) (by decide) (by decide)).symm) (fun i _ => (uGM hj (by decide)).symm) (fun i _ => (uGM hj (by decide)).symm) (fun i _ => (uGM hj (by decide)).symm) (fun i _ => (plG hj (by decide)).symm)
theorem yd_G2 (hj : j < 5) : weq (ydC Γ h a (nG r) (nM r) (r 2) (fun g => r (iG g 0)) (fun g => r (iG g 1)) (upd (fun g => r (iG g 2)) j x) (fun p => r (iM p 0)) (fun p => r (iM p 1)) (fun p => r (iM p 2)) (fun p => pl r p)) (ydW Γ h a (upd r (iG j 2) x)) :=
  yd_of nG_G.symm nM_G.symm r2_G.symm (fun i _ => (uG_n (by decide) (by decide) (by decide)).symm) (fun i _ => (uG_n (by decide) (by decide) (by decide)).symm) (fun i _ => (uG_s (by decide)).symm) (fun i _ => (uGM hj (by decide)).symm) (fun i _ => (uGM hj (by decide)).symm) (fun i _ => (uGM hj (by decide)).symm) (fun i _ => (plG hj (by decide)).symm)
theorem yd_M0 : weq (ydC Γ h a (nG r) (nM r) (r 2) (fun g => r (iG g 0)) (fun g => r (iG g 1)) (fun g => r (iG g 2)) (upd (fun p => r (iM p 0)) j x) (fun p => r (iM p 1)) (fun p => r (iM p 2)) (fun p => pl r p)) (ydW Γ h a (upd r (iM j 0) x)) :=
  yd_of nG_M.symm nM_M.symm r2_M.symm (fun i hi => (uMG hi (by decide)).symm) (fun i hi => (uMG hi (by decide)).symm) (fun i hi => (uMG hi (by decide)).symm) (fun i _ => (uM_s (by decide)).symm) (fun i _ => (uM_n (by decide) (by decide) (by decide)).symm) (fun i _ => (uM_n (by decide) (by decide) (by decide)).symm) (fun i _ => (plM (by decide)).symm)
theorem yd_M1 : weq (ydC Γ h a (nG r) (nM r) (r 2) (fun g => r (iG g 0)) (fun g => r (iG g 1)) (fun g => r (iG g 2)) (fun p => r (iM p 0)) (upd (fun p => r (iM p 1)) j x) (fun p => r (iM p 2)) (fun p => pl r p)) (ydW Γ h a (upd r (iM j 1) x)) :=
  yd_of nG_M.symm nM_M.symm r2_M.symm (fun i hi => (uMG hi (by decide)).symm) (fun i hi => (uMG hi (by decide)).symm) (fun i hi => (uMG hi (by decide)).symm) (fun i _ => (uM_n (by decide) (by decide) (by decide)).symm) (fun i _ => (uM_s (by decide)).symm) (fun i _ => (uM_n (by decide) (by decide) (by decide)).symm) (fun i _ => (plM (by decide)).symm)
theorem yd_M2 : weq (ydC Γ h a (nG r) (nM r) (r 2) (fun g => r (iG g 0)) (fun g => r (iG g 1)) (fun g => r (iG g 2)) (fun p => r (iM p 0)) (fun p => r (iM p 1)) (upd (fun p => r (iM p 2)) j x) (fun p => pl r p)) (ydW Γ h a (upd r (iM j 2) x)) :=
  yd_of nG_M.symm nM_M.symm r2_M.symm (fun i hi => (uMG hi (by decide)).symm) (fun i hi => (uMG hi (by decide)).symm) (fun i hi => (uMG hi (by decide)).symm) (fun i _ => (uM_n (by decide) (by decide) (by decide)).symm) (fun i _ => (uM_n (by decide) (by decide) (by decide)).symm) (fun i _ => (uM_s (by decide)).symm) (fun i _ => (plM (by decide)).symm)
theorem yd_M3 (hj : j < nM r) : weq (ydC Γ h a (nG r) (nM r) (r 2) (fun g => r (iG g 0)) (fun g => r (iG g 1)) (fun g => r (iG g 2)) (fun p => r (iM p 0)) (fun p => r (iM p 1)) (fun p => r (iM p 2)) (upd (fun p => pl r p) j x)) (ydW Γ h a (upd r (iM j 3) x)) :=
  yd_of nG_M.symm nM_M.symm r2_M.symm (fun i hi => (uMG hi (by decide)).symm) (fun i hi => (uMG hi (by decide)).symm) (fun i hi => (uMG hi (by decide)).symm) (fun i _ => (uM_n (by decide) (by decide) (by decide)).symm) (fun i _ => (uM_n (by decide) (by decide) (by decide)).symm) (fun i _ => (uM_n (by decide) (by decide) (by decide)).symm) (fun i _ => (plM3 hj).symm)
theorem yd_2 : weq (ydC Γ h a (nG r) (nM r) x (fun g => r (iG g 0)) (fun g => r (iG g 1)) (fun g => r (iG g 2)) (fun p => r (iM p 0)) (fun p => r (iM p 1)) (fun p => r (iM p 2)) (fun p => pl r p)) (ydW Γ h a (upd r 2 x)) :=
  yd_of (by unfold nG; rw [upd_n (by decide)]) (by unfold nM; rw [upd_n (by decide)]) upd_s.symm (fun i _ => (u0G (by decide)).symm) (fun i _ => (u0G (by decide)).symm) (fun i _ => (u0G (by decide)).symm) (fun i _ => (u0M (by decide)).symm) (fun i _ => (u0M (by decide)).symm) (fun i _ => (u0M (by decide)).symm) (fun i _ => pl2.symm)
end YD
/-! chunk-list forms -/
def ydL (Γ : eG) (h : Nat) (a : Nat → Nat) (g m : Nat) (d : Int32) (f0 f1 f2 f3 f4 f5 f6 : Nat → Int32) : List va_W := [eO h 0 [.ref (a 0), .ref (a 1), .ref (a 2), .ref (a 3), .ref (a 4), .ref (a 5), .ref (a 6), .int (nI g), .int (nI m), .int d], eI Γ (a 0) 5 f0, eI Γ (a 1) 5 f1, eI Γ (a 2) 5 f2, eI Γ (a 3) 6 f3, eI Γ (a 4) 6 f4, eI Γ (a 5) 6 f5, eI Γ (a 6) 6 f6]
theorem ydL_fl {Γ : eG} {h : Nat} {a : Nat → Nat} {g m : Nat} {d : Int32} {f0 f1 f2 f3 f4 f5 f6 : Nat → Int32} : (ydL Γ h a g m d f0 f1 f2 f3 f4 f5 f6).flatten = ydC Γ h a g m d f0 f1 f2 f3 f4 f5 f6 := rfl
theorem fl1 {w : va_W} : [w].flatten = w := by simp
theorem yd_uf {Γ : eG} {h : Nat} {a : Nat → Nat} {r : Nat → Int32} : [ydW Γ h a r].flatten = (ydL Γ h a (nG r) (nM r) (r 2) (fun g => r (iG g 0)) (fun g => r (iG g 1)) (fun g => r (iG g 2)) (fun p => r (iM p 0)) (fun p => r (iM p 1)) (fun p => r (iM p 2)) (fun p => pl r p)).flatten := by rw [fl1, ydL_fl]; rfl
theorem yd_u {Γ : eG} {h : Nat} {a : Nat → Nat} (r : Nat → Int32) : weq [ydW Γ h a r].flatten (ydL Γ h a (nG r) (nM r) (r 2) (fun g => r (iG g 0)) (fun g => r (iG g 1)) (fun g => r (iG g 2)) (fun p => r (iM p 0)) (fun p => r (iM p 1)) (fun p => r (iM p 2)) (fun p => pl r p)).flatten := weq.of yd_uf
theorem yd_f {Γ : eG} {h : Nat} {a : Nat → Nat} (r : Nat → Int32) : weq (ydL Γ h a (nG r) (nM r) (r 2) (fun g => r (iG g 0)) (fun g => r (iG g 1)) (fun g => r (iG g 2)) (fun p => r (iM p 0)) (fun p => r (iM p 1)) (fun p => r (iM p 2)) (fun p => pl r p)).flatten [ydW Γ h a r].flatten := weq.of yd_uf.symm
