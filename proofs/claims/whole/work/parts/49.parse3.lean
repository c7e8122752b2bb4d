theorem k1n {n : Nat} (h : n ≤ 200) : (-1000 - nI n < 0) ∧ ¬ (-1000 - nI n = -9) := by
  have : ∀ n, n ≤ 200 → (-1000 - nI n < 0) ∧ ¬ (-1000 - nI n = -9) := by decide +kernel
  exact this n h
theorem k2n {n : Nat} (h : n ≤ 200) : (-2000 - nI n < 0) ∧ ¬ (-2000 - nI n = -9) := by
  have : ∀ n, n ≤ 200 → (-2000 - nI n < 0) ∧ ¬ (-2000 - nI n = -9) := by decide +kernel
  exact this n h
section YA
variable {lt r q : Nat → Int32} {lm : Nat}
theorem ya_1 {x : Nat} (hF : fMis lt lm = nI x) (hx : x ≤ 200) : tlA lt lm r = -1000 - nI x ∧ yaR lt lm r = r := by
  have h9 : ¬ fMis lt lm = -9 := by rw [hF]; exact nI_n9 (by omega)
  have e := tlA_n (r := r) h9
  rw [hF] at e
  exact ⟨e, yaR_n (by rw [e]; exact (k1n hx).1)⟩
theorem ya_2 {x : Nat} {z : Nat → Int32} (h : fMis lt lm = -9) (he : tlO lt lm (lm + 1) 0 0 r = (-2000 - nI x, z)) (hx : x ≤ 200) : tlA lt lm r = -2000 - nI x ∧ yaR lt lm r = r := by
  have e := (tlA_e h he).1
  exact ⟨e, yaR_n (by rw [e]; exact (k2n hx).1)⟩
theorem ya_0 {n : Nat} (h : fMis lt lm = -9) (he : tlO lt lm (lm + 1) 0 0 r = (nI n, q)) (hn : n ≤ 200) : tlA lt lm r = nI n ∧ yaR lt lm r = q := by
  have e := tlA_e h he
  exact ⟨e.1, (yaR_p (by rw [e.1]; exact nI_pos (by omega))).trans e.2⟩
theorem fMis_rs {p : Nat} (hpl : p < lm ∨ (p = 0 ∧ lm = 0)) {f : Nat} (hM : p < lm → fMis lt lm = miO lt lm (f + 1) p) (h : rsB lt lm p = false) : fMis lt lm = nI (rsP lt lm p) := by
  rcases hpl with z | ⟨z, z2⟩
  · rw [hM z]; exact (rs_miO z).2 h
  · rw [(rs_0 (lt := lt) (lm := lm) (p := p) (fun y => by omega)).2, z]
    exact if_pos z2
end YA
