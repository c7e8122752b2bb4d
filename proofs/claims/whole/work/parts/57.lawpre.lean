/-! THE LAW: what each call keeps -/
theorem chE_P {α : Type} {P : α → Prop} {e : Int32} {a b : α} (ha : e = 0 → P a) (hb : P b) : P (chE e a b) := by
  by_cases h : e = 0
  · rw [chE_0 h]; exact ha h
  · rw [chE_n h]; exact hb
theorem iteN {p : Prop} [Decidable p] {a b : Int32} (h : (if ¬ p then a else b) = 0) (ha : ¬ a = 0) : p ∧ b = 0 := by
  by_cases c : p
  · rw [if_neg (not_not_intro c)] at h; exact ⟨c, h⟩
  · rw [if_pos c] at h; exact absurd h ha
theorem iteP {p : Prop} [Decidable p] {a b : Int32} (h : (if p then a else b) = 0) (ha : ¬ a = 0) : ¬ p ∧ b = 0 := by
  by_cases c : p
  · rw [if_pos c] at h; exact absurd h ha
  · rw [if_neg c] at h; exact ⟨c, h⟩
theorem iteW {v a b c : Int32} (h : (if ¬ wrS v a b = 0 then wrS v a b else c) = 0) : wrS v a b = 0 ∧ c = 0 := by
  by_cases z : wrS v a b = 0
  · rw [if_neg (not_not_intro z)] at h; exact ⟨z, h⟩
  · rw [if_pos z] at h; exact absurd h z
section KEEPS
variable {r img lt : Nat → Int32} {lm rm : Nat} {hi : Bool}
theorem inv_goes (hI : Inv r) (x y : Int32) : Inv (chE (eGoes r x y) (upd r (iM (ix x) 3) y) r) := by
  refine chE_P (fun h => ?_) hI
  obtain ⟨h1, h⟩ := iteN h (by decide)
  obtain ⟨h2, _⟩ := iteN h (by decide)
  have h5 := hI.g
  refine Inv_at hI (Or.inr ⟨ix y, ix_lt h2 (by omega), inN_e h2 (by omega)⟩)
theorem inv_leaves (hI : Inv r) (x : Int32) : Inv (chE (eLeaves r x) (upd r (iM (ix x) 3) (-9)) r) := chE_P (fun _ => Inv_at hI (Or.inl rfl)) hI
theorem inv_hears (hI : Inv r) (x : Int32) : Inv (chE (eMo r x) (tellS r (ix x)) r) := by
  refine chE_P (fun h => ?_) hI
  obtain ⟨h1, _⟩ := iteN h (by decide)
  have h6 := hI.m
  exact Inv_tellS hI (ix_lt h1 (by omega))
theorem inv_grieves (hI : Inv r) (x v : Int32) : Inv (chE (eMoW r x v (nI 0) (nI 99)) (upd r (iM (ix x) 2) v) r) := by
  refine chE_P (fun h => ?_) hI
  obtain ⟨h1, h⟩ := iteN h (by decide)
  obtain ⟨h2, _⟩ := iteW h
  have h6 := hI.m
  have hv := wrS_ok (by decide) (by decide) h2
  rw [hv.1]
  exact Inv_grief hI hv.2.2 (ix_lt h1 (by omega))
theorem inv_hardens (hI : Inv r) (x v : Int32) : Inv (chE (eGrW r x v (nI 0) (nI 9)) (upd r (iG (ix x) 0) v) r) := by
  refine chE_P (fun h => ?_) hI
  obtain ⟨h1, h⟩ := iteN h (by decide)
  obtain ⟨h2, _⟩ := iteW h
  have h5 := hI.g
  have hv := wrS_ok (by decide) (by decide) h2
  rw [hv.1]
  exact Inv_G hI (Nat.lt_of_lt_of_le (ix_lt h1 (by omega)) h5) (by decide) (fun _ => okN_nI hv.2.2 (by decide)) (fun q => by cases q) (fun q => by cases q)
theorem inv_turn (hI : Inv r) (x k f : Int32) : Inv (chE (eTurn r x k f) (upd (upd r (iM (ix x) 0) k) (iM (ix x) 1) f) r) := by
  refine chE_P (fun h => ?_) hI
  obtain ⟨h1, h⟩ := iteN h (by decide)
  obtain ⟨h2, h⟩ := iteN h (by decide)
  obtain ⟨h3, _⟩ := iteW h
  have hk := isInB_ok (lo := 0) (hi := 5) (by decide) (by decide) h2
  have hf := wrS_ok (by decide) (by decide) h3
  rw [hk.1, hf.1]
  exact Inv_fig (Inv_onion hI hk.2.2) hf.2.2
theorem inv_days (hI : Inv r) (n : Int32) : Inv (chE (eDays r n) (daysS r (ix n)) r) := chE_P (fun _ => Inv_daysS hI _) hI
theorem inv_on (hI : Inv r) (hJ : Inv img) : Inv (chE (eOn hi) img r) := chE_P (fun _ => hJ) hI
theorem tlO_inv (hl : lm ≤ 96) : ∀ f p n q, Inv q → miO lt lm f p = -9 → Inv (tlO lt lm f p n q).2
  | 0, _, _, _, h, _ => h
  | f + 1, p, n, q, h, hm => by
    by_cases c : p < lm
    · obtain ⟨o1, o2, o3, o4⟩ := miO_ok c hm (by omega)
      cases z : stB q lt lm p with
      | true => rw [tlO_t c z]; exact tlO_inv hl f _ _ _ (Inv_stR h (fun hc => miO_kind c hm (by omega) hc)) o4
      | false => rw [tlO_f c z]; exact h
    · rw [tlO_e c]; exact h
theorem inv_yard (hI : Inv r) (hl : lm ≤ 96) : Inv (yaR lt lm r) := by
  unfold yaR
  split
  · exact hI
  · by_cases h : fMis lt lm = -9
    · unfold tlQ
      rw [if_pos h]
      exact tlO_inv hl _ _ _ _ hI (fMis_9 h)
    · rw [tlQ_n h]; exact hI
theorem lm_letter (hl : lm ≤ 96) (c : Int32) : chE (eLetter lm c) (lm + 1) lm ≤ 96 := by
  refine chE_P (P := fun n => n ≤ 96) (fun h => ?_) hl
  obtain ⟨_, h⟩ := iteP h (by decide)
  obtain ⟨h2, _⟩ := iteP h (by decide)
  have : ¬ lm = 96 := fun z => h2 (Or.inr z)
  show lm + 1 ≤ 96
  omega
theorem rm_row (hr : rm ≤ 16) (v : Int32) : chE (eRow rm v) (rm + 1) rm ≤ 16 := by
  refine chE_P (P := fun n => n ≤ 16) (fun h => ?_) hr
  obtain ⟨_, h⟩ := iteW h
  obtain ⟨h2, _⟩ := iteP h (by decide)
  show rm + 1 ≤ 16
  omega
end KEEPS
theorem lw_in {L i : Nat} (hL : L ≤ 3072) (hi : i ≤ 5000) (h : ¬ nI L - nI 6 < nI i) : i + 6 ≤ L := by
  rw [Int32.lt_iff_toInt_lt, pk_sub_toInt (by omega) (by omega), nI_toInt (by omega)] at h
  omega
