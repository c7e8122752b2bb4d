/-! THE REFERENCE: its static methods -/
set_option maxHeartbeats 1000000 in
set_option maxRecDepth 20000 in
theorem c_X7_isIn (l : Launch) (Γ : eG) (v : Int32) (p : Int32) (q : Int32)  : cD l Γ yX7_isIn cX7_isIn 3 (some .boolean) 0 [.int v, .int p, .int q] [] (some (.int (bz (isInB v p q)))) [] := by
  refine e_bool [(0, .int v), (1, .int p), (2, .int q)] (by decide +kernel) (Nat.le_of_ble_eq_true rfl) rfl (fun V K hR => ?_)
  refine r_iload_n K dX7_isIn_0 0 rfl ?_
  refine r_iload_n K dX7_isIn_1 1 rfl ?_
  refine r_ic_lt K dX7_isIn_2 (fun c2 => ?_) (fun c2 => ?_)
  · refine r_iconst K dX7_isIn_14 (nI 0) (by decide) ?_
    exact hR () dX7_isIn_15 (rfl) (trivial) (e_ri (by rw [isInB_f1 c2]; rfl)) (weq.rf)
  · refine r_iload_n K dX7_isIn_5 0 rfl ?_
    refine r_iload_n K dX7_isIn_6 2 rfl ?_
    refine r_ic_gt K dX7_isIn_7 (fun c7 => ?_) (fun c7 => ?_)
    · refine r_iconst K dX7_isIn_14 (nI 0) (by decide) ?_
      exact hR () dX7_isIn_15 (rfl) (trivial) (e_ri (by rw [isInB_f2 c7]; rfl)) (weq.rf)
    · refine r_iconst K dX7_isIn_10 (nI 1) (by decide) ?_
      refine r_goto K dX7_isIn_11 ?_
      exact hR () dX7_isIn_15 (rfl) (trivial) (e_ri (by rw [isInB_t c2 c7]; rfl)) (weq.rf)
set_option maxHeartbeats 1000000 in
set_option maxRecDepth 20000 in
theorem c_X7_least (l : Launch) (Γ : eG) (p : Int32) (q : Int32)  : cD l Γ yX7_least cX7_least 2 (some .int) 0 [.int p, .int q] [] (some (.int (lsS p q))) [] := by
  refine e_int [(0, .int p), (1, .int q)] (by decide +kernel) (Nat.le_of_ble_eq_true rfl) rfl (fun V K hR => ?_)
  refine r_iload_n K dX7_least_0 0 rfl ?_
  refine r_iload_n K dX7_least_1 1 rfl ?_
  refine r_ic_ge K dX7_least_2 (fun c2 => ?_) (fun c2 => ?_)
  · refine r_iload_n K dX7_least_9 1 rfl ?_
    exact hR () dX7_least_10 (trivial) (e_ri (if_neg (Int32.not_lt.mpr c2))) (weq.rf)
  · refine r_iload_n K dX7_least_5 0 rfl ?_
    refine r_goto K dX7_least_6 ?_
    exact hR () dX7_least_10 (trivial) (e_ri (if_pos (Int32.not_le.mp c2))) (weq.rf)
set_option maxHeartbeats 1000000 in
set_option maxRecDepth 20000 in
theorem c_X7_copies (l : Launch) (Γ : eG) (x : Nat) (y : Nat) (f : Nat → Int32) (g : Nat → Int32)  : cD l Γ yX7_copies cX7_copies 3 (none) 0 [.ref x, .ref y] [eI Γ x 42 f, eI Γ y 42 g] none [eI Γ x 42 f, eI Γ y 42 f] := by
  refine e_void [(0, .ref x), (1, .ref y)] (by decide +kernel) (Nat.le_of_ble_eq_true rfl) rfl (fun V K hR => ?_)
  refine r_iconst K dX7_copies_0 (nI 0) (by decide) ?_
  refine r_istore_n K dX7_copies_1 rfl (by decide) (lv1 := [(2, .int (nI 0)), (0, .ref x), (1, .ref y)]) rfl ?_
  have L2 : ∀ (fL2 : Nat) (i : Nat), (i ≤ 42) → 42 - i < fL2 → V 2 [(2, .int (nI i)), (0, .ref x), (1, .ref y)] [] [eI Γ x 42 f, eI Γ y 42 (cpF f g i)] := by
    intro fL2
    induction fL2 with
    | zero => intro i hi hf; exact absurd hf (Nat.not_lt_zero _)
    | succ fL2 ih_L2 =>
      intro i hi hfL2
      refine r_iload_n K dX7_copies_2 0 rfl ?_
      refine r_bipush K dX7_copies_3 (nI 42) (by decide) ?_
      refine r_ic_geN K dX7_copies_5 (by omega) (by omega) (fun c5 => ?_) (fun c5 => ?_)
      · obtain rfl : i = 42 := by omega
        refine r_arr K (f2 := f) (ws1 := [eI Γ x 42 f, eI Γ y 42 f]) 1 rfl (fun i hi => cpF_in hi) rfl ?_
        exact hR () dX7_copies_20 (trivial) rfl (weq.rf)
      · refine r_aload_n K dX7_copies_8 2 rfl ?_
        refine r_iload_n K dX7_copies_9 0 rfl ?_
        refine r_aload_n K dX7_copies_10 1 rfl ?_
        refine r_iload_n K dX7_copies_11 0 rfl ?_
        refine r_aldN K dX7_copies_12 0 rfl (by first | omega | exact iG_lt (by omega) (by decide) | exact iM_lt (by omega) (by decide)) (by decide) ?_
        refine r_astN K dX7_copies_13 (ws1 := [eI Γ x 42 f, eI Γ y 42 (upd (cpF f g i) i (f i))]) 1 rfl (by first | omega | exact iG_lt (by omega) (by decide) | exact iM_lt (by omega) (by decide)) (by decide) rfl ?_
        refine r_arr K (f2 := cpF f g (i + 1)) (ws1 := [eI Γ x 42 f, eI Γ y 42 (cpF f g (i + 1))]) 1 rfl (fun _ _ => by rw [← cpF_s]) rfl ?_
        refine r_iincN K dX7_copies_14 (n := 1) 0 rfl rfl (by decide) (lv1 := [(2, .int (nI (i + 1))), (0, .ref x), (1, .ref y)]) rfl ?_
        refine r_goto K dX7_copies_17 ?_
        exact ih_L2 (i + 1) (by omega) (by omega)
  refine r_arr K (f2 := cpF f g 0) (ws1 := [eI Γ x 42 f, eI Γ y 42 (cpF f g 0)]) 1 rfl (fun _ _ => by rw [cpF_0]) rfl ?_
  exact L2 _ 0 (Nat.zero_le 42) (Nat.lt_succ_self _)
set_option maxHeartbeats 1000000 in
set_option maxRecDepth 20000 in
theorem c_X7_ofG (l : Launch) (Γ : eG) (g : Nat) (w : Nat)  : cD l Γ yX7_ofG cX7_ofG 2 (some .int) 0 [.int (nI g), .int (nI w)] [] (some (.int (nI (iG g w)))) [] := by
  refine e_int [(0, .int (nI g)), (1, .int (nI w))] (by decide +kernel) (Nat.le_of_ble_eq_true rfl) rfl (fun V K hR => ?_)
  refine r_iconst K dX7_ofG_0 (nI 3) (by decide) ?_
  refine r_iconst K dX7_ofG_1 (nI 3) (by decide) ?_
  refine r_iload_n K dX7_ofG_2 0 rfl ?_
  refine r_imulN K dX7_ofG_3 ?_
  refine r_iaddN K dX7_ofG_4 ?_
  refine r_iload_n K dX7_ofG_5 1 rfl ?_
  refine r_iaddN K dX7_ofG_6 ?_
  exact hR () dX7_ofG_7 (trivial) (e_ri (rfl)) (weq.rf)
set_option maxHeartbeats 1000000 in
set_option maxRecDepth 20000 in
theorem c_X7_ofM (l : Launch) (Γ : eG) (g : Nat) (w : Nat)  : cD l Γ yX7_ofM cX7_ofM 2 (some .int) 0 [.int (nI g), .int (nI w)] [] (some (.int (nI (iM g w)))) [] := by
  refine e_int [(0, .int (nI g)), (1, .int (nI w))] (by decide +kernel) (Nat.le_of_ble_eq_true rfl) rfl (fun V K hR => ?_)
  refine r_bipush K dX7_ofM_0 (nI 18) (by decide) ?_
  refine r_iconst K dX7_ofM_2 (nI 4) (by decide) ?_
  refine r_iload_n K dX7_ofM_3 0 rfl ?_
  refine r_imulN K dX7_ofM_4 ?_
  refine r_iaddN K dX7_ofM_5 ?_
  refine r_iload_n K dX7_ofM_6 1 rfl ?_
  refine r_iaddN K dX7_ofM_7 ?_
  exact hR () dX7_ofM_8 (trivial) (e_ri (rfl)) (weq.rf)
set_option maxHeartbeats 1000000 in
set_option maxRecDepth 20000 in
theorem c_X7_has (l : Launch) (Γ : eG) (s : Nat) (k : Nat) (hs : s < 64) (hk : k < 32) : cD l Γ yX7_has cX7_has 2 (some .boolean) 0 [.int (nI s), .int (nI k)] [] (some (.int (bz (hasB s k)))) [] := by
  refine e_bool [(0, .int (nI s)), (1, .int (nI k))] (by decide +kernel) (Nat.le_of_ble_eq_true rfl) rfl (fun V K hR => ?_)
  refine r_iload_n K dX7_has_0 0 rfl ?_
  refine r_iload_n K dX7_has_1 1 rfl ?_
  refine r_ishr K dX7_has_2 ?_
  refine r_top (y := nI (s / 2 ^ k)) (has_sh hs hk) ?_
  refine r_iconst K dX7_has_3 (nI 1) (by decide) ?_
  refine r_iand K dX7_has_4 ?_
  refine r_top (y := nI (s / 2 ^ k % 2)) (and1 _) ?_
  refine r_iconst K dX7_has_5 (nI 1) (by decide) ?_
  refine r_ic_neN K dX7_has_6 (by omega) (by omega) (fun c6 => ?_) (fun c6 => ?_)
  · refine r_iconst K dX7_has_13 (nI 0) (by decide) ?_
    exact hR () dX7_has_14 (rfl) (trivial) (e_ri (by unfold hasB; rw [decide_eq_false c6]; rfl)) (weq.rf)
  · refine r_iconst K dX7_has_9 (nI 1) (by decide) ?_
    refine r_goto K dX7_has_10 ?_
    exact hR () dX7_has_14 (rfl) (trivial) (e_ri (by unfold hasB; rw [decide_eq_true c6]; rfl)) (weq.rf)
set_option maxHeartbeats 1000000 in
set_option maxRecDepth 20000 in
theorem c_X7_fadesBy (l : Launch) (Γ : eG) (k : Int32)  : cD l Γ yX7_fadesBy cX7_fadesBy 1 (some .int) 0 [.int k] [] (some (.int (fadeK k))) [] := by
  refine e_int [(0, .int k)] (by decide +kernel) (Nat.le_of_ble_eq_true rfl) rfl (fun V K hR => ?_)
  refine r_iload_n K dX7_fadesBy_0 0 rfl ?_
  refine r_tsw K dX7_fadesBy_1.1 [36, 36, 40, 38, 36] 40 (by decide) (by decide) (by decide) ⟨fun c1 => ?_, fun c1 => ?_, fun c1 => ?_, fun c1 => ?_, fun c1 => ?_, trivial⟩ (fun c1 => ?_)
  · have c1 : k = nI 1 := c1
    refine r_iconst K dX7_fadesBy_36 (nI 0) (by decide) ?_
    exact hR () dX7_fadesBy_37 (trivial) (e_ri (by rw [c1]; rfl)) (weq.rf)
  · have c1 : k = nI 2 := c1
    refine r_iconst K dX7_fadesBy_36 (nI 0) (by decide) ?_
    exact hR () dX7_fadesBy_37 (trivial) (e_ri (by rw [c1]; rfl)) (weq.rf)
  · have c1 : k = nI 3 := c1
    refine r_iconst K dX7_fadesBy_40 (nI 2) (by decide) ?_
    exact hR () dX7_fadesBy_41 (trivial) (e_ri (by rw [c1]; rfl)) (weq.rf)
  · have c1 : k = nI 4 := c1
    refine r_iconst K dX7_fadesBy_38 (nI 1) (by decide) ?_
    exact hR () dX7_fadesBy_39 (trivial) (e_ri (by rw [c1]; rfl)) (weq.rf)
  · have c1 : k = nI 5 := c1
    refine r_iconst K dX7_fadesBy_36 (nI 0) (by decide) ?_
    exact hR () dX7_fadesBy_37 (trivial) (e_ri (by rw [c1]; rfl)) (weq.rf)
  · have c1 : ∀ v : Nat, 1 ≤ v → v ≤ 5 → v < 2 ^ 31 → ¬ k = nI v := tsw_out c1
    refine r_iconst K dX7_fadesBy_40 (nI 2) (by decide) ?_
    exact hR () dX7_fadesBy_41 (trivial) (e_ri (fadeK_n c1)) (weq.rf)
set_option maxHeartbeats 1000000 in
set_option maxRecDepth 20000 in
theorem c_X7_toldBy (l : Launch) (Γ : eG) (k : Int32)  : cD l Γ yX7_toldBy cX7_toldBy 1 (some .int) 0 [.int k] [] (some (.int (toldK k))) [] := by
  refine e_int [(0, .int k)] (by decide +kernel) (Nat.le_of_ble_eq_true rfl) rfl (fun V K hR => ?_)
  refine r_iload_n K dX7_toldBy_0 0 rfl ?_
  refine r_tsw K dX7_toldBy_1.1 [36, 38, 36, 40, 40] 43 (by decide) (by decide) (by decide) ⟨fun c1 => ?_, fun c1 => ?_, fun c1 => ?_, fun c1 => ?_, fun c1 => ?_, trivial⟩ (fun c1 => ?_)
  · have c1 : k = nI 1 := c1
    refine r_iconst K dX7_toldBy_36 (nI 0) (by decide) ?_
    exact hR () dX7_toldBy_37 (trivial) (e_ri (by rw [c1]; rfl)) (weq.rf)
  · have c1 : k = nI 2 := c1
    refine r_iconst K dX7_toldBy_38 (nI 5) (by decide) ?_
    exact hR () dX7_toldBy_39 (trivial) (e_ri (by rw [c1]; rfl)) (weq.rf)
  · have c1 : k = nI 3 := c1
    refine r_iconst K dX7_toldBy_36 (nI 0) (by decide) ?_
    exact hR () dX7_toldBy_37 (trivial) (e_ri (by rw [c1]; rfl)) (weq.rf)
  · have c1 : k = nI 4 := c1
    refine r_bipush K dX7_toldBy_40 (nI 30) (by decide) ?_
    exact hR () dX7_toldBy_42 (trivial) (e_ri (by rw [c1]; rfl)) (weq.rf)
  · have c1 : k = nI 5 := c1
    refine r_bipush K dX7_toldBy_40 (nI 30) (by decide) ?_
    exact hR () dX7_toldBy_42 (trivial) (e_ri (by rw [c1]; rfl)) (weq.rf)
  · have c1 : ∀ v : Nat, 1 ≤ v → v ≤ 5 → v < 2 ^ 31 → ¬ k = nI v := tsw_out c1
    refine r_bipush K dX7_toldBy_43 (nI 20) (by decide) ?_
    exact hR () dX7_toldBy_45 (trivial) (e_ri (toldK_n c1)) (weq.rf)
set_option maxHeartbeats 1000000 in
set_option maxRecDepth 20000 in
theorem c_X7_weeps (l : Launch) (Γ : eG) (x : Nat) (r : Nat → Int32) (p : Nat) (hp : p < 6) : cD l Γ yX7_weeps cX7_weeps 4 (some .int) 1 [.ref x, .int (nI p)] [eI Γ x 42 r] (some (.int (weepS r p))) [eI Γ x 42 r] := by
  refine e_int [(0, .ref x), (1, .int (nI p))] (by decide +kernel) (Nat.le_of_ble_eq_true rfl) rfl (fun V K hR => ?_)
  refine r_aload_n K dX7_weeps_0 0 rfl ?_
  refine r_iload_n K dX7_weeps_1 1 rfl ?_
  refine r_iconst K dX7_weeps_2 (nI 1) (by decide) ?_
  refine r_cSd K dX7_weeps_3 (c_X7_ofM l Γ p 1) mX7_ofM q853 rfl (by decide) 1 rfl [] [0] rfl rfl [eI Γ x 42 r] rfl [eI Γ x 42 r] rfl rfl rfl [.ref x] rfl (Nat.le_of_ble_eq_true rfl) ?_
  refine r_aldN K dX7_weeps_6 0 rfl (by first | omega | exact iG_lt (by omega) (by decide) | exact iM_lt (by omega) (by decide)) (by decide) ?_
  refine r_istore_n K dX7_weeps_7 rfl (by decide) (lv1 := [(2, .int (r (iM p 1))), (0, .ref x), (1, .int (nI p))]) rfl ?_
  refine r_aload_n K dX7_weeps_8 1 rfl ?_
  refine r_iload_n K dX7_weeps_9 2 rfl ?_
  refine r_iconst K dX7_weeps_10 (nI 2) (by decide) ?_
  refine r_cSd K dX7_weeps_11 (c_X7_ofM l Γ p 2) mX7_ofM q853 rfl (by decide) 1 rfl [] [0] rfl rfl [eI Γ x 42 r] rfl [eI Γ x 42 r] rfl rfl rfl [.ref x] rfl (Nat.le_of_ble_eq_true rfl) ?_
  refine r_aldN K dX7_weeps_14 0 rfl (by first | omega | exact iG_lt (by omega) (by decide) | exact iM_lt (by omega) (by decide)) (by decide) ?_
  refine r_istore_n K dX7_weeps_15 rfl (by decide) (lv1 := [(3, .int (r (iM p 2))), (2, .int (r (iM p 1))), (0, .ref x), (1, .int (nI p))]) rfl ?_
  refine r_aload_n K dX7_weeps_16 2 rfl ?_
  refine r_iload_n K dX7_weeps_17 3 rfl ?_
  refine r_iconst K dX7_weeps_18 (nI 0) (by decide) ?_
  refine r_cSd K dX7_weeps_19 (c_X7_ofM l Γ p 0) mX7_ofM q853 rfl (by decide) 1 rfl [] [0] rfl rfl [eI Γ x 42 r] rfl [eI Γ x 42 r] rfl rfl rfl [.ref x] rfl (Nat.le_of_ble_eq_true rfl) ?_
  refine r_aldN K dX7_weeps_22 0 rfl (by first | omega | exact iG_lt (by omega) (by decide) | exact iM_lt (by omega) (by decide)) (by decide) ?_
  refine r_tsw K dX7_weeps_23.1 [56, 62, 70, 85, 94] 96 (by decide) (by decide) (by decide) ⟨fun c23 => ?_, fun c23 => ?_, fun c23 => ?_, fun c23 => ?_, fun c23 => ?_, trivial⟩ (fun c23 => ?_)
  · have c23 : r (iM p 0) = nI 1 := c23
    refine r_iload_n K dX7_weeps_56 1 rfl ?_
    refine r_iconst K dX7_weeps_57 (nI 2) (by decide) ?_
    refine r_idiv K dX7_weeps_58 (by decide) ?_
    refine r_iconst K dX7_weeps_59 (nI 1) (by decide) ?_
    refine r_iadd K dX7_weeps_60 ?_
    exact hR () dX7_weeps_61 (trivial) (e_ri (by unfold weepS; rw [c23]; exact weepK_1 _ _)) (weq.rf)
  · have c23 : r (iM p 0) = nI 2 := c23
    refine r_iconst K dX7_weeps_62 (nI 2) (by decide) ?_
    refine r_iload_n K dX7_weeps_63 1 rfl ?_
    refine r_iconst K dX7_weeps_64 (nI 2) (by decide) ?_
    refine r_idiv K dX7_weeps_65 (by decide) ?_
    refine r_iconst K dX7_weeps_66 (nI 1) (by decide) ?_
    refine r_iadd K dX7_weeps_67 ?_
    refine r_imul K dX7_weeps_68 ?_
    exact hR () dX7_weeps_69 (trivial) (e_ri (by unfold weepS; rw [c23]; exact weepK_2 _ _)) (weq.rf)
  · have c23 : r (iM p 0) = nI 3 := c23
    refine r_iload_n K dX7_weeps_70 0 rfl ?_
    refine r_bipush K dX7_weeps_71 (nI 50) (by decide) ?_
    refine r_ic_ge K dX7_weeps_73 (fun c73 => ?_) (fun c73 => ?_)
    · refine r_iload_n K dX7_weeps_80 0 rfl ?_
      refine r_bipush K dX7_weeps_81 (nI 10) (by decide) ?_
      refine r_idiv K dX7_weeps_83 (by decide) ?_
      exact hR () dX7_weeps_84 (trivial) (e_ri (by unfold weepS; rw [c23, weepK_3, if_neg (Int32.not_lt.mpr c73)])) (weq.rf)
    · refine r_iconst K dX7_weeps_76 (nI 0) (by decide) ?_
      refine r_goto K dX7_weeps_77 ?_
      exact hR () dX7_weeps_84 (trivial) (e_ri (by unfold weepS; rw [c23, weepK_3, if_pos (Int32.not_le.mp c73)])) (weq.rf)
  · have c23 : r (iM p 0) = nI 4 := c23
    refine r_iload_n K dX7_weeps_85 0 rfl ?_
    refine r_bipush K dX7_weeps_86 (nI 10) (by decide) ?_
    refine r_idiv K dX7_weeps_88 (by decide) ?_
    refine r_iload_n K dX7_weeps_89 1 rfl ?_
    refine r_iconst K dX7_weeps_90 (nI 3) (by decide) ?_
    refine r_idiv K dX7_weeps_91 (by decide) ?_
    refine r_iadd K dX7_weeps_92 ?_
    exact hR () dX7_weeps_93 (trivial) (e_ri (by unfold weepS; rw [c23]; exact weepK_4 _ _)) (weq.rf)
  · have c23 : r (iM p 0) = nI 5 := c23
    refine r_iconst K dX7_weeps_94 (nI 1) (by decide) ?_
    exact hR () dX7_weeps_95 (trivial) (e_ri (by unfold weepS; rw [c23]; exact weepK_5 _ _)) (weq.rf)
  · have c23 : ∀ v : Nat, 1 ≤ v → v ≤ 5 → v < 2 ^ 31 → ¬ r (iM p 0) = nI v := tsw_out c23
    refine r_iload_n K dX7_weeps_96 0 rfl ?_
    refine r_bipush K dX7_weeps_97 (nI 10) (by decide) ?_
    refine r_idiv K dX7_weeps_99 (by decide) ?_
    exact hR () dX7_weeps_100 (trivial) (e_ri (weepK_n c23 _ _)) (weq.rf)
set_option maxHeartbeats 1000000 in
set_option maxRecDepth 20000 in
theorem c_X7_soaks (l : Launch) (Γ : eG) (x : Nat) (r : Nat → Int32) (g : Nat) (w : Int32) (hg : g < 5) (hh : okN 9 (r (iG g 0))) : cD l Γ yX7_soaks cX7_soaks 5 (none) 1 [.ref x, .int (nI g), .int w] [eI Γ x 42 r] none [eI Γ x 42 (soakS r g w)] := by
  refine e_void [(0, .ref x), (1, .int (nI g)), (2, .int w)] (by decide +kernel) (Nat.le_of_ble_eq_true rfl) rfl (fun V K hR => ?_)
  refine r_aload_n K dX7_soaks_0 0 rfl ?_
  refine r_iload_n K dX7_soaks_1 1 rfl ?_
  refine r_iconst K dX7_soaks_2 (nI 2) (by decide) ?_
  refine r_cSd K dX7_soaks_3 (c_X7_ofG l Γ g 2) mX7_ofG q850 rfl (by decide) 1 rfl [] [0] rfl rfl [eI Γ x 42 r] rfl [eI Γ x 42 r] rfl rfl rfl [.ref x] rfl (Nat.le_of_ble_eq_true rfl) ?_
  refine r_aldN K dX7_soaks_6 0 rfl (by first | omega | exact iG_lt (by omega) (by decide) | exact iM_lt (by omega) (by decide)) (by decide) ?_
  refine r_iload_n K dX7_soaks_7 2 rfl ?_
  refine r_iadd K dX7_soaks_8 ?_
  refine r_istore_n K dX7_soaks_9 rfl (by decide) (lv1 := [(3, .int ((r (iG g 2)) + w)), (0, .ref x), (1, .int (nI g)), (2, .int w)]) rfl ?_
  refine r_aload_n K dX7_soaks_10 1 rfl ?_
  refine r_iload_n K dX7_soaks_11 2 rfl ?_
  refine r_iconst K dX7_soaks_12 (nI 0) (by decide) ?_
  refine r_cSd K dX7_soaks_13 (c_X7_ofG l Γ g 0) mX7_ofG q850 rfl (by decide) 1 rfl [] [0] rfl rfl [eI Γ x 42 r] rfl [eI Γ x 42 r] rfl rfl rfl [.ref x] rfl (Nat.le_of_ble_eq_true rfl) ?_
  refine r_aldN K dX7_soaks_16 0 rfl (by first | omega | exact iG_lt (by omega) (by decide) | exact iM_lt (by omega) (by decide)) (by decide) ?_
  refine r_iconst K dX7_soaks_17 (nI 1) (by decide) ?_
  refine r_iadd K dX7_soaks_18 ?_
  refine r_istore K dX7_soaks_19 (by decide) (lv1 := [(4, .int ((r (iG g 0)) + (nI 1))), (3, .int ((r (iG g 2)) + w)), (0, .ref x), (1, .int (nI g)), (2, .int w)]) rfl ?_
  refine r_aload_n K dX7_soaks_21 2 rfl ?_
  refine r_iload_n K dX7_soaks_22 3 rfl ?_
  refine r_iconst K dX7_soaks_23 (nI 1) (by decide) ?_
  refine r_cSd K dX7_soaks_24 (c_X7_ofG l Γ g 1) mX7_ofG q850 rfl (by decide) 1 rfl [] [0] rfl rfl [eI Γ x 42 r] rfl [eI Γ x 42 r] rfl rfl rfl [.ref x] rfl (Nat.le_of_ble_eq_true rfl) ?_
  refine r_sipush K dX7_soaks_27 (nI 999) (by decide) ?_
  refine r_aload_n K dX7_soaks_30 2 rfl ?_
  refine r_iload_n K dX7_soaks_31 3 rfl ?_
  refine r_iconst K dX7_soaks_32 (nI 1) (by decide) ?_
  refine r_cSd K dX7_soaks_33 (c_X7_ofG l Γ g 1) mX7_ofG q850 rfl (by decide) 1 rfl [] [0] rfl rfl [eI Γ x 42 r] rfl [eI Γ x 42 r] rfl rfl rfl [.ref x, .int (nI 999), .int (nI (iG g 1)), .ref x] rfl (Nat.le_of_ble_eq_true rfl) ?_
  refine r_aldN K dX7_soaks_36 0 rfl (by first | omega | exact iG_lt (by omega) (by decide) | exact iM_lt (by omega) (by decide)) (by decide) ?_
  refine r_iload_n K dX7_soaks_37 1 rfl ?_
  refine r_iload K dX7_soaks_38 0 rfl ?_
  refine r_idiv K dX7_soaks_40 (hd1_ne hh) ?_
  refine r_iadd K dX7_soaks_41 ?_
  refine r_cSd K dX7_soaks_42 (c_X7_least l Γ (nI 999) ((r (iG g 1)) + (((r (iG g 2)) + w) / ((r (iG g 0)) + (nI 1))))) mX7_least q870 rfl (by decide) 1 rfl [] [0] rfl rfl [eI Γ x 42 r] rfl [eI Γ x 42 r] rfl rfl rfl [.int (nI (iG g 1)), .ref x] rfl (Nat.le_of_ble_eq_true rfl) ?_
  refine r_top (y := mn999 (r (iG g 1) + (r (iG g 2) + w) / (r (iG g 0) + nI 1))) (ls999 _) ?_
  refine r_astN K dX7_soaks_45 (ws1 := [eI Γ x 42 (upd r (iG g 1) (mn999 (r (iG g 1) + (r (iG g 2) + w) / (r (iG g 0) + nI 1))))]) 0 rfl (by first | omega | exact iG_lt (by omega) (by decide) | exact iM_lt (by omega) (by decide)) (by decide) rfl ?_
  refine r_aload_n K dX7_soaks_46 2 rfl ?_
  refine r_iload_n K dX7_soaks_47 3 rfl ?_
  refine r_iconst K dX7_soaks_48 (nI 2) (by decide) ?_
  refine r_cSd K dX7_soaks_49 (c_X7_ofG l Γ g 2) mX7_ofG q850 rfl (by decide) 1 rfl [] [0] rfl rfl [eI Γ x 42 (upd r (iG g 1) (mn999 (r (iG g 1) + (r (iG g 2) + w) / (r (iG g 0) + nI 1))))] rfl [eI Γ x 42 (upd r (iG g 1) (mn999 (r (iG g 1) + (r (iG g 2) + w) / (r (iG g 0) + nI 1))))] rfl rfl rfl [.ref x] rfl (Nat.le_of_ble_eq_true rfl) ?_
  refine r_iload_n K dX7_soaks_52 1 rfl ?_
  refine r_iload K dX7_soaks_53 0 rfl ?_
  refine r_irem K dX7_soaks_55 (hd1_ne hh) ?_
  refine r_astN K dX7_soaks_56 (ws1 := [eI Γ x 42 (upd (upd r (iG g 1) (mn999 (r (iG g 1) + (r (iG g 2) + w) / (r (iG g 0) + nI 1)))) (iG g 2) (((r (iG g 2)) + w) - ((r (iG g 2)) + w) / ((r (iG g 0)) + (nI 1)) * ((r (iG g 0)) + (nI 1))))]) 0 rfl (by first | omega | exact iG_lt (by omega) (by decide) | exact iM_lt (by omega) (by decide)) (by decide) rfl ?_
  exact hR () dX7_soaks_57 (trivial) rfl (weq.rf)
set_option maxHeartbeats 1000000 in
set_option maxRecDepth 20000 in
theorem c_X7_day (l : Launch) (Γ : eG) (x : Nat) (r : Nat → Int32) (b : Bool) (hI : Inv r) : cD l Γ yX7_day cX7_day 4 (none) 2 [.ref x, .int (bz b)] [eI Γ x 42 r] none [eI Γ x 42 (dayB r b)] := by
  refine e_void [(0, .ref x), (1, .int (bz b))] (by decide +kernel) (Nat.le_of_ble_eq_true rfl) rfl (fun V K hR => ?_)
  have h5 := hI.g
  have h6 := hI.m
  have e1 : ∀ j, nM (soakTo (upd r 2 (r 2 + nI 1)) j) = nM r := fun j => by rw [soakTo_nM, nM_2]
  refine r_aload_n K dX7_day_0 0 rfl ?_
  refine r_iconst K dX7_day_1 (nI 2) (by decide) ?_
  refine r_dup2 K dX7_day_2 rfl rfl ?_
  refine r_aldN K dX7_day_3 0 rfl (by first | omega | exact iG_lt (by omega) (by decide) | exact iM_lt (by omega) (by decide)) (by decide) ?_
  refine r_iconst K dX7_day_4 (nI 1) (by decide) ?_
  refine r_iadd K dX7_day_5 ?_
  refine r_astN K dX7_day_6 (ws1 := [eI Γ x 42 (upd r 2 ((r 2) + (nI 1)))]) 0 rfl (by first | omega | exact iG_lt (by omega) (by decide) | exact iM_lt (by omega) (by decide)) (by decide) rfl ?_
  refine r_iconst K dX7_day_7 (nI 0) (by decide) ?_
  refine r_istore_n K dX7_day_8 rfl (by decide) (lv1 := [(2, .int (nI 0)), (0, .ref x), (1, .int (bz b))]) rfl ?_
  have L9 : ∀ (fL9 : Nat) (i : Nat), (i ≤ nM r) → (b = true → i = 0) → nM r - i < fL9 → V 9 [(2, .int (nI i)), (0, .ref x), (1, .int (bz b))] [] [eI Γ x 42 (soakTo (upd r 2 (r 2 + nI 1)) i)] := by
    intro fL9
    induction fL9 with
    | zero => intro i hi hib hf; exact absurd hf (Nat.not_lt_zero _)
    | succ fL9 ih_L9 =>
      intro i hi hib hfL9
      refine r_iload_n K dX7_day_9 0 rfl ?_
      refine r_aload_n K dX7_day_10 1 rfl ?_
      refine r_iconst K dX7_day_11 (nI 1) (by decide) ?_
      refine r_aldN K dX7_day_12 0 rfl (by first | omega | exact iG_lt (by omega) (by decide) | exact iM_lt (by omega) (by decide)) (by decide) ?_
      refine r_top (y := nI (nM r)) ((Inv_soakTo (Inv_2 hI) i (by omega)).r1.trans (by rw [e1])) ?_
      refine r_ic_geN K dX7_day_13 (by omega) (by omega) (fun c13 => ?_) (fun c13 => ?_)
      · obtain ⟨cs, hcs⟩ : ∃ cs, cs = soakTo (upd r 2 (r 2 + nI 1)) i := ⟨_, rfl⟩
        have hcI : Inv cs := by rw [hcs]; exact Inv_soakTo (Inv_2 hI) i (by omega)
        have hcM : nM cs = nM r := by rw [hcs]; exact e1 i
        have hcE : fadeTo cs (nM r) = dayB r b := by
          rw [hcs]
          have ei : i = nM r := by omega
          subst ei
          have hb : b = false ∨ nM r = 0 := by cases b; exact Or.inl rfl; exact Or.inr (hib rfl)
          rcases hb with hb | hb
          · rw [hb]; exact (dayS_cut hI).symm
          · unfold dayB; split
            · rw [wdayS_cut hI, hb]; rfl
            · exact (dayS_cut hI).symm
        refine r_arr K (f2 := fadeTo cs 0) (ws1 := [eI Γ x 42 (fadeTo cs 0)]) 0 rfl (fun _ _ => by rw [hcs]; rfl) rfl ?_
        refine r_iconst K dX7_day_52 (nI 0) (by decide) ?_
        refine r_istore_n K dX7_day_53 rfl (by decide) (lv1 := [(2, .int (nI 0)), (0, .ref x), (1, .int (bz b))]) rfl ?_
        have L54 : ∀ (fL54 : Nat) (j : Nat), (j ≤ nM r) → nM r - j < fL54 → V 54 [(2, .int (nI j)), (0, .ref x), (1, .int (bz b))] [] [eI Γ x 42 (fadeTo cs j)] := by
          intro fL54
          induction fL54 with
          | zero => intro j hj hf; exact absurd hf (Nat.not_lt_zero _)
          | succ fL54 ih_L54 =>
            intro j hj hfL54
            refine r_iload_n K dX7_day_54 0 rfl ?_
            refine r_aload_n K dX7_day_55 1 rfl ?_
            refine r_iconst K dX7_day_56 (nI 1) (by decide) ?_
            refine r_aldN K dX7_day_57 0 rfl (by first | omega | exact iG_lt (by omega) (by decide) | exact iM_lt (by omega) (by decide)) (by decide) ?_
            refine r_top (y := nI (nM r)) ((Inv_fadeTo hcI j (by omega)).r1.trans (by rw [fadeTo_nM, hcM])) ?_
            refine r_ic_geN K dX7_day_58 (by omega) (by omega) (fun c58 => ?_) (fun c58 => ?_)
            · obtain rfl : j = nM r := by omega
              refine r_arr K (f2 := dayB r b) (ws1 := [eI Γ x 42 (dayB r b)]) 0 rfl (fun _ _ => by rw [hcE]) rfl ?_
              exact hR () dX7_day_102 (trivial) rfl (weq.rf)
            · refine r_aload_n K dX7_day_61 1 rfl ?_
              refine r_iload_n K dX7_day_62 0 rfl ?_
              refine r_iconst K dX7_day_63 (nI 2) (by decide) ?_
              refine r_cSd K dX7_day_64 (c_X7_ofM l Γ j 2) mX7_ofM q853 rfl (by decide) 1 rfl [] [0] rfl rfl [eI Γ x 42 (fadeTo cs j)] rfl [eI Γ x 42 (fadeTo cs j)] rfl rfl rfl [.ref x] rfl (Nat.le_of_ble_eq_true rfl) ?_
              refine r_aldN K dX7_day_67 0 rfl (by first | omega | exact iG_lt (by omega) (by decide) | exact iM_lt (by omega) (by decide)) (by decide) ?_
              refine r_aload_n K dX7_day_68 1 rfl ?_
              refine r_iload_n K dX7_day_69 0 rfl ?_
              refine r_iconst K dX7_day_70 (nI 0) (by decide) ?_
              refine r_cSd K dX7_day_71 (c_X7_ofM l Γ j 0) mX7_ofM q853 rfl (by decide) 1 rfl [] [0] rfl rfl [eI Γ x 42 (fadeTo cs j)] rfl [eI Γ x 42 (fadeTo cs j)] rfl rfl rfl [.ref x, .int ((fadeTo cs j) (iM j 2))] rfl (Nat.le_of_ble_eq_true rfl) ?_
              refine r_aldN K dX7_day_74 0 rfl (by first | omega | exact iG_lt (by omega) (by decide) | exact iM_lt (by omega) (by decide)) (by decide) ?_
              refine r_cSd K dX7_day_75 (c_X7_fadesBy l Γ ((fadeTo cs j) (iM j 0))) mX7_fadesBy q885 rfl (by decide) 1 rfl [] [0] rfl rfl [eI Γ x 42 (fadeTo cs j)] rfl [eI Γ x 42 (fadeTo cs j)] rfl rfl rfl [.int ((fadeTo cs j) (iM j 2))] rfl (Nat.le_of_ble_eq_true rfl) ?_
              refine r_isub K dX7_day_78 ?_
              refine r_istore_n K dX7_day_79 rfl (by decide) (lv1 := [(3, .int (((fadeTo cs j) (iM j 2)) - (fadeK ((fadeTo cs j) (iM j 0))))), (2, .int (nI j)), (0, .ref x), (1, .int (bz b))]) rfl ?_
              refine r_aload_n K dX7_day_80 2 rfl ?_
              refine r_iload_n K dX7_day_81 1 rfl ?_
              refine r_iconst K dX7_day_82 (nI 2) (by decide) ?_
              refine r_cSd K dX7_day_83 (c_X7_ofM l Γ j 2) mX7_ofM q853 rfl (by decide) 1 rfl [] [0] rfl rfl [eI Γ x 42 (fadeTo cs j)] rfl [eI Γ x 42 (fadeTo cs j)] rfl rfl rfl [.ref x] rfl (Nat.le_of_ble_eq_true rfl) ?_
              refine r_iload_n K dX7_day_86 0 rfl ?_
              refine r_if_ge K dX7_day_87 (fun c87 => ?_) (fun c87 => ?_)
              · refine r_iload_n K dX7_day_94 0 rfl ?_
                refine r_top (y := mx0 (fadeTo cs j (iM j 2) - fadeK (fadeTo cs j (iM j 0)))) ((if_neg (Int32.not_lt.mpr c87)).symm) ?_
                refine r_astN K dX7_day_95 (ws1 := [eI Γ x 42 (upd (fadeTo cs j) (iM j 2) (mx0 (fadeTo cs j (iM j 2) - fadeK (fadeTo cs j (iM j 0)))))]) 0 rfl (by first | omega | exact iG_lt (by omega) (by decide) | exact iM_lt (by omega) (by decide)) (by decide) rfl ?_
                refine r_arr K (f2 := fadeTo cs (j + 1)) (ws1 := [eI Γ x 42 (fadeTo cs (j + 1))]) 0 rfl (fun _ _ => by rw [fadeTo_s]) rfl ?_
                refine r_iincN K dX7_day_96 (n := 1) 1 rfl rfl (by decide) (lv1 := [(2, .int (nI (j + 1))), (3, .int (((fadeTo cs j) (iM j 2)) - (fadeK ((fadeTo cs j) (iM j 0))))), (0, .ref x), (1, .int (bz b))]) rfl ?_
                refine r_goto K dX7_day_99 ?_
                refine r_lv K [0, 2, 3] rfl ?_
                exact ih_L54 (j + 1) (by omega) (by omega)
              · refine r_iconst K dX7_day_90 (nI 0) (by decide) ?_
                refine r_goto K dX7_day_91 ?_
                refine r_top (y := mx0 (fadeTo cs j (iM j 2) - fadeK (fadeTo cs j (iM j 0)))) ((if_pos (Int32.not_le.mp c87)).symm) ?_
                refine r_astN K dX7_day_95 (ws1 := [eI Γ x 42 (upd (fadeTo cs j) (iM j 2) (mx0 (fadeTo cs j (iM j 2) - fadeK (fadeTo cs j (iM j 0)))))]) 0 rfl (by first | omega | exact iG_lt (by omega) (by decide) | exact iM_lt (by omega) (by decide)) (by decide) rfl ?_
                refine r_arr K (f2 := fadeTo cs (j + 1)) (ws1 := [eI Γ x 42 (fadeTo cs (j + 1))]) 0 rfl (fun _ _ => by rw [fadeTo_s]) rfl ?_
                refine r_iincN K dX7_day_96 (n := 1) 1 rfl rfl (by decide) (lv1 := [(2, .int (nI (j + 1))), (3, .int (((fadeTo cs j) (iM j 2)) - (fadeK ((fadeTo cs j) (iM j 0))))), (0, .ref x), (1, .int (bz b))]) rfl ?_
                refine r_goto K dX7_day_99 ?_
                refine r_lv K [0, 2, 3] rfl ?_
                exact ih_L54 (j + 1) (by omega) (by omega)
        exact L54 _ 0 (Nat.zero_le _) (Nat.lt_succ_self _)
      · refine r_iload_n K dX7_day_16 2 rfl ?_
        refine r_ifneB K dX7_day_17 (fun c17 => ?_) (fun c17 => ?_)
        · obtain ⟨cs, hcs⟩ : ∃ cs, cs = soakTo (upd r 2 (r 2 + nI 1)) i := ⟨_, rfl⟩
          have hcI : Inv cs := by rw [hcs]; exact Inv_soakTo (Inv_2 hI) i (by omega)
          have hcM : nM cs = nM r := by rw [hcs]; exact e1 i
          have hcE : fadeTo cs (nM r) = dayB r b := by
            rw [hcs]
            have ei : i = 0 := hib c17
            subst ei
            rw [c17]; exact (wdayS_cut hI).symm
          refine r_arr K (f2 := fadeTo cs 0) (ws1 := [eI Γ x 42 (fadeTo cs 0)]) 0 rfl (fun _ _ => by rw [hcs]; rfl) rfl ?_
          refine r_iconst K dX7_day_52 (nI 0) (by decide) ?_
          refine r_istore_n K dX7_day_53 rfl (by decide) (lv1 := [(2, .int (nI 0)), (0, .ref x), (1, .int (bz b))]) rfl ?_
          have L54 : ∀ (fL54 : Nat) (j : Nat), (j ≤ nM r) → nM r - j < fL54 → V 54 [(2, .int (nI j)), (0, .ref x), (1, .int (bz b))] [] [eI Γ x 42 (fadeTo cs j)] := by
            intro fL54
            induction fL54 with
            | zero => intro j hj hf; exact absurd hf (Nat.not_lt_zero _)
            | succ fL54 ih_L54 =>
              intro j hj hfL54
              refine r_iload_n K dX7_day_54 0 rfl ?_
              refine r_aload_n K dX7_day_55 1 rfl ?_
              refine r_iconst K dX7_day_56 (nI 1) (by decide) ?_
              refine r_aldN K dX7_day_57 0 rfl (by first | omega | exact iG_lt (by omega) (by decide) | exact iM_lt (by omega) (by decide)) (by decide) ?_
              refine r_top (y := nI (nM r)) ((Inv_fadeTo hcI j (by omega)).r1.trans (by rw [fadeTo_nM, hcM])) ?_
              refine r_ic_geN K dX7_day_58 (by omega) (by omega) (fun c58 => ?_) (fun c58 => ?_)
              · obtain rfl : j = nM r := by omega
                refine r_arr K (f2 := dayB r b) (ws1 := [eI Γ x 42 (dayB r b)]) 0 rfl (fun _ _ => by rw [hcE]) rfl ?_
                exact hR () dX7_day_102 (trivial) rfl (weq.rf)
              · refine r_aload_n K dX7_day_61 1 rfl ?_
                refine r_iload_n K dX7_day_62 0 rfl ?_
                refine r_iconst K dX7_day_63 (nI 2) (by decide) ?_
                refine r_cSd K dX7_day_64 (c_X7_ofM l Γ j 2) mX7_ofM q853 rfl (by decide) 1 rfl [] [0] rfl rfl [eI Γ x 42 (fadeTo cs j)] rfl [eI Γ x 42 (fadeTo cs j)] rfl rfl rfl [.ref x] rfl (Nat.le_of_ble_eq_true rfl) ?_
                refine r_aldN K dX7_day_67 0 rfl (by first | omega | exact iG_lt (by omega) (by decide) | exact iM_lt (by omega) (by decide)) (by decide) ?_
                refine r_aload_n K dX7_day_68 1 rfl ?_
                refine r_iload_n K dX7_day_69 0 rfl ?_
                refine r_iconst K dX7_day_70 (nI 0) (by decide) ?_
                refine r_cSd K dX7_day_71 (c_X7_ofM l Γ j 0) mX7_ofM q853 rfl (by decide) 1 rfl [] [0] rfl rfl [eI Γ x 42 (fadeTo cs j)] rfl [eI Γ x 42 (fadeTo cs j)] rfl rfl rfl [.ref x, .int ((fadeTo cs j) (iM j 2))] rfl (Nat.le_of_ble_eq_true rfl) ?_
                refine r_aldN K dX7_day_74 0 rfl (by first | omega | exact iG_lt (by omega) (by decide) | exact iM_lt (by omega) (by decide)) (by decide) ?_
                refine r_cSd K dX7_day_75 (c_X7_fadesBy l Γ ((fadeTo cs j) (iM j 0))) mX7_fadesBy q885 rfl (by decide) 1 rfl [] [0] rfl rfl [eI Γ x 42 (fadeTo cs j)] rfl [eI Γ x 42 (fadeTo cs j)] rfl rfl rfl [.int ((fadeTo cs j) (iM j 2))] rfl (Nat.le_of_ble_eq_true rfl) ?_
                refine r_isub K dX7_day_78 ?_
                refine r_istore_n K dX7_day_79 rfl (by decide) (lv1 := [(3, .int (((fadeTo cs j) (iM j 2)) - (fadeK ((fadeTo cs j) (iM j 0))))), (2, .int (nI j)), (0, .ref x), (1, .int (bz b))]) rfl ?_
                refine r_aload_n K dX7_day_80 2 rfl ?_
                refine r_iload_n K dX7_day_81 1 rfl ?_
                refine r_iconst K dX7_day_82 (nI 2) (by decide) ?_
                refine r_cSd K dX7_day_83 (c_X7_ofM l Γ j 2) mX7_ofM q853 rfl (by decide) 1 rfl [] [0] rfl rfl [eI Γ x 42 (fadeTo cs j)] rfl [eI Γ x 42 (fadeTo cs j)] rfl rfl rfl [.ref x] rfl (Nat.le_of_ble_eq_true rfl) ?_
                refine r_iload_n K dX7_day_86 0 rfl ?_
                refine r_if_ge K dX7_day_87 (fun c87 => ?_) (fun c87 => ?_)
                · refine r_iload_n K dX7_day_94 0 rfl ?_
                  refine r_top (y := mx0 (fadeTo cs j (iM j 2) - fadeK (fadeTo cs j (iM j 0)))) ((if_neg (Int32.not_lt.mpr c87)).symm) ?_
                  refine r_astN K dX7_day_95 (ws1 := [eI Γ x 42 (upd (fadeTo cs j) (iM j 2) (mx0 (fadeTo cs j (iM j 2) - fadeK (fadeTo cs j (iM j 0)))))]) 0 rfl (by first | omega | exact iG_lt (by omega) (by decide) | exact iM_lt (by omega) (by decide)) (by decide) rfl ?_
                  refine r_arr K (f2 := fadeTo cs (j + 1)) (ws1 := [eI Γ x 42 (fadeTo cs (j + 1))]) 0 rfl (fun _ _ => by rw [fadeTo_s]) rfl ?_
                  refine r_iincN K dX7_day_96 (n := 1) 1 rfl rfl (by decide) (lv1 := [(2, .int (nI (j + 1))), (3, .int (((fadeTo cs j) (iM j 2)) - (fadeK ((fadeTo cs j) (iM j 0))))), (0, .ref x), (1, .int (bz b))]) rfl ?_
                  refine r_goto K dX7_day_99 ?_
                  refine r_lv K [0, 2, 3] rfl ?_
                  exact ih_L54 (j + 1) (by omega) (by omega)
                · refine r_iconst K dX7_day_90 (nI 0) (by decide) ?_
                  refine r_goto K dX7_day_91 ?_
                  refine r_top (y := mx0 (fadeTo cs j (iM j 2) - fadeK (fadeTo cs j (iM j 0)))) ((if_pos (Int32.not_le.mp c87)).symm) ?_
                  refine r_astN K dX7_day_95 (ws1 := [eI Γ x 42 (upd (fadeTo cs j) (iM j 2) (mx0 (fadeTo cs j (iM j 2) - fadeK (fadeTo cs j (iM j 0)))))]) 0 rfl (by first | omega | exact iG_lt (by omega) (by decide) | exact iM_lt (by omega) (by decide)) (by decide) rfl ?_
                  refine r_arr K (f2 := fadeTo cs (j + 1)) (ws1 := [eI Γ x 42 (fadeTo cs (j + 1))]) 0 rfl (fun _ _ => by rw [fadeTo_s]) rfl ?_
                  refine r_iincN K dX7_day_96 (n := 1) 1 rfl rfl (by decide) (lv1 := [(2, .int (nI (j + 1))), (3, .int (((fadeTo cs j) (iM j 2)) - (fadeK ((fadeTo cs j) (iM j 0))))), (0, .ref x), (1, .int (bz b))]) rfl ?_
                  refine r_goto K dX7_day_99 ?_
                  refine r_lv K [0, 2, 3] rfl ?_
                  exact ih_L54 (j + 1) (by omega) (by omega)
          exact L54 _ 0 (Nat.zero_le _) (Nat.lt_succ_self _)
        · refine r_aload_n K dX7_day_20 1 rfl ?_
          refine r_iload_n K dX7_day_21 0 rfl ?_
          refine r_iconst K dX7_day_22 (nI 3) (by decide) ?_
          refine r_cSd K dX7_day_23 (c_X7_ofM l Γ i 3) mX7_ofM q853 rfl (by decide) 1 rfl [] [0] rfl rfl [eI Γ x 42 (soakTo (upd r 2 (r 2 + nI 1)) i)] rfl [eI Γ x 42 (soakTo (upd r 2 (r 2 + nI 1)) i)] rfl rfl rfl [.ref x] rfl (Nat.le_of_ble_eq_true rfl) ?_
          refine r_aldN K dX7_day_26 0 rfl (by first | omega | exact iG_lt (by omega) (by decide) | exact iM_lt (by omega) (by decide)) (by decide) ?_
          have hpl : pl (soakTo (upd r 2 (r 2 + nI 1)) i) i = soakTo (upd r 2 (r 2 + nI 1)) i (iM i 3) := pl_in (by rw [e1]; omega)
          refine r_if_lt K dX7_day_27 (fun c27 => ?_) (fun c27 => ?_)
          · refine r_iincN K dX7_day_46 (n := 1) 0 rfl rfl (by decide) (lv1 := [(2, .int (nI (i + 1))), (0, .ref x), (1, .int (bz b))]) rfl ?_
            refine r_goto K dX7_day_49 ?_
            refine r_arr K (f2 := soakTo (upd r 2 (r 2 + nI 1)) (i + 1)) (ws1 := [eI Γ x 42 (soakTo (upd r 2 (r 2 + nI 1)) (i + 1))]) 0 rfl (fun _ _ => by rw [soakTo_neg (by rw [hpl]; exact c27)]) rfl ?_
            exact ih_L9 (i + 1) (by omega) (fun q => by rw [q] at c17; cases c17) (by omega)
          · refine r_aload_n K dX7_day_30 1 rfl ?_
            refine r_aload_n K dX7_day_31 1 rfl ?_
            refine r_iload_n K dX7_day_32 0 rfl ?_
            refine r_iconst K dX7_day_33 (nI 3) (by decide) ?_
            refine r_cSd K dX7_day_34 (c_X7_ofM l Γ i 3) mX7_ofM q853 rfl (by decide) 1 rfl [] [0] rfl rfl [eI Γ x 42 (soakTo (upd r 2 (r 2 + nI 1)) i)] rfl [eI Γ x 42 (soakTo (upd r 2 (r 2 + nI 1)) i)] rfl rfl rfl [.ref x, .ref x] rfl (Nat.le_of_ble_eq_true rfl) ?_
            obtain ⟨g, hg, eg⟩ : ∃ g, g < nG (soakTo (upd r 2 (r 2 + nI 1)) i) ∧ soakTo (upd r 2 (r 2 + nI 1)) i (iM i 3) = nI g := by
              rcases (Inv_soakTo (Inv_2 hI) i (by omega)).at i with q | q
              · rw [hpl] at q; exact absurd (by rw [q]; exact m9) c27
              · rw [hpl] at q; exact q
            have hg5 : g < 5 := Nat.lt_of_lt_of_le hg (Inv_soakTo (Inv_2 hI) i (by omega)).g
            refine r_aldN K dX7_day_37 0 rfl (by first | omega | exact iG_lt (by omega) (by decide) | exact iM_lt (by omega) (by decide)) (by decide) ?_
            refine r_top (y := nI g) (eg) ?_
            refine r_aload_n K dX7_day_38 1 rfl ?_
            refine r_iload_n K dX7_day_39 0 rfl ?_
            refine r_cSd K dX7_day_40 (c_X7_weeps l Γ x (soakTo (upd r 2 (r 2 + nI 1)) i) i (by first | assumption | omega)) mX7_weeps q879 rfl (by decide) 1 rfl [0] [] rfl rfl [] rfl [eI Γ x 42 (soakTo (upd r 2 (r 2 + nI 1)) i)] rfl rfl rfl [.int (nI g), .ref x] rfl (Nat.le_of_ble_eq_true rfl) ?_
            refine r_cSn K dX7_day_43 (c_X7_soaks l Γ x (soakTo (upd r 2 (r 2 + nI 1)) i) g (weepS (soakTo (upd r 2 (r 2 + nI 1)) i) i) (by first | assumption | omega) ((Inv_soakTo (Inv_2 hI) i (by omega)).gH hg5)) mX7_soaks q882 rfl (by decide) 1 rfl [0] [] rfl rfl [] rfl [eI Γ x 42 (soakS (soakTo (upd r 2 (r 2 + nI 1)) i) g (weepS (soakTo (upd r 2 (r 2 + nI 1)) i) i))] rfl rfl rfl [] rfl (Nat.le_of_ble_eq_true rfl) ?_
            refine r_iincN K dX7_day_46 (n := 1) 0 rfl rfl (by decide) (lv1 := [(2, .int (nI (i + 1))), (0, .ref x), (1, .int (bz b))]) rfl ?_
            refine r_goto K dX7_day_49 ?_
            refine r_arr K (f2 := soakTo (upd r 2 (r 2 + nI 1)) (i + 1)) (ws1 := [eI Γ x 42 (soakTo (upd r 2 (r 2 + nI 1)) (i + 1))]) 0 rfl (fun _ _ => by rw [soakTo_N (by rw [hpl]; exact eg) (by omega)]) rfl ?_
            exact ih_L9 (i + 1) (by omega) (fun q => by rw [q] at c17; cases c17) (by omega)
  exact L9 _ 0 (Nat.zero_le _) (fun _ => rfl) (Nat.lt_succ_self _)
set_option maxHeartbeats 1000000 in
set_option maxRecDepth 20000 in
theorem c_X7_daysOn (l : Launch) (Γ : eG) (x : Nat) (r : Nat → Int32) (n : Nat) (hI : Inv r) (hn : n < 2 ^ 31) : cD l Γ yX7_daysOn cX7_daysOn 3 (none) 3 [.ref x, .int (nI n)] [eI Γ x 42 r] none [eI Γ x 42 (daysS r n)] := by
  refine e_void [(0, .ref x), (1, .int (nI n))] (by decide +kernel) (Nat.le_of_ble_eq_true rfl) rfl (fun V K hR => ?_)
  refine r_iconst K dX7_daysOn_0 (nI 0) (by decide) ?_
  refine r_istore_n K dX7_daysOn_1 rfl (by decide) (lv1 := [(2, .int (nI 0)), (0, .ref x), (1, .int (nI n))]) rfl ?_
  have L2 : ∀ (fL2 : Nat) (i : Nat), (i ≤ n) → n - i < fL2 → V 2 [(2, .int (nI i)), (0, .ref x), (1, .int (nI n))] [] [eI Γ x 42 (daysS r i)] := by
    intro fL2
    induction fL2 with
    | zero => intro i hi hf; exact absurd hf (Nat.not_lt_zero _)
    | succ fL2 ih_L2 =>
      intro i hi hfL2
      refine r_iload_n K dX7_daysOn_2 0 rfl ?_
      refine r_iload_n K dX7_daysOn_3 2 rfl ?_
      refine r_ic_geN K dX7_daysOn_4 (by omega) (by omega) (fun c4 => ?_) (fun c4 => ?_)
      · obtain rfl : n = i := by omega
        exact hR () dX7_daysOn_18 (trivial) rfl (weq.rf)
      · refine r_aload_n K dX7_daysOn_7 1 rfl ?_
        refine r_iconst K dX7_daysOn_8 (nI 0) (by decide) ?_
        refine r_cSn K dX7_daysOn_9 (c_X7_day l Γ x (daysS r i) false (Inv_daysS hI i)) mX7_day q876 rfl (by decide) 1 rfl [0] [] rfl rfl [] rfl [eI Γ x 42 (dayB (daysS r i) false)] rfl rfl rfl [] rfl (Nat.le_of_ble_eq_true rfl) ?_
        refine r_iincN K dX7_daysOn_12 (n := 1) 0 rfl rfl (by decide) (lv1 := [(2, .int (nI (i + 1))), (0, .ref x), (1, .int (nI n))]) rfl ?_
        refine r_goto K dX7_daysOn_15 ?_
        refine r_arr K (f2 := daysS r (i + 1)) (ws1 := [eI Γ x 42 (daysS r (i + 1))]) 0 rfl (fun _ _ => rfl) rfl ?_
        exact ih_L2 (i + 1) (by omega) (by omega)
  exact L2 _ 0 (Nat.zero_le n) (Nat.lt_succ_self _)
set_option maxHeartbeats 1000000 in
set_option maxRecDepth 20000 in
theorem c_X7_isTold (l : Launch) (Γ : eG) (x : Nat) (r : Nat → Int32) (p : Nat) (hp : p < 6) : cD l Γ yX7_isTold cX7_isTold 2 (none) 1 [.ref x, .int (nI p)] [eI Γ x 42 r] none [eI Γ x 42 (tellS r p)] := by
  refine e_void [(0, .ref x), (1, .int (nI p))] (by decide +kernel) (Nat.le_of_ble_eq_true rfl) rfl (fun V K hR => ?_)
  refine r_aload_n K dX7_isTold_0 0 rfl ?_
  refine r_iload_n K dX7_isTold_1 1 rfl ?_
  refine r_iconst K dX7_isTold_2 (nI 2) (by decide) ?_
  refine r_cSd K dX7_isTold_3 (c_X7_ofM l Γ p 2) mX7_ofM q853 rfl (by decide) 1 rfl [] [0] rfl rfl [eI Γ x 42 r] rfl [eI Γ x 42 r] rfl rfl rfl [.ref x] rfl (Nat.le_of_ble_eq_true rfl) ?_
  refine r_bipush K dX7_isTold_6 (nI 99) (by decide) ?_
  refine r_aload_n K dX7_isTold_8 0 rfl ?_
  refine r_iload_n K dX7_isTold_9 1 rfl ?_
  refine r_iconst K dX7_isTold_10 (nI 2) (by decide) ?_
  refine r_cSd K dX7_isTold_11 (c_X7_ofM l Γ p 2) mX7_ofM q853 rfl (by decide) 1 rfl [] [0] rfl rfl [eI Γ x 42 r] rfl [eI Γ x 42 r] rfl rfl rfl [.ref x, .int (nI 99), .int (nI (iM p 2)), .ref x] rfl (Nat.le_of_ble_eq_true rfl) ?_
  refine r_aldN K dX7_isTold_14 0 rfl (by first | omega | exact iG_lt (by omega) (by decide) | exact iM_lt (by omega) (by decide)) (by decide) ?_
  refine r_aload_n K dX7_isTold_15 0 rfl ?_
  refine r_iload_n K dX7_isTold_16 1 rfl ?_
  refine r_iconst K dX7_isTold_17 (nI 0) (by decide) ?_
  refine r_cSd K dX7_isTold_18 (c_X7_ofM l Γ p 0) mX7_ofM q853 rfl (by decide) 1 rfl [] [0] rfl rfl [eI Γ x 42 r] rfl [eI Γ x 42 r] rfl rfl rfl [.ref x, .int (r (iM p 2)), .int (nI 99), .int (nI (iM p 2)), .ref x] rfl (Nat.le_of_ble_eq_true rfl) ?_
  refine r_aldN K dX7_isTold_21 0 rfl (by first | omega | exact iG_lt (by omega) (by decide) | exact iM_lt (by omega) (by decide)) (by decide) ?_
  refine r_cSd K dX7_isTold_22 (c_X7_toldBy l Γ (r (iM p 0))) mX7_toldBy q867 rfl (by decide) 1 rfl [] [0] rfl rfl [eI Γ x 42 r] rfl [eI Γ x 42 r] rfl rfl rfl [.int (r (iM p 2)), .int (nI 99), .int (nI (iM p 2)), .ref x] rfl (Nat.le_of_ble_eq_true rfl) ?_
  refine r_iadd K dX7_isTold_25 ?_
  refine r_cSd K dX7_isTold_26 (c_X7_least l Γ (nI 99) ((r (iM p 2)) + (toldK (r (iM p 0))))) mX7_least q870 rfl (by decide) 1 rfl [] [0] rfl rfl [eI Γ x 42 r] rfl [eI Γ x 42 r] rfl rfl rfl [.int (nI (iM p 2)), .ref x] rfl (Nat.le_of_ble_eq_true rfl) ?_
  refine r_top (y := mn99 (r (iM p 2) + toldK (r (iM p 0)))) (ls99 _) ?_
  refine r_astN K dX7_isTold_29 (ws1 := [eI Γ x 42 (upd r (iM p 2) (mn99 (r (iM p 2) + toldK (r (iM p 0)))))]) 0 rfl (by first | omega | exact iG_lt (by omega) (by decide) | exact iM_lt (by omega) (by decide)) (by decide) rfl ?_
  exact hR () dX7_isTold_30 (trivial) rfl (weq.rf)
set_option maxHeartbeats 1000000 in
set_option maxRecDepth 20000 in
theorem c_X7_payIn (l : Launch) (Γ : eG) (x : Nat) (r : Nat → Int32) (hI : Inv r) : cD l Γ yX7_payIn cX7_payIn 3 (some .int) 1 [.ref x] [eI Γ x 42 r] (some (.int (payS r))) [eI Γ x 42 r] := by
  refine e_int [(0, .ref x)] (by decide +kernel) (Nat.le_of_ble_eq_true rfl) rfl (fun V K hR => ?_)
  have h5 := hI.g
  have h6 := hI.m
  refine r_iconst K dX7_payIn_0 (nI 0) (by decide) ?_
  refine r_istore_n K dX7_payIn_1 rfl (by decide) (lv1 := [(1, .int (nI 0)), (0, .ref x)]) rfl ?_
  refine r_iconst K dX7_payIn_2 (nI 0) (by decide) ?_
  refine r_istore_n K dX7_payIn_3 rfl (by decide) (lv1 := [(2, .int (nI 0)), (1, .int (nI 0)), (0, .ref x)]) rfl ?_
  have L4 : ∀ (fL4 : Nat) (i : Nat) (v : Int32), (i ≤ nG r) → (v = sumTo (fun g => r (iG g 1) / nI 12) i) → nG r - i < fL4 → V 4 [(2, .int (nI i)), (1, .int v), (0, .ref x)] [] [eI Γ x 42 r] := by
    intro fL4
    induction fL4 with
    | zero => intro i v hi hv hf; exact absurd hf (Nat.not_lt_zero _)
    | succ fL4 ih_L4 =>
      intro i v hi hv hfL4
      refine r_iload_n K dX7_payIn_4 0 rfl ?_
      refine r_aload_n K dX7_payIn_5 2 rfl ?_
      refine r_iconst K dX7_payIn_6 (nI 0) (by decide) ?_
      refine r_aldN K dX7_payIn_7 0 rfl (by first | omega | exact iG_lt (by omega) (by decide) | exact iM_lt (by omega) (by decide)) (by decide) ?_
      refine r_top (y := nI (nG r)) (hI.r0) ?_
      refine r_ic_geN K dX7_payIn_8 (by omega) (by omega) (fun c8 => ?_) (fun c8 => ?_)
      · obtain rfl : i = nG r := by omega
        refine r_iload_n K dX7_payIn_30 1 rfl ?_
        exact hR () dX7_payIn_31 (trivial) (e_ri ((payS_cut hI).trans hv.symm)) (weq.rf)
      · refine r_iload_n K dX7_payIn_11 1 rfl ?_
        refine r_aload_n K dX7_payIn_12 2 rfl ?_
        refine r_iload_n K dX7_payIn_13 0 rfl ?_
        refine r_iconst K dX7_payIn_14 (nI 1) (by decide) ?_
        refine r_cSd K dX7_payIn_15 (c_X7_ofG l Γ i 1) mX7_ofG q850 rfl (by decide) 1 rfl [] [0] rfl rfl [eI Γ x 42 r] rfl [eI Γ x 42 r] rfl rfl rfl [.ref x, .int v] rfl (Nat.le_of_ble_eq_true rfl) ?_
        refine r_aldN K dX7_payIn_18 0 rfl (by first | omega | exact iG_lt (by omega) (by decide) | exact iM_lt (by omega) (by decide)) (by decide) ?_
        refine r_bipush K dX7_payIn_19 (nI 12) (by decide) ?_
        refine r_idiv K dX7_payIn_21 (by decide) ?_
        refine r_iadd K dX7_payIn_22 ?_
        refine r_istore_n K dX7_payIn_23 rfl (by decide) (lv1 := [(1, .int (v + ((r (iG i 1)) / (nI 12)))), (2, .int (nI i)), (0, .ref x)]) rfl ?_
        refine r_iincN K dX7_payIn_24 (n := 1) 1 rfl rfl (by decide) (lv1 := [(2, .int (nI (i + 1))), (1, .int (v + ((r (iG i 1)) / (nI 12)))), (0, .ref x)]) rfl ?_
        refine r_goto K dX7_payIn_27 ?_
        exact ih_L4 (i + 1) (v + ((r (iG i 1)) / (nI 12))) (by omega) (by rw [hv]; rfl) (by omega)
  exact L4 _ 0 (nI 0) (Nat.zero_le _) (rfl) (Nat.lt_succ_self _)
set_option maxHeartbeats 1000000 in
set_option maxRecDepth 20000 in
theorem c_X7_inchesIn (l : Launch) (Γ : eG) (x : Nat) (r : Nat → Int32) (hI : Inv r) : cD l Γ yX7_inchesIn cX7_inchesIn 3 (some .int) 1 [.ref x] [eI Γ x 42 r] (some (.int (incS r))) [eI Γ x 42 r] := by
  refine e_int [(0, .ref x)] (by decide +kernel) (Nat.le_of_ble_eq_true rfl) rfl (fun V K hR => ?_)
  have h5 := hI.g
  have h6 := hI.m
  refine r_iconst K dX7_inchesIn_0 (nI 0) (by decide) ?_
  refine r_istore_n K dX7_inchesIn_1 rfl (by decide) (lv1 := [(1, .int (nI 0)), (0, .ref x)]) rfl ?_
  refine r_iconst K dX7_inchesIn_2 (nI 0) (by decide) ?_
  refine r_istore_n K dX7_inchesIn_3 rfl (by decide) (lv1 := [(2, .int (nI 0)), (1, .int (nI 0)), (0, .ref x)]) rfl ?_
  have L4 : ∀ (fL4 : Nat) (i : Nat) (v : Int32), (i ≤ nG r) → (v = sumTo (fun g => r (iG g 1)) i) → nG r - i < fL4 → V 4 [(2, .int (nI i)), (1, .int v), (0, .ref x)] [] [eI Γ x 42 r] := by
    intro fL4
    induction fL4 with
    | zero => intro i v hi hv hf; exact absurd hf (Nat.not_lt_zero _)
    | succ fL4 ih_L4 =>
      intro i v hi hv hfL4
      refine r_iload_n K dX7_inchesIn_4 0 rfl ?_
      refine r_aload_n K dX7_inchesIn_5 2 rfl ?_
      refine r_iconst K dX7_inchesIn_6 (nI 0) (by decide) ?_
      refine r_aldN K dX7_inchesIn_7 0 rfl (by first | omega | exact iG_lt (by omega) (by decide) | exact iM_lt (by omega) (by decide)) (by decide) ?_
      refine r_top (y := nI (nG r)) (hI.r0) ?_
      refine r_ic_geN K dX7_inchesIn_8 (by omega) (by omega) (fun c8 => ?_) (fun c8 => ?_)
      · obtain rfl : i = nG r := by omega
        refine r_iload_n K dX7_inchesIn_27 1 rfl ?_
        exact hR () dX7_inchesIn_28 (trivial) (e_ri ((incS_cut hI).trans hv.symm)) (weq.rf)
      · refine r_iload_n K dX7_inchesIn_11 1 rfl ?_
        refine r_aload_n K dX7_inchesIn_12 2 rfl ?_
        refine r_iload_n K dX7_inchesIn_13 0 rfl ?_
        refine r_iconst K dX7_inchesIn_14 (nI 1) (by decide) ?_
        refine r_cSd K dX7_inchesIn_15 (c_X7_ofG l Γ i 1) mX7_ofG q850 rfl (by decide) 1 rfl [] [0] rfl rfl [eI Γ x 42 r] rfl [eI Γ x 42 r] rfl rfl rfl [.ref x, .int v] rfl (Nat.le_of_ble_eq_true rfl) ?_
        refine r_aldN K dX7_inchesIn_18 0 rfl (by first | omega | exact iG_lt (by omega) (by decide) | exact iM_lt (by omega) (by decide)) (by decide) ?_
        refine r_iadd K dX7_inchesIn_19 ?_
        refine r_istore_n K dX7_inchesIn_20 rfl (by decide) (lv1 := [(1, .int (v + (r (iG i 1)))), (2, .int (nI i)), (0, .ref x)]) rfl ?_
        refine r_iincN K dX7_inchesIn_21 (n := 1) 1 rfl rfl (by decide) (lv1 := [(2, .int (nI (i + 1))), (1, .int (v + (r (iG i 1)))), (0, .ref x)]) rfl ?_
        refine r_goto K dX7_inchesIn_24 ?_
        exact ih_L4 (i + 1) (v + (r (iG i 1))) (by omega) (by rw [hv]; rfl) (by omega)
  exact L4 _ 0 (nI 0) (Nat.zero_le _) (rfl) (Nat.lt_succ_self _)
/-! THE REFERENCE: its object -/
