/-! CHURCHYARD: what is read over all -/
set_option maxHeartbeats 1000000 in
set_option maxRecDepth 20000 in
theorem c_X0_payOf (l : Launch) (Γ : eG) (h : Nat) (a : Nat → Nat) (r : Nat → Int32) (g : Nat) (hI : Inv r) (hg : g < nG r) : cD l Γ yX0_payOf cX0_payOf 2 (some .int) 2 [.ref h, .int (nI g)] [ydW Γ h a r] (some (.int (r (iG g 1) / nI 12))) [ydW Γ h a r] := by
  refine e_int [(0, .ref h), (1, .int (nI g))] (by decide +kernel) (Nat.le_of_ble_eq_true rfl) rfl (fun V K hR => ?_)
  have h5 := hI.g
  have h6 := hI.m
  refine r_aload_n K dX0_payOf_0 0 rfl ?_
  refine r_iload_n K dX0_payOf_1 1 rfl ?_
  refine r_cVd K dX0_payOf_2 (c_X0_depthN l Γ h a r g (hI) (by first | omega | (simp only [daysS_nM, daysS_nG, dayS_nM, dayS_nG, tellS_nM, tellS_nG, aloneTo_nM, aloneTo_nG, nM_M, nG_M, nM_G, nG_G, lv_nM, lv_nG, gnT_nM, gnT_nG] <;> omega))) mX0_depth q314 rfl (by decide) rfl rfl 1 rfl [0] [] rfl rfl [] rfl [ydW Γ h a r] rfl rfl rfl [] rfl (Nat.le_of_ble_eq_true rfl) ?_
  refine r_bipush K dX0_payOf_5 (nI 12) (by decide) ?_
  refine r_idiv K dX0_payOf_7 (by decide) ?_
  exact hR () dX0_payOf_8 (trivial) (e_ri (rfl)) (weq.rf)
set_option maxHeartbeats 1000000 in
set_option maxRecDepth 20000 in
theorem c_X0_allPay (l : Launch) (Γ : eG) (h : Nat) (a : Nat → Nat) (r : Nat → Int32) (hI : Inv r) : cD l Γ yX0_allPay cX0_allPay 3 (some .int) 0 [.ref h] [ydW Γ h a r] (some (.int (sumTo (fun g => r (iG g 1) / nI 12) 5))) [ydW Γ h a r] := by
  refine e_int [(0, .ref h)] (by decide +kernel) (Nat.le_of_ble_eq_true rfl) rfl (fun V K hR => ?_)
  have h5 := hI.g
  have h6 := hI.m
  refine r_ws K (ws1 := [eO h 0 [.ref (a 0), .ref (a 1), .ref (a 2), .ref (a 3), .ref (a 4), .ref (a 5), .ref (a 6), .int (nI (nG r)), .int (nI (nM r)), .int (r 2)], eI Γ (a 0) 5 (fun gg => r (iG gg 0)), eI Γ (a 1) 5 (fun gg => r (iG gg 1)), eI Γ (a 2) 5 (fun gg => r (iG gg 2)), eI Γ (a 3) 6 (fun pp => r (iM pp 0)), eI Γ (a 4) 6 (fun pp => r (iM pp 1)), eI Γ (a 5) 6 (fun pp => r (iM pp 2)), eI Γ (a 6) 6 (fun pp => pl r pp)]) (yd_u r) ?_
  refine r_iconst K dX0_allPay_0 (nI 0) (by decide) ?_
  refine r_istore_n K dX0_allPay_1 rfl (by decide) (lv1 := [(1, .int (nI 0)), (0, .ref h)]) rfl ?_
  refine r_iconst K dX0_allPay_2 (nI 0) (by decide) ?_
  refine r_istore_n K dX0_allPay_3 rfl (by decide) (lv1 := [(2, .int (nI 0)), (1, .int (nI 0)), (0, .ref h)]) rfl ?_
  have L4 : ∀ (fL4 : Nat) (i : Nat) (v : Int32), (i ≤ 5) → (v = sumTo (fun g => r (iG g 1) / nI 12) i) → 5 - i < fL4 → V 4 [(2, .int (nI i)), (1, .int v), (0, .ref h)] [] [eO h 0 [.ref (a 0), .ref (a 1), .ref (a 2), .ref (a 3), .ref (a 4), .ref (a 5), .ref (a 6), .int (nI (nG r)), .int (nI (nM r)), .int (r 2)], eI Γ (a 0) 5 (fun gg => r (iG gg 0)), eI Γ (a 1) 5 (fun gg => r (iG gg 1)), eI Γ (a 2) 5 (fun gg => r (iG gg 2)), eI Γ (a 3) 6 (fun pp => r (iM pp 0)), eI Γ (a 4) 6 (fun pp => r (iM pp 1)), eI Γ (a 5) 6 (fun pp => r (iM pp 2)), eI Γ (a 6) 6 (fun pp => pl r pp)] := by
    intro fL4
    induction fL4 with
    | zero => intro i v hi hv hf; exact absurd hf (Nat.not_lt_zero _)
    | succ fL4 ih_L4 =>
      intro i v hi hv hfL4
      refine r_iload_n K dX0_allPay_4 0 rfl ?_
      refine r_iconst K dX0_allPay_5 (nI 5) (by decide) ?_
      refine r_ic_geN K dX0_allPay_6 (by omega) (by omega) (fun c6 => ?_) (fun c6 => ?_)
      · obtain rfl : i = 5 := by omega
        refine r_iload_n K dX0_allPay_27 1 rfl ?_
        exact hR () dX0_allPay_28 (trivial) (e_ri (hv.symm)) (yd_f r)
      · refine r_iload_n K dX0_allPay_9 1 rfl ?_
        refine r_aload_n K dX0_allPay_10 2 rfl ?_
        refine r_get K dX0_allPay_11 (kf := 1) 0 rfl rfl hinX0 (by decide) q30 rfl rfl ?_
        refine r_iload_n K dX0_allPay_14 0 rfl ?_
        refine r_aldN K dX0_allPay_15 2 rfl (by first | omega | exact iG_lt (by omega) (by decide) | exact iM_lt (by omega) (by decide)) (by decide) ?_
        refine r_bipush K dX0_allPay_16 (nI 12) (by decide) ?_
        refine r_idiv K dX0_allPay_18 (by decide) ?_
        refine r_iadd K dX0_allPay_19 ?_
        refine r_istore_n K dX0_allPay_20 rfl (by decide) (lv1 := [(1, .int (v + ((r (iG i 1)) / (nI 12)))), (2, .int (nI i)), (0, .ref h)]) rfl ?_
        refine r_iincN K dX0_allPay_21 (n := 1) 1 rfl rfl (by decide) (lv1 := [(2, .int (nI (i + 1))), (1, .int (v + ((r (iG i 1)) / (nI 12)))), (0, .ref h)]) rfl ?_
        refine r_goto K dX0_allPay_24 ?_
        exact ih_L4 (i + 1) (v + ((r (iG i 1)) / (nI 12))) (by omega) (by rw [hv]; rfl) (by omega)
  exact L4 _ 0 (nI 0) (Nat.zero_le 5) (rfl) (Nat.lt_succ_self _)
set_option maxHeartbeats 1000000 in
set_option maxRecDepth 20000 in
theorem c_X0_allInches (l : Launch) (Γ : eG) (h : Nat) (a : Nat → Nat) (r : Nat → Int32) (hI : Inv r) : cD l Γ yX0_allInches cX0_allInches 3 (some .int) 0 [.ref h] [ydW Γ h a r] (some (.int (sumTo (fun g => r (iG g 1)) 5))) [ydW Γ h a r] := by
  refine e_int [(0, .ref h)] (by decide +kernel) (Nat.le_of_ble_eq_true rfl) rfl (fun V K hR => ?_)
  have h5 := hI.g
  have h6 := hI.m
  refine r_ws K (ws1 := [eO h 0 [.ref (a 0), .ref (a 1), .ref (a 2), .ref (a 3), .ref (a 4), .ref (a 5), .ref (a 6), .int (nI (nG r)), .int (nI (nM r)), .int (r 2)], eI Γ (a 0) 5 (fun gg => r (iG gg 0)), eI Γ (a 1) 5 (fun gg => r (iG gg 1)), eI Γ (a 2) 5 (fun gg => r (iG gg 2)), eI Γ (a 3) 6 (fun pp => r (iM pp 0)), eI Γ (a 4) 6 (fun pp => r (iM pp 1)), eI Γ (a 5) 6 (fun pp => r (iM pp 2)), eI Γ (a 6) 6 (fun pp => pl r pp)]) (yd_u r) ?_
  refine r_iconst K dX0_allInches_0 (nI 0) (by decide) ?_
  refine r_istore_n K dX0_allInches_1 rfl (by decide) (lv1 := [(1, .int (nI 0)), (0, .ref h)]) rfl ?_
  refine r_iconst K dX0_allInches_2 (nI 0) (by decide) ?_
  refine r_istore_n K dX0_allInches_3 rfl (by decide) (lv1 := [(2, .int (nI 0)), (1, .int (nI 0)), (0, .ref h)]) rfl ?_
  have L4 : ∀ (fL4 : Nat) (i : Nat) (v : Int32), (i ≤ 5) → (v = sumTo (fun g => r (iG g 1)) i) → 5 - i < fL4 → V 4 [(2, .int (nI i)), (1, .int v), (0, .ref h)] [] [eO h 0 [.ref (a 0), .ref (a 1), .ref (a 2), .ref (a 3), .ref (a 4), .ref (a 5), .ref (a 6), .int (nI (nG r)), .int (nI (nM r)), .int (r 2)], eI Γ (a 0) 5 (fun gg => r (iG gg 0)), eI Γ (a 1) 5 (fun gg => r (iG gg 1)), eI Γ (a 2) 5 (fun gg => r (iG gg 2)), eI Γ (a 3) 6 (fun pp => r (iM pp 0)), eI Γ (a 4) 6 (fun pp => r (iM pp 1)), eI Γ (a 5) 6 (fun pp => r (iM pp 2)), eI Γ (a 6) 6 (fun pp => pl r pp)] := by
    intro fL4
    induction fL4 with
    | zero => intro i v hi hv hf; exact absurd hf (Nat.not_lt_zero _)
    | succ fL4 ih_L4 =>
      intro i v hi hv hfL4
      refine r_iload_n K dX0_allInches_4 0 rfl ?_
      refine r_iconst K dX0_allInches_5 (nI 5) (by decide) ?_
      refine r_ic_geN K dX0_allInches_6 (by omega) (by omega) (fun c6 => ?_) (fun c6 => ?_)
      · obtain rfl : i = 5 := by omega
        refine r_iload_n K dX0_allInches_24 1 rfl ?_
        exact hR () dX0_allInches_25 (trivial) (e_ri (hv.symm)) (yd_f r)
      · refine r_iload_n K dX0_allInches_9 1 rfl ?_
        refine r_aload_n K dX0_allInches_10 2 rfl ?_
        refine r_get K dX0_allInches_11 (kf := 1) 0 rfl rfl hinX0 (by decide) q30 rfl rfl ?_
        refine r_iload_n K dX0_allInches_14 0 rfl ?_
        refine r_aldN K dX0_allInches_15 2 rfl (by first | omega | exact iG_lt (by omega) (by decide) | exact iM_lt (by omega) (by decide)) (by decide) ?_
        refine r_iadd K dX0_allInches_16 ?_
        refine r_istore_n K dX0_allInches_17 rfl (by decide) (lv1 := [(1, .int (v + (r (iG i 1)))), (2, .int (nI i)), (0, .ref h)]) rfl ?_
        refine r_iincN K dX0_allInches_18 (n := 1) 1 rfl rfl (by decide) (lv1 := [(2, .int (nI (i + 1))), (1, .int (v + (r (iG i 1)))), (0, .ref h)]) rfl ?_
        refine r_goto K dX0_allInches_21 ?_
        exact ih_L4 (i + 1) (v + (r (iG i 1))) (by omega) (by rw [hv]; rfl) (by omega)
  exact L4 _ 0 (nI 0) (Nat.zero_le 5) (rfl) (Nat.lt_succ_self _)
set_option maxHeartbeats 1000000 in
set_option maxRecDepth 20000 in
theorem c_X0_allGrief (l : Launch) (Γ : eG) (h : Nat) (a : Nat → Nat) (r : Nat → Int32) (hI : Inv r) : cD l Γ yX0_allGrief cX0_allGrief 3 (some .int) 0 [.ref h] [ydW Γ h a r] (some (.int (sumTo (fun p => r (iM p 2)) 6))) [ydW Γ h a r] := by
  refine e_int [(0, .ref h)] (by decide +kernel) (Nat.le_of_ble_eq_true rfl) rfl (fun V K hR => ?_)
  have h5 := hI.g
  have h6 := hI.m
  refine r_ws K (ws1 := [eO h 0 [.ref (a 0), .ref (a 1), .ref (a 2), .ref (a 3), .ref (a 4), .ref (a 5), .ref (a 6), .int (nI (nG r)), .int (nI (nM r)), .int (r 2)], eI Γ (a 0) 5 (fun gg => r (iG gg 0)), eI Γ (a 1) 5 (fun gg => r (iG gg 1)), eI Γ (a 2) 5 (fun gg => r (iG gg 2)), eI Γ (a 3) 6 (fun pp => r (iM pp 0)), eI Γ (a 4) 6 (fun pp => r (iM pp 1)), eI Γ (a 5) 6 (fun pp => r (iM pp 2)), eI Γ (a 6) 6 (fun pp => pl r pp)]) (yd_u r) ?_
  refine r_iconst K dX0_allGrief_0 (nI 0) (by decide) ?_
  refine r_istore_n K dX0_allGrief_1 rfl (by decide) (lv1 := [(1, .int (nI 0)), (0, .ref h)]) rfl ?_
  refine r_iconst K dX0_allGrief_2 (nI 0) (by decide) ?_
  refine r_istore_n K dX0_allGrief_3 rfl (by decide) (lv1 := [(2, .int (nI 0)), (1, .int (nI 0)), (0, .ref h)]) rfl ?_
  have L4 : ∀ (fL4 : Nat) (i : Nat) (v : Int32), (i ≤ 6) → (v = sumTo (fun p => r (iM p 2)) i) → 6 - i < fL4 → V 4 [(2, .int (nI i)), (1, .int v), (0, .ref h)] [] [eO h 0 [.ref (a 0), .ref (a 1), .ref (a 2), .ref (a 3), .ref (a 4), .ref (a 5), .ref (a 6), .int (nI (nG r)), .int (nI (nM r)), .int (r 2)], eI Γ (a 0) 5 (fun gg => r (iG gg 0)), eI Γ (a 1) 5 (fun gg => r (iG gg 1)), eI Γ (a 2) 5 (fun gg => r (iG gg 2)), eI Γ (a 3) 6 (fun pp => r (iM pp 0)), eI Γ (a 4) 6 (fun pp => r (iM pp 1)), eI Γ (a 5) 6 (fun pp => r (iM pp 2)), eI Γ (a 6) 6 (fun pp => pl r pp)] := by
    intro fL4
    induction fL4 with
    | zero => intro i v hi hv hf; exact absurd hf (Nat.not_lt_zero _)
    | succ fL4 ih_L4 =>
      intro i v hi hv hfL4
      refine r_iload_n K dX0_allGrief_4 0 rfl ?_
      refine r_bipush K dX0_allGrief_5 (nI 6) (by decide) ?_
      refine r_ic_geN K dX0_allGrief_7 (by omega) (by omega) (fun c7 => ?_) (fun c7 => ?_)
      · obtain rfl : i = 6 := by omega
        refine r_iload_n K dX0_allGrief_25 1 rfl ?_
        exact hR () dX0_allGrief_26 (trivial) (e_ri (hv.symm)) (yd_f r)
      · refine r_iload_n K dX0_allGrief_10 1 rfl ?_
        refine r_aload_n K dX0_allGrief_11 2 rfl ?_
        refine r_get K dX0_allGrief_12 (kf := 5) 0 rfl rfl hinX0 (by decide) q34 rfl rfl ?_
        refine r_iload_n K dX0_allGrief_15 0 rfl ?_
        refine r_aldN K dX0_allGrief_16 6 rfl (by first | omega | exact iG_lt (by omega) (by decide) | exact iM_lt (by omega) (by decide)) (by decide) ?_
        refine r_iadd K dX0_allGrief_17 ?_
        refine r_istore_n K dX0_allGrief_18 rfl (by decide) (lv1 := [(1, .int (v + (r (iM i 2)))), (2, .int (nI i)), (0, .ref h)]) rfl ?_
        refine r_iincN K dX0_allGrief_19 (n := 1) 1 rfl rfl (by decide) (lv1 := [(2, .int (nI (i + 1))), (1, .int (v + (r (iM i 2)))), (0, .ref h)]) rfl ?_
        refine r_goto K dX0_allGrief_22 ?_
        exact ih_L4 (i + 1) (v + (r (iM i 2))) (by omega) (by rw [hv]; rfl) (by omega)
  exact L4 _ 0 (nI 0) (Nat.zero_le 6) (rfl) (Nat.lt_succ_self _)
set_option maxHeartbeats 1000000 in
set_option maxRecDepth 20000 in
theorem c_X0_allPayS (l : Launch) (Γ : eG) (h : Nat) (a : Nat → Nat) (r : Nat → Int32) (hI : Inv r) : cD l Γ yX0_allPay cX0_allPay 3 (some .int) 0 [.ref h] [ydW Γ h a r] (some (.int (payS r))) [ydW Γ h a r] := c_X0_allPay l Γ h a r hI
set_option maxHeartbeats 1000000 in
set_option maxRecDepth 20000 in
theorem c_X0_allInchesS (l : Launch) (Γ : eG) (h : Nat) (a : Nat → Nat) (r : Nat → Int32) (hI : Inv r) : cD l Γ yX0_allInches cX0_allInches 3 (some .int) 0 [.ref h] [ydW Γ h a r] (some (.int (incS r))) [ydW Γ h a r] := c_X0_allInches l Γ h a r hI
set_option maxHeartbeats 1000000 in
set_option maxRecDepth 20000 in
theorem c_X0_allGriefS (l : Launch) (Γ : eG) (h : Nat) (a : Nat → Nat) (r : Nat → Int32) (hI : Inv r) : cD l Γ yX0_allGrief cX0_allGrief 3 (some .int) 0 [.ref h] [ydW Γ h a r] (some (.int (grfS r))) [ydW Γ h a r] := c_X0_allGrief l Γ h a r hI
set_option maxHeartbeats 1000000 in
set_option maxRecDepth 20000 in
theorem c_X0_daysToFoot (l : Launch) (Γ : eG) (h : Nat) (a : Nat → Nat) (r : Nat → Int32) (g : Nat) (hI : Inv r) (hg : g < nG r) : cD l Γ yX0_daysToFoot cX0_daysToFoot 6 (some .int) 4 [.ref h, .int (nI g)] [ydW Γ h a r] (some (.int (dtfS r g))) [ydW Γ h a r] := by
  refine e_int [(0, .ref h), (1, .int (nI g))] (by decide +kernel) (Nat.le_of_ble_eq_true rfl) rfl (fun V K hR => ?_)
  have h5 := hI.g
  have h6 := hI.m
  refine r_aload_n K dX0_daysToFoot_0 0 rfl ?_
  refine r_iload_n K dX0_daysToFoot_1 1 rfl ?_
  refine r_cVd K dX0_daysToFoot_2 (c_X0_payOf l Γ h a r g (hI) (by first | omega | (simp only [daysS_nM, daysS_nG, dayS_nM, dayS_nG, tellS_nM, tellS_nG, aloneTo_nM, aloneTo_nG, nM_M, nG_M, nM_G, nG_G, lv_nM, lv_nG, gnT_nM, gnT_nG] <;> omega))) mX0_payOf q331 rfl (by decide) rfl rfl 1 rfl [0] [] rfl rfl [] rfl [ydW Γ h a r] rfl rfl rfl [] rfl (Nat.le_of_ble_eq_true rfl) ?_
  refine r_iconst K dX0_daysToFoot_5 (nI 1) (by decide) ?_
  refine r_iadd K dX0_daysToFoot_6 ?_
  refine r_bipush K dX0_daysToFoot_7 (nI 12) (by decide) ?_
  refine r_imul K dX0_daysToFoot_9 ?_
  refine r_istore_n K dX0_daysToFoot_10 rfl (by decide) (lv1 := [(2, .int (((r (iG g 1) / nI 12) + (nI 1)) * (nI 12))), (0, .ref h), (1, .int (nI g))]) rfl ?_
  refine r_iload_n K dX0_daysToFoot_11 0 rfl ?_
  refine r_sipush K dX0_daysToFoot_12 (nI 999) (by decide) ?_
  refine r_ic_gt K dX0_daysToFoot_15 (fun c15 => ?_) (fun c15 => ?_)
  · refine r_bipush K dX0_daysToFoot_26 ((-9)) (by decide) ?_
    exact hR () dX0_daysToFoot_28 (trivial) (e_ri (if_pos (Or.inl c15))) (weq.rf)
  · refine r_aload_n K dX0_daysToFoot_18 1 rfl ?_
    refine r_iload_n K dX0_daysToFoot_19 2 rfl ?_
    refine r_cVd K dX0_daysToFoot_20 (c_X0_mournersAt l Γ h a r (nI g) (hI)) mX0_mournersAt q332 rfl (by decide) rfl rfl 1 rfl [0] [] rfl rfl [] rfl [ydW Γ h a r] rfl rfl rfl [] rfl (Nat.le_of_ble_eq_true rfl) ?_
    refine r_if_ne K dX0_daysToFoot_23 (fun c23 => ?_) (fun c23 => ?_)
    · have hE : dtfS r g = dtfL (r (iG g 2)) (wat r (nI g)) (((r (iG g 1) / nI 12 + nI 1) * nI 12 - r (iG g 1)) * (r (iG g 0) + nI 1)) 99 1 := if_neg (fun z => z.elim c15 c23)
      refine r_aload_n K dX0_daysToFoot_29 1 rfl ?_
      refine r_iload_n K dX0_daysToFoot_30 2 rfl ?_
      refine r_cVd K dX0_daysToFoot_31 (c_X0_weepingAt l Γ h a r (nI g) (hI) (nI_n9 (by omega))) mX0_weepingAt q336 rfl (by decide) rfl rfl 1 rfl [0] [] rfl rfl [] rfl [ydW Γ h a r] rfl rfl rfl [] rfl (Nat.le_of_ble_eq_true rfl) ?_
      refine r_istore_n K dX0_daysToFoot_34 rfl (by decide) (lv1 := [(3, .int (wat r (nI g))), (2, .int (((r (iG g 1) / nI 12) + (nI 1)) * (nI 12))), (0, .ref h), (1, .int (nI g))]) rfl ?_
      refine r_iload_n K dX0_daysToFoot_35 1 rfl ?_
      refine r_aload_n K dX0_daysToFoot_36 2 rfl ?_
      refine r_iload_n K dX0_daysToFoot_37 3 rfl ?_
      refine r_cVd K dX0_daysToFoot_38 (c_X0_depthN l Γ h a r g (hI) (by first | omega | (simp only [daysS_nM, daysS_nG, dayS_nM, dayS_nG, tellS_nM, tellS_nG, aloneTo_nM, aloneTo_nG, nM_M, nG_M, nM_G, nG_G, lv_nM, lv_nG, gnT_nM, gnT_nG] <;> omega))) mX0_depth q314 rfl (by decide) rfl rfl 1 rfl [0] [] rfl rfl [] rfl [ydW Γ h a r] rfl rfl rfl [.int (((r (iG g 1) / nI 12) + (nI 1)) * (nI 12))] rfl (Nat.le_of_ble_eq_true rfl) ?_
      refine r_isub K dX0_daysToFoot_41 ?_
      refine r_aload_n K dX0_daysToFoot_42 2 rfl ?_
      refine r_iload_n K dX0_daysToFoot_43 3 rfl ?_
      refine r_cVd K dX0_daysToFoot_44 (c_X0_weepingForInch l Γ h a r g (hI) (by first | omega | (simp only [daysS_nM, daysS_nG, dayS_nM, dayS_nG, tellS_nM, tellS_nG, aloneTo_nM, aloneTo_nG, nM_M, nG_M, nM_G, nG_G, lv_nM, lv_nG, gnT_nM, gnT_nG] <;> omega))) mX0_weepingForInch q337 rfl (by decide) rfl rfl 1 rfl [0] [] rfl rfl [] rfl [ydW Γ h a r] rfl rfl rfl [.int ((((r (iG g 1) / nI 12) + (nI 1)) * (nI 12)) - (r (iG g 1)))] rfl (Nat.le_of_ble_eq_true rfl) ?_
      refine r_imul K dX0_daysToFoot_47 ?_
      refine r_istore K dX0_daysToFoot_48 (by decide) (lv1 := [(4, .int (((((r (iG g 1) / nI 12) + (nI 1)) * (nI 12)) - (r (iG g 1))) * (r (iG g 0) + nI 1))), (3, .int (wat r (nI g))), (2, .int (((r (iG g 1) / nI 12) + (nI 1)) * (nI 12))), (0, .ref h), (1, .int (nI g))]) rfl ?_
      refine r_iconst K dX0_daysToFoot_50 (nI 1) (by decide) ?_
      refine r_istore K dX0_daysToFoot_51 (by decide) (lv1 := [(5, .int (nI 1)), (4, .int (((((r (iG g 1) / nI 12) + (nI 1)) * (nI 12)) - (r (iG g 1))) * (r (iG g 0) + nI 1))), (3, .int (wat r (nI g))), (2, .int (((r (iG g 1) / nI 12) + (nI 1)) * (nI 12))), (0, .ref h), (1, .int (nI g))]) rfl ?_
      have L53 : ∀ (fL53 : Nat) (f : Nat) (n : Nat), (f + n = 100) → (dtfS r g = dtfL (r (iG g 2)) (wat r (nI g)) (((r (iG g 1) / nI 12 + nI 1) * nI 12 - r (iG g 1)) * (r (iG g 0) + nI 1)) f n) → f < fL53 → V 53 [(5, .int (nI n)), (4, .int (((r (iG g 1) / nI 12 + nI 1) * nI 12 - r (iG g 1)) * (r (iG g 0) + nI 1))), (3, .int (wat r (nI g))), (0, .ref h), (1, .int (nI g))] [] [ydW Γ h a r] := by
        intro fL53
        induction fL53 with
        | zero => intro f n hfn hE hf; exact absurd hf (Nat.not_lt_zero _)
        | succ fL53 ih_L53 =>
          intro f n hfn hE hfL53
          refine r_iload K dX0_daysToFoot_53 0 rfl ?_
          refine r_bipush K dX0_daysToFoot_55 (nI 99) (by decide) ?_
          refine r_ic_gtN K dX0_daysToFoot_57 (by omega) (by omega) (fun c57 => ?_) (fun c57 => ?_)
          · obtain rfl : f = 0 := by omega
            refine r_bipush K dX0_daysToFoot_84 ((-9)) (by decide) ?_
            exact hR () dX0_daysToFoot_86 (trivial) (e_ri (hE)) (weq.rf)
          · obtain ⟨f, rfl⟩ : ∃ q, f = q + 1 := ⟨f - 1, by omega⟩
            refine r_aload_n K dX0_daysToFoot_60 3 rfl ?_
            refine r_iload_n K dX0_daysToFoot_61 4 rfl ?_
            refine r_cVd K dX0_daysToFoot_62 (c_X0_wetnessN l Γ h a r g (hI) (by first | omega | (simp only [daysS_nM, daysS_nG, dayS_nM, dayS_nG, tellS_nM, tellS_nG, aloneTo_nM, aloneTo_nG, nM_M, nG_M, nM_G, nG_G, lv_nM, lv_nG, gnT_nM, gnT_nG] <;> omega))) mX0_wetness q342 rfl (by decide) rfl rfl 1 rfl [0] [] rfl rfl [] rfl [ydW Γ h a r] rfl rfl rfl [] rfl (Nat.le_of_ble_eq_true rfl) ?_
            refine r_iload K dX0_daysToFoot_65 0 rfl ?_
            refine r_iload_n K dX0_daysToFoot_67 2 rfl ?_
            refine r_imul K dX0_daysToFoot_68 ?_
            refine r_iadd K dX0_daysToFoot_69 ?_
            refine r_iload K dX0_daysToFoot_70 1 rfl ?_
            refine r_ic_lt K dX0_daysToFoot_72 (fun c72 => ?_) (fun c72 => ?_)
            · refine r_iincN K dX0_daysToFoot_78 (n := 1) 0 rfl rfl (by decide) (lv1 := [(5, .int (nI (n + 1))), (4, .int (((r (iG g 1) / nI 12 + nI 1) * nI 12 - r (iG g 1)) * (r (iG g 0) + nI 1))), (3, .int (wat r (nI g))), (0, .ref h), (1, .int (nI g))]) rfl ?_
              refine r_goto K dX0_daysToFoot_81 ?_
              exact ih_L53 f (n + 1) (by omega) (hE.trans (if_neg (Int32.not_le.mpr c72))) (by omega)
            · refine r_iload K dX0_daysToFoot_75 0 rfl ?_
              exact hR () dX0_daysToFoot_77 (trivial) (e_ri (hE.trans (if_pos (Int32.not_lt.mp c72)))) (weq.rf)
      refine r_lv K [0, 1, 2, 4, 5] rfl ?_
      exact L53 _ 99 1 (rfl) (hE) (Nat.lt_succ_self _)
    · refine r_bipush K dX0_daysToFoot_26 ((-9)) (by decide) ?_
      exact hR () dX0_daysToFoot_28 (trivial) (e_ri (if_pos (Or.inr c23))) (weq.rf)
set_option maxHeartbeats 1000000 in
set_option maxRecDepth 20000 in
theorem c_X0_isDry (l : Launch) (Γ : eG) (h : Nat) (a : Nat → Nat) (r : Nat → Int32) (hI : Inv r) : cD l Γ yX0_isDry cX0_isDry 2 (some .boolean) 3 [.ref h] [ydW Γ h a r] (some (.int (bz (dryF r (nM r))))) [ydW Γ h a r] := by
  refine e_bool [(0, .ref h)] (by decide +kernel) (Nat.le_of_ble_eq_true rfl) rfl (fun V K hR => ?_)
  have h5 := hI.g
  have h6 := hI.m
  refine r_iconst K dX0_isDry_0 (nI 0) (by decide) ?_
  refine r_istore_n K dX0_isDry_1 rfl (by decide) (lv1 := [(1, .int (nI 0)), (0, .ref h)]) rfl ?_
  have L2 : ∀ (fL2 : Nat) (i : Nat), (i ≤ nM r) → (dryF r i = true) → nM r - i < fL2 → V 2 [(1, .int (nI i)), (0, .ref h)] [] [ydW Γ h a r] := by
    intro fL2
    induction fL2 with
    | zero => intro i hi hd hf; exact absurd hf (Nat.not_lt_zero _)
    | succ fL2 ih_L2 =>
      intro i hi hd hfL2
      refine r_iload_n K dX0_isDry_2 0 rfl ?_
      refine r_aload_n K dX0_isDry_3 1 rfl ?_
      refine r_ws K (ws1 := [eO h 0 [.ref (a 0), .ref (a 1), .ref (a 2), .ref (a 3), .ref (a 4), .ref (a 5), .ref (a 6), .int (nI (nG r)), .int (nI (nM r)), .int (r 2)], eI Γ (a 0) 5 (fun gg => r (iG gg 0)), eI Γ (a 1) 5 (fun gg => r (iG gg 1)), eI Γ (a 2) 5 (fun gg => r (iG gg 2)), eI Γ (a 3) 6 (fun pp => r (iM pp 0)), eI Γ (a 4) 6 (fun pp => r (iM pp 1)), eI Γ (a 5) 6 (fun pp => r (iM pp 2)), eI Γ (a 6) 6 (fun pp => pl r pp)]) (yd_u r) ?_
      refine r_get K dX0_isDry_4 (kf := 8) 0 rfl rfl hinX0 (by decide) q37 rfl rfl ?_
      refine r_ws K (ws1 := [ydW Γ h a r]) (yd_f r) ?_
      refine r_ic_geN K dX0_isDry_7 (by omega) (by omega) (fun c7 => ?_) (fun c7 => ?_)
      · have ei : i = nM r := by omega
        rw [ei] at hd
        refine r_iconst K dX0_isDry_36 (nI 1) (by decide) ?_
        exact hR () dX0_isDry_37 (rfl) (trivial) (e_ri (by rw [hd]; rfl)) (weq.rf)
      · refine r_aload_n K dX0_isDry_10 1 rfl ?_
        refine r_iload_n K dX0_isDry_11 0 rfl ?_
        refine r_cVd K dX0_isDry_12 (c_X0_placeOfN l Γ h a r i (hI) (by first | omega | (simp only [daysS_nM, daysS_nG, dayS_nM, dayS_nG, tellS_nM, tellS_nG, aloneTo_nM, aloneTo_nG, nM_M, nG_M, nM_G, nG_G, lv_nM, lv_nG, gnT_nM, gnT_nG] <;> omega))) mX0_placeOf q462 rfl (by decide) rfl rfl 1 rfl [0] [] rfl rfl [] rfl [ydW Γ h a r] rfl rfl rfl [] rfl (Nat.le_of_ble_eq_true rfl) ?_
        refine r_bipush K dX0_isDry_15 ((-9)) (by decide) ?_
        refine r_ic_eq K dX0_isDry_17 (fun c17 => ?_) (fun c17 => ?_)
        · refine r_iincN K dX0_isDry_30 (n := 1) 0 rfl rfl (by decide) (lv1 := [(1, .int (nI (i + 1))), (0, .ref h)]) rfl ?_
          refine r_goto K dX0_isDry_33 ?_
          exact ih_L2 (i + 1) (by omega) (by show (dryF r i && decide _) = true; rw [hd, decide_eq_true (Or.inl c17)]; rfl) (by omega)
        · refine r_aload_n K dX0_isDry_20 1 rfl ?_
          refine r_iload_n K dX0_isDry_21 0 rfl ?_
          refine r_cVd K dX0_isDry_22 (c_X0_weeps l Γ h a r i (hI) (by first | omega | (simp only [daysS_nM, daysS_nG, dayS_nM, dayS_nG, tellS_nM, tellS_nG, aloneTo_nM, aloneTo_nG, nM_M, nG_M, nM_G, nG_G, lv_nM, lv_nG, gnT_nM, gnT_nG] <;> omega))) mX0_weeps q319 rfl (by decide) rfl rfl 1 rfl [0] [] rfl rfl [] rfl [ydW Γ h a r] rfl rfl rfl [] rfl (Nat.le_of_ble_eq_true rfl) ?_
          refine r_if_le K dX0_isDry_25 (fun c25 => ?_) (fun c25 => ?_)
          · refine r_iincN K dX0_isDry_30 (n := 1) 0 rfl rfl (by decide) (lv1 := [(1, .int (nI (i + 1))), (0, .ref h)]) rfl ?_
            refine r_goto K dX0_isDry_33 ?_
            exact ih_L2 (i + 1) (by omega) (by show (dryF r i && decide _) = true; rw [hd, decide_eq_true (Or.inr c25)]; rfl) (by omega)
          · refine r_iconst K dX0_isDry_28 (nI 0) (by decide) ?_
            exact hR () dX0_isDry_29 (rfl) (trivial) (e_ri (by rw [dryF_f r (i := i) (by show (dryF r i && decide _) = false; rw [decide_eq_false (fun z => z.elim c17 c25)]; cases dryF r i <;> rfl) (nM r) (by omega)]; rfl)) (weq.rf)
  exact L2 _ 0 (Nat.zero_le _) (rfl) (Nat.lt_succ_self _)
set_option maxHeartbeats 1000000 in
set_option maxRecDepth 20000 in
theorem c_X0_driest (l : Launch) (Γ : eG) (h : Nat) (a : Nat → Nat) (r : Nat → Int32) (hI : Inv r) : cD l Γ yX0_driest cX0_driest 3 (some .int) 2 [.ref h] [ydW Γ h a r] (some (.int (exF r false (nG r)))) [ydW Γ h a r] := by
  refine e_int [(0, .ref h)] (by decide +kernel) (Nat.le_of_ble_eq_true rfl) rfl (fun V K hR => ?_)
  have h5 := hI.g
  have h6 := hI.m
  refine r_bipush K dX0_driest_0 ((-9)) (by decide) ?_
  refine r_istore_n K dX0_driest_2 rfl (by decide) (lv1 := [(1, .int (-9)), (0, .ref h)]) rfl ?_
  refine r_iconst K dX0_driest_3 (nI 0) (by decide) ?_
  refine r_istore_n K dX0_driest_4 rfl (by decide) (lv1 := [(2, .int (nI 0)), (1, .int (-9)), (0, .ref h)]) rfl ?_
  have L5 : ∀ (fL5 : Nat) (i : Nat) (b : Int32), (i ≤ nG r) → (b = exF r false i) → nG r - i < fL5 → V 5 [(2, .int (nI i)), (1, .int b), (0, .ref h)] [] [ydW Γ h a r] := by
    intro fL5
    induction fL5 with
    | zero => intro i b hi hb hf; exact absurd hf (Nat.not_lt_zero _)
    | succ fL5 ih_L5 =>
      intro i b hi hb hfL5
      refine r_iload_n K dX0_driest_5 0 rfl ?_
      refine r_aload_n K dX0_driest_6 2 rfl ?_
      refine r_ws K (ws1 := [eO h 0 [.ref (a 0), .ref (a 1), .ref (a 2), .ref (a 3), .ref (a 4), .ref (a 5), .ref (a 6), .int (nI (nG r)), .int (nI (nM r)), .int (r 2)], eI Γ (a 0) 5 (fun gg => r (iG gg 0)), eI Γ (a 1) 5 (fun gg => r (iG gg 1)), eI Γ (a 2) 5 (fun gg => r (iG gg 2)), eI Γ (a 3) 6 (fun pp => r (iM pp 0)), eI Γ (a 4) 6 (fun pp => r (iM pp 1)), eI Γ (a 5) 6 (fun pp => r (iM pp 2)), eI Γ (a 6) 6 (fun pp => pl r pp)]) (yd_u r) ?_
      refine r_get K dX0_driest_7 (kf := 7) 0 rfl rfl hinX0 (by decide) q36 rfl rfl ?_
      refine r_ws K (ws1 := [ydW Γ h a r]) (yd_f r) ?_
      refine r_ic_geN K dX0_driest_10 (by omega) (by omega) (fun c10 => ?_) (fun c10 => ?_)
      · have ei : i = nG r := by omega
        rw [ei] at hb
        refine r_iload_n K dX0_driest_40 1 rfl ?_
        exact hR () dX0_driest_41 (trivial) (e_ri (hb.symm)) (weq.rf)
      · refine r_iload_n K dX0_driest_13 1 rfl ?_
        refine r_bipush K dX0_driest_14 ((-9)) (by decide) ?_
        refine r_ic_eq K dX0_driest_16 (fun c16 => ?_) (fun c16 => ?_)
        · refine r_iload_n K dX0_driest_32 0 rfl ?_
          refine r_istore_n K dX0_driest_33 rfl (by decide) (lv1 := [(1, .int (nI i)), (2, .int (nI i)), (0, .ref h)]) rfl ?_
          refine r_iincN K dX0_driest_34 (n := 1) 1 rfl rfl (by decide) (lv1 := [(2, .int (nI (i + 1))), (1, .int (nI i)), (0, .ref h)]) rfl ?_
          refine r_goto K dX0_driest_37 ?_
          exact ih_L5 (i + 1) (nI i) (by omega) ((exF_s (Or.inl (hb.symm.trans c16))).symm) (by omega)
        · refine r_aload_n K dX0_driest_19 2 rfl ?_
          refine r_iload_n K dX0_driest_20 0 rfl ?_
          refine r_cVd K dX0_driest_21 (c_X0_depthN l Γ h a r i (hI) (by first | omega | (simp only [daysS_nM, daysS_nG, dayS_nM, dayS_nG, tellS_nM, tellS_nG, aloneTo_nM, aloneTo_nG, nM_M, nG_M, nM_G, nG_G, lv_nM, lv_nG, gnT_nM, gnT_nG] <;> omega))) mX0_depth q314 rfl (by decide) rfl rfl 1 rfl [0] [] rfl rfl [] rfl [ydW Γ h a r] rfl rfl rfl [] rfl (Nat.le_of_ble_eq_true rfl) ?_
          refine r_aload_n K dX0_driest_24 2 rfl ?_
          obtain ⟨j, hj, ej⟩ : ∃ j, j < i ∧ b = nI j := by
            rcases exF_cases r false i with q | q
            · exact absurd (hb.trans q) c16
            · rw [← hb] at q; exact q
          refine r_lc (lv1 := [(2, .int (nI i)), (1, .int (nI j)), (0, .ref h)]) (by rw [ej]) ?_
          refine r_iload_n K dX0_driest_25 1 rfl ?_
          refine r_cVd K dX0_driest_26 (c_X0_depthN l Γ h a r j (hI) (by first | omega | (simp only [daysS_nM, daysS_nG, dayS_nM, dayS_nG, tellS_nM, tellS_nG, aloneTo_nM, aloneTo_nG, nM_M, nG_M, nM_G, nG_G, lv_nM, lv_nG, gnT_nM, gnT_nG] <;> omega))) mX0_depth q314 rfl (by decide) rfl rfl 1 rfl [0] [] rfl rfl [] rfl [ydW Γ h a r] rfl rfl rfl [.int (r (iG i 1))] rfl (Nat.le_of_ble_eq_true rfl) ?_
          refine r_ic_ge K dX0_driest_29 (fun c29 => ?_) (fun c29 => ?_)
          · refine r_iincN K dX0_driest_34 (n := 1) 0 rfl rfl (by decide) (lv1 := [(2, .int (nI (i + 1))), (1, .int (nI j)), (0, .ref h)]) rfl ?_
            refine r_goto K dX0_driest_37 ?_
            exact ih_L5 (i + 1) (nI j) (by omega) (by rw [← ej, hb]; exact (exF_n (fun z => z.elim (fun q => c16 (hb.trans q)) (fun q => by rw [← hb, ej, ix_nI (by omega)] at q; exact absurd (of_decide_eq_true q) (Int32.not_lt.mpr c29)))).symm) (by omega)
          · refine r_iload_n K dX0_driest_32 0 rfl ?_
            refine r_istore_n K dX0_driest_33 rfl (by decide) (lv1 := [(1, .int (nI i)), (2, .int (nI i)), (0, .ref h)]) rfl ?_
            refine r_iincN K dX0_driest_34 (n := 1) 1 rfl rfl (by decide) (lv1 := [(2, .int (nI (i + 1))), (1, .int (nI i)), (0, .ref h)]) rfl ?_
            refine r_goto K dX0_driest_37 ?_
            exact ih_L5 (i + 1) (nI i) (by omega) ((exF_s (Or.inr (by rw [← hb, ej, ix_nI (by omega)]; exact decide_eq_true (Int32.not_le.mp c29)))).symm) (by omega)
  exact L5 _ 0 (-9) (Nat.zero_le _) (rfl) (Nat.lt_succ_self _)
set_option maxHeartbeats 1000000 in
set_option maxRecDepth 20000 in
theorem c_X0_deepest (l : Launch) (Γ : eG) (h : Nat) (a : Nat → Nat) (r : Nat → Int32) (hI : Inv r) : cD l Γ yX0_deepest cX0_deepest 3 (some .int) 2 [.ref h] [ydW Γ h a r] (some (.int (exF r true (nG r)))) [ydW Γ h a r] := by
  refine e_int [(0, .ref h)] (by decide +kernel) (Nat.le_of_ble_eq_true rfl) rfl (fun V K hR => ?_)
  have h5 := hI.g
  have h6 := hI.m
  refine r_bipush K dX0_deepest_0 ((-9)) (by decide) ?_
  refine r_istore_n K dX0_deepest_2 rfl (by decide) (lv1 := [(1, .int (-9)), (0, .ref h)]) rfl ?_
  refine r_iconst K dX0_deepest_3 (nI 0) (by decide) ?_
  refine r_istore_n K dX0_deepest_4 rfl (by decide) (lv1 := [(2, .int (nI 0)), (1, .int (-9)), (0, .ref h)]) rfl ?_
  have L5 : ∀ (fL5 : Nat) (i : Nat) (b : Int32), (i ≤ nG r) → (b = exF r true i) → nG r - i < fL5 → V 5 [(2, .int (nI i)), (1, .int b), (0, .ref h)] [] [ydW Γ h a r] := by
    intro fL5
    induction fL5 with
    | zero => intro i b hi hb hf; exact absurd hf (Nat.not_lt_zero _)
    | succ fL5 ih_L5 =>
      intro i b hi hb hfL5
      refine r_iload_n K dX0_deepest_5 0 rfl ?_
      refine r_aload_n K dX0_deepest_6 2 rfl ?_
      refine r_ws K (ws1 := [eO h 0 [.ref (a 0), .ref (a 1), .ref (a 2), .ref (a 3), .ref (a 4), .ref (a 5), .ref (a 6), .int (nI (nG r)), .int (nI (nM r)), .int (r 2)], eI Γ (a 0) 5 (fun gg => r (iG gg 0)), eI Γ (a 1) 5 (fun gg => r (iG gg 1)), eI Γ (a 2) 5 (fun gg => r (iG gg 2)), eI Γ (a 3) 6 (fun pp => r (iM pp 0)), eI Γ (a 4) 6 (fun pp => r (iM pp 1)), eI Γ (a 5) 6 (fun pp => r (iM pp 2)), eI Γ (a 6) 6 (fun pp => pl r pp)]) (yd_u r) ?_
      refine r_get K dX0_deepest_7 (kf := 7) 0 rfl rfl hinX0 (by decide) q36 rfl rfl ?_
      refine r_ws K (ws1 := [ydW Γ h a r]) (yd_f r) ?_
      refine r_ic_geN K dX0_deepest_10 (by omega) (by omega) (fun c10 => ?_) (fun c10 => ?_)
      · have ei : i = nG r := by omega
        rw [ei] at hb
        refine r_iload_n K dX0_deepest_40 1 rfl ?_
        exact hR () dX0_deepest_41 (trivial) (e_ri (hb.symm)) (weq.rf)
      · refine r_iload_n K dX0_deepest_13 1 rfl ?_
        refine r_bipush K dX0_deepest_14 ((-9)) (by decide) ?_
        refine r_ic_eq K dX0_deepest_16 (fun c16 => ?_) (fun c16 => ?_)
        · refine r_iload_n K dX0_deepest_32 0 rfl ?_
          refine r_istore_n K dX0_deepest_33 rfl (by decide) (lv1 := [(1, .int (nI i)), (2, .int (nI i)), (0, .ref h)]) rfl ?_
          refine r_iincN K dX0_deepest_34 (n := 1) 1 rfl rfl (by decide) (lv1 := [(2, .int (nI (i + 1))), (1, .int (nI i)), (0, .ref h)]) rfl ?_
          refine r_goto K dX0_deepest_37 ?_
          exact ih_L5 (i + 1) (nI i) (by omega) ((exF_s (Or.inl (hb.symm.trans c16))).symm) (by omega)
        · refine r_aload_n K dX0_deepest_19 2 rfl ?_
          refine r_iload_n K dX0_deepest_20 0 rfl ?_
          refine r_cVd K dX0_deepest_21 (c_X0_depthN l Γ h a r i (hI) (by first | omega | (simp only [daysS_nM, daysS_nG, dayS_nM, dayS_nG, tellS_nM, tellS_nG, aloneTo_nM, aloneTo_nG, nM_M, nG_M, nM_G, nG_G, lv_nM, lv_nG, gnT_nM, gnT_nG] <;> omega))) mX0_depth q314 rfl (by decide) rfl rfl 1 rfl [0] [] rfl rfl [] rfl [ydW Γ h a r] rfl rfl rfl [] rfl (Nat.le_of_ble_eq_true rfl) ?_
          refine r_aload_n K dX0_deepest_24 2 rfl ?_
          obtain ⟨j, hj, ej⟩ : ∃ j, j < i ∧ b = nI j := by
            rcases exF_cases r true i with q | q
            · exact absurd (hb.trans q) c16
            · rw [← hb] at q; exact q
          refine r_lc (lv1 := [(2, .int (nI i)), (1, .int (nI j)), (0, .ref h)]) (by rw [ej]) ?_
          refine r_iload_n K dX0_deepest_25 1 rfl ?_
          refine r_cVd K dX0_deepest_26 (c_X0_depthN l Γ h a r j (hI) (by first | omega | (simp only [daysS_nM, daysS_nG, dayS_nM, dayS_nG, tellS_nM, tellS_nG, aloneTo_nM, aloneTo_nG, nM_M, nG_M, nM_G, nG_G, lv_nM, lv_nG, gnT_nM, gnT_nG] <;> omega))) mX0_depth q314 rfl (by decide) rfl rfl 1 rfl [0] [] rfl rfl [] rfl [ydW Γ h a r] rfl rfl rfl [.int (r (iG i 1))] rfl (Nat.le_of_ble_eq_true rfl) ?_
          refine r_ic_le K dX0_deepest_29 (fun c29 => ?_) (fun c29 => ?_)
          · refine r_iincN K dX0_deepest_34 (n := 1) 0 rfl rfl (by decide) (lv1 := [(2, .int (nI (i + 1))), (1, .int (nI j)), (0, .ref h)]) rfl ?_
            refine r_goto K dX0_deepest_37 ?_
            exact ih_L5 (i + 1) (nI j) (by omega) (by rw [← ej, hb]; exact (exF_n (fun z => z.elim (fun q => c16 (hb.trans q)) (fun q => by rw [← hb, ej, ix_nI (by omega)] at q; exact absurd (of_decide_eq_true q) (Int32.not_lt.mpr c29)))).symm) (by omega)
          · refine r_iload_n K dX0_deepest_32 0 rfl ?_
            refine r_istore_n K dX0_deepest_33 rfl (by decide) (lv1 := [(1, .int (nI i)), (2, .int (nI i)), (0, .ref h)]) rfl ?_
            refine r_iincN K dX0_deepest_34 (n := 1) 1 rfl rfl (by decide) (lv1 := [(2, .int (nI (i + 1))), (1, .int (nI i)), (0, .ref h)]) rfl ?_
            refine r_goto K dX0_deepest_37 ?_
            exact ih_L5 (i + 1) (nI i) (by omega) ((exF_s (Or.inr (by rw [← hb, ej, ix_nI (by omega)]; exact decide_eq_true (Int32.not_le.mp c29)))).symm) (by omega)
  exact L5 _ 0 (-9) (Nat.zero_le _) (rfl) (Nat.lt_succ_self _)
set_option maxHeartbeats 1000000 in
set_option maxRecDepth 20000 in
theorem c_X0_weepsMost (l : Launch) (Γ : eG) (h : Nat) (a : Nat → Nat) (r : Nat → Int32) (hI : Inv r) : cD l Γ yX0_weepsMost cX0_weepsMost 3 (some .int) 3 [.ref h] [ydW Γ h a r] (some (.int (wmF r (nM r)))) [ydW Γ h a r] := by
  refine e_int [(0, .ref h)] (by decide +kernel) (Nat.le_of_ble_eq_true rfl) rfl (fun V K hR => ?_)
  have h5 := hI.g
  have h6 := hI.m
  refine r_bipush K dX0_weepsMost_0 ((-9)) (by decide) ?_
  refine r_istore_n K dX0_weepsMost_2 rfl (by decide) (lv1 := [(1, .int (-9)), (0, .ref h)]) rfl ?_
  refine r_iconst K dX0_weepsMost_3 (nI 0) (by decide) ?_
  refine r_istore_n K dX0_weepsMost_4 rfl (by decide) (lv1 := [(2, .int (nI 0)), (1, .int (-9)), (0, .ref h)]) rfl ?_
  have L5 : ∀ (fL5 : Nat) (i : Nat) (b : Int32), (i ≤ nM r) → (b = wmF r i) → nM r - i < fL5 → V 5 [(2, .int (nI i)), (1, .int b), (0, .ref h)] [] [ydW Γ h a r] := by
    intro fL5
    induction fL5 with
    | zero => intro i b hi hb hf; exact absurd hf (Nat.not_lt_zero _)
    | succ fL5 ih_L5 =>
      intro i b hi hb hfL5
      refine r_iload_n K dX0_weepsMost_5 0 rfl ?_
      refine r_aload_n K dX0_weepsMost_6 2 rfl ?_
      refine r_ws K (ws1 := [eO h 0 [.ref (a 0), .ref (a 1), .ref (a 2), .ref (a 3), .ref (a 4), .ref (a 5), .ref (a 6), .int (nI (nG r)), .int (nI (nM r)), .int (r 2)], eI Γ (a 0) 5 (fun gg => r (iG gg 0)), eI Γ (a 1) 5 (fun gg => r (iG gg 1)), eI Γ (a 2) 5 (fun gg => r (iG gg 2)), eI Γ (a 3) 6 (fun pp => r (iM pp 0)), eI Γ (a 4) 6 (fun pp => r (iM pp 1)), eI Γ (a 5) 6 (fun pp => r (iM pp 2)), eI Γ (a 6) 6 (fun pp => pl r pp)]) (yd_u r) ?_
      refine r_get K dX0_weepsMost_7 (kf := 8) 0 rfl rfl hinX0 (by decide) q37 rfl rfl ?_
      refine r_ws K (ws1 := [ydW Γ h a r]) (yd_f r) ?_
      refine r_ic_geN K dX0_weepsMost_10 (by omega) (by omega) (fun c10 => ?_) (fun c10 => ?_)
      · have ei : i = nM r := by omega
        rw [ei] at hb
        refine r_iload_n K dX0_weepsMost_50 1 rfl ?_
        exact hR () dX0_weepsMost_51 (trivial) (e_ri (hb.symm)) (weq.rf)
      · refine r_aload_n K dX0_weepsMost_13 2 rfl ?_
        refine r_iload_n K dX0_weepsMost_14 0 rfl ?_
        refine r_cVd K dX0_weepsMost_15 (c_X0_placeOfN l Γ h a r i (hI) (by first | omega | (simp only [daysS_nM, daysS_nG, dayS_nM, dayS_nG, tellS_nM, tellS_nG, aloneTo_nM, aloneTo_nG, nM_M, nG_M, nM_G, nG_G, lv_nM, lv_nG, gnT_nM, gnT_nG] <;> omega))) mX0_placeOf q462 rfl (by decide) rfl rfl 1 rfl [0] [] rfl rfl [] rfl [ydW Γ h a r] rfl rfl rfl [] rfl (Nat.le_of_ble_eq_true rfl) ?_
        refine r_bipush K dX0_weepsMost_18 ((-9)) (by decide) ?_
        refine r_ic_eq K dX0_weepsMost_20 (fun c20 => ?_) (fun c20 => ?_)
        · refine r_iincN K dX0_weepsMost_44 (n := 1) 0 rfl rfl (by decide) (lv1 := [(2, .int (nI (i + 1))), (1, .int b), (0, .ref h)]) rfl ?_
          refine r_goto K dX0_weepsMost_47 ?_
          exact ih_L5 (i + 1) b (by omega) (by rw [hb]; exact (wmF_n (fun z => z.1 c20)).symm) (by omega)
        · refine r_iload_n K dX0_weepsMost_23 1 rfl ?_
          refine r_bipush K dX0_weepsMost_24 ((-9)) (by decide) ?_
          refine r_ic_eq K dX0_weepsMost_26 (fun c26 => ?_) (fun c26 => ?_)
          · refine r_iload_n K dX0_weepsMost_42 0 rfl ?_
            refine r_istore_n K dX0_weepsMost_43 rfl (by decide) (lv1 := [(1, .int (nI i)), (2, .int (nI i)), (0, .ref h)]) rfl ?_
            refine r_iincN K dX0_weepsMost_44 (n := 1) 1 rfl rfl (by decide) (lv1 := [(2, .int (nI (i + 1))), (1, .int (nI i)), (0, .ref h)]) rfl ?_
            refine r_goto K dX0_weepsMost_47 ?_
            exact ih_L5 (i + 1) (nI i) (by omega) ((wmF_s ⟨c20, Or.inl (hb.symm.trans c26)⟩).symm) (by omega)
          · refine r_aload_n K dX0_weepsMost_29 2 rfl ?_
            refine r_iload_n K dX0_weepsMost_30 0 rfl ?_
            refine r_cVd K dX0_weepsMost_31 (c_X0_weeps l Γ h a r i (hI) (by first | omega | (simp only [daysS_nM, daysS_nG, dayS_nM, dayS_nG, tellS_nM, tellS_nG, aloneTo_nM, aloneTo_nG, nM_M, nG_M, nM_G, nG_G, lv_nM, lv_nG, gnT_nM, gnT_nG] <;> omega))) mX0_weeps q319 rfl (by decide) rfl rfl 1 rfl [0] [] rfl rfl [] rfl [ydW Γ h a r] rfl rfl rfl [] rfl (Nat.le_of_ble_eq_true rfl) ?_
            refine r_aload_n K dX0_weepsMost_34 2 rfl ?_
            obtain ⟨j, hj, ej⟩ : ∃ j, j < i ∧ b = nI j := by
              rcases wmF_cases r i with q | q
              · exact absurd (hb.trans q) c26
              · rw [← hb] at q; exact q
            refine r_lc (lv1 := [(2, .int (nI i)), (1, .int (nI j)), (0, .ref h)]) (by rw [ej]) ?_
            refine r_iload_n K dX0_weepsMost_35 1 rfl ?_
            refine r_cVd K dX0_weepsMost_36 (c_X0_weeps l Γ h a r j (hI) (by first | omega | (simp only [daysS_nM, daysS_nG, dayS_nM, dayS_nG, tellS_nM, tellS_nG, aloneTo_nM, aloneTo_nG, nM_M, nG_M, nM_G, nG_G, lv_nM, lv_nG, gnT_nM, gnT_nG] <;> omega))) mX0_weeps q319 rfl (by decide) rfl rfl 1 rfl [0] [] rfl rfl [] rfl [ydW Γ h a r] rfl rfl rfl [.int (weepS r i)] rfl (Nat.le_of_ble_eq_true rfl) ?_
            refine r_ic_le K dX0_weepsMost_39 (fun c39 => ?_) (fun c39 => ?_)
            · refine r_iincN K dX0_weepsMost_44 (n := 1) 0 rfl rfl (by decide) (lv1 := [(2, .int (nI (i + 1))), (1, .int (nI j)), (0, .ref h)]) rfl ?_
              refine r_goto K dX0_weepsMost_47 ?_
              exact ih_L5 (i + 1) (nI j) (by omega) (by rw [← ej, hb]; exact (wmF_n (fun z => z.2.elim (fun q => c26 (hb.trans q)) (fun q => by rw [← hb, ej, ix_nI (by omega)] at q; exact absurd q (Int32.not_lt.mpr c39)))).symm) (by omega)
            · refine r_iload_n K dX0_weepsMost_42 0 rfl ?_
              refine r_istore_n K dX0_weepsMost_43 rfl (by decide) (lv1 := [(1, .int (nI i)), (2, .int (nI i)), (0, .ref h)]) rfl ?_
              refine r_iincN K dX0_weepsMost_44 (n := 1) 1 rfl rfl (by decide) (lv1 := [(2, .int (nI (i + 1))), (1, .int (nI i)), (0, .ref h)]) rfl ?_
              refine r_goto K dX0_weepsMost_47 ?_
              exact ih_L5 (i + 1) (nI i) (by omega) ((wmF_s ⟨c20, Or.inr (by rw [← hb, ej, ix_nI (by omega)]; exact Int32.not_le.mp c39)⟩).symm) (by omega)
  exact L5 _ 0 (-9) (Nat.zero_le _) (rfl) (Nat.lt_succ_self _)
set_option maxHeartbeats 1000000 in
set_option maxRecDepth 20000 in
theorem c_X0_gravesWithMourners (l : Launch) (Γ : eG) (h : Nat) (a : Nat → Nat) (r : Nat → Int32) (x : Int32) (hI : Inv r) : cD l Γ yX0_gravesWithMourners cX0_gravesWithMourners 4 (some .int) 1 [.ref h, .int x] [ydW Γ h a r] (some (.int (gwF r x (nG r)))) [ydW Γ h a r] := by
  refine e_int [(0, .ref h), (1, .int x)] (by decide +kernel) (Nat.le_of_ble_eq_true rfl) rfl (fun V K hR => ?_)
  have h5 := hI.g
  have h6 := hI.m
  refine r_iconst K dX0_gravesWithMourners_0 (nI 0) (by decide) ?_
  refine r_istore_n K dX0_gravesWithMourners_1 rfl (by decide) (lv1 := [(2, .int (nI 0)), (0, .ref h), (1, .int x)]) rfl ?_
  refine r_iconst K dX0_gravesWithMourners_2 (nI 0) (by decide) ?_
  refine r_istore_n K dX0_gravesWithMourners_3 rfl (by decide) (lv1 := [(3, .int (nI 0)), (2, .int (nI 0)), (0, .ref h), (1, .int x)]) rfl ?_
  have L4 : ∀ (fL4 : Nat) (i : Nat) (v : Int32), (i ≤ nG r) → (v = gwF r x i) → nG r - i < fL4 → V 4 [(3, .int (nI i)), (2, .int v), (0, .ref h), (1, .int x)] [] [ydW Γ h a r] := by
    intro fL4
    induction fL4 with
    | zero => intro i v hi hv hf; exact absurd hf (Nat.not_lt_zero _)
    | succ fL4 ih_L4 =>
      intro i v hi hv hfL4
      refine r_iload_n K dX0_gravesWithMourners_4 0 rfl ?_
      refine r_aload_n K dX0_gravesWithMourners_5 2 rfl ?_
      refine r_ws K (ws1 := [eO h 0 [.ref (a 0), .ref (a 1), .ref (a 2), .ref (a 3), .ref (a 4), .ref (a 5), .ref (a 6), .int (nI (nG r)), .int (nI (nM r)), .int (r 2)], eI Γ (a 0) 5 (fun gg => r (iG gg 0)), eI Γ (a 1) 5 (fun gg => r (iG gg 1)), eI Γ (a 2) 5 (fun gg => r (iG gg 2)), eI Γ (a 3) 6 (fun pp => r (iM pp 0)), eI Γ (a 4) 6 (fun pp => r (iM pp 1)), eI Γ (a 5) 6 (fun pp => r (iM pp 2)), eI Γ (a 6) 6 (fun pp => pl r pp)]) (yd_u r) ?_
      refine r_get K dX0_gravesWithMourners_6 (kf := 7) 0 rfl rfl hinX0 (by decide) q36 rfl rfl ?_
      refine r_ws K (ws1 := [ydW Γ h a r]) (yd_f r) ?_
      refine r_ic_geN K dX0_gravesWithMourners_9 (by omega) (by omega) (fun c9 => ?_) (fun c9 => ?_)
      · have ei : i = nG r := by omega
        rw [ei] at hv
        refine r_iload_n K dX0_gravesWithMourners_33 1 rfl ?_
        exact hR () dX0_gravesWithMourners_34 (trivial) (e_ri (hv.symm)) (weq.rf)
      · refine r_aload_n K dX0_gravesWithMourners_12 2 rfl ?_
        refine r_iload_n K dX0_gravesWithMourners_13 0 rfl ?_
        refine r_cVd K dX0_gravesWithMourners_14 (c_X0_mournersAt l Γ h a r (nI i) (hI)) mX0_mournersAt q332 rfl (by decide) rfl rfl 1 rfl [0] [] rfl rfl [] rfl [ydW Γ h a r] rfl rfl rfl [] rfl (Nat.le_of_ble_eq_true rfl) ?_
        refine r_iload_n K dX0_gravesWithMourners_17 3 rfl ?_
        refine r_ic_ne K dX0_gravesWithMourners_18 (fun c18 => ?_) (fun c18 => ?_)
        · refine r_iincN K dX0_gravesWithMourners_27 (n := 1) 0 rfl rfl (by decide) (lv1 := [(3, .int (nI (i + 1))), (2, .int v), (0, .ref h), (1, .int x)]) rfl ?_
          refine r_goto K dX0_gravesWithMourners_30 ?_
          exact ih_L4 (i + 1) v (by omega) (by rw [hv]; exact (gwF_n c18).symm) (by omega)
        · refine r_iload_n K dX0_gravesWithMourners_21 1 rfl ?_
          refine r_iconst K dX0_gravesWithMourners_22 (nI 1) (by decide) ?_
          refine r_iload_n K dX0_gravesWithMourners_23 0 rfl ?_
          refine r_ishl K dX0_gravesWithMourners_24 ?_
          refine r_ior K dX0_gravesWithMourners_25 ?_
          refine r_istore_n K dX0_gravesWithMourners_26 rfl (by decide) (lv1 := [(2, .int (v ||| ((nI 1) <<< ((nI i) &&& 31)))), (3, .int (nI i)), (0, .ref h), (1, .int x)]) rfl ?_
          refine r_iincN K dX0_gravesWithMourners_27 (n := 1) 1 rfl rfl (by decide) (lv1 := [(3, .int (nI (i + 1))), (2, .int (v ||| ((nI 1) <<< ((nI i) &&& 31)))), (0, .ref h), (1, .int x)]) rfl ?_
          refine r_goto K dX0_gravesWithMourners_30 ?_
          exact ih_L4 (i + 1) (v ||| ((nI 1) <<< ((nI i) &&& 31))) (by omega) (by rw [hv]; exact (gwF_s c18).symm) (by omega)
  exact L4 _ 0 (nI 0) (Nat.zero_le _) (rfl) (Nat.lt_succ_self _)
set_option maxHeartbeats 1000000 in
set_option maxRecDepth 20000 in
theorem c_X0_deepOnes (l : Launch) (Γ : eG) (h : Nat) (a : Nat → Nat) (r : Nat → Int32) (hI : Inv r) : cD l Γ yX0_deepOnes cX0_deepOnes 3 (some .int) 2 [.ref h] [ydW Γ h a r] (some (.int (doF r (nG r)))) [ydW Γ h a r] := by
  refine e_int [(0, .ref h)] (by decide +kernel) (Nat.le_of_ble_eq_true rfl) rfl (fun V K hR => ?_)
  have h5 := hI.g
  have h6 := hI.m
  refine r_iconst K dX0_deepOnes_0 (nI 0) (by decide) ?_
  refine r_istore_n K dX0_deepOnes_1 rfl (by decide) (lv1 := [(1, .int (nI 0)), (0, .ref h)]) rfl ?_
  refine r_iconst K dX0_deepOnes_2 (nI 0) (by decide) ?_
  refine r_istore_n K dX0_deepOnes_3 rfl (by decide) (lv1 := [(2, .int (nI 0)), (1, .int (nI 0)), (0, .ref h)]) rfl ?_
  have L4 : ∀ (fL4 : Nat) (i : Nat) (v : Int32), (i ≤ nG r) → (v = doF r i) → nG r - i < fL4 → V 4 [(2, .int (nI i)), (1, .int v), (0, .ref h)] [] [ydW Γ h a r] := by
    intro fL4
    induction fL4 with
    | zero => intro i v hi hv hf; exact absurd hf (Nat.not_lt_zero _)
    | succ fL4 ih_L4 =>
      intro i v hi hv hfL4
      refine r_iload_n K dX0_deepOnes_4 0 rfl ?_
      refine r_aload_n K dX0_deepOnes_5 2 rfl ?_
      refine r_ws K (ws1 := [eO h 0 [.ref (a 0), .ref (a 1), .ref (a 2), .ref (a 3), .ref (a 4), .ref (a 5), .ref (a 6), .int (nI (nG r)), .int (nI (nM r)), .int (r 2)], eI Γ (a 0) 5 (fun gg => r (iG gg 0)), eI Γ (a 1) 5 (fun gg => r (iG gg 1)), eI Γ (a 2) 5 (fun gg => r (iG gg 2)), eI Γ (a 3) 6 (fun pp => r (iM pp 0)), eI Γ (a 4) 6 (fun pp => r (iM pp 1)), eI Γ (a 5) 6 (fun pp => r (iM pp 2)), eI Γ (a 6) 6 (fun pp => pl r pp)]) (yd_u r) ?_
      refine r_get K dX0_deepOnes_6 (kf := 7) 0 rfl rfl hinX0 (by decide) q36 rfl rfl ?_
      refine r_ws K (ws1 := [ydW Γ h a r]) (yd_f r) ?_
      refine r_ic_geN K dX0_deepOnes_9 (by omega) (by omega) (fun c9 => ?_) (fun c9 => ?_)
      · have ei : i = nG r := by omega
        rw [ei] at hv
        refine r_iload_n K dX0_deepOnes_34 1 rfl ?_
        exact hR () dX0_deepOnes_35 (trivial) (e_ri (hv.symm)) (weq.rf)
      · refine r_aload_n K dX0_deepOnes_12 2 rfl ?_
        refine r_iload_n K dX0_deepOnes_13 0 rfl ?_
        refine r_cVd K dX0_deepOnes_14 (c_X0_depthN l Γ h a r i (hI) (by first | omega | (simp only [daysS_nM, daysS_nG, dayS_nM, dayS_nG, tellS_nM, tellS_nG, aloneTo_nM, aloneTo_nG, nM_M, nG_M, nM_G, nG_G, lv_nM, lv_nG, gnT_nM, gnT_nG] <;> omega))) mX0_depth q314 rfl (by decide) rfl rfl 1 rfl [0] [] rfl rfl [] rfl [ydW Γ h a r] rfl rfl rfl [] rfl (Nat.le_of_ble_eq_true rfl) ?_
        refine r_bipush K dX0_deepOnes_17 (nI 12) (by decide) ?_
        refine r_ic_lt K dX0_deepOnes_19 (fun c19 => ?_) (fun c19 => ?_)
        · refine r_iincN K dX0_deepOnes_28 (n := 1) 0 rfl rfl (by decide) (lv1 := [(2, .int (nI (i + 1))), (1, .int v), (0, .ref h)]) rfl ?_
          refine r_goto K dX0_deepOnes_31 ?_
          exact ih_L4 (i + 1) v (by omega) (by rw [hv]; exact (doF_n (Int32.not_le.mpr c19)).symm) (by omega)
        · refine r_iload_n K dX0_deepOnes_22 1 rfl ?_
          refine r_iconst K dX0_deepOnes_23 (nI 1) (by decide) ?_
          refine r_iload_n K dX0_deepOnes_24 0 rfl ?_
          refine r_ishl K dX0_deepOnes_25 ?_
          refine r_ior K dX0_deepOnes_26 ?_
          refine r_istore_n K dX0_deepOnes_27 rfl (by decide) (lv1 := [(1, .int (v ||| ((nI 1) <<< ((nI i) &&& 31)))), (2, .int (nI i)), (0, .ref h)]) rfl ?_
          refine r_iincN K dX0_deepOnes_28 (n := 1) 1 rfl rfl (by decide) (lv1 := [(2, .int (nI (i + 1))), (1, .int (v ||| ((nI 1) <<< ((nI i) &&& 31)))), (0, .ref h)]) rfl ?_
          refine r_goto K dX0_deepOnes_31 ?_
          exact ih_L4 (i + 1) (v ||| ((nI 1) <<< ((nI i) &&& 31))) (by omega) (by rw [hv]; exact (doF_s (Int32.not_lt.mp c19)).symm) (by omega)
  exact L4 _ 0 (nI 0) (Nat.zero_le _) (rfl) (Nat.lt_succ_self _)
set_option maxHeartbeats 1000000 in
set_option maxRecDepth 20000 in
theorem c_X0_become (l : Launch) (Γ : eG) (h : Nat) (a : Nat → Nat) (r : Nat → Int32) (h2 : Nat) (a2 : Nat → Nat) (q : Nat → Int32)  : cD l Γ yX0_become cX0_become 3 (none) 0 [.ref h, .ref h2] [ydW Γ h a r, ydW Γ h2 a2 q] none [ydW Γ h a q, ydW Γ h2 a2 q] := by
  refine e_void [(0, .ref h), (1, .ref h2)] (by decide +kernel) (Nat.le_of_ble_eq_true rfl) rfl (fun V K hR => ?_)
  refine r_ws K (ws1 := [eO h 0 [.ref (a 0), .ref (a 1), .ref (a 2), .ref (a 3), .ref (a 4), .ref (a 5), .ref (a 6), .int (nI (nG r)), .int (nI (nM r)), .int (r 2)], eI Γ (a 0) 5 (fun gg => r (iG gg 0)), eI Γ (a 1) 5 (fun gg => r (iG gg 1)), eI Γ (a 2) 5 (fun gg => r (iG gg 2)), eI Γ (a 3) 6 (fun pp => r (iM pp 0)), eI Γ (a 4) 6 (fun pp => r (iM pp 1)), eI Γ (a 5) 6 (fun pp => r (iM pp 2)), eI Γ (a 6) 6 (fun pp => pl r pp), eO h2 0 [.ref (a2 0), .ref (a2 1), .ref (a2 2), .ref (a2 3), .ref (a2 4), .ref (a2 5), .ref (a2 6), .int (nI (nG q)), .int (nI (nM q)), .int (q 2)], eI Γ (a2 0) 5 (fun gg => q (iG gg 0)), eI Γ (a2 1) 5 (fun gg => q (iG gg 1)), eI Γ (a2 2) 5 (fun gg => q (iG gg 2)), eI Γ (a2 3) 6 (fun pp => q (iM pp 0)), eI Γ (a2 4) 6 (fun pp => q (iM pp 1)), eI Γ (a2 5) 6 (fun pp => q (iM pp 2)), eI Γ (a2 6) 6 (fun pp => pl q pp)]) (yd_uu r q) ?_
  refine r_iconst K dX0_become_0 (nI 0) (by decide) ?_
  refine r_istore_n K dX0_become_1 rfl (by decide) (lv1 := [(2, .int (nI 0)), (0, .ref h), (1, .ref h2)]) rfl ?_
  have L2 : ∀ (fL2 : Nat) (i : Nat), (i ≤ 5) → 5 - i < fL2 → V 2 [(2, .int (nI i)), (0, .ref h), (1, .ref h2)] [] [eO h 0 [.ref (a 0), .ref (a 1), .ref (a 2), .ref (a 3), .ref (a 4), .ref (a 5), .ref (a 6), .int (nI (nG r)), .int (nI (nM r)), .int (r 2)], eI Γ (a 0) 5 (cpF (fun gg => q (iG gg 0)) (fun gg => r (iG gg 0)) i), eI Γ (a 1) 5 (cpF (fun gg => q (iG gg 1)) (fun gg => r (iG gg 1)) i), eI Γ (a 2) 5 (cpF (fun gg => q (iG gg 2)) (fun gg => r (iG gg 2)) i), eI Γ (a 3) 6 (cpF (fun pp => q (iM pp 0)) (fun pp => r (iM pp 0)) 0), eI Γ (a 4) 6 (cpF (fun pp => q (iM pp 1)) (fun pp => r (iM pp 1)) 0), eI Γ (a 5) 6 (cpF (fun pp => q (iM pp 2)) (fun pp => r (iM pp 2)) 0), eI Γ (a 6) 6 (cpF (fun pp => pl q pp) (fun pp => pl r pp) 0), eO h2 0 [.ref (a2 0), .ref (a2 1), .ref (a2 2), .ref (a2 3), .ref (a2 4), .ref (a2 5), .ref (a2 6), .int (nI (nG q)), .int (nI (nM q)), .int (q 2)], eI Γ (a2 0) 5 (fun gg => q (iG gg 0)), eI Γ (a2 1) 5 (fun gg => q (iG gg 1)), eI Γ (a2 2) 5 (fun gg => q (iG gg 2)), eI Γ (a2 3) 6 (fun pp => q (iM pp 0)), eI Γ (a2 4) 6 (fun pp => q (iM pp 1)), eI Γ (a2 5) 6 (fun pp => q (iM pp 2)), eI Γ (a2 6) 6 (fun pp => pl q pp)] := by
    intro fL2
    induction fL2 with
    | zero => intro i hi hf; exact absurd hf (Nat.not_lt_zero _)
    | succ fL2 ih_L2 =>
      intro i hi hfL2
      refine r_iload_n K dX0_become_2 0 rfl ?_
      refine r_iconst K dX0_become_3 (nI 5) (by decide) ?_
      refine r_ic_geN K dX0_become_4 (by omega) (by omega) (fun c4 => ?_) (fun c4 => ?_)
      · obtain rfl : i = 5 := by omega
        refine r_iconst K dX0_become_49 (nI 0) (by decide) ?_
        refine r_istore_n K dX0_become_50 rfl (by decide) (lv1 := [(2, .int (nI 0)), (0, .ref h), (1, .ref h2)]) rfl ?_
        have L51 : ∀ (fL51 : Nat) (j : Nat), (j ≤ 6) → 6 - j < fL51 → V 51 [(2, .int (nI j)), (0, .ref h), (1, .ref h2)] [] [eO h 0 [.ref (a 0), .ref (a 1), .ref (a 2), .ref (a 3), .ref (a 4), .ref (a 5), .ref (a 6), .int (nI (nG r)), .int (nI (nM r)), .int (r 2)], eI Γ (a 0) 5 (cpF (fun gg => q (iG gg 0)) (fun gg => r (iG gg 0)) 5), eI Γ (a 1) 5 (cpF (fun gg => q (iG gg 1)) (fun gg => r (iG gg 1)) 5), eI Γ (a 2) 5 (cpF (fun gg => q (iG gg 2)) (fun gg => r (iG gg 2)) 5), eI Γ (a 3) 6 (cpF (fun pp => q (iM pp 0)) (fun pp => r (iM pp 0)) j), eI Γ (a 4) 6 (cpF (fun pp => q (iM pp 1)) (fun pp => r (iM pp 1)) j), eI Γ (a 5) 6 (cpF (fun pp => q (iM pp 2)) (fun pp => r (iM pp 2)) j), eI Γ (a 6) 6 (cpF (fun pp => pl q pp) (fun pp => pl r pp) j), eO h2 0 [.ref (a2 0), .ref (a2 1), .ref (a2 2), .ref (a2 3), .ref (a2 4), .ref (a2 5), .ref (a2 6), .int (nI (nG q)), .int (nI (nM q)), .int (q 2)], eI Γ (a2 0) 5 (fun gg => q (iG gg 0)), eI Γ (a2 1) 5 (fun gg => q (iG gg 1)), eI Γ (a2 2) 5 (fun gg => q (iG gg 2)), eI Γ (a2 3) 6 (fun pp => q (iM pp 0)), eI Γ (a2 4) 6 (fun pp => q (iM pp 1)), eI Γ (a2 5) 6 (fun pp => q (iM pp 2)), eI Γ (a2 6) 6 (fun pp => pl q pp)] := by
          intro fL51
          induction fL51 with
          | zero => intro j hj hf; exact absurd hf (Nat.not_lt_zero _)
          | succ fL51 ih_L51 =>
            intro j hj hfL51
            refine r_iload_n K dX0_become_51 0 rfl ?_
            refine r_bipush K dX0_become_52 (nI 6) (by decide) ?_
            refine r_ic_geN K dX0_become_54 (by omega) (by omega) (fun c54 => ?_) (fun c54 => ?_)
            · obtain rfl : j = 6 := by omega
              refine r_aload_n K dX0_become_111 1 rfl ?_
              refine r_aload_n K dX0_become_112 2 rfl ?_
              refine r_get K dX0_become_113 (kf := 7) 8 rfl rfl hinX0 (by decide) q36 rfl rfl ?_
              refine r_put K dX0_become_116 (kf := 7) (ty := .int) (ws1 := [eO h 0 [.ref (a 0), .ref (a 1), .ref (a 2), .ref (a 3), .ref (a 4), .ref (a 5), .ref (a 6), .int (nI (nG q)), .int (nI (nM r)), .int (r 2)], eI Γ (a 0) 5 (cpF (fun gg => q (iG gg 0)) (fun gg => r (iG gg 0)) 5), eI Γ (a 1) 5 (cpF (fun gg => q (iG gg 1)) (fun gg => r (iG gg 1)) 5), eI Γ (a 2) 5 (cpF (fun gg => q (iG gg 2)) (fun gg => r (iG gg 2)) 5), eI Γ (a 3) 6 (cpF (fun pp => q (iM pp 0)) (fun pp => r (iM pp 0)) 6), eI Γ (a 4) 6 (cpF (fun pp => q (iM pp 1)) (fun pp => r (iM pp 1)) 6), eI Γ (a 5) 6 (cpF (fun pp => q (iM pp 2)) (fun pp => r (iM pp 2)) 6), eI Γ (a 6) 6 (cpF (fun pp => pl q pp) (fun pp => pl r pp) 6), eO h2 0 [.ref (a2 0), .ref (a2 1), .ref (a2 2), .ref (a2 3), .ref (a2 4), .ref (a2 5), .ref (a2 6), .int (nI (nG q)), .int (nI (nM q)), .int (q 2)], eI Γ (a2 0) 5 (fun gg => q (iG gg 0)), eI Γ (a2 1) 5 (fun gg => q (iG gg 1)), eI Γ (a2 2) 5 (fun gg => q (iG gg 2)), eI Γ (a2 3) 6 (fun pp => q (iM pp 0)), eI Γ (a2 4) 6 (fun pp => q (iM pp 1)), eI Γ (a2 5) 6 (fun pp => q (iM pp 2)), eI Γ (a2 6) 6 (fun pp => pl q pp)]) 0 rfl rfl hinX0 tyX0 tyX0_ok nmX0 (by decide) q36 rfl (by decide +kernel) rfl rfl (Nat.le_of_ble_eq_true rfl) rfl ?_
              refine r_aload_n K dX0_become_119 1 rfl ?_
              refine r_aload_n K dX0_become_120 2 rfl ?_
              refine r_get K dX0_become_121 (kf := 8) 8 rfl rfl hinX0 (by decide) q37 rfl rfl ?_
              refine r_put K dX0_become_124 (kf := 8) (ty := .int) (ws1 := [eO h 0 [.ref (a 0), .ref (a 1), .ref (a 2), .ref (a 3), .ref (a 4), .ref (a 5), .ref (a 6), .int (nI (nG q)), .int (nI (nM q)), .int (r 2)], eI Γ (a 0) 5 (cpF (fun gg => q (iG gg 0)) (fun gg => r (iG gg 0)) 5), eI Γ (a 1) 5 (cpF (fun gg => q (iG gg 1)) (fun gg => r (iG gg 1)) 5), eI Γ (a 2) 5 (cpF (fun gg => q (iG gg 2)) (fun gg => r (iG gg 2)) 5), eI Γ (a 3) 6 (cpF (fun pp => q (iM pp 0)) (fun pp => r (iM pp 0)) 6), eI Γ (a 4) 6 (cpF (fun pp => q (iM pp 1)) (fun pp => r (iM pp 1)) 6), eI Γ (a 5) 6 (cpF (fun pp => q (iM pp 2)) (fun pp => r (iM pp 2)) 6), eI Γ (a 6) 6 (cpF (fun pp => pl q pp) (fun pp => pl r pp) 6), eO h2 0 [.ref (a2 0), .ref (a2 1), .ref (a2 2), .ref (a2 3), .ref (a2 4), .ref (a2 5), .ref (a2 6), .int (nI (nG q)), .int (nI (nM q)), .int (q 2)], eI Γ (a2 0) 5 (fun gg => q (iG gg 0)), eI Γ (a2 1) 5 (fun gg => q (iG gg 1)), eI Γ (a2 2) 5 (fun gg => q (iG gg 2)), eI Γ (a2 3) 6 (fun pp => q (iM pp 0)), eI Γ (a2 4) 6 (fun pp => q (iM pp 1)), eI Γ (a2 5) 6 (fun pp => q (iM pp 2)), eI Γ (a2 6) 6 (fun pp => pl q pp)]) 0 rfl rfl hinX0 tyX0 tyX0_ok nmX0 (by decide) q37 rfl (by decide +kernel) rfl rfl (Nat.le_of_ble_eq_true rfl) rfl ?_
              refine r_aload_n K dX0_become_127 1 rfl ?_
              refine r_aload_n K dX0_become_128 2 rfl ?_
              refine r_get K dX0_become_129 (kf := 9) 8 rfl rfl hinX0 (by decide) q38 rfl rfl ?_
              refine r_put K dX0_become_132 (kf := 9) (ty := .int) (ws1 := [eO h 0 [.ref (a 0), .ref (a 1), .ref (a 2), .ref (a 3), .ref (a 4), .ref (a 5), .ref (a 6), .int (nI (nG q)), .int (nI (nM q)), .int (q 2)], eI Γ (a 0) 5 (cpF (fun gg => q (iG gg 0)) (fun gg => r (iG gg 0)) 5), eI Γ (a 1) 5 (cpF (fun gg => q (iG gg 1)) (fun gg => r (iG gg 1)) 5), eI Γ (a 2) 5 (cpF (fun gg => q (iG gg 2)) (fun gg => r (iG gg 2)) 5), eI Γ (a 3) 6 (cpF (fun pp => q (iM pp 0)) (fun pp => r (iM pp 0)) 6), eI Γ (a 4) 6 (cpF (fun pp => q (iM pp 1)) (fun pp => r (iM pp 1)) 6), eI Γ (a 5) 6 (cpF (fun pp => q (iM pp 2)) (fun pp => r (iM pp 2)) 6), eI Γ (a 6) 6 (cpF (fun pp => pl q pp) (fun pp => pl r pp) 6), eO h2 0 [.ref (a2 0), .ref (a2 1), .ref (a2 2), .ref (a2 3), .ref (a2 4), .ref (a2 5), .ref (a2 6), .int (nI (nG q)), .int (nI (nM q)), .int (q 2)], eI Γ (a2 0) 5 (fun gg => q (iG gg 0)), eI Γ (a2 1) 5 (fun gg => q (iG gg 1)), eI Γ (a2 2) 5 (fun gg => q (iG gg 2)), eI Γ (a2 3) 6 (fun pp => q (iM pp 0)), eI Γ (a2 4) 6 (fun pp => q (iM pp 1)), eI Γ (a2 5) 6 (fun pp => q (iM pp 2)), eI Γ (a2 6) 6 (fun pp => pl q pp)]) 0 rfl rfl hinX0 tyX0 tyX0_ok nmX0 (by decide) q38 rfl (by decide +kernel) rfl rfl (Nat.le_of_ble_eq_true rfl) rfl ?_
              exact hR () dX0_become_135 (trivial) rfl (yd_bec)
            · refine r_aload_n K dX0_become_57 1 rfl ?_
              refine r_get K dX0_become_58 (kf := 3) 0 rfl rfl hinX0 (by decide) q32 rfl rfl ?_
              refine r_iload_n K dX0_become_61 0 rfl ?_
              refine r_aload_n K dX0_become_62 2 rfl ?_
              refine r_get K dX0_become_63 (kf := 3) 8 rfl rfl hinX0 (by decide) q32 rfl rfl ?_
              refine r_iload_n K dX0_become_66 0 rfl ?_
              refine r_aldN K dX0_become_67 12 rfl (by first | omega | exact iG_lt (by omega) (by decide) | exact iM_lt (by omega) (by decide)) (by decide) ?_
              refine r_astN K dX0_become_68 (ws1 := [eO h 0 [.ref (a 0), .ref (a 1), .ref (a 2), .ref (a 3), .ref (a 4), .ref (a 5), .ref (a 6), .int (nI (nG r)), .int (nI (nM r)), .int (r 2)], eI Γ (a 0) 5 (cpF (fun gg => q (iG gg 0)) (fun gg => r (iG gg 0)) 5), eI Γ (a 1) 5 (cpF (fun gg => q (iG gg 1)) (fun gg => r (iG gg 1)) 5), eI Γ (a 2) 5 (cpF (fun gg => q (iG gg 2)) (fun gg => r (iG gg 2)) 5), eI Γ (a 3) 6 (upd (cpF (fun pp => q (iM pp 0)) (fun pp => r (iM pp 0)) j) j (q (iM j 0))), eI Γ (a 4) 6 (cpF (fun pp => q (iM pp 1)) (fun pp => r (iM pp 1)) j), eI Γ (a 5) 6 (cpF (fun pp => q (iM pp 2)) (fun pp => r (iM pp 2)) j), eI Γ (a 6) 6 (cpF (fun pp => pl q pp) (fun pp => pl r pp) j), eO h2 0 [.ref (a2 0), .ref (a2 1), .ref (a2 2), .ref (a2 3), .ref (a2 4), .ref (a2 5), .ref (a2 6), .int (nI (nG q)), .int (nI (nM q)), .int (q 2)], eI Γ (a2 0) 5 (fun gg => q (iG gg 0)), eI Γ (a2 1) 5 (fun gg => q (iG gg 1)), eI Γ (a2 2) 5 (fun gg => q (iG gg 2)), eI Γ (a2 3) 6 (fun pp => q (iM pp 0)), eI Γ (a2 4) 6 (fun pp => q (iM pp 1)), eI Γ (a2 5) 6 (fun pp => q (iM pp 2)), eI Γ (a2 6) 6 (fun pp => pl q pp)]) 4 rfl (by first | omega | exact iG_lt (by omega) (by decide) | exact iM_lt (by omega) (by decide)) (by decide) rfl ?_
              refine r_arr K (f2 := cpF (fun pp => q (iM pp 0)) (fun pp => r (iM pp 0)) (j + 1)) (ws1 := [eO h 0 [.ref (a 0), .ref (a 1), .ref (a 2), .ref (a 3), .ref (a 4), .ref (a 5), .ref (a 6), .int (nI (nG r)), .int (nI (nM r)), .int (r 2)], eI Γ (a 0) 5 (cpF (fun gg => q (iG gg 0)) (fun gg => r (iG gg 0)) 5), eI Γ (a 1) 5 (cpF (fun gg => q (iG gg 1)) (fun gg => r (iG gg 1)) 5), eI Γ (a 2) 5 (cpF (fun gg => q (iG gg 2)) (fun gg => r (iG gg 2)) 5), eI Γ (a 3) 6 (cpF (fun pp => q (iM pp 0)) (fun pp => r (iM pp 0)) (j + 1)), eI Γ (a 4) 6 (cpF (fun pp => q (iM pp 1)) (fun pp => r (iM pp 1)) j), eI Γ (a 5) 6 (cpF (fun pp => q (iM pp 2)) (fun pp => r (iM pp 2)) j), eI Γ (a 6) 6 (cpF (fun pp => pl q pp) (fun pp => pl r pp) j), eO h2 0 [.ref (a2 0), .ref (a2 1), .ref (a2 2), .ref (a2 3), .ref (a2 4), .ref (a2 5), .ref (a2 6), .int (nI (nG q)), .int (nI (nM q)), .int (q 2)], eI Γ (a2 0) 5 (fun gg => q (iG gg 0)), eI Γ (a2 1) 5 (fun gg => q (iG gg 1)), eI Γ (a2 2) 5 (fun gg => q (iG gg 2)), eI Γ (a2 3) 6 (fun pp => q (iM pp 0)), eI Γ (a2 4) 6 (fun pp => q (iM pp 1)), eI Γ (a2 5) 6 (fun pp => q (iM pp 2)), eI Γ (a2 6) 6 (fun pp => pl q pp)]) 4 rfl (fun _ _ => by rw [← cpF_s]) rfl ?_
              refine r_aload_n K dX0_become_69 1 rfl ?_
              refine r_get K dX0_become_70 (kf := 4) 0 rfl rfl hinX0 (by decide) q33 rfl rfl ?_
              refine r_iload_n K dX0_become_73 0 rfl ?_
              refine r_aload_n K dX0_become_74 2 rfl ?_
              refine r_get K dX0_become_75 (kf := 4) 8 rfl rfl hinX0 (by decide) q33 rfl rfl ?_
              refine r_iload_n K dX0_become_78 0 rfl ?_
              refine r_aldN K dX0_become_79 13 rfl (by first | omega | exact iG_lt (by omega) (by decide) | exact iM_lt (by omega) (by decide)) (by decide) ?_
              refine r_astN K dX0_become_80 (ws1 := [eO h 0 [.ref (a 0), .ref (a 1), .ref (a 2), .ref (a 3), .ref (a 4), .ref (a 5), .ref (a 6), .int (nI (nG r)), .int (nI (nM r)), .int (r 2)], eI Γ (a 0) 5 (cpF (fun gg => q (iG gg 0)) (fun gg => r (iG gg 0)) 5), eI Γ (a 1) 5 (cpF (fun gg => q (iG gg 1)) (fun gg => r (iG gg 1)) 5), eI Γ (a 2) 5 (cpF (fun gg => q (iG gg 2)) (fun gg => r (iG gg 2)) 5), eI Γ (a 3) 6 (cpF (fun pp => q (iM pp 0)) (fun pp => r (iM pp 0)) (j + 1)), eI Γ (a 4) 6 (upd (cpF (fun pp => q (iM pp 1)) (fun pp => r (iM pp 1)) j) j (q (iM j 1))), eI Γ (a 5) 6 (cpF (fun pp => q (iM pp 2)) (fun pp => r (iM pp 2)) j), eI Γ (a 6) 6 (cpF (fun pp => pl q pp) (fun pp => pl r pp) j), eO h2 0 [.ref (a2 0), .ref (a2 1), .ref (a2 2), .ref (a2 3), .ref (a2 4), .ref (a2 5), .ref (a2 6), .int (nI (nG q)), .int (nI (nM q)), .int (q 2)], eI Γ (a2 0) 5 (fun gg => q (iG gg 0)), eI Γ (a2 1) 5 (fun gg => q (iG gg 1)), eI Γ (a2 2) 5 (fun gg => q (iG gg 2)), eI Γ (a2 3) 6 (fun pp => q (iM pp 0)), eI Γ (a2 4) 6 (fun pp => q (iM pp 1)), eI Γ (a2 5) 6 (fun pp => q (iM pp 2)), eI Γ (a2 6) 6 (fun pp => pl q pp)]) 5 rfl (by first | omega | exact iG_lt (by omega) (by decide) | exact iM_lt (by omega) (by decide)) (by decide) rfl ?_
              refine r_arr K (f2 := cpF (fun pp => q (iM pp 1)) (fun pp => r (iM pp 1)) (j + 1)) (ws1 := [eO h 0 [.ref (a 0), .ref (a 1), .ref (a 2), .ref (a 3), .ref (a 4), .ref (a 5), .ref (a 6), .int (nI (nG r)), .int (nI (nM r)), .int (r 2)], eI Γ (a 0) 5 (cpF (fun gg => q (iG gg 0)) (fun gg => r (iG gg 0)) 5), eI Γ (a 1) 5 (cpF (fun gg => q (iG gg 1)) (fun gg => r (iG gg 1)) 5), eI Γ (a 2) 5 (cpF (fun gg => q (iG gg 2)) (fun gg => r (iG gg 2)) 5), eI Γ (a 3) 6 (cpF (fun pp => q (iM pp 0)) (fun pp => r (iM pp 0)) (j + 1)), eI Γ (a 4) 6 (cpF (fun pp => q (iM pp 1)) (fun pp => r (iM pp 1)) (j + 1)), eI Γ (a 5) 6 (cpF (fun pp => q (iM pp 2)) (fun pp => r (iM pp 2)) j), eI Γ (a 6) 6 (cpF (fun pp => pl q pp) (fun pp => pl r pp) j), eO h2 0 [.ref (a2 0), .ref (a2 1), .ref (a2 2), .ref (a2 3), .ref (a2 4), .ref (a2 5), .ref (a2 6), .int (nI (nG q)), .int (nI (nM q)), .int (q 2)], eI Γ (a2 0) 5 (fun gg => q (iG gg 0)), eI Γ (a2 1) 5 (fun gg => q (iG gg 1)), eI Γ (a2 2) 5 (fun gg => q (iG gg 2)), eI Γ (a2 3) 6 (fun pp => q (iM pp 0)), eI Γ (a2 4) 6 (fun pp => q (iM pp 1)), eI Γ (a2 5) 6 (fun pp => q (iM pp 2)), eI Γ (a2 6) 6 (fun pp => pl q pp)]) 5 rfl (fun _ _ => by rw [← cpF_s]) rfl ?_
              refine r_aload_n K dX0_become_81 1 rfl ?_
              refine r_get K dX0_become_82 (kf := 5) 0 rfl rfl hinX0 (by decide) q34 rfl rfl ?_
              refine r_iload_n K dX0_become_85 0 rfl ?_
              refine r_aload_n K dX0_become_86 2 rfl ?_
              refine r_get K dX0_become_87 (kf := 5) 8 rfl rfl hinX0 (by decide) q34 rfl rfl ?_
              refine r_iload_n K dX0_become_90 0 rfl ?_
              refine r_aldN K dX0_become_91 14 rfl (by first | omega | exact iG_lt (by omega) (by decide) | exact iM_lt (by omega) (by decide)) (by decide) ?_
              refine r_astN K dX0_become_92 (ws1 := [eO h 0 [.ref (a 0), .ref (a 1), .ref (a 2), .ref (a 3), .ref (a 4), .ref (a 5), .ref (a 6), .int (nI (nG r)), .int (nI (nM r)), .int (r 2)], eI Γ (a 0) 5 (cpF (fun gg => q (iG gg 0)) (fun gg => r (iG gg 0)) 5), eI Γ (a 1) 5 (cpF (fun gg => q (iG gg 1)) (fun gg => r (iG gg 1)) 5), eI Γ (a 2) 5 (cpF (fun gg => q (iG gg 2)) (fun gg => r (iG gg 2)) 5), eI Γ (a 3) 6 (cpF (fun pp => q (iM pp 0)) (fun pp => r (iM pp 0)) (j + 1)), eI Γ (a 4) 6 (cpF (fun pp => q (iM pp 1)) (fun pp => r (iM pp 1)) (j + 1)), eI Γ (a 5) 6 (upd (cpF (fun pp => q (iM pp 2)) (fun pp => r (iM pp 2)) j) j (q (iM j 2))), eI Γ (a 6) 6 (cpF (fun pp => pl q pp) (fun pp => pl r pp) j), eO h2 0 [.ref (a2 0), .ref (a2 1), .ref (a2 2), .ref (a2 3), .ref (a2 4), .ref (a2 5), .ref (a2 6), .int (nI (nG q)), .int (nI (nM q)), .int (q 2)], eI Γ (a2 0) 5 (fun gg => q (iG gg 0)), eI Γ (a2 1) 5 (fun gg => q (iG gg 1)), eI Γ (a2 2) 5 (fun gg => q (iG gg 2)), eI Γ (a2 3) 6 (fun pp => q (iM pp 0)), eI Γ (a2 4) 6 (fun pp => q (iM pp 1)), eI Γ (a2 5) 6 (fun pp => q (iM pp 2)), eI Γ (a2 6) 6 (fun pp => pl q pp)]) 6 rfl (by first | omega | exact iG_lt (by omega) (by decide) | exact iM_lt (by omega) (by decide)) (by decide) rfl ?_
              refine r_arr K (f2 := cpF (fun pp => q (iM pp 2)) (fun pp => r (iM pp 2)) (j + 1)) (ws1 := [eO h 0 [.ref (a 0), .ref (a 1), .ref (a 2), .ref (a 3), .ref (a 4), .ref (a 5), .ref (a 6), .int (nI (nG r)), .int (nI (nM r)), .int (r 2)], eI Γ (a 0) 5 (cpF (fun gg => q (iG gg 0)) (fun gg => r (iG gg 0)) 5), eI Γ (a 1) 5 (cpF (fun gg => q (iG gg 1)) (fun gg => r (iG gg 1)) 5), eI Γ (a 2) 5 (cpF (fun gg => q (iG gg 2)) (fun gg => r (iG gg 2)) 5), eI Γ (a 3) 6 (cpF (fun pp => q (iM pp 0)) (fun pp => r (iM pp 0)) (j + 1)), eI Γ (a 4) 6 (cpF (fun pp => q (iM pp 1)) (fun pp => r (iM pp 1)) (j + 1)), eI Γ (a 5) 6 (cpF (fun pp => q (iM pp 2)) (fun pp => r (iM pp 2)) (j + 1)), eI Γ (a 6) 6 (cpF (fun pp => pl q pp) (fun pp => pl r pp) j), eO h2 0 [.ref (a2 0), .ref (a2 1), .ref (a2 2), .ref (a2 3), .ref (a2 4), .ref (a2 5), .ref (a2 6), .int (nI (nG q)), .int (nI (nM q)), .int (q 2)], eI Γ (a2 0) 5 (fun gg => q (iG gg 0)), eI Γ (a2 1) 5 (fun gg => q (iG gg 1)), eI Γ (a2 2) 5 (fun gg => q (iG gg 2)), eI Γ (a2 3) 6 (fun pp => q (iM pp 0)), eI Γ (a2 4) 6 (fun pp => q (iM pp 1)), eI Γ (a2 5) 6 (fun pp => q (iM pp 2)), eI Γ (a2 6) 6 (fun pp => pl q pp)]) 6 rfl (fun _ _ => by rw [← cpF_s]) rfl ?_
              refine r_aload_n K dX0_become_93 1 rfl ?_
              refine r_get K dX0_become_94 (kf := 6) 0 rfl rfl hinX0 (by decide) q35 rfl rfl ?_
              refine r_iload_n K dX0_become_97 0 rfl ?_
              refine r_aload_n K dX0_become_98 2 rfl ?_
              refine r_get K dX0_become_99 (kf := 6) 8 rfl rfl hinX0 (by decide) q35 rfl rfl ?_
              refine r_iload_n K dX0_become_102 0 rfl ?_
              refine r_aldN K dX0_become_103 15 rfl (by first | omega | exact iG_lt (by omega) (by decide) | exact iM_lt (by omega) (by decide)) (by decide) ?_
              refine r_astN K dX0_become_104 (ws1 := [eO h 0 [.ref (a 0), .ref (a 1), .ref (a 2), .ref (a 3), .ref (a 4), .ref (a 5), .ref (a 6), .int (nI (nG r)), .int (nI (nM r)), .int (r 2)], eI Γ (a 0) 5 (cpF (fun gg => q (iG gg 0)) (fun gg => r (iG gg 0)) 5), eI Γ (a 1) 5 (cpF (fun gg => q (iG gg 1)) (fun gg => r (iG gg 1)) 5), eI Γ (a 2) 5 (cpF (fun gg => q (iG gg 2)) (fun gg => r (iG gg 2)) 5), eI Γ (a 3) 6 (cpF (fun pp => q (iM pp 0)) (fun pp => r (iM pp 0)) (j + 1)), eI Γ (a 4) 6 (cpF (fun pp => q (iM pp 1)) (fun pp => r (iM pp 1)) (j + 1)), eI Γ (a 5) 6 (cpF (fun pp => q (iM pp 2)) (fun pp => r (iM pp 2)) (j + 1)), eI Γ (a 6) 6 (upd (cpF (fun pp => pl q pp) (fun pp => pl r pp) j) j (pl q j)), eO h2 0 [.ref (a2 0), .ref (a2 1), .ref (a2 2), .ref (a2 3), .ref (a2 4), .ref (a2 5), .ref (a2 6), .int (nI (nG q)), .int (nI (nM q)), .int (q 2)], eI Γ (a2 0) 5 (fun gg => q (iG gg 0)), eI Γ (a2 1) 5 (fun gg => q (iG gg 1)), eI Γ (a2 2) 5 (fun gg => q (iG gg 2)), eI Γ (a2 3) 6 (fun pp => q (iM pp 0)), eI Γ (a2 4) 6 (fun pp => q (iM pp 1)), eI Γ (a2 5) 6 (fun pp => q (iM pp 2)), eI Γ (a2 6) 6 (fun pp => pl q pp)]) 7 rfl (by first | omega | exact iG_lt (by omega) (by decide) | exact iM_lt (by omega) (by decide)) (by decide) rfl ?_
              refine r_arr K (f2 := cpF (fun pp => pl q pp) (fun pp => pl r pp) (j + 1)) (ws1 := [eO h 0 [.ref (a 0), .ref (a 1), .ref (a 2), .ref (a 3), .ref (a 4), .ref (a 5), .ref (a 6), .int (nI (nG r)), .int (nI (nM r)), .int (r 2)], eI Γ (a 0) 5 (cpF (fun gg => q (iG gg 0)) (fun gg => r (iG gg 0)) 5), eI Γ (a 1) 5 (cpF (fun gg => q (iG gg 1)) (fun gg => r (iG gg 1)) 5), eI Γ (a 2) 5 (cpF (fun gg => q (iG gg 2)) (fun gg => r (iG gg 2)) 5), eI Γ (a 3) 6 (cpF (fun pp => q (iM pp 0)) (fun pp => r (iM pp 0)) (j + 1)), eI Γ (a 4) 6 (cpF (fun pp => q (iM pp 1)) (fun pp => r (iM pp 1)) (j + 1)), eI Γ (a 5) 6 (cpF (fun pp => q (iM pp 2)) (fun pp => r (iM pp 2)) (j + 1)), eI Γ (a 6) 6 (cpF (fun pp => pl q pp) (fun pp => pl r pp) (j + 1)), eO h2 0 [.ref (a2 0), .ref (a2 1), .ref (a2 2), .ref (a2 3), .ref (a2 4), .ref (a2 5), .ref (a2 6), .int (nI (nG q)), .int (nI (nM q)), .int (q 2)], eI Γ (a2 0) 5 (fun gg => q (iG gg 0)), eI Γ (a2 1) 5 (fun gg => q (iG gg 1)), eI Γ (a2 2) 5 (fun gg => q (iG gg 2)), eI Γ (a2 3) 6 (fun pp => q (iM pp 0)), eI Γ (a2 4) 6 (fun pp => q (iM pp 1)), eI Γ (a2 5) 6 (fun pp => q (iM pp 2)), eI Γ (a2 6) 6 (fun pp => pl q pp)]) 7 rfl (fun _ _ => by rw [← cpF_s]) rfl ?_
              refine r_iincN K dX0_become_105 (n := 1) 0 rfl rfl (by decide) (lv1 := [(2, .int (nI (j + 1))), (0, .ref h), (1, .ref h2)]) rfl ?_
              refine r_goto K dX0_become_108 ?_
              exact ih_L51 (j + 1) (by omega) (by omega)
        exact L51 _ 0 (Nat.zero_le 6) (Nat.lt_succ_self _)
      · refine r_aload_n K dX0_become_7 1 rfl ?_
        refine r_get K dX0_become_8 (kf := 0) 0 rfl rfl hinX0 (by decide) q29 rfl rfl ?_
        refine r_iload_n K dX0_become_11 0 rfl ?_
        refine r_aload_n K dX0_become_12 2 rfl ?_
        refine r_get K dX0_become_13 (kf := 0) 8 rfl rfl hinX0 (by decide) q29 rfl rfl ?_
        refine r_iload_n K dX0_become_16 0 rfl ?_
        refine r_aldN K dX0_become_17 9 rfl (by first | omega | exact iG_lt (by omega) (by decide) | exact iM_lt (by omega) (by decide)) (by decide) ?_
        refine r_astN K dX0_become_18 (ws1 := [eO h 0 [.ref (a 0), .ref (a 1), .ref (a 2), .ref (a 3), .ref (a 4), .ref (a 5), .ref (a 6), .int (nI (nG r)), .int (nI (nM r)), .int (r 2)], eI Γ (a 0) 5 (upd (cpF (fun gg => q (iG gg 0)) (fun gg => r (iG gg 0)) i) i (q (iG i 0))), eI Γ (a 1) 5 (cpF (fun gg => q (iG gg 1)) (fun gg => r (iG gg 1)) i), eI Γ (a 2) 5 (cpF (fun gg => q (iG gg 2)) (fun gg => r (iG gg 2)) i), eI Γ (a 3) 6 (cpF (fun pp => q (iM pp 0)) (fun pp => r (iM pp 0)) 0), eI Γ (a 4) 6 (cpF (fun pp => q (iM pp 1)) (fun pp => r (iM pp 1)) 0), eI Γ (a 5) 6 (cpF (fun pp => q (iM pp 2)) (fun pp => r (iM pp 2)) 0), eI Γ (a 6) 6 (cpF (fun pp => pl q pp) (fun pp => pl r pp) 0), eO h2 0 [.ref (a2 0), .ref (a2 1), .ref (a2 2), .ref (a2 3), .ref (a2 4), .ref (a2 5), .ref (a2 6), .int (nI (nG q)), .int (nI (nM q)), .int (q 2)], eI Γ (a2 0) 5 (fun gg => q (iG gg 0)), eI Γ (a2 1) 5 (fun gg => q (iG gg 1)), eI Γ (a2 2) 5 (fun gg => q (iG gg 2)), eI Γ (a2 3) 6 (fun pp => q (iM pp 0)), eI Γ (a2 4) 6 (fun pp => q (iM pp 1)), eI Γ (a2 5) 6 (fun pp => q (iM pp 2)), eI Γ (a2 6) 6 (fun pp => pl q pp)]) 1 rfl (by first | omega | exact iG_lt (by omega) (by decide) | exact iM_lt (by omega) (by decide)) (by decide) rfl ?_
        refine r_arr K (f2 := cpF (fun gg => q (iG gg 0)) (fun gg => r (iG gg 0)) (i + 1)) (ws1 := [eO h 0 [.ref (a 0), .ref (a 1), .ref (a 2), .ref (a 3), .ref (a 4), .ref (a 5), .ref (a 6), .int (nI (nG r)), .int (nI (nM r)), .int (r 2)], eI Γ (a 0) 5 (cpF (fun gg => q (iG gg 0)) (fun gg => r (iG gg 0)) (i + 1)), eI Γ (a 1) 5 (cpF (fun gg => q (iG gg 1)) (fun gg => r (iG gg 1)) i), eI Γ (a 2) 5 (cpF (fun gg => q (iG gg 2)) (fun gg => r (iG gg 2)) i), eI Γ (a 3) 6 (cpF (fun pp => q (iM pp 0)) (fun pp => r (iM pp 0)) 0), eI Γ (a 4) 6 (cpF (fun pp => q (iM pp 1)) (fun pp => r (iM pp 1)) 0), eI Γ (a 5) 6 (cpF (fun pp => q (iM pp 2)) (fun pp => r (iM pp 2)) 0), eI Γ (a 6) 6 (cpF (fun pp => pl q pp) (fun pp => pl r pp) 0), eO h2 0 [.ref (a2 0), .ref (a2 1), .ref (a2 2), .ref (a2 3), .ref (a2 4), .ref (a2 5), .ref (a2 6), .int (nI (nG q)), .int (nI (nM q)), .int (q 2)], eI Γ (a2 0) 5 (fun gg => q (iG gg 0)), eI Γ (a2 1) 5 (fun gg => q (iG gg 1)), eI Γ (a2 2) 5 (fun gg => q (iG gg 2)), eI Γ (a2 3) 6 (fun pp => q (iM pp 0)), eI Γ (a2 4) 6 (fun pp => q (iM pp 1)), eI Γ (a2 5) 6 (fun pp => q (iM pp 2)), eI Γ (a2 6) 6 (fun pp => pl q pp)]) 1 rfl (fun _ _ => by rw [← cpF_s]) rfl ?_
        refine r_aload_n K dX0_become_19 1 rfl ?_
        refine r_get K dX0_become_20 (kf := 1) 0 rfl rfl hinX0 (by decide) q30 rfl rfl ?_
        refine r_iload_n K dX0_become_23 0 rfl ?_
        refine r_aload_n K dX0_become_24 2 rfl ?_
        refine r_get K dX0_become_25 (kf := 1) 8 rfl rfl hinX0 (by decide) q30 rfl rfl ?_
        refine r_iload_n K dX0_become_28 0 rfl ?_
        refine r_aldN K dX0_become_29 10 rfl (by first | omega | exact iG_lt (by omega) (by decide) | exact iM_lt (by omega) (by decide)) (by decide) ?_
        refine r_astN K dX0_become_30 (ws1 := [eO h 0 [.ref (a 0), .ref (a 1), .ref (a 2), .ref (a 3), .ref (a 4), .ref (a 5), .ref (a 6), .int (nI (nG r)), .int (nI (nM r)), .int (r 2)], eI Γ (a 0) 5 (cpF (fun gg => q (iG gg 0)) (fun gg => r (iG gg 0)) (i + 1)), eI Γ (a 1) 5 (upd (cpF (fun gg => q (iG gg 1)) (fun gg => r (iG gg 1)) i) i (q (iG i 1))), eI Γ (a 2) 5 (cpF (fun gg => q (iG gg 2)) (fun gg => r (iG gg 2)) i), eI Γ (a 3) 6 (cpF (fun pp => q (iM pp 0)) (fun pp => r (iM pp 0)) 0), eI Γ (a 4) 6 (cpF (fun pp => q (iM pp 1)) (fun pp => r (iM pp 1)) 0), eI Γ (a 5) 6 (cpF (fun pp => q (iM pp 2)) (fun pp => r (iM pp 2)) 0), eI Γ (a 6) 6 (cpF (fun pp => pl q pp) (fun pp => pl r pp) 0), eO h2 0 [.ref (a2 0), .ref (a2 1), .ref (a2 2), .ref (a2 3), .ref (a2 4), .ref (a2 5), .ref (a2 6), .int (nI (nG q)), .int (nI (nM q)), .int (q 2)], eI Γ (a2 0) 5 (fun gg => q (iG gg 0)), eI Γ (a2 1) 5 (fun gg => q (iG gg 1)), eI Γ (a2 2) 5 (fun gg => q (iG gg 2)), eI Γ (a2 3) 6 (fun pp => q (iM pp 0)), eI Γ (a2 4) 6 (fun pp => q (iM pp 1)), eI Γ (a2 5) 6 (fun pp => q (iM pp 2)), eI Γ (a2 6) 6 (fun pp => pl q pp)]) 2 rfl (by first | omega | exact iG_lt (by omega) (by decide) | exact iM_lt (by omega) (by decide)) (by decide) rfl ?_
        refine r_arr K (f2 := cpF (fun gg => q (iG gg 1)) (fun gg => r (iG gg 1)) (i + 1)) (ws1 := [eO h 0 [.ref (a 0), .ref (a 1), .ref (a 2), .ref (a 3), .ref (a 4), .ref (a 5), .ref (a 6), .int (nI (nG r)), .int (nI (nM r)), .int (r 2)], eI Γ (a 0) 5 (cpF (fun gg => q (iG gg 0)) (fun gg => r (iG gg 0)) (i + 1)), eI Γ (a 1) 5 (cpF (fun gg => q (iG gg 1)) (fun gg => r (iG gg 1)) (i + 1)), eI Γ (a 2) 5 (cpF (fun gg => q (iG gg 2)) (fun gg => r (iG gg 2)) i), eI Γ (a 3) 6 (cpF (fun pp => q (iM pp 0)) (fun pp => r (iM pp 0)) 0), eI Γ (a 4) 6 (cpF (fun pp => q (iM pp 1)) (fun pp => r (iM pp 1)) 0), eI Γ (a 5) 6 (cpF (fun pp => q (iM pp 2)) (fun pp => r (iM pp 2)) 0), eI Γ (a 6) 6 (cpF (fun pp => pl q pp) (fun pp => pl r pp) 0), eO h2 0 [.ref (a2 0), .ref (a2 1), .ref (a2 2), .ref (a2 3), .ref (a2 4), .ref (a2 5), .ref (a2 6), .int (nI (nG q)), .int (nI (nM q)), .int (q 2)], eI Γ (a2 0) 5 (fun gg => q (iG gg 0)), eI Γ (a2 1) 5 (fun gg => q (iG gg 1)), eI Γ (a2 2) 5 (fun gg => q (iG gg 2)), eI Γ (a2 3) 6 (fun pp => q (iM pp 0)), eI Γ (a2 4) 6 (fun pp => q (iM pp 1)), eI Γ (a2 5) 6 (fun pp => q (iM pp 2)), eI Γ (a2 6) 6 (fun pp => pl q pp)]) 2 rfl (fun _ _ => by rw [← cpF_s]) rfl ?_
        refine r_aload_n K dX0_become_31 1 rfl ?_
        refine r_get K dX0_become_32 (kf := 2) 0 rfl rfl hinX0 (by decide) q31 rfl rfl ?_
        refine r_iload_n K dX0_become_35 0 rfl ?_
        refine r_aload_n K dX0_become_36 2 rfl ?_
        refine r_get K dX0_become_37 (kf := 2) 8 rfl rfl hinX0 (by decide) q31 rfl rfl ?_
        refine r_iload_n K dX0_become_40 0 rfl ?_
        refine r_aldN K dX0_become_41 11 rfl (by first | omega | exact iG_lt (by omega) (by decide) | exact iM_lt (by omega) (by decide)) (by decide) ?_
        refine r_astN K dX0_become_42 (ws1 := [eO h 0 [.ref (a 0), .ref (a 1), .ref (a 2), .ref (a 3), .ref (a 4), .ref (a 5), .ref (a 6), .int (nI (nG r)), .int (nI (nM r)), .int (r 2)], eI Γ (a 0) 5 (cpF (fun gg => q (iG gg 0)) (fun gg => r (iG gg 0)) (i + 1)), eI Γ (a 1) 5 (cpF (fun gg => q (iG gg 1)) (fun gg => r (iG gg 1)) (i + 1)), eI Γ (a 2) 5 (upd (cpF (fun gg => q (iG gg 2)) (fun gg => r (iG gg 2)) i) i (q (iG i 2))), eI Γ (a 3) 6 (cpF (fun pp => q (iM pp 0)) (fun pp => r (iM pp 0)) 0), eI Γ (a 4) 6 (cpF (fun pp => q (iM pp 1)) (fun pp => r (iM pp 1)) 0), eI Γ (a 5) 6 (cpF (fun pp => q (iM pp 2)) (fun pp => r (iM pp 2)) 0), eI Γ (a 6) 6 (cpF (fun pp => pl q pp) (fun pp => pl r pp) 0), eO h2 0 [.ref (a2 0), .ref (a2 1), .ref (a2 2), .ref (a2 3), .ref (a2 4), .ref (a2 5), .ref (a2 6), .int (nI (nG q)), .int (nI (nM q)), .int (q 2)], eI Γ (a2 0) 5 (fun gg => q (iG gg 0)), eI Γ (a2 1) 5 (fun gg => q (iG gg 1)), eI Γ (a2 2) 5 (fun gg => q (iG gg 2)), eI Γ (a2 3) 6 (fun pp => q (iM pp 0)), eI Γ (a2 4) 6 (fun pp => q (iM pp 1)), eI Γ (a2 5) 6 (fun pp => q (iM pp 2)), eI Γ (a2 6) 6 (fun pp => pl q pp)]) 3 rfl (by first | omega | exact iG_lt (by omega) (by decide) | exact iM_lt (by omega) (by decide)) (by decide) rfl ?_
        refine r_arr K (f2 := cpF (fun gg => q (iG gg 2)) (fun gg => r (iG gg 2)) (i + 1)) (ws1 := [eO h 0 [.ref (a 0), .ref (a 1), .ref (a 2), .ref (a 3), .ref (a 4), .ref (a 5), .ref (a 6), .int (nI (nG r)), .int (nI (nM r)), .int (r 2)], eI Γ (a 0) 5 (cpF (fun gg => q (iG gg 0)) (fun gg => r (iG gg 0)) (i + 1)), eI Γ (a 1) 5 (cpF (fun gg => q (iG gg 1)) (fun gg => r (iG gg 1)) (i + 1)), eI Γ (a 2) 5 (cpF (fun gg => q (iG gg 2)) (fun gg => r (iG gg 2)) (i + 1)), eI Γ (a 3) 6 (cpF (fun pp => q (iM pp 0)) (fun pp => r (iM pp 0)) 0), eI Γ (a 4) 6 (cpF (fun pp => q (iM pp 1)) (fun pp => r (iM pp 1)) 0), eI Γ (a 5) 6 (cpF (fun pp => q (iM pp 2)) (fun pp => r (iM pp 2)) 0), eI Γ (a 6) 6 (cpF (fun pp => pl q pp) (fun pp => pl r pp) 0), eO h2 0 [.ref (a2 0), .ref (a2 1), .ref (a2 2), .ref (a2 3), .ref (a2 4), .ref (a2 5), .ref (a2 6), .int (nI (nG q)), .int (nI (nM q)), .int (q 2)], eI Γ (a2 0) 5 (fun gg => q (iG gg 0)), eI Γ (a2 1) 5 (fun gg => q (iG gg 1)), eI Γ (a2 2) 5 (fun gg => q (iG gg 2)), eI Γ (a2 3) 6 (fun pp => q (iM pp 0)), eI Γ (a2 4) 6 (fun pp => q (iM pp 1)), eI Γ (a2 5) 6 (fun pp => q (iM pp 2)), eI Γ (a2 6) 6 (fun pp => pl q pp)]) 3 rfl (fun _ _ => by rw [← cpF_s]) rfl ?_
        refine r_iincN K dX0_become_43 (n := 1) 0 rfl rfl (by decide) (lv1 := [(2, .int (nI (i + 1))), (0, .ref h), (1, .ref h2)]) rfl ?_
        refine r_goto K dX0_become_46 ?_
        exact ih_L2 (i + 1) (by omega) (by omega)
  refine r_arr K (f2 := cpF (fun gg => q (iG gg 0)) (fun gg => r (iG gg 0)) 0) (ws1 := [eO h 0 [.ref (a 0), .ref (a 1), .ref (a 2), .ref (a 3), .ref (a 4), .ref (a 5), .ref (a 6), .int (nI (nG r)), .int (nI (nM r)), .int (r 2)], eI Γ (a 0) 5 (cpF (fun gg => q (iG gg 0)) (fun gg => r (iG gg 0)) 0), eI Γ (a 1) 5 (fun gg => r (iG gg 1)), eI Γ (a 2) 5 (fun gg => r (iG gg 2)), eI Γ (a 3) 6 (fun pp => r (iM pp 0)), eI Γ (a 4) 6 (fun pp => r (iM pp 1)), eI Γ (a 5) 6 (fun pp => r (iM pp 2)), eI Γ (a 6) 6 (fun pp => pl r pp), eO h2 0 [.ref (a2 0), .ref (a2 1), .ref (a2 2), .ref (a2 3), .ref (a2 4), .ref (a2 5), .ref (a2 6), .int (nI (nG q)), .int (nI (nM q)), .int (q 2)], eI Γ (a2 0) 5 (fun gg => q (iG gg 0)), eI Γ (a2 1) 5 (fun gg => q (iG gg 1)), eI Γ (a2 2) 5 (fun gg => q (iG gg 2)), eI Γ (a2 3) 6 (fun pp => q (iM pp 0)), eI Γ (a2 4) 6 (fun pp => q (iM pp 1)), eI Γ (a2 5) 6 (fun pp => q (iM pp 2)), eI Γ (a2 6) 6 (fun pp => pl q pp)]) 1 rfl (fun _ _ => by rw [cpF_0]) rfl ?_
  refine r_arr K (f2 := cpF (fun gg => q (iG gg 1)) (fun gg => r (iG gg 1)) 0) (ws1 := [eO h 0 [.ref (a 0), .ref (a 1), .ref (a 2), .ref (a 3), .ref (a 4), .ref (a 5), .ref (a 6), .int (nI (nG r)), .int (nI (nM r)), .int (r 2)], eI Γ (a 0) 5 (cpF (fun gg => q (iG gg 0)) (fun gg => r (iG gg 0)) 0), eI Γ (a 1) 5 (cpF (fun gg => q (iG gg 1)) (fun gg => r (iG gg 1)) 0), eI Γ (a 2) 5 (fun gg => r (iG gg 2)), eI Γ (a 3) 6 (fun pp => r (iM pp 0)), eI Γ (a 4) 6 (fun pp => r (iM pp 1)), eI Γ (a 5) 6 (fun pp => r (iM pp 2)), eI Γ (a 6) 6 (fun pp => pl r pp), eO h2 0 [.ref (a2 0), .ref (a2 1), .ref (a2 2), .ref (a2 3), .ref (a2 4), .ref (a2 5), .ref (a2 6), .int (nI (nG q)), .int (nI (nM q)), .int (q 2)], eI Γ (a2 0) 5 (fun gg => q (iG gg 0)), eI Γ (a2 1) 5 (fun gg => q (iG gg 1)), eI Γ (a2 2) 5 (fun gg => q (iG gg 2)), eI Γ (a2 3) 6 (fun pp => q (iM pp 0)), eI Γ (a2 4) 6 (fun pp => q (iM pp 1)), eI Γ (a2 5) 6 (fun pp => q (iM pp 2)), eI Γ (a2 6) 6 (fun pp => pl q pp)]) 2 rfl (fun _ _ => by rw [cpF_0]) rfl ?_
  refine r_arr K (f2 := cpF (fun gg => q (iG gg 2)) (fun gg => r (iG gg 2)) 0) (ws1 := [eO h 0 [.ref (a 0), .ref (a 1), .ref (a 2), .ref (a 3), .ref (a 4), .ref (a 5), .ref (a 6), .int (nI (nG r)), .int (nI (nM r)), .int (r 2)], eI Γ (a 0) 5 (cpF (fun gg => q (iG gg 0)) (fun gg => r (iG gg 0)) 0), eI Γ (a 1) 5 (cpF (fun gg => q (iG gg 1)) (fun gg => r (iG gg 1)) 0), eI Γ (a 2) 5 (cpF (fun gg => q (iG gg 2)) (fun gg => r (iG gg 2)) 0), eI Γ (a 3) 6 (fun pp => r (iM pp 0)), eI Γ (a 4) 6 (fun pp => r (iM pp 1)), eI Γ (a 5) 6 (fun pp => r (iM pp 2)), eI Γ (a 6) 6 (fun pp => pl r pp), eO h2 0 [.ref (a2 0), .ref (a2 1), .ref (a2 2), .ref (a2 3), .ref (a2 4), .ref (a2 5), .ref (a2 6), .int (nI (nG q)), .int (nI (nM q)), .int (q 2)], eI Γ (a2 0) 5 (fun gg => q (iG gg 0)), eI Γ (a2 1) 5 (fun gg => q (iG gg 1)), eI Γ (a2 2) 5 (fun gg => q (iG gg 2)), eI Γ (a2 3) 6 (fun pp => q (iM pp 0)), eI Γ (a2 4) 6 (fun pp => q (iM pp 1)), eI Γ (a2 5) 6 (fun pp => q (iM pp 2)), eI Γ (a2 6) 6 (fun pp => pl q pp)]) 3 rfl (fun _ _ => by rw [cpF_0]) rfl ?_
  refine r_arr K (f2 := cpF (fun pp => q (iM pp 0)) (fun pp => r (iM pp 0)) 0) (ws1 := [eO h 0 [.ref (a 0), .ref (a 1), .ref (a 2), .ref (a 3), .ref (a 4), .ref (a 5), .ref (a 6), .int (nI (nG r)), .int (nI (nM r)), .int (r 2)], eI Γ (a 0) 5 (cpF (fun gg => q (iG gg 0)) (fun gg => r (iG gg 0)) 0), eI Γ (a 1) 5 (cpF (fun gg => q (iG gg 1)) (fun gg => r (iG gg 1)) 0), eI Γ (a 2) 5 (cpF (fun gg => q (iG gg 2)) (fun gg => r (iG gg 2)) 0), eI Γ (a 3) 6 (cpF (fun pp => q (iM pp 0)) (fun pp => r (iM pp 0)) 0), eI Γ (a 4) 6 (fun pp => r (iM pp 1)), eI Γ (a 5) 6 (fun pp => r (iM pp 2)), eI Γ (a 6) 6 (fun pp => pl r pp), eO h2 0 [.ref (a2 0), .ref (a2 1), .ref (a2 2), .ref (a2 3), .ref (a2 4), .ref (a2 5), .ref (a2 6), .int (nI (nG q)), .int (nI (nM q)), .int (q 2)], eI Γ (a2 0) 5 (fun gg => q (iG gg 0)), eI Γ (a2 1) 5 (fun gg => q (iG gg 1)), eI Γ (a2 2) 5 (fun gg => q (iG gg 2)), eI Γ (a2 3) 6 (fun pp => q (iM pp 0)), eI Γ (a2 4) 6 (fun pp => q (iM pp 1)), eI Γ (a2 5) 6 (fun pp => q (iM pp 2)), eI Γ (a2 6) 6 (fun pp => pl q pp)]) 4 rfl (fun _ _ => by rw [cpF_0]) rfl ?_
  refine r_arr K (f2 := cpF (fun pp => q (iM pp 1)) (fun pp => r (iM pp 1)) 0) (ws1 := [eO h 0 [.ref (a 0), .ref (a 1), .ref (a 2), .ref (a 3), .ref (a 4), .ref (a 5), .ref (a 6), .int (nI (nG r)), .int (nI (nM r)), .int (r 2)], eI Γ (a 0) 5 (cpF (fun gg => q (iG gg 0)) (fun gg => r (iG gg 0)) 0), eI Γ (a 1) 5 (cpF (fun gg => q (iG gg 1)) (fun gg => r (iG gg 1)) 0), eI Γ (a 2) 5 (cpF (fun gg => q (iG gg 2)) (fun gg => r (iG gg 2)) 0), eI Γ (a 3) 6 (cpF (fun pp => q (iM pp 0)) (fun pp => r (iM pp 0)) 0), eI Γ (a 4) 6 (cpF (fun pp => q (iM pp 1)) (fun pp => r (iM pp 1)) 0), eI Γ (a 5) 6 (fun pp => r (iM pp 2)), eI Γ (a 6) 6 (fun pp => pl r pp), eO h2 0 [.ref (a2 0), .ref (a2 1), .ref (a2 2), .ref (a2 3), .ref (a2 4), .ref (a2 5), .ref (a2 6), .int (nI (nG q)), .int (nI (nM q)), .int (q 2)], eI Γ (a2 0) 5 (fun gg => q (iG gg 0)), eI Γ (a2 1) 5 (fun gg => q (iG gg 1)), eI Γ (a2 2) 5 (fun gg => q (iG gg 2)), eI Γ (a2 3) 6 (fun pp => q (iM pp 0)), eI Γ (a2 4) 6 (fun pp => q (iM pp 1)), eI Γ (a2 5) 6 (fun pp => q (iM pp 2)), eI Γ (a2 6) 6 (fun pp => pl q pp)]) 5 rfl (fun _ _ => by rw [cpF_0]) rfl ?_
  refine r_arr K (f2 := cpF (fun pp => q (iM pp 2)) (fun pp => r (iM pp 2)) 0) (ws1 := [eO h 0 [.ref (a 0), .ref (a 1), .ref (a 2), .ref (a 3), .ref (a 4), .ref (a 5), .ref (a 6), .int (nI (nG r)), .int (nI (nM r)), .int (r 2)], eI Γ (a 0) 5 (cpF (fun gg => q (iG gg 0)) (fun gg => r (iG gg 0)) 0), eI Γ (a 1) 5 (cpF (fun gg => q (iG gg 1)) (fun gg => r (iG gg 1)) 0), eI Γ (a 2) 5 (cpF (fun gg => q (iG gg 2)) (fun gg => r (iG gg 2)) 0), eI Γ (a 3) 6 (cpF (fun pp => q (iM pp 0)) (fun pp => r (iM pp 0)) 0), eI Γ (a 4) 6 (cpF (fun pp => q (iM pp 1)) (fun pp => r (iM pp 1)) 0), eI Γ (a 5) 6 (cpF (fun pp => q (iM pp 2)) (fun pp => r (iM pp 2)) 0), eI Γ (a 6) 6 (fun pp => pl r pp), eO h2 0 [.ref (a2 0), .ref (a2 1), .ref (a2 2), .ref (a2 3), .ref (a2 4), .ref (a2 5), .ref (a2 6), .int (nI (nG q)), .int (nI (nM q)), .int (q 2)], eI Γ (a2 0) 5 (fun gg => q (iG gg 0)), eI Γ (a2 1) 5 (fun gg => q (iG gg 1)), eI Γ (a2 2) 5 (fun gg => q (iG gg 2)), eI Γ (a2 3) 6 (fun pp => q (iM pp 0)), eI Γ (a2 4) 6 (fun pp => q (iM pp 1)), eI Γ (a2 5) 6 (fun pp => q (iM pp 2)), eI Γ (a2 6) 6 (fun pp => pl q pp)]) 6 rfl (fun _ _ => by rw [cpF_0]) rfl ?_
  refine r_arr K (f2 := cpF (fun pp => pl q pp) (fun pp => pl r pp) 0) (ws1 := [eO h 0 [.ref (a 0), .ref (a 1), .ref (a 2), .ref (a 3), .ref (a 4), .ref (a 5), .ref (a 6), .int (nI (nG r)), .int (nI (nM r)), .int (r 2)], eI Γ (a 0) 5 (cpF (fun gg => q (iG gg 0)) (fun gg => r (iG gg 0)) 0), eI Γ (a 1) 5 (cpF (fun gg => q (iG gg 1)) (fun gg => r (iG gg 1)) 0), eI Γ (a 2) 5 (cpF (fun gg => q (iG gg 2)) (fun gg => r (iG gg 2)) 0), eI Γ (a 3) 6 (cpF (fun pp => q (iM pp 0)) (fun pp => r (iM pp 0)) 0), eI Γ (a 4) 6 (cpF (fun pp => q (iM pp 1)) (fun pp => r (iM pp 1)) 0), eI Γ (a 5) 6 (cpF (fun pp => q (iM pp 2)) (fun pp => r (iM pp 2)) 0), eI Γ (a 6) 6 (cpF (fun pp => pl q pp) (fun pp => pl r pp) 0), eO h2 0 [.ref (a2 0), .ref (a2 1), .ref (a2 2), .ref (a2 3), .ref (a2 4), .ref (a2 5), .ref (a2 6), .int (nI (nG q)), .int (nI (nM q)), .int (q 2)], eI Γ (a2 0) 5 (fun gg => q (iG gg 0)), eI Γ (a2 1) 5 (fun gg => q (iG gg 1)), eI Γ (a2 2) 5 (fun gg => q (iG gg 2)), eI Γ (a2 3) 6 (fun pp => q (iM pp 0)), eI Γ (a2 4) 6 (fun pp => q (iM pp 1)), eI Γ (a2 5) 6 (fun pp => q (iM pp 2)), eI Γ (a2 6) 6 (fun pp => pl q pp)]) 7 rfl (fun _ _ => by rw [cpF_0]) rfl ?_
  exact L2 _ 0 (Nat.zero_le 5) (Nat.lt_succ_self _)
/-! FRACTIONS, the JDK -/
set_option maxHeartbeats 1000000 in
set_option maxRecDepth 20000 in
theorem c_X1_power (l : Launch) (Γ : eG) (b : Nat) (n : Nat) (hn : n < 2 ^ 31) : cD l Γ yX1_power cX1_power 6 (some .long) 0 [.long (lN b), .int (nI n)] [] (some (.long (lN (powS b n)))) [] := by
  refine e_long [(0, .long (lN b)), (2, .int (nI n))] (by decide +kernel) (Nat.le_of_ble_eq_true rfl) rfl (fun V K hR => ?_)
  refine r_lconst K dX1_power_0 (lN 1) (by decide) ?_
  refine r_lstore_n K dX1_power_1 rfl (by decide) (lv1 := [(3, .long (lN 1)), (0, .long (lN b)), (2, .int (nI n))]) rfl ?_
  refine r_iconst K dX1_power_2 (nI 0) (by decide) ?_
  refine r_istore K dX1_power_3 (by decide) (lv1 := [(5, .int (nI 0)), (3, .long (lN 1)), (0, .long (lN b)), (2, .int (nI n))]) rfl ?_
  have L5 : ∀ (fL5 : Nat) (i : Nat), (i ≤ n) → n - i < fL5 → V 5 [(5, .int (nI i)), (3, .long (lN (powS b i))), (0, .long (lN b)), (2, .int (nI n))] [] [] := by
    intro fL5
    induction fL5 with
    | zero => intro i hi hf; exact absurd hf (Nat.not_lt_zero _)
    | succ fL5 ih_L5 =>
      intro i hi hfL5
      refine r_iload K dX1_power_5 0 rfl ?_
      refine r_iload_n K dX1_power_7 3 rfl ?_
      refine r_ic_geN K dX1_power_8 (by omega) (by omega) (fun c8 => ?_) (fun c8 => ?_)
      · obtain rfl : i = n := by omega
        refine r_lload_n K dX1_power_21 1 rfl ?_
        exact hR () dX1_power_22 (trivial) (e_rl (rfl)) (weq.rf)
      · refine r_lload_n K dX1_power_11 1 rfl ?_
        refine r_lload_n K dX1_power_12 2 rfl ?_
        refine r_lmul K dX1_power_13 ?_
        refine r_topL (y := lN (powS b (i + 1))) (by rw [lN_mul]; rfl) ?_
        refine r_lstore_n K dX1_power_14 rfl (by decide) (lv1 := [(3, .long (lN (powS b (i + 1)))), (5, .int (nI i)), (0, .long (lN b)), (2, .int (nI n))]) rfl ?_
        refine r_iincN K dX1_power_15 (n := 1) 1 rfl rfl (by decide) (lv1 := [(5, .int (nI (i + 1))), (3, .long (lN (powS b (i + 1)))), (0, .long (lN b)), (2, .int (nI n))]) rfl ?_
        refine r_goto K dX1_power_18 ?_
        exact ih_L5 (i + 1) (by omega) (by omega)
  -- local 3: .long (lN 1) as .long (lN (powS b 0))
  exact L5 _ 0 (Nat.zero_le _) (Nat.lt_succ_self _)
set_option maxHeartbeats 1000000 in
set_option maxRecDepth 20000 in
theorem c_X1_commonDivisor (l : Launch) (Γ : eG) (x : Int64) (y : Int64)  : cD l Γ yX1_commonDivisor cX1_commonDivisor 11 (some .long) 0 [.long x, .long y] [] (some (.long (gcL 1000 x y))) [] := by
  refine e_long [(0, .long x), (2, .long y)] (by decide +kernel) (Nat.le_of_ble_eq_true rfl) rfl (fun V K hR => ?_)
  refine r_lload_n K dX1_commonDivisor_0 0 rfl ?_
  refine r_lstore K dX1_commonDivisor_1 (by decide) (lv1 := [(4, .long x), (0, .long x), (2, .long y)]) rfl ?_
  refine r_lload_n K dX1_commonDivisor_3 2 rfl ?_
  refine r_lstore K dX1_commonDivisor_4 (by decide) (lv1 := [(6, .long y), (4, .long x), (0, .long x), (2, .long y)]) rfl ?_
  refine r_iconst K dX1_commonDivisor_6 (nI 0) (by decide) ?_
  refine r_istore K dX1_commonDivisor_7 (by decide) (lv1 := [(8, .int (nI 0)), (6, .long y), (4, .long x), (0, .long x), (2, .long y)]) rfl ?_
  have L9 : ∀ (fL9 : Nat) (f : Nat) (i : Nat) (a : Int64) (b : Int64), (f + i = 1000) → (gcL 1000 x y = gcL f a b) → f < fL9 → V 9 [(8, .int (nI i)), (6, .long b), (4, .long a), (0, .long x), (2, .long y)] [] [] := by
    intro fL9
    induction fL9 with
    | zero => intro f i a b hfi hE hf; exact absurd hf (Nat.not_lt_zero _)
    | succ fL9 ih_L9 =>
      intro f i a b hfi hE hfL9
      refine r_iload K dX1_commonDivisor_9 0 rfl ?_
      refine r_sipush K dX1_commonDivisor_11 (nI 1000) (by decide) ?_
      refine r_ic_geN K dX1_commonDivisor_14 (by omega) (by omega) (fun c14 => ?_) (fun c14 => ?_)
      · obtain rfl : f = 0 := by omega
        refine r_lload K dX1_commonDivisor_45 2 rfl ?_
        exact hR () dX1_commonDivisor_47 (trivial) (e_rl (hE)) (weq.rf)
      · obtain ⟨f, rfl⟩ : ∃ q, f = q + 1 := ⟨f - 1, by omega⟩
        refine r_lload K dX1_commonDivisor_17 1 rfl ?_
        refine r_lconst K dX1_commonDivisor_19 (lN 0) (by decide) ?_
        refine r_lcmp K dX1_commonDivisor_20 ?_
        refine r_if_eq K dX1_commonDivisor_21 (fun c21 => ?_) (fun c21 => ?_)
        · refine r_lload K dX1_commonDivisor_45 2 rfl ?_
          exact hR () dX1_commonDivisor_47 (trivial) (e_rl (hE.trans (if_pos ((lg_cmp_eq _ _).mp c21)))) (weq.rf)
        · refine r_lload K dX1_commonDivisor_24 2 rfl ?_
          refine r_lload K dX1_commonDivisor_26 1 rfl ?_
          refine r_lrem K dX1_commonDivisor_28 (fun z => c21 ((lg_cmp_eq _ _).mpr z)) ?_
          refine r_lstore K dX1_commonDivisor_29 (by decide) (lv1 := [(9, .long (a - a / b * b)), (8, .int (nI i)), (6, .long b), (4, .long a), (0, .long x), (2, .long y)]) rfl ?_
          refine r_lload K dX1_commonDivisor_31 2 rfl ?_
          refine r_lstore K dX1_commonDivisor_33 (by decide) (lv1 := [(4, .long b), (9, .long (a - a / b * b)), (8, .int (nI i)), (6, .long b), (0, .long x), (2, .long y)]) rfl ?_
          refine r_lload K dX1_commonDivisor_35 1 rfl ?_
          refine r_lstore K dX1_commonDivisor_37 (by decide) (lv1 := [(6, .long (a - a / b * b)), (4, .long b), (9, .long (a - a / b * b)), (8, .int (nI i)), (0, .long x), (2, .long y)]) rfl ?_
          refine r_iincN K dX1_commonDivisor_39 (n := 1) 3 rfl rfl (by decide) (lv1 := [(8, .int (nI (i + 1))), (6, .long (a - a / b * b)), (4, .long b), (9, .long (a - a / b * b)), (0, .long x), (2, .long y)]) rfl ?_
          refine r_goto K dX1_commonDivisor_42 ?_
          refine r_lv K [0, 1, 2, 4, 5] rfl ?_
          exact ih_L9 f (i + 1) b (a - a / b * b) (by omega) (hE.trans (if_neg (fun z => c21 ((lg_cmp_eq _ _).mpr z)))) (by omega)
  exact L9 _ 1000 0 x y (rfl) (rfl) (Nat.lt_succ_self _)
set_option maxHeartbeats 1000000 in
set_option maxRecDepth 20000 in
theorem c_X1_told (l : Launch) (Γ : eG) (a : Nat) (b : Nat) (p : Int32) (ha : a < 2 ^ 63) (hb : b < 2 ^ 63) : cD l Γ yX1_told cX1_told 7 (some .long) 1 [.long (lN a), .long (lN b), .int p] [] (some (.long (partS a b p))) [] := by
  refine e_long [(0, .long (lN a)), (2, .long (lN b)), (4, .int p)] (by decide +kernel) (Nat.le_of_ble_eq_true rfl) rfl (fun V K hR => ?_)
  refine r_lload_n K dX1_told_0 0 rfl ?_
  refine r_lconst K dX1_told_1 (lN 0) (by decide) ?_
  refine r_lcmp K dX1_told_2 ?_
  refine r_if_le K dX1_told_3 (fun c3 => ?_) (fun c3 => ?_)
  · have z0 : a = 0 ∨ b = 0 := Or.inl (by have := (lg_le0 ha (by decide)).mp c3; omega)
    refine r_iload K dX1_told_12 2 rfl ?_
    refine r_if_ne K dX1_told_14 (fun c14 => ?_) (fun c14 => ?_)
    · refine r_lconst K dX1_told_21 (lN 1) (by decide) ?_
      exact hR () dX1_told_22 (trivial) (e_rl (by unfold partS; rw [if_pos z0, if_neg c14])) (weq.rf)
    · refine r_lconst K dX1_told_17 (lN 0) (by decide) ?_
      refine r_goto K dX1_told_18 ?_
      exact hR () dX1_told_22 (trivial) (e_rl (by unfold partS; rw [if_pos z0, if_pos c14])) (weq.rf)
  · refine r_lload_n K dX1_told_6 1 rfl ?_
    refine r_lconst K dX1_told_7 (lN 0) (by decide) ?_
    refine r_lcmp K dX1_told_8 ?_
    refine r_if_gt K dX1_told_9 (fun c9 => ?_) (fun c9 => ?_)
    · refine r_lconst K dX1_told_23 (lN 1) (by decide) ?_
      refine r_lload_n K dX1_told_24 0 rfl ?_
      refine r_lload_n K dX1_told_25 1 rfl ?_
      refine r_cSd K dX1_told_26 (c_X1_commonDivisor l Γ (lN a) (lN b)) mX1_commonDivisor q632 rfl (by decide) 0 rfl [] [] rfl rfl [] rfl [] rfl rfl rfl [.long (lN 1)] rfl (Nat.le_of_ble_eq_true rfl) ?_
      refine r_topL (y := lN (Nat.gcd a b)) (gcL_ok 63 1000 a b ha hb (by decide) (by decide)) ?_
      refine r_mmaxL K dX1_told_29 q635 q636 q637 (Nat.le_of_ble_eq_true rfl) (by decide) ?_
      have ha0 : 0 < a := (lg_gt0 ha (by decide)).mp (Int32.not_le.mp c3)
      have hb0 : 0 < b := (lg_gt0 hb (by decide)).mp c9
      have hg0 : 0 < Nat.gcd a b := Nat.gcd_pos_of_pos_left _ ha0
      have hg1 : Nat.gcd a b ≤ a := Nat.gcd_le_left _ ha0
      have hg2 : Nat.gcd a b ≤ b := Nat.gcd_le_right _ hb0
      refine r_topL (y := lN (Nat.gcd a b)) (by
            by_cases q : lN (Nat.gcd a b) < lN 1
            · rw [pk_lLT (by omega) (by decide)] at q; omega
            · rw [if_neg q]) ?_
      refine r_lstore K dX1_told_32 (by decide) (lv1 := [(5, .long (lN (Nat.gcd a b))), (0, .long (lN a)), (2, .long (lN b)), (4, .int p)]) rfl ?_
      refine r_iload K dX1_told_34 3 rfl ?_
      refine r_if_ne K dX1_told_36 (fun c36 => ?_) (fun c36 => ?_)
      · refine r_lload_n K dX1_told_46 2 rfl ?_
        refine r_lload K dX1_told_47 0 rfl ?_
        refine r_ldiv K dX1_told_49 (lN_ne0 hg0 (by omega)) ?_
        exact hR () dX1_told_50 (trivial) (e_rl (by unfold partS; rw [if_neg (by omega), if_neg c36, pk_lDiv hb hg0 (by omega)])) (weq.rf)
      · refine r_lload_n K dX1_told_39 1 rfl ?_
        refine r_lload K dX1_told_40 0 rfl ?_
        refine r_ldiv K dX1_told_42 (lN_ne0 hg0 (by omega)) ?_
        refine r_goto K dX1_told_43 ?_
        exact hR () dX1_told_50 (trivial) (e_rl (by unfold partS; rw [if_neg (by omega), if_pos c36, pk_lDiv ha hg0 (by omega)])) (weq.rf)
    · have z0 : a = 0 ∨ b = 0 := Or.inr (by have := mt (lg_gt0 hb (by decide)).mpr c9; omega)
      refine r_iload K dX1_told_12 2 rfl ?_
      refine r_if_ne K dX1_told_14 (fun c14 => ?_) (fun c14 => ?_)
      · refine r_lconst K dX1_told_21 (lN 1) (by decide) ?_
        exact hR () dX1_told_22 (trivial) (e_rl (by unfold partS; rw [if_pos z0, if_neg c14])) (weq.rf)
      · refine r_lconst K dX1_told_17 (lN 0) (by decide) ?_
        refine r_goto K dX1_told_18 ?_
        exact hR () dX1_told_22 (trivial) (e_rl (by unfold partS; rw [if_pos z0, if_pos c14])) (weq.rf)
set_option maxHeartbeats 1000000 in
set_option maxRecDepth 20000 in
theorem c_J6_bitCount_0f7a4 (l : Launch) (Γ : eG) (n : Nat) (hn : n < 128) : cD l Γ yJ6_bitCount_0f7a4 cJ6_bitCount_0f7a4 1 (some .int) 0 [.int (nI n)] [] (some (.int (nI (pop6 n)))) [] := by
  refine e_int [(0, .int (nI n))] (by decide +kernel) (Nat.le_of_ble_eq_true rfl) rfl (fun V K hR => ?_)
  refine r_iload_n K dJ6_bitCount_0f7a4_0 0 rfl ?_
  refine r_iload_n K dJ6_bitCount_0f7a4_1 0 rfl ?_
  refine r_iconst K dJ6_bitCount_0f7a4_2 (nI 1) (by decide) ?_
  refine r_iushr K dJ6_bitCount_0f7a4_3 (((nI n).toUInt32 >>> ((nI 1).toUInt32 &&& Int32.toUInt32 31)).toInt32) rfl ?_
  refine r_ldcw K dJ6_bitCount_0f7a4_4 q525 ?_
  refine r_iand K dJ6_bitCount_0f7a4_7 ?_
  refine r_isub K dJ6_bitCount_0f7a4_8 ?_
  refine r_nm (fun y1 ey1 => ?_)
  refine r_istore_n K dJ6_bitCount_0f7a4_9 rfl (by decide) (lv1 := [(0, .int y1)]) rfl ?_
  refine r_iload_n K dJ6_bitCount_0f7a4_10 0 rfl ?_
  refine r_ldcw K dJ6_bitCount_0f7a4_11 q526 ?_
  refine r_iand K dJ6_bitCount_0f7a4_14 ?_
  refine r_iload_n K dJ6_bitCount_0f7a4_15 0 rfl ?_
  refine r_iconst K dJ6_bitCount_0f7a4_16 (nI 2) (by decide) ?_
  refine r_iushr K dJ6_bitCount_0f7a4_17 ((y1.toUInt32 >>> ((nI 2).toUInt32 &&& Int32.toUInt32 31)).toInt32) rfl ?_
  refine r_ldcw K dJ6_bitCount_0f7a4_18 q526 ?_
  refine r_iand K dJ6_bitCount_0f7a4_21 ?_
  refine r_iadd K dJ6_bitCount_0f7a4_22 ?_
  refine r_nm (fun y2 ey2 => ?_)
  refine r_istore_n K dJ6_bitCount_0f7a4_23 rfl (by decide) (lv1 := [(0, .int y2)]) rfl ?_
  refine r_iload_n K dJ6_bitCount_0f7a4_24 0 rfl ?_
  refine r_iload_n K dJ6_bitCount_0f7a4_25 0 rfl ?_
  refine r_iconst K dJ6_bitCount_0f7a4_26 (nI 4) (by decide) ?_
  refine r_iushr K dJ6_bitCount_0f7a4_27 ((y2.toUInt32 >>> ((nI 4).toUInt32 &&& Int32.toUInt32 31)).toInt32) rfl ?_
  refine r_iadd K dJ6_bitCount_0f7a4_28 ?_
  refine r_ldcw K dJ6_bitCount_0f7a4_29 q527 ?_
  refine r_iand K dJ6_bitCount_0f7a4_32 ?_
  refine r_nm (fun y3 ey3 => ?_)
  refine r_istore_n K dJ6_bitCount_0f7a4_33 rfl (by decide) (lv1 := [(0, .int y3)]) rfl ?_
  refine r_iload_n K dJ6_bitCount_0f7a4_34 0 rfl ?_
  refine r_iload_n K dJ6_bitCount_0f7a4_35 0 rfl ?_
  refine r_bipush K dJ6_bitCount_0f7a4_36 (nI 8) (by decide) ?_
  refine r_iushr K dJ6_bitCount_0f7a4_38 ((y3.toUInt32 >>> ((nI 8).toUInt32 &&& Int32.toUInt32 31)).toInt32) rfl ?_
  refine r_iadd K dJ6_bitCount_0f7a4_39 ?_
  refine r_nm (fun y4 ey4 => ?_)
  refine r_istore_n K dJ6_bitCount_0f7a4_40 rfl (by decide) (lv1 := [(0, .int y4)]) rfl ?_
  refine r_iload_n K dJ6_bitCount_0f7a4_41 0 rfl ?_
  refine r_iload_n K dJ6_bitCount_0f7a4_42 0 rfl ?_
  refine r_bipush K dJ6_bitCount_0f7a4_43 (nI 16) (by decide) ?_
  refine r_iushr K dJ6_bitCount_0f7a4_45 ((y4.toUInt32 >>> ((nI 16).toUInt32 &&& Int32.toUInt32 31)).toInt32) rfl ?_
  refine r_iadd K dJ6_bitCount_0f7a4_46 ?_
  refine r_nm (fun y5 ey5 => ?_)
  refine r_istore_n K dJ6_bitCount_0f7a4_47 rfl (by decide) (lv1 := [(0, .int y5)]) rfl ?_
  refine r_iload_n K dJ6_bitCount_0f7a4_48 0 rfl ?_
  refine r_bipush K dJ6_bitCount_0f7a4_49 (nI 63) (by decide) ?_
  refine r_iand K dJ6_bitCount_0f7a4_51 ?_
  exact hR () dJ6_bitCount_0f7a4_52 (trivial) (e_ri (by rw [ey5, ey4, ey3, ey2, ey1]; exact (bcF_ok n hn).symm)) (weq.rf)
set_option maxHeartbeats 1000000 in
set_option maxRecDepth 20000 in
theorem c_J9_floorDiv_7cf53 (l : Launch) (Γ : eG) (x : Nat) (y : Nat) (hx : x < 2 ^ 31) (hy : 0 < y) (hy2 : y < 2 ^ 31) : cD l Γ yJ9_floorDiv_7cf53 cJ9_floorDiv_7cf53 3 (some .int) 0 [.int (nI x), .int (nI y)] [] (some (.int (nI (x / y)))) [] := by
  refine e_int [(0, .int (nI x)), (1, .int (nI y))] (by decide +kernel) (Nat.le_of_ble_eq_true rfl) rfl (fun V K hR => ?_)
  refine r_iload_n K dJ9_floorDiv_7cf53_0 0 rfl ?_
  refine r_iload_n K dJ9_floorDiv_7cf53_1 1 rfl ?_
  refine r_idivN K dJ9_floorDiv_7cf53_2 (by omega) (by omega) (by omega) ?_
  refine r_istore_n K dJ9_floorDiv_7cf53_3 rfl (by decide) (lv1 := [(2, .int (nI (x / y))), (0, .int (nI x)), (1, .int (nI y))]) rfl ?_
  refine r_iload_n K dJ9_floorDiv_7cf53_4 1 rfl ?_
  refine r_iload_n K dJ9_floorDiv_7cf53_5 2 rfl ?_
  refine r_ixor K dJ9_floorDiv_7cf53_6 ?_
  have hxy : x ^^^ y < 2 ^ 31 := Nat.xor_lt_two_pow hx hy2
  refine r_top (y := nI (x ^^^ y)) (nx_xorI x y) ?_
  refine r_if_geN K dJ9_floorDiv_7cf53_7 (by omega) (fun c7 => ?_) (fun c7 => ?_)
  · refine r_iload_n K dJ9_floorDiv_7cf53_21 0 rfl ?_
    exact hR () dJ9_floorDiv_7cf53_22 (trivial) (e_ri (rfl)) (weq.rf)
  · exact absurd c7 (by omega)
