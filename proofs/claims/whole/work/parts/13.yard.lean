/-! KINDS -/
set_option maxHeartbeats 1000000 in
set_option maxRecDepth 20000 in
theorem c_X2_weeping (l : Launch) (Γ : eG) (k : Int32) (f : Int32) (g : Int32)  : cD l Γ yX2_weeping cX2_weeping 3 (some .int) 0 [.int k, .int f, .int g] [] (some (.int (weepK k f g))) [] := by
  refine e_int [(0, .int k), (1, .int f), (2, .int g)] (by decide +kernel) (Nat.le_of_ble_eq_true rfl) rfl (fun V K hR => ?_)
  refine r_iload_n K dX2_weeping_0 0 rfl ?_
  refine r_tsw K dX2_weeping_1.1 [36, 42, 50, 65, 74] 76 (by decide) (by decide) (by decide) ⟨fun c1 => ?_, fun c1 => ?_, fun c1 => ?_, fun c1 => ?_, fun c1 => ?_, trivial⟩ (fun c1 => ?_)
  · have c1 : k = nI 1 := c1
    refine r_iload_n K dX2_weeping_36 1 rfl ?_
    refine r_iconst K dX2_weeping_37 (nI 2) (by decide) ?_
    refine r_idiv K dX2_weeping_38 (by decide) ?_
    refine r_iconst K dX2_weeping_39 (nI 1) (by decide) ?_
    refine r_iadd K dX2_weeping_40 ?_
    exact hR () dX2_weeping_41 (trivial) (e_ri (by rw [c1]; exact weepK_1 f g)) (weq.rf)
  · have c1 : k = nI 2 := c1
    refine r_iconst K dX2_weeping_42 (nI 2) (by decide) ?_
    refine r_iload_n K dX2_weeping_43 1 rfl ?_
    refine r_iconst K dX2_weeping_44 (nI 2) (by decide) ?_
    refine r_idiv K dX2_weeping_45 (by decide) ?_
    refine r_iconst K dX2_weeping_46 (nI 1) (by decide) ?_
    refine r_iadd K dX2_weeping_47 ?_
    refine r_imul K dX2_weeping_48 ?_
    exact hR () dX2_weeping_49 (trivial) (e_ri (by rw [c1]; exact weepK_2 f g)) (weq.rf)
  · have c1 : k = nI 3 := c1
    refine r_iload_n K dX2_weeping_50 2 rfl ?_
    refine r_bipush K dX2_weeping_51 (nI 50) (by decide) ?_
    refine r_ic_ge K dX2_weeping_53 (fun c53 => ?_) (fun c53 => ?_)
    · refine r_iload_n K dX2_weeping_60 2 rfl ?_
      refine r_bipush K dX2_weeping_61 (nI 10) (by decide) ?_
      refine r_idiv K dX2_weeping_63 (by decide) ?_
      exact hR () dX2_weeping_64 (trivial) (e_ri (by rw [c1, weepK_3, if_neg (Int32.not_lt.mpr c53)])) (weq.rf)
    · refine r_iconst K dX2_weeping_56 (nI 0) (by decide) ?_
      refine r_goto K dX2_weeping_57 ?_
      exact hR () dX2_weeping_64 (trivial) (e_ri (by rw [c1, weepK_3, if_pos (Int32.not_le.mp c53)])) (weq.rf)
  · have c1 : k = nI 4 := c1
    refine r_iload_n K dX2_weeping_65 2 rfl ?_
    refine r_bipush K dX2_weeping_66 (nI 10) (by decide) ?_
    refine r_idiv K dX2_weeping_68 (by decide) ?_
    refine r_iload_n K dX2_weeping_69 1 rfl ?_
    refine r_iconst K dX2_weeping_70 (nI 3) (by decide) ?_
    refine r_idiv K dX2_weeping_71 (by decide) ?_
    refine r_iadd K dX2_weeping_72 ?_
    exact hR () dX2_weeping_73 (trivial) (e_ri (by rw [c1]; exact weepK_4 f g)) (weq.rf)
  · have c1 : k = nI 5 := c1
    refine r_iconst K dX2_weeping_74 (nI 1) (by decide) ?_
    exact hR () dX2_weeping_75 (trivial) (e_ri (by rw [c1]; exact weepK_5 f g)) (weq.rf)
  · have c1 : ∀ v : Nat, 1 ≤ v → v ≤ 5 → v < 2 ^ 31 → ¬ k = nI v := tsw_out c1
    refine r_iload_n K dX2_weeping_76 2 rfl ?_
    refine r_bipush K dX2_weeping_77 (nI 10) (by decide) ?_
    refine r_idiv K dX2_weeping_79 (by decide) ?_
    exact hR () dX2_weeping_80 (trivial) (e_ri (weepK_n c1 f g)) (weq.rf)
set_option maxHeartbeats 1000000 in
set_option maxRecDepth 20000 in
theorem c_X2_fading (l : Launch) (Γ : eG) (k : Int32)  : cD l Γ yX2_fading cX2_fading 1 (some .int) 0 [.int k] [] (some (.int (fadeK k))) [] := by
  refine e_int [(0, .int k)] (by decide +kernel) (Nat.le_of_ble_eq_true rfl) rfl (fun V K hR => ?_)
  refine r_iload_n K dX2_fading_0 0 rfl ?_
  refine r_tsw K dX2_fading_1.1 [36, 36, 40, 38, 36] 40 (by decide) (by decide) (by decide) ⟨fun c1 => ?_, fun c1 => ?_, fun c1 => ?_, fun c1 => ?_, fun c1 => ?_, trivial⟩ (fun c1 => ?_)
  · have c1 : k = nI 1 := c1
    refine r_iconst K dX2_fading_36 (nI 0) (by decide) ?_
    exact hR () dX2_fading_37 (trivial) (e_ri (by rw [c1]; rfl)) (weq.rf)
  · have c1 : k = nI 2 := c1
    refine r_iconst K dX2_fading_36 (nI 0) (by decide) ?_
    exact hR () dX2_fading_37 (trivial) (e_ri (by rw [c1]; rfl)) (weq.rf)
  · have c1 : k = nI 3 := c1
    refine r_iconst K dX2_fading_40 (nI 2) (by decide) ?_
    exact hR () dX2_fading_41 (trivial) (e_ri (by rw [c1]; rfl)) (weq.rf)
  · have c1 : k = nI 4 := c1
    refine r_iconst K dX2_fading_38 (nI 1) (by decide) ?_
    exact hR () dX2_fading_39 (trivial) (e_ri (by rw [c1]; rfl)) (weq.rf)
  · have c1 : k = nI 5 := c1
    refine r_iconst K dX2_fading_36 (nI 0) (by decide) ?_
    exact hR () dX2_fading_37 (trivial) (e_ri (by rw [c1]; rfl)) (weq.rf)
  · have c1 : ∀ v : Nat, 1 ≤ v → v ≤ 5 → v < 2 ^ 31 → ¬ k = nI v := tsw_out c1
    refine r_iconst K dX2_fading_40 (nI 2) (by decide) ?_
    exact hR () dX2_fading_41 (trivial) (e_ri (fadeK_n c1)) (weq.rf)
set_option maxHeartbeats 1000000 in
set_option maxRecDepth 20000 in
theorem c_X2_shock (l : Launch) (Γ : eG) (k : Int32)  : cD l Γ yX2_shock cX2_shock 1 (some .int) 0 [.int k] [] (some (.int (toldK k))) [] := by
  refine e_int [(0, .int k)] (by decide +kernel) (Nat.le_of_ble_eq_true rfl) rfl (fun V K hR => ?_)
  refine r_iload_n K dX2_shock_0 0 rfl ?_
  refine r_tsw K dX2_shock_1.1 [36, 38, 36, 40, 40] 43 (by decide) (by decide) (by decide) ⟨fun c1 => ?_, fun c1 => ?_, fun c1 => ?_, fun c1 => ?_, fun c1 => ?_, trivial⟩ (fun c1 => ?_)
  · have c1 : k = nI 1 := c1
    refine r_iconst K dX2_shock_36 (nI 0) (by decide) ?_
    exact hR () dX2_shock_37 (trivial) (e_ri (by rw [c1]; rfl)) (weq.rf)
  · have c1 : k = nI 2 := c1
    refine r_iconst K dX2_shock_38 (nI 5) (by decide) ?_
    exact hR () dX2_shock_39 (trivial) (e_ri (by rw [c1]; rfl)) (weq.rf)
  · have c1 : k = nI 3 := c1
    refine r_iconst K dX2_shock_36 (nI 0) (by decide) ?_
    exact hR () dX2_shock_37 (trivial) (e_ri (by rw [c1]; rfl)) (weq.rf)
  · have c1 : k = nI 4 := c1
    refine r_bipush K dX2_shock_40 (nI 30) (by decide) ?_
    exact hR () dX2_shock_42 (trivial) (e_ri (by rw [c1]; rfl)) (weq.rf)
  · have c1 : k = nI 5 := c1
    refine r_bipush K dX2_shock_40 (nI 30) (by decide) ?_
    exact hR () dX2_shock_42 (trivial) (e_ri (by rw [c1]; rfl)) (weq.rf)
  · have c1 : ∀ v : Nat, 1 ≤ v → v ≤ 5 → v < 2 ^ 31 → ¬ k = nI v := tsw_out c1
    refine r_bipush K dX2_shock_43 (nI 20) (by decide) ?_
    exact hR () dX2_shock_45 (trivial) (e_ri (toldK_n c1)) (weq.rf)
set_option maxHeartbeats 1000000 in
set_option maxRecDepth 20000 in
theorem c_X2_ofLetter (l : Launch) (Γ : eG) (c : Int32)  : cD l Γ yX2_ofLetter cX2_ofLetter 1 (some .int) 0 [.int c] [] (some (.int (kindC c))) [] := by
  refine e_int [(0, .int c)] (by decide +kernel) (Nat.le_of_ble_eq_true rfl) rfl (fun V K hR => ?_)
  refine r_iload_n K dX2_ofLetter_0 0 rfl ?_
  refine r_tsw K dX2_ofLetter_1.1 [96, 100, 90, 100, 100, 100, 98, 88, 100, 92, 100, 100, 100, 100, 100, 100, 100, 94] 100 (by decide) (by decide) (by decide) ⟨fun c1 => ?_, fun c1 => ?_, fun c1 => ?_, fun c1 => ?_, fun c1 => ?_, fun c1 => ?_, fun c1 => ?_, fun c1 => ?_, fun c1 => ?_, fun c1 => ?_, fun c1 => ?_, fun c1 => ?_, fun c1 => ?_, fun c1 => ?_, fun c1 => ?_, fun c1 => ?_, fun c1 => ?_, fun c1 => ?_, trivial⟩ (fun c1 => ?_)
  · have c1 : c = nI 102 := c1
    refine r_iconst K dX2_ofLetter_96 (nI 4) (by decide) ?_
    exact hR () dX2_ofLetter_97 (trivial) (e_ri (by rw [c1]; rfl)) (weq.rf)
  · have c1 : c = nI 103 := c1
    refine r_bipush K dX2_ofLetter_100 ((-9)) (by decide) ?_
    exact hR () dX2_ofLetter_102 (trivial) (e_ri (by rw [c1]; rfl)) (weq.rf)
  · have c1 : c = nI 104 := c1
    refine r_iconst K dX2_ofLetter_90 (nI 1) (by decide) ?_
    exact hR () dX2_ofLetter_91 (trivial) (e_ri (by rw [c1]; rfl)) (weq.rf)
  · have c1 : c = nI 105 := c1
    refine r_bipush K dX2_ofLetter_100 ((-9)) (by decide) ?_
    exact hR () dX2_ofLetter_102 (trivial) (e_ri (by rw [c1]; rfl)) (weq.rf)
  · have c1 : c = nI 106 := c1
    refine r_bipush K dX2_ofLetter_100 ((-9)) (by decide) ?_
    exact hR () dX2_ofLetter_102 (trivial) (e_ri (by rw [c1]; rfl)) (weq.rf)
  · have c1 : c = nI 107 := c1
    refine r_bipush K dX2_ofLetter_100 ((-9)) (by decide) ?_
    exact hR () dX2_ofLetter_102 (trivial) (e_ri (by rw [c1]; rfl)) (weq.rf)
  · have c1 : c = nI 108 := c1
    refine r_iconst K dX2_ofLetter_98 (nI 5) (by decide) ?_
    exact hR () dX2_ofLetter_99 (trivial) (e_ri (by rw [c1]; rfl)) (weq.rf)
  · have c1 : c = nI 109 := c1
    refine r_iconst K dX2_ofLetter_88 (nI 0) (by decide) ?_
    exact hR () dX2_ofLetter_89 (trivial) (e_ri (by rw [c1]; rfl)) (weq.rf)
  · have c1 : c = nI 110 := c1
    refine r_bipush K dX2_ofLetter_100 ((-9)) (by decide) ?_
    exact hR () dX2_ofLetter_102 (trivial) (e_ri (by rw [c1]; rfl)) (weq.rf)
  · have c1 : c = nI 111 := c1
    refine r_iconst K dX2_ofLetter_92 (nI 2) (by decide) ?_
    exact hR () dX2_ofLetter_93 (trivial) (e_ri (by rw [c1]; rfl)) (weq.rf)
  · have c1 : c = nI 112 := c1
    refine r_bipush K dX2_ofLetter_100 ((-9)) (by decide) ?_
    exact hR () dX2_ofLetter_102 (trivial) (e_ri (by rw [c1]; rfl)) (weq.rf)
  · have c1 : c = nI 113 := c1
    refine r_bipush K dX2_ofLetter_100 ((-9)) (by decide) ?_
    exact hR () dX2_ofLetter_102 (trivial) (e_ri (by rw [c1]; rfl)) (weq.rf)
  · have c1 : c = nI 114 := c1
    refine r_bipush K dX2_ofLetter_100 ((-9)) (by decide) ?_
    exact hR () dX2_ofLetter_102 (trivial) (e_ri (by rw [c1]; rfl)) (weq.rf)
  · have c1 : c = nI 115 := c1
    refine r_bipush K dX2_ofLetter_100 ((-9)) (by decide) ?_
    exact hR () dX2_ofLetter_102 (trivial) (e_ri (by rw [c1]; rfl)) (weq.rf)
  · have c1 : c = nI 116 := c1
    refine r_bipush K dX2_ofLetter_100 ((-9)) (by decide) ?_
    exact hR () dX2_ofLetter_102 (trivial) (e_ri (by rw [c1]; rfl)) (weq.rf)
  · have c1 : c = nI 117 := c1
    refine r_bipush K dX2_ofLetter_100 ((-9)) (by decide) ?_
    exact hR () dX2_ofLetter_102 (trivial) (e_ri (by rw [c1]; rfl)) (weq.rf)
  · have c1 : c = nI 118 := c1
    refine r_bipush K dX2_ofLetter_100 ((-9)) (by decide) ?_
    exact hR () dX2_ofLetter_102 (trivial) (e_ri (by rw [c1]; rfl)) (weq.rf)
  · have c1 : c = nI 119 := c1
    refine r_iconst K dX2_ofLetter_94 (nI 3) (by decide) ?_
    exact hR () dX2_ofLetter_95 (trivial) (e_ri (by rw [c1]; rfl)) (weq.rf)
  · have c1 : ∀ v : Nat, 102 ≤ v → v ≤ 119 → v < 2 ^ 31 → ¬ c = nI v := tsw_out c1
    refine r_bipush K dX2_ofLetter_100 ((-9)) (by decide) ?_
    exact hR () dX2_ofLetter_102 (trivial) (e_ri (kindC_n c1)) (weq.rf)
/-! CHURCHYARD -/
set_option maxHeartbeats 1000000 in
set_option maxRecDepth 20000 in
theorem c_X0_graveCount (l : Launch) (Γ : eG) (h : Nat) (a : Nat → Nat) (r : Nat → Int32) (hI : Inv r) : cD l Γ yX0_graveCount cX0_graveCount 1 (some .int) 0 [.ref h] [ydW Γ h a r] (some (.int (nI (nG r)))) [ydW Γ h a r] := by
  refine e_int [(0, .ref h)] (by decide +kernel) (Nat.le_of_ble_eq_true rfl) rfl (fun V K hR => ?_)
  have h5 := hI.g
  have h6 := hI.m
  refine r_ws K (ws1 := [eO h 0 [.ref (a 0), .ref (a 1), .ref (a 2), .ref (a 3), .ref (a 4), .ref (a 5), .ref (a 6), .int (nI (nG r)), .int (nI (nM r)), .int (r 2)], eI Γ (a 0) 5 (fun gg => r (iG gg 0)), eI Γ (a 1) 5 (fun gg => r (iG gg 1)), eI Γ (a 2) 5 (fun gg => r (iG gg 2)), eI Γ (a 3) 6 (fun pp => r (iM pp 0)), eI Γ (a 4) 6 (fun pp => r (iM pp 1)), eI Γ (a 5) 6 (fun pp => r (iM pp 2)), eI Γ (a 6) 6 (fun pp => pl r pp)]) (yd_u r) ?_
  refine r_aload_n K dX0_graveCount_0 0 rfl ?_
  refine r_get K dX0_graveCount_1 (kf := 7) 0 rfl rfl hinX0 (by decide) q36 rfl rfl ?_
  exact hR () dX0_graveCount_4 (trivial) (e_ri (rfl)) (yd_f r)
set_option maxHeartbeats 1000000 in
set_option maxRecDepth 20000 in
theorem c_X0_mournerCount (l : Launch) (Γ : eG) (h : Nat) (a : Nat → Nat) (r : Nat → Int32) (hI : Inv r) : cD l Γ yX0_mournerCount cX0_mournerCount 1 (some .int) 0 [.ref h] [ydW Γ h a r] (some (.int (nI (nM r)))) [ydW Γ h a r] := by
  refine e_int [(0, .ref h)] (by decide +kernel) (Nat.le_of_ble_eq_true rfl) rfl (fun V K hR => ?_)
  have h5 := hI.g
  have h6 := hI.m
  refine r_ws K (ws1 := [eO h 0 [.ref (a 0), .ref (a 1), .ref (a 2), .ref (a 3), .ref (a 4), .ref (a 5), .ref (a 6), .int (nI (nG r)), .int (nI (nM r)), .int (r 2)], eI Γ (a 0) 5 (fun gg => r (iG gg 0)), eI Γ (a 1) 5 (fun gg => r (iG gg 1)), eI Γ (a 2) 5 (fun gg => r (iG gg 2)), eI Γ (a 3) 6 (fun pp => r (iM pp 0)), eI Γ (a 4) 6 (fun pp => r (iM pp 1)), eI Γ (a 5) 6 (fun pp => r (iM pp 2)), eI Γ (a 6) 6 (fun pp => pl r pp)]) (yd_u r) ?_
  refine r_aload_n K dX0_mournerCount_0 0 rfl ?_
  refine r_get K dX0_mournerCount_1 (kf := 8) 0 rfl rfl hinX0 (by decide) q37 rfl rfl ?_
  exact hR () dX0_mournerCount_4 (trivial) (e_ri (rfl)) (yd_f r)
set_option maxHeartbeats 1000000 in
set_option maxRecDepth 20000 in
theorem c_X0_today (l : Launch) (Γ : eG) (h : Nat) (a : Nat → Nat) (r : Nat → Int32) (hI : Inv r) : cD l Γ yX0_today cX0_today 1 (some .int) 0 [.ref h] [ydW Γ h a r] (some (.int (r 2))) [ydW Γ h a r] := by
  refine e_int [(0, .ref h)] (by decide +kernel) (Nat.le_of_ble_eq_true rfl) rfl (fun V K hR => ?_)
  have h5 := hI.g
  have h6 := hI.m
  refine r_ws K (ws1 := [eO h 0 [.ref (a 0), .ref (a 1), .ref (a 2), .ref (a 3), .ref (a 4), .ref (a 5), .ref (a 6), .int (nI (nG r)), .int (nI (nM r)), .int (r 2)], eI Γ (a 0) 5 (fun gg => r (iG gg 0)), eI Γ (a 1) 5 (fun gg => r (iG gg 1)), eI Γ (a 2) 5 (fun gg => r (iG gg 2)), eI Γ (a 3) 6 (fun pp => r (iM pp 0)), eI Γ (a 4) 6 (fun pp => r (iM pp 1)), eI Γ (a 5) 6 (fun pp => r (iM pp 2)), eI Γ (a 6) 6 (fun pp => pl r pp)]) (yd_u r) ?_
  refine r_aload_n K dX0_today_0 0 rfl ?_
  refine r_get K dX0_today_1 (kf := 9) 0 rfl rfl hinX0 (by decide) q38 rfl rfl ?_
  exact hR () dX0_today_4 (trivial) (e_ri (rfl)) (yd_f r)
set_option maxHeartbeats 1000000 in
set_option maxRecDepth 20000 in
theorem c_X0_hasGrave (l : Launch) (Γ : eG) (h : Nat) (a : Nat → Nat) (r : Nat → Int32) (x : Int32) (hI : Inv r) : cD l Γ yX0_hasGrave cX0_hasGrave 2 (some .boolean) 0 [.ref h, .int x] [ydW Γ h a r] (some (.int (bz (inN (nG r) x)))) [ydW Γ h a r] := by
  refine e_bool [(0, .ref h), (1, .int x)] (by decide +kernel) (Nat.le_of_ble_eq_true rfl) rfl (fun V K hR => ?_)
  have h5 := hI.g
  have h6 := hI.m
  refine r_ws K (ws1 := [eO h 0 [.ref (a 0), .ref (a 1), .ref (a 2), .ref (a 3), .ref (a 4), .ref (a 5), .ref (a 6), .int (nI (nG r)), .int (nI (nM r)), .int (r 2)], eI Γ (a 0) 5 (fun gg => r (iG gg 0)), eI Γ (a 1) 5 (fun gg => r (iG gg 1)), eI Γ (a 2) 5 (fun gg => r (iG gg 2)), eI Γ (a 3) 6 (fun pp => r (iM pp 0)), eI Γ (a 4) 6 (fun pp => r (iM pp 1)), eI Γ (a 5) 6 (fun pp => r (iM pp 2)), eI Γ (a 6) 6 (fun pp => pl r pp)]) (yd_u r) ?_
  refine r_iload_n K dX0_hasGrave_0 1 rfl ?_
  refine r_if_lt K dX0_hasGrave_1 (fun c1 => ?_) (fun c1 => ?_)
  · refine r_iconst K dX0_hasGrave_21 (nI 0) (by decide) ?_
    exact hR () dX0_hasGrave_22 (rfl) (trivial) (e_ri (by rw [inN_neg c1]; rfl)) (yd_f r)
  · refine r_iload_n K dX0_hasGrave_4 1 rfl ?_
    refine r_aload_n K dX0_hasGrave_5 0 rfl ?_
    refine r_get K dX0_hasGrave_6 (kf := 7) 0 rfl rfl hinX0 (by decide) q36 rfl rfl ?_
    refine r_ic_ge K dX0_hasGrave_9 (fun c9 => ?_) (fun c9 => ?_)
    · refine r_iconst K dX0_hasGrave_21 (nI 0) (by decide) ?_
      exact hR () dX0_hasGrave_22 (rfl) (trivial) (e_ri (by rw [inN_big (by omega) c9]; rfl)) (yd_f r)
    · refine r_iload_n K dX0_hasGrave_12 1 rfl ?_
      refine r_iconst K dX0_hasGrave_13 (nI 5) (by decide) ?_
      refine r_ic_ge K dX0_hasGrave_14 (fun c14 => ?_) (fun c14 => ?_)
      · exact absurd (nI_le_trans (by decide) c14 h5) c9
      · refine r_iconst K dX0_hasGrave_17 (nI 1) (by decide) ?_
        refine r_goto K dX0_hasGrave_18 ?_
        exact hR () dX0_hasGrave_22 (rfl) (trivial) (e_ri (by rw [inN_tt (by omega) c1 c9]; rfl)) (yd_f r)
set_option maxHeartbeats 1000000 in
set_option maxRecDepth 20000 in
theorem c_X0_hasMourner (l : Launch) (Γ : eG) (h : Nat) (a : Nat → Nat) (r : Nat → Int32) (x : Int32) (hI : Inv r) : cD l Γ yX0_hasMourner cX0_hasMourner 2 (some .boolean) 0 [.ref h, .int x] [ydW Γ h a r] (some (.int (bz (inN (nM r) x)))) [ydW Γ h a r] := by
  refine e_bool [(0, .ref h), (1, .int x)] (by decide +kernel) (Nat.le_of_ble_eq_true rfl) rfl (fun V K hR => ?_)
  have h5 := hI.g
  have h6 := hI.m
  refine r_ws K (ws1 := [eO h 0 [.ref (a 0), .ref (a 1), .ref (a 2), .ref (a 3), .ref (a 4), .ref (a 5), .ref (a 6), .int (nI (nG r)), .int (nI (nM r)), .int (r 2)], eI Γ (a 0) 5 (fun gg => r (iG gg 0)), eI Γ (a 1) 5 (fun gg => r (iG gg 1)), eI Γ (a 2) 5 (fun gg => r (iG gg 2)), eI Γ (a 3) 6 (fun pp => r (iM pp 0)), eI Γ (a 4) 6 (fun pp => r (iM pp 1)), eI Γ (a 5) 6 (fun pp => r (iM pp 2)), eI Γ (a 6) 6 (fun pp => pl r pp)]) (yd_u r) ?_
  refine r_iload_n K dX0_hasMourner_0 1 rfl ?_
  refine r_if_lt K dX0_hasMourner_1 (fun c1 => ?_) (fun c1 => ?_)
  · refine r_iconst K dX0_hasMourner_22 (nI 0) (by decide) ?_
    exact hR () dX0_hasMourner_23 (rfl) (trivial) (e_ri (by rw [inN_neg c1]; rfl)) (yd_f r)
  · refine r_iload_n K dX0_hasMourner_4 1 rfl ?_
    refine r_aload_n K dX0_hasMourner_5 0 rfl ?_
    refine r_get K dX0_hasMourner_6 (kf := 8) 0 rfl rfl hinX0 (by decide) q37 rfl rfl ?_
    refine r_ic_ge K dX0_hasMourner_9 (fun c9 => ?_) (fun c9 => ?_)
    · refine r_iconst K dX0_hasMourner_22 (nI 0) (by decide) ?_
      exact hR () dX0_hasMourner_23 (rfl) (trivial) (e_ri (by rw [inN_big (by omega) c9]; rfl)) (yd_f r)
    · refine r_iload_n K dX0_hasMourner_12 1 rfl ?_
      refine r_bipush K dX0_hasMourner_13 (nI 6) (by decide) ?_
      refine r_ic_ge K dX0_hasMourner_15 (fun c15 => ?_) (fun c15 => ?_)
      · exact absurd (nI_le_trans (by decide) c15 h6) c9
      · refine r_iconst K dX0_hasMourner_18 (nI 1) (by decide) ?_
        refine r_goto K dX0_hasMourner_19 ?_
        exact hR () dX0_hasMourner_23 (rfl) (trivial) (e_ri (by rw [inN_tt (by omega) c1 c9]; rfl)) (yd_f r)
set_option maxHeartbeats 1000000 in
set_option maxRecDepth 20000 in
theorem c_X0_hardness (l : Launch) (Γ : eG) (h : Nat) (a : Nat → Nat) (r : Nat → Int32) (x : Int32) (hI : Inv r) : cD l Γ yX0_hardness cX0_hardness 2 (some .int) 1 [.ref h, .int x] [ydW Γ h a r] (some (.int (gv r 0 x))) [ydW Γ h a r] := by
  refine e_int [(0, .ref h), (1, .int x)] (by decide +kernel) (Nat.le_of_ble_eq_true rfl) rfl (fun V K hR => ?_)
  have h5 := hI.g
  have h6 := hI.m
  refine r_aload_n K dX0_hardness_0 0 rfl ?_
  refine r_iload_n K dX0_hardness_1 1 rfl ?_
  refine r_cVd K dX0_hardness_2 (c_X0_hasGrave l Γ h a r x (hI)) mX0_hasGrave q258 rfl (by decide) rfl rfl 1 rfl [0] [] rfl rfl [] rfl [ydW Γ h a r] rfl rfl rfl [] rfl (Nat.le_of_ble_eq_true rfl) ?_
  refine r_ifeqB K dX0_hardness_5 (fun c5 => ?_) (fun c5 => ?_)
  · refine r_iconst K dX0_hardness_17 (nI 0) (by decide) ?_
    exact hR () dX0_hardness_18 (trivial) (e_ri (by unfold gv; rw [c5]; rfl)) (weq.rf)
  · refine r_ws K (ws1 := [eO h 0 [.ref (a 0), .ref (a 1), .ref (a 2), .ref (a 3), .ref (a 4), .ref (a 5), .ref (a 6), .int (nI (nG r)), .int (nI (nM r)), .int (r 2)], eI Γ (a 0) 5 (fun gg => r (iG gg 0)), eI Γ (a 1) 5 (fun gg => r (iG gg 1)), eI Γ (a 2) 5 (fun gg => r (iG gg 2)), eI Γ (a 3) 6 (fun pp => r (iM pp 0)), eI Γ (a 4) 6 (fun pp => r (iM pp 1)), eI Γ (a 5) 6 (fun pp => r (iM pp 2)), eI Γ (a 6) 6 (fun pp => pl r pp)]) (yd_u r) ?_
    refine r_aload_n K dX0_hardness_8 0 rfl ?_
    refine r_get K dX0_hardness_9 (kf := 0) 0 rfl rfl hinX0 (by decide) q29 rfl rfl ?_
    refine r_iload_n K dX0_hardness_12 1 rfl ?_
    refine r_ald K dX0_hardness_13 1 rfl (inN_vp c5 h5) ?_
    refine r_goto K dX0_hardness_14 ?_
    exact hR () dX0_hardness_18 (trivial) (e_ri (by unfold gv; rw [c5]; rfl)) (weq.rf)
set_option maxHeartbeats 1000000 in
set_option maxRecDepth 20000 in
theorem c_X0_depth (l : Launch) (Γ : eG) (h : Nat) (a : Nat → Nat) (r : Nat → Int32) (x : Int32) (hI : Inv r) : cD l Γ yX0_depth cX0_depth 2 (some .int) 1 [.ref h, .int x] [ydW Γ h a r] (some (.int (gv r 1 x))) [ydW Γ h a r] := by
  refine e_int [(0, .ref h), (1, .int x)] (by decide +kernel) (Nat.le_of_ble_eq_true rfl) rfl (fun V K hR => ?_)
  have h5 := hI.g
  have h6 := hI.m
  refine r_aload_n K dX0_depth_0 0 rfl ?_
  refine r_iload_n K dX0_depth_1 1 rfl ?_
  refine r_cVd K dX0_depth_2 (c_X0_hasGrave l Γ h a r x (hI)) mX0_hasGrave q258 rfl (by decide) rfl rfl 1 rfl [0] [] rfl rfl [] rfl [ydW Γ h a r] rfl rfl rfl [] rfl (Nat.le_of_ble_eq_true rfl) ?_
  refine r_ifeqB K dX0_depth_5 (fun c5 => ?_) (fun c5 => ?_)
  · refine r_iconst K dX0_depth_17 (nI 0) (by decide) ?_
    exact hR () dX0_depth_18 (trivial) (e_ri (by unfold gv; rw [c5]; rfl)) (weq.rf)
  · refine r_ws K (ws1 := [eO h 0 [.ref (a 0), .ref (a 1), .ref (a 2), .ref (a 3), .ref (a 4), .ref (a 5), .ref (a 6), .int (nI (nG r)), .int (nI (nM r)), .int (r 2)], eI Γ (a 0) 5 (fun gg => r (iG gg 0)), eI Γ (a 1) 5 (fun gg => r (iG gg 1)), eI Γ (a 2) 5 (fun gg => r (iG gg 2)), eI Γ (a 3) 6 (fun pp => r (iM pp 0)), eI Γ (a 4) 6 (fun pp => r (iM pp 1)), eI Γ (a 5) 6 (fun pp => r (iM pp 2)), eI Γ (a 6) 6 (fun pp => pl r pp)]) (yd_u r) ?_
    refine r_aload_n K dX0_depth_8 0 rfl ?_
    refine r_get K dX0_depth_9 (kf := 1) 0 rfl rfl hinX0 (by decide) q30 rfl rfl ?_
    refine r_iload_n K dX0_depth_12 1 rfl ?_
    refine r_ald K dX0_depth_13 2 rfl (inN_vp c5 h5) ?_
    refine r_goto K dX0_depth_14 ?_
    exact hR () dX0_depth_18 (trivial) (e_ri (by unfold gv; rw [c5]; rfl)) (weq.rf)
set_option maxHeartbeats 1000000 in
set_option maxRecDepth 20000 in
theorem c_X0_wetness (l : Launch) (Γ : eG) (h : Nat) (a : Nat → Nat) (r : Nat → Int32) (x : Int32) (hI : Inv r) : cD l Γ yX0_wetness cX0_wetness 2 (some .int) 1 [.ref h, .int x] [ydW Γ h a r] (some (.int (gv r 2 x))) [ydW Γ h a r] := by
  refine e_int [(0, .ref h), (1, .int x)] (by decide +kernel) (Nat.le_of_ble_eq_true rfl) rfl (fun V K hR => ?_)
  have h5 := hI.g
  have h6 := hI.m
  refine r_aload_n K dX0_wetness_0 0 rfl ?_
  refine r_iload_n K dX0_wetness_1 1 rfl ?_
  refine r_cVd K dX0_wetness_2 (c_X0_hasGrave l Γ h a r x (hI)) mX0_hasGrave q258 rfl (by decide) rfl rfl 1 rfl [0] [] rfl rfl [] rfl [ydW Γ h a r] rfl rfl rfl [] rfl (Nat.le_of_ble_eq_true rfl) ?_
  refine r_ifeqB K dX0_wetness_5 (fun c5 => ?_) (fun c5 => ?_)
  · refine r_iconst K dX0_wetness_17 (nI 0) (by decide) ?_
    exact hR () dX0_wetness_18 (trivial) (e_ri (by unfold gv; rw [c5]; rfl)) (weq.rf)
  · refine r_ws K (ws1 := [eO h 0 [.ref (a 0), .ref (a 1), .ref (a 2), .ref (a 3), .ref (a 4), .ref (a 5), .ref (a 6), .int (nI (nG r)), .int (nI (nM r)), .int (r 2)], eI Γ (a 0) 5 (fun gg => r (iG gg 0)), eI Γ (a 1) 5 (fun gg => r (iG gg 1)), eI Γ (a 2) 5 (fun gg => r (iG gg 2)), eI Γ (a 3) 6 (fun pp => r (iM pp 0)), eI Γ (a 4) 6 (fun pp => r (iM pp 1)), eI Γ (a 5) 6 (fun pp => r (iM pp 2)), eI Γ (a 6) 6 (fun pp => pl r pp)]) (yd_u r) ?_
    refine r_aload_n K dX0_wetness_8 0 rfl ?_
    refine r_get K dX0_wetness_9 (kf := 2) 0 rfl rfl hinX0 (by decide) q31 rfl rfl ?_
    refine r_iload_n K dX0_wetness_12 1 rfl ?_
    refine r_ald K dX0_wetness_13 3 rfl (inN_vp c5 h5) ?_
    refine r_goto K dX0_wetness_14 ?_
    exact hR () dX0_wetness_18 (trivial) (e_ri (by unfold gv; rw [c5]; rfl)) (weq.rf)
set_option maxHeartbeats 1000000 in
set_option maxRecDepth 20000 in
theorem c_X0_kindOf (l : Launch) (Γ : eG) (h : Nat) (a : Nat → Nat) (r : Nat → Int32) (x : Int32) (hI : Inv r) : cD l Γ yX0_kindOf cX0_kindOf 2 (some .int) 1 [.ref h, .int x] [ydW Γ h a r] (some (.int (mv r 0 (-9) x))) [ydW Γ h a r] := by
  refine e_int [(0, .ref h), (1, .int x)] (by decide +kernel) (Nat.le_of_ble_eq_true rfl) rfl (fun V K hR => ?_)
  have h5 := hI.g
  have h6 := hI.m
  refine r_aload_n K dX0_kindOf_0 0 rfl ?_
  refine r_iload_n K dX0_kindOf_1 1 rfl ?_
  refine r_cVd K dX0_kindOf_2 (c_X0_hasMourner l Γ h a r x (hI)) mX0_hasMourner q233 rfl (by decide) rfl rfl 1 rfl [0] [] rfl rfl [] rfl [ydW Γ h a r] rfl rfl rfl [] rfl (Nat.le_of_ble_eq_true rfl) ?_
  refine r_ifeqB K dX0_kindOf_5 (fun c5 => ?_) (fun c5 => ?_)
  · refine r_bipush K dX0_kindOf_17 ((-9)) (by decide) ?_
    exact hR () dX0_kindOf_19 (trivial) (e_ri (by unfold mv; rw [c5]; rfl)) (weq.rf)
  · refine r_ws K (ws1 := [eO h 0 [.ref (a 0), .ref (a 1), .ref (a 2), .ref (a 3), .ref (a 4), .ref (a 5), .ref (a 6), .int (nI (nG r)), .int (nI (nM r)), .int (r 2)], eI Γ (a 0) 5 (fun gg => r (iG gg 0)), eI Γ (a 1) 5 (fun gg => r (iG gg 1)), eI Γ (a 2) 5 (fun gg => r (iG gg 2)), eI Γ (a 3) 6 (fun pp => r (iM pp 0)), eI Γ (a 4) 6 (fun pp => r (iM pp 1)), eI Γ (a 5) 6 (fun pp => r (iM pp 2)), eI Γ (a 6) 6 (fun pp => pl r pp)]) (yd_u r) ?_
    refine r_aload_n K dX0_kindOf_8 0 rfl ?_
    refine r_get K dX0_kindOf_9 (kf := 3) 0 rfl rfl hinX0 (by decide) q32 rfl rfl ?_
    refine r_iload_n K dX0_kindOf_12 1 rfl ?_
    refine r_ald K dX0_kindOf_13 4 rfl (inN_vp c5 h6) ?_
    refine r_goto K dX0_kindOf_14 ?_
    exact hR () dX0_kindOf_19 (trivial) (e_ri (by unfold mv; rw [c5]; rfl)) (weq.rf)
set_option maxHeartbeats 1000000 in
set_option maxRecDepth 20000 in
theorem c_X0_figureOf (l : Launch) (Γ : eG) (h : Nat) (a : Nat → Nat) (r : Nat → Int32) (x : Int32) (hI : Inv r) : cD l Γ yX0_figureOf cX0_figureOf 2 (some .int) 1 [.ref h, .int x] [ydW Γ h a r] (some (.int (mv r 1 (nI 0) x))) [ydW Γ h a r] := by
  refine e_int [(0, .ref h), (1, .int x)] (by decide +kernel) (Nat.le_of_ble_eq_true rfl) rfl (fun V K hR => ?_)
  have h5 := hI.g
  have h6 := hI.m
  refine r_aload_n K dX0_figureOf_0 0 rfl ?_
  refine r_iload_n K dX0_figureOf_1 1 rfl ?_
  refine r_cVd K dX0_figureOf_2 (c_X0_hasMourner l Γ h a r x (hI)) mX0_hasMourner q233 rfl (by decide) rfl rfl 1 rfl [0] [] rfl rfl [] rfl [ydW Γ h a r] rfl rfl rfl [] rfl (Nat.le_of_ble_eq_true rfl) ?_
  refine r_ifeqB K dX0_figureOf_5 (fun c5 => ?_) (fun c5 => ?_)
  · refine r_iconst K dX0_figureOf_17 (nI 0) (by decide) ?_
    exact hR () dX0_figureOf_18 (trivial) (e_ri (by unfold mv; rw [c5]; rfl)) (weq.rf)
  · refine r_ws K (ws1 := [eO h 0 [.ref (a 0), .ref (a 1), .ref (a 2), .ref (a 3), .ref (a 4), .ref (a 5), .ref (a 6), .int (nI (nG r)), .int (nI (nM r)), .int (r 2)], eI Γ (a 0) 5 (fun gg => r (iG gg 0)), eI Γ (a 1) 5 (fun gg => r (iG gg 1)), eI Γ (a 2) 5 (fun gg => r (iG gg 2)), eI Γ (a 3) 6 (fun pp => r (iM pp 0)), eI Γ (a 4) 6 (fun pp => r (iM pp 1)), eI Γ (a 5) 6 (fun pp => r (iM pp 2)), eI Γ (a 6) 6 (fun pp => pl r pp)]) (yd_u r) ?_
    refine r_aload_n K dX0_figureOf_8 0 rfl ?_
    refine r_get K dX0_figureOf_9 (kf := 4) 0 rfl rfl hinX0 (by decide) q33 rfl rfl ?_
    refine r_iload_n K dX0_figureOf_12 1 rfl ?_
    refine r_ald K dX0_figureOf_13 5 rfl (inN_vp c5 h6) ?_
    refine r_goto K dX0_figureOf_14 ?_
    exact hR () dX0_figureOf_18 (trivial) (e_ri (by unfold mv; rw [c5]; rfl)) (weq.rf)
set_option maxHeartbeats 1000000 in
set_option maxRecDepth 20000 in
theorem c_X0_griefOf (l : Launch) (Γ : eG) (h : Nat) (a : Nat → Nat) (r : Nat → Int32) (x : Int32) (hI : Inv r) : cD l Γ yX0_griefOf cX0_griefOf 2 (some .int) 1 [.ref h, .int x] [ydW Γ h a r] (some (.int (mv r 2 (nI 0) x))) [ydW Γ h a r] := by
  refine e_int [(0, .ref h), (1, .int x)] (by decide +kernel) (Nat.le_of_ble_eq_true rfl) rfl (fun V K hR => ?_)
  have h5 := hI.g
  have h6 := hI.m
  refine r_aload_n K dX0_griefOf_0 0 rfl ?_
  refine r_iload_n K dX0_griefOf_1 1 rfl ?_
  refine r_cVd K dX0_griefOf_2 (c_X0_hasMourner l Γ h a r x (hI)) mX0_hasMourner q233 rfl (by decide) rfl rfl 1 rfl [0] [] rfl rfl [] rfl [ydW Γ h a r] rfl rfl rfl [] rfl (Nat.le_of_ble_eq_true rfl) ?_
  refine r_ifeqB K dX0_griefOf_5 (fun c5 => ?_) (fun c5 => ?_)
  · refine r_iconst K dX0_griefOf_17 (nI 0) (by decide) ?_
    exact hR () dX0_griefOf_18 (trivial) (e_ri (by unfold mv; rw [c5]; rfl)) (weq.rf)
  · refine r_ws K (ws1 := [eO h 0 [.ref (a 0), .ref (a 1), .ref (a 2), .ref (a 3), .ref (a 4), .ref (a 5), .ref (a 6), .int (nI (nG r)), .int (nI (nM r)), .int (r 2)], eI Γ (a 0) 5 (fun gg => r (iG gg 0)), eI Γ (a 1) 5 (fun gg => r (iG gg 1)), eI Γ (a 2) 5 (fun gg => r (iG gg 2)), eI Γ (a 3) 6 (fun pp => r (iM pp 0)), eI Γ (a 4) 6 (fun pp => r (iM pp 1)), eI Γ (a 5) 6 (fun pp => r (iM pp 2)), eI Γ (a 6) 6 (fun pp => pl r pp)]) (yd_u r) ?_
    refine r_aload_n K dX0_griefOf_8 0 rfl ?_
    refine r_get K dX0_griefOf_9 (kf := 5) 0 rfl rfl hinX0 (by decide) q34 rfl rfl ?_
    refine r_iload_n K dX0_griefOf_12 1 rfl ?_
    refine r_ald K dX0_griefOf_13 6 rfl (inN_vp c5 h6) ?_
    refine r_goto K dX0_griefOf_14 ?_
    exact hR () dX0_griefOf_18 (trivial) (e_ri (by unfold mv; rw [c5]; rfl)) (weq.rf)
set_option maxHeartbeats 1000000 in
set_option maxRecDepth 20000 in
theorem c_X0_placeOf (l : Launch) (Γ : eG) (h : Nat) (a : Nat → Nat) (r : Nat → Int32) (x : Int32) (hI : Inv r) : cD l Γ yX0_placeOf cX0_placeOf 2 (some .int) 1 [.ref h, .int x] [ydW Γ h a r] (some (.int (mv r 3 (-9) x))) [ydW Γ h a r] := by
  refine e_int [(0, .ref h), (1, .int x)] (by decide +kernel) (Nat.le_of_ble_eq_true rfl) rfl (fun V K hR => ?_)
  have h5 := hI.g
  have h6 := hI.m
  refine r_aload_n K dX0_placeOf_0 0 rfl ?_
  refine r_iload_n K dX0_placeOf_1 1 rfl ?_
  refine r_cVd K dX0_placeOf_2 (c_X0_hasMourner l Γ h a r x (hI)) mX0_hasMourner q233 rfl (by decide) rfl rfl 1 rfl [0] [] rfl rfl [] rfl [ydW Γ h a r] rfl rfl rfl [] rfl (Nat.le_of_ble_eq_true rfl) ?_
  refine r_ifeqB K dX0_placeOf_5 (fun c5 => ?_) (fun c5 => ?_)
  · refine r_bipush K dX0_placeOf_17 ((-9)) (by decide) ?_
    exact hR () dX0_placeOf_19 (trivial) (e_ri (by unfold mv; rw [c5]; rfl)) (weq.rf)
  · refine r_ws K (ws1 := [eO h 0 [.ref (a 0), .ref (a 1), .ref (a 2), .ref (a 3), .ref (a 4), .ref (a 5), .ref (a 6), .int (nI (nG r)), .int (nI (nM r)), .int (r 2)], eI Γ (a 0) 5 (fun gg => r (iG gg 0)), eI Γ (a 1) 5 (fun gg => r (iG gg 1)), eI Γ (a 2) 5 (fun gg => r (iG gg 2)), eI Γ (a 3) 6 (fun pp => r (iM pp 0)), eI Γ (a 4) 6 (fun pp => r (iM pp 1)), eI Γ (a 5) 6 (fun pp => r (iM pp 2)), eI Γ (a 6) 6 (fun pp => pl r pp)]) (yd_u r) ?_
    refine r_aload_n K dX0_placeOf_8 0 rfl ?_
    refine r_get K dX0_placeOf_9 (kf := 6) 0 rfl rfl hinX0 (by decide) q35 rfl rfl ?_
    refine r_iload_n K dX0_placeOf_12 1 rfl ?_
    refine r_ald K dX0_placeOf_13 7 rfl (inN_vp c5 h6) ?_
    refine r_goto K dX0_placeOf_14 ?_
    exact hR () dX0_placeOf_19 (trivial) (e_ri (by obtain ⟨j, hj, ej, ei⟩ := inN_of c5 (by omega); unfold mv pl; rw [c5, show x.toNatClampNeg = j from ei, ei, if_pos hj]; rfl)) (weq.rf)
set_option maxHeartbeats 1000000 in
set_option maxRecDepth 20000 in
theorem c_X0_hardnessN (l : Launch) (Γ : eG) (h : Nat) (a : Nat → Nat) (r : Nat → Int32) (g : Nat) (hI : Inv r) (hg : g < nG r) : cD l Γ yX0_hardness cX0_hardness 2 (some .int) 1 [.ref h, .int (nI g)] [ydW Γ h a r] (some (.int (r (iG g 0)))) [ydW Γ h a r] := by
  have q := c_X0_hardness l Γ h a r (nI g) hI
  rw [gv_N hg hI.g] at q
  exact q
set_option maxHeartbeats 1000000 in
set_option maxRecDepth 20000 in
theorem c_X0_depthN (l : Launch) (Γ : eG) (h : Nat) (a : Nat → Nat) (r : Nat → Int32) (g : Nat) (hI : Inv r) (hg : g < nG r) : cD l Γ yX0_depth cX0_depth 2 (some .int) 1 [.ref h, .int (nI g)] [ydW Γ h a r] (some (.int (r (iG g 1)))) [ydW Γ h a r] := by
  have q := c_X0_depth l Γ h a r (nI g) hI
  rw [gv_N hg hI.g] at q
  exact q
set_option maxHeartbeats 1000000 in
set_option maxRecDepth 20000 in
theorem c_X0_wetnessN (l : Launch) (Γ : eG) (h : Nat) (a : Nat → Nat) (r : Nat → Int32) (g : Nat) (hI : Inv r) (hg : g < nG r) : cD l Γ yX0_wetness cX0_wetness 2 (some .int) 1 [.ref h, .int (nI g)] [ydW Γ h a r] (some (.int (r (iG g 2)))) [ydW Γ h a r] := by
  have q := c_X0_wetness l Γ h a r (nI g) hI
  rw [gv_N hg hI.g] at q
  exact q
set_option maxHeartbeats 1000000 in
set_option maxRecDepth 20000 in
theorem c_X0_kindOfN (l : Launch) (Γ : eG) (h : Nat) (a : Nat → Nat) (r : Nat → Int32) (p : Nat) (hI : Inv r) (hp : p < nM r) : cD l Γ yX0_kindOf cX0_kindOf 2 (some .int) 1 [.ref h, .int (nI p)] [ydW Γ h a r] (some (.int (r (iM p 0)))) [ydW Γ h a r] := by
  have q := c_X0_kindOf l Γ h a r (nI p) hI
  rw [mv_N hp hI.m] at q
  exact q
set_option maxHeartbeats 1000000 in
set_option maxRecDepth 20000 in
theorem c_X0_figureOfN (l : Launch) (Γ : eG) (h : Nat) (a : Nat → Nat) (r : Nat → Int32) (p : Nat) (hI : Inv r) (hp : p < nM r) : cD l Γ yX0_figureOf cX0_figureOf 2 (some .int) 1 [.ref h, .int (nI p)] [ydW Γ h a r] (some (.int (r (iM p 1)))) [ydW Γ h a r] := by
  have q := c_X0_figureOf l Γ h a r (nI p) hI
  rw [mv_N hp hI.m] at q
  exact q
set_option maxHeartbeats 1000000 in
set_option maxRecDepth 20000 in
theorem c_X0_griefOfN (l : Launch) (Γ : eG) (h : Nat) (a : Nat → Nat) (r : Nat → Int32) (p : Nat) (hI : Inv r) (hp : p < nM r) : cD l Γ yX0_griefOf cX0_griefOf 2 (some .int) 1 [.ref h, .int (nI p)] [ydW Γ h a r] (some (.int (r (iM p 2)))) [ydW Γ h a r] := by
  have q := c_X0_griefOf l Γ h a r (nI p) hI
  rw [mv_N hp hI.m] at q
  exact q
set_option maxHeartbeats 1000000 in
set_option maxRecDepth 20000 in
theorem c_X0_placeOfN (l : Launch) (Γ : eG) (h : Nat) (a : Nat → Nat) (r : Nat → Int32) (p : Nat) (hI : Inv r) (hp : p < nM r) : cD l Γ yX0_placeOf cX0_placeOf 2 (some .int) 1 [.ref h, .int (nI p)] [ydW Γ h a r] (some (.int (r (iM p 3)))) [ydW Γ h a r] := by
  have q := c_X0_placeOf l Γ h a r (nI p) hI
  rw [mv_N hp hI.m] at q
  exact q
theorem c_X0_hasGraveN (l : Launch) (Γ : eG) (h : Nat) (a : Nat → Nat) (r : Nat → Int32) (g : Nat) (hI : Inv r) (hg : g < nG r) : cD l Γ yX0_hasGrave cX0_hasGrave 2 (some .boolean) 0 [.ref h, .int (nI g)] [ydW Γ h a r] (some (.int (bz true))) [ydW Γ h a r] := by
  have q := c_X0_hasGrave l Γ h a r (nI g) hI
  have h5 := hI.g
  rw [inN_nI (by omega), show decide (g < nG r) = true from decide_eq_true hg] at q
  exact q
