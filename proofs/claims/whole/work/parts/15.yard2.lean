set_option maxHeartbeats 1000000 in
set_option maxRecDepth 20000 in
theorem c_X0_setHardness (l : Launch) (Γ : eG) (h : Nat) (a : Nat → Nat) (r : Nat → Int32) (x : Int32) (v : Int32) (hI : Inv r) : cD l Γ yX0_setHardness cX0_setHardness 3 (none) 1 [.ref h, .int x, .int v] [ydW Γ h a r] none [ydW Γ h a (setG r 0 x v)] := by
  refine e_void [(0, .ref h), (1, .int x), (2, .int v)] (by decide +kernel) (Nat.le_of_ble_eq_true rfl) rfl (fun V K hR => ?_)
  have h5 := hI.g
  have h6 := hI.m
  refine r_aload_n K dX0_setHardness_0 0 rfl ?_
  refine r_iload_n K dX0_setHardness_1 1 rfl ?_
  refine r_cVd K dX0_setHardness_2 (c_X0_hasGrave l Γ h a r x (hI)) mX0_hasGrave q258 rfl (by decide) rfl rfl 1 rfl [0] [] rfl rfl [] rfl [ydW Γ h a r] rfl rfl rfl [] rfl (Nat.le_of_ble_eq_true rfl) ?_
  refine r_ifeqB K dX0_setHardness_5 (fun c5 => ?_) (fun c5 => ?_)
  · exact hR () dX0_setHardness_15 (trivial) rfl (by rw [setG_f c5]; exact weq.rf)
  · refine r_ws K (ws1 := [eO h 0 [.ref (a 0), .ref (a 1), .ref (a 2), .ref (a 3), .ref (a 4), .ref (a 5), .ref (a 6), .int (nI (nG r)), .int (nI (nM r)), .int (r 2)], eI Γ (a 0) 5 (fun gg => r (iG gg 0)), eI Γ (a 1) 5 (fun gg => r (iG gg 1)), eI Γ (a 2) 5 (fun gg => r (iG gg 2)), eI Γ (a 3) 6 (fun pp => r (iM pp 0)), eI Γ (a 4) 6 (fun pp => r (iM pp 1)), eI Γ (a 5) 6 (fun pp => r (iM pp 2)), eI Γ (a 6) 6 (fun pp => pl r pp)]) (yd_u r) ?_
    refine r_aload_n K dX0_setHardness_8 0 rfl ?_
    refine r_get K dX0_setHardness_9 (kf := 0) 0 rfl rfl hinX0 (by decide) q29 rfl rfl ?_
    refine r_iload_n K dX0_setHardness_12 1 rfl ?_
    refine r_iload_n K dX0_setHardness_13 2 rfl ?_
    refine r_ast K dX0_setHardness_14 (ws1 := [eO h 0 [.ref (a 0), .ref (a 1), .ref (a 2), .ref (a 3), .ref (a 4), .ref (a 5), .ref (a 6), .int (nI (nG r)), .int (nI (nM r)), .int (r 2)], eI Γ (a 0) 5 (upd (fun gg => r (iG gg 0)) x.toNatClampNeg v), eI Γ (a 1) 5 (fun gg => r (iG gg 1)), eI Γ (a 2) 5 (fun gg => r (iG gg 2)), eI Γ (a 3) 6 (fun pp => r (iM pp 0)), eI Γ (a 4) 6 (fun pp => r (iM pp 1)), eI Γ (a 5) 6 (fun pp => r (iM pp 2)), eI Γ (a 6) 6 (fun pp => pl r pp)]) 1 rfl (inN_vp c5 h5) rfl ?_
    exact hR () dX0_setHardness_15 (trivial) rfl (by rw [setG_t c5]; exact yd_G0c (Nat.lt_of_lt_of_le (ix_lt c5 (by omega)) h5))
set_option maxHeartbeats 1000000 in
set_option maxRecDepth 20000 in
theorem c_X0_setKind (l : Launch) (Γ : eG) (h : Nat) (a : Nat → Nat) (r : Nat → Int32) (x : Int32) (v : Int32) (hI : Inv r) : cD l Γ yX0_setKind cX0_setKind 3 (none) 1 [.ref h, .int x, .int v] [ydW Γ h a r] none [ydW Γ h a (setM r 0 x v)] := by
  refine e_void [(0, .ref h), (1, .int x), (2, .int v)] (by decide +kernel) (Nat.le_of_ble_eq_true rfl) rfl (fun V K hR => ?_)
  have h5 := hI.g
  have h6 := hI.m
  refine r_aload_n K dX0_setKind_0 0 rfl ?_
  refine r_iload_n K dX0_setKind_1 1 rfl ?_
  refine r_cVd K dX0_setKind_2 (c_X0_hasMourner l Γ h a r x (hI)) mX0_hasMourner q233 rfl (by decide) rfl rfl 1 rfl [0] [] rfl rfl [] rfl [ydW Γ h a r] rfl rfl rfl [] rfl (Nat.le_of_ble_eq_true rfl) ?_
  refine r_ifeqB K dX0_setKind_5 (fun c5 => ?_) (fun c5 => ?_)
  · exact hR () dX0_setKind_15 (trivial) rfl (by rw [setM_f c5]; exact weq.rf)
  · refine r_ws K (ws1 := [eO h 0 [.ref (a 0), .ref (a 1), .ref (a 2), .ref (a 3), .ref (a 4), .ref (a 5), .ref (a 6), .int (nI (nG r)), .int (nI (nM r)), .int (r 2)], eI Γ (a 0) 5 (fun gg => r (iG gg 0)), eI Γ (a 1) 5 (fun gg => r (iG gg 1)), eI Γ (a 2) 5 (fun gg => r (iG gg 2)), eI Γ (a 3) 6 (fun pp => r (iM pp 0)), eI Γ (a 4) 6 (fun pp => r (iM pp 1)), eI Γ (a 5) 6 (fun pp => r (iM pp 2)), eI Γ (a 6) 6 (fun pp => pl r pp)]) (yd_u r) ?_
    refine r_aload_n K dX0_setKind_8 0 rfl ?_
    refine r_get K dX0_setKind_9 (kf := 3) 0 rfl rfl hinX0 (by decide) q32 rfl rfl ?_
    refine r_iload_n K dX0_setKind_12 1 rfl ?_
    refine r_iload_n K dX0_setKind_13 2 rfl ?_
    refine r_ast K dX0_setKind_14 (ws1 := [eO h 0 [.ref (a 0), .ref (a 1), .ref (a 2), .ref (a 3), .ref (a 4), .ref (a 5), .ref (a 6), .int (nI (nG r)), .int (nI (nM r)), .int (r 2)], eI Γ (a 0) 5 (fun gg => r (iG gg 0)), eI Γ (a 1) 5 (fun gg => r (iG gg 1)), eI Γ (a 2) 5 (fun gg => r (iG gg 2)), eI Γ (a 3) 6 (upd (fun pp => r (iM pp 0)) x.toNatClampNeg v), eI Γ (a 4) 6 (fun pp => r (iM pp 1)), eI Γ (a 5) 6 (fun pp => r (iM pp 2)), eI Γ (a 6) 6 (fun pp => pl r pp)]) 4 rfl (inN_vp c5 h6) rfl ?_
    exact hR () dX0_setKind_15 (trivial) rfl (by rw [setM_t c5]; exact yd_M0c)
set_option maxHeartbeats 1000000 in
set_option maxRecDepth 20000 in
theorem c_X0_setFigure (l : Launch) (Γ : eG) (h : Nat) (a : Nat → Nat) (r : Nat → Int32) (x : Int32) (v : Int32) (hI : Inv r) : cD l Γ yX0_setFigure cX0_setFigure 3 (none) 1 [.ref h, .int x, .int v] [ydW Γ h a r] none [ydW Γ h a (setM r 1 x v)] := by
  refine e_void [(0, .ref h), (1, .int x), (2, .int v)] (by decide +kernel) (Nat.le_of_ble_eq_true rfl) rfl (fun V K hR => ?_)
  have h5 := hI.g
  have h6 := hI.m
  refine r_aload_n K dX0_setFigure_0 0 rfl ?_
  refine r_iload_n K dX0_setFigure_1 1 rfl ?_
  refine r_cVd K dX0_setFigure_2 (c_X0_hasMourner l Γ h a r x (hI)) mX0_hasMourner q233 rfl (by decide) rfl rfl 1 rfl [0] [] rfl rfl [] rfl [ydW Γ h a r] rfl rfl rfl [] rfl (Nat.le_of_ble_eq_true rfl) ?_
  refine r_ifeqB K dX0_setFigure_5 (fun c5 => ?_) (fun c5 => ?_)
  · exact hR () dX0_setFigure_15 (trivial) rfl (by rw [setM_f c5]; exact weq.rf)
  · refine r_ws K (ws1 := [eO h 0 [.ref (a 0), .ref (a 1), .ref (a 2), .ref (a 3), .ref (a 4), .ref (a 5), .ref (a 6), .int (nI (nG r)), .int (nI (nM r)), .int (r 2)], eI Γ (a 0) 5 (fun gg => r (iG gg 0)), eI Γ (a 1) 5 (fun gg => r (iG gg 1)), eI Γ (a 2) 5 (fun gg => r (iG gg 2)), eI Γ (a 3) 6 (fun pp => r (iM pp 0)), eI Γ (a 4) 6 (fun pp => r (iM pp 1)), eI Γ (a 5) 6 (fun pp => r (iM pp 2)), eI Γ (a 6) 6 (fun pp => pl r pp)]) (yd_u r) ?_
    refine r_aload_n K dX0_setFigure_8 0 rfl ?_
    refine r_get K dX0_setFigure_9 (kf := 4) 0 rfl rfl hinX0 (by decide) q33 rfl rfl ?_
    refine r_iload_n K dX0_setFigure_12 1 rfl ?_
    refine r_iload_n K dX0_setFigure_13 2 rfl ?_
    refine r_ast K dX0_setFigure_14 (ws1 := [eO h 0 [.ref (a 0), .ref (a 1), .ref (a 2), .ref (a 3), .ref (a 4), .ref (a 5), .ref (a 6), .int (nI (nG r)), .int (nI (nM r)), .int (r 2)], eI Γ (a 0) 5 (fun gg => r (iG gg 0)), eI Γ (a 1) 5 (fun gg => r (iG gg 1)), eI Γ (a 2) 5 (fun gg => r (iG gg 2)), eI Γ (a 3) 6 (fun pp => r (iM pp 0)), eI Γ (a 4) 6 (upd (fun pp => r (iM pp 1)) x.toNatClampNeg v), eI Γ (a 5) 6 (fun pp => r (iM pp 2)), eI Γ (a 6) 6 (fun pp => pl r pp)]) 5 rfl (inN_vp c5 h6) rfl ?_
    exact hR () dX0_setFigure_15 (trivial) rfl (by rw [setM_t c5]; exact yd_M1c)
set_option maxHeartbeats 1000000 in
set_option maxRecDepth 20000 in
theorem c_X0_setGrief (l : Launch) (Γ : eG) (h : Nat) (a : Nat → Nat) (r : Nat → Int32) (x : Int32) (v : Int32) (hI : Inv r) : cD l Γ yX0_setGrief cX0_setGrief 3 (none) 1 [.ref h, .int x, .int v] [ydW Γ h a r] none [ydW Γ h a (setM r 2 x v)] := by
  refine e_void [(0, .ref h), (1, .int x), (2, .int v)] (by decide +kernel) (Nat.le_of_ble_eq_true rfl) rfl (fun V K hR => ?_)
  have h5 := hI.g
  have h6 := hI.m
  refine r_aload_n K dX0_setGrief_0 0 rfl ?_
  refine r_iload_n K dX0_setGrief_1 1 rfl ?_
  refine r_cVd K dX0_setGrief_2 (c_X0_hasMourner l Γ h a r x (hI)) mX0_hasMourner q233 rfl (by decide) rfl rfl 1 rfl [0] [] rfl rfl [] rfl [ydW Γ h a r] rfl rfl rfl [] rfl (Nat.le_of_ble_eq_true rfl) ?_
  refine r_ifeqB K dX0_setGrief_5 (fun c5 => ?_) (fun c5 => ?_)
  · exact hR () dX0_setGrief_15 (trivial) rfl (by rw [setM_f c5]; exact weq.rf)
  · refine r_ws K (ws1 := [eO h 0 [.ref (a 0), .ref (a 1), .ref (a 2), .ref (a 3), .ref (a 4), .ref (a 5), .ref (a 6), .int (nI (nG r)), .int (nI (nM r)), .int (r 2)], eI Γ (a 0) 5 (fun gg => r (iG gg 0)), eI Γ (a 1) 5 (fun gg => r (iG gg 1)), eI Γ (a 2) 5 (fun gg => r (iG gg 2)), eI Γ (a 3) 6 (fun pp => r (iM pp 0)), eI Γ (a 4) 6 (fun pp => r (iM pp 1)), eI Γ (a 5) 6 (fun pp => r (iM pp 2)), eI Γ (a 6) 6 (fun pp => pl r pp)]) (yd_u r) ?_
    refine r_aload_n K dX0_setGrief_8 0 rfl ?_
    refine r_get K dX0_setGrief_9 (kf := 5) 0 rfl rfl hinX0 (by decide) q34 rfl rfl ?_
    refine r_iload_n K dX0_setGrief_12 1 rfl ?_
    refine r_iload_n K dX0_setGrief_13 2 rfl ?_
    refine r_ast K dX0_setGrief_14 (ws1 := [eO h 0 [.ref (a 0), .ref (a 1), .ref (a 2), .ref (a 3), .ref (a 4), .ref (a 5), .ref (a 6), .int (nI (nG r)), .int (nI (nM r)), .int (r 2)], eI Γ (a 0) 5 (fun gg => r (iG gg 0)), eI Γ (a 1) 5 (fun gg => r (iG gg 1)), eI Γ (a 2) 5 (fun gg => r (iG gg 2)), eI Γ (a 3) 6 (fun pp => r (iM pp 0)), eI Γ (a 4) 6 (fun pp => r (iM pp 1)), eI Γ (a 5) 6 (upd (fun pp => r (iM pp 2)) x.toNatClampNeg v), eI Γ (a 6) 6 (fun pp => pl r pp)]) 6 rfl (inN_vp c5 h6) rfl ?_
    exact hR () dX0_setGrief_15 (trivial) rfl (by rw [setM_t c5]; exact yd_M2c)
set_option maxHeartbeats 1000000 in
set_option maxRecDepth 20000 in
theorem c_X0_place (l : Launch) (Γ : eG) (h : Nat) (a : Nat → Nat) (r : Nat → Int32) (x : Int32) (v : Int32) (hI : Inv r) : cD l Γ yX0_place cX0_place 3 (none) 1 [.ref h, .int x, .int v] [ydW Γ h a r] none [ydW Γ h a (setM r 3 x v)] := by
  refine e_void [(0, .ref h), (1, .int x), (2, .int v)] (by decide +kernel) (Nat.le_of_ble_eq_true rfl) rfl (fun V K hR => ?_)
  have h5 := hI.g
  have h6 := hI.m
  refine r_aload_n K dX0_place_0 0 rfl ?_
  refine r_iload_n K dX0_place_1 1 rfl ?_
  refine r_cVd K dX0_place_2 (c_X0_hasMourner l Γ h a r x (hI)) mX0_hasMourner q233 rfl (by decide) rfl rfl 1 rfl [0] [] rfl rfl [] rfl [ydW Γ h a r] rfl rfl rfl [] rfl (Nat.le_of_ble_eq_true rfl) ?_
  refine r_ifeqB K dX0_place_5 (fun c5 => ?_) (fun c5 => ?_)
  · exact hR () dX0_place_15 (trivial) rfl (by rw [setM_f c5]; exact weq.rf)
  · refine r_ws K (ws1 := [eO h 0 [.ref (a 0), .ref (a 1), .ref (a 2), .ref (a 3), .ref (a 4), .ref (a 5), .ref (a 6), .int (nI (nG r)), .int (nI (nM r)), .int (r 2)], eI Γ (a 0) 5 (fun gg => r (iG gg 0)), eI Γ (a 1) 5 (fun gg => r (iG gg 1)), eI Γ (a 2) 5 (fun gg => r (iG gg 2)), eI Γ (a 3) 6 (fun pp => r (iM pp 0)), eI Γ (a 4) 6 (fun pp => r (iM pp 1)), eI Γ (a 5) 6 (fun pp => r (iM pp 2)), eI Γ (a 6) 6 (fun pp => pl r pp)]) (yd_u r) ?_
    refine r_aload_n K dX0_place_8 0 rfl ?_
    refine r_get K dX0_place_9 (kf := 6) 0 rfl rfl hinX0 (by decide) q35 rfl rfl ?_
    refine r_iload_n K dX0_place_12 1 rfl ?_
    refine r_iload_n K dX0_place_13 2 rfl ?_
    refine r_ast K dX0_place_14 (ws1 := [eO h 0 [.ref (a 0), .ref (a 1), .ref (a 2), .ref (a 3), .ref (a 4), .ref (a 5), .ref (a 6), .int (nI (nG r)), .int (nI (nM r)), .int (r 2)], eI Γ (a 0) 5 (fun gg => r (iG gg 0)), eI Γ (a 1) 5 (fun gg => r (iG gg 1)), eI Γ (a 2) 5 (fun gg => r (iG gg 2)), eI Γ (a 3) 6 (fun pp => r (iM pp 0)), eI Γ (a 4) 6 (fun pp => r (iM pp 1)), eI Γ (a 5) 6 (fun pp => r (iM pp 2)), eI Γ (a 6) 6 (upd (fun pp => pl r pp) x.toNatClampNeg v)]) 7 rfl (inN_vp c5 h6) rfl ?_
    exact hR () dX0_place_15 (trivial) rfl (by rw [setM_t c5]; exact yd_M3c (ix_lt c5 (by omega)))
set_option maxHeartbeats 1000000 in
set_option maxRecDepth 20000 in
theorem c_X0_addGrave (l : Launch) (Γ : eG) (h : Nat) (a : Nat → Nat) (r : Nat → Int32) (v : Int32) (hI : Inv r) (hg : nG r < 5) : cD l Γ yX0_addGrave cX0_addGrave 2 (some .boolean) 0 [.ref h, .int v] [ydW Γ h a r] (some (.int (bz true))) [ydW Γ h a (addGr r v)] := by
  refine e_bool [(0, .ref h), (1, .int v)] (by decide +kernel) (Nat.le_of_ble_eq_true rfl) rfl (fun V K hR => ?_)
  have h5 := hI.g
  have h6 := hI.m
  refine r_ws K (ws1 := [eO h 0 [.ref (a 0), .ref (a 1), .ref (a 2), .ref (a 3), .ref (a 4), .ref (a 5), .ref (a 6), .int (nI (nG r)), .int (nI (nM r)), .int (r 2)], eI Γ (a 0) 5 (fun gg => r (iG gg 0)), eI Γ (a 1) 5 (fun gg => r (iG gg 1)), eI Γ (a 2) 5 (fun gg => r (iG gg 2)), eI Γ (a 3) 6 (fun pp => r (iM pp 0)), eI Γ (a 4) 6 (fun pp => r (iM pp 1)), eI Γ (a 5) 6 (fun pp => r (iM pp 2)), eI Γ (a 6) 6 (fun pp => pl r pp)]) (yd_u r) ?_
  refine r_aload_n K dX0_addGrave_0 0 rfl ?_
  refine r_get K dX0_addGrave_1 (kf := 7) 0 rfl rfl hinX0 (by decide) q36 rfl rfl ?_
  refine r_if_ltN K dX0_addGrave_4 (by omega) (fun c4 => ?_) (fun c4 => ?_)
  · exact absurd c4 (by omega)
  · refine r_aload_n K dX0_addGrave_7 0 rfl ?_
    refine r_get K dX0_addGrave_8 (kf := 7) 0 rfl rfl hinX0 (by decide) q36 rfl rfl ?_
    refine r_iconst K dX0_addGrave_11 (nI 5) (by decide) ?_
    refine r_ic_ltN K dX0_addGrave_12 (by omega) (by omega) (fun c12 => ?_) (fun c12 => ?_)
    · refine r_aload_n K dX0_addGrave_17 0 rfl ?_
      refine r_get K dX0_addGrave_18 (kf := 0) 0 rfl rfl hinX0 (by decide) q29 rfl rfl ?_
      refine r_aload_n K dX0_addGrave_21 0 rfl ?_
      refine r_get K dX0_addGrave_22 (kf := 7) 0 rfl rfl hinX0 (by decide) q36 rfl rfl ?_
      refine r_iload_n K dX0_addGrave_25 1 rfl ?_
      refine r_astN K dX0_addGrave_26 (ws1 := [eO h 0 [.ref (a 0), .ref (a 1), .ref (a 2), .ref (a 3), .ref (a 4), .ref (a 5), .ref (a 6), .int (nI (nG r)), .int (nI (nM r)), .int (r 2)], eI Γ (a 0) 5 (upd (fun gg => r (iG gg 0)) (nG r) v), eI Γ (a 1) 5 (fun gg => r (iG gg 1)), eI Γ (a 2) 5 (fun gg => r (iG gg 2)), eI Γ (a 3) 6 (fun pp => r (iM pp 0)), eI Γ (a 4) 6 (fun pp => r (iM pp 1)), eI Γ (a 5) 6 (fun pp => r (iM pp 2)), eI Γ (a 6) 6 (fun pp => pl r pp)]) 1 rfl (by first | omega | exact iG_lt (by omega) (by decide) | exact iM_lt (by omega) (by decide)) (by decide) rfl ?_
      refine r_aload_n K dX0_addGrave_27 0 rfl ?_
      refine r_get K dX0_addGrave_28 (kf := 1) 0 rfl rfl hinX0 (by decide) q30 rfl rfl ?_
      refine r_aload_n K dX0_addGrave_31 0 rfl ?_
      refine r_get K dX0_addGrave_32 (kf := 7) 0 rfl rfl hinX0 (by decide) q36 rfl rfl ?_
      refine r_iconst K dX0_addGrave_35 (nI 0) (by decide) ?_
      refine r_astN K dX0_addGrave_36 (ws1 := [eO h 0 [.ref (a 0), .ref (a 1), .ref (a 2), .ref (a 3), .ref (a 4), .ref (a 5), .ref (a 6), .int (nI (nG r)), .int (nI (nM r)), .int (r 2)], eI Γ (a 0) 5 (upd (fun gg => r (iG gg 0)) (nG r) v), eI Γ (a 1) 5 (upd (fun gg => r (iG gg 1)) (nG r) (nI 0)), eI Γ (a 2) 5 (fun gg => r (iG gg 2)), eI Γ (a 3) 6 (fun pp => r (iM pp 0)), eI Γ (a 4) 6 (fun pp => r (iM pp 1)), eI Γ (a 5) 6 (fun pp => r (iM pp 2)), eI Γ (a 6) 6 (fun pp => pl r pp)]) 2 rfl (by first | omega | exact iG_lt (by omega) (by decide) | exact iM_lt (by omega) (by decide)) (by decide) rfl ?_
      refine r_aload_n K dX0_addGrave_37 0 rfl ?_
      refine r_get K dX0_addGrave_38 (kf := 2) 0 rfl rfl hinX0 (by decide) q31 rfl rfl ?_
      refine r_aload_n K dX0_addGrave_41 0 rfl ?_
      refine r_get K dX0_addGrave_42 (kf := 7) 0 rfl rfl hinX0 (by decide) q36 rfl rfl ?_
      refine r_iconst K dX0_addGrave_45 (nI 0) (by decide) ?_
      refine r_astN K dX0_addGrave_46 (ws1 := [eO h 0 [.ref (a 0), .ref (a 1), .ref (a 2), .ref (a 3), .ref (a 4), .ref (a 5), .ref (a 6), .int (nI (nG r)), .int (nI (nM r)), .int (r 2)], eI Γ (a 0) 5 (upd (fun gg => r (iG gg 0)) (nG r) v), eI Γ (a 1) 5 (upd (fun gg => r (iG gg 1)) (nG r) (nI 0)), eI Γ (a 2) 5 (upd (fun gg => r (iG gg 2)) (nG r) (nI 0)), eI Γ (a 3) 6 (fun pp => r (iM pp 0)), eI Γ (a 4) 6 (fun pp => r (iM pp 1)), eI Γ (a 5) 6 (fun pp => r (iM pp 2)), eI Γ (a 6) 6 (fun pp => pl r pp)]) 3 rfl (by first | omega | exact iG_lt (by omega) (by decide) | exact iM_lt (by omega) (by decide)) (by decide) rfl ?_
      refine r_aload_n K dX0_addGrave_47 0 rfl ?_
      refine r_dup K dX0_addGrave_48 rfl ?_
      refine r_get K dX0_addGrave_49 (kf := 7) 0 rfl rfl hinX0 (by decide) q36 rfl rfl ?_
      refine r_iconst K dX0_addGrave_52 (nI 1) (by decide) ?_
      refine r_iaddN K dX0_addGrave_53 ?_
      refine r_put K dX0_addGrave_54 (kf := 7) (ty := .int) (ws1 := [eO h 0 [.ref (a 0), .ref (a 1), .ref (a 2), .ref (a 3), .ref (a 4), .ref (a 5), .ref (a 6), .int (nI ((nG r) + 1)), .int (nI (nM r)), .int (r 2)], eI Γ (a 0) 5 (upd (fun gg => r (iG gg 0)) (nG r) v), eI Γ (a 1) 5 (upd (fun gg => r (iG gg 1)) (nG r) (nI 0)), eI Γ (a 2) 5 (upd (fun gg => r (iG gg 2)) (nG r) (nI 0)), eI Γ (a 3) 6 (fun pp => r (iM pp 0)), eI Γ (a 4) 6 (fun pp => r (iM pp 1)), eI Γ (a 5) 6 (fun pp => r (iM pp 2)), eI Γ (a 6) 6 (fun pp => pl r pp)]) 0 rfl rfl hinX0 tyX0 tyX0_ok nmX0 (by decide) q36 rfl (by decide +kernel) rfl rfl (Nat.le_of_ble_eq_true rfl) rfl ?_
      refine r_iconst K dX0_addGrave_57 (nI 1) (by decide) ?_
      exact hR () dX0_addGrave_58 (rfl) (trivial) (e_ri (rfl)) (yd_addGc hg)
    · exact absurd c12 (by omega)
set_option maxHeartbeats 1000000 in
set_option maxRecDepth 20000 in
theorem c_X0_addGraveF (l : Launch) (Γ : eG) (h : Nat) (a : Nat → Nat) (r : Nat → Int32) (v : Int32) (hI : Inv r) (hg : nG r = 5) : cD l Γ yX0_addGrave cX0_addGrave 2 (some .boolean) 0 [.ref h, .int v] [ydW Γ h a r] (some (.int (bz false))) [ydW Γ h a r] := by
  refine e_bool [(0, .ref h), (1, .int v)] (by decide +kernel) (Nat.le_of_ble_eq_true rfl) rfl (fun V K hR => ?_)
  have h5 := hI.g
  have h6 := hI.m
  refine r_ws K (ws1 := [eO h 0 [.ref (a 0), .ref (a 1), .ref (a 2), .ref (a 3), .ref (a 4), .ref (a 5), .ref (a 6), .int (nI (nG r)), .int (nI (nM r)), .int (r 2)], eI Γ (a 0) 5 (fun gg => r (iG gg 0)), eI Γ (a 1) 5 (fun gg => r (iG gg 1)), eI Γ (a 2) 5 (fun gg => r (iG gg 2)), eI Γ (a 3) 6 (fun pp => r (iM pp 0)), eI Γ (a 4) 6 (fun pp => r (iM pp 1)), eI Γ (a 5) 6 (fun pp => r (iM pp 2)), eI Γ (a 6) 6 (fun pp => pl r pp)]) (yd_u r) ?_
  refine r_aload_n K dX0_addGrave_0 0 rfl ?_
  refine r_get K dX0_addGrave_1 (kf := 7) 0 rfl rfl hinX0 (by decide) q36 rfl rfl ?_
  refine r_if_ltN K dX0_addGrave_4 (by omega) (fun c4 => ?_) (fun c4 => ?_)
  · exact absurd c4 (by omega)
  · refine r_aload_n K dX0_addGrave_7 0 rfl ?_
    refine r_get K dX0_addGrave_8 (kf := 7) 0 rfl rfl hinX0 (by decide) q36 rfl rfl ?_
    refine r_iconst K dX0_addGrave_11 (nI 5) (by decide) ?_
    refine r_ic_ltN K dX0_addGrave_12 (by omega) (by omega) (fun c12 => ?_) (fun c12 => ?_)
    · exact absurd c12 (by omega)
    · refine r_iconst K dX0_addGrave_15 (nI 0) (by decide) ?_
      exact hR () dX0_addGrave_16 (rfl) (trivial) (e_ri (rfl)) (yd_f r)
set_option maxHeartbeats 1000000 in
set_option maxRecDepth 20000 in
theorem c_X0_addMourner (l : Launch) (Γ : eG) (h : Nat) (a : Nat → Nat) (r : Nat → Int32) (k : Int32) (f : Int32) (e : Int32) (hI : Inv r) (hm : nM r < 6) : cD l Γ yX0_addMourner cX0_addMourner 4 (some .boolean) 0 [.ref h, .int k, .int f, .int e] [ydW Γ h a r] (some (.int (bz true))) [ydW Γ h a (addMo r k f e)] := by
  refine e_bool [(0, .ref h), (1, .int k), (2, .int f), (3, .int e)] (by decide +kernel) (Nat.le_of_ble_eq_true rfl) rfl (fun V K hR => ?_)
  have h5 := hI.g
  have h6 := hI.m
  refine r_ws K (ws1 := [eO h 0 [.ref (a 0), .ref (a 1), .ref (a 2), .ref (a 3), .ref (a 4), .ref (a 5), .ref (a 6), .int (nI (nG r)), .int (nI (nM r)), .int (r 2)], eI Γ (a 0) 5 (fun gg => r (iG gg 0)), eI Γ (a 1) 5 (fun gg => r (iG gg 1)), eI Γ (a 2) 5 (fun gg => r (iG gg 2)), eI Γ (a 3) 6 (fun pp => r (iM pp 0)), eI Γ (a 4) 6 (fun pp => r (iM pp 1)), eI Γ (a 5) 6 (fun pp => r (iM pp 2)), eI Γ (a 6) 6 (fun pp => pl r pp)]) (yd_u r) ?_
  refine r_aload_n K dX0_addMourner_0 0 rfl ?_
  refine r_get K dX0_addMourner_1 (kf := 8) 0 rfl rfl hinX0 (by decide) q37 rfl rfl ?_
  refine r_if_ltN K dX0_addMourner_4 (by omega) (fun c4 => ?_) (fun c4 => ?_)
  · exact absurd c4 (by omega)
  · refine r_aload_n K dX0_addMourner_7 0 rfl ?_
    refine r_get K dX0_addMourner_8 (kf := 8) 0 rfl rfl hinX0 (by decide) q37 rfl rfl ?_
    refine r_bipush K dX0_addMourner_11 (nI 6) (by decide) ?_
    refine r_ic_ltN K dX0_addMourner_13 (by omega) (by omega) (fun c13 => ?_) (fun c13 => ?_)
    · refine r_aload_n K dX0_addMourner_18 0 rfl ?_
      refine r_get K dX0_addMourner_19 (kf := 3) 0 rfl rfl hinX0 (by decide) q32 rfl rfl ?_
      refine r_aload_n K dX0_addMourner_22 0 rfl ?_
      refine r_get K dX0_addMourner_23 (kf := 8) 0 rfl rfl hinX0 (by decide) q37 rfl rfl ?_
      refine r_iload_n K dX0_addMourner_26 1 rfl ?_
      refine r_astN K dX0_addMourner_27 (ws1 := [eO h 0 [.ref (a 0), .ref (a 1), .ref (a 2), .ref (a 3), .ref (a 4), .ref (a 5), .ref (a 6), .int (nI (nG r)), .int (nI (nM r)), .int (r 2)], eI Γ (a 0) 5 (fun gg => r (iG gg 0)), eI Γ (a 1) 5 (fun gg => r (iG gg 1)), eI Γ (a 2) 5 (fun gg => r (iG gg 2)), eI Γ (a 3) 6 (upd (fun pp => r (iM pp 0)) (nM r) k), eI Γ (a 4) 6 (fun pp => r (iM pp 1)), eI Γ (a 5) 6 (fun pp => r (iM pp 2)), eI Γ (a 6) 6 (fun pp => pl r pp)]) 4 rfl (by first | omega | exact iG_lt (by omega) (by decide) | exact iM_lt (by omega) (by decide)) (by decide) rfl ?_
      refine r_aload_n K dX0_addMourner_28 0 rfl ?_
      refine r_get K dX0_addMourner_29 (kf := 4) 0 rfl rfl hinX0 (by decide) q33 rfl rfl ?_
      refine r_aload_n K dX0_addMourner_32 0 rfl ?_
      refine r_get K dX0_addMourner_33 (kf := 8) 0 rfl rfl hinX0 (by decide) q37 rfl rfl ?_
      refine r_iload_n K dX0_addMourner_36 2 rfl ?_
      refine r_astN K dX0_addMourner_37 (ws1 := [eO h 0 [.ref (a 0), .ref (a 1), .ref (a 2), .ref (a 3), .ref (a 4), .ref (a 5), .ref (a 6), .int (nI (nG r)), .int (nI (nM r)), .int (r 2)], eI Γ (a 0) 5 (fun gg => r (iG gg 0)), eI Γ (a 1) 5 (fun gg => r (iG gg 1)), eI Γ (a 2) 5 (fun gg => r (iG gg 2)), eI Γ (a 3) 6 (upd (fun pp => r (iM pp 0)) (nM r) k), eI Γ (a 4) 6 (upd (fun pp => r (iM pp 1)) (nM r) f), eI Γ (a 5) 6 (fun pp => r (iM pp 2)), eI Γ (a 6) 6 (fun pp => pl r pp)]) 5 rfl (by first | omega | exact iG_lt (by omega) (by decide) | exact iM_lt (by omega) (by decide)) (by decide) rfl ?_
      refine r_aload_n K dX0_addMourner_38 0 rfl ?_
      refine r_get K dX0_addMourner_39 (kf := 5) 0 rfl rfl hinX0 (by decide) q34 rfl rfl ?_
      refine r_aload_n K dX0_addMourner_42 0 rfl ?_
      refine r_get K dX0_addMourner_43 (kf := 8) 0 rfl rfl hinX0 (by decide) q37 rfl rfl ?_
      refine r_iload_n K dX0_addMourner_46 3 rfl ?_
      refine r_astN K dX0_addMourner_47 (ws1 := [eO h 0 [.ref (a 0), .ref (a 1), .ref (a 2), .ref (a 3), .ref (a 4), .ref (a 5), .ref (a 6), .int (nI (nG r)), .int (nI (nM r)), .int (r 2)], eI Γ (a 0) 5 (fun gg => r (iG gg 0)), eI Γ (a 1) 5 (fun gg => r (iG gg 1)), eI Γ (a 2) 5 (fun gg => r (iG gg 2)), eI Γ (a 3) 6 (upd (fun pp => r (iM pp 0)) (nM r) k), eI Γ (a 4) 6 (upd (fun pp => r (iM pp 1)) (nM r) f), eI Γ (a 5) 6 (upd (fun pp => r (iM pp 2)) (nM r) e), eI Γ (a 6) 6 (fun pp => pl r pp)]) 6 rfl (by first | omega | exact iG_lt (by omega) (by decide) | exact iM_lt (by omega) (by decide)) (by decide) rfl ?_
      refine r_aload_n K dX0_addMourner_48 0 rfl ?_
      refine r_get K dX0_addMourner_49 (kf := 6) 0 rfl rfl hinX0 (by decide) q35 rfl rfl ?_
      refine r_aload_n K dX0_addMourner_52 0 rfl ?_
      refine r_get K dX0_addMourner_53 (kf := 8) 0 rfl rfl hinX0 (by decide) q37 rfl rfl ?_
      refine r_bipush K dX0_addMourner_56 ((-9)) (by decide) ?_
      refine r_astN K dX0_addMourner_58 (ws1 := [eO h 0 [.ref (a 0), .ref (a 1), .ref (a 2), .ref (a 3), .ref (a 4), .ref (a 5), .ref (a 6), .int (nI (nG r)), .int (nI (nM r)), .int (r 2)], eI Γ (a 0) 5 (fun gg => r (iG gg 0)), eI Γ (a 1) 5 (fun gg => r (iG gg 1)), eI Γ (a 2) 5 (fun gg => r (iG gg 2)), eI Γ (a 3) 6 (upd (fun pp => r (iM pp 0)) (nM r) k), eI Γ (a 4) 6 (upd (fun pp => r (iM pp 1)) (nM r) f), eI Γ (a 5) 6 (upd (fun pp => r (iM pp 2)) (nM r) e), eI Γ (a 6) 6 (upd (fun pp => pl r pp) (nM r) (-9))]) 7 rfl (by first | omega | exact iG_lt (by omega) (by decide) | exact iM_lt (by omega) (by decide)) (by decide) rfl ?_
      refine r_aload_n K dX0_addMourner_59 0 rfl ?_
      refine r_dup K dX0_addMourner_60 rfl ?_
      refine r_get K dX0_addMourner_61 (kf := 8) 0 rfl rfl hinX0 (by decide) q37 rfl rfl ?_
      refine r_iconst K dX0_addMourner_64 (nI 1) (by decide) ?_
      refine r_iaddN K dX0_addMourner_65 ?_
      refine r_put K dX0_addMourner_66 (kf := 8) (ty := .int) (ws1 := [eO h 0 [.ref (a 0), .ref (a 1), .ref (a 2), .ref (a 3), .ref (a 4), .ref (a 5), .ref (a 6), .int (nI (nG r)), .int (nI ((nM r) + 1)), .int (r 2)], eI Γ (a 0) 5 (fun gg => r (iG gg 0)), eI Γ (a 1) 5 (fun gg => r (iG gg 1)), eI Γ (a 2) 5 (fun gg => r (iG gg 2)), eI Γ (a 3) 6 (upd (fun pp => r (iM pp 0)) (nM r) k), eI Γ (a 4) 6 (upd (fun pp => r (iM pp 1)) (nM r) f), eI Γ (a 5) 6 (upd (fun pp => r (iM pp 2)) (nM r) e), eI Γ (a 6) 6 (upd (fun pp => pl r pp) (nM r) (-9))]) 0 rfl rfl hinX0 tyX0 tyX0_ok nmX0 (by decide) q37 rfl (by decide +kernel) rfl rfl (Nat.le_of_ble_eq_true rfl) rfl ?_
      refine r_iconst K dX0_addMourner_69 (nI 1) (by decide) ?_
      exact hR () dX0_addMourner_70 (rfl) (trivial) (e_ri (rfl)) (yd_addMc hm)
    · exact absurd c13 (by omega)
set_option maxHeartbeats 1000000 in
set_option maxRecDepth 20000 in
theorem c_X0_addMournerF (l : Launch) (Γ : eG) (h : Nat) (a : Nat → Nat) (r : Nat → Int32) (k : Int32) (f : Int32) (e : Int32) (hI : Inv r) (hm : nM r = 6) : cD l Γ yX0_addMourner cX0_addMourner 4 (some .boolean) 0 [.ref h, .int k, .int f, .int e] [ydW Γ h a r] (some (.int (bz false))) [ydW Γ h a r] := by
  refine e_bool [(0, .ref h), (1, .int k), (2, .int f), (3, .int e)] (by decide +kernel) (Nat.le_of_ble_eq_true rfl) rfl (fun V K hR => ?_)
  have h5 := hI.g
  have h6 := hI.m
  refine r_ws K (ws1 := [eO h 0 [.ref (a 0), .ref (a 1), .ref (a 2), .ref (a 3), .ref (a 4), .ref (a 5), .ref (a 6), .int (nI (nG r)), .int (nI (nM r)), .int (r 2)], eI Γ (a 0) 5 (fun gg => r (iG gg 0)), eI Γ (a 1) 5 (fun gg => r (iG gg 1)), eI Γ (a 2) 5 (fun gg => r (iG gg 2)), eI Γ (a 3) 6 (fun pp => r (iM pp 0)), eI Γ (a 4) 6 (fun pp => r (iM pp 1)), eI Γ (a 5) 6 (fun pp => r (iM pp 2)), eI Γ (a 6) 6 (fun pp => pl r pp)]) (yd_u r) ?_
  refine r_aload_n K dX0_addMourner_0 0 rfl ?_
  refine r_get K dX0_addMourner_1 (kf := 8) 0 rfl rfl hinX0 (by decide) q37 rfl rfl ?_
  refine r_if_ltN K dX0_addMourner_4 (by omega) (fun c4 => ?_) (fun c4 => ?_)
  · exact absurd c4 (by omega)
  · refine r_aload_n K dX0_addMourner_7 0 rfl ?_
    refine r_get K dX0_addMourner_8 (kf := 8) 0 rfl rfl hinX0 (by decide) q37 rfl rfl ?_
    refine r_bipush K dX0_addMourner_11 (nI 6) (by decide) ?_
    refine r_ic_ltN K dX0_addMourner_13 (by omega) (by omega) (fun c13 => ?_) (fun c13 => ?_)
    · exact absurd c13 (by omega)
    · refine r_iconst K dX0_addMourner_16 (nI 0) (by decide) ?_
      exact hR () dX0_addMourner_17 (rfl) (trivial) (e_ri (rfl)) (yd_f r)
set_option maxHeartbeats 1000000 in
set_option maxRecDepth 20000 in
theorem c_X0_allLeave (l : Launch) (Γ : eG) (h : Nat) (a : Nat → Nat) (r : Nat → Int32) (f : Nat → Int32)  : cD l Γ yX0_allLeave cX0_allLeave 2 (none) 0 [.ref h] [ydX Γ h a r f] none [ydW Γ h a (leaveS r)] := by
  refine e_void [(0, .ref h)] (by decide +kernel) (Nat.le_of_ble_eq_true rfl) rfl (fun V K hR => ?_)
  refine r_ws K (ws1 := [eO h 0 [.ref (a 0), .ref (a 1), .ref (a 2), .ref (a 3), .ref (a 4), .ref (a 5), .ref (a 6), .int (nI (nG r)), .int (nI (nM r)), .int (r 2)], eI Γ (a 0) 5 (fun gg => r (iG gg 0)), eI Γ (a 1) 5 (fun gg => r (iG gg 1)), eI Γ (a 2) 5 (fun gg => r (iG gg 2)), eI Γ (a 3) 6 (fun pp => r (iM pp 0)), eI Γ (a 4) 6 (fun pp => r (iM pp 1)), eI Γ (a 5) 6 (fun pp => r (iM pp 2)), eI Γ (a 6) 6 f]) (yd_x) ?_
  refine r_iconst K dX0_allLeave_0 (nI 0) (by decide) ?_
  refine r_istore_n K dX0_allLeave_1 rfl (by decide) (lv1 := [(1, .int (nI 0)), (0, .ref h)]) rfl ?_
  have L2 : ∀ (fL2 : Nat) (i : Nat), (i ≤ 6) → 6 - i < fL2 → V 2 [(1, .int (nI i)), (0, .ref h)] [] [eO h 0 [.ref (a 0), .ref (a 1), .ref (a 2), .ref (a 3), .ref (a 4), .ref (a 5), .ref (a 6), .int (nI (nG r)), .int (nI (nM r)), .int (r 2)], eI Γ (a 0) 5 (fun gg => r (iG gg 0)), eI Γ (a 1) 5 (fun gg => r (iG gg 1)), eI Γ (a 2) 5 (fun gg => r (iG gg 2)), eI Γ (a 3) 6 (fun pp => r (iM pp 0)), eI Γ (a 4) 6 (fun pp => r (iM pp 1)), eI Γ (a 5) 6 (fun pp => r (iM pp 2)), eI Γ (a 6) 6 (lvF f i)] := by
    intro fL2
    induction fL2 with
    | zero => intro i hi hf; exact absurd hf (Nat.not_lt_zero _)
    | succ fL2 ih_L2 =>
      intro i hi hfL2
      refine r_iload_n K dX0_allLeave_2 0 rfl ?_
      refine r_bipush K dX0_allLeave_3 (nI 6) (by decide) ?_
      refine r_ic_geN K dX0_allLeave_5 (by omega) (by omega) (fun c5 => ?_) (fun c5 => ?_)
      · obtain rfl : i = 6 := by omega
        exact hR () dX0_allLeave_22 (trivial) rfl (yd_leavec)
      · refine r_aload_n K dX0_allLeave_8 1 rfl ?_
        refine r_get K dX0_allLeave_9 (kf := 6) 0 rfl rfl hinX0 (by decide) q35 rfl rfl ?_
        refine r_iload_n K dX0_allLeave_12 0 rfl ?_
        refine r_bipush K dX0_allLeave_13 ((-9)) (by decide) ?_
        refine r_astN K dX0_allLeave_15 (ws1 := [eO h 0 [.ref (a 0), .ref (a 1), .ref (a 2), .ref (a 3), .ref (a 4), .ref (a 5), .ref (a 6), .int (nI (nG r)), .int (nI (nM r)), .int (r 2)], eI Γ (a 0) 5 (fun gg => r (iG gg 0)), eI Γ (a 1) 5 (fun gg => r (iG gg 1)), eI Γ (a 2) 5 (fun gg => r (iG gg 2)), eI Γ (a 3) 6 (fun pp => r (iM pp 0)), eI Γ (a 4) 6 (fun pp => r (iM pp 1)), eI Γ (a 5) 6 (fun pp => r (iM pp 2)), eI Γ (a 6) 6 (upd (lvF f i) i (-9))]) 7 rfl (by first | omega | exact iG_lt (by omega) (by decide) | exact iM_lt (by omega) (by decide)) (by decide) rfl ?_
        refine r_arr K (f2 := lvF f (i + 1)) (ws1 := [eO h 0 [.ref (a 0), .ref (a 1), .ref (a 2), .ref (a 3), .ref (a 4), .ref (a 5), .ref (a 6), .int (nI (nG r)), .int (nI (nM r)), .int (r 2)], eI Γ (a 0) 5 (fun gg => r (iG gg 0)), eI Γ (a 1) 5 (fun gg => r (iG gg 1)), eI Γ (a 2) 5 (fun gg => r (iG gg 2)), eI Γ (a 3) 6 (fun pp => r (iM pp 0)), eI Γ (a 4) 6 (fun pp => r (iM pp 1)), eI Γ (a 5) 6 (fun pp => r (iM pp 2)), eI Γ (a 6) 6 (lvF f (i + 1))]) 7 rfl (fun _ _ => by rw [lvF_s]) rfl ?_
        refine r_iincN K dX0_allLeave_16 (n := 1) 0 rfl rfl (by decide) (lv1 := [(1, .int (nI (i + 1))), (0, .ref h)]) rfl ?_
        refine r_goto K dX0_allLeave_19 ?_
        exact ih_L2 (i + 1) (by omega) (by omega)
  refine r_arr K (f2 := lvF f 0) (ws1 := [eO h 0 [.ref (a 0), .ref (a 1), .ref (a 2), .ref (a 3), .ref (a 4), .ref (a 5), .ref (a 6), .int (nI (nG r)), .int (nI (nM r)), .int (r 2)], eI Γ (a 0) 5 (fun gg => r (iG gg 0)), eI Γ (a 1) 5 (fun gg => r (iG gg 1)), eI Γ (a 2) 5 (fun gg => r (iG gg 2)), eI Γ (a 3) 6 (fun pp => r (iM pp 0)), eI Γ (a 4) 6 (fun pp => r (iM pp 1)), eI Γ (a 5) 6 (fun pp => r (iM pp 2)), eI Γ (a 6) 6 (lvF f 0)]) 7 rfl (fun _ _ => by rw [lvF_0]) rfl ?_
  exact L2 _ 0 (Nat.zero_le 6) (Nat.lt_succ_self _)
set_option maxHeartbeats 1000000 in
set_option maxRecDepth 20000 in
theorem c_X0_inform (l : Launch) (Γ : eG) (h : Nat) (a : Nat → Nat) (r : Nat → Int32) (x : Int32) (hI : Inv r) : cD l Γ yX0_inform cX0_inform 2 (none) 2 [.ref h, .int x] [ydW Γ h a r] none [ydW Γ h a (tellX r x)] := by
  refine e_void [(0, .ref h), (1, .int x)] (by decide +kernel) (Nat.le_of_ble_eq_true rfl) rfl (fun V K hR => ?_)
  have h5 := hI.g
  have h6 := hI.m
  refine r_aload_n K dX0_inform_0 0 rfl ?_
  refine r_iload_n K dX0_inform_1 1 rfl ?_
  refine r_bipush K dX0_inform_2 (nI 99) (by decide) ?_
  refine r_aload_n K dX0_inform_4 0 rfl ?_
  refine r_iload_n K dX0_inform_5 1 rfl ?_
  refine r_cVd K dX0_inform_6 (c_X0_griefOf l Γ h a r x (hI)) mX0_griefOf q238 rfl (by decide) rfl rfl 1 rfl [0] [] rfl rfl [] rfl [ydW Γ h a r] rfl rfl rfl [.int (nI 99), .int x, .ref h] rfl (Nat.le_of_ble_eq_true rfl) ?_
  refine r_aload_n K dX0_inform_9 0 rfl ?_
  refine r_iload_n K dX0_inform_10 1 rfl ?_
  refine r_cVd K dX0_inform_11 (c_X0_kindOf l Γ h a r x (hI)) mX0_kindOf q242 rfl (by decide) rfl rfl 1 rfl [0] [] rfl rfl [] rfl [ydW Γ h a r] rfl rfl rfl [.int (mv r 2 (nI 0) x), .int (nI 99), .int x, .ref h] rfl (Nat.le_of_ble_eq_true rfl) ?_
  refine r_cSd K dX0_inform_14 (c_X2_shock l Γ (mv r 0 (-9) x)) mX2_shock q246 rfl (by decide) 1 rfl [] [0] rfl rfl [ydW Γ h a r] rfl [ydW Γ h a r] rfl rfl rfl [.int (mv r 2 (nI 0) x), .int (nI 99), .int x, .ref h] rfl (Nat.le_of_ble_eq_true rfl) ?_
  refine r_iadd K dX0_inform_17 ?_
  refine r_mmin K dX0_inform_18 q249 q204 q205 (Nat.le_of_ble_eq_true rfl) (by decide) ?_
  refine r_top (y := mn99 (mv r 2 (nI 0) x + toldK (mv r 0 (-9) x))) (rfl) ?_
  refine r_cVn K dX0_inform_21 (c_X0_setGrief l Γ h a r x (mn99 (mv r 2 (nI 0) x + toldK (mv r 0 (-9) x))) (hI)) mX0_setGrief q250 rfl (by decide) rfl rfl 1 rfl [0] [] rfl rfl [] rfl [ydW Γ h a (setM r 2 x (mn99 (mv r 2 (nI 0) x + toldK (mv r 0 (-9) x))))] rfl rfl rfl [] rfl (Nat.le_of_ble_eq_true rfl) ?_
  exact hR () dX0_inform_24 (trivial) rfl (by unfold tellX; exact weq.rf)
set_option maxHeartbeats 1000000 in
set_option maxRecDepth 20000 in
theorem c_X0_informN (l : Launch) (Γ : eG) (h : Nat) (a : Nat → Nat) (r : Nat → Int32) (p : Nat) (hI : Inv r) (hp : p < nM r) : cD l Γ yX0_inform cX0_inform 2 (none) 2 [.ref h, .int (nI p)] [ydW Γ h a r] none [ydW Γ h a (tellS r p)] := by
  have q := c_X0_inform l Γ h a r (nI p) hI
  rw [tellX_N hp hI.m] at q
  exact q
set_option maxHeartbeats 1000000 in
set_option maxRecDepth 20000 in
theorem c_X0_weeps (l : Launch) (Γ : eG) (h : Nat) (a : Nat → Nat) (r : Nat → Int32) (p : Nat) (hI : Inv r) (hp : p < nM r) : cD l Γ yX0_weeps cX0_weeps 2 (some .int) 2 [.ref h, .int (nI p)] [ydW Γ h a r] (some (.int (weepS r p))) [ydW Γ h a r] := by
  refine e_int [(0, .ref h), (1, .int (nI p))] (by decide +kernel) (Nat.le_of_ble_eq_true rfl) rfl (fun V K hR => ?_)
  have h5 := hI.g
  have h6 := hI.m
  refine r_aload_n K dX0_weeps_0 0 rfl ?_
  refine r_iload_n K dX0_weeps_1 1 rfl ?_
  refine r_cVd K dX0_weeps_2 (c_X0_kindOfN l Γ h a r p (hI) (by first | omega | (simp only [daysS_nM, daysS_nG, dayS_nM, dayS_nG, tellS_nM, tellS_nG, aloneTo_nM, aloneTo_nG, nM_M, nG_M, nM_G, nG_G, lv_nM, lv_nG, gnT_nM, gnT_nG] <;> omega))) mX0_kindOf q242 rfl (by decide) rfl rfl 1 rfl [0] [] rfl rfl [] rfl [ydW Γ h a r] rfl rfl rfl [] rfl (Nat.le_of_ble_eq_true rfl) ?_
  refine r_aload_n K dX0_weeps_5 0 rfl ?_
  refine r_iload_n K dX0_weeps_6 1 rfl ?_
  refine r_cVd K dX0_weeps_7 (c_X0_figureOfN l Γ h a r p (hI) (by first | omega | (simp only [daysS_nM, daysS_nG, dayS_nM, dayS_nG, tellS_nM, tellS_nG, aloneTo_nM, aloneTo_nG, nM_M, nG_M, nM_G, nG_G, lv_nM, lv_nG, gnT_nM, gnT_nG] <;> omega))) mX0_figureOf q323 rfl (by decide) rfl rfl 1 rfl [0] [] rfl rfl [] rfl [ydW Γ h a r] rfl rfl rfl [.int (r (iM p 0))] rfl (Nat.le_of_ble_eq_true rfl) ?_
  refine r_aload_n K dX0_weeps_10 0 rfl ?_
  refine r_iload_n K dX0_weeps_11 1 rfl ?_
  refine r_cVd K dX0_weeps_12 (c_X0_griefOfN l Γ h a r p (hI) (by first | omega | (simp only [daysS_nM, daysS_nG, dayS_nM, dayS_nG, tellS_nM, tellS_nG, aloneTo_nM, aloneTo_nG, nM_M, nG_M, nM_G, nG_G, lv_nM, lv_nG, gnT_nM, gnT_nG] <;> omega))) mX0_griefOf q238 rfl (by decide) rfl rfl 1 rfl [0] [] rfl rfl [] rfl [ydW Γ h a r] rfl rfl rfl [.int (r (iM p 1)), .int (r (iM p 0))] rfl (Nat.le_of_ble_eq_true rfl) ?_
  refine r_cSd K dX0_weeps_15 (c_X2_weeping l Γ (r (iM p 0)) (r (iM p 1)) (r (iM p 2))) mX2_weeping q274 rfl (by decide) 1 rfl [] [0] rfl rfl [ydW Γ h a r] rfl [ydW Γ h a r] rfl rfl rfl [] rfl (Nat.le_of_ble_eq_true rfl) ?_
  exact hR () dX0_weeps_18 (trivial) (e_ri (rfl)) (weq.rf)
set_option maxHeartbeats 1000000 in
set_option maxRecDepth 20000 in
theorem c_X0_mournersAt (l : Launch) (Γ : eG) (h : Nat) (a : Nat → Nat) (r : Nat → Int32) (x : Int32) (hI : Inv r) : cD l Γ yX0_mournersAt cX0_mournersAt 4 (some .int) 0 [.ref h, .int x] [ydW Γ h a r] (some (.int (ppl r x))) [ydW Γ h a r] := by
  refine e_int [(0, .ref h), (1, .int x)] (by decide +kernel) (Nat.le_of_ble_eq_true rfl) rfl (fun V K hR => ?_)
  have h5 := hI.g
  have h6 := hI.m
  refine r_ws K (ws1 := [eO h 0 [.ref (a 0), .ref (a 1), .ref (a 2), .ref (a 3), .ref (a 4), .ref (a 5), .ref (a 6), .int (nI (nG r)), .int (nI (nM r)), .int (r 2)], eI Γ (a 0) 5 (fun gg => r (iG gg 0)), eI Γ (a 1) 5 (fun gg => r (iG gg 1)), eI Γ (a 2) 5 (fun gg => r (iG gg 2)), eI Γ (a 3) 6 (fun pp => r (iM pp 0)), eI Γ (a 4) 6 (fun pp => r (iM pp 1)), eI Γ (a 5) 6 (fun pp => r (iM pp 2)), eI Γ (a 6) 6 (fun pp => pl r pp)]) (yd_u r) ?_
  refine r_iconst K dX0_mournersAt_0 (nI 0) (by decide) ?_
  refine r_istore_n K dX0_mournersAt_1 rfl (by decide) (lv1 := [(2, .int (nI 0)), (0, .ref h), (1, .int x)]) rfl ?_
  refine r_iconst K dX0_mournersAt_2 (nI 0) (by decide) ?_
  refine r_istore_n K dX0_mournersAt_3 rfl (by decide) (lv1 := [(3, .int (nI 0)), (2, .int (nI 0)), (0, .ref h), (1, .int x)]) rfl ?_
  have L4 : ∀ (fL4 : Nat) (i : Nat) (v : Int32), (i ≤ 6) → (v = sumTo (fun p => if pl r p = x then nI 1 else nI 0) i) → 6 - i < fL4 → V 4 [(3, .int (nI i)), (2, .int v), (0, .ref h), (1, .int x)] [] [eO h 0 [.ref (a 0), .ref (a 1), .ref (a 2), .ref (a 3), .ref (a 4), .ref (a 5), .ref (a 6), .int (nI (nG r)), .int (nI (nM r)), .int (r 2)], eI Γ (a 0) 5 (fun gg => r (iG gg 0)), eI Γ (a 1) 5 (fun gg => r (iG gg 1)), eI Γ (a 2) 5 (fun gg => r (iG gg 2)), eI Γ (a 3) 6 (fun pp => r (iM pp 0)), eI Γ (a 4) 6 (fun pp => r (iM pp 1)), eI Γ (a 5) 6 (fun pp => r (iM pp 2)), eI Γ (a 6) 6 (fun pp => pl r pp)] := by
    intro fL4
    induction fL4 with
    | zero => intro i v hi hv hf; exact absurd hf (Nat.not_lt_zero _)
    | succ fL4 ih_L4 =>
      intro i v hi hv hfL4
      refine r_iload_n K dX0_mournersAt_4 0 rfl ?_
      refine r_bipush K dX0_mournersAt_5 (nI 6) (by decide) ?_
      refine r_ic_geN K dX0_mournersAt_7 (by omega) (by omega) (fun c7 => ?_) (fun c7 => ?_)
      · obtain rfl : i = 6 := by omega
        refine r_iload_n K dX0_mournersAt_29 1 rfl ?_
        exact hR () dX0_mournersAt_30 (trivial) (e_ri (hv.symm)) (yd_f r)
      · refine r_aload_n K dX0_mournersAt_10 2 rfl ?_
        refine r_get K dX0_mournersAt_11 (kf := 6) 0 rfl rfl hinX0 (by decide) q35 rfl rfl ?_
        refine r_iload_n K dX0_mournersAt_14 0 rfl ?_
        refine r_aldN K dX0_mournersAt_15 7 rfl (by first | omega | exact iG_lt (by omega) (by decide) | exact iM_lt (by omega) (by decide)) (by decide) ?_
        refine r_iload_n K dX0_mournersAt_16 3 rfl ?_
        refine r_ic_ne K dX0_mournersAt_17 (fun c17 => ?_) (fun c17 => ?_)
        · refine r_iincN K dX0_mournersAt_23 (n := 1) 0 rfl rfl (by decide) (lv1 := [(3, .int (nI (i + 1))), (2, .int v), (0, .ref h), (1, .int x)]) rfl ?_
          refine r_goto K dX0_mournersAt_26 ?_
          exact ih_L4 (i + 1) v (by omega) (by rw [hv]; show _ = sumTo _ i + (if pl r i = x then _ else _); rw [if_neg c17, add0]) (by omega)
        · refine r_iinc K dX0_mournersAt_20 1 (v + nI 1) rfl rfl (by decide) (lv1 := [(2, .int (v + nI 1)), (3, .int (nI i)), (0, .ref h), (1, .int x)]) rfl ?_
          refine r_iincN K dX0_mournersAt_23 (n := 1) 1 rfl rfl (by decide) (lv1 := [(3, .int (nI (i + 1))), (2, .int (v + nI 1)), (0, .ref h), (1, .int x)]) rfl ?_
          refine r_goto K dX0_mournersAt_26 ?_
          exact ih_L4 (i + 1) (v + nI 1) (by omega) (by rw [hv]; show _ = sumTo _ i + (if pl r i = x then _ else _); rw [if_pos c17]) (by omega)
  exact L4 _ 0 (nI 0) (Nat.zero_le 6) (rfl) (Nat.lt_succ_self _)
set_option maxHeartbeats 1000000 in
set_option maxRecDepth 20000 in
theorem c_X0_weepingAt (l : Launch) (Γ : eG) (h : Nat) (a : Nat → Nat) (r : Nat → Int32) (x : Int32) (hI : Inv r) (hx : ¬ x = -9) : cD l Γ yX0_weepingAt cX0_weepingAt 4 (some .int) 3 [.ref h, .int x] [ydW Γ h a r] (some (.int (wat r x))) [ydW Γ h a r] := by
  refine e_int [(0, .ref h), (1, .int x)] (by decide +kernel) (Nat.le_of_ble_eq_true rfl) rfl (fun V K hR => ?_)
  have h5 := hI.g
  have h6 := hI.m
  refine r_iconst K dX0_weepingAt_0 (nI 0) (by decide) ?_
  refine r_istore_n K dX0_weepingAt_1 rfl (by decide) (lv1 := [(2, .int (nI 0)), (0, .ref h), (1, .int x)]) rfl ?_
  refine r_iconst K dX0_weepingAt_2 (nI 0) (by decide) ?_
  refine r_istore_n K dX0_weepingAt_3 rfl (by decide) (lv1 := [(3, .int (nI 0)), (2, .int (nI 0)), (0, .ref h), (1, .int x)]) rfl ?_
  have L4 : ∀ (fL4 : Nat) (i : Nat) (v : Int32), (i ≤ 6) → (v = sumTo (fun p => if pl r p = x then weepS r p else nI 0) i) → 6 - i < fL4 → V 4 [(3, .int (nI i)), (2, .int v), (0, .ref h), (1, .int x)] [] [ydW Γ h a r] := by
    intro fL4
    induction fL4 with
    | zero => intro i v hi hv hf; exact absurd hf (Nat.not_lt_zero _)
    | succ fL4 ih_L4 =>
      intro i v hi hv hfL4
      refine r_iload_n K dX0_weepingAt_4 0 rfl ?_
      refine r_bipush K dX0_weepingAt_5 (nI 6) (by decide) ?_
      refine r_ic_geN K dX0_weepingAt_7 (by omega) (by omega) (fun c7 => ?_) (fun c7 => ?_)
      · obtain rfl : i = 6 := by omega
        refine r_iload_n K dX0_weepingAt_34 1 rfl ?_
        exact hR () dX0_weepingAt_35 (trivial) (e_ri (hv.symm)) (weq.rf)
      · refine r_ws K (ws1 := [eO h 0 [.ref (a 0), .ref (a 1), .ref (a 2), .ref (a 3), .ref (a 4), .ref (a 5), .ref (a 6), .int (nI (nG r)), .int (nI (nM r)), .int (r 2)], eI Γ (a 0) 5 (fun gg => r (iG gg 0)), eI Γ (a 1) 5 (fun gg => r (iG gg 1)), eI Γ (a 2) 5 (fun gg => r (iG gg 2)), eI Γ (a 3) 6 (fun pp => r (iM pp 0)), eI Γ (a 4) 6 (fun pp => r (iM pp 1)), eI Γ (a 5) 6 (fun pp => r (iM pp 2)), eI Γ (a 6) 6 (fun pp => pl r pp)]) (yd_u r) ?_
        refine r_aload_n K dX0_weepingAt_10 2 rfl ?_
        refine r_get K dX0_weepingAt_11 (kf := 6) 0 rfl rfl hinX0 (by decide) q35 rfl rfl ?_
        refine r_iload_n K dX0_weepingAt_14 0 rfl ?_
        refine r_aldN K dX0_weepingAt_15 7 rfl (by first | omega | exact iG_lt (by omega) (by decide) | exact iM_lt (by omega) (by decide)) (by decide) ?_
        refine r_iload_n K dX0_weepingAt_16 3 rfl ?_
        refine r_ic_ne K dX0_weepingAt_17 (fun c17 => ?_) (fun c17 => ?_)
        · refine r_ws K (ws1 := [ydW Γ h a r]) (yd_f r) ?_
          refine r_iincN K dX0_weepingAt_28 (n := 1) 0 rfl rfl (by decide) (lv1 := [(3, .int (nI (i + 1))), (2, .int v), (0, .ref h), (1, .int x)]) rfl ?_
          refine r_goto K dX0_weepingAt_31 ?_
          exact ih_L4 (i + 1) v (by omega) (by rw [hv]; show _ = sumTo _ i + (if pl r i = x then _ else _); rw [if_neg c17, add0]) (by omega)
        · refine r_ws K (ws1 := [ydW Γ h a r]) (yd_f r) ?_
          have hp : i < nM r := by
            rcases Nat.lt_or_ge i (nM r) with q | q
            · exact q
            · exact absurd (c17.symm.trans (by unfold pl; rw [if_neg (by omega)])) hx
          refine r_iload_n K dX0_weepingAt_20 1 rfl ?_
          refine r_aload_n K dX0_weepingAt_21 2 rfl ?_
          refine r_iload_n K dX0_weepingAt_22 0 rfl ?_
          refine r_cVd K dX0_weepingAt_23 (c_X0_weeps l Γ h a r i (hI) (by first | omega | (simp only [daysS_nM, daysS_nG, dayS_nM, dayS_nG, tellS_nM, tellS_nG, aloneTo_nM, aloneTo_nG, nM_M, nG_M, nM_G, nG_G, lv_nM, lv_nG, gnT_nM, gnT_nG] <;> omega))) mX0_weeps q319 rfl (by decide) rfl rfl 1 rfl [0] [] rfl rfl [] rfl [ydW Γ h a r] rfl rfl rfl [.int v] rfl (Nat.le_of_ble_eq_true rfl) ?_
          refine r_iadd K dX0_weepingAt_26 ?_
          refine r_istore_n K dX0_weepingAt_27 rfl (by decide) (lv1 := [(2, .int (v + (weepS r i))), (3, .int (nI i)), (0, .ref h), (1, .int x)]) rfl ?_
          refine r_iincN K dX0_weepingAt_28 (n := 1) 1 rfl rfl (by decide) (lv1 := [(3, .int (nI (i + 1))), (2, .int (v + (weepS r i))), (0, .ref h), (1, .int x)]) rfl ?_
          refine r_goto K dX0_weepingAt_31 ?_
          exact ih_L4 (i + 1) (v + (weepS r i)) (by omega) (by rw [hv]; show _ = sumTo _ i + (if pl r i = x then _ else _); rw [if_pos c17]) (by omega)
  exact L4 _ 0 (nI 0) (Nat.zero_le 6) (rfl) (Nat.lt_succ_self _)
set_option maxHeartbeats 1000000 in
set_option maxRecDepth 20000 in
theorem c_X0_weepingForInch (l : Launch) (Γ : eG) (h : Nat) (a : Nat → Nat) (r : Nat → Int32) (g : Nat) (hI : Inv r) (hg : g < nG r) : cD l Γ yX0_weepingForInch cX0_weepingForInch 2 (some .int) 2 [.ref h, .int (nI g)] [ydW Γ h a r] (some (.int (r (iG g 0) + nI 1))) [ydW Γ h a r] := by
  refine e_int [(0, .ref h), (1, .int (nI g))] (by decide +kernel) (Nat.le_of_ble_eq_true rfl) rfl (fun V K hR => ?_)
  have h5 := hI.g
  have h6 := hI.m
  refine r_iconst K dX0_weepingForInch_0 (nI 1) (by decide) ?_
  refine r_aload_n K dX0_weepingForInch_1 0 rfl ?_
  refine r_iload_n K dX0_weepingForInch_2 1 rfl ?_
  refine r_cVd K dX0_weepingForInch_3 (c_X0_hardnessN l Γ h a r g (hI) (by first | omega | (simp only [daysS_nM, daysS_nG, dayS_nM, dayS_nG, tellS_nM, tellS_nG, aloneTo_nM, aloneTo_nG, nM_M, nG_M, nM_G, nG_G, lv_nM, lv_nG, gnT_nM, gnT_nG] <;> omega))) mX0_hardness q341 rfl (by decide) rfl rfl 1 rfl [0] [] rfl rfl [] rfl [ydW Γ h a r] rfl rfl rfl [.int (nI 1)] rfl (Nat.le_of_ble_eq_true rfl) ?_
  refine r_iconst K dX0_weepingForInch_6 (nI 1) (by decide) ?_
  refine r_iadd K dX0_weepingForInch_7 ?_
  refine r_mmax K dX0_weepingForInch_8 q281 q193 q194 (Nat.le_of_ble_eq_true rfl) (by decide) ?_
  exact hR () dX0_weepingForInch_11 (trivial) (e_ri ((hd1 (hI.gH (by omega))).symm)) (weq.rf)
set_option maxHeartbeats 1000000 in
set_option maxRecDepth 20000 in
theorem c_X0_soakN (l : Launch) (Γ : eG) (h : Nat) (a : Nat → Nat) (r : Nat → Int32) (g : Nat) (w : Int32) (hg : g < 5) (hh : okN 9 (r (iG g 0))) : cD l Γ yX0_soak cX0_soak 5 (none) 1 [.ref h, .int (nI g), .int w] [ydW Γ h a r] none [ydW Γ h a (soakS r g w)] := by
  refine e_void [(0, .ref h), (1, .int (nI g)), (2, .int w)] (by decide +kernel) (Nat.le_of_ble_eq_true rfl) rfl (fun V K hR => ?_)
  refine r_ws K (ws1 := [eO h 0 [.ref (a 0), .ref (a 1), .ref (a 2), .ref (a 3), .ref (a 4), .ref (a 5), .ref (a 6), .int (nI (nG r)), .int (nI (nM r)), .int (r 2)], eI Γ (a 0) 5 (fun gg => r (iG gg 0)), eI Γ (a 1) 5 (fun gg => r (iG gg 1)), eI Γ (a 2) 5 (fun gg => r (iG gg 2)), eI Γ (a 3) 6 (fun pp => r (iM pp 0)), eI Γ (a 4) 6 (fun pp => r (iM pp 1)), eI Γ (a 5) 6 (fun pp => r (iM pp 2)), eI Γ (a 6) 6 (fun pp => pl r pp)]) (yd_u r) ?_
  refine r_iload_n K dX0_soak_0 1 rfl ?_
  refine r_if_ltN K dX0_soak_1 (by omega) (fun c1 => ?_) (fun c1 => ?_)
  · exact absurd c1 (by omega)
  · refine r_iload_n K dX0_soak_4 1 rfl ?_
    refine r_iconst K dX0_soak_5 (nI 5) (by decide) ?_
    refine r_ic_ltN K dX0_soak_6 (by omega) (by omega) (fun c6 => ?_) (fun c6 => ?_)
    · refine r_aload_n K dX0_soak_10 0 rfl ?_
      refine r_get K dX0_soak_11 (kf := 2) 0 rfl rfl hinX0 (by decide) q31 rfl rfl ?_
      refine r_iload_n K dX0_soak_14 1 rfl ?_
      refine r_aldN K dX0_soak_15 3 rfl (by first | omega | exact iG_lt (by omega) (by decide) | exact iM_lt (by omega) (by decide)) (by decide) ?_
      refine r_iload_n K dX0_soak_16 2 rfl ?_
      refine r_iadd K dX0_soak_17 ?_
      refine r_istore_n K dX0_soak_18 rfl (by decide) (lv1 := [(3, .int ((r (iG g 2)) + w)), (0, .ref h), (1, .int (nI g)), (2, .int w)]) rfl ?_
      refine r_iconst K dX0_soak_19 (nI 1) (by decide) ?_
      refine r_aload_n K dX0_soak_20 1 rfl ?_
      refine r_get K dX0_soak_21 (kf := 0) 0 rfl rfl hinX0 (by decide) q29 rfl rfl ?_
      refine r_iload_n K dX0_soak_24 2 rfl ?_
      refine r_aldN K dX0_soak_25 1 rfl (by first | omega | exact iG_lt (by omega) (by decide) | exact iM_lt (by omega) (by decide)) (by decide) ?_
      refine r_iconst K dX0_soak_26 (nI 1) (by decide) ?_
      refine r_iadd K dX0_soak_27 ?_
      refine r_mmax K dX0_soak_28 q281 q193 q194 (Nat.le_of_ble_eq_true rfl) (by decide) ?_
      refine r_top (y := r (iG g 0) + nI 1) (hd1 hh) ?_
      refine r_istore K dX0_soak_31 (by decide) (lv1 := [(4, .int (r (iG g 0) + nI 1)), (3, .int ((r (iG g 2)) + w)), (0, .ref h), (1, .int (nI g)), (2, .int w)]) rfl ?_
      refine r_aload_n K dX0_soak_33 2 rfl ?_
      refine r_get K dX0_soak_34 (kf := 1) 0 rfl rfl hinX0 (by decide) q30 rfl rfl ?_
      refine r_iload_n K dX0_soak_37 3 rfl ?_
      refine r_sipush K dX0_soak_38 (nI 999) (by decide) ?_
      refine r_aload_n K dX0_soak_41 2 rfl ?_
      refine r_get K dX0_soak_42 (kf := 1) 0 rfl rfl hinX0 (by decide) q30 rfl rfl ?_
      refine r_iload_n K dX0_soak_45 3 rfl ?_
      refine r_aldN K dX0_soak_46 2 rfl (by first | omega | exact iG_lt (by omega) (by decide) | exact iM_lt (by omega) (by decide)) (by decide) ?_
      refine r_iload_n K dX0_soak_47 1 rfl ?_
      refine r_iload K dX0_soak_48 0 rfl ?_
      refine r_idiv K dX0_soak_50 (hd1_ne hh) ?_
      refine r_iadd K dX0_soak_51 ?_
      refine r_mmin K dX0_soak_52 q249 q204 q205 (Nat.le_of_ble_eq_true rfl) (by decide) ?_
      refine r_top (y := mn999 (r (iG g 1) + (r (iG g 2) + w) / (r (iG g 0) + nI 1))) (rfl) ?_
      refine r_astN K dX0_soak_55 (ws1 := [eO h 0 [.ref (a 0), .ref (a 1), .ref (a 2), .ref (a 3), .ref (a 4), .ref (a 5), .ref (a 6), .int (nI (nG r)), .int (nI (nM r)), .int (r 2)], eI Γ (a 0) 5 (fun gg => r (iG gg 0)), eI Γ (a 1) 5 (upd (fun gg => r (iG gg 1)) g (mn999 (r (iG g 1) + (r (iG g 2) + w) / (r (iG g 0) + nI 1)))), eI Γ (a 2) 5 (fun gg => r (iG gg 2)), eI Γ (a 3) 6 (fun pp => r (iM pp 0)), eI Γ (a 4) 6 (fun pp => r (iM pp 1)), eI Γ (a 5) 6 (fun pp => r (iM pp 2)), eI Γ (a 6) 6 (fun pp => pl r pp)]) 2 rfl (by first | omega | exact iG_lt (by omega) (by decide) | exact iM_lt (by omega) (by decide)) (by decide) rfl ?_
      refine r_ws K (ws1 := [ydW Γ h a (upd r (iG g 1) (mn999 (r (iG g 1) + (r (iG g 2) + w) / (r (iG g 0) + nI 1))))]) (yd_G1c hg) ?_
      refine r_ws K (ws1 := [eO h 0 [.ref (a 0), .ref (a 1), .ref (a 2), .ref (a 3), .ref (a 4), .ref (a 5), .ref (a 6), .int (nI (nG (upd r (iG g 1) (mn999 (r (iG g 1) + (r (iG g 2) + w) / (r (iG g 0) + nI 1)))))), .int (nI (nM (upd r (iG g 1) (mn999 (r (iG g 1) + (r (iG g 2) + w) / (r (iG g 0) + nI 1)))))), .int ((upd r (iG g 1) (mn999 (r (iG g 1) + (r (iG g 2) + w) / (r (iG g 0) + nI 1)))) 2)], eI Γ (a 0) 5 (fun gg => (upd r (iG g 1) (mn999 (r (iG g 1) + (r (iG g 2) + w) / (r (iG g 0) + nI 1)))) (iG gg 0)), eI Γ (a 1) 5 (fun gg => (upd r (iG g 1) (mn999 (r (iG g 1) + (r (iG g 2) + w) / (r (iG g 0) + nI 1)))) (iG gg 1)), eI Γ (a 2) 5 (fun gg => (upd r (iG g 1) (mn999 (r (iG g 1) + (r (iG g 2) + w) / (r (iG g 0) + nI 1)))) (iG gg 2)), eI Γ (a 3) 6 (fun pp => (upd r (iG g 1) (mn999 (r (iG g 1) + (r (iG g 2) + w) / (r (iG g 0) + nI 1)))) (iM pp 0)), eI Γ (a 4) 6 (fun pp => (upd r (iG g 1) (mn999 (r (iG g 1) + (r (iG g 2) + w) / (r (iG g 0) + nI 1)))) (iM pp 1)), eI Γ (a 5) 6 (fun pp => (upd r (iG g 1) (mn999 (r (iG g 1) + (r (iG g 2) + w) / (r (iG g 0) + nI 1)))) (iM pp 2)), eI Γ (a 6) 6 (fun pp => pl (upd r (iG g 1) (mn999 (r (iG g 1) + (r (iG g 2) + w) / (r (iG g 0) + nI 1)))) pp)]) (yd_u (upd r (iG g 1) (mn999 (r (iG g 1) + (r (iG g 2) + w) / (r (iG g 0) + nI 1))))) ?_
      refine r_aload_n K dX0_soak_56 2 rfl ?_
      refine r_get K dX0_soak_57 (kf := 2) 0 rfl rfl hinX0 (by decide) q31 rfl rfl ?_
      refine r_iload_n K dX0_soak_60 3 rfl ?_
      refine r_iload_n K dX0_soak_61 1 rfl ?_
      refine r_iload K dX0_soak_62 0 rfl ?_
      refine r_irem K dX0_soak_64 (hd1_ne hh) ?_
      refine r_astN K dX0_soak_65 (ws1 := [eO h 0 [.ref (a 0), .ref (a 1), .ref (a 2), .ref (a 3), .ref (a 4), .ref (a 5), .ref (a 6), .int (nI (nG (upd r (iG g 1) (mn999 (r (iG g 1) + (r (iG g 2) + w) / (r (iG g 0) + nI 1)))))), .int (nI (nM (upd r (iG g 1) (mn999 (r (iG g 1) + (r (iG g 2) + w) / (r (iG g 0) + nI 1)))))), .int ((upd r (iG g 1) (mn999 (r (iG g 1) + (r (iG g 2) + w) / (r (iG g 0) + nI 1)))) 2)], eI Γ (a 0) 5 (fun gg => (upd r (iG g 1) (mn999 (r (iG g 1) + (r (iG g 2) + w) / (r (iG g 0) + nI 1)))) (iG gg 0)), eI Γ (a 1) 5 (fun gg => (upd r (iG g 1) (mn999 (r (iG g 1) + (r (iG g 2) + w) / (r (iG g 0) + nI 1)))) (iG gg 1)), eI Γ (a 2) 5 (upd (fun gg => (upd r (iG g 1) (mn999 (r (iG g 1) + (r (iG g 2) + w) / (r (iG g 0) + nI 1)))) (iG gg 2)) g (((r (iG g 2)) + w) - ((r (iG g 2)) + w) / (r (iG g 0) + nI 1) * (r (iG g 0) + nI 1))), eI Γ (a 3) 6 (fun pp => (upd r (iG g 1) (mn999 (r (iG g 1) + (r (iG g 2) + w) / (r (iG g 0) + nI 1)))) (iM pp 0)), eI Γ (a 4) 6 (fun pp => (upd r (iG g 1) (mn999 (r (iG g 1) + (r (iG g 2) + w) / (r (iG g 0) + nI 1)))) (iM pp 1)), eI Γ (a 5) 6 (fun pp => (upd r (iG g 1) (mn999 (r (iG g 1) + (r (iG g 2) + w) / (r (iG g 0) + nI 1)))) (iM pp 2)), eI Γ (a 6) 6 (fun pp => pl (upd r (iG g 1) (mn999 (r (iG g 1) + (r (iG g 2) + w) / (r (iG g 0) + nI 1)))) pp)]) 3 rfl (by first | omega | exact iG_lt (by omega) (by decide) | exact iM_lt (by omega) (by decide)) (by decide) rfl ?_
      exact hR () dX0_soak_66 (trivial) rfl (yd_G2c hg)
    · exact absurd c6 (by omega)
set_option maxHeartbeats 1000000 in
set_option maxRecDepth 20000 in
theorem c_X0_soakF (l : Launch) (Γ : eG) (h : Nat) (a : Nat → Nat) (r : Nat → Int32) (x : Int32) (w : Int32) (hx : x < 0) : cD l Γ yX0_soak cX0_soak 5 (none) 1 [.ref h, .int x, .int w] [ydW Γ h a r] none [ydW Γ h a r] := by
  refine e_void [(0, .ref h), (1, .int x), (2, .int w)] (by decide +kernel) (Nat.le_of_ble_eq_true rfl) rfl (fun V K hR => ?_)
  refine r_iload_n K dX0_soak_0 1 rfl ?_
  refine r_if_lt K dX0_soak_1 (fun c1 => ?_) (fun c1 => ?_)
  · exact hR () dX0_soak_9 (trivial) rfl (weq.rf)
  · exact absurd hx c1
set_option maxHeartbeats 1000000 in
set_option maxRecDepth 20000 in
theorem c_X0_soak (l : Launch) (Γ : eG) (h : Nat) (a : Nat → Nat) (r : Nat → Int32) (x : Int32) (w : Int32) (hI : Inv r) (hx : x = -9 ∨ ∃ g, g < nG r ∧ x = nI g) : cD l Γ yX0_soak cX0_soak 5 (none) 1 [.ref h, .int x, .int w] [ydW Γ h a r] none [ydW Γ h a (soakX r x w)] := by
  have h5 := hI.g
  rcases hx with hx | ⟨g, hg, rfl⟩
  · have hn : x < 0 := by rw [hx]; exact m9
    rw [soakX_neg hn]
    exact c_X0_soakF l Γ h a r x w hn
  · rw [soakX_N (by omega)]
    exact c_X0_soakN l Γ h a r g w (by omega) (hI.gH (by omega))
set_option maxHeartbeats 1000000 in
set_option maxRecDepth 20000 in
theorem c_X0_fade (l : Launch) (Γ : eG) (h : Nat) (a : Nat → Nat) (r : Nat → Int32) (hI : Inv r) : cD l Γ yX0_fade cX0_fade 2 (none) 1 [.ref h] [ydW Γ h a r] none [ydW Γ h a (fadeTo r 6)] := by
  refine e_void [(0, .ref h)] (by decide +kernel) (Nat.le_of_ble_eq_true rfl) rfl (fun V K hR => ?_)
  have h5 := hI.g
  have h6 := hI.m
  refine r_ws K (ws1 := [eO h 0 [.ref (a 0), .ref (a 1), .ref (a 2), .ref (a 3), .ref (a 4), .ref (a 5), .ref (a 6), .int (nI (nG r)), .int (nI (nM r)), .int (r 2)], eI Γ (a 0) 5 (fun gg => r (iG gg 0)), eI Γ (a 1) 5 (fun gg => r (iG gg 1)), eI Γ (a 2) 5 (fun gg => r (iG gg 2)), eI Γ (a 3) 6 (fun pp => r (iM pp 0)), eI Γ (a 4) 6 (fun pp => r (iM pp 1)), eI Γ (a 5) 6 (fun pp => r (iM pp 2)), eI Γ (a 6) 6 (fun pp => pl r pp)]) (yd_u r) ?_
  refine r_iconst K dX0_fade_0 (nI 0) (by decide) ?_
  refine r_istore_n K dX0_fade_1 rfl (by decide) (lv1 := [(1, .int (nI 0)), (0, .ref h)]) rfl ?_
  have L2 : ∀ (fL2 : Nat) (i : Nat), (i ≤ 6) → 6 - i < fL2 → V 2 [(1, .int (nI i)), (0, .ref h)] [] [eO h 0 [.ref (a 0), .ref (a 1), .ref (a 2), .ref (a 3), .ref (a 4), .ref (a 5), .ref (a 6), .int (nI (nG (fadeTo r i))), .int (nI (nM (fadeTo r i))), .int ((fadeTo r i) 2)], eI Γ (a 0) 5 (fun gg => (fadeTo r i) (iG gg 0)), eI Γ (a 1) 5 (fun gg => (fadeTo r i) (iG gg 1)), eI Γ (a 2) 5 (fun gg => (fadeTo r i) (iG gg 2)), eI Γ (a 3) 6 (fun pp => (fadeTo r i) (iM pp 0)), eI Γ (a 4) 6 (fun pp => (fadeTo r i) (iM pp 1)), eI Γ (a 5) 6 (fun pp => (fadeTo r i) (iM pp 2)), eI Γ (a 6) 6 (fun pp => pl (fadeTo r i) pp)] := by
    intro fL2
    induction fL2 with
    | zero => intro i hi hf; exact absurd hf (Nat.not_lt_zero _)
    | succ fL2 ih_L2 =>
      intro i hi hfL2
      refine r_iload_n K dX0_fade_2 0 rfl ?_
      refine r_bipush K dX0_fade_3 (nI 6) (by decide) ?_
      refine r_ic_geN K dX0_fade_5 (by omega) (by omega) (fun c5 => ?_) (fun c5 => ?_)
      · obtain rfl : i = 6 := by omega
        exact hR () dX0_fade_40 (trivial) rfl (yd_f (fadeTo r 6))
      · refine r_aload_n K dX0_fade_8 1 rfl ?_
        refine r_get K dX0_fade_9 (kf := 5) 0 rfl rfl hinX0 (by decide) q34 rfl rfl ?_
        refine r_iload_n K dX0_fade_12 0 rfl ?_
        refine r_iconst K dX0_fade_13 (nI 0) (by decide) ?_
        refine r_aload_n K dX0_fade_14 1 rfl ?_
        refine r_get K dX0_fade_15 (kf := 5) 0 rfl rfl hinX0 (by decide) q34 rfl rfl ?_
        refine r_iload_n K dX0_fade_18 0 rfl ?_
        refine r_aldN K dX0_fade_19 6 rfl (by first | omega | exact iG_lt (by omega) (by decide) | exact iM_lt (by omega) (by decide)) (by decide) ?_
        refine r_aload_n K dX0_fade_20 1 rfl ?_
        refine r_get K dX0_fade_21 (kf := 3) 0 rfl rfl hinX0 (by decide) q32 rfl rfl ?_
        refine r_iload_n K dX0_fade_24 0 rfl ?_
        refine r_aldN K dX0_fade_25 4 rfl (by first | omega | exact iG_lt (by omega) (by decide) | exact iM_lt (by omega) (by decide)) (by decide) ?_
        refine r_cSd K dX0_fade_26 (c_X2_fading l Γ ((fadeTo r i) (iM i 0))) mX2_fading q286 rfl (by decide) 8 rfl [] [0, 1, 2, 3, 4, 5, 6, 7] rfl rfl [eO h 0 [.ref (a 0), .ref (a 1), .ref (a 2), .ref (a 3), .ref (a 4), .ref (a 5), .ref (a 6), .int (nI (nG (fadeTo r i))), .int (nI (nM (fadeTo r i))), .int ((fadeTo r i) 2)], eI Γ (a 0) 5 (fun gg => (fadeTo r i) (iG gg 0)), eI Γ (a 1) 5 (fun gg => (fadeTo r i) (iG gg 1)), eI Γ (a 2) 5 (fun gg => (fadeTo r i) (iG gg 2)), eI Γ (a 3) 6 (fun pp => (fadeTo r i) (iM pp 0)), eI Γ (a 4) 6 (fun pp => (fadeTo r i) (iM pp 1)), eI Γ (a 5) 6 (fun pp => (fadeTo r i) (iM pp 2)), eI Γ (a 6) 6 (fun pp => pl (fadeTo r i) pp)] rfl [eO h 0 [.ref (a 0), .ref (a 1), .ref (a 2), .ref (a 3), .ref (a 4), .ref (a 5), .ref (a 6), .int (nI (nG (fadeTo r i))), .int (nI (nM (fadeTo r i))), .int ((fadeTo r i) 2)], eI Γ (a 0) 5 (fun gg => (fadeTo r i) (iG gg 0)), eI Γ (a 1) 5 (fun gg => (fadeTo r i) (iG gg 1)), eI Γ (a 2) 5 (fun gg => (fadeTo r i) (iG gg 2)), eI Γ (a 3) 6 (fun pp => (fadeTo r i) (iM pp 0)), eI Γ (a 4) 6 (fun pp => (fadeTo r i) (iM pp 1)), eI Γ (a 5) 6 (fun pp => (fadeTo r i) (iM pp 2)), eI Γ (a 6) 6 (fun pp => pl (fadeTo r i) pp)] rfl rfl rfl [.int ((fadeTo r i) (iM i 2)), .int (nI 0), .int (nI i), .ref (a 5)] rfl (Nat.le_of_ble_eq_true rfl) ?_
        refine r_isub K dX0_fade_29 ?_
        refine r_mmax K dX0_fade_30 q281 q193 q194 (Nat.le_of_ble_eq_true rfl) (by decide) ?_
        refine r_top (y := mx0 (fadeTo r i (iM i 2) - fadeK (fadeTo r i (iM i 0)))) (mx0_eq _) ?_
        refine r_astN K dX0_fade_33 (ws1 := [eO h 0 [.ref (a 0), .ref (a 1), .ref (a 2), .ref (a 3), .ref (a 4), .ref (a 5), .ref (a 6), .int (nI (nG (fadeTo r i))), .int (nI (nM (fadeTo r i))), .int ((fadeTo r i) 2)], eI Γ (a 0) 5 (fun gg => (fadeTo r i) (iG gg 0)), eI Γ (a 1) 5 (fun gg => (fadeTo r i) (iG gg 1)), eI Γ (a 2) 5 (fun gg => (fadeTo r i) (iG gg 2)), eI Γ (a 3) 6 (fun pp => (fadeTo r i) (iM pp 0)), eI Γ (a 4) 6 (fun pp => (fadeTo r i) (iM pp 1)), eI Γ (a 5) 6 (upd (fun pp => (fadeTo r i) (iM pp 2)) i (mx0 (fadeTo r i (iM i 2) - fadeK (fadeTo r i (iM i 0))))), eI Γ (a 6) 6 (fun pp => pl (fadeTo r i) pp)]) 6 rfl (by first | omega | exact iG_lt (by omega) (by decide) | exact iM_lt (by omega) (by decide)) (by decide) rfl ?_
        refine r_ws K (ws1 := [ydW Γ h a (fadeTo r (i + 1))]) (by rw [fadeTo_s]; exact yd_M2c) ?_
        refine r_ws K (ws1 := [eO h 0 [.ref (a 0), .ref (a 1), .ref (a 2), .ref (a 3), .ref (a 4), .ref (a 5), .ref (a 6), .int (nI (nG (fadeTo r (i + 1)))), .int (nI (nM (fadeTo r (i + 1)))), .int ((fadeTo r (i + 1)) 2)], eI Γ (a 0) 5 (fun gg => (fadeTo r (i + 1)) (iG gg 0)), eI Γ (a 1) 5 (fun gg => (fadeTo r (i + 1)) (iG gg 1)), eI Γ (a 2) 5 (fun gg => (fadeTo r (i + 1)) (iG gg 2)), eI Γ (a 3) 6 (fun pp => (fadeTo r (i + 1)) (iM pp 0)), eI Γ (a 4) 6 (fun pp => (fadeTo r (i + 1)) (iM pp 1)), eI Γ (a 5) 6 (fun pp => (fadeTo r (i + 1)) (iM pp 2)), eI Γ (a 6) 6 (fun pp => pl (fadeTo r (i + 1)) pp)]) (yd_u (fadeTo r (i + 1))) ?_
        refine r_iincN K dX0_fade_34 (n := 1) 0 rfl rfl (by decide) (lv1 := [(1, .int (nI (i + 1))), (0, .ref h)]) rfl ?_
        refine r_goto K dX0_fade_37 ?_
        exact ih_L2 (i + 1) (by omega) (by omega)
  exact L2 _ 0 (Nat.zero_le 6) (Nat.lt_succ_self _)
set_option maxHeartbeats 1000000 in
set_option maxRecDepth 20000 in
theorem c_X0_passDay (l : Launch) (Γ : eG) (h : Nat) (a : Nat → Nat) (r : Nat → Int32) (hI : Inv r) : cD l Γ yX0_passDay cX0_passDay 2 (none) 2 [.ref h] [ydW Γ h a r] none [ydW Γ h a (dayS r)] := by
  refine e_void [(0, .ref h)] (by decide +kernel) (Nat.le_of_ble_eq_true rfl) rfl (fun V K hR => ?_)
  have h5 := hI.g
  have h6 := hI.m
  refine r_ws K (ws1 := [eO h 0 [.ref (a 0), .ref (a 1), .ref (a 2), .ref (a 3), .ref (a 4), .ref (a 5), .ref (a 6), .int (nI (nG r)), .int (nI (nM r)), .int (r 2)], eI Γ (a 0) 5 (fun gg => r (iG gg 0)), eI Γ (a 1) 5 (fun gg => r (iG gg 1)), eI Γ (a 2) 5 (fun gg => r (iG gg 2)), eI Γ (a 3) 6 (fun pp => r (iM pp 0)), eI Γ (a 4) 6 (fun pp => r (iM pp 1)), eI Γ (a 5) 6 (fun pp => r (iM pp 2)), eI Γ (a 6) 6 (fun pp => pl r pp)]) (yd_u r) ?_
  refine r_aload_n K dX0_passDay_0 0 rfl ?_
  refine r_dup K dX0_passDay_1 rfl ?_
  refine r_get K dX0_passDay_2 (kf := 9) 0 rfl rfl hinX0 (by decide) q38 rfl rfl ?_
  refine r_iconst K dX0_passDay_5 (nI 1) (by decide) ?_
  refine r_iadd K dX0_passDay_6 ?_
  refine r_put K dX0_passDay_7 (kf := 9) (ty := .int) (ws1 := [eO h 0 [.ref (a 0), .ref (a 1), .ref (a 2), .ref (a 3), .ref (a 4), .ref (a 5), .ref (a 6), .int (nI (nG r)), .int (nI (nM r)), .int ((r 2) + (nI 1))], eI Γ (a 0) 5 (fun gg => r (iG gg 0)), eI Γ (a 1) 5 (fun gg => r (iG gg 1)), eI Γ (a 2) 5 (fun gg => r (iG gg 2)), eI Γ (a 3) 6 (fun pp => r (iM pp 0)), eI Γ (a 4) 6 (fun pp => r (iM pp 1)), eI Γ (a 5) 6 (fun pp => r (iM pp 2)), eI Γ (a 6) 6 (fun pp => pl r pp)]) 0 rfl rfl hinX0 tyX0 tyX0_ok nmX0 (by decide) q38 rfl (by decide +kernel) rfl rfl (Nat.le_of_ble_eq_true rfl) rfl ?_
  refine r_ws K (ws1 := [ydW Γ h a (upd r 2 (r 2 + nI 1))]) (yd_2c) ?_
  refine r_iconst K dX0_passDay_10 (nI 0) (by decide) ?_
  refine r_istore_n K dX0_passDay_11 rfl (by decide) (lv1 := [(1, .int (nI 0)), (0, .ref h)]) rfl ?_
  have L12 : ∀ (fL12 : Nat) (i : Nat), (i ≤ 6) → 6 - i < fL12 → V 12 [(1, .int (nI i)), (0, .ref h)] [] [ydW Γ h a (soakTo (upd r 2 (r 2 + nI 1)) i)] := by
    intro fL12
    induction fL12 with
    | zero => intro i hi hf; exact absurd hf (Nat.not_lt_zero _)
    | succ fL12 ih_L12 =>
      intro i hi hfL12
      refine r_iload_n K dX0_passDay_12 0 rfl ?_
      refine r_bipush K dX0_passDay_13 (nI 6) (by decide) ?_
      refine r_ic_geN K dX0_passDay_15 (by omega) (by omega) (fun c15 => ?_) (fun c15 => ?_)
      · obtain rfl : i = 6 := by omega
        refine r_aload_n K dX0_passDay_55 1 rfl ?_
        refine r_cVn K dX0_passDay_56 (c_X0_fade l Γ h a (soakTo (upd r 2 (r 2 + nI 1)) 6) (Inv_soakTo (Inv_2 hI) 6 (Nat.le_refl 6))) mX0_fade q282 rfl (by decide) rfl rfl 1 rfl [0] [] rfl rfl [] rfl [ydW Γ h a (fadeTo (soakTo (upd r 2 (r 2 + nI 1)) 6) 6)] rfl rfl rfl [] rfl (Nat.le_of_ble_eq_true rfl) ?_
        exact hR () dX0_passDay_59 (trivial) rfl (by rw [dayS_e]; exact weq.rf)
      · refine r_ws K (ws1 := [eO h 0 [.ref (a 0), .ref (a 1), .ref (a 2), .ref (a 3), .ref (a 4), .ref (a 5), .ref (a 6), .int (nI (nG (soakTo (upd r 2 (r 2 + nI 1)) i))), .int (nI (nM (soakTo (upd r 2 (r 2 + nI 1)) i))), .int ((soakTo (upd r 2 (r 2 + nI 1)) i) 2)], eI Γ (a 0) 5 (fun gg => (soakTo (upd r 2 (r 2 + nI 1)) i) (iG gg 0)), eI Γ (a 1) 5 (fun gg => (soakTo (upd r 2 (r 2 + nI 1)) i) (iG gg 1)), eI Γ (a 2) 5 (fun gg => (soakTo (upd r 2 (r 2 + nI 1)) i) (iG gg 2)), eI Γ (a 3) 6 (fun pp => (soakTo (upd r 2 (r 2 + nI 1)) i) (iM pp 0)), eI Γ (a 4) 6 (fun pp => (soakTo (upd r 2 (r 2 + nI 1)) i) (iM pp 1)), eI Γ (a 5) 6 (fun pp => (soakTo (upd r 2 (r 2 + nI 1)) i) (iM pp 2)), eI Γ (a 6) 6 (fun pp => pl (soakTo (upd r 2 (r 2 + nI 1)) i) pp)]) (yd_u (soakTo (upd r 2 (r 2 + nI 1)) i)) ?_
        refine r_aload_n K dX0_passDay_18 1 rfl ?_
        refine r_aload_n K dX0_passDay_19 1 rfl ?_
        refine r_get K dX0_passDay_20 (kf := 6) 0 rfl rfl hinX0 (by decide) q35 rfl rfl ?_
        refine r_iload_n K dX0_passDay_23 0 rfl ?_
        refine r_aldN K dX0_passDay_24 7 rfl (by first | omega | exact iG_lt (by omega) (by decide) | exact iM_lt (by omega) (by decide)) (by decide) ?_
        refine r_aload_n K dX0_passDay_25 1 rfl ?_
        refine r_get K dX0_passDay_26 (kf := 3) 0 rfl rfl hinX0 (by decide) q32 rfl rfl ?_
        refine r_iload_n K dX0_passDay_29 0 rfl ?_
        refine r_aldN K dX0_passDay_30 4 rfl (by first | omega | exact iG_lt (by omega) (by decide) | exact iM_lt (by omega) (by decide)) (by decide) ?_
        refine r_aload_n K dX0_passDay_31 1 rfl ?_
        refine r_get K dX0_passDay_32 (kf := 4) 0 rfl rfl hinX0 (by decide) q33 rfl rfl ?_
        refine r_iload_n K dX0_passDay_35 0 rfl ?_
        refine r_aldN K dX0_passDay_36 5 rfl (by first | omega | exact iG_lt (by omega) (by decide) | exact iM_lt (by omega) (by decide)) (by decide) ?_
        refine r_aload_n K dX0_passDay_37 1 rfl ?_
        refine r_get K dX0_passDay_38 (kf := 5) 0 rfl rfl hinX0 (by decide) q34 rfl rfl ?_
        refine r_iload_n K dX0_passDay_41 0 rfl ?_
        refine r_aldN K dX0_passDay_42 6 rfl (by first | omega | exact iG_lt (by omega) (by decide) | exact iM_lt (by omega) (by decide)) (by decide) ?_
        refine r_cSd K dX0_passDay_43 (c_X2_weeping l Γ ((soakTo (upd r 2 (r 2 + nI 1)) i) (iM i 0)) ((soakTo (upd r 2 (r 2 + nI 1)) i) (iM i 1)) ((soakTo (upd r 2 (r 2 + nI 1)) i) (iM i 2))) mX2_weeping q274 rfl (by decide) 8 rfl [] [0, 1, 2, 3, 4, 5, 6, 7] rfl rfl [eO h 0 [.ref (a 0), .ref (a 1), .ref (a 2), .ref (a 3), .ref (a 4), .ref (a 5), .ref (a 6), .int (nI (nG (soakTo (upd r 2 (r 2 + nI 1)) i))), .int (nI (nM (soakTo (upd r 2 (r 2 + nI 1)) i))), .int ((soakTo (upd r 2 (r 2 + nI 1)) i) 2)], eI Γ (a 0) 5 (fun gg => (soakTo (upd r 2 (r 2 + nI 1)) i) (iG gg 0)), eI Γ (a 1) 5 (fun gg => (soakTo (upd r 2 (r 2 + nI 1)) i) (iG gg 1)), eI Γ (a 2) 5 (fun gg => (soakTo (upd r 2 (r 2 + nI 1)) i) (iG gg 2)), eI Γ (a 3) 6 (fun pp => (soakTo (upd r 2 (r 2 + nI 1)) i) (iM pp 0)), eI Γ (a 4) 6 (fun pp => (soakTo (upd r 2 (r 2 + nI 1)) i) (iM pp 1)), eI Γ (a 5) 6 (fun pp => (soakTo (upd r 2 (r 2 + nI 1)) i) (iM pp 2)), eI Γ (a 6) 6 (fun pp => pl (soakTo (upd r 2 (r 2 + nI 1)) i) pp)] rfl [eO h 0 [.ref (a 0), .ref (a 1), .ref (a 2), .ref (a 3), .ref (a 4), .ref (a 5), .ref (a 6), .int (nI (nG (soakTo (upd r 2 (r 2 + nI 1)) i))), .int (nI (nM (soakTo (upd r 2 (r 2 + nI 1)) i))), .int ((soakTo (upd r 2 (r 2 + nI 1)) i) 2)], eI Γ (a 0) 5 (fun gg => (soakTo (upd r 2 (r 2 + nI 1)) i) (iG gg 0)), eI Γ (a 1) 5 (fun gg => (soakTo (upd r 2 (r 2 + nI 1)) i) (iG gg 1)), eI Γ (a 2) 5 (fun gg => (soakTo (upd r 2 (r 2 + nI 1)) i) (iG gg 2)), eI Γ (a 3) 6 (fun pp => (soakTo (upd r 2 (r 2 + nI 1)) i) (iM pp 0)), eI Γ (a 4) 6 (fun pp => (soakTo (upd r 2 (r 2 + nI 1)) i) (iM pp 1)), eI Γ (a 5) 6 (fun pp => (soakTo (upd r 2 (r 2 + nI 1)) i) (iM pp 2)), eI Γ (a 6) 6 (fun pp => pl (soakTo (upd r 2 (r 2 + nI 1)) i) pp)] rfl rfl rfl [.int (pl (soakTo (upd r 2 (r 2 + nI 1)) i) i), .ref h] rfl (Nat.le_of_ble_eq_true rfl) ?_
        refine r_ws K (ws1 := [ydW Γ h a (soakTo (upd r 2 (r 2 + nI 1)) i)]) (yd_f (soakTo (upd r 2 (r 2 + nI 1)) i)) ?_
        refine r_cVn K dX0_passDay_46 (c_X0_soak l Γ h a (soakTo (upd r 2 (r 2 + nI 1)) i) (pl (soakTo (upd r 2 (r 2 + nI 1)) i) i) (weepK ((soakTo (upd r 2 (r 2 + nI 1)) i) (iM i 0)) ((soakTo (upd r 2 (r 2 + nI 1)) i) (iM i 1)) ((soakTo (upd r 2 (r 2 + nI 1)) i) (iM i 2))) (Inv_soakTo (Inv_2 hI) i (by omega)) ((Inv_soakTo (Inv_2 hI) i (by omega)).at i)) mX0_soak q277 rfl (by decide) rfl rfl 1 rfl [0] [] rfl rfl [] rfl [ydW Γ h a (soakX (soakTo (upd r 2 (r 2 + nI 1)) i) (pl (soakTo (upd r 2 (r 2 + nI 1)) i) i) (weepK ((soakTo (upd r 2 (r 2 + nI 1)) i) (iM i 0)) ((soakTo (upd r 2 (r 2 + nI 1)) i) (iM i 1)) ((soakTo (upd r 2 (r 2 + nI 1)) i) (iM i 2))))] rfl rfl rfl [] rfl (Nat.le_of_ble_eq_true rfl) ?_
        refine r_ws K (ws1 := [ydW Γ h a (soakTo (upd r 2 (r 2 + nI 1)) (i + 1))]) (by rw [soakTo_s]; exact weq.rf) ?_
        refine r_iincN K dX0_passDay_49 (n := 1) 0 rfl rfl (by decide) (lv1 := [(1, .int (nI (i + 1))), (0, .ref h)]) rfl ?_
        refine r_goto K dX0_passDay_52 ?_
        exact ih_L12 (i + 1) (by omega) (by omega)
  exact L12 _ 0 (Nat.zero_le 6) (Nat.lt_succ_self _)
set_option maxHeartbeats 1000000 in
set_option maxRecDepth 20000 in
theorem c_X0_passDays (l : Launch) (Γ : eG) (h : Nat) (a : Nat → Nat) (r : Nat → Int32) (n : Nat) (hI : Inv r) (hn : n < 2 ^ 31) : cD l Γ yX0_passDays cX0_passDays 3 (none) 3 [.ref h, .int (nI n)] [ydW Γ h a r] none [ydW Γ h a (daysS r n)] := by
  refine e_void [(0, .ref h), (1, .int (nI n))] (by decide +kernel) (Nat.le_of_ble_eq_true rfl) rfl (fun V K hR => ?_)
  have h5 := hI.g
  have h6 := hI.m
  refine r_iconst K dX0_passDays_0 (nI 0) (by decide) ?_
  refine r_istore_n K dX0_passDays_1 rfl (by decide) (lv1 := [(2, .int (nI 0)), (0, .ref h), (1, .int (nI n))]) rfl ?_
  have L2 : ∀ (fL2 : Nat) (i : Nat), (i ≤ n) → n - i < fL2 → V 2 [(2, .int (nI i)), (0, .ref h), (1, .int (nI n))] [] [ydW Γ h a (daysS r i)] := by
    intro fL2
    induction fL2 with
    | zero => intro i hi hf; exact absurd hf (Nat.not_lt_zero _)
    | succ fL2 ih_L2 =>
      intro i hi hfL2
      refine r_iload_n K dX0_passDays_2 0 rfl ?_
      refine r_iload_n K dX0_passDays_3 2 rfl ?_
      refine r_ic_geN K dX0_passDays_4 (by omega) (by omega) (fun c4 => ?_) (fun c4 => ?_)
      · obtain rfl : n = i := by omega
        exact hR () dX0_passDays_17 (trivial) rfl (weq.rf)
      · refine r_aload_n K dX0_passDays_7 1 rfl ?_
        refine r_cVn K dX0_passDays_8 (c_X0_passDay l Γ h a (daysS r i) (Inv_daysS hI i)) mX0_passDay q270 rfl (by decide) rfl rfl 1 rfl [0] [] rfl rfl [] rfl [ydW Γ h a (dayS (daysS r i))] rfl rfl rfl [] rfl (Nat.le_of_ble_eq_true rfl) ?_
        refine r_ws K (ws1 := [ydW Γ h a (daysS r (i + 1))]) (by rw [daysS_s]; exact weq.rf) ?_
        refine r_iincN K dX0_passDays_11 (n := 1) 0 rfl rfl (by decide) (lv1 := [(2, .int (nI (i + 1))), (0, .ref h), (1, .int (nI n))]) rfl ?_
        refine r_goto K dX0_passDays_14 ?_
        exact ih_L2 (i + 1) (by omega) (by omega)
  exact L2 _ 0 (Nat.zero_le n) (Nat.lt_succ_self _)
