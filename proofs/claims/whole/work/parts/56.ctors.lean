/-! CONSTRUCTORS -/
theorem hfs_X0 : ∀ j, j < 10 → defaultValue (tyX0 j) = vp_V [.null, .null, .null, .null, .null, .null, .null, .int (nI 0), .int (nI 0), .int (nI 0)] j := by
  intro j hj
  have hz : j = 0 ∨ j = 1 ∨ j = 2 ∨ j = 3 ∨ j = 4 ∨ j = 5 ∨ j = 6 ∨ j = 7 ∨ j = 8 ∨ j = 9 := by omega
  rcases hz with rfl | rfl | rfl | rfl | rfl | rfl | rfl | rfl | rfl | rfl <;> rfl
theorem hfs_X3 : ∀ j, j < 2 → defaultValue (tyX3 j) = vp_V [.null, .int (nI 0)] j := by
  intro j hj
  have hz : j = 0 ∨ j = 1 := by omega
  rcases hz with rfl | rfl <;> rfl
theorem hfs_X4 : ∀ j, j < 4 → defaultValue (tyX4 j) = vp_V [.null, .null, .null, .int (nI 0)] j := by
  intro j hj
  have hz : j = 0 ∨ j = 1 ∨ j = 2 ∨ j = 3 := by omega
  rcases hz with rfl | rfl | rfl | rfl <;> rfl
theorem hfs_X5 : ∀ j, j < 4 → defaultValue (tyX5 j) = vp_V [.null, .null, .null, .int (nI 0)] j := by
  intro j hj
  have hz : j = 0 ∨ j = 1 ∨ j = 2 ∨ j = 3 := by omega
  rcases hz with rfl | rfl | rfl | rfl <;> rfl
theorem hfs_X6 : ∀ j, j < 10 → defaultValue (tyX6 j) = vp_V [.null, .null, .null, .null, .null, .null, .null, .null, .int (nI 0), .int (nI 0)] j := by
  intro j hj
  have hz : j = 0 ∨ j = 1 ∨ j = 2 ∨ j = 3 ∨ j = 4 ∨ j = 5 ∨ j = 6 ∨ j = 7 ∨ j = 8 ∨ j = 9 := by omega
  rcases hz with rfl | rfl | rfl | rfl | rfl | rfl | rfl | rfl | rfl | rfl <;> rfl
theorem hfs_X7 : ∀ j, j < 17 → defaultValue (tyX7 j) = vp_V [.null, .null, .null, .null, .int (nI 0), .null, .null, .null, .int (nI 0), .int (nI 0), .int (nI 0), .null, .null, .null, .null, .int (nI 0), .int (nI 0)] j := by
  intro j hj
  have hz : j = 0 ∨ j = 1 ∨ j = 2 ∨ j = 3 ∨ j = 4 ∨ j = 5 ∨ j = 6 ∨ j = 7 ∨ j = 8 ∨ j = 9 ∨ j = 10 ∨ j = 11 ∨ j = 12 ∨ j = 13 ∨ j = 14 ∨ j = 15 ∨ j = 16 := by omega
  rcases hz with rfl | rfl | rfl | rfl | rfl | rfl | rfl | rfl | rfl | rfl | rfl | rfl | rfl | rfl | rfl | rfl | rfl <;> rfl
set_option maxHeartbeats 1000000 in
set_option maxRecDepth 20000 in
theorem c_X0_init (l : Launch) (Γ : eG) (h : Nat) : cN l Γ yX0_init cX0_init 1 1 7 39 [.ref h] [eO h 0 [.null, .null, .null, .null, .null, .null, .null, .int (nI 0), .int (nI 0), .int (nI 0)]] (S := Nat → Nat) (fun u => [ydW Γ h u z0]) := by
  refine e_ctor [(0, .ref h)] (by decide +kernel) rfl (Nat.le_of_ble_eq_true rfl) rfl (fun VV KN hR => ?_)
  have K := KN.K (c := 0) (s := 0) (Nat.le_of_ble_eq_true rfl) (Nat.le_of_ble_eq_true rfl)
  refine r_aload_n K dX0_init_0 0 rfl ?_
  refine r_obj K dX0_init_1 q24 q17 q18 (by decide) (Nat.le_of_ble_eq_true rfl) ?_
  refine r_aload_n K dX0_init_4 0 rfl ?_
  refine r_iconst K dX0_init_5 (nI 5) (by decide) ?_
  refine r_newa KN (c := 0) (s := 0) dX0_init_6 q60 (Nat.le_of_ble_eq_true rfl) (Nat.le_of_ble_eq_true rfl) (Nat.le_of_ble_eq_true rfl) (fun nq1 => ?_)
  show VV 1 5 8 [(0, .ref h)] [.ref nq1, .ref h] [eO h 0 [.null, .null, .null, .null, .null, .null, .null, .int (nI 0), .int (nI 0), .int (nI 0)], eI Γ nq1 5 z0]
  have K := KN.K (c := 1) (s := 5) (Nat.le_of_ble_eq_true rfl) (Nat.le_of_ble_eq_true rfl)
  refine r_putF KN dX0_init_8 (kf := 0) (ws1 := [eO h 0 [.ref nq1, .null, .null, .null, .null, .null, .null, .int (nI 0), .int (nI 0), .int (nI 0)], eI Γ nq1 5 z0]) 0 rfl rfl hinX0 tyX0 tyX0_ok nmX0 (by decide) q29 rfl rfl rfl (Nat.le_of_ble_eq_true rfl) rfl ?_
  refine r_aload_n K dX0_init_11 0 rfl ?_
  refine r_iconst K dX0_init_12 (nI 5) (by decide) ?_
  refine r_newa KN (c := 1) (s := 5) dX0_init_13 q60 (Nat.le_of_ble_eq_true rfl) (Nat.le_of_ble_eq_true rfl) (Nat.le_of_ble_eq_true rfl) (fun nq2 => ?_)
  show VV 2 10 15 [(0, .ref h)] [.ref nq2, .ref h] [eO h 0 [.ref nq1, .null, .null, .null, .null, .null, .null, .int (nI 0), .int (nI 0), .int (nI 0)], eI Γ nq1 5 z0, eI Γ nq2 5 z0]
  have K := KN.K (c := 2) (s := 10) (Nat.le_of_ble_eq_true rfl) (Nat.le_of_ble_eq_true rfl)
  refine r_putF KN dX0_init_15 (kf := 1) (ws1 := [eO h 0 [.ref nq1, .ref nq2, .null, .null, .null, .null, .null, .int (nI 0), .int (nI 0), .int (nI 0)], eI Γ nq1 5 z0, eI Γ nq2 5 z0]) 0 rfl rfl hinX0 tyX0 tyX0_ok nmX0 (by decide) q30 rfl rfl rfl (Nat.le_of_ble_eq_true rfl) rfl ?_
  refine r_aload_n K dX0_init_18 0 rfl ?_
  refine r_iconst K dX0_init_19 (nI 5) (by decide) ?_
  refine r_newa KN (c := 2) (s := 10) dX0_init_20 q60 (Nat.le_of_ble_eq_true rfl) (Nat.le_of_ble_eq_true rfl) (Nat.le_of_ble_eq_true rfl) (fun nq3 => ?_)
  show VV 3 15 22 [(0, .ref h)] [.ref nq3, .ref h] [eO h 0 [.ref nq1, .ref nq2, .null, .null, .null, .null, .null, .int (nI 0), .int (nI 0), .int (nI 0)], eI Γ nq1 5 z0, eI Γ nq2 5 z0, eI Γ nq3 5 z0]
  have K := KN.K (c := 3) (s := 15) (Nat.le_of_ble_eq_true rfl) (Nat.le_of_ble_eq_true rfl)
  refine r_putF KN dX0_init_22 (kf := 2) (ws1 := [eO h 0 [.ref nq1, .ref nq2, .ref nq3, .null, .null, .null, .null, .int (nI 0), .int (nI 0), .int (nI 0)], eI Γ nq1 5 z0, eI Γ nq2 5 z0, eI Γ nq3 5 z0]) 0 rfl rfl hinX0 tyX0 tyX0_ok nmX0 (by decide) q31 rfl rfl rfl (Nat.le_of_ble_eq_true rfl) rfl ?_
  refine r_aload_n K dX0_init_25 0 rfl ?_
  refine r_bipush K dX0_init_26 (nI 6) (by decide) ?_
  refine r_newa KN (c := 3) (s := 15) dX0_init_28 q60 (Nat.le_of_ble_eq_true rfl) (Nat.le_of_ble_eq_true rfl) (Nat.le_of_ble_eq_true rfl) (fun nq4 => ?_)
  show VV 4 21 30 [(0, .ref h)] [.ref nq4, .ref h] [eO h 0 [.ref nq1, .ref nq2, .ref nq3, .null, .null, .null, .null, .int (nI 0), .int (nI 0), .int (nI 0)], eI Γ nq1 5 z0, eI Γ nq2 5 z0, eI Γ nq3 5 z0, eI Γ nq4 6 z0]
  have K := KN.K (c := 4) (s := 21) (Nat.le_of_ble_eq_true rfl) (Nat.le_of_ble_eq_true rfl)
  refine r_putF KN dX0_init_30 (kf := 3) (ws1 := [eO h 0 [.ref nq1, .ref nq2, .ref nq3, .ref nq4, .null, .null, .null, .int (nI 0), .int (nI 0), .int (nI 0)], eI Γ nq1 5 z0, eI Γ nq2 5 z0, eI Γ nq3 5 z0, eI Γ nq4 6 z0]) 0 rfl rfl hinX0 tyX0 tyX0_ok nmX0 (by decide) q32 rfl rfl rfl (Nat.le_of_ble_eq_true rfl) rfl ?_
  refine r_aload_n K dX0_init_33 0 rfl ?_
  refine r_bipush K dX0_init_34 (nI 6) (by decide) ?_
  refine r_newa KN (c := 4) (s := 21) dX0_init_36 q60 (Nat.le_of_ble_eq_true rfl) (Nat.le_of_ble_eq_true rfl) (Nat.le_of_ble_eq_true rfl) (fun nq5 => ?_)
  show VV 5 27 38 [(0, .ref h)] [.ref nq5, .ref h] [eO h 0 [.ref nq1, .ref nq2, .ref nq3, .ref nq4, .null, .null, .null, .int (nI 0), .int (nI 0), .int (nI 0)], eI Γ nq1 5 z0, eI Γ nq2 5 z0, eI Γ nq3 5 z0, eI Γ nq4 6 z0, eI Γ nq5 6 z0]
  have K := KN.K (c := 5) (s := 27) (Nat.le_of_ble_eq_true rfl) (Nat.le_of_ble_eq_true rfl)
  refine r_putF KN dX0_init_38 (kf := 4) (ws1 := [eO h 0 [.ref nq1, .ref nq2, .ref nq3, .ref nq4, .ref nq5, .null, .null, .int (nI 0), .int (nI 0), .int (nI 0)], eI Γ nq1 5 z0, eI Γ nq2 5 z0, eI Γ nq3 5 z0, eI Γ nq4 6 z0, eI Γ nq5 6 z0]) 0 rfl rfl hinX0 tyX0 tyX0_ok nmX0 (by decide) q33 rfl rfl rfl (Nat.le_of_ble_eq_true rfl) rfl ?_
  refine r_aload_n K dX0_init_41 0 rfl ?_
  refine r_bipush K dX0_init_42 (nI 6) (by decide) ?_
  refine r_newa KN (c := 5) (s := 27) dX0_init_44 q60 (Nat.le_of_ble_eq_true rfl) (Nat.le_of_ble_eq_true rfl) (Nat.le_of_ble_eq_true rfl) (fun nq6 => ?_)
  show VV 6 33 46 [(0, .ref h)] [.ref nq6, .ref h] [eO h 0 [.ref nq1, .ref nq2, .ref nq3, .ref nq4, .ref nq5, .null, .null, .int (nI 0), .int (nI 0), .int (nI 0)], eI Γ nq1 5 z0, eI Γ nq2 5 z0, eI Γ nq3 5 z0, eI Γ nq4 6 z0, eI Γ nq5 6 z0, eI Γ nq6 6 z0]
  have K := KN.K (c := 6) (s := 33) (Nat.le_of_ble_eq_true rfl) (Nat.le_of_ble_eq_true rfl)
  refine r_putF KN dX0_init_46 (kf := 5) (ws1 := [eO h 0 [.ref nq1, .ref nq2, .ref nq3, .ref nq4, .ref nq5, .ref nq6, .null, .int (nI 0), .int (nI 0), .int (nI 0)], eI Γ nq1 5 z0, eI Γ nq2 5 z0, eI Γ nq3 5 z0, eI Γ nq4 6 z0, eI Γ nq5 6 z0, eI Γ nq6 6 z0]) 0 rfl rfl hinX0 tyX0 tyX0_ok nmX0 (by decide) q34 rfl rfl rfl (Nat.le_of_ble_eq_true rfl) rfl ?_
  refine r_aload_n K dX0_init_49 0 rfl ?_
  refine r_bipush K dX0_init_50 (nI 6) (by decide) ?_
  refine r_newa KN (c := 6) (s := 33) dX0_init_52 q60 (Nat.le_of_ble_eq_true rfl) (Nat.le_of_ble_eq_true rfl) (Nat.le_of_ble_eq_true rfl) (fun nq7 => ?_)
  show VV 7 39 54 [(0, .ref h)] [.ref nq7, .ref h] [eO h 0 [.ref nq1, .ref nq2, .ref nq3, .ref nq4, .ref nq5, .ref nq6, .null, .int (nI 0), .int (nI 0), .int (nI 0)], eI Γ nq1 5 z0, eI Γ nq2 5 z0, eI Γ nq3 5 z0, eI Γ nq4 6 z0, eI Γ nq5 6 z0, eI Γ nq6 6 z0, eI Γ nq7 6 z0]
  have K := KN.K (c := 7) (s := 39) (Nat.le_of_ble_eq_true rfl) (Nat.le_of_ble_eq_true rfl)
  refine r_putF KN dX0_init_54 (kf := 6) (ws1 := [eO h 0 [.ref nq1, .ref nq2, .ref nq3, .ref nq4, .ref nq5, .ref nq6, .ref nq7, .int (nI 0), .int (nI 0), .int (nI 0)], eI Γ nq1 5 z0, eI Γ nq2 5 z0, eI Γ nq3 5 z0, eI Γ nq4 6 z0, eI Γ nq5 6 z0, eI Γ nq6 6 z0, eI Γ nq7 6 z0]) 0 rfl rfl hinX0 tyX0 tyX0_ok nmX0 (by decide) q35 rfl rfl rfl (Nat.le_of_ble_eq_true rfl) rfl ?_
  refine r_aload_n K dX0_init_57 0 rfl ?_
  refine r_iconst K dX0_init_58 (nI 0) (by decide) ?_
  refine r_put K dX0_init_59 (kf := 7) (ty := .int) (ws1 := [eO h 0 [.ref nq1, .ref nq2, .ref nq3, .ref nq4, .ref nq5, .ref nq6, .ref nq7, .int (nI 0), .int (nI 0), .int (nI 0)], eI Γ nq1 5 z0, eI Γ nq2 5 z0, eI Γ nq3 5 z0, eI Γ nq4 6 z0, eI Γ nq5 6 z0, eI Γ nq6 6 z0, eI Γ nq7 6 z0]) 0 rfl rfl hinX0 tyX0 tyX0_ok nmX0 (by decide) q36 rfl (by decide +kernel) rfl rfl (Nat.le_of_ble_eq_true rfl) rfl ?_
  refine r_aload_n K dX0_init_62 0 rfl ?_
  refine r_iconst K dX0_init_63 (nI 0) (by decide) ?_
  refine r_put K dX0_init_64 (kf := 8) (ty := .int) (ws1 := [eO h 0 [.ref nq1, .ref nq2, .ref nq3, .ref nq4, .ref nq5, .ref nq6, .ref nq7, .int (nI 0), .int (nI 0), .int (nI 0)], eI Γ nq1 5 z0, eI Γ nq2 5 z0, eI Γ nq3 5 z0, eI Γ nq4 6 z0, eI Γ nq5 6 z0, eI Γ nq6 6 z0, eI Γ nq7 6 z0]) 0 rfl rfl hinX0 tyX0 tyX0_ok nmX0 (by decide) q37 rfl (by decide +kernel) rfl rfl (Nat.le_of_ble_eq_true rfl) rfl ?_
  refine r_aload_n K dX0_init_67 0 rfl ?_
  refine r_iconst K dX0_init_68 (nI 0) (by decide) ?_
  refine r_put K dX0_init_69 (kf := 9) (ty := .int) (ws1 := [eO h 0 [.ref nq1, .ref nq2, .ref nq3, .ref nq4, .ref nq5, .ref nq6, .ref nq7, .int (nI 0), .int (nI 0), .int (nI 0)], eI Γ nq1 5 z0, eI Γ nq2 5 z0, eI Γ nq3 5 z0, eI Γ nq4 6 z0, eI Γ nq5 6 z0, eI Γ nq6 6 z0, eI Γ nq7 6 z0]) 0 rfl rfl hinX0 tyX0 tyX0_ok nmX0 (by decide) q38 rfl (by decide +kernel) rfl rfl (Nat.le_of_ble_eq_true rfl) rfl ?_
  refine r_ws K (ws1 := [ydX Γ h (ad7 nq1 nq2 nq3 nq4 nq5 nq6 nq7) z0 z0]) (weq.of (yd0 (a := (ad7 nq1 nq2 nq3 nq4 nq5 nq6 nq7)))) ?_
  refine r_aload_n K dX0_init_72 0 rfl ?_
  refine r_cVn K dX0_init_73 (c_X0_allLeave l Γ h (ad7 nq1 nq2 nq3 nq4 nq5 nq6 nq7) z0 z0) mX0_allLeave q25 rfl (by decide) rfl rfl 1 rfl [0] [] rfl rfl [] rfl [ydW Γ h (ad7 nq1 nq2 nq3 nq4 nq5 nq6 nq7) (leaveS z0)] rfl rfl rfl [] rfl (Nat.le_of_ble_eq_true rfl) ?_
  refine r_ws K (ws1 := [ydW Γ h (ad7 nq1 nq2 nq3 nq4 nq5 nq6 nq7) z0]) (by rw [leave_z0]; exact weq.rf) ?_
  exact hR (ad7 nq1 nq2 nq3 nq4 nq5 nq6 nq7) dX0_init_76 (Nat.le_of_ble_eq_true rfl) (Nat.le_of_ble_eq_true rfl) (weq.rf)
set_option maxHeartbeats 1000000 in
set_option maxRecDepth 20000 in
theorem c_X3_init (l : Launch) (Γ : eG) (h : Nat) : cN l Γ yX3_init cX3_init 1 1 1 96 [.ref h] [eO h 1 [.null, .int (nI 0)]] (S := Nat) (fun u => [ltC Γ h u]) := by
  refine e_ctor [(0, .ref h)] (by decide +kernel) rfl (Nat.le_of_ble_eq_true rfl) rfl (fun VV KN hR => ?_)
  have K := KN.K (c := 0) (s := 0) (Nat.le_of_ble_eq_true rfl) (Nat.le_of_ble_eq_true rfl)
  refine r_aload_n K dX3_init_0 0 rfl ?_
  refine r_obj K dX3_init_1 q87 q17 q18 (by decide) (Nat.le_of_ble_eq_true rfl) ?_
  refine r_aload_n K dX3_init_4 0 rfl ?_
  refine r_bipush K dX3_init_5 (nI 96) (by decide) ?_
  refine r_newa KN (c := 0) (s := 0) dX3_init_7 q60 (Nat.le_of_ble_eq_true rfl) (Nat.le_of_ble_eq_true rfl) (Nat.le_of_ble_eq_true rfl) (fun nq1 => ?_)
  show VV 1 96 9 [(0, .ref h)] [.ref nq1, .ref h] [eO h 1 [.null, .int (nI 0)], eI Γ nq1 96 z0]
  have K := KN.K (c := 1) (s := 96) (Nat.le_of_ble_eq_true rfl) (Nat.le_of_ble_eq_true rfl)
  refine r_putF KN dX3_init_9 (kf := 0) (ws1 := [eO h 1 [.ref nq1, .int (nI 0)], eI Γ nq1 96 z0]) 0 rfl rfl hinX3 tyX3 tyX3_ok nmX3 (by decide) q88 rfl rfl rfl (Nat.le_of_ble_eq_true rfl) rfl ?_
  refine r_aload_n K dX3_init_12 0 rfl ?_
  refine r_iconst K dX3_init_13 (nI 0) (by decide) ?_
  refine r_put K dX3_init_14 (kf := 1) (ty := .int) (ws1 := [eO h 1 [.ref nq1, .int (nI 0)], eI Γ nq1 96 z0]) 0 rfl rfl hinX3 tyX3 tyX3_ok nmX3 (by decide) q89 rfl (by decide +kernel) rfl rfl (Nat.le_of_ble_eq_true rfl) rfl ?_
  exact hR nq1 dX3_init_17 (Nat.le_of_ble_eq_true rfl) (Nat.le_of_ble_eq_true rfl) (by unfold ltC; rw [fl1]; exact weq.rf)
set_option maxHeartbeats 1000000 in
set_option maxRecDepth 20000 in
theorem c_X4_init (l : Launch) (Γ : eG) (h : Nat) : cN l Γ yX4_init cX4_init 1 1 3 192 [.ref h] [eO h 2 [.null, .null, .null, .int (nI 0)]] (S := Nat × Nat × Nat) (fun u => [stC Γ h u]) := by
  refine e_ctor [(0, .ref h)] (by decide +kernel) rfl (Nat.le_of_ble_eq_true rfl) rfl (fun VV KN hR => ?_)
  have K := KN.K (c := 0) (s := 0) (Nat.le_of_ble_eq_true rfl) (Nat.le_of_ble_eq_true rfl)
  refine r_aload_n K dX4_init_0 0 rfl ?_
  refine r_obj K dX4_init_1 q100 q17 q18 (by decide) (Nat.le_of_ble_eq_true rfl) ?_
  refine r_aload_n K dX4_init_4 0 rfl ?_
  refine r_bipush K dX4_init_5 (nI 64) (by decide) ?_
  refine r_newa KN (c := 0) (s := 0) dX4_init_7 q60 (Nat.le_of_ble_eq_true rfl) (Nat.le_of_ble_eq_true rfl) (Nat.le_of_ble_eq_true rfl) (fun nq1 => ?_)
  show VV 1 64 9 [(0, .ref h)] [.ref nq1, .ref h] [eO h 2 [.null, .null, .null, .int (nI 0)], eI Γ nq1 64 z0]
  have K := KN.K (c := 1) (s := 64) (Nat.le_of_ble_eq_true rfl) (Nat.le_of_ble_eq_true rfl)
  refine r_putF KN dX4_init_9 (kf := 0) (ws1 := [eO h 2 [.ref nq1, .null, .null, .int (nI 0)], eI Γ nq1 64 z0]) 0 rfl rfl hinX4 tyX4 tyX4_ok nmX4 (by decide) q101 rfl rfl rfl (Nat.le_of_ble_eq_true rfl) rfl ?_
  refine r_aload_n K dX4_init_12 0 rfl ?_
  refine r_bipush K dX4_init_13 (nI 64) (by decide) ?_
  refine r_newa KN (c := 1) (s := 64) dX4_init_15 q60 (Nat.le_of_ble_eq_true rfl) (Nat.le_of_ble_eq_true rfl) (Nat.le_of_ble_eq_true rfl) (fun nq2 => ?_)
  show VV 2 128 17 [(0, .ref h)] [.ref nq2, .ref h] [eO h 2 [.ref nq1, .null, .null, .int (nI 0)], eI Γ nq1 64 z0, eI Γ nq2 64 z0]
  have K := KN.K (c := 2) (s := 128) (Nat.le_of_ble_eq_true rfl) (Nat.le_of_ble_eq_true rfl)
  refine r_putF KN dX4_init_17 (kf := 1) (ws1 := [eO h 2 [.ref nq1, .ref nq2, .null, .int (nI 0)], eI Γ nq1 64 z0, eI Γ nq2 64 z0]) 0 rfl rfl hinX4 tyX4 tyX4_ok nmX4 (by decide) q102 rfl rfl rfl (Nat.le_of_ble_eq_true rfl) rfl ?_
  refine r_aload_n K dX4_init_20 0 rfl ?_
  refine r_bipush K dX4_init_21 (nI 64) (by decide) ?_
  refine r_newa KN (c := 2) (s := 128) dX4_init_23 q60 (Nat.le_of_ble_eq_true rfl) (Nat.le_of_ble_eq_true rfl) (Nat.le_of_ble_eq_true rfl) (fun nq3 => ?_)
  show VV 3 192 25 [(0, .ref h)] [.ref nq3, .ref h] [eO h 2 [.ref nq1, .ref nq2, .null, .int (nI 0)], eI Γ nq1 64 z0, eI Γ nq2 64 z0, eI Γ nq3 64 z0]
  have K := KN.K (c := 3) (s := 192) (Nat.le_of_ble_eq_true rfl) (Nat.le_of_ble_eq_true rfl)
  refine r_putF KN dX4_init_25 (kf := 2) (ws1 := [eO h 2 [.ref nq1, .ref nq2, .ref nq3, .int (nI 0)], eI Γ nq1 64 z0, eI Γ nq2 64 z0, eI Γ nq3 64 z0]) 0 rfl rfl hinX4 tyX4 tyX4_ok nmX4 (by decide) q103 rfl rfl rfl (Nat.le_of_ble_eq_true rfl) rfl ?_
  refine r_aload_n K dX4_init_28 0 rfl ?_
  refine r_iconst K dX4_init_29 (nI 0) (by decide) ?_
  refine r_put K dX4_init_30 (kf := 3) (ty := .int) (ws1 := [eO h 2 [.ref nq1, .ref nq2, .ref nq3, .int (nI 0)], eI Γ nq1 64 z0, eI Γ nq2 64 z0, eI Γ nq3 64 z0]) 0 rfl rfl hinX4 tyX4 tyX4_ok nmX4 (by decide) q104 rfl (by decide +kernel) rfl rfl (Nat.le_of_ble_eq_true rfl) rfl ?_
  exact hR (nq1, nq2, nq3) dX4_init_33 (Nat.le_of_ble_eq_true rfl) (Nat.le_of_ble_eq_true rfl) (by unfold stC; rw [fl1]; exact weq.rf)
set_option maxHeartbeats 1000000 in
set_option maxRecDepth 20000 in
theorem c_X5_init (l : Launch) (Γ : eG) (h : Nat) (n : Nat) : cN l Γ yX5_init cX5_init 2 2 9 56 [.ref h, .ref n] [eO h 3 [.null, .null, .null, .int (nI 0)]] (S := Nat × Nat × (Nat → Nat)) (fun u => [thC Γ h n u]) := by
  refine e_ctor [(0, .ref h), (1, .ref n)] (by decide +kernel) rfl (Nat.le_of_ble_eq_true rfl) rfl (fun VV KN hR => ?_)
  have K := KN.K (c := 0) (s := 0) (Nat.le_of_ble_eq_true rfl) (Nat.le_of_ble_eq_true rfl)
  refine r_aload_n K dX5_init_0 0 rfl ?_
  refine r_obj K dX5_init_1 q66 q17 q18 (by decide) (Nat.le_of_ble_eq_true rfl) ?_
  refine r_aload_n K dX5_init_4 0 rfl ?_
  refine r_aload_n K dX5_init_5 1 rfl ?_
  refine r_putF KN dX5_init_6 (kf := 0) (ws1 := [eO h 3 [.ref n, .null, .null, .int (nI 0)]]) 0 rfl rfl hinX5 tyX5 tyX5_ok nmX5 (by decide) q69 rfl rfl rfl (Nat.le_of_ble_eq_true rfl) rfl ?_
  refine r_aload_n K dX5_init_9 0 rfl ?_
  refine r_new KN (c := 0) (s := 0) (n := 10) [.null, .null, .null, .null, .null, .null, .null, .int (nI 0), .int (nI 0), .int (nI 0)] dX5_init_10 (ci := 0) rfl hinX0 tyX0 tyX0_ok q67 q20 q2 hfs_X0 (Nat.le_of_ble_eq_true rfl) (Nat.le_of_ble_eq_true rfl) (fun nq1 => ?_)
  show VV 1 10 13 [(0, .ref h), (1, .ref n)] [.ref nq1, .ref h] [eO h 3 [.ref n, .null, .null, .int (nI 0)], eO nq1 0 [.null, .null, .null, .null, .null, .null, .null, .int (nI 0), .int (nI 0), .int (nI 0)]]
  have K := KN.K (c := 1) (s := 10) (Nat.le_of_ble_eq_true rfl) (Nat.le_of_ble_eq_true rfl)
  refine r_dup K dX5_init_13 rfl ?_
  refine r_cI KN (c := 1) (s := 10) dX5_init_14 (c_X0_init l Γ nq1 ) mX0_init ⟨rfl, q22⟩ q68 rfl (by decide) (Nat.le_of_ble_eq_true rfl) (Nat.le_of_ble_eq_true rfl) 2 rfl [1] [0] rfl rfl [eO h 3 [.ref n, .null, .null, .int (nI 0)]] rfl (fun u => [eO h 3 [.ref n, .null, .null, .int (nI 0)], ydW Γ nq1 u z0]) (fun _ => rfl) (fun _ => rfl) (fun _ => rfl) [.ref nq1, .ref h] rfl (Nat.le_of_ble_eq_true rfl) (fun u2 => ?_)
  show VV 8 49 17 [(0, .ref h), (1, .ref n)] [.ref nq1, .ref h] [eO h 3 [.ref n, .null, .null, .int (nI 0)], ydW Γ nq1 u2 z0]
  have K := KN.K (c := 8) (s := 49) (Nat.le_of_ble_eq_true rfl) (Nat.le_of_ble_eq_true rfl)
  refine r_putF KN dX5_init_17 (kf := 1) (ws1 := [eO h 3 [.ref n, .ref nq1, .null, .int (nI 0)], ydW Γ nq1 u2 z0]) 0 rfl rfl hinX5 tyX5 tyX5_ok nmX5 (by decide) q70 rfl rfl rfl (Nat.le_of_ble_eq_true rfl) rfl ?_
  refine r_aload_n K dX5_init_20 0 rfl ?_
  refine r_bipush K dX5_init_21 (nI 7) (by decide) ?_
  refine r_newa KN (c := 8) (s := 49) dX5_init_23 q60 (Nat.le_of_ble_eq_true rfl) (Nat.le_of_ble_eq_true rfl) (Nat.le_of_ble_eq_true rfl) (fun nq3 => ?_)
  show VV 9 56 25 [(0, .ref h), (1, .ref n)] [.ref nq3, .ref h] [eO h 3 [.ref n, .ref nq1, .null, .int (nI 0)], ydW Γ nq1 u2 z0, eI Γ nq3 7 z0]
  have K := KN.K (c := 9) (s := 56) (Nat.le_of_ble_eq_true rfl) (Nat.le_of_ble_eq_true rfl)
  refine r_putF KN dX5_init_25 (kf := 2) (ws1 := [eO h 3 [.ref n, .ref nq1, .ref nq3, .int (nI 0)], ydW Γ nq1 u2 z0, eI Γ nq3 7 z0]) 0 rfl rfl hinX5 tyX5 tyX5_ok nmX5 (by decide) q71 rfl rfl rfl (Nat.le_of_ble_eq_true rfl) rfl ?_
  refine r_aload_n K dX5_init_28 0 rfl ?_
  refine r_iconst K dX5_init_29 (nI 0) (by decide) ?_
  refine r_put K dX5_init_30 (kf := 3) (ty := .int) (ws1 := [eO h 3 [.ref n, .ref nq1, .ref nq3, .int (nI 0)], ydW Γ nq1 u2 z0, eI Γ nq3 7 z0]) 0 rfl rfl hinX5 tyX5 tyX5_ok nmX5 (by decide) q72 rfl (by decide +kernel) rfl rfl (Nat.le_of_ble_eq_true rfl) rfl ?_
  exact hR (nq1, nq3, u2) dX5_init_33 (Nat.le_of_ble_eq_true rfl) (Nat.le_of_ble_eq_true rfl) (by unfold thC; rw [fl1]; exact weq.rf)
set_option maxHeartbeats 1000000 in
set_option maxRecDepth 20000 in
theorem c_X6_init (l : Launch) (Γ : eG) (h : Nat) : cN l Γ yX6_init cX6_init 2 3 42 524 [.ref h] [eO h 4 [.null, .null, .null, .null, .null, .null, .null, .null, .int (nI 0), .int (nI 0)]] (S := (Nat → Nat) × (Nat → Nat) × (Nat → Nat) × (Nat → Nat) × (Nat → Nat)) (fun u => [goC Γ h u]) := by
  refine e_ctor [(0, .ref h)] (by decide +kernel) rfl (Nat.le_of_ble_eq_true rfl) rfl (fun VV KN hR => ?_)
  have K := KN.K (c := 0) (s := 0) (Nat.le_of_ble_eq_true rfl) (Nat.le_of_ble_eq_true rfl)
  refine r_aload_n K dX6_init_0 0 rfl ?_
  refine r_obj K dX6_init_1 q16 q17 q18 (by decide) (Nat.le_of_ble_eq_true rfl) ?_
  refine r_new KN (c := 0) (s := 0) (n := 10) [.null, .null, .null, .null, .null, .null, .null, .int (nI 0), .int (nI 0), .int (nI 0)] dX6_init_4 (ci := 0) rfl hinX0 tyX0 tyX0_ok q19 q20 q2 hfs_X0 (Nat.le_of_ble_eq_true rfl) (Nat.le_of_ble_eq_true rfl) (fun nq1 => ?_)
  show VV 1 10 7 [(0, .ref h)] [.ref nq1] [eO h 4 [.null, .null, .null, .null, .null, .null, .null, .null, .int (nI 0), .int (nI 0)], eO nq1 0 [.null, .null, .null, .null, .null, .null, .null, .int (nI 0), .int (nI 0), .int (nI 0)]]
  have K := KN.K (c := 1) (s := 10) (Nat.le_of_ble_eq_true rfl) (Nat.le_of_ble_eq_true rfl)
  refine r_dup K dX6_init_7 rfl ?_
  refine r_cI KN (c := 1) (s := 10) dX6_init_8 (c_X0_init l Γ nq1 ) mX0_init ⟨rfl, q22⟩ q21 rfl (by decide) (Nat.le_of_ble_eq_true rfl) (Nat.le_of_ble_eq_true rfl) 2 rfl [1] [0] rfl rfl [eO h 4 [.null, .null, .null, .null, .null, .null, .null, .null, .int (nI 0), .int (nI 0)]] rfl (fun u => [eO h 4 [.null, .null, .null, .null, .null, .null, .null, .null, .int (nI 0), .int (nI 0)], ydW Γ nq1 u z0]) (fun _ => rfl) (fun _ => rfl) (fun _ => rfl) [.ref nq1] rfl (Nat.le_of_ble_eq_true rfl) (fun u2 => ?_)
  show VV 8 49 11 [(0, .ref h)] [.ref nq1] [eO h 4 [.null, .null, .null, .null, .null, .null, .null, .null, .int (nI 0), .int (nI 0)], ydW Γ nq1 u2 z0]
  have K := KN.K (c := 8) (s := 49) (Nat.le_of_ble_eq_true rfl) (Nat.le_of_ble_eq_true rfl)
  refine r_astore_n K dX6_init_11 rfl (by decide) (lv1 := [(1, .ref nq1), (0, .ref h)]) rfl ?_
  refine r_aload_n K dX6_init_12 1 rfl ?_
  refine r_aload_n K dX6_init_13 0 rfl ?_
  refine r_putF KN dX6_init_14 (kf := 0) (ws1 := [eO h 4 [.ref nq1, .null, .null, .null, .null, .null, .null, .null, .int (nI 0), .int (nI 0)], ydW Γ nq1 u2 z0]) 0 rfl rfl hinX6 tyX6 tyX6_ok nmX6 (by decide) q114 rfl rfl rfl (Nat.le_of_ble_eq_true rfl) rfl ?_
  refine r_aload_n K dX6_init_17 1 rfl ?_
  refine r_new KN (c := 8) (s := 49) (n := 10) [.null, .null, .null, .null, .null, .null, .null, .int (nI 0), .int (nI 0), .int (nI 0)] dX6_init_18 (ci := 0) rfl hinX0 tyX0 tyX0_ok q19 q20 q2 hfs_X0 (Nat.le_of_ble_eq_true rfl) (Nat.le_of_ble_eq_true rfl) (fun nq3 => ?_)
  show VV 9 59 21 [(1, .ref nq1), (0, .ref h)] [.ref nq3, .ref h] [eO h 4 [.ref nq1, .null, .null, .null, .null, .null, .null, .null, .int (nI 0), .int (nI 0)], ydW Γ nq1 u2 z0, eO nq3 0 [.null, .null, .null, .null, .null, .null, .null, .int (nI 0), .int (nI 0), .int (nI 0)]]
  have K := KN.K (c := 9) (s := 59) (Nat.le_of_ble_eq_true rfl) (Nat.le_of_ble_eq_true rfl)
  refine r_dup K dX6_init_21 rfl ?_
  refine r_cI KN (c := 9) (s := 59) dX6_init_22 (c_X0_init l Γ nq3 ) mX0_init ⟨rfl, q22⟩ q21 rfl (by decide) (Nat.le_of_ble_eq_true rfl) (Nat.le_of_ble_eq_true rfl) 3 rfl [2] [0, 1] rfl rfl [eO h 4 [.ref nq1, .null, .null, .null, .null, .null, .null, .null, .int (nI 0), .int (nI 0)], ydW Γ nq1 u2 z0] rfl (fun u => [eO h 4 [.ref nq1, .null, .null, .null, .null, .null, .null, .null, .int (nI 0), .int (nI 0)], ydW Γ nq1 u2 z0, ydW Γ nq3 u z0]) (fun _ => rfl) (fun _ => rfl) (fun _ => rfl) [.ref nq3, .ref h] rfl (Nat.le_of_ble_eq_true rfl) (fun u4 => ?_)
  show VV 16 98 25 [(1, .ref nq1), (0, .ref h)] [.ref nq3, .ref h] [eO h 4 [.ref nq1, .null, .null, .null, .null, .null, .null, .null, .int (nI 0), .int (nI 0)], ydW Γ nq1 u2 z0, ydW Γ nq3 u4 z0]
  have K := KN.K (c := 16) (s := 98) (Nat.le_of_ble_eq_true rfl) (Nat.le_of_ble_eq_true rfl)
  refine r_putF KN dX6_init_25 (kf := 1) (ws1 := [eO h 4 [.ref nq1, .ref nq3, .null, .null, .null, .null, .null, .null, .int (nI 0), .int (nI 0)], ydW Γ nq1 u2 z0, ydW Γ nq3 u4 z0]) 0 rfl rfl hinX6 tyX6 tyX6_ok nmX6 (by decide) q115 rfl rfl rfl (Nat.le_of_ble_eq_true rfl) rfl ?_
  refine r_aload_n K dX6_init_28 1 rfl ?_
  refine r_new KN (c := 16) (s := 98) (n := 10) [.null, .null, .null, .null, .null, .null, .null, .int (nI 0), .int (nI 0), .int (nI 0)] dX6_init_29 (ci := 0) rfl hinX0 tyX0 tyX0_ok q19 q20 q2 hfs_X0 (Nat.le_of_ble_eq_true rfl) (Nat.le_of_ble_eq_true rfl) (fun nq5 => ?_)
  show VV 17 108 32 [(1, .ref nq1), (0, .ref h)] [.ref nq5, .ref h] [eO h 4 [.ref nq1, .ref nq3, .null, .null, .null, .null, .null, .null, .int (nI 0), .int (nI 0)], ydW Γ nq1 u2 z0, ydW Γ nq3 u4 z0, eO nq5 0 [.null, .null, .null, .null, .null, .null, .null, .int (nI 0), .int (nI 0), .int (nI 0)]]
  have K := KN.K (c := 17) (s := 108) (Nat.le_of_ble_eq_true rfl) (Nat.le_of_ble_eq_true rfl)
  refine r_dup K dX6_init_32 rfl ?_
  refine r_cI KN (c := 17) (s := 108) dX6_init_33 (c_X0_init l Γ nq5 ) mX0_init ⟨rfl, q22⟩ q21 rfl (by decide) (Nat.le_of_ble_eq_true rfl) (Nat.le_of_ble_eq_true rfl) 4 rfl [3] [0, 1, 2] rfl rfl [eO h 4 [.ref nq1, .ref nq3, .null, .null, .null, .null, .null, .null, .int (nI 0), .int (nI 0)], ydW Γ nq1 u2 z0, ydW Γ nq3 u4 z0] rfl (fun u => [eO h 4 [.ref nq1, .ref nq3, .null, .null, .null, .null, .null, .null, .int (nI 0), .int (nI 0)], ydW Γ nq1 u2 z0, ydW Γ nq3 u4 z0, ydW Γ nq5 u z0]) (fun _ => rfl) (fun _ => rfl) (fun _ => rfl) [.ref nq5, .ref h] rfl (Nat.le_of_ble_eq_true rfl) (fun u6 => ?_)
  show VV 24 147 36 [(1, .ref nq1), (0, .ref h)] [.ref nq5, .ref h] [eO h 4 [.ref nq1, .ref nq3, .null, .null, .null, .null, .null, .null, .int (nI 0), .int (nI 0)], ydW Γ nq1 u2 z0, ydW Γ nq3 u4 z0, ydW Γ nq5 u6 z0]
  have K := KN.K (c := 24) (s := 147) (Nat.le_of_ble_eq_true rfl) (Nat.le_of_ble_eq_true rfl)
  refine r_putF KN dX6_init_36 (kf := 2) (ws1 := [eO h 4 [.ref nq1, .ref nq3, .ref nq5, .null, .null, .null, .null, .null, .int (nI 0), .int (nI 0)], ydW Γ nq1 u2 z0, ydW Γ nq3 u4 z0, ydW Γ nq5 u6 z0]) 0 rfl rfl hinX6 tyX6 tyX6_ok nmX6 (by decide) q116 rfl rfl rfl (Nat.le_of_ble_eq_true rfl) rfl ?_
  refine r_aload_n K dX6_init_39 1 rfl ?_
  refine r_new KN (c := 24) (s := 147) (n := 4) [.null, .null, .null, .int (nI 0)] dX6_init_40 (ci := 3) rfl hinX5 tyX5 tyX5_ok q61 q62 q3 hfs_X5 (Nat.le_of_ble_eq_true rfl) (Nat.le_of_ble_eq_true rfl) (fun nq7 => ?_)
  show VV 25 151 43 [(1, .ref nq1), (0, .ref h)] [.ref nq7, .ref h] [eO h 4 [.ref nq1, .ref nq3, .ref nq5, .null, .null, .null, .null, .null, .int (nI 0), .int (nI 0)], ydW Γ nq1 u2 z0, ydW Γ nq3 u4 z0, ydW Γ nq5 u6 z0, eO nq7 3 [.null, .null, .null, .int (nI 0)]]
  have K := KN.K (c := 25) (s := 151) (Nat.le_of_ble_eq_true rfl) (Nat.le_of_ble_eq_true rfl)
  refine r_dup K dX6_init_43 rfl ?_
  refine r_aload_n K dX6_init_44 0 rfl ?_
  refine r_cI KN (c := 25) (s := 151) dX6_init_45 (c_X5_init l Γ nq7 nq1) mX5_init ⟨rfl, q64⟩ q63 rfl (by decide) (Nat.le_of_ble_eq_true rfl) (Nat.le_of_ble_eq_true rfl) 5 rfl [4] [0, 1, 2, 3] rfl rfl [eO h 4 [.ref nq1, .ref nq3, .ref nq5, .null, .null, .null, .null, .null, .int (nI 0), .int (nI 0)], ydW Γ nq1 u2 z0, ydW Γ nq3 u4 z0, ydW Γ nq5 u6 z0] rfl (fun u => [eO h 4 [.ref nq1, .ref nq3, .ref nq5, .null, .null, .null, .null, .null, .int (nI 0), .int (nI 0)], ydW Γ nq1 u2 z0, ydW Γ nq3 u4 z0, ydW Γ nq5 u6 z0, thC Γ nq7 nq1 u]) (fun _ => rfl) (fun _ => rfl) (fun _ => rfl) [.ref nq7, .ref h] rfl (Nat.le_of_ble_eq_true rfl) (fun u8 => ?_)
  show VV 34 207 48 [(1, .ref nq1), (0, .ref h)] [.ref nq7, .ref h] [eO h 4 [.ref nq1, .ref nq3, .ref nq5, .null, .null, .null, .null, .null, .int (nI 0), .int (nI 0)], ydW Γ nq1 u2 z0, ydW Γ nq3 u4 z0, ydW Γ nq5 u6 z0, thC Γ nq7 nq1 u8]
  have K := KN.K (c := 34) (s := 207) (Nat.le_of_ble_eq_true rfl) (Nat.le_of_ble_eq_true rfl)
  refine r_putF KN dX6_init_48 (kf := 3) (ws1 := [eO h 4 [.ref nq1, .ref nq3, .ref nq5, .ref nq7, .null, .null, .null, .null, .int (nI 0), .int (nI 0)], ydW Γ nq1 u2 z0, ydW Γ nq3 u4 z0, ydW Γ nq5 u6 z0, thC Γ nq7 nq1 u8]) 0 rfl rfl hinX6 tyX6 tyX6_ok nmX6 (by decide) q117 rfl rfl rfl (Nat.le_of_ble_eq_true rfl) rfl ?_
  refine r_aload_n K dX6_init_51 1 rfl ?_
  refine r_new KN (c := 34) (s := 207) (n := 2) [.null, .int (nI 0)] dX6_init_52 (ci := 1) rfl hinX3 tyX3 tyX3_ok q82 q83 q4 hfs_X3 (Nat.le_of_ble_eq_true rfl) (Nat.le_of_ble_eq_true rfl) (fun nq9 => ?_)
  show VV 35 209 55 [(1, .ref nq1), (0, .ref h)] [.ref nq9, .ref h] [eO h 4 [.ref nq1, .ref nq3, .ref nq5, .ref nq7, .null, .null, .null, .null, .int (nI 0), .int (nI 0)], ydW Γ nq1 u2 z0, ydW Γ nq3 u4 z0, ydW Γ nq5 u6 z0, thC Γ nq7 nq1 u8, eO nq9 1 [.null, .int (nI 0)]]
  have K := KN.K (c := 35) (s := 209) (Nat.le_of_ble_eq_true rfl) (Nat.le_of_ble_eq_true rfl)
  refine r_dup K dX6_init_55 rfl ?_
  refine r_cI KN (c := 35) (s := 209) dX6_init_56 (c_X3_init l Γ nq9 ) mX3_init ⟨rfl, q85⟩ q84 rfl (by decide) (Nat.le_of_ble_eq_true rfl) (Nat.le_of_ble_eq_true rfl) 6 rfl [5] [0, 1, 2, 3, 4] rfl rfl [eO h 4 [.ref nq1, .ref nq3, .ref nq5, .ref nq7, .null, .null, .null, .null, .int (nI 0), .int (nI 0)], ydW Γ nq1 u2 z0, ydW Γ nq3 u4 z0, ydW Γ nq5 u6 z0, thC Γ nq7 nq1 u8] rfl (fun u => [eO h 4 [.ref nq1, .ref nq3, .ref nq5, .ref nq7, .null, .null, .null, .null, .int (nI 0), .int (nI 0)], ydW Γ nq1 u2 z0, ydW Γ nq3 u4 z0, ydW Γ nq5 u6 z0, thC Γ nq7 nq1 u8, ltC Γ nq9 u]) (fun _ => rfl) (fun _ => rfl) (fun _ => rfl) [.ref nq9, .ref h] rfl (Nat.le_of_ble_eq_true rfl) (fun u10 => ?_)
  show VV 36 305 59 [(1, .ref nq1), (0, .ref h)] [.ref nq9, .ref h] [eO h 4 [.ref nq1, .ref nq3, .ref nq5, .ref nq7, .null, .null, .null, .null, .int (nI 0), .int (nI 0)], ydW Γ nq1 u2 z0, ydW Γ nq3 u4 z0, ydW Γ nq5 u6 z0, thC Γ nq7 nq1 u8, ltC Γ nq9 u10]
  have K := KN.K (c := 36) (s := 305) (Nat.le_of_ble_eq_true rfl) (Nat.le_of_ble_eq_true rfl)
  refine r_putF KN dX6_init_59 (kf := 4) (ws1 := [eO h 4 [.ref nq1, .ref nq3, .ref nq5, .ref nq7, .ref nq9, .null, .null, .null, .int (nI 0), .int (nI 0)], ydW Γ nq1 u2 z0, ydW Γ nq3 u4 z0, ydW Γ nq5 u6 z0, thC Γ nq7 nq1 u8, ltC Γ nq9 u10]) 0 rfl rfl hinX6 tyX6 tyX6_ok nmX6 (by decide) q118 rfl rfl rfl (Nat.le_of_ble_eq_true rfl) rfl ?_
  refine r_aload_n K dX6_init_62 1 rfl ?_
  refine r_new KN (c := 36) (s := 305) (n := 4) [.null, .null, .null, .int (nI 0)] dX6_init_63 (ci := 2) rfl hinX4 tyX4 tyX4_ok q95 q96 q5 hfs_X4 (Nat.le_of_ble_eq_true rfl) (Nat.le_of_ble_eq_true rfl) (fun nq11 => ?_)
  show VV 37 309 66 [(1, .ref nq1), (0, .ref h)] [.ref nq11, .ref h] [eO h 4 [.ref nq1, .ref nq3, .ref nq5, .ref nq7, .ref nq9, .null, .null, .null, .int (nI 0), .int (nI 0)], ydW Γ nq1 u2 z0, ydW Γ nq3 u4 z0, ydW Γ nq5 u6 z0, thC Γ nq7 nq1 u8, ltC Γ nq9 u10, eO nq11 2 [.null, .null, .null, .int (nI 0)]]
  have K := KN.K (c := 37) (s := 309) (Nat.le_of_ble_eq_true rfl) (Nat.le_of_ble_eq_true rfl)
  refine r_dup K dX6_init_66 rfl ?_
  refine r_cI KN (c := 37) (s := 309) dX6_init_67 (c_X4_init l Γ nq11 ) mX4_init ⟨rfl, q98⟩ q97 rfl (by decide) (Nat.le_of_ble_eq_true rfl) (Nat.le_of_ble_eq_true rfl) 7 rfl [6] [0, 1, 2, 3, 4, 5] rfl rfl [eO h 4 [.ref nq1, .ref nq3, .ref nq5, .ref nq7, .ref nq9, .null, .null, .null, .int (nI 0), .int (nI 0)], ydW Γ nq1 u2 z0, ydW Γ nq3 u4 z0, ydW Γ nq5 u6 z0, thC Γ nq7 nq1 u8, ltC Γ nq9 u10] rfl (fun u => [eO h 4 [.ref nq1, .ref nq3, .ref nq5, .ref nq7, .ref nq9, .null, .null, .null, .int (nI 0), .int (nI 0)], ydW Γ nq1 u2 z0, ydW Γ nq3 u4 z0, ydW Γ nq5 u6 z0, thC Γ nq7 nq1 u8, ltC Γ nq9 u10, stC Γ nq11 u]) (fun _ => rfl) (fun _ => rfl) (fun _ => rfl) [.ref nq11, .ref h] rfl (Nat.le_of_ble_eq_true rfl) (fun u12 => ?_)
  show VV 40 501 70 [(1, .ref nq1), (0, .ref h)] [.ref nq11, .ref h] [eO h 4 [.ref nq1, .ref nq3, .ref nq5, .ref nq7, .ref nq9, .null, .null, .null, .int (nI 0), .int (nI 0)], ydW Γ nq1 u2 z0, ydW Γ nq3 u4 z0, ydW Γ nq5 u6 z0, thC Γ nq7 nq1 u8, ltC Γ nq9 u10, stC Γ nq11 u12]
  have K := KN.K (c := 40) (s := 501) (Nat.le_of_ble_eq_true rfl) (Nat.le_of_ble_eq_true rfl)
  refine r_putF KN dX6_init_70 (kf := 5) (ws1 := [eO h 4 [.ref nq1, .ref nq3, .ref nq5, .ref nq7, .ref nq9, .ref nq11, .null, .null, .int (nI 0), .int (nI 0)], ydW Γ nq1 u2 z0, ydW Γ nq3 u4 z0, ydW Γ nq5 u6 z0, thC Γ nq7 nq1 u8, ltC Γ nq9 u10, stC Γ nq11 u12]) 0 rfl rfl hinX6 tyX6 tyX6_ok nmX6 (by decide) q119 rfl rfl rfl (Nat.le_of_ble_eq_true rfl) rfl ?_
  refine r_aload_n K dX6_init_73 1 rfl ?_
  refine r_bipush K dX6_init_74 (nI 16) (by decide) ?_
  refine r_newa KN (c := 40) (s := 501) dX6_init_76 q60 (Nat.le_of_ble_eq_true rfl) (Nat.le_of_ble_eq_true rfl) (Nat.le_of_ble_eq_true rfl) (fun nq13 => ?_)
  show VV 41 517 78 [(1, .ref nq1), (0, .ref h)] [.ref nq13, .ref h] [eO h 4 [.ref nq1, .ref nq3, .ref nq5, .ref nq7, .ref nq9, .ref nq11, .null, .null, .int (nI 0), .int (nI 0)], ydW Γ nq1 u2 z0, ydW Γ nq3 u4 z0, ydW Γ nq5 u6 z0, thC Γ nq7 nq1 u8, ltC Γ nq9 u10, stC Γ nq11 u12, eI Γ nq13 16 z0]
  have K := KN.K (c := 41) (s := 517) (Nat.le_of_ble_eq_true rfl) (Nat.le_of_ble_eq_true rfl)
  refine r_putF KN dX6_init_78 (kf := 6) (ws1 := [eO h 4 [.ref nq1, .ref nq3, .ref nq5, .ref nq7, .ref nq9, .ref nq11, .ref nq13, .null, .int (nI 0), .int (nI 0)], ydW Γ nq1 u2 z0, ydW Γ nq3 u4 z0, ydW Γ nq5 u6 z0, thC Γ nq7 nq1 u8, ltC Γ nq9 u10, stC Γ nq11 u12, eI Γ nq13 16 z0]) 0 rfl rfl hinX6 tyX6 tyX6_ok nmX6 (by decide) q120 rfl rfl rfl (Nat.le_of_ble_eq_true rfl) rfl ?_
  refine r_aload_n K dX6_init_81 1 rfl ?_
  refine r_bipush K dX6_init_82 (nI 7) (by decide) ?_
  refine r_newa KN (c := 41) (s := 517) dX6_init_84 q60 (Nat.le_of_ble_eq_true rfl) (Nat.le_of_ble_eq_true rfl) (Nat.le_of_ble_eq_true rfl) (fun nq14 => ?_)
  show VV 42 524 86 [(1, .ref nq1), (0, .ref h)] [.ref nq14, .ref h] [eO h 4 [.ref nq1, .ref nq3, .ref nq5, .ref nq7, .ref nq9, .ref nq11, .ref nq13, .null, .int (nI 0), .int (nI 0)], ydW Γ nq1 u2 z0, ydW Γ nq3 u4 z0, ydW Γ nq5 u6 z0, thC Γ nq7 nq1 u8, ltC Γ nq9 u10, stC Γ nq11 u12, eI Γ nq13 16 z0, eI Γ nq14 7 z0]
  have K := KN.K (c := 42) (s := 524) (Nat.le_of_ble_eq_true rfl) (Nat.le_of_ble_eq_true rfl)
  refine r_putF KN dX6_init_86 (kf := 7) (ws1 := [eO h 4 [.ref nq1, .ref nq3, .ref nq5, .ref nq7, .ref nq9, .ref nq11, .ref nq13, .ref nq14, .int (nI 0), .int (nI 0)], ydW Γ nq1 u2 z0, ydW Γ nq3 u4 z0, ydW Γ nq5 u6 z0, thC Γ nq7 nq1 u8, ltC Γ nq9 u10, stC Γ nq11 u12, eI Γ nq13 16 z0, eI Γ nq14 7 z0]) 0 rfl rfl hinX6 tyX6 tyX6_ok nmX6 (by decide) q121 rfl rfl rfl (Nat.le_of_ble_eq_true rfl) rfl ?_
  refine r_aload_n K dX6_init_89 1 rfl ?_
  refine r_iconst K dX6_init_90 (nI 0) (by decide) ?_
  refine r_put K dX6_init_91 (kf := 8) (ty := .int) (ws1 := [eO h 4 [.ref nq1, .ref nq3, .ref nq5, .ref nq7, .ref nq9, .ref nq11, .ref nq13, .ref nq14, .int (nI 0), .int (nI 0)], ydW Γ nq1 u2 z0, ydW Γ nq3 u4 z0, ydW Γ nq5 u6 z0, thC Γ nq7 nq1 u8, ltC Γ nq9 u10, stC Γ nq11 u12, eI Γ nq13 16 z0, eI Γ nq14 7 z0]) 0 rfl rfl hinX6 tyX6 tyX6_ok nmX6 (by decide) q122 rfl (by decide +kernel) rfl rfl (Nat.le_of_ble_eq_true rfl) rfl ?_
  refine r_aload_n K dX6_init_94 1 rfl ?_
  refine r_iconst K dX6_init_95 (nI 0) (by decide) ?_
  refine r_put K dX6_init_96 (kf := 9) (ty := .boolean) (ws1 := [eO h 4 [.ref nq1, .ref nq3, .ref nq5, .ref nq7, .ref nq9, .ref nq11, .ref nq13, .ref nq14, .int (nI 0), .int (nI 0)], ydW Γ nq1 u2 z0, ydW Γ nq3 u4 z0, ydW Γ nq5 u6 z0, thC Γ nq7 nq1 u8, ltC Γ nq9 u10, stC Γ nq11 u12, eI Γ nq13 16 z0, eI Γ nq14 7 z0]) 0 rfl rfl hinX6 tyX6 tyX6_ok nmX6 (by decide) q123 rfl (by decide +kernel) rfl rfl (Nat.le_of_ble_eq_true rfl) rfl ?_
  exact hR ((ad14 nq1 nq3 nq5 nq7 nq9 nq11 nq13 nq14 u8.1 u8.2.1 u10 u12.1 u12.2.1 u12.2.2), u2, u4, u6, u8.2.2) dX6_init_99 (Nat.le_of_ble_eq_true rfl) (Nat.le_of_ble_eq_true rfl) (go_weq)
set_option maxHeartbeats 1000000 in
set_option maxRecDepth 20000 in
theorem c_X7_init (l : Launch) (Γ : eG) (h : Nat) : cN l Γ yX7_init cX7_init 1 1 11 307 [.ref h] [eO h 5 [.null, .null, .null, .null, .int (nI 0), .null, .null, .null, .int (nI 0), .int (nI 0), .int (nI 0), .null, .null, .null, .null, .int (nI 0), .int (nI 0)]] (S := Nat → Nat) (fun u => [moC Γ h u]) := by
  refine e_ctor [(0, .ref h)] (by decide +kernel) rfl (Nat.le_of_ble_eq_true rfl) rfl (fun VV KN hR => ?_)
  have K := KN.K (c := 0) (s := 0) (Nat.le_of_ble_eq_true rfl) (Nat.le_of_ble_eq_true rfl)
  refine r_aload_n K dX7_init_0 0 rfl ?_
  refine r_obj K dX7_init_1 q756 q17 q18 (by decide) (Nat.le_of_ble_eq_true rfl) ?_
  refine r_aload_n K dX7_init_4 0 rfl ?_
  refine r_bipush K dX7_init_5 (nI 42) (by decide) ?_
  refine r_newa KN (c := 0) (s := 0) dX7_init_7 q60 (Nat.le_of_ble_eq_true rfl) (Nat.le_of_ble_eq_true rfl) (Nat.le_of_ble_eq_true rfl) (fun nq1 => ?_)
  show VV 1 42 9 [(0, .ref h)] [.ref nq1, .ref h] [eO h 5 [.null, .null, .null, .null, .int (nI 0), .null, .null, .null, .int (nI 0), .int (nI 0), .int (nI 0), .null, .null, .null, .null, .int (nI 0), .int (nI 0)], eI Γ nq1 42 z0]
  have K := KN.K (c := 1) (s := 42) (Nat.le_of_ble_eq_true rfl) (Nat.le_of_ble_eq_true rfl)
  refine r_putF KN dX7_init_9 (kf := 0) (ws1 := [eO h 5 [.ref nq1, .null, .null, .null, .int (nI 0), .null, .null, .null, .int (nI 0), .int (nI 0), .int (nI 0), .null, .null, .null, .null, .int (nI 0), .int (nI 0)], eI Γ nq1 42 z0]) 0 rfl rfl hinX7 tyX7 tyX7_ok nmX7 (by decide) q757 rfl rfl rfl (Nat.le_of_ble_eq_true rfl) rfl ?_
  refine r_aload_n K dX7_init_12 0 rfl ?_
  refine r_bipush K dX7_init_13 (nI 42) (by decide) ?_
  refine r_newa KN (c := 1) (s := 42) dX7_init_15 q60 (Nat.le_of_ble_eq_true rfl) (Nat.le_of_ble_eq_true rfl) (Nat.le_of_ble_eq_true rfl) (fun nq2 => ?_)
  show VV 2 84 17 [(0, .ref h)] [.ref nq2, .ref h] [eO h 5 [.ref nq1, .null, .null, .null, .int (nI 0), .null, .null, .null, .int (nI 0), .int (nI 0), .int (nI 0), .null, .null, .null, .null, .int (nI 0), .int (nI 0)], eI Γ nq1 42 z0, eI Γ nq2 42 z0]
  have K := KN.K (c := 2) (s := 84) (Nat.le_of_ble_eq_true rfl) (Nat.le_of_ble_eq_true rfl)
  refine r_putF KN dX7_init_17 (kf := 1) (ws1 := [eO h 5 [.ref nq1, .ref nq2, .null, .null, .int (nI 0), .null, .null, .null, .int (nI 0), .int (nI 0), .int (nI 0), .null, .null, .null, .null, .int (nI 0), .int (nI 0)], eI Γ nq1 42 z0, eI Γ nq2 42 z0]) 0 rfl rfl hinX7 tyX7 tyX7_ok nmX7 (by decide) q758 rfl rfl rfl (Nat.le_of_ble_eq_true rfl) rfl ?_
  refine r_aload_n K dX7_init_20 0 rfl ?_
  refine r_bipush K dX7_init_21 (nI 42) (by decide) ?_
  refine r_newa KN (c := 2) (s := 84) dX7_init_23 q60 (Nat.le_of_ble_eq_true rfl) (Nat.le_of_ble_eq_true rfl) (Nat.le_of_ble_eq_true rfl) (fun nq3 => ?_)
  show VV 3 126 25 [(0, .ref h)] [.ref nq3, .ref h] [eO h 5 [.ref nq1, .ref nq2, .null, .null, .int (nI 0), .null, .null, .null, .int (nI 0), .int (nI 0), .int (nI 0), .null, .null, .null, .null, .int (nI 0), .int (nI 0)], eI Γ nq1 42 z0, eI Γ nq2 42 z0, eI Γ nq3 42 z0]
  have K := KN.K (c := 3) (s := 126) (Nat.le_of_ble_eq_true rfl) (Nat.le_of_ble_eq_true rfl)
  refine r_putF KN dX7_init_25 (kf := 2) (ws1 := [eO h 5 [.ref nq1, .ref nq2, .ref nq3, .null, .int (nI 0), .null, .null, .null, .int (nI 0), .int (nI 0), .int (nI 0), .null, .null, .null, .null, .int (nI 0), .int (nI 0)], eI Γ nq1 42 z0, eI Γ nq2 42 z0, eI Γ nq3 42 z0]) 0 rfl rfl hinX7 tyX7 tyX7_ok nmX7 (by decide) q759 rfl rfl rfl (Nat.le_of_ble_eq_true rfl) rfl ?_
  refine r_aload_n K dX7_init_28 0 rfl ?_
  refine r_bipush K dX7_init_29 (nI 42) (by decide) ?_
  refine r_newa KN (c := 3) (s := 126) dX7_init_31 q60 (Nat.le_of_ble_eq_true rfl) (Nat.le_of_ble_eq_true rfl) (Nat.le_of_ble_eq_true rfl) (fun nq4 => ?_)
  show VV 4 168 33 [(0, .ref h)] [.ref nq4, .ref h] [eO h 5 [.ref nq1, .ref nq2, .ref nq3, .null, .int (nI 0), .null, .null, .null, .int (nI 0), .int (nI 0), .int (nI 0), .null, .null, .null, .null, .int (nI 0), .int (nI 0)], eI Γ nq1 42 z0, eI Γ nq2 42 z0, eI Γ nq3 42 z0, eI Γ nq4 42 z0]
  have K := KN.K (c := 4) (s := 168) (Nat.le_of_ble_eq_true rfl) (Nat.le_of_ble_eq_true rfl)
  refine r_putF KN dX7_init_33 (kf := 3) (ws1 := [eO h 5 [.ref nq1, .ref nq2, .ref nq3, .ref nq4, .int (nI 0), .null, .null, .null, .int (nI 0), .int (nI 0), .int (nI 0), .null, .null, .null, .null, .int (nI 0), .int (nI 0)], eI Γ nq1 42 z0, eI Γ nq2 42 z0, eI Γ nq3 42 z0, eI Γ nq4 42 z0]) 0 rfl rfl hinX7 tyX7 tyX7_ok nmX7 (by decide) q760 rfl rfl rfl (Nat.le_of_ble_eq_true rfl) rfl ?_
  refine r_aload_n K dX7_init_36 0 rfl ?_
  refine r_bipush K dX7_init_37 (nI 96) (by decide) ?_
  refine r_newa KN (c := 4) (s := 168) dX7_init_39 q60 (Nat.le_of_ble_eq_true rfl) (Nat.le_of_ble_eq_true rfl) (Nat.le_of_ble_eq_true rfl) (fun nq5 => ?_)
  show VV 5 264 41 [(0, .ref h)] [.ref nq5, .ref h] [eO h 5 [.ref nq1, .ref nq2, .ref nq3, .ref nq4, .int (nI 0), .null, .null, .null, .int (nI 0), .int (nI 0), .int (nI 0), .null, .null, .null, .null, .int (nI 0), .int (nI 0)], eI Γ nq1 42 z0, eI Γ nq2 42 z0, eI Γ nq3 42 z0, eI Γ nq4 42 z0, eI Γ nq5 96 z0]
  have K := KN.K (c := 5) (s := 264) (Nat.le_of_ble_eq_true rfl) (Nat.le_of_ble_eq_true rfl)
  refine r_putF KN dX7_init_41 (kf := 5) (ws1 := [eO h 5 [.ref nq1, .ref nq2, .ref nq3, .ref nq4, .int (nI 0), .ref nq5, .null, .null, .int (nI 0), .int (nI 0), .int (nI 0), .null, .null, .null, .null, .int (nI 0), .int (nI 0)], eI Γ nq1 42 z0, eI Γ nq2 42 z0, eI Γ nq3 42 z0, eI Γ nq4 42 z0, eI Γ nq5 96 z0]) 0 rfl rfl hinX7 tyX7 tyX7_ok nmX7 (by decide) q762 rfl rfl rfl (Nat.le_of_ble_eq_true rfl) rfl ?_
  refine r_aload_n K dX7_init_44 0 rfl ?_
  refine r_bipush K dX7_init_45 (nI 16) (by decide) ?_
  refine r_newa KN (c := 5) (s := 264) dX7_init_47 q60 (Nat.le_of_ble_eq_true rfl) (Nat.le_of_ble_eq_true rfl) (Nat.le_of_ble_eq_true rfl) (fun nq6 => ?_)
  show VV 6 280 49 [(0, .ref h)] [.ref nq6, .ref h] [eO h 5 [.ref nq1, .ref nq2, .ref nq3, .ref nq4, .int (nI 0), .ref nq5, .null, .null, .int (nI 0), .int (nI 0), .int (nI 0), .null, .null, .null, .null, .int (nI 0), .int (nI 0)], eI Γ nq1 42 z0, eI Γ nq2 42 z0, eI Γ nq3 42 z0, eI Γ nq4 42 z0, eI Γ nq5 96 z0, eI Γ nq6 16 z0]
  have K := KN.K (c := 6) (s := 280) (Nat.le_of_ble_eq_true rfl) (Nat.le_of_ble_eq_true rfl)
  refine r_putF KN dX7_init_49 (kf := 6) (ws1 := [eO h 5 [.ref nq1, .ref nq2, .ref nq3, .ref nq4, .int (nI 0), .ref nq5, .ref nq6, .null, .int (nI 0), .int (nI 0), .int (nI 0), .null, .null, .null, .null, .int (nI 0), .int (nI 0)], eI Γ nq1 42 z0, eI Γ nq2 42 z0, eI Γ nq3 42 z0, eI Γ nq4 42 z0, eI Γ nq5 96 z0, eI Γ nq6 16 z0]) 0 rfl rfl hinX7 tyX7 tyX7_ok nmX7 (by decide) q763 rfl rfl rfl (Nat.le_of_ble_eq_true rfl) rfl ?_
  refine r_aload_n K dX7_init_52 0 rfl ?_
  refine r_bipush K dX7_init_53 (nI 7) (by decide) ?_
  refine r_newa KN (c := 6) (s := 280) dX7_init_55 q60 (Nat.le_of_ble_eq_true rfl) (Nat.le_of_ble_eq_true rfl) (Nat.le_of_ble_eq_true rfl) (fun nq7 => ?_)
  show VV 7 287 57 [(0, .ref h)] [.ref nq7, .ref h] [eO h 5 [.ref nq1, .ref nq2, .ref nq3, .ref nq4, .int (nI 0), .ref nq5, .ref nq6, .null, .int (nI 0), .int (nI 0), .int (nI 0), .null, .null, .null, .null, .int (nI 0), .int (nI 0)], eI Γ nq1 42 z0, eI Γ nq2 42 z0, eI Γ nq3 42 z0, eI Γ nq4 42 z0, eI Γ nq5 96 z0, eI Γ nq6 16 z0, eI Γ nq7 7 z0]
  have K := KN.K (c := 7) (s := 287) (Nat.le_of_ble_eq_true rfl) (Nat.le_of_ble_eq_true rfl)
  refine r_putF KN dX7_init_57 (kf := 7) (ws1 := [eO h 5 [.ref nq1, .ref nq2, .ref nq3, .ref nq4, .int (nI 0), .ref nq5, .ref nq6, .ref nq7, .int (nI 0), .int (nI 0), .int (nI 0), .null, .null, .null, .null, .int (nI 0), .int (nI 0)], eI Γ nq1 42 z0, eI Γ nq2 42 z0, eI Γ nq3 42 z0, eI Γ nq4 42 z0, eI Γ nq5 96 z0, eI Γ nq6 16 z0, eI Γ nq7 7 z0]) 0 rfl rfl hinX7 tyX7 tyX7_ok nmX7 (by decide) q764 rfl rfl rfl (Nat.le_of_ble_eq_true rfl) rfl ?_
  refine r_aload_n K dX7_init_60 0 rfl ?_
  refine r_iconst K dX7_init_61 (nI 3) (by decide) ?_
  refine r_newa KN (c := 7) (s := 287) dX7_init_62 q60 (Nat.le_of_ble_eq_true rfl) (Nat.le_of_ble_eq_true rfl) (Nat.le_of_ble_eq_true rfl) (fun nq8 => ?_)
  show VV 8 290 64 [(0, .ref h)] [.ref nq8, .ref h] [eO h 5 [.ref nq1, .ref nq2, .ref nq3, .ref nq4, .int (nI 0), .ref nq5, .ref nq6, .ref nq7, .int (nI 0), .int (nI 0), .int (nI 0), .null, .null, .null, .null, .int (nI 0), .int (nI 0)], eI Γ nq1 42 z0, eI Γ nq2 42 z0, eI Γ nq3 42 z0, eI Γ nq4 42 z0, eI Γ nq5 96 z0, eI Γ nq6 16 z0, eI Γ nq7 7 z0, eI Γ nq8 3 z0]
  have K := KN.K (c := 8) (s := 290) (Nat.le_of_ble_eq_true rfl) (Nat.le_of_ble_eq_true rfl)
  refine r_putF KN dX7_init_64 (kf := 11) (ws1 := [eO h 5 [.ref nq1, .ref nq2, .ref nq3, .ref nq4, .int (nI 0), .ref nq5, .ref nq6, .ref nq7, .int (nI 0), .int (nI 0), .int (nI 0), .ref nq8, .null, .null, .null, .int (nI 0), .int (nI 0)], eI Γ nq1 42 z0, eI Γ nq2 42 z0, eI Γ nq3 42 z0, eI Γ nq4 42 z0, eI Γ nq5 96 z0, eI Γ nq6 16 z0, eI Γ nq7 7 z0, eI Γ nq8 3 z0]) 0 rfl rfl hinX7 tyX7 tyX7_ok nmX7 (by decide) q768 rfl rfl rfl (Nat.le_of_ble_eq_true rfl) rfl ?_
  refine r_aload_n K dX7_init_67 0 rfl ?_
  refine r_bipush K dX7_init_68 (nI 6) (by decide) ?_
  refine r_newa KN (c := 8) (s := 290) dX7_init_70 q60 (Nat.le_of_ble_eq_true rfl) (Nat.le_of_ble_eq_true rfl) (Nat.le_of_ble_eq_true rfl) (fun nq9 => ?_)
  show VV 9 296 72 [(0, .ref h)] [.ref nq9, .ref h] [eO h 5 [.ref nq1, .ref nq2, .ref nq3, .ref nq4, .int (nI 0), .ref nq5, .ref nq6, .ref nq7, .int (nI 0), .int (nI 0), .int (nI 0), .ref nq8, .null, .null, .null, .int (nI 0), .int (nI 0)], eI Γ nq1 42 z0, eI Γ nq2 42 z0, eI Γ nq3 42 z0, eI Γ nq4 42 z0, eI Γ nq5 96 z0, eI Γ nq6 16 z0, eI Γ nq7 7 z0, eI Γ nq8 3 z0, eI Γ nq9 6 z0]
  have K := KN.K (c := 9) (s := 296) (Nat.le_of_ble_eq_true rfl) (Nat.le_of_ble_eq_true rfl)
  refine r_putF KN dX7_init_72 (kf := 12) (ws1 := [eO h 5 [.ref nq1, .ref nq2, .ref nq3, .ref nq4, .int (nI 0), .ref nq5, .ref nq6, .ref nq7, .int (nI 0), .int (nI 0), .int (nI 0), .ref nq8, .ref nq9, .null, .null, .int (nI 0), .int (nI 0)], eI Γ nq1 42 z0, eI Γ nq2 42 z0, eI Γ nq3 42 z0, eI Γ nq4 42 z0, eI Γ nq5 96 z0, eI Γ nq6 16 z0, eI Γ nq7 7 z0, eI Γ nq8 3 z0, eI Γ nq9 6 z0]) 0 rfl rfl hinX7 tyX7 tyX7_ok nmX7 (by decide) q769 rfl rfl rfl (Nat.le_of_ble_eq_true rfl) rfl ?_
  refine r_aload_n K dX7_init_75 0 rfl ?_
  refine r_bipush K dX7_init_76 (nI 6) (by decide) ?_
  refine r_newa KN (c := 9) (s := 296) dX7_init_78 q60 (Nat.le_of_ble_eq_true rfl) (Nat.le_of_ble_eq_true rfl) (Nat.le_of_ble_eq_true rfl) (fun nq10 => ?_)
  show VV 10 302 80 [(0, .ref h)] [.ref nq10, .ref h] [eO h 5 [.ref nq1, .ref nq2, .ref nq3, .ref nq4, .int (nI 0), .ref nq5, .ref nq6, .ref nq7, .int (nI 0), .int (nI 0), .int (nI 0), .ref nq8, .ref nq9, .null, .null, .int (nI 0), .int (nI 0)], eI Γ nq1 42 z0, eI Γ nq2 42 z0, eI Γ nq3 42 z0, eI Γ nq4 42 z0, eI Γ nq5 96 z0, eI Γ nq6 16 z0, eI Γ nq7 7 z0, eI Γ nq8 3 z0, eI Γ nq9 6 z0, eI Γ nq10 6 z0]
  have K := KN.K (c := 10) (s := 302) (Nat.le_of_ble_eq_true rfl) (Nat.le_of_ble_eq_true rfl)
  refine r_putF KN dX7_init_80 (kf := 13) (ws1 := [eO h 5 [.ref nq1, .ref nq2, .ref nq3, .ref nq4, .int (nI 0), .ref nq5, .ref nq6, .ref nq7, .int (nI 0), .int (nI 0), .int (nI 0), .ref nq8, .ref nq9, .ref nq10, .null, .int (nI 0), .int (nI 0)], eI Γ nq1 42 z0, eI Γ nq2 42 z0, eI Γ nq3 42 z0, eI Γ nq4 42 z0, eI Γ nq5 96 z0, eI Γ nq6 16 z0, eI Γ nq7 7 z0, eI Γ nq8 3 z0, eI Γ nq9 6 z0, eI Γ nq10 6 z0]) 0 rfl rfl hinX7 tyX7 tyX7_ok nmX7 (by decide) q770 rfl rfl rfl (Nat.le_of_ble_eq_true rfl) rfl ?_
  refine r_aload_n K dX7_init_83 0 rfl ?_
  refine r_iconst K dX7_init_84 (nI 5) (by decide) ?_
  refine r_newa KN (c := 10) (s := 302) dX7_init_85 q60 (Nat.le_of_ble_eq_true rfl) (Nat.le_of_ble_eq_true rfl) (Nat.le_of_ble_eq_true rfl) (fun nq11 => ?_)
  show VV 11 307 87 [(0, .ref h)] [.ref nq11, .ref h] [eO h 5 [.ref nq1, .ref nq2, .ref nq3, .ref nq4, .int (nI 0), .ref nq5, .ref nq6, .ref nq7, .int (nI 0), .int (nI 0), .int (nI 0), .ref nq8, .ref nq9, .ref nq10, .null, .int (nI 0), .int (nI 0)], eI Γ nq1 42 z0, eI Γ nq2 42 z0, eI Γ nq3 42 z0, eI Γ nq4 42 z0, eI Γ nq5 96 z0, eI Γ nq6 16 z0, eI Γ nq7 7 z0, eI Γ nq8 3 z0, eI Γ nq9 6 z0, eI Γ nq10 6 z0, eI Γ nq11 5 z0]
  have K := KN.K (c := 11) (s := 307) (Nat.le_of_ble_eq_true rfl) (Nat.le_of_ble_eq_true rfl)
  refine r_putF KN dX7_init_87 (kf := 14) (ws1 := [eO h 5 [.ref nq1, .ref nq2, .ref nq3, .ref nq4, .int (nI 0), .ref nq5, .ref nq6, .ref nq7, .int (nI 0), .int (nI 0), .int (nI 0), .ref nq8, .ref nq9, .ref nq10, .ref nq11, .int (nI 0), .int (nI 0)], eI Γ nq1 42 z0, eI Γ nq2 42 z0, eI Γ nq3 42 z0, eI Γ nq4 42 z0, eI Γ nq5 96 z0, eI Γ nq6 16 z0, eI Γ nq7 7 z0, eI Γ nq8 3 z0, eI Γ nq9 6 z0, eI Γ nq10 6 z0, eI Γ nq11 5 z0]) 0 rfl rfl hinX7 tyX7 tyX7_ok nmX7 (by decide) q771 rfl rfl rfl (Nat.le_of_ble_eq_true rfl) rfl ?_
  exact hR (ad14 nq1 nq2 nq3 nq4 nq5 nq6 nq7 nq8 nq9 nq10 nq11 0 0 0) dX7_init_90 (Nat.le_of_ble_eq_true rfl) (Nat.le_of_ble_eq_true rfl) (by unfold moC; rw [fl1]; exact weq.rf)
