/-! THE REFERENCE: its reading -/
set_option maxHeartbeats 1000000 in
set_option maxRecDepth 20000 in
theorem c_X7_here (l : Launch) (Γ : eG) (h : Nat) (a : Nat → Nat) (hi : Bool) (lm : Nat) (rm : Nat) (pc : Nat) (bi : Int32) (sd : Int32) (lt : Nat → Int32) (hl : lm ≤ 96) (hpc : pc < 2 ^ 20) : cD l Γ yX7_here cX7_here 1 (some .int) 0 [.ref h] [mo h a hi lm rm pc bi sd, eI Γ (a 4) 96 lt] (some (.int (hrS lt lm pc))) [mo h a hi lm rm pc bi sd, eI Γ (a 4) 96 lt] := by
  refine e_int [(0, .ref h)] (by decide +kernel) (Nat.le_of_ble_eq_true rfl) rfl (fun V K hR => ?_)
  refine r_aload_n K dX7_here_0 0 rfl ?_
  refine r_get K dX7_here_1 (kf := 10) 0 rfl rfl hinX7 (by decide) q767 rfl rfl ?_
  refine r_aload_n K dX7_here_4 0 rfl ?_
  refine r_get K dX7_here_5 (kf := 8) 0 rfl rfl hinX7 (by decide) q765 rfl rfl ?_
  refine r_ic_geN K dX7_here_8 (by omega) (by omega) (fun c8 => ?_) (fun c8 => ?_)
  · refine r_iconst K dX7_here_23 ((-1)) (by decide) ?_
    exact hR () dX7_here_24 (trivial) (e_ri (hr_out (by omega))) (weq.rf)
  · refine r_aload_n K dX7_here_11 0 rfl ?_
    refine r_get K dX7_here_12 (kf := 5) 0 rfl rfl hinX7 (by decide) q762 rfl rfl ?_
    refine r_aload_n K dX7_here_15 0 rfl ?_
    refine r_get K dX7_here_16 (kf := 10) 0 rfl rfl hinX7 (by decide) q767 rfl rfl ?_
    refine r_aldN K dX7_here_19 1 rfl (by first | omega | exact iG_lt (by omega) (by decide) | exact iM_lt (by omega) (by decide)) (by decide) ?_
    refine r_goto K dX7_here_20 ?_
    exact hR () dX7_here_24 (trivial) (e_ri (if_pos c8)) (weq.rf)
set_option maxHeartbeats 1000000 in
set_option maxRecDepth 20000 in
theorem c_X7_readsNumber1 (l : Launch) (Γ : eG) (h : Nat) (a : Nat → Nat) (hi : Bool) (lm : Nat) (rm : Nat) (pc : Nat) (bi : Int32) (sd : Int32) (lt : Nat → Int32) (nb : Nat → Int32) (k : Nat) (hl : lm ≤ 96) (hpc : pc ≤ 1000) (hk : k < 3) : cD l Γ yX7_readsNumber cX7_readsNumber 4 (some .boolean) 1 [.ref h, .int (nI k), .int (nI 1)] [mo h a hi lm rm pc bi sd, eI Γ (a 4) 96 lt, eI Γ (a 7) 3 nb] (some (.int (bz (dgB1 lt lm pc)))) [mo h a hi lm rm (p1N lt lm pc) bi sd, eI Γ (a 4) 96 lt, eI Γ (a 7) 3 (upd nb k (d1V lt lm pc))] := by
  refine e_bool [(0, .ref h), (1, .int (nI k)), (2, .int (nI 1))] (by decide +kernel) (Nat.le_of_ble_eq_true rfl) rfl (fun V K hR => ?_)
  refine r_aload_n K dX7_readsNumber_0 0 rfl ?_
  refine r_get K dX7_readsNumber_1 (kf := 11) 0 rfl rfl hinX7 (by decide) q768 rfl rfl ?_
  refine r_iload_n K dX7_readsNumber_4 1 rfl ?_
  refine r_iconst K dX7_readsNumber_5 (nI 0) (by decide) ?_
  refine r_astN K dX7_readsNumber_6 (ws1 := [mo h a hi lm rm pc bi sd, eI Γ (a 4) 96 lt, eI Γ (a 7) 3 (upd nb k (nI 0))]) 2 rfl (by first | omega | exact iG_lt (by omega) (by decide) | exact iM_lt (by omega) (by decide)) (by decide) rfl ?_
  refine r_iconst K dX7_readsNumber_7 (nI 0) (by decide) ?_
  refine r_istore_n K dX7_readsNumber_8 rfl (by decide) (lv1 := [(3, .int (nI 0)), (0, .ref h), (1, .int (nI k)), (2, .int (nI 1))]) rfl ?_
  refine r_iload_n K dX7_readsNumber_9 0 rfl ?_
  refine r_iload_n K dX7_readsNumber_10 3 rfl ?_
  refine r_ic_geN K dX7_readsNumber_11 (by omega) (by omega) (fun c11 => ?_) (fun c11 => ?_)
  · exact absurd c11 (by omega)
  · refine r_aload_n K dX7_readsNumber_14 1 rfl ?_
    refine r_cVd K dX7_readsNumber_15 (c_X7_here l Γ h a hi lm rm pc bi sd lt (by first | assumption | omega) (by first | assumption | omega)) mX7_here q825 rfl (by decide) rfl rfl 3 rfl [0, 1] [2] rfl rfl [eI Γ (a 7) 3 (upd nb k (nI 0))] rfl [mo h a hi lm rm pc bi sd, eI Γ (a 4) 96 lt, eI Γ (a 7) 3 (upd nb k (nI 0))] rfl rfl rfl [] rfl (Nat.le_of_ble_eq_true rfl) ?_
    refine r_bipush K dX7_readsNumber_18 (nI 48) (by decide) ?_
    refine r_bipush K dX7_readsNumber_20 (nI 57) (by decide) ?_
    refine r_cSd K dX7_readsNumber_22 (c_X7_isIn l Γ (hrS lt lm pc) (nI 48) (nI 57)) mX7_isIn q833 rfl (by decide) 3 rfl [] [0, 1, 2] rfl rfl [mo h a hi lm rm pc bi sd, eI Γ (a 4) 96 lt, eI Γ (a 7) 3 (upd nb k (nI 0))] rfl [mo h a hi lm rm pc bi sd, eI Γ (a 4) 96 lt, eI Γ (a 7) 3 (upd nb k (nI 0))] rfl rfl rfl [] rfl (Nat.le_of_ble_eq_true rfl) ?_
    refine r_top (y := bz (dgB1 lt lm pc)) (rfl) ?_
    refine r_ifneB K dX7_readsNumber_25 (fun c25 => ?_) (fun c25 => ?_)
    · have g1 := c25
      refine r_aload_n K dX7_readsNumber_30 1 rfl ?_
      refine r_get K dX7_readsNumber_31 (kf := 11) 0 rfl rfl hinX7 (by decide) q768 rfl rfl ?_
      refine r_iload_n K dX7_readsNumber_34 2 rfl ?_
      refine r_bipush K dX7_readsNumber_35 (nI 10) (by decide) ?_
      refine r_aload_n K dX7_readsNumber_37 1 rfl ?_
      refine r_get K dX7_readsNumber_38 (kf := 11) 0 rfl rfl hinX7 (by decide) q768 rfl rfl ?_
      refine r_iload_n K dX7_readsNumber_41 2 rfl ?_
      refine r_aldN K dX7_readsNumber_42 2 rfl (by first | omega | exact iG_lt (by omega) (by decide) | exact iM_lt (by omega) (by decide)) (by decide) ?_
      refine r_top (y := nI 0) (upd_s) ?_
      refine r_imulN K dX7_readsNumber_43 ?_
      refine r_aload_n K dX7_readsNumber_44 1 rfl ?_
      refine r_cVd K dX7_readsNumber_45 (c_X7_here l Γ h a hi lm rm pc bi sd lt (by first | assumption | omega) (by first | assumption | omega)) mX7_here q825 rfl (by decide) rfl rfl 3 rfl [0, 1] [2] rfl rfl [eI Γ (a 7) 3 (upd nb k (nI 0))] rfl [mo h a hi lm rm pc bi sd, eI Γ (a 4) 96 lt, eI Γ (a 7) 3 (upd nb k (nI 0))] rfl rfl rfl [.int (nI (10 * 0)), .int (nI k), .ref (a 7)] rfl (Nat.le_of_ble_eq_true rfl) ?_
      refine r_iadd K dX7_readsNumber_48 ?_
      refine r_bipush K dX7_readsNumber_49 (nI 48) (by decide) ?_
      refine r_isub K dX7_readsNumber_51 ?_
      refine r_top (y := dgL lt lm pc) (by rw [add_sub48, dg_ok g1]; exact zero_addI _) ?_
      refine r_astN K dX7_readsNumber_52 (ws1 := [mo h a hi lm rm pc bi sd, eI Γ (a 4) 96 lt, eI Γ (a 7) 3 (upd (upd nb k (nI 0)) k (dgL lt lm pc))]) 2 rfl (by first | omega | exact iG_lt (by omega) (by decide) | exact iM_lt (by omega) (by decide)) (by decide) rfl ?_
      refine r_arr K (f2 := upd nb k (dgL lt lm pc)) (ws1 := [mo h a hi lm rm pc bi sd, eI Γ (a 4) 96 lt, eI Γ (a 7) 3 (upd nb k (dgL lt lm pc))]) 2 rfl (fun _ _ => by rw [upd_upd]) rfl ?_
      refine r_aload_n K dX7_readsNumber_53 1 rfl ?_
      refine r_dup K dX7_readsNumber_54 rfl ?_
      refine r_get K dX7_readsNumber_55 (kf := 10) 0 rfl rfl hinX7 (by decide) q767 rfl rfl ?_
      refine r_iconst K dX7_readsNumber_58 (nI 1) (by decide) ?_
      refine r_iaddN K dX7_readsNumber_59 ?_
      refine r_put K dX7_readsNumber_60 (kf := 10) (ty := .int) (ws1 := [mo h a hi lm rm (pc + 1) bi sd, eI Γ (a 4) 96 lt, eI Γ (a 7) 3 (upd nb k (dgL lt lm pc))]) 0 rfl rfl hinX7 tyX7 tyX7_ok nmX7 (by decide) q767 rfl (by decide +kernel) rfl rfl (Nat.le_of_ble_eq_true rfl) rfl ?_
      refine r_iincN K dX7_readsNumber_63 (n := 1) 0 rfl rfl (by decide) (lv1 := [(3, .int (nI (0 + 1))), (0, .ref h), (1, .int (nI k)), (2, .int (nI 1))]) rfl ?_
      refine r_goto K dX7_readsNumber_66 ?_
      refine r_lc (lv1 := [(3, .int (nI 1)), (0, .ref h), (1, .int (nI k)), (2, .int (nI 1))]) (rfl) ?_
      refine r_iload_n K dX7_readsNumber_9 0 rfl ?_
      refine r_iload_n K dX7_readsNumber_10 3 rfl ?_
      refine r_ic_geN K dX7_readsNumber_11 (by omega) (by omega) (fun c11 => ?_) (fun c11 => ?_)
      · refine r_iconst K dX7_readsNumber_69 (nI 1) (by decide) ?_
        exact hR () dX7_readsNumber_70 (rfl) (trivial) (e_ri (by rw [g1]; rfl)) (by rw [p1N_t g1, d1V_t g1]; exact weq.rf)
      · exact absurd c11 (by omega)
    · have g1 := c25
      refine r_iconst K dX7_readsNumber_28 (nI 0) (by decide) ?_
      exact hR () dX7_readsNumber_29 (rfl) (trivial) (e_ri (by rw [g1]; rfl)) (by rw [p1N_f g1, d1V_f g1]; exact weq.rf)
set_option maxHeartbeats 1000000 in
set_option maxRecDepth 20000 in
theorem c_X7_readsNumber2 (l : Launch) (Γ : eG) (h : Nat) (a : Nat → Nat) (hi : Bool) (lm : Nat) (rm : Nat) (pc : Nat) (bi : Int32) (sd : Int32) (lt : Nat → Int32) (nb : Nat → Int32) (k : Nat) (hl : lm ≤ 96) (hpc : pc ≤ 1000) (hk : k < 3) : cD l Γ yX7_readsNumber cX7_readsNumber 4 (some .boolean) 1 [.ref h, .int (nI k), .int (nI 2)] [mo h a hi lm rm pc bi sd, eI Γ (a 4) 96 lt, eI Γ (a 7) 3 nb] (some (.int (bz (dgB1 lt lm pc && dgB1 lt lm (pc + 1))))) [mo h a hi lm rm (p2N lt lm pc) bi sd, eI Γ (a 4) 96 lt, eI Γ (a 7) 3 (upd nb k (d2V lt lm pc))] := by
  refine e_bool [(0, .ref h), (1, .int (nI k)), (2, .int (nI 2))] (by decide +kernel) (Nat.le_of_ble_eq_true rfl) rfl (fun V K hR => ?_)
  refine r_aload_n K dX7_readsNumber_0 0 rfl ?_
  refine r_get K dX7_readsNumber_1 (kf := 11) 0 rfl rfl hinX7 (by decide) q768 rfl rfl ?_
  refine r_iload_n K dX7_readsNumber_4 1 rfl ?_
  refine r_iconst K dX7_readsNumber_5 (nI 0) (by decide) ?_
  refine r_astN K dX7_readsNumber_6 (ws1 := [mo h a hi lm rm pc bi sd, eI Γ (a 4) 96 lt, eI Γ (a 7) 3 (upd nb k (nI 0))]) 2 rfl (by first | omega | exact iG_lt (by omega) (by decide) | exact iM_lt (by omega) (by decide)) (by decide) rfl ?_
  refine r_iconst K dX7_readsNumber_7 (nI 0) (by decide) ?_
  refine r_istore_n K dX7_readsNumber_8 rfl (by decide) (lv1 := [(3, .int (nI 0)), (0, .ref h), (1, .int (nI k)), (2, .int (nI 2))]) rfl ?_
  refine r_iload_n K dX7_readsNumber_9 0 rfl ?_
  refine r_iload_n K dX7_readsNumber_10 3 rfl ?_
  refine r_ic_geN K dX7_readsNumber_11 (by omega) (by omega) (fun c11 => ?_) (fun c11 => ?_)
  · exact absurd c11 (by omega)
  · refine r_aload_n K dX7_readsNumber_14 1 rfl ?_
    refine r_cVd K dX7_readsNumber_15 (c_X7_here l Γ h a hi lm rm pc bi sd lt (by first | assumption | omega) (by first | assumption | omega)) mX7_here q825 rfl (by decide) rfl rfl 3 rfl [0, 1] [2] rfl rfl [eI Γ (a 7) 3 (upd nb k (nI 0))] rfl [mo h a hi lm rm pc bi sd, eI Γ (a 4) 96 lt, eI Γ (a 7) 3 (upd nb k (nI 0))] rfl rfl rfl [] rfl (Nat.le_of_ble_eq_true rfl) ?_
    refine r_bipush K dX7_readsNumber_18 (nI 48) (by decide) ?_
    refine r_bipush K dX7_readsNumber_20 (nI 57) (by decide) ?_
    refine r_cSd K dX7_readsNumber_22 (c_X7_isIn l Γ (hrS lt lm pc) (nI 48) (nI 57)) mX7_isIn q833 rfl (by decide) 3 rfl [] [0, 1, 2] rfl rfl [mo h a hi lm rm pc bi sd, eI Γ (a 4) 96 lt, eI Γ (a 7) 3 (upd nb k (nI 0))] rfl [mo h a hi lm rm pc bi sd, eI Γ (a 4) 96 lt, eI Γ (a 7) 3 (upd nb k (nI 0))] rfl rfl rfl [] rfl (Nat.le_of_ble_eq_true rfl) ?_
    refine r_top (y := bz (dgB1 lt lm pc)) (rfl) ?_
    refine r_ifneB K dX7_readsNumber_25 (fun c25 => ?_) (fun c25 => ?_)
    · have g1 := c25
      refine r_aload_n K dX7_readsNumber_30 1 rfl ?_
      refine r_get K dX7_readsNumber_31 (kf := 11) 0 rfl rfl hinX7 (by decide) q768 rfl rfl ?_
      refine r_iload_n K dX7_readsNumber_34 2 rfl ?_
      refine r_bipush K dX7_readsNumber_35 (nI 10) (by decide) ?_
      refine r_aload_n K dX7_readsNumber_37 1 rfl ?_
      refine r_get K dX7_readsNumber_38 (kf := 11) 0 rfl rfl hinX7 (by decide) q768 rfl rfl ?_
      refine r_iload_n K dX7_readsNumber_41 2 rfl ?_
      refine r_aldN K dX7_readsNumber_42 2 rfl (by first | omega | exact iG_lt (by omega) (by decide) | exact iM_lt (by omega) (by decide)) (by decide) ?_
      refine r_top (y := nI 0) (upd_s) ?_
      refine r_imulN K dX7_readsNumber_43 ?_
      refine r_aload_n K dX7_readsNumber_44 1 rfl ?_
      refine r_cVd K dX7_readsNumber_45 (c_X7_here l Γ h a hi lm rm pc bi sd lt (by first | assumption | omega) (by first | assumption | omega)) mX7_here q825 rfl (by decide) rfl rfl 3 rfl [0, 1] [2] rfl rfl [eI Γ (a 7) 3 (upd nb k (nI 0))] rfl [mo h a hi lm rm pc bi sd, eI Γ (a 4) 96 lt, eI Γ (a 7) 3 (upd nb k (nI 0))] rfl rfl rfl [.int (nI (10 * 0)), .int (nI k), .ref (a 7)] rfl (Nat.le_of_ble_eq_true rfl) ?_
      refine r_iadd K dX7_readsNumber_48 ?_
      refine r_bipush K dX7_readsNumber_49 (nI 48) (by decide) ?_
      refine r_isub K dX7_readsNumber_51 ?_
      refine r_top (y := dgL lt lm pc) (by rw [add_sub48, dg_ok g1]; exact zero_addI _) ?_
      refine r_astN K dX7_readsNumber_52 (ws1 := [mo h a hi lm rm pc bi sd, eI Γ (a 4) 96 lt, eI Γ (a 7) 3 (upd (upd nb k (nI 0)) k (dgL lt lm pc))]) 2 rfl (by first | omega | exact iG_lt (by omega) (by decide) | exact iM_lt (by omega) (by decide)) (by decide) rfl ?_
      refine r_arr K (f2 := upd nb k (dgL lt lm pc)) (ws1 := [mo h a hi lm rm pc bi sd, eI Γ (a 4) 96 lt, eI Γ (a 7) 3 (upd nb k (dgL lt lm pc))]) 2 rfl (fun _ _ => by rw [upd_upd]) rfl ?_
      refine r_aload_n K dX7_readsNumber_53 1 rfl ?_
      refine r_dup K dX7_readsNumber_54 rfl ?_
      refine r_get K dX7_readsNumber_55 (kf := 10) 0 rfl rfl hinX7 (by decide) q767 rfl rfl ?_
      refine r_iconst K dX7_readsNumber_58 (nI 1) (by decide) ?_
      refine r_iaddN K dX7_readsNumber_59 ?_
      refine r_put K dX7_readsNumber_60 (kf := 10) (ty := .int) (ws1 := [mo h a hi lm rm (pc + 1) bi sd, eI Γ (a 4) 96 lt, eI Γ (a 7) 3 (upd nb k (dgL lt lm pc))]) 0 rfl rfl hinX7 tyX7 tyX7_ok nmX7 (by decide) q767 rfl (by decide +kernel) rfl rfl (Nat.le_of_ble_eq_true rfl) rfl ?_
      refine r_iincN K dX7_readsNumber_63 (n := 1) 0 rfl rfl (by decide) (lv1 := [(3, .int (nI (0 + 1))), (0, .ref h), (1, .int (nI k)), (2, .int (nI 2))]) rfl ?_
      refine r_goto K dX7_readsNumber_66 ?_
      refine r_lc (lv1 := [(3, .int (nI 1)), (0, .ref h), (1, .int (nI k)), (2, .int (nI 2))]) (rfl) ?_
      refine r_iload_n K dX7_readsNumber_9 0 rfl ?_
      refine r_iload_n K dX7_readsNumber_10 3 rfl ?_
      refine r_ic_geN K dX7_readsNumber_11 (by omega) (by omega) (fun c11 => ?_) (fun c11 => ?_)
      · exact absurd c11 (by omega)
      · refine r_aload_n K dX7_readsNumber_14 1 rfl ?_
        refine r_cVd K dX7_readsNumber_15 (c_X7_here l Γ h a hi lm rm (pc + 1) bi sd lt (by first | assumption | omega) (by first | assumption | omega)) mX7_here q825 rfl (by decide) rfl rfl 3 rfl [0, 1] [2] rfl rfl [eI Γ (a 7) 3 (upd nb k (dgL lt lm pc))] rfl [mo h a hi lm rm (pc + 1) bi sd, eI Γ (a 4) 96 lt, eI Γ (a 7) 3 (upd nb k (dgL lt lm pc))] rfl rfl rfl [] rfl (Nat.le_of_ble_eq_true rfl) ?_
        refine r_bipush K dX7_readsNumber_18 (nI 48) (by decide) ?_
        refine r_bipush K dX7_readsNumber_20 (nI 57) (by decide) ?_
        refine r_cSd K dX7_readsNumber_22 (c_X7_isIn l Γ (hrS lt lm (pc + 1)) (nI 48) (nI 57)) mX7_isIn q833 rfl (by decide) 3 rfl [] [0, 1, 2] rfl rfl [mo h a hi lm rm (pc + 1) bi sd, eI Γ (a 4) 96 lt, eI Γ (a 7) 3 (upd nb k (dgL lt lm pc))] rfl [mo h a hi lm rm (pc + 1) bi sd, eI Γ (a 4) 96 lt, eI Γ (a 7) 3 (upd nb k (dgL lt lm pc))] rfl rfl rfl [] rfl (Nat.le_of_ble_eq_true rfl) ?_
        refine r_top (y := bz (dgB1 lt lm (pc + 1))) (rfl) ?_
        refine r_ifneB K dX7_readsNumber_25 (fun c25 => ?_) (fun c25 => ?_)
        · have g2 := c25
          refine r_aload_n K dX7_readsNumber_30 1 rfl ?_
          refine r_get K dX7_readsNumber_31 (kf := 11) 0 rfl rfl hinX7 (by decide) q768 rfl rfl ?_
          refine r_iload_n K dX7_readsNumber_34 2 rfl ?_
          refine r_bipush K dX7_readsNumber_35 (nI 10) (by decide) ?_
          refine r_aload_n K dX7_readsNumber_37 1 rfl ?_
          refine r_get K dX7_readsNumber_38 (kf := 11) 0 rfl rfl hinX7 (by decide) q768 rfl rfl ?_
          refine r_iload_n K dX7_readsNumber_41 2 rfl ?_
          refine r_aldN K dX7_readsNumber_42 2 rfl (by first | omega | exact iG_lt (by omega) (by decide) | exact iM_lt (by omega) (by decide)) (by decide) ?_
          refine r_top (y := dgL lt lm pc) (upd_s) ?_
          refine r_imul K dX7_readsNumber_43 ?_
          refine r_aload_n K dX7_readsNumber_44 1 rfl ?_
          refine r_cVd K dX7_readsNumber_45 (c_X7_here l Γ h a hi lm rm (pc + 1) bi sd lt (by first | assumption | omega) (by first | assumption | omega)) mX7_here q825 rfl (by decide) rfl rfl 3 rfl [0, 1] [2] rfl rfl [eI Γ (a 7) 3 (upd nb k (dgL lt lm pc))] rfl [mo h a hi lm rm (pc + 1) bi sd, eI Γ (a 4) 96 lt, eI Γ (a 7) 3 (upd nb k (dgL lt lm pc))] rfl rfl rfl [.int ((nI 10) * (dgL lt lm pc)), .int (nI k), .ref (a 7)] rfl (Nat.le_of_ble_eq_true rfl) ?_
          refine r_iadd K dX7_readsNumber_48 ?_
          refine r_bipush K dX7_readsNumber_49 (nI 48) (by decide) ?_
          refine r_isub K dX7_readsNumber_51 ?_
          refine r_top (y := twL lt lm pc) (by rw [add_sub48, dg_ok g2]; rfl) ?_
          refine r_astN K dX7_readsNumber_52 (ws1 := [mo h a hi lm rm (pc + 1) bi sd, eI Γ (a 4) 96 lt, eI Γ (a 7) 3 (upd (upd nb k (dgL lt lm pc)) k (twL lt lm pc))]) 2 rfl (by first | omega | exact iG_lt (by omega) (by decide) | exact iM_lt (by omega) (by decide)) (by decide) rfl ?_
          refine r_arr K (f2 := upd nb k (twL lt lm pc)) (ws1 := [mo h a hi lm rm (pc + 1) bi sd, eI Γ (a 4) 96 lt, eI Γ (a 7) 3 (upd nb k (twL lt lm pc))]) 2 rfl (fun _ _ => by rw [upd_upd]) rfl ?_
          refine r_aload_n K dX7_readsNumber_53 1 rfl ?_
          refine r_dup K dX7_readsNumber_54 rfl ?_
          refine r_get K dX7_readsNumber_55 (kf := 10) 0 rfl rfl hinX7 (by decide) q767 rfl rfl ?_
          refine r_iconst K dX7_readsNumber_58 (nI 1) (by decide) ?_
          refine r_iaddN K dX7_readsNumber_59 ?_
          refine r_put K dX7_readsNumber_60 (kf := 10) (ty := .int) (ws1 := [mo h a hi lm rm ((pc + 1) + 1) bi sd, eI Γ (a 4) 96 lt, eI Γ (a 7) 3 (upd nb k (twL lt lm pc))]) 0 rfl rfl hinX7 tyX7 tyX7_ok nmX7 (by decide) q767 rfl (by decide +kernel) rfl rfl (Nat.le_of_ble_eq_true rfl) rfl ?_
          refine r_iincN K dX7_readsNumber_63 (n := 1) 0 rfl rfl (by decide) (lv1 := [(3, .int (nI (1 + 1))), (0, .ref h), (1, .int (nI k)), (2, .int (nI 2))]) rfl ?_
          refine r_goto K dX7_readsNumber_66 ?_
          refine r_lc (lv1 := [(3, .int (nI 2)), (0, .ref h), (1, .int (nI k)), (2, .int (nI 2))]) (rfl) ?_
          refine r_iload_n K dX7_readsNumber_9 0 rfl ?_
          refine r_iload_n K dX7_readsNumber_10 3 rfl ?_
          refine r_ic_geN K dX7_readsNumber_11 (by omega) (by omega) (fun c11 => ?_) (fun c11 => ?_)
          · refine r_iconst K dX7_readsNumber_69 (nI 1) (by decide) ?_
            exact hR () dX7_readsNumber_70 (rfl) (trivial) (e_ri (by rw [and_tt g1 g2]; rfl)) (by rw [p2N_t g1 g2, d2V_t g1 g2]; exact weq.rf)
          · exact absurd c11 (by omega)
        · have g2 := c25
          refine r_iconst K dX7_readsNumber_28 (nI 0) (by decide) ?_
          exact hR () dX7_readsNumber_29 (rfl) (trivial) (e_ri (by rw [and_f2 g2]; rfl)) (by rw [p2N_m g1 g2, d2V_m g1 g2]; exact weq.rf)
    · have g1 := c25
      refine r_iconst K dX7_readsNumber_28 (nI 0) (by decide) ?_
      exact hR () dX7_readsNumber_29 (rfl) (trivial) (e_ri (by rw [and_f1 g1]; rfl)) (by rw [p2N_f g1, d2V_f g1]; exact weq.rf)
set_option maxHeartbeats 1000000 in
set_option maxRecDepth 20000 in
theorem c_X7_kindBy (l : Launch) (Γ : eG) (c : Int32)  : cD l Γ yX7_kindBy cX7_kindBy 1 (some .int) 0 [.int c] [] (some (.int (kindC c))) [] := by
  refine e_int [(0, .int c)] (by decide +kernel) (Nat.le_of_ble_eq_true rfl) rfl (fun V K hR => ?_)
  refine r_iload_n K dX7_kindBy_0 0 rfl ?_
  refine r_tsw K dX7_kindBy_1.1 [96, 100, 90, 100, 100, 100, 98, 88, 100, 92, 100, 100, 100, 100, 100, 100, 100, 94] 100 (by decide) (by decide) (by decide) ⟨fun c1 => ?_, fun c1 => ?_, fun c1 => ?_, fun c1 => ?_, fun c1 => ?_, fun c1 => ?_, fun c1 => ?_, fun c1 => ?_, fun c1 => ?_, fun c1 => ?_, fun c1 => ?_, fun c1 => ?_, fun c1 => ?_, fun c1 => ?_, fun c1 => ?_, fun c1 => ?_, fun c1 => ?_, fun c1 => ?_, trivial⟩ (fun c1 => ?_)
  · have c1 : c = nI 102 := c1
    refine r_iconst K dX7_kindBy_96 (nI 4) (by decide) ?_
    exact hR () dX7_kindBy_97 (trivial) (e_ri (by rw [c1]; rfl)) (weq.rf)
  · have c1 : c = nI 103 := c1
    refine r_bipush K dX7_kindBy_100 ((-9)) (by decide) ?_
    exact hR () dX7_kindBy_102 (trivial) (e_ri (by rw [c1]; rfl)) (weq.rf)
  · have c1 : c = nI 104 := c1
    refine r_iconst K dX7_kindBy_90 (nI 1) (by decide) ?_
    exact hR () dX7_kindBy_91 (trivial) (e_ri (by rw [c1]; rfl)) (weq.rf)
  · have c1 : c = nI 105 := c1
    refine r_bipush K dX7_kindBy_100 ((-9)) (by decide) ?_
    exact hR () dX7_kindBy_102 (trivial) (e_ri (by rw [c1]; rfl)) (weq.rf)
  · have c1 : c = nI 106 := c1
    refine r_bipush K dX7_kindBy_100 ((-9)) (by decide) ?_
    exact hR () dX7_kindBy_102 (trivial) (e_ri (by rw [c1]; rfl)) (weq.rf)
  · have c1 : c = nI 107 := c1
    refine r_bipush K dX7_kindBy_100 ((-9)) (by decide) ?_
    exact hR () dX7_kindBy_102 (trivial) (e_ri (by rw [c1]; rfl)) (weq.rf)
  · have c1 : c = nI 108 := c1
    refine r_iconst K dX7_kindBy_98 (nI 5) (by decide) ?_
    exact hR () dX7_kindBy_99 (trivial) (e_ri (by rw [c1]; rfl)) (weq.rf)
  · have c1 : c = nI 109 := c1
    refine r_iconst K dX7_kindBy_88 (nI 0) (by decide) ?_
    exact hR () dX7_kindBy_89 (trivial) (e_ri (by rw [c1]; rfl)) (weq.rf)
  · have c1 : c = nI 110 := c1
    refine r_bipush K dX7_kindBy_100 ((-9)) (by decide) ?_
    exact hR () dX7_kindBy_102 (trivial) (e_ri (by rw [c1]; rfl)) (weq.rf)
  · have c1 : c = nI 111 := c1
    refine r_iconst K dX7_kindBy_92 (nI 2) (by decide) ?_
    exact hR () dX7_kindBy_93 (trivial) (e_ri (by rw [c1]; rfl)) (weq.rf)
  · have c1 : c = nI 112 := c1
    refine r_bipush K dX7_kindBy_100 ((-9)) (by decide) ?_
    exact hR () dX7_kindBy_102 (trivial) (e_ri (by rw [c1]; rfl)) (weq.rf)
  · have c1 : c = nI 113 := c1
    refine r_bipush K dX7_kindBy_100 ((-9)) (by decide) ?_
    exact hR () dX7_kindBy_102 (trivial) (e_ri (by rw [c1]; rfl)) (weq.rf)
  · have c1 : c = nI 114 := c1
    refine r_bipush K dX7_kindBy_100 ((-9)) (by decide) ?_
    exact hR () dX7_kindBy_102 (trivial) (e_ri (by rw [c1]; rfl)) (weq.rf)
  · have c1 : c = nI 115 := c1
    refine r_bipush K dX7_kindBy_100 ((-9)) (by decide) ?_
    exact hR () dX7_kindBy_102 (trivial) (e_ri (by rw [c1]; rfl)) (weq.rf)
  · have c1 : c = nI 116 := c1
    refine r_bipush K dX7_kindBy_100 ((-9)) (by decide) ?_
    exact hR () dX7_kindBy_102 (trivial) (e_ri (by rw [c1]; rfl)) (weq.rf)
  · have c1 : c = nI 117 := c1
    refine r_bipush K dX7_kindBy_100 ((-9)) (by decide) ?_
    exact hR () dX7_kindBy_102 (trivial) (e_ri (by rw [c1]; rfl)) (weq.rf)
  · have c1 : c = nI 118 := c1
    refine r_bipush K dX7_kindBy_100 ((-9)) (by decide) ?_
    exact hR () dX7_kindBy_102 (trivial) (e_ri (by rw [c1]; rfl)) (weq.rf)
  · have c1 : c = nI 119 := c1
    refine r_iconst K dX7_kindBy_94 (nI 3) (by decide) ?_
    exact hR () dX7_kindBy_95 (trivial) (e_ri (by rw [c1]; rfl)) (weq.rf)
  · have c1 : ∀ v : Nat, 102 ≤ v → v ≤ 119 → v < 2 ^ 31 → ¬ c = nI v := tsw_out c1
    refine r_bipush K dX7_kindBy_100 ((-9)) (by decide) ?_
    exact hR () dX7_kindBy_102 (trivial) (e_ri (kindC_n c1)) (weq.rf)
set_option maxHeartbeats 1000000 in
set_option maxRecDepth 20000 in
theorem c_X7_readsKind (l : Launch) (Γ : eG) (h : Nat) (a : Nat → Nat) (hi : Bool) (lm : Nat) (rm : Nat) (pc : Nat) (bi : Int32) (sd : Int32) (lt : Nat → Int32) (nb : Nat → Int32) (hl : lm ≤ 96) (hpc : pc ≤ 1000) : cD l Γ yX7_readsKind cX7_readsKind 1 (some .boolean) 1 [.ref h] [mo h a hi lm rm pc bi sd, eI Γ (a 4) 96 lt, eI Γ (a 7) 3 nb] (some (.int (bz (kdB lt lm pc)))) [mo h a hi lm rm (pkN lt lm pc) bi sd, eI Γ (a 4) 96 lt, eI Γ (a 7) 3 (upd nb 0 (kindC (hrS lt lm pc)))] := by
  refine e_bool [(0, .ref h)] (by decide +kernel) (Nat.le_of_ble_eq_true rfl) rfl (fun V K hR => ?_)
  refine r_aload_n K dX7_readsKind_0 0 rfl ?_
  refine r_get K dX7_readsKind_1 (kf := 11) 0 rfl rfl hinX7 (by decide) q768 rfl rfl ?_
  refine r_iconst K dX7_readsKind_4 (nI 0) (by decide) ?_
  refine r_aload_n K dX7_readsKind_5 0 rfl ?_
  refine r_cVd K dX7_readsKind_6 (c_X7_here l Γ h a hi lm rm pc bi sd lt (by first | assumption | omega) (by first | assumption | omega)) mX7_here q825 rfl (by decide) rfl rfl 3 rfl [0, 1] [2] rfl rfl [eI Γ (a 7) 3 nb] rfl [mo h a hi lm rm pc bi sd, eI Γ (a 4) 96 lt, eI Γ (a 7) 3 nb] rfl rfl rfl [.int (nI 0), .ref (a 7)] rfl (Nat.le_of_ble_eq_true rfl) ?_
  refine r_cSd K dX7_readsKind_9 (c_X7_kindBy l Γ (hrS lt lm pc)) mX7_kindBy q840 rfl (by decide) 3 rfl [] [0, 1, 2] rfl rfl [mo h a hi lm rm pc bi sd, eI Γ (a 4) 96 lt, eI Γ (a 7) 3 nb] rfl [mo h a hi lm rm pc bi sd, eI Γ (a 4) 96 lt, eI Γ (a 7) 3 nb] rfl rfl rfl [.int (nI 0), .ref (a 7)] rfl (Nat.le_of_ble_eq_true rfl) ?_
  refine r_astN K dX7_readsKind_12 (ws1 := [mo h a hi lm rm pc bi sd, eI Γ (a 4) 96 lt, eI Γ (a 7) 3 (upd nb 0 (kindC (hrS lt lm pc)))]) 2 rfl (by first | omega | exact iG_lt (by omega) (by decide) | exact iM_lt (by omega) (by decide)) (by decide) rfl ?_
  refine r_aload_n K dX7_readsKind_13 0 rfl ?_
  refine r_dup K dX7_readsKind_14 rfl ?_
  refine r_get K dX7_readsKind_15 (kf := 10) 0 rfl rfl hinX7 (by decide) q767 rfl rfl ?_
  refine r_aload_n K dX7_readsKind_18 0 rfl ?_
  refine r_get K dX7_readsKind_19 (kf := 11) 0 rfl rfl hinX7 (by decide) q768 rfl rfl ?_
  refine r_iconst K dX7_readsKind_22 (nI 0) (by decide) ?_
  refine r_aldN K dX7_readsKind_23 2 rfl (by first | omega | exact iG_lt (by omega) (by decide) | exact iM_lt (by omega) (by decide)) (by decide) ?_
  refine r_top (y := kindC (hrS lt lm pc)) (upd_s) ?_
  refine r_if_ge K dX7_readsKind_24 (fun c24 => ?_) (fun c24 => ?_)
  · have hk : kdB lt lm pc = true := decide_eq_true c24
    refine r_iconst K dX7_readsKind_31 (nI 1) (by decide) ?_
    refine r_iaddN K dX7_readsKind_32 ?_
    refine r_put K dX7_readsKind_33 (kf := 10) (ty := .int) (ws1 := [mo h a hi lm rm (pc + 1) bi sd, eI Γ (a 4) 96 lt, eI Γ (a 7) 3 (upd nb 0 (kindC (hrS lt lm pc)))]) 0 rfl rfl hinX7 tyX7 tyX7_ok nmX7 (by decide) q767 rfl (by decide +kernel) rfl rfl (Nat.le_of_ble_eq_true rfl) rfl ?_
    refine r_aload_n K dX7_readsKind_36 0 rfl ?_
    refine r_get K dX7_readsKind_37 (kf := 11) 0 rfl rfl hinX7 (by decide) q768 rfl rfl ?_
    refine r_iconst K dX7_readsKind_40 (nI 0) (by decide) ?_
    refine r_aldN K dX7_readsKind_41 2 rfl (by first | omega | exact iG_lt (by omega) (by decide) | exact iM_lt (by omega) (by decide)) (by decide) ?_
    refine r_top (y := kindC (hrS lt lm pc)) (upd_s) ?_
    refine r_if_lt K dX7_readsKind_42 (fun c42 => ?_) (fun c42 => ?_)
    · exact absurd c24 (Int32.not_le.mpr c42)
    · refine r_iconst K dX7_readsKind_45 (nI 1) (by decide) ?_
      refine r_goto K dX7_readsKind_46 ?_
      exact hR () dX7_readsKind_50 (rfl) (trivial) (e_ri (by rw [hk]; rfl)) (by rw [pkN_t hk]; exact weq.rf)
  · have hk : kdB lt lm pc = false := decide_eq_false c24
    refine r_iconst K dX7_readsKind_27 (nI 0) (by decide) ?_
    refine r_goto K dX7_readsKind_28 ?_
    refine r_iaddN K dX7_readsKind_32 ?_
    refine r_put K dX7_readsKind_33 (kf := 10) (ty := .int) (ws1 := [mo h a hi lm rm (pc + 0) bi sd, eI Γ (a 4) 96 lt, eI Γ (a 7) 3 (upd nb 0 (kindC (hrS lt lm pc)))]) 0 rfl rfl hinX7 tyX7 tyX7_ok nmX7 (by decide) q767 rfl (by decide +kernel) rfl rfl (Nat.le_of_ble_eq_true rfl) rfl ?_
    refine r_aload_n K dX7_readsKind_36 0 rfl ?_
    refine r_get K dX7_readsKind_37 (kf := 11) 0 rfl rfl hinX7 (by decide) q768 rfl rfl ?_
    refine r_iconst K dX7_readsKind_40 (nI 0) (by decide) ?_
    refine r_aldN K dX7_readsKind_41 2 rfl (by first | omega | exact iG_lt (by omega) (by decide) | exact iM_lt (by omega) (by decide)) (by decide) ?_
    refine r_top (y := kindC (hrS lt lm pc)) (upd_s) ?_
    refine r_if_lt K dX7_readsKind_42 (fun c42 => ?_) (fun c42 => ?_)
    · refine r_iconst K dX7_readsKind_49 (nI 0) (by decide) ?_
      exact hR () dX7_readsKind_50 (rfl) (trivial) (e_ri (by rw [hk]; rfl)) (by rw [pkN_f hk]; exact weq.rf)
    · exact absurd (Int32.not_lt.mp c42) c24
set_option maxHeartbeats 1000000 in
set_option maxRecDepth 20000 in
theorem c_X7_readsStatement (l : Launch) (Γ : eG) (h : Nat) (a : Nat → Nat) (hi : Bool) (lm : Nat) (rm : Nat) (pc : Nat) (bi : Int32) (sd : Int32) (lt : Nat → Int32) (nb : Nat → Int32) (hl : lm ≤ 96) (hpc : pc ≤ 200) : cE l Γ yX7_readsStatement cX7_readsStatement 3 (some .boolean) 2 [.ref h] [mo h a hi lm rm pc bi sd, eI Γ (a 4) 96 lt, eI Γ (a 7) 3 nb] (S := Nat → Int32) (fun u => rsB lt lm pc = true → nbO lt lm pc u) (fun u => (some (.int (bz (rsB lt lm pc))))) (fun u => [mo h a hi lm rm (rsP lt lm pc) bi sd, eI Γ (a 4) 96 lt, eI Γ (a 7) 3 u]) := by
  refine e_bool [(0, .ref h)] (by decide +kernel) (Nat.le_of_ble_eq_true rfl) rfl (fun V K hR => ?_)
  refine r_aload_n K dX7_readsStatement_0 0 rfl ?_
  refine r_cVd K dX7_readsStatement_1 (c_X7_here l Γ h a hi lm rm pc bi sd lt (by first | assumption | omega) (by first | assumption | omega)) mX7_here q825 rfl (by decide) rfl rfl 3 rfl [0, 1] [2] rfl rfl [eI Γ (a 7) 3 nb] rfl [mo h a hi lm rm pc bi sd, eI Γ (a 4) 96 lt, eI Γ (a 7) 3 nb] rfl rfl rfl [] rfl (Nat.le_of_ble_eq_true rfl) ?_
  refine r_istore_n K dX7_readsStatement_4 rfl (by decide) (lv1 := [(1, .int (hrS lt lm pc)), (0, .ref h)]) rfl ?_
  refine r_aload_n K dX7_readsStatement_5 1 rfl ?_
  refine r_dup K dX7_readsStatement_6 rfl ?_
  refine r_get K dX7_readsStatement_7 (kf := 10) 0 rfl rfl hinX7 (by decide) q767 rfl rfl ?_
  refine r_iconst K dX7_readsStatement_10 (nI 1) (by decide) ?_
  refine r_iaddN K dX7_readsStatement_11 ?_
  refine r_put K dX7_readsStatement_12 (kf := 10) (ty := .int) (ws1 := [mo h a hi lm rm (pc + 1) bi sd, eI Γ (a 4) 96 lt, eI Γ (a 7) 3 nb]) 0 rfl rfl hinX7 tyX7 tyX7_ok nmX7 (by decide) q767 rfl (by decide +kernel) rfl rfl (Nat.le_of_ble_eq_true rfl) rfl ?_
  refine r_iload_n K dX7_readsStatement_15 0 rfl ?_
  refine r_tsw K dX7_readsStatement_16.1 [156, 193, 193, 183, 193, 193, 112, 156, 193, 193, 193, 193, 122, 112, 193, 193, 193, 193, 193, 112] 193 (by decide) (by decide) (by decide) ⟨fun c16 => ?_, fun c16 => ?_, fun c16 => ?_, fun c16 => ?_, fun c16 => ?_, fun c16 => ?_, fun c16 => ?_, fun c16 => ?_, fun c16 => ?_, fun c16 => ?_, fun c16 => ?_, fun c16 => ?_, fun c16 => ?_, fun c16 => ?_, fun c16 => ?_, fun c16 => ?_, fun c16 => ?_, fun c16 => ?_, fun c16 => ?_, fun c16 => ?_, trivial⟩ (fun c16 => ?_)
  · have c16 : hrS lt lm pc = nI 97 := c16
    have hps := hr_v c16 (by decide)
    have hp := hps.1
    have hs := hps.2
    have hL : lnS (sgS lt lm pc) = 4 := by rw [hs]; rfl
    have hn : ¬ sgS lt lm pc = nI 109 := n109 hs (by decide) (by decide)
    refine r_aload_n K dX7_readsStatement_156 1 rfl ?_
    refine r_iconst K dX7_readsStatement_157 (nI 0) (by decide) ?_
    refine r_iconst K dX7_readsStatement_158 (nI 1) (by decide) ?_
    refine r_cVd K dX7_readsStatement_159 (c_X7_readsNumber1 l Γ h a hi lm rm (pc + 1) bi sd lt nb 0 (by first | assumption | omega) (by first | assumption | omega) (by first | assumption | omega)) mX7_readsNumber q829 rfl (by decide) rfl rfl 3 rfl [0, 1, 2] [] rfl rfl [] rfl [mo h a hi lm rm (p1N lt lm (pc + 1)) bi sd, eI Γ (a 4) 96 lt, eI Γ (a 7) 3 (upd nb 0 (d1V lt lm (pc + 1)))] rfl rfl rfl [] rfl (Nat.le_of_ble_eq_true rfl) ?_
    refine r_ifeqB K dX7_readsStatement_162 (fun c162 => ?_) (fun c162 => ?_)
    · have hrs := rs_n hp hL (by decide) (by rw [mi4 hn, if_neg (nt c162)])
      refine r_ws K (ws1 := [mo h a hi lm rm (pc + 1) bi sd, eI Γ (a 4) 96 lt, eI Γ (a 7) 3 (upd nb 0 (d1V lt lm (pc + 1)))]) (by rw [p1N_f c162]; exact weq.rf) ?_
      refine r_iconst K dX7_readsStatement_178 (nI 0) (by decide) ?_
      refine r_istore_n K dX7_readsStatement_179 rfl (by decide) (lv1 := [(2, .int (nI 0)), (1, .int (hrS lt lm pc)), (0, .ref h)]) rfl ?_
      refine r_goto K dX7_readsStatement_180 ?_
      refine r_iload_n K dX7_readsStatement_205 0 rfl ?_
      refine r_if_eqN K dX7_readsStatement_206 (by omega) (fun c206 => ?_) (fun c206 => ?_)
      · refine r_iconst K dX7_readsStatement_218 (nI 0) (by decide) ?_
        exact hR (upd nb 0 (d1V lt lm (pc + 1))) dX7_readsStatement_219 (rfl) ((fun z => absurd (hrs.1.symm.trans z) (by decide))) (e_ri (by rw [hrs.1]; rfl)) (by rw [hrs.2]; exact weq.rf)
      · exact absurd c206 (by omega)
    · refine r_ws K (ws1 := [mo h a hi lm rm (pc + 2) bi sd, eI Γ (a 4) 96 lt, eI Γ (a 7) 3 (upd nb 0 (d1V lt lm (pc + 1)))]) (by rw [show p1N lt lm (pc + 1) = pc + 2 from p1N_t c162]; exact weq.rf) ?_
      refine r_arr K (f2 := upd nb 0 (dgL lt lm (pc + 1))) (ws1 := [mo h a hi lm rm (pc + 2) bi sd, eI Γ (a 4) 96 lt, eI Γ (a 7) 3 (upd nb 0 (dgL lt lm (pc + 1)))]) 2 rfl (fun _ _ => by rw [d1V_t c162]) rfl ?_
      refine r_aload_n K dX7_readsStatement_165 1 rfl ?_
      refine r_iconst K dX7_readsStatement_166 (nI 1) (by decide) ?_
      refine r_iconst K dX7_readsStatement_167 (nI 1) (by decide) ?_
      refine r_cVd K dX7_readsStatement_168 (c_X7_readsNumber1 l Γ h a hi lm rm (pc + 2) bi sd lt (upd nb 0 (dgL lt lm (pc + 1))) 1 (by first | assumption | omega) (by first | assumption | omega) (by first | assumption | omega)) mX7_readsNumber q829 rfl (by decide) rfl rfl 3 rfl [0, 1, 2] [] rfl rfl [] rfl [mo h a hi lm rm (p1N lt lm (pc + 2)) bi sd, eI Γ (a 4) 96 lt, eI Γ (a 7) 3 (upd (upd nb 0 (dgL lt lm (pc + 1))) 1 (d1V lt lm (pc + 2)))] rfl rfl rfl [] rfl (Nat.le_of_ble_eq_true rfl) ?_
      refine r_ifeqB K dX7_readsStatement_171 (fun c171 => ?_) (fun c171 => ?_)
      · have hrs := rs_n hp hL (by decide) (by rw [mi4 hn, if_pos c162, if_neg (nt c171)])
        refine r_ws K (ws1 := [mo h a hi lm rm (pc + 2) bi sd, eI Γ (a 4) 96 lt, eI Γ (a 7) 3 (upd (upd nb 0 (dgL lt lm (pc + 1))) 1 (d1V lt lm (pc + 2)))]) (by rw [p1N_f c171]; exact weq.rf) ?_
        refine r_iconst K dX7_readsStatement_178 (nI 0) (by decide) ?_
        refine r_istore_n K dX7_readsStatement_179 rfl (by decide) (lv1 := [(2, .int (nI 0)), (1, .int (hrS lt lm pc)), (0, .ref h)]) rfl ?_
        refine r_goto K dX7_readsStatement_180 ?_
        refine r_iload_n K dX7_readsStatement_205 0 rfl ?_
        refine r_if_eqN K dX7_readsStatement_206 (by omega) (fun c206 => ?_) (fun c206 => ?_)
        · refine r_iconst K dX7_readsStatement_218 (nI 0) (by decide) ?_
          exact hR (upd (upd nb 0 (dgL lt lm (pc + 1))) 1 (d1V lt lm (pc + 2))) dX7_readsStatement_219 (rfl) ((fun z => absurd (hrs.1.symm.trans z) (by decide))) (e_ri (by rw [hrs.1]; rfl)) (by rw [hrs.2]; exact weq.rf)
        · exact absurd c206 (by omega)
      · refine r_ws K (ws1 := [mo h a hi lm rm (pc + 3) bi sd, eI Γ (a 4) 96 lt, eI Γ (a 7) 3 (upd (upd nb 0 (dgL lt lm (pc + 1))) 1 (d1V lt lm (pc + 2)))]) (by rw [show p1N lt lm (pc + 2) = pc + 3 from p1N_t c171]; exact weq.rf) ?_
        refine r_arr K (f2 := upd (upd nb 0 (dgL lt lm (pc + 1))) 1 (dgL lt lm (pc + 2))) (ws1 := [mo h a hi lm rm (pc + 3) bi sd, eI Γ (a 4) 96 lt, eI Γ (a 7) 3 (upd (upd nb 0 (dgL lt lm (pc + 1))) 1 (dgL lt lm (pc + 2)))]) 2 rfl (fun _ _ => by rw [d1V_t c171]) rfl ?_
        refine r_iconst K dX7_readsStatement_174 (nI 1) (by decide) ?_
        refine r_goto K dX7_readsStatement_175 ?_
        refine r_istore_n K dX7_readsStatement_179 rfl (by decide) (lv1 := [(2, .int (nI 1)), (1, .int (hrS lt lm pc)), (0, .ref h)]) rfl ?_
        refine r_goto K dX7_readsStatement_180 ?_
        refine r_iload_n K dX7_readsStatement_205 0 rfl ?_
        refine r_if_eqN K dX7_readsStatement_206 (by omega) (fun c206 => ?_) (fun c206 => ?_)
        · exact absurd c206 (by omega)
        · refine r_aload_n K dX7_readsStatement_209 2 rfl ?_
          refine r_cVd K dX7_readsStatement_210 (c_X7_here l Γ h a hi lm rm (pc + 3) bi sd lt (by first | assumption | omega) (by first | assumption | omega)) mX7_here q825 rfl (by decide) rfl rfl 3 rfl [0, 1] [2] rfl rfl [eI Γ (a 7) 3 (upd (upd nb 0 (dgL lt lm (pc + 1))) 1 (dgL lt lm (pc + 2)))] rfl [mo h a hi lm rm (pc + 3) bi sd, eI Γ (a 4) 96 lt, eI Γ (a 7) 3 (upd (upd nb 0 (dgL lt lm (pc + 1))) 1 (dgL lt lm (pc + 2)))] rfl rfl rfl [] rfl (Nat.le_of_ble_eq_true rfl) ?_
          refine r_bipush K dX7_readsStatement_213 (nI 59) (by decide) ?_
          refine r_ic_eq K dX7_readsStatement_215 (fun c215 => ?_) (fun c215 => ?_)
          · have hrs := rs_y hp hL (by decide) (by rw [mi4 hn, if_pos c162, if_pos c171, if_pos c215])
            refine r_aload_n K dX7_readsStatement_220 2 rfl ?_
            refine r_dup K dX7_readsStatement_221 rfl ?_
            refine r_get K dX7_readsStatement_222 (kf := 10) 0 rfl rfl hinX7 (by decide) q767 rfl rfl ?_
            refine r_iconst K dX7_readsStatement_225 (nI 1) (by decide) ?_
            refine r_iaddN K dX7_readsStatement_226 ?_
            refine r_put K dX7_readsStatement_227 (kf := 10) (ty := .int) (ws1 := [mo h a hi lm rm ((pc + 3) + 1) bi sd, eI Γ (a 4) 96 lt, eI Γ (a 7) 3 (upd (upd nb 0 (dgL lt lm (pc + 1))) 1 (dgL lt lm (pc + 2)))]) 0 rfl rfl hinX7 tyX7 tyX7_ok nmX7 (by decide) q767 rfl (by decide +kernel) rfl rfl (Nat.le_of_ble_eq_true rfl) rfl ?_
            refine r_iconst K dX7_readsStatement_230 (nI 1) (by decide) ?_
            exact hR (upd (upd nb 0 (dgL lt lm (pc + 1))) 1 (dgL lt lm (pc + 2))) dX7_readsStatement_231 (rfl) ((fun _ => nbO_a hs (by decide) ((upd_n (by decide)).trans upd_s) upd_s)) (e_ri (by rw [hrs.1]; rfl)) (by rw [hrs.2]; exact weq.rf)
          · have hrs := rs_n hp hL (by decide) (by rw [mi4 hn, if_pos c162, if_pos c171, if_neg c215])
            refine r_iconst K dX7_readsStatement_218 (nI 0) (by decide) ?_
            exact hR (upd (upd nb 0 (dgL lt lm (pc + 1))) 1 (dgL lt lm (pc + 2))) dX7_readsStatement_219 (rfl) ((fun z => absurd (hrs.1.symm.trans z) (by decide))) (e_ri (by rw [hrs.1]; rfl)) (by rw [hrs.2]; exact weq.rf)
  · have c16 : hrS lt lm pc = nI 98 := c16
    have hps := hr_v c16 (by decide)
    have hp := hps.1
    have hs := hps.2
    have hrs := rs_0 (lt := lt) (lm := lm) (p := pc) (fun z => z.2 (by rw [hs]; rfl))
    refine r_aload_n K dX7_readsStatement_193 1 rfl ?_
    refine r_dup K dX7_readsStatement_194 rfl ?_
    refine r_get K dX7_readsStatement_195 (kf := 10) 0 rfl rfl hinX7 (by decide) q767 rfl rfl ?_
    refine r_iconst K dX7_readsStatement_198 (nI 1) (by decide) ?_
    refine r_isubN K dX7_readsStatement_199 (by omega) ?_
    refine r_put K dX7_readsStatement_200 (kf := 10) (ty := .int) (ws1 := [mo h a hi lm rm ((pc + 1) - 1) bi sd, eI Γ (a 4) 96 lt, eI Γ (a 7) 3 nb]) 0 rfl rfl hinX7 tyX7 tyX7_ok nmX7 (by decide) q767 rfl (by decide +kernel) rfl rfl (Nat.le_of_ble_eq_true rfl) rfl ?_
    refine r_iconst K dX7_readsStatement_203 (nI 0) (by decide) ?_
    exact hR nb dX7_readsStatement_204 (rfl) ((fun z => absurd (hrs.1.symm.trans z) (by decide))) (e_ri (by rw [hrs.1]; rfl)) (by rw [hrs.2]; exact weq.rf)
  · have c16 : hrS lt lm pc = nI 99 := c16
    have hps := hr_v c16 (by decide)
    have hp := hps.1
    have hs := hps.2
    have hrs := rs_0 (lt := lt) (lm := lm) (p := pc) (fun z => z.2 (by rw [hs]; rfl))
    refine r_aload_n K dX7_readsStatement_193 1 rfl ?_
    refine r_dup K dX7_readsStatement_194 rfl ?_
    refine r_get K dX7_readsStatement_195 (kf := 10) 0 rfl rfl hinX7 (by decide) q767 rfl rfl ?_
    refine r_iconst K dX7_readsStatement_198 (nI 1) (by decide) ?_
    refine r_isubN K dX7_readsStatement_199 (by omega) ?_
    refine r_put K dX7_readsStatement_200 (kf := 10) (ty := .int) (ws1 := [mo h a hi lm rm ((pc + 1) - 1) bi sd, eI Γ (a 4) 96 lt, eI Γ (a 7) 3 nb]) 0 rfl rfl hinX7 tyX7 tyX7_ok nmX7 (by decide) q767 rfl (by decide +kernel) rfl rfl (Nat.le_of_ble_eq_true rfl) rfl ?_
    refine r_iconst K dX7_readsStatement_203 (nI 0) (by decide) ?_
    exact hR nb dX7_readsStatement_204 (rfl) ((fun z => absurd (hrs.1.symm.trans z) (by decide))) (e_ri (by rw [hrs.1]; rfl)) (by rw [hrs.2]; exact weq.rf)
  · have c16 : hrS lt lm pc = nI 100 := c16
    have hps := hr_v c16 (by decide)
    have hp := hps.1
    have hs := hps.2
    have hL : lnS (sgS lt lm pc) = 4 := by rw [hs]; rfl
    have hn : ¬ sgS lt lm pc = nI 109 := n109 hs (by decide) (by decide)
    refine r_aload_n K dX7_readsStatement_183 1 rfl ?_
    refine r_iconst K dX7_readsStatement_184 (nI 0) (by decide) ?_
    refine r_iconst K dX7_readsStatement_185 (nI 2) (by decide) ?_
    refine r_cVd K dX7_readsStatement_186 (c_X7_readsNumber2 l Γ h a hi lm rm (pc + 1) bi sd lt nb 0 (by first | assumption | omega) (by first | assumption | omega) (by first | assumption | omega)) mX7_readsNumber q829 rfl (by decide) rfl rfl 3 rfl [0, 1, 2] [] rfl rfl [] rfl [mo h a hi lm rm (p2N lt lm (pc + 1)) bi sd, eI Γ (a 4) 96 lt, eI Γ (a 7) 3 (upd nb 0 (d2V lt lm (pc + 1)))] rfl rfl rfl [] rfl (Nat.le_of_ble_eq_true rfl) ?_
    refine r_istore_n K dX7_readsStatement_189 rfl (by decide) (lv1 := [(2, .int (bz (dgB1 lt lm (pc + 1) && dgB1 lt lm ((pc + 1) + 1)))), (1, .int (hrS lt lm pc)), (0, .ref h)]) rfl ?_
    refine r_goto K dX7_readsStatement_190 ?_
    refine r_iload_n K dX7_readsStatement_205 0 rfl ?_
    refine r_ifeqB K dX7_readsStatement_206 (fun c206 => ?_) (fun c206 => ?_)
    · have hrs := rs_n hp hL (by decide) (by rw [mi4 hn, mi2f c206])
      refine r_iconst K dX7_readsStatement_218 (nI 0) (by decide) ?_
      exact hR (upd nb 0 (d2V lt lm (pc + 1))) dX7_readsStatement_219 (rfl) ((fun z => absurd (hrs.1.symm.trans z) (by decide))) (e_ri (by rw [hrs.1]; rfl)) (by rw [hrs.2]; exact weq.rf)
    · refine r_ws K (ws1 := [mo h a hi lm rm (pc + 3) bi sd, eI Γ (a 4) 96 lt, eI Γ (a 7) 3 (upd nb 0 (d2V lt lm (pc + 1)))]) (by rw [show p2N lt lm (pc + 1) = pc + 3 from p2N_and c206]; exact weq.rf) ?_
      refine r_arr K (f2 := upd nb 0 (twL lt lm (pc + 1))) (ws1 := [mo h a hi lm rm (pc + 3) bi sd, eI Γ (a 4) 96 lt, eI Γ (a 7) 3 (upd nb 0 (twL lt lm (pc + 1)))]) 2 rfl (fun _ _ => by rw [d2V_and c206]) rfl ?_
      refine r_aload_n K dX7_readsStatement_209 2 rfl ?_
      refine r_cVd K dX7_readsStatement_210 (c_X7_here l Γ h a hi lm rm (pc + 3) bi sd lt (by first | assumption | omega) (by first | assumption | omega)) mX7_here q825 rfl (by decide) rfl rfl 3 rfl [0, 1] [2] rfl rfl [eI Γ (a 7) 3 (upd nb 0 (twL lt lm (pc + 1)))] rfl [mo h a hi lm rm (pc + 3) bi sd, eI Γ (a 4) 96 lt, eI Γ (a 7) 3 (upd nb 0 (twL lt lm (pc + 1)))] rfl rfl rfl [] rfl (Nat.le_of_ble_eq_true rfl) ?_
      refine r_bipush K dX7_readsStatement_213 (nI 59) (by decide) ?_
      refine r_ic_eq K dX7_readsStatement_215 (fun c215 => ?_) (fun c215 => ?_)
      · have hrs := rs_y hp hL (by decide) (by rw [mi4 hn, mi2t c206, if_pos c215])
        refine r_aload_n K dX7_readsStatement_220 2 rfl ?_
        refine r_dup K dX7_readsStatement_221 rfl ?_
        refine r_get K dX7_readsStatement_222 (kf := 10) 0 rfl rfl hinX7 (by decide) q767 rfl rfl ?_
        refine r_iconst K dX7_readsStatement_225 (nI 1) (by decide) ?_
        refine r_iaddN K dX7_readsStatement_226 ?_
        refine r_put K dX7_readsStatement_227 (kf := 10) (ty := .int) (ws1 := [mo h a hi lm rm ((pc + 3) + 1) bi sd, eI Γ (a 4) 96 lt, eI Γ (a 7) 3 (upd nb 0 (twL lt lm (pc + 1)))]) 0 rfl rfl hinX7 tyX7 tyX7_ok nmX7 (by decide) q767 rfl (by decide +kernel) rfl rfl (Nat.le_of_ble_eq_true rfl) rfl ?_
        refine r_iconst K dX7_readsStatement_230 (nI 1) (by decide) ?_
        exact hR (upd nb 0 (twL lt lm (pc + 1))) dX7_readsStatement_231 (rfl) ((fun _ => nbO_d hs upd_s)) (e_ri (by rw [hrs.1]; rfl)) (by rw [hrs.2]; exact weq.rf)
      · have hrs := rs_n hp hL (by decide) (by rw [mi4 hn, mi2t c206, if_neg c215])
        refine r_iconst K dX7_readsStatement_218 (nI 0) (by decide) ?_
        exact hR (upd nb 0 (twL lt lm (pc + 1))) dX7_readsStatement_219 (rfl) ((fun z => absurd (hrs.1.symm.trans z) (by decide))) (e_ri (by rw [hrs.1]; rfl)) (by rw [hrs.2]; exact weq.rf)
  · have c16 : hrS lt lm pc = nI 101 := c16
    have hps := hr_v c16 (by decide)
    have hp := hps.1
    have hs := hps.2
    have hrs := rs_0 (lt := lt) (lm := lm) (p := pc) (fun z => z.2 (by rw [hs]; rfl))
    refine r_aload_n K dX7_readsStatement_193 1 rfl ?_
    refine r_dup K dX7_readsStatement_194 rfl ?_
    refine r_get K dX7_readsStatement_195 (kf := 10) 0 rfl rfl hinX7 (by decide) q767 rfl rfl ?_
    refine r_iconst K dX7_readsStatement_198 (nI 1) (by decide) ?_
    refine r_isubN K dX7_readsStatement_199 (by omega) ?_
    refine r_put K dX7_readsStatement_200 (kf := 10) (ty := .int) (ws1 := [mo h a hi lm rm ((pc + 1) - 1) bi sd, eI Γ (a 4) 96 lt, eI Γ (a 7) 3 nb]) 0 rfl rfl hinX7 tyX7 tyX7_ok nmX7 (by decide) q767 rfl (by decide +kernel) rfl rfl (Nat.le_of_ble_eq_true rfl) rfl ?_
    refine r_iconst K dX7_readsStatement_203 (nI 0) (by decide) ?_
    exact hR nb dX7_readsStatement_204 (rfl) ((fun z => absurd (hrs.1.symm.trans z) (by decide))) (e_ri (by rw [hrs.1]; rfl)) (by rw [hrs.2]; exact weq.rf)
  · have c16 : hrS lt lm pc = nI 102 := c16
    have hps := hr_v c16 (by decide)
    have hp := hps.1
    have hs := hps.2
    have hrs := rs_0 (lt := lt) (lm := lm) (p := pc) (fun z => z.2 (by rw [hs]; rfl))
    refine r_aload_n K dX7_readsStatement_193 1 rfl ?_
    refine r_dup K dX7_readsStatement_194 rfl ?_
    refine r_get K dX7_readsStatement_195 (kf := 10) 0 rfl rfl hinX7 (by decide) q767 rfl rfl ?_
    refine r_iconst K dX7_readsStatement_198 (nI 1) (by decide) ?_
    refine r_isubN K dX7_readsStatement_199 (by omega) ?_
    refine r_put K dX7_readsStatement_200 (kf := 10) (ty := .int) (ws1 := [mo h a hi lm rm ((pc + 1) - 1) bi sd, eI Γ (a 4) 96 lt, eI Γ (a 7) 3 nb]) 0 rfl rfl hinX7 tyX7 tyX7_ok nmX7 (by decide) q767 rfl (by decide +kernel) rfl rfl (Nat.le_of_ble_eq_true rfl) rfl ?_
    refine r_iconst K dX7_readsStatement_203 (nI 0) (by decide) ?_
    exact hR nb dX7_readsStatement_204 (rfl) ((fun z => absurd (hrs.1.symm.trans z) (by decide))) (e_ri (by rw [hrs.1]; rfl)) (by rw [hrs.2]; exact weq.rf)
  · have c16 : hrS lt lm pc = nI 103 := c16
    have hps := hr_v c16 (by decide)
    have hp := hps.1
    have hs := hps.2
    have hL : lnS (sgS lt lm pc) = 3 := by rw [hs]; rfl
    have hn : ¬ sgS lt lm pc = nI 109 := n109 hs (by decide) (by decide)
    refine r_aload_n K dX7_readsStatement_112 1 rfl ?_
    refine r_iconst K dX7_readsStatement_113 (nI 0) (by decide) ?_
    refine r_iconst K dX7_readsStatement_114 (nI 1) (by decide) ?_
    refine r_cVd K dX7_readsStatement_115 (c_X7_readsNumber1 l Γ h a hi lm rm (pc + 1) bi sd lt nb 0 (by first | assumption | omega) (by first | assumption | omega) (by first | assumption | omega)) mX7_readsNumber q829 rfl (by decide) rfl rfl 3 rfl [0, 1, 2] [] rfl rfl [] rfl [mo h a hi lm rm (p1N lt lm (pc + 1)) bi sd, eI Γ (a 4) 96 lt, eI Γ (a 7) 3 (upd nb 0 (d1V lt lm (pc + 1)))] rfl rfl rfl [] rfl (Nat.le_of_ble_eq_true rfl) ?_
    refine r_istore_n K dX7_readsStatement_118 rfl (by decide) (lv1 := [(2, .int (bz (dgB1 lt lm (pc + 1)))), (1, .int (hrS lt lm pc)), (0, .ref h)]) rfl ?_
    refine r_goto K dX7_readsStatement_119 ?_
    refine r_iload_n K dX7_readsStatement_205 0 rfl ?_
    refine r_ifeqB K dX7_readsStatement_206 (fun c206 => ?_) (fun c206 => ?_)
    · have hrs := rs_n hp hL (by decide) (by rw [mi3 hn, if_neg (nt c206)])
      refine r_ws K (ws1 := [mo h a hi lm rm (pc + 1) bi sd, eI Γ (a 4) 96 lt, eI Γ (a 7) 3 (upd nb 0 (d1V lt lm (pc + 1)))]) (by rw [p1N_f c206]; exact weq.rf) ?_
      refine r_iconst K dX7_readsStatement_218 (nI 0) (by decide) ?_
      exact hR (upd nb 0 (d1V lt lm (pc + 1))) dX7_readsStatement_219 (rfl) ((fun z => absurd (hrs.1.symm.trans z) (by decide))) (e_ri (by rw [hrs.1]; rfl)) (by rw [hrs.2]; exact weq.rf)
    · refine r_ws K (ws1 := [mo h a hi lm rm (pc + 2) bi sd, eI Γ (a 4) 96 lt, eI Γ (a 7) 3 (upd nb 0 (d1V lt lm (pc + 1)))]) (by rw [show p1N lt lm (pc + 1) = pc + 2 from p1N_t c206]; exact weq.rf) ?_
      refine r_arr K (f2 := upd nb 0 (dgL lt lm (pc + 1))) (ws1 := [mo h a hi lm rm (pc + 2) bi sd, eI Γ (a 4) 96 lt, eI Γ (a 7) 3 (upd nb 0 (dgL lt lm (pc + 1)))]) 2 rfl (fun _ _ => by rw [d1V_t c206]) rfl ?_
      refine r_aload_n K dX7_readsStatement_209 2 rfl ?_
      refine r_cVd K dX7_readsStatement_210 (c_X7_here l Γ h a hi lm rm (pc + 2) bi sd lt (by first | assumption | omega) (by first | assumption | omega)) mX7_here q825 rfl (by decide) rfl rfl 3 rfl [0, 1] [2] rfl rfl [eI Γ (a 7) 3 (upd nb 0 (dgL lt lm (pc + 1)))] rfl [mo h a hi lm rm (pc + 2) bi sd, eI Γ (a 4) 96 lt, eI Γ (a 7) 3 (upd nb 0 (dgL lt lm (pc + 1)))] rfl rfl rfl [] rfl (Nat.le_of_ble_eq_true rfl) ?_
      refine r_bipush K dX7_readsStatement_213 (nI 59) (by decide) ?_
      refine r_ic_eq K dX7_readsStatement_215 (fun c215 => ?_) (fun c215 => ?_)
      · have hrs := rs_y hp hL (by decide) (by rw [mi3 hn, if_pos c206, if_pos c215])
        refine r_aload_n K dX7_readsStatement_220 2 rfl ?_
        refine r_dup K dX7_readsStatement_221 rfl ?_
        refine r_get K dX7_readsStatement_222 (kf := 10) 0 rfl rfl hinX7 (by decide) q767 rfl rfl ?_
        refine r_iconst K dX7_readsStatement_225 (nI 1) (by decide) ?_
        refine r_iaddN K dX7_readsStatement_226 ?_
        refine r_put K dX7_readsStatement_227 (kf := 10) (ty := .int) (ws1 := [mo h a hi lm rm ((pc + 2) + 1) bi sd, eI Γ (a 4) 96 lt, eI Γ (a 7) 3 (upd nb 0 (dgL lt lm (pc + 1)))]) 0 rfl rfl hinX7 tyX7 tyX7_ok nmX7 (by decide) q767 rfl (by decide +kernel) rfl rfl (Nat.le_of_ble_eq_true rfl) rfl ?_
        refine r_iconst K dX7_readsStatement_230 (nI 1) (by decide) ?_
        exact hR (upd nb 0 (dgL lt lm (pc + 1))) dX7_readsStatement_231 (rfl) ((fun _ => nbO_g hs (by decide) upd_s)) (e_ri (by rw [hrs.1]; rfl)) (by rw [hrs.2]; exact weq.rf)
      · have hrs := rs_n hp hL (by decide) (by rw [mi3 hn, if_pos c206, if_neg c215])
        refine r_iconst K dX7_readsStatement_218 (nI 0) (by decide) ?_
        exact hR (upd nb 0 (dgL lt lm (pc + 1))) dX7_readsStatement_219 (rfl) ((fun z => absurd (hrs.1.symm.trans z) (by decide))) (e_ri (by rw [hrs.1]; rfl)) (by rw [hrs.2]; exact weq.rf)
  · have c16 : hrS lt lm pc = nI 104 := c16
    have hps := hr_v c16 (by decide)
    have hp := hps.1
    have hs := hps.2
    have hL : lnS (sgS lt lm pc) = 4 := by rw [hs]; rfl
    have hn : ¬ sgS lt lm pc = nI 109 := n109 hs (by decide) (by decide)
    refine r_aload_n K dX7_readsStatement_156 1 rfl ?_
    refine r_iconst K dX7_readsStatement_157 (nI 0) (by decide) ?_
    refine r_iconst K dX7_readsStatement_158 (nI 1) (by decide) ?_
    refine r_cVd K dX7_readsStatement_159 (c_X7_readsNumber1 l Γ h a hi lm rm (pc + 1) bi sd lt nb 0 (by first | assumption | omega) (by first | assumption | omega) (by first | assumption | omega)) mX7_readsNumber q829 rfl (by decide) rfl rfl 3 rfl [0, 1, 2] [] rfl rfl [] rfl [mo h a hi lm rm (p1N lt lm (pc + 1)) bi sd, eI Γ (a 4) 96 lt, eI Γ (a 7) 3 (upd nb 0 (d1V lt lm (pc + 1)))] rfl rfl rfl [] rfl (Nat.le_of_ble_eq_true rfl) ?_
    refine r_ifeqB K dX7_readsStatement_162 (fun c162 => ?_) (fun c162 => ?_)
    · have hrs := rs_n hp hL (by decide) (by rw [mi4 hn, if_neg (nt c162)])
      refine r_ws K (ws1 := [mo h a hi lm rm (pc + 1) bi sd, eI Γ (a 4) 96 lt, eI Γ (a 7) 3 (upd nb 0 (d1V lt lm (pc + 1)))]) (by rw [p1N_f c162]; exact weq.rf) ?_
      refine r_iconst K dX7_readsStatement_178 (nI 0) (by decide) ?_
      refine r_istore_n K dX7_readsStatement_179 rfl (by decide) (lv1 := [(2, .int (nI 0)), (1, .int (hrS lt lm pc)), (0, .ref h)]) rfl ?_
      refine r_goto K dX7_readsStatement_180 ?_
      refine r_iload_n K dX7_readsStatement_205 0 rfl ?_
      refine r_if_eqN K dX7_readsStatement_206 (by omega) (fun c206 => ?_) (fun c206 => ?_)
      · refine r_iconst K dX7_readsStatement_218 (nI 0) (by decide) ?_
        exact hR (upd nb 0 (d1V lt lm (pc + 1))) dX7_readsStatement_219 (rfl) ((fun z => absurd (hrs.1.symm.trans z) (by decide))) (e_ri (by rw [hrs.1]; rfl)) (by rw [hrs.2]; exact weq.rf)
      · exact absurd c206 (by omega)
    · refine r_ws K (ws1 := [mo h a hi lm rm (pc + 2) bi sd, eI Γ (a 4) 96 lt, eI Γ (a 7) 3 (upd nb 0 (d1V lt lm (pc + 1)))]) (by rw [show p1N lt lm (pc + 1) = pc + 2 from p1N_t c162]; exact weq.rf) ?_
      refine r_arr K (f2 := upd nb 0 (dgL lt lm (pc + 1))) (ws1 := [mo h a hi lm rm (pc + 2) bi sd, eI Γ (a 4) 96 lt, eI Γ (a 7) 3 (upd nb 0 (dgL lt lm (pc + 1)))]) 2 rfl (fun _ _ => by rw [d1V_t c162]) rfl ?_
      refine r_aload_n K dX7_readsStatement_165 1 rfl ?_
      refine r_iconst K dX7_readsStatement_166 (nI 1) (by decide) ?_
      refine r_iconst K dX7_readsStatement_167 (nI 1) (by decide) ?_
      refine r_cVd K dX7_readsStatement_168 (c_X7_readsNumber1 l Γ h a hi lm rm (pc + 2) bi sd lt (upd nb 0 (dgL lt lm (pc + 1))) 1 (by first | assumption | omega) (by first | assumption | omega) (by first | assumption | omega)) mX7_readsNumber q829 rfl (by decide) rfl rfl 3 rfl [0, 1, 2] [] rfl rfl [] rfl [mo h a hi lm rm (p1N lt lm (pc + 2)) bi sd, eI Γ (a 4) 96 lt, eI Γ (a 7) 3 (upd (upd nb 0 (dgL lt lm (pc + 1))) 1 (d1V lt lm (pc + 2)))] rfl rfl rfl [] rfl (Nat.le_of_ble_eq_true rfl) ?_
      refine r_ifeqB K dX7_readsStatement_171 (fun c171 => ?_) (fun c171 => ?_)
      · have hrs := rs_n hp hL (by decide) (by rw [mi4 hn, if_pos c162, if_neg (nt c171)])
        refine r_ws K (ws1 := [mo h a hi lm rm (pc + 2) bi sd, eI Γ (a 4) 96 lt, eI Γ (a 7) 3 (upd (upd nb 0 (dgL lt lm (pc + 1))) 1 (d1V lt lm (pc + 2)))]) (by rw [p1N_f c171]; exact weq.rf) ?_
        refine r_iconst K dX7_readsStatement_178 (nI 0) (by decide) ?_
        refine r_istore_n K dX7_readsStatement_179 rfl (by decide) (lv1 := [(2, .int (nI 0)), (1, .int (hrS lt lm pc)), (0, .ref h)]) rfl ?_
        refine r_goto K dX7_readsStatement_180 ?_
        refine r_iload_n K dX7_readsStatement_205 0 rfl ?_
        refine r_if_eqN K dX7_readsStatement_206 (by omega) (fun c206 => ?_) (fun c206 => ?_)
        · refine r_iconst K dX7_readsStatement_218 (nI 0) (by decide) ?_
          exact hR (upd (upd nb 0 (dgL lt lm (pc + 1))) 1 (d1V lt lm (pc + 2))) dX7_readsStatement_219 (rfl) ((fun z => absurd (hrs.1.symm.trans z) (by decide))) (e_ri (by rw [hrs.1]; rfl)) (by rw [hrs.2]; exact weq.rf)
        · exact absurd c206 (by omega)
      · refine r_ws K (ws1 := [mo h a hi lm rm (pc + 3) bi sd, eI Γ (a 4) 96 lt, eI Γ (a 7) 3 (upd (upd nb 0 (dgL lt lm (pc + 1))) 1 (d1V lt lm (pc + 2)))]) (by rw [show p1N lt lm (pc + 2) = pc + 3 from p1N_t c171]; exact weq.rf) ?_
        refine r_arr K (f2 := upd (upd nb 0 (dgL lt lm (pc + 1))) 1 (dgL lt lm (pc + 2))) (ws1 := [mo h a hi lm rm (pc + 3) bi sd, eI Γ (a 4) 96 lt, eI Γ (a 7) 3 (upd (upd nb 0 (dgL lt lm (pc + 1))) 1 (dgL lt lm (pc + 2)))]) 2 rfl (fun _ _ => by rw [d1V_t c171]) rfl ?_
        refine r_iconst K dX7_readsStatement_174 (nI 1) (by decide) ?_
        refine r_goto K dX7_readsStatement_175 ?_
        refine r_istore_n K dX7_readsStatement_179 rfl (by decide) (lv1 := [(2, .int (nI 1)), (1, .int (hrS lt lm pc)), (0, .ref h)]) rfl ?_
        refine r_goto K dX7_readsStatement_180 ?_
        refine r_iload_n K dX7_readsStatement_205 0 rfl ?_
        refine r_if_eqN K dX7_readsStatement_206 (by omega) (fun c206 => ?_) (fun c206 => ?_)
        · exact absurd c206 (by omega)
        · refine r_aload_n K dX7_readsStatement_209 2 rfl ?_
          refine r_cVd K dX7_readsStatement_210 (c_X7_here l Γ h a hi lm rm (pc + 3) bi sd lt (by first | assumption | omega) (by first | assumption | omega)) mX7_here q825 rfl (by decide) rfl rfl 3 rfl [0, 1] [2] rfl rfl [eI Γ (a 7) 3 (upd (upd nb 0 (dgL lt lm (pc + 1))) 1 (dgL lt lm (pc + 2)))] rfl [mo h a hi lm rm (pc + 3) bi sd, eI Γ (a 4) 96 lt, eI Γ (a 7) 3 (upd (upd nb 0 (dgL lt lm (pc + 1))) 1 (dgL lt lm (pc + 2)))] rfl rfl rfl [] rfl (Nat.le_of_ble_eq_true rfl) ?_
          refine r_bipush K dX7_readsStatement_213 (nI 59) (by decide) ?_
          refine r_ic_eq K dX7_readsStatement_215 (fun c215 => ?_) (fun c215 => ?_)
          · have hrs := rs_y hp hL (by decide) (by rw [mi4 hn, if_pos c162, if_pos c171, if_pos c215])
            refine r_aload_n K dX7_readsStatement_220 2 rfl ?_
            refine r_dup K dX7_readsStatement_221 rfl ?_
            refine r_get K dX7_readsStatement_222 (kf := 10) 0 rfl rfl hinX7 (by decide) q767 rfl rfl ?_
            refine r_iconst K dX7_readsStatement_225 (nI 1) (by decide) ?_
            refine r_iaddN K dX7_readsStatement_226 ?_
            refine r_put K dX7_readsStatement_227 (kf := 10) (ty := .int) (ws1 := [mo h a hi lm rm ((pc + 3) + 1) bi sd, eI Γ (a 4) 96 lt, eI Γ (a 7) 3 (upd (upd nb 0 (dgL lt lm (pc + 1))) 1 (dgL lt lm (pc + 2)))]) 0 rfl rfl hinX7 tyX7 tyX7_ok nmX7 (by decide) q767 rfl (by decide +kernel) rfl rfl (Nat.le_of_ble_eq_true rfl) rfl ?_
            refine r_iconst K dX7_readsStatement_230 (nI 1) (by decide) ?_
            exact hR (upd (upd nb 0 (dgL lt lm (pc + 1))) 1 (dgL lt lm (pc + 2))) dX7_readsStatement_231 (rfl) ((fun _ => nbO_a hs (by decide) ((upd_n (by decide)).trans upd_s) upd_s)) (e_ri (by rw [hrs.1]; rfl)) (by rw [hrs.2]; exact weq.rf)
          · have hrs := rs_n hp hL (by decide) (by rw [mi4 hn, if_pos c162, if_pos c171, if_neg c215])
            refine r_iconst K dX7_readsStatement_218 (nI 0) (by decide) ?_
            exact hR (upd (upd nb 0 (dgL lt lm (pc + 1))) 1 (dgL lt lm (pc + 2))) dX7_readsStatement_219 (rfl) ((fun z => absurd (hrs.1.symm.trans z) (by decide))) (e_ri (by rw [hrs.1]; rfl)) (by rw [hrs.2]; exact weq.rf)
  · have c16 : hrS lt lm pc = nI 105 := c16
    have hps := hr_v c16 (by decide)
    have hp := hps.1
    have hs := hps.2
    have hrs := rs_0 (lt := lt) (lm := lm) (p := pc) (fun z => z.2 (by rw [hs]; rfl))
    refine r_aload_n K dX7_readsStatement_193 1 rfl ?_
    refine r_dup K dX7_readsStatement_194 rfl ?_
    refine r_get K dX7_readsStatement_195 (kf := 10) 0 rfl rfl hinX7 (by decide) q767 rfl rfl ?_
    refine r_iconst K dX7_readsStatement_198 (nI 1) (by decide) ?_
    refine r_isubN K dX7_readsStatement_199 (by omega) ?_
    refine r_put K dX7_readsStatement_200 (kf := 10) (ty := .int) (ws1 := [mo h a hi lm rm ((pc + 1) - 1) bi sd, eI Γ (a 4) 96 lt, eI Γ (a 7) 3 nb]) 0 rfl rfl hinX7 tyX7 tyX7_ok nmX7 (by decide) q767 rfl (by decide +kernel) rfl rfl (Nat.le_of_ble_eq_true rfl) rfl ?_
    refine r_iconst K dX7_readsStatement_203 (nI 0) (by decide) ?_
    exact hR nb dX7_readsStatement_204 (rfl) ((fun z => absurd (hrs.1.symm.trans z) (by decide))) (e_ri (by rw [hrs.1]; rfl)) (by rw [hrs.2]; exact weq.rf)
  · have c16 : hrS lt lm pc = nI 106 := c16
    have hps := hr_v c16 (by decide)
    have hp := hps.1
    have hs := hps.2
    have hrs := rs_0 (lt := lt) (lm := lm) (p := pc) (fun z => z.2 (by rw [hs]; rfl))
    refine r_aload_n K dX7_readsStatement_193 1 rfl ?_
    refine r_dup K dX7_readsStatement_194 rfl ?_
    refine r_get K dX7_readsStatement_195 (kf := 10) 0 rfl rfl hinX7 (by decide) q767 rfl rfl ?_
    refine r_iconst K dX7_readsStatement_198 (nI 1) (by decide) ?_
    refine r_isubN K dX7_readsStatement_199 (by omega) ?_
    refine r_put K dX7_readsStatement_200 (kf := 10) (ty := .int) (ws1 := [mo h a hi lm rm ((pc + 1) - 1) bi sd, eI Γ (a 4) 96 lt, eI Γ (a 7) 3 nb]) 0 rfl rfl hinX7 tyX7 tyX7_ok nmX7 (by decide) q767 rfl (by decide +kernel) rfl rfl (Nat.le_of_ble_eq_true rfl) rfl ?_
    refine r_iconst K dX7_readsStatement_203 (nI 0) (by decide) ?_
    exact hR nb dX7_readsStatement_204 (rfl) ((fun z => absurd (hrs.1.symm.trans z) (by decide))) (e_ri (by rw [hrs.1]; rfl)) (by rw [hrs.2]; exact weq.rf)
  · have c16 : hrS lt lm pc = nI 107 := c16
    have hps := hr_v c16 (by decide)
    have hp := hps.1
    have hs := hps.2
    have hrs := rs_0 (lt := lt) (lm := lm) (p := pc) (fun z => z.2 (by rw [hs]; rfl))
    refine r_aload_n K dX7_readsStatement_193 1 rfl ?_
    refine r_dup K dX7_readsStatement_194 rfl ?_
    refine r_get K dX7_readsStatement_195 (kf := 10) 0 rfl rfl hinX7 (by decide) q767 rfl rfl ?_
    refine r_iconst K dX7_readsStatement_198 (nI 1) (by decide) ?_
    refine r_isubN K dX7_readsStatement_199 (by omega) ?_
    refine r_put K dX7_readsStatement_200 (kf := 10) (ty := .int) (ws1 := [mo h a hi lm rm ((pc + 1) - 1) bi sd, eI Γ (a 4) 96 lt, eI Γ (a 7) 3 nb]) 0 rfl rfl hinX7 tyX7 tyX7_ok nmX7 (by decide) q767 rfl (by decide +kernel) rfl rfl (Nat.le_of_ble_eq_true rfl) rfl ?_
    refine r_iconst K dX7_readsStatement_203 (nI 0) (by decide) ?_
    exact hR nb dX7_readsStatement_204 (rfl) ((fun z => absurd (hrs.1.symm.trans z) (by decide))) (e_ri (by rw [hrs.1]; rfl)) (by rw [hrs.2]; exact weq.rf)
  · have c16 : hrS lt lm pc = nI 108 := c16
    have hps := hr_v c16 (by decide)
    have hp := hps.1
    have hs := hps.2
    have hrs := rs_0 (lt := lt) (lm := lm) (p := pc) (fun z => z.2 (by rw [hs]; rfl))
    refine r_aload_n K dX7_readsStatement_193 1 rfl ?_
    refine r_dup K dX7_readsStatement_194 rfl ?_
    refine r_get K dX7_readsStatement_195 (kf := 10) 0 rfl rfl hinX7 (by decide) q767 rfl rfl ?_
    refine r_iconst K dX7_readsStatement_198 (nI 1) (by decide) ?_
    refine r_isubN K dX7_readsStatement_199 (by omega) ?_
    refine r_put K dX7_readsStatement_200 (kf := 10) (ty := .int) (ws1 := [mo h a hi lm rm ((pc + 1) - 1) bi sd, eI Γ (a 4) 96 lt, eI Γ (a 7) 3 nb]) 0 rfl rfl hinX7 tyX7 tyX7_ok nmX7 (by decide) q767 rfl (by decide +kernel) rfl rfl (Nat.le_of_ble_eq_true rfl) rfl ?_
    refine r_iconst K dX7_readsStatement_203 (nI 0) (by decide) ?_
    exact hR nb dX7_readsStatement_204 (rfl) ((fun z => absurd (hrs.1.symm.trans z) (by decide))) (e_ri (by rw [hrs.1]; rfl)) (by rw [hrs.2]; exact weq.rf)
  · have c16 : hrS lt lm pc = nI 109 := c16
    have hps := hr_v c16 (by decide)
    have hp := hps.1
    have hs := hps.2
    have hL : lnS (sgS lt lm pc) = 6 := by rw [hs]; rfl
    refine r_aload_n K dX7_readsStatement_122 1 rfl ?_
    refine r_cVd K dX7_readsStatement_123 (c_X7_readsKind l Γ h a hi lm rm (pc + 1) bi sd lt nb (by first | assumption | omega) (by first | assumption | omega)) mX7_readsKind q836 rfl (by decide) rfl rfl 3 rfl [0, 1, 2] [] rfl rfl [] rfl [mo h a hi lm rm (pkN lt lm (pc + 1)) bi sd, eI Γ (a 4) 96 lt, eI Γ (a 7) 3 (upd nb 0 (kindC (hrS lt lm (pc + 1))))] rfl rfl rfl [] rfl (Nat.le_of_ble_eq_true rfl) ?_
    refine r_ifeqB K dX7_readsStatement_126 (fun c126 => ?_) (fun c126 => ?_)
    · have hrs := rs_n hp hL (by decide) (by rw [mi6 hs, if_neg (nt c126)])
      refine r_ws K (ws1 := [mo h a hi lm rm (pc + 1) bi sd, eI Γ (a 4) 96 lt, eI Γ (a 7) 3 (upd nb 0 (kindC (hrS lt lm (pc + 1))))]) (by rw [pkN_f c126]; exact weq.rf) ?_
      refine r_iconst K dX7_readsStatement_151 (nI 0) (by decide) ?_
      refine r_istore_n K dX7_readsStatement_152 rfl (by decide) (lv1 := [(2, .int (nI 0)), (1, .int (hrS lt lm pc)), (0, .ref h)]) rfl ?_
      refine r_goto K dX7_readsStatement_153 ?_
      refine r_iload_n K dX7_readsStatement_205 0 rfl ?_
      refine r_if_eqN K dX7_readsStatement_206 (by omega) (fun c206 => ?_) (fun c206 => ?_)
      · refine r_iconst K dX7_readsStatement_218 (nI 0) (by decide) ?_
        exact hR (upd nb 0 (kindC (hrS lt lm (pc + 1)))) dX7_readsStatement_219 (rfl) ((fun z => absurd (hrs.1.symm.trans z) (by decide))) (e_ri (by rw [hrs.1]; rfl)) (by rw [hrs.2]; exact weq.rf)
      · exact absurd c206 (by omega)
    · refine r_ws K (ws1 := [mo h a hi lm rm (pc + 2) bi sd, eI Γ (a 4) 96 lt, eI Γ (a 7) 3 (upd nb 0 (kindC (hrS lt lm (pc + 1))))]) (by rw [show pkN lt lm (pc + 1) = pc + 2 from pkN_t c126]; exact weq.rf) ?_
      refine r_aload_n K dX7_readsStatement_129 1 rfl ?_
      refine r_iconst K dX7_readsStatement_130 (nI 1) (by decide) ?_
      refine r_iconst K dX7_readsStatement_131 (nI 1) (by decide) ?_
      refine r_cVd K dX7_readsStatement_132 (c_X7_readsNumber1 l Γ h a hi lm rm (pc + 2) bi sd lt (upd nb 0 (kindC (hrS lt lm (pc + 1)))) 1 (by first | assumption | omega) (by first | assumption | omega) (by first | assumption | omega)) mX7_readsNumber q829 rfl (by decide) rfl rfl 3 rfl [0, 1, 2] [] rfl rfl [] rfl [mo h a hi lm rm (p1N lt lm (pc + 2)) bi sd, eI Γ (a 4) 96 lt, eI Γ (a 7) 3 (upd (upd nb 0 (kindC (hrS lt lm (pc + 1)))) 1 (d1V lt lm (pc + 2)))] rfl rfl rfl [] rfl (Nat.le_of_ble_eq_true rfl) ?_
      refine r_ifeqB K dX7_readsStatement_135 (fun c135 => ?_) (fun c135 => ?_)
      · have hrs := rs_n hp hL (by decide) (by rw [mi6 hs, if_pos c126, if_neg (nt c135)])
        refine r_ws K (ws1 := [mo h a hi lm rm (pc + 2) bi sd, eI Γ (a 4) 96 lt, eI Γ (a 7) 3 (upd (upd nb 0 (kindC (hrS lt lm (pc + 1)))) 1 (d1V lt lm (pc + 2)))]) (by rw [p1N_f c135]; exact weq.rf) ?_
        refine r_iconst K dX7_readsStatement_151 (nI 0) (by decide) ?_
        refine r_istore_n K dX7_readsStatement_152 rfl (by decide) (lv1 := [(2, .int (nI 0)), (1, .int (hrS lt lm pc)), (0, .ref h)]) rfl ?_
        refine r_goto K dX7_readsStatement_153 ?_
        refine r_iload_n K dX7_readsStatement_205 0 rfl ?_
        refine r_if_eqN K dX7_readsStatement_206 (by omega) (fun c206 => ?_) (fun c206 => ?_)
        · refine r_iconst K dX7_readsStatement_218 (nI 0) (by decide) ?_
          exact hR (upd (upd nb 0 (kindC (hrS lt lm (pc + 1)))) 1 (d1V lt lm (pc + 2))) dX7_readsStatement_219 (rfl) ((fun z => absurd (hrs.1.symm.trans z) (by decide))) (e_ri (by rw [hrs.1]; rfl)) (by rw [hrs.2]; exact weq.rf)
        · exact absurd c206 (by omega)
      · refine r_ws K (ws1 := [mo h a hi lm rm (pc + 3) bi sd, eI Γ (a 4) 96 lt, eI Γ (a 7) 3 (upd (upd nb 0 (kindC (hrS lt lm (pc + 1)))) 1 (d1V lt lm (pc + 2)))]) (by rw [show p1N lt lm (pc + 2) = pc + 3 from p1N_t c135]; exact weq.rf) ?_
        refine r_arr K (f2 := upd (upd nb 0 (kindC (hrS lt lm (pc + 1)))) 1 (dgL lt lm (pc + 2))) (ws1 := [mo h a hi lm rm (pc + 3) bi sd, eI Γ (a 4) 96 lt, eI Γ (a 7) 3 (upd (upd nb 0 (kindC (hrS lt lm (pc + 1)))) 1 (dgL lt lm (pc + 2)))]) 2 rfl (fun _ _ => by rw [d1V_t c135]) rfl ?_
        refine r_aload_n K dX7_readsStatement_138 1 rfl ?_
        refine r_iconst K dX7_readsStatement_139 (nI 2) (by decide) ?_
        refine r_iconst K dX7_readsStatement_140 (nI 2) (by decide) ?_
        refine r_cVd K dX7_readsStatement_141 (c_X7_readsNumber2 l Γ h a hi lm rm (pc + 3) bi sd lt (upd (upd nb 0 (kindC (hrS lt lm (pc + 1)))) 1 (dgL lt lm (pc + 2))) 2 (by first | assumption | omega) (by first | assumption | omega) (by first | assumption | omega)) mX7_readsNumber q829 rfl (by decide) rfl rfl 3 rfl [0, 1, 2] [] rfl rfl [] rfl [mo h a hi lm rm (p2N lt lm (pc + 3)) bi sd, eI Γ (a 4) 96 lt, eI Γ (a 7) 3 (upd (upd (upd nb 0 (kindC (hrS lt lm (pc + 1)))) 1 (dgL lt lm (pc + 2))) 2 (d2V lt lm (pc + 3)))] rfl rfl rfl [] rfl (Nat.le_of_ble_eq_true rfl) ?_
        refine r_ifeqB K dX7_readsStatement_144 (fun c144 => ?_) (fun c144 => ?_)
        · have hrs := rs_n hp hL (by decide) (by rw [mi6 hs, if_pos c126, if_pos c135, mi2f c144])
          refine r_iconst K dX7_readsStatement_151 (nI 0) (by decide) ?_
          refine r_istore_n K dX7_readsStatement_152 rfl (by decide) (lv1 := [(2, .int (nI 0)), (1, .int (hrS lt lm pc)), (0, .ref h)]) rfl ?_
          refine r_goto K dX7_readsStatement_153 ?_
          refine r_iload_n K dX7_readsStatement_205 0 rfl ?_
          refine r_if_eqN K dX7_readsStatement_206 (by omega) (fun c206 => ?_) (fun c206 => ?_)
          · refine r_iconst K dX7_readsStatement_218 (nI 0) (by decide) ?_
            exact hR (upd (upd (upd nb 0 (kindC (hrS lt lm (pc + 1)))) 1 (dgL lt lm (pc + 2))) 2 (d2V lt lm (pc + 3))) dX7_readsStatement_219 (rfl) ((fun z => absurd (hrs.1.symm.trans z) (by decide))) (e_ri (by rw [hrs.1]; rfl)) (by rw [hrs.2]; exact weq.rf)
          · exact absurd c206 (by omega)
        · refine r_ws K (ws1 := [mo h a hi lm rm (pc + 5) bi sd, eI Γ (a 4) 96 lt, eI Γ (a 7) 3 (upd (upd (upd nb 0 (kindC (hrS lt lm (pc + 1)))) 1 (dgL lt lm (pc + 2))) 2 (d2V lt lm (pc + 3)))]) (by rw [show p2N lt lm (pc + 3) = pc + 5 from p2N_and c144]; exact weq.rf) ?_
          refine r_arr K (f2 := upd (upd (upd nb 0 (kindC (hrS lt lm (pc + 1)))) 1 (dgL lt lm (pc + 2))) 2 (twL lt lm (pc + 3))) (ws1 := [mo h a hi lm rm (pc + 5) bi sd, eI Γ (a 4) 96 lt, eI Γ (a 7) 3 (upd (upd (upd nb 0 (kindC (hrS lt lm (pc + 1)))) 1 (dgL lt lm (pc + 2))) 2 (twL lt lm (pc + 3)))]) 2 rfl (fun _ _ => by rw [d2V_and c144]) rfl ?_
          refine r_iconst K dX7_readsStatement_147 (nI 1) (by decide) ?_
          refine r_goto K dX7_readsStatement_148 ?_
          refine r_istore_n K dX7_readsStatement_152 rfl (by decide) (lv1 := [(2, .int (nI 1)), (1, .int (hrS lt lm pc)), (0, .ref h)]) rfl ?_
          refine r_goto K dX7_readsStatement_153 ?_
          refine r_iload_n K dX7_readsStatement_205 0 rfl ?_
          refine r_if_eqN K dX7_readsStatement_206 (by omega) (fun c206 => ?_) (fun c206 => ?_)
          · exact absurd c206 (by omega)
          · refine r_aload_n K dX7_readsStatement_209 2 rfl ?_
            refine r_cVd K dX7_readsStatement_210 (c_X7_here l Γ h a hi lm rm (pc + 5) bi sd lt (by first | assumption | omega) (by first | assumption | omega)) mX7_here q825 rfl (by decide) rfl rfl 3 rfl [0, 1] [2] rfl rfl [eI Γ (a 7) 3 (upd (upd (upd nb 0 (kindC (hrS lt lm (pc + 1)))) 1 (dgL lt lm (pc + 2))) 2 (twL lt lm (pc + 3)))] rfl [mo h a hi lm rm (pc + 5) bi sd, eI Γ (a 4) 96 lt, eI Γ (a 7) 3 (upd (upd (upd nb 0 (kindC (hrS lt lm (pc + 1)))) 1 (dgL lt lm (pc + 2))) 2 (twL lt lm (pc + 3)))] rfl rfl rfl [] rfl (Nat.le_of_ble_eq_true rfl) ?_
            refine r_bipush K dX7_readsStatement_213 (nI 59) (by decide) ?_
            refine r_ic_eq K dX7_readsStatement_215 (fun c215 => ?_) (fun c215 => ?_)
            · have hrs := rs_y hp hL (by decide) (by rw [mi6 hs, if_pos c126, if_pos c135, mi2t c144, if_pos c215])
              refine r_aload_n K dX7_readsStatement_220 2 rfl ?_
              refine r_dup K dX7_readsStatement_221 rfl ?_
              refine r_get K dX7_readsStatement_222 (kf := 10) 0 rfl rfl hinX7 (by decide) q767 rfl rfl ?_
              refine r_iconst K dX7_readsStatement_225 (nI 1) (by decide) ?_
              refine r_iaddN K dX7_readsStatement_226 ?_
              refine r_put K dX7_readsStatement_227 (kf := 10) (ty := .int) (ws1 := [mo h a hi lm rm ((pc + 5) + 1) bi sd, eI Γ (a 4) 96 lt, eI Γ (a 7) 3 (upd (upd (upd nb 0 (kindC (hrS lt lm (pc + 1)))) 1 (dgL lt lm (pc + 2))) 2 (twL lt lm (pc + 3)))]) 0 rfl rfl hinX7 tyX7 tyX7_ok nmX7 (by decide) q767 rfl (by decide +kernel) rfl rfl (Nat.le_of_ble_eq_true rfl) rfl ?_
              refine r_iconst K dX7_readsStatement_230 (nI 1) (by decide) ?_
              exact hR (upd (upd (upd nb 0 (kindC (hrS lt lm (pc + 1)))) 1 (dgL lt lm (pc + 2))) 2 (twL lt lm (pc + 3))) dX7_readsStatement_231 (rfl) ((fun _ => nbO_m hs c126 ((upd_n (by decide)).trans ((upd_n (by decide)).trans upd_s)) ((upd_n (by decide)).trans upd_s) upd_s)) (e_ri (by rw [hrs.1]; rfl)) (by rw [hrs.2]; exact weq.rf)
            · have hrs := rs_n hp hL (by decide) (by rw [mi6 hs, if_pos c126, if_pos c135, mi2t c144, if_neg c215])
              refine r_iconst K dX7_readsStatement_218 (nI 0) (by decide) ?_
              exact hR (upd (upd (upd nb 0 (kindC (hrS lt lm (pc + 1)))) 1 (dgL lt lm (pc + 2))) 2 (twL lt lm (pc + 3))) dX7_readsStatement_219 (rfl) ((fun z => absurd (hrs.1.symm.trans z) (by decide))) (e_ri (by rw [hrs.1]; rfl)) (by rw [hrs.2]; exact weq.rf)
  · have c16 : hrS lt lm pc = nI 110 := c16
    have hps := hr_v c16 (by decide)
    have hp := hps.1
    have hs := hps.2
    have hL : lnS (sgS lt lm pc) = 3 := by rw [hs]; rfl
    have hn : ¬ sgS lt lm pc = nI 109 := n109 hs (by decide) (by decide)
    refine r_aload_n K dX7_readsStatement_112 1 rfl ?_
    refine r_iconst K dX7_readsStatement_113 (nI 0) (by decide) ?_
    refine r_iconst K dX7_readsStatement_114 (nI 1) (by decide) ?_
    refine r_cVd K dX7_readsStatement_115 (c_X7_readsNumber1 l Γ h a hi lm rm (pc + 1) bi sd lt nb 0 (by first | assumption | omega) (by first | assumption | omega) (by first | assumption | omega)) mX7_readsNumber q829 rfl (by decide) rfl rfl 3 rfl [0, 1, 2] [] rfl rfl [] rfl [mo h a hi lm rm (p1N lt lm (pc + 1)) bi sd, eI Γ (a 4) 96 lt, eI Γ (a 7) 3 (upd nb 0 (d1V lt lm (pc + 1)))] rfl rfl rfl [] rfl (Nat.le_of_ble_eq_true rfl) ?_
    refine r_istore_n K dX7_readsStatement_118 rfl (by decide) (lv1 := [(2, .int (bz (dgB1 lt lm (pc + 1)))), (1, .int (hrS lt lm pc)), (0, .ref h)]) rfl ?_
    refine r_goto K dX7_readsStatement_119 ?_
    refine r_iload_n K dX7_readsStatement_205 0 rfl ?_
    refine r_ifeqB K dX7_readsStatement_206 (fun c206 => ?_) (fun c206 => ?_)
    · have hrs := rs_n hp hL (by decide) (by rw [mi3 hn, if_neg (nt c206)])
      refine r_ws K (ws1 := [mo h a hi lm rm (pc + 1) bi sd, eI Γ (a 4) 96 lt, eI Γ (a 7) 3 (upd nb 0 (d1V lt lm (pc + 1)))]) (by rw [p1N_f c206]; exact weq.rf) ?_
      refine r_iconst K dX7_readsStatement_218 (nI 0) (by decide) ?_
      exact hR (upd nb 0 (d1V lt lm (pc + 1))) dX7_readsStatement_219 (rfl) ((fun z => absurd (hrs.1.symm.trans z) (by decide))) (e_ri (by rw [hrs.1]; rfl)) (by rw [hrs.2]; exact weq.rf)
    · refine r_ws K (ws1 := [mo h a hi lm rm (pc + 2) bi sd, eI Γ (a 4) 96 lt, eI Γ (a 7) 3 (upd nb 0 (d1V lt lm (pc + 1)))]) (by rw [show p1N lt lm (pc + 1) = pc + 2 from p1N_t c206]; exact weq.rf) ?_
      refine r_arr K (f2 := upd nb 0 (dgL lt lm (pc + 1))) (ws1 := [mo h a hi lm rm (pc + 2) bi sd, eI Γ (a 4) 96 lt, eI Γ (a 7) 3 (upd nb 0 (dgL lt lm (pc + 1)))]) 2 rfl (fun _ _ => by rw [d1V_t c206]) rfl ?_
      refine r_aload_n K dX7_readsStatement_209 2 rfl ?_
      refine r_cVd K dX7_readsStatement_210 (c_X7_here l Γ h a hi lm rm (pc + 2) bi sd lt (by first | assumption | omega) (by first | assumption | omega)) mX7_here q825 rfl (by decide) rfl rfl 3 rfl [0, 1] [2] rfl rfl [eI Γ (a 7) 3 (upd nb 0 (dgL lt lm (pc + 1)))] rfl [mo h a hi lm rm (pc + 2) bi sd, eI Γ (a 4) 96 lt, eI Γ (a 7) 3 (upd nb 0 (dgL lt lm (pc + 1)))] rfl rfl rfl [] rfl (Nat.le_of_ble_eq_true rfl) ?_
      refine r_bipush K dX7_readsStatement_213 (nI 59) (by decide) ?_
      refine r_ic_eq K dX7_readsStatement_215 (fun c215 => ?_) (fun c215 => ?_)
      · have hrs := rs_y hp hL (by decide) (by rw [mi3 hn, if_pos c206, if_pos c215])
        refine r_aload_n K dX7_readsStatement_220 2 rfl ?_
        refine r_dup K dX7_readsStatement_221 rfl ?_
        refine r_get K dX7_readsStatement_222 (kf := 10) 0 rfl rfl hinX7 (by decide) q767 rfl rfl ?_
        refine r_iconst K dX7_readsStatement_225 (nI 1) (by decide) ?_
        refine r_iaddN K dX7_readsStatement_226 ?_
        refine r_put K dX7_readsStatement_227 (kf := 10) (ty := .int) (ws1 := [mo h a hi lm rm ((pc + 2) + 1) bi sd, eI Γ (a 4) 96 lt, eI Γ (a 7) 3 (upd nb 0 (dgL lt lm (pc + 1)))]) 0 rfl rfl hinX7 tyX7 tyX7_ok nmX7 (by decide) q767 rfl (by decide +kernel) rfl rfl (Nat.le_of_ble_eq_true rfl) rfl ?_
        refine r_iconst K dX7_readsStatement_230 (nI 1) (by decide) ?_
        exact hR (upd nb 0 (dgL lt lm (pc + 1))) dX7_readsStatement_231 (rfl) ((fun _ => nbO_g hs (by decide) upd_s)) (e_ri (by rw [hrs.1]; rfl)) (by rw [hrs.2]; exact weq.rf)
      · have hrs := rs_n hp hL (by decide) (by rw [mi3 hn, if_pos c206, if_neg c215])
        refine r_iconst K dX7_readsStatement_218 (nI 0) (by decide) ?_
        exact hR (upd nb 0 (dgL lt lm (pc + 1))) dX7_readsStatement_219 (rfl) ((fun z => absurd (hrs.1.symm.trans z) (by decide))) (e_ri (by rw [hrs.1]; rfl)) (by rw [hrs.2]; exact weq.rf)
  · have c16 : hrS lt lm pc = nI 111 := c16
    have hps := hr_v c16 (by decide)
    have hp := hps.1
    have hs := hps.2
    have hrs := rs_0 (lt := lt) (lm := lm) (p := pc) (fun z => z.2 (by rw [hs]; rfl))
    refine r_aload_n K dX7_readsStatement_193 1 rfl ?_
    refine r_dup K dX7_readsStatement_194 rfl ?_
    refine r_get K dX7_readsStatement_195 (kf := 10) 0 rfl rfl hinX7 (by decide) q767 rfl rfl ?_
    refine r_iconst K dX7_readsStatement_198 (nI 1) (by decide) ?_
    refine r_isubN K dX7_readsStatement_199 (by omega) ?_
    refine r_put K dX7_readsStatement_200 (kf := 10) (ty := .int) (ws1 := [mo h a hi lm rm ((pc + 1) - 1) bi sd, eI Γ (a 4) 96 lt, eI Γ (a 7) 3 nb]) 0 rfl rfl hinX7 tyX7 tyX7_ok nmX7 (by decide) q767 rfl (by decide +kernel) rfl rfl (Nat.le_of_ble_eq_true rfl) rfl ?_
    refine r_iconst K dX7_readsStatement_203 (nI 0) (by decide) ?_
    exact hR nb dX7_readsStatement_204 (rfl) ((fun z => absurd (hrs.1.symm.trans z) (by decide))) (e_ri (by rw [hrs.1]; rfl)) (by rw [hrs.2]; exact weq.rf)
  · have c16 : hrS lt lm pc = nI 112 := c16
    have hps := hr_v c16 (by decide)
    have hp := hps.1
    have hs := hps.2
    have hrs := rs_0 (lt := lt) (lm := lm) (p := pc) (fun z => z.2 (by rw [hs]; rfl))
    refine r_aload_n K dX7_readsStatement_193 1 rfl ?_
    refine r_dup K dX7_readsStatement_194 rfl ?_
    refine r_get K dX7_readsStatement_195 (kf := 10) 0 rfl rfl hinX7 (by decide) q767 rfl rfl ?_
    refine r_iconst K dX7_readsStatement_198 (nI 1) (by decide) ?_
    refine r_isubN K dX7_readsStatement_199 (by omega) ?_
    refine r_put K dX7_readsStatement_200 (kf := 10) (ty := .int) (ws1 := [mo h a hi lm rm ((pc + 1) - 1) bi sd, eI Γ (a 4) 96 lt, eI Γ (a 7) 3 nb]) 0 rfl rfl hinX7 tyX7 tyX7_ok nmX7 (by decide) q767 rfl (by decide +kernel) rfl rfl (Nat.le_of_ble_eq_true rfl) rfl ?_
    refine r_iconst K dX7_readsStatement_203 (nI 0) (by decide) ?_
    exact hR nb dX7_readsStatement_204 (rfl) ((fun z => absurd (hrs.1.symm.trans z) (by decide))) (e_ri (by rw [hrs.1]; rfl)) (by rw [hrs.2]; exact weq.rf)
  · have c16 : hrS lt lm pc = nI 113 := c16
    have hps := hr_v c16 (by decide)
    have hp := hps.1
    have hs := hps.2
    have hrs := rs_0 (lt := lt) (lm := lm) (p := pc) (fun z => z.2 (by rw [hs]; rfl))
    refine r_aload_n K dX7_readsStatement_193 1 rfl ?_
    refine r_dup K dX7_readsStatement_194 rfl ?_
    refine r_get K dX7_readsStatement_195 (kf := 10) 0 rfl rfl hinX7 (by decide) q767 rfl rfl ?_
    refine r_iconst K dX7_readsStatement_198 (nI 1) (by decide) ?_
    refine r_isubN K dX7_readsStatement_199 (by omega) ?_
    refine r_put K dX7_readsStatement_200 (kf := 10) (ty := .int) (ws1 := [mo h a hi lm rm ((pc + 1) - 1) bi sd, eI Γ (a 4) 96 lt, eI Γ (a 7) 3 nb]) 0 rfl rfl hinX7 tyX7 tyX7_ok nmX7 (by decide) q767 rfl (by decide +kernel) rfl rfl (Nat.le_of_ble_eq_true rfl) rfl ?_
    refine r_iconst K dX7_readsStatement_203 (nI 0) (by decide) ?_
    exact hR nb dX7_readsStatement_204 (rfl) ((fun z => absurd (hrs.1.symm.trans z) (by decide))) (e_ri (by rw [hrs.1]; rfl)) (by rw [hrs.2]; exact weq.rf)
  · have c16 : hrS lt lm pc = nI 114 := c16
    have hps := hr_v c16 (by decide)
    have hp := hps.1
    have hs := hps.2
    have hrs := rs_0 (lt := lt) (lm := lm) (p := pc) (fun z => z.2 (by rw [hs]; rfl))
    refine r_aload_n K dX7_readsStatement_193 1 rfl ?_
    refine r_dup K dX7_readsStatement_194 rfl ?_
    refine r_get K dX7_readsStatement_195 (kf := 10) 0 rfl rfl hinX7 (by decide) q767 rfl rfl ?_
    refine r_iconst K dX7_readsStatement_198 (nI 1) (by decide) ?_
    refine r_isubN K dX7_readsStatement_199 (by omega) ?_
    refine r_put K dX7_readsStatement_200 (kf := 10) (ty := .int) (ws1 := [mo h a hi lm rm ((pc + 1) - 1) bi sd, eI Γ (a 4) 96 lt, eI Γ (a 7) 3 nb]) 0 rfl rfl hinX7 tyX7 tyX7_ok nmX7 (by decide) q767 rfl (by decide +kernel) rfl rfl (Nat.le_of_ble_eq_true rfl) rfl ?_
    refine r_iconst K dX7_readsStatement_203 (nI 0) (by decide) ?_
    exact hR nb dX7_readsStatement_204 (rfl) ((fun z => absurd (hrs.1.symm.trans z) (by decide))) (e_ri (by rw [hrs.1]; rfl)) (by rw [hrs.2]; exact weq.rf)
  · have c16 : hrS lt lm pc = nI 115 := c16
    have hps := hr_v c16 (by decide)
    have hp := hps.1
    have hs := hps.2
    have hrs := rs_0 (lt := lt) (lm := lm) (p := pc) (fun z => z.2 (by rw [hs]; rfl))
    refine r_aload_n K dX7_readsStatement_193 1 rfl ?_
    refine r_dup K dX7_readsStatement_194 rfl ?_
    refine r_get K dX7_readsStatement_195 (kf := 10) 0 rfl rfl hinX7 (by decide) q767 rfl rfl ?_
    refine r_iconst K dX7_readsStatement_198 (nI 1) (by decide) ?_
    refine r_isubN K dX7_readsStatement_199 (by omega) ?_
    refine r_put K dX7_readsStatement_200 (kf := 10) (ty := .int) (ws1 := [mo h a hi lm rm ((pc + 1) - 1) bi sd, eI Γ (a 4) 96 lt, eI Γ (a 7) 3 nb]) 0 rfl rfl hinX7 tyX7 tyX7_ok nmX7 (by decide) q767 rfl (by decide +kernel) rfl rfl (Nat.le_of_ble_eq_true rfl) rfl ?_
    refine r_iconst K dX7_readsStatement_203 (nI 0) (by decide) ?_
    exact hR nb dX7_readsStatement_204 (rfl) ((fun z => absurd (hrs.1.symm.trans z) (by decide))) (e_ri (by rw [hrs.1]; rfl)) (by rw [hrs.2]; exact weq.rf)
  · have c16 : hrS lt lm pc = nI 116 := c16
    have hps := hr_v c16 (by decide)
    have hp := hps.1
    have hs := hps.2
    have hL : lnS (sgS lt lm pc) = 3 := by rw [hs]; rfl
    have hn : ¬ sgS lt lm pc = nI 109 := n109 hs (by decide) (by decide)
    refine r_aload_n K dX7_readsStatement_112 1 rfl ?_
    refine r_iconst K dX7_readsStatement_113 (nI 0) (by decide) ?_
    refine r_iconst K dX7_readsStatement_114 (nI 1) (by decide) ?_
    refine r_cVd K dX7_readsStatement_115 (c_X7_readsNumber1 l Γ h a hi lm rm (pc + 1) bi sd lt nb 0 (by first | assumption | omega) (by first | assumption | omega) (by first | assumption | omega)) mX7_readsNumber q829 rfl (by decide) rfl rfl 3 rfl [0, 1, 2] [] rfl rfl [] rfl [mo h a hi lm rm (p1N lt lm (pc + 1)) bi sd, eI Γ (a 4) 96 lt, eI Γ (a 7) 3 (upd nb 0 (d1V lt lm (pc + 1)))] rfl rfl rfl [] rfl (Nat.le_of_ble_eq_true rfl) ?_
    refine r_istore_n K dX7_readsStatement_118 rfl (by decide) (lv1 := [(2, .int (bz (dgB1 lt lm (pc + 1)))), (1, .int (hrS lt lm pc)), (0, .ref h)]) rfl ?_
    refine r_goto K dX7_readsStatement_119 ?_
    refine r_iload_n K dX7_readsStatement_205 0 rfl ?_
    refine r_ifeqB K dX7_readsStatement_206 (fun c206 => ?_) (fun c206 => ?_)
    · have hrs := rs_n hp hL (by decide) (by rw [mi3 hn, if_neg (nt c206)])
      refine r_ws K (ws1 := [mo h a hi lm rm (pc + 1) bi sd, eI Γ (a 4) 96 lt, eI Γ (a 7) 3 (upd nb 0 (d1V lt lm (pc + 1)))]) (by rw [p1N_f c206]; exact weq.rf) ?_
      refine r_iconst K dX7_readsStatement_218 (nI 0) (by decide) ?_
      exact hR (upd nb 0 (d1V lt lm (pc + 1))) dX7_readsStatement_219 (rfl) ((fun z => absurd (hrs.1.symm.trans z) (by decide))) (e_ri (by rw [hrs.1]; rfl)) (by rw [hrs.2]; exact weq.rf)
    · refine r_ws K (ws1 := [mo h a hi lm rm (pc + 2) bi sd, eI Γ (a 4) 96 lt, eI Γ (a 7) 3 (upd nb 0 (d1V lt lm (pc + 1)))]) (by rw [show p1N lt lm (pc + 1) = pc + 2 from p1N_t c206]; exact weq.rf) ?_
      refine r_arr K (f2 := upd nb 0 (dgL lt lm (pc + 1))) (ws1 := [mo h a hi lm rm (pc + 2) bi sd, eI Γ (a 4) 96 lt, eI Γ (a 7) 3 (upd nb 0 (dgL lt lm (pc + 1)))]) 2 rfl (fun _ _ => by rw [d1V_t c206]) rfl ?_
      refine r_aload_n K dX7_readsStatement_209 2 rfl ?_
      refine r_cVd K dX7_readsStatement_210 (c_X7_here l Γ h a hi lm rm (pc + 2) bi sd lt (by first | assumption | omega) (by first | assumption | omega)) mX7_here q825 rfl (by decide) rfl rfl 3 rfl [0, 1] [2] rfl rfl [eI Γ (a 7) 3 (upd nb 0 (dgL lt lm (pc + 1)))] rfl [mo h a hi lm rm (pc + 2) bi sd, eI Γ (a 4) 96 lt, eI Γ (a 7) 3 (upd nb 0 (dgL lt lm (pc + 1)))] rfl rfl rfl [] rfl (Nat.le_of_ble_eq_true rfl) ?_
      refine r_bipush K dX7_readsStatement_213 (nI 59) (by decide) ?_
      refine r_ic_eq K dX7_readsStatement_215 (fun c215 => ?_) (fun c215 => ?_)
      · have hrs := rs_y hp hL (by decide) (by rw [mi3 hn, if_pos c206, if_pos c215])
        refine r_aload_n K dX7_readsStatement_220 2 rfl ?_
        refine r_dup K dX7_readsStatement_221 rfl ?_
        refine r_get K dX7_readsStatement_222 (kf := 10) 0 rfl rfl hinX7 (by decide) q767 rfl rfl ?_
        refine r_iconst K dX7_readsStatement_225 (nI 1) (by decide) ?_
        refine r_iaddN K dX7_readsStatement_226 ?_
        refine r_put K dX7_readsStatement_227 (kf := 10) (ty := .int) (ws1 := [mo h a hi lm rm ((pc + 2) + 1) bi sd, eI Γ (a 4) 96 lt, eI Γ (a 7) 3 (upd nb 0 (dgL lt lm (pc + 1)))]) 0 rfl rfl hinX7 tyX7 tyX7_ok nmX7 (by decide) q767 rfl (by decide +kernel) rfl rfl (Nat.le_of_ble_eq_true rfl) rfl ?_
        refine r_iconst K dX7_readsStatement_230 (nI 1) (by decide) ?_
        exact hR (upd nb 0 (dgL lt lm (pc + 1))) dX7_readsStatement_231 (rfl) ((fun _ => nbO_g hs (by decide) upd_s)) (e_ri (by rw [hrs.1]; rfl)) (by rw [hrs.2]; exact weq.rf)
      · have hrs := rs_n hp hL (by decide) (by rw [mi3 hn, if_pos c206, if_neg c215])
        refine r_iconst K dX7_readsStatement_218 (nI 0) (by decide) ?_
        exact hR (upd nb 0 (dgL lt lm (pc + 1))) dX7_readsStatement_219 (rfl) ((fun z => absurd (hrs.1.symm.trans z) (by decide))) (e_ri (by rw [hrs.1]; rfl)) (by rw [hrs.2]; exact weq.rf)
  · have c16 : ∀ v : Nat, 97 ≤ v → v ≤ 116 → v < 2 ^ 31 → ¬ hrS lt lm pc = nI v := tsw_out c16
    have hrs := rs_0 (lt := lt) (lm := lm) (p := pc) (fun z => z.2 (lnS_n (fun v h1 h2 h3 => by rw [← hr_in z.1]; exact c16 v h1 h2 h3)))
    refine r_aload_n K dX7_readsStatement_193 1 rfl ?_
    refine r_dup K dX7_readsStatement_194 rfl ?_
    refine r_get K dX7_readsStatement_195 (kf := 10) 0 rfl rfl hinX7 (by decide) q767 rfl rfl ?_
    refine r_iconst K dX7_readsStatement_198 (nI 1) (by decide) ?_
    refine r_isubN K dX7_readsStatement_199 (by omega) ?_
    refine r_put K dX7_readsStatement_200 (kf := 10) (ty := .int) (ws1 := [mo h a hi lm rm ((pc + 1) - 1) bi sd, eI Γ (a 4) 96 lt, eI Γ (a 7) 3 nb]) 0 rfl rfl hinX7 tyX7 tyX7_ok nmX7 (by decide) q767 rfl (by decide +kernel) rfl rfl (Nat.le_of_ble_eq_true rfl) rfl ?_
    refine r_iconst K dX7_readsStatement_203 (nI 0) (by decide) ?_
    exact hR nb dX7_readsStatement_204 (rfl) ((fun z => absurd (hrs.1.symm.trans z) (by decide))) (e_ri (by rw [hrs.1]; rfl)) (by rw [hrs.2]; exact weq.rf)
set_option maxHeartbeats 1000000 in
set_option maxRecDepth 20000 in
theorem c_X7_isDone (l : Launch) (Γ : eG) (h : Nat) (a : Nat → Nat) (hi : Bool) (lm : Nat) (rm : Nat) (pc : Nat) (bi : Int32) (sd : Int32) (r : Nat → Int32) (nb : Nat → Int32) (c : Int32) (hI : Inv r) (hc : okC c) : cD l Γ yX7_isDone cX7_isDone 4 (some .boolean) 4 [.ref h, .int c] [mo h a hi lm rm pc bi sd, eI Γ (a 0) 42 r, eI Γ (a 7) 3 nb] (some (.int (bz (dnB r c (nb 0) (nb 1))))) [mo h a hi lm rm pc bi sd, eI Γ (a 0) 42 (dnX r c (nb 0) (nb 1) (nb 2)), eI Γ (a 7) 3 nb] := by
  refine e_bool [(0, .ref h), (1, .int c)] (by decide +kernel) (Nat.le_of_ble_eq_true rfl) rfl (fun V K hR => ?_)
  have h5 := hI.g
  have h6 := hI.m
  refine r_aload_n K dX7_isDone_0 0 rfl ?_
  refine r_get K dX7_isDone_1 (kf := 11) 0 rfl rfl hinX7 (by decide) q768 rfl rfl ?_
  refine r_iconst K dX7_isDone_4 (nI 0) (by decide) ?_
  refine r_aldN K dX7_isDone_5 2 rfl (by first | omega | exact iG_lt (by omega) (by decide) | exact iM_lt (by omega) (by decide)) (by decide) ?_
  refine r_istore_n K dX7_isDone_6 rfl (by decide) (lv1 := [(2, .int (nb 0)), (0, .ref h), (1, .int c)]) rfl ?_
  refine r_aload_n K dX7_isDone_7 1 rfl ?_
  refine r_get K dX7_isDone_8 (kf := 11) 0 rfl rfl hinX7 (by decide) q768 rfl rfl ?_
  refine r_iconst K dX7_isDone_11 (nI 1) (by decide) ?_
  refine r_aldN K dX7_isDone_12 2 rfl (by first | omega | exact iG_lt (by omega) (by decide) | exact iM_lt (by omega) (by decide)) (by decide) ?_
  refine r_istore_n K dX7_isDone_13 rfl (by decide) (lv1 := [(3, .int (nb 1)), (2, .int (nb 0)), (0, .ref h), (1, .int c)]) rfl ?_
  refine r_iload_n K dX7_isDone_14 3 rfl ?_
  refine r_tsw K dX7_isDone_15.1 [275, 373, 373, 373, 373, 373, 108, 350, 373, 373, 373, 373, 180, 306, 373, 373, 373, 373, 373, 330] 373 (by decide) (by decide) (by decide) ⟨fun c15 => ?_, fun c15 => ?_, fun c15 => ?_, fun c15 => ?_, fun c15 => ?_, fun c15 => ?_, fun c15 => ?_, fun c15 => ?_, fun c15 => ?_, fun c15 => ?_, fun c15 => ?_, fun c15 => ?_, fun c15 => ?_, fun c15 => ?_, fun c15 => ?_, fun c15 => ?_, fun c15 => ?_, fun c15 => ?_, fun c15 => ?_, fun c15 => ?_, trivial⟩ (fun c15 => ?_)
  · have c15 : c = nI 97 := c15
    refine r_aload_n K dX7_isDone_275 2 rfl ?_
    refine r_iload_n K dX7_isDone_276 1 rfl ?_
    refine r_cVd K dX7_isDone_277 (c_X7_isMourner l Γ h a hi lm rm pc bi sd r (nb 0) (hI)) mX7_isMourner q856 rfl (by decide) rfl rfl 3 rfl [0, 1] [2] rfl rfl [eI Γ (a 7) 3 nb] rfl [mo h a hi lm rm pc bi sd, eI Γ (a 0) 42 r, eI Γ (a 7) 3 nb] rfl rfl rfl [] rfl (Nat.le_of_ble_eq_true rfl) ?_
    refine r_ifeqB K dX7_isDone_280 (fun c280 => ?_) (fun c280 => ?_)
    · have hB : dnB r c (nb 0) (nb 1) = false := by
        rw [dnB_a c15]; rw [c280]; rfl
      refine r_iconst K dX7_isDone_291 (nI 0) (by decide) ?_
      exact hR () dX7_isDone_292 (rfl) (trivial) (e_ri (by rw [hB]; rfl)) (by rw [dnX_f hB]; exact weq.rf)
    · have ha := inN_e c280 (by omega)
      have la := ix_lt c280 (by omega)
      refine r_lc (lv1 := [(3, .int (nb 1)), (2, .int (nI (ix (nb 0)))), (0, .ref h), (1, .int c)]) (congrArg (fun zz : Int32 => ([(3, .int (nb 1)), (2, .int zz), (0, .ref h), (1, .int c)] : List (Nat × Value))) (ha)) ?_
      refine r_aload_n K dX7_isDone_283 2 rfl ?_
      refine r_iload_n K dX7_isDone_284 0 rfl ?_
      refine r_cVd K dX7_isDone_285 (c_X7_isGrave l Γ h a hi lm rm pc bi sd r (nb 1) (hI)) mX7_isGrave q860 rfl (by decide) rfl rfl 3 rfl [0, 1] [2] rfl rfl [eI Γ (a 7) 3 nb] rfl [mo h a hi lm rm pc bi sd, eI Γ (a 0) 42 r, eI Γ (a 7) 3 nb] rfl rfl rfl [] rfl (Nat.le_of_ble_eq_true rfl) ?_
      refine r_ifneB K dX7_isDone_288 (fun c288 => ?_) (fun c288 => ?_)
      · have hB : dnB r c (nb 0) (nb 1) = true := by
          rw [dnB_a c15]; rw [c280, c288]; rfl
        refine r_aload_n K dX7_isDone_293 2 rfl ?_
        refine r_get K dX7_isDone_294 (kf := 0) 0 rfl rfl hinX7 (by decide) q757 rfl rfl ?_
        refine r_iload_n K dX7_isDone_297 1 rfl ?_
        refine r_iconst K dX7_isDone_298 (nI 3) (by decide) ?_
        refine r_cSd K dX7_isDone_299 (c_X7_ofM l Γ (ix (nb 0)) 3) mX7_ofM q853 rfl (by decide) 3 rfl [] [0, 1, 2] rfl rfl [mo h a hi lm rm pc bi sd, eI Γ (a 0) 42 r, eI Γ (a 7) 3 nb] rfl [mo h a hi lm rm pc bi sd, eI Γ (a 0) 42 r, eI Γ (a 7) 3 nb] rfl rfl rfl [.ref (a 0)] rfl (Nat.le_of_ble_eq_true rfl) ?_
        refine r_iload_n K dX7_isDone_302 0 rfl ?_
        refine r_astN K dX7_isDone_303 (ws1 := [mo h a hi lm rm pc bi sd, eI Γ (a 0) 42 (upd r (iM (ix (nb 0)) 3) (nb 1)), eI Γ (a 7) 3 nb]) 1 rfl (by first | omega | exact iG_lt (by omega) (by decide) | exact iM_lt (by omega) (by decide)) (by decide) rfl ?_
        refine r_iconst K dX7_isDone_304 (nI 1) (by decide) ?_
        exact hR () dX7_isDone_305 (rfl) (trivial) (e_ri (by rw [hB]; rfl)) (by rw [dnX_t hB, dnQ_a c15]; exact weq.rf)
      · have hB : dnB r c (nb 0) (nb 1) = false := by
          rw [dnB_a c15]; rw [c280, c288]; rfl
        refine r_iconst K dX7_isDone_291 (nI 0) (by decide) ?_
        exact hR () dX7_isDone_292 (rfl) (trivial) (e_ri (by rw [hB]; rfl)) (by rw [dnX_f hB]; exact weq.rf)
  · have c15 : c = nI 98 := c15
    exact absurd (okC_v hc c15 (by decide)) (by decide)
  · have c15 : c = nI 99 := c15
    exact absurd (okC_v hc c15 (by decide)) (by decide)
  · have c15 : c = nI 100 := c15
    refine r_iload_n K dX7_isDone_373 1 rfl ?_
    refine r_iconst K dX7_isDone_374 (nI 1) (by decide) ?_
    refine r_bipush K dX7_isDone_375 (nI 60) (by decide) ?_
    refine r_cSd K dX7_isDone_377 (c_X7_isIn l Γ (nb 0) (nI 1) (nI 60)) mX7_isIn q833 rfl (by decide) 3 rfl [] [0, 1, 2] rfl rfl [mo h a hi lm rm pc bi sd, eI Γ (a 0) 42 r, eI Γ (a 7) 3 nb] rfl [mo h a hi lm rm pc bi sd, eI Γ (a 0) 42 r, eI Γ (a 7) 3 nb] rfl rfl rfl [] rfl (Nat.le_of_ble_eq_true rfl) ?_
    refine r_ifeqB K dX7_isDone_380 (fun c380 => ?_) (fun c380 => ?_)
    · have hB : dnB r c (nb 0) (nb 1) = false := by
        rw [dnB_d c15]; exact decide_eq_false (fun z => absurd (isInB_t (Int32.not_lt.mpr z.1) (Int32.not_lt.mpr z.2.1)) (nt c380))
      refine r_iconst K dX7_isDone_397 (nI 0) (by decide) ?_
      exact hR () dX7_isDone_398 (rfl) (trivial) (e_ri (by rw [hB]; rfl)) (by rw [dnX_f hB]; exact weq.rf)
    · have ha := isInB_ok (lo := 1) (hi := 60) (by decide) (by decide) c380
      have la := ha.2
      have ca := of_decide_eq_true c380
      refine r_aload_n K dX7_isDone_383 2 rfl ?_
      refine r_get K dX7_isDone_384 (kf := 0) 0 rfl rfl hinX7 (by decide) q757 rfl rfl ?_
      refine r_iconst K dX7_isDone_387 (nI 2) (by decide) ?_
      refine r_aldN K dX7_isDone_388 1 rfl (by first | omega | exact iG_lt (by omega) (by decide) | exact iM_lt (by omega) (by decide)) (by decide) ?_
      refine r_iload_n K dX7_isDone_389 1 rfl ?_
      refine r_iadd K dX7_isDone_390 ?_
      refine r_sipush K dX7_isDone_391 (nI 999) (by decide) ?_
      refine r_ic_le K dX7_isDone_394 (fun c394 => ?_) (fun c394 => ?_)
      · have hB : dnB r c (nb 0) (nb 1) = true := by
          rw [dnB_d c15]; exact decide_eq_true ⟨ca.1, ca.2, c394⟩
        refine r_lc (lv1 := [(3, .int (nb 1)), (2, .int (nI (ix (nb 0)))), (0, .ref h), (1, .int c)]) (congrArg (fun zz : Int32 => ([(3, .int (nb 1)), (2, .int zz), (0, .ref h), (1, .int c)] : List (Nat × Value))) (ha.1)) ?_
        refine r_aload_n K dX7_isDone_399 2 rfl ?_
        refine r_get K dX7_isDone_400 (kf := 0) 0 rfl rfl hinX7 (by decide) q757 rfl rfl ?_
        refine r_iload_n K dX7_isDone_403 1 rfl ?_
        refine r_cSn K dX7_isDone_404 (c_X7_daysOn l Γ (a 0) r (ix (nb 0)) (hI) (by first | assumption | omega)) mX7_daysOn q873 rfl (by decide) 3 rfl [1] [0, 2] rfl rfl [mo h a hi lm rm pc bi sd, eI Γ (a 7) 3 nb] rfl [mo h a hi lm rm pc bi sd, eI Γ (a 0) 42 (daysS r (ix (nb 0))), eI Γ (a 7) 3 nb] rfl rfl rfl [] rfl (Nat.le_of_ble_eq_true rfl) ?_
        refine r_iconst K dX7_isDone_407 (nI 1) (by decide) ?_
        exact hR () dX7_isDone_408 (rfl) (trivial) (e_ri (by rw [hB]; rfl)) (by rw [dnX_t hB, dnQ_d c15]; exact weq.rf)
      · have hB : dnB r c (nb 0) (nb 1) = false := by
          rw [dnB_d c15]; exact decide_eq_false (fun z => c394 z.2.2)
        refine r_iconst K dX7_isDone_397 (nI 0) (by decide) ?_
        exact hR () dX7_isDone_398 (rfl) (trivial) (e_ri (by rw [hB]; rfl)) (by rw [dnX_f hB]; exact weq.rf)
  · have c15 : c = nI 101 := c15
    exact absurd (okC_v hc c15 (by decide)) (by decide)
  · have c15 : c = nI 102 := c15
    exact absurd (okC_v hc c15 (by decide)) (by decide)
  · have c15 : c = nI 103 := c15
    refine r_aload_n K dX7_isDone_108 2 rfl ?_
    refine r_get K dX7_isDone_109 (kf := 0) 0 rfl rfl hinX7 (by decide) q757 rfl rfl ?_
    refine r_iconst K dX7_isDone_112 (nI 0) (by decide) ?_
    refine r_aldN K dX7_isDone_113 1 rfl (by first | omega | exact iG_lt (by omega) (by decide) | exact iM_lt (by omega) (by decide)) (by decide) ?_
    refine r_top (y := nI (nG r)) (hI.r0) ?_
    refine r_iconst K dX7_isDone_114 (nI 5) (by decide) ?_
    refine r_ic_neN K dX7_isDone_115 (by omega) (by omega) (fun c115 => ?_) (fun c115 => ?_)
    · have hB : dnB r c (nb 0) (nb 1) = true := by
        rw [dnB_g c15]; exact decide_eq_true (by omega)
      refine r_aload_n K dX7_isDone_120 2 rfl ?_
      refine r_get K dX7_isDone_121 (kf := 0) 0 rfl rfl hinX7 (by decide) q757 rfl rfl ?_
      refine r_aload_n K dX7_isDone_124 2 rfl ?_
      refine r_get K dX7_isDone_125 (kf := 0) 0 rfl rfl hinX7 (by decide) q757 rfl rfl ?_
      refine r_iconst K dX7_isDone_128 (nI 0) (by decide) ?_
      refine r_aldN K dX7_isDone_129 1 rfl (by first | omega | exact iG_lt (by omega) (by decide) | exact iM_lt (by omega) (by decide)) (by decide) ?_
      refine r_top (y := nI (nG r)) (hI.r0) ?_
      refine r_iconst K dX7_isDone_130 (nI 0) (by decide) ?_
      refine r_cSd K dX7_isDone_131 (c_X7_ofG l Γ (nG r) 0) mX7_ofG q850 rfl (by decide) 3 rfl [] [0, 1, 2] rfl rfl [mo h a hi lm rm pc bi sd, eI Γ (a 0) 42 r, eI Γ (a 7) 3 nb] rfl [mo h a hi lm rm pc bi sd, eI Γ (a 0) 42 r, eI Γ (a 7) 3 nb] rfl rfl rfl [.ref (a 0)] rfl (Nat.le_of_ble_eq_true rfl) ?_
      refine r_iload_n K dX7_isDone_134 1 rfl ?_
      refine r_astN K dX7_isDone_135 (ws1 := [mo h a hi lm rm pc bi sd, eI Γ (a 0) 42 (upd r (iG (nG r) 0) (nb 0)), eI Γ (a 7) 3 nb]) 1 rfl (by first | omega | exact iG_lt (by omega) (by decide) | exact iM_lt (by omega) (by decide)) (by decide) rfl ?_
      refine r_aload_n K dX7_isDone_136 2 rfl ?_
      refine r_get K dX7_isDone_137 (kf := 0) 0 rfl rfl hinX7 (by decide) q757 rfl rfl ?_
      refine r_aload_n K dX7_isDone_140 2 rfl ?_
      refine r_get K dX7_isDone_141 (kf := 0) 0 rfl rfl hinX7 (by decide) q757 rfl rfl ?_
      refine r_iconst K dX7_isDone_144 (nI 0) (by decide) ?_
      refine r_aldN K dX7_isDone_145 1 rfl (by first | omega | exact iG_lt (by omega) (by decide) | exact iM_lt (by omega) (by decide)) (by decide) ?_
      refine r_top (y := nI (nG r)) (by rw [upd_n (by unfold iG; omega)]; exact hI.r0) ?_
      refine r_iconst K dX7_isDone_146 (nI 1) (by decide) ?_
      refine r_cSd K dX7_isDone_147 (c_X7_ofG l Γ (nG r) 1) mX7_ofG q850 rfl (by decide) 3 rfl [] [0, 1, 2] rfl rfl [mo h a hi lm rm pc bi sd, eI Γ (a 0) 42 (upd r (iG (nG r) 0) (nb 0)), eI Γ (a 7) 3 nb] rfl [mo h a hi lm rm pc bi sd, eI Γ (a 0) 42 (upd r (iG (nG r) 0) (nb 0)), eI Γ (a 7) 3 nb] rfl rfl rfl [.ref (a 0)] rfl (Nat.le_of_ble_eq_true rfl) ?_
      refine r_iconst K dX7_isDone_150 (nI 0) (by decide) ?_
      refine r_astN K dX7_isDone_151 (ws1 := [mo h a hi lm rm pc bi sd, eI Γ (a 0) 42 (upd (upd r (iG (nG r) 0) (nb 0)) (iG (nG r) 1) (nI 0)), eI Γ (a 7) 3 nb]) 1 rfl (by first | omega | exact iG_lt (by omega) (by decide) | exact iM_lt (by omega) (by decide)) (by decide) rfl ?_
      refine r_aload_n K dX7_isDone_152 2 rfl ?_
      refine r_get K dX7_isDone_153 (kf := 0) 0 rfl rfl hinX7 (by decide) q757 rfl rfl ?_
      refine r_aload_n K dX7_isDone_156 2 rfl ?_
      refine r_get K dX7_isDone_157 (kf := 0) 0 rfl rfl hinX7 (by decide) q757 rfl rfl ?_
      refine r_iconst K dX7_isDone_160 (nI 0) (by decide) ?_
      refine r_aldN K dX7_isDone_161 1 rfl (by first | omega | exact iG_lt (by omega) (by decide) | exact iM_lt (by omega) (by decide)) (by decide) ?_
      refine r_top (y := nI (nG r)) (by rw [upd_n (by unfold iG; omega), upd_n (by unfold iG; omega)]; exact hI.r0) ?_
      refine r_iconst K dX7_isDone_162 (nI 2) (by decide) ?_
      refine r_cSd K dX7_isDone_163 (c_X7_ofG l Γ (nG r) 2) mX7_ofG q850 rfl (by decide) 3 rfl [] [0, 1, 2] rfl rfl [mo h a hi lm rm pc bi sd, eI Γ (a 0) 42 (upd (upd r (iG (nG r) 0) (nb 0)) (iG (nG r) 1) (nI 0)), eI Γ (a 7) 3 nb] rfl [mo h a hi lm rm pc bi sd, eI Γ (a 0) 42 (upd (upd r (iG (nG r) 0) (nb 0)) (iG (nG r) 1) (nI 0)), eI Γ (a 7) 3 nb] rfl rfl rfl [.ref (a 0)] rfl (Nat.le_of_ble_eq_true rfl) ?_
      refine r_iconst K dX7_isDone_166 (nI 0) (by decide) ?_
      refine r_astN K dX7_isDone_167 (ws1 := [mo h a hi lm rm pc bi sd, eI Γ (a 0) 42 (upd (upd (upd r (iG (nG r) 0) (nb 0)) (iG (nG r) 1) (nI 0)) (iG (nG r) 2) (nI 0)), eI Γ (a 7) 3 nb]) 1 rfl (by first | omega | exact iG_lt (by omega) (by decide) | exact iM_lt (by omega) (by decide)) (by decide) rfl ?_
      refine r_aload_n K dX7_isDone_168 2 rfl ?_
      refine r_get K dX7_isDone_169 (kf := 0) 0 rfl rfl hinX7 (by decide) q757 rfl rfl ?_
      refine r_iconst K dX7_isDone_172 (nI 0) (by decide) ?_
      refine r_dup2 K dX7_isDone_173 rfl rfl ?_
      refine r_aldN K dX7_isDone_174 1 rfl (by first | omega | exact iG_lt (by omega) (by decide) | exact iM_lt (by omega) (by decide)) (by decide) ?_
      refine r_top (y := nI (nG r)) (by rw [upd_n (by unfold iG; omega), upd_n (by unfold iG; omega), upd_n (by unfold iG; omega)]; exact hI.r0) ?_
      refine r_iconst K dX7_isDone_175 (nI 1) (by decide) ?_
      refine r_iaddN K dX7_isDone_176 ?_
      refine r_astN K dX7_isDone_177 (ws1 := [mo h a hi lm rm pc bi sd, eI Γ (a 0) 42 (upd (upd (upd (upd r (iG (nG r) 0) (nb 0)) (iG (nG r) 1) (nI 0)) (iG (nG r) 2) (nI 0)) 0 (nI ((nG r) + 1))), eI Γ (a 7) 3 nb]) 1 rfl (by first | omega | exact iG_lt (by omega) (by decide) | exact iM_lt (by omega) (by decide)) (by decide) rfl ?_
      refine r_iconst K dX7_isDone_178 (nI 1) (by decide) ?_
      exact hR () dX7_isDone_179 (rfl) (trivial) (e_ri (by rw [hB]; rfl)) (by rw [dnX_t hB, dnQ_g c15]; exact weq.rf)
    · have hB : dnB r c (nb 0) (nb 1) = false := by
        rw [dnB_g c15]; exact decide_eq_false (by omega)
      refine r_iconst K dX7_isDone_118 (nI 0) (by decide) ?_
      exact hR () dX7_isDone_119 (rfl) (trivial) (e_ri (by rw [hB]; rfl)) (by rw [dnX_f hB]; exact weq.rf)
  · have c15 : c = nI 104 := c15
    refine r_aload_n K dX7_isDone_350 2 rfl ?_
    refine r_iload_n K dX7_isDone_351 1 rfl ?_
    refine r_cVd K dX7_isDone_352 (c_X7_isGrave l Γ h a hi lm rm pc bi sd r (nb 0) (hI)) mX7_isGrave q860 rfl (by decide) rfl rfl 3 rfl [0, 1] [2] rfl rfl [eI Γ (a 7) 3 nb] rfl [mo h a hi lm rm pc bi sd, eI Γ (a 0) 42 r, eI Γ (a 7) 3 nb] rfl rfl rfl [] rfl (Nat.le_of_ble_eq_true rfl) ?_
    refine r_ifneB K dX7_isDone_355 (fun c355 => ?_) (fun c355 => ?_)
    · have ha := inN_e c355 (by omega)
      have la := ix_lt c355 (by omega)
      refine r_lc (lv1 := [(3, .int (nb 1)), (2, .int (nI (ix (nb 0)))), (0, .ref h), (1, .int c)]) (congrArg (fun zz : Int32 => ([(3, .int (nb 1)), (2, .int zz), (0, .ref h), (1, .int c)] : List (Nat × Value))) (ha)) ?_
      have hB : dnB r c (nb 0) (nb 1) = true := by
        rw [dnB_h c15]; exact c355
      refine r_aload_n K dX7_isDone_360 2 rfl ?_
      refine r_get K dX7_isDone_361 (kf := 0) 0 rfl rfl hinX7 (by decide) q757 rfl rfl ?_
      refine r_iload_n K dX7_isDone_364 1 rfl ?_
      refine r_iconst K dX7_isDone_365 (nI 0) (by decide) ?_
      refine r_cSd K dX7_isDone_366 (c_X7_ofG l Γ (ix (nb 0)) 0) mX7_ofG q850 rfl (by decide) 3 rfl [] [0, 1, 2] rfl rfl [mo h a hi lm rm pc bi sd, eI Γ (a 0) 42 r, eI Γ (a 7) 3 nb] rfl [mo h a hi lm rm pc bi sd, eI Γ (a 0) 42 r, eI Γ (a 7) 3 nb] rfl rfl rfl [.ref (a 0)] rfl (Nat.le_of_ble_eq_true rfl) ?_
      refine r_iload_n K dX7_isDone_369 0 rfl ?_
      refine r_astN K dX7_isDone_370 (ws1 := [mo h a hi lm rm pc bi sd, eI Γ (a 0) 42 (upd r (iG (ix (nb 0)) 0) (nb 1)), eI Γ (a 7) 3 nb]) 1 rfl (by first | omega | exact iG_lt (by omega) (by decide) | exact iM_lt (by omega) (by decide)) (by decide) rfl ?_
      refine r_iconst K dX7_isDone_371 (nI 1) (by decide) ?_
      exact hR () dX7_isDone_372 (rfl) (trivial) (e_ri (by rw [hB]; rfl)) (by rw [dnX_t hB, dnQ_h c15]; exact weq.rf)
    · have hB : dnB r c (nb 0) (nb 1) = false := by
        rw [dnB_h c15]; exact c355
      refine r_iconst K dX7_isDone_358 (nI 0) (by decide) ?_
      exact hR () dX7_isDone_359 (rfl) (trivial) (e_ri (by rw [hB]; rfl)) (by rw [dnX_f hB]; exact weq.rf)
  · have c15 : c = nI 105 := c15
    exact absurd (okC_v hc c15 (by decide)) (by decide)
  · have c15 : c = nI 106 := c15
    exact absurd (okC_v hc c15 (by decide)) (by decide)
  · have c15 : c = nI 107 := c15
    exact absurd (okC_v hc c15 (by decide)) (by decide)
  · have c15 : c = nI 108 := c15
    exact absurd (okC_v hc c15 (by decide)) (by decide)
  · have c15 : c = nI 109 := c15
    refine r_aload_n K dX7_isDone_180 2 rfl ?_
    refine r_get K dX7_isDone_181 (kf := 0) 0 rfl rfl hinX7 (by decide) q757 rfl rfl ?_
    refine r_iconst K dX7_isDone_184 (nI 1) (by decide) ?_
    refine r_aldN K dX7_isDone_185 1 rfl (by first | omega | exact iG_lt (by omega) (by decide) | exact iM_lt (by omega) (by decide)) (by decide) ?_
    refine r_top (y := nI (nM r)) (hI.r1) ?_
    refine r_bipush K dX7_isDone_186 (nI 6) (by decide) ?_
    refine r_ic_neN K dX7_isDone_188 (by omega) (by omega) (fun c188 => ?_) (fun c188 => ?_)
    · have hB : dnB r c (nb 0) (nb 1) = true := by
        rw [dnB_m c15]; exact decide_eq_true (by omega)
      refine r_aload_n K dX7_isDone_193 2 rfl ?_
      refine r_get K dX7_isDone_194 (kf := 0) 0 rfl rfl hinX7 (by decide) q757 rfl rfl ?_
      refine r_aload_n K dX7_isDone_197 2 rfl ?_
      refine r_get K dX7_isDone_198 (kf := 0) 0 rfl rfl hinX7 (by decide) q757 rfl rfl ?_
      refine r_iconst K dX7_isDone_201 (nI 1) (by decide) ?_
      refine r_aldN K dX7_isDone_202 1 rfl (by first | omega | exact iG_lt (by omega) (by decide) | exact iM_lt (by omega) (by decide)) (by decide) ?_
      refine r_top (y := nI (nM r)) (hI.r1) ?_
      refine r_iconst K dX7_isDone_203 (nI 0) (by decide) ?_
      refine r_cSd K dX7_isDone_204 (c_X7_ofM l Γ (nM r) 0) mX7_ofM q853 rfl (by decide) 3 rfl [] [0, 1, 2] rfl rfl [mo h a hi lm rm pc bi sd, eI Γ (a 0) 42 r, eI Γ (a 7) 3 nb] rfl [mo h a hi lm rm pc bi sd, eI Γ (a 0) 42 r, eI Γ (a 7) 3 nb] rfl rfl rfl [.ref (a 0)] rfl (Nat.le_of_ble_eq_true rfl) ?_
      refine r_iload_n K dX7_isDone_207 1 rfl ?_
      refine r_astN K dX7_isDone_208 (ws1 := [mo h a hi lm rm pc bi sd, eI Γ (a 0) 42 (upd r (iM (nM r) 0) (nb 0)), eI Γ (a 7) 3 nb]) 1 rfl (by first | omega | exact iG_lt (by omega) (by decide) | exact iM_lt (by omega) (by decide)) (by decide) rfl ?_
      refine r_aload_n K dX7_isDone_209 2 rfl ?_
      refine r_get K dX7_isDone_210 (kf := 0) 0 rfl rfl hinX7 (by decide) q757 rfl rfl ?_
      refine r_aload_n K dX7_isDone_213 2 rfl ?_
      refine r_get K dX7_isDone_214 (kf := 0) 0 rfl rfl hinX7 (by decide) q757 rfl rfl ?_
      refine r_iconst K dX7_isDone_217 (nI 1) (by decide) ?_
      refine r_aldN K dX7_isDone_218 1 rfl (by first | omega | exact iG_lt (by omega) (by decide) | exact iM_lt (by omega) (by decide)) (by decide) ?_
      refine r_top (y := nI (nM r)) (by rw [upd_n (by unfold iM; omega)]; exact hI.r1) ?_
      refine r_iconst K dX7_isDone_219 (nI 1) (by decide) ?_
      refine r_cSd K dX7_isDone_220 (c_X7_ofM l Γ (nM r) 1) mX7_ofM q853 rfl (by decide) 3 rfl [] [0, 1, 2] rfl rfl [mo h a hi lm rm pc bi sd, eI Γ (a 0) 42 (upd r (iM (nM r) 0) (nb 0)), eI Γ (a 7) 3 nb] rfl [mo h a hi lm rm pc bi sd, eI Γ (a 0) 42 (upd r (iM (nM r) 0) (nb 0)), eI Γ (a 7) 3 nb] rfl rfl rfl [.ref (a 0)] rfl (Nat.le_of_ble_eq_true rfl) ?_
      refine r_iload_n K dX7_isDone_223 0 rfl ?_
      refine r_astN K dX7_isDone_224 (ws1 := [mo h a hi lm rm pc bi sd, eI Γ (a 0) 42 (upd (upd r (iM (nM r) 0) (nb 0)) (iM (nM r) 1) (nb 1)), eI Γ (a 7) 3 nb]) 1 rfl (by first | omega | exact iG_lt (by omega) (by decide) | exact iM_lt (by omega) (by decide)) (by decide) rfl ?_
      refine r_aload_n K dX7_isDone_225 2 rfl ?_
      refine r_get K dX7_isDone_226 (kf := 0) 0 rfl rfl hinX7 (by decide) q757 rfl rfl ?_
      refine r_aload_n K dX7_isDone_229 2 rfl ?_
      refine r_get K dX7_isDone_230 (kf := 0) 0 rfl rfl hinX7 (by decide) q757 rfl rfl ?_
      refine r_iconst K dX7_isDone_233 (nI 1) (by decide) ?_
      refine r_aldN K dX7_isDone_234 1 rfl (by first | omega | exact iG_lt (by omega) (by decide) | exact iM_lt (by omega) (by decide)) (by decide) ?_
      refine r_top (y := nI (nM r)) (by rw [upd_n (by unfold iM; omega), upd_n (by unfold iM; omega)]; exact hI.r1) ?_
      refine r_iconst K dX7_isDone_235 (nI 2) (by decide) ?_
      refine r_cSd K dX7_isDone_236 (c_X7_ofM l Γ (nM r) 2) mX7_ofM q853 rfl (by decide) 3 rfl [] [0, 1, 2] rfl rfl [mo h a hi lm rm pc bi sd, eI Γ (a 0) 42 (upd (upd r (iM (nM r) 0) (nb 0)) (iM (nM r) 1) (nb 1)), eI Γ (a 7) 3 nb] rfl [mo h a hi lm rm pc bi sd, eI Γ (a 0) 42 (upd (upd r (iM (nM r) 0) (nb 0)) (iM (nM r) 1) (nb 1)), eI Γ (a 7) 3 nb] rfl rfl rfl [.ref (a 0)] rfl (Nat.le_of_ble_eq_true rfl) ?_
      refine r_aload_n K dX7_isDone_239 2 rfl ?_
      refine r_get K dX7_isDone_240 (kf := 11) 0 rfl rfl hinX7 (by decide) q768 rfl rfl ?_
      refine r_iconst K dX7_isDone_243 (nI 2) (by decide) ?_
      refine r_aldN K dX7_isDone_244 2 rfl (by first | omega | exact iG_lt (by omega) (by decide) | exact iM_lt (by omega) (by decide)) (by decide) ?_
      refine r_astN K dX7_isDone_245 (ws1 := [mo h a hi lm rm pc bi sd, eI Γ (a 0) 42 (upd (upd (upd r (iM (nM r) 0) (nb 0)) (iM (nM r) 1) (nb 1)) (iM (nM r) 2) (nb 2)), eI Γ (a 7) 3 nb]) 1 rfl (by first | omega | exact iG_lt (by omega) (by decide) | exact iM_lt (by omega) (by decide)) (by decide) rfl ?_
      refine r_aload_n K dX7_isDone_246 2 rfl ?_
      refine r_get K dX7_isDone_247 (kf := 0) 0 rfl rfl hinX7 (by decide) q757 rfl rfl ?_
      refine r_aload_n K dX7_isDone_250 2 rfl ?_
      refine r_get K dX7_isDone_251 (kf := 0) 0 rfl rfl hinX7 (by decide) q757 rfl rfl ?_
      refine r_iconst K dX7_isDone_254 (nI 1) (by decide) ?_
      refine r_aldN K dX7_isDone_255 1 rfl (by first | omega | exact iG_lt (by omega) (by decide) | exact iM_lt (by omega) (by decide)) (by decide) ?_
      refine r_top (y := nI (nM r)) (by rw [upd_n (by unfold iM; omega), upd_n (by unfold iM; omega), upd_n (by unfold iM; omega)]; exact hI.r1) ?_
      refine r_iconst K dX7_isDone_256 (nI 3) (by decide) ?_
      refine r_cSd K dX7_isDone_257 (c_X7_ofM l Γ (nM r) 3) mX7_ofM q853 rfl (by decide) 3 rfl [] [0, 1, 2] rfl rfl [mo h a hi lm rm pc bi sd, eI Γ (a 0) 42 (upd (upd (upd r (iM (nM r) 0) (nb 0)) (iM (nM r) 1) (nb 1)) (iM (nM r) 2) (nb 2)), eI Γ (a 7) 3 nb] rfl [mo h a hi lm rm pc bi sd, eI Γ (a 0) 42 (upd (upd (upd r (iM (nM r) 0) (nb 0)) (iM (nM r) 1) (nb 1)) (iM (nM r) 2) (nb 2)), eI Γ (a 7) 3 nb] rfl rfl rfl [.ref (a 0)] rfl (Nat.le_of_ble_eq_true rfl) ?_
      refine r_bipush K dX7_isDone_260 ((-9)) (by decide) ?_
      refine r_astN K dX7_isDone_262 (ws1 := [mo h a hi lm rm pc bi sd, eI Γ (a 0) 42 (upd (upd (upd (upd r (iM (nM r) 0) (nb 0)) (iM (nM r) 1) (nb 1)) (iM (nM r) 2) (nb 2)) (iM (nM r) 3) (-9)), eI Γ (a 7) 3 nb]) 1 rfl (by first | omega | exact iG_lt (by omega) (by decide) | exact iM_lt (by omega) (by decide)) (by decide) rfl ?_
      refine r_aload_n K dX7_isDone_263 2 rfl ?_
      refine r_get K dX7_isDone_264 (kf := 0) 0 rfl rfl hinX7 (by decide) q757 rfl rfl ?_
      refine r_iconst K dX7_isDone_267 (nI 1) (by decide) ?_
      refine r_dup2 K dX7_isDone_268 rfl rfl ?_
      refine r_aldN K dX7_isDone_269 1 rfl (by first | omega | exact iG_lt (by omega) (by decide) | exact iM_lt (by omega) (by decide)) (by decide) ?_
      refine r_top (y := nI (nM r)) (by rw [upd_n (by unfold iM; omega), upd_n (by unfold iM; omega), upd_n (by unfold iM; omega), upd_n (by unfold iM; omega)]; exact hI.r1) ?_
      refine r_iconst K dX7_isDone_270 (nI 1) (by decide) ?_
      refine r_iaddN K dX7_isDone_271 ?_
      refine r_astN K dX7_isDone_272 (ws1 := [mo h a hi lm rm pc bi sd, eI Γ (a 0) 42 (upd (upd (upd (upd (upd r (iM (nM r) 0) (nb 0)) (iM (nM r) 1) (nb 1)) (iM (nM r) 2) (nb 2)) (iM (nM r) 3) (-9)) 1 (nI ((nM r) + 1))), eI Γ (a 7) 3 nb]) 1 rfl (by first | omega | exact iG_lt (by omega) (by decide) | exact iM_lt (by omega) (by decide)) (by decide) rfl ?_
      refine r_iconst K dX7_isDone_273 (nI 1) (by decide) ?_
      exact hR () dX7_isDone_274 (rfl) (trivial) (e_ri (by rw [hB]; rfl)) (by rw [dnX_t hB, dnQ_m c15]; exact weq.rf)
    · have hB : dnB r c (nb 0) (nb 1) = false := by
        rw [dnB_m c15]; exact decide_eq_false (by omega)
      refine r_iconst K dX7_isDone_191 (nI 0) (by decide) ?_
      exact hR () dX7_isDone_192 (rfl) (trivial) (e_ri (by rw [hB]; rfl)) (by rw [dnX_f hB]; exact weq.rf)
  · have c15 : c = nI 110 := c15
    refine r_aload_n K dX7_isDone_306 2 rfl ?_
    refine r_iload_n K dX7_isDone_307 1 rfl ?_
    refine r_cVd K dX7_isDone_308 (c_X7_isMourner l Γ h a hi lm rm pc bi sd r (nb 0) (hI)) mX7_isMourner q856 rfl (by decide) rfl rfl 3 rfl [0, 1] [2] rfl rfl [eI Γ (a 7) 3 nb] rfl [mo h a hi lm rm pc bi sd, eI Γ (a 0) 42 r, eI Γ (a 7) 3 nb] rfl rfl rfl [] rfl (Nat.le_of_ble_eq_true rfl) ?_
    refine r_ifneB K dX7_isDone_311 (fun c311 => ?_) (fun c311 => ?_)
    · have ha := inN_e c311 (by omega)
      have la := ix_lt c311 (by omega)
      refine r_lc (lv1 := [(3, .int (nb 1)), (2, .int (nI (ix (nb 0)))), (0, .ref h), (1, .int c)]) (congrArg (fun zz : Int32 => ([(3, .int (nb 1)), (2, .int zz), (0, .ref h), (1, .int c)] : List (Nat × Value))) (ha)) ?_
      have hB : dnB r c (nb 0) (nb 1) = true := by
        rw [dnB_n c15]; exact c311
      refine r_aload_n K dX7_isDone_316 2 rfl ?_
      refine r_get K dX7_isDone_317 (kf := 0) 0 rfl rfl hinX7 (by decide) q757 rfl rfl ?_
      refine r_iload_n K dX7_isDone_320 1 rfl ?_
      refine r_iconst K dX7_isDone_321 (nI 3) (by decide) ?_
      refine r_cSd K dX7_isDone_322 (c_X7_ofM l Γ (ix (nb 0)) 3) mX7_ofM q853 rfl (by decide) 3 rfl [] [0, 1, 2] rfl rfl [mo h a hi lm rm pc bi sd, eI Γ (a 0) 42 r, eI Γ (a 7) 3 nb] rfl [mo h a hi lm rm pc bi sd, eI Γ (a 0) 42 r, eI Γ (a 7) 3 nb] rfl rfl rfl [.ref (a 0)] rfl (Nat.le_of_ble_eq_true rfl) ?_
      refine r_bipush K dX7_isDone_325 ((-9)) (by decide) ?_
      refine r_astN K dX7_isDone_327 (ws1 := [mo h a hi lm rm pc bi sd, eI Γ (a 0) 42 (upd r (iM (ix (nb 0)) 3) (-9)), eI Γ (a 7) 3 nb]) 1 rfl (by first | omega | exact iG_lt (by omega) (by decide) | exact iM_lt (by omega) (by decide)) (by decide) rfl ?_
      refine r_iconst K dX7_isDone_328 (nI 1) (by decide) ?_
      exact hR () dX7_isDone_329 (rfl) (trivial) (e_ri (by rw [hB]; rfl)) (by rw [dnX_t hB, dnQ_n c15]; exact weq.rf)
    · have hB : dnB r c (nb 0) (nb 1) = false := by
        rw [dnB_n c15]; exact c311
      refine r_iconst K dX7_isDone_314 (nI 0) (by decide) ?_
      exact hR () dX7_isDone_315 (rfl) (trivial) (e_ri (by rw [hB]; rfl)) (by rw [dnX_f hB]; exact weq.rf)
  · have c15 : c = nI 111 := c15
    exact absurd (okC_v hc c15 (by decide)) (by decide)
  · have c15 : c = nI 112 := c15
    exact absurd (okC_v hc c15 (by decide)) (by decide)
  · have c15 : c = nI 113 := c15
    exact absurd (okC_v hc c15 (by decide)) (by decide)
  · have c15 : c = nI 114 := c15
    exact absurd (okC_v hc c15 (by decide)) (by decide)
  · have c15 : c = nI 115 := c15
    exact absurd (okC_v hc c15 (by decide)) (by decide)
  · have c15 : c = nI 116 := c15
    refine r_aload_n K dX7_isDone_330 2 rfl ?_
    refine r_iload_n K dX7_isDone_331 1 rfl ?_
    refine r_cVd K dX7_isDone_332 (c_X7_isMourner l Γ h a hi lm rm pc bi sd r (nb 0) (hI)) mX7_isMourner q856 rfl (by decide) rfl rfl 3 rfl [0, 1] [2] rfl rfl [eI Γ (a 7) 3 nb] rfl [mo h a hi lm rm pc bi sd, eI Γ (a 0) 42 r, eI Γ (a 7) 3 nb] rfl rfl rfl [] rfl (Nat.le_of_ble_eq_true rfl) ?_
    refine r_ifneB K dX7_isDone_335 (fun c335 => ?_) (fun c335 => ?_)
    · have ha := inN_e c335 (by omega)
      have la := ix_lt c335 (by omega)
      refine r_lc (lv1 := [(3, .int (nb 1)), (2, .int (nI (ix (nb 0)))), (0, .ref h), (1, .int c)]) (congrArg (fun zz : Int32 => ([(3, .int (nb 1)), (2, .int zz), (0, .ref h), (1, .int c)] : List (Nat × Value))) (ha)) ?_
      have hB : dnB r c (nb 0) (nb 1) = true := by
        rw [dnB_t c15]; exact c335
      refine r_aload_n K dX7_isDone_340 2 rfl ?_
      refine r_get K dX7_isDone_341 (kf := 0) 0 rfl rfl hinX7 (by decide) q757 rfl rfl ?_
      refine r_iload_n K dX7_isDone_344 1 rfl ?_
      refine r_cSn K dX7_isDone_345 (c_X7_isTold l Γ (a 0) r (ix (nb 0)) (by first | assumption | omega)) mX7_isTold q864 rfl (by decide) 3 rfl [1] [0, 2] rfl rfl [mo h a hi lm rm pc bi sd, eI Γ (a 7) 3 nb] rfl [mo h a hi lm rm pc bi sd, eI Γ (a 0) 42 (tellS r (ix (nb 0))), eI Γ (a 7) 3 nb] rfl rfl rfl [] rfl (Nat.le_of_ble_eq_true rfl) ?_
      refine r_iconst K dX7_isDone_348 (nI 1) (by decide) ?_
      exact hR () dX7_isDone_349 (rfl) (trivial) (e_ri (by rw [hB]; rfl)) (by rw [dnX_t hB, dnQ_t c15]; exact weq.rf)
    · have hB : dnB r c (nb 0) (nb 1) = false := by
        rw [dnB_t c15]; exact c335
      refine r_iconst K dX7_isDone_338 (nI 0) (by decide) ?_
      exact hR () dX7_isDone_339 (rfl) (trivial) (e_ri (by rw [hB]; rfl)) (by rw [dnX_f hB]; exact weq.rf)
  · have c15 : ∀ v : Nat, 97 ≤ v → v ≤ 116 → v < 2 ^ 31 → ¬ c = nI v := tsw_out c15
    exact absurd (okC_out hc c15) id
