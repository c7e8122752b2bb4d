set_option maxHeartbeats 1000000 in
set_option maxRecDepth 20000 in
theorem c_X3_isFull (l : Launch) (Γ : eG) (lo : Nat) (ls : Nat) (lt : Nat → Int32) (lm : Nat) (hl : lm ≤ 96) : cD l Γ yX3_isFull cX3_isFull 1 (some .boolean) 0 [.ref lo] [eO lo 1 [.ref ls, .int (nI lm)], eI Γ ls 96 lt] (some (.int (bz (decide (96 ≤ lm))))) [eO lo 1 [.ref ls, .int (nI lm)], eI Γ ls 96 lt] := by
  refine e_bool [(0, .ref lo)] (by decide +kernel) (Nat.le_of_ble_eq_true rfl) rfl (fun V K hR => ?_)
  refine r_aload_n K dX3_isFull_0 0 rfl ?_
  refine r_get K dX3_isFull_1 (kf := 1) 0 rfl rfl hinX3 (by decide) q89 rfl rfl ?_
  refine r_if_ltN K dX3_isFull_4 (by omega) (fun c4 => ?_) (fun c4 => ?_)
  · exact absurd c4 (by omega)
  · refine r_aload_n K dX3_isFull_7 0 rfl ?_
    refine r_get K dX3_isFull_8 (kf := 1) 0 rfl rfl hinX3 (by decide) q89 rfl rfl ?_
    refine r_bipush K dX3_isFull_11 (nI 96) (by decide) ?_
    refine r_ic_ltN K dX3_isFull_13 (by omega) (by omega) (fun c13 => ?_) (fun c13 => ?_)
    · refine r_iconst K dX3_isFull_20 (nI 0) (by decide) ?_
      exact hR () dX3_isFull_21 (rfl) (trivial) (e_ri (by rw [decide_eq_false (by omega)]; rfl)) (weq.rf)
    · refine r_iconst K dX3_isFull_16 (nI 1) (by decide) ?_
      refine r_goto K dX3_isFull_17 ?_
      exact hR () dX3_isFull_21 (rfl) (trivial) (e_ri (by rw [decide_eq_true (by omega)]; rfl)) (weq.rf)
set_option maxHeartbeats 1000000 in
set_option maxRecDepth 20000 in
theorem c_X3_howMany (l : Launch) (Γ : eG) (lo : Nat) (ls : Nat) (lt : Nat → Int32) (lm : Nat) (hl : lm ≤ 96) : cD l Γ yX3_howMany cX3_howMany 1 (some .int) 0 [.ref lo] [eO lo 1 [.ref ls, .int (nI lm)], eI Γ ls 96 lt] (some (.int (nI lm))) [eO lo 1 [.ref ls, .int (nI lm)], eI Γ ls 96 lt] := by
  refine e_int [(0, .ref lo)] (by decide +kernel) (Nat.le_of_ble_eq_true rfl) rfl (fun V K hR => ?_)
  refine r_aload_n K dX3_howMany_0 0 rfl ?_
  refine r_get K dX3_howMany_1 (kf := 1) 0 rfl rfl hinX3 (by decide) q89 rfl rfl ?_
  exact hR () dX3_howMany_4 (trivial) (e_ri (rfl)) (weq.rf)
set_option maxHeartbeats 1000000 in
set_option maxRecDepth 20000 in
theorem c_X3_add (l : Launch) (Γ : eG) (lo : Nat) (ls : Nat) (lt : Nat → Int32) (lm : Nat) (c : Int32) (hl : lm ≤ 96) (hlt : lm < 96) : cD l Γ yX3_add cX3_add 2 (some .int) 1 [.ref lo, .int c] [eO lo 1 [.ref ls, .int (nI lm)], eI Γ ls 96 lt] (some (.int (nI (lm + 1)))) [eO lo 1 [.ref ls, .int (nI (lm + 1))], eI Γ ls 96 (upd lt lm c)] := by
  refine e_int [(0, .ref lo), (1, .int c)] (by decide +kernel) (Nat.le_of_ble_eq_true rfl) rfl (fun V K hR => ?_)
  refine r_aload_n K dX3_add_0 0 rfl ?_
  refine r_cVd K dX3_add_1 (c_X3_isFull l Γ lo ls lt lm (by first | assumption | omega)) mX3_isFull q161 rfl (by decide) rfl rfl 2 rfl [0, 1] [] rfl rfl [] rfl [eO lo 1 [.ref ls, .int (nI lm)], eI Γ ls 96 lt] rfl rfl rfl [] rfl (Nat.le_of_ble_eq_true rfl) ?_
  refine r_ifneB K dX3_add_4 (fun c4 => ?_) (fun c4 => ?_)
  · exact absurd (of_decide_eq_true c4) (by omega)
  · refine r_aload_n K dX3_add_7 0 rfl ?_
    refine r_get K dX3_add_8 (kf := 0) 0 rfl rfl hinX3 (by decide) q88 rfl rfl ?_
    refine r_aload_n K dX3_add_11 0 rfl ?_
    refine r_get K dX3_add_12 (kf := 1) 0 rfl rfl hinX3 (by decide) q89 rfl rfl ?_
    refine r_iload_n K dX3_add_15 1 rfl ?_
    refine r_astN K dX3_add_16 (ws1 := [eO lo 1 [.ref ls, .int (nI lm)], eI Γ ls 96 (upd lt lm c)]) 1 rfl (by first | omega | exact iG_lt (by omega) (by decide) | exact iM_lt (by omega) (by decide)) (by decide) rfl ?_
    refine r_aload_n K dX3_add_17 0 rfl ?_
    refine r_dup K dX3_add_18 rfl ?_
    refine r_get K dX3_add_19 (kf := 1) 0 rfl rfl hinX3 (by decide) q89 rfl rfl ?_
    refine r_iconst K dX3_add_22 (nI 1) (by decide) ?_
    refine r_iaddN K dX3_add_23 ?_
    refine r_put K dX3_add_24 (kf := 1) (ty := .int) (ws1 := [eO lo 1 [.ref ls, .int (nI (lm + 1))], eI Γ ls 96 (upd lt lm c)]) 0 rfl rfl hinX3 tyX3 tyX3_ok nmX3 (by decide) q89 rfl (by decide +kernel) rfl rfl (Nat.le_of_ble_eq_true rfl) rfl ?_
    refine r_aload_n K dX3_add_27 0 rfl ?_
    refine r_get K dX3_add_28 (kf := 1) 0 rfl rfl hinX3 (by decide) q89 rfl rfl ?_
    exact hR () dX3_add_31 (trivial) (e_ri (rfl)) (weq.rf)
set_option maxHeartbeats 1000000 in
set_option maxRecDepth 20000 in
theorem c_X3_forget (l : Launch) (Γ : eG) (lo : Nat) (ls : Nat) (lt : Nat → Int32) (lm : Nat) (hl : lm ≤ 96) : cD l Γ yX3_forget cX3_forget 1 (none) 0 [.ref lo] [eO lo 1 [.ref ls, .int (nI lm)], eI Γ ls 96 lt] none [eO lo 1 [.ref ls, .int (nI 0)], eI Γ ls 96 lt] := by
  refine e_void [(0, .ref lo)] (by decide +kernel) (Nat.le_of_ble_eq_true rfl) rfl (fun V K hR => ?_)
  refine r_aload_n K dX3_forget_0 0 rfl ?_
  refine r_iconst K dX3_forget_1 (nI 0) (by decide) ?_
  refine r_put K dX3_forget_2 (kf := 1) (ty := .int) (ws1 := [eO lo 1 [.ref ls, .int (nI 0)], eI Γ ls 96 lt]) 0 rfl rfl hinX3 tyX3 tyX3_ok nmX3 (by decide) q89 rfl (by decide +kernel) rfl rfl (Nat.le_of_ble_eq_true rfl) rfl ?_
  exact hR () dX3_forget_5 (trivial) rfl (weq.rf)
set_option maxHeartbeats 1000000 in
set_option maxRecDepth 20000 in
theorem c_X3_signAt (l : Launch) (Γ : eG) (lo : Nat) (ls : Nat) (lt : Nat → Int32) (lm : Nat) (p : Nat) (hl : lm ≤ 96) (hp : p < 2 ^ 20) : cD l Γ yX3_signAt cX3_signAt 2 (some .int) 0 [.ref lo, .int (nI p)] [eO lo 1 [.ref ls, .int (nI lm)], eI Γ ls 96 lt] (some (.int (sgS lt lm p))) [eO lo 1 [.ref ls, .int (nI lm)], eI Γ ls 96 lt] := by
  refine e_int [(0, .ref lo), (1, .int (nI p))] (by decide +kernel) (Nat.le_of_ble_eq_true rfl) rfl (fun V K hR => ?_)
  refine r_iload_n K dX3_signAt_0 1 rfl ?_
  refine r_if_ltN K dX3_signAt_1 (by omega) (fun c1 => ?_) (fun c1 => ?_)
  · exact absurd c1 (by omega)
  · refine r_iload_n K dX3_signAt_4 1 rfl ?_
    refine r_aload_n K dX3_signAt_5 0 rfl ?_
    refine r_get K dX3_signAt_6 (kf := 1) 0 rfl rfl hinX3 (by decide) q89 rfl rfl ?_
    refine r_ic_geN K dX3_signAt_9 (by omega) (by omega) (fun c9 => ?_) (fun c9 => ?_)
    · refine r_iconst K dX3_signAt_27 (nI 0) (by decide) ?_
      exact hR () dX3_signAt_28 (trivial) (e_ri (if_neg (by omega))) (weq.rf)
    · refine r_iload_n K dX3_signAt_12 1 rfl ?_
      refine r_bipush K dX3_signAt_13 (nI 96) (by decide) ?_
      refine r_ic_geN K dX3_signAt_15 (by omega) (by omega) (fun c15 => ?_) (fun c15 => ?_)
      · exact absurd c15 (by omega)
      · refine r_aload_n K dX3_signAt_18 0 rfl ?_
        refine r_get K dX3_signAt_19 (kf := 0) 0 rfl rfl hinX3 (by decide) q88 rfl rfl ?_
        refine r_iload_n K dX3_signAt_22 1 rfl ?_
        refine r_aldN K dX3_signAt_23 1 rfl (by first | omega | exact iG_lt (by omega) (by decide) | exact iM_lt (by omega) (by decide)) (by decide) ?_
        refine r_goto K dX3_signAt_24 ?_
        exact hR () dX3_signAt_28 (trivial) (e_ri (if_pos c9)) (weq.rf)
set_option maxHeartbeats 1000000 in
set_option maxRecDepth 20000 in
theorem c_X3_digitAt (l : Launch) (Γ : eG) (lo : Nat) (ls : Nat) (lt : Nat → Int32) (lm : Nat) (p : Nat) (hl : lm ≤ 96) (hp : p < 2 ^ 19) : cD l Γ yX3_digitAt cX3_digitAt 2 (some .int) 1 [.ref lo, .int (nI p)] [eO lo 1 [.ref ls, .int (nI lm)], eI Γ ls 96 lt] (some (.int (dgL lt lm p))) [eO lo 1 [.ref ls, .int (nI lm)], eI Γ ls 96 lt] := by
  refine e_int [(0, .ref lo), (1, .int (nI p))] (by decide +kernel) (Nat.le_of_ble_eq_true rfl) rfl (fun V K hR => ?_)
  refine r_iconst K dX3_digitAt_0 (nI 0) (by decide) ?_
  refine r_bipush K dX3_digitAt_1 (nI 9) (by decide) ?_
  refine r_aload_n K dX3_digitAt_3 0 rfl ?_
  refine r_iload_n K dX3_digitAt_4 1 rfl ?_
  refine r_cVd K dX3_digitAt_5 (c_X3_signAt l Γ lo ls lt lm p (by first | assumption | omega) (by first | assumption | omega)) mX3_signAt q178 rfl (by decide) rfl rfl 2 rfl [0, 1] [] rfl rfl [] rfl [eO lo 1 [.ref ls, .int (nI lm)], eI Γ ls 96 lt] rfl rfl rfl [.int (nI 9), .int (nI 0)] rfl (Nat.le_of_ble_eq_true rfl) ?_
  refine r_bipush K dX3_digitAt_8 (nI 48) (by decide) ?_
  refine r_isub K dX3_digitAt_10 ?_
  refine r_mmin K dX3_digitAt_11 q203 q204 q205 (Nat.le_of_ble_eq_true rfl) (by decide) ?_
  refine r_mmax K dX3_digitAt_14 q192 q193 q194 (Nat.le_of_ble_eq_true rfl) (by decide) ?_
  exact hR () dX3_digitAt_17 (trivial) (e_ri (rfl)) (weq.rf)
set_option maxHeartbeats 1000000 in
set_option maxRecDepth 20000 in
theorem c_X3_twoDigitsAt (l : Launch) (Γ : eG) (lo : Nat) (ls : Nat) (lt : Nat → Int32) (lm : Nat) (p : Nat) (hl : lm ≤ 96) (hp : p < 2 ^ 18) : cD l Γ yX3_twoDigitsAt cX3_twoDigitsAt 2 (some .int) 2 [.ref lo, .int (nI p)] [eO lo 1 [.ref ls, .int (nI lm)], eI Γ ls 96 lt] (some (.int (twL lt lm p))) [eO lo 1 [.ref ls, .int (nI lm)], eI Γ ls 96 lt] := by
  refine e_int [(0, .ref lo), (1, .int (nI p))] (by decide +kernel) (Nat.le_of_ble_eq_true rfl) rfl (fun V K hR => ?_)
  refine r_bipush K dX3_twoDigitsAt_0 (nI 10) (by decide) ?_
  refine r_aload_n K dX3_twoDigitsAt_2 0 rfl ?_
  refine r_iload_n K dX3_twoDigitsAt_3 1 rfl ?_
  refine r_cVd K dX3_twoDigitsAt_4 (c_X3_digitAt l Γ lo ls lt lm p (by first | assumption | omega) (by first | assumption | omega)) mX3_digitAt q199 rfl (by decide) rfl rfl 2 rfl [0, 1] [] rfl rfl [] rfl [eO lo 1 [.ref ls, .int (nI lm)], eI Γ ls 96 lt] rfl rfl rfl [.int (nI 10)] rfl (Nat.le_of_ble_eq_true rfl) ?_
  refine r_imul K dX3_twoDigitsAt_7 ?_
  refine r_aload_n K dX3_twoDigitsAt_8 0 rfl ?_
  refine r_iload_n K dX3_twoDigitsAt_9 1 rfl ?_
  refine r_iconst K dX3_twoDigitsAt_10 (nI 1) (by decide) ?_
  refine r_iaddN K dX3_twoDigitsAt_11 ?_
  refine r_cVd K dX3_twoDigitsAt_12 (c_X3_digitAt l Γ lo ls lt lm (p + 1) (by first | assumption | omega) (by first | assumption | omega)) mX3_digitAt q199 rfl (by decide) rfl rfl 2 rfl [0, 1] [] rfl rfl [] rfl [eO lo 1 [.ref ls, .int (nI lm)], eI Γ ls 96 lt] rfl rfl rfl [.int ((nI 10) * (dgL lt lm p))] rfl (Nat.le_of_ble_eq_true rfl) ?_
  refine r_iadd K dX3_twoDigitsAt_15 ?_
  exact hR () dX3_twoDigitsAt_16 (trivial) (e_ri (rfl)) (weq.rf)
set_option maxHeartbeats 1000000 in
set_option maxRecDepth 20000 in
theorem c_X3_lengthOf (l : Launch) (Γ : eG) (c : Int32)  : cD l Γ yX3_lengthOf cX3_lengthOf 1 (some .int) 0 [.int c] [] (some (.int (nI (lnS c)))) [] := by
  refine e_int [(0, .int c)] (by decide +kernel) (Nat.le_of_ble_eq_true rfl) rfl (fun V K hR => ?_)
  refine r_iload_n K dX3_lengthOf_0 0 rfl ?_
  refine r_tsw K dX3_lengthOf_1.1 [98, 103, 103, 98, 103, 103, 96, 98, 103, 103, 103, 103, 100, 96, 103, 103, 103, 103, 103, 96] 103 (by decide) (by decide) (by decide) ⟨fun c1 => ?_, fun c1 => ?_, fun c1 => ?_, fun c1 => ?_, fun c1 => ?_, fun c1 => ?_, fun c1 => ?_, fun c1 => ?_, fun c1 => ?_, fun c1 => ?_, fun c1 => ?_, fun c1 => ?_, fun c1 => ?_, fun c1 => ?_, fun c1 => ?_, fun c1 => ?_, fun c1 => ?_, fun c1 => ?_, fun c1 => ?_, fun c1 => ?_, trivial⟩ (fun c1 => ?_)
  · have c1 : c = nI 97 := c1
    refine r_iconst K dX3_lengthOf_98 (nI 4) (by decide) ?_
    exact hR () dX3_lengthOf_99 (trivial) (e_ri (by rw [c1]; rfl)) (weq.rf)
  · have c1 : c = nI 98 := c1
    refine r_iconst K dX3_lengthOf_103 (nI 0) (by decide) ?_
    exact hR () dX3_lengthOf_104 (trivial) (e_ri (by rw [c1]; rfl)) (weq.rf)
  · have c1 : c = nI 99 := c1
    refine r_iconst K dX3_lengthOf_103 (nI 0) (by decide) ?_
    exact hR () dX3_lengthOf_104 (trivial) (e_ri (by rw [c1]; rfl)) (weq.rf)
  · have c1 : c = nI 100 := c1
    refine r_iconst K dX3_lengthOf_98 (nI 4) (by decide) ?_
    exact hR () dX3_lengthOf_99 (trivial) (e_ri (by rw [c1]; rfl)) (weq.rf)
  · have c1 : c = nI 101 := c1
    refine r_iconst K dX3_lengthOf_103 (nI 0) (by decide) ?_
    exact hR () dX3_lengthOf_104 (trivial) (e_ri (by rw [c1]; rfl)) (weq.rf)
  · have c1 : c = nI 102 := c1
    refine r_iconst K dX3_lengthOf_103 (nI 0) (by decide) ?_
    exact hR () dX3_lengthOf_104 (trivial) (e_ri (by rw [c1]; rfl)) (weq.rf)
  · have c1 : c = nI 103 := c1
    refine r_iconst K dX3_lengthOf_96 (nI 3) (by decide) ?_
    exact hR () dX3_lengthOf_97 (trivial) (e_ri (by rw [c1]; rfl)) (weq.rf)
  · have c1 : c = nI 104 := c1
    refine r_iconst K dX3_lengthOf_98 (nI 4) (by decide) ?_
    exact hR () dX3_lengthOf_99 (trivial) (e_ri (by rw [c1]; rfl)) (weq.rf)
  · have c1 : c = nI 105 := c1
    refine r_iconst K dX3_lengthOf_103 (nI 0) (by decide) ?_
    exact hR () dX3_lengthOf_104 (trivial) (e_ri (by rw [c1]; rfl)) (weq.rf)
  · have c1 : c = nI 106 := c1
    refine r_iconst K dX3_lengthOf_103 (nI 0) (by decide) ?_
    exact hR () dX3_lengthOf_104 (trivial) (e_ri (by rw [c1]; rfl)) (weq.rf)
  · have c1 : c = nI 107 := c1
    refine r_iconst K dX3_lengthOf_103 (nI 0) (by decide) ?_
    exact hR () dX3_lengthOf_104 (trivial) (e_ri (by rw [c1]; rfl)) (weq.rf)
  · have c1 : c = nI 108 := c1
    refine r_iconst K dX3_lengthOf_103 (nI 0) (by decide) ?_
    exact hR () dX3_lengthOf_104 (trivial) (e_ri (by rw [c1]; rfl)) (weq.rf)
  · have c1 : c = nI 109 := c1
    refine r_bipush K dX3_lengthOf_100 (nI 6) (by decide) ?_
    exact hR () dX3_lengthOf_102 (trivial) (e_ri (by rw [c1]; rfl)) (weq.rf)
  · have c1 : c = nI 110 := c1
    refine r_iconst K dX3_lengthOf_96 (nI 3) (by decide) ?_
    exact hR () dX3_lengthOf_97 (trivial) (e_ri (by rw [c1]; rfl)) (weq.rf)
  · have c1 : c = nI 111 := c1
    refine r_iconst K dX3_lengthOf_103 (nI 0) (by decide) ?_
    exact hR () dX3_lengthOf_104 (trivial) (e_ri (by rw [c1]; rfl)) (weq.rf)
  · have c1 : c = nI 112 := c1
    refine r_iconst K dX3_lengthOf_103 (nI 0) (by decide) ?_
    exact hR () dX3_lengthOf_104 (trivial) (e_ri (by rw [c1]; rfl)) (weq.rf)
  · have c1 : c = nI 113 := c1
    refine r_iconst K dX3_lengthOf_103 (nI 0) (by decide) ?_
    exact hR () dX3_lengthOf_104 (trivial) (e_ri (by rw [c1]; rfl)) (weq.rf)
  · have c1 : c = nI 114 := c1
    refine r_iconst K dX3_lengthOf_103 (nI 0) (by decide) ?_
    exact hR () dX3_lengthOf_104 (trivial) (e_ri (by rw [c1]; rfl)) (weq.rf)
  · have c1 : c = nI 115 := c1
    refine r_iconst K dX3_lengthOf_103 (nI 0) (by decide) ?_
    exact hR () dX3_lengthOf_104 (trivial) (e_ri (by rw [c1]; rfl)) (weq.rf)
  · have c1 : c = nI 116 := c1
    refine r_iconst K dX3_lengthOf_96 (nI 3) (by decide) ?_
    exact hR () dX3_lengthOf_97 (trivial) (e_ri (by rw [c1]; rfl)) (weq.rf)
  · have c1 : ∀ v : Nat, 97 ≤ v → v ≤ 116 → v < 2 ^ 31 → ¬ c = nI v := tsw_out c1
    refine r_iconst K dX3_lengthOf_103 (nI 0) (by decide) ?_
    exact hR () dX3_lengthOf_104 (trivial) (e_ri (by rw [lnS_n c1])) (weq.rf)
set_option maxHeartbeats 1000000 in
set_option maxRecDepth 20000 in
theorem c_X3_fitsInside (l : Launch) (Γ : eG) (lo : Nat) (ls : Nat) (lt : Nat → Int32) (lm : Nat) (p : Nat) (i : Nat) (len : Nat) (hl : lm ≤ 96) (hp : p < 2 ^ 19) (hi : i < 2 ^ 19) (h1 : 1 ≤ len) (h6 : len < 2 ^ 20) : cD l Γ yX3_fitsInside cX3_fitsInside 5 (some .boolean) 1 [.ref lo, .int (nI p), .int (nI i), .int (nI len)] [eO lo 1 [.ref ls, .int (nI lm)], eI Γ ls 96 lt] (some (.int (bz (fiS lt lm p i len)))) [eO lo 1 [.ref ls, .int (nI lm)], eI Γ ls 96 lt] := by
  refine e_bool [(0, .ref lo), (1, .int (nI p)), (2, .int (nI i)), (3, .int (nI len))] (by decide +kernel) (Nat.le_of_ble_eq_true rfl) rfl (fun V K hR => ?_)
  refine r_aload_n K dX3_fitsInside_0 0 rfl ?_
  refine r_iload_n K dX3_fitsInside_1 1 rfl ?_
  refine r_iload_n K dX3_fitsInside_2 2 rfl ?_
  refine r_iaddN K dX3_fitsInside_3 ?_
  refine r_cVd K dX3_fitsInside_4 (c_X3_signAt l Γ lo ls lt lm (p + i) (by first | assumption | omega) (by first | assumption | omega)) mX3_signAt q178 rfl (by decide) rfl rfl 2 rfl [0, 1] [] rfl rfl [] rfl [eO lo 1 [.ref ls, .int (nI lm)], eI Γ ls 96 lt] rfl rfl rfl [] rfl (Nat.le_of_ble_eq_true rfl) ?_
  refine r_istore K dX3_fitsInside_7 (by decide) (lv1 := [(4, .int (sgS lt lm (p + i))), (0, .ref lo), (1, .int (nI p)), (2, .int (nI i)), (3, .int (nI len))]) rfl ?_
  refine r_iload_n K dX3_fitsInside_9 3 rfl ?_
  refine r_iload_n K dX3_fitsInside_10 4 rfl ?_
  refine r_iconst K dX3_fitsInside_11 (nI 1) (by decide) ?_
  refine r_isubN K dX3_fitsInside_12 (by omega) ?_
  refine r_ic_neN K dX3_fitsInside_13 (by omega) (by omega) (fun c13 => ?_) (fun c13 => ?_)
  · refine r_iload_n K dX3_fitsInside_29 3 rfl ?_
    refine r_iconst K dX3_fitsInside_30 (nI 1) (by decide) ?_
    refine r_ic_neN K dX3_fitsInside_31 (by omega) (by omega) (fun c31 => ?_) (fun c31 => ?_)
    · have hq : fiS lt lm p i len = isInB (sgS lt lm (p + i)) (nI 48) (nI 57) := by unfold fiS; rw [if_neg (by omega), if_neg (fun z => c31 z.1)]
      refine r_iload K dX3_fitsInside_60 0 rfl ?_
      refine r_bipush K dX3_fitsInside_62 (nI 48) (by decide) ?_
      refine r_ic_lt K dX3_fitsInside_64 (fun c64 => ?_) (fun c64 => ?_)
      · refine r_iconst K dX3_fitsInside_78 (nI 0) (by decide) ?_
        exact hR () dX3_fitsInside_79 (rfl) (trivial) (e_ri (by rw [hq]; unfold isInB; rw [decide_eq_false (fun z => absurd z.1 (Int32.not_le.mpr c64))]; rfl)) (weq.rf)
      · refine r_iload K dX3_fitsInside_67 0 rfl ?_
        refine r_bipush K dX3_fitsInside_69 (nI 57) (by decide) ?_
        refine r_ic_gt K dX3_fitsInside_71 (fun c71 => ?_) (fun c71 => ?_)
        · refine r_iconst K dX3_fitsInside_78 (nI 0) (by decide) ?_
          exact hR () dX3_fitsInside_79 (rfl) (trivial) (e_ri (by rw [hq]; unfold isInB; rw [decide_eq_false (fun z => absurd z.2 (Int32.not_le.mpr c71))]; rfl)) (weq.rf)
        · refine r_iconst K dX3_fitsInside_74 (nI 1) (by decide) ?_
          refine r_goto K dX3_fitsInside_75 ?_
          exact hR () dX3_fitsInside_79 (rfl) (trivial) (e_ri (by rw [hq]; unfold isInB; rw [decide_eq_true ⟨Int32.not_lt.mp c64, Int32.not_lt.mp c71⟩]; rfl)) (weq.rf)
    · refine r_aload_n K dX3_fitsInside_34 1 rfl ?_
      refine r_iload_n K dX3_fitsInside_35 2 rfl ?_
      refine r_cVd K dX3_fitsInside_36 (c_X3_signAt l Γ lo ls lt lm p (by first | assumption | omega) (by first | assumption | omega)) mX3_signAt q178 rfl (by decide) rfl rfl 2 rfl [0, 1] [] rfl rfl [] rfl [eO lo 1 [.ref ls, .int (nI lm)], eI Γ ls 96 lt] rfl rfl rfl [] rfl (Nat.le_of_ble_eq_true rfl) ?_
      refine r_bipush K dX3_fitsInside_39 (nI 109) (by decide) ?_
      refine r_ic_ne K dX3_fitsInside_41 (fun c41 => ?_) (fun c41 => ?_)
      · have hq : fiS lt lm p i len = isInB (sgS lt lm (p + i)) (nI 48) (nI 57) := by unfold fiS; rw [if_neg (by omega), if_neg (fun z => c41 z.2)]
        refine r_iload K dX3_fitsInside_60 0 rfl ?_
        refine r_bipush K dX3_fitsInside_62 (nI 48) (by decide) ?_
        refine r_ic_lt K dX3_fitsInside_64 (fun c64 => ?_) (fun c64 => ?_)
        · refine r_iconst K dX3_fitsInside_78 (nI 0) (by decide) ?_
          exact hR () dX3_fitsInside_79 (rfl) (trivial) (e_ri (by rw [hq]; unfold isInB; rw [decide_eq_false (fun z => absurd z.1 (Int32.not_le.mpr c64))]; rfl)) (weq.rf)
        · refine r_iload K dX3_fitsInside_67 0 rfl ?_
          refine r_bipush K dX3_fitsInside_69 (nI 57) (by decide) ?_
          refine r_ic_gt K dX3_fitsInside_71 (fun c71 => ?_) (fun c71 => ?_)
          · refine r_iconst K dX3_fitsInside_78 (nI 0) (by decide) ?_
            exact hR () dX3_fitsInside_79 (rfl) (trivial) (e_ri (by rw [hq]; unfold isInB; rw [decide_eq_false (fun z => absurd z.2 (Int32.not_le.mpr c71))]; rfl)) (weq.rf)
          · refine r_iconst K dX3_fitsInside_74 (nI 1) (by decide) ?_
            refine r_goto K dX3_fitsInside_75 ?_
            exact hR () dX3_fitsInside_79 (rfl) (trivial) (e_ri (by rw [hq]; unfold isInB; rw [decide_eq_true ⟨Int32.not_lt.mp c64, Int32.not_lt.mp c71⟩]; rfl)) (weq.rf)
      · have hq : fiS lt lm p i len = decide (¬ kindC (sgS lt lm (p + i)) = -9) := by unfold fiS; rw [if_neg (by omega), if_pos ⟨c31, c41⟩]
        refine r_iload K dX3_fitsInside_44 0 rfl ?_
        refine r_cSd K dX3_fitsInside_46 (c_X2_ofLetter l Γ (sgS lt lm (p + i))) mX2_ofLetter q189 rfl (by decide) 2 rfl [] [0, 1] rfl rfl [eO lo 1 [.ref ls, .int (nI lm)], eI Γ ls 96 lt] rfl [eO lo 1 [.ref ls, .int (nI lm)], eI Γ ls 96 lt] rfl rfl rfl [] rfl (Nat.le_of_ble_eq_true rfl) ?_
        refine r_bipush K dX3_fitsInside_49 ((-9)) (by decide) ?_
        refine r_ic_eq K dX3_fitsInside_51 (fun c51 => ?_) (fun c51 => ?_)
        · refine r_iconst K dX3_fitsInside_58 (nI 0) (by decide) ?_
          exact hR () dX3_fitsInside_59 (rfl) (trivial) (e_ri (by rw [hq, decide_eq_false (fun z => z c51)]; rfl)) (weq.rf)
        · refine r_iconst K dX3_fitsInside_54 (nI 1) (by decide) ?_
          refine r_goto K dX3_fitsInside_55 ?_
          exact hR () dX3_fitsInside_59 (rfl) (trivial) (e_ri (by rw [hq, decide_eq_true c51]; rfl)) (weq.rf)
  · have hq : fiS lt lm p i len = decide (sgS lt lm (p + i) = nI 59) := by unfold fiS; rw [if_pos (by omega)]
    refine r_iload K dX3_fitsInside_16 0 rfl ?_
    refine r_bipush K dX3_fitsInside_18 (nI 59) (by decide) ?_
    refine r_ic_ne K dX3_fitsInside_20 (fun c20 => ?_) (fun c20 => ?_)
    · refine r_iconst K dX3_fitsInside_27 (nI 0) (by decide) ?_
      exact hR () dX3_fitsInside_28 (rfl) (trivial) (e_ri (by rw [hq, decide_eq_false c20]; rfl)) (weq.rf)
    · refine r_iconst K dX3_fitsInside_23 (nI 1) (by decide) ?_
      refine r_goto K dX3_fitsInside_24 ?_
      exact hR () dX3_fitsInside_28 (rfl) (trivial) (e_ri (by rw [hq, decide_eq_true c20]; rfl)) (weq.rf)
set_option maxHeartbeats 1000000 in
set_option maxRecDepth 20000 in
theorem c_X3_firstMisfit (l : Launch) (Γ : eG) (lo : Nat) (ls : Nat) (lt : Nat → Int32) (lm : Nat) (hl : lm ≤ 96) : cD l Γ yX3_firstMisfit cX3_firstMisfit 4 (some .int) 2 [.ref lo] [eO lo 1 [.ref ls, .int (nI lm)], eI Γ ls 96 lt] (some (.int (fMis lt lm))) [eO lo 1 [.ref ls, .int (nI lm)], eI Γ ls 96 lt] := by
  refine e_int [(0, .ref lo)] (by decide +kernel) (Nat.le_of_ble_eq_true rfl) rfl (fun V K hR => ?_)
  refine r_aload_n K dX3_firstMisfit_0 0 rfl ?_
  refine r_get K dX3_firstMisfit_1 (kf := 1) 0 rfl rfl hinX3 (by decide) q89 rfl rfl ?_
  refine r_if_neN K dX3_firstMisfit_4 (by omega) (fun c4 => ?_) (fun c4 => ?_)
  · refine r_iconst K dX3_firstMisfit_9 (nI 0) (by decide) ?_
    refine r_istore_n K dX3_firstMisfit_10 rfl (by decide) (lv1 := [(1, .int (nI 0)), (0, .ref lo)]) rfl ?_
    have L11 : ∀ (fL11 : Nat) (f : Nat) (p : Nat), (lm < f + p) → (p ≤ lm) → (fMis lt lm = miO lt lm f p) → f < fL11 → V 11 [(1, .int (nI p)), (0, .ref lo)] [] [eO lo 1 [.ref ls, .int (nI lm)], eI Γ ls 96 lt] := by
      intro fL11
      induction fL11 with
      | zero => intro f p hfp hp hE hf; exact absurd hf (Nat.not_lt_zero _)
      | succ fL11 ih_L11 =>
        intro f p hfp hp hE hfL11
        refine r_iload_n K dX3_firstMisfit_11 0 rfl ?_
        refine r_aload_n K dX3_firstMisfit_12 1 rfl ?_
        refine r_get K dX3_firstMisfit_13 (kf := 1) 0 rfl rfl hinX3 (by decide) q89 rfl rfl ?_
        refine r_ic_geN K dX3_firstMisfit_16 (by omega) (by omega) (fun c16 => ?_) (fun c16 => ?_)
        · refine r_bipush K dX3_firstMisfit_82 ((-9)) (by decide) ?_
          exact hR () dX3_firstMisfit_84 (trivial) (e_ri (hE.trans (miO_e (by omega)))) (weq.rf)
        · obtain ⟨f, rfl⟩ : ∃ q, f = q + 1 := ⟨f - 1, by omega⟩
          have hl6 := lnS_le (sgS lt lm p)
          refine r_aload_n K dX3_firstMisfit_19 1 rfl ?_
          refine r_iload_n K dX3_firstMisfit_20 0 rfl ?_
          refine r_cVd K dX3_firstMisfit_21 (c_X3_signAt l Γ lo ls lt lm p (by first | assumption | omega) (by first | assumption | omega)) mX3_signAt q178 rfl (by decide) rfl rfl 2 rfl [0, 1] [] rfl rfl [] rfl [eO lo 1 [.ref ls, .int (nI lm)], eI Γ ls 96 lt] rfl rfl rfl [] rfl (Nat.le_of_ble_eq_true rfl) ?_
          refine r_cSd K dX3_firstMisfit_24 (c_X3_lengthOf l Γ (sgS lt lm p)) mX3_lengthOf q182 rfl (by decide) 2 rfl [] [0, 1] rfl rfl [eO lo 1 [.ref ls, .int (nI lm)], eI Γ ls 96 lt] rfl [eO lo 1 [.ref ls, .int (nI lm)], eI Γ ls 96 lt] rfl rfl rfl [] rfl (Nat.le_of_ble_eq_true rfl) ?_
          refine r_istore_n K dX3_firstMisfit_27 rfl (by decide) (lv1 := [(2, .int (nI (lnS (sgS lt lm p)))), (1, .int (nI p)), (0, .ref lo)]) rfl ?_
          refine r_iload_n K dX3_firstMisfit_28 0 rfl ?_
          refine r_if_neN K dX3_firstMisfit_29 (by omega) (fun c29 => ?_) (fun c29 => ?_)
          · refine r_iconst K dX3_firstMisfit_34 (nI 1) (by decide) ?_
            refine r_istore_n K dX3_firstMisfit_35 rfl (by decide) (lv1 := [(3, .int (nI 1)), (2, .int (nI (lnS (sgS lt lm p)))), (1, .int (nI p)), (0, .ref lo)]) rfl ?_
            have L36 : ∀ (fL36 : Nat) (g : Nat) (i : Nat), (g + i = lnS (sgS lt lm p)) → (1 ≤ i) → (miI lt lm p (lnS (sgS lt lm p)) (lnS (sgS lt lm p) - 1) 1 = miI lt lm p (lnS (sgS lt lm p)) g i) → g < fL36 → V 36 [(3, .int (nI i)), (2, .int (nI (lnS (sgS lt lm p)))), (1, .int (nI p)), (0, .ref lo)] [] [eO lo 1 [.ref ls, .int (nI lm)], eI Γ ls 96 lt] := by
              intro fL36
              induction fL36 with
              | zero => intro g i hgi hi1 hm hf; exact absurd hf (Nat.not_lt_zero _)
              | succ fL36 ih_L36 =>
                intro g i hgi hi1 hm hfL36
                refine r_iload_n K dX3_firstMisfit_36 0 rfl ?_
                refine r_iload_n K dX3_firstMisfit_37 1 rfl ?_
                refine r_ic_geN K dX3_firstMisfit_38 (by omega) (by omega) (fun c38 => ?_) (fun c38 => ?_)
                · obtain rfl : g = 0 := by omega
                  have hno : miI lt lm p (lnS (sgS lt lm p)) (lnS (sgS lt lm p) - 1) 1 = none := hm
                  have hq := (miI_all hno (lnS (sgS lt lm p) - 1) (by omega) (by omega)).1
                  refine r_iload_n K dX3_firstMisfit_71 2 rfl ?_
                  refine r_iconst K dX3_firstMisfit_72 (nI 1) (by decide) ?_
                  refine r_iload_n K dX3_firstMisfit_73 1 rfl ?_
                  refine r_mmax K dX3_firstMisfit_74 q192 q193 q194 (Nat.le_of_ble_eq_true rfl) (by decide) ?_
                  refine r_top (y := nI (lnS (sgS lt lm p))) (mx1 (by omega) (by omega)) ?_
                  refine r_iaddN K dX3_firstMisfit_77 ?_
                  refine r_istore_n K dX3_firstMisfit_78 rfl (by decide) (lv1 := [(1, .int (nI (p + (lnS (sgS lt lm p))))), (3, .int (nI i)), (2, .int (nI (lnS (sgS lt lm p)))), (0, .ref lo)]) rfl ?_
                  refine r_goto K dX3_firstMisfit_79 ?_
                  refine r_lv K [0, 3] rfl ?_
                  exact ih_L11 f (p + lnS (sgS lt lm p)) (by omega) (by omega) (hE.trans (miO_n c16 c29 hno)) (by omega)
                · obtain ⟨g, rfl⟩ : ∃ q, g = q + 1 := ⟨g - 1, by omega⟩
                  refine r_iload_n K dX3_firstMisfit_41 2 rfl ?_
                  refine r_iload_n K dX3_firstMisfit_42 0 rfl ?_
                  refine r_iaddN K dX3_firstMisfit_43 ?_
                  refine r_aload_n K dX3_firstMisfit_44 3 rfl ?_
                  refine r_get K dX3_firstMisfit_45 (kf := 1) 0 rfl rfl hinX3 (by decide) q89 rfl rfl ?_
                  refine r_ic_geN K dX3_firstMisfit_48 (by omega) (by omega) (fun c48 => ?_) (fun c48 => ?_)
                  · refine r_iload_n K dX3_firstMisfit_61 2 rfl ?_
                    refine r_iload_n K dX3_firstMisfit_62 0 rfl ?_
                    refine r_iaddN K dX3_firstMisfit_63 ?_
                    exact hR () dX3_firstMisfit_64 (trivial) (e_ri (hE.trans (miO_s c16 c29 (hm.trans (miI_n (fun z => absurd z.1 (by omega))))))) (weq.rf)
                  · refine r_aload_n K dX3_firstMisfit_51 3 rfl ?_
                    refine r_iload_n K dX3_firstMisfit_52 2 rfl ?_
                    refine r_iload_n K dX3_firstMisfit_53 0 rfl ?_
                    refine r_iload_n K dX3_firstMisfit_54 1 rfl ?_
                    refine r_cVd K dX3_firstMisfit_55 (c_X3_fitsInside l Γ lo ls lt lm p i (lnS (sgS lt lm p)) (by first | assumption | omega) (by first | assumption | omega) (by first | assumption | omega) (by first | assumption | omega) (by first | assumption | omega)) mX3_fitsInside q185 rfl (by decide) rfl rfl 2 rfl [0, 1] [] rfl rfl [] rfl [eO lo 1 [.ref ls, .int (nI lm)], eI Γ ls 96 lt] rfl rfl rfl [] rfl (Nat.le_of_ble_eq_true rfl) ?_
                    refine r_ifneB K dX3_firstMisfit_58 (fun c58 => ?_) (fun c58 => ?_)
                    · refine r_iincN K dX3_firstMisfit_65 (n := 1) 0 rfl rfl (by decide) (lv1 := [(3, .int (nI (i + 1))), (2, .int (nI (lnS (sgS lt lm p)))), (1, .int (nI p)), (0, .ref lo)]) rfl ?_
                      refine r_goto K dX3_firstMisfit_68 ?_
                      exact ih_L36 g (i + 1) (by omega) (by omega) (hm.trans (miI_t c48 c58)) (by omega)
                    · refine r_iload_n K dX3_firstMisfit_61 2 rfl ?_
                      refine r_iload_n K dX3_firstMisfit_62 0 rfl ?_
                      refine r_iaddN K dX3_firstMisfit_63 ?_
                      exact hR () dX3_firstMisfit_64 (trivial) (e_ri (hE.trans (miO_s c16 c29 (hm.trans (miI_n (fun z => absurd z.2 (by rw [c58]; decide))))))) (weq.rf)
            exact L36 _ (lnS (sgS lt lm p) - 1) 1 (by omega) (Nat.le_refl _) (rfl) (Nat.lt_succ_self _)
          · refine r_iload_n K dX3_firstMisfit_32 1 rfl ?_
            exact hR () dX3_firstMisfit_33 (trivial) (e_ri (hE.trans (miO_0 c16 c29))) (weq.rf)
    exact L11 _ (lm + 1) 0 (by omega) (Nat.zero_le _) (fMis_s c4) (Nat.lt_succ_self _)
  · refine r_iconst K dX3_firstMisfit_7 (nI 0) (by decide) ?_
    exact hR () dX3_firstMisfit_8 (trivial) (e_ri (if_pos c4)) (weq.rf)
set_option maxHeartbeats 1000000 in
set_option maxRecDepth 20000 in
theorem c_X0_addGraveX (l : Launch) (Γ : eG) (h : Nat) (a : Nat → Nat) (r : Nat → Int32) (v : Int32) (hI : Inv r) : cD l Γ yX0_addGrave cX0_addGrave 2 (some .boolean) 0 [.ref h, .int v] [ydW Γ h a r] (some (.int (bz (decide (nG r < 5))))) [ydW Γ h a (addGX r v)] := by
  unfold addGX
  by_cases z : nG r < 5
  · rw [decide_eq_true z, if_pos z]; exact c_X0_addGrave l Γ h a r v hI z
  · rw [decide_eq_false z, if_neg z]; exact c_X0_addGraveF l Γ h a r v hI (by have := hI.g; omega)
set_option maxHeartbeats 1000000 in
set_option maxRecDepth 20000 in
theorem c_X0_addMournerX (l : Launch) (Γ : eG) (h : Nat) (a : Nat → Nat) (r : Nat → Int32) (k : Int32) (f : Int32) (e : Int32) (hI : Inv r) : cD l Γ yX0_addMourner cX0_addMourner 4 (some .boolean) 0 [.ref h, .int k, .int f, .int e] [ydW Γ h a r] (some (.int (bz (decide (nM r < 6))))) [ydW Γ h a (addMX r k f e)] := by
  unfold addMX
  by_cases z : nM r < 6
  · rw [decide_eq_true z, if_pos z]; exact c_X0_addMourner l Γ h a r k f e hI z
  · rw [decide_eq_false z, if_neg z]; exact c_X0_addMournerF l Γ h a r k f e hI (by have := hI.m; omega)
set_option maxHeartbeats 1000000 in
set_option maxRecDepth 20000 in
theorem c_X3_mournerComesTo (l : Launch) (Γ : eG) (h : Nat) (a : Nat → Nat) (r : Nat → Int32) (x : Int32) (y : Int32) (hI : Inv r) : cD l Γ yX3_mournerComesTo cX3_mournerComesTo 3 (some .boolean) 2 [.ref h, .int x, .int y] [ydW Γ h a r] (some (.int (bz (inN (nM r) x && inN (nG r) y)))) [ydW Γ h a (cmX r x y)] := by
  refine e_bool [(0, .ref h), (1, .int x), (2, .int y)] (by decide +kernel) (Nat.le_of_ble_eq_true rfl) rfl (fun V K hR => ?_)
  have h5 := hI.g
  have h6 := hI.m
  refine r_aload_n K dX3_mournerComesTo_0 0 rfl ?_
  refine r_iload_n K dX3_mournerComesTo_1 1 rfl ?_
  refine r_cVd K dX3_mournerComesTo_2 (c_X0_hasMourner l Γ h a r x (hI)) mX0_hasMourner q221 rfl (by decide) rfl rfl 1 rfl [0] [] rfl rfl [] rfl [ydW Γ h a r] rfl rfl rfl [] rfl (Nat.le_of_ble_eq_true rfl) ?_
  refine r_ifeqB K dX3_mournerComesTo_5 (fun c5 => ?_) (fun c5 => ?_)
  · refine r_iconst K dX3_mournerComesTo_16 (nI 0) (by decide) ?_
    exact hR () dX3_mournerComesTo_17 (rfl) (trivial) (e_ri (by rw [c5]; rfl)) (by unfold cmX; rw [c5, Bool.false_and, if_neg (by decide)]; exact weq.rf)
  · refine r_aload_n K dX3_mournerComesTo_8 0 rfl ?_
    refine r_iload_n K dX3_mournerComesTo_9 2 rfl ?_
    refine r_cVd K dX3_mournerComesTo_10 (c_X0_hasGrave l Γ h a r y (hI)) mX0_hasGrave q225 rfl (by decide) rfl rfl 1 rfl [0] [] rfl rfl [] rfl [ydW Γ h a r] rfl rfl rfl [] rfl (Nat.le_of_ble_eq_true rfl) ?_
    refine r_ifneB K dX3_mournerComesTo_13 (fun c13 => ?_) (fun c13 => ?_)
    · refine r_aload_n K dX3_mournerComesTo_18 0 rfl ?_
      refine r_iload_n K dX3_mournerComesTo_19 1 rfl ?_
      refine r_iload_n K dX3_mournerComesTo_20 2 rfl ?_
      refine r_cVn K dX3_mournerComesTo_21 (c_X0_place l Γ h a r x y (hI)) mX0_place q229 rfl (by decide) rfl rfl 1 rfl [0] [] rfl rfl [] rfl [ydW Γ h a (setM r 3 x y)] rfl rfl rfl [] rfl (Nat.le_of_ble_eq_true rfl) ?_
      refine r_iconst K dX3_mournerComesTo_24 (nI 1) (by decide) ?_
      exact hR () dX3_mournerComesTo_25 (rfl) (trivial) (e_ri (by rw [c5, c13]; rfl)) (by unfold cmX; rw [setM_t c5, c5, c13, if_pos (by rfl)]; exact weq.rf)
    · refine r_iconst K dX3_mournerComesTo_16 (nI 0) (by decide) ?_
      exact hR () dX3_mournerComesTo_17 (rfl) (trivial) (e_ri (by rw [c5, c13]; rfl)) (by unfold cmX; rw [c13, Bool.and_false, if_neg (by decide)]; exact weq.rf)
set_option maxHeartbeats 1000000 in
set_option maxRecDepth 20000 in
theorem c_X3_daysGoBy (l : Launch) (Γ : eG) (h : Nat) (a : Nat → Nat) (r : Nat → Int32) (n : Nat) (hI : Inv r) (hn : n < 2 ^ 20) : cD l Γ yX3_daysGoBy cX3_daysGoBy 2 (some .boolean) 4 [.ref h, .int (nI n)] [ydW Γ h a r] (some (.int (bz (dgB r (nI n))))) [ydW Γ h a (dgX r (nI n))] := by
  refine e_bool [(0, .ref h), (1, .int (nI n))] (by decide +kernel) (Nat.le_of_ble_eq_true rfl) rfl (fun V K hR => ?_)
  have h5 := hI.g
  have h6 := hI.m
  refine r_iload_n K dX3_daysGoBy_0 1 rfl ?_
  refine r_iconst K dX3_daysGoBy_1 (nI 1) (by decide) ?_
  refine r_ic_ltN K dX3_daysGoBy_2 (by omega) (by omega) (fun c2 => ?_) (fun c2 => ?_)
  · have hB := dgB_f (r := r) (n := n) (by omega) (Or.inl c2)
    refine r_iconst K dX3_daysGoBy_23 (nI 0) (by decide) ?_
    exact hR () dX3_daysGoBy_24 (rfl) (trivial) (e_ri (by rw [hB]; rfl)) (by rw [dgX_f hB]; exact weq.rf)
  · refine r_iload_n K dX3_daysGoBy_5 1 rfl ?_
    refine r_bipush K dX3_daysGoBy_6 (nI 60) (by decide) ?_
    refine r_ic_gtN K dX3_daysGoBy_8 (by omega) (by omega) (fun c8 => ?_) (fun c8 => ?_)
    · have hB := dgB_f (r := r) (n := n) (by omega) (Or.inr (Or.inl c8))
      refine r_iconst K dX3_daysGoBy_23 (nI 0) (by decide) ?_
      exact hR () dX3_daysGoBy_24 (rfl) (trivial) (e_ri (by rw [hB]; rfl)) (by rw [dgX_f hB]; exact weq.rf)
    · refine r_aload_n K dX3_daysGoBy_11 0 rfl ?_
      refine r_cVd K dX3_daysGoBy_12 (c_X0_today l Γ h a r (hI)) mX0_today q262 rfl (by decide) rfl rfl 1 rfl [0] [] rfl rfl [] rfl [ydW Γ h a r] rfl rfl rfl [] rfl (Nat.le_of_ble_eq_true rfl) ?_
      refine r_iload_n K dX3_daysGoBy_15 1 rfl ?_
      refine r_iadd K dX3_daysGoBy_16 ?_
      refine r_sipush K dX3_daysGoBy_17 (nI 999) (by decide) ?_
      refine r_ic_le K dX3_daysGoBy_20 (fun c20 => ?_) (fun c20 => ?_)
      · have hB := dgB_t (r := r) (n := n) (by omega) (by omega) c20
        refine r_aload_n K dX3_daysGoBy_25 0 rfl ?_
        refine r_iload_n K dX3_daysGoBy_26 1 rfl ?_
        refine r_cVn K dX3_daysGoBy_27 (c_X0_passDays l Γ h a r n (hI) (by first | assumption | omega)) mX0_passDays q266 rfl (by decide) rfl rfl 1 rfl [0] [] rfl rfl [] rfl [ydW Γ h a (daysS r n)] rfl rfl rfl [] rfl (Nat.le_of_ble_eq_true rfl) ?_
        refine r_iconst K dX3_daysGoBy_30 (nI 1) (by decide) ?_
        exact hR () dX3_daysGoBy_31 (rfl) (trivial) (e_ri (by rw [hB]; rfl)) (by rw [dgX_t hB (by omega)]; exact weq.rf)
      · have hB := dgB_f (r := r) (n := n) (by omega) (Or.inr (Or.inr c20))
        refine r_iconst K dX3_daysGoBy_23 (nI 0) (by decide) ?_
        exact hR () dX3_daysGoBy_24 (rfl) (trivial) (e_ri (by rw [hB]; rfl)) (by rw [dgX_f hB]; exact weq.rf)
set_option maxHeartbeats 1000000 in
set_option maxRecDepth 20000 in
theorem c_X3_statementComes (l : Launch) (Γ : eG) (lo : Nat) (ls : Nat) (lt : Nat → Int32) (lm : Nat) (h : Nat) (a : Nat → Nat) (r : Nat → Int32) (p : Nat) (hl : lm ≤ 96) (hI : Inv r) (hp : p < 2 ^ 17) (hk : sgS lt lm p = nI 109 → okN 5 (kindC (sgS lt lm (p + 1)))) : cD l Γ yX3_statementComes cX3_statementComes 6 (some .boolean) 5 [.ref lo, .ref h, .int (nI p)] [eO lo 1 [.ref ls, .int (nI lm)], eI Γ ls 96 lt, ydW Γ h a r] (some (.int (bz (stB r lt lm p)))) [eO lo 1 [.ref ls, .int (nI lm)], eI Γ ls 96 lt, ydW Γ h a (stR r lt lm p)] := by
  refine e_bool [(0, .ref lo), (1, .ref h), (2, .int (nI p))] (by decide +kernel) (Nat.le_of_ble_eq_true rfl) rfl (fun V K hR => ?_)
  have h5 := hI.g
  have h6 := hI.m
  refine r_aload_n K dX3_statementComes_0 0 rfl ?_
  refine r_iload_n K dX3_statementComes_1 2 rfl ?_
  refine r_iconst K dX3_statementComes_2 (nI 1) (by decide) ?_
  refine r_iaddN K dX3_statementComes_3 ?_
  refine r_cVd K dX3_statementComes_4 (c_X3_digitAt l Γ lo ls lt lm (p + 1) (by first | assumption | omega) (by first | assumption | omega)) mX3_digitAt q199 rfl (by decide) rfl rfl 3 rfl [0, 1] [2] rfl rfl [ydW Γ h a r] rfl [eO lo 1 [.ref ls, .int (nI lm)], eI Γ ls 96 lt, ydW Γ h a r] rfl rfl rfl [] rfl (Nat.le_of_ble_eq_true rfl) ?_
  refine r_istore_n K dX3_statementComes_7 rfl (by decide) (lv1 := [(3, .int (dgL lt lm (p + 1))), (0, .ref lo), (1, .ref h), (2, .int (nI p))]) rfl ?_
  refine r_aload_n K dX3_statementComes_8 1 rfl ?_
  refine r_iload_n K dX3_statementComes_9 3 rfl ?_
  refine r_iconst K dX3_statementComes_10 (nI 2) (by decide) ?_
  refine r_iaddN K dX3_statementComes_11 ?_
  refine r_cVd K dX3_statementComes_12 (c_X3_digitAt l Γ lo ls lt lm (p + 2) (by first | assumption | omega) (by first | assumption | omega)) mX3_digitAt q199 rfl (by decide) rfl rfl 3 rfl [0, 1] [2] rfl rfl [ydW Γ h a r] rfl [eO lo 1 [.ref ls, .int (nI lm)], eI Γ ls 96 lt, ydW Γ h a r] rfl rfl rfl [] rfl (Nat.le_of_ble_eq_true rfl) ?_
  refine r_istore K dX3_statementComes_15 (by decide) (lv1 := [(4, .int (dgL lt lm (p + 2))), (3, .int (dgL lt lm (p + 1))), (0, .ref lo), (1, .ref h), (2, .int (nI p))]) rfl ?_
  refine r_aload_n K dX3_statementComes_17 2 rfl ?_
  refine r_iload_n K dX3_statementComes_18 4 rfl ?_
  refine r_cVd K dX3_statementComes_19 (c_X3_signAt l Γ lo ls lt lm p (by first | assumption | omega) (by first | assumption | omega)) mX3_signAt q178 rfl (by decide) rfl rfl 3 rfl [0, 1] [2] rfl rfl [ydW Γ h a r] rfl [eO lo 1 [.ref ls, .int (nI lm)], eI Γ ls 96 lt, ydW Γ h a r] rfl rfl rfl [] rfl (Nat.le_of_ble_eq_true rfl) ?_
  refine r_tsw K dX3_statementComes_22.1 [150, 207, 207, 195, 207, 207, 116, 182, 207, 207, 207, 207, 122, 158, 207, 207, 207, 207, 207, 171] 207 (by decide) (by decide) (by decide) ⟨fun c22 => ?_, fun c22 => ?_, fun c22 => ?_, fun c22 => ?_, fun c22 => ?_, fun c22 => ?_, fun c22 => ?_, fun c22 => ?_, fun c22 => ?_, fun c22 => ?_, fun c22 => ?_, fun c22 => ?_, fun c22 => ?_, fun c22 => ?_, fun c22 => ?_, fun c22 => ?_, fun c22 => ?_, fun c22 => ?_, fun c22 => ?_, fun c22 => ?_, trivial⟩ (fun c22 => ?_)
  · have c22 : sgS lt lm p = nI 97 := c22
    refine r_aload_n K dX3_statementComes_150 3 rfl ?_
    refine r_iload_n K dX3_statementComes_151 1 rfl ?_
    refine r_iload K dX3_statementComes_152 0 rfl ?_
    refine r_cSd K dX3_statementComes_154 (c_X3_mournerComesTo l Γ h a r (dgL lt lm (p + 1)) (dgL lt lm (p + 2)) (hI)) mX3_mournerComesTo q218 rfl (by decide) 3 rfl [2] [0, 1] rfl rfl [eO lo 1 [.ref ls, .int (nI lm)], eI Γ ls 96 lt] rfl [eO lo 1 [.ref ls, .int (nI lm)], eI Γ ls 96 lt, ydW Γ h a (cmX r (dgL lt lm (p + 1)) (dgL lt lm (p + 2)))] rfl rfl rfl [] rfl (Nat.le_of_ble_eq_true rfl) ?_
    exact hR () dX3_statementComes_157 (bz_n _) (trivial) (e_ri (by rw [stB_a c22])) (by rw [stR_a c22]; exact weq.rf)
  · have c22 : sgS lt lm p = nI 98 := c22
    have hz : stB r lt lm p = false := stB_v c22 (by decide) (by decide)
    refine r_iconst K dX3_statementComes_207 (nI 0) (by decide) ?_
    exact hR () dX3_statementComes_208 (rfl) (trivial) (e_ri (by rw [hz]; rfl)) (by rw [stR_f hz]; exact weq.rf)
  · have c22 : sgS lt lm p = nI 99 := c22
    have hz : stB r lt lm p = false := stB_v c22 (by decide) (by decide)
    refine r_iconst K dX3_statementComes_207 (nI 0) (by decide) ?_
    exact hR () dX3_statementComes_208 (rfl) (trivial) (e_ri (by rw [hz]; rfl)) (by rw [stR_f hz]; exact weq.rf)
  · have c22 : sgS lt lm p = nI 100 := c22
    refine r_aload_n K dX3_statementComes_195 3 rfl ?_
    refine r_aload_n K dX3_statementComes_196 2 rfl ?_
    refine r_iload_n K dX3_statementComes_197 4 rfl ?_
    refine r_iconst K dX3_statementComes_198 (nI 1) (by decide) ?_
    refine r_iaddN K dX3_statementComes_199 ?_
    refine r_cVd K dX3_statementComes_200 (c_X3_twoDigitsAt l Γ lo ls lt lm (p + 1) (by first | assumption | omega) (by first | assumption | omega)) mX3_twoDigitsAt q210 rfl (by decide) rfl rfl 3 rfl [0, 1] [2] rfl rfl [ydW Γ h a r] rfl [eO lo 1 [.ref ls, .int (nI lm)], eI Γ ls 96 lt, ydW Γ h a r] rfl rfl rfl [.ref h] rfl (Nat.le_of_ble_eq_true rfl) ?_
    have hw9 := (twL_ok lt lm (p + 1)).2
    refine r_top (y := nI (ix (twL lt lm (p + 1)))) ((twL_ok lt lm (p + 1)).1) ?_
    refine r_cSd K dX3_statementComes_203 (c_X3_daysGoBy l Γ h a r (ix (twL lt lm (p + 1))) (hI) (by first | assumption | omega)) mX3_daysGoBy q259 rfl (by decide) 3 rfl [2] [0, 1] rfl rfl [eO lo 1 [.ref ls, .int (nI lm)], eI Γ ls 96 lt] rfl [eO lo 1 [.ref ls, .int (nI lm)], eI Γ ls 96 lt, ydW Γ h a (dgX r (nI (ix (twL lt lm (p + 1)))))] rfl rfl rfl [] rfl (Nat.le_of_ble_eq_true rfl) ?_
    exact hR () dX3_statementComes_206 (bz_n _) (trivial) (e_ri (by rw [stB_d c22, ← (twL_ok lt lm (p + 1)).1])) (by rw [stR_d c22, ← (twL_ok lt lm (p + 1)).1]; exact weq.rf)
  · have c22 : sgS lt lm p = nI 101 := c22
    have hz : stB r lt lm p = false := stB_v c22 (by decide) (by decide)
    refine r_iconst K dX3_statementComes_207 (nI 0) (by decide) ?_
    exact hR () dX3_statementComes_208 (rfl) (trivial) (e_ri (by rw [hz]; rfl)) (by rw [stR_f hz]; exact weq.rf)
  · have c22 : sgS lt lm p = nI 102 := c22
    have hz : stB r lt lm p = false := stB_v c22 (by decide) (by decide)
    refine r_iconst K dX3_statementComes_207 (nI 0) (by decide) ?_
    exact hR () dX3_statementComes_208 (rfl) (trivial) (e_ri (by rw [hz]; rfl)) (by rw [stR_f hz]; exact weq.rf)
  · have c22 : sgS lt lm p = nI 103 := c22
    refine r_aload_n K dX3_statementComes_116 3 rfl ?_
    refine r_iload_n K dX3_statementComes_117 1 rfl ?_
    refine r_cVd K dX3_statementComes_118 (c_X0_addGraveX l Γ h a r (dgL lt lm (p + 1)) (hI)) mX0_addGrave q206 rfl (by decide) rfl rfl 3 rfl [2] [0, 1] rfl rfl [eO lo 1 [.ref ls, .int (nI lm)], eI Γ ls 96 lt] rfl [eO lo 1 [.ref ls, .int (nI lm)], eI Γ ls 96 lt, ydW Γ h a (addGX r (dgL lt lm (p + 1)))] rfl rfl rfl [] rfl (Nat.le_of_ble_eq_true rfl) ?_
    exact hR () dX3_statementComes_121 (bz_n _) (trivial) (e_ri (by rw [stB_g c22])) (by rw [stR_g c22]; exact weq.rf)
  · have c22 : sgS lt lm p = nI 104 := c22
    refine r_aload_n K dX3_statementComes_182 3 rfl ?_
    refine r_iload_n K dX3_statementComes_183 1 rfl ?_
    refine r_iload K dX3_statementComes_184 0 rfl ?_
    refine r_cVn K dX3_statementComes_186 (c_X0_setHardness l Γ h a r (dgL lt lm (p + 1)) (dgL lt lm (p + 2)) (hI)) mX0_setHardness q254 rfl (by decide) rfl rfl 3 rfl [2] [0, 1] rfl rfl [eO lo 1 [.ref ls, .int (nI lm)], eI Γ ls 96 lt] rfl [eO lo 1 [.ref ls, .int (nI lm)], eI Γ ls 96 lt, ydW Γ h a (setG r 0 (dgL lt lm (p + 1)) (dgL lt lm (p + 2)))] rfl rfl rfl [] rfl (Nat.le_of_ble_eq_true rfl) ?_
    refine r_aload_n K dX3_statementComes_189 3 rfl ?_
    refine r_iload_n K dX3_statementComes_190 1 rfl ?_
    refine r_cVd K dX3_statementComes_191 (c_X0_hasGrave l Γ h a (setG r 0 (dgL lt lm (p + 1)) (dgL lt lm (p + 2))) (dgL lt lm (p + 1)) (Inv_setG0 hI (dgL_ok _ _ _))) mX0_hasGrave q225 rfl (by decide) rfl rfl 3 rfl [2] [0, 1] rfl rfl [eO lo 1 [.ref ls, .int (nI lm)], eI Γ ls 96 lt] rfl [eO lo 1 [.ref ls, .int (nI lm)], eI Γ ls 96 lt, ydW Γ h a (setG r 0 (dgL lt lm (p + 1)) (dgL lt lm (p + 2)))] rfl rfl rfl [] rfl (Nat.le_of_ble_eq_true rfl) ?_
    exact hR () dX3_statementComes_194 (bz_n _) (trivial) (e_ri (by rw [stB_h c22, setG_nG])) (by rw [stR_h c22]; exact weq.rf)
  · have c22 : sgS lt lm p = nI 105 := c22
    have hz : stB r lt lm p = false := stB_v c22 (by decide) (by decide)
    refine r_iconst K dX3_statementComes_207 (nI 0) (by decide) ?_
    exact hR () dX3_statementComes_208 (rfl) (trivial) (e_ri (by rw [hz]; rfl)) (by rw [stR_f hz]; exact weq.rf)
  · have c22 : sgS lt lm p = nI 106 := c22
    have hz : stB r lt lm p = false := stB_v c22 (by decide) (by decide)
    refine r_iconst K dX3_statementComes_207 (nI 0) (by decide) ?_
    exact hR () dX3_statementComes_208 (rfl) (trivial) (e_ri (by rw [hz]; rfl)) (by rw [stR_f hz]; exact weq.rf)
  · have c22 : sgS lt lm p = nI 107 := c22
    have hz : stB r lt lm p = false := stB_v c22 (by decide) (by decide)
    refine r_iconst K dX3_statementComes_207 (nI 0) (by decide) ?_
    exact hR () dX3_statementComes_208 (rfl) (trivial) (e_ri (by rw [hz]; rfl)) (by rw [stR_f hz]; exact weq.rf)
  · have c22 : sgS lt lm p = nI 108 := c22
    have hz : stB r lt lm p = false := stB_v c22 (by decide) (by decide)
    refine r_iconst K dX3_statementComes_207 (nI 0) (by decide) ?_
    exact hR () dX3_statementComes_208 (rfl) (trivial) (e_ri (by rw [hz]; rfl)) (by rw [stR_f hz]; exact weq.rf)
  · have c22 : sgS lt lm p = nI 109 := c22
    refine r_aload_n K dX3_statementComes_122 2 rfl ?_
    refine r_iload_n K dX3_statementComes_123 4 rfl ?_
    refine r_iconst K dX3_statementComes_124 (nI 1) (by decide) ?_
    refine r_iaddN K dX3_statementComes_125 ?_
    refine r_cVd K dX3_statementComes_126 (c_X3_signAt l Γ lo ls lt lm (p + 1) (by first | assumption | omega) (by first | assumption | omega)) mX3_signAt q178 rfl (by decide) rfl rfl 3 rfl [0, 1] [2] rfl rfl [ydW Γ h a r] rfl [eO lo 1 [.ref ls, .int (nI lm)], eI Γ ls 96 lt, ydW Γ h a r] rfl rfl rfl [] rfl (Nat.le_of_ble_eq_true rfl) ?_
    refine r_cSd K dX3_statementComes_129 (c_X2_ofLetter l Γ (sgS lt lm (p + 1))) mX2_ofLetter q189 rfl (by decide) 3 rfl [] [0, 1, 2] rfl rfl [eO lo 1 [.ref ls, .int (nI lm)], eI Γ ls 96 lt, ydW Γ h a r] rfl [eO lo 1 [.ref ls, .int (nI lm)], eI Γ ls 96 lt, ydW Γ h a r] rfl rfl rfl [] rfl (Nat.le_of_ble_eq_true rfl) ?_
    refine r_istore K dX3_statementComes_132 (by decide) (lv1 := [(5, .int (kindC (sgS lt lm (p + 1)))), (4, .int (dgL lt lm (p + 2))), (3, .int (dgL lt lm (p + 1))), (0, .ref lo), (1, .ref h), (2, .int (nI p))]) rfl ?_
    refine r_aload_n K dX3_statementComes_134 4 rfl ?_
    refine r_iload K dX3_statementComes_135 0 rfl ?_
    refine r_iload K dX3_statementComes_137 1 rfl ?_
    refine r_aload_n K dX3_statementComes_139 3 rfl ?_
    refine r_iload_n K dX3_statementComes_140 5 rfl ?_
    refine r_iconst K dX3_statementComes_141 (nI 3) (by decide) ?_
    refine r_iaddN K dX3_statementComes_142 ?_
    refine r_cVd K dX3_statementComes_143 (c_X3_twoDigitsAt l Γ lo ls lt lm (p + 3) (by first | assumption | omega) (by first | assumption | omega)) mX3_twoDigitsAt q210 rfl (by decide) rfl rfl 3 rfl [0, 1] [2] rfl rfl [ydW Γ h a r] rfl [eO lo 1 [.ref ls, .int (nI lm)], eI Γ ls 96 lt, ydW Γ h a r] rfl rfl rfl [.int (dgL lt lm (p + 2)), .int (kindC (sgS lt lm (p + 1))), .ref h] rfl (Nat.le_of_ble_eq_true rfl) ?_
    refine r_cVd K dX3_statementComes_146 (c_X0_addMournerX l Γ h a r (kindC (sgS lt lm (p + 1))) (dgL lt lm (p + 2)) (twL lt lm (p + 3)) (hI)) mX0_addMourner q214 rfl (by decide) rfl rfl 3 rfl [2] [0, 1] rfl rfl [eO lo 1 [.ref ls, .int (nI lm)], eI Γ ls 96 lt] rfl [eO lo 1 [.ref ls, .int (nI lm)], eI Γ ls 96 lt, ydW Γ h a (addMX r (kindC (sgS lt lm (p + 1))) (dgL lt lm (p + 2)) (twL lt lm (p + 3)))] rfl rfl rfl [] rfl (Nat.le_of_ble_eq_true rfl) ?_
    exact hR () dX3_statementComes_149 (bz_n _) (trivial) (e_ri (by rw [stB_m c22])) (by rw [stR_m c22]; exact weq.rf)
  · have c22 : sgS lt lm p = nI 110 := c22
    refine r_aload_n K dX3_statementComes_158 3 rfl ?_
    refine r_iload_n K dX3_statementComes_159 1 rfl ?_
    refine r_bipush K dX3_statementComes_160 ((-9)) (by decide) ?_
    refine r_cVn K dX3_statementComes_162 (c_X0_place l Γ h a r (dgL lt lm (p + 1)) (-9) (hI)) mX0_place q229 rfl (by decide) rfl rfl 3 rfl [2] [0, 1] rfl rfl [eO lo 1 [.ref ls, .int (nI lm)], eI Γ ls 96 lt] rfl [eO lo 1 [.ref ls, .int (nI lm)], eI Γ ls 96 lt, ydW Γ h a (setM r 3 (dgL lt lm (p + 1)) (-9))] rfl rfl rfl [] rfl (Nat.le_of_ble_eq_true rfl) ?_
    refine r_aload_n K dX3_statementComes_165 3 rfl ?_
    refine r_iload_n K dX3_statementComes_166 1 rfl ?_
    refine r_cVd K dX3_statementComes_167 (c_X0_hasMourner l Γ h a (setM r 3 (dgL lt lm (p + 1)) (-9)) (dgL lt lm (p + 1)) (Inv_setM9 hI)) mX0_hasMourner q221 rfl (by decide) rfl rfl 3 rfl [2] [0, 1] rfl rfl [eO lo 1 [.ref ls, .int (nI lm)], eI Γ ls 96 lt] rfl [eO lo 1 [.ref ls, .int (nI lm)], eI Γ ls 96 lt, ydW Γ h a (setM r 3 (dgL lt lm (p + 1)) (-9))] rfl rfl rfl [] rfl (Nat.le_of_ble_eq_true rfl) ?_
    exact hR () dX3_statementComes_170 (bz_n _) (trivial) (e_ri (by rw [stB_no c22, setM_nM])) (by rw [stR_no c22]; exact weq.rf)
  · have c22 : sgS lt lm p = nI 111 := c22
    have hz : stB r lt lm p = false := stB_v c22 (by decide) (by decide)
    refine r_iconst K dX3_statementComes_207 (nI 0) (by decide) ?_
    exact hR () dX3_statementComes_208 (rfl) (trivial) (e_ri (by rw [hz]; rfl)) (by rw [stR_f hz]; exact weq.rf)
  · have c22 : sgS lt lm p = nI 112 := c22
    have hz : stB r lt lm p = false := stB_v c22 (by decide) (by decide)
    refine r_iconst K dX3_statementComes_207 (nI 0) (by decide) ?_
    exact hR () dX3_statementComes_208 (rfl) (trivial) (e_ri (by rw [hz]; rfl)) (by rw [stR_f hz]; exact weq.rf)
  · have c22 : sgS lt lm p = nI 113 := c22
    have hz : stB r lt lm p = false := stB_v c22 (by decide) (by decide)
    refine r_iconst K dX3_statementComes_207 (nI 0) (by decide) ?_
    exact hR () dX3_statementComes_208 (rfl) (trivial) (e_ri (by rw [hz]; rfl)) (by rw [stR_f hz]; exact weq.rf)
  · have c22 : sgS lt lm p = nI 114 := c22
    have hz : stB r lt lm p = false := stB_v c22 (by decide) (by decide)
    refine r_iconst K dX3_statementComes_207 (nI 0) (by decide) ?_
    exact hR () dX3_statementComes_208 (rfl) (trivial) (e_ri (by rw [hz]; rfl)) (by rw [stR_f hz]; exact weq.rf)
  · have c22 : sgS lt lm p = nI 115 := c22
    have hz : stB r lt lm p = false := stB_v c22 (by decide) (by decide)
    refine r_iconst K dX3_statementComes_207 (nI 0) (by decide) ?_
    exact hR () dX3_statementComes_208 (rfl) (trivial) (e_ri (by rw [hz]; rfl)) (by rw [stR_f hz]; exact weq.rf)
  · have c22 : sgS lt lm p = nI 116 := c22
    refine r_aload_n K dX3_statementComes_171 3 rfl ?_
    refine r_iload_n K dX3_statementComes_172 1 rfl ?_
    refine r_cVn K dX3_statementComes_173 (c_X0_inform l Γ h a r (dgL lt lm (p + 1)) (hI)) mX0_inform q234 rfl (by decide) rfl rfl 3 rfl [2] [0, 1] rfl rfl [eO lo 1 [.ref ls, .int (nI lm)], eI Γ ls 96 lt] rfl [eO lo 1 [.ref ls, .int (nI lm)], eI Γ ls 96 lt, ydW Γ h a (tellX r (dgL lt lm (p + 1)))] rfl rfl rfl [] rfl (Nat.le_of_ble_eq_true rfl) ?_
    refine r_aload_n K dX3_statementComes_176 3 rfl ?_
    refine r_iload_n K dX3_statementComes_177 1 rfl ?_
    refine r_cVd K dX3_statementComes_178 (c_X0_hasMourner l Γ h a (tellX r (dgL lt lm (p + 1))) (dgL lt lm (p + 1)) (Inv_tellX hI)) mX0_hasMourner q221 rfl (by decide) rfl rfl 3 rfl [2] [0, 1] rfl rfl [eO lo 1 [.ref ls, .int (nI lm)], eI Γ ls 96 lt] rfl [eO lo 1 [.ref ls, .int (nI lm)], eI Γ ls 96 lt, ydW Γ h a (tellX r (dgL lt lm (p + 1)))] rfl rfl rfl [] rfl (Nat.le_of_ble_eq_true rfl) ?_
    exact hR () dX3_statementComes_181 (bz_n _) (trivial) (e_ri (by rw [stB_t c22, tellX_nM])) (by rw [stR_t c22]; exact weq.rf)
  · have c22 : ∀ v : Nat, 97 ≤ v → v ≤ 116 → v < 2 ^ 31 → ¬ sgS lt lm p = nI v := tsw_out c22
    refine r_iconst K dX3_statementComes_207 (nI 0) (by decide) ?_
    exact hR () dX3_statementComes_208 (rfl) (trivial) (e_ri (by rw [stB_out c22]; rfl)) (by rw [stR_f (stB_out c22)]; exact weq.rf)
set_option maxHeartbeats 1000000 in
set_option maxRecDepth 20000 in
theorem c_X3_tellTo (l : Launch) (Γ : eG) (lo : Nat) (ls : Nat) (lt : Nat → Int32) (lm : Nat) (h : Nat) (a : Nat → Nat) (r : Nat → Int32) (hl : lm ≤ 96) (hI : Inv r) : cD l Γ yX3_tellTo cX3_tellTo 5 (some .int) 6 [.ref lo, .ref h] [eO lo 1 [.ref ls, .int (nI lm)], eI Γ ls 96 lt, ydW Γ h a r] (some (.int (tlA lt lm r))) [eO lo 1 [.ref ls, .int (nI lm)], eI Γ ls 96 lt, ydW Γ h a (tlQ lt lm r)] := by
  refine e_int [(0, .ref lo), (1, .ref h)] (by decide +kernel) (Nat.le_of_ble_eq_true rfl) rfl (fun V K hR => ?_)
  have h5 := hI.g
  have h6 := hI.m
  refine r_aload_n K dX3_tellTo_0 0 rfl ?_
  refine r_cVd K dX3_tellTo_1 (c_X3_firstMisfit l Γ lo ls lt lm (by first | assumption | omega)) mX3_firstMisfit q174 rfl (by decide) rfl rfl 3 rfl [0, 1] [2] rfl rfl [ydW Γ h a r] rfl [eO lo 1 [.ref ls, .int (nI lm)], eI Γ ls 96 lt, ydW Γ h a r] rfl rfl rfl [] rfl (Nat.le_of_ble_eq_true rfl) ?_
  refine r_istore_n K dX3_tellTo_4 rfl (by decide) (lv1 := [(2, .int (fMis lt lm)), (0, .ref lo), (1, .ref h)]) rfl ?_
  refine r_iload_n K dX3_tellTo_5 0 rfl ?_
  refine r_bipush K dX3_tellTo_6 ((-9)) (by decide) ?_
  refine r_ic_eq K dX3_tellTo_8 (fun c8 => ?_) (fun c8 => ?_)
  · refine r_iconst K dX3_tellTo_17 (nI 0) (by decide) ?_
    refine r_istore_n K dX3_tellTo_18 rfl (by decide) (lv1 := [(3, .int (nI 0)), (2, .int (fMis lt lm)), (0, .ref lo), (1, .ref h)]) rfl ?_
    refine r_iconst K dX3_tellTo_19 (nI 0) (by decide) ?_
    refine r_istore K dX3_tellTo_20 (by decide) (lv1 := [(4, .int (nI 0)), (3, .int (nI 0)), (2, .int (fMis lt lm)), (0, .ref lo), (1, .ref h)]) rfl ?_
    have L22 : ∀ (fL22 : Nat) (f : Nat) (p : Nat) (n : Nat) (q : Nat → Int32), (lm < f + p) → (p ≤ lm) → (n ≤ p) → (miO lt lm f p = -9) → (Inv q) → (tlO lt lm (lm + 1) 0 0 r = tlO lt lm f p n q) → f < fL22 → V 22 [(4, .int (nI p)), (3, .int (nI n)), (2, .int (fMis lt lm)), (0, .ref lo), (1, .ref h)] [] [eO lo 1 [.ref ls, .int (nI lm)], eI Γ ls 96 lt, ydW Γ h a q] := by
      intro fL22
      induction fL22 with
      | zero => intro f p n q hf hp hn hM hJ hE hf; exact absurd hf (Nat.not_lt_zero _)
      | succ fL22 ih_L22 =>
        intro f p n q hf hp hn hM hJ hE hfL22
        refine r_iload K dX3_tellTo_22 0 rfl ?_
        refine r_aload_n K dX3_tellTo_24 3 rfl ?_
        refine r_get K dX3_tellTo_25 (kf := 1) 0 rfl rfl hinX3 (by decide) q89 rfl rfl ?_
        refine r_ic_geN K dX3_tellTo_28 (by omega) (by omega) (fun c28 => ?_) (fun c28 => ?_)
        · refine r_iload_n K dX3_tellTo_72 1 rfl ?_
          exact hR () dX3_tellTo_73 (trivial) (e_ri ((tlA_e c8 (hE.trans (tlO_e (by omega)))).1)) (by rw [(tlA_e c8 (hE.trans (tlO_e (by omega)))).2]; exact weq.rf)
        · obtain ⟨f, rfl⟩ : ∃ q, f = q + 1 := ⟨f - 1, by omega⟩
          refine r_aload_n K dX3_tellTo_31 3 rfl ?_
          refine r_aload_n K dX3_tellTo_32 4 rfl ?_
          refine r_iload K dX3_tellTo_33 0 rfl ?_
          refine r_cVd K dX3_tellTo_35 (c_X3_statementComes l Γ lo ls lt lm h a q p (by first | assumption | omega) (hJ) (by first | assumption | omega) (fun hc => miO_kind c28 hM (by omega) hc)) mX3_statementComes q195 rfl (by decide) rfl rfl 3 rfl [0, 1, 2] [] rfl rfl [] rfl [eO lo 1 [.ref ls, .int (nI lm)], eI Γ ls 96 lt, ydW Γ h a (stR q lt lm p)] rfl rfl rfl [] rfl (Nat.le_of_ble_eq_true rfl) ?_
          refine r_ifneB K dX3_tellTo_38 (fun c38 => ?_) (fun c38 => ?_)
          · obtain ⟨o1, o2, o3, o4⟩ := miO_ok c28 hM (by omega)
            have hl6 := lnS_le (sgS lt lm p)
            refine r_iincN K dX3_tellTo_48 (n := 1) 1 rfl rfl (by decide) (lv1 := [(3, .int (nI (n + 1))), (4, .int (nI p)), (2, .int (fMis lt lm)), (0, .ref lo), (1, .ref h)]) rfl ?_
            refine r_iload K dX3_tellTo_51 1 rfl ?_
            refine r_iconst K dX3_tellTo_53 (nI 1) (by decide) ?_
            refine r_aload_n K dX3_tellTo_54 3 rfl ?_
            refine r_iload K dX3_tellTo_55 1 rfl ?_
            refine r_cVd K dX3_tellTo_57 (c_X3_signAt l Γ lo ls lt lm p (by first | assumption | omega) (by first | assumption | omega)) mX3_signAt q178 rfl (by decide) rfl rfl 3 rfl [0, 1] [2] rfl rfl [ydW Γ h a (stR q lt lm p)] rfl [eO lo 1 [.ref ls, .int (nI lm)], eI Γ ls 96 lt, ydW Γ h a (stR q lt lm p)] rfl rfl rfl [.int (nI 1), .int (nI p)] rfl (Nat.le_of_ble_eq_true rfl) ?_
            refine r_cSd K dX3_tellTo_60 (c_X3_lengthOf l Γ (sgS lt lm p)) mX3_lengthOf q182 rfl (by decide) 3 rfl [] [0, 1, 2] rfl rfl [eO lo 1 [.ref ls, .int (nI lm)], eI Γ ls 96 lt, ydW Γ h a (stR q lt lm p)] rfl [eO lo 1 [.ref ls, .int (nI lm)], eI Γ ls 96 lt, ydW Γ h a (stR q lt lm p)] rfl rfl rfl [.int (nI 1), .int (nI p)] rfl (Nat.le_of_ble_eq_true rfl) ?_
            refine r_mmax K dX3_tellTo_63 q192 q193 q194 (Nat.le_of_ble_eq_true rfl) (by decide) ?_
            refine r_top (y := nI (lnS (sgS lt lm p))) (mx1 (by omega) (by omega)) ?_
            refine r_iaddN K dX3_tellTo_66 ?_
            refine r_istore K dX3_tellTo_67 (by decide) (lv1 := [(4, .int (nI (p + (lnS (sgS lt lm p))))), (3, .int (nI (n + 1))), (2, .int (fMis lt lm)), (0, .ref lo), (1, .ref h)]) rfl ?_
            refine r_goto K dX3_tellTo_69 ?_
            exact ih_L22 f (p + lnS (sgS lt lm p)) (n + 1) (stR q lt lm p) (by omega) (o2) (by omega) (o4) (Inv_stR hJ (fun hc => miO_kind c28 hM (by omega) hc)) (hE.trans (tlO_t c28 c38)) (by omega)
          · refine r_sipush K dX3_tellTo_41 ((-2000)) (by decide) ?_
            refine r_iload K dX3_tellTo_44 0 rfl ?_
            refine r_isub K dX3_tellTo_46 ?_
            exact hR () dX3_tellTo_47 (trivial) (e_ri ((tlA_e c8 (hE.trans (tlO_f c28 c38))).1)) (by rw [(tlA_e c8 (hE.trans (tlO_f c28 c38))).2, stR_f c38]; exact weq.rf)
    exact L22 _ (lm + 1) 0 0 r (by omega) (Nat.zero_le _) (Nat.le_refl _) (fMis_9 c8) (hI) (rfl) (Nat.lt_succ_self _)
  · refine r_sipush K dX3_tellTo_11 ((-1000)) (by decide) ?_
    refine r_iload_n K dX3_tellTo_14 0 rfl ?_
    refine r_isub K dX3_tellTo_15 ?_
    exact hR () dX3_tellTo_16 (trivial) (e_ri (tlA_n c8)) (by rw [tlQ_n c8]; exact weq.rf)
