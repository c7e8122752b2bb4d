/-! THE REFERENCE: its object -/
set_option maxHeartbeats 1000000 in
set_option maxRecDepth 20000 in
theorem c_X7_no (l : Launch) (Γ : eG) (h : Nat) (a : Nat → Nat) (hi : Bool) (lm : Nat) (rm : Nat) (pc : Nat) (bi : Int32) (sd : Int32) (rf : Nat → Int32) (e : Int32) (he : okR e) : cD l Γ yX7_no cX7_no 2 (some .int) 0 [.ref h, .int e] [mo h a hi lm rm pc bi sd, eI Γ (a 6) 7 rf] (some (.int e)) [mo h a hi lm rm pc bi sd, eI Γ (a 6) 7 (nof rf e)] := by
  refine e_int [(0, .ref h), (1, .int e)] (by decide +kernel) (Nat.le_of_ble_eq_true rfl) rfl (fun V K hR => ?_)
  obtain ⟨c, hc, ee⟩ := he
  have e1 : -e = nI c := by rw [ee, Int32.neg_neg]
  refine r_aload_n K dX7_no_0 0 rfl ?_
  refine r_get K dX7_no_1 (kf := 7) 0 rfl rfl hinX7 (by decide) q764 rfl rfl ?_
  refine r_iload_n K dX7_no_4 1 rfl ?_
  refine r_ineg K dX7_no_5 ?_
  refine r_top (y := nI c) (e1) ?_
  refine r_dup2 K dX7_no_6 rfl rfl ?_
  refine r_aldN K dX7_no_7 1 rfl (by first | omega | exact iG_lt (by omega) (by decide) | exact iM_lt (by omega) (by decide)) (by decide) ?_
  refine r_iconst K dX7_no_8 (nI 1) (by decide) ?_
  refine r_iadd K dX7_no_9 ?_
  refine r_astN K dX7_no_10 (ws1 := [mo h a hi lm rm pc bi sd, eI Γ (a 6) 7 (upd rf c ((rf c) + (nI 1)))]) 1 rfl (by first | omega | exact iG_lt (by omega) (by decide) | exact iM_lt (by omega) (by decide)) (by decide) rfl ?_
  refine r_iload_n K dX7_no_11 1 rfl ?_
  refine r_arr K (f2 := nof rf e) (ws1 := [mo h a hi lm rm pc bi sd, eI Γ (a 6) 7 (nof rf e)]) 1 rfl (fun _ _ => by rw [nof_e ee hc]) rfl ?_
  exact hR () dX7_no_12 (trivial) (e_ri (rfl)) (weq.rf)
set_option maxHeartbeats 1000000 in
set_option maxRecDepth 20000 in
theorem c_X7_noFar (l : Launch) (Γ : eG) (h : Nat) (a : Nat → Nat) (hi : Bool) (lm : Nat) (rm : Nat) (pc : Nat) (bi : Int32) (sd : Int32) (rf : Nat → Int32) (e : Int32) (he : okR e) : cD l Γ yX7_noFar cX7_noFar 2 (some .int) 1 [.ref h, .int e] [mo h a hi lm rm pc bi sd, eI Γ (a 6) 7 rf] (some (.int (1000000000 - e))) [mo h a hi lm rm pc bi sd, eI Γ (a 6) 7 (nof rf e)] := by
  refine e_int [(0, .ref h), (1, .int e)] (by decide +kernel) (Nat.le_of_ble_eq_true rfl) rfl (fun V K hR => ?_)
  refine r_ldc K dX7_noFar_0 q1019 ?_
  refine r_aload_n K dX7_noFar_2 0 rfl ?_
  refine r_iload_n K dX7_noFar_3 1 rfl ?_
  refine r_cVd K dX7_noFar_4 (c_X7_no l Γ h a hi lm rm pc bi sd rf e (he)) mX7_no q813 rfl (by decide) rfl rfl 2 rfl [0, 1] [] rfl rfl [] rfl [mo h a hi lm rm pc bi sd, eI Γ (a 6) 7 (nof rf e)] rfl rfl rfl [.int (1000000000)] rfl (Nat.le_of_ble_eq_true rfl) ?_
  refine r_isub K dX7_noFar_7 ?_
  exact hR () dX7_noFar_8 (trivial) (e_ri (rfl)) (weq.rf)
set_option maxHeartbeats 1000000 in
set_option maxRecDepth 20000 in
theorem c_X7_noWide (l : Launch) (Γ : eG) (h : Nat) (a : Nat → Nat) (hi : Bool) (lm : Nat) (rm : Nat) (pc : Nat) (bi : Int32) (sd : Int32) (rf : Nat → Int32) (e : Int32) (he : okR e) : cD l Γ yX7_noWide cX7_noWide 2 (some .long) 1 [.ref h, .int e] [mo h a hi lm rm pc bi sd, eI Γ (a 6) 7 rf] (some (.long (4000000000000000000 - e.toInt64))) [mo h a hi lm rm pc bi sd, eI Γ (a 6) 7 (nof rf e)] := by
  refine e_long [(0, .ref h), (1, .int e)] (by decide +kernel) (Nat.le_of_ble_eq_true rfl) rfl (fun V K hR => ?_)
  refine r_ldc2 K dX7_noWide_0 q1068 ?_
  refine r_aload_n K dX7_noWide_3 0 rfl ?_
  refine r_iload_n K dX7_noWide_4 1 rfl ?_
  refine r_cVd K dX7_noWide_5 (c_X7_no l Γ h a hi lm rm pc bi sd rf e (he)) mX7_no q813 rfl (by decide) rfl rfl 2 rfl [0, 1] [] rfl rfl [] rfl [mo h a hi lm rm pc bi sd, eI Γ (a 6) 7 (nof rf e)] rfl rfl rfl [.long ((4000000000000000000) : Int64)] rfl (Nat.le_of_ble_eq_true rfl) ?_
  refine r_i2l K dX7_noWide_8 ?_
  refine r_lsub K dX7_noWide_9 ?_
  exact hR () dX7_noWide_10 (trivial) (e_rl (rfl)) (weq.rf)
set_option maxHeartbeats 1000000 in
set_option maxRecDepth 20000 in
theorem c_X7_isGrave (l : Launch) (Γ : eG) (h : Nat) (a : Nat → Nat) (hi : Bool) (lm : Nat) (rm : Nat) (pc : Nat) (bi : Int32) (sd : Int32) (r : Nat → Int32) (x : Int32) (hI : Inv r) : cD l Γ yX7_isGrave cX7_isGrave 2 (some .boolean) 1 [.ref h, .int x] [mo h a hi lm rm pc bi sd, eI Γ (a 0) 42 r] (some (.int (bz (inN (nG r) x)))) [mo h a hi lm rm pc bi sd, eI Γ (a 0) 42 r] := by
  refine e_bool [(0, .ref h), (1, .int x)] (by decide +kernel) (Nat.le_of_ble_eq_true rfl) rfl (fun V K hR => ?_)
  have h5 := hI.g
  have h6 := hI.m
  refine r_iload_n K dX7_isGrave_0 1 rfl ?_
  refine r_iconst K dX7_isGrave_1 (nI 0) (by decide) ?_
  refine r_aload_n K dX7_isGrave_2 0 rfl ?_
  refine r_get K dX7_isGrave_3 (kf := 0) 0 rfl rfl hinX7 (by decide) q757 rfl rfl ?_
  refine r_iconst K dX7_isGrave_6 (nI 0) (by decide) ?_
  refine r_aldN K dX7_isGrave_7 1 rfl (by first | omega | exact iG_lt (by omega) (by decide) | exact iM_lt (by omega) (by decide)) (by decide) ?_
  refine r_top (y := nI (nG r)) (hI.r0) ?_
  refine r_iconst K dX7_isGrave_8 (nI 1) (by decide) ?_
  refine r_isub K dX7_isGrave_9 ?_
  refine r_cSd K dX7_isGrave_10 (c_X7_isIn l Γ x (nI 0) ((nI (nG r)) - (nI 1))) mX7_isIn q833 rfl (by decide) 2 rfl [] [0, 1] rfl rfl [mo h a hi lm rm pc bi sd, eI Γ (a 0) 42 r] rfl [mo h a hi lm rm pc bi sd, eI Γ (a 0) 42 r] rfl rfl rfl [] rfl (Nat.le_of_ble_eq_true rfl) ?_
  exact hR () dX7_isGrave_13 (bz_n _) (trivial) (e_ri (congrArg bz (isInB_N (n := nG r) (x := x) (by omega)).symm)) (weq.rf)
set_option maxHeartbeats 1000000 in
set_option maxRecDepth 20000 in
theorem c_X7_isMourner (l : Launch) (Γ : eG) (h : Nat) (a : Nat → Nat) (hi : Bool) (lm : Nat) (rm : Nat) (pc : Nat) (bi : Int32) (sd : Int32) (r : Nat → Int32) (x : Int32) (hI : Inv r) : cD l Γ yX7_isMourner cX7_isMourner 2 (some .boolean) 1 [.ref h, .int x] [mo h a hi lm rm pc bi sd, eI Γ (a 0) 42 r] (some (.int (bz (inN (nM r) x)))) [mo h a hi lm rm pc bi sd, eI Γ (a 0) 42 r] := by
  refine e_bool [(0, .ref h), (1, .int x)] (by decide +kernel) (Nat.le_of_ble_eq_true rfl) rfl (fun V K hR => ?_)
  have h5 := hI.g
  have h6 := hI.m
  refine r_iload_n K dX7_isMourner_0 1 rfl ?_
  refine r_iconst K dX7_isMourner_1 (nI 0) (by decide) ?_
  refine r_aload_n K dX7_isMourner_2 0 rfl ?_
  refine r_get K dX7_isMourner_3 (kf := 0) 0 rfl rfl hinX7 (by decide) q757 rfl rfl ?_
  refine r_iconst K dX7_isMourner_6 (nI 1) (by decide) ?_
  refine r_aldN K dX7_isMourner_7 1 rfl (by first | omega | exact iG_lt (by omega) (by decide) | exact iM_lt (by omega) (by decide)) (by decide) ?_
  refine r_top (y := nI (nM r)) (hI.r1) ?_
  refine r_iconst K dX7_isMourner_8 (nI 1) (by decide) ?_
  refine r_isub K dX7_isMourner_9 ?_
  refine r_cSd K dX7_isMourner_10 (c_X7_isIn l Γ x (nI 0) ((nI (nM r)) - (nI 1))) mX7_isIn q833 rfl (by decide) 2 rfl [] [0, 1] rfl rfl [mo h a hi lm rm pc bi sd, eI Γ (a 0) 42 r] rfl [mo h a hi lm rm pc bi sd, eI Γ (a 0) 42 r] rfl rfl rfl [] rfl (Nat.le_of_ble_eq_true rfl) ?_
  exact hR () dX7_isMourner_13 (bz_n _) (trivial) (e_ri (congrArg bz (isInB_N (n := nM r) (x := x) (by omega)).symm)) (weq.rf)
set_option maxHeartbeats 1000000 in
set_option maxRecDepth 20000 in
theorem c_X7_bits (l : Launch) (Γ : eG) (s : Nat) (hs : s < 64) : cD l Γ yX7_bits cX7_bits 3 (some .int) 0 [.int (nI s)] [] (some (.int (nI (pop6 s)))) [] := by
  refine e_int [(0, .int (nI s))] (by decide +kernel) (Nat.le_of_ble_eq_true rfl) rfl (fun V K hR => ?_)
  refine r_iconst K dX7_bits_0 (nI 0) (by decide) ?_
  refine r_istore_n K dX7_bits_1 rfl (by decide) (lv1 := [(1, .int (nI 0)), (0, .int (nI s))]) rfl ?_
  refine r_iconst K dX7_bits_2 (nI 0) (by decide) ?_
  refine r_istore_n K dX7_bits_3 rfl (by decide) (lv1 := [(2, .int (nI 0)), (1, .int (nI 0)), (0, .int (nI s))]) rfl ?_
  have L4 : ∀ (fL4 : Nat) (k : Nat), (k ≤ 6) → 6 - k < fL4 → V 4 [(2, .int (nI k)), (1, .int (nI (bitsT s k))), (0, .int (nI s))] [] [] := by
    intro fL4
    induction fL4 with
    | zero => intro k hk hf; exact absurd hf (Nat.not_lt_zero _)
    | succ fL4 ih_L4 =>
      intro k hk hfL4
      refine r_iload_n K dX7_bits_4 0 rfl ?_
      refine r_bipush K dX7_bits_5 (nI 6) (by decide) ?_
      refine r_ic_geN K dX7_bits_7 (by omega) (by omega) (fun c7 => ?_) (fun c7 => ?_)
      · obtain rfl : k = 6 := by omega
        refine r_iload_n K dX7_bits_24 1 rfl ?_
        exact hR () dX7_bits_25 (trivial) (e_ri (by rw [bitsT_6 hs])) (weq.rf)
      · refine r_iload_n K dX7_bits_10 1 rfl ?_
        refine r_iload_n K dX7_bits_11 2 rfl ?_
        refine r_iload_n K dX7_bits_12 0 rfl ?_
        refine r_ishr K dX7_bits_13 ?_
        refine r_top (y := nI (s / 2 ^ k)) (has_sh hs (by omega)) ?_
        refine r_iconst K dX7_bits_14 (nI 1) (by decide) ?_
        refine r_iand K dX7_bits_15 ?_
        refine r_top (y := nI (s / 2 ^ k % 2)) (and1 _) ?_
        refine r_iaddN K dX7_bits_16 ?_
        refine r_istore_n K dX7_bits_17 rfl (by decide) (lv1 := [(1, .int (nI ((bitsT s k) + (s / 2 ^ k % 2)))), (2, .int (nI k)), (0, .int (nI s))]) rfl ?_
        refine r_iincN K dX7_bits_18 (n := 1) 1 rfl rfl (by decide) (lv1 := [(2, .int (nI (k + 1))), (1, .int (nI ((bitsT s k) + (s / 2 ^ k % 2)))), (0, .int (nI s))]) rfl ?_
        refine r_goto K dX7_bits_21 ?_
        refine r_lc (lv1 := [(2, .int (nI (k + 1))), (1, .int (nI (bitsT s (k + 1)))), (0, .int (nI s))]) (rfl) ?_
        exact ih_L4 (k + 1) (by omega) (by omega)
  refine r_lc (lv1 := [(2, .int (nI 0)), (1, .int (nI (bitsT s 0))), (0, .int (nI s))]) (rfl) ?_
  exact L4 _ 0 (Nat.zero_le _) (Nat.lt_succ_self _)
set_option maxHeartbeats 1000000 in
set_option maxRecDepth 20000 in
theorem c_X7_letter (l : Launch) (Γ : eG) (h : Nat) (a : Nat → Nat) (hi : Bool) (lm : Nat) (rm : Nat) (pc : Nat) (bi : Int32) (sd : Int32) (lt : Nat → Int32) (rf : Nat → Int32) (c : Int32) (hl : lm ≤ 96) : cD l Γ yX7_letter cX7_letter 2 (some .int) 1 [.ref h, .int c] [mo h a hi lm rm pc bi sd, eI Γ (a 4) 96 lt, eI Γ (a 6) 7 rf] (some (.int (chE (eLetter lm c) (nI (lm + 1)) (eLetter lm c)))) [mo h a hi (chE (eLetter lm c) (lm + 1) lm) rm pc bi sd, eI Γ (a 4) 96 (chE (eLetter lm c) (upd lt lm c) lt), eI Γ (a 6) 7 (chE (eLetter lm c) rf (nof rf (eLetter lm c)))] := by
  refine e_int [(0, .ref h), (1, .int c)] (by decide +kernel) (Nat.le_of_ble_eq_true rfl) rfl (fun V K hR => ?_)
  refine r_iload_n K dX7_letter_0 1 rfl ?_
  refine r_if_ge K dX7_letter_1 (fun c1 => ?_) (fun c1 => ?_)
  · have c1x := Int32.not_lt.mpr c1
    refine r_iload_n K dX7_letter_11 1 rfl ?_
    refine r_sipush K dX7_letter_12 (nI 255) (by decide) ?_
    refine r_ic_gt K dX7_letter_15 (fun c15 => ?_) (fun c15 => ?_)
    · have hz : nI 255 < c ∨ lm = 96 := Or.inl c15
      refine r_aload_n K dX7_letter_27 0 rfl ?_
      refine r_bipush K dX7_letter_28 ((-6)) (by decide) ?_
      refine r_cVd K dX7_letter_30 (c_X7_no l Γ h a hi lm rm pc bi sd rf (-6) (okR_6)) mX7_no q813 rfl (by decide) rfl rfl 3 rfl [0, 2] [1] rfl rfl [eI Γ (a 4) 96 lt] rfl [mo h a hi lm rm pc bi sd, eI Γ (a 4) 96 lt, eI Γ (a 6) 7 (nof rf (-6))] rfl rfl rfl [] rfl (Nat.le_of_ble_eq_true rfl) ?_
      have he : eLetter lm c = (-6) := by
        unfold eLetter
        rw [if_neg c1x, if_pos hz]
      refine r_arr K (f2 := chE (eLetter lm c) rf (nof rf (eLetter lm c))) (ws1 := [mo h a hi lm rm pc bi sd, eI Γ (a 4) 96 lt, eI Γ (a 6) 7 (chE (eLetter lm c) rf (nof rf (eLetter lm c)))]) 2 rfl (fun _ _ => by rw [ch_n (g := nof rf) he (by decide)]) rfl ?_
      refine r_arr K (f2 := chE (eLetter lm c) (upd lt lm c) lt) (ws1 := [mo h a hi lm rm pc bi sd, eI Γ (a 4) 96 (chE (eLetter lm c) (upd lt lm c) lt), eI Γ (a 6) 7 (chE (eLetter lm c) rf (nof rf (eLetter lm c)))]) 1 rfl (fun _ _ => by rw [chE_n (a := upd lt lm c) (b := lt) (by rw [he]; exact (by decide))]) rfl ?_
      refine r_ws K (ws1 := [mo h a hi (chE (eLetter lm c) (lm + 1) lm) rm pc bi sd, eI Γ (a 4) 96 (chE (eLetter lm c) (upd lt lm c) lt), eI Γ (a 6) 7 (chE (eLetter lm c) rf (nof rf (eLetter lm c)))]) (by rw [chE_n (a := lm + 1) (b := lm) (by rw [he]; exact (by decide))]; exact weq.rf) ?_
      exact hR () dX7_letter_33 (trivial) (e_ri (ex_n he (by decide))) (weq.rf)
    · refine r_aload_n K dX7_letter_18 0 rfl ?_
      refine r_get K dX7_letter_19 (kf := 8) 0 rfl rfl hinX7 (by decide) q765 rfl rfl ?_
      refine r_bipush K dX7_letter_22 (nI 96) (by decide) ?_
      refine r_ic_neN K dX7_letter_24 (by omega) (by omega) (fun c24 => ?_) (fun c24 => ?_)
      · have hz : ¬ (nI 255 < c ∨ lm = 96) := fun z => z.elim c15 c24
        refine r_aload_n K dX7_letter_34 0 rfl ?_
        refine r_get K dX7_letter_35 (kf := 5) 0 rfl rfl hinX7 (by decide) q762 rfl rfl ?_
        refine r_aload_n K dX7_letter_38 0 rfl ?_
        refine r_get K dX7_letter_39 (kf := 8) 0 rfl rfl hinX7 (by decide) q765 rfl rfl ?_
        refine r_iload_n K dX7_letter_42 1 rfl ?_
        refine r_astN K dX7_letter_43 (ws1 := [mo h a hi lm rm pc bi sd, eI Γ (a 4) 96 (upd lt lm c), eI Γ (a 6) 7 rf]) 1 rfl (by first | omega | exact iG_lt (by omega) (by decide) | exact iM_lt (by omega) (by decide)) (by decide) rfl ?_
        refine r_aload_n K dX7_letter_44 0 rfl ?_
        refine r_dup K dX7_letter_45 rfl ?_
        refine r_get K dX7_letter_46 (kf := 8) 0 rfl rfl hinX7 (by decide) q765 rfl rfl ?_
        refine r_iconst K dX7_letter_49 (nI 1) (by decide) ?_
        refine r_iaddN K dX7_letter_50 ?_
        refine r_put K dX7_letter_51 (kf := 8) (ty := .int) (ws1 := [mo h a hi (lm + 1) rm pc bi sd, eI Γ (a 4) 96 (upd lt lm c), eI Γ (a 6) 7 rf]) 0 rfl rfl hinX7 tyX7 tyX7_ok nmX7 (by decide) q765 rfl (by decide +kernel) rfl rfl (Nat.le_of_ble_eq_true rfl) rfl ?_
        refine r_aload_n K dX7_letter_54 0 rfl ?_
        refine r_get K dX7_letter_55 (kf := 8) 0 rfl rfl hinX7 (by decide) q765 rfl rfl ?_
        have he : eLetter lm c = 0 := by
          unfold eLetter
          rw [if_neg c1x, if_neg hz]
        refine r_arr K (f2 := chE (eLetter lm c) rf (nof rf (eLetter lm c))) (ws1 := [mo h a hi (lm + 1) rm pc bi sd, eI Γ (a 4) 96 (upd lt lm c), eI Γ (a 6) 7 (chE (eLetter lm c) rf (nof rf (eLetter lm c)))]) 2 rfl (fun _ _ => by rw [chE_0 he]) rfl ?_
        refine r_arr K (f2 := chE (eLetter lm c) (upd lt lm c) lt) (ws1 := [mo h a hi (lm + 1) rm pc bi sd, eI Γ (a 4) 96 (chE (eLetter lm c) (upd lt lm c) lt), eI Γ (a 6) 7 (chE (eLetter lm c) rf (nof rf (eLetter lm c)))]) 1 rfl (fun _ _ => by rw [chE_0 (a := upd lt lm c) (b := lt) he]) rfl ?_
        refine r_ws K (ws1 := [mo h a hi (chE (eLetter lm c) (lm + 1) lm) rm pc bi sd, eI Γ (a 4) 96 (chE (eLetter lm c) (upd lt lm c) lt), eI Γ (a 6) 7 (chE (eLetter lm c) rf (nof rf (eLetter lm c)))]) (by rw [chE_0 (a := lm + 1) (b := lm) he]; exact weq.rf) ?_
        exact hR () dX7_letter_58 (trivial) (e_ri (ex_0 he (rfl))) (weq.rf)
      · have hz : nI 255 < c ∨ lm = 96 := Or.inr c24
        refine r_aload_n K dX7_letter_27 0 rfl ?_
        refine r_bipush K dX7_letter_28 ((-6)) (by decide) ?_
        refine r_cVd K dX7_letter_30 (c_X7_no l Γ h a hi lm rm pc bi sd rf (-6) (okR_6)) mX7_no q813 rfl (by decide) rfl rfl 3 rfl [0, 2] [1] rfl rfl [eI Γ (a 4) 96 lt] rfl [mo h a hi lm rm pc bi sd, eI Γ (a 4) 96 lt, eI Γ (a 6) 7 (nof rf (-6))] rfl rfl rfl [] rfl (Nat.le_of_ble_eq_true rfl) ?_
        have he : eLetter lm c = (-6) := by
          unfold eLetter
          rw [if_neg c1x, if_pos hz]
        refine r_arr K (f2 := chE (eLetter lm c) rf (nof rf (eLetter lm c))) (ws1 := [mo h a hi lm rm pc bi sd, eI Γ (a 4) 96 lt, eI Γ (a 6) 7 (chE (eLetter lm c) rf (nof rf (eLetter lm c)))]) 2 rfl (fun _ _ => by rw [ch_n (g := nof rf) he (by decide)]) rfl ?_
        refine r_arr K (f2 := chE (eLetter lm c) (upd lt lm c) lt) (ws1 := [mo h a hi lm rm pc bi sd, eI Γ (a 4) 96 (chE (eLetter lm c) (upd lt lm c) lt), eI Γ (a 6) 7 (chE (eLetter lm c) rf (nof rf (eLetter lm c)))]) 1 rfl (fun _ _ => by rw [chE_n (a := upd lt lm c) (b := lt) (by rw [he]; exact (by decide))]) rfl ?_
        refine r_ws K (ws1 := [mo h a hi (chE (eLetter lm c) (lm + 1) lm) rm pc bi sd, eI Γ (a 4) 96 (chE (eLetter lm c) (upd lt lm c) lt), eI Γ (a 6) 7 (chE (eLetter lm c) rf (nof rf (eLetter lm c)))]) (by rw [chE_n (a := lm + 1) (b := lm) (by rw [he]; exact (by decide))]; exact weq.rf) ?_
        exact hR () dX7_letter_33 (trivial) (e_ri (ex_n he (by decide))) (weq.rf)
  · refine r_aload_n K dX7_letter_4 0 rfl ?_
    refine r_bipush K dX7_letter_5 ((-4)) (by decide) ?_
    refine r_cVd K dX7_letter_7 (c_X7_no l Γ h a hi lm rm pc bi sd rf (-4) (okR_4)) mX7_no q813 rfl (by decide) rfl rfl 3 rfl [0, 2] [1] rfl rfl [eI Γ (a 4) 96 lt] rfl [mo h a hi lm rm pc bi sd, eI Γ (a 4) 96 lt, eI Γ (a 6) 7 (nof rf (-4))] rfl rfl rfl [] rfl (Nat.le_of_ble_eq_true rfl) ?_
    have he : eLetter lm c = (-4) := by
      unfold eLetter
      rw [if_pos (Int32.not_le.mp c1)]
    refine r_arr K (f2 := chE (eLetter lm c) rf (nof rf (eLetter lm c))) (ws1 := [mo h a hi lm rm pc bi sd, eI Γ (a 4) 96 lt, eI Γ (a 6) 7 (chE (eLetter lm c) rf (nof rf (eLetter lm c)))]) 2 rfl (fun _ _ => by rw [ch_n (g := nof rf) he (by decide)]) rfl ?_
    refine r_arr K (f2 := chE (eLetter lm c) (upd lt lm c) lt) (ws1 := [mo h a hi lm rm pc bi sd, eI Γ (a 4) 96 (chE (eLetter lm c) (upd lt lm c) lt), eI Γ (a 6) 7 (chE (eLetter lm c) rf (nof rf (eLetter lm c)))]) 1 rfl (fun _ _ => by rw [chE_n (a := upd lt lm c) (b := lt) (by rw [he]; exact (by decide))]) rfl ?_
    refine r_ws K (ws1 := [mo h a hi (chE (eLetter lm c) (lm + 1) lm) rm pc bi sd, eI Γ (a 4) 96 (chE (eLetter lm c) (upd lt lm c) lt), eI Γ (a 6) 7 (chE (eLetter lm c) rf (nof rf (eLetter lm c)))]) (by rw [chE_n (a := lm + 1) (b := lm) (by rw [he]; exact (by decide))]; exact weq.rf) ?_
    exact hR () dX7_letter_10 (trivial) (e_ri (ex_n he (by decide))) (weq.rf)
set_option maxHeartbeats 1000000 in
set_option maxRecDepth 20000 in
theorem c_X7_weepingAt (l : Launch) (Γ : eG) (h : Nat) (a : Nat → Nat) (hi : Bool) (lm : Nat) (rm : Nat) (pc : Nat) (bi : Int32) (sd : Int32) (r : Nat → Int32) (x : Int32) (hI : Inv r) (hx : ¬ x = -9) : cD l Γ yX7_weepingAt cX7_weepingAt 4 (some .int) 2 [.ref h, .int x] [mo h a hi lm rm pc bi sd, eI Γ (a 0) 42 r] (some (.int (wat r x))) [mo h a hi lm rm pc bi sd, eI Γ (a 0) 42 r] := by
  refine e_int [(0, .ref h), (1, .int x)] (by decide +kernel) (Nat.le_of_ble_eq_true rfl) rfl (fun V K hR => ?_)
  have h5 := hI.g
  have h6 := hI.m
  refine r_iconst K dX7_weepingAt_0 (nI 0) (by decide) ?_
  refine r_istore_n K dX7_weepingAt_1 rfl (by decide) (lv1 := [(2, .int (nI 0)), (0, .ref h), (1, .int x)]) rfl ?_
  refine r_iconst K dX7_weepingAt_2 (nI 0) (by decide) ?_
  refine r_istore_n K dX7_weepingAt_3 rfl (by decide) (lv1 := [(3, .int (nI 0)), (2, .int (nI 0)), (0, .ref h), (1, .int x)]) rfl ?_
  have L4 : ∀ (fL4 : Nat) (i : Nat) (v : Int32), (i ≤ nM r) → (v = sumTo (fun p => if r (iM p 3) = x then weepS r p else nI 0) i) → nM r - i < fL4 → V 4 [(3, .int (nI i)), (2, .int v), (0, .ref h), (1, .int x)] [] [mo h a hi lm rm pc bi sd, eI Γ (a 0) 42 r] := by
    intro fL4
    induction fL4 with
    | zero => intro i v hi_ hv hf; exact absurd hf (Nat.not_lt_zero _)
    | succ fL4 ih_L4 =>
      intro i v hi_ hv hfL4
      refine r_iload_n K dX7_weepingAt_4 0 rfl ?_
      refine r_aload_n K dX7_weepingAt_5 2 rfl ?_
      refine r_get K dX7_weepingAt_6 (kf := 0) 0 rfl rfl hinX7 (by decide) q757 rfl rfl ?_
      refine r_iconst K dX7_weepingAt_9 (nI 1) (by decide) ?_
      refine r_aldN K dX7_weepingAt_10 1 rfl (by first | omega | exact iG_lt (by omega) (by decide) | exact iM_lt (by omega) (by decide)) (by decide) ?_
      refine r_top (y := nI (nM r)) (hI.r1) ?_
      refine r_ic_geN K dX7_weepingAt_11 (by omega) (by omega) (fun c11 => ?_) (fun c11 => ?_)
      · obtain rfl : i = nM r := by omega
        refine r_iload_n K dX7_weepingAt_49 1 rfl ?_
        exact hR () dX7_weepingAt_50 (trivial) (e_ri ((wat_cut hI hx).trans hv.symm)) (weq.rf)
      · refine r_iload_n K dX7_weepingAt_14 1 rfl ?_
        refine r_aload_n K dX7_weepingAt_15 2 rfl ?_
        refine r_get K dX7_weepingAt_16 (kf := 0) 0 rfl rfl hinX7 (by decide) q757 rfl rfl ?_
        refine r_iload_n K dX7_weepingAt_19 0 rfl ?_
        refine r_iconst K dX7_weepingAt_20 (nI 3) (by decide) ?_
        refine r_cSd K dX7_weepingAt_21 (c_X7_ofM l Γ i 3) mX7_ofM q853 rfl (by decide) 2 rfl [] [0, 1] rfl rfl [mo h a hi lm rm pc bi sd, eI Γ (a 0) 42 r] rfl [mo h a hi lm rm pc bi sd, eI Γ (a 0) 42 r] rfl rfl rfl [.ref (a 0), .int v] rfl (Nat.le_of_ble_eq_true rfl) ?_
        refine r_aldN K dX7_weepingAt_24 1 rfl (by first | omega | exact iG_lt (by omega) (by decide) | exact iM_lt (by omega) (by decide)) (by decide) ?_
        refine r_iload_n K dX7_weepingAt_25 3 rfl ?_
        refine r_ic_ne K dX7_weepingAt_26 (fun c26 => ?_) (fun c26 => ?_)
        · refine r_iconst K dX7_weepingAt_40 (nI 0) (by decide) ?_
          refine r_iadd K dX7_weepingAt_41 ?_
          refine r_istore_n K dX7_weepingAt_42 rfl (by decide) (lv1 := [(2, .int (v + (nI 0))), (3, .int (nI i)), (0, .ref h), (1, .int x)]) rfl ?_
          refine r_iincN K dX7_weepingAt_43 (n := 1) 1 rfl rfl (by decide) (lv1 := [(3, .int (nI (i + 1))), (2, .int (v + (nI 0))), (0, .ref h), (1, .int x)]) rfl ?_
          refine r_goto K dX7_weepingAt_46 ?_
          exact ih_L4 (i + 1) (v + (nI 0)) (by omega) (by rw [hv]; show _ = sumTo (fun p => if r (iM p 3) = x then weepS r p else nI 0) i + (if r (iM i 3) = x then _ else _); rw [if_neg c26]) (by omega)
        · refine r_aload_n K dX7_weepingAt_29 2 rfl ?_
          refine r_get K dX7_weepingAt_30 (kf := 0) 0 rfl rfl hinX7 (by decide) q757 rfl rfl ?_
          refine r_iload_n K dX7_weepingAt_33 0 rfl ?_
          refine r_cSd K dX7_weepingAt_34 (c_X7_weeps l Γ (a 0) r i (by first | assumption | omega)) mX7_weeps q879 rfl (by decide) 2 rfl [1] [0] rfl rfl [mo h a hi lm rm pc bi sd] rfl [mo h a hi lm rm pc bi sd, eI Γ (a 0) 42 r] rfl rfl rfl [.int v] rfl (Nat.le_of_ble_eq_true rfl) ?_
          refine r_goto K dX7_weepingAt_37 ?_
          refine r_iadd K dX7_weepingAt_41 ?_
          refine r_istore_n K dX7_weepingAt_42 rfl (by decide) (lv1 := [(2, .int (v + (weepS r i))), (3, .int (nI i)), (0, .ref h), (1, .int x)]) rfl ?_
          refine r_iincN K dX7_weepingAt_43 (n := 1) 1 rfl rfl (by decide) (lv1 := [(3, .int (nI (i + 1))), (2, .int (v + (weepS r i))), (0, .ref h), (1, .int x)]) rfl ?_
          refine r_goto K dX7_weepingAt_46 ?_
          exact ih_L4 (i + 1) (v + (weepS r i)) (by omega) (by rw [hv]; show _ = sumTo (fun p => if r (iM p 3) = x then weepS r p else nI 0) i + (if r (iM i 3) = x then _ else _); rw [if_pos c26]) (by omega)
  exact L4 _ 0 (nI 0) (Nat.zero_le _) (rfl) (Nat.lt_succ_self _)
set_option maxHeartbeats 1000000 in
set_option maxRecDepth 20000 in
theorem c_X7_peopleAt (l : Launch) (Γ : eG) (h : Nat) (a : Nat → Nat) (hi : Bool) (lm : Nat) (rm : Nat) (pc : Nat) (bi : Int32) (sd : Int32) (r : Nat → Int32) (x : Int32) (hI : Inv r) (hx : ¬ x = -9) : cD l Γ yX7_peopleAt cX7_peopleAt 4 (some .int) 1 [.ref h, .int x] [mo h a hi lm rm pc bi sd, eI Γ (a 0) 42 r] (some (.int (ppl r x))) [mo h a hi lm rm pc bi sd, eI Γ (a 0) 42 r] := by
  refine e_int [(0, .ref h), (1, .int x)] (by decide +kernel) (Nat.le_of_ble_eq_true rfl) rfl (fun V K hR => ?_)
  have h5 := hI.g
  have h6 := hI.m
  refine r_iconst K dX7_peopleAt_0 (nI 0) (by decide) ?_
  refine r_istore_n K dX7_peopleAt_1 rfl (by decide) (lv1 := [(2, .int (nI 0)), (0, .ref h), (1, .int x)]) rfl ?_
  refine r_iconst K dX7_peopleAt_2 (nI 0) (by decide) ?_
  refine r_istore_n K dX7_peopleAt_3 rfl (by decide) (lv1 := [(3, .int (nI 0)), (2, .int (nI 0)), (0, .ref h), (1, .int x)]) rfl ?_
  have L4 : ∀ (fL4 : Nat) (i : Nat) (v : Int32), (i ≤ nM r) → (v = sumTo (fun p => if r (iM p 3) = x then nI 1 else nI 0) i) → nM r - i < fL4 → V 4 [(3, .int (nI i)), (2, .int v), (0, .ref h), (1, .int x)] [] [mo h a hi lm rm pc bi sd, eI Γ (a 0) 42 r] := by
    intro fL4
    induction fL4 with
    | zero => intro i v hi_ hv hf; exact absurd hf (Nat.not_lt_zero _)
    | succ fL4 ih_L4 =>
      intro i v hi_ hv hfL4
      refine r_iload_n K dX7_peopleAt_4 0 rfl ?_
      refine r_aload_n K dX7_peopleAt_5 2 rfl ?_
      refine r_get K dX7_peopleAt_6 (kf := 0) 0 rfl rfl hinX7 (by decide) q757 rfl rfl ?_
      refine r_iconst K dX7_peopleAt_9 (nI 1) (by decide) ?_
      refine r_aldN K dX7_peopleAt_10 1 rfl (by first | omega | exact iG_lt (by omega) (by decide) | exact iM_lt (by omega) (by decide)) (by decide) ?_
      refine r_top (y := nI (nM r)) (hI.r1) ?_
      refine r_ic_geN K dX7_peopleAt_11 (by omega) (by omega) (fun c11 => ?_) (fun c11 => ?_)
      · obtain rfl : i = nM r := by omega
        refine r_iload_n K dX7_peopleAt_42 1 rfl ?_
        exact hR () dX7_peopleAt_43 (trivial) (e_ri ((ppl_cut hI hx).trans hv.symm)) (weq.rf)
      · refine r_iload_n K dX7_peopleAt_14 1 rfl ?_
        refine r_aload_n K dX7_peopleAt_15 2 rfl ?_
        refine r_get K dX7_peopleAt_16 (kf := 0) 0 rfl rfl hinX7 (by decide) q757 rfl rfl ?_
        refine r_iload_n K dX7_peopleAt_19 0 rfl ?_
        refine r_iconst K dX7_peopleAt_20 (nI 3) (by decide) ?_
        refine r_cSd K dX7_peopleAt_21 (c_X7_ofM l Γ i 3) mX7_ofM q853 rfl (by decide) 2 rfl [] [0, 1] rfl rfl [mo h a hi lm rm pc bi sd, eI Γ (a 0) 42 r] rfl [mo h a hi lm rm pc bi sd, eI Γ (a 0) 42 r] rfl rfl rfl [.ref (a 0), .int v] rfl (Nat.le_of_ble_eq_true rfl) ?_
        refine r_aldN K dX7_peopleAt_24 1 rfl (by first | omega | exact iG_lt (by omega) (by decide) | exact iM_lt (by omega) (by decide)) (by decide) ?_
        refine r_iload_n K dX7_peopleAt_25 3 rfl ?_
        refine r_ic_ne K dX7_peopleAt_26 (fun c26 => ?_) (fun c26 => ?_)
        · refine r_iconst K dX7_peopleAt_33 (nI 0) (by decide) ?_
          refine r_iadd K dX7_peopleAt_34 ?_
          refine r_istore_n K dX7_peopleAt_35 rfl (by decide) (lv1 := [(2, .int (v + (nI 0))), (3, .int (nI i)), (0, .ref h), (1, .int x)]) rfl ?_
          refine r_iincN K dX7_peopleAt_36 (n := 1) 1 rfl rfl (by decide) (lv1 := [(3, .int (nI (i + 1))), (2, .int (v + (nI 0))), (0, .ref h), (1, .int x)]) rfl ?_
          refine r_goto K dX7_peopleAt_39 ?_
          exact ih_L4 (i + 1) (v + (nI 0)) (by omega) (by rw [hv]; show _ = sumTo (fun p => if r (iM p 3) = x then nI 1 else nI 0) i + (if r (iM i 3) = x then _ else _); rw [if_neg c26]) (by omega)
        · refine r_iconst K dX7_peopleAt_29 (nI 1) (by decide) ?_
          refine r_goto K dX7_peopleAt_30 ?_
          refine r_iadd K dX7_peopleAt_34 ?_
          refine r_istore_n K dX7_peopleAt_35 rfl (by decide) (lv1 := [(2, .int (v + (nI 1))), (3, .int (nI i)), (0, .ref h), (1, .int x)]) rfl ?_
          refine r_iincN K dX7_peopleAt_36 (n := 1) 1 rfl rfl (by decide) (lv1 := [(3, .int (nI (i + 1))), (2, .int (v + (nI 1))), (0, .ref h), (1, .int x)]) rfl ?_
          refine r_goto K dX7_peopleAt_39 ?_
          exact ih_L4 (i + 1) (v + (nI 1)) (by omega) (by rw [hv]; show _ = sumTo (fun p => if r (iM p 3) = x then nI 1 else nI 0) i + (if r (iM i 3) = x then _ else _); rw [if_pos c26]) (by omega)
  exact L4 _ 0 (nI 0) (Nat.zero_le _) (rfl) (Nat.lt_succ_self _)
set_option maxHeartbeats 1000000 in
set_option maxRecDepth 20000 in
theorem c_X7_daysTo (l : Launch) (Γ : eG) (h : Nat) (a : Nat → Nat) (hi : Bool) (lm : Nat) (rm : Nat) (pc : Nat) (bi : Int32) (sd : Int32) (r : Nat → Int32) (q : Nat → Int32) (g : Nat) (hI : Inv r) (hg : g < nG r) : cE l Γ yX7_daysTo cX7_daysTo 5 (some .int) 2 [.ref h, .int (nI g)] [mo h a hi lm rm pc bi sd, eI Γ (a 0) 42 r, eI Γ (a 1) 42 q] (S := Nat → Int32) (fun u => True) (fun u => (some (.int (dtfR r g)))) (fun u => [mo h a hi lm rm pc bi sd, eI Γ (a 0) 42 r, eI Γ (a 1) 42 u]) := by
  refine e_int [(0, .ref h), (1, .int (nI g))] (by decide +kernel) (Nat.le_of_ble_eq_true rfl) rfl (fun V K hR => ?_)
  have h5 := hI.g
  have h6 := hI.m
  refine r_aload_n K dX7_daysTo_0 0 rfl ?_
  refine r_get K dX7_daysTo_1 (kf := 0) 0 rfl rfl hinX7 (by decide) q757 rfl rfl ?_
  refine r_iload_n K dX7_daysTo_4 1 rfl ?_
  refine r_iconst K dX7_daysTo_5 (nI 1) (by decide) ?_
  refine r_cSd K dX7_daysTo_6 (c_X7_ofG l Γ g 1) mX7_ofG q850 rfl (by decide) 3 rfl [] [0, 1, 2] rfl rfl [mo h a hi lm rm pc bi sd, eI Γ (a 0) 42 r, eI Γ (a 1) 42 q] rfl [mo h a hi lm rm pc bi sd, eI Γ (a 0) 42 r, eI Γ (a 1) 42 q] rfl rfl rfl [.ref (a 0)] rfl (Nat.le_of_ble_eq_true rfl) ?_
  refine r_aldN K dX7_daysTo_9 1 rfl (by first | omega | exact iG_lt (by omega) (by decide) | exact iM_lt (by omega) (by decide)) (by decide) ?_
  refine r_bipush K dX7_daysTo_10 (nI 12) (by decide) ?_
  refine r_idiv K dX7_daysTo_12 (by decide) ?_
  refine r_iconst K dX7_daysTo_13 (nI 1) (by decide) ?_
  refine r_iadd K dX7_daysTo_14 ?_
  refine r_bipush K dX7_daysTo_15 (nI 12) (by decide) ?_
  refine r_imul K dX7_daysTo_17 ?_
  refine r_istore_n K dX7_daysTo_18 rfl (by decide) (lv1 := [(2, .int ((((r (iG g 1)) / (nI 12)) + (nI 1)) * (nI 12))), (0, .ref h), (1, .int (nI g))]) rfl ?_
  refine r_iload_n K dX7_daysTo_19 0 rfl ?_
  refine r_sipush K dX7_daysTo_20 (nI 999) (by decide) ?_
  refine r_ic_gt K dX7_daysTo_23 (fun c23 => ?_) (fun c23 => ?_)
  · refine r_bipush K dX7_daysTo_34 ((-9)) (by decide) ?_
    exact hR q dX7_daysTo_36 (trivial) (e_ri (dtfR_9 (Or.inl c23))) (weq.rf)
  · refine r_aload_n K dX7_daysTo_26 1 rfl ?_
    refine r_iload_n K dX7_daysTo_27 2 rfl ?_
    refine r_cVd K dX7_daysTo_28 (c_X7_peopleAt l Γ h a hi lm rm pc bi sd r (nI g) (hI) (nI_n9 (by omega))) mX7_peopleAt q900 rfl (by decide) rfl rfl 3 rfl [0, 1] [2] rfl rfl [eI Γ (a 1) 42 q] rfl [mo h a hi lm rm pc bi sd, eI Γ (a 0) 42 r, eI Γ (a 1) 42 q] rfl rfl rfl [] rfl (Nat.le_of_ble_eq_true rfl) ?_
    refine r_if_ne K dX7_daysTo_31 (fun c31 => ?_) (fun c31 => ?_)
    · refine r_aload_n K dX7_daysTo_37 1 rfl ?_
      refine r_get K dX7_daysTo_38 (kf := 0) 0 rfl rfl hinX7 (by decide) q757 rfl rfl ?_
      refine r_aload_n K dX7_daysTo_41 1 rfl ?_
      refine r_get K dX7_daysTo_42 (kf := 1) 0 rfl rfl hinX7 (by decide) q758 rfl rfl ?_
      refine r_cSn K dX7_daysTo_45 (c_X7_copies l Γ (a 0) (a 1) r q) mX7_copies q843 rfl (by decide) 3 rfl [1, 2] [0] rfl rfl [mo h a hi lm rm pc bi sd] rfl [mo h a hi lm rm pc bi sd, eI Γ (a 0) 42 r, eI Γ (a 1) 42 r] rfl rfl rfl [] rfl (Nat.le_of_ble_eq_true rfl) ?_
      refine r_iconst K dX7_daysTo_48 (nI 1) (by decide) ?_
      refine r_istore_n K dX7_daysTo_49 rfl (by decide) (lv1 := [(3, .int (nI 1)), (2, .int ((((r (iG g 1)) / (nI 12)) + (nI 1)) * (nI 12))), (0, .ref h), (1, .int (nI g))]) rfl ?_
      have L50 : ∀ (fL50 : Nat) (f : Nat) (n : Nat) (q : Nat → Int32), (f + n = 100) → (1 ≤ n) → (q = dtD r g (n - 1)) → (dtfR r g = dtL r g f n) → f < fL50 → V 50 [(3, .int (nI n)), (2, .int (dtW r g)), (0, .ref h), (1, .int (nI g))] [] [mo h a hi lm rm pc bi sd, eI Γ (a 0) 42 r, eI Γ (a 1) 42 q] := by
        intro fL50
        induction fL50 with
        | zero => intro f n q hfn hn1 hq hE hf; exact absurd hf (Nat.not_lt_zero _)
        | succ fL50 ih_L50 =>
          intro f n q hfn hn1 hq hE hfL50
          refine r_iload_n K dX7_daysTo_50 0 rfl ?_
          refine r_bipush K dX7_daysTo_51 (nI 99) (by decide) ?_
          refine r_ic_gtN K dX7_daysTo_53 (by omega) (by omega) (fun c53 => ?_) (fun c53 => ?_)
          · obtain rfl : f = 0 := by omega
            refine r_bipush K dX7_daysTo_130 ((-9)) (by decide) ?_
            exact hR q dX7_daysTo_132 (trivial) (e_ri (hE)) (weq.rf)
          · obtain ⟨f, rfl⟩ : ∃ z, f = z + 1 := ⟨f - 1, by omega⟩
            refine r_iconst K dX7_daysTo_56 (nI 0) (by decide) ?_
            refine r_istore K dX7_daysTo_57 (by decide) (lv1 := [(4, .int (nI 0)), (3, .int (nI n)), (2, .int (dtW r g)), (0, .ref h), (1, .int (nI g))]) rfl ?_
            have L59 : ∀ (fL59 : Nat) (p : Nat), (p ≤ nM r) → nM r - p < fL59 → V 59 [(4, .int (nI p)), (3, .int (nI n)), (2, .int (dtW r g)), (0, .ref h), (1, .int (nI g))] [] [mo h a hi lm rm pc bi sd, eI Γ (a 0) 42 r, eI Γ (a 1) 42 (dtP r g q p)] := by
              intro fL59
              induction fL59 with
              | zero => intro p hp hf; exact absurd hf (Nat.not_lt_zero _)
              | succ fL59 ih_L59 =>
                intro p hp hfL59
                refine r_iload K dX7_daysTo_59 0 rfl ?_
                refine r_aload_n K dX7_daysTo_61 3 rfl ?_
                refine r_get K dX7_daysTo_62 (kf := 0) 0 rfl rfl hinX7 (by decide) q757 rfl rfl ?_
                refine r_iconst K dX7_daysTo_65 (nI 1) (by decide) ?_
                refine r_aldN K dX7_daysTo_66 1 rfl (by first | omega | exact iG_lt (by omega) (by decide) | exact iM_lt (by omega) (by decide)) (by decide) ?_
                refine r_top (y := nI (nM r)) (hI.r1) ?_
                refine r_ic_geN K dX7_daysTo_67 (by omega) (by omega) (fun c67 => ?_) (fun c67 => ?_)
                · obtain rfl : p = nM r := by omega
                  refine r_arr K (f2 := dtD r g n) (ws1 := [mo h a hi lm rm pc bi sd, eI Γ (a 0) 42 r, eI Γ (a 1) 42 (dtD r g n)]) 2 rfl (fun _ _ => by rw [hq]; exact congrFun (dtD_s hn1) _) rfl ?_
                  refine r_aload_n K dX7_daysTo_108 3 rfl ?_
                  refine r_get K dX7_daysTo_109 (kf := 1) 0 rfl rfl hinX7 (by decide) q758 rfl rfl ?_
                  refine r_iload_n K dX7_daysTo_112 4 rfl ?_
                  refine r_iconst K dX7_daysTo_113 (nI 1) (by decide) ?_
                  refine r_cSd K dX7_daysTo_114 (c_X7_ofG l Γ g 1) mX7_ofG q850 rfl (by decide) 3 rfl [] [0, 1, 2] rfl rfl [mo h a hi lm rm pc bi sd, eI Γ (a 0) 42 r, eI Γ (a 1) 42 (dtD r g n)] rfl [mo h a hi lm rm pc bi sd, eI Γ (a 0) 42 r, eI Γ (a 1) 42 (dtD r g n)] rfl rfl rfl [.ref (a 1)] rfl (Nat.le_of_ble_eq_true rfl) ?_
                  refine r_aldN K dX7_daysTo_117 2 rfl (by first | omega | exact iG_lt (by omega) (by decide) | exact iM_lt (by omega) (by decide)) (by decide) ?_
                  refine r_iload_n K dX7_daysTo_118 2 rfl ?_
                  refine r_ic_lt K dX7_daysTo_119 (fun c119 => ?_) (fun c119 => ?_)
                  · refine r_iincN K dX7_daysTo_124 (n := 1) 1 rfl rfl (by decide) (lv1 := [(3, .int (nI (n + 1))), (4, .int (nI (nM r))), (2, .int (dtW r g)), (0, .ref h), (1, .int (nI g))]) rfl ?_
                    refine r_goto K dX7_daysTo_127 ?_
                    refine r_lv K [0, 2, 3, 4] rfl ?_
                    exact ih_L50 f (n + 1) (dtD r g n) (by omega) (by omega) (rfl) (hE.trans (dtL_n (Int32.not_le.mpr c119))) (by omega)
                  · refine r_iload_n K dX7_daysTo_122 1 rfl ?_
                    exact hR (dtD r g n) dX7_daysTo_123 (trivial) (e_ri (hE.trans (dtL_t (Int32.not_lt.mp c119)))) (weq.rf)
                · refine r_aload_n K dX7_daysTo_70 3 rfl ?_
                  refine r_get K dX7_daysTo_71 (kf := 0) 0 rfl rfl hinX7 (by decide) q757 rfl rfl ?_
                  refine r_iload K dX7_daysTo_74 0 rfl ?_
                  refine r_iconst K dX7_daysTo_76 (nI 3) (by decide) ?_
                  refine r_cSd K dX7_daysTo_77 (c_X7_ofM l Γ p 3) mX7_ofM q853 rfl (by decide) 3 rfl [] [0, 1, 2] rfl rfl [mo h a hi lm rm pc bi sd, eI Γ (a 0) 42 r, eI Γ (a 1) 42 (dtP r g q p)] rfl [mo h a hi lm rm pc bi sd, eI Γ (a 0) 42 r, eI Γ (a 1) 42 (dtP r g q p)] rfl rfl rfl [.ref (a 0)] rfl (Nat.le_of_ble_eq_true rfl) ?_
                  refine r_aldN K dX7_daysTo_80 1 rfl (by first | omega | exact iG_lt (by omega) (by decide) | exact iM_lt (by omega) (by decide)) (by decide) ?_
                  refine r_iload_n K dX7_daysTo_81 4 rfl ?_
                  refine r_ic_ne K dX7_daysTo_82 (fun c82 => ?_) (fun c82 => ?_)
                  · refine r_iincN K dX7_daysTo_102 (n := 1) 0 rfl rfl (by decide) (lv1 := [(4, .int (nI (p + 1))), (3, .int (nI n)), (2, .int (dtW r g)), (0, .ref h), (1, .int (nI g))]) rfl ?_
                    refine r_goto K dX7_daysTo_105 ?_
                    refine r_arr K (f2 := dtP r g q (p + 1)) (ws1 := [mo h a hi lm rm pc bi sd, eI Γ (a 0) 42 r, eI Γ (a 1) 42 (dtP r g q (p + 1))]) 2 rfl (fun _ _ => by rw [dtP_n c82]) rfl ?_
                    exact ih_L59 (p + 1) (by omega) (by omega)
                  · refine r_aload_n K dX7_daysTo_85 3 rfl ?_
                    refine r_get K dX7_daysTo_86 (kf := 1) 0 rfl rfl hinX7 (by decide) q758 rfl rfl ?_
                    refine r_iload_n K dX7_daysTo_89 4 rfl ?_
                    refine r_aload_n K dX7_daysTo_90 3 rfl ?_
                    refine r_get K dX7_daysTo_91 (kf := 0) 0 rfl rfl hinX7 (by decide) q757 rfl rfl ?_
                    refine r_iload K dX7_daysTo_94 0 rfl ?_
                    refine r_cSd K dX7_daysTo_96 (c_X7_weeps l Γ (a 0) r p (by first | assumption | omega)) mX7_weeps q879 rfl (by decide) 3 rfl [1] [0, 2] rfl rfl [mo h a hi lm rm pc bi sd, eI Γ (a 1) 42 (dtP r g q p)] rfl [mo h a hi lm rm pc bi sd, eI Γ (a 0) 42 r, eI Γ (a 1) 42 (dtP r g q p)] rfl rfl rfl [.int (nI g), .ref (a 1)] rfl (Nat.le_of_ble_eq_true rfl) ?_
                    refine r_cSn K dX7_daysTo_99 (c_X7_soaks l Γ (a 1) (dtP r g q p) g (weepS r p) (by first | assumption | omega) (by rw [dtP_h, hq, dtD_h]; exact hI.gH (by omega))) mX7_soaks q882 rfl (by decide) 3 rfl [2] [0, 1] rfl rfl [mo h a hi lm rm pc bi sd, eI Γ (a 0) 42 r] rfl [mo h a hi lm rm pc bi sd, eI Γ (a 0) 42 r, eI Γ (a 1) 42 (soakS (dtP r g q p) g (weepS r p))] rfl rfl rfl [] rfl (Nat.le_of_ble_eq_true rfl) ?_
                    refine r_iincN K dX7_daysTo_102 (n := 1) 0 rfl rfl (by decide) (lv1 := [(4, .int (nI (p + 1))), (3, .int (nI n)), (2, .int (dtW r g)), (0, .ref h), (1, .int (nI g))]) rfl ?_
                    refine r_goto K dX7_daysTo_105 ?_
                    refine r_arr K (f2 := dtP r g q (p + 1)) (ws1 := [mo h a hi lm rm pc bi sd, eI Γ (a 0) 42 r, eI Γ (a 1) 42 (dtP r g q (p + 1))]) 2 rfl (fun _ _ => by rw [dtP_t c82]) rfl ?_
                    exact ih_L59 (p + 1) (by omega) (by omega)
            refine r_arr K (f2 := dtP r g q 0) (ws1 := [mo h a hi lm rm pc bi sd, eI Γ (a 0) 42 r, eI Γ (a 1) 42 (dtP r g q 0)]) 2 rfl (fun _ _ => rfl) rfl ?_
            exact L59 _ 0 (Nat.zero_le _) (Nat.lt_succ_self _)
      -- local 2: .int ((((r (iG g 1)) / (nI 12)) + (nI 1)) * (nI 12)) as .int (dtW r g)
      exact L50 _ 99 1 r (rfl) (Nat.le_refl _) (rfl) ((dtfR_n c23 c31)) (Nat.lt_succ_self _)
    · refine r_bipush K dX7_daysTo_34 ((-9)) (by decide) ?_
      exact hR q dX7_daysTo_36 (trivial) (e_ri (dtfR_9 (Or.inr c31))) (weq.rf)
