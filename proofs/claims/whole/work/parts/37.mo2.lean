/-! THE REFERENCE: its calls -/
set_option maxHeartbeats 1000000 in
set_option maxRecDepth 20000 in
theorem c_X7_grave (l : Launch) (Γ : eG) (h : Nat) (a : Nat → Nat) (hi : Bool) (lm : Nat) (rm : Nat) (pc : Nat) (bi : Int32) (sd : Int32) (r : Nat → Int32) (q : Nat → Int32) (rf : Nat → Int32) (x : Int32) (w : Int32) (hI : Inv r) : cE l Γ yX7_grave cX7_grave 3 (some .int) 3 [.ref h, .int x, .int w] [mo h a hi lm rm pc bi sd, eI Γ (a 0) 42 r, eI Γ (a 1) 42 q, eI Γ (a 6) 7 rf] (S := Nat → Int32) (fun u => True) (fun u => (some (.int (chE (eGrave r x w) (aGrave r x w) (eGrave r x w))))) (fun u => [mo h a hi lm rm pc bi sd, eI Γ (a 0) 42 r, eI Γ (a 1) 42 u, eI Γ (a 6) 7 (chE (eGrave r x w) rf (nof rf (eGrave r x w)))]) := by
  refine e_int [(0, .ref h), (1, .int x), (2, .int w)] (by decide +kernel) (Nat.le_of_ble_eq_true rfl) rfl (fun V K hR => ?_)
  have h5 := hI.g
  have h6 := hI.m
  refine r_aload_n K dX7_grave_0 0 rfl ?_
  refine r_iload_n K dX7_grave_1 1 rfl ?_
  refine r_cVd K dX7_grave_2 (c_X7_isGrave l Γ h a hi lm rm pc bi sd r x (hI)) mX7_isGrave q860 rfl (by decide) rfl rfl 4 rfl [0, 1] [2, 3] rfl rfl [eI Γ (a 1) 42 q, eI Γ (a 6) 7 rf] rfl [mo h a hi lm rm pc bi sd, eI Γ (a 0) 42 r, eI Γ (a 1) 42 q, eI Γ (a 6) 7 rf] rfl rfl rfl [] rfl (Nat.le_of_ble_eq_true rfl) ?_
  refine r_ifneB K dX7_grave_5 (fun c5 => ?_) (fun c5 => ?_)
  · have hx := inN_e c5 (by omega)
    have lx := ix_lt c5 (by omega)
    refine r_lc (lv1 := [(0, .ref h), (1, .int (nI (ix x))), (2, .int w)]) (congrArg (fun zz : Int32 => ([(0, .ref h), (1, .int zz), (2, .int w)] : List (Nat × Value))) (hx)) ?_
    refine r_iload_n K dX7_grave_14 2 rfl ?_
    refine r_tsw K dX7_grave_15.1 [52, 52, 52, 63, 77, 83] 89 (by decide) (by decide) (by decide) ⟨fun c15 => ?_, fun c15 => ?_, fun c15 => ?_, fun c15 => ?_, fun c15 => ?_, fun c15 => ?_, trivial⟩ (fun c15 => ?_)
    · have c15 : w = nI 0 := c15
      have hb : isInB w (nI 0) (nI 5) = true := by rw [c15]; rfl
      refine r_lc (lv1 := [(0, .ref h), (1, .int (nI (ix x))), (2, .int (nI 0))]) (congrArg (fun zz : Int32 => ([(0, .ref h), (1, .int (nI (ix x))), (2, .int zz)] : List (Nat × Value))) (c15)) ?_
      refine r_aload_n K dX7_grave_52 0 rfl ?_
      refine r_get K dX7_grave_53 (kf := 0) 0 rfl rfl hinX7 (by decide) q757 rfl rfl ?_
      refine r_iload_n K dX7_grave_56 1 rfl ?_
      refine r_iload_n K dX7_grave_57 2 rfl ?_
      refine r_cSd K dX7_grave_58 (c_X7_ofG l Γ (ix x) 0) mX7_ofG q850 rfl (by decide) 4 rfl [] [0, 1, 2, 3] rfl rfl [mo h a hi lm rm pc bi sd, eI Γ (a 0) 42 r, eI Γ (a 1) 42 q, eI Γ (a 6) 7 rf] rfl [mo h a hi lm rm pc bi sd, eI Γ (a 0) 42 r, eI Γ (a 1) 42 q, eI Γ (a 6) 7 rf] rfl rfl rfl [.ref (a 0)] rfl (Nat.le_of_ble_eq_true rfl) ?_
      refine r_aldN K dX7_grave_61 1 rfl (by first | omega | exact iG_lt (by omega) (by decide) | exact iM_lt (by omega) (by decide)) (by decide) ?_
      have he : eGrave r x w = 0 := by
        unfold eGrave
        rw [if_neg (not_not_intro c5), if_neg (not_not_intro hb)]
      refine r_arr K (f2 := chE (eGrave r x w) rf (nof rf (eGrave r x w))) (ws1 := [mo h a hi lm rm pc bi sd, eI Γ (a 0) 42 r, eI Γ (a 1) 42 q, eI Γ (a 6) 7 (chE (eGrave r x w) rf (nof rf (eGrave r x w)))]) 3 rfl (fun _ _ => by rw [chE_0 he]) rfl ?_
      exact hR q dX7_grave_62 (trivial) (e_ri (ex_0 he (by rw [c15]; rfl))) (weq.rf)
    · have c15 : w = nI 1 := c15
      have hb : isInB w (nI 0) (nI 5) = true := by rw [c15]; rfl
      refine r_lc (lv1 := [(0, .ref h), (1, .int (nI (ix x))), (2, .int (nI 1))]) (congrArg (fun zz : Int32 => ([(0, .ref h), (1, .int (nI (ix x))), (2, .int zz)] : List (Nat × Value))) (c15)) ?_
      refine r_aload_n K dX7_grave_52 0 rfl ?_
      refine r_get K dX7_grave_53 (kf := 0) 0 rfl rfl hinX7 (by decide) q757 rfl rfl ?_
      refine r_iload_n K dX7_grave_56 1 rfl ?_
      refine r_iload_n K dX7_grave_57 2 rfl ?_
      refine r_cSd K dX7_grave_58 (c_X7_ofG l Γ (ix x) 1) mX7_ofG q850 rfl (by decide) 4 rfl [] [0, 1, 2, 3] rfl rfl [mo h a hi lm rm pc bi sd, eI Γ (a 0) 42 r, eI Γ (a 1) 42 q, eI Γ (a 6) 7 rf] rfl [mo h a hi lm rm pc bi sd, eI Γ (a 0) 42 r, eI Γ (a 1) 42 q, eI Γ (a 6) 7 rf] rfl rfl rfl [.ref (a 0)] rfl (Nat.le_of_ble_eq_true rfl) ?_
      refine r_aldN K dX7_grave_61 1 rfl (by first | omega | exact iG_lt (by omega) (by decide) | exact iM_lt (by omega) (by decide)) (by decide) ?_
      have he : eGrave r x w = 0 := by
        unfold eGrave
        rw [if_neg (not_not_intro c5), if_neg (not_not_intro hb)]
      refine r_arr K (f2 := chE (eGrave r x w) rf (nof rf (eGrave r x w))) (ws1 := [mo h a hi lm rm pc bi sd, eI Γ (a 0) 42 r, eI Γ (a 1) 42 q, eI Γ (a 6) 7 (chE (eGrave r x w) rf (nof rf (eGrave r x w)))]) 3 rfl (fun _ _ => by rw [chE_0 he]) rfl ?_
      exact hR q dX7_grave_62 (trivial) (e_ri (ex_0 he (by rw [c15]; rfl))) (weq.rf)
    · have c15 : w = nI 2 := c15
      have hb : isInB w (nI 0) (nI 5) = true := by rw [c15]; rfl
      refine r_lc (lv1 := [(0, .ref h), (1, .int (nI (ix x))), (2, .int (nI 2))]) (congrArg (fun zz : Int32 => ([(0, .ref h), (1, .int (nI (ix x))), (2, .int zz)] : List (Nat × Value))) (c15)) ?_
      refine r_aload_n K dX7_grave_52 0 rfl ?_
      refine r_get K dX7_grave_53 (kf := 0) 0 rfl rfl hinX7 (by decide) q757 rfl rfl ?_
      refine r_iload_n K dX7_grave_56 1 rfl ?_
      refine r_iload_n K dX7_grave_57 2 rfl ?_
      refine r_cSd K dX7_grave_58 (c_X7_ofG l Γ (ix x) 2) mX7_ofG q850 rfl (by decide) 4 rfl [] [0, 1, 2, 3] rfl rfl [mo h a hi lm rm pc bi sd, eI Γ (a 0) 42 r, eI Γ (a 1) 42 q, eI Γ (a 6) 7 rf] rfl [mo h a hi lm rm pc bi sd, eI Γ (a 0) 42 r, eI Γ (a 1) 42 q, eI Γ (a 6) 7 rf] rfl rfl rfl [.ref (a 0)] rfl (Nat.le_of_ble_eq_true rfl) ?_
      refine r_aldN K dX7_grave_61 1 rfl (by first | omega | exact iG_lt (by omega) (by decide) | exact iM_lt (by omega) (by decide)) (by decide) ?_
      have he : eGrave r x w = 0 := by
        unfold eGrave
        rw [if_neg (not_not_intro c5), if_neg (not_not_intro hb)]
      refine r_arr K (f2 := chE (eGrave r x w) rf (nof rf (eGrave r x w))) (ws1 := [mo h a hi lm rm pc bi sd, eI Γ (a 0) 42 r, eI Γ (a 1) 42 q, eI Γ (a 6) 7 (chE (eGrave r x w) rf (nof rf (eGrave r x w)))]) 3 rfl (fun _ _ => by rw [chE_0 he]) rfl ?_
      exact hR q dX7_grave_62 (trivial) (e_ri (ex_0 he (by rw [c15]; rfl))) (weq.rf)
    · have c15 : w = nI 3 := c15
      have hb : isInB w (nI 0) (nI 5) = true := by rw [c15]; rfl
      refine r_aload_n K dX7_grave_63 0 rfl ?_
      refine r_get K dX7_grave_64 (kf := 0) 0 rfl rfl hinX7 (by decide) q757 rfl rfl ?_
      refine r_iload_n K dX7_grave_67 1 rfl ?_
      refine r_iconst K dX7_grave_68 (nI 1) (by decide) ?_
      refine r_cSd K dX7_grave_69 (c_X7_ofG l Γ (ix x) 1) mX7_ofG q850 rfl (by decide) 4 rfl [] [0, 1, 2, 3] rfl rfl [mo h a hi lm rm pc bi sd, eI Γ (a 0) 42 r, eI Γ (a 1) 42 q, eI Γ (a 6) 7 rf] rfl [mo h a hi lm rm pc bi sd, eI Γ (a 0) 42 r, eI Γ (a 1) 42 q, eI Γ (a 6) 7 rf] rfl rfl rfl [.ref (a 0)] rfl (Nat.le_of_ble_eq_true rfl) ?_
      refine r_aldN K dX7_grave_72 1 rfl (by first | omega | exact iG_lt (by omega) (by decide) | exact iM_lt (by omega) (by decide)) (by decide) ?_
      refine r_bipush K dX7_grave_73 (nI 12) (by decide) ?_
      refine r_idiv K dX7_grave_75 (by decide) ?_
      have he : eGrave r x w = 0 := by
        unfold eGrave
        rw [if_neg (not_not_intro c5), if_neg (not_not_intro hb)]
      refine r_arr K (f2 := chE (eGrave r x w) rf (nof rf (eGrave r x w))) (ws1 := [mo h a hi lm rm pc bi sd, eI Γ (a 0) 42 r, eI Γ (a 1) 42 q, eI Γ (a 6) 7 (chE (eGrave r x w) rf (nof rf (eGrave r x w)))]) 3 rfl (fun _ _ => by rw [chE_0 he]) rfl ?_
      exact hR q dX7_grave_76 (trivial) (e_ri (ex_0 he (by rw [c15]; rfl))) (weq.rf)
    · have c15 : w = nI 4 := c15
      have hb : isInB w (nI 0) (nI 5) = true := by rw [c15]; rfl
      refine r_aload_n K dX7_grave_77 0 rfl ?_
      refine r_iload_n K dX7_grave_78 1 rfl ?_
      refine r_cVd K dX7_grave_79 (c_X7_weepingAt l Γ h a hi lm rm pc bi sd r (nI (ix x)) (hI) (nI_n9 (by omega))) mX7_weepingAt q892 rfl (by decide) rfl rfl 4 rfl [0, 1] [2, 3] rfl rfl [eI Γ (a 1) 42 q, eI Γ (a 6) 7 rf] rfl [mo h a hi lm rm pc bi sd, eI Γ (a 0) 42 r, eI Γ (a 1) 42 q, eI Γ (a 6) 7 rf] rfl rfl rfl [] rfl (Nat.le_of_ble_eq_true rfl) ?_
      have he : eGrave r x w = 0 := by
        unfold eGrave
        rw [if_neg (not_not_intro c5), if_neg (not_not_intro hb)]
      refine r_arr K (f2 := chE (eGrave r x w) rf (nof rf (eGrave r x w))) (ws1 := [mo h a hi lm rm pc bi sd, eI Γ (a 0) 42 r, eI Γ (a 1) 42 q, eI Γ (a 6) 7 (chE (eGrave r x w) rf (nof rf (eGrave r x w)))]) 3 rfl (fun _ _ => by rw [chE_0 he]) rfl ?_
      exact hR q dX7_grave_82 (trivial) (e_ri (ex_0 he (by rw [c15, ← hx]; rfl))) (weq.rf)
    · have c15 : w = nI 5 := c15
      have hb : isInB w (nI 0) (nI 5) = true := by rw [c15]; rfl
      refine r_aload_n K dX7_grave_83 0 rfl ?_
      refine r_iload_n K dX7_grave_84 1 rfl ?_
      refine r_cV K dX7_grave_85 (c_X7_daysTo l Γ h a hi lm rm pc bi sd r q (ix x) (hI) (by first | omega | (simp only [daysS_nM, daysS_nG, dayS_nM, dayS_nG, tellS_nM, tellS_nG, aloneTo_nM, aloneTo_nG, nM_M, nG_M, nM_G, nG_G, lv_nM, lv_nG, gnT_nM, gnT_nG] <;> omega))) mX7_daysTo q896 rfl (by decide) rfl rfl 4 rfl [0, 1, 2] [3] rfl rfl [eI Γ (a 6) 7 rf] rfl (fun u => [mo h a hi lm rm pc bi sd, eI Γ (a 0) 42 r, eI Γ (a 1) 42 u, eI Γ (a 6) 7 rf]) (fun _ => rfl) (fun _ => rfl) (fun _ => rfl) [] rfl (Nat.le_of_ble_eq_true rfl) (fun u1 hu2 => ?_)
      show V 88 _ [.int (dtfR r (ix x))] [mo h a hi lm rm pc bi sd, eI Γ (a 0) 42 r, eI Γ (a 1) 42 u1, eI Γ (a 6) 7 rf]
      have he : eGrave r x w = 0 := by
        unfold eGrave
        rw [if_neg (not_not_intro c5), if_neg (not_not_intro hb)]
      refine r_arr K (f2 := chE (eGrave r x w) rf (nof rf (eGrave r x w))) (ws1 := [mo h a hi lm rm pc bi sd, eI Γ (a 0) 42 r, eI Γ (a 1) 42 u1, eI Γ (a 6) 7 (chE (eGrave r x w) rf (nof rf (eGrave r x w)))]) 3 rfl (fun _ _ => by rw [chE_0 he]) rfl ?_
      exact hR u1 dX7_grave_88 (trivial) (e_ri (ex_0 he (by rw [c15]; exact (dtf_eq hI lx).symm))) (weq.rf)
    · have c15 : ∀ v : Nat, 0 ≤ v → v ≤ 5 → v < 2 ^ 31 → ¬ w = nI v := tsw_out c15
      have hb : isInB w (nI 0) (nI 5) = false := isInB_out (by decide) (by decide) c15
      refine r_aload_n K dX7_grave_89 0 rfl ?_
      refine r_bipush K dX7_grave_90 ((-2)) (by decide) ?_
      refine r_cVd K dX7_grave_92 (c_X7_no l Γ h a hi lm rm pc bi sd rf (-2) (okR_2)) mX7_no q813 rfl (by decide) rfl rfl 4 rfl [0, 3] [1, 2] rfl rfl [eI Γ (a 0) 42 r, eI Γ (a 1) 42 q] rfl [mo h a hi lm rm pc bi sd, eI Γ (a 0) 42 r, eI Γ (a 1) 42 q, eI Γ (a 6) 7 (nof rf (-2))] rfl rfl rfl [] rfl (Nat.le_of_ble_eq_true rfl) ?_
      have he : eGrave r x w = (-2) := by
        unfold eGrave
        rw [if_neg (not_not_intro c5), if_pos (nt hb)]
      refine r_arr K (f2 := chE (eGrave r x w) rf (nof rf (eGrave r x w))) (ws1 := [mo h a hi lm rm pc bi sd, eI Γ (a 0) 42 r, eI Γ (a 1) 42 q, eI Γ (a 6) 7 (chE (eGrave r x w) rf (nof rf (eGrave r x w)))]) 3 rfl (fun _ _ => by rw [ch_n (g := nof rf) he (by decide)]) rfl ?_
      exact hR q dX7_grave_95 (trivial) (e_ri (ex_n he (by decide))) (weq.rf)
  · refine r_aload_n K dX7_grave_8 0 rfl ?_
    refine r_iconst K dX7_grave_9 ((-1)) (by decide) ?_
    refine r_cVd K dX7_grave_10 (c_X7_no l Γ h a hi lm rm pc bi sd rf (-1) (okR_1)) mX7_no q813 rfl (by decide) rfl rfl 4 rfl [0, 3] [1, 2] rfl rfl [eI Γ (a 0) 42 r, eI Γ (a 1) 42 q] rfl [mo h a hi lm rm pc bi sd, eI Γ (a 0) 42 r, eI Γ (a 1) 42 q, eI Γ (a 6) 7 (nof rf (-1))] rfl rfl rfl [] rfl (Nat.le_of_ble_eq_true rfl) ?_
    have he : eGrave r x w = (-1) := by
      unfold eGrave
      rw [if_pos (nt c5)]
    refine r_arr K (f2 := chE (eGrave r x w) rf (nof rf (eGrave r x w))) (ws1 := [mo h a hi lm rm pc bi sd, eI Γ (a 0) 42 r, eI Γ (a 1) 42 q, eI Γ (a 6) 7 (chE (eGrave r x w) rf (nof rf (eGrave r x w)))]) 3 rfl (fun _ _ => by rw [ch_n (g := nof rf) he (by decide)]) rfl ?_
    exact hR q dX7_grave_13 (trivial) (e_ri (ex_n he (by decide))) (weq.rf)
set_option maxHeartbeats 1000000 in
set_option maxRecDepth 20000 in
theorem c_X7_mourner (l : Launch) (Γ : eG) (h : Nat) (a : Nat → Nat) (hi : Bool) (lm : Nat) (rm : Nat) (pc : Nat) (bi : Int32) (sd : Int32) (r : Nat → Int32) (rf : Nat → Int32) (x : Int32) (w : Int32) (hI : Inv r) : cD l Γ yX7_mourner cX7_mourner 3 (some .int) 2 [.ref h, .int x, .int w] [mo h a hi lm rm pc bi sd, eI Γ (a 0) 42 r, eI Γ (a 6) 7 rf] (some (.int (chE (eMourner r x w) (aMourner r x w) (eMourner r x w)))) [mo h a hi lm rm pc bi sd, eI Γ (a 0) 42 r, eI Γ (a 6) 7 (chE (eMourner r x w) rf (nof rf (eMourner r x w)))] := by
  refine e_int [(0, .ref h), (1, .int x), (2, .int w)] (by decide +kernel) (Nat.le_of_ble_eq_true rfl) rfl (fun V K hR => ?_)
  have h5 := hI.g
  have h6 := hI.m
  refine r_aload_n K dX7_mourner_0 0 rfl ?_
  refine r_iload_n K dX7_mourner_1 1 rfl ?_
  refine r_cVd K dX7_mourner_2 (c_X7_isMourner l Γ h a hi lm rm pc bi sd r x (hI)) mX7_isMourner q856 rfl (by decide) rfl rfl 3 rfl [0, 1] [2] rfl rfl [eI Γ (a 6) 7 rf] rfl [mo h a hi lm rm pc bi sd, eI Γ (a 0) 42 r, eI Γ (a 6) 7 rf] rfl rfl rfl [] rfl (Nat.le_of_ble_eq_true rfl) ?_
  refine r_ifneB K dX7_mourner_5 (fun c5 => ?_) (fun c5 => ?_)
  · have hx := inN_e c5 (by omega)
    have lx := ix_lt c5 (by omega)
    refine r_lc (lv1 := [(0, .ref h), (1, .int (nI (ix x))), (2, .int w)]) (congrArg (fun zz : Int32 => ([(0, .ref h), (1, .int zz), (2, .int w)] : List (Nat × Value))) (hx)) ?_
    refine r_iload_n K dX7_mourner_14 2 rfl ?_
    refine r_iconst K dX7_mourner_15 (nI 0) (by decide) ?_
    refine r_iconst K dX7_mourner_16 (nI 3) (by decide) ?_
    refine r_cSd K dX7_mourner_17 (c_X7_isIn l Γ w (nI 0) (nI 3)) mX7_isIn q833 rfl (by decide) 3 rfl [] [0, 1, 2] rfl rfl [mo h a hi lm rm pc bi sd, eI Γ (a 0) 42 r, eI Γ (a 6) 7 rf] rfl [mo h a hi lm rm pc bi sd, eI Γ (a 0) 42 r, eI Γ (a 6) 7 rf] rfl rfl rfl [] rfl (Nat.le_of_ble_eq_true rfl) ?_
    refine r_ifeqB K dX7_mourner_20 (fun c20 => ?_) (fun c20 => ?_)
    · refine r_iload_n K dX7_mourner_34 2 rfl ?_
      refine r_iconst K dX7_mourner_35 (nI 4) (by decide) ?_
      refine r_ic_ne K dX7_mourner_36 (fun c36 => ?_) (fun c36 => ?_)
      · refine r_aload_n K dX7_mourner_50 0 rfl ?_
        refine r_bipush K dX7_mourner_51 ((-2)) (by decide) ?_
        refine r_cVd K dX7_mourner_53 (c_X7_no l Γ h a hi lm rm pc bi sd rf (-2) (okR_2)) mX7_no q813 rfl (by decide) rfl rfl 3 rfl [0, 2] [1] rfl rfl [eI Γ (a 0) 42 r] rfl [mo h a hi lm rm pc bi sd, eI Γ (a 0) 42 r, eI Γ (a 6) 7 (nof rf (-2))] rfl rfl rfl [] rfl (Nat.le_of_ble_eq_true rfl) ?_
        have he : eMourner r x w = (-2) := by
          unfold eMourner
          rw [if_neg (not_not_intro c5), if_pos (nt (isInB_43 c20 c36))]
        refine r_arr K (f2 := chE (eMourner r x w) rf (nof rf (eMourner r x w))) (ws1 := [mo h a hi lm rm pc bi sd, eI Γ (a 0) 42 r, eI Γ (a 6) 7 (chE (eMourner r x w) rf (nof rf (eMourner r x w)))]) 2 rfl (fun _ _ => by rw [ch_n (g := nof rf) he (by decide)]) rfl ?_
        exact hR () dX7_mourner_56 (trivial) (e_ri (ex_n he (by decide))) (weq.rf)
      · have hb : isInB w (nI 0) (nI 4) = true := by rw [c36]; rfl
        refine r_aload_n K dX7_mourner_39 0 rfl ?_
        refine r_get K dX7_mourner_40 (kf := 0) 0 rfl rfl hinX7 (by decide) q757 rfl rfl ?_
        refine r_iload_n K dX7_mourner_43 1 rfl ?_
        refine r_cSd K dX7_mourner_44 (c_X7_weeps l Γ (a 0) r (ix x) (by first | assumption | omega)) mX7_weeps q879 rfl (by decide) 3 rfl [1] [0, 2] rfl rfl [mo h a hi lm rm pc bi sd, eI Γ (a 6) 7 rf] rfl [mo h a hi lm rm pc bi sd, eI Γ (a 0) 42 r, eI Γ (a 6) 7 rf] rfl rfl rfl [] rfl (Nat.le_of_ble_eq_true rfl) ?_
        refine r_goto K dX7_mourner_47 ?_
        have he : eMourner r x w = 0 := by
          unfold eMourner
          rw [if_neg (not_not_intro c5), if_neg (not_not_intro hb)]
        refine r_arr K (f2 := chE (eMourner r x w) rf (nof rf (eMourner r x w))) (ws1 := [mo h a hi lm rm pc bi sd, eI Γ (a 0) 42 r, eI Γ (a 6) 7 (chE (eMourner r x w) rf (nof rf (eMourner r x w)))]) 2 rfl (fun _ _ => by rw [chE_0 he]) rfl ?_
        exact hR () dX7_mourner_56 (trivial) (e_ri (ex_0 he (if_pos c36))) (weq.rf)
    · have hw := isInB_ok (lo := 0) (hi := 3) (by decide) (by decide) c20
      have lw := hw.2
      have hb : isInB w (nI 0) (nI 4) = true := isInB_w c20 (by decide) (by decide)
      refine r_lc (lv1 := [(0, .ref h), (1, .int (nI (ix x))), (2, .int (nI (ix w)))]) (congrArg (fun zz : Int32 => ([(0, .ref h), (1, .int (nI (ix x))), (2, .int zz)] : List (Nat × Value))) (hw.1)) ?_
      refine r_aload_n K dX7_mourner_23 0 rfl ?_
      refine r_get K dX7_mourner_24 (kf := 0) 0 rfl rfl hinX7 (by decide) q757 rfl rfl ?_
      refine r_iload_n K dX7_mourner_27 1 rfl ?_
      refine r_iload_n K dX7_mourner_28 2 rfl ?_
      refine r_cSd K dX7_mourner_29 (c_X7_ofM l Γ (ix x) (ix w)) mX7_ofM q853 rfl (by decide) 3 rfl [] [0, 1, 2] rfl rfl [mo h a hi lm rm pc bi sd, eI Γ (a 0) 42 r, eI Γ (a 6) 7 rf] rfl [mo h a hi lm rm pc bi sd, eI Γ (a 0) 42 r, eI Γ (a 6) 7 rf] rfl rfl rfl [.ref (a 0)] rfl (Nat.le_of_ble_eq_true rfl) ?_
      refine r_aldN K dX7_mourner_32 1 rfl (iM_lt (by omega) (by omega)) (by decide) ?_
      have he : eMourner r x w = 0 := by
        unfold eMourner
        rw [if_neg (not_not_intro c5), if_neg (not_not_intro hb)]
      refine r_arr K (f2 := chE (eMourner r x w) rf (nof rf (eMourner r x w))) (ws1 := [mo h a hi lm rm pc bi sd, eI Γ (a 0) 42 r, eI Γ (a 6) 7 (chE (eMourner r x w) rf (nof rf (eMourner r x w)))]) 2 rfl (fun _ _ => by rw [chE_0 he]) rfl ?_
      exact hR () dX7_mourner_33 (trivial) (e_ri (ex_0 he (if_neg (ne_ix (by omega) (by decide))))) (weq.rf)
  · refine r_aload_n K dX7_mourner_8 0 rfl ?_
    refine r_iconst K dX7_mourner_9 ((-1)) (by decide) ?_
    refine r_cVd K dX7_mourner_10 (c_X7_no l Γ h a hi lm rm pc bi sd rf (-1) (okR_1)) mX7_no q813 rfl (by decide) rfl rfl 3 rfl [0, 2] [1] rfl rfl [eI Γ (a 0) 42 r] rfl [mo h a hi lm rm pc bi sd, eI Γ (a 0) 42 r, eI Γ (a 6) 7 (nof rf (-1))] rfl rfl rfl [] rfl (Nat.le_of_ble_eq_true rfl) ?_
    have he : eMourner r x w = (-1) := by
      unfold eMourner
      rw [if_pos (nt c5)]
    refine r_arr K (f2 := chE (eMourner r x w) rf (nof rf (eMourner r x w))) (ws1 := [mo h a hi lm rm pc bi sd, eI Γ (a 0) 42 r, eI Γ (a 6) 7 (chE (eMourner r x w) rf (nof rf (eMourner r x w)))]) 2 rfl (fun _ _ => by rw [ch_n (g := nof rf) he (by decide)]) rfl ?_
    exact hR () dX7_mourner_13 (trivial) (e_ri (ex_n he (by decide))) (weq.rf)
set_option maxHeartbeats 1000000 in
set_option maxRecDepth 20000 in
theorem c_X7_goes (l : Launch) (Γ : eG) (h : Nat) (a : Nat → Nat) (hi : Bool) (lm : Nat) (rm : Nat) (pc : Nat) (bi : Int32) (sd : Int32) (r : Nat → Int32) (rf : Nat → Int32) (x : Int32) (y : Int32) (hI : Inv r) : cD l Γ yX7_goes cX7_goes 4 (some .int) 2 [.ref h, .int x, .int y] [mo h a hi lm rm pc bi sd, eI Γ (a 0) 42 r, eI Γ (a 6) 7 rf] (some (.int (chE (eGoes r x y) (r (iM (ix x) 3)) (eGoes r x y)))) [mo h a hi lm rm pc bi sd, eI Γ (a 0) 42 (chE (eGoes r x y) (upd r (iM (ix x) 3) y) r), eI Γ (a 6) 7 (chE (eGoes r x y) rf (nof rf (eGoes r x y)))] := by
  refine e_int [(0, .ref h), (1, .int x), (2, .int y)] (by decide +kernel) (Nat.le_of_ble_eq_true rfl) rfl (fun V K hR => ?_)
  have h5 := hI.g
  have h6 := hI.m
  refine r_aload_n K dX7_goes_0 0 rfl ?_
  refine r_iload_n K dX7_goes_1 1 rfl ?_
  refine r_cVd K dX7_goes_2 (c_X7_isMourner l Γ h a hi lm rm pc bi sd r x (hI)) mX7_isMourner q856 rfl (by decide) rfl rfl 3 rfl [0, 1] [2] rfl rfl [eI Γ (a 6) 7 rf] rfl [mo h a hi lm rm pc bi sd, eI Γ (a 0) 42 r, eI Γ (a 6) 7 rf] rfl rfl rfl [] rfl (Nat.le_of_ble_eq_true rfl) ?_
  refine r_ifeqB K dX7_goes_5 (fun c5 => ?_) (fun c5 => ?_)
  · refine r_aload_n K dX7_goes_16 0 rfl ?_
    refine r_iconst K dX7_goes_17 ((-1)) (by decide) ?_
    refine r_cVd K dX7_goes_18 (c_X7_no l Γ h a hi lm rm pc bi sd rf (-1) (okR_1)) mX7_no q813 rfl (by decide) rfl rfl 3 rfl [0, 2] [1] rfl rfl [eI Γ (a 0) 42 r] rfl [mo h a hi lm rm pc bi sd, eI Γ (a 0) 42 r, eI Γ (a 6) 7 (nof rf (-1))] rfl rfl rfl [] rfl (Nat.le_of_ble_eq_true rfl) ?_
    have he : eGoes r x y = (-1) := by
      unfold eGoes
      rw [if_pos (nt c5)]
    refine r_arr K (f2 := chE (eGoes r x y) rf (nof rf (eGoes r x y))) (ws1 := [mo h a hi lm rm pc bi sd, eI Γ (a 0) 42 r, eI Γ (a 6) 7 (chE (eGoes r x y) rf (nof rf (eGoes r x y)))]) 2 rfl (fun _ _ => by rw [ch_n (g := nof rf) he (by decide)]) rfl ?_
    refine r_arr K (f2 := chE (eGoes r x y) (upd r (iM (ix x) 3) y) r) (ws1 := [mo h a hi lm rm pc bi sd, eI Γ (a 0) 42 (chE (eGoes r x y) (upd r (iM (ix x) 3) y) r), eI Γ (a 6) 7 (chE (eGoes r x y) rf (nof rf (eGoes r x y)))]) 1 rfl (fun _ _ => by rw [chE_n (a := upd r (iM (ix x) 3) y) (b := r) (by rw [he]; exact (by decide))]) rfl ?_
    exact hR () dX7_goes_21 (trivial) (e_ri (ex_n he (by decide))) (weq.rf)
  · have hx := inN_e c5 (by omega)
    have lx := ix_lt c5 (by omega)
    refine r_lc (lv1 := [(0, .ref h), (1, .int (nI (ix x))), (2, .int y)]) (congrArg (fun zz : Int32 => ([(0, .ref h), (1, .int zz), (2, .int y)] : List (Nat × Value))) (hx)) ?_
    refine r_aload_n K dX7_goes_8 0 rfl ?_
    refine r_iload_n K dX7_goes_9 2 rfl ?_
    refine r_cVd K dX7_goes_10 (c_X7_isGrave l Γ h a hi lm rm pc bi sd r y (hI)) mX7_isGrave q860 rfl (by decide) rfl rfl 3 rfl [0, 1] [2] rfl rfl [eI Γ (a 6) 7 rf] rfl [mo h a hi lm rm pc bi sd, eI Γ (a 0) 42 r, eI Γ (a 6) 7 rf] rfl rfl rfl [] rfl (Nat.le_of_ble_eq_true rfl) ?_
    refine r_ifneB K dX7_goes_13 (fun c13 => ?_) (fun c13 => ?_)
    · have hy := inN_e c13 (by omega)
      have ly := ix_lt c13 (by omega)
      refine r_aload_n K dX7_goes_22 0 rfl ?_
      refine r_get K dX7_goes_23 (kf := 0) 0 rfl rfl hinX7 (by decide) q757 rfl rfl ?_
      refine r_iload_n K dX7_goes_26 1 rfl ?_
      refine r_iconst K dX7_goes_27 (nI 3) (by decide) ?_
      refine r_cSd K dX7_goes_28 (c_X7_ofM l Γ (ix x) 3) mX7_ofM q853 rfl (by decide) 3 rfl [] [0, 1, 2] rfl rfl [mo h a hi lm rm pc bi sd, eI Γ (a 0) 42 r, eI Γ (a 6) 7 rf] rfl [mo h a hi lm rm pc bi sd, eI Γ (a 0) 42 r, eI Γ (a 6) 7 rf] rfl rfl rfl [.ref (a 0)] rfl (Nat.le_of_ble_eq_true rfl) ?_
      refine r_aldN K dX7_goes_31 1 rfl (by first | omega | exact iG_lt (by omega) (by decide) | exact iM_lt (by omega) (by decide)) (by decide) ?_
      refine r_istore_n K dX7_goes_32 rfl (by decide) (lv1 := [(3, .int (r (iM (ix x) 3))), (0, .ref h), (1, .int (nI (ix x))), (2, .int y)]) rfl ?_
      refine r_aload_n K dX7_goes_33 1 rfl ?_
      refine r_get K dX7_goes_34 (kf := 0) 0 rfl rfl hinX7 (by decide) q757 rfl rfl ?_
      refine r_iload_n K dX7_goes_37 2 rfl ?_
      refine r_iconst K dX7_goes_38 (nI 3) (by decide) ?_
      refine r_cSd K dX7_goes_39 (c_X7_ofM l Γ (ix x) 3) mX7_ofM q853 rfl (by decide) 3 rfl [] [0, 1, 2] rfl rfl [mo h a hi lm rm pc bi sd, eI Γ (a 0) 42 r, eI Γ (a 6) 7 rf] rfl [mo h a hi lm rm pc bi sd, eI Γ (a 0) 42 r, eI Γ (a 6) 7 rf] rfl rfl rfl [.ref (a 0)] rfl (Nat.le_of_ble_eq_true rfl) ?_
      refine r_iload_n K dX7_goes_42 3 rfl ?_
      refine r_astN K dX7_goes_43 (ws1 := [mo h a hi lm rm pc bi sd, eI Γ (a 0) 42 (upd r (iM (ix x) 3) y), eI Γ (a 6) 7 rf]) 1 rfl (by first | omega | exact iG_lt (by omega) (by decide) | exact iM_lt (by omega) (by decide)) (by decide) rfl ?_
      refine r_iload_n K dX7_goes_44 0 rfl ?_
      have he : eGoes r x y = 0 := by
        unfold eGoes
        rw [if_neg (not_not_intro c5), if_neg (not_not_intro c13)]
      refine r_arr K (f2 := chE (eGoes r x y) rf (nof rf (eGoes r x y))) (ws1 := [mo h a hi lm rm pc bi sd, eI Γ (a 0) 42 (upd r (iM (ix x) 3) y), eI Γ (a 6) 7 (chE (eGoes r x y) rf (nof rf (eGoes r x y)))]) 2 rfl (fun _ _ => by rw [chE_0 he]) rfl ?_
      refine r_arr K (f2 := chE (eGoes r x y) (upd r (iM (ix x) 3) y) r) (ws1 := [mo h a hi lm rm pc bi sd, eI Γ (a 0) 42 (chE (eGoes r x y) (upd r (iM (ix x) 3) y) r), eI Γ (a 6) 7 (chE (eGoes r x y) rf (nof rf (eGoes r x y)))]) 1 rfl (fun _ _ => by rw [chE_0 (a := upd r (iM (ix x) 3) y) (b := r) he]) rfl ?_
      exact hR () dX7_goes_45 (trivial) (e_ri (ex_0 he (rfl))) (weq.rf)
    · refine r_aload_n K dX7_goes_16 0 rfl ?_
      refine r_iconst K dX7_goes_17 ((-1)) (by decide) ?_
      refine r_cVd K dX7_goes_18 (c_X7_no l Γ h a hi lm rm pc bi sd rf (-1) (okR_1)) mX7_no q813 rfl (by decide) rfl rfl 3 rfl [0, 2] [1] rfl rfl [eI Γ (a 0) 42 r] rfl [mo h a hi lm rm pc bi sd, eI Γ (a 0) 42 r, eI Γ (a 6) 7 (nof rf (-1))] rfl rfl rfl [] rfl (Nat.le_of_ble_eq_true rfl) ?_
      have he : eGoes r x y = (-1) := by
        unfold eGoes
        rw [if_neg (not_not_intro c5), if_pos (nt c13)]
      refine r_arr K (f2 := chE (eGoes r x y) rf (nof rf (eGoes r x y))) (ws1 := [mo h a hi lm rm pc bi sd, eI Γ (a 0) 42 r, eI Γ (a 6) 7 (chE (eGoes r x y) rf (nof rf (eGoes r x y)))]) 2 rfl (fun _ _ => by rw [ch_n (g := nof rf) he (by decide)]) rfl ?_
      refine r_arr K (f2 := chE (eGoes r x y) (upd r (iM (ix x) 3) y) r) (ws1 := [mo h a hi lm rm pc bi sd, eI Γ (a 0) 42 (chE (eGoes r x y) (upd r (iM (ix x) 3) y) r), eI Γ (a 6) 7 (chE (eGoes r x y) rf (nof rf (eGoes r x y)))]) 1 rfl (fun _ _ => by rw [chE_n (a := upd r (iM (ix x) 3) y) (b := r) (by rw [he]; exact (by decide))]) rfl ?_
      exact hR () dX7_goes_21 (trivial) (e_ri (ex_n he (by decide))) (weq.rf)
set_option maxHeartbeats 1000000 in
set_option maxRecDepth 20000 in
theorem c_X7_leaves (l : Launch) (Γ : eG) (h : Nat) (a : Nat → Nat) (hi : Bool) (lm : Nat) (rm : Nat) (pc : Nat) (bi : Int32) (sd : Int32) (r : Nat → Int32) (rf : Nat → Int32) (x : Int32) (hI : Inv r) : cD l Γ yX7_leaves cX7_leaves 3 (some .int) 2 [.ref h, .int x] [mo h a hi lm rm pc bi sd, eI Γ (a 0) 42 r, eI Γ (a 6) 7 rf] (some (.int (chE (eLeaves r x) (r (iM (ix x) 3)) (eLeaves r x)))) [mo h a hi lm rm pc bi sd, eI Γ (a 0) 42 (chE (eLeaves r x) (upd r (iM (ix x) 3) (-9)) r), eI Γ (a 6) 7 (chE (eLeaves r x) rf (nof rf (eLeaves r x)))] := by
  refine e_int [(0, .ref h), (1, .int x)] (by decide +kernel) (Nat.le_of_ble_eq_true rfl) rfl (fun V K hR => ?_)
  have h5 := hI.g
  have h6 := hI.m
  refine r_aload_n K dX7_leaves_0 0 rfl ?_
  refine r_iload_n K dX7_leaves_1 1 rfl ?_
  refine r_cVd K dX7_leaves_2 (c_X7_isMourner l Γ h a hi lm rm pc bi sd r x (hI)) mX7_isMourner q856 rfl (by decide) rfl rfl 3 rfl [0, 1] [2] rfl rfl [eI Γ (a 6) 7 rf] rfl [mo h a hi lm rm pc bi sd, eI Γ (a 0) 42 r, eI Γ (a 6) 7 rf] rfl rfl rfl [] rfl (Nat.le_of_ble_eq_true rfl) ?_
  refine r_ifneB K dX7_leaves_5 (fun c5 => ?_) (fun c5 => ?_)
  · have hx := inN_e c5 (by omega)
    have lx := ix_lt c5 (by omega)
    refine r_lc (lv1 := [(0, .ref h), (1, .int (nI (ix x)))]) (congrArg (fun zz : Int32 => ([(0, .ref h), (1, .int zz)] : List (Nat × Value))) (hx)) ?_
    refine r_aload_n K dX7_leaves_14 0 rfl ?_
    refine r_get K dX7_leaves_15 (kf := 0) 0 rfl rfl hinX7 (by decide) q757 rfl rfl ?_
    refine r_iload_n K dX7_leaves_18 1 rfl ?_
    refine r_iconst K dX7_leaves_19 (nI 3) (by decide) ?_
    refine r_cSd K dX7_leaves_20 (c_X7_ofM l Γ (ix x) 3) mX7_ofM q853 rfl (by decide) 3 rfl [] [0, 1, 2] rfl rfl [mo h a hi lm rm pc bi sd, eI Γ (a 0) 42 r, eI Γ (a 6) 7 rf] rfl [mo h a hi lm rm pc bi sd, eI Γ (a 0) 42 r, eI Γ (a 6) 7 rf] rfl rfl rfl [.ref (a 0)] rfl (Nat.le_of_ble_eq_true rfl) ?_
    refine r_aldN K dX7_leaves_23 1 rfl (by first | omega | exact iG_lt (by omega) (by decide) | exact iM_lt (by omega) (by decide)) (by decide) ?_
    refine r_istore_n K dX7_leaves_24 rfl (by decide) (lv1 := [(2, .int (r (iM (ix x) 3))), (0, .ref h), (1, .int (nI (ix x)))]) rfl ?_
    refine r_iload_n K dX7_leaves_25 0 rfl ?_
    refine r_if_ge K dX7_leaves_26 (fun c26 => ?_) (fun c26 => ?_)
    · refine r_aload_n K dX7_leaves_36 1 rfl ?_
      refine r_get K dX7_leaves_37 (kf := 0) 0 rfl rfl hinX7 (by decide) q757 rfl rfl ?_
      refine r_iload_n K dX7_leaves_40 2 rfl ?_
      refine r_iconst K dX7_leaves_41 (nI 3) (by decide) ?_
      refine r_cSd K dX7_leaves_42 (c_X7_ofM l Γ (ix x) 3) mX7_ofM q853 rfl (by decide) 3 rfl [] [0, 1, 2] rfl rfl [mo h a hi lm rm pc bi sd, eI Γ (a 0) 42 r, eI Γ (a 6) 7 rf] rfl [mo h a hi lm rm pc bi sd, eI Γ (a 0) 42 r, eI Γ (a 6) 7 rf] rfl rfl rfl [.ref (a 0)] rfl (Nat.le_of_ble_eq_true rfl) ?_
      refine r_bipush K dX7_leaves_45 ((-9)) (by decide) ?_
      refine r_astN K dX7_leaves_47 (ws1 := [mo h a hi lm rm pc bi sd, eI Γ (a 0) 42 (upd r (iM (ix x) 3) (-9)), eI Γ (a 6) 7 rf]) 1 rfl (by first | omega | exact iG_lt (by omega) (by decide) | exact iM_lt (by omega) (by decide)) (by decide) rfl ?_
      refine r_iload_n K dX7_leaves_48 0 rfl ?_
      have he : eLeaves r x = 0 := by
        unfold eLeaves
        rw [if_neg (not_not_intro c5), if_neg (ge0_n9 c26)]
      refine r_arr K (f2 := chE (eLeaves r x) rf (nof rf (eLeaves r x))) (ws1 := [mo h a hi lm rm pc bi sd, eI Γ (a 0) 42 (upd r (iM (ix x) 3) (-9)), eI Γ (a 6) 7 (chE (eLeaves r x) rf (nof rf (eLeaves r x)))]) 2 rfl (fun _ _ => by rw [chE_0 he]) rfl ?_
      refine r_arr K (f2 := chE (eLeaves r x) (upd r (iM (ix x) 3) (-9)) r) (ws1 := [mo h a hi lm rm pc bi sd, eI Γ (a 0) 42 (chE (eLeaves r x) (upd r (iM (ix x) 3) (-9)) r), eI Γ (a 6) 7 (chE (eLeaves r x) rf (nof rf (eLeaves r x)))]) 1 rfl (fun _ _ => by rw [chE_0 (a := upd r (iM (ix x) 3) (-9)) (b := r) he]) rfl ?_
      exact hR () dX7_leaves_49 (trivial) (e_ri (ex_0 he (rfl))) (weq.rf)
    · refine r_aload_n K dX7_leaves_29 1 rfl ?_
      refine r_bipush K dX7_leaves_30 ((-3)) (by decide) ?_
      refine r_cVd K dX7_leaves_32 (c_X7_no l Γ h a hi lm rm pc bi sd rf (-3) (okR_3)) mX7_no q813 rfl (by decide) rfl rfl 3 rfl [0, 2] [1] rfl rfl [eI Γ (a 0) 42 r] rfl [mo h a hi lm rm pc bi sd, eI Γ (a 0) 42 r, eI Γ (a 6) 7 (nof rf (-3))] rfl rfl rfl [] rfl (Nat.le_of_ble_eq_true rfl) ?_
      have he : eLeaves r x = (-3) := by
        unfold eLeaves
        rw [if_neg (not_not_intro c5), if_pos (at9 hI lx (lt0_of c26))]
      refine r_arr K (f2 := chE (eLeaves r x) rf (nof rf (eLeaves r x))) (ws1 := [mo h a hi lm rm pc bi sd, eI Γ (a 0) 42 r, eI Γ (a 6) 7 (chE (eLeaves r x) rf (nof rf (eLeaves r x)))]) 2 rfl (fun _ _ => by rw [ch_n (g := nof rf) he (by decide)]) rfl ?_
      refine r_arr K (f2 := chE (eLeaves r x) (upd r (iM (ix x) 3) (-9)) r) (ws1 := [mo h a hi lm rm pc bi sd, eI Γ (a 0) 42 (chE (eLeaves r x) (upd r (iM (ix x) 3) (-9)) r), eI Γ (a 6) 7 (chE (eLeaves r x) rf (nof rf (eLeaves r x)))]) 1 rfl (fun _ _ => by rw [chE_n (a := upd r (iM (ix x) 3) (-9)) (b := r) (by rw [he]; exact (by decide))]) rfl ?_
      exact hR () dX7_leaves_35 (trivial) (e_ri (ex_n he (by decide))) (weq.rf)
  · refine r_aload_n K dX7_leaves_8 0 rfl ?_
    refine r_iconst K dX7_leaves_9 ((-1)) (by decide) ?_
    refine r_cVd K dX7_leaves_10 (c_X7_no l Γ h a hi lm rm pc bi sd rf (-1) (okR_1)) mX7_no q813 rfl (by decide) rfl rfl 3 rfl [0, 2] [1] rfl rfl [eI Γ (a 0) 42 r] rfl [mo h a hi lm rm pc bi sd, eI Γ (a 0) 42 r, eI Γ (a 6) 7 (nof rf (-1))] rfl rfl rfl [] rfl (Nat.le_of_ble_eq_true rfl) ?_
    have he : eLeaves r x = (-1) := by
      unfold eLeaves
      rw [if_pos (nt c5)]
    refine r_arr K (f2 := chE (eLeaves r x) rf (nof rf (eLeaves r x))) (ws1 := [mo h a hi lm rm pc bi sd, eI Γ (a 0) 42 r, eI Γ (a 6) 7 (chE (eLeaves r x) rf (nof rf (eLeaves r x)))]) 2 rfl (fun _ _ => by rw [ch_n (g := nof rf) he (by decide)]) rfl ?_
    refine r_arr K (f2 := chE (eLeaves r x) (upd r (iM (ix x) 3) (-9)) r) (ws1 := [mo h a hi lm rm pc bi sd, eI Γ (a 0) 42 (chE (eLeaves r x) (upd r (iM (ix x) 3) (-9)) r), eI Γ (a 6) 7 (chE (eLeaves r x) rf (nof rf (eLeaves r x)))]) 1 rfl (fun _ _ => by rw [chE_n (a := upd r (iM (ix x) 3) (-9)) (b := r) (by rw [he]; exact (by decide))]) rfl ?_
    exact hR () dX7_leaves_13 (trivial) (e_ri (ex_n he (by decide))) (weq.rf)
set_option maxHeartbeats 1000000 in
set_option maxRecDepth 20000 in
theorem c_X7_hears (l : Launch) (Γ : eG) (h : Nat) (a : Nat → Nat) (hi : Bool) (lm : Nat) (rm : Nat) (pc : Nat) (bi : Int32) (sd : Int32) (r : Nat → Int32) (rf : Nat → Int32) (x : Int32) (hI : Inv r) : cD l Γ yX7_hears cX7_hears 2 (some .int) 2 [.ref h, .int x] [mo h a hi lm rm pc bi sd, eI Γ (a 0) 42 r, eI Γ (a 6) 7 rf] (some (.int (chE (eMo r x) (tellS r (ix x) (iM (ix x) 2)) (eMo r x)))) [mo h a hi lm rm pc bi sd, eI Γ (a 0) 42 (chE (eMo r x) (tellS r (ix x)) r), eI Γ (a 6) 7 (chE (eMo r x) rf (nof rf (eMo r x)))] := by
  refine e_int [(0, .ref h), (1, .int x)] (by decide +kernel) (Nat.le_of_ble_eq_true rfl) rfl (fun V K hR => ?_)
  have h5 := hI.g
  have h6 := hI.m
  refine r_aload_n K dX7_hears_0 0 rfl ?_
  refine r_iload_n K dX7_hears_1 1 rfl ?_
  refine r_cVd K dX7_hears_2 (c_X7_isMourner l Γ h a hi lm rm pc bi sd r x (hI)) mX7_isMourner q856 rfl (by decide) rfl rfl 3 rfl [0, 1] [2] rfl rfl [eI Γ (a 6) 7 rf] rfl [mo h a hi lm rm pc bi sd, eI Γ (a 0) 42 r, eI Γ (a 6) 7 rf] rfl rfl rfl [] rfl (Nat.le_of_ble_eq_true rfl) ?_
  refine r_ifneB K dX7_hears_5 (fun c5 => ?_) (fun c5 => ?_)
  · have hx := inN_e c5 (by omega)
    have lx := ix_lt c5 (by omega)
    refine r_lc (lv1 := [(0, .ref h), (1, .int (nI (ix x)))]) (congrArg (fun zz : Int32 => ([(0, .ref h), (1, .int zz)] : List (Nat × Value))) (hx)) ?_
    refine r_aload_n K dX7_hears_14 0 rfl ?_
    refine r_get K dX7_hears_15 (kf := 0) 0 rfl rfl hinX7 (by decide) q757 rfl rfl ?_
    refine r_iload_n K dX7_hears_18 1 rfl ?_
    refine r_cSn K dX7_hears_19 (c_X7_isTold l Γ (a 0) r (ix x) (by first | assumption | omega)) mX7_isTold q864 rfl (by decide) 3 rfl [1] [0, 2] rfl rfl [mo h a hi lm rm pc bi sd, eI Γ (a 6) 7 rf] rfl [mo h a hi lm rm pc bi sd, eI Γ (a 0) 42 (tellS r (ix x)), eI Γ (a 6) 7 rf] rfl rfl rfl [] rfl (Nat.le_of_ble_eq_true rfl) ?_
    refine r_aload_n K dX7_hears_22 0 rfl ?_
    refine r_get K dX7_hears_23 (kf := 0) 0 rfl rfl hinX7 (by decide) q757 rfl rfl ?_
    refine r_iload_n K dX7_hears_26 1 rfl ?_
    refine r_iconst K dX7_hears_27 (nI 2) (by decide) ?_
    refine r_cSd K dX7_hears_28 (c_X7_ofM l Γ (ix x) 2) mX7_ofM q853 rfl (by decide) 3 rfl [] [0, 1, 2] rfl rfl [mo h a hi lm rm pc bi sd, eI Γ (a 0) 42 (tellS r (ix x)), eI Γ (a 6) 7 rf] rfl [mo h a hi lm rm pc bi sd, eI Γ (a 0) 42 (tellS r (ix x)), eI Γ (a 6) 7 rf] rfl rfl rfl [.ref (a 0)] rfl (Nat.le_of_ble_eq_true rfl) ?_
    refine r_aldN K dX7_hears_31 1 rfl (by first | omega | exact iG_lt (by omega) (by decide) | exact iM_lt (by omega) (by decide)) (by decide) ?_
    have he : eMo r x = 0 := by
      unfold eMo
      rw [if_neg (not_not_intro c5)]
    refine r_arr K (f2 := chE (eMo r x) rf (nof rf (eMo r x))) (ws1 := [mo h a hi lm rm pc bi sd, eI Γ (a 0) 42 (tellS r (ix x)), eI Γ (a 6) 7 (chE (eMo r x) rf (nof rf (eMo r x)))]) 2 rfl (fun _ _ => by rw [chE_0 he]) rfl ?_
    refine r_arr K (f2 := chE (eMo r x) (tellS r (ix x)) r) (ws1 := [mo h a hi lm rm pc bi sd, eI Γ (a 0) 42 (chE (eMo r x) (tellS r (ix x)) r), eI Γ (a 6) 7 (chE (eMo r x) rf (nof rf (eMo r x)))]) 1 rfl (fun _ _ => by rw [chE_0 (a := tellS r (ix x)) (b := r) he]) rfl ?_
    exact hR () dX7_hears_32 (trivial) (e_ri (ex_0 he (rfl))) (weq.rf)
  · refine r_aload_n K dX7_hears_8 0 rfl ?_
    refine r_iconst K dX7_hears_9 ((-1)) (by decide) ?_
    refine r_cVd K dX7_hears_10 (c_X7_no l Γ h a hi lm rm pc bi sd rf (-1) (okR_1)) mX7_no q813 rfl (by decide) rfl rfl 3 rfl [0, 2] [1] rfl rfl [eI Γ (a 0) 42 r] rfl [mo h a hi lm rm pc bi sd, eI Γ (a 0) 42 r, eI Γ (a 6) 7 (nof rf (-1))] rfl rfl rfl [] rfl (Nat.le_of_ble_eq_true rfl) ?_
    have he : eMo r x = (-1) := by
      unfold eMo
      rw [if_pos (nt c5)]
    refine r_arr K (f2 := chE (eMo r x) rf (nof rf (eMo r x))) (ws1 := [mo h a hi lm rm pc bi sd, eI Γ (a 0) 42 r, eI Γ (a 6) 7 (chE (eMo r x) rf (nof rf (eMo r x)))]) 2 rfl (fun _ _ => by rw [ch_n (g := nof rf) he (by decide)]) rfl ?_
    refine r_arr K (f2 := chE (eMo r x) (tellS r (ix x)) r) (ws1 := [mo h a hi lm rm pc bi sd, eI Γ (a 0) 42 (chE (eMo r x) (tellS r (ix x)) r), eI Γ (a 6) 7 (chE (eMo r x) rf (nof rf (eMo r x)))]) 1 rfl (fun _ _ => by rw [chE_n (a := tellS r (ix x)) (b := r) (by rw [he]; exact (by decide))]) rfl ?_
    exact hR () dX7_hears_13 (trivial) (e_ri (ex_n he (by decide))) (weq.rf)
set_option maxHeartbeats 1000000 in
set_option maxRecDepth 20000 in
theorem c_X7_wrongBy (l : Launch) (Γ : eG) (v : Int32) (p : Int32) (q : Int32)  : cD l Γ yX7_wrongBy cX7_wrongBy 3 (some .int) 0 [.int v, .int p, .int q] [] (some (.int (wrS v p q))) [] := by
  refine e_int [(0, .int v), (1, .int p), (2, .int q)] (by decide +kernel) (Nat.le_of_ble_eq_true rfl) rfl (fun V K hR => ?_)
  refine r_iload_n K dX7_wrongBy_0 0 rfl ?_
  refine r_iload_n K dX7_wrongBy_1 1 rfl ?_
  refine r_ic_ge K dX7_wrongBy_2 (fun c2 => ?_) (fun c2 => ?_)
  · refine r_iload_n K dX7_wrongBy_10 0 rfl ?_
    refine r_iload_n K dX7_wrongBy_11 2 rfl ?_
    refine r_ic_le K dX7_wrongBy_12 (fun c12 => ?_) (fun c12 => ?_)
    · refine r_iconst K dX7_wrongBy_20 (nI 0) (by decide) ?_
      exact hR () dX7_wrongBy_21 (trivial) (e_ri (wrS_0 (Int32.not_lt.mpr c2) (Int32.not_lt.mpr c12))) (weq.rf)
    · refine r_bipush K dX7_wrongBy_15 ((-6)) (by decide) ?_
      refine r_goto K dX7_wrongBy_17 ?_
      exact hR () dX7_wrongBy_21 (trivial) (e_ri (wrS_hi (Int32.not_lt.mpr c2) (Int32.not_le.mp c12))) (weq.rf)
  · refine r_bipush K dX7_wrongBy_5 ((-4)) (by decide) ?_
    refine r_goto K dX7_wrongBy_7 ?_
    exact hR () dX7_wrongBy_21 (trivial) (e_ri (if_pos (Int32.not_le.mp c2))) (weq.rf)
set_option maxHeartbeats 1000000 in
set_option maxRecDepth 20000 in
theorem c_X7_grieves (l : Launch) (Γ : eG) (h : Nat) (a : Nat → Nat) (hi : Bool) (lm : Nat) (rm : Nat) (pc : Nat) (bi : Int32) (sd : Int32) (r : Nat → Int32) (rf : Nat → Int32) (x : Int32) (v : Int32) (hI : Inv r) : cD l Γ yX7_grieves cX7_grieves 5 (some .int) 2 [.ref h, .int x, .int v] [mo h a hi lm rm pc bi sd, eI Γ (a 0) 42 r, eI Γ (a 6) 7 rf] (some (.int (chE (eMoW r x v (nI 0) (nI 99)) (r (iM (ix x) 2)) (eMoW r x v (nI 0) (nI 99))))) [mo h a hi lm rm pc bi sd, eI Γ (a 0) 42 (chE (eMoW r x v (nI 0) (nI 99)) (upd r (iM (ix x) 2) v) r), eI Γ (a 6) 7 (chE (eMoW r x v (nI 0) (nI 99)) rf (nof rf (eMoW r x v (nI 0) (nI 99))))] := by
  refine e_int [(0, .ref h), (1, .int x), (2, .int v)] (by decide +kernel) (Nat.le_of_ble_eq_true rfl) rfl (fun V K hR => ?_)
  have h5 := hI.g
  have h6 := hI.m
  refine r_aload_n K dX7_grieves_0 0 rfl ?_
  refine r_iload_n K dX7_grieves_1 1 rfl ?_
  refine r_cVd K dX7_grieves_2 (c_X7_isMourner l Γ h a hi lm rm pc bi sd r x (hI)) mX7_isMourner q856 rfl (by decide) rfl rfl 3 rfl [0, 1] [2] rfl rfl [eI Γ (a 6) 7 rf] rfl [mo h a hi lm rm pc bi sd, eI Γ (a 0) 42 r, eI Γ (a 6) 7 rf] rfl rfl rfl [] rfl (Nat.le_of_ble_eq_true rfl) ?_
  refine r_ifeqB K dX7_grieves_5 (fun c5 => ?_) (fun c5 => ?_)
  · refine r_iconst K dX7_grieves_18 ((-1)) (by decide) ?_
    refine r_istore_n K dX7_grieves_19 rfl (by decide) (lv1 := [(3, .int (-1)), (0, .ref h), (1, .int x), (2, .int v)]) rfl ?_
    refine r_iload_n K dX7_grieves_20 0 rfl ?_
    refine r_if_eq K dX7_grieves_21 (fun c21 => ?_) (fun c21 => ?_)
    · exact absurd c21 (by decide)
    · refine r_aload_n K dX7_grieves_24 1 rfl ?_
      refine r_iload_n K dX7_grieves_25 0 rfl ?_
      refine r_cVd K dX7_grieves_26 (c_X7_no l Γ h a hi lm rm pc bi sd rf (-1) (okR_1)) mX7_no q813 rfl (by decide) rfl rfl 3 rfl [0, 2] [1] rfl rfl [eI Γ (a 0) 42 r] rfl [mo h a hi lm rm pc bi sd, eI Γ (a 0) 42 r, eI Γ (a 6) 7 (nof rf (-1))] rfl rfl rfl [] rfl (Nat.le_of_ble_eq_true rfl) ?_
      have he : eMoW r x v (nI 0) (nI 99) = (-1) := by
        unfold eMoW
        rw [if_pos (nt c5)]
      refine r_arr K (f2 := chE (eMoW r x v (nI 0) (nI 99)) rf (nof rf (eMoW r x v (nI 0) (nI 99)))) (ws1 := [mo h a hi lm rm pc bi sd, eI Γ (a 0) 42 r, eI Γ (a 6) 7 (chE (eMoW r x v (nI 0) (nI 99)) rf (nof rf (eMoW r x v (nI 0) (nI 99))))]) 2 rfl (fun _ _ => by rw [ch_n (g := nof rf) he (by decide)]) rfl ?_
      refine r_arr K (f2 := chE (eMoW r x v (nI 0) (nI 99)) (upd r (iM (ix x) 2) v) r) (ws1 := [mo h a hi lm rm pc bi sd, eI Γ (a 0) 42 (chE (eMoW r x v (nI 0) (nI 99)) (upd r (iM (ix x) 2) v) r), eI Γ (a 6) 7 (chE (eMoW r x v (nI 0) (nI 99)) rf (nof rf (eMoW r x v (nI 0) (nI 99))))]) 1 rfl (fun _ _ => by rw [chE_n (a := upd r (iM (ix x) 2) v) (b := r) (by rw [he]; exact (by decide))]) rfl ?_
      exact hR () dX7_grieves_29 (trivial) (e_ri (ex_n he (by decide))) (weq.rf)
  · have hx := inN_e c5 (by omega)
    have lx := ix_lt c5 (by omega)
    refine r_lc (lv1 := [(0, .ref h), (1, .int (nI (ix x))), (2, .int v)]) (congrArg (fun zz : Int32 => ([(0, .ref h), (1, .int zz), (2, .int v)] : List (Nat × Value))) (hx)) ?_
    refine r_iload_n K dX7_grieves_8 2 rfl ?_
    refine r_iconst K dX7_grieves_9 (nI 0) (by decide) ?_
    refine r_bipush K dX7_grieves_10 (nI 99) (by decide) ?_
    refine r_cSd K dX7_grieves_12 (c_X7_wrongBy l Γ v (nI 0) (nI 99)) mX7_wrongBy q924 rfl (by decide) 3 rfl [] [0, 1, 2] rfl rfl [mo h a hi lm rm pc bi sd, eI Γ (a 0) 42 r, eI Γ (a 6) 7 rf] rfl [mo h a hi lm rm pc bi sd, eI Γ (a 0) 42 r, eI Γ (a 6) 7 rf] rfl rfl rfl [] rfl (Nat.le_of_ble_eq_true rfl) ?_
    refine r_goto K dX7_grieves_15 ?_
    refine r_istore_n K dX7_grieves_19 rfl (by decide) (lv1 := [(3, .int (wrS v (nI 0) (nI 99))), (0, .ref h), (1, .int (nI (ix x))), (2, .int v)]) rfl ?_
    refine r_iload_n K dX7_grieves_20 0 rfl ?_
    refine r_if_eq K dX7_grieves_21 (fun c21 => ?_) (fun c21 => ?_)
    · have hv := wrS_ok (by decide) (by decide) c21
      have lv := hv.2
      refine r_aload_n K dX7_grieves_30 1 rfl ?_
      refine r_get K dX7_grieves_31 (kf := 0) 0 rfl rfl hinX7 (by decide) q757 rfl rfl ?_
      refine r_iload_n K dX7_grieves_34 2 rfl ?_
      refine r_iconst K dX7_grieves_35 (nI 2) (by decide) ?_
      refine r_cSd K dX7_grieves_36 (c_X7_ofM l Γ (ix x) 2) mX7_ofM q853 rfl (by decide) 3 rfl [] [0, 1, 2] rfl rfl [mo h a hi lm rm pc bi sd, eI Γ (a 0) 42 r, eI Γ (a 6) 7 rf] rfl [mo h a hi lm rm pc bi sd, eI Γ (a 0) 42 r, eI Γ (a 6) 7 rf] rfl rfl rfl [.ref (a 0)] rfl (Nat.le_of_ble_eq_true rfl) ?_
      refine r_aldN K dX7_grieves_39 1 rfl (by first | omega | exact iG_lt (by omega) (by decide) | exact iM_lt (by omega) (by decide)) (by decide) ?_
      refine r_istore K dX7_grieves_40 (by decide) (lv1 := [(4, .int (r (iM (ix x) 2))), (3, .int (wrS v (nI 0) (nI 99))), (0, .ref h), (1, .int (nI (ix x))), (2, .int v)]) rfl ?_
      refine r_aload_n K dX7_grieves_42 2 rfl ?_
      refine r_get K dX7_grieves_43 (kf := 0) 0 rfl rfl hinX7 (by decide) q757 rfl rfl ?_
      refine r_iload_n K dX7_grieves_46 3 rfl ?_
      refine r_iconst K dX7_grieves_47 (nI 2) (by decide) ?_
      refine r_cSd K dX7_grieves_48 (c_X7_ofM l Γ (ix x) 2) mX7_ofM q853 rfl (by decide) 3 rfl [] [0, 1, 2] rfl rfl [mo h a hi lm rm pc bi sd, eI Γ (a 0) 42 r, eI Γ (a 6) 7 rf] rfl [mo h a hi lm rm pc bi sd, eI Γ (a 0) 42 r, eI Γ (a 6) 7 rf] rfl rfl rfl [.ref (a 0)] rfl (Nat.le_of_ble_eq_true rfl) ?_
      refine r_iload_n K dX7_grieves_51 4 rfl ?_
      refine r_astN K dX7_grieves_52 (ws1 := [mo h a hi lm rm pc bi sd, eI Γ (a 0) 42 (upd r (iM (ix x) 2) v), eI Γ (a 6) 7 rf]) 1 rfl (by first | omega | exact iG_lt (by omega) (by decide) | exact iM_lt (by omega) (by decide)) (by decide) rfl ?_
      refine r_iload K dX7_grieves_53 0 rfl ?_
      have he : eMoW r x v (nI 0) (nI 99) = 0 := by
        unfold eMoW
        rw [if_neg (not_not_intro c5), if_neg (not_not_intro c21)]
      refine r_arr K (f2 := chE (eMoW r x v (nI 0) (nI 99)) rf (nof rf (eMoW r x v (nI 0) (nI 99)))) (ws1 := [mo h a hi lm rm pc bi sd, eI Γ (a 0) 42 (upd r (iM (ix x) 2) v), eI Γ (a 6) 7 (chE (eMoW r x v (nI 0) (nI 99)) rf (nof rf (eMoW r x v (nI 0) (nI 99))))]) 2 rfl (fun _ _ => by rw [chE_0 he]) rfl ?_
      refine r_arr K (f2 := chE (eMoW r x v (nI 0) (nI 99)) (upd r (iM (ix x) 2) v) r) (ws1 := [mo h a hi lm rm pc bi sd, eI Γ (a 0) 42 (chE (eMoW r x v (nI 0) (nI 99)) (upd r (iM (ix x) 2) v) r), eI Γ (a 6) 7 (chE (eMoW r x v (nI 0) (nI 99)) rf (nof rf (eMoW r x v (nI 0) (nI 99))))]) 1 rfl (fun _ _ => by rw [chE_0 (a := upd r (iM (ix x) 2) v) (b := r) he]) rfl ?_
      exact hR () dX7_grieves_55 (trivial) (e_ri (ex_0 he (rfl))) (weq.rf)
    · refine r_aload_n K dX7_grieves_24 1 rfl ?_
      refine r_iload_n K dX7_grieves_25 0 rfl ?_
      refine r_cVd K dX7_grieves_26 (c_X7_no l Γ h a hi lm rm pc bi sd rf (wrS v (nI 0) (nI 99)) (okR_wr c21)) mX7_no q813 rfl (by decide) rfl rfl 3 rfl [0, 2] [1] rfl rfl [eI Γ (a 0) 42 r] rfl [mo h a hi lm rm pc bi sd, eI Γ (a 0) 42 r, eI Γ (a 6) 7 (nof rf (wrS v (nI 0) (nI 99)))] rfl rfl rfl [] rfl (Nat.le_of_ble_eq_true rfl) ?_
      have he : eMoW r x v (nI 0) (nI 99) = wrS v (nI 0) (nI 99) := by
        unfold eMoW
        rw [if_neg (not_not_intro c5), if_pos c21]
      refine r_arr K (f2 := chE (eMoW r x v (nI 0) (nI 99)) rf (nof rf (eMoW r x v (nI 0) (nI 99)))) (ws1 := [mo h a hi lm rm pc bi sd, eI Γ (a 0) 42 r, eI Γ (a 6) 7 (chE (eMoW r x v (nI 0) (nI 99)) rf (nof rf (eMoW r x v (nI 0) (nI 99))))]) 2 rfl (fun _ _ => by rw [ch_n (g := nof rf) he c21]) rfl ?_
      refine r_arr K (f2 := chE (eMoW r x v (nI 0) (nI 99)) (upd r (iM (ix x) 2) v) r) (ws1 := [mo h a hi lm rm pc bi sd, eI Γ (a 0) 42 (chE (eMoW r x v (nI 0) (nI 99)) (upd r (iM (ix x) 2) v) r), eI Γ (a 6) 7 (chE (eMoW r x v (nI 0) (nI 99)) rf (nof rf (eMoW r x v (nI 0) (nI 99))))]) 1 rfl (fun _ _ => by rw [chE_n (a := upd r (iM (ix x) 2) v) (b := r) (by rw [he]; exact c21)]) rfl ?_
      exact hR () dX7_grieves_29 (trivial) (e_ri (ex_n he c21)) (weq.rf)
set_option maxHeartbeats 1000000 in
set_option maxRecDepth 20000 in
theorem c_X7_hardens (l : Launch) (Γ : eG) (h : Nat) (a : Nat → Nat) (hi : Bool) (lm : Nat) (rm : Nat) (pc : Nat) (bi : Int32) (sd : Int32) (r : Nat → Int32) (rf : Nat → Int32) (x : Int32) (v : Int32) (hI : Inv r) : cD l Γ yX7_hardens cX7_hardens 5 (some .int) 2 [.ref h, .int x, .int v] [mo h a hi lm rm pc bi sd, eI Γ (a 0) 42 r, eI Γ (a 6) 7 rf] (some (.int (chE (eGrW r x v (nI 0) (nI 9)) (r (iG (ix x) 0)) (eGrW r x v (nI 0) (nI 9))))) [mo h a hi lm rm pc bi sd, eI Γ (a 0) 42 (chE (eGrW r x v (nI 0) (nI 9)) (upd r (iG (ix x) 0) v) r), eI Γ (a 6) 7 (chE (eGrW r x v (nI 0) (nI 9)) rf (nof rf (eGrW r x v (nI 0) (nI 9))))] := by
  refine e_int [(0, .ref h), (1, .int x), (2, .int v)] (by decide +kernel) (Nat.le_of_ble_eq_true rfl) rfl (fun V K hR => ?_)
  have h5 := hI.g
  have h6 := hI.m
  refine r_aload_n K dX7_hardens_0 0 rfl ?_
  refine r_iload_n K dX7_hardens_1 1 rfl ?_
  refine r_cVd K dX7_hardens_2 (c_X7_isGrave l Γ h a hi lm rm pc bi sd r x (hI)) mX7_isGrave q860 rfl (by decide) rfl rfl 3 rfl [0, 1] [2] rfl rfl [eI Γ (a 6) 7 rf] rfl [mo h a hi lm rm pc bi sd, eI Γ (a 0) 42 r, eI Γ (a 6) 7 rf] rfl rfl rfl [] rfl (Nat.le_of_ble_eq_true rfl) ?_
  refine r_ifeqB K dX7_hardens_5 (fun c5 => ?_) (fun c5 => ?_)
  · refine r_iconst K dX7_hardens_18 ((-1)) (by decide) ?_
    refine r_istore_n K dX7_hardens_19 rfl (by decide) (lv1 := [(3, .int (-1)), (0, .ref h), (1, .int x), (2, .int v)]) rfl ?_
    refine r_iload_n K dX7_hardens_20 0 rfl ?_
    refine r_if_eq K dX7_hardens_21 (fun c21 => ?_) (fun c21 => ?_)
    · exact absurd c21 (by decide)
    · refine r_aload_n K dX7_hardens_24 1 rfl ?_
      refine r_iload_n K dX7_hardens_25 0 rfl ?_
      refine r_cVd K dX7_hardens_26 (c_X7_no l Γ h a hi lm rm pc bi sd rf (-1) (okR_1)) mX7_no q813 rfl (by decide) rfl rfl 3 rfl [0, 2] [1] rfl rfl [eI Γ (a 0) 42 r] rfl [mo h a hi lm rm pc bi sd, eI Γ (a 0) 42 r, eI Γ (a 6) 7 (nof rf (-1))] rfl rfl rfl [] rfl (Nat.le_of_ble_eq_true rfl) ?_
      have he : eGrW r x v (nI 0) (nI 9) = (-1) := by
        unfold eGrW
        rw [if_pos (nt c5)]
      refine r_arr K (f2 := chE (eGrW r x v (nI 0) (nI 9)) rf (nof rf (eGrW r x v (nI 0) (nI 9)))) (ws1 := [mo h a hi lm rm pc bi sd, eI Γ (a 0) 42 r, eI Γ (a 6) 7 (chE (eGrW r x v (nI 0) (nI 9)) rf (nof rf (eGrW r x v (nI 0) (nI 9))))]) 2 rfl (fun _ _ => by rw [ch_n (g := nof rf) he (by decide)]) rfl ?_
      refine r_arr K (f2 := chE (eGrW r x v (nI 0) (nI 9)) (upd r (iG (ix x) 0) v) r) (ws1 := [mo h a hi lm rm pc bi sd, eI Γ (a 0) 42 (chE (eGrW r x v (nI 0) (nI 9)) (upd r (iG (ix x) 0) v) r), eI Γ (a 6) 7 (chE (eGrW r x v (nI 0) (nI 9)) rf (nof rf (eGrW r x v (nI 0) (nI 9))))]) 1 rfl (fun _ _ => by rw [chE_n (a := upd r (iG (ix x) 0) v) (b := r) (by rw [he]; exact (by decide))]) rfl ?_
      exact hR () dX7_hardens_29 (trivial) (e_ri (ex_n he (by decide))) (weq.rf)
  · have hx := inN_e c5 (by omega)
    have lx := ix_lt c5 (by omega)
    refine r_lc (lv1 := [(0, .ref h), (1, .int (nI (ix x))), (2, .int v)]) (congrArg (fun zz : Int32 => ([(0, .ref h), (1, .int zz), (2, .int v)] : List (Nat × Value))) (hx)) ?_
    refine r_iload_n K dX7_hardens_8 2 rfl ?_
    refine r_iconst K dX7_hardens_9 (nI 0) (by decide) ?_
    refine r_bipush K dX7_hardens_10 (nI 9) (by decide) ?_
    refine r_cSd K dX7_hardens_12 (c_X7_wrongBy l Γ v (nI 0) (nI 9)) mX7_wrongBy q924 rfl (by decide) 3 rfl [] [0, 1, 2] rfl rfl [mo h a hi lm rm pc bi sd, eI Γ (a 0) 42 r, eI Γ (a 6) 7 rf] rfl [mo h a hi lm rm pc bi sd, eI Γ (a 0) 42 r, eI Γ (a 6) 7 rf] rfl rfl rfl [] rfl (Nat.le_of_ble_eq_true rfl) ?_
    refine r_goto K dX7_hardens_15 ?_
    refine r_istore_n K dX7_hardens_19 rfl (by decide) (lv1 := [(3, .int (wrS v (nI 0) (nI 9))), (0, .ref h), (1, .int (nI (ix x))), (2, .int v)]) rfl ?_
    refine r_iload_n K dX7_hardens_20 0 rfl ?_
    refine r_if_eq K dX7_hardens_21 (fun c21 => ?_) (fun c21 => ?_)
    · have hv := wrS_ok (by decide) (by decide) c21
      have lv := hv.2
      refine r_aload_n K dX7_hardens_30 1 rfl ?_
      refine r_get K dX7_hardens_31 (kf := 0) 0 rfl rfl hinX7 (by decide) q757 rfl rfl ?_
      refine r_iload_n K dX7_hardens_34 2 rfl ?_
      refine r_iconst K dX7_hardens_35 (nI 0) (by decide) ?_
      refine r_cSd K dX7_hardens_36 (c_X7_ofG l Γ (ix x) 0) mX7_ofG q850 rfl (by decide) 3 rfl [] [0, 1, 2] rfl rfl [mo h a hi lm rm pc bi sd, eI Γ (a 0) 42 r, eI Γ (a 6) 7 rf] rfl [mo h a hi lm rm pc bi sd, eI Γ (a 0) 42 r, eI Γ (a 6) 7 rf] rfl rfl rfl [.ref (a 0)] rfl (Nat.le_of_ble_eq_true rfl) ?_
      refine r_aldN K dX7_hardens_39 1 rfl (by first | omega | exact iG_lt (by omega) (by decide) | exact iM_lt (by omega) (by decide)) (by decide) ?_
      refine r_istore K dX7_hardens_40 (by decide) (lv1 := [(4, .int (r (iG (ix x) 0))), (3, .int (wrS v (nI 0) (nI 9))), (0, .ref h), (1, .int (nI (ix x))), (2, .int v)]) rfl ?_
      refine r_aload_n K dX7_hardens_42 2 rfl ?_
      refine r_get K dX7_hardens_43 (kf := 0) 0 rfl rfl hinX7 (by decide) q757 rfl rfl ?_
      refine r_iload_n K dX7_hardens_46 3 rfl ?_
      refine r_iconst K dX7_hardens_47 (nI 0) (by decide) ?_
      refine r_cSd K dX7_hardens_48 (c_X7_ofG l Γ (ix x) 0) mX7_ofG q850 rfl (by decide) 3 rfl [] [0, 1, 2] rfl rfl [mo h a hi lm rm pc bi sd, eI Γ (a 0) 42 r, eI Γ (a 6) 7 rf] rfl [mo h a hi lm rm pc bi sd, eI Γ (a 0) 42 r, eI Γ (a 6) 7 rf] rfl rfl rfl [.ref (a 0)] rfl (Nat.le_of_ble_eq_true rfl) ?_
      refine r_iload_n K dX7_hardens_51 4 rfl ?_
      refine r_astN K dX7_hardens_52 (ws1 := [mo h a hi lm rm pc bi sd, eI Γ (a 0) 42 (upd r (iG (ix x) 0) v), eI Γ (a 6) 7 rf]) 1 rfl (by first | omega | exact iG_lt (by omega) (by decide) | exact iM_lt (by omega) (by decide)) (by decide) rfl ?_
      refine r_iload K dX7_hardens_53 0 rfl ?_
      have he : eGrW r x v (nI 0) (nI 9) = 0 := by
        unfold eGrW
        rw [if_neg (not_not_intro c5), if_neg (not_not_intro c21)]
      refine r_arr K (f2 := chE (eGrW r x v (nI 0) (nI 9)) rf (nof rf (eGrW r x v (nI 0) (nI 9)))) (ws1 := [mo h a hi lm rm pc bi sd, eI Γ (a 0) 42 (upd r (iG (ix x) 0) v), eI Γ (a 6) 7 (chE (eGrW r x v (nI 0) (nI 9)) rf (nof rf (eGrW r x v (nI 0) (nI 9))))]) 2 rfl (fun _ _ => by rw [chE_0 he]) rfl ?_
      refine r_arr K (f2 := chE (eGrW r x v (nI 0) (nI 9)) (upd r (iG (ix x) 0) v) r) (ws1 := [mo h a hi lm rm pc bi sd, eI Γ (a 0) 42 (chE (eGrW r x v (nI 0) (nI 9)) (upd r (iG (ix x) 0) v) r), eI Γ (a 6) 7 (chE (eGrW r x v (nI 0) (nI 9)) rf (nof rf (eGrW r x v (nI 0) (nI 9))))]) 1 rfl (fun _ _ => by rw [chE_0 (a := upd r (iG (ix x) 0) v) (b := r) he]) rfl ?_
      exact hR () dX7_hardens_55 (trivial) (e_ri (ex_0 he (rfl))) (weq.rf)
    · refine r_aload_n K dX7_hardens_24 1 rfl ?_
      refine r_iload_n K dX7_hardens_25 0 rfl ?_
      refine r_cVd K dX7_hardens_26 (c_X7_no l Γ h a hi lm rm pc bi sd rf (wrS v (nI 0) (nI 9)) (okR_wr c21)) mX7_no q813 rfl (by decide) rfl rfl 3 rfl [0, 2] [1] rfl rfl [eI Γ (a 0) 42 r] rfl [mo h a hi lm rm pc bi sd, eI Γ (a 0) 42 r, eI Γ (a 6) 7 (nof rf (wrS v (nI 0) (nI 9)))] rfl rfl rfl [] rfl (Nat.le_of_ble_eq_true rfl) ?_
      have he : eGrW r x v (nI 0) (nI 9) = wrS v (nI 0) (nI 9) := by
        unfold eGrW
        rw [if_neg (not_not_intro c5), if_pos c21]
      refine r_arr K (f2 := chE (eGrW r x v (nI 0) (nI 9)) rf (nof rf (eGrW r x v (nI 0) (nI 9)))) (ws1 := [mo h a hi lm rm pc bi sd, eI Γ (a 0) 42 r, eI Γ (a 6) 7 (chE (eGrW r x v (nI 0) (nI 9)) rf (nof rf (eGrW r x v (nI 0) (nI 9))))]) 2 rfl (fun _ _ => by rw [ch_n (g := nof rf) he c21]) rfl ?_
      refine r_arr K (f2 := chE (eGrW r x v (nI 0) (nI 9)) (upd r (iG (ix x) 0) v) r) (ws1 := [mo h a hi lm rm pc bi sd, eI Γ (a 0) 42 (chE (eGrW r x v (nI 0) (nI 9)) (upd r (iG (ix x) 0) v) r), eI Γ (a 6) 7 (chE (eGrW r x v (nI 0) (nI 9)) rf (nof rf (eGrW r x v (nI 0) (nI 9))))]) 1 rfl (fun _ _ => by rw [chE_n (a := upd r (iG (ix x) 0) v) (b := r) (by rw [he]; exact c21)]) rfl ?_
      exact hR () dX7_hardens_29 (trivial) (e_ri (ex_n he c21)) (weq.rf)
set_option maxHeartbeats 1000000 in
set_option maxRecDepth 20000 in
theorem c_X7_turn (l : Launch) (Γ : eG) (h : Nat) (a : Nat → Nat) (hi : Bool) (lm : Nat) (rm : Nat) (pc : Nat) (bi : Int32) (sd : Int32) (r : Nat → Int32) (rf : Nat → Int32) (x : Int32) (k : Int32) (f : Int32) (hI : Inv r) : cD l Γ yX7_turn cX7_turn 6 (some .int) 2 [.ref h, .int x, .int k, .int f] [mo h a hi lm rm pc bi sd, eI Γ (a 0) 42 r, eI Γ (a 6) 7 rf] (some (.int (chE (eTurn r x k f) (nI 10 * r (iM (ix x) 0) + r (iM (ix x) 1)) (eTurn r x k f)))) [mo h a hi lm rm pc bi sd, eI Γ (a 0) 42 (chE (eTurn r x k f) (upd (upd r (iM (ix x) 0) k) (iM (ix x) 1) f) r), eI Γ (a 6) 7 (chE (eTurn r x k f) rf (nof rf (eTurn r x k f)))] := by
  refine e_int [(0, .ref h), (1, .int x), (2, .int k), (3, .int f)] (by decide +kernel) (Nat.le_of_ble_eq_true rfl) rfl (fun V K hR => ?_)
  have h5 := hI.g
  have h6 := hI.m
  refine r_aload_n K dX7_turn_0 0 rfl ?_
  refine r_iload_n K dX7_turn_1 1 rfl ?_
  refine r_cVd K dX7_turn_2 (c_X7_isMourner l Γ h a hi lm rm pc bi sd r x (hI)) mX7_isMourner q856 rfl (by decide) rfl rfl 3 rfl [0, 1] [2] rfl rfl [eI Γ (a 6) 7 rf] rfl [mo h a hi lm rm pc bi sd, eI Γ (a 0) 42 r, eI Γ (a 6) 7 rf] rfl rfl rfl [] rfl (Nat.le_of_ble_eq_true rfl) ?_
  refine r_ifneB K dX7_turn_5 (fun c5 => ?_) (fun c5 => ?_)
  · have hx := inN_e c5 (by omega)
    have lx := ix_lt c5 (by omega)
    refine r_lc (lv1 := [(0, .ref h), (1, .int (nI (ix x))), (2, .int k), (3, .int f)]) (congrArg (fun zz : Int32 => ([(0, .ref h), (1, .int zz), (2, .int k), (3, .int f)] : List (Nat × Value))) (hx)) ?_
    refine r_iload_n K dX7_turn_12 2 rfl ?_
    refine r_iconst K dX7_turn_13 (nI 0) (by decide) ?_
    refine r_iconst K dX7_turn_14 (nI 5) (by decide) ?_
    refine r_cSd K dX7_turn_15 (c_X7_isIn l Γ k (nI 0) (nI 5)) mX7_isIn q833 rfl (by decide) 3 rfl [] [0, 1, 2] rfl rfl [mo h a hi lm rm pc bi sd, eI Γ (a 0) 42 r, eI Γ (a 6) 7 rf] rfl [mo h a hi lm rm pc bi sd, eI Γ (a 0) 42 r, eI Γ (a 6) 7 rf] rfl rfl rfl [] rfl (Nat.le_of_ble_eq_true rfl) ?_
    refine r_ifneB K dX7_turn_18 (fun c18 => ?_) (fun c18 => ?_)
    · have hk := isInB_ok (lo := 0) (hi := 5) (by decide) (by decide) c18
      have lk := hk.2
      refine r_iload_n K dX7_turn_26 3 rfl ?_
      refine r_iconst K dX7_turn_27 (nI 0) (by decide) ?_
      refine r_bipush K dX7_turn_28 (nI 9) (by decide) ?_
      refine r_cSd K dX7_turn_30 (c_X7_wrongBy l Γ f (nI 0) (nI 9)) mX7_wrongBy q924 rfl (by decide) 3 rfl [] [0, 1, 2] rfl rfl [mo h a hi lm rm pc bi sd, eI Γ (a 0) 42 r, eI Γ (a 6) 7 rf] rfl [mo h a hi lm rm pc bi sd, eI Γ (a 0) 42 r, eI Γ (a 6) 7 rf] rfl rfl rfl [] rfl (Nat.le_of_ble_eq_true rfl) ?_
      refine r_istore K dX7_turn_33 (by decide) (lv1 := [(4, .int (wrS f (nI 0) (nI 9))), (0, .ref h), (1, .int (nI (ix x))), (2, .int k), (3, .int f)]) rfl ?_
      refine r_iload K dX7_turn_35 0 rfl ?_
      refine r_if_eq K dX7_turn_37 (fun c37 => ?_) (fun c37 => ?_)
      · have hf := wrS_ok (by decide) (by decide) c37
        have lf := hf.2
        refine r_bipush K dX7_turn_47 (nI 10) (by decide) ?_
        refine r_aload_n K dX7_turn_49 1 rfl ?_
        refine r_get K dX7_turn_50 (kf := 0) 0 rfl rfl hinX7 (by decide) q757 rfl rfl ?_
        refine r_iload_n K dX7_turn_53 2 rfl ?_
        refine r_iconst K dX7_turn_54 (nI 0) (by decide) ?_
        refine r_cSd K dX7_turn_55 (c_X7_ofM l Γ (ix x) 0) mX7_ofM q853 rfl (by decide) 3 rfl [] [0, 1, 2] rfl rfl [mo h a hi lm rm pc bi sd, eI Γ (a 0) 42 r, eI Γ (a 6) 7 rf] rfl [mo h a hi lm rm pc bi sd, eI Γ (a 0) 42 r, eI Γ (a 6) 7 rf] rfl rfl rfl [.ref (a 0), .int (nI 10)] rfl (Nat.le_of_ble_eq_true rfl) ?_
        refine r_aldN K dX7_turn_58 1 rfl (by first | omega | exact iG_lt (by omega) (by decide) | exact iM_lt (by omega) (by decide)) (by decide) ?_
        refine r_imul K dX7_turn_59 ?_
        refine r_aload_n K dX7_turn_60 1 rfl ?_
        refine r_get K dX7_turn_61 (kf := 0) 0 rfl rfl hinX7 (by decide) q757 rfl rfl ?_
        refine r_iload_n K dX7_turn_64 2 rfl ?_
        refine r_iconst K dX7_turn_65 (nI 1) (by decide) ?_
        refine r_cSd K dX7_turn_66 (c_X7_ofM l Γ (ix x) 1) mX7_ofM q853 rfl (by decide) 3 rfl [] [0, 1, 2] rfl rfl [mo h a hi lm rm pc bi sd, eI Γ (a 0) 42 r, eI Γ (a 6) 7 rf] rfl [mo h a hi lm rm pc bi sd, eI Γ (a 0) 42 r, eI Γ (a 6) 7 rf] rfl rfl rfl [.ref (a 0), .int ((nI 10) * (r (iM (ix x) 0)))] rfl (Nat.le_of_ble_eq_true rfl) ?_
        refine r_aldN K dX7_turn_69 1 rfl (by first | omega | exact iG_lt (by omega) (by decide) | exact iM_lt (by omega) (by decide)) (by decide) ?_
        refine r_iadd K dX7_turn_70 ?_
        refine r_istore K dX7_turn_71 (by decide) (lv1 := [(5, .int (((nI 10) * (r (iM (ix x) 0))) + (r (iM (ix x) 1)))), (4, .int (wrS f (nI 0) (nI 9))), (0, .ref h), (1, .int (nI (ix x))), (2, .int k), (3, .int f)]) rfl ?_
        refine r_aload_n K dX7_turn_73 2 rfl ?_
        refine r_get K dX7_turn_74 (kf := 0) 0 rfl rfl hinX7 (by decide) q757 rfl rfl ?_
        refine r_iload_n K dX7_turn_77 3 rfl ?_
        refine r_iconst K dX7_turn_78 (nI 0) (by decide) ?_
        refine r_cSd K dX7_turn_79 (c_X7_ofM l Γ (ix x) 0) mX7_ofM q853 rfl (by decide) 3 rfl [] [0, 1, 2] rfl rfl [mo h a hi lm rm pc bi sd, eI Γ (a 0) 42 r, eI Γ (a 6) 7 rf] rfl [mo h a hi lm rm pc bi sd, eI Γ (a 0) 42 r, eI Γ (a 6) 7 rf] rfl rfl rfl [.ref (a 0)] rfl (Nat.le_of_ble_eq_true rfl) ?_
        refine r_iload_n K dX7_turn_82 4 rfl ?_
        refine r_astN K dX7_turn_83 (ws1 := [mo h a hi lm rm pc bi sd, eI Γ (a 0) 42 (upd r (iM (ix x) 0) k), eI Γ (a 6) 7 rf]) 1 rfl (by first | omega | exact iG_lt (by omega) (by decide) | exact iM_lt (by omega) (by decide)) (by decide) rfl ?_
        refine r_aload_n K dX7_turn_84 2 rfl ?_
        refine r_get K dX7_turn_85 (kf := 0) 0 rfl rfl hinX7 (by decide) q757 rfl rfl ?_
        refine r_iload_n K dX7_turn_88 3 rfl ?_
        refine r_iconst K dX7_turn_89 (nI 1) (by decide) ?_
        refine r_cSd K dX7_turn_90 (c_X7_ofM l Γ (ix x) 1) mX7_ofM q853 rfl (by decide) 3 rfl [] [0, 1, 2] rfl rfl [mo h a hi lm rm pc bi sd, eI Γ (a 0) 42 (upd r (iM (ix x) 0) k), eI Γ (a 6) 7 rf] rfl [mo h a hi lm rm pc bi sd, eI Γ (a 0) 42 (upd r (iM (ix x) 0) k), eI Γ (a 6) 7 rf] rfl rfl rfl [.ref (a 0)] rfl (Nat.le_of_ble_eq_true rfl) ?_
        refine r_iload_n K dX7_turn_93 5 rfl ?_
        refine r_astN K dX7_turn_94 (ws1 := [mo h a hi lm rm pc bi sd, eI Γ (a 0) 42 (upd (upd r (iM (ix x) 0) k) (iM (ix x) 1) f), eI Γ (a 6) 7 rf]) 1 rfl (by first | omega | exact iG_lt (by omega) (by decide) | exact iM_lt (by omega) (by decide)) (by decide) rfl ?_
        refine r_iload K dX7_turn_95 0 rfl ?_
        have he : eTurn r x k f = 0 := by
          unfold eTurn
          rw [if_neg (not_not_intro c5), if_neg (not_not_intro c18), if_neg (not_not_intro c37)]
        refine r_arr K (f2 := chE (eTurn r x k f) rf (nof rf (eTurn r x k f))) (ws1 := [mo h a hi lm rm pc bi sd, eI Γ (a 0) 42 (upd (upd r (iM (ix x) 0) k) (iM (ix x) 1) f), eI Γ (a 6) 7 (chE (eTurn r x k f) rf (nof rf (eTurn r x k f)))]) 2 rfl (fun _ _ => by rw [chE_0 he]) rfl ?_
        refine r_arr K (f2 := chE (eTurn r x k f) (upd (upd r (iM (ix x) 0) k) (iM (ix x) 1) f) r) (ws1 := [mo h a hi lm rm pc bi sd, eI Γ (a 0) 42 (chE (eTurn r x k f) (upd (upd r (iM (ix x) 0) k) (iM (ix x) 1) f) r), eI Γ (a 6) 7 (chE (eTurn r x k f) rf (nof rf (eTurn r x k f)))]) 1 rfl (fun _ _ => by rw [chE_0 (a := upd (upd r (iM (ix x) 0) k) (iM (ix x) 1) f) (b := r) he]) rfl ?_
        exact hR () dX7_turn_97 (trivial) (e_ri (ex_0 he (rfl))) (weq.rf)
      · refine r_aload_n K dX7_turn_40 1 rfl ?_
        refine r_iload K dX7_turn_41 0 rfl ?_
        refine r_cVd K dX7_turn_43 (c_X7_no l Γ h a hi lm rm pc bi sd rf (wrS f (nI 0) (nI 9)) (okR_wr c37)) mX7_no q813 rfl (by decide) rfl rfl 3 rfl [0, 2] [1] rfl rfl [eI Γ (a 0) 42 r] rfl [mo h a hi lm rm pc bi sd, eI Γ (a 0) 42 r, eI Γ (a 6) 7 (nof rf (wrS f (nI 0) (nI 9)))] rfl rfl rfl [] rfl (Nat.le_of_ble_eq_true rfl) ?_
        have he : eTurn r x k f = wrS f (nI 0) (nI 9) := by
          unfold eTurn
          rw [if_neg (not_not_intro c5), if_neg (not_not_intro c18), if_pos c37]
        refine r_arr K (f2 := chE (eTurn r x k f) rf (nof rf (eTurn r x k f))) (ws1 := [mo h a hi lm rm pc bi sd, eI Γ (a 0) 42 r, eI Γ (a 6) 7 (chE (eTurn r x k f) rf (nof rf (eTurn r x k f)))]) 2 rfl (fun _ _ => by rw [ch_n (g := nof rf) he c37]) rfl ?_
        refine r_arr K (f2 := chE (eTurn r x k f) (upd (upd r (iM (ix x) 0) k) (iM (ix x) 1) f) r) (ws1 := [mo h a hi lm rm pc bi sd, eI Γ (a 0) 42 (chE (eTurn r x k f) (upd (upd r (iM (ix x) 0) k) (iM (ix x) 1) f) r), eI Γ (a 6) 7 (chE (eTurn r x k f) rf (nof rf (eTurn r x k f)))]) 1 rfl (fun _ _ => by rw [chE_n (a := upd (upd r (iM (ix x) 0) k) (iM (ix x) 1) f) (b := r) (by rw [he]; exact c37)]) rfl ?_
        exact hR () dX7_turn_46 (trivial) (e_ri (ex_n he c37)) (weq.rf)
    · refine r_bipush K dX7_turn_21 ((-2)) (by decide) ?_
      refine r_goto K dX7_turn_23 ?_
      refine r_istore K dX7_turn_33 (by decide) (lv1 := [(4, .int (-2)), (0, .ref h), (1, .int (nI (ix x))), (2, .int k), (3, .int f)]) rfl ?_
      refine r_iload K dX7_turn_35 0 rfl ?_
      refine r_if_eq K dX7_turn_37 (fun c37 => ?_) (fun c37 => ?_)
      · exact absurd c37 (by decide)
      · refine r_aload_n K dX7_turn_40 1 rfl ?_
        refine r_iload K dX7_turn_41 0 rfl ?_
        refine r_cVd K dX7_turn_43 (c_X7_no l Γ h a hi lm rm pc bi sd rf (-2) (okR_2)) mX7_no q813 rfl (by decide) rfl rfl 3 rfl [0, 2] [1] rfl rfl [eI Γ (a 0) 42 r] rfl [mo h a hi lm rm pc bi sd, eI Γ (a 0) 42 r, eI Γ (a 6) 7 (nof rf (-2))] rfl rfl rfl [] rfl (Nat.le_of_ble_eq_true rfl) ?_
        have he : eTurn r x k f = (-2) := by
          unfold eTurn
          rw [if_neg (not_not_intro c5), if_pos (nt c18)]
        refine r_arr K (f2 := chE (eTurn r x k f) rf (nof rf (eTurn r x k f))) (ws1 := [mo h a hi lm rm pc bi sd, eI Γ (a 0) 42 r, eI Γ (a 6) 7 (chE (eTurn r x k f) rf (nof rf (eTurn r x k f)))]) 2 rfl (fun _ _ => by rw [ch_n (g := nof rf) he (by decide)]) rfl ?_
        refine r_arr K (f2 := chE (eTurn r x k f) (upd (upd r (iM (ix x) 0) k) (iM (ix x) 1) f) r) (ws1 := [mo h a hi lm rm pc bi sd, eI Γ (a 0) 42 (chE (eTurn r x k f) (upd (upd r (iM (ix x) 0) k) (iM (ix x) 1) f) r), eI Γ (a 6) 7 (chE (eTurn r x k f) rf (nof rf (eTurn r x k f)))]) 1 rfl (fun _ _ => by rw [chE_n (a := upd (upd r (iM (ix x) 0) k) (iM (ix x) 1) f) (b := r) (by rw [he]; exact (by decide))]) rfl ?_
        exact hR () dX7_turn_46 (trivial) (e_ri (ex_n he (by decide))) (weq.rf)
  · refine r_iconst K dX7_turn_8 ((-1)) (by decide) ?_
    refine r_goto K dX7_turn_9 ?_
    refine r_istore K dX7_turn_33 (by decide) (lv1 := [(4, .int (-1)), (0, .ref h), (1, .int x), (2, .int k), (3, .int f)]) rfl ?_
    refine r_iload K dX7_turn_35 0 rfl ?_
    refine r_if_eq K dX7_turn_37 (fun c37 => ?_) (fun c37 => ?_)
    · exact absurd c37 (by decide)
    · refine r_aload_n K dX7_turn_40 1 rfl ?_
      refine r_iload K dX7_turn_41 0 rfl ?_
      refine r_cVd K dX7_turn_43 (c_X7_no l Γ h a hi lm rm pc bi sd rf (-1) (okR_1)) mX7_no q813 rfl (by decide) rfl rfl 3 rfl [0, 2] [1] rfl rfl [eI Γ (a 0) 42 r] rfl [mo h a hi lm rm pc bi sd, eI Γ (a 0) 42 r, eI Γ (a 6) 7 (nof rf (-1))] rfl rfl rfl [] rfl (Nat.le_of_ble_eq_true rfl) ?_
      have he : eTurn r x k f = (-1) := by
        unfold eTurn
        rw [if_pos (nt c5)]
      refine r_arr K (f2 := chE (eTurn r x k f) rf (nof rf (eTurn r x k f))) (ws1 := [mo h a hi lm rm pc bi sd, eI Γ (a 0) 42 r, eI Γ (a 6) 7 (chE (eTurn r x k f) rf (nof rf (eTurn r x k f)))]) 2 rfl (fun _ _ => by rw [ch_n (g := nof rf) he (by decide)]) rfl ?_
      refine r_arr K (f2 := chE (eTurn r x k f) (upd (upd r (iM (ix x) 0) k) (iM (ix x) 1) f) r) (ws1 := [mo h a hi lm rm pc bi sd, eI Γ (a 0) 42 (chE (eTurn r x k f) (upd (upd r (iM (ix x) 0) k) (iM (ix x) 1) f) r), eI Γ (a 6) 7 (chE (eTurn r x k f) rf (nof rf (eTurn r x k f)))]) 1 rfl (fun _ _ => by rw [chE_n (a := upd (upd r (iM (ix x) 0) k) (iM (ix x) 1) f) (b := r) (by rw [he]; exact (by decide))]) rfl ?_
      exact hR () dX7_turn_46 (trivial) (e_ri (ex_n he (by decide))) (weq.rf)
set_option maxHeartbeats 1000000 in
set_option maxRecDepth 20000 in
theorem c_X7_days (l : Launch) (Γ : eG) (h : Nat) (a : Nat → Nat) (hi : Bool) (lm : Nat) (rm : Nat) (pc : Nat) (bi : Int32) (sd : Int32) (r : Nat → Int32) (rf : Nat → Int32) (n : Int32) (hI : Inv r) : cD l Γ yX7_days cX7_days 2 (some .int) 4 [.ref h, .int n] [mo h a hi lm rm pc bi sd, eI Γ (a 0) 42 r, eI Γ (a 6) 7 rf] (some (.int (chE (eDays r n) (payS (daysS r (ix n))) (eDays r n)))) [mo h a hi lm rm pc bi sd, eI Γ (a 0) 42 (chE (eDays r n) (daysS r (ix n)) r), eI Γ (a 6) 7 (chE (eDays r n) rf (nof rf (eDays r n)))] := by
  refine e_int [(0, .ref h), (1, .int n)] (by decide +kernel) (Nat.le_of_ble_eq_true rfl) rfl (fun V K hR => ?_)
  have h5 := hI.g
  have h6 := hI.m
  refine r_iload_n K dX7_days_0 1 rfl ?_
  refine r_iconst K dX7_days_1 (nI 1) (by decide) ?_
  refine r_ic_ge K dX7_days_2 (fun c2 => ?_) (fun c2 => ?_)
  · have n1 := Int32.not_lt.mpr c2
    refine r_iload_n K dX7_days_12 1 rfl ?_
    refine r_bipush K dX7_days_13 (nI 60) (by decide) ?_
    refine r_ic_gt K dX7_days_15 (fun c15 => ?_) (fun c15 => ?_)
    · refine r_aload_n K dX7_days_32 0 rfl ?_
      refine r_bipush K dX7_days_33 ((-6)) (by decide) ?_
      refine r_cVd K dX7_days_35 (c_X7_no l Γ h a hi lm rm pc bi sd rf (-6) (okR_6)) mX7_no q813 rfl (by decide) rfl rfl 3 rfl [0, 2] [1] rfl rfl [eI Γ (a 0) 42 r] rfl [mo h a hi lm rm pc bi sd, eI Γ (a 0) 42 r, eI Γ (a 6) 7 (nof rf (-6))] rfl rfl rfl [] rfl (Nat.le_of_ble_eq_true rfl) ?_
      have he : eDays r n = (-6) := by
        unfold eDays
        rw [if_pos (by rw [wrS_hi n1 c15]; decide), wrS_hi n1 c15]
      refine r_arr K (f2 := chE (eDays r n) rf (nof rf (eDays r n))) (ws1 := [mo h a hi lm rm pc bi sd, eI Γ (a 0) 42 r, eI Γ (a 6) 7 (chE (eDays r n) rf (nof rf (eDays r n)))]) 2 rfl (fun _ _ => by rw [ch_n (g := nof rf) he (by decide)]) rfl ?_
      refine r_arr K (f2 := chE (eDays r n) (daysS r (ix n)) r) (ws1 := [mo h a hi lm rm pc bi sd, eI Γ (a 0) 42 (chE (eDays r n) (daysS r (ix n)) r), eI Γ (a 6) 7 (chE (eDays r n) rf (nof rf (eDays r n)))]) 1 rfl (fun _ _ => by rw [chE_n (a := daysS r (ix n)) (b := r) (by rw [he]; exact (by decide))]) rfl ?_
      exact hR () dX7_days_38 (trivial) (e_ri (ex_n he (by decide))) (weq.rf)
    · have hz : wrS n (nI 1) (nI 60) = 0 := wrS_0 n1 c15
      have hn := wrS_ok (by decide) (by decide) hz
      have ln := hn.2
      refine r_lc (lv1 := [(0, .ref h), (1, .int (nI (ix n)))]) (congrArg (fun zz : Int32 => ([(0, .ref h), (1, .int zz)] : List (Nat × Value))) (hn.1)) ?_
      refine r_aload_n K dX7_days_18 0 rfl ?_
      refine r_get K dX7_days_19 (kf := 0) 0 rfl rfl hinX7 (by decide) q757 rfl rfl ?_
      refine r_iconst K dX7_days_22 (nI 2) (by decide) ?_
      refine r_aldN K dX7_days_23 1 rfl (by first | omega | exact iG_lt (by omega) (by decide) | exact iM_lt (by omega) (by decide)) (by decide) ?_
      refine r_iload_n K dX7_days_24 1 rfl ?_
      refine r_iadd K dX7_days_25 ?_
      refine r_sipush K dX7_days_26 (nI 999) (by decide) ?_
      refine r_ic_le K dX7_days_29 (fun c29 => ?_) (fun c29 => ?_)
      · rw [← hn.1] at c29
        refine r_aload_n K dX7_days_39 0 rfl ?_
        refine r_get K dX7_days_40 (kf := 0) 0 rfl rfl hinX7 (by decide) q757 rfl rfl ?_
        refine r_iload_n K dX7_days_43 1 rfl ?_
        refine r_cSn K dX7_days_44 (c_X7_daysOn l Γ (a 0) r (ix n) (hI) (by first | assumption | omega)) mX7_daysOn q873 rfl (by decide) 3 rfl [1] [0, 2] rfl rfl [mo h a hi lm rm pc bi sd, eI Γ (a 6) 7 rf] rfl [mo h a hi lm rm pc bi sd, eI Γ (a 0) 42 (daysS r (ix n)), eI Γ (a 6) 7 rf] rfl rfl rfl [] rfl (Nat.le_of_ble_eq_true rfl) ?_
        refine r_aload_n K dX7_days_47 0 rfl ?_
        refine r_get K dX7_days_48 (kf := 0) 0 rfl rfl hinX7 (by decide) q757 rfl rfl ?_
        refine r_cSd K dX7_days_51 (c_X7_payIn l Γ (a 0) (daysS r (ix n)) (Inv_daysS (hI) (ix n))) mX7_payIn q939 rfl (by decide) 3 rfl [1] [0, 2] rfl rfl [mo h a hi lm rm pc bi sd, eI Γ (a 6) 7 rf] rfl [mo h a hi lm rm pc bi sd, eI Γ (a 0) 42 (daysS r (ix n)), eI Γ (a 6) 7 rf] rfl rfl rfl [] rfl (Nat.le_of_ble_eq_true rfl) ?_
        have he : eDays r n = 0 := by
          unfold eDays
          rw [if_neg (not_not_intro hz), if_neg (not_not_intro c29)]
        refine r_arr K (f2 := chE (eDays r n) rf (nof rf (eDays r n))) (ws1 := [mo h a hi lm rm pc bi sd, eI Γ (a 0) 42 (daysS r (ix n)), eI Γ (a 6) 7 (chE (eDays r n) rf (nof rf (eDays r n)))]) 2 rfl (fun _ _ => by rw [chE_0 he]) rfl ?_
        refine r_arr K (f2 := chE (eDays r n) (daysS r (ix n)) r) (ws1 := [mo h a hi lm rm pc bi sd, eI Γ (a 0) 42 (chE (eDays r n) (daysS r (ix n)) r), eI Γ (a 6) 7 (chE (eDays r n) rf (nof rf (eDays r n)))]) 1 rfl (fun _ _ => by rw [chE_0 (a := daysS r (ix n)) (b := r) he]) rfl ?_
        exact hR () dX7_days_54 (trivial) (e_ri (ex_0 he (rfl))) (weq.rf)
      · rw [← hn.1] at c29
        refine r_aload_n K dX7_days_32 0 rfl ?_
        refine r_bipush K dX7_days_33 ((-6)) (by decide) ?_
        refine r_cVd K dX7_days_35 (c_X7_no l Γ h a hi lm rm pc bi sd rf (-6) (okR_6)) mX7_no q813 rfl (by decide) rfl rfl 3 rfl [0, 2] [1] rfl rfl [eI Γ (a 0) 42 r] rfl [mo h a hi lm rm pc bi sd, eI Γ (a 0) 42 r, eI Γ (a 6) 7 (nof rf (-6))] rfl rfl rfl [] rfl (Nat.le_of_ble_eq_true rfl) ?_
        have he : eDays r n = (-6) := by
          unfold eDays
          rw [if_neg (not_not_intro hz), if_pos c29]
        refine r_arr K (f2 := chE (eDays r n) rf (nof rf (eDays r n))) (ws1 := [mo h a hi lm rm pc bi sd, eI Γ (a 0) 42 r, eI Γ (a 6) 7 (chE (eDays r n) rf (nof rf (eDays r n)))]) 2 rfl (fun _ _ => by rw [ch_n (g := nof rf) he (by decide)]) rfl ?_
        refine r_arr K (f2 := chE (eDays r n) (daysS r (ix n)) r) (ws1 := [mo h a hi lm rm pc bi sd, eI Γ (a 0) 42 (chE (eDays r n) (daysS r (ix n)) r), eI Γ (a 6) 7 (chE (eDays r n) rf (nof rf (eDays r n)))]) 1 rfl (fun _ _ => by rw [chE_n (a := daysS r (ix n)) (b := r) (by rw [he]; exact (by decide))]) rfl ?_
        exact hR () dX7_days_38 (trivial) (e_ri (ex_n he (by decide))) (weq.rf)
  · refine r_aload_n K dX7_days_5 0 rfl ?_
    refine r_bipush K dX7_days_6 ((-4)) (by decide) ?_
    refine r_cVd K dX7_days_8 (c_X7_no l Γ h a hi lm rm pc bi sd rf (-4) (okR_4)) mX7_no q813 rfl (by decide) rfl rfl 3 rfl [0, 2] [1] rfl rfl [eI Γ (a 0) 42 r] rfl [mo h a hi lm rm pc bi sd, eI Γ (a 0) 42 r, eI Γ (a 6) 7 (nof rf (-4))] rfl rfl rfl [] rfl (Nat.le_of_ble_eq_true rfl) ?_
    have he : eDays r n = (-4) := by
      unfold eDays
      rw [if_pos (by rw [wrS_lo (Int32.not_le.mp c2)]; decide), wrS_lo (Int32.not_le.mp c2)]
    refine r_arr K (f2 := chE (eDays r n) rf (nof rf (eDays r n))) (ws1 := [mo h a hi lm rm pc bi sd, eI Γ (a 0) 42 r, eI Γ (a 6) 7 (chE (eDays r n) rf (nof rf (eDays r n)))]) 2 rfl (fun _ _ => by rw [ch_n (g := nof rf) he (by decide)]) rfl ?_
    refine r_arr K (f2 := chE (eDays r n) (daysS r (ix n)) r) (ws1 := [mo h a hi lm rm pc bi sd, eI Γ (a 0) 42 (chE (eDays r n) (daysS r (ix n)) r), eI Γ (a 6) 7 (chE (eDays r n) rf (nof rf (eDays r n)))]) 1 rfl (fun _ _ => by rw [chE_n (a := daysS r (ix n)) (b := r) (by rw [he]; exact (by decide))]) rfl ?_
    exact hR () dX7_days_11 (trivial) (e_ri (ex_n he (by decide))) (weq.rf)
set_option maxHeartbeats 1000000 in
set_option maxRecDepth 20000 in
theorem c_X7_takes (l : Launch) (Γ : eG) (h : Nat) (a : Nat → Nat) (hi : Bool) (lm : Nat) (rm : Nat) (pc : Nat) (bi : Int32) (sd : Int32) (r : Nat → Int32) (q : Nat → Int32) (n : Nat) (hI : Inv r) (hn : n < 2 ^ 31) : cD l Γ yX7_takes cX7_takes 2 (none) 4 [.ref h, .int (nI n)] [mo h a hi lm rm pc bi sd, eI Γ (a 0) 42 r, eI Γ (a 1) 42 q] none [mo h a hi lm rm pc bi sd, eI Γ (a 0) 42 r, eI Γ (a 1) 42 (daysS r n)] := by
  refine e_void [(0, .ref h), (1, .int (nI n))] (by decide +kernel) (Nat.le_of_ble_eq_true rfl) rfl (fun V K hR => ?_)
  have h5 := hI.g
  have h6 := hI.m
  refine r_aload_n K dX7_takes_0 0 rfl ?_
  refine r_get K dX7_takes_1 (kf := 0) 0 rfl rfl hinX7 (by decide) q757 rfl rfl ?_
  refine r_aload_n K dX7_takes_4 0 rfl ?_
  refine r_get K dX7_takes_5 (kf := 1) 0 rfl rfl hinX7 (by decide) q758 rfl rfl ?_
  refine r_cSn K dX7_takes_8 (c_X7_copies l Γ (a 0) (a 1) r q) mX7_copies q843 rfl (by decide) 3 rfl [1, 2] [0] rfl rfl [mo h a hi lm rm pc bi sd] rfl [mo h a hi lm rm pc bi sd, eI Γ (a 0) 42 r, eI Γ (a 1) 42 r] rfl rfl rfl [] rfl (Nat.le_of_ble_eq_true rfl) ?_
  refine r_aload_n K dX7_takes_11 0 rfl ?_
  refine r_get K dX7_takes_12 (kf := 1) 0 rfl rfl hinX7 (by decide) q758 rfl rfl ?_
  refine r_iload_n K dX7_takes_15 1 rfl ?_
  refine r_cSn K dX7_takes_16 (c_X7_daysOn l Γ (a 1) r n (hI) (by first | assumption | omega)) mX7_daysOn q873 rfl (by decide) 3 rfl [2] [0, 1] rfl rfl [mo h a hi lm rm pc bi sd, eI Γ (a 0) 42 r] rfl [mo h a hi lm rm pc bi sd, eI Γ (a 0) 42 r, eI Γ (a 1) 42 (daysS r n)] rfl rfl rfl [] rfl (Nat.le_of_ble_eq_true rfl) ?_
  exact hR () dX7_takes_19 (trivial) rfl (weq.rf)
set_option maxHeartbeats 1000000 in
set_option maxRecDepth 20000 in
theorem c_X7_graveThen (l : Launch) (Γ : eG) (h : Nat) (a : Nat → Nat) (hi : Bool) (lm : Nat) (rm : Nat) (pc : Nat) (bi : Int32) (sd : Int32) (r : Nat → Int32) (q : Nat → Int32) (rf : Nat → Int32) (x : Int32) (n : Int32) (w : Int32) (hI : Inv r) : cE l Γ yX7_graveThen cX7_graveThen 5 (some .int) 5 [.ref h, .int x, .int n, .int w] [mo h a hi lm rm pc bi sd, eI Γ (a 0) 42 r, eI Γ (a 1) 42 q, eI Γ (a 6) 7 rf] (S := Nat → Int32) (fun u => True) (fun u => (some (.int (chE (eGraveThen r x n w) (daysS r (ix n) (iG (ix x) (1 + ix w))) (eGraveThen r x n w))))) (fun u => [mo h a hi lm rm pc bi sd, eI Γ (a 0) 42 r, eI Γ (a 1) 42 u, eI Γ (a 6) 7 (chE (eGraveThen r x n w) rf (nof rf (eGraveThen r x n w)))]) := by
  refine e_int [(0, .ref h), (1, .int x), (2, .int n), (3, .int w)] (by decide +kernel) (Nat.le_of_ble_eq_true rfl) rfl (fun V K hR => ?_)
  have h5 := hI.g
  have h6 := hI.m
  refine r_aload_n K dX7_graveThen_0 0 rfl ?_
  refine r_iload_n K dX7_graveThen_1 1 rfl ?_
  refine r_cVd K dX7_graveThen_2 (c_X7_isGrave l Γ h a hi lm rm pc bi sd r x (hI)) mX7_isGrave q860 rfl (by decide) rfl rfl 4 rfl [0, 1] [2, 3] rfl rfl [eI Γ (a 1) 42 q, eI Γ (a 6) 7 rf] rfl [mo h a hi lm rm pc bi sd, eI Γ (a 0) 42 r, eI Γ (a 1) 42 q, eI Γ (a 6) 7 rf] rfl rfl rfl [] rfl (Nat.le_of_ble_eq_true rfl) ?_
  refine r_ifeqB K dX7_graveThen_5 (fun c5 => ?_) (fun c5 => ?_)
  · refine r_iconst K dX7_graveThen_18 ((-1)) (by decide) ?_
    refine r_istore K dX7_graveThen_19 (by decide) (lv1 := [(4, .int (-1)), (0, .ref h), (1, .int x), (2, .int n), (3, .int w)]) rfl ?_
    refine r_iload K dX7_graveThen_21 0 rfl ?_
    refine r_if_ne K dX7_graveThen_23 (fun c23 => ?_) (fun c23 => ?_)
    · refine r_iload K dX7_graveThen_39 0 rfl ?_
      refine r_if_eq K dX7_graveThen_41 (fun c41 => ?_) (fun c41 => ?_)
      · exact absurd c41 (by decide)
      · refine r_aload_n K dX7_graveThen_44 1 rfl ?_
        refine r_iload K dX7_graveThen_45 0 rfl ?_
        refine r_cVd K dX7_graveThen_47 (c_X7_no l Γ h a hi lm rm pc bi sd rf (-1) (okR_1)) mX7_no q813 rfl (by decide) rfl rfl 4 rfl [0, 3] [1, 2] rfl rfl [eI Γ (a 0) 42 r, eI Γ (a 1) 42 q] rfl [mo h a hi lm rm pc bi sd, eI Γ (a 0) 42 r, eI Γ (a 1) 42 q, eI Γ (a 6) 7 (nof rf (-1))] rfl rfl rfl [] rfl (Nat.le_of_ble_eq_true rfl) ?_
        have he : eGraveThen r x n w = (-1) := by
          unfold eGraveThen
          rw [if_pos (nt c5)]
        refine r_arr K (f2 := chE (eGraveThen r x n w) rf (nof rf (eGraveThen r x n w))) (ws1 := [mo h a hi lm rm pc bi sd, eI Γ (a 0) 42 r, eI Γ (a 1) 42 q, eI Γ (a 6) 7 (chE (eGraveThen r x n w) rf (nof rf (eGraveThen r x n w)))]) 3 rfl (fun _ _ => by rw [ch_n (g := nof rf) he (by decide)]) rfl ?_
        exact hR q dX7_graveThen_50 (trivial) (e_ri (ex_n he (by decide))) (weq.rf)
    · exact absurd c23 (by decide)
  · have hx := inN_e c5 (by omega)
    have lx := ix_lt c5 (by omega)
    refine r_lc (lv1 := [(0, .ref h), (1, .int (nI (ix x))), (2, .int n), (3, .int w)]) (congrArg (fun zz : Int32 => ([(0, .ref h), (1, .int zz), (2, .int n), (3, .int w)] : List (Nat × Value))) (hx)) ?_
    refine r_iload_n K dX7_graveThen_8 2 rfl ?_
    refine r_iconst K dX7_graveThen_9 (nI 0) (by decide) ?_
    refine r_bipush K dX7_graveThen_10 (nI 60) (by decide) ?_
    refine r_cSd K dX7_graveThen_12 (c_X7_wrongBy l Γ n (nI 0) (nI 60)) mX7_wrongBy q924 rfl (by decide) 4 rfl [] [0, 1, 2, 3] rfl rfl [mo h a hi lm rm pc bi sd, eI Γ (a 0) 42 r, eI Γ (a 1) 42 q, eI Γ (a 6) 7 rf] rfl [mo h a hi lm rm pc bi sd, eI Γ (a 0) 42 r, eI Γ (a 1) 42 q, eI Γ (a 6) 7 rf] rfl rfl rfl [] rfl (Nat.le_of_ble_eq_true rfl) ?_
    refine r_goto K dX7_graveThen_15 ?_
    refine r_istore K dX7_graveThen_19 (by decide) (lv1 := [(4, .int (wrS n (nI 0) (nI 60))), (0, .ref h), (1, .int (nI (ix x))), (2, .int n), (3, .int w)]) rfl ?_
    refine r_iload K dX7_graveThen_21 0 rfl ?_
    refine r_if_ne K dX7_graveThen_23 (fun c23 => ?_) (fun c23 => ?_)
    · refine r_iload K dX7_graveThen_39 0 rfl ?_
      refine r_if_eq K dX7_graveThen_41 (fun c41 => ?_) (fun c41 => ?_)
      · exact absurd c41 c23
      · refine r_aload_n K dX7_graveThen_44 1 rfl ?_
        refine r_iload K dX7_graveThen_45 0 rfl ?_
        refine r_cVd K dX7_graveThen_47 (c_X7_no l Γ h a hi lm rm pc bi sd rf (wrS n (nI 0) (nI 60)) (okR_wr c23)) mX7_no q813 rfl (by decide) rfl rfl 4 rfl [0, 3] [1, 2] rfl rfl [eI Γ (a 0) 42 r, eI Γ (a 1) 42 q] rfl [mo h a hi lm rm pc bi sd, eI Γ (a 0) 42 r, eI Γ (a 1) 42 q, eI Γ (a 6) 7 (nof rf (wrS n (nI 0) (nI 60)))] rfl rfl rfl [] rfl (Nat.le_of_ble_eq_true rfl) ?_
        have he : eGraveThen r x n w = wrS n (nI 0) (nI 60) := by
          unfold eGraveThen
          rw [if_neg (not_not_intro c5), if_pos c23]
        refine r_arr K (f2 := chE (eGraveThen r x n w) rf (nof rf (eGraveThen r x n w))) (ws1 := [mo h a hi lm rm pc bi sd, eI Γ (a 0) 42 r, eI Γ (a 1) 42 q, eI Γ (a 6) 7 (chE (eGraveThen r x n w) rf (nof rf (eGraveThen r x n w)))]) 3 rfl (fun _ _ => by rw [ch_n (g := nof rf) he c23]) rfl ?_
        exact hR q dX7_graveThen_50 (trivial) (e_ri (ex_n he c23)) (weq.rf)
    · have hn := wrS_ok (by decide) (by decide) c23
      have ln := hn.2
      refine r_lc (lv1 := [(4, .int (wrS n (nI 0) (nI 60))), (0, .ref h), (1, .int (nI (ix x))), (2, .int (nI (ix n))), (3, .int w)]) (congrArg (fun zz : Int32 => ([(4, .int (wrS n (nI 0) (nI 60))), (0, .ref h), (1, .int (nI (ix x))), (2, .int zz), (3, .int w)] : List (Nat × Value))) (hn.1)) ?_
      refine r_iload_n K dX7_graveThen_26 4 rfl ?_
      refine r_iconst K dX7_graveThen_27 (nI 0) (by decide) ?_
      refine r_iconst K dX7_graveThen_28 (nI 1) (by decide) ?_
      refine r_cSd K dX7_graveThen_29 (c_X7_isIn l Γ w (nI 0) (nI 1)) mX7_isIn q833 rfl (by decide) 4 rfl [] [0, 1, 2, 3] rfl rfl [mo h a hi lm rm pc bi sd, eI Γ (a 0) 42 r, eI Γ (a 1) 42 q, eI Γ (a 6) 7 rf] rfl [mo h a hi lm rm pc bi sd, eI Γ (a 0) 42 r, eI Γ (a 1) 42 q, eI Γ (a 6) 7 rf] rfl rfl rfl [] rfl (Nat.le_of_ble_eq_true rfl) ?_
      refine r_ifneB K dX7_graveThen_32 (fun c32 => ?_) (fun c32 => ?_)
      · have hw := isInB_ok (lo := 0) (hi := 1) (by decide) (by decide) c32
        have lw := hw.2
        refine r_lc (lv1 := [(4, .int (wrS n (nI 0) (nI 60))), (0, .ref h), (1, .int (nI (ix x))), (2, .int (nI (ix n))), (3, .int (nI (ix w)))]) (congrArg (fun zz : Int32 => ([(4, .int (wrS n (nI 0) (nI 60))), (0, .ref h), (1, .int (nI (ix x))), (2, .int (nI (ix n))), (3, .int zz)] : List (Nat × Value))) (hw.1)) ?_
        refine r_iload K dX7_graveThen_39 0 rfl ?_
        refine r_if_eq K dX7_graveThen_41 (fun c41 => ?_) (fun c41 => ?_)
        · refine r_aload_n K dX7_graveThen_51 1 rfl ?_
          refine r_iload_n K dX7_graveThen_52 3 rfl ?_
          refine r_cVn K dX7_graveThen_53 (c_X7_takes l Γ h a hi lm rm pc bi sd r q (ix n) (hI) (by first | assumption | omega)) mX7_takes q946 rfl (by decide) rfl rfl 4 rfl [0, 1, 2] [3] rfl rfl [eI Γ (a 6) 7 rf] rfl [mo h a hi lm rm pc bi sd, eI Γ (a 0) 42 r, eI Γ (a 1) 42 (daysS r (ix n)), eI Γ (a 6) 7 rf] rfl rfl rfl [] rfl (Nat.le_of_ble_eq_true rfl) ?_
          refine r_aload_n K dX7_graveThen_56 1 rfl ?_
          refine r_get K dX7_graveThen_57 (kf := 1) 0 rfl rfl hinX7 (by decide) q758 rfl rfl ?_
          refine r_iload_n K dX7_graveThen_60 2 rfl ?_
          refine r_iconst K dX7_graveThen_61 (nI 1) (by decide) ?_
          refine r_iload_n K dX7_graveThen_62 4 rfl ?_
          refine r_iaddN K dX7_graveThen_63 ?_
          refine r_cSd K dX7_graveThen_64 (c_X7_ofG l Γ (ix x) (1 + (ix w))) mX7_ofG q850 rfl (by decide) 4 rfl [] [0, 1, 2, 3] rfl rfl [mo h a hi lm rm pc bi sd, eI Γ (a 0) 42 r, eI Γ (a 1) 42 (daysS r (ix n)), eI Γ (a 6) 7 rf] rfl [mo h a hi lm rm pc bi sd, eI Γ (a 0) 42 r, eI Γ (a 1) 42 (daysS r (ix n)), eI Γ (a 6) 7 rf] rfl rfl rfl [.ref (a 1)] rfl (Nat.le_of_ble_eq_true rfl) ?_
          refine r_aldN K dX7_graveThen_67 2 rfl (iG_lt (by omega) (by omega)) (by decide) ?_
          have he : eGraveThen r x n w = 0 := by
            unfold eGraveThen
            rw [if_neg (not_not_intro c5), if_neg (not_not_intro c23), if_neg (not_not_intro c32)]
          refine r_arr K (f2 := chE (eGraveThen r x n w) rf (nof rf (eGraveThen r x n w))) (ws1 := [mo h a hi lm rm pc bi sd, eI Γ (a 0) 42 r, eI Γ (a 1) 42 (daysS r (ix n)), eI Γ (a 6) 7 (chE (eGraveThen r x n w) rf (nof rf (eGraveThen r x n w)))]) 3 rfl (fun _ _ => by rw [chE_0 he]) rfl ?_
          exact hR (daysS r (ix n)) dX7_graveThen_68 (trivial) (e_ri (ex_0 he (rfl))) (weq.rf)
        · exact absurd c23 c41
      · refine r_bipush K dX7_graveThen_35 ((-2)) (by decide) ?_
        refine r_istore K dX7_graveThen_37 (by decide) (lv1 := [(4, .int (-2)), (0, .ref h), (1, .int (nI (ix x))), (2, .int (nI (ix n))), (3, .int w)]) rfl ?_
        refine r_iload K dX7_graveThen_39 0 rfl ?_
        refine r_if_eq K dX7_graveThen_41 (fun c41 => ?_) (fun c41 => ?_)
        · exact absurd c41 (by decide)
        · refine r_aload_n K dX7_graveThen_44 1 rfl ?_
          refine r_iload K dX7_graveThen_45 0 rfl ?_
          refine r_cVd K dX7_graveThen_47 (c_X7_no l Γ h a hi lm rm pc bi sd rf (-2) (okR_2)) mX7_no q813 rfl (by decide) rfl rfl 4 rfl [0, 3] [1, 2] rfl rfl [eI Γ (a 0) 42 r, eI Γ (a 1) 42 q] rfl [mo h a hi lm rm pc bi sd, eI Γ (a 0) 42 r, eI Γ (a 1) 42 q, eI Γ (a 6) 7 (nof rf (-2))] rfl rfl rfl [] rfl (Nat.le_of_ble_eq_true rfl) ?_
          have he : eGraveThen r x n w = (-2) := by
            unfold eGraveThen
            rw [if_neg (not_not_intro c5), if_neg (not_not_intro c23), if_pos (nt c32)]
          refine r_arr K (f2 := chE (eGraveThen r x n w) rf (nof rf (eGraveThen r x n w))) (ws1 := [mo h a hi lm rm pc bi sd, eI Γ (a 0) 42 r, eI Γ (a 1) 42 q, eI Γ (a 6) 7 (chE (eGraveThen r x n w) rf (nof rf (eGraveThen r x n w)))]) 3 rfl (fun _ _ => by rw [ch_n (g := nof rf) he (by decide)]) rfl ?_
          exact hR q dX7_graveThen_50 (trivial) (e_ri (ex_n he (by decide))) (weq.rf)
set_option maxHeartbeats 1000000 in
set_option maxRecDepth 20000 in
theorem c_X7_griefThen (l : Launch) (Γ : eG) (h : Nat) (a : Nat → Nat) (hi : Bool) (lm : Nat) (rm : Nat) (pc : Nat) (bi : Int32) (sd : Int32) (r : Nat → Int32) (q : Nat → Int32) (rf : Nat → Int32) (x : Int32) (n : Int32) (hI : Inv r) : cE l Γ yX7_griefThen cX7_griefThen 4 (some .int) 5 [.ref h, .int x, .int n] [mo h a hi lm rm pc bi sd, eI Γ (a 0) 42 r, eI Γ (a 1) 42 q, eI Γ (a 6) 7 rf] (S := Nat → Int32) (fun u => True) (fun u => (some (.int (chE (eMoW r x n (nI 0) (nI 60)) (daysS r (ix n) (iM (ix x) 2)) (eMoW r x n (nI 0) (nI 60)))))) (fun u => [mo h a hi lm rm pc bi sd, eI Γ (a 0) 42 r, eI Γ (a 1) 42 u, eI Γ (a 6) 7 (chE (eMoW r x n (nI 0) (nI 60)) rf (nof rf (eMoW r x n (nI 0) (nI 60))))]) := by
  refine e_int [(0, .ref h), (1, .int x), (2, .int n)] (by decide +kernel) (Nat.le_of_ble_eq_true rfl) rfl (fun V K hR => ?_)
  have h5 := hI.g
  have h6 := hI.m
  refine r_aload_n K dX7_griefThen_0 0 rfl ?_
  refine r_iload_n K dX7_griefThen_1 1 rfl ?_
  refine r_cVd K dX7_griefThen_2 (c_X7_isMourner l Γ h a hi lm rm pc bi sd r x (hI)) mX7_isMourner q856 rfl (by decide) rfl rfl 4 rfl [0, 1] [2, 3] rfl rfl [eI Γ (a 1) 42 q, eI Γ (a 6) 7 rf] rfl [mo h a hi lm rm pc bi sd, eI Γ (a 0) 42 r, eI Γ (a 1) 42 q, eI Γ (a 6) 7 rf] rfl rfl rfl [] rfl (Nat.le_of_ble_eq_true rfl) ?_
  refine r_ifeqB K dX7_griefThen_5 (fun c5 => ?_) (fun c5 => ?_)
  · refine r_iconst K dX7_griefThen_18 ((-1)) (by decide) ?_
    refine r_istore_n K dX7_griefThen_19 rfl (by decide) (lv1 := [(3, .int (-1)), (0, .ref h), (1, .int x), (2, .int n)]) rfl ?_
    refine r_iload_n K dX7_griefThen_20 0 rfl ?_
    refine r_if_eq K dX7_griefThen_21 (fun c21 => ?_) (fun c21 => ?_)
    · exact absurd c21 (by decide)
    · refine r_aload_n K dX7_griefThen_24 1 rfl ?_
      refine r_iload_n K dX7_griefThen_25 0 rfl ?_
      refine r_cVd K dX7_griefThen_26 (c_X7_no l Γ h a hi lm rm pc bi sd rf (-1) (okR_1)) mX7_no q813 rfl (by decide) rfl rfl 4 rfl [0, 3] [1, 2] rfl rfl [eI Γ (a 0) 42 r, eI Γ (a 1) 42 q] rfl [mo h a hi lm rm pc bi sd, eI Γ (a 0) 42 r, eI Γ (a 1) 42 q, eI Γ (a 6) 7 (nof rf (-1))] rfl rfl rfl [] rfl (Nat.le_of_ble_eq_true rfl) ?_
      have he : eMoW r x n (nI 0) (nI 60) = (-1) := by
        unfold eMoW
        rw [if_pos (nt c5)]
      refine r_arr K (f2 := chE (eMoW r x n (nI 0) (nI 60)) rf (nof rf (eMoW r x n (nI 0) (nI 60)))) (ws1 := [mo h a hi lm rm pc bi sd, eI Γ (a 0) 42 r, eI Γ (a 1) 42 q, eI Γ (a 6) 7 (chE (eMoW r x n (nI 0) (nI 60)) rf (nof rf (eMoW r x n (nI 0) (nI 60))))]) 3 rfl (fun _ _ => by rw [ch_n (g := nof rf) he (by decide)]) rfl ?_
      exact hR q dX7_griefThen_29 (trivial) (e_ri (ex_n he (by decide))) (weq.rf)
  · have hx := inN_e c5 (by omega)
    have lx := ix_lt c5 (by omega)
    refine r_lc (lv1 := [(0, .ref h), (1, .int (nI (ix x))), (2, .int n)]) (congrArg (fun zz : Int32 => ([(0, .ref h), (1, .int zz), (2, .int n)] : List (Nat × Value))) (hx)) ?_
    refine r_iload_n K dX7_griefThen_8 2 rfl ?_
    refine r_iconst K dX7_griefThen_9 (nI 0) (by decide) ?_
    refine r_bipush K dX7_griefThen_10 (nI 60) (by decide) ?_
    refine r_cSd K dX7_griefThen_12 (c_X7_wrongBy l Γ n (nI 0) (nI 60)) mX7_wrongBy q924 rfl (by decide) 4 rfl [] [0, 1, 2, 3] rfl rfl [mo h a hi lm rm pc bi sd, eI Γ (a 0) 42 r, eI Γ (a 1) 42 q, eI Γ (a 6) 7 rf] rfl [mo h a hi lm rm pc bi sd, eI Γ (a 0) 42 r, eI Γ (a 1) 42 q, eI Γ (a 6) 7 rf] rfl rfl rfl [] rfl (Nat.le_of_ble_eq_true rfl) ?_
    refine r_goto K dX7_griefThen_15 ?_
    refine r_istore_n K dX7_griefThen_19 rfl (by decide) (lv1 := [(3, .int (wrS n (nI 0) (nI 60))), (0, .ref h), (1, .int (nI (ix x))), (2, .int n)]) rfl ?_
    refine r_iload_n K dX7_griefThen_20 0 rfl ?_
    refine r_if_eq K dX7_griefThen_21 (fun c21 => ?_) (fun c21 => ?_)
    · have hn := wrS_ok (by decide) (by decide) c21
      have ln := hn.2
      refine r_lc (lv1 := [(3, .int (wrS n (nI 0) (nI 60))), (0, .ref h), (1, .int (nI (ix x))), (2, .int (nI (ix n)))]) (congrArg (fun zz : Int32 => ([(3, .int (wrS n (nI 0) (nI 60))), (0, .ref h), (1, .int (nI (ix x))), (2, .int zz)] : List (Nat × Value))) (hn.1)) ?_
      refine r_aload_n K dX7_griefThen_30 1 rfl ?_
      refine r_iload_n K dX7_griefThen_31 3 rfl ?_
      refine r_cVn K dX7_griefThen_32 (c_X7_takes l Γ h a hi lm rm pc bi sd r q (ix n) (hI) (by first | assumption | omega)) mX7_takes q946 rfl (by decide) rfl rfl 4 rfl [0, 1, 2] [3] rfl rfl [eI Γ (a 6) 7 rf] rfl [mo h a hi lm rm pc bi sd, eI Γ (a 0) 42 r, eI Γ (a 1) 42 (daysS r (ix n)), eI Γ (a 6) 7 rf] rfl rfl rfl [] rfl (Nat.le_of_ble_eq_true rfl) ?_
      refine r_aload_n K dX7_griefThen_35 1 rfl ?_
      refine r_get K dX7_griefThen_36 (kf := 1) 0 rfl rfl hinX7 (by decide) q758 rfl rfl ?_
      refine r_iload_n K dX7_griefThen_39 2 rfl ?_
      refine r_iconst K dX7_griefThen_40 (nI 2) (by decide) ?_
      refine r_cSd K dX7_griefThen_41 (c_X7_ofM l Γ (ix x) 2) mX7_ofM q853 rfl (by decide) 4 rfl [] [0, 1, 2, 3] rfl rfl [mo h a hi lm rm pc bi sd, eI Γ (a 0) 42 r, eI Γ (a 1) 42 (daysS r (ix n)), eI Γ (a 6) 7 rf] rfl [mo h a hi lm rm pc bi sd, eI Γ (a 0) 42 r, eI Γ (a 1) 42 (daysS r (ix n)), eI Γ (a 6) 7 rf] rfl rfl rfl [.ref (a 1)] rfl (Nat.le_of_ble_eq_true rfl) ?_
      refine r_aldN K dX7_griefThen_44 2 rfl (by first | omega | exact iG_lt (by omega) (by decide) | exact iM_lt (by omega) (by decide)) (by decide) ?_
      have he : eMoW r x n (nI 0) (nI 60) = 0 := by
        unfold eMoW
        rw [if_neg (not_not_intro c5), if_neg (not_not_intro c21)]
      refine r_arr K (f2 := chE (eMoW r x n (nI 0) (nI 60)) rf (nof rf (eMoW r x n (nI 0) (nI 60)))) (ws1 := [mo h a hi lm rm pc bi sd, eI Γ (a 0) 42 r, eI Γ (a 1) 42 (daysS r (ix n)), eI Γ (a 6) 7 (chE (eMoW r x n (nI 0) (nI 60)) rf (nof rf (eMoW r x n (nI 0) (nI 60))))]) 3 rfl (fun _ _ => by rw [chE_0 he]) rfl ?_
      exact hR (daysS r (ix n)) dX7_griefThen_45 (trivial) (e_ri (ex_0 he (rfl))) (weq.rf)
    · refine r_aload_n K dX7_griefThen_24 1 rfl ?_
      refine r_iload_n K dX7_griefThen_25 0 rfl ?_
      refine r_cVd K dX7_griefThen_26 (c_X7_no l Γ h a hi lm rm pc bi sd rf (wrS n (nI 0) (nI 60)) (okR_wr c21)) mX7_no q813 rfl (by decide) rfl rfl 4 rfl [0, 3] [1, 2] rfl rfl [eI Γ (a 0) 42 r, eI Γ (a 1) 42 q] rfl [mo h a hi lm rm pc bi sd, eI Γ (a 0) 42 r, eI Γ (a 1) 42 q, eI Γ (a 6) 7 (nof rf (wrS n (nI 0) (nI 60)))] rfl rfl rfl [] rfl (Nat.le_of_ble_eq_true rfl) ?_
      have he : eMoW r x n (nI 0) (nI 60) = wrS n (nI 0) (nI 60) := by
        unfold eMoW
        rw [if_neg (not_not_intro c5), if_pos c21]
      refine r_arr K (f2 := chE (eMoW r x n (nI 0) (nI 60)) rf (nof rf (eMoW r x n (nI 0) (nI 60)))) (ws1 := [mo h a hi lm rm pc bi sd, eI Γ (a 0) 42 r, eI Γ (a 1) 42 q, eI Γ (a 6) 7 (chE (eMoW r x n (nI 0) (nI 60)) rf (nof rf (eMoW r x n (nI 0) (nI 60))))]) 3 rfl (fun _ _ => by rw [ch_n (g := nof rf) he c21]) rfl ?_
      exact hR q dX7_griefThen_29 (trivial) (e_ri (ex_n he c21)) (weq.rf)
set_option maxHeartbeats 1000000 in
set_option maxRecDepth 20000 in
theorem c_X7_payThen (l : Launch) (Γ : eG) (h : Nat) (a : Nat → Nat) (hi : Bool) (lm : Nat) (rm : Nat) (pc : Nat) (bi : Int32) (sd : Int32) (r : Nat → Int32) (q : Nat → Int32) (rf : Nat → Int32) (n : Int32) (hI : Inv r) : cE l Γ yX7_payThen cX7_payThen 3 (some .int) 5 [.ref h, .int n] [mo h a hi lm rm pc bi sd, eI Γ (a 0) 42 r, eI Γ (a 1) 42 q, eI Γ (a 6) 7 rf] (S := Nat → Int32) (fun u => True) (fun u => (some (.int (chE (eW n (nI 0) (nI 60)) (payS (daysS r (ix n))) (eW n (nI 0) (nI 60)))))) (fun u => [mo h a hi lm rm pc bi sd, eI Γ (a 0) 42 r, eI Γ (a 1) 42 u, eI Γ (a 6) 7 (chE (eW n (nI 0) (nI 60)) rf (nof rf (eW n (nI 0) (nI 60))))]) := by
  refine e_int [(0, .ref h), (1, .int n)] (by decide +kernel) (Nat.le_of_ble_eq_true rfl) rfl (fun V K hR => ?_)
  have h5 := hI.g
  have h6 := hI.m
  refine r_iload_n K dX7_payThen_0 1 rfl ?_
  refine r_iconst K dX7_payThen_1 (nI 0) (by decide) ?_
  refine r_bipush K dX7_payThen_2 (nI 60) (by decide) ?_
  refine r_cSd K dX7_payThen_4 (c_X7_wrongBy l Γ n (nI 0) (nI 60)) mX7_wrongBy q924 rfl (by decide) 4 rfl [] [0, 1, 2, 3] rfl rfl [mo h a hi lm rm pc bi sd, eI Γ (a 0) 42 r, eI Γ (a 1) 42 q, eI Γ (a 6) 7 rf] rfl [mo h a hi lm rm pc bi sd, eI Γ (a 0) 42 r, eI Γ (a 1) 42 q, eI Γ (a 6) 7 rf] rfl rfl rfl [] rfl (Nat.le_of_ble_eq_true rfl) ?_
  refine r_istore_n K dX7_payThen_7 rfl (by decide) (lv1 := [(2, .int (wrS n (nI 0) (nI 60))), (0, .ref h), (1, .int n)]) rfl ?_
  refine r_iload_n K dX7_payThen_8 0 rfl ?_
  refine r_if_eq K dX7_payThen_9 (fun c9 => ?_) (fun c9 => ?_)
  · have hn := wrS_ok (by decide) (by decide) c9
    have ln := hn.2
    refine r_lc (lv1 := [(2, .int (wrS n (nI 0) (nI 60))), (0, .ref h), (1, .int (nI (ix n)))]) (congrArg (fun zz : Int32 => ([(2, .int (wrS n (nI 0) (nI 60))), (0, .ref h), (1, .int zz)] : List (Nat × Value))) (hn.1)) ?_
    refine r_aload_n K dX7_payThen_18 1 rfl ?_
    refine r_iload_n K dX7_payThen_19 2 rfl ?_
    refine r_cVn K dX7_payThen_20 (c_X7_takes l Γ h a hi lm rm pc bi sd r q (ix n) (hI) (by first | assumption | omega)) mX7_takes q946 rfl (by decide) rfl rfl 4 rfl [0, 1, 2] [3] rfl rfl [eI Γ (a 6) 7 rf] rfl [mo h a hi lm rm pc bi sd, eI Γ (a 0) 42 r, eI Γ (a 1) 42 (daysS r (ix n)), eI Γ (a 6) 7 rf] rfl rfl rfl [] rfl (Nat.le_of_ble_eq_true rfl) ?_
    refine r_aload_n K dX7_payThen_23 1 rfl ?_
    refine r_get K dX7_payThen_24 (kf := 1) 0 rfl rfl hinX7 (by decide) q758 rfl rfl ?_
    refine r_cSd K dX7_payThen_27 (c_X7_payIn l Γ (a 1) (daysS r (ix n)) (Inv_daysS (hI) (ix n))) mX7_payIn q939 rfl (by decide) 4 rfl [2] [0, 1, 3] rfl rfl [mo h a hi lm rm pc bi sd, eI Γ (a 0) 42 r, eI Γ (a 6) 7 rf] rfl [mo h a hi lm rm pc bi sd, eI Γ (a 0) 42 r, eI Γ (a 1) 42 (daysS r (ix n)), eI Γ (a 6) 7 rf] rfl rfl rfl [] rfl (Nat.le_of_ble_eq_true rfl) ?_
    have he : eW n (nI 0) (nI 60) = 0 := by
      unfold eW
      rw [if_neg (not_not_intro c9)]
    refine r_arr K (f2 := chE (eW n (nI 0) (nI 60)) rf (nof rf (eW n (nI 0) (nI 60)))) (ws1 := [mo h a hi lm rm pc bi sd, eI Γ (a 0) 42 r, eI Γ (a 1) 42 (daysS r (ix n)), eI Γ (a 6) 7 (chE (eW n (nI 0) (nI 60)) rf (nof rf (eW n (nI 0) (nI 60))))]) 3 rfl (fun _ _ => by rw [chE_0 he]) rfl ?_
    exact hR (daysS r (ix n)) dX7_payThen_30 (trivial) (e_ri (ex_0 he (rfl))) (weq.rf)
  · refine r_aload_n K dX7_payThen_12 1 rfl ?_
    refine r_iload_n K dX7_payThen_13 0 rfl ?_
    refine r_cVd K dX7_payThen_14 (c_X7_no l Γ h a hi lm rm pc bi sd rf (wrS n (nI 0) (nI 60)) (okR_wr c9)) mX7_no q813 rfl (by decide) rfl rfl 4 rfl [0, 3] [1, 2] rfl rfl [eI Γ (a 0) 42 r, eI Γ (a 1) 42 q] rfl [mo h a hi lm rm pc bi sd, eI Γ (a 0) 42 r, eI Γ (a 1) 42 q, eI Γ (a 6) 7 (nof rf (wrS n (nI 0) (nI 60)))] rfl rfl rfl [] rfl (Nat.le_of_ble_eq_true rfl) ?_
    have he : eW n (nI 0) (nI 60) = wrS n (nI 0) (nI 60) := by
      unfold eW
      rw [if_pos c9]
    refine r_arr K (f2 := chE (eW n (nI 0) (nI 60)) rf (nof rf (eW n (nI 0) (nI 60)))) (ws1 := [mo h a hi lm rm pc bi sd, eI Γ (a 0) 42 r, eI Γ (a 1) 42 q, eI Γ (a 6) 7 (chE (eW n (nI 0) (nI 60)) rf (nof rf (eW n (nI 0) (nI 60))))]) 3 rfl (fun _ _ => by rw [ch_n (g := nof rf) he c9]) rfl ?_
    exact hR q dX7_payThen_17 (trivial) (e_ri (ex_n he c9)) (weq.rf)
set_option maxHeartbeats 1000000 in
set_option maxRecDepth 20000 in
theorem c_X7_deep (l : Launch) (Γ : eG) (h : Nat) (a : Nat → Nat) (hi : Bool) (lm : Nat) (rm : Nat) (pc : Nat) (bi : Int32) (sd : Int32) (r : Nat → Int32) (q : Nat → Int32) (rf : Nat → Int32) (x : Int32) (v : Int32) (hI : Inv r) : cE l Γ yX7_deep cX7_deep 5 (some .int) 3 [.ref h, .int x, .int v] [mo h a hi lm rm pc bi sd, eI Γ (a 0) 42 r, eI Γ (a 1) 42 q, eI Γ (a 6) 7 rf] (S := Nat → Int32) (fun u => True) (fun u => (some (.int (chE (eGrW r x v (nI 0) (nI 99)) (deepL (ix x) v 61 r 0) (eGrW r x v (nI 0) (nI 99)))))) (fun u => [mo h a hi lm rm pc bi sd, eI Γ (a 0) 42 r, eI Γ (a 1) 42 u, eI Γ (a 6) 7 (chE (eGrW r x v (nI 0) (nI 99)) rf (nof rf (eGrW r x v (nI 0) (nI 99))))]) := by
  refine e_int [(0, .ref h), (1, .int x), (2, .int v)] (by decide +kernel) (Nat.le_of_ble_eq_true rfl) rfl (fun V K hR => ?_)
  have h5 := hI.g
  have h6 := hI.m
  refine r_aload_n K dX7_deep_0 0 rfl ?_
  refine r_iload_n K dX7_deep_1 1 rfl ?_
  refine r_cVd K dX7_deep_2 (c_X7_isGrave l Γ h a hi lm rm pc bi sd r x (hI)) mX7_isGrave q860 rfl (by decide) rfl rfl 4 rfl [0, 1] [2, 3] rfl rfl [eI Γ (a 1) 42 q, eI Γ (a 6) 7 rf] rfl [mo h a hi lm rm pc bi sd, eI Γ (a 0) 42 r, eI Γ (a 1) 42 q, eI Γ (a 6) 7 rf] rfl rfl rfl [] rfl (Nat.le_of_ble_eq_true rfl) ?_
  refine r_ifeqB K dX7_deep_5 (fun c5 => ?_) (fun c5 => ?_)
  · refine r_iconst K dX7_deep_18 ((-1)) (by decide) ?_
    refine r_istore_n K dX7_deep_19 rfl (by decide) (lv1 := [(3, .int (-1)), (0, .ref h), (1, .int x), (2, .int v)]) rfl ?_
    refine r_iload_n K dX7_deep_20 0 rfl ?_
    refine r_if_eq K dX7_deep_21 (fun c21 => ?_) (fun c21 => ?_)
    · exact absurd c21 (by decide)
    · refine r_aload_n K dX7_deep_24 1 rfl ?_
      refine r_iload_n K dX7_deep_25 0 rfl ?_
      refine r_cVd K dX7_deep_26 (c_X7_no l Γ h a hi lm rm pc bi sd rf (-1) (okR_1)) mX7_no q813 rfl (by decide) rfl rfl 4 rfl [0, 3] [1, 2] rfl rfl [eI Γ (a 0) 42 r, eI Γ (a 1) 42 q] rfl [mo h a hi lm rm pc bi sd, eI Γ (a 0) 42 r, eI Γ (a 1) 42 q, eI Γ (a 6) 7 (nof rf (-1))] rfl rfl rfl [] rfl (Nat.le_of_ble_eq_true rfl) ?_
      have he : eGrW r x v (nI 0) (nI 99) = (-1) := by
        unfold eGrW
        rw [if_pos (nt c5)]
      refine r_arr K (f2 := chE (eGrW r x v (nI 0) (nI 99)) rf (nof rf (eGrW r x v (nI 0) (nI 99)))) (ws1 := [mo h a hi lm rm pc bi sd, eI Γ (a 0) 42 r, eI Γ (a 1) 42 q, eI Γ (a 6) 7 (chE (eGrW r x v (nI 0) (nI 99)) rf (nof rf (eGrW r x v (nI 0) (nI 99))))]) 3 rfl (fun _ _ => by rw [ch_n (g := nof rf) he (by decide)]) rfl ?_
      exact hR q dX7_deep_29 (trivial) (e_ri (ex_n he (by decide))) (weq.rf)
  · have hx := inN_e c5 (by omega)
    have lx := ix_lt c5 (by omega)
    refine r_lc (lv1 := [(0, .ref h), (1, .int (nI (ix x))), (2, .int v)]) (congrArg (fun zz : Int32 => ([(0, .ref h), (1, .int zz), (2, .int v)] : List (Nat × Value))) (hx)) ?_
    refine r_iload_n K dX7_deep_8 2 rfl ?_
    refine r_iconst K dX7_deep_9 (nI 0) (by decide) ?_
    refine r_bipush K dX7_deep_10 (nI 99) (by decide) ?_
    refine r_cSd K dX7_deep_12 (c_X7_wrongBy l Γ v (nI 0) (nI 99)) mX7_wrongBy q924 rfl (by decide) 4 rfl [] [0, 1, 2, 3] rfl rfl [mo h a hi lm rm pc bi sd, eI Γ (a 0) 42 r, eI Γ (a 1) 42 q, eI Γ (a 6) 7 rf] rfl [mo h a hi lm rm pc bi sd, eI Γ (a 0) 42 r, eI Γ (a 1) 42 q, eI Γ (a 6) 7 rf] rfl rfl rfl [] rfl (Nat.le_of_ble_eq_true rfl) ?_
    refine r_goto K dX7_deep_15 ?_
    refine r_istore_n K dX7_deep_19 rfl (by decide) (lv1 := [(3, .int (wrS v (nI 0) (nI 99))), (0, .ref h), (1, .int (nI (ix x))), (2, .int v)]) rfl ?_
    refine r_iload_n K dX7_deep_20 0 rfl ?_
    refine r_if_eq K dX7_deep_21 (fun c21 => ?_) (fun c21 => ?_)
    · have hv := wrS_ok (by decide) (by decide) c21
      have lv := hv.2
      refine r_aload_n K dX7_deep_30 1 rfl ?_
      refine r_get K dX7_deep_31 (kf := 0) 0 rfl rfl hinX7 (by decide) q757 rfl rfl ?_
      refine r_aload_n K dX7_deep_34 1 rfl ?_
      refine r_get K dX7_deep_35 (kf := 1) 0 rfl rfl hinX7 (by decide) q758 rfl rfl ?_
      refine r_cSn K dX7_deep_38 (c_X7_copies l Γ (a 0) (a 1) r q) mX7_copies q843 rfl (by decide) 4 rfl [1, 2] [0, 3] rfl rfl [mo h a hi lm rm pc bi sd, eI Γ (a 6) 7 rf] rfl [mo h a hi lm rm pc bi sd, eI Γ (a 0) 42 r, eI Γ (a 1) 42 r, eI Γ (a 6) 7 rf] rfl rfl rfl [] rfl (Nat.le_of_ble_eq_true rfl) ?_
      refine r_iconst K dX7_deep_41 (nI 0) (by decide) ?_
      refine r_istore K dX7_deep_42 (by decide) (lv1 := [(4, .int (nI 0)), (3, .int (wrS v (nI 0) (nI 99))), (0, .ref h), (1, .int (nI (ix x))), (2, .int v)]) rfl ?_
      have L44 : ∀ (fL44 : Nat) (f : Nat) (n : Nat), (f + n = 61) → (deepL (ix x) v 61 r 0 = deepL (ix x) v f (daysS r n) n) → f < fL44 → V 44 [(4, .int (nI n)), (3, .int (wrS v (nI 0) (nI 99))), (0, .ref h), (1, .int (nI (ix x))), (2, .int v)] [] [mo h a hi lm rm pc bi sd, eI Γ (a 0) 42 r, eI Γ (a 1) 42 (daysS r n), eI Γ (a 6) 7 rf] := by
        intro fL44
        induction fL44 with
        | zero => intro f n hfn hE hf; exact absurd hf (Nat.not_lt_zero _)
        | succ fL44 ih_L44 =>
          intro f n hfn hE hfL44
          refine r_iload K dX7_deep_44 0 rfl ?_
          refine r_bipush K dX7_deep_46 (nI 60) (by decide) ?_
          refine r_ic_gtN K dX7_deep_48 (by omega) (by omega) (fun c48 => ?_) (fun c48 => ?_)
          · obtain rfl : f = 0 := by omega
            refine r_bipush K dX7_deep_82 ((-9)) (by decide) ?_
            have he : eGrW r x v (nI 0) (nI 99) = 0 := by
              unfold eGrW
              rw [if_neg (not_not_intro c5), if_neg (not_not_intro c21)]
            refine r_arr K (f2 := chE (eGrW r x v (nI 0) (nI 99)) rf (nof rf (eGrW r x v (nI 0) (nI 99)))) (ws1 := [mo h a hi lm rm pc bi sd, eI Γ (a 0) 42 r, eI Γ (a 1) 42 (daysS r n), eI Γ (a 6) 7 (chE (eGrW r x v (nI 0) (nI 99)) rf (nof rf (eGrW r x v (nI 0) (nI 99))))]) 3 rfl (fun _ _ => by rw [chE_0 he]) rfl ?_
            exact hR (daysS r n) dX7_deep_84 (trivial) (e_ri (ex_0 he (hE))) (weq.rf)
          · obtain ⟨f, rfl⟩ : ∃ z, f = z + 1 := ⟨f - 1, by omega⟩
            refine r_aload_n K dX7_deep_51 2 rfl ?_
            refine r_get K dX7_deep_52 (kf := 1) 0 rfl rfl hinX7 (by decide) q758 rfl rfl ?_
            refine r_iload_n K dX7_deep_55 3 rfl ?_
            refine r_iconst K dX7_deep_56 (nI 1) (by decide) ?_
            refine r_cSd K dX7_deep_57 (c_X7_ofG l Γ (ix x) 1) mX7_ofG q850 rfl (by decide) 4 rfl [] [0, 1, 2, 3] rfl rfl [mo h a hi lm rm pc bi sd, eI Γ (a 0) 42 r, eI Γ (a 1) 42 (daysS r n), eI Γ (a 6) 7 rf] rfl [mo h a hi lm rm pc bi sd, eI Γ (a 0) 42 r, eI Γ (a 1) 42 (daysS r n), eI Γ (a 6) 7 rf] rfl rfl rfl [.ref (a 1)] rfl (Nat.le_of_ble_eq_true rfl) ?_
            refine r_aldN K dX7_deep_60 2 rfl (by first | omega | exact iG_lt (by omega) (by decide) | exact iM_lt (by omega) (by decide)) (by decide) ?_
            refine r_iload_n K dX7_deep_61 4 rfl ?_
            refine r_ic_lt K dX7_deep_62 (fun c62 => ?_) (fun c62 => ?_)
            · refine r_aload_n K dX7_deep_68 2 rfl ?_
              refine r_get K dX7_deep_69 (kf := 1) 0 rfl rfl hinX7 (by decide) q758 rfl rfl ?_
              refine r_iconst K dX7_deep_72 (nI 0) (by decide) ?_
              refine r_cSn K dX7_deep_73 (c_X7_day l Γ (a 1) (daysS r n) false (Inv_daysS hI n)) mX7_day q876 rfl (by decide) 4 rfl [2] [0, 1, 3] rfl rfl [mo h a hi lm rm pc bi sd, eI Γ (a 0) 42 r, eI Γ (a 6) 7 rf] rfl [mo h a hi lm rm pc bi sd, eI Γ (a 0) 42 r, eI Γ (a 1) 42 (dayB (daysS r n) false), eI Γ (a 6) 7 rf] rfl rfl rfl [] rfl (Nat.le_of_ble_eq_true rfl) ?_
              refine r_iincN K dX7_deep_76 (n := 1) 0 rfl rfl (by decide) (lv1 := [(4, .int (nI (n + 1))), (3, .int (wrS v (nI 0) (nI 99))), (0, .ref h), (1, .int (nI (ix x))), (2, .int v)]) rfl ?_
              refine r_goto K dX7_deep_79 ?_
              refine r_arr K (f2 := daysS r (n + 1)) (ws1 := [mo h a hi lm rm pc bi sd, eI Γ (a 0) 42 r, eI Γ (a 1) 42 (daysS r (n + 1)), eI Γ (a 6) 7 rf]) 2 rfl (fun _ _ => rfl) rfl ?_
              exact ih_L44 f (n + 1) (by omega) (hE.trans (deepL_n (Int32.not_le.mpr c62))) (by omega)
            · refine r_iload K dX7_deep_65 0 rfl ?_
              have he : eGrW r x v (nI 0) (nI 99) = 0 := by
                unfold eGrW
                rw [if_neg (not_not_intro c5), if_neg (not_not_intro c21)]
              refine r_arr K (f2 := chE (eGrW r x v (nI 0) (nI 99)) rf (nof rf (eGrW r x v (nI 0) (nI 99)))) (ws1 := [mo h a hi lm rm pc bi sd, eI Γ (a 0) 42 r, eI Γ (a 1) 42 (daysS r n), eI Γ (a 6) 7 (chE (eGrW r x v (nI 0) (nI 99)) rf (nof rf (eGrW r x v (nI 0) (nI 99))))]) 3 rfl (fun _ _ => by rw [chE_0 he]) rfl ?_
              exact hR (daysS r n) dX7_deep_67 (trivial) (e_ri (ex_0 he (hE.trans (deepL_t (Int32.not_lt.mp c62))))) (weq.rf)
      refine r_arr K (f2 := daysS r 0) (ws1 := [mo h a hi lm rm pc bi sd, eI Γ (a 0) 42 r, eI Γ (a 1) 42 (daysS r 0), eI Γ (a 6) 7 rf]) 2 rfl (fun _ _ => rfl) rfl ?_
      exact L44 _ 61 0 (rfl) (rfl) (Nat.lt_succ_self _)
    · refine r_aload_n K dX7_deep_24 1 rfl ?_
      refine r_iload_n K dX7_deep_25 0 rfl ?_
      refine r_cVd K dX7_deep_26 (c_X7_no l Γ h a hi lm rm pc bi sd rf (wrS v (nI 0) (nI 99)) (okR_wr c21)) mX7_no q813 rfl (by decide) rfl rfl 4 rfl [0, 3] [1, 2] rfl rfl [eI Γ (a 0) 42 r, eI Γ (a 1) 42 q] rfl [mo h a hi lm rm pc bi sd, eI Γ (a 0) 42 r, eI Γ (a 1) 42 q, eI Γ (a 6) 7 (nof rf (wrS v (nI 0) (nI 99)))] rfl rfl rfl [] rfl (Nat.le_of_ble_eq_true rfl) ?_
      have he : eGrW r x v (nI 0) (nI 99) = wrS v (nI 0) (nI 99) := by
        unfold eGrW
        rw [if_neg (not_not_intro c5), if_pos c21]
      refine r_arr K (f2 := chE (eGrW r x v (nI 0) (nI 99)) rf (nof rf (eGrW r x v (nI 0) (nI 99)))) (ws1 := [mo h a hi lm rm pc bi sd, eI Γ (a 0) 42 r, eI Γ (a 1) 42 q, eI Γ (a 6) 7 (chE (eGrW r x v (nI 0) (nI 99)) rf (nof rf (eGrW r x v (nI 0) (nI 99))))]) 3 rfl (fun _ _ => by rw [ch_n (g := nof rf) he c21]) rfl ?_
      exact hR q dX7_deep_29 (trivial) (e_ri (ex_n he c21)) (weq.rf)
set_option maxHeartbeats 1000000 in
set_option maxRecDepth 20000 in
theorem c_X7_firstFoot (l : Launch) (Γ : eG) (h : Nat) (a : Nat → Nat) (hi : Bool) (lm : Nat) (rm : Nat) (pc : Nat) (bi : Int32) (sd : Int32) (r : Nat → Int32) (q : Nat → Int32) (w : Nat) (hI : Inv r) (hw : w < 2) : cE l Γ yX7_firstFoot cX7_firstFoot 4 (some .int) 3 [.ref h, .int (nI w)] [mo h a hi lm rm pc bi sd, eI Γ (a 0) 42 r, eI Γ (a 1) 42 q] (S := Nat → Int32) (fun u => True) (fun u => (some (.int (if w = 0 then ftG r 61 r else ftL r 61 r 0)))) (fun u => [mo h a hi lm rm pc bi sd, eI Γ (a 0) 42 r, eI Γ (a 1) 42 u]) := by
  refine e_int [(0, .ref h), (1, .int (nI w))] (by decide +kernel) (Nat.le_of_ble_eq_true rfl) rfl (fun V K hR => ?_)
  have h5 := hI.g
  have h6 := hI.m
  refine r_aload_n K dX7_firstFoot_0 0 rfl ?_
  refine r_get K dX7_firstFoot_1 (kf := 0) 0 rfl rfl hinX7 (by decide) q757 rfl rfl ?_
  refine r_aload_n K dX7_firstFoot_4 0 rfl ?_
  refine r_get K dX7_firstFoot_5 (kf := 1) 0 rfl rfl hinX7 (by decide) q758 rfl rfl ?_
  refine r_cSn K dX7_firstFoot_8 (c_X7_copies l Γ (a 0) (a 1) r q) mX7_copies q843 rfl (by decide) 3 rfl [1, 2] [0] rfl rfl [mo h a hi lm rm pc bi sd] rfl [mo h a hi lm rm pc bi sd, eI Γ (a 0) 42 r, eI Γ (a 1) 42 r] rfl rfl rfl [] rfl (Nat.le_of_ble_eq_true rfl) ?_
  refine r_iconst K dX7_firstFoot_11 (nI 1) (by decide) ?_
  refine r_istore_n K dX7_firstFoot_12 rfl (by decide) (lv1 := [(2, .int (nI 1)), (0, .ref h), (1, .int (nI w))]) rfl ?_
  have L13 : ∀ (fL13 : Nat) (f : Nat) (k : Nat), (f + k = 60) → (ftL r 61 r 0 = ftL r f (daysS r (k + 1)) (k + 1)) → (ftG r 61 r = ftG r f (daysS r (k + 1))) → f < fL13 → V 13 [(2, .int (nI (k + 1))), (0, .ref h), (1, .int (nI w))] [] [mo h a hi lm rm pc bi sd, eI Γ (a 0) 42 r, eI Γ (a 1) 42 (daysS r k)] := by
    intro fL13
    induction fL13 with
    | zero => intro f k hfk hL hG hf; exact absurd hf (Nat.not_lt_zero _)
    | succ fL13 ih_L13 =>
      intro f k hfk hL hG hfL13
      refine r_iload_n K dX7_firstFoot_13 0 rfl ?_
      refine r_bipush K dX7_firstFoot_14 (nI 60) (by decide) ?_
      refine r_ic_gtN K dX7_firstFoot_16 (by omega) (by omega) (fun c16 => ?_) (fun c16 => ?_)
      · obtain rfl : f = 0 := by omega
        refine r_bipush K dX7_firstFoot_87 ((-9)) (by decide) ?_
        exact hR (daysS r k) dX7_firstFoot_89 (trivial) (e_ri (by rw [hL, hG]; exact ite_self _)) (weq.rf)
      · obtain ⟨f, rfl⟩ : ∃ z, f = z + 1 := ⟨f - 1, by omega⟩
        refine r_aload_n K dX7_firstFoot_19 1 rfl ?_
        refine r_get K dX7_firstFoot_20 (kf := 1) 0 rfl rfl hinX7 (by decide) q758 rfl rfl ?_
        refine r_iconst K dX7_firstFoot_23 (nI 0) (by decide) ?_
        refine r_cSn K dX7_firstFoot_24 (c_X7_day l Γ (a 1) (daysS r k) false (Inv_daysS hI k)) mX7_day q876 rfl (by decide) 3 rfl [2] [0, 1] rfl rfl [mo h a hi lm rm pc bi sd, eI Γ (a 0) 42 r] rfl [mo h a hi lm rm pc bi sd, eI Γ (a 0) 42 r, eI Γ (a 1) 42 (dayB (daysS r k) false)] rfl rfl rfl [] rfl (Nat.le_of_ble_eq_true rfl) ?_
        refine r_iconst K dX7_firstFoot_27 (nI 0) (by decide) ?_
        refine r_istore_n K dX7_firstFoot_28 rfl (by decide) (lv1 := [(3, .int (nI 0)), (2, .int (nI (k + 1))), (0, .ref h), (1, .int (nI w))]) rfl ?_
        have L29 : ∀ (fL29 : Nat) (e : Nat) (g : Nat), (e + g = nG r) → (ffF r (daysS r (k + 1)) (nG r) 0 = ffF r (daysS r (k + 1)) e g) → e < fL29 → V 29 [(3, .int (nI g)), (2, .int (nI (k + 1))), (0, .ref h), (1, .int (nI w))] [] [mo h a hi lm rm pc bi sd, eI Γ (a 0) 42 r, eI Γ (a 1) 42 (daysS r (k + 1))] := by
          intro fL29
          induction fL29 with
          | zero => intro e g heg hF hf; exact absurd hf (Nat.not_lt_zero _)
          | succ fL29 ih_L29 =>
            intro e g heg hF hfL29
            refine r_iload_n K dX7_firstFoot_29 0 rfl ?_
            refine r_aload_n K dX7_firstFoot_30 2 rfl ?_
            refine r_get K dX7_firstFoot_31 (kf := 0) 0 rfl rfl hinX7 (by decide) q757 rfl rfl ?_
            refine r_iconst K dX7_firstFoot_34 (nI 0) (by decide) ?_
            refine r_aldN K dX7_firstFoot_35 1 rfl (by first | omega | exact iG_lt (by omega) (by decide) | exact iM_lt (by omega) (by decide)) (by decide) ?_
            refine r_top (y := nI (nG r)) (hI.r0) ?_
            refine r_ic_geN K dX7_firstFoot_36 (by omega) (by omega) (fun c36 => ?_) (fun c36 => ?_)
            · obtain rfl : e = 0 := by omega
              have hF : ffF r (daysS r (k + 1)) (nG r) 0 = -9 := hF
              refine r_iincN K dX7_firstFoot_81 (n := 1) 1 rfl rfl (by decide) (lv1 := [(2, .int (nI (k + 1 + 1))), (3, .int (nI g)), (0, .ref h), (1, .int (nI w))]) rfl ?_
              refine r_goto K dX7_firstFoot_84 ?_
              refine r_lv K [0, 2, 3] rfl ?_
              exact ih_L13 f (k + 1) (by omega) (hL.trans (ftL_n hF)) (hG.trans (ftG_n hF)) (by omega)
            · obtain ⟨e, rfl⟩ : ∃ z, e = z + 1 := ⟨e - 1, by omega⟩
              refine r_aload_n K dX7_firstFoot_39 2 rfl ?_
              refine r_get K dX7_firstFoot_40 (kf := 1) 0 rfl rfl hinX7 (by decide) q758 rfl rfl ?_
              refine r_iload_n K dX7_firstFoot_43 0 rfl ?_
              refine r_iconst K dX7_firstFoot_44 (nI 1) (by decide) ?_
              refine r_cSd K dX7_firstFoot_45 (c_X7_ofG l Γ g 1) mX7_ofG q850 rfl (by decide) 3 rfl [] [0, 1, 2] rfl rfl [mo h a hi lm rm pc bi sd, eI Γ (a 0) 42 r, eI Γ (a 1) 42 (daysS r (k + 1))] rfl [mo h a hi lm rm pc bi sd, eI Γ (a 0) 42 r, eI Γ (a 1) 42 (daysS r (k + 1))] rfl rfl rfl [.ref (a 1)] rfl (Nat.le_of_ble_eq_true rfl) ?_
              refine r_aldN K dX7_firstFoot_48 2 rfl (by first | omega | exact iG_lt (by omega) (by decide) | exact iM_lt (by omega) (by decide)) (by decide) ?_
              refine r_aload_n K dX7_firstFoot_49 2 rfl ?_
              refine r_get K dX7_firstFoot_50 (kf := 0) 0 rfl rfl hinX7 (by decide) q757 rfl rfl ?_
              refine r_iload_n K dX7_firstFoot_53 0 rfl ?_
              refine r_iconst K dX7_firstFoot_54 (nI 1) (by decide) ?_
              refine r_cSd K dX7_firstFoot_55 (c_X7_ofG l Γ g 1) mX7_ofG q850 rfl (by decide) 3 rfl [] [0, 1, 2] rfl rfl [mo h a hi lm rm pc bi sd, eI Γ (a 0) 42 r, eI Γ (a 1) 42 (daysS r (k + 1))] rfl [mo h a hi lm rm pc bi sd, eI Γ (a 0) 42 r, eI Γ (a 1) 42 (daysS r (k + 1))] rfl rfl rfl [.ref (a 0), .int ((daysS r (k + 1)) (iG g 1))] rfl (Nat.le_of_ble_eq_true rfl) ?_
              refine r_aldN K dX7_firstFoot_58 1 rfl (by first | omega | exact iG_lt (by omega) (by decide) | exact iM_lt (by omega) (by decide)) (by decide) ?_
              refine r_bipush K dX7_firstFoot_59 (nI 12) (by decide) ?_
              refine r_iadd K dX7_firstFoot_61 ?_
              refine r_ic_lt K dX7_firstFoot_62 (fun c62 => ?_) (fun c62 => ?_)
              · refine r_iincN K dX7_firstFoot_75 (n := 1) 0 rfl rfl (by decide) (lv1 := [(3, .int (nI (g + 1))), (2, .int (nI (k + 1))), (0, .ref h), (1, .int (nI w))]) rfl ?_
                refine r_goto K dX7_firstFoot_78 ?_
                exact ih_L29 e (g + 1) (by omega) (hF.trans (ffF_n (fun z => (ff_iff ((Inv_daysS hI _).gD (by omega)) (hI.gD (by omega))).mp z c62))) (by omega)
              · have hF2 : ffF r (daysS r (k + 1)) (nG r) 0 = nI g := hF.trans (ffF_t ((ff_iff ((Inv_daysS hI _).gD (by omega)) (hI.gD (by omega))).mpr c62))
                have hF9 : ¬ ffF r (daysS r (k + 1)) (nG r) 0 = -9 := by rw [hF2]; exact nI_n9 (by omega)
                refine r_iload_n K dX7_firstFoot_65 3 rfl ?_
                refine r_if_neN K dX7_firstFoot_66 (by omega) (fun c66 => ?_) (fun c66 => ?_)
                · refine r_iload_n K dX7_firstFoot_73 1 rfl ?_
                  exact hR (daysS r (k + 1)) dX7_firstFoot_74 (trivial) (e_ri (by rw [if_neg c66, hL, ftL_t hF9])) (weq.rf)
                · refine r_iload_n K dX7_firstFoot_69 0 rfl ?_
                  refine r_goto K dX7_firstFoot_70 ?_
                  exact hR (daysS r (k + 1)) dX7_firstFoot_74 (trivial) (e_ri (by rw [if_pos c66, hG, ftG_t hF9, hF2])) (weq.rf)
        refine r_arr K (f2 := daysS r (k + 1)) (ws1 := [mo h a hi lm rm pc bi sd, eI Γ (a 0) 42 r, eI Γ (a 1) 42 (daysS r (k + 1))]) 2 rfl (fun _ _ => rfl) rfl ?_
        exact L29 _ (nG r) 0 (rfl) (rfl) (Nat.lt_succ_self _)
  refine r_lc (lv1 := [(2, .int (nI (0 + 1))), (0, .ref h), (1, .int (nI w))]) (rfl) ?_
  refine r_arr K (f2 := daysS r 0) (ws1 := [mo h a hi lm rm pc bi sd, eI Γ (a 0) 42 r, eI Γ (a 1) 42 (daysS r 0)]) 2 rfl (fun _ _ => rfl) rfl ?_
  exact L13 _ 60 0 (rfl) (ftL_n (ff_0 _ _)) (ftG_n (ff_0 _ _)) (Nat.lt_succ_self _)
set_option maxHeartbeats 1000000 in
set_option maxRecDepth 20000 in
theorem c_X7_dry (l : Launch) (Γ : eG) (h : Nat) (a : Nat → Nat) (hi : Bool) (lm : Nat) (rm : Nat) (pc : Nat) (bi : Int32) (sd : Int32) (r : Nat → Int32) (q : Nat → Int32) (hI : Inv r) : cE l Γ yX7_dry cX7_dry 4 (some .int) 3 [.ref h] [mo h a hi lm rm pc bi sd, eI Γ (a 0) 42 r, eI Γ (a 1) 42 q] (S := Nat → Int32) (fun u => True) (fun u => (some (.int (dyL 61 r 0)))) (fun u => [mo h a hi lm rm pc bi sd, eI Γ (a 0) 42 r, eI Γ (a 1) 42 u]) := by
  refine e_int [(0, .ref h)] (by decide +kernel) (Nat.le_of_ble_eq_true rfl) rfl (fun V K hR => ?_)
  have h5 := hI.g
  have h6 := hI.m
  refine r_aload_n K dX7_dry_0 0 rfl ?_
  refine r_get K dX7_dry_1 (kf := 0) 0 rfl rfl hinX7 (by decide) q757 rfl rfl ?_
  refine r_aload_n K dX7_dry_4 0 rfl ?_
  refine r_get K dX7_dry_5 (kf := 1) 0 rfl rfl hinX7 (by decide) q758 rfl rfl ?_
  refine r_cSn K dX7_dry_8 (c_X7_copies l Γ (a 0) (a 1) r q) mX7_copies q843 rfl (by decide) 3 rfl [1, 2] [0] rfl rfl [mo h a hi lm rm pc bi sd] rfl [mo h a hi lm rm pc bi sd, eI Γ (a 0) 42 r, eI Γ (a 1) 42 r] rfl rfl rfl [] rfl (Nat.le_of_ble_eq_true rfl) ?_
  refine r_iconst K dX7_dry_11 (nI 0) (by decide) ?_
  refine r_istore_n K dX7_dry_12 rfl (by decide) (lv1 := [(1, .int (nI 0)), (0, .ref h)]) rfl ?_
  have L13 : ∀ (fL13 : Nat) (f : Nat) (n : Nat), (f + n = 61) → (dyL 61 r 0 = dyL f (daysS r n) n) → f < fL13 → V 13 [(1, .int (nI n)), (0, .ref h)] [] [mo h a hi lm rm pc bi sd, eI Γ (a 0) 42 r, eI Γ (a 1) 42 (daysS r n)] := by
    intro fL13
    induction fL13 with
    | zero => intro f n hfn hE hf; exact absurd hf (Nat.not_lt_zero _)
    | succ fL13 ih_L13 =>
      intro f n hfn hE hfL13
      refine r_iload_n K dX7_dry_13 0 rfl ?_
      refine r_bipush K dX7_dry_14 (nI 60) (by decide) ?_
      refine r_ic_gtN K dX7_dry_16 (by omega) (by omega) (fun c16 => ?_) (fun c16 => ?_)
      · obtain rfl : f = 0 := by omega
        refine r_bipush K dX7_dry_87 ((-9)) (by decide) ?_
        exact hR (daysS r n) dX7_dry_89 (trivial) (e_ri (hE)) (weq.rf)
      · obtain ⟨f, rfl⟩ : ∃ z, f = z + 1 := ⟨f - 1, by omega⟩
        have h6m := (Inv_daysS hI n).m
        refine r_iconst K dX7_dry_19 (nI 0) (by decide) ?_
        refine r_istore_n K dX7_dry_20 rfl (by decide) (lv1 := [(2, .int (nI 0)), (1, .int (nI n)), (0, .ref h)]) rfl ?_
        refine r_iconst K dX7_dry_21 (nI 0) (by decide) ?_
        refine r_istore_n K dX7_dry_22 rfl (by decide) (lv1 := [(3, .int (nI 0)), (2, .int (nI 0)), (1, .int (nI n)), (0, .ref h)]) rfl ?_
        have L23 : ∀ (fL23 : Nat) (p : Nat) (v : Int32), (p ≤ nM (daysS r n)) → (v = sumTo (dsF (daysS r n)) p) → nM (daysS r n) - p < fL23 → V 23 [(3, .int (nI p)), (2, .int v), (1, .int (nI n)), (0, .ref h)] [] [mo h a hi lm rm pc bi sd, eI Γ (a 0) 42 r, eI Γ (a 1) 42 (daysS r n)] := by
          intro fL23
          induction fL23 with
          | zero => intro p v hp hv hf; exact absurd hf (Nat.not_lt_zero _)
          | succ fL23 ih_L23 =>
            intro p v hp hv hfL23
            refine r_iload_n K dX7_dry_23 0 rfl ?_
            refine r_aload_n K dX7_dry_24 3 rfl ?_
            refine r_get K dX7_dry_25 (kf := 1) 0 rfl rfl hinX7 (by decide) q758 rfl rfl ?_
            refine r_iconst K dX7_dry_28 (nI 1) (by decide) ?_
            refine r_aldN K dX7_dry_29 2 rfl (by first | omega | exact iG_lt (by omega) (by decide) | exact iM_lt (by omega) (by decide)) (by decide) ?_
            refine r_top (y := nI (nM (daysS r n))) ((Inv_daysS hI n).r1) ?_
            refine r_ic_geN K dX7_dry_30 (by omega) (by omega) (fun c30 => ?_) (fun c30 => ?_)
            · obtain rfl : p = nM (daysS r n) := by omega
              refine r_iload_n K dX7_dry_67 1 rfl ?_
              refine r_if_ne K dX7_dry_68 (fun c68 => ?_) (fun c68 => ?_)
              · have hd := dry_f (Inv_daysS hI n) hv c68
                refine r_aload_n K dX7_dry_73 3 rfl ?_
                refine r_get K dX7_dry_74 (kf := 1) 0 rfl rfl hinX7 (by decide) q758 rfl rfl ?_
                refine r_iconst K dX7_dry_77 (nI 0) (by decide) ?_
                refine r_cSn K dX7_dry_78 (c_X7_day l Γ (a 1) (daysS r n) false (Inv_daysS hI n)) mX7_day q876 rfl (by decide) 3 rfl [2] [0, 1] rfl rfl [mo h a hi lm rm pc bi sd, eI Γ (a 0) 42 r] rfl [mo h a hi lm rm pc bi sd, eI Γ (a 0) 42 r, eI Γ (a 1) 42 (dayB (daysS r n) false)] rfl rfl rfl [] rfl (Nat.le_of_ble_eq_true rfl) ?_
                refine r_iincN K dX7_dry_81 (n := 1) 2 rfl rfl (by decide) (lv1 := [(1, .int (nI (n + 1))), (3, .int (nI (nM (daysS r n)))), (2, .int v), (0, .ref h)]) rfl ?_
                refine r_goto K dX7_dry_84 ?_
                refine r_arr K (f2 := daysS r (n + 1)) (ws1 := [mo h a hi lm rm pc bi sd, eI Γ (a 0) 42 r, eI Γ (a 1) 42 (daysS r (n + 1))]) 2 rfl (fun _ _ => rfl) rfl ?_
                refine r_lv K [0, 3] rfl ?_
                exact ih_L13 f (n + 1) (by omega) (hE.trans (dyL_n hd)) (by omega)
              · refine r_iload_n K dX7_dry_71 2 rfl ?_
                exact hR (daysS r n) dX7_dry_72 (trivial) (e_ri (hE.trans (dyL_t (dry_t (Inv_daysS hI n) hv c68)))) (weq.rf)
            · refine r_iload_n K dX7_dry_33 1 rfl ?_
              refine r_aload_n K dX7_dry_34 3 rfl ?_
              refine r_get K dX7_dry_35 (kf := 1) 0 rfl rfl hinX7 (by decide) q758 rfl rfl ?_
              refine r_iload_n K dX7_dry_38 0 rfl ?_
              refine r_iconst K dX7_dry_39 (nI 3) (by decide) ?_
              refine r_cSd K dX7_dry_40 (c_X7_ofM l Γ p 3) mX7_ofM q853 rfl (by decide) 3 rfl [] [0, 1, 2] rfl rfl [mo h a hi lm rm pc bi sd, eI Γ (a 0) 42 r, eI Γ (a 1) 42 (daysS r n)] rfl [mo h a hi lm rm pc bi sd, eI Γ (a 0) 42 r, eI Γ (a 1) 42 (daysS r n)] rfl rfl rfl [.ref (a 1), .int v] rfl (Nat.le_of_ble_eq_true rfl) ?_
              refine r_aldN K dX7_dry_43 2 rfl (by first | omega | exact iG_lt (by omega) (by decide) | exact iM_lt (by omega) (by decide)) (by decide) ?_
              refine r_if_lt K dX7_dry_44 (fun c44 => ?_) (fun c44 => ?_)
              · refine r_iconst K dX7_dry_58 (nI 0) (by decide) ?_
                refine r_iadd K dX7_dry_59 ?_
                refine r_istore_n K dX7_dry_60 rfl (by decide) (lv1 := [(2, .int (v + (nI 0))), (3, .int (nI p)), (1, .int (nI n)), (0, .ref h)]) rfl ?_
                refine r_iincN K dX7_dry_61 (n := 1) 1 rfl rfl (by decide) (lv1 := [(3, .int (nI (p + 1))), (2, .int (v + (nI 0))), (1, .int (nI n)), (0, .ref h)]) rfl ?_
                refine r_goto K dX7_dry_64 ?_
                exact ih_L23 (p + 1) (v + (nI 0)) (by omega) (by rw [hv]; show _ = sumTo _ p + dsF _ p; unfold dsF; rw [if_pos c44]) (by omega)
              · refine r_aload_n K dX7_dry_47 3 rfl ?_
                refine r_get K dX7_dry_48 (kf := 1) 0 rfl rfl hinX7 (by decide) q758 rfl rfl ?_
                refine r_iload_n K dX7_dry_51 0 rfl ?_
                refine r_cSd K dX7_dry_52 (c_X7_weeps l Γ (a 1) (daysS r n) p (by first | assumption | omega)) mX7_weeps q879 rfl (by decide) 3 rfl [2] [0, 1] rfl rfl [mo h a hi lm rm pc bi sd, eI Γ (a 0) 42 r] rfl [mo h a hi lm rm pc bi sd, eI Γ (a 0) 42 r, eI Γ (a 1) 42 (daysS r n)] rfl rfl rfl [.int v] rfl (Nat.le_of_ble_eq_true rfl) ?_
                refine r_goto K dX7_dry_55 ?_
                refine r_iadd K dX7_dry_59 ?_
                refine r_istore_n K dX7_dry_60 rfl (by decide) (lv1 := [(2, .int (v + (weepS (daysS r n) p))), (3, .int (nI p)), (1, .int (nI n)), (0, .ref h)]) rfl ?_
                refine r_iincN K dX7_dry_61 (n := 1) 1 rfl rfl (by decide) (lv1 := [(3, .int (nI (p + 1))), (2, .int (v + (weepS (daysS r n) p))), (1, .int (nI n)), (0, .ref h)]) rfl ?_
                refine r_goto K dX7_dry_64 ?_
                exact ih_L23 (p + 1) (v + (weepS (daysS r n) p)) (by omega) (by rw [hv]; show _ = sumTo _ p + dsF _ p; unfold dsF; rw [if_neg c44]) (by omega)
        exact L23 _ 0 (nI 0) (Nat.zero_le _) (rfl) (Nat.lt_succ_self _)
  refine r_arr K (f2 := daysS r 0) (ws1 := [mo h a hi lm rm pc bi sd, eI Γ (a 0) 42 r, eI Γ (a 1) 42 (daysS r 0)]) 2 rfl (fun _ _ => rfl) rfl ?_
  exact L13 _ 61 0 (rfl) (rfl) (Nat.lt_succ_self _)
set_option maxHeartbeats 1000000 in
set_option maxRecDepth 20000 in
theorem c_X7_extreme1 (l : Launch) (Γ : eG) (h : Nat) (a : Nat → Nat) (hi : Bool) (lm : Nat) (rm : Nat) (pc : Nat) (bi : Int32) (sd : Int32) (r : Nat → Int32) (hI : Inv r) : cD l Γ yX7_extreme cX7_extreme 4 (some .int) 1 [.ref h, .int (nI 1)] [mo h a hi lm rm pc bi sd, eI Γ (a 0) 42 r] (some (.int (exF r true (nG r)))) [mo h a hi lm rm pc bi sd, eI Γ (a 0) 42 r] := by
  refine e_int [(0, .ref h), (1, .int (nI 1))] (by decide +kernel) (Nat.le_of_ble_eq_true rfl) rfl (fun V K hR => ?_)
  have h5 := hI.g
  have h6 := hI.m
  refine r_bipush K dX7_extreme_0 ((-9)) (by decide) ?_
  refine r_istore_n K dX7_extreme_2 rfl (by decide) (lv1 := [(2, .int (-9)), (0, .ref h), (1, .int (nI 1))]) rfl ?_
  refine r_iconst K dX7_extreme_3 (nI 0) (by decide) ?_
  refine r_istore_n K dX7_extreme_4 rfl (by decide) (lv1 := [(3, .int (nI 0)), (2, .int (-9)), (0, .ref h), (1, .int (nI 1))]) rfl ?_
  have L5 : ∀ (fL5 : Nat) (k : Nat), (k ≤ nG r) → nG r - k < fL5 → V 5 [(3, .int (nI k)), (2, .int (exF r true k)), (0, .ref h), (1, .int (nI 1))] [] [mo h a hi lm rm pc bi sd, eI Γ (a 0) 42 r] := by
    intro fL5
    induction fL5 with
    | zero => intro k hk_ hf; exact absurd hf (Nat.not_lt_zero _)
    | succ fL5 ih_L5 =>
      intro k hk_ hfL5
      refine r_iload_n K dX7_extreme_5 0 rfl ?_
      refine r_aload_n K dX7_extreme_6 2 rfl ?_
      refine r_get K dX7_extreme_7 (kf := 0) 0 rfl rfl hinX7 (by decide) q757 rfl rfl ?_
      refine r_iconst K dX7_extreme_10 (nI 0) (by decide) ?_
      refine r_aldN K dX7_extreme_11 1 rfl (by first | omega | exact iG_lt (by omega) (by decide) | exact iM_lt (by omega) (by decide)) (by decide) ?_
      refine r_top (y := nI (nG r)) (hI.r0) ?_
      refine r_ic_geN K dX7_extreme_12 (by omega) (by omega) (fun c12 => ?_) (fun c12 => ?_)
      · obtain rfl : k = nG r := by omega
        refine r_iload_n K dX7_extreme_54 1 rfl ?_
        exact hR () dX7_extreme_55 (trivial) (e_ri (rfl)) (weq.rf)
      · refine r_iload_n K dX7_extreme_15 1 rfl ?_
        refine r_if_lt K dX7_extreme_16 (fun c16 => ?_) (fun c16 => ?_)
        · refine r_iload_n K dX7_extreme_46 0 rfl ?_
          refine r_istore_n K dX7_extreme_47 rfl (by decide) (lv1 := [(2, .int (nI k)), (3, .int (nI k)), (0, .ref h), (1, .int (nI 1))]) rfl ?_
          refine r_iincN K dX7_extreme_48 (n := 1) 1 rfl rfl (by decide) (lv1 := [(3, .int (nI (k + 1))), (2, .int (nI k)), (0, .ref h), (1, .int (nI 1))]) rfl ?_
          refine r_goto K dX7_extreme_51 ?_
          refine r_lc (lv1 := [(3, .int (nI (k + 1))), (2, .int (exF r true (k + 1))), (0, .ref h), (1, .int (nI 1))]) (congrArg (fun zz : Int32 => ([(3, .int (nI (k + 1))), (2, .int zz), (0, .ref h), (1, .int (nI 1))] : List (Nat × Value))) ((exF_s (Or.inl (ex_neg (by omega) c16))).symm)) ?_
          exact ih_L5 (k + 1) (by omega) (by omega)
        · obtain ⟨j, hj, ej⟩ := (exF_cases r true k).resolve_left (n9_of c16)
          refine r_lc (lv1 := [(3, .int (nI k)), (2, .int (nI j)), (0, .ref h), (1, .int (nI 1))]) (congrArg (fun zz : Int32 => ([(3, .int (nI k)), (2, .int zz), (0, .ref h), (1, .int (nI 1))] : List (Nat × Value))) (ej)) ?_
          refine r_iload_n K dX7_extreme_19 3 rfl ?_
          refine r_aload_n K dX7_extreme_20 2 rfl ?_
          refine r_get K dX7_extreme_21 (kf := 0) 0 rfl rfl hinX7 (by decide) q757 rfl rfl ?_
          refine r_iload_n K dX7_extreme_24 0 rfl ?_
          refine r_iconst K dX7_extreme_25 (nI 1) (by decide) ?_
          refine r_cSd K dX7_extreme_26 (c_X7_ofG l Γ k 1) mX7_ofG q850 rfl (by decide) 2 rfl [] [0, 1] rfl rfl [mo h a hi lm rm pc bi sd, eI Γ (a 0) 42 r] rfl [mo h a hi lm rm pc bi sd, eI Γ (a 0) 42 r] rfl rfl rfl [.ref (a 0), .int (nI 1)] rfl (Nat.le_of_ble_eq_true rfl) ?_
          refine r_aldN K dX7_extreme_29 1 rfl (by first | omega | exact iG_lt (by omega) (by decide) | exact iM_lt (by omega) (by decide)) (by decide) ?_
          refine r_imul K dX7_extreme_30 ?_
          refine r_iload_n K dX7_extreme_31 3 rfl ?_
          refine r_aload_n K dX7_extreme_32 2 rfl ?_
          refine r_get K dX7_extreme_33 (kf := 0) 0 rfl rfl hinX7 (by decide) q757 rfl rfl ?_
          refine r_iload_n K dX7_extreme_36 1 rfl ?_
          refine r_iconst K dX7_extreme_37 (nI 1) (by decide) ?_
          refine r_cSd K dX7_extreme_38 (c_X7_ofG l Γ j 1) mX7_ofG q850 rfl (by decide) 2 rfl [] [0, 1] rfl rfl [mo h a hi lm rm pc bi sd, eI Γ (a 0) 42 r] rfl [mo h a hi lm rm pc bi sd, eI Γ (a 0) 42 r] rfl rfl rfl [.ref (a 0), .int (nI 1), .int ((nI 1) * (r (iG k 1)))] rfl (Nat.le_of_ble_eq_true rfl) ?_
          refine r_aldN K dX7_extreme_41 1 rfl (by first | omega | exact iG_lt (by omega) (by decide) | exact iM_lt (by omega) (by decide)) (by decide) ?_
          refine r_imul K dX7_extreme_42 ?_
          refine r_ic_le K dX7_extreme_43 (fun c43 => ?_) (fun c43 => ?_)
          · have hk : ¬ (exF r true k = -9 ∨ exLt true (r (iG (ix (exF r true k)) 1)) (r (iG k 1)) = true) := by
              rw [ej, ix_nI (by omega)]
              exact fun z => z.elim (nI_n9 (by omega)) (fun z => (sgn_p).mp c43 (of_decide_eq_true z))
            refine r_iincN K dX7_extreme_48 (n := 1) 0 rfl rfl (by decide) (lv1 := [(3, .int (nI (k + 1))), (2, .int (nI j)), (0, .ref h), (1, .int (nI 1))]) rfl ?_
            refine r_goto K dX7_extreme_51 ?_
            refine r_lc (lv1 := [(3, .int (nI (k + 1))), (2, .int (exF r true (k + 1))), (0, .ref h), (1, .int (nI 1))]) (congrArg (fun zz : Int32 => ([(3, .int (nI (k + 1))), (2, .int zz), (0, .ref h), (1, .int (nI 1))] : List (Nat × Value))) (ej.symm.trans (exF_n hk).symm)) ?_
            exact ih_L5 (k + 1) (by omega) (by omega)
          · refine r_iload_n K dX7_extreme_46 0 rfl ?_
            refine r_istore_n K dX7_extreme_47 rfl (by decide) (lv1 := [(2, .int (nI k)), (3, .int (nI k)), (0, .ref h), (1, .int (nI 1))]) rfl ?_
            refine r_iincN K dX7_extreme_48 (n := 1) 1 rfl rfl (by decide) (lv1 := [(3, .int (nI (k + 1))), (2, .int (nI k)), (0, .ref h), (1, .int (nI 1))]) rfl ?_
            refine r_goto K dX7_extreme_51 ?_
            refine r_lc (lv1 := [(3, .int (nI (k + 1))), (2, .int (exF r true (k + 1))), (0, .ref h), (1, .int (nI 1))]) (congrArg (fun zz : Int32 => ([(3, .int (nI (k + 1))), (2, .int zz), (0, .ref h), (1, .int (nI 1))] : List (Nat × Value))) ((exF_s (Or.inr (by rw [ej, ix_nI (by omega)]; exact decide_eq_true (Classical.not_not.mp (fun z => c43 ((sgn_p).mpr z)))))).symm)) ?_
            exact ih_L5 (k + 1) (by omega) (by omega)
  refine r_lc (lv1 := [(3, .int (nI 0)), (2, .int (exF r true 0)), (0, .ref h), (1, .int (nI 1))]) (rfl) ?_
  exact L5 _ 0 (Nat.zero_le _) (Nat.lt_succ_self _)
set_option maxHeartbeats 1000000 in
set_option maxRecDepth 20000 in
theorem c_X7_extremeM (l : Launch) (Γ : eG) (h : Nat) (a : Nat → Nat) (hi : Bool) (lm : Nat) (rm : Nat) (pc : Nat) (bi : Int32) (sd : Int32) (r : Nat → Int32) (hI : Inv r) : cD l Γ yX7_extreme cX7_extreme 4 (some .int) 1 [.ref h, .int (-1)] [mo h a hi lm rm pc bi sd, eI Γ (a 0) 42 r] (some (.int (exF r false (nG r)))) [mo h a hi lm rm pc bi sd, eI Γ (a 0) 42 r] := by
  refine e_int [(0, .ref h), (1, .int (-1))] (by decide +kernel) (Nat.le_of_ble_eq_true rfl) rfl (fun V K hR => ?_)
  have h5 := hI.g
  have h6 := hI.m
  refine r_bipush K dX7_extreme_0 ((-9)) (by decide) ?_
  refine r_istore_n K dX7_extreme_2 rfl (by decide) (lv1 := [(2, .int (-9)), (0, .ref h), (1, .int (-1))]) rfl ?_
  refine r_iconst K dX7_extreme_3 (nI 0) (by decide) ?_
  refine r_istore_n K dX7_extreme_4 rfl (by decide) (lv1 := [(3, .int (nI 0)), (2, .int (-9)), (0, .ref h), (1, .int (-1))]) rfl ?_
  have L5 : ∀ (fL5 : Nat) (k : Nat), (k ≤ nG r) → nG r - k < fL5 → V 5 [(3, .int (nI k)), (2, .int (exF r false k)), (0, .ref h), (1, .int (-1))] [] [mo h a hi lm rm pc bi sd, eI Γ (a 0) 42 r] := by
    intro fL5
    induction fL5 with
    | zero => intro k hk_ hf; exact absurd hf (Nat.not_lt_zero _)
    | succ fL5 ih_L5 =>
      intro k hk_ hfL5
      refine r_iload_n K dX7_extreme_5 0 rfl ?_
      refine r_aload_n K dX7_extreme_6 2 rfl ?_
      refine r_get K dX7_extreme_7 (kf := 0) 0 rfl rfl hinX7 (by decide) q757 rfl rfl ?_
      refine r_iconst K dX7_extreme_10 (nI 0) (by decide) ?_
      refine r_aldN K dX7_extreme_11 1 rfl (by first | omega | exact iG_lt (by omega) (by decide) | exact iM_lt (by omega) (by decide)) (by decide) ?_
      refine r_top (y := nI (nG r)) (hI.r0) ?_
      refine r_ic_geN K dX7_extreme_12 (by omega) (by omega) (fun c12 => ?_) (fun c12 => ?_)
      · obtain rfl : k = nG r := by omega
        refine r_iload_n K dX7_extreme_54 1 rfl ?_
        exact hR () dX7_extreme_55 (trivial) (e_ri (rfl)) (weq.rf)
      · refine r_iload_n K dX7_extreme_15 1 rfl ?_
        refine r_if_lt K dX7_extreme_16 (fun c16 => ?_) (fun c16 => ?_)
        · refine r_iload_n K dX7_extreme_46 0 rfl ?_
          refine r_istore_n K dX7_extreme_47 rfl (by decide) (lv1 := [(2, .int (nI k)), (3, .int (nI k)), (0, .ref h), (1, .int (-1))]) rfl ?_
          refine r_iincN K dX7_extreme_48 (n := 1) 1 rfl rfl (by decide) (lv1 := [(3, .int (nI (k + 1))), (2, .int (nI k)), (0, .ref h), (1, .int (-1))]) rfl ?_
          refine r_goto K dX7_extreme_51 ?_
          refine r_lc (lv1 := [(3, .int (nI (k + 1))), (2, .int (exF r false (k + 1))), (0, .ref h), (1, .int (-1))]) (congrArg (fun zz : Int32 => ([(3, .int (nI (k + 1))), (2, .int zz), (0, .ref h), (1, .int (-1))] : List (Nat × Value))) ((exF_s (Or.inl (ex_neg (by omega) c16))).symm)) ?_
          exact ih_L5 (k + 1) (by omega) (by omega)
        · obtain ⟨j, hj, ej⟩ := (exF_cases r false k).resolve_left (n9_of c16)
          refine r_lc (lv1 := [(3, .int (nI k)), (2, .int (nI j)), (0, .ref h), (1, .int (-1))]) (congrArg (fun zz : Int32 => ([(3, .int (nI k)), (2, .int zz), (0, .ref h), (1, .int (-1))] : List (Nat × Value))) (ej)) ?_
          refine r_iload_n K dX7_extreme_19 3 rfl ?_
          refine r_aload_n K dX7_extreme_20 2 rfl ?_
          refine r_get K dX7_extreme_21 (kf := 0) 0 rfl rfl hinX7 (by decide) q757 rfl rfl ?_
          refine r_iload_n K dX7_extreme_24 0 rfl ?_
          refine r_iconst K dX7_extreme_25 (nI 1) (by decide) ?_
          refine r_cSd K dX7_extreme_26 (c_X7_ofG l Γ k 1) mX7_ofG q850 rfl (by decide) 2 rfl [] [0, 1] rfl rfl [mo h a hi lm rm pc bi sd, eI Γ (a 0) 42 r] rfl [mo h a hi lm rm pc bi sd, eI Γ (a 0) 42 r] rfl rfl rfl [.ref (a 0), .int (-1)] rfl (Nat.le_of_ble_eq_true rfl) ?_
          refine r_aldN K dX7_extreme_29 1 rfl (by first | omega | exact iG_lt (by omega) (by decide) | exact iM_lt (by omega) (by decide)) (by decide) ?_
          refine r_imul K dX7_extreme_30 ?_
          refine r_iload_n K dX7_extreme_31 3 rfl ?_
          refine r_aload_n K dX7_extreme_32 2 rfl ?_
          refine r_get K dX7_extreme_33 (kf := 0) 0 rfl rfl hinX7 (by decide) q757 rfl rfl ?_
          refine r_iload_n K dX7_extreme_36 1 rfl ?_
          refine r_iconst K dX7_extreme_37 (nI 1) (by decide) ?_
          refine r_cSd K dX7_extreme_38 (c_X7_ofG l Γ j 1) mX7_ofG q850 rfl (by decide) 2 rfl [] [0, 1] rfl rfl [mo h a hi lm rm pc bi sd, eI Γ (a 0) 42 r] rfl [mo h a hi lm rm pc bi sd, eI Γ (a 0) 42 r] rfl rfl rfl [.ref (a 0), .int (-1), .int ((-1) * (r (iG k 1)))] rfl (Nat.le_of_ble_eq_true rfl) ?_
          refine r_aldN K dX7_extreme_41 1 rfl (by first | omega | exact iG_lt (by omega) (by decide) | exact iM_lt (by omega) (by decide)) (by decide) ?_
          refine r_imul K dX7_extreme_42 ?_
          refine r_ic_le K dX7_extreme_43 (fun c43 => ?_) (fun c43 => ?_)
          · have hk : ¬ (exF r false k = -9 ∨ exLt false (r (iG (ix (exF r false k)) 1)) (r (iG k 1)) = true) := by
              rw [ej, ix_nI (by omega)]
              exact fun z => z.elim (nI_n9 (by omega)) (fun z => (sgn_m (hI.gD (by omega)) (hI.gD (by omega))).mp c43 (of_decide_eq_true z))
            refine r_iincN K dX7_extreme_48 (n := 1) 0 rfl rfl (by decide) (lv1 := [(3, .int (nI (k + 1))), (2, .int (nI j)), (0, .ref h), (1, .int (-1))]) rfl ?_
            refine r_goto K dX7_extreme_51 ?_
            refine r_lc (lv1 := [(3, .int (nI (k + 1))), (2, .int (exF r false (k + 1))), (0, .ref h), (1, .int (-1))]) (congrArg (fun zz : Int32 => ([(3, .int (nI (k + 1))), (2, .int zz), (0, .ref h), (1, .int (-1))] : List (Nat × Value))) (ej.symm.trans (exF_n hk).symm)) ?_
            exact ih_L5 (k + 1) (by omega) (by omega)
          · refine r_iload_n K dX7_extreme_46 0 rfl ?_
            refine r_istore_n K dX7_extreme_47 rfl (by decide) (lv1 := [(2, .int (nI k)), (3, .int (nI k)), (0, .ref h), (1, .int (-1))]) rfl ?_
            refine r_iincN K dX7_extreme_48 (n := 1) 1 rfl rfl (by decide) (lv1 := [(3, .int (nI (k + 1))), (2, .int (nI k)), (0, .ref h), (1, .int (-1))]) rfl ?_
            refine r_goto K dX7_extreme_51 ?_
            refine r_lc (lv1 := [(3, .int (nI (k + 1))), (2, .int (exF r false (k + 1))), (0, .ref h), (1, .int (-1))]) (congrArg (fun zz : Int32 => ([(3, .int (nI (k + 1))), (2, .int zz), (0, .ref h), (1, .int (-1))] : List (Nat × Value))) ((exF_s (Or.inr (by rw [ej, ix_nI (by omega)]; exact decide_eq_true (Classical.not_not.mp (fun z => c43 ((sgn_m (hI.gD (by omega)) (hI.gD (by omega))).mpr z)))))).symm)) ?_
            exact ih_L5 (k + 1) (by omega) (by omega)
  refine r_lc (lv1 := [(3, .int (nI 0)), (2, .int (exF r false 0)), (0, .ref h), (1, .int (-1))]) (rfl) ?_
  exact L5 _ 0 (Nat.zero_le _) (Nat.lt_succ_self _)
set_option maxHeartbeats 1000000 in
set_option maxRecDepth 20000 in
theorem c_X7_first (l : Launch) (Γ : eG) (h : Nat) (a : Nat → Nat) (hi : Bool) (lm : Nat) (rm : Nat) (pc : Nat) (bi : Int32) (sd : Int32) (r : Nat → Int32) (q : Nat → Int32) (rf : Nat → Int32) (w : Int32) (hI : Inv r) : cE l Γ yX7_first cX7_first 2 (some .int) 4 [.ref h, .int w] [mo h a hi lm rm pc bi sd, eI Γ (a 0) 42 r, eI Γ (a 1) 42 q, eI Γ (a 6) 7 rf] (S := Nat → Int32) (fun u => True) (fun u => (some (.int (chE (eIs w (nI 0) (nI 4)) (aFirst r w) (eIs w (nI 0) (nI 4)))))) (fun u => [mo h a hi lm rm pc bi sd, eI Γ (a 0) 42 r, eI Γ (a 1) 42 u, eI Γ (a 6) 7 (chE (eIs w (nI 0) (nI 4)) rf (nof rf (eIs w (nI 0) (nI 4))))]) := by
  refine e_int [(0, .ref h), (1, .int w)] (by decide +kernel) (Nat.le_of_ble_eq_true rfl) rfl (fun V K hR => ?_)
  have h5 := hI.g
  have h6 := hI.m
  refine r_iload_n K dX7_first_0 1 rfl ?_
  refine r_tsw K dX7_first_1.1 [36, 36, 42, 47, 53] 59 (by decide) (by decide) (by decide) ⟨fun c1 => ?_, fun c1 => ?_, fun c1 => ?_, fun c1 => ?_, fun c1 => ?_, trivial⟩ (fun c1 => ?_)
  · have c1 : w = nI 0 := c1
    have hb : isInB w (nI 0) (nI 4) = true := by rw [c1]; rfl
    refine r_lc (lv1 := [(0, .ref h), (1, .int (nI 0))]) (congrArg (fun zz : Int32 => ([(0, .ref h), (1, .int zz)] : List (Nat × Value))) (c1)) ?_
    refine r_aload_n K dX7_first_36 0 rfl ?_
    refine r_iload_n K dX7_first_37 1 rfl ?_
    refine r_cV K dX7_first_38 (c_X7_firstFoot l Γ h a hi lm rm pc bi sd r q 0 (hI) (by first | assumption | omega)) mX7_firstFoot q966 rfl (by decide) rfl rfl 4 rfl [0, 1, 2] [3] rfl rfl [eI Γ (a 6) 7 rf] rfl (fun u => [mo h a hi lm rm pc bi sd, eI Γ (a 0) 42 r, eI Γ (a 1) 42 u, eI Γ (a 6) 7 rf]) (fun _ => rfl) (fun _ => rfl) (fun _ => rfl) [] rfl (Nat.le_of_ble_eq_true rfl) (fun u1 hu2 => ?_)
    show V 41 _ [.int (if 0 = 0 then ftG r 61 r else ftL r 61 r 0)] [mo h a hi lm rm pc bi sd, eI Γ (a 0) 42 r, eI Γ (a 1) 42 u1, eI Γ (a 6) 7 rf]
    have he : eIs w (nI 0) (nI 4) = 0 := by
      unfold eIs
      rw [if_neg (not_not_intro hb)]
    refine r_arr K (f2 := chE (eIs w (nI 0) (nI 4)) rf (nof rf (eIs w (nI 0) (nI 4)))) (ws1 := [mo h a hi lm rm pc bi sd, eI Γ (a 0) 42 r, eI Γ (a 1) 42 u1, eI Γ (a 6) 7 (chE (eIs w (nI 0) (nI 4)) rf (nof rf (eIs w (nI 0) (nI 4))))]) 3 rfl (fun _ _ => by rw [chE_0 he]) rfl ?_
    exact hR u1 dX7_first_41 (trivial) (e_ri (ex_0 he (by rw [c1]; exact aFirst_0 r))) (weq.rf)
  · have c1 : w = nI 1 := c1
    have hb : isInB w (nI 0) (nI 4) = true := by rw [c1]; rfl
    refine r_lc (lv1 := [(0, .ref h), (1, .int (nI 1))]) (congrArg (fun zz : Int32 => ([(0, .ref h), (1, .int zz)] : List (Nat × Value))) (c1)) ?_
    refine r_aload_n K dX7_first_36 0 rfl ?_
    refine r_iload_n K dX7_first_37 1 rfl ?_
    refine r_cV K dX7_first_38 (c_X7_firstFoot l Γ h a hi lm rm pc bi sd r q 1 (hI) (by first | assumption | omega)) mX7_firstFoot q966 rfl (by decide) rfl rfl 4 rfl [0, 1, 2] [3] rfl rfl [eI Γ (a 6) 7 rf] rfl (fun u => [mo h a hi lm rm pc bi sd, eI Γ (a 0) 42 r, eI Γ (a 1) 42 u, eI Γ (a 6) 7 rf]) (fun _ => rfl) (fun _ => rfl) (fun _ => rfl) [] rfl (Nat.le_of_ble_eq_true rfl) (fun u3 hu4 => ?_)
    show V 41 _ [.int (if 1 = 0 then ftG r 61 r else ftL r 61 r 0)] [mo h a hi lm rm pc bi sd, eI Γ (a 0) 42 r, eI Γ (a 1) 42 u3, eI Γ (a 6) 7 rf]
    have he : eIs w (nI 0) (nI 4) = 0 := by
      unfold eIs
      rw [if_neg (not_not_intro hb)]
    refine r_arr K (f2 := chE (eIs w (nI 0) (nI 4)) rf (nof rf (eIs w (nI 0) (nI 4)))) (ws1 := [mo h a hi lm rm pc bi sd, eI Γ (a 0) 42 r, eI Γ (a 1) 42 u3, eI Γ (a 6) 7 (chE (eIs w (nI 0) (nI 4)) rf (nof rf (eIs w (nI 0) (nI 4))))]) 3 rfl (fun _ _ => by rw [chE_0 he]) rfl ?_
    exact hR u3 dX7_first_41 (trivial) (e_ri (ex_0 he (by rw [c1]; exact aFirst_1 r))) (weq.rf)
  · have c1 : w = nI 2 := c1
    have hb : isInB w (nI 0) (nI 4) = true := by rw [c1]; rfl
    refine r_aload_n K dX7_first_42 0 rfl ?_
    refine r_cV K dX7_first_43 (c_X7_dry l Γ h a hi lm rm pc bi sd r q (hI)) mX7_dry q970 rfl (by decide) rfl rfl 4 rfl [0, 1, 2] [3] rfl rfl [eI Γ (a 6) 7 rf] rfl (fun u => [mo h a hi lm rm pc bi sd, eI Γ (a 0) 42 r, eI Γ (a 1) 42 u, eI Γ (a 6) 7 rf]) (fun _ => rfl) (fun _ => rfl) (fun _ => rfl) [] rfl (Nat.le_of_ble_eq_true rfl) (fun u5 hu6 => ?_)
    show V 46 _ [.int (dyL 61 r 0)] [mo h a hi lm rm pc bi sd, eI Γ (a 0) 42 r, eI Γ (a 1) 42 u5, eI Γ (a 6) 7 rf]
    have he : eIs w (nI 0) (nI 4) = 0 := by
      unfold eIs
      rw [if_neg (not_not_intro hb)]
    refine r_arr K (f2 := chE (eIs w (nI 0) (nI 4)) rf (nof rf (eIs w (nI 0) (nI 4)))) (ws1 := [mo h a hi lm rm pc bi sd, eI Γ (a 0) 42 r, eI Γ (a 1) 42 u5, eI Γ (a 6) 7 (chE (eIs w (nI 0) (nI 4)) rf (nof rf (eIs w (nI 0) (nI 4))))]) 3 rfl (fun _ _ => by rw [chE_0 he]) rfl ?_
    exact hR u5 dX7_first_46 (trivial) (e_ri (ex_0 he (by rw [c1]; exact aFirst_2 r))) (weq.rf)
  · have c1 : w = nI 3 := c1
    have hb : isInB w (nI 0) (nI 4) = true := by rw [c1]; rfl
    refine r_aload_n K dX7_first_47 0 rfl ?_
    refine r_iconst K dX7_first_48 ((-1)) (by decide) ?_
    refine r_cVd K dX7_first_49 (c_X7_extremeM l Γ h a hi lm rm pc bi sd r (hI)) mX7_extreme q974 rfl (by decide) rfl rfl 4 rfl [0, 1] [2, 3] rfl rfl [eI Γ (a 1) 42 q, eI Γ (a 6) 7 rf] rfl [mo h a hi lm rm pc bi sd, eI Γ (a 0) 42 r, eI Γ (a 1) 42 q, eI Γ (a 6) 7 rf] rfl rfl rfl [] rfl (Nat.le_of_ble_eq_true rfl) ?_
    have he : eIs w (nI 0) (nI 4) = 0 := by
      unfold eIs
      rw [if_neg (not_not_intro hb)]
    refine r_arr K (f2 := chE (eIs w (nI 0) (nI 4)) rf (nof rf (eIs w (nI 0) (nI 4)))) (ws1 := [mo h a hi lm rm pc bi sd, eI Γ (a 0) 42 r, eI Γ (a 1) 42 q, eI Γ (a 6) 7 (chE (eIs w (nI 0) (nI 4)) rf (nof rf (eIs w (nI 0) (nI 4))))]) 3 rfl (fun _ _ => by rw [chE_0 he]) rfl ?_
    exact hR q dX7_first_52 (trivial) (e_ri (ex_0 he (by rw [c1]; exact aFirst_3 r))) (weq.rf)
  · have c1 : w = nI 4 := c1
    have hb : isInB w (nI 0) (nI 4) = true := by rw [c1]; rfl
    refine r_aload_n K dX7_first_53 0 rfl ?_
    refine r_iconst K dX7_first_54 (nI 1) (by decide) ?_
    refine r_cVd K dX7_first_55 (c_X7_extreme1 l Γ h a hi lm rm pc bi sd r (hI)) mX7_extreme q974 rfl (by decide) rfl rfl 4 rfl [0, 1] [2, 3] rfl rfl [eI Γ (a 1) 42 q, eI Γ (a 6) 7 rf] rfl [mo h a hi lm rm pc bi sd, eI Γ (a 0) 42 r, eI Γ (a 1) 42 q, eI Γ (a 6) 7 rf] rfl rfl rfl [] rfl (Nat.le_of_ble_eq_true rfl) ?_
    have he : eIs w (nI 0) (nI 4) = 0 := by
      unfold eIs
      rw [if_neg (not_not_intro hb)]
    refine r_arr K (f2 := chE (eIs w (nI 0) (nI 4)) rf (nof rf (eIs w (nI 0) (nI 4)))) (ws1 := [mo h a hi lm rm pc bi sd, eI Γ (a 0) 42 r, eI Γ (a 1) 42 q, eI Γ (a 6) 7 (chE (eIs w (nI 0) (nI 4)) rf (nof rf (eIs w (nI 0) (nI 4))))]) 3 rfl (fun _ _ => by rw [chE_0 he]) rfl ?_
    exact hR q dX7_first_58 (trivial) (e_ri (ex_0 he (by rw [c1]; exact aFirst_4 r))) (weq.rf)
  · have c1 : ∀ v : Nat, 0 ≤ v → v ≤ 4 → v < 2 ^ 31 → ¬ w = nI v := tsw_out c1
    have hb : isInB w (nI 0) (nI 4) = false := isInB_out (by decide) (by decide) c1
    refine r_aload_n K dX7_first_59 0 rfl ?_
    refine r_bipush K dX7_first_60 ((-2)) (by decide) ?_
    refine r_cVd K dX7_first_62 (c_X7_no l Γ h a hi lm rm pc bi sd rf (-2) (okR_2)) mX7_no q813 rfl (by decide) rfl rfl 4 rfl [0, 3] [1, 2] rfl rfl [eI Γ (a 0) 42 r, eI Γ (a 1) 42 q] rfl [mo h a hi lm rm pc bi sd, eI Γ (a 0) 42 r, eI Γ (a 1) 42 q, eI Γ (a 6) 7 (nof rf (-2))] rfl rfl rfl [] rfl (Nat.le_of_ble_eq_true rfl) ?_
    have he : eIs w (nI 0) (nI 4) = (-2) := by
      unfold eIs
      rw [if_pos (nt hb)]
    refine r_arr K (f2 := chE (eIs w (nI 0) (nI 4)) rf (nof rf (eIs w (nI 0) (nI 4)))) (ws1 := [mo h a hi lm rm pc bi sd, eI Γ (a 0) 42 r, eI Γ (a 1) 42 q, eI Γ (a 6) 7 (chE (eIs w (nI 0) (nI 4)) rf (nof rf (eIs w (nI 0) (nI 4))))]) 3 rfl (fun _ _ => by rw [ch_n (g := nof rf) he (by decide)]) rfl ?_
    exact hR q dX7_first_65 (trivial) (e_ri (ex_n he (by decide))) (weq.rf)
