/-! THE REFERENCE: its calls, second part -/
set_option maxHeartbeats 1000000 in
set_option maxRecDepth 20000 in
theorem c_X7_setsAlone (l : Launch) (Γ : eG) (h : Nat) (a : Nat → Nat) (hi : Bool) (lm : Nat) (rm : Nat) (pc : Nat) (bi : Int32) (sd : Int32) (q : Nat → Int32) (s : Nat) (g : Nat) (hJ : Inv q) (hg : g < nG q) (hs : s < 64) : cD l Γ yX7_setsAlone cX7_setsAlone 4 (none) 1 [.ref h, .int (nI s), .int (nI g)] [mo h a hi lm rm pc bi sd, eI Γ (a 1) 42 q] none [mo h a hi lm rm pc bi sd, eI Γ (a 1) 42 (aloneTo q s g (nM q))] := by
  refine e_void [(0, .ref h), (1, .int (nI s)), (2, .int (nI g))] (by decide +kernel) (Nat.le_of_ble_eq_true rfl) rfl (fun V K hR => ?_)
  have h5 := hJ.g
  have h6 := hJ.m
  refine r_iconst K dX7_setsAlone_0 (nI 0) (by decide) ?_
  refine r_istore_n K dX7_setsAlone_1 rfl (by decide) (lv1 := [(3, .int (nI 0)), (0, .ref h), (1, .int (nI s)), (2, .int (nI g))]) rfl ?_
  have L2 : ∀ (fL2 : Nat) (p : Nat), (p ≤ nM q) → nM q - p < fL2 → V 2 [(3, .int (nI p)), (0, .ref h), (1, .int (nI s)), (2, .int (nI g))] [] [mo h a hi lm rm pc bi sd, eI Γ (a 1) 42 (aloneTo q s g p)] := by
    intro fL2
    induction fL2 with
    | zero => intro p hp hf; exact absurd hf (Nat.not_lt_zero _)
    | succ fL2 ih_L2 =>
      intro p hp hfL2
      refine r_iload_n K dX7_setsAlone_2 0 rfl ?_
      refine r_aload_n K dX7_setsAlone_3 1 rfl ?_
      refine r_get K dX7_setsAlone_4 (kf := 1) 0 rfl rfl hinX7 (by decide) q758 rfl rfl ?_
      refine r_iconst K dX7_setsAlone_7 (nI 1) (by decide) ?_
      refine r_aldN K dX7_setsAlone_8 1 rfl (by first | omega | exact iG_lt (by omega) (by decide) | exact iM_lt (by omega) (by decide)) (by decide) ?_
      refine r_top (y := nI (nM q)) ((Inv_alone hJ hg p).r1.trans (by rw [aloneTo_nM])) ?_
      refine r_ic_geN K dX7_setsAlone_9 (by omega) (by omega) (fun c9 => ?_) (fun c9 => ?_)
      · obtain rfl : p = nM q := by omega
        exact hR () dX7_setsAlone_42 (trivial) rfl (weq.rf)
      · refine r_aload_n K dX7_setsAlone_12 1 rfl ?_
        refine r_get K dX7_setsAlone_13 (kf := 1) 0 rfl rfl hinX7 (by decide) q758 rfl rfl ?_
        refine r_iload_n K dX7_setsAlone_16 0 rfl ?_
        refine r_iconst K dX7_setsAlone_17 (nI 3) (by decide) ?_
        refine r_cSd K dX7_setsAlone_18 (c_X7_ofM l Γ p 3) mX7_ofM q853 rfl (by decide) 2 rfl [] [0, 1] rfl rfl [mo h a hi lm rm pc bi sd, eI Γ (a 1) 42 (aloneTo q s g p)] rfl [mo h a hi lm rm pc bi sd, eI Γ (a 1) 42 (aloneTo q s g p)] rfl rfl rfl [.ref (a 1)] rfl (Nat.le_of_ble_eq_true rfl) ?_
        refine r_iload_n K dX7_setsAlone_21 2 rfl ?_
        refine r_iload_n K dX7_setsAlone_22 0 rfl ?_
        refine r_cSd K dX7_setsAlone_23 (c_X7_has l Γ s p (by first | assumption | omega) (by first | assumption | omega)) mX7_has q1001 rfl (by decide) 2 rfl [] [0, 1] rfl rfl [mo h a hi lm rm pc bi sd, eI Γ (a 1) 42 (aloneTo q s g p)] rfl [mo h a hi lm rm pc bi sd, eI Γ (a 1) 42 (aloneTo q s g p)] rfl rfl rfl [.int (nI (iM p 3)), .ref (a 1)] rfl (Nat.le_of_ble_eq_true rfl) ?_
        refine r_ifeqB K dX7_setsAlone_26 (fun c26 => ?_) (fun c26 => ?_)
        · refine r_bipush K dX7_setsAlone_33 ((-9)) (by decide) ?_
          refine r_astN K dX7_setsAlone_35 (ws1 := [mo h a hi lm rm pc bi sd, eI Γ (a 1) 42 (upd (aloneTo q s g p) (iM p 3) (-9))]) 1 rfl (by first | omega | exact iG_lt (by omega) (by decide) | exact iM_lt (by omega) (by decide)) (by decide) rfl ?_
          refine r_iincN K dX7_setsAlone_36 (n := 1) 0 rfl rfl (by decide) (lv1 := [(3, .int (nI (p + 1))), (0, .ref h), (1, .int (nI s)), (2, .int (nI g))]) rfl ?_
          refine r_goto K dX7_setsAlone_39 ?_
          refine r_arr K (f2 := aloneTo q s g (p + 1)) (ws1 := [mo h a hi lm rm pc bi sd, eI Γ (a 1) 42 (aloneTo q s g (p + 1))]) 1 rfl (fun _ _ => by rw [aloneTo_s, if_neg (nt c26)]) rfl ?_
          exact ih_L2 (p + 1) (by omega) (by omega)
        · refine r_iload_n K dX7_setsAlone_29 3 rfl ?_
          refine r_goto K dX7_setsAlone_30 ?_
          refine r_astN K dX7_setsAlone_35 (ws1 := [mo h a hi lm rm pc bi sd, eI Γ (a 1) 42 (upd (aloneTo q s g p) (iM p 3) (nI g))]) 1 rfl (by first | omega | exact iG_lt (by omega) (by decide) | exact iM_lt (by omega) (by decide)) (by decide) rfl ?_
          refine r_iincN K dX7_setsAlone_36 (n := 1) 0 rfl rfl (by decide) (lv1 := [(3, .int (nI (p + 1))), (0, .ref h), (1, .int (nI s)), (2, .int (nI g))]) rfl ?_
          refine r_goto K dX7_setsAlone_39 ?_
          refine r_arr K (f2 := aloneTo q s g (p + 1)) (ws1 := [mo h a hi lm rm pc bi sd, eI Γ (a 1) 42 (aloneTo q s g (p + 1))]) 1 rfl (fun _ _ => by rw [aloneTo_s, if_pos c26]) rfl ?_
          exact ih_L2 (p + 1) (by omega) (by omega)
  refine r_arr K (f2 := aloneTo q s g 0) (ws1 := [mo h a hi lm rm pc bi sd, eI Γ (a 1) 42 (aloneTo q s g 0)]) 1 rfl (fun _ _ => rfl) rfl ?_
  exact L2 _ 0 (Nat.zero_le _) (Nat.lt_succ_self _)
set_option maxHeartbeats 1000000 in
set_option maxRecDepth 20000 in
theorem c_X7_fewest (l : Launch) (Γ : eG) (h : Nat) (a : Nat → Nat) (hi : Bool) (lm : Nat) (rm : Nat) (pc : Nat) (bi : Int32) (sd : Int32) (r : Nat → Int32) (q : Nat → Int32) (rf : Nat → Int32) (x : Int32) (v : Int32) (n : Int32) (hI : Inv r) : cE l Γ yX7_fewest cX7_fewest 7 (some .int) 4 [.ref h, .int x, .int v, .int n] [mo h a hi lm rm pc bi sd, eI Γ (a 0) 42 r, eI Γ (a 1) 42 q, eI Γ (a 6) 7 rf] (S := Nat → Int32) (fun u => True) (fun u => (some (.int (chE (eFewest r x v n) (fwF r (ix x) (ix n) v (2 ^ nM r)) (eFewest r x v n))))) (fun u => [mo h a hi lm rm pc bi sd, eI Γ (a 0) 42 r, eI Γ (a 1) 42 u, eI Γ (a 6) 7 (chE (eFewest r x v n) rf (nof rf (eFewest r x v n)))]) := by
  refine e_int [(0, .ref h), (1, .int x), (2, .int v), (3, .int n)] (by decide +kernel) (Nat.le_of_ble_eq_true rfl) rfl (fun V K hR => ?_)
  have h5 := hI.g
  have h6 := hI.m
  have hp6 := pow6 h6
  refine r_aload_n K dX7_fewest_0 0 rfl ?_
  refine r_iload_n K dX7_fewest_1 1 rfl ?_
  refine r_cVd K dX7_fewest_2 (c_X7_isGrave l Γ h a hi lm rm pc bi sd r x (hI)) mX7_isGrave q860 rfl (by decide) rfl rfl 4 rfl [0, 1] [2, 3] rfl rfl [eI Γ (a 1) 42 q, eI Γ (a 6) 7 rf] rfl [mo h a hi lm rm pc bi sd, eI Γ (a 0) 42 r, eI Γ (a 1) 42 q, eI Γ (a 6) 7 rf] rfl rfl rfl [] rfl (Nat.le_of_ble_eq_true rfl) ?_
  refine r_ifneB K dX7_fewest_5 (fun c5 => ?_) (fun c5 => ?_)
  · have hx := inN_e c5 (by omega)
    have lx := ix_lt c5 (by omega)
    refine r_lc (lv1 := [(0, .ref h), (1, .int (nI (ix x))), (2, .int v), (3, .int n)]) (congrArg (fun zz : Int32 => ([(0, .ref h), (1, .int zz), (2, .int v), (3, .int n)] : List (Nat × Value))) (hx)) ?_
    refine r_iload_n K dX7_fewest_12 2 rfl ?_
    refine r_if_lt K dX7_fewest_13 (fun c13 => ?_) (fun c13 => ?_)
    · refine r_bipush K dX7_fewest_20 ((-4)) (by decide) ?_
      refine r_goto K dX7_fewest_22 ?_
      refine r_istore K dX7_fewest_43 (by decide) (lv1 := [(4, .int (-4)), (0, .ref h), (1, .int (nI (ix x))), (2, .int v), (3, .int n)]) rfl ?_
      refine r_iload K dX7_fewest_45 0 rfl ?_
      refine r_if_eq K dX7_fewest_47 (fun c47 => ?_) (fun c47 => ?_)
      · exact absurd c47 (by decide)
      · refine r_aload_n K dX7_fewest_50 1 rfl ?_
        refine r_iload K dX7_fewest_51 0 rfl ?_
        refine r_cVd K dX7_fewest_53 (c_X7_no l Γ h a hi lm rm pc bi sd rf (-4) (okR_4)) mX7_no q813 rfl (by decide) rfl rfl 4 rfl [0, 3] [1, 2] rfl rfl [eI Γ (a 0) 42 r, eI Γ (a 1) 42 q] rfl [mo h a hi lm rm pc bi sd, eI Γ (a 0) 42 r, eI Γ (a 1) 42 q, eI Γ (a 6) 7 (nof rf (-4))] rfl rfl rfl [] rfl (Nat.le_of_ble_eq_true rfl) ?_
        have he : eFewest r x v n = (-4) := by
          unfold eFewest
          rw [if_neg (not_not_intro c5), if_pos (Or.inl c13)]
        refine r_arr K (f2 := chE (eFewest r x v n) rf (nof rf (eFewest r x v n))) (ws1 := [mo h a hi lm rm pc bi sd, eI Γ (a 0) 42 r, eI Γ (a 1) 42 q, eI Γ (a 6) 7 (chE (eFewest r x v n) rf (nof rf (eFewest r x v n)))]) 3 rfl (fun _ _ => by rw [ch_n (g := nof rf) he (by decide)]) rfl ?_
        exact hR q dX7_fewest_56 (trivial) (e_ri (ex_n he (by decide))) (weq.rf)
    · refine r_iload_n K dX7_fewest_16 3 rfl ?_
      refine r_if_ge K dX7_fewest_17 (fun c17 => ?_) (fun c17 => ?_)
      · refine r_iload_n K dX7_fewest_25 2 rfl ?_
        refine r_bipush K dX7_fewest_26 (nI 99) (by decide) ?_
        refine r_ic_gt K dX7_fewest_28 (fun c28 => ?_) (fun c28 => ?_)
        · refine r_bipush K dX7_fewest_37 ((-6)) (by decide) ?_
          refine r_goto K dX7_fewest_39 ?_
          refine r_istore K dX7_fewest_43 (by decide) (lv1 := [(4, .int (-6)), (0, .ref h), (1, .int (nI (ix x))), (2, .int v), (3, .int n)]) rfl ?_
          refine r_iload K dX7_fewest_45 0 rfl ?_
          refine r_if_eq K dX7_fewest_47 (fun c47 => ?_) (fun c47 => ?_)
          · exact absurd c47 (by decide)
          · refine r_aload_n K dX7_fewest_50 1 rfl ?_
            refine r_iload K dX7_fewest_51 0 rfl ?_
            refine r_cVd K dX7_fewest_53 (c_X7_no l Γ h a hi lm rm pc bi sd rf (-6) (okR_6)) mX7_no q813 rfl (by decide) rfl rfl 4 rfl [0, 3] [1, 2] rfl rfl [eI Γ (a 0) 42 r, eI Γ (a 1) 42 q] rfl [mo h a hi lm rm pc bi sd, eI Γ (a 0) 42 r, eI Γ (a 1) 42 q, eI Γ (a 6) 7 (nof rf (-6))] rfl rfl rfl [] rfl (Nat.le_of_ble_eq_true rfl) ?_
            have he : eFewest r x v n = (-6) := by
              unfold eFewest
              rw [if_neg (not_not_intro c5), if_neg (fun z => z.elim c13 (fun z => absurd z (Int32.not_lt.mpr c17))), if_pos (Or.inl c28)]
            refine r_arr K (f2 := chE (eFewest r x v n) rf (nof rf (eFewest r x v n))) (ws1 := [mo h a hi lm rm pc bi sd, eI Γ (a 0) 42 r, eI Γ (a 1) 42 q, eI Γ (a 6) 7 (chE (eFewest r x v n) rf (nof rf (eFewest r x v n)))]) 3 rfl (fun _ _ => by rw [ch_n (g := nof rf) he (by decide)]) rfl ?_
            exact hR q dX7_fewest_56 (trivial) (e_ri (ex_n he (by decide))) (weq.rf)
        · refine r_iload_n K dX7_fewest_31 3 rfl ?_
          refine r_bipush K dX7_fewest_32 (nI 30) (by decide) ?_
          refine r_ic_le K dX7_fewest_34 (fun c34 => ?_) (fun c34 => ?_)
          · have hn := nlt0 (hi := 30) (by decide) (Int32.not_lt.mpr c17) (Int32.not_lt.mpr c34)
            have ln := hn.2
            refine r_lc (lv1 := [(0, .ref h), (1, .int (nI (ix x))), (2, .int v), (3, .int (nI (ix n)))]) (congrArg (fun zz : Int32 => ([(0, .ref h), (1, .int (nI (ix x))), (2, .int v), (3, .int zz)] : List (Nat × Value))) (hn.1)) ?_
            refine r_iconst K dX7_fewest_42 (nI 0) (by decide) ?_
            refine r_istore K dX7_fewest_43 (by decide) (lv1 := [(4, .int (nI 0)), (0, .ref h), (1, .int (nI (ix x))), (2, .int v), (3, .int (nI (ix n)))]) rfl ?_
            refine r_iload K dX7_fewest_45 0 rfl ?_
            refine r_if_eqN K dX7_fewest_47 (by omega) (fun c47 => ?_) (fun c47 => ?_)
            · refine r_bipush K dX7_fewest_57 ((-9)) (by decide) ?_
              refine r_istore K dX7_fewest_59 (by decide) (lv1 := [(5, .int (-9)), (4, .int (nI 0)), (0, .ref h), (1, .int (nI (ix x))), (2, .int v), (3, .int (nI (ix n)))]) rfl ?_
              refine r_iconst K dX7_fewest_61 (nI 0) (by decide) ?_
              refine r_istore K dX7_fewest_62 (by decide) (lv1 := [(6, .int (nI 0)), (5, .int (-9)), (4, .int (nI 0)), (0, .ref h), (1, .int (nI (ix x))), (2, .int v), (3, .int (nI (ix n)))]) rfl ?_
              have L64 : ∀ (fL64 : Nat) (s : Nat) (q : Nat → Int32), (s ≤ 2 ^ nM r) → 2 ^ nM r - s < fL64 → V 64 [(6, .int (nI s)), (5, .int (fwF r (ix x) (ix n) v s)), (0, .ref h), (1, .int (nI (ix x))), (2, .int v), (3, .int (nI (ix n)))] [] [mo h a hi lm rm pc bi sd, eI Γ (a 0) 42 r, eI Γ (a 1) 42 q, eI Γ (a 6) 7 rf] := by
                intro fL64
                induction fL64 with
                | zero => intro s q hs hf; exact absurd hf (Nat.not_lt_zero _)
                | succ fL64 ih_L64 =>
                  intro s q hs hfL64
                  refine r_iload K dX7_fewest_64 0 rfl ?_
                  refine r_iconst K dX7_fewest_66 (nI 1) (by decide) ?_
                  refine r_aload_n K dX7_fewest_67 2 rfl ?_
                  refine r_get K dX7_fewest_68 (kf := 0) 0 rfl rfl hinX7 (by decide) q757 rfl rfl ?_
                  refine r_iconst K dX7_fewest_71 (nI 1) (by decide) ?_
                  refine r_aldN K dX7_fewest_72 1 rfl (by first | omega | exact iG_lt (by omega) (by decide) | exact iM_lt (by omega) (by decide)) (by decide) ?_
                  refine r_top (y := nI (nM r)) (hI.r1) ?_
                  refine r_ishl K dX7_fewest_73 ?_
                  refine r_top (y := nI (2 ^ nM r)) (sh1 (by omega)) ?_
                  refine r_ic_geN K dX7_fewest_74 (by omega) (by omega) (fun c74 => ?_) (fun c74 => ?_)
                  · obtain rfl : s = 2 ^ nM r := by omega
                    refine r_iload K dX7_fewest_148 1 rfl ?_
                    have he : eFewest r x v n = 0 := by
                      unfold eFewest
                      rw [if_neg (not_not_intro c5), if_neg (fun z => z.elim c13 (fun z => absurd z (Int32.not_lt.mpr c17))), if_neg (fun z => z.elim c28 (fun z => absurd z (Int32.not_lt.mpr c34)))]
                    refine r_arr K (f2 := chE (eFewest r x v n) rf (nof rf (eFewest r x v n))) (ws1 := [mo h a hi lm rm pc bi sd, eI Γ (a 0) 42 r, eI Γ (a 1) 42 q, eI Γ (a 6) 7 (chE (eFewest r x v n) rf (nof rf (eFewest r x v n)))]) 3 rfl (fun _ _ => by rw [chE_0 he]) rfl ?_
                    exact hR q dX7_fewest_150 (trivial) (e_ri (ex_0 he (rfl))) (weq.rf)
                  · refine r_iload K dX7_fewest_77 1 rfl ?_
                    refine r_if_lt K dX7_fewest_79 (fun c79 => ?_) (fun c79 => ?_)
                    · have hw : fwF r (ix x) (ix n) v s = -9 ∨ pop6 s < pop6 (ix (fwF r (ix x) (ix n) v s)) := Or.inl (fw_neg (by omega) c79)
                      refine r_aload_n K dX7_fewest_98 2 rfl ?_
                      refine r_get K dX7_fewest_99 (kf := 0) 0 rfl rfl hinX7 (by decide) q757 rfl rfl ?_
                      refine r_aload_n K dX7_fewest_102 2 rfl ?_
                      refine r_get K dX7_fewest_103 (kf := 1) 0 rfl rfl hinX7 (by decide) q758 rfl rfl ?_
                      refine r_cSn K dX7_fewest_106 (c_X7_copies l Γ (a 0) (a 1) r q) mX7_copies q843 rfl (by decide) 4 rfl [1, 2] [0, 3] rfl rfl [mo h a hi lm rm pc bi sd, eI Γ (a 6) 7 rf] rfl [mo h a hi lm rm pc bi sd, eI Γ (a 0) 42 r, eI Γ (a 1) 42 r, eI Γ (a 6) 7 rf] rfl rfl rfl [] rfl (Nat.le_of_ble_eq_true rfl) ?_
                      refine r_aload_n K dX7_fewest_109 2 rfl ?_
                      refine r_iload K dX7_fewest_110 0 rfl ?_
                      refine r_iload_n K dX7_fewest_112 3 rfl ?_
                      refine r_cVn K dX7_fewest_113 (c_X7_setsAlone l Γ h a hi lm rm pc bi sd r s (ix x) (hI) (by omega) (by omega)) mX7_setsAlone q997 rfl (by decide) rfl rfl 4 rfl [0, 2] [1, 3] rfl rfl [eI Γ (a 0) 42 r, eI Γ (a 6) 7 rf] rfl [mo h a hi lm rm pc bi sd, eI Γ (a 0) 42 r, eI Γ (a 1) 42 (aloneTo r s (ix x) (nM r)), eI Γ (a 6) 7 rf] rfl rfl rfl [] rfl (Nat.le_of_ble_eq_true rfl) ?_
                      refine r_aload_n K dX7_fewest_116 2 rfl ?_
                      refine r_get K dX7_fewest_117 (kf := 1) 0 rfl rfl hinX7 (by decide) q758 rfl rfl ?_
                      refine r_iload_n K dX7_fewest_120 5 rfl ?_
                      refine r_cSn K dX7_fewest_121 (c_X7_daysOn l Γ (a 1) (aloneTo r s (ix x) (nM r)) (ix n) (Inv_alone hI (by omega) _) (by first | assumption | omega)) mX7_daysOn q873 rfl (by decide) 4 rfl [2] [0, 1, 3] rfl rfl [mo h a hi lm rm pc bi sd, eI Γ (a 0) 42 r, eI Γ (a 6) 7 rf] rfl [mo h a hi lm rm pc bi sd, eI Γ (a 0) 42 r, eI Γ (a 1) 42 (daysS (aloneTo r s (ix x) (nM r)) (ix n)), eI Γ (a 6) 7 rf] rfl rfl rfl [] rfl (Nat.le_of_ble_eq_true rfl) ?_
                      refine r_aload_n K dX7_fewest_124 2 rfl ?_
                      refine r_get K dX7_fewest_125 (kf := 1) 0 rfl rfl hinX7 (by decide) q758 rfl rfl ?_
                      refine r_iload_n K dX7_fewest_128 3 rfl ?_
                      refine r_iconst K dX7_fewest_129 (nI 1) (by decide) ?_
                      refine r_cSd K dX7_fewest_130 (c_X7_ofG l Γ (ix x) 1) mX7_ofG q850 rfl (by decide) 4 rfl [] [0, 1, 2, 3] rfl rfl [mo h a hi lm rm pc bi sd, eI Γ (a 0) 42 r, eI Γ (a 1) 42 (daysS (aloneTo r s (ix x) (nM r)) (ix n)), eI Γ (a 6) 7 rf] rfl [mo h a hi lm rm pc bi sd, eI Γ (a 0) 42 r, eI Γ (a 1) 42 (daysS (aloneTo r s (ix x) (nM r)) (ix n)), eI Γ (a 6) 7 rf] rfl rfl rfl [.ref (a 1)] rfl (Nat.le_of_ble_eq_true rfl) ?_
                      refine r_aldN K dX7_fewest_133 2 rfl (by first | omega | exact iG_lt (by omega) (by decide) | exact iM_lt (by omega) (by decide)) (by decide) ?_
                      refine r_iload_n K dX7_fewest_134 4 rfl ?_
                      refine r_ic_lt K dX7_fewest_135 (fun c135 => ?_) (fun c135 => ?_)
                      · refine r_iincN K dX7_fewest_142 (n := 1) 0 rfl rfl (by decide) (lv1 := [(6, .int (nI (s + 1))), (5, .int (fwF r (ix x) (ix n) v s)), (0, .ref h), (1, .int (nI (ix x))), (2, .int v), (3, .int (nI (ix n)))]) rfl ?_
                        refine r_goto K dX7_fewest_145 ?_
                        refine r_lc (lv1 := [(6, .int (nI (s + 1))), (5, .int (fwF r (ix x) (ix n) v (s + 1))), (0, .ref h), (1, .int (nI (ix x))), (2, .int v), (3, .int (nI (ix n)))]) (congrArg (fun zz : Int32 => ([(6, .int (nI (s + 1))), (5, .int zz), (0, .ref h), (1, .int (nI (ix x))), (2, .int v), (3, .int (nI (ix n)))] : List (Nat × Value))) (Eq.trans (rfl) (fwF_n (fun z => absurd z.2 (Int32.not_le.mpr c135))).symm)) ?_
                        exact ih_L64 (s + 1) (daysS (aloneTo r s (ix x) (nM r)) (ix n)) (by omega) (by omega)
                      · refine r_iload K dX7_fewest_138 0 rfl ?_
                        refine r_istore K dX7_fewest_140 (by decide) (lv1 := [(5, .int (nI s)), (6, .int (nI s)), (0, .ref h), (1, .int (nI (ix x))), (2, .int v), (3, .int (nI (ix n)))]) rfl ?_
                        refine r_iincN K dX7_fewest_142 (n := 1) 1 rfl rfl (by decide) (lv1 := [(6, .int (nI (s + 1))), (5, .int (nI s)), (0, .ref h), (1, .int (nI (ix x))), (2, .int v), (3, .int (nI (ix n)))]) rfl ?_
                        refine r_goto K dX7_fewest_145 ?_
                        refine r_lc (lv1 := [(6, .int (nI (s + 1))), (5, .int (fwF r (ix x) (ix n) v (s + 1))), (0, .ref h), (1, .int (nI (ix x))), (2, .int v), (3, .int (nI (ix n)))]) (congrArg (fun zz : Int32 => ([(6, .int (nI (s + 1))), (5, .int zz), (0, .ref h), (1, .int (nI (ix x))), (2, .int v), (3, .int (nI (ix n)))] : List (Nat × Value))) ((fwF_t ⟨hw, Int32.not_lt.mp c135⟩).symm)) ?_
                        exact ih_L64 (s + 1) (daysS (aloneTo r s (ix x) (nM r)) (ix n)) (by omega) (by omega)
                    · obtain ⟨j, hj, ej⟩ := (fwF_cases r (ix x) (ix n) v s).resolve_left (n9_of c79)
                      have p6s := pop6_7 (s := s)
                      have p6j := pop6_7 (s := j)
                      refine r_lc (lv1 := [(6, .int (nI s)), (5, .int (nI j)), (0, .ref h), (1, .int (nI (ix x))), (2, .int v), (3, .int (nI (ix n)))]) (congrArg (fun zz : Int32 => ([(6, .int (nI s)), (5, .int zz), (0, .ref h), (1, .int (nI (ix x))), (2, .int v), (3, .int (nI (ix n)))] : List (Nat × Value))) (ej)) ?_
                      refine r_iload K dX7_fewest_82 0 rfl ?_
                      refine r_cSd K dX7_fewest_84 (c_X7_bits l Γ s (by omega)) mX7_bits q994 rfl (by decide) 4 rfl [] [0, 1, 2, 3] rfl rfl [mo h a hi lm rm pc bi sd, eI Γ (a 0) 42 r, eI Γ (a 1) 42 q, eI Γ (a 6) 7 rf] rfl [mo h a hi lm rm pc bi sd, eI Γ (a 0) 42 r, eI Γ (a 1) 42 q, eI Γ (a 6) 7 rf] rfl rfl rfl [] rfl (Nat.le_of_ble_eq_true rfl) ?_
                      refine r_iload K dX7_fewest_87 1 rfl ?_
                      refine r_cSd K dX7_fewest_89 (c_X7_bits l Γ j (by omega)) mX7_bits q994 rfl (by decide) 4 rfl [] [0, 1, 2, 3] rfl rfl [mo h a hi lm rm pc bi sd, eI Γ (a 0) 42 r, eI Γ (a 1) 42 q, eI Γ (a 6) 7 rf] rfl [mo h a hi lm rm pc bi sd, eI Γ (a 0) 42 r, eI Γ (a 1) 42 q, eI Γ (a 6) 7 rf] rfl rfl rfl [.int (nI (pop6 s))] rfl (Nat.le_of_ble_eq_true rfl) ?_
                      refine r_ic_ltN K dX7_fewest_92 (by omega) (by omega) (fun c92 => ?_) (fun c92 => ?_)
                      · have hw : fwF r (ix x) (ix n) v s = -9 ∨ pop6 s < pop6 (ix (fwF r (ix x) (ix n) v s)) := Or.inr (by rw [ej, ix_nI (by omega)]; exact c92)
                        refine r_aload_n K dX7_fewest_98 2 rfl ?_
                        refine r_get K dX7_fewest_99 (kf := 0) 0 rfl rfl hinX7 (by decide) q757 rfl rfl ?_
                        refine r_aload_n K dX7_fewest_102 2 rfl ?_
                        refine r_get K dX7_fewest_103 (kf := 1) 0 rfl rfl hinX7 (by decide) q758 rfl rfl ?_
                        refine r_cSn K dX7_fewest_106 (c_X7_copies l Γ (a 0) (a 1) r q) mX7_copies q843 rfl (by decide) 4 rfl [1, 2] [0, 3] rfl rfl [mo h a hi lm rm pc bi sd, eI Γ (a 6) 7 rf] rfl [mo h a hi lm rm pc bi sd, eI Γ (a 0) 42 r, eI Γ (a 1) 42 r, eI Γ (a 6) 7 rf] rfl rfl rfl [] rfl (Nat.le_of_ble_eq_true rfl) ?_
                        refine r_aload_n K dX7_fewest_109 2 rfl ?_
                        refine r_iload K dX7_fewest_110 0 rfl ?_
                        refine r_iload_n K dX7_fewest_112 3 rfl ?_
                        refine r_cVn K dX7_fewest_113 (c_X7_setsAlone l Γ h a hi lm rm pc bi sd r s (ix x) (hI) (by omega) (by omega)) mX7_setsAlone q997 rfl (by decide) rfl rfl 4 rfl [0, 2] [1, 3] rfl rfl [eI Γ (a 0) 42 r, eI Γ (a 6) 7 rf] rfl [mo h a hi lm rm pc bi sd, eI Γ (a 0) 42 r, eI Γ (a 1) 42 (aloneTo r s (ix x) (nM r)), eI Γ (a 6) 7 rf] rfl rfl rfl [] rfl (Nat.le_of_ble_eq_true rfl) ?_
                        refine r_aload_n K dX7_fewest_116 2 rfl ?_
                        refine r_get K dX7_fewest_117 (kf := 1) 0 rfl rfl hinX7 (by decide) q758 rfl rfl ?_
                        refine r_iload_n K dX7_fewest_120 5 rfl ?_
                        refine r_cSn K dX7_fewest_121 (c_X7_daysOn l Γ (a 1) (aloneTo r s (ix x) (nM r)) (ix n) (Inv_alone hI (by omega) _) (by first | assumption | omega)) mX7_daysOn q873 rfl (by decide) 4 rfl [2] [0, 1, 3] rfl rfl [mo h a hi lm rm pc bi sd, eI Γ (a 0) 42 r, eI Γ (a 6) 7 rf] rfl [mo h a hi lm rm pc bi sd, eI Γ (a 0) 42 r, eI Γ (a 1) 42 (daysS (aloneTo r s (ix x) (nM r)) (ix n)), eI Γ (a 6) 7 rf] rfl rfl rfl [] rfl (Nat.le_of_ble_eq_true rfl) ?_
                        refine r_aload_n K dX7_fewest_124 2 rfl ?_
                        refine r_get K dX7_fewest_125 (kf := 1) 0 rfl rfl hinX7 (by decide) q758 rfl rfl ?_
                        refine r_iload_n K dX7_fewest_128 3 rfl ?_
                        refine r_iconst K dX7_fewest_129 (nI 1) (by decide) ?_
                        refine r_cSd K dX7_fewest_130 (c_X7_ofG l Γ (ix x) 1) mX7_ofG q850 rfl (by decide) 4 rfl [] [0, 1, 2, 3] rfl rfl [mo h a hi lm rm pc bi sd, eI Γ (a 0) 42 r, eI Γ (a 1) 42 (daysS (aloneTo r s (ix x) (nM r)) (ix n)), eI Γ (a 6) 7 rf] rfl [mo h a hi lm rm pc bi sd, eI Γ (a 0) 42 r, eI Γ (a 1) 42 (daysS (aloneTo r s (ix x) (nM r)) (ix n)), eI Γ (a 6) 7 rf] rfl rfl rfl [.ref (a 1)] rfl (Nat.le_of_ble_eq_true rfl) ?_
                        refine r_aldN K dX7_fewest_133 2 rfl (by first | omega | exact iG_lt (by omega) (by decide) | exact iM_lt (by omega) (by decide)) (by decide) ?_
                        refine r_iload_n K dX7_fewest_134 4 rfl ?_
                        refine r_ic_lt K dX7_fewest_135 (fun c135 => ?_) (fun c135 => ?_)
                        · refine r_iincN K dX7_fewest_142 (n := 1) 0 rfl rfl (by decide) (lv1 := [(6, .int (nI (s + 1))), (5, .int (nI j)), (0, .ref h), (1, .int (nI (ix x))), (2, .int v), (3, .int (nI (ix n)))]) rfl ?_
                          refine r_goto K dX7_fewest_145 ?_
                          refine r_lc (lv1 := [(6, .int (nI (s + 1))), (5, .int (fwF r (ix x) (ix n) v (s + 1))), (0, .ref h), (1, .int (nI (ix x))), (2, .int v), (3, .int (nI (ix n)))]) (congrArg (fun zz : Int32 => ([(6, .int (nI (s + 1))), (5, .int zz), (0, .ref h), (1, .int (nI (ix x))), (2, .int v), (3, .int (nI (ix n)))] : List (Nat × Value))) (Eq.trans (ej.symm) (fwF_n (fun z => absurd z.2 (Int32.not_le.mpr c135))).symm)) ?_
                          exact ih_L64 (s + 1) (daysS (aloneTo r s (ix x) (nM r)) (ix n)) (by omega) (by omega)
                        · refine r_iload K dX7_fewest_138 0 rfl ?_
                          refine r_istore K dX7_fewest_140 (by decide) (lv1 := [(5, .int (nI s)), (6, .int (nI s)), (0, .ref h), (1, .int (nI (ix x))), (2, .int v), (3, .int (nI (ix n)))]) rfl ?_
                          refine r_iincN K dX7_fewest_142 (n := 1) 1 rfl rfl (by decide) (lv1 := [(6, .int (nI (s + 1))), (5, .int (nI s)), (0, .ref h), (1, .int (nI (ix x))), (2, .int v), (3, .int (nI (ix n)))]) rfl ?_
                          refine r_goto K dX7_fewest_145 ?_
                          refine r_lc (lv1 := [(6, .int (nI (s + 1))), (5, .int (fwF r (ix x) (ix n) v (s + 1))), (0, .ref h), (1, .int (nI (ix x))), (2, .int v), (3, .int (nI (ix n)))]) (congrArg (fun zz : Int32 => ([(6, .int (nI (s + 1))), (5, .int zz), (0, .ref h), (1, .int (nI (ix x))), (2, .int v), (3, .int (nI (ix n)))] : List (Nat × Value))) ((fwF_t ⟨hw, Int32.not_lt.mp c135⟩).symm)) ?_
                          exact ih_L64 (s + 1) (daysS (aloneTo r s (ix x) (nM r)) (ix n)) (by omega) (by omega)
                      · have hw : ¬ (fwF r (ix x) (ix n) v s = -9 ∨ pop6 s < pop6 (ix (fwF r (ix x) (ix n) v s))) := by
                          rw [ej, ix_nI (by omega)]; exact fun z => z.elim (nI_n9 (by omega)) (by omega)
                        refine r_goto K dX7_fewest_95 ?_
                        refine r_iincN K dX7_fewest_142 (n := 1) 0 rfl rfl (by decide) (lv1 := [(6, .int (nI (s + 1))), (5, .int (nI j)), (0, .ref h), (1, .int (nI (ix x))), (2, .int v), (3, .int (nI (ix n)))]) rfl ?_
                        refine r_goto K dX7_fewest_145 ?_
                        refine r_lc (lv1 := [(6, .int (nI (s + 1))), (5, .int (fwF r (ix x) (ix n) v (s + 1))), (0, .ref h), (1, .int (nI (ix x))), (2, .int v), (3, .int (nI (ix n)))]) (congrArg (fun zz : Int32 => ([(6, .int (nI (s + 1))), (5, .int zz), (0, .ref h), (1, .int (nI (ix x))), (2, .int v), (3, .int (nI (ix n)))] : List (Nat × Value))) (ej.symm.trans (fwF_n (fun z => hw z.1)).symm)) ?_
                        exact ih_L64 (s + 1) q (by omega) (by omega)
              refine r_lc (lv1 := [(6, .int (nI 0)), (5, .int (fwF r (ix x) (ix n) v 0)), (4, .int (nI 0)), (0, .ref h), (1, .int (nI (ix x))), (2, .int v), (3, .int (nI (ix n)))]) (rfl) ?_
              refine r_lv K [0, 1, 3, 4, 5, 6] rfl ?_
              exact L64 _ 0 q (Nat.zero_le _) (Nat.lt_succ_self _)
            · exact absurd c47 (by omega)
          · refine r_bipush K dX7_fewest_37 ((-6)) (by decide) ?_
            refine r_goto K dX7_fewest_39 ?_
            refine r_istore K dX7_fewest_43 (by decide) (lv1 := [(4, .int (-6)), (0, .ref h), (1, .int (nI (ix x))), (2, .int v), (3, .int n)]) rfl ?_
            refine r_iload K dX7_fewest_45 0 rfl ?_
            refine r_if_eq K dX7_fewest_47 (fun c47 => ?_) (fun c47 => ?_)
            · exact absurd c47 (by decide)
            · refine r_aload_n K dX7_fewest_50 1 rfl ?_
              refine r_iload K dX7_fewest_51 0 rfl ?_
              refine r_cVd K dX7_fewest_53 (c_X7_no l Γ h a hi lm rm pc bi sd rf (-6) (okR_6)) mX7_no q813 rfl (by decide) rfl rfl 4 rfl [0, 3] [1, 2] rfl rfl [eI Γ (a 0) 42 r, eI Γ (a 1) 42 q] rfl [mo h a hi lm rm pc bi sd, eI Γ (a 0) 42 r, eI Γ (a 1) 42 q, eI Γ (a 6) 7 (nof rf (-6))] rfl rfl rfl [] rfl (Nat.le_of_ble_eq_true rfl) ?_
              have he : eFewest r x v n = (-6) := by
                unfold eFewest
                rw [if_neg (not_not_intro c5), if_neg (fun z => z.elim c13 (fun z => absurd z (Int32.not_lt.mpr c17))), if_pos (Or.inr (Int32.not_le.mp c34))]
              refine r_arr K (f2 := chE (eFewest r x v n) rf (nof rf (eFewest r x v n))) (ws1 := [mo h a hi lm rm pc bi sd, eI Γ (a 0) 42 r, eI Γ (a 1) 42 q, eI Γ (a 6) 7 (chE (eFewest r x v n) rf (nof rf (eFewest r x v n)))]) 3 rfl (fun _ _ => by rw [ch_n (g := nof rf) he (by decide)]) rfl ?_
              exact hR q dX7_fewest_56 (trivial) (e_ri (ex_n he (by decide))) (weq.rf)
      · refine r_bipush K dX7_fewest_20 ((-4)) (by decide) ?_
        refine r_goto K dX7_fewest_22 ?_
        refine r_istore K dX7_fewest_43 (by decide) (lv1 := [(4, .int (-4)), (0, .ref h), (1, .int (nI (ix x))), (2, .int v), (3, .int n)]) rfl ?_
        refine r_iload K dX7_fewest_45 0 rfl ?_
        refine r_if_eq K dX7_fewest_47 (fun c47 => ?_) (fun c47 => ?_)
        · exact absurd c47 (by decide)
        · refine r_aload_n K dX7_fewest_50 1 rfl ?_
          refine r_iload K dX7_fewest_51 0 rfl ?_
          refine r_cVd K dX7_fewest_53 (c_X7_no l Γ h a hi lm rm pc bi sd rf (-4) (okR_4)) mX7_no q813 rfl (by decide) rfl rfl 4 rfl [0, 3] [1, 2] rfl rfl [eI Γ (a 0) 42 r, eI Γ (a 1) 42 q] rfl [mo h a hi lm rm pc bi sd, eI Γ (a 0) 42 r, eI Γ (a 1) 42 q, eI Γ (a 6) 7 (nof rf (-4))] rfl rfl rfl [] rfl (Nat.le_of_ble_eq_true rfl) ?_
          have he : eFewest r x v n = (-4) := by
            unfold eFewest
            rw [if_neg (not_not_intro c5), if_pos (Or.inr (Int32.not_le.mp c17))]
          refine r_arr K (f2 := chE (eFewest r x v n) rf (nof rf (eFewest r x v n))) (ws1 := [mo h a hi lm rm pc bi sd, eI Γ (a 0) 42 r, eI Γ (a 1) 42 q, eI Γ (a 6) 7 (chE (eFewest r x v n) rf (nof rf (eFewest r x v n)))]) 3 rfl (fun _ _ => by rw [ch_n (g := nof rf) he (by decide)]) rfl ?_
          exact hR q dX7_fewest_56 (trivial) (e_ri (ex_n he (by decide))) (weq.rf)
  · refine r_iconst K dX7_fewest_8 ((-1)) (by decide) ?_
    refine r_goto K dX7_fewest_9 ?_
    refine r_istore K dX7_fewest_43 (by decide) (lv1 := [(4, .int (-1)), (0, .ref h), (1, .int x), (2, .int v), (3, .int n)]) rfl ?_
    refine r_iload K dX7_fewest_45 0 rfl ?_
    refine r_if_eq K dX7_fewest_47 (fun c47 => ?_) (fun c47 => ?_)
    · exact absurd c47 (by decide)
    · refine r_aload_n K dX7_fewest_50 1 rfl ?_
      refine r_iload K dX7_fewest_51 0 rfl ?_
      refine r_cVd K dX7_fewest_53 (c_X7_no l Γ h a hi lm rm pc bi sd rf (-1) (okR_1)) mX7_no q813 rfl (by decide) rfl rfl 4 rfl [0, 3] [1, 2] rfl rfl [eI Γ (a 0) 42 r, eI Γ (a 1) 42 q] rfl [mo h a hi lm rm pc bi sd, eI Γ (a 0) 42 r, eI Γ (a 1) 42 q, eI Γ (a 6) 7 (nof rf (-1))] rfl rfl rfl [] rfl (Nat.le_of_ble_eq_true rfl) ?_
      have he : eFewest r x v n = (-1) := by
        unfold eFewest
        rw [if_pos (nt c5)]
      refine r_arr K (f2 := chE (eFewest r x v n) rf (nof rf (eFewest r x v n))) (ws1 := [mo h a hi lm rm pc bi sd, eI Γ (a 0) 42 r, eI Γ (a 1) 42 q, eI Γ (a 6) 7 (chE (eFewest r x v n) rf (nof rf (eFewest r x v n)))]) 3 rfl (fun _ _ => by rw [ch_n (g := nof rf) he (by decide)]) rfl ?_
      exact hR q dX7_fewest_56 (trivial) (e_ri (ex_n he (by decide))) (weq.rf)
set_option maxHeartbeats 1000000 in
set_option maxRecDepth 20000 in
theorem c_X7_inchesNow (l : Launch) (Γ : eG) (h : Nat) (a : Nat → Nat) (hi : Bool) (lm : Nat) (rm : Nat) (pc : Nat) (bi : Int32) (sd : Int32) (r : Nat → Int32) (q : Nat → Int32) (n : Nat) (hI : Inv r) (hn : n < 2 ^ 31) : cD l Γ yX7_inchesNow cX7_inchesNow 2 (some .int) 5 [.ref h, .int (nI n)] [mo h a hi lm rm pc bi sd, eI Γ (a 0) 42 r, eI Γ (a 1) 42 q] (some (.int (incS (daysS r n)))) [mo h a hi lm rm pc bi sd, eI Γ (a 0) 42 r, eI Γ (a 1) 42 (daysS r n)] := by
  refine e_int [(0, .ref h), (1, .int (nI n))] (by decide +kernel) (Nat.le_of_ble_eq_true rfl) rfl (fun V K hR => ?_)
  have h5 := hI.g
  have h6 := hI.m
  refine r_aload_n K dX7_inchesNow_0 0 rfl ?_
  refine r_iload_n K dX7_inchesNow_1 1 rfl ?_
  refine r_cVn K dX7_inchesNow_2 (c_X7_takes l Γ h a hi lm rm pc bi sd r q n (hI) (by first | assumption | omega)) mX7_takes q946 rfl (by decide) rfl rfl 3 rfl [0, 1, 2] [] rfl rfl [] rfl [mo h a hi lm rm pc bi sd, eI Γ (a 0) 42 r, eI Γ (a 1) 42 (daysS r n)] rfl rfl rfl [] rfl (Nat.le_of_ble_eq_true rfl) ?_
  refine r_aload_n K dX7_inchesNow_5 0 rfl ?_
  refine r_get K dX7_inchesNow_6 (kf := 1) 0 rfl rfl hinX7 (by decide) q758 rfl rfl ?_
  refine r_cSd K dX7_inchesNow_9 (c_X7_inchesIn l Γ (a 1) (daysS r n) (Inv_daysS (hI) n)) mX7_inchesIn q1012 rfl (by decide) 3 rfl [2] [0, 1] rfl rfl [mo h a hi lm rm pc bi sd, eI Γ (a 0) 42 r] rfl [mo h a hi lm rm pc bi sd, eI Γ (a 0) 42 r, eI Γ (a 1) 42 (daysS r n)] rfl rfl rfl [] rfl (Nat.le_of_ble_eq_true rfl) ?_
  exact hR () dX7_inchesNow_12 (trivial) (e_ri (rfl)) (weq.rf)
set_option maxHeartbeats 1000000 in
set_option maxRecDepth 20000 in
theorem c_X7_payNow (l : Launch) (Γ : eG) (h : Nat) (a : Nat → Nat) (hi : Bool) (lm : Nat) (rm : Nat) (pc : Nat) (bi : Int32) (sd : Int32) (r : Nat → Int32) (q : Nat → Int32) (n : Nat) (hI : Inv r) (hn : n < 2 ^ 31) : cD l Γ yX7_payNow cX7_payNow 2 (some .int) 5 [.ref h, .int (nI n)] [mo h a hi lm rm pc bi sd, eI Γ (a 0) 42 r, eI Γ (a 1) 42 q] (some (.int (payS (daysS r n)))) [mo h a hi lm rm pc bi sd, eI Γ (a 0) 42 r, eI Γ (a 1) 42 (daysS r n)] := by
  refine e_int [(0, .ref h), (1, .int (nI n))] (by decide +kernel) (Nat.le_of_ble_eq_true rfl) rfl (fun V K hR => ?_)
  have h5 := hI.g
  have h6 := hI.m
  refine r_aload_n K dX7_payNow_0 0 rfl ?_
  refine r_iload_n K dX7_payNow_1 1 rfl ?_
  refine r_cVn K dX7_payNow_2 (c_X7_takes l Γ h a hi lm rm pc bi sd r q n (hI) (by first | assumption | omega)) mX7_takes q946 rfl (by decide) rfl rfl 3 rfl [0, 1, 2] [] rfl rfl [] rfl [mo h a hi lm rm pc bi sd, eI Γ (a 0) 42 r, eI Γ (a 1) 42 (daysS r n)] rfl rfl rfl [] rfl (Nat.le_of_ble_eq_true rfl) ?_
  refine r_aload_n K dX7_payNow_5 0 rfl ?_
  refine r_get K dX7_payNow_6 (kf := 1) 0 rfl rfl hinX7 (by decide) q758 rfl rfl ?_
  refine r_cSd K dX7_payNow_9 (c_X7_payIn l Γ (a 1) (daysS r n) (Inv_daysS (hI) n)) mX7_payIn q939 rfl (by decide) 3 rfl [2] [0, 1] rfl rfl [mo h a hi lm rm pc bi sd, eI Γ (a 0) 42 r] rfl [mo h a hi lm rm pc bi sd, eI Γ (a 0) 42 r, eI Γ (a 1) 42 (daysS r n)] rfl rfl rfl [] rfl (Nat.le_of_ble_eq_true rfl) ?_
  exact hR () dX7_payNow_12 (trivial) (e_ri (rfl)) (weq.rf)
set_option maxHeartbeats 1000000 in
set_option maxRecDepth 20000 in
theorem c_X7_tell (l : Launch) (Γ : eG) (h : Nat) (a : Nat → Nat) (hi : Bool) (lm : Nat) (rm : Nat) (pc : Nat) (bi : Int32) (sd : Int32) (r : Nat → Int32) (q : Nat → Int32) (rf : Nat → Int32) (n : Int32) (hI : Inv r) : cE l Γ yX7_tell cX7_tell 6 (some .int) 6 [.ref h, .int n] [mo h a hi lm rm pc bi sd, eI Γ (a 0) 42 r, eI Γ (a 1) 42 q, eI Γ (a 6) 7 rf] (S := Nat → Int32) (fun u => True) (fun u => (some (.int (chE (eW n (nI 1) (nI 30)) ((amF (tellV r (ix n)) (incS (daysS r (ix n))) (nM r)).2) (eW n (nI 1) (nI 30)))))) (fun u => [mo h a hi lm rm pc bi sd, eI Γ (a 0) 42 r, eI Γ (a 1) 42 u, eI Γ (a 6) 7 (chE (eW n (nI 1) (nI 30)) rf (nof rf (eW n (nI 1) (nI 30))))]) := by
  refine e_int [(0, .ref h), (1, .int n)] (by decide +kernel) (Nat.le_of_ble_eq_true rfl) rfl (fun V K hR => ?_)
  have h5 := hI.g
  have h6 := hI.m
  refine r_iload_n K dX7_tell_0 1 rfl ?_
  refine r_iconst K dX7_tell_1 (nI 1) (by decide) ?_
  refine r_bipush K dX7_tell_2 (nI 30) (by decide) ?_
  refine r_cSd K dX7_tell_4 (c_X7_wrongBy l Γ n (nI 1) (nI 30)) mX7_wrongBy q924 rfl (by decide) 4 rfl [] [0, 1, 2, 3] rfl rfl [mo h a hi lm rm pc bi sd, eI Γ (a 0) 42 r, eI Γ (a 1) 42 q, eI Γ (a 6) 7 rf] rfl [mo h a hi lm rm pc bi sd, eI Γ (a 0) 42 r, eI Γ (a 1) 42 q, eI Γ (a 6) 7 rf] rfl rfl rfl [] rfl (Nat.le_of_ble_eq_true rfl) ?_
  refine r_istore_n K dX7_tell_7 rfl (by decide) (lv1 := [(2, .int (wrS n (nI 1) (nI 30))), (0, .ref h), (1, .int n)]) rfl ?_
  refine r_iload_n K dX7_tell_8 0 rfl ?_
  refine r_if_eq K dX7_tell_9 (fun c9 => ?_) (fun c9 => ?_)
  · have hn := wrS_ok (by decide) (by decide) c9
    have ln := hn.2
    refine r_lc (lv1 := [(2, .int (wrS n (nI 1) (nI 30))), (0, .ref h), (1, .int (nI (ix n)))]) (congrArg (fun zz : Int32 => ([(2, .int (wrS n (nI 1) (nI 30))), (0, .ref h), (1, .int zz)] : List (Nat × Value))) (hn.1)) ?_
    refine r_aload_n K dX7_tell_18 1 rfl ?_
    refine r_iload_n K dX7_tell_19 2 rfl ?_
    refine r_cVd K dX7_tell_20 (c_X7_inchesNow l Γ h a hi lm rm pc bi sd r q (ix n) (hI) (by first | assumption | omega)) mX7_inchesNow q1008 rfl (by decide) rfl rfl 4 rfl [0, 1, 2] [3] rfl rfl [eI Γ (a 6) 7 rf] rfl [mo h a hi lm rm pc bi sd, eI Γ (a 0) 42 r, eI Γ (a 1) 42 (daysS r (ix n)), eI Γ (a 6) 7 rf] rfl rfl rfl [] rfl (Nat.le_of_ble_eq_true rfl) ?_
    refine r_istore_n K dX7_tell_23 rfl (by decide) (lv1 := [(3, .int (incS (daysS r (ix n)))), (2, .int (wrS n (nI 1) (nI 30))), (0, .ref h), (1, .int (nI (ix n)))]) rfl ?_
    refine r_bipush K dX7_tell_24 ((-9)) (by decide) ?_
    refine r_istore K dX7_tell_26 (by decide) (lv1 := [(4, .int (-9)), (3, .int (incS (daysS r (ix n)))), (2, .int (wrS n (nI 1) (nI 30))), (0, .ref h), (1, .int (nI (ix n)))]) rfl ?_
    refine r_iconst K dX7_tell_28 (nI 0) (by decide) ?_
    refine r_istore K dX7_tell_29 (by decide) (lv1 := [(5, .int (nI 0)), (4, .int (-9)), (3, .int (incS (daysS r (ix n)))), (2, .int (wrS n (nI 1) (nI 30))), (0, .ref h), (1, .int (nI (ix n)))]) rfl ?_
    have L31 : ∀ (fL31 : Nat) (k : Nat) (q : Nat → Int32), (k ≤ nM r) → nM r - k < fL31 → V 31 [(5, .int (nI k)), (4, .int ((amF (tellV r (ix n)) (incS (daysS r (ix n))) k).2)), (3, .int ((amF (tellV r (ix n)) (incS (daysS r (ix n))) k).1)), (0, .ref h), (1, .int (nI (ix n)))] [] [mo h a hi lm rm pc bi sd, eI Γ (a 0) 42 r, eI Γ (a 1) 42 q, eI Γ (a 6) 7 rf] := by
      intro fL31
      induction fL31 with
      | zero => intro k q hk hf; exact absurd hf (Nat.not_lt_zero _)
      | succ fL31 ih_L31 =>
        intro k q hk hfL31
        refine r_iload K dX7_tell_31 0 rfl ?_
        refine r_aload_n K dX7_tell_33 3 rfl ?_
        refine r_get K dX7_tell_34 (kf := 0) 0 rfl rfl hinX7 (by decide) q757 rfl rfl ?_
        refine r_iconst K dX7_tell_37 (nI 1) (by decide) ?_
        refine r_aldN K dX7_tell_38 1 rfl (by first | omega | exact iG_lt (by omega) (by decide) | exact iM_lt (by omega) (by decide)) (by decide) ?_
        refine r_top (y := nI (nM r)) (hI.r1) ?_
        refine r_ic_geN K dX7_tell_39 (by omega) (by omega) (fun c39 => ?_) (fun c39 => ?_)
        · obtain rfl : k = nM r := by omega
          refine r_iload K dX7_tell_102 1 rfl ?_
          have he : eW n (nI 1) (nI 30) = 0 := by
            unfold eW
            rw [if_neg (not_not_intro c9)]
          refine r_arr K (f2 := chE (eW n (nI 1) (nI 30)) rf (nof rf (eW n (nI 1) (nI 30)))) (ws1 := [mo h a hi lm rm pc bi sd, eI Γ (a 0) 42 r, eI Γ (a 1) 42 q, eI Γ (a 6) 7 (chE (eW n (nI 1) (nI 30)) rf (nof rf (eW n (nI 1) (nI 30))))]) 3 rfl (fun _ _ => by rw [chE_0 he]) rfl ?_
          exact hR q dX7_tell_104 (trivial) (e_ri (ex_0 he (rfl))) (weq.rf)
        · refine r_aload_n K dX7_tell_42 3 rfl ?_
          refine r_get K dX7_tell_43 (kf := 0) 0 rfl rfl hinX7 (by decide) q757 rfl rfl ?_
          refine r_aload_n K dX7_tell_46 3 rfl ?_
          refine r_get K dX7_tell_47 (kf := 1) 0 rfl rfl hinX7 (by decide) q758 rfl rfl ?_
          refine r_cSn K dX7_tell_50 (c_X7_copies l Γ (a 0) (a 1) r q) mX7_copies q843 rfl (by decide) 4 rfl [1, 2] [0, 3] rfl rfl [mo h a hi lm rm pc bi sd, eI Γ (a 6) 7 rf] rfl [mo h a hi lm rm pc bi sd, eI Γ (a 0) 42 r, eI Γ (a 1) 42 r, eI Γ (a 6) 7 rf] rfl rfl rfl [] rfl (Nat.le_of_ble_eq_true rfl) ?_
          refine r_aload_n K dX7_tell_53 3 rfl ?_
          refine r_get K dX7_tell_54 (kf := 1) 0 rfl rfl hinX7 (by decide) q758 rfl rfl ?_
          refine r_iload K dX7_tell_57 0 rfl ?_
          refine r_cSn K dX7_tell_59 (c_X7_isTold l Γ (a 1) r k (by first | assumption | omega)) mX7_isTold q864 rfl (by decide) 4 rfl [2] [0, 1, 3] rfl rfl [mo h a hi lm rm pc bi sd, eI Γ (a 0) 42 r, eI Γ (a 6) 7 rf] rfl [mo h a hi lm rm pc bi sd, eI Γ (a 0) 42 r, eI Γ (a 1) 42 (tellS r k), eI Γ (a 6) 7 rf] rfl rfl rfl [] rfl (Nat.le_of_ble_eq_true rfl) ?_
          refine r_aload_n K dX7_tell_62 3 rfl ?_
          refine r_get K dX7_tell_63 (kf := 1) 0 rfl rfl hinX7 (by decide) q758 rfl rfl ?_
          refine r_iload_n K dX7_tell_66 4 rfl ?_
          refine r_cSn K dX7_tell_67 (c_X7_daysOn l Γ (a 1) (tellS r k) (ix n) (Inv_tellS (hI) (by first | omega | (simp only [daysS_nM, daysS_nG, dayS_nM, dayS_nG, tellS_nM, tellS_nG, aloneTo_nM, aloneTo_nG, nM_M, nG_M, nM_G, nG_G, lv_nM, lv_nG, gnT_nM, gnT_nG] <;> omega))) (by first | assumption | omega)) mX7_daysOn q873 rfl (by decide) 4 rfl [2] [0, 1, 3] rfl rfl [mo h a hi lm rm pc bi sd, eI Γ (a 0) 42 r, eI Γ (a 6) 7 rf] rfl [mo h a hi lm rm pc bi sd, eI Γ (a 0) 42 r, eI Γ (a 1) 42 (daysS (tellS r k) (ix n)), eI Γ (a 6) 7 rf] rfl rfl rfl [] rfl (Nat.le_of_ble_eq_true rfl) ?_
          refine r_aload_n K dX7_tell_70 3 rfl ?_
          refine r_get K dX7_tell_71 (kf := 1) 0 rfl rfl hinX7 (by decide) q758 rfl rfl ?_
          refine r_cSd K dX7_tell_74 (c_X7_inchesIn l Γ (a 1) (daysS (tellS r k) (ix n)) (Inv_daysS (Inv_tellS (hI) (by first | omega | (simp only [daysS_nM, daysS_nG, dayS_nM, dayS_nG, tellS_nM, tellS_nG, aloneTo_nM, aloneTo_nG, nM_M, nG_M, nM_G, nG_G, lv_nM, lv_nG, gnT_nM, gnT_nG] <;> omega))) (ix n))) mX7_inchesIn q1012 rfl (by decide) 4 rfl [2] [0, 1, 3] rfl rfl [mo h a hi lm rm pc bi sd, eI Γ (a 0) 42 r, eI Γ (a 6) 7 rf] rfl [mo h a hi lm rm pc bi sd, eI Γ (a 0) 42 r, eI Γ (a 1) 42 (daysS (tellS r k) (ix n)), eI Γ (a 6) 7 rf] rfl rfl rfl [] rfl (Nat.le_of_ble_eq_true rfl) ?_
          refine r_iload_n K dX7_tell_77 2 rfl ?_
          refine r_ic_gt K dX7_tell_78 (fun c78 => ?_) (fun c78 => ?_)
          · refine r_iload K dX7_tell_84 0 rfl ?_
            refine r_istore K dX7_tell_86 (by decide) (lv1 := [(4, .int (nI k)), (5, .int (nI k)), (3, .int ((amF (tellV r (ix n)) (incS (daysS r (ix n))) k).1)), (0, .ref h), (1, .int (nI (ix n)))]) rfl ?_
            refine r_aload_n K dX7_tell_88 3 rfl ?_
            refine r_get K dX7_tell_89 (kf := 1) 0 rfl rfl hinX7 (by decide) q758 rfl rfl ?_
            refine r_cSd K dX7_tell_92 (c_X7_inchesIn l Γ (a 1) (daysS (tellS r k) (ix n)) (Inv_daysS (Inv_tellS (hI) (by first | omega | (simp only [daysS_nM, daysS_nG, dayS_nM, dayS_nG, tellS_nM, tellS_nG, aloneTo_nM, aloneTo_nG, nM_M, nG_M, nM_G, nG_G, lv_nM, lv_nG, gnT_nM, gnT_nG] <;> omega))) (ix n))) mX7_inchesIn q1012 rfl (by decide) 4 rfl [2] [0, 1, 3] rfl rfl [mo h a hi lm rm pc bi sd, eI Γ (a 0) 42 r, eI Γ (a 6) 7 rf] rfl [mo h a hi lm rm pc bi sd, eI Γ (a 0) 42 r, eI Γ (a 1) 42 (daysS (tellS r k) (ix n)), eI Γ (a 6) 7 rf] rfl rfl rfl [] rfl (Nat.le_of_ble_eq_true rfl) ?_
            refine r_istore_n K dX7_tell_95 rfl (by decide) (lv1 := [(3, .int (incS (daysS (tellS r k) (ix n)))), (4, .int (nI k)), (5, .int (nI k)), (0, .ref h), (1, .int (nI (ix n)))]) rfl ?_
            refine r_iincN K dX7_tell_96 (n := 1) 2 rfl rfl (by decide) (lv1 := [(5, .int (nI (k + 1))), (3, .int (incS (daysS (tellS r k) (ix n)))), (4, .int (nI k)), (0, .ref h), (1, .int (nI (ix n)))]) rfl ?_
            refine r_goto K dX7_tell_99 ?_
            refine r_lc (lv1 := [(5, .int (nI (k + 1))), (3, .int (incS (daysS (tellS r k) (ix n)))), (4, .int ((amF (tellV r (ix n)) (incS (daysS r (ix n))) (k + 1)).2)), (0, .ref h), (1, .int (nI (ix n)))]) (by rw [amF_t (show (amF (tellV r (ix n)) (incS (daysS r (ix n))) k).1 < tellV r (ix n) k from c78)]) ?_
            refine r_lc (lv1 := [(5, .int (nI (k + 1))), (3, .int ((amF (tellV r (ix n)) (incS (daysS r (ix n))) (k + 1)).1)), (4, .int ((amF (tellV r (ix n)) (incS (daysS r (ix n))) (k + 1)).2)), (0, .ref h), (1, .int (nI (ix n)))]) (by rw [amF_t (show (amF (tellV r (ix n)) (incS (daysS r (ix n))) k).1 < tellV r (ix n) k from c78)]; rfl) ?_
            refine r_lv K [0, 2, 1, 3, 4] rfl ?_
            exact ih_L31 (k + 1) (daysS (tellS r k) (ix n)) (by omega) (by omega)
          · refine r_goto K dX7_tell_81 ?_
            refine r_iincN K dX7_tell_96 (n := 1) 0 rfl rfl (by decide) (lv1 := [(5, .int (nI (k + 1))), (4, .int ((amF (tellV r (ix n)) (incS (daysS r (ix n))) k).2)), (3, .int ((amF (tellV r (ix n)) (incS (daysS r (ix n))) k).1)), (0, .ref h), (1, .int (nI (ix n)))]) rfl ?_
            refine r_goto K dX7_tell_99 ?_
            refine r_lc (lv1 := [(5, .int (nI (k + 1))), (4, .int ((amF (tellV r (ix n)) (incS (daysS r (ix n))) (k + 1)).2)), (3, .int ((amF (tellV r (ix n)) (incS (daysS r (ix n))) k).1)), (0, .ref h), (1, .int (nI (ix n)))]) (by rw [amF_n (show ¬ (amF (tellV r (ix n)) (incS (daysS r (ix n))) k).1 < tellV r (ix n) k from fun z => c78 z)]) ?_
            refine r_lc (lv1 := [(5, .int (nI (k + 1))), (4, .int ((amF (tellV r (ix n)) (incS (daysS r (ix n))) (k + 1)).2)), (3, .int ((amF (tellV r (ix n)) (incS (daysS r (ix n))) (k + 1)).1)), (0, .ref h), (1, .int (nI (ix n)))]) (by rw [amF_n (show ¬ (amF (tellV r (ix n)) (incS (daysS r (ix n))) k).1 < tellV r (ix n) k from fun z => c78 z)]) ?_
            exact ih_L31 (k + 1) (daysS (tellS r k) (ix n)) (by omega) (by omega)
    refine r_lc (lv1 := [(5, .int (nI 0)), (4, .int ((amF (tellV r (ix n)) (incS (daysS r (ix n))) 0).2)), (3, .int (incS (daysS r (ix n)))), (2, .int (wrS n (nI 1) (nI 30))), (0, .ref h), (1, .int (nI (ix n)))]) (rfl) ?_
    refine r_lc (lv1 := [(5, .int (nI 0)), (4, .int ((amF (tellV r (ix n)) (incS (daysS r (ix n))) 0).2)), (3, .int ((amF (tellV r (ix n)) (incS (daysS r (ix n))) 0).1)), (2, .int (wrS n (nI 1) (nI 30))), (0, .ref h), (1, .int (nI (ix n)))]) (rfl) ?_
    refine r_lv K [0, 1, 2, 4, 5] rfl ?_
    exact L31 _ 0 (daysS r (ix n)) (Nat.zero_le _) (Nat.lt_succ_self _)
  · refine r_aload_n K dX7_tell_12 1 rfl ?_
    refine r_iload_n K dX7_tell_13 0 rfl ?_
    refine r_cVd K dX7_tell_14 (c_X7_no l Γ h a hi lm rm pc bi sd rf (wrS n (nI 1) (nI 30)) (okR_wr c9)) mX7_no q813 rfl (by decide) rfl rfl 4 rfl [0, 3] [1, 2] rfl rfl [eI Γ (a 0) 42 r, eI Γ (a 1) 42 q] rfl [mo h a hi lm rm pc bi sd, eI Γ (a 0) 42 r, eI Γ (a 1) 42 q, eI Γ (a 6) 7 (nof rf (wrS n (nI 1) (nI 30)))] rfl rfl rfl [] rfl (Nat.le_of_ble_eq_true rfl) ?_
    have he : eW n (nI 1) (nI 30) = wrS n (nI 1) (nI 30) := by
      unfold eW
      rw [if_pos c9]
    refine r_arr K (f2 := chE (eW n (nI 1) (nI 30)) rf (nof rf (eW n (nI 1) (nI 30)))) (ws1 := [mo h a hi lm rm pc bi sd, eI Γ (a 0) 42 r, eI Γ (a 1) 42 q, eI Γ (a 6) 7 (chE (eW n (nI 1) (nI 30)) rf (nof rf (eW n (nI 1) (nI 30))))]) 3 rfl (fun _ _ => by rw [ch_n (g := nof rf) he c9]) rfl ?_
    exact hR q dX7_tell_17 (trivial) (e_ri (ex_n he c9)) (weq.rf)
set_option maxHeartbeats 1000000 in
set_option maxRecDepth 20000 in
theorem c_X7_send (l : Launch) (Γ : eG) (h : Nat) (a : Nat → Nat) (hi : Bool) (lm : Nat) (rm : Nat) (pc : Nat) (bi : Int32) (sd : Int32) (r : Nat → Int32) (q : Nat → Int32) (rf : Nat → Int32) (n : Int32) (w : Int32) (hI : Inv r) : cE l Γ yX7_send cX7_send 9 (some .int) 6 [.ref h, .int n, .int w] [mo h a hi lm rm pc bi sd, eI Γ (a 0) 42 r, eI Γ (a 1) 42 q, eI Γ (a 6) 7 rf] (S := Nat → Int32) (fun u => True) (fun u => (some (.int (chE (eWIs n (nI 1) (nI 30) w (nI 0) (nI 1)) (aSend r (ix n) w) (eWIs n (nI 1) (nI 30) w (nI 0) (nI 1)))))) (fun u => [mo h a hi lm rm pc bi sd, eI Γ (a 0) 42 r, eI Γ (a 1) 42 u, eI Γ (a 6) 7 (chE (eWIs n (nI 1) (nI 30) w (nI 0) (nI 1)) rf (nof rf (eWIs n (nI 1) (nI 30) w (nI 0) (nI 1))))]) := by
  refine e_int [(0, .ref h), (1, .int n), (2, .int w)] (by decide +kernel) (Nat.le_of_ble_eq_true rfl) rfl (fun V K hR => ?_)
  have h5 := hI.g
  have h6 := hI.m
  refine r_iload_n K dX7_send_0 1 rfl ?_
  refine r_iconst K dX7_send_1 (nI 1) (by decide) ?_
  refine r_bipush K dX7_send_2 (nI 30) (by decide) ?_
  refine r_cSd K dX7_send_4 (c_X7_wrongBy l Γ n (nI 1) (nI 30)) mX7_wrongBy q924 rfl (by decide) 4 rfl [] [0, 1, 2, 3] rfl rfl [mo h a hi lm rm pc bi sd, eI Γ (a 0) 42 r, eI Γ (a 1) 42 q, eI Γ (a 6) 7 rf] rfl [mo h a hi lm rm pc bi sd, eI Γ (a 0) 42 r, eI Γ (a 1) 42 q, eI Γ (a 6) 7 rf] rfl rfl rfl [] rfl (Nat.le_of_ble_eq_true rfl) ?_
  refine r_istore_n K dX7_send_7 rfl (by decide) (lv1 := [(3, .int (wrS n (nI 1) (nI 30))), (0, .ref h), (1, .int n), (2, .int w)]) rfl ?_
  refine r_iload_n K dX7_send_8 0 rfl ?_
  refine r_if_ne K dX7_send_9 (fun c9 => ?_) (fun c9 => ?_)
  · refine r_iload_n K dX7_send_24 0 rfl ?_
    refine r_if_eq K dX7_send_25 (fun c25 => ?_) (fun c25 => ?_)
    · exact absurd c25 c9
    · refine r_aload_n K dX7_send_28 1 rfl ?_
      refine r_iload_n K dX7_send_29 0 rfl ?_
      refine r_cVd K dX7_send_30 (c_X7_no l Γ h a hi lm rm pc bi sd rf (wrS n (nI 1) (nI 30)) (okR_wr c9)) mX7_no q813 rfl (by decide) rfl rfl 4 rfl [0, 3] [1, 2] rfl rfl [eI Γ (a 0) 42 r, eI Γ (a 1) 42 q] rfl [mo h a hi lm rm pc bi sd, eI Γ (a 0) 42 r, eI Γ (a 1) 42 q, eI Γ (a 6) 7 (nof rf (wrS n (nI 1) (nI 30)))] rfl rfl rfl [] rfl (Nat.le_of_ble_eq_true rfl) ?_
      have he : eWIs n (nI 1) (nI 30) w (nI 0) (nI 1) = wrS n (nI 1) (nI 30) := by
        unfold eWIs
        rw [if_pos c9]
      refine r_arr K (f2 := chE (eWIs n (nI 1) (nI 30) w (nI 0) (nI 1)) rf (nof rf (eWIs n (nI 1) (nI 30) w (nI 0) (nI 1)))) (ws1 := [mo h a hi lm rm pc bi sd, eI Γ (a 0) 42 r, eI Γ (a 1) 42 q, eI Γ (a 6) 7 (chE (eWIs n (nI 1) (nI 30) w (nI 0) (nI 1)) rf (nof rf (eWIs n (nI 1) (nI 30) w (nI 0) (nI 1))))]) 3 rfl (fun _ _ => by rw [ch_n (g := nof rf) he c9]) rfl ?_
      exact hR q dX7_send_33 (trivial) (e_ri (ex_n he c9)) (weq.rf)
  · have hn := wrS_ok (by decide) (by decide) c9
    have ln := hn.2
    refine r_lc (lv1 := [(3, .int (wrS n (nI 1) (nI 30))), (0, .ref h), (1, .int (nI (ix n))), (2, .int w)]) (congrArg (fun zz : Int32 => ([(3, .int (wrS n (nI 1) (nI 30))), (0, .ref h), (1, .int zz), (2, .int w)] : List (Nat × Value))) (hn.1)) ?_
    refine r_iload_n K dX7_send_12 3 rfl ?_
    refine r_iconst K dX7_send_13 (nI 0) (by decide) ?_
    refine r_iconst K dX7_send_14 (nI 1) (by decide) ?_
    refine r_cSd K dX7_send_15 (c_X7_isIn l Γ w (nI 0) (nI 1)) mX7_isIn q833 rfl (by decide) 4 rfl [] [0, 1, 2, 3] rfl rfl [mo h a hi lm rm pc bi sd, eI Γ (a 0) 42 r, eI Γ (a 1) 42 q, eI Γ (a 6) 7 rf] rfl [mo h a hi lm rm pc bi sd, eI Γ (a 0) 42 r, eI Γ (a 1) 42 q, eI Γ (a 6) 7 rf] rfl rfl rfl [] rfl (Nat.le_of_ble_eq_true rfl) ?_
    refine r_ifneB K dX7_send_18 (fun c18 => ?_) (fun c18 => ?_)
    · have hw := isInB_ok (lo := 0) (hi := 1) (by decide) (by decide) c18
      have lw := hw.2
      refine r_lc (lv1 := [(3, .int (wrS n (nI 1) (nI 30))), (0, .ref h), (1, .int (nI (ix n))), (2, .int (nI (ix w)))]) (congrArg (fun zz : Int32 => ([(3, .int (wrS n (nI 1) (nI 30))), (0, .ref h), (1, .int (nI (ix n))), (2, .int zz)] : List (Nat × Value))) (hw.1)) ?_
      refine r_iload_n K dX7_send_24 0 rfl ?_
      refine r_if_eq K dX7_send_25 (fun c25 => ?_) (fun c25 => ?_)
      · refine r_aload_n K dX7_send_34 1 rfl ?_
        refine r_iload_n K dX7_send_35 2 rfl ?_
        refine r_cVd K dX7_send_36 (c_X7_inchesNow l Γ h a hi lm rm pc bi sd r q (ix n) (hI) (by first | assumption | omega)) mX7_inchesNow q1008 rfl (by decide) rfl rfl 4 rfl [0, 1, 2] [3] rfl rfl [eI Γ (a 6) 7 rf] rfl [mo h a hi lm rm pc bi sd, eI Γ (a 0) 42 r, eI Γ (a 1) 42 (daysS r (ix n)), eI Γ (a 6) 7 rf] rfl rfl rfl [] rfl (Nat.le_of_ble_eq_true rfl) ?_
        refine r_istore K dX7_send_39 (by decide) (lv1 := [(4, .int (incS (daysS r (ix n)))), (3, .int (wrS n (nI 1) (nI 30))), (0, .ref h), (1, .int (nI (ix n))), (2, .int (nI (ix w)))]) rfl ?_
        refine r_bipush K dX7_send_41 ((-9)) (by decide) ?_
        refine r_istore K dX7_send_43 (by decide) (lv1 := [(5, .int (-9)), (4, .int (incS (daysS r (ix n)))), (3, .int (wrS n (nI 1) (nI 30))), (0, .ref h), (1, .int (nI (ix n))), (2, .int (nI (ix w)))]) rfl ?_
        refine r_ldc K dX7_send_45 q1019 ?_
        refine r_istore K dX7_send_47 (by decide) (lv1 := [(6, .int (1000000000)), (5, .int (-9)), (4, .int (incS (daysS r (ix n)))), (3, .int (wrS n (nI 1) (nI 30))), (0, .ref h), (1, .int (nI (ix n))), (2, .int (nI (ix w)))]) rfl ?_
        refine r_iconst K dX7_send_49 (nI 0) (by decide) ?_
        refine r_istore K dX7_send_50 (by decide) (lv1 := [(7, .int (nI 0)), (6, .int (1000000000)), (5, .int (-9)), (4, .int (incS (daysS r (ix n)))), (3, .int (wrS n (nI 1) (nI 30))), (0, .ref h), (1, .int (nI (ix n))), (2, .int (nI (ix w)))]) rfl ?_
        have L52 : ∀ (fL52 : Nat) (k : Nat) (q : Nat → Int32), (k ≤ nM r) → nM r - k < fL52 → V 52 [(7, .int (nI k)), (6, .int (sdB r (ix n) k)), (5, .int ((sdF r (ix n) k).1)), (4, .int (incS (daysS r (ix n)))), (0, .ref h), (1, .int (nI (ix n))), (2, .int (nI (ix w)))] [] [mo h a hi lm rm pc bi sd, eI Γ (a 0) 42 r, eI Γ (a 1) 42 q, eI Γ (a 6) 7 rf] := by
          intro fL52
          induction fL52 with
          | zero => intro k q hk hf; exact absurd hf (Nat.not_lt_zero _)
          | succ fL52 ih_L52 =>
            intro k q hk hfL52
            refine r_iload K dX7_send_52 0 rfl ?_
            refine r_aload_n K dX7_send_54 4 rfl ?_
            refine r_get K dX7_send_55 (kf := 0) 0 rfl rfl hinX7 (by decide) q757 rfl rfl ?_
            refine r_iconst K dX7_send_58 (nI 1) (by decide) ?_
            refine r_aldN K dX7_send_59 1 rfl (by first | omega | exact iG_lt (by omega) (by decide) | exact iM_lt (by omega) (by decide)) (by decide) ?_
            refine r_top (y := nI (nM r)) (hI.r1) ?_
            refine r_ic_geN K dX7_send_60 (by omega) (by omega) (fun c60 => ?_) (fun c60 => ?_)
            · obtain rfl : k = nM r := by omega
              refine r_iload K dX7_send_148 2 rfl ?_
              refine r_if_lt K dX7_send_150 (fun c150 => ?_) (fun c150 => ?_)
              · refine r_iload K dX7_send_157 2 rfl ?_
                refine r_goto K dX7_send_159 ?_
                have he : eWIs n (nI 1) (nI 30) w (nI 0) (nI 1) = 0 := by
                  unfold eWIs
                  rw [if_neg (not_not_intro c9), if_neg (not_not_intro c18)]
                refine r_arr K (f2 := chE (eWIs n (nI 1) (nI 30) w (nI 0) (nI 1)) rf (nof rf (eWIs n (nI 1) (nI 30) w (nI 0) (nI 1)))) (ws1 := [mo h a hi lm rm pc bi sd, eI Γ (a 0) 42 r, eI Γ (a 1) 42 q, eI Γ (a 6) 7 (chE (eWIs n (nI 1) (nI 30) w (nI 0) (nI 1)) rf (nof rf (eWIs n (nI 1) (nI 30) w (nI 0) (nI 1))))]) 3 rfl (fun _ _ => by rw [chE_0 he]) rfl ?_
                exact hR q dX7_send_164 (trivial) (e_ri (ex_0 he (by unfold aSend; rw [if_pos (Or.inl (sd_neg h6 c150))]))) (weq.rf)
              · refine r_iload_n K dX7_send_153 6 rfl ?_
                refine r_if_neN K dX7_send_154 (by omega) (fun c154 => ?_) (fun c154 => ?_)
                · refine r_iload K dX7_send_162 1 rfl ?_
                  have he : eWIs n (nI 1) (nI 30) w (nI 0) (nI 1) = 0 := by
                    unfold eWIs
                    rw [if_neg (not_not_intro c9), if_neg (not_not_intro c18)]
                  refine r_arr K (f2 := chE (eWIs n (nI 1) (nI 30) w (nI 0) (nI 1)) rf (nof rf (eWIs n (nI 1) (nI 30) w (nI 0) (nI 1)))) (ws1 := [mo h a hi lm rm pc bi sd, eI Γ (a 0) 42 r, eI Γ (a 1) 42 q, eI Γ (a 6) 7 (chE (eWIs n (nI 1) (nI 30) w (nI 0) (nI 1)) rf (nof rf (eWIs n (nI 1) (nI 30) w (nI 0) (nI 1))))]) 3 rfl (fun _ _ => by rw [chE_0 he]) rfl ?_
                  exact hR q dX7_send_164 (trivial) (e_ri (ex_0 he (by unfold aSend sdB; rw [if_neg (fun z => z.elim (n9_of c150) (fun z => c154 (by rw [z]; exact ix_nI (by decide)))), if_neg (n9_of c150)]))) (weq.rf)
                · refine r_iload K dX7_send_157 2 rfl ?_
                  refine r_goto K dX7_send_159 ?_
                  have he : eWIs n (nI 1) (nI 30) w (nI 0) (nI 1) = 0 := by
                    unfold eWIs
                    rw [if_neg (not_not_intro c9), if_neg (not_not_intro c18)]
                  refine r_arr K (f2 := chE (eWIs n (nI 1) (nI 30) w (nI 0) (nI 1)) rf (nof rf (eWIs n (nI 1) (nI 30) w (nI 0) (nI 1)))) (ws1 := [mo h a hi lm rm pc bi sd, eI Γ (a 0) 42 r, eI Γ (a 1) 42 q, eI Γ (a 6) 7 (chE (eWIs n (nI 1) (nI 30) w (nI 0) (nI 1)) rf (nof rf (eWIs n (nI 1) (nI 30) w (nI 0) (nI 1))))]) 3 rfl (fun _ _ => by rw [chE_0 he]) rfl ?_
                  exact hR q dX7_send_164 (trivial) (e_ri (ex_0 he (by unfold aSend; rw [if_pos (Or.inr (show w = nI 0 from by rw [hw.1, c154]))]))) (weq.rf)
            · refine r_aload_n K dX7_send_63 4 rfl ?_
              refine r_get K dX7_send_64 (kf := 0) 0 rfl rfl hinX7 (by decide) q757 rfl rfl ?_
              refine r_iload K dX7_send_67 0 rfl ?_
              refine r_iconst K dX7_send_69 (nI 3) (by decide) ?_
              refine r_cSd K dX7_send_70 (c_X7_ofM l Γ k 3) mX7_ofM q853 rfl (by decide) 4 rfl [] [0, 1, 2, 3] rfl rfl [mo h a hi lm rm pc bi sd, eI Γ (a 0) 42 r, eI Γ (a 1) 42 q, eI Γ (a 6) 7 rf] rfl [mo h a hi lm rm pc bi sd, eI Γ (a 0) 42 r, eI Γ (a 1) 42 q, eI Γ (a 6) 7 rf] rfl rfl rfl [.ref (a 0)] rfl (Nat.le_of_ble_eq_true rfl) ?_
              refine r_aldN K dX7_send_73 1 rfl (by first | omega | exact iG_lt (by omega) (by decide) | exact iM_lt (by omega) (by decide)) (by decide) ?_
              refine r_if_ge K dX7_send_74 (fun c74 => ?_) (fun c74 => ?_)
              · refine r_aload_n K dX7_send_80 4 rfl ?_
                refine r_get K dX7_send_81 (kf := 0) 0 rfl rfl hinX7 (by decide) q757 rfl rfl ?_
                refine r_aload_n K dX7_send_84 4 rfl ?_
                refine r_get K dX7_send_85 (kf := 1) 0 rfl rfl hinX7 (by decide) q758 rfl rfl ?_
                refine r_cSn K dX7_send_88 (c_X7_copies l Γ (a 0) (a 1) r q) mX7_copies q843 rfl (by decide) 4 rfl [1, 2] [0, 3] rfl rfl [mo h a hi lm rm pc bi sd, eI Γ (a 6) 7 rf] rfl [mo h a hi lm rm pc bi sd, eI Γ (a 0) 42 r, eI Γ (a 1) 42 r, eI Γ (a 6) 7 rf] rfl rfl rfl [] rfl (Nat.le_of_ble_eq_true rfl) ?_
                refine r_aload_n K dX7_send_91 4 rfl ?_
                refine r_get K dX7_send_92 (kf := 1) 0 rfl rfl hinX7 (by decide) q758 rfl rfl ?_
                refine r_iload K dX7_send_95 0 rfl ?_
                refine r_iconst K dX7_send_97 (nI 3) (by decide) ?_
                refine r_cSd K dX7_send_98 (c_X7_ofM l Γ k 3) mX7_ofM q853 rfl (by decide) 4 rfl [] [0, 1, 2, 3] rfl rfl [mo h a hi lm rm pc bi sd, eI Γ (a 0) 42 r, eI Γ (a 1) 42 r, eI Γ (a 6) 7 rf] rfl [mo h a hi lm rm pc bi sd, eI Γ (a 0) 42 r, eI Γ (a 1) 42 r, eI Γ (a 6) 7 rf] rfl rfl rfl [.ref (a 1)] rfl (Nat.le_of_ble_eq_true rfl) ?_
                refine r_bipush K dX7_send_101 ((-9)) (by decide) ?_
                refine r_astN K dX7_send_103 (ws1 := [mo h a hi lm rm pc bi sd, eI Γ (a 0) 42 r, eI Γ (a 1) 42 (upd r (iM k 3) (-9)), eI Γ (a 6) 7 rf]) 2 rfl (by first | omega | exact iG_lt (by omega) (by decide) | exact iM_lt (by omega) (by decide)) (by decide) rfl ?_
                refine r_aload_n K dX7_send_104 4 rfl ?_
                refine r_get K dX7_send_105 (kf := 1) 0 rfl rfl hinX7 (by decide) q758 rfl rfl ?_
                refine r_iload_n K dX7_send_108 5 rfl ?_
                refine r_cSn K dX7_send_109 (c_X7_daysOn l Γ (a 1) (upd r (iM k 3) (-9)) (ix n) (Inv_at hI (Or.inl rfl)) (by first | assumption | omega)) mX7_daysOn q873 rfl (by decide) 4 rfl [2] [0, 1, 3] rfl rfl [mo h a hi lm rm pc bi sd, eI Γ (a 0) 42 r, eI Γ (a 6) 7 rf] rfl [mo h a hi lm rm pc bi sd, eI Γ (a 0) 42 r, eI Γ (a 1) 42 (daysS (upd r (iM k 3) (-9)) (ix n)), eI Γ (a 6) 7 rf] rfl rfl rfl [] rfl (Nat.le_of_ble_eq_true rfl) ?_
                refine r_iload K dX7_send_112 3 rfl ?_
                refine r_aload_n K dX7_send_114 4 rfl ?_
                refine r_get K dX7_send_115 (kf := 1) 0 rfl rfl hinX7 (by decide) q758 rfl rfl ?_
                refine r_cSd K dX7_send_118 (c_X7_inchesIn l Γ (a 1) (daysS (upd r (iM k 3) (-9)) (ix n)) (Inv_daysS (Inv_at hI (Or.inl rfl)) _)) mX7_inchesIn q1012 rfl (by decide) 4 rfl [2] [0, 1, 3] rfl rfl [mo h a hi lm rm pc bi sd, eI Γ (a 0) 42 r, eI Γ (a 6) 7 rf] rfl [mo h a hi lm rm pc bi sd, eI Γ (a 0) 42 r, eI Γ (a 1) 42 (daysS (upd r (iM k 3) (-9)) (ix n)), eI Γ (a 6) 7 rf] rfl rfl rfl [.int (incS (daysS r (ix n)))] rfl (Nat.le_of_ble_eq_true rfl) ?_
                refine r_isub K dX7_send_121 ?_
                refine r_top (y := lostS r k (ix n)) (rfl) ?_
                refine r_istore K dX7_send_122 (by decide) (lv1 := [(8, .int (lostS r k (ix n))), (7, .int (nI k)), (6, .int (sdB r (ix n) k)), (5, .int ((sdF r (ix n) k).1)), (4, .int (incS (daysS r (ix n)))), (0, .ref h), (1, .int (nI (ix n))), (2, .int (nI (ix w)))]) rfl ?_
                refine r_iload K dX7_send_124 0 rfl ?_
                refine r_iload K dX7_send_126 2 rfl ?_
                refine r_ic_lt K dX7_send_128 (fun c128 => ?_) (fun c128 => ?_)
                · refine r_iload K dX7_send_134 1 rfl ?_
                  refine r_istore K dX7_send_136 (by decide) (lv1 := [(5, .int (nI k)), (8, .int (lostS r k (ix n))), (7, .int (nI k)), (6, .int (sdB r (ix n) k)), (4, .int (incS (daysS r (ix n)))), (0, .ref h), (1, .int (nI (ix n))), (2, .int (nI (ix w)))]) rfl ?_
                  refine r_iload K dX7_send_138 1 rfl ?_
                  refine r_istore K dX7_send_140 (by decide) (lv1 := [(6, .int (lostS r k (ix n))), (5, .int (nI k)), (8, .int (lostS r k (ix n))), (7, .int (nI k)), (4, .int (incS (daysS r (ix n)))), (0, .ref h), (1, .int (nI (ix n))), (2, .int (nI (ix w)))]) rfl ?_
                  refine r_iincN K dX7_send_142 (n := 1) 3 rfl rfl (by decide) (lv1 := [(7, .int (nI (k + 1))), (6, .int (lostS r k (ix n))), (5, .int (nI k)), (8, .int (lostS r k (ix n))), (4, .int (incS (daysS r (ix n)))), (0, .ref h), (1, .int (nI (ix n))), (2, .int (nI (ix w)))]) rfl ?_
                  refine r_goto K dX7_send_145 ?_
                  have hs := sd_t (n := ix n) hI (ge0_n9 c74) c128
                  refine r_lc (lv1 := [(7, .int (nI (k + 1))), (6, .int (sdB r (ix n) (k + 1))), (5, .int (nI k)), (8, .int (lostS r k (ix n))), (4, .int (incS (daysS r (ix n)))), (0, .ref h), (1, .int (nI (ix n))), (2, .int (nI (ix w)))]) (congrArg (fun zz : Int32 => ([(7, .int (nI (k + 1))), (6, .int zz), (5, .int (nI k)), (8, .int (lostS r k (ix n))), (4, .int (incS (daysS r (ix n)))), (0, .ref h), (1, .int (nI (ix n))), (2, .int (nI (ix w)))] : List (Nat × Value))) ((sdB_t (by omega) hs).symm)) ?_
                  refine r_lc (lv1 := [(7, .int (nI (k + 1))), (6, .int (sdB r (ix n) (k + 1))), (5, .int ((sdF r (ix n) (k + 1)).1)), (8, .int (lostS r k (ix n))), (4, .int (incS (daysS r (ix n)))), (0, .ref h), (1, .int (nI (ix n))), (2, .int (nI (ix w)))]) (by rw [hs]) ?_
                  refine r_lv K [0, 1, 2, 4, 5, 6, 7] rfl ?_
                  exact ih_L52 (k + 1) (daysS (upd r (iM k 3) (-9)) (ix n)) (by omega) (by omega)
                · refine r_goto K dX7_send_131 ?_
                  refine r_iincN K dX7_send_142 (n := 1) 1 rfl rfl (by decide) (lv1 := [(7, .int (nI (k + 1))), (8, .int (lostS r k (ix n))), (6, .int (sdB r (ix n) k)), (5, .int ((sdF r (ix n) k).1)), (4, .int (incS (daysS r (ix n)))), (0, .ref h), (1, .int (nI (ix n))), (2, .int (nI (ix w)))]) rfl ?_
                  refine r_goto K dX7_send_145 ?_
                  have hs := sd_n (n := ix n) hI c128
                  refine r_lc (lv1 := [(7, .int (nI (k + 1))), (8, .int (lostS r k (ix n))), (6, .int (sdB r (ix n) (k + 1))), (5, .int ((sdF r (ix n) k).1)), (4, .int (incS (daysS r (ix n)))), (0, .ref h), (1, .int (nI (ix n))), (2, .int (nI (ix w)))]) (congrArg (fun zz : Int32 => ([(7, .int (nI (k + 1))), (8, .int (lostS r k (ix n))), (6, .int zz), (5, .int ((sdF r (ix n) k).1)), (4, .int (incS (daysS r (ix n)))), (0, .ref h), (1, .int (nI (ix n))), (2, .int (nI (ix w)))] : List (Nat × Value))) ((sdB_n hs).symm)) ?_
                  refine r_lc (lv1 := [(7, .int (nI (k + 1))), (8, .int (lostS r k (ix n))), (6, .int (sdB r (ix n) (k + 1))), (5, .int ((sdF r (ix n) (k + 1)).1)), (4, .int (incS (daysS r (ix n)))), (0, .ref h), (1, .int (nI (ix n))), (2, .int (nI (ix w)))]) (by rw [hs]) ?_
                  refine r_lv K [0, 2, 3, 4, 5, 6, 7] rfl ?_
                  exact ih_L52 (k + 1) (daysS (upd r (iM k 3) (-9)) (ix n)) (by omega) (by omega)
              · refine r_goto K dX7_send_77 ?_
                refine r_iincN K dX7_send_142 (n := 1) 0 rfl rfl (by decide) (lv1 := [(7, .int (nI (k + 1))), (6, .int (sdB r (ix n) k)), (5, .int ((sdF r (ix n) k).1)), (4, .int (incS (daysS r (ix n)))), (0, .ref h), (1, .int (nI (ix n))), (2, .int (nI (ix w)))]) rfl ?_
                refine r_goto K dX7_send_145 ?_
                have hs := sd_9 (n := ix n) (at9 hI (p := k) (by omega) (lt0_of c74))
                refine r_lc (lv1 := [(7, .int (nI (k + 1))), (6, .int (sdB r (ix n) (k + 1))), (5, .int ((sdF r (ix n) k).1)), (4, .int (incS (daysS r (ix n)))), (0, .ref h), (1, .int (nI (ix n))), (2, .int (nI (ix w)))]) (congrArg (fun zz : Int32 => ([(7, .int (nI (k + 1))), (6, .int zz), (5, .int ((sdF r (ix n) k).1)), (4, .int (incS (daysS r (ix n)))), (0, .ref h), (1, .int (nI (ix n))), (2, .int (nI (ix w)))] : List (Nat × Value))) ((sdB_n hs).symm)) ?_
                refine r_lc (lv1 := [(7, .int (nI (k + 1))), (6, .int (sdB r (ix n) (k + 1))), (5, .int ((sdF r (ix n) (k + 1)).1)), (4, .int (incS (daysS r (ix n)))), (0, .ref h), (1, .int (nI (ix n))), (2, .int (nI (ix w)))]) (by rw [hs]) ?_
                exact ih_L52 (k + 1) q (by omega) (by omega)
        refine r_lc (lv1 := [(7, .int (nI 0)), (6, .int (sdB r (ix n) 0)), (5, .int (-9)), (4, .int (incS (daysS r (ix n)))), (3, .int (wrS n (nI 1) (nI 30))), (0, .ref h), (1, .int (nI (ix n))), (2, .int (nI (ix w)))]) (rfl) ?_
        refine r_lc (lv1 := [(7, .int (nI 0)), (6, .int (sdB r (ix n) 0)), (5, .int ((sdF r (ix n) 0).1)), (4, .int (incS (daysS r (ix n)))), (3, .int (wrS n (nI 1) (nI 30))), (0, .ref h), (1, .int (nI (ix n))), (2, .int (nI (ix w)))]) (rfl) ?_
        refine r_lv K [0, 1, 2, 3, 5, 6, 7] rfl ?_
        exact L52 _ 0 (daysS r (ix n)) (Nat.zero_le _) (Nat.lt_succ_self _)
      · exact absurd c9 c25
    · refine r_bipush K dX7_send_21 ((-2)) (by decide) ?_
      refine r_istore_n K dX7_send_23 rfl (by decide) (lv1 := [(3, .int (-2)), (0, .ref h), (1, .int (nI (ix n))), (2, .int w)]) rfl ?_
      refine r_iload_n K dX7_send_24 0 rfl ?_
      refine r_if_eq K dX7_send_25 (fun c25 => ?_) (fun c25 => ?_)
      · exact absurd c25 (by decide)
      · refine r_aload_n K dX7_send_28 1 rfl ?_
        refine r_iload_n K dX7_send_29 0 rfl ?_
        refine r_cVd K dX7_send_30 (c_X7_no l Γ h a hi lm rm pc bi sd rf (-2) (okR_2)) mX7_no q813 rfl (by decide) rfl rfl 4 rfl [0, 3] [1, 2] rfl rfl [eI Γ (a 0) 42 r, eI Γ (a 1) 42 q] rfl [mo h a hi lm rm pc bi sd, eI Γ (a 0) 42 r, eI Γ (a 1) 42 q, eI Γ (a 6) 7 (nof rf (-2))] rfl rfl rfl [] rfl (Nat.le_of_ble_eq_true rfl) ?_
        have he : eWIs n (nI 1) (nI 30) w (nI 0) (nI 1) = (-2) := by
          unfold eWIs
          rw [if_neg (not_not_intro c9), if_pos (nt c18)]
        refine r_arr K (f2 := chE (eWIs n (nI 1) (nI 30) w (nI 0) (nI 1)) rf (nof rf (eWIs n (nI 1) (nI 30) w (nI 0) (nI 1)))) (ws1 := [mo h a hi lm rm pc bi sd, eI Γ (a 0) 42 r, eI Γ (a 1) 42 q, eI Γ (a 6) 7 (chE (eWIs n (nI 1) (nI 30) w (nI 0) (nI 1)) rf (nof rf (eWIs n (nI 1) (nI 30) w (nI 0) (nI 1))))]) 3 rfl (fun _ _ => by rw [ch_n (g := nof rf) he (by decide)]) rfl ?_
        exact hR q dX7_send_33 (trivial) (e_ri (ex_n he (by decide))) (weq.rf)
set_option maxHeartbeats 1000000 in
set_option maxRecDepth 20000 in
theorem c_X7_bring (l : Launch) (Γ : eG) (h : Nat) (a : Nat → Nat) (hi : Bool) (lm : Nat) (rm : Nat) (pc : Nat) (bi : Int32) (sd : Int32) (r : Nat → Int32) (q : Nat → Int32) (rf : Nat → Int32) (x : Int32) (n : Int32) (hI : Inv r) : cE l Γ yX7_bring cX7_bring 7 (some .int) 6 [.ref h, .int x, .int n] [mo h a hi lm rm pc bi sd, eI Γ (a 0) 42 r, eI Γ (a 1) 42 q, eI Γ (a 6) 7 rf] (S := Nat → Int32) (fun u => True) (fun u => (some (.int (chE (eMoW r x n (nI 0) (nI 30)) ((amF (bringV r (ix x) (ix n)) (payS (daysS r (ix n))) (nG r)).2) (eMoW r x n (nI 0) (nI 30)))))) (fun u => [mo h a hi lm rm pc bi sd, eI Γ (a 0) 42 r, eI Γ (a 1) 42 u, eI Γ (a 6) 7 (chE (eMoW r x n (nI 0) (nI 30)) rf (nof rf (eMoW r x n (nI 0) (nI 30))))]) := by
  refine e_int [(0, .ref h), (1, .int x), (2, .int n)] (by decide +kernel) (Nat.le_of_ble_eq_true rfl) rfl (fun V K hR => ?_)
  have h5 := hI.g
  have h6 := hI.m
  refine r_aload_n K dX7_bring_0 0 rfl ?_
  refine r_iload_n K dX7_bring_1 1 rfl ?_
  refine r_cVd K dX7_bring_2 (c_X7_isMourner l Γ h a hi lm rm pc bi sd r x (hI)) mX7_isMourner q856 rfl (by decide) rfl rfl 4 rfl [0, 1] [2, 3] rfl rfl [eI Γ (a 1) 42 q, eI Γ (a 6) 7 rf] rfl [mo h a hi lm rm pc bi sd, eI Γ (a 0) 42 r, eI Γ (a 1) 42 q, eI Γ (a 6) 7 rf] rfl rfl rfl [] rfl (Nat.le_of_ble_eq_true rfl) ?_
  refine r_ifeqB K dX7_bring_5 (fun c5 => ?_) (fun c5 => ?_)
  · refine r_iconst K dX7_bring_18 ((-1)) (by decide) ?_
    refine r_istore_n K dX7_bring_19 rfl (by decide) (lv1 := [(3, .int (-1)), (0, .ref h), (1, .int x), (2, .int n)]) rfl ?_
    refine r_iload_n K dX7_bring_20 0 rfl ?_
    refine r_if_eq K dX7_bring_21 (fun c21 => ?_) (fun c21 => ?_)
    · exact absurd c21 (by decide)
    · refine r_aload_n K dX7_bring_24 1 rfl ?_
      refine r_iload_n K dX7_bring_25 0 rfl ?_
      refine r_cVd K dX7_bring_26 (c_X7_no l Γ h a hi lm rm pc bi sd rf (-1) (okR_1)) mX7_no q813 rfl (by decide) rfl rfl 4 rfl [0, 3] [1, 2] rfl rfl [eI Γ (a 0) 42 r, eI Γ (a 1) 42 q] rfl [mo h a hi lm rm pc bi sd, eI Γ (a 0) 42 r, eI Γ (a 1) 42 q, eI Γ (a 6) 7 (nof rf (-1))] rfl rfl rfl [] rfl (Nat.le_of_ble_eq_true rfl) ?_
      have he : eMoW r x n (nI 0) (nI 30) = (-1) := by
        unfold eMoW
        rw [if_pos (nt c5)]
      refine r_arr K (f2 := chE (eMoW r x n (nI 0) (nI 30)) rf (nof rf (eMoW r x n (nI 0) (nI 30)))) (ws1 := [mo h a hi lm rm pc bi sd, eI Γ (a 0) 42 r, eI Γ (a 1) 42 q, eI Γ (a 6) 7 (chE (eMoW r x n (nI 0) (nI 30)) rf (nof rf (eMoW r x n (nI 0) (nI 30))))]) 3 rfl (fun _ _ => by rw [ch_n (g := nof rf) he (by decide)]) rfl ?_
      exact hR q dX7_bring_29 (trivial) (e_ri (ex_n he (by decide))) (weq.rf)
  · have hx := inN_e c5 (by omega)
    have lx := ix_lt c5 (by omega)
    refine r_lc (lv1 := [(0, .ref h), (1, .int (nI (ix x))), (2, .int n)]) (congrArg (fun zz : Int32 => ([(0, .ref h), (1, .int zz), (2, .int n)] : List (Nat × Value))) (hx)) ?_
    refine r_iload_n K dX7_bring_8 2 rfl ?_
    refine r_iconst K dX7_bring_9 (nI 0) (by decide) ?_
    refine r_bipush K dX7_bring_10 (nI 30) (by decide) ?_
    refine r_cSd K dX7_bring_12 (c_X7_wrongBy l Γ n (nI 0) (nI 30)) mX7_wrongBy q924 rfl (by decide) 4 rfl [] [0, 1, 2, 3] rfl rfl [mo h a hi lm rm pc bi sd, eI Γ (a 0) 42 r, eI Γ (a 1) 42 q, eI Γ (a 6) 7 rf] rfl [mo h a hi lm rm pc bi sd, eI Γ (a 0) 42 r, eI Γ (a 1) 42 q, eI Γ (a 6) 7 rf] rfl rfl rfl [] rfl (Nat.le_of_ble_eq_true rfl) ?_
    refine r_goto K dX7_bring_15 ?_
    refine r_istore_n K dX7_bring_19 rfl (by decide) (lv1 := [(3, .int (wrS n (nI 0) (nI 30))), (0, .ref h), (1, .int (nI (ix x))), (2, .int n)]) rfl ?_
    refine r_iload_n K dX7_bring_20 0 rfl ?_
    refine r_if_eq K dX7_bring_21 (fun c21 => ?_) (fun c21 => ?_)
    · have hn := wrS_ok (by decide) (by decide) c21
      have ln := hn.2
      refine r_lc (lv1 := [(3, .int (wrS n (nI 0) (nI 30))), (0, .ref h), (1, .int (nI (ix x))), (2, .int (nI (ix n)))]) (congrArg (fun zz : Int32 => ([(3, .int (wrS n (nI 0) (nI 30))), (0, .ref h), (1, .int (nI (ix x))), (2, .int zz)] : List (Nat × Value))) (hn.1)) ?_
      refine r_aload_n K dX7_bring_30 1 rfl ?_
      refine r_iload_n K dX7_bring_31 3 rfl ?_
      refine r_cVd K dX7_bring_32 (c_X7_payNow l Γ h a hi lm rm pc bi sd r q (ix n) (hI) (by first | assumption | omega)) mX7_payNow q1024 rfl (by decide) rfl rfl 4 rfl [0, 1, 2] [3] rfl rfl [eI Γ (a 6) 7 rf] rfl [mo h a hi lm rm pc bi sd, eI Γ (a 0) 42 r, eI Γ (a 1) 42 (daysS r (ix n)), eI Γ (a 6) 7 rf] rfl rfl rfl [] rfl (Nat.le_of_ble_eq_true rfl) ?_
      refine r_istore K dX7_bring_35 (by decide) (lv1 := [(4, .int (payS (daysS r (ix n)))), (3, .int (wrS n (nI 0) (nI 30))), (0, .ref h), (1, .int (nI (ix x))), (2, .int (nI (ix n)))]) rfl ?_
      refine r_bipush K dX7_bring_37 ((-9)) (by decide) ?_
      refine r_istore K dX7_bring_39 (by decide) (lv1 := [(5, .int (-9)), (4, .int (payS (daysS r (ix n)))), (3, .int (wrS n (nI 0) (nI 30))), (0, .ref h), (1, .int (nI (ix x))), (2, .int (nI (ix n)))]) rfl ?_
      refine r_iconst K dX7_bring_41 (nI 0) (by decide) ?_
      refine r_istore K dX7_bring_42 (by decide) (lv1 := [(6, .int (nI 0)), (5, .int (-9)), (4, .int (payS (daysS r (ix n)))), (3, .int (wrS n (nI 0) (nI 30))), (0, .ref h), (1, .int (nI (ix x))), (2, .int (nI (ix n)))]) rfl ?_
      have L44 : ∀ (fL44 : Nat) (k : Nat) (q : Nat → Int32), (k ≤ nG r) → nG r - k < fL44 → V 44 [(6, .int (nI k)), (5, .int ((amF (bringV r (ix x) (ix n)) (payS (daysS r (ix n))) k).2)), (4, .int ((amF (bringV r (ix x) (ix n)) (payS (daysS r (ix n))) k).1)), (0, .ref h), (1, .int (nI (ix x))), (2, .int (nI (ix n)))] [] [mo h a hi lm rm pc bi sd, eI Γ (a 0) 42 r, eI Γ (a 1) 42 q, eI Γ (a 6) 7 rf] := by
        intro fL44
        induction fL44 with
        | zero => intro k q hk hf; exact absurd hf (Nat.not_lt_zero _)
        | succ fL44 ih_L44 =>
          intro k q hk hfL44
          refine r_iload K dX7_bring_44 0 rfl ?_
          refine r_aload_n K dX7_bring_46 3 rfl ?_
          refine r_get K dX7_bring_47 (kf := 0) 0 rfl rfl hinX7 (by decide) q757 rfl rfl ?_
          refine r_iconst K dX7_bring_50 (nI 0) (by decide) ?_
          refine r_aldN K dX7_bring_51 1 rfl (by first | omega | exact iG_lt (by omega) (by decide) | exact iM_lt (by omega) (by decide)) (by decide) ?_
          refine r_top (y := nI (nG r)) (hI.r0) ?_
          refine r_ic_geN K dX7_bring_52 (by omega) (by omega) (fun c52 => ?_) (fun c52 => ?_)
          · obtain rfl : k = nG r := by omega
            refine r_iload K dX7_bring_120 1 rfl ?_
            have he : eMoW r x n (nI 0) (nI 30) = 0 := by
              unfold eMoW
              rw [if_neg (not_not_intro c5), if_neg (not_not_intro c21)]
            refine r_arr K (f2 := chE (eMoW r x n (nI 0) (nI 30)) rf (nof rf (eMoW r x n (nI 0) (nI 30)))) (ws1 := [mo h a hi lm rm pc bi sd, eI Γ (a 0) 42 r, eI Γ (a 1) 42 q, eI Γ (a 6) 7 (chE (eMoW r x n (nI 0) (nI 30)) rf (nof rf (eMoW r x n (nI 0) (nI 30))))]) 3 rfl (fun _ _ => by rw [chE_0 he]) rfl ?_
            exact hR q dX7_bring_122 (trivial) (e_ri (ex_0 he (rfl))) (weq.rf)
          · refine r_aload_n K dX7_bring_55 3 rfl ?_
            refine r_get K dX7_bring_56 (kf := 0) 0 rfl rfl hinX7 (by decide) q757 rfl rfl ?_
            refine r_aload_n K dX7_bring_59 3 rfl ?_
            refine r_get K dX7_bring_60 (kf := 1) 0 rfl rfl hinX7 (by decide) q758 rfl rfl ?_
            refine r_cSn K dX7_bring_63 (c_X7_copies l Γ (a 0) (a 1) r q) mX7_copies q843 rfl (by decide) 4 rfl [1, 2] [0, 3] rfl rfl [mo h a hi lm rm pc bi sd, eI Γ (a 6) 7 rf] rfl [mo h a hi lm rm pc bi sd, eI Γ (a 0) 42 r, eI Γ (a 1) 42 r, eI Γ (a 6) 7 rf] rfl rfl rfl [] rfl (Nat.le_of_ble_eq_true rfl) ?_
            refine r_aload_n K dX7_bring_66 3 rfl ?_
            refine r_get K dX7_bring_67 (kf := 1) 0 rfl rfl hinX7 (by decide) q758 rfl rfl ?_
            refine r_iload_n K dX7_bring_70 4 rfl ?_
            refine r_iconst K dX7_bring_71 (nI 3) (by decide) ?_
            refine r_cSd K dX7_bring_72 (c_X7_ofM l Γ (ix x) 3) mX7_ofM q853 rfl (by decide) 4 rfl [] [0, 1, 2, 3] rfl rfl [mo h a hi lm rm pc bi sd, eI Γ (a 0) 42 r, eI Γ (a 1) 42 r, eI Γ (a 6) 7 rf] rfl [mo h a hi lm rm pc bi sd, eI Γ (a 0) 42 r, eI Γ (a 1) 42 r, eI Γ (a 6) 7 rf] rfl rfl rfl [.ref (a 1)] rfl (Nat.le_of_ble_eq_true rfl) ?_
            refine r_iload K dX7_bring_75 0 rfl ?_
            refine r_astN K dX7_bring_77 (ws1 := [mo h a hi lm rm pc bi sd, eI Γ (a 0) 42 r, eI Γ (a 1) 42 (upd r (iM (ix x) 3) (nI k)), eI Γ (a 6) 7 rf]) 2 rfl (by first | omega | exact iG_lt (by omega) (by decide) | exact iM_lt (by omega) (by decide)) (by decide) rfl ?_
            refine r_aload_n K dX7_bring_78 3 rfl ?_
            refine r_get K dX7_bring_79 (kf := 1) 0 rfl rfl hinX7 (by decide) q758 rfl rfl ?_
            refine r_iload_n K dX7_bring_82 5 rfl ?_
            refine r_cSn K dX7_bring_83 (c_X7_daysOn l Γ (a 1) (upd r (iM (ix x) 3) (nI k)) (ix n) (Inv_at hI (Or.inr ⟨k, by omega, rfl⟩)) (by first | assumption | omega)) mX7_daysOn q873 rfl (by decide) 4 rfl [2] [0, 1, 3] rfl rfl [mo h a hi lm rm pc bi sd, eI Γ (a 0) 42 r, eI Γ (a 6) 7 rf] rfl [mo h a hi lm rm pc bi sd, eI Γ (a 0) 42 r, eI Γ (a 1) 42 (daysS (upd r (iM (ix x) 3) (nI k)) (ix n)), eI Γ (a 6) 7 rf] rfl rfl rfl [] rfl (Nat.le_of_ble_eq_true rfl) ?_
            refine r_aload_n K dX7_bring_86 3 rfl ?_
            refine r_get K dX7_bring_87 (kf := 1) 0 rfl rfl hinX7 (by decide) q758 rfl rfl ?_
            refine r_cSd K dX7_bring_90 (c_X7_payIn l Γ (a 1) (daysS (upd r (iM (ix x) 3) (nI k)) (ix n)) (Inv_daysS (Inv_at hI (Or.inr ⟨k, by omega, rfl⟩)) _)) mX7_payIn q939 rfl (by decide) 4 rfl [2] [0, 1, 3] rfl rfl [mo h a hi lm rm pc bi sd, eI Γ (a 0) 42 r, eI Γ (a 6) 7 rf] rfl [mo h a hi lm rm pc bi sd, eI Γ (a 0) 42 r, eI Γ (a 1) 42 (daysS (upd r (iM (ix x) 3) (nI k)) (ix n)), eI Γ (a 6) 7 rf] rfl rfl rfl [] rfl (Nat.le_of_ble_eq_true rfl) ?_
            refine r_iload K dX7_bring_93 2 rfl ?_
            refine r_ic_gt K dX7_bring_95 (fun c95 => ?_) (fun c95 => ?_)
            · refine r_iload K dX7_bring_101 0 rfl ?_
              refine r_istore K dX7_bring_103 (by decide) (lv1 := [(5, .int (nI k)), (6, .int (nI k)), (4, .int ((amF (bringV r (ix x) (ix n)) (payS (daysS r (ix n))) k).1)), (0, .ref h), (1, .int (nI (ix x))), (2, .int (nI (ix n)))]) rfl ?_
              refine r_aload_n K dX7_bring_105 3 rfl ?_
              refine r_get K dX7_bring_106 (kf := 1) 0 rfl rfl hinX7 (by decide) q758 rfl rfl ?_
              refine r_cSd K dX7_bring_109 (c_X7_payIn l Γ (a 1) (daysS (upd r (iM (ix x) 3) (nI k)) (ix n)) (Inv_daysS (Inv_at hI (Or.inr ⟨k, by omega, rfl⟩)) _)) mX7_payIn q939 rfl (by decide) 4 rfl [2] [0, 1, 3] rfl rfl [mo h a hi lm rm pc bi sd, eI Γ (a 0) 42 r, eI Γ (a 6) 7 rf] rfl [mo h a hi lm rm pc bi sd, eI Γ (a 0) 42 r, eI Γ (a 1) 42 (daysS (upd r (iM (ix x) 3) (nI k)) (ix n)), eI Γ (a 6) 7 rf] rfl rfl rfl [] rfl (Nat.le_of_ble_eq_true rfl) ?_
              refine r_istore K dX7_bring_112 (by decide) (lv1 := [(4, .int (payS (daysS (upd r (iM (ix x) 3) (nI k)) (ix n)))), (5, .int (nI k)), (6, .int (nI k)), (0, .ref h), (1, .int (nI (ix x))), (2, .int (nI (ix n)))]) rfl ?_
              refine r_iincN K dX7_bring_114 (n := 1) 2 rfl rfl (by decide) (lv1 := [(6, .int (nI (k + 1))), (4, .int (payS (daysS (upd r (iM (ix x) 3) (nI k)) (ix n)))), (5, .int (nI k)), (0, .ref h), (1, .int (nI (ix x))), (2, .int (nI (ix n)))]) rfl ?_
              refine r_goto K dX7_bring_117 ?_
              refine r_lc (lv1 := [(6, .int (nI (k + 1))), (4, .int (payS (daysS (upd r (iM (ix x) 3) (nI k)) (ix n)))), (5, .int ((amF (bringV r (ix x) (ix n)) (payS (daysS r (ix n))) (k + 1)).2)), (0, .ref h), (1, .int (nI (ix x))), (2, .int (nI (ix n)))]) (by rw [amF_t (show (amF (bringV r (ix x) (ix n)) (payS (daysS r (ix n))) k).1 < bringV r (ix x) (ix n) k from c95)]) ?_
              refine r_lc (lv1 := [(6, .int (nI (k + 1))), (4, .int ((amF (bringV r (ix x) (ix n)) (payS (daysS r (ix n))) (k + 1)).1)), (5, .int ((amF (bringV r (ix x) (ix n)) (payS (daysS r (ix n))) (k + 1)).2)), (0, .ref h), (1, .int (nI (ix x))), (2, .int (nI (ix n)))]) (by rw [amF_t (show (amF (bringV r (ix x) (ix n)) (payS (daysS r (ix n))) k).1 < bringV r (ix x) (ix n) k from c95)]; rfl) ?_
              refine r_lv K [0, 2, 1, 3, 4, 5] rfl ?_
              exact ih_L44 (k + 1) (daysS (upd r (iM (ix x) 3) (nI k)) (ix n)) (by omega) (by omega)
            · refine r_goto K dX7_bring_98 ?_
              refine r_iincN K dX7_bring_114 (n := 1) 0 rfl rfl (by decide) (lv1 := [(6, .int (nI (k + 1))), (5, .int ((amF (bringV r (ix x) (ix n)) (payS (daysS r (ix n))) k).2)), (4, .int ((amF (bringV r (ix x) (ix n)) (payS (daysS r (ix n))) k).1)), (0, .ref h), (1, .int (nI (ix x))), (2, .int (nI (ix n)))]) rfl ?_
              refine r_goto K dX7_bring_117 ?_
              refine r_lc (lv1 := [(6, .int (nI (k + 1))), (5, .int ((amF (bringV r (ix x) (ix n)) (payS (daysS r (ix n))) (k + 1)).2)), (4, .int ((amF (bringV r (ix x) (ix n)) (payS (daysS r (ix n))) k).1)), (0, .ref h), (1, .int (nI (ix x))), (2, .int (nI (ix n)))]) (by rw [amF_n (show ¬ (amF (bringV r (ix x) (ix n)) (payS (daysS r (ix n))) k).1 < bringV r (ix x) (ix n) k from fun z => c95 z)]) ?_
              refine r_lc (lv1 := [(6, .int (nI (k + 1))), (5, .int ((amF (bringV r (ix x) (ix n)) (payS (daysS r (ix n))) (k + 1)).2)), (4, .int ((amF (bringV r (ix x) (ix n)) (payS (daysS r (ix n))) (k + 1)).1)), (0, .ref h), (1, .int (nI (ix x))), (2, .int (nI (ix n)))]) (by rw [amF_n (show ¬ (amF (bringV r (ix x) (ix n)) (payS (daysS r (ix n))) k).1 < bringV r (ix x) (ix n) k from fun z => c95 z)]) ?_
              exact ih_L44 (k + 1) (daysS (upd r (iM (ix x) 3) (nI k)) (ix n)) (by omega) (by omega)
      refine r_lc (lv1 := [(6, .int (nI 0)), (5, .int ((amF (bringV r (ix x) (ix n)) (payS (daysS r (ix n))) 0).2)), (4, .int (payS (daysS r (ix n)))), (3, .int (wrS n (nI 0) (nI 30))), (0, .ref h), (1, .int (nI (ix x))), (2, .int (nI (ix n)))]) (rfl) ?_
      refine r_lc (lv1 := [(6, .int (nI 0)), (5, .int ((amF (bringV r (ix x) (ix n)) (payS (daysS r (ix n))) 0).2)), (4, .int ((amF (bringV r (ix x) (ix n)) (payS (daysS r (ix n))) 0).1)), (3, .int (wrS n (nI 0) (nI 30))), (0, .ref h), (1, .int (nI (ix x))), (2, .int (nI (ix n)))]) (rfl) ?_
      refine r_lv K [0, 1, 2, 4, 5, 6] rfl ?_
      exact L44 _ 0 (daysS r (ix n)) (Nat.zero_le _) (Nat.lt_succ_self _)
    · refine r_aload_n K dX7_bring_24 1 rfl ?_
      refine r_iload_n K dX7_bring_25 0 rfl ?_
      refine r_cVd K dX7_bring_26 (c_X7_no l Γ h a hi lm rm pc bi sd rf (wrS n (nI 0) (nI 30)) (okR_wr c21)) mX7_no q813 rfl (by decide) rfl rfl 4 rfl [0, 3] [1, 2] rfl rfl [eI Γ (a 0) 42 r, eI Γ (a 1) 42 q] rfl [mo h a hi lm rm pc bi sd, eI Γ (a 0) 42 r, eI Γ (a 1) 42 q, eI Γ (a 6) 7 (nof rf (wrS n (nI 0) (nI 30)))] rfl rfl rfl [] rfl (Nat.le_of_ble_eq_true rfl) ?_
      have he : eMoW r x n (nI 0) (nI 30) = wrS n (nI 0) (nI 30) := by
        unfold eMoW
        rw [if_neg (not_not_intro c5), if_pos c21]
      refine r_arr K (f2 := chE (eMoW r x n (nI 0) (nI 30)) rf (nof rf (eMoW r x n (nI 0) (nI 30)))) (ws1 := [mo h a hi lm rm pc bi sd, eI Γ (a 0) 42 r, eI Γ (a 1) 42 q, eI Γ (a 6) 7 (chE (eMoW r x n (nI 0) (nI 30)) rf (nof rf (eMoW r x n (nI 0) (nI 30))))]) 3 rfl (fun _ _ => by rw [ch_n (g := nof rf) he c21]) rfl ?_
      exact hR q dX7_bring_29 (trivial) (e_ri (ex_n he c21)) (weq.rf)
set_option maxHeartbeats 1000000 in
set_option maxRecDepth 20000 in
theorem c_X7_change (l : Launch) (Γ : eG) (h : Nat) (a : Nat → Nat) (hi : Bool) (lm : Nat) (rm : Nat) (pc : Nat) (bi : Int32) (sd : Int32) (r : Nat → Int32) (q : Nat → Int32) (rf : Nat → Int32) (n : Int32) (hI : Inv r) : cE l Γ yX7_change cX7_change 7 (some .int) 6 [.ref h, .int n] [mo h a hi lm rm pc bi sd, eI Γ (a 0) 42 r, eI Γ (a 1) 42 q, eI Γ (a 6) 7 rf] (S := Nat → Int32) (fun u => True) (fun u => (some (.int (chE (eW n (nI 0) (nI 30)) ((chO r (ix n) (nM r)).2) (eW n (nI 0) (nI 30)))))) (fun u => [mo h a hi lm rm pc bi sd, eI Γ (a 0) 42 r, eI Γ (a 1) 42 u, eI Γ (a 6) 7 (chE (eW n (nI 0) (nI 30)) rf (nof rf (eW n (nI 0) (nI 30))))]) := by
  refine e_int [(0, .ref h), (1, .int n)] (by decide +kernel) (Nat.le_of_ble_eq_true rfl) rfl (fun V K hR => ?_)
  have h5 := hI.g
  have h6 := hI.m
  refine r_iload_n K dX7_change_0 1 rfl ?_
  refine r_iconst K dX7_change_1 (nI 0) (by decide) ?_
  refine r_bipush K dX7_change_2 (nI 30) (by decide) ?_
  refine r_cSd K dX7_change_4 (c_X7_wrongBy l Γ n (nI 0) (nI 30)) mX7_wrongBy q924 rfl (by decide) 4 rfl [] [0, 1, 2, 3] rfl rfl [mo h a hi lm rm pc bi sd, eI Γ (a 0) 42 r, eI Γ (a 1) 42 q, eI Γ (a 6) 7 rf] rfl [mo h a hi lm rm pc bi sd, eI Γ (a 0) 42 r, eI Γ (a 1) 42 q, eI Γ (a 6) 7 rf] rfl rfl rfl [] rfl (Nat.le_of_ble_eq_true rfl) ?_
  refine r_istore_n K dX7_change_7 rfl (by decide) (lv1 := [(2, .int (wrS n (nI 0) (nI 30))), (0, .ref h), (1, .int n)]) rfl ?_
  refine r_iload_n K dX7_change_8 0 rfl ?_
  refine r_if_eq K dX7_change_9 (fun c9 => ?_) (fun c9 => ?_)
  · have hn := wrS_ok (by decide) (by decide) c9
    have ln := hn.2
    refine r_lc (lv1 := [(2, .int (wrS n (nI 0) (nI 30))), (0, .ref h), (1, .int (nI (ix n)))]) (congrArg (fun zz : Int32 => ([(2, .int (wrS n (nI 0) (nI 30))), (0, .ref h), (1, .int zz)] : List (Nat × Value))) (hn.1)) ?_
    refine r_aload_n K dX7_change_18 1 rfl ?_
    refine r_iload_n K dX7_change_19 2 rfl ?_
    refine r_cVd K dX7_change_20 (c_X7_payNow l Γ h a hi lm rm pc bi sd r q (ix n) (hI) (by first | assumption | omega)) mX7_payNow q1024 rfl (by decide) rfl rfl 4 rfl [0, 1, 2] [3] rfl rfl [eI Γ (a 6) 7 rf] rfl [mo h a hi lm rm pc bi sd, eI Γ (a 0) 42 r, eI Γ (a 1) 42 (daysS r (ix n)), eI Γ (a 6) 7 rf] rfl rfl rfl [] rfl (Nat.le_of_ble_eq_true rfl) ?_
    refine r_istore_n K dX7_change_23 rfl (by decide) (lv1 := [(3, .int (payS (daysS r (ix n)))), (2, .int (wrS n (nI 0) (nI 30))), (0, .ref h), (1, .int (nI (ix n)))]) rfl ?_
    refine r_bipush K dX7_change_24 ((-9)) (by decide) ?_
    refine r_istore K dX7_change_26 (by decide) (lv1 := [(4, .int (-9)), (3, .int (payS (daysS r (ix n)))), (2, .int (wrS n (nI 0) (nI 30))), (0, .ref h), (1, .int (nI (ix n)))]) rfl ?_
    refine r_iconst K dX7_change_28 (nI 0) (by decide) ?_
    refine r_istore K dX7_change_29 (by decide) (lv1 := [(5, .int (nI 0)), (4, .int (-9)), (3, .int (payS (daysS r (ix n)))), (2, .int (wrS n (nI 0) (nI 30))), (0, .ref h), (1, .int (nI (ix n)))]) rfl ?_
    have L31 : ∀ (fL31 : Nat) (p : Nat) (v : Int32) (b : Int32) (q : Nat → Int32), (p ≤ nM r) → (v = (chO r (ix n) p).1) → (b = (chO r (ix n) p).2) → nM r - p < fL31 → V 31 [(5, .int (nI p)), (4, .int b), (3, .int v), (0, .ref h), (1, .int (nI (ix n)))] [] [mo h a hi lm rm pc bi sd, eI Γ (a 0) 42 r, eI Γ (a 1) 42 q, eI Γ (a 6) 7 rf] := by
      intro fL31
      induction fL31 with
      | zero => intro p v b q hp hv hb hf; exact absurd hf (Nat.not_lt_zero _)
      | succ fL31 ih_L31 =>
        intro p v b q hp hv hb hfL31
        refine r_iload K dX7_change_31 0 rfl ?_
        refine r_aload_n K dX7_change_33 3 rfl ?_
        refine r_get K dX7_change_34 (kf := 0) 0 rfl rfl hinX7 (by decide) q757 rfl rfl ?_
        refine r_iconst K dX7_change_37 (nI 1) (by decide) ?_
        refine r_aldN K dX7_change_38 1 rfl (by first | omega | exact iG_lt (by omega) (by decide) | exact iM_lt (by omega) (by decide)) (by decide) ?_
        refine r_top (y := nI (nM r)) (hI.r1) ?_
        refine r_ic_geN K dX7_change_39 (by omega) (by omega) (fun c39 => ?_) (fun c39 => ?_)
        · obtain rfl : p = nM r := by omega
          refine r_iload K dX7_change_166 1 rfl ?_
          have he : eW n (nI 0) (nI 30) = 0 := by
            unfold eW
            rw [if_neg (not_not_intro c9)]
          refine r_arr K (f2 := chE (eW n (nI 0) (nI 30)) rf (nof rf (eW n (nI 0) (nI 30)))) (ws1 := [mo h a hi lm rm pc bi sd, eI Γ (a 0) 42 r, eI Γ (a 1) 42 q, eI Γ (a 6) 7 (chE (eW n (nI 0) (nI 30)) rf (nof rf (eW n (nI 0) (nI 30))))]) 3 rfl (fun _ _ => by rw [chE_0 he]) rfl ?_
          exact hR q dX7_change_168 (trivial) (e_ri (ex_0 he (hb.symm))) (weq.rf)
        · refine r_iload K dX7_change_42 0 rfl ?_
          refine r_iconst K dX7_change_44 (nI 1) (by decide) ?_
          refine r_iaddN K dX7_change_45 ?_
          refine r_istore K dX7_change_46 (by decide) (lv1 := [(6, .int (nI (p + 1))), (5, .int (nI p)), (4, .int b), (3, .int v), (0, .ref h), (1, .int (nI (ix n)))]) rfl ?_
          have L48 : ∀ (fL48 : Nat) (k : Nat) (v : Int32) (b : Int32) (q : Nat → Int32), (k ≤ nM r - (p + 1)) → (v = (amI (chgV r (ix n) p) (fun b => nI (10 * p + b)) (p + 1) (chO r (ix n) p) k).1) → (b = (amI (chgV r (ix n) p) (fun b => nI (10 * p + b)) (p + 1) (chO r (ix n) p) k).2) → nM r - (p + 1) - k < fL48 → V 48 [(6, .int (nI (p + 1 + k))), (5, .int (nI p)), (4, .int b), (3, .int v), (0, .ref h), (1, .int (nI (ix n)))] [] [mo h a hi lm rm pc bi sd, eI Γ (a 0) 42 r, eI Γ (a 1) 42 q, eI Γ (a 6) 7 rf] := by
            intro fL48
            induction fL48 with
            | zero => intro k v b q hk hv2 hb2 hf; exact absurd hf (Nat.not_lt_zero _)
            | succ fL48 ih_L48 =>
              intro k v b q hk hv2 hb2 hfL48
              refine r_iload K dX7_change_48 0 rfl ?_
              refine r_aload_n K dX7_change_50 4 rfl ?_
              refine r_get K dX7_change_51 (kf := 0) 0 rfl rfl hinX7 (by decide) q757 rfl rfl ?_
              refine r_iconst K dX7_change_54 (nI 1) (by decide) ?_
              refine r_aldN K dX7_change_55 1 rfl (by first | omega | exact iG_lt (by omega) (by decide) | exact iM_lt (by omega) (by decide)) (by decide) ?_
              refine r_top (y := nI (nM r)) (hI.r1) ?_
              refine r_ic_geN K dX7_change_56 (by omega) (by omega) (fun c56 => ?_) (fun c56 => ?_)
              · have ek : k = nM r - (p + 1) := by omega
                rw [ek] at hv2 hb2
                refine r_iincN K dX7_change_160 (n := 1) 1 rfl rfl (by decide) (lv1 := [(5, .int (nI (p + 1))), (6, .int (nI (p + 1 + k))), (4, .int b), (3, .int v), (0, .ref h), (1, .int (nI (ix n)))]) rfl ?_
                refine r_goto K dX7_change_163 ?_
                refine r_lv K [0, 2, 3, 4, 5] rfl ?_
                exact ih_L31 (p + 1) v b q (by omega) (hv2) (hb2) (by omega)
              · refine r_aload_n K dX7_change_59 4 rfl ?_
                refine r_get K dX7_change_60 (kf := 0) 0 rfl rfl hinX7 (by decide) q757 rfl rfl ?_
                refine r_aload_n K dX7_change_63 4 rfl ?_
                refine r_get K dX7_change_64 (kf := 1) 0 rfl rfl hinX7 (by decide) q758 rfl rfl ?_
                refine r_cSn K dX7_change_67 (c_X7_copies l Γ (a 0) (a 1) r q) mX7_copies q843 rfl (by decide) 4 rfl [1, 2] [0, 3] rfl rfl [mo h a hi lm rm pc bi sd, eI Γ (a 6) 7 rf] rfl [mo h a hi lm rm pc bi sd, eI Γ (a 0) 42 r, eI Γ (a 1) 42 r, eI Γ (a 6) 7 rf] rfl rfl rfl [] rfl (Nat.le_of_ble_eq_true rfl) ?_
                refine r_aload_n K dX7_change_70 4 rfl ?_
                refine r_get K dX7_change_71 (kf := 1) 0 rfl rfl hinX7 (by decide) q758 rfl rfl ?_
                refine r_iload K dX7_change_74 1 rfl ?_
                refine r_iconst K dX7_change_76 (nI 3) (by decide) ?_
                refine r_cSd K dX7_change_77 (c_X7_ofM l Γ p 3) mX7_ofM q853 rfl (by decide) 4 rfl [] [0, 1, 2, 3] rfl rfl [mo h a hi lm rm pc bi sd, eI Γ (a 0) 42 r, eI Γ (a 1) 42 r, eI Γ (a 6) 7 rf] rfl [mo h a hi lm rm pc bi sd, eI Γ (a 0) 42 r, eI Γ (a 1) 42 r, eI Γ (a 6) 7 rf] rfl rfl rfl [.ref (a 1)] rfl (Nat.le_of_ble_eq_true rfl) ?_
                refine r_aload_n K dX7_change_80 4 rfl ?_
                refine r_get K dX7_change_81 (kf := 0) 0 rfl rfl hinX7 (by decide) q757 rfl rfl ?_
                refine r_iload K dX7_change_84 0 rfl ?_
                refine r_iconst K dX7_change_86 (nI 3) (by decide) ?_
                refine r_cSd K dX7_change_87 (c_X7_ofM l Γ (p + 1 + k) 3) mX7_ofM q853 rfl (by decide) 4 rfl [] [0, 1, 2, 3] rfl rfl [mo h a hi lm rm pc bi sd, eI Γ (a 0) 42 r, eI Γ (a 1) 42 r, eI Γ (a 6) 7 rf] rfl [mo h a hi lm rm pc bi sd, eI Γ (a 0) 42 r, eI Γ (a 1) 42 r, eI Γ (a 6) 7 rf] rfl rfl rfl [.ref (a 0), .int (nI (iM p 3)), .ref (a 1)] rfl (Nat.le_of_ble_eq_true rfl) ?_
                refine r_aldN K dX7_change_90 1 rfl (by first | omega | exact iG_lt (by omega) (by decide) | exact iM_lt (by omega) (by decide)) (by decide) ?_
                refine r_astN K dX7_change_91 (ws1 := [mo h a hi lm rm pc bi sd, eI Γ (a 0) 42 r, eI Γ (a 1) 42 (upd r (iM p 3) (r (iM (p + 1 + k) 3))), eI Γ (a 6) 7 rf]) 2 rfl (by first | omega | exact iG_lt (by omega) (by decide) | exact iM_lt (by omega) (by decide)) (by decide) rfl ?_
                refine r_aload_n K dX7_change_92 4 rfl ?_
                refine r_get K dX7_change_93 (kf := 1) 0 rfl rfl hinX7 (by decide) q758 rfl rfl ?_
                refine r_iload K dX7_change_96 0 rfl ?_
                refine r_iconst K dX7_change_98 (nI 3) (by decide) ?_
                refine r_cSd K dX7_change_99 (c_X7_ofM l Γ (p + 1 + k) 3) mX7_ofM q853 rfl (by decide) 4 rfl [] [0, 1, 2, 3] rfl rfl [mo h a hi lm rm pc bi sd, eI Γ (a 0) 42 r, eI Γ (a 1) 42 (upd r (iM p 3) (r (iM (p + 1 + k) 3))), eI Γ (a 6) 7 rf] rfl [mo h a hi lm rm pc bi sd, eI Γ (a 0) 42 r, eI Γ (a 1) 42 (upd r (iM p 3) (r (iM (p + 1 + k) 3))), eI Γ (a 6) 7 rf] rfl rfl rfl [.ref (a 1)] rfl (Nat.le_of_ble_eq_true rfl) ?_
                refine r_aload_n K dX7_change_102 4 rfl ?_
                refine r_get K dX7_change_103 (kf := 0) 0 rfl rfl hinX7 (by decide) q757 rfl rfl ?_
                refine r_iload K dX7_change_106 1 rfl ?_
                refine r_iconst K dX7_change_108 (nI 3) (by decide) ?_
                refine r_cSd K dX7_change_109 (c_X7_ofM l Γ p 3) mX7_ofM q853 rfl (by decide) 4 rfl [] [0, 1, 2, 3] rfl rfl [mo h a hi lm rm pc bi sd, eI Γ (a 0) 42 r, eI Γ (a 1) 42 (upd r (iM p 3) (r (iM (p + 1 + k) 3))), eI Γ (a 6) 7 rf] rfl [mo h a hi lm rm pc bi sd, eI Γ (a 0) 42 r, eI Γ (a 1) 42 (upd r (iM p 3) (r (iM (p + 1 + k) 3))), eI Γ (a 6) 7 rf] rfl rfl rfl [.ref (a 0), .int (nI (iM (p + 1 + k) 3)), .ref (a 1)] rfl (Nat.le_of_ble_eq_true rfl) ?_
                refine r_aldN K dX7_change_112 1 rfl (by first | omega | exact iG_lt (by omega) (by decide) | exact iM_lt (by omega) (by decide)) (by decide) ?_
                refine r_astN K dX7_change_113 (ws1 := [mo h a hi lm rm pc bi sd, eI Γ (a 0) 42 r, eI Γ (a 1) 42 (upd (upd r (iM p 3) (r (iM (p + 1 + k) 3))) (iM (p + 1 + k) 3) (r (iM p 3))), eI Γ (a 6) 7 rf]) 2 rfl (by first | omega | exact iG_lt (by omega) (by decide) | exact iM_lt (by omega) (by decide)) (by decide) rfl ?_
                refine r_aload_n K dX7_change_114 4 rfl ?_
                refine r_get K dX7_change_115 (kf := 1) 0 rfl rfl hinX7 (by decide) q758 rfl rfl ?_
                refine r_iload_n K dX7_change_118 5 rfl ?_
                refine r_cSn K dX7_change_119 (c_X7_daysOn l Γ (a 1) (upd (upd r (iM p 3) (r (iM (p + 1 + k) 3))) (iM (p + 1 + k) 3) (r (iM p 3))) (ix n) (Inv_at (Inv_at hI (hI.pl3 (by omega))) (by rw [nG_M]; exact hI.pl3 (by omega))) (by first | assumption | omega)) mX7_daysOn q873 rfl (by decide) 4 rfl [2] [0, 1, 3] rfl rfl [mo h a hi lm rm pc bi sd, eI Γ (a 0) 42 r, eI Γ (a 6) 7 rf] rfl [mo h a hi lm rm pc bi sd, eI Γ (a 0) 42 r, eI Γ (a 1) 42 (daysS (upd (upd r (iM p 3) (r (iM (p + 1 + k) 3))) (iM (p + 1 + k) 3) (r (iM p 3))) (ix n)), eI Γ (a 6) 7 rf] rfl rfl rfl [] rfl (Nat.le_of_ble_eq_true rfl) ?_
                refine r_aload_n K dX7_change_122 4 rfl ?_
                refine r_get K dX7_change_123 (kf := 1) 0 rfl rfl hinX7 (by decide) q758 rfl rfl ?_
                refine r_cSd K dX7_change_126 (c_X7_payIn l Γ (a 1) (daysS (upd (upd r (iM p 3) (r (iM (p + 1 + k) 3))) (iM (p + 1 + k) 3) (r (iM p 3))) (ix n)) (Inv_daysS (Inv_at (Inv_at hI (hI.pl3 (by omega))) (by rw [nG_M]; exact hI.pl3 (by omega))) _)) mX7_payIn q939 rfl (by decide) 4 rfl [2] [0, 1, 3] rfl rfl [mo h a hi lm rm pc bi sd, eI Γ (a 0) 42 r, eI Γ (a 6) 7 rf] rfl [mo h a hi lm rm pc bi sd, eI Γ (a 0) 42 r, eI Γ (a 1) 42 (daysS (upd (upd r (iM p 3) (r (iM (p + 1 + k) 3))) (iM (p + 1 + k) 3) (r (iM p 3))) (ix n)), eI Γ (a 6) 7 rf] rfl rfl rfl [] rfl (Nat.le_of_ble_eq_true rfl) ?_
                refine r_iload_n K dX7_change_129 3 rfl ?_
                refine r_ic_gt K dX7_change_130 (fun c130 => ?_) (fun c130 => ?_)
                · refine r_bipush K dX7_change_136 (nI 10) (by decide) ?_
                  refine r_iload K dX7_change_138 1 rfl ?_
                  refine r_imulN K dX7_change_140 ?_
                  refine r_iload K dX7_change_141 0 rfl ?_
                  refine r_iaddN K dX7_change_143 ?_
                  refine r_istore K dX7_change_144 (by decide) (lv1 := [(4, .int (nI ((10 * p) + (p + 1 + k)))), (6, .int (nI (p + 1 + k))), (5, .int (nI p)), (3, .int v), (0, .ref h), (1, .int (nI (ix n)))]) rfl ?_
                  refine r_aload_n K dX7_change_146 4 rfl ?_
                  refine r_get K dX7_change_147 (kf := 1) 0 rfl rfl hinX7 (by decide) q758 rfl rfl ?_
                  refine r_cSd K dX7_change_150 (c_X7_payIn l Γ (a 1) (daysS (upd (upd r (iM p 3) (r (iM (p + 1 + k) 3))) (iM (p + 1 + k) 3) (r (iM p 3))) (ix n)) (Inv_daysS (Inv_at (Inv_at hI (hI.pl3 (by omega))) (by rw [nG_M]; exact hI.pl3 (by omega))) _)) mX7_payIn q939 rfl (by decide) 4 rfl [2] [0, 1, 3] rfl rfl [mo h a hi lm rm pc bi sd, eI Γ (a 0) 42 r, eI Γ (a 6) 7 rf] rfl [mo h a hi lm rm pc bi sd, eI Γ (a 0) 42 r, eI Γ (a 1) 42 (daysS (upd (upd r (iM p 3) (r (iM (p + 1 + k) 3))) (iM (p + 1 + k) 3) (r (iM p 3))) (ix n)), eI Γ (a 6) 7 rf] rfl rfl rfl [] rfl (Nat.le_of_ble_eq_true rfl) ?_
                  refine r_istore_n K dX7_change_153 rfl (by decide) (lv1 := [(3, .int (payS (daysS (upd (upd r (iM p 3) (r (iM (p + 1 + k) 3))) (iM (p + 1 + k) 3) (r (iM p 3))) (ix n)))), (4, .int (nI ((10 * p) + (p + 1 + k)))), (6, .int (nI (p + 1 + k))), (5, .int (nI p)), (0, .ref h), (1, .int (nI (ix n)))]) rfl ?_
                  refine r_iincN K dX7_change_154 (n := 1) 2 rfl rfl (by decide) (lv1 := [(6, .int (nI (p + 1 + k + 1))), (3, .int (payS (daysS (upd (upd r (iM p 3) (r (iM (p + 1 + k) 3))) (iM (p + 1 + k) 3) (r (iM p 3))) (ix n)))), (4, .int (nI ((10 * p) + (p + 1 + k)))), (5, .int (nI p)), (0, .ref h), (1, .int (nI (ix n)))]) rfl ?_
                  refine r_goto K dX7_change_157 ?_
                  refine r_lv K [0, 3, 2, 1, 4, 5] rfl ?_
                  exact ih_L48 (k + 1) (payS (daysS (upd (upd r (iM p 3) (r (iM (p + 1 + k) 3))) (iM (p + 1 + k) 3) (r (iM p 3))) (ix n))) (nI ((10 * p) + (p + 1 + k))) (daysS (upd (upd r (iM p 3) (r (iM (p + 1 + k) 3))) (iM (p + 1 + k) 3) (r (iM p 3))) (ix n)) (by omega) (by rw [amI_t (show (amI (chgV r (ix n) p) (fun b => nI (10 * p + b)) (p + 1) (chO r (ix n) p) k).1 < chgV r (ix n) p (p + 1 + k) from by rw [← hv2]; exact c130)]; rfl) (by rw [amI_t (show (amI (chgV r (ix n) p) (fun b => nI (10 * p + b)) (p + 1) (chO r (ix n) p) k).1 < chgV r (ix n) p (p + 1 + k) from by rw [← hv2]; exact c130)]) (by omega)
                · refine r_goto K dX7_change_133 ?_
                  refine r_iincN K dX7_change_154 (n := 1) 0 rfl rfl (by decide) (lv1 := [(6, .int (nI (p + 1 + k + 1))), (5, .int (nI p)), (4, .int b), (3, .int v), (0, .ref h), (1, .int (nI (ix n)))]) rfl ?_
                  refine r_goto K dX7_change_157 ?_
                  exact ih_L48 (k + 1) v b (daysS (upd (upd r (iM p 3) (r (iM (p + 1 + k) 3))) (iM (p + 1 + k) 3) (r (iM p 3))) (ix n)) (by omega) (by rw [hv2, amI_n (fun z => absurd (show (amI (chgV r (ix n) p) (fun b => nI (10 * p + b)) (p + 1) (chO r (ix n) p) k).1 < chgV r (ix n) p (p + 1 + k) from z) (by rw [← hv2]; exact c130))]) (by rw [hb2, amI_n (fun z => absurd (show (amI (chgV r (ix n) p) (fun b => nI (10 * p + b)) (p + 1) (chO r (ix n) p) k).1 < chgV r (ix n) p (p + 1 + k) from z) (by rw [← hv2]; exact c130))]) (by omega)
          -- local 6: .int (nI (p + 1)) as .int (nI (p + 1 + 0))
          exact L48 _ 0 v b q (Nat.zero_le _) (hv) (hb) (Nat.lt_succ_self _)
    refine r_lv K [0, 1, 2, 4, 5] rfl ?_
    exact L31 _ 0 (payS (daysS r (ix n))) (-9) (daysS r (ix n)) (Nat.zero_le _) (rfl) (rfl) (Nat.lt_succ_self _)
  · refine r_aload_n K dX7_change_12 1 rfl ?_
    refine r_iload_n K dX7_change_13 0 rfl ?_
    refine r_cVd K dX7_change_14 (c_X7_no l Γ h a hi lm rm pc bi sd rf (wrS n (nI 0) (nI 30)) (okR_wr c9)) mX7_no q813 rfl (by decide) rfl rfl 4 rfl [0, 3] [1, 2] rfl rfl [eI Γ (a 0) 42 r, eI Γ (a 1) 42 q] rfl [mo h a hi lm rm pc bi sd, eI Γ (a 0) 42 r, eI Γ (a 1) 42 q, eI Γ (a 6) 7 (nof rf (wrS n (nI 0) (nI 30)))] rfl rfl rfl [] rfl (Nat.le_of_ble_eq_true rfl) ?_
    have he : eW n (nI 0) (nI 30) = wrS n (nI 0) (nI 30) := by
      unfold eW
      rw [if_pos c9]
    refine r_arr K (f2 := chE (eW n (nI 0) (nI 30)) rf (nof rf (eW n (nI 0) (nI 30)))) (ws1 := [mo h a hi lm rm pc bi sd, eI Γ (a 0) 42 r, eI Γ (a 1) 42 q, eI Γ (a 6) 7 (chE (eW n (nI 0) (nI 30)) rf (nof rf (eW n (nI 0) (nI 30))))]) 3 rfl (fun _ _ => by rw [ch_n (g := nof rf) he c9]) rfl ?_
    exact hR q dX7_change_17 (trivial) (e_ri (ex_n he c9)) (weq.rf)
set_option maxHeartbeats 1000000 in
set_option maxRecDepth 20000 in
theorem c_X7_onion (l : Launch) (Γ : eG) (h : Nat) (a : Nat → Nat) (hi : Bool) (lm : Nat) (rm : Nat) (pc : Nat) (bi : Int32) (sd : Int32) (r : Nat → Int32) (q : Nat → Int32) (rf : Nat → Int32) (x : Int32) (n : Int32) (hI : Inv r) : cE l Γ yX7_onion cX7_onion 5 (some .int) 6 [.ref h, .int x, .int n] [mo h a hi lm rm pc bi sd, eI Γ (a 0) 42 r, eI Γ (a 1) 42 q, eI Γ (a 6) 7 rf] (S := Nat → Int32) (fun u => True) (fun u => (some (.int (chE (eMoW r x n (nI 1) (nI 30)) (onS r (ix x) (ix n)) (1000000000 - (eMoW r x n (nI 1) (nI 30))))))) (fun u => [mo h a hi lm rm pc bi sd, eI Γ (a 0) 42 r, eI Γ (a 1) 42 u, eI Γ (a 6) 7 (chE (eMoW r x n (nI 1) (nI 30)) rf (nof rf (eMoW r x n (nI 1) (nI 30))))]) := by
  refine e_int [(0, .ref h), (1, .int x), (2, .int n)] (by decide +kernel) (Nat.le_of_ble_eq_true rfl) rfl (fun V K hR => ?_)
  have h5 := hI.g
  have h6 := hI.m
  refine r_aload_n K dX7_onion_0 0 rfl ?_
  refine r_iload_n K dX7_onion_1 1 rfl ?_
  refine r_cVd K dX7_onion_2 (c_X7_isMourner l Γ h a hi lm rm pc bi sd r x (hI)) mX7_isMourner q856 rfl (by decide) rfl rfl 4 rfl [0, 1] [2, 3] rfl rfl [eI Γ (a 1) 42 q, eI Γ (a 6) 7 rf] rfl [mo h a hi lm rm pc bi sd, eI Γ (a 0) 42 r, eI Γ (a 1) 42 q, eI Γ (a 6) 7 rf] rfl rfl rfl [] rfl (Nat.le_of_ble_eq_true rfl) ?_
  refine r_ifeqB K dX7_onion_5 (fun c5 => ?_) (fun c5 => ?_)
  · refine r_iconst K dX7_onion_18 ((-1)) (by decide) ?_
    refine r_istore_n K dX7_onion_19 rfl (by decide) (lv1 := [(3, .int (-1)), (0, .ref h), (1, .int x), (2, .int n)]) rfl ?_
    refine r_iload_n K dX7_onion_20 0 rfl ?_
    refine r_if_eq K dX7_onion_21 (fun c21 => ?_) (fun c21 => ?_)
    · exact absurd c21 (by decide)
    · refine r_aload_n K dX7_onion_24 1 rfl ?_
      refine r_iload_n K dX7_onion_25 0 rfl ?_
      refine r_cVd K dX7_onion_26 (c_X7_noFar l Γ h a hi lm rm pc bi sd rf (-1) (okR_1)) mX7_noFar q1036 rfl (by decide) rfl rfl 4 rfl [0, 3] [1, 2] rfl rfl [eI Γ (a 0) 42 r, eI Γ (a 1) 42 q] rfl [mo h a hi lm rm pc bi sd, eI Γ (a 0) 42 r, eI Γ (a 1) 42 q, eI Γ (a 6) 7 (nof rf (-1))] rfl rfl rfl [] rfl (Nat.le_of_ble_eq_true rfl) ?_
      have he : eMoW r x n (nI 1) (nI 30) = (-1) := by
        unfold eMoW
        rw [if_pos (nt c5)]
      refine r_arr K (f2 := chE (eMoW r x n (nI 1) (nI 30)) rf (nof rf (eMoW r x n (nI 1) (nI 30)))) (ws1 := [mo h a hi lm rm pc bi sd, eI Γ (a 0) 42 r, eI Γ (a 1) 42 q, eI Γ (a 6) 7 (chE (eMoW r x n (nI 1) (nI 30)) rf (nof rf (eMoW r x n (nI 1) (nI 30))))]) 3 rfl (fun _ _ => by rw [ch_n (g := nof rf) he (by decide)]) rfl ?_
      exact hR q dX7_onion_29 (trivial) (e_ri (exR_n he (by decide))) (weq.rf)
  · have hx := inN_e c5 (by omega)
    have lx := ix_lt c5 (by omega)
    refine r_lc (lv1 := [(0, .ref h), (1, .int (nI (ix x))), (2, .int n)]) (congrArg (fun zz : Int32 => ([(0, .ref h), (1, .int zz), (2, .int n)] : List (Nat × Value))) (hx)) ?_
    refine r_iload_n K dX7_onion_8 2 rfl ?_
    refine r_iconst K dX7_onion_9 (nI 1) (by decide) ?_
    refine r_bipush K dX7_onion_10 (nI 30) (by decide) ?_
    refine r_cSd K dX7_onion_12 (c_X7_wrongBy l Γ n (nI 1) (nI 30)) mX7_wrongBy q924 rfl (by decide) 4 rfl [] [0, 1, 2, 3] rfl rfl [mo h a hi lm rm pc bi sd, eI Γ (a 0) 42 r, eI Γ (a 1) 42 q, eI Γ (a 6) 7 rf] rfl [mo h a hi lm rm pc bi sd, eI Γ (a 0) 42 r, eI Γ (a 1) 42 q, eI Γ (a 6) 7 rf] rfl rfl rfl [] rfl (Nat.le_of_ble_eq_true rfl) ?_
    refine r_goto K dX7_onion_15 ?_
    refine r_istore_n K dX7_onion_19 rfl (by decide) (lv1 := [(3, .int (wrS n (nI 1) (nI 30))), (0, .ref h), (1, .int (nI (ix x))), (2, .int n)]) rfl ?_
    refine r_iload_n K dX7_onion_20 0 rfl ?_
    refine r_if_eq K dX7_onion_21 (fun c21 => ?_) (fun c21 => ?_)
    · have hn := wrS_ok (by decide) (by decide) c21
      have ln := hn.2
      refine r_lc (lv1 := [(3, .int (wrS n (nI 1) (nI 30))), (0, .ref h), (1, .int (nI (ix x))), (2, .int (nI (ix n)))]) (congrArg (fun zz : Int32 => ([(3, .int (wrS n (nI 1) (nI 30))), (0, .ref h), (1, .int (nI (ix x))), (2, .int zz)] : List (Nat × Value))) (hn.1)) ?_
      refine r_aload_n K dX7_onion_30 1 rfl ?_
      refine r_iload_n K dX7_onion_31 3 rfl ?_
      refine r_cVd K dX7_onion_32 (c_X7_inchesNow l Γ h a hi lm rm pc bi sd r q (ix n) (hI) (by first | assumption | omega)) mX7_inchesNow q1008 rfl (by decide) rfl rfl 4 rfl [0, 1, 2] [3] rfl rfl [eI Γ (a 6) 7 rf] rfl [mo h a hi lm rm pc bi sd, eI Γ (a 0) 42 r, eI Γ (a 1) 42 (daysS r (ix n)), eI Γ (a 6) 7 rf] rfl rfl rfl [] rfl (Nat.le_of_ble_eq_true rfl) ?_
      refine r_istore K dX7_onion_35 (by decide) (lv1 := [(4, .int (incS (daysS r (ix n)))), (3, .int (wrS n (nI 1) (nI 30))), (0, .ref h), (1, .int (nI (ix x))), (2, .int (nI (ix n)))]) rfl ?_
      refine r_aload_n K dX7_onion_37 2 rfl ?_
      refine r_get K dX7_onion_38 (kf := 0) 0 rfl rfl hinX7 (by decide) q757 rfl rfl ?_
      refine r_aload_n K dX7_onion_41 2 rfl ?_
      refine r_get K dX7_onion_42 (kf := 1) 0 rfl rfl hinX7 (by decide) q758 rfl rfl ?_
      refine r_cSn K dX7_onion_45 (c_X7_copies l Γ (a 0) (a 1) r (daysS r (ix n))) mX7_copies q843 rfl (by decide) 4 rfl [1, 2] [0, 3] rfl rfl [mo h a hi lm rm pc bi sd, eI Γ (a 6) 7 rf] rfl [mo h a hi lm rm pc bi sd, eI Γ (a 0) 42 r, eI Γ (a 1) 42 r, eI Γ (a 6) 7 rf] rfl rfl rfl [] rfl (Nat.le_of_ble_eq_true rfl) ?_
      refine r_aload_n K dX7_onion_48 2 rfl ?_
      refine r_get K dX7_onion_49 (kf := 1) 0 rfl rfl hinX7 (by decide) q758 rfl rfl ?_
      refine r_iload_n K dX7_onion_52 3 rfl ?_
      refine r_iconst K dX7_onion_53 (nI 0) (by decide) ?_
      refine r_cSd K dX7_onion_54 (c_X7_ofM l Γ (ix x) 0) mX7_ofM q853 rfl (by decide) 4 rfl [] [0, 1, 2, 3] rfl rfl [mo h a hi lm rm pc bi sd, eI Γ (a 0) 42 r, eI Γ (a 1) 42 r, eI Γ (a 6) 7 rf] rfl [mo h a hi lm rm pc bi sd, eI Γ (a 0) 42 r, eI Γ (a 1) 42 r, eI Γ (a 6) 7 rf] rfl rfl rfl [.ref (a 1)] rfl (Nat.le_of_ble_eq_true rfl) ?_
      refine r_iconst K dX7_onion_57 (nI 2) (by decide) ?_
      refine r_astN K dX7_onion_58 (ws1 := [mo h a hi lm rm pc bi sd, eI Γ (a 0) 42 r, eI Γ (a 1) 42 (upd r (iM (ix x) 0) (nI 2)), eI Γ (a 6) 7 rf]) 2 rfl (by first | omega | exact iG_lt (by omega) (by decide) | exact iM_lt (by omega) (by decide)) (by decide) rfl ?_
      refine r_aload_n K dX7_onion_59 2 rfl ?_
      refine r_get K dX7_onion_60 (kf := 1) 0 rfl rfl hinX7 (by decide) q758 rfl rfl ?_
      refine r_iload_n K dX7_onion_63 4 rfl ?_
      refine r_cSn K dX7_onion_64 (c_X7_daysOn l Γ (a 1) (upd r (iM (ix x) 0) (nI 2)) (ix n) (Inv_onion hI (by decide)) (by first | assumption | omega)) mX7_daysOn q873 rfl (by decide) 4 rfl [2] [0, 1, 3] rfl rfl [mo h a hi lm rm pc bi sd, eI Γ (a 0) 42 r, eI Γ (a 6) 7 rf] rfl [mo h a hi lm rm pc bi sd, eI Γ (a 0) 42 r, eI Γ (a 1) 42 (daysS (upd r (iM (ix x) 0) (nI 2)) (ix n)), eI Γ (a 6) 7 rf] rfl rfl rfl [] rfl (Nat.le_of_ble_eq_true rfl) ?_
      refine r_aload_n K dX7_onion_67 2 rfl ?_
      refine r_get K dX7_onion_68 (kf := 1) 0 rfl rfl hinX7 (by decide) q758 rfl rfl ?_
      refine r_cSd K dX7_onion_71 (c_X7_inchesIn l Γ (a 1) (daysS (upd r (iM (ix x) 0) (nI 2)) (ix n)) (Inv_daysS (Inv_onion hI (by decide)) _)) mX7_inchesIn q1012 rfl (by decide) 4 rfl [2] [0, 1, 3] rfl rfl [mo h a hi lm rm pc bi sd, eI Γ (a 0) 42 r, eI Γ (a 6) 7 rf] rfl [mo h a hi lm rm pc bi sd, eI Γ (a 0) 42 r, eI Γ (a 1) 42 (daysS (upd r (iM (ix x) 0) (nI 2)) (ix n)), eI Γ (a 6) 7 rf] rfl rfl rfl [] rfl (Nat.le_of_ble_eq_true rfl) ?_
      refine r_iload K dX7_onion_74 0 rfl ?_
      refine r_isub K dX7_onion_76 ?_
      have he : eMoW r x n (nI 1) (nI 30) = 0 := by
        unfold eMoW
        rw [if_neg (not_not_intro c5), if_neg (not_not_intro c21)]
      refine r_arr K (f2 := chE (eMoW r x n (nI 1) (nI 30)) rf (nof rf (eMoW r x n (nI 1) (nI 30)))) (ws1 := [mo h a hi lm rm pc bi sd, eI Γ (a 0) 42 r, eI Γ (a 1) 42 (daysS (upd r (iM (ix x) 0) (nI 2)) (ix n)), eI Γ (a 6) 7 (chE (eMoW r x n (nI 1) (nI 30)) rf (nof rf (eMoW r x n (nI 1) (nI 30))))]) 3 rfl (fun _ _ => by rw [chE_0 he]) rfl ?_
      exact hR (daysS (upd r (iM (ix x) 0) (nI 2)) (ix n)) dX7_onion_77 (trivial) (e_ri (exR_0 he (rfl))) (weq.rf)
    · refine r_aload_n K dX7_onion_24 1 rfl ?_
      refine r_iload_n K dX7_onion_25 0 rfl ?_
      refine r_cVd K dX7_onion_26 (c_X7_noFar l Γ h a hi lm rm pc bi sd rf (wrS n (nI 1) (nI 30)) (okR_wr c21)) mX7_noFar q1036 rfl (by decide) rfl rfl 4 rfl [0, 3] [1, 2] rfl rfl [eI Γ (a 0) 42 r, eI Γ (a 1) 42 q] rfl [mo h a hi lm rm pc bi sd, eI Γ (a 0) 42 r, eI Γ (a 1) 42 q, eI Γ (a 6) 7 (nof rf (wrS n (nI 1) (nI 30)))] rfl rfl rfl [] rfl (Nat.le_of_ble_eq_true rfl) ?_
      have he : eMoW r x n (nI 1) (nI 30) = wrS n (nI 1) (nI 30) := by
        unfold eMoW
        rw [if_neg (not_not_intro c5), if_pos c21]
      refine r_arr K (f2 := chE (eMoW r x n (nI 1) (nI 30)) rf (nof rf (eMoW r x n (nI 1) (nI 30)))) (ws1 := [mo h a hi lm rm pc bi sd, eI Γ (a 0) 42 r, eI Γ (a 1) 42 q, eI Γ (a 6) 7 (chE (eMoW r x n (nI 1) (nI 30)) rf (nof rf (eMoW r x n (nI 1) (nI 30))))]) 3 rfl (fun _ _ => by rw [ch_n (g := nof rf) he c21]) rfl ?_
      exact hR q dX7_onion_29 (trivial) (e_ri (exR_n he c21)) (weq.rf)
set_option maxHeartbeats 1000000 in
set_option maxRecDepth 20000 in
theorem c_X7_tears (l : Launch) (Γ : eG) (h : Nat) (a : Nat → Nat) (hi : Bool) (lm : Nat) (rm : Nat) (pc : Nat) (bi : Int32) (sd : Int32) (r : Nat → Int32) (hI : Inv r) : cD l Γ yX7_tears cX7_tears 3 (some .int) 2 [.ref h] [mo h a hi lm rm pc bi sd, eI Γ (a 0) 42 r] (some (.int (wmF r (nM r)))) [mo h a hi lm rm pc bi sd, eI Γ (a 0) 42 r] := by
  refine e_int [(0, .ref h)] (by decide +kernel) (Nat.le_of_ble_eq_true rfl) rfl (fun V K hR => ?_)
  have h5 := hI.g
  have h6 := hI.m
  refine r_bipush K dX7_tears_0 ((-9)) (by decide) ?_
  refine r_istore_n K dX7_tears_2 rfl (by decide) (lv1 := [(1, .int (-9)), (0, .ref h)]) rfl ?_
  refine r_iconst K dX7_tears_3 (nI 0) (by decide) ?_
  refine r_istore_n K dX7_tears_4 rfl (by decide) (lv1 := [(2, .int (nI 0)), (1, .int (-9)), (0, .ref h)]) rfl ?_
  have L5 : ∀ (fL5 : Nat) (k : Nat), (k ≤ nM r) → nM r - k < fL5 → V 5 [(2, .int (nI k)), (1, .int (wmF r k)), (0, .ref h)] [] [mo h a hi lm rm pc bi sd, eI Γ (a 0) 42 r] := by
    intro fL5
    induction fL5 with
    | zero => intro k hk hf; exact absurd hf (Nat.not_lt_zero _)
    | succ fL5 ih_L5 =>
      intro k hk hfL5
      refine r_iload_n K dX7_tears_5 0 rfl ?_
      refine r_aload_n K dX7_tears_6 2 rfl ?_
      refine r_get K dX7_tears_7 (kf := 0) 0 rfl rfl hinX7 (by decide) q757 rfl rfl ?_
      refine r_iconst K dX7_tears_10 (nI 1) (by decide) ?_
      refine r_aldN K dX7_tears_11 1 rfl (by first | omega | exact iG_lt (by omega) (by decide) | exact iM_lt (by omega) (by decide)) (by decide) ?_
      refine r_top (y := nI (nM r)) (hI.r1) ?_
      refine r_ic_geN K dX7_tears_12 (by omega) (by omega) (fun c12 => ?_) (fun c12 => ?_)
      · obtain rfl : k = nM r := by omega
        refine r_iload_n K dX7_tears_59 1 rfl ?_
        exact hR () dX7_tears_60 (trivial) (e_ri (rfl)) (weq.rf)
      · refine r_aload_n K dX7_tears_15 2 rfl ?_
        refine r_get K dX7_tears_16 (kf := 0) 0 rfl rfl hinX7 (by decide) q757 rfl rfl ?_
        refine r_iload_n K dX7_tears_19 0 rfl ?_
        refine r_iconst K dX7_tears_20 (nI 3) (by decide) ?_
        refine r_cSd K dX7_tears_21 (c_X7_ofM l Γ k 3) mX7_ofM q853 rfl (by decide) 2 rfl [] [0, 1] rfl rfl [mo h a hi lm rm pc bi sd, eI Γ (a 0) 42 r] rfl [mo h a hi lm rm pc bi sd, eI Γ (a 0) 42 r] rfl rfl rfl [.ref (a 0)] rfl (Nat.le_of_ble_eq_true rfl) ?_
        refine r_aldN K dX7_tears_24 1 rfl (by first | omega | exact iG_lt (by omega) (by decide) | exact iM_lt (by omega) (by decide)) (by decide) ?_
        refine r_if_lt K dX7_tears_25 (fun c25 => ?_) (fun c25 => ?_)
        · refine r_iincN K dX7_tears_53 (n := 1) 0 rfl rfl (by decide) (lv1 := [(2, .int (nI (k + 1))), (1, .int (wmF r k)), (0, .ref h)]) rfl ?_
          refine r_goto K dX7_tears_56 ?_
          refine r_lc (lv1 := [(2, .int (nI (k + 1))), (1, .int (wmF r (k + 1))), (0, .ref h)]) (congrArg (fun zz : Int32 => ([(2, .int (nI (k + 1))), (1, .int zz), (0, .ref h)] : List (Nat × Value))) ((wmF_n (fun z => z.1 (at9 hI (by omega) c25))).symm)) ?_
          exact ih_L5 (k + 1) (by omega) (by omega)
        · refine r_iload_n K dX7_tears_28 1 rfl ?_
          refine r_if_lt K dX7_tears_29 (fun c29 => ?_) (fun c29 => ?_)
          · refine r_iload_n K dX7_tears_51 0 rfl ?_
            refine r_istore_n K dX7_tears_52 rfl (by decide) (lv1 := [(1, .int (nI k)), (2, .int (nI k)), (0, .ref h)]) rfl ?_
            refine r_iincN K dX7_tears_53 (n := 1) 1 rfl rfl (by decide) (lv1 := [(2, .int (nI (k + 1))), (1, .int (nI k)), (0, .ref h)]) rfl ?_
            refine r_goto K dX7_tears_56 ?_
            refine r_lc (lv1 := [(2, .int (nI (k + 1))), (1, .int (wmF r (k + 1))), (0, .ref h)]) (congrArg (fun zz : Int32 => ([(2, .int (nI (k + 1))), (1, .int zz), (0, .ref h)] : List (Nat × Value))) ((wmF_s ⟨n9_of c25, Or.inl (wm_neg (by omega) c29)⟩).symm)) ?_
            exact ih_L5 (k + 1) (by omega) (by omega)
          · obtain ⟨j, hj, ej⟩ := (wmF_cases r k).resolve_left (n9_of c29)
            refine r_lc (lv1 := [(2, .int (nI k)), (1, .int (nI j)), (0, .ref h)]) (congrArg (fun zz : Int32 => ([(2, .int (nI k)), (1, .int zz), (0, .ref h)] : List (Nat × Value))) (ej)) ?_
            refine r_aload_n K dX7_tears_32 2 rfl ?_
            refine r_get K dX7_tears_33 (kf := 0) 0 rfl rfl hinX7 (by decide) q757 rfl rfl ?_
            refine r_iload_n K dX7_tears_36 0 rfl ?_
            refine r_cSd K dX7_tears_37 (c_X7_weeps l Γ (a 0) r k (by first | assumption | omega)) mX7_weeps q879 rfl (by decide) 2 rfl [1] [0] rfl rfl [mo h a hi lm rm pc bi sd] rfl [mo h a hi lm rm pc bi sd, eI Γ (a 0) 42 r] rfl rfl rfl [] rfl (Nat.le_of_ble_eq_true rfl) ?_
            refine r_aload_n K dX7_tears_40 2 rfl ?_
            refine r_get K dX7_tears_41 (kf := 0) 0 rfl rfl hinX7 (by decide) q757 rfl rfl ?_
            refine r_iload_n K dX7_tears_44 1 rfl ?_
            refine r_cSd K dX7_tears_45 (c_X7_weeps l Γ (a 0) r j (by first | assumption | omega)) mX7_weeps q879 rfl (by decide) 2 rfl [1] [0] rfl rfl [mo h a hi lm rm pc bi sd] rfl [mo h a hi lm rm pc bi sd, eI Γ (a 0) 42 r] rfl rfl rfl [.int (weepS r k)] rfl (Nat.le_of_ble_eq_true rfl) ?_
            refine r_ic_le K dX7_tears_48 (fun c48 => ?_) (fun c48 => ?_)
            · refine r_iincN K dX7_tears_53 (n := 1) 0 rfl rfl (by decide) (lv1 := [(2, .int (nI (k + 1))), (1, .int (nI j)), (0, .ref h)]) rfl ?_
              refine r_goto K dX7_tears_56 ?_
              refine r_lc (lv1 := [(2, .int (nI (k + 1))), (1, .int (wmF r (k + 1))), (0, .ref h)]) (congrArg (fun zz : Int32 => ([(2, .int (nI (k + 1))), (1, .int zz), (0, .ref h)] : List (Nat × Value))) (ej.symm.trans (wmF_n (fun z => z.2.elim (n9_of c29) (fun z => absurd z (by rw [ej, ix_nI (by omega)]; exact Int32.not_lt.mpr c48)))).symm)) ?_
              exact ih_L5 (k + 1) (by omega) (by omega)
            · refine r_iload_n K dX7_tears_51 0 rfl ?_
              refine r_istore_n K dX7_tears_52 rfl (by decide) (lv1 := [(1, .int (nI k)), (2, .int (nI k)), (0, .ref h)]) rfl ?_
              refine r_iincN K dX7_tears_53 (n := 1) 1 rfl rfl (by decide) (lv1 := [(2, .int (nI (k + 1))), (1, .int (nI k)), (0, .ref h)]) rfl ?_
              refine r_goto K dX7_tears_56 ?_
              refine r_lc (lv1 := [(2, .int (nI (k + 1))), (1, .int (wmF r (k + 1))), (0, .ref h)]) (congrArg (fun zz : Int32 => ([(2, .int (nI (k + 1))), (1, .int zz), (0, .ref h)] : List (Nat × Value))) ((wmF_s ⟨n9_of c25, Or.inr (by rw [ej, ix_nI (by omega)]; exact Int32.not_le.mp c48)⟩).symm)) ?_
              exact ih_L5 (k + 1) (by omega) (by omega)
  refine r_lc (lv1 := [(2, .int (nI 0)), (1, .int (wmF r 0)), (0, .ref h)]) (rfl) ?_
  exact L5 _ 0 (Nat.zero_le _) (Nat.lt_succ_self _)
set_option maxHeartbeats 1000000 in
set_option maxRecDepth 20000 in
theorem c_X7_alone (l : Launch) (Γ : eG) (h : Nat) (a : Nat → Nat) (hi : Bool) (lm : Nat) (rm : Nat) (pc : Nat) (bi : Int32) (sd : Int32) (r : Nat → Int32) (rf : Nat → Int32) (w : Int32) (hI : Inv r) : cD l Γ yX7_alone cX7_alone 4 (some .int) 2 [.ref h, .int w] [mo h a hi lm rm pc bi sd, eI Γ (a 0) 42 r, eI Γ (a 6) 7 rf] (some (.int (chE (eIs w (nI 0) (nI 2)) (aAlone r w) (eIs w (nI 0) (nI 2))))) [mo h a hi lm rm pc bi sd, eI Γ (a 0) 42 r, eI Γ (a 6) 7 (chE (eIs w (nI 0) (nI 2)) rf (nof rf (eIs w (nI 0) (nI 2))))] := by
  refine e_int [(0, .ref h), (1, .int w)] (by decide +kernel) (Nat.le_of_ble_eq_true rfl) rfl (fun V K hR => ?_)
  have h5 := hI.g
  have h6 := hI.m
  refine r_iload_n K dX7_alone_0 1 rfl ?_
  refine r_iconst K dX7_alone_1 (nI 0) (by decide) ?_
  refine r_iconst K dX7_alone_2 (nI 2) (by decide) ?_
  refine r_cSd K dX7_alone_3 (c_X7_isIn l Γ w (nI 0) (nI 2)) mX7_isIn q833 rfl (by decide) 3 rfl [] [0, 1, 2] rfl rfl [mo h a hi lm rm pc bi sd, eI Γ (a 0) 42 r, eI Γ (a 6) 7 rf] rfl [mo h a hi lm rm pc bi sd, eI Γ (a 0) 42 r, eI Γ (a 6) 7 rf] rfl rfl rfl [] rfl (Nat.le_of_ble_eq_true rfl) ?_
  refine r_ifneB K dX7_alone_6 (fun c6 => ?_) (fun c6 => ?_)
  · have hw := isInB_ok (lo := 0) (hi := 2) (by decide) (by decide) c6
    have lw := hw.2
    refine r_lc (lv1 := [(0, .ref h), (1, .int (nI (ix w)))]) (congrArg (fun zz : Int32 => ([(0, .ref h), (1, .int zz)] : List (Nat × Value))) (hw.1)) ?_
    refine r_iconst K dX7_alone_16 (nI 0) (by decide) ?_
    refine r_istore_n K dX7_alone_17 rfl (by decide) (lv1 := [(2, .int (nI 0)), (0, .ref h), (1, .int (nI (ix w)))]) rfl ?_
    refine r_iconst K dX7_alone_18 (nI 0) (by decide) ?_
    refine r_istore_n K dX7_alone_19 rfl (by decide) (lv1 := [(3, .int (nI 0)), (2, .int (nI 0)), (0, .ref h), (1, .int (nI (ix w)))]) rfl ?_
    have L20 : ∀ (fL20 : Nat) (k : Nat), (k ≤ nG r) → nG r - k < fL20 → V 20 [(3, .int (nI k)), (2, .int (aloT r (ix w) k)), (0, .ref h), (1, .int (nI (ix w)))] [] [mo h a hi lm rm pc bi sd, eI Γ (a 0) 42 r, eI Γ (a 6) 7 rf] := by
      intro fL20
      induction fL20 with
      | zero => intro k hk hf; exact absurd hf (Nat.not_lt_zero _)
      | succ fL20 ih_L20 =>
        intro k hk hfL20
        refine r_iload_n K dX7_alone_20 0 rfl ?_
        refine r_aload_n K dX7_alone_21 2 rfl ?_
        refine r_get K dX7_alone_22 (kf := 0) 0 rfl rfl hinX7 (by decide) q757 rfl rfl ?_
        refine r_iconst K dX7_alone_25 (nI 0) (by decide) ?_
        refine r_aldN K dX7_alone_26 1 rfl (by first | omega | exact iG_lt (by omega) (by decide) | exact iM_lt (by omega) (by decide)) (by decide) ?_
        refine r_top (y := nI (nG r)) (hI.r0) ?_
        refine r_ic_geN K dX7_alone_27 (by omega) (by omega) (fun c27 => ?_) (fun c27 => ?_)
        · obtain rfl : k = nG r := by omega
          refine r_iload_n K dX7_alone_80 1 rfl ?_
          have he : eIs w (nI 0) (nI 2) = 0 := by
            unfold eIs
            rw [if_neg (not_not_intro c6)]
          refine r_arr K (f2 := chE (eIs w (nI 0) (nI 2)) rf (nof rf (eIs w (nI 0) (nI 2)))) (ws1 := [mo h a hi lm rm pc bi sd, eI Γ (a 0) 42 r, eI Γ (a 6) 7 (chE (eIs w (nI 0) (nI 2)) rf (nof rf (eIs w (nI 0) (nI 2))))]) 2 rfl (fun _ _ => by rw [chE_0 he]) rfl ?_
          exact hR () dX7_alone_81 (trivial) (e_ri (ex_0 he ((congrArg (aAlone r) hw.1).trans (aloT_e (by omega))))) (weq.rf)
        · refine r_iload_n K dX7_alone_30 1 rfl ?_
          refine r_iload_n K dX7_alone_31 3 rfl ?_
          refine r_iconst K dX7_alone_32 (nI 2) (by decide) ?_
          refine r_ic_neN K dX7_alone_33 (by omega) (by omega) (fun c33 => ?_) (fun c33 => ?_)
          · refine r_aload_n K dX7_alone_54 2 rfl ?_
            refine r_iload_n K dX7_alone_55 0 rfl ?_
            refine r_cVd K dX7_alone_56 (c_X7_peopleAt l Γ h a hi lm rm pc bi sd r (nI k) (hI) (nI_n9 (by omega))) mX7_peopleAt q900 rfl (by decide) rfl rfl 3 rfl [0, 1] [2] rfl rfl [eI Γ (a 6) 7 rf] rfl [mo h a hi lm rm pc bi sd, eI Γ (a 0) 42 r, eI Γ (a 6) 7 rf] rfl rfl rfl [.int (aloT r (ix w) k)] rfl (Nat.le_of_ble_eq_true rfl) ?_
            refine r_iconst K dX7_alone_59 (nI 1) (by decide) ?_
            refine r_iload_n K dX7_alone_60 3 rfl ?_
            refine r_isubN K dX7_alone_61 (by omega) ?_
            refine r_ic_ne K dX7_alone_62 (fun c62 => ?_) (fun c62 => ?_)
            · refine r_iconst K dX7_alone_71 (nI 0) (by decide) ?_
              refine r_ior K dX7_alone_72 ?_
              refine r_istore_n K dX7_alone_73 rfl (by decide) (lv1 := [(2, .int ((aloT r (ix w) k) ||| (nI 0))), (3, .int (nI k)), (0, .ref h), (1, .int (nI (ix w)))]) rfl ?_
              refine r_iincN K dX7_alone_74 (n := 1) 1 rfl rfl (by decide) (lv1 := [(3, .int (nI (k + 1))), (2, .int ((aloT r (ix w) k) ||| (nI 0))), (0, .ref h), (1, .int (nI (ix w)))]) rfl ?_
              refine r_goto K dX7_alone_77 ?_
              refine r_lc (lv1 := [(3, .int (nI (k + 1))), (2, .int (aloT r (ix w) (k + 1))), (0, .ref h), (1, .int (nI (ix w)))]) (congrArg (fun zz : Int32 => ([(3, .int (nI (k + 1))), (2, .int zz), (0, .ref h), (1, .int (nI (ix w)))] : List (Nat × Value))) ((or0 _).trans (aloT_n c33 c62).symm)) ?_
              exact ih_L20 (k + 1) (by omega) (by omega)
            · refine r_iconst K dX7_alone_65 (nI 1) (by decide) ?_
              refine r_iload_n K dX7_alone_66 0 rfl ?_
              refine r_ishl K dX7_alone_67 ?_
              refine r_goto K dX7_alone_68 ?_
              refine r_ior K dX7_alone_72 ?_
              refine r_istore_n K dX7_alone_73 rfl (by decide) (lv1 := [(2, .int ((aloT r (ix w) k) ||| ((nI 1) <<< ((nI k) &&& 31)))), (3, .int (nI k)), (0, .ref h), (1, .int (nI (ix w)))]) rfl ?_
              refine r_iincN K dX7_alone_74 (n := 1) 1 rfl rfl (by decide) (lv1 := [(3, .int (nI (k + 1))), (2, .int ((aloT r (ix w) k) ||| ((nI 1) <<< ((nI k) &&& 31)))), (0, .ref h), (1, .int (nI (ix w)))]) rfl ?_
              refine r_goto K dX7_alone_77 ?_
              refine r_lc (lv1 := [(3, .int (nI (k + 1))), (2, .int (aloT r (ix w) (k + 1))), (0, .ref h), (1, .int (nI (ix w)))]) (congrArg (fun zz : Int32 => ([(3, .int (nI (k + 1))), (2, .int zz), (0, .ref h), (1, .int (nI (ix w)))] : List (Nat × Value))) ((aloT_t c33 c62).symm)) ?_
              exact ih_L20 (k + 1) (by omega) (by omega)
          · refine r_aload_n K dX7_alone_36 2 rfl ?_
            refine r_get K dX7_alone_37 (kf := 0) 0 rfl rfl hinX7 (by decide) q757 rfl rfl ?_
            refine r_iload_n K dX7_alone_40 0 rfl ?_
            refine r_iconst K dX7_alone_41 (nI 1) (by decide) ?_
            refine r_cSd K dX7_alone_42 (c_X7_ofG l Γ k 1) mX7_ofG q850 rfl (by decide) 3 rfl [] [0, 1, 2] rfl rfl [mo h a hi lm rm pc bi sd, eI Γ (a 0) 42 r, eI Γ (a 6) 7 rf] rfl [mo h a hi lm rm pc bi sd, eI Γ (a 0) 42 r, eI Γ (a 6) 7 rf] rfl rfl rfl [.ref (a 0), .int (aloT r (ix w) k)] rfl (Nat.le_of_ble_eq_true rfl) ?_
            refine r_aldN K dX7_alone_45 1 rfl (by first | omega | exact iG_lt (by omega) (by decide) | exact iM_lt (by omega) (by decide)) (by decide) ?_
            refine r_bipush K dX7_alone_46 (nI 12) (by decide) ?_
            refine r_ic_lt K dX7_alone_48 (fun c48 => ?_) (fun c48 => ?_)
            · refine r_iconst K dX7_alone_71 (nI 0) (by decide) ?_
              refine r_ior K dX7_alone_72 ?_
              refine r_istore_n K dX7_alone_73 rfl (by decide) (lv1 := [(2, .int ((aloT r (ix w) k) ||| (nI 0))), (3, .int (nI k)), (0, .ref h), (1, .int (nI (ix w)))]) rfl ?_
              refine r_iincN K dX7_alone_74 (n := 1) 1 rfl rfl (by decide) (lv1 := [(3, .int (nI (k + 1))), (2, .int ((aloT r (ix w) k) ||| (nI 0))), (0, .ref h), (1, .int (nI (ix w)))]) rfl ?_
              refine r_goto K dX7_alone_77 ?_
              refine r_lc (lv1 := [(3, .int (nI (k + 1))), (2, .int (aloT r (ix w) (k + 1))), (0, .ref h), (1, .int (nI (ix w)))]) (congrArg (fun zz : Int32 => ([(3, .int (nI (k + 1))), (2, .int zz), (0, .ref h), (1, .int (nI (ix w)))] : List (Nat × Value))) ((or0 _).trans (aloT_2n c33 (Int32.not_le.mpr c48)).symm)) ?_
              exact ih_L20 (k + 1) (by omega) (by omega)
            · refine r_goto K dX7_alone_51 ?_
              refine r_iconst K dX7_alone_65 (nI 1) (by decide) ?_
              refine r_iload_n K dX7_alone_66 0 rfl ?_
              refine r_ishl K dX7_alone_67 ?_
              refine r_goto K dX7_alone_68 ?_
              refine r_ior K dX7_alone_72 ?_
              refine r_istore_n K dX7_alone_73 rfl (by decide) (lv1 := [(2, .int ((aloT r (ix w) k) ||| ((nI 1) <<< ((nI k) &&& 31)))), (3, .int (nI k)), (0, .ref h), (1, .int (nI (ix w)))]) rfl ?_
              refine r_iincN K dX7_alone_74 (n := 1) 1 rfl rfl (by decide) (lv1 := [(3, .int (nI (k + 1))), (2, .int ((aloT r (ix w) k) ||| ((nI 1) <<< ((nI k) &&& 31)))), (0, .ref h), (1, .int (nI (ix w)))]) rfl ?_
              refine r_goto K dX7_alone_77 ?_
              refine r_lc (lv1 := [(3, .int (nI (k + 1))), (2, .int (aloT r (ix w) (k + 1))), (0, .ref h), (1, .int (nI (ix w)))]) (congrArg (fun zz : Int32 => ([(3, .int (nI (k + 1))), (2, .int zz), (0, .ref h), (1, .int (nI (ix w)))] : List (Nat × Value))) ((aloT_2t c33 (Int32.not_lt.mp c48)).symm)) ?_
              exact ih_L20 (k + 1) (by omega) (by omega)
    refine r_lc (lv1 := [(3, .int (nI 0)), (2, .int (aloT r (ix w) 0)), (0, .ref h), (1, .int (nI (ix w)))]) (by unfold aloT; split <;> rfl) ?_
    exact L20 _ 0 (Nat.zero_le _) (Nat.lt_succ_self _)
  · refine r_aload_n K dX7_alone_9 0 rfl ?_
    refine r_bipush K dX7_alone_10 ((-2)) (by decide) ?_
    refine r_cVd K dX7_alone_12 (c_X7_no l Γ h a hi lm rm pc bi sd rf (-2) (okR_2)) mX7_no q813 rfl (by decide) rfl rfl 3 rfl [0, 2] [1] rfl rfl [eI Γ (a 0) 42 r] rfl [mo h a hi lm rm pc bi sd, eI Γ (a 0) 42 r, eI Γ (a 6) 7 (nof rf (-2))] rfl rfl rfl [] rfl (Nat.le_of_ble_eq_true rfl) ?_
    have he : eIs w (nI 0) (nI 2) = (-2) := by
      unfold eIs
      rw [if_pos (nt c6)]
    refine r_arr K (f2 := chE (eIs w (nI 0) (nI 2)) rf (nof rf (eIs w (nI 0) (nI 2)))) (ws1 := [mo h a hi lm rm pc bi sd, eI Γ (a 0) 42 r, eI Γ (a 6) 7 (chE (eIs w (nI 0) (nI 2)) rf (nof rf (eIs w (nI 0) (nI 2))))]) 2 rfl (fun _ _ => by rw [ch_n (g := nof rf) he (by decide)]) rfl ?_
    exact hR () dX7_alone_15 (trivial) (e_ri (ex_n he (by decide))) (weq.rf)
set_option maxHeartbeats 1000000 in
set_option maxRecDepth 20000 in
theorem c_X7_level (l : Launch) (Γ : eG) (h : Nat) (a : Nat → Nat) (hi : Bool) (lm : Nat) (rm : Nat) (pc : Nat) (bi : Int32) (sd : Int32) (r : Nat → Int32) (hI : Inv r) : cD l Γ yX7_level cX7_level 1 (some .int) 2 [.ref h] [mo h a hi lm rm pc bi sd, eI Γ (a 0) 42 r] (some (.int (aLevel r))) [mo h a hi lm rm pc bi sd, eI Γ (a 0) 42 r] := by
  refine e_int [(0, .ref h)] (by decide +kernel) (Nat.le_of_ble_eq_true rfl) rfl (fun V K hR => ?_)
  have h5 := hI.g
  have h6 := hI.m
  refine r_aload_n K dX7_level_0 0 rfl ?_
  refine r_get K dX7_level_1 (kf := 0) 0 rfl rfl hinX7 (by decide) q757 rfl rfl ?_
  refine r_iconst K dX7_level_4 (nI 0) (by decide) ?_
  refine r_aldN K dX7_level_5 1 rfl (by first | omega | exact iG_lt (by omega) (by decide) | exact iM_lt (by omega) (by decide)) (by decide) ?_
  refine r_top (y := nI (nG r)) (hI.r0) ?_
  refine r_if_neN K dX7_level_6 (by omega) (fun c6 => ?_) (fun c6 => ?_)
  · refine r_aload_n K dX7_level_13 0 rfl ?_
    refine r_get K dX7_level_14 (kf := 0) 0 rfl rfl hinX7 (by decide) q757 rfl rfl ?_
    refine r_aload_n K dX7_level_17 0 rfl ?_
    refine r_iconst K dX7_level_18 (nI 1) (by decide) ?_
    refine r_cVd K dX7_level_19 (c_X7_extreme1 l Γ h a hi lm rm pc bi sd r (hI)) mX7_extreme q974 rfl (by decide) rfl rfl 2 rfl [0, 1] [] rfl rfl [] rfl [mo h a hi lm rm pc bi sd, eI Γ (a 0) 42 r] rfl rfl rfl [.ref (a 0)] rfl (Nat.le_of_ble_eq_true rfl) ?_
    obtain ⟨j, hj, ej⟩ := (exF_cases r true (nG r)).resolve_left (exF_ne (by omega))
    refine r_top (y := nI j) (ej) ?_
    refine r_iconst K dX7_level_22 (nI 1) (by decide) ?_
    refine r_cSd K dX7_level_23 (c_X7_ofG l Γ j 1) mX7_ofG q850 rfl (by decide) 2 rfl [] [0, 1] rfl rfl [mo h a hi lm rm pc bi sd, eI Γ (a 0) 42 r] rfl [mo h a hi lm rm pc bi sd, eI Γ (a 0) 42 r] rfl rfl rfl [.ref (a 0)] rfl (Nat.le_of_ble_eq_true rfl) ?_
    refine r_aldN K dX7_level_26 1 rfl (by first | omega | exact iG_lt (by omega) (by decide) | exact iM_lt (by omega) (by decide)) (by decide) ?_
    refine r_aload_n K dX7_level_27 0 rfl ?_
    refine r_get K dX7_level_28 (kf := 0) 0 rfl rfl hinX7 (by decide) q757 rfl rfl ?_
    refine r_aload_n K dX7_level_31 0 rfl ?_
    refine r_iconst K dX7_level_32 ((-1)) (by decide) ?_
    refine r_cVd K dX7_level_33 (c_X7_extremeM l Γ h a hi lm rm pc bi sd r (hI)) mX7_extreme q974 rfl (by decide) rfl rfl 2 rfl [0, 1] [] rfl rfl [] rfl [mo h a hi lm rm pc bi sd, eI Γ (a 0) 42 r] rfl rfl rfl [.ref (a 0), .int (r (iG j 1))] rfl (Nat.le_of_ble_eq_true rfl) ?_
    obtain ⟨i, hil, ei⟩ := (exF_cases r false (nG r)).resolve_left (exF_ne (by omega))
    refine r_top (y := nI i) (ei) ?_
    refine r_iconst K dX7_level_36 (nI 1) (by decide) ?_
    refine r_cSd K dX7_level_37 (c_X7_ofG l Γ i 1) mX7_ofG q850 rfl (by decide) 2 rfl [] [0, 1] rfl rfl [mo h a hi lm rm pc bi sd, eI Γ (a 0) 42 r] rfl [mo h a hi lm rm pc bi sd, eI Γ (a 0) 42 r] rfl rfl rfl [.ref (a 0), .int (r (iG j 1))] rfl (Nat.le_of_ble_eq_true rfl) ?_
    refine r_aldN K dX7_level_40 1 rfl (by first | omega | exact iG_lt (by omega) (by decide) | exact iM_lt (by omega) (by decide)) (by decide) ?_
    refine r_isub K dX7_level_41 ?_
    exact hR () dX7_level_42 (trivial) (e_ri (by unfold aLevel; rw [if_neg c6, ej, ei, ix_nI (by omega), ix_nI (by omega)])) (weq.rf)
  · refine r_iconst K dX7_level_9 (nI 0) (by decide) ?_
    refine r_goto K dX7_level_10 ?_
    exact hR () dX7_level_42 (trivial) (e_ri (by unfold aLevel; rw [if_pos c6])) (weq.rf)
set_option maxHeartbeats 1000000 in
set_option maxRecDepth 20000 in
theorem c_X7_ownBy (l : Launch) (Γ : eG) (h : Nat) (a : Nat → Nat) (hi : Bool) (lm : Nat) (rm : Nat) (pc : Nat) (bi : Int32) (sd : Int32) (r : Nat → Int32) (q : Nat → Int32) (o : Nat) (p : Nat) (x : Nat) (b : Nat) (y : Nat) (n : Nat) (g : Nat) (hI : Inv r) (ho : o < nM r) (hp : p < nM r) (hb : b < nM r) (hx : x < 2 ^ 20) (hy : y < 2 ^ 20) (hn : n < 2 ^ 31) (hg : g < nG r) (hat : r (iM o 3) = nI g) : cD l Γ yX7_ownBy cX7_ownBy 8 (some .int) 4 [.ref h, .int (nI o), .int (nI p), .int (nI x), .int (nI b), .int (nI y), .int (nI n)] [mo h a hi lm rm pc bi sd, eI Γ (a 0) 42 r, eI Γ (a 1) 42 q] (some (.int (owR r o p x b y n g))) [mo h a hi lm rm pc bi sd, eI Γ (a 0) 42 r, eI Γ (a 1) 42 (daysS (gnT r p (decide (x = 1)) b (decide (y = 1))) n)] := by
  refine e_int [(0, .ref h), (1, .int (nI o)), (2, .int (nI p)), (3, .int (nI x)), (4, .int (nI b)), (5, .int (nI y)), (6, .int (nI n))] (by decide +kernel) (Nat.le_of_ble_eq_true rfl) rfl (fun V K hR => ?_)
  have h5 := hI.g
  have h6 := hI.m
  have hGI : Inv (gnT r p (decide (x = 1)) b (decide (y = 1))) := Inv_gnT hI hp hb
  refine r_aload_n K dX7_ownBy_0 0 rfl ?_
  refine r_get K dX7_ownBy_1 (kf := 0) 0 rfl rfl hinX7 (by decide) q757 rfl rfl ?_
  refine r_aload_n K dX7_ownBy_4 0 rfl ?_
  refine r_get K dX7_ownBy_5 (kf := 1) 0 rfl rfl hinX7 (by decide) q758 rfl rfl ?_
  refine r_cSn K dX7_ownBy_8 (c_X7_copies l Γ (a 0) (a 1) r q) mX7_copies q843 rfl (by decide) 3 rfl [1, 2] [0] rfl rfl [mo h a hi lm rm pc bi sd] rfl [mo h a hi lm rm pc bi sd, eI Γ (a 0) 42 r, eI Γ (a 1) 42 r] rfl rfl rfl [] rfl (Nat.le_of_ble_eq_true rfl) ?_
  refine r_iload_n K dX7_ownBy_11 3 rfl ?_
  refine r_iconst K dX7_ownBy_12 (nI 1) (by decide) ?_
  refine r_ic_neN K dX7_ownBy_13 (by omega) (by omega) (fun c13 => ?_) (fun c13 => ?_)
  · refine r_iload K dX7_ownBy_24 5 rfl ?_
    refine r_iconst K dX7_ownBy_26 (nI 1) (by decide) ?_
    refine r_ic_neN K dX7_ownBy_27 (by omega) (by omega) (fun c27 => ?_) (fun c27 => ?_)
    · refine r_arr K (f2 := gnT r p (decide (x = 1)) b (decide (y = 1))) (ws1 := [mo h a hi lm rm pc bi sd, eI Γ (a 0) 42 r, eI Γ (a 1) 42 (gnT r p (decide (x = 1)) b (decide (y = 1)))]) 2 rfl (fun _ _ => by rw [decide_eq_false c13, decide_eq_false c27]; simp only [gnT, if_pos, if_neg, Bool.false_eq_true, if_false, if_true]) rfl ?_
      refine r_aload_n K dX7_ownBy_39 0 rfl ?_
      refine r_get K dX7_ownBy_40 (kf := 1) 0 rfl rfl hinX7 (by decide) q758 rfl rfl ?_
      refine r_iload K dX7_ownBy_43 6 rfl ?_
      refine r_cSn K dX7_ownBy_45 (c_X7_daysOn l Γ (a 1) (gnT r p (decide (x = 1)) b (decide (y = 1))) n (hGI) (by first | assumption | omega)) mX7_daysOn q873 rfl (by decide) 3 rfl [2] [0, 1] rfl rfl [mo h a hi lm rm pc bi sd, eI Γ (a 0) 42 r] rfl [mo h a hi lm rm pc bi sd, eI Γ (a 0) 42 r, eI Γ (a 1) 42 (daysS (gnT r p (decide (x = 1)) b (decide (y = 1))) n)] rfl rfl rfl [] rfl (Nat.le_of_ble_eq_true rfl) ?_
      refine r_aload_n K dX7_ownBy_48 0 rfl ?_
      refine r_get K dX7_ownBy_49 (kf := 0) 0 rfl rfl hinX7 (by decide) q757 rfl rfl ?_
      refine r_iload_n K dX7_ownBy_52 1 rfl ?_
      refine r_iconst K dX7_ownBy_53 (nI 3) (by decide) ?_
      refine r_cSd K dX7_ownBy_54 (c_X7_ofM l Γ o 3) mX7_ofM q853 rfl (by decide) 3 rfl [] [0, 1, 2] rfl rfl [mo h a hi lm rm pc bi sd, eI Γ (a 0) 42 r, eI Γ (a 1) 42 (daysS (gnT r p (decide (x = 1)) b (decide (y = 1))) n)] rfl [mo h a hi lm rm pc bi sd, eI Γ (a 0) 42 r, eI Γ (a 1) 42 (daysS (gnT r p (decide (x = 1)) b (decide (y = 1))) n)] rfl rfl rfl [.ref (a 0)] rfl (Nat.le_of_ble_eq_true rfl) ?_
      refine r_aldN K dX7_ownBy_57 1 rfl (by first | omega | exact iG_lt (by omega) (by decide) | exact iM_lt (by omega) (by decide)) (by decide) ?_
      refine r_top (y := nI g) (hat) ?_
      refine r_istore K dX7_ownBy_58 (by decide) (lv1 := [(7, .int (nI g)), (0, .ref h), (1, .int (nI o)), (2, .int (nI p)), (3, .int (nI x)), (4, .int (nI b)), (5, .int (nI y)), (6, .int (nI n))]) rfl ?_
      refine r_aload_n K dX7_ownBy_60 1 rfl ?_
      refine r_get K dX7_ownBy_61 (kf := 1) 0 rfl rfl hinX7 (by decide) q758 rfl rfl ?_
      refine r_iload K dX7_ownBy_64 0 rfl ?_
      refine r_iconst K dX7_ownBy_66 (nI 1) (by decide) ?_
      refine r_cSd K dX7_ownBy_67 (c_X7_ofG l Γ g 1) mX7_ofG q850 rfl (by decide) 3 rfl [] [0, 1, 2] rfl rfl [mo h a hi lm rm pc bi sd, eI Γ (a 0) 42 r, eI Γ (a 1) 42 (daysS (gnT r p (decide (x = 1)) b (decide (y = 1))) n)] rfl [mo h a hi lm rm pc bi sd, eI Γ (a 0) 42 r, eI Γ (a 1) 42 (daysS (gnT r p (decide (x = 1)) b (decide (y = 1))) n)] rfl rfl rfl [.ref (a 1)] rfl (Nat.le_of_ble_eq_true rfl) ?_
      refine r_aldN K dX7_ownBy_70 2 rfl (by first | omega | exact iG_lt (by omega) (by decide) | exact iM_lt (by omega) (by decide)) (by decide) ?_
      refine r_aload_n K dX7_ownBy_71 1 rfl ?_
      refine r_get K dX7_ownBy_72 (kf := 0) 0 rfl rfl hinX7 (by decide) q757 rfl rfl ?_
      refine r_iload K dX7_ownBy_75 0 rfl ?_
      refine r_iconst K dX7_ownBy_77 (nI 1) (by decide) ?_
      refine r_cSd K dX7_ownBy_78 (c_X7_ofG l Γ g 1) mX7_ofG q850 rfl (by decide) 3 rfl [] [0, 1, 2] rfl rfl [mo h a hi lm rm pc bi sd, eI Γ (a 0) 42 r, eI Γ (a 1) 42 (daysS (gnT r p (decide (x = 1)) b (decide (y = 1))) n)] rfl [mo h a hi lm rm pc bi sd, eI Γ (a 0) 42 r, eI Γ (a 1) 42 (daysS (gnT r p (decide (x = 1)) b (decide (y = 1))) n)] rfl rfl rfl [.ref (a 0), .int ((daysS (gnT r p (decide (x = 1)) b (decide (y = 1))) n) (iG g 1))] rfl (Nat.le_of_ble_eq_true rfl) ?_
      refine r_aldN K dX7_ownBy_81 1 rfl (by first | omega | exact iG_lt (by omega) (by decide) | exact iM_lt (by omega) (by decide)) (by decide) ?_
      refine r_isub K dX7_ownBy_82 ?_
      refine r_iconst K dX7_ownBy_83 (nI 2) (by decide) ?_
      refine r_iload_n K dX7_ownBy_84 2 rfl ?_
      refine r_iload_n K dX7_ownBy_85 3 rfl ?_
      refine r_ic_neN K dX7_ownBy_86 (by omega) (by omega) (fun c86 => ?_) (fun c86 => ?_)
      · refine r_iload K dX7_ownBy_93 6 rfl ?_
        refine r_imulN K dX7_ownBy_95 ?_
        refine r_isub K dX7_ownBy_96 ?_
        exact hR () dX7_ownBy_97 (trivial) (e_ri (by unfold owR; rw [if_neg c86])) (weq.rf)
      · refine r_iload_n K dX7_ownBy_89 4 rfl ?_
        refine r_goto K dX7_ownBy_90 ?_
        refine r_imulN K dX7_ownBy_95 ?_
        refine r_isub K dX7_ownBy_96 ?_
        exact hR () dX7_ownBy_97 (trivial) (e_ri (by unfold owR; rw [if_pos c86])) (weq.rf)
    · refine r_aload_n K dX7_ownBy_30 0 rfl ?_
      refine r_get K dX7_ownBy_31 (kf := 1) 0 rfl rfl hinX7 (by decide) q758 rfl rfl ?_
      refine r_iload K dX7_ownBy_34 4 rfl ?_
      refine r_cSn K dX7_ownBy_36 (c_X7_isTold l Γ (a 1) r b (by first | assumption | omega)) mX7_isTold q864 rfl (by decide) 3 rfl [2] [0, 1] rfl rfl [mo h a hi lm rm pc bi sd, eI Γ (a 0) 42 r] rfl [mo h a hi lm rm pc bi sd, eI Γ (a 0) 42 r, eI Γ (a 1) 42 (tellS r b)] rfl rfl rfl [] rfl (Nat.le_of_ble_eq_true rfl) ?_
      refine r_arr K (f2 := gnT r p (decide (x = 1)) b (decide (y = 1))) (ws1 := [mo h a hi lm rm pc bi sd, eI Γ (a 0) 42 r, eI Γ (a 1) 42 (gnT r p (decide (x = 1)) b (decide (y = 1)))]) 2 rfl (fun _ _ => by rw [decide_eq_false c13, decide_eq_true c27]; simp only [gnT, if_pos, if_neg, Bool.false_eq_true, if_false, if_true]) rfl ?_
      refine r_aload_n K dX7_ownBy_39 0 rfl ?_
      refine r_get K dX7_ownBy_40 (kf := 1) 0 rfl rfl hinX7 (by decide) q758 rfl rfl ?_
      refine r_iload K dX7_ownBy_43 6 rfl ?_
      refine r_cSn K dX7_ownBy_45 (c_X7_daysOn l Γ (a 1) (gnT r p (decide (x = 1)) b (decide (y = 1))) n (hGI) (by first | assumption | omega)) mX7_daysOn q873 rfl (by decide) 3 rfl [2] [0, 1] rfl rfl [mo h a hi lm rm pc bi sd, eI Γ (a 0) 42 r] rfl [mo h a hi lm rm pc bi sd, eI Γ (a 0) 42 r, eI Γ (a 1) 42 (daysS (gnT r p (decide (x = 1)) b (decide (y = 1))) n)] rfl rfl rfl [] rfl (Nat.le_of_ble_eq_true rfl) ?_
      refine r_aload_n K dX7_ownBy_48 0 rfl ?_
      refine r_get K dX7_ownBy_49 (kf := 0) 0 rfl rfl hinX7 (by decide) q757 rfl rfl ?_
      refine r_iload_n K dX7_ownBy_52 1 rfl ?_
      refine r_iconst K dX7_ownBy_53 (nI 3) (by decide) ?_
      refine r_cSd K dX7_ownBy_54 (c_X7_ofM l Γ o 3) mX7_ofM q853 rfl (by decide) 3 rfl [] [0, 1, 2] rfl rfl [mo h a hi lm rm pc bi sd, eI Γ (a 0) 42 r, eI Γ (a 1) 42 (daysS (gnT r p (decide (x = 1)) b (decide (y = 1))) n)] rfl [mo h a hi lm rm pc bi sd, eI Γ (a 0) 42 r, eI Γ (a 1) 42 (daysS (gnT r p (decide (x = 1)) b (decide (y = 1))) n)] rfl rfl rfl [.ref (a 0)] rfl (Nat.le_of_ble_eq_true rfl) ?_
      refine r_aldN K dX7_ownBy_57 1 rfl (by first | omega | exact iG_lt (by omega) (by decide) | exact iM_lt (by omega) (by decide)) (by decide) ?_
      refine r_top (y := nI g) (hat) ?_
      refine r_istore K dX7_ownBy_58 (by decide) (lv1 := [(7, .int (nI g)), (0, .ref h), (1, .int (nI o)), (2, .int (nI p)), (3, .int (nI x)), (4, .int (nI b)), (5, .int (nI y)), (6, .int (nI n))]) rfl ?_
      refine r_aload_n K dX7_ownBy_60 1 rfl ?_
      refine r_get K dX7_ownBy_61 (kf := 1) 0 rfl rfl hinX7 (by decide) q758 rfl rfl ?_
      refine r_iload K dX7_ownBy_64 0 rfl ?_
      refine r_iconst K dX7_ownBy_66 (nI 1) (by decide) ?_
      refine r_cSd K dX7_ownBy_67 (c_X7_ofG l Γ g 1) mX7_ofG q850 rfl (by decide) 3 rfl [] [0, 1, 2] rfl rfl [mo h a hi lm rm pc bi sd, eI Γ (a 0) 42 r, eI Γ (a 1) 42 (daysS (gnT r p (decide (x = 1)) b (decide (y = 1))) n)] rfl [mo h a hi lm rm pc bi sd, eI Γ (a 0) 42 r, eI Γ (a 1) 42 (daysS (gnT r p (decide (x = 1)) b (decide (y = 1))) n)] rfl rfl rfl [.ref (a 1)] rfl (Nat.le_of_ble_eq_true rfl) ?_
      refine r_aldN K dX7_ownBy_70 2 rfl (by first | omega | exact iG_lt (by omega) (by decide) | exact iM_lt (by omega) (by decide)) (by decide) ?_
      refine r_aload_n K dX7_ownBy_71 1 rfl ?_
      refine r_get K dX7_ownBy_72 (kf := 0) 0 rfl rfl hinX7 (by decide) q757 rfl rfl ?_
      refine r_iload K dX7_ownBy_75 0 rfl ?_
      refine r_iconst K dX7_ownBy_77 (nI 1) (by decide) ?_
      refine r_cSd K dX7_ownBy_78 (c_X7_ofG l Γ g 1) mX7_ofG q850 rfl (by decide) 3 rfl [] [0, 1, 2] rfl rfl [mo h a hi lm rm pc bi sd, eI Γ (a 0) 42 r, eI Γ (a 1) 42 (daysS (gnT r p (decide (x = 1)) b (decide (y = 1))) n)] rfl [mo h a hi lm rm pc bi sd, eI Γ (a 0) 42 r, eI Γ (a 1) 42 (daysS (gnT r p (decide (x = 1)) b (decide (y = 1))) n)] rfl rfl rfl [.ref (a 0), .int ((daysS (gnT r p (decide (x = 1)) b (decide (y = 1))) n) (iG g 1))] rfl (Nat.le_of_ble_eq_true rfl) ?_
      refine r_aldN K dX7_ownBy_81 1 rfl (by first | omega | exact iG_lt (by omega) (by decide) | exact iM_lt (by omega) (by decide)) (by decide) ?_
      refine r_isub K dX7_ownBy_82 ?_
      refine r_iconst K dX7_ownBy_83 (nI 2) (by decide) ?_
      refine r_iload_n K dX7_ownBy_84 2 rfl ?_
      refine r_iload_n K dX7_ownBy_85 3 rfl ?_
      refine r_ic_neN K dX7_ownBy_86 (by omega) (by omega) (fun c86 => ?_) (fun c86 => ?_)
      · refine r_iload K dX7_ownBy_93 6 rfl ?_
        refine r_imulN K dX7_ownBy_95 ?_
        refine r_isub K dX7_ownBy_96 ?_
        exact hR () dX7_ownBy_97 (trivial) (e_ri (by unfold owR; rw [if_neg c86])) (weq.rf)
      · refine r_iload_n K dX7_ownBy_89 4 rfl ?_
        refine r_goto K dX7_ownBy_90 ?_
        refine r_imulN K dX7_ownBy_95 ?_
        refine r_isub K dX7_ownBy_96 ?_
        exact hR () dX7_ownBy_97 (trivial) (e_ri (by unfold owR; rw [if_pos c86])) (weq.rf)
  · refine r_aload_n K dX7_ownBy_16 0 rfl ?_
    refine r_get K dX7_ownBy_17 (kf := 1) 0 rfl rfl hinX7 (by decide) q758 rfl rfl ?_
    refine r_iload_n K dX7_ownBy_20 2 rfl ?_
    refine r_cSn K dX7_ownBy_21 (c_X7_isTold l Γ (a 1) r p (by first | assumption | omega)) mX7_isTold q864 rfl (by decide) 3 rfl [2] [0, 1] rfl rfl [mo h a hi lm rm pc bi sd, eI Γ (a 0) 42 r] rfl [mo h a hi lm rm pc bi sd, eI Γ (a 0) 42 r, eI Γ (a 1) 42 (tellS r p)] rfl rfl rfl [] rfl (Nat.le_of_ble_eq_true rfl) ?_
    refine r_iload K dX7_ownBy_24 5 rfl ?_
    refine r_iconst K dX7_ownBy_26 (nI 1) (by decide) ?_
    refine r_ic_neN K dX7_ownBy_27 (by omega) (by omega) (fun c27 => ?_) (fun c27 => ?_)
    · refine r_arr K (f2 := gnT r p (decide (x = 1)) b (decide (y = 1))) (ws1 := [mo h a hi lm rm pc bi sd, eI Γ (a 0) 42 r, eI Γ (a 1) 42 (gnT r p (decide (x = 1)) b (decide (y = 1)))]) 2 rfl (fun _ _ => by rw [decide_eq_true c13, decide_eq_false c27]; simp only [gnT, if_pos, if_neg, Bool.false_eq_true, if_false, if_true]) rfl ?_
      refine r_aload_n K dX7_ownBy_39 0 rfl ?_
      refine r_get K dX7_ownBy_40 (kf := 1) 0 rfl rfl hinX7 (by decide) q758 rfl rfl ?_
      refine r_iload K dX7_ownBy_43 6 rfl ?_
      refine r_cSn K dX7_ownBy_45 (c_X7_daysOn l Γ (a 1) (gnT r p (decide (x = 1)) b (decide (y = 1))) n (hGI) (by first | assumption | omega)) mX7_daysOn q873 rfl (by decide) 3 rfl [2] [0, 1] rfl rfl [mo h a hi lm rm pc bi sd, eI Γ (a 0) 42 r] rfl [mo h a hi lm rm pc bi sd, eI Γ (a 0) 42 r, eI Γ (a 1) 42 (daysS (gnT r p (decide (x = 1)) b (decide (y = 1))) n)] rfl rfl rfl [] rfl (Nat.le_of_ble_eq_true rfl) ?_
      refine r_aload_n K dX7_ownBy_48 0 rfl ?_
      refine r_get K dX7_ownBy_49 (kf := 0) 0 rfl rfl hinX7 (by decide) q757 rfl rfl ?_
      refine r_iload_n K dX7_ownBy_52 1 rfl ?_
      refine r_iconst K dX7_ownBy_53 (nI 3) (by decide) ?_
      refine r_cSd K dX7_ownBy_54 (c_X7_ofM l Γ o 3) mX7_ofM q853 rfl (by decide) 3 rfl [] [0, 1, 2] rfl rfl [mo h a hi lm rm pc bi sd, eI Γ (a 0) 42 r, eI Γ (a 1) 42 (daysS (gnT r p (decide (x = 1)) b (decide (y = 1))) n)] rfl [mo h a hi lm rm pc bi sd, eI Γ (a 0) 42 r, eI Γ (a 1) 42 (daysS (gnT r p (decide (x = 1)) b (decide (y = 1))) n)] rfl rfl rfl [.ref (a 0)] rfl (Nat.le_of_ble_eq_true rfl) ?_
      refine r_aldN K dX7_ownBy_57 1 rfl (by first | omega | exact iG_lt (by omega) (by decide) | exact iM_lt (by omega) (by decide)) (by decide) ?_
      refine r_top (y := nI g) (hat) ?_
      refine r_istore K dX7_ownBy_58 (by decide) (lv1 := [(7, .int (nI g)), (0, .ref h), (1, .int (nI o)), (2, .int (nI p)), (3, .int (nI x)), (4, .int (nI b)), (5, .int (nI y)), (6, .int (nI n))]) rfl ?_
      refine r_aload_n K dX7_ownBy_60 1 rfl ?_
      refine r_get K dX7_ownBy_61 (kf := 1) 0 rfl rfl hinX7 (by decide) q758 rfl rfl ?_
      refine r_iload K dX7_ownBy_64 0 rfl ?_
      refine r_iconst K dX7_ownBy_66 (nI 1) (by decide) ?_
      refine r_cSd K dX7_ownBy_67 (c_X7_ofG l Γ g 1) mX7_ofG q850 rfl (by decide) 3 rfl [] [0, 1, 2] rfl rfl [mo h a hi lm rm pc bi sd, eI Γ (a 0) 42 r, eI Γ (a 1) 42 (daysS (gnT r p (decide (x = 1)) b (decide (y = 1))) n)] rfl [mo h a hi lm rm pc bi sd, eI Γ (a 0) 42 r, eI Γ (a 1) 42 (daysS (gnT r p (decide (x = 1)) b (decide (y = 1))) n)] rfl rfl rfl [.ref (a 1)] rfl (Nat.le_of_ble_eq_true rfl) ?_
      refine r_aldN K dX7_ownBy_70 2 rfl (by first | omega | exact iG_lt (by omega) (by decide) | exact iM_lt (by omega) (by decide)) (by decide) ?_
      refine r_aload_n K dX7_ownBy_71 1 rfl ?_
      refine r_get K dX7_ownBy_72 (kf := 0) 0 rfl rfl hinX7 (by decide) q757 rfl rfl ?_
      refine r_iload K dX7_ownBy_75 0 rfl ?_
      refine r_iconst K dX7_ownBy_77 (nI 1) (by decide) ?_
      refine r_cSd K dX7_ownBy_78 (c_X7_ofG l Γ g 1) mX7_ofG q850 rfl (by decide) 3 rfl [] [0, 1, 2] rfl rfl [mo h a hi lm rm pc bi sd, eI Γ (a 0) 42 r, eI Γ (a 1) 42 (daysS (gnT r p (decide (x = 1)) b (decide (y = 1))) n)] rfl [mo h a hi lm rm pc bi sd, eI Γ (a 0) 42 r, eI Γ (a 1) 42 (daysS (gnT r p (decide (x = 1)) b (decide (y = 1))) n)] rfl rfl rfl [.ref (a 0), .int ((daysS (gnT r p (decide (x = 1)) b (decide (y = 1))) n) (iG g 1))] rfl (Nat.le_of_ble_eq_true rfl) ?_
      refine r_aldN K dX7_ownBy_81 1 rfl (by first | omega | exact iG_lt (by omega) (by decide) | exact iM_lt (by omega) (by decide)) (by decide) ?_
      refine r_isub K dX7_ownBy_82 ?_
      refine r_iconst K dX7_ownBy_83 (nI 2) (by decide) ?_
      refine r_iload_n K dX7_ownBy_84 2 rfl ?_
      refine r_iload_n K dX7_ownBy_85 3 rfl ?_
      refine r_ic_neN K dX7_ownBy_86 (by omega) (by omega) (fun c86 => ?_) (fun c86 => ?_)
      · refine r_iload K dX7_ownBy_93 6 rfl ?_
        refine r_imulN K dX7_ownBy_95 ?_
        refine r_isub K dX7_ownBy_96 ?_
        exact hR () dX7_ownBy_97 (trivial) (e_ri (by unfold owR; rw [if_neg c86])) (weq.rf)
      · refine r_iload_n K dX7_ownBy_89 4 rfl ?_
        refine r_goto K dX7_ownBy_90 ?_
        refine r_imulN K dX7_ownBy_95 ?_
        refine r_isub K dX7_ownBy_96 ?_
        exact hR () dX7_ownBy_97 (trivial) (e_ri (by unfold owR; rw [if_pos c86])) (weq.rf)
    · refine r_aload_n K dX7_ownBy_30 0 rfl ?_
      refine r_get K dX7_ownBy_31 (kf := 1) 0 rfl rfl hinX7 (by decide) q758 rfl rfl ?_
      refine r_iload K dX7_ownBy_34 4 rfl ?_
      refine r_cSn K dX7_ownBy_36 (c_X7_isTold l Γ (a 1) (tellS r p) b (by first | assumption | omega)) mX7_isTold q864 rfl (by decide) 3 rfl [2] [0, 1] rfl rfl [mo h a hi lm rm pc bi sd, eI Γ (a 0) 42 r] rfl [mo h a hi lm rm pc bi sd, eI Γ (a 0) 42 r, eI Γ (a 1) 42 (tellS (tellS r p) b)] rfl rfl rfl [] rfl (Nat.le_of_ble_eq_true rfl) ?_
      refine r_arr K (f2 := gnT r p (decide (x = 1)) b (decide (y = 1))) (ws1 := [mo h a hi lm rm pc bi sd, eI Γ (a 0) 42 r, eI Γ (a 1) 42 (gnT r p (decide (x = 1)) b (decide (y = 1)))]) 2 rfl (fun _ _ => by rw [decide_eq_true c13, decide_eq_true c27]; simp only [gnT, if_pos, if_neg, Bool.false_eq_true, if_false, if_true]) rfl ?_
      refine r_aload_n K dX7_ownBy_39 0 rfl ?_
      refine r_get K dX7_ownBy_40 (kf := 1) 0 rfl rfl hinX7 (by decide) q758 rfl rfl ?_
      refine r_iload K dX7_ownBy_43 6 rfl ?_
      refine r_cSn K dX7_ownBy_45 (c_X7_daysOn l Γ (a 1) (gnT r p (decide (x = 1)) b (decide (y = 1))) n (hGI) (by first | assumption | omega)) mX7_daysOn q873 rfl (by decide) 3 rfl [2] [0, 1] rfl rfl [mo h a hi lm rm pc bi sd, eI Γ (a 0) 42 r] rfl [mo h a hi lm rm pc bi sd, eI Γ (a 0) 42 r, eI Γ (a 1) 42 (daysS (gnT r p (decide (x = 1)) b (decide (y = 1))) n)] rfl rfl rfl [] rfl (Nat.le_of_ble_eq_true rfl) ?_
      refine r_aload_n K dX7_ownBy_48 0 rfl ?_
      refine r_get K dX7_ownBy_49 (kf := 0) 0 rfl rfl hinX7 (by decide) q757 rfl rfl ?_
      refine r_iload_n K dX7_ownBy_52 1 rfl ?_
      refine r_iconst K dX7_ownBy_53 (nI 3) (by decide) ?_
      refine r_cSd K dX7_ownBy_54 (c_X7_ofM l Γ o 3) mX7_ofM q853 rfl (by decide) 3 rfl [] [0, 1, 2] rfl rfl [mo h a hi lm rm pc bi sd, eI Γ (a 0) 42 r, eI Γ (a 1) 42 (daysS (gnT r p (decide (x = 1)) b (decide (y = 1))) n)] rfl [mo h a hi lm rm pc bi sd, eI Γ (a 0) 42 r, eI Γ (a 1) 42 (daysS (gnT r p (decide (x = 1)) b (decide (y = 1))) n)] rfl rfl rfl [.ref (a 0)] rfl (Nat.le_of_ble_eq_true rfl) ?_
      refine r_aldN K dX7_ownBy_57 1 rfl (by first | omega | exact iG_lt (by omega) (by decide) | exact iM_lt (by omega) (by decide)) (by decide) ?_
      refine r_top (y := nI g) (hat) ?_
      refine r_istore K dX7_ownBy_58 (by decide) (lv1 := [(7, .int (nI g)), (0, .ref h), (1, .int (nI o)), (2, .int (nI p)), (3, .int (nI x)), (4, .int (nI b)), (5, .int (nI y)), (6, .int (nI n))]) rfl ?_
      refine r_aload_n K dX7_ownBy_60 1 rfl ?_
      refine r_get K dX7_ownBy_61 (kf := 1) 0 rfl rfl hinX7 (by decide) q758 rfl rfl ?_
      refine r_iload K dX7_ownBy_64 0 rfl ?_
      refine r_iconst K dX7_ownBy_66 (nI 1) (by decide) ?_
      refine r_cSd K dX7_ownBy_67 (c_X7_ofG l Γ g 1) mX7_ofG q850 rfl (by decide) 3 rfl [] [0, 1, 2] rfl rfl [mo h a hi lm rm pc bi sd, eI Γ (a 0) 42 r, eI Γ (a 1) 42 (daysS (gnT r p (decide (x = 1)) b (decide (y = 1))) n)] rfl [mo h a hi lm rm pc bi sd, eI Γ (a 0) 42 r, eI Γ (a 1) 42 (daysS (gnT r p (decide (x = 1)) b (decide (y = 1))) n)] rfl rfl rfl [.ref (a 1)] rfl (Nat.le_of_ble_eq_true rfl) ?_
      refine r_aldN K dX7_ownBy_70 2 rfl (by first | omega | exact iG_lt (by omega) (by decide) | exact iM_lt (by omega) (by decide)) (by decide) ?_
      refine r_aload_n K dX7_ownBy_71 1 rfl ?_
      refine r_get K dX7_ownBy_72 (kf := 0) 0 rfl rfl hinX7 (by decide) q757 rfl rfl ?_
      refine r_iload K dX7_ownBy_75 0 rfl ?_
      refine r_iconst K dX7_ownBy_77 (nI 1) (by decide) ?_
      refine r_cSd K dX7_ownBy_78 (c_X7_ofG l Γ g 1) mX7_ofG q850 rfl (by decide) 3 rfl [] [0, 1, 2] rfl rfl [mo h a hi lm rm pc bi sd, eI Γ (a 0) 42 r, eI Γ (a 1) 42 (daysS (gnT r p (decide (x = 1)) b (decide (y = 1))) n)] rfl [mo h a hi lm rm pc bi sd, eI Γ (a 0) 42 r, eI Γ (a 1) 42 (daysS (gnT r p (decide (x = 1)) b (decide (y = 1))) n)] rfl rfl rfl [.ref (a 0), .int ((daysS (gnT r p (decide (x = 1)) b (decide (y = 1))) n) (iG g 1))] rfl (Nat.le_of_ble_eq_true rfl) ?_
      refine r_aldN K dX7_ownBy_81 1 rfl (by first | omega | exact iG_lt (by omega) (by decide) | exact iM_lt (by omega) (by decide)) (by decide) ?_
      refine r_isub K dX7_ownBy_82 ?_
      refine r_iconst K dX7_ownBy_83 (nI 2) (by decide) ?_
      refine r_iload_n K dX7_ownBy_84 2 rfl ?_
      refine r_iload_n K dX7_ownBy_85 3 rfl ?_
      refine r_ic_neN K dX7_ownBy_86 (by omega) (by omega) (fun c86 => ?_) (fun c86 => ?_)
      · refine r_iload K dX7_ownBy_93 6 rfl ?_
        refine r_imulN K dX7_ownBy_95 ?_
        refine r_isub K dX7_ownBy_96 ?_
        exact hR () dX7_ownBy_97 (trivial) (e_ri (by unfold owR; rw [if_neg c86])) (weq.rf)
      · refine r_iload_n K dX7_ownBy_89 4 rfl ?_
        refine r_goto K dX7_ownBy_90 ?_
        refine r_imulN K dX7_ownBy_95 ?_
        refine r_isub K dX7_ownBy_96 ?_
        exact hR () dX7_ownBy_97 (trivial) (e_ri (by unfold owR; rw [if_pos c86])) (weq.rf)
set_option maxHeartbeats 1000000 in
set_option maxRecDepth 20000 in
theorem c_X7_two (l : Launch) (Γ : eG) (h : Nat) (a : Nat → Nat) (hi : Bool) (lm : Nat) (rm : Nat) (pc : Nat) (bi : Int32) (sd : Int32) (r : Nat → Int32) (q : Nat → Int32) (rf : Nat → Int32) (x : Int32) (y : Int32) (n : Int32) (hI : Inv r) : cE l Γ yX7_two cX7_two 8 (some .int) 5 [.ref h, .int x, .int y, .int n] [mo h a hi lm rm pc bi sd, eI Γ (a 0) 42 r, eI Γ (a 1) 42 q, eI Γ (a 6) 7 rf] (S := Nat → Int32) (fun u => True) (fun u => (some (.int (chE (eTwo r x y n) (aTwo r x y n) (eTwo r x y n))))) (fun u => [mo h a hi lm rm pc bi sd, eI Γ (a 0) 42 r, eI Γ (a 1) 42 u, eI Γ (a 6) 7 (chE (eTwo r x y n) rf (nof rf (eTwo r x y n)))]) := by
  refine e_int [(0, .ref h), (1, .int x), (2, .int y), (3, .int n)] (by decide +kernel) (Nat.le_of_ble_eq_true rfl) rfl (fun V K hR => ?_)
  have h5 := hI.g
  have h6 := hI.m
  refine r_aload_n K dX7_two_0 0 rfl ?_
  refine r_iload_n K dX7_two_1 1 rfl ?_
  refine r_cVd K dX7_two_2 (c_X7_isMourner l Γ h a hi lm rm pc bi sd r x (hI)) mX7_isMourner q856 rfl (by decide) rfl rfl 4 rfl [0, 1] [2, 3] rfl rfl [eI Γ (a 1) 42 q, eI Γ (a 6) 7 rf] rfl [mo h a hi lm rm pc bi sd, eI Γ (a 0) 42 r, eI Γ (a 1) 42 q, eI Γ (a 6) 7 rf] rfl rfl rfl [] rfl (Nat.le_of_ble_eq_true rfl) ?_
  refine r_ifeqB K dX7_two_5 (fun c5 => ?_) (fun c5 => ?_)
  · refine r_iconst K dX7_two_31 ((-1)) (by decide) ?_
    refine r_istore K dX7_two_32 (by decide) (lv1 := [(4, .int (-1)), (0, .ref h), (1, .int x), (2, .int y), (3, .int n)]) rfl ?_
    refine r_iload K dX7_two_34 0 rfl ?_
    refine r_if_ne K dX7_two_36 (fun c36 => ?_) (fun c36 => ?_)
    · refine r_iload K dX7_two_69 0 rfl ?_
      refine r_if_eq K dX7_two_71 (fun c71 => ?_) (fun c71 => ?_)
      · exact absurd c71 (by decide)
      · refine r_aload_n K dX7_two_74 1 rfl ?_
        refine r_iload K dX7_two_75 0 rfl ?_
        refine r_cVd K dX7_two_77 (c_X7_no l Γ h a hi lm rm pc bi sd rf (-1) (okR_1)) mX7_no q813 rfl (by decide) rfl rfl 4 rfl [0, 3] [1, 2] rfl rfl [eI Γ (a 0) 42 r, eI Γ (a 1) 42 q] rfl [mo h a hi lm rm pc bi sd, eI Γ (a 0) 42 r, eI Γ (a 1) 42 q, eI Γ (a 6) 7 (nof rf (-1))] rfl rfl rfl [] rfl (Nat.le_of_ble_eq_true rfl) ?_
        have he : eTwo r x y n = (-1) := by
          unfold eTwo
          rw [if_pos (fun z => nt c5 z.1)]
        refine r_arr K (f2 := chE (eTwo r x y n) rf (nof rf (eTwo r x y n))) (ws1 := [mo h a hi lm rm pc bi sd, eI Γ (a 0) 42 r, eI Γ (a 1) 42 q, eI Γ (a 6) 7 (chE (eTwo r x y n) rf (nof rf (eTwo r x y n)))]) 3 rfl (fun _ _ => by rw [ch_n (g := nof rf) he (by decide)]) rfl ?_
        exact hR q dX7_two_80 (trivial) (e_ri (ex_n he (by decide))) (weq.rf)
    · exact absurd c36 (by decide)
  · have hx := inN_e c5 (by omega)
    have lx := ix_lt c5 (by omega)
    refine r_lc (lv1 := [(0, .ref h), (1, .int (nI (ix x))), (2, .int y), (3, .int n)]) (congrArg (fun zz : Int32 => ([(0, .ref h), (1, .int zz), (2, .int y), (3, .int n)] : List (Nat × Value))) (hx)) ?_
    refine r_aload_n K dX7_two_8 0 rfl ?_
    refine r_iload_n K dX7_two_9 2 rfl ?_
    refine r_cVd K dX7_two_10 (c_X7_isMourner l Γ h a hi lm rm pc bi sd r y (hI)) mX7_isMourner q856 rfl (by decide) rfl rfl 4 rfl [0, 1] [2, 3] rfl rfl [eI Γ (a 1) 42 q, eI Γ (a 6) 7 rf] rfl [mo h a hi lm rm pc bi sd, eI Γ (a 0) 42 r, eI Γ (a 1) 42 q, eI Γ (a 6) 7 rf] rfl rfl rfl [] rfl (Nat.le_of_ble_eq_true rfl) ?_
    refine r_ifeqB K dX7_two_13 (fun c13 => ?_) (fun c13 => ?_)
    · refine r_iconst K dX7_two_31 ((-1)) (by decide) ?_
      refine r_istore K dX7_two_32 (by decide) (lv1 := [(4, .int (-1)), (0, .ref h), (1, .int (nI (ix x))), (2, .int y), (3, .int n)]) rfl ?_
      refine r_iload K dX7_two_34 0 rfl ?_
      refine r_if_ne K dX7_two_36 (fun c36 => ?_) (fun c36 => ?_)
      · refine r_iload K dX7_two_69 0 rfl ?_
        refine r_if_eq K dX7_two_71 (fun c71 => ?_) (fun c71 => ?_)
        · exact absurd c71 (by decide)
        · refine r_aload_n K dX7_two_74 1 rfl ?_
          refine r_iload K dX7_two_75 0 rfl ?_
          refine r_cVd K dX7_two_77 (c_X7_no l Γ h a hi lm rm pc bi sd rf (-1) (okR_1)) mX7_no q813 rfl (by decide) rfl rfl 4 rfl [0, 3] [1, 2] rfl rfl [eI Γ (a 0) 42 r, eI Γ (a 1) 42 q] rfl [mo h a hi lm rm pc bi sd, eI Γ (a 0) 42 r, eI Γ (a 1) 42 q, eI Γ (a 6) 7 (nof rf (-1))] rfl rfl rfl [] rfl (Nat.le_of_ble_eq_true rfl) ?_
          have he : eTwo r x y n = (-1) := by
            unfold eTwo
            rw [if_pos (fun z => nt c13 z.2.1)]
          refine r_arr K (f2 := chE (eTwo r x y n) rf (nof rf (eTwo r x y n))) (ws1 := [mo h a hi lm rm pc bi sd, eI Γ (a 0) 42 r, eI Γ (a 1) 42 q, eI Γ (a 6) 7 (chE (eTwo r x y n) rf (nof rf (eTwo r x y n)))]) 3 rfl (fun _ _ => by rw [ch_n (g := nof rf) he (by decide)]) rfl ?_
          exact hR q dX7_two_80 (trivial) (e_ri (ex_n he (by decide))) (weq.rf)
      · exact absurd c36 (by decide)
    · have hy := inN_e c13 (by omega)
      have ly := ix_lt c13 (by omega)
      refine r_lc (lv1 := [(0, .ref h), (1, .int (nI (ix x))), (2, .int (nI (ix y))), (3, .int n)]) (congrArg (fun zz : Int32 => ([(0, .ref h), (1, .int (nI (ix x))), (2, .int zz), (3, .int n)] : List (Nat × Value))) (hy)) ?_
      refine r_iload_n K dX7_two_16 1 rfl ?_
      refine r_iload_n K dX7_two_17 2 rfl ?_
      refine r_ic_eqN K dX7_two_18 (by omega) (by omega) (fun c18 => ?_) (fun c18 => ?_)
      · refine r_iconst K dX7_two_31 ((-1)) (by decide) ?_
        refine r_istore K dX7_two_32 (by decide) (lv1 := [(4, .int (-1)), (0, .ref h), (1, .int (nI (ix x))), (2, .int (nI (ix y))), (3, .int n)]) rfl ?_
        refine r_iload K dX7_two_34 0 rfl ?_
        refine r_if_ne K dX7_two_36 (fun c36 => ?_) (fun c36 => ?_)
        · refine r_iload K dX7_two_69 0 rfl ?_
          refine r_if_eq K dX7_two_71 (fun c71 => ?_) (fun c71 => ?_)
          · exact absurd c71 (by decide)
          · refine r_aload_n K dX7_two_74 1 rfl ?_
            refine r_iload K dX7_two_75 0 rfl ?_
            refine r_cVd K dX7_two_77 (c_X7_no l Γ h a hi lm rm pc bi sd rf (-1) (okR_1)) mX7_no q813 rfl (by decide) rfl rfl 4 rfl [0, 3] [1, 2] rfl rfl [eI Γ (a 0) 42 r, eI Γ (a 1) 42 q] rfl [mo h a hi lm rm pc bi sd, eI Γ (a 0) 42 r, eI Γ (a 1) 42 q, eI Γ (a 6) 7 (nof rf (-1))] rfl rfl rfl [] rfl (Nat.le_of_ble_eq_true rfl) ?_
            have he : eTwo r x y n = (-1) := by
              unfold eTwo
              rw [if_pos (fun z => z.2.2 ((hx.trans (by rw [c18])).trans hy.symm))]
            refine r_arr K (f2 := chE (eTwo r x y n) rf (nof rf (eTwo r x y n))) (ws1 := [mo h a hi lm rm pc bi sd, eI Γ (a 0) 42 r, eI Γ (a 1) 42 q, eI Γ (a 6) 7 (chE (eTwo r x y n) rf (nof rf (eTwo r x y n)))]) 3 rfl (fun _ _ => by rw [ch_n (g := nof rf) he (by decide)]) rfl ?_
            exact hR q dX7_two_80 (trivial) (e_ri (ex_n he (by decide))) (weq.rf)
        · exact absurd c36 (by decide)
      · refine r_iload_n K dX7_two_21 3 rfl ?_
        refine r_iconst K dX7_two_22 (nI 1) (by decide) ?_
        refine r_bipush K dX7_two_23 (nI 30) (by decide) ?_
        refine r_cSd K dX7_two_25 (c_X7_wrongBy l Γ n (nI 1) (nI 30)) mX7_wrongBy q924 rfl (by decide) 4 rfl [] [0, 1, 2, 3] rfl rfl [mo h a hi lm rm pc bi sd, eI Γ (a 0) 42 r, eI Γ (a 1) 42 q, eI Γ (a 6) 7 rf] rfl [mo h a hi lm rm pc bi sd, eI Γ (a 0) 42 r, eI Γ (a 1) 42 q, eI Γ (a 6) 7 rf] rfl rfl rfl [] rfl (Nat.le_of_ble_eq_true rfl) ?_
        refine r_goto K dX7_two_28 ?_
        refine r_istore K dX7_two_32 (by decide) (lv1 := [(4, .int (wrS n (nI 1) (nI 30))), (0, .ref h), (1, .int (nI (ix x))), (2, .int (nI (ix y))), (3, .int n)]) rfl ?_
        refine r_iload K dX7_two_34 0 rfl ?_
        refine r_if_ne K dX7_two_36 (fun c36 => ?_) (fun c36 => ?_)
        · refine r_iload K dX7_two_69 0 rfl ?_
          refine r_if_eq K dX7_two_71 (fun c71 => ?_) (fun c71 => ?_)
          · exact absurd c71 c36
          · refine r_aload_n K dX7_two_74 1 rfl ?_
            refine r_iload K dX7_two_75 0 rfl ?_
            refine r_cVd K dX7_two_77 (c_X7_no l Γ h a hi lm rm pc bi sd rf (wrS n (nI 1) (nI 30)) (okR_wr c36)) mX7_no q813 rfl (by decide) rfl rfl 4 rfl [0, 3] [1, 2] rfl rfl [eI Γ (a 0) 42 r, eI Γ (a 1) 42 q] rfl [mo h a hi lm rm pc bi sd, eI Γ (a 0) 42 r, eI Γ (a 1) 42 q, eI Γ (a 6) 7 (nof rf (wrS n (nI 1) (nI 30)))] rfl rfl rfl [] rfl (Nat.le_of_ble_eq_true rfl) ?_
            have he : eTwo r x y n = wrS n (nI 1) (nI 30) := by
              unfold eTwo
              rw [if_neg (not_not_intro ⟨c5, c13, fun z => c18 (by rw [z])⟩), if_pos c36]
            refine r_arr K (f2 := chE (eTwo r x y n) rf (nof rf (eTwo r x y n))) (ws1 := [mo h a hi lm rm pc bi sd, eI Γ (a 0) 42 r, eI Γ (a 1) 42 q, eI Γ (a 6) 7 (chE (eTwo r x y n) rf (nof rf (eTwo r x y n)))]) 3 rfl (fun _ _ => by rw [ch_n (g := nof rf) he c36]) rfl ?_
            exact hR q dX7_two_80 (trivial) (e_ri (ex_n he c36)) (weq.rf)
        · have hn := wrS_ok (by decide) (by decide) c36
          have ln := hn.2
          refine r_lc (lv1 := [(4, .int (wrS n (nI 1) (nI 30))), (0, .ref h), (1, .int (nI (ix x))), (2, .int (nI (ix y))), (3, .int (nI (ix n)))]) (congrArg (fun zz : Int32 => ([(4, .int (wrS n (nI 1) (nI 30))), (0, .ref h), (1, .int (nI (ix x))), (2, .int (nI (ix y))), (3, .int zz)] : List (Nat × Value))) (hn.1)) ?_
          refine r_aload_n K dX7_two_39 1 rfl ?_
          refine r_get K dX7_two_40 (kf := 0) 0 rfl rfl hinX7 (by decide) q757 rfl rfl ?_
          refine r_iload_n K dX7_two_43 2 rfl ?_
          refine r_iconst K dX7_two_44 (nI 3) (by decide) ?_
          refine r_cSd K dX7_two_45 (c_X7_ofM l Γ (ix x) 3) mX7_ofM q853 rfl (by decide) 4 rfl [] [0, 1, 2, 3] rfl rfl [mo h a hi lm rm pc bi sd, eI Γ (a 0) 42 r, eI Γ (a 1) 42 q, eI Γ (a 6) 7 rf] rfl [mo h a hi lm rm pc bi sd, eI Γ (a 0) 42 r, eI Γ (a 1) 42 q, eI Γ (a 6) 7 rf] rfl rfl rfl [.ref (a 0)] rfl (Nat.le_of_ble_eq_true rfl) ?_
          refine r_aldN K dX7_two_48 1 rfl (by first | omega | exact iG_lt (by omega) (by decide) | exact iM_lt (by omega) (by decide)) (by decide) ?_
          refine r_if_lt K dX7_two_49 (fun c49 => ?_) (fun c49 => ?_)
          · refine r_bipush K dX7_two_65 ((-3)) (by decide) ?_
            refine r_istore K dX7_two_67 (by decide) (lv1 := [(4, .int (-3)), (0, .ref h), (1, .int (nI (ix x))), (2, .int (nI (ix y))), (3, .int (nI (ix n)))]) rfl ?_
            refine r_iload K dX7_two_69 0 rfl ?_
            refine r_if_eq K dX7_two_71 (fun c71 => ?_) (fun c71 => ?_)
            · exact absurd c71 (by decide)
            · refine r_aload_n K dX7_two_74 1 rfl ?_
              refine r_iload K dX7_two_75 0 rfl ?_
              refine r_cVd K dX7_two_77 (c_X7_no l Γ h a hi lm rm pc bi sd rf (-3) (okR_3)) mX7_no q813 rfl (by decide) rfl rfl 4 rfl [0, 3] [1, 2] rfl rfl [eI Γ (a 0) 42 r, eI Γ (a 1) 42 q] rfl [mo h a hi lm rm pc bi sd, eI Γ (a 0) 42 r, eI Γ (a 1) 42 q, eI Γ (a 6) 7 (nof rf (-3))] rfl rfl rfl [] rfl (Nat.le_of_ble_eq_true rfl) ?_
              have he : eTwo r x y n = (-3) := by
                unfold eTwo
                rw [if_neg (not_not_intro ⟨c5, c13, fun z => c18 (by rw [z])⟩), if_neg (not_not_intro c36), if_pos (Or.inl (at9 hI lx c49))]
              refine r_arr K (f2 := chE (eTwo r x y n) rf (nof rf (eTwo r x y n))) (ws1 := [mo h a hi lm rm pc bi sd, eI Γ (a 0) 42 r, eI Γ (a 1) 42 q, eI Γ (a 6) 7 (chE (eTwo r x y n) rf (nof rf (eTwo r x y n)))]) 3 rfl (fun _ _ => by rw [ch_n (g := nof rf) he (by decide)]) rfl ?_
              exact hR q dX7_two_80 (trivial) (e_ri (ex_n he (by decide))) (weq.rf)
          · refine r_aload_n K dX7_two_52 1 rfl ?_
            refine r_get K dX7_two_53 (kf := 0) 0 rfl rfl hinX7 (by decide) q757 rfl rfl ?_
            refine r_iload_n K dX7_two_56 3 rfl ?_
            refine r_iconst K dX7_two_57 (nI 3) (by decide) ?_
            refine r_cSd K dX7_two_58 (c_X7_ofM l Γ (ix y) 3) mX7_ofM q853 rfl (by decide) 4 rfl [] [0, 1, 2, 3] rfl rfl [mo h a hi lm rm pc bi sd, eI Γ (a 0) 42 r, eI Γ (a 1) 42 q, eI Γ (a 6) 7 rf] rfl [mo h a hi lm rm pc bi sd, eI Γ (a 0) 42 r, eI Γ (a 1) 42 q, eI Γ (a 6) 7 rf] rfl rfl rfl [.ref (a 0)] rfl (Nat.le_of_ble_eq_true rfl) ?_
            refine r_aldN K dX7_two_61 1 rfl (by first | omega | exact iG_lt (by omega) (by decide) | exact iM_lt (by omega) (by decide)) (by decide) ?_
            refine r_if_ge K dX7_two_62 (fun c62 => ?_) (fun c62 => ?_)
            · refine r_iload K dX7_two_69 0 rfl ?_
              refine r_if_eq K dX7_two_71 (fun c71 => ?_) (fun c71 => ?_)
              · obtain ⟨ga, hga, ea⟩ := (hI.pl3 lx).resolve_left (n9_of c49)
                obtain ⟨gb, hgb, eb⟩ := (hI.pl3 ly).resolve_left (ge0_n9 c62)
                have hne : ¬ ix x = ix y := c18
                refine r_iconst K dX7_two_81 (nI 0) (by decide) ?_
                refine r_istore K dX7_two_82 (by decide) (lv1 := [(5, .int (nI 0)), (4, .int (wrS n (nI 1) (nI 30))), (0, .ref h), (1, .int (nI (ix x))), (2, .int (nI (ix y))), (3, .int (nI (ix n)))]) rfl ?_
                have L84 : ∀ (fL84 : Nat) (f : Nat) (k : Nat) (q : Nat → Int32), (f + k = 4) → (calmL r (ix x) (ix y) (ix n) ga gb 4 0 = calmL r (ix x) (ix y) (ix n) ga gb f k) → f < fL84 → V 84 [(5, .int (nI k)), (0, .ref h), (1, .int (nI (ix x))), (2, .int (nI (ix y))), (3, .int (nI (ix n)))] [] [mo h a hi lm rm pc bi sd, eI Γ (a 0) 42 r, eI Γ (a 1) 42 q, eI Γ (a 6) 7 rf] := by
                  intro fL84
                  induction fL84 with
                  | zero => intro f k q hfk hE hf; exact absurd hf (Nat.not_lt_zero _)
                  | succ fL84 ih_L84 =>
                    intro f k q hfk hE hfL84
                    refine r_iload K dX7_two_84 0 rfl ?_
                    refine r_iconst K dX7_two_86 (nI 4) (by decide) ?_
                    refine r_ic_geN K dX7_two_87 (by omega) (by omega) (fun c87 => ?_) (fun c87 => ?_)
                    · obtain rfl : f = 0 := by omega
                      refine r_bipush K dX7_two_175 ((-9)) (by decide) ?_
                      have he : eTwo r x y n = 0 := by
                        unfold eTwo
                        rw [if_neg (not_not_intro ⟨c5, c13, fun z => c18 (by rw [z])⟩), if_neg (not_not_intro c36), if_neg (fun z => z.elim (n9_of c49) (ge0_n9 c62))]
                      refine r_arr K (f2 := chE (eTwo r x y n) rf (nof rf (eTwo r x y n))) (ws1 := [mo h a hi lm rm pc bi sd, eI Γ (a 0) 42 r, eI Γ (a 1) 42 q, eI Γ (a 6) 7 (chE (eTwo r x y n) rf (nof rf (eTwo r x y n)))]) 3 rfl (fun _ _ => by rw [chE_0 he]) rfl ?_
                      exact hR q dX7_two_177 (trivial) (e_ri (ex_0 he (by unfold aTwo; rw [ea, eb, ix_nI (by omega), ix_nI (by omega)]; exact hE))) (weq.rf)
                    · obtain ⟨f, rfl⟩ : ∃ z, f = z + 1 := ⟨f - 1, by omega⟩
                      refine r_iload K dX7_two_90 0 rfl ?_
                      refine r_iconst K dX7_two_92 (nI 2) (by decide) ?_
                      refine r_idivN K dX7_two_93 (by omega) (by omega) (by omega) ?_
                      refine r_istore K dX7_two_94 (by decide) (lv1 := [(6, .int (nI (k / 2))), (5, .int (nI k)), (0, .ref h), (1, .int (nI (ix x))), (2, .int (nI (ix y))), (3, .int (nI (ix n)))]) rfl ?_
                      refine r_iload K dX7_two_96 1 rfl ?_
                      refine r_iconst K dX7_two_98 (nI 2) (by decide) ?_
                      refine r_iremN K dX7_two_99 (by omega) (by omega) (by omega) ?_
                      refine r_istore K dX7_two_100 (by decide) (lv1 := [(7, .int (nI (k % 2))), (6, .int (nI (k / 2))), (5, .int (nI k)), (0, .ref h), (1, .int (nI (ix x))), (2, .int (nI (ix y))), (3, .int (nI (ix n)))]) rfl ?_
                      refine r_aload_n K dX7_two_102 3 rfl ?_
                      refine r_iload_n K dX7_two_103 4 rfl ?_
                      refine r_iload_n K dX7_two_104 4 rfl ?_
                      refine r_iconst K dX7_two_105 (nI 1) (by decide) ?_
                      refine r_iload K dX7_two_106 1 rfl ?_
                      refine r_isubN K dX7_two_108 (by omega) ?_
                      refine r_iload_n K dX7_two_109 5 rfl ?_
                      refine r_iload K dX7_two_110 0 rfl ?_
                      refine r_iload_n K dX7_two_112 6 rfl ?_
                      refine r_cVd K dX7_two_113 (c_X7_ownBy l Γ h a hi lm rm pc bi sd r q (ix x) (ix x) (1 - (k / 2)) (ix y) (k % 2) (ix n) ga (hI) (by first | omega | (simp only [daysS_nM, daysS_nG, dayS_nM, dayS_nG, tellS_nM, tellS_nG, aloneTo_nM, aloneTo_nG, nM_M, nG_M, nM_G, nG_G, lv_nM, lv_nG, gnT_nM, gnT_nG] <;> omega)) (by first | omega | (simp only [daysS_nM, daysS_nG, dayS_nM, dayS_nG, tellS_nM, tellS_nG, aloneTo_nM, aloneTo_nG, nM_M, nG_M, nM_G, nG_G, lv_nM, lv_nG, gnT_nM, gnT_nG] <;> omega)) (by first | omega | (simp only [daysS_nM, daysS_nG, dayS_nM, dayS_nG, tellS_nM, tellS_nG, aloneTo_nM, aloneTo_nG, nM_M, nG_M, nM_G, nG_G, lv_nM, lv_nG, gnT_nM, gnT_nG] <;> omega)) (by first | assumption | omega) (by first | assumption | omega) (by first | assumption | omega) (by first | omega | (simp only [daysS_nM, daysS_nG, dayS_nM, dayS_nG, tellS_nM, tellS_nG, aloneTo_nM, aloneTo_nG, nM_M, nG_M, nM_G, nG_G, lv_nM, lv_nG, gnT_nM, gnT_nG] <;> omega)) (ea)) mX7_ownBy q1056 rfl (by decide) rfl rfl 4 rfl [0, 1, 2] [3] rfl rfl [eI Γ (a 6) 7 rf] rfl [mo h a hi lm rm pc bi sd, eI Γ (a 0) 42 r, eI Γ (a 1) 42 (daysS (gnT r (ix x) (decide ((1 - (k / 2)) = 1)) (ix y) (decide ((k % 2) = 1))) (ix n)), eI Γ (a 6) 7 rf] rfl rfl rfl [] rfl (Nat.le_of_ble_eq_true rfl) ?_
                      refine r_aload_n K dX7_two_116 3 rfl ?_
                      refine r_iload_n K dX7_two_117 4 rfl ?_
                      refine r_iload_n K dX7_two_118 4 rfl ?_
                      refine r_iload K dX7_two_119 1 rfl ?_
                      refine r_iload_n K dX7_two_121 5 rfl ?_
                      refine r_iload K dX7_two_122 0 rfl ?_
                      refine r_iload_n K dX7_two_124 6 rfl ?_
                      refine r_cVd K dX7_two_125 (c_X7_ownBy l Γ h a hi lm rm pc bi sd r (daysS (gnT r (ix x) (decide ((1 - (k / 2)) = 1)) (ix y) (decide ((k % 2) = 1))) (ix n)) (ix x) (ix x) (k / 2) (ix y) (k % 2) (ix n) ga (hI) (by first | omega | (simp only [daysS_nM, daysS_nG, dayS_nM, dayS_nG, tellS_nM, tellS_nG, aloneTo_nM, aloneTo_nG, nM_M, nG_M, nM_G, nG_G, lv_nM, lv_nG, gnT_nM, gnT_nG] <;> omega)) (by first | omega | (simp only [daysS_nM, daysS_nG, dayS_nM, dayS_nG, tellS_nM, tellS_nG, aloneTo_nM, aloneTo_nG, nM_M, nG_M, nM_G, nG_G, lv_nM, lv_nG, gnT_nM, gnT_nG] <;> omega)) (by first | omega | (simp only [daysS_nM, daysS_nG, dayS_nM, dayS_nG, tellS_nM, tellS_nG, aloneTo_nM, aloneTo_nG, nM_M, nG_M, nM_G, nG_G, lv_nM, lv_nG, gnT_nM, gnT_nG] <;> omega)) (by first | assumption | omega) (by first | assumption | omega) (by first | assumption | omega) (by first | omega | (simp only [daysS_nM, daysS_nG, dayS_nM, dayS_nG, tellS_nM, tellS_nG, aloneTo_nM, aloneTo_nG, nM_M, nG_M, nM_G, nG_G, lv_nM, lv_nG, gnT_nM, gnT_nG] <;> omega)) (ea)) mX7_ownBy q1056 rfl (by decide) rfl rfl 4 rfl [0, 1, 2] [3] rfl rfl [eI Γ (a 6) 7 rf] rfl [mo h a hi lm rm pc bi sd, eI Γ (a 0) 42 r, eI Γ (a 1) 42 (daysS (gnT r (ix x) (decide ((k / 2) = 1)) (ix y) (decide ((k % 2) = 1))) (ix n)), eI Γ (a 6) 7 rf] rfl rfl rfl [.int (owR r (ix x) (ix x) (1 - (k / 2)) (ix y) (k % 2) (ix n) ga)] rfl (Nat.le_of_ble_eq_true rfl) ?_
                      refine r_ic_gt K dX7_two_128 (fun c128 => ?_) (fun c128 => ?_)
                      · have hc : ¬ calmB r (ix x) (ix y) (ix n) ga gb (decide (2 ≤ k)) (decide (k % 2 = 1)) = true := fun z => absurd ((calm_iff hne (by omega)).mp z).1 (Int32.not_le.mpr c128)
                        refine r_iincN K dX7_two_169 (n := 1) 2 rfl rfl (by decide) (lv1 := [(5, .int (nI (k + 1))), (7, .int (nI (k % 2))), (6, .int (nI (k / 2))), (0, .ref h), (1, .int (nI (ix x))), (2, .int (nI (ix y))), (3, .int (nI (ix n)))]) rfl ?_
                        refine r_goto K dX7_two_172 ?_
                        refine r_lv K [0, 3, 4, 5, 6] rfl ?_
                        exact ih_L84 f (k + 1) (daysS (gnT r (ix x) (decide ((k / 2) = 1)) (ix y) (decide ((k % 2) = 1))) (ix n)) (by omega) (hE.trans (calmL_n hc)) (by omega)
                      · refine r_aload_n K dX7_two_131 3 rfl ?_
                        refine r_iload_n K dX7_two_132 5 rfl ?_
                        refine r_iload_n K dX7_two_133 4 rfl ?_
                        refine r_iload K dX7_two_134 1 rfl ?_
                        refine r_iload_n K dX7_two_136 5 rfl ?_
                        refine r_iconst K dX7_two_137 (nI 1) (by decide) ?_
                        refine r_iload K dX7_two_138 0 rfl ?_
                        refine r_isubN K dX7_two_140 (by omega) ?_
                        refine r_iload_n K dX7_two_141 6 rfl ?_
                        refine r_cVd K dX7_two_142 (c_X7_ownBy l Γ h a hi lm rm pc bi sd r (daysS (gnT r (ix x) (decide ((k / 2) = 1)) (ix y) (decide ((k % 2) = 1))) (ix n)) (ix y) (ix x) (k / 2) (ix y) (1 - (k % 2)) (ix n) gb (hI) (by first | omega | (simp only [daysS_nM, daysS_nG, dayS_nM, dayS_nG, tellS_nM, tellS_nG, aloneTo_nM, aloneTo_nG, nM_M, nG_M, nM_G, nG_G, lv_nM, lv_nG, gnT_nM, gnT_nG] <;> omega)) (by first | omega | (simp only [daysS_nM, daysS_nG, dayS_nM, dayS_nG, tellS_nM, tellS_nG, aloneTo_nM, aloneTo_nG, nM_M, nG_M, nM_G, nG_G, lv_nM, lv_nG, gnT_nM, gnT_nG] <;> omega)) (by first | omega | (simp only [daysS_nM, daysS_nG, dayS_nM, dayS_nG, tellS_nM, tellS_nG, aloneTo_nM, aloneTo_nG, nM_M, nG_M, nM_G, nG_G, lv_nM, lv_nG, gnT_nM, gnT_nG] <;> omega)) (by first | assumption | omega) (by first | assumption | omega) (by first | assumption | omega) (by first | omega | (simp only [daysS_nM, daysS_nG, dayS_nM, dayS_nG, tellS_nM, tellS_nG, aloneTo_nM, aloneTo_nG, nM_M, nG_M, nM_G, nG_G, lv_nM, lv_nG, gnT_nM, gnT_nG] <;> omega)) (eb)) mX7_ownBy q1056 rfl (by decide) rfl rfl 4 rfl [0, 1, 2] [3] rfl rfl [eI Γ (a 6) 7 rf] rfl [mo h a hi lm rm pc bi sd, eI Γ (a 0) 42 r, eI Γ (a 1) 42 (daysS (gnT r (ix x) (decide ((k / 2) = 1)) (ix y) (decide ((1 - (k % 2)) = 1))) (ix n)), eI Γ (a 6) 7 rf] rfl rfl rfl [] rfl (Nat.le_of_ble_eq_true rfl) ?_
                        refine r_aload_n K dX7_two_145 3 rfl ?_
                        refine r_iload_n K dX7_two_146 5 rfl ?_
                        refine r_iload_n K dX7_two_147 4 rfl ?_
                        refine r_iload K dX7_two_148 1 rfl ?_
                        refine r_iload_n K dX7_two_150 5 rfl ?_
                        refine r_iload K dX7_two_151 0 rfl ?_
                        refine r_iload_n K dX7_two_153 6 rfl ?_
                        refine r_cVd K dX7_two_154 (c_X7_ownBy l Γ h a hi lm rm pc bi sd r (daysS (gnT r (ix x) (decide ((k / 2) = 1)) (ix y) (decide ((1 - (k % 2)) = 1))) (ix n)) (ix y) (ix x) (k / 2) (ix y) (k % 2) (ix n) gb (hI) (by first | omega | (simp only [daysS_nM, daysS_nG, dayS_nM, dayS_nG, tellS_nM, tellS_nG, aloneTo_nM, aloneTo_nG, nM_M, nG_M, nM_G, nG_G, lv_nM, lv_nG, gnT_nM, gnT_nG] <;> omega)) (by first | omega | (simp only [daysS_nM, daysS_nG, dayS_nM, dayS_nG, tellS_nM, tellS_nG, aloneTo_nM, aloneTo_nG, nM_M, nG_M, nM_G, nG_G, lv_nM, lv_nG, gnT_nM, gnT_nG] <;> omega)) (by first | omega | (simp only [daysS_nM, daysS_nG, dayS_nM, dayS_nG, tellS_nM, tellS_nG, aloneTo_nM, aloneTo_nG, nM_M, nG_M, nM_G, nG_G, lv_nM, lv_nG, gnT_nM, gnT_nG] <;> omega)) (by first | assumption | omega) (by first | assumption | omega) (by first | assumption | omega) (by first | omega | (simp only [daysS_nM, daysS_nG, dayS_nM, dayS_nG, tellS_nM, tellS_nG, aloneTo_nM, aloneTo_nG, nM_M, nG_M, nM_G, nG_G, lv_nM, lv_nG, gnT_nM, gnT_nG] <;> omega)) (eb)) mX7_ownBy q1056 rfl (by decide) rfl rfl 4 rfl [0, 1, 2] [3] rfl rfl [eI Γ (a 6) 7 rf] rfl [mo h a hi lm rm pc bi sd, eI Γ (a 0) 42 r, eI Γ (a 1) 42 (daysS (gnT r (ix x) (decide ((k / 2) = 1)) (ix y) (decide ((k % 2) = 1))) (ix n)), eI Γ (a 6) 7 rf] rfl rfl rfl [.int (owR r (ix y) (ix x) (k / 2) (ix y) (1 - (k % 2)) (ix n) gb)] rfl (Nat.le_of_ble_eq_true rfl) ?_
                        refine r_ic_gt K dX7_two_157 (fun c157 => ?_) (fun c157 => ?_)
                        · have hc : ¬ calmB r (ix x) (ix y) (ix n) ga gb (decide (2 ≤ k)) (decide (k % 2 = 1)) = true := fun z => absurd ((calm_iff hne (by omega)).mp z).2 (Int32.not_le.mpr c157)
                          refine r_iincN K dX7_two_169 (n := 1) 2 rfl rfl (by decide) (lv1 := [(5, .int (nI (k + 1))), (7, .int (nI (k % 2))), (6, .int (nI (k / 2))), (0, .ref h), (1, .int (nI (ix x))), (2, .int (nI (ix y))), (3, .int (nI (ix n)))]) rfl ?_
                          refine r_goto K dX7_two_172 ?_
                          refine r_lv K [0, 3, 4, 5, 6] rfl ?_
                          exact ih_L84 f (k + 1) (daysS (gnT r (ix x) (decide ((k / 2) = 1)) (ix y) (decide ((k % 2) = 1))) (ix n)) (by omega) (hE.trans (calmL_n hc)) (by omega)
                        · have hc : calmB r (ix x) (ix y) (ix n) ga gb (decide (2 ≤ k)) (decide (k % 2 = 1)) = true := (calm_iff hne (by omega)).mpr ⟨Int32.not_lt.mp c128, Int32.not_lt.mp c157⟩
                          refine r_bipush K dX7_two_160 (nI 10) (by decide) ?_
                          refine r_iload K dX7_two_162 1 rfl ?_
                          refine r_imulN K dX7_two_164 ?_
                          refine r_iload K dX7_two_165 0 rfl ?_
                          refine r_iaddN K dX7_two_167 ?_
                          have he : eTwo r x y n = 0 := by
                            unfold eTwo
                            rw [if_neg (not_not_intro ⟨c5, c13, fun z => c18 (by rw [z])⟩), if_neg (not_not_intro c36), if_neg (fun z => z.elim (n9_of c49) (ge0_n9 c62))]
                          refine r_arr K (f2 := chE (eTwo r x y n) rf (nof rf (eTwo r x y n))) (ws1 := [mo h a hi lm rm pc bi sd, eI Γ (a 0) 42 r, eI Γ (a 1) 42 (daysS (gnT r (ix x) (decide ((k / 2) = 1)) (ix y) (decide ((k % 2) = 1))) (ix n)), eI Γ (a 6) 7 (chE (eTwo r x y n) rf (nof rf (eTwo r x y n)))]) 3 rfl (fun _ _ => by rw [chE_0 he]) rfl ?_
                          exact hR (daysS (gnT r (ix x) (decide ((k / 2) = 1)) (ix y) (decide ((k % 2) = 1))) (ix n)) dX7_two_168 (trivial) (e_ri (ex_0 he (by unfold aTwo; rw [ea, eb, ix_nI (by omega), ix_nI (by omega), hE, calmL_t hc, calm_v (by omega)]))) (weq.rf)
                refine r_lv K [0, 2, 3, 4, 5] rfl ?_
                exact L84 _ 4 0 q (rfl) (rfl) (Nat.lt_succ_self _)
              · exact absurd c36 c71
            · refine r_bipush K dX7_two_65 ((-3)) (by decide) ?_
              refine r_istore K dX7_two_67 (by decide) (lv1 := [(4, .int (-3)), (0, .ref h), (1, .int (nI (ix x))), (2, .int (nI (ix y))), (3, .int (nI (ix n)))]) rfl ?_
              refine r_iload K dX7_two_69 0 rfl ?_
              refine r_if_eq K dX7_two_71 (fun c71 => ?_) (fun c71 => ?_)
              · exact absurd c71 (by decide)
              · refine r_aload_n K dX7_two_74 1 rfl ?_
                refine r_iload K dX7_two_75 0 rfl ?_
                refine r_cVd K dX7_two_77 (c_X7_no l Γ h a hi lm rm pc bi sd rf (-3) (okR_3)) mX7_no q813 rfl (by decide) rfl rfl 4 rfl [0, 3] [1, 2] rfl rfl [eI Γ (a 0) 42 r, eI Γ (a 1) 42 q] rfl [mo h a hi lm rm pc bi sd, eI Γ (a 0) 42 r, eI Γ (a 1) 42 q, eI Γ (a 6) 7 (nof rf (-3))] rfl rfl rfl [] rfl (Nat.le_of_ble_eq_true rfl) ?_
                have he : eTwo r x y n = (-3) := by
                  unfold eTwo
                  rw [if_neg (not_not_intro ⟨c5, c13, fun z => c18 (by rw [z])⟩), if_neg (not_not_intro c36), if_pos (Or.inr (at9 hI ly (lt0_of c62)))]
                refine r_arr K (f2 := chE (eTwo r x y n) rf (nof rf (eTwo r x y n))) (ws1 := [mo h a hi lm rm pc bi sd, eI Γ (a 0) 42 r, eI Γ (a 1) 42 q, eI Γ (a 6) 7 (chE (eTwo r x y n) rf (nof rf (eTwo r x y n)))]) 3 rfl (fun _ _ => by rw [ch_n (g := nof rf) he (by decide)]) rfl ?_
                exact hR q dX7_two_80 (trivial) (e_ri (ex_n he (by decide))) (weq.rf)
