/-! THE REFERENCE: winters -/
set_option maxHeartbeats 1000000 in
set_option maxRecDepth 20000 in
theorem c_X7_has2 (l : Launch) (Γ : eG) (s : Nat) (k : Nat) (hs : s < 2 ^ 31) (hk : k < 32) : cD l Γ yX7_has cX7_has 2 (some .boolean) 0 [.int (nI s), .int (nI k)] [] (some (.int (bz (hasB s k)))) [] := by
  refine e_bool [(0, .int (nI s)), (1, .int (nI k))] (by decide +kernel) (Nat.le_of_ble_eq_true rfl) rfl (fun V K hR => ?_)
  refine r_iload_n K dX7_has_0 0 rfl ?_
  refine r_iload_n K dX7_has_1 1 rfl ?_
  refine r_ishr K dX7_has_2 ?_
  refine r_top (y := nI (s / 2 ^ k)) (has_sh2 hs hk) ?_
  refine r_iconst K dX7_has_3 (nI 1) (by decide) ?_
  refine r_iand K dX7_has_4 ?_
  refine r_top (y := nI (s / 2 ^ k % 2)) (and1 _) ?_
  refine r_iconst K dX7_has_5 (nI 1) (by decide) ?_
  refine r_ic_neN K dX7_has_6 (by omega) (by omega) (fun c6 => ?_) (fun c6 => ?_)
  · refine r_iconst K dX7_has_13 (nI 0) (by decide) ?_
    exact hR () dX7_has_14 (rfl) (trivial) (e_ri (by unfold hasB; rw [decide_eq_false c6]; rfl)) (weq.rf)
  · refine r_iconst K dX7_has_9 (nI 1) (by decide) ?_
    refine r_goto K dX7_has_10 ?_
    exact hR () dX7_has_14 (rfl) (trivial) (e_ri (by unfold hasB; rw [decide_eq_true c6]; rfl)) (weq.rf)
set_option maxHeartbeats 1000000 in
set_option maxRecDepth 20000 in
theorem c_X7_winter (l : Launch) (Γ : eG) (h : Nat) (a : Nat → Nat) (hi : Bool) (lm : Nat) (rm : Nat) (pc : Nat) (bi : Int32) (sd : Int32) (r : Nat → Int32) (q : Nat → Int32) (rf : Nat → Int32) (x : Int32) (n : Int32) (t : Int32) (v : Int32) (p : Int32) (hI : Inv r) : cE l Γ yX7_winter cX7_winter 14 (some .long) 3 [.ref h, .int x, .int n, .int t, .int v, .int p] [mo h a hi lm rm pc bi sd, eI Γ (a 0) 42 r, eI Γ (a 1) 42 q, eI Γ (a 6) 7 rf] (S := Nat → Int32) (fun u => True) (fun u => (some (.long (chE (eWinter r x n t v p) (aWinter r x n t v p) (4000000000000000000 - (eWinter r x n t v p).toInt64))))) (fun u => [mo h a hi lm rm pc bi sd, eI Γ (a 0) 42 r, eI Γ (a 1) 42 u, eI Γ (a 6) 7 (chE (eWinter r x n t v p) rf (nof rf (eWinter r x n t v p)))]) := by
  refine e_long [(0, .ref h), (1, .int x), (2, .int n), (3, .int t), (4, .int v), (5, .int p)] (by decide +kernel) (Nat.le_of_ble_eq_true rfl) rfl (fun V K hR => ?_)
  have h5 := hI.g
  have h6 := hI.m
  refine r_aload_n K dX7_winter_0 0 rfl ?_
  refine r_iload_n K dX7_winter_1 1 rfl ?_
  refine r_cVd K dX7_winter_2 (c_X7_isGrave l Γ h a hi lm rm pc bi sd r x (hI)) mX7_isGrave q860 rfl (by decide) rfl rfl 4 rfl [0, 1] [2, 3] rfl rfl [eI Γ (a 1) 42 q, eI Γ (a 6) 7 rf] rfl [mo h a hi lm rm pc bi sd, eI Γ (a 0) 42 r, eI Γ (a 1) 42 q, eI Γ (a 6) 7 rf] rfl rfl rfl [] rfl (Nat.le_of_ble_eq_true rfl) ?_
  refine r_ifneB K dX7_winter_5 (fun c5 => ?_) (fun c5 => ?_)
  · have hx := inN_e c5 (by omega)
    have lx := ix_lt c5 (by omega)
    refine r_lc (lv1 := [(0, .ref h), (1, .int (nI (ix x))), (2, .int n), (3, .int t), (4, .int v), (5, .int p)]) (congrArg (fun zz : Int32 => ([(0, .ref h), (1, .int zz), (2, .int n), (3, .int t), (4, .int v), (5, .int p)] : List (Nat × Value))) (hx)) ?_
    refine r_iload_n K dX7_winter_14 2 rfl ?_
    refine r_if_lt K dX7_winter_15 (fun c15 => ?_) (fun c15 => ?_)
    · refine r_aload_n K dX7_winter_28 0 rfl ?_
      refine r_bipush K dX7_winter_29 ((-4)) (by decide) ?_
      refine r_cVd K dX7_winter_31 (c_X7_noWide l Γ h a hi lm rm pc bi sd rf (-4) (okR_4)) mX7_noWide q1064 rfl (by decide) rfl rfl 4 rfl [0, 3] [1, 2] rfl rfl [eI Γ (a 0) 42 r, eI Γ (a 1) 42 q] rfl [mo h a hi lm rm pc bi sd, eI Γ (a 0) 42 r, eI Γ (a 1) 42 q, eI Γ (a 6) 7 (nof rf (-4))] rfl rfl rfl [] rfl (Nat.le_of_ble_eq_true rfl) ?_
      have he : eWinter r x n t v p = (-4) := by
        unfold eWinter
        rw [if_neg (not_not_intro c5), if_pos (Or.inl c15)]
      refine r_arr K (f2 := chE (eWinter r x n t v p) rf (nof rf (eWinter r x n t v p))) (ws1 := [mo h a hi lm rm pc bi sd, eI Γ (a 0) 42 r, eI Γ (a 1) 42 q, eI Γ (a 6) 7 (chE (eWinter r x n t v p) rf (nof rf (eWinter r x n t v p)))]) 3 rfl (fun _ _ => by rw [ch_n (g := nof rf) he (by decide)]) rfl ?_
      exact hR q dX7_winter_34 (trivial) (e_rl (exL_n he (by decide))) (weq.rf)
    · refine r_iload K dX7_winter_18 4 rfl ?_
      refine r_if_lt K dX7_winter_20 (fun c20 => ?_) (fun c20 => ?_)
      · refine r_aload_n K dX7_winter_28 0 rfl ?_
        refine r_bipush K dX7_winter_29 ((-4)) (by decide) ?_
        refine r_cVd K dX7_winter_31 (c_X7_noWide l Γ h a hi lm rm pc bi sd rf (-4) (okR_4)) mX7_noWide q1064 rfl (by decide) rfl rfl 4 rfl [0, 3] [1, 2] rfl rfl [eI Γ (a 0) 42 r, eI Γ (a 1) 42 q] rfl [mo h a hi lm rm pc bi sd, eI Γ (a 0) 42 r, eI Γ (a 1) 42 q, eI Γ (a 6) 7 (nof rf (-4))] rfl rfl rfl [] rfl (Nat.le_of_ble_eq_true rfl) ?_
        have he : eWinter r x n t v p = (-4) := by
          unfold eWinter
          rw [if_neg (not_not_intro c5), if_pos (Or.inr (Or.inl c20))]
        refine r_arr K (f2 := chE (eWinter r x n t v p) rf (nof rf (eWinter r x n t v p))) (ws1 := [mo h a hi lm rm pc bi sd, eI Γ (a 0) 42 r, eI Γ (a 1) 42 q, eI Γ (a 6) 7 (chE (eWinter r x n t v p) rf (nof rf (eWinter r x n t v p)))]) 3 rfl (fun _ _ => by rw [ch_n (g := nof rf) he (by decide)]) rfl ?_
        exact hR q dX7_winter_34 (trivial) (e_rl (exL_n he (by decide))) (weq.rf)
      · refine r_iload_n K dX7_winter_23 3 rfl ?_
        refine r_iconst K dX7_winter_24 (nI 2) (by decide) ?_
        refine r_ic_ge K dX7_winter_25 (fun c25 => ?_) (fun c25 => ?_)
        · refine r_iload_n K dX7_winter_35 2 rfl ?_
          refine r_bipush K dX7_winter_36 (nI 7) (by decide) ?_
          refine r_ic_gt K dX7_winter_38 (fun c38 => ?_) (fun c38 => ?_)
          · refine r_aload_n K dX7_winter_54 0 rfl ?_
            refine r_bipush K dX7_winter_55 ((-6)) (by decide) ?_
            refine r_cVd K dX7_winter_57 (c_X7_noWide l Γ h a hi lm rm pc bi sd rf (-6) (okR_6)) mX7_noWide q1064 rfl (by decide) rfl rfl 4 rfl [0, 3] [1, 2] rfl rfl [eI Γ (a 0) 42 r, eI Γ (a 1) 42 q] rfl [mo h a hi lm rm pc bi sd, eI Γ (a 0) 42 r, eI Γ (a 1) 42 q, eI Γ (a 6) 7 (nof rf (-6))] rfl rfl rfl [] rfl (Nat.le_of_ble_eq_true rfl) ?_
            have he : eWinter r x n t v p = (-6) := by
              unfold eWinter
              rw [if_neg (not_not_intro c5), if_neg (fun z => z.elim c15 (fun z => z.elim c20 (fun z => absurd z (Int32.not_lt.mpr c25)))), if_pos (Or.inl c38)]
            refine r_arr K (f2 := chE (eWinter r x n t v p) rf (nof rf (eWinter r x n t v p))) (ws1 := [mo h a hi lm rm pc bi sd, eI Γ (a 0) 42 r, eI Γ (a 1) 42 q, eI Γ (a 6) 7 (chE (eWinter r x n t v p) rf (nof rf (eWinter r x n t v p)))]) 3 rfl (fun _ _ => by rw [ch_n (g := nof rf) he (by decide)]) rfl ?_
            exact hR q dX7_winter_60 (trivial) (e_rl (exL_n he (by decide))) (weq.rf)
          · refine r_iload_n K dX7_winter_41 3 rfl ?_
            refine r_bipush K dX7_winter_42 (nI 20) (by decide) ?_
            refine r_ic_gt K dX7_winter_44 (fun c44 => ?_) (fun c44 => ?_)
            · refine r_aload_n K dX7_winter_54 0 rfl ?_
              refine r_bipush K dX7_winter_55 ((-6)) (by decide) ?_
              refine r_cVd K dX7_winter_57 (c_X7_noWide l Γ h a hi lm rm pc bi sd rf (-6) (okR_6)) mX7_noWide q1064 rfl (by decide) rfl rfl 4 rfl [0, 3] [1, 2] rfl rfl [eI Γ (a 0) 42 r, eI Γ (a 1) 42 q] rfl [mo h a hi lm rm pc bi sd, eI Γ (a 0) 42 r, eI Γ (a 1) 42 q, eI Γ (a 6) 7 (nof rf (-6))] rfl rfl rfl [] rfl (Nat.le_of_ble_eq_true rfl) ?_
              have he : eWinter r x n t v p = (-6) := by
                unfold eWinter
                rw [if_neg (not_not_intro c5), if_neg (fun z => z.elim c15 (fun z => z.elim c20 (fun z => absurd z (Int32.not_lt.mpr c25)))), if_pos (Or.inr (Or.inl c44))]
              refine r_arr K (f2 := chE (eWinter r x n t v p) rf (nof rf (eWinter r x n t v p))) (ws1 := [mo h a hi lm rm pc bi sd, eI Γ (a 0) 42 r, eI Γ (a 1) 42 q, eI Γ (a 6) 7 (chE (eWinter r x n t v p) rf (nof rf (eWinter r x n t v p)))]) 3 rfl (fun _ _ => by rw [ch_n (g := nof rf) he (by decide)]) rfl ?_
              exact hR q dX7_winter_60 (trivial) (e_rl (exL_n he (by decide))) (weq.rf)
            · refine r_iload K dX7_winter_47 4 rfl ?_
              refine r_bipush K dX7_winter_49 (nI 99) (by decide) ?_
              refine r_ic_le K dX7_winter_51 (fun c51 => ?_) (fun c51 => ?_)
              · refine r_iload K dX7_winter_61 5 rfl ?_
                refine r_iconst K dX7_winter_63 (nI 0) (by decide) ?_
                refine r_iconst K dX7_winter_64 (nI 1) (by decide) ?_
                refine r_cSd K dX7_winter_65 (c_X7_isIn l Γ p (nI 0) (nI 1)) mX7_isIn q833 rfl (by decide) 4 rfl [] [0, 1, 2, 3] rfl rfl [mo h a hi lm rm pc bi sd, eI Γ (a 0) 42 r, eI Γ (a 1) 42 q, eI Γ (a 6) 7 rf] rfl [mo h a hi lm rm pc bi sd, eI Γ (a 0) 42 r, eI Γ (a 1) 42 q, eI Γ (a 6) 7 rf] rfl rfl rfl [] rfl (Nat.le_of_ble_eq_true rfl) ?_
                refine r_ifneB K dX7_winter_68 (fun c68 => ?_) (fun c68 => ?_)
                · have hp := isInB_ok (lo := 0) (hi := 1) (by decide) (by decide) c68
                  have lp := hp.2
                  refine r_lc (lv1 := [(0, .ref h), (1, .int (nI (ix x))), (2, .int n), (3, .int t), (4, .int v), (5, .int (nI (ix p)))]) (congrArg (fun zz : Int32 => ([(0, .ref h), (1, .int (nI (ix x))), (2, .int n), (3, .int t), (4, .int v), (5, .int zz)] : List (Nat × Value))) (hp.1)) ?_
                  have hn := nlt0 (hi := 7) (by decide) c15 c38
                  have ln := hn.2
                  have ht := isInB_ok (lo := 2) (hi := 20) (by decide) (by decide) (isInB_t (Int32.not_lt.mpr c25) c44)
                  have lt2 := ht.2
                  have hp7 := pow7 ln
                  refine r_lc (lv1 := [(0, .ref h), (1, .int (nI (ix x))), (2, .int (nI (ix n))), (3, .int t), (4, .int v), (5, .int (nI (ix p)))]) (congrArg (fun zz : Int32 => ([(0, .ref h), (1, .int (nI (ix x))), (2, .int zz), (3, .int t), (4, .int v), (5, .int (nI (ix p)))] : List (Nat × Value))) (hn.1)) ?_
                  refine r_lc (lv1 := [(0, .ref h), (1, .int (nI (ix x))), (2, .int (nI (ix n))), (3, .int (nI (ix t))), (4, .int v), (5, .int (nI (ix p)))]) (congrArg (fun zz : Int32 => ([(0, .ref h), (1, .int (nI (ix x))), (2, .int (nI (ix n))), (3, .int zz), (4, .int v), (5, .int (nI (ix p)))] : List (Nat × Value))) (ht.1)) ?_
                  refine r_lconst K dX7_winter_78 (lN 0) (by decide) ?_
                  refine r_lstore K dX7_winter_79 (by decide) (lv1 := [(6, .long (lN 0)), (0, .ref h), (1, .int (nI (ix x))), (2, .int (nI (ix n))), (3, .int (nI (ix t))), (4, .int v), (5, .int (nI (ix p)))]) rfl ?_
                  refine r_lconst K dX7_winter_81 (lN 1) (by decide) ?_
                  refine r_lstore K dX7_winter_82 (by decide) (lv1 := [(8, .long (lN 1)), (6, .long (lN 0)), (0, .ref h), (1, .int (nI (ix x))), (2, .int (nI (ix n))), (3, .int (nI (ix t))), (4, .int v), (5, .int (nI (ix p)))]) rfl ?_
                  refine r_iconst K dX7_winter_84 (nI 0) (by decide) ?_
                  refine r_istore K dX7_winter_85 (by decide) (lv1 := [(10, .int (nI 0)), (8, .long (lN 1)), (6, .long (lN 0)), (0, .ref h), (1, .int (nI (ix x))), (2, .int (nI (ix n))), (3, .int (nI (ix t))), (4, .int v), (5, .int (nI (ix p)))]) rfl ?_
                  have L87 : ∀ (fL87 : Nat) (k : Nat), (k ≤ ix n) → ix n - k < fL87 → V 87 [(10, .int (nI k)), (8, .long (lN (powS (ix t) k))), (6, .long (lN 0)), (0, .ref h), (1, .int (nI (ix x))), (2, .int (nI (ix n))), (3, .int (nI (ix t))), (4, .int v), (5, .int (nI (ix p)))] [] [mo h a hi lm rm pc bi sd, eI Γ (a 0) 42 r, eI Γ (a 1) 42 q, eI Γ (a 6) 7 rf] := by
                    intro fL87
                    induction fL87 with
                    | zero => intro k hk hf; exact absurd hf (Nat.not_lt_zero _)
                    | succ fL87 ih_L87 =>
                      intro k hk hfL87
                      refine r_iload K dX7_winter_87 0 rfl ?_
                      refine r_iload_n K dX7_winter_89 5 rfl ?_
                      refine r_ic_geN K dX7_winter_90 (by omega) (by omega) (fun c90 => ?_) (fun c90 => ?_)
                      · obtain rfl : k = ix n := by omega
                        refine r_iconst K dX7_winter_106 (nI 0) (by decide) ?_
                        refine r_istore K dX7_winter_107 (by decide) (lv1 := [(10, .int (nI 0)), (8, .long (lN (powS (ix t) (ix n)))), (6, .long (lN 0)), (0, .ref h), (1, .int (nI (ix x))), (2, .int (nI (ix n))), (3, .int (nI (ix t))), (4, .int v), (5, .int (nI (ix p)))]) rfl ?_
                        have L109 : ∀ (fL109 : Nat) (s : Nat) (q : Nat → Int32), (s ≤ 2 ^ ix n) → 2 ^ ix n - s < fL109 → V 109 [(10, .int (nI s)), (8, .long (lN (powS (ix t) (ix n)))), (6, .long (lN (wrF r (ix x) (ix n) (ix t) v s))), (0, .ref h), (1, .int (nI (ix x))), (2, .int (nI (ix n))), (3, .int (nI (ix t))), (4, .int v), (5, .int (nI (ix p)))] [] [mo h a hi lm rm pc bi sd, eI Γ (a 0) 42 r, eI Γ (a 1) 42 q, eI Γ (a 6) 7 rf] := by
                          intro fL109
                          induction fL109 with
                          | zero => intro s q hs hf; exact absurd hf (Nat.not_lt_zero _)
                          | succ fL109 ih_L109 =>
                            intro s q hs hfL109
                            refine r_iload K dX7_winter_109 0 rfl ?_
                            refine r_iconst K dX7_winter_111 (nI 1) (by decide) ?_
                            refine r_iload_n K dX7_winter_112 5 rfl ?_
                            refine r_ishl K dX7_winter_113 ?_
                            refine r_top (y := nI (2 ^ ix n)) (sh1 (by omega)) ?_
                            refine r_ic_geN K dX7_winter_114 (by omega) (by omega) (fun c114 => ?_) (fun c114 => ?_)
                            · obtain rfl : s = 2 ^ ix n := by omega
                              refine r_lload K dX7_winter_226 2 rfl ?_
                              refine r_lload K dX7_winter_228 1 rfl ?_
                              refine r_iload K dX7_winter_230 8 rfl ?_
                              refine r_cSd K dX7_winter_232 (c_X7_partOf l Γ (wrF r (ix x) (ix n) (ix t) v (2 ^ ix n)) (powS (ix t) (ix n)) (ix p) (by rw [wr_wy hI lx ln]; exact wyF_lt lt2.2 ln) (powS_lt lt2.2 ln) (fun z => absurd z (by have := pow_pos7 (n := ix n) lt2.1; omega)) (by omega)) mX7_partOf q1069 rfl (by decide) 4 rfl [] [0, 1, 2, 3] rfl rfl [mo h a hi lm rm pc bi sd, eI Γ (a 0) 42 r, eI Γ (a 1) 42 q, eI Γ (a 6) 7 rf] rfl [mo h a hi lm rm pc bi sd, eI Γ (a 0) 42 r, eI Γ (a 1) 42 q, eI Γ (a 6) 7 rf] rfl rfl rfl [] rfl (Nat.le_of_ble_eq_true rfl) ?_
                              have he : eWinter r x n t v p = 0 := by
                                unfold eWinter
                                rw [if_neg (not_not_intro c5), if_neg (fun z => z.elim c15 (fun z => z.elim c20 (fun z => absurd z (Int32.not_lt.mpr c25)))), if_neg (fun z => z.elim c38 (fun z => z.elim c44 (fun z => absurd z (Int32.not_lt.mpr c51)))), if_neg (not_not_intro c68)]
                              refine r_arr K (f2 := chE (eWinter r x n t v p) rf (nof rf (eWinter r x n t v p))) (ws1 := [mo h a hi lm rm pc bi sd, eI Γ (a 0) 42 r, eI Γ (a 1) 42 q, eI Γ (a 6) 7 (chE (eWinter r x n t v p) rf (nof rf (eWinter r x n t v p)))]) 3 rfl (fun _ _ => by rw [chE_0 he]) rfl ?_
                              exact hR q dX7_winter_235 (trivial) (e_rl (exL_0 he (by unfold aWinter; rw [← wr_wy hI lx ln, ← hp.1]))) (weq.rf)
                            · refine r_lconst K dX7_winter_117 (lN 1) (by decide) ?_
                              refine r_lstore K dX7_winter_118 (by decide) (lv1 := [(11, .long (lN 1)), (10, .int (nI s)), (8, .long (lN (powS (ix t) (ix n)))), (6, .long (lN (wrF r (ix x) (ix n) (ix t) v s))), (0, .ref h), (1, .int (nI (ix x))), (2, .int (nI (ix n))), (3, .int (nI (ix t))), (4, .int v), (5, .int (nI (ix p)))]) rfl ?_
                              refine r_aload_n K dX7_winter_120 4 rfl ?_
                              refine r_get K dX7_winter_121 (kf := 0) 0 rfl rfl hinX7 (by decide) q757 rfl rfl ?_
                              refine r_aload_n K dX7_winter_124 4 rfl ?_
                              refine r_get K dX7_winter_125 (kf := 1) 0 rfl rfl hinX7 (by decide) q758 rfl rfl ?_
                              refine r_cSn K dX7_winter_128 (c_X7_copies l Γ (a 0) (a 1) r q) mX7_copies q843 rfl (by decide) 4 rfl [1, 2] [0, 3] rfl rfl [mo h a hi lm rm pc bi sd, eI Γ (a 6) 7 rf] rfl [mo h a hi lm rm pc bi sd, eI Γ (a 0) 42 r, eI Γ (a 1) 42 r, eI Γ (a 6) 7 rf] rfl rfl rfl [] rfl (Nat.le_of_ble_eq_true rfl) ?_
                              refine r_iconst K dX7_winter_131 (nI 0) (by decide) ?_
                              refine r_istore K dX7_winter_132 (by decide) (lv1 := [(13, .int (nI 0)), (11, .long (lN 1)), (10, .int (nI s)), (8, .long (lN (powS (ix t) (ix n)))), (6, .long (lN (wrF r (ix x) (ix n) (ix t) v s))), (0, .ref h), (1, .int (nI (ix x))), (2, .int (nI (ix n))), (3, .int (nI (ix t))), (4, .int v), (5, .int (nI (ix p)))]) rfl ?_
                              have L134 : ∀ (fL134 : Nat) (k : Nat), (k ≤ ix n) → ix n - k < fL134 → V 134 [(13, .int (nI k)), (11, .long (lN (wgN s (ix t) k))), (10, .int (nI s)), (8, .long (lN (powS (ix t) (ix n)))), (6, .long (lN (wrF r (ix x) (ix n) (ix t) v s))), (0, .ref h), (1, .int (nI (ix x))), (2, .int (nI (ix n))), (3, .int (nI (ix t))), (4, .int v), (5, .int (nI (ix p)))] [] [mo h a hi lm rm pc bi sd, eI Γ (a 0) 42 r, eI Γ (a 1) 42 (dwF r s k), eI Γ (a 6) 7 rf] := by
                                intro fL134
                                induction fL134 with
                                | zero => intro k hk hf; exact absurd hf (Nat.not_lt_zero _)
                                | succ fL134 ih_L134 =>
                                  intro k hk hfL134
                                  refine r_iload K dX7_winter_134 0 rfl ?_
                                  refine r_iload_n K dX7_winter_136 7 rfl ?_
                                  refine r_ic_geN K dX7_winter_137 (by omega) (by omega) (fun c137 => ?_) (fun c137 => ?_)
                                  · obtain rfl : k = ix n := by omega
                                    refine r_lload K dX7_winter_183 4 rfl ?_
                                    refine r_aload_n K dX7_winter_185 5 rfl ?_
                                    refine r_get K dX7_winter_186 (kf := 1) 0 rfl rfl hinX7 (by decide) q758 rfl rfl ?_
                                    refine r_iload_n K dX7_winter_189 6 rfl ?_
                                    refine r_iconst K dX7_winter_190 (nI 1) (by decide) ?_
                                    refine r_cSd K dX7_winter_191 (c_X7_ofG l Γ (ix x) 1) mX7_ofG q850 rfl (by decide) 4 rfl [] [0, 1, 2, 3] rfl rfl [mo h a hi lm rm pc bi sd, eI Γ (a 0) 42 r, eI Γ (a 1) 42 (dwF r s (ix n)), eI Γ (a 6) 7 rf] rfl [mo h a hi lm rm pc bi sd, eI Γ (a 0) 42 r, eI Γ (a 1) 42 (dwF r s (ix n)), eI Γ (a 6) 7 rf] rfl rfl rfl [.ref (a 1), .long (lN (wrF r (ix x) (ix n) (ix t) v s))] rfl (Nat.le_of_ble_eq_true rfl) ?_
                                    refine r_aldN K dX7_winter_194 2 rfl (by first | omega | exact iG_lt (by omega) (by decide) | exact iM_lt (by omega) (by decide)) (by decide) ?_
                                    refine r_aload_n K dX7_winter_195 5 rfl ?_
                                    refine r_get K dX7_winter_196 (kf := 0) 0 rfl rfl hinX7 (by decide) q757 rfl rfl ?_
                                    refine r_iload_n K dX7_winter_199 6 rfl ?_
                                    refine r_iconst K dX7_winter_200 (nI 1) (by decide) ?_
                                    refine r_cSd K dX7_winter_201 (c_X7_ofG l Γ (ix x) 1) mX7_ofG q850 rfl (by decide) 4 rfl [] [0, 1, 2, 3] rfl rfl [mo h a hi lm rm pc bi sd, eI Γ (a 0) 42 r, eI Γ (a 1) 42 (dwF r s (ix n)), eI Γ (a 6) 7 rf] rfl [mo h a hi lm rm pc bi sd, eI Γ (a 0) 42 r, eI Γ (a 1) 42 (dwF r s (ix n)), eI Γ (a 6) 7 rf] rfl rfl rfl [.ref (a 0), .int ((dwF r s (ix n)) (iG (ix x) 1)), .long (lN (wrF r (ix x) (ix n) (ix t) v s))] rfl (Nat.le_of_ble_eq_true rfl) ?_
                                    refine r_aldN K dX7_winter_204 1 rfl (by first | omega | exact iG_lt (by omega) (by decide) | exact iM_lt (by omega) (by decide)) (by decide) ?_
                                    refine r_isub K dX7_winter_205 ?_
                                    refine r_iload K dX7_winter_206 9 rfl ?_
                                    refine r_ic_lt K dX7_winter_208 (fun c208 => ?_) (fun c208 => ?_)
                                    · refine r_lconst K dX7_winter_216 (lN 0) (by decide) ?_
                                      refine r_ladd K dX7_winter_217 ?_
                                      refine r_lstore K dX7_winter_218 (by decide) (lv1 := [(6, .long ((lN (wrF r (ix x) (ix n) (ix t) v s)) + (lN 0))), (13, .int (nI (ix n))), (11, .long (lN (wgN s (ix t) (ix n)))), (10, .int (nI s)), (8, .long (lN (powS (ix t) (ix n)))), (0, .ref h), (1, .int (nI (ix x))), (2, .int (nI (ix n))), (3, .int (nI (ix t))), (4, .int v), (5, .int (nI (ix p)))]) rfl ?_
                                      refine r_iincN K dX7_winter_220 (n := 1) 3 rfl rfl (by decide) (lv1 := [(10, .int (nI (s + 1))), (6, .long ((lN (wrF r (ix x) (ix n) (ix t) v s)) + (lN 0))), (13, .int (nI (ix n))), (11, .long (lN (wgN s (ix t) (ix n)))), (8, .long (lN (powS (ix t) (ix n)))), (0, .ref h), (1, .int (nI (ix x))), (2, .int (nI (ix n))), (3, .int (nI (ix t))), (4, .int v), (5, .int (nI (ix p)))]) rfl ?_
                                      refine r_goto K dX7_winter_223 ?_
                                      refine r_lc (lv1 := [(10, .int (nI (s + 1))), (6, .long (lN (wrF r (ix x) (ix n) (ix t) v (s + 1)))), (13, .int (nI (ix n))), (11, .long (lN (wgN s (ix t) (ix n)))), (8, .long (lN (powS (ix t) (ix n)))), (0, .ref h), (1, .int (nI (ix x))), (2, .int (nI (ix n))), (3, .int (nI (ix t))), (4, .int v), (5, .int (nI (ix p)))]) (by rw [wrF_s, if_neg (Int32.not_le.mpr c208), lN_add]) ?_
                                      refine r_lv K [0, 4, 1, 5, 6, 7, 8, 9, 10] rfl ?_
                                      exact ih_L109 (s + 1) (dwF r s (ix n)) (by omega) (by omega)
                                    · refine r_lload K dX7_winter_211 1 rfl ?_
                                      refine r_goto K dX7_winter_213 ?_
                                      refine r_ladd K dX7_winter_217 ?_
                                      refine r_lstore K dX7_winter_218 (by decide) (lv1 := [(6, .long ((lN (wrF r (ix x) (ix n) (ix t) v s)) + (lN (wgN s (ix t) (ix n))))), (13, .int (nI (ix n))), (11, .long (lN (wgN s (ix t) (ix n)))), (10, .int (nI s)), (8, .long (lN (powS (ix t) (ix n)))), (0, .ref h), (1, .int (nI (ix x))), (2, .int (nI (ix n))), (3, .int (nI (ix t))), (4, .int v), (5, .int (nI (ix p)))]) rfl ?_
                                      refine r_iincN K dX7_winter_220 (n := 1) 3 rfl rfl (by decide) (lv1 := [(10, .int (nI (s + 1))), (6, .long ((lN (wrF r (ix x) (ix n) (ix t) v s)) + (lN (wgN s (ix t) (ix n))))), (13, .int (nI (ix n))), (11, .long (lN (wgN s (ix t) (ix n)))), (8, .long (lN (powS (ix t) (ix n)))), (0, .ref h), (1, .int (nI (ix x))), (2, .int (nI (ix n))), (3, .int (nI (ix t))), (4, .int v), (5, .int (nI (ix p)))]) rfl ?_
                                      refine r_goto K dX7_winter_223 ?_
                                      refine r_lc (lv1 := [(10, .int (nI (s + 1))), (6, .long (lN (wrF r (ix x) (ix n) (ix t) v (s + 1)))), (13, .int (nI (ix n))), (11, .long (lN (wgN s (ix t) (ix n)))), (8, .long (lN (powS (ix t) (ix n)))), (0, .ref h), (1, .int (nI (ix x))), (2, .int (nI (ix n))), (3, .int (nI (ix t))), (4, .int v), (5, .int (nI (ix p)))]) (by rw [wrF_s, if_pos (Int32.not_lt.mp c208), lN_add]) ?_
                                      refine r_lv K [0, 4, 1, 5, 6, 7, 8, 9, 10] rfl ?_
                                      exact ih_L109 (s + 1) (dwF r s (ix n)) (by omega) (by omega)
                                  · refine r_lload K dX7_winter_140 1 rfl ?_
                                    refine r_iload K dX7_winter_142 2 rfl ?_
                                    refine r_iload K dX7_winter_144 0 rfl ?_
                                    refine r_cSd K dX7_winter_146 (c_X7_has2 l Γ s k (by omega) (by first | assumption | omega)) mX7_has q1001 rfl (by decide) 4 rfl [] [0, 1, 2, 3] rfl rfl [mo h a hi lm rm pc bi sd, eI Γ (a 0) 42 r, eI Γ (a 1) 42 (dwF r s k), eI Γ (a 6) 7 rf] rfl [mo h a hi lm rm pc bi sd, eI Γ (a 0) 42 r, eI Γ (a 1) 42 (dwF r s k), eI Γ (a 6) 7 rf] rfl rfl rfl [.long (lN (wgN s (ix t) k))] rfl (Nat.le_of_ble_eq_true rfl) ?_
                                    refine r_ifeqB K dX7_winter_149 (fun c149 => ?_) (fun c149 => ?_)
                                    · refine r_iload_n K dX7_winter_156 8 rfl ?_
                                      refine r_iconst K dX7_winter_157 (nI 1) (by decide) ?_
                                      refine r_isubN K dX7_winter_158 (by omega) ?_
                                      refine r_i2l K dX7_winter_159 ?_
                                      refine r_topL (y := lN (ix t - 1)) (nI_l (by omega)) ?_
                                      refine r_lmul K dX7_winter_160 ?_
                                      refine r_lstore K dX7_winter_161 (by decide) (lv1 := [(11, .long ((lN (wgN s (ix t) k)) * (lN (ix t - 1)))), (13, .int (nI k)), (10, .int (nI s)), (8, .long (lN (powS (ix t) (ix n)))), (6, .long (lN (wrF r (ix x) (ix n) (ix t) v s))), (0, .ref h), (1, .int (nI (ix x))), (2, .int (nI (ix n))), (3, .int (nI (ix t))), (4, .int v), (5, .int (nI (ix p)))]) rfl ?_
                                      refine r_aload_n K dX7_winter_163 5 rfl ?_
                                      refine r_get K dX7_winter_164 (kf := 1) 0 rfl rfl hinX7 (by decide) q758 rfl rfl ?_
                                      refine r_iload K dX7_winter_167 2 rfl ?_
                                      refine r_iload K dX7_winter_169 1 rfl ?_
                                      refine r_cSd K dX7_winter_171 (c_X7_has2 l Γ s k (by omega) (by first | assumption | omega)) mX7_has q1001 rfl (by decide) 4 rfl [] [0, 1, 2, 3] rfl rfl [mo h a hi lm rm pc bi sd, eI Γ (a 0) 42 r, eI Γ (a 1) 42 (dwF r s k), eI Γ (a 6) 7 rf] rfl [mo h a hi lm rm pc bi sd, eI Γ (a 0) 42 r, eI Γ (a 1) 42 (dwF r s k), eI Γ (a 6) 7 rf] rfl rfl rfl [.ref (a 1)] rfl (Nat.le_of_ble_eq_true rfl) ?_
                                      refine r_cSn K dX7_winter_174 (c_X7_day l Γ (a 1) (dwF r s k) (hasB s k) (Inv_dwF hI k)) mX7_day q876 rfl (by decide) 4 rfl [2] [0, 1, 3] rfl rfl [mo h a hi lm rm pc bi sd, eI Γ (a 0) 42 r, eI Γ (a 6) 7 rf] rfl [mo h a hi lm rm pc bi sd, eI Γ (a 0) 42 r, eI Γ (a 1) 42 (dayB (dwF r s k) (hasB s k)), eI Γ (a 6) 7 rf] rfl rfl rfl [] rfl (Nat.le_of_ble_eq_true rfl) ?_
                                      refine r_iincN K dX7_winter_177 (n := 1) 1 rfl rfl (by decide) (lv1 := [(13, .int (nI (k + 1))), (11, .long ((lN (wgN s (ix t) k)) * (lN (ix t - 1)))), (10, .int (nI s)), (8, .long (lN (powS (ix t) (ix n)))), (6, .long (lN (wrF r (ix x) (ix n) (ix t) v s))), (0, .ref h), (1, .int (nI (ix x))), (2, .int (nI (ix n))), (3, .int (nI (ix t))), (4, .int v), (5, .int (nI (ix p)))]) rfl ?_
                                      refine r_goto K dX7_winter_180 ?_
                                      refine r_lc (lv1 := [(13, .int (nI (k + 1))), (11, .long (lN (wgN s (ix t) (k + 1)))), (10, .int (nI s)), (8, .long (lN (powS (ix t) (ix n)))), (6, .long (lN (wrF r (ix x) (ix n) (ix t) v s))), (0, .ref h), (1, .int (nI (ix x))), (2, .int (nI (ix n))), (3, .int (nI (ix t))), (4, .int v), (5, .int (nI (ix p)))]) (by rw [lN_mul, wgN_s, if_neg (nt c149)]) ?_
                                      refine r_arr K (f2 := dwF r s (k + 1)) (ws1 := [mo h a hi lm rm pc bi sd, eI Γ (a 0) 42 r, eI Γ (a 1) 42 (dwF r s (k + 1)), eI Γ (a 6) 7 rf]) 2 rfl (fun _ _ => rfl) rfl ?_
                                      exact ih_L134 (k + 1) (by omega) (by omega)
                                    · refine r_lconst K dX7_winter_152 (lN 1) (by decide) ?_
                                      refine r_goto K dX7_winter_153 ?_
                                      refine r_lmul K dX7_winter_160 ?_
                                      refine r_lstore K dX7_winter_161 (by decide) (lv1 := [(11, .long ((lN (wgN s (ix t) k)) * (lN 1))), (13, .int (nI k)), (10, .int (nI s)), (8, .long (lN (powS (ix t) (ix n)))), (6, .long (lN (wrF r (ix x) (ix n) (ix t) v s))), (0, .ref h), (1, .int (nI (ix x))), (2, .int (nI (ix n))), (3, .int (nI (ix t))), (4, .int v), (5, .int (nI (ix p)))]) rfl ?_
                                      refine r_aload_n K dX7_winter_163 5 rfl ?_
                                      refine r_get K dX7_winter_164 (kf := 1) 0 rfl rfl hinX7 (by decide) q758 rfl rfl ?_
                                      refine r_iload K dX7_winter_167 2 rfl ?_
                                      refine r_iload K dX7_winter_169 1 rfl ?_
                                      refine r_cSd K dX7_winter_171 (c_X7_has2 l Γ s k (by omega) (by first | assumption | omega)) mX7_has q1001 rfl (by decide) 4 rfl [] [0, 1, 2, 3] rfl rfl [mo h a hi lm rm pc bi sd, eI Γ (a 0) 42 r, eI Γ (a 1) 42 (dwF r s k), eI Γ (a 6) 7 rf] rfl [mo h a hi lm rm pc bi sd, eI Γ (a 0) 42 r, eI Γ (a 1) 42 (dwF r s k), eI Γ (a 6) 7 rf] rfl rfl rfl [.ref (a 1)] rfl (Nat.le_of_ble_eq_true rfl) ?_
                                      refine r_cSn K dX7_winter_174 (c_X7_day l Γ (a 1) (dwF r s k) (hasB s k) (Inv_dwF hI k)) mX7_day q876 rfl (by decide) 4 rfl [2] [0, 1, 3] rfl rfl [mo h a hi lm rm pc bi sd, eI Γ (a 0) 42 r, eI Γ (a 6) 7 rf] rfl [mo h a hi lm rm pc bi sd, eI Γ (a 0) 42 r, eI Γ (a 1) 42 (dayB (dwF r s k) (hasB s k)), eI Γ (a 6) 7 rf] rfl rfl rfl [] rfl (Nat.le_of_ble_eq_true rfl) ?_
                                      refine r_iincN K dX7_winter_177 (n := 1) 1 rfl rfl (by decide) (lv1 := [(13, .int (nI (k + 1))), (11, .long ((lN (wgN s (ix t) k)) * (lN 1))), (10, .int (nI s)), (8, .long (lN (powS (ix t) (ix n)))), (6, .long (lN (wrF r (ix x) (ix n) (ix t) v s))), (0, .ref h), (1, .int (nI (ix x))), (2, .int (nI (ix n))), (3, .int (nI (ix t))), (4, .int v), (5, .int (nI (ix p)))]) rfl ?_
                                      refine r_goto K dX7_winter_180 ?_
                                      refine r_lc (lv1 := [(13, .int (nI (k + 1))), (11, .long (lN (wgN s (ix t) (k + 1)))), (10, .int (nI s)), (8, .long (lN (powS (ix t) (ix n)))), (6, .long (lN (wrF r (ix x) (ix n) (ix t) v s))), (0, .ref h), (1, .int (nI (ix x))), (2, .int (nI (ix n))), (3, .int (nI (ix t))), (4, .int v), (5, .int (nI (ix p)))]) (by rw [show lN 1 = lN 1 from rfl, lN_mul, wgN_s, if_pos c149]) ?_
                                      refine r_arr K (f2 := dwF r s (k + 1)) (ws1 := [mo h a hi lm rm pc bi sd, eI Γ (a 0) 42 r, eI Γ (a 1) 42 (dwF r s (k + 1)), eI Γ (a 6) 7 rf]) 2 rfl (fun _ _ => rfl) rfl ?_
                                      exact ih_L134 (k + 1) (by omega) (by omega)
                              refine r_lc (lv1 := [(13, .int (nI 0)), (11, .long (lN (wgN s (ix t) 0))), (10, .int (nI s)), (8, .long (lN (powS (ix t) (ix n)))), (6, .long (lN (wrF r (ix x) (ix n) (ix t) v s))), (0, .ref h), (1, .int (nI (ix x))), (2, .int (nI (ix n))), (3, .int (nI (ix t))), (4, .int v), (5, .int (nI (ix p)))]) (rfl) ?_
                              refine r_arr K (f2 := dwF r s 0) (ws1 := [mo h a hi lm rm pc bi sd, eI Γ (a 0) 42 r, eI Γ (a 1) 42 (dwF r s 0), eI Γ (a 6) 7 rf]) 2 rfl (fun _ _ => rfl) rfl ?_
                              exact L134 _ 0 (Nat.zero_le _) (Nat.lt_succ_self _)
                        refine r_lc (lv1 := [(10, .int (nI 0)), (8, .long (lN (powS (ix t) (ix n)))), (6, .long (lN (wrF r (ix x) (ix n) (ix t) v 0))), (0, .ref h), (1, .int (nI (ix x))), (2, .int (nI (ix n))), (3, .int (nI (ix t))), (4, .int v), (5, .int (nI (ix p)))]) (rfl) ?_
                        exact L109 _ 0 q (Nat.zero_le _) (Nat.lt_succ_self _)
                      · refine r_lload K dX7_winter_93 1 rfl ?_
                        refine r_iload_n K dX7_winter_95 6 rfl ?_
                        refine r_i2l K dX7_winter_96 ?_
                        refine r_topL (y := lN (ix t)) (nI_l (by omega)) ?_
                        refine r_lmul K dX7_winter_97 ?_
                        refine r_topL (y := lN (powS (ix t) (k + 1))) (by rw [lN_mul]; rfl) ?_
                        refine r_lstore K dX7_winter_98 (by decide) (lv1 := [(8, .long (lN (powS (ix t) (k + 1)))), (10, .int (nI k)), (6, .long (lN 0)), (0, .ref h), (1, .int (nI (ix x))), (2, .int (nI (ix n))), (3, .int (nI (ix t))), (4, .int v), (5, .int (nI (ix p)))]) rfl ?_
                        refine r_iincN K dX7_winter_100 (n := 1) 1 rfl rfl (by decide) (lv1 := [(10, .int (nI (k + 1))), (8, .long (lN (powS (ix t) (k + 1)))), (6, .long (lN 0)), (0, .ref h), (1, .int (nI (ix x))), (2, .int (nI (ix n))), (3, .int (nI (ix t))), (4, .int v), (5, .int (nI (ix p)))]) rfl ?_
                        refine r_goto K dX7_winter_103 ?_
                        exact ih_L87 (k + 1) (by omega) (by omega)
                  refine r_lc (lv1 := [(10, .int (nI 0)), (8, .long (lN (powS (ix t) 0))), (6, .long (lN 0)), (0, .ref h), (1, .int (nI (ix x))), (2, .int (nI (ix n))), (3, .int (nI (ix t))), (4, .int v), (5, .int (nI (ix p)))]) (rfl) ?_
                  exact L87 _ 0 (Nat.zero_le _) (Nat.lt_succ_self _)
                · refine r_aload_n K dX7_winter_71 0 rfl ?_
                  refine r_bipush K dX7_winter_72 ((-2)) (by decide) ?_
                  refine r_cVd K dX7_winter_74 (c_X7_noWide l Γ h a hi lm rm pc bi sd rf (-2) (okR_2)) mX7_noWide q1064 rfl (by decide) rfl rfl 4 rfl [0, 3] [1, 2] rfl rfl [eI Γ (a 0) 42 r, eI Γ (a 1) 42 q] rfl [mo h a hi lm rm pc bi sd, eI Γ (a 0) 42 r, eI Γ (a 1) 42 q, eI Γ (a 6) 7 (nof rf (-2))] rfl rfl rfl [] rfl (Nat.le_of_ble_eq_true rfl) ?_
                  have he : eWinter r x n t v p = (-2) := by
                    unfold eWinter
                    rw [if_neg (not_not_intro c5), if_neg (fun z => z.elim c15 (fun z => z.elim c20 (fun z => absurd z (Int32.not_lt.mpr c25)))), if_neg (fun z => z.elim c38 (fun z => z.elim c44 (fun z => absurd z (Int32.not_lt.mpr c51)))), if_pos (nt c68)]
                  refine r_arr K (f2 := chE (eWinter r x n t v p) rf (nof rf (eWinter r x n t v p))) (ws1 := [mo h a hi lm rm pc bi sd, eI Γ (a 0) 42 r, eI Γ (a 1) 42 q, eI Γ (a 6) 7 (chE (eWinter r x n t v p) rf (nof rf (eWinter r x n t v p)))]) 3 rfl (fun _ _ => by rw [ch_n (g := nof rf) he (by decide)]) rfl ?_
                  exact hR q dX7_winter_77 (trivial) (e_rl (exL_n he (by decide))) (weq.rf)
              · refine r_aload_n K dX7_winter_54 0 rfl ?_
                refine r_bipush K dX7_winter_55 ((-6)) (by decide) ?_
                refine r_cVd K dX7_winter_57 (c_X7_noWide l Γ h a hi lm rm pc bi sd rf (-6) (okR_6)) mX7_noWide q1064 rfl (by decide) rfl rfl 4 rfl [0, 3] [1, 2] rfl rfl [eI Γ (a 0) 42 r, eI Γ (a 1) 42 q] rfl [mo h a hi lm rm pc bi sd, eI Γ (a 0) 42 r, eI Γ (a 1) 42 q, eI Γ (a 6) 7 (nof rf (-6))] rfl rfl rfl [] rfl (Nat.le_of_ble_eq_true rfl) ?_
                have he : eWinter r x n t v p = (-6) := by
                  unfold eWinter
                  rw [if_neg (not_not_intro c5), if_neg (fun z => z.elim c15 (fun z => z.elim c20 (fun z => absurd z (Int32.not_lt.mpr c25)))), if_pos (Or.inr (Or.inr (Int32.not_le.mp c51)))]
                refine r_arr K (f2 := chE (eWinter r x n t v p) rf (nof rf (eWinter r x n t v p))) (ws1 := [mo h a hi lm rm pc bi sd, eI Γ (a 0) 42 r, eI Γ (a 1) 42 q, eI Γ (a 6) 7 (chE (eWinter r x n t v p) rf (nof rf (eWinter r x n t v p)))]) 3 rfl (fun _ _ => by rw [ch_n (g := nof rf) he (by decide)]) rfl ?_
                exact hR q dX7_winter_60 (trivial) (e_rl (exL_n he (by decide))) (weq.rf)
        · refine r_aload_n K dX7_winter_28 0 rfl ?_
          refine r_bipush K dX7_winter_29 ((-4)) (by decide) ?_
          refine r_cVd K dX7_winter_31 (c_X7_noWide l Γ h a hi lm rm pc bi sd rf (-4) (okR_4)) mX7_noWide q1064 rfl (by decide) rfl rfl 4 rfl [0, 3] [1, 2] rfl rfl [eI Γ (a 0) 42 r, eI Γ (a 1) 42 q] rfl [mo h a hi lm rm pc bi sd, eI Γ (a 0) 42 r, eI Γ (a 1) 42 q, eI Γ (a 6) 7 (nof rf (-4))] rfl rfl rfl [] rfl (Nat.le_of_ble_eq_true rfl) ?_
          have he : eWinter r x n t v p = (-4) := by
            unfold eWinter
            rw [if_neg (not_not_intro c5), if_pos (Or.inr (Or.inr (Int32.not_le.mp c25)))]
          refine r_arr K (f2 := chE (eWinter r x n t v p) rf (nof rf (eWinter r x n t v p))) (ws1 := [mo h a hi lm rm pc bi sd, eI Γ (a 0) 42 r, eI Γ (a 1) 42 q, eI Γ (a 6) 7 (chE (eWinter r x n t v p) rf (nof rf (eWinter r x n t v p)))]) 3 rfl (fun _ _ => by rw [ch_n (g := nof rf) he (by decide)]) rfl ?_
          exact hR q dX7_winter_34 (trivial) (e_rl (exL_n he (by decide))) (weq.rf)
  · refine r_aload_n K dX7_winter_8 0 rfl ?_
    refine r_iconst K dX7_winter_9 ((-1)) (by decide) ?_
    refine r_cVd K dX7_winter_10 (c_X7_noWide l Γ h a hi lm rm pc bi sd rf (-1) (okR_1)) mX7_noWide q1064 rfl (by decide) rfl rfl 4 rfl [0, 3] [1, 2] rfl rfl [eI Γ (a 0) 42 r, eI Γ (a 1) 42 q] rfl [mo h a hi lm rm pc bi sd, eI Γ (a 0) 42 r, eI Γ (a 1) 42 q, eI Γ (a 6) 7 (nof rf (-1))] rfl rfl rfl [] rfl (Nat.le_of_ble_eq_true rfl) ?_
    have he : eWinter r x n t v p = (-1) := by
      unfold eWinter
      rw [if_pos (nt c5)]
    refine r_arr K (f2 := chE (eWinter r x n t v p) rf (nof rf (eWinter r x n t v p))) (ws1 := [mo h a hi lm rm pc bi sd, eI Γ (a 0) 42 r, eI Γ (a 1) 42 q, eI Γ (a 6) 7 (chE (eWinter r x n t v p) rf (nof rf (eWinter r x n t v p)))]) 3 rfl (fun _ _ => by rw [ch_n (g := nof rf) he (by decide)]) rfl ?_
    exact hR q dX7_winter_13 (trivial) (e_rl (exL_n he (by decide))) (weq.rf)
