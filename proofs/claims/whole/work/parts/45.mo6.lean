/-! THE REFERENCE: its seating -/
set_option maxHeartbeats 1000000 in
set_option maxRecDepth 20000 in
theorem c_X7_inchesGiven (l : Launch) (Γ : eG) (h : Nat) (a : Nat → Nat) (hi : Bool) (lm : Nat) (rm : Nat) (pc : Nat) (bi : Int32) (sd : Int32) (r : Nat → Int32) (gi : Nat → Int32) (po : Nat → Int32) (hI : Inv r) (hgi : giOK r gi (nM r)) : cD l Γ yX7_inchesGiven cX7_inchesGiven 3 (some .int) 2 [.ref h] [mo h a hi lm rm pc bi sd, eI Γ (a 0) 42 r, eI Γ (a 8) 6 gi, eI Γ (a 10) 5 po] (some (.int (igS r gi))) [mo h a hi lm rm pc bi sd, eI Γ (a 0) 42 r, eI Γ (a 8) 6 gi, eI Γ (a 10) 5 (poR r gi po (nM r))] := by
  refine e_int [(0, .ref h)] (by decide +kernel) (Nat.le_of_ble_eq_true rfl) rfl (fun V K hR => ?_)
  have h5 := hI.g
  have h6 := hI.m
  refine r_iconst K dX7_inchesGiven_0 (nI 0) (by decide) ?_
  refine r_istore_n K dX7_inchesGiven_1 rfl (by decide) (lv1 := [(1, .int (nI 0)), (0, .ref h)]) rfl ?_
  refine r_iconst K dX7_inchesGiven_2 (nI 0) (by decide) ?_
  refine r_istore_n K dX7_inchesGiven_3 rfl (by decide) (lv1 := [(2, .int (nI 0)), (1, .int (nI 0)), (0, .ref h)]) rfl ?_
  have L4 : ∀ (fL4 : Nat) (k : Nat), (k ≤ nG r) → nG r - k < fL4 → V 4 [(2, .int (nI k)), (1, .int (nI 0)), (0, .ref h)] [] [mo h a hi lm rm pc bi sd, eI Γ (a 0) 42 r, eI Γ (a 8) 6 gi, eI Γ (a 10) 5 (cpF (fun _ => -9) po k)] := by
    intro fL4
    induction fL4 with
    | zero => intro k hk hf; exact absurd hf (Nat.not_lt_zero _)
    | succ fL4 ih_L4 =>
      intro k hk hfL4
      refine r_iload_n K dX7_inchesGiven_4 0 rfl ?_
      refine r_aload_n K dX7_inchesGiven_5 2 rfl ?_
      refine r_get K dX7_inchesGiven_6 (kf := 0) 0 rfl rfl hinX7 (by decide) q757 rfl rfl ?_
      refine r_iconst K dX7_inchesGiven_9 (nI 0) (by decide) ?_
      refine r_aldN K dX7_inchesGiven_10 1 rfl (by first | omega | exact iG_lt (by omega) (by decide) | exact iM_lt (by omega) (by decide)) (by decide) ?_
      refine r_top (y := nI (nG r)) (hI.r0) ?_
      refine r_ic_geN K dX7_inchesGiven_11 (by omega) (by omega) (fun c11 => ?_) (fun c11 => ?_)
      · obtain rfl : k = nG r := by omega
        refine r_iconst K dX7_inchesGiven_28 (nI 0) (by decide) ?_
        refine r_istore_n K dX7_inchesGiven_29 rfl (by decide) (lv1 := [(2, .int (nI 0)), (1, .int (nI 0)), (0, .ref h)]) rfl ?_
        have L30 : ∀ (fL30 : Nat) (p : Nat), (p ≤ nM r) → nM r - p < fL30 → V 30 [(2, .int (nI p)), (1, .int (nI 0)), (0, .ref h)] [] [mo h a hi lm rm pc bi sd, eI Γ (a 0) 42 r, eI Γ (a 8) 6 gi, eI Γ (a 10) 5 (poR r gi po p)] := by
          intro fL30
          induction fL30 with
          | zero => intro p hp hf; exact absurd hf (Nat.not_lt_zero _)
          | succ fL30 ih_L30 =>
            intro p hp hfL30
            refine r_iload_n K dX7_inchesGiven_30 0 rfl ?_
            refine r_aload_n K dX7_inchesGiven_31 2 rfl ?_
            refine r_get K dX7_inchesGiven_32 (kf := 0) 0 rfl rfl hinX7 (by decide) q757 rfl rfl ?_
            refine r_iconst K dX7_inchesGiven_35 (nI 1) (by decide) ?_
            refine r_aldN K dX7_inchesGiven_36 1 rfl (by first | omega | exact iG_lt (by omega) (by decide) | exact iM_lt (by omega) (by decide)) (by decide) ?_
            refine r_top (y := nI (nM r)) (hI.r1) ?_
            refine r_ic_geN K dX7_inchesGiven_37 (by omega) (by omega) (fun c37 => ?_) (fun c37 => ?_)
            · obtain rfl : p = nM r := by omega
              refine r_iconst K dX7_inchesGiven_95 (nI 0) (by decide) ?_
              refine r_istore_n K dX7_inchesGiven_96 rfl (by decide) (lv1 := [(2, .int (nI 0)), (1, .int (nI 0)), (0, .ref h)]) rfl ?_
              have L97 : ∀ (fL97 : Nat) (g : Nat) (v : Int32), (g ≤ nG r) → (v = sumTo (igF r gi) g) → nG r - g < fL97 → V 97 [(2, .int (nI g)), (1, .int v), (0, .ref h)] [] [mo h a hi lm rm pc bi sd, eI Γ (a 0) 42 r, eI Γ (a 8) 6 gi, eI Γ (a 10) 5 (poR r gi po (nM r))] := by
                intro fL97
                induction fL97 with
                | zero => intro g v hg hv hf; exact absurd hf (Nat.not_lt_zero _)
                | succ fL97 ih_L97 =>
                  intro g v hg hv hfL97
                  refine r_iload_n K dX7_inchesGiven_97 0 rfl ?_
                  refine r_aload_n K dX7_inchesGiven_98 2 rfl ?_
                  refine r_get K dX7_inchesGiven_99 (kf := 0) 0 rfl rfl hinX7 (by decide) q757 rfl rfl ?_
                  refine r_iconst K dX7_inchesGiven_102 (nI 0) (by decide) ?_
                  refine r_aldN K dX7_inchesGiven_103 1 rfl (by first | omega | exact iG_lt (by omega) (by decide) | exact iM_lt (by omega) (by decide)) (by decide) ?_
                  refine r_top (y := nI (nG r)) (hI.r0) ?_
                  refine r_ic_geN K dX7_inchesGiven_104 (by omega) (by omega) (fun c104 => ?_) (fun c104 => ?_)
                  · obtain rfl : g = nG r := by omega
                    refine r_iload_n K dX7_inchesGiven_159 1 rfl ?_
                    exact hR () dX7_inchesGiven_160 (trivial) (e_ri (hv.symm)) (weq.rf)
                  · refine r_iload_n K dX7_inchesGiven_107 1 rfl ?_
                    refine r_aload_n K dX7_inchesGiven_108 2 rfl ?_
                    refine r_get K dX7_inchesGiven_109 (kf := 14) 0 rfl rfl hinX7 (by decide) q771 rfl rfl ?_
                    refine r_iload_n K dX7_inchesGiven_112 0 rfl ?_
                    refine r_aldN K dX7_inchesGiven_113 3 rfl (by first | omega | exact iG_lt (by omega) (by decide) | exact iM_lt (by omega) (by decide)) (by decide) ?_
                    refine r_top (y := poN r gi g (nM r)) (poR_in (by omega)) ?_
                    refine r_if_ge K dX7_inchesGiven_114 (fun c114 => ?_) (fun c114 => ?_)
                    · refine r_aload_n K dX7_inchesGiven_121 2 rfl ?_
                      refine r_get K dX7_inchesGiven_122 (kf := 0) 0 rfl rfl hinX7 (by decide) q757 rfl rfl ?_
                      refine r_iload_n K dX7_inchesGiven_125 0 rfl ?_
                      refine r_iconst K dX7_inchesGiven_126 (nI 2) (by decide) ?_
                      refine r_cSd K dX7_inchesGiven_127 (c_X7_ofG l Γ g 2) mX7_ofG q850 rfl (by decide) 4 rfl [] [0, 1, 2, 3] rfl rfl [mo h a hi lm rm pc bi sd, eI Γ (a 0) 42 r, eI Γ (a 8) 6 gi, eI Γ (a 10) 5 (poR r gi po (nM r))] rfl [mo h a hi lm rm pc bi sd, eI Γ (a 0) 42 r, eI Γ (a 8) 6 gi, eI Γ (a 10) 5 (poR r gi po (nM r))] rfl rfl rfl [.ref (a 0), .int v] rfl (Nat.le_of_ble_eq_true rfl) ?_
                      refine r_aldN K dX7_inchesGiven_130 1 rfl (by first | omega | exact iG_lt (by omega) (by decide) | exact iM_lt (by omega) (by decide)) (by decide) ?_
                      refine r_aload_n K dX7_inchesGiven_131 2 rfl ?_
                      refine r_get K dX7_inchesGiven_132 (kf := 14) 0 rfl rfl hinX7 (by decide) q771 rfl rfl ?_
                      refine r_iload_n K dX7_inchesGiven_135 0 rfl ?_
                      refine r_aldN K dX7_inchesGiven_136 3 rfl (by first | omega | exact iG_lt (by omega) (by decide) | exact iM_lt (by omega) (by decide)) (by decide) ?_
                      refine r_top (y := poN r gi g (nM r)) (poR_in (by omega)) ?_
                      refine r_iadd K dX7_inchesGiven_137 ?_
                      refine r_aload_n K dX7_inchesGiven_138 2 rfl ?_
                      refine r_get K dX7_inchesGiven_139 (kf := 0) 0 rfl rfl hinX7 (by decide) q757 rfl rfl ?_
                      refine r_iload_n K dX7_inchesGiven_142 0 rfl ?_
                      refine r_iconst K dX7_inchesGiven_143 (nI 0) (by decide) ?_
                      refine r_cSd K dX7_inchesGiven_144 (c_X7_ofG l Γ g 0) mX7_ofG q850 rfl (by decide) 4 rfl [] [0, 1, 2, 3] rfl rfl [mo h a hi lm rm pc bi sd, eI Γ (a 0) 42 r, eI Γ (a 8) 6 gi, eI Γ (a 10) 5 (poR r gi po (nM r))] rfl [mo h a hi lm rm pc bi sd, eI Γ (a 0) 42 r, eI Γ (a 8) 6 gi, eI Γ (a 10) 5 (poR r gi po (nM r))] rfl rfl rfl [.ref (a 0), .int ((r (iG g 2)) + (poN r gi g (nM r))), .int v] rfl (Nat.le_of_ble_eq_true rfl) ?_
                      refine r_aldN K dX7_inchesGiven_147 1 rfl (by first | omega | exact iG_lt (by omega) (by decide) | exact iM_lt (by omega) (by decide)) (by decide) ?_
                      refine r_iconst K dX7_inchesGiven_148 (nI 1) (by decide) ?_
                      refine r_iadd K dX7_inchesGiven_149 ?_
                      refine r_idiv K dX7_inchesGiven_150 (hd1_ne (hI.gH (by omega))) ?_
                      refine r_iadd K dX7_inchesGiven_151 ?_
                      refine r_istore_n K dX7_inchesGiven_152 rfl (by decide) (lv1 := [(1, .int (v + (((r (iG g 2)) + (poN r gi g (nM r))) / ((r (iG g 0)) + (nI 1))))), (2, .int (nI g)), (0, .ref h)]) rfl ?_
                      refine r_iincN K dX7_inchesGiven_153 (n := 1) 1 rfl rfl (by decide) (lv1 := [(2, .int (nI (g + 1))), (1, .int (v + (((r (iG g 2)) + (poN r gi g (nM r))) / ((r (iG g 0)) + (nI 1))))), (0, .ref h)]) rfl ?_
                      refine r_goto K dX7_inchesGiven_156 ?_
                      exact ih_L97 (g + 1) (v + (((r (iG g 2)) + (poN r gi g (nM r))) / ((r (iG g 0)) + (nI 1)))) (by omega) (by rw [hv, ← igF_n (Int32.not_lt.mpr c114)]; rfl) (by omega)
                    · refine r_iconst K dX7_inchesGiven_117 (nI 0) (by decide) ?_
                      refine r_goto K dX7_inchesGiven_118 ?_
                      refine r_iadd K dX7_inchesGiven_151 ?_
                      refine r_istore_n K dX7_inchesGiven_152 rfl (by decide) (lv1 := [(1, .int (v + (nI 0))), (2, .int (nI g)), (0, .ref h)]) rfl ?_
                      refine r_iincN K dX7_inchesGiven_153 (n := 1) 1 rfl rfl (by decide) (lv1 := [(2, .int (nI (g + 1))), (1, .int (v + (nI 0))), (0, .ref h)]) rfl ?_
                      refine r_goto K dX7_inchesGiven_156 ?_
                      exact ih_L97 (g + 1) (v + (nI 0)) (by omega) (by rw [hv, ← igF_0 (Int32.not_le.mp c114)]; rfl) (by omega)
              exact L97 _ 0 (nI 0) (Nat.zero_le _) (rfl) (Nat.lt_succ_self _)
            · obtain ⟨gp, hgp, egp⟩ := hgi p (by omega)
              refine r_aload_n K dX7_inchesGiven_40 2 rfl ?_
              refine r_get K dX7_inchesGiven_41 (kf := 14) 0 rfl rfl hinX7 (by decide) q771 rfl rfl ?_
              refine r_aload_n K dX7_inchesGiven_44 2 rfl ?_
              refine r_get K dX7_inchesGiven_45 (kf := 12) 0 rfl rfl hinX7 (by decide) q769 rfl rfl ?_
              refine r_iload_n K dX7_inchesGiven_48 0 rfl ?_
              refine r_aldN K dX7_inchesGiven_49 2 rfl (by first | omega | exact iG_lt (by omega) (by decide) | exact iM_lt (by omega) (by decide)) (by decide) ?_
              refine r_top (y := nI gp) (egp) ?_
              refine r_aload_n K dX7_inchesGiven_50 2 rfl ?_
              refine r_get K dX7_inchesGiven_51 (kf := 14) 0 rfl rfl hinX7 (by decide) q771 rfl rfl ?_
              refine r_aload_n K dX7_inchesGiven_54 2 rfl ?_
              refine r_get K dX7_inchesGiven_55 (kf := 12) 0 rfl rfl hinX7 (by decide) q769 rfl rfl ?_
              refine r_iload_n K dX7_inchesGiven_58 0 rfl ?_
              refine r_aldN K dX7_inchesGiven_59 2 rfl (by first | omega | exact iG_lt (by omega) (by decide) | exact iM_lt (by omega) (by decide)) (by decide) ?_
              refine r_top (y := nI gp) (egp) ?_
              refine r_aldN K dX7_inchesGiven_60 3 rfl (by first | omega | exact iG_lt (by omega) (by decide) | exact iM_lt (by omega) (by decide)) (by decide) ?_
              refine r_top (y := poN r gi gp p) (poR_in hgp) ?_
              refine r_if_ge K dX7_inchesGiven_61 (fun c61 => ?_) (fun c61 => ?_)
              · refine r_aload_n K dX7_inchesGiven_68 2 rfl ?_
                refine r_get K dX7_inchesGiven_69 (kf := 14) 0 rfl rfl hinX7 (by decide) q771 rfl rfl ?_
                refine r_aload_n K dX7_inchesGiven_72 2 rfl ?_
                refine r_get K dX7_inchesGiven_73 (kf := 12) 0 rfl rfl hinX7 (by decide) q769 rfl rfl ?_
                refine r_iload_n K dX7_inchesGiven_76 0 rfl ?_
                refine r_aldN K dX7_inchesGiven_77 2 rfl (by first | omega | exact iG_lt (by omega) (by decide) | exact iM_lt (by omega) (by decide)) (by decide) ?_
                refine r_top (y := nI gp) (egp) ?_
                refine r_aldN K dX7_inchesGiven_78 3 rfl (by first | omega | exact iG_lt (by omega) (by decide) | exact iM_lt (by omega) (by decide)) (by decide) ?_
                refine r_top (y := poN r gi gp p) (poR_in hgp) ?_
                refine r_aload_n K dX7_inchesGiven_79 2 rfl ?_
                refine r_get K dX7_inchesGiven_80 (kf := 0) 0 rfl rfl hinX7 (by decide) q757 rfl rfl ?_
                refine r_iload_n K dX7_inchesGiven_83 0 rfl ?_
                refine r_cSd K dX7_inchesGiven_84 (c_X7_weeps l Γ (a 0) r p (by first | assumption | omega)) mX7_weeps q879 rfl (by decide) 4 rfl [1] [0, 2, 3] rfl rfl [mo h a hi lm rm pc bi sd, eI Γ (a 8) 6 gi, eI Γ (a 10) 5 (poR r gi po p)] rfl [mo h a hi lm rm pc bi sd, eI Γ (a 0) 42 r, eI Γ (a 8) 6 gi, eI Γ (a 10) 5 (poR r gi po p)] rfl rfl rfl [.int (poN r gi gp p), .int (nI gp), .ref (a 10)] rfl (Nat.le_of_ble_eq_true rfl) ?_
                refine r_iadd K dX7_inchesGiven_87 ?_
                refine r_astN K dX7_inchesGiven_88 (ws1 := [mo h a hi lm rm pc bi sd, eI Γ (a 0) 42 r, eI Γ (a 8) 6 gi, eI Γ (a 10) 5 (upd (poR r gi po p) gp ((poN r gi gp p) + (weepS r p)))]) 3 rfl (by first | omega | exact iG_lt (by omega) (by decide) | exact iM_lt (by omega) (by decide)) (by decide) rfl ?_
                refine r_iincN K dX7_inchesGiven_89 (n := 1) 0 rfl rfl (by decide) (lv1 := [(2, .int (nI (p + 1))), (1, .int (nI 0)), (0, .ref h)]) rfl ?_
                refine r_goto K dX7_inchesGiven_92 ?_
                refine r_arr K (f2 := poR r gi po (p + 1)) (ws1 := [mo h a hi lm rm pc bi sd, eI Γ (a 0) 42 r, eI Γ (a 8) 6 gi, eI Γ (a 10) 5 (poR r gi po (p + 1))]) 3 rfl (fun _ _ => by rw [← poR_s hgp h5 egp, if_neg (Int32.not_lt.mpr c61)]) rfl ?_
                exact ih_L30 (p + 1) (by omega) (by omega)
              · refine r_iconst K dX7_inchesGiven_64 (nI 0) (by decide) ?_
                refine r_goto K dX7_inchesGiven_65 ?_
                refine r_aload_n K dX7_inchesGiven_79 2 rfl ?_
                refine r_get K dX7_inchesGiven_80 (kf := 0) 0 rfl rfl hinX7 (by decide) q757 rfl rfl ?_
                refine r_iload_n K dX7_inchesGiven_83 0 rfl ?_
                refine r_cSd K dX7_inchesGiven_84 (c_X7_weeps l Γ (a 0) r p (by first | assumption | omega)) mX7_weeps q879 rfl (by decide) 4 rfl [1] [0, 2, 3] rfl rfl [mo h a hi lm rm pc bi sd, eI Γ (a 8) 6 gi, eI Γ (a 10) 5 (poR r gi po p)] rfl [mo h a hi lm rm pc bi sd, eI Γ (a 0) 42 r, eI Γ (a 8) 6 gi, eI Γ (a 10) 5 (poR r gi po p)] rfl rfl rfl [.int (nI 0), .int (nI gp), .ref (a 10)] rfl (Nat.le_of_ble_eq_true rfl) ?_
                refine r_iadd K dX7_inchesGiven_87 ?_
                refine r_astN K dX7_inchesGiven_88 (ws1 := [mo h a hi lm rm pc bi sd, eI Γ (a 0) 42 r, eI Γ (a 8) 6 gi, eI Γ (a 10) 5 (upd (poR r gi po p) gp ((nI 0) + (weepS r p)))]) 3 rfl (by first | omega | exact iG_lt (by omega) (by decide) | exact iM_lt (by omega) (by decide)) (by decide) rfl ?_
                refine r_iincN K dX7_inchesGiven_89 (n := 1) 0 rfl rfl (by decide) (lv1 := [(2, .int (nI (p + 1))), (1, .int (nI 0)), (0, .ref h)]) rfl ?_
                refine r_goto K dX7_inchesGiven_92 ?_
                refine r_arr K (f2 := poR r gi po (p + 1)) (ws1 := [mo h a hi lm rm pc bi sd, eI Γ (a 0) 42 r, eI Γ (a 8) 6 gi, eI Γ (a 10) 5 (poR r gi po (p + 1))]) 3 rfl (fun _ _ => by rw [← poR_s hgp h5 egp, if_pos (Int32.not_le.mp c61)]) rfl ?_
                exact ih_L30 (p + 1) (by omega) (by omega)
        refine r_arr K (f2 := poR r gi po 0) (ws1 := [mo h a hi lm rm pc bi sd, eI Γ (a 0) 42 r, eI Γ (a 8) 6 gi, eI Γ (a 10) 5 (poR r gi po 0)]) 3 rfl (fun _ _ => by rw [poR_0]) rfl ?_
        exact L30 _ 0 (Nat.zero_le _) (Nat.lt_succ_self _)
      · refine r_aload_n K dX7_inchesGiven_14 2 rfl ?_
        refine r_get K dX7_inchesGiven_15 (kf := 14) 0 rfl rfl hinX7 (by decide) q771 rfl rfl ?_
        refine r_iload_n K dX7_inchesGiven_18 0 rfl ?_
        refine r_bipush K dX7_inchesGiven_19 ((-9)) (by decide) ?_
        refine r_astN K dX7_inchesGiven_21 (ws1 := [mo h a hi lm rm pc bi sd, eI Γ (a 0) 42 r, eI Γ (a 8) 6 gi, eI Γ (a 10) 5 (upd (cpF (fun _ => -9) po k) k (-9))]) 3 rfl (by first | omega | exact iG_lt (by omega) (by decide) | exact iM_lt (by omega) (by decide)) (by decide) rfl ?_
        refine r_iincN K dX7_inchesGiven_22 (n := 1) 0 rfl rfl (by decide) (lv1 := [(2, .int (nI (k + 1))), (1, .int (nI 0)), (0, .ref h)]) rfl ?_
        refine r_goto K dX7_inchesGiven_25 ?_
        refine r_arr K (f2 := cpF (fun _ => -9) po (k + 1)) (ws1 := [mo h a hi lm rm pc bi sd, eI Γ (a 0) 42 r, eI Γ (a 8) 6 gi, eI Γ (a 10) 5 (cpF (fun _ => -9) po (k + 1))]) 3 rfl (fun _ _ => by rw [← cpF_s]) rfl ?_
        exact ih_L4 (k + 1) (by omega) (by omega)
  refine r_arr K (f2 := cpF (fun _ => -9) po 0) (ws1 := [mo h a hi lm rm pc bi sd, eI Γ (a 0) 42 r, eI Γ (a 8) 6 gi, eI Γ (a 10) 5 (cpF (fun _ => -9) po 0)]) 3 rfl (fun _ _ => by rw [cpF_0]) rfl ?_
  exact L4 _ 0 (Nat.zero_le _) (Nat.lt_succ_self _)
set_option maxHeartbeats 1000000 in
set_option maxRecDepth 20000 in
theorem c_X7_seats0 (l : Launch) (Γ : eG) (h : Nat) (a : Nat → Nat) (hi : Bool) (lm : Nat) (rm : Nat) (pc : Nat) (bi : Int32) (sd : Int32) (r : Nat → Int32) (gi : Nat → Int32) (bg : Nat → Int32) (po : Nat → Int32) (p : Nat) (hI : Inv r) (hpd : p + 0 = nM r) (hgi : giOK r gi p) : cE l Γ yX7_seats cX7_seats 4 (none) 3 [.ref h, .int (nI p)] [mo h a hi lm rm pc bi sd, eI Γ (a 0) 42 r, eI Γ (a 8) 6 gi, eI Γ (a 9) 6 bg, eI Γ (a 10) 5 po] (S := Nat → Int32) (fun u => True) (fun u => none) (fun u => [mo h a hi lm rm pc ((seF r 0 (gi, bg, bi)).2.2) sd, eI Γ (a 0) 42 r, eI Γ (a 8) 6 ((seF r 0 (gi, bg, bi)).1), eI Γ (a 9) 6 ((seF r 0 (gi, bg, bi)).2.1), eI Γ (a 10) 5 u]) := by
  refine e_void [(0, .ref h), (1, .int (nI p))] (by decide +kernel) (Nat.le_of_ble_eq_true rfl) rfl (fun V K hR => ?_)
  have h5 := hI.g
  have h6 := hI.m
  refine r_iload_n K dX7_seats_0 1 rfl ?_
  refine r_aload_n K dX7_seats_1 0 rfl ?_
  refine r_get K dX7_seats_2 (kf := 0) 0 rfl rfl hinX7 (by decide) q757 rfl rfl ?_
  refine r_iconst K dX7_seats_5 (nI 1) (by decide) ?_
  refine r_aldN K dX7_seats_6 1 rfl (by first | omega | exact iG_lt (by omega) (by decide) | exact iM_lt (by omega) (by decide)) (by decide) ?_
  refine r_top (y := nI (nM r)) (hI.r1) ?_
  refine r_ic_neN K dX7_seats_7 (by omega) (by omega) (fun c7 => ?_) (fun c7 => ?_)
  · exact absurd hpd (by omega)
  · refine r_aload_n K dX7_seats_10 0 rfl ?_
    refine r_cVd K dX7_seats_11 (c_X7_inchesGiven l Γ h a hi lm rm pc bi sd r gi po (hI) (by rw [show nM r = p by omega]; exact hgi)) mX7_inchesGiven q986 rfl (by decide) rfl rfl 5 rfl [0, 1, 2, 4] [3] rfl rfl [eI Γ (a 9) 6 bg] rfl [mo h a hi lm rm pc bi sd, eI Γ (a 0) 42 r, eI Γ (a 8) 6 gi, eI Γ (a 9) 6 bg, eI Γ (a 10) 5 (poR r gi po (nM r))] rfl rfl rfl [] rfl (Nat.le_of_ble_eq_true rfl) ?_
    refine r_istore_n K dX7_seats_14 rfl (by decide) (lv1 := [(2, .int (igS r gi)), (0, .ref h), (1, .int (nI p))]) rfl ?_
    refine r_iload_n K dX7_seats_15 0 rfl ?_
    refine r_aload_n K dX7_seats_16 1 rfl ?_
    refine r_get K dX7_seats_17 (kf := 15) 0 rfl rfl hinX7 (by decide) q772 rfl rfl ?_
    refine r_ic_gt K dX7_seats_20 (fun c20 => ?_) (fun c20 => ?_)
    · refine r_aload_n K dX7_seats_24 1 rfl ?_
      refine r_iload_n K dX7_seats_25 0 rfl ?_
      refine r_put K dX7_seats_26 (kf := 15) (ty := .int) (ws1 := [mo h a hi lm rm pc (igS r gi) sd, eI Γ (a 0) 42 r, eI Γ (a 8) 6 gi, eI Γ (a 9) 6 bg, eI Γ (a 10) 5 (poR r gi po (nM r))]) 0 rfl rfl hinX7 tyX7 tyX7_ok nmX7 (by decide) q772 rfl (by decide +kernel) rfl rfl (Nat.le_of_ble_eq_true rfl) rfl ?_
      refine r_iconst K dX7_seats_29 (nI 0) (by decide) ?_
      refine r_istore_n K dX7_seats_30 rfl (by decide) (lv1 := [(3, .int (nI 0)), (2, .int (igS r gi)), (0, .ref h), (1, .int (nI p))]) rfl ?_
      have L31 : ∀ (fL31 : Nat) (k : Nat), (k ≤ 6) → 6 - k < fL31 → V 31 [(3, .int (nI k)), (2, .int (igS r gi)), (0, .ref h), (1, .int (nI p))] [] [mo h a hi lm rm pc (igS r gi) sd, eI Γ (a 0) 42 r, eI Γ (a 8) 6 gi, eI Γ (a 9) 6 (cpF gi bg k), eI Γ (a 10) 5 (poR r gi po (nM r))] := by
        intro fL31
        induction fL31 with
        | zero => intro k hk hf; exact absurd hf (Nat.not_lt_zero _)
        | succ fL31 ih_L31 =>
          intro k hk hfL31
          refine r_iload_n K dX7_seats_31 0 rfl ?_
          refine r_bipush K dX7_seats_32 (nI 6) (by decide) ?_
          refine r_ic_geN K dX7_seats_34 (by omega) (by omega) (fun c34 => ?_) (fun c34 => ?_)
          · obtain rfl : k = 6 := by omega
            refine r_arr K (f2 := gi) (ws1 := [mo h a hi lm rm pc (igS r gi) sd, eI Γ (a 0) 42 r, eI Γ (a 8) 6 gi, eI Γ (a 9) 6 gi, eI Γ (a 10) 5 (poR r gi po (nM r))]) 3 rfl (fun i hi => cpF_in hi) rfl ?_
            have hS := seF_0p (r := r) (gi := gi) (bg := bg) (bi := bi) (Int32.not_le.mpr c20)
            exact hR (poR r gi po (nM r)) dX7_seats_55 (trivial) rfl (by rw [hS]; exact weq.rf)
          · refine r_aload_n K dX7_seats_37 2 rfl ?_
            refine r_get K dX7_seats_38 (kf := 13) 0 rfl rfl hinX7 (by decide) q770 rfl rfl ?_
            refine r_iload_n K dX7_seats_41 0 rfl ?_
            refine r_aload_n K dX7_seats_42 2 rfl ?_
            refine r_get K dX7_seats_43 (kf := 12) 0 rfl rfl hinX7 (by decide) q769 rfl rfl ?_
            refine r_iload_n K dX7_seats_46 0 rfl ?_
            refine r_aldN K dX7_seats_47 2 rfl (by first | omega | exact iG_lt (by omega) (by decide) | exact iM_lt (by omega) (by decide)) (by decide) ?_
            refine r_astN K dX7_seats_48 (ws1 := [mo h a hi lm rm pc (igS r gi) sd, eI Γ (a 0) 42 r, eI Γ (a 8) 6 gi, eI Γ (a 9) 6 (upd (cpF gi bg k) k (gi k)), eI Γ (a 10) 5 (poR r gi po (nM r))]) 3 rfl (by first | omega | exact iG_lt (by omega) (by decide) | exact iM_lt (by omega) (by decide)) (by decide) rfl ?_
            refine r_iincN K dX7_seats_49 (n := 1) 0 rfl rfl (by decide) (lv1 := [(3, .int (nI (k + 1))), (2, .int (igS r gi)), (0, .ref h), (1, .int (nI p))]) rfl ?_
            refine r_goto K dX7_seats_52 ?_
            refine r_arr K (f2 := cpF gi bg (k + 1)) (ws1 := [mo h a hi lm rm pc (igS r gi) sd, eI Γ (a 0) 42 r, eI Γ (a 8) 6 gi, eI Γ (a 9) 6 (cpF gi bg (k + 1)), eI Γ (a 10) 5 (poR r gi po (nM r))]) 3 rfl (fun _ _ => by rw [← cpF_s]) rfl ?_
            exact ih_L31 (k + 1) (by omega) (by omega)
      refine r_arr K (f2 := cpF gi bg 0) (ws1 := [mo h a hi lm rm pc (igS r gi) sd, eI Γ (a 0) 42 r, eI Γ (a 8) 6 gi, eI Γ (a 9) 6 (cpF gi bg 0), eI Γ (a 10) 5 (poR r gi po (nM r))]) 3 rfl (fun _ _ => by rw [cpF_0]) rfl ?_
      exact L31 _ 0 (Nat.zero_le _) (Nat.lt_succ_self _)
    · have hS := seF_0n (r := r) (gi := gi) (bg := bg) (bi := bi) (Int32.not_lt.mp c20)
      exact hR (poR r gi po (nM r)) dX7_seats_23 (trivial) rfl (by rw [hS]; exact weq.rf)
set_option maxHeartbeats 1000000 in
set_option maxRecDepth 20000 in
theorem c_X7_seats1 (l : Launch) (Γ : eG) (h : Nat) (a : Nat → Nat) (hi : Bool) (lm : Nat) (rm : Nat) (pc : Nat) (bi : Int32) (sd : Int32) (r : Nat → Int32) (gi : Nat → Int32) (bg : Nat → Int32) (po : Nat → Int32) (p : Nat) (hI : Inv r) (hpd : p + 1 = nM r) (hgi : giOK r gi p) : cE l Γ yX7_seats cX7_seats 4 (none) 4 [.ref h, .int (nI p)] [mo h a hi lm rm pc bi sd, eI Γ (a 0) 42 r, eI Γ (a 8) 6 gi, eI Γ (a 9) 6 bg, eI Γ (a 10) 5 po] (S := Nat → Int32) (fun u => True) (fun u => none) (fun u => [mo h a hi lm rm pc ((seF r 1 (gi, bg, bi)).2.2) sd, eI Γ (a 0) 42 r, eI Γ (a 8) 6 ((seF r 1 (gi, bg, bi)).1), eI Γ (a 9) 6 ((seF r 1 (gi, bg, bi)).2.1), eI Γ (a 10) 5 u]) := by
  refine e_void [(0, .ref h), (1, .int (nI p))] (by decide +kernel) (Nat.le_of_ble_eq_true rfl) rfl (fun V K hR => ?_)
  have h5 := hI.g
  have h6 := hI.m
  refine r_iload_n K dX7_seats_0 1 rfl ?_
  refine r_aload_n K dX7_seats_1 0 rfl ?_
  refine r_get K dX7_seats_2 (kf := 0) 0 rfl rfl hinX7 (by decide) q757 rfl rfl ?_
  refine r_iconst K dX7_seats_5 (nI 1) (by decide) ?_
  refine r_aldN K dX7_seats_6 1 rfl (by first | omega | exact iG_lt (by omega) (by decide) | exact iM_lt (by omega) (by decide)) (by decide) ?_
  refine r_top (y := nI (nM r)) (hI.r1) ?_
  refine r_ic_neN K dX7_seats_7 (by omega) (by omega) (fun c7 => ?_) (fun c7 => ?_)
  · refine r_iconst K dX7_seats_56 (nI 0) (by decide) ?_
    refine r_istore_n K dX7_seats_57 rfl (by decide) (lv1 := [(2, .int (nI 0)), (0, .ref h), (1, .int (nI p))]) rfl ?_
    have L58 : ∀ (fL58 : Nat) (g : Nat) (po : Nat → Int32), (g ≤ nG r) → nG r - g < fL58 → V 58 [(2, .int (nI g)), (0, .ref h), (1, .int (nI p))] [] [mo h a hi lm rm pc ((seLoop (seF r 0) p g (gi, bg, bi)).2.2) sd, eI Γ (a 0) 42 r, eI Γ (a 8) 6 ((seLoop (seF r 0) p g (gi, bg, bi)).1), eI Γ (a 9) 6 ((seLoop (seF r 0) p g (gi, bg, bi)).2.1), eI Γ (a 10) 5 po] := by
      intro fL58
      induction fL58 with
      | zero => intro g po hg hf; exact absurd hf (Nat.not_lt_zero _)
      | succ fL58 ih_L58 =>
        intro g po hg hfL58
        refine r_iload_n K dX7_seats_58 0 rfl ?_
        refine r_aload_n K dX7_seats_59 1 rfl ?_
        refine r_get K dX7_seats_60 (kf := 0) 0 rfl rfl hinX7 (by decide) q757 rfl rfl ?_
        refine r_iconst K dX7_seats_63 (nI 0) (by decide) ?_
        refine r_aldN K dX7_seats_64 1 rfl (by first | omega | exact iG_lt (by omega) (by decide) | exact iM_lt (by omega) (by decide)) (by decide) ?_
        refine r_top (y := nI (nG r)) (hI.r0) ?_
        refine r_ic_geN K dX7_seats_65 (by omega) (by omega) (fun c65 => ?_) (fun c65 => ?_)
        · obtain rfl : g = nG r := by omega
          have hS : seF r 1 (gi, bg, bi) = seLoop (seF r 0) p (nG r) (gi, bg, bi) := by rw [seF_s, show nM r - (0 + 1) = p by omega]
          exact hR po dX7_seats_88 (trivial) rfl (by rw [hS]; exact weq.rf)
        · refine r_aload_n K dX7_seats_68 1 rfl ?_
          refine r_get K dX7_seats_69 (kf := 12) 0 rfl rfl hinX7 (by decide) q769 rfl rfl ?_
          refine r_iload_n K dX7_seats_72 2 rfl ?_
          refine r_iload_n K dX7_seats_73 0 rfl ?_
          refine r_astN K dX7_seats_74 (ws1 := [mo h a hi lm rm pc ((seLoop (seF r 0) p g (gi, bg, bi)).2.2) sd, eI Γ (a 0) 42 r, eI Γ (a 8) 6 (upd ((seLoop (seF r 0) p g (gi, bg, bi)).1) p (nI g)), eI Γ (a 9) 6 ((seLoop (seF r 0) p g (gi, bg, bi)).2.1), eI Γ (a 10) 5 po]) 2 rfl (by first | omega | exact iG_lt (by omega) (by decide) | exact iM_lt (by omega) (by decide)) (by decide) rfl ?_
          refine r_aload_n K dX7_seats_75 1 rfl ?_
          refine r_iload_n K dX7_seats_76 2 rfl ?_
          refine r_iconst K dX7_seats_77 (nI 1) (by decide) ?_
          refine r_iaddN K dX7_seats_78 ?_
          refine r_cV K dX7_seats_79 (c_X7_seats0 l Γ h a hi lm rm pc ((seLoop (seF r 0) p g (gi, bg, bi)).2.2) sd r (upd ((seLoop (seF r 0) p g (gi, bg, bi)).1) p (nI g)) ((seLoop (seF r 0) p g (gi, bg, bi)).2.1) po (p + 1) (hI) (by omega) (giOK_u (r := r) (t := (gi, bg, bi)) hgi (by omega) g (by omega))) mX7_seats q982 rfl (by decide) rfl rfl 5 rfl [0, 1, 2, 3, 4] [] rfl rfl [] rfl (fun u => [mo h a hi lm rm pc ((seF r 0 ((upd ((seLoop (seF r 0) p g (gi, bg, bi)).1) p (nI g)), ((seLoop (seF r 0) p g (gi, bg, bi)).2.1), ((seLoop (seF r 0) p g (gi, bg, bi)).2.2))).2.2) sd, eI Γ (a 0) 42 r, eI Γ (a 8) 6 ((seF r 0 ((upd ((seLoop (seF r 0) p g (gi, bg, bi)).1) p (nI g)), ((seLoop (seF r 0) p g (gi, bg, bi)).2.1), ((seLoop (seF r 0) p g (gi, bg, bi)).2.2))).1), eI Γ (a 9) 6 ((seF r 0 ((upd ((seLoop (seF r 0) p g (gi, bg, bi)).1) p (nI g)), ((seLoop (seF r 0) p g (gi, bg, bi)).2.1), ((seLoop (seF r 0) p g (gi, bg, bi)).2.2))).2.1), eI Γ (a 10) 5 u]) (fun _ => rfl) (fun _ => rfl) (fun _ => rfl) [] rfl (Nat.le_of_ble_eq_true rfl) (fun u1 hu2 => ?_)
          show V 82 _ [] [mo h a hi lm rm pc ((seF r 0 ((upd ((seLoop (seF r 0) p g (gi, bg, bi)).1) p (nI g)), ((seLoop (seF r 0) p g (gi, bg, bi)).2.1), ((seLoop (seF r 0) p g (gi, bg, bi)).2.2))).2.2) sd, eI Γ (a 0) 42 r, eI Γ (a 8) 6 ((seF r 0 ((upd ((seLoop (seF r 0) p g (gi, bg, bi)).1) p (nI g)), ((seLoop (seF r 0) p g (gi, bg, bi)).2.1), ((seLoop (seF r 0) p g (gi, bg, bi)).2.2))).1), eI Γ (a 9) 6 ((seF r 0 ((upd ((seLoop (seF r 0) p g (gi, bg, bi)).1) p (nI g)), ((seLoop (seF r 0) p g (gi, bg, bi)).2.1), ((seLoop (seF r 0) p g (gi, bg, bi)).2.2))).2.1), eI Γ (a 10) 5 u1]
          refine r_iincN K dX7_seats_82 (n := 1) 0 rfl rfl (by decide) (lv1 := [(2, .int (nI (g + 1))), (0, .ref h), (1, .int (nI p))]) rfl ?_
          refine r_goto K dX7_seats_85 ?_
          refine r_ws K (ws1 := [mo h a hi lm rm pc ((seLoop (seF r 0) p (g + 1) (gi, bg, bi)).2.2) sd, eI Γ (a 0) 42 r, eI Γ (a 8) 6 ((seLoop (seF r 0) p (g + 1) (gi, bg, bi)).1), eI Γ (a 9) 6 ((seLoop (seF r 0) p (g + 1) (gi, bg, bi)).2.1), eI Γ (a 10) 5 u1]) (by rw [seLoop_s]; exact weq.rf) ?_
          exact ih_L58 (g + 1) u1 (by omega) (by omega)
    refine r_ws K (ws1 := [mo h a hi lm rm pc ((seLoop (seF r 0) p 0 (gi, bg, bi)).2.2) sd, eI Γ (a 0) 42 r, eI Γ (a 8) 6 ((seLoop (seF r 0) p 0 (gi, bg, bi)).1), eI Γ (a 9) 6 ((seLoop (seF r 0) p 0 (gi, bg, bi)).2.1), eI Γ (a 10) 5 po]) (weq.rf) ?_
    exact L58 _ 0 po (Nat.zero_le _) (Nat.lt_succ_self _)
  · exact absurd hpd (by omega)
set_option maxHeartbeats 1000000 in
set_option maxRecDepth 20000 in
theorem c_X7_seats2 (l : Launch) (Γ : eG) (h : Nat) (a : Nat → Nat) (hi : Bool) (lm : Nat) (rm : Nat) (pc : Nat) (bi : Int32) (sd : Int32) (r : Nat → Int32) (gi : Nat → Int32) (bg : Nat → Int32) (po : Nat → Int32) (p : Nat) (hI : Inv r) (hpd : p + 2 = nM r) (hgi : giOK r gi p) : cE l Γ yX7_seats cX7_seats 4 (none) 5 [.ref h, .int (nI p)] [mo h a hi lm rm pc bi sd, eI Γ (a 0) 42 r, eI Γ (a 8) 6 gi, eI Γ (a 9) 6 bg, eI Γ (a 10) 5 po] (S := Nat → Int32) (fun u => True) (fun u => none) (fun u => [mo h a hi lm rm pc ((seF r 2 (gi, bg, bi)).2.2) sd, eI Γ (a 0) 42 r, eI Γ (a 8) 6 ((seF r 2 (gi, bg, bi)).1), eI Γ (a 9) 6 ((seF r 2 (gi, bg, bi)).2.1), eI Γ (a 10) 5 u]) := by
  refine e_void [(0, .ref h), (1, .int (nI p))] (by decide +kernel) (Nat.le_of_ble_eq_true rfl) rfl (fun V K hR => ?_)
  have h5 := hI.g
  have h6 := hI.m
  refine r_iload_n K dX7_seats_0 1 rfl ?_
  refine r_aload_n K dX7_seats_1 0 rfl ?_
  refine r_get K dX7_seats_2 (kf := 0) 0 rfl rfl hinX7 (by decide) q757 rfl rfl ?_
  refine r_iconst K dX7_seats_5 (nI 1) (by decide) ?_
  refine r_aldN K dX7_seats_6 1 rfl (by first | omega | exact iG_lt (by omega) (by decide) | exact iM_lt (by omega) (by decide)) (by decide) ?_
  refine r_top (y := nI (nM r)) (hI.r1) ?_
  refine r_ic_neN K dX7_seats_7 (by omega) (by omega) (fun c7 => ?_) (fun c7 => ?_)
  · refine r_iconst K dX7_seats_56 (nI 0) (by decide) ?_
    refine r_istore_n K dX7_seats_57 rfl (by decide) (lv1 := [(2, .int (nI 0)), (0, .ref h), (1, .int (nI p))]) rfl ?_
    have L58 : ∀ (fL58 : Nat) (g : Nat) (po : Nat → Int32), (g ≤ nG r) → nG r - g < fL58 → V 58 [(2, .int (nI g)), (0, .ref h), (1, .int (nI p))] [] [mo h a hi lm rm pc ((seLoop (seF r 1) p g (gi, bg, bi)).2.2) sd, eI Γ (a 0) 42 r, eI Γ (a 8) 6 ((seLoop (seF r 1) p g (gi, bg, bi)).1), eI Γ (a 9) 6 ((seLoop (seF r 1) p g (gi, bg, bi)).2.1), eI Γ (a 10) 5 po] := by
      intro fL58
      induction fL58 with
      | zero => intro g po hg hf; exact absurd hf (Nat.not_lt_zero _)
      | succ fL58 ih_L58 =>
        intro g po hg hfL58
        refine r_iload_n K dX7_seats_58 0 rfl ?_
        refine r_aload_n K dX7_seats_59 1 rfl ?_
        refine r_get K dX7_seats_60 (kf := 0) 0 rfl rfl hinX7 (by decide) q757 rfl rfl ?_
        refine r_iconst K dX7_seats_63 (nI 0) (by decide) ?_
        refine r_aldN K dX7_seats_64 1 rfl (by first | omega | exact iG_lt (by omega) (by decide) | exact iM_lt (by omega) (by decide)) (by decide) ?_
        refine r_top (y := nI (nG r)) (hI.r0) ?_
        refine r_ic_geN K dX7_seats_65 (by omega) (by omega) (fun c65 => ?_) (fun c65 => ?_)
        · obtain rfl : g = nG r := by omega
          have hS : seF r 2 (gi, bg, bi) = seLoop (seF r 1) p (nG r) (gi, bg, bi) := by rw [seF_s, show nM r - (1 + 1) = p by omega]
          exact hR po dX7_seats_88 (trivial) rfl (by rw [hS]; exact weq.rf)
        · refine r_aload_n K dX7_seats_68 1 rfl ?_
          refine r_get K dX7_seats_69 (kf := 12) 0 rfl rfl hinX7 (by decide) q769 rfl rfl ?_
          refine r_iload_n K dX7_seats_72 2 rfl ?_
          refine r_iload_n K dX7_seats_73 0 rfl ?_
          refine r_astN K dX7_seats_74 (ws1 := [mo h a hi lm rm pc ((seLoop (seF r 1) p g (gi, bg, bi)).2.2) sd, eI Γ (a 0) 42 r, eI Γ (a 8) 6 (upd ((seLoop (seF r 1) p g (gi, bg, bi)).1) p (nI g)), eI Γ (a 9) 6 ((seLoop (seF r 1) p g (gi, bg, bi)).2.1), eI Γ (a 10) 5 po]) 2 rfl (by first | omega | exact iG_lt (by omega) (by decide) | exact iM_lt (by omega) (by decide)) (by decide) rfl ?_
          refine r_aload_n K dX7_seats_75 1 rfl ?_
          refine r_iload_n K dX7_seats_76 2 rfl ?_
          refine r_iconst K dX7_seats_77 (nI 1) (by decide) ?_
          refine r_iaddN K dX7_seats_78 ?_
          refine r_cV K dX7_seats_79 (c_X7_seats1 l Γ h a hi lm rm pc ((seLoop (seF r 1) p g (gi, bg, bi)).2.2) sd r (upd ((seLoop (seF r 1) p g (gi, bg, bi)).1) p (nI g)) ((seLoop (seF r 1) p g (gi, bg, bi)).2.1) po (p + 1) (hI) (by omega) (giOK_u (r := r) (t := (gi, bg, bi)) hgi (by omega) g (by omega))) mX7_seats q982 rfl (by decide) rfl rfl 5 rfl [0, 1, 2, 3, 4] [] rfl rfl [] rfl (fun u => [mo h a hi lm rm pc ((seF r 1 ((upd ((seLoop (seF r 1) p g (gi, bg, bi)).1) p (nI g)), ((seLoop (seF r 1) p g (gi, bg, bi)).2.1), ((seLoop (seF r 1) p g (gi, bg, bi)).2.2))).2.2) sd, eI Γ (a 0) 42 r, eI Γ (a 8) 6 ((seF r 1 ((upd ((seLoop (seF r 1) p g (gi, bg, bi)).1) p (nI g)), ((seLoop (seF r 1) p g (gi, bg, bi)).2.1), ((seLoop (seF r 1) p g (gi, bg, bi)).2.2))).1), eI Γ (a 9) 6 ((seF r 1 ((upd ((seLoop (seF r 1) p g (gi, bg, bi)).1) p (nI g)), ((seLoop (seF r 1) p g (gi, bg, bi)).2.1), ((seLoop (seF r 1) p g (gi, bg, bi)).2.2))).2.1), eI Γ (a 10) 5 u]) (fun _ => rfl) (fun _ => rfl) (fun _ => rfl) [] rfl (Nat.le_of_ble_eq_true rfl) (fun u1 hu2 => ?_)
          show V 82 _ [] [mo h a hi lm rm pc ((seF r 1 ((upd ((seLoop (seF r 1) p g (gi, bg, bi)).1) p (nI g)), ((seLoop (seF r 1) p g (gi, bg, bi)).2.1), ((seLoop (seF r 1) p g (gi, bg, bi)).2.2))).2.2) sd, eI Γ (a 0) 42 r, eI Γ (a 8) 6 ((seF r 1 ((upd ((seLoop (seF r 1) p g (gi, bg, bi)).1) p (nI g)), ((seLoop (seF r 1) p g (gi, bg, bi)).2.1), ((seLoop (seF r 1) p g (gi, bg, bi)).2.2))).1), eI Γ (a 9) 6 ((seF r 1 ((upd ((seLoop (seF r 1) p g (gi, bg, bi)).1) p (nI g)), ((seLoop (seF r 1) p g (gi, bg, bi)).2.1), ((seLoop (seF r 1) p g (gi, bg, bi)).2.2))).2.1), eI Γ (a 10) 5 u1]
          refine r_iincN K dX7_seats_82 (n := 1) 0 rfl rfl (by decide) (lv1 := [(2, .int (nI (g + 1))), (0, .ref h), (1, .int (nI p))]) rfl ?_
          refine r_goto K dX7_seats_85 ?_
          refine r_ws K (ws1 := [mo h a hi lm rm pc ((seLoop (seF r 1) p (g + 1) (gi, bg, bi)).2.2) sd, eI Γ (a 0) 42 r, eI Γ (a 8) 6 ((seLoop (seF r 1) p (g + 1) (gi, bg, bi)).1), eI Γ (a 9) 6 ((seLoop (seF r 1) p (g + 1) (gi, bg, bi)).2.1), eI Γ (a 10) 5 u1]) (by rw [seLoop_s]; exact weq.rf) ?_
          exact ih_L58 (g + 1) u1 (by omega) (by omega)
    refine r_ws K (ws1 := [mo h a hi lm rm pc ((seLoop (seF r 1) p 0 (gi, bg, bi)).2.2) sd, eI Γ (a 0) 42 r, eI Γ (a 8) 6 ((seLoop (seF r 1) p 0 (gi, bg, bi)).1), eI Γ (a 9) 6 ((seLoop (seF r 1) p 0 (gi, bg, bi)).2.1), eI Γ (a 10) 5 po]) (weq.rf) ?_
    exact L58 _ 0 po (Nat.zero_le _) (Nat.lt_succ_self _)
  · exact absurd hpd (by omega)
set_option maxHeartbeats 1000000 in
set_option maxRecDepth 20000 in
theorem c_X7_seats3 (l : Launch) (Γ : eG) (h : Nat) (a : Nat → Nat) (hi : Bool) (lm : Nat) (rm : Nat) (pc : Nat) (bi : Int32) (sd : Int32) (r : Nat → Int32) (gi : Nat → Int32) (bg : Nat → Int32) (po : Nat → Int32) (p : Nat) (hI : Inv r) (hpd : p + 3 = nM r) (hgi : giOK r gi p) : cE l Γ yX7_seats cX7_seats 4 (none) 6 [.ref h, .int (nI p)] [mo h a hi lm rm pc bi sd, eI Γ (a 0) 42 r, eI Γ (a 8) 6 gi, eI Γ (a 9) 6 bg, eI Γ (a 10) 5 po] (S := Nat → Int32) (fun u => True) (fun u => none) (fun u => [mo h a hi lm rm pc ((seF r 3 (gi, bg, bi)).2.2) sd, eI Γ (a 0) 42 r, eI Γ (a 8) 6 ((seF r 3 (gi, bg, bi)).1), eI Γ (a 9) 6 ((seF r 3 (gi, bg, bi)).2.1), eI Γ (a 10) 5 u]) := by
  refine e_void [(0, .ref h), (1, .int (nI p))] (by decide +kernel) (Nat.le_of_ble_eq_true rfl) rfl (fun V K hR => ?_)
  have h5 := hI.g
  have h6 := hI.m
  refine r_iload_n K dX7_seats_0 1 rfl ?_
  refine r_aload_n K dX7_seats_1 0 rfl ?_
  refine r_get K dX7_seats_2 (kf := 0) 0 rfl rfl hinX7 (by decide) q757 rfl rfl ?_
  refine r_iconst K dX7_seats_5 (nI 1) (by decide) ?_
  refine r_aldN K dX7_seats_6 1 rfl (by first | omega | exact iG_lt (by omega) (by decide) | exact iM_lt (by omega) (by decide)) (by decide) ?_
  refine r_top (y := nI (nM r)) (hI.r1) ?_
  refine r_ic_neN K dX7_seats_7 (by omega) (by omega) (fun c7 => ?_) (fun c7 => ?_)
  · refine r_iconst K dX7_seats_56 (nI 0) (by decide) ?_
    refine r_istore_n K dX7_seats_57 rfl (by decide) (lv1 := [(2, .int (nI 0)), (0, .ref h), (1, .int (nI p))]) rfl ?_
    have L58 : ∀ (fL58 : Nat) (g : Nat) (po : Nat → Int32), (g ≤ nG r) → nG r - g < fL58 → V 58 [(2, .int (nI g)), (0, .ref h), (1, .int (nI p))] [] [mo h a hi lm rm pc ((seLoop (seF r 2) p g (gi, bg, bi)).2.2) sd, eI Γ (a 0) 42 r, eI Γ (a 8) 6 ((seLoop (seF r 2) p g (gi, bg, bi)).1), eI Γ (a 9) 6 ((seLoop (seF r 2) p g (gi, bg, bi)).2.1), eI Γ (a 10) 5 po] := by
      intro fL58
      induction fL58 with
      | zero => intro g po hg hf; exact absurd hf (Nat.not_lt_zero _)
      | succ fL58 ih_L58 =>
        intro g po hg hfL58
        refine r_iload_n K dX7_seats_58 0 rfl ?_
        refine r_aload_n K dX7_seats_59 1 rfl ?_
        refine r_get K dX7_seats_60 (kf := 0) 0 rfl rfl hinX7 (by decide) q757 rfl rfl ?_
        refine r_iconst K dX7_seats_63 (nI 0) (by decide) ?_
        refine r_aldN K dX7_seats_64 1 rfl (by first | omega | exact iG_lt (by omega) (by decide) | exact iM_lt (by omega) (by decide)) (by decide) ?_
        refine r_top (y := nI (nG r)) (hI.r0) ?_
        refine r_ic_geN K dX7_seats_65 (by omega) (by omega) (fun c65 => ?_) (fun c65 => ?_)
        · obtain rfl : g = nG r := by omega
          have hS : seF r 3 (gi, bg, bi) = seLoop (seF r 2) p (nG r) (gi, bg, bi) := by rw [seF_s, show nM r - (2 + 1) = p by omega]
          exact hR po dX7_seats_88 (trivial) rfl (by rw [hS]; exact weq.rf)
        · refine r_aload_n K dX7_seats_68 1 rfl ?_
          refine r_get K dX7_seats_69 (kf := 12) 0 rfl rfl hinX7 (by decide) q769 rfl rfl ?_
          refine r_iload_n K dX7_seats_72 2 rfl ?_
          refine r_iload_n K dX7_seats_73 0 rfl ?_
          refine r_astN K dX7_seats_74 (ws1 := [mo h a hi lm rm pc ((seLoop (seF r 2) p g (gi, bg, bi)).2.2) sd, eI Γ (a 0) 42 r, eI Γ (a 8) 6 (upd ((seLoop (seF r 2) p g (gi, bg, bi)).1) p (nI g)), eI Γ (a 9) 6 ((seLoop (seF r 2) p g (gi, bg, bi)).2.1), eI Γ (a 10) 5 po]) 2 rfl (by first | omega | exact iG_lt (by omega) (by decide) | exact iM_lt (by omega) (by decide)) (by decide) rfl ?_
          refine r_aload_n K dX7_seats_75 1 rfl ?_
          refine r_iload_n K dX7_seats_76 2 rfl ?_
          refine r_iconst K dX7_seats_77 (nI 1) (by decide) ?_
          refine r_iaddN K dX7_seats_78 ?_
          refine r_cV K dX7_seats_79 (c_X7_seats2 l Γ h a hi lm rm pc ((seLoop (seF r 2) p g (gi, bg, bi)).2.2) sd r (upd ((seLoop (seF r 2) p g (gi, bg, bi)).1) p (nI g)) ((seLoop (seF r 2) p g (gi, bg, bi)).2.1) po (p + 1) (hI) (by omega) (giOK_u (r := r) (t := (gi, bg, bi)) hgi (by omega) g (by omega))) mX7_seats q982 rfl (by decide) rfl rfl 5 rfl [0, 1, 2, 3, 4] [] rfl rfl [] rfl (fun u => [mo h a hi lm rm pc ((seF r 2 ((upd ((seLoop (seF r 2) p g (gi, bg, bi)).1) p (nI g)), ((seLoop (seF r 2) p g (gi, bg, bi)).2.1), ((seLoop (seF r 2) p g (gi, bg, bi)).2.2))).2.2) sd, eI Γ (a 0) 42 r, eI Γ (a 8) 6 ((seF r 2 ((upd ((seLoop (seF r 2) p g (gi, bg, bi)).1) p (nI g)), ((seLoop (seF r 2) p g (gi, bg, bi)).2.1), ((seLoop (seF r 2) p g (gi, bg, bi)).2.2))).1), eI Γ (a 9) 6 ((seF r 2 ((upd ((seLoop (seF r 2) p g (gi, bg, bi)).1) p (nI g)), ((seLoop (seF r 2) p g (gi, bg, bi)).2.1), ((seLoop (seF r 2) p g (gi, bg, bi)).2.2))).2.1), eI Γ (a 10) 5 u]) (fun _ => rfl) (fun _ => rfl) (fun _ => rfl) [] rfl (Nat.le_of_ble_eq_true rfl) (fun u1 hu2 => ?_)
          show V 82 _ [] [mo h a hi lm rm pc ((seF r 2 ((upd ((seLoop (seF r 2) p g (gi, bg, bi)).1) p (nI g)), ((seLoop (seF r 2) p g (gi, bg, bi)).2.1), ((seLoop (seF r 2) p g (gi, bg, bi)).2.2))).2.2) sd, eI Γ (a 0) 42 r, eI Γ (a 8) 6 ((seF r 2 ((upd ((seLoop (seF r 2) p g (gi, bg, bi)).1) p (nI g)), ((seLoop (seF r 2) p g (gi, bg, bi)).2.1), ((seLoop (seF r 2) p g (gi, bg, bi)).2.2))).1), eI Γ (a 9) 6 ((seF r 2 ((upd ((seLoop (seF r 2) p g (gi, bg, bi)).1) p (nI g)), ((seLoop (seF r 2) p g (gi, bg, bi)).2.1), ((seLoop (seF r 2) p g (gi, bg, bi)).2.2))).2.1), eI Γ (a 10) 5 u1]
          refine r_iincN K dX7_seats_82 (n := 1) 0 rfl rfl (by decide) (lv1 := [(2, .int (nI (g + 1))), (0, .ref h), (1, .int (nI p))]) rfl ?_
          refine r_goto K dX7_seats_85 ?_
          refine r_ws K (ws1 := [mo h a hi lm rm pc ((seLoop (seF r 2) p (g + 1) (gi, bg, bi)).2.2) sd, eI Γ (a 0) 42 r, eI Γ (a 8) 6 ((seLoop (seF r 2) p (g + 1) (gi, bg, bi)).1), eI Γ (a 9) 6 ((seLoop (seF r 2) p (g + 1) (gi, bg, bi)).2.1), eI Γ (a 10) 5 u1]) (by rw [seLoop_s]; exact weq.rf) ?_
          exact ih_L58 (g + 1) u1 (by omega) (by omega)
    refine r_ws K (ws1 := [mo h a hi lm rm pc ((seLoop (seF r 2) p 0 (gi, bg, bi)).2.2) sd, eI Γ (a 0) 42 r, eI Γ (a 8) 6 ((seLoop (seF r 2) p 0 (gi, bg, bi)).1), eI Γ (a 9) 6 ((seLoop (seF r 2) p 0 (gi, bg, bi)).2.1), eI Γ (a 10) 5 po]) (weq.rf) ?_
    exact L58 _ 0 po (Nat.zero_le _) (Nat.lt_succ_self _)
  · exact absurd hpd (by omega)
set_option maxHeartbeats 1000000 in
set_option maxRecDepth 20000 in
theorem c_X7_seats4 (l : Launch) (Γ : eG) (h : Nat) (a : Nat → Nat) (hi : Bool) (lm : Nat) (rm : Nat) (pc : Nat) (bi : Int32) (sd : Int32) (r : Nat → Int32) (gi : Nat → Int32) (bg : Nat → Int32) (po : Nat → Int32) (p : Nat) (hI : Inv r) (hpd : p + 4 = nM r) (hgi : giOK r gi p) : cE l Γ yX7_seats cX7_seats 4 (none) 7 [.ref h, .int (nI p)] [mo h a hi lm rm pc bi sd, eI Γ (a 0) 42 r, eI Γ (a 8) 6 gi, eI Γ (a 9) 6 bg, eI Γ (a 10) 5 po] (S := Nat → Int32) (fun u => True) (fun u => none) (fun u => [mo h a hi lm rm pc ((seF r 4 (gi, bg, bi)).2.2) sd, eI Γ (a 0) 42 r, eI Γ (a 8) 6 ((seF r 4 (gi, bg, bi)).1), eI Γ (a 9) 6 ((seF r 4 (gi, bg, bi)).2.1), eI Γ (a 10) 5 u]) := by
  refine e_void [(0, .ref h), (1, .int (nI p))] (by decide +kernel) (Nat.le_of_ble_eq_true rfl) rfl (fun V K hR => ?_)
  have h5 := hI.g
  have h6 := hI.m
  refine r_iload_n K dX7_seats_0 1 rfl ?_
  refine r_aload_n K dX7_seats_1 0 rfl ?_
  refine r_get K dX7_seats_2 (kf := 0) 0 rfl rfl hinX7 (by decide) q757 rfl rfl ?_
  refine r_iconst K dX7_seats_5 (nI 1) (by decide) ?_
  refine r_aldN K dX7_seats_6 1 rfl (by first | omega | exact iG_lt (by omega) (by decide) | exact iM_lt (by omega) (by decide)) (by decide) ?_
  refine r_top (y := nI (nM r)) (hI.r1) ?_
  refine r_ic_neN K dX7_seats_7 (by omega) (by omega) (fun c7 => ?_) (fun c7 => ?_)
  · refine r_iconst K dX7_seats_56 (nI 0) (by decide) ?_
    refine r_istore_n K dX7_seats_57 rfl (by decide) (lv1 := [(2, .int (nI 0)), (0, .ref h), (1, .int (nI p))]) rfl ?_
    have L58 : ∀ (fL58 : Nat) (g : Nat) (po : Nat → Int32), (g ≤ nG r) → nG r - g < fL58 → V 58 [(2, .int (nI g)), (0, .ref h), (1, .int (nI p))] [] [mo h a hi lm rm pc ((seLoop (seF r 3) p g (gi, bg, bi)).2.2) sd, eI Γ (a 0) 42 r, eI Γ (a 8) 6 ((seLoop (seF r 3) p g (gi, bg, bi)).1), eI Γ (a 9) 6 ((seLoop (seF r 3) p g (gi, bg, bi)).2.1), eI Γ (a 10) 5 po] := by
      intro fL58
      induction fL58 with
      | zero => intro g po hg hf; exact absurd hf (Nat.not_lt_zero _)
      | succ fL58 ih_L58 =>
        intro g po hg hfL58
        refine r_iload_n K dX7_seats_58 0 rfl ?_
        refine r_aload_n K dX7_seats_59 1 rfl ?_
        refine r_get K dX7_seats_60 (kf := 0) 0 rfl rfl hinX7 (by decide) q757 rfl rfl ?_
        refine r_iconst K dX7_seats_63 (nI 0) (by decide) ?_
        refine r_aldN K dX7_seats_64 1 rfl (by first | omega | exact iG_lt (by omega) (by decide) | exact iM_lt (by omega) (by decide)) (by decide) ?_
        refine r_top (y := nI (nG r)) (hI.r0) ?_
        refine r_ic_geN K dX7_seats_65 (by omega) (by omega) (fun c65 => ?_) (fun c65 => ?_)
        · obtain rfl : g = nG r := by omega
          have hS : seF r 4 (gi, bg, bi) = seLoop (seF r 3) p (nG r) (gi, bg, bi) := by rw [seF_s, show nM r - (3 + 1) = p by omega]
          exact hR po dX7_seats_88 (trivial) rfl (by rw [hS]; exact weq.rf)
        · refine r_aload_n K dX7_seats_68 1 rfl ?_
          refine r_get K dX7_seats_69 (kf := 12) 0 rfl rfl hinX7 (by decide) q769 rfl rfl ?_
          refine r_iload_n K dX7_seats_72 2 rfl ?_
          refine r_iload_n K dX7_seats_73 0 rfl ?_
          refine r_astN K dX7_seats_74 (ws1 := [mo h a hi lm rm pc ((seLoop (seF r 3) p g (gi, bg, bi)).2.2) sd, eI Γ (a 0) 42 r, eI Γ (a 8) 6 (upd ((seLoop (seF r 3) p g (gi, bg, bi)).1) p (nI g)), eI Γ (a 9) 6 ((seLoop (seF r 3) p g (gi, bg, bi)).2.1), eI Γ (a 10) 5 po]) 2 rfl (by first | omega | exact iG_lt (by omega) (by decide) | exact iM_lt (by omega) (by decide)) (by decide) rfl ?_
          refine r_aload_n K dX7_seats_75 1 rfl ?_
          refine r_iload_n K dX7_seats_76 2 rfl ?_
          refine r_iconst K dX7_seats_77 (nI 1) (by decide) ?_
          refine r_iaddN K dX7_seats_78 ?_
          refine r_cV K dX7_seats_79 (c_X7_seats3 l Γ h a hi lm rm pc ((seLoop (seF r 3) p g (gi, bg, bi)).2.2) sd r (upd ((seLoop (seF r 3) p g (gi, bg, bi)).1) p (nI g)) ((seLoop (seF r 3) p g (gi, bg, bi)).2.1) po (p + 1) (hI) (by omega) (giOK_u (r := r) (t := (gi, bg, bi)) hgi (by omega) g (by omega))) mX7_seats q982 rfl (by decide) rfl rfl 5 rfl [0, 1, 2, 3, 4] [] rfl rfl [] rfl (fun u => [mo h a hi lm rm pc ((seF r 3 ((upd ((seLoop (seF r 3) p g (gi, bg, bi)).1) p (nI g)), ((seLoop (seF r 3) p g (gi, bg, bi)).2.1), ((seLoop (seF r 3) p g (gi, bg, bi)).2.2))).2.2) sd, eI Γ (a 0) 42 r, eI Γ (a 8) 6 ((seF r 3 ((upd ((seLoop (seF r 3) p g (gi, bg, bi)).1) p (nI g)), ((seLoop (seF r 3) p g (gi, bg, bi)).2.1), ((seLoop (seF r 3) p g (gi, bg, bi)).2.2))).1), eI Γ (a 9) 6 ((seF r 3 ((upd ((seLoop (seF r 3) p g (gi, bg, bi)).1) p (nI g)), ((seLoop (seF r 3) p g (gi, bg, bi)).2.1), ((seLoop (seF r 3) p g (gi, bg, bi)).2.2))).2.1), eI Γ (a 10) 5 u]) (fun _ => rfl) (fun _ => rfl) (fun _ => rfl) [] rfl (Nat.le_of_ble_eq_true rfl) (fun u1 hu2 => ?_)
          show V 82 _ [] [mo h a hi lm rm pc ((seF r 3 ((upd ((seLoop (seF r 3) p g (gi, bg, bi)).1) p (nI g)), ((seLoop (seF r 3) p g (gi, bg, bi)).2.1), ((seLoop (seF r 3) p g (gi, bg, bi)).2.2))).2.2) sd, eI Γ (a 0) 42 r, eI Γ (a 8) 6 ((seF r 3 ((upd ((seLoop (seF r 3) p g (gi, bg, bi)).1) p (nI g)), ((seLoop (seF r 3) p g (gi, bg, bi)).2.1), ((seLoop (seF r 3) p g (gi, bg, bi)).2.2))).1), eI Γ (a 9) 6 ((seF r 3 ((upd ((seLoop (seF r 3) p g (gi, bg, bi)).1) p (nI g)), ((seLoop (seF r 3) p g (gi, bg, bi)).2.1), ((seLoop (seF r 3) p g (gi, bg, bi)).2.2))).2.1), eI Γ (a 10) 5 u1]
          refine r_iincN K dX7_seats_82 (n := 1) 0 rfl rfl (by decide) (lv1 := [(2, .int (nI (g + 1))), (0, .ref h), (1, .int (nI p))]) rfl ?_
          refine r_goto K dX7_seats_85 ?_
          refine r_ws K (ws1 := [mo h a hi lm rm pc ((seLoop (seF r 3) p (g + 1) (gi, bg, bi)).2.2) sd, eI Γ (a 0) 42 r, eI Γ (a 8) 6 ((seLoop (seF r 3) p (g + 1) (gi, bg, bi)).1), eI Γ (a 9) 6 ((seLoop (seF r 3) p (g + 1) (gi, bg, bi)).2.1), eI Γ (a 10) 5 u1]) (by rw [seLoop_s]; exact weq.rf) ?_
          exact ih_L58 (g + 1) u1 (by omega) (by omega)
    refine r_ws K (ws1 := [mo h a hi lm rm pc ((seLoop (seF r 3) p 0 (gi, bg, bi)).2.2) sd, eI Γ (a 0) 42 r, eI Γ (a 8) 6 ((seLoop (seF r 3) p 0 (gi, bg, bi)).1), eI Γ (a 9) 6 ((seLoop (seF r 3) p 0 (gi, bg, bi)).2.1), eI Γ (a 10) 5 po]) (weq.rf) ?_
    exact L58 _ 0 po (Nat.zero_le _) (Nat.lt_succ_self _)
  · exact absurd hpd (by omega)
set_option maxHeartbeats 1000000 in
set_option maxRecDepth 20000 in
theorem c_X7_seats5 (l : Launch) (Γ : eG) (h : Nat) (a : Nat → Nat) (hi : Bool) (lm : Nat) (rm : Nat) (pc : Nat) (bi : Int32) (sd : Int32) (r : Nat → Int32) (gi : Nat → Int32) (bg : Nat → Int32) (po : Nat → Int32) (p : Nat) (hI : Inv r) (hpd : p + 5 = nM r) (hgi : giOK r gi p) : cE l Γ yX7_seats cX7_seats 4 (none) 8 [.ref h, .int (nI p)] [mo h a hi lm rm pc bi sd, eI Γ (a 0) 42 r, eI Γ (a 8) 6 gi, eI Γ (a 9) 6 bg, eI Γ (a 10) 5 po] (S := Nat → Int32) (fun u => True) (fun u => none) (fun u => [mo h a hi lm rm pc ((seF r 5 (gi, bg, bi)).2.2) sd, eI Γ (a 0) 42 r, eI Γ (a 8) 6 ((seF r 5 (gi, bg, bi)).1), eI Γ (a 9) 6 ((seF r 5 (gi, bg, bi)).2.1), eI Γ (a 10) 5 u]) := by
  refine e_void [(0, .ref h), (1, .int (nI p))] (by decide +kernel) (Nat.le_of_ble_eq_true rfl) rfl (fun V K hR => ?_)
  have h5 := hI.g
  have h6 := hI.m
  refine r_iload_n K dX7_seats_0 1 rfl ?_
  refine r_aload_n K dX7_seats_1 0 rfl ?_
  refine r_get K dX7_seats_2 (kf := 0) 0 rfl rfl hinX7 (by decide) q757 rfl rfl ?_
  refine r_iconst K dX7_seats_5 (nI 1) (by decide) ?_
  refine r_aldN K dX7_seats_6 1 rfl (by first | omega | exact iG_lt (by omega) (by decide) | exact iM_lt (by omega) (by decide)) (by decide) ?_
  refine r_top (y := nI (nM r)) (hI.r1) ?_
  refine r_ic_neN K dX7_seats_7 (by omega) (by omega) (fun c7 => ?_) (fun c7 => ?_)
  · refine r_iconst K dX7_seats_56 (nI 0) (by decide) ?_
    refine r_istore_n K dX7_seats_57 rfl (by decide) (lv1 := [(2, .int (nI 0)), (0, .ref h), (1, .int (nI p))]) rfl ?_
    have L58 : ∀ (fL58 : Nat) (g : Nat) (po : Nat → Int32), (g ≤ nG r) → nG r - g < fL58 → V 58 [(2, .int (nI g)), (0, .ref h), (1, .int (nI p))] [] [mo h a hi lm rm pc ((seLoop (seF r 4) p g (gi, bg, bi)).2.2) sd, eI Γ (a 0) 42 r, eI Γ (a 8) 6 ((seLoop (seF r 4) p g (gi, bg, bi)).1), eI Γ (a 9) 6 ((seLoop (seF r 4) p g (gi, bg, bi)).2.1), eI Γ (a 10) 5 po] := by
      intro fL58
      induction fL58 with
      | zero => intro g po hg hf; exact absurd hf (Nat.not_lt_zero _)
      | succ fL58 ih_L58 =>
        intro g po hg hfL58
        refine r_iload_n K dX7_seats_58 0 rfl ?_
        refine r_aload_n K dX7_seats_59 1 rfl ?_
        refine r_get K dX7_seats_60 (kf := 0) 0 rfl rfl hinX7 (by decide) q757 rfl rfl ?_
        refine r_iconst K dX7_seats_63 (nI 0) (by decide) ?_
        refine r_aldN K dX7_seats_64 1 rfl (by first | omega | exact iG_lt (by omega) (by decide) | exact iM_lt (by omega) (by decide)) (by decide) ?_
        refine r_top (y := nI (nG r)) (hI.r0) ?_
        refine r_ic_geN K dX7_seats_65 (by omega) (by omega) (fun c65 => ?_) (fun c65 => ?_)
        · obtain rfl : g = nG r := by omega
          have hS : seF r 5 (gi, bg, bi) = seLoop (seF r 4) p (nG r) (gi, bg, bi) := by rw [seF_s, show nM r - (4 + 1) = p by omega]
          exact hR po dX7_seats_88 (trivial) rfl (by rw [hS]; exact weq.rf)
        · refine r_aload_n K dX7_seats_68 1 rfl ?_
          refine r_get K dX7_seats_69 (kf := 12) 0 rfl rfl hinX7 (by decide) q769 rfl rfl ?_
          refine r_iload_n K dX7_seats_72 2 rfl ?_
          refine r_iload_n K dX7_seats_73 0 rfl ?_
          refine r_astN K dX7_seats_74 (ws1 := [mo h a hi lm rm pc ((seLoop (seF r 4) p g (gi, bg, bi)).2.2) sd, eI Γ (a 0) 42 r, eI Γ (a 8) 6 (upd ((seLoop (seF r 4) p g (gi, bg, bi)).1) p (nI g)), eI Γ (a 9) 6 ((seLoop (seF r 4) p g (gi, bg, bi)).2.1), eI Γ (a 10) 5 po]) 2 rfl (by first | omega | exact iG_lt (by omega) (by decide) | exact iM_lt (by omega) (by decide)) (by decide) rfl ?_
          refine r_aload_n K dX7_seats_75 1 rfl ?_
          refine r_iload_n K dX7_seats_76 2 rfl ?_
          refine r_iconst K dX7_seats_77 (nI 1) (by decide) ?_
          refine r_iaddN K dX7_seats_78 ?_
          refine r_cV K dX7_seats_79 (c_X7_seats4 l Γ h a hi lm rm pc ((seLoop (seF r 4) p g (gi, bg, bi)).2.2) sd r (upd ((seLoop (seF r 4) p g (gi, bg, bi)).1) p (nI g)) ((seLoop (seF r 4) p g (gi, bg, bi)).2.1) po (p + 1) (hI) (by omega) (giOK_u (r := r) (t := (gi, bg, bi)) hgi (by omega) g (by omega))) mX7_seats q982 rfl (by decide) rfl rfl 5 rfl [0, 1, 2, 3, 4] [] rfl rfl [] rfl (fun u => [mo h a hi lm rm pc ((seF r 4 ((upd ((seLoop (seF r 4) p g (gi, bg, bi)).1) p (nI g)), ((seLoop (seF r 4) p g (gi, bg, bi)).2.1), ((seLoop (seF r 4) p g (gi, bg, bi)).2.2))).2.2) sd, eI Γ (a 0) 42 r, eI Γ (a 8) 6 ((seF r 4 ((upd ((seLoop (seF r 4) p g (gi, bg, bi)).1) p (nI g)), ((seLoop (seF r 4) p g (gi, bg, bi)).2.1), ((seLoop (seF r 4) p g (gi, bg, bi)).2.2))).1), eI Γ (a 9) 6 ((seF r 4 ((upd ((seLoop (seF r 4) p g (gi, bg, bi)).1) p (nI g)), ((seLoop (seF r 4) p g (gi, bg, bi)).2.1), ((seLoop (seF r 4) p g (gi, bg, bi)).2.2))).2.1), eI Γ (a 10) 5 u]) (fun _ => rfl) (fun _ => rfl) (fun _ => rfl) [] rfl (Nat.le_of_ble_eq_true rfl) (fun u1 hu2 => ?_)
          show V 82 _ [] [mo h a hi lm rm pc ((seF r 4 ((upd ((seLoop (seF r 4) p g (gi, bg, bi)).1) p (nI g)), ((seLoop (seF r 4) p g (gi, bg, bi)).2.1), ((seLoop (seF r 4) p g (gi, bg, bi)).2.2))).2.2) sd, eI Γ (a 0) 42 r, eI Γ (a 8) 6 ((seF r 4 ((upd ((seLoop (seF r 4) p g (gi, bg, bi)).1) p (nI g)), ((seLoop (seF r 4) p g (gi, bg, bi)).2.1), ((seLoop (seF r 4) p g (gi, bg, bi)).2.2))).1), eI Γ (a 9) 6 ((seF r 4 ((upd ((seLoop (seF r 4) p g (gi, bg, bi)).1) p (nI g)), ((seLoop (seF r 4) p g (gi, bg, bi)).2.1), ((seLoop (seF r 4) p g (gi, bg, bi)).2.2))).2.1), eI Γ (a 10) 5 u1]
          refine r_iincN K dX7_seats_82 (n := 1) 0 rfl rfl (by decide) (lv1 := [(2, .int (nI (g + 1))), (0, .ref h), (1, .int (nI p))]) rfl ?_
          refine r_goto K dX7_seats_85 ?_
          refine r_ws K (ws1 := [mo h a hi lm rm pc ((seLoop (seF r 4) p (g + 1) (gi, bg, bi)).2.2) sd, eI Γ (a 0) 42 r, eI Γ (a 8) 6 ((seLoop (seF r 4) p (g + 1) (gi, bg, bi)).1), eI Γ (a 9) 6 ((seLoop (seF r 4) p (g + 1) (gi, bg, bi)).2.1), eI Γ (a 10) 5 u1]) (by rw [seLoop_s]; exact weq.rf) ?_
          exact ih_L58 (g + 1) u1 (by omega) (by omega)
    refine r_ws K (ws1 := [mo h a hi lm rm pc ((seLoop (seF r 4) p 0 (gi, bg, bi)).2.2) sd, eI Γ (a 0) 42 r, eI Γ (a 8) 6 ((seLoop (seF r 4) p 0 (gi, bg, bi)).1), eI Γ (a 9) 6 ((seLoop (seF r 4) p 0 (gi, bg, bi)).2.1), eI Γ (a 10) 5 po]) (weq.rf) ?_
    exact L58 _ 0 po (Nat.zero_le _) (Nat.lt_succ_self _)
  · exact absurd hpd (by omega)
set_option maxHeartbeats 1000000 in
set_option maxRecDepth 20000 in
theorem c_X7_seats6 (l : Launch) (Γ : eG) (h : Nat) (a : Nat → Nat) (hi : Bool) (lm : Nat) (rm : Nat) (pc : Nat) (bi : Int32) (sd : Int32) (r : Nat → Int32) (gi : Nat → Int32) (bg : Nat → Int32) (po : Nat → Int32) (p : Nat) (hI : Inv r) (hpd : p + 6 = nM r) (hgi : giOK r gi p) : cE l Γ yX7_seats cX7_seats 4 (none) 9 [.ref h, .int (nI p)] [mo h a hi lm rm pc bi sd, eI Γ (a 0) 42 r, eI Γ (a 8) 6 gi, eI Γ (a 9) 6 bg, eI Γ (a 10) 5 po] (S := Nat → Int32) (fun u => True) (fun u => none) (fun u => [mo h a hi lm rm pc ((seF r 6 (gi, bg, bi)).2.2) sd, eI Γ (a 0) 42 r, eI Γ (a 8) 6 ((seF r 6 (gi, bg, bi)).1), eI Γ (a 9) 6 ((seF r 6 (gi, bg, bi)).2.1), eI Γ (a 10) 5 u]) := by
  refine e_void [(0, .ref h), (1, .int (nI p))] (by decide +kernel) (Nat.le_of_ble_eq_true rfl) rfl (fun V K hR => ?_)
  have h5 := hI.g
  have h6 := hI.m
  refine r_iload_n K dX7_seats_0 1 rfl ?_
  refine r_aload_n K dX7_seats_1 0 rfl ?_
  refine r_get K dX7_seats_2 (kf := 0) 0 rfl rfl hinX7 (by decide) q757 rfl rfl ?_
  refine r_iconst K dX7_seats_5 (nI 1) (by decide) ?_
  refine r_aldN K dX7_seats_6 1 rfl (by first | omega | exact iG_lt (by omega) (by decide) | exact iM_lt (by omega) (by decide)) (by decide) ?_
  refine r_top (y := nI (nM r)) (hI.r1) ?_
  refine r_ic_neN K dX7_seats_7 (by omega) (by omega) (fun c7 => ?_) (fun c7 => ?_)
  · refine r_iconst K dX7_seats_56 (nI 0) (by decide) ?_
    refine r_istore_n K dX7_seats_57 rfl (by decide) (lv1 := [(2, .int (nI 0)), (0, .ref h), (1, .int (nI p))]) rfl ?_
    have L58 : ∀ (fL58 : Nat) (g : Nat) (po : Nat → Int32), (g ≤ nG r) → nG r - g < fL58 → V 58 [(2, .int (nI g)), (0, .ref h), (1, .int (nI p))] [] [mo h a hi lm rm pc ((seLoop (seF r 5) p g (gi, bg, bi)).2.2) sd, eI Γ (a 0) 42 r, eI Γ (a 8) 6 ((seLoop (seF r 5) p g (gi, bg, bi)).1), eI Γ (a 9) 6 ((seLoop (seF r 5) p g (gi, bg, bi)).2.1), eI Γ (a 10) 5 po] := by
      intro fL58
      induction fL58 with
      | zero => intro g po hg hf; exact absurd hf (Nat.not_lt_zero _)
      | succ fL58 ih_L58 =>
        intro g po hg hfL58
        refine r_iload_n K dX7_seats_58 0 rfl ?_
        refine r_aload_n K dX7_seats_59 1 rfl ?_
        refine r_get K dX7_seats_60 (kf := 0) 0 rfl rfl hinX7 (by decide) q757 rfl rfl ?_
        refine r_iconst K dX7_seats_63 (nI 0) (by decide) ?_
        refine r_aldN K dX7_seats_64 1 rfl (by first | omega | exact iG_lt (by omega) (by decide) | exact iM_lt (by omega) (by decide)) (by decide) ?_
        refine r_top (y := nI (nG r)) (hI.r0) ?_
        refine r_ic_geN K dX7_seats_65 (by omega) (by omega) (fun c65 => ?_) (fun c65 => ?_)
        · obtain rfl : g = nG r := by omega
          have hS : seF r 6 (gi, bg, bi) = seLoop (seF r 5) p (nG r) (gi, bg, bi) := by rw [seF_s, show nM r - (5 + 1) = p by omega]
          exact hR po dX7_seats_88 (trivial) rfl (by rw [hS]; exact weq.rf)
        · refine r_aload_n K dX7_seats_68 1 rfl ?_
          refine r_get K dX7_seats_69 (kf := 12) 0 rfl rfl hinX7 (by decide) q769 rfl rfl ?_
          refine r_iload_n K dX7_seats_72 2 rfl ?_
          refine r_iload_n K dX7_seats_73 0 rfl ?_
          refine r_astN K dX7_seats_74 (ws1 := [mo h a hi lm rm pc ((seLoop (seF r 5) p g (gi, bg, bi)).2.2) sd, eI Γ (a 0) 42 r, eI Γ (a 8) 6 (upd ((seLoop (seF r 5) p g (gi, bg, bi)).1) p (nI g)), eI Γ (a 9) 6 ((seLoop (seF r 5) p g (gi, bg, bi)).2.1), eI Γ (a 10) 5 po]) 2 rfl (by first | omega | exact iG_lt (by omega) (by decide) | exact iM_lt (by omega) (by decide)) (by decide) rfl ?_
          refine r_aload_n K dX7_seats_75 1 rfl ?_
          refine r_iload_n K dX7_seats_76 2 rfl ?_
          refine r_iconst K dX7_seats_77 (nI 1) (by decide) ?_
          refine r_iaddN K dX7_seats_78 ?_
          refine r_cV K dX7_seats_79 (c_X7_seats5 l Γ h a hi lm rm pc ((seLoop (seF r 5) p g (gi, bg, bi)).2.2) sd r (upd ((seLoop (seF r 5) p g (gi, bg, bi)).1) p (nI g)) ((seLoop (seF r 5) p g (gi, bg, bi)).2.1) po (p + 1) (hI) (by omega) (giOK_u (r := r) (t := (gi, bg, bi)) hgi (by omega) g (by omega))) mX7_seats q982 rfl (by decide) rfl rfl 5 rfl [0, 1, 2, 3, 4] [] rfl rfl [] rfl (fun u => [mo h a hi lm rm pc ((seF r 5 ((upd ((seLoop (seF r 5) p g (gi, bg, bi)).1) p (nI g)), ((seLoop (seF r 5) p g (gi, bg, bi)).2.1), ((seLoop (seF r 5) p g (gi, bg, bi)).2.2))).2.2) sd, eI Γ (a 0) 42 r, eI Γ (a 8) 6 ((seF r 5 ((upd ((seLoop (seF r 5) p g (gi, bg, bi)).1) p (nI g)), ((seLoop (seF r 5) p g (gi, bg, bi)).2.1), ((seLoop (seF r 5) p g (gi, bg, bi)).2.2))).1), eI Γ (a 9) 6 ((seF r 5 ((upd ((seLoop (seF r 5) p g (gi, bg, bi)).1) p (nI g)), ((seLoop (seF r 5) p g (gi, bg, bi)).2.1), ((seLoop (seF r 5) p g (gi, bg, bi)).2.2))).2.1), eI Γ (a 10) 5 u]) (fun _ => rfl) (fun _ => rfl) (fun _ => rfl) [] rfl (Nat.le_of_ble_eq_true rfl) (fun u1 hu2 => ?_)
          show V 82 _ [] [mo h a hi lm rm pc ((seF r 5 ((upd ((seLoop (seF r 5) p g (gi, bg, bi)).1) p (nI g)), ((seLoop (seF r 5) p g (gi, bg, bi)).2.1), ((seLoop (seF r 5) p g (gi, bg, bi)).2.2))).2.2) sd, eI Γ (a 0) 42 r, eI Γ (a 8) 6 ((seF r 5 ((upd ((seLoop (seF r 5) p g (gi, bg, bi)).1) p (nI g)), ((seLoop (seF r 5) p g (gi, bg, bi)).2.1), ((seLoop (seF r 5) p g (gi, bg, bi)).2.2))).1), eI Γ (a 9) 6 ((seF r 5 ((upd ((seLoop (seF r 5) p g (gi, bg, bi)).1) p (nI g)), ((seLoop (seF r 5) p g (gi, bg, bi)).2.1), ((seLoop (seF r 5) p g (gi, bg, bi)).2.2))).2.1), eI Γ (a 10) 5 u1]
          refine r_iincN K dX7_seats_82 (n := 1) 0 rfl rfl (by decide) (lv1 := [(2, .int (nI (g + 1))), (0, .ref h), (1, .int (nI p))]) rfl ?_
          refine r_goto K dX7_seats_85 ?_
          refine r_ws K (ws1 := [mo h a hi lm rm pc ((seLoop (seF r 5) p (g + 1) (gi, bg, bi)).2.2) sd, eI Γ (a 0) 42 r, eI Γ (a 8) 6 ((seLoop (seF r 5) p (g + 1) (gi, bg, bi)).1), eI Γ (a 9) 6 ((seLoop (seF r 5) p (g + 1) (gi, bg, bi)).2.1), eI Γ (a 10) 5 u1]) (by rw [seLoop_s]; exact weq.rf) ?_
          exact ih_L58 (g + 1) u1 (by omega) (by omega)
    refine r_ws K (ws1 := [mo h a hi lm rm pc ((seLoop (seF r 5) p 0 (gi, bg, bi)).2.2) sd, eI Γ (a 0) 42 r, eI Γ (a 8) 6 ((seLoop (seF r 5) p 0 (gi, bg, bi)).1), eI Γ (a 9) 6 ((seLoop (seF r 5) p 0 (gi, bg, bi)).2.1), eI Γ (a 10) 5 po]) (weq.rf) ?_
    exact L58 _ 0 po (Nat.zero_le _) (Nat.lt_succ_self _)
  · exact absurd hpd (by omega)
set_option maxHeartbeats 1000000 in
set_option maxRecDepth 20000 in
theorem c_X7_seat (l : Launch) (Γ : eG) (h : Nat) (a : Nat → Nat) (hi : Bool) (lm : Nat) (rm : Nat) (pc : Nat) (bi : Int32) (sd : Int32) (r : Nat → Int32) (rf : Nat → Int32) (gi : Nat → Int32) (bg : Nat → Int32) (po : Nat → Int32) (x : Int32) (sx : Nat) (sc : Nat) (hI : Inv r) (hs1 : 0 < nG r → (seF r (nM r) (gi, bg, -1)).2.2 = nI (sx / 15625)) (hs2 : 0 < nG r → ∀ m, m < nM r → (seF r (nM r) (gi, bg, -1)).2.1 m = nI (sc / dgN m % 5)) : cE l Γ yX7_seat cX7_seat 2 (some .int) 10 [.ref h, .int x] [mo h a hi lm rm pc bi sd, eI Γ (a 0) 42 r, eI Γ (a 8) 6 gi, eI Γ (a 9) 6 bg, eI Γ (a 10) 5 po, eI Γ (a 6) 7 rf] (S := (Nat → Int32) × (Nat → Int32) × (Nat → Int32) × (Int32)) (fun u => True) (fun u => (some (.int (chE (eSeat r x) (aSeat r x sx sc) (eSeat r x))))) (fun u => [mo h a hi lm rm pc u.2.2.2 sd, eI Γ (a 0) 42 r, eI Γ (a 8) 6 u.1, eI Γ (a 9) 6 u.2.1, eI Γ (a 10) 5 u.2.2.1, eI Γ (a 6) 7 (chE (eSeat r x) rf (nof rf (eSeat r x)))]) := by
  refine e_int [(0, .ref h), (1, .int x)] (by decide +kernel) (Nat.le_of_ble_eq_true rfl) rfl (fun V K hR => ?_)
  have h5 := hI.g
  have h6 := hI.m
  refine r_iload_n K dX7_seat_0 1 rfl ?_
  refine r_iconst K dX7_seat_1 ((-1)) (by decide) ?_
  refine r_ic_eq K dX7_seat_2 (fun c2 => ?_) (fun c2 => ?_)
  · refine r_aload_n K dX7_seat_19 0 rfl ?_
    refine r_get K dX7_seat_20 (kf := 0) 0 rfl rfl hinX7 (by decide) q757 rfl rfl ?_
    refine r_iconst K dX7_seat_23 (nI 0) (by decide) ?_
    refine r_aldN K dX7_seat_24 1 rfl (by first | omega | exact iG_lt (by omega) (by decide) | exact iM_lt (by omega) (by decide)) (by decide) ?_
    refine r_top (y := nI (nG r)) (hI.r0) ?_
    refine r_if_neN K dX7_seat_25 (by omega) (fun c25 => ?_) (fun c25 => ?_)
    · refine r_aload_n K dX7_seat_39 0 rfl ?_
      refine r_iconst K dX7_seat_40 ((-1)) (by decide) ?_
      refine r_put K dX7_seat_41 (kf := 15) (ty := .int) (ws1 := [mo h a hi lm rm pc (-1) sd, eI Γ (a 0) 42 r, eI Γ (a 8) 6 gi, eI Γ (a 9) 6 bg, eI Γ (a 10) 5 po, eI Γ (a 6) 7 rf]) 0 rfl rfl hinX7 tyX7 tyX7_ok nmX7 (by decide) q772 rfl (by decide +kernel) rfl rfl (Nat.le_of_ble_eq_true rfl) rfl ?_
      have hseven : nM r = 0 ∨ nM r = 1 ∨ nM r = 2 ∨ nM r = 3 ∨ nM r = 4 ∨ nM r = 5 ∨ nM r = 6 := by omega
      rcases hseven with e6 | e6 | e6 | e6 | e6 | e6 | e6
      · rw [e6] at hs1 hs2
        refine r_aload_n K dX7_seat_44 0 rfl ?_
        refine r_iconst K dX7_seat_45 (nI 0) (by decide) ?_
        refine r_cV K dX7_seat_46 (c_X7_seats0 l Γ h a hi lm rm pc (-1) sd r gi bg po 0 (hI) (by omega) (fun q hq => absurd hq (by omega))) mX7_seats q982 rfl (by decide) rfl rfl 6 rfl [0, 1, 2, 3, 4] [5] rfl rfl [eI Γ (a 6) 7 rf] rfl (fun u => [mo h a hi lm rm pc ((seF r 0 (gi, bg, (-1))).2.2) sd, eI Γ (a 0) 42 r, eI Γ (a 8) 6 ((seF r 0 (gi, bg, (-1))).1), eI Γ (a 9) 6 ((seF r 0 (gi, bg, (-1))).2.1), eI Γ (a 10) 5 u, eI Γ (a 6) 7 rf]) (fun _ => rfl) (fun _ => rfl) (fun _ => rfl) [] rfl (Nat.le_of_ble_eq_true rfl) (fun u1 hu2 => ?_)
        show V 49 _ [] [mo h a hi lm rm pc ((seF r 0 (gi, bg, (-1))).2.2) sd, eI Γ (a 0) 42 r, eI Γ (a 8) 6 ((seF r 0 (gi, bg, (-1))).1), eI Γ (a 9) 6 ((seF r 0 (gi, bg, (-1))).2.1), eI Γ (a 10) 5 u1, eI Γ (a 6) 7 rf]
        refine r_iload_n K dX7_seat_49 1 rfl ?_
        refine r_if_ge K dX7_seat_50 (fun c50 => ?_) (fun c50 => ?_)
        · exact absurd c50 (by rw [c2]; decide)
        · refine r_aload_n K dX7_seat_53 0 rfl ?_
          refine r_get K dX7_seat_54 (kf := 15) 0 rfl rfl hinX7 (by decide) q772 rfl rfl ?_
          refine r_goto K dX7_seat_57 ?_
          have he : eSeat r x = 0 := by
            unfold eSeat
            rw [if_neg (fun z => z.1 c2)]
          refine r_arr K (f2 := chE (eSeat r x) rf (nof rf (eSeat r x))) (ws1 := [mo h a hi lm rm pc ((seF r 0 (gi, bg, (-1))).2.2) sd, eI Γ (a 0) 42 r, eI Γ (a 8) 6 ((seF r 0 (gi, bg, (-1))).1), eI Γ (a 9) 6 ((seF r 0 (gi, bg, (-1))).2.1), eI Γ (a 10) 5 u1, eI Γ (a 6) 7 (chE (eSeat r x) rf (nof rf (eSeat r x)))]) 5 rfl (fun _ _ => by rw [chE_0 he]) rfl ?_
          exact hR ((seF r 0 (gi, bg, (-1))).1, (seF r 0 (gi, bg, (-1))).2.1, u1, (seF r 0 (gi, bg, (-1))).2.2) dX7_seat_66 (trivial) (e_ri (ex_0 he (by unfold aSeat; rw [if_neg c25, if_pos c2]; exact (hs1 (by omega)).symm))) (weq.rf)
      · rw [e6] at hs1 hs2
        refine r_aload_n K dX7_seat_44 0 rfl ?_
        refine r_iconst K dX7_seat_45 (nI 0) (by decide) ?_
        refine r_cV K dX7_seat_46 (c_X7_seats1 l Γ h a hi lm rm pc (-1) sd r gi bg po 0 (hI) (by omega) (fun q hq => absurd hq (by omega))) mX7_seats q982 rfl (by decide) rfl rfl 6 rfl [0, 1, 2, 3, 4] [5] rfl rfl [eI Γ (a 6) 7 rf] rfl (fun u => [mo h a hi lm rm pc ((seF r 1 (gi, bg, (-1))).2.2) sd, eI Γ (a 0) 42 r, eI Γ (a 8) 6 ((seF r 1 (gi, bg, (-1))).1), eI Γ (a 9) 6 ((seF r 1 (gi, bg, (-1))).2.1), eI Γ (a 10) 5 u, eI Γ (a 6) 7 rf]) (fun _ => rfl) (fun _ => rfl) (fun _ => rfl) [] rfl (Nat.le_of_ble_eq_true rfl) (fun u3 hu4 => ?_)
        show V 49 _ [] [mo h a hi lm rm pc ((seF r 1 (gi, bg, (-1))).2.2) sd, eI Γ (a 0) 42 r, eI Γ (a 8) 6 ((seF r 1 (gi, bg, (-1))).1), eI Γ (a 9) 6 ((seF r 1 (gi, bg, (-1))).2.1), eI Γ (a 10) 5 u3, eI Γ (a 6) 7 rf]
        refine r_iload_n K dX7_seat_49 1 rfl ?_
        refine r_if_ge K dX7_seat_50 (fun c50 => ?_) (fun c50 => ?_)
        · exact absurd c50 (by rw [c2]; decide)
        · refine r_aload_n K dX7_seat_53 0 rfl ?_
          refine r_get K dX7_seat_54 (kf := 15) 0 rfl rfl hinX7 (by decide) q772 rfl rfl ?_
          refine r_goto K dX7_seat_57 ?_
          have he : eSeat r x = 0 := by
            unfold eSeat
            rw [if_neg (fun z => z.1 c2)]
          refine r_arr K (f2 := chE (eSeat r x) rf (nof rf (eSeat r x))) (ws1 := [mo h a hi lm rm pc ((seF r 1 (gi, bg, (-1))).2.2) sd, eI Γ (a 0) 42 r, eI Γ (a 8) 6 ((seF r 1 (gi, bg, (-1))).1), eI Γ (a 9) 6 ((seF r 1 (gi, bg, (-1))).2.1), eI Γ (a 10) 5 u3, eI Γ (a 6) 7 (chE (eSeat r x) rf (nof rf (eSeat r x)))]) 5 rfl (fun _ _ => by rw [chE_0 he]) rfl ?_
          exact hR ((seF r 1 (gi, bg, (-1))).1, (seF r 1 (gi, bg, (-1))).2.1, u3, (seF r 1 (gi, bg, (-1))).2.2) dX7_seat_66 (trivial) (e_ri (ex_0 he (by unfold aSeat; rw [if_neg c25, if_pos c2]; exact (hs1 (by omega)).symm))) (weq.rf)
      · rw [e6] at hs1 hs2
        refine r_aload_n K dX7_seat_44 0 rfl ?_
        refine r_iconst K dX7_seat_45 (nI 0) (by decide) ?_
        refine r_cV K dX7_seat_46 (c_X7_seats2 l Γ h a hi lm rm pc (-1) sd r gi bg po 0 (hI) (by omega) (fun q hq => absurd hq (by omega))) mX7_seats q982 rfl (by decide) rfl rfl 6 rfl [0, 1, 2, 3, 4] [5] rfl rfl [eI Γ (a 6) 7 rf] rfl (fun u => [mo h a hi lm rm pc ((seF r 2 (gi, bg, (-1))).2.2) sd, eI Γ (a 0) 42 r, eI Γ (a 8) 6 ((seF r 2 (gi, bg, (-1))).1), eI Γ (a 9) 6 ((seF r 2 (gi, bg, (-1))).2.1), eI Γ (a 10) 5 u, eI Γ (a 6) 7 rf]) (fun _ => rfl) (fun _ => rfl) (fun _ => rfl) [] rfl (Nat.le_of_ble_eq_true rfl) (fun u5 hu6 => ?_)
        show V 49 _ [] [mo h a hi lm rm pc ((seF r 2 (gi, bg, (-1))).2.2) sd, eI Γ (a 0) 42 r, eI Γ (a 8) 6 ((seF r 2 (gi, bg, (-1))).1), eI Γ (a 9) 6 ((seF r 2 (gi, bg, (-1))).2.1), eI Γ (a 10) 5 u5, eI Γ (a 6) 7 rf]
        refine r_iload_n K dX7_seat_49 1 rfl ?_
        refine r_if_ge K dX7_seat_50 (fun c50 => ?_) (fun c50 => ?_)
        · exact absurd c50 (by rw [c2]; decide)
        · refine r_aload_n K dX7_seat_53 0 rfl ?_
          refine r_get K dX7_seat_54 (kf := 15) 0 rfl rfl hinX7 (by decide) q772 rfl rfl ?_
          refine r_goto K dX7_seat_57 ?_
          have he : eSeat r x = 0 := by
            unfold eSeat
            rw [if_neg (fun z => z.1 c2)]
          refine r_arr K (f2 := chE (eSeat r x) rf (nof rf (eSeat r x))) (ws1 := [mo h a hi lm rm pc ((seF r 2 (gi, bg, (-1))).2.2) sd, eI Γ (a 0) 42 r, eI Γ (a 8) 6 ((seF r 2 (gi, bg, (-1))).1), eI Γ (a 9) 6 ((seF r 2 (gi, bg, (-1))).2.1), eI Γ (a 10) 5 u5, eI Γ (a 6) 7 (chE (eSeat r x) rf (nof rf (eSeat r x)))]) 5 rfl (fun _ _ => by rw [chE_0 he]) rfl ?_
          exact hR ((seF r 2 (gi, bg, (-1))).1, (seF r 2 (gi, bg, (-1))).2.1, u5, (seF r 2 (gi, bg, (-1))).2.2) dX7_seat_66 (trivial) (e_ri (ex_0 he (by unfold aSeat; rw [if_neg c25, if_pos c2]; exact (hs1 (by omega)).symm))) (weq.rf)
      · rw [e6] at hs1 hs2
        refine r_aload_n K dX7_seat_44 0 rfl ?_
        refine r_iconst K dX7_seat_45 (nI 0) (by decide) ?_
        refine r_cV K dX7_seat_46 (c_X7_seats3 l Γ h a hi lm rm pc (-1) sd r gi bg po 0 (hI) (by omega) (fun q hq => absurd hq (by omega))) mX7_seats q982 rfl (by decide) rfl rfl 6 rfl [0, 1, 2, 3, 4] [5] rfl rfl [eI Γ (a 6) 7 rf] rfl (fun u => [mo h a hi lm rm pc ((seF r 3 (gi, bg, (-1))).2.2) sd, eI Γ (a 0) 42 r, eI Γ (a 8) 6 ((seF r 3 (gi, bg, (-1))).1), eI Γ (a 9) 6 ((seF r 3 (gi, bg, (-1))).2.1), eI Γ (a 10) 5 u, eI Γ (a 6) 7 rf]) (fun _ => rfl) (fun _ => rfl) (fun _ => rfl) [] rfl (Nat.le_of_ble_eq_true rfl) (fun u7 hu8 => ?_)
        show V 49 _ [] [mo h a hi lm rm pc ((seF r 3 (gi, bg, (-1))).2.2) sd, eI Γ (a 0) 42 r, eI Γ (a 8) 6 ((seF r 3 (gi, bg, (-1))).1), eI Γ (a 9) 6 ((seF r 3 (gi, bg, (-1))).2.1), eI Γ (a 10) 5 u7, eI Γ (a 6) 7 rf]
        refine r_iload_n K dX7_seat_49 1 rfl ?_
        refine r_if_ge K dX7_seat_50 (fun c50 => ?_) (fun c50 => ?_)
        · exact absurd c50 (by rw [c2]; decide)
        · refine r_aload_n K dX7_seat_53 0 rfl ?_
          refine r_get K dX7_seat_54 (kf := 15) 0 rfl rfl hinX7 (by decide) q772 rfl rfl ?_
          refine r_goto K dX7_seat_57 ?_
          have he : eSeat r x = 0 := by
            unfold eSeat
            rw [if_neg (fun z => z.1 c2)]
          refine r_arr K (f2 := chE (eSeat r x) rf (nof rf (eSeat r x))) (ws1 := [mo h a hi lm rm pc ((seF r 3 (gi, bg, (-1))).2.2) sd, eI Γ (a 0) 42 r, eI Γ (a 8) 6 ((seF r 3 (gi, bg, (-1))).1), eI Γ (a 9) 6 ((seF r 3 (gi, bg, (-1))).2.1), eI Γ (a 10) 5 u7, eI Γ (a 6) 7 (chE (eSeat r x) rf (nof rf (eSeat r x)))]) 5 rfl (fun _ _ => by rw [chE_0 he]) rfl ?_
          exact hR ((seF r 3 (gi, bg, (-1))).1, (seF r 3 (gi, bg, (-1))).2.1, u7, (seF r 3 (gi, bg, (-1))).2.2) dX7_seat_66 (trivial) (e_ri (ex_0 he (by unfold aSeat; rw [if_neg c25, if_pos c2]; exact (hs1 (by omega)).symm))) (weq.rf)
      · rw [e6] at hs1 hs2
        refine r_aload_n K dX7_seat_44 0 rfl ?_
        refine r_iconst K dX7_seat_45 (nI 0) (by decide) ?_
        refine r_cV K dX7_seat_46 (c_X7_seats4 l Γ h a hi lm rm pc (-1) sd r gi bg po 0 (hI) (by omega) (fun q hq => absurd hq (by omega))) mX7_seats q982 rfl (by decide) rfl rfl 6 rfl [0, 1, 2, 3, 4] [5] rfl rfl [eI Γ (a 6) 7 rf] rfl (fun u => [mo h a hi lm rm pc ((seF r 4 (gi, bg, (-1))).2.2) sd, eI Γ (a 0) 42 r, eI Γ (a 8) 6 ((seF r 4 (gi, bg, (-1))).1), eI Γ (a 9) 6 ((seF r 4 (gi, bg, (-1))).2.1), eI Γ (a 10) 5 u, eI Γ (a 6) 7 rf]) (fun _ => rfl) (fun _ => rfl) (fun _ => rfl) [] rfl (Nat.le_of_ble_eq_true rfl) (fun u9 hu10 => ?_)
        show V 49 _ [] [mo h a hi lm rm pc ((seF r 4 (gi, bg, (-1))).2.2) sd, eI Γ (a 0) 42 r, eI Γ (a 8) 6 ((seF r 4 (gi, bg, (-1))).1), eI Γ (a 9) 6 ((seF r 4 (gi, bg, (-1))).2.1), eI Γ (a 10) 5 u9, eI Γ (a 6) 7 rf]
        refine r_iload_n K dX7_seat_49 1 rfl ?_
        refine r_if_ge K dX7_seat_50 (fun c50 => ?_) (fun c50 => ?_)
        · exact absurd c50 (by rw [c2]; decide)
        · refine r_aload_n K dX7_seat_53 0 rfl ?_
          refine r_get K dX7_seat_54 (kf := 15) 0 rfl rfl hinX7 (by decide) q772 rfl rfl ?_
          refine r_goto K dX7_seat_57 ?_
          have he : eSeat r x = 0 := by
            unfold eSeat
            rw [if_neg (fun z => z.1 c2)]
          refine r_arr K (f2 := chE (eSeat r x) rf (nof rf (eSeat r x))) (ws1 := [mo h a hi lm rm pc ((seF r 4 (gi, bg, (-1))).2.2) sd, eI Γ (a 0) 42 r, eI Γ (a 8) 6 ((seF r 4 (gi, bg, (-1))).1), eI Γ (a 9) 6 ((seF r 4 (gi, bg, (-1))).2.1), eI Γ (a 10) 5 u9, eI Γ (a 6) 7 (chE (eSeat r x) rf (nof rf (eSeat r x)))]) 5 rfl (fun _ _ => by rw [chE_0 he]) rfl ?_
          exact hR ((seF r 4 (gi, bg, (-1))).1, (seF r 4 (gi, bg, (-1))).2.1, u9, (seF r 4 (gi, bg, (-1))).2.2) dX7_seat_66 (trivial) (e_ri (ex_0 he (by unfold aSeat; rw [if_neg c25, if_pos c2]; exact (hs1 (by omega)).symm))) (weq.rf)
      · rw [e6] at hs1 hs2
        refine r_aload_n K dX7_seat_44 0 rfl ?_
        refine r_iconst K dX7_seat_45 (nI 0) (by decide) ?_
        refine r_cV K dX7_seat_46 (c_X7_seats5 l Γ h a hi lm rm pc (-1) sd r gi bg po 0 (hI) (by omega) (fun q hq => absurd hq (by omega))) mX7_seats q982 rfl (by decide) rfl rfl 6 rfl [0, 1, 2, 3, 4] [5] rfl rfl [eI Γ (a 6) 7 rf] rfl (fun u => [mo h a hi lm rm pc ((seF r 5 (gi, bg, (-1))).2.2) sd, eI Γ (a 0) 42 r, eI Γ (a 8) 6 ((seF r 5 (gi, bg, (-1))).1), eI Γ (a 9) 6 ((seF r 5 (gi, bg, (-1))).2.1), eI Γ (a 10) 5 u, eI Γ (a 6) 7 rf]) (fun _ => rfl) (fun _ => rfl) (fun _ => rfl) [] rfl (Nat.le_of_ble_eq_true rfl) (fun u11 hu12 => ?_)
        show V 49 _ [] [mo h a hi lm rm pc ((seF r 5 (gi, bg, (-1))).2.2) sd, eI Γ (a 0) 42 r, eI Γ (a 8) 6 ((seF r 5 (gi, bg, (-1))).1), eI Γ (a 9) 6 ((seF r 5 (gi, bg, (-1))).2.1), eI Γ (a 10) 5 u11, eI Γ (a 6) 7 rf]
        refine r_iload_n K dX7_seat_49 1 rfl ?_
        refine r_if_ge K dX7_seat_50 (fun c50 => ?_) (fun c50 => ?_)
        · exact absurd c50 (by rw [c2]; decide)
        · refine r_aload_n K dX7_seat_53 0 rfl ?_
          refine r_get K dX7_seat_54 (kf := 15) 0 rfl rfl hinX7 (by decide) q772 rfl rfl ?_
          refine r_goto K dX7_seat_57 ?_
          have he : eSeat r x = 0 := by
            unfold eSeat
            rw [if_neg (fun z => z.1 c2)]
          refine r_arr K (f2 := chE (eSeat r x) rf (nof rf (eSeat r x))) (ws1 := [mo h a hi lm rm pc ((seF r 5 (gi, bg, (-1))).2.2) sd, eI Γ (a 0) 42 r, eI Γ (a 8) 6 ((seF r 5 (gi, bg, (-1))).1), eI Γ (a 9) 6 ((seF r 5 (gi, bg, (-1))).2.1), eI Γ (a 10) 5 u11, eI Γ (a 6) 7 (chE (eSeat r x) rf (nof rf (eSeat r x)))]) 5 rfl (fun _ _ => by rw [chE_0 he]) rfl ?_
          exact hR ((seF r 5 (gi, bg, (-1))).1, (seF r 5 (gi, bg, (-1))).2.1, u11, (seF r 5 (gi, bg, (-1))).2.2) dX7_seat_66 (trivial) (e_ri (ex_0 he (by unfold aSeat; rw [if_neg c25, if_pos c2]; exact (hs1 (by omega)).symm))) (weq.rf)
      · rw [e6] at hs1 hs2
        refine r_aload_n K dX7_seat_44 0 rfl ?_
        refine r_iconst K dX7_seat_45 (nI 0) (by decide) ?_
        refine r_cV K dX7_seat_46 (c_X7_seats6 l Γ h a hi lm rm pc (-1) sd r gi bg po 0 (hI) (by omega) (fun q hq => absurd hq (by omega))) mX7_seats q982 rfl (by decide) rfl rfl 6 rfl [0, 1, 2, 3, 4] [5] rfl rfl [eI Γ (a 6) 7 rf] rfl (fun u => [mo h a hi lm rm pc ((seF r 6 (gi, bg, (-1))).2.2) sd, eI Γ (a 0) 42 r, eI Γ (a 8) 6 ((seF r 6 (gi, bg, (-1))).1), eI Γ (a 9) 6 ((seF r 6 (gi, bg, (-1))).2.1), eI Γ (a 10) 5 u, eI Γ (a 6) 7 rf]) (fun _ => rfl) (fun _ => rfl) (fun _ => rfl) [] rfl (Nat.le_of_ble_eq_true rfl) (fun u13 hu14 => ?_)
        show V 49 _ [] [mo h a hi lm rm pc ((seF r 6 (gi, bg, (-1))).2.2) sd, eI Γ (a 0) 42 r, eI Γ (a 8) 6 ((seF r 6 (gi, bg, (-1))).1), eI Γ (a 9) 6 ((seF r 6 (gi, bg, (-1))).2.1), eI Γ (a 10) 5 u13, eI Γ (a 6) 7 rf]
        refine r_iload_n K dX7_seat_49 1 rfl ?_
        refine r_if_ge K dX7_seat_50 (fun c50 => ?_) (fun c50 => ?_)
        · exact absurd c50 (by rw [c2]; decide)
        · refine r_aload_n K dX7_seat_53 0 rfl ?_
          refine r_get K dX7_seat_54 (kf := 15) 0 rfl rfl hinX7 (by decide) q772 rfl rfl ?_
          refine r_goto K dX7_seat_57 ?_
          have he : eSeat r x = 0 := by
            unfold eSeat
            rw [if_neg (fun z => z.1 c2)]
          refine r_arr K (f2 := chE (eSeat r x) rf (nof rf (eSeat r x))) (ws1 := [mo h a hi lm rm pc ((seF r 6 (gi, bg, (-1))).2.2) sd, eI Γ (a 0) 42 r, eI Γ (a 8) 6 ((seF r 6 (gi, bg, (-1))).1), eI Γ (a 9) 6 ((seF r 6 (gi, bg, (-1))).2.1), eI Γ (a 10) 5 u13, eI Γ (a 6) 7 (chE (eSeat r x) rf (nof rf (eSeat r x)))]) 5 rfl (fun _ _ => by rw [chE_0 he]) rfl ?_
          exact hR ((seF r 6 (gi, bg, (-1))).1, (seF r 6 (gi, bg, (-1))).2.1, u13, (seF r 6 (gi, bg, (-1))).2.2) dX7_seat_66 (trivial) (e_ri (ex_0 he (by unfold aSeat; rw [if_neg c25, if_pos c2]; exact (hs1 (by omega)).symm))) (weq.rf)
    · refine r_iload_n K dX7_seat_28 1 rfl ?_
      refine r_if_ge K dX7_seat_29 (fun c29 => ?_) (fun c29 => ?_)
      · exact absurd c29 (by rw [c2]; decide)
      · refine r_iconst K dX7_seat_32 (nI 0) (by decide) ?_
        refine r_goto K dX7_seat_33 ?_
        have he : eSeat r x = 0 := by
          unfold eSeat
          rw [if_neg (fun z => z.1 c2)]
        refine r_arr K (f2 := chE (eSeat r x) rf (nof rf (eSeat r x))) (ws1 := [mo h a hi lm rm pc bi sd, eI Γ (a 0) 42 r, eI Γ (a 8) 6 gi, eI Γ (a 9) 6 bg, eI Γ (a 10) 5 po, eI Γ (a 6) 7 (chE (eSeat r x) rf (nof rf (eSeat r x)))]) 5 rfl (fun _ _ => by rw [chE_0 he]) rfl ?_
        exact hR (gi, bg, po, bi) dX7_seat_38 (trivial) (e_ri (ex_0 he (by unfold aSeat; rw [if_pos c25, if_pos c2]))) (weq.rf)
  · refine r_aload_n K dX7_seat_5 0 rfl ?_
    refine r_iload_n K dX7_seat_6 1 rfl ?_
    refine r_cVd K dX7_seat_7 (c_X7_isMourner l Γ h a hi lm rm pc bi sd r x (hI)) mX7_isMourner q856 rfl (by decide) rfl rfl 6 rfl [0, 1] [2, 3, 4, 5] rfl rfl [eI Γ (a 8) 6 gi, eI Γ (a 9) 6 bg, eI Γ (a 10) 5 po, eI Γ (a 6) 7 rf] rfl [mo h a hi lm rm pc bi sd, eI Γ (a 0) 42 r, eI Γ (a 8) 6 gi, eI Γ (a 9) 6 bg, eI Γ (a 10) 5 po, eI Γ (a 6) 7 rf] rfl rfl rfl [] rfl (Nat.le_of_ble_eq_true rfl) ?_
    refine r_ifneB K dX7_seat_10 (fun c10 => ?_) (fun c10 => ?_)
    · have hx := inN_e c10 (by omega)
      have lx := ix_lt c10 (by omega)
      refine r_lc (lv1 := [(0, .ref h), (1, .int (nI (ix x)))]) (congrArg (fun zz : Int32 => ([(0, .ref h), (1, .int zz)] : List (Nat × Value))) (hx)) ?_
      refine r_aload_n K dX7_seat_19 0 rfl ?_
      refine r_get K dX7_seat_20 (kf := 0) 0 rfl rfl hinX7 (by decide) q757 rfl rfl ?_
      refine r_iconst K dX7_seat_23 (nI 0) (by decide) ?_
      refine r_aldN K dX7_seat_24 1 rfl (by first | omega | exact iG_lt (by omega) (by decide) | exact iM_lt (by omega) (by decide)) (by decide) ?_
      refine r_top (y := nI (nG r)) (hI.r0) ?_
      refine r_if_neN K dX7_seat_25 (by omega) (fun c25 => ?_) (fun c25 => ?_)
      · refine r_aload_n K dX7_seat_39 0 rfl ?_
        refine r_iconst K dX7_seat_40 ((-1)) (by decide) ?_
        refine r_put K dX7_seat_41 (kf := 15) (ty := .int) (ws1 := [mo h a hi lm rm pc (-1) sd, eI Γ (a 0) 42 r, eI Γ (a 8) 6 gi, eI Γ (a 9) 6 bg, eI Γ (a 10) 5 po, eI Γ (a 6) 7 rf]) 0 rfl rfl hinX7 tyX7 tyX7_ok nmX7 (by decide) q772 rfl (by decide +kernel) rfl rfl (Nat.le_of_ble_eq_true rfl) rfl ?_
        have hseven : nM r = 0 ∨ nM r = 1 ∨ nM r = 2 ∨ nM r = 3 ∨ nM r = 4 ∨ nM r = 5 ∨ nM r = 6 := by omega
        rcases hseven with e6 | e6 | e6 | e6 | e6 | e6 | e6
        · rw [e6] at hs1 hs2
          refine r_aload_n K dX7_seat_44 0 rfl ?_
          refine r_iconst K dX7_seat_45 (nI 0) (by decide) ?_
          refine r_cV K dX7_seat_46 (c_X7_seats0 l Γ h a hi lm rm pc (-1) sd r gi bg po 0 (hI) (by omega) (fun q hq => absurd hq (by omega))) mX7_seats q982 rfl (by decide) rfl rfl 6 rfl [0, 1, 2, 3, 4] [5] rfl rfl [eI Γ (a 6) 7 rf] rfl (fun u => [mo h a hi lm rm pc ((seF r 0 (gi, bg, (-1))).2.2) sd, eI Γ (a 0) 42 r, eI Γ (a 8) 6 ((seF r 0 (gi, bg, (-1))).1), eI Γ (a 9) 6 ((seF r 0 (gi, bg, (-1))).2.1), eI Γ (a 10) 5 u, eI Γ (a 6) 7 rf]) (fun _ => rfl) (fun _ => rfl) (fun _ => rfl) [] rfl (Nat.le_of_ble_eq_true rfl) (fun u15 hu16 => ?_)
          show V 49 _ [] [mo h a hi lm rm pc ((seF r 0 (gi, bg, (-1))).2.2) sd, eI Γ (a 0) 42 r, eI Γ (a 8) 6 ((seF r 0 (gi, bg, (-1))).1), eI Γ (a 9) 6 ((seF r 0 (gi, bg, (-1))).2.1), eI Γ (a 10) 5 u15, eI Γ (a 6) 7 rf]
          refine r_iload_n K dX7_seat_49 1 rfl ?_
          refine r_if_geN K dX7_seat_50 (by omega) (fun c50 => ?_) (fun c50 => ?_)
          · refine r_aload_n K dX7_seat_60 0 rfl ?_
            refine r_get K dX7_seat_61 (kf := 13) 0 rfl rfl hinX7 (by decide) q770 rfl rfl ?_
            refine r_iload_n K dX7_seat_64 1 rfl ?_
            refine r_aldN K dX7_seat_65 3 rfl (by first | omega | exact iG_lt (by omega) (by decide) | exact iM_lt (by omega) (by decide)) (by decide) ?_
            have he : eSeat r x = 0 := by
              unfold eSeat
              rw [if_neg (fun z => z.2 c10)]
            refine r_arr K (f2 := chE (eSeat r x) rf (nof rf (eSeat r x))) (ws1 := [mo h a hi lm rm pc ((seF r 0 (gi, bg, (-1))).2.2) sd, eI Γ (a 0) 42 r, eI Γ (a 8) 6 ((seF r 0 (gi, bg, (-1))).1), eI Γ (a 9) 6 ((seF r 0 (gi, bg, (-1))).2.1), eI Γ (a 10) 5 u15, eI Γ (a 6) 7 (chE (eSeat r x) rf (nof rf (eSeat r x)))]) 5 rfl (fun _ _ => by rw [chE_0 he]) rfl ?_
            exact hR ((seF r 0 (gi, bg, (-1))).1, (seF r 0 (gi, bg, (-1))).2.1, u15, (seF r 0 (gi, bg, (-1))).2.2) dX7_seat_66 (trivial) (e_ri (ex_0 he (by unfold aSeat; rw [if_neg c25, if_neg (fun y => absurd (hx.symm.trans y) (nI_n1 (by omega)))]; exact (hs2 (by omega) (ix x) (by omega)).symm))) (weq.rf)
          · exact absurd c50 (by omega)
        · rw [e6] at hs1 hs2
          refine r_aload_n K dX7_seat_44 0 rfl ?_
          refine r_iconst K dX7_seat_45 (nI 0) (by decide) ?_
          refine r_cV K dX7_seat_46 (c_X7_seats1 l Γ h a hi lm rm pc (-1) sd r gi bg po 0 (hI) (by omega) (fun q hq => absurd hq (by omega))) mX7_seats q982 rfl (by decide) rfl rfl 6 rfl [0, 1, 2, 3, 4] [5] rfl rfl [eI Γ (a 6) 7 rf] rfl (fun u => [mo h a hi lm rm pc ((seF r 1 (gi, bg, (-1))).2.2) sd, eI Γ (a 0) 42 r, eI Γ (a 8) 6 ((seF r 1 (gi, bg, (-1))).1), eI Γ (a 9) 6 ((seF r 1 (gi, bg, (-1))).2.1), eI Γ (a 10) 5 u, eI Γ (a 6) 7 rf]) (fun _ => rfl) (fun _ => rfl) (fun _ => rfl) [] rfl (Nat.le_of_ble_eq_true rfl) (fun u17 hu18 => ?_)
          show V 49 _ [] [mo h a hi lm rm pc ((seF r 1 (gi, bg, (-1))).2.2) sd, eI Γ (a 0) 42 r, eI Γ (a 8) 6 ((seF r 1 (gi, bg, (-1))).1), eI Γ (a 9) 6 ((seF r 1 (gi, bg, (-1))).2.1), eI Γ (a 10) 5 u17, eI Γ (a 6) 7 rf]
          refine r_iload_n K dX7_seat_49 1 rfl ?_
          refine r_if_geN K dX7_seat_50 (by omega) (fun c50 => ?_) (fun c50 => ?_)
          · refine r_aload_n K dX7_seat_60 0 rfl ?_
            refine r_get K dX7_seat_61 (kf := 13) 0 rfl rfl hinX7 (by decide) q770 rfl rfl ?_
            refine r_iload_n K dX7_seat_64 1 rfl ?_
            refine r_aldN K dX7_seat_65 3 rfl (by first | omega | exact iG_lt (by omega) (by decide) | exact iM_lt (by omega) (by decide)) (by decide) ?_
            have he : eSeat r x = 0 := by
              unfold eSeat
              rw [if_neg (fun z => z.2 c10)]
            refine r_arr K (f2 := chE (eSeat r x) rf (nof rf (eSeat r x))) (ws1 := [mo h a hi lm rm pc ((seF r 1 (gi, bg, (-1))).2.2) sd, eI Γ (a 0) 42 r, eI Γ (a 8) 6 ((seF r 1 (gi, bg, (-1))).1), eI Γ (a 9) 6 ((seF r 1 (gi, bg, (-1))).2.1), eI Γ (a 10) 5 u17, eI Γ (a 6) 7 (chE (eSeat r x) rf (nof rf (eSeat r x)))]) 5 rfl (fun _ _ => by rw [chE_0 he]) rfl ?_
            exact hR ((seF r 1 (gi, bg, (-1))).1, (seF r 1 (gi, bg, (-1))).2.1, u17, (seF r 1 (gi, bg, (-1))).2.2) dX7_seat_66 (trivial) (e_ri (ex_0 he (by unfold aSeat; rw [if_neg c25, if_neg (fun y => absurd (hx.symm.trans y) (nI_n1 (by omega)))]; exact (hs2 (by omega) (ix x) (by omega)).symm))) (weq.rf)
          · exact absurd c50 (by omega)
        · rw [e6] at hs1 hs2
          refine r_aload_n K dX7_seat_44 0 rfl ?_
          refine r_iconst K dX7_seat_45 (nI 0) (by decide) ?_
          refine r_cV K dX7_seat_46 (c_X7_seats2 l Γ h a hi lm rm pc (-1) sd r gi bg po 0 (hI) (by omega) (fun q hq => absurd hq (by omega))) mX7_seats q982 rfl (by decide) rfl rfl 6 rfl [0, 1, 2, 3, 4] [5] rfl rfl [eI Γ (a 6) 7 rf] rfl (fun u => [mo h a hi lm rm pc ((seF r 2 (gi, bg, (-1))).2.2) sd, eI Γ (a 0) 42 r, eI Γ (a 8) 6 ((seF r 2 (gi, bg, (-1))).1), eI Γ (a 9) 6 ((seF r 2 (gi, bg, (-1))).2.1), eI Γ (a 10) 5 u, eI Γ (a 6) 7 rf]) (fun _ => rfl) (fun _ => rfl) (fun _ => rfl) [] rfl (Nat.le_of_ble_eq_true rfl) (fun u19 hu20 => ?_)
          show V 49 _ [] [mo h a hi lm rm pc ((seF r 2 (gi, bg, (-1))).2.2) sd, eI Γ (a 0) 42 r, eI Γ (a 8) 6 ((seF r 2 (gi, bg, (-1))).1), eI Γ (a 9) 6 ((seF r 2 (gi, bg, (-1))).2.1), eI Γ (a 10) 5 u19, eI Γ (a 6) 7 rf]
          refine r_iload_n K dX7_seat_49 1 rfl ?_
          refine r_if_geN K dX7_seat_50 (by omega) (fun c50 => ?_) (fun c50 => ?_)
          · refine r_aload_n K dX7_seat_60 0 rfl ?_
            refine r_get K dX7_seat_61 (kf := 13) 0 rfl rfl hinX7 (by decide) q770 rfl rfl ?_
            refine r_iload_n K dX7_seat_64 1 rfl ?_
            refine r_aldN K dX7_seat_65 3 rfl (by first | omega | exact iG_lt (by omega) (by decide) | exact iM_lt (by omega) (by decide)) (by decide) ?_
            have he : eSeat r x = 0 := by
              unfold eSeat
              rw [if_neg (fun z => z.2 c10)]
            refine r_arr K (f2 := chE (eSeat r x) rf (nof rf (eSeat r x))) (ws1 := [mo h a hi lm rm pc ((seF r 2 (gi, bg, (-1))).2.2) sd, eI Γ (a 0) 42 r, eI Γ (a 8) 6 ((seF r 2 (gi, bg, (-1))).1), eI Γ (a 9) 6 ((seF r 2 (gi, bg, (-1))).2.1), eI Γ (a 10) 5 u19, eI Γ (a 6) 7 (chE (eSeat r x) rf (nof rf (eSeat r x)))]) 5 rfl (fun _ _ => by rw [chE_0 he]) rfl ?_
            exact hR ((seF r 2 (gi, bg, (-1))).1, (seF r 2 (gi, bg, (-1))).2.1, u19, (seF r 2 (gi, bg, (-1))).2.2) dX7_seat_66 (trivial) (e_ri (ex_0 he (by unfold aSeat; rw [if_neg c25, if_neg (fun y => absurd (hx.symm.trans y) (nI_n1 (by omega)))]; exact (hs2 (by omega) (ix x) (by omega)).symm))) (weq.rf)
          · exact absurd c50 (by omega)
        · rw [e6] at hs1 hs2
          refine r_aload_n K dX7_seat_44 0 rfl ?_
          refine r_iconst K dX7_seat_45 (nI 0) (by decide) ?_
          refine r_cV K dX7_seat_46 (c_X7_seats3 l Γ h a hi lm rm pc (-1) sd r gi bg po 0 (hI) (by omega) (fun q hq => absurd hq (by omega))) mX7_seats q982 rfl (by decide) rfl rfl 6 rfl [0, 1, 2, 3, 4] [5] rfl rfl [eI Γ (a 6) 7 rf] rfl (fun u => [mo h a hi lm rm pc ((seF r 3 (gi, bg, (-1))).2.2) sd, eI Γ (a 0) 42 r, eI Γ (a 8) 6 ((seF r 3 (gi, bg, (-1))).1), eI Γ (a 9) 6 ((seF r 3 (gi, bg, (-1))).2.1), eI Γ (a 10) 5 u, eI Γ (a 6) 7 rf]) (fun _ => rfl) (fun _ => rfl) (fun _ => rfl) [] rfl (Nat.le_of_ble_eq_true rfl) (fun u21 hu22 => ?_)
          show V 49 _ [] [mo h a hi lm rm pc ((seF r 3 (gi, bg, (-1))).2.2) sd, eI Γ (a 0) 42 r, eI Γ (a 8) 6 ((seF r 3 (gi, bg, (-1))).1), eI Γ (a 9) 6 ((seF r 3 (gi, bg, (-1))).2.1), eI Γ (a 10) 5 u21, eI Γ (a 6) 7 rf]
          refine r_iload_n K dX7_seat_49 1 rfl ?_
          refine r_if_geN K dX7_seat_50 (by omega) (fun c50 => ?_) (fun c50 => ?_)
          · refine r_aload_n K dX7_seat_60 0 rfl ?_
            refine r_get K dX7_seat_61 (kf := 13) 0 rfl rfl hinX7 (by decide) q770 rfl rfl ?_
            refine r_iload_n K dX7_seat_64 1 rfl ?_
            refine r_aldN K dX7_seat_65 3 rfl (by first | omega | exact iG_lt (by omega) (by decide) | exact iM_lt (by omega) (by decide)) (by decide) ?_
            have he : eSeat r x = 0 := by
              unfold eSeat
              rw [if_neg (fun z => z.2 c10)]
            refine r_arr K (f2 := chE (eSeat r x) rf (nof rf (eSeat r x))) (ws1 := [mo h a hi lm rm pc ((seF r 3 (gi, bg, (-1))).2.2) sd, eI Γ (a 0) 42 r, eI Γ (a 8) 6 ((seF r 3 (gi, bg, (-1))).1), eI Γ (a 9) 6 ((seF r 3 (gi, bg, (-1))).2.1), eI Γ (a 10) 5 u21, eI Γ (a 6) 7 (chE (eSeat r x) rf (nof rf (eSeat r x)))]) 5 rfl (fun _ _ => by rw [chE_0 he]) rfl ?_
            exact hR ((seF r 3 (gi, bg, (-1))).1, (seF r 3 (gi, bg, (-1))).2.1, u21, (seF r 3 (gi, bg, (-1))).2.2) dX7_seat_66 (trivial) (e_ri (ex_0 he (by unfold aSeat; rw [if_neg c25, if_neg (fun y => absurd (hx.symm.trans y) (nI_n1 (by omega)))]; exact (hs2 (by omega) (ix x) (by omega)).symm))) (weq.rf)
          · exact absurd c50 (by omega)
        · rw [e6] at hs1 hs2
          refine r_aload_n K dX7_seat_44 0 rfl ?_
          refine r_iconst K dX7_seat_45 (nI 0) (by decide) ?_
          refine r_cV K dX7_seat_46 (c_X7_seats4 l Γ h a hi lm rm pc (-1) sd r gi bg po 0 (hI) (by omega) (fun q hq => absurd hq (by omega))) mX7_seats q982 rfl (by decide) rfl rfl 6 rfl [0, 1, 2, 3, 4] [5] rfl rfl [eI Γ (a 6) 7 rf] rfl (fun u => [mo h a hi lm rm pc ((seF r 4 (gi, bg, (-1))).2.2) sd, eI Γ (a 0) 42 r, eI Γ (a 8) 6 ((seF r 4 (gi, bg, (-1))).1), eI Γ (a 9) 6 ((seF r 4 (gi, bg, (-1))).2.1), eI Γ (a 10) 5 u, eI Γ (a 6) 7 rf]) (fun _ => rfl) (fun _ => rfl) (fun _ => rfl) [] rfl (Nat.le_of_ble_eq_true rfl) (fun u23 hu24 => ?_)
          show V 49 _ [] [mo h a hi lm rm pc ((seF r 4 (gi, bg, (-1))).2.2) sd, eI Γ (a 0) 42 r, eI Γ (a 8) 6 ((seF r 4 (gi, bg, (-1))).1), eI Γ (a 9) 6 ((seF r 4 (gi, bg, (-1))).2.1), eI Γ (a 10) 5 u23, eI Γ (a 6) 7 rf]
          refine r_iload_n K dX7_seat_49 1 rfl ?_
          refine r_if_geN K dX7_seat_50 (by omega) (fun c50 => ?_) (fun c50 => ?_)
          · refine r_aload_n K dX7_seat_60 0 rfl ?_
            refine r_get K dX7_seat_61 (kf := 13) 0 rfl rfl hinX7 (by decide) q770 rfl rfl ?_
            refine r_iload_n K dX7_seat_64 1 rfl ?_
            refine r_aldN K dX7_seat_65 3 rfl (by first | omega | exact iG_lt (by omega) (by decide) | exact iM_lt (by omega) (by decide)) (by decide) ?_
            have he : eSeat r x = 0 := by
              unfold eSeat
              rw [if_neg (fun z => z.2 c10)]
            refine r_arr K (f2 := chE (eSeat r x) rf (nof rf (eSeat r x))) (ws1 := [mo h a hi lm rm pc ((seF r 4 (gi, bg, (-1))).2.2) sd, eI Γ (a 0) 42 r, eI Γ (a 8) 6 ((seF r 4 (gi, bg, (-1))).1), eI Γ (a 9) 6 ((seF r 4 (gi, bg, (-1))).2.1), eI Γ (a 10) 5 u23, eI Γ (a 6) 7 (chE (eSeat r x) rf (nof rf (eSeat r x)))]) 5 rfl (fun _ _ => by rw [chE_0 he]) rfl ?_
            exact hR ((seF r 4 (gi, bg, (-1))).1, (seF r 4 (gi, bg, (-1))).2.1, u23, (seF r 4 (gi, bg, (-1))).2.2) dX7_seat_66 (trivial) (e_ri (ex_0 he (by unfold aSeat; rw [if_neg c25, if_neg (fun y => absurd (hx.symm.trans y) (nI_n1 (by omega)))]; exact (hs2 (by omega) (ix x) (by omega)).symm))) (weq.rf)
          · exact absurd c50 (by omega)
        · rw [e6] at hs1 hs2
          refine r_aload_n K dX7_seat_44 0 rfl ?_
          refine r_iconst K dX7_seat_45 (nI 0) (by decide) ?_
          refine r_cV K dX7_seat_46 (c_X7_seats5 l Γ h a hi lm rm pc (-1) sd r gi bg po 0 (hI) (by omega) (fun q hq => absurd hq (by omega))) mX7_seats q982 rfl (by decide) rfl rfl 6 rfl [0, 1, 2, 3, 4] [5] rfl rfl [eI Γ (a 6) 7 rf] rfl (fun u => [mo h a hi lm rm pc ((seF r 5 (gi, bg, (-1))).2.2) sd, eI Γ (a 0) 42 r, eI Γ (a 8) 6 ((seF r 5 (gi, bg, (-1))).1), eI Γ (a 9) 6 ((seF r 5 (gi, bg, (-1))).2.1), eI Γ (a 10) 5 u, eI Γ (a 6) 7 rf]) (fun _ => rfl) (fun _ => rfl) (fun _ => rfl) [] rfl (Nat.le_of_ble_eq_true rfl) (fun u25 hu26 => ?_)
          show V 49 _ [] [mo h a hi lm rm pc ((seF r 5 (gi, bg, (-1))).2.2) sd, eI Γ (a 0) 42 r, eI Γ (a 8) 6 ((seF r 5 (gi, bg, (-1))).1), eI Γ (a 9) 6 ((seF r 5 (gi, bg, (-1))).2.1), eI Γ (a 10) 5 u25, eI Γ (a 6) 7 rf]
          refine r_iload_n K dX7_seat_49 1 rfl ?_
          refine r_if_geN K dX7_seat_50 (by omega) (fun c50 => ?_) (fun c50 => ?_)
          · refine r_aload_n K dX7_seat_60 0 rfl ?_
            refine r_get K dX7_seat_61 (kf := 13) 0 rfl rfl hinX7 (by decide) q770 rfl rfl ?_
            refine r_iload_n K dX7_seat_64 1 rfl ?_
            refine r_aldN K dX7_seat_65 3 rfl (by first | omega | exact iG_lt (by omega) (by decide) | exact iM_lt (by omega) (by decide)) (by decide) ?_
            have he : eSeat r x = 0 := by
              unfold eSeat
              rw [if_neg (fun z => z.2 c10)]
            refine r_arr K (f2 := chE (eSeat r x) rf (nof rf (eSeat r x))) (ws1 := [mo h a hi lm rm pc ((seF r 5 (gi, bg, (-1))).2.2) sd, eI Γ (a 0) 42 r, eI Γ (a 8) 6 ((seF r 5 (gi, bg, (-1))).1), eI Γ (a 9) 6 ((seF r 5 (gi, bg, (-1))).2.1), eI Γ (a 10) 5 u25, eI Γ (a 6) 7 (chE (eSeat r x) rf (nof rf (eSeat r x)))]) 5 rfl (fun _ _ => by rw [chE_0 he]) rfl ?_
            exact hR ((seF r 5 (gi, bg, (-1))).1, (seF r 5 (gi, bg, (-1))).2.1, u25, (seF r 5 (gi, bg, (-1))).2.2) dX7_seat_66 (trivial) (e_ri (ex_0 he (by unfold aSeat; rw [if_neg c25, if_neg (fun y => absurd (hx.symm.trans y) (nI_n1 (by omega)))]; exact (hs2 (by omega) (ix x) (by omega)).symm))) (weq.rf)
          · exact absurd c50 (by omega)
        · rw [e6] at hs1 hs2
          refine r_aload_n K dX7_seat_44 0 rfl ?_
          refine r_iconst K dX7_seat_45 (nI 0) (by decide) ?_
          refine r_cV K dX7_seat_46 (c_X7_seats6 l Γ h a hi lm rm pc (-1) sd r gi bg po 0 (hI) (by omega) (fun q hq => absurd hq (by omega))) mX7_seats q982 rfl (by decide) rfl rfl 6 rfl [0, 1, 2, 3, 4] [5] rfl rfl [eI Γ (a 6) 7 rf] rfl (fun u => [mo h a hi lm rm pc ((seF r 6 (gi, bg, (-1))).2.2) sd, eI Γ (a 0) 42 r, eI Γ (a 8) 6 ((seF r 6 (gi, bg, (-1))).1), eI Γ (a 9) 6 ((seF r 6 (gi, bg, (-1))).2.1), eI Γ (a 10) 5 u, eI Γ (a 6) 7 rf]) (fun _ => rfl) (fun _ => rfl) (fun _ => rfl) [] rfl (Nat.le_of_ble_eq_true rfl) (fun u27 hu28 => ?_)
          show V 49 _ [] [mo h a hi lm rm pc ((seF r 6 (gi, bg, (-1))).2.2) sd, eI Γ (a 0) 42 r, eI Γ (a 8) 6 ((seF r 6 (gi, bg, (-1))).1), eI Γ (a 9) 6 ((seF r 6 (gi, bg, (-1))).2.1), eI Γ (a 10) 5 u27, eI Γ (a 6) 7 rf]
          refine r_iload_n K dX7_seat_49 1 rfl ?_
          refine r_if_geN K dX7_seat_50 (by omega) (fun c50 => ?_) (fun c50 => ?_)
          · refine r_aload_n K dX7_seat_60 0 rfl ?_
            refine r_get K dX7_seat_61 (kf := 13) 0 rfl rfl hinX7 (by decide) q770 rfl rfl ?_
            refine r_iload_n K dX7_seat_64 1 rfl ?_
            refine r_aldN K dX7_seat_65 3 rfl (by first | omega | exact iG_lt (by omega) (by decide) | exact iM_lt (by omega) (by decide)) (by decide) ?_
            have he : eSeat r x = 0 := by
              unfold eSeat
              rw [if_neg (fun z => z.2 c10)]
            refine r_arr K (f2 := chE (eSeat r x) rf (nof rf (eSeat r x))) (ws1 := [mo h a hi lm rm pc ((seF r 6 (gi, bg, (-1))).2.2) sd, eI Γ (a 0) 42 r, eI Γ (a 8) 6 ((seF r 6 (gi, bg, (-1))).1), eI Γ (a 9) 6 ((seF r 6 (gi, bg, (-1))).2.1), eI Γ (a 10) 5 u27, eI Γ (a 6) 7 (chE (eSeat r x) rf (nof rf (eSeat r x)))]) 5 rfl (fun _ _ => by rw [chE_0 he]) rfl ?_
            exact hR ((seF r 6 (gi, bg, (-1))).1, (seF r 6 (gi, bg, (-1))).2.1, u27, (seF r 6 (gi, bg, (-1))).2.2) dX7_seat_66 (trivial) (e_ri (ex_0 he (by unfold aSeat; rw [if_neg c25, if_neg (fun y => absurd (hx.symm.trans y) (nI_n1 (by omega)))]; exact (hs2 (by omega) (ix x) (by omega)).symm))) (weq.rf)
          · exact absurd c50 (by omega)
      · refine r_iload_n K dX7_seat_28 1 rfl ?_
        refine r_if_geN K dX7_seat_29 (by omega) (fun c29 => ?_) (fun c29 => ?_)
        · refine r_bipush K dX7_seat_36 ((-9)) (by decide) ?_
          have he : eSeat r x = 0 := by
            unfold eSeat
            rw [if_neg (fun z => z.2 c10)]
          refine r_arr K (f2 := chE (eSeat r x) rf (nof rf (eSeat r x))) (ws1 := [mo h a hi lm rm pc bi sd, eI Γ (a 0) 42 r, eI Γ (a 8) 6 gi, eI Γ (a 9) 6 bg, eI Γ (a 10) 5 po, eI Γ (a 6) 7 (chE (eSeat r x) rf (nof rf (eSeat r x)))]) 5 rfl (fun _ _ => by rw [chE_0 he]) rfl ?_
          exact hR (gi, bg, po, bi) dX7_seat_38 (trivial) (e_ri (ex_0 he (by unfold aSeat; rw [if_pos c25, if_neg (fun y => absurd (hx.symm.trans y) (nI_n1 (by omega)))]))) (weq.rf)
        · exact absurd c29 (by omega)
    · refine r_aload_n K dX7_seat_13 0 rfl ?_
      refine r_iconst K dX7_seat_14 ((-1)) (by decide) ?_
      refine r_cVd K dX7_seat_15 (c_X7_no l Γ h a hi lm rm pc bi sd rf (-1) (okR_1)) mX7_no q813 rfl (by decide) rfl rfl 6 rfl [0, 5] [1, 2, 3, 4] rfl rfl [eI Γ (a 0) 42 r, eI Γ (a 8) 6 gi, eI Γ (a 9) 6 bg, eI Γ (a 10) 5 po] rfl [mo h a hi lm rm pc bi sd, eI Γ (a 0) 42 r, eI Γ (a 8) 6 gi, eI Γ (a 9) 6 bg, eI Γ (a 10) 5 po, eI Γ (a 6) 7 (nof rf (-1))] rfl rfl rfl [] rfl (Nat.le_of_ble_eq_true rfl) ?_
      have he : eSeat r x = (-1) := by
        unfold eSeat
        rw [if_pos ⟨c2, nt c10⟩]
      refine r_arr K (f2 := chE (eSeat r x) rf (nof rf (eSeat r x))) (ws1 := [mo h a hi lm rm pc bi sd, eI Γ (a 0) 42 r, eI Γ (a 8) 6 gi, eI Γ (a 9) 6 bg, eI Γ (a 10) 5 po, eI Γ (a 6) 7 (chE (eSeat r x) rf (nof rf (eSeat r x)))]) 5 rfl (fun _ _ => by rw [ch_n (g := nof rf) he (by decide)]) rfl ?_
      exact hR (gi, bg, po, bi) dX7_seat_18 (trivial) (e_ri (ex_n he (by decide))) (weq.rf)
