set_option maxHeartbeats 1000000 in
set_option maxRecDepth 20000 in
theorem c_X0_fade6 (l : Launch) (Γ : eG) (h : Nat) (a : Nat → Nat) (r : Nat → Int32) (hI : Inv r) : cD l Γ yX0_fade cX0_fade 2 (none) 1 [.ref h] [ydW Γ h a r] none [ydW Γ h a (fade6 r)] := c_X0_fade l Γ h a r hI
set_option maxHeartbeats 1000000 in
set_option maxRecDepth 20000 in
theorem c_X5_whichToChange (l : Launch) (Γ : eG) (t : Nat) (hn : Nat) (hm : Nat) (dd : Nat) (sd : Int32) (an : Nat → Nat) (am : Nat → Nat) (r : Nat → Int32) (q : Nat → Int32) (n : Nat) (hI : Inv r) (hn31 : n < 2 ^ 31) : cE l Γ yX5_whichToChange cX5_whichToChange 7 (some .int) 5 [.ref t, .int (nI n)] [eO t 3 [.ref hn, .ref hm, .ref dd, .int sd], ydW Γ hn an r, ydW Γ hm am q] (S := Nat → Int32) (fun u => True) (fun u => (some (.int ((chO r n (nM r)).2)))) (fun u => [eO t 3 [.ref hn, .ref hm, .ref dd, .int sd], ydW Γ hn an r, ydW Γ hm am u]) := by
  refine e_int [(0, .ref t), (1, .int (nI n))] (by decide +kernel) (Nat.le_of_ble_eq_true rfl) rfl (fun V K hR => ?_)
  have h5 := hI.g
  have h6 := hI.m
  refine r_aload_n K dX5_whichToChange_0 0 rfl ?_
  refine r_iload_n K dX5_whichToChange_1 1 rfl ?_
  refine r_cVd K dX5_whichToChange_2 (c_X5_after l Γ t hn hm dd sd an am r q n (hI) (by first | assumption | omega)) mX5_after q541 rfl (by decide) rfl rfl 3 rfl [0, 1, 2] [] rfl rfl [] rfl [eO t 3 [.ref hn, .ref hm, .ref dd, .int sd], ydW Γ hn an r, ydW Γ hm am (daysS r n)] rfl rfl rfl [] rfl (Nat.le_of_ble_eq_true rfl) ?_
  refine r_cVd K dX5_whichToChange_5 (c_X0_allPayS l Γ hm am (daysS r n) (Inv_daysS (hI) n)) mX0_allPay q569 rfl (by decide) rfl rfl 3 rfl [2] [0, 1] rfl rfl [eO t 3 [.ref hn, .ref hm, .ref dd, .int sd], ydW Γ hn an r] rfl [eO t 3 [.ref hn, .ref hm, .ref dd, .int sd], ydW Γ hn an r, ydW Γ hm am (daysS r n)] rfl rfl rfl [] rfl (Nat.le_of_ble_eq_true rfl) ?_
  refine r_istore_n K dX5_whichToChange_8 rfl (by decide) (lv1 := [(2, .int (payS (daysS r n))), (0, .ref t), (1, .int (nI n))]) rfl ?_
  refine r_bipush K dX5_whichToChange_9 ((-9)) (by decide) ?_
  refine r_istore_n K dX5_whichToChange_11 rfl (by decide) (lv1 := [(3, .int (-9)), (2, .int (payS (daysS r n))), (0, .ref t), (1, .int (nI n))]) rfl ?_
  refine r_iconst K dX5_whichToChange_12 (nI 0) (by decide) ?_
  refine r_istore K dX5_whichToChange_13 (by decide) (lv1 := [(4, .int (nI 0)), (3, .int (-9)), (2, .int (payS (daysS r n))), (0, .ref t), (1, .int (nI n))]) rfl ?_
  have L15 : ∀ (fL15 : Nat) (a : Nat) (m : Int32) (b : Int32) (q : Nat → Int32), (a ≤ nM r) → (m = (chO r n a).1) → (b = (chO r n a).2) → nM r - a < fL15 → V 15 [(3, .int b), (2, .int m), (4, .int (nI a)), (0, .ref t), (1, .int (nI n))] [] [eO t 3 [.ref hn, .ref hm, .ref dd, .int sd], ydW Γ hn an r, ydW Γ hm am q] := by
    intro fL15
    induction fL15 with
    | zero => intro a m b q ha hm1 hb1 hf; exact absurd hf (Nat.not_lt_zero _)
    | succ fL15 ih_L15 =>
      intro a m b q ha hm1 hb1 hfL15
      refine r_iload K dX5_whichToChange_15 2 rfl ?_
      refine r_aload_n K dX5_whichToChange_17 3 rfl ?_
      refine r_get K dX5_whichToChange_18 (kf := 0) 0 rfl rfl hinX5 (by decide) q69 rfl rfl ?_
      refine r_cVd K dX5_whichToChange_21 (c_X0_mournerCount l Γ hn an r (hI)) mX0_mournerCount q521 rfl (by decide) rfl rfl 3 rfl [1] [0, 2] rfl rfl [eO t 3 [.ref hn, .ref hm, .ref dd, .int sd], ydW Γ hm am q] rfl [eO t 3 [.ref hn, .ref hm, .ref dd, .int sd], ydW Γ hn an r, ydW Γ hm am q] rfl rfl rfl [.int (nI a)] rfl (Nat.le_of_ble_eq_true rfl) ?_
      refine r_ic_geN K dX5_whichToChange_24 (by omega) (by omega) (fun c24 => ?_) (fun c24 => ?_)
      · obtain rfl : a = nM r := by omega
        refine r_iload_n K dX5_whichToChange_139 0 rfl ?_
        exact hR q dX5_whichToChange_140 (trivial) (e_ri (hb1.symm)) (weq.rf)
      · refine r_iload K dX5_whichToChange_27 2 rfl ?_
        refine r_iconst K dX5_whichToChange_29 (nI 1) (by decide) ?_
        refine r_iaddN K dX5_whichToChange_30 ?_
        refine r_istore K dX5_whichToChange_31 (by decide) (lv1 := [(5, .int (nI (a + 1))), (3, .int b), (2, .int m), (4, .int (nI a)), (0, .ref t), (1, .int (nI n))]) rfl ?_
        have L33 : ∀ (fL33 : Nat) (k : Nat) (m : Int32) (b : Int32) (q : Nat → Int32), (k ≤ nM r - (a + 1)) → (m = (amI (chgV r n a) (fun b => nI (10 * a + b)) (a + 1) (chO r n a) k).1) → (b = (amI (chgV r n a) (fun b => nI (10 * a + b)) (a + 1) (chO r n a) k).2) → nM r - (a + 1) - k < fL33 → V 33 [(5, .int (nI (a + 1 + k))), (3, .int b), (2, .int m), (4, .int (nI a)), (0, .ref t), (1, .int (nI n))] [] [eO t 3 [.ref hn, .ref hm, .ref dd, .int sd], ydW Γ hn an r, ydW Γ hm am q] := by
          intro fL33
          induction fL33 with
          | zero => intro k m b q hk hm2 hb2 hf; exact absurd hf (Nat.not_lt_zero _)
          | succ fL33 ih_L33 =>
            intro k m b q hk hm2 hb2 hfL33
            refine r_iload K dX5_whichToChange_33 0 rfl ?_
            refine r_aload_n K dX5_whichToChange_35 4 rfl ?_
            refine r_get K dX5_whichToChange_36 (kf := 0) 0 rfl rfl hinX5 (by decide) q69 rfl rfl ?_
            refine r_cVd K dX5_whichToChange_39 (c_X0_mournerCount l Γ hn an r (hI)) mX0_mournerCount q521 rfl (by decide) rfl rfl 3 rfl [1] [0, 2] rfl rfl [eO t 3 [.ref hn, .ref hm, .ref dd, .int sd], ydW Γ hm am q] rfl [eO t 3 [.ref hn, .ref hm, .ref dd, .int sd], ydW Γ hn an r, ydW Γ hm am q] rfl rfl rfl [.int (nI (a + 1 + k))] rfl (Nat.le_of_ble_eq_true rfl) ?_
            refine r_ic_geN K dX5_whichToChange_42 (by omega) (by omega) (fun c42 => ?_) (fun c42 => ?_)
            · have ek : k = nM r - (a + 1) := by omega
              rw [ek] at hm2 hb2
              refine r_iincN K dX5_whichToChange_133 (n := 1) 3 rfl rfl (by decide) (lv1 := [(4, .int (nI (a + 1))), (5, .int (nI (a + 1 + k))), (3, .int b), (2, .int m), (0, .ref t), (1, .int (nI n))]) rfl ?_
              refine r_goto K dX5_whichToChange_136 ?_
              refine r_lv K [2, 3, 0, 4, 5] rfl ?_
              exact ih_L15 (a + 1) m b q (by omega) (hm2) (hb2) (by omega)
            · refine r_aload_n K dX5_whichToChange_45 4 rfl ?_
              refine r_get K dX5_whichToChange_46 (kf := 1) 0 rfl rfl hinX5 (by decide) q70 rfl rfl ?_
              refine r_aload_n K dX5_whichToChange_49 4 rfl ?_
              refine r_get K dX5_whichToChange_50 (kf := 0) 0 rfl rfl hinX5 (by decide) q69 rfl rfl ?_
              refine r_cVn K dX5_whichToChange_53 (c_X0_become l Γ hm am q hn an r) mX0_become q413 rfl (by decide) rfl rfl 3 rfl [2, 1] [0] rfl rfl [eO t 3 [.ref hn, .ref hm, .ref dd, .int sd]] rfl [eO t 3 [.ref hn, .ref hm, .ref dd, .int sd], ydW Γ hn an r, ydW Γ hm am r] rfl rfl rfl [] rfl (Nat.le_of_ble_eq_true rfl) ?_
              refine r_aload_n K dX5_whichToChange_56 4 rfl ?_
              refine r_get K dX5_whichToChange_57 (kf := 1) 0 rfl rfl hinX5 (by decide) q70 rfl rfl ?_
              refine r_iload K dX5_whichToChange_60 3 rfl ?_
              refine r_aload_n K dX5_whichToChange_62 4 rfl ?_
              refine r_get K dX5_whichToChange_63 (kf := 0) 0 rfl rfl hinX5 (by decide) q69 rfl rfl ?_
              refine r_iload K dX5_whichToChange_66 0 rfl ?_
              refine r_cVd K dX5_whichToChange_68 (c_X0_placeOfN l Γ hn an r (a + 1 + k) (hI) (by first | omega | (simp only [daysS_nM, daysS_nG, dayS_nM, dayS_nG, tellS_nM, tellS_nG, aloneTo_nM, aloneTo_nG, nM_M, nG_M, nM_G, nG_G, lv_nM, lv_nG, gnT_nM, gnT_nG] <;> omega))) mX0_placeOf q555 rfl (by decide) rfl rfl 3 rfl [1] [0, 2] rfl rfl [eO t 3 [.ref hn, .ref hm, .ref dd, .int sd], ydW Γ hm am r] rfl [eO t 3 [.ref hn, .ref hm, .ref dd, .int sd], ydW Γ hn an r, ydW Γ hm am r] rfl rfl rfl [.int (nI a), .ref hm] rfl (Nat.le_of_ble_eq_true rfl) ?_
              refine r_cVn K dX5_whichToChange_71 (c_X0_place l Γ hm am r (nI a) (r (iM (a + 1 + k) 3)) (hI)) mX0_place q532 rfl (by decide) rfl rfl 3 rfl [2] [0, 1] rfl rfl [eO t 3 [.ref hn, .ref hm, .ref dd, .int sd], ydW Γ hn an r] rfl [eO t 3 [.ref hn, .ref hm, .ref dd, .int sd], ydW Γ hn an r, ydW Γ hm am (setM r 3 (nI a) (r (iM (a + 1 + k) 3)))] rfl rfl rfl [] rfl (Nat.le_of_ble_eq_true rfl) ?_
              refine r_ws K (ws1 := [eO t 3 [.ref hn, .ref hm, .ref dd, .int sd], ydW Γ hn an r, ydW Γ hm am (upd r (iM a 3) (r (iM (a + 1 + k) 3)))]) (by rw [setM_N (by omega) (by omega)]; exact weq.rf) ?_
              refine r_aload_n K dX5_whichToChange_74 4 rfl ?_
              refine r_get K dX5_whichToChange_75 (kf := 1) 0 rfl rfl hinX5 (by decide) q70 rfl rfl ?_
              refine r_iload K dX5_whichToChange_78 0 rfl ?_
              refine r_aload_n K dX5_whichToChange_80 4 rfl ?_
              refine r_get K dX5_whichToChange_81 (kf := 0) 0 rfl rfl hinX5 (by decide) q69 rfl rfl ?_
              refine r_iload K dX5_whichToChange_84 3 rfl ?_
              refine r_cVd K dX5_whichToChange_86 (c_X0_placeOfN l Γ hn an r a (hI) (by first | omega | (simp only [daysS_nM, daysS_nG, dayS_nM, dayS_nG, tellS_nM, tellS_nG, aloneTo_nM, aloneTo_nG, nM_M, nG_M, nM_G, nG_G, lv_nM, lv_nG, gnT_nM, gnT_nG] <;> omega))) mX0_placeOf q555 rfl (by decide) rfl rfl 3 rfl [1] [0, 2] rfl rfl [eO t 3 [.ref hn, .ref hm, .ref dd, .int sd], ydW Γ hm am (upd r (iM a 3) (r (iM (a + 1 + k) 3)))] rfl [eO t 3 [.ref hn, .ref hm, .ref dd, .int sd], ydW Γ hn an r, ydW Γ hm am (upd r (iM a 3) (r (iM (a + 1 + k) 3)))] rfl rfl rfl [.int (nI (a + 1 + k)), .ref hm] rfl (Nat.le_of_ble_eq_true rfl) ?_
              refine r_cVn K dX5_whichToChange_89 (c_X0_place l Γ hm am (upd r (iM a 3) (r (iM (a + 1 + k) 3))) (nI (a + 1 + k)) (r (iM a 3)) (Inv_at hI (hI.pl3 (by omega)))) mX0_place q532 rfl (by decide) rfl rfl 3 rfl [2] [0, 1] rfl rfl [eO t 3 [.ref hn, .ref hm, .ref dd, .int sd], ydW Γ hn an r] rfl [eO t 3 [.ref hn, .ref hm, .ref dd, .int sd], ydW Γ hn an r, ydW Γ hm am (setM (upd r (iM a 3) (r (iM (a + 1 + k) 3))) 3 (nI (a + 1 + k)) (r (iM a 3)))] rfl rfl rfl [] rfl (Nat.le_of_ble_eq_true rfl) ?_
              refine r_ws K (ws1 := [eO t 3 [.ref hn, .ref hm, .ref dd, .int sd], ydW Γ hn an r, ydW Γ hm am (upd (upd r (iM a 3) (r (iM (a + 1 + k) 3))) (iM (a + 1 + k) 3) (r (iM a 3)))]) (by rw [setM_N (by rw [nM_M]; omega) (by rw [nM_M]; omega)]; exact weq.rf) ?_
              refine r_aload_n K dX5_whichToChange_92 4 rfl ?_
              refine r_get K dX5_whichToChange_93 (kf := 1) 0 rfl rfl hinX5 (by decide) q70 rfl rfl ?_
              refine r_iload_n K dX5_whichToChange_96 5 rfl ?_
              refine r_cVn K dX5_whichToChange_97 (c_X0_passDays l Γ hm am (upd (upd r (iM a 3) (r (iM (a + 1 + k) 3))) (iM (a + 1 + k) 3) (r (iM a 3))) n (Inv_at (Inv_at hI (hI.pl3 (by omega))) (by rw [nG_M]; exact hI.pl3 (by omega))) (by first | assumption | omega)) mX0_passDays q414 rfl (by decide) rfl rfl 3 rfl [2] [0, 1] rfl rfl [eO t 3 [.ref hn, .ref hm, .ref dd, .int sd], ydW Γ hn an r] rfl [eO t 3 [.ref hn, .ref hm, .ref dd, .int sd], ydW Γ hn an r, ydW Γ hm am (daysS (upd (upd r (iM a 3) (r (iM (a + 1 + k) 3))) (iM (a + 1 + k) 3) (r (iM a 3))) n)] rfl rfl rfl [] rfl (Nat.le_of_ble_eq_true rfl) ?_
              refine r_aload_n K dX5_whichToChange_100 4 rfl ?_
              refine r_get K dX5_whichToChange_101 (kf := 1) 0 rfl rfl hinX5 (by decide) q70 rfl rfl ?_
              refine r_cVd K dX5_whichToChange_104 (c_X0_allPay l Γ hm am (daysS (upd (upd r (iM a 3) (r (iM (a + 1 + k) 3))) (iM (a + 1 + k) 3) (r (iM a 3))) n) (Inv_daysS (Inv_at (Inv_at hI (hI.pl3 (by omega))) (by rw [nG_M]; exact hI.pl3 (by omega))) n)) mX0_allPay q569 rfl (by decide) rfl rfl 3 rfl [2] [0, 1] rfl rfl [eO t 3 [.ref hn, .ref hm, .ref dd, .int sd], ydW Γ hn an r] rfl [eO t 3 [.ref hn, .ref hm, .ref dd, .int sd], ydW Γ hn an r, ydW Γ hm am (daysS (upd (upd r (iM a 3) (r (iM (a + 1 + k) 3))) (iM (a + 1 + k) 3) (r (iM a 3))) n)] rfl rfl rfl [] rfl (Nat.le_of_ble_eq_true rfl) ?_
              refine r_istore K dX5_whichToChange_107 (by decide) (lv1 := [(6, .int (sumTo (fun g => (daysS (upd (upd r (iM a 3) (r (iM (a + 1 + k) 3))) (iM (a + 1 + k) 3) (r (iM a 3))) n) (iG g 1) / nI 12) 5)), (5, .int (nI (a + 1 + k))), (3, .int b), (2, .int m), (4, .int (nI a)), (0, .ref t), (1, .int (nI n))]) rfl ?_
              refine r_iload K dX5_whichToChange_109 0 rfl ?_
              refine r_iload_n K dX5_whichToChange_111 3 rfl ?_
              refine r_ic_le K dX5_whichToChange_112 (fun c112 => ?_) (fun c112 => ?_)
              · refine r_iincN K dX5_whichToChange_127 (n := 1) 1 rfl rfl (by decide) (lv1 := [(5, .int (nI (a + 1 + k + 1))), (6, .int (sumTo (fun g => (daysS (upd (upd r (iM a 3) (r (iM (a + 1 + k) 3))) (iM (a + 1 + k) 3) (r (iM a 3))) n) (iG g 1) / nI 12) 5)), (3, .int b), (2, .int m), (4, .int (nI a)), (0, .ref t), (1, .int (nI n))]) rfl ?_
                refine r_goto K dX5_whichToChange_130 ?_
                refine r_lv K [0, 2, 3, 4, 5, 6] rfl ?_
                exact ih_L33 (k + 1) m b (daysS (upd (upd r (iM a 3) (r (iM (a + 1 + k) 3))) (iM (a + 1 + k) 3) (r (iM a 3))) n) (by omega) (by rw [hm2, amI_n (fun z => absurd (show (amI (chgV r n a) (fun b => nI (10 * a + b)) (a + 1) (chO r n a) k).1 < chgV r n a (a + 1 + k) from z) (by rw [← hm2]; exact Int32.not_lt.mpr c112))]) (by rw [hb2, amI_n (fun z => absurd (show (amI (chgV r n a) (fun b => nI (10 * a + b)) (a + 1) (chO r n a) k).1 < chgV r n a (a + 1 + k) from z) (by rw [← hm2]; exact Int32.not_lt.mpr c112))]) (by omega)
              · refine r_iload K dX5_whichToChange_115 0 rfl ?_
                refine r_istore_n K dX5_whichToChange_117 rfl (by decide) (lv1 := [(2, .int (sumTo (fun g => (daysS (upd (upd r (iM a 3) (r (iM (a + 1 + k) 3))) (iM (a + 1 + k) 3) (r (iM a 3))) n) (iG g 1) / nI 12) 5)), (6, .int (sumTo (fun g => (daysS (upd (upd r (iM a 3) (r (iM (a + 1 + k) 3))) (iM (a + 1 + k) 3) (r (iM a 3))) n) (iG g 1) / nI 12) 5)), (5, .int (nI (a + 1 + k))), (3, .int b), (4, .int (nI a)), (0, .ref t), (1, .int (nI n))]) rfl ?_
                refine r_bipush K dX5_whichToChange_118 (nI 10) (by decide) ?_
                refine r_iload K dX5_whichToChange_120 4 rfl ?_
                refine r_imulN K dX5_whichToChange_122 ?_
                refine r_iload K dX5_whichToChange_123 2 rfl ?_
                refine r_iaddN K dX5_whichToChange_125 ?_
                refine r_istore_n K dX5_whichToChange_126 rfl (by decide) (lv1 := [(3, .int (nI ((10 * a) + (a + 1 + k)))), (2, .int (sumTo (fun g => (daysS (upd (upd r (iM a 3) (r (iM (a + 1 + k) 3))) (iM (a + 1 + k) 3) (r (iM a 3))) n) (iG g 1) / nI 12) 5)), (6, .int (sumTo (fun g => (daysS (upd (upd r (iM a 3) (r (iM (a + 1 + k) 3))) (iM (a + 1 + k) 3) (r (iM a 3))) n) (iG g 1) / nI 12) 5)), (5, .int (nI (a + 1 + k))), (4, .int (nI a)), (0, .ref t), (1, .int (nI n))]) rfl ?_
                refine r_iincN K dX5_whichToChange_127 (n := 1) 3 rfl rfl (by decide) (lv1 := [(5, .int (nI (a + 1 + k + 1))), (3, .int (nI ((10 * a) + (a + 1 + k)))), (2, .int (sumTo (fun g => (daysS (upd (upd r (iM a 3) (r (iM (a + 1 + k) 3))) (iM (a + 1 + k) 3) (r (iM a 3))) n) (iG g 1) / nI 12) 5)), (6, .int (sumTo (fun g => (daysS (upd (upd r (iM a 3) (r (iM (a + 1 + k) 3))) (iM (a + 1 + k) 3) (r (iM a 3))) n) (iG g 1) / nI 12) 5)), (4, .int (nI a)), (0, .ref t), (1, .int (nI n))]) rfl ?_
                refine r_goto K dX5_whichToChange_130 ?_
                refine r_lv K [0, 1, 2, 4, 5, 6] rfl ?_
                exact ih_L33 (k + 1) (sumTo (fun g => (daysS (upd (upd r (iM a 3) (r (iM (a + 1 + k) 3))) (iM (a + 1 + k) 3) (r (iM a 3))) n) (iG g 1) / nI 12) 5) (nI ((10 * a) + (a + 1 + k))) (daysS (upd (upd r (iM a 3) (r (iM (a + 1 + k) 3))) (iM (a + 1 + k) 3) (r (iM a 3))) n) (by omega) (by rw [amI_t (show (amI (chgV r n a) (fun b => nI (10 * a + b)) (a + 1) (chO r n a) k).1 < chgV r n a (a + 1 + k) from by rw [← hm2]; exact Int32.not_le.mp c112)]; rfl) (by rw [amI_t (show (amI (chgV r n a) (fun b => nI (10 * a + b)) (a + 1) (chO r n a) k).1 < chgV r n a (a + 1 + k) from by rw [← hm2]; exact Int32.not_le.mp c112)]) (by omega)
        -- local 5: .int (nI (a + 1)) as .int (nI (a + 1 + 0))
        exact L33 _ 0 m b q (Nat.zero_le _) (hm1) (hb1) (Nat.lt_succ_self _)
  refine r_lv K [1, 2, 0, 3, 4] rfl ?_
  exact L15 _ 0 (payS (daysS r n)) (-9) (daysS r n) (Nat.zero_le _) (rfl) (rfl) (Nat.lt_succ_self _)
set_option maxHeartbeats 1000000 in
set_option maxRecDepth 20000 in
theorem c_X5_gain (l : Launch) (Γ : eG) (t : Nat) (hn : Nat) (hm : Nat) (dd : Nat) (sd : Int32) (an : Nat → Nat) (am : Nat → Nat) (r : Nat → Int32) (q : Nat → Int32) (p : Nat) (x : Bool) (b : Nat) (y : Bool) (n : Nat) (g : Nat) (hI : Inv r) (hp : p < nM r) (hb : b < nM r) (hg : g < nG r) (hat : r (iM p 3) = nI g) (hn31 : n < 2 ^ 31) : cE l Γ yX5_gain cX5_gain 7 (some .int) 4 [.ref t, .int (nI p), .int (bz x), .int (nI b), .int (bz y), .int (nI n)] [eO t 3 [.ref hn, .ref hm, .ref dd, .int sd], ydW Γ hn an r, ydW Γ hm am q] (S := Nat → Int32) (fun u => True) (fun u => (some (.int (gnS r p x b y n g)))) (fun u => [eO t 3 [.ref hn, .ref hm, .ref dd, .int sd], ydW Γ hn an r, ydW Γ hm am u]) := by
  refine e_int [(0, .ref t), (1, .int (nI p)), (2, .int (bz x)), (3, .int (nI b)), (4, .int (bz y)), (5, .int (nI n))] (by decide +kernel) (Nat.le_of_ble_eq_true rfl) rfl (fun V K hR => ?_)
  have h5 := hI.g
  have h6 := hI.m
  have hGI : Inv (gnT r p x b y) := by
    unfold gnT
    cases x <;> cases y
    · exact hI
    · exact Inv_tellS hI hb
    · exact Inv_tellS hI hp
    · exact Inv_tellS (Inv_tellS hI hp) (by rw [tellS_nM]; exact hb)
  refine r_aload_n K dX5_gain_0 0 rfl ?_
  refine r_get K dX5_gain_1 (kf := 1) 0 rfl rfl hinX5 (by decide) q70 rfl rfl ?_
  refine r_aload_n K dX5_gain_4 0 rfl ?_
  refine r_get K dX5_gain_5 (kf := 0) 0 rfl rfl hinX5 (by decide) q69 rfl rfl ?_
  refine r_cVn K dX5_gain_8 (c_X0_become l Γ hm am q hn an r) mX0_become q413 rfl (by decide) rfl rfl 3 rfl [2, 1] [0] rfl rfl [eO t 3 [.ref hn, .ref hm, .ref dd, .int sd]] rfl [eO t 3 [.ref hn, .ref hm, .ref dd, .int sd], ydW Γ hn an r, ydW Γ hm am r] rfl rfl rfl [] rfl (Nat.le_of_ble_eq_true rfl) ?_
  refine r_iload_n K dX5_gain_11 2 rfl ?_
  refine r_ifeqB K dX5_gain_12 (fun c12 => ?_) (fun c12 => ?_)
  · refine r_iload K dX5_gain_23 4 rfl ?_
    refine r_ifeqB K dX5_gain_25 (fun c25 => ?_) (fun c25 => ?_)
    · refine r_ws K (ws1 := [eO t 3 [.ref hn, .ref hm, .ref dd, .int sd], ydW Γ hn an r, ydW Γ hm am (gnT r p x b y)]) (by unfold gnT; rw [if_neg (by rw [c25]; decide), if_neg (by rw [c12]; decide)]; exact weq.rf) ?_
      refine r_aload_n K dX5_gain_36 0 rfl ?_
      refine r_get K dX5_gain_37 (kf := 1) 0 rfl rfl hinX5 (by decide) q70 rfl rfl ?_
      refine r_iload K dX5_gain_40 5 rfl ?_
      refine r_cVn K dX5_gain_42 (c_X0_passDays l Γ hm am (gnT r p x b y) n (hGI) (by first | assumption | omega)) mX0_passDays q414 rfl (by decide) rfl rfl 3 rfl [2] [0, 1] rfl rfl [eO t 3 [.ref hn, .ref hm, .ref dd, .int sd], ydW Γ hn an r] rfl [eO t 3 [.ref hn, .ref hm, .ref dd, .int sd], ydW Γ hn an r, ydW Γ hm am (daysS (gnT r p x b y) n)] rfl rfl rfl [] rfl (Nat.le_of_ble_eq_true rfl) ?_
      refine r_aload_n K dX5_gain_45 0 rfl ?_
      refine r_get K dX5_gain_46 (kf := 0) 0 rfl rfl hinX5 (by decide) q69 rfl rfl ?_
      refine r_iload_n K dX5_gain_49 1 rfl ?_
      refine r_cVd K dX5_gain_50 (c_X0_placeOfN l Γ hn an r p (hI) (by first | omega | (simp only [daysS_nM, daysS_nG, dayS_nM, dayS_nG, tellS_nM, tellS_nG, aloneTo_nM, aloneTo_nG, nM_M, nG_M, nM_G, nG_G, lv_nM, lv_nG, gnT_nM, gnT_nG] <;> omega))) mX0_placeOf q555 rfl (by decide) rfl rfl 3 rfl [1] [0, 2] rfl rfl [eO t 3 [.ref hn, .ref hm, .ref dd, .int sd], ydW Γ hm am (daysS (gnT r p x b y) n)] rfl [eO t 3 [.ref hn, .ref hm, .ref dd, .int sd], ydW Γ hn an r, ydW Γ hm am (daysS (gnT r p x b y) n)] rfl rfl rfl [] rfl (Nat.le_of_ble_eq_true rfl) ?_
      refine r_top (y := nI g) (hat) ?_
      refine r_istore K dX5_gain_53 (by decide) (lv1 := [(6, .int (nI g)), (0, .ref t), (1, .int (nI p)), (2, .int (bz x)), (3, .int (nI b)), (4, .int (bz y)), (5, .int (nI n))]) rfl ?_
      refine r_aload_n K dX5_gain_55 1 rfl ?_
      refine r_get K dX5_gain_56 (kf := 1) 0 rfl rfl hinX5 (by decide) q70 rfl rfl ?_
      refine r_iload K dX5_gain_59 0 rfl ?_
      refine r_cVd K dX5_gain_61 (c_X0_depth l Γ hm am (daysS (gnT r p x b y) n) (nI g) (Inv_daysS hGI n)) mX0_depth q431 rfl (by decide) rfl rfl 3 rfl [2] [0, 1] rfl rfl [eO t 3 [.ref hn, .ref hm, .ref dd, .int sd], ydW Γ hn an r] rfl [eO t 3 [.ref hn, .ref hm, .ref dd, .int sd], ydW Γ hn an r, ydW Γ hm am (daysS (gnT r p x b y) n)] rfl rfl rfl [] rfl (Nat.le_of_ble_eq_true rfl) ?_
      refine r_aload_n K dX5_gain_64 1 rfl ?_
      refine r_get K dX5_gain_65 (kf := 0) 0 rfl rfl hinX5 (by decide) q69 rfl rfl ?_
      refine r_iload K dX5_gain_68 0 rfl ?_
      refine r_cVd K dX5_gain_70 (c_X0_depthN l Γ hn an r g (hI) (by first | omega | (simp only [daysS_nM, daysS_nG, dayS_nM, dayS_nG, tellS_nM, tellS_nG, aloneTo_nM, aloneTo_nG, nM_M, nG_M, nM_G, nG_G, lv_nM, lv_nG, gnT_nM, gnT_nG] <;> omega))) mX0_depth q431 rfl (by decide) rfl rfl 3 rfl [1] [0, 2] rfl rfl [eO t 3 [.ref hn, .ref hm, .ref dd, .int sd], ydW Γ hm am (daysS (gnT r p x b y) n)] rfl [eO t 3 [.ref hn, .ref hm, .ref dd, .int sd], ydW Γ hn an r, ydW Γ hm am (daysS (gnT r p x b y) n)] rfl rfl rfl [.int (gv (daysS (gnT r p x b y) n) 1 (nI g))] rfl (Nat.le_of_ble_eq_true rfl) ?_
      refine r_isub K dX5_gain_73 ?_
      refine r_iload_n K dX5_gain_74 3 rfl ?_
      refine r_ifeqB K dX5_gain_75 (fun c75 => ?_) (fun c75 => ?_)
      · refine r_iconst K dX5_gain_82 (nI 0) (by decide) ?_
        refine r_isub K dX5_gain_83 ?_
        exact hR (daysS (gnT r p x b y) n) dX5_gain_84 (trivial) (e_ri (by unfold gnS; rw [if_neg (by rw [c75]; decide), gv_N (by rw [daysS_nG, gnT_nG]; exact hg) (by rw [daysS_nG, gnT_nG]; exact h5)])) (weq.rf)
      · refine r_iconst K dX5_gain_78 (nI 2) (by decide) ?_
        refine r_goto K dX5_gain_79 ?_
        refine r_isub K dX5_gain_83 ?_
        exact hR (daysS (gnT r p x b y) n) dX5_gain_84 (trivial) (e_ri (by unfold gnS; rw [if_pos c75, gv_N (by rw [daysS_nG, gnT_nG]; exact hg) (by rw [daysS_nG, gnT_nG]; exact h5)])) (weq.rf)
    · refine r_aload_n K dX5_gain_28 0 rfl ?_
      refine r_get K dX5_gain_29 (kf := 1) 0 rfl rfl hinX5 (by decide) q70 rfl rfl ?_
      refine r_iload_n K dX5_gain_32 3 rfl ?_
      refine r_cVn K dX5_gain_33 (c_X0_informN l Γ hm am r b (hI) (by first | omega | (simp only [daysS_nM, daysS_nG, dayS_nM, dayS_nG, tellS_nM, tellS_nG, aloneTo_nM, aloneTo_nG, nM_M, nG_M, nM_G, nG_G, lv_nM, lv_nG, gnT_nM, gnT_nG] <;> omega))) mX0_inform q546 rfl (by decide) rfl rfl 3 rfl [2] [0, 1] rfl rfl [eO t 3 [.ref hn, .ref hm, .ref dd, .int sd], ydW Γ hn an r] rfl [eO t 3 [.ref hn, .ref hm, .ref dd, .int sd], ydW Γ hn an r, ydW Γ hm am (tellS r b)] rfl rfl rfl [] rfl (Nat.le_of_ble_eq_true rfl) ?_
      refine r_ws K (ws1 := [eO t 3 [.ref hn, .ref hm, .ref dd, .int sd], ydW Γ hn an r, ydW Γ hm am (gnT r p x b y)]) (by unfold gnT; rw [if_pos c25, if_neg (by rw [c12]; decide)]; exact weq.rf) ?_
      refine r_aload_n K dX5_gain_36 0 rfl ?_
      refine r_get K dX5_gain_37 (kf := 1) 0 rfl rfl hinX5 (by decide) q70 rfl rfl ?_
      refine r_iload K dX5_gain_40 5 rfl ?_
      refine r_cVn K dX5_gain_42 (c_X0_passDays l Γ hm am (gnT r p x b y) n (hGI) (by first | assumption | omega)) mX0_passDays q414 rfl (by decide) rfl rfl 3 rfl [2] [0, 1] rfl rfl [eO t 3 [.ref hn, .ref hm, .ref dd, .int sd], ydW Γ hn an r] rfl [eO t 3 [.ref hn, .ref hm, .ref dd, .int sd], ydW Γ hn an r, ydW Γ hm am (daysS (gnT r p x b y) n)] rfl rfl rfl [] rfl (Nat.le_of_ble_eq_true rfl) ?_
      refine r_aload_n K dX5_gain_45 0 rfl ?_
      refine r_get K dX5_gain_46 (kf := 0) 0 rfl rfl hinX5 (by decide) q69 rfl rfl ?_
      refine r_iload_n K dX5_gain_49 1 rfl ?_
      refine r_cVd K dX5_gain_50 (c_X0_placeOfN l Γ hn an r p (hI) (by first | omega | (simp only [daysS_nM, daysS_nG, dayS_nM, dayS_nG, tellS_nM, tellS_nG, aloneTo_nM, aloneTo_nG, nM_M, nG_M, nM_G, nG_G, lv_nM, lv_nG, gnT_nM, gnT_nG] <;> omega))) mX0_placeOf q555 rfl (by decide) rfl rfl 3 rfl [1] [0, 2] rfl rfl [eO t 3 [.ref hn, .ref hm, .ref dd, .int sd], ydW Γ hm am (daysS (gnT r p x b y) n)] rfl [eO t 3 [.ref hn, .ref hm, .ref dd, .int sd], ydW Γ hn an r, ydW Γ hm am (daysS (gnT r p x b y) n)] rfl rfl rfl [] rfl (Nat.le_of_ble_eq_true rfl) ?_
      refine r_top (y := nI g) (hat) ?_
      refine r_istore K dX5_gain_53 (by decide) (lv1 := [(6, .int (nI g)), (0, .ref t), (1, .int (nI p)), (2, .int (bz x)), (3, .int (nI b)), (4, .int (bz y)), (5, .int (nI n))]) rfl ?_
      refine r_aload_n K dX5_gain_55 1 rfl ?_
      refine r_get K dX5_gain_56 (kf := 1) 0 rfl rfl hinX5 (by decide) q70 rfl rfl ?_
      refine r_iload K dX5_gain_59 0 rfl ?_
      refine r_cVd K dX5_gain_61 (c_X0_depth l Γ hm am (daysS (gnT r p x b y) n) (nI g) (Inv_daysS hGI n)) mX0_depth q431 rfl (by decide) rfl rfl 3 rfl [2] [0, 1] rfl rfl [eO t 3 [.ref hn, .ref hm, .ref dd, .int sd], ydW Γ hn an r] rfl [eO t 3 [.ref hn, .ref hm, .ref dd, .int sd], ydW Γ hn an r, ydW Γ hm am (daysS (gnT r p x b y) n)] rfl rfl rfl [] rfl (Nat.le_of_ble_eq_true rfl) ?_
      refine r_aload_n K dX5_gain_64 1 rfl ?_
      refine r_get K dX5_gain_65 (kf := 0) 0 rfl rfl hinX5 (by decide) q69 rfl rfl ?_
      refine r_iload K dX5_gain_68 0 rfl ?_
      refine r_cVd K dX5_gain_70 (c_X0_depthN l Γ hn an r g (hI) (by first | omega | (simp only [daysS_nM, daysS_nG, dayS_nM, dayS_nG, tellS_nM, tellS_nG, aloneTo_nM, aloneTo_nG, nM_M, nG_M, nM_G, nG_G, lv_nM, lv_nG, gnT_nM, gnT_nG] <;> omega))) mX0_depth q431 rfl (by decide) rfl rfl 3 rfl [1] [0, 2] rfl rfl [eO t 3 [.ref hn, .ref hm, .ref dd, .int sd], ydW Γ hm am (daysS (gnT r p x b y) n)] rfl [eO t 3 [.ref hn, .ref hm, .ref dd, .int sd], ydW Γ hn an r, ydW Γ hm am (daysS (gnT r p x b y) n)] rfl rfl rfl [.int (gv (daysS (gnT r p x b y) n) 1 (nI g))] rfl (Nat.le_of_ble_eq_true rfl) ?_
      refine r_isub K dX5_gain_73 ?_
      refine r_iload_n K dX5_gain_74 3 rfl ?_
      refine r_ifeqB K dX5_gain_75 (fun c75 => ?_) (fun c75 => ?_)
      · refine r_iconst K dX5_gain_82 (nI 0) (by decide) ?_
        refine r_isub K dX5_gain_83 ?_
        exact hR (daysS (gnT r p x b y) n) dX5_gain_84 (trivial) (e_ri (by unfold gnS; rw [if_neg (by rw [c75]; decide), gv_N (by rw [daysS_nG, gnT_nG]; exact hg) (by rw [daysS_nG, gnT_nG]; exact h5)])) (weq.rf)
      · refine r_iconst K dX5_gain_78 (nI 2) (by decide) ?_
        refine r_goto K dX5_gain_79 ?_
        refine r_isub K dX5_gain_83 ?_
        exact hR (daysS (gnT r p x b y) n) dX5_gain_84 (trivial) (e_ri (by unfold gnS; rw [if_pos c75, gv_N (by rw [daysS_nG, gnT_nG]; exact hg) (by rw [daysS_nG, gnT_nG]; exact h5)])) (weq.rf)
  · refine r_aload_n K dX5_gain_15 0 rfl ?_
    refine r_get K dX5_gain_16 (kf := 1) 0 rfl rfl hinX5 (by decide) q70 rfl rfl ?_
    refine r_iload_n K dX5_gain_19 1 rfl ?_
    refine r_cVn K dX5_gain_20 (c_X0_informN l Γ hm am r p (hI) (by first | omega | (simp only [daysS_nM, daysS_nG, dayS_nM, dayS_nG, tellS_nM, tellS_nG, aloneTo_nM, aloneTo_nG, nM_M, nG_M, nM_G, nG_G, lv_nM, lv_nG, gnT_nM, gnT_nG] <;> omega))) mX0_inform q546 rfl (by decide) rfl rfl 3 rfl [2] [0, 1] rfl rfl [eO t 3 [.ref hn, .ref hm, .ref dd, .int sd], ydW Γ hn an r] rfl [eO t 3 [.ref hn, .ref hm, .ref dd, .int sd], ydW Γ hn an r, ydW Γ hm am (tellS r p)] rfl rfl rfl [] rfl (Nat.le_of_ble_eq_true rfl) ?_
    refine r_iload K dX5_gain_23 4 rfl ?_
    refine r_ifeqB K dX5_gain_25 (fun c25 => ?_) (fun c25 => ?_)
    · refine r_ws K (ws1 := [eO t 3 [.ref hn, .ref hm, .ref dd, .int sd], ydW Γ hn an r, ydW Γ hm am (gnT r p x b y)]) (by unfold gnT; rw [if_neg (by rw [c25]; decide), if_pos c12]; exact weq.rf) ?_
      refine r_aload_n K dX5_gain_36 0 rfl ?_
      refine r_get K dX5_gain_37 (kf := 1) 0 rfl rfl hinX5 (by decide) q70 rfl rfl ?_
      refine r_iload K dX5_gain_40 5 rfl ?_
      refine r_cVn K dX5_gain_42 (c_X0_passDays l Γ hm am (gnT r p x b y) n (hGI) (by first | assumption | omega)) mX0_passDays q414 rfl (by decide) rfl rfl 3 rfl [2] [0, 1] rfl rfl [eO t 3 [.ref hn, .ref hm, .ref dd, .int sd], ydW Γ hn an r] rfl [eO t 3 [.ref hn, .ref hm, .ref dd, .int sd], ydW Γ hn an r, ydW Γ hm am (daysS (gnT r p x b y) n)] rfl rfl rfl [] rfl (Nat.le_of_ble_eq_true rfl) ?_
      refine r_aload_n K dX5_gain_45 0 rfl ?_
      refine r_get K dX5_gain_46 (kf := 0) 0 rfl rfl hinX5 (by decide) q69 rfl rfl ?_
      refine r_iload_n K dX5_gain_49 1 rfl ?_
      refine r_cVd K dX5_gain_50 (c_X0_placeOfN l Γ hn an r p (hI) (by first | omega | (simp only [daysS_nM, daysS_nG, dayS_nM, dayS_nG, tellS_nM, tellS_nG, aloneTo_nM, aloneTo_nG, nM_M, nG_M, nM_G, nG_G, lv_nM, lv_nG, gnT_nM, gnT_nG] <;> omega))) mX0_placeOf q555 rfl (by decide) rfl rfl 3 rfl [1] [0, 2] rfl rfl [eO t 3 [.ref hn, .ref hm, .ref dd, .int sd], ydW Γ hm am (daysS (gnT r p x b y) n)] rfl [eO t 3 [.ref hn, .ref hm, .ref dd, .int sd], ydW Γ hn an r, ydW Γ hm am (daysS (gnT r p x b y) n)] rfl rfl rfl [] rfl (Nat.le_of_ble_eq_true rfl) ?_
      refine r_top (y := nI g) (hat) ?_
      refine r_istore K dX5_gain_53 (by decide) (lv1 := [(6, .int (nI g)), (0, .ref t), (1, .int (nI p)), (2, .int (bz x)), (3, .int (nI b)), (4, .int (bz y)), (5, .int (nI n))]) rfl ?_
      refine r_aload_n K dX5_gain_55 1 rfl ?_
      refine r_get K dX5_gain_56 (kf := 1) 0 rfl rfl hinX5 (by decide) q70 rfl rfl ?_
      refine r_iload K dX5_gain_59 0 rfl ?_
      refine r_cVd K dX5_gain_61 (c_X0_depth l Γ hm am (daysS (gnT r p x b y) n) (nI g) (Inv_daysS hGI n)) mX0_depth q431 rfl (by decide) rfl rfl 3 rfl [2] [0, 1] rfl rfl [eO t 3 [.ref hn, .ref hm, .ref dd, .int sd], ydW Γ hn an r] rfl [eO t 3 [.ref hn, .ref hm, .ref dd, .int sd], ydW Γ hn an r, ydW Γ hm am (daysS (gnT r p x b y) n)] rfl rfl rfl [] rfl (Nat.le_of_ble_eq_true rfl) ?_
      refine r_aload_n K dX5_gain_64 1 rfl ?_
      refine r_get K dX5_gain_65 (kf := 0) 0 rfl rfl hinX5 (by decide) q69 rfl rfl ?_
      refine r_iload K dX5_gain_68 0 rfl ?_
      refine r_cVd K dX5_gain_70 (c_X0_depthN l Γ hn an r g (hI) (by first | omega | (simp only [daysS_nM, daysS_nG, dayS_nM, dayS_nG, tellS_nM, tellS_nG, aloneTo_nM, aloneTo_nG, nM_M, nG_M, nM_G, nG_G, lv_nM, lv_nG, gnT_nM, gnT_nG] <;> omega))) mX0_depth q431 rfl (by decide) rfl rfl 3 rfl [1] [0, 2] rfl rfl [eO t 3 [.ref hn, .ref hm, .ref dd, .int sd], ydW Γ hm am (daysS (gnT r p x b y) n)] rfl [eO t 3 [.ref hn, .ref hm, .ref dd, .int sd], ydW Γ hn an r, ydW Γ hm am (daysS (gnT r p x b y) n)] rfl rfl rfl [.int (gv (daysS (gnT r p x b y) n) 1 (nI g))] rfl (Nat.le_of_ble_eq_true rfl) ?_
      refine r_isub K dX5_gain_73 ?_
      refine r_iload_n K dX5_gain_74 3 rfl ?_
      refine r_ifeqB K dX5_gain_75 (fun c75 => ?_) (fun c75 => ?_)
      · refine r_iconst K dX5_gain_82 (nI 0) (by decide) ?_
        refine r_isub K dX5_gain_83 ?_
        exact hR (daysS (gnT r p x b y) n) dX5_gain_84 (trivial) (e_ri (by unfold gnS; rw [if_neg (by rw [c75]; decide), gv_N (by rw [daysS_nG, gnT_nG]; exact hg) (by rw [daysS_nG, gnT_nG]; exact h5)])) (weq.rf)
      · refine r_iconst K dX5_gain_78 (nI 2) (by decide) ?_
        refine r_goto K dX5_gain_79 ?_
        refine r_isub K dX5_gain_83 ?_
        exact hR (daysS (gnT r p x b y) n) dX5_gain_84 (trivial) (e_ri (by unfold gnS; rw [if_pos c75, gv_N (by rw [daysS_nG, gnT_nG]; exact hg) (by rw [daysS_nG, gnT_nG]; exact h5)])) (weq.rf)
    · refine r_aload_n K dX5_gain_28 0 rfl ?_
      refine r_get K dX5_gain_29 (kf := 1) 0 rfl rfl hinX5 (by decide) q70 rfl rfl ?_
      refine r_iload_n K dX5_gain_32 3 rfl ?_
      refine r_cVn K dX5_gain_33 (c_X0_informN l Γ hm am (tellS r p) b (Inv_tellS (hI) (by first | omega | (simp only [daysS_nM, daysS_nG, dayS_nM, dayS_nG, tellS_nM, tellS_nG, aloneTo_nM, aloneTo_nG, nM_M, nG_M, nM_G, nG_G, lv_nM, lv_nG, gnT_nM, gnT_nG] <;> omega))) (by first | omega | (simp only [daysS_nM, daysS_nG, dayS_nM, dayS_nG, tellS_nM, tellS_nG, aloneTo_nM, aloneTo_nG, nM_M, nG_M, nM_G, nG_G, lv_nM, lv_nG, gnT_nM, gnT_nG] <;> omega))) mX0_inform q546 rfl (by decide) rfl rfl 3 rfl [2] [0, 1] rfl rfl [eO t 3 [.ref hn, .ref hm, .ref dd, .int sd], ydW Γ hn an r] rfl [eO t 3 [.ref hn, .ref hm, .ref dd, .int sd], ydW Γ hn an r, ydW Γ hm am (tellS (tellS r p) b)] rfl rfl rfl [] rfl (Nat.le_of_ble_eq_true rfl) ?_
      refine r_ws K (ws1 := [eO t 3 [.ref hn, .ref hm, .ref dd, .int sd], ydW Γ hn an r, ydW Γ hm am (gnT r p x b y)]) (by unfold gnT; rw [if_pos c25, if_pos c12]; exact weq.rf) ?_
      refine r_aload_n K dX5_gain_36 0 rfl ?_
      refine r_get K dX5_gain_37 (kf := 1) 0 rfl rfl hinX5 (by decide) q70 rfl rfl ?_
      refine r_iload K dX5_gain_40 5 rfl ?_
      refine r_cVn K dX5_gain_42 (c_X0_passDays l Γ hm am (gnT r p x b y) n (hGI) (by first | assumption | omega)) mX0_passDays q414 rfl (by decide) rfl rfl 3 rfl [2] [0, 1] rfl rfl [eO t 3 [.ref hn, .ref hm, .ref dd, .int sd], ydW Γ hn an r] rfl [eO t 3 [.ref hn, .ref hm, .ref dd, .int sd], ydW Γ hn an r, ydW Γ hm am (daysS (gnT r p x b y) n)] rfl rfl rfl [] rfl (Nat.le_of_ble_eq_true rfl) ?_
      refine r_aload_n K dX5_gain_45 0 rfl ?_
      refine r_get K dX5_gain_46 (kf := 0) 0 rfl rfl hinX5 (by decide) q69 rfl rfl ?_
      refine r_iload_n K dX5_gain_49 1 rfl ?_
      refine r_cVd K dX5_gain_50 (c_X0_placeOfN l Γ hn an r p (hI) (by first | omega | (simp only [daysS_nM, daysS_nG, dayS_nM, dayS_nG, tellS_nM, tellS_nG, aloneTo_nM, aloneTo_nG, nM_M, nG_M, nM_G, nG_G, lv_nM, lv_nG, gnT_nM, gnT_nG] <;> omega))) mX0_placeOf q555 rfl (by decide) rfl rfl 3 rfl [1] [0, 2] rfl rfl [eO t 3 [.ref hn, .ref hm, .ref dd, .int sd], ydW Γ hm am (daysS (gnT r p x b y) n)] rfl [eO t 3 [.ref hn, .ref hm, .ref dd, .int sd], ydW Γ hn an r, ydW Γ hm am (daysS (gnT r p x b y) n)] rfl rfl rfl [] rfl (Nat.le_of_ble_eq_true rfl) ?_
      refine r_top (y := nI g) (hat) ?_
      refine r_istore K dX5_gain_53 (by decide) (lv1 := [(6, .int (nI g)), (0, .ref t), (1, .int (nI p)), (2, .int (bz x)), (3, .int (nI b)), (4, .int (bz y)), (5, .int (nI n))]) rfl ?_
      refine r_aload_n K dX5_gain_55 1 rfl ?_
      refine r_get K dX5_gain_56 (kf := 1) 0 rfl rfl hinX5 (by decide) q70 rfl rfl ?_
      refine r_iload K dX5_gain_59 0 rfl ?_
      refine r_cVd K dX5_gain_61 (c_X0_depth l Γ hm am (daysS (gnT r p x b y) n) (nI g) (Inv_daysS hGI n)) mX0_depth q431 rfl (by decide) rfl rfl 3 rfl [2] [0, 1] rfl rfl [eO t 3 [.ref hn, .ref hm, .ref dd, .int sd], ydW Γ hn an r] rfl [eO t 3 [.ref hn, .ref hm, .ref dd, .int sd], ydW Γ hn an r, ydW Γ hm am (daysS (gnT r p x b y) n)] rfl rfl rfl [] rfl (Nat.le_of_ble_eq_true rfl) ?_
      refine r_aload_n K dX5_gain_64 1 rfl ?_
      refine r_get K dX5_gain_65 (kf := 0) 0 rfl rfl hinX5 (by decide) q69 rfl rfl ?_
      refine r_iload K dX5_gain_68 0 rfl ?_
      refine r_cVd K dX5_gain_70 (c_X0_depthN l Γ hn an r g (hI) (by first | omega | (simp only [daysS_nM, daysS_nG, dayS_nM, dayS_nG, tellS_nM, tellS_nG, aloneTo_nM, aloneTo_nG, nM_M, nG_M, nM_G, nG_G, lv_nM, lv_nG, gnT_nM, gnT_nG] <;> omega))) mX0_depth q431 rfl (by decide) rfl rfl 3 rfl [1] [0, 2] rfl rfl [eO t 3 [.ref hn, .ref hm, .ref dd, .int sd], ydW Γ hm am (daysS (gnT r p x b y) n)] rfl [eO t 3 [.ref hn, .ref hm, .ref dd, .int sd], ydW Γ hn an r, ydW Γ hm am (daysS (gnT r p x b y) n)] rfl rfl rfl [.int (gv (daysS (gnT r p x b y) n) 1 (nI g))] rfl (Nat.le_of_ble_eq_true rfl) ?_
      refine r_isub K dX5_gain_73 ?_
      refine r_iload_n K dX5_gain_74 3 rfl ?_
      refine r_ifeqB K dX5_gain_75 (fun c75 => ?_) (fun c75 => ?_)
      · refine r_iconst K dX5_gain_82 (nI 0) (by decide) ?_
        refine r_isub K dX5_gain_83 ?_
        exact hR (daysS (gnT r p x b y) n) dX5_gain_84 (trivial) (e_ri (by unfold gnS; rw [if_neg (by rw [c75]; decide), gv_N (by rw [daysS_nG, gnT_nG]; exact hg) (by rw [daysS_nG, gnT_nG]; exact h5)])) (weq.rf)
      · refine r_iconst K dX5_gain_78 (nI 2) (by decide) ?_
        refine r_goto K dX5_gain_79 ?_
        refine r_isub K dX5_gain_83 ?_
        exact hR (daysS (gnT r p x b y) n) dX5_gain_84 (trivial) (e_ri (by unfold gnS; rw [if_pos c75, gv_N (by rw [daysS_nG, gnT_nG]; exact hg) (by rw [daysS_nG, gnT_nG]; exact h5)])) (weq.rf)
set_option maxHeartbeats 1000000 in
set_option maxRecDepth 20000 in
theorem c_X5_firstCalmPair (l : Launch) (Γ : eG) (t : Nat) (hn : Nat) (hm : Nat) (dd : Nat) (sd : Int32) (an : Nat → Nat) (am : Nat → Nat) (r : Nat → Int32) (q : Nat → Int32) (p : Nat) (b : Nat) (n : Nat) (ga : Nat) (gb : Nat) (hI : Inv r) (hp : p < nM r) (hb : b < nM r) (hga : ga < nG r) (hgb : gb < nG r) (hap : r (iM p 3) = nI ga) (hbp : r (iM b 3) = nI gb) (hn31 : n < 2 ^ 31) : cE l Γ yX5_firstCalmPair cX5_firstCalmPair 8 (some .int) 5 [.ref t, .int (nI p), .int (nI b), .int (nI n)] [eO t 3 [.ref hn, .ref hm, .ref dd, .int sd], ydW Γ hn an r, ydW Γ hm am q] (S := Nat → Int32) (fun u => True) (fun u => (some (.int (calmL r p b n ga gb 4 0)))) (fun u => [eO t 3 [.ref hn, .ref hm, .ref dd, .int sd], ydW Γ hn an r, ydW Γ hm am u]) := by
  refine e_int [(0, .ref t), (1, .int (nI p)), (2, .int (nI b)), (3, .int (nI n))] (by decide +kernel) (Nat.le_of_ble_eq_true rfl) rfl (fun V K hR => ?_)
  have h5 := hI.g
  have h6 := hI.m
  refine r_iconst K dX5_firstCalmPair_0 (nI 0) (by decide) ?_
  refine r_istore K dX5_firstCalmPair_1 (by decide) (lv1 := [(4, .int (nI 0)), (0, .ref t), (1, .int (nI p)), (2, .int (nI b)), (3, .int (nI n))]) rfl ?_
  have L3 : ∀ (fL3 : Nat) (f : Nat) (k : Nat) (q : Nat → Int32), (f + k = 4) → (calmL r p b n ga gb 4 0 = calmL r p b n ga gb f k) → f < fL3 → V 3 [(4, .int (nI k)), (0, .ref t), (1, .int (nI p)), (2, .int (nI b)), (3, .int (nI n))] [] [eO t 3 [.ref hn, .ref hm, .ref dd, .int sd], ydW Γ hn an r, ydW Γ hm am q] := by
    intro fL3
    induction fL3 with
    | zero => intro f k q hfk hE hf; exact absurd hf (Nat.not_lt_zero _)
    | succ fL3 ih_L3 =>
      intro f k q hfk hE hfL3
      refine r_iload K dX5_firstCalmPair_3 0 rfl ?_
      refine r_iconst K dX5_firstCalmPair_5 (nI 4) (by decide) ?_
      refine r_ic_geN K dX5_firstCalmPair_6 (by omega) (by omega) (fun c6 => ?_) (fun c6 => ?_)
      · obtain rfl : f = 0 := by omega
        refine r_bipush K dX5_firstCalmPair_144 ((-9)) (by decide) ?_
        exact hR q dX5_firstCalmPair_146 (trivial) (e_ri (hE)) (weq.rf)
      · obtain ⟨f, rfl⟩ : ∃ q, f = q + 1 := ⟨f - 1, by omega⟩
        refine r_iload K dX5_firstCalmPair_9 0 rfl ?_
        refine r_iconst K dX5_firstCalmPair_11 (nI 2) (by decide) ?_
        refine r_ic_ltN K dX5_firstCalmPair_12 (by omega) (by omega) (fun c12 => ?_) (fun c12 => ?_)
        · refine r_iconst K dX5_firstCalmPair_19 (nI 0) (by decide) ?_
          refine r_istore K dX5_firstCalmPair_20 (by decide) (lv1 := [(5, .int (nI 0)), (4, .int (nI k)), (0, .ref t), (1, .int (nI p)), (2, .int (nI b)), (3, .int (nI n))]) rfl ?_
          refine r_iload K dX5_firstCalmPair_22 1 rfl ?_
          refine r_iconst K dX5_firstCalmPair_24 (nI 2) (by decide) ?_
          refine r_iremN K dX5_firstCalmPair_25 (by omega) (by omega) (by omega) ?_
          refine r_iconst K dX5_firstCalmPair_26 (nI 1) (by decide) ?_
          refine r_ic_neN K dX5_firstCalmPair_27 (by omega) (by omega) (fun c27 => ?_) (fun c27 => ?_)
          · refine r_iconst K dX5_firstCalmPair_34 (nI 0) (by decide) ?_
            refine r_istore K dX5_firstCalmPair_35 (by decide) (lv1 := [(6, .int (nI 0)), (5, .int (nI 0)), (4, .int (nI k)), (0, .ref t), (1, .int (nI p)), (2, .int (nI b)), (3, .int (nI n))]) rfl ?_
            refine r_aload_n K dX5_firstCalmPair_37 3 rfl ?_
            refine r_iload_n K dX5_firstCalmPair_38 4 rfl ?_
            refine r_iload K dX5_firstCalmPair_39 1 rfl ?_
            refine r_iload_n K dX5_firstCalmPair_41 5 rfl ?_
            refine r_iload K dX5_firstCalmPair_42 0 rfl ?_
            refine r_iload_n K dX5_firstCalmPair_44 6 rfl ?_
            refine r_cV K dX5_firstCalmPair_45 (c_X5_gain l Γ t hn hm dd sd an am r q p false b false n ga (hI) (by first | omega | (simp only [daysS_nM, daysS_nG, dayS_nM, dayS_nG, tellS_nM, tellS_nG, aloneTo_nM, aloneTo_nG, nM_M, nG_M, nM_G, nG_G, lv_nM, lv_nG, gnT_nM, gnT_nG] <;> omega)) (by first | omega | (simp only [daysS_nM, daysS_nG, dayS_nM, dayS_nG, tellS_nM, tellS_nG, aloneTo_nM, aloneTo_nG, nM_M, nG_M, nM_G, nG_G, lv_nM, lv_nG, gnT_nM, gnT_nG] <;> omega)) (by first | omega | (simp only [daysS_nM, daysS_nG, dayS_nM, dayS_nG, tellS_nM, tellS_nG, aloneTo_nM, aloneTo_nG, nM_M, nG_M, nM_G, nG_G, lv_nM, lv_nG, gnT_nM, gnT_nG] <;> omega)) (by first | assumption | omega) (by first | assumption | omega)) mX5_gain q620 rfl (by decide) rfl rfl 3 rfl [0, 1, 2] [] rfl rfl [] rfl (fun u => [eO t 3 [.ref hn, .ref hm, .ref dd, .int sd], ydW Γ hn an r, ydW Γ hm am u]) (fun _ => rfl) (fun _ => rfl) (fun _ => rfl) [] rfl (Nat.le_of_ble_eq_true rfl) (fun u1 hu2 => ?_)
            show V 48 _ [.int (gnS r p false b false n ga)] [eO t 3 [.ref hn, .ref hm, .ref dd, .int sd], ydW Γ hn an r, ydW Γ hm am u1]
            refine r_aload_n K dX5_firstCalmPair_48 3 rfl ?_
            refine r_iload_n K dX5_firstCalmPair_49 4 rfl ?_
            refine r_iload K dX5_firstCalmPair_50 1 rfl ?_
            refine r_if_neN K dX5_firstCalmPair_52 (by omega) (fun c52 => ?_) (fun c52 => ?_)
            · exact absurd c52 (by omega)
            · refine r_iconst K dX5_firstCalmPair_55 (nI 1) (by decide) ?_
              refine r_goto K dX5_firstCalmPair_56 ?_
              refine r_iload_n K dX5_firstCalmPair_60 5 rfl ?_
              refine r_iload K dX5_firstCalmPair_61 0 rfl ?_
              refine r_iload_n K dX5_firstCalmPair_63 6 rfl ?_
              refine r_cV K dX5_firstCalmPair_64 (c_X5_gain l Γ t hn hm dd sd an am r u1 p true b false n ga (hI) (by first | omega | (simp only [daysS_nM, daysS_nG, dayS_nM, dayS_nG, tellS_nM, tellS_nG, aloneTo_nM, aloneTo_nG, nM_M, nG_M, nM_G, nG_G, lv_nM, lv_nG, gnT_nM, gnT_nG] <;> omega)) (by first | omega | (simp only [daysS_nM, daysS_nG, dayS_nM, dayS_nG, tellS_nM, tellS_nG, aloneTo_nM, aloneTo_nG, nM_M, nG_M, nM_G, nG_G, lv_nM, lv_nG, gnT_nM, gnT_nG] <;> omega)) (by first | omega | (simp only [daysS_nM, daysS_nG, dayS_nM, dayS_nG, tellS_nM, tellS_nG, aloneTo_nM, aloneTo_nG, nM_M, nG_M, nM_G, nG_G, lv_nM, lv_nG, gnT_nM, gnT_nG] <;> omega)) (by first | assumption | omega) (by first | assumption | omega)) mX5_gain q620 rfl (by decide) rfl rfl 3 rfl [0, 1, 2] [] rfl rfl [] rfl (fun u => [eO t 3 [.ref hn, .ref hm, .ref dd, .int sd], ydW Γ hn an r, ydW Γ hm am u]) (fun _ => rfl) (fun _ => rfl) (fun _ => rfl) [.int (gnS r p false b false n ga)] rfl (Nat.le_of_ble_eq_true rfl) (fun u3 hu4 => ?_)
              show V 67 _ [.int (gnS r p true b false n ga), .int (gnS r p false b false n ga)] [eO t 3 [.ref hn, .ref hm, .ref dd, .int sd], ydW Γ hn an r, ydW Γ hm am u3]
              refine r_ic_lt K dX5_firstCalmPair_67 (fun c67 => ?_) (fun c67 => ?_)
              · have ex : decide (2 ≤ k) = false := decide_eq_false (by omega)
                have ey : decide (k % 2 = 1) = false := decide_eq_false c27
                have hc : ¬ calmB r p b n ga gb (decide (2 ≤ k)) (decide (k % 2 = 1)) = true := by
                  rw [ex, ey]; unfold calmB; rw [decide_eq_false (show ¬ gnS r p (!false) b false n ga ≤ gnS r p false b false n ga from Int32.not_le.mpr c67)]; exact fun z => by cases z
                refine r_iconst K dX5_firstCalmPair_107 (nI 0) (by decide) ?_
                refine r_istore K dX5_firstCalmPair_108 (by decide) (lv1 := [(7, .int (nI 0)), (6, .int (nI 0)), (5, .int (nI 0)), (4, .int (nI k)), (0, .ref t), (1, .int (nI p)), (2, .int (nI b)), (3, .int (nI n))]) rfl ?_
                refine r_iload K dX5_firstCalmPair_110 0 rfl ?_
                refine r_if_eqN K dX5_firstCalmPair_112 (by omega) (fun c112 => ?_) (fun c112 => ?_)
                · refine r_iincN K dX5_firstCalmPair_138 (n := 1) 3 rfl rfl (by decide) (lv1 := [(4, .int (nI (k + 1))), (7, .int (nI 0)), (6, .int (nI 0)), (5, .int (nI 0)), (0, .ref t), (1, .int (nI p)), (2, .int (nI b)), (3, .int (nI n))]) rfl ?_
                  refine r_goto K dX5_firstCalmPair_141 ?_
                  refine r_lv K [0, 4, 5, 6, 7] rfl ?_
                  exact ih_L3 f (k + 1) u3 (by omega) (hE.trans (calmL_n hc)) (by omega)
                · exact absurd c112 (by omega)
              · refine r_aload_n K dX5_firstCalmPair_70 3 rfl ?_
                refine r_iload_n K dX5_firstCalmPair_71 5 rfl ?_
                refine r_iload K dX5_firstCalmPair_72 0 rfl ?_
                refine r_iload_n K dX5_firstCalmPair_74 4 rfl ?_
                refine r_iload K dX5_firstCalmPair_75 1 rfl ?_
                refine r_iload_n K dX5_firstCalmPair_77 6 rfl ?_
                refine r_cV K dX5_firstCalmPair_78 (c_X5_gain l Γ t hn hm dd sd an am r u3 b false p false n gb (hI) (by first | omega | (simp only [daysS_nM, daysS_nG, dayS_nM, dayS_nG, tellS_nM, tellS_nG, aloneTo_nM, aloneTo_nG, nM_M, nG_M, nM_G, nG_G, lv_nM, lv_nG, gnT_nM, gnT_nG] <;> omega)) (by first | omega | (simp only [daysS_nM, daysS_nG, dayS_nM, dayS_nG, tellS_nM, tellS_nG, aloneTo_nM, aloneTo_nG, nM_M, nG_M, nM_G, nG_G, lv_nM, lv_nG, gnT_nM, gnT_nG] <;> omega)) (by first | omega | (simp only [daysS_nM, daysS_nG, dayS_nM, dayS_nG, tellS_nM, tellS_nG, aloneTo_nM, aloneTo_nG, nM_M, nG_M, nM_G, nG_G, lv_nM, lv_nG, gnT_nM, gnT_nG] <;> omega)) (by first | assumption | omega) (by first | assumption | omega)) mX5_gain q620 rfl (by decide) rfl rfl 3 rfl [0, 1, 2] [] rfl rfl [] rfl (fun u => [eO t 3 [.ref hn, .ref hm, .ref dd, .int sd], ydW Γ hn an r, ydW Γ hm am u]) (fun _ => rfl) (fun _ => rfl) (fun _ => rfl) [] rfl (Nat.le_of_ble_eq_true rfl) (fun u5 hu6 => ?_)
                show V 81 _ [.int (gnS r b false p false n gb)] [eO t 3 [.ref hn, .ref hm, .ref dd, .int sd], ydW Γ hn an r, ydW Γ hm am u5]
                refine r_aload_n K dX5_firstCalmPair_81 3 rfl ?_
                refine r_iload_n K dX5_firstCalmPair_82 5 rfl ?_
                refine r_iload K dX5_firstCalmPair_83 0 rfl ?_
                refine r_if_neN K dX5_firstCalmPair_85 (by omega) (fun c85 => ?_) (fun c85 => ?_)
                · exact absurd c85 (by omega)
                · refine r_iconst K dX5_firstCalmPair_88 (nI 1) (by decide) ?_
                  refine r_goto K dX5_firstCalmPair_89 ?_
                  refine r_iload_n K dX5_firstCalmPair_93 4 rfl ?_
                  refine r_iload K dX5_firstCalmPair_94 1 rfl ?_
                  refine r_iload_n K dX5_firstCalmPair_96 6 rfl ?_
                  refine r_cV K dX5_firstCalmPair_97 (c_X5_gain l Γ t hn hm dd sd an am r u5 b true p false n gb (hI) (by first | omega | (simp only [daysS_nM, daysS_nG, dayS_nM, dayS_nG, tellS_nM, tellS_nG, aloneTo_nM, aloneTo_nG, nM_M, nG_M, nM_G, nG_G, lv_nM, lv_nG, gnT_nM, gnT_nG] <;> omega)) (by first | omega | (simp only [daysS_nM, daysS_nG, dayS_nM, dayS_nG, tellS_nM, tellS_nG, aloneTo_nM, aloneTo_nG, nM_M, nG_M, nM_G, nG_G, lv_nM, lv_nG, gnT_nM, gnT_nG] <;> omega)) (by first | omega | (simp only [daysS_nM, daysS_nG, dayS_nM, dayS_nG, tellS_nM, tellS_nG, aloneTo_nM, aloneTo_nG, nM_M, nG_M, nM_G, nG_G, lv_nM, lv_nG, gnT_nM, gnT_nG] <;> omega)) (by first | assumption | omega) (by first | assumption | omega)) mX5_gain q620 rfl (by decide) rfl rfl 3 rfl [0, 1, 2] [] rfl rfl [] rfl (fun u => [eO t 3 [.ref hn, .ref hm, .ref dd, .int sd], ydW Γ hn an r, ydW Γ hm am u]) (fun _ => rfl) (fun _ => rfl) (fun _ => rfl) [.int (gnS r b false p false n gb)] rfl (Nat.le_of_ble_eq_true rfl) (fun u7 hu8 => ?_)
                  show V 100 _ [.int (gnS r b true p false n gb), .int (gnS r b false p false n gb)] [eO t 3 [.ref hn, .ref hm, .ref dd, .int sd], ydW Γ hn an r, ydW Γ hm am u7]
                  refine r_ic_lt K dX5_firstCalmPair_100 (fun c100 => ?_) (fun c100 => ?_)
                  · have ex : decide (2 ≤ k) = false := decide_eq_false (by omega)
                    have ey : decide (k % 2 = 1) = false := decide_eq_false c27
                    have hc : ¬ calmB r p b n ga gb (decide (2 ≤ k)) (decide (k % 2 = 1)) = true := by
                      rw [ex, ey]; unfold calmB; rw [decide_eq_false (show ¬ gnS r b (!false) p false n gb ≤ gnS r b false p false n gb from Int32.not_le.mpr c100), Bool.and_false]; exact fun z => by cases z
                    refine r_iconst K dX5_firstCalmPair_107 (nI 0) (by decide) ?_
                    refine r_istore K dX5_firstCalmPair_108 (by decide) (lv1 := [(7, .int (nI 0)), (6, .int (nI 0)), (5, .int (nI 0)), (4, .int (nI k)), (0, .ref t), (1, .int (nI p)), (2, .int (nI b)), (3, .int (nI n))]) rfl ?_
                    refine r_iload K dX5_firstCalmPair_110 0 rfl ?_
                    refine r_if_eqN K dX5_firstCalmPair_112 (by omega) (fun c112 => ?_) (fun c112 => ?_)
                    · refine r_iincN K dX5_firstCalmPair_138 (n := 1) 3 rfl rfl (by decide) (lv1 := [(4, .int (nI (k + 1))), (7, .int (nI 0)), (6, .int (nI 0)), (5, .int (nI 0)), (0, .ref t), (1, .int (nI p)), (2, .int (nI b)), (3, .int (nI n))]) rfl ?_
                      refine r_goto K dX5_firstCalmPair_141 ?_
                      refine r_lv K [0, 4, 5, 6, 7] rfl ?_
                      exact ih_L3 f (k + 1) u7 (by omega) (hE.trans (calmL_n hc)) (by omega)
                    · exact absurd c112 (by omega)
                  · have ex : decide (2 ≤ k) = false := decide_eq_false (by omega)
                    have ey : decide (k % 2 = 1) = false := decide_eq_false c27
                    have hc : calmB r p b n ga gb (decide (2 ≤ k)) (decide (k % 2 = 1)) = true := by
                      rw [ex, ey]; unfold calmB; rw [decide_eq_true (show gnS r p (!false) b false n ga ≤ gnS r p false b false n ga from Int32.not_lt.mp c67), decide_eq_true (show gnS r b (!false) p false n gb ≤ gnS r b false p false n gb from Int32.not_lt.mp c100)]; rfl
                    refine r_iconst K dX5_firstCalmPair_103 (nI 1) (by decide) ?_
                    refine r_goto K dX5_firstCalmPair_104 ?_
                    refine r_istore K dX5_firstCalmPair_108 (by decide) (lv1 := [(7, .int (nI 1)), (6, .int (nI 0)), (5, .int (nI 0)), (4, .int (nI k)), (0, .ref t), (1, .int (nI p)), (2, .int (nI b)), (3, .int (nI n))]) rfl ?_
                    refine r_iload K dX5_firstCalmPair_110 0 rfl ?_
                    refine r_if_eqN K dX5_firstCalmPair_112 (by omega) (fun c112 => ?_) (fun c112 => ?_)
                    · exact absurd c112 (by omega)
                    · refine r_iload K dX5_firstCalmPair_115 2 rfl ?_
                      refine r_if_eqN K dX5_firstCalmPair_117 (by omega) (fun c117 => ?_) (fun c117 => ?_)
                      · refine r_iconst K dX5_firstCalmPair_125 (nI 0) (by decide) ?_
                        refine r_iload K dX5_firstCalmPair_126 1 rfl ?_
                        refine r_if_eqN K dX5_firstCalmPair_128 (by omega) (fun c128 => ?_) (fun c128 => ?_)
                        · refine r_iconst K dX5_firstCalmPair_135 (nI 0) (by decide) ?_
                          refine r_iaddN K dX5_firstCalmPair_136 ?_
                          exact hR u7 dX5_firstCalmPair_137 (trivial) (e_ri (by rw [hE, calmL_t hc, if_neg (by omega), if_neg c27, nI_add])) (weq.rf)
                        · exact absurd c128 (by omega)
                      · exact absurd c117 (by omega)
          · refine r_iconst K dX5_firstCalmPair_30 (nI 1) (by decide) ?_
            refine r_goto K dX5_firstCalmPair_31 ?_
            refine r_istore K dX5_firstCalmPair_35 (by decide) (lv1 := [(6, .int (nI 1)), (5, .int (nI 0)), (4, .int (nI k)), (0, .ref t), (1, .int (nI p)), (2, .int (nI b)), (3, .int (nI n))]) rfl ?_
            refine r_aload_n K dX5_firstCalmPair_37 3 rfl ?_
            refine r_iload_n K dX5_firstCalmPair_38 4 rfl ?_
            refine r_iload K dX5_firstCalmPair_39 1 rfl ?_
            refine r_iload_n K dX5_firstCalmPair_41 5 rfl ?_
            refine r_iload K dX5_firstCalmPair_42 0 rfl ?_
            refine r_iload_n K dX5_firstCalmPair_44 6 rfl ?_
            refine r_cV K dX5_firstCalmPair_45 (c_X5_gain l Γ t hn hm dd sd an am r q p false b true n ga (hI) (by first | omega | (simp only [daysS_nM, daysS_nG, dayS_nM, dayS_nG, tellS_nM, tellS_nG, aloneTo_nM, aloneTo_nG, nM_M, nG_M, nM_G, nG_G, lv_nM, lv_nG, gnT_nM, gnT_nG] <;> omega)) (by first | omega | (simp only [daysS_nM, daysS_nG, dayS_nM, dayS_nG, tellS_nM, tellS_nG, aloneTo_nM, aloneTo_nG, nM_M, nG_M, nM_G, nG_G, lv_nM, lv_nG, gnT_nM, gnT_nG] <;> omega)) (by first | omega | (simp only [daysS_nM, daysS_nG, dayS_nM, dayS_nG, tellS_nM, tellS_nG, aloneTo_nM, aloneTo_nG, nM_M, nG_M, nM_G, nG_G, lv_nM, lv_nG, gnT_nM, gnT_nG] <;> omega)) (by first | assumption | omega) (by first | assumption | omega)) mX5_gain q620 rfl (by decide) rfl rfl 3 rfl [0, 1, 2] [] rfl rfl [] rfl (fun u => [eO t 3 [.ref hn, .ref hm, .ref dd, .int sd], ydW Γ hn an r, ydW Γ hm am u]) (fun _ => rfl) (fun _ => rfl) (fun _ => rfl) [] rfl (Nat.le_of_ble_eq_true rfl) (fun u9 hu10 => ?_)
            show V 48 _ [.int (gnS r p false b true n ga)] [eO t 3 [.ref hn, .ref hm, .ref dd, .int sd], ydW Γ hn an r, ydW Γ hm am u9]
            refine r_aload_n K dX5_firstCalmPair_48 3 rfl ?_
            refine r_iload_n K dX5_firstCalmPair_49 4 rfl ?_
            refine r_iload K dX5_firstCalmPair_50 1 rfl ?_
            refine r_if_neN K dX5_firstCalmPair_52 (by omega) (fun c52 => ?_) (fun c52 => ?_)
            · exact absurd c52 (by omega)
            · refine r_iconst K dX5_firstCalmPair_55 (nI 1) (by decide) ?_
              refine r_goto K dX5_firstCalmPair_56 ?_
              refine r_iload_n K dX5_firstCalmPair_60 5 rfl ?_
              refine r_iload K dX5_firstCalmPair_61 0 rfl ?_
              refine r_iload_n K dX5_firstCalmPair_63 6 rfl ?_
              refine r_cV K dX5_firstCalmPair_64 (c_X5_gain l Γ t hn hm dd sd an am r u9 p true b true n ga (hI) (by first | omega | (simp only [daysS_nM, daysS_nG, dayS_nM, dayS_nG, tellS_nM, tellS_nG, aloneTo_nM, aloneTo_nG, nM_M, nG_M, nM_G, nG_G, lv_nM, lv_nG, gnT_nM, gnT_nG] <;> omega)) (by first | omega | (simp only [daysS_nM, daysS_nG, dayS_nM, dayS_nG, tellS_nM, tellS_nG, aloneTo_nM, aloneTo_nG, nM_M, nG_M, nM_G, nG_G, lv_nM, lv_nG, gnT_nM, gnT_nG] <;> omega)) (by first | omega | (simp only [daysS_nM, daysS_nG, dayS_nM, dayS_nG, tellS_nM, tellS_nG, aloneTo_nM, aloneTo_nG, nM_M, nG_M, nM_G, nG_G, lv_nM, lv_nG, gnT_nM, gnT_nG] <;> omega)) (by first | assumption | omega) (by first | assumption | omega)) mX5_gain q620 rfl (by decide) rfl rfl 3 rfl [0, 1, 2] [] rfl rfl [] rfl (fun u => [eO t 3 [.ref hn, .ref hm, .ref dd, .int sd], ydW Γ hn an r, ydW Γ hm am u]) (fun _ => rfl) (fun _ => rfl) (fun _ => rfl) [.int (gnS r p false b true n ga)] rfl (Nat.le_of_ble_eq_true rfl) (fun u11 hu12 => ?_)
              show V 67 _ [.int (gnS r p true b true n ga), .int (gnS r p false b true n ga)] [eO t 3 [.ref hn, .ref hm, .ref dd, .int sd], ydW Γ hn an r, ydW Γ hm am u11]
              refine r_ic_lt K dX5_firstCalmPair_67 (fun c67 => ?_) (fun c67 => ?_)
              · have ex : decide (2 ≤ k) = false := decide_eq_false (by omega)
                have ey : decide (k % 2 = 1) = true := decide_eq_true c27
                have hc : ¬ calmB r p b n ga gb (decide (2 ≤ k)) (decide (k % 2 = 1)) = true := by
                  rw [ex, ey]; unfold calmB; rw [decide_eq_false (show ¬ gnS r p (!false) b true n ga ≤ gnS r p false b true n ga from Int32.not_le.mpr c67)]; exact fun z => by cases z
                refine r_iconst K dX5_firstCalmPair_107 (nI 0) (by decide) ?_
                refine r_istore K dX5_firstCalmPair_108 (by decide) (lv1 := [(7, .int (nI 0)), (6, .int (nI 1)), (5, .int (nI 0)), (4, .int (nI k)), (0, .ref t), (1, .int (nI p)), (2, .int (nI b)), (3, .int (nI n))]) rfl ?_
                refine r_iload K dX5_firstCalmPair_110 0 rfl ?_
                refine r_if_eqN K dX5_firstCalmPair_112 (by omega) (fun c112 => ?_) (fun c112 => ?_)
                · refine r_iincN K dX5_firstCalmPair_138 (n := 1) 3 rfl rfl (by decide) (lv1 := [(4, .int (nI (k + 1))), (7, .int (nI 0)), (6, .int (nI 1)), (5, .int (nI 0)), (0, .ref t), (1, .int (nI p)), (2, .int (nI b)), (3, .int (nI n))]) rfl ?_
                  refine r_goto K dX5_firstCalmPair_141 ?_
                  refine r_lv K [0, 4, 5, 6, 7] rfl ?_
                  exact ih_L3 f (k + 1) u11 (by omega) (hE.trans (calmL_n hc)) (by omega)
                · exact absurd c112 (by omega)
              · refine r_aload_n K dX5_firstCalmPair_70 3 rfl ?_
                refine r_iload_n K dX5_firstCalmPair_71 5 rfl ?_
                refine r_iload K dX5_firstCalmPair_72 0 rfl ?_
                refine r_iload_n K dX5_firstCalmPair_74 4 rfl ?_
                refine r_iload K dX5_firstCalmPair_75 1 rfl ?_
                refine r_iload_n K dX5_firstCalmPair_77 6 rfl ?_
                refine r_cV K dX5_firstCalmPair_78 (c_X5_gain l Γ t hn hm dd sd an am r u11 b true p false n gb (hI) (by first | omega | (simp only [daysS_nM, daysS_nG, dayS_nM, dayS_nG, tellS_nM, tellS_nG, aloneTo_nM, aloneTo_nG, nM_M, nG_M, nM_G, nG_G, lv_nM, lv_nG, gnT_nM, gnT_nG] <;> omega)) (by first | omega | (simp only [daysS_nM, daysS_nG, dayS_nM, dayS_nG, tellS_nM, tellS_nG, aloneTo_nM, aloneTo_nG, nM_M, nG_M, nM_G, nG_G, lv_nM, lv_nG, gnT_nM, gnT_nG] <;> omega)) (by first | omega | (simp only [daysS_nM, daysS_nG, dayS_nM, dayS_nG, tellS_nM, tellS_nG, aloneTo_nM, aloneTo_nG, nM_M, nG_M, nM_G, nG_G, lv_nM, lv_nG, gnT_nM, gnT_nG] <;> omega)) (by first | assumption | omega) (by first | assumption | omega)) mX5_gain q620 rfl (by decide) rfl rfl 3 rfl [0, 1, 2] [] rfl rfl [] rfl (fun u => [eO t 3 [.ref hn, .ref hm, .ref dd, .int sd], ydW Γ hn an r, ydW Γ hm am u]) (fun _ => rfl) (fun _ => rfl) (fun _ => rfl) [] rfl (Nat.le_of_ble_eq_true rfl) (fun u13 hu14 => ?_)
                show V 81 _ [.int (gnS r b true p false n gb)] [eO t 3 [.ref hn, .ref hm, .ref dd, .int sd], ydW Γ hn an r, ydW Γ hm am u13]
                refine r_aload_n K dX5_firstCalmPair_81 3 rfl ?_
                refine r_iload_n K dX5_firstCalmPair_82 5 rfl ?_
                refine r_iload K dX5_firstCalmPair_83 0 rfl ?_
                refine r_if_neN K dX5_firstCalmPair_85 (by omega) (fun c85 => ?_) (fun c85 => ?_)
                · refine r_iconst K dX5_firstCalmPair_92 (nI 0) (by decide) ?_
                  refine r_iload_n K dX5_firstCalmPair_93 4 rfl ?_
                  refine r_iload K dX5_firstCalmPair_94 1 rfl ?_
                  refine r_iload_n K dX5_firstCalmPair_96 6 rfl ?_
                  refine r_cV K dX5_firstCalmPair_97 (c_X5_gain l Γ t hn hm dd sd an am r u13 b false p false n gb (hI) (by first | omega | (simp only [daysS_nM, daysS_nG, dayS_nM, dayS_nG, tellS_nM, tellS_nG, aloneTo_nM, aloneTo_nG, nM_M, nG_M, nM_G, nG_G, lv_nM, lv_nG, gnT_nM, gnT_nG] <;> omega)) (by first | omega | (simp only [daysS_nM, daysS_nG, dayS_nM, dayS_nG, tellS_nM, tellS_nG, aloneTo_nM, aloneTo_nG, nM_M, nG_M, nM_G, nG_G, lv_nM, lv_nG, gnT_nM, gnT_nG] <;> omega)) (by first | omega | (simp only [daysS_nM, daysS_nG, dayS_nM, dayS_nG, tellS_nM, tellS_nG, aloneTo_nM, aloneTo_nG, nM_M, nG_M, nM_G, nG_G, lv_nM, lv_nG, gnT_nM, gnT_nG] <;> omega)) (by first | assumption | omega) (by first | assumption | omega)) mX5_gain q620 rfl (by decide) rfl rfl 3 rfl [0, 1, 2] [] rfl rfl [] rfl (fun u => [eO t 3 [.ref hn, .ref hm, .ref dd, .int sd], ydW Γ hn an r, ydW Γ hm am u]) (fun _ => rfl) (fun _ => rfl) (fun _ => rfl) [.int (gnS r b true p false n gb)] rfl (Nat.le_of_ble_eq_true rfl) (fun u15 hu16 => ?_)
                  show V 100 _ [.int (gnS r b false p false n gb), .int (gnS r b true p false n gb)] [eO t 3 [.ref hn, .ref hm, .ref dd, .int sd], ydW Γ hn an r, ydW Γ hm am u15]
                  refine r_ic_lt K dX5_firstCalmPair_100 (fun c100 => ?_) (fun c100 => ?_)
                  · have ex : decide (2 ≤ k) = false := decide_eq_false (by omega)
                    have ey : decide (k % 2 = 1) = true := decide_eq_true c27
                    have hc : ¬ calmB r p b n ga gb (decide (2 ≤ k)) (decide (k % 2 = 1)) = true := by
                      rw [ex, ey]; unfold calmB; rw [decide_eq_false (show ¬ gnS r b (!true) p false n gb ≤ gnS r b true p false n gb from Int32.not_le.mpr c100), Bool.and_false]; exact fun z => by cases z
                    refine r_iconst K dX5_firstCalmPair_107 (nI 0) (by decide) ?_
                    refine r_istore K dX5_firstCalmPair_108 (by decide) (lv1 := [(7, .int (nI 0)), (6, .int (nI 1)), (5, .int (nI 0)), (4, .int (nI k)), (0, .ref t), (1, .int (nI p)), (2, .int (nI b)), (3, .int (nI n))]) rfl ?_
                    refine r_iload K dX5_firstCalmPair_110 0 rfl ?_
                    refine r_if_eqN K dX5_firstCalmPair_112 (by omega) (fun c112 => ?_) (fun c112 => ?_)
                    · refine r_iincN K dX5_firstCalmPair_138 (n := 1) 3 rfl rfl (by decide) (lv1 := [(4, .int (nI (k + 1))), (7, .int (nI 0)), (6, .int (nI 1)), (5, .int (nI 0)), (0, .ref t), (1, .int (nI p)), (2, .int (nI b)), (3, .int (nI n))]) rfl ?_
                      refine r_goto K dX5_firstCalmPair_141 ?_
                      refine r_lv K [0, 4, 5, 6, 7] rfl ?_
                      exact ih_L3 f (k + 1) u15 (by omega) (hE.trans (calmL_n hc)) (by omega)
                    · exact absurd c112 (by omega)
                  · have ex : decide (2 ≤ k) = false := decide_eq_false (by omega)
                    have ey : decide (k % 2 = 1) = true := decide_eq_true c27
                    have hc : calmB r p b n ga gb (decide (2 ≤ k)) (decide (k % 2 = 1)) = true := by
                      rw [ex, ey]; unfold calmB; rw [decide_eq_true (show gnS r p (!false) b true n ga ≤ gnS r p false b true n ga from Int32.not_lt.mp c67), decide_eq_true (show gnS r b (!true) p false n gb ≤ gnS r b true p false n gb from Int32.not_lt.mp c100)]; rfl
                    refine r_iconst K dX5_firstCalmPair_103 (nI 1) (by decide) ?_
                    refine r_goto K dX5_firstCalmPair_104 ?_
                    refine r_istore K dX5_firstCalmPair_108 (by decide) (lv1 := [(7, .int (nI 1)), (6, .int (nI 1)), (5, .int (nI 0)), (4, .int (nI k)), (0, .ref t), (1, .int (nI p)), (2, .int (nI b)), (3, .int (nI n))]) rfl ?_
                    refine r_iload K dX5_firstCalmPair_110 0 rfl ?_
                    refine r_if_eqN K dX5_firstCalmPair_112 (by omega) (fun c112 => ?_) (fun c112 => ?_)
                    · exact absurd c112 (by omega)
                    · refine r_iload K dX5_firstCalmPair_115 2 rfl ?_
                      refine r_if_eqN K dX5_firstCalmPair_117 (by omega) (fun c117 => ?_) (fun c117 => ?_)
                      · refine r_iconst K dX5_firstCalmPair_125 (nI 0) (by decide) ?_
                        refine r_iload K dX5_firstCalmPair_126 1 rfl ?_
                        refine r_if_eqN K dX5_firstCalmPair_128 (by omega) (fun c128 => ?_) (fun c128 => ?_)
                        · exact absurd c128 (by omega)
                        · refine r_iconst K dX5_firstCalmPair_131 (nI 1) (by decide) ?_
                          refine r_goto K dX5_firstCalmPair_132 ?_
                          refine r_iaddN K dX5_firstCalmPair_136 ?_
                          exact hR u15 dX5_firstCalmPair_137 (trivial) (e_ri (by rw [hE, calmL_t hc, if_neg (by omega), if_pos c27, nI_add])) (weq.rf)
                      · exact absurd c117 (by omega)
                · exact absurd c85 (by omega)
        · refine r_iconst K dX5_firstCalmPair_15 (nI 1) (by decide) ?_
          refine r_goto K dX5_firstCalmPair_16 ?_
          refine r_istore K dX5_firstCalmPair_20 (by decide) (lv1 := [(5, .int (nI 1)), (4, .int (nI k)), (0, .ref t), (1, .int (nI p)), (2, .int (nI b)), (3, .int (nI n))]) rfl ?_
          refine r_iload K dX5_firstCalmPair_22 1 rfl ?_
          refine r_iconst K dX5_firstCalmPair_24 (nI 2) (by decide) ?_
          refine r_iremN K dX5_firstCalmPair_25 (by omega) (by omega) (by omega) ?_
          refine r_iconst K dX5_firstCalmPair_26 (nI 1) (by decide) ?_
          refine r_ic_neN K dX5_firstCalmPair_27 (by omega) (by omega) (fun c27 => ?_) (fun c27 => ?_)
          · refine r_iconst K dX5_firstCalmPair_34 (nI 0) (by decide) ?_
            refine r_istore K dX5_firstCalmPair_35 (by decide) (lv1 := [(6, .int (nI 0)), (5, .int (nI 1)), (4, .int (nI k)), (0, .ref t), (1, .int (nI p)), (2, .int (nI b)), (3, .int (nI n))]) rfl ?_
            refine r_aload_n K dX5_firstCalmPair_37 3 rfl ?_
            refine r_iload_n K dX5_firstCalmPair_38 4 rfl ?_
            refine r_iload K dX5_firstCalmPair_39 1 rfl ?_
            refine r_iload_n K dX5_firstCalmPair_41 5 rfl ?_
            refine r_iload K dX5_firstCalmPair_42 0 rfl ?_
            refine r_iload_n K dX5_firstCalmPair_44 6 rfl ?_
            refine r_cV K dX5_firstCalmPair_45 (c_X5_gain l Γ t hn hm dd sd an am r q p true b false n ga (hI) (by first | omega | (simp only [daysS_nM, daysS_nG, dayS_nM, dayS_nG, tellS_nM, tellS_nG, aloneTo_nM, aloneTo_nG, nM_M, nG_M, nM_G, nG_G, lv_nM, lv_nG, gnT_nM, gnT_nG] <;> omega)) (by first | omega | (simp only [daysS_nM, daysS_nG, dayS_nM, dayS_nG, tellS_nM, tellS_nG, aloneTo_nM, aloneTo_nG, nM_M, nG_M, nM_G, nG_G, lv_nM, lv_nG, gnT_nM, gnT_nG] <;> omega)) (by first | omega | (simp only [daysS_nM, daysS_nG, dayS_nM, dayS_nG, tellS_nM, tellS_nG, aloneTo_nM, aloneTo_nG, nM_M, nG_M, nM_G, nG_G, lv_nM, lv_nG, gnT_nM, gnT_nG] <;> omega)) (by first | assumption | omega) (by first | assumption | omega)) mX5_gain q620 rfl (by decide) rfl rfl 3 rfl [0, 1, 2] [] rfl rfl [] rfl (fun u => [eO t 3 [.ref hn, .ref hm, .ref dd, .int sd], ydW Γ hn an r, ydW Γ hm am u]) (fun _ => rfl) (fun _ => rfl) (fun _ => rfl) [] rfl (Nat.le_of_ble_eq_true rfl) (fun u17 hu18 => ?_)
            show V 48 _ [.int (gnS r p true b false n ga)] [eO t 3 [.ref hn, .ref hm, .ref dd, .int sd], ydW Γ hn an r, ydW Γ hm am u17]
            refine r_aload_n K dX5_firstCalmPair_48 3 rfl ?_
            refine r_iload_n K dX5_firstCalmPair_49 4 rfl ?_
            refine r_iload K dX5_firstCalmPair_50 1 rfl ?_
            refine r_if_neN K dX5_firstCalmPair_52 (by omega) (fun c52 => ?_) (fun c52 => ?_)
            · refine r_iconst K dX5_firstCalmPair_59 (nI 0) (by decide) ?_
              refine r_iload_n K dX5_firstCalmPair_60 5 rfl ?_
              refine r_iload K dX5_firstCalmPair_61 0 rfl ?_
              refine r_iload_n K dX5_firstCalmPair_63 6 rfl ?_
              refine r_cV K dX5_firstCalmPair_64 (c_X5_gain l Γ t hn hm dd sd an am r u17 p false b false n ga (hI) (by first | omega | (simp only [daysS_nM, daysS_nG, dayS_nM, dayS_nG, tellS_nM, tellS_nG, aloneTo_nM, aloneTo_nG, nM_M, nG_M, nM_G, nG_G, lv_nM, lv_nG, gnT_nM, gnT_nG] <;> omega)) (by first | omega | (simp only [daysS_nM, daysS_nG, dayS_nM, dayS_nG, tellS_nM, tellS_nG, aloneTo_nM, aloneTo_nG, nM_M, nG_M, nM_G, nG_G, lv_nM, lv_nG, gnT_nM, gnT_nG] <;> omega)) (by first | omega | (simp only [daysS_nM, daysS_nG, dayS_nM, dayS_nG, tellS_nM, tellS_nG, aloneTo_nM, aloneTo_nG, nM_M, nG_M, nM_G, nG_G, lv_nM, lv_nG, gnT_nM, gnT_nG] <;> omega)) (by first | assumption | omega) (by first | assumption | omega)) mX5_gain q620 rfl (by decide) rfl rfl 3 rfl [0, 1, 2] [] rfl rfl [] rfl (fun u => [eO t 3 [.ref hn, .ref hm, .ref dd, .int sd], ydW Γ hn an r, ydW Γ hm am u]) (fun _ => rfl) (fun _ => rfl) (fun _ => rfl) [.int (gnS r p true b false n ga)] rfl (Nat.le_of_ble_eq_true rfl) (fun u19 hu20 => ?_)
              show V 67 _ [.int (gnS r p false b false n ga), .int (gnS r p true b false n ga)] [eO t 3 [.ref hn, .ref hm, .ref dd, .int sd], ydW Γ hn an r, ydW Γ hm am u19]
              refine r_ic_lt K dX5_firstCalmPair_67 (fun c67 => ?_) (fun c67 => ?_)
              · have ex : decide (2 ≤ k) = true := decide_eq_true c12
                have ey : decide (k % 2 = 1) = false := decide_eq_false c27
                have hc : ¬ calmB r p b n ga gb (decide (2 ≤ k)) (decide (k % 2 = 1)) = true := by
                  rw [ex, ey]; unfold calmB; rw [decide_eq_false (show ¬ gnS r p (!true) b false n ga ≤ gnS r p true b false n ga from Int32.not_le.mpr c67)]; exact fun z => by cases z
                refine r_iconst K dX5_firstCalmPair_107 (nI 0) (by decide) ?_
                refine r_istore K dX5_firstCalmPair_108 (by decide) (lv1 := [(7, .int (nI 0)), (6, .int (nI 0)), (5, .int (nI 1)), (4, .int (nI k)), (0, .ref t), (1, .int (nI p)), (2, .int (nI b)), (3, .int (nI n))]) rfl ?_
                refine r_iload K dX5_firstCalmPair_110 0 rfl ?_
                refine r_if_eqN K dX5_firstCalmPair_112 (by omega) (fun c112 => ?_) (fun c112 => ?_)
                · refine r_iincN K dX5_firstCalmPair_138 (n := 1) 3 rfl rfl (by decide) (lv1 := [(4, .int (nI (k + 1))), (7, .int (nI 0)), (6, .int (nI 0)), (5, .int (nI 1)), (0, .ref t), (1, .int (nI p)), (2, .int (nI b)), (3, .int (nI n))]) rfl ?_
                  refine r_goto K dX5_firstCalmPair_141 ?_
                  refine r_lv K [0, 4, 5, 6, 7] rfl ?_
                  exact ih_L3 f (k + 1) u19 (by omega) (hE.trans (calmL_n hc)) (by omega)
                · exact absurd c112 (by omega)
              · refine r_aload_n K dX5_firstCalmPair_70 3 rfl ?_
                refine r_iload_n K dX5_firstCalmPair_71 5 rfl ?_
                refine r_iload K dX5_firstCalmPair_72 0 rfl ?_
                refine r_iload_n K dX5_firstCalmPair_74 4 rfl ?_
                refine r_iload K dX5_firstCalmPair_75 1 rfl ?_
                refine r_iload_n K dX5_firstCalmPair_77 6 rfl ?_
                refine r_cV K dX5_firstCalmPair_78 (c_X5_gain l Γ t hn hm dd sd an am r u19 b false p true n gb (hI) (by first | omega | (simp only [daysS_nM, daysS_nG, dayS_nM, dayS_nG, tellS_nM, tellS_nG, aloneTo_nM, aloneTo_nG, nM_M, nG_M, nM_G, nG_G, lv_nM, lv_nG, gnT_nM, gnT_nG] <;> omega)) (by first | omega | (simp only [daysS_nM, daysS_nG, dayS_nM, dayS_nG, tellS_nM, tellS_nG, aloneTo_nM, aloneTo_nG, nM_M, nG_M, nM_G, nG_G, lv_nM, lv_nG, gnT_nM, gnT_nG] <;> omega)) (by first | omega | (simp only [daysS_nM, daysS_nG, dayS_nM, dayS_nG, tellS_nM, tellS_nG, aloneTo_nM, aloneTo_nG, nM_M, nG_M, nM_G, nG_G, lv_nM, lv_nG, gnT_nM, gnT_nG] <;> omega)) (by first | assumption | omega) (by first | assumption | omega)) mX5_gain q620 rfl (by decide) rfl rfl 3 rfl [0, 1, 2] [] rfl rfl [] rfl (fun u => [eO t 3 [.ref hn, .ref hm, .ref dd, .int sd], ydW Γ hn an r, ydW Γ hm am u]) (fun _ => rfl) (fun _ => rfl) (fun _ => rfl) [] rfl (Nat.le_of_ble_eq_true rfl) (fun u21 hu22 => ?_)
                show V 81 _ [.int (gnS r b false p true n gb)] [eO t 3 [.ref hn, .ref hm, .ref dd, .int sd], ydW Γ hn an r, ydW Γ hm am u21]
                refine r_aload_n K dX5_firstCalmPair_81 3 rfl ?_
                refine r_iload_n K dX5_firstCalmPair_82 5 rfl ?_
                refine r_iload K dX5_firstCalmPair_83 0 rfl ?_
                refine r_if_neN K dX5_firstCalmPair_85 (by omega) (fun c85 => ?_) (fun c85 => ?_)
                · exact absurd c85 (by omega)
                · refine r_iconst K dX5_firstCalmPair_88 (nI 1) (by decide) ?_
                  refine r_goto K dX5_firstCalmPair_89 ?_
                  refine r_iload_n K dX5_firstCalmPair_93 4 rfl ?_
                  refine r_iload K dX5_firstCalmPair_94 1 rfl ?_
                  refine r_iload_n K dX5_firstCalmPair_96 6 rfl ?_
                  refine r_cV K dX5_firstCalmPair_97 (c_X5_gain l Γ t hn hm dd sd an am r u21 b true p true n gb (hI) (by first | omega | (simp only [daysS_nM, daysS_nG, dayS_nM, dayS_nG, tellS_nM, tellS_nG, aloneTo_nM, aloneTo_nG, nM_M, nG_M, nM_G, nG_G, lv_nM, lv_nG, gnT_nM, gnT_nG] <;> omega)) (by first | omega | (simp only [daysS_nM, daysS_nG, dayS_nM, dayS_nG, tellS_nM, tellS_nG, aloneTo_nM, aloneTo_nG, nM_M, nG_M, nM_G, nG_G, lv_nM, lv_nG, gnT_nM, gnT_nG] <;> omega)) (by first | omega | (simp only [daysS_nM, daysS_nG, dayS_nM, dayS_nG, tellS_nM, tellS_nG, aloneTo_nM, aloneTo_nG, nM_M, nG_M, nM_G, nG_G, lv_nM, lv_nG, gnT_nM, gnT_nG] <;> omega)) (by first | assumption | omega) (by first | assumption | omega)) mX5_gain q620 rfl (by decide) rfl rfl 3 rfl [0, 1, 2] [] rfl rfl [] rfl (fun u => [eO t 3 [.ref hn, .ref hm, .ref dd, .int sd], ydW Γ hn an r, ydW Γ hm am u]) (fun _ => rfl) (fun _ => rfl) (fun _ => rfl) [.int (gnS r b false p true n gb)] rfl (Nat.le_of_ble_eq_true rfl) (fun u23 hu24 => ?_)
                  show V 100 _ [.int (gnS r b true p true n gb), .int (gnS r b false p true n gb)] [eO t 3 [.ref hn, .ref hm, .ref dd, .int sd], ydW Γ hn an r, ydW Γ hm am u23]
                  refine r_ic_lt K dX5_firstCalmPair_100 (fun c100 => ?_) (fun c100 => ?_)
                  · have ex : decide (2 ≤ k) = true := decide_eq_true c12
                    have ey : decide (k % 2 = 1) = false := decide_eq_false c27
                    have hc : ¬ calmB r p b n ga gb (decide (2 ≤ k)) (decide (k % 2 = 1)) = true := by
                      rw [ex, ey]; unfold calmB; rw [decide_eq_false (show ¬ gnS r b (!false) p true n gb ≤ gnS r b false p true n gb from Int32.not_le.mpr c100), Bool.and_false]; exact fun z => by cases z
                    refine r_iconst K dX5_firstCalmPair_107 (nI 0) (by decide) ?_
                    refine r_istore K dX5_firstCalmPair_108 (by decide) (lv1 := [(7, .int (nI 0)), (6, .int (nI 0)), (5, .int (nI 1)), (4, .int (nI k)), (0, .ref t), (1, .int (nI p)), (2, .int (nI b)), (3, .int (nI n))]) rfl ?_
                    refine r_iload K dX5_firstCalmPair_110 0 rfl ?_
                    refine r_if_eqN K dX5_firstCalmPair_112 (by omega) (fun c112 => ?_) (fun c112 => ?_)
                    · refine r_iincN K dX5_firstCalmPair_138 (n := 1) 3 rfl rfl (by decide) (lv1 := [(4, .int (nI (k + 1))), (7, .int (nI 0)), (6, .int (nI 0)), (5, .int (nI 1)), (0, .ref t), (1, .int (nI p)), (2, .int (nI b)), (3, .int (nI n))]) rfl ?_
                      refine r_goto K dX5_firstCalmPair_141 ?_
                      refine r_lv K [0, 4, 5, 6, 7] rfl ?_
                      exact ih_L3 f (k + 1) u23 (by omega) (hE.trans (calmL_n hc)) (by omega)
                    · exact absurd c112 (by omega)
                  · have ex : decide (2 ≤ k) = true := decide_eq_true c12
                    have ey : decide (k % 2 = 1) = false := decide_eq_false c27
                    have hc : calmB r p b n ga gb (decide (2 ≤ k)) (decide (k % 2 = 1)) = true := by
                      rw [ex, ey]; unfold calmB; rw [decide_eq_true (show gnS r p (!true) b false n ga ≤ gnS r p true b false n ga from Int32.not_lt.mp c67), decide_eq_true (show gnS r b (!false) p true n gb ≤ gnS r b false p true n gb from Int32.not_lt.mp c100)]; rfl
                    refine r_iconst K dX5_firstCalmPair_103 (nI 1) (by decide) ?_
                    refine r_goto K dX5_firstCalmPair_104 ?_
                    refine r_istore K dX5_firstCalmPair_108 (by decide) (lv1 := [(7, .int (nI 1)), (6, .int (nI 0)), (5, .int (nI 1)), (4, .int (nI k)), (0, .ref t), (1, .int (nI p)), (2, .int (nI b)), (3, .int (nI n))]) rfl ?_
                    refine r_iload K dX5_firstCalmPair_110 0 rfl ?_
                    refine r_if_eqN K dX5_firstCalmPair_112 (by omega) (fun c112 => ?_) (fun c112 => ?_)
                    · exact absurd c112 (by omega)
                    · refine r_iload K dX5_firstCalmPair_115 2 rfl ?_
                      refine r_if_eqN K dX5_firstCalmPair_117 (by omega) (fun c117 => ?_) (fun c117 => ?_)
                      · exact absurd c117 (by omega)
                      · refine r_bipush K dX5_firstCalmPair_120 (nI 10) (by decide) ?_
                        refine r_goto K dX5_firstCalmPair_122 ?_
                        refine r_iload K dX5_firstCalmPair_126 1 rfl ?_
                        refine r_if_eqN K dX5_firstCalmPair_128 (by omega) (fun c128 => ?_) (fun c128 => ?_)
                        · refine r_iconst K dX5_firstCalmPair_135 (nI 0) (by decide) ?_
                          refine r_iaddN K dX5_firstCalmPair_136 ?_
                          exact hR u23 dX5_firstCalmPair_137 (trivial) (e_ri (by rw [hE, calmL_t hc, if_pos c12, if_neg c27, nI_add])) (weq.rf)
                        · exact absurd c128 (by omega)
            · exact absurd c52 (by omega)
          · refine r_iconst K dX5_firstCalmPair_30 (nI 1) (by decide) ?_
            refine r_goto K dX5_firstCalmPair_31 ?_
            refine r_istore K dX5_firstCalmPair_35 (by decide) (lv1 := [(6, .int (nI 1)), (5, .int (nI 1)), (4, .int (nI k)), (0, .ref t), (1, .int (nI p)), (2, .int (nI b)), (3, .int (nI n))]) rfl ?_
            refine r_aload_n K dX5_firstCalmPair_37 3 rfl ?_
            refine r_iload_n K dX5_firstCalmPair_38 4 rfl ?_
            refine r_iload K dX5_firstCalmPair_39 1 rfl ?_
            refine r_iload_n K dX5_firstCalmPair_41 5 rfl ?_
            refine r_iload K dX5_firstCalmPair_42 0 rfl ?_
            refine r_iload_n K dX5_firstCalmPair_44 6 rfl ?_
            refine r_cV K dX5_firstCalmPair_45 (c_X5_gain l Γ t hn hm dd sd an am r q p true b true n ga (hI) (by first | omega | (simp only [daysS_nM, daysS_nG, dayS_nM, dayS_nG, tellS_nM, tellS_nG, aloneTo_nM, aloneTo_nG, nM_M, nG_M, nM_G, nG_G, lv_nM, lv_nG, gnT_nM, gnT_nG] <;> omega)) (by first | omega | (simp only [daysS_nM, daysS_nG, dayS_nM, dayS_nG, tellS_nM, tellS_nG, aloneTo_nM, aloneTo_nG, nM_M, nG_M, nM_G, nG_G, lv_nM, lv_nG, gnT_nM, gnT_nG] <;> omega)) (by first | omega | (simp only [daysS_nM, daysS_nG, dayS_nM, dayS_nG, tellS_nM, tellS_nG, aloneTo_nM, aloneTo_nG, nM_M, nG_M, nM_G, nG_G, lv_nM, lv_nG, gnT_nM, gnT_nG] <;> omega)) (by first | assumption | omega) (by first | assumption | omega)) mX5_gain q620 rfl (by decide) rfl rfl 3 rfl [0, 1, 2] [] rfl rfl [] rfl (fun u => [eO t 3 [.ref hn, .ref hm, .ref dd, .int sd], ydW Γ hn an r, ydW Γ hm am u]) (fun _ => rfl) (fun _ => rfl) (fun _ => rfl) [] rfl (Nat.le_of_ble_eq_true rfl) (fun u25 hu26 => ?_)
            show V 48 _ [.int (gnS r p true b true n ga)] [eO t 3 [.ref hn, .ref hm, .ref dd, .int sd], ydW Γ hn an r, ydW Γ hm am u25]
            refine r_aload_n K dX5_firstCalmPair_48 3 rfl ?_
            refine r_iload_n K dX5_firstCalmPair_49 4 rfl ?_
            refine r_iload K dX5_firstCalmPair_50 1 rfl ?_
            refine r_if_neN K dX5_firstCalmPair_52 (by omega) (fun c52 => ?_) (fun c52 => ?_)
            · refine r_iconst K dX5_firstCalmPair_59 (nI 0) (by decide) ?_
              refine r_iload_n K dX5_firstCalmPair_60 5 rfl ?_
              refine r_iload K dX5_firstCalmPair_61 0 rfl ?_
              refine r_iload_n K dX5_firstCalmPair_63 6 rfl ?_
              refine r_cV K dX5_firstCalmPair_64 (c_X5_gain l Γ t hn hm dd sd an am r u25 p false b true n ga (hI) (by first | omega | (simp only [daysS_nM, daysS_nG, dayS_nM, dayS_nG, tellS_nM, tellS_nG, aloneTo_nM, aloneTo_nG, nM_M, nG_M, nM_G, nG_G, lv_nM, lv_nG, gnT_nM, gnT_nG] <;> omega)) (by first | omega | (simp only [daysS_nM, daysS_nG, dayS_nM, dayS_nG, tellS_nM, tellS_nG, aloneTo_nM, aloneTo_nG, nM_M, nG_M, nM_G, nG_G, lv_nM, lv_nG, gnT_nM, gnT_nG] <;> omega)) (by first | omega | (simp only [daysS_nM, daysS_nG, dayS_nM, dayS_nG, tellS_nM, tellS_nG, aloneTo_nM, aloneTo_nG, nM_M, nG_M, nM_G, nG_G, lv_nM, lv_nG, gnT_nM, gnT_nG] <;> omega)) (by first | assumption | omega) (by first | assumption | omega)) mX5_gain q620 rfl (by decide) rfl rfl 3 rfl [0, 1, 2] [] rfl rfl [] rfl (fun u => [eO t 3 [.ref hn, .ref hm, .ref dd, .int sd], ydW Γ hn an r, ydW Γ hm am u]) (fun _ => rfl) (fun _ => rfl) (fun _ => rfl) [.int (gnS r p true b true n ga)] rfl (Nat.le_of_ble_eq_true rfl) (fun u27 hu28 => ?_)
              show V 67 _ [.int (gnS r p false b true n ga), .int (gnS r p true b true n ga)] [eO t 3 [.ref hn, .ref hm, .ref dd, .int sd], ydW Γ hn an r, ydW Γ hm am u27]
              refine r_ic_lt K dX5_firstCalmPair_67 (fun c67 => ?_) (fun c67 => ?_)
              · have ex : decide (2 ≤ k) = true := decide_eq_true c12
                have ey : decide (k % 2 = 1) = true := decide_eq_true c27
                have hc : ¬ calmB r p b n ga gb (decide (2 ≤ k)) (decide (k % 2 = 1)) = true := by
                  rw [ex, ey]; unfold calmB; rw [decide_eq_false (show ¬ gnS r p (!true) b true n ga ≤ gnS r p true b true n ga from Int32.not_le.mpr c67)]; exact fun z => by cases z
                refine r_iconst K dX5_firstCalmPair_107 (nI 0) (by decide) ?_
                refine r_istore K dX5_firstCalmPair_108 (by decide) (lv1 := [(7, .int (nI 0)), (6, .int (nI 1)), (5, .int (nI 1)), (4, .int (nI k)), (0, .ref t), (1, .int (nI p)), (2, .int (nI b)), (3, .int (nI n))]) rfl ?_
                refine r_iload K dX5_firstCalmPair_110 0 rfl ?_
                refine r_if_eqN K dX5_firstCalmPair_112 (by omega) (fun c112 => ?_) (fun c112 => ?_)
                · refine r_iincN K dX5_firstCalmPair_138 (n := 1) 3 rfl rfl (by decide) (lv1 := [(4, .int (nI (k + 1))), (7, .int (nI 0)), (6, .int (nI 1)), (5, .int (nI 1)), (0, .ref t), (1, .int (nI p)), (2, .int (nI b)), (3, .int (nI n))]) rfl ?_
                  refine r_goto K dX5_firstCalmPair_141 ?_
                  refine r_lv K [0, 4, 5, 6, 7] rfl ?_
                  exact ih_L3 f (k + 1) u27 (by omega) (hE.trans (calmL_n hc)) (by omega)
                · exact absurd c112 (by omega)
              · refine r_aload_n K dX5_firstCalmPair_70 3 rfl ?_
                refine r_iload_n K dX5_firstCalmPair_71 5 rfl ?_
                refine r_iload K dX5_firstCalmPair_72 0 rfl ?_
                refine r_iload_n K dX5_firstCalmPair_74 4 rfl ?_
                refine r_iload K dX5_firstCalmPair_75 1 rfl ?_
                refine r_iload_n K dX5_firstCalmPair_77 6 rfl ?_
                refine r_cV K dX5_firstCalmPair_78 (c_X5_gain l Γ t hn hm dd sd an am r u27 b true p true n gb (hI) (by first | omega | (simp only [daysS_nM, daysS_nG, dayS_nM, dayS_nG, tellS_nM, tellS_nG, aloneTo_nM, aloneTo_nG, nM_M, nG_M, nM_G, nG_G, lv_nM, lv_nG, gnT_nM, gnT_nG] <;> omega)) (by first | omega | (simp only [daysS_nM, daysS_nG, dayS_nM, dayS_nG, tellS_nM, tellS_nG, aloneTo_nM, aloneTo_nG, nM_M, nG_M, nM_G, nG_G, lv_nM, lv_nG, gnT_nM, gnT_nG] <;> omega)) (by first | omega | (simp only [daysS_nM, daysS_nG, dayS_nM, dayS_nG, tellS_nM, tellS_nG, aloneTo_nM, aloneTo_nG, nM_M, nG_M, nM_G, nG_G, lv_nM, lv_nG, gnT_nM, gnT_nG] <;> omega)) (by first | assumption | omega) (by first | assumption | omega)) mX5_gain q620 rfl (by decide) rfl rfl 3 rfl [0, 1, 2] [] rfl rfl [] rfl (fun u => [eO t 3 [.ref hn, .ref hm, .ref dd, .int sd], ydW Γ hn an r, ydW Γ hm am u]) (fun _ => rfl) (fun _ => rfl) (fun _ => rfl) [] rfl (Nat.le_of_ble_eq_true rfl) (fun u29 hu30 => ?_)
                show V 81 _ [.int (gnS r b true p true n gb)] [eO t 3 [.ref hn, .ref hm, .ref dd, .int sd], ydW Γ hn an r, ydW Γ hm am u29]
                refine r_aload_n K dX5_firstCalmPair_81 3 rfl ?_
                refine r_iload_n K dX5_firstCalmPair_82 5 rfl ?_
                refine r_iload K dX5_firstCalmPair_83 0 rfl ?_
                refine r_if_neN K dX5_firstCalmPair_85 (by omega) (fun c85 => ?_) (fun c85 => ?_)
                · refine r_iconst K dX5_firstCalmPair_92 (nI 0) (by decide) ?_
                  refine r_iload_n K dX5_firstCalmPair_93 4 rfl ?_
                  refine r_iload K dX5_firstCalmPair_94 1 rfl ?_
                  refine r_iload_n K dX5_firstCalmPair_96 6 rfl ?_
                  refine r_cV K dX5_firstCalmPair_97 (c_X5_gain l Γ t hn hm dd sd an am r u29 b false p true n gb (hI) (by first | omega | (simp only [daysS_nM, daysS_nG, dayS_nM, dayS_nG, tellS_nM, tellS_nG, aloneTo_nM, aloneTo_nG, nM_M, nG_M, nM_G, nG_G, lv_nM, lv_nG, gnT_nM, gnT_nG] <;> omega)) (by first | omega | (simp only [daysS_nM, daysS_nG, dayS_nM, dayS_nG, tellS_nM, tellS_nG, aloneTo_nM, aloneTo_nG, nM_M, nG_M, nM_G, nG_G, lv_nM, lv_nG, gnT_nM, gnT_nG] <;> omega)) (by first | omega | (simp only [daysS_nM, daysS_nG, dayS_nM, dayS_nG, tellS_nM, tellS_nG, aloneTo_nM, aloneTo_nG, nM_M, nG_M, nM_G, nG_G, lv_nM, lv_nG, gnT_nM, gnT_nG] <;> omega)) (by first | assumption | omega) (by first | assumption | omega)) mX5_gain q620 rfl (by decide) rfl rfl 3 rfl [0, 1, 2] [] rfl rfl [] rfl (fun u => [eO t 3 [.ref hn, .ref hm, .ref dd, .int sd], ydW Γ hn an r, ydW Γ hm am u]) (fun _ => rfl) (fun _ => rfl) (fun _ => rfl) [.int (gnS r b true p true n gb)] rfl (Nat.le_of_ble_eq_true rfl) (fun u31 hu32 => ?_)
                  show V 100 _ [.int (gnS r b false p true n gb), .int (gnS r b true p true n gb)] [eO t 3 [.ref hn, .ref hm, .ref dd, .int sd], ydW Γ hn an r, ydW Γ hm am u31]
                  refine r_ic_lt K dX5_firstCalmPair_100 (fun c100 => ?_) (fun c100 => ?_)
                  · have ex : decide (2 ≤ k) = true := decide_eq_true c12
                    have ey : decide (k % 2 = 1) = true := decide_eq_true c27
                    have hc : ¬ calmB r p b n ga gb (decide (2 ≤ k)) (decide (k % 2 = 1)) = true := by
                      rw [ex, ey]; unfold calmB; rw [decide_eq_false (show ¬ gnS r b (!true) p true n gb ≤ gnS r b true p true n gb from Int32.not_le.mpr c100), Bool.and_false]; exact fun z => by cases z
                    refine r_iconst K dX5_firstCalmPair_107 (nI 0) (by decide) ?_
                    refine r_istore K dX5_firstCalmPair_108 (by decide) (lv1 := [(7, .int (nI 0)), (6, .int (nI 1)), (5, .int (nI 1)), (4, .int (nI k)), (0, .ref t), (1, .int (nI p)), (2, .int (nI b)), (3, .int (nI n))]) rfl ?_
                    refine r_iload K dX5_firstCalmPair_110 0 rfl ?_
                    refine r_if_eqN K dX5_firstCalmPair_112 (by omega) (fun c112 => ?_) (fun c112 => ?_)
                    · refine r_iincN K dX5_firstCalmPair_138 (n := 1) 3 rfl rfl (by decide) (lv1 := [(4, .int (nI (k + 1))), (7, .int (nI 0)), (6, .int (nI 1)), (5, .int (nI 1)), (0, .ref t), (1, .int (nI p)), (2, .int (nI b)), (3, .int (nI n))]) rfl ?_
                      refine r_goto K dX5_firstCalmPair_141 ?_
                      refine r_lv K [0, 4, 5, 6, 7] rfl ?_
                      exact ih_L3 f (k + 1) u31 (by omega) (hE.trans (calmL_n hc)) (by omega)
                    · exact absurd c112 (by omega)
                  · have ex : decide (2 ≤ k) = true := decide_eq_true c12
                    have ey : decide (k % 2 = 1) = true := decide_eq_true c27
                    have hc : calmB r p b n ga gb (decide (2 ≤ k)) (decide (k % 2 = 1)) = true := by
                      rw [ex, ey]; unfold calmB; rw [decide_eq_true (show gnS r p (!true) b true n ga ≤ gnS r p true b true n ga from Int32.not_lt.mp c67), decide_eq_true (show gnS r b (!true) p true n gb ≤ gnS r b true p true n gb from Int32.not_lt.mp c100)]; rfl
                    refine r_iconst K dX5_firstCalmPair_103 (nI 1) (by decide) ?_
                    refine r_goto K dX5_firstCalmPair_104 ?_
                    refine r_istore K dX5_firstCalmPair_108 (by decide) (lv1 := [(7, .int (nI 1)), (6, .int (nI 1)), (5, .int (nI 1)), (4, .int (nI k)), (0, .ref t), (1, .int (nI p)), (2, .int (nI b)), (3, .int (nI n))]) rfl ?_
                    refine r_iload K dX5_firstCalmPair_110 0 rfl ?_
                    refine r_if_eqN K dX5_firstCalmPair_112 (by omega) (fun c112 => ?_) (fun c112 => ?_)
                    · exact absurd c112 (by omega)
                    · refine r_iload K dX5_firstCalmPair_115 2 rfl ?_
                      refine r_if_eqN K dX5_firstCalmPair_117 (by omega) (fun c117 => ?_) (fun c117 => ?_)
                      · exact absurd c117 (by omega)
                      · refine r_bipush K dX5_firstCalmPair_120 (nI 10) (by decide) ?_
                        refine r_goto K dX5_firstCalmPair_122 ?_
                        refine r_iload K dX5_firstCalmPair_126 1 rfl ?_
                        refine r_if_eqN K dX5_firstCalmPair_128 (by omega) (fun c128 => ?_) (fun c128 => ?_)
                        · exact absurd c128 (by omega)
                        · refine r_iconst K dX5_firstCalmPair_131 (nI 1) (by decide) ?_
                          refine r_goto K dX5_firstCalmPair_132 ?_
                          refine r_iaddN K dX5_firstCalmPair_136 ?_
                          exact hR u31 dX5_firstCalmPair_137 (trivial) (e_ri (by rw [hE, calmL_t hc, if_pos c12, if_pos c27, nI_add])) (weq.rf)
                · exact absurd c85 (by omega)
            · exact absurd c52 (by omega)
  exact L3 _ 4 0 q (rfl) (rfl) (Nat.lt_succ_self _)
set_option maxHeartbeats 1000000 in
set_option maxRecDepth 20000 in
theorem c_X5_fitsRow (l : Launch) (Γ : eG) (t : Nat) (hn : Nat) (hm : Nat) (dd : Nat) (sd : Int32) (an : Nat → Nat) (am : Nat → Nat) (r : Nat → Int32) (q : Nat → Int32) (g : Nat) (m : Nat) (nu : Nat) (rw : Nat → Int32) (hI : Inv r) (hJ : Inv q) (hg : g < nG q) (hm16 : m ≤ 16) : cE l Γ yX5_fitsRow cX5_fitsRow 5 (some .boolean) 3 [.ref t, .int (nI g), .ref nu, .int (nI m)] [eO t 3 [.ref hn, .ref hm, .ref dd, .int sd], ydW Γ hn an r, ydW Γ hm am q, eI Γ nu 16 rw] (S := Nat → Int32) (fun u => True) (fun u => (some (.int (bz (frL g rw m q 0))))) (fun u => [eO t 3 [.ref hn, .ref hm, .ref dd, .int sd], ydW Γ hn an r, ydW Γ hm am u, eI Γ nu 16 rw]) := by
  refine e_bool [(0, .ref t), (1, .int (nI g)), (2, .ref nu), (3, .int (nI m))] (by decide +kernel) (Nat.le_of_ble_eq_true rfl) rfl (fun V K hR => ?_)
  have h5 := hI.g
  have h6 := hI.m
  refine r_iconst K dX5_fitsRow_0 (nI 0) (by decide) ?_
  refine r_istore K dX5_fitsRow_1 (by decide) (lv1 := [(4, .int (nI 0)), (0, .ref t), (1, .int (nI g)), (2, .ref nu), (3, .int (nI m))]) rfl ?_
  have L3 : ∀ (fL3 : Nat) (f : Nat) (i : Nat), (f + i = m) → (frL g rw m q 0 = frL g rw f (daysS q i) i) → f < fL3 → V 3 [(4, .int (nI i)), (0, .ref t), (1, .int (nI g)), (2, .ref nu), (3, .int (nI m))] [] [eO t 3 [.ref hn, .ref hm, .ref dd, .int sd], ydW Γ hn an r, ydW Γ hm am (daysS q i), eI Γ nu 16 rw] := by
    intro fL3
    induction fL3 with
    | zero => intro f i hfi hE hf; exact absurd hf (Nat.not_lt_zero _)
    | succ fL3 ih_L3 =>
      intro f i hfi hE hfL3
      refine r_iload K dX5_fitsRow_3 0 rfl ?_
      refine r_iload_n K dX5_fitsRow_5 4 rfl ?_
      refine r_ic_geN K dX5_fitsRow_6 (by omega) (by omega) (fun c6 => ?_) (fun c6 => ?_)
      · obtain rfl : f = 0 := by omega
        refine r_iconst K dX5_fitsRow_46 (nI 1) (by decide) ?_
        exact hR (daysS q i) dX5_fitsRow_47 (rfl) (trivial) (e_ri (by rw [hE]; rfl)) (weq.rf)
      · obtain ⟨f, rfl⟩ : ∃ q, f = q + 1 := ⟨f - 1, by omega⟩
        refine r_iload K dX5_fitsRow_9 0 rfl ?_
        refine r_aload_n K dX5_fitsRow_11 3 rfl ?_
        refine r_len K dX5_fitsRow_12 3 rfl ?_
        refine r_ic_geN K dX5_fitsRow_13 (by omega) (by omega) (fun c13 => ?_) (fun c13 => ?_)
        · exact absurd c13 (by omega)
        · refine r_aload_n K dX5_fitsRow_16 1 rfl ?_
          refine r_get K dX5_fitsRow_17 (kf := 1) 0 rfl rfl hinX5 (by decide) q70 rfl rfl ?_
          refine r_iload_n K dX5_fitsRow_20 2 rfl ?_
          refine r_cVd K dX5_fitsRow_21 (c_X0_depthN l Γ hm am (daysS q i) g (Inv_daysS (hJ) i) (by first | omega | (simp only [daysS_nM, daysS_nG, dayS_nM, dayS_nG, tellS_nM, tellS_nG, aloneTo_nM, aloneTo_nG, nM_M, nG_M, nM_G, nG_G, lv_nM, lv_nG, gnT_nM, gnT_nG] <;> omega))) mX0_depth q431 rfl (by decide) rfl rfl 4 rfl [2] [0, 1, 3] rfl rfl [eO t 3 [.ref hn, .ref hm, .ref dd, .int sd], ydW Γ hn an r, eI Γ nu 16 rw] rfl [eO t 3 [.ref hn, .ref hm, .ref dd, .int sd], ydW Γ hn an r, ydW Γ hm am (daysS q i), eI Γ nu 16 rw] rfl rfl rfl [] rfl (Nat.le_of_ble_eq_true rfl) ?_
          refine r_aload_n K dX5_fitsRow_24 3 rfl ?_
          refine r_iload K dX5_fitsRow_25 0 rfl ?_
          refine r_aldN K dX5_fitsRow_27 3 rfl (by first | omega | exact iG_lt (by omega) (by decide) | exact iM_lt (by omega) (by decide)) (by decide) ?_
          refine r_ic_eq K dX5_fitsRow_28 (fun c28 => ?_) (fun c28 => ?_)
          · refine r_aload_n K dX5_fitsRow_33 1 rfl ?_
            refine r_get K dX5_fitsRow_34 (kf := 1) 0 rfl rfl hinX5 (by decide) q70 rfl rfl ?_
            refine r_cVn K dX5_fitsRow_37 (c_X0_passDay l Γ hm am (daysS q i) (Inv_daysS (hJ) i)) mX0_passDay q432 rfl (by decide) rfl rfl 4 rfl [2] [0, 1, 3] rfl rfl [eO t 3 [.ref hn, .ref hm, .ref dd, .int sd], ydW Γ hn an r, eI Γ nu 16 rw] rfl [eO t 3 [.ref hn, .ref hm, .ref dd, .int sd], ydW Γ hn an r, ydW Γ hm am (dayS (daysS q i)), eI Γ nu 16 rw] rfl rfl rfl [] rfl (Nat.le_of_ble_eq_true rfl) ?_
            refine r_iincN K dX5_fitsRow_40 (n := 1) 0 rfl rfl (by decide) (lv1 := [(4, .int (nI (i + 1))), (0, .ref t), (1, .int (nI g)), (2, .ref nu), (3, .int (nI m))]) rfl ?_
            refine r_goto K dX5_fitsRow_43 ?_
            refine r_ws K (ws1 := [eO t 3 [.ref hn, .ref hm, .ref dd, .int sd], ydW Γ hn an r, ydW Γ hm am (daysS q (i + 1)), eI Γ nu 16 rw]) (by rw [daysS_s]; exact weq.rf) ?_
            exact ih_L3 f (i + 1) (by omega) (hE.trans (frL_t c28)) (by omega)
          · refine r_iconst K dX5_fitsRow_31 (nI 0) (by decide) ?_
            exact hR (daysS q i) dX5_fitsRow_32 (rfl) (trivial) (e_ri (by rw [hE, frL_n c28]; rfl)) (weq.rf)
  refine r_ws K (ws1 := [eO t 3 [.ref hn, .ref hm, .ref dd, .int sd], ydW Γ hn an r, ydW Γ hm am (daysS q 0), eI Γ nu 16 rw]) (by exact weq.rf) ?_
  exact L3 _ m 0 (rfl) (rfl) (Nat.lt_succ_self _)
set_option maxHeartbeats 1000000 in
set_option maxRecDepth 20000 in
theorem c_X5_whoAloneFits (l : Launch) (Γ : eG) (t : Nat) (hn : Nat) (hm : Nat) (dd : Nat) (sd : Int32) (an : Nat → Nat) (am : Nat → Nat) (r : Nat → Int32) (q : Nat → Int32) (g : Nat) (m : Nat) (nu : Nat) (rw : Nat → Int32) (hI : Inv r) (hg : g < nG r) (hm16 : m ≤ 16) : cE l Γ yX5_whoAloneFits cX5_whoAloneFits 6 (some .int) 4 [.ref t, .int (nI g), .ref nu, .int (nI m)] [eO t 3 [.ref hn, .ref hm, .ref dd, .int sd], ydW Γ hn an r, ydW Γ hm am q, eI Γ nu 16 rw] (S := Nat → Int32) (fun u => True) (fun u => (some (.int (wwF r g rw m (nM r))))) (fun u => [eO t 3 [.ref hn, .ref hm, .ref dd, .int sd], ydW Γ hn an r, ydW Γ hm am u, eI Γ nu 16 rw]) := by
  refine e_int [(0, .ref t), (1, .int (nI g)), (2, .ref nu), (3, .int (nI m))] (by decide +kernel) (Nat.le_of_ble_eq_true rfl) rfl (fun V K hR => ?_)
  have h5 := hI.g
  have h6 := hI.m
  refine r_iconst K dX5_whoAloneFits_0 (nI 0) (by decide) ?_
  refine r_istore K dX5_whoAloneFits_1 (by decide) (lv1 := [(4, .int (nI 0)), (0, .ref t), (1, .int (nI g)), (2, .ref nu), (3, .int (nI m))]) rfl ?_
  refine r_iconst K dX5_whoAloneFits_3 (nI 0) (by decide) ?_
  refine r_istore K dX5_whoAloneFits_4 (by decide) (lv1 := [(5, .int (nI 0)), (4, .int (nI 0)), (0, .ref t), (1, .int (nI g)), (2, .ref nu), (3, .int (nI m))]) rfl ?_
  have L6 : ∀ (fL6 : Nat) (k : Nat) (v : Int32) (q : Nat → Int32), (k ≤ nM r) → (v = wwF r g rw m k) → nM r - k < fL6 → V 6 [(5, .int (nI k)), (4, .int v), (0, .ref t), (1, .int (nI g)), (2, .ref nu), (3, .int (nI m))] [] [eO t 3 [.ref hn, .ref hm, .ref dd, .int sd], ydW Γ hn an r, ydW Γ hm am q, eI Γ nu 16 rw] := by
    intro fL6
    induction fL6 with
    | zero => intro k v q hk hv hf; exact absurd hf (Nat.not_lt_zero _)
    | succ fL6 ih_L6 =>
      intro k v q hk hv hfL6
      refine r_iload K dX5_whoAloneFits_6 0 rfl ?_
      refine r_aload_n K dX5_whoAloneFits_8 2 rfl ?_
      refine r_get K dX5_whoAloneFits_9 (kf := 0) 0 rfl rfl hinX5 (by decide) q69 rfl rfl ?_
      refine r_cVd K dX5_whoAloneFits_12 (c_X0_mournerCount l Γ hn an r (hI)) mX0_mournerCount q521 rfl (by decide) rfl rfl 4 rfl [1] [0, 2, 3] rfl rfl [eO t 3 [.ref hn, .ref hm, .ref dd, .int sd], ydW Γ hm am q, eI Γ nu 16 rw] rfl [eO t 3 [.ref hn, .ref hm, .ref dd, .int sd], ydW Γ hn an r, ydW Γ hm am q, eI Γ nu 16 rw] rfl rfl rfl [.int (nI k)] rfl (Nat.le_of_ble_eq_true rfl) ?_
      refine r_ic_geN K dX5_whoAloneFits_15 (by omega) (by omega) (fun c15 => ?_) (fun c15 => ?_)
      · obtain rfl : k = nM r := by omega
        refine r_iload K dX5_whoAloneFits_71 1 rfl ?_
        exact hR q dX5_whoAloneFits_73 (trivial) (e_ri (hv.symm)) (weq.rf)
      · refine r_aload_n K dX5_whoAloneFits_18 2 rfl ?_
        refine r_get K dX5_whoAloneFits_19 (kf := 1) 0 rfl rfl hinX5 (by decide) q70 rfl rfl ?_
        refine r_aload_n K dX5_whoAloneFits_22 2 rfl ?_
        refine r_get K dX5_whoAloneFits_23 (kf := 0) 0 rfl rfl hinX5 (by decide) q69 rfl rfl ?_
        refine r_cVn K dX5_whoAloneFits_26 (c_X0_become l Γ hm am q hn an r) mX0_become q413 rfl (by decide) rfl rfl 4 rfl [2, 1] [0, 3] rfl rfl [eO t 3 [.ref hn, .ref hm, .ref dd, .int sd], eI Γ nu 16 rw] rfl [eO t 3 [.ref hn, .ref hm, .ref dd, .int sd], ydW Γ hn an r, ydW Γ hm am r, eI Γ nu 16 rw] rfl rfl rfl [] rfl (Nat.le_of_ble_eq_true rfl) ?_
        refine r_aload_n K dX5_whoAloneFits_29 2 rfl ?_
        refine r_get K dX5_whoAloneFits_30 (kf := 1) 0 rfl rfl hinX5 (by decide) q70 rfl rfl ?_
        refine r_ws K (ws1 := [eO t 3 [.ref hn, .ref hm, .ref dd, .int sd], ydW Γ hn an r, ydX Γ hm am r (fun p => pl r p), eI Γ nu 16 rw]) (yd_yx [eO t 3 [.ref hn, .ref hm, .ref dd, .int sd], ydW Γ hn an r] [eI Γ nu 16 rw] r) ?_
        refine r_cVn K dX5_whoAloneFits_33 (c_X0_allLeave l Γ hm am r (fun p => pl r p)) mX0_allLeave q671 rfl (by decide) rfl rfl 4 rfl [2] [0, 1, 3] rfl rfl [eO t 3 [.ref hn, .ref hm, .ref dd, .int sd], ydW Γ hn an r, eI Γ nu 16 rw] rfl [eO t 3 [.ref hn, .ref hm, .ref dd, .int sd], ydW Γ hn an r, ydW Γ hm am (leaveS r), eI Γ nu 16 rw] rfl rfl rfl [] rfl (Nat.le_of_ble_eq_true rfl) ?_
        refine r_aload_n K dX5_whoAloneFits_36 2 rfl ?_
        refine r_get K dX5_whoAloneFits_37 (kf := 1) 0 rfl rfl hinX5 (by decide) q70 rfl rfl ?_
        refine r_iload K dX5_whoAloneFits_40 0 rfl ?_
        refine r_iload_n K dX5_whoAloneFits_42 3 rfl ?_
        refine r_cVn K dX5_whoAloneFits_43 (c_X0_place l Γ hm am (leaveS r) (nI k) (nI g) (Inv_leave (hI))) mX0_place q532 rfl (by decide) rfl rfl 4 rfl [2] [0, 1, 3] rfl rfl [eO t 3 [.ref hn, .ref hm, .ref dd, .int sd], ydW Γ hn an r, eI Γ nu 16 rw] rfl [eO t 3 [.ref hn, .ref hm, .ref dd, .int sd], ydW Γ hn an r, ydW Γ hm am (setM (leaveS r) 3 (nI k) (nI g)), eI Γ nu 16 rw] rfl rfl rfl [] rfl (Nat.le_of_ble_eq_true rfl) ?_
        refine r_ws K (ws1 := [eO t 3 [.ref hn, .ref hm, .ref dd, .int sd], ydW Γ hn an r, ydW Γ hm am (upd (leaveS r) (iM k 3) (nI g)), eI Γ nu 16 rw]) (by rw [setM_N (by rw [lv_nM]; omega) (by rw [lv_nM]; omega)]; exact weq.rf) ?_
        refine r_aload_n K dX5_whoAloneFits_46 2 rfl ?_
        refine r_iload_n K dX5_whoAloneFits_47 3 rfl ?_
        refine r_aload_n K dX5_whoAloneFits_48 4 rfl ?_
        refine r_iload_n K dX5_whoAloneFits_49 5 rfl ?_
        refine r_cV K dX5_whoAloneFits_50 (c_X5_fitsRow l Γ t hn hm dd sd an am r (upd (leaveS r) (iM k 3) (nI g)) g m nu rw (hI) (Inv_at (Inv_leave (hI)) (Or.inr ⟨g, by first | omega | (simp only [daysS_nM, daysS_nG, dayS_nM, dayS_nG, tellS_nM, tellS_nG, aloneTo_nM, aloneTo_nG, nM_M, nG_M, nM_G, nG_G, lv_nM, lv_nG, gnT_nM, gnT_nG] <;> omega), rfl⟩)) (by first | omega | (simp only [daysS_nM, daysS_nG, dayS_nM, dayS_nG, tellS_nM, tellS_nG, aloneTo_nM, aloneTo_nG, nM_M, nG_M, nM_G, nG_G, lv_nM, lv_nG, gnT_nM, gnT_nG] <;> omega)) (by first | assumption | omega)) mX5_fitsRow q672 rfl (by decide) rfl rfl 4 rfl [0, 1, 2, 3] [] rfl rfl [] rfl (fun u => [eO t 3 [.ref hn, .ref hm, .ref dd, .int sd], ydW Γ hn an r, ydW Γ hm am u, eI Γ nu 16 rw]) (fun _ => rfl) (fun _ => rfl) (fun _ => rfl) [] rfl (Nat.le_of_ble_eq_true rfl) (fun u1 hu2 => ?_)
        show V 53 _ [.int (bz (frL g rw m (upd (leaveS r) (iM k 3) (nI g)) 0))] [eO t 3 [.ref hn, .ref hm, .ref dd, .int sd], ydW Γ hn an r, ydW Γ hm am u1, eI Γ nu 16 rw]
        refine r_ifeqB K dX5_whoAloneFits_53 (fun c53 => ?_) (fun c53 => ?_)
        · refine r_iincN K dX5_whoAloneFits_65 (n := 1) 0 rfl rfl (by decide) (lv1 := [(5, .int (nI (k + 1))), (4, .int v), (0, .ref t), (1, .int (nI g)), (2, .ref nu), (3, .int (nI m))]) rfl ?_
          refine r_goto K dX5_whoAloneFits_68 ?_
          exact ih_L6 (k + 1) v u1 (by omega) (by rw [hv]; exact (wwF_n c53).symm) (by omega)
        · refine r_iload K dX5_whoAloneFits_56 1 rfl ?_
          refine r_iconst K dX5_whoAloneFits_58 (nI 1) (by decide) ?_
          refine r_iload K dX5_whoAloneFits_59 0 rfl ?_
          refine r_ishl K dX5_whoAloneFits_61 ?_
          refine r_ior K dX5_whoAloneFits_62 ?_
          refine r_istore K dX5_whoAloneFits_63 (by decide) (lv1 := [(4, .int (v ||| ((nI 1) <<< ((nI k) &&& 31)))), (5, .int (nI k)), (0, .ref t), (1, .int (nI g)), (2, .ref nu), (3, .int (nI m))]) rfl ?_
          refine r_iincN K dX5_whoAloneFits_65 (n := 1) 1 rfl rfl (by decide) (lv1 := [(5, .int (nI (k + 1))), (4, .int (v ||| ((nI 1) <<< ((nI k) &&& 31)))), (0, .ref t), (1, .int (nI g)), (2, .ref nu), (3, .int (nI m))]) rfl ?_
          refine r_goto K dX5_whoAloneFits_68 ?_
          exact ih_L6 (k + 1) (v ||| ((nI 1) <<< ((nI k) &&& 31))) u1 (by omega) (by rw [hv]; exact (wwF_t c53).symm) (by omega)
  exact L6 _ 0 (nI 0) q (Nat.zero_le _) (rfl) (Nat.lt_succ_self _)
set_option maxHeartbeats 1000000 in
set_option maxRecDepth 20000 in
theorem c_X5_kindsThatFit (l : Launch) (Γ : eG) (t : Nat) (hn : Nat) (hm : Nat) (dd : Nat) (sd : Int32) (an : Nat → Nat) (am : Nat → Nat) (r : Nat → Int32) (q : Nat → Int32) (p : Nat) (m : Nat) (g : Nat) (nu : Nat) (rw : Nat → Int32) (hI : Inv r) (hp : p < nM r) (hg : g < nG r) (hat : r (iM p 3) = nI g) (hm16 : m ≤ 16) : cE l Γ yX5_kindsThatFit cX5_kindsThatFit 6 (some .int) 4 [.ref t, .int (nI p), .ref nu, .int (nI m)] [eO t 3 [.ref hn, .ref hm, .ref dd, .int sd], ydW Γ hn an r, ydW Γ hm am q, eI Γ nu 16 rw] (S := Nat → Int32) (fun u => True) (fun u => (some (.int (wiF r p 0 g rw m 6)))) (fun u => [eO t 3 [.ref hn, .ref hm, .ref dd, .int sd], ydW Γ hn an r, ydW Γ hm am u, eI Γ nu 16 rw]) := by
  refine e_int [(0, .ref t), (1, .int (nI p)), (2, .ref nu), (3, .int (nI m))] (by decide +kernel) (Nat.le_of_ble_eq_true rfl) rfl (fun V K hR => ?_)
  have h5 := hI.g
  have h6 := hI.m
  refine r_iconst K dX5_kindsThatFit_0 (nI 0) (by decide) ?_
  refine r_istore K dX5_kindsThatFit_1 (by decide) (lv1 := [(4, .int (nI 0)), (0, .ref t), (1, .int (nI p)), (2, .ref nu), (3, .int (nI m))]) rfl ?_
  refine r_iconst K dX5_kindsThatFit_3 (nI 0) (by decide) ?_
  refine r_istore K dX5_kindsThatFit_4 (by decide) (lv1 := [(5, .int (nI 0)), (4, .int (nI 0)), (0, .ref t), (1, .int (nI p)), (2, .ref nu), (3, .int (nI m))]) rfl ?_
  have L6 : ∀ (fL6 : Nat) (k : Nat) (v : Int32) (q : Nat → Int32), (k ≤ 6) → (v = wiF r p 0 g rw m k) → 6 - k < fL6 → V 6 [(5, .int (nI k)), (4, .int v), (0, .ref t), (1, .int (nI p)), (2, .ref nu), (3, .int (nI m))] [] [eO t 3 [.ref hn, .ref hm, .ref dd, .int sd], ydW Γ hn an r, ydW Γ hm am q, eI Γ nu 16 rw] := by
    intro fL6
    induction fL6 with
    | zero => intro k v q hk hv hf; exact absurd hf (Nat.not_lt_zero _)
    | succ fL6 ih_L6 =>
      intro k v q hk hv hfL6
      refine r_iload K dX5_kindsThatFit_6 0 rfl ?_
      refine r_bipush K dX5_kindsThatFit_8 (nI 6) (by decide) ?_
      refine r_ic_geN K dX5_kindsThatFit_10 (by omega) (by omega) (fun c10 => ?_) (fun c10 => ?_)
      · obtain rfl : k = 6 := by omega
        refine r_iload K dX5_kindsThatFit_66 1 rfl ?_
        exact hR q dX5_kindsThatFit_68 (trivial) (e_ri (hv.symm)) (weq.rf)
      · refine r_aload_n K dX5_kindsThatFit_13 2 rfl ?_
        refine r_get K dX5_kindsThatFit_14 (kf := 1) 0 rfl rfl hinX5 (by decide) q70 rfl rfl ?_
        refine r_aload_n K dX5_kindsThatFit_17 2 rfl ?_
        refine r_get K dX5_kindsThatFit_18 (kf := 0) 0 rfl rfl hinX5 (by decide) q69 rfl rfl ?_
        refine r_cVn K dX5_kindsThatFit_21 (c_X0_become l Γ hm am q hn an r) mX0_become q413 rfl (by decide) rfl rfl 4 rfl [2, 1] [0, 3] rfl rfl [eO t 3 [.ref hn, .ref hm, .ref dd, .int sd], eI Γ nu 16 rw] rfl [eO t 3 [.ref hn, .ref hm, .ref dd, .int sd], ydW Γ hn an r, ydW Γ hm am r, eI Γ nu 16 rw] rfl rfl rfl [] rfl (Nat.le_of_ble_eq_true rfl) ?_
        refine r_aload_n K dX5_kindsThatFit_24 2 rfl ?_
        refine r_get K dX5_kindsThatFit_25 (kf := 1) 0 rfl rfl hinX5 (by decide) q70 rfl rfl ?_
        refine r_iload_n K dX5_kindsThatFit_28 3 rfl ?_
        refine r_iload K dX5_kindsThatFit_29 0 rfl ?_
        refine r_cVn K dX5_kindsThatFit_31 (c_X0_setKind l Γ hm am r (nI p) (nI k) (hI)) mX0_setKind q587 rfl (by decide) rfl rfl 4 rfl [2] [0, 1, 3] rfl rfl [eO t 3 [.ref hn, .ref hm, .ref dd, .int sd], ydW Γ hn an r, eI Γ nu 16 rw] rfl [eO t 3 [.ref hn, .ref hm, .ref dd, .int sd], ydW Γ hn an r, ydW Γ hm am (setM r 0 (nI p) (nI k)), eI Γ nu 16 rw] rfl rfl rfl [] rfl (Nat.le_of_ble_eq_true rfl) ?_
        refine r_ws K (ws1 := [eO t 3 [.ref hn, .ref hm, .ref dd, .int sd], ydW Γ hn an r, ydW Γ hm am (upd r (iM p 0) (nI k)), eI Γ nu 16 rw]) (by rw [setM_N (by omega) (by omega)]; exact weq.rf) ?_
        refine r_aload_n K dX5_kindsThatFit_34 2 rfl ?_
        refine r_aload_n K dX5_kindsThatFit_35 2 rfl ?_
        refine r_get K dX5_kindsThatFit_36 (kf := 0) 0 rfl rfl hinX5 (by decide) q69 rfl rfl ?_
        refine r_iload_n K dX5_kindsThatFit_39 3 rfl ?_
        refine r_cVd K dX5_kindsThatFit_40 (c_X0_placeOfN l Γ hn an r p (hI) (by first | omega | (simp only [daysS_nM, daysS_nG, dayS_nM, dayS_nG, tellS_nM, tellS_nG, aloneTo_nM, aloneTo_nG, nM_M, nG_M, nM_G, nG_G, lv_nM, lv_nG, gnT_nM, gnT_nG] <;> omega))) mX0_placeOf q555 rfl (by decide) rfl rfl 4 rfl [1] [0, 2, 3] rfl rfl [eO t 3 [.ref hn, .ref hm, .ref dd, .int sd], ydW Γ hm am (upd r (iM p 0) (nI k)), eI Γ nu 16 rw] rfl [eO t 3 [.ref hn, .ref hm, .ref dd, .int sd], ydW Γ hn an r, ydW Γ hm am (upd r (iM p 0) (nI k)), eI Γ nu 16 rw] rfl rfl rfl [.ref t] rfl (Nat.le_of_ble_eq_true rfl) ?_
        refine r_top (y := nI g) (hat) ?_
        refine r_aload_n K dX5_kindsThatFit_43 4 rfl ?_
        refine r_iload_n K dX5_kindsThatFit_44 5 rfl ?_
        refine r_cV K dX5_kindsThatFit_45 (c_X5_fitsRow l Γ t hn hm dd sd an am r (upd r (iM p 0) (nI k)) g m nu rw (hI) (Inv_onion (hI) (by first | decide | omega)) (by first | omega | (simp only [daysS_nM, daysS_nG, dayS_nM, dayS_nG, tellS_nM, tellS_nG, aloneTo_nM, aloneTo_nG, nM_M, nG_M, nM_G, nG_G, lv_nM, lv_nG, gnT_nM, gnT_nG] <;> omega)) (by first | assumption | omega)) mX5_fitsRow q672 rfl (by decide) rfl rfl 4 rfl [0, 1, 2, 3] [] rfl rfl [] rfl (fun u => [eO t 3 [.ref hn, .ref hm, .ref dd, .int sd], ydW Γ hn an r, ydW Γ hm am u, eI Γ nu 16 rw]) (fun _ => rfl) (fun _ => rfl) (fun _ => rfl) [] rfl (Nat.le_of_ble_eq_true rfl) (fun u1 hu2 => ?_)
        show V 48 _ [.int (bz (frL g rw m (upd r (iM p 0) (nI k)) 0))] [eO t 3 [.ref hn, .ref hm, .ref dd, .int sd], ydW Γ hn an r, ydW Γ hm am u1, eI Γ nu 16 rw]
        refine r_ifeqB K dX5_kindsThatFit_48 (fun c48 => ?_) (fun c48 => ?_)
        · refine r_iincN K dX5_kindsThatFit_60 (n := 1) 0 rfl rfl (by decide) (lv1 := [(5, .int (nI (k + 1))), (4, .int v), (0, .ref t), (1, .int (nI p)), (2, .ref nu), (3, .int (nI m))]) rfl ?_
          refine r_goto K dX5_kindsThatFit_63 ?_
          exact ih_L6 (k + 1) v u1 (by omega) (by rw [hv]; exact (wiF_n c48).symm) (by omega)
        · refine r_iload K dX5_kindsThatFit_51 1 rfl ?_
          refine r_iconst K dX5_kindsThatFit_53 (nI 1) (by decide) ?_
          refine r_iload K dX5_kindsThatFit_54 0 rfl ?_
          refine r_ishl K dX5_kindsThatFit_56 ?_
          refine r_ior K dX5_kindsThatFit_57 ?_
          refine r_istore K dX5_kindsThatFit_58 (by decide) (lv1 := [(4, .int (v ||| ((nI 1) <<< ((nI k) &&& 31)))), (5, .int (nI k)), (0, .ref t), (1, .int (nI p)), (2, .ref nu), (3, .int (nI m))]) rfl ?_
          refine r_iincN K dX5_kindsThatFit_60 (n := 1) 1 rfl rfl (by decide) (lv1 := [(5, .int (nI (k + 1))), (4, .int (v ||| ((nI 1) <<< ((nI k) &&& 31)))), (0, .ref t), (1, .int (nI p)), (2, .ref nu), (3, .int (nI m))]) rfl ?_
          refine r_goto K dX5_kindsThatFit_63 ?_
          exact ih_L6 (k + 1) (v ||| ((nI 1) <<< ((nI k) &&& 31))) u1 (by omega) (by rw [hv]; exact (wiF_t c48).symm) (by omega)
  exact L6 _ 0 (nI 0) q (Nat.zero_le _) (rfl) (Nat.lt_succ_self _)
set_option maxHeartbeats 1000000 in
set_option maxRecDepth 20000 in
theorem c_X5_figuresThatFit (l : Launch) (Γ : eG) (t : Nat) (hn : Nat) (hm : Nat) (dd : Nat) (sd : Int32) (an : Nat → Nat) (am : Nat → Nat) (r : Nat → Int32) (q : Nat → Int32) (p : Nat) (m : Nat) (g : Nat) (nu : Nat) (rw : Nat → Int32) (hI : Inv r) (hp : p < nM r) (hg : g < nG r) (hat : r (iM p 3) = nI g) (hm16 : m ≤ 16) : cE l Γ yX5_figuresThatFit cX5_figuresThatFit 6 (some .int) 4 [.ref t, .int (nI p), .ref nu, .int (nI m)] [eO t 3 [.ref hn, .ref hm, .ref dd, .int sd], ydW Γ hn an r, ydW Γ hm am q, eI Γ nu 16 rw] (S := Nat → Int32) (fun u => True) (fun u => (some (.int (wiF r p 1 g rw m 10)))) (fun u => [eO t 3 [.ref hn, .ref hm, .ref dd, .int sd], ydW Γ hn an r, ydW Γ hm am u, eI Γ nu 16 rw]) := by
  refine e_int [(0, .ref t), (1, .int (nI p)), (2, .ref nu), (3, .int (nI m))] (by decide +kernel) (Nat.le_of_ble_eq_true rfl) rfl (fun V K hR => ?_)
  have h5 := hI.g
  have h6 := hI.m
  refine r_iconst K dX5_figuresThatFit_0 (nI 0) (by decide) ?_
  refine r_istore K dX5_figuresThatFit_1 (by decide) (lv1 := [(4, .int (nI 0)), (0, .ref t), (1, .int (nI p)), (2, .ref nu), (3, .int (nI m))]) rfl ?_
  refine r_iconst K dX5_figuresThatFit_3 (nI 0) (by decide) ?_
  refine r_istore K dX5_figuresThatFit_4 (by decide) (lv1 := [(5, .int (nI 0)), (4, .int (nI 0)), (0, .ref t), (1, .int (nI p)), (2, .ref nu), (3, .int (nI m))]) rfl ?_
  have L6 : ∀ (fL6 : Nat) (k : Nat) (v : Int32) (q : Nat → Int32), (k ≤ 10) → (v = wiF r p 1 g rw m k) → 10 - k < fL6 → V 6 [(5, .int (nI k)), (4, .int v), (0, .ref t), (1, .int (nI p)), (2, .ref nu), (3, .int (nI m))] [] [eO t 3 [.ref hn, .ref hm, .ref dd, .int sd], ydW Γ hn an r, ydW Γ hm am q, eI Γ nu 16 rw] := by
    intro fL6
    induction fL6 with
    | zero => intro k v q hk hv hf; exact absurd hf (Nat.not_lt_zero _)
    | succ fL6 ih_L6 =>
      intro k v q hk hv hfL6
      refine r_iload K dX5_figuresThatFit_6 0 rfl ?_
      refine r_bipush K dX5_figuresThatFit_8 (nI 9) (by decide) ?_
      refine r_ic_gtN K dX5_figuresThatFit_10 (by omega) (by omega) (fun c10 => ?_) (fun c10 => ?_)
      · obtain rfl : k = 10 := by omega
        refine r_iload K dX5_figuresThatFit_66 1 rfl ?_
        exact hR q dX5_figuresThatFit_68 (trivial) (e_ri (hv.symm)) (weq.rf)
      · refine r_aload_n K dX5_figuresThatFit_13 2 rfl ?_
        refine r_get K dX5_figuresThatFit_14 (kf := 1) 0 rfl rfl hinX5 (by decide) q70 rfl rfl ?_
        refine r_aload_n K dX5_figuresThatFit_17 2 rfl ?_
        refine r_get K dX5_figuresThatFit_18 (kf := 0) 0 rfl rfl hinX5 (by decide) q69 rfl rfl ?_
        refine r_cVn K dX5_figuresThatFit_21 (c_X0_become l Γ hm am q hn an r) mX0_become q413 rfl (by decide) rfl rfl 4 rfl [2, 1] [0, 3] rfl rfl [eO t 3 [.ref hn, .ref hm, .ref dd, .int sd], eI Γ nu 16 rw] rfl [eO t 3 [.ref hn, .ref hm, .ref dd, .int sd], ydW Γ hn an r, ydW Γ hm am r, eI Γ nu 16 rw] rfl rfl rfl [] rfl (Nat.le_of_ble_eq_true rfl) ?_
        refine r_aload_n K dX5_figuresThatFit_24 2 rfl ?_
        refine r_get K dX5_figuresThatFit_25 (kf := 1) 0 rfl rfl hinX5 (by decide) q70 rfl rfl ?_
        refine r_iload_n K dX5_figuresThatFit_28 3 rfl ?_
        refine r_iload K dX5_figuresThatFit_29 0 rfl ?_
        refine r_cVn K dX5_figuresThatFit_31 (c_X0_setFigure l Γ hm am r (nI p) (nI k) (hI)) mX0_setFigure q688 rfl (by decide) rfl rfl 4 rfl [2] [0, 1, 3] rfl rfl [eO t 3 [.ref hn, .ref hm, .ref dd, .int sd], ydW Γ hn an r, eI Γ nu 16 rw] rfl [eO t 3 [.ref hn, .ref hm, .ref dd, .int sd], ydW Γ hn an r, ydW Γ hm am (setM r 1 (nI p) (nI k)), eI Γ nu 16 rw] rfl rfl rfl [] rfl (Nat.le_of_ble_eq_true rfl) ?_
        refine r_ws K (ws1 := [eO t 3 [.ref hn, .ref hm, .ref dd, .int sd], ydW Γ hn an r, ydW Γ hm am (upd r (iM p 1) (nI k)), eI Γ nu 16 rw]) (by rw [setM_N (by omega) (by omega)]; exact weq.rf) ?_
        refine r_aload_n K dX5_figuresThatFit_34 2 rfl ?_
        refine r_aload_n K dX5_figuresThatFit_35 2 rfl ?_
        refine r_get K dX5_figuresThatFit_36 (kf := 0) 0 rfl rfl hinX5 (by decide) q69 rfl rfl ?_
        refine r_iload_n K dX5_figuresThatFit_39 3 rfl ?_
        refine r_cVd K dX5_figuresThatFit_40 (c_X0_placeOfN l Γ hn an r p (hI) (by first | omega | (simp only [daysS_nM, daysS_nG, dayS_nM, dayS_nG, tellS_nM, tellS_nG, aloneTo_nM, aloneTo_nG, nM_M, nG_M, nM_G, nG_G, lv_nM, lv_nG, gnT_nM, gnT_nG] <;> omega))) mX0_placeOf q555 rfl (by decide) rfl rfl 4 rfl [1] [0, 2, 3] rfl rfl [eO t 3 [.ref hn, .ref hm, .ref dd, .int sd], ydW Γ hm am (upd r (iM p 1) (nI k)), eI Γ nu 16 rw] rfl [eO t 3 [.ref hn, .ref hm, .ref dd, .int sd], ydW Γ hn an r, ydW Γ hm am (upd r (iM p 1) (nI k)), eI Γ nu 16 rw] rfl rfl rfl [.ref t] rfl (Nat.le_of_ble_eq_true rfl) ?_
        refine r_top (y := nI g) (hat) ?_
        refine r_aload_n K dX5_figuresThatFit_43 4 rfl ?_
        refine r_iload_n K dX5_figuresThatFit_44 5 rfl ?_
        refine r_cV K dX5_figuresThatFit_45 (c_X5_fitsRow l Γ t hn hm dd sd an am r (upd r (iM p 1) (nI k)) g m nu rw (hI) (Inv_fig (hI) (by omega)) (by first | omega | (simp only [daysS_nM, daysS_nG, dayS_nM, dayS_nG, tellS_nM, tellS_nG, aloneTo_nM, aloneTo_nG, nM_M, nG_M, nM_G, nG_G, lv_nM, lv_nG, gnT_nM, gnT_nG] <;> omega)) (by first | assumption | omega)) mX5_fitsRow q672 rfl (by decide) rfl rfl 4 rfl [0, 1, 2, 3] [] rfl rfl [] rfl (fun u => [eO t 3 [.ref hn, .ref hm, .ref dd, .int sd], ydW Γ hn an r, ydW Γ hm am u, eI Γ nu 16 rw]) (fun _ => rfl) (fun _ => rfl) (fun _ => rfl) [] rfl (Nat.le_of_ble_eq_true rfl) (fun u1 hu2 => ?_)
        show V 48 _ [.int (bz (frL g rw m (upd r (iM p 1) (nI k)) 0))] [eO t 3 [.ref hn, .ref hm, .ref dd, .int sd], ydW Γ hn an r, ydW Γ hm am u1, eI Γ nu 16 rw]
        refine r_ifeqB K dX5_figuresThatFit_48 (fun c48 => ?_) (fun c48 => ?_)
        · refine r_iincN K dX5_figuresThatFit_60 (n := 1) 0 rfl rfl (by decide) (lv1 := [(5, .int (nI (k + 1))), (4, .int v), (0, .ref t), (1, .int (nI p)), (2, .ref nu), (3, .int (nI m))]) rfl ?_
          refine r_goto K dX5_figuresThatFit_63 ?_
          exact ih_L6 (k + 1) v u1 (by omega) (by rw [hv]; exact (wiF_n c48).symm) (by omega)
        · refine r_iload K dX5_figuresThatFit_51 1 rfl ?_
          refine r_iconst K dX5_figuresThatFit_53 (nI 1) (by decide) ?_
          refine r_iload K dX5_figuresThatFit_54 0 rfl ?_
          refine r_ishl K dX5_figuresThatFit_56 ?_
          refine r_ior K dX5_figuresThatFit_57 ?_
          refine r_istore K dX5_figuresThatFit_58 (by decide) (lv1 := [(4, .int (v ||| ((nI 1) <<< ((nI k) &&& 31)))), (5, .int (nI k)), (0, .ref t), (1, .int (nI p)), (2, .ref nu), (3, .int (nI m))]) rfl ?_
          refine r_iincN K dX5_figuresThatFit_60 (n := 1) 1 rfl rfl (by decide) (lv1 := [(5, .int (nI (k + 1))), (4, .int (v ||| ((nI 1) <<< ((nI k) &&& 31)))), (0, .ref t), (1, .int (nI p)), (2, .ref nu), (3, .int (nI m))]) rfl ?_
          refine r_goto K dX5_figuresThatFit_63 ?_
          exact ih_L6 (k + 1) (v ||| ((nI 1) <<< ((nI k) &&& 31))) u1 (by omega) (by rw [hv]; exact (wiF_t c48).symm) (by omega)
  exact L6 _ 0 (nI 0) q (Nat.zero_le _) (rfl) (Nat.lt_succ_self _)
set_option maxHeartbeats 1000000 in
set_option maxRecDepth 20000 in
theorem c_X5_drawBelow (l : Launch) (Γ : eG) (t : Nat) (hn : Nat) (hm : Nat) (dd : Nat) (sd : Int32) (m : Nat) (hm0 : 0 < m) (hm31 : m < 2 ^ 31) : cD l Γ yX5_drawBelow cX5_drawBelow 2 (some .int) 1 [.ref t, .int (nI m)] [eO t 3 [.ref hn, .ref hm, .ref dd, .int sd]] (some (.int (dvS (sdN sd) m))) [eO t 3 [.ref hn, .ref hm, .ref dd, .int (sdN sd)]] := by
  refine e_int [(0, .ref t), (1, .int (nI m))] (by decide +kernel) (Nat.le_of_ble_eq_true rfl) rfl (fun V K hR => ?_)
  refine r_aload_n K dX5_drawBelow_0 0 rfl ?_
  refine r_aload_n K dX5_drawBelow_1 0 rfl ?_
  refine r_get K dX5_drawBelow_2 (kf := 3) 0 rfl rfl hinX5 (by decide) q72 rfl rfl ?_
  refine r_ldc K dX5_drawBelow_5 q721 ?_
  refine r_imul K dX5_drawBelow_7 ?_
  refine r_ldc K dX5_drawBelow_8 q722 ?_
  refine r_iadd K dX5_drawBelow_10 ?_
  refine r_top (y := sdN sd) (rfl) ?_
  refine r_put K dX5_drawBelow_11 (kf := 3) (ty := .int) (ws1 := [eO t 3 [.ref hn, .ref hm, .ref dd, .int (sdN sd)]]) 0 rfl rfl hinX5 tyX5 tyX5_ok nmX5 (by decide) q72 rfl (by decide +kernel) rfl rfl (Nat.le_of_ble_eq_true rfl) rfl ?_
  refine r_aload_n K dX5_drawBelow_14 0 rfl ?_
  refine r_get K dX5_drawBelow_15 (kf := 3) 0 rfl rfl hinX5 (by decide) q72 rfl rfl ?_
  refine r_ldc K dX5_drawBelow_18 q723 ?_
  refine r_iand K dX5_drawBelow_20 ?_
  refine r_sipush K dX5_drawBelow_21 (nI 256) (by decide) ?_
  refine r_idiv K dX5_drawBelow_24 (by decide) ?_
  refine r_iconst K dX5_drawBelow_25 (nI 1) (by decide) ?_
  refine r_iload_n K dX5_drawBelow_26 1 rfl ?_
  refine r_mmax K dX5_drawBelow_27 q724 q193 q194 (Nat.le_of_ble_eq_true rfl) (by decide) ?_
  refine r_top (y := nI m) (mx1 hm0 hm31) ?_
  refine r_irem K dX5_drawBelow_30 (nI_ne0 hm0 hm31) ?_
  exact hR () dX5_drawBelow_31 (trivial) (e_ri (rfl)) (weq.rf)
set_option maxHeartbeats 1000000 in
set_option maxRecDepth 20000 in
theorem c_X5_drawChurchyard (l : Launch) (Γ : eG) (t : Nat) (hn : Nat) (hm : Nat) (dd : Nat) (sd : Int32) (an : Nat → Nat) (am : Nat → Nat) (r : Nat → Int32) (q : Nat → Int32) (hI : Inv r) (h0 : 0 < nG r) : cD l Γ yX5_drawChurchyard cX5_drawChurchyard 2 (none) 2 [.ref t] [eO t 3 [.ref hn, .ref hm, .ref dd, .int sd], ydW Γ hn an r, ydW Γ hm am q] none [eO t 3 [.ref hn, .ref hm, .ref dd, .int ((dcF r sd (nM r)).2)], ydW Γ hn an r, ydW Γ hm am ((dcF r sd (nM r)).1)] := by
  refine e_void [(0, .ref t)] (by decide +kernel) (Nat.le_of_ble_eq_true rfl) rfl (fun V K hR => ?_)
  have h5 := hI.g
  have h6 := hI.m
  refine r_aload_n K dX5_drawChurchyard_0 0 rfl ?_
  refine r_get K dX5_drawChurchyard_1 (kf := 1) 0 rfl rfl hinX5 (by decide) q70 rfl rfl ?_
  refine r_aload_n K dX5_drawChurchyard_4 0 rfl ?_
  refine r_get K dX5_drawChurchyard_5 (kf := 0) 0 rfl rfl hinX5 (by decide) q69 rfl rfl ?_
  refine r_cVn K dX5_drawChurchyard_8 (c_X0_become l Γ hm am q hn an r) mX0_become q413 rfl (by decide) rfl rfl 3 rfl [2, 1] [0] rfl rfl [eO t 3 [.ref hn, .ref hm, .ref dd, .int sd]] rfl [eO t 3 [.ref hn, .ref hm, .ref dd, .int sd], ydW Γ hn an r, ydW Γ hm am r] rfl rfl rfl [] rfl (Nat.le_of_ble_eq_true rfl) ?_
  refine r_iconst K dX5_drawChurchyard_11 (nI 0) (by decide) ?_
  refine r_istore_n K dX5_drawChurchyard_12 rfl (by decide) (lv1 := [(1, .int (nI 0)), (0, .ref t)]) rfl ?_
  have L13 : ∀ (fL13 : Nat) (k : Nat), (k ≤ nM r) → nM r - k < fL13 → V 13 [(1, .int (nI k)), (0, .ref t)] [] [eO t 3 [.ref hn, .ref hm, .ref dd, .int ((dcF r sd k).2)], ydW Γ hn an r, ydW Γ hm am ((dcF r sd k).1)] := by
    intro fL13
    induction fL13 with
    | zero => intro k hk hf; exact absurd hf (Nat.not_lt_zero _)
    | succ fL13 ih_L13 =>
      intro k hk hfL13
      refine r_iload_n K dX5_drawChurchyard_13 0 rfl ?_
      refine r_aload_n K dX5_drawChurchyard_14 1 rfl ?_
      refine r_get K dX5_drawChurchyard_15 (kf := 0) 0 rfl rfl hinX5 (by decide) q69 rfl rfl ?_
      refine r_cVd K dX5_drawChurchyard_18 (c_X0_mournerCount l Γ hn an r (hI)) mX0_mournerCount q521 rfl (by decide) rfl rfl 3 rfl [1] [0, 2] rfl rfl [eO t 3 [.ref hn, .ref hm, .ref dd, .int ((dcF r sd k).2)], ydW Γ hm am ((dcF r sd k).1)] rfl [eO t 3 [.ref hn, .ref hm, .ref dd, .int ((dcF r sd k).2)], ydW Γ hn an r, ydW Γ hm am ((dcF r sd k).1)] rfl rfl rfl [.int (nI k)] rfl (Nat.le_of_ble_eq_true rfl) ?_
      refine r_ic_geN K dX5_drawChurchyard_21 (by omega) (by omega) (fun c21 => ?_) (fun c21 => ?_)
      · obtain rfl : k = nM r := by omega
        exact hR () dX5_drawChurchyard_63 (trivial) rfl (weq.rf)
      · refine r_aload_n K dX5_drawChurchyard_24 1 rfl ?_
        refine r_get K dX5_drawChurchyard_25 (kf := 1) 0 rfl rfl hinX5 (by decide) q70 rfl rfl ?_
        refine r_iload_n K dX5_drawChurchyard_28 0 rfl ?_
        refine r_aload_n K dX5_drawChurchyard_29 1 rfl ?_
        refine r_aload_n K dX5_drawChurchyard_30 1 rfl ?_
        refine r_get K dX5_drawChurchyard_31 (kf := 0) 0 rfl rfl hinX5 (by decide) q69 rfl rfl ?_
        refine r_cVd K dX5_drawChurchyard_34 (c_X0_graveCount l Γ hn an r (hI)) mX0_graveCount q449 rfl (by decide) rfl rfl 3 rfl [1] [0, 2] rfl rfl [eO t 3 [.ref hn, .ref hm, .ref dd, .int ((dcF r sd k).2)], ydW Γ hm am ((dcF r sd k).1)] rfl [eO t 3 [.ref hn, .ref hm, .ref dd, .int ((dcF r sd k).2)], ydW Γ hn an r, ydW Γ hm am ((dcF r sd k).1)] rfl rfl rfl [.ref t, .int (nI k), .ref hm] rfl (Nat.le_of_ble_eq_true rfl) ?_
        refine r_cVd K dX5_drawChurchyard_37 (c_X5_drawBelow l Γ t hn hm dd ((dcF r sd k).2) (nG r) (by first | omega | (simp only [daysS_nM, daysS_nG, dayS_nM, dayS_nG, tellS_nM, tellS_nG, aloneTo_nM, aloneTo_nG, nM_M, nG_M, nM_G, nG_G, lv_nM, lv_nG, gnT_nM, gnT_nG] <;> omega)) (by first | omega | (simp only [daysS_nM, daysS_nG, dayS_nM, dayS_nG, tellS_nM, tellS_nG, aloneTo_nM, aloneTo_nG, nM_M, nG_M, nM_G, nG_G, lv_nM, lv_nG, gnT_nM, gnT_nG] <;> omega))) mX5_drawBelow q717 rfl (by decide) rfl rfl 3 rfl [0] [1, 2] rfl rfl [ydW Γ hn an r, ydW Γ hm am ((dcF r sd k).1)] rfl [eO t 3 [.ref hn, .ref hm, .ref dd, .int (sdN ((dcF r sd k).2))], ydW Γ hn an r, ydW Γ hm am ((dcF r sd k).1)] rfl rfl rfl [.int (nI k), .ref hm] rfl (Nat.le_of_ble_eq_true rfl) ?_
        refine r_cVn K dX5_drawChurchyard_40 (c_X0_place l Γ hm am ((dcF r sd k).1) (nI k) (dvS (sdN ((dcF r sd k).2)) (nG r)) (Inv_dcF hI h0 k (by omega))) mX0_place q532 rfl (by decide) rfl rfl 3 rfl [2] [0, 1] rfl rfl [eO t 3 [.ref hn, .ref hm, .ref dd, .int (sdN ((dcF r sd k).2))], ydW Γ hn an r] rfl [eO t 3 [.ref hn, .ref hm, .ref dd, .int (sdN ((dcF r sd k).2))], ydW Γ hn an r, ydW Γ hm am (setM ((dcF r sd k).1) 3 (nI k) (dvS (sdN ((dcF r sd k).2)) (nG r)))] rfl rfl rfl [] rfl (Nat.le_of_ble_eq_true rfl) ?_
        refine r_ws K (ws1 := [eO t 3 [.ref hn, .ref hm, .ref dd, .int (sdN ((dcF r sd k).2))], ydW Γ hn an r, ydW Γ hm am (upd (dcF r sd k).1 (iM k 3) (dvS (sdN (dcF r sd k).2) (nG r)))]) (by rw [setM_N (by rw [dcF_nM]; omega) (by rw [dcF_nM]; omega)]; exact weq.rf) ?_
        refine r_aload_n K dX5_drawChurchyard_43 1 rfl ?_
        refine r_get K dX5_drawChurchyard_44 (kf := 1) 0 rfl rfl hinX5 (by decide) q70 rfl rfl ?_
        refine r_iload_n K dX5_drawChurchyard_47 0 rfl ?_
        refine r_aload_n K dX5_drawChurchyard_48 1 rfl ?_
        refine r_bipush K dX5_drawChurchyard_49 (nI 100) (by decide) ?_
        refine r_cVd K dX5_drawChurchyard_51 (c_X5_drawBelow l Γ t hn hm dd (sdN ((dcF r sd k).2)) 100 (by first | assumption | omega) (by first | assumption | omega)) mX5_drawBelow q717 rfl (by decide) rfl rfl 3 rfl [0] [1, 2] rfl rfl [ydW Γ hn an r, ydW Γ hm am (upd (dcF r sd k).1 (iM k 3) (dvS (sdN (dcF r sd k).2) (nG r)))] rfl [eO t 3 [.ref hn, .ref hm, .ref dd, .int (sdN (sdN ((dcF r sd k).2)))], ydW Γ hn an r, ydW Γ hm am (upd (dcF r sd k).1 (iM k 3) (dvS (sdN (dcF r sd k).2) (nG r)))] rfl rfl rfl [.int (nI k), .ref hm] rfl (Nat.le_of_ble_eq_true rfl) ?_
        refine r_cVn K dX5_drawChurchyard_54 (c_X0_setGrief l Γ hm am (upd (dcF r sd k).1 (iM k 3) (dvS (sdN (dcF r sd k).2) (nG r))) (nI k) (dvS (sdN (sdN ((dcF r sd k).2))) 100) (by
            obtain ⟨j, hj, e⟩ := dvS_ok (sdN (dcF r sd k).2) h0 (by omega)
            rw [e]; exact Inv_at (Inv_dcF hI h0 k (by omega)) (Or.inr ⟨j, by rw [dcF_nG]; exact hj, rfl⟩))) mX0_setGrief q725 rfl (by decide) rfl rfl 3 rfl [2] [0, 1] rfl rfl [eO t 3 [.ref hn, .ref hm, .ref dd, .int (sdN (sdN ((dcF r sd k).2)))], ydW Γ hn an r] rfl [eO t 3 [.ref hn, .ref hm, .ref dd, .int (sdN (sdN ((dcF r sd k).2)))], ydW Γ hn an r, ydW Γ hm am (setM (upd (dcF r sd k).1 (iM k 3) (dvS (sdN (dcF r sd k).2) (nG r))) 2 (nI k) (dvS (sdN (sdN ((dcF r sd k).2))) 100))] rfl rfl rfl [] rfl (Nat.le_of_ble_eq_true rfl) ?_
        refine r_ws K (ws1 := [eO t 3 [.ref hn, .ref hm, .ref dd, .int (sdN (sdN ((dcF r sd k).2)))], ydW Γ hn an r, ydW Γ hm am (upd (upd (dcF r sd k).1 (iM k 3) (dvS (sdN (dcF r sd k).2) (nG r))) (iM k 2) (dvS (sdN (sdN (dcF r sd k).2)) 100))]) (by rw [setM_N (by rw [nM_M, dcF_nM]; omega) (by rw [nM_M, dcF_nM]; omega)]; exact weq.rf) ?_
        refine r_iincN K dX5_drawChurchyard_57 (n := 1) 0 rfl rfl (by decide) (lv1 := [(1, .int (nI (k + 1))), (0, .ref t)]) rfl ?_
        refine r_goto K dX5_drawChurchyard_60 ?_
        refine r_ws K (ws1 := [eO t 3 [.ref hn, .ref hm, .ref dd, .int ((dcF r sd (k + 1)).2)], ydW Γ hn an r, ydW Γ hm am ((dcF r sd (k + 1)).1)]) (by rw [dcF_s]; exact weq.rf) ?_
        exact ih_L13 (k + 1) (by omega) (by omega)
  refine r_ws K (ws1 := [eO t 3 [.ref hn, .ref hm, .ref dd, .int ((dcF r sd 0).2)], ydW Γ hn an r, ydW Γ hm am ((dcF r sd 0).1)]) (weq.rf) ?_
  exact L13 _ 0 (Nat.zero_le _) (Nat.lt_succ_self _)
set_option maxHeartbeats 1000000 in
set_option maxRecDepth 20000 in
theorem c_X5_payByLot (l : Launch) (Γ : eG) (t : Nat) (hn : Nat) (hm : Nat) (dd : Nat) (sd : Int32) (an : Nat → Nat) (am : Nat → Nat) (r : Nat → Int32) (q : Nat → Int32) (n : Nat) (z : Int32) (hI : Inv r) (h0 : 0 < nG r) (hn31 : n < 2 ^ 31) : cE l Γ yX5_payByLot cX5_payByLot 5 (some .int) 4 [.ref t, .int (nI n), .int z] [eO t 3 [.ref hn, .ref hm, .ref dd, .int sd], ydW Γ hn an r, ydW Γ hm am q] (S := Nat → Int32) (fun u => True) (fun u => (some (.int ((ltF r true z n).1)))) (fun u => [eO t 3 [.ref hn, .ref hm, .ref dd, .int ((ltF r true z n).2)], ydW Γ hn an r, ydW Γ hm am u]) := by
  refine e_int [(0, .ref t), (1, .int (nI n)), (2, .int z)] (by decide +kernel) (Nat.le_of_ble_eq_true rfl) rfl (fun V K hR => ?_)
  have h5 := hI.g
  have h6 := hI.m
  refine r_aload_n K dX5_payByLot_0 0 rfl ?_
  refine r_iload_n K dX5_payByLot_1 2 rfl ?_
  refine r_put K dX5_payByLot_2 (kf := 3) (ty := .int) (ws1 := [eO t 3 [.ref hn, .ref hm, .ref dd, .int z], ydW Γ hn an r, ydW Γ hm am q]) 0 rfl rfl hinX5 tyX5 tyX5_ok nmX5 (by decide) q72 rfl (by decide +kernel) rfl rfl (Nat.le_of_ble_eq_true rfl) rfl ?_
  refine r_iconst K dX5_payByLot_5 (nI 0) (by decide) ?_
  refine r_istore_n K dX5_payByLot_6 rfl (by decide) (lv1 := [(3, .int (nI 0)), (0, .ref t), (1, .int (nI n)), (2, .int z)]) rfl ?_
  refine r_iconst K dX5_payByLot_7 (nI 0) (by decide) ?_
  refine r_istore K dX5_payByLot_8 (by decide) (lv1 := [(4, .int (nI 0)), (3, .int (nI 0)), (0, .ref t), (1, .int (nI n)), (2, .int z)]) rfl ?_
  have L10 : ∀ (fL10 : Nat) (i : Nat) (v : Int32) (q : Nat → Int32), (i ≤ n) → (v = (ltF r true z i).1) → n - i < fL10 → V 10 [(4, .int (nI i)), (3, .int v), (0, .ref t), (1, .int (nI n)), (2, .int z)] [] [eO t 3 [.ref hn, .ref hm, .ref dd, .int ((ltF r true z i).2)], ydW Γ hn an r, ydW Γ hm am q] := by
    intro fL10
    induction fL10 with
    | zero => intro i v q hi hv hf; exact absurd hf (Nat.not_lt_zero _)
    | succ fL10 ih_L10 =>
      intro i v q hi hv hfL10
      refine r_iload K dX5_payByLot_10 0 rfl ?_
      refine r_iload_n K dX5_payByLot_12 3 rfl ?_
      refine r_ic_geN K dX5_payByLot_13 (by omega) (by omega) (fun c13 => ?_) (fun c13 => ?_)
      · obtain rfl : n = i := by omega
        refine r_iload_n K dX5_payByLot_45 1 rfl ?_
        exact hR q dX5_payByLot_46 (trivial) (e_ri (hv.symm)) (weq.rf)
      · refine r_aload_n K dX5_payByLot_16 2 rfl ?_
        refine r_cVn K dX5_payByLot_17 (c_X5_drawChurchyard l Γ t hn hm dd ((ltF r true z i).2) an am r q (hI) (by first | omega | (simp only [daysS_nM, daysS_nG, dayS_nM, dayS_nG, tellS_nM, tellS_nG, aloneTo_nM, aloneTo_nG, nM_M, nG_M, nM_G, nG_G, lv_nM, lv_nG, gnT_nM, gnT_nG] <;> omega))) mX5_drawChurchyard q713 rfl (by decide) rfl rfl 3 rfl [0, 1, 2] [] rfl rfl [] rfl [eO t 3 [.ref hn, .ref hm, .ref dd, .int ((dcF r ((ltF r true z i).2) (nM r)).2)], ydW Γ hn an r, ydW Γ hm am ((dcF r ((ltF r true z i).2) (nM r)).1)] rfl rfl rfl [] rfl (Nat.le_of_ble_eq_true rfl) ?_
        refine r_aload_n K dX5_payByLot_20 2 rfl ?_
        refine r_get K dX5_payByLot_21 (kf := 1) 0 rfl rfl hinX5 (by decide) q70 rfl rfl ?_
        refine r_bipush K dX5_payByLot_24 (nI 10) (by decide) ?_
        refine r_cVn K dX5_payByLot_26 (c_X0_passDays l Γ hm am ((dcF r ((ltF r true z i).2) (nM r)).1) 10 (Inv_dcF hI h0 _ (Nat.le_refl _)) (by decide)) mX0_passDays q414 rfl (by decide) rfl rfl 3 rfl [2] [0, 1] rfl rfl [eO t 3 [.ref hn, .ref hm, .ref dd, .int ((dcF r ((ltF r true z i).2) (nM r)).2)], ydW Γ hn an r] rfl [eO t 3 [.ref hn, .ref hm, .ref dd, .int ((dcF r ((ltF r true z i).2) (nM r)).2)], ydW Γ hn an r, ydW Γ hm am (daysS ((dcF r ((ltF r true z i).2) (nM r)).1) 10)] rfl rfl rfl [] rfl (Nat.le_of_ble_eq_true rfl) ?_
        refine r_iload_n K dX5_payByLot_29 1 rfl ?_
        refine r_aload_n K dX5_payByLot_30 2 rfl ?_
        refine r_get K dX5_payByLot_31 (kf := 1) 0 rfl rfl hinX5 (by decide) q70 rfl rfl ?_
        refine r_cVd K dX5_payByLot_34 (c_X0_allPay l Γ hm am (daysS ((dcF r ((ltF r true z i).2) (nM r)).1) 10) (Inv_daysS (Inv_dcF hI h0 _ (Nat.le_refl _)) 10)) mX0_allPay q569 rfl (by decide) rfl rfl 3 rfl [2] [0, 1] rfl rfl [eO t 3 [.ref hn, .ref hm, .ref dd, .int ((dcF r ((ltF r true z i).2) (nM r)).2)], ydW Γ hn an r] rfl [eO t 3 [.ref hn, .ref hm, .ref dd, .int ((dcF r ((ltF r true z i).2) (nM r)).2)], ydW Γ hn an r, ydW Γ hm am (daysS ((dcF r ((ltF r true z i).2) (nM r)).1) 10)] rfl rfl rfl [.int v] rfl (Nat.le_of_ble_eq_true rfl) ?_
        refine r_iadd K dX5_payByLot_37 ?_
        refine r_istore_n K dX5_payByLot_38 rfl (by decide) (lv1 := [(3, .int (v + (sumTo (fun g => (daysS ((dcF r ((ltF r true z i).2) (nM r)).1) 10) (iG g 1) / nI 12) 5))), (4, .int (nI i)), (0, .ref t), (1, .int (nI n)), (2, .int z)]) rfl ?_
        refine r_iincN K dX5_payByLot_39 (n := 1) 1 rfl rfl (by decide) (lv1 := [(4, .int (nI (i + 1))), (3, .int (v + (sumTo (fun g => (daysS ((dcF r ((ltF r true z i).2) (nM r)).1) 10) (iG g 1) / nI 12) 5))), (0, .ref t), (1, .int (nI n)), (2, .int z)]) rfl ?_
        refine r_goto K dX5_payByLot_42 ?_
        refine r_ws K (ws1 := [eO t 3 [.ref hn, .ref hm, .ref dd, .int ((ltF r true z (i + 1)).2)], ydW Γ hn an r, ydW Γ hm am (daysS ((dcF r ((ltF r true z i).2) (nM r)).1) 10)]) (by rw [ltF_s]; exact weq.rf) ?_
        exact ih_L10 (i + 1) (v + (sumTo (fun g => (daysS ((dcF r ((ltF r true z i).2) (nM r)).1) 10) (iG g 1) / nI 12) 5)) (daysS ((dcF r ((ltF r true z i).2) (nM r)).1) 10) (by omega) (by rw [hv, ltF_s]; rfl) (by omega)
  refine r_ws K (ws1 := [eO t 3 [.ref hn, .ref hm, .ref dd, .int ((ltF r true z 0).2)], ydW Γ hn an r, ydW Γ hm am q]) (weq.rf) ?_
  exact L10 _ 0 (nI 0) q (Nat.zero_le _) (rfl) (Nat.lt_succ_self _)
set_option maxHeartbeats 1000000 in
set_option maxRecDepth 20000 in
theorem c_X5_inchesByLot (l : Launch) (Γ : eG) (t : Nat) (hn : Nat) (hm : Nat) (dd : Nat) (sd : Int32) (an : Nat → Nat) (am : Nat → Nat) (r : Nat → Int32) (q : Nat → Int32) (n : Nat) (z : Int32) (hI : Inv r) (h0 : 0 < nG r) (hn31 : n < 2 ^ 31) : cE l Γ yX5_inchesByLot cX5_inchesByLot 5 (some .int) 4 [.ref t, .int (nI n), .int z] [eO t 3 [.ref hn, .ref hm, .ref dd, .int sd], ydW Γ hn an r, ydW Γ hm am q] (S := Nat → Int32) (fun u => True) (fun u => (some (.int ((ltF r false z n).1)))) (fun u => [eO t 3 [.ref hn, .ref hm, .ref dd, .int ((ltF r false z n).2)], ydW Γ hn an r, ydW Γ hm am u]) := by
  refine e_int [(0, .ref t), (1, .int (nI n)), (2, .int z)] (by decide +kernel) (Nat.le_of_ble_eq_true rfl) rfl (fun V K hR => ?_)
  have h5 := hI.g
  have h6 := hI.m
  refine r_aload_n K dX5_inchesByLot_0 0 rfl ?_
  refine r_iload_n K dX5_inchesByLot_1 2 rfl ?_
  refine r_put K dX5_inchesByLot_2 (kf := 3) (ty := .int) (ws1 := [eO t 3 [.ref hn, .ref hm, .ref dd, .int z], ydW Γ hn an r, ydW Γ hm am q]) 0 rfl rfl hinX5 tyX5 tyX5_ok nmX5 (by decide) q72 rfl (by decide +kernel) rfl rfl (Nat.le_of_ble_eq_true rfl) rfl ?_
  refine r_iconst K dX5_inchesByLot_5 (nI 0) (by decide) ?_
  refine r_istore_n K dX5_inchesByLot_6 rfl (by decide) (lv1 := [(3, .int (nI 0)), (0, .ref t), (1, .int (nI n)), (2, .int z)]) rfl ?_
  refine r_iconst K dX5_inchesByLot_7 (nI 0) (by decide) ?_
  refine r_istore K dX5_inchesByLot_8 (by decide) (lv1 := [(4, .int (nI 0)), (3, .int (nI 0)), (0, .ref t), (1, .int (nI n)), (2, .int z)]) rfl ?_
  have L10 : ∀ (fL10 : Nat) (i : Nat) (v : Int32) (q : Nat → Int32), (i ≤ n) → (v = (ltF r false z i).1) → n - i < fL10 → V 10 [(4, .int (nI i)), (3, .int v), (0, .ref t), (1, .int (nI n)), (2, .int z)] [] [eO t 3 [.ref hn, .ref hm, .ref dd, .int ((ltF r false z i).2)], ydW Γ hn an r, ydW Γ hm am q] := by
    intro fL10
    induction fL10 with
    | zero => intro i v q hi hv hf; exact absurd hf (Nat.not_lt_zero _)
    | succ fL10 ih_L10 =>
      intro i v q hi hv hfL10
      refine r_iload K dX5_inchesByLot_10 0 rfl ?_
      refine r_iload_n K dX5_inchesByLot_12 3 rfl ?_
      refine r_ic_geN K dX5_inchesByLot_13 (by omega) (by omega) (fun c13 => ?_) (fun c13 => ?_)
      · obtain rfl : n = i := by omega
        refine r_iload_n K dX5_inchesByLot_53 1 rfl ?_
        exact hR q dX5_inchesByLot_54 (trivial) (e_ri (hv.symm)) (weq.rf)
      · refine r_aload_n K dX5_inchesByLot_16 2 rfl ?_
        refine r_cVn K dX5_inchesByLot_17 (c_X5_drawChurchyard l Γ t hn hm dd ((ltF r false z i).2) an am r q (hI) (by first | omega | (simp only [daysS_nM, daysS_nG, dayS_nM, dayS_nG, tellS_nM, tellS_nG, aloneTo_nM, aloneTo_nG, nM_M, nG_M, nM_G, nG_G, lv_nM, lv_nG, gnT_nM, gnT_nG] <;> omega))) mX5_drawChurchyard q713 rfl (by decide) rfl rfl 3 rfl [0, 1, 2] [] rfl rfl [] rfl [eO t 3 [.ref hn, .ref hm, .ref dd, .int ((dcF r ((ltF r false z i).2) (nM r)).2)], ydW Γ hn an r, ydW Γ hm am ((dcF r ((ltF r false z i).2) (nM r)).1)] rfl rfl rfl [] rfl (Nat.le_of_ble_eq_true rfl) ?_
        refine r_aload_n K dX5_inchesByLot_20 2 rfl ?_
        refine r_get K dX5_inchesByLot_21 (kf := 1) 0 rfl rfl hinX5 (by decide) q70 rfl rfl ?_
        refine r_bipush K dX5_inchesByLot_24 (nI 10) (by decide) ?_
        refine r_cVn K dX5_inchesByLot_26 (c_X0_passDays l Γ hm am ((dcF r ((ltF r false z i).2) (nM r)).1) 10 (Inv_dcF hI h0 _ (Nat.le_refl _)) (by decide)) mX0_passDays q414 rfl (by decide) rfl rfl 3 rfl [2] [0, 1] rfl rfl [eO t 3 [.ref hn, .ref hm, .ref dd, .int ((dcF r ((ltF r false z i).2) (nM r)).2)], ydW Γ hn an r] rfl [eO t 3 [.ref hn, .ref hm, .ref dd, .int ((dcF r ((ltF r false z i).2) (nM r)).2)], ydW Γ hn an r, ydW Γ hm am (daysS ((dcF r ((ltF r false z i).2) (nM r)).1) 10)] rfl rfl rfl [] rfl (Nat.le_of_ble_eq_true rfl) ?_
        refine r_iload_n K dX5_inchesByLot_29 1 rfl ?_
        refine r_aload_n K dX5_inchesByLot_30 2 rfl ?_
        refine r_get K dX5_inchesByLot_31 (kf := 1) 0 rfl rfl hinX5 (by decide) q70 rfl rfl ?_
        refine r_cVd K dX5_inchesByLot_34 (c_X0_allInches l Γ hm am (daysS ((dcF r ((ltF r false z i).2) (nM r)).1) 10) (Inv_daysS (Inv_dcF hI h0 _ (Nat.le_refl _)) 10)) mX0_allInches q542 rfl (by decide) rfl rfl 3 rfl [2] [0, 1] rfl rfl [eO t 3 [.ref hn, .ref hm, .ref dd, .int ((dcF r ((ltF r false z i).2) (nM r)).2)], ydW Γ hn an r] rfl [eO t 3 [.ref hn, .ref hm, .ref dd, .int ((dcF r ((ltF r false z i).2) (nM r)).2)], ydW Γ hn an r, ydW Γ hm am (daysS ((dcF r ((ltF r false z i).2) (nM r)).1) 10)] rfl rfl rfl [.int v] rfl (Nat.le_of_ble_eq_true rfl) ?_
        refine r_aload_n K dX5_inchesByLot_37 2 rfl ?_
        refine r_get K dX5_inchesByLot_38 (kf := 0) 0 rfl rfl hinX5 (by decide) q69 rfl rfl ?_
        refine r_cVd K dX5_inchesByLot_41 (c_X0_allInchesS l Γ hn an r (hI)) mX0_allInches q542 rfl (by decide) rfl rfl 3 rfl [1] [0, 2] rfl rfl [eO t 3 [.ref hn, .ref hm, .ref dd, .int ((dcF r ((ltF r false z i).2) (nM r)).2)], ydW Γ hm am (daysS ((dcF r ((ltF r false z i).2) (nM r)).1) 10)] rfl [eO t 3 [.ref hn, .ref hm, .ref dd, .int ((dcF r ((ltF r false z i).2) (nM r)).2)], ydW Γ hn an r, ydW Γ hm am (daysS ((dcF r ((ltF r false z i).2) (nM r)).1) 10)] rfl rfl rfl [.int (sumTo (fun g => (daysS ((dcF r ((ltF r false z i).2) (nM r)).1) 10) (iG g 1)) 5), .int v] rfl (Nat.le_of_ble_eq_true rfl) ?_
        refine r_isub K dX5_inchesByLot_44 ?_
        refine r_iadd K dX5_inchesByLot_45 ?_
        refine r_istore_n K dX5_inchesByLot_46 rfl (by decide) (lv1 := [(3, .int (v + ((sumTo (fun g => (daysS ((dcF r ((ltF r false z i).2) (nM r)).1) 10) (iG g 1)) 5) - (incS r)))), (4, .int (nI i)), (0, .ref t), (1, .int (nI n)), (2, .int z)]) rfl ?_
        refine r_iincN K dX5_inchesByLot_47 (n := 1) 1 rfl rfl (by decide) (lv1 := [(4, .int (nI (i + 1))), (3, .int (v + ((sumTo (fun g => (daysS ((dcF r ((ltF r false z i).2) (nM r)).1) 10) (iG g 1)) 5) - (incS r)))), (0, .ref t), (1, .int (nI n)), (2, .int z)]) rfl ?_
        refine r_goto K dX5_inchesByLot_50 ?_
        refine r_ws K (ws1 := [eO t 3 [.ref hn, .ref hm, .ref dd, .int ((ltF r false z (i + 1)).2)], ydW Γ hn an r, ydW Γ hm am (daysS ((dcF r ((ltF r false z i).2) (nM r)).1) 10)]) (by rw [ltF_s]; exact weq.rf) ?_
        exact ih_L10 (i + 1) (v + ((sumTo (fun g => (daysS ((dcF r ((ltF r false z i).2) (nM r)).1) 10) (iG g 1)) 5) - (incS r))) (daysS ((dcF r ((ltF r false z i).2) (nM r)).1) 10) (by omega) (by rw [hv, ltF_s]; rfl) (by omega)
  refine r_ws K (ws1 := [eO t 3 [.ref hn, .ref hm, .ref dd, .int ((ltF r false z 0).2)], ydW Γ hn an r, ydW Γ hm am q]) (weq.rf) ?_
  exact L10 _ 0 (nI 0) q (Nat.zero_le _) (rfl) (Nat.lt_succ_self _)
set_option maxHeartbeats 1000000 in
set_option maxRecDepth 20000 in
theorem c_X5_inchesOnDays (l : Launch) (Γ : eG) (t : Nat) (hn : Nat) (hm : Nat) (dd : Nat) (sd : Int32) (an : Nat → Nat) (am : Nat → Nat) (r : Nat → Int32) (q : Nat → Int32) (s : Nat) (g : Nat) (n : Nat) (w : Nat → Int32) (hI : Inv r) (hs : s < 2 ^ 31) (hg : g < nG r) (hn7 : n ≤ 7) (hw : ∀ k, k < n → ∃ n, n ≤ 72 ∧ w k = nI n) : cE l Γ yX5_inchesOnDays cX5_inchesOnDays 5 (some .int) 2 [.ref t, .int (nI s), .int (nI g), .int (nI n)] [eO t 3 [.ref hn, .ref hm, .ref dd, .int sd], ydW Γ hn an r, ydW Γ hm am q, eI Γ dd 7 w] (S := Nat → Int32) (fun u => True) (fun u => (some (.int (iodS r g s n w)))) (fun u => [eO t 3 [.ref hn, .ref hm, .ref dd, .int sd], ydW Γ hn an r, ydW Γ hm am u, eI Γ dd 7 w]) := by
  refine e_int [(0, .ref t), (1, .int (nI s)), (2, .int (nI g)), (3, .int (nI n))] (by decide +kernel) (Nat.le_of_ble_eq_true rfl) rfl (fun V K hR => ?_)
  have h5 := hI.g
  have h6 := hI.m
  refine r_aload_n K dX5_inchesOnDays_0 0 rfl ?_
  refine r_get K dX5_inchesOnDays_1 (kf := 0) 0 rfl rfl hinX5 (by decide) q69 rfl rfl ?_
  refine r_iload_n K dX5_inchesOnDays_4 2 rfl ?_
  refine r_cVd K dX5_inchesOnDays_5 (c_X0_mournersAt l Γ hn an r (nI g) (hI)) mX0_mournersAt q652 rfl (by decide) rfl rfl 4 rfl [1] [0, 2, 3] rfl rfl [eO t 3 [.ref hn, .ref hm, .ref dd, .int sd], ydW Γ hm am q, eI Γ dd 7 w] rfl [eO t 3 [.ref hn, .ref hm, .ref dd, .int sd], ydW Γ hn an r, ydW Γ hm am q, eI Γ dd 7 w] rfl rfl rfl [] rfl (Nat.le_of_ble_eq_true rfl) ?_
  refine r_if_ne K dX5_inchesOnDays_8 (fun c8 => ?_) (fun c8 => ?_)
  · refine r_aload_n K dX5_inchesOnDays_13 0 rfl ?_
    refine r_get K dX5_inchesOnDays_14 (kf := 1) 0 rfl rfl hinX5 (by decide) q70 rfl rfl ?_
    refine r_aload_n K dX5_inchesOnDays_17 0 rfl ?_
    refine r_get K dX5_inchesOnDays_18 (kf := 0) 0 rfl rfl hinX5 (by decide) q69 rfl rfl ?_
    refine r_cVn K dX5_inchesOnDays_21 (c_X0_become l Γ hm am q hn an r) mX0_become q413 rfl (by decide) rfl rfl 4 rfl [2, 1] [0, 3] rfl rfl [eO t 3 [.ref hn, .ref hm, .ref dd, .int sd], eI Γ dd 7 w] rfl [eO t 3 [.ref hn, .ref hm, .ref dd, .int sd], ydW Γ hn an r, ydW Γ hm am r, eI Γ dd 7 w] rfl rfl rfl [] rfl (Nat.le_of_ble_eq_true rfl) ?_
    refine r_iconst K dX5_inchesOnDays_24 (nI 0) (by decide) ?_
    refine r_istore K dX5_inchesOnDays_25 (by decide) (lv1 := [(4, .int (nI 0)), (0, .ref t), (1, .int (nI s)), (2, .int (nI g)), (3, .int (nI n))]) rfl ?_
    have L27 : ∀ (fL27 : Nat) (i : Nat), (i ≤ n) → n - i < fL27 → V 27 [(4, .int (nI i)), (0, .ref t), (1, .int (nI s)), (2, .int (nI g)), (3, .int (nI n))] [] [eO t 3 [.ref hn, .ref hm, .ref dd, .int sd], ydW Γ hn an r, ydW Γ hm am (iodF r g s w i), eI Γ dd 7 w] := by
      intro fL27
      induction fL27 with
      | zero => intro i hi hf; exact absurd hf (Nat.not_lt_zero _)
      | succ fL27 ih_L27 =>
        intro i hi hfL27
        refine r_iload K dX5_inchesOnDays_27 0 rfl ?_
        refine r_iload_n K dX5_inchesOnDays_29 4 rfl ?_
        refine r_ic_geN K dX5_inchesOnDays_30 (by omega) (by omega) (fun c30 => ?_) (fun c30 => ?_)
        · obtain rfl : n = i := by omega
          refine r_aload_n K dX5_inchesOnDays_71 1 rfl ?_
          refine r_get K dX5_inchesOnDays_72 (kf := 1) 0 rfl rfl hinX5 (by decide) q70 rfl rfl ?_
          refine r_iload_n K dX5_inchesOnDays_75 3 rfl ?_
          refine r_cVd K dX5_inchesOnDays_76 (c_X0_depth l Γ hm am (iodF r g s w n) (nI g) (Inv_iodF hI hg n hw)) mX0_depth q431 rfl (by decide) rfl rfl 4 rfl [2] [0, 1, 3] rfl rfl [eO t 3 [.ref hn, .ref hm, .ref dd, .int sd], ydW Γ hn an r, eI Γ dd 7 w] rfl [eO t 3 [.ref hn, .ref hm, .ref dd, .int sd], ydW Γ hn an r, ydW Γ hm am (iodF r g s w n), eI Γ dd 7 w] rfl rfl rfl [] rfl (Nat.le_of_ble_eq_true rfl) ?_
          refine r_aload_n K dX5_inchesOnDays_79 1 rfl ?_
          refine r_get K dX5_inchesOnDays_80 (kf := 0) 0 rfl rfl hinX5 (by decide) q69 rfl rfl ?_
          refine r_iload_n K dX5_inchesOnDays_83 3 rfl ?_
          refine r_cVd K dX5_inchesOnDays_84 (c_X0_depthN l Γ hn an r g (hI) (by first | omega | (simp only [daysS_nM, daysS_nG, dayS_nM, dayS_nG, tellS_nM, tellS_nG, aloneTo_nM, aloneTo_nG, nM_M, nG_M, nM_G, nG_G, lv_nM, lv_nG, gnT_nM, gnT_nG] <;> omega))) mX0_depth q431 rfl (by decide) rfl rfl 4 rfl [1] [0, 2, 3] rfl rfl [eO t 3 [.ref hn, .ref hm, .ref dd, .int sd], ydW Γ hm am (iodF r g s w n), eI Γ dd 7 w] rfl [eO t 3 [.ref hn, .ref hm, .ref dd, .int sd], ydW Γ hn an r, ydW Γ hm am (iodF r g s w n), eI Γ dd 7 w] rfl rfl rfl [.int (gv (iodF r g s w n) 1 (nI g))] rfl (Nat.le_of_ble_eq_true rfl) ?_
          refine r_isub K dX5_inchesOnDays_87 ?_
          exact hR (iodF r g s w n) dX5_inchesOnDays_88 (trivial) (e_ri (by unfold iodS; rw [if_neg c8, gv_N (by rw [iodF_nG]; exact hg) (by rw [iodF_nG]; exact h5)])) (weq.rf)
        · refine r_iload K dX5_inchesOnDays_33 0 rfl ?_
          refine r_bipush K dX5_inchesOnDays_35 (nI 7) (by decide) ?_
          refine r_ic_geN K dX5_inchesOnDays_37 (by omega) (by omega) (fun c37 => ?_) (fun c37 => ?_)
          · exact absurd c37 (by omega)
          · refine r_iload_n K dX5_inchesOnDays_40 2 rfl ?_
            refine r_iload K dX5_inchesOnDays_41 0 rfl ?_
            refine r_ishr K dX5_inchesOnDays_43 ?_
            refine r_top (y := nI (s / 2 ^ i)) (has_sh2 hs (by omega)) ?_
            refine r_iconst K dX5_inchesOnDays_44 (nI 1) (by decide) ?_
            refine r_iand K dX5_inchesOnDays_45 ?_
            refine r_top (y := nI (s / 2 ^ i % 2)) (and1 _) ?_
            refine r_iconst K dX5_inchesOnDays_46 (nI 1) (by decide) ?_
            refine r_ic_neN K dX5_inchesOnDays_47 (by omega) (by omega) (fun c47 => ?_) (fun c47 => ?_)
            · refine r_iincN K dX5_inchesOnDays_65 (n := 1) 0 rfl rfl (by decide) (lv1 := [(4, .int (nI (i + 1))), (0, .ref t), (1, .int (nI s)), (2, .int (nI g)), (3, .int (nI n))]) rfl ?_
              refine r_goto K dX5_inchesOnDays_68 ?_
              refine r_ws K (ws1 := [eO t 3 [.ref hn, .ref hm, .ref dd, .int sd], ydW Γ hn an r, ydW Γ hm am (iodF r g s w (i + 1)), eI Γ dd 7 w]) (by rw [iodF_s, if_neg (by unfold hasB; simpa using c47)]; exact weq.rf) ?_
              exact ih_L27 (i + 1) (by omega) (by omega)
            · refine r_aload_n K dX5_inchesOnDays_50 1 rfl ?_
              refine r_get K dX5_inchesOnDays_51 (kf := 1) 0 rfl rfl hinX5 (by decide) q70 rfl rfl ?_
              refine r_iload_n K dX5_inchesOnDays_54 3 rfl ?_
              refine r_aload_n K dX5_inchesOnDays_55 1 rfl ?_
              refine r_get K dX5_inchesOnDays_56 (kf := 2) 0 rfl rfl hinX5 (by decide) q71 rfl rfl ?_
              refine r_iload K dX5_inchesOnDays_59 0 rfl ?_
              refine r_aldN K dX5_inchesOnDays_61 3 rfl (by first | omega | exact iG_lt (by omega) (by decide) | exact iM_lt (by omega) (by decide)) (by decide) ?_
              refine r_cVn K dX5_inchesOnDays_62 (c_X0_soakN l Γ hm am (iodF r g s w i) g (w i) (by omega) ((Inv_iodF hI hg i (fun j hj => hw j (by omega))).gH (by omega))) mX0_soak q653 rfl (by decide) rfl rfl 4 rfl [2] [0, 1, 3] rfl rfl [eO t 3 [.ref hn, .ref hm, .ref dd, .int sd], ydW Γ hn an r, eI Γ dd 7 w] rfl [eO t 3 [.ref hn, .ref hm, .ref dd, .int sd], ydW Γ hn an r, ydW Γ hm am (soakS (iodF r g s w i) g (w i)), eI Γ dd 7 w] rfl rfl rfl [] rfl (Nat.le_of_ble_eq_true rfl) ?_
              refine r_iincN K dX5_inchesOnDays_65 (n := 1) 0 rfl rfl (by decide) (lv1 := [(4, .int (nI (i + 1))), (0, .ref t), (1, .int (nI s)), (2, .int (nI g)), (3, .int (nI n))]) rfl ?_
              refine r_goto K dX5_inchesOnDays_68 ?_
              refine r_ws K (ws1 := [eO t 3 [.ref hn, .ref hm, .ref dd, .int sd], ydW Γ hn an r, ydW Γ hm am (iodF r g s w (i + 1)), eI Γ dd 7 w]) (by rw [iodF_s, if_pos (by unfold hasB; simpa using c47)]; exact weq.rf) ?_
              exact ih_L27 (i + 1) (by omega) (by omega)
    refine r_ws K (ws1 := [eO t 3 [.ref hn, .ref hm, .ref dd, .int sd], ydW Γ hn an r, ydW Γ hm am (iodF r g s w 0), eI Γ dd 7 w]) (by exact weq.rf) ?_
    exact L27 _ 0 (Nat.zero_le _) (Nat.lt_succ_self _)
  · refine r_iconst K dX5_inchesOnDays_11 (nI 0) (by decide) ?_
    exact hR q dX5_inchesOnDays_12 (trivial) (e_ri (if_pos c8)) (weq.rf)
set_option maxHeartbeats 1000000 in
set_option maxRecDepth 20000 in
theorem c_X5_waysToBeDeeper (l : Launch) (Γ : eG) (t : Nat) (hn : Nat) (hm : Nat) (dd : Nat) (sd : Int32) (an : Nat → Nat) (am : Nat → Nat) (r : Nat → Int32) (q : Nat → Int32) (g : Nat) (n : Nat) (p : Nat) (v : Int32) (w : Nat → Int32) (hI : Inv r) (hg : g < nG r) (hn7 : n ≤ 7) (hp2 : 2 ≤ p) (hp20 : p ≤ 20) : cE l Γ yX5_waysToBeDeeper cX5_waysToBeDeeper 8 (some .long) 4 [.ref t, .int (nI g), .int (nI n), .int (nI p), .int v] [eO t 3 [.ref hn, .ref hm, .ref dd, .int sd], ydW Γ hn an r, ydW Γ hm am q, eI Γ dd 7 w] (S := (Nat → Int32) × (Nat → Int32)) (fun u => True) (fun u => (some (.long (lN (wyF r g n p v (2 ^ n)))))) (fun u => [eO t 3 [.ref hn, .ref hm, .ref dd, .int sd], ydW Γ hn an r, ydW Γ hm am u.1, eI Γ dd 7 u.2]) := by
  refine e_long [(0, .ref t), (1, .int (nI g)), (2, .int (nI n)), (3, .int (nI p)), (4, .int v)] (by decide +kernel) (Nat.le_of_ble_eq_true rfl) rfl (fun V K hR => ?_)
  have h5 := hI.g
  have h6 := hI.m
  have hp7 := pow7 hn7
  refine r_aload_n K dX5_waysToBeDeeper_0 0 rfl ?_
  refine r_get K dX5_waysToBeDeeper_1 (kf := 1) 0 rfl rfl hinX5 (by decide) q70 rfl rfl ?_
  refine r_aload_n K dX5_waysToBeDeeper_4 0 rfl ?_
  refine r_get K dX5_waysToBeDeeper_5 (kf := 0) 0 rfl rfl hinX5 (by decide) q69 rfl rfl ?_
  refine r_cVn K dX5_waysToBeDeeper_8 (c_X0_become l Γ hm am q hn an r) mX0_become q413 rfl (by decide) rfl rfl 4 rfl [2, 1] [0, 3] rfl rfl [eO t 3 [.ref hn, .ref hm, .ref dd, .int sd], eI Γ dd 7 w] rfl [eO t 3 [.ref hn, .ref hm, .ref dd, .int sd], ydW Γ hn an r, ydW Γ hm am r, eI Γ dd 7 w] rfl rfl rfl [] rfl (Nat.le_of_ble_eq_true rfl) ?_
  refine r_iconst K dX5_waysToBeDeeper_11 (nI 0) (by decide) ?_
  refine r_istore K dX5_waysToBeDeeper_12 (by decide) (lv1 := [(5, .int (nI 0)), (0, .ref t), (1, .int (nI g)), (2, .int (nI n)), (3, .int (nI p)), (4, .int v)]) rfl ?_
  have L14 : ∀ (fL14 : Nat) (i : Nat), (i ≤ n) → n - i < fL14 → V 14 [(5, .int (nI i)), (0, .ref t), (1, .int (nI g)), (2, .int (nI n)), (3, .int (nI p)), (4, .int v)] [] [eO t 3 [.ref hn, .ref hm, .ref dd, .int sd], ydW Γ hn an r, ydW Γ hm am (fdS r i), eI Γ dd 7 (cpF (dwS r g) w i)] := by
    intro fL14
    induction fL14 with
    | zero => intro i hi hf; exact absurd hf (Nat.not_lt_zero _)
    | succ fL14 ih_L14 =>
      intro i hi hfL14
      refine r_iload K dX5_waysToBeDeeper_14 0 rfl ?_
      refine r_iload_n K dX5_waysToBeDeeper_16 3 rfl ?_
      refine r_ic_geN K dX5_waysToBeDeeper_17 (by omega) (by omega) (fun c17 => ?_) (fun c17 => ?_)
      · obtain rfl : n = i := by omega
        refine r_lconst K dX5_waysToBeDeeper_55 (lN 0) (by decide) ?_
        refine r_lstore K dX5_waysToBeDeeper_56 (by decide) (lv1 := [(5, .long (lN 0)), (0, .ref t), (1, .int (nI g)), (2, .int (nI n)), (3, .int (nI p)), (4, .int v)]) rfl ?_
        refine r_iconst K dX5_waysToBeDeeper_58 (nI 0) (by decide) ?_
        refine r_istore K dX5_waysToBeDeeper_59 (by decide) (lv1 := [(7, .int (nI 0)), (5, .long (lN 0)), (0, .ref t), (1, .int (nI g)), (2, .int (nI n)), (3, .int (nI p)), (4, .int v)]) rfl ?_
        have L61 : ∀ (fL61 : Nat) (s : Nat) (q : Nat → Int32), (s ≤ 2 ^ n) → 2 ^ n - s < fL61 → V 61 [(7, .int (nI s)), (5, .long (lN (wyF r g n p v s))), (0, .ref t), (1, .int (nI g)), (2, .int (nI n)), (3, .int (nI p)), (4, .int v)] [] [eO t 3 [.ref hn, .ref hm, .ref dd, .int sd], ydW Γ hn an r, ydW Γ hm am q, eI Γ dd 7 (cpF (dwS r g) w n)] := by
          intro fL61
          induction fL61 with
          | zero => intro s q hs hf; exact absurd hf (Nat.not_lt_zero _)
          | succ fL61 ih_L61 =>
            intro s q hs hfL61
            refine r_iload K dX5_waysToBeDeeper_61 0 rfl ?_
            refine r_iconst K dX5_waysToBeDeeper_63 (nI 1) (by decide) ?_
            refine r_iload_n K dX5_waysToBeDeeper_64 4 rfl ?_
            refine r_ishl K dX5_waysToBeDeeper_65 ?_
            refine r_top (y := nI (2 ^ n)) (sh1 (by omega)) ?_
            refine r_ic_geN K dX5_waysToBeDeeper_66 (by omega) (by omega) (fun c66 => ?_) (fun c66 => ?_)
            · obtain rfl : s = 2 ^ n := by omega
              refine r_lload K dX5_waysToBeDeeper_105 1 rfl ?_
              exact hR (q, cpF (dwS r g) w n) dX5_waysToBeDeeper_107 (trivial) (e_rl (rfl)) (weq.rf)
            · refine r_aload_n K dX5_waysToBeDeeper_69 2 rfl ?_
              refine r_iload K dX5_waysToBeDeeper_70 0 rfl ?_
              refine r_iload_n K dX5_waysToBeDeeper_72 3 rfl ?_
              refine r_iload_n K dX5_waysToBeDeeper_73 4 rfl ?_
              refine r_cV K dX5_waysToBeDeeper_74 (c_X5_inchesOnDays l Γ t hn hm dd sd an am r q s g n (cpF (dwS r g) w n) (hI) (by first | assumption | omega) (by first | omega | (simp only [daysS_nM, daysS_nG, dayS_nM, dayS_nG, tellS_nM, tellS_nG, aloneTo_nM, aloneTo_nG, nM_M, nG_M, nM_G, nG_G, lv_nM, lv_nG, gnT_nM, gnT_nG] <;> omega)) (by first | assumption | omega) (fun k hk => by rw [cpF_in hk]; exact dwS_ok hI g k)) mX5_inchesOnDays q648 rfl (by decide) rfl rfl 4 rfl [0, 1, 2, 3] [] rfl rfl [] rfl (fun u => [eO t 3 [.ref hn, .ref hm, .ref dd, .int sd], ydW Γ hn an r, ydW Γ hm am u, eI Γ dd 7 (cpF (dwS r g) w n)]) (fun _ => rfl) (fun _ => rfl) (fun _ => rfl) [] rfl (Nat.le_of_ble_eq_true rfl) (fun u1 hu2 => ?_)
              show V 77 _ [.int (iodS r g s n (cpF (dwS r g) w n))] [eO t 3 [.ref hn, .ref hm, .ref dd, .int sd], ydW Γ hn an r, ydW Γ hm am u1, eI Γ dd 7 (cpF (dwS r g) w n)]
              have hio : iodS r g s n (cpF (dwS r g) w n) = iodS r g s n (dwS r g) := by unfold iodS; rw [iodF_cong n (fun j hj => cpF_in hj)]
              refine r_top (y := iodS r g s n (dwS r g)) (hio) ?_
              refine r_iload K dX5_waysToBeDeeper_77 6 rfl ?_
              refine r_ic_lt K dX5_waysToBeDeeper_79 (fun c79 => ?_) (fun c79 => ?_)
              · refine r_iincN K dX5_waysToBeDeeper_99 (n := 1) 0 rfl rfl (by decide) (lv1 := [(7, .int (nI (s + 1))), (5, .long (lN (wyF r g n p v s))), (0, .ref t), (1, .int (nI g)), (2, .int (nI n)), (3, .int (nI p)), (4, .int v)]) rfl ?_
                refine r_goto K dX5_waysToBeDeeper_102 ?_
                refine r_lc (lv1 := [(7, .int (nI (s + 1))), (5, .long (lN (wyF r g n p v (s + 1)))), (0, .ref t), (1, .int (nI g)), (2, .int (nI n)), (3, .int (nI p)), (4, .int v)]) (by rw [wyF_s, if_neg (Int32.not_le.mpr c79)]; rfl) ?_
                exact ih_L61 (s + 1) u1 (by omega) (by omega)
              · refine r_lload K dX5_waysToBeDeeper_82 1 rfl ?_
                refine r_iload_n K dX5_waysToBeDeeper_84 5 rfl ?_
                refine r_iconst K dX5_waysToBeDeeper_85 (nI 1) (by decide) ?_
                refine r_isubN K dX5_waysToBeDeeper_86 (by omega) ?_
                refine r_i2l K dX5_waysToBeDeeper_87 ?_
                refine r_topL (y := lN (p - 1)) (nI_l (by omega)) ?_
                refine r_iload K dX5_waysToBeDeeper_88 0 rfl ?_
                refine r_cSd K dX5_waysToBeDeeper_90 (c_J6_bitCount_0f7a4 l Γ s (by first | assumption | omega)) mJ6_bitCount_0f7a4 q522 rfl (by decide) 4 rfl [] [0, 1, 2, 3] rfl rfl [eO t 3 [.ref hn, .ref hm, .ref dd, .int sd], ydW Γ hn an r, ydW Γ hm am u1, eI Γ dd 7 (cpF (dwS r g) w n)] rfl [eO t 3 [.ref hn, .ref hm, .ref dd, .int sd], ydW Γ hn an r, ydW Γ hm am u1, eI Γ dd 7 (cpF (dwS r g) w n)] rfl rfl rfl [.long (lN (p - 1)), .long (lN (wyF r g n p v s))] rfl (Nat.le_of_ble_eq_true rfl) ?_
                refine r_cSd K dX5_waysToBeDeeper_93 (c_X1_power l Γ (p - 1) (pop6 s) (by have := pop6_7 (s := s); omega)) mX1_power q654 rfl (by decide) 4 rfl [] [0, 1, 2, 3] rfl rfl [eO t 3 [.ref hn, .ref hm, .ref dd, .int sd], ydW Γ hn an r, ydW Γ hm am u1, eI Γ dd 7 (cpF (dwS r g) w n)] rfl [eO t 3 [.ref hn, .ref hm, .ref dd, .int sd], ydW Γ hn an r, ydW Γ hm am u1, eI Γ dd 7 (cpF (dwS r g) w n)] rfl rfl rfl [.long (lN (wyF r g n p v s))] rfl (Nat.le_of_ble_eq_true rfl) ?_
                refine r_ladd K dX5_waysToBeDeeper_96 ?_
                refine r_topL (y := lN (wyF r g n p v s + powS (p - 1) (pop6 s))) (lN_add _ _) ?_
                refine r_lstore K dX5_waysToBeDeeper_97 (by decide) (lv1 := [(5, .long (lN (wyF r g n p v s + powS (p - 1) (pop6 s)))), (7, .int (nI s)), (0, .ref t), (1, .int (nI g)), (2, .int (nI n)), (3, .int (nI p)), (4, .int v)]) rfl ?_
                refine r_iincN K dX5_waysToBeDeeper_99 (n := 1) 1 rfl rfl (by decide) (lv1 := [(7, .int (nI (s + 1))), (5, .long (lN (wyF r g n p v s + powS (p - 1) (pop6 s)))), (0, .ref t), (1, .int (nI g)), (2, .int (nI n)), (3, .int (nI p)), (4, .int v)]) rfl ?_
                refine r_goto K dX5_waysToBeDeeper_102 ?_
                refine r_lc (lv1 := [(7, .int (nI (s + 1))), (5, .long (lN (wyF r g n p v (s + 1)))), (0, .ref t), (1, .int (nI g)), (2, .int (nI n)), (3, .int (nI p)), (4, .int v)]) (by rw [wyF_s, if_pos (Int32.not_lt.mp c79)]) ?_
                exact ih_L61 (s + 1) u1 (by omega) (by omega)
        -- local 5: .long (lN 0) as .long (lN (wyF r g n p v 0))
        exact L61 _ 0 (fdS r n) (Nat.zero_le _) (Nat.lt_succ_self _)
      · refine r_iload K dX5_waysToBeDeeper_20 0 rfl ?_
        refine r_bipush K dX5_waysToBeDeeper_22 (nI 7) (by decide) ?_
        refine r_ic_geN K dX5_waysToBeDeeper_24 (by omega) (by omega) (fun c24 => ?_) (fun c24 => ?_)
        · exact absurd c24 (by omega)
        · refine r_aload_n K dX5_waysToBeDeeper_27 1 rfl ?_
          refine r_get K dX5_waysToBeDeeper_28 (kf := 2) 0 rfl rfl hinX5 (by decide) q71 rfl rfl ?_
          refine r_iload K dX5_waysToBeDeeper_31 0 rfl ?_
          refine r_aload_n K dX5_waysToBeDeeper_33 1 rfl ?_
          refine r_get K dX5_waysToBeDeeper_34 (kf := 1) 0 rfl rfl hinX5 (by decide) q70 rfl rfl ?_
          refine r_iload_n K dX5_waysToBeDeeper_37 2 rfl ?_
          refine r_cVd K dX5_waysToBeDeeper_38 (c_X0_weepingAt l Γ hm am (fdS r i) (nI g) (Inv_fdS hI i) (nI_n9 (by omega))) mX0_weepingAt q646 rfl (by decide) rfl rfl 4 rfl [2] [0, 1, 3] rfl rfl [eO t 3 [.ref hn, .ref hm, .ref dd, .int sd], ydW Γ hn an r, eI Γ dd 7 (cpF (dwS r g) w i)] rfl [eO t 3 [.ref hn, .ref hm, .ref dd, .int sd], ydW Γ hn an r, ydW Γ hm am (fdS r i), eI Γ dd 7 (cpF (dwS r g) w i)] rfl rfl rfl [.int (nI i), .ref dd] rfl (Nat.le_of_ble_eq_true rfl) ?_
          refine r_astN K dX5_waysToBeDeeper_41 (ws1 := [eO t 3 [.ref hn, .ref hm, .ref dd, .int sd], ydW Γ hn an r, ydW Γ hm am (fdS r i), eI Γ dd 7 (upd (cpF (dwS r g) w i) i (wat (fdS r i) (nI g)))]) 3 rfl (by first | omega | exact iG_lt (by omega) (by decide) | exact iM_lt (by omega) (by decide)) (by decide) rfl ?_
          refine r_arr K (f2 := cpF (dwS r g) w (i + 1)) (ws1 := [eO t 3 [.ref hn, .ref hm, .ref dd, .int sd], ydW Γ hn an r, ydW Γ hm am (fdS r i), eI Γ dd 7 (cpF (dwS r g) w (i + 1))]) 3 rfl (fun _ _ => by rw [← cpF_s]; rfl) rfl ?_
          refine r_aload_n K dX5_waysToBeDeeper_42 1 rfl ?_
          refine r_get K dX5_waysToBeDeeper_43 (kf := 1) 0 rfl rfl hinX5 (by decide) q70 rfl rfl ?_
          refine r_cVn K dX5_waysToBeDeeper_46 (c_X0_fade6 l Γ hm am (fdS r i) (Inv_fdS hI i)) mX0_fade q647 rfl (by decide) rfl rfl 4 rfl [2] [0, 1, 3] rfl rfl [eO t 3 [.ref hn, .ref hm, .ref dd, .int sd], ydW Γ hn an r, eI Γ dd 7 (cpF (dwS r g) w (i + 1))] rfl [eO t 3 [.ref hn, .ref hm, .ref dd, .int sd], ydW Γ hn an r, ydW Γ hm am (fade6 (fdS r i)), eI Γ dd 7 (cpF (dwS r g) w (i + 1))] rfl rfl rfl [] rfl (Nat.le_of_ble_eq_true rfl) ?_
          refine r_iincN K dX5_waysToBeDeeper_49 (n := 1) 0 rfl rfl (by decide) (lv1 := [(5, .int (nI (i + 1))), (0, .ref t), (1, .int (nI g)), (2, .int (nI n)), (3, .int (nI p)), (4, .int v)]) rfl ?_
          refine r_goto K dX5_waysToBeDeeper_52 ?_
          refine r_ws K (ws1 := [eO t 3 [.ref hn, .ref hm, .ref dd, .int sd], ydW Γ hn an r, ydW Γ hm am (fdS r (i + 1)), eI Γ dd 7 (cpF (dwS r g) w (i + 1))]) (by rw [fdS_s]; exact weq.rf) ?_
          exact ih_L14 (i + 1) (by omega) (by omega)
  refine r_ws K (ws1 := [eO t 3 [.ref hn, .ref hm, .ref dd, .int sd], ydW Γ hn an r, ydW Γ hm am (fdS r 0), eI Γ dd 7 w]) (by exact weq.rf) ?_
  refine r_arr K (f2 := cpF (dwS r g) w 0) (ws1 := [eO t 3 [.ref hn, .ref hm, .ref dd, .int sd], ydW Γ hn an r, ydW Γ hm am (fdS r 0), eI Γ dd 7 (cpF (dwS r g) w 0)]) 3 rfl (fun _ _ => by rw [cpF_0]) rfl ?_
  exact L14 _ 0 (Nat.zero_le _) (Nat.lt_succ_self _)
