/-! THE CLASS: its object -/
set_option maxHeartbeats 1000000 in
set_option maxRecDepth 20000 in
theorem c_X6_refuse (l : Launch) (Γ : eG) (h : Nat) (b : Nat → Nat) (rm : Nat) (hi : Bool) (rf : Nat → Int32) (e : Int32) (he : okR e) : cD l Γ yX6_refuse cX6_refuse 3 (some .int) 0 [.ref h, .int e] [go h b rm hi, eI Γ (b 7) 7 rf] (some (.int e)) [go h b rm hi, eI Γ (b 7) 7 (nof rf e)] := by
  refine e_int [(0, .ref h), (1, .int e)] (by decide +kernel) (Nat.le_of_ble_eq_true rfl) rfl (fun V K hR => ?_)
  obtain ⟨c, hc, ee⟩ := he
  have e1 : -e = nI c := by rw [ee, Int32.neg_neg]
  refine r_iload_n K dX6_refuse_0 1 rfl ?_
  refine r_ineg K dX6_refuse_1 ?_
  refine r_istore_n K dX6_refuse_2 rfl (by decide) (lv1 := [(2, .int (-e)), (0, .ref h), (1, .int e)]) rfl ?_
  refine r_lc (lv1 := [(2, .int (nI c)), (0, .ref h), (1, .int e)]) (congrArg (fun zz : Int32 => ([(2, .int zz), (0, .ref h), (1, .int e)] : List (Nat × Value))) (e1)) ?_
  refine r_iload_n K dX6_refuse_3 0 rfl ?_
  skip
  refine r_if_ltN K dX6_refuse_4 (by omega) (fun c4 => ?_) (fun c4 => ?_)
  · exact absurd c4 (by omega)
  · refine r_iload_n K dX6_refuse_7 0 rfl ?_
    refine r_aload_n K dX6_refuse_8 1 rfl ?_
    refine r_get K dX6_refuse_9 (kf := 7) 0 rfl rfl hinX6 (by decide) q121 rfl rfl ?_
    refine r_len K dX6_refuse_12 1 rfl ?_
    refine r_ic_geN K dX6_refuse_13 (by omega) (by omega) (fun c13 => ?_) (fun c13 => ?_)
    · exact absurd c13 (by omega)
    · refine r_aload_n K dX6_refuse_16 1 rfl ?_
      refine r_get K dX6_refuse_17 (kf := 7) 0 rfl rfl hinX6 (by decide) q121 rfl rfl ?_
      refine r_iload_n K dX6_refuse_20 0 rfl ?_
      refine r_dup2 K dX6_refuse_21 rfl rfl ?_
      refine r_aldN K dX6_refuse_22 1 rfl (by first | omega | exact iG_lt (by omega) (by decide) | exact iM_lt (by omega) (by decide)) (by decide) ?_
      refine r_iconst K dX6_refuse_23 (nI 1) (by decide) ?_
      refine r_iadd K dX6_refuse_24 ?_
      refine r_astN K dX6_refuse_25 (ws1 := [go h b rm hi, eI Γ (b 7) 7 (upd rf c ((rf c) + (nI 1)))]) 1 rfl (by first | omega | exact iG_lt (by omega) (by decide) | exact iM_lt (by omega) (by decide)) (by decide) rfl ?_
      refine r_iload_n K dX6_refuse_26 2 rfl ?_
      refine r_arr K (f2 := nof rf e) (ws1 := [go h b rm hi, eI Γ (b 7) 7 (nof rf e)]) 1 rfl (fun _ _ => by rw [nof_e ee hc]) rfl ?_
      exact hR () dX6_refuse_27 (trivial) (e_ri (rfl)) (weq.rf)
set_option maxHeartbeats 1000000 in
set_option maxRecDepth 20000 in
theorem c_X6_faultOfRange (l : Launch) (Γ : eG) (v : Int32) (p : Int32) (q : Int32)  : cD l Γ yX6_faultOfRange cX6_faultOfRange 3 (some .int) 0 [.int v, .int p, .int q] [] (some (.int (wrS v p q))) [] := by
  refine e_int [(0, .int v), (1, .int p), (2, .int q)] (by decide +kernel) (Nat.le_of_ble_eq_true rfl) rfl (fun V K hR => ?_)
  refine r_iload_n K dX6_faultOfRange_0 0 rfl ?_
  refine r_iload_n K dX6_faultOfRange_1 1 rfl ?_
  refine r_ic_ge K dX6_faultOfRange_2 (fun c2 => ?_) (fun c2 => ?_)
  · refine r_iload_n K dX6_faultOfRange_8 0 rfl ?_
    refine r_iload_n K dX6_faultOfRange_9 2 rfl ?_
    refine r_ic_le K dX6_faultOfRange_10 (fun c10 => ?_) (fun c10 => ?_)
    · refine r_iconst K dX6_faultOfRange_18 (nI 0) (by decide) ?_
      exact hR () dX6_faultOfRange_19 (trivial) (e_ri (by unfold wrS; rw [if_neg (Int32.not_lt.mpr c2), if_neg (Int32.not_lt.mpr c10)]; rfl)) (weq.rf)
    · refine r_bipush K dX6_faultOfRange_13 ((-6)) (by decide) ?_
      refine r_goto K dX6_faultOfRange_15 ?_
      exact hR () dX6_faultOfRange_19 (trivial) (e_ri (by unfold wrS; rw [if_neg (Int32.not_lt.mpr c2), if_pos (Int32.not_le.mp c10)])) (weq.rf)
  · refine r_bipush K dX6_faultOfRange_5 ((-4)) (by decide) ?_
    exact hR () dX6_faultOfRange_7 (trivial) (e_ri (if_pos (Int32.not_le.mp c2))) (weq.rf)
set_option maxHeartbeats 1000000 in
set_option maxRecDepth 20000 in
theorem c_X6_letter (l : Launch) (Γ : eG) (h : Nat) (b : Nat → Nat) (rm : Nat) (hi : Bool) (lm : Nat) (lt : Nat → Int32) (rf : Nat → Int32) (c : Int32) (hl : lm ≤ 96) : cD l Γ yX6_letter cX6_letter 2 (some .int) 2 [.ref h, .int c] [go h b rm hi, eO (b 4) 1 [.ref (b 10), .int (nI lm)], eI Γ (b 10) 96 lt, eI Γ (b 7) 7 rf] (some (.int (chE (eLetter lm c) (nI (lm + 1)) (eLetter lm c)))) [go h b rm hi, eO (b 4) 1 [.ref (b 10), .int (nI (chE (eLetter lm c) (lm + 1) lm))], eI Γ (b 10) 96 (chE (eLetter lm c) (upd lt lm c) lt), eI Γ (b 7) 7 (chE (eLetter lm c) rf (nof rf (eLetter lm c)))] := by
  refine e_int [(0, .ref h), (1, .int c)] (by decide +kernel) (Nat.le_of_ble_eq_true rfl) rfl (fun V K hR => ?_)
  refine r_iload_n K dX6_letter_0 1 rfl ?_
  refine r_if_ge K dX6_letter_1 (fun c1 => ?_) (fun c1 => ?_)
  · have c1x := Int32.not_lt.mpr c1
    refine r_iload_n K dX6_letter_11 1 rfl ?_
    refine r_sipush K dX6_letter_12 (nI 255) (by decide) ?_
    refine r_ic_gt K dX6_letter_15 (fun c15 => ?_) (fun c15 => ?_)
    · have hz : nI 255 < c ∨ lm = 96 := Or.inl c15
      refine r_aload_n K dX6_letter_28 0 rfl ?_
      refine r_bipush K dX6_letter_29 ((-6)) (by decide) ?_
      refine r_cVd K dX6_letter_31 (c_X6_refuse l Γ h b rm hi rf (-6) (okR_6)) mX6_refuse q149 rfl (by decide) rfl rfl 4 rfl [0, 3] [1, 2] rfl rfl [eO (b 4) 1 [.ref (b 10), .int (nI lm)], eI Γ (b 10) 96 lt] rfl [go h b rm hi, eO (b 4) 1 [.ref (b 10), .int (nI lm)], eI Γ (b 10) 96 lt, eI Γ (b 7) 7 (nof rf (-6))] rfl rfl rfl [] rfl (Nat.le_of_ble_eq_true rfl) ?_
      have he : eLetter lm c = (-6) := by
        unfold eLetter
        rw [if_neg c1x, if_pos hz]
      refine r_arr K (f2 := chE (eLetter lm c) rf (nof rf (eLetter lm c))) (ws1 := [go h b rm hi, eO (b 4) 1 [.ref (b 10), .int (nI lm)], eI Γ (b 10) 96 lt, eI Γ (b 7) 7 (chE (eLetter lm c) rf (nof rf (eLetter lm c)))]) 3 rfl (fun _ _ => by rw [ch_n (g := nof rf) he (by decide)]) rfl ?_
      refine r_arr K (f2 := chE (eLetter lm c) (upd lt lm c) lt) (ws1 := [go h b rm hi, eO (b 4) 1 [.ref (b 10), .int (nI lm)], eI Γ (b 10) 96 (chE (eLetter lm c) (upd lt lm c) lt), eI Γ (b 7) 7 (chE (eLetter lm c) rf (nof rf (eLetter lm c)))]) 2 rfl (fun _ _ => by rw [chE_n (a := upd lt lm c) (b := lt) (by rw [he]; exact (by decide))]) rfl ?_
      refine r_ws K (ws1 := [go h b rm hi, eO (b 4) 1 [.ref (b 10), .int (nI (chE (eLetter lm c) (lm + 1) lm))], eI Γ (b 10) 96 (chE (eLetter lm c) (upd lt lm c) lt), eI Γ (b 7) 7 (chE (eLetter lm c) rf (nof rf (eLetter lm c)))]) (by rw [chE_n (a := lm + 1) (b := lm) (by rw [he]; exact (by decide))]; exact weq.rf) ?_
      exact hR () dX6_letter_34 (trivial) (e_ri (ex_n he (by decide))) (weq.rf)
    · refine r_aload_n K dX6_letter_18 0 rfl ?_
      refine r_get K dX6_letter_19 (kf := 4) 0 rfl rfl hinX6 (by decide) q118 rfl rfl ?_
      refine r_cVd K dX6_letter_22 (c_X3_isFull l Γ (b 4) (b 10) lt lm (by first | assumption | omega)) mX3_isFull q153 rfl (by decide) rfl rfl 4 rfl [1, 2] [0, 3] rfl rfl [go h b rm hi, eI Γ (b 7) 7 rf] rfl [go h b rm hi, eO (b 4) 1 [.ref (b 10), .int (nI lm)], eI Γ (b 10) 96 lt, eI Γ (b 7) 7 rf] rfl rfl rfl [] rfl (Nat.le_of_ble_eq_true rfl) ?_
      refine r_ifeqB K dX6_letter_25 (fun c25 => ?_) (fun c25 => ?_)
      · have c25x := of_decide_eq_false c25
        have hz : ¬ (nI 255 < c ∨ lm = 96) := fun z => z.elim c15 (by omega)
        refine r_aload_n K dX6_letter_35 0 rfl ?_
        refine r_get K dX6_letter_36 (kf := 4) 0 rfl rfl hinX6 (by decide) q118 rfl rfl ?_
        refine r_iload_n K dX6_letter_39 1 rfl ?_
        refine r_cVd K dX6_letter_40 (c_X3_add l Γ (b 4) (b 10) lt lm c (by first | assumption | omega) (by first | assumption | omega)) mX3_add q157 rfl (by decide) rfl rfl 4 rfl [1, 2] [0, 3] rfl rfl [go h b rm hi, eI Γ (b 7) 7 rf] rfl [go h b rm hi, eO (b 4) 1 [.ref (b 10), .int (nI (lm + 1))], eI Γ (b 10) 96 (upd lt lm c), eI Γ (b 7) 7 rf] rfl rfl rfl [] rfl (Nat.le_of_ble_eq_true rfl) ?_
        have he : eLetter lm c = 0 := by
          unfold eLetter
          rw [if_neg c1x, if_neg hz]
        refine r_arr K (f2 := chE (eLetter lm c) rf (nof rf (eLetter lm c))) (ws1 := [go h b rm hi, eO (b 4) 1 [.ref (b 10), .int (nI (lm + 1))], eI Γ (b 10) 96 (upd lt lm c), eI Γ (b 7) 7 (chE (eLetter lm c) rf (nof rf (eLetter lm c)))]) 3 rfl (fun _ _ => by rw [chE_0 he]) rfl ?_
        refine r_arr K (f2 := chE (eLetter lm c) (upd lt lm c) lt) (ws1 := [go h b rm hi, eO (b 4) 1 [.ref (b 10), .int (nI (lm + 1))], eI Γ (b 10) 96 (chE (eLetter lm c) (upd lt lm c) lt), eI Γ (b 7) 7 (chE (eLetter lm c) rf (nof rf (eLetter lm c)))]) 2 rfl (fun _ _ => by rw [chE_0 (a := upd lt lm c) (b := lt) he]) rfl ?_
        refine r_ws K (ws1 := [go h b rm hi, eO (b 4) 1 [.ref (b 10), .int (nI (chE (eLetter lm c) (lm + 1) lm))], eI Γ (b 10) 96 (chE (eLetter lm c) (upd lt lm c) lt), eI Γ (b 7) 7 (chE (eLetter lm c) rf (nof rf (eLetter lm c)))]) (by rw [chE_0 (a := lm + 1) (b := lm) he]; exact weq.rf) ?_
        exact hR () dX6_letter_43 (trivial) (e_ri (ex_0 he (rfl))) (weq.rf)
      · have c25x := of_decide_eq_true c25
        have hz : nI 255 < c ∨ lm = 96 := Or.inr (by omega)
        refine r_aload_n K dX6_letter_28 0 rfl ?_
        refine r_bipush K dX6_letter_29 ((-6)) (by decide) ?_
        refine r_cVd K dX6_letter_31 (c_X6_refuse l Γ h b rm hi rf (-6) (okR_6)) mX6_refuse q149 rfl (by decide) rfl rfl 4 rfl [0, 3] [1, 2] rfl rfl [eO (b 4) 1 [.ref (b 10), .int (nI lm)], eI Γ (b 10) 96 lt] rfl [go h b rm hi, eO (b 4) 1 [.ref (b 10), .int (nI lm)], eI Γ (b 10) 96 lt, eI Γ (b 7) 7 (nof rf (-6))] rfl rfl rfl [] rfl (Nat.le_of_ble_eq_true rfl) ?_
        have he : eLetter lm c = (-6) := by
          unfold eLetter
          rw [if_neg c1x, if_pos hz]
        refine r_arr K (f2 := chE (eLetter lm c) rf (nof rf (eLetter lm c))) (ws1 := [go h b rm hi, eO (b 4) 1 [.ref (b 10), .int (nI lm)], eI Γ (b 10) 96 lt, eI Γ (b 7) 7 (chE (eLetter lm c) rf (nof rf (eLetter lm c)))]) 3 rfl (fun _ _ => by rw [ch_n (g := nof rf) he (by decide)]) rfl ?_
        refine r_arr K (f2 := chE (eLetter lm c) (upd lt lm c) lt) (ws1 := [go h b rm hi, eO (b 4) 1 [.ref (b 10), .int (nI lm)], eI Γ (b 10) 96 (chE (eLetter lm c) (upd lt lm c) lt), eI Γ (b 7) 7 (chE (eLetter lm c) rf (nof rf (eLetter lm c)))]) 2 rfl (fun _ _ => by rw [chE_n (a := upd lt lm c) (b := lt) (by rw [he]; exact (by decide))]) rfl ?_
        refine r_ws K (ws1 := [go h b rm hi, eO (b 4) 1 [.ref (b 10), .int (nI (chE (eLetter lm c) (lm + 1) lm))], eI Γ (b 10) 96 (chE (eLetter lm c) (upd lt lm c) lt), eI Γ (b 7) 7 (chE (eLetter lm c) rf (nof rf (eLetter lm c)))]) (by rw [chE_n (a := lm + 1) (b := lm) (by rw [he]; exact (by decide))]; exact weq.rf) ?_
        exact hR () dX6_letter_34 (trivial) (e_ri (ex_n he (by decide))) (weq.rf)
  · refine r_aload_n K dX6_letter_4 0 rfl ?_
    refine r_bipush K dX6_letter_5 ((-4)) (by decide) ?_
    refine r_cVd K dX6_letter_7 (c_X6_refuse l Γ h b rm hi rf (-4) (okR_4)) mX6_refuse q149 rfl (by decide) rfl rfl 4 rfl [0, 3] [1, 2] rfl rfl [eO (b 4) 1 [.ref (b 10), .int (nI lm)], eI Γ (b 10) 96 lt] rfl [go h b rm hi, eO (b 4) 1 [.ref (b 10), .int (nI lm)], eI Γ (b 10) 96 lt, eI Γ (b 7) 7 (nof rf (-4))] rfl rfl rfl [] rfl (Nat.le_of_ble_eq_true rfl) ?_
    have he : eLetter lm c = (-4) := by
      unfold eLetter
      rw [if_pos (Int32.not_le.mp c1)]
    refine r_arr K (f2 := chE (eLetter lm c) rf (nof rf (eLetter lm c))) (ws1 := [go h b rm hi, eO (b 4) 1 [.ref (b 10), .int (nI lm)], eI Γ (b 10) 96 lt, eI Γ (b 7) 7 (chE (eLetter lm c) rf (nof rf (eLetter lm c)))]) 3 rfl (fun _ _ => by rw [ch_n (g := nof rf) he (by decide)]) rfl ?_
    refine r_arr K (f2 := chE (eLetter lm c) (upd lt lm c) lt) (ws1 := [go h b rm hi, eO (b 4) 1 [.ref (b 10), .int (nI lm)], eI Γ (b 10) 96 (chE (eLetter lm c) (upd lt lm c) lt), eI Γ (b 7) 7 (chE (eLetter lm c) rf (nof rf (eLetter lm c)))]) 2 rfl (fun _ _ => by rw [chE_n (a := upd lt lm c) (b := lt) (by rw [he]; exact (by decide))]) rfl ?_
    refine r_ws K (ws1 := [go h b rm hi, eO (b 4) 1 [.ref (b 10), .int (nI (chE (eLetter lm c) (lm + 1) lm))], eI Γ (b 10) 96 (chE (eLetter lm c) (upd lt lm c) lt), eI Γ (b 7) 7 (chE (eLetter lm c) rf (nof rf (eLetter lm c)))]) (by rw [chE_n (a := lm + 1) (b := lm) (by rw [he]; exact (by decide))]; exact weq.rf) ?_
    exact hR () dX6_letter_10 (trivial) (e_ri (ex_n he (by decide))) (weq.rf)
set_option maxHeartbeats 1000000 in
set_option maxRecDepth 20000 in
theorem c_X6_yard (l : Launch) (Γ : eG) (h : Nat) (b : Nat → Nat) (rm : Nat) (hi : Bool) (an : Nat → Nat) (r : Nat → Int32) (ad : Nat → Nat) (q : Nat → Int32) (lm : Nat) (lt : Nat → Int32) (hI : Inv r) (hl : lm ≤ 96) : cE l Γ yX6_yard cX6_yard 2 (some .int) 7 [.ref h] [go h b rm hi, ydW Γ (b 0) an r, ydW Γ (b 1) ad q, eO (b 4) 1 [.ref (b 10), .int (nI lm)], eI Γ (b 10) 96 lt] (S := Nat → Int32) (fun u => True) (fun u => (some (.int (tlA lt lm r)))) (fun u => [go h b rm hi, ydW Γ (b 0) an (yaR lt lm r), ydW Γ (b 1) ad u, eO (b 4) 1 [.ref (b 10), .int (nI 0)], eI Γ (b 10) 96 lt]) := by
  refine e_int [(0, .ref h)] (by decide +kernel) (Nat.le_of_ble_eq_true rfl) rfl (fun V K hR => ?_)
  have h5 := hI.g
  have h6 := hI.m
  refine r_aload_n K dX6_yard_0 0 rfl ?_
  refine r_get K dX6_yard_1 (kf := 1) 0 rfl rfl hinX6 (by decide) q115 rfl rfl ?_
  refine r_aload_n K dX6_yard_4 0 rfl ?_
  refine r_get K dX6_yard_5 (kf := 0) 0 rfl rfl hinX6 (by decide) q114 rfl rfl ?_
  refine r_cVn K dX6_yard_8 (c_X0_become l Γ (b 1) ad q (b 0) an r) mX0_become q166 rfl (by decide) rfl rfl 5 rfl [2, 1] [0, 3, 4] rfl rfl [go h b rm hi, eO (b 4) 1 [.ref (b 10), .int (nI lm)], eI Γ (b 10) 96 lt] rfl [go h b rm hi, ydW Γ (b 0) an r, ydW Γ (b 1) ad r, eO (b 4) 1 [.ref (b 10), .int (nI lm)], eI Γ (b 10) 96 lt] rfl rfl rfl [] rfl (Nat.le_of_ble_eq_true rfl) ?_
  refine r_aload_n K dX6_yard_11 0 rfl ?_
  refine r_get K dX6_yard_12 (kf := 4) 0 rfl rfl hinX6 (by decide) q118 rfl rfl ?_
  refine r_aload_n K dX6_yard_15 0 rfl ?_
  refine r_get K dX6_yard_16 (kf := 1) 0 rfl rfl hinX6 (by decide) q115 rfl rfl ?_
  refine r_cVd K dX6_yard_19 (c_X3_tellTo l Γ (b 4) (b 10) lt lm (b 1) ad r (by first | assumption | omega) (hI)) mX3_tellTo q170 rfl (by decide) rfl rfl 5 rfl [3, 4, 2] [0, 1] rfl rfl [go h b rm hi, ydW Γ (b 0) an r] rfl [go h b rm hi, ydW Γ (b 0) an r, ydW Γ (b 1) ad (tlQ lt lm r), eO (b 4) 1 [.ref (b 10), .int (nI lm)], eI Γ (b 10) 96 lt] rfl rfl rfl [] rfl (Nat.le_of_ble_eq_true rfl) ?_
  refine r_istore_n K dX6_yard_22 rfl (by decide) (lv1 := [(1, .int (tlA lt lm r)), (0, .ref h)]) rfl ?_
  refine r_aload_n K dX6_yard_23 1 rfl ?_
  refine r_get K dX6_yard_24 (kf := 4) 0 rfl rfl hinX6 (by decide) q118 rfl rfl ?_
  refine r_cVn K dX6_yard_27 (c_X3_forget l Γ (b 4) (b 10) lt lm (by first | assumption | omega)) mX3_forget q289 rfl (by decide) rfl rfl 5 rfl [3, 4] [0, 1, 2] rfl rfl [go h b rm hi, ydW Γ (b 0) an r, ydW Γ (b 1) ad (tlQ lt lm r)] rfl [go h b rm hi, ydW Γ (b 0) an r, ydW Γ (b 1) ad (tlQ lt lm r), eO (b 4) 1 [.ref (b 10), .int (nI 0)], eI Γ (b 10) 96 lt] rfl rfl rfl [] rfl (Nat.le_of_ble_eq_true rfl) ?_
  refine r_iload_n K dX6_yard_30 0 rfl ?_
  refine r_if_lt K dX6_yard_31 (fun c31 => ?_) (fun c31 => ?_)
  · refine r_ws K (ws1 := [go h b rm hi, ydW Γ (b 0) an (yaR lt lm r), ydW Γ (b 1) ad (tlQ lt lm r), eO (b 4) 1 [.ref (b 10), .int (nI 0)], eI Γ (b 10) 96 lt]) (by rw [yaR_n c31]; exact weq.rf) ?_
    refine r_iload_n K dX6_yard_45 0 rfl ?_
    exact hR (tlQ lt lm r) dX6_yard_46 (trivial) (e_ri (rfl)) (weq.rf)
  · refine r_aload_n K dX6_yard_34 1 rfl ?_
    refine r_get K dX6_yard_35 (kf := 0) 0 rfl rfl hinX6 (by decide) q114 rfl rfl ?_
    refine r_aload_n K dX6_yard_38 1 rfl ?_
    refine r_get K dX6_yard_39 (kf := 1) 0 rfl rfl hinX6 (by decide) q115 rfl rfl ?_
    refine r_cVn K dX6_yard_42 (c_X0_become l Γ (b 0) an r (b 1) ad (tlQ lt lm r)) mX0_become q166 rfl (by decide) rfl rfl 5 rfl [1, 2] [0, 3, 4] rfl rfl [go h b rm hi, eO (b 4) 1 [.ref (b 10), .int (nI 0)], eI Γ (b 10) 96 lt] rfl [go h b rm hi, ydW Γ (b 0) an (tlQ lt lm r), ydW Γ (b 1) ad (tlQ lt lm r), eO (b 4) 1 [.ref (b 10), .int (nI 0)], eI Γ (b 10) 96 lt] rfl rfl rfl [] rfl (Nat.le_of_ble_eq_true rfl) ?_
    refine r_ws K (ws1 := [go h b rm hi, ydW Γ (b 0) an (yaR lt lm r), ydW Γ (b 1) ad (tlQ lt lm r), eO (b 4) 1 [.ref (b 10), .int (nI 0)], eI Γ (b 10) 96 lt]) (by rw [yaR_p c31]; exact weq.rf) ?_
    refine r_iload_n K dX6_yard_45 0 rfl ?_
    exact hR (tlQ lt lm r) dX6_yard_46 (trivial) (e_ri (rfl)) (weq.rf)
set_option maxHeartbeats 1000000 in
set_option maxRecDepth 20000 in
theorem c_X6_grave (l : Launch) (Γ : eG) (h : Nat) (b : Nat → Nat) (rm : Nat) (hi : Bool) (an : Nat → Nat) (r : Nat → Int32) (rf : Nat → Int32) (x : Int32) (w : Int32) (hI : Inv r) : cD l Γ yX6_grave cX6_grave 3 (some .int) 5 [.ref h, .int x, .int w] [go h b rm hi, ydW Γ (b 0) an r, eI Γ (b 7) 7 rf] (some (.int (chE (eGrave r x w) (aGrave r x w) (eGrave r x w)))) [go h b rm hi, ydW Γ (b 0) an r, eI Γ (b 7) 7 (chE (eGrave r x w) rf (nof rf (eGrave r x w)))] := by
  refine e_int [(0, .ref h), (1, .int x), (2, .int w)] (by decide +kernel) (Nat.le_of_ble_eq_true rfl) rfl (fun V K hR => ?_)
  have h5 := hI.g
  have h6 := hI.m
  refine r_aload_n K dX6_grave_0 0 rfl ?_
  refine r_get K dX6_grave_1 (kf := 0) 0 rfl rfl hinX6 (by decide) q114 rfl rfl ?_
  refine r_iload_n K dX6_grave_4 1 rfl ?_
  refine r_cVd K dX6_grave_5 (c_X0_hasGrave l Γ (b 0) an r x (hI)) mX0_hasGrave q297 rfl (by decide) rfl rfl 3 rfl [1] [0, 2] rfl rfl [go h b rm hi, eI Γ (b 7) 7 rf] rfl [go h b rm hi, ydW Γ (b 0) an r, eI Γ (b 7) 7 rf] rfl rfl rfl [] rfl (Nat.le_of_ble_eq_true rfl) ?_
  refine r_ifneB K dX6_grave_8 (fun c8 => ?_) (fun c8 => ?_)
  · have hx := inN_e c8 (by omega)
    have lx := ix_lt c8 (by omega)
    refine r_lc (lv1 := [(0, .ref h), (1, .int (nI (ix x))), (2, .int w)]) (congrArg (fun zz : Int32 => ([(0, .ref h), (1, .int zz), (2, .int w)] : List (Nat × Value))) (hx)) ?_
    refine r_iload_n K dX6_grave_17 2 rfl ?_
    refine r_tsw K dX6_grave_18.1 [56, 65, 74, 83, 92, 101] 110 (by decide) (by decide) (by decide) ⟨fun c18 => ?_, fun c18 => ?_, fun c18 => ?_, fun c18 => ?_, fun c18 => ?_, fun c18 => ?_, trivial⟩ (fun c18 => ?_)
    · have c18 : w = nI 0 := c18
      have hb : isInB w (nI 0) (nI 5) = true := by rw [c18]; rfl
      refine r_aload_n K dX6_grave_56 0 rfl ?_
      refine r_get K dX6_grave_57 (kf := 0) 0 rfl rfl hinX6 (by decide) q114 rfl rfl ?_
      refine r_iload_n K dX6_grave_60 1 rfl ?_
      refine r_cVd K dX6_grave_61 (c_X0_hardnessN l Γ (b 0) an r (ix x) (hI) (by first | omega | (simp only [daysS_nM, daysS_nG, dayS_nM, dayS_nG, tellS_nM, tellS_nG, aloneTo_nM, aloneTo_nG, nM_M, nG_M, nM_G, nG_G, lv_nM, lv_nG, gnT_nM, gnT_nG] <;> omega))) mX0_hardness q298 rfl (by decide) rfl rfl 3 rfl [1] [0, 2] rfl rfl [go h b rm hi, eI Γ (b 7) 7 rf] rfl [go h b rm hi, ydW Γ (b 0) an r, eI Γ (b 7) 7 rf] rfl rfl rfl [] rfl (Nat.le_of_ble_eq_true rfl) ?_
      have he : eGrave r x w = 0 := by
        unfold eGrave
        rw [if_neg (not_not_intro c8), if_neg (not_not_intro hb)]
      refine r_arr K (f2 := chE (eGrave r x w) rf (nof rf (eGrave r x w))) (ws1 := [go h b rm hi, ydW Γ (b 0) an r, eI Γ (b 7) 7 (chE (eGrave r x w) rf (nof rf (eGrave r x w)))]) 2 rfl (fun _ _ => by rw [chE_0 he]) rfl ?_
      exact hR () dX6_grave_64 (trivial) (e_ri (ex_0 he (by rw [c18]; rfl))) (weq.rf)
    · have c18 : w = nI 1 := c18
      have hb : isInB w (nI 0) (nI 5) = true := by rw [c18]; rfl
      refine r_aload_n K dX6_grave_65 0 rfl ?_
      refine r_get K dX6_grave_66 (kf := 0) 0 rfl rfl hinX6 (by decide) q114 rfl rfl ?_
      refine r_iload_n K dX6_grave_69 1 rfl ?_
      refine r_cVd K dX6_grave_70 (c_X0_depthN l Γ (b 0) an r (ix x) (hI) (by first | omega | (simp only [daysS_nM, daysS_nG, dayS_nM, dayS_nG, tellS_nM, tellS_nG, aloneTo_nM, aloneTo_nG, nM_M, nG_M, nM_G, nG_G, lv_nM, lv_nG, gnT_nM, gnT_nG] <;> omega))) mX0_depth q302 rfl (by decide) rfl rfl 3 rfl [1] [0, 2] rfl rfl [go h b rm hi, eI Γ (b 7) 7 rf] rfl [go h b rm hi, ydW Γ (b 0) an r, eI Γ (b 7) 7 rf] rfl rfl rfl [] rfl (Nat.le_of_ble_eq_true rfl) ?_
      have he : eGrave r x w = 0 := by
        unfold eGrave
        rw [if_neg (not_not_intro c8), if_neg (not_not_intro hb)]
      refine r_arr K (f2 := chE (eGrave r x w) rf (nof rf (eGrave r x w))) (ws1 := [go h b rm hi, ydW Γ (b 0) an r, eI Γ (b 7) 7 (chE (eGrave r x w) rf (nof rf (eGrave r x w)))]) 2 rfl (fun _ _ => by rw [chE_0 he]) rfl ?_
      exact hR () dX6_grave_73 (trivial) (e_ri (ex_0 he (by rw [c18]; rfl))) (weq.rf)
    · have c18 : w = nI 2 := c18
      have hb : isInB w (nI 0) (nI 5) = true := by rw [c18]; rfl
      refine r_aload_n K dX6_grave_74 0 rfl ?_
      refine r_get K dX6_grave_75 (kf := 0) 0 rfl rfl hinX6 (by decide) q114 rfl rfl ?_
      refine r_iload_n K dX6_grave_78 1 rfl ?_
      refine r_cVd K dX6_grave_79 (c_X0_wetnessN l Γ (b 0) an r (ix x) (hI) (by first | omega | (simp only [daysS_nM, daysS_nG, dayS_nM, dayS_nG, tellS_nM, tellS_nG, aloneTo_nM, aloneTo_nG, nM_M, nG_M, nM_G, nG_G, lv_nM, lv_nG, gnT_nM, gnT_nG] <;> omega))) mX0_wetness q306 rfl (by decide) rfl rfl 3 rfl [1] [0, 2] rfl rfl [go h b rm hi, eI Γ (b 7) 7 rf] rfl [go h b rm hi, ydW Γ (b 0) an r, eI Γ (b 7) 7 rf] rfl rfl rfl [] rfl (Nat.le_of_ble_eq_true rfl) ?_
      have he : eGrave r x w = 0 := by
        unfold eGrave
        rw [if_neg (not_not_intro c8), if_neg (not_not_intro hb)]
      refine r_arr K (f2 := chE (eGrave r x w) rf (nof rf (eGrave r x w))) (ws1 := [go h b rm hi, ydW Γ (b 0) an r, eI Γ (b 7) 7 (chE (eGrave r x w) rf (nof rf (eGrave r x w)))]) 2 rfl (fun _ _ => by rw [chE_0 he]) rfl ?_
      exact hR () dX6_grave_82 (trivial) (e_ri (ex_0 he (by rw [c18]; rfl))) (weq.rf)
    · have c18 : w = nI 3 := c18
      have hb : isInB w (nI 0) (nI 5) = true := by rw [c18]; rfl
      refine r_aload_n K dX6_grave_83 0 rfl ?_
      refine r_get K dX6_grave_84 (kf := 0) 0 rfl rfl hinX6 (by decide) q114 rfl rfl ?_
      refine r_iload_n K dX6_grave_87 1 rfl ?_
      refine r_cVd K dX6_grave_88 (c_X0_payOf l Γ (b 0) an r (ix x) (hI) (by first | omega | (simp only [daysS_nM, daysS_nG, dayS_nM, dayS_nG, tellS_nM, tellS_nG, aloneTo_nM, aloneTo_nG, nM_M, nG_M, nM_G, nG_G, lv_nM, lv_nG, gnT_nM, gnT_nG] <;> omega))) mX0_payOf q310 rfl (by decide) rfl rfl 3 rfl [1] [0, 2] rfl rfl [go h b rm hi, eI Γ (b 7) 7 rf] rfl [go h b rm hi, ydW Γ (b 0) an r, eI Γ (b 7) 7 rf] rfl rfl rfl [] rfl (Nat.le_of_ble_eq_true rfl) ?_
      have he : eGrave r x w = 0 := by
        unfold eGrave
        rw [if_neg (not_not_intro c8), if_neg (not_not_intro hb)]
      refine r_arr K (f2 := chE (eGrave r x w) rf (nof rf (eGrave r x w))) (ws1 := [go h b rm hi, ydW Γ (b 0) an r, eI Γ (b 7) 7 (chE (eGrave r x w) rf (nof rf (eGrave r x w)))]) 2 rfl (fun _ _ => by rw [chE_0 he]) rfl ?_
      exact hR () dX6_grave_91 (trivial) (e_ri (ex_0 he (by rw [c18]; rfl))) (weq.rf)
    · have c18 : w = nI 4 := c18
      have hb : isInB w (nI 0) (nI 5) = true := by rw [c18]; rfl
      refine r_aload_n K dX6_grave_92 0 rfl ?_
      refine r_get K dX6_grave_93 (kf := 0) 0 rfl rfl hinX6 (by decide) q114 rfl rfl ?_
      refine r_iload_n K dX6_grave_96 1 rfl ?_
      refine r_cVd K dX6_grave_97 (c_X0_weepingAt l Γ (b 0) an r (nI (ix x)) (hI) (nI_n9 (by omega))) mX0_weepingAt q315 rfl (by decide) rfl rfl 3 rfl [1] [0, 2] rfl rfl [go h b rm hi, eI Γ (b 7) 7 rf] rfl [go h b rm hi, ydW Γ (b 0) an r, eI Γ (b 7) 7 rf] rfl rfl rfl [] rfl (Nat.le_of_ble_eq_true rfl) ?_
      have he : eGrave r x w = 0 := by
        unfold eGrave
        rw [if_neg (not_not_intro c8), if_neg (not_not_intro hb)]
      refine r_arr K (f2 := chE (eGrave r x w) rf (nof rf (eGrave r x w))) (ws1 := [go h b rm hi, ydW Γ (b 0) an r, eI Γ (b 7) 7 (chE (eGrave r x w) rf (nof rf (eGrave r x w)))]) 2 rfl (fun _ _ => by rw [chE_0 he]) rfl ?_
      exact hR () dX6_grave_100 (trivial) (e_ri (ex_0 he (by rw [c18, ← hx]; rfl))) (weq.rf)
    · have c18 : w = nI 5 := c18
      have hb : isInB w (nI 0) (nI 5) = true := by rw [c18]; rfl
      refine r_aload_n K dX6_grave_101 0 rfl ?_
      refine r_get K dX6_grave_102 (kf := 0) 0 rfl rfl hinX6 (by decide) q114 rfl rfl ?_
      refine r_iload_n K dX6_grave_105 1 rfl ?_
      refine r_cVd K dX6_grave_106 (c_X0_daysToFoot l Γ (b 0) an r (ix x) (hI) (by first | omega | (simp only [daysS_nM, daysS_nG, dayS_nM, dayS_nG, tellS_nM, tellS_nG, aloneTo_nM, aloneTo_nG, nM_M, nG_M, nM_G, nG_G, lv_nM, lv_nG, gnT_nM, gnT_nG] <;> omega))) mX0_daysToFoot q327 rfl (by decide) rfl rfl 3 rfl [1] [0, 2] rfl rfl [go h b rm hi, eI Γ (b 7) 7 rf] rfl [go h b rm hi, ydW Γ (b 0) an r, eI Γ (b 7) 7 rf] rfl rfl rfl [] rfl (Nat.le_of_ble_eq_true rfl) ?_
      have he : eGrave r x w = 0 := by
        unfold eGrave
        rw [if_neg (not_not_intro c8), if_neg (not_not_intro hb)]
      refine r_arr K (f2 := chE (eGrave r x w) rf (nof rf (eGrave r x w))) (ws1 := [go h b rm hi, ydW Γ (b 0) an r, eI Γ (b 7) 7 (chE (eGrave r x w) rf (nof rf (eGrave r x w)))]) 2 rfl (fun _ _ => by rw [chE_0 he]) rfl ?_
      exact hR () dX6_grave_109 (trivial) (e_ri (ex_0 he (by rw [c18]; rfl))) (weq.rf)
    · have c18 : ∀ v : Nat, 0 ≤ v → v ≤ 5 → v < 2 ^ 31 → ¬ w = nI v := tsw_out c18
      have hb : isInB w (nI 0) (nI 5) = false := isInB_out (by decide) (by decide) c18
      refine r_aload_n K dX6_grave_110 0 rfl ?_
      refine r_bipush K dX6_grave_111 ((-2)) (by decide) ?_
      refine r_cVd K dX6_grave_113 (c_X6_refuse l Γ h b rm hi rf (-2) (okR_2)) mX6_refuse q149 rfl (by decide) rfl rfl 3 rfl [0, 2] [1] rfl rfl [ydW Γ (b 0) an r] rfl [go h b rm hi, ydW Γ (b 0) an r, eI Γ (b 7) 7 (nof rf (-2))] rfl rfl rfl [] rfl (Nat.le_of_ble_eq_true rfl) ?_
      have he : eGrave r x w = (-2) := by
        unfold eGrave
        rw [if_neg (not_not_intro c8), if_pos (nt hb)]
      refine r_arr K (f2 := chE (eGrave r x w) rf (nof rf (eGrave r x w))) (ws1 := [go h b rm hi, ydW Γ (b 0) an r, eI Γ (b 7) 7 (chE (eGrave r x w) rf (nof rf (eGrave r x w)))]) 2 rfl (fun _ _ => by rw [ch_n (g := nof rf) he (by decide)]) rfl ?_
      exact hR () dX6_grave_116 (trivial) (e_ri (ex_n he (by decide))) (weq.rf)
  · refine r_aload_n K dX6_grave_11 0 rfl ?_
    refine r_iconst K dX6_grave_12 ((-1)) (by decide) ?_
    refine r_cVd K dX6_grave_13 (c_X6_refuse l Γ h b rm hi rf (-1) (okR_1)) mX6_refuse q149 rfl (by decide) rfl rfl 3 rfl [0, 2] [1] rfl rfl [ydW Γ (b 0) an r] rfl [go h b rm hi, ydW Γ (b 0) an r, eI Γ (b 7) 7 (nof rf (-1))] rfl rfl rfl [] rfl (Nat.le_of_ble_eq_true rfl) ?_
    have he : eGrave r x w = (-1) := by
      unfold eGrave
      rw [if_pos (nt c8)]
    refine r_arr K (f2 := chE (eGrave r x w) rf (nof rf (eGrave r x w))) (ws1 := [go h b rm hi, ydW Γ (b 0) an r, eI Γ (b 7) 7 (chE (eGrave r x w) rf (nof rf (eGrave r x w)))]) 2 rfl (fun _ _ => by rw [ch_n (g := nof rf) he (by decide)]) rfl ?_
    exact hR () dX6_grave_16 (trivial) (e_ri (ex_n he (by decide))) (weq.rf)
set_option maxHeartbeats 1000000 in
set_option maxRecDepth 20000 in
theorem c_X6_mourner (l : Launch) (Γ : eG) (h : Nat) (b : Nat → Nat) (rm : Nat) (hi : Bool) (an : Nat → Nat) (r : Nat → Int32) (rf : Nat → Int32) (x : Int32) (w : Int32) (hI : Inv r) : cD l Γ yX6_mourner cX6_mourner 3 (some .int) 3 [.ref h, .int x, .int w] [go h b rm hi, ydW Γ (b 0) an r, eI Γ (b 7) 7 rf] (some (.int (chE (eMourner r x w) (aMourner r x w) (eMourner r x w)))) [go h b rm hi, ydW Γ (b 0) an r, eI Γ (b 7) 7 (chE (eMourner r x w) rf (nof rf (eMourner r x w)))] := by
  refine e_int [(0, .ref h), (1, .int x), (2, .int w)] (by decide +kernel) (Nat.le_of_ble_eq_true rfl) rfl (fun V K hR => ?_)
  have h5 := hI.g
  have h6 := hI.m
  refine r_aload_n K dX6_mourner_0 0 rfl ?_
  refine r_get K dX6_mourner_1 (kf := 0) 0 rfl rfl hinX6 (by decide) q114 rfl rfl ?_
  refine r_iload_n K dX6_mourner_4 1 rfl ?_
  refine r_cVd K dX6_mourner_5 (c_X0_hasMourner l Γ (b 0) an r x (hI)) mX0_hasMourner q347 rfl (by decide) rfl rfl 3 rfl [1] [0, 2] rfl rfl [go h b rm hi, eI Γ (b 7) 7 rf] rfl [go h b rm hi, ydW Γ (b 0) an r, eI Γ (b 7) 7 rf] rfl rfl rfl [] rfl (Nat.le_of_ble_eq_true rfl) ?_
  refine r_ifneB K dX6_mourner_8 (fun c8 => ?_) (fun c8 => ?_)
  · have hx := inN_e c8 (by omega)
    have lx := ix_lt c8 (by omega)
    refine r_lc (lv1 := [(0, .ref h), (1, .int (nI (ix x))), (2, .int w)]) (congrArg (fun zz : Int32 => ([(0, .ref h), (1, .int zz), (2, .int w)] : List (Nat × Value))) (hx)) ?_
    refine r_iload_n K dX6_mourner_17 2 rfl ?_
    refine r_tsw K dX6_mourner_18.1 [52, 61, 70, 79, 88] 97 (by decide) (by decide) (by decide) ⟨fun c18 => ?_, fun c18 => ?_, fun c18 => ?_, fun c18 => ?_, fun c18 => ?_, trivial⟩ (fun c18 => ?_)
    · have c18 : w = nI 0 := c18
      have hb : isInB w (nI 0) (nI 4) = true := by rw [c18]; rfl
      refine r_aload_n K dX6_mourner_52 0 rfl ?_
      refine r_get K dX6_mourner_53 (kf := 0) 0 rfl rfl hinX6 (by decide) q114 rfl rfl ?_
      refine r_iload_n K dX6_mourner_56 1 rfl ?_
      refine r_cVd K dX6_mourner_57 (c_X0_kindOfN l Γ (b 0) an r (ix x) (hI) (by first | omega | (simp only [daysS_nM, daysS_nG, dayS_nM, dayS_nG, tellS_nM, tellS_nG, aloneTo_nM, aloneTo_nG, nM_M, nG_M, nM_G, nG_G, lv_nM, lv_nG, gnT_nM, gnT_nG] <;> omega))) mX0_kindOf q348 rfl (by decide) rfl rfl 3 rfl [1] [0, 2] rfl rfl [go h b rm hi, eI Γ (b 7) 7 rf] rfl [go h b rm hi, ydW Γ (b 0) an r, eI Γ (b 7) 7 rf] rfl rfl rfl [] rfl (Nat.le_of_ble_eq_true rfl) ?_
      have he : eMourner r x w = 0 := by
        unfold eMourner
        rw [if_neg (not_not_intro c8), if_neg (not_not_intro hb)]
      refine r_arr K (f2 := chE (eMourner r x w) rf (nof rf (eMourner r x w))) (ws1 := [go h b rm hi, ydW Γ (b 0) an r, eI Γ (b 7) 7 (chE (eMourner r x w) rf (nof rf (eMourner r x w)))]) 2 rfl (fun _ _ => by rw [chE_0 he]) rfl ?_
      exact hR () dX6_mourner_60 (trivial) (e_ri (ex_0 he (by rw [c18]; rfl))) (weq.rf)
    · have c18 : w = nI 1 := c18
      have hb : isInB w (nI 0) (nI 4) = true := by rw [c18]; rfl
      refine r_aload_n K dX6_mourner_61 0 rfl ?_
      refine r_get K dX6_mourner_62 (kf := 0) 0 rfl rfl hinX6 (by decide) q114 rfl rfl ?_
      refine r_iload_n K dX6_mourner_65 1 rfl ?_
      refine r_cVd K dX6_mourner_66 (c_X0_figureOfN l Γ (b 0) an r (ix x) (hI) (by first | omega | (simp only [daysS_nM, daysS_nG, dayS_nM, dayS_nG, tellS_nM, tellS_nG, aloneTo_nM, aloneTo_nG, nM_M, nG_M, nM_G, nG_G, lv_nM, lv_nG, gnT_nM, gnT_nG] <;> omega))) mX0_figureOf q349 rfl (by decide) rfl rfl 3 rfl [1] [0, 2] rfl rfl [go h b rm hi, eI Γ (b 7) 7 rf] rfl [go h b rm hi, ydW Γ (b 0) an r, eI Γ (b 7) 7 rf] rfl rfl rfl [] rfl (Nat.le_of_ble_eq_true rfl) ?_
      have he : eMourner r x w = 0 := by
        unfold eMourner
        rw [if_neg (not_not_intro c8), if_neg (not_not_intro hb)]
      refine r_arr K (f2 := chE (eMourner r x w) rf (nof rf (eMourner r x w))) (ws1 := [go h b rm hi, ydW Γ (b 0) an r, eI Γ (b 7) 7 (chE (eMourner r x w) rf (nof rf (eMourner r x w)))]) 2 rfl (fun _ _ => by rw [chE_0 he]) rfl ?_
      exact hR () dX6_mourner_69 (trivial) (e_ri (ex_0 he (by rw [c18]; rfl))) (weq.rf)
    · have c18 : w = nI 2 := c18
      have hb : isInB w (nI 0) (nI 4) = true := by rw [c18]; rfl
      refine r_aload_n K dX6_mourner_70 0 rfl ?_
      refine r_get K dX6_mourner_71 (kf := 0) 0 rfl rfl hinX6 (by decide) q114 rfl rfl ?_
      refine r_iload_n K dX6_mourner_74 1 rfl ?_
      refine r_cVd K dX6_mourner_75 (c_X0_griefOfN l Γ (b 0) an r (ix x) (hI) (by first | omega | (simp only [daysS_nM, daysS_nG, dayS_nM, dayS_nG, tellS_nM, tellS_nG, aloneTo_nM, aloneTo_nG, nM_M, nG_M, nM_G, nG_G, lv_nM, lv_nG, gnT_nM, gnT_nG] <;> omega))) mX0_griefOf q350 rfl (by decide) rfl rfl 3 rfl [1] [0, 2] rfl rfl [go h b rm hi, eI Γ (b 7) 7 rf] rfl [go h b rm hi, ydW Γ (b 0) an r, eI Γ (b 7) 7 rf] rfl rfl rfl [] rfl (Nat.le_of_ble_eq_true rfl) ?_
      have he : eMourner r x w = 0 := by
        unfold eMourner
        rw [if_neg (not_not_intro c8), if_neg (not_not_intro hb)]
      refine r_arr K (f2 := chE (eMourner r x w) rf (nof rf (eMourner r x w))) (ws1 := [go h b rm hi, ydW Γ (b 0) an r, eI Γ (b 7) 7 (chE (eMourner r x w) rf (nof rf (eMourner r x w)))]) 2 rfl (fun _ _ => by rw [chE_0 he]) rfl ?_
      exact hR () dX6_mourner_78 (trivial) (e_ri (ex_0 he (by rw [c18]; rfl))) (weq.rf)
    · have c18 : w = nI 3 := c18
      have hb : isInB w (nI 0) (nI 4) = true := by rw [c18]; rfl
      refine r_aload_n K dX6_mourner_79 0 rfl ?_
      refine r_get K dX6_mourner_80 (kf := 0) 0 rfl rfl hinX6 (by decide) q114 rfl rfl ?_
      refine r_iload_n K dX6_mourner_83 1 rfl ?_
      refine r_cVd K dX6_mourner_84 (c_X0_placeOfN l Γ (b 0) an r (ix x) (hI) (by first | omega | (simp only [daysS_nM, daysS_nG, dayS_nM, dayS_nG, tellS_nM, tellS_nG, aloneTo_nM, aloneTo_nG, nM_M, nG_M, nM_G, nG_G, lv_nM, lv_nG, gnT_nM, gnT_nG] <;> omega))) mX0_placeOf q351 rfl (by decide) rfl rfl 3 rfl [1] [0, 2] rfl rfl [go h b rm hi, eI Γ (b 7) 7 rf] rfl [go h b rm hi, ydW Γ (b 0) an r, eI Γ (b 7) 7 rf] rfl rfl rfl [] rfl (Nat.le_of_ble_eq_true rfl) ?_
      have he : eMourner r x w = 0 := by
        unfold eMourner
        rw [if_neg (not_not_intro c8), if_neg (not_not_intro hb)]
      refine r_arr K (f2 := chE (eMourner r x w) rf (nof rf (eMourner r x w))) (ws1 := [go h b rm hi, ydW Γ (b 0) an r, eI Γ (b 7) 7 (chE (eMourner r x w) rf (nof rf (eMourner r x w)))]) 2 rfl (fun _ _ => by rw [chE_0 he]) rfl ?_
      exact hR () dX6_mourner_87 (trivial) (e_ri (ex_0 he (by rw [c18]; rfl))) (weq.rf)
    · have c18 : w = nI 4 := c18
      have hb : isInB w (nI 0) (nI 4) = true := by rw [c18]; rfl
      refine r_aload_n K dX6_mourner_88 0 rfl ?_
      refine r_get K dX6_mourner_89 (kf := 0) 0 rfl rfl hinX6 (by decide) q114 rfl rfl ?_
      refine r_iload_n K dX6_mourner_92 1 rfl ?_
      refine r_cVd K dX6_mourner_93 (c_X0_weeps l Γ (b 0) an r (ix x) (hI) (by first | omega | (simp only [daysS_nM, daysS_nG, dayS_nM, dayS_nG, tellS_nM, tellS_nG, aloneTo_nM, aloneTo_nG, nM_M, nG_M, nM_G, nG_G, lv_nM, lv_nG, gnT_nM, gnT_nG] <;> omega))) mX0_weeps q355 rfl (by decide) rfl rfl 3 rfl [1] [0, 2] rfl rfl [go h b rm hi, eI Γ (b 7) 7 rf] rfl [go h b rm hi, ydW Γ (b 0) an r, eI Γ (b 7) 7 rf] rfl rfl rfl [] rfl (Nat.le_of_ble_eq_true rfl) ?_
      have he : eMourner r x w = 0 := by
        unfold eMourner
        rw [if_neg (not_not_intro c8), if_neg (not_not_intro hb)]
      refine r_arr K (f2 := chE (eMourner r x w) rf (nof rf (eMourner r x w))) (ws1 := [go h b rm hi, ydW Γ (b 0) an r, eI Γ (b 7) 7 (chE (eMourner r x w) rf (nof rf (eMourner r x w)))]) 2 rfl (fun _ _ => by rw [chE_0 he]) rfl ?_
      exact hR () dX6_mourner_96 (trivial) (e_ri (ex_0 he (by rw [c18]; rfl))) (weq.rf)
    · have c18 : ∀ v : Nat, 0 ≤ v → v ≤ 4 → v < 2 ^ 31 → ¬ w = nI v := tsw_out c18
      have hb : isInB w (nI 0) (nI 4) = false := isInB_out (by decide) (by decide) c18
      refine r_aload_n K dX6_mourner_97 0 rfl ?_
      refine r_bipush K dX6_mourner_98 ((-2)) (by decide) ?_
      refine r_cVd K dX6_mourner_100 (c_X6_refuse l Γ h b rm hi rf (-2) (okR_2)) mX6_refuse q149 rfl (by decide) rfl rfl 3 rfl [0, 2] [1] rfl rfl [ydW Γ (b 0) an r] rfl [go h b rm hi, ydW Γ (b 0) an r, eI Γ (b 7) 7 (nof rf (-2))] rfl rfl rfl [] rfl (Nat.le_of_ble_eq_true rfl) ?_
      have he : eMourner r x w = (-2) := by
        unfold eMourner
        rw [if_neg (not_not_intro c8), if_pos (nt hb)]
      refine r_arr K (f2 := chE (eMourner r x w) rf (nof rf (eMourner r x w))) (ws1 := [go h b rm hi, ydW Γ (b 0) an r, eI Γ (b 7) 7 (chE (eMourner r x w) rf (nof rf (eMourner r x w)))]) 2 rfl (fun _ _ => by rw [ch_n (g := nof rf) he (by decide)]) rfl ?_
      exact hR () dX6_mourner_103 (trivial) (e_ri (ex_n he (by decide))) (weq.rf)
  · refine r_aload_n K dX6_mourner_11 0 rfl ?_
    refine r_iconst K dX6_mourner_12 ((-1)) (by decide) ?_
    refine r_cVd K dX6_mourner_13 (c_X6_refuse l Γ h b rm hi rf (-1) (okR_1)) mX6_refuse q149 rfl (by decide) rfl rfl 3 rfl [0, 2] [1] rfl rfl [ydW Γ (b 0) an r] rfl [go h b rm hi, ydW Γ (b 0) an r, eI Γ (b 7) 7 (nof rf (-1))] rfl rfl rfl [] rfl (Nat.le_of_ble_eq_true rfl) ?_
    have he : eMourner r x w = (-1) := by
      unfold eMourner
      rw [if_pos (nt c8)]
    refine r_arr K (f2 := chE (eMourner r x w) rf (nof rf (eMourner r x w))) (ws1 := [go h b rm hi, ydW Γ (b 0) an r, eI Γ (b 7) 7 (chE (eMourner r x w) rf (nof rf (eMourner r x w)))]) 2 rfl (fun _ _ => by rw [ch_n (g := nof rf) he (by decide)]) rfl ?_
    exact hR () dX6_mourner_16 (trivial) (e_ri (ex_n he (by decide))) (weq.rf)
set_option maxHeartbeats 1000000 in
set_option maxRecDepth 20000 in
theorem c_X6_goes (l : Launch) (Γ : eG) (h : Nat) (b : Nat → Nat) (rm : Nat) (hi : Bool) (an : Nat → Nat) (r : Nat → Int32) (rf : Nat → Int32) (x : Int32) (y : Int32) (hI : Inv r) : cD l Γ yX6_goes cX6_goes 4 (some .int) 2 [.ref h, .int x, .int y] [go h b rm hi, ydW Γ (b 0) an r, eI Γ (b 7) 7 rf] (some (.int (chE (eGoes r x y) (r (iM (ix x) 3)) (eGoes r x y)))) [go h b rm hi, ydW Γ (b 0) an (chE (eGoes r x y) (upd r (iM (ix x) 3) y) r), eI Γ (b 7) 7 (chE (eGoes r x y) rf (nof rf (eGoes r x y)))] := by
  refine e_int [(0, .ref h), (1, .int x), (2, .int y)] (by decide +kernel) (Nat.le_of_ble_eq_true rfl) rfl (fun V K hR => ?_)
  have h5 := hI.g
  have h6 := hI.m
  refine r_aload_n K dX6_goes_0 0 rfl ?_
  refine r_get K dX6_goes_1 (kf := 0) 0 rfl rfl hinX6 (by decide) q114 rfl rfl ?_
  refine r_iload_n K dX6_goes_4 1 rfl ?_
  refine r_cVd K dX6_goes_5 (c_X0_hasMourner l Γ (b 0) an r x (hI)) mX0_hasMourner q347 rfl (by decide) rfl rfl 3 rfl [1] [0, 2] rfl rfl [go h b rm hi, eI Γ (b 7) 7 rf] rfl [go h b rm hi, ydW Γ (b 0) an r, eI Γ (b 7) 7 rf] rfl rfl rfl [] rfl (Nat.le_of_ble_eq_true rfl) ?_
  refine r_ifeqB K dX6_goes_8 (fun c8 => ?_) (fun c8 => ?_)
  · refine r_aload_n K dX6_goes_22 0 rfl ?_
    refine r_iconst K dX6_goes_23 ((-1)) (by decide) ?_
    refine r_cVd K dX6_goes_24 (c_X6_refuse l Γ h b rm hi rf (-1) (okR_1)) mX6_refuse q149 rfl (by decide) rfl rfl 3 rfl [0, 2] [1] rfl rfl [ydW Γ (b 0) an r] rfl [go h b rm hi, ydW Γ (b 0) an r, eI Γ (b 7) 7 (nof rf (-1))] rfl rfl rfl [] rfl (Nat.le_of_ble_eq_true rfl) ?_
    have he : eGoes r x y = (-1) := by
      unfold eGoes
      rw [if_pos (nt c8)]
    refine r_arr K (f2 := chE (eGoes r x y) rf (nof rf (eGoes r x y))) (ws1 := [go h b rm hi, ydW Γ (b 0) an r, eI Γ (b 7) 7 (chE (eGoes r x y) rf (nof rf (eGoes r x y)))]) 2 rfl (fun _ _ => by rw [ch_n (g := nof rf) he (by decide)]) rfl ?_
    refine r_ws K (ws1 := [go h b rm hi, ydW Γ (b 0) an (chE (eGoes r x y) (upd r (iM (ix x) 3) y) r), eI Γ (b 7) 7 (chE (eGoes r x y) rf (nof rf (eGoes r x y)))]) (by rw [chE_n (a := upd r (iM (ix x) 3) y) (b := r) (by rw [he]; exact (by decide))]; exact weq.rf) ?_
    exact hR () dX6_goes_27 (trivial) (e_ri (ex_n he (by decide))) (weq.rf)
  · have hx := inN_e c8 (by omega)
    have lx := ix_lt c8 (by omega)
    refine r_lc (lv1 := [(0, .ref h), (1, .int (nI (ix x))), (2, .int y)]) (congrArg (fun zz : Int32 => ([(0, .ref h), (1, .int zz), (2, .int y)] : List (Nat × Value))) (hx)) ?_
    refine r_aload_n K dX6_goes_11 0 rfl ?_
    refine r_get K dX6_goes_12 (kf := 0) 0 rfl rfl hinX6 (by decide) q114 rfl rfl ?_
    refine r_iload_n K dX6_goes_15 2 rfl ?_
    refine r_cVd K dX6_goes_16 (c_X0_hasGrave l Γ (b 0) an r y (hI)) mX0_hasGrave q297 rfl (by decide) rfl rfl 3 rfl [1] [0, 2] rfl rfl [go h b rm hi, eI Γ (b 7) 7 rf] rfl [go h b rm hi, ydW Γ (b 0) an r, eI Γ (b 7) 7 rf] rfl rfl rfl [] rfl (Nat.le_of_ble_eq_true rfl) ?_
    refine r_ifneB K dX6_goes_19 (fun c19 => ?_) (fun c19 => ?_)
    · have hy := inN_e c19 (by omega)
      have ly := ix_lt c19 (by omega)
      refine r_aload_n K dX6_goes_28 0 rfl ?_
      refine r_get K dX6_goes_29 (kf := 0) 0 rfl rfl hinX6 (by decide) q114 rfl rfl ?_
      refine r_iload_n K dX6_goes_32 1 rfl ?_
      refine r_cVd K dX6_goes_33 (c_X0_placeOfN l Γ (b 0) an r (ix x) (hI) (by first | omega | (simp only [daysS_nM, daysS_nG, dayS_nM, dayS_nG, tellS_nM, tellS_nG, aloneTo_nM, aloneTo_nG, nM_M, nG_M, nM_G, nG_G, lv_nM, lv_nG, gnT_nM, gnT_nG] <;> omega))) mX0_placeOf q351 rfl (by decide) rfl rfl 3 rfl [1] [0, 2] rfl rfl [go h b rm hi, eI Γ (b 7) 7 rf] rfl [go h b rm hi, ydW Γ (b 0) an r, eI Γ (b 7) 7 rf] rfl rfl rfl [] rfl (Nat.le_of_ble_eq_true rfl) ?_
      refine r_istore_n K dX6_goes_36 rfl (by decide) (lv1 := [(3, .int (r (iM (ix x) 3))), (0, .ref h), (1, .int (nI (ix x))), (2, .int y)]) rfl ?_
      refine r_aload_n K dX6_goes_37 1 rfl ?_
      refine r_get K dX6_goes_38 (kf := 0) 0 rfl rfl hinX6 (by decide) q114 rfl rfl ?_
      refine r_iload_n K dX6_goes_41 2 rfl ?_
      refine r_iload_n K dX6_goes_42 3 rfl ?_
      refine r_cVn K dX6_goes_43 (c_X0_place l Γ (b 0) an r (nI (ix x)) y (hI)) mX0_place q360 rfl (by decide) rfl rfl 3 rfl [1] [0, 2] rfl rfl [go h b rm hi, eI Γ (b 7) 7 rf] rfl [go h b rm hi, ydW Γ (b 0) an (setM r 3 (nI (ix x)) y), eI Γ (b 7) 7 rf] rfl rfl rfl [] rfl (Nat.le_of_ble_eq_true rfl) ?_
      refine r_ws K (ws1 := [go h b rm hi, ydW Γ (b 0) an (upd r (iM (ix x) 3) y), eI Γ (b 7) 7 rf]) (by rw [setM_N lx h6]; exact weq.rf) ?_
      refine r_iload_n K dX6_goes_46 0 rfl ?_
      have he : eGoes r x y = 0 := by
        unfold eGoes
        rw [if_neg (not_not_intro c8), if_neg (not_not_intro c19)]
      refine r_arr K (f2 := chE (eGoes r x y) rf (nof rf (eGoes r x y))) (ws1 := [go h b rm hi, ydW Γ (b 0) an (upd r (iM (ix x) 3) y), eI Γ (b 7) 7 (chE (eGoes r x y) rf (nof rf (eGoes r x y)))]) 2 rfl (fun _ _ => by rw [chE_0 he]) rfl ?_
      refine r_ws K (ws1 := [go h b rm hi, ydW Γ (b 0) an (chE (eGoes r x y) (upd r (iM (ix x) 3) y) r), eI Γ (b 7) 7 (chE (eGoes r x y) rf (nof rf (eGoes r x y)))]) (by rw [chE_0 (a := upd r (iM (ix x) 3) y) (b := r) he]; exact weq.rf) ?_
      exact hR () dX6_goes_47 (trivial) (e_ri (ex_0 he (rfl))) (weq.rf)
    · refine r_aload_n K dX6_goes_22 0 rfl ?_
      refine r_iconst K dX6_goes_23 ((-1)) (by decide) ?_
      refine r_cVd K dX6_goes_24 (c_X6_refuse l Γ h b rm hi rf (-1) (okR_1)) mX6_refuse q149 rfl (by decide) rfl rfl 3 rfl [0, 2] [1] rfl rfl [ydW Γ (b 0) an r] rfl [go h b rm hi, ydW Γ (b 0) an r, eI Γ (b 7) 7 (nof rf (-1))] rfl rfl rfl [] rfl (Nat.le_of_ble_eq_true rfl) ?_
      have he : eGoes r x y = (-1) := by
        unfold eGoes
        rw [if_neg (not_not_intro c8), if_pos (nt c19)]
      refine r_arr K (f2 := chE (eGoes r x y) rf (nof rf (eGoes r x y))) (ws1 := [go h b rm hi, ydW Γ (b 0) an r, eI Γ (b 7) 7 (chE (eGoes r x y) rf (nof rf (eGoes r x y)))]) 2 rfl (fun _ _ => by rw [ch_n (g := nof rf) he (by decide)]) rfl ?_
      refine r_ws K (ws1 := [go h b rm hi, ydW Γ (b 0) an (chE (eGoes r x y) (upd r (iM (ix x) 3) y) r), eI Γ (b 7) 7 (chE (eGoes r x y) rf (nof rf (eGoes r x y)))]) (by rw [chE_n (a := upd r (iM (ix x) 3) y) (b := r) (by rw [he]; exact (by decide))]; exact weq.rf) ?_
      exact hR () dX6_goes_27 (trivial) (e_ri (ex_n he (by decide))) (weq.rf)
set_option maxHeartbeats 1000000 in
set_option maxRecDepth 20000 in
theorem c_X6_leaves (l : Launch) (Γ : eG) (h : Nat) (b : Nat → Nat) (rm : Nat) (hi : Bool) (an : Nat → Nat) (r : Nat → Int32) (rf : Nat → Int32) (x : Int32) (hI : Inv r) : cD l Γ yX6_leaves cX6_leaves 3 (some .int) 2 [.ref h, .int x] [go h b rm hi, ydW Γ (b 0) an r, eI Γ (b 7) 7 rf] (some (.int (chE (eLeaves r x) (r (iM (ix x) 3)) (eLeaves r x)))) [go h b rm hi, ydW Γ (b 0) an (chE (eLeaves r x) (upd r (iM (ix x) 3) (-9)) r), eI Γ (b 7) 7 (chE (eLeaves r x) rf (nof rf (eLeaves r x)))] := by
  refine e_int [(0, .ref h), (1, .int x)] (by decide +kernel) (Nat.le_of_ble_eq_true rfl) rfl (fun V K hR => ?_)
  have h5 := hI.g
  have h6 := hI.m
  refine r_aload_n K dX6_leaves_0 0 rfl ?_
  refine r_get K dX6_leaves_1 (kf := 0) 0 rfl rfl hinX6 (by decide) q114 rfl rfl ?_
  refine r_iload_n K dX6_leaves_4 1 rfl ?_
  refine r_cVd K dX6_leaves_5 (c_X0_hasMourner l Γ (b 0) an r x (hI)) mX0_hasMourner q347 rfl (by decide) rfl rfl 3 rfl [1] [0, 2] rfl rfl [go h b rm hi, eI Γ (b 7) 7 rf] rfl [go h b rm hi, ydW Γ (b 0) an r, eI Γ (b 7) 7 rf] rfl rfl rfl [] rfl (Nat.le_of_ble_eq_true rfl) ?_
  refine r_ifneB K dX6_leaves_8 (fun c8 => ?_) (fun c8 => ?_)
  · have hx := inN_e c8 (by omega)
    have lx := ix_lt c8 (by omega)
    refine r_lc (lv1 := [(0, .ref h), (1, .int (nI (ix x)))]) (congrArg (fun zz : Int32 => ([(0, .ref h), (1, .int zz)] : List (Nat × Value))) (hx)) ?_
    refine r_aload_n K dX6_leaves_17 0 rfl ?_
    refine r_get K dX6_leaves_18 (kf := 0) 0 rfl rfl hinX6 (by decide) q114 rfl rfl ?_
    refine r_iload_n K dX6_leaves_21 1 rfl ?_
    refine r_cVd K dX6_leaves_22 (c_X0_placeOfN l Γ (b 0) an r (ix x) (hI) (by first | omega | (simp only [daysS_nM, daysS_nG, dayS_nM, dayS_nG, tellS_nM, tellS_nG, aloneTo_nM, aloneTo_nG, nM_M, nG_M, nM_G, nG_G, lv_nM, lv_nG, gnT_nM, gnT_nG] <;> omega))) mX0_placeOf q351 rfl (by decide) rfl rfl 3 rfl [1] [0, 2] rfl rfl [go h b rm hi, eI Γ (b 7) 7 rf] rfl [go h b rm hi, ydW Γ (b 0) an r, eI Γ (b 7) 7 rf] rfl rfl rfl [] rfl (Nat.le_of_ble_eq_true rfl) ?_
    refine r_istore_n K dX6_leaves_25 rfl (by decide) (lv1 := [(2, .int (r (iM (ix x) 3))), (0, .ref h), (1, .int (nI (ix x)))]) rfl ?_
    refine r_iload_n K dX6_leaves_26 0 rfl ?_
    refine r_bipush K dX6_leaves_27 ((-9)) (by decide) ?_
    refine r_ic_ne K dX6_leaves_29 (fun c29 => ?_) (fun c29 => ?_)
    · refine r_aload_n K dX6_leaves_39 1 rfl ?_
      refine r_get K dX6_leaves_40 (kf := 0) 0 rfl rfl hinX6 (by decide) q114 rfl rfl ?_
      refine r_iload_n K dX6_leaves_43 2 rfl ?_
      refine r_bipush K dX6_leaves_44 ((-9)) (by decide) ?_
      refine r_cVn K dX6_leaves_46 (c_X0_place l Γ (b 0) an r (nI (ix x)) (-9) (hI)) mX0_place q360 rfl (by decide) rfl rfl 3 rfl [1] [0, 2] rfl rfl [go h b rm hi, eI Γ (b 7) 7 rf] rfl [go h b rm hi, ydW Γ (b 0) an (setM r 3 (nI (ix x)) (-9)), eI Γ (b 7) 7 rf] rfl rfl rfl [] rfl (Nat.le_of_ble_eq_true rfl) ?_
      refine r_ws K (ws1 := [go h b rm hi, ydW Γ (b 0) an (upd r (iM (ix x) 3) (-9)), eI Γ (b 7) 7 rf]) (by rw [setM_N lx h6]; exact weq.rf) ?_
      refine r_iload_n K dX6_leaves_49 0 rfl ?_
      have he : eLeaves r x = 0 := by
        unfold eLeaves
        rw [if_neg (not_not_intro c8), if_neg c29]
      refine r_arr K (f2 := chE (eLeaves r x) rf (nof rf (eLeaves r x))) (ws1 := [go h b rm hi, ydW Γ (b 0) an (upd r (iM (ix x) 3) (-9)), eI Γ (b 7) 7 (chE (eLeaves r x) rf (nof rf (eLeaves r x)))]) 2 rfl (fun _ _ => by rw [chE_0 he]) rfl ?_
      refine r_ws K (ws1 := [go h b rm hi, ydW Γ (b 0) an (chE (eLeaves r x) (upd r (iM (ix x) 3) (-9)) r), eI Γ (b 7) 7 (chE (eLeaves r x) rf (nof rf (eLeaves r x)))]) (by rw [chE_0 (a := upd r (iM (ix x) 3) (-9)) (b := r) he]; exact weq.rf) ?_
      exact hR () dX6_leaves_50 (trivial) (e_ri (ex_0 he (rfl))) (weq.rf)
    · refine r_aload_n K dX6_leaves_32 1 rfl ?_
      refine r_bipush K dX6_leaves_33 ((-3)) (by decide) ?_
      refine r_cVd K dX6_leaves_35 (c_X6_refuse l Γ h b rm hi rf (-3) (okR_3)) mX6_refuse q149 rfl (by decide) rfl rfl 3 rfl [0, 2] [1] rfl rfl [ydW Γ (b 0) an r] rfl [go h b rm hi, ydW Γ (b 0) an r, eI Γ (b 7) 7 (nof rf (-3))] rfl rfl rfl [] rfl (Nat.le_of_ble_eq_true rfl) ?_
      have he : eLeaves r x = (-3) := by
        unfold eLeaves
        rw [if_neg (not_not_intro c8), if_pos c29]
      refine r_arr K (f2 := chE (eLeaves r x) rf (nof rf (eLeaves r x))) (ws1 := [go h b rm hi, ydW Γ (b 0) an r, eI Γ (b 7) 7 (chE (eLeaves r x) rf (nof rf (eLeaves r x)))]) 2 rfl (fun _ _ => by rw [ch_n (g := nof rf) he (by decide)]) rfl ?_
      refine r_ws K (ws1 := [go h b rm hi, ydW Γ (b 0) an (chE (eLeaves r x) (upd r (iM (ix x) 3) (-9)) r), eI Γ (b 7) 7 (chE (eLeaves r x) rf (nof rf (eLeaves r x)))]) (by rw [chE_n (a := upd r (iM (ix x) 3) (-9)) (b := r) (by rw [he]; exact (by decide))]; exact weq.rf) ?_
      exact hR () dX6_leaves_38 (trivial) (e_ri (ex_n he (by decide))) (weq.rf)
  · refine r_aload_n K dX6_leaves_11 0 rfl ?_
    refine r_iconst K dX6_leaves_12 ((-1)) (by decide) ?_
    refine r_cVd K dX6_leaves_13 (c_X6_refuse l Γ h b rm hi rf (-1) (okR_1)) mX6_refuse q149 rfl (by decide) rfl rfl 3 rfl [0, 2] [1] rfl rfl [ydW Γ (b 0) an r] rfl [go h b rm hi, ydW Γ (b 0) an r, eI Γ (b 7) 7 (nof rf (-1))] rfl rfl rfl [] rfl (Nat.le_of_ble_eq_true rfl) ?_
    have he : eLeaves r x = (-1) := by
      unfold eLeaves
      rw [if_pos (nt c8)]
    refine r_arr K (f2 := chE (eLeaves r x) rf (nof rf (eLeaves r x))) (ws1 := [go h b rm hi, ydW Γ (b 0) an r, eI Γ (b 7) 7 (chE (eLeaves r x) rf (nof rf (eLeaves r x)))]) 2 rfl (fun _ _ => by rw [ch_n (g := nof rf) he (by decide)]) rfl ?_
    refine r_ws K (ws1 := [go h b rm hi, ydW Γ (b 0) an (chE (eLeaves r x) (upd r (iM (ix x) 3) (-9)) r), eI Γ (b 7) 7 (chE (eLeaves r x) rf (nof rf (eLeaves r x)))]) (by rw [chE_n (a := upd r (iM (ix x) 3) (-9)) (b := r) (by rw [he]; exact (by decide))]; exact weq.rf) ?_
    exact hR () dX6_leaves_16 (trivial) (e_ri (ex_n he (by decide))) (weq.rf)
set_option maxHeartbeats 1000000 in
set_option maxRecDepth 20000 in
theorem c_X6_hears (l : Launch) (Γ : eG) (h : Nat) (b : Nat → Nat) (rm : Nat) (hi : Bool) (an : Nat → Nat) (r : Nat → Int32) (rf : Nat → Int32) (x : Int32) (hI : Inv r) : cD l Γ yX6_hears cX6_hears 2 (some .int) 3 [.ref h, .int x] [go h b rm hi, ydW Γ (b 0) an r, eI Γ (b 7) 7 rf] (some (.int (chE (eMo r x) (tellS r (ix x) (iM (ix x) 2)) (eMo r x)))) [go h b rm hi, ydW Γ (b 0) an (chE (eMo r x) (tellS r (ix x)) r), eI Γ (b 7) 7 (chE (eMo r x) rf (nof rf (eMo r x)))] := by
  refine e_int [(0, .ref h), (1, .int x)] (by decide +kernel) (Nat.le_of_ble_eq_true rfl) rfl (fun V K hR => ?_)
  have h5 := hI.g
  have h6 := hI.m
  refine r_aload_n K dX6_hears_0 0 rfl ?_
  refine r_get K dX6_hears_1 (kf := 0) 0 rfl rfl hinX6 (by decide) q114 rfl rfl ?_
  refine r_iload_n K dX6_hears_4 1 rfl ?_
  refine r_cVd K dX6_hears_5 (c_X0_hasMourner l Γ (b 0) an r x (hI)) mX0_hasMourner q347 rfl (by decide) rfl rfl 3 rfl [1] [0, 2] rfl rfl [go h b rm hi, eI Γ (b 7) 7 rf] rfl [go h b rm hi, ydW Γ (b 0) an r, eI Γ (b 7) 7 rf] rfl rfl rfl [] rfl (Nat.le_of_ble_eq_true rfl) ?_
  refine r_ifneB K dX6_hears_8 (fun c8 => ?_) (fun c8 => ?_)
  · have hx := inN_e c8 (by omega)
    have lx := ix_lt c8 (by omega)
    refine r_lc (lv1 := [(0, .ref h), (1, .int (nI (ix x)))]) (congrArg (fun zz : Int32 => ([(0, .ref h), (1, .int zz)] : List (Nat × Value))) (hx)) ?_
    refine r_aload_n K dX6_hears_17 0 rfl ?_
    refine r_get K dX6_hears_18 (kf := 0) 0 rfl rfl hinX6 (by decide) q114 rfl rfl ?_
    refine r_iload_n K dX6_hears_21 1 rfl ?_
    refine r_cVn K dX6_hears_22 (c_X0_informN l Γ (b 0) an r (ix x) (hI) (by first | omega | (simp only [daysS_nM, daysS_nG, dayS_nM, dayS_nG, tellS_nM, tellS_nG, aloneTo_nM, aloneTo_nG, nM_M, nG_M, nM_G, nG_G, lv_nM, lv_nG, gnT_nM, gnT_nG] <;> omega))) mX0_inform q369 rfl (by decide) rfl rfl 3 rfl [1] [0, 2] rfl rfl [go h b rm hi, eI Γ (b 7) 7 rf] rfl [go h b rm hi, ydW Γ (b 0) an (tellS r (ix x)), eI Γ (b 7) 7 rf] rfl rfl rfl [] rfl (Nat.le_of_ble_eq_true rfl) ?_
    refine r_aload_n K dX6_hears_25 0 rfl ?_
    refine r_get K dX6_hears_26 (kf := 0) 0 rfl rfl hinX6 (by decide) q114 rfl rfl ?_
    refine r_iload_n K dX6_hears_29 1 rfl ?_
    refine r_cVd K dX6_hears_30 (c_X0_griefOfN l Γ (b 0) an (tellS r (ix x)) (ix x) (Inv_tellS hI lx) (by first | omega | (simp only [daysS_nM, daysS_nG, dayS_nM, dayS_nG, tellS_nM, tellS_nG, aloneTo_nM, aloneTo_nG, nM_M, nG_M, nM_G, nG_G, lv_nM, lv_nG, gnT_nM, gnT_nG] <;> omega))) mX0_griefOf q350 rfl (by decide) rfl rfl 3 rfl [1] [0, 2] rfl rfl [go h b rm hi, eI Γ (b 7) 7 rf] rfl [go h b rm hi, ydW Γ (b 0) an (tellS r (ix x)), eI Γ (b 7) 7 rf] rfl rfl rfl [] rfl (Nat.le_of_ble_eq_true rfl) ?_
    have he : eMo r x = 0 := by
      unfold eMo
      rw [if_neg (not_not_intro c8)]
    refine r_arr K (f2 := chE (eMo r x) rf (nof rf (eMo r x))) (ws1 := [go h b rm hi, ydW Γ (b 0) an (tellS r (ix x)), eI Γ (b 7) 7 (chE (eMo r x) rf (nof rf (eMo r x)))]) 2 rfl (fun _ _ => by rw [chE_0 he]) rfl ?_
    refine r_ws K (ws1 := [go h b rm hi, ydW Γ (b 0) an (chE (eMo r x) (tellS r (ix x)) r), eI Γ (b 7) 7 (chE (eMo r x) rf (nof rf (eMo r x)))]) (by rw [chE_0 (a := tellS r (ix x)) (b := r) he]; exact weq.rf) ?_
    exact hR () dX6_hears_33 (trivial) (e_ri (ex_0 he (rfl))) (weq.rf)
  · refine r_aload_n K dX6_hears_11 0 rfl ?_
    refine r_iconst K dX6_hears_12 ((-1)) (by decide) ?_
    refine r_cVd K dX6_hears_13 (c_X6_refuse l Γ h b rm hi rf (-1) (okR_1)) mX6_refuse q149 rfl (by decide) rfl rfl 3 rfl [0, 2] [1] rfl rfl [ydW Γ (b 0) an r] rfl [go h b rm hi, ydW Γ (b 0) an r, eI Γ (b 7) 7 (nof rf (-1))] rfl rfl rfl [] rfl (Nat.le_of_ble_eq_true rfl) ?_
    have he : eMo r x = (-1) := by
      unfold eMo
      rw [if_pos (nt c8)]
    refine r_arr K (f2 := chE (eMo r x) rf (nof rf (eMo r x))) (ws1 := [go h b rm hi, ydW Γ (b 0) an r, eI Γ (b 7) 7 (chE (eMo r x) rf (nof rf (eMo r x)))]) 2 rfl (fun _ _ => by rw [ch_n (g := nof rf) he (by decide)]) rfl ?_
    refine r_ws K (ws1 := [go h b rm hi, ydW Γ (b 0) an (chE (eMo r x) (tellS r (ix x)) r), eI Γ (b 7) 7 (chE (eMo r x) rf (nof rf (eMo r x)))]) (by rw [chE_n (a := tellS r (ix x)) (b := r) (by rw [he]; exact (by decide))]; exact weq.rf) ?_
    exact hR () dX6_hears_16 (trivial) (e_ri (ex_n he (by decide))) (weq.rf)
set_option maxHeartbeats 1000000 in
set_option maxRecDepth 20000 in
theorem c_X6_grieves (l : Launch) (Γ : eG) (h : Nat) (b : Nat → Nat) (rm : Nat) (hi : Bool) (an : Nat → Nat) (r : Nat → Int32) (rf : Nat → Int32) (x : Int32) (v : Int32) (hI : Inv r) : cD l Γ yX6_grieves cX6_grieves 5 (some .int) 2 [.ref h, .int x, .int v] [go h b rm hi, ydW Γ (b 0) an r, eI Γ (b 7) 7 rf] (some (.int (chE (eMoW r x v (nI 0) (nI 99)) (r (iM (ix x) 2)) (eMoW r x v (nI 0) (nI 99))))) [go h b rm hi, ydW Γ (b 0) an (chE (eMoW r x v (nI 0) (nI 99)) (upd r (iM (ix x) 2) v) r), eI Γ (b 7) 7 (chE (eMoW r x v (nI 0) (nI 99)) rf (nof rf (eMoW r x v (nI 0) (nI 99))))] := by
  refine e_int [(0, .ref h), (1, .int x), (2, .int v)] (by decide +kernel) (Nat.le_of_ble_eq_true rfl) rfl (fun V K hR => ?_)
  have h5 := hI.g
  have h6 := hI.m
  refine r_aload_n K dX6_grieves_0 0 rfl ?_
  refine r_get K dX6_grieves_1 (kf := 0) 0 rfl rfl hinX6 (by decide) q114 rfl rfl ?_
  refine r_iload_n K dX6_grieves_4 1 rfl ?_
  refine r_cVd K dX6_grieves_5 (c_X0_hasMourner l Γ (b 0) an r x (hI)) mX0_hasMourner q347 rfl (by decide) rfl rfl 3 rfl [1] [0, 2] rfl rfl [go h b rm hi, eI Γ (b 7) 7 rf] rfl [go h b rm hi, ydW Γ (b 0) an r, eI Γ (b 7) 7 rf] rfl rfl rfl [] rfl (Nat.le_of_ble_eq_true rfl) ?_
  refine r_ifneB K dX6_grieves_8 (fun c8 => ?_) (fun c8 => ?_)
  · have hx := inN_e c8 (by omega)
    have lx := ix_lt c8 (by omega)
    refine r_lc (lv1 := [(0, .ref h), (1, .int (nI (ix x))), (2, .int v)]) (congrArg (fun zz : Int32 => ([(0, .ref h), (1, .int zz), (2, .int v)] : List (Nat × Value))) (hx)) ?_
    refine r_iload_n K dX6_grieves_17 2 rfl ?_
    refine r_iconst K dX6_grieves_18 (nI 0) (by decide) ?_
    refine r_bipush K dX6_grieves_19 (nI 99) (by decide) ?_
    refine r_cSd K dX6_grieves_21 (c_X6_faultOfRange l Γ v (nI 0) (nI 99)) mX6_faultOfRange q374 rfl (by decide) 3 rfl [] [0, 1, 2] rfl rfl [go h b rm hi, ydW Γ (b 0) an r, eI Γ (b 7) 7 rf] rfl [go h b rm hi, ydW Γ (b 0) an r, eI Γ (b 7) 7 rf] rfl rfl rfl [] rfl (Nat.le_of_ble_eq_true rfl) ?_
    refine r_istore_n K dX6_grieves_24 rfl (by decide) (lv1 := [(3, .int (wrS v (nI 0) (nI 99))), (0, .ref h), (1, .int (nI (ix x))), (2, .int v)]) rfl ?_
    refine r_iload_n K dX6_grieves_25 0 rfl ?_
    refine r_if_eq K dX6_grieves_26 (fun c26 => ?_) (fun c26 => ?_)
    · have hv := wrS_ok (by decide) (by decide) c26
      have lv := hv.2
      refine r_aload_n K dX6_grieves_35 1 rfl ?_
      refine r_get K dX6_grieves_36 (kf := 0) 0 rfl rfl hinX6 (by decide) q114 rfl rfl ?_
      refine r_iload_n K dX6_grieves_39 2 rfl ?_
      refine r_cVd K dX6_grieves_40 (c_X0_griefOfN l Γ (b 0) an r (ix x) (hI) (by first | omega | (simp only [daysS_nM, daysS_nG, dayS_nM, dayS_nG, tellS_nM, tellS_nG, aloneTo_nM, aloneTo_nG, nM_M, nG_M, nM_G, nG_G, lv_nM, lv_nG, gnT_nM, gnT_nG] <;> omega))) mX0_griefOf q350 rfl (by decide) rfl rfl 3 rfl [1] [0, 2] rfl rfl [go h b rm hi, eI Γ (b 7) 7 rf] rfl [go h b rm hi, ydW Γ (b 0) an r, eI Γ (b 7) 7 rf] rfl rfl rfl [] rfl (Nat.le_of_ble_eq_true rfl) ?_
      refine r_istore K dX6_grieves_43 (by decide) (lv1 := [(4, .int (r (iM (ix x) 2))), (3, .int (wrS v (nI 0) (nI 99))), (0, .ref h), (1, .int (nI (ix x))), (2, .int v)]) rfl ?_
      refine r_aload_n K dX6_grieves_45 2 rfl ?_
      refine r_get K dX6_grieves_46 (kf := 0) 0 rfl rfl hinX6 (by decide) q114 rfl rfl ?_
      refine r_iload_n K dX6_grieves_49 3 rfl ?_
      refine r_iload_n K dX6_grieves_50 4 rfl ?_
      refine r_cVn K dX6_grieves_51 (c_X0_setGrief l Γ (b 0) an r (nI (ix x)) v (hI)) mX0_setGrief q377 rfl (by decide) rfl rfl 3 rfl [1] [0, 2] rfl rfl [go h b rm hi, eI Γ (b 7) 7 rf] rfl [go h b rm hi, ydW Γ (b 0) an (setM r 2 (nI (ix x)) v), eI Γ (b 7) 7 rf] rfl rfl rfl [] rfl (Nat.le_of_ble_eq_true rfl) ?_
      refine r_ws K (ws1 := [go h b rm hi, ydW Γ (b 0) an (upd r (iM (ix x) 2) v), eI Γ (b 7) 7 rf]) (by rw [setM_N lx h6]; exact weq.rf) ?_
      refine r_iload K dX6_grieves_54 0 rfl ?_
      have he : eMoW r x v (nI 0) (nI 99) = 0 := by
        unfold eMoW
        rw [if_neg (not_not_intro c8), if_neg (not_not_intro c26)]
      refine r_arr K (f2 := chE (eMoW r x v (nI 0) (nI 99)) rf (nof rf (eMoW r x v (nI 0) (nI 99)))) (ws1 := [go h b rm hi, ydW Γ (b 0) an (upd r (iM (ix x) 2) v), eI Γ (b 7) 7 (chE (eMoW r x v (nI 0) (nI 99)) rf (nof rf (eMoW r x v (nI 0) (nI 99))))]) 2 rfl (fun _ _ => by rw [chE_0 he]) rfl ?_
      refine r_ws K (ws1 := [go h b rm hi, ydW Γ (b 0) an (chE (eMoW r x v (nI 0) (nI 99)) (upd r (iM (ix x) 2) v) r), eI Γ (b 7) 7 (chE (eMoW r x v (nI 0) (nI 99)) rf (nof rf (eMoW r x v (nI 0) (nI 99))))]) (by rw [chE_0 (a := upd r (iM (ix x) 2) v) (b := r) he]; exact weq.rf) ?_
      exact hR () dX6_grieves_56 (trivial) (e_ri (ex_0 he (rfl))) (weq.rf)
    · refine r_aload_n K dX6_grieves_29 1 rfl ?_
      refine r_iload_n K dX6_grieves_30 0 rfl ?_
      refine r_cVd K dX6_grieves_31 (c_X6_refuse l Γ h b rm hi rf (wrS v (nI 0) (nI 99)) (okR_wr c26)) mX6_refuse q149 rfl (by decide) rfl rfl 3 rfl [0, 2] [1] rfl rfl [ydW Γ (b 0) an r] rfl [go h b rm hi, ydW Γ (b 0) an r, eI Γ (b 7) 7 (nof rf (wrS v (nI 0) (nI 99)))] rfl rfl rfl [] rfl (Nat.le_of_ble_eq_true rfl) ?_
      have he : eMoW r x v (nI 0) (nI 99) = wrS v (nI 0) (nI 99) := by
        unfold eMoW
        rw [if_neg (not_not_intro c8), if_pos c26]
      refine r_arr K (f2 := chE (eMoW r x v (nI 0) (nI 99)) rf (nof rf (eMoW r x v (nI 0) (nI 99)))) (ws1 := [go h b rm hi, ydW Γ (b 0) an r, eI Γ (b 7) 7 (chE (eMoW r x v (nI 0) (nI 99)) rf (nof rf (eMoW r x v (nI 0) (nI 99))))]) 2 rfl (fun _ _ => by rw [ch_n (g := nof rf) he c26]) rfl ?_
      refine r_ws K (ws1 := [go h b rm hi, ydW Γ (b 0) an (chE (eMoW r x v (nI 0) (nI 99)) (upd r (iM (ix x) 2) v) r), eI Γ (b 7) 7 (chE (eMoW r x v (nI 0) (nI 99)) rf (nof rf (eMoW r x v (nI 0) (nI 99))))]) (by rw [chE_n (a := upd r (iM (ix x) 2) v) (b := r) (by rw [he]; exact c26)]; exact weq.rf) ?_
      exact hR () dX6_grieves_34 (trivial) (e_ri (ex_n he c26)) (weq.rf)
  · refine r_aload_n K dX6_grieves_11 0 rfl ?_
    refine r_iconst K dX6_grieves_12 ((-1)) (by decide) ?_
    refine r_cVd K dX6_grieves_13 (c_X6_refuse l Γ h b rm hi rf (-1) (okR_1)) mX6_refuse q149 rfl (by decide) rfl rfl 3 rfl [0, 2] [1] rfl rfl [ydW Γ (b 0) an r] rfl [go h b rm hi, ydW Γ (b 0) an r, eI Γ (b 7) 7 (nof rf (-1))] rfl rfl rfl [] rfl (Nat.le_of_ble_eq_true rfl) ?_
    have he : eMoW r x v (nI 0) (nI 99) = (-1) := by
      unfold eMoW
      rw [if_pos (nt c8)]
    refine r_arr K (f2 := chE (eMoW r x v (nI 0) (nI 99)) rf (nof rf (eMoW r x v (nI 0) (nI 99)))) (ws1 := [go h b rm hi, ydW Γ (b 0) an r, eI Γ (b 7) 7 (chE (eMoW r x v (nI 0) (nI 99)) rf (nof rf (eMoW r x v (nI 0) (nI 99))))]) 2 rfl (fun _ _ => by rw [ch_n (g := nof rf) he (by decide)]) rfl ?_
    refine r_ws K (ws1 := [go h b rm hi, ydW Γ (b 0) an (chE (eMoW r x v (nI 0) (nI 99)) (upd r (iM (ix x) 2) v) r), eI Γ (b 7) 7 (chE (eMoW r x v (nI 0) (nI 99)) rf (nof rf (eMoW r x v (nI 0) (nI 99))))]) (by rw [chE_n (a := upd r (iM (ix x) 2) v) (b := r) (by rw [he]; exact (by decide))]; exact weq.rf) ?_
    exact hR () dX6_grieves_16 (trivial) (e_ri (ex_n he (by decide))) (weq.rf)
set_option maxHeartbeats 1000000 in
set_option maxRecDepth 20000 in
theorem c_X6_hardens (l : Launch) (Γ : eG) (h : Nat) (b : Nat → Nat) (rm : Nat) (hi : Bool) (an : Nat → Nat) (r : Nat → Int32) (rf : Nat → Int32) (x : Int32) (v : Int32) (hI : Inv r) : cD l Γ yX6_hardens cX6_hardens 5 (some .int) 2 [.ref h, .int x, .int v] [go h b rm hi, ydW Γ (b 0) an r, eI Γ (b 7) 7 rf] (some (.int (chE (eGrW r x v (nI 0) (nI 9)) (r (iG (ix x) 0)) (eGrW r x v (nI 0) (nI 9))))) [go h b rm hi, ydW Γ (b 0) an (chE (eGrW r x v (nI 0) (nI 9)) (upd r (iG (ix x) 0) v) r), eI Γ (b 7) 7 (chE (eGrW r x v (nI 0) (nI 9)) rf (nof rf (eGrW r x v (nI 0) (nI 9))))] := by
  refine e_int [(0, .ref h), (1, .int x), (2, .int v)] (by decide +kernel) (Nat.le_of_ble_eq_true rfl) rfl (fun V K hR => ?_)
  have h5 := hI.g
  have h6 := hI.m
  refine r_aload_n K dX6_hardens_0 0 rfl ?_
  refine r_get K dX6_hardens_1 (kf := 0) 0 rfl rfl hinX6 (by decide) q114 rfl rfl ?_
  refine r_iload_n K dX6_hardens_4 1 rfl ?_
  refine r_cVd K dX6_hardens_5 (c_X0_hasGrave l Γ (b 0) an r x (hI)) mX0_hasGrave q297 rfl (by decide) rfl rfl 3 rfl [1] [0, 2] rfl rfl [go h b rm hi, eI Γ (b 7) 7 rf] rfl [go h b rm hi, ydW Γ (b 0) an r, eI Γ (b 7) 7 rf] rfl rfl rfl [] rfl (Nat.le_of_ble_eq_true rfl) ?_
  refine r_ifneB K dX6_hardens_8 (fun c8 => ?_) (fun c8 => ?_)
  · have hx := inN_e c8 (by omega)
    have lx := ix_lt c8 (by omega)
    refine r_lc (lv1 := [(0, .ref h), (1, .int (nI (ix x))), (2, .int v)]) (congrArg (fun zz : Int32 => ([(0, .ref h), (1, .int zz), (2, .int v)] : List (Nat × Value))) (hx)) ?_
    refine r_iload_n K dX6_hardens_17 2 rfl ?_
    refine r_iconst K dX6_hardens_18 (nI 0) (by decide) ?_
    refine r_bipush K dX6_hardens_19 (nI 9) (by decide) ?_
    refine r_cSd K dX6_hardens_21 (c_X6_faultOfRange l Γ v (nI 0) (nI 9)) mX6_faultOfRange q374 rfl (by decide) 3 rfl [] [0, 1, 2] rfl rfl [go h b rm hi, ydW Γ (b 0) an r, eI Γ (b 7) 7 rf] rfl [go h b rm hi, ydW Γ (b 0) an r, eI Γ (b 7) 7 rf] rfl rfl rfl [] rfl (Nat.le_of_ble_eq_true rfl) ?_
    refine r_istore_n K dX6_hardens_24 rfl (by decide) (lv1 := [(3, .int (wrS v (nI 0) (nI 9))), (0, .ref h), (1, .int (nI (ix x))), (2, .int v)]) rfl ?_
    refine r_iload_n K dX6_hardens_25 0 rfl ?_
    refine r_if_eq K dX6_hardens_26 (fun c26 => ?_) (fun c26 => ?_)
    · have hv := wrS_ok (by decide) (by decide) c26
      have lv := hv.2
      refine r_aload_n K dX6_hardens_35 1 rfl ?_
      refine r_get K dX6_hardens_36 (kf := 0) 0 rfl rfl hinX6 (by decide) q114 rfl rfl ?_
      refine r_iload_n K dX6_hardens_39 2 rfl ?_
      refine r_cVd K dX6_hardens_40 (c_X0_hardnessN l Γ (b 0) an r (ix x) (hI) (by first | omega | (simp only [daysS_nM, daysS_nG, dayS_nM, dayS_nG, tellS_nM, tellS_nG, aloneTo_nM, aloneTo_nG, nM_M, nG_M, nM_G, nG_G, lv_nM, lv_nG, gnT_nM, gnT_nG] <;> omega))) mX0_hardness q298 rfl (by decide) rfl rfl 3 rfl [1] [0, 2] rfl rfl [go h b rm hi, eI Γ (b 7) 7 rf] rfl [go h b rm hi, ydW Γ (b 0) an r, eI Γ (b 7) 7 rf] rfl rfl rfl [] rfl (Nat.le_of_ble_eq_true rfl) ?_
      refine r_istore K dX6_hardens_43 (by decide) (lv1 := [(4, .int (r (iG (ix x) 0))), (3, .int (wrS v (nI 0) (nI 9))), (0, .ref h), (1, .int (nI (ix x))), (2, .int v)]) rfl ?_
      refine r_aload_n K dX6_hardens_45 2 rfl ?_
      refine r_get K dX6_hardens_46 (kf := 0) 0 rfl rfl hinX6 (by decide) q114 rfl rfl ?_
      refine r_iload_n K dX6_hardens_49 3 rfl ?_
      refine r_iload_n K dX6_hardens_50 4 rfl ?_
      refine r_cVn K dX6_hardens_51 (c_X0_setHardness l Γ (b 0) an r (nI (ix x)) v (hI)) mX0_setHardness q382 rfl (by decide) rfl rfl 3 rfl [1] [0, 2] rfl rfl [go h b rm hi, eI Γ (b 7) 7 rf] rfl [go h b rm hi, ydW Γ (b 0) an (setG r 0 (nI (ix x)) v), eI Γ (b 7) 7 rf] rfl rfl rfl [] rfl (Nat.le_of_ble_eq_true rfl) ?_
      refine r_ws K (ws1 := [go h b rm hi, ydW Γ (b 0) an (upd r (iG (ix x) 0) v), eI Γ (b 7) 7 rf]) (by rw [setG_N lx h5]; exact weq.rf) ?_
      refine r_iload K dX6_hardens_54 0 rfl ?_
      have he : eGrW r x v (nI 0) (nI 9) = 0 := by
        unfold eGrW
        rw [if_neg (not_not_intro c8), if_neg (not_not_intro c26)]
      refine r_arr K (f2 := chE (eGrW r x v (nI 0) (nI 9)) rf (nof rf (eGrW r x v (nI 0) (nI 9)))) (ws1 := [go h b rm hi, ydW Γ (b 0) an (upd r (iG (ix x) 0) v), eI Γ (b 7) 7 (chE (eGrW r x v (nI 0) (nI 9)) rf (nof rf (eGrW r x v (nI 0) (nI 9))))]) 2 rfl (fun _ _ => by rw [chE_0 he]) rfl ?_
      refine r_ws K (ws1 := [go h b rm hi, ydW Γ (b 0) an (chE (eGrW r x v (nI 0) (nI 9)) (upd r (iG (ix x) 0) v) r), eI Γ (b 7) 7 (chE (eGrW r x v (nI 0) (nI 9)) rf (nof rf (eGrW r x v (nI 0) (nI 9))))]) (by rw [chE_0 (a := upd r (iG (ix x) 0) v) (b := r) he]; exact weq.rf) ?_
      exact hR () dX6_hardens_56 (trivial) (e_ri (ex_0 he (rfl))) (weq.rf)
    · refine r_aload_n K dX6_hardens_29 1 rfl ?_
      refine r_iload_n K dX6_hardens_30 0 rfl ?_
      refine r_cVd K dX6_hardens_31 (c_X6_refuse l Γ h b rm hi rf (wrS v (nI 0) (nI 9)) (okR_wr c26)) mX6_refuse q149 rfl (by decide) rfl rfl 3 rfl [0, 2] [1] rfl rfl [ydW Γ (b 0) an r] rfl [go h b rm hi, ydW Γ (b 0) an r, eI Γ (b 7) 7 (nof rf (wrS v (nI 0) (nI 9)))] rfl rfl rfl [] rfl (Nat.le_of_ble_eq_true rfl) ?_
      have he : eGrW r x v (nI 0) (nI 9) = wrS v (nI 0) (nI 9) := by
        unfold eGrW
        rw [if_neg (not_not_intro c8), if_pos c26]
      refine r_arr K (f2 := chE (eGrW r x v (nI 0) (nI 9)) rf (nof rf (eGrW r x v (nI 0) (nI 9)))) (ws1 := [go h b rm hi, ydW Γ (b 0) an r, eI Γ (b 7) 7 (chE (eGrW r x v (nI 0) (nI 9)) rf (nof rf (eGrW r x v (nI 0) (nI 9))))]) 2 rfl (fun _ _ => by rw [ch_n (g := nof rf) he c26]) rfl ?_
      refine r_ws K (ws1 := [go h b rm hi, ydW Γ (b 0) an (chE (eGrW r x v (nI 0) (nI 9)) (upd r (iG (ix x) 0) v) r), eI Γ (b 7) 7 (chE (eGrW r x v (nI 0) (nI 9)) rf (nof rf (eGrW r x v (nI 0) (nI 9))))]) (by rw [chE_n (a := upd r (iG (ix x) 0) v) (b := r) (by rw [he]; exact c26)]; exact weq.rf) ?_
      exact hR () dX6_hardens_34 (trivial) (e_ri (ex_n he c26)) (weq.rf)
  · refine r_aload_n K dX6_hardens_11 0 rfl ?_
    refine r_iconst K dX6_hardens_12 ((-1)) (by decide) ?_
    refine r_cVd K dX6_hardens_13 (c_X6_refuse l Γ h b rm hi rf (-1) (okR_1)) mX6_refuse q149 rfl (by decide) rfl rfl 3 rfl [0, 2] [1] rfl rfl [ydW Γ (b 0) an r] rfl [go h b rm hi, ydW Γ (b 0) an r, eI Γ (b 7) 7 (nof rf (-1))] rfl rfl rfl [] rfl (Nat.le_of_ble_eq_true rfl) ?_
    have he : eGrW r x v (nI 0) (nI 9) = (-1) := by
      unfold eGrW
      rw [if_pos (nt c8)]
    refine r_arr K (f2 := chE (eGrW r x v (nI 0) (nI 9)) rf (nof rf (eGrW r x v (nI 0) (nI 9)))) (ws1 := [go h b rm hi, ydW Γ (b 0) an r, eI Γ (b 7) 7 (chE (eGrW r x v (nI 0) (nI 9)) rf (nof rf (eGrW r x v (nI 0) (nI 9))))]) 2 rfl (fun _ _ => by rw [ch_n (g := nof rf) he (by decide)]) rfl ?_
    refine r_ws K (ws1 := [go h b rm hi, ydW Γ (b 0) an (chE (eGrW r x v (nI 0) (nI 9)) (upd r (iG (ix x) 0) v) r), eI Γ (b 7) 7 (chE (eGrW r x v (nI 0) (nI 9)) rf (nof rf (eGrW r x v (nI 0) (nI 9))))]) (by rw [chE_n (a := upd r (iG (ix x) 0) v) (b := r) (by rw [he]; exact (by decide))]; exact weq.rf) ?_
    exact hR () dX6_hardens_16 (trivial) (e_ri (ex_n he (by decide))) (weq.rf)
set_option maxHeartbeats 1000000 in
set_option maxRecDepth 20000 in
theorem c_X6_turn (l : Launch) (Γ : eG) (h : Nat) (b : Nat → Nat) (rm : Nat) (hi : Bool) (an : Nat → Nat) (r : Nat → Int32) (rf : Nat → Int32) (x : Int32) (k : Int32) (f : Int32) (hI : Inv r) : cD l Γ yX6_turn cX6_turn 6 (some .int) 2 [.ref h, .int x, .int k, .int f] [go h b rm hi, ydW Γ (b 0) an r, eI Γ (b 7) 7 rf] (some (.int (chE (eTurn r x k f) (nI 10 * r (iM (ix x) 0) + r (iM (ix x) 1)) (eTurn r x k f)))) [go h b rm hi, ydW Γ (b 0) an (chE (eTurn r x k f) (upd (upd r (iM (ix x) 0) k) (iM (ix x) 1) f) r), eI Γ (b 7) 7 (chE (eTurn r x k f) rf (nof rf (eTurn r x k f)))] := by
  refine e_int [(0, .ref h), (1, .int x), (2, .int k), (3, .int f)] (by decide +kernel) (Nat.le_of_ble_eq_true rfl) rfl (fun V K hR => ?_)
  have h5 := hI.g
  have h6 := hI.m
  refine r_aload_n K dX6_turn_0 0 rfl ?_
  refine r_get K dX6_turn_1 (kf := 0) 0 rfl rfl hinX6 (by decide) q114 rfl rfl ?_
  refine r_iload_n K dX6_turn_4 1 rfl ?_
  refine r_cVd K dX6_turn_5 (c_X0_hasMourner l Γ (b 0) an r x (hI)) mX0_hasMourner q347 rfl (by decide) rfl rfl 3 rfl [1] [0, 2] rfl rfl [go h b rm hi, eI Γ (b 7) 7 rf] rfl [go h b rm hi, ydW Γ (b 0) an r, eI Γ (b 7) 7 rf] rfl rfl rfl [] rfl (Nat.le_of_ble_eq_true rfl) ?_
  refine r_ifneB K dX6_turn_8 (fun c8 => ?_) (fun c8 => ?_)
  · have hx := inN_e c8 (by omega)
    have lx := ix_lt c8 (by omega)
    refine r_lc (lv1 := [(0, .ref h), (1, .int (nI (ix x))), (2, .int k), (3, .int f)]) (congrArg (fun zz : Int32 => ([(0, .ref h), (1, .int zz), (2, .int k), (3, .int f)] : List (Nat × Value))) (hx)) ?_
    refine r_iload_n K dX6_turn_17 2 rfl ?_
    refine r_if_lt K dX6_turn_18 (fun c18 => ?_) (fun c18 => ?_)
    · have hb : isInB k (nI 0) (nI 5) = false := isInB_f1 c18
      refine r_aload_n K dX6_turn_27 0 rfl ?_
      refine r_bipush K dX6_turn_28 ((-2)) (by decide) ?_
      refine r_cVd K dX6_turn_30 (c_X6_refuse l Γ h b rm hi rf (-2) (okR_2)) mX6_refuse q149 rfl (by decide) rfl rfl 3 rfl [0, 2] [1] rfl rfl [ydW Γ (b 0) an r] rfl [go h b rm hi, ydW Γ (b 0) an r, eI Γ (b 7) 7 (nof rf (-2))] rfl rfl rfl [] rfl (Nat.le_of_ble_eq_true rfl) ?_
      have he : eTurn r x k f = (-2) := by
        unfold eTurn
        rw [if_neg (not_not_intro c8), if_pos (nt hb)]
      refine r_arr K (f2 := chE (eTurn r x k f) rf (nof rf (eTurn r x k f))) (ws1 := [go h b rm hi, ydW Γ (b 0) an r, eI Γ (b 7) 7 (chE (eTurn r x k f) rf (nof rf (eTurn r x k f)))]) 2 rfl (fun _ _ => by rw [ch_n (g := nof rf) he (by decide)]) rfl ?_
      refine r_ws K (ws1 := [go h b rm hi, ydW Γ (b 0) an (chE (eTurn r x k f) (upd (upd r (iM (ix x) 0) k) (iM (ix x) 1) f) r), eI Γ (b 7) 7 (chE (eTurn r x k f) rf (nof rf (eTurn r x k f)))]) (by rw [chE_n (a := upd (upd r (iM (ix x) 0) k) (iM (ix x) 1) f) (b := r) (by rw [he]; exact (by decide))]; exact weq.rf) ?_
      exact hR () dX6_turn_33 (trivial) (e_ri (ex_n he (by decide))) (weq.rf)
    · refine r_iload_n K dX6_turn_21 2 rfl ?_
      refine r_bipush K dX6_turn_22 (nI 6) (by decide) ?_
      refine r_ic_lt K dX6_turn_24 (fun c24 => ?_) (fun c24 => ?_)
      · have hb : isInB k (nI 0) (nI 5) = true := isInB_t c18 (lt_pr 5 (by decide) c24)
        have hk := isInB_ok (lo := 0) (hi := 5) (by decide) (by decide) hb
        refine r_iload_n K dX6_turn_34 3 rfl ?_
        refine r_iconst K dX6_turn_35 (nI 0) (by decide) ?_
        refine r_bipush K dX6_turn_36 (nI 9) (by decide) ?_
        refine r_cSd K dX6_turn_38 (c_X6_faultOfRange l Γ f (nI 0) (nI 9)) mX6_faultOfRange q374 rfl (by decide) 3 rfl [] [0, 1, 2] rfl rfl [go h b rm hi, ydW Γ (b 0) an r, eI Γ (b 7) 7 rf] rfl [go h b rm hi, ydW Γ (b 0) an r, eI Γ (b 7) 7 rf] rfl rfl rfl [] rfl (Nat.le_of_ble_eq_true rfl) ?_
        refine r_istore K dX6_turn_41 (by decide) (lv1 := [(4, .int (wrS f (nI 0) (nI 9))), (0, .ref h), (1, .int (nI (ix x))), (2, .int k), (3, .int f)]) rfl ?_
        refine r_iload K dX6_turn_43 0 rfl ?_
        refine r_if_eq K dX6_turn_45 (fun c45 => ?_) (fun c45 => ?_)
        · have hf := wrS_ok (by decide) (by decide) c45
          have lf := hf.2
          refine r_bipush K dX6_turn_55 (nI 10) (by decide) ?_
          refine r_aload_n K dX6_turn_57 1 rfl ?_
          refine r_get K dX6_turn_58 (kf := 0) 0 rfl rfl hinX6 (by decide) q114 rfl rfl ?_
          refine r_iload_n K dX6_turn_61 2 rfl ?_
          refine r_cVd K dX6_turn_62 (c_X0_kindOfN l Γ (b 0) an r (ix x) (hI) (by first | omega | (simp only [daysS_nM, daysS_nG, dayS_nM, dayS_nG, tellS_nM, tellS_nG, aloneTo_nM, aloneTo_nG, nM_M, nG_M, nM_G, nG_G, lv_nM, lv_nG, gnT_nM, gnT_nG] <;> omega))) mX0_kindOf q348 rfl (by decide) rfl rfl 3 rfl [1] [0, 2] rfl rfl [go h b rm hi, eI Γ (b 7) 7 rf] rfl [go h b rm hi, ydW Γ (b 0) an r, eI Γ (b 7) 7 rf] rfl rfl rfl [.int (nI 10)] rfl (Nat.le_of_ble_eq_true rfl) ?_
          refine r_imul K dX6_turn_65 ?_
          refine r_aload_n K dX6_turn_66 1 rfl ?_
          refine r_get K dX6_turn_67 (kf := 0) 0 rfl rfl hinX6 (by decide) q114 rfl rfl ?_
          refine r_iload_n K dX6_turn_70 2 rfl ?_
          refine r_cVd K dX6_turn_71 (c_X0_figureOfN l Γ (b 0) an r (ix x) (hI) (by first | omega | (simp only [daysS_nM, daysS_nG, dayS_nM, dayS_nG, tellS_nM, tellS_nG, aloneTo_nM, aloneTo_nG, nM_M, nG_M, nM_G, nG_G, lv_nM, lv_nG, gnT_nM, gnT_nG] <;> omega))) mX0_figureOf q349 rfl (by decide) rfl rfl 3 rfl [1] [0, 2] rfl rfl [go h b rm hi, eI Γ (b 7) 7 rf] rfl [go h b rm hi, ydW Γ (b 0) an r, eI Γ (b 7) 7 rf] rfl rfl rfl [.int ((nI 10) * (r (iM (ix x) 0)))] rfl (Nat.le_of_ble_eq_true rfl) ?_
          refine r_iadd K dX6_turn_74 ?_
          refine r_istore K dX6_turn_75 (by decide) (lv1 := [(5, .int (((nI 10) * (r (iM (ix x) 0))) + (r (iM (ix x) 1)))), (4, .int (wrS f (nI 0) (nI 9))), (0, .ref h), (1, .int (nI (ix x))), (2, .int k), (3, .int f)]) rfl ?_
          refine r_aload_n K dX6_turn_77 2 rfl ?_
          refine r_get K dX6_turn_78 (kf := 0) 0 rfl rfl hinX6 (by decide) q114 rfl rfl ?_
          refine r_iload_n K dX6_turn_81 3 rfl ?_
          refine r_iload_n K dX6_turn_82 4 rfl ?_
          refine r_cVn K dX6_turn_83 (c_X0_setKind l Γ (b 0) an r (nI (ix x)) k (hI)) mX0_setKind q387 rfl (by decide) rfl rfl 3 rfl [1] [0, 2] rfl rfl [go h b rm hi, eI Γ (b 7) 7 rf] rfl [go h b rm hi, ydW Γ (b 0) an (setM r 0 (nI (ix x)) k), eI Γ (b 7) 7 rf] rfl rfl rfl [] rfl (Nat.le_of_ble_eq_true rfl) ?_
          refine r_ws K (ws1 := [go h b rm hi, ydW Γ (b 0) an (upd r (iM (ix x) 0) k), eI Γ (b 7) 7 rf]) (by rw [setM_N lx h6]; exact weq.rf) ?_
          refine r_aload_n K dX6_turn_86 2 rfl ?_
          refine r_get K dX6_turn_87 (kf := 0) 0 rfl rfl hinX6 (by decide) q114 rfl rfl ?_
          refine r_iload_n K dX6_turn_90 3 rfl ?_
          refine r_iload_n K dX6_turn_91 5 rfl ?_
          refine r_cVn K dX6_turn_92 (c_X0_setFigure l Γ (b 0) an (upd r (iM (ix x) 0) k) (nI (ix x)) f (by rw [hk.1]; exact Inv_onion hI hk.2.2)) mX0_setFigure q391 rfl (by decide) rfl rfl 3 rfl [1] [0, 2] rfl rfl [go h b rm hi, eI Γ (b 7) 7 rf] rfl [go h b rm hi, ydW Γ (b 0) an (setM (upd r (iM (ix x) 0) k) 1 (nI (ix x)) f), eI Γ (b 7) 7 rf] rfl rfl rfl [] rfl (Nat.le_of_ble_eq_true rfl) ?_
          refine r_ws K (ws1 := [go h b rm hi, ydW Γ (b 0) an (upd (upd r (iM (ix x) 0) k) (iM (ix x) 1) f), eI Γ (b 7) 7 rf]) (by rw [setM_N (by rw [nM_M]; exact lx) (by rw [nM_M]; exact h6)]; exact weq.rf) ?_
          refine r_iload K dX6_turn_95 0 rfl ?_
          have he : eTurn r x k f = 0 := by
            unfold eTurn
            rw [if_neg (not_not_intro c8), if_neg (not_not_intro hb), if_neg (not_not_intro c45)]
          refine r_arr K (f2 := chE (eTurn r x k f) rf (nof rf (eTurn r x k f))) (ws1 := [go h b rm hi, ydW Γ (b 0) an (upd (upd r (iM (ix x) 0) k) (iM (ix x) 1) f), eI Γ (b 7) 7 (chE (eTurn r x k f) rf (nof rf (eTurn r x k f)))]) 2 rfl (fun _ _ => by rw [chE_0 he]) rfl ?_
          refine r_ws K (ws1 := [go h b rm hi, ydW Γ (b 0) an (chE (eTurn r x k f) (upd (upd r (iM (ix x) 0) k) (iM (ix x) 1) f) r), eI Γ (b 7) 7 (chE (eTurn r x k f) rf (nof rf (eTurn r x k f)))]) (by rw [chE_0 (a := upd (upd r (iM (ix x) 0) k) (iM (ix x) 1) f) (b := r) he]; exact weq.rf) ?_
          exact hR () dX6_turn_97 (trivial) (e_ri (ex_0 he (rfl))) (weq.rf)
        · refine r_aload_n K dX6_turn_48 1 rfl ?_
          refine r_iload K dX6_turn_49 0 rfl ?_
          refine r_cVd K dX6_turn_51 (c_X6_refuse l Γ h b rm hi rf (wrS f (nI 0) (nI 9)) (okR_wr c45)) mX6_refuse q149 rfl (by decide) rfl rfl 3 rfl [0, 2] [1] rfl rfl [ydW Γ (b 0) an r] rfl [go h b rm hi, ydW Γ (b 0) an r, eI Γ (b 7) 7 (nof rf (wrS f (nI 0) (nI 9)))] rfl rfl rfl [] rfl (Nat.le_of_ble_eq_true rfl) ?_
          have he : eTurn r x k f = wrS f (nI 0) (nI 9) := by
            unfold eTurn
            rw [if_neg (not_not_intro c8), if_neg (not_not_intro hb), if_pos c45]
          refine r_arr K (f2 := chE (eTurn r x k f) rf (nof rf (eTurn r x k f))) (ws1 := [go h b rm hi, ydW Γ (b 0) an r, eI Γ (b 7) 7 (chE (eTurn r x k f) rf (nof rf (eTurn r x k f)))]) 2 rfl (fun _ _ => by rw [ch_n (g := nof rf) he c45]) rfl ?_
          refine r_ws K (ws1 := [go h b rm hi, ydW Γ (b 0) an (chE (eTurn r x k f) (upd (upd r (iM (ix x) 0) k) (iM (ix x) 1) f) r), eI Γ (b 7) 7 (chE (eTurn r x k f) rf (nof rf (eTurn r x k f)))]) (by rw [chE_n (a := upd (upd r (iM (ix x) 0) k) (iM (ix x) 1) f) (b := r) (by rw [he]; exact c45)]; exact weq.rf) ?_
          exact hR () dX6_turn_54 (trivial) (e_ri (ex_n he c45)) (weq.rf)
      · have hb : isInB k (nI 0) (nI 5) = false := isInB_f2 (ge_pr 5 (by decide) c24)
        refine r_aload_n K dX6_turn_27 0 rfl ?_
        refine r_bipush K dX6_turn_28 ((-2)) (by decide) ?_
        refine r_cVd K dX6_turn_30 (c_X6_refuse l Γ h b rm hi rf (-2) (okR_2)) mX6_refuse q149 rfl (by decide) rfl rfl 3 rfl [0, 2] [1] rfl rfl [ydW Γ (b 0) an r] rfl [go h b rm hi, ydW Γ (b 0) an r, eI Γ (b 7) 7 (nof rf (-2))] rfl rfl rfl [] rfl (Nat.le_of_ble_eq_true rfl) ?_
        have he : eTurn r x k f = (-2) := by
          unfold eTurn
          rw [if_neg (not_not_intro c8), if_pos (nt hb)]
        refine r_arr K (f2 := chE (eTurn r x k f) rf (nof rf (eTurn r x k f))) (ws1 := [go h b rm hi, ydW Γ (b 0) an r, eI Γ (b 7) 7 (chE (eTurn r x k f) rf (nof rf (eTurn r x k f)))]) 2 rfl (fun _ _ => by rw [ch_n (g := nof rf) he (by decide)]) rfl ?_
        refine r_ws K (ws1 := [go h b rm hi, ydW Γ (b 0) an (chE (eTurn r x k f) (upd (upd r (iM (ix x) 0) k) (iM (ix x) 1) f) r), eI Γ (b 7) 7 (chE (eTurn r x k f) rf (nof rf (eTurn r x k f)))]) (by rw [chE_n (a := upd (upd r (iM (ix x) 0) k) (iM (ix x) 1) f) (b := r) (by rw [he]; exact (by decide))]; exact weq.rf) ?_
        exact hR () dX6_turn_33 (trivial) (e_ri (ex_n he (by decide))) (weq.rf)
  · refine r_aload_n K dX6_turn_11 0 rfl ?_
    refine r_iconst K dX6_turn_12 ((-1)) (by decide) ?_
    refine r_cVd K dX6_turn_13 (c_X6_refuse l Γ h b rm hi rf (-1) (okR_1)) mX6_refuse q149 rfl (by decide) rfl rfl 3 rfl [0, 2] [1] rfl rfl [ydW Γ (b 0) an r] rfl [go h b rm hi, ydW Γ (b 0) an r, eI Γ (b 7) 7 (nof rf (-1))] rfl rfl rfl [] rfl (Nat.le_of_ble_eq_true rfl) ?_
    have he : eTurn r x k f = (-1) := by
      unfold eTurn
      rw [if_pos (nt c8)]
    refine r_arr K (f2 := chE (eTurn r x k f) rf (nof rf (eTurn r x k f))) (ws1 := [go h b rm hi, ydW Γ (b 0) an r, eI Γ (b 7) 7 (chE (eTurn r x k f) rf (nof rf (eTurn r x k f)))]) 2 rfl (fun _ _ => by rw [ch_n (g := nof rf) he (by decide)]) rfl ?_
    refine r_ws K (ws1 := [go h b rm hi, ydW Γ (b 0) an (chE (eTurn r x k f) (upd (upd r (iM (ix x) 0) k) (iM (ix x) 1) f) r), eI Γ (b 7) 7 (chE (eTurn r x k f) rf (nof rf (eTurn r x k f)))]) (by rw [chE_n (a := upd (upd r (iM (ix x) 0) k) (iM (ix x) 1) f) (b := r) (by rw [he]; exact (by decide))]; exact weq.rf) ?_
    exact hR () dX6_turn_16 (trivial) (e_ri (ex_n he (by decide))) (weq.rf)
set_option maxHeartbeats 1000000 in
set_option maxRecDepth 20000 in
theorem c_X6_days (l : Launch) (Γ : eG) (h : Nat) (b : Nat → Nat) (rm : Nat) (hi : Bool) (an : Nat → Nat) (r : Nat → Int32) (rf : Nat → Int32) (n : Int32) (hI : Inv r) : cD l Γ yX6_days cX6_days 3 (some .int) 4 [.ref h, .int n] [go h b rm hi, ydW Γ (b 0) an r, eI Γ (b 7) 7 rf] (some (.int (chE (eDays r n) (payS (daysS r (ix n))) (eDays r n)))) [go h b rm hi, ydW Γ (b 0) an (chE (eDays r n) (daysS r (ix n)) r), eI Γ (b 7) 7 (chE (eDays r n) rf (nof rf (eDays r n)))] := by
  refine e_int [(0, .ref h), (1, .int n)] (by decide +kernel) (Nat.le_of_ble_eq_true rfl) rfl (fun V K hR => ?_)
  have h5 := hI.g
  have h6 := hI.m
  refine r_iload_n K dX6_days_0 1 rfl ?_
  refine r_iconst K dX6_days_1 (nI 1) (by decide) ?_
  refine r_bipush K dX6_days_2 (nI 60) (by decide) ?_
  refine r_cSd K dX6_days_4 (c_X6_faultOfRange l Γ n (nI 1) (nI 60)) mX6_faultOfRange q374 rfl (by decide) 3 rfl [] [0, 1, 2] rfl rfl [go h b rm hi, ydW Γ (b 0) an r, eI Γ (b 7) 7 rf] rfl [go h b rm hi, ydW Γ (b 0) an r, eI Γ (b 7) 7 rf] rfl rfl rfl [] rfl (Nat.le_of_ble_eq_true rfl) ?_
  refine r_istore_n K dX6_days_7 rfl (by decide) (lv1 := [(2, .int (wrS n (nI 1) (nI 60))), (0, .ref h), (1, .int n)]) rfl ?_
  refine r_iload_n K dX6_days_8 0 rfl ?_
  refine r_if_eq K dX6_days_9 (fun c9 => ?_) (fun c9 => ?_)
  · have hn := wrS_ok (by decide) (by decide) c9
    have ln := hn.2
    refine r_lc (lv1 := [(2, .int (wrS n (nI 1) (nI 60))), (0, .ref h), (1, .int (nI (ix n)))]) (congrArg (fun zz : Int32 => ([(2, .int (wrS n (nI 1) (nI 60))), (0, .ref h), (1, .int zz)] : List (Nat × Value))) (hn.1)) ?_
    refine r_aload_n K dX6_days_18 1 rfl ?_
    refine r_get K dX6_days_19 (kf := 0) 0 rfl rfl hinX6 (by decide) q114 rfl rfl ?_
    refine r_cVd K dX6_days_22 (c_X0_today l Γ (b 0) an r (hI)) mX0_today q399 rfl (by decide) rfl rfl 3 rfl [1] [0, 2] rfl rfl [go h b rm hi, eI Γ (b 7) 7 rf] rfl [go h b rm hi, ydW Γ (b 0) an r, eI Γ (b 7) 7 rf] rfl rfl rfl [] rfl (Nat.le_of_ble_eq_true rfl) ?_
    refine r_iload_n K dX6_days_25 2 rfl ?_
    refine r_iadd K dX6_days_26 ?_
    refine r_sipush K dX6_days_27 (nI 999) (by decide) ?_
    refine r_ic_le K dX6_days_30 (fun c30 => ?_) (fun c30 => ?_)
    · rw [← hn.1] at c30
      refine r_aload_n K dX6_days_40 1 rfl ?_
      refine r_get K dX6_days_41 (kf := 0) 0 rfl rfl hinX6 (by decide) q114 rfl rfl ?_
      refine r_iload_n K dX6_days_44 2 rfl ?_
      refine r_cVn K dX6_days_45 (c_X0_passDays l Γ (b 0) an r (ix n) (hI) (by first | assumption | omega)) mX0_passDays q400 rfl (by decide) rfl rfl 3 rfl [1] [0, 2] rfl rfl [go h b rm hi, eI Γ (b 7) 7 rf] rfl [go h b rm hi, ydW Γ (b 0) an (daysS r (ix n)), eI Γ (b 7) 7 rf] rfl rfl rfl [] rfl (Nat.le_of_ble_eq_true rfl) ?_
      refine r_aload_n K dX6_days_48 1 rfl ?_
      refine r_get K dX6_days_49 (kf := 0) 0 rfl rfl hinX6 (by decide) q114 rfl rfl ?_
      refine r_cVd K dX6_days_52 (c_X0_allPayS l Γ (b 0) an (daysS r (ix n)) (Inv_daysS hI _)) mX0_allPay q401 rfl (by decide) rfl rfl 3 rfl [1] [0, 2] rfl rfl [go h b rm hi, eI Γ (b 7) 7 rf] rfl [go h b rm hi, ydW Γ (b 0) an (daysS r (ix n)), eI Γ (b 7) 7 rf] rfl rfl rfl [] rfl (Nat.le_of_ble_eq_true rfl) ?_
      have he : eDays r n = 0 := by
        unfold eDays
        rw [if_neg (not_not_intro c9), if_neg (not_not_intro c30)]
      refine r_arr K (f2 := chE (eDays r n) rf (nof rf (eDays r n))) (ws1 := [go h b rm hi, ydW Γ (b 0) an (daysS r (ix n)), eI Γ (b 7) 7 (chE (eDays r n) rf (nof rf (eDays r n)))]) 2 rfl (fun _ _ => by rw [chE_0 he]) rfl ?_
      refine r_ws K (ws1 := [go h b rm hi, ydW Γ (b 0) an (chE (eDays r n) (daysS r (ix n)) r), eI Γ (b 7) 7 (chE (eDays r n) rf (nof rf (eDays r n)))]) (by rw [chE_0 (a := daysS r (ix n)) (b := r) he]; exact weq.rf) ?_
      exact hR () dX6_days_55 (trivial) (e_ri (ex_0 he (rfl))) (weq.rf)
    · rw [← hn.1] at c30
      refine r_aload_n K dX6_days_33 1 rfl ?_
      refine r_bipush K dX6_days_34 ((-6)) (by decide) ?_
      refine r_cVd K dX6_days_36 (c_X6_refuse l Γ h b rm hi rf (-6) (okR_6)) mX6_refuse q149 rfl (by decide) rfl rfl 3 rfl [0, 2] [1] rfl rfl [ydW Γ (b 0) an r] rfl [go h b rm hi, ydW Γ (b 0) an r, eI Γ (b 7) 7 (nof rf (-6))] rfl rfl rfl [] rfl (Nat.le_of_ble_eq_true rfl) ?_
      have he : eDays r n = (-6) := by
        unfold eDays
        rw [if_neg (not_not_intro c9), if_pos c30]
      refine r_arr K (f2 := chE (eDays r n) rf (nof rf (eDays r n))) (ws1 := [go h b rm hi, ydW Γ (b 0) an r, eI Γ (b 7) 7 (chE (eDays r n) rf (nof rf (eDays r n)))]) 2 rfl (fun _ _ => by rw [ch_n (g := nof rf) he (by decide)]) rfl ?_
      refine r_ws K (ws1 := [go h b rm hi, ydW Γ (b 0) an (chE (eDays r n) (daysS r (ix n)) r), eI Γ (b 7) 7 (chE (eDays r n) rf (nof rf (eDays r n)))]) (by rw [chE_n (a := daysS r (ix n)) (b := r) (by rw [he]; exact (by decide))]; exact weq.rf) ?_
      exact hR () dX6_days_39 (trivial) (e_ri (ex_n he (by decide))) (weq.rf)
  · refine r_aload_n K dX6_days_12 1 rfl ?_
    refine r_iload_n K dX6_days_13 0 rfl ?_
    refine r_cVd K dX6_days_14 (c_X6_refuse l Γ h b rm hi rf (wrS n (nI 1) (nI 60)) (okR_wr c9)) mX6_refuse q149 rfl (by decide) rfl rfl 3 rfl [0, 2] [1] rfl rfl [ydW Γ (b 0) an r] rfl [go h b rm hi, ydW Γ (b 0) an r, eI Γ (b 7) 7 (nof rf (wrS n (nI 1) (nI 60)))] rfl rfl rfl [] rfl (Nat.le_of_ble_eq_true rfl) ?_
    have he : eDays r n = wrS n (nI 1) (nI 60) := by
      unfold eDays
      rw [if_pos c9]
    refine r_arr K (f2 := chE (eDays r n) rf (nof rf (eDays r n))) (ws1 := [go h b rm hi, ydW Γ (b 0) an r, eI Γ (b 7) 7 (chE (eDays r n) rf (nof rf (eDays r n)))]) 2 rfl (fun _ _ => by rw [ch_n (g := nof rf) he c9]) rfl ?_
    refine r_ws K (ws1 := [go h b rm hi, ydW Γ (b 0) an (chE (eDays r n) (daysS r (ix n)) r), eI Γ (b 7) 7 (chE (eDays r n) rf (nof rf (eDays r n)))]) (by rw [chE_n (a := daysS r (ix n)) (b := r) (by rw [he]; exact c9)]; exact weq.rf) ?_
    exact hR () dX6_days_17 (trivial) (e_ri (ex_n he c9)) (weq.rf)
set_option maxHeartbeats 1000000 in
set_option maxRecDepth 20000 in
theorem c_X6_graveThen (l : Launch) (Γ : eG) (h : Nat) (b : Nat → Nat) (rm : Nat) (hi : Bool) (an : Nat → Nat) (r : Nat → Int32) (sd : Int32) (am : Nat → Nat) (mi : Nat → Int32) (rf : Nat → Int32) (x : Int32) (n : Int32) (w : Int32) (hI : Inv r) : cE l Γ yX6_graveThen cX6_graveThen 6 (some .int) 5 [.ref h, .int x, .int n, .int w] [go h b rm hi, ydW Γ (b 0) an r, eO (b 3) 3 [.ref (b 0), .ref (b 8), .ref (b 9), .int sd], ydW Γ (b 8) am mi, eI Γ (b 7) 7 rf] (S := Nat → Int32) (fun u => True) (fun u => (some (.int (chE (eGraveThen r x n w) (daysS r (ix n) (iG (ix x) (1 + ix w))) (eGraveThen r x n w))))) (fun u => [go h b rm hi, ydW Γ (b 0) an r, eO (b 3) 3 [.ref (b 0), .ref (b 8), .ref (b 9), .int sd], ydW Γ (b 8) am u, eI Γ (b 7) 7 (chE (eGraveThen r x n w) rf (nof rf (eGraveThen r x n w)))]) := by
  refine e_int [(0, .ref h), (1, .int x), (2, .int n), (3, .int w)] (by decide +kernel) (Nat.le_of_ble_eq_true rfl) rfl (fun V K hR => ?_)
  have h5 := hI.g
  have h6 := hI.m
  refine r_aload_n K dX6_graveThen_0 0 rfl ?_
  refine r_get K dX6_graveThen_1 (kf := 0) 0 rfl rfl hinX6 (by decide) q114 rfl rfl ?_
  refine r_iload_n K dX6_graveThen_4 1 rfl ?_
  refine r_cVd K dX6_graveThen_5 (c_X0_hasGrave l Γ (b 0) an r x (hI)) mX0_hasGrave q297 rfl (by decide) rfl rfl 5 rfl [1] [0, 2, 3, 4] rfl rfl [go h b rm hi, eO (b 3) 3 [.ref (b 0), .ref (b 8), .ref (b 9), .int sd], ydW Γ (b 8) am mi, eI Γ (b 7) 7 rf] rfl [go h b rm hi, ydW Γ (b 0) an r, eO (b 3) 3 [.ref (b 0), .ref (b 8), .ref (b 9), .int sd], ydW Γ (b 8) am mi, eI Γ (b 7) 7 rf] rfl rfl rfl [] rfl (Nat.le_of_ble_eq_true rfl) ?_
  refine r_ifneB K dX6_graveThen_8 (fun c8 => ?_) (fun c8 => ?_)
  · have hx := inN_e c8 (by omega)
    have lx := ix_lt c8 (by omega)
    refine r_lc (lv1 := [(0, .ref h), (1, .int (nI (ix x))), (2, .int n), (3, .int w)]) (congrArg (fun zz : Int32 => ([(0, .ref h), (1, .int zz), (2, .int n), (3, .int w)] : List (Nat × Value))) (hx)) ?_
    refine r_iload_n K dX6_graveThen_17 2 rfl ?_
    refine r_iconst K dX6_graveThen_18 (nI 0) (by decide) ?_
    refine r_bipush K dX6_graveThen_19 (nI 60) (by decide) ?_
    refine r_cSd K dX6_graveThen_21 (c_X6_faultOfRange l Γ n (nI 0) (nI 60)) mX6_faultOfRange q374 rfl (by decide) 5 rfl [] [0, 1, 2, 3, 4] rfl rfl [go h b rm hi, ydW Γ (b 0) an r, eO (b 3) 3 [.ref (b 0), .ref (b 8), .ref (b 9), .int sd], ydW Γ (b 8) am mi, eI Γ (b 7) 7 rf] rfl [go h b rm hi, ydW Γ (b 0) an r, eO (b 3) 3 [.ref (b 0), .ref (b 8), .ref (b 9), .int sd], ydW Γ (b 8) am mi, eI Γ (b 7) 7 rf] rfl rfl rfl [] rfl (Nat.le_of_ble_eq_true rfl) ?_
    refine r_istore K dX6_graveThen_24 (by decide) (lv1 := [(4, .int (wrS n (nI 0) (nI 60))), (0, .ref h), (1, .int (nI (ix x))), (2, .int n), (3, .int w)]) rfl ?_
    refine r_iload K dX6_graveThen_26 0 rfl ?_
    refine r_if_eq K dX6_graveThen_28 (fun c28 => ?_) (fun c28 => ?_)
    · have hn := wrS_ok (by decide) (by decide) c28
      have ln := hn.2
      refine r_lc (lv1 := [(4, .int (wrS n (nI 0) (nI 60))), (0, .ref h), (1, .int (nI (ix x))), (2, .int (nI (ix n))), (3, .int w)]) (congrArg (fun zz : Int32 => ([(4, .int (wrS n (nI 0) (nI 60))), (0, .ref h), (1, .int (nI (ix x))), (2, .int zz), (3, .int w)] : List (Nat × Value))) (hn.1)) ?_
      refine r_iload_n K dX6_graveThen_38 4 rfl ?_
      refine r_if_lt K dX6_graveThen_39 (fun c39 => ?_) (fun c39 => ?_)
      · have hb : isInB w (nI 0) (nI 1) = false := isInB_f1 c39
        refine r_aload_n K dX6_graveThen_47 1 rfl ?_
        refine r_bipush K dX6_graveThen_48 ((-2)) (by decide) ?_
        refine r_cVd K dX6_graveThen_50 (c_X6_refuse l Γ h b rm hi rf (-2) (okR_2)) mX6_refuse q149 rfl (by decide) rfl rfl 5 rfl [0, 4] [1, 2, 3] rfl rfl [ydW Γ (b 0) an r, eO (b 3) 3 [.ref (b 0), .ref (b 8), .ref (b 9), .int sd], ydW Γ (b 8) am mi] rfl [go h b rm hi, ydW Γ (b 0) an r, eO (b 3) 3 [.ref (b 0), .ref (b 8), .ref (b 9), .int sd], ydW Γ (b 8) am mi, eI Γ (b 7) 7 (nof rf (-2))] rfl rfl rfl [] rfl (Nat.le_of_ble_eq_true rfl) ?_
        have he : eGraveThen r x n w = (-2) := by
          unfold eGraveThen
          rw [if_neg (not_not_intro c8), if_neg (not_not_intro c28), if_pos (nt hb)]
        refine r_arr K (f2 := chE (eGraveThen r x n w) rf (nof rf (eGraveThen r x n w))) (ws1 := [go h b rm hi, ydW Γ (b 0) an r, eO (b 3) 3 [.ref (b 0), .ref (b 8), .ref (b 9), .int sd], ydW Γ (b 8) am mi, eI Γ (b 7) 7 (chE (eGraveThen r x n w) rf (nof rf (eGraveThen r x n w)))]) 4 rfl (fun _ _ => by rw [ch_n (g := nof rf) he (by decide)]) rfl ?_
        exact hR mi dX6_graveThen_53 (trivial) (e_ri (ex_n he (by decide))) (weq.rf)
      · refine r_iload_n K dX6_graveThen_42 4 rfl ?_
        refine r_iconst K dX6_graveThen_43 (nI 1) (by decide) ?_
        refine r_ic_le K dX6_graveThen_44 (fun c44 => ?_) (fun c44 => ?_)
        · have hb : isInB w (nI 0) (nI 1) = true := isInB_t c39 (Int32.not_lt.mpr c44)
          have hw := isInB_ok (lo := 0) (hi := 1) (by decide) (by decide) hb
          have lw := hw.2
          refine r_lc (lv1 := [(4, .int (wrS n (nI 0) (nI 60))), (0, .ref h), (1, .int (nI (ix x))), (2, .int (nI (ix n))), (3, .int (nI (ix w)))]) (congrArg (fun zz : Int32 => ([(4, .int (wrS n (nI 0) (nI 60))), (0, .ref h), (1, .int (nI (ix x))), (2, .int (nI (ix n))), (3, .int zz)] : List (Nat × Value))) (hw.1)) ?_
          refine r_aload_n K dX6_graveThen_54 1 rfl ?_
          refine r_get K dX6_graveThen_55 (kf := 3) 0 rfl rfl hinX6 (by decide) q117 rfl rfl ?_
          refine r_iload_n K dX6_graveThen_58 3 rfl ?_
          refine r_cVd K dX6_graveThen_59 (c_X5_after l Γ (b 3) (b 0) (b 8) (b 9) sd an am r mi (ix n) (hI) (by first | assumption | omega)) mX5_after q409 rfl (by decide) rfl rfl 5 rfl [2, 1, 3] [0, 4] rfl rfl [go h b rm hi, eI Γ (b 7) 7 rf] rfl [go h b rm hi, ydW Γ (b 0) an r, eO (b 3) 3 [.ref (b 0), .ref (b 8), .ref (b 9), .int sd], ydW Γ (b 8) am (daysS r (ix n)), eI Γ (b 7) 7 rf] rfl rfl rfl [] rfl (Nat.le_of_ble_eq_true rfl) ?_
          refine r_astore K dX6_graveThen_62 (by decide) (lv1 := [(5, .ref (b 8)), (4, .int (wrS n (nI 0) (nI 60))), (0, .ref h), (1, .int (nI (ix x))), (2, .int (nI (ix n))), (3, .int (nI (ix w)))]) rfl ?_
          refine r_iload_n K dX6_graveThen_64 5 rfl ?_
          refine r_if_neN K dX6_graveThen_65 (by omega) (fun c65 => ?_) (fun c65 => ?_)
          · refine r_aload K dX6_graveThen_77 0 rfl ?_
            refine r_iload_n K dX6_graveThen_79 3 rfl ?_
            refine r_cVd K dX6_graveThen_80 (c_X0_wetnessN l Γ (b 8) am (daysS r (ix n)) (ix x) (Inv_daysS (hI) (ix n)) (by first | omega | (simp only [daysS_nM, daysS_nG, dayS_nM, dayS_nG, tellS_nM, tellS_nG, aloneTo_nM, aloneTo_nG, nM_M, nG_M, nM_G, nG_G, lv_nM, lv_nG, gnT_nM, gnT_nG] <;> omega))) mX0_wetness q306 rfl (by decide) rfl rfl 5 rfl [3] [0, 1, 2, 4] rfl rfl [go h b rm hi, ydW Γ (b 0) an r, eO (b 3) 3 [.ref (b 0), .ref (b 8), .ref (b 9), .int sd], eI Γ (b 7) 7 rf] rfl [go h b rm hi, ydW Γ (b 0) an r, eO (b 3) 3 [.ref (b 0), .ref (b 8), .ref (b 9), .int sd], ydW Γ (b 8) am (daysS r (ix n)), eI Γ (b 7) 7 rf] rfl rfl rfl [] rfl (Nat.le_of_ble_eq_true rfl) ?_
            have he : eGraveThen r x n w = 0 := by
              unfold eGraveThen
              rw [if_neg (not_not_intro c8), if_neg (not_not_intro c28), if_neg (not_not_intro hb)]
            refine r_arr K (f2 := chE (eGraveThen r x n w) rf (nof rf (eGraveThen r x n w))) (ws1 := [go h b rm hi, ydW Γ (b 0) an r, eO (b 3) 3 [.ref (b 0), .ref (b 8), .ref (b 9), .int sd], ydW Γ (b 8) am (daysS r (ix n)), eI Γ (b 7) 7 (chE (eGraveThen r x n w) rf (nof rf (eGraveThen r x n w)))]) 4 rfl (fun _ _ => by rw [chE_0 he]) rfl ?_
            exact hR (daysS r (ix n)) dX6_graveThen_83 (trivial) (e_ri (ex_0 he (by rw [show ix w = 1 by omega]))) (weq.rf)
          · refine r_aload K dX6_graveThen_68 0 rfl ?_
            refine r_iload_n K dX6_graveThen_70 3 rfl ?_
            refine r_cVd K dX6_graveThen_71 (c_X0_depthN l Γ (b 8) am (daysS r (ix n)) (ix x) (Inv_daysS (hI) (ix n)) (by first | omega | (simp only [daysS_nM, daysS_nG, dayS_nM, dayS_nG, tellS_nM, tellS_nG, aloneTo_nM, aloneTo_nG, nM_M, nG_M, nM_G, nG_G, lv_nM, lv_nG, gnT_nM, gnT_nG] <;> omega))) mX0_depth q302 rfl (by decide) rfl rfl 5 rfl [3] [0, 1, 2, 4] rfl rfl [go h b rm hi, ydW Γ (b 0) an r, eO (b 3) 3 [.ref (b 0), .ref (b 8), .ref (b 9), .int sd], eI Γ (b 7) 7 rf] rfl [go h b rm hi, ydW Γ (b 0) an r, eO (b 3) 3 [.ref (b 0), .ref (b 8), .ref (b 9), .int sd], ydW Γ (b 8) am (daysS r (ix n)), eI Γ (b 7) 7 rf] rfl rfl rfl [] rfl (Nat.le_of_ble_eq_true rfl) ?_
            refine r_goto K dX6_graveThen_74 ?_
            have he : eGraveThen r x n w = 0 := by
              unfold eGraveThen
              rw [if_neg (not_not_intro c8), if_neg (not_not_intro c28), if_neg (not_not_intro hb)]
            refine r_arr K (f2 := chE (eGraveThen r x n w) rf (nof rf (eGraveThen r x n w))) (ws1 := [go h b rm hi, ydW Γ (b 0) an r, eO (b 3) 3 [.ref (b 0), .ref (b 8), .ref (b 9), .int sd], ydW Γ (b 8) am (daysS r (ix n)), eI Γ (b 7) 7 (chE (eGraveThen r x n w) rf (nof rf (eGraveThen r x n w)))]) 4 rfl (fun _ _ => by rw [chE_0 he]) rfl ?_
            exact hR (daysS r (ix n)) dX6_graveThen_83 (trivial) (e_ri (ex_0 he (by rw [show ix w = 0 by omega]))) (weq.rf)
        · have hb : isInB w (nI 0) (nI 1) = false := isInB_f2 (Int32.not_le.mp c44)
          refine r_aload_n K dX6_graveThen_47 1 rfl ?_
          refine r_bipush K dX6_graveThen_48 ((-2)) (by decide) ?_
          refine r_cVd K dX6_graveThen_50 (c_X6_refuse l Γ h b rm hi rf (-2) (okR_2)) mX6_refuse q149 rfl (by decide) rfl rfl 5 rfl [0, 4] [1, 2, 3] rfl rfl [ydW Γ (b 0) an r, eO (b 3) 3 [.ref (b 0), .ref (b 8), .ref (b 9), .int sd], ydW Γ (b 8) am mi] rfl [go h b rm hi, ydW Γ (b 0) an r, eO (b 3) 3 [.ref (b 0), .ref (b 8), .ref (b 9), .int sd], ydW Γ (b 8) am mi, eI Γ (b 7) 7 (nof rf (-2))] rfl rfl rfl [] rfl (Nat.le_of_ble_eq_true rfl) ?_
          have he : eGraveThen r x n w = (-2) := by
            unfold eGraveThen
            rw [if_neg (not_not_intro c8), if_neg (not_not_intro c28), if_pos (nt hb)]
          refine r_arr K (f2 := chE (eGraveThen r x n w) rf (nof rf (eGraveThen r x n w))) (ws1 := [go h b rm hi, ydW Γ (b 0) an r, eO (b 3) 3 [.ref (b 0), .ref (b 8), .ref (b 9), .int sd], ydW Γ (b 8) am mi, eI Γ (b 7) 7 (chE (eGraveThen r x n w) rf (nof rf (eGraveThen r x n w)))]) 4 rfl (fun _ _ => by rw [ch_n (g := nof rf) he (by decide)]) rfl ?_
          exact hR mi dX6_graveThen_53 (trivial) (e_ri (ex_n he (by decide))) (weq.rf)
    · refine r_aload_n K dX6_graveThen_31 1 rfl ?_
      refine r_iload K dX6_graveThen_32 0 rfl ?_
      refine r_cVd K dX6_graveThen_34 (c_X6_refuse l Γ h b rm hi rf (wrS n (nI 0) (nI 60)) (okR_wr c28)) mX6_refuse q149 rfl (by decide) rfl rfl 5 rfl [0, 4] [1, 2, 3] rfl rfl [ydW Γ (b 0) an r, eO (b 3) 3 [.ref (b 0), .ref (b 8), .ref (b 9), .int sd], ydW Γ (b 8) am mi] rfl [go h b rm hi, ydW Γ (b 0) an r, eO (b 3) 3 [.ref (b 0), .ref (b 8), .ref (b 9), .int sd], ydW Γ (b 8) am mi, eI Γ (b 7) 7 (nof rf (wrS n (nI 0) (nI 60)))] rfl rfl rfl [] rfl (Nat.le_of_ble_eq_true rfl) ?_
      have he : eGraveThen r x n w = wrS n (nI 0) (nI 60) := by
        unfold eGraveThen
        rw [if_neg (not_not_intro c8), if_pos c28]
      refine r_arr K (f2 := chE (eGraveThen r x n w) rf (nof rf (eGraveThen r x n w))) (ws1 := [go h b rm hi, ydW Γ (b 0) an r, eO (b 3) 3 [.ref (b 0), .ref (b 8), .ref (b 9), .int sd], ydW Γ (b 8) am mi, eI Γ (b 7) 7 (chE (eGraveThen r x n w) rf (nof rf (eGraveThen r x n w)))]) 4 rfl (fun _ _ => by rw [ch_n (g := nof rf) he c28]) rfl ?_
      exact hR mi dX6_graveThen_37 (trivial) (e_ri (ex_n he c28)) (weq.rf)
  · refine r_aload_n K dX6_graveThen_11 0 rfl ?_
    refine r_iconst K dX6_graveThen_12 ((-1)) (by decide) ?_
    refine r_cVd K dX6_graveThen_13 (c_X6_refuse l Γ h b rm hi rf (-1) (okR_1)) mX6_refuse q149 rfl (by decide) rfl rfl 5 rfl [0, 4] [1, 2, 3] rfl rfl [ydW Γ (b 0) an r, eO (b 3) 3 [.ref (b 0), .ref (b 8), .ref (b 9), .int sd], ydW Γ (b 8) am mi] rfl [go h b rm hi, ydW Γ (b 0) an r, eO (b 3) 3 [.ref (b 0), .ref (b 8), .ref (b 9), .int sd], ydW Γ (b 8) am mi, eI Γ (b 7) 7 (nof rf (-1))] rfl rfl rfl [] rfl (Nat.le_of_ble_eq_true rfl) ?_
    have he : eGraveThen r x n w = (-1) := by
      unfold eGraveThen
      rw [if_pos (nt c8)]
    refine r_arr K (f2 := chE (eGraveThen r x n w) rf (nof rf (eGraveThen r x n w))) (ws1 := [go h b rm hi, ydW Γ (b 0) an r, eO (b 3) 3 [.ref (b 0), .ref (b 8), .ref (b 9), .int sd], ydW Γ (b 8) am mi, eI Γ (b 7) 7 (chE (eGraveThen r x n w) rf (nof rf (eGraveThen r x n w)))]) 4 rfl (fun _ _ => by rw [ch_n (g := nof rf) he (by decide)]) rfl ?_
    exact hR mi dX6_graveThen_16 (trivial) (e_ri (ex_n he (by decide))) (weq.rf)
set_option maxHeartbeats 1000000 in
set_option maxRecDepth 20000 in
theorem c_X6_griefThen (l : Launch) (Γ : eG) (h : Nat) (b : Nat → Nat) (rm : Nat) (hi : Bool) (an : Nat → Nat) (r : Nat → Int32) (sd : Int32) (am : Nat → Nat) (mi : Nat → Int32) (rf : Nat → Int32) (x : Int32) (n : Int32) (hI : Inv r) : cE l Γ yX6_griefThen cX6_griefThen 4 (some .int) 5 [.ref h, .int x, .int n] [go h b rm hi, ydW Γ (b 0) an r, eO (b 3) 3 [.ref (b 0), .ref (b 8), .ref (b 9), .int sd], ydW Γ (b 8) am mi, eI Γ (b 7) 7 rf] (S := Nat → Int32) (fun u => True) (fun u => (some (.int (chE (eMoW r x n (nI 0) (nI 60)) (daysS r (ix n) (iM (ix x) 2)) (eMoW r x n (nI 0) (nI 60)))))) (fun u => [go h b rm hi, ydW Γ (b 0) an r, eO (b 3) 3 [.ref (b 0), .ref (b 8), .ref (b 9), .int sd], ydW Γ (b 8) am u, eI Γ (b 7) 7 (chE (eMoW r x n (nI 0) (nI 60)) rf (nof rf (eMoW r x n (nI 0) (nI 60))))]) := by
  refine e_int [(0, .ref h), (1, .int x), (2, .int n)] (by decide +kernel) (Nat.le_of_ble_eq_true rfl) rfl (fun V K hR => ?_)
  have h5 := hI.g
  have h6 := hI.m
  refine r_aload_n K dX6_griefThen_0 0 rfl ?_
  refine r_get K dX6_griefThen_1 (kf := 0) 0 rfl rfl hinX6 (by decide) q114 rfl rfl ?_
  refine r_iload_n K dX6_griefThen_4 1 rfl ?_
  refine r_cVd K dX6_griefThen_5 (c_X0_hasMourner l Γ (b 0) an r x (hI)) mX0_hasMourner q347 rfl (by decide) rfl rfl 5 rfl [1] [0, 2, 3, 4] rfl rfl [go h b rm hi, eO (b 3) 3 [.ref (b 0), .ref (b 8), .ref (b 9), .int sd], ydW Γ (b 8) am mi, eI Γ (b 7) 7 rf] rfl [go h b rm hi, ydW Γ (b 0) an r, eO (b 3) 3 [.ref (b 0), .ref (b 8), .ref (b 9), .int sd], ydW Γ (b 8) am mi, eI Γ (b 7) 7 rf] rfl rfl rfl [] rfl (Nat.le_of_ble_eq_true rfl) ?_
  refine r_ifneB K dX6_griefThen_8 (fun c8 => ?_) (fun c8 => ?_)
  · have hx := inN_e c8 (by omega)
    have lx := ix_lt c8 (by omega)
    refine r_lc (lv1 := [(0, .ref h), (1, .int (nI (ix x))), (2, .int n)]) (congrArg (fun zz : Int32 => ([(0, .ref h), (1, .int zz), (2, .int n)] : List (Nat × Value))) (hx)) ?_
    refine r_iload_n K dX6_griefThen_17 2 rfl ?_
    refine r_iconst K dX6_griefThen_18 (nI 0) (by decide) ?_
    refine r_bipush K dX6_griefThen_19 (nI 60) (by decide) ?_
    refine r_cSd K dX6_griefThen_21 (c_X6_faultOfRange l Γ n (nI 0) (nI 60)) mX6_faultOfRange q374 rfl (by decide) 5 rfl [] [0, 1, 2, 3, 4] rfl rfl [go h b rm hi, ydW Γ (b 0) an r, eO (b 3) 3 [.ref (b 0), .ref (b 8), .ref (b 9), .int sd], ydW Γ (b 8) am mi, eI Γ (b 7) 7 rf] rfl [go h b rm hi, ydW Γ (b 0) an r, eO (b 3) 3 [.ref (b 0), .ref (b 8), .ref (b 9), .int sd], ydW Γ (b 8) am mi, eI Γ (b 7) 7 rf] rfl rfl rfl [] rfl (Nat.le_of_ble_eq_true rfl) ?_
    refine r_istore_n K dX6_griefThen_24 rfl (by decide) (lv1 := [(3, .int (wrS n (nI 0) (nI 60))), (0, .ref h), (1, .int (nI (ix x))), (2, .int n)]) rfl ?_
    refine r_iload_n K dX6_griefThen_25 0 rfl ?_
    refine r_if_eq K dX6_griefThen_26 (fun c26 => ?_) (fun c26 => ?_)
    · have hn := wrS_ok (by decide) (by decide) c26
      have ln := hn.2
      refine r_lc (lv1 := [(3, .int (wrS n (nI 0) (nI 60))), (0, .ref h), (1, .int (nI (ix x))), (2, .int (nI (ix n)))]) (congrArg (fun zz : Int32 => ([(3, .int (wrS n (nI 0) (nI 60))), (0, .ref h), (1, .int (nI (ix x))), (2, .int zz)] : List (Nat × Value))) (hn.1)) ?_
      refine r_aload_n K dX6_griefThen_35 1 rfl ?_
      refine r_get K dX6_griefThen_36 (kf := 3) 0 rfl rfl hinX6 (by decide) q117 rfl rfl ?_
      refine r_iload_n K dX6_griefThen_39 3 rfl ?_
      refine r_cVd K dX6_griefThen_40 (c_X5_after l Γ (b 3) (b 0) (b 8) (b 9) sd an am r mi (ix n) (hI) (by first | assumption | omega)) mX5_after q409 rfl (by decide) rfl rfl 5 rfl [2, 1, 3] [0, 4] rfl rfl [go h b rm hi, eI Γ (b 7) 7 rf] rfl [go h b rm hi, ydW Γ (b 0) an r, eO (b 3) 3 [.ref (b 0), .ref (b 8), .ref (b 9), .int sd], ydW Γ (b 8) am (daysS r (ix n)), eI Γ (b 7) 7 rf] rfl rfl rfl [] rfl (Nat.le_of_ble_eq_true rfl) ?_
      refine r_iload_n K dX6_griefThen_43 2 rfl ?_
      refine r_cVd K dX6_griefThen_44 (c_X0_griefOfN l Γ (b 8) am (daysS r (ix n)) (ix x) (Inv_daysS (hI) (ix n)) (by first | omega | (simp only [daysS_nM, daysS_nG, dayS_nM, dayS_nG, tellS_nM, tellS_nG, aloneTo_nM, aloneTo_nG, nM_M, nG_M, nM_G, nG_G, lv_nM, lv_nG, gnT_nM, gnT_nG] <;> omega))) mX0_griefOf q350 rfl (by decide) rfl rfl 5 rfl [3] [0, 1, 2, 4] rfl rfl [go h b rm hi, ydW Γ (b 0) an r, eO (b 3) 3 [.ref (b 0), .ref (b 8), .ref (b 9), .int sd], eI Γ (b 7) 7 rf] rfl [go h b rm hi, ydW Γ (b 0) an r, eO (b 3) 3 [.ref (b 0), .ref (b 8), .ref (b 9), .int sd], ydW Γ (b 8) am (daysS r (ix n)), eI Γ (b 7) 7 rf] rfl rfl rfl [] rfl (Nat.le_of_ble_eq_true rfl) ?_
      have he : eMoW r x n (nI 0) (nI 60) = 0 := by
        unfold eMoW
        rw [if_neg (not_not_intro c8), if_neg (not_not_intro c26)]
      refine r_arr K (f2 := chE (eMoW r x n (nI 0) (nI 60)) rf (nof rf (eMoW r x n (nI 0) (nI 60)))) (ws1 := [go h b rm hi, ydW Γ (b 0) an r, eO (b 3) 3 [.ref (b 0), .ref (b 8), .ref (b 9), .int sd], ydW Γ (b 8) am (daysS r (ix n)), eI Γ (b 7) 7 (chE (eMoW r x n (nI 0) (nI 60)) rf (nof rf (eMoW r x n (nI 0) (nI 60))))]) 4 rfl (fun _ _ => by rw [chE_0 he]) rfl ?_
      exact hR (daysS r (ix n)) dX6_griefThen_47 (trivial) (e_ri (ex_0 he (rfl))) (weq.rf)
    · refine r_aload_n K dX6_griefThen_29 1 rfl ?_
      refine r_iload_n K dX6_griefThen_30 0 rfl ?_
      refine r_cVd K dX6_griefThen_31 (c_X6_refuse l Γ h b rm hi rf (wrS n (nI 0) (nI 60)) (okR_wr c26)) mX6_refuse q149 rfl (by decide) rfl rfl 5 rfl [0, 4] [1, 2, 3] rfl rfl [ydW Γ (b 0) an r, eO (b 3) 3 [.ref (b 0), .ref (b 8), .ref (b 9), .int sd], ydW Γ (b 8) am mi] rfl [go h b rm hi, ydW Γ (b 0) an r, eO (b 3) 3 [.ref (b 0), .ref (b 8), .ref (b 9), .int sd], ydW Γ (b 8) am mi, eI Γ (b 7) 7 (nof rf (wrS n (nI 0) (nI 60)))] rfl rfl rfl [] rfl (Nat.le_of_ble_eq_true rfl) ?_
      have he : eMoW r x n (nI 0) (nI 60) = wrS n (nI 0) (nI 60) := by
        unfold eMoW
        rw [if_neg (not_not_intro c8), if_pos c26]
      refine r_arr K (f2 := chE (eMoW r x n (nI 0) (nI 60)) rf (nof rf (eMoW r x n (nI 0) (nI 60)))) (ws1 := [go h b rm hi, ydW Γ (b 0) an r, eO (b 3) 3 [.ref (b 0), .ref (b 8), .ref (b 9), .int sd], ydW Γ (b 8) am mi, eI Γ (b 7) 7 (chE (eMoW r x n (nI 0) (nI 60)) rf (nof rf (eMoW r x n (nI 0) (nI 60))))]) 4 rfl (fun _ _ => by rw [ch_n (g := nof rf) he c26]) rfl ?_
      exact hR mi dX6_griefThen_34 (trivial) (e_ri (ex_n he c26)) (weq.rf)
  · refine r_aload_n K dX6_griefThen_11 0 rfl ?_
    refine r_iconst K dX6_griefThen_12 ((-1)) (by decide) ?_
    refine r_cVd K dX6_griefThen_13 (c_X6_refuse l Γ h b rm hi rf (-1) (okR_1)) mX6_refuse q149 rfl (by decide) rfl rfl 5 rfl [0, 4] [1, 2, 3] rfl rfl [ydW Γ (b 0) an r, eO (b 3) 3 [.ref (b 0), .ref (b 8), .ref (b 9), .int sd], ydW Γ (b 8) am mi] rfl [go h b rm hi, ydW Γ (b 0) an r, eO (b 3) 3 [.ref (b 0), .ref (b 8), .ref (b 9), .int sd], ydW Γ (b 8) am mi, eI Γ (b 7) 7 (nof rf (-1))] rfl rfl rfl [] rfl (Nat.le_of_ble_eq_true rfl) ?_
    have he : eMoW r x n (nI 0) (nI 60) = (-1) := by
      unfold eMoW
      rw [if_pos (nt c8)]
    refine r_arr K (f2 := chE (eMoW r x n (nI 0) (nI 60)) rf (nof rf (eMoW r x n (nI 0) (nI 60)))) (ws1 := [go h b rm hi, ydW Γ (b 0) an r, eO (b 3) 3 [.ref (b 0), .ref (b 8), .ref (b 9), .int sd], ydW Γ (b 8) am mi, eI Γ (b 7) 7 (chE (eMoW r x n (nI 0) (nI 60)) rf (nof rf (eMoW r x n (nI 0) (nI 60))))]) 4 rfl (fun _ _ => by rw [ch_n (g := nof rf) he (by decide)]) rfl ?_
    exact hR mi dX6_griefThen_16 (trivial) (e_ri (ex_n he (by decide))) (weq.rf)
set_option maxHeartbeats 1000000 in
set_option maxRecDepth 20000 in
theorem c_X6_payThen (l : Launch) (Γ : eG) (h : Nat) (b : Nat → Nat) (rm : Nat) (hi : Bool) (an : Nat → Nat) (r : Nat → Int32) (sd : Int32) (am : Nat → Nat) (mi : Nat → Int32) (rf : Nat → Int32) (n : Int32) (hI : Inv r) : cE l Γ yX6_payThen cX6_payThen 3 (some .int) 5 [.ref h, .int n] [go h b rm hi, ydW Γ (b 0) an r, eO (b 3) 3 [.ref (b 0), .ref (b 8), .ref (b 9), .int sd], ydW Γ (b 8) am mi, eI Γ (b 7) 7 rf] (S := Nat → Int32) (fun u => True) (fun u => (some (.int (chE (eW n (nI 0) (nI 60)) (payS (daysS r (ix n))) (eW n (nI 0) (nI 60)))))) (fun u => [go h b rm hi, ydW Γ (b 0) an r, eO (b 3) 3 [.ref (b 0), .ref (b 8), .ref (b 9), .int sd], ydW Γ (b 8) am u, eI Γ (b 7) 7 (chE (eW n (nI 0) (nI 60)) rf (nof rf (eW n (nI 0) (nI 60))))]) := by
  refine e_int [(0, .ref h), (1, .int n)] (by decide +kernel) (Nat.le_of_ble_eq_true rfl) rfl (fun V K hR => ?_)
  have h5 := hI.g
  have h6 := hI.m
  refine r_iload_n K dX6_payThen_0 1 rfl ?_
  refine r_iconst K dX6_payThen_1 (nI 0) (by decide) ?_
  refine r_bipush K dX6_payThen_2 (nI 60) (by decide) ?_
  refine r_cSd K dX6_payThen_4 (c_X6_faultOfRange l Γ n (nI 0) (nI 60)) mX6_faultOfRange q374 rfl (by decide) 5 rfl [] [0, 1, 2, 3, 4] rfl rfl [go h b rm hi, ydW Γ (b 0) an r, eO (b 3) 3 [.ref (b 0), .ref (b 8), .ref (b 9), .int sd], ydW Γ (b 8) am mi, eI Γ (b 7) 7 rf] rfl [go h b rm hi, ydW Γ (b 0) an r, eO (b 3) 3 [.ref (b 0), .ref (b 8), .ref (b 9), .int sd], ydW Γ (b 8) am mi, eI Γ (b 7) 7 rf] rfl rfl rfl [] rfl (Nat.le_of_ble_eq_true rfl) ?_
  refine r_istore_n K dX6_payThen_7 rfl (by decide) (lv1 := [(2, .int (wrS n (nI 0) (nI 60))), (0, .ref h), (1, .int n)]) rfl ?_
  refine r_iload_n K dX6_payThen_8 0 rfl ?_
  refine r_if_eq K dX6_payThen_9 (fun c9 => ?_) (fun c9 => ?_)
  · have hn := wrS_ok (by decide) (by decide) c9
    have ln := hn.2
    refine r_lc (lv1 := [(2, .int (wrS n (nI 0) (nI 60))), (0, .ref h), (1, .int (nI (ix n)))]) (congrArg (fun zz : Int32 => ([(2, .int (wrS n (nI 0) (nI 60))), (0, .ref h), (1, .int zz)] : List (Nat × Value))) (hn.1)) ?_
    refine r_aload_n K dX6_payThen_18 1 rfl ?_
    refine r_get K dX6_payThen_19 (kf := 3) 0 rfl rfl hinX6 (by decide) q117 rfl rfl ?_
    refine r_iload_n K dX6_payThen_22 2 rfl ?_
    refine r_cVd K dX6_payThen_23 (c_X5_after l Γ (b 3) (b 0) (b 8) (b 9) sd an am r mi (ix n) (hI) (by first | assumption | omega)) mX5_after q409 rfl (by decide) rfl rfl 5 rfl [2, 1, 3] [0, 4] rfl rfl [go h b rm hi, eI Γ (b 7) 7 rf] rfl [go h b rm hi, ydW Γ (b 0) an r, eO (b 3) 3 [.ref (b 0), .ref (b 8), .ref (b 9), .int sd], ydW Γ (b 8) am (daysS r (ix n)), eI Γ (b 7) 7 rf] rfl rfl rfl [] rfl (Nat.le_of_ble_eq_true rfl) ?_
    refine r_cVd K dX6_payThen_26 (c_X0_allPayS l Γ (b 8) am (daysS r (ix n)) (Inv_daysS hI _)) mX0_allPay q401 rfl (by decide) rfl rfl 5 rfl [3] [0, 1, 2, 4] rfl rfl [go h b rm hi, ydW Γ (b 0) an r, eO (b 3) 3 [.ref (b 0), .ref (b 8), .ref (b 9), .int sd], eI Γ (b 7) 7 rf] rfl [go h b rm hi, ydW Γ (b 0) an r, eO (b 3) 3 [.ref (b 0), .ref (b 8), .ref (b 9), .int sd], ydW Γ (b 8) am (daysS r (ix n)), eI Γ (b 7) 7 rf] rfl rfl rfl [] rfl (Nat.le_of_ble_eq_true rfl) ?_
    have he : eW n (nI 0) (nI 60) = 0 := by
      unfold eW
      rw [if_neg (not_not_intro c9)]
    refine r_arr K (f2 := chE (eW n (nI 0) (nI 60)) rf (nof rf (eW n (nI 0) (nI 60)))) (ws1 := [go h b rm hi, ydW Γ (b 0) an r, eO (b 3) 3 [.ref (b 0), .ref (b 8), .ref (b 9), .int sd], ydW Γ (b 8) am (daysS r (ix n)), eI Γ (b 7) 7 (chE (eW n (nI 0) (nI 60)) rf (nof rf (eW n (nI 0) (nI 60))))]) 4 rfl (fun _ _ => by rw [chE_0 he]) rfl ?_
    exact hR (daysS r (ix n)) dX6_payThen_29 (trivial) (e_ri (ex_0 he (rfl))) (weq.rf)
  · refine r_aload_n K dX6_payThen_12 1 rfl ?_
    refine r_iload_n K dX6_payThen_13 0 rfl ?_
    refine r_cVd K dX6_payThen_14 (c_X6_refuse l Γ h b rm hi rf (wrS n (nI 0) (nI 60)) (okR_wr c9)) mX6_refuse q149 rfl (by decide) rfl rfl 5 rfl [0, 4] [1, 2, 3] rfl rfl [ydW Γ (b 0) an r, eO (b 3) 3 [.ref (b 0), .ref (b 8), .ref (b 9), .int sd], ydW Γ (b 8) am mi] rfl [go h b rm hi, ydW Γ (b 0) an r, eO (b 3) 3 [.ref (b 0), .ref (b 8), .ref (b 9), .int sd], ydW Γ (b 8) am mi, eI Γ (b 7) 7 (nof rf (wrS n (nI 0) (nI 60)))] rfl rfl rfl [] rfl (Nat.le_of_ble_eq_true rfl) ?_
    have he : eW n (nI 0) (nI 60) = wrS n (nI 0) (nI 60) := by
      unfold eW
      rw [if_pos c9]
    refine r_arr K (f2 := chE (eW n (nI 0) (nI 60)) rf (nof rf (eW n (nI 0) (nI 60)))) (ws1 := [go h b rm hi, ydW Γ (b 0) an r, eO (b 3) 3 [.ref (b 0), .ref (b 8), .ref (b 9), .int sd], ydW Γ (b 8) am mi, eI Γ (b 7) 7 (chE (eW n (nI 0) (nI 60)) rf (nof rf (eW n (nI 0) (nI 60))))]) 4 rfl (fun _ _ => by rw [ch_n (g := nof rf) he c9]) rfl ?_
    exact hR mi dX6_payThen_17 (trivial) (e_ri (ex_n he c9)) (weq.rf)
set_option maxHeartbeats 1000000 in
set_option maxRecDepth 20000 in
theorem c_X6_deep (l : Launch) (Γ : eG) (h : Nat) (b : Nat → Nat) (rm : Nat) (hi : Bool) (an : Nat → Nat) (r : Nat → Int32) (sd : Int32) (am : Nat → Nat) (mi : Nat → Int32) (rf : Nat → Int32) (x : Int32) (v : Int32) (hI : Inv r) : cE l Γ yX6_deep cX6_deep 4 (some .int) 4 [.ref h, .int x, .int v] [go h b rm hi, ydW Γ (b 0) an r, eO (b 3) 3 [.ref (b 0), .ref (b 8), .ref (b 9), .int sd], ydW Γ (b 8) am mi, eI Γ (b 7) 7 rf] (S := Nat → Int32) (fun u => True) (fun u => (some (.int (chE (eGrW r x v (nI 0) (nI 99)) (deepL (ix x) v 61 r 0) (eGrW r x v (nI 0) (nI 99)))))) (fun u => [go h b rm hi, ydW Γ (b 0) an r, eO (b 3) 3 [.ref (b 0), .ref (b 8), .ref (b 9), .int sd], ydW Γ (b 8) am u, eI Γ (b 7) 7 (chE (eGrW r x v (nI 0) (nI 99)) rf (nof rf (eGrW r x v (nI 0) (nI 99))))]) := by
  refine e_int [(0, .ref h), (1, .int x), (2, .int v)] (by decide +kernel) (Nat.le_of_ble_eq_true rfl) rfl (fun V K hR => ?_)
  have h5 := hI.g
  have h6 := hI.m
  refine r_aload_n K dX6_deep_0 0 rfl ?_
  refine r_get K dX6_deep_1 (kf := 0) 0 rfl rfl hinX6 (by decide) q114 rfl rfl ?_
  refine r_iload_n K dX6_deep_4 1 rfl ?_
  refine r_cVd K dX6_deep_5 (c_X0_hasGrave l Γ (b 0) an r x (hI)) mX0_hasGrave q297 rfl (by decide) rfl rfl 5 rfl [1] [0, 2, 3, 4] rfl rfl [go h b rm hi, eO (b 3) 3 [.ref (b 0), .ref (b 8), .ref (b 9), .int sd], ydW Γ (b 8) am mi, eI Γ (b 7) 7 rf] rfl [go h b rm hi, ydW Γ (b 0) an r, eO (b 3) 3 [.ref (b 0), .ref (b 8), .ref (b 9), .int sd], ydW Γ (b 8) am mi, eI Γ (b 7) 7 rf] rfl rfl rfl [] rfl (Nat.le_of_ble_eq_true rfl) ?_
  refine r_ifneB K dX6_deep_8 (fun c8 => ?_) (fun c8 => ?_)
  · have hx := inN_e c8 (by omega)
    have lx := ix_lt c8 (by omega)
    refine r_lc (lv1 := [(0, .ref h), (1, .int (nI (ix x))), (2, .int v)]) (congrArg (fun zz : Int32 => ([(0, .ref h), (1, .int zz), (2, .int v)] : List (Nat × Value))) (hx)) ?_
    refine r_iload_n K dX6_deep_17 2 rfl ?_
    refine r_iconst K dX6_deep_18 (nI 0) (by decide) ?_
    refine r_bipush K dX6_deep_19 (nI 99) (by decide) ?_
    refine r_cSd K dX6_deep_21 (c_X6_faultOfRange l Γ v (nI 0) (nI 99)) mX6_faultOfRange q374 rfl (by decide) 5 rfl [] [0, 1, 2, 3, 4] rfl rfl [go h b rm hi, ydW Γ (b 0) an r, eO (b 3) 3 [.ref (b 0), .ref (b 8), .ref (b 9), .int sd], ydW Γ (b 8) am mi, eI Γ (b 7) 7 rf] rfl [go h b rm hi, ydW Γ (b 0) an r, eO (b 3) 3 [.ref (b 0), .ref (b 8), .ref (b 9), .int sd], ydW Γ (b 8) am mi, eI Γ (b 7) 7 rf] rfl rfl rfl [] rfl (Nat.le_of_ble_eq_true rfl) ?_
    refine r_istore_n K dX6_deep_24 rfl (by decide) (lv1 := [(3, .int (wrS v (nI 0) (nI 99))), (0, .ref h), (1, .int (nI (ix x))), (2, .int v)]) rfl ?_
    refine r_iload_n K dX6_deep_25 0 rfl ?_
    refine r_if_eq K dX6_deep_26 (fun c26 => ?_) (fun c26 => ?_)
    · have hv := wrS_ok (by decide) (by decide) c26
      have lv := hv.2
      refine r_aload_n K dX6_deep_35 1 rfl ?_
      refine r_get K dX6_deep_36 (kf := 3) 0 rfl rfl hinX6 (by decide) q117 rfl rfl ?_
      refine r_iload_n K dX6_deep_39 2 rfl ?_
      refine r_iload_n K dX6_deep_40 3 rfl ?_
      refine r_bipush K dX6_deep_41 (nI 60) (by decide) ?_
      refine r_cV K dX6_deep_43 (c_X5_daysTillDeep l Γ (b 3) (b 0) (b 8) (b 9) sd an am r mi (ix x) v (hI) (by first | omega | (simp only [daysS_nM, daysS_nG, dayS_nM, dayS_nG, tellS_nM, tellS_nG, aloneTo_nM, aloneTo_nG, nM_M, nG_M, nM_G, nG_G, lv_nM, lv_nG, gnT_nM, gnT_nG] <;> omega))) mX5_daysTillDeep q427 rfl (by decide) rfl rfl 5 rfl [2, 1, 3] [0, 4] rfl rfl [go h b rm hi, eI Γ (b 7) 7 rf] rfl (fun u => [go h b rm hi, ydW Γ (b 0) an r, eO (b 3) 3 [.ref (b 0), .ref (b 8), .ref (b 9), .int sd], ydW Γ (b 8) am u, eI Γ (b 7) 7 rf]) (fun _ => rfl) (fun _ => rfl) (fun _ => rfl) [] rfl (Nat.le_of_ble_eq_true rfl) (fun u1 hu2 => ?_)
      show V 46 _ [.int (deepL (ix x) v 61 r 0)] [go h b rm hi, ydW Γ (b 0) an r, eO (b 3) 3 [.ref (b 0), .ref (b 8), .ref (b 9), .int sd], ydW Γ (b 8) am u1, eI Γ (b 7) 7 rf]
      have he : eGrW r x v (nI 0) (nI 99) = 0 := by
        unfold eGrW
        rw [if_neg (not_not_intro c8), if_neg (not_not_intro c26)]
      refine r_arr K (f2 := chE (eGrW r x v (nI 0) (nI 99)) rf (nof rf (eGrW r x v (nI 0) (nI 99)))) (ws1 := [go h b rm hi, ydW Γ (b 0) an r, eO (b 3) 3 [.ref (b 0), .ref (b 8), .ref (b 9), .int sd], ydW Γ (b 8) am u1, eI Γ (b 7) 7 (chE (eGrW r x v (nI 0) (nI 99)) rf (nof rf (eGrW r x v (nI 0) (nI 99))))]) 4 rfl (fun _ _ => by rw [chE_0 he]) rfl ?_
      exact hR u1 dX6_deep_46 (trivial) (e_ri (ex_0 he (rfl))) (weq.rf)
    · refine r_aload_n K dX6_deep_29 1 rfl ?_
      refine r_iload_n K dX6_deep_30 0 rfl ?_
      refine r_cVd K dX6_deep_31 (c_X6_refuse l Γ h b rm hi rf (wrS v (nI 0) (nI 99)) (okR_wr c26)) mX6_refuse q149 rfl (by decide) rfl rfl 5 rfl [0, 4] [1, 2, 3] rfl rfl [ydW Γ (b 0) an r, eO (b 3) 3 [.ref (b 0), .ref (b 8), .ref (b 9), .int sd], ydW Γ (b 8) am mi] rfl [go h b rm hi, ydW Γ (b 0) an r, eO (b 3) 3 [.ref (b 0), .ref (b 8), .ref (b 9), .int sd], ydW Γ (b 8) am mi, eI Γ (b 7) 7 (nof rf (wrS v (nI 0) (nI 99)))] rfl rfl rfl [] rfl (Nat.le_of_ble_eq_true rfl) ?_
      have he : eGrW r x v (nI 0) (nI 99) = wrS v (nI 0) (nI 99) := by
        unfold eGrW
        rw [if_neg (not_not_intro c8), if_pos c26]
      refine r_arr K (f2 := chE (eGrW r x v (nI 0) (nI 99)) rf (nof rf (eGrW r x v (nI 0) (nI 99)))) (ws1 := [go h b rm hi, ydW Γ (b 0) an r, eO (b 3) 3 [.ref (b 0), .ref (b 8), .ref (b 9), .int sd], ydW Γ (b 8) am mi, eI Γ (b 7) 7 (chE (eGrW r x v (nI 0) (nI 99)) rf (nof rf (eGrW r x v (nI 0) (nI 99))))]) 4 rfl (fun _ _ => by rw [ch_n (g := nof rf) he c26]) rfl ?_
      exact hR mi dX6_deep_34 (trivial) (e_ri (ex_n he c26)) (weq.rf)
  · refine r_aload_n K dX6_deep_11 0 rfl ?_
    refine r_iconst K dX6_deep_12 ((-1)) (by decide) ?_
    refine r_cVd K dX6_deep_13 (c_X6_refuse l Γ h b rm hi rf (-1) (okR_1)) mX6_refuse q149 rfl (by decide) rfl rfl 5 rfl [0, 4] [1, 2, 3] rfl rfl [ydW Γ (b 0) an r, eO (b 3) 3 [.ref (b 0), .ref (b 8), .ref (b 9), .int sd], ydW Γ (b 8) am mi] rfl [go h b rm hi, ydW Γ (b 0) an r, eO (b 3) 3 [.ref (b 0), .ref (b 8), .ref (b 9), .int sd], ydW Γ (b 8) am mi, eI Γ (b 7) 7 (nof rf (-1))] rfl rfl rfl [] rfl (Nat.le_of_ble_eq_true rfl) ?_
    have he : eGrW r x v (nI 0) (nI 99) = (-1) := by
      unfold eGrW
      rw [if_pos (nt c8)]
    refine r_arr K (f2 := chE (eGrW r x v (nI 0) (nI 99)) rf (nof rf (eGrW r x v (nI 0) (nI 99)))) (ws1 := [go h b rm hi, ydW Γ (b 0) an r, eO (b 3) 3 [.ref (b 0), .ref (b 8), .ref (b 9), .int sd], ydW Γ (b 8) am mi, eI Γ (b 7) 7 (chE (eGrW r x v (nI 0) (nI 99)) rf (nof rf (eGrW r x v (nI 0) (nI 99))))]) 4 rfl (fun _ _ => by rw [ch_n (g := nof rf) he (by decide)]) rfl ?_
    exact hR mi dX6_deep_16 (trivial) (e_ri (ex_n he (by decide))) (weq.rf)
set_option maxHeartbeats 1000000 in
set_option maxRecDepth 20000 in
theorem c_X6_first (l : Launch) (Γ : eG) (h : Nat) (b : Nat → Nat) (rm : Nat) (hi : Bool) (an : Nat → Nat) (r : Nat → Int32) (sd : Int32) (am : Nat → Nat) (mi : Nat → Int32) (rf : Nat → Int32) (w : Int32) (hI : Inv r) : cE l Γ yX6_first cX6_first 2 (some .int) 5 [.ref h, .int w] [go h b rm hi, ydW Γ (b 0) an r, eO (b 3) 3 [.ref (b 0), .ref (b 8), .ref (b 9), .int sd], ydW Γ (b 8) am mi, eI Γ (b 7) 7 rf] (S := Nat → Int32) (fun u => True) (fun u => (some (.int (chE (eIs w (nI 0) (nI 4)) (aFirst r w) (eIs w (nI 0) (nI 4)))))) (fun u => [go h b rm hi, ydW Γ (b 0) an r, eO (b 3) 3 [.ref (b 0), .ref (b 8), .ref (b 9), .int sd], ydW Γ (b 8) am u, eI Γ (b 7) 7 (chE (eIs w (nI 0) (nI 4)) rf (nof rf (eIs w (nI 0) (nI 4))))]) := by
  refine e_int [(0, .ref h), (1, .int w)] (by decide +kernel) (Nat.le_of_ble_eq_true rfl) rfl (fun V K hR => ?_)
  have h5 := hI.g
  have h6 := hI.m
  refine r_iload_n K dX6_first_0 1 rfl ?_
  refine r_tsw K dX6_first_1.1 [36, 46, 56, 66, 74] 82 (by decide) (by decide) (by decide) ⟨fun c1 => ?_, fun c1 => ?_, fun c1 => ?_, fun c1 => ?_, fun c1 => ?_, trivial⟩ (fun c1 => ?_)
  · have c1 : w = nI 0 := c1
    have hb : isInB w (nI 0) (nI 4) = true := by rw [c1]; rfl
    refine r_aload_n K dX6_first_36 0 rfl ?_
    refine r_get K dX6_first_37 (kf := 3) 0 rfl rfl hinX6 (by decide) q117 rfl rfl ?_
    refine r_bipush K dX6_first_40 (nI 60) (by decide) ?_
    refine r_cV K dX6_first_42 (c_X5_graveFirstFootDeeper l Γ (b 3) (b 0) (b 8) (b 9) sd an am r mi (hI)) mX5_graveFirstFootDeeper q437 rfl (by decide) rfl rfl 5 rfl [2, 1, 3] [0, 4] rfl rfl [go h b rm hi, eI Γ (b 7) 7 rf] rfl (fun u => [go h b rm hi, ydW Γ (b 0) an r, eO (b 3) 3 [.ref (b 0), .ref (b 8), .ref (b 9), .int sd], ydW Γ (b 8) am u, eI Γ (b 7) 7 rf]) (fun _ => rfl) (fun _ => rfl) (fun _ => rfl) [] rfl (Nat.le_of_ble_eq_true rfl) (fun u1 hu2 => ?_)
    show V 45 _ [.int (ftG r 61 r)] [go h b rm hi, ydW Γ (b 0) an r, eO (b 3) 3 [.ref (b 0), .ref (b 8), .ref (b 9), .int sd], ydW Γ (b 8) am u1, eI Γ (b 7) 7 rf]
    have he : eIs w (nI 0) (nI 4) = 0 := by
      unfold eIs
      rw [if_neg (not_not_intro hb)]
    refine r_arr K (f2 := chE (eIs w (nI 0) (nI 4)) rf (nof rf (eIs w (nI 0) (nI 4)))) (ws1 := [go h b rm hi, ydW Γ (b 0) an r, eO (b 3) 3 [.ref (b 0), .ref (b 8), .ref (b 9), .int sd], ydW Γ (b 8) am u1, eI Γ (b 7) 7 (chE (eIs w (nI 0) (nI 4)) rf (nof rf (eIs w (nI 0) (nI 4))))]) 4 rfl (fun _ _ => by rw [chE_0 he]) rfl ?_
    exact hR u1 dX6_first_45 (trivial) (e_ri (ex_0 he (by rw [c1]; exact aFirst_0 r))) (weq.rf)
  · have c1 : w = nI 1 := c1
    have hb : isInB w (nI 0) (nI 4) = true := by rw [c1]; rfl
    refine r_aload_n K dX6_first_46 0 rfl ?_
    refine r_get K dX6_first_47 (kf := 3) 0 rfl rfl hinX6 (by decide) q117 rfl rfl ?_
    refine r_bipush K dX6_first_50 (nI 60) (by decide) ?_
    refine r_cV K dX6_first_52 (c_X5_daysTillFootDeeper l Γ (b 3) (b 0) (b 8) (b 9) sd an am r mi (hI)) mX5_daysTillFootDeeper q453 rfl (by decide) rfl rfl 5 rfl [2, 1, 3] [0, 4] rfl rfl [go h b rm hi, eI Γ (b 7) 7 rf] rfl (fun u => [go h b rm hi, ydW Γ (b 0) an r, eO (b 3) 3 [.ref (b 0), .ref (b 8), .ref (b 9), .int sd], ydW Γ (b 8) am u, eI Γ (b 7) 7 rf]) (fun _ => rfl) (fun _ => rfl) (fun _ => rfl) [] rfl (Nat.le_of_ble_eq_true rfl) (fun u3 hu4 => ?_)
    show V 55 _ [.int (ftL r 61 r 0)] [go h b rm hi, ydW Γ (b 0) an r, eO (b 3) 3 [.ref (b 0), .ref (b 8), .ref (b 9), .int sd], ydW Γ (b 8) am u3, eI Γ (b 7) 7 rf]
    have he : eIs w (nI 0) (nI 4) = 0 := by
      unfold eIs
      rw [if_neg (not_not_intro hb)]
    refine r_arr K (f2 := chE (eIs w (nI 0) (nI 4)) rf (nof rf (eIs w (nI 0) (nI 4)))) (ws1 := [go h b rm hi, ydW Γ (b 0) an r, eO (b 3) 3 [.ref (b 0), .ref (b 8), .ref (b 9), .int sd], ydW Γ (b 8) am u3, eI Γ (b 7) 7 (chE (eIs w (nI 0) (nI 4)) rf (nof rf (eIs w (nI 0) (nI 4))))]) 4 rfl (fun _ _ => by rw [chE_0 he]) rfl ?_
    exact hR u3 dX6_first_55 (trivial) (e_ri (ex_0 he (by rw [c1]; exact aFirst_1 r))) (weq.rf)
  · have c1 : w = nI 2 := c1
    have hb : isInB w (nI 0) (nI 4) = true := by rw [c1]; rfl
    refine r_aload_n K dX6_first_56 0 rfl ?_
    refine r_get K dX6_first_57 (kf := 3) 0 rfl rfl hinX6 (by decide) q117 rfl rfl ?_
    refine r_bipush K dX6_first_60 (nI 60) (by decide) ?_
    refine r_cV K dX6_first_62 (c_X5_daysTillDry l Γ (b 3) (b 0) (b 8) (b 9) sd an am r mi (hI)) mX5_daysTillDry q454 rfl (by decide) rfl rfl 5 rfl [2, 1, 3] [0, 4] rfl rfl [go h b rm hi, eI Γ (b 7) 7 rf] rfl (fun u => [go h b rm hi, ydW Γ (b 0) an r, eO (b 3) 3 [.ref (b 0), .ref (b 8), .ref (b 9), .int sd], ydW Γ (b 8) am u, eI Γ (b 7) 7 rf]) (fun _ => rfl) (fun _ => rfl) (fun _ => rfl) [] rfl (Nat.le_of_ble_eq_true rfl) (fun u5 hu6 => ?_)
    show V 65 _ [.int (dyL 61 r 0)] [go h b rm hi, ydW Γ (b 0) an r, eO (b 3) 3 [.ref (b 0), .ref (b 8), .ref (b 9), .int sd], ydW Γ (b 8) am u5, eI Γ (b 7) 7 rf]
    have he : eIs w (nI 0) (nI 4) = 0 := by
      unfold eIs
      rw [if_neg (not_not_intro hb)]
    refine r_arr K (f2 := chE (eIs w (nI 0) (nI 4)) rf (nof rf (eIs w (nI 0) (nI 4)))) (ws1 := [go h b rm hi, ydW Γ (b 0) an r, eO (b 3) 3 [.ref (b 0), .ref (b 8), .ref (b 9), .int sd], ydW Γ (b 8) am u5, eI Γ (b 7) 7 (chE (eIs w (nI 0) (nI 4)) rf (nof rf (eIs w (nI 0) (nI 4))))]) 4 rfl (fun _ _ => by rw [chE_0 he]) rfl ?_
    exact hR u5 dX6_first_65 (trivial) (e_ri (ex_0 he (by rw [c1]; exact aFirst_2 r))) (weq.rf)
  · have c1 : w = nI 3 := c1
    have hb : isInB w (nI 0) (nI 4) = true := by rw [c1]; rfl
    refine r_aload_n K dX6_first_66 0 rfl ?_
    refine r_get K dX6_first_67 (kf := 0) 0 rfl rfl hinX6 (by decide) q114 rfl rfl ?_
    refine r_cVd K dX6_first_70 (c_X0_driest l Γ (b 0) an r (hI)) mX0_driest q463 rfl (by decide) rfl rfl 5 rfl [1] [0, 2, 3, 4] rfl rfl [go h b rm hi, eO (b 3) 3 [.ref (b 0), .ref (b 8), .ref (b 9), .int sd], ydW Γ (b 8) am mi, eI Γ (b 7) 7 rf] rfl [go h b rm hi, ydW Γ (b 0) an r, eO (b 3) 3 [.ref (b 0), .ref (b 8), .ref (b 9), .int sd], ydW Γ (b 8) am mi, eI Γ (b 7) 7 rf] rfl rfl rfl [] rfl (Nat.le_of_ble_eq_true rfl) ?_
    have he : eIs w (nI 0) (nI 4) = 0 := by
      unfold eIs
      rw [if_neg (not_not_intro hb)]
    refine r_arr K (f2 := chE (eIs w (nI 0) (nI 4)) rf (nof rf (eIs w (nI 0) (nI 4)))) (ws1 := [go h b rm hi, ydW Γ (b 0) an r, eO (b 3) 3 [.ref (b 0), .ref (b 8), .ref (b 9), .int sd], ydW Γ (b 8) am mi, eI Γ (b 7) 7 (chE (eIs w (nI 0) (nI 4)) rf (nof rf (eIs w (nI 0) (nI 4))))]) 4 rfl (fun _ _ => by rw [chE_0 he]) rfl ?_
    exact hR mi dX6_first_73 (trivial) (e_ri (ex_0 he (by rw [c1]; exact aFirst_3 r))) (weq.rf)
  · have c1 : w = nI 4 := c1
    have hb : isInB w (nI 0) (nI 4) = true := by rw [c1]; rfl
    refine r_aload_n K dX6_first_74 0 rfl ?_
    refine r_get K dX6_first_75 (kf := 0) 0 rfl rfl hinX6 (by decide) q114 rfl rfl ?_
    refine r_cVd K dX6_first_78 (c_X0_deepest l Γ (b 0) an r (hI)) mX0_deepest q467 rfl (by decide) rfl rfl 5 rfl [1] [0, 2, 3, 4] rfl rfl [go h b rm hi, eO (b 3) 3 [.ref (b 0), .ref (b 8), .ref (b 9), .int sd], ydW Γ (b 8) am mi, eI Γ (b 7) 7 rf] rfl [go h b rm hi, ydW Γ (b 0) an r, eO (b 3) 3 [.ref (b 0), .ref (b 8), .ref (b 9), .int sd], ydW Γ (b 8) am mi, eI Γ (b 7) 7 rf] rfl rfl rfl [] rfl (Nat.le_of_ble_eq_true rfl) ?_
    have he : eIs w (nI 0) (nI 4) = 0 := by
      unfold eIs
      rw [if_neg (not_not_intro hb)]
    refine r_arr K (f2 := chE (eIs w (nI 0) (nI 4)) rf (nof rf (eIs w (nI 0) (nI 4)))) (ws1 := [go h b rm hi, ydW Γ (b 0) an r, eO (b 3) 3 [.ref (b 0), .ref (b 8), .ref (b 9), .int sd], ydW Γ (b 8) am mi, eI Γ (b 7) 7 (chE (eIs w (nI 0) (nI 4)) rf (nof rf (eIs w (nI 0) (nI 4))))]) 4 rfl (fun _ _ => by rw [chE_0 he]) rfl ?_
    exact hR mi dX6_first_81 (trivial) (e_ri (ex_0 he (by rw [c1]; exact aFirst_4 r))) (weq.rf)
  · have c1 : ∀ v : Nat, 0 ≤ v → v ≤ 4 → v < 2 ^ 31 → ¬ w = nI v := tsw_out c1
    have hb : isInB w (nI 0) (nI 4) = false := isInB_out (by decide) (by decide) c1
    refine r_aload_n K dX6_first_82 0 rfl ?_
    refine r_bipush K dX6_first_83 ((-2)) (by decide) ?_
    refine r_cVd K dX6_first_85 (c_X6_refuse l Γ h b rm hi rf (-2) (okR_2)) mX6_refuse q149 rfl (by decide) rfl rfl 5 rfl [0, 4] [1, 2, 3] rfl rfl [ydW Γ (b 0) an r, eO (b 3) 3 [.ref (b 0), .ref (b 8), .ref (b 9), .int sd], ydW Γ (b 8) am mi] rfl [go h b rm hi, ydW Γ (b 0) an r, eO (b 3) 3 [.ref (b 0), .ref (b 8), .ref (b 9), .int sd], ydW Γ (b 8) am mi, eI Γ (b 7) 7 (nof rf (-2))] rfl rfl rfl [] rfl (Nat.le_of_ble_eq_true rfl) ?_
    have he : eIs w (nI 0) (nI 4) = (-2) := by
      unfold eIs
      rw [if_pos (nt hb)]
    refine r_arr K (f2 := chE (eIs w (nI 0) (nI 4)) rf (nof rf (eIs w (nI 0) (nI 4)))) (ws1 := [go h b rm hi, ydW Γ (b 0) an r, eO (b 3) 3 [.ref (b 0), .ref (b 8), .ref (b 9), .int sd], ydW Γ (b 8) am mi, eI Γ (b 7) 7 (chE (eIs w (nI 0) (nI 4)) rf (nof rf (eIs w (nI 0) (nI 4))))]) 4 rfl (fun _ _ => by rw [ch_n (g := nof rf) he (by decide)]) rfl ?_
    exact hR mi dX6_first_88 (trivial) (e_ri (ex_n he (by decide))) (weq.rf)
