/-! THE CLASS: the rest of its calls -/
set_option maxHeartbeats 1000000 in
set_option maxRecDepth 20000 in
theorem c_X6_seat (l : Launch) (Γ : eG) (h : Nat) (b : Nat → Nat) (rm : Nat) (hi : Bool) (an : Nat → Nat) (r : Nat → Int32) (be : Int32) (f0 : Nat → Int32) (f1 : Nat → Int32) (f2 : Nat → Int32) (rf : Nat → Int32) (x : Int32) (sx : Nat) (sc : Nat) (hI : Inv r) (hb : bestS r + nI 15625 - nI 1 = nI sx) (hx31 : sx < 2 ^ 31) (hc : nI (sx / 15625 * 15625) - bestS r = nI sc) (hc1 : sc < 15625) : cE l Γ yX6_seat cX6_seat 2 (some .int) 5 [.ref h, .int x] [go h b rm hi, ydW Γ (b 0) an r, eO (b 5) 2 [.ref (b 11), .ref (b 12), .ref (b 13), .int be], eI Γ (b 11) 64 f0, eI Γ (b 12) 64 f1, eI Γ (b 13) 64 f2, eI Γ (b 7) 7 rf] (S := (Int32) × (Nat → Int32) × (Nat → Int32) × (Nat → Int32)) (fun u => True) (fun u => (some (.int (chE (eSeat r x) (aSeat r x sx sc) (eSeat r x))))) (fun u => [go h b rm hi, ydW Γ (b 0) an r, eO (b 5) 2 [.ref (b 11), .ref (b 12), .ref (b 13), .int u.1], eI Γ (b 11) 64 u.2.1, eI Γ (b 12) 64 u.2.2.1, eI Γ (b 13) 64 u.2.2.2, eI Γ (b 7) 7 (chE (eSeat r x) rf (nof rf (eSeat r x)))]) := by
  refine e_int [(0, .ref h), (1, .int x)] (by decide +kernel) (Nat.le_of_ble_eq_true rfl) rfl (fun V K hR => ?_)
  have h5 := hI.g
  have h6 := hI.m
  refine r_iload_n K dX6_seat_0 1 rfl ?_
  refine r_iconst K dX6_seat_1 ((-1)) (by decide) ?_
  refine r_ic_eq K dX6_seat_2 (fun c2 => ?_) (fun c2 => ?_)
  · refine r_aload_n K dX6_seat_22 0 rfl ?_
    refine r_get K dX6_seat_23 (kf := 0) 0 rfl rfl hinX6 (by decide) q114 rfl rfl ?_
    refine r_cVd K dX6_seat_26 (c_X0_graveCount l Γ (b 0) an r (hI)) mX0_graveCount q475 rfl (by decide) rfl rfl 7 rfl [1] [0, 2, 3, 4, 5, 6] rfl rfl [go h b rm hi, eO (b 5) 2 [.ref (b 11), .ref (b 12), .ref (b 13), .int be], eI Γ (b 11) 64 f0, eI Γ (b 12) 64 f1, eI Γ (b 13) 64 f2, eI Γ (b 7) 7 rf] rfl [go h b rm hi, ydW Γ (b 0) an r, eO (b 5) 2 [.ref (b 11), .ref (b 12), .ref (b 13), .int be], eI Γ (b 11) 64 f0, eI Γ (b 12) 64 f1, eI Γ (b 13) 64 f2, eI Γ (b 7) 7 rf] rfl rfl rfl [] rfl (Nat.le_of_ble_eq_true rfl) ?_
    refine r_if_neN K dX6_seat_29 (by omega) (fun c29 => ?_) (fun c29 => ?_)
    · refine r_aload_n K dX6_seat_44 0 rfl ?_
      refine r_get K dX6_seat_45 (kf := 5) 0 rfl rfl hinX6 (by decide) q119 rfl rfl ?_
      refine r_aload_n K dX6_seat_48 0 rfl ?_
      refine r_get K dX6_seat_49 (kf := 0) 0 rfl rfl hinX6 (by decide) q114 rfl rfl ?_
      refine r_cV K dX6_seat_52 (c_X4_weigh l Γ (b 5) (b 11) (b 12) (b 13) be f0 f1 f2 (b 0) an r (hI)) mX4_weigh q476 rfl (by decide) rfl rfl 7 rfl [2, 3, 4, 5, 1] [0, 6] rfl rfl [go h b rm hi, eI Γ (b 7) 7 rf] rfl (fun u => [go h b rm hi, ydW Γ (b 0) an r, eO (b 5) 2 [.ref (b 11), .ref (b 12), .ref (b 13), .int (bestS r)], eI Γ (b 11) 64 u.1, eI Γ (b 12) 64 u.2.1, eI Γ (b 13) 64 u.2.2, eI Γ (b 7) 7 rf]) (fun _ => rfl) (fun _ => rfl) (fun _ => rfl) [] rfl (Nat.le_of_ble_eq_true rfl) (fun u1 hu2 => ?_)
      show V 55 _ [] [go h b rm hi, ydW Γ (b 0) an r, eO (b 5) 2 [.ref (b 11), .ref (b 12), .ref (b 13), .int (bestS r)], eI Γ (b 11) 64 u1.1, eI Γ (b 12) 64 u1.2.1, eI Γ (b 13) 64 u1.2.2, eI Γ (b 7) 7 rf]
      refine r_iload_n K dX6_seat_55 1 rfl ?_
      refine r_iconst K dX6_seat_56 ((-1)) (by decide) ?_
      refine r_ic_ne K dX6_seat_57 (fun c57 => ?_) (fun c57 => ?_)
      · exact absurd c2 c57
      · refine r_aload_n K dX6_seat_60 0 rfl ?_
        refine r_get K dX6_seat_61 (kf := 5) 0 rfl rfl hinX6 (by decide) q119 rfl rfl ?_
        refine r_cVd K dX6_seat_64 (c_X4_inches l Γ (b 5) (b 11) (b 12) (b 13) (bestS r) u1.1 u1.2.1 u1.2.2 sx (hb) (hx31)) mX4_inches q501 rfl (by decide) rfl rfl 7 rfl [2, 3, 4, 5] [0, 1, 6] rfl rfl [go h b rm hi, ydW Γ (b 0) an r, eI Γ (b 7) 7 rf] rfl [go h b rm hi, ydW Γ (b 0) an r, eO (b 5) 2 [.ref (b 11), .ref (b 12), .ref (b 13), .int (bestS r)], eI Γ (b 11) 64 u1.1, eI Γ (b 12) 64 u1.2.1, eI Γ (b 13) 64 u1.2.2, eI Γ (b 7) 7 rf] rfl rfl rfl [] rfl (Nat.le_of_ble_eq_true rfl) ?_
        refine r_goto K dX6_seat_67 ?_
        have he : eSeat r x = 0 := by
          unfold eSeat
          rw [if_neg (fun z => z.1 c2)]
        refine r_arr K (f2 := chE (eSeat r x) rf (nof rf (eSeat r x))) (ws1 := [go h b rm hi, ydW Γ (b 0) an r, eO (b 5) 2 [.ref (b 11), .ref (b 12), .ref (b 13), .int (bestS r)], eI Γ (b 11) 64 u1.1, eI Γ (b 12) 64 u1.2.1, eI Γ (b 13) 64 u1.2.2, eI Γ (b 7) 7 (chE (eSeat r x) rf (nof rf (eSeat r x)))]) 6 rfl (fun _ _ => by rw [chE_0 he]) rfl ?_
        exact hR (bestS r, u1.1, u1.2.1, u1.2.2) dX6_seat_78 (trivial) (e_ri (ex_0 he (by unfold aSeat; rw [if_neg c29, if_pos c2]))) (weq.rf)
    · refine r_iload_n K dX6_seat_32 1 rfl ?_
      refine r_iconst K dX6_seat_33 ((-1)) (by decide) ?_
      refine r_ic_ne K dX6_seat_34 (fun c34 => ?_) (fun c34 => ?_)
      · exact absurd c2 c34
      · refine r_iconst K dX6_seat_37 (nI 0) (by decide) ?_
        refine r_goto K dX6_seat_38 ?_
        have he : eSeat r x = 0 := by
          unfold eSeat
          rw [if_neg (fun z => z.1 c2)]
        refine r_arr K (f2 := chE (eSeat r x) rf (nof rf (eSeat r x))) (ws1 := [go h b rm hi, ydW Γ (b 0) an r, eO (b 5) 2 [.ref (b 11), .ref (b 12), .ref (b 13), .int be], eI Γ (b 11) 64 f0, eI Γ (b 12) 64 f1, eI Γ (b 13) 64 f2, eI Γ (b 7) 7 (chE (eSeat r x) rf (nof rf (eSeat r x)))]) 6 rfl (fun _ _ => by rw [chE_0 he]) rfl ?_
        exact hR (be, f0, f1, f2) dX6_seat_43 (trivial) (e_ri (ex_0 he (by unfold aSeat; rw [if_pos c29, if_pos c2]))) (weq.rf)
  · refine r_aload_n K dX6_seat_5 0 rfl ?_
    refine r_get K dX6_seat_6 (kf := 0) 0 rfl rfl hinX6 (by decide) q114 rfl rfl ?_
    refine r_iload_n K dX6_seat_9 1 rfl ?_
    refine r_cVd K dX6_seat_10 (c_X0_hasMourner l Γ (b 0) an r x (hI)) mX0_hasMourner q347 rfl (by decide) rfl rfl 7 rfl [1] [0, 2, 3, 4, 5, 6] rfl rfl [go h b rm hi, eO (b 5) 2 [.ref (b 11), .ref (b 12), .ref (b 13), .int be], eI Γ (b 11) 64 f0, eI Γ (b 12) 64 f1, eI Γ (b 13) 64 f2, eI Γ (b 7) 7 rf] rfl [go h b rm hi, ydW Γ (b 0) an r, eO (b 5) 2 [.ref (b 11), .ref (b 12), .ref (b 13), .int be], eI Γ (b 11) 64 f0, eI Γ (b 12) 64 f1, eI Γ (b 13) 64 f2, eI Γ (b 7) 7 rf] rfl rfl rfl [] rfl (Nat.le_of_ble_eq_true rfl) ?_
    refine r_ifneB K dX6_seat_13 (fun c13 => ?_) (fun c13 => ?_)
    · have hx := inN_e c13 (by omega)
      have lx := ix_lt c13 (by omega)
      refine r_lc (lv1 := [(0, .ref h), (1, .int (nI (ix x)))]) (congrArg (fun zz : Int32 => ([(0, .ref h), (1, .int zz)] : List (Nat × Value))) (hx)) ?_
      refine r_aload_n K dX6_seat_22 0 rfl ?_
      refine r_get K dX6_seat_23 (kf := 0) 0 rfl rfl hinX6 (by decide) q114 rfl rfl ?_
      refine r_cVd K dX6_seat_26 (c_X0_graveCount l Γ (b 0) an r (hI)) mX0_graveCount q475 rfl (by decide) rfl rfl 7 rfl [1] [0, 2, 3, 4, 5, 6] rfl rfl [go h b rm hi, eO (b 5) 2 [.ref (b 11), .ref (b 12), .ref (b 13), .int be], eI Γ (b 11) 64 f0, eI Γ (b 12) 64 f1, eI Γ (b 13) 64 f2, eI Γ (b 7) 7 rf] rfl [go h b rm hi, ydW Γ (b 0) an r, eO (b 5) 2 [.ref (b 11), .ref (b 12), .ref (b 13), .int be], eI Γ (b 11) 64 f0, eI Γ (b 12) 64 f1, eI Γ (b 13) 64 f2, eI Γ (b 7) 7 rf] rfl rfl rfl [] rfl (Nat.le_of_ble_eq_true rfl) ?_
      refine r_if_neN K dX6_seat_29 (by omega) (fun c29 => ?_) (fun c29 => ?_)
      · refine r_aload_n K dX6_seat_44 0 rfl ?_
        refine r_get K dX6_seat_45 (kf := 5) 0 rfl rfl hinX6 (by decide) q119 rfl rfl ?_
        refine r_aload_n K dX6_seat_48 0 rfl ?_
        refine r_get K dX6_seat_49 (kf := 0) 0 rfl rfl hinX6 (by decide) q114 rfl rfl ?_
        refine r_cV K dX6_seat_52 (c_X4_weigh l Γ (b 5) (b 11) (b 12) (b 13) be f0 f1 f2 (b 0) an r (hI)) mX4_weigh q476 rfl (by decide) rfl rfl 7 rfl [2, 3, 4, 5, 1] [0, 6] rfl rfl [go h b rm hi, eI Γ (b 7) 7 rf] rfl (fun u => [go h b rm hi, ydW Γ (b 0) an r, eO (b 5) 2 [.ref (b 11), .ref (b 12), .ref (b 13), .int (bestS r)], eI Γ (b 11) 64 u.1, eI Γ (b 12) 64 u.2.1, eI Γ (b 13) 64 u.2.2, eI Γ (b 7) 7 rf]) (fun _ => rfl) (fun _ => rfl) (fun _ => rfl) [] rfl (Nat.le_of_ble_eq_true rfl) (fun u3 hu4 => ?_)
        show V 55 _ [] [go h b rm hi, ydW Γ (b 0) an r, eO (b 5) 2 [.ref (b 11), .ref (b 12), .ref (b 13), .int (bestS r)], eI Γ (b 11) 64 u3.1, eI Γ (b 12) 64 u3.2.1, eI Γ (b 13) 64 u3.2.2, eI Γ (b 7) 7 rf]
        refine r_iload_n K dX6_seat_55 1 rfl ?_
        refine r_iconst K dX6_seat_56 ((-1)) (by decide) ?_
        refine r_ic_ne K dX6_seat_57 (fun c57 => ?_) (fun c57 => ?_)
        · refine r_aload_n K dX6_seat_70 0 rfl ?_
          refine r_get K dX6_seat_71 (kf := 5) 0 rfl rfl hinX6 (by decide) q119 rfl rfl ?_
          refine r_iload_n K dX6_seat_74 1 rfl ?_
          refine r_cVd K dX6_seat_75 (c_X4_graveOf l Γ (b 5) (b 11) (b 12) (b 13) (bestS r) u3.1 u3.2.1 u3.2.2 sx sc (ix x) (hb) (hx31) (hc) (hc1) (by first | assumption | omega)) mX4_graveOf q508 rfl (by decide) rfl rfl 7 rfl [2, 3, 4, 5] [0, 1, 6] rfl rfl [go h b rm hi, ydW Γ (b 0) an r, eI Γ (b 7) 7 rf] rfl [go h b rm hi, ydW Γ (b 0) an r, eO (b 5) 2 [.ref (b 11), .ref (b 12), .ref (b 13), .int (bestS r)], eI Γ (b 11) 64 u3.1, eI Γ (b 12) 64 u3.2.1, eI Γ (b 13) 64 u3.2.2, eI Γ (b 7) 7 rf] rfl rfl rfl [] rfl (Nat.le_of_ble_eq_true rfl) ?_
          have he : eSeat r x = 0 := by
            unfold eSeat
            rw [if_neg (fun z => z.2 c13)]
          refine r_arr K (f2 := chE (eSeat r x) rf (nof rf (eSeat r x))) (ws1 := [go h b rm hi, ydW Γ (b 0) an r, eO (b 5) 2 [.ref (b 11), .ref (b 12), .ref (b 13), .int (bestS r)], eI Γ (b 11) 64 u3.1, eI Γ (b 12) 64 u3.2.1, eI Γ (b 13) 64 u3.2.2, eI Γ (b 7) 7 (chE (eSeat r x) rf (nof rf (eSeat r x)))]) 6 rfl (fun _ _ => by rw [chE_0 he]) rfl ?_
          exact hR (bestS r, u3.1, u3.2.1, u3.2.2) dX6_seat_78 (trivial) (e_ri (ex_0 he (by unfold aSeat; rw [if_neg c29, if_neg c2]))) (weq.rf)
        · exact absurd (hx.trans c57) c2
      · refine r_iload_n K dX6_seat_32 1 rfl ?_
        refine r_iconst K dX6_seat_33 ((-1)) (by decide) ?_
        refine r_ic_ne K dX6_seat_34 (fun c34 => ?_) (fun c34 => ?_)
        · refine r_bipush K dX6_seat_41 ((-9)) (by decide) ?_
          have he : eSeat r x = 0 := by
            unfold eSeat
            rw [if_neg (fun z => z.2 c13)]
          refine r_arr K (f2 := chE (eSeat r x) rf (nof rf (eSeat r x))) (ws1 := [go h b rm hi, ydW Γ (b 0) an r, eO (b 5) 2 [.ref (b 11), .ref (b 12), .ref (b 13), .int be], eI Γ (b 11) 64 f0, eI Γ (b 12) 64 f1, eI Γ (b 13) 64 f2, eI Γ (b 7) 7 (chE (eSeat r x) rf (nof rf (eSeat r x)))]) 6 rfl (fun _ _ => by rw [chE_0 he]) rfl ?_
          exact hR (be, f0, f1, f2) dX6_seat_43 (trivial) (e_ri (ex_0 he (by unfold aSeat; rw [if_pos c29, if_neg c2]))) (weq.rf)
        · exact absurd (hx.trans c34) c2
    · refine r_aload_n K dX6_seat_16 0 rfl ?_
      refine r_iconst K dX6_seat_17 ((-1)) (by decide) ?_
      refine r_cVd K dX6_seat_18 (c_X6_refuse l Γ h b rm hi rf (-1) (okR_1)) mX6_refuse q149 rfl (by decide) rfl rfl 7 rfl [0, 6] [1, 2, 3, 4, 5] rfl rfl [ydW Γ (b 0) an r, eO (b 5) 2 [.ref (b 11), .ref (b 12), .ref (b 13), .int be], eI Γ (b 11) 64 f0, eI Γ (b 12) 64 f1, eI Γ (b 13) 64 f2] rfl [go h b rm hi, ydW Γ (b 0) an r, eO (b 5) 2 [.ref (b 11), .ref (b 12), .ref (b 13), .int be], eI Γ (b 11) 64 f0, eI Γ (b 12) 64 f1, eI Γ (b 13) 64 f2, eI Γ (b 7) 7 (nof rf (-1))] rfl rfl rfl [] rfl (Nat.le_of_ble_eq_true rfl) ?_
      have he : eSeat r x = (-1) := by
        unfold eSeat
        rw [if_pos ⟨c2, nt c13⟩]
      refine r_arr K (f2 := chE (eSeat r x) rf (nof rf (eSeat r x))) (ws1 := [go h b rm hi, ydW Γ (b 0) an r, eO (b 5) 2 [.ref (b 11), .ref (b 12), .ref (b 13), .int be], eI Γ (b 11) 64 f0, eI Γ (b 12) 64 f1, eI Γ (b 13) 64 f2, eI Γ (b 7) 7 (chE (eSeat r x) rf (nof rf (eSeat r x)))]) 6 rfl (fun _ _ => by rw [ch_n (g := nof rf) he (by decide)]) rfl ?_
      exact hR (be, f0, f1, f2) dX6_seat_21 (trivial) (e_ri (ex_n he (by decide))) (weq.rf)
set_option maxHeartbeats 1000000 in
set_option maxRecDepth 20000 in
theorem c_X6_fewest (l : Launch) (Γ : eG) (h : Nat) (b : Nat → Nat) (rm : Nat) (hi : Bool) (an : Nat → Nat) (r : Nat → Int32) (sd : Int32) (am : Nat → Nat) (mi : Nat → Int32) (rf : Nat → Int32) (x : Int32) (v : Int32) (n : Int32) (hI : Inv r) : cE l Γ yX6_fewest cX6_fewest 4 (some .int) 6 [.ref h, .int x, .int v, .int n] [go h b rm hi, ydW Γ (b 0) an r, eO (b 3) 3 [.ref (b 0), .ref (b 8), .ref (b 9), .int sd], ydW Γ (b 8) am mi, eI Γ (b 7) 7 rf] (S := Nat → Int32) (fun u => True) (fun u => (some (.int (chE (eFewest r x v n) (fwF r (ix x) (ix n) v (2 ^ nM r)) (eFewest r x v n))))) (fun u => [go h b rm hi, ydW Γ (b 0) an r, eO (b 3) 3 [.ref (b 0), .ref (b 8), .ref (b 9), .int sd], ydW Γ (b 8) am u, eI Γ (b 7) 7 (chE (eFewest r x v n) rf (nof rf (eFewest r x v n)))]) := by
  refine e_int [(0, .ref h), (1, .int x), (2, .int v), (3, .int n)] (by decide +kernel) (Nat.le_of_ble_eq_true rfl) rfl (fun V K hR => ?_)
  have h5 := hI.g
  have h6 := hI.m
  refine r_aload_n K dX6_fewest_0 0 rfl ?_
  refine r_get K dX6_fewest_1 (kf := 0) 0 rfl rfl hinX6 (by decide) q114 rfl rfl ?_
  refine r_iload_n K dX6_fewest_4 1 rfl ?_
  refine r_cVd K dX6_fewest_5 (c_X0_hasGrave l Γ (b 0) an r x (hI)) mX0_hasGrave q297 rfl (by decide) rfl rfl 5 rfl [1] [0, 2, 3, 4] rfl rfl [go h b rm hi, eO (b 3) 3 [.ref (b 0), .ref (b 8), .ref (b 9), .int sd], ydW Γ (b 8) am mi, eI Γ (b 7) 7 rf] rfl [go h b rm hi, ydW Γ (b 0) an r, eO (b 3) 3 [.ref (b 0), .ref (b 8), .ref (b 9), .int sd], ydW Γ (b 8) am mi, eI Γ (b 7) 7 rf] rfl rfl rfl [] rfl (Nat.le_of_ble_eq_true rfl) ?_
  refine r_ifneB K dX6_fewest_8 (fun c8 => ?_) (fun c8 => ?_)
  · have hx := inN_e c8 (by omega)
    have lx := ix_lt c8 (by omega)
    refine r_lc (lv1 := [(0, .ref h), (1, .int (nI (ix x))), (2, .int v), (3, .int n)]) (congrArg (fun zz : Int32 => ([(0, .ref h), (1, .int zz), (2, .int v), (3, .int n)] : List (Nat × Value))) (hx)) ?_
    refine r_iload_n K dX6_fewest_17 2 rfl ?_
    refine r_if_lt K dX6_fewest_18 (fun c18 => ?_) (fun c18 => ?_)
    · refine r_aload_n K dX6_fewest_25 0 rfl ?_
      refine r_bipush K dX6_fewest_26 ((-4)) (by decide) ?_
      refine r_cVd K dX6_fewest_28 (c_X6_refuse l Γ h b rm hi rf (-4) (okR_4)) mX6_refuse q149 rfl (by decide) rfl rfl 5 rfl [0, 4] [1, 2, 3] rfl rfl [ydW Γ (b 0) an r, eO (b 3) 3 [.ref (b 0), .ref (b 8), .ref (b 9), .int sd], ydW Γ (b 8) am mi] rfl [go h b rm hi, ydW Γ (b 0) an r, eO (b 3) 3 [.ref (b 0), .ref (b 8), .ref (b 9), .int sd], ydW Γ (b 8) am mi, eI Γ (b 7) 7 (nof rf (-4))] rfl rfl rfl [] rfl (Nat.le_of_ble_eq_true rfl) ?_
      have he : eFewest r x v n = (-4) := by
        unfold eFewest
        rw [if_neg (not_not_intro c8), if_pos (Or.inl c18)]
      refine r_arr K (f2 := chE (eFewest r x v n) rf (nof rf (eFewest r x v n))) (ws1 := [go h b rm hi, ydW Γ (b 0) an r, eO (b 3) 3 [.ref (b 0), .ref (b 8), .ref (b 9), .int sd], ydW Γ (b 8) am mi, eI Γ (b 7) 7 (chE (eFewest r x v n) rf (nof rf (eFewest r x v n)))]) 4 rfl (fun _ _ => by rw [ch_n (g := nof rf) he (by decide)]) rfl ?_
      exact hR mi dX6_fewest_31 (trivial) (e_ri (ex_n he (by decide))) (weq.rf)
    · refine r_iload_n K dX6_fewest_21 3 rfl ?_
      refine r_if_ge K dX6_fewest_22 (fun c22 => ?_) (fun c22 => ?_)
      · refine r_iload_n K dX6_fewest_32 2 rfl ?_
        refine r_bipush K dX6_fewest_33 (nI 99) (by decide) ?_
        refine r_ic_gt K dX6_fewest_35 (fun c35 => ?_) (fun c35 => ?_)
        · refine r_aload_n K dX6_fewest_44 0 rfl ?_
          refine r_bipush K dX6_fewest_45 ((-6)) (by decide) ?_
          refine r_cVd K dX6_fewest_47 (c_X6_refuse l Γ h b rm hi rf (-6) (okR_6)) mX6_refuse q149 rfl (by decide) rfl rfl 5 rfl [0, 4] [1, 2, 3] rfl rfl [ydW Γ (b 0) an r, eO (b 3) 3 [.ref (b 0), .ref (b 8), .ref (b 9), .int sd], ydW Γ (b 8) am mi] rfl [go h b rm hi, ydW Γ (b 0) an r, eO (b 3) 3 [.ref (b 0), .ref (b 8), .ref (b 9), .int sd], ydW Γ (b 8) am mi, eI Γ (b 7) 7 (nof rf (-6))] rfl rfl rfl [] rfl (Nat.le_of_ble_eq_true rfl) ?_
          have he : eFewest r x v n = (-6) := by
            unfold eFewest
            rw [if_neg (not_not_intro c8), if_neg (fun z => z.elim c18 (fun z => absurd z (Int32.not_lt.mpr c22))), if_pos (Or.inl c35)]
          refine r_arr K (f2 := chE (eFewest r x v n) rf (nof rf (eFewest r x v n))) (ws1 := [go h b rm hi, ydW Γ (b 0) an r, eO (b 3) 3 [.ref (b 0), .ref (b 8), .ref (b 9), .int sd], ydW Γ (b 8) am mi, eI Γ (b 7) 7 (chE (eFewest r x v n) rf (nof rf (eFewest r x v n)))]) 4 rfl (fun _ _ => by rw [ch_n (g := nof rf) he (by decide)]) rfl ?_
          exact hR mi dX6_fewest_50 (trivial) (e_ri (ex_n he (by decide))) (weq.rf)
        · refine r_iload_n K dX6_fewest_38 3 rfl ?_
          refine r_bipush K dX6_fewest_39 (nI 30) (by decide) ?_
          refine r_ic_le K dX6_fewest_41 (fun c41 => ?_) (fun c41 => ?_)
          · have hn := nlt0 (hi := 30) (by decide) (Int32.not_lt.mpr c22) (Int32.not_lt.mpr c41)
            have ln := hn.2
            refine r_lc (lv1 := [(0, .ref h), (1, .int (nI (ix x))), (2, .int v), (3, .int (nI (ix n)))]) (congrArg (fun zz : Int32 => ([(0, .ref h), (1, .int (nI (ix x))), (2, .int v), (3, .int zz)] : List (Nat × Value))) (hn.1)) ?_
            refine r_aload_n K dX6_fewest_51 0 rfl ?_
            refine r_get K dX6_fewest_52 (kf := 3) 0 rfl rfl hinX6 (by decide) q117 rfl rfl ?_
            refine r_iload_n K dX6_fewest_55 1 rfl ?_
            refine r_iload_n K dX6_fewest_56 2 rfl ?_
            refine r_iload_n K dX6_fewest_57 3 rfl ?_
            refine r_cV K dX6_fewest_58 (c_X5_fewestFor l Γ (b 3) (b 0) (b 8) (b 9) sd an am r mi (ix x) v (ix n) (hI) (by first | omega | (simp only [daysS_nM, daysS_nG, dayS_nM, dayS_nG, tellS_nM, tellS_nG, aloneTo_nM, aloneTo_nG, nM_M, nG_M, nM_G, nG_G, lv_nM, lv_nG, gnT_nM, gnT_nG] <;> omega)) (by first | assumption | omega)) mX5_fewestFor q517 rfl (by decide) rfl rfl 5 rfl [2, 1, 3] [0, 4] rfl rfl [go h b rm hi, eI Γ (b 7) 7 rf] rfl (fun u => [go h b rm hi, ydW Γ (b 0) an r, eO (b 3) 3 [.ref (b 0), .ref (b 8), .ref (b 9), .int sd], ydW Γ (b 8) am u, eI Γ (b 7) 7 rf]) (fun _ => rfl) (fun _ => rfl) (fun _ => rfl) [] rfl (Nat.le_of_ble_eq_true rfl) (fun u1 hu2 => ?_)
            show V 61 _ [.int (fwF r (ix x) (ix n) v (2 ^ nM r))] [go h b rm hi, ydW Γ (b 0) an r, eO (b 3) 3 [.ref (b 0), .ref (b 8), .ref (b 9), .int sd], ydW Γ (b 8) am u1, eI Γ (b 7) 7 rf]
            have he : eFewest r x v n = 0 := by
              unfold eFewest
              rw [if_neg (not_not_intro c8), if_neg (fun z => z.elim c18 (fun z => absurd z (Int32.not_lt.mpr c22))), if_neg (fun z => z.elim c35 (fun z => absurd z (Int32.not_lt.mpr c41)))]
            refine r_arr K (f2 := chE (eFewest r x v n) rf (nof rf (eFewest r x v n))) (ws1 := [go h b rm hi, ydW Γ (b 0) an r, eO (b 3) 3 [.ref (b 0), .ref (b 8), .ref (b 9), .int sd], ydW Γ (b 8) am u1, eI Γ (b 7) 7 (chE (eFewest r x v n) rf (nof rf (eFewest r x v n)))]) 4 rfl (fun _ _ => by rw [chE_0 he]) rfl ?_
            exact hR u1 dX6_fewest_61 (trivial) (e_ri (ex_0 he (rfl))) (weq.rf)
          · refine r_aload_n K dX6_fewest_44 0 rfl ?_
            refine r_bipush K dX6_fewest_45 ((-6)) (by decide) ?_
            refine r_cVd K dX6_fewest_47 (c_X6_refuse l Γ h b rm hi rf (-6) (okR_6)) mX6_refuse q149 rfl (by decide) rfl rfl 5 rfl [0, 4] [1, 2, 3] rfl rfl [ydW Γ (b 0) an r, eO (b 3) 3 [.ref (b 0), .ref (b 8), .ref (b 9), .int sd], ydW Γ (b 8) am mi] rfl [go h b rm hi, ydW Γ (b 0) an r, eO (b 3) 3 [.ref (b 0), .ref (b 8), .ref (b 9), .int sd], ydW Γ (b 8) am mi, eI Γ (b 7) 7 (nof rf (-6))] rfl rfl rfl [] rfl (Nat.le_of_ble_eq_true rfl) ?_
            have he : eFewest r x v n = (-6) := by
              unfold eFewest
              rw [if_neg (not_not_intro c8), if_neg (fun z => z.elim c18 (fun z => absurd z (Int32.not_lt.mpr c22))), if_pos (Or.inr (Int32.not_le.mp c41))]
            refine r_arr K (f2 := chE (eFewest r x v n) rf (nof rf (eFewest r x v n))) (ws1 := [go h b rm hi, ydW Γ (b 0) an r, eO (b 3) 3 [.ref (b 0), .ref (b 8), .ref (b 9), .int sd], ydW Γ (b 8) am mi, eI Γ (b 7) 7 (chE (eFewest r x v n) rf (nof rf (eFewest r x v n)))]) 4 rfl (fun _ _ => by rw [ch_n (g := nof rf) he (by decide)]) rfl ?_
            exact hR mi dX6_fewest_50 (trivial) (e_ri (ex_n he (by decide))) (weq.rf)
      · refine r_aload_n K dX6_fewest_25 0 rfl ?_
        refine r_bipush K dX6_fewest_26 ((-4)) (by decide) ?_
        refine r_cVd K dX6_fewest_28 (c_X6_refuse l Γ h b rm hi rf (-4) (okR_4)) mX6_refuse q149 rfl (by decide) rfl rfl 5 rfl [0, 4] [1, 2, 3] rfl rfl [ydW Γ (b 0) an r, eO (b 3) 3 [.ref (b 0), .ref (b 8), .ref (b 9), .int sd], ydW Γ (b 8) am mi] rfl [go h b rm hi, ydW Γ (b 0) an r, eO (b 3) 3 [.ref (b 0), .ref (b 8), .ref (b 9), .int sd], ydW Γ (b 8) am mi, eI Γ (b 7) 7 (nof rf (-4))] rfl rfl rfl [] rfl (Nat.le_of_ble_eq_true rfl) ?_
        have he : eFewest r x v n = (-4) := by
          unfold eFewest
          rw [if_neg (not_not_intro c8), if_pos (Or.inr (Int32.not_le.mp c22))]
        refine r_arr K (f2 := chE (eFewest r x v n) rf (nof rf (eFewest r x v n))) (ws1 := [go h b rm hi, ydW Γ (b 0) an r, eO (b 3) 3 [.ref (b 0), .ref (b 8), .ref (b 9), .int sd], ydW Γ (b 8) am mi, eI Γ (b 7) 7 (chE (eFewest r x v n) rf (nof rf (eFewest r x v n)))]) 4 rfl (fun _ _ => by rw [ch_n (g := nof rf) he (by decide)]) rfl ?_
        exact hR mi dX6_fewest_31 (trivial) (e_ri (ex_n he (by decide))) (weq.rf)
  · refine r_aload_n K dX6_fewest_11 0 rfl ?_
    refine r_iconst K dX6_fewest_12 ((-1)) (by decide) ?_
    refine r_cVd K dX6_fewest_13 (c_X6_refuse l Γ h b rm hi rf (-1) (okR_1)) mX6_refuse q149 rfl (by decide) rfl rfl 5 rfl [0, 4] [1, 2, 3] rfl rfl [ydW Γ (b 0) an r, eO (b 3) 3 [.ref (b 0), .ref (b 8), .ref (b 9), .int sd], ydW Γ (b 8) am mi] rfl [go h b rm hi, ydW Γ (b 0) an r, eO (b 3) 3 [.ref (b 0), .ref (b 8), .ref (b 9), .int sd], ydW Γ (b 8) am mi, eI Γ (b 7) 7 (nof rf (-1))] rfl rfl rfl [] rfl (Nat.le_of_ble_eq_true rfl) ?_
    have he : eFewest r x v n = (-1) := by
      unfold eFewest
      rw [if_pos (nt c8)]
    refine r_arr K (f2 := chE (eFewest r x v n) rf (nof rf (eFewest r x v n))) (ws1 := [go h b rm hi, ydW Γ (b 0) an r, eO (b 3) 3 [.ref (b 0), .ref (b 8), .ref (b 9), .int sd], ydW Γ (b 8) am mi, eI Γ (b 7) 7 (chE (eFewest r x v n) rf (nof rf (eFewest r x v n)))]) 4 rfl (fun _ _ => by rw [ch_n (g := nof rf) he (by decide)]) rfl ?_
    exact hR mi dX6_fewest_16 (trivial) (e_ri (ex_n he (by decide))) (weq.rf)
set_option maxHeartbeats 1000000 in
set_option maxRecDepth 20000 in
theorem c_X6_tell (l : Launch) (Γ : eG) (h : Nat) (b : Nat → Nat) (rm : Nat) (hi : Bool) (an : Nat → Nat) (r : Nat → Int32) (sd : Int32) (am : Nat → Nat) (mi : Nat → Int32) (rf : Nat → Int32) (n : Int32) (hI : Inv r) : cE l Γ yX6_tell cX6_tell 3 (some .int) 6 [.ref h, .int n] [go h b rm hi, ydW Γ (b 0) an r, eO (b 3) 3 [.ref (b 0), .ref (b 8), .ref (b 9), .int sd], ydW Γ (b 8) am mi, eI Γ (b 7) 7 rf] (S := Nat → Int32) (fun u => True) (fun u => (some (.int (chE (eW n (nI 1) (nI 30)) ((amF (tellV r (ix n)) (incS (daysS r (ix n))) (nM r)).2) (eW n (nI 1) (nI 30)))))) (fun u => [go h b rm hi, ydW Γ (b 0) an r, eO (b 3) 3 [.ref (b 0), .ref (b 8), .ref (b 9), .int sd], ydW Γ (b 8) am u, eI Γ (b 7) 7 (chE (eW n (nI 1) (nI 30)) rf (nof rf (eW n (nI 1) (nI 30))))]) := by
  refine e_int [(0, .ref h), (1, .int n)] (by decide +kernel) (Nat.le_of_ble_eq_true rfl) rfl (fun V K hR => ?_)
  have h5 := hI.g
  have h6 := hI.m
  refine r_iload_n K dX6_tell_0 1 rfl ?_
  refine r_iconst K dX6_tell_1 (nI 1) (by decide) ?_
  refine r_bipush K dX6_tell_2 (nI 30) (by decide) ?_
  refine r_cSd K dX6_tell_4 (c_X6_faultOfRange l Γ n (nI 1) (nI 30)) mX6_faultOfRange q374 rfl (by decide) 5 rfl [] [0, 1, 2, 3, 4] rfl rfl [go h b rm hi, ydW Γ (b 0) an r, eO (b 3) 3 [.ref (b 0), .ref (b 8), .ref (b 9), .int sd], ydW Γ (b 8) am mi, eI Γ (b 7) 7 rf] rfl [go h b rm hi, ydW Γ (b 0) an r, eO (b 3) 3 [.ref (b 0), .ref (b 8), .ref (b 9), .int sd], ydW Γ (b 8) am mi, eI Γ (b 7) 7 rf] rfl rfl rfl [] rfl (Nat.le_of_ble_eq_true rfl) ?_
  refine r_istore_n K dX6_tell_7 rfl (by decide) (lv1 := [(2, .int (wrS n (nI 1) (nI 30))), (0, .ref h), (1, .int n)]) rfl ?_
  refine r_iload_n K dX6_tell_8 0 rfl ?_
  refine r_if_eq K dX6_tell_9 (fun c9 => ?_) (fun c9 => ?_)
  · have hn := wrS_ok (by decide) (by decide) c9
    have ln := hn.2
    refine r_lc (lv1 := [(2, .int (wrS n (nI 1) (nI 30))), (0, .ref h), (1, .int (nI (ix n)))]) (congrArg (fun zz : Int32 => ([(2, .int (wrS n (nI 1) (nI 30))), (0, .ref h), (1, .int zz)] : List (Nat × Value))) (hn.1)) ?_
    refine r_aload_n K dX6_tell_18 1 rfl ?_
    refine r_get K dX6_tell_19 (kf := 3) 0 rfl rfl hinX6 (by decide) q117 rfl rfl ?_
    refine r_iload_n K dX6_tell_22 2 rfl ?_
    refine r_cV K dX6_tell_23 (c_X5_whomToTell l Γ (b 3) (b 0) (b 8) (b 9) sd an am r mi (ix n) (hI) (by first | assumption | omega)) mX5_whomToTell q537 rfl (by decide) rfl rfl 5 rfl [2, 1, 3] [0, 4] rfl rfl [go h b rm hi, eI Γ (b 7) 7 rf] rfl (fun u => [go h b rm hi, ydW Γ (b 0) an r, eO (b 3) 3 [.ref (b 0), .ref (b 8), .ref (b 9), .int sd], ydW Γ (b 8) am u, eI Γ (b 7) 7 rf]) (fun _ => rfl) (fun _ => rfl) (fun _ => rfl) [] rfl (Nat.le_of_ble_eq_true rfl) (fun u1 hu2 => ?_)
    show V 26 _ [.int ((amF (tellV r (ix n)) (incS (daysS r (ix n))) (nM r)).2)] [go h b rm hi, ydW Γ (b 0) an r, eO (b 3) 3 [.ref (b 0), .ref (b 8), .ref (b 9), .int sd], ydW Γ (b 8) am u1, eI Γ (b 7) 7 rf]
    have he : eW n (nI 1) (nI 30) = 0 := by
      unfold eW
      rw [if_neg (not_not_intro c9)]
    refine r_arr K (f2 := chE (eW n (nI 1) (nI 30)) rf (nof rf (eW n (nI 1) (nI 30)))) (ws1 := [go h b rm hi, ydW Γ (b 0) an r, eO (b 3) 3 [.ref (b 0), .ref (b 8), .ref (b 9), .int sd], ydW Γ (b 8) am u1, eI Γ (b 7) 7 (chE (eW n (nI 1) (nI 30)) rf (nof rf (eW n (nI 1) (nI 30))))]) 4 rfl (fun _ _ => by rw [chE_0 he]) rfl ?_
    exact hR u1 dX6_tell_26 (trivial) (e_ri (ex_0 he (rfl))) (weq.rf)
  · refine r_aload_n K dX6_tell_12 1 rfl ?_
    refine r_iload_n K dX6_tell_13 0 rfl ?_
    refine r_cVd K dX6_tell_14 (c_X6_refuse l Γ h b rm hi rf (wrS n (nI 1) (nI 30)) (okR_wr c9)) mX6_refuse q149 rfl (by decide) rfl rfl 5 rfl [0, 4] [1, 2, 3] rfl rfl [ydW Γ (b 0) an r, eO (b 3) 3 [.ref (b 0), .ref (b 8), .ref (b 9), .int sd], ydW Γ (b 8) am mi] rfl [go h b rm hi, ydW Γ (b 0) an r, eO (b 3) 3 [.ref (b 0), .ref (b 8), .ref (b 9), .int sd], ydW Γ (b 8) am mi, eI Γ (b 7) 7 (nof rf (wrS n (nI 1) (nI 30)))] rfl rfl rfl [] rfl (Nat.le_of_ble_eq_true rfl) ?_
    have he : eW n (nI 1) (nI 30) = wrS n (nI 1) (nI 30) := by
      unfold eW
      rw [if_pos c9]
    refine r_arr K (f2 := chE (eW n (nI 1) (nI 30)) rf (nof rf (eW n (nI 1) (nI 30)))) (ws1 := [go h b rm hi, ydW Γ (b 0) an r, eO (b 3) 3 [.ref (b 0), .ref (b 8), .ref (b 9), .int sd], ydW Γ (b 8) am mi, eI Γ (b 7) 7 (chE (eW n (nI 1) (nI 30)) rf (nof rf (eW n (nI 1) (nI 30))))]) 4 rfl (fun _ _ => by rw [ch_n (g := nof rf) he c9]) rfl ?_
    exact hR mi dX6_tell_17 (trivial) (e_ri (ex_n he c9)) (weq.rf)
set_option maxHeartbeats 1000000 in
set_option maxRecDepth 20000 in
theorem c_X6_send (l : Launch) (Γ : eG) (h : Nat) (b : Nat → Nat) (rm : Nat) (hi : Bool) (an : Nat → Nat) (r : Nat → Int32) (sd : Int32) (am : Nat → Nat) (mi : Nat → Int32) (rf : Nat → Int32) (n : Int32) (w : Int32) (hI : Inv r) : cE l Γ yX6_send cX6_send 5 (some .int) 7 [.ref h, .int n, .int w] [go h b rm hi, ydW Γ (b 0) an r, eO (b 3) 3 [.ref (b 0), .ref (b 8), .ref (b 9), .int sd], ydW Γ (b 8) am mi, eI Γ (b 7) 7 rf] (S := Nat → Int32) (fun u => True) (fun u => (some (.int (chE (eWIs n (nI 1) (nI 30) w (nI 0) (nI 1)) (aSend r (ix n) w) (eWIs n (nI 1) (nI 30) w (nI 0) (nI 1)))))) (fun u => [go h b rm hi, ydW Γ (b 0) an r, eO (b 3) 3 [.ref (b 0), .ref (b 8), .ref (b 9), .int sd], ydW Γ (b 8) am u, eI Γ (b 7) 7 (chE (eWIs n (nI 1) (nI 30) w (nI 0) (nI 1)) rf (nof rf (eWIs n (nI 1) (nI 30) w (nI 0) (nI 1))))]) := by
  refine e_int [(0, .ref h), (1, .int n), (2, .int w)] (by decide +kernel) (Nat.le_of_ble_eq_true rfl) rfl (fun V K hR => ?_)
  have h5 := hI.g
  have h6 := hI.m
  refine r_iload_n K dX6_send_0 1 rfl ?_
  refine r_iconst K dX6_send_1 (nI 1) (by decide) ?_
  refine r_bipush K dX6_send_2 (nI 30) (by decide) ?_
  refine r_cSd K dX6_send_4 (c_X6_faultOfRange l Γ n (nI 1) (nI 30)) mX6_faultOfRange q374 rfl (by decide) 5 rfl [] [0, 1, 2, 3, 4] rfl rfl [go h b rm hi, ydW Γ (b 0) an r, eO (b 3) 3 [.ref (b 0), .ref (b 8), .ref (b 9), .int sd], ydW Γ (b 8) am mi, eI Γ (b 7) 7 rf] rfl [go h b rm hi, ydW Γ (b 0) an r, eO (b 3) 3 [.ref (b 0), .ref (b 8), .ref (b 9), .int sd], ydW Γ (b 8) am mi, eI Γ (b 7) 7 rf] rfl rfl rfl [] rfl (Nat.le_of_ble_eq_true rfl) ?_
  refine r_istore_n K dX6_send_7 rfl (by decide) (lv1 := [(3, .int (wrS n (nI 1) (nI 30))), (0, .ref h), (1, .int n), (2, .int w)]) rfl ?_
  refine r_iload_n K dX6_send_8 0 rfl ?_
  refine r_if_eq K dX6_send_9 (fun c9 => ?_) (fun c9 => ?_)
  · have hn := wrS_ok (by decide) (by decide) c9
    have ln := hn.2
    refine r_lc (lv1 := [(3, .int (wrS n (nI 1) (nI 30))), (0, .ref h), (1, .int (nI (ix n))), (2, .int w)]) (congrArg (fun zz : Int32 => ([(3, .int (wrS n (nI 1) (nI 30))), (0, .ref h), (1, .int zz), (2, .int w)] : List (Nat × Value))) (hn.1)) ?_
    refine r_iload_n K dX6_send_18 3 rfl ?_
    refine r_if_lt K dX6_send_19 (fun c19 => ?_) (fun c19 => ?_)
    · have hb : isInB w (nI 0) (nI 1) = false := isInB_f1 c19
      refine r_aload_n K dX6_send_27 1 rfl ?_
      refine r_bipush K dX6_send_28 ((-2)) (by decide) ?_
      refine r_cVd K dX6_send_30 (c_X6_refuse l Γ h b rm hi rf (-2) (okR_2)) mX6_refuse q149 rfl (by decide) rfl rfl 5 rfl [0, 4] [1, 2, 3] rfl rfl [ydW Γ (b 0) an r, eO (b 3) 3 [.ref (b 0), .ref (b 8), .ref (b 9), .int sd], ydW Γ (b 8) am mi] rfl [go h b rm hi, ydW Γ (b 0) an r, eO (b 3) 3 [.ref (b 0), .ref (b 8), .ref (b 9), .int sd], ydW Γ (b 8) am mi, eI Γ (b 7) 7 (nof rf (-2))] rfl rfl rfl [] rfl (Nat.le_of_ble_eq_true rfl) ?_
      have he : eWIs n (nI 1) (nI 30) w (nI 0) (nI 1) = (-2) := by
        unfold eWIs
        rw [if_neg (not_not_intro c9), if_pos (nt hb)]
      refine r_arr K (f2 := chE (eWIs n (nI 1) (nI 30) w (nI 0) (nI 1)) rf (nof rf (eWIs n (nI 1) (nI 30) w (nI 0) (nI 1)))) (ws1 := [go h b rm hi, ydW Γ (b 0) an r, eO (b 3) 3 [.ref (b 0), .ref (b 8), .ref (b 9), .int sd], ydW Γ (b 8) am mi, eI Γ (b 7) 7 (chE (eWIs n (nI 1) (nI 30) w (nI 0) (nI 1)) rf (nof rf (eWIs n (nI 1) (nI 30) w (nI 0) (nI 1))))]) 4 rfl (fun _ _ => by rw [ch_n (g := nof rf) he (by decide)]) rfl ?_
      exact hR mi dX6_send_33 (trivial) (e_ri (ex_n he (by decide))) (weq.rf)
    · refine r_iload_n K dX6_send_22 3 rfl ?_
      refine r_iconst K dX6_send_23 (nI 1) (by decide) ?_
      refine r_ic_le K dX6_send_24 (fun c24 => ?_) (fun c24 => ?_)
      · have hb : isInB w (nI 0) (nI 1) = true := isInB_t c19 (Int32.not_lt.mpr c24)
        have hw := isInB_ok (lo := 0) (hi := 1) (by decide) (by decide) hb
        have lw := hw.2
        refine r_lc (lv1 := [(3, .int (wrS n (nI 1) (nI 30))), (0, .ref h), (1, .int (nI (ix n))), (2, .int (nI (ix w)))]) (congrArg (fun zz : Int32 => ([(3, .int (wrS n (nI 1) (nI 30))), (0, .ref h), (1, .int (nI (ix n))), (2, .int zz)] : List (Nat × Value))) (hw.1)) ?_
        refine r_aload_n K dX6_send_34 1 rfl ?_
        refine r_get K dX6_send_35 (kf := 3) 0 rfl rfl hinX6 (by decide) q117 rfl rfl ?_
        refine r_iload_n K dX6_send_38 2 rfl ?_
        refine r_cV K dX6_send_39 (c_X5_whomToSend l Γ (b 3) (b 0) (b 8) (b 9) sd an am r mi (ix n) (hI) (by first | assumption | omega)) mX5_whomToSend q551 rfl (by decide) rfl rfl 5 rfl [2, 1, 3] [0, 4] rfl rfl [go h b rm hi, eI Γ (b 7) 7 rf] rfl (fun u => [go h b rm hi, ydW Γ (b 0) an r, eO (b 3) 3 [.ref (b 0), .ref (b 8), .ref (b 9), .int sd], ydW Γ (b 8) am u, eI Γ (b 7) 7 rf]) (fun _ => rfl) (fun _ => rfl) (fun _ => rfl) [] rfl (Nat.le_of_ble_eq_true rfl) (fun u1 hu2 => ?_)
        show V 42 _ [.int ((sdF r (ix n) (nM r)).1)] [go h b rm hi, ydW Γ (b 0) an r, eO (b 3) 3 [.ref (b 0), .ref (b 8), .ref (b 9), .int sd], ydW Γ (b 8) am u1, eI Γ (b 7) 7 rf]
        refine r_istore K dX6_send_42 (by decide) (lv1 := [(4, .int ((sdF r (ix n) (nM r)).1)), (3, .int (wrS n (nI 1) (nI 30))), (0, .ref h), (1, .int (nI (ix n))), (2, .int (nI (ix w)))]) rfl ?_
        refine r_iload K dX6_send_44 0 rfl ?_
        refine r_bipush K dX6_send_46 ((-9)) (by decide) ?_
        refine r_ic_eq K dX6_send_48 (fun c48 => ?_) (fun c48 => ?_)
        · refine r_iload K dX6_send_55 0 rfl ?_
          have he : eWIs n (nI 1) (nI 30) w (nI 0) (nI 1) = 0 := by
            unfold eWIs
            rw [if_neg (not_not_intro c9), if_neg (not_not_intro hb)]
          refine r_arr K (f2 := chE (eWIs n (nI 1) (nI 30) w (nI 0) (nI 1)) rf (nof rf (eWIs n (nI 1) (nI 30) w (nI 0) (nI 1)))) (ws1 := [go h b rm hi, ydW Γ (b 0) an r, eO (b 3) 3 [.ref (b 0), .ref (b 8), .ref (b 9), .int sd], ydW Γ (b 8) am u1, eI Γ (b 7) 7 (chE (eWIs n (nI 1) (nI 30) w (nI 0) (nI 1)) rf (nof rf (eWIs n (nI 1) (nI 30) w (nI 0) (nI 1))))]) 4 rfl (fun _ _ => by rw [chE_0 he]) rfl ?_
          exact hR u1 dX6_send_57 (trivial) (e_ri (ex_0 he (by unfold aSend; rw [if_pos (Or.inl c48)]))) (weq.rf)
        · refine r_iload_n K dX6_send_51 4 rfl ?_
          refine r_if_neN K dX6_send_52 (by omega) (fun c52 => ?_) (fun c52 => ?_)
          · obtain ⟨j, hj, ej, el⟩ := (sdF_cases r (ix n) (nM r)).resolve_left c48
            refine r_lc (lv1 := [(4, .int (nI j)), (3, .int (wrS n (nI 1) (nI 30))), (0, .ref h), (1, .int (nI (ix n))), (2, .int (nI (ix w)))]) (congrArg (fun zz : Int32 => ([(4, .int zz), (3, .int (wrS n (nI 1) (nI 30))), (0, .ref h), (1, .int (nI (ix n))), (2, .int (nI (ix w)))] : List (Nat × Value))) (ej)) ?_
            refine r_aload_n K dX6_send_58 2 rfl ?_
            refine r_get K dX6_send_59 (kf := 3) 0 rfl rfl hinX6 (by decide) q117 rfl rfl ?_
            refine r_iload K dX6_send_62 0 rfl ?_
            refine r_iload_n K dX6_send_64 3 rfl ?_
            refine r_cVd K dX6_send_65 (c_X5_inchesLostWithout l Γ (b 3) (b 0) (b 8) (b 9) sd an am r u1 j (ix n) (hI) (by first | omega | (simp only [daysS_nM, daysS_nG, dayS_nM, dayS_nG, tellS_nM, tellS_nG, aloneTo_nM, aloneTo_nG, nM_M, nG_M, nM_G, nG_G, lv_nM, lv_nG, gnT_nM, gnT_nG] <;> omega)) (by first | assumption | omega)) mX5_inchesLostWithout q560 rfl (by decide) rfl rfl 5 rfl [2, 1, 3] [0, 4] rfl rfl [go h b rm hi, eI Γ (b 7) 7 rf] rfl [go h b rm hi, ydW Γ (b 0) an r, eO (b 3) 3 [.ref (b 0), .ref (b 8), .ref (b 9), .int sd], ydW Γ (b 8) am (daysS (upd r (iM j 3) (-9)) (ix n)), eI Γ (b 7) 7 rf] rfl rfl rfl [] rfl (Nat.le_of_ble_eq_true rfl) ?_
            have he : eWIs n (nI 1) (nI 30) w (nI 0) (nI 1) = 0 := by
              unfold eWIs
              rw [if_neg (not_not_intro c9), if_neg (not_not_intro hb)]
            refine r_arr K (f2 := chE (eWIs n (nI 1) (nI 30) w (nI 0) (nI 1)) rf (nof rf (eWIs n (nI 1) (nI 30) w (nI 0) (nI 1)))) (ws1 := [go h b rm hi, ydW Γ (b 0) an r, eO (b 3) 3 [.ref (b 0), .ref (b 8), .ref (b 9), .int sd], ydW Γ (b 8) am (daysS (upd r (iM j 3) (-9)) (ix n)), eI Γ (b 7) 7 (chE (eWIs n (nI 1) (nI 30) w (nI 0) (nI 1)) rf (nof rf (eWIs n (nI 1) (nI 30) w (nI 0) (nI 1))))]) 4 rfl (fun _ _ => by rw [chE_0 he]) rfl ?_
            exact hR (daysS (upd r (iM j 3) (-9)) (ix n)) dX6_send_68 (trivial) (e_ri (ex_0 he (by unfold aSend; rw [if_neg (fun z => z.elim c48 (fun z => c52 (by rw [z]; exact ix_nI (by decide)))), el]))) (weq.rf)
          · refine r_iload K dX6_send_55 0 rfl ?_
            have he : eWIs n (nI 1) (nI 30) w (nI 0) (nI 1) = 0 := by
              unfold eWIs
              rw [if_neg (not_not_intro c9), if_neg (not_not_intro hb)]
            refine r_arr K (f2 := chE (eWIs n (nI 1) (nI 30) w (nI 0) (nI 1)) rf (nof rf (eWIs n (nI 1) (nI 30) w (nI 0) (nI 1)))) (ws1 := [go h b rm hi, ydW Γ (b 0) an r, eO (b 3) 3 [.ref (b 0), .ref (b 8), .ref (b 9), .int sd], ydW Γ (b 8) am u1, eI Γ (b 7) 7 (chE (eWIs n (nI 1) (nI 30) w (nI 0) (nI 1)) rf (nof rf (eWIs n (nI 1) (nI 30) w (nI 0) (nI 1))))]) 4 rfl (fun _ _ => by rw [chE_0 he]) rfl ?_
            exact hR u1 dX6_send_57 (trivial) (e_ri (ex_0 he (by unfold aSend; rw [if_pos (Or.inr (show w = nI 0 from by rw [hw.1, c52]))]))) (weq.rf)
      · have hb : isInB w (nI 0) (nI 1) = false := isInB_f2 (Int32.not_le.mp c24)
        refine r_aload_n K dX6_send_27 1 rfl ?_
        refine r_bipush K dX6_send_28 ((-2)) (by decide) ?_
        refine r_cVd K dX6_send_30 (c_X6_refuse l Γ h b rm hi rf (-2) (okR_2)) mX6_refuse q149 rfl (by decide) rfl rfl 5 rfl [0, 4] [1, 2, 3] rfl rfl [ydW Γ (b 0) an r, eO (b 3) 3 [.ref (b 0), .ref (b 8), .ref (b 9), .int sd], ydW Γ (b 8) am mi] rfl [go h b rm hi, ydW Γ (b 0) an r, eO (b 3) 3 [.ref (b 0), .ref (b 8), .ref (b 9), .int sd], ydW Γ (b 8) am mi, eI Γ (b 7) 7 (nof rf (-2))] rfl rfl rfl [] rfl (Nat.le_of_ble_eq_true rfl) ?_
        have he : eWIs n (nI 1) (nI 30) w (nI 0) (nI 1) = (-2) := by
          unfold eWIs
          rw [if_neg (not_not_intro c9), if_pos (nt hb)]
        refine r_arr K (f2 := chE (eWIs n (nI 1) (nI 30) w (nI 0) (nI 1)) rf (nof rf (eWIs n (nI 1) (nI 30) w (nI 0) (nI 1)))) (ws1 := [go h b rm hi, ydW Γ (b 0) an r, eO (b 3) 3 [.ref (b 0), .ref (b 8), .ref (b 9), .int sd], ydW Γ (b 8) am mi, eI Γ (b 7) 7 (chE (eWIs n (nI 1) (nI 30) w (nI 0) (nI 1)) rf (nof rf (eWIs n (nI 1) (nI 30) w (nI 0) (nI 1))))]) 4 rfl (fun _ _ => by rw [ch_n (g := nof rf) he (by decide)]) rfl ?_
        exact hR mi dX6_send_33 (trivial) (e_ri (ex_n he (by decide))) (weq.rf)
  · refine r_aload_n K dX6_send_12 1 rfl ?_
    refine r_iload_n K dX6_send_13 0 rfl ?_
    refine r_cVd K dX6_send_14 (c_X6_refuse l Γ h b rm hi rf (wrS n (nI 1) (nI 30)) (okR_wr c9)) mX6_refuse q149 rfl (by decide) rfl rfl 5 rfl [0, 4] [1, 2, 3] rfl rfl [ydW Γ (b 0) an r, eO (b 3) 3 [.ref (b 0), .ref (b 8), .ref (b 9), .int sd], ydW Γ (b 8) am mi] rfl [go h b rm hi, ydW Γ (b 0) an r, eO (b 3) 3 [.ref (b 0), .ref (b 8), .ref (b 9), .int sd], ydW Γ (b 8) am mi, eI Γ (b 7) 7 (nof rf (wrS n (nI 1) (nI 30)))] rfl rfl rfl [] rfl (Nat.le_of_ble_eq_true rfl) ?_
    have he : eWIs n (nI 1) (nI 30) w (nI 0) (nI 1) = wrS n (nI 1) (nI 30) := by
      unfold eWIs
      rw [if_pos c9]
    refine r_arr K (f2 := chE (eWIs n (nI 1) (nI 30) w (nI 0) (nI 1)) rf (nof rf (eWIs n (nI 1) (nI 30) w (nI 0) (nI 1)))) (ws1 := [go h b rm hi, ydW Γ (b 0) an r, eO (b 3) 3 [.ref (b 0), .ref (b 8), .ref (b 9), .int sd], ydW Γ (b 8) am mi, eI Γ (b 7) 7 (chE (eWIs n (nI 1) (nI 30) w (nI 0) (nI 1)) rf (nof rf (eWIs n (nI 1) (nI 30) w (nI 0) (nI 1))))]) 4 rfl (fun _ _ => by rw [ch_n (g := nof rf) he c9]) rfl ?_
    exact hR mi dX6_send_17 (trivial) (e_ri (ex_n he c9)) (weq.rf)
set_option maxHeartbeats 1000000 in
set_option maxRecDepth 20000 in
theorem c_X6_bring (l : Launch) (Γ : eG) (h : Nat) (b : Nat → Nat) (rm : Nat) (hi : Bool) (an : Nat → Nat) (r : Nat → Int32) (sd : Int32) (am : Nat → Nat) (mi : Nat → Int32) (rf : Nat → Int32) (x : Int32) (n : Int32) (hI : Inv r) : cE l Γ yX6_bring cX6_bring 4 (some .int) 6 [.ref h, .int x, .int n] [go h b rm hi, ydW Γ (b 0) an r, eO (b 3) 3 [.ref (b 0), .ref (b 8), .ref (b 9), .int sd], ydW Γ (b 8) am mi, eI Γ (b 7) 7 rf] (S := Nat → Int32) (fun u => True) (fun u => (some (.int (chE (eMoW r x n (nI 0) (nI 30)) ((amF (bringV r (ix x) (ix n)) (payS (daysS r (ix n))) (nG r)).2) (eMoW r x n (nI 0) (nI 30)))))) (fun u => [go h b rm hi, ydW Γ (b 0) an r, eO (b 3) 3 [.ref (b 0), .ref (b 8), .ref (b 9), .int sd], ydW Γ (b 8) am u, eI Γ (b 7) 7 (chE (eMoW r x n (nI 0) (nI 30)) rf (nof rf (eMoW r x n (nI 0) (nI 30))))]) := by
  refine e_int [(0, .ref h), (1, .int x), (2, .int n)] (by decide +kernel) (Nat.le_of_ble_eq_true rfl) rfl (fun V K hR => ?_)
  have h5 := hI.g
  have h6 := hI.m
  refine r_aload_n K dX6_bring_0 0 rfl ?_
  refine r_get K dX6_bring_1 (kf := 0) 0 rfl rfl hinX6 (by decide) q114 rfl rfl ?_
  refine r_iload_n K dX6_bring_4 1 rfl ?_
  refine r_cVd K dX6_bring_5 (c_X0_hasMourner l Γ (b 0) an r x (hI)) mX0_hasMourner q347 rfl (by decide) rfl rfl 5 rfl [1] [0, 2, 3, 4] rfl rfl [go h b rm hi, eO (b 3) 3 [.ref (b 0), .ref (b 8), .ref (b 9), .int sd], ydW Γ (b 8) am mi, eI Γ (b 7) 7 rf] rfl [go h b rm hi, ydW Γ (b 0) an r, eO (b 3) 3 [.ref (b 0), .ref (b 8), .ref (b 9), .int sd], ydW Γ (b 8) am mi, eI Γ (b 7) 7 rf] rfl rfl rfl [] rfl (Nat.le_of_ble_eq_true rfl) ?_
  refine r_ifneB K dX6_bring_8 (fun c8 => ?_) (fun c8 => ?_)
  · have hx := inN_e c8 (by omega)
    have lx := ix_lt c8 (by omega)
    refine r_lc (lv1 := [(0, .ref h), (1, .int (nI (ix x))), (2, .int n)]) (congrArg (fun zz : Int32 => ([(0, .ref h), (1, .int zz), (2, .int n)] : List (Nat × Value))) (hx)) ?_
    refine r_iload_n K dX6_bring_17 2 rfl ?_
    refine r_iconst K dX6_bring_18 (nI 0) (by decide) ?_
    refine r_bipush K dX6_bring_19 (nI 30) (by decide) ?_
    refine r_cSd K dX6_bring_21 (c_X6_faultOfRange l Γ n (nI 0) (nI 30)) mX6_faultOfRange q374 rfl (by decide) 5 rfl [] [0, 1, 2, 3, 4] rfl rfl [go h b rm hi, ydW Γ (b 0) an r, eO (b 3) 3 [.ref (b 0), .ref (b 8), .ref (b 9), .int sd], ydW Γ (b 8) am mi, eI Γ (b 7) 7 rf] rfl [go h b rm hi, ydW Γ (b 0) an r, eO (b 3) 3 [.ref (b 0), .ref (b 8), .ref (b 9), .int sd], ydW Γ (b 8) am mi, eI Γ (b 7) 7 rf] rfl rfl rfl [] rfl (Nat.le_of_ble_eq_true rfl) ?_
    refine r_istore_n K dX6_bring_24 rfl (by decide) (lv1 := [(3, .int (wrS n (nI 0) (nI 30))), (0, .ref h), (1, .int (nI (ix x))), (2, .int n)]) rfl ?_
    refine r_iload_n K dX6_bring_25 0 rfl ?_
    refine r_if_eq K dX6_bring_26 (fun c26 => ?_) (fun c26 => ?_)
    · have hn := wrS_ok (by decide) (by decide) c26
      have ln := hn.2
      refine r_lc (lv1 := [(3, .int (wrS n (nI 0) (nI 30))), (0, .ref h), (1, .int (nI (ix x))), (2, .int (nI (ix n)))]) (congrArg (fun zz : Int32 => ([(3, .int (wrS n (nI 0) (nI 30))), (0, .ref h), (1, .int (nI (ix x))), (2, .int zz)] : List (Nat × Value))) (hn.1)) ?_
      refine r_aload_n K dX6_bring_35 1 rfl ?_
      refine r_get K dX6_bring_36 (kf := 3) 0 rfl rfl hinX6 (by decide) q117 rfl rfl ?_
      refine r_iload_n K dX6_bring_39 2 rfl ?_
      refine r_iload_n K dX6_bring_40 3 rfl ?_
      refine r_cV K dX6_bring_41 (c_X5_whereToBring l Γ (b 3) (b 0) (b 8) (b 9) sd an am r mi (ix x) (ix n) (hI) (by first | omega | (simp only [daysS_nM, daysS_nG, dayS_nM, dayS_nG, tellS_nM, tellS_nG, aloneTo_nM, aloneTo_nG, nM_M, nG_M, nM_G, nG_G, lv_nM, lv_nG, gnT_nM, gnT_nG] <;> omega)) (by first | assumption | omega)) mX5_whereToBring q565 rfl (by decide) rfl rfl 5 rfl [2, 1, 3] [0, 4] rfl rfl [go h b rm hi, eI Γ (b 7) 7 rf] rfl (fun u => [go h b rm hi, ydW Γ (b 0) an r, eO (b 3) 3 [.ref (b 0), .ref (b 8), .ref (b 9), .int sd], ydW Γ (b 8) am u, eI Γ (b 7) 7 rf]) (fun _ => rfl) (fun _ => rfl) (fun _ => rfl) [] rfl (Nat.le_of_ble_eq_true rfl) (fun u1 hu2 => ?_)
      show V 44 _ [.int ((amF (bringV r (ix x) (ix n)) (payS (daysS r (ix n))) (nG r)).2)] [go h b rm hi, ydW Γ (b 0) an r, eO (b 3) 3 [.ref (b 0), .ref (b 8), .ref (b 9), .int sd], ydW Γ (b 8) am u1, eI Γ (b 7) 7 rf]
      have he : eMoW r x n (nI 0) (nI 30) = 0 := by
        unfold eMoW
        rw [if_neg (not_not_intro c8), if_neg (not_not_intro c26)]
      refine r_arr K (f2 := chE (eMoW r x n (nI 0) (nI 30)) rf (nof rf (eMoW r x n (nI 0) (nI 30)))) (ws1 := [go h b rm hi, ydW Γ (b 0) an r, eO (b 3) 3 [.ref (b 0), .ref (b 8), .ref (b 9), .int sd], ydW Γ (b 8) am u1, eI Γ (b 7) 7 (chE (eMoW r x n (nI 0) (nI 30)) rf (nof rf (eMoW r x n (nI 0) (nI 30))))]) 4 rfl (fun _ _ => by rw [chE_0 he]) rfl ?_
      exact hR u1 dX6_bring_44 (trivial) (e_ri (ex_0 he (rfl))) (weq.rf)
    · refine r_aload_n K dX6_bring_29 1 rfl ?_
      refine r_iload_n K dX6_bring_30 0 rfl ?_
      refine r_cVd K dX6_bring_31 (c_X6_refuse l Γ h b rm hi rf (wrS n (nI 0) (nI 30)) (okR_wr c26)) mX6_refuse q149 rfl (by decide) rfl rfl 5 rfl [0, 4] [1, 2, 3] rfl rfl [ydW Γ (b 0) an r, eO (b 3) 3 [.ref (b 0), .ref (b 8), .ref (b 9), .int sd], ydW Γ (b 8) am mi] rfl [go h b rm hi, ydW Γ (b 0) an r, eO (b 3) 3 [.ref (b 0), .ref (b 8), .ref (b 9), .int sd], ydW Γ (b 8) am mi, eI Γ (b 7) 7 (nof rf (wrS n (nI 0) (nI 30)))] rfl rfl rfl [] rfl (Nat.le_of_ble_eq_true rfl) ?_
      have he : eMoW r x n (nI 0) (nI 30) = wrS n (nI 0) (nI 30) := by
        unfold eMoW
        rw [if_neg (not_not_intro c8), if_pos c26]
      refine r_arr K (f2 := chE (eMoW r x n (nI 0) (nI 30)) rf (nof rf (eMoW r x n (nI 0) (nI 30)))) (ws1 := [go h b rm hi, ydW Γ (b 0) an r, eO (b 3) 3 [.ref (b 0), .ref (b 8), .ref (b 9), .int sd], ydW Γ (b 8) am mi, eI Γ (b 7) 7 (chE (eMoW r x n (nI 0) (nI 30)) rf (nof rf (eMoW r x n (nI 0) (nI 30))))]) 4 rfl (fun _ _ => by rw [ch_n (g := nof rf) he c26]) rfl ?_
      exact hR mi dX6_bring_34 (trivial) (e_ri (ex_n he c26)) (weq.rf)
  · refine r_aload_n K dX6_bring_11 0 rfl ?_
    refine r_iconst K dX6_bring_12 ((-1)) (by decide) ?_
    refine r_cVd K dX6_bring_13 (c_X6_refuse l Γ h b rm hi rf (-1) (okR_1)) mX6_refuse q149 rfl (by decide) rfl rfl 5 rfl [0, 4] [1, 2, 3] rfl rfl [ydW Γ (b 0) an r, eO (b 3) 3 [.ref (b 0), .ref (b 8), .ref (b 9), .int sd], ydW Γ (b 8) am mi] rfl [go h b rm hi, ydW Γ (b 0) an r, eO (b 3) 3 [.ref (b 0), .ref (b 8), .ref (b 9), .int sd], ydW Γ (b 8) am mi, eI Γ (b 7) 7 (nof rf (-1))] rfl rfl rfl [] rfl (Nat.le_of_ble_eq_true rfl) ?_
    have he : eMoW r x n (nI 0) (nI 30) = (-1) := by
      unfold eMoW
      rw [if_pos (nt c8)]
    refine r_arr K (f2 := chE (eMoW r x n (nI 0) (nI 30)) rf (nof rf (eMoW r x n (nI 0) (nI 30)))) (ws1 := [go h b rm hi, ydW Γ (b 0) an r, eO (b 3) 3 [.ref (b 0), .ref (b 8), .ref (b 9), .int sd], ydW Γ (b 8) am mi, eI Γ (b 7) 7 (chE (eMoW r x n (nI 0) (nI 30)) rf (nof rf (eMoW r x n (nI 0) (nI 30))))]) 4 rfl (fun _ _ => by rw [ch_n (g := nof rf) he (by decide)]) rfl ?_
    exact hR mi dX6_bring_16 (trivial) (e_ri (ex_n he (by decide))) (weq.rf)
set_option maxHeartbeats 1000000 in
set_option maxRecDepth 20000 in
theorem c_X6_change (l : Launch) (Γ : eG) (h : Nat) (b : Nat → Nat) (rm : Nat) (hi : Bool) (an : Nat → Nat) (r : Nat → Int32) (sd : Int32) (am : Nat → Nat) (mi : Nat → Int32) (rf : Nat → Int32) (n : Int32) (hI : Inv r) : cE l Γ yX6_change cX6_change 3 (some .int) 6 [.ref h, .int n] [go h b rm hi, ydW Γ (b 0) an r, eO (b 3) 3 [.ref (b 0), .ref (b 8), .ref (b 9), .int sd], ydW Γ (b 8) am mi, eI Γ (b 7) 7 rf] (S := Nat → Int32) (fun u => True) (fun u => (some (.int (chE (eW n (nI 0) (nI 30)) ((chO r (ix n) (nM r)).2) (eW n (nI 0) (nI 30)))))) (fun u => [go h b rm hi, ydW Γ (b 0) an r, eO (b 3) 3 [.ref (b 0), .ref (b 8), .ref (b 9), .int sd], ydW Γ (b 8) am u, eI Γ (b 7) 7 (chE (eW n (nI 0) (nI 30)) rf (nof rf (eW n (nI 0) (nI 30))))]) := by
  refine e_int [(0, .ref h), (1, .int n)] (by decide +kernel) (Nat.le_of_ble_eq_true rfl) rfl (fun V K hR => ?_)
  have h5 := hI.g
  have h6 := hI.m
  refine r_iload_n K dX6_change_0 1 rfl ?_
  refine r_iconst K dX6_change_1 (nI 0) (by decide) ?_
  refine r_bipush K dX6_change_2 (nI 30) (by decide) ?_
  refine r_cSd K dX6_change_4 (c_X6_faultOfRange l Γ n (nI 0) (nI 30)) mX6_faultOfRange q374 rfl (by decide) 5 rfl [] [0, 1, 2, 3, 4] rfl rfl [go h b rm hi, ydW Γ (b 0) an r, eO (b 3) 3 [.ref (b 0), .ref (b 8), .ref (b 9), .int sd], ydW Γ (b 8) am mi, eI Γ (b 7) 7 rf] rfl [go h b rm hi, ydW Γ (b 0) an r, eO (b 3) 3 [.ref (b 0), .ref (b 8), .ref (b 9), .int sd], ydW Γ (b 8) am mi, eI Γ (b 7) 7 rf] rfl rfl rfl [] rfl (Nat.le_of_ble_eq_true rfl) ?_
  refine r_istore_n K dX6_change_7 rfl (by decide) (lv1 := [(2, .int (wrS n (nI 0) (nI 30))), (0, .ref h), (1, .int n)]) rfl ?_
  refine r_iload_n K dX6_change_8 0 rfl ?_
  refine r_if_eq K dX6_change_9 (fun c9 => ?_) (fun c9 => ?_)
  · have hn := wrS_ok (by decide) (by decide) c9
    have ln := hn.2
    refine r_lc (lv1 := [(2, .int (wrS n (nI 0) (nI 30))), (0, .ref h), (1, .int (nI (ix n)))]) (congrArg (fun zz : Int32 => ([(2, .int (wrS n (nI 0) (nI 30))), (0, .ref h), (1, .int zz)] : List (Nat × Value))) (hn.1)) ?_
    refine r_aload_n K dX6_change_18 1 rfl ?_
    refine r_get K dX6_change_19 (kf := 3) 0 rfl rfl hinX6 (by decide) q117 rfl rfl ?_
    refine r_iload_n K dX6_change_22 2 rfl ?_
    refine r_cV K dX6_change_23 (c_X5_whichToChange l Γ (b 3) (b 0) (b 8) (b 9) sd an am r mi (ix n) (hI) (by first | assumption | omega)) mX5_whichToChange q574 rfl (by decide) rfl rfl 5 rfl [2, 1, 3] [0, 4] rfl rfl [go h b rm hi, eI Γ (b 7) 7 rf] rfl (fun u => [go h b rm hi, ydW Γ (b 0) an r, eO (b 3) 3 [.ref (b 0), .ref (b 8), .ref (b 9), .int sd], ydW Γ (b 8) am u, eI Γ (b 7) 7 rf]) (fun _ => rfl) (fun _ => rfl) (fun _ => rfl) [] rfl (Nat.le_of_ble_eq_true rfl) (fun u1 hu2 => ?_)
    show V 26 _ [.int ((chO r (ix n) (nM r)).2)] [go h b rm hi, ydW Γ (b 0) an r, eO (b 3) 3 [.ref (b 0), .ref (b 8), .ref (b 9), .int sd], ydW Γ (b 8) am u1, eI Γ (b 7) 7 rf]
    have he : eW n (nI 0) (nI 30) = 0 := by
      unfold eW
      rw [if_neg (not_not_intro c9)]
    refine r_arr K (f2 := chE (eW n (nI 0) (nI 30)) rf (nof rf (eW n (nI 0) (nI 30)))) (ws1 := [go h b rm hi, ydW Γ (b 0) an r, eO (b 3) 3 [.ref (b 0), .ref (b 8), .ref (b 9), .int sd], ydW Γ (b 8) am u1, eI Γ (b 7) 7 (chE (eW n (nI 0) (nI 30)) rf (nof rf (eW n (nI 0) (nI 30))))]) 4 rfl (fun _ _ => by rw [chE_0 he]) rfl ?_
    exact hR u1 dX6_change_26 (trivial) (e_ri (ex_0 he (rfl))) (weq.rf)
  · refine r_aload_n K dX6_change_12 1 rfl ?_
    refine r_iload_n K dX6_change_13 0 rfl ?_
    refine r_cVd K dX6_change_14 (c_X6_refuse l Γ h b rm hi rf (wrS n (nI 0) (nI 30)) (okR_wr c9)) mX6_refuse q149 rfl (by decide) rfl rfl 5 rfl [0, 4] [1, 2, 3] rfl rfl [ydW Γ (b 0) an r, eO (b 3) 3 [.ref (b 0), .ref (b 8), .ref (b 9), .int sd], ydW Γ (b 8) am mi] rfl [go h b rm hi, ydW Γ (b 0) an r, eO (b 3) 3 [.ref (b 0), .ref (b 8), .ref (b 9), .int sd], ydW Γ (b 8) am mi, eI Γ (b 7) 7 (nof rf (wrS n (nI 0) (nI 30)))] rfl rfl rfl [] rfl (Nat.le_of_ble_eq_true rfl) ?_
    have he : eW n (nI 0) (nI 30) = wrS n (nI 0) (nI 30) := by
      unfold eW
      rw [if_pos c9]
    refine r_arr K (f2 := chE (eW n (nI 0) (nI 30)) rf (nof rf (eW n (nI 0) (nI 30)))) (ws1 := [go h b rm hi, ydW Γ (b 0) an r, eO (b 3) 3 [.ref (b 0), .ref (b 8), .ref (b 9), .int sd], ydW Γ (b 8) am mi, eI Γ (b 7) 7 (chE (eW n (nI 0) (nI 30)) rf (nof rf (eW n (nI 0) (nI 30))))]) 4 rfl (fun _ _ => by rw [ch_n (g := nof rf) he c9]) rfl ?_
    exact hR mi dX6_change_17 (trivial) (e_ri (ex_n he c9)) (weq.rf)
set_option maxHeartbeats 1000000 in
set_option maxRecDepth 20000 in
theorem c_X6_onion (l : Launch) (Γ : eG) (h : Nat) (b : Nat → Nat) (rm : Nat) (hi : Bool) (an : Nat → Nat) (r : Nat → Int32) (sd : Int32) (am : Nat → Nat) (mi : Nat → Int32) (rf : Nat → Int32) (x : Int32) (n : Int32) (hI : Inv r) : cE l Γ yX6_onion cX6_onion 4 (some .int) 6 [.ref h, .int x, .int n] [go h b rm hi, ydW Γ (b 0) an r, eO (b 3) 3 [.ref (b 0), .ref (b 8), .ref (b 9), .int sd], ydW Γ (b 8) am mi, eI Γ (b 7) 7 rf] (S := Nat → Int32) (fun u => True) (fun u => (some (.int (chE (eMoW r x n (nI 1) (nI 30)) (onS r (ix x) (ix n)) (1000000000 - (eMoW r x n (nI 1) (nI 30))))))) (fun u => [go h b rm hi, ydW Γ (b 0) an r, eO (b 3) 3 [.ref (b 0), .ref (b 8), .ref (b 9), .int sd], ydW Γ (b 8) am u, eI Γ (b 7) 7 (chE (eMoW r x n (nI 1) (nI 30)) rf (nof rf (eMoW r x n (nI 1) (nI 30))))]) := by
  refine e_int [(0, .ref h), (1, .int x), (2, .int n)] (by decide +kernel) (Nat.le_of_ble_eq_true rfl) rfl (fun V K hR => ?_)
  have h5 := hI.g
  have h6 := hI.m
  refine r_aload_n K dX6_onion_0 0 rfl ?_
  refine r_get K dX6_onion_1 (kf := 0) 0 rfl rfl hinX6 (by decide) q114 rfl rfl ?_
  refine r_iload_n K dX6_onion_4 1 rfl ?_
  refine r_cVd K dX6_onion_5 (c_X0_hasMourner l Γ (b 0) an r x (hI)) mX0_hasMourner q347 rfl (by decide) rfl rfl 5 rfl [1] [0, 2, 3, 4] rfl rfl [go h b rm hi, eO (b 3) 3 [.ref (b 0), .ref (b 8), .ref (b 9), .int sd], ydW Γ (b 8) am mi, eI Γ (b 7) 7 rf] rfl [go h b rm hi, ydW Γ (b 0) an r, eO (b 3) 3 [.ref (b 0), .ref (b 8), .ref (b 9), .int sd], ydW Γ (b 8) am mi, eI Γ (b 7) 7 rf] rfl rfl rfl [] rfl (Nat.le_of_ble_eq_true rfl) ?_
  refine r_ifneB K dX6_onion_8 (fun c8 => ?_) (fun c8 => ?_)
  · have hx := inN_e c8 (by omega)
    have lx := ix_lt c8 (by omega)
    refine r_lc (lv1 := [(0, .ref h), (1, .int (nI (ix x))), (2, .int n)]) (congrArg (fun zz : Int32 => ([(0, .ref h), (1, .int zz), (2, .int n)] : List (Nat × Value))) (hx)) ?_
    refine r_iload_n K dX6_onion_20 2 rfl ?_
    refine r_iconst K dX6_onion_21 (nI 1) (by decide) ?_
    refine r_bipush K dX6_onion_22 (nI 30) (by decide) ?_
    refine r_cSd K dX6_onion_24 (c_X6_faultOfRange l Γ n (nI 1) (nI 30)) mX6_faultOfRange q374 rfl (by decide) 5 rfl [] [0, 1, 2, 3, 4] rfl rfl [go h b rm hi, ydW Γ (b 0) an r, eO (b 3) 3 [.ref (b 0), .ref (b 8), .ref (b 9), .int sd], ydW Γ (b 8) am mi, eI Γ (b 7) 7 rf] rfl [go h b rm hi, ydW Γ (b 0) an r, eO (b 3) 3 [.ref (b 0), .ref (b 8), .ref (b 9), .int sd], ydW Γ (b 8) am mi, eI Γ (b 7) 7 rf] rfl rfl rfl [] rfl (Nat.le_of_ble_eq_true rfl) ?_
    refine r_istore_n K dX6_onion_27 rfl (by decide) (lv1 := [(3, .int (wrS n (nI 1) (nI 30))), (0, .ref h), (1, .int (nI (ix x))), (2, .int n)]) rfl ?_
    refine r_iload_n K dX6_onion_28 0 rfl ?_
    refine r_if_eq K dX6_onion_29 (fun c29 => ?_) (fun c29 => ?_)
    · have hn := wrS_ok (by decide) (by decide) c29
      have ln := hn.2
      refine r_lc (lv1 := [(3, .int (wrS n (nI 1) (nI 30))), (0, .ref h), (1, .int (nI (ix x))), (2, .int (nI (ix n)))]) (congrArg (fun zz : Int32 => ([(3, .int (wrS n (nI 1) (nI 30))), (0, .ref h), (1, .int (nI (ix x))), (2, .int zz)] : List (Nat × Value))) (hn.1)) ?_
      refine r_aload_n K dX6_onion_41 1 rfl ?_
      refine r_get K dX6_onion_42 (kf := 3) 0 rfl rfl hinX6 (by decide) q117 rfl rfl ?_
      refine r_iload_n K dX6_onion_45 2 rfl ?_
      refine r_iload_n K dX6_onion_46 3 rfl ?_
      refine r_cVd K dX6_onion_47 (c_X5_inchesMoreAsOnion l Γ (b 3) (b 0) (b 8) (b 9) sd an am r mi (ix x) (ix n) (hI) (by first | omega | (simp only [daysS_nM, daysS_nG, dayS_nM, dayS_nG, tellS_nM, tellS_nG, aloneTo_nM, aloneTo_nG, nM_M, nG_M, nM_G, nG_G, lv_nM, lv_nG, gnT_nM, gnT_nG] <;> omega)) (by first | assumption | omega)) mX5_inchesMoreAsOnion q583 rfl (by decide) rfl rfl 5 rfl [2, 1, 3] [0, 4] rfl rfl [go h b rm hi, eI Γ (b 7) 7 rf] rfl [go h b rm hi, ydW Γ (b 0) an r, eO (b 3) 3 [.ref (b 0), .ref (b 8), .ref (b 9), .int sd], ydW Γ (b 8) am (daysS (upd r (iM (ix x) 0) (nI 2)) (ix n)), eI Γ (b 7) 7 rf] rfl rfl rfl [] rfl (Nat.le_of_ble_eq_true rfl) ?_
      have he : eMoW r x n (nI 1) (nI 30) = 0 := by
        unfold eMoW
        rw [if_neg (not_not_intro c8), if_neg (not_not_intro c29)]
      refine r_arr K (f2 := chE (eMoW r x n (nI 1) (nI 30)) rf (nof rf (eMoW r x n (nI 1) (nI 30)))) (ws1 := [go h b rm hi, ydW Γ (b 0) an r, eO (b 3) 3 [.ref (b 0), .ref (b 8), .ref (b 9), .int sd], ydW Γ (b 8) am (daysS (upd r (iM (ix x) 0) (nI 2)) (ix n)), eI Γ (b 7) 7 (chE (eMoW r x n (nI 1) (nI 30)) rf (nof rf (eMoW r x n (nI 1) (nI 30))))]) 4 rfl (fun _ _ => by rw [chE_0 he]) rfl ?_
      exact hR (daysS (upd r (iM (ix x) 0) (nI 2)) (ix n)) dX6_onion_50 (trivial) (e_ri (exR_0 he (rfl))) (weq.rf)
    · refine r_ldc K dX6_onion_32 q582 ?_
      refine r_aload_n K dX6_onion_34 1 rfl ?_
      refine r_iload_n K dX6_onion_35 0 rfl ?_
      refine r_cVd K dX6_onion_36 (c_X6_refuse l Γ h b rm hi rf (wrS n (nI 1) (nI 30)) (okR_wr c29)) mX6_refuse q149 rfl (by decide) rfl rfl 5 rfl [0, 4] [1, 2, 3] rfl rfl [ydW Γ (b 0) an r, eO (b 3) 3 [.ref (b 0), .ref (b 8), .ref (b 9), .int sd], ydW Γ (b 8) am mi] rfl [go h b rm hi, ydW Γ (b 0) an r, eO (b 3) 3 [.ref (b 0), .ref (b 8), .ref (b 9), .int sd], ydW Γ (b 8) am mi, eI Γ (b 7) 7 (nof rf (wrS n (nI 1) (nI 30)))] rfl rfl rfl [.int (1000000000)] rfl (Nat.le_of_ble_eq_true rfl) ?_
      refine r_isub K dX6_onion_39 ?_
      have he : eMoW r x n (nI 1) (nI 30) = wrS n (nI 1) (nI 30) := by
        unfold eMoW
        rw [if_neg (not_not_intro c8), if_pos c29]
      refine r_arr K (f2 := chE (eMoW r x n (nI 1) (nI 30)) rf (nof rf (eMoW r x n (nI 1) (nI 30)))) (ws1 := [go h b rm hi, ydW Γ (b 0) an r, eO (b 3) 3 [.ref (b 0), .ref (b 8), .ref (b 9), .int sd], ydW Γ (b 8) am mi, eI Γ (b 7) 7 (chE (eMoW r x n (nI 1) (nI 30)) rf (nof rf (eMoW r x n (nI 1) (nI 30))))]) 4 rfl (fun _ _ => by rw [ch_n (g := nof rf) he c29]) rfl ?_
      exact hR mi dX6_onion_40 (trivial) (e_ri (exR_n he c29)) (weq.rf)
  · refine r_ldc K dX6_onion_11 q582 ?_
    refine r_aload_n K dX6_onion_13 0 rfl ?_
    refine r_iconst K dX6_onion_14 ((-1)) (by decide) ?_
    refine r_cVd K dX6_onion_15 (c_X6_refuse l Γ h b rm hi rf (-1) (okR_1)) mX6_refuse q149 rfl (by decide) rfl rfl 5 rfl [0, 4] [1, 2, 3] rfl rfl [ydW Γ (b 0) an r, eO (b 3) 3 [.ref (b 0), .ref (b 8), .ref (b 9), .int sd], ydW Γ (b 8) am mi] rfl [go h b rm hi, ydW Γ (b 0) an r, eO (b 3) 3 [.ref (b 0), .ref (b 8), .ref (b 9), .int sd], ydW Γ (b 8) am mi, eI Γ (b 7) 7 (nof rf (-1))] rfl rfl rfl [.int (1000000000)] rfl (Nat.le_of_ble_eq_true rfl) ?_
    refine r_isub K dX6_onion_18 ?_
    have he : eMoW r x n (nI 1) (nI 30) = (-1) := by
      unfold eMoW
      rw [if_pos (nt c8)]
    refine r_arr K (f2 := chE (eMoW r x n (nI 1) (nI 30)) rf (nof rf (eMoW r x n (nI 1) (nI 30)))) (ws1 := [go h b rm hi, ydW Γ (b 0) an r, eO (b 3) 3 [.ref (b 0), .ref (b 8), .ref (b 9), .int sd], ydW Γ (b 8) am mi, eI Γ (b 7) 7 (chE (eMoW r x n (nI 1) (nI 30)) rf (nof rf (eMoW r x n (nI 1) (nI 30))))]) 4 rfl (fun _ _ => by rw [ch_n (g := nof rf) he (by decide)]) rfl ?_
    exact hR mi dX6_onion_19 (trivial) (e_ri (exR_n he (by decide))) (weq.rf)
set_option maxHeartbeats 1000000 in
set_option maxRecDepth 20000 in
theorem c_X6_tears (l : Launch) (Γ : eG) (h : Nat) (b : Nat → Nat) (rm : Nat) (hi : Bool) (an : Nat → Nat) (r : Nat → Int32) (hI : Inv r) : cD l Γ yX6_tears cX6_tears 1 (some .int) 4 [.ref h] [go h b rm hi, ydW Γ (b 0) an r] (some (.int (wmF r (nM r)))) [go h b rm hi, ydW Γ (b 0) an r] := by
  refine e_int [(0, .ref h)] (by decide +kernel) (Nat.le_of_ble_eq_true rfl) rfl (fun V K hR => ?_)
  have h5 := hI.g
  have h6 := hI.m
  refine r_aload_n K dX6_tears_0 0 rfl ?_
  refine r_get K dX6_tears_1 (kf := 0) 0 rfl rfl hinX6 (by decide) q114 rfl rfl ?_
  refine r_cVd K dX6_tears_4 (c_X0_weepsMost l Γ (b 0) an r (hI)) mX0_weepsMost q592 rfl (by decide) rfl rfl 2 rfl [1] [0] rfl rfl [go h b rm hi] rfl [go h b rm hi, ydW Γ (b 0) an r] rfl rfl rfl [] rfl (Nat.le_of_ble_eq_true rfl) ?_
  exact hR () dX6_tears_7 (trivial) (e_ri (rfl)) (weq.rf)
set_option maxHeartbeats 1000000 in
set_option maxRecDepth 20000 in
theorem c_X6_alone (l : Launch) (Γ : eG) (h : Nat) (b : Nat → Nat) (rm : Nat) (hi : Bool) (an : Nat → Nat) (r : Nat → Int32) (rf : Nat → Int32) (w : Int32) (hI : Inv r) : cD l Γ yX6_alone cX6_alone 2 (some .int) 3 [.ref h, .int w] [go h b rm hi, ydW Γ (b 0) an r, eI Γ (b 7) 7 rf] (some (.int (chE (eIs w (nI 0) (nI 2)) (aAlone r w) (eIs w (nI 0) (nI 2))))) [go h b rm hi, ydW Γ (b 0) an r, eI Γ (b 7) 7 (chE (eIs w (nI 0) (nI 2)) rf (nof rf (eIs w (nI 0) (nI 2))))] := by
  refine e_int [(0, .ref h), (1, .int w)] (by decide +kernel) (Nat.le_of_ble_eq_true rfl) rfl (fun V K hR => ?_)
  have h5 := hI.g
  have h6 := hI.m
  refine r_iload_n K dX6_alone_0 1 rfl ?_
  refine r_tsw K dX6_alone_1.1 [28, 37, 46] 54 (by decide) (by decide) (by decide) ⟨fun c1 => ?_, fun c1 => ?_, fun c1 => ?_, trivial⟩ (fun c1 => ?_)
  · have c1 : w = nI 0 := c1
    have hb : isInB w (nI 0) (nI 2) = true := by rw [c1]; rfl
    refine r_aload_n K dX6_alone_28 0 rfl ?_
    refine r_get K dX6_alone_29 (kf := 0) 0 rfl rfl hinX6 (by decide) q114 rfl rfl ?_
    refine r_iconst K dX6_alone_32 (nI 1) (by decide) ?_
    refine r_cVd K dX6_alone_33 (c_X0_gravesWithMourners l Γ (b 0) an r (nI 1) (hI)) mX0_gravesWithMourners q600 rfl (by decide) rfl rfl 3 rfl [1] [0, 2] rfl rfl [go h b rm hi, eI Γ (b 7) 7 rf] rfl [go h b rm hi, ydW Γ (b 0) an r, eI Γ (b 7) 7 rf] rfl rfl rfl [] rfl (Nat.le_of_ble_eq_true rfl) ?_
    have he : eIs w (nI 0) (nI 2) = 0 := by
      unfold eIs
      rw [if_neg (not_not_intro hb)]
    refine r_arr K (f2 := chE (eIs w (nI 0) (nI 2)) rf (nof rf (eIs w (nI 0) (nI 2)))) (ws1 := [go h b rm hi, ydW Γ (b 0) an r, eI Γ (b 7) 7 (chE (eIs w (nI 0) (nI 2)) rf (nof rf (eIs w (nI 0) (nI 2))))]) 2 rfl (fun _ _ => by rw [chE_0 he]) rfl ?_
    exact hR () dX6_alone_36 (trivial) (e_ri (ex_0 he (by rw [c1]; rfl))) (weq.rf)
  · have c1 : w = nI 1 := c1
    have hb : isInB w (nI 0) (nI 2) = true := by rw [c1]; rfl
    refine r_aload_n K dX6_alone_37 0 rfl ?_
    refine r_get K dX6_alone_38 (kf := 0) 0 rfl rfl hinX6 (by decide) q114 rfl rfl ?_
    refine r_iconst K dX6_alone_41 (nI 0) (by decide) ?_
    refine r_cVd K dX6_alone_42 (c_X0_gravesWithMourners l Γ (b 0) an r (nI 0) (hI)) mX0_gravesWithMourners q600 rfl (by decide) rfl rfl 3 rfl [1] [0, 2] rfl rfl [go h b rm hi, eI Γ (b 7) 7 rf] rfl [go h b rm hi, ydW Γ (b 0) an r, eI Γ (b 7) 7 rf] rfl rfl rfl [] rfl (Nat.le_of_ble_eq_true rfl) ?_
    have he : eIs w (nI 0) (nI 2) = 0 := by
      unfold eIs
      rw [if_neg (not_not_intro hb)]
    refine r_arr K (f2 := chE (eIs w (nI 0) (nI 2)) rf (nof rf (eIs w (nI 0) (nI 2)))) (ws1 := [go h b rm hi, ydW Γ (b 0) an r, eI Γ (b 7) 7 (chE (eIs w (nI 0) (nI 2)) rf (nof rf (eIs w (nI 0) (nI 2))))]) 2 rfl (fun _ _ => by rw [chE_0 he]) rfl ?_
    exact hR () dX6_alone_45 (trivial) (e_ri (ex_0 he (by rw [c1]; rfl))) (weq.rf)
  · have c1 : w = nI 2 := c1
    have hb : isInB w (nI 0) (nI 2) = true := by rw [c1]; rfl
    refine r_aload_n K dX6_alone_46 0 rfl ?_
    refine r_get K dX6_alone_47 (kf := 0) 0 rfl rfl hinX6 (by decide) q114 rfl rfl ?_
    refine r_cVd K dX6_alone_50 (c_X0_deepOnes l Γ (b 0) an r (hI)) mX0_deepOnes q604 rfl (by decide) rfl rfl 3 rfl [1] [0, 2] rfl rfl [go h b rm hi, eI Γ (b 7) 7 rf] rfl [go h b rm hi, ydW Γ (b 0) an r, eI Γ (b 7) 7 rf] rfl rfl rfl [] rfl (Nat.le_of_ble_eq_true rfl) ?_
    have he : eIs w (nI 0) (nI 2) = 0 := by
      unfold eIs
      rw [if_neg (not_not_intro hb)]
    refine r_arr K (f2 := chE (eIs w (nI 0) (nI 2)) rf (nof rf (eIs w (nI 0) (nI 2)))) (ws1 := [go h b rm hi, ydW Γ (b 0) an r, eI Γ (b 7) 7 (chE (eIs w (nI 0) (nI 2)) rf (nof rf (eIs w (nI 0) (nI 2))))]) 2 rfl (fun _ _ => by rw [chE_0 he]) rfl ?_
    exact hR () dX6_alone_53 (trivial) (e_ri (ex_0 he (by rw [c1]; rfl))) (weq.rf)
  · have c1 : ∀ v : Nat, 0 ≤ v → v ≤ 2 → v < 2 ^ 31 → ¬ w = nI v := tsw_out c1
    have hb : isInB w (nI 0) (nI 2) = false := isInB_out (by decide) (by decide) c1
    refine r_aload_n K dX6_alone_54 0 rfl ?_
    refine r_bipush K dX6_alone_55 ((-2)) (by decide) ?_
    refine r_cVd K dX6_alone_57 (c_X6_refuse l Γ h b rm hi rf (-2) (okR_2)) mX6_refuse q149 rfl (by decide) rfl rfl 3 rfl [0, 2] [1] rfl rfl [ydW Γ (b 0) an r] rfl [go h b rm hi, ydW Γ (b 0) an r, eI Γ (b 7) 7 (nof rf (-2))] rfl rfl rfl [] rfl (Nat.le_of_ble_eq_true rfl) ?_
    have he : eIs w (nI 0) (nI 2) = (-2) := by
      unfold eIs
      rw [if_pos (nt hb)]
    refine r_arr K (f2 := chE (eIs w (nI 0) (nI 2)) rf (nof rf (eIs w (nI 0) (nI 2)))) (ws1 := [go h b rm hi, ydW Γ (b 0) an r, eI Γ (b 7) 7 (chE (eIs w (nI 0) (nI 2)) rf (nof rf (eIs w (nI 0) (nI 2))))]) 2 rfl (fun _ _ => by rw [ch_n (g := nof rf) he (by decide)]) rfl ?_
    exact hR () dX6_alone_60 (trivial) (e_ri (ex_n he (by decide))) (weq.rf)
set_option maxHeartbeats 1000000 in
set_option maxRecDepth 20000 in
theorem c_X6_level (l : Launch) (Γ : eG) (h : Nat) (b : Nat → Nat) (rm : Nat) (hi : Bool) (an : Nat → Nat) (r : Nat → Int32) (hI : Inv r) : cD l Γ yX6_level cX6_level 1 (some .int) 3 [.ref h] [go h b rm hi, ydW Γ (b 0) an r] (some (.int (aLevel r))) [go h b rm hi, ydW Γ (b 0) an r] := by
  refine e_int [(0, .ref h)] (by decide +kernel) (Nat.le_of_ble_eq_true rfl) rfl (fun V K hR => ?_)
  have h5 := hI.g
  have h6 := hI.m
  refine r_aload_n K dX6_level_0 0 rfl ?_
  refine r_get K dX6_level_1 (kf := 0) 0 rfl rfl hinX6 (by decide) q114 rfl rfl ?_
  refine r_cVd K dX6_level_4 (c_X0_graveCount l Γ (b 0) an r (hI)) mX0_graveCount q475 rfl (by decide) rfl rfl 2 rfl [1] [0] rfl rfl [go h b rm hi] rfl [go h b rm hi, ydW Γ (b 0) an r] rfl rfl rfl [] rfl (Nat.le_of_ble_eq_true rfl) ?_
  refine r_if_neN K dX6_level_7 (by omega) (fun c7 => ?_) (fun c7 => ?_)
  · refine r_aload_n K dX6_level_12 0 rfl ?_
    refine r_get K dX6_level_13 (kf := 0) 0 rfl rfl hinX6 (by decide) q114 rfl rfl ?_
    refine r_aload_n K dX6_level_16 0 rfl ?_
    refine r_get K dX6_level_17 (kf := 0) 0 rfl rfl hinX6 (by decide) q114 rfl rfl ?_
    refine r_cVd K dX6_level_20 (c_X0_deepest l Γ (b 0) an r (hI)) mX0_deepest q467 rfl (by decide) rfl rfl 2 rfl [1] [0] rfl rfl [go h b rm hi] rfl [go h b rm hi, ydW Γ (b 0) an r] rfl rfl rfl [.ref (b 0)] rfl (Nat.le_of_ble_eq_true rfl) ?_
    obtain ⟨j, hj, ej⟩ := (exF_cases r true (nG r)).resolve_left (exF_ne (by omega))
    refine r_top (y := nI j) (ej) ?_
    refine r_cVd K dX6_level_23 (c_X0_depthN l Γ (b 0) an r j (hI) (by first | omega | (simp only [daysS_nM, daysS_nG, dayS_nM, dayS_nG, tellS_nM, tellS_nG, aloneTo_nM, aloneTo_nG, nM_M, nG_M, nM_G, nG_G, lv_nM, lv_nG, gnT_nM, gnT_nG] <;> omega))) mX0_depth q302 rfl (by decide) rfl rfl 2 rfl [1] [0] rfl rfl [go h b rm hi] rfl [go h b rm hi, ydW Γ (b 0) an r] rfl rfl rfl [] rfl (Nat.le_of_ble_eq_true rfl) ?_
    refine r_aload_n K dX6_level_26 0 rfl ?_
    refine r_get K dX6_level_27 (kf := 0) 0 rfl rfl hinX6 (by decide) q114 rfl rfl ?_
    refine r_aload_n K dX6_level_30 0 rfl ?_
    refine r_get K dX6_level_31 (kf := 0) 0 rfl rfl hinX6 (by decide) q114 rfl rfl ?_
    refine r_cVd K dX6_level_34 (c_X0_driest l Γ (b 0) an r (hI)) mX0_driest q463 rfl (by decide) rfl rfl 2 rfl [1] [0] rfl rfl [go h b rm hi] rfl [go h b rm hi, ydW Γ (b 0) an r] rfl rfl rfl [.ref (b 0), .int (r (iG j 1))] rfl (Nat.le_of_ble_eq_true rfl) ?_
    obtain ⟨i, hil, ei⟩ := (exF_cases r false (nG r)).resolve_left (exF_ne (by omega))
    refine r_top (y := nI i) (ei) ?_
    refine r_cVd K dX6_level_37 (c_X0_depthN l Γ (b 0) an r i (hI) (by first | omega | (simp only [daysS_nM, daysS_nG, dayS_nM, dayS_nG, tellS_nM, tellS_nG, aloneTo_nM, aloneTo_nG, nM_M, nG_M, nM_G, nG_G, lv_nM, lv_nG, gnT_nM, gnT_nG] <;> omega))) mX0_depth q302 rfl (by decide) rfl rfl 2 rfl [1] [0] rfl rfl [go h b rm hi] rfl [go h b rm hi, ydW Γ (b 0) an r] rfl rfl rfl [.int (r (iG j 1))] rfl (Nat.le_of_ble_eq_true rfl) ?_
    refine r_isub K dX6_level_40 ?_
    exact hR () dX6_level_41 (trivial) (e_ri (by unfold aLevel; rw [if_neg c7, ej, ei, ix_nI (by omega), ix_nI (by omega)])) (weq.rf)
  · refine r_iconst K dX6_level_10 (nI 0) (by decide) ?_
    exact hR () dX6_level_11 (trivial) (e_ri (by unfold aLevel; rw [if_pos c7])) (weq.rf)
set_option maxHeartbeats 1000000 in
set_option maxRecDepth 20000 in
theorem c_X6_two (l : Launch) (Γ : eG) (h : Nat) (b : Nat → Nat) (rm : Nat) (hi : Bool) (an : Nat → Nat) (r : Nat → Int32) (sd : Int32) (am : Nat → Nat) (mi : Nat → Int32) (rf : Nat → Int32) (x : Int32) (y : Int32) (n : Int32) (hI : Inv r) : cE l Γ yX6_two cX6_two 5 (some .int) 6 [.ref h, .int x, .int y, .int n] [go h b rm hi, ydW Γ (b 0) an r, eO (b 3) 3 [.ref (b 0), .ref (b 8), .ref (b 9), .int sd], ydW Γ (b 8) am mi, eI Γ (b 7) 7 rf] (S := Nat → Int32) (fun u => True) (fun u => (some (.int (chE (eTwo r x y n) (aTwo r x y n) (eTwo r x y n))))) (fun u => [go h b rm hi, ydW Γ (b 0) an r, eO (b 3) 3 [.ref (b 0), .ref (b 8), .ref (b 9), .int sd], ydW Γ (b 8) am u, eI Γ (b 7) 7 (chE (eTwo r x y n) rf (nof rf (eTwo r x y n)))]) := by
  refine e_int [(0, .ref h), (1, .int x), (2, .int y), (3, .int n)] (by decide +kernel) (Nat.le_of_ble_eq_true rfl) rfl (fun V K hR => ?_)
  have h5 := hI.g
  have h6 := hI.m
  refine r_aload_n K dX6_two_0 0 rfl ?_
  refine r_get K dX6_two_1 (kf := 0) 0 rfl rfl hinX6 (by decide) q114 rfl rfl ?_
  refine r_iload_n K dX6_two_4 1 rfl ?_
  refine r_cVd K dX6_two_5 (c_X0_hasMourner l Γ (b 0) an r x (hI)) mX0_hasMourner q347 rfl (by decide) rfl rfl 5 rfl [1] [0, 2, 3, 4] rfl rfl [go h b rm hi, eO (b 3) 3 [.ref (b 0), .ref (b 8), .ref (b 9), .int sd], ydW Γ (b 8) am mi, eI Γ (b 7) 7 rf] rfl [go h b rm hi, ydW Γ (b 0) an r, eO (b 3) 3 [.ref (b 0), .ref (b 8), .ref (b 9), .int sd], ydW Γ (b 8) am mi, eI Γ (b 7) 7 rf] rfl rfl rfl [] rfl (Nat.le_of_ble_eq_true rfl) ?_
  refine r_ifeqB K dX6_two_8 (fun c8 => ?_) (fun c8 => ?_)
  · refine r_aload_n K dX6_two_27 0 rfl ?_
    refine r_iconst K dX6_two_28 ((-1)) (by decide) ?_
    refine r_cVd K dX6_two_29 (c_X6_refuse l Γ h b rm hi rf (-1) (okR_1)) mX6_refuse q149 rfl (by decide) rfl rfl 5 rfl [0, 4] [1, 2, 3] rfl rfl [ydW Γ (b 0) an r, eO (b 3) 3 [.ref (b 0), .ref (b 8), .ref (b 9), .int sd], ydW Γ (b 8) am mi] rfl [go h b rm hi, ydW Γ (b 0) an r, eO (b 3) 3 [.ref (b 0), .ref (b 8), .ref (b 9), .int sd], ydW Γ (b 8) am mi, eI Γ (b 7) 7 (nof rf (-1))] rfl rfl rfl [] rfl (Nat.le_of_ble_eq_true rfl) ?_
    have he : eTwo r x y n = (-1) := by
      unfold eTwo
      rw [if_pos (fun z => nt c8 z.1)]
    refine r_arr K (f2 := chE (eTwo r x y n) rf (nof rf (eTwo r x y n))) (ws1 := [go h b rm hi, ydW Γ (b 0) an r, eO (b 3) 3 [.ref (b 0), .ref (b 8), .ref (b 9), .int sd], ydW Γ (b 8) am mi, eI Γ (b 7) 7 (chE (eTwo r x y n) rf (nof rf (eTwo r x y n)))]) 4 rfl (fun _ _ => by rw [ch_n (g := nof rf) he (by decide)]) rfl ?_
    exact hR mi dX6_two_32 (trivial) (e_ri (ex_n he (by decide))) (weq.rf)
  · have hx := inN_e c8 (by omega)
    have lx := ix_lt c8 (by omega)
    refine r_lc (lv1 := [(0, .ref h), (1, .int (nI (ix x))), (2, .int y), (3, .int n)]) (congrArg (fun zz : Int32 => ([(0, .ref h), (1, .int zz), (2, .int y), (3, .int n)] : List (Nat × Value))) (hx)) ?_
    refine r_aload_n K dX6_two_11 0 rfl ?_
    refine r_get K dX6_two_12 (kf := 0) 0 rfl rfl hinX6 (by decide) q114 rfl rfl ?_
    refine r_iload_n K dX6_two_15 2 rfl ?_
    refine r_cVd K dX6_two_16 (c_X0_hasMourner l Γ (b 0) an r y (hI)) mX0_hasMourner q347 rfl (by decide) rfl rfl 5 rfl [1] [0, 2, 3, 4] rfl rfl [go h b rm hi, eO (b 3) 3 [.ref (b 0), .ref (b 8), .ref (b 9), .int sd], ydW Γ (b 8) am mi, eI Γ (b 7) 7 rf] rfl [go h b rm hi, ydW Γ (b 0) an r, eO (b 3) 3 [.ref (b 0), .ref (b 8), .ref (b 9), .int sd], ydW Γ (b 8) am mi, eI Γ (b 7) 7 rf] rfl rfl rfl [] rfl (Nat.le_of_ble_eq_true rfl) ?_
    refine r_ifeqB K dX6_two_19 (fun c19 => ?_) (fun c19 => ?_)
    · refine r_aload_n K dX6_two_27 0 rfl ?_
      refine r_iconst K dX6_two_28 ((-1)) (by decide) ?_
      refine r_cVd K dX6_two_29 (c_X6_refuse l Γ h b rm hi rf (-1) (okR_1)) mX6_refuse q149 rfl (by decide) rfl rfl 5 rfl [0, 4] [1, 2, 3] rfl rfl [ydW Γ (b 0) an r, eO (b 3) 3 [.ref (b 0), .ref (b 8), .ref (b 9), .int sd], ydW Γ (b 8) am mi] rfl [go h b rm hi, ydW Γ (b 0) an r, eO (b 3) 3 [.ref (b 0), .ref (b 8), .ref (b 9), .int sd], ydW Γ (b 8) am mi, eI Γ (b 7) 7 (nof rf (-1))] rfl rfl rfl [] rfl (Nat.le_of_ble_eq_true rfl) ?_
      have he : eTwo r x y n = (-1) := by
        unfold eTwo
        rw [if_pos (fun z => nt c19 z.2.1)]
      refine r_arr K (f2 := chE (eTwo r x y n) rf (nof rf (eTwo r x y n))) (ws1 := [go h b rm hi, ydW Γ (b 0) an r, eO (b 3) 3 [.ref (b 0), .ref (b 8), .ref (b 9), .int sd], ydW Γ (b 8) am mi, eI Γ (b 7) 7 (chE (eTwo r x y n) rf (nof rf (eTwo r x y n)))]) 4 rfl (fun _ _ => by rw [ch_n (g := nof rf) he (by decide)]) rfl ?_
      exact hR mi dX6_two_32 (trivial) (e_ri (ex_n he (by decide))) (weq.rf)
    · have hy := inN_e c19 (by omega)
      have ly := ix_lt c19 (by omega)
      refine r_lc (lv1 := [(0, .ref h), (1, .int (nI (ix x))), (2, .int (nI (ix y))), (3, .int n)]) (congrArg (fun zz : Int32 => ([(0, .ref h), (1, .int (nI (ix x))), (2, .int zz), (3, .int n)] : List (Nat × Value))) (hy)) ?_
      refine r_iload_n K dX6_two_22 1 rfl ?_
      refine r_iload_n K dX6_two_23 2 rfl ?_
      refine r_ic_neN K dX6_two_24 (by omega) (by omega) (fun c24 => ?_) (fun c24 => ?_)
      · refine r_iload_n K dX6_two_33 3 rfl ?_
        refine r_iconst K dX6_two_34 (nI 1) (by decide) ?_
        refine r_bipush K dX6_two_35 (nI 30) (by decide) ?_
        refine r_cSd K dX6_two_37 (c_X6_faultOfRange l Γ n (nI 1) (nI 30)) mX6_faultOfRange q374 rfl (by decide) 5 rfl [] [0, 1, 2, 3, 4] rfl rfl [go h b rm hi, ydW Γ (b 0) an r, eO (b 3) 3 [.ref (b 0), .ref (b 8), .ref (b 9), .int sd], ydW Γ (b 8) am mi, eI Γ (b 7) 7 rf] rfl [go h b rm hi, ydW Γ (b 0) an r, eO (b 3) 3 [.ref (b 0), .ref (b 8), .ref (b 9), .int sd], ydW Γ (b 8) am mi, eI Γ (b 7) 7 rf] rfl rfl rfl [] rfl (Nat.le_of_ble_eq_true rfl) ?_
        refine r_istore K dX6_two_40 (by decide) (lv1 := [(4, .int (wrS n (nI 1) (nI 30))), (0, .ref h), (1, .int (nI (ix x))), (2, .int (nI (ix y))), (3, .int n)]) rfl ?_
        refine r_iload K dX6_two_42 0 rfl ?_
        refine r_if_eq K dX6_two_44 (fun c44 => ?_) (fun c44 => ?_)
        · have hn := wrS_ok (by decide) (by decide) c44
          have ln := hn.2
          refine r_lc (lv1 := [(4, .int (wrS n (nI 1) (nI 30))), (0, .ref h), (1, .int (nI (ix x))), (2, .int (nI (ix y))), (3, .int (nI (ix n)))]) (congrArg (fun zz : Int32 => ([(4, .int (wrS n (nI 1) (nI 30))), (0, .ref h), (1, .int (nI (ix x))), (2, .int (nI (ix y))), (3, .int zz)] : List (Nat × Value))) (hn.1)) ?_
          refine r_aload_n K dX6_two_54 1 rfl ?_
          refine r_get K dX6_two_55 (kf := 0) 0 rfl rfl hinX6 (by decide) q114 rfl rfl ?_
          refine r_iload_n K dX6_two_58 2 rfl ?_
          refine r_cVd K dX6_two_59 (c_X0_placeOfN l Γ (b 0) an r (ix x) (hI) (by first | omega | (simp only [daysS_nM, daysS_nG, dayS_nM, dayS_nG, tellS_nM, tellS_nG, aloneTo_nM, aloneTo_nG, nM_M, nG_M, nM_G, nG_G, lv_nM, lv_nG, gnT_nM, gnT_nG] <;> omega))) mX0_placeOf q351 rfl (by decide) rfl rfl 5 rfl [1] [0, 2, 3, 4] rfl rfl [go h b rm hi, eO (b 3) 3 [.ref (b 0), .ref (b 8), .ref (b 9), .int sd], ydW Γ (b 8) am mi, eI Γ (b 7) 7 rf] rfl [go h b rm hi, ydW Γ (b 0) an r, eO (b 3) 3 [.ref (b 0), .ref (b 8), .ref (b 9), .int sd], ydW Γ (b 8) am mi, eI Γ (b 7) 7 rf] rfl rfl rfl [] rfl (Nat.le_of_ble_eq_true rfl) ?_
          refine r_bipush K dX6_two_62 ((-9)) (by decide) ?_
          refine r_ic_eq K dX6_two_64 (fun c64 => ?_) (fun c64 => ?_)
          · refine r_aload_n K dX6_two_80 1 rfl ?_
            refine r_bipush K dX6_two_81 ((-3)) (by decide) ?_
            refine r_cVd K dX6_two_83 (c_X6_refuse l Γ h b rm hi rf (-3) (okR_3)) mX6_refuse q149 rfl (by decide) rfl rfl 5 rfl [0, 4] [1, 2, 3] rfl rfl [ydW Γ (b 0) an r, eO (b 3) 3 [.ref (b 0), .ref (b 8), .ref (b 9), .int sd], ydW Γ (b 8) am mi] rfl [go h b rm hi, ydW Γ (b 0) an r, eO (b 3) 3 [.ref (b 0), .ref (b 8), .ref (b 9), .int sd], ydW Γ (b 8) am mi, eI Γ (b 7) 7 (nof rf (-3))] rfl rfl rfl [] rfl (Nat.le_of_ble_eq_true rfl) ?_
            have he : eTwo r x y n = (-3) := by
              unfold eTwo
              rw [if_neg (not_not_intro ⟨c8, c19, fun z => c24 (by rw [z])⟩), if_neg (not_not_intro c44), if_pos (Or.inl c64)]
            refine r_arr K (f2 := chE (eTwo r x y n) rf (nof rf (eTwo r x y n))) (ws1 := [go h b rm hi, ydW Γ (b 0) an r, eO (b 3) 3 [.ref (b 0), .ref (b 8), .ref (b 9), .int sd], ydW Γ (b 8) am mi, eI Γ (b 7) 7 (chE (eTwo r x y n) rf (nof rf (eTwo r x y n)))]) 4 rfl (fun _ _ => by rw [ch_n (g := nof rf) he (by decide)]) rfl ?_
            exact hR mi dX6_two_86 (trivial) (e_ri (ex_n he (by decide))) (weq.rf)
          · refine r_aload_n K dX6_two_67 1 rfl ?_
            refine r_get K dX6_two_68 (kf := 0) 0 rfl rfl hinX6 (by decide) q114 rfl rfl ?_
            refine r_iload_n K dX6_two_71 3 rfl ?_
            refine r_cVd K dX6_two_72 (c_X0_placeOfN l Γ (b 0) an r (ix y) (hI) (by first | omega | (simp only [daysS_nM, daysS_nG, dayS_nM, dayS_nG, tellS_nM, tellS_nG, aloneTo_nM, aloneTo_nG, nM_M, nG_M, nM_G, nG_G, lv_nM, lv_nG, gnT_nM, gnT_nG] <;> omega))) mX0_placeOf q351 rfl (by decide) rfl rfl 5 rfl [1] [0, 2, 3, 4] rfl rfl [go h b rm hi, eO (b 3) 3 [.ref (b 0), .ref (b 8), .ref (b 9), .int sd], ydW Γ (b 8) am mi, eI Γ (b 7) 7 rf] rfl [go h b rm hi, ydW Γ (b 0) an r, eO (b 3) 3 [.ref (b 0), .ref (b 8), .ref (b 9), .int sd], ydW Γ (b 8) am mi, eI Γ (b 7) 7 rf] rfl rfl rfl [] rfl (Nat.le_of_ble_eq_true rfl) ?_
            refine r_bipush K dX6_two_75 ((-9)) (by decide) ?_
            refine r_ic_ne K dX6_two_77 (fun c77 => ?_) (fun c77 => ?_)
            · obtain ⟨ga, hga, ea⟩ := (hI.pl3 lx).resolve_left c64
              obtain ⟨gb, hgb, eb⟩ := (hI.pl3 ly).resolve_left c77
              refine r_aload_n K dX6_two_87 1 rfl ?_
              refine r_get K dX6_two_88 (kf := 3) 0 rfl rfl hinX6 (by decide) q117 rfl rfl ?_
              refine r_iload_n K dX6_two_91 2 rfl ?_
              refine r_iload_n K dX6_two_92 3 rfl ?_
              refine r_iload_n K dX6_two_93 4 rfl ?_
              refine r_cV K dX6_two_94 (c_X5_firstCalmPair l Γ (b 3) (b 0) (b 8) (b 9) sd an am r mi (ix x) (ix y) (ix n) ga gb (hI) (by first | omega | (simp only [daysS_nM, daysS_nG, dayS_nM, dayS_nG, tellS_nM, tellS_nG, aloneTo_nM, aloneTo_nG, nM_M, nG_M, nM_G, nG_G, lv_nM, lv_nG, gnT_nM, gnT_nG] <;> omega)) (by first | omega | (simp only [daysS_nM, daysS_nG, dayS_nM, dayS_nG, tellS_nM, tellS_nG, aloneTo_nM, aloneTo_nG, nM_M, nG_M, nM_G, nG_G, lv_nM, lv_nG, gnT_nM, gnT_nG] <;> omega)) (by first | omega | (simp only [daysS_nM, daysS_nG, dayS_nM, dayS_nG, tellS_nM, tellS_nG, aloneTo_nM, aloneTo_nG, nM_M, nG_M, nM_G, nG_G, lv_nM, lv_nG, gnT_nM, gnT_nG] <;> omega)) (by first | omega | (simp only [daysS_nM, daysS_nG, dayS_nM, dayS_nG, tellS_nM, tellS_nG, aloneTo_nM, aloneTo_nG, nM_M, nG_M, nM_G, nG_G, lv_nM, lv_nG, gnT_nM, gnT_nG] <;> omega)) (by first | assumption | omega) (by first | assumption | omega) (by first | assumption | omega)) mX5_firstCalmPair q616 rfl (by decide) rfl rfl 5 rfl [2, 1, 3] [0, 4] rfl rfl [go h b rm hi, eI Γ (b 7) 7 rf] rfl (fun u => [go h b rm hi, ydW Γ (b 0) an r, eO (b 3) 3 [.ref (b 0), .ref (b 8), .ref (b 9), .int sd], ydW Γ (b 8) am u, eI Γ (b 7) 7 rf]) (fun _ => rfl) (fun _ => rfl) (fun _ => rfl) [] rfl (Nat.le_of_ble_eq_true rfl) (fun u1 hu2 => ?_)
              show V 97 _ [.int (calmL r (ix x) (ix y) (ix n) ga gb 4 0)] [go h b rm hi, ydW Γ (b 0) an r, eO (b 3) 3 [.ref (b 0), .ref (b 8), .ref (b 9), .int sd], ydW Γ (b 8) am u1, eI Γ (b 7) 7 rf]
              have he : eTwo r x y n = 0 := by
                unfold eTwo
                rw [if_neg (not_not_intro ⟨c8, c19, fun z => c24 (by rw [z])⟩), if_neg (not_not_intro c44), if_neg (fun z => z.elim c64 c77)]
              refine r_arr K (f2 := chE (eTwo r x y n) rf (nof rf (eTwo r x y n))) (ws1 := [go h b rm hi, ydW Γ (b 0) an r, eO (b 3) 3 [.ref (b 0), .ref (b 8), .ref (b 9), .int sd], ydW Γ (b 8) am u1, eI Γ (b 7) 7 (chE (eTwo r x y n) rf (nof rf (eTwo r x y n)))]) 4 rfl (fun _ _ => by rw [chE_0 he]) rfl ?_
              exact hR u1 dX6_two_97 (trivial) (e_ri (ex_0 he (by unfold aTwo; rw [ea, eb, ix_nI (by omega), ix_nI (by omega)]))) (weq.rf)
            · refine r_aload_n K dX6_two_80 1 rfl ?_
              refine r_bipush K dX6_two_81 ((-3)) (by decide) ?_
              refine r_cVd K dX6_two_83 (c_X6_refuse l Γ h b rm hi rf (-3) (okR_3)) mX6_refuse q149 rfl (by decide) rfl rfl 5 rfl [0, 4] [1, 2, 3] rfl rfl [ydW Γ (b 0) an r, eO (b 3) 3 [.ref (b 0), .ref (b 8), .ref (b 9), .int sd], ydW Γ (b 8) am mi] rfl [go h b rm hi, ydW Γ (b 0) an r, eO (b 3) 3 [.ref (b 0), .ref (b 8), .ref (b 9), .int sd], ydW Γ (b 8) am mi, eI Γ (b 7) 7 (nof rf (-3))] rfl rfl rfl [] rfl (Nat.le_of_ble_eq_true rfl) ?_
              have he : eTwo r x y n = (-3) := by
                unfold eTwo
                rw [if_neg (not_not_intro ⟨c8, c19, fun z => c24 (by rw [z])⟩), if_neg (not_not_intro c44), if_pos (Or.inr c77)]
              refine r_arr K (f2 := chE (eTwo r x y n) rf (nof rf (eTwo r x y n))) (ws1 := [go h b rm hi, ydW Γ (b 0) an r, eO (b 3) 3 [.ref (b 0), .ref (b 8), .ref (b 9), .int sd], ydW Γ (b 8) am mi, eI Γ (b 7) 7 (chE (eTwo r x y n) rf (nof rf (eTwo r x y n)))]) 4 rfl (fun _ _ => by rw [ch_n (g := nof rf) he (by decide)]) rfl ?_
              exact hR mi dX6_two_86 (trivial) (e_ri (ex_n he (by decide))) (weq.rf)
        · refine r_aload_n K dX6_two_47 1 rfl ?_
          refine r_iload K dX6_two_48 0 rfl ?_
          refine r_cVd K dX6_two_50 (c_X6_refuse l Γ h b rm hi rf (wrS n (nI 1) (nI 30)) (okR_wr c44)) mX6_refuse q149 rfl (by decide) rfl rfl 5 rfl [0, 4] [1, 2, 3] rfl rfl [ydW Γ (b 0) an r, eO (b 3) 3 [.ref (b 0), .ref (b 8), .ref (b 9), .int sd], ydW Γ (b 8) am mi] rfl [go h b rm hi, ydW Γ (b 0) an r, eO (b 3) 3 [.ref (b 0), .ref (b 8), .ref (b 9), .int sd], ydW Γ (b 8) am mi, eI Γ (b 7) 7 (nof rf (wrS n (nI 1) (nI 30)))] rfl rfl rfl [] rfl (Nat.le_of_ble_eq_true rfl) ?_
          have he : eTwo r x y n = wrS n (nI 1) (nI 30) := by
            unfold eTwo
            rw [if_neg (not_not_intro ⟨c8, c19, fun z => c24 (by rw [z])⟩), if_pos c44]
          refine r_arr K (f2 := chE (eTwo r x y n) rf (nof rf (eTwo r x y n))) (ws1 := [go h b rm hi, ydW Γ (b 0) an r, eO (b 3) 3 [.ref (b 0), .ref (b 8), .ref (b 9), .int sd], ydW Γ (b 8) am mi, eI Γ (b 7) 7 (chE (eTwo r x y n) rf (nof rf (eTwo r x y n)))]) 4 rfl (fun _ _ => by rw [ch_n (g := nof rf) he c44]) rfl ?_
          exact hR mi dX6_two_53 (trivial) (e_ri (ex_n he c44)) (weq.rf)
      · refine r_aload_n K dX6_two_27 0 rfl ?_
        refine r_iconst K dX6_two_28 ((-1)) (by decide) ?_
        refine r_cVd K dX6_two_29 (c_X6_refuse l Γ h b rm hi rf (-1) (okR_1)) mX6_refuse q149 rfl (by decide) rfl rfl 5 rfl [0, 4] [1, 2, 3] rfl rfl [ydW Γ (b 0) an r, eO (b 3) 3 [.ref (b 0), .ref (b 8), .ref (b 9), .int sd], ydW Γ (b 8) am mi] rfl [go h b rm hi, ydW Γ (b 0) an r, eO (b 3) 3 [.ref (b 0), .ref (b 8), .ref (b 9), .int sd], ydW Γ (b 8) am mi, eI Γ (b 7) 7 (nof rf (-1))] rfl rfl rfl [] rfl (Nat.le_of_ble_eq_true rfl) ?_
        have he : eTwo r x y n = (-1) := by
          unfold eTwo
          rw [if_pos (fun z => z.2.2 ((hx.trans (by rw [c24])).trans hy.symm))]
        refine r_arr K (f2 := chE (eTwo r x y n) rf (nof rf (eTwo r x y n))) (ws1 := [go h b rm hi, ydW Γ (b 0) an r, eO (b 3) 3 [.ref (b 0), .ref (b 8), .ref (b 9), .int sd], ydW Γ (b 8) am mi, eI Γ (b 7) 7 (chE (eTwo r x y n) rf (nof rf (eTwo r x y n)))]) 4 rfl (fun _ _ => by rw [ch_n (g := nof rf) he (by decide)]) rfl ?_
        exact hR mi dX6_two_32 (trivial) (e_ri (ex_n he (by decide))) (weq.rf)
set_option maxHeartbeats 1000000 in
set_option maxRecDepth 20000 in
theorem c_X6_share (l : Launch) (Γ : eG) (h : Nat) (b : Nat → Nat) (rm : Nat) (hi : Bool) (an : Nat → Nat) (r : Nat → Int32) (rf : Nat → Int32) (x : Int32) (p : Int32) (hI : Inv r) : cD l Γ yX6_share cX6_share 4 (some .long) 4 [.ref h, .int x, .int p] [go h b rm hi, ydW Γ (b 0) an r, eI Γ (b 7) 7 rf] (some (.long (chE (eShare r x p) (aShare r x p) (4000000000000000000 - (eShare r x p).toInt64)))) [go h b rm hi, ydW Γ (b 0) an r, eI Γ (b 7) 7 (chE (eShare r x p) rf (nof rf (eShare r x p)))] := by
  refine e_long [(0, .ref h), (1, .int x), (2, .int p)] (by decide +kernel) (Nat.le_of_ble_eq_true rfl) rfl (fun V K hR => ?_)
  have h5 := hI.g
  have h6 := hI.m
  refine r_aload_n K dX6_share_0 0 rfl ?_
  refine r_get K dX6_share_1 (kf := 0) 0 rfl rfl hinX6 (by decide) q114 rfl rfl ?_
  refine r_iload_n K dX6_share_4 1 rfl ?_
  refine r_cVd K dX6_share_5 (c_X0_hasMourner l Γ (b 0) an r x (hI)) mX0_hasMourner q347 rfl (by decide) rfl rfl 3 rfl [1] [0, 2] rfl rfl [go h b rm hi, eI Γ (b 7) 7 rf] rfl [go h b rm hi, ydW Γ (b 0) an r, eI Γ (b 7) 7 rf] rfl rfl rfl [] rfl (Nat.le_of_ble_eq_true rfl) ?_
  refine r_ifneB K dX6_share_8 (fun c8 => ?_) (fun c8 => ?_)
  · have hx := inN_e c8 (by omega)
    have lx := ix_lt c8 (by omega)
    refine r_lc (lv1 := [(0, .ref h), (1, .int (nI (ix x))), (2, .int p)]) (congrArg (fun zz : Int32 => ([(0, .ref h), (1, .int zz), (2, .int p)] : List (Nat × Value))) (hx)) ?_
    refine r_iload_n K dX6_share_22 2 rfl ?_
    refine r_if_lt K dX6_share_23 (fun c23 => ?_) (fun c23 => ?_)
    · have hb : isInB p (nI 0) (nI 1) = false := isInB_f1 c23
      refine r_ldc2 K dX6_share_31 q628 ?_
      refine r_aload_n K dX6_share_34 0 rfl ?_
      refine r_bipush K dX6_share_35 ((-2)) (by decide) ?_
      refine r_cVd K dX6_share_37 (c_X6_refuse l Γ h b rm hi rf (-2) (okR_2)) mX6_refuse q149 rfl (by decide) rfl rfl 3 rfl [0, 2] [1] rfl rfl [ydW Γ (b 0) an r] rfl [go h b rm hi, ydW Γ (b 0) an r, eI Γ (b 7) 7 (nof rf (-2))] rfl rfl rfl [.long ((4000000000000000000) : Int64)] rfl (Nat.le_of_ble_eq_true rfl) ?_
      refine r_i2l K dX6_share_40 ?_
      refine r_lsub K dX6_share_41 ?_
      have he : eShare r x p = (-2) := by
        unfold eShare
        rw [if_neg (not_not_intro c8), if_pos (nt hb)]
      refine r_arr K (f2 := chE (eShare r x p) rf (nof rf (eShare r x p))) (ws1 := [go h b rm hi, ydW Γ (b 0) an r, eI Γ (b 7) 7 (chE (eShare r x p) rf (nof rf (eShare r x p)))]) 2 rfl (fun _ _ => by rw [ch_n (g := nof rf) he (by decide)]) rfl ?_
      exact hR () dX6_share_42 (trivial) (e_rl (exL_n he (by decide))) (weq.rf)
    · refine r_iload_n K dX6_share_26 2 rfl ?_
      refine r_iconst K dX6_share_27 (nI 1) (by decide) ?_
      refine r_ic_le K dX6_share_28 (fun c28 => ?_) (fun c28 => ?_)
      · have hb : isInB p (nI 0) (nI 1) = true := isInB_t c23 (Int32.not_lt.mpr c28)
        have hp := isInB_ok (lo := 0) (hi := 1) (by decide) (by decide) hb
        have lp := hp.2
        refine r_aload_n K dX6_share_43 0 rfl ?_
        refine r_get K dX6_share_44 (kf := 0) 0 rfl rfl hinX6 (by decide) q114 rfl rfl ?_
        refine r_iload_n K dX6_share_47 1 rfl ?_
        refine r_cVd K dX6_share_48 (c_X0_placeOfN l Γ (b 0) an r (ix x) (hI) (by first | omega | (simp only [daysS_nM, daysS_nG, dayS_nM, dayS_nG, tellS_nM, tellS_nG, aloneTo_nM, aloneTo_nG, nM_M, nG_M, nM_G, nG_G, lv_nM, lv_nG, gnT_nM, gnT_nG] <;> omega))) mX0_placeOf q351 rfl (by decide) rfl rfl 3 rfl [1] [0, 2] rfl rfl [go h b rm hi, eI Γ (b 7) 7 rf] rfl [go h b rm hi, ydW Γ (b 0) an r, eI Γ (b 7) 7 rf] rfl rfl rfl [] rfl (Nat.le_of_ble_eq_true rfl) ?_
        refine r_istore_n K dX6_share_51 rfl (by decide) (lv1 := [(3, .int (r (iM (ix x) 3))), (0, .ref h), (1, .int (nI (ix x))), (2, .int p)]) rfl ?_
        refine r_iload_n K dX6_share_52 0 rfl ?_
        refine r_bipush K dX6_share_53 ((-9)) (by decide) ?_
        refine r_ic_ne K dX6_share_55 (fun c55 => ?_) (fun c55 => ?_)
        · refine r_aload_n K dX6_share_70 1 rfl ?_
          refine r_get K dX6_share_71 (kf := 0) 0 rfl rfl hinX6 (by decide) q114 rfl rfl ?_
          refine r_iload_n K dX6_share_74 2 rfl ?_
          refine r_cVd K dX6_share_75 (c_X0_weeps l Γ (b 0) an r (ix x) (hI) (by first | omega | (simp only [daysS_nM, daysS_nG, dayS_nM, dayS_nG, tellS_nM, tellS_nG, aloneTo_nM, aloneTo_nG, nM_M, nG_M, nM_G, nG_G, lv_nM, lv_nG, gnT_nM, gnT_nG] <;> omega))) mX0_weeps q355 rfl (by decide) rfl rfl 3 rfl [1] [0, 2] rfl rfl [go h b rm hi, eI Γ (b 7) 7 rf] rfl [go h b rm hi, ydW Γ (b 0) an r, eI Γ (b 7) 7 rf] rfl rfl rfl [] rfl (Nat.le_of_ble_eq_true rfl) ?_
          obtain ⟨ww, hww, eww⟩ := weepS_ok hI (p := ix x) (by omega)
          refine r_top (y := nI ww) (eww) ?_
          refine r_i2l K dX6_share_78 ?_
          refine r_topL (y := lN ww) (nI_l (by omega)) ?_
          refine r_aload_n K dX6_share_79 1 rfl ?_
          refine r_get K dX6_share_80 (kf := 0) 0 rfl rfl hinX6 (by decide) q114 rfl rfl ?_
          refine r_iload_n K dX6_share_83 0 rfl ?_
          refine r_cVd K dX6_share_84 (c_X0_weepingAt l Γ (b 0) an r (r (iM (ix x) 3)) (hI) (c55)) mX0_weepingAt q315 rfl (by decide) rfl rfl 3 rfl [1] [0, 2] rfl rfl [go h b rm hi, eI Γ (b 7) 7 rf] rfl [go h b rm hi, ydW Γ (b 0) an r, eI Γ (b 7) 7 rf] rfl rfl rfl [.long (lN ww)] rfl (Nat.le_of_ble_eq_true rfl) ?_
          obtain ⟨wa, hwa, ewa⟩ := wat_ok hI (r (iM (ix x) 3))
          refine r_top (y := nI wa) (ewa) ?_
          refine r_i2l K dX6_share_87 ?_
          refine r_topL (y := lN wa) (nI_l (by omega)) ?_
          refine r_iload_n K dX6_share_88 3 rfl ?_
          refine r_cSd K dX6_share_89 (c_X1_told l Γ ww wa p (by omega) (by omega)) mX1_told q629 rfl (by decide) 3 rfl [] [0, 1, 2] rfl rfl [go h b rm hi, ydW Γ (b 0) an r, eI Γ (b 7) 7 rf] rfl [go h b rm hi, ydW Γ (b 0) an r, eI Γ (b 7) 7 rf] rfl rfl rfl [] rfl (Nat.le_of_ble_eq_true rfl) ?_
          have he : eShare r x p = 0 := by
            unfold eShare
            rw [if_neg (not_not_intro c8), if_neg (not_not_intro hb), if_neg c55]
          refine r_arr K (f2 := chE (eShare r x p) rf (nof rf (eShare r x p))) (ws1 := [go h b rm hi, ydW Γ (b 0) an r, eI Γ (b 7) 7 (chE (eShare r x p) rf (nof rf (eShare r x p)))]) 2 rfl (fun _ _ => by rw [chE_0 he]) rfl ?_
          exact hR () dX6_share_92 (trivial) (e_rl (exL_0 he (by unfold aShare; rw [eww, ewa, ix_nI (by omega), ix_nI (by omega)]))) (weq.rf)
        · refine r_ldc2 K dX6_share_58 q628 ?_
          refine r_aload_n K dX6_share_61 1 rfl ?_
          refine r_bipush K dX6_share_62 ((-3)) (by decide) ?_
          refine r_cVd K dX6_share_64 (c_X6_refuse l Γ h b rm hi rf (-3) (okR_3)) mX6_refuse q149 rfl (by decide) rfl rfl 3 rfl [0, 2] [1] rfl rfl [ydW Γ (b 0) an r] rfl [go h b rm hi, ydW Γ (b 0) an r, eI Γ (b 7) 7 (nof rf (-3))] rfl rfl rfl [.long ((4000000000000000000) : Int64)] rfl (Nat.le_of_ble_eq_true rfl) ?_
          refine r_i2l K dX6_share_67 ?_
          refine r_lsub K dX6_share_68 ?_
          have he : eShare r x p = (-3) := by
            unfold eShare
            rw [if_neg (not_not_intro c8), if_neg (not_not_intro hb), if_pos c55]
          refine r_arr K (f2 := chE (eShare r x p) rf (nof rf (eShare r x p))) (ws1 := [go h b rm hi, ydW Γ (b 0) an r, eI Γ (b 7) 7 (chE (eShare r x p) rf (nof rf (eShare r x p)))]) 2 rfl (fun _ _ => by rw [ch_n (g := nof rf) he (by decide)]) rfl ?_
          exact hR () dX6_share_69 (trivial) (e_rl (exL_n he (by decide))) (weq.rf)
      · have hb : isInB p (nI 0) (nI 1) = false := isInB_f2 (Int32.not_le.mp c28)
        refine r_ldc2 K dX6_share_31 q628 ?_
        refine r_aload_n K dX6_share_34 0 rfl ?_
        refine r_bipush K dX6_share_35 ((-2)) (by decide) ?_
        refine r_cVd K dX6_share_37 (c_X6_refuse l Γ h b rm hi rf (-2) (okR_2)) mX6_refuse q149 rfl (by decide) rfl rfl 3 rfl [0, 2] [1] rfl rfl [ydW Γ (b 0) an r] rfl [go h b rm hi, ydW Γ (b 0) an r, eI Γ (b 7) 7 (nof rf (-2))] rfl rfl rfl [.long ((4000000000000000000) : Int64)] rfl (Nat.le_of_ble_eq_true rfl) ?_
        refine r_i2l K dX6_share_40 ?_
        refine r_lsub K dX6_share_41 ?_
        have he : eShare r x p = (-2) := by
          unfold eShare
          rw [if_neg (not_not_intro c8), if_pos (nt hb)]
        refine r_arr K (f2 := chE (eShare r x p) rf (nof rf (eShare r x p))) (ws1 := [go h b rm hi, ydW Γ (b 0) an r, eI Γ (b 7) 7 (chE (eShare r x p) rf (nof rf (eShare r x p)))]) 2 rfl (fun _ _ => by rw [ch_n (g := nof rf) he (by decide)]) rfl ?_
        exact hR () dX6_share_42 (trivial) (e_rl (exL_n he (by decide))) (weq.rf)
  · refine r_ldc2 K dX6_share_11 q628 ?_
    refine r_aload_n K dX6_share_14 0 rfl ?_
    refine r_iconst K dX6_share_15 ((-1)) (by decide) ?_
    refine r_cVd K dX6_share_16 (c_X6_refuse l Γ h b rm hi rf (-1) (okR_1)) mX6_refuse q149 rfl (by decide) rfl rfl 3 rfl [0, 2] [1] rfl rfl [ydW Γ (b 0) an r] rfl [go h b rm hi, ydW Γ (b 0) an r, eI Γ (b 7) 7 (nof rf (-1))] rfl rfl rfl [.long ((4000000000000000000) : Int64)] rfl (Nat.le_of_ble_eq_true rfl) ?_
    refine r_i2l K dX6_share_19 ?_
    refine r_lsub K dX6_share_20 ?_
    have he : eShare r x p = (-1) := by
      unfold eShare
      rw [if_pos (nt c8)]
    refine r_arr K (f2 := chE (eShare r x p) rf (nof rf (eShare r x p))) (ws1 := [go h b rm hi, ydW Γ (b 0) an r, eI Γ (b 7) 7 (chE (eShare r x p) rf (nof rf (eShare r x p)))]) 2 rfl (fun _ _ => by rw [ch_n (g := nof rf) he (by decide)]) rfl ?_
    exact hR () dX6_share_21 (trivial) (e_rl (exL_n he (by decide))) (weq.rf)
set_option maxHeartbeats 1000000 in
set_option maxRecDepth 20000 in
theorem c_X6_winter (l : Launch) (Γ : eG) (h : Nat) (b : Nat → Nat) (rm : Nat) (hi : Bool) (an : Nat → Nat) (r : Nat → Int32) (sd : Int32) (am : Nat → Nat) (mi : Nat → Int32) (rf : Nat → Int32) (dw : Nat → Int32) (x : Int32) (n : Int32) (t : Int32) (v : Int32) (p : Int32) (hI : Inv r) : cE l Γ yX6_winter cX6_winter 8 (some .long) 5 [.ref h, .int x, .int n, .int t, .int v, .int p] [go h b rm hi, ydW Γ (b 0) an r, eO (b 3) 3 [.ref (b 0), .ref (b 8), .ref (b 9), .int sd], ydW Γ (b 8) am mi, eI Γ (b 9) 7 dw, eI Γ (b 7) 7 rf] (S := (Nat → Int32) × (Nat → Int32)) (fun u => True) (fun u => (some (.long (chE (eWinter r x n t v p) (aWinter r x n t v p) (4000000000000000000 - (eWinter r x n t v p).toInt64))))) (fun u => [go h b rm hi, ydW Γ (b 0) an r, eO (b 3) 3 [.ref (b 0), .ref (b 8), .ref (b 9), .int sd], ydW Γ (b 8) am u.1, eI Γ (b 9) 7 u.2, eI Γ (b 7) 7 (chE (eWinter r x n t v p) rf (nof rf (eWinter r x n t v p)))]) := by
  refine e_long [(0, .ref h), (1, .int x), (2, .int n), (3, .int t), (4, .int v), (5, .int p)] (by decide +kernel) (Nat.le_of_ble_eq_true rfl) rfl (fun V K hR => ?_)
  have h5 := hI.g
  have h6 := hI.m
  refine r_aload_n K dX6_winter_0 0 rfl ?_
  refine r_get K dX6_winter_1 (kf := 0) 0 rfl rfl hinX6 (by decide) q114 rfl rfl ?_
  refine r_iload_n K dX6_winter_4 1 rfl ?_
  refine r_cVd K dX6_winter_5 (c_X0_hasGrave l Γ (b 0) an r x (hI)) mX0_hasGrave q297 rfl (by decide) rfl rfl 6 rfl [1] [0, 2, 3, 4, 5] rfl rfl [go h b rm hi, eO (b 3) 3 [.ref (b 0), .ref (b 8), .ref (b 9), .int sd], ydW Γ (b 8) am mi, eI Γ (b 9) 7 dw, eI Γ (b 7) 7 rf] rfl [go h b rm hi, ydW Γ (b 0) an r, eO (b 3) 3 [.ref (b 0), .ref (b 8), .ref (b 9), .int sd], ydW Γ (b 8) am mi, eI Γ (b 9) 7 dw, eI Γ (b 7) 7 rf] rfl rfl rfl [] rfl (Nat.le_of_ble_eq_true rfl) ?_
  refine r_ifneB K dX6_winter_8 (fun c8 => ?_) (fun c8 => ?_)
  · have hx := inN_e c8 (by omega)
    have lx := ix_lt c8 (by omega)
    refine r_lc (lv1 := [(0, .ref h), (1, .int (nI (ix x))), (2, .int n), (3, .int t), (4, .int v), (5, .int p)]) (congrArg (fun zz : Int32 => ([(0, .ref h), (1, .int zz), (2, .int n), (3, .int t), (4, .int v), (5, .int p)] : List (Nat × Value))) (hx)) ?_
    refine r_iload_n K dX6_winter_22 2 rfl ?_
    refine r_if_lt K dX6_winter_23 (fun c23 => ?_) (fun c23 => ?_)
    · refine r_ldc2 K dX6_winter_36 q628 ?_
      refine r_aload_n K dX6_winter_39 0 rfl ?_
      refine r_bipush K dX6_winter_40 ((-4)) (by decide) ?_
      refine r_cVd K dX6_winter_42 (c_X6_refuse l Γ h b rm hi rf (-4) (okR_4)) mX6_refuse q149 rfl (by decide) rfl rfl 6 rfl [0, 5] [1, 2, 3, 4] rfl rfl [ydW Γ (b 0) an r, eO (b 3) 3 [.ref (b 0), .ref (b 8), .ref (b 9), .int sd], ydW Γ (b 8) am mi, eI Γ (b 9) 7 dw] rfl [go h b rm hi, ydW Γ (b 0) an r, eO (b 3) 3 [.ref (b 0), .ref (b 8), .ref (b 9), .int sd], ydW Γ (b 8) am mi, eI Γ (b 9) 7 dw, eI Γ (b 7) 7 (nof rf (-4))] rfl rfl rfl [.long ((4000000000000000000) : Int64)] rfl (Nat.le_of_ble_eq_true rfl) ?_
      refine r_i2l K dX6_winter_45 ?_
      refine r_lsub K dX6_winter_46 ?_
      have he : eWinter r x n t v p = (-4) := by
        unfold eWinter
        rw [if_neg (not_not_intro c8), if_pos (Or.inl c23)]
      refine r_arr K (f2 := chE (eWinter r x n t v p) rf (nof rf (eWinter r x n t v p))) (ws1 := [go h b rm hi, ydW Γ (b 0) an r, eO (b 3) 3 [.ref (b 0), .ref (b 8), .ref (b 9), .int sd], ydW Γ (b 8) am mi, eI Γ (b 9) 7 dw, eI Γ (b 7) 7 (chE (eWinter r x n t v p) rf (nof rf (eWinter r x n t v p)))]) 5 rfl (fun _ _ => by rw [ch_n (g := nof rf) he (by decide)]) rfl ?_
      exact hR (mi, dw) dX6_winter_47 (trivial) (e_rl (exL_n he (by decide))) (weq.rf)
    · refine r_iload K dX6_winter_26 4 rfl ?_
      refine r_if_lt K dX6_winter_28 (fun c28 => ?_) (fun c28 => ?_)
      · refine r_ldc2 K dX6_winter_36 q628 ?_
        refine r_aload_n K dX6_winter_39 0 rfl ?_
        refine r_bipush K dX6_winter_40 ((-4)) (by decide) ?_
        refine r_cVd K dX6_winter_42 (c_X6_refuse l Γ h b rm hi rf (-4) (okR_4)) mX6_refuse q149 rfl (by decide) rfl rfl 6 rfl [0, 5] [1, 2, 3, 4] rfl rfl [ydW Γ (b 0) an r, eO (b 3) 3 [.ref (b 0), .ref (b 8), .ref (b 9), .int sd], ydW Γ (b 8) am mi, eI Γ (b 9) 7 dw] rfl [go h b rm hi, ydW Γ (b 0) an r, eO (b 3) 3 [.ref (b 0), .ref (b 8), .ref (b 9), .int sd], ydW Γ (b 8) am mi, eI Γ (b 9) 7 dw, eI Γ (b 7) 7 (nof rf (-4))] rfl rfl rfl [.long ((4000000000000000000) : Int64)] rfl (Nat.le_of_ble_eq_true rfl) ?_
        refine r_i2l K dX6_winter_45 ?_
        refine r_lsub K dX6_winter_46 ?_
        have he : eWinter r x n t v p = (-4) := by
          unfold eWinter
          rw [if_neg (not_not_intro c8), if_pos (Or.inr (Or.inl c28))]
        refine r_arr K (f2 := chE (eWinter r x n t v p) rf (nof rf (eWinter r x n t v p))) (ws1 := [go h b rm hi, ydW Γ (b 0) an r, eO (b 3) 3 [.ref (b 0), .ref (b 8), .ref (b 9), .int sd], ydW Γ (b 8) am mi, eI Γ (b 9) 7 dw, eI Γ (b 7) 7 (chE (eWinter r x n t v p) rf (nof rf (eWinter r x n t v p)))]) 5 rfl (fun _ _ => by rw [ch_n (g := nof rf) he (by decide)]) rfl ?_
        exact hR (mi, dw) dX6_winter_47 (trivial) (e_rl (exL_n he (by decide))) (weq.rf)
      · refine r_iload_n K dX6_winter_31 3 rfl ?_
        refine r_iconst K dX6_winter_32 (nI 2) (by decide) ?_
        refine r_ic_ge K dX6_winter_33 (fun c33 => ?_) (fun c33 => ?_)
        · refine r_iload_n K dX6_winter_48 2 rfl ?_
          refine r_bipush K dX6_winter_49 (nI 7) (by decide) ?_
          refine r_ic_gt K dX6_winter_51 (fun c51 => ?_) (fun c51 => ?_)
          · refine r_ldc2 K dX6_winter_67 q628 ?_
            refine r_aload_n K dX6_winter_70 0 rfl ?_
            refine r_bipush K dX6_winter_71 ((-6)) (by decide) ?_
            refine r_cVd K dX6_winter_73 (c_X6_refuse l Γ h b rm hi rf (-6) (okR_6)) mX6_refuse q149 rfl (by decide) rfl rfl 6 rfl [0, 5] [1, 2, 3, 4] rfl rfl [ydW Γ (b 0) an r, eO (b 3) 3 [.ref (b 0), .ref (b 8), .ref (b 9), .int sd], ydW Γ (b 8) am mi, eI Γ (b 9) 7 dw] rfl [go h b rm hi, ydW Γ (b 0) an r, eO (b 3) 3 [.ref (b 0), .ref (b 8), .ref (b 9), .int sd], ydW Γ (b 8) am mi, eI Γ (b 9) 7 dw, eI Γ (b 7) 7 (nof rf (-6))] rfl rfl rfl [.long ((4000000000000000000) : Int64)] rfl (Nat.le_of_ble_eq_true rfl) ?_
            refine r_i2l K dX6_winter_76 ?_
            refine r_lsub K dX6_winter_77 ?_
            have he : eWinter r x n t v p = (-6) := by
              unfold eWinter
              rw [if_neg (not_not_intro c8), if_neg (fun z => z.elim c23 (fun z => z.elim c28 (fun z => absurd z (Int32.not_lt.mpr c33)))), if_pos (Or.inl c51)]
            refine r_arr K (f2 := chE (eWinter r x n t v p) rf (nof rf (eWinter r x n t v p))) (ws1 := [go h b rm hi, ydW Γ (b 0) an r, eO (b 3) 3 [.ref (b 0), .ref (b 8), .ref (b 9), .int sd], ydW Γ (b 8) am mi, eI Γ (b 9) 7 dw, eI Γ (b 7) 7 (chE (eWinter r x n t v p) rf (nof rf (eWinter r x n t v p)))]) 5 rfl (fun _ _ => by rw [ch_n (g := nof rf) he (by decide)]) rfl ?_
            exact hR (mi, dw) dX6_winter_78 (trivial) (e_rl (exL_n he (by decide))) (weq.rf)
          · refine r_iload_n K dX6_winter_54 3 rfl ?_
            refine r_bipush K dX6_winter_55 (nI 20) (by decide) ?_
            refine r_ic_gt K dX6_winter_57 (fun c57 => ?_) (fun c57 => ?_)
            · refine r_ldc2 K dX6_winter_67 q628 ?_
              refine r_aload_n K dX6_winter_70 0 rfl ?_
              refine r_bipush K dX6_winter_71 ((-6)) (by decide) ?_
              refine r_cVd K dX6_winter_73 (c_X6_refuse l Γ h b rm hi rf (-6) (okR_6)) mX6_refuse q149 rfl (by decide) rfl rfl 6 rfl [0, 5] [1, 2, 3, 4] rfl rfl [ydW Γ (b 0) an r, eO (b 3) 3 [.ref (b 0), .ref (b 8), .ref (b 9), .int sd], ydW Γ (b 8) am mi, eI Γ (b 9) 7 dw] rfl [go h b rm hi, ydW Γ (b 0) an r, eO (b 3) 3 [.ref (b 0), .ref (b 8), .ref (b 9), .int sd], ydW Γ (b 8) am mi, eI Γ (b 9) 7 dw, eI Γ (b 7) 7 (nof rf (-6))] rfl rfl rfl [.long ((4000000000000000000) : Int64)] rfl (Nat.le_of_ble_eq_true rfl) ?_
              refine r_i2l K dX6_winter_76 ?_
              refine r_lsub K dX6_winter_77 ?_
              have he : eWinter r x n t v p = (-6) := by
                unfold eWinter
                rw [if_neg (not_not_intro c8), if_neg (fun z => z.elim c23 (fun z => z.elim c28 (fun z => absurd z (Int32.not_lt.mpr c33)))), if_pos (Or.inr (Or.inl c57))]
              refine r_arr K (f2 := chE (eWinter r x n t v p) rf (nof rf (eWinter r x n t v p))) (ws1 := [go h b rm hi, ydW Γ (b 0) an r, eO (b 3) 3 [.ref (b 0), .ref (b 8), .ref (b 9), .int sd], ydW Γ (b 8) am mi, eI Γ (b 9) 7 dw, eI Γ (b 7) 7 (chE (eWinter r x n t v p) rf (nof rf (eWinter r x n t v p)))]) 5 rfl (fun _ _ => by rw [ch_n (g := nof rf) he (by decide)]) rfl ?_
              exact hR (mi, dw) dX6_winter_78 (trivial) (e_rl (exL_n he (by decide))) (weq.rf)
            · refine r_iload K dX6_winter_60 4 rfl ?_
              refine r_bipush K dX6_winter_62 (nI 99) (by decide) ?_
              refine r_ic_le K dX6_winter_64 (fun c64 => ?_) (fun c64 => ?_)
              · refine r_iload K dX6_winter_79 5 rfl ?_
                refine r_if_lt K dX6_winter_81 (fun c81 => ?_) (fun c81 => ?_)
                · have hb : isInB p (nI 0) (nI 1) = false := isInB_f1 c81
                  refine r_ldc2 K dX6_winter_90 q628 ?_
                  refine r_aload_n K dX6_winter_93 0 rfl ?_
                  refine r_bipush K dX6_winter_94 ((-2)) (by decide) ?_
                  refine r_cVd K dX6_winter_96 (c_X6_refuse l Γ h b rm hi rf (-2) (okR_2)) mX6_refuse q149 rfl (by decide) rfl rfl 6 rfl [0, 5] [1, 2, 3, 4] rfl rfl [ydW Γ (b 0) an r, eO (b 3) 3 [.ref (b 0), .ref (b 8), .ref (b 9), .int sd], ydW Γ (b 8) am mi, eI Γ (b 9) 7 dw] rfl [go h b rm hi, ydW Γ (b 0) an r, eO (b 3) 3 [.ref (b 0), .ref (b 8), .ref (b 9), .int sd], ydW Γ (b 8) am mi, eI Γ (b 9) 7 dw, eI Γ (b 7) 7 (nof rf (-2))] rfl rfl rfl [.long ((4000000000000000000) : Int64)] rfl (Nat.le_of_ble_eq_true rfl) ?_
                  refine r_i2l K dX6_winter_99 ?_
                  refine r_lsub K dX6_winter_100 ?_
                  have he : eWinter r x n t v p = (-2) := by
                    unfold eWinter
                    rw [if_neg (not_not_intro c8), if_neg (fun z => z.elim c23 (fun z => z.elim c28 (fun z => absurd z (Int32.not_lt.mpr c33)))), if_neg (fun z => z.elim c51 (fun z => z.elim c57 (fun z => absurd z (Int32.not_lt.mpr c64)))), if_pos (nt hb)]
                  refine r_arr K (f2 := chE (eWinter r x n t v p) rf (nof rf (eWinter r x n t v p))) (ws1 := [go h b rm hi, ydW Γ (b 0) an r, eO (b 3) 3 [.ref (b 0), .ref (b 8), .ref (b 9), .int sd], ydW Γ (b 8) am mi, eI Γ (b 9) 7 dw, eI Γ (b 7) 7 (chE (eWinter r x n t v p) rf (nof rf (eWinter r x n t v p)))]) 5 rfl (fun _ _ => by rw [ch_n (g := nof rf) he (by decide)]) rfl ?_
                  exact hR (mi, dw) dX6_winter_101 (trivial) (e_rl (exL_n he (by decide))) (weq.rf)
                · refine r_iload K dX6_winter_84 5 rfl ?_
                  refine r_iconst K dX6_winter_86 (nI 1) (by decide) ?_
                  refine r_ic_le K dX6_winter_87 (fun c87 => ?_) (fun c87 => ?_)
                  · have hb : isInB p (nI 0) (nI 1) = true := isInB_t c81 (Int32.not_lt.mpr c87)
                    have hp := isInB_ok (lo := 0) (hi := 1) (by decide) (by decide) hb
                    have lp := hp.2
                    have hn := nlt0 (hi := 7) (by decide) c23 c51
                    have ln := hn.2
                    have ht := isInB_ok (lo := 2) (hi := 20) (by decide) (by decide) (isInB_t (Int32.not_lt.mpr c33) c57)
                    have lt2 := ht.2
                    refine r_lc (lv1 := [(0, .ref h), (1, .int (nI (ix x))), (2, .int (nI (ix n))), (3, .int t), (4, .int v), (5, .int p)]) (congrArg (fun zz : Int32 => ([(0, .ref h), (1, .int (nI (ix x))), (2, .int zz), (3, .int t), (4, .int v), (5, .int p)] : List (Nat × Value))) (hn.1)) ?_
                    refine r_lc (lv1 := [(0, .ref h), (1, .int (nI (ix x))), (2, .int (nI (ix n))), (3, .int (nI (ix t))), (4, .int v), (5, .int p)]) (congrArg (fun zz : Int32 => ([(0, .ref h), (1, .int (nI (ix x))), (2, .int (nI (ix n))), (3, .int zz), (4, .int v), (5, .int p)] : List (Nat × Value))) (ht.1)) ?_
                    refine r_aload_n K dX6_winter_102 0 rfl ?_
                    refine r_get K dX6_winter_103 (kf := 3) 0 rfl rfl hinX6 (by decide) q117 rfl rfl ?_
                    refine r_iload_n K dX6_winter_106 1 rfl ?_
                    refine r_iload_n K dX6_winter_107 2 rfl ?_
                    refine r_iload_n K dX6_winter_108 3 rfl ?_
                    refine r_iload K dX6_winter_109 4 rfl ?_
                    refine r_cV K dX6_winter_111 (c_X5_waysToBeDeeper l Γ (b 3) (b 0) (b 8) (b 9) sd an am r mi (ix x) (ix n) (ix t) v dw (hI) (by first | omega | (simp only [daysS_nM, daysS_nG, dayS_nM, dayS_nG, tellS_nM, tellS_nG, aloneTo_nM, aloneTo_nG, nM_M, nG_M, nM_G, nG_G, lv_nM, lv_nG, gnT_nM, gnT_nG] <;> omega)) (by first | assumption | omega) (lt2.1) (lt2.2)) mX5_waysToBeDeeper q642 rfl (by decide) rfl rfl 6 rfl [2, 1, 3, 4] [0, 5] rfl rfl [go h b rm hi, eI Γ (b 7) 7 rf] rfl (fun u => [go h b rm hi, ydW Γ (b 0) an r, eO (b 3) 3 [.ref (b 0), .ref (b 8), .ref (b 9), .int sd], ydW Γ (b 8) am u.1, eI Γ (b 9) 7 u.2, eI Γ (b 7) 7 rf]) (fun _ => rfl) (fun _ => rfl) (fun _ => rfl) [] rfl (Nat.le_of_ble_eq_true rfl) (fun u1 hu2 => ?_)
                    show V 114 _ [.long (lN (wyF r (ix x) (ix n) (ix t) v (2 ^ (ix n))))] [go h b rm hi, ydW Γ (b 0) an r, eO (b 3) 3 [.ref (b 0), .ref (b 8), .ref (b 9), .int sd], ydW Γ (b 8) am u1.1, eI Γ (b 9) 7 u1.2, eI Γ (b 7) 7 rf]
                    refine r_lstore K dX6_winter_114 (by decide) (lv1 := [(6, .long (lN (wyF r (ix x) (ix n) (ix t) v (2 ^ (ix n))))), (0, .ref h), (1, .int (nI (ix x))), (2, .int (nI (ix n))), (3, .int (nI (ix t))), (4, .int v), (5, .int p)]) rfl ?_
                    refine r_lload K dX6_winter_116 0 rfl ?_
                    refine r_iload_n K dX6_winter_118 4 rfl ?_
                    refine r_i2l K dX6_winter_119 ?_
                    refine r_topL (y := lN (ix t)) (nI_l (by omega)) ?_
                    refine r_iload_n K dX6_winter_120 3 rfl ?_
                    refine r_cSd K dX6_winter_121 (c_X1_power l Γ (ix t) (ix n) (by omega)) mX1_power q657 rfl (by decide) 6 rfl [] [0, 1, 2, 3, 4, 5] rfl rfl [go h b rm hi, ydW Γ (b 0) an r, eO (b 3) 3 [.ref (b 0), .ref (b 8), .ref (b 9), .int sd], ydW Γ (b 8) am u1.1, eI Γ (b 9) 7 u1.2, eI Γ (b 7) 7 rf] rfl [go h b rm hi, ydW Γ (b 0) an r, eO (b 3) 3 [.ref (b 0), .ref (b 8), .ref (b 9), .int sd], ydW Γ (b 8) am u1.1, eI Γ (b 9) 7 u1.2, eI Γ (b 7) 7 rf] rfl rfl rfl [.long (lN (wyF r (ix x) (ix n) (ix t) v (2 ^ (ix n))))] rfl (Nat.le_of_ble_eq_true rfl) ?_
                    refine r_iload K dX6_winter_124 6 rfl ?_
                    refine r_cSd K dX6_winter_126 (c_X1_told l Γ (wyF r (ix x) (ix n) (ix t) v (2 ^ (ix n))) (powS (ix t) (ix n)) p (wyF_lt lt2.2 ln) (powS_lt lt2.2 ln)) mX1_told q629 rfl (by decide) 6 rfl [] [0, 1, 2, 3, 4, 5] rfl rfl [go h b rm hi, ydW Γ (b 0) an r, eO (b 3) 3 [.ref (b 0), .ref (b 8), .ref (b 9), .int sd], ydW Γ (b 8) am u1.1, eI Γ (b 9) 7 u1.2, eI Γ (b 7) 7 rf] rfl [go h b rm hi, ydW Γ (b 0) an r, eO (b 3) 3 [.ref (b 0), .ref (b 8), .ref (b 9), .int sd], ydW Γ (b 8) am u1.1, eI Γ (b 9) 7 u1.2, eI Γ (b 7) 7 rf] rfl rfl rfl [] rfl (Nat.le_of_ble_eq_true rfl) ?_
                    have he : eWinter r x n t v p = 0 := by
                      unfold eWinter
                      rw [if_neg (not_not_intro c8), if_neg (fun z => z.elim c23 (fun z => z.elim c28 (fun z => absurd z (Int32.not_lt.mpr c33)))), if_neg (fun z => z.elim c51 (fun z => z.elim c57 (fun z => absurd z (Int32.not_lt.mpr c64)))), if_neg (not_not_intro hb)]
                    refine r_arr K (f2 := chE (eWinter r x n t v p) rf (nof rf (eWinter r x n t v p))) (ws1 := [go h b rm hi, ydW Γ (b 0) an r, eO (b 3) 3 [.ref (b 0), .ref (b 8), .ref (b 9), .int sd], ydW Γ (b 8) am u1.1, eI Γ (b 9) 7 u1.2, eI Γ (b 7) 7 (chE (eWinter r x n t v p) rf (nof rf (eWinter r x n t v p)))]) 5 rfl (fun _ _ => by rw [chE_0 he]) rfl ?_
                    exact hR (u1.1, u1.2) dX6_winter_129 (trivial) (e_rl (exL_0 he (rfl))) (weq.rf)
                  · have hb : isInB p (nI 0) (nI 1) = false := isInB_f2 (Int32.not_le.mp c87)
                    refine r_ldc2 K dX6_winter_90 q628 ?_
                    refine r_aload_n K dX6_winter_93 0 rfl ?_
                    refine r_bipush K dX6_winter_94 ((-2)) (by decide) ?_
                    refine r_cVd K dX6_winter_96 (c_X6_refuse l Γ h b rm hi rf (-2) (okR_2)) mX6_refuse q149 rfl (by decide) rfl rfl 6 rfl [0, 5] [1, 2, 3, 4] rfl rfl [ydW Γ (b 0) an r, eO (b 3) 3 [.ref (b 0), .ref (b 8), .ref (b 9), .int sd], ydW Γ (b 8) am mi, eI Γ (b 9) 7 dw] rfl [go h b rm hi, ydW Γ (b 0) an r, eO (b 3) 3 [.ref (b 0), .ref (b 8), .ref (b 9), .int sd], ydW Γ (b 8) am mi, eI Γ (b 9) 7 dw, eI Γ (b 7) 7 (nof rf (-2))] rfl rfl rfl [.long ((4000000000000000000) : Int64)] rfl (Nat.le_of_ble_eq_true rfl) ?_
                    refine r_i2l K dX6_winter_99 ?_
                    refine r_lsub K dX6_winter_100 ?_
                    have he : eWinter r x n t v p = (-2) := by
                      unfold eWinter
                      rw [if_neg (not_not_intro c8), if_neg (fun z => z.elim c23 (fun z => z.elim c28 (fun z => absurd z (Int32.not_lt.mpr c33)))), if_neg (fun z => z.elim c51 (fun z => z.elim c57 (fun z => absurd z (Int32.not_lt.mpr c64)))), if_pos (nt hb)]
                    refine r_arr K (f2 := chE (eWinter r x n t v p) rf (nof rf (eWinter r x n t v p))) (ws1 := [go h b rm hi, ydW Γ (b 0) an r, eO (b 3) 3 [.ref (b 0), .ref (b 8), .ref (b 9), .int sd], ydW Γ (b 8) am mi, eI Γ (b 9) 7 dw, eI Γ (b 7) 7 (chE (eWinter r x n t v p) rf (nof rf (eWinter r x n t v p)))]) 5 rfl (fun _ _ => by rw [ch_n (g := nof rf) he (by decide)]) rfl ?_
                    exact hR (mi, dw) dX6_winter_101 (trivial) (e_rl (exL_n he (by decide))) (weq.rf)
              · refine r_ldc2 K dX6_winter_67 q628 ?_
                refine r_aload_n K dX6_winter_70 0 rfl ?_
                refine r_bipush K dX6_winter_71 ((-6)) (by decide) ?_
                refine r_cVd K dX6_winter_73 (c_X6_refuse l Γ h b rm hi rf (-6) (okR_6)) mX6_refuse q149 rfl (by decide) rfl rfl 6 rfl [0, 5] [1, 2, 3, 4] rfl rfl [ydW Γ (b 0) an r, eO (b 3) 3 [.ref (b 0), .ref (b 8), .ref (b 9), .int sd], ydW Γ (b 8) am mi, eI Γ (b 9) 7 dw] rfl [go h b rm hi, ydW Γ (b 0) an r, eO (b 3) 3 [.ref (b 0), .ref (b 8), .ref (b 9), .int sd], ydW Γ (b 8) am mi, eI Γ (b 9) 7 dw, eI Γ (b 7) 7 (nof rf (-6))] rfl rfl rfl [.long ((4000000000000000000) : Int64)] rfl (Nat.le_of_ble_eq_true rfl) ?_
                refine r_i2l K dX6_winter_76 ?_
                refine r_lsub K dX6_winter_77 ?_
                have he : eWinter r x n t v p = (-6) := by
                  unfold eWinter
                  rw [if_neg (not_not_intro c8), if_neg (fun z => z.elim c23 (fun z => z.elim c28 (fun z => absurd z (Int32.not_lt.mpr c33)))), if_pos (Or.inr (Or.inr (Int32.not_le.mp c64)))]
                refine r_arr K (f2 := chE (eWinter r x n t v p) rf (nof rf (eWinter r x n t v p))) (ws1 := [go h b rm hi, ydW Γ (b 0) an r, eO (b 3) 3 [.ref (b 0), .ref (b 8), .ref (b 9), .int sd], ydW Γ (b 8) am mi, eI Γ (b 9) 7 dw, eI Γ (b 7) 7 (chE (eWinter r x n t v p) rf (nof rf (eWinter r x n t v p)))]) 5 rfl (fun _ _ => by rw [ch_n (g := nof rf) he (by decide)]) rfl ?_
                exact hR (mi, dw) dX6_winter_78 (trivial) (e_rl (exL_n he (by decide))) (weq.rf)
        · refine r_ldc2 K dX6_winter_36 q628 ?_
          refine r_aload_n K dX6_winter_39 0 rfl ?_
          refine r_bipush K dX6_winter_40 ((-4)) (by decide) ?_
          refine r_cVd K dX6_winter_42 (c_X6_refuse l Γ h b rm hi rf (-4) (okR_4)) mX6_refuse q149 rfl (by decide) rfl rfl 6 rfl [0, 5] [1, 2, 3, 4] rfl rfl [ydW Γ (b 0) an r, eO (b 3) 3 [.ref (b 0), .ref (b 8), .ref (b 9), .int sd], ydW Γ (b 8) am mi, eI Γ (b 9) 7 dw] rfl [go h b rm hi, ydW Γ (b 0) an r, eO (b 3) 3 [.ref (b 0), .ref (b 8), .ref (b 9), .int sd], ydW Γ (b 8) am mi, eI Γ (b 9) 7 dw, eI Γ (b 7) 7 (nof rf (-4))] rfl rfl rfl [.long ((4000000000000000000) : Int64)] rfl (Nat.le_of_ble_eq_true rfl) ?_
          refine r_i2l K dX6_winter_45 ?_
          refine r_lsub K dX6_winter_46 ?_
          have he : eWinter r x n t v p = (-4) := by
            unfold eWinter
            rw [if_neg (not_not_intro c8), if_pos (Or.inr (Or.inr (Int32.not_le.mp c33)))]
          refine r_arr K (f2 := chE (eWinter r x n t v p) rf (nof rf (eWinter r x n t v p))) (ws1 := [go h b rm hi, ydW Γ (b 0) an r, eO (b 3) 3 [.ref (b 0), .ref (b 8), .ref (b 9), .int sd], ydW Γ (b 8) am mi, eI Γ (b 9) 7 dw, eI Γ (b 7) 7 (chE (eWinter r x n t v p) rf (nof rf (eWinter r x n t v p)))]) 5 rfl (fun _ _ => by rw [ch_n (g := nof rf) he (by decide)]) rfl ?_
          exact hR (mi, dw) dX6_winter_47 (trivial) (e_rl (exL_n he (by decide))) (weq.rf)
  · refine r_ldc2 K dX6_winter_11 q628 ?_
    refine r_aload_n K dX6_winter_14 0 rfl ?_
    refine r_iconst K dX6_winter_15 ((-1)) (by decide) ?_
    refine r_cVd K dX6_winter_16 (c_X6_refuse l Γ h b rm hi rf (-1) (okR_1)) mX6_refuse q149 rfl (by decide) rfl rfl 6 rfl [0, 5] [1, 2, 3, 4] rfl rfl [ydW Γ (b 0) an r, eO (b 3) 3 [.ref (b 0), .ref (b 8), .ref (b 9), .int sd], ydW Γ (b 8) am mi, eI Γ (b 9) 7 dw] rfl [go h b rm hi, ydW Γ (b 0) an r, eO (b 3) 3 [.ref (b 0), .ref (b 8), .ref (b 9), .int sd], ydW Γ (b 8) am mi, eI Γ (b 9) 7 dw, eI Γ (b 7) 7 (nof rf (-1))] rfl rfl rfl [.long ((4000000000000000000) : Int64)] rfl (Nat.le_of_ble_eq_true rfl) ?_
    refine r_i2l K dX6_winter_19 ?_
    refine r_lsub K dX6_winter_20 ?_
    have he : eWinter r x n t v p = (-1) := by
      unfold eWinter
      rw [if_pos (nt c8)]
    refine r_arr K (f2 := chE (eWinter r x n t v p) rf (nof rf (eWinter r x n t v p))) (ws1 := [go h b rm hi, ydW Γ (b 0) an r, eO (b 3) 3 [.ref (b 0), .ref (b 8), .ref (b 9), .int sd], ydW Γ (b 8) am mi, eI Γ (b 9) 7 dw, eI Γ (b 7) 7 (chE (eWinter r x n t v p) rf (nof rf (eWinter r x n t v p)))]) 5 rfl (fun _ _ => by rw [ch_n (g := nof rf) he (by decide)]) rfl ?_
    exact hR (mi, dw) dX6_winter_21 (trivial) (e_rl (exL_n he (by decide))) (weq.rf)
set_option maxHeartbeats 1000000 in
set_option maxRecDepth 20000 in
theorem c_X6_mean (l : Launch) (Γ : eG) (h : Nat) (b : Nat → Nat) (rm : Nat) (hi : Bool) (an : Nat → Nat) (r : Nat → Int32) (rf : Nat → Int32) (p : Int32) (hI : Inv r) : cD l Γ yX6_mean cX6_mean 2 (some .long) 2 [.ref h, .int p] [go h b rm hi, ydW Γ (b 0) an r, eI Γ (b 7) 7 rf] (some (.long (chE (eIs p (nI 0) (nI 1)) (aMean r p) (4000000000000000000 - (eIs p (nI 0) (nI 1)).toInt64)))) [go h b rm hi, ydW Γ (b 0) an r, eI Γ (b 7) 7 (chE (eIs p (nI 0) (nI 1)) rf (nof rf (eIs p (nI 0) (nI 1))))] := by
  refine e_long [(0, .ref h), (1, .int p)] (by decide +kernel) (Nat.le_of_ble_eq_true rfl) rfl (fun V K hR => ?_)
  have h5 := hI.g
  have h6 := hI.m
  refine r_iload_n K dX6_mean_0 1 rfl ?_
  refine r_if_lt K dX6_mean_1 (fun c1 => ?_) (fun c1 => ?_)
  · have hb : isInB p (nI 0) (nI 1) = false := isInB_f1 c1
    refine r_ldc2 K dX6_mean_9 q628 ?_
    refine r_aload_n K dX6_mean_12 0 rfl ?_
    refine r_bipush K dX6_mean_13 ((-2)) (by decide) ?_
    refine r_cVd K dX6_mean_15 (c_X6_refuse l Γ h b rm hi rf (-2) (okR_2)) mX6_refuse q149 rfl (by decide) rfl rfl 3 rfl [0, 2] [1] rfl rfl [ydW Γ (b 0) an r] rfl [go h b rm hi, ydW Γ (b 0) an r, eI Γ (b 7) 7 (nof rf (-2))] rfl rfl rfl [.long ((4000000000000000000) : Int64)] rfl (Nat.le_of_ble_eq_true rfl) ?_
    refine r_i2l K dX6_mean_18 ?_
    refine r_lsub K dX6_mean_19 ?_
    have he : eIs p (nI 0) (nI 1) = (-2) := by
      unfold eIs
      rw [if_pos (nt hb)]
    refine r_arr K (f2 := chE (eIs p (nI 0) (nI 1)) rf (nof rf (eIs p (nI 0) (nI 1)))) (ws1 := [go h b rm hi, ydW Γ (b 0) an r, eI Γ (b 7) 7 (chE (eIs p (nI 0) (nI 1)) rf (nof rf (eIs p (nI 0) (nI 1))))]) 2 rfl (fun _ _ => by rw [ch_n (g := nof rf) he (by decide)]) rfl ?_
    exact hR () dX6_mean_20 (trivial) (e_rl (exL_n he (by decide))) (weq.rf)
  · refine r_iload_n K dX6_mean_4 1 rfl ?_
    refine r_iconst K dX6_mean_5 (nI 1) (by decide) ?_
    refine r_ic_le K dX6_mean_6 (fun c6 => ?_) (fun c6 => ?_)
    · have hb : isInB p (nI 0) (nI 1) = true := isInB_t c1 (Int32.not_lt.mpr c6)
      have hp := isInB_ok (lo := 0) (hi := 1) (by decide) (by decide) hb
      have lp := hp.2
      refine r_aload_n K dX6_mean_21 0 rfl ?_
      refine r_get K dX6_mean_22 (kf := 0) 0 rfl rfl hinX6 (by decide) q114 rfl rfl ?_
      refine r_cVd K dX6_mean_25 (c_X0_allInchesS l Γ (b 0) an r (hI)) mX0_allInches q662 rfl (by decide) rfl rfl 3 rfl [1] [0, 2] rfl rfl [go h b rm hi, eI Γ (b 7) 7 rf] rfl [go h b rm hi, ydW Γ (b 0) an r, eI Γ (b 7) 7 rf] rfl rfl rfl [] rfl (Nat.le_of_ble_eq_true rfl) ?_
      obtain ⟨ii, hii, eii⟩ := incS_ok hI
      refine r_top (y := nI ii) (eii) ?_
      refine r_i2l K dX6_mean_28 ?_
      refine r_topL (y := lN ii) (nI_l (by omega)) ?_
      refine r_aload_n K dX6_mean_29 0 rfl ?_
      refine r_get K dX6_mean_30 (kf := 0) 0 rfl rfl hinX6 (by decide) q114 rfl rfl ?_
      refine r_cVd K dX6_mean_33 (c_X0_graveCount l Γ (b 0) an r (hI)) mX0_graveCount q475 rfl (by decide) rfl rfl 3 rfl [1] [0, 2] rfl rfl [go h b rm hi, eI Γ (b 7) 7 rf] rfl [go h b rm hi, ydW Γ (b 0) an r, eI Γ (b 7) 7 rf] rfl rfl rfl [.long (lN ii)] rfl (Nat.le_of_ble_eq_true rfl) ?_
      refine r_i2l K dX6_mean_36 ?_
      refine r_topL (y := lN (nG r)) (nI_l (by omega)) ?_
      refine r_iload_n K dX6_mean_37 1 rfl ?_
      refine r_cSd K dX6_mean_38 (c_X1_told l Γ ii (nG r) p (by omega) (by omega)) mX1_told q629 rfl (by decide) 3 rfl [] [0, 1, 2] rfl rfl [go h b rm hi, ydW Γ (b 0) an r, eI Γ (b 7) 7 rf] rfl [go h b rm hi, ydW Γ (b 0) an r, eI Γ (b 7) 7 rf] rfl rfl rfl [] rfl (Nat.le_of_ble_eq_true rfl) ?_
      have he : eIs p (nI 0) (nI 1) = 0 := by
        unfold eIs
        rw [if_neg (not_not_intro hb)]
      refine r_arr K (f2 := chE (eIs p (nI 0) (nI 1)) rf (nof rf (eIs p (nI 0) (nI 1)))) (ws1 := [go h b rm hi, ydW Γ (b 0) an r, eI Γ (b 7) 7 (chE (eIs p (nI 0) (nI 1)) rf (nof rf (eIs p (nI 0) (nI 1))))]) 2 rfl (fun _ _ => by rw [chE_0 he]) rfl ?_
      exact hR () dX6_mean_41 (trivial) (e_rl (exL_0 he (by unfold aMean; rw [eii, ix_nI (by omega)]))) (weq.rf)
    · have hb : isInB p (nI 0) (nI 1) = false := isInB_f2 (Int32.not_le.mp c6)
      refine r_ldc2 K dX6_mean_9 q628 ?_
      refine r_aload_n K dX6_mean_12 0 rfl ?_
      refine r_bipush K dX6_mean_13 ((-2)) (by decide) ?_
      refine r_cVd K dX6_mean_15 (c_X6_refuse l Γ h b rm hi rf (-2) (okR_2)) mX6_refuse q149 rfl (by decide) rfl rfl 3 rfl [0, 2] [1] rfl rfl [ydW Γ (b 0) an r] rfl [go h b rm hi, ydW Γ (b 0) an r, eI Γ (b 7) 7 (nof rf (-2))] rfl rfl rfl [.long ((4000000000000000000) : Int64)] rfl (Nat.le_of_ble_eq_true rfl) ?_
      refine r_i2l K dX6_mean_18 ?_
      refine r_lsub K dX6_mean_19 ?_
      have he : eIs p (nI 0) (nI 1) = (-2) := by
        unfold eIs
        rw [if_pos (nt hb)]
      refine r_arr K (f2 := chE (eIs p (nI 0) (nI 1)) rf (nof rf (eIs p (nI 0) (nI 1)))) (ws1 := [go h b rm hi, ydW Γ (b 0) an r, eI Γ (b 7) 7 (chE (eIs p (nI 0) (nI 1)) rf (nof rf (eIs p (nI 0) (nI 1))))]) 2 rfl (fun _ _ => by rw [ch_n (g := nof rf) he (by decide)]) rfl ?_
      exact hR () dX6_mean_20 (trivial) (e_rl (exL_n he (by decide))) (weq.rf)
set_option maxHeartbeats 1000000 in
set_option maxRecDepth 20000 in
theorem c_X6_whoWept (l : Launch) (Γ : eG) (h : Nat) (b : Nat → Nat) (rm : Nat) (hi : Bool) (an : Nat → Nat) (r : Nat → Int32) (sd : Int32) (am : Nat → Nat) (mi : Nat → Int32) (rw : Nat → Int32) (rf : Nat → Int32) (x : Int32) (hI : Inv r) (hr16 : rm ≤ 16) : cE l Γ yX6_whoWept cX6_whoWept 2 (some .int) 5 [.ref h, .int x] [go h b rm hi, ydW Γ (b 0) an r, eO (b 3) 3 [.ref (b 0), .ref (b 8), .ref (b 9), .int sd], ydW Γ (b 8) am mi, eI Γ (b 6) 16 rw, eI Γ (b 7) 7 rf] (S := Nat → Int32) (fun u => True) (fun u => (some (.int (chE (eGr r x) (wwF r (ix x) rw rm (nM r)) (eGr r x))))) (fun u => [go h b rm hi, ydW Γ (b 0) an r, eO (b 3) 3 [.ref (b 0), .ref (b 8), .ref (b 9), .int sd], ydW Γ (b 8) am u, eI Γ (b 6) 16 rw, eI Γ (b 7) 7 (chE (eGr r x) rf (nof rf (eGr r x)))]) := by
  refine e_int [(0, .ref h), (1, .int x)] (by decide +kernel) (Nat.le_of_ble_eq_true rfl) rfl (fun V K hR => ?_)
  have h5 := hI.g
  have h6 := hI.m
  refine r_aload_n K dX6_whoWept_0 0 rfl ?_
  refine r_get K dX6_whoWept_1 (kf := 0) 0 rfl rfl hinX6 (by decide) q114 rfl rfl ?_
  refine r_iload_n K dX6_whoWept_4 1 rfl ?_
  refine r_cVd K dX6_whoWept_5 (c_X0_hasGrave l Γ (b 0) an r x (hI)) mX0_hasGrave q297 rfl (by decide) rfl rfl 6 rfl [1] [0, 2, 3, 4, 5] rfl rfl [go h b rm hi, eO (b 3) 3 [.ref (b 0), .ref (b 8), .ref (b 9), .int sd], ydW Γ (b 8) am mi, eI Γ (b 6) 16 rw, eI Γ (b 7) 7 rf] rfl [go h b rm hi, ydW Γ (b 0) an r, eO (b 3) 3 [.ref (b 0), .ref (b 8), .ref (b 9), .int sd], ydW Γ (b 8) am mi, eI Γ (b 6) 16 rw, eI Γ (b 7) 7 rf] rfl rfl rfl [] rfl (Nat.le_of_ble_eq_true rfl) ?_
  refine r_ifneB K dX6_whoWept_8 (fun c8 => ?_) (fun c8 => ?_)
  · have hx := inN_e c8 (by omega)
    have lx := ix_lt c8 (by omega)
    refine r_lc (lv1 := [(0, .ref h), (1, .int (nI (ix x)))]) (congrArg (fun zz : Int32 => ([(0, .ref h), (1, .int zz)] : List (Nat × Value))) (hx)) ?_
    refine r_aload_n K dX6_whoWept_17 0 rfl ?_
    refine r_get K dX6_whoWept_18 (kf := 3) 0 rfl rfl hinX6 (by decide) q117 rfl rfl ?_
    refine r_iload_n K dX6_whoWept_21 1 rfl ?_
    refine r_aload_n K dX6_whoWept_22 0 rfl ?_
    refine r_get K dX6_whoWept_23 (kf := 6) 0 rfl rfl hinX6 (by decide) q120 rfl rfl ?_
    refine r_aload_n K dX6_whoWept_26 0 rfl ?_
    refine r_get K dX6_whoWept_27 (kf := 8) 0 rfl rfl hinX6 (by decide) q122 rfl rfl ?_
    refine r_cV K dX6_whoWept_30 (c_X5_whoAloneFits l Γ (b 3) (b 0) (b 8) (b 9) sd an am r mi (ix x) rm (b 6) rw (hI) (by first | omega | (simp only [daysS_nM, daysS_nG, dayS_nM, dayS_nG, tellS_nM, tellS_nG, aloneTo_nM, aloneTo_nG, nM_M, nG_M, nM_G, nG_G, lv_nM, lv_nG, gnT_nM, gnT_nG] <;> omega)) (by first | assumption | omega)) mX5_whoAloneFits q667 rfl (by decide) rfl rfl 6 rfl [2, 1, 3, 4] [0, 5] rfl rfl [go h b rm hi, eI Γ (b 7) 7 rf] rfl (fun u => [go h b rm hi, ydW Γ (b 0) an r, eO (b 3) 3 [.ref (b 0), .ref (b 8), .ref (b 9), .int sd], ydW Γ (b 8) am u, eI Γ (b 6) 16 rw, eI Γ (b 7) 7 rf]) (fun _ => rfl) (fun _ => rfl) (fun _ => rfl) [] rfl (Nat.le_of_ble_eq_true rfl) (fun u1 hu2 => ?_)
    show V 33 _ [.int (wwF r (ix x) rw rm (nM r))] [go h b rm hi, ydW Γ (b 0) an r, eO (b 3) 3 [.ref (b 0), .ref (b 8), .ref (b 9), .int sd], ydW Γ (b 8) am u1, eI Γ (b 6) 16 rw, eI Γ (b 7) 7 rf]
    have he : eGr r x = 0 := by
      unfold eGr
      rw [if_neg (not_not_intro c8)]
    refine r_arr K (f2 := chE (eGr r x) rf (nof rf (eGr r x))) (ws1 := [go h b rm hi, ydW Γ (b 0) an r, eO (b 3) 3 [.ref (b 0), .ref (b 8), .ref (b 9), .int sd], ydW Γ (b 8) am u1, eI Γ (b 6) 16 rw, eI Γ (b 7) 7 (chE (eGr r x) rf (nof rf (eGr r x)))]) 5 rfl (fun _ _ => by rw [chE_0 he]) rfl ?_
    exact hR u1 dX6_whoWept_33 (trivial) (e_ri (ex_0 he (rfl))) (weq.rf)
  · refine r_aload_n K dX6_whoWept_11 0 rfl ?_
    refine r_iconst K dX6_whoWept_12 ((-1)) (by decide) ?_
    refine r_cVd K dX6_whoWept_13 (c_X6_refuse l Γ h b rm hi rf (-1) (okR_1)) mX6_refuse q149 rfl (by decide) rfl rfl 6 rfl [0, 5] [1, 2, 3, 4] rfl rfl [ydW Γ (b 0) an r, eO (b 3) 3 [.ref (b 0), .ref (b 8), .ref (b 9), .int sd], ydW Γ (b 8) am mi, eI Γ (b 6) 16 rw] rfl [go h b rm hi, ydW Γ (b 0) an r, eO (b 3) 3 [.ref (b 0), .ref (b 8), .ref (b 9), .int sd], ydW Γ (b 8) am mi, eI Γ (b 6) 16 rw, eI Γ (b 7) 7 (nof rf (-1))] rfl rfl rfl [] rfl (Nat.le_of_ble_eq_true rfl) ?_
    have he : eGr r x = (-1) := by
      unfold eGr
      rw [if_pos (nt c8)]
    refine r_arr K (f2 := chE (eGr r x) rf (nof rf (eGr r x))) (ws1 := [go h b rm hi, ydW Γ (b 0) an r, eO (b 3) 3 [.ref (b 0), .ref (b 8), .ref (b 9), .int sd], ydW Γ (b 8) am mi, eI Γ (b 6) 16 rw, eI Γ (b 7) 7 (chE (eGr r x) rf (nof rf (eGr r x)))]) 5 rfl (fun _ _ => by rw [ch_n (g := nof rf) he (by decide)]) rfl ?_
    exact hR mi dX6_whoWept_16 (trivial) (e_ri (ex_n he (by decide))) (weq.rf)
set_option maxHeartbeats 1000000 in
set_option maxRecDepth 20000 in
theorem c_X6_whatIs (l : Launch) (Γ : eG) (h : Nat) (b : Nat → Nat) (rm : Nat) (hi : Bool) (an : Nat → Nat) (r : Nat → Int32) (sd : Int32) (am : Nat → Nat) (mi : Nat → Int32) (rw : Nat → Int32) (rf : Nat → Int32) (x : Int32) (w : Int32) (hI : Inv r) (hr16 : rm ≤ 16) : cE l Γ yX6_whatIs cX6_whatIs 3 (some .int) 5 [.ref h, .int x, .int w] [go h b rm hi, ydW Γ (b 0) an r, eO (b 3) 3 [.ref (b 0), .ref (b 8), .ref (b 9), .int sd], ydW Γ (b 8) am mi, eI Γ (b 6) 16 rw, eI Γ (b 7) 7 rf] (S := Nat → Int32) (fun u => True) (fun u => (some (.int (chE (eWhatIs r x w) (aWhatIs r rw rm x w) (eWhatIs r x w))))) (fun u => [go h b rm hi, ydW Γ (b 0) an r, eO (b 3) 3 [.ref (b 0), .ref (b 8), .ref (b 9), .int sd], ydW Γ (b 8) am u, eI Γ (b 6) 16 rw, eI Γ (b 7) 7 (chE (eWhatIs r x w) rf (nof rf (eWhatIs r x w)))]) := by
  refine e_int [(0, .ref h), (1, .int x), (2, .int w)] (by decide +kernel) (Nat.le_of_ble_eq_true rfl) rfl (fun V K hR => ?_)
  have h5 := hI.g
  have h6 := hI.m
  refine r_aload_n K dX6_whatIs_0 0 rfl ?_
  refine r_get K dX6_whatIs_1 (kf := 0) 0 rfl rfl hinX6 (by decide) q114 rfl rfl ?_
  refine r_iload_n K dX6_whatIs_4 1 rfl ?_
  refine r_cVd K dX6_whatIs_5 (c_X0_hasMourner l Γ (b 0) an r x (hI)) mX0_hasMourner q347 rfl (by decide) rfl rfl 6 rfl [1] [0, 2, 3, 4, 5] rfl rfl [go h b rm hi, eO (b 3) 3 [.ref (b 0), .ref (b 8), .ref (b 9), .int sd], ydW Γ (b 8) am mi, eI Γ (b 6) 16 rw, eI Γ (b 7) 7 rf] rfl [go h b rm hi, ydW Γ (b 0) an r, eO (b 3) 3 [.ref (b 0), .ref (b 8), .ref (b 9), .int sd], ydW Γ (b 8) am mi, eI Γ (b 6) 16 rw, eI Γ (b 7) 7 rf] rfl rfl rfl [] rfl (Nat.le_of_ble_eq_true rfl) ?_
  refine r_ifneB K dX6_whatIs_8 (fun c8 => ?_) (fun c8 => ?_)
  · have hx := inN_e c8 (by omega)
    have lx := ix_lt c8 (by omega)
    refine r_lc (lv1 := [(0, .ref h), (1, .int (nI (ix x))), (2, .int w)]) (congrArg (fun zz : Int32 => ([(0, .ref h), (1, .int zz), (2, .int w)] : List (Nat × Value))) (hx)) ?_
    refine r_iload_n K dX6_whatIs_17 2 rfl ?_
    refine r_if_lt K dX6_whatIs_18 (fun c18 => ?_) (fun c18 => ?_)
    · have hb : isInB w (nI 0) (nI 1) = false := isInB_f1 c18
      refine r_aload_n K dX6_whatIs_26 0 rfl ?_
      refine r_bipush K dX6_whatIs_27 ((-2)) (by decide) ?_
      refine r_cVd K dX6_whatIs_29 (c_X6_refuse l Γ h b rm hi rf (-2) (okR_2)) mX6_refuse q149 rfl (by decide) rfl rfl 6 rfl [0, 5] [1, 2, 3, 4] rfl rfl [ydW Γ (b 0) an r, eO (b 3) 3 [.ref (b 0), .ref (b 8), .ref (b 9), .int sd], ydW Γ (b 8) am mi, eI Γ (b 6) 16 rw] rfl [go h b rm hi, ydW Γ (b 0) an r, eO (b 3) 3 [.ref (b 0), .ref (b 8), .ref (b 9), .int sd], ydW Γ (b 8) am mi, eI Γ (b 6) 16 rw, eI Γ (b 7) 7 (nof rf (-2))] rfl rfl rfl [] rfl (Nat.le_of_ble_eq_true rfl) ?_
      have he : eWhatIs r x w = (-2) := by
        unfold eWhatIs
        rw [if_neg (not_not_intro c8), if_pos (nt hb)]
      refine r_arr K (f2 := chE (eWhatIs r x w) rf (nof rf (eWhatIs r x w))) (ws1 := [go h b rm hi, ydW Γ (b 0) an r, eO (b 3) 3 [.ref (b 0), .ref (b 8), .ref (b 9), .int sd], ydW Γ (b 8) am mi, eI Γ (b 6) 16 rw, eI Γ (b 7) 7 (chE (eWhatIs r x w) rf (nof rf (eWhatIs r x w)))]) 5 rfl (fun _ _ => by rw [ch_n (g := nof rf) he (by decide)]) rfl ?_
      exact hR mi dX6_whatIs_32 (trivial) (e_ri (ex_n he (by decide))) (weq.rf)
    · refine r_iload_n K dX6_whatIs_21 2 rfl ?_
      refine r_iconst K dX6_whatIs_22 (nI 1) (by decide) ?_
      refine r_ic_le K dX6_whatIs_23 (fun c23 => ?_) (fun c23 => ?_)
      · have hb : isInB w (nI 0) (nI 1) = true := isInB_t c18 (Int32.not_lt.mpr c23)
        have hw := isInB_ok (lo := 0) (hi := 1) (by decide) (by decide) hb
        have lw := hw.2
        refine r_lc (lv1 := [(0, .ref h), (1, .int (nI (ix x))), (2, .int (nI (ix w)))]) (congrArg (fun zz : Int32 => ([(0, .ref h), (1, .int (nI (ix x))), (2, .int zz)] : List (Nat × Value))) (hw.1)) ?_
        refine r_aload_n K dX6_whatIs_33 0 rfl ?_
        refine r_get K dX6_whatIs_34 (kf := 0) 0 rfl rfl hinX6 (by decide) q114 rfl rfl ?_
        refine r_iload_n K dX6_whatIs_37 1 rfl ?_
        refine r_cVd K dX6_whatIs_38 (c_X0_placeOfN l Γ (b 0) an r (ix x) (hI) (by first | omega | (simp only [daysS_nM, daysS_nG, dayS_nM, dayS_nG, tellS_nM, tellS_nG, aloneTo_nM, aloneTo_nG, nM_M, nG_M, nM_G, nG_G, lv_nM, lv_nG, gnT_nM, gnT_nG] <;> omega))) mX0_placeOf q351 rfl (by decide) rfl rfl 6 rfl [1] [0, 2, 3, 4, 5] rfl rfl [go h b rm hi, eO (b 3) 3 [.ref (b 0), .ref (b 8), .ref (b 9), .int sd], ydW Γ (b 8) am mi, eI Γ (b 6) 16 rw, eI Γ (b 7) 7 rf] rfl [go h b rm hi, ydW Γ (b 0) an r, eO (b 3) 3 [.ref (b 0), .ref (b 8), .ref (b 9), .int sd], ydW Γ (b 8) am mi, eI Γ (b 6) 16 rw, eI Γ (b 7) 7 rf] rfl rfl rfl [] rfl (Nat.le_of_ble_eq_true rfl) ?_
        refine r_bipush K dX6_whatIs_41 ((-9)) (by decide) ?_
        refine r_ic_ne K dX6_whatIs_43 (fun c43 => ?_) (fun c43 => ?_)
        · obtain ⟨g, hg, eg⟩ := (hI.pl3 lx).resolve_left c43
          refine r_iload_n K dX6_whatIs_48 2 rfl ?_
          refine r_if_neN K dX6_whatIs_49 (by omega) (fun c49 => ?_) (fun c49 => ?_)
          · refine r_aload_n K dX6_whatIs_71 0 rfl ?_
            refine r_get K dX6_whatIs_72 (kf := 3) 0 rfl rfl hinX6 (by decide) q117 rfl rfl ?_
            refine r_iload_n K dX6_whatIs_75 1 rfl ?_
            refine r_aload_n K dX6_whatIs_76 0 rfl ?_
            refine r_get K dX6_whatIs_77 (kf := 6) 0 rfl rfl hinX6 (by decide) q120 rfl rfl ?_
            refine r_aload_n K dX6_whatIs_80 0 rfl ?_
            refine r_get K dX6_whatIs_81 (kf := 8) 0 rfl rfl hinX6 (by decide) q122 rfl rfl ?_
            refine r_cV K dX6_whatIs_84 (c_X5_figuresThatFit l Γ (b 3) (b 0) (b 8) (b 9) sd an am r mi (ix x) rm g (b 6) rw (hI) (by first | omega | (simp only [daysS_nM, daysS_nG, dayS_nM, dayS_nG, tellS_nM, tellS_nG, aloneTo_nM, aloneTo_nG, nM_M, nG_M, nM_G, nG_G, lv_nM, lv_nG, gnT_nM, gnT_nG] <;> omega)) (by first | omega | (simp only [daysS_nM, daysS_nG, dayS_nM, dayS_nG, tellS_nM, tellS_nG, aloneTo_nM, aloneTo_nG, nM_M, nG_M, nM_G, nG_G, lv_nM, lv_nG, gnT_nM, gnT_nG] <;> omega)) (by first | assumption | omega) (by first | assumption | omega)) mX5_figuresThatFit q684 rfl (by decide) rfl rfl 6 rfl [2, 1, 3, 4] [0, 5] rfl rfl [go h b rm hi, eI Γ (b 7) 7 rf] rfl (fun u => [go h b rm hi, ydW Γ (b 0) an r, eO (b 3) 3 [.ref (b 0), .ref (b 8), .ref (b 9), .int sd], ydW Γ (b 8) am u, eI Γ (b 6) 16 rw, eI Γ (b 7) 7 rf]) (fun _ => rfl) (fun _ => rfl) (fun _ => rfl) [] rfl (Nat.le_of_ble_eq_true rfl) (fun u1 hu2 => ?_)
            show V 87 _ [.int (wiF r (ix x) 1 g rw rm 10)] [go h b rm hi, ydW Γ (b 0) an r, eO (b 3) 3 [.ref (b 0), .ref (b 8), .ref (b 9), .int sd], ydW Γ (b 8) am u1, eI Γ (b 6) 16 rw, eI Γ (b 7) 7 rf]
            have he : eWhatIs r x w = 0 := by
              unfold eWhatIs
              rw [if_neg (not_not_intro c8), if_neg (not_not_intro hb)]
            refine r_arr K (f2 := chE (eWhatIs r x w) rf (nof rf (eWhatIs r x w))) (ws1 := [go h b rm hi, ydW Γ (b 0) an r, eO (b 3) 3 [.ref (b 0), .ref (b 8), .ref (b 9), .int sd], ydW Γ (b 8) am u1, eI Γ (b 6) 16 rw, eI Γ (b 7) 7 (chE (eWhatIs r x w) rf (nof rf (eWhatIs r x w)))]) 5 rfl (fun _ _ => by rw [chE_0 he]) rfl ?_
            exact hR u1 dX6_whatIs_87 (trivial) (e_ri (ex_0 he (by unfold aWhatIs; rw [if_neg c43, if_neg (fun z => c49 (by rw [z]; exact ix_nI (by decide))), eg, ix_nI (by omega)]))) (weq.rf)
          · refine r_aload_n K dX6_whatIs_52 0 rfl ?_
            refine r_get K dX6_whatIs_53 (kf := 3) 0 rfl rfl hinX6 (by decide) q117 rfl rfl ?_
            refine r_iload_n K dX6_whatIs_56 1 rfl ?_
            refine r_aload_n K dX6_whatIs_57 0 rfl ?_
            refine r_get K dX6_whatIs_58 (kf := 6) 0 rfl rfl hinX6 (by decide) q120 rfl rfl ?_
            refine r_aload_n K dX6_whatIs_61 0 rfl ?_
            refine r_get K dX6_whatIs_62 (kf := 8) 0 rfl rfl hinX6 (by decide) q122 rfl rfl ?_
            refine r_cV K dX6_whatIs_65 (c_X5_kindsThatFit l Γ (b 3) (b 0) (b 8) (b 9) sd an am r mi (ix x) rm g (b 6) rw (hI) (by first | omega | (simp only [daysS_nM, daysS_nG, dayS_nM, dayS_nG, tellS_nM, tellS_nG, aloneTo_nM, aloneTo_nG, nM_M, nG_M, nM_G, nG_G, lv_nM, lv_nG, gnT_nM, gnT_nG] <;> omega)) (by first | omega | (simp only [daysS_nM, daysS_nG, dayS_nM, dayS_nG, tellS_nM, tellS_nG, aloneTo_nM, aloneTo_nG, nM_M, nG_M, nM_G, nG_G, lv_nM, lv_nG, gnT_nM, gnT_nG] <;> omega)) (by first | assumption | omega) (by first | assumption | omega)) mX5_kindsThatFit q680 rfl (by decide) rfl rfl 6 rfl [2, 1, 3, 4] [0, 5] rfl rfl [go h b rm hi, eI Γ (b 7) 7 rf] rfl (fun u => [go h b rm hi, ydW Γ (b 0) an r, eO (b 3) 3 [.ref (b 0), .ref (b 8), .ref (b 9), .int sd], ydW Γ (b 8) am u, eI Γ (b 6) 16 rw, eI Γ (b 7) 7 rf]) (fun _ => rfl) (fun _ => rfl) (fun _ => rfl) [] rfl (Nat.le_of_ble_eq_true rfl) (fun u3 hu4 => ?_)
            show V 68 _ [.int (wiF r (ix x) 0 g rw rm 6)] [go h b rm hi, ydW Γ (b 0) an r, eO (b 3) 3 [.ref (b 0), .ref (b 8), .ref (b 9), .int sd], ydW Γ (b 8) am u3, eI Γ (b 6) 16 rw, eI Γ (b 7) 7 rf]
            refine r_goto K dX6_whatIs_68 ?_
            have he : eWhatIs r x w = 0 := by
              unfold eWhatIs
              rw [if_neg (not_not_intro c8), if_neg (not_not_intro hb)]
            refine r_arr K (f2 := chE (eWhatIs r x w) rf (nof rf (eWhatIs r x w))) (ws1 := [go h b rm hi, ydW Γ (b 0) an r, eO (b 3) 3 [.ref (b 0), .ref (b 8), .ref (b 9), .int sd], ydW Γ (b 8) am u3, eI Γ (b 6) 16 rw, eI Γ (b 7) 7 (chE (eWhatIs r x w) rf (nof rf (eWhatIs r x w)))]) 5 rfl (fun _ _ => by rw [chE_0 he]) rfl ?_
            exact hR u3 dX6_whatIs_87 (trivial) (e_ri (ex_0 he (by unfold aWhatIs; rw [if_neg c43, if_pos (show w = nI 0 from by rw [hw.1, c49]), eg, ix_nI (by omega)]))) (weq.rf)
        · refine r_iconst K dX6_whatIs_46 (nI 0) (by decide) ?_
          have he : eWhatIs r x w = 0 := by
            unfold eWhatIs
            rw [if_neg (not_not_intro c8), if_neg (not_not_intro hb)]
          refine r_arr K (f2 := chE (eWhatIs r x w) rf (nof rf (eWhatIs r x w))) (ws1 := [go h b rm hi, ydW Γ (b 0) an r, eO (b 3) 3 [.ref (b 0), .ref (b 8), .ref (b 9), .int sd], ydW Γ (b 8) am mi, eI Γ (b 6) 16 rw, eI Γ (b 7) 7 (chE (eWhatIs r x w) rf (nof rf (eWhatIs r x w)))]) 5 rfl (fun _ _ => by rw [chE_0 he]) rfl ?_
          exact hR mi dX6_whatIs_47 (trivial) (e_ri (ex_0 he (by unfold aWhatIs; rw [if_pos c43]))) (weq.rf)
      · have hb : isInB w (nI 0) (nI 1) = false := isInB_f2 (Int32.not_le.mp c23)
        refine r_aload_n K dX6_whatIs_26 0 rfl ?_
        refine r_bipush K dX6_whatIs_27 ((-2)) (by decide) ?_
        refine r_cVd K dX6_whatIs_29 (c_X6_refuse l Γ h b rm hi rf (-2) (okR_2)) mX6_refuse q149 rfl (by decide) rfl rfl 6 rfl [0, 5] [1, 2, 3, 4] rfl rfl [ydW Γ (b 0) an r, eO (b 3) 3 [.ref (b 0), .ref (b 8), .ref (b 9), .int sd], ydW Γ (b 8) am mi, eI Γ (b 6) 16 rw] rfl [go h b rm hi, ydW Γ (b 0) an r, eO (b 3) 3 [.ref (b 0), .ref (b 8), .ref (b 9), .int sd], ydW Γ (b 8) am mi, eI Γ (b 6) 16 rw, eI Γ (b 7) 7 (nof rf (-2))] rfl rfl rfl [] rfl (Nat.le_of_ble_eq_true rfl) ?_
        have he : eWhatIs r x w = (-2) := by
          unfold eWhatIs
          rw [if_neg (not_not_intro c8), if_pos (nt hb)]
        refine r_arr K (f2 := chE (eWhatIs r x w) rf (nof rf (eWhatIs r x w))) (ws1 := [go h b rm hi, ydW Γ (b 0) an r, eO (b 3) 3 [.ref (b 0), .ref (b 8), .ref (b 9), .int sd], ydW Γ (b 8) am mi, eI Γ (b 6) 16 rw, eI Γ (b 7) 7 (chE (eWhatIs r x w) rf (nof rf (eWhatIs r x w)))]) 5 rfl (fun _ _ => by rw [ch_n (g := nof rf) he (by decide)]) rfl ?_
        exact hR mi dX6_whatIs_32 (trivial) (e_ri (ex_n he (by decide))) (weq.rf)
  · refine r_aload_n K dX6_whatIs_11 0 rfl ?_
    refine r_iconst K dX6_whatIs_12 ((-1)) (by decide) ?_
    refine r_cVd K dX6_whatIs_13 (c_X6_refuse l Γ h b rm hi rf (-1) (okR_1)) mX6_refuse q149 rfl (by decide) rfl rfl 6 rfl [0, 5] [1, 2, 3, 4] rfl rfl [ydW Γ (b 0) an r, eO (b 3) 3 [.ref (b 0), .ref (b 8), .ref (b 9), .int sd], ydW Γ (b 8) am mi, eI Γ (b 6) 16 rw] rfl [go h b rm hi, ydW Γ (b 0) an r, eO (b 3) 3 [.ref (b 0), .ref (b 8), .ref (b 9), .int sd], ydW Γ (b 8) am mi, eI Γ (b 6) 16 rw, eI Γ (b 7) 7 (nof rf (-1))] rfl rfl rfl [] rfl (Nat.le_of_ble_eq_true rfl) ?_
    have he : eWhatIs r x w = (-1) := by
      unfold eWhatIs
      rw [if_pos (nt c8)]
    refine r_arr K (f2 := chE (eWhatIs r x w) rf (nof rf (eWhatIs r x w))) (ws1 := [go h b rm hi, ydW Γ (b 0) an r, eO (b 3) 3 [.ref (b 0), .ref (b 8), .ref (b 9), .int sd], ydW Γ (b 8) am mi, eI Γ (b 6) 16 rw, eI Γ (b 7) 7 (chE (eWhatIs r x w) rf (nof rf (eWhatIs r x w)))]) 5 rfl (fun _ _ => by rw [ch_n (g := nof rf) he (by decide)]) rfl ?_
    exact hR mi dX6_whatIs_16 (trivial) (e_ri (ex_n he (by decide))) (weq.rf)
set_option maxHeartbeats 1000000 in
set_option maxRecDepth 20000 in
theorem c_X6_row (l : Launch) (Γ : eG) (h : Nat) (b : Nat → Nat) (rm : Nat) (hi : Bool) (rw : Nat → Int32) (rf : Nat → Int32) (v : Int32) (hr16 : rm ≤ 16) : cD l Γ yX6_row cX6_row 3 (some .int) 1 [.ref h, .int v] [go h b rm hi, eI Γ (b 6) 16 rw, eI Γ (b 7) 7 rf] (some (.int (chE (eRow rm v) (nI (rm + 1)) (eRow rm v)))) [go h b (chE (eRow rm v) (rm + 1) rm) hi, eI Γ (b 6) 16 (chE (eRow rm v) (upd rw rm v) rw), eI Γ (b 7) 7 (chE (eRow rm v) rf (nof rf (eRow rm v)))] := by
  refine e_int [(0, .ref h), (1, .int v)] (by decide +kernel) (Nat.le_of_ble_eq_true rfl) rfl (fun V K hR => ?_)
  refine r_iload_n K dX6_row_0 1 rfl ?_
  refine r_iconst K dX6_row_1 (nI 0) (by decide) ?_
  refine r_bipush K dX6_row_2 (nI 99) (by decide) ?_
  refine r_cSd K dX6_row_4 (c_X6_faultOfRange l Γ v (nI 0) (nI 99)) mX6_faultOfRange q374 rfl (by decide) 3 rfl [] [0, 1, 2] rfl rfl [go h b rm hi, eI Γ (b 6) 16 rw, eI Γ (b 7) 7 rf] rfl [go h b rm hi, eI Γ (b 6) 16 rw, eI Γ (b 7) 7 rf] rfl rfl rfl [] rfl (Nat.le_of_ble_eq_true rfl) ?_
  refine r_istore_n K dX6_row_7 rfl (by decide) (lv1 := [(2, .int (wrS v (nI 0) (nI 99))), (0, .ref h), (1, .int v)]) rfl ?_
  refine r_iload_n K dX6_row_8 0 rfl ?_
  refine r_if_eq K dX6_row_9 (fun c9 => ?_) (fun c9 => ?_)
  · have hv := wrS_ok (by decide) (by decide) c9
    have lv := hv.2
    refine r_aload_n K dX6_row_18 1 rfl ?_
    refine r_get K dX6_row_19 (kf := 8) 0 rfl rfl hinX6 (by decide) q122 rfl rfl ?_
    refine r_if_ltN K dX6_row_22 (by omega) (fun c22 => ?_) (fun c22 => ?_)
    · exact absurd c22 (by omega)
    · refine r_aload_n K dX6_row_25 1 rfl ?_
      refine r_get K dX6_row_26 (kf := 8) 0 rfl rfl hinX6 (by decide) q122 rfl rfl ?_
      refine r_aload_n K dX6_row_29 1 rfl ?_
      refine r_get K dX6_row_30 (kf := 6) 0 rfl rfl hinX6 (by decide) q120 rfl rfl ?_
      refine r_len K dX6_row_33 1 rfl ?_
      refine r_ic_ltN K dX6_row_34 (by omega) (by omega) (fun c34 => ?_) (fun c34 => ?_)
      · refine r_aload_n K dX6_row_44 1 rfl ?_
        refine r_get K dX6_row_45 (kf := 6) 0 rfl rfl hinX6 (by decide) q120 rfl rfl ?_
        refine r_aload_n K dX6_row_48 1 rfl ?_
        refine r_get K dX6_row_49 (kf := 8) 0 rfl rfl hinX6 (by decide) q122 rfl rfl ?_
        refine r_iload_n K dX6_row_52 2 rfl ?_
        refine r_astN K dX6_row_53 (ws1 := [go h b rm hi, eI Γ (b 6) 16 (upd rw rm v), eI Γ (b 7) 7 rf]) 1 rfl (by first | omega | exact iG_lt (by omega) (by decide) | exact iM_lt (by omega) (by decide)) (by decide) rfl ?_
        refine r_aload_n K dX6_row_54 1 rfl ?_
        refine r_dup K dX6_row_55 rfl ?_
        refine r_get K dX6_row_56 (kf := 8) 0 rfl rfl hinX6 (by decide) q122 rfl rfl ?_
        refine r_iconst K dX6_row_59 (nI 1) (by decide) ?_
        refine r_iaddN K dX6_row_60 ?_
        refine r_put K dX6_row_61 (kf := 8) (ty := .int) (ws1 := [go h b (rm + 1) hi, eI Γ (b 6) 16 (upd rw rm v), eI Γ (b 7) 7 rf]) 0 rfl rfl hinX6 tyX6 tyX6_ok nmX6 (by decide) q122 rfl (by decide +kernel) rfl rfl (Nat.le_of_ble_eq_true rfl) rfl ?_
        refine r_aload_n K dX6_row_64 1 rfl ?_
        refine r_get K dX6_row_65 (kf := 8) 0 rfl rfl hinX6 (by decide) q122 rfl rfl ?_
        have he : eRow rm v = 0 := by
          unfold eRow
          rw [if_neg (not_not_intro c9), if_neg (by omega)]
        refine r_arr K (f2 := chE (eRow rm v) rf (nof rf (eRow rm v))) (ws1 := [go h b (rm + 1) hi, eI Γ (b 6) 16 (upd rw rm v), eI Γ (b 7) 7 (chE (eRow rm v) rf (nof rf (eRow rm v)))]) 2 rfl (fun _ _ => by rw [chE_0 he]) rfl ?_
        refine r_arr K (f2 := chE (eRow rm v) (upd rw rm v) rw) (ws1 := [go h b (rm + 1) hi, eI Γ (b 6) 16 (chE (eRow rm v) (upd rw rm v) rw), eI Γ (b 7) 7 (chE (eRow rm v) rf (nof rf (eRow rm v)))]) 1 rfl (fun _ _ => by rw [chE_0 (a := upd rw rm v) (b := rw) he]) rfl ?_
        refine r_ws K (ws1 := [go h b (chE (eRow rm v) (rm + 1) rm) hi, eI Γ (b 6) 16 (chE (eRow rm v) (upd rw rm v) rw), eI Γ (b 7) 7 (chE (eRow rm v) rf (nof rf (eRow rm v)))]) (by rw [chE_0 (a := rm + 1) (b := rm) he]; exact weq.rf) ?_
        exact hR () dX6_row_68 (trivial) (e_ri (ex_0 he (rfl))) (weq.rf)
      · refine r_aload_n K dX6_row_37 1 rfl ?_
        refine r_bipush K dX6_row_38 ((-6)) (by decide) ?_
        refine r_cVd K dX6_row_40 (c_X6_refuse l Γ h b rm hi rf (-6) (okR_6)) mX6_refuse q149 rfl (by decide) rfl rfl 3 rfl [0, 2] [1] rfl rfl [eI Γ (b 6) 16 rw] rfl [go h b rm hi, eI Γ (b 6) 16 rw, eI Γ (b 7) 7 (nof rf (-6))] rfl rfl rfl [] rfl (Nat.le_of_ble_eq_true rfl) ?_
        have he : eRow rm v = (-6) := by
          unfold eRow
          rw [if_neg (not_not_intro c9), if_pos (by omega)]
        refine r_arr K (f2 := chE (eRow rm v) rf (nof rf (eRow rm v))) (ws1 := [go h b rm hi, eI Γ (b 6) 16 rw, eI Γ (b 7) 7 (chE (eRow rm v) rf (nof rf (eRow rm v)))]) 2 rfl (fun _ _ => by rw [ch_n (g := nof rf) he (by decide)]) rfl ?_
        refine r_arr K (f2 := chE (eRow rm v) (upd rw rm v) rw) (ws1 := [go h b rm hi, eI Γ (b 6) 16 (chE (eRow rm v) (upd rw rm v) rw), eI Γ (b 7) 7 (chE (eRow rm v) rf (nof rf (eRow rm v)))]) 1 rfl (fun _ _ => by rw [chE_n (a := upd rw rm v) (b := rw) (by rw [he]; exact (by decide))]) rfl ?_
        refine r_ws K (ws1 := [go h b (chE (eRow rm v) (rm + 1) rm) hi, eI Γ (b 6) 16 (chE (eRow rm v) (upd rw rm v) rw), eI Γ (b 7) 7 (chE (eRow rm v) rf (nof rf (eRow rm v)))]) (by rw [chE_n (a := rm + 1) (b := rm) (by rw [he]; exact (by decide))]; exact weq.rf) ?_
        exact hR () dX6_row_43 (trivial) (e_ri (ex_n he (by decide))) (weq.rf)
  · refine r_aload_n K dX6_row_12 1 rfl ?_
    refine r_iload_n K dX6_row_13 0 rfl ?_
    refine r_cVd K dX6_row_14 (c_X6_refuse l Γ h b rm hi rf (wrS v (nI 0) (nI 99)) (okR_wr c9)) mX6_refuse q149 rfl (by decide) rfl rfl 3 rfl [0, 2] [1] rfl rfl [eI Γ (b 6) 16 rw] rfl [go h b rm hi, eI Γ (b 6) 16 rw, eI Γ (b 7) 7 (nof rf (wrS v (nI 0) (nI 99)))] rfl rfl rfl [] rfl (Nat.le_of_ble_eq_true rfl) ?_
    have he : eRow rm v = wrS v (nI 0) (nI 99) := by
      unfold eRow
      rw [if_pos c9]
    refine r_arr K (f2 := chE (eRow rm v) rf (nof rf (eRow rm v))) (ws1 := [go h b rm hi, eI Γ (b 6) 16 rw, eI Γ (b 7) 7 (chE (eRow rm v) rf (nof rf (eRow rm v)))]) 2 rfl (fun _ _ => by rw [ch_n (g := nof rf) he c9]) rfl ?_
    refine r_arr K (f2 := chE (eRow rm v) (upd rw rm v) rw) (ws1 := [go h b rm hi, eI Γ (b 6) 16 (chE (eRow rm v) (upd rw rm v) rw), eI Γ (b 7) 7 (chE (eRow rm v) rf (nof rf (eRow rm v)))]) 1 rfl (fun _ _ => by rw [chE_n (a := upd rw rm v) (b := rw) (by rw [he]; exact c9)]) rfl ?_
    refine r_ws K (ws1 := [go h b (chE (eRow rm v) (rm + 1) rm) hi, eI Γ (b 6) 16 (chE (eRow rm v) (upd rw rm v) rw), eI Γ (b 7) 7 (chE (eRow rm v) rf (nof rf (eRow rm v)))]) (by rw [chE_n (a := rm + 1) (b := rm) (by rw [he]; exact c9)]; exact weq.rf) ?_
    exact hR () dX6_row_17 (trivial) (e_ri (ex_n he c9)) (weq.rf)
set_option maxHeartbeats 1000000 in
set_option maxRecDepth 20000 in
theorem c_X6_firstUntrueGrief (l : Launch) (Γ : eG) (h : Nat) (b : Nat → Nat) (rm : Nat) (hi : Bool) (an : Nat → Nat) (r : Nat → Int32) (rw : Nat → Int32) (hI : Inv r) (hr16 : rm ≤ 16) : cD l Γ yX6_firstUntrueGrief cX6_firstUntrueGrief 2 (some .int) 2 [.ref h] [go h b rm hi, ydW Γ (b 0) an r, eI Γ (b 6) 16 rw] (some (.int (jgL r rw rm 0))) [go h b rm hi, ydW Γ (b 0) an r, eI Γ (b 6) 16 rw] := by
  refine e_int [(0, .ref h)] (by decide +kernel) (Nat.le_of_ble_eq_true rfl) rfl (fun V K hR => ?_)
  have h5 := hI.g
  have h6 := hI.m
  refine r_iconst K dX6_firstUntrueGrief_0 (nI 0) (by decide) ?_
  refine r_istore_n K dX6_firstUntrueGrief_1 rfl (by decide) (lv1 := [(1, .int (nI 0)), (0, .ref h)]) rfl ?_
  have L2 : ∀ (fL2 : Nat) (f : Nat) (i : Nat), (f + i = rm) → (jgL r rw rm 0 = jgL r rw f i) → f < fL2 → V 2 [(1, .int (nI i)), (0, .ref h)] [] [go h b rm hi, ydW Γ (b 0) an r, eI Γ (b 6) 16 rw] := by
    intro fL2
    induction fL2 with
    | zero => intro f i hfi hE hf; exact absurd hf (Nat.not_lt_zero _)
    | succ fL2 ih_L2 =>
      intro f i hfi hE hfL2
      refine r_iload_n K dX6_firstUntrueGrief_2 0 rfl ?_
      refine r_aload_n K dX6_firstUntrueGrief_3 1 rfl ?_
      refine r_get K dX6_firstUntrueGrief_4 (kf := 8) 0 rfl rfl hinX6 (by decide) q122 rfl rfl ?_
      refine r_ic_geN K dX6_firstUntrueGrief_7 (by omega) (by omega) (fun c7 => ?_) (fun c7 => ?_)
      · obtain rfl : f = 0 := by omega
        refine r_bipush K dX6_firstUntrueGrief_55 ((-9)) (by decide) ?_
        exact hR () dX6_firstUntrueGrief_57 (trivial) (e_ri (hE)) (weq.rf)
      · obtain ⟨f, rfl⟩ : ∃ q, f = q + 1 := ⟨f - 1, by omega⟩
        refine r_iload_n K dX6_firstUntrueGrief_10 0 rfl ?_
        refine r_aload_n K dX6_firstUntrueGrief_11 1 rfl ?_
        refine r_get K dX6_firstUntrueGrief_12 (kf := 6) 0 rfl rfl hinX6 (by decide) q120 rfl rfl ?_
        refine r_len K dX6_firstUntrueGrief_15 2 rfl ?_
        refine r_ic_geN K dX6_firstUntrueGrief_16 (by omega) (by omega) (fun c16 => ?_) (fun c16 => ?_)
        · exact absurd c16 (by omega)
        · refine r_aload_n K dX6_firstUntrueGrief_19 1 rfl ?_
          refine r_get K dX6_firstUntrueGrief_20 (kf := 0) 0 rfl rfl hinX6 (by decide) q114 rfl rfl ?_
          refine r_iload_n K dX6_firstUntrueGrief_23 0 rfl ?_
          refine r_cVd K dX6_firstUntrueGrief_24 (c_X0_hasMourner l Γ (b 0) an r (nI i) (hI)) mX0_hasMourner q347 rfl (by decide) rfl rfl 3 rfl [1] [0, 2] rfl rfl [go h b rm hi, eI Γ (b 6) 16 rw] rfl [go h b rm hi, ydW Γ (b 0) an r, eI Γ (b 6) 16 rw] rfl rfl rfl [] rfl (Nat.le_of_ble_eq_true rfl) ?_
          refine r_ifeqB K dX6_firstUntrueGrief_27 (fun c27 => ?_) (fun c27 => ?_)
          · rw [inN_nI (by omega)] at c27
            refine r_iload_n K dX6_firstUntrueGrief_47 0 rfl ?_
            exact hR () dX6_firstUntrueGrief_48 (trivial) (e_ri (hE.trans (jgL_n (fun z => absurd z.1 (of_decide_eq_false c27))))) (weq.rf)
          · rw [inN_nI (by omega)] at c27
            have hil : i < nM r := of_decide_eq_true c27
            refine r_aload_n K dX6_firstUntrueGrief_30 1 rfl ?_
            refine r_get K dX6_firstUntrueGrief_31 (kf := 0) 0 rfl rfl hinX6 (by decide) q114 rfl rfl ?_
            refine r_iload_n K dX6_firstUntrueGrief_34 0 rfl ?_
            refine r_cVd K dX6_firstUntrueGrief_35 (c_X0_griefOfN l Γ (b 0) an r i (hI) (by first | omega | (simp only [daysS_nM, daysS_nG, dayS_nM, dayS_nG, tellS_nM, tellS_nG, aloneTo_nM, aloneTo_nG, nM_M, nG_M, nM_G, nG_G, lv_nM, lv_nG, gnT_nM, gnT_nG] <;> omega))) mX0_griefOf q350 rfl (by decide) rfl rfl 3 rfl [1] [0, 2] rfl rfl [go h b rm hi, eI Γ (b 6) 16 rw] rfl [go h b rm hi, ydW Γ (b 0) an r, eI Γ (b 6) 16 rw] rfl rfl rfl [] rfl (Nat.le_of_ble_eq_true rfl) ?_
            refine r_aload_n K dX6_firstUntrueGrief_38 1 rfl ?_
            refine r_get K dX6_firstUntrueGrief_39 (kf := 6) 0 rfl rfl hinX6 (by decide) q120 rfl rfl ?_
            refine r_iload_n K dX6_firstUntrueGrief_42 0 rfl ?_
            refine r_aldN K dX6_firstUntrueGrief_43 2 rfl (by first | omega | exact iG_lt (by omega) (by decide) | exact iM_lt (by omega) (by decide)) (by decide) ?_
            refine r_ic_eq K dX6_firstUntrueGrief_44 (fun c44 => ?_) (fun c44 => ?_)
            · refine r_iincN K dX6_firstUntrueGrief_49 (n := 1) 0 rfl rfl (by decide) (lv1 := [(1, .int (nI (i + 1))), (0, .ref h)]) rfl ?_
              refine r_goto K dX6_firstUntrueGrief_52 ?_
              exact ih_L2 f (i + 1) (by omega) (hE.trans (jgL_t hil c44)) (by omega)
            · refine r_iload_n K dX6_firstUntrueGrief_47 0 rfl ?_
              exact hR () dX6_firstUntrueGrief_48 (trivial) (e_ri (hE.trans (jgL_n (fun z => absurd z.2 c44)))) (weq.rf)
  exact L2 _ rm 0 (rfl) (rfl) (Nat.lt_succ_self _)
set_option maxHeartbeats 1000000 in
set_option maxRecDepth 20000 in
theorem c_X6_judge (l : Launch) (Γ : eG) (h : Nat) (b : Nat → Nat) (rm : Nat) (hi : Bool) (an : Nat → Nat) (r : Nat → Int32) (rw : Nat → Int32) (hI : Inv r) (hr16 : rm ≤ 16) : cD l Γ yX6_judge cX6_judge 2 (some .int) 3 [.ref h] [go h b rm hi, ydW Γ (b 0) an r, eI Γ (b 6) 16 rw] (some (.int (jgL r rw rm 0))) [go h b 0 hi, ydW Γ (b 0) an r, eI Γ (b 6) 16 rw] := by
  refine e_int [(0, .ref h)] (by decide +kernel) (Nat.le_of_ble_eq_true rfl) rfl (fun V K hR => ?_)
  have h5 := hI.g
  have h6 := hI.m
  refine r_aload_n K dX6_judge_0 0 rfl ?_
  refine r_cVd K dX6_judge_1 (c_X6_firstUntrueGrief l Γ h b rm hi an r rw (hI) (by first | assumption | omega)) mX6_firstUntrueGrief q697 rfl (by decide) rfl rfl 3 rfl [0, 1, 2] [] rfl rfl [] rfl [go h b rm hi, ydW Γ (b 0) an r, eI Γ (b 6) 16 rw] rfl rfl rfl [] rfl (Nat.le_of_ble_eq_true rfl) ?_
  refine r_istore_n K dX6_judge_4 rfl (by decide) (lv1 := [(1, .int (jgL r rw rm 0)), (0, .ref h)]) rfl ?_
  refine r_aload_n K dX6_judge_5 1 rfl ?_
  refine r_iconst K dX6_judge_6 (nI 0) (by decide) ?_
  refine r_put K dX6_judge_7 (kf := 8) (ty := .int) (ws1 := [go h b 0 hi, ydW Γ (b 0) an r, eI Γ (b 6) 16 rw]) 0 rfl rfl hinX6 tyX6 tyX6_ok nmX6 (by decide) q122 rfl (by decide +kernel) rfl rfl (Nat.le_of_ble_eq_true rfl) rfl ?_
  refine r_iload_n K dX6_judge_10 0 rfl ?_
  exact hR () dX6_judge_11 (trivial) (e_ri (rfl)) (weq.rf)
set_option maxHeartbeats 1000000 in
set_option maxRecDepth 20000 in
theorem c_X6_clear (l : Launch) (Γ : eG) (h : Nat) (b : Nat → Nat) (rm : Nat) (hi : Bool)  : cD l Γ yX6_clear cX6_clear 2 (some .int) 0 [.ref h] [go h b rm hi] (some (.int (nI rm))) [go h b 0 hi] := by
  refine e_int [(0, .ref h)] (by decide +kernel) (Nat.le_of_ble_eq_true rfl) rfl (fun V K hR => ?_)
  refine r_aload_n K dX6_clear_0 0 rfl ?_
  refine r_get K dX6_clear_1 (kf := 8) 0 rfl rfl hinX6 (by decide) q122 rfl rfl ?_
  refine r_istore_n K dX6_clear_4 rfl (by decide) (lv1 := [(1, .int (nI rm)), (0, .ref h)]) rfl ?_
  refine r_aload_n K dX6_clear_5 1 rfl ?_
  refine r_iconst K dX6_clear_6 (nI 0) (by decide) ?_
  refine r_put K dX6_clear_7 (kf := 8) (ty := .int) (ws1 := [go h b 0 hi]) 0 rfl rfl hinX6 tyX6 tyX6_ok nmX6 (by decide) q122 rfl (by decide +kernel) rfl rfl (Nat.le_of_ble_eq_true rfl) rfl ?_
  refine r_iload_n K dX6_clear_10 0 rfl ?_
  exact hR () dX6_clear_11 (trivial) (e_ri (rfl)) (weq.rf)
set_option maxHeartbeats 1000000 in
set_option maxRecDepth 20000 in
theorem c_X6_lots (l : Launch) (Γ : eG) (h : Nat) (b : Nat → Nat) (rm : Nat) (hi : Bool) (an : Nat → Nat) (r : Nat → Int32) (sd : Int32) (am : Nat → Nat) (mi : Nat → Int32) (rf : Nat → Int32) (n : Int32) (z : Int32) (w : Int32) (hI : Inv r) : cE l Γ yX6_lots cX6_lots 5 (some .int) 5 [.ref h, .int n, .int z, .int w] [go h b rm hi, ydW Γ (b 0) an r, eO (b 3) 3 [.ref (b 0), .ref (b 8), .ref (b 9), .int sd], ydW Γ (b 8) am mi, eI Γ (b 7) 7 rf] (S := (Nat → Int32) × (Int32)) (fun u => True) (fun u => (some (.int (chE (eLots r n w) (aLots r n z w) (eLots r n w))))) (fun u => [go h b rm hi, ydW Γ (b 0) an r, eO (b 3) 3 [.ref (b 0), .ref (b 8), .ref (b 9), .int u.2], ydW Γ (b 8) am u.1, eI Γ (b 7) 7 (chE (eLots r n w) rf (nof rf (eLots r n w)))]) := by
  refine e_int [(0, .ref h), (1, .int n), (2, .int z), (3, .int w)] (by decide +kernel) (Nat.le_of_ble_eq_true rfl) rfl (fun V K hR => ?_)
  have h5 := hI.g
  have h6 := hI.m
  refine r_iload_n K dX6_lots_0 1 rfl ?_
  refine r_iconst K dX6_lots_1 (nI 1) (by decide) ?_
  refine r_bipush K dX6_lots_2 (nI 20) (by decide) ?_
  refine r_cSd K dX6_lots_4 (c_X6_faultOfRange l Γ n (nI 1) (nI 20)) mX6_faultOfRange q374 rfl (by decide) 5 rfl [] [0, 1, 2, 3, 4] rfl rfl [go h b rm hi, ydW Γ (b 0) an r, eO (b 3) 3 [.ref (b 0), .ref (b 8), .ref (b 9), .int sd], ydW Γ (b 8) am mi, eI Γ (b 7) 7 rf] rfl [go h b rm hi, ydW Γ (b 0) an r, eO (b 3) 3 [.ref (b 0), .ref (b 8), .ref (b 9), .int sd], ydW Γ (b 8) am mi, eI Γ (b 7) 7 rf] rfl rfl rfl [] rfl (Nat.le_of_ble_eq_true rfl) ?_
  refine r_istore K dX6_lots_7 (by decide) (lv1 := [(4, .int (wrS n (nI 1) (nI 20))), (0, .ref h), (1, .int n), (2, .int z), (3, .int w)]) rfl ?_
  refine r_iload K dX6_lots_9 0 rfl ?_
  refine r_if_eq K dX6_lots_11 (fun c11 => ?_) (fun c11 => ?_)
  · have hn := wrS_ok (by decide) (by decide) c11
    have ln := hn.2
    refine r_lc (lv1 := [(4, .int (wrS n (nI 1) (nI 20))), (0, .ref h), (1, .int (nI (ix n))), (2, .int z), (3, .int w)]) (congrArg (fun zz : Int32 => ([(4, .int (wrS n (nI 1) (nI 20))), (0, .ref h), (1, .int zz), (2, .int z), (3, .int w)] : List (Nat × Value))) (hn.1)) ?_
    refine r_iload_n K dX6_lots_21 4 rfl ?_
    refine r_if_lt K dX6_lots_22 (fun c22 => ?_) (fun c22 => ?_)
    · have hb : isInB w (nI 0) (nI 1) = false := isInB_f1 c22
      refine r_aload_n K dX6_lots_30 1 rfl ?_
      refine r_bipush K dX6_lots_31 ((-2)) (by decide) ?_
      refine r_cVd K dX6_lots_33 (c_X6_refuse l Γ h b rm hi rf (-2) (okR_2)) mX6_refuse q149 rfl (by decide) rfl rfl 5 rfl [0, 4] [1, 2, 3] rfl rfl [ydW Γ (b 0) an r, eO (b 3) 3 [.ref (b 0), .ref (b 8), .ref (b 9), .int sd], ydW Γ (b 8) am mi] rfl [go h b rm hi, ydW Γ (b 0) an r, eO (b 3) 3 [.ref (b 0), .ref (b 8), .ref (b 9), .int sd], ydW Γ (b 8) am mi, eI Γ (b 7) 7 (nof rf (-2))] rfl rfl rfl [] rfl (Nat.le_of_ble_eq_true rfl) ?_
      have he : eLots r n w = (-2) := by
        unfold eLots
        rw [if_neg (not_not_intro c11), if_pos (nt hb)]
      refine r_arr K (f2 := chE (eLots r n w) rf (nof rf (eLots r n w))) (ws1 := [go h b rm hi, ydW Γ (b 0) an r, eO (b 3) 3 [.ref (b 0), .ref (b 8), .ref (b 9), .int sd], ydW Γ (b 8) am mi, eI Γ (b 7) 7 (chE (eLots r n w) rf (nof rf (eLots r n w)))]) 4 rfl (fun _ _ => by rw [ch_n (g := nof rf) he (by decide)]) rfl ?_
      exact hR (mi, sd) dX6_lots_36 (trivial) (e_ri (ex_n he (by decide))) (weq.rf)
    · refine r_iload_n K dX6_lots_25 4 rfl ?_
      refine r_iconst K dX6_lots_26 (nI 1) (by decide) ?_
      refine r_ic_le K dX6_lots_27 (fun c27 => ?_) (fun c27 => ?_)
      · have hb : isInB w (nI 0) (nI 1) = true := isInB_t c22 (Int32.not_lt.mpr c27)
        have hw := isInB_ok (lo := 0) (hi := 1) (by decide) (by decide) hb
        have lw := hw.2
        refine r_lc (lv1 := [(4, .int (wrS n (nI 1) (nI 20))), (0, .ref h), (1, .int (nI (ix n))), (2, .int z), (3, .int (nI (ix w)))]) (congrArg (fun zz : Int32 => ([(4, .int (wrS n (nI 1) (nI 20))), (0, .ref h), (1, .int (nI (ix n))), (2, .int z), (3, .int zz)] : List (Nat × Value))) (hw.1)) ?_
        refine r_aload_n K dX6_lots_37 1 rfl ?_
        refine r_get K dX6_lots_38 (kf := 0) 0 rfl rfl hinX6 (by decide) q114 rfl rfl ?_
        refine r_cVd K dX6_lots_41 (c_X0_graveCount l Γ (b 0) an r (hI)) mX0_graveCount q475 rfl (by decide) rfl rfl 5 rfl [1] [0, 2, 3, 4] rfl rfl [go h b rm hi, eO (b 3) 3 [.ref (b 0), .ref (b 8), .ref (b 9), .int sd], ydW Γ (b 8) am mi, eI Γ (b 7) 7 rf] rfl [go h b rm hi, ydW Γ (b 0) an r, eO (b 3) 3 [.ref (b 0), .ref (b 8), .ref (b 9), .int sd], ydW Γ (b 8) am mi, eI Γ (b 7) 7 rf] rfl rfl rfl [] rfl (Nat.le_of_ble_eq_true rfl) ?_
        refine r_if_neN K dX6_lots_44 (by omega) (fun c44 => ?_) (fun c44 => ?_)
        · refine r_iload_n K dX6_lots_54 4 rfl ?_
          refine r_if_neN K dX6_lots_55 (by omega) (fun c55 => ?_) (fun c55 => ?_)
          · refine r_aload_n K dX6_lots_70 1 rfl ?_
            refine r_get K dX6_lots_71 (kf := 3) 0 rfl rfl hinX6 (by decide) q117 rfl rfl ?_
            refine r_iload_n K dX6_lots_74 2 rfl ?_
            refine r_iload_n K dX6_lots_75 3 rfl ?_
            refine r_cV K dX6_lots_76 (c_X5_inchesByLot l Γ (b 3) (b 0) (b 8) (b 9) sd an am r mi (ix n) z (hI) (by omega) (by first | assumption | omega)) mX5_inchesByLot q726 rfl (by decide) rfl rfl 5 rfl [2, 1, 3] [0, 4] rfl rfl [go h b rm hi, eI Γ (b 7) 7 rf] rfl (fun u => [go h b rm hi, ydW Γ (b 0) an r, eO (b 3) 3 [.ref (b 0), .ref (b 8), .ref (b 9), .int ((ltF r false z (ix n)).2)], ydW Γ (b 8) am u, eI Γ (b 7) 7 rf]) (fun _ => rfl) (fun _ => rfl) (fun _ => rfl) [] rfl (Nat.le_of_ble_eq_true rfl) (fun u1 hu2 => ?_)
            show V 79 _ [.int ((ltF r false z (ix n)).1)] [go h b rm hi, ydW Γ (b 0) an r, eO (b 3) 3 [.ref (b 0), .ref (b 8), .ref (b 9), .int ((ltF r false z (ix n)).2)], ydW Γ (b 8) am u1, eI Γ (b 7) 7 rf]
            have he : eLots r n w = 0 := by
              unfold eLots
              rw [if_neg (not_not_intro c11), if_neg (not_not_intro hb), if_neg c44]
            refine r_arr K (f2 := chE (eLots r n w) rf (nof rf (eLots r n w))) (ws1 := [go h b rm hi, ydW Γ (b 0) an r, eO (b 3) 3 [.ref (b 0), .ref (b 8), .ref (b 9), .int ((ltF r false z (ix n)).2)], ydW Γ (b 8) am u1, eI Γ (b 7) 7 (chE (eLots r n w) rf (nof rf (eLots r n w)))]) 4 rfl (fun _ _ => by rw [chE_0 he]) rfl ?_
            exact hR (u1, (ltF r false z (ix n)).2) dX6_lots_79 (trivial) (e_ri (ex_0 he (by unfold aLots; rw [decide_eq_false (show ¬ w = nI 0 from fun z => c55 (by rw [z]; exact ix_nI (by decide)))]))) (weq.rf)
          · refine r_aload_n K dX6_lots_58 1 rfl ?_
            refine r_get K dX6_lots_59 (kf := 3) 0 rfl rfl hinX6 (by decide) q117 rfl rfl ?_
            refine r_iload_n K dX6_lots_62 2 rfl ?_
            refine r_iload_n K dX6_lots_63 3 rfl ?_
            refine r_cV K dX6_lots_64 (c_X5_payByLot l Γ (b 3) (b 0) (b 8) (b 9) sd an am r mi (ix n) z (hI) (by omega) (by first | assumption | omega)) mX5_payByLot q709 rfl (by decide) rfl rfl 5 rfl [2, 1, 3] [0, 4] rfl rfl [go h b rm hi, eI Γ (b 7) 7 rf] rfl (fun u => [go h b rm hi, ydW Γ (b 0) an r, eO (b 3) 3 [.ref (b 0), .ref (b 8), .ref (b 9), .int ((ltF r true z (ix n)).2)], ydW Γ (b 8) am u, eI Γ (b 7) 7 rf]) (fun _ => rfl) (fun _ => rfl) (fun _ => rfl) [] rfl (Nat.le_of_ble_eq_true rfl) (fun u3 hu4 => ?_)
            show V 67 _ [.int ((ltF r true z (ix n)).1)] [go h b rm hi, ydW Γ (b 0) an r, eO (b 3) 3 [.ref (b 0), .ref (b 8), .ref (b 9), .int ((ltF r true z (ix n)).2)], ydW Γ (b 8) am u3, eI Γ (b 7) 7 rf]
            refine r_goto K dX6_lots_67 ?_
            have he : eLots r n w = 0 := by
              unfold eLots
              rw [if_neg (not_not_intro c11), if_neg (not_not_intro hb), if_neg c44]
            refine r_arr K (f2 := chE (eLots r n w) rf (nof rf (eLots r n w))) (ws1 := [go h b rm hi, ydW Γ (b 0) an r, eO (b 3) 3 [.ref (b 0), .ref (b 8), .ref (b 9), .int ((ltF r true z (ix n)).2)], ydW Γ (b 8) am u3, eI Γ (b 7) 7 (chE (eLots r n w) rf (nof rf (eLots r n w)))]) 4 rfl (fun _ _ => by rw [chE_0 he]) rfl ?_
            exact hR (u3, (ltF r true z (ix n)).2) dX6_lots_79 (trivial) (e_ri (ex_0 he (by unfold aLots; rw [decide_eq_true (show w = nI 0 from by rw [hw.1, c55])]))) (weq.rf)
        · refine r_aload_n K dX6_lots_47 1 rfl ?_
          refine r_bipush K dX6_lots_48 ((-3)) (by decide) ?_
          refine r_cVd K dX6_lots_50 (c_X6_refuse l Γ h b rm hi rf (-3) (okR_3)) mX6_refuse q149 rfl (by decide) rfl rfl 5 rfl [0, 4] [1, 2, 3] rfl rfl [ydW Γ (b 0) an r, eO (b 3) 3 [.ref (b 0), .ref (b 8), .ref (b 9), .int sd], ydW Γ (b 8) am mi] rfl [go h b rm hi, ydW Γ (b 0) an r, eO (b 3) 3 [.ref (b 0), .ref (b 8), .ref (b 9), .int sd], ydW Γ (b 8) am mi, eI Γ (b 7) 7 (nof rf (-3))] rfl rfl rfl [] rfl (Nat.le_of_ble_eq_true rfl) ?_
          have he : eLots r n w = (-3) := by
            unfold eLots
            rw [if_neg (not_not_intro c11), if_neg (not_not_intro hb), if_pos c44]
          refine r_arr K (f2 := chE (eLots r n w) rf (nof rf (eLots r n w))) (ws1 := [go h b rm hi, ydW Γ (b 0) an r, eO (b 3) 3 [.ref (b 0), .ref (b 8), .ref (b 9), .int sd], ydW Γ (b 8) am mi, eI Γ (b 7) 7 (chE (eLots r n w) rf (nof rf (eLots r n w)))]) 4 rfl (fun _ _ => by rw [ch_n (g := nof rf) he (by decide)]) rfl ?_
          exact hR (mi, sd) dX6_lots_53 (trivial) (e_ri (ex_n he (by decide))) (weq.rf)
      · have hb : isInB w (nI 0) (nI 1) = false := isInB_f2 (Int32.not_le.mp c27)
        refine r_aload_n K dX6_lots_30 1 rfl ?_
        refine r_bipush K dX6_lots_31 ((-2)) (by decide) ?_
        refine r_cVd K dX6_lots_33 (c_X6_refuse l Γ h b rm hi rf (-2) (okR_2)) mX6_refuse q149 rfl (by decide) rfl rfl 5 rfl [0, 4] [1, 2, 3] rfl rfl [ydW Γ (b 0) an r, eO (b 3) 3 [.ref (b 0), .ref (b 8), .ref (b 9), .int sd], ydW Γ (b 8) am mi] rfl [go h b rm hi, ydW Γ (b 0) an r, eO (b 3) 3 [.ref (b 0), .ref (b 8), .ref (b 9), .int sd], ydW Γ (b 8) am mi, eI Γ (b 7) 7 (nof rf (-2))] rfl rfl rfl [] rfl (Nat.le_of_ble_eq_true rfl) ?_
        have he : eLots r n w = (-2) := by
          unfold eLots
          rw [if_neg (not_not_intro c11), if_pos (nt hb)]
        refine r_arr K (f2 := chE (eLots r n w) rf (nof rf (eLots r n w))) (ws1 := [go h b rm hi, ydW Γ (b 0) an r, eO (b 3) 3 [.ref (b 0), .ref (b 8), .ref (b 9), .int sd], ydW Γ (b 8) am mi, eI Γ (b 7) 7 (chE (eLots r n w) rf (nof rf (eLots r n w)))]) 4 rfl (fun _ _ => by rw [ch_n (g := nof rf) he (by decide)]) rfl ?_
        exact hR (mi, sd) dX6_lots_36 (trivial) (e_ri (ex_n he (by decide))) (weq.rf)
  · refine r_aload_n K dX6_lots_14 1 rfl ?_
    refine r_iload K dX6_lots_15 0 rfl ?_
    refine r_cVd K dX6_lots_17 (c_X6_refuse l Γ h b rm hi rf (wrS n (nI 1) (nI 20)) (okR_wr c11)) mX6_refuse q149 rfl (by decide) rfl rfl 5 rfl [0, 4] [1, 2, 3] rfl rfl [ydW Γ (b 0) an r, eO (b 3) 3 [.ref (b 0), .ref (b 8), .ref (b 9), .int sd], ydW Γ (b 8) am mi] rfl [go h b rm hi, ydW Γ (b 0) an r, eO (b 3) 3 [.ref (b 0), .ref (b 8), .ref (b 9), .int sd], ydW Γ (b 8) am mi, eI Γ (b 7) 7 (nof rf (wrS n (nI 1) (nI 20)))] rfl rfl rfl [] rfl (Nat.le_of_ble_eq_true rfl) ?_
    have he : eLots r n w = wrS n (nI 1) (nI 20) := by
      unfold eLots
      rw [if_pos c11]
    refine r_arr K (f2 := chE (eLots r n w) rf (nof rf (eLots r n w))) (ws1 := [go h b rm hi, ydW Γ (b 0) an r, eO (b 3) 3 [.ref (b 0), .ref (b 8), .ref (b 9), .int sd], ydW Γ (b 8) am mi, eI Γ (b 7) 7 (chE (eLots r n w) rf (nof rf (eLots r n w)))]) 4 rfl (fun _ _ => by rw [ch_n (g := nof rf) he c11]) rfl ?_
    exact hR (mi, sd) dX6_lots_20 (trivial) (e_ri (ex_n he c11)) (weq.rf)
set_option maxHeartbeats 1000000 in
set_option maxRecDepth 20000 in
theorem c_X6_image (l : Launch) (Γ : eG) (h : Nat) (b : Nat → Nat) (rm : Nat) (hi : Bool) (an : Nat → Nat) (r : Nat → Int32) (ap : Nat → Nat) (img : Nat → Int32) (hI : Inv r) : cD l Γ yX6_image cX6_image 1 (some .int) 1 [.ref h] [go h b rm hi, ydW Γ (b 0) an r, ydW Γ (b 2) ap img] (some (.int (r 2))) [go h b rm true, ydW Γ (b 0) an r, ydW Γ (b 2) ap r] := by
  refine e_int [(0, .ref h)] (by decide +kernel) (Nat.le_of_ble_eq_true rfl) rfl (fun V K hR => ?_)
  have h5 := hI.g
  have h6 := hI.m
  refine r_aload_n K dX6_image_0 0 rfl ?_
  refine r_get K dX6_image_1 (kf := 2) 0 rfl rfl hinX6 (by decide) q116 rfl rfl ?_
  refine r_aload_n K dX6_image_4 0 rfl ?_
  refine r_get K dX6_image_5 (kf := 0) 0 rfl rfl hinX6 (by decide) q114 rfl rfl ?_
  refine r_cVn K dX6_image_8 (c_X0_become l Γ (b 2) ap img (b 0) an r) mX0_become q166 rfl (by decide) rfl rfl 3 rfl [2, 1] [0] rfl rfl [go h b rm hi] rfl [go h b rm hi, ydW Γ (b 0) an r, ydW Γ (b 2) ap r] rfl rfl rfl [] rfl (Nat.le_of_ble_eq_true rfl) ?_
  refine r_aload_n K dX6_image_11 0 rfl ?_
  refine r_iconst K dX6_image_12 (nI 1) (by decide) ?_
  refine r_put K dX6_image_13 (kf := 9) (ty := .boolean) (ws1 := [go h b rm true, ydW Γ (b 0) an r, ydW Γ (b 2) ap r]) 0 rfl rfl hinX6 tyX6 tyX6_ok nmX6 (by decide) q123 rfl (by decide +kernel) rfl rfl (Nat.le_of_ble_eq_true rfl) rfl ?_
  refine r_aload_n K dX6_image_16 0 rfl ?_
  refine r_get K dX6_image_17 (kf := 0) 0 rfl rfl hinX6 (by decide) q114 rfl rfl ?_
  refine r_cVd K dX6_image_20 (c_X0_today l Γ (b 0) an r (hI)) mX0_today q399 rfl (by decide) rfl rfl 3 rfl [1] [0, 2] rfl rfl [go h b rm true, ydW Γ (b 2) ap r] rfl [go h b rm true, ydW Γ (b 0) an r, ydW Γ (b 2) ap r] rfl rfl rfl [] rfl (Nat.le_of_ble_eq_true rfl) ?_
  exact hR () dX6_image_23 (trivial) (e_ri (rfl)) (weq.rf)
set_option maxHeartbeats 1000000 in
set_option maxRecDepth 20000 in
theorem c_X6_on (l : Launch) (Γ : eG) (h : Nat) (b : Nat → Nat) (rm : Nat) (hi : Bool) (an : Nat → Nat) (r : Nat → Int32) (ap : Nat → Nat) (img : Nat → Int32) (rf : Nat → Int32) (hI : Inv r) (hJ : Inv img) : cD l Γ yX6_on cX6_on 1 (some .int) 1 [.ref h] [go h b rm hi, ydW Γ (b 0) an r, ydW Γ (b 2) ap img, eI Γ (b 7) 7 rf] (some (.int (chE (eOn hi) (img 2) (eOn hi)))) [go h b rm hi, ydW Γ (b 0) an (chE (eOn hi) img r), ydW Γ (b 2) ap img, eI Γ (b 7) 7 (chE (eOn hi) rf (nof rf (eOn hi)))] := by
  refine e_int [(0, .ref h)] (by decide +kernel) (Nat.le_of_ble_eq_true rfl) rfl (fun V K hR => ?_)
  have h5 := hI.g
  have h6 := hI.m
  refine r_aload_n K dX6_on_0 0 rfl ?_
  refine r_get K dX6_on_1 (kf := 9) 0 rfl rfl hinX6 (by decide) q123 rfl rfl ?_
  refine r_ifneB K dX6_on_4 (fun c4 => ?_) (fun c4 => ?_)
  · refine r_aload_n K dX6_on_14 0 rfl ?_
    refine r_get K dX6_on_15 (kf := 0) 0 rfl rfl hinX6 (by decide) q114 rfl rfl ?_
    refine r_aload_n K dX6_on_18 0 rfl ?_
    refine r_get K dX6_on_19 (kf := 2) 0 rfl rfl hinX6 (by decide) q116 rfl rfl ?_
    refine r_cVn K dX6_on_22 (c_X0_become l Γ (b 0) an r (b 2) ap img) mX0_become q166 rfl (by decide) rfl rfl 4 rfl [1, 2] [0, 3] rfl rfl [go h b rm hi, eI Γ (b 7) 7 rf] rfl [go h b rm hi, ydW Γ (b 0) an img, ydW Γ (b 2) ap img, eI Γ (b 7) 7 rf] rfl rfl rfl [] rfl (Nat.le_of_ble_eq_true rfl) ?_
    refine r_aload_n K dX6_on_25 0 rfl ?_
    refine r_get K dX6_on_26 (kf := 0) 0 rfl rfl hinX6 (by decide) q114 rfl rfl ?_
    refine r_cVd K dX6_on_29 (c_X0_today l Γ (b 0) an img (by assumption)) mX0_today q399 rfl (by decide) rfl rfl 4 rfl [1] [0, 2, 3] rfl rfl [go h b rm hi, ydW Γ (b 2) ap img, eI Γ (b 7) 7 rf] rfl [go h b rm hi, ydW Γ (b 0) an img, ydW Γ (b 2) ap img, eI Γ (b 7) 7 rf] rfl rfl rfl [] rfl (Nat.le_of_ble_eq_true rfl) ?_
    have he : eOn hi = 0 := by
      unfold eOn
      rw [if_neg (not_not_intro c4)]
    refine r_arr K (f2 := chE (eOn hi) rf (nof rf (eOn hi))) (ws1 := [go h b rm hi, ydW Γ (b 0) an img, ydW Γ (b 2) ap img, eI Γ (b 7) 7 (chE (eOn hi) rf (nof rf (eOn hi)))]) 3 rfl (fun _ _ => by rw [chE_0 he]) rfl ?_
    refine r_ws K (ws1 := [go h b rm hi, ydW Γ (b 0) an (chE (eOn hi) img r), ydW Γ (b 2) ap img, eI Γ (b 7) 7 (chE (eOn hi) rf (nof rf (eOn hi)))]) (by rw [chE_0 (a := img) (b := r) he]; exact weq.rf) ?_
    exact hR () dX6_on_32 (trivial) (e_ri (ex_0 he (rfl))) (weq.rf)
  · refine r_aload_n K dX6_on_7 0 rfl ?_
    refine r_bipush K dX6_on_8 ((-3)) (by decide) ?_
    refine r_cVd K dX6_on_10 (c_X6_refuse l Γ h b rm hi rf (-3) (okR_3)) mX6_refuse q149 rfl (by decide) rfl rfl 4 rfl [0, 3] [1, 2] rfl rfl [ydW Γ (b 0) an r, ydW Γ (b 2) ap img] rfl [go h b rm hi, ydW Γ (b 0) an r, ydW Γ (b 2) ap img, eI Γ (b 7) 7 (nof rf (-3))] rfl rfl rfl [] rfl (Nat.le_of_ble_eq_true rfl) ?_
    have he : eOn hi = (-3) := by
      unfold eOn
      rw [if_pos (nt c4)]
    refine r_arr K (f2 := chE (eOn hi) rf (nof rf (eOn hi))) (ws1 := [go h b rm hi, ydW Γ (b 0) an r, ydW Γ (b 2) ap img, eI Γ (b 7) 7 (chE (eOn hi) rf (nof rf (eOn hi)))]) 3 rfl (fun _ _ => by rw [ch_n (g := nof rf) he (by decide)]) rfl ?_
    refine r_ws K (ws1 := [go h b rm hi, ydW Γ (b 0) an (chE (eOn hi) img r), ydW Γ (b 2) ap img, eI Γ (b 7) 7 (chE (eOn hi) rf (nof rf (eOn hi)))]) (by rw [chE_n (a := img) (b := r) (by rw [he]; exact (by decide))]; exact weq.rf) ?_
    exact hR () dX6_on_13 (trivial) (e_ri (ex_n he (by decide))) (weq.rf)
set_option maxHeartbeats 1000000 in
set_option maxRecDepth 20000 in
theorem c_X6_count (l : Launch) (Γ : eG) (h : Nat) (b : Nat → Nat) (rm : Nat) (hi : Bool) (an : Nat → Nat) (r : Nat → Int32) (lm : Nat) (lt : Nat → Int32) (rw : Nat → Int32) (rf : Nat → Int32) (w : Int32) (hI : Inv r) (hl : lm ≤ 96) : cD l Γ yX6_count cX6_count 2 (some .int) 1 [.ref h, .int w] [go h b rm hi, ydW Γ (b 0) an r, eO (b 4) 1 [.ref (b 10), .int (nI lm)], eI Γ (b 10) 96 lt, eI Γ (b 6) 16 rw, eI Γ (b 7) 7 rf] (some (.int (aCount r rf rm lm w))) [go h b rm hi, ydW Γ (b 0) an r, eO (b 4) 1 [.ref (b 10), .int (nI lm)], eI Γ (b 10) 96 lt, eI Γ (b 6) 16 rw, eI Γ (b 7) 7 rf] := by
  refine e_int [(0, .ref h), (1, .int w)] (by decide +kernel) (Nat.le_of_ble_eq_true rfl) rfl (fun V K hR => ?_)
  have h5 := hI.g
  have h6 := hI.m
  refine r_iload_n K dX6_count_0 1 rfl ?_
  refine r_tsw K dX6_count_1.1 [48, 56, 64, 72, 80, 88, 96, 101] 109 (by decide) (by decide) (by decide) ⟨fun c1 => ?_, fun c1 => ?_, fun c1 => ?_, fun c1 => ?_, fun c1 => ?_, fun c1 => ?_, fun c1 => ?_, fun c1 => ?_, trivial⟩ (fun c1 => ?_)
  · have c1 : w = nI 0 := c1
    refine r_aload_n K dX6_count_48 0 rfl ?_
    refine r_get K dX6_count_49 (kf := 0) 0 rfl rfl hinX6 (by decide) q114 rfl rfl ?_
    refine r_cVd K dX6_count_52 (c_X0_graveCount l Γ (b 0) an r (hI)) mX0_graveCount q475 rfl (by decide) rfl rfl 6 rfl [1] [0, 2, 3, 4, 5] rfl rfl [go h b rm hi, eO (b 4) 1 [.ref (b 10), .int (nI lm)], eI Γ (b 10) 96 lt, eI Γ (b 6) 16 rw, eI Γ (b 7) 7 rf] rfl [go h b rm hi, ydW Γ (b 0) an r, eO (b 4) 1 [.ref (b 10), .int (nI lm)], eI Γ (b 10) 96 lt, eI Γ (b 6) 16 rw, eI Γ (b 7) 7 rf] rfl rfl rfl [] rfl (Nat.le_of_ble_eq_true rfl) ?_
    exact hR () dX6_count_55 (trivial) (e_ri (by rw [c1]; rfl)) (weq.rf)
  · have c1 : w = nI 1 := c1
    refine r_aload_n K dX6_count_56 0 rfl ?_
    refine r_get K dX6_count_57 (kf := 0) 0 rfl rfl hinX6 (by decide) q114 rfl rfl ?_
    refine r_cVd K dX6_count_60 (c_X0_mournerCount l Γ (b 0) an r (hI)) mX0_mournerCount q742 rfl (by decide) rfl rfl 6 rfl [1] [0, 2, 3, 4, 5] rfl rfl [go h b rm hi, eO (b 4) 1 [.ref (b 10), .int (nI lm)], eI Γ (b 10) 96 lt, eI Γ (b 6) 16 rw, eI Γ (b 7) 7 rf] rfl [go h b rm hi, ydW Γ (b 0) an r, eO (b 4) 1 [.ref (b 10), .int (nI lm)], eI Γ (b 10) 96 lt, eI Γ (b 6) 16 rw, eI Γ (b 7) 7 rf] rfl rfl rfl [] rfl (Nat.le_of_ble_eq_true rfl) ?_
    exact hR () dX6_count_63 (trivial) (e_ri (by rw [c1]; rfl)) (weq.rf)
  · have c1 : w = nI 2 := c1
    refine r_aload_n K dX6_count_64 0 rfl ?_
    refine r_get K dX6_count_65 (kf := 0) 0 rfl rfl hinX6 (by decide) q114 rfl rfl ?_
    refine r_cVd K dX6_count_68 (c_X0_today l Γ (b 0) an r (hI)) mX0_today q399 rfl (by decide) rfl rfl 6 rfl [1] [0, 2, 3, 4, 5] rfl rfl [go h b rm hi, eO (b 4) 1 [.ref (b 10), .int (nI lm)], eI Γ (b 10) 96 lt, eI Γ (b 6) 16 rw, eI Γ (b 7) 7 rf] rfl [go h b rm hi, ydW Γ (b 0) an r, eO (b 4) 1 [.ref (b 10), .int (nI lm)], eI Γ (b 10) 96 lt, eI Γ (b 6) 16 rw, eI Γ (b 7) 7 rf] rfl rfl rfl [] rfl (Nat.le_of_ble_eq_true rfl) ?_
    exact hR () dX6_count_71 (trivial) (e_ri (by rw [c1]; rfl)) (weq.rf)
  · have c1 : w = nI 3 := c1
    refine r_aload_n K dX6_count_72 0 rfl ?_
    refine r_get K dX6_count_73 (kf := 0) 0 rfl rfl hinX6 (by decide) q114 rfl rfl ?_
    refine r_cVd K dX6_count_76 (c_X0_allPayS l Γ (b 0) an r (hI)) mX0_allPay q401 rfl (by decide) rfl rfl 6 rfl [1] [0, 2, 3, 4, 5] rfl rfl [go h b rm hi, eO (b 4) 1 [.ref (b 10), .int (nI lm)], eI Γ (b 10) 96 lt, eI Γ (b 6) 16 rw, eI Γ (b 7) 7 rf] rfl [go h b rm hi, ydW Γ (b 0) an r, eO (b 4) 1 [.ref (b 10), .int (nI lm)], eI Γ (b 10) 96 lt, eI Γ (b 6) 16 rw, eI Γ (b 7) 7 rf] rfl rfl rfl [] rfl (Nat.le_of_ble_eq_true rfl) ?_
    exact hR () dX6_count_79 (trivial) (e_ri (by rw [c1]; rfl)) (weq.rf)
  · have c1 : w = nI 4 := c1
    refine r_aload_n K dX6_count_80 0 rfl ?_
    refine r_get K dX6_count_81 (kf := 0) 0 rfl rfl hinX6 (by decide) q114 rfl rfl ?_
    refine r_cVd K dX6_count_84 (c_X0_allInchesS l Γ (b 0) an r (hI)) mX0_allInches q662 rfl (by decide) rfl rfl 6 rfl [1] [0, 2, 3, 4, 5] rfl rfl [go h b rm hi, eO (b 4) 1 [.ref (b 10), .int (nI lm)], eI Γ (b 10) 96 lt, eI Γ (b 6) 16 rw, eI Γ (b 7) 7 rf] rfl [go h b rm hi, ydW Γ (b 0) an r, eO (b 4) 1 [.ref (b 10), .int (nI lm)], eI Γ (b 10) 96 lt, eI Γ (b 6) 16 rw, eI Γ (b 7) 7 rf] rfl rfl rfl [] rfl (Nat.le_of_ble_eq_true rfl) ?_
    exact hR () dX6_count_87 (trivial) (e_ri (by rw [c1]; rfl)) (weq.rf)
  · have c1 : w = nI 5 := c1
    refine r_aload_n K dX6_count_88 0 rfl ?_
    refine r_get K dX6_count_89 (kf := 0) 0 rfl rfl hinX6 (by decide) q114 rfl rfl ?_
    refine r_cVd K dX6_count_92 (c_X0_allGriefS l Γ (b 0) an r (hI)) mX0_allGrief q743 rfl (by decide) rfl rfl 6 rfl [1] [0, 2, 3, 4, 5] rfl rfl [go h b rm hi, eO (b 4) 1 [.ref (b 10), .int (nI lm)], eI Γ (b 10) 96 lt, eI Γ (b 6) 16 rw, eI Γ (b 7) 7 rf] rfl [go h b rm hi, ydW Γ (b 0) an r, eO (b 4) 1 [.ref (b 10), .int (nI lm)], eI Γ (b 10) 96 lt, eI Γ (b 6) 16 rw, eI Γ (b 7) 7 rf] rfl rfl rfl [] rfl (Nat.le_of_ble_eq_true rfl) ?_
    exact hR () dX6_count_95 (trivial) (e_ri (by rw [c1]; rfl)) (weq.rf)
  · have c1 : w = nI 6 := c1
    refine r_aload_n K dX6_count_96 0 rfl ?_
    refine r_get K dX6_count_97 (kf := 8) 0 rfl rfl hinX6 (by decide) q122 rfl rfl ?_
    exact hR () dX6_count_100 (trivial) (e_ri (by rw [c1]; rfl)) (weq.rf)
  · have c1 : w = nI 7 := c1
    refine r_aload_n K dX6_count_101 0 rfl ?_
    refine r_get K dX6_count_102 (kf := 4) 0 rfl rfl hinX6 (by decide) q118 rfl rfl ?_
    refine r_cVd K dX6_count_105 (c_X3_howMany l Γ (b 4) (b 10) lt lm (by first | assumption | omega)) mX3_howMany q747 rfl (by decide) rfl rfl 6 rfl [2, 3] [0, 1, 4, 5] rfl rfl [go h b rm hi, ydW Γ (b 0) an r, eI Γ (b 6) 16 rw, eI Γ (b 7) 7 rf] rfl [go h b rm hi, ydW Γ (b 0) an r, eO (b 4) 1 [.ref (b 10), .int (nI lm)], eI Γ (b 10) 96 lt, eI Γ (b 6) 16 rw, eI Γ (b 7) 7 rf] rfl rfl rfl [] rfl (Nat.le_of_ble_eq_true rfl) ?_
    exact hR () dX6_count_108 (trivial) (e_ri (by rw [c1]; rfl)) (weq.rf)
  · have c1 : ∀ v : Nat, 0 ≤ v → v ≤ 7 → v < 2 ^ 31 → ¬ w = nI v := tsw_out c1
    refine r_iload_n K dX6_count_109 1 rfl ?_
    refine r_bipush K dX6_count_110 (nI 11) (by decide) ?_
    refine r_ic_lt K dX6_count_112 (fun c112 => ?_) (fun c112 => ?_)
    · have hb : isInB w (nI 11) (nI 16) = false := isInB_f1 c112
      refine r_bipush K dX6_count_133 ((-9)) (by decide) ?_
      exact hR () dX6_count_135 (trivial) (e_ri (aCount_d hb c1)) (weq.rf)
    · refine r_iload_n K dX6_count_115 1 rfl ?_
      refine r_bipush K dX6_count_116 (nI 16) (by decide) ?_
      refine r_ic_gt K dX6_count_118 (fun c118 => ?_) (fun c118 => ?_)
      · have hb : isInB w (nI 11) (nI 16) = false := isInB_f2 c118
        refine r_bipush K dX6_count_133 ((-9)) (by decide) ?_
        exact hR () dX6_count_135 (trivial) (e_ri (aCount_d hb c1)) (weq.rf)
      · have hb : isInB w (nI 11) (nI 16) = true := isInB_t c112 c118
        have hw := isInB_ok (lo := 11) (hi := 16) (by decide) (by decide) hb
        have lw := hw.2
        refine r_lc (lv1 := [(0, .ref h), (1, .int (nI (ix w)))]) (congrArg (fun zz : Int32 => ([(0, .ref h), (1, .int zz)] : List (Nat × Value))) (hw.1)) ?_
        refine r_aload_n K dX6_count_121 0 rfl ?_
        refine r_get K dX6_count_122 (kf := 7) 0 rfl rfl hinX6 (by decide) q121 rfl rfl ?_
        refine r_iload_n K dX6_count_125 1 rfl ?_
        refine r_bipush K dX6_count_126 (nI 10) (by decide) ?_
        refine r_isubN K dX6_count_128 (by omega) ?_
        refine r_aldN K dX6_count_129 5 rfl (by first | omega | exact iG_lt (by omega) (by decide) | exact iM_lt (by omega) (by decide)) (by decide) ?_
        refine r_goto K dX6_count_130 ?_
        exact hR () dX6_count_135 (trivial) (e_ri (by unfold aCount; rw [if_pos hb])) (weq.rf)
