set_option maxHeartbeats 1000000 in
set_option maxRecDepth 20000 in
theorem c_X6_seatG (l : Launch) (Γ : eG) (h : Nat) (b : Nat → Nat) (rm : Nat) (hi : Bool) (an : Nat → Nat) (r : Nat → Int32) (be : Int32) (f0 : Nat → Int32) (f1 : Nat → Int32) (f2 : Nat → Int32) (rf : Nat → Int32) (x : Int32) (sx : Nat) (sc : Nat) (hI : Inv r) (hb : 0 < nG r → bestS r + nI 15625 - nI 1 = nI sx) (hx31 : sx < 2 ^ 31) (hc : 0 < nG r → nI (sx / 15625 * 15625) - bestS r = nI sc) (hc1 : sc < 15625) : cE l Γ yX6_seat cX6_seat 2 (some .int) 5 [.ref h, .int x] [go h b rm hi, ydW Γ (b 0) an r, eO (b 5) 2 [.ref (b 11), .ref (b 12), .ref (b 13), .int be], eI Γ (b 11) 64 f0, eI Γ (b 12) 64 f1, eI Γ (b 13) 64 f2, eI Γ (b 7) 7 rf] (S := (Int32) × (Nat → Int32) × (Nat → Int32) × (Nat → Int32)) (fun u => True) (fun u => (some (.int (chE (eSeat r x) (aSeat r x sx sc) (eSeat r x))))) (fun u => [go h b rm hi, ydW Γ (b 0) an r, eO (b 5) 2 [.ref (b 11), .ref (b 12), .ref (b 13), .int u.1], eI Γ (b 11) 64 u.2.1, eI Γ (b 12) 64 u.2.2.1, eI Γ (b 13) 64 u.2.2.2, eI Γ (b 7) 7 (chE (eSeat r x) rf (nof rf (eSeat r x)))]) := by
  refine e_int [(0, .ref h), (1, .int x)] (by decide +kernel) (Nat.le_of_ble_eq_true rfl) rfl (fun V K hR => ?_)
  have h5 := hI.g
  have h6 := hI.m
  refine r_iload_n K dX6_seat_0 1 rfl ?_
  refine r_iconst K dX6_seat_1 ((-1)) (by decide) ?_
  refine r_ic_eq K dX6_seat_2 (fun c2 => ?_) (fun c2 => ?_)
  · refine r_aload_n K dX6_seat_22 0 rfl ?_
    refine r_get K dX6_seat_23 (kf := 0) 0 rfl rfl hinX6 (by decide) q114 rfl rfl ?_
    refine r_cVd K dX6_seat_26 (c_X0_graveCount l Γ (b 0) an r (hI)) mX0_graveCount q475 rfl (by decide) rfl rfl 7 rfl [1] [0, 2, 3, 4, 5, 6] rfl rfl [go h b rm hi, eO (b 5) 2 [.ref (b 11), .ref (b 12), .ref (b 13), .int be], eI Γ (b 11) 64 f0, eI Γ (b 12) 64 f1, eI Γ (b 13) 64 f2, eI Γ (b 7) 7 rf] rfl [go h b rm hi, ydW Γ (b 0) an r, eO (b 5) 2 [.ref (b 11), .ref (b 12), .ref (b 13), .int be], eI Γ (b 11) 64 f0, eI Γ (b 12) 64 f1, eI Γ (b 13) 64 f2, eI Γ (b 7) 7 rf] rfl rfl rfl [] rfl (Nat.le_of_ble_eq_true rfl) ?_
    refine r_if_neN K dX6_seat_29 (by omega) (fun c29 => ?_) (fun c29 => ?_)
    · refine r_aload_n K dX6_seat_44 0 rfl ?_
      refine r_get K dX6_seat_45 (kf := 5) 0 rfl rfl hinX6 (by decide) q119 rfl rfl ?_
      refine r_aload_n K dX6_seat_48 0 rfl ?_
      refine r_get K dX6_seat_49 (kf := 0) 0 rfl rfl hinX6 (by decide) q114 rfl rfl ?_
      refine r_cV K dX6_seat_52 (c_X4_weigh l Γ (b 5) (b 11) (b 12) (b 13) be f0 f1 f2 (b 0) an r (hI)) mX4_weigh q476 rfl (by decide) rfl rfl 7 rfl [2, 3, 4, 5, 1] [0, 6] rfl rfl [go h b rm hi, eI Γ (b 7) 7 rf] rfl (fun u => [go h b rm hi, ydW Γ (b 0) an r, eO (b 5) 2 [.ref (b 11), .ref (b 12), .ref (b 13), .int (bestS r)], eI Γ (b 11) 64 u.1, eI Γ (b 12) 64 u.2.1, eI Γ (b 13) 64 u.2.2, eI Γ (b 7) 7 rf]) (fun _ => rfl) (fun _ => rfl) (fun _ => rfl) [] rfl (Nat.le_of_ble_eq_true rfl) (fun u1 hu2 => ?_)
      show V 55 _ [] [go h b rm hi, ydW Γ (b 0) an r, eO (b 5) 2 [.ref (b 11), .ref (b 12), .ref (b 13), .int (bestS r)], eI Γ (b 11) 64 u1.1, eI Γ (b 12) 64 u1.2.1, eI Γ (b 13) 64 u1.2.2, eI Γ (b 7) 7 rf]
      refine r_iload_n K dX6_seat_55 1 rfl ?_
      refine r_iconst K dX6_seat_56 ((-1)) (by decide) ?_
      refine r_ic_ne K dX6_seat_57 (fun c57 => ?_) (fun c57 => ?_)
      · exact absurd c2 c57
      · refine r_aload_n K dX6_seat_60 0 rfl ?_
        refine r_get K dX6_seat_61 (kf := 5) 0 rfl rfl hinX6 (by decide) q119 rfl rfl ?_
        refine r_cVd K dX6_seat_64 (c_X4_inches l Γ (b 5) (b 11) (b 12) (b 13) (bestS r) u1.1 u1.2.1 u1.2.2 sx (hb (by omega)) (hx31)) mX4_inches q501 rfl (by decide) rfl rfl 7 rfl [2, 3, 4, 5] [0, 1, 6] rfl rfl [go h b rm hi, ydW Γ (b 0) an r, eI Γ (b 7) 7 rf] rfl [go h b rm hi, ydW Γ (b 0) an r, eO (b 5) 2 [.ref (b 11), .ref (b 12), .ref (b 13), .int (bestS r)], eI Γ (b 11) 64 u1.1, eI Γ (b 12) 64 u1.2.1, eI Γ (b 13) 64 u1.2.2, eI Γ (b 7) 7 rf] rfl rfl rfl [] rfl (Nat.le_of_ble_eq_true rfl) ?_
        refine r_goto K dX6_seat_67 ?_
        have he : eSeat r x = 0 := by
          unfold eSeat
          rw [if_neg (fun z => z.1 c2)]
        refine r_arr K (f2 := chE (eSeat r x) rf (nof rf (eSeat r x))) (ws1 := [go h b rm hi, ydW Γ (b 0) an r, eO (b 5) 2 [.ref (b 11), .ref (b 12), .ref (b 13), .int (bestS r)], eI Γ (b 11) 64 u1.1, eI Γ (b 12) 64 u1.2.1, eI Γ (b 13) 64 u1.2.2, eI Γ (b 7) 7 (chE (eSeat r x) rf (nof rf (eSeat r x)))]) 6 rfl (fun _ _ => by rw [chE_0 he]) rfl ?_
        exact hR (bestS r, u1.1, u1.2.1, u1.2.2) dX6_seat_78 (trivial) (e_ri (ex_0 he (by unfold aSeat; rw [if_neg c29, if_pos c2]))) (weq.rf)
    · refine r_iload_n K dX6_seat_32 1 rfl ?_
      refine r_iconst K dX6_seat_33 ((-1)) (by decide) ?_
      refine r_ic_ne K dX6_seat_34 (fun c34 => ?_) (fun c34 => ?_)
      · exact absurd c2 c34
      · refine r_iconst K dX6_seat_37 (nI 0) (by decide) ?_
        refine r_goto K dX6_seat_38 ?_
        have he : eSeat r x = 0 := by
          unfold eSeat
          rw [if_neg (fun z => z.1 c2)]
        refine r_arr K (f2 := chE (eSeat r x) rf (nof rf (eSeat r x))) (ws1 := [go h b rm hi, ydW Γ (b 0) an r, eO (b 5) 2 [.ref (b 11), .ref (b 12), .ref (b 13), .int be], eI Γ (b 11) 64 f0, eI Γ (b 12) 64 f1, eI Γ (b 13) 64 f2, eI Γ (b 7) 7 (chE (eSeat r x) rf (nof rf (eSeat r x)))]) 6 rfl (fun _ _ => by rw [chE_0 he]) rfl ?_
        exact hR (be, f0, f1, f2) dX6_seat_43 (trivial) (e_ri (ex_0 he (by unfold aSeat; rw [if_pos c29, if_pos c2]))) (weq.rf)
  · refine r_aload_n K dX6_seat_5 0 rfl ?_
    refine r_get K dX6_seat_6 (kf := 0) 0 rfl rfl hinX6 (by decide) q114 rfl rfl ?_
    refine r_iload_n K dX6_seat_9 1 rfl ?_
    refine r_cVd K dX6_seat_10 (c_X0_hasMourner l Γ (b 0) an r x (hI)) mX0_hasMourner q347 rfl (by decide) rfl rfl 7 rfl [1] [0, 2, 3, 4, 5, 6] rfl rfl [go h b rm hi, eO (b 5) 2 [.ref (b 11), .ref (b 12), .ref (b 13), .int be], eI Γ (b 11) 64 f0, eI Γ (b 12) 64 f1, eI Γ (b 13) 64 f2, eI Γ (b 7) 7 rf] rfl [go h b rm hi, ydW Γ (b 0) an r, eO (b 5) 2 [.ref (b 11), .ref (b 12), .ref (b 13), .int be], eI Γ (b 11) 64 f0, eI Γ (b 12) 64 f1, eI Γ (b 13) 64 f2, eI Γ (b 7) 7 rf] rfl rfl rfl [] rfl (Nat.le_of_ble_eq_true rfl) ?_
    refine r_ifneB K dX6_seat_13 (fun c13 => ?_) (fun c13 => ?_)
    · have hx := inN_e c13 (by omega)
      have lx := ix_lt c13 (by omega)
      refine r_lc (lv1 := [(0, .ref h), (1, .int (nI (ix x)))]) (congrArg (fun zz : Int32 => ([(0, .ref h), (1, .int zz)] : List (Nat × Value))) (hx)) ?_
      refine r_aload_n K dX6_seat_22 0 rfl ?_
      refine r_get K dX6_seat_23 (kf := 0) 0 rfl rfl hinX6 (by decide) q114 rfl rfl ?_
      refine r_cVd K dX6_seat_26 (c_X0_graveCount l Γ (b 0) an r (hI)) mX0_graveCount q475 rfl (by decide) rfl rfl 7 rfl [1] [0, 2, 3, 4, 5, 6] rfl rfl [go h b rm hi, eO (b 5) 2 [.ref (b 11), .ref (b 12), .ref (b 13), .int be], eI Γ (b 11) 64 f0, eI Γ (b 12) 64 f1, eI Γ (b 13) 64 f2, eI Γ (b 7) 7 rf] rfl [go h b rm hi, ydW Γ (b 0) an r, eO (b 5) 2 [.ref (b 11), .ref (b 12), .ref (b 13), .int be], eI Γ (b 11) 64 f0, eI Γ (b 12) 64 f1, eI Γ (b 13) 64 f2, eI Γ (b 7) 7 rf] rfl rfl rfl [] rfl (Nat.le_of_ble_eq_true rfl) ?_
      refine r_if_neN K dX6_seat_29 (by omega) (fun c29 => ?_) (fun c29 => ?_)
      · refine r_aload_n K dX6_seat_44 0 rfl ?_
        refine r_get K dX6_seat_45 (kf := 5) 0 rfl rfl hinX6 (by decide) q119 rfl rfl ?_
        refine r_aload_n K dX6_seat_48 0 rfl ?_
        refine r_get K dX6_seat_49 (kf := 0) 0 rfl rfl hinX6 (by decide) q114 rfl rfl ?_
        refine r_cV K dX6_seat_52 (c_X4_weigh l Γ (b 5) (b 11) (b 12) (b 13) be f0 f1 f2 (b 0) an r (hI)) mX4_weigh q476 rfl (by decide) rfl rfl 7 rfl [2, 3, 4, 5, 1] [0, 6] rfl rfl [go h b rm hi, eI Γ (b 7) 7 rf] rfl (fun u => [go h b rm hi, ydW Γ (b 0) an r, eO (b 5) 2 [.ref (b 11), .ref (b 12), .ref (b 13), .int (bestS r)], eI Γ (b 11) 64 u.1, eI Γ (b 12) 64 u.2.1, eI Γ (b 13) 64 u.2.2, eI Γ (b 7) 7 rf]) (fun _ => rfl) (fun _ => rfl) (fun _ => rfl) [] rfl (Nat.le_of_ble_eq_true rfl) (fun u3 hu4 => ?_)
        show V 55 _ [] [go h b rm hi, ydW Γ (b 0) an r, eO (b 5) 2 [.ref (b 11), .ref (b 12), .ref (b 13), .int (bestS r)], eI Γ (b 11) 64 u3.1, eI Γ (b 12) 64 u3.2.1, eI Γ (b 13) 64 u3.2.2, eI Γ (b 7) 7 rf]
        refine r_iload_n K dX6_seat_55 1 rfl ?_
        refine r_iconst K dX6_seat_56 ((-1)) (by decide) ?_
        refine r_ic_ne K dX6_seat_57 (fun c57 => ?_) (fun c57 => ?_)
        · refine r_aload_n K dX6_seat_70 0 rfl ?_
          refine r_get K dX6_seat_71 (kf := 5) 0 rfl rfl hinX6 (by decide) q119 rfl rfl ?_
          refine r_iload_n K dX6_seat_74 1 rfl ?_
          refine r_cVd K dX6_seat_75 (c_X4_graveOf l Γ (b 5) (b 11) (b 12) (b 13) (bestS r) u3.1 u3.2.1 u3.2.2 sx sc (ix x) (hb (by omega)) (hx31) (hc (by omega)) (hc1) (by first | assumption | omega)) mX4_graveOf q508 rfl (by decide) rfl rfl 7 rfl [2, 3, 4, 5] [0, 1, 6] rfl rfl [go h b rm hi, ydW Γ (b 0) an r, eI Γ (b 7) 7 rf] rfl [go h b rm hi, ydW Γ (b 0) an r, eO (b 5) 2 [.ref (b 11), .ref (b 12), .ref (b 13), .int (bestS r)], eI Γ (b 11) 64 u3.1, eI Γ (b 12) 64 u3.2.1, eI Γ (b 13) 64 u3.2.2, eI Γ (b 7) 7 rf] rfl rfl rfl [] rfl (Nat.le_of_ble_eq_true rfl) ?_
          have he : eSeat r x = 0 := by
            unfold eSeat
            rw [if_neg (fun z => z.2 c13)]
          refine r_arr K (f2 := chE (eSeat r x) rf (nof rf (eSeat r x))) (ws1 := [go h b rm hi, ydW Γ (b 0) an r, eO (b 5) 2 [.ref (b 11), .ref (b 12), .ref (b 13), .int (bestS r)], eI Γ (b 11) 64 u3.1, eI Γ (b 12) 64 u3.2.1, eI Γ (b 13) 64 u3.2.2, eI Γ (b 7) 7 (chE (eSeat r x) rf (nof rf (eSeat r x)))]) 6 rfl (fun _ _ => by rw [chE_0 he]) rfl ?_
          exact hR (bestS r, u3.1, u3.2.1, u3.2.2) dX6_seat_78 (trivial) (e_ri (ex_0 he (by unfold aSeat; rw [if_neg c29, if_neg c2]))) (weq.rf)
        · exact absurd (hx.trans c57) c2
      · refine r_iload_n K dX6_seat_32 1 rfl ?_
        refine r_iconst K dX6_seat_33 ((-1)) (by decide) ?_
        refine r_ic_ne K dX6_seat_34 (fun c34 => ?_) (fun c34 => ?_)
        · refine r_bipush K dX6_seat_41 ((-9)) (by decide) ?_
          have he : eSeat r x = 0 := by
            unfold eSeat
            rw [if_neg (fun z => z.2 c13)]
          refine r_arr K (f2 := chE (eSeat r x) rf (nof rf (eSeat r x))) (ws1 := [go h b rm hi, ydW Γ (b 0) an r, eO (b 5) 2 [.ref (b 11), .ref (b 12), .ref (b 13), .int be], eI Γ (b 11) 64 f0, eI Γ (b 12) 64 f1, eI Γ (b 13) 64 f2, eI Γ (b 7) 7 (chE (eSeat r x) rf (nof rf (eSeat r x)))]) 6 rfl (fun _ _ => by rw [chE_0 he]) rfl ?_
          exact hR (be, f0, f1, f2) dX6_seat_43 (trivial) (e_ri (ex_0 he (by unfold aSeat; rw [if_pos c29, if_neg c2]))) (weq.rf)
        · exact absurd (hx.trans c34) c2
    · refine r_aload_n K dX6_seat_16 0 rfl ?_
      refine r_iconst K dX6_seat_17 ((-1)) (by decide) ?_
      refine r_cVd K dX6_seat_18 (c_X6_refuse l Γ h b rm hi rf (-1) (okR_1)) mX6_refuse q149 rfl (by decide) rfl rfl 7 rfl [0, 6] [1, 2, 3, 4, 5] rfl rfl [ydW Γ (b 0) an r, eO (b 5) 2 [.ref (b 11), .ref (b 12), .ref (b 13), .int be], eI Γ (b 11) 64 f0, eI Γ (b 12) 64 f1, eI Γ (b 13) 64 f2] rfl [go h b rm hi, ydW Γ (b 0) an r, eO (b 5) 2 [.ref (b 11), .ref (b 12), .ref (b 13), .int be], eI Γ (b 11) 64 f0, eI Γ (b 12) 64 f1, eI Γ (b 13) 64 f2, eI Γ (b 7) 7 (nof rf (-1))] rfl rfl rfl [] rfl (Nat.le_of_ble_eq_true rfl) ?_
      have he : eSeat r x = (-1) := by
        unfold eSeat
        rw [if_pos ⟨c2, nt c13⟩]
      refine r_arr K (f2 := chE (eSeat r x) rf (nof rf (eSeat r x))) (ws1 := [go h b rm hi, ydW Γ (b 0) an r, eO (b 5) 2 [.ref (b 11), .ref (b 12), .ref (b 13), .int be], eI Γ (b 11) 64 f0, eI Γ (b 12) 64 f1, eI Γ (b 13) 64 f2, eI Γ (b 7) 7 (chE (eSeat r x) rf (nof rf (eSeat r x)))]) 6 rfl (fun _ _ => by rw [ch_n (g := nof rf) he (by decide)]) rfl ?_
      exact hR (be, f0, f1, f2) dX6_seat_21 (trivial) (e_ri (ex_n he (by decide))) (weq.rf)
