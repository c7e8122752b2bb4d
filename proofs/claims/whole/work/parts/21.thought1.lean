set_option maxHeartbeats 1000000 in
set_option maxRecDepth 20000 in
theorem c_X5_after (l : Launch) (Γ : eG) (t : Nat) (hn : Nat) (hm : Nat) (dd : Nat) (sd : Int32) (an : Nat → Nat) (am : Nat → Nat) (r : Nat → Int32) (q : Nat → Int32) (n : Nat) (hI : Inv r) (hn31 : n < 2 ^ 31) : cD l Γ yX5_after cX5_after 2 ((some (.object "GravediggerPaid$Churchyard"))) 4 [.ref t, .int (nI n)] [eO t 3 [.ref hn, .ref hm, .ref dd, .int sd], ydW Γ hn an r, ydW Γ hm am q] (some (.ref hm)) [eO t 3 [.ref hn, .ref hm, .ref dd, .int sd], ydW Γ hn an r, ydW Γ hm am (daysS r n)] := by
  refine e_ref [(0, .ref t), (1, .int (nI n))] (by decide +kernel) (Nat.le_of_ble_eq_true rfl) rfl (fun V K hR => ?_)
  have h5 := hI.g
  have h6 := hI.m
  refine r_aload_n K dX5_after_0 0 rfl ?_
  refine r_get K dX5_after_1 (kf := 1) 0 rfl rfl hinX5 (by decide) q70 rfl rfl ?_
  refine r_aload_n K dX5_after_4 0 rfl ?_
  refine r_get K dX5_after_5 (kf := 0) 0 rfl rfl hinX5 (by decide) q69 rfl rfl ?_
  refine r_cVn K dX5_after_8 (c_X0_become l Γ hm am q hn an r) mX0_become q413 rfl (by decide) rfl rfl 3 rfl [2, 1] [0] rfl rfl [eO t 3 [.ref hn, .ref hm, .ref dd, .int sd]] rfl [eO t 3 [.ref hn, .ref hm, .ref dd, .int sd], ydW Γ hn an r, ydW Γ hm am r] rfl rfl rfl [] rfl (Nat.le_of_ble_eq_true rfl) ?_
  refine r_aload_n K dX5_after_11 0 rfl ?_
  refine r_get K dX5_after_12 (kf := 1) 0 rfl rfl hinX5 (by decide) q70 rfl rfl ?_
  refine r_iload_n K dX5_after_15 1 rfl ?_
  refine r_cVn K dX5_after_16 (c_X0_passDays l Γ hm am r n (hI) (by first | assumption | omega)) mX0_passDays q414 rfl (by decide) rfl rfl 3 rfl [2] [0, 1] rfl rfl [eO t 3 [.ref hn, .ref hm, .ref dd, .int sd], ydW Γ hn an r] rfl [eO t 3 [.ref hn, .ref hm, .ref dd, .int sd], ydW Γ hn an r, ydW Γ hm am (daysS r n)] rfl rfl rfl [] rfl (Nat.le_of_ble_eq_true rfl) ?_
  refine r_aload_n K dX5_after_19 0 rfl ?_
  refine r_get K dX5_after_20 (kf := 1) 0 rfl rfl hinX5 (by decide) q70 rfl rfl ?_
  exact hR () dX5_after_23 (trivial) (e_rr (rfl)) (weq.rf)
set_option maxHeartbeats 1000000 in
set_option maxRecDepth 20000 in
theorem c_X5_daysTillDeep (l : Launch) (Γ : eG) (t : Nat) (hn : Nat) (hm : Nat) (dd : Nat) (sd : Int32) (an : Nat → Nat) (am : Nat → Nat) (r : Nat → Int32) (q : Nat → Int32) (g : Nat) (v : Int32) (hI : Inv r) (hg : g < nG r) : cE l Γ yX5_daysTillDeep cX5_daysTillDeep 5 (some .int) 3 [.ref t, .int (nI g), .int v, .int (nI 60)] [eO t 3 [.ref hn, .ref hm, .ref dd, .int sd], ydW Γ hn an r, ydW Γ hm am q] (S := Nat → Int32) (fun u => True) (fun u => (some (.int (deepL g v 61 r 0)))) (fun u => [eO t 3 [.ref hn, .ref hm, .ref dd, .int sd], ydW Γ hn an r, ydW Γ hm am u]) := by
  refine e_int [(0, .ref t), (1, .int (nI g)), (2, .int v), (3, .int (nI 60))] (by decide +kernel) (Nat.le_of_ble_eq_true rfl) rfl (fun V K hR => ?_)
  have h5 := hI.g
  have h6 := hI.m
  refine r_aload_n K dX5_daysTillDeep_0 0 rfl ?_
  refine r_get K dX5_daysTillDeep_1 (kf := 1) 0 rfl rfl hinX5 (by decide) q70 rfl rfl ?_
  refine r_aload_n K dX5_daysTillDeep_4 0 rfl ?_
  refine r_get K dX5_daysTillDeep_5 (kf := 0) 0 rfl rfl hinX5 (by decide) q69 rfl rfl ?_
  refine r_cVn K dX5_daysTillDeep_8 (c_X0_become l Γ hm am q hn an r) mX0_become q413 rfl (by decide) rfl rfl 3 rfl [2, 1] [0] rfl rfl [eO t 3 [.ref hn, .ref hm, .ref dd, .int sd]] rfl [eO t 3 [.ref hn, .ref hm, .ref dd, .int sd], ydW Γ hn an r, ydW Γ hm am r] rfl rfl rfl [] rfl (Nat.le_of_ble_eq_true rfl) ?_
  refine r_iconst K dX5_daysTillDeep_11 (nI 0) (by decide) ?_
  refine r_istore K dX5_daysTillDeep_12 (by decide) (lv1 := [(4, .int (nI 0)), (0, .ref t), (1, .int (nI g)), (2, .int v), (3, .int (nI 60))]) rfl ?_
  have L14 : ∀ (fL14 : Nat) (f : Nat) (n : Nat), (f + n = 61) → (deepL g v 61 r 0 = deepL g v f (daysS r n) n) → f < fL14 → V 14 [(4, .int (nI n)), (0, .ref t), (1, .int (nI g)), (2, .int v), (3, .int (nI 60))] [] [eO t 3 [.ref hn, .ref hm, .ref dd, .int sd], ydW Γ hn an r, ydW Γ hm am (daysS r n)] := by
    intro fL14
    induction fL14 with
    | zero => intro f n hfn hE hf; exact absurd hf (Nat.not_lt_zero _)
    | succ fL14 ih_L14 =>
      intro f n hfn hE hfL14
      refine r_iload K dX5_daysTillDeep_14 0 rfl ?_
      refine r_iload_n K dX5_daysTillDeep_16 4 rfl ?_
      refine r_ic_gtN K dX5_daysTillDeep_17 (by omega) (by omega) (fun c17 => ?_) (fun c17 => ?_)
      · obtain rfl : f = 0 := by omega
        refine r_bipush K dX5_daysTillDeep_48 ((-9)) (by decide) ?_
        exact hR (daysS r n) dX5_daysTillDeep_50 (trivial) (e_ri (hE)) (weq.rf)
      · obtain ⟨f, rfl⟩ : ∃ q, f = q + 1 := ⟨f - 1, by omega⟩
        refine r_aload_n K dX5_daysTillDeep_20 1 rfl ?_
        refine r_get K dX5_daysTillDeep_21 (kf := 1) 0 rfl rfl hinX5 (by decide) q70 rfl rfl ?_
        refine r_iload_n K dX5_daysTillDeep_24 2 rfl ?_
        refine r_cVd K dX5_daysTillDeep_25 (c_X0_depthN l Γ hm am (daysS r n) g (Inv_daysS (hI) n) (by first | omega | (simp only [daysS_nM, daysS_nG, dayS_nM, dayS_nG, tellS_nM, tellS_nG, aloneTo_nM, aloneTo_nG, nM_M, nG_M, nM_G, nG_G, lv_nM, lv_nG, gnT_nM, gnT_nG] <;> omega))) mX0_depth q431 rfl (by decide) rfl rfl 3 rfl [2] [0, 1] rfl rfl [eO t 3 [.ref hn, .ref hm, .ref dd, .int sd], ydW Γ hn an r] rfl [eO t 3 [.ref hn, .ref hm, .ref dd, .int sd], ydW Γ hn an r, ydW Γ hm am (daysS r n)] rfl rfl rfl [] rfl (Nat.le_of_ble_eq_true rfl) ?_
        refine r_iload_n K dX5_daysTillDeep_28 3 rfl ?_
        refine r_ic_lt K dX5_daysTillDeep_29 (fun c29 => ?_) (fun c29 => ?_)
        · refine r_aload_n K dX5_daysTillDeep_35 1 rfl ?_
          refine r_get K dX5_daysTillDeep_36 (kf := 1) 0 rfl rfl hinX5 (by decide) q70 rfl rfl ?_
          refine r_cVn K dX5_daysTillDeep_39 (c_X0_passDay l Γ hm am (daysS r n) (Inv_daysS (hI) n)) mX0_passDay q432 rfl (by decide) rfl rfl 3 rfl [2] [0, 1] rfl rfl [eO t 3 [.ref hn, .ref hm, .ref dd, .int sd], ydW Γ hn an r] rfl [eO t 3 [.ref hn, .ref hm, .ref dd, .int sd], ydW Γ hn an r, ydW Γ hm am (dayS (daysS r n))] rfl rfl rfl [] rfl (Nat.le_of_ble_eq_true rfl) ?_
          refine r_iincN K dX5_daysTillDeep_42 (n := 1) 0 rfl rfl (by decide) (lv1 := [(4, .int (nI (n + 1))), (0, .ref t), (1, .int (nI g)), (2, .int v), (3, .int (nI 60))]) rfl ?_
          refine r_goto K dX5_daysTillDeep_45 ?_
          refine r_ws K (ws1 := [eO t 3 [.ref hn, .ref hm, .ref dd, .int sd], ydW Γ hn an r, ydW Γ hm am (daysS r (n + 1))]) (by rw [daysS_s]; exact weq.rf) ?_
          exact ih_L14 f (n + 1) (by omega) (hE.trans (deepL_n (Int32.not_le.mpr c29))) (by omega)
        · refine r_iload K dX5_daysTillDeep_32 0 rfl ?_
          exact hR (daysS r n) dX5_daysTillDeep_34 (trivial) (e_ri (hE.trans (deepL_t (Int32.not_lt.mp c29)))) (weq.rf)
  refine r_ws K (ws1 := [eO t 3 [.ref hn, .ref hm, .ref dd, .int sd], ydW Γ hn an r, ydW Γ hm am (daysS r 0)]) (by exact weq.rf) ?_
  exact L14 _ 61 0 (rfl) (rfl) (Nat.lt_succ_self _)
set_option maxHeartbeats 1000000 in
set_option maxRecDepth 20000 in
theorem c_X5_graveFootDeeperInMind (l : Launch) (Γ : eG) (t : Nat) (hn : Nat) (hm : Nat) (dd : Nat) (sd : Int32) (an : Nat → Nat) (am : Nat → Nat) (r : Nat → Int32) (q : Nat → Int32) (hI : Inv r) (hJ : Inv q) (hG : nG q = nG r) : cD l Γ yX5_graveFootDeeperInMind cX5_graveFootDeeperInMind 2 (some .int) 2 [.ref t] [eO t 3 [.ref hn, .ref hm, .ref dd, .int sd], ydW Γ hn an r, ydW Γ hm am q] (some (.int (ffF r q (nG r) 0))) [eO t 3 [.ref hn, .ref hm, .ref dd, .int sd], ydW Γ hn an r, ydW Γ hm am q] := by
  refine e_int [(0, .ref t)] (by decide +kernel) (Nat.le_of_ble_eq_true rfl) rfl (fun V K hR => ?_)
  have h5 := hI.g
  have h6 := hI.m
  refine r_iconst K dX5_graveFootDeeperInMind_0 (nI 0) (by decide) ?_
  refine r_istore_n K dX5_graveFootDeeperInMind_1 rfl (by decide) (lv1 := [(1, .int (nI 0)), (0, .ref t)]) rfl ?_
  have L2 : ∀ (fL2 : Nat) (f : Nat) (g : Nat), (f + g = nG r) → (ffF r q (nG r) 0 = ffF r q f g) → f < fL2 → V 2 [(1, .int (nI g)), (0, .ref t)] [] [eO t 3 [.ref hn, .ref hm, .ref dd, .int sd], ydW Γ hn an r, ydW Γ hm am q] := by
    intro fL2
    induction fL2 with
    | zero => intro f g hfg hE hf; exact absurd hf (Nat.not_lt_zero _)
    | succ fL2 ih_L2 =>
      intro f g hfg hE hfL2
      refine r_iload_n K dX5_graveFootDeeperInMind_2 0 rfl ?_
      refine r_aload_n K dX5_graveFootDeeperInMind_3 1 rfl ?_
      refine r_get K dX5_graveFootDeeperInMind_4 (kf := 0) 0 rfl rfl hinX5 (by decide) q69 rfl rfl ?_
      refine r_cVd K dX5_graveFootDeeperInMind_7 (c_X0_graveCount l Γ hn an r (hI)) mX0_graveCount q449 rfl (by decide) rfl rfl 3 rfl [1] [0, 2] rfl rfl [eO t 3 [.ref hn, .ref hm, .ref dd, .int sd], ydW Γ hm am q] rfl [eO t 3 [.ref hn, .ref hm, .ref dd, .int sd], ydW Γ hn an r, ydW Γ hm am q] rfl rfl rfl [.int (nI g)] rfl (Nat.le_of_ble_eq_true rfl) ?_
      refine r_ic_geN K dX5_graveFootDeeperInMind_10 (by omega) (by omega) (fun c10 => ?_) (fun c10 => ?_)
      · obtain rfl : f = 0 := by omega
        refine r_bipush K dX5_graveFootDeeperInMind_43 ((-9)) (by decide) ?_
        exact hR () dX5_graveFootDeeperInMind_45 (trivial) (e_ri (hE)) (weq.rf)
      · obtain ⟨f, rfl⟩ : ∃ q, f = q + 1 := ⟨f - 1, by omega⟩
        refine r_aload_n K dX5_graveFootDeeperInMind_13 1 rfl ?_
        refine r_get K dX5_graveFootDeeperInMind_14 (kf := 1) 0 rfl rfl hinX5 (by decide) q70 rfl rfl ?_
        refine r_iload_n K dX5_graveFootDeeperInMind_17 0 rfl ?_
        refine r_cVd K dX5_graveFootDeeperInMind_18 (c_X0_depthN l Γ hm am q g (hJ) (by first | omega | (simp only [daysS_nM, daysS_nG, dayS_nM, dayS_nG, tellS_nM, tellS_nG, aloneTo_nM, aloneTo_nG, nM_M, nG_M, nM_G, nG_G, lv_nM, lv_nG, gnT_nM, gnT_nG] <;> omega))) mX0_depth q431 rfl (by decide) rfl rfl 3 rfl [2] [0, 1] rfl rfl [eO t 3 [.ref hn, .ref hm, .ref dd, .int sd], ydW Γ hn an r] rfl [eO t 3 [.ref hn, .ref hm, .ref dd, .int sd], ydW Γ hn an r, ydW Γ hm am q] rfl rfl rfl [] rfl (Nat.le_of_ble_eq_true rfl) ?_
        refine r_aload_n K dX5_graveFootDeeperInMind_21 1 rfl ?_
        refine r_get K dX5_graveFootDeeperInMind_22 (kf := 0) 0 rfl rfl hinX5 (by decide) q69 rfl rfl ?_
        refine r_iload_n K dX5_graveFootDeeperInMind_25 0 rfl ?_
        refine r_cVd K dX5_graveFootDeeperInMind_26 (c_X0_depthN l Γ hn an r g (hI) (by first | omega | (simp only [daysS_nM, daysS_nG, dayS_nM, dayS_nG, tellS_nM, tellS_nG, aloneTo_nM, aloneTo_nG, nM_M, nG_M, nM_G, nG_G, lv_nM, lv_nG, gnT_nM, gnT_nG] <;> omega))) mX0_depth q431 rfl (by decide) rfl rfl 3 rfl [1] [0, 2] rfl rfl [eO t 3 [.ref hn, .ref hm, .ref dd, .int sd], ydW Γ hm am q] rfl [eO t 3 [.ref hn, .ref hm, .ref dd, .int sd], ydW Γ hn an r, ydW Γ hm am q] rfl rfl rfl [.int (q (iG g 1))] rfl (Nat.le_of_ble_eq_true rfl) ?_
        refine r_isub K dX5_graveFootDeeperInMind_29 ?_
        refine r_bipush K dX5_graveFootDeeperInMind_30 (nI 12) (by decide) ?_
        refine r_ic_lt K dX5_graveFootDeeperInMind_32 (fun c32 => ?_) (fun c32 => ?_)
        · refine r_iincN K dX5_graveFootDeeperInMind_37 (n := 1) 0 rfl rfl (by decide) (lv1 := [(1, .int (nI (g + 1))), (0, .ref t)]) rfl ?_
          refine r_goto K dX5_graveFootDeeperInMind_40 ?_
          exact ih_L2 f (g + 1) (by omega) (hE.trans (ffF_n (Int32.not_le.mpr c32))) (by omega)
        · refine r_iload_n K dX5_graveFootDeeperInMind_35 0 rfl ?_
          exact hR () dX5_graveFootDeeperInMind_36 (trivial) (e_ri (hE.trans (ffF_t (Int32.not_lt.mp c32)))) (weq.rf)
  exact L2 _ (nG r) 0 (rfl) (rfl) (Nat.lt_succ_self _)
set_option maxHeartbeats 1000000 in
set_option maxRecDepth 20000 in
theorem c_X5_daysTillFootDeeper (l : Launch) (Γ : eG) (t : Nat) (hn : Nat) (hm : Nat) (dd : Nat) (sd : Int32) (an : Nat → Nat) (am : Nat → Nat) (r : Nat → Int32) (q : Nat → Int32) (hI : Inv r) : cE l Γ yX5_daysTillFootDeeper cX5_daysTillFootDeeper 3 (some .int) 3 [.ref t, .int (nI 60)] [eO t 3 [.ref hn, .ref hm, .ref dd, .int sd], ydW Γ hn an r, ydW Γ hm am q] (S := Nat → Int32) (fun u => (ftL r 61 r 0 = -9 → ftG r 61 r = -9) ∧ (¬ ftL r 61 r 0 = -9 → Inv u ∧ nG u = nG r ∧ ffF r u (nG r) 0 = ftG r 61 r)) (fun u => (some (.int (ftL r 61 r 0)))) (fun u => [eO t 3 [.ref hn, .ref hm, .ref dd, .int sd], ydW Γ hn an r, ydW Γ hm am u]) := by
  refine e_int [(0, .ref t), (1, .int (nI 60))] (by decide +kernel) (Nat.le_of_ble_eq_true rfl) rfl (fun V K hR => ?_)
  have h5 := hI.g
  have h6 := hI.m
  refine r_aload_n K dX5_daysTillFootDeeper_0 0 rfl ?_
  refine r_get K dX5_daysTillFootDeeper_1 (kf := 1) 0 rfl rfl hinX5 (by decide) q70 rfl rfl ?_
  refine r_aload_n K dX5_daysTillFootDeeper_4 0 rfl ?_
  refine r_get K dX5_daysTillFootDeeper_5 (kf := 0) 0 rfl rfl hinX5 (by decide) q69 rfl rfl ?_
  refine r_cVn K dX5_daysTillFootDeeper_8 (c_X0_become l Γ hm am q hn an r) mX0_become q413 rfl (by decide) rfl rfl 3 rfl [2, 1] [0] rfl rfl [eO t 3 [.ref hn, .ref hm, .ref dd, .int sd]] rfl [eO t 3 [.ref hn, .ref hm, .ref dd, .int sd], ydW Γ hn an r, ydW Γ hm am r] rfl rfl rfl [] rfl (Nat.le_of_ble_eq_true rfl) ?_
  refine r_iconst K dX5_daysTillFootDeeper_11 (nI 0) (by decide) ?_
  refine r_istore_n K dX5_daysTillFootDeeper_12 rfl (by decide) (lv1 := [(2, .int (nI 0)), (0, .ref t), (1, .int (nI 60))]) rfl ?_
  have L13 : ∀ (fL13 : Nat) (f : Nat) (n : Nat), (f + n = 61) → (ftL r 61 r 0 = ftL r f (daysS r n) n) → (ftG r 61 r = ftG r f (daysS r n)) → f < fL13 → V 13 [(2, .int (nI n)), (0, .ref t), (1, .int (nI 60))] [] [eO t 3 [.ref hn, .ref hm, .ref dd, .int sd], ydW Γ hn an r, ydW Γ hm am (daysS r n)] := by
    intro fL13
    induction fL13 with
    | zero => intro f n hfn hE hF hf; exact absurd hf (Nat.not_lt_zero _)
    | succ fL13 ih_L13 =>
      intro f n hfn hE hF hfL13
      refine r_iload_n K dX5_daysTillFootDeeper_13 0 rfl ?_
      refine r_iload_n K dX5_daysTillFootDeeper_14 2 rfl ?_
      refine r_ic_gtN K dX5_daysTillFootDeeper_15 (by omega) (by omega) (fun c15 => ?_) (fun c15 => ?_)
      · obtain rfl : f = 0 := by omega
        refine r_bipush K dX5_daysTillFootDeeper_42 ((-9)) (by decide) ?_
        exact hR (daysS r n) dX5_daysTillFootDeeper_44 (⟨fun _ => hF, fun z => absurd hE z⟩) (e_ri (hE)) (weq.rf)
      · obtain ⟨f, rfl⟩ : ∃ q, f = q + 1 := ⟨f - 1, by omega⟩
        refine r_aload_n K dX5_daysTillFootDeeper_18 1 rfl ?_
        refine r_cVd K dX5_daysTillFootDeeper_19 (c_X5_graveFootDeeperInMind l Γ t hn hm dd sd an am r (daysS r n) (hI) (Inv_daysS (hI) n) (by first | omega | (simp only [daysS_nM, daysS_nG, dayS_nM, dayS_nG, tellS_nM, tellS_nG, aloneTo_nM, aloneTo_nG, nM_M, nG_M, nM_G, nG_G, lv_nM, lv_nG, gnT_nM, gnT_nG] <;> omega))) mX5_graveFootDeeperInMind q445 rfl (by decide) rfl rfl 3 rfl [0, 1, 2] [] rfl rfl [] rfl [eO t 3 [.ref hn, .ref hm, .ref dd, .int sd], ydW Γ hn an r, ydW Γ hm am (daysS r n)] rfl rfl rfl [] rfl (Nat.le_of_ble_eq_true rfl) ?_
        refine r_bipush K dX5_daysTillFootDeeper_22 ((-9)) (by decide) ?_
        refine r_ic_eq K dX5_daysTillFootDeeper_24 (fun c24 => ?_) (fun c24 => ?_)
        · refine r_aload_n K dX5_daysTillFootDeeper_29 1 rfl ?_
          refine r_get K dX5_daysTillFootDeeper_30 (kf := 1) 0 rfl rfl hinX5 (by decide) q70 rfl rfl ?_
          refine r_cVn K dX5_daysTillFootDeeper_33 (c_X0_passDay l Γ hm am (daysS r n) (Inv_daysS (hI) n)) mX0_passDay q432 rfl (by decide) rfl rfl 3 rfl [2] [0, 1] rfl rfl [eO t 3 [.ref hn, .ref hm, .ref dd, .int sd], ydW Γ hn an r] rfl [eO t 3 [.ref hn, .ref hm, .ref dd, .int sd], ydW Γ hn an r, ydW Γ hm am (dayS (daysS r n))] rfl rfl rfl [] rfl (Nat.le_of_ble_eq_true rfl) ?_
          refine r_iincN K dX5_daysTillFootDeeper_36 (n := 1) 0 rfl rfl (by decide) (lv1 := [(2, .int (nI (n + 1))), (0, .ref t), (1, .int (nI 60))]) rfl ?_
          refine r_goto K dX5_daysTillFootDeeper_39 ?_
          refine r_ws K (ws1 := [eO t 3 [.ref hn, .ref hm, .ref dd, .int sd], ydW Γ hn an r, ydW Γ hm am (daysS r (n + 1))]) (by rw [daysS_s]; exact weq.rf) ?_
          exact ih_L13 f (n + 1) (by omega) (hE.trans (ftL_n c24)) (hF.trans (ftG_n c24)) (by omega)
        · refine r_iload_n K dX5_daysTillFootDeeper_27 0 rfl ?_
          exact hR (daysS r n) dX5_daysTillFootDeeper_28 (⟨fun z => absurd ((hE.trans (ftL_t c24)).symm.trans z) (nI_n9 (by omega)), fun _ => ⟨Inv_daysS hI n, daysS_nG n, (hF.trans (ftG_t c24)).symm⟩⟩) (e_ri (hE.trans (ftL_t c24))) (weq.rf)
  refine r_ws K (ws1 := [eO t 3 [.ref hn, .ref hm, .ref dd, .int sd], ydW Γ hn an r, ydW Γ hm am (daysS r 0)]) (by exact weq.rf) ?_
  exact L13 _ 61 0 (rfl) (rfl) (rfl) (Nat.lt_succ_self _)
set_option maxHeartbeats 1000000 in
set_option maxRecDepth 20000 in
theorem c_X5_graveFirstFootDeeper (l : Launch) (Γ : eG) (t : Nat) (hn : Nat) (hm : Nat) (dd : Nat) (sd : Int32) (an : Nat → Nat) (am : Nat → Nat) (r : Nat → Int32) (q : Nat → Int32) (hI : Inv r) : cE l Γ yX5_graveFirstFootDeeper cX5_graveFirstFootDeeper 3 (some .int) 4 [.ref t, .int (nI 60)] [eO t 3 [.ref hn, .ref hm, .ref dd, .int sd], ydW Γ hn an r, ydW Γ hm am q] (S := Nat → Int32) (fun u => True) (fun u => (some (.int (ftG r 61 r)))) (fun u => [eO t 3 [.ref hn, .ref hm, .ref dd, .int sd], ydW Γ hn an r, ydW Γ hm am u]) := by
  refine e_int [(0, .ref t), (1, .int (nI 60))] (by decide +kernel) (Nat.le_of_ble_eq_true rfl) rfl (fun V K hR => ?_)
  have h5 := hI.g
  have h6 := hI.m
  refine r_aload_n K dX5_graveFirstFootDeeper_0 0 rfl ?_
  refine r_iload_n K dX5_graveFirstFootDeeper_1 1 rfl ?_
  refine r_cV K dX5_graveFirstFootDeeper_2 (c_X5_daysTillFootDeeper l Γ t hn hm dd sd an am r q (hI)) mX5_daysTillFootDeeper q441 rfl (by decide) rfl rfl 3 rfl [0, 1, 2] [] rfl rfl [] rfl (fun u => [eO t 3 [.ref hn, .ref hm, .ref dd, .int sd], ydW Γ hn an r, ydW Γ hm am u]) (fun _ => rfl) (fun _ => rfl) (fun _ => rfl) [] rfl (Nat.le_of_ble_eq_true rfl) (fun u hu => ?_)
  show V 5 _ [.int (ftL r 61 r 0)] [eO t 3 [.ref hn, .ref hm, .ref dd, .int sd], ydW Γ hn an r, ydW Γ hm am u]
  refine r_istore_n K dX5_graveFirstFootDeeper_5 rfl (by decide) (lv1 := [(2, .int (ftL r 61 r 0)), (0, .ref t), (1, .int (nI 60))]) rfl ?_
  refine r_iload_n K dX5_graveFirstFootDeeper_6 0 rfl ?_
  refine r_bipush K dX5_graveFirstFootDeeper_7 ((-9)) (by decide) ?_
  refine r_ic_ne K dX5_graveFirstFootDeeper_9 (fun c9 => ?_) (fun c9 => ?_)
  · refine r_aload_n K dX5_graveFirstFootDeeper_17 1 rfl ?_
    refine r_cVd K dX5_graveFirstFootDeeper_18 (c_X5_graveFootDeeperInMind l Γ t hn hm dd sd an am r u (hI) ((hu.2 c9).1) ((hu.2 c9).2.1)) mX5_graveFootDeeperInMind q445 rfl (by decide) rfl rfl 3 rfl [0, 1, 2] [] rfl rfl [] rfl [eO t 3 [.ref hn, .ref hm, .ref dd, .int sd], ydW Γ hn an r, ydW Γ hm am u] rfl rfl rfl [] rfl (Nat.le_of_ble_eq_true rfl) ?_
    exact hR u dX5_graveFirstFootDeeper_21 (trivial) (e_ri ((hu.2 c9).2.2.symm)) (weq.rf)
  · refine r_bipush K dX5_graveFirstFootDeeper_12 ((-9)) (by decide) ?_
    refine r_goto K dX5_graveFirstFootDeeper_14 ?_
    exact hR u dX5_graveFirstFootDeeper_21 (trivial) (e_ri (hu.1 c9)) (weq.rf)
set_option maxHeartbeats 1000000 in
set_option maxRecDepth 20000 in
theorem c_X5_daysTillDry (l : Launch) (Γ : eG) (t : Nat) (hn : Nat) (hm : Nat) (dd : Nat) (sd : Int32) (an : Nat → Nat) (am : Nat → Nat) (r : Nat → Int32) (q : Nat → Int32) (hI : Inv r) : cE l Γ yX5_daysTillDry cX5_daysTillDry 3 (some .int) 4 [.ref t, .int (nI 60)] [eO t 3 [.ref hn, .ref hm, .ref dd, .int sd], ydW Γ hn an r, ydW Γ hm am q] (S := Nat → Int32) (fun u => True) (fun u => (some (.int (dyL 61 r 0)))) (fun u => [eO t 3 [.ref hn, .ref hm, .ref dd, .int sd], ydW Γ hn an r, ydW Γ hm am u]) := by
  refine e_int [(0, .ref t), (1, .int (nI 60))] (by decide +kernel) (Nat.le_of_ble_eq_true rfl) rfl (fun V K hR => ?_)
  have h5 := hI.g
  have h6 := hI.m
  refine r_aload_n K dX5_daysTillDry_0 0 rfl ?_
  refine r_get K dX5_daysTillDry_1 (kf := 1) 0 rfl rfl hinX5 (by decide) q70 rfl rfl ?_
  refine r_aload_n K dX5_daysTillDry_4 0 rfl ?_
  refine r_get K dX5_daysTillDry_5 (kf := 0) 0 rfl rfl hinX5 (by decide) q69 rfl rfl ?_
  refine r_cVn K dX5_daysTillDry_8 (c_X0_become l Γ hm am q hn an r) mX0_become q413 rfl (by decide) rfl rfl 3 rfl [2, 1] [0] rfl rfl [eO t 3 [.ref hn, .ref hm, .ref dd, .int sd]] rfl [eO t 3 [.ref hn, .ref hm, .ref dd, .int sd], ydW Γ hn an r, ydW Γ hm am r] rfl rfl rfl [] rfl (Nat.le_of_ble_eq_true rfl) ?_
  refine r_iconst K dX5_daysTillDry_11 (nI 0) (by decide) ?_
  refine r_istore_n K dX5_daysTillDry_12 rfl (by decide) (lv1 := [(2, .int (nI 0)), (0, .ref t), (1, .int (nI 60))]) rfl ?_
  have L13 : ∀ (fL13 : Nat) (f : Nat) (n : Nat), (f + n = 61) → (dyL 61 r 0 = dyL f (daysS r n) n) → f < fL13 → V 13 [(2, .int (nI n)), (0, .ref t), (1, .int (nI 60))] [] [eO t 3 [.ref hn, .ref hm, .ref dd, .int sd], ydW Γ hn an r, ydW Γ hm am (daysS r n)] := by
    intro fL13
    induction fL13 with
    | zero => intro f n hfn hE hf; exact absurd hf (Nat.not_lt_zero _)
    | succ fL13 ih_L13 =>
      intro f n hfn hE hfL13
      refine r_iload_n K dX5_daysTillDry_13 0 rfl ?_
      refine r_iload_n K dX5_daysTillDry_14 2 rfl ?_
      refine r_ic_gtN K dX5_daysTillDry_15 (by omega) (by omega) (fun c15 => ?_) (fun c15 => ?_)
      · obtain rfl : f = 0 := by omega
        refine r_bipush K dX5_daysTillDry_43 ((-9)) (by decide) ?_
        exact hR (daysS r n) dX5_daysTillDry_45 (trivial) (e_ri (hE)) (weq.rf)
      · obtain ⟨f, rfl⟩ : ∃ q, f = q + 1 := ⟨f - 1, by omega⟩
        refine r_aload_n K dX5_daysTillDry_18 1 rfl ?_
        refine r_get K dX5_daysTillDry_19 (kf := 1) 0 rfl rfl hinX5 (by decide) q70 rfl rfl ?_
        refine r_cVd K dX5_daysTillDry_22 (c_X0_isDry l Γ hm am (daysS r n) (Inv_daysS (hI) n)) mX0_isDry q458 rfl (by decide) rfl rfl 3 rfl [2] [0, 1] rfl rfl [eO t 3 [.ref hn, .ref hm, .ref dd, .int sd], ydW Γ hn an r] rfl [eO t 3 [.ref hn, .ref hm, .ref dd, .int sd], ydW Γ hn an r, ydW Γ hm am (daysS r n)] rfl rfl rfl [] rfl (Nat.le_of_ble_eq_true rfl) ?_
        refine r_ifeqB K dX5_daysTillDry_25 (fun c25 => ?_) (fun c25 => ?_)
        · refine r_aload_n K dX5_daysTillDry_30 1 rfl ?_
          refine r_get K dX5_daysTillDry_31 (kf := 1) 0 rfl rfl hinX5 (by decide) q70 rfl rfl ?_
          refine r_cVn K dX5_daysTillDry_34 (c_X0_passDay l Γ hm am (daysS r n) (Inv_daysS (hI) n)) mX0_passDay q432 rfl (by decide) rfl rfl 3 rfl [2] [0, 1] rfl rfl [eO t 3 [.ref hn, .ref hm, .ref dd, .int sd], ydW Γ hn an r] rfl [eO t 3 [.ref hn, .ref hm, .ref dd, .int sd], ydW Γ hn an r, ydW Γ hm am (dayS (daysS r n))] rfl rfl rfl [] rfl (Nat.le_of_ble_eq_true rfl) ?_
          refine r_iincN K dX5_daysTillDry_37 (n := 1) 0 rfl rfl (by decide) (lv1 := [(2, .int (nI (n + 1))), (0, .ref t), (1, .int (nI 60))]) rfl ?_
          refine r_goto K dX5_daysTillDry_40 ?_
          refine r_ws K (ws1 := [eO t 3 [.ref hn, .ref hm, .ref dd, .int sd], ydW Γ hn an r, ydW Γ hm am (daysS r (n + 1))]) (by rw [daysS_s]; exact weq.rf) ?_
          exact ih_L13 f (n + 1) (by omega) (hE.trans (dyL_n c25)) (by omega)
        · refine r_iload_n K dX5_daysTillDry_28 0 rfl ?_
          exact hR (daysS r n) dX5_daysTillDry_29 (trivial) (e_ri (hE.trans (dyL_t c25))) (weq.rf)
  refine r_ws K (ws1 := [eO t 3 [.ref hn, .ref hm, .ref dd, .int sd], ydW Γ hn an r, ydW Γ hm am (daysS r 0)]) (by exact weq.rf) ?_
  exact L13 _ 61 0 (rfl) (rfl) (Nat.lt_succ_self _)
set_option maxHeartbeats 1000000 in
set_option maxRecDepth 20000 in
theorem c_X5_depthBy (l : Launch) (Γ : eG) (t : Nat) (hn : Nat) (hm : Nat) (dd : Nat) (sd : Int32) (an : Nat → Nat) (am : Nat → Nat) (r : Nat → Int32) (q : Nat → Int32) (s : Nat) (g : Nat) (n : Nat) (hI : Inv r) (hs : s < 64) (hg : g < nG r) (hn31 : n < 2 ^ 31) : cE l Γ yX5_depthBy cX5_depthBy 5 (some .int) 4 [.ref t, .int (nI s), .int (nI g), .int (nI n)] [eO t 3 [.ref hn, .ref hm, .ref dd, .int sd], ydW Γ hn an r, ydW Γ hm am q] (S := Nat → Int32) (fun u => True) (fun u => (some (.int (depS r s g n)))) (fun u => [eO t 3 [.ref hn, .ref hm, .ref dd, .int sd], ydW Γ hn an r, ydW Γ hm am u]) := by
  refine e_int [(0, .ref t), (1, .int (nI s)), (2, .int (nI g)), (3, .int (nI n))] (by decide +kernel) (Nat.le_of_ble_eq_true rfl) rfl (fun V K hR => ?_)
  have h5 := hI.g
  have h6 := hI.m
  refine r_aload_n K dX5_depthBy_0 0 rfl ?_
  refine r_get K dX5_depthBy_1 (kf := 1) 0 rfl rfl hinX5 (by decide) q70 rfl rfl ?_
  refine r_aload_n K dX5_depthBy_4 0 rfl ?_
  refine r_get K dX5_depthBy_5 (kf := 0) 0 rfl rfl hinX5 (by decide) q69 rfl rfl ?_
  refine r_cVn K dX5_depthBy_8 (c_X0_become l Γ hm am q hn an r) mX0_become q413 rfl (by decide) rfl rfl 3 rfl [2, 1] [0] rfl rfl [eO t 3 [.ref hn, .ref hm, .ref dd, .int sd]] rfl [eO t 3 [.ref hn, .ref hm, .ref dd, .int sd], ydW Γ hn an r, ydW Γ hm am r] rfl rfl rfl [] rfl (Nat.le_of_ble_eq_true rfl) ?_
  refine r_iconst K dX5_depthBy_11 (nI 0) (by decide) ?_
  refine r_istore K dX5_depthBy_12 (by decide) (lv1 := [(4, .int (nI 0)), (0, .ref t), (1, .int (nI s)), (2, .int (nI g)), (3, .int (nI n))]) rfl ?_
  have L14 : ∀ (fL14 : Nat) (k : Nat), (k ≤ nM r) → nM r - k < fL14 → V 14 [(4, .int (nI k)), (0, .ref t), (1, .int (nI s)), (2, .int (nI g)), (3, .int (nI n))] [] [eO t 3 [.ref hn, .ref hm, .ref dd, .int sd], ydW Γ hn an r, ydW Γ hm am (aloneTo r s g k)] := by
    intro fL14
    induction fL14 with
    | zero => intro k hk hf; exact absurd hf (Nat.not_lt_zero _)
    | succ fL14 ih_L14 =>
      intro k hk hfL14
      refine r_iload K dX5_depthBy_14 0 rfl ?_
      refine r_aload_n K dX5_depthBy_16 1 rfl ?_
      refine r_get K dX5_depthBy_17 (kf := 0) 0 rfl rfl hinX5 (by decide) q69 rfl rfl ?_
      refine r_cVd K dX5_depthBy_20 (c_X0_mournerCount l Γ hn an r (hI)) mX0_mournerCount q521 rfl (by decide) rfl rfl 3 rfl [1] [0, 2] rfl rfl [eO t 3 [.ref hn, .ref hm, .ref dd, .int sd], ydW Γ hm am (aloneTo r s g k)] rfl [eO t 3 [.ref hn, .ref hm, .ref dd, .int sd], ydW Γ hn an r, ydW Γ hm am (aloneTo r s g k)] rfl rfl rfl [.int (nI k)] rfl (Nat.le_of_ble_eq_true rfl) ?_
      refine r_ic_geN K dX5_depthBy_23 (by omega) (by omega) (fun c23 => ?_) (fun c23 => ?_)
      · obtain rfl : k = nM r := by omega
        refine r_aload_n K dX5_depthBy_57 1 rfl ?_
        refine r_get K dX5_depthBy_58 (kf := 1) 0 rfl rfl hinX5 (by decide) q70 rfl rfl ?_
        refine r_iload_n K dX5_depthBy_61 4 rfl ?_
        refine r_cVn K dX5_depthBy_62 (c_X0_passDays l Γ hm am (aloneTo r s g (nM r)) n (Inv_alone (hI) (by first | omega | (simp only [daysS_nM, daysS_nG, dayS_nM, dayS_nG, tellS_nM, tellS_nG, aloneTo_nM, aloneTo_nG, nM_M, nG_M, nM_G, nG_G, lv_nM, lv_nG, gnT_nM, gnT_nG] <;> omega)) (nM r)) (by first | assumption | omega)) mX0_passDays q414 rfl (by decide) rfl rfl 3 rfl [2] [0, 1] rfl rfl [eO t 3 [.ref hn, .ref hm, .ref dd, .int sd], ydW Γ hn an r] rfl [eO t 3 [.ref hn, .ref hm, .ref dd, .int sd], ydW Γ hn an r, ydW Γ hm am (daysS (aloneTo r s g (nM r)) n)] rfl rfl rfl [] rfl (Nat.le_of_ble_eq_true rfl) ?_
        refine r_aload_n K dX5_depthBy_65 1 rfl ?_
        refine r_get K dX5_depthBy_66 (kf := 1) 0 rfl rfl hinX5 (by decide) q70 rfl rfl ?_
        refine r_iload_n K dX5_depthBy_69 3 rfl ?_
        refine r_cVd K dX5_depthBy_70 (c_X0_depthN l Γ hm am (daysS (aloneTo r s g (nM r)) n) g (Inv_daysS (Inv_alone (hI) (by first | omega | (simp only [daysS_nM, daysS_nG, dayS_nM, dayS_nG, tellS_nM, tellS_nG, aloneTo_nM, aloneTo_nG, nM_M, nG_M, nM_G, nG_G, lv_nM, lv_nG, gnT_nM, gnT_nG] <;> omega)) (nM r)) n) (by first | omega | (simp only [daysS_nM, daysS_nG, dayS_nM, dayS_nG, tellS_nM, tellS_nG, aloneTo_nM, aloneTo_nG, nM_M, nG_M, nM_G, nG_G, lv_nM, lv_nG, gnT_nM, gnT_nG] <;> omega))) mX0_depth q431 rfl (by decide) rfl rfl 3 rfl [2] [0, 1] rfl rfl [eO t 3 [.ref hn, .ref hm, .ref dd, .int sd], ydW Γ hn an r] rfl [eO t 3 [.ref hn, .ref hm, .ref dd, .int sd], ydW Γ hn an r, ydW Γ hm am (daysS (aloneTo r s g (nM r)) n)] rfl rfl rfl [] rfl (Nat.le_of_ble_eq_true rfl) ?_
        exact hR (daysS (aloneTo r s g (nM r)) n) dX5_depthBy_73 (trivial) (e_ri (rfl)) (weq.rf)
      · refine r_aload_n K dX5_depthBy_26 1 rfl ?_
        refine r_get K dX5_depthBy_27 (kf := 1) 0 rfl rfl hinX5 (by decide) q70 rfl rfl ?_
        refine r_iload K dX5_depthBy_30 0 rfl ?_
        refine r_iload_n K dX5_depthBy_32 2 rfl ?_
        refine r_iload K dX5_depthBy_33 0 rfl ?_
        refine r_ishr K dX5_depthBy_35 ?_
        refine r_top (y := nI (s / 2 ^ k)) (has_sh hs (by omega)) ?_
        refine r_iconst K dX5_depthBy_36 (nI 1) (by decide) ?_
        refine r_iand K dX5_depthBy_37 ?_
        refine r_top (y := nI (s / 2 ^ k % 2)) (and1 _) ?_
        refine r_iconst K dX5_depthBy_38 (nI 1) (by decide) ?_
        refine r_ic_neN K dX5_depthBy_39 (by omega) (by omega) (fun c39 => ?_) (fun c39 => ?_)
        · refine r_bipush K dX5_depthBy_46 ((-9)) (by decide) ?_
          refine r_cVn K dX5_depthBy_48 (c_X0_place l Γ hm am (aloneTo r s g k) (nI k) (-9) (Inv_alone hI (by omega) k)) mX0_place q532 rfl (by decide) rfl rfl 3 rfl [2] [0, 1] rfl rfl [eO t 3 [.ref hn, .ref hm, .ref dd, .int sd], ydW Γ hn an r] rfl [eO t 3 [.ref hn, .ref hm, .ref dd, .int sd], ydW Γ hn an r, ydW Γ hm am (setM (aloneTo r s g k) 3 (nI k) (-9))] rfl rfl rfl [] rfl (Nat.le_of_ble_eq_true rfl) ?_
          refine r_iincN K dX5_depthBy_51 (n := 1) 0 rfl rfl (by decide) (lv1 := [(4, .int (nI (k + 1))), (0, .ref t), (1, .int (nI s)), (2, .int (nI g)), (3, .int (nI n))]) rfl ?_
          refine r_goto K dX5_depthBy_54 ?_
          refine r_ws K (ws1 := [eO t 3 [.ref hn, .ref hm, .ref dd, .int sd], ydW Γ hn an r, ydW Γ hm am (aloneTo r s g (k + 1))]) (by rw [aloneTo_s, setM_N (by rw [aloneTo_nM]; omega) (by rw [aloneTo_nM]; omega), if_neg (by unfold hasB; simpa using c39)]; exact weq.rf) ?_
          exact ih_L14 (k + 1) (by omega) (by omega)
        · refine r_iload_n K dX5_depthBy_42 3 rfl ?_
          refine r_goto K dX5_depthBy_43 ?_
          refine r_cVn K dX5_depthBy_48 (c_X0_place l Γ hm am (aloneTo r s g k) (nI k) (nI g) (Inv_alone hI (by omega) k)) mX0_place q532 rfl (by decide) rfl rfl 3 rfl [2] [0, 1] rfl rfl [eO t 3 [.ref hn, .ref hm, .ref dd, .int sd], ydW Γ hn an r] rfl [eO t 3 [.ref hn, .ref hm, .ref dd, .int sd], ydW Γ hn an r, ydW Γ hm am (setM (aloneTo r s g k) 3 (nI k) (nI g))] rfl rfl rfl [] rfl (Nat.le_of_ble_eq_true rfl) ?_
          refine r_iincN K dX5_depthBy_51 (n := 1) 0 rfl rfl (by decide) (lv1 := [(4, .int (nI (k + 1))), (0, .ref t), (1, .int (nI s)), (2, .int (nI g)), (3, .int (nI n))]) rfl ?_
          refine r_goto K dX5_depthBy_54 ?_
          refine r_ws K (ws1 := [eO t 3 [.ref hn, .ref hm, .ref dd, .int sd], ydW Γ hn an r, ydW Γ hm am (aloneTo r s g (k + 1))]) (by rw [aloneTo_s, setM_N (by rw [aloneTo_nM]; omega) (by rw [aloneTo_nM]; omega), if_pos (by unfold hasB; simpa using c39)]; exact weq.rf) ?_
          exact ih_L14 (k + 1) (by omega) (by omega)
  refine r_ws K (ws1 := [eO t 3 [.ref hn, .ref hm, .ref dd, .int sd], ydW Γ hn an r, ydW Γ hm am (aloneTo r s g 0)]) (by exact weq.rf) ?_
  exact L14 _ 0 (Nat.zero_le _) (Nat.lt_succ_self _)
