/-! THE REFERENCE: its calls, third part -/
set_option maxHeartbeats 1000000 in
set_option maxRecDepth 20000 in
theorem c_X7_gcd (l : Launch) (Γ : eG) (x : Nat) (y : Nat) (hx : x < 2 ^ 63) (hy : y < 2 ^ 63) : cD l Γ yX7_gcd cX7_gcd 10 (some .long) 0 [.long (lN x), .long (lN y)] [] (some (.long (lN (Nat.gcd x y)))) [] := by
  refine e_long [(0, .long (lN x)), (2, .long (lN y))] (by decide +kernel) (Nat.le_of_ble_eq_true rfl) rfl (fun V K hR => ?_)
  refine r_lload_n K dX7_gcd_0 0 rfl ?_
  refine r_lstore K dX7_gcd_1 (by decide) (lv1 := [(4, .long (lN x)), (0, .long (lN x)), (2, .long (lN y))]) rfl ?_
  refine r_lload_n K dX7_gcd_3 2 rfl ?_
  refine r_lstore K dX7_gcd_4 (by decide) (lv1 := [(6, .long (lN y)), (4, .long (lN x)), (0, .long (lN x)), (2, .long (lN y))]) rfl ?_
  have L6 : ∀ (fL6 : Nat) (p : Nat) (q : Nat), (p < 2 ^ 63) → (q < 2 ^ 63) → (Nat.gcd x y = Nat.gcd p q) → q < fL6 → V 6 [(6, .long (lN q)), (4, .long (lN p)), (0, .long (lN x)), (2, .long (lN y))] [] [] := by
    intro fL6
    induction fL6 with
    | zero => intro p q hp hq hE hf; exact absurd hf (Nat.not_lt_zero _)
    | succ fL6 ih_L6 =>
      intro p q hp hq hE hfL6
      refine r_lload K dX7_gcd_6 0 rfl ?_
      refine r_lconst K dX7_gcd_8 (lN 0) (by decide) ?_
      refine r_lcmp K dX7_gcd_9 ?_
      refine r_if_eq K dX7_gcd_10 (fun c10 => ?_) (fun c10 => ?_)
      · refine r_lload K dX7_gcd_31 1 rfl ?_
        exact hR () dX7_gcd_33 (trivial) (e_rl (by rw [hE, (lg_eq0 hq (by decide)).mp c10, Nat.gcd_zero_right])) (weq.rf)
      · have hq0 : 0 < q := Nat.pos_of_ne_zero (fun z => c10 ((lg_eq0 hq (by decide)).mpr z))
        have hmm : p % q < q := Nat.mod_lt _ hq0
        refine r_lload K dX7_gcd_13 1 rfl ?_
        refine r_lload K dX7_gcd_15 0 rfl ?_
        refine r_lrem K dX7_gcd_17 (lN_ne0 hq0 hq) ?_
        refine r_topL (y := lN (p % q)) (pk_lRem hp hq0 hq) ?_
        refine r_lstore K dX7_gcd_18 (by decide) (lv1 := [(8, .long (lN (p % q))), (6, .long (lN q)), (4, .long (lN p)), (0, .long (lN x)), (2, .long (lN y))]) rfl ?_
        refine r_lload K dX7_gcd_20 1 rfl ?_
        refine r_lstore K dX7_gcd_22 (by decide) (lv1 := [(4, .long (lN q)), (8, .long (lN (p % q))), (6, .long (lN q)), (0, .long (lN x)), (2, .long (lN y))]) rfl ?_
        refine r_lload K dX7_gcd_24 1 rfl ?_
        refine r_lstore K dX7_gcd_26 (by decide) (lv1 := [(6, .long (lN (p % q))), (4, .long (lN q)), (8, .long (lN (p % q))), (0, .long (lN x)), (2, .long (lN y))]) rfl ?_
        refine r_goto K dX7_gcd_28 ?_
        refine r_lv K [0, 1, 3, 4] rfl ?_
        exact ih_L6 q (p % q) (hq) (by omega) (hE.trans (by rw [Nat.gcd_comm, Nat.gcd_rec, Nat.gcd_comm])) (by omega)
  exact L6 _ x y (hx) (hy) (rfl) (Nat.lt_succ_self _)
set_option maxHeartbeats 1000000 in
set_option maxRecDepth 20000 in
theorem c_X7_partOf (l : Launch) (Γ : eG) (x : Nat) (y : Nat) (p : Nat) (hx : x < 2 ^ 63) (hy : y < 2 ^ 63) (hxy : y = 0 → x = 0) (hp : p ≤ 1) : cD l Γ yX7_partOf cX7_partOf 5 (some .long) 1 [.long (lN x), .long (lN y), .int (nI p)] [] (some (.long (partS x y (nI p)))) [] := by
  refine e_long [(0, .long (lN x)), (2, .long (lN y)), (4, .int (nI p))] (by decide +kernel) (Nat.le_of_ble_eq_true rfl) rfl (fun V K hR => ?_)
  refine r_lload_n K dX7_partOf_0 0 rfl ?_
  refine r_lconst K dX7_partOf_1 (lN 0) (by decide) ?_
  refine r_lcmp K dX7_partOf_2 ?_
  refine r_if_ne K dX7_partOf_3 (fun c3 => ?_) (fun c3 => ?_)
  · have hx0 : 0 < x := Nat.pos_of_ne_zero (fun z => c3 ((lg_eq0 hx (by decide)).mpr z))
    have hy0 : 0 < y := Nat.pos_of_ne_zero (fun z => by have := hxy z; omega)
    have hg0 : 0 < Nat.gcd x y := Nat.gcd_pos_of_pos_left _ hx0
    have hg1 : Nat.gcd x y ≤ x := Nat.gcd_le_left _ hx0
    refine r_iload K dX7_partOf_10 2 rfl ?_
    refine r_if_neN K dX7_partOf_12 (by omega) (fun c12 => ?_) (fun c12 => ?_)
    · refine r_lload_n K dX7_partOf_19 1 rfl ?_
      refine r_lload_n K dX7_partOf_20 0 rfl ?_
      refine r_lload_n K dX7_partOf_21 1 rfl ?_
      refine r_cSd K dX7_partOf_22 (c_X7_gcd l Γ x y (by first | assumption | omega) (by first | assumption | omega)) mX7_gcd q1072 rfl (by decide) 0 rfl [] [] rfl rfl [] rfl [] rfl rfl rfl [.long (lN y)] rfl (Nat.le_of_ble_eq_true rfl) ?_
      refine r_ldiv K dX7_partOf_25 (lN_ne0 hg0 (by omega)) ?_
      exact hR () dX7_partOf_26 (trivial) (e_rl ((partS_n hx0 hy0 (nI_ne0 (by omega) (by omega))).trans (pk_lDiv hy hg0 (by omega)).symm)) (weq.rf)
    · refine r_lload_n K dX7_partOf_15 0 rfl ?_
      refine r_goto K dX7_partOf_16 ?_
      refine r_lload_n K dX7_partOf_20 0 rfl ?_
      refine r_lload_n K dX7_partOf_21 1 rfl ?_
      refine r_cSd K dX7_partOf_22 (c_X7_gcd l Γ x y (by first | assumption | omega) (by first | assumption | omega)) mX7_gcd q1072 rfl (by decide) 0 rfl [] [] rfl rfl [] rfl [] rfl rfl rfl [.long (lN x)] rfl (Nat.le_of_ble_eq_true rfl) ?_
      refine r_ldiv K dX7_partOf_25 (lN_ne0 hg0 (by omega)) ?_
      exact hR () dX7_partOf_26 (trivial) (e_rl ((partS_p hx0 hy0 (by rw [c12]; rfl)).trans (pk_lDiv hx hg0 (by omega)).symm)) (weq.rf)
  · have hx0 : x = 0 := (lg_eq0 hx (by decide)).mp c3
    refine r_iload K dX7_partOf_6 2 rfl ?_
    refine r_i2l K dX7_partOf_8 ?_
    exact hR () dX7_partOf_9 (trivial) (e_rl (partS_0 hx0 hp)) (weq.rf)
set_option maxHeartbeats 1000000 in
set_option maxRecDepth 20000 in
theorem c_X7_share (l : Launch) (Γ : eG) (h : Nat) (a : Nat → Nat) (hi : Bool) (lm : Nat) (rm : Nat) (pc : Nat) (bi : Int32) (sd : Int32) (r : Nat → Int32) (rf : Nat → Int32) (x : Int32) (p : Int32) (hI : Inv r) : cD l Γ yX7_share cX7_share 3 (some .long) 3 [.ref h, .int x, .int p] [mo h a hi lm rm pc bi sd, eI Γ (a 0) 42 r, eI Γ (a 6) 7 rf] (some (.long (chE (eShare r x p) (aShare r x p) (4000000000000000000 - (eShare r x p).toInt64)))) [mo h a hi lm rm pc bi sd, eI Γ (a 0) 42 r, eI Γ (a 6) 7 (chE (eShare r x p) rf (nof rf (eShare r x p)))] := by
  refine e_long [(0, .ref h), (1, .int x), (2, .int p)] (by decide +kernel) (Nat.le_of_ble_eq_true rfl) rfl (fun V K hR => ?_)
  have h5 := hI.g
  have h6 := hI.m
  refine r_aload_n K dX7_share_0 0 rfl ?_
  refine r_iload_n K dX7_share_1 1 rfl ?_
  refine r_cVd K dX7_share_2 (c_X7_isMourner l Γ h a hi lm rm pc bi sd r x (hI)) mX7_isMourner q856 rfl (by decide) rfl rfl 3 rfl [0, 1] [2] rfl rfl [eI Γ (a 6) 7 rf] rfl [mo h a hi lm rm pc bi sd, eI Γ (a 0) 42 r, eI Γ (a 6) 7 rf] rfl rfl rfl [] rfl (Nat.le_of_ble_eq_true rfl) ?_
  refine r_ifneB K dX7_share_5 (fun c5 => ?_) (fun c5 => ?_)
  · have hx := inN_e c5 (by omega)
    have lx := ix_lt c5 (by omega)
    refine r_lc (lv1 := [(0, .ref h), (1, .int (nI (ix x))), (2, .int p)]) (congrArg (fun zz : Int32 => ([(0, .ref h), (1, .int zz), (2, .int p)] : List (Nat × Value))) (hx)) ?_
    refine r_iload_n K dX7_share_14 2 rfl ?_
    refine r_iconst K dX7_share_15 (nI 0) (by decide) ?_
    refine r_iconst K dX7_share_16 (nI 1) (by decide) ?_
    refine r_cSd K dX7_share_17 (c_X7_isIn l Γ p (nI 0) (nI 1)) mX7_isIn q833 rfl (by decide) 3 rfl [] [0, 1, 2] rfl rfl [mo h a hi lm rm pc bi sd, eI Γ (a 0) 42 r, eI Γ (a 6) 7 rf] rfl [mo h a hi lm rm pc bi sd, eI Γ (a 0) 42 r, eI Γ (a 6) 7 rf] rfl rfl rfl [] rfl (Nat.le_of_ble_eq_true rfl) ?_
    refine r_ifneB K dX7_share_20 (fun c20 => ?_) (fun c20 => ?_)
    · have hp := isInB_ok (lo := 0) (hi := 1) (by decide) (by decide) c20
      have lp := hp.2
      refine r_lc (lv1 := [(0, .ref h), (1, .int (nI (ix x))), (2, .int (nI (ix p)))]) (congrArg (fun zz : Int32 => ([(0, .ref h), (1, .int (nI (ix x))), (2, .int zz)] : List (Nat × Value))) (hp.1)) ?_
      refine r_aload_n K dX7_share_30 0 rfl ?_
      refine r_get K dX7_share_31 (kf := 0) 0 rfl rfl hinX7 (by decide) q757 rfl rfl ?_
      refine r_iload_n K dX7_share_34 1 rfl ?_
      refine r_iconst K dX7_share_35 (nI 3) (by decide) ?_
      refine r_cSd K dX7_share_36 (c_X7_ofM l Γ (ix x) 3) mX7_ofM q853 rfl (by decide) 3 rfl [] [0, 1, 2] rfl rfl [mo h a hi lm rm pc bi sd, eI Γ (a 0) 42 r, eI Γ (a 6) 7 rf] rfl [mo h a hi lm rm pc bi sd, eI Γ (a 0) 42 r, eI Γ (a 6) 7 rf] rfl rfl rfl [.ref (a 0)] rfl (Nat.le_of_ble_eq_true rfl) ?_
      refine r_aldN K dX7_share_39 1 rfl (by first | omega | exact iG_lt (by omega) (by decide) | exact iM_lt (by omega) (by decide)) (by decide) ?_
      refine r_if_ge K dX7_share_40 (fun c40 => ?_) (fun c40 => ?_)
      · refine r_aload_n K dX7_share_50 0 rfl ?_
        refine r_get K dX7_share_51 (kf := 0) 0 rfl rfl hinX7 (by decide) q757 rfl rfl ?_
        refine r_iload_n K dX7_share_54 1 rfl ?_
        refine r_cSd K dX7_share_55 (c_X7_weeps l Γ (a 0) r (ix x) (by first | assumption | omega)) mX7_weeps q879 rfl (by decide) 3 rfl [1] [0, 2] rfl rfl [mo h a hi lm rm pc bi sd, eI Γ (a 6) 7 rf] rfl [mo h a hi lm rm pc bi sd, eI Γ (a 0) 42 r, eI Γ (a 6) 7 rf] rfl rfl rfl [] rfl (Nat.le_of_ble_eq_true rfl) ?_
        obtain ⟨ww, hww, eww⟩ := weepS_ok hI (p := ix x) (by omega)
        refine r_top (y := nI ww) (eww) ?_
        refine r_i2l K dX7_share_58 ?_
        refine r_topL (y := lN ww) (nI_l (by omega)) ?_
        refine r_aload_n K dX7_share_59 0 rfl ?_
        refine r_aload_n K dX7_share_60 0 rfl ?_
        refine r_get K dX7_share_61 (kf := 0) 0 rfl rfl hinX7 (by decide) q757 rfl rfl ?_
        refine r_iload_n K dX7_share_64 1 rfl ?_
        refine r_iconst K dX7_share_65 (nI 3) (by decide) ?_
        refine r_cSd K dX7_share_66 (c_X7_ofM l Γ (ix x) 3) mX7_ofM q853 rfl (by decide) 3 rfl [] [0, 1, 2] rfl rfl [mo h a hi lm rm pc bi sd, eI Γ (a 0) 42 r, eI Γ (a 6) 7 rf] rfl [mo h a hi lm rm pc bi sd, eI Γ (a 0) 42 r, eI Γ (a 6) 7 rf] rfl rfl rfl [.ref (a 0), .ref h, .long (lN ww)] rfl (Nat.le_of_ble_eq_true rfl) ?_
        refine r_aldN K dX7_share_69 1 rfl (by first | omega | exact iG_lt (by omega) (by decide) | exact iM_lt (by omega) (by decide)) (by decide) ?_
        refine r_cVd K dX7_share_70 (c_X7_weepingAt l Γ h a hi lm rm pc bi sd r (r (iM (ix x) 3)) (hI) (ge0_n9 c40)) mX7_weepingAt q892 rfl (by decide) rfl rfl 3 rfl [0, 1] [2] rfl rfl [eI Γ (a 6) 7 rf] rfl [mo h a hi lm rm pc bi sd, eI Γ (a 0) 42 r, eI Γ (a 6) 7 rf] rfl rfl rfl [.long (lN ww)] rfl (Nat.le_of_ble_eq_true rfl) ?_
        obtain ⟨wa, hwa, ewa⟩ := wat_ok hI (r (iM (ix x) 3))
        refine r_top (y := nI wa) (ewa) ?_
        refine r_i2l K dX7_share_73 ?_
        refine r_topL (y := lN wa) (nI_l (by omega)) ?_
        refine r_iload_n K dX7_share_74 2 rfl ?_
        refine r_cSd K dX7_share_75 (c_X7_partOf l Γ ww wa (ix p) (by omega) (by omega) (wat_ge hI lx rfl eww hww ewa hwa) (by first | assumption | omega)) mX7_partOf q1069 rfl (by decide) 3 rfl [] [0, 1, 2] rfl rfl [mo h a hi lm rm pc bi sd, eI Γ (a 0) 42 r, eI Γ (a 6) 7 rf] rfl [mo h a hi lm rm pc bi sd, eI Γ (a 0) 42 r, eI Γ (a 6) 7 rf] rfl rfl rfl [] rfl (Nat.le_of_ble_eq_true rfl) ?_
        have he : eShare r x p = 0 := by
          unfold eShare
          rw [if_neg (not_not_intro c5), if_neg (not_not_intro c20), if_neg (ge0_n9 c40)]
        refine r_arr K (f2 := chE (eShare r x p) rf (nof rf (eShare r x p))) (ws1 := [mo h a hi lm rm pc bi sd, eI Γ (a 0) 42 r, eI Γ (a 6) 7 (chE (eShare r x p) rf (nof rf (eShare r x p)))]) 2 rfl (fun _ _ => by rw [chE_0 he]) rfl ?_
        exact hR () dX7_share_78 (trivial) (e_rl (exL_0 he (by unfold aShare; rw [eww, ewa, ix_nI (by omega), ix_nI (by omega), ← hp.1]))) (weq.rf)
      · refine r_aload_n K dX7_share_43 0 rfl ?_
        refine r_bipush K dX7_share_44 ((-3)) (by decide) ?_
        refine r_cVd K dX7_share_46 (c_X7_noWide l Γ h a hi lm rm pc bi sd rf (-3) (okR_3)) mX7_noWide q1064 rfl (by decide) rfl rfl 3 rfl [0, 2] [1] rfl rfl [eI Γ (a 0) 42 r] rfl [mo h a hi lm rm pc bi sd, eI Γ (a 0) 42 r, eI Γ (a 6) 7 (nof rf (-3))] rfl rfl rfl [] rfl (Nat.le_of_ble_eq_true rfl) ?_
        have he : eShare r x p = (-3) := by
          unfold eShare
          rw [if_neg (not_not_intro c5), if_neg (not_not_intro c20), if_pos (at9 hI lx (lt0_of c40))]
        refine r_arr K (f2 := chE (eShare r x p) rf (nof rf (eShare r x p))) (ws1 := [mo h a hi lm rm pc bi sd, eI Γ (a 0) 42 r, eI Γ (a 6) 7 (chE (eShare r x p) rf (nof rf (eShare r x p)))]) 2 rfl (fun _ _ => by rw [ch_n (g := nof rf) he (by decide)]) rfl ?_
        exact hR () dX7_share_49 (trivial) (e_rl (exL_n he (by decide))) (weq.rf)
    · refine r_aload_n K dX7_share_23 0 rfl ?_
      refine r_bipush K dX7_share_24 ((-2)) (by decide) ?_
      refine r_cVd K dX7_share_26 (c_X7_noWide l Γ h a hi lm rm pc bi sd rf (-2) (okR_2)) mX7_noWide q1064 rfl (by decide) rfl rfl 3 rfl [0, 2] [1] rfl rfl [eI Γ (a 0) 42 r] rfl [mo h a hi lm rm pc bi sd, eI Γ (a 0) 42 r, eI Γ (a 6) 7 (nof rf (-2))] rfl rfl rfl [] rfl (Nat.le_of_ble_eq_true rfl) ?_
      have he : eShare r x p = (-2) := by
        unfold eShare
        rw [if_neg (not_not_intro c5), if_pos (nt c20)]
      refine r_arr K (f2 := chE (eShare r x p) rf (nof rf (eShare r x p))) (ws1 := [mo h a hi lm rm pc bi sd, eI Γ (a 0) 42 r, eI Γ (a 6) 7 (chE (eShare r x p) rf (nof rf (eShare r x p)))]) 2 rfl (fun _ _ => by rw [ch_n (g := nof rf) he (by decide)]) rfl ?_
      exact hR () dX7_share_29 (trivial) (e_rl (exL_n he (by decide))) (weq.rf)
  · refine r_aload_n K dX7_share_8 0 rfl ?_
    refine r_iconst K dX7_share_9 ((-1)) (by decide) ?_
    refine r_cVd K dX7_share_10 (c_X7_noWide l Γ h a hi lm rm pc bi sd rf (-1) (okR_1)) mX7_noWide q1064 rfl (by decide) rfl rfl 3 rfl [0, 2] [1] rfl rfl [eI Γ (a 0) 42 r] rfl [mo h a hi lm rm pc bi sd, eI Γ (a 0) 42 r, eI Γ (a 6) 7 (nof rf (-1))] rfl rfl rfl [] rfl (Nat.le_of_ble_eq_true rfl) ?_
    have he : eShare r x p = (-1) := by
      unfold eShare
      rw [if_pos (nt c5)]
    refine r_arr K (f2 := chE (eShare r x p) rf (nof rf (eShare r x p))) (ws1 := [mo h a hi lm rm pc bi sd, eI Γ (a 0) 42 r, eI Γ (a 6) 7 (chE (eShare r x p) rf (nof rf (eShare r x p)))]) 2 rfl (fun _ _ => by rw [ch_n (g := nof rf) he (by decide)]) rfl ?_
    exact hR () dX7_share_13 (trivial) (e_rl (exL_n he (by decide))) (weq.rf)
set_option maxHeartbeats 1000000 in
set_option maxRecDepth 20000 in
theorem c_X7_mean (l : Launch) (Γ : eG) (h : Nat) (a : Nat → Nat) (hi : Bool) (lm : Nat) (rm : Nat) (pc : Nat) (bi : Int32) (sd : Int32) (r : Nat → Int32) (rf : Nat → Int32) (p : Int32) (hI : Inv r) : cD l Γ yX7_mean cX7_mean 2 (some .long) 2 [.ref h, .int p] [mo h a hi lm rm pc bi sd, eI Γ (a 0) 42 r, eI Γ (a 6) 7 rf] (some (.long (chE (eIs p (nI 0) (nI 1)) (aMean r p) (4000000000000000000 - (eIs p (nI 0) (nI 1)).toInt64)))) [mo h a hi lm rm pc bi sd, eI Γ (a 0) 42 r, eI Γ (a 6) 7 (chE (eIs p (nI 0) (nI 1)) rf (nof rf (eIs p (nI 0) (nI 1))))] := by
  refine e_long [(0, .ref h), (1, .int p)] (by decide +kernel) (Nat.le_of_ble_eq_true rfl) rfl (fun V K hR => ?_)
  have h5 := hI.g
  have h6 := hI.m
  refine r_iload_n K dX7_mean_0 1 rfl ?_
  refine r_iconst K dX7_mean_1 (nI 0) (by decide) ?_
  refine r_iconst K dX7_mean_2 (nI 1) (by decide) ?_
  refine r_cSd K dX7_mean_3 (c_X7_isIn l Γ p (nI 0) (nI 1)) mX7_isIn q833 rfl (by decide) 3 rfl [] [0, 1, 2] rfl rfl [mo h a hi lm rm pc bi sd, eI Γ (a 0) 42 r, eI Γ (a 6) 7 rf] rfl [mo h a hi lm rm pc bi sd, eI Γ (a 0) 42 r, eI Γ (a 6) 7 rf] rfl rfl rfl [] rfl (Nat.le_of_ble_eq_true rfl) ?_
  refine r_ifeqB K dX7_mean_6 (fun c6 => ?_) (fun c6 => ?_)
  · refine r_aload_n K dX7_mean_31 0 rfl ?_
    refine r_bipush K dX7_mean_32 ((-2)) (by decide) ?_
    refine r_cVd K dX7_mean_34 (c_X7_noWide l Γ h a hi lm rm pc bi sd rf (-2) (okR_2)) mX7_noWide q1064 rfl (by decide) rfl rfl 3 rfl [0, 2] [1] rfl rfl [eI Γ (a 0) 42 r] rfl [mo h a hi lm rm pc bi sd, eI Γ (a 0) 42 r, eI Γ (a 6) 7 (nof rf (-2))] rfl rfl rfl [] rfl (Nat.le_of_ble_eq_true rfl) ?_
    have he : eIs p (nI 0) (nI 1) = (-2) := by
      unfold eIs
      rw [if_pos (nt c6)]
    refine r_arr K (f2 := chE (eIs p (nI 0) (nI 1)) rf (nof rf (eIs p (nI 0) (nI 1)))) (ws1 := [mo h a hi lm rm pc bi sd, eI Γ (a 0) 42 r, eI Γ (a 6) 7 (chE (eIs p (nI 0) (nI 1)) rf (nof rf (eIs p (nI 0) (nI 1))))]) 2 rfl (fun _ _ => by rw [ch_n (g := nof rf) he (by decide)]) rfl ?_
    exact hR () dX7_mean_37 (trivial) (e_rl (exL_n he (by decide))) (weq.rf)
  · have hp := isInB_ok (lo := 0) (hi := 1) (by decide) (by decide) c6
    have lp := hp.2
    refine r_lc (lv1 := [(0, .ref h), (1, .int (nI (ix p)))]) (congrArg (fun zz : Int32 => ([(0, .ref h), (1, .int zz)] : List (Nat × Value))) (hp.1)) ?_
    refine r_aload_n K dX7_mean_9 0 rfl ?_
    refine r_get K dX7_mean_10 (kf := 0) 0 rfl rfl hinX7 (by decide) q757 rfl rfl ?_
    refine r_cSd K dX7_mean_13 (c_X7_inchesIn l Γ (a 0) r (hI)) mX7_inchesIn q1012 rfl (by decide) 3 rfl [1] [0, 2] rfl rfl [mo h a hi lm rm pc bi sd, eI Γ (a 6) 7 rf] rfl [mo h a hi lm rm pc bi sd, eI Γ (a 0) 42 r, eI Γ (a 6) 7 rf] rfl rfl rfl [] rfl (Nat.le_of_ble_eq_true rfl) ?_
    obtain ⟨ii, hii, eii⟩ := incS_ok hI
    refine r_top (y := nI ii) (eii) ?_
    refine r_i2l K dX7_mean_16 ?_
    refine r_topL (y := lN ii) (nI_l (by omega)) ?_
    refine r_aload_n K dX7_mean_17 0 rfl ?_
    refine r_get K dX7_mean_18 (kf := 0) 0 rfl rfl hinX7 (by decide) q757 rfl rfl ?_
    refine r_iconst K dX7_mean_21 (nI 0) (by decide) ?_
    refine r_aldN K dX7_mean_22 1 rfl (by first | omega | exact iG_lt (by omega) (by decide) | exact iM_lt (by omega) (by decide)) (by decide) ?_
    refine r_top (y := nI (nG r)) (hI.r0) ?_
    refine r_i2l K dX7_mean_23 ?_
    refine r_topL (y := lN (nG r)) (nI_l (by omega)) ?_
    refine r_iload_n K dX7_mean_24 1 rfl ?_
    refine r_cSd K dX7_mean_25 (c_X7_partOf l Γ ii (nG r) (ix p) (by omega) (by omega) (fun z => inc_0 hI z eii (by omega)) (by first | assumption | omega)) mX7_partOf q1069 rfl (by decide) 3 rfl [] [0, 1, 2] rfl rfl [mo h a hi lm rm pc bi sd, eI Γ (a 0) 42 r, eI Γ (a 6) 7 rf] rfl [mo h a hi lm rm pc bi sd, eI Γ (a 0) 42 r, eI Γ (a 6) 7 rf] rfl rfl rfl [] rfl (Nat.le_of_ble_eq_true rfl) ?_
    refine r_goto K dX7_mean_28 ?_
    have he : eIs p (nI 0) (nI 1) = 0 := by
      unfold eIs
      rw [if_neg (not_not_intro c6)]
    refine r_arr K (f2 := chE (eIs p (nI 0) (nI 1)) rf (nof rf (eIs p (nI 0) (nI 1)))) (ws1 := [mo h a hi lm rm pc bi sd, eI Γ (a 0) 42 r, eI Γ (a 6) 7 (chE (eIs p (nI 0) (nI 1)) rf (nof rf (eIs p (nI 0) (nI 1))))]) 2 rfl (fun _ _ => by rw [chE_0 he]) rfl ?_
    exact hR () dX7_mean_37 (trivial) (e_rl (exL_0 he (by unfold aMean; rw [eii, ix_nI (by omega), ← hp.1]))) (weq.rf)
set_option maxHeartbeats 1000000 in
set_option maxRecDepth 20000 in
theorem c_X7_isDeepSo (l : Launch) (Γ : eG) (h : Nat) (a : Nat → Nat) (hi : Bool) (lm : Nat) (rm : Nat) (pc : Nat) (bi : Int32) (sd : Int32) (q : Nat → Int32) (rw : Nat → Int32) (g : Nat) (hJ : Inv q) (hg : g < nG q) (hr16 : rm ≤ 16) : cD l Γ yX7_isDeepSo cX7_isDeepSo 4 (some .boolean) 3 [.ref h, .int (nI g)] [mo h a hi lm rm pc bi sd, eI Γ (a 1) 42 q, eI Γ (a 5) 16 rw] (some (.int (bz (frL g rw rm q 0)))) [mo h a hi lm rm pc bi sd, eI Γ (a 1) 42 (daysS q rm), eI Γ (a 5) 16 rw] := by
  refine e_bool [(0, .ref h), (1, .int (nI g))] (by decide +kernel) (Nat.le_of_ble_eq_true rfl) rfl (fun V K hR => ?_)
  have h5 := hJ.g
  have h6 := hJ.m
  refine r_iconst K dX7_isDeepSo_0 (nI 1) (by decide) ?_
  refine r_istore_n K dX7_isDeepSo_1 rfl (by decide) (lv1 := [(2, .int (nI 1)), (0, .ref h), (1, .int (nI g))]) rfl ?_
  refine r_iconst K dX7_isDeepSo_2 (nI 0) (by decide) ?_
  refine r_istore_n K dX7_isDeepSo_3 rfl (by decide) (lv1 := [(3, .int (nI 0)), (2, .int (nI 1)), (0, .ref h), (1, .int (nI g))]) rfl ?_
  have L4 : ∀ (fL4 : Nat) (f : Nat) (i : Nat) (b : Bool), (f + i = rm) → (frL g rw rm q 0 = (b && frL g rw f (daysS q i) i)) → f < fL4 → V 4 [(3, .int (nI i)), (2, .int (bz b)), (0, .ref h), (1, .int (nI g))] [] [mo h a hi lm rm pc bi sd, eI Γ (a 1) 42 (daysS q i), eI Γ (a 5) 16 rw] := by
    intro fL4
    induction fL4 with
    | zero => intro f i b hfi hE hf; exact absurd hf (Nat.not_lt_zero _)
    | succ fL4 ih_L4 =>
      intro f i b hfi hE hfL4
      refine r_iload_n K dX7_isDeepSo_4 0 rfl ?_
      refine r_aload_n K dX7_isDeepSo_5 2 rfl ?_
      refine r_get K dX7_isDeepSo_6 (kf := 9) 0 rfl rfl hinX7 (by decide) q766 rfl rfl ?_
      refine r_ic_geN K dX7_isDeepSo_9 (by omega) (by omega) (fun c9 => ?_) (fun c9 => ?_)
      · obtain rfl : f = 0 := by omega
        obtain rfl : rm = i := by omega
        refine r_iload_n K dX7_isDeepSo_53 1 rfl ?_
        exact hR () dX7_isDeepSo_54 (bz_n _) (trivial) (e_ri (by rw [hE]; show bz (b && true) = bz b; rw [Bool.and_true])) (weq.rf)
      · obtain ⟨f, rfl⟩ : ∃ z, f = z + 1 := ⟨f - 1, by omega⟩
        refine r_iload_n K dX7_isDeepSo_12 1 rfl ?_
        refine r_aload_n K dX7_isDeepSo_13 2 rfl ?_
        refine r_get K dX7_isDeepSo_14 (kf := 1) 0 rfl rfl hinX7 (by decide) q758 rfl rfl ?_
        refine r_iload_n K dX7_isDeepSo_17 3 rfl ?_
        refine r_iconst K dX7_isDeepSo_18 (nI 1) (by decide) ?_
        refine r_cSd K dX7_isDeepSo_19 (c_X7_ofG l Γ g 1) mX7_ofG q850 rfl (by decide) 3 rfl [] [0, 1, 2] rfl rfl [mo h a hi lm rm pc bi sd, eI Γ (a 1) 42 (daysS q i), eI Γ (a 5) 16 rw] rfl [mo h a hi lm rm pc bi sd, eI Γ (a 1) 42 (daysS q i), eI Γ (a 5) 16 rw] rfl rfl rfl [.ref (a 1), .int (bz b)] rfl (Nat.le_of_ble_eq_true rfl) ?_
        refine r_aldN K dX7_isDeepSo_22 1 rfl (by first | omega | exact iG_lt (by omega) (by decide) | exact iM_lt (by omega) (by decide)) (by decide) ?_
        refine r_aload_n K dX7_isDeepSo_23 2 rfl ?_
        refine r_get K dX7_isDeepSo_24 (kf := 6) 0 rfl rfl hinX7 (by decide) q763 rfl rfl ?_
        refine r_iload_n K dX7_isDeepSo_27 0 rfl ?_
        refine r_aldN K dX7_isDeepSo_28 2 rfl (by first | omega | exact iG_lt (by omega) (by decide) | exact iM_lt (by omega) (by decide)) (by decide) ?_
        refine r_ic_ne K dX7_isDeepSo_29 (fun c29 => ?_) (fun c29 => ?_)
        · refine r_iconst K dX7_isDeepSo_36 (nI 0) (by decide) ?_
          refine r_iand K dX7_isDeepSo_37 ?_
          refine r_top (y := bz false) (bz_and0 b) ?_
          refine r_istore_n K dX7_isDeepSo_38 rfl (by decide) (lv1 := [(2, .int (bz false)), (3, .int (nI i)), (0, .ref h), (1, .int (nI g))]) rfl ?_
          refine r_aload_n K dX7_isDeepSo_39 2 rfl ?_
          refine r_get K dX7_isDeepSo_40 (kf := 1) 0 rfl rfl hinX7 (by decide) q758 rfl rfl ?_
          refine r_iconst K dX7_isDeepSo_43 (nI 0) (by decide) ?_
          refine r_cSn K dX7_isDeepSo_44 (c_X7_day l Γ (a 1) (daysS q i) false (Inv_daysS hJ i)) mX7_day q876 rfl (by decide) 3 rfl [1] [0, 2] rfl rfl [mo h a hi lm rm pc bi sd, eI Γ (a 5) 16 rw] rfl [mo h a hi lm rm pc bi sd, eI Γ (a 1) 42 (dayB (daysS q i) false), eI Γ (a 5) 16 rw] rfl rfl rfl [] rfl (Nat.le_of_ble_eq_true rfl) ?_
          refine r_iincN K dX7_isDeepSo_47 (n := 1) 1 rfl rfl (by decide) (lv1 := [(3, .int (nI (i + 1))), (2, .int (bz false)), (0, .ref h), (1, .int (nI g))]) rfl ?_
          refine r_goto K dX7_isDeepSo_50 ?_
          refine r_arr K (f2 := daysS q (i + 1)) (ws1 := [mo h a hi lm rm pc bi sd, eI Γ (a 1) 42 (daysS q (i + 1)), eI Γ (a 5) 16 rw]) 1 rfl (fun _ _ => rfl) rfl ?_
          exact ih_L4 f (i + 1) false (by omega) (hE.trans (frL_nI c29).symm) (by omega)
        · refine r_iconst K dX7_isDeepSo_32 (nI 1) (by decide) ?_
          refine r_goto K dX7_isDeepSo_33 ?_
          refine r_iand K dX7_isDeepSo_37 ?_
          refine r_top (y := bz b) (bz_and1 b) ?_
          refine r_istore_n K dX7_isDeepSo_38 rfl (by decide) (lv1 := [(2, .int (bz b)), (3, .int (nI i)), (0, .ref h), (1, .int (nI g))]) rfl ?_
          refine r_aload_n K dX7_isDeepSo_39 2 rfl ?_
          refine r_get K dX7_isDeepSo_40 (kf := 1) 0 rfl rfl hinX7 (by decide) q758 rfl rfl ?_
          refine r_iconst K dX7_isDeepSo_43 (nI 0) (by decide) ?_
          refine r_cSn K dX7_isDeepSo_44 (c_X7_day l Γ (a 1) (daysS q i) false (Inv_daysS hJ i)) mX7_day q876 rfl (by decide) 3 rfl [1] [0, 2] rfl rfl [mo h a hi lm rm pc bi sd, eI Γ (a 5) 16 rw] rfl [mo h a hi lm rm pc bi sd, eI Γ (a 1) 42 (dayB (daysS q i) false), eI Γ (a 5) 16 rw] rfl rfl rfl [] rfl (Nat.le_of_ble_eq_true rfl) ?_
          refine r_iincN K dX7_isDeepSo_47 (n := 1) 1 rfl rfl (by decide) (lv1 := [(3, .int (nI (i + 1))), (2, .int (bz b)), (0, .ref h), (1, .int (nI g))]) rfl ?_
          refine r_goto K dX7_isDeepSo_50 ?_
          refine r_arr K (f2 := daysS q (i + 1)) (ws1 := [mo h a hi lm rm pc bi sd, eI Γ (a 1) 42 (daysS q (i + 1)), eI Γ (a 5) 16 rw]) 1 rfl (fun _ _ => rfl) rfl ?_
          exact ih_L4 f (i + 1) b (by omega) (hE.trans (frL_tI c29).symm) (by omega)
  refine r_lc (lv1 := [(3, .int (nI 0)), (2, .int (bz true)), (0, .ref h), (1, .int (nI g))]) (rfl) ?_
  refine r_arr K (f2 := daysS q 0) (ws1 := [mo h a hi lm rm pc bi sd, eI Γ (a 1) 42 (daysS q 0), eI Γ (a 5) 16 rw]) 1 rfl (fun _ _ => rfl) rfl ?_
  exact L4 _ rm 0 true (rfl) (rfl) (Nat.lt_succ_self _)
set_option maxHeartbeats 1000000 in
set_option maxRecDepth 20000 in
theorem c_X7_whoWept (l : Launch) (Γ : eG) (h : Nat) (a : Nat → Nat) (hi : Bool) (lm : Nat) (rm : Nat) (pc : Nat) (bi : Int32) (sd : Int32) (r : Nat → Int32) (q : Nat → Int32) (rw : Nat → Int32) (rf : Nat → Int32) (x : Int32) (hI : Inv r) (hr16 : rm ≤ 16) : cE l Γ yX7_whoWept cX7_whoWept 4 (some .int) 4 [.ref h, .int x] [mo h a hi lm rm pc bi sd, eI Γ (a 0) 42 r, eI Γ (a 1) 42 q, eI Γ (a 5) 16 rw, eI Γ (a 6) 7 rf] (S := Nat → Int32) (fun u => True) (fun u => (some (.int (chE (eGr r x) (wwF r (ix x) rw rm (nM r)) (eGr r x))))) (fun u => [mo h a hi lm rm pc bi sd, eI Γ (a 0) 42 r, eI Γ (a 1) 42 u, eI Γ (a 5) 16 rw, eI Γ (a 6) 7 (chE (eGr r x) rf (nof rf (eGr r x)))]) := by
  refine e_int [(0, .ref h), (1, .int x)] (by decide +kernel) (Nat.le_of_ble_eq_true rfl) rfl (fun V K hR => ?_)
  have h5 := hI.g
  have h6 := hI.m
  refine r_aload_n K dX7_whoWept_0 0 rfl ?_
  refine r_iload_n K dX7_whoWept_1 1 rfl ?_
  refine r_cVd K dX7_whoWept_2 (c_X7_isGrave l Γ h a hi lm rm pc bi sd r x (hI)) mX7_isGrave q860 rfl (by decide) rfl rfl 5 rfl [0, 1] [2, 3, 4] rfl rfl [eI Γ (a 1) 42 q, eI Γ (a 5) 16 rw, eI Γ (a 6) 7 rf] rfl [mo h a hi lm rm pc bi sd, eI Γ (a 0) 42 r, eI Γ (a 1) 42 q, eI Γ (a 5) 16 rw, eI Γ (a 6) 7 rf] rfl rfl rfl [] rfl (Nat.le_of_ble_eq_true rfl) ?_
  refine r_ifneB K dX7_whoWept_5 (fun c5 => ?_) (fun c5 => ?_)
  · have hx := inN_e c5 (by omega)
    have lx := ix_lt c5 (by omega)
    refine r_lc (lv1 := [(0, .ref h), (1, .int (nI (ix x)))]) (congrArg (fun zz : Int32 => ([(0, .ref h), (1, .int zz)] : List (Nat × Value))) (hx)) ?_
    refine r_iconst K dX7_whoWept_14 (nI 0) (by decide) ?_
    refine r_istore_n K dX7_whoWept_15 rfl (by decide) (lv1 := [(2, .int (nI 0)), (0, .ref h), (1, .int (nI (ix x)))]) rfl ?_
    refine r_iconst K dX7_whoWept_16 (nI 0) (by decide) ?_
    refine r_istore_n K dX7_whoWept_17 rfl (by decide) (lv1 := [(3, .int (nI 0)), (2, .int (nI 0)), (0, .ref h), (1, .int (nI (ix x)))]) rfl ?_
    have L18 : ∀ (fL18 : Nat) (k : Nat) (v : Int32) (q : Nat → Int32), (k ≤ nM r) → (v = wwF r (ix x) rw rm k) → nM r - k < fL18 → V 18 [(3, .int (nI k)), (2, .int v), (0, .ref h), (1, .int (nI (ix x)))] [] [mo h a hi lm rm pc bi sd, eI Γ (a 0) 42 r, eI Γ (a 1) 42 q, eI Γ (a 5) 16 rw, eI Γ (a 6) 7 rf] := by
      intro fL18
      induction fL18 with
      | zero => intro k v q hk hv hf; exact absurd hf (Nat.not_lt_zero _)
      | succ fL18 ih_L18 =>
        intro k v q hk hv hfL18
        refine r_iload_n K dX7_whoWept_18 0 rfl ?_
        refine r_aload_n K dX7_whoWept_19 2 rfl ?_
        refine r_get K dX7_whoWept_20 (kf := 0) 0 rfl rfl hinX7 (by decide) q757 rfl rfl ?_
        refine r_iconst K dX7_whoWept_23 (nI 1) (by decide) ?_
        refine r_aldN K dX7_whoWept_24 1 rfl (by first | omega | exact iG_lt (by omega) (by decide) | exact iM_lt (by omega) (by decide)) (by decide) ?_
        refine r_top (y := nI (nM r)) (hI.r1) ?_
        refine r_ic_geN K dX7_whoWept_25 (by omega) (by omega) (fun c25 => ?_) (fun c25 => ?_)
        · obtain rfl : k = nM r := by omega
          refine r_iload_n K dX7_whoWept_71 1 rfl ?_
          have he : eGr r x = 0 := by
            unfold eGr
            rw [if_neg (not_not_intro c5)]
          refine r_arr K (f2 := chE (eGr r x) rf (nof rf (eGr r x))) (ws1 := [mo h a hi lm rm pc bi sd, eI Γ (a 0) 42 r, eI Γ (a 1) 42 q, eI Γ (a 5) 16 rw, eI Γ (a 6) 7 (chE (eGr r x) rf (nof rf (eGr r x)))]) 4 rfl (fun _ _ => by rw [chE_0 he]) rfl ?_
          exact hR q dX7_whoWept_72 (trivial) (e_ri (ex_0 he (hv.symm))) (weq.rf)
        · refine r_aload_n K dX7_whoWept_28 2 rfl ?_
          refine r_get K dX7_whoWept_29 (kf := 0) 0 rfl rfl hinX7 (by decide) q757 rfl rfl ?_
          refine r_aload_n K dX7_whoWept_32 2 rfl ?_
          refine r_get K dX7_whoWept_33 (kf := 1) 0 rfl rfl hinX7 (by decide) q758 rfl rfl ?_
          refine r_cSn K dX7_whoWept_36 (c_X7_copies l Γ (a 0) (a 1) r q) mX7_copies q843 rfl (by decide) 5 rfl [1, 2] [0, 3, 4] rfl rfl [mo h a hi lm rm pc bi sd, eI Γ (a 5) 16 rw, eI Γ (a 6) 7 rf] rfl [mo h a hi lm rm pc bi sd, eI Γ (a 0) 42 r, eI Γ (a 1) 42 r, eI Γ (a 5) 16 rw, eI Γ (a 6) 7 rf] rfl rfl rfl [] rfl (Nat.le_of_ble_eq_true rfl) ?_
          refine r_aload_n K dX7_whoWept_39 2 rfl ?_
          refine r_iconst K dX7_whoWept_40 (nI 1) (by decide) ?_
          refine r_iload_n K dX7_whoWept_41 0 rfl ?_
          refine r_ishl K dX7_whoWept_42 ?_
          refine r_top (y := nI (2 ^ k)) (sh1 (by omega)) ?_
          refine r_iload_n K dX7_whoWept_43 3 rfl ?_
          refine r_cVn K dX7_whoWept_44 (c_X7_setsAlone l Γ h a hi lm rm pc bi sd r (2 ^ k) (ix x) (hI) (by omega) (by have := pow6 (show k ≤ 5 + 1 by omega); have := Nat.pow_le_pow_right (show 0 < 2 by decide) (show k ≤ 5 by omega); omega)) mX7_setsAlone q997 rfl (by decide) rfl rfl 5 rfl [0, 2] [1, 3, 4] rfl rfl [eI Γ (a 0) 42 r, eI Γ (a 5) 16 rw, eI Γ (a 6) 7 rf] rfl [mo h a hi lm rm pc bi sd, eI Γ (a 0) 42 r, eI Γ (a 1) 42 (aloneTo r (2 ^ k) (ix x) (nM r)), eI Γ (a 5) 16 rw, eI Γ (a 6) 7 rf] rfl rfl rfl [] rfl (Nat.le_of_ble_eq_true rfl) ?_
          refine r_arr K (f2 := upd (leaveS r) (iM k 3) (nI (ix x))) (ws1 := [mo h a hi lm rm pc bi sd, eI Γ (a 0) 42 r, eI Γ (a 1) 42 (upd (leaveS r) (iM k 3) (nI (ix x))), eI Γ (a 5) 16 rw, eI Γ (a 6) 7 rf]) 2 rfl (fun _ _ => by rw [alone_leave (by omega) h6]) rfl ?_
          refine r_iload_n K dX7_whoWept_47 1 rfl ?_
          refine r_aload_n K dX7_whoWept_48 2 rfl ?_
          refine r_iload_n K dX7_whoWept_49 3 rfl ?_
          refine r_cVd K dX7_whoWept_50 (c_X7_isDeepSo l Γ h a hi lm rm pc bi sd (upd (leaveS r) (iM k 3) (nI (ix x))) rw (ix x) (Inv_at (Inv_leave hI) (Or.inr ⟨ix x, by rw [lv_nG]; exact lx, rfl⟩)) (by rw [nG_M, lv_nG]; exact lx) (by first | assumption | omega)) mX7_isDeepSo q1087 rfl (by decide) rfl rfl 5 rfl [0, 2, 3] [1, 4] rfl rfl [eI Γ (a 0) 42 r, eI Γ (a 6) 7 rf] rfl [mo h a hi lm rm pc bi sd, eI Γ (a 0) 42 r, eI Γ (a 1) 42 (daysS (upd (leaveS r) (iM k 3) (nI (ix x))) rm), eI Γ (a 5) 16 rw, eI Γ (a 6) 7 rf] rfl rfl rfl [.int v] rfl (Nat.le_of_ble_eq_true rfl) ?_
          refine r_ifeqB K dX7_whoWept_53 (fun c53 => ?_) (fun c53 => ?_)
          · refine r_iconst K dX7_whoWept_62 (nI 0) (by decide) ?_
            refine r_ior K dX7_whoWept_63 ?_
            refine r_istore_n K dX7_whoWept_64 rfl (by decide) (lv1 := [(2, .int (v ||| (nI 0))), (3, .int (nI k)), (0, .ref h), (1, .int (nI (ix x)))]) rfl ?_
            refine r_iincN K dX7_whoWept_65 (n := 1) 1 rfl rfl (by decide) (lv1 := [(3, .int (nI (k + 1))), (2, .int (v ||| (nI 0))), (0, .ref h), (1, .int (nI (ix x)))]) rfl ?_
            refine r_goto K dX7_whoWept_68 ?_
            exact ih_L18 (k + 1) (v ||| (nI 0)) (daysS (upd (leaveS r) (iM k 3) (nI (ix x))) rm) (by omega) ((or0 _).trans (hv.trans (wwF_n c53).symm)) (by omega)
          · refine r_iconst K dX7_whoWept_56 (nI 1) (by decide) ?_
            refine r_iload_n K dX7_whoWept_57 0 rfl ?_
            refine r_ishl K dX7_whoWept_58 ?_
            refine r_goto K dX7_whoWept_59 ?_
            refine r_ior K dX7_whoWept_63 ?_
            refine r_istore_n K dX7_whoWept_64 rfl (by decide) (lv1 := [(2, .int (v ||| ((nI 1) <<< ((nI k) &&& 31)))), (3, .int (nI k)), (0, .ref h), (1, .int (nI (ix x)))]) rfl ?_
            refine r_iincN K dX7_whoWept_65 (n := 1) 1 rfl rfl (by decide) (lv1 := [(3, .int (nI (k + 1))), (2, .int (v ||| ((nI 1) <<< ((nI k) &&& 31)))), (0, .ref h), (1, .int (nI (ix x)))]) rfl ?_
            refine r_goto K dX7_whoWept_68 ?_
            exact ih_L18 (k + 1) (v ||| ((nI 1) <<< ((nI k) &&& 31))) (daysS (upd (leaveS r) (iM k 3) (nI (ix x))) rm) (by omega) (by rw [hv]; exact (wwF_t c53).symm) (by omega)
    exact L18 _ 0 (nI 0) q (Nat.zero_le _) (rfl) (Nat.lt_succ_self _)
  · refine r_aload_n K dX7_whoWept_8 0 rfl ?_
    refine r_iconst K dX7_whoWept_9 ((-1)) (by decide) ?_
    refine r_cVd K dX7_whoWept_10 (c_X7_no l Γ h a hi lm rm pc bi sd rf (-1) (okR_1)) mX7_no q813 rfl (by decide) rfl rfl 5 rfl [0, 4] [1, 2, 3] rfl rfl [eI Γ (a 0) 42 r, eI Γ (a 1) 42 q, eI Γ (a 5) 16 rw] rfl [mo h a hi lm rm pc bi sd, eI Γ (a 0) 42 r, eI Γ (a 1) 42 q, eI Γ (a 5) 16 rw, eI Γ (a 6) 7 (nof rf (-1))] rfl rfl rfl [] rfl (Nat.le_of_ble_eq_true rfl) ?_
    have he : eGr r x = (-1) := by
      unfold eGr
      rw [if_pos (nt c5)]
    refine r_arr K (f2 := chE (eGr r x) rf (nof rf (eGr r x))) (ws1 := [mo h a hi lm rm pc bi sd, eI Γ (a 0) 42 r, eI Γ (a 1) 42 q, eI Γ (a 5) 16 rw, eI Γ (a 6) 7 (chE (eGr r x) rf (nof rf (eGr r x)))]) 4 rfl (fun _ _ => by rw [ch_n (g := nof rf) he (by decide)]) rfl ?_
    exact hR q dX7_whoWept_13 (trivial) (e_ri (ex_n he (by decide))) (weq.rf)
set_option maxHeartbeats 1000000 in
set_option maxRecDepth 20000 in
theorem c_X7_whatIs (l : Launch) (Γ : eG) (h : Nat) (a : Nat → Nat) (hi : Bool) (lm : Nat) (rm : Nat) (pc : Nat) (bi : Int32) (sd : Int32) (r : Nat → Int32) (q : Nat → Int32) (rw : Nat → Int32) (rf : Nat → Int32) (x : Int32) (w : Int32) (hI : Inv r) (hr16 : rm ≤ 16) : cE l Γ yX7_whatIs cX7_whatIs 6 (some .int) 4 [.ref h, .int x, .int w] [mo h a hi lm rm pc bi sd, eI Γ (a 0) 42 r, eI Γ (a 1) 42 q, eI Γ (a 5) 16 rw, eI Γ (a 6) 7 rf] (S := Nat → Int32) (fun u => True) (fun u => (some (.int (chE (eWhatIs r x w) (aWhatIs r rw rm x w) (eWhatIs r x w))))) (fun u => [mo h a hi lm rm pc bi sd, eI Γ (a 0) 42 r, eI Γ (a 1) 42 u, eI Γ (a 5) 16 rw, eI Γ (a 6) 7 (chE (eWhatIs r x w) rf (nof rf (eWhatIs r x w)))]) := by
  refine e_int [(0, .ref h), (1, .int x), (2, .int w)] (by decide +kernel) (Nat.le_of_ble_eq_true rfl) rfl (fun V K hR => ?_)
  have h5 := hI.g
  have h6 := hI.m
  refine r_aload_n K dX7_whatIs_0 0 rfl ?_
  refine r_iload_n K dX7_whatIs_1 1 rfl ?_
  refine r_cVd K dX7_whatIs_2 (c_X7_isMourner l Γ h a hi lm rm pc bi sd r x (hI)) mX7_isMourner q856 rfl (by decide) rfl rfl 5 rfl [0, 1] [2, 3, 4] rfl rfl [eI Γ (a 1) 42 q, eI Γ (a 5) 16 rw, eI Γ (a 6) 7 rf] rfl [mo h a hi lm rm pc bi sd, eI Γ (a 0) 42 r, eI Γ (a 1) 42 q, eI Γ (a 5) 16 rw, eI Γ (a 6) 7 rf] rfl rfl rfl [] rfl (Nat.le_of_ble_eq_true rfl) ?_
  refine r_ifneB K dX7_whatIs_5 (fun c5 => ?_) (fun c5 => ?_)
  · have hx := inN_e c5 (by omega)
    have lx := ix_lt c5 (by omega)
    refine r_lc (lv1 := [(0, .ref h), (1, .int (nI (ix x))), (2, .int w)]) (congrArg (fun zz : Int32 => ([(0, .ref h), (1, .int zz), (2, .int w)] : List (Nat × Value))) (hx)) ?_
    refine r_iload_n K dX7_whatIs_14 2 rfl ?_
    refine r_iconst K dX7_whatIs_15 (nI 0) (by decide) ?_
    refine r_iconst K dX7_whatIs_16 (nI 1) (by decide) ?_
    refine r_cSd K dX7_whatIs_17 (c_X7_isIn l Γ w (nI 0) (nI 1)) mX7_isIn q833 rfl (by decide) 5 rfl [] [0, 1, 2, 3, 4] rfl rfl [mo h a hi lm rm pc bi sd, eI Γ (a 0) 42 r, eI Γ (a 1) 42 q, eI Γ (a 5) 16 rw, eI Γ (a 6) 7 rf] rfl [mo h a hi lm rm pc bi sd, eI Γ (a 0) 42 r, eI Γ (a 1) 42 q, eI Γ (a 5) 16 rw, eI Γ (a 6) 7 rf] rfl rfl rfl [] rfl (Nat.le_of_ble_eq_true rfl) ?_
    refine r_ifneB K dX7_whatIs_20 (fun c20 => ?_) (fun c20 => ?_)
    · have hw := isInB_ok (lo := 0) (hi := 1) (by decide) (by decide) c20
      have lw := hw.2
      refine r_lc (lv1 := [(0, .ref h), (1, .int (nI (ix x))), (2, .int (nI (ix w)))]) (congrArg (fun zz : Int32 => ([(0, .ref h), (1, .int (nI (ix x))), (2, .int zz)] : List (Nat × Value))) (hw.1)) ?_
      refine r_aload_n K dX7_whatIs_30 0 rfl ?_
      refine r_get K dX7_whatIs_31 (kf := 0) 0 rfl rfl hinX7 (by decide) q757 rfl rfl ?_
      refine r_iload_n K dX7_whatIs_34 1 rfl ?_
      refine r_iconst K dX7_whatIs_35 (nI 3) (by decide) ?_
      refine r_cSd K dX7_whatIs_36 (c_X7_ofM l Γ (ix x) 3) mX7_ofM q853 rfl (by decide) 5 rfl [] [0, 1, 2, 3, 4] rfl rfl [mo h a hi lm rm pc bi sd, eI Γ (a 0) 42 r, eI Γ (a 1) 42 q, eI Γ (a 5) 16 rw, eI Γ (a 6) 7 rf] rfl [mo h a hi lm rm pc bi sd, eI Γ (a 0) 42 r, eI Γ (a 1) 42 q, eI Γ (a 5) 16 rw, eI Γ (a 6) 7 rf] rfl rfl rfl [.ref (a 0)] rfl (Nat.le_of_ble_eq_true rfl) ?_
      refine r_aldN K dX7_whatIs_39 1 rfl (by first | omega | exact iG_lt (by omega) (by decide) | exact iM_lt (by omega) (by decide)) (by decide) ?_
      refine r_istore_n K dX7_whatIs_40 rfl (by decide) (lv1 := [(3, .int (r (iM (ix x) 3))), (0, .ref h), (1, .int (nI (ix x))), (2, .int (nI (ix w)))]) rfl ?_
      refine r_iconst K dX7_whatIs_41 (nI 0) (by decide) ?_
      refine r_istore K dX7_whatIs_42 (by decide) (lv1 := [(4, .int (nI 0)), (3, .int (r (iM (ix x) 3))), (0, .ref h), (1, .int (nI (ix x))), (2, .int (nI (ix w)))]) rfl ?_
      refine r_iconst K dX7_whatIs_44 (nI 0) (by decide) ?_
      refine r_istore K dX7_whatIs_45 (by decide) (lv1 := [(5, .int (nI 0)), (4, .int (nI 0)), (3, .int (r (iM (ix x) 3))), (0, .ref h), (1, .int (nI (ix x))), (2, .int (nI (ix w)))]) rfl ?_
      have L47 : ∀ (fL47 : Nat) (k : Nat) (v : Int32) (q : Nat → Int32), (k ≤ (if ix w = 0 then 6 else 10)) → (v = wiX r rw rm (ix x) (ix w) k) → 10 - k < fL47 → V 47 [(5, .int (nI k)), (4, .int v), (3, .int (r (iM (ix x) 3))), (0, .ref h), (1, .int (nI (ix x))), (2, .int (nI (ix w)))] [] [mo h a hi lm rm pc bi sd, eI Γ (a 0) 42 r, eI Γ (a 1) 42 q, eI Γ (a 5) 16 rw, eI Γ (a 6) 7 rf] := by
        intro fL47
        induction fL47 with
        | zero => intro k v q hk hv hf; exact absurd hf (Nat.not_lt_zero _)
        | succ fL47 ih_L47 =>
          intro k v q hk hv hfL47
          refine r_iload K dX7_whatIs_47 0 rfl ?_
          refine r_iload_n K dX7_whatIs_49 5 rfl ?_
          refine r_if_neN K dX7_whatIs_50 (by omega) (fun c50 => ?_) (fun c50 => ?_)
          · rw [if_neg c50] at hk
            refine r_bipush K dX7_whatIs_58 (nI 10) (by decide) ?_
            refine r_ic_geN K dX7_whatIs_60 (by omega) (by omega) (fun c60 => ?_) (fun c60 => ?_)
            · obtain rfl : k = 10 := by omega
              refine r_iload K dX7_whatIs_117 1 rfl ?_
              have he : eWhatIs r x w = 0 := by
                unfold eWhatIs
                rw [if_neg (not_not_intro c5), if_neg (not_not_intro c20)]
              refine r_arr K (f2 := chE (eWhatIs r x w) rf (nof rf (eWhatIs r x w))) (ws1 := [mo h a hi lm rm pc bi sd, eI Γ (a 0) 42 r, eI Γ (a 1) 42 q, eI Γ (a 5) 16 rw, eI Γ (a 6) 7 (chE (eWhatIs r x w) rf (nof rf (eWhatIs r x w)))]) 4 rfl (fun _ _ => by rw [chE_0 he]) rfl ?_
              exact hR q dX7_whatIs_119 (trivial) (e_ri (ex_0 he ((aWhat_1 (fun z => c50 (by rw [z]; exact ix_nI (by decide)))).trans ((congrArg (fun z => wiX r rw rm (ix x) z 10) (show 1 = ix w by omega)).trans hv.symm)))) (weq.rf)
            · refine r_iload_n K dX7_whatIs_63 2 rfl ?_
              refine r_if_lt K dX7_whatIs_64 (fun c64 => ?_) (fun c64 => ?_)
              · refine r_iload K dX7_whatIs_117 1 rfl ?_
                have he : eWhatIs r x w = 0 := by
                  unfold eWhatIs
                  rw [if_neg (not_not_intro c5), if_neg (not_not_intro c20)]
                refine r_arr K (f2 := chE (eWhatIs r x w) rf (nof rf (eWhatIs r x w))) (ws1 := [mo h a hi lm rm pc bi sd, eI Γ (a 0) 42 r, eI Γ (a 1) 42 q, eI Γ (a 5) 16 rw, eI Γ (a 6) 7 (chE (eWhatIs r x w) rf (nof rf (eWhatIs r x w)))]) 4 rfl (fun _ _ => by rw [chE_0 he]) rfl ?_
                exact hR q dX7_whatIs_119 (trivial) (e_ri (ex_0 he ((aWhat_9 (at9 hI lx c64)).trans (hv.trans (wiX_9 (at9 hI lx c64))).symm))) (weq.rf)
              · obtain ⟨g, hg, eg⟩ := (hI.pl3 lx).resolve_left (n9_of c64)
                refine r_lc (lv1 := [(5, .int (nI k)), (4, .int v), (3, .int (nI g)), (0, .ref h), (1, .int (nI (ix x))), (2, .int (nI (ix w)))]) (congrArg (fun zz : Int32 => ([(5, .int (nI k)), (4, .int v), (3, .int zz), (0, .ref h), (1, .int (nI (ix x))), (2, .int (nI (ix w)))] : List (Nat × Value))) (eg)) ?_
                refine r_aload_n K dX7_whatIs_67 3 rfl ?_
                refine r_get K dX7_whatIs_68 (kf := 0) 0 rfl rfl hinX7 (by decide) q757 rfl rfl ?_
                refine r_aload_n K dX7_whatIs_71 3 rfl ?_
                refine r_get K dX7_whatIs_72 (kf := 1) 0 rfl rfl hinX7 (by decide) q758 rfl rfl ?_
                refine r_cSn K dX7_whatIs_75 (c_X7_copies l Γ (a 0) (a 1) r q) mX7_copies q843 rfl (by decide) 5 rfl [1, 2] [0, 3, 4] rfl rfl [mo h a hi lm rm pc bi sd, eI Γ (a 5) 16 rw, eI Γ (a 6) 7 rf] rfl [mo h a hi lm rm pc bi sd, eI Γ (a 0) 42 r, eI Γ (a 1) 42 r, eI Γ (a 5) 16 rw, eI Γ (a 6) 7 rf] rfl rfl rfl [] rfl (Nat.le_of_ble_eq_true rfl) ?_
                refine r_aload_n K dX7_whatIs_78 3 rfl ?_
                refine r_get K dX7_whatIs_79 (kf := 1) 0 rfl rfl hinX7 (by decide) q758 rfl rfl ?_
                refine r_iload_n K dX7_whatIs_82 4 rfl ?_
                refine r_iload_n K dX7_whatIs_83 5 rfl ?_
                refine r_cSd K dX7_whatIs_84 (c_X7_ofM l Γ (ix x) (ix w)) mX7_ofM q853 rfl (by decide) 5 rfl [] [0, 1, 2, 3, 4] rfl rfl [mo h a hi lm rm pc bi sd, eI Γ (a 0) 42 r, eI Γ (a 1) 42 r, eI Γ (a 5) 16 rw, eI Γ (a 6) 7 rf] rfl [mo h a hi lm rm pc bi sd, eI Γ (a 0) 42 r, eI Γ (a 1) 42 r, eI Γ (a 5) 16 rw, eI Γ (a 6) 7 rf] rfl rfl rfl [.ref (a 1)] rfl (Nat.le_of_ble_eq_true rfl) ?_
                refine r_iload K dX7_whatIs_87 0 rfl ?_
                refine r_astN K dX7_whatIs_89 (ws1 := [mo h a hi lm rm pc bi sd, eI Γ (a 0) 42 r, eI Γ (a 1) 42 (upd r (iM (ix x) (ix w)) (nI k)), eI Γ (a 5) 16 rw, eI Γ (a 6) 7 rf]) 2 rfl (iM_lt (by omega) (by omega)) (by decide) rfl ?_
                refine r_iload K dX7_whatIs_90 1 rfl ?_
                refine r_aload_n K dX7_whatIs_92 3 rfl ?_
                refine r_iload_n K dX7_whatIs_93 2 rfl ?_
                refine r_cVd K dX7_whatIs_94 (c_X7_isDeepSo l Γ h a hi lm rm pc bi sd (upd r (iM (ix x) (ix w)) (nI k)) rw g (Inv_kf hI (by omega) (by omega) (by omega)) (by rw [nG_M]; exact hg) (by first | assumption | omega)) mX7_isDeepSo q1087 rfl (by decide) rfl rfl 5 rfl [0, 2, 3] [1, 4] rfl rfl [eI Γ (a 0) 42 r, eI Γ (a 6) 7 rf] rfl [mo h a hi lm rm pc bi sd, eI Γ (a 0) 42 r, eI Γ (a 1) 42 (daysS (upd r (iM (ix x) (ix w)) (nI k)) rm), eI Γ (a 5) 16 rw, eI Γ (a 6) 7 rf] rfl rfl rfl [.int v] rfl (Nat.le_of_ble_eq_true rfl) ?_
                refine r_ifeqB K dX7_whatIs_97 (fun c97 => ?_) (fun c97 => ?_)
                · have hr : v = wiX r rw rm (ix x) (ix w) (k + 1) := by rw [hv, wiX_g eg (by omega), wiX_g eg (by omega), wiF_n c97]
                  refine r_iconst K dX7_whatIs_107 (nI 0) (by decide) ?_
                  refine r_ior K dX7_whatIs_108 ?_
                  refine r_istore K dX7_whatIs_109 (by decide) (lv1 := [(4, .int (v ||| (nI 0))), (5, .int (nI k)), (3, .int (nI g)), (0, .ref h), (1, .int (nI (ix x))), (2, .int (nI (ix w)))]) rfl ?_
                  refine r_lc (lv1 := [(4, .int (v ||| (nI 0))), (5, .int (nI k)), (3, .int (r (iM (ix x) 3))), (0, .ref h), (1, .int (nI (ix x))), (2, .int (nI (ix w)))]) (congrArg (fun zz : Int32 => ([(4, .int (v ||| (nI 0))), (5, .int (nI k)), (3, .int zz), (0, .ref h), (1, .int (nI (ix x))), (2, .int (nI (ix w)))] : List (Nat × Value))) (eg.symm)) ?_
                  refine r_iincN K dX7_whatIs_111 (n := 1) 1 rfl rfl (by decide) (lv1 := [(5, .int (nI (k + 1))), (4, .int (v ||| (nI 0))), (3, .int (r (iM (ix x) 3))), (0, .ref h), (1, .int (nI (ix x))), (2, .int (nI (ix w)))]) rfl ?_
                  refine r_goto K dX7_whatIs_114 ?_
                  exact ih_L47 (k + 1) (v ||| (nI 0)) (daysS (upd r (iM (ix x) (ix w)) (nI k)) rm) (by split <;> omega) ((or0 _).trans hr) (by omega)
                · refine r_iconst K dX7_whatIs_100 (nI 1) (by decide) ?_
                  refine r_iload K dX7_whatIs_101 0 rfl ?_
                  refine r_ishl K dX7_whatIs_103 ?_
                  refine r_goto K dX7_whatIs_104 ?_
                  refine r_ior K dX7_whatIs_108 ?_
                  refine r_istore K dX7_whatIs_109 (by decide) (lv1 := [(4, .int (v ||| ((nI 1) <<< ((nI k) &&& 31)))), (5, .int (nI k)), (3, .int (nI g)), (0, .ref h), (1, .int (nI (ix x))), (2, .int (nI (ix w)))]) rfl ?_
                  refine r_lc (lv1 := [(4, .int (v ||| ((nI 1) <<< ((nI k) &&& 31)))), (5, .int (nI k)), (3, .int (r (iM (ix x) 3))), (0, .ref h), (1, .int (nI (ix x))), (2, .int (nI (ix w)))]) (congrArg (fun zz : Int32 => ([(4, .int (v ||| ((nI 1) <<< ((nI k) &&& 31)))), (5, .int (nI k)), (3, .int zz), (0, .ref h), (1, .int (nI (ix x))), (2, .int (nI (ix w)))] : List (Nat × Value))) (eg.symm)) ?_
                  refine r_iincN K dX7_whatIs_111 (n := 1) 1 rfl rfl (by decide) (lv1 := [(5, .int (nI (k + 1))), (4, .int (v ||| ((nI 1) <<< ((nI k) &&& 31)))), (3, .int (r (iM (ix x) 3))), (0, .ref h), (1, .int (nI (ix x))), (2, .int (nI (ix w)))]) rfl ?_
                  refine r_goto K dX7_whatIs_114 ?_
                  exact ih_L47 (k + 1) (v ||| ((nI 1) <<< ((nI k) &&& 31))) (daysS (upd r (iM (ix x) (ix w)) (nI k)) rm) (by split <;> omega) (by rw [hv, wiX_g eg (by omega), wiX_g eg (by omega), wiF_t c97]) (by omega)
          · rw [if_pos c50] at hk
            refine r_bipush K dX7_whatIs_53 (nI 6) (by decide) ?_
            refine r_goto K dX7_whatIs_55 ?_
            refine r_ic_geN K dX7_whatIs_60 (by omega) (by omega) (fun c60 => ?_) (fun c60 => ?_)
            · obtain rfl : k = 6 := by omega
              refine r_iload K dX7_whatIs_117 1 rfl ?_
              have he : eWhatIs r x w = 0 := by
                unfold eWhatIs
                rw [if_neg (not_not_intro c5), if_neg (not_not_intro c20)]
              refine r_arr K (f2 := chE (eWhatIs r x w) rf (nof rf (eWhatIs r x w))) (ws1 := [mo h a hi lm rm pc bi sd, eI Γ (a 0) 42 r, eI Γ (a 1) 42 q, eI Γ (a 5) 16 rw, eI Γ (a 6) 7 (chE (eWhatIs r x w) rf (nof rf (eWhatIs r x w)))]) 4 rfl (fun _ _ => by rw [chE_0 he]) rfl ?_
              exact hR q dX7_whatIs_119 (trivial) (e_ri (ex_0 he ((aWhat_0 (show w = nI 0 from by rw [hw.1, c50])).trans ((congrArg (fun z => wiX r rw rm (ix x) z 6) c50.symm).trans hv.symm)))) (weq.rf)
            · refine r_iload_n K dX7_whatIs_63 2 rfl ?_
              refine r_if_lt K dX7_whatIs_64 (fun c64 => ?_) (fun c64 => ?_)
              · refine r_iload K dX7_whatIs_117 1 rfl ?_
                have he : eWhatIs r x w = 0 := by
                  unfold eWhatIs
                  rw [if_neg (not_not_intro c5), if_neg (not_not_intro c20)]
                refine r_arr K (f2 := chE (eWhatIs r x w) rf (nof rf (eWhatIs r x w))) (ws1 := [mo h a hi lm rm pc bi sd, eI Γ (a 0) 42 r, eI Γ (a 1) 42 q, eI Γ (a 5) 16 rw, eI Γ (a 6) 7 (chE (eWhatIs r x w) rf (nof rf (eWhatIs r x w)))]) 4 rfl (fun _ _ => by rw [chE_0 he]) rfl ?_
                exact hR q dX7_whatIs_119 (trivial) (e_ri (ex_0 he ((aWhat_9 (at9 hI lx c64)).trans (hv.trans (wiX_9 (at9 hI lx c64))).symm))) (weq.rf)
              · obtain ⟨g, hg, eg⟩ := (hI.pl3 lx).resolve_left (n9_of c64)
                refine r_lc (lv1 := [(5, .int (nI k)), (4, .int v), (3, .int (nI g)), (0, .ref h), (1, .int (nI (ix x))), (2, .int (nI (ix w)))]) (congrArg (fun zz : Int32 => ([(5, .int (nI k)), (4, .int v), (3, .int zz), (0, .ref h), (1, .int (nI (ix x))), (2, .int (nI (ix w)))] : List (Nat × Value))) (eg)) ?_
                refine r_aload_n K dX7_whatIs_67 3 rfl ?_
                refine r_get K dX7_whatIs_68 (kf := 0) 0 rfl rfl hinX7 (by decide) q757 rfl rfl ?_
                refine r_aload_n K dX7_whatIs_71 3 rfl ?_
                refine r_get K dX7_whatIs_72 (kf := 1) 0 rfl rfl hinX7 (by decide) q758 rfl rfl ?_
                refine r_cSn K dX7_whatIs_75 (c_X7_copies l Γ (a 0) (a 1) r q) mX7_copies q843 rfl (by decide) 5 rfl [1, 2] [0, 3, 4] rfl rfl [mo h a hi lm rm pc bi sd, eI Γ (a 5) 16 rw, eI Γ (a 6) 7 rf] rfl [mo h a hi lm rm pc bi sd, eI Γ (a 0) 42 r, eI Γ (a 1) 42 r, eI Γ (a 5) 16 rw, eI Γ (a 6) 7 rf] rfl rfl rfl [] rfl (Nat.le_of_ble_eq_true rfl) ?_
                refine r_aload_n K dX7_whatIs_78 3 rfl ?_
                refine r_get K dX7_whatIs_79 (kf := 1) 0 rfl rfl hinX7 (by decide) q758 rfl rfl ?_
                refine r_iload_n K dX7_whatIs_82 4 rfl ?_
                refine r_iload_n K dX7_whatIs_83 5 rfl ?_
                refine r_cSd K dX7_whatIs_84 (c_X7_ofM l Γ (ix x) (ix w)) mX7_ofM q853 rfl (by decide) 5 rfl [] [0, 1, 2, 3, 4] rfl rfl [mo h a hi lm rm pc bi sd, eI Γ (a 0) 42 r, eI Γ (a 1) 42 r, eI Γ (a 5) 16 rw, eI Γ (a 6) 7 rf] rfl [mo h a hi lm rm pc bi sd, eI Γ (a 0) 42 r, eI Γ (a 1) 42 r, eI Γ (a 5) 16 rw, eI Γ (a 6) 7 rf] rfl rfl rfl [.ref (a 1)] rfl (Nat.le_of_ble_eq_true rfl) ?_
                refine r_iload K dX7_whatIs_87 0 rfl ?_
                refine r_astN K dX7_whatIs_89 (ws1 := [mo h a hi lm rm pc bi sd, eI Γ (a 0) 42 r, eI Γ (a 1) 42 (upd r (iM (ix x) (ix w)) (nI k)), eI Γ (a 5) 16 rw, eI Γ (a 6) 7 rf]) 2 rfl (iM_lt (by omega) (by omega)) (by decide) rfl ?_
                refine r_iload K dX7_whatIs_90 1 rfl ?_
                refine r_aload_n K dX7_whatIs_92 3 rfl ?_
                refine r_iload_n K dX7_whatIs_93 2 rfl ?_
                refine r_cVd K dX7_whatIs_94 (c_X7_isDeepSo l Γ h a hi lm rm pc bi sd (upd r (iM (ix x) (ix w)) (nI k)) rw g (Inv_kf hI (by omega) (by omega) (by omega)) (by rw [nG_M]; exact hg) (by first | assumption | omega)) mX7_isDeepSo q1087 rfl (by decide) rfl rfl 5 rfl [0, 2, 3] [1, 4] rfl rfl [eI Γ (a 0) 42 r, eI Γ (a 6) 7 rf] rfl [mo h a hi lm rm pc bi sd, eI Γ (a 0) 42 r, eI Γ (a 1) 42 (daysS (upd r (iM (ix x) (ix w)) (nI k)) rm), eI Γ (a 5) 16 rw, eI Γ (a 6) 7 rf] rfl rfl rfl [.int v] rfl (Nat.le_of_ble_eq_true rfl) ?_
                refine r_ifeqB K dX7_whatIs_97 (fun c97 => ?_) (fun c97 => ?_)
                · have hr : v = wiX r rw rm (ix x) (ix w) (k + 1) := by rw [hv, wiX_g eg (by omega), wiX_g eg (by omega), wiF_n c97]
                  refine r_iconst K dX7_whatIs_107 (nI 0) (by decide) ?_
                  refine r_ior K dX7_whatIs_108 ?_
                  refine r_istore K dX7_whatIs_109 (by decide) (lv1 := [(4, .int (v ||| (nI 0))), (5, .int (nI k)), (3, .int (nI g)), (0, .ref h), (1, .int (nI (ix x))), (2, .int (nI (ix w)))]) rfl ?_
                  refine r_lc (lv1 := [(4, .int (v ||| (nI 0))), (5, .int (nI k)), (3, .int (r (iM (ix x) 3))), (0, .ref h), (1, .int (nI (ix x))), (2, .int (nI (ix w)))]) (congrArg (fun zz : Int32 => ([(4, .int (v ||| (nI 0))), (5, .int (nI k)), (3, .int zz), (0, .ref h), (1, .int (nI (ix x))), (2, .int (nI (ix w)))] : List (Nat × Value))) (eg.symm)) ?_
                  refine r_iincN K dX7_whatIs_111 (n := 1) 1 rfl rfl (by decide) (lv1 := [(5, .int (nI (k + 1))), (4, .int (v ||| (nI 0))), (3, .int (r (iM (ix x) 3))), (0, .ref h), (1, .int (nI (ix x))), (2, .int (nI (ix w)))]) rfl ?_
                  refine r_goto K dX7_whatIs_114 ?_
                  exact ih_L47 (k + 1) (v ||| (nI 0)) (daysS (upd r (iM (ix x) (ix w)) (nI k)) rm) (by split <;> omega) ((or0 _).trans hr) (by omega)
                · refine r_iconst K dX7_whatIs_100 (nI 1) (by decide) ?_
                  refine r_iload K dX7_whatIs_101 0 rfl ?_
                  refine r_ishl K dX7_whatIs_103 ?_
                  refine r_goto K dX7_whatIs_104 ?_
                  refine r_ior K dX7_whatIs_108 ?_
                  refine r_istore K dX7_whatIs_109 (by decide) (lv1 := [(4, .int (v ||| ((nI 1) <<< ((nI k) &&& 31)))), (5, .int (nI k)), (3, .int (nI g)), (0, .ref h), (1, .int (nI (ix x))), (2, .int (nI (ix w)))]) rfl ?_
                  refine r_lc (lv1 := [(4, .int (v ||| ((nI 1) <<< ((nI k) &&& 31)))), (5, .int (nI k)), (3, .int (r (iM (ix x) 3))), (0, .ref h), (1, .int (nI (ix x))), (2, .int (nI (ix w)))]) (congrArg (fun zz : Int32 => ([(4, .int (v ||| ((nI 1) <<< ((nI k) &&& 31)))), (5, .int (nI k)), (3, .int zz), (0, .ref h), (1, .int (nI (ix x))), (2, .int (nI (ix w)))] : List (Nat × Value))) (eg.symm)) ?_
                  refine r_iincN K dX7_whatIs_111 (n := 1) 1 rfl rfl (by decide) (lv1 := [(5, .int (nI (k + 1))), (4, .int (v ||| ((nI 1) <<< ((nI k) &&& 31)))), (3, .int (r (iM (ix x) 3))), (0, .ref h), (1, .int (nI (ix x))), (2, .int (nI (ix w)))]) rfl ?_
                  refine r_goto K dX7_whatIs_114 ?_
                  exact ih_L47 (k + 1) (v ||| ((nI 1) <<< ((nI k) &&& 31))) (daysS (upd r (iM (ix x) (ix w)) (nI k)) rm) (by split <;> omega) (by rw [hv, wiX_g eg (by omega), wiX_g eg (by omega), wiF_t c97]) (by omega)
      exact L47 _ 0 (nI 0) q (Nat.zero_le _) (wiX_0.symm) (Nat.lt_succ_self _)
    · refine r_aload_n K dX7_whatIs_23 0 rfl ?_
      refine r_bipush K dX7_whatIs_24 ((-2)) (by decide) ?_
      refine r_cVd K dX7_whatIs_26 (c_X7_no l Γ h a hi lm rm pc bi sd rf (-2) (okR_2)) mX7_no q813 rfl (by decide) rfl rfl 5 rfl [0, 4] [1, 2, 3] rfl rfl [eI Γ (a 0) 42 r, eI Γ (a 1) 42 q, eI Γ (a 5) 16 rw] rfl [mo h a hi lm rm pc bi sd, eI Γ (a 0) 42 r, eI Γ (a 1) 42 q, eI Γ (a 5) 16 rw, eI Γ (a 6) 7 (nof rf (-2))] rfl rfl rfl [] rfl (Nat.le_of_ble_eq_true rfl) ?_
      have he : eWhatIs r x w = (-2) := by
        unfold eWhatIs
        rw [if_neg (not_not_intro c5), if_pos (nt c20)]
      refine r_arr K (f2 := chE (eWhatIs r x w) rf (nof rf (eWhatIs r x w))) (ws1 := [mo h a hi lm rm pc bi sd, eI Γ (a 0) 42 r, eI Γ (a 1) 42 q, eI Γ (a 5) 16 rw, eI Γ (a 6) 7 (chE (eWhatIs r x w) rf (nof rf (eWhatIs r x w)))]) 4 rfl (fun _ _ => by rw [ch_n (g := nof rf) he (by decide)]) rfl ?_
      exact hR q dX7_whatIs_29 (trivial) (e_ri (ex_n he (by decide))) (weq.rf)
  · refine r_aload_n K dX7_whatIs_8 0 rfl ?_
    refine r_iconst K dX7_whatIs_9 ((-1)) (by decide) ?_
    refine r_cVd K dX7_whatIs_10 (c_X7_no l Γ h a hi lm rm pc bi sd rf (-1) (okR_1)) mX7_no q813 rfl (by decide) rfl rfl 5 rfl [0, 4] [1, 2, 3] rfl rfl [eI Γ (a 0) 42 r, eI Γ (a 1) 42 q, eI Γ (a 5) 16 rw] rfl [mo h a hi lm rm pc bi sd, eI Γ (a 0) 42 r, eI Γ (a 1) 42 q, eI Γ (a 5) 16 rw, eI Γ (a 6) 7 (nof rf (-1))] rfl rfl rfl [] rfl (Nat.le_of_ble_eq_true rfl) ?_
    have he : eWhatIs r x w = (-1) := by
      unfold eWhatIs
      rw [if_pos (nt c5)]
    refine r_arr K (f2 := chE (eWhatIs r x w) rf (nof rf (eWhatIs r x w))) (ws1 := [mo h a hi lm rm pc bi sd, eI Γ (a 0) 42 r, eI Γ (a 1) 42 q, eI Γ (a 5) 16 rw, eI Γ (a 6) 7 (chE (eWhatIs r x w) rf (nof rf (eWhatIs r x w)))]) 4 rfl (fun _ _ => by rw [ch_n (g := nof rf) he (by decide)]) rfl ?_
    exact hR q dX7_whatIs_13 (trivial) (e_ri (ex_n he (by decide))) (weq.rf)
set_option maxHeartbeats 1000000 in
set_option maxRecDepth 20000 in
theorem c_X7_row (l : Launch) (Γ : eG) (h : Nat) (a : Nat → Nat) (hi : Bool) (lm : Nat) (rm : Nat) (pc : Nat) (bi : Int32) (sd : Int32) (rw : Nat → Int32) (rf : Nat → Int32) (v : Int32) (hr16 : rm ≤ 16) : cD l Γ yX7_row cX7_row 3 (some .int) 1 [.ref h, .int v] [mo h a hi lm rm pc bi sd, eI Γ (a 5) 16 rw, eI Γ (a 6) 7 rf] (some (.int (chE (eRow rm v) (nI (rm + 1)) (eRow rm v)))) [mo h a hi lm (chE (eRow rm v) (rm + 1) rm) pc bi sd, eI Γ (a 5) 16 (chE (eRow rm v) (upd rw rm v) rw), eI Γ (a 6) 7 (chE (eRow rm v) rf (nof rf (eRow rm v)))] := by
  refine e_int [(0, .ref h), (1, .int v)] (by decide +kernel) (Nat.le_of_ble_eq_true rfl) rfl (fun V K hR => ?_)
  refine r_iload_n K dX7_row_0 1 rfl ?_
  refine r_iconst K dX7_row_1 (nI 0) (by decide) ?_
  refine r_bipush K dX7_row_2 (nI 99) (by decide) ?_
  refine r_cSd K dX7_row_4 (c_X7_wrongBy l Γ v (nI 0) (nI 99)) mX7_wrongBy q924 rfl (by decide) 3 rfl [] [0, 1, 2] rfl rfl [mo h a hi lm rm pc bi sd, eI Γ (a 5) 16 rw, eI Γ (a 6) 7 rf] rfl [mo h a hi lm rm pc bi sd, eI Γ (a 5) 16 rw, eI Γ (a 6) 7 rf] rfl rfl rfl [] rfl (Nat.le_of_ble_eq_true rfl) ?_
  refine r_istore_n K dX7_row_7 rfl (by decide) (lv1 := [(2, .int (wrS v (nI 0) (nI 99))), (0, .ref h), (1, .int v)]) rfl ?_
  refine r_iload_n K dX7_row_8 0 rfl ?_
  refine r_if_ne K dX7_row_9 (fun c9 => ?_) (fun c9 => ?_)
  · refine r_iload_n K dX7_row_24 0 rfl ?_
    refine r_if_eq K dX7_row_25 (fun c25 => ?_) (fun c25 => ?_)
    · exact absurd c25 c9
    · refine r_aload_n K dX7_row_28 1 rfl ?_
      refine r_iload_n K dX7_row_29 0 rfl ?_
      refine r_cVd K dX7_row_30 (c_X7_no l Γ h a hi lm rm pc bi sd rf (wrS v (nI 0) (nI 99)) (okR_wr c9)) mX7_no q813 rfl (by decide) rfl rfl 3 rfl [0, 2] [1] rfl rfl [eI Γ (a 5) 16 rw] rfl [mo h a hi lm rm pc bi sd, eI Γ (a 5) 16 rw, eI Γ (a 6) 7 (nof rf (wrS v (nI 0) (nI 99)))] rfl rfl rfl [] rfl (Nat.le_of_ble_eq_true rfl) ?_
      have he : eRow rm v = wrS v (nI 0) (nI 99) := by
        unfold eRow
        rw [if_pos c9]
      refine r_arr K (f2 := chE (eRow rm v) rf (nof rf (eRow rm v))) (ws1 := [mo h a hi lm rm pc bi sd, eI Γ (a 5) 16 rw, eI Γ (a 6) 7 (chE (eRow rm v) rf (nof rf (eRow rm v)))]) 2 rfl (fun _ _ => by rw [ch_n (g := nof rf) he c9]) rfl ?_
      refine r_arr K (f2 := chE (eRow rm v) (upd rw rm v) rw) (ws1 := [mo h a hi lm rm pc bi sd, eI Γ (a 5) 16 (chE (eRow rm v) (upd rw rm v) rw), eI Γ (a 6) 7 (chE (eRow rm v) rf (nof rf (eRow rm v)))]) 1 rfl (fun _ _ => by rw [chE_n (a := upd rw rm v) (b := rw) (by rw [he]; exact c9)]) rfl ?_
      refine r_ws K (ws1 := [mo h a hi lm (chE (eRow rm v) (rm + 1) rm) pc bi sd, eI Γ (a 5) 16 (chE (eRow rm v) (upd rw rm v) rw), eI Γ (a 6) 7 (chE (eRow rm v) rf (nof rf (eRow rm v)))]) (by rw [chE_n (a := rm + 1) (b := rm) (by rw [he]; exact c9)]; exact weq.rf) ?_
      exact hR () dX7_row_33 (trivial) (e_ri (ex_n he c9)) (weq.rf)
  · have hv := wrS_ok (by decide) (by decide) c9
    have lv := hv.2
    refine r_aload_n K dX7_row_12 1 rfl ?_
    refine r_get K dX7_row_13 (kf := 9) 0 rfl rfl hinX7 (by decide) q766 rfl rfl ?_
    refine r_bipush K dX7_row_16 (nI 16) (by decide) ?_
    refine r_ic_neN K dX7_row_18 (by omega) (by omega) (fun c18 => ?_) (fun c18 => ?_)
    · refine r_iload_n K dX7_row_24 0 rfl ?_
      refine r_if_eq K dX7_row_25 (fun c25 => ?_) (fun c25 => ?_)
      · refine r_aload_n K dX7_row_34 1 rfl ?_
        refine r_get K dX7_row_35 (kf := 6) 0 rfl rfl hinX7 (by decide) q763 rfl rfl ?_
        refine r_aload_n K dX7_row_38 1 rfl ?_
        refine r_get K dX7_row_39 (kf := 9) 0 rfl rfl hinX7 (by decide) q766 rfl rfl ?_
        refine r_iload_n K dX7_row_42 2 rfl ?_
        refine r_astN K dX7_row_43 (ws1 := [mo h a hi lm rm pc bi sd, eI Γ (a 5) 16 (upd rw rm v), eI Γ (a 6) 7 rf]) 1 rfl (by first | omega | exact iG_lt (by omega) (by decide) | exact iM_lt (by omega) (by decide)) (by decide) rfl ?_
        refine r_aload_n K dX7_row_44 1 rfl ?_
        refine r_dup K dX7_row_45 rfl ?_
        refine r_get K dX7_row_46 (kf := 9) 0 rfl rfl hinX7 (by decide) q766 rfl rfl ?_
        refine r_iconst K dX7_row_49 (nI 1) (by decide) ?_
        refine r_iaddN K dX7_row_50 ?_
        refine r_put K dX7_row_51 (kf := 9) (ty := .int) (ws1 := [mo h a hi lm (rm + 1) pc bi sd, eI Γ (a 5) 16 (upd rw rm v), eI Γ (a 6) 7 rf]) 0 rfl rfl hinX7 tyX7 tyX7_ok nmX7 (by decide) q766 rfl (by decide +kernel) rfl rfl (Nat.le_of_ble_eq_true rfl) rfl ?_
        refine r_aload_n K dX7_row_54 1 rfl ?_
        refine r_get K dX7_row_55 (kf := 9) 0 rfl rfl hinX7 (by decide) q766 rfl rfl ?_
        have he : eRow rm v = 0 := by
          unfold eRow
          rw [if_neg (not_not_intro c9), if_neg c18]
        refine r_arr K (f2 := chE (eRow rm v) rf (nof rf (eRow rm v))) (ws1 := [mo h a hi lm (rm + 1) pc bi sd, eI Γ (a 5) 16 (upd rw rm v), eI Γ (a 6) 7 (chE (eRow rm v) rf (nof rf (eRow rm v)))]) 2 rfl (fun _ _ => by rw [chE_0 he]) rfl ?_
        refine r_arr K (f2 := chE (eRow rm v) (upd rw rm v) rw) (ws1 := [mo h a hi lm (rm + 1) pc bi sd, eI Γ (a 5) 16 (chE (eRow rm v) (upd rw rm v) rw), eI Γ (a 6) 7 (chE (eRow rm v) rf (nof rf (eRow rm v)))]) 1 rfl (fun _ _ => by rw [chE_0 (a := upd rw rm v) (b := rw) he]) rfl ?_
        refine r_ws K (ws1 := [mo h a hi lm (chE (eRow rm v) (rm + 1) rm) pc bi sd, eI Γ (a 5) 16 (chE (eRow rm v) (upd rw rm v) rw), eI Γ (a 6) 7 (chE (eRow rm v) rf (nof rf (eRow rm v)))]) (by rw [chE_0 (a := rm + 1) (b := rm) he]; exact weq.rf) ?_
        exact hR () dX7_row_58 (trivial) (e_ri (ex_0 he (rfl))) (weq.rf)
      · exact absurd c9 c25
    · refine r_bipush K dX7_row_21 ((-6)) (by decide) ?_
      refine r_istore_n K dX7_row_23 rfl (by decide) (lv1 := [(2, .int (-6)), (0, .ref h), (1, .int v)]) rfl ?_
      refine r_iload_n K dX7_row_24 0 rfl ?_
      refine r_if_eq K dX7_row_25 (fun c25 => ?_) (fun c25 => ?_)
      · exact absurd c25 (by decide)
      · refine r_aload_n K dX7_row_28 1 rfl ?_
        refine r_iload_n K dX7_row_29 0 rfl ?_
        refine r_cVd K dX7_row_30 (c_X7_no l Γ h a hi lm rm pc bi sd rf (-6) (okR_6)) mX7_no q813 rfl (by decide) rfl rfl 3 rfl [0, 2] [1] rfl rfl [eI Γ (a 5) 16 rw] rfl [mo h a hi lm rm pc bi sd, eI Γ (a 5) 16 rw, eI Γ (a 6) 7 (nof rf (-6))] rfl rfl rfl [] rfl (Nat.le_of_ble_eq_true rfl) ?_
        have he : eRow rm v = (-6) := by
          unfold eRow
          rw [if_neg (not_not_intro c9), if_pos c18]
        refine r_arr K (f2 := chE (eRow rm v) rf (nof rf (eRow rm v))) (ws1 := [mo h a hi lm rm pc bi sd, eI Γ (a 5) 16 rw, eI Γ (a 6) 7 (chE (eRow rm v) rf (nof rf (eRow rm v)))]) 2 rfl (fun _ _ => by rw [ch_n (g := nof rf) he (by decide)]) rfl ?_
        refine r_arr K (f2 := chE (eRow rm v) (upd rw rm v) rw) (ws1 := [mo h a hi lm rm pc bi sd, eI Γ (a 5) 16 (chE (eRow rm v) (upd rw rm v) rw), eI Γ (a 6) 7 (chE (eRow rm v) rf (nof rf (eRow rm v)))]) 1 rfl (fun _ _ => by rw [chE_n (a := upd rw rm v) (b := rw) (by rw [he]; exact (by decide))]) rfl ?_
        refine r_ws K (ws1 := [mo h a hi lm (chE (eRow rm v) (rm + 1) rm) pc bi sd, eI Γ (a 5) 16 (chE (eRow rm v) (upd rw rm v) rw), eI Γ (a 6) 7 (chE (eRow rm v) rf (nof rf (eRow rm v)))]) (by rw [chE_n (a := rm + 1) (b := rm) (by rw [he]; exact (by decide))]; exact weq.rf) ?_
        exact hR () dX7_row_33 (trivial) (e_ri (ex_n he (by decide))) (weq.rf)
set_option maxHeartbeats 1000000 in
set_option maxRecDepth 20000 in
theorem c_X7_judge (l : Launch) (Γ : eG) (h : Nat) (a : Nat → Nat) (hi : Bool) (lm : Nat) (rm : Nat) (pc : Nat) (bi : Int32) (sd : Int32) (r : Nat → Int32) (rw : Nat → Int32) (hI : Inv r) (hr16 : rm ≤ 16) : cD l Γ yX7_judge cX7_judge 3 (some .int) 2 [.ref h] [mo h a hi lm rm pc bi sd, eI Γ (a 0) 42 r, eI Γ (a 5) 16 rw] (some (.int (jgL r rw rm 0))) [mo h a hi lm 0 pc bi sd, eI Γ (a 0) 42 r, eI Γ (a 5) 16 rw] := by
  refine e_int [(0, .ref h)] (by decide +kernel) (Nat.le_of_ble_eq_true rfl) rfl (fun V K hR => ?_)
  have h5 := hI.g
  have h6 := hI.m
  refine r_aload_n K dX7_judge_0 0 rfl ?_
  refine r_get K dX7_judge_1 (kf := 9) 0 rfl rfl hinX7 (by decide) q766 rfl rfl ?_
  refine r_istore_n K dX7_judge_4 rfl (by decide) (lv1 := [(1, .int (nI rm)), (0, .ref h)]) rfl ?_
  refine r_aload_n K dX7_judge_5 1 rfl ?_
  refine r_iconst K dX7_judge_6 (nI 0) (by decide) ?_
  refine r_put K dX7_judge_7 (kf := 9) (ty := .int) (ws1 := [mo h a hi lm 0 pc bi sd, eI Γ (a 0) 42 r, eI Γ (a 5) 16 rw]) 0 rfl rfl hinX7 tyX7 tyX7_ok nmX7 (by decide) q766 rfl (by decide +kernel) rfl rfl (Nat.le_of_ble_eq_true rfl) rfl ?_
  refine r_iconst K dX7_judge_10 (nI 0) (by decide) ?_
  refine r_istore_n K dX7_judge_11 rfl (by decide) (lv1 := [(2, .int (nI 0)), (1, .int (nI rm)), (0, .ref h)]) rfl ?_
  have L12 : ∀ (fL12 : Nat) (f : Nat) (i : Nat), (f + i = rm) → (jgL r rw rm 0 = jgL r rw f i) → f < fL12 → V 12 [(2, .int (nI i)), (1, .int (nI rm)), (0, .ref h)] [] [mo h a hi lm 0 pc bi sd, eI Γ (a 0) 42 r, eI Γ (a 5) 16 rw] := by
    intro fL12
    induction fL12 with
    | zero => intro f i hfi hE hf; exact absurd hf (Nat.not_lt_zero _)
    | succ fL12 ih_L12 =>
      intro f i hfi hE hfL12
      refine r_iload_n K dX7_judge_12 0 rfl ?_
      refine r_iload_n K dX7_judge_13 1 rfl ?_
      refine r_ic_geN K dX7_judge_14 (by omega) (by omega) (fun c14 => ?_) (fun c14 => ?_)
      · obtain rfl : f = 0 := by omega
        refine r_bipush K dX7_judge_52 ((-9)) (by decide) ?_
        exact hR () dX7_judge_54 (trivial) (e_ri (hE)) (weq.rf)
      · obtain ⟨f, rfl⟩ : ∃ q, f = q + 1 := ⟨f - 1, by omega⟩
        refine r_aload_n K dX7_judge_17 2 rfl ?_
        refine r_iload_n K dX7_judge_18 0 rfl ?_
        refine r_cVd K dX7_judge_19 (c_X7_isMourner l Γ h a hi lm 0 pc bi sd r (nI i) (hI)) mX7_isMourner q856 rfl (by decide) rfl rfl 3 rfl [0, 1] [2] rfl rfl [eI Γ (a 5) 16 rw] rfl [mo h a hi lm 0 pc bi sd, eI Γ (a 0) 42 r, eI Γ (a 5) 16 rw] rfl rfl rfl [] rfl (Nat.le_of_ble_eq_true rfl) ?_
        refine r_ifeqB K dX7_judge_22 (fun c22 => ?_) (fun c22 => ?_)
        · rw [inN_nI (by omega)] at c22
          refine r_iload_n K dX7_judge_44 0 rfl ?_
          exact hR () dX7_judge_45 (trivial) (e_ri (hE.trans (jgL_n (fun z => absurd z.1 (of_decide_eq_false c22))))) (weq.rf)
        · rw [inN_nI (by omega)] at c22
          have hil : i < nM r := of_decide_eq_true c22
          refine r_aload_n K dX7_judge_25 2 rfl ?_
          refine r_get K dX7_judge_26 (kf := 0) 0 rfl rfl hinX7 (by decide) q757 rfl rfl ?_
          refine r_iload_n K dX7_judge_29 0 rfl ?_
          refine r_iconst K dX7_judge_30 (nI 2) (by decide) ?_
          refine r_cSd K dX7_judge_31 (c_X7_ofM l Γ i 2) mX7_ofM q853 rfl (by decide) 3 rfl [] [0, 1, 2] rfl rfl [mo h a hi lm 0 pc bi sd, eI Γ (a 0) 42 r, eI Γ (a 5) 16 rw] rfl [mo h a hi lm 0 pc bi sd, eI Γ (a 0) 42 r, eI Γ (a 5) 16 rw] rfl rfl rfl [.ref (a 0)] rfl (Nat.le_of_ble_eq_true rfl) ?_
          refine r_aldN K dX7_judge_34 1 rfl (by first | omega | exact iG_lt (by omega) (by decide) | exact iM_lt (by omega) (by decide)) (by decide) ?_
          refine r_aload_n K dX7_judge_35 2 rfl ?_
          refine r_get K dX7_judge_36 (kf := 6) 0 rfl rfl hinX7 (by decide) q763 rfl rfl ?_
          refine r_iload_n K dX7_judge_39 0 rfl ?_
          refine r_aldN K dX7_judge_40 2 rfl (by first | omega | exact iG_lt (by omega) (by decide) | exact iM_lt (by omega) (by decide)) (by decide) ?_
          refine r_ic_eq K dX7_judge_41 (fun c41 => ?_) (fun c41 => ?_)
          · refine r_iincN K dX7_judge_46 (n := 1) 0 rfl rfl (by decide) (lv1 := [(2, .int (nI (i + 1))), (1, .int (nI rm)), (0, .ref h)]) rfl ?_
            refine r_goto K dX7_judge_49 ?_
            exact ih_L12 f (i + 1) (by omega) (hE.trans (jgL_t hil c41)) (by omega)
          · refine r_iload_n K dX7_judge_44 0 rfl ?_
            exact hR () dX7_judge_45 (trivial) (e_ri (hE.trans (jgL_n (fun z => absurd z.2 c41)))) (weq.rf)
  exact L12 _ rm 0 (rfl) (rfl) (Nat.lt_succ_self _)
set_option maxHeartbeats 1000000 in
set_option maxRecDepth 20000 in
theorem c_X7_clear (l : Launch) (Γ : eG) (h : Nat) (a : Nat → Nat) (hi : Bool) (lm : Nat) (rm : Nat) (pc : Nat) (bi : Int32) (sd : Int32)  : cD l Γ yX7_clear cX7_clear 2 (some .int) 0 [.ref h] [mo h a hi lm rm pc bi sd] (some (.int (nI rm))) [mo h a hi lm 0 pc bi sd] := by
  refine e_int [(0, .ref h)] (by decide +kernel) (Nat.le_of_ble_eq_true rfl) rfl (fun V K hR => ?_)
  refine r_aload_n K dX7_clear_0 0 rfl ?_
  refine r_get K dX7_clear_1 (kf := 9) 0 rfl rfl hinX7 (by decide) q766 rfl rfl ?_
  refine r_istore_n K dX7_clear_4 rfl (by decide) (lv1 := [(1, .int (nI rm)), (0, .ref h)]) rfl ?_
  refine r_aload_n K dX7_clear_5 1 rfl ?_
  refine r_iconst K dX7_clear_6 (nI 0) (by decide) ?_
  refine r_put K dX7_clear_7 (kf := 9) (ty := .int) (ws1 := [mo h a hi lm 0 pc bi sd]) 0 rfl rfl hinX7 tyX7 tyX7_ok nmX7 (by decide) q766 rfl (by decide +kernel) rfl rfl (Nat.le_of_ble_eq_true rfl) rfl ?_
  refine r_iload_n K dX7_clear_10 0 rfl ?_
  exact hR () dX7_clear_11 (trivial) (e_ri (rfl)) (weq.rf)
set_option maxHeartbeats 1000000 in
set_option maxRecDepth 20000 in
theorem c_X7_drawn (l : Launch) (Γ : eG) (h : Nat) (a : Nat → Nat) (hi : Bool) (lm : Nat) (rm : Nat) (pc : Nat) (bi : Int32) (sd : Int32) (m : Nat) (hm0 : 0 < m) (hm31 : m < 2 ^ 31) : cD l Γ yX7_drawn cX7_drawn 2 (some .int) 0 [.ref h, .int (nI m)] [mo h a hi lm rm pc bi sd] (some (.int (dvS (sdN sd) m))) [mo h a hi lm rm pc bi (sdN sd)] := by
  refine e_int [(0, .ref h), (1, .int (nI m))] (by decide +kernel) (Nat.le_of_ble_eq_true rfl) rfl (fun V K hR => ?_)
  refine r_aload_n K dX7_drawn_0 0 rfl ?_
  refine r_aload_n K dX7_drawn_1 0 rfl ?_
  refine r_get K dX7_drawn_2 (kf := 16) 0 rfl rfl hinX7 (by decide) q773 rfl rfl ?_
  refine r_ldc K dX7_drawn_5 q1115 ?_
  refine r_imul K dX7_drawn_7 ?_
  refine r_ldc K dX7_drawn_8 q1116 ?_
  refine r_iadd K dX7_drawn_10 ?_
  refine r_top (y := sdN sd) (rfl) ?_
  refine r_put K dX7_drawn_11 (kf := 16) (ty := .int) (ws1 := [mo h a hi lm rm pc bi (sdN sd)]) 0 rfl rfl hinX7 tyX7 tyX7_ok nmX7 (by decide) q773 rfl (by decide +kernel) rfl rfl (Nat.le_of_ble_eq_true rfl) rfl ?_
  refine r_aload_n K dX7_drawn_14 0 rfl ?_
  refine r_get K dX7_drawn_15 (kf := 16) 0 rfl rfl hinX7 (by decide) q773 rfl rfl ?_
  refine r_ldc K dX7_drawn_18 q1117 ?_
  refine r_iand K dX7_drawn_20 ?_
  refine r_sipush K dX7_drawn_21 (nI 256) (by decide) ?_
  refine r_idiv K dX7_drawn_24 (by decide) ?_
  refine r_iload_n K dX7_drawn_25 1 rfl ?_
  refine r_irem K dX7_drawn_26 (nI_ne0 hm0 hm31) ?_
  exact hR () dX7_drawn_27 (trivial) (e_ri (rfl)) (weq.rf)
set_option maxHeartbeats 1000000 in
set_option maxRecDepth 20000 in
theorem c_X7_lots (l : Launch) (Γ : eG) (h : Nat) (a : Nat → Nat) (hi : Bool) (lm : Nat) (rm : Nat) (pc : Nat) (bi : Int32) (sd : Int32) (r : Nat → Int32) (q : Nat → Int32) (rf : Nat → Int32) (n : Int32) (z : Int32) (w : Int32) (hI : Inv r) : cE l Γ yX7_lots cX7_lots 7 (some .int) 4 [.ref h, .int n, .int z, .int w] [mo h a hi lm rm pc bi sd, eI Γ (a 0) 42 r, eI Γ (a 1) 42 q, eI Γ (a 6) 7 rf] (S := (Nat → Int32) × (Int32)) (fun u => True) (fun u => (some (.int (chE (eLots r n w) (aLots r n z w) (eLots r n w))))) (fun u => [mo h a hi lm rm pc bi u.2, eI Γ (a 0) 42 r, eI Γ (a 1) 42 u.1, eI Γ (a 6) 7 (chE (eLots r n w) rf (nof rf (eLots r n w)))]) := by
  refine e_int [(0, .ref h), (1, .int n), (2, .int z), (3, .int w)] (by decide +kernel) (Nat.le_of_ble_eq_true rfl) rfl (fun V K hR => ?_)
  have h5 := hI.g
  have h6 := hI.m
  refine r_iload_n K dX7_lots_0 1 rfl ?_
  refine r_iconst K dX7_lots_1 (nI 1) (by decide) ?_
  refine r_ic_ge K dX7_lots_2 (fun c2 => ?_) (fun c2 => ?_)
  · have n1 := Int32.not_lt.mpr c2
    refine r_iload_n K dX7_lots_12 1 rfl ?_
    refine r_bipush K dX7_lots_13 (nI 20) (by decide) ?_
    refine r_ic_le K dX7_lots_15 (fun c15 => ?_) (fun c15 => ?_)
    · have hz : wrS n (nI 1) (nI 20) = 0 := wrS_0 n1 (Int32.not_lt.mpr c15)
      have hn := wrS_ok (by decide) (by decide) hz
      have ln := hn.2
      refine r_lc (lv1 := [(0, .ref h), (1, .int (nI (ix n))), (2, .int z), (3, .int w)]) (congrArg (fun zz : Int32 => ([(0, .ref h), (1, .int zz), (2, .int z), (3, .int w)] : List (Nat × Value))) (hn.1)) ?_
      refine r_iload_n K dX7_lots_25 3 rfl ?_
      refine r_iconst K dX7_lots_26 (nI 0) (by decide) ?_
      refine r_iconst K dX7_lots_27 (nI 1) (by decide) ?_
      refine r_cSd K dX7_lots_28 (c_X7_isIn l Γ w (nI 0) (nI 1)) mX7_isIn q833 rfl (by decide) 4 rfl [] [0, 1, 2, 3] rfl rfl [mo h a hi lm rm pc bi sd, eI Γ (a 0) 42 r, eI Γ (a 1) 42 q, eI Γ (a 6) 7 rf] rfl [mo h a hi lm rm pc bi sd, eI Γ (a 0) 42 r, eI Γ (a 1) 42 q, eI Γ (a 6) 7 rf] rfl rfl rfl [] rfl (Nat.le_of_ble_eq_true rfl) ?_
      refine r_ifneB K dX7_lots_31 (fun c31 => ?_) (fun c31 => ?_)
      · have hw := isInB_ok (lo := 0) (hi := 1) (by decide) (by decide) c31
        have lw := hw.2
        refine r_lc (lv1 := [(0, .ref h), (1, .int (nI (ix n))), (2, .int z), (3, .int (nI (ix w)))]) (congrArg (fun zz : Int32 => ([(0, .ref h), (1, .int (nI (ix n))), (2, .int z), (3, .int zz)] : List (Nat × Value))) (hw.1)) ?_
        refine r_aload_n K dX7_lots_41 0 rfl ?_
        refine r_get K dX7_lots_42 (kf := 0) 0 rfl rfl hinX7 (by decide) q757 rfl rfl ?_
        refine r_iconst K dX7_lots_45 (nI 0) (by decide) ?_
        refine r_aldN K dX7_lots_46 1 rfl (by first | omega | exact iG_lt (by omega) (by decide) | exact iM_lt (by omega) (by decide)) (by decide) ?_
        refine r_top (y := nI (nG r)) (hI.r0) ?_
        refine r_if_neN K dX7_lots_47 (by omega) (fun c47 => ?_) (fun c47 => ?_)
        · refine r_aload_n K dX7_lots_57 0 rfl ?_
          refine r_iload_n K dX7_lots_58 2 rfl ?_
          refine r_put K dX7_lots_59 (kf := 16) (ty := .int) (ws1 := [mo h a hi lm rm pc bi z, eI Γ (a 0) 42 r, eI Γ (a 1) 42 q, eI Γ (a 6) 7 rf]) 0 rfl rfl hinX7 tyX7 tyX7_ok nmX7 (by decide) q773 rfl (by decide +kernel) rfl rfl (Nat.le_of_ble_eq_true rfl) rfl ?_
          refine r_iconst K dX7_lots_62 (nI 0) (by decide) ?_
          refine r_istore K dX7_lots_63 (by decide) (lv1 := [(4, .int (nI 0)), (0, .ref h), (1, .int (nI (ix n))), (2, .int z), (3, .int (nI (ix w)))]) rfl ?_
          refine r_iconst K dX7_lots_65 (nI 0) (by decide) ?_
          refine r_istore K dX7_lots_66 (by decide) (lv1 := [(5, .int (nI 0)), (4, .int (nI 0)), (0, .ref h), (1, .int (nI (ix n))), (2, .int z), (3, .int (nI (ix w)))]) rfl ?_
          have L68 : ∀ (fL68 : Nat) (i : Nat) (v : Int32) (q : Nat → Int32), (i ≤ ix n) → (v = (ltF r (decide (w = nI 0)) z i).1) → ix n - i < fL68 → V 68 [(5, .int (nI i)), (4, .int v), (0, .ref h), (1, .int (nI (ix n))), (2, .int z), (3, .int (nI (ix w)))] [] [mo h a hi lm rm pc bi ((ltF r (decide (w = nI 0)) z i).2), eI Γ (a 0) 42 r, eI Γ (a 1) 42 q, eI Γ (a 6) 7 rf] := by
            intro fL68
            induction fL68 with
            | zero => intro i v q hil hv hf; exact absurd hf (Nat.not_lt_zero _)
            | succ fL68 ih_L68 =>
              intro i v q hil hv hfL68
              refine r_iload K dX7_lots_68 0 rfl ?_
              refine r_iload_n K dX7_lots_70 3 rfl ?_
              refine r_ic_geN K dX7_lots_71 (by omega) (by omega) (fun c71 => ?_) (fun c71 => ?_)
              · obtain rfl : i = ix n := by omega
                refine r_iload K dX7_lots_192 1 rfl ?_
                have he : eLots r n w = 0 := by
                  unfold eLots
                  rw [if_neg (not_not_intro hz), if_neg (not_not_intro c31), if_neg c47]
                refine r_arr K (f2 := chE (eLots r n w) rf (nof rf (eLots r n w))) (ws1 := [mo h a hi lm rm pc bi ((ltF r (decide (w = nI 0)) z (ix n)).2), eI Γ (a 0) 42 r, eI Γ (a 1) 42 q, eI Γ (a 6) 7 (chE (eLots r n w) rf (nof rf (eLots r n w)))]) 3 rfl (fun _ _ => by rw [chE_0 he]) rfl ?_
                exact hR (q, (ltF r (decide (w = nI 0)) z (ix n)).2) dX7_lots_194 (trivial) (e_ri (ex_0 he (hv.symm))) (weq.rf)
              · refine r_aload_n K dX7_lots_74 2 rfl ?_
                refine r_get K dX7_lots_75 (kf := 0) 0 rfl rfl hinX7 (by decide) q757 rfl rfl ?_
                refine r_aload_n K dX7_lots_78 2 rfl ?_
                refine r_get K dX7_lots_79 (kf := 1) 0 rfl rfl hinX7 (by decide) q758 rfl rfl ?_
                refine r_cSn K dX7_lots_82 (c_X7_copies l Γ (a 0) (a 1) r q) mX7_copies q843 rfl (by decide) 4 rfl [1, 2] [0, 3] rfl rfl [mo h a hi lm rm pc bi ((ltF r (decide (w = nI 0)) z i).2), eI Γ (a 6) 7 rf] rfl [mo h a hi lm rm pc bi ((ltF r (decide (w = nI 0)) z i).2), eI Γ (a 0) 42 r, eI Γ (a 1) 42 r, eI Γ (a 6) 7 rf] rfl rfl rfl [] rfl (Nat.le_of_ble_eq_true rfl) ?_
                refine r_iconst K dX7_lots_85 (nI 0) (by decide) ?_
                refine r_istore K dX7_lots_86 (by decide) (lv1 := [(6, .int (nI 0)), (5, .int (nI i)), (4, .int v), (0, .ref h), (1, .int (nI (ix n))), (2, .int z), (3, .int (nI (ix w)))]) rfl ?_
                have L88 : ∀ (fL88 : Nat) (p : Nat), (p ≤ nM r) → nM r - p < fL88 → V 88 [(6, .int (nI p)), (5, .int (nI i)), (4, .int v), (0, .ref h), (1, .int (nI (ix n))), (2, .int z), (3, .int (nI (ix w)))] [] [mo h a hi lm rm pc bi ((dcF r (ltF r (decide (w = nI 0)) z i).2 p).2), eI Γ (a 0) 42 r, eI Γ (a 1) 42 ((dcF r (ltF r (decide (w = nI 0)) z i).2 p).1), eI Γ (a 6) 7 rf] := by
                  intro fL88
                  induction fL88 with
                  | zero => intro p hp hf; exact absurd hf (Nat.not_lt_zero _)
                  | succ fL88 ih_L88 =>
                    intro p hp hfL88
                    refine r_iload K dX7_lots_88 0 rfl ?_
                    refine r_aload_n K dX7_lots_90 3 rfl ?_
                    refine r_get K dX7_lots_91 (kf := 0) 0 rfl rfl hinX7 (by decide) q757 rfl rfl ?_
                    refine r_iconst K dX7_lots_94 (nI 1) (by decide) ?_
                    refine r_aldN K dX7_lots_95 1 rfl (by first | omega | exact iG_lt (by omega) (by decide) | exact iM_lt (by omega) (by decide)) (by decide) ?_
                    refine r_top (y := nI (nM r)) (hI.r1) ?_
                    refine r_ic_geN K dX7_lots_96 (by omega) (by omega) (fun c96 => ?_) (fun c96 => ?_)
                    · obtain rfl : p = nM r := by omega
                      refine r_aload_n K dX7_lots_143 3 rfl ?_
                      refine r_get K dX7_lots_144 (kf := 1) 0 rfl rfl hinX7 (by decide) q758 rfl rfl ?_
                      refine r_bipush K dX7_lots_147 (nI 10) (by decide) ?_
                      refine r_cSn K dX7_lots_149 (c_X7_daysOn l Γ (a 1) ((dcF r (ltF r (decide (w = nI 0)) z i).2 (nM r)).1) 10 (Inv_dcF hI (by omega) _ (Nat.le_refl _)) (by decide)) mX7_daysOn q873 rfl (by decide) 4 rfl [2] [0, 1, 3] rfl rfl [mo h a hi lm rm pc bi ((dcF r (ltF r (decide (w = nI 0)) z i).2 (nM r)).2), eI Γ (a 0) 42 r, eI Γ (a 6) 7 rf] rfl [mo h a hi lm rm pc bi ((dcF r (ltF r (decide (w = nI 0)) z i).2 (nM r)).2), eI Γ (a 0) 42 r, eI Γ (a 1) 42 (daysS ((dcF r (ltF r (decide (w = nI 0)) z i).2 (nM r)).1) 10), eI Γ (a 6) 7 rf] rfl rfl rfl [] rfl (Nat.le_of_ble_eq_true rfl) ?_
                      refine r_iload K dX7_lots_152 2 rfl ?_
                      refine r_iload_n K dX7_lots_154 6 rfl ?_
                      refine r_if_neN K dX7_lots_155 (by omega) (fun c155 => ?_) (fun c155 => ?_)
                      · refine r_aload_n K dX7_lots_168 3 rfl ?_
                        refine r_get K dX7_lots_169 (kf := 1) 0 rfl rfl hinX7 (by decide) q758 rfl rfl ?_
                        refine r_cSd K dX7_lots_172 (c_X7_inchesIn l Γ (a 1) (daysS ((dcF r (ltF r (decide (w = nI 0)) z i).2 (nM r)).1) 10) (Inv_daysS (Inv_dcF hI (by omega) _ (Nat.le_refl _)) 10)) mX7_inchesIn q1012 rfl (by decide) 4 rfl [2] [0, 1, 3] rfl rfl [mo h a hi lm rm pc bi ((dcF r (ltF r (decide (w = nI 0)) z i).2 (nM r)).2), eI Γ (a 0) 42 r, eI Γ (a 6) 7 rf] rfl [mo h a hi lm rm pc bi ((dcF r (ltF r (decide (w = nI 0)) z i).2 (nM r)).2), eI Γ (a 0) 42 r, eI Γ (a 1) 42 (daysS ((dcF r (ltF r (decide (w = nI 0)) z i).2 (nM r)).1) 10), eI Γ (a 6) 7 rf] rfl rfl rfl [.int v] rfl (Nat.le_of_ble_eq_true rfl) ?_
                        refine r_aload_n K dX7_lots_175 3 rfl ?_
                        refine r_get K dX7_lots_176 (kf := 0) 0 rfl rfl hinX7 (by decide) q757 rfl rfl ?_
                        refine r_cSd K dX7_lots_179 (c_X7_inchesIn l Γ (a 0) r (hI)) mX7_inchesIn q1012 rfl (by decide) 4 rfl [1] [0, 2, 3] rfl rfl [mo h a hi lm rm pc bi ((dcF r (ltF r (decide (w = nI 0)) z i).2 (nM r)).2), eI Γ (a 1) 42 (daysS ((dcF r (ltF r (decide (w = nI 0)) z i).2 (nM r)).1) 10), eI Γ (a 6) 7 rf] rfl [mo h a hi lm rm pc bi ((dcF r (ltF r (decide (w = nI 0)) z i).2 (nM r)).2), eI Γ (a 0) 42 r, eI Γ (a 1) 42 (daysS ((dcF r (ltF r (decide (w = nI 0)) z i).2 (nM r)).1) 10), eI Γ (a 6) 7 rf] rfl rfl rfl [.int (incS (daysS ((dcF r (ltF r (decide (w = nI 0)) z i).2 (nM r)).1) 10)), .int v] rfl (Nat.le_of_ble_eq_true rfl) ?_
                        refine r_isub K dX7_lots_182 ?_
                        refine r_iadd K dX7_lots_183 ?_
                        refine r_istore K dX7_lots_184 (by decide) (lv1 := [(4, .int (v + ((incS (daysS ((dcF r (ltF r (decide (w = nI 0)) z i).2 (nM r)).1) 10)) - (incS r)))), (6, .int (nI (nM r))), (5, .int (nI i)), (0, .ref h), (1, .int (nI (ix n))), (2, .int z), (3, .int (nI (ix w)))]) rfl ?_
                        refine r_iincN K dX7_lots_186 (n := 1) 2 rfl rfl (by decide) (lv1 := [(5, .int (nI (i + 1))), (4, .int (v + ((incS (daysS ((dcF r (ltF r (decide (w = nI 0)) z i).2 (nM r)).1) 10)) - (incS r)))), (6, .int (nI (nM r))), (0, .ref h), (1, .int (nI (ix n))), (2, .int z), (3, .int (nI (ix w)))]) rfl ?_
                        refine r_goto K dX7_lots_189 ?_
                        refine r_ws K (ws1 := [mo h a hi lm rm pc bi ((ltF r (decide (w = nI 0)) z (i + 1)).2), eI Γ (a 0) 42 r, eI Γ (a 1) 42 (daysS ((dcF r (ltF r (decide (w = nI 0)) z i).2 (nM r)).1) 10), eI Γ (a 6) 7 rf]) (by rw [ltF_s]; exact weq.rf) ?_
                        refine r_lv K [0, 1, 3, 4, 5, 6] rfl ?_
                        exact ih_L68 (i + 1) (v + ((incS (daysS ((dcF r (ltF r (decide (w = nI 0)) z i).2 (nM r)).1) 10)) - (incS r))) (daysS ((dcF r (ltF r (decide (w = nI 0)) z i).2 (nM r)).1) 10) (by omega) (by rw [hv, ltF_s, decide_eq_false (show ¬ w = nI 0 from fun z => c155 (by rw [z]; exact ix_nI (by decide)))]; rfl) (by omega)
                      · refine r_aload_n K dX7_lots_158 3 rfl ?_
                        refine r_get K dX7_lots_159 (kf := 1) 0 rfl rfl hinX7 (by decide) q758 rfl rfl ?_
                        refine r_cSd K dX7_lots_162 (c_X7_payIn l Γ (a 1) (daysS ((dcF r (ltF r (decide (w = nI 0)) z i).2 (nM r)).1) 10) (Inv_daysS (Inv_dcF hI (by omega) _ (Nat.le_refl _)) 10)) mX7_payIn q939 rfl (by decide) 4 rfl [2] [0, 1, 3] rfl rfl [mo h a hi lm rm pc bi ((dcF r (ltF r (decide (w = nI 0)) z i).2 (nM r)).2), eI Γ (a 0) 42 r, eI Γ (a 6) 7 rf] rfl [mo h a hi lm rm pc bi ((dcF r (ltF r (decide (w = nI 0)) z i).2 (nM r)).2), eI Γ (a 0) 42 r, eI Γ (a 1) 42 (daysS ((dcF r (ltF r (decide (w = nI 0)) z i).2 (nM r)).1) 10), eI Γ (a 6) 7 rf] rfl rfl rfl [.int v] rfl (Nat.le_of_ble_eq_true rfl) ?_
                        refine r_goto K dX7_lots_165 ?_
                        refine r_iadd K dX7_lots_183 ?_
                        refine r_istore K dX7_lots_184 (by decide) (lv1 := [(4, .int (v + (payS (daysS ((dcF r (ltF r (decide (w = nI 0)) z i).2 (nM r)).1) 10)))), (6, .int (nI (nM r))), (5, .int (nI i)), (0, .ref h), (1, .int (nI (ix n))), (2, .int z), (3, .int (nI (ix w)))]) rfl ?_
                        refine r_iincN K dX7_lots_186 (n := 1) 2 rfl rfl (by decide) (lv1 := [(5, .int (nI (i + 1))), (4, .int (v + (payS (daysS ((dcF r (ltF r (decide (w = nI 0)) z i).2 (nM r)).1) 10)))), (6, .int (nI (nM r))), (0, .ref h), (1, .int (nI (ix n))), (2, .int z), (3, .int (nI (ix w)))]) rfl ?_
                        refine r_goto K dX7_lots_189 ?_
                        refine r_ws K (ws1 := [mo h a hi lm rm pc bi ((ltF r (decide (w = nI 0)) z (i + 1)).2), eI Γ (a 0) 42 r, eI Γ (a 1) 42 (daysS ((dcF r (ltF r (decide (w = nI 0)) z i).2 (nM r)).1) 10), eI Γ (a 6) 7 rf]) (by rw [ltF_s]; exact weq.rf) ?_
                        refine r_lv K [0, 1, 3, 4, 5, 6] rfl ?_
                        exact ih_L68 (i + 1) (v + (payS (daysS ((dcF r (ltF r (decide (w = nI 0)) z i).2 (nM r)).1) 10))) (daysS ((dcF r (ltF r (decide (w = nI 0)) z i).2 (nM r)).1) 10) (by omega) (by rw [hv, ltF_s, decide_eq_true (show w = nI 0 from by rw [hw.1, c155])]; rfl) (by omega)
                    · refine r_aload_n K dX7_lots_99 3 rfl ?_
                      refine r_get K dX7_lots_100 (kf := 1) 0 rfl rfl hinX7 (by decide) q758 rfl rfl ?_
                      refine r_iload K dX7_lots_103 0 rfl ?_
                      refine r_iconst K dX7_lots_105 (nI 3) (by decide) ?_
                      refine r_cSd K dX7_lots_106 (c_X7_ofM l Γ p 3) mX7_ofM q853 rfl (by decide) 4 rfl [] [0, 1, 2, 3] rfl rfl [mo h a hi lm rm pc bi ((dcF r (ltF r (decide (w = nI 0)) z i).2 p).2), eI Γ (a 0) 42 r, eI Γ (a 1) 42 ((dcF r (ltF r (decide (w = nI 0)) z i).2 p).1), eI Γ (a 6) 7 rf] rfl [mo h a hi lm rm pc bi ((dcF r (ltF r (decide (w = nI 0)) z i).2 p).2), eI Γ (a 0) 42 r, eI Γ (a 1) 42 ((dcF r (ltF r (decide (w = nI 0)) z i).2 p).1), eI Γ (a 6) 7 rf] rfl rfl rfl [.ref (a 1)] rfl (Nat.le_of_ble_eq_true rfl) ?_
                      refine r_aload_n K dX7_lots_109 3 rfl ?_
                      refine r_aload_n K dX7_lots_110 3 rfl ?_
                      refine r_get K dX7_lots_111 (kf := 0) 0 rfl rfl hinX7 (by decide) q757 rfl rfl ?_
                      refine r_iconst K dX7_lots_114 (nI 0) (by decide) ?_
                      refine r_aldN K dX7_lots_115 1 rfl (by first | omega | exact iG_lt (by omega) (by decide) | exact iM_lt (by omega) (by decide)) (by decide) ?_
                      refine r_top (y := nI (nG r)) (hI.r0) ?_
                      refine r_cVd K dX7_lots_116 (c_X7_drawn l Γ h a hi lm rm pc bi ((dcF r (ltF r (decide (w = nI 0)) z i).2 p).2) (nG r) (by omega) (by omega)) mX7_drawn q1111 rfl (by decide) rfl rfl 4 rfl [0] [1, 2, 3] rfl rfl [eI Γ (a 0) 42 r, eI Γ (a 1) 42 ((dcF r (ltF r (decide (w = nI 0)) z i).2 p).1), eI Γ (a 6) 7 rf] rfl [mo h a hi lm rm pc bi (sdN ((dcF r (ltF r (decide (w = nI 0)) z i).2 p).2)), eI Γ (a 0) 42 r, eI Γ (a 1) 42 ((dcF r (ltF r (decide (w = nI 0)) z i).2 p).1), eI Γ (a 6) 7 rf] rfl rfl rfl [.int (nI (iM p 3)), .ref (a 1)] rfl (Nat.le_of_ble_eq_true rfl) ?_
                      refine r_astN K dX7_lots_119 (ws1 := [mo h a hi lm rm pc bi (sdN ((dcF r (ltF r (decide (w = nI 0)) z i).2 p).2)), eI Γ (a 0) 42 r, eI Γ (a 1) 42 (upd ((dcF r (ltF r (decide (w = nI 0)) z i).2 p).1) (iM p 3) (dvS (sdN ((dcF r (ltF r (decide (w = nI 0)) z i).2 p).2)) (nG r))), eI Γ (a 6) 7 rf]) 2 rfl (by first | omega | exact iG_lt (by omega) (by decide) | exact iM_lt (by omega) (by decide)) (by decide) rfl ?_
                      refine r_aload_n K dX7_lots_120 3 rfl ?_
                      refine r_get K dX7_lots_121 (kf := 1) 0 rfl rfl hinX7 (by decide) q758 rfl rfl ?_
                      refine r_iload K dX7_lots_124 0 rfl ?_
                      refine r_iconst K dX7_lots_126 (nI 2) (by decide) ?_
                      refine r_cSd K dX7_lots_127 (c_X7_ofM l Γ p 2) mX7_ofM q853 rfl (by decide) 4 rfl [] [0, 1, 2, 3] rfl rfl [mo h a hi lm rm pc bi (sdN ((dcF r (ltF r (decide (w = nI 0)) z i).2 p).2)), eI Γ (a 0) 42 r, eI Γ (a 1) 42 (upd ((dcF r (ltF r (decide (w = nI 0)) z i).2 p).1) (iM p 3) (dvS (sdN ((dcF r (ltF r (decide (w = nI 0)) z i).2 p).2)) (nG r))), eI Γ (a 6) 7 rf] rfl [mo h a hi lm rm pc bi (sdN ((dcF r (ltF r (decide (w = nI 0)) z i).2 p).2)), eI Γ (a 0) 42 r, eI Γ (a 1) 42 (upd ((dcF r (ltF r (decide (w = nI 0)) z i).2 p).1) (iM p 3) (dvS (sdN ((dcF r (ltF r (decide (w = nI 0)) z i).2 p).2)) (nG r))), eI Γ (a 6) 7 rf] rfl rfl rfl [.ref (a 1)] rfl (Nat.le_of_ble_eq_true rfl) ?_
                      refine r_aload_n K dX7_lots_130 3 rfl ?_
                      refine r_bipush K dX7_lots_131 (nI 100) (by decide) ?_
                      refine r_cVd K dX7_lots_133 (c_X7_drawn l Γ h a hi lm rm pc bi (sdN ((dcF r (ltF r (decide (w = nI 0)) z i).2 p).2)) 100 (by decide) (by decide)) mX7_drawn q1111 rfl (by decide) rfl rfl 4 rfl [0] [1, 2, 3] rfl rfl [eI Γ (a 0) 42 r, eI Γ (a 1) 42 (upd ((dcF r (ltF r (decide (w = nI 0)) z i).2 p).1) (iM p 3) (dvS (sdN ((dcF r (ltF r (decide (w = nI 0)) z i).2 p).2)) (nG r))), eI Γ (a 6) 7 rf] rfl [mo h a hi lm rm pc bi (sdN (sdN ((dcF r (ltF r (decide (w = nI 0)) z i).2 p).2))), eI Γ (a 0) 42 r, eI Γ (a 1) 42 (upd ((dcF r (ltF r (decide (w = nI 0)) z i).2 p).1) (iM p 3) (dvS (sdN ((dcF r (ltF r (decide (w = nI 0)) z i).2 p).2)) (nG r))), eI Γ (a 6) 7 rf] rfl rfl rfl [.int (nI (iM p 2)), .ref (a 1)] rfl (Nat.le_of_ble_eq_true rfl) ?_
                      refine r_astN K dX7_lots_136 (ws1 := [mo h a hi lm rm pc bi (sdN (sdN ((dcF r (ltF r (decide (w = nI 0)) z i).2 p).2))), eI Γ (a 0) 42 r, eI Γ (a 1) 42 (upd (upd ((dcF r (ltF r (decide (w = nI 0)) z i).2 p).1) (iM p 3) (dvS (sdN ((dcF r (ltF r (decide (w = nI 0)) z i).2 p).2)) (nG r))) (iM p 2) (dvS (sdN (sdN ((dcF r (ltF r (decide (w = nI 0)) z i).2 p).2))) 100)), eI Γ (a 6) 7 rf]) 2 rfl (by first | omega | exact iG_lt (by omega) (by decide) | exact iM_lt (by omega) (by decide)) (by decide) rfl ?_
                      refine r_iincN K dX7_lots_137 (n := 1) 0 rfl rfl (by decide) (lv1 := [(6, .int (nI (p + 1))), (5, .int (nI i)), (4, .int v), (0, .ref h), (1, .int (nI (ix n))), (2, .int z), (3, .int (nI (ix w)))]) rfl ?_
                      refine r_goto K dX7_lots_140 ?_
                      refine r_ws K (ws1 := [mo h a hi lm rm pc bi ((dcF r (ltF r (decide (w = nI 0)) z i).2 (p + 1)).2), eI Γ (a 0) 42 r, eI Γ (a 1) 42 (upd (upd ((dcF r (ltF r (decide (w = nI 0)) z i).2 p).1) (iM p 3) (dvS (sdN ((dcF r (ltF r (decide (w = nI 0)) z i).2 p).2)) (nG r))) (iM p 2) (dvS (sdN (sdN ((dcF r (ltF r (decide (w = nI 0)) z i).2 p).2))) 100)), eI Γ (a 6) 7 rf]) (by rw [dcF_s]; exact weq.rf) ?_
                      refine r_arr K (f2 := (dcF r (ltF r (decide (w = nI 0)) z i).2 (p + 1)).1) (ws1 := [mo h a hi lm rm pc bi ((dcF r (ltF r (decide (w = nI 0)) z i).2 (p + 1)).2), eI Γ (a 0) 42 r, eI Γ (a 1) 42 ((dcF r (ltF r (decide (w = nI 0)) z i).2 (p + 1)).1), eI Γ (a 6) 7 rf]) 2 rfl (fun _ _ => by rw [dcF_s]) rfl ?_
                      exact ih_L88 (p + 1) (by omega) (by omega)
                refine r_ws K (ws1 := [mo h a hi lm rm pc bi ((dcF r (ltF r (decide (w = nI 0)) z i).2 0).2), eI Γ (a 0) 42 r, eI Γ (a 1) 42 r, eI Γ (a 6) 7 rf]) (weq.rf) ?_
                refine r_arr K (f2 := (dcF r (ltF r (decide (w = nI 0)) z i).2 0).1) (ws1 := [mo h a hi lm rm pc bi ((dcF r (ltF r (decide (w = nI 0)) z i).2 0).2), eI Γ (a 0) 42 r, eI Γ (a 1) 42 ((dcF r (ltF r (decide (w = nI 0)) z i).2 0).1), eI Γ (a 6) 7 rf]) 2 rfl (fun _ _ => rfl) rfl ?_
                exact L88 _ 0 (Nat.zero_le _) (Nat.lt_succ_self _)
          refine r_ws K (ws1 := [mo h a hi lm rm pc bi ((ltF r (decide (w = nI 0)) z 0).2), eI Γ (a 0) 42 r, eI Γ (a 1) 42 q, eI Γ (a 6) 7 rf]) (weq.rf) ?_
          exact L68 _ 0 (nI 0) q (Nat.zero_le _) (rfl) (Nat.lt_succ_self _)
        · refine r_aload_n K dX7_lots_50 0 rfl ?_
          refine r_bipush K dX7_lots_51 ((-3)) (by decide) ?_
          refine r_cVd K dX7_lots_53 (c_X7_no l Γ h a hi lm rm pc bi sd rf (-3) (okR_3)) mX7_no q813 rfl (by decide) rfl rfl 4 rfl [0, 3] [1, 2] rfl rfl [eI Γ (a 0) 42 r, eI Γ (a 1) 42 q] rfl [mo h a hi lm rm pc bi sd, eI Γ (a 0) 42 r, eI Γ (a 1) 42 q, eI Γ (a 6) 7 (nof rf (-3))] rfl rfl rfl [] rfl (Nat.le_of_ble_eq_true rfl) ?_
          have he : eLots r n w = (-3) := by
            unfold eLots
            rw [if_neg (not_not_intro hz), if_neg (not_not_intro c31), if_pos c47]
          refine r_arr K (f2 := chE (eLots r n w) rf (nof rf (eLots r n w))) (ws1 := [mo h a hi lm rm pc bi sd, eI Γ (a 0) 42 r, eI Γ (a 1) 42 q, eI Γ (a 6) 7 (chE (eLots r n w) rf (nof rf (eLots r n w)))]) 3 rfl (fun _ _ => by rw [ch_n (g := nof rf) he (by decide)]) rfl ?_
          exact hR (q, sd) dX7_lots_56 (trivial) (e_ri (ex_n he (by decide))) (weq.rf)
      · refine r_aload_n K dX7_lots_34 0 rfl ?_
        refine r_bipush K dX7_lots_35 ((-2)) (by decide) ?_
        refine r_cVd K dX7_lots_37 (c_X7_no l Γ h a hi lm rm pc bi sd rf (-2) (okR_2)) mX7_no q813 rfl (by decide) rfl rfl 4 rfl [0, 3] [1, 2] rfl rfl [eI Γ (a 0) 42 r, eI Γ (a 1) 42 q] rfl [mo h a hi lm rm pc bi sd, eI Γ (a 0) 42 r, eI Γ (a 1) 42 q, eI Γ (a 6) 7 (nof rf (-2))] rfl rfl rfl [] rfl (Nat.le_of_ble_eq_true rfl) ?_
        have he : eLots r n w = (-2) := by
          unfold eLots
          rw [if_neg (not_not_intro hz), if_pos (nt c31)]
        refine r_arr K (f2 := chE (eLots r n w) rf (nof rf (eLots r n w))) (ws1 := [mo h a hi lm rm pc bi sd, eI Γ (a 0) 42 r, eI Γ (a 1) 42 q, eI Γ (a 6) 7 (chE (eLots r n w) rf (nof rf (eLots r n w)))]) 3 rfl (fun _ _ => by rw [ch_n (g := nof rf) he (by decide)]) rfl ?_
        exact hR (q, sd) dX7_lots_40 (trivial) (e_ri (ex_n he (by decide))) (weq.rf)
    · refine r_aload_n K dX7_lots_18 0 rfl ?_
      refine r_bipush K dX7_lots_19 ((-6)) (by decide) ?_
      refine r_cVd K dX7_lots_21 (c_X7_no l Γ h a hi lm rm pc bi sd rf (-6) (okR_6)) mX7_no q813 rfl (by decide) rfl rfl 4 rfl [0, 3] [1, 2] rfl rfl [eI Γ (a 0) 42 r, eI Γ (a 1) 42 q] rfl [mo h a hi lm rm pc bi sd, eI Γ (a 0) 42 r, eI Γ (a 1) 42 q, eI Γ (a 6) 7 (nof rf (-6))] rfl rfl rfl [] rfl (Nat.le_of_ble_eq_true rfl) ?_
      have he : eLots r n w = (-6) := by
        unfold eLots
        rw [if_pos (by rw [wrS_hi n1 (Int32.not_le.mp c15)]; decide), wrS_hi n1 (Int32.not_le.mp c15)]
      refine r_arr K (f2 := chE (eLots r n w) rf (nof rf (eLots r n w))) (ws1 := [mo h a hi lm rm pc bi sd, eI Γ (a 0) 42 r, eI Γ (a 1) 42 q, eI Γ (a 6) 7 (chE (eLots r n w) rf (nof rf (eLots r n w)))]) 3 rfl (fun _ _ => by rw [ch_n (g := nof rf) he (by decide)]) rfl ?_
      exact hR (q, sd) dX7_lots_24 (trivial) (e_ri (ex_n he (by decide))) (weq.rf)
  · refine r_aload_n K dX7_lots_5 0 rfl ?_
    refine r_bipush K dX7_lots_6 ((-4)) (by decide) ?_
    refine r_cVd K dX7_lots_8 (c_X7_no l Γ h a hi lm rm pc bi sd rf (-4) (okR_4)) mX7_no q813 rfl (by decide) rfl rfl 4 rfl [0, 3] [1, 2] rfl rfl [eI Γ (a 0) 42 r, eI Γ (a 1) 42 q] rfl [mo h a hi lm rm pc bi sd, eI Γ (a 0) 42 r, eI Γ (a 1) 42 q, eI Γ (a 6) 7 (nof rf (-4))] rfl rfl rfl [] rfl (Nat.le_of_ble_eq_true rfl) ?_
    have he : eLots r n w = (-4) := by
      unfold eLots
      rw [if_pos (by rw [wrS_lo (Int32.not_le.mp c2)]; decide), wrS_lo (Int32.not_le.mp c2)]
    refine r_arr K (f2 := chE (eLots r n w) rf (nof rf (eLots r n w))) (ws1 := [mo h a hi lm rm pc bi sd, eI Γ (a 0) 42 r, eI Γ (a 1) 42 q, eI Γ (a 6) 7 (chE (eLots r n w) rf (nof rf (eLots r n w)))]) 3 rfl (fun _ _ => by rw [ch_n (g := nof rf) he (by decide)]) rfl ?_
    exact hR (q, sd) dX7_lots_11 (trivial) (e_ri (ex_n he (by decide))) (weq.rf)
set_option maxHeartbeats 1000000 in
set_option maxRecDepth 20000 in
theorem c_X7_image (l : Launch) (Γ : eG) (h : Nat) (a : Nat → Nat) (hi : Bool) (lm : Nat) (rm : Nat) (pc : Nat) (bi : Int32) (sd : Int32) (r : Nat → Int32) (img : Nat → Int32) (hI : Inv r) : cD l Γ yX7_image cX7_image 1 (some .int) 1 [.ref h] [mo h a hi lm rm pc bi sd, eI Γ (a 0) 42 r, eI Γ (a 2) 42 img] (some (.int (r 2))) [mo h a true lm rm pc bi sd, eI Γ (a 0) 42 r, eI Γ (a 2) 42 r] := by
  refine e_int [(0, .ref h)] (by decide +kernel) (Nat.le_of_ble_eq_true rfl) rfl (fun V K hR => ?_)
  have h5 := hI.g
  have h6 := hI.m
  refine r_aload_n K dX7_image_0 0 rfl ?_
  refine r_get K dX7_image_1 (kf := 0) 0 rfl rfl hinX7 (by decide) q757 rfl rfl ?_
  refine r_aload_n K dX7_image_4 0 rfl ?_
  refine r_get K dX7_image_5 (kf := 2) 0 rfl rfl hinX7 (by decide) q759 rfl rfl ?_
  refine r_cSn K dX7_image_8 (c_X7_copies l Γ (a 0) (a 2) r img) mX7_copies q843 rfl (by decide) 3 rfl [1, 2] [0] rfl rfl [mo h a hi lm rm pc bi sd] rfl [mo h a hi lm rm pc bi sd, eI Γ (a 0) 42 r, eI Γ (a 2) 42 r] rfl rfl rfl [] rfl (Nat.le_of_ble_eq_true rfl) ?_
  refine r_aload_n K dX7_image_11 0 rfl ?_
  refine r_iconst K dX7_image_12 (nI 1) (by decide) ?_
  refine r_put K dX7_image_13 (kf := 4) (ty := .boolean) (ws1 := [mo h a true lm rm pc bi sd, eI Γ (a 0) 42 r, eI Γ (a 2) 42 r]) 0 rfl rfl hinX7 tyX7 tyX7_ok nmX7 (by decide) q761 rfl (by decide +kernel) rfl rfl (Nat.le_of_ble_eq_true rfl) rfl ?_
  refine r_aload_n K dX7_image_16 0 rfl ?_
  refine r_get K dX7_image_17 (kf := 0) 0 rfl rfl hinX7 (by decide) q757 rfl rfl ?_
  refine r_iconst K dX7_image_20 (nI 2) (by decide) ?_
  refine r_aldN K dX7_image_21 1 rfl (by first | omega | exact iG_lt (by omega) (by decide) | exact iM_lt (by omega) (by decide)) (by decide) ?_
  exact hR () dX7_image_22 (trivial) (e_ri (rfl)) (weq.rf)
set_option maxHeartbeats 1000000 in
set_option maxRecDepth 20000 in
theorem c_X7_on (l : Launch) (Γ : eG) (h : Nat) (a : Nat → Nat) (hi : Bool) (lm : Nat) (rm : Nat) (pc : Nat) (bi : Int32) (sd : Int32) (r : Nat → Int32) (img : Nat → Int32) (rf : Nat → Int32) (hI : Inv r) : cD l Γ yX7_on cX7_on 1 (some .int) 1 [.ref h] [mo h a hi lm rm pc bi sd, eI Γ (a 0) 42 r, eI Γ (a 2) 42 img, eI Γ (a 6) 7 rf] (some (.int (chE (eOn hi) (img 2) (eOn hi)))) [mo h a hi lm rm pc bi sd, eI Γ (a 0) 42 (chE (eOn hi) img r), eI Γ (a 2) 42 img, eI Γ (a 6) 7 (chE (eOn hi) rf (nof rf (eOn hi)))] := by
  refine e_int [(0, .ref h)] (by decide +kernel) (Nat.le_of_ble_eq_true rfl) rfl (fun V K hR => ?_)
  have h5 := hI.g
  have h6 := hI.m
  refine r_aload_n K dX7_on_0 0 rfl ?_
  refine r_get K dX7_on_1 (kf := 4) 0 rfl rfl hinX7 (by decide) q761 rfl rfl ?_
  refine r_ifneB K dX7_on_4 (fun c4 => ?_) (fun c4 => ?_)
  · refine r_aload_n K dX7_on_14 0 rfl ?_
    refine r_get K dX7_on_15 (kf := 2) 0 rfl rfl hinX7 (by decide) q759 rfl rfl ?_
    refine r_aload_n K dX7_on_18 0 rfl ?_
    refine r_get K dX7_on_19 (kf := 0) 0 rfl rfl hinX7 (by decide) q757 rfl rfl ?_
    refine r_cSn K dX7_on_22 (c_X7_copies l Γ (a 2) (a 0) img r) mX7_copies q843 rfl (by decide) 4 rfl [2, 1] [0, 3] rfl rfl [mo h a hi lm rm pc bi sd, eI Γ (a 6) 7 rf] rfl [mo h a hi lm rm pc bi sd, eI Γ (a 0) 42 img, eI Γ (a 2) 42 img, eI Γ (a 6) 7 rf] rfl rfl rfl [] rfl (Nat.le_of_ble_eq_true rfl) ?_
    refine r_aload_n K dX7_on_25 0 rfl ?_
    refine r_get K dX7_on_26 (kf := 0) 0 rfl rfl hinX7 (by decide) q757 rfl rfl ?_
    refine r_iconst K dX7_on_29 (nI 2) (by decide) ?_
    refine r_aldN K dX7_on_30 1 rfl (by first | omega | exact iG_lt (by omega) (by decide) | exact iM_lt (by omega) (by decide)) (by decide) ?_
    have he : eOn hi = 0 := by
      unfold eOn
      rw [if_neg (not_not_intro c4)]
    refine r_arr K (f2 := chE (eOn hi) rf (nof rf (eOn hi))) (ws1 := [mo h a hi lm rm pc bi sd, eI Γ (a 0) 42 img, eI Γ (a 2) 42 img, eI Γ (a 6) 7 (chE (eOn hi) rf (nof rf (eOn hi)))]) 3 rfl (fun _ _ => by rw [chE_0 he]) rfl ?_
    refine r_arr K (f2 := chE (eOn hi) img r) (ws1 := [mo h a hi lm rm pc bi sd, eI Γ (a 0) 42 (chE (eOn hi) img r), eI Γ (a 2) 42 img, eI Γ (a 6) 7 (chE (eOn hi) rf (nof rf (eOn hi)))]) 1 rfl (fun _ _ => by rw [chE_0 (a := img) (b := r) he]) rfl ?_
    exact hR () dX7_on_31 (trivial) (e_ri (ex_0 he (rfl))) (weq.rf)
  · refine r_aload_n K dX7_on_7 0 rfl ?_
    refine r_bipush K dX7_on_8 ((-3)) (by decide) ?_
    refine r_cVd K dX7_on_10 (c_X7_no l Γ h a hi lm rm pc bi sd rf (-3) (okR_3)) mX7_no q813 rfl (by decide) rfl rfl 4 rfl [0, 3] [1, 2] rfl rfl [eI Γ (a 0) 42 r, eI Γ (a 2) 42 img] rfl [mo h a hi lm rm pc bi sd, eI Γ (a 0) 42 r, eI Γ (a 2) 42 img, eI Γ (a 6) 7 (nof rf (-3))] rfl rfl rfl [] rfl (Nat.le_of_ble_eq_true rfl) ?_
    have he : eOn hi = (-3) := by
      unfold eOn
      rw [if_pos (nt c4)]
    refine r_arr K (f2 := chE (eOn hi) rf (nof rf (eOn hi))) (ws1 := [mo h a hi lm rm pc bi sd, eI Γ (a 0) 42 r, eI Γ (a 2) 42 img, eI Γ (a 6) 7 (chE (eOn hi) rf (nof rf (eOn hi)))]) 3 rfl (fun _ _ => by rw [ch_n (g := nof rf) he (by decide)]) rfl ?_
    refine r_arr K (f2 := chE (eOn hi) img r) (ws1 := [mo h a hi lm rm pc bi sd, eI Γ (a 0) 42 (chE (eOn hi) img r), eI Γ (a 2) 42 img, eI Γ (a 6) 7 (chE (eOn hi) rf (nof rf (eOn hi)))]) 1 rfl (fun _ _ => by rw [chE_n (a := img) (b := r) (by rw [he]; exact (by decide))]) rfl ?_
    exact hR () dX7_on_13 (trivial) (e_ri (ex_n he (by decide))) (weq.rf)
set_option maxHeartbeats 1000000 in
set_option maxRecDepth 20000 in
theorem c_X7_count (l : Launch) (Γ : eG) (h : Nat) (a : Nat → Nat) (hi : Bool) (lm : Nat) (rm : Nat) (pc : Nat) (bi : Int32) (sd : Int32) (r : Nat → Int32) (rf : Nat → Int32) (w : Int32) (hI : Inv r) : cD l Γ yX7_count cX7_count 4 (some .int) 2 [.ref h, .int w] [mo h a hi lm rm pc bi sd, eI Γ (a 0) 42 r, eI Γ (a 6) 7 rf] (some (.int (aCount r rf rm lm w))) [mo h a hi lm rm pc bi sd, eI Γ (a 0) 42 r, eI Γ (a 6) 7 rf] := by
  refine e_int [(0, .ref h), (1, .int w)] (by decide +kernel) (Nat.le_of_ble_eq_true rfl) rfl (fun V K hR => ?_)
  have h5 := hI.g
  have h6 := hI.m
  refine r_iload_n K dX7_count_0 1 rfl ?_
  refine r_bipush K dX7_count_1 (nI 11) (by decide) ?_
  refine r_bipush K dX7_count_3 (nI 16) (by decide) ?_
  refine r_cSd K dX7_count_5 (c_X7_isIn l Γ w (nI 11) (nI 16)) mX7_isIn q833 rfl (by decide) 3 rfl [] [0, 1, 2] rfl rfl [mo h a hi lm rm pc bi sd, eI Γ (a 0) 42 r, eI Γ (a 6) 7 rf] rfl [mo h a hi lm rm pc bi sd, eI Γ (a 0) 42 r, eI Γ (a 6) 7 rf] rfl rfl rfl [] rfl (Nat.le_of_ble_eq_true rfl) ?_
  refine r_ifeqB K dX7_count_8 (fun c8 => ?_) (fun c8 => ?_)
  · refine r_iconst K dX7_count_21 (nI 0) (by decide) ?_
    refine r_istore_n K dX7_count_22 rfl (by decide) (lv1 := [(2, .int (nI 0)), (0, .ref h), (1, .int w)]) rfl ?_
    refine r_iload_n K dX7_count_23 2 rfl ?_
    refine r_tsw K dX7_count_24.1 [72, 72, 72, 79, 87, 95, 128, 133] 138 (by decide) (by decide) (by decide) ⟨fun c24 => ?_, fun c24 => ?_, fun c24 => ?_, fun c24 => ?_, fun c24 => ?_, fun c24 => ?_, fun c24 => ?_, fun c24 => ?_, trivial⟩ (fun c24 => ?_)
    · have c24 : w = nI 0 := c24
      refine r_lc (lv1 := [(2, .int (nI 0)), (0, .ref h), (1, .int (nI 0))]) (congrArg (fun zz : Int32 => ([(2, .int (nI 0)), (0, .ref h), (1, .int zz)] : List (Nat × Value))) (c24)) ?_
      refine r_aload_n K dX7_count_72 1 rfl ?_
      refine r_get K dX7_count_73 (kf := 0) 0 rfl rfl hinX7 (by decide) q757 rfl rfl ?_
      refine r_iload_n K dX7_count_76 2 rfl ?_
      refine r_aldN K dX7_count_77 1 rfl (by first | omega | exact iG_lt (by omega) (by decide) | exact iM_lt (by omega) (by decide)) (by decide) ?_
      refine r_top (y := nI (nG r)) (hI.r0) ?_
      exact hR () dX7_count_78 (trivial) (e_ri (by rw [c24]; rfl)) (weq.rf)
    · have c24 : w = nI 1 := c24
      refine r_lc (lv1 := [(2, .int (nI 0)), (0, .ref h), (1, .int (nI 1))]) (congrArg (fun zz : Int32 => ([(2, .int (nI 0)), (0, .ref h), (1, .int zz)] : List (Nat × Value))) (c24)) ?_
      refine r_aload_n K dX7_count_72 1 rfl ?_
      refine r_get K dX7_count_73 (kf := 0) 0 rfl rfl hinX7 (by decide) q757 rfl rfl ?_
      refine r_iload_n K dX7_count_76 2 rfl ?_
      refine r_aldN K dX7_count_77 1 rfl (by first | omega | exact iG_lt (by omega) (by decide) | exact iM_lt (by omega) (by decide)) (by decide) ?_
      refine r_top (y := nI (nM r)) (hI.r1) ?_
      exact hR () dX7_count_78 (trivial) (e_ri (by rw [c24]; rfl)) (weq.rf)
    · have c24 : w = nI 2 := c24
      refine r_lc (lv1 := [(2, .int (nI 0)), (0, .ref h), (1, .int (nI 2))]) (congrArg (fun zz : Int32 => ([(2, .int (nI 0)), (0, .ref h), (1, .int zz)] : List (Nat × Value))) (c24)) ?_
      refine r_aload_n K dX7_count_72 1 rfl ?_
      refine r_get K dX7_count_73 (kf := 0) 0 rfl rfl hinX7 (by decide) q757 rfl rfl ?_
      refine r_iload_n K dX7_count_76 2 rfl ?_
      refine r_aldN K dX7_count_77 1 rfl (by first | omega | exact iG_lt (by omega) (by decide) | exact iM_lt (by omega) (by decide)) (by decide) ?_
      exact hR () dX7_count_78 (trivial) (e_ri (by rw [c24]; rfl)) (weq.rf)
    · have c24 : w = nI 3 := c24
      refine r_aload_n K dX7_count_79 1 rfl ?_
      refine r_get K dX7_count_80 (kf := 0) 0 rfl rfl hinX7 (by decide) q757 rfl rfl ?_
      refine r_cSd K dX7_count_83 (c_X7_payIn l Γ (a 0) r (hI)) mX7_payIn q939 rfl (by decide) 3 rfl [1] [0, 2] rfl rfl [mo h a hi lm rm pc bi sd, eI Γ (a 6) 7 rf] rfl [mo h a hi lm rm pc bi sd, eI Γ (a 0) 42 r, eI Γ (a 6) 7 rf] rfl rfl rfl [] rfl (Nat.le_of_ble_eq_true rfl) ?_
      exact hR () dX7_count_86 (trivial) (e_ri (by rw [c24]; rfl)) (weq.rf)
    · have c24 : w = nI 4 := c24
      refine r_aload_n K dX7_count_87 1 rfl ?_
      refine r_get K dX7_count_88 (kf := 0) 0 rfl rfl hinX7 (by decide) q757 rfl rfl ?_
      refine r_cSd K dX7_count_91 (c_X7_inchesIn l Γ (a 0) r (hI)) mX7_inchesIn q1012 rfl (by decide) 3 rfl [1] [0, 2] rfl rfl [mo h a hi lm rm pc bi sd, eI Γ (a 6) 7 rf] rfl [mo h a hi lm rm pc bi sd, eI Γ (a 0) 42 r, eI Γ (a 6) 7 rf] rfl rfl rfl [] rfl (Nat.le_of_ble_eq_true rfl) ?_
      exact hR () dX7_count_94 (trivial) (e_ri (by rw [c24]; rfl)) (weq.rf)
    · have c24 : w = nI 5 := c24
      refine r_iconst K dX7_count_95 (nI 0) (by decide) ?_
      refine r_istore_n K dX7_count_96 rfl (by decide) (lv1 := [(3, .int (nI 0)), (2, .int (nI 0)), (0, .ref h), (1, .int w)]) rfl ?_
      have L97 : ∀ (fL97 : Nat) (p : Nat) (v : Int32), (p ≤ nM r) → (v = sumTo (fun p => r (iM p 2)) p) → nM r - p < fL97 → V 97 [(3, .int (nI p)), (2, .int v), (0, .ref h), (1, .int w)] [] [mo h a hi lm rm pc bi sd, eI Γ (a 0) 42 r, eI Γ (a 6) 7 rf] := by
        intro fL97
        induction fL97 with
        | zero => intro p v hp hv hf; exact absurd hf (Nat.not_lt_zero _)
        | succ fL97 ih_L97 =>
          intro p v hp hv hfL97
          refine r_iload_n K dX7_count_97 0 rfl ?_
          refine r_aload_n K dX7_count_98 2 rfl ?_
          refine r_get K dX7_count_99 (kf := 0) 0 rfl rfl hinX7 (by decide) q757 rfl rfl ?_
          refine r_iconst K dX7_count_102 (nI 1) (by decide) ?_
          refine r_aldN K dX7_count_103 1 rfl (by first | omega | exact iG_lt (by omega) (by decide) | exact iM_lt (by omega) (by decide)) (by decide) ?_
          refine r_top (y := nI (nM r)) (hI.r1) ?_
          refine r_ic_geN K dX7_count_104 (by omega) (by omega) (fun c104 => ?_) (fun c104 => ?_)
          · obtain rfl : p = nM r := by omega
            refine r_iload_n K dX7_count_126 1 rfl ?_
            exact hR () dX7_count_127 (trivial) (e_ri (by rw [c24, hv, ← grfS_cut hI]; rfl)) (weq.rf)
          · refine r_iload_n K dX7_count_107 1 rfl ?_
            refine r_aload_n K dX7_count_108 2 rfl ?_
            refine r_get K dX7_count_109 (kf := 0) 0 rfl rfl hinX7 (by decide) q757 rfl rfl ?_
            refine r_iload_n K dX7_count_112 0 rfl ?_
            refine r_iconst K dX7_count_113 (nI 2) (by decide) ?_
            refine r_cSd K dX7_count_114 (c_X7_ofM l Γ p 2) mX7_ofM q853 rfl (by decide) 3 rfl [] [0, 1, 2] rfl rfl [mo h a hi lm rm pc bi sd, eI Γ (a 0) 42 r, eI Γ (a 6) 7 rf] rfl [mo h a hi lm rm pc bi sd, eI Γ (a 0) 42 r, eI Γ (a 6) 7 rf] rfl rfl rfl [.ref (a 0), .int v] rfl (Nat.le_of_ble_eq_true rfl) ?_
            refine r_aldN K dX7_count_117 1 rfl (by first | omega | exact iG_lt (by omega) (by decide) | exact iM_lt (by omega) (by decide)) (by decide) ?_
            refine r_iadd K dX7_count_118 ?_
            refine r_istore_n K dX7_count_119 rfl (by decide) (lv1 := [(2, .int (v + (r (iM p 2)))), (3, .int (nI p)), (0, .ref h), (1, .int w)]) rfl ?_
            refine r_iincN K dX7_count_120 (n := 1) 1 rfl rfl (by decide) (lv1 := [(3, .int (nI (p + 1))), (2, .int (v + (r (iM p 2)))), (0, .ref h), (1, .int w)]) rfl ?_
            refine r_goto K dX7_count_123 ?_
            exact ih_L97 (p + 1) (v + (r (iM p 2))) (by omega) (by rw [hv]; rfl) (by omega)
      exact L97 _ 0 (nI 0) (Nat.zero_le _) (rfl) (Nat.lt_succ_self _)
    · have c24 : w = nI 6 := c24
      refine r_aload_n K dX7_count_128 1 rfl ?_
      refine r_get K dX7_count_129 (kf := 9) 0 rfl rfl hinX7 (by decide) q766 rfl rfl ?_
      exact hR () dX7_count_132 (trivial) (e_ri (by rw [c24]; rfl)) (weq.rf)
    · have c24 : w = nI 7 := c24
      refine r_aload_n K dX7_count_133 1 rfl ?_
      refine r_get K dX7_count_134 (kf := 8) 0 rfl rfl hinX7 (by decide) q765 rfl rfl ?_
      exact hR () dX7_count_137 (trivial) (e_ri (by rw [c24]; rfl)) (weq.rf)
    · have c24 : ∀ v : Nat, 0 ≤ v → v ≤ 7 → v < 2 ^ 31 → ¬ w = nI v := tsw_out c24
      refine r_bipush K dX7_count_138 ((-9)) (by decide) ?_
      exact hR () dX7_count_140 (trivial) (e_ri (aCount_d c8 c24)) (weq.rf)
  · have hw := isInB_ok (lo := 11) (hi := 16) (by decide) (by decide) c8
    have lw := hw.2
    refine r_lc (lv1 := [(0, .ref h), (1, .int (nI (ix w)))]) (congrArg (fun zz : Int32 => ([(0, .ref h), (1, .int zz)] : List (Nat × Value))) (hw.1)) ?_
    refine r_aload_n K dX7_count_11 0 rfl ?_
    refine r_get K dX7_count_12 (kf := 7) 0 rfl rfl hinX7 (by decide) q764 rfl rfl ?_
    refine r_iload_n K dX7_count_15 1 rfl ?_
    refine r_bipush K dX7_count_16 (nI 10) (by decide) ?_
    refine r_isubN K dX7_count_18 (by omega) ?_
    refine r_aldN K dX7_count_19 2 rfl (by first | omega | exact iG_lt (by omega) (by decide) | exact iM_lt (by omega) (by decide)) (by decide) ?_
    exact hR () dX7_count_20 (trivial) (e_ri (by unfold aCount; rw [if_pos c8])) (weq.rf)
