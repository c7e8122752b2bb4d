set_option maxHeartbeats 1000000 in
set_option maxRecDepth 20000 in
theorem c_X4_measureSets (l : Launch) (Γ : eG) (so : Nat) (sw : Nat) (sg : Nat) (sx : Nat) (be : Int32) (f0 : Nat → Int32) (f1 : Nat → Int32) (f2 : Nat → Int32) (h : Nat) (a : Nat → Nat) (r : Nat → Int32) (hI : Inv r) : cD l Γ yX4_measureSets cX4_measureSets 5 (none) 3 [.ref so, .ref h, .int (nI (2 ^ nM r))] [eO so 2 [.ref sw, .ref sg, .ref sx, .int be], eI Γ sw 64 f0, eI Γ sg 64 f1, eI Γ sx 64 f2, ydW Γ h a r] none [eO so 2 [.ref sw, .ref sg, .ref sx, .int be], eI Γ sw 64 (cpF (fun j => wpS r j 6) f0 (2 ^ nM r)), eI Γ sg 64 (cpF (fun j => nI (dpS j 6)) f1 (2 ^ nM r)), eI Γ sx 64 f2, ydW Γ h a r] := by
  refine e_void [(0, .ref so), (1, .ref h), (2, .int (nI (2 ^ nM r)))] (by decide +kernel) (Nat.le_of_ble_eq_true rfl) rfl (fun V K hR => ?_)
  have h5 := hI.g
  have h6 := hI.m
  have hp6 := pow6 h6
  have hp0 : 1 ≤ 2 ^ nM r := Nat.one_le_two_pow
  refine r_iconst K dX4_measureSets_0 (nI 0) (by decide) ?_
  refine r_istore_n K dX4_measureSets_1 rfl (by decide) (lv1 := [(3, .int (nI 0)), (0, .ref so), (1, .ref h), (2, .int (nI (2 ^ nM r)))]) rfl ?_
  have L2 : ∀ (fL2 : Nat) (s : Nat), (s ≤ 2 ^ nM r) → 2 ^ nM r - s < fL2 → V 2 [(3, .int (nI s)), (0, .ref so), (1, .ref h), (2, .int (nI (2 ^ nM r)))] [] [eO so 2 [.ref sw, .ref sg, .ref sx, .int be], eI Γ sw 64 (cpF (fun j => wpS r j 6) f0 s), eI Γ sg 64 (cpF (fun j => nI (dpS j 6)) f1 s), eI Γ sx 64 f2, ydW Γ h a r] := by
    intro fL2
    induction fL2 with
    | zero => intro s hs hf; exact absurd hf (Nat.not_lt_zero _)
    | succ fL2 ih_L2 =>
      intro s hs hfL2
      refine r_iload_n K dX4_measureSets_2 0 rfl ?_
      refine r_iload_n K dX4_measureSets_3 3 rfl ?_
      refine r_ic_geN K dX4_measureSets_4 (by omega) (by omega) (fun c4 => ?_) (fun c4 => ?_)
      · obtain rfl : s = 2 ^ nM r := by omega
        exact hR () dX4_measureSets_85 (trivial) rfl (weq.rf)
      · refine r_aload_n K dX4_measureSets_7 1 rfl ?_
        refine r_get K dX4_measureSets_8 (kf := 0) 0 rfl rfl hinX4 (by decide) q101 rfl rfl ?_
        refine r_iload_n K dX4_measureSets_11 0 rfl ?_
        refine r_iconst K dX4_measureSets_12 (nI 0) (by decide) ?_
        refine r_astN K dX4_measureSets_13 (ws1 := [eO so 2 [.ref sw, .ref sg, .ref sx, .int be], eI Γ sw 64 (upd (cpF (fun j => wpS r j 6) f0 s) s (nI 0)), eI Γ sg 64 (cpF (fun j => nI (dpS j 6)) f1 s), eI Γ sx 64 f2, ydW Γ h a r]) 1 rfl (by first | omega | exact iG_lt (by omega) (by decide) | exact iM_lt (by omega) (by decide)) (by decide) rfl ?_
        refine r_aload_n K dX4_measureSets_14 1 rfl ?_
        refine r_get K dX4_measureSets_15 (kf := 1) 0 rfl rfl hinX4 (by decide) q102 rfl rfl ?_
        refine r_iload_n K dX4_measureSets_18 0 rfl ?_
        refine r_iconst K dX4_measureSets_19 (nI 0) (by decide) ?_
        refine r_astN K dX4_measureSets_20 (ws1 := [eO so 2 [.ref sw, .ref sg, .ref sx, .int be], eI Γ sw 64 (upd (cpF (fun j => wpS r j 6) f0 s) s (nI 0)), eI Γ sg 64 (upd (cpF (fun j => nI (dpS j 6)) f1 s) s (nI 0)), eI Γ sx 64 f2, ydW Γ h a r]) 2 rfl (by first | omega | exact iG_lt (by omega) (by decide) | exact iM_lt (by omega) (by decide)) (by decide) rfl ?_
        refine r_iconst K dX4_measureSets_21 (nI 0) (by decide) ?_
        refine r_istore K dX4_measureSets_22 (by decide) (lv1 := [(4, .int (nI 0)), (3, .int (nI s)), (0, .ref so), (1, .ref h), (2, .int (nI (2 ^ nM r)))]) rfl ?_
        have L24 : ∀ (fL24 : Nat) (m : Nat), (m ≤ 6) → 6 - m < fL24 → V 24 [(4, .int (nI m)), (3, .int (nI s)), (0, .ref so), (1, .ref h), (2, .int (nI (2 ^ nM r)))] [] [eO so 2 [.ref sw, .ref sg, .ref sx, .int be], eI Γ sw 64 (upd (cpF (fun j => wpS r j 6) f0 s) s (wpS r s m)), eI Γ sg 64 (upd (cpF (fun j => nI (dpS j 6)) f1 s) s (nI (dpS s m))), eI Γ sx 64 f2, ydW Γ h a r] := by
          intro fL24
          induction fL24 with
          | zero => intro m hm hf; exact absurd hf (Nat.not_lt_zero _)
          | succ fL24 ih_L24 =>
            intro m hm hfL24
            refine r_iload K dX4_measureSets_24 0 rfl ?_
            refine r_gets K dX4_measureSets_26 q489 ?_
            refine r_tlen K dX4_measureSets_29 ?_
            refine r_ic_geN K dX4_measureSets_30 (by omega) (by omega) (fun c30 => ?_) (fun c30 => ?_)
            · obtain rfl : m = 6 := by omega
              refine r_arr K (f2 := cpF (fun j => wpS r j 6) f0 (s + 1)) (ws1 := [eO so 2 [.ref sw, .ref sg, .ref sx, .int be], eI Γ sw 64 (cpF (fun j => wpS r j 6) f0 (s + 1)), eI Γ sg 64 (upd (cpF (fun j => nI (dpS j 6)) f1 s) s (nI (dpS s 6))), eI Γ sx 64 f2, ydW Γ h a r]) 1 rfl (fun _ _ => by rw [← cpF_s]) rfl ?_
              refine r_arr K (f2 := cpF (fun j => nI (dpS j 6)) f1 (s + 1)) (ws1 := [eO so 2 [.ref sw, .ref sg, .ref sx, .int be], eI Γ sw 64 (cpF (fun j => wpS r j 6) f0 (s + 1)), eI Γ sg 64 (cpF (fun j => nI (dpS j 6)) f1 (s + 1)), eI Γ sx 64 f2, ydW Γ h a r]) 2 rfl (fun _ _ => by rw [← cpF_s]) rfl ?_
              refine r_iincN K dX4_measureSets_79 (n := 1) 1 rfl rfl (by decide) (lv1 := [(3, .int (nI (s + 1))), (4, .int (nI 6)), (0, .ref so), (1, .ref h), (2, .int (nI (2 ^ nM r)))]) rfl ?_
              refine r_goto K dX4_measureSets_82 ?_
              refine r_lv K [0, 2, 3, 4] rfl ?_
              exact ih_L2 (s + 1) (by omega) (by omega)
            · refine r_iload_n K dX4_measureSets_33 1 rfl ?_
              refine r_iload K dX4_measureSets_34 0 rfl ?_
              refine r_ishr K dX4_measureSets_36 ?_
              refine r_top (y := nI (s / 2 ^ m)) (has_sh (by omega) (by omega)) ?_
              refine r_iconst K dX4_measureSets_37 (nI 1) (by decide) ?_
              refine r_iand K dX4_measureSets_38 ?_
              refine r_top (y := nI (s / 2 ^ m % 2)) (and1 _) ?_
              refine r_iconst K dX4_measureSets_39 (nI 1) (by decide) ?_
              refine r_ic_neN K dX4_measureSets_40 (by omega) (by omega) (fun c40 => ?_) (fun c40 => ?_)
              · have hb : ¬ hasB s m = true := by unfold hasB; simpa using c40
                refine r_arr K (f2 := upd (cpF (fun j => wpS r j 6) f0 s) s (wpS r s (m + 1))) (ws1 := [eO so 2 [.ref sw, .ref sg, .ref sx, .int be], eI Γ sw 64 (upd (cpF (fun j => wpS r j 6) f0 s) s (wpS r s (m + 1))), eI Γ sg 64 (upd (cpF (fun j => nI (dpS j 6)) f1 s) s (nI (dpS s m))), eI Γ sx 64 f2, ydW Γ h a r]) 1 rfl (fun _ _ => by rw [wpS_n hb]) rfl ?_
                refine r_arr K (f2 := upd (cpF (fun j => nI (dpS j 6)) f1 s) s (nI (dpS s (m + 1)))) (ws1 := [eO so 2 [.ref sw, .ref sg, .ref sx, .int be], eI Γ sw 64 (upd (cpF (fun j => wpS r j 6) f0 s) s (wpS r s (m + 1))), eI Γ sg 64 (upd (cpF (fun j => nI (dpS j 6)) f1 s) s (nI (dpS s (m + 1)))), eI Γ sx 64 f2, ydW Γ h a r]) 2 rfl (fun _ _ => by rw [dpS_n hb]) rfl ?_
                refine r_iincN K dX4_measureSets_73 (n := 1) 0 rfl rfl (by decide) (lv1 := [(4, .int (nI (m + 1))), (3, .int (nI s)), (0, .ref so), (1, .ref h), (2, .int (nI (2 ^ nM r)))]) rfl ?_
                refine r_goto K dX4_measureSets_76 ?_
                exact ih_L24 (m + 1) (by omega) (by omega)
              · have hb : hasB s m = true := by unfold hasB; simpa using c40
                have hmm := hasB_lt hb c4
                refine r_aload_n K dX4_measureSets_43 2 rfl ?_
                refine r_get K dX4_measureSets_44 (kf := 0) 0 rfl rfl hinX4 (by decide) q101 rfl rfl ?_
                refine r_iload_n K dX4_measureSets_47 1 rfl ?_
                refine r_dup2 K dX4_measureSets_48 rfl rfl ?_
                refine r_aldN K dX4_measureSets_49 1 rfl (by first | omega | exact iG_lt (by omega) (by decide) | exact iM_lt (by omega) (by decide)) (by decide) ?_
                refine r_top (y := wpS r s m) (upd_s) ?_
                refine r_aload_n K dX4_measureSets_50 3 rfl ?_
                refine r_iload K dX4_measureSets_51 0 rfl ?_
                refine r_cVd K dX4_measureSets_53 (c_X0_weeps l Γ h a r m (hI) (by first | omega | (simp only [daysS_nM, daysS_nG, dayS_nM, dayS_nG, tellS_nM, tellS_nG, aloneTo_nM, aloneTo_nG, nM_M, nG_M, nM_G, nG_G, lv_nM, lv_nG, gnT_nM, gnT_nG] <;> omega))) mX0_weeps q491 rfl (by decide) rfl rfl 5 rfl [4] [0, 1, 2, 3] rfl rfl [eO so 2 [.ref sw, .ref sg, .ref sx, .int be], eI Γ sw 64 (upd (cpF (fun j => wpS r j 6) f0 s) s (wpS r s m)), eI Γ sg 64 (upd (cpF (fun j => nI (dpS j 6)) f1 s) s (nI (dpS s m))), eI Γ sx 64 f2] rfl [eO so 2 [.ref sw, .ref sg, .ref sx, .int be], eI Γ sw 64 (upd (cpF (fun j => wpS r j 6) f0 s) s (wpS r s m)), eI Γ sg 64 (upd (cpF (fun j => nI (dpS j 6)) f1 s) s (nI (dpS s m))), eI Γ sx 64 f2, ydW Γ h a r] rfl rfl rfl [.int (wpS r s m), .int (nI s), .ref sw] rfl (Nat.le_of_ble_eq_true rfl) ?_
                refine r_iadd K dX4_measureSets_56 ?_
                refine r_astN K dX4_measureSets_57 (ws1 := [eO so 2 [.ref sw, .ref sg, .ref sx, .int be], eI Γ sw 64 (upd (upd (cpF (fun j => wpS r j 6) f0 s) s (wpS r s m)) s ((wpS r s m) + (weepS r m))), eI Γ sg 64 (upd (cpF (fun j => nI (dpS j 6)) f1 s) s (nI (dpS s m))), eI Γ sx 64 f2, ydW Γ h a r]) 1 rfl (by first | omega | exact iG_lt (by omega) (by decide) | exact iM_lt (by omega) (by decide)) (by decide) rfl ?_
                refine r_aload_n K dX4_measureSets_58 2 rfl ?_
                refine r_get K dX4_measureSets_59 (kf := 1) 0 rfl rfl hinX4 (by decide) q102 rfl rfl ?_
                refine r_iload_n K dX4_measureSets_62 1 rfl ?_
                refine r_dup2 K dX4_measureSets_63 rfl rfl ?_
                refine r_aldN K dX4_measureSets_64 2 rfl (by first | omega | exact iG_lt (by omega) (by decide) | exact iM_lt (by omega) (by decide)) (by decide) ?_
                refine r_top (y := nI (dpS s m)) (upd_s) ?_
                refine r_gets K dX4_measureSets_65 q489 ?_
                refine r_iload K dX4_measureSets_68 0 rfl ?_
                refine r_tald K dX4_measureSets_70 (by omega) ?_
                refine r_iadd K dX4_measureSets_71 ?_
                refine r_astN K dX4_measureSets_72 (ws1 := [eO so 2 [.ref sw, .ref sg, .ref sx, .int be], eI Γ sw 64 (upd (upd (cpF (fun j => wpS r j 6) f0 s) s (wpS r s m)) s ((wpS r s m) + (weepS r m))), eI Γ sg 64 (upd (upd (cpF (fun j => nI (dpS j 6)) f1 s) s (nI (dpS s m))) s ((nI (dpS s m)) + (nI (dgN m)))), eI Γ sx 64 f2, ydW Γ h a r]) 2 rfl (by first | omega | exact iG_lt (by omega) (by decide) | exact iM_lt (by omega) (by decide)) (by decide) rfl ?_
                refine r_arr K (f2 := upd (cpF (fun j => wpS r j 6) f0 s) s (wpS r s (m + 1))) (ws1 := [eO so 2 [.ref sw, .ref sg, .ref sx, .int be], eI Γ sw 64 (upd (cpF (fun j => wpS r j 6) f0 s) s (wpS r s (m + 1))), eI Γ sg 64 (upd (upd (cpF (fun j => nI (dpS j 6)) f1 s) s (nI (dpS s m))) s ((nI (dpS s m)) + (nI (dgN m)))), eI Γ sx 64 f2, ydW Γ h a r]) 1 rfl (fun _ _ => by rw [upd_upd, wpS_t hb]) rfl ?_
                refine r_arr K (f2 := upd (cpF (fun j => nI (dpS j 6)) f1 s) s (nI (dpS s (m + 1)))) (ws1 := [eO so 2 [.ref sw, .ref sg, .ref sx, .int be], eI Γ sw 64 (upd (cpF (fun j => wpS r j 6) f0 s) s (wpS r s (m + 1))), eI Γ sg 64 (upd (cpF (fun j => nI (dpS j 6)) f1 s) s (nI (dpS s (m + 1)))), eI Γ sx 64 f2, ydW Γ h a r]) 2 rfl (fun _ _ => by rw [upd_upd, dpS_t hb, ← nI_add]) rfl ?_
                refine r_iincN K dX4_measureSets_73 (n := 1) 0 rfl rfl (by decide) (lv1 := [(4, .int (nI (m + 1))), (3, .int (nI s)), (0, .ref so), (1, .ref h), (2, .int (nI (2 ^ nM r)))]) rfl ?_
                refine r_goto K dX4_measureSets_76 ?_
                exact ih_L24 (m + 1) (by omega) (by omega)
        refine r_arr K (f2 := upd (cpF (fun j => wpS r j 6) f0 s) s (wpS r s 0)) (ws1 := [eO so 2 [.ref sw, .ref sg, .ref sx, .int be], eI Γ sw 64 (upd (cpF (fun j => wpS r j 6) f0 s) s (wpS r s 0)), eI Γ sg 64 (upd (cpF (fun j => nI (dpS j 6)) f1 s) s (nI 0)), eI Γ sx 64 f2, ydW Γ h a r]) 1 rfl (fun _ _ => rfl) rfl ?_
        refine r_arr K (f2 := upd (cpF (fun j => nI (dpS j 6)) f1 s) s (nI (dpS s 0))) (ws1 := [eO so 2 [.ref sw, .ref sg, .ref sx, .int be], eI Γ sw 64 (upd (cpF (fun j => wpS r j 6) f0 s) s (wpS r s 0)), eI Γ sg 64 (upd (cpF (fun j => nI (dpS j 6)) f1 s) s (nI (dpS s 0))), eI Γ sx 64 f2, ydW Γ h a r]) 2 rfl (fun _ _ => rfl) rfl ?_
        exact L24 _ 0 (Nat.zero_le _) (Nat.lt_succ_self _)
  refine r_arr K (f2 := cpF (fun j => wpS r j 6) f0 0) (ws1 := [eO so 2 [.ref sw, .ref sg, .ref sx, .int be], eI Γ sw 64 (cpF (fun j => wpS r j 6) f0 0), eI Γ sg 64 f1, eI Γ sx 64 f2, ydW Γ h a r]) 1 rfl (fun _ _ => by rw [cpF_0]) rfl ?_
  refine r_arr K (f2 := cpF (fun j => nI (dpS j 6)) f1 0) (ws1 := [eO so 2 [.ref sw, .ref sg, .ref sx, .int be], eI Γ sw 64 (cpF (fun j => wpS r j 6) f0 0), eI Γ sg 64 (cpF (fun j => nI (dpS j 6)) f1 0), eI Γ sx 64 f2, ydW Γ h a r]) 2 rfl (fun _ _ => by rw [cpF_0]) rfl ?_
  exact L2 _ 0 (Nat.zero_le _) (Nat.lt_succ_self _)
set_option maxHeartbeats 1000000 in
set_option maxRecDepth 20000 in
theorem c_X4_bestWith (l : Launch) (Γ : eG) (so : Nat) (sw : Nat) (sg : Nat) (sx : Nat) (be : Int32) (f0 : Nat → Int32) (f1 : Nat → Int32) (f2 : Nat → Int32) (h : Nat) (a : Nat → Nat) (r : Nat → Int32) (g : Nat) (s : Nat) (hI : Inv r) (hg : g < nG r) (hs : s < 64) (e0 : ∀ j, j ≤ s → f0 j = wpS r j 6) (e1 : ∀ j, j ≤ s → f1 j = nI (dpS j 6)) : cD l Γ yX4_bestWith cX4_bestWith 10 (some .int) 3 [.ref so, .ref h, .int (nI g), .int (nI s)] [eO so 2 [.ref sw, .ref sg, .ref sx, .int be], eI Γ sw 64 f0, eI Γ sg 64 f1, eI Γ sx 64 f2, ydW Γ h a r] (some (.int (bwL r g f2 s s))) [eO so 2 [.ref sw, .ref sg, .ref sx, .int be], eI Γ sw 64 f0, eI Γ sg 64 f1, eI Γ sx 64 f2, ydW Γ h a r] := by
  refine e_int [(0, .ref so), (1, .ref h), (2, .int (nI g)), (3, .int (nI s))] (by decide +kernel) (Nat.le_of_ble_eq_true rfl) rfl (fun V K hR => ?_)
  have h5 := hI.g
  have h6 := hI.m
  have hp6 := pow6 h6
  have hp0 : 1 ≤ 2 ^ nM r := Nat.one_le_two_pow
  refine r_iload_n K dX4_bestWith_0 3 rfl ?_
  refine r_if_ltN K dX4_bestWith_1 (by omega) (fun c1 => ?_) (fun c1 => ?_)
  · exact absurd c1 (by omega)
  · refine r_iload_n K dX4_bestWith_4 3 rfl ?_
    refine r_bipush K dX4_bestWith_5 (nI 64) (by decide) ?_
    refine r_ic_ltN K dX4_bestWith_7 (by omega) (by omega) (fun c7 => ?_) (fun c7 => ?_)
    · refine r_aload_n K dX4_bestWith_13 0 rfl ?_
      refine r_get K dX4_bestWith_14 (kf := 2) 0 rfl rfl hinX4 (by decide) q103 rfl rfl ?_
      refine r_iload_n K dX4_bestWith_17 3 rfl ?_
      refine r_aldN K dX4_bestWith_18 3 rfl (by first | omega | exact iG_lt (by omega) (by decide) | exact iM_lt (by omega) (by decide)) (by decide) ?_
      refine r_istore K dX4_bestWith_19 (by decide) (lv1 := [(4, .int (f2 s)), (0, .ref so), (1, .ref h), (2, .int (nI g)), (3, .int (nI s))]) rfl ?_
      refine r_aload_n K dX4_bestWith_21 2 rfl ?_
      refine r_iload_n K dX4_bestWith_22 3 rfl ?_
      refine r_cVd K dX4_bestWith_23 (c_X0_wetnessN l Γ h a r g (hI) (by first | omega | (simp only [daysS_nM, daysS_nG, dayS_nM, dayS_nG, tellS_nM, tellS_nG, aloneTo_nM, aloneTo_nG, nM_M, nG_M, nM_G, nG_G, lv_nM, lv_nG, gnT_nM, gnT_nG] <;> omega))) mX0_wetness q498 rfl (by decide) rfl rfl 5 rfl [4] [0, 1, 2, 3] rfl rfl [eO so 2 [.ref sw, .ref sg, .ref sx, .int be], eI Γ sw 64 f0, eI Γ sg 64 f1, eI Γ sx 64 f2] rfl [eO so 2 [.ref sw, .ref sg, .ref sx, .int be], eI Γ sw 64 f0, eI Γ sg 64 f1, eI Γ sx 64 f2, ydW Γ h a r] rfl rfl rfl [] rfl (Nat.le_of_ble_eq_true rfl) ?_
      refine r_istore K dX4_bestWith_26 (by decide) (lv1 := [(5, .int (r (iG g 2))), (4, .int (f2 s)), (0, .ref so), (1, .ref h), (2, .int (nI g)), (3, .int (nI s))]) rfl ?_
      refine r_iconst K dX4_bestWith_28 (nI 1) (by decide) ?_
      refine r_aload_n K dX4_bestWith_29 3 rfl ?_
      refine r_iload_n K dX4_bestWith_30 4 rfl ?_
      refine r_cVd K dX4_bestWith_31 (c_X0_weepingForInch l Γ h a r g (hI) (by first | omega | (simp only [daysS_nM, daysS_nG, dayS_nM, dayS_nG, tellS_nM, tellS_nG, aloneTo_nM, aloneTo_nG, nM_M, nG_M, nM_G, nG_G, lv_nM, lv_nG, gnT_nM, gnT_nG] <;> omega))) mX0_weepingForInch q499 rfl (by decide) rfl rfl 5 rfl [4] [0, 1, 2, 3] rfl rfl [eO so 2 [.ref sw, .ref sg, .ref sx, .int be], eI Γ sw 64 f0, eI Γ sg 64 f1, eI Γ sx 64 f2] rfl [eO so 2 [.ref sw, .ref sg, .ref sx, .int be], eI Γ sw 64 f0, eI Γ sg 64 f1, eI Γ sx 64 f2, ydW Γ h a r] rfl rfl rfl [.int (nI 1)] rfl (Nat.le_of_ble_eq_true rfl) ?_
      refine r_mmax K dX4_bestWith_34 q500 q193 q194 (Nat.le_of_ble_eq_true rfl) (by decide) ?_
      refine r_top (y := r (iG g 0) + nI 1) (hd1 (hI.gH (by omega))) ?_
      refine r_istore K dX4_bestWith_37 (by decide) (lv1 := [(6, .int (r (iG g 0) + nI 1)), (5, .int (r (iG g 2))), (4, .int (f2 s)), (0, .ref so), (1, .ref h), (2, .int (nI g)), (3, .int (nI s))]) rfl ?_
      refine r_iconst K dX4_bestWith_39 (nI 1) (by decide) ?_
      refine r_istore K dX4_bestWith_40 (by decide) (lv1 := [(7, .int (nI 1)), (6, .int (r (iG g 0) + nI 1)), (5, .int (r (iG g 2))), (4, .int (f2 s)), (0, .ref so), (1, .ref h), (2, .int (nI g)), (3, .int (nI s))]) rfl ?_
      have L42 : ∀ (fL42 : Nat) (k : Nat), (k ≤ s) → s - k < fL42 → V 42 [(7, .int (nI (k + 1))), (6, .int (r (iG g 0) + nI 1)), (5, .int (r (iG g 2))), (4, .int (bwL r g f2 s k)), (0, .ref so), (1, .ref h), (2, .int (nI g)), (3, .int (nI s))] [] [eO so 2 [.ref sw, .ref sg, .ref sx, .int be], eI Γ sw 64 f0, eI Γ sg 64 f1, eI Γ sx 64 f2, ydW Γ h a r] := by
        intro fL42
        induction fL42 with
        | zero => intro k hk hf; exact absurd hf (Nat.not_lt_zero _)
        | succ fL42 ih_L42 =>
          intro k hk hfL42
          refine r_iload K dX4_bestWith_42 0 rfl ?_
          refine r_iload_n K dX4_bestWith_44 7 rfl ?_
          refine r_ic_gtN K dX4_bestWith_45 (by omega) (by omega) (fun c45 => ?_) (fun c45 => ?_)
          · obtain rfl : s = k := by omega
            refine r_iload K dX4_bestWith_115 3 rfl ?_
            exact hR () dX4_bestWith_117 (trivial) (e_ri (rfl)) (weq.rf)
          · refine r_iload K dX4_bestWith_48 0 rfl ?_
            refine r_iload_n K dX4_bestWith_50 7 rfl ?_
            refine r_iconst K dX4_bestWith_51 ((-1)) (by decide) ?_
            refine r_ixor K dX4_bestWith_52 ?_
            refine r_iand K dX4_bestWith_53 ?_
            refine r_if_ne K dX4_bestWith_54 (fun c54 => ?_) (fun c54 => ?_)
            · refine r_iincN K dX4_bestWith_109 (n := 1) 0 rfl rfl (by decide) (lv1 := [(7, .int (nI (k + 1 + 1))), (6, .int (r (iG g 0) + nI 1)), (5, .int (r (iG g 2))), (4, .int (bwL r g f2 s k)), (0, .ref so), (1, .ref h), (2, .int (nI g)), (3, .int (nI s))]) rfl ?_
              refine r_goto K dX4_bestWith_112 ?_
              refine r_lc (lv1 := [(7, .int (nI (k + 1 + 1))), (6, .int (r (iG g 0) + nI 1)), (5, .int (r (iG g 2))), (4, .int (bwL r g f2 s (k + 1))), (0, .ref so), (1, .ref h), (2, .int (nI g)), (3, .int (nI s))]) (by rw [bwL_n (fun z => c54 (of_decide_eq_true z))]) ?_
              exact ih_L42 (k + 1) (by omega) (by omega)
            · refine r_iload K dX4_bestWith_57 2 rfl ?_
              refine r_aload_n K dX4_bestWith_59 4 rfl ?_
              refine r_get K dX4_bestWith_60 (kf := 0) 0 rfl rfl hinX4 (by decide) q101 rfl rfl ?_
              refine r_iload K dX4_bestWith_63 0 rfl ?_
              refine r_aldN K dX4_bestWith_65 1 rfl (by first | omega | exact iG_lt (by omega) (by decide) | exact iM_lt (by omega) (by decide)) (by decide) ?_
              refine r_top (y := wpS r (k + 1) 6) (e0 _ (by omega)) ?_
              refine r_iadd K dX4_bestWith_66 ?_
              refine r_iload K dX4_bestWith_67 1 rfl ?_
              refine r_idiv K dX4_bestWith_69 (hd1_ne (hI.gH (by omega))) ?_
              refine r_istore K dX4_bestWith_70 (by decide) (lv1 := [(8, .int (((r (iG g 2)) + (wpS r (k + 1) 6)) / (r (iG g 0) + nI 1))), (7, .int (nI (k + 1))), (6, .int (r (iG g 0) + nI 1)), (5, .int (r (iG g 2))), (4, .int (bwL r g f2 s k)), (0, .ref so), (1, .ref h), (2, .int (nI g)), (3, .int (nI s))]) rfl ?_
              refine r_iload K dX4_bestWith_72 0 rfl ?_
              refine r_sipush K dX4_bestWith_74 (nI 15625) (by decide) ?_
              refine r_imul K dX4_bestWith_77 ?_
              refine r_iload_n K dX4_bestWith_78 7 rfl ?_
              refine r_aload_n K dX4_bestWith_79 5 rfl ?_
              refine r_get K dX4_bestWith_80 (kf := 1) 0 rfl rfl hinX4 (by decide) q102 rfl rfl ?_
              refine r_iload K dX4_bestWith_83 1 rfl ?_
              refine r_aldN K dX4_bestWith_85 2 rfl (by first | omega | exact iG_lt (by omega) (by decide) | exact iM_lt (by omega) (by decide)) (by decide) ?_
              refine r_top (y := nI (dpS (k + 1) 6)) (e1 _ (by omega)) ?_
              refine r_imul K dX4_bestWith_86 ?_
              refine r_isub K dX4_bestWith_87 ?_
              refine r_istore K dX4_bestWith_88 (by decide) (lv1 := [(9, .int (((((r (iG g 2)) + (wpS r (k + 1) 6)) / (r (iG g 0) + nI 1)) * (nI 15625)) - ((nI g) * (nI (dpS (k + 1) 6))))), (8, .int (((r (iG g 2)) + (wpS r (k + 1) 6)) / (r (iG g 0) + nI 1))), (7, .int (nI (k + 1))), (6, .int (r (iG g 0) + nI 1)), (5, .int (r (iG g 2))), (4, .int (bwL r g f2 s k)), (0, .ref so), (1, .ref h), (2, .int (nI g)), (3, .int (nI s))]) rfl ?_
              refine r_iload K dX4_bestWith_90 5 rfl ?_
              refine r_aload_n K dX4_bestWith_92 6 rfl ?_
              refine r_get K dX4_bestWith_93 (kf := 2) 0 rfl rfl hinX4 (by decide) q103 rfl rfl ?_
              refine r_iload_n K dX4_bestWith_96 9 rfl ?_
              refine r_iload K dX4_bestWith_97 2 rfl ?_
              refine r_isubN K dX4_bestWith_99 (by omega) ?_
              refine r_aldN K dX4_bestWith_100 3 rfl (by first | omega | exact iG_lt (by omega) (by decide) | exact iM_lt (by omega) (by decide)) (by decide) ?_
              refine r_iload K dX4_bestWith_101 0 rfl ?_
              refine r_iadd K dX4_bestWith_103 ?_
              refine r_mmax K dX4_bestWith_104 q500 q193 q194 (Nat.le_of_ble_eq_true rfl) (by decide) ?_
              refine r_istore K dX4_bestWith_107 (by decide) (lv1 := [(4, .int (if (bwL r g f2 s k) < ((f2 (s - (k + 1))) + (((((r (iG g 2)) + (wpS r (k + 1) 6)) / (r (iG g 0) + nI 1)) * (nI 15625)) - ((nI g) * (nI (dpS (k + 1) 6))))) then ((f2 (s - (k + 1))) + (((((r (iG g 2)) + (wpS r (k + 1) 6)) / (r (iG g 0) + nI 1)) * (nI 15625)) - ((nI g) * (nI (dpS (k + 1) 6))))) else (bwL r g f2 s k))), (9, .int (((((r (iG g 2)) + (wpS r (k + 1) 6)) / (r (iG g 0) + nI 1)) * (nI 15625)) - ((nI g) * (nI (dpS (k + 1) 6))))), (8, .int (((r (iG g 2)) + (wpS r (k + 1) 6)) / (r (iG g 0) + nI 1))), (7, .int (nI (k + 1))), (6, .int (r (iG g 0) + nI 1)), (5, .int (r (iG g 2))), (0, .ref so), (1, .ref h), (2, .int (nI g)), (3, .int (nI s))]) rfl ?_
              refine r_iincN K dX4_bestWith_109 (n := 1) 3 rfl rfl (by decide) (lv1 := [(7, .int (nI (k + 1 + 1))), (4, .int (if (bwL r g f2 s k) < ((f2 (s - (k + 1))) + (((((r (iG g 2)) + (wpS r (k + 1) 6)) / (r (iG g 0) + nI 1)) * (nI 15625)) - ((nI g) * (nI (dpS (k + 1) 6))))) then ((f2 (s - (k + 1))) + (((((r (iG g 2)) + (wpS r (k + 1) 6)) / (r (iG g 0) + nI 1)) * (nI 15625)) - ((nI g) * (nI (dpS (k + 1) 6))))) else (bwL r g f2 s k))), (9, .int (((((r (iG g 2)) + (wpS r (k + 1) 6)) / (r (iG g 0) + nI 1)) * (nI 15625)) - ((nI g) * (nI (dpS (k + 1) 6))))), (8, .int (((r (iG g 2)) + (wpS r (k + 1) 6)) / (r (iG g 0) + nI 1))), (6, .int (r (iG g 0) + nI 1)), (5, .int (r (iG g 2))), (0, .ref so), (1, .ref h), (2, .int (nI g)), (3, .int (nI s))]) rfl ?_
              refine r_goto K dX4_bestWith_112 ?_
              refine r_lc (lv1 := [(7, .int (nI (k + 1 + 1))), (4, .int (bwL r g f2 s (k + 1))), (9, .int (((((r (iG g 2)) + (wpS r (k + 1) 6)) / (r (iG g 0) + nI 1)) * (nI 15625)) - ((nI g) * (nI (dpS (k + 1) 6))))), (8, .int (((r (iG g 2)) + (wpS r (k + 1) 6)) / (r (iG g 0) + nI 1))), (6, .int (r (iG g 0) + nI 1)), (5, .int (r (iG g 2))), (0, .ref so), (1, .ref h), (2, .int (nI g)), (3, .int (nI s))]) (by rw [bwL_t (decide_eq_true c54)]; rfl) ?_
              refine r_lv K [0, 4, 5, 1, 6, 7, 8, 9] rfl ?_
              exact ih_L42 (k + 1) (by omega) (by omega)
      refine r_lc (lv1 := [(7, .int (nI 1)), (6, .int (r (iG g 0) + nI 1)), (5, .int (r (iG g 2))), (4, .int (bwL r g f2 s 0)), (0, .ref so), (1, .ref h), (2, .int (nI g)), (3, .int (nI s))]) (rfl) ?_
      refine r_lc (lv1 := [(7, .int (nI (0 + 1))), (6, .int (r (iG g 0) + nI 1)), (5, .int (r (iG g 2))), (4, .int (bwL r g f2 s 0)), (0, .ref so), (1, .ref h), (2, .int (nI g)), (3, .int (nI s))]) (rfl) ?_
      exact L42 _ 0 (Nat.zero_le _) (Nat.lt_succ_self _)
    · exact absurd c7 (by omega)
set_option maxHeartbeats 1000000 in
set_option maxRecDepth 20000 in
theorem c_X4_weigh (l : Launch) (Γ : eG) (so : Nat) (sw : Nat) (sg : Nat) (sx : Nat) (be : Int32) (f0 : Nat → Int32) (f1 : Nat → Int32) (f2 : Nat → Int32) (h : Nat) (a : Nat → Nat) (r : Nat → Int32) (hI : Inv r) : cE l Γ yX4_weigh cX4_weigh 5 (none) 4 [.ref so, .ref h] [eO so 2 [.ref sw, .ref sg, .ref sx, .int be], eI Γ sw 64 f0, eI Γ sg 64 f1, eI Γ sx 64 f2, ydW Γ h a r] (S := (Nat → Int32) × (Nat → Int32) × (Nat → Int32)) (fun u => True) (fun u => none) (fun u => [eO so 2 [.ref sw, .ref sg, .ref sx, .int (bestS r)], eI Γ sw 64 u.1, eI Γ sg 64 u.2.1, eI Γ sx 64 u.2.2, ydW Γ h a r]) := by
  refine e_void [(0, .ref so), (1, .ref h)] (by decide +kernel) (Nat.le_of_ble_eq_true rfl) rfl (fun V K hR => ?_)
  have h5 := hI.g
  have h6 := hI.m
  have hp6 := pow6 h6
  have hp0 : 1 ≤ 2 ^ nM r := Nat.one_le_two_pow
  refine r_bipush K dX4_weigh_0 (nI 64) (by decide) ?_
  refine r_iconst K dX4_weigh_2 (nI 1) (by decide) ?_
  refine r_aload_n K dX4_weigh_3 1 rfl ?_
  refine r_cVd K dX4_weigh_4 (c_X0_mournerCount l Γ h a r (hI)) mX0_mournerCount q480 rfl (by decide) rfl rfl 5 rfl [4] [0, 1, 2, 3] rfl rfl [eO so 2 [.ref sw, .ref sg, .ref sx, .int be], eI Γ sw 64 f0, eI Γ sg 64 f1, eI Γ sx 64 f2] rfl [eO so 2 [.ref sw, .ref sg, .ref sx, .int be], eI Γ sw 64 f0, eI Γ sg 64 f1, eI Γ sx 64 f2, ydW Γ h a r] rfl rfl rfl [.int (nI 1), .int (nI 64)] rfl (Nat.le_of_ble_eq_true rfl) ?_
  refine r_ishl K dX4_weigh_7 ?_
  refine r_top (y := nI (2 ^ nM r)) (sh1 (by omega)) ?_
  refine r_mmin K dX4_weigh_8 q484 q204 q205 (Nat.le_of_ble_eq_true rfl) (by decide) ?_
  refine r_top (y := nI (2 ^ nM r)) (mn64 h6) ?_
  refine r_istore_n K dX4_weigh_11 rfl (by decide) (lv1 := [(2, .int (nI (2 ^ nM r))), (0, .ref so), (1, .ref h)]) rfl ?_
  refine r_aload_n K dX4_weigh_12 1 rfl ?_
  refine r_aload_n K dX4_weigh_13 2 rfl ?_
  refine r_iload_n K dX4_weigh_14 0 rfl ?_
  refine r_cVn K dX4_weigh_15 (c_X4_measureSets l Γ so sw sg sx be f0 f1 f2 h a r (hI)) mX4_measureSets q485 rfl (by decide) rfl rfl 5 rfl [0, 1, 2, 3, 4] [] rfl rfl [] rfl [eO so 2 [.ref sw, .ref sg, .ref sx, .int be], eI Γ sw 64 (cpF (fun j => wpS r j 6) f0 (2 ^ nM r)), eI Γ sg 64 (cpF (fun j => nI (dpS j 6)) f1 (2 ^ nM r)), eI Γ sx 64 f2, ydW Γ h a r] rfl rfl rfl [] rfl (Nat.le_of_ble_eq_true rfl) ?_
  refine r_iconst K dX4_weigh_18 (nI 0) (by decide) ?_
  refine r_istore_n K dX4_weigh_19 rfl (by decide) (lv1 := [(3, .int (nI 0)), (2, .int (nI (2 ^ nM r))), (0, .ref so), (1, .ref h)]) rfl ?_
  have L20 : ∀ (fL20 : Nat) (s : Nat), (s ≤ 2 ^ nM r) → 2 ^ nM r - s < fL20 → V 20 [(3, .int (nI s)), (2, .int (nI (2 ^ nM r))), (0, .ref so), (1, .ref h)] [] [eO so 2 [.ref sw, .ref sg, .ref sx, .int be], eI Γ sw 64 (cpF (fun j => wpS r j 6) f0 (2 ^ nM r)), eI Γ sg 64 (cpF (fun j => nI (dpS j 6)) f1 (2 ^ nM r)), eI Γ sx 64 (cpF (wtS r 0) f2 s), ydW Γ h a r] := by
    intro fL20
    induction fL20 with
    | zero => intro s hs hf; exact absurd hf (Nat.not_lt_zero _)
    | succ fL20 ih_L20 =>
      intro s hs hfL20
      refine r_iload_n K dX4_weigh_20 0 rfl ?_
      refine r_iload_n K dX4_weigh_21 1 rfl ?_
      refine r_ic_geN K dX4_weigh_22 (by omega) (by omega) (fun c22 => ?_) (fun c22 => ?_)
      · obtain rfl : s = 2 ^ nM r := by omega
        refine r_iconst K dX4_weigh_47 (nI 0) (by decide) ?_
        refine r_istore_n K dX4_weigh_48 rfl (by decide) (lv1 := [(3, .int (nI 0)), (2, .int (nI (2 ^ nM r))), (0, .ref so), (1, .ref h)]) rfl ?_
        have L49 : ∀ (fL49 : Nat) (g : Nat), (g ≤ nG r) → nG r - g < fL49 → V 49 [(3, .int (nI g)), (2, .int (nI (2 ^ nM r))), (0, .ref so), (1, .ref h)] [] [eO so 2 [.ref sw, .ref sg, .ref sx, .int be], eI Γ sw 64 (cpF (fun j => wpS r j 6) f0 (2 ^ nM r)), eI Γ sg 64 (cpF (fun j => nI (dpS j 6)) f1 (2 ^ nM r)), eI Γ sx 64 (cpF (wtS r g) f2 (2 ^ nM r)), ydW Γ h a r] := by
          intro fL49
          induction fL49 with
          | zero => intro g hg hf; exact absurd hf (Nat.not_lt_zero _)
          | succ fL49 ih_L49 =>
            intro g hg hfL49
            refine r_iload_n K dX4_weigh_49 0 rfl ?_
            refine r_aload_n K dX4_weigh_50 3 rfl ?_
            refine r_cVd K dX4_weigh_51 (c_X0_graveCount l Γ h a r (hI)) mX0_graveCount q493 rfl (by decide) rfl rfl 5 rfl [4] [0, 1, 2, 3] rfl rfl [eO so 2 [.ref sw, .ref sg, .ref sx, .int be], eI Γ sw 64 (cpF (fun j => wpS r j 6) f0 (2 ^ nM r)), eI Γ sg 64 (cpF (fun j => nI (dpS j 6)) f1 (2 ^ nM r)), eI Γ sx 64 (cpF (wtS r g) f2 (2 ^ nM r))] rfl [eO so 2 [.ref sw, .ref sg, .ref sx, .int be], eI Γ sw 64 (cpF (fun j => wpS r j 6) f0 (2 ^ nM r)), eI Γ sg 64 (cpF (fun j => nI (dpS j 6)) f1 (2 ^ nM r)), eI Γ sx 64 (cpF (wtS r g) f2 (2 ^ nM r)), ydW Γ h a r] rfl rfl rfl [.int (nI g)] rfl (Nat.le_of_ble_eq_true rfl) ?_
            refine r_ic_geN K dX4_weigh_54 (by omega) (by omega) (fun c54 => ?_) (fun c54 => ?_)
            · obtain rfl : g = nG r := by omega
              refine r_aload_n K dX4_weigh_94 2 rfl ?_
              refine r_iload_n K dX4_weigh_95 1 rfl ?_
              refine r_if_leN K dX4_weigh_96 (by omega) (fun c96 => ?_) (fun c96 => ?_)
              · exact absurd c96 (by omega)
              · refine r_aload_n K dX4_weigh_99 2 rfl ?_
                refine r_get K dX4_weigh_100 (kf := 2) 0 rfl rfl hinX4 (by decide) q103 rfl rfl ?_
                refine r_iload_n K dX4_weigh_103 1 rfl ?_
                refine r_iconst K dX4_weigh_104 (nI 1) (by decide) ?_
                refine r_isubN K dX4_weigh_105 (by omega) ?_
                refine r_aldN K dX4_weigh_106 3 rfl (by first | omega | exact iG_lt (by omega) (by decide) | exact iM_lt (by omega) (by decide)) (by decide) ?_
                refine r_top (y := bestS r) (cpF_in (by omega)) ?_
                refine r_goto K dX4_weigh_107 ?_
                refine r_put K dX4_weigh_111 (kf := 3) (ty := .int) (ws1 := [eO so 2 [.ref sw, .ref sg, .ref sx, .int (bestS r)], eI Γ sw 64 (cpF (fun j => wpS r j 6) f0 (2 ^ nM r)), eI Γ sg 64 (cpF (fun j => nI (dpS j 6)) f1 (2 ^ nM r)), eI Γ sx 64 (cpF (wtS r (nG r)) f2 (2 ^ nM r)), ydW Γ h a r]) 0 rfl rfl hinX4 tyX4 tyX4_ok nmX4 (by decide) q104 rfl (by decide +kernel) rfl rfl (Nat.le_of_ble_eq_true rfl) rfl ?_
                exact hR (cpF (fun j => wpS r j 6) f0 (2 ^ nM r), cpF (fun j => nI (dpS j 6)) f1 (2 ^ nM r), cpF (wtS r (nG r)) f2 (2 ^ nM r)) dX4_weigh_114 (trivial) rfl (weq.rf)
            · refine r_iload_n K dX4_weigh_57 1 rfl ?_
              refine r_iconst K dX4_weigh_58 (nI 1) (by decide) ?_
              refine r_isubN K dX4_weigh_59 (by omega) ?_
              refine r_istore K dX4_weigh_60 (by decide) (lv1 := [(4, .int (nI ((2 ^ nM r) - 1))), (3, .int (nI g)), (2, .int (nI (2 ^ nM r))), (0, .ref so), (1, .ref h)]) rfl ?_
              have L62 : ∀ (fL62 : Nat) (e : Nat), (e ≤ 2 ^ nM r) → e < fL62 → V 62 [(4, .int (nI e - nI 1)), (3, .int (nI g)), (2, .int (nI (2 ^ nM r))), (0, .ref so), (1, .ref h)] [] [eO so 2 [.ref sw, .ref sg, .ref sx, .int be], eI Γ sw 64 (cpF (fun j => wpS r j 6) f0 (2 ^ nM r)), eI Γ sg 64 (cpF (fun j => nI (dpS j 6)) f1 (2 ^ nM r)), eI Γ sx 64 (cpF (cpF (wtS r g) (wtS r (g + 1)) e) f2 (2 ^ nM r)), ydW Γ h a r] := by
                intro fL62
                induction fL62 with
                | zero => intro e he hf; exact absurd hf (Nat.not_lt_zero _)
                | succ fL62 ih_L62 =>
                  intro e he hfL62
                  refine r_iload K dX4_weigh_62 0 rfl ?_
                  refine r_if_lt K dX4_weigh_64 (fun c64 => ?_) (fun c64 => ?_)
                  · obtain rfl : e = 0 := dn_neg (by omega) c64
                    refine r_iincN K dX4_weigh_88 (n := 1) 1 rfl rfl (by decide) (lv1 := [(3, .int (nI (g + 1))), (4, .int (nI 0 - nI 1)), (2, .int (nI (2 ^ nM r))), (0, .ref so), (1, .ref h)]) rfl ?_
                    refine r_goto K dX4_weigh_91 ?_
                    refine r_arr K (f2 := cpF (wtS r (g + 1)) f2 (2 ^ nM r)) (ws1 := [eO so 2 [.ref sw, .ref sg, .ref sx, .int be], eI Γ sw 64 (cpF (fun j => wpS r j 6) f0 (2 ^ nM r)), eI Γ sg 64 (cpF (fun j => nI (dpS j 6)) f1 (2 ^ nM r)), eI Γ sx 64 (cpF (wtS r (g + 1)) f2 (2 ^ nM r)), ydW Γ h a r]) 3 rfl (fun _ _ => by rw [cpF_0]) rfl ?_
                    refine r_lv K [0, 2, 3, 4] rfl ?_
                    exact ih_L49 (g + 1) (by omega) (by omega)
                  · have he1 := dn_pos c64
                    obtain ⟨e, rfl⟩ : ∃ q, e = q + 1 := ⟨e - 1, by omega⟩
                    refine r_lc (lv1 := [(4, .int (nI e)), (3, .int (nI g)), (2, .int (nI (2 ^ nM r))), (0, .ref so), (1, .ref h)]) (by rw [dn_s]) ?_
                    refine r_aload_n K dX4_weigh_67 3 rfl ?_
                    refine r_get K dX4_weigh_68 (kf := 2) 0 rfl rfl hinX4 (by decide) q103 rfl rfl ?_
                    refine r_iload K dX4_weigh_71 0 rfl ?_
                    refine r_aload_n K dX4_weigh_73 3 rfl ?_
                    refine r_aload_n K dX4_weigh_74 4 rfl ?_
                    refine r_iload_n K dX4_weigh_75 1 rfl ?_
                    refine r_iload K dX4_weigh_76 0 rfl ?_
                    refine r_cVd K dX4_weigh_78 (c_X4_bestWith l Γ so sw sg sx be (cpF (fun j => wpS r j 6) f0 (2 ^ nM r)) (cpF (fun j => nI (dpS j 6)) f1 (2 ^ nM r)) (cpF (cpF (wtS r g) (wtS r (g + 1)) (e + 1)) f2 (2 ^ nM r)) h a r g e (hI) (by first | omega | (simp only [daysS_nM, daysS_nG, dayS_nM, dayS_nG, tellS_nM, tellS_nG, aloneTo_nM, aloneTo_nG, nM_M, nG_M, nM_G, nG_G, lv_nM, lv_nG, gnT_nM, gnT_nG] <;> omega)) (by first | assumption | omega) (fun j hj => cpF_in (by omega)) (fun j hj => cpF_in (by omega))) mX4_bestWith q494 rfl (by decide) rfl rfl 5 rfl [0, 1, 2, 3, 4] [] rfl rfl [] rfl [eO so 2 [.ref sw, .ref sg, .ref sx, .int be], eI Γ sw 64 (cpF (fun j => wpS r j 6) f0 (2 ^ nM r)), eI Γ sg 64 (cpF (fun j => nI (dpS j 6)) f1 (2 ^ nM r)), eI Γ sx 64 (cpF (cpF (wtS r g) (wtS r (g + 1)) (e + 1)) f2 (2 ^ nM r)), ydW Γ h a r] rfl rfl rfl [.int (nI e), .ref sx] rfl (Nat.le_of_ble_eq_true rfl) ?_
                    refine r_astN K dX4_weigh_81 (ws1 := [eO so 2 [.ref sw, .ref sg, .ref sx, .int be], eI Γ sw 64 (cpF (fun j => wpS r j 6) f0 (2 ^ nM r)), eI Γ sg 64 (cpF (fun j => nI (dpS j 6)) f1 (2 ^ nM r)), eI Γ sx 64 (upd (cpF (cpF (wtS r g) (wtS r (g + 1)) (e + 1)) f2 (2 ^ nM r)) e (bwL r g (cpF (cpF (wtS r g) (wtS r (g + 1)) (e + 1)) f2 (2 ^ nM r)) e e)), ydW Γ h a r]) 3 rfl (by first | omega | exact iG_lt (by omega) (by decide) | exact iM_lt (by omega) (by decide)) (by decide) rfl ?_
                    refine r_iinc K dX4_weigh_82 0 ((nI e) + (-1)) rfl rfl (by decide) (lv1 := [(4, .int ((nI e) + (-1))), (3, .int (nI g)), (2, .int (nI (2 ^ nM r))), (0, .ref so), (1, .ref h)]) rfl ?_
                    refine r_goto K dX4_weigh_85 ?_
                    refine r_lc (lv1 := [(4, .int (nI e - nI 1)), (3, .int (nI g)), (2, .int (nI (2 ^ nM r))), (0, .ref so), (1, .ref h)]) (by rw [dn_m]) ?_
                    refine r_arr K (f2 := cpF (cpF (wtS r g) (wtS r (g + 1)) e) f2 (2 ^ nM r)) (ws1 := [eO so 2 [.ref sw, .ref sg, .ref sx, .int be], eI Γ sw 64 (cpF (fun j => wpS r j 6) f0 (2 ^ nM r)), eI Γ sg 64 (cpF (fun j => nI (dpS j 6)) f1 (2 ^ nM r)), eI Γ sx 64 (cpF (cpF (wtS r g) (wtS r (g + 1)) e) f2 (2 ^ nM r)), ydW Γ h a r]) 3 rfl (fun j _ => by rw [cpF_up (by omega), bwL_cong (W2 := wtS r g) (fun j hj => by rw [cpF_in (by omega), cpF_in (by omega)]), ← wtS_s, cpF_d]) rfl ?_
                    exact ih_L62 e (by omega) (by omega)
              refine r_lc (lv1 := [(4, .int (nI (2 ^ nM r) - nI 1)), (3, .int (nI g)), (2, .int (nI (2 ^ nM r))), (0, .ref so), (1, .ref h)]) (by rw [pk_sub (by omega)]) ?_
              refine r_arr K (f2 := cpF (cpF (wtS r g) (wtS r (g + 1)) (2 ^ nM r)) f2 (2 ^ nM r)) (ws1 := [eO so 2 [.ref sw, .ref sg, .ref sx, .int be], eI Γ sw 64 (cpF (fun j => wpS r j 6) f0 (2 ^ nM r)), eI Γ sg 64 (cpF (fun j => nI (dpS j 6)) f1 (2 ^ nM r)), eI Γ sx 64 (cpF (cpF (wtS r g) (wtS r (g + 1)) (2 ^ nM r)) f2 (2 ^ nM r)), ydW Γ h a r]) 3 rfl (fun j _ => by unfold cpF; by_cases z : j < 2 ^ nM r <;> simp [z]) rfl ?_
              exact L62 _ (2 ^ nM r) (Nat.le_refl _) (Nat.lt_succ_self _)
        exact L49 _ 0 (Nat.zero_le _) (Nat.lt_succ_self _)
      · refine r_aload_n K dX4_weigh_25 2 rfl ?_
        refine r_get K dX4_weigh_26 (kf := 2) 0 rfl rfl hinX4 (by decide) q103 rfl rfl ?_
        refine r_iload_n K dX4_weigh_29 0 rfl ?_
        refine r_iload_n K dX4_weigh_30 0 rfl ?_
        refine r_if_neN K dX4_weigh_31 (by omega) (fun c31 => ?_) (fun c31 => ?_)
        · refine r_ldc K dX4_weigh_38 q492 ?_
          refine r_top (y := wtS r 0 s) ((wtS_1 c31).symm) ?_
          refine r_astN K dX4_weigh_40 (ws1 := [eO so 2 [.ref sw, .ref sg, .ref sx, .int be], eI Γ sw 64 (cpF (fun j => wpS r j 6) f0 (2 ^ nM r)), eI Γ sg 64 (cpF (fun j => nI (dpS j 6)) f1 (2 ^ nM r)), eI Γ sx 64 (upd (cpF (wtS r 0) f2 s) s (wtS r 0 s)), ydW Γ h a r]) 3 rfl (by first | omega | exact iG_lt (by omega) (by decide) | exact iM_lt (by omega) (by decide)) (by decide) rfl ?_
          refine r_iincN K dX4_weigh_41 (n := 1) 0 rfl rfl (by decide) (lv1 := [(3, .int (nI (s + 1))), (2, .int (nI (2 ^ nM r))), (0, .ref so), (1, .ref h)]) rfl ?_
          refine r_goto K dX4_weigh_44 ?_
          refine r_arr K (f2 := cpF (wtS r 0) f2 (s + 1)) (ws1 := [eO so 2 [.ref sw, .ref sg, .ref sx, .int be], eI Γ sw 64 (cpF (fun j => wpS r j 6) f0 (2 ^ nM r)), eI Γ sg 64 (cpF (fun j => nI (dpS j 6)) f1 (2 ^ nM r)), eI Γ sx 64 (cpF (wtS r 0) f2 (s + 1)), ydW Γ h a r]) 3 rfl (fun _ _ => by rw [← cpF_s]) rfl ?_
          exact ih_L20 (s + 1) (by omega) (by omega)
        · refine r_iconst K dX4_weigh_34 (nI 0) (by decide) ?_
          refine r_goto K dX4_weigh_35 ?_
          refine r_top (y := wtS r 0 s) ((wtS_0 c31).symm) ?_
          refine r_astN K dX4_weigh_40 (ws1 := [eO so 2 [.ref sw, .ref sg, .ref sx, .int be], eI Γ sw 64 (cpF (fun j => wpS r j 6) f0 (2 ^ nM r)), eI Γ sg 64 (cpF (fun j => nI (dpS j 6)) f1 (2 ^ nM r)), eI Γ sx 64 (upd (cpF (wtS r 0) f2 s) s (wtS r 0 s)), ydW Γ h a r]) 3 rfl (by first | omega | exact iG_lt (by omega) (by decide) | exact iM_lt (by omega) (by decide)) (by decide) rfl ?_
          refine r_iincN K dX4_weigh_41 (n := 1) 0 rfl rfl (by decide) (lv1 := [(3, .int (nI (s + 1))), (2, .int (nI (2 ^ nM r))), (0, .ref so), (1, .ref h)]) rfl ?_
          refine r_goto K dX4_weigh_44 ?_
          refine r_arr K (f2 := cpF (wtS r 0) f2 (s + 1)) (ws1 := [eO so 2 [.ref sw, .ref sg, .ref sx, .int be], eI Γ sw 64 (cpF (fun j => wpS r j 6) f0 (2 ^ nM r)), eI Γ sg 64 (cpF (fun j => nI (dpS j 6)) f1 (2 ^ nM r)), eI Γ sx 64 (cpF (wtS r 0) f2 (s + 1)), ydW Γ h a r]) 3 rfl (fun _ _ => by rw [← cpF_s]) rfl ?_
          exact ih_L20 (s + 1) (by omega) (by omega)
  refine r_arr K (f2 := cpF (wtS r 0) f2 0) (ws1 := [eO so 2 [.ref sw, .ref sg, .ref sx, .int be], eI Γ sw 64 (cpF (fun j => wpS r j 6) f0 (2 ^ nM r)), eI Γ sg 64 (cpF (fun j => nI (dpS j 6)) f1 (2 ^ nM r)), eI Γ sx 64 (cpF (wtS r 0) f2 0), ydW Γ h a r]) 3 rfl (fun _ _ => by rw [cpF_0]) rfl ?_
  exact L20 _ 0 (Nat.zero_le _) (Nat.lt_succ_self _)
set_option maxHeartbeats 1000000 in
set_option maxRecDepth 20000 in
theorem c_X4_inches (l : Launch) (Γ : eG) (so : Nat) (sw : Nat) (sg : Nat) (sx : Nat) (be : Int32) (f0 : Nat → Int32) (f1 : Nat → Int32) (f2 : Nat → Int32) (x : Nat) (hb : be + nI 15625 - nI 1 = nI x) (hx : x < 2 ^ 31) : cD l Γ yX4_inches cX4_inches 1 (some .int) 1 [.ref so] [eO so 2 [.ref sw, .ref sg, .ref sx, .int be], eI Γ sw 64 f0, eI Γ sg 64 f1, eI Γ sx 64 f2] (some (.int (nI (x / 15625)))) [eO so 2 [.ref sw, .ref sg, .ref sx, .int be], eI Γ sw 64 f0, eI Γ sg 64 f1, eI Γ sx 64 f2] := by
  refine e_int [(0, .ref so)] (by decide +kernel) (Nat.le_of_ble_eq_true rfl) rfl (fun V K hR => ?_)
  refine r_aload_n K dX4_inches_0 0 rfl ?_
  refine r_get K dX4_inches_1 (kf := 3) 0 rfl rfl hinX4 (by decide) q104 rfl rfl ?_
  refine r_sipush K dX4_inches_4 (nI 15625) (by decide) ?_
  refine r_iadd K dX4_inches_7 ?_
  refine r_iconst K dX4_inches_8 (nI 1) (by decide) ?_
  refine r_isub K dX4_inches_9 ?_
  refine r_top (y := nI x) (hb) ?_
  refine r_sipush K dX4_inches_10 (nI 15625) (by decide) ?_
  refine r_cSd K dX4_inches_13 (c_J9_floorDiv_7cf53 l Γ x 15625 (by first | assumption | omega) (by first | assumption | omega) (by first | assumption | omega)) mJ9_floorDiv_7cf53 q505 rfl (by decide) 4 rfl [] [0, 1, 2, 3] rfl rfl [eO so 2 [.ref sw, .ref sg, .ref sx, .int be], eI Γ sw 64 f0, eI Γ sg 64 f1, eI Γ sx 64 f2] rfl [eO so 2 [.ref sw, .ref sg, .ref sx, .int be], eI Γ sw 64 f0, eI Γ sg 64 f1, eI Γ sx 64 f2] rfl rfl rfl [] rfl (Nat.le_of_ble_eq_true rfl) ?_
  exact hR () dX4_inches_16 (trivial) (e_ri (rfl)) (weq.rf)
set_option maxHeartbeats 1000000 in
set_option maxRecDepth 20000 in
theorem c_X4_graveOf (l : Launch) (Γ : eG) (so : Nat) (sw : Nat) (sg : Nat) (sx : Nat) (be : Int32) (f0 : Nat → Int32) (f1 : Nat → Int32) (f2 : Nat → Int32) (x : Nat) (c : Nat) (m : Nat) (hb : be + nI 15625 - nI 1 = nI x) (hx : x < 2 ^ 31) (hc : nI (x / 15625 * 15625) - be = nI c) (hc1 : c < 15625) (hm : m < 6) : cD l Γ yX4_graveOf cX4_graveOf 3 (some .int) 2 [.ref so, .int (nI m)] [eO so 2 [.ref sw, .ref sg, .ref sx, .int be], eI Γ sw 64 f0, eI Γ sg 64 f1, eI Γ sx 64 f2] (some (.int (nI (c / dgN m % 5)))) [eO so 2 [.ref sw, .ref sg, .ref sx, .int be], eI Γ sw 64 f0, eI Γ sg 64 f1, eI Γ sx 64 f2] := by
  refine e_int [(0, .ref so), (1, .int (nI m))] (by decide +kernel) (Nat.le_of_ble_eq_true rfl) rfl (fun V K hR => ?_)
  have hd := dgN_ok hm
  have hcd : c / dgN m ≤ c := Nat.div_le_self _ _
  refine r_iload_n K dX4_graveOf_0 1 rfl ?_
  refine r_if_ltN K dX4_graveOf_1 (by omega) (fun c1 => ?_) (fun c1 => ?_)
  · exact absurd c1 (by omega)
  · refine r_iload_n K dX4_graveOf_4 1 rfl ?_
    refine r_gets K dX4_graveOf_5 q489 ?_
    refine r_tlen K dX4_graveOf_8 ?_
    refine r_ic_ltN K dX4_graveOf_9 (by omega) (by omega) (fun c9 => ?_) (fun c9 => ?_)
    · refine r_aload_n K dX4_graveOf_15 0 rfl ?_
      refine r_cVd K dX4_graveOf_16 (c_X4_inches l Γ so sw sg sx be f0 f1 f2 x (by first | assumption | omega) (by first | assumption | omega)) mX4_inches q512 rfl (by decide) rfl rfl 4 rfl [0, 1, 2, 3] [] rfl rfl [] rfl [eO so 2 [.ref sw, .ref sg, .ref sx, .int be], eI Γ sw 64 f0, eI Γ sg 64 f1, eI Γ sx 64 f2] rfl rfl rfl [] rfl (Nat.le_of_ble_eq_true rfl) ?_
      refine r_sipush K dX4_graveOf_19 (nI 15625) (by decide) ?_
      refine r_imulN K dX4_graveOf_22 ?_
      refine r_aload_n K dX4_graveOf_23 0 rfl ?_
      refine r_get K dX4_graveOf_24 (kf := 3) 0 rfl rfl hinX4 (by decide) q104 rfl rfl ?_
      refine r_isub K dX4_graveOf_27 ?_
      refine r_top (y := nI c) (hc) ?_
      refine r_istore_n K dX4_graveOf_28 rfl (by decide) (lv1 := [(2, .int (nI c)), (0, .ref so), (1, .int (nI m))]) rfl ?_
      refine r_iload_n K dX4_graveOf_29 0 rfl ?_
      refine r_iconst K dX4_graveOf_30 (nI 1) (by decide) ?_
      refine r_gets K dX4_graveOf_31 q489 ?_
      refine r_iload_n K dX4_graveOf_34 2 rfl ?_
      refine r_tald K dX4_graveOf_35 (by omega) ?_
      refine r_mmax K dX4_graveOf_36 q500 q193 q194 (Nat.le_of_ble_eq_true rfl) (by decide) ?_
      refine r_top (y := nI (dgN m)) (mx1 hd.1 (by omega)) ?_
      refine r_idivN K dX4_graveOf_39 (by omega) (by omega) (by omega) ?_
      refine r_iconst K dX4_graveOf_40 (nI 5) (by decide) ?_
      refine r_iremN K dX4_graveOf_41 (by omega) (by omega) (by omega) ?_
      exact hR () dX4_graveOf_42 (trivial) (e_ri (rfl)) (weq.rf)
    · exact absurd c9 (by omega)
