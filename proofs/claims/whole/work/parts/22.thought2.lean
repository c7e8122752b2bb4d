set_option maxHeartbeats 1000000 in
set_option maxRecDepth 20000 in
theorem c_X5_fewestFor (l : Launch) (Γ : eG) (t : Nat) (hn : Nat) (hm : Nat) (dd : Nat) (sd : Int32) (an : Nat → Nat) (am : Nat → Nat) (r : Nat → Int32) (q : Nat → Int32) (g : Nat) (v : Int32) (n : Nat) (hI : Inv r) (hg : g < nG r) (hn31 : n < 2 ^ 31) : cE l Γ yX5_fewestFor cX5_fewestFor 7 (some .int) 5 [.ref t, .int (nI g), .int v, .int (nI n)] [eO t 3 [.ref hn, .ref hm, .ref dd, .int sd], ydW Γ hn an r, ydW Γ hm am q] (S := Nat → Int32) (fun u => True) (fun u => (some (.int (fwF r g n v (2 ^ nM r))))) (fun u => [eO t 3 [.ref hn, .ref hm, .ref dd, .int sd], ydW Γ hn an r, ydW Γ hm am u]) := by
  refine e_int [(0, .ref t), (1, .int (nI g)), (2, .int v), (3, .int (nI n))] (by decide +kernel) (Nat.le_of_ble_eq_true rfl) rfl (fun V K hR => ?_)
  have h5 := hI.g
  have h6 := hI.m
  have hp6 := pow6 h6
  refine r_bipush K dX5_fewestFor_0 ((-9)) (by decide) ?_
  refine r_istore K dX5_fewestFor_2 (by decide) (lv1 := [(4, .int (-9)), (0, .ref t), (1, .int (nI g)), (2, .int v), (3, .int (nI n))]) rfl ?_
  refine r_iconst K dX5_fewestFor_4 (nI 0) (by decide) ?_
  refine r_istore K dX5_fewestFor_5 (by decide) (lv1 := [(5, .int (nI 0)), (4, .int (-9)), (0, .ref t), (1, .int (nI g)), (2, .int v), (3, .int (nI n))]) rfl ?_
  have L7 : ∀ (fL7 : Nat) (s : Nat) (b : Int32) (q : Nat → Int32), (s ≤ 2 ^ nM r) → (b = fwF r g n v s) → 2 ^ nM r - s < fL7 → V 7 [(5, .int (nI s)), (4, .int b), (0, .ref t), (1, .int (nI g)), (2, .int v), (3, .int (nI n))] [] [eO t 3 [.ref hn, .ref hm, .ref dd, .int sd], ydW Γ hn an r, ydW Γ hm am q] := by
    intro fL7
    induction fL7 with
    | zero => intro s b q hs hb hf; exact absurd hf (Nat.not_lt_zero _)
    | succ fL7 ih_L7 =>
      intro s b q hs hb hfL7
      refine r_iload K dX5_fewestFor_7 0 rfl ?_
      refine r_iconst K dX5_fewestFor_9 (nI 1) (by decide) ?_
      refine r_aload_n K dX5_fewestFor_10 2 rfl ?_
      refine r_get K dX5_fewestFor_11 (kf := 0) 0 rfl rfl hinX5 (by decide) q69 rfl rfl ?_
      refine r_cVd K dX5_fewestFor_14 (c_X0_mournerCount l Γ hn an r (hI)) mX0_mournerCount q521 rfl (by decide) rfl rfl 3 rfl [1] [0, 2] rfl rfl [eO t 3 [.ref hn, .ref hm, .ref dd, .int sd], ydW Γ hm am q] rfl [eO t 3 [.ref hn, .ref hm, .ref dd, .int sd], ydW Γ hn an r, ydW Γ hm am q] rfl rfl rfl [.int (nI 1), .int (nI s)] rfl (Nat.le_of_ble_eq_true rfl) ?_
      refine r_ishl K dX5_fewestFor_17 ?_
      refine r_top (y := nI (2 ^ nM r)) (sh1 (by omega)) ?_
      refine r_ic_geN K dX5_fewestFor_18 (by omega) (by omega) (fun c18 => ?_) (fun c18 => ?_)
      · have es : s = 2 ^ nM r := by omega
        rw [es] at hb
        refine r_iload K dX5_fewestFor_75 1 rfl ?_
        exact hR q dX5_fewestFor_77 (trivial) (e_ri (hb.symm)) (weq.rf)
      · refine r_iload K dX5_fewestFor_21 1 rfl ?_
        refine r_bipush K dX5_fewestFor_23 ((-9)) (by decide) ?_
        refine r_ic_eq K dX5_fewestFor_25 (fun c25 => ?_) (fun c25 => ?_)
        · have hf : fwF r g n v s = -9 ∨ pop6 s < pop6 (ix (fwF r g n v s)) := Or.inl (hb.symm.trans c25)
          refine r_iconst K dX5_fewestFor_41 (nI 1) (by decide) ?_
          refine r_goto K dX5_fewestFor_42 ?_
          refine r_istore K dX5_fewestFor_46 (by decide) (lv1 := [(6, .int (nI 1)), (5, .int (nI s)), (4, .int b), (0, .ref t), (1, .int (nI g)), (2, .int v), (3, .int (nI n))]) rfl ?_
          refine r_iload K dX5_fewestFor_48 0 rfl ?_
          refine r_if_eqN K dX5_fewestFor_50 (by omega) (fun c50 => ?_) (fun c50 => ?_)
          · exact absurd c50 (by omega)
          · refine r_aload_n K dX5_fewestFor_53 3 rfl ?_
            refine r_iload K dX5_fewestFor_54 1 rfl ?_
            refine r_iload_n K dX5_fewestFor_56 4 rfl ?_
            refine r_iload_n K dX5_fewestFor_57 6 rfl ?_
            refine r_cV K dX5_fewestFor_58 (c_X5_depthBy l Γ t hn hm dd sd an am r q s g n (hI) (by first | assumption | omega) (by first | omega | (simp only [daysS_nM, daysS_nG, dayS_nM, dayS_nG, tellS_nM, tellS_nG, aloneTo_nM, aloneTo_nG, nM_M, nG_M, nM_G, nG_G, lv_nM, lv_nG, gnT_nM, gnT_nG] <;> omega)) (by first | assumption | omega)) mX5_depthBy q528 rfl (by decide) rfl rfl 3 rfl [0, 1, 2] [] rfl rfl [] rfl (fun u => [eO t 3 [.ref hn, .ref hm, .ref dd, .int sd], ydW Γ hn an r, ydW Γ hm am u]) (fun _ => rfl) (fun _ => rfl) (fun _ => rfl) [] rfl (Nat.le_of_ble_eq_true rfl) (fun u1 hu2 => ?_)
            show V 61 _ [.int (depS r s g n)] [eO t 3 [.ref hn, .ref hm, .ref dd, .int sd], ydW Γ hn an r, ydW Γ hm am u1]
            refine r_iload_n K dX5_fewestFor_61 5 rfl ?_
            refine r_ic_lt K dX5_fewestFor_62 (fun c62 => ?_) (fun c62 => ?_)
            · refine r_iincN K dX5_fewestFor_69 (n := 1) 1 rfl rfl (by decide) (lv1 := [(5, .int (nI (s + 1))), (6, .int (nI 1)), (4, .int b), (0, .ref t), (1, .int (nI g)), (2, .int v), (3, .int (nI n))]) rfl ?_
              refine r_goto K dX5_fewestFor_72 ?_
              refine r_lv K [0, 2, 3, 4, 5, 6] rfl ?_
              exact ih_L7 (s + 1) b u1 (by omega) (by rw [hb]; exact (fwF_n (fun z => absurd z.2 (Int32.not_le.mpr c62))).symm) (by omega)
            · refine r_iload K dX5_fewestFor_65 1 rfl ?_
              refine r_istore K dX5_fewestFor_67 (by decide) (lv1 := [(4, .int (nI s)), (6, .int (nI 1)), (5, .int (nI s)), (0, .ref t), (1, .int (nI g)), (2, .int v), (3, .int (nI n))]) rfl ?_
              refine r_iincN K dX5_fewestFor_69 (n := 1) 2 rfl rfl (by decide) (lv1 := [(5, .int (nI (s + 1))), (4, .int (nI s)), (6, .int (nI 1)), (0, .ref t), (1, .int (nI g)), (2, .int v), (3, .int (nI n))]) rfl ?_
              refine r_goto K dX5_fewestFor_72 ?_
              refine r_lv K [0, 1, 3, 4, 5, 6] rfl ?_
              exact ih_L7 (s + 1) (nI s) u1 (by omega) ((fwF_t ⟨hf, Int32.not_lt.mp c62⟩).symm) (by omega)
        · refine r_iload K dX5_fewestFor_28 0 rfl ?_
          refine r_cSd K dX5_fewestFor_30 (c_J6_bitCount_0f7a4 l Γ s (by first | assumption | omega)) mJ6_bitCount_0f7a4 q522 rfl (by decide) 3 rfl [] [0, 1, 2] rfl rfl [eO t 3 [.ref hn, .ref hm, .ref dd, .int sd], ydW Γ hn an r, ydW Γ hm am q] rfl [eO t 3 [.ref hn, .ref hm, .ref dd, .int sd], ydW Γ hn an r, ydW Γ hm am q] rfl rfl rfl [] rfl (Nat.le_of_ble_eq_true rfl) ?_
          obtain ⟨j, hj, ej⟩ : ∃ j, j < s ∧ b = nI j := by
            rcases fwF_cases r g n v s with z | z
            · exact absurd (hb.trans z) c25
            · rw [← hb] at z; exact z
          refine r_lc (lv1 := [(5, .int (nI s)), (4, .int (nI j)), (0, .ref t), (1, .int (nI g)), (2, .int v), (3, .int (nI n))]) (by rw [ej]) ?_
          refine r_iload K dX5_fewestFor_33 1 rfl ?_
          refine r_cSd K dX5_fewestFor_35 (c_J6_bitCount_0f7a4 l Γ j (by first | assumption | omega)) mJ6_bitCount_0f7a4 q522 rfl (by decide) 3 rfl [] [0, 1, 2] rfl rfl [eO t 3 [.ref hn, .ref hm, .ref dd, .int sd], ydW Γ hn an r, ydW Γ hm am q] rfl [eO t 3 [.ref hn, .ref hm, .ref dd, .int sd], ydW Γ hn an r, ydW Γ hm am q] rfl rfl rfl [.int (nI (pop6 s))] rfl (Nat.le_of_ble_eq_true rfl) ?_
          have hpj : pop6 j ≤ 7 := by unfold pop6; omega
          have hps : pop6 s ≤ 7 := by unfold pop6; omega
          refine r_ic_geN K dX5_fewestFor_38 (by omega) (by omega) (fun c38 => ?_) (fun c38 => ?_)
          · have hf : ¬ (fwF r g n v s = -9 ∨ pop6 s < pop6 (ix (fwF r g n v s))) := fun z => z.elim (fun y => c25 (hb.trans y)) (fun y => by rw [← hb, ej, ix_nI (by omega)] at y; omega)
            refine r_iconst K dX5_fewestFor_45 (nI 0) (by decide) ?_
            refine r_istore K dX5_fewestFor_46 (by decide) (lv1 := [(6, .int (nI 0)), (5, .int (nI s)), (4, .int (nI j)), (0, .ref t), (1, .int (nI g)), (2, .int v), (3, .int (nI n))]) rfl ?_
            refine r_iload K dX5_fewestFor_48 0 rfl ?_
            refine r_if_eqN K dX5_fewestFor_50 (by omega) (fun c50 => ?_) (fun c50 => ?_)
            · refine r_iincN K dX5_fewestFor_69 (n := 1) 1 rfl rfl (by decide) (lv1 := [(5, .int (nI (s + 1))), (6, .int (nI 0)), (4, .int (nI j)), (0, .ref t), (1, .int (nI g)), (2, .int v), (3, .int (nI n))]) rfl ?_
              refine r_goto K dX5_fewestFor_72 ?_
              refine r_lv K [0, 2, 3, 4, 5, 6] rfl ?_
              exact ih_L7 (s + 1) (nI j) q (by omega) (by rw [← ej, hb]; exact (fwF_n (fun z => hf z.1)).symm) (by omega)
            · exact absurd c50 (by omega)
          · have hf : fwF r g n v s = -9 ∨ pop6 s < pop6 (ix (fwF r g n v s)) := Or.inr (by rw [← hb, ej, ix_nI (by omega)]; exact c38)
            refine r_iconst K dX5_fewestFor_41 (nI 1) (by decide) ?_
            refine r_goto K dX5_fewestFor_42 ?_
            refine r_istore K dX5_fewestFor_46 (by decide) (lv1 := [(6, .int (nI 1)), (5, .int (nI s)), (4, .int (nI j)), (0, .ref t), (1, .int (nI g)), (2, .int v), (3, .int (nI n))]) rfl ?_
            refine r_iload K dX5_fewestFor_48 0 rfl ?_
            refine r_if_eqN K dX5_fewestFor_50 (by omega) (fun c50 => ?_) (fun c50 => ?_)
            · exact absurd c50 (by omega)
            · refine r_aload_n K dX5_fewestFor_53 3 rfl ?_
              refine r_iload K dX5_fewestFor_54 1 rfl ?_
              refine r_iload_n K dX5_fewestFor_56 4 rfl ?_
              refine r_iload_n K dX5_fewestFor_57 6 rfl ?_
              refine r_cV K dX5_fewestFor_58 (c_X5_depthBy l Γ t hn hm dd sd an am r q s g n (hI) (by first | assumption | omega) (by first | omega | (simp only [daysS_nM, daysS_nG, dayS_nM, dayS_nG, tellS_nM, tellS_nG, aloneTo_nM, aloneTo_nG, nM_M, nG_M, nM_G, nG_G, lv_nM, lv_nG, gnT_nM, gnT_nG] <;> omega)) (by first | assumption | omega)) mX5_depthBy q528 rfl (by decide) rfl rfl 3 rfl [0, 1, 2] [] rfl rfl [] rfl (fun u => [eO t 3 [.ref hn, .ref hm, .ref dd, .int sd], ydW Γ hn an r, ydW Γ hm am u]) (fun _ => rfl) (fun _ => rfl) (fun _ => rfl) [] rfl (Nat.le_of_ble_eq_true rfl) (fun u3 hu4 => ?_)
              show V 61 _ [.int (depS r s g n)] [eO t 3 [.ref hn, .ref hm, .ref dd, .int sd], ydW Γ hn an r, ydW Γ hm am u3]
              refine r_iload_n K dX5_fewestFor_61 5 rfl ?_
              refine r_ic_lt K dX5_fewestFor_62 (fun c62 => ?_) (fun c62 => ?_)
              · refine r_iincN K dX5_fewestFor_69 (n := 1) 1 rfl rfl (by decide) (lv1 := [(5, .int (nI (s + 1))), (6, .int (nI 1)), (4, .int (nI j)), (0, .ref t), (1, .int (nI g)), (2, .int v), (3, .int (nI n))]) rfl ?_
                refine r_goto K dX5_fewestFor_72 ?_
                refine r_lv K [0, 2, 3, 4, 5, 6] rfl ?_
                exact ih_L7 (s + 1) (nI j) u3 (by omega) (by rw [← ej, hb]; exact (fwF_n (fun z => absurd z.2 (Int32.not_le.mpr c62))).symm) (by omega)
              · refine r_iload K dX5_fewestFor_65 1 rfl ?_
                refine r_istore K dX5_fewestFor_67 (by decide) (lv1 := [(4, .int (nI s)), (6, .int (nI 1)), (5, .int (nI s)), (0, .ref t), (1, .int (nI g)), (2, .int v), (3, .int (nI n))]) rfl ?_
                refine r_iincN K dX5_fewestFor_69 (n := 1) 2 rfl rfl (by decide) (lv1 := [(5, .int (nI (s + 1))), (4, .int (nI s)), (6, .int (nI 1)), (0, .ref t), (1, .int (nI g)), (2, .int v), (3, .int (nI n))]) rfl ?_
                refine r_goto K dX5_fewestFor_72 ?_
                refine r_lv K [0, 1, 3, 4, 5, 6] rfl ?_
                exact ih_L7 (s + 1) (nI s) u3 (by omega) ((fwF_t ⟨hf, Int32.not_lt.mp c62⟩).symm) (by omega)
  exact L7 _ 0 (-9) q (Nat.zero_le _) (rfl) (Nat.lt_succ_self _)
set_option maxHeartbeats 1000000 in
set_option maxRecDepth 20000 in
theorem c_X5_whomToTell (l : Launch) (Γ : eG) (t : Nat) (hn : Nat) (hm : Nat) (dd : Nat) (sd : Int32) (an : Nat → Nat) (am : Nat → Nat) (r : Nat → Int32) (q : Nat → Int32) (n : Nat) (hI : Inv r) (hn31 : n < 2 ^ 31) : cE l Γ yX5_whomToTell cX5_whomToTell 6 (some .int) 5 [.ref t, .int (nI n)] [eO t 3 [.ref hn, .ref hm, .ref dd, .int sd], ydW Γ hn an r, ydW Γ hm am q] (S := Nat → Int32) (fun u => True) (fun u => (some (.int ((amF (tellV r n) (incS (daysS r n)) (nM r)).2)))) (fun u => [eO t 3 [.ref hn, .ref hm, .ref dd, .int sd], ydW Γ hn an r, ydW Γ hm am u]) := by
  refine e_int [(0, .ref t), (1, .int (nI n))] (by decide +kernel) (Nat.le_of_ble_eq_true rfl) rfl (fun V K hR => ?_)
  have h5 := hI.g
  have h6 := hI.m
  refine r_aload_n K dX5_whomToTell_0 0 rfl ?_
  refine r_iload_n K dX5_whomToTell_1 1 rfl ?_
  refine r_cVd K dX5_whomToTell_2 (c_X5_after l Γ t hn hm dd sd an am r q n (hI) (by first | assumption | omega)) mX5_after q541 rfl (by decide) rfl rfl 3 rfl [0, 1, 2] [] rfl rfl [] rfl [eO t 3 [.ref hn, .ref hm, .ref dd, .int sd], ydW Γ hn an r, ydW Γ hm am (daysS r n)] rfl rfl rfl [] rfl (Nat.le_of_ble_eq_true rfl) ?_
  refine r_cVd K dX5_whomToTell_5 (c_X0_allInchesS l Γ hm am (daysS r n) (Inv_daysS (hI) n)) mX0_allInches q542 rfl (by decide) rfl rfl 3 rfl [2] [0, 1] rfl rfl [eO t 3 [.ref hn, .ref hm, .ref dd, .int sd], ydW Γ hn an r] rfl [eO t 3 [.ref hn, .ref hm, .ref dd, .int sd], ydW Γ hn an r, ydW Γ hm am (daysS r n)] rfl rfl rfl [] rfl (Nat.le_of_ble_eq_true rfl) ?_
  refine r_istore_n K dX5_whomToTell_8 rfl (by decide) (lv1 := [(2, .int (incS (daysS r n))), (0, .ref t), (1, .int (nI n))]) rfl ?_
  refine r_bipush K dX5_whomToTell_9 ((-9)) (by decide) ?_
  refine r_istore_n K dX5_whomToTell_11 rfl (by decide) (lv1 := [(3, .int (-9)), (2, .int (incS (daysS r n))), (0, .ref t), (1, .int (nI n))]) rfl ?_
  refine r_iconst K dX5_whomToTell_12 (nI 0) (by decide) ?_
  refine r_istore K dX5_whomToTell_13 (by decide) (lv1 := [(4, .int (nI 0)), (3, .int (-9)), (2, .int (incS (daysS r n))), (0, .ref t), (1, .int (nI n))]) rfl ?_
  have L15 : ∀ (fL15 : Nat) (k : Nat) (m : Int32) (b : Int32) (q : Nat → Int32), (k ≤ nM r) → (m = (amF (tellV r n) (incS (daysS r n)) k).1) → (b = (amF (tellV r n) (incS (daysS r n)) k).2) → nM r - k < fL15 → V 15 [(4, .int (nI k)), (2, .int m), (3, .int b), (0, .ref t), (1, .int (nI n))] [] [eO t 3 [.ref hn, .ref hm, .ref dd, .int sd], ydW Γ hn an r, ydW Γ hm am q] := by
    intro fL15
    induction fL15 with
    | zero => intro k m b q hk hm1 hb1 hf; exact absurd hf (Nat.not_lt_zero _)
    | succ fL15 ih_L15 =>
      intro k m b q hk hm1 hb1 hfL15
      refine r_iload K dX5_whomToTell_15 0 rfl ?_
      refine r_aload_n K dX5_whomToTell_17 3 rfl ?_
      refine r_get K dX5_whomToTell_18 (kf := 0) 0 rfl rfl hinX5 (by decide) q69 rfl rfl ?_
      refine r_cVd K dX5_whomToTell_21 (c_X0_mournerCount l Γ hn an r (hI)) mX0_mournerCount q521 rfl (by decide) rfl rfl 3 rfl [1] [0, 2] rfl rfl [eO t 3 [.ref hn, .ref hm, .ref dd, .int sd], ydW Γ hm am q] rfl [eO t 3 [.ref hn, .ref hm, .ref dd, .int sd], ydW Γ hn an r, ydW Γ hm am q] rfl rfl rfl [.int (nI k)] rfl (Nat.le_of_ble_eq_true rfl) ?_
      refine r_ic_geN K dX5_whomToTell_24 (by omega) (by omega) (fun c24 => ?_) (fun c24 => ?_)
      · obtain rfl : k = nM r := by omega
        refine r_iload_n K dX5_whomToTell_82 2 rfl ?_
        exact hR q dX5_whomToTell_83 (trivial) (e_ri (hb1.symm)) (weq.rf)
      · refine r_aload_n K dX5_whomToTell_27 3 rfl ?_
        refine r_get K dX5_whomToTell_28 (kf := 1) 0 rfl rfl hinX5 (by decide) q70 rfl rfl ?_
        refine r_aload_n K dX5_whomToTell_31 3 rfl ?_
        refine r_get K dX5_whomToTell_32 (kf := 0) 0 rfl rfl hinX5 (by decide) q69 rfl rfl ?_
        refine r_cVn K dX5_whomToTell_35 (c_X0_become l Γ hm am q hn an r) mX0_become q413 rfl (by decide) rfl rfl 3 rfl [2, 1] [0] rfl rfl [eO t 3 [.ref hn, .ref hm, .ref dd, .int sd]] rfl [eO t 3 [.ref hn, .ref hm, .ref dd, .int sd], ydW Γ hn an r, ydW Γ hm am r] rfl rfl rfl [] rfl (Nat.le_of_ble_eq_true rfl) ?_
        refine r_aload_n K dX5_whomToTell_38 3 rfl ?_
        refine r_get K dX5_whomToTell_39 (kf := 1) 0 rfl rfl hinX5 (by decide) q70 rfl rfl ?_
        refine r_iload K dX5_whomToTell_42 0 rfl ?_
        refine r_cVn K dX5_whomToTell_44 (c_X0_informN l Γ hm am r k (hI) (by first | omega | (simp only [daysS_nM, daysS_nG, dayS_nM, dayS_nG, tellS_nM, tellS_nG, aloneTo_nM, aloneTo_nG, nM_M, nG_M, nM_G, nG_G, lv_nM, lv_nG, gnT_nM, gnT_nG] <;> omega))) mX0_inform q546 rfl (by decide) rfl rfl 3 rfl [2] [0, 1] rfl rfl [eO t 3 [.ref hn, .ref hm, .ref dd, .int sd], ydW Γ hn an r] rfl [eO t 3 [.ref hn, .ref hm, .ref dd, .int sd], ydW Γ hn an r, ydW Γ hm am (tellS r k)] rfl rfl rfl [] rfl (Nat.le_of_ble_eq_true rfl) ?_
        refine r_aload_n K dX5_whomToTell_47 3 rfl ?_
        refine r_get K dX5_whomToTell_48 (kf := 1) 0 rfl rfl hinX5 (by decide) q70 rfl rfl ?_
        refine r_iload_n K dX5_whomToTell_51 4 rfl ?_
        refine r_cVn K dX5_whomToTell_52 (c_X0_passDays l Γ hm am (tellS r k) n (Inv_tellS (hI) (by first | omega | (simp only [daysS_nM, daysS_nG, dayS_nM, dayS_nG, tellS_nM, tellS_nG, aloneTo_nM, aloneTo_nG, nM_M, nG_M, nM_G, nG_G, lv_nM, lv_nG, gnT_nM, gnT_nG] <;> omega))) (by first | assumption | omega)) mX0_passDays q414 rfl (by decide) rfl rfl 3 rfl [2] [0, 1] rfl rfl [eO t 3 [.ref hn, .ref hm, .ref dd, .int sd], ydW Γ hn an r] rfl [eO t 3 [.ref hn, .ref hm, .ref dd, .int sd], ydW Γ hn an r, ydW Γ hm am (daysS (tellS r k) n)] rfl rfl rfl [] rfl (Nat.le_of_ble_eq_true rfl) ?_
        refine r_aload_n K dX5_whomToTell_55 3 rfl ?_
        refine r_get K dX5_whomToTell_56 (kf := 1) 0 rfl rfl hinX5 (by decide) q70 rfl rfl ?_
        refine r_cVd K dX5_whomToTell_59 (c_X0_allInchesS l Γ hm am (daysS (tellS r k) n) (Inv_daysS (Inv_tellS (hI) (by first | omega | (simp only [daysS_nM, daysS_nG, dayS_nM, dayS_nG, tellS_nM, tellS_nG, aloneTo_nM, aloneTo_nG, nM_M, nG_M, nM_G, nG_G, lv_nM, lv_nG, gnT_nM, gnT_nG] <;> omega))) n)) mX0_allInches q542 rfl (by decide) rfl rfl 3 rfl [2] [0, 1] rfl rfl [eO t 3 [.ref hn, .ref hm, .ref dd, .int sd], ydW Γ hn an r] rfl [eO t 3 [.ref hn, .ref hm, .ref dd, .int sd], ydW Γ hn an r, ydW Γ hm am (daysS (tellS r k) n)] rfl rfl rfl [] rfl (Nat.le_of_ble_eq_true rfl) ?_
        refine r_istore K dX5_whomToTell_62 (by decide) (lv1 := [(5, .int (incS (daysS (tellS r k) n))), (4, .int (nI k)), (2, .int m), (3, .int b), (0, .ref t), (1, .int (nI n))]) rfl ?_
        refine r_iload K dX5_whomToTell_64 0 rfl ?_
        refine r_iload_n K dX5_whomToTell_66 2 rfl ?_
        refine r_ic_le K dX5_whomToTell_67 (fun c67 => ?_) (fun c67 => ?_)
        · refine r_iincN K dX5_whomToTell_76 (n := 1) 1 rfl rfl (by decide) (lv1 := [(4, .int (nI (k + 1))), (5, .int (incS (daysS (tellS r k) n))), (2, .int m), (3, .int b), (0, .ref t), (1, .int (nI n))]) rfl ?_
          refine r_goto K dX5_whomToTell_79 ?_
          refine r_lv K [0, 2, 3, 4, 5] rfl ?_
          exact ih_L15 (k + 1) m b (daysS (tellS r k) n) (by omega) (by rw [hm1, amF_n (fun z => absurd (show (amF (tellV r n) (incS (daysS r n)) k).1 < tellV r n k from z) (by rw [← hm1]; exact Int32.not_lt.mpr c67))]) (by rw [hb1, amF_n (fun z => absurd (show (amF (tellV r n) (incS (daysS r n)) k).1 < tellV r n k from z) (by rw [← hm1]; exact Int32.not_lt.mpr c67))]) (by omega)
        · refine r_iload K dX5_whomToTell_70 0 rfl ?_
          refine r_istore_n K dX5_whomToTell_72 rfl (by decide) (lv1 := [(2, .int (incS (daysS (tellS r k) n))), (5, .int (incS (daysS (tellS r k) n))), (4, .int (nI k)), (3, .int b), (0, .ref t), (1, .int (nI n))]) rfl ?_
          refine r_iload K dX5_whomToTell_73 2 rfl ?_
          refine r_istore_n K dX5_whomToTell_75 rfl (by decide) (lv1 := [(3, .int (nI k)), (2, .int (incS (daysS (tellS r k) n))), (5, .int (incS (daysS (tellS r k) n))), (4, .int (nI k)), (0, .ref t), (1, .int (nI n))]) rfl ?_
          refine r_iincN K dX5_whomToTell_76 (n := 1) 3 rfl rfl (by decide) (lv1 := [(4, .int (nI (k + 1))), (3, .int (nI k)), (2, .int (incS (daysS (tellS r k) n))), (5, .int (incS (daysS (tellS r k) n))), (0, .ref t), (1, .int (nI n))]) rfl ?_
          refine r_goto K dX5_whomToTell_79 ?_
          refine r_lv K [0, 2, 1, 4, 5] rfl ?_
          exact ih_L15 (k + 1) (incS (daysS (tellS r k) n)) (nI k) (daysS (tellS r k) n) (by omega) (by rw [amF_t (show (amF (tellV r n) (incS (daysS r n)) k).1 < tellV r n k from by rw [← hm1]; exact Int32.not_le.mp c67)]; rfl) (by rw [amF_t (show (amF (tellV r n) (incS (daysS r n)) k).1 < tellV r n k from by rw [← hm1]; exact Int32.not_le.mp c67)]) (by omega)
  refine r_lv K [0, 2, 1, 3, 4] rfl ?_
  exact L15 _ 0 (incS (daysS r n)) (-9) (daysS r n) (Nat.zero_le _) (rfl) (rfl) (Nat.lt_succ_self _)
set_option maxHeartbeats 1000000 in
set_option maxRecDepth 20000 in
theorem c_X5_whereToBring (l : Launch) (Γ : eG) (t : Nat) (hn : Nat) (hm : Nat) (dd : Nat) (sd : Int32) (an : Nat → Nat) (am : Nat → Nat) (r : Nat → Int32) (q : Nat → Int32) (p : Nat) (n : Nat) (hI : Inv r) (hp : p < nM r) (hn31 : n < 2 ^ 31) : cE l Γ yX5_whereToBring cX5_whereToBring 7 (some .int) 5 [.ref t, .int (nI p), .int (nI n)] [eO t 3 [.ref hn, .ref hm, .ref dd, .int sd], ydW Γ hn an r, ydW Γ hm am q] (S := Nat → Int32) (fun u => True) (fun u => (some (.int ((amF (bringV r p n) (payS (daysS r n)) (nG r)).2)))) (fun u => [eO t 3 [.ref hn, .ref hm, .ref dd, .int sd], ydW Γ hn an r, ydW Γ hm am u]) := by
  refine e_int [(0, .ref t), (1, .int (nI p)), (2, .int (nI n))] (by decide +kernel) (Nat.le_of_ble_eq_true rfl) rfl (fun V K hR => ?_)
  have h5 := hI.g
  have h6 := hI.m
  refine r_aload_n K dX5_whereToBring_0 0 rfl ?_
  refine r_iload_n K dX5_whereToBring_1 2 rfl ?_
  refine r_cVd K dX5_whereToBring_2 (c_X5_after l Γ t hn hm dd sd an am r q n (hI) (by first | assumption | omega)) mX5_after q541 rfl (by decide) rfl rfl 3 rfl [0, 1, 2] [] rfl rfl [] rfl [eO t 3 [.ref hn, .ref hm, .ref dd, .int sd], ydW Γ hn an r, ydW Γ hm am (daysS r n)] rfl rfl rfl [] rfl (Nat.le_of_ble_eq_true rfl) ?_
  refine r_cVd K dX5_whereToBring_5 (c_X0_allPayS l Γ hm am (daysS r n) (Inv_daysS (hI) n)) mX0_allPay q569 rfl (by decide) rfl rfl 3 rfl [2] [0, 1] rfl rfl [eO t 3 [.ref hn, .ref hm, .ref dd, .int sd], ydW Γ hn an r] rfl [eO t 3 [.ref hn, .ref hm, .ref dd, .int sd], ydW Γ hn an r, ydW Γ hm am (daysS r n)] rfl rfl rfl [] rfl (Nat.le_of_ble_eq_true rfl) ?_
  refine r_istore_n K dX5_whereToBring_8 rfl (by decide) (lv1 := [(3, .int (payS (daysS r n))), (0, .ref t), (1, .int (nI p)), (2, .int (nI n))]) rfl ?_
  refine r_bipush K dX5_whereToBring_9 ((-9)) (by decide) ?_
  refine r_istore K dX5_whereToBring_11 (by decide) (lv1 := [(4, .int (-9)), (3, .int (payS (daysS r n))), (0, .ref t), (1, .int (nI p)), (2, .int (nI n))]) rfl ?_
  refine r_iconst K dX5_whereToBring_13 (nI 0) (by decide) ?_
  refine r_istore K dX5_whereToBring_14 (by decide) (lv1 := [(5, .int (nI 0)), (4, .int (-9)), (3, .int (payS (daysS r n))), (0, .ref t), (1, .int (nI p)), (2, .int (nI n))]) rfl ?_
  have L16 : ∀ (fL16 : Nat) (k : Nat) (m : Int32) (b : Int32) (q : Nat → Int32), (k ≤ nG r) → (m = (amF (bringV r p n) (payS (daysS r n)) k).1) → (b = (amF (bringV r p n) (payS (daysS r n)) k).2) → nG r - k < fL16 → V 16 [(5, .int (nI k)), (3, .int m), (4, .int b), (0, .ref t), (1, .int (nI p)), (2, .int (nI n))] [] [eO t 3 [.ref hn, .ref hm, .ref dd, .int sd], ydW Γ hn an r, ydW Γ hm am q] := by
    intro fL16
    induction fL16 with
    | zero => intro k m b q hk hm1 hb1 hf; exact absurd hf (Nat.not_lt_zero _)
    | succ fL16 ih_L16 =>
      intro k m b q hk hm1 hb1 hfL16
      refine r_iload K dX5_whereToBring_16 0 rfl ?_
      refine r_aload_n K dX5_whereToBring_18 3 rfl ?_
      refine r_get K dX5_whereToBring_19 (kf := 0) 0 rfl rfl hinX5 (by decide) q69 rfl rfl ?_
      refine r_cVd K dX5_whereToBring_22 (c_X0_graveCount l Γ hn an r (hI)) mX0_graveCount q449 rfl (by decide) rfl rfl 3 rfl [1] [0, 2] rfl rfl [eO t 3 [.ref hn, .ref hm, .ref dd, .int sd], ydW Γ hm am q] rfl [eO t 3 [.ref hn, .ref hm, .ref dd, .int sd], ydW Γ hn an r, ydW Γ hm am q] rfl rfl rfl [.int (nI k)] rfl (Nat.le_of_ble_eq_true rfl) ?_
      refine r_ic_geN K dX5_whereToBring_25 (by omega) (by omega) (fun c25 => ?_) (fun c25 => ?_)
      · obtain rfl : k = nG r := by omega
        refine r_iload K dX5_whereToBring_85 2 rfl ?_
        exact hR q dX5_whereToBring_87 (trivial) (e_ri (hb1.symm)) (weq.rf)
      · refine r_aload_n K dX5_whereToBring_28 3 rfl ?_
        refine r_get K dX5_whereToBring_29 (kf := 1) 0 rfl rfl hinX5 (by decide) q70 rfl rfl ?_
        refine r_aload_n K dX5_whereToBring_32 3 rfl ?_
        refine r_get K dX5_whereToBring_33 (kf := 0) 0 rfl rfl hinX5 (by decide) q69 rfl rfl ?_
        refine r_cVn K dX5_whereToBring_36 (c_X0_become l Γ hm am q hn an r) mX0_become q413 rfl (by decide) rfl rfl 3 rfl [2, 1] [0] rfl rfl [eO t 3 [.ref hn, .ref hm, .ref dd, .int sd]] rfl [eO t 3 [.ref hn, .ref hm, .ref dd, .int sd], ydW Γ hn an r, ydW Γ hm am r] rfl rfl rfl [] rfl (Nat.le_of_ble_eq_true rfl) ?_
        refine r_aload_n K dX5_whereToBring_39 3 rfl ?_
        refine r_get K dX5_whereToBring_40 (kf := 1) 0 rfl rfl hinX5 (by decide) q70 rfl rfl ?_
        refine r_iload_n K dX5_whereToBring_43 4 rfl ?_
        refine r_iload K dX5_whereToBring_44 0 rfl ?_
        refine r_cVn K dX5_whereToBring_46 (c_X0_place l Γ hm am r (nI p) (nI k) (hI)) mX0_place q532 rfl (by decide) rfl rfl 3 rfl [2] [0, 1] rfl rfl [eO t 3 [.ref hn, .ref hm, .ref dd, .int sd], ydW Γ hn an r] rfl [eO t 3 [.ref hn, .ref hm, .ref dd, .int sd], ydW Γ hn an r, ydW Γ hm am (setM r 3 (nI p) (nI k))] rfl rfl rfl [] rfl (Nat.le_of_ble_eq_true rfl) ?_
        refine r_ws K (ws1 := [eO t 3 [.ref hn, .ref hm, .ref dd, .int sd], ydW Γ hn an r, ydW Γ hm am (upd r (iM p 3) (nI k))]) (by rw [setM_N (by omega) (by omega)]; exact weq.rf) ?_
        refine r_aload_n K dX5_whereToBring_49 3 rfl ?_
        refine r_get K dX5_whereToBring_50 (kf := 1) 0 rfl rfl hinX5 (by decide) q70 rfl rfl ?_
        refine r_iload_n K dX5_whereToBring_53 5 rfl ?_
        refine r_cVn K dX5_whereToBring_54 (c_X0_passDays l Γ hm am (upd r (iM p 3) (nI k)) n (Inv_at (hI) (Or.inr ⟨k, by first | omega | (simp only [daysS_nM, daysS_nG, dayS_nM, dayS_nG, tellS_nM, tellS_nG, aloneTo_nM, aloneTo_nG, nM_M, nG_M, nM_G, nG_G, lv_nM, lv_nG, gnT_nM, gnT_nG] <;> omega), rfl⟩)) (by first | assumption | omega)) mX0_passDays q414 rfl (by decide) rfl rfl 3 rfl [2] [0, 1] rfl rfl [eO t 3 [.ref hn, .ref hm, .ref dd, .int sd], ydW Γ hn an r] rfl [eO t 3 [.ref hn, .ref hm, .ref dd, .int sd], ydW Γ hn an r, ydW Γ hm am (daysS (upd r (iM p 3) (nI k)) n)] rfl rfl rfl [] rfl (Nat.le_of_ble_eq_true rfl) ?_
        refine r_aload_n K dX5_whereToBring_57 3 rfl ?_
        refine r_get K dX5_whereToBring_58 (kf := 1) 0 rfl rfl hinX5 (by decide) q70 rfl rfl ?_
        refine r_cVd K dX5_whereToBring_61 (c_X0_allPayS l Γ hm am (daysS (upd r (iM p 3) (nI k)) n) (Inv_daysS (Inv_at (hI) (Or.inr ⟨k, by first | omega | (simp only [daysS_nM, daysS_nG, dayS_nM, dayS_nG, tellS_nM, tellS_nG, aloneTo_nM, aloneTo_nG, nM_M, nG_M, nM_G, nG_G, lv_nM, lv_nG, gnT_nM, gnT_nG] <;> omega), rfl⟩)) n)) mX0_allPay q569 rfl (by decide) rfl rfl 3 rfl [2] [0, 1] rfl rfl [eO t 3 [.ref hn, .ref hm, .ref dd, .int sd], ydW Γ hn an r] rfl [eO t 3 [.ref hn, .ref hm, .ref dd, .int sd], ydW Γ hn an r, ydW Γ hm am (daysS (upd r (iM p 3) (nI k)) n)] rfl rfl rfl [] rfl (Nat.le_of_ble_eq_true rfl) ?_
        refine r_istore K dX5_whereToBring_64 (by decide) (lv1 := [(6, .int (payS (daysS (upd r (iM p 3) (nI k)) n))), (5, .int (nI k)), (3, .int m), (4, .int b), (0, .ref t), (1, .int (nI p)), (2, .int (nI n))]) rfl ?_
        refine r_iload K dX5_whereToBring_66 0 rfl ?_
        refine r_iload_n K dX5_whereToBring_68 2 rfl ?_
        refine r_ic_le K dX5_whereToBring_69 (fun c69 => ?_) (fun c69 => ?_)
        · refine r_iincN K dX5_whereToBring_79 (n := 1) 1 rfl rfl (by decide) (lv1 := [(5, .int (nI (k + 1))), (6, .int (payS (daysS (upd r (iM p 3) (nI k)) n))), (3, .int m), (4, .int b), (0, .ref t), (1, .int (nI p)), (2, .int (nI n))]) rfl ?_
          refine r_goto K dX5_whereToBring_82 ?_
          refine r_lv K [0, 2, 3, 4, 5, 6] rfl ?_
          exact ih_L16 (k + 1) m b (daysS (upd r (iM p 3) (nI k)) n) (by omega) (by rw [hm1, amF_n (fun z => absurd (show (amF (bringV r p n) (payS (daysS r n)) k).1 < bringV r p n k from z) (by rw [← hm1]; exact Int32.not_lt.mpr c69))]) (by rw [hb1, amF_n (fun z => absurd (show (amF (bringV r p n) (payS (daysS r n)) k).1 < bringV r p n k from z) (by rw [← hm1]; exact Int32.not_lt.mpr c69))]) (by omega)
        · refine r_iload K dX5_whereToBring_72 0 rfl ?_
          refine r_istore_n K dX5_whereToBring_74 rfl (by decide) (lv1 := [(3, .int (payS (daysS (upd r (iM p 3) (nI k)) n))), (6, .int (payS (daysS (upd r (iM p 3) (nI k)) n))), (5, .int (nI k)), (4, .int b), (0, .ref t), (1, .int (nI p)), (2, .int (nI n))]) rfl ?_
          refine r_iload K dX5_whereToBring_75 2 rfl ?_
          refine r_istore K dX5_whereToBring_77 (by decide) (lv1 := [(4, .int (nI k)), (3, .int (payS (daysS (upd r (iM p 3) (nI k)) n))), (6, .int (payS (daysS (upd r (iM p 3) (nI k)) n))), (5, .int (nI k)), (0, .ref t), (1, .int (nI p)), (2, .int (nI n))]) rfl ?_
          refine r_iincN K dX5_whereToBring_79 (n := 1) 3 rfl rfl (by decide) (lv1 := [(5, .int (nI (k + 1))), (4, .int (nI k)), (3, .int (payS (daysS (upd r (iM p 3) (nI k)) n))), (6, .int (payS (daysS (upd r (iM p 3) (nI k)) n))), (0, .ref t), (1, .int (nI p)), (2, .int (nI n))]) rfl ?_
          refine r_goto K dX5_whereToBring_82 ?_
          refine r_lv K [0, 2, 1, 4, 5, 6] rfl ?_
          exact ih_L16 (k + 1) (payS (daysS (upd r (iM p 3) (nI k)) n)) (nI k) (daysS (upd r (iM p 3) (nI k)) n) (by omega) (by rw [amF_t (show (amF (bringV r p n) (payS (daysS r n)) k).1 < bringV r p n k from by rw [← hm1]; exact Int32.not_le.mp c69)]; rfl) (by rw [amF_t (show (amF (bringV r p n) (payS (daysS r n)) k).1 < bringV r p n k from by rw [← hm1]; exact Int32.not_le.mp c69)]) (by omega)
  refine r_lv K [0, 2, 1, 3, 4, 5] rfl ?_
  exact L16 _ 0 (payS (daysS r n)) (-9) (daysS r n) (Nat.zero_le _) (rfl) (rfl) (Nat.lt_succ_self _)
set_option maxHeartbeats 1000000 in
set_option maxRecDepth 20000 in
theorem c_X5_inchesLostWithout (l : Launch) (Γ : eG) (t : Nat) (hn : Nat) (hm : Nat) (dd : Nat) (sd : Int32) (an : Nat → Nat) (am : Nat → Nat) (r : Nat → Int32) (q : Nat → Int32) (p : Nat) (n : Nat) (hI : Inv r) (hp : p < nM r) (hn31 : n < 2 ^ 31) : cD l Γ yX5_inchesLostWithout cX5_inchesLostWithout 4 (some .int) 5 [.ref t, .int (nI p), .int (nI n)] [eO t 3 [.ref hn, .ref hm, .ref dd, .int sd], ydW Γ hn an r, ydW Γ hm am q] (some (.int (lostS r p n))) [eO t 3 [.ref hn, .ref hm, .ref dd, .int sd], ydW Γ hn an r, ydW Γ hm am (daysS (upd r (iM p 3) (-9)) n)] := by
  refine e_int [(0, .ref t), (1, .int (nI p)), (2, .int (nI n))] (by decide +kernel) (Nat.le_of_ble_eq_true rfl) rfl (fun V K hR => ?_)
  have h5 := hI.g
  have h6 := hI.m
  refine r_aload_n K dX5_inchesLostWithout_0 0 rfl ?_
  refine r_iload_n K dX5_inchesLostWithout_1 2 rfl ?_
  refine r_cVd K dX5_inchesLostWithout_2 (c_X5_after l Γ t hn hm dd sd an am r q n (hI) (by first | assumption | omega)) mX5_after q541 rfl (by decide) rfl rfl 3 rfl [0, 1, 2] [] rfl rfl [] rfl [eO t 3 [.ref hn, .ref hm, .ref dd, .int sd], ydW Γ hn an r, ydW Γ hm am (daysS r n)] rfl rfl rfl [] rfl (Nat.le_of_ble_eq_true rfl) ?_
  refine r_cVd K dX5_inchesLostWithout_5 (c_X0_allInchesS l Γ hm am (daysS r n) (Inv_daysS (hI) n)) mX0_allInches q542 rfl (by decide) rfl rfl 3 rfl [2] [0, 1] rfl rfl [eO t 3 [.ref hn, .ref hm, .ref dd, .int sd], ydW Γ hn an r] rfl [eO t 3 [.ref hn, .ref hm, .ref dd, .int sd], ydW Γ hn an r, ydW Γ hm am (daysS r n)] rfl rfl rfl [] rfl (Nat.le_of_ble_eq_true rfl) ?_
  refine r_istore_n K dX5_inchesLostWithout_8 rfl (by decide) (lv1 := [(3, .int (incS (daysS r n))), (0, .ref t), (1, .int (nI p)), (2, .int (nI n))]) rfl ?_
  refine r_aload_n K dX5_inchesLostWithout_9 1 rfl ?_
  refine r_get K dX5_inchesLostWithout_10 (kf := 1) 0 rfl rfl hinX5 (by decide) q70 rfl rfl ?_
  refine r_aload_n K dX5_inchesLostWithout_13 1 rfl ?_
  refine r_get K dX5_inchesLostWithout_14 (kf := 0) 0 rfl rfl hinX5 (by decide) q69 rfl rfl ?_
  refine r_cVn K dX5_inchesLostWithout_17 (c_X0_become l Γ hm am (daysS r n) hn an r) mX0_become q413 rfl (by decide) rfl rfl 3 rfl [2, 1] [0] rfl rfl [eO t 3 [.ref hn, .ref hm, .ref dd, .int sd]] rfl [eO t 3 [.ref hn, .ref hm, .ref dd, .int sd], ydW Γ hn an r, ydW Γ hm am r] rfl rfl rfl [] rfl (Nat.le_of_ble_eq_true rfl) ?_
  refine r_aload_n K dX5_inchesLostWithout_20 1 rfl ?_
  refine r_get K dX5_inchesLostWithout_21 (kf := 1) 0 rfl rfl hinX5 (by decide) q70 rfl rfl ?_
  refine r_iload_n K dX5_inchesLostWithout_24 2 rfl ?_
  refine r_bipush K dX5_inchesLostWithout_25 ((-9)) (by decide) ?_
  refine r_cVn K dX5_inchesLostWithout_27 (c_X0_place l Γ hm am r (nI p) (-9) (hI)) mX0_place q532 rfl (by decide) rfl rfl 3 rfl [2] [0, 1] rfl rfl [eO t 3 [.ref hn, .ref hm, .ref dd, .int sd], ydW Γ hn an r] rfl [eO t 3 [.ref hn, .ref hm, .ref dd, .int sd], ydW Γ hn an r, ydW Γ hm am (setM r 3 (nI p) (-9))] rfl rfl rfl [] rfl (Nat.le_of_ble_eq_true rfl) ?_
  refine r_ws K (ws1 := [eO t 3 [.ref hn, .ref hm, .ref dd, .int sd], ydW Γ hn an r, ydW Γ hm am (upd r (iM p 3) (-9))]) (by rw [setM_N (by omega) (by omega)]; exact weq.rf) ?_
  refine r_aload_n K dX5_inchesLostWithout_30 1 rfl ?_
  refine r_get K dX5_inchesLostWithout_31 (kf := 1) 0 rfl rfl hinX5 (by decide) q70 rfl rfl ?_
  refine r_iload_n K dX5_inchesLostWithout_34 3 rfl ?_
  refine r_cVn K dX5_inchesLostWithout_35 (c_X0_passDays l Γ hm am (upd r (iM p 3) (-9)) n (Inv_at (hI) (Or.inl rfl)) (by first | assumption | omega)) mX0_passDays q414 rfl (by decide) rfl rfl 3 rfl [2] [0, 1] rfl rfl [eO t 3 [.ref hn, .ref hm, .ref dd, .int sd], ydW Γ hn an r] rfl [eO t 3 [.ref hn, .ref hm, .ref dd, .int sd], ydW Γ hn an r, ydW Γ hm am (daysS (upd r (iM p 3) (-9)) n)] rfl rfl rfl [] rfl (Nat.le_of_ble_eq_true rfl) ?_
  refine r_iload_n K dX5_inchesLostWithout_38 0 rfl ?_
  refine r_aload_n K dX5_inchesLostWithout_39 1 rfl ?_
  refine r_get K dX5_inchesLostWithout_40 (kf := 1) 0 rfl rfl hinX5 (by decide) q70 rfl rfl ?_
  refine r_cVd K dX5_inchesLostWithout_43 (c_X0_allInchesS l Γ hm am (daysS (upd r (iM p 3) (-9)) n) (Inv_daysS (Inv_at (hI) (Or.inl rfl)) n)) mX0_allInches q542 rfl (by decide) rfl rfl 3 rfl [2] [0, 1] rfl rfl [eO t 3 [.ref hn, .ref hm, .ref dd, .int sd], ydW Γ hn an r] rfl [eO t 3 [.ref hn, .ref hm, .ref dd, .int sd], ydW Γ hn an r, ydW Γ hm am (daysS (upd r (iM p 3) (-9)) n)] rfl rfl rfl [.int (incS (daysS r n))] rfl (Nat.le_of_ble_eq_true rfl) ?_
  refine r_isub K dX5_inchesLostWithout_46 ?_
  exact hR () dX5_inchesLostWithout_47 (trivial) (e_ri (rfl)) (weq.rf)
set_option maxHeartbeats 1000000 in
set_option maxRecDepth 20000 in
theorem c_X5_inchesMoreAsOnion (l : Launch) (Γ : eG) (t : Nat) (hn : Nat) (hm : Nat) (dd : Nat) (sd : Int32) (an : Nat → Nat) (am : Nat → Nat) (r : Nat → Int32) (q : Nat → Int32) (p : Nat) (n : Nat) (hI : Inv r) (hp : p < nM r) (hn31 : n < 2 ^ 31) : cD l Γ yX5_inchesMoreAsOnion cX5_inchesMoreAsOnion 4 (some .int) 5 [.ref t, .int (nI p), .int (nI n)] [eO t 3 [.ref hn, .ref hm, .ref dd, .int sd], ydW Γ hn an r, ydW Γ hm am q] (some (.int (onS r p n))) [eO t 3 [.ref hn, .ref hm, .ref dd, .int sd], ydW Γ hn an r, ydW Γ hm am (daysS (upd r (iM p 0) (nI 2)) n)] := by
  refine e_int [(0, .ref t), (1, .int (nI p)), (2, .int (nI n))] (by decide +kernel) (Nat.le_of_ble_eq_true rfl) rfl (fun V K hR => ?_)
  have h5 := hI.g
  have h6 := hI.m
  refine r_aload_n K dX5_inchesMoreAsOnion_0 0 rfl ?_
  refine r_iload_n K dX5_inchesMoreAsOnion_1 2 rfl ?_
  refine r_cVd K dX5_inchesMoreAsOnion_2 (c_X5_after l Γ t hn hm dd sd an am r q n (hI) (by first | assumption | omega)) mX5_after q541 rfl (by decide) rfl rfl 3 rfl [0, 1, 2] [] rfl rfl [] rfl [eO t 3 [.ref hn, .ref hm, .ref dd, .int sd], ydW Γ hn an r, ydW Γ hm am (daysS r n)] rfl rfl rfl [] rfl (Nat.le_of_ble_eq_true rfl) ?_
  refine r_cVd K dX5_inchesMoreAsOnion_5 (c_X0_allInchesS l Γ hm am (daysS r n) (Inv_daysS (hI) n)) mX0_allInches q542 rfl (by decide) rfl rfl 3 rfl [2] [0, 1] rfl rfl [eO t 3 [.ref hn, .ref hm, .ref dd, .int sd], ydW Γ hn an r] rfl [eO t 3 [.ref hn, .ref hm, .ref dd, .int sd], ydW Γ hn an r, ydW Γ hm am (daysS r n)] rfl rfl rfl [] rfl (Nat.le_of_ble_eq_true rfl) ?_
  refine r_istore_n K dX5_inchesMoreAsOnion_8 rfl (by decide) (lv1 := [(3, .int (incS (daysS r n))), (0, .ref t), (1, .int (nI p)), (2, .int (nI n))]) rfl ?_
  refine r_aload_n K dX5_inchesMoreAsOnion_9 1 rfl ?_
  refine r_get K dX5_inchesMoreAsOnion_10 (kf := 1) 0 rfl rfl hinX5 (by decide) q70 rfl rfl ?_
  refine r_aload_n K dX5_inchesMoreAsOnion_13 1 rfl ?_
  refine r_get K dX5_inchesMoreAsOnion_14 (kf := 0) 0 rfl rfl hinX5 (by decide) q69 rfl rfl ?_
  refine r_cVn K dX5_inchesMoreAsOnion_17 (c_X0_become l Γ hm am (daysS r n) hn an r) mX0_become q413 rfl (by decide) rfl rfl 3 rfl [2, 1] [0] rfl rfl [eO t 3 [.ref hn, .ref hm, .ref dd, .int sd]] rfl [eO t 3 [.ref hn, .ref hm, .ref dd, .int sd], ydW Γ hn an r, ydW Γ hm am r] rfl rfl rfl [] rfl (Nat.le_of_ble_eq_true rfl) ?_
  refine r_aload_n K dX5_inchesMoreAsOnion_20 1 rfl ?_
  refine r_get K dX5_inchesMoreAsOnion_21 (kf := 1) 0 rfl rfl hinX5 (by decide) q70 rfl rfl ?_
  refine r_iload_n K dX5_inchesMoreAsOnion_24 2 rfl ?_
  refine r_iconst K dX5_inchesMoreAsOnion_25 (nI 2) (by decide) ?_
  refine r_cVn K dX5_inchesMoreAsOnion_26 (c_X0_setKind l Γ hm am r (nI p) (nI 2) (hI)) mX0_setKind q587 rfl (by decide) rfl rfl 3 rfl [2] [0, 1] rfl rfl [eO t 3 [.ref hn, .ref hm, .ref dd, .int sd], ydW Γ hn an r] rfl [eO t 3 [.ref hn, .ref hm, .ref dd, .int sd], ydW Γ hn an r, ydW Γ hm am (setM r 0 (nI p) (nI 2))] rfl rfl rfl [] rfl (Nat.le_of_ble_eq_true rfl) ?_
  refine r_ws K (ws1 := [eO t 3 [.ref hn, .ref hm, .ref dd, .int sd], ydW Γ hn an r, ydW Γ hm am (upd r (iM p 0) (nI 2))]) (by rw [setM_N (by omega) (by omega)]; exact weq.rf) ?_
  refine r_aload_n K dX5_inchesMoreAsOnion_29 1 rfl ?_
  refine r_get K dX5_inchesMoreAsOnion_30 (kf := 1) 0 rfl rfl hinX5 (by decide) q70 rfl rfl ?_
  refine r_iload_n K dX5_inchesMoreAsOnion_33 3 rfl ?_
  refine r_cVn K dX5_inchesMoreAsOnion_34 (c_X0_passDays l Γ hm am (upd r (iM p 0) (nI 2)) n (Inv_onion (hI) (by first | decide | omega)) (by first | assumption | omega)) mX0_passDays q414 rfl (by decide) rfl rfl 3 rfl [2] [0, 1] rfl rfl [eO t 3 [.ref hn, .ref hm, .ref dd, .int sd], ydW Γ hn an r] rfl [eO t 3 [.ref hn, .ref hm, .ref dd, .int sd], ydW Γ hn an r, ydW Γ hm am (daysS (upd r (iM p 0) (nI 2)) n)] rfl rfl rfl [] rfl (Nat.le_of_ble_eq_true rfl) ?_
  refine r_aload_n K dX5_inchesMoreAsOnion_37 1 rfl ?_
  refine r_get K dX5_inchesMoreAsOnion_38 (kf := 1) 0 rfl rfl hinX5 (by decide) q70 rfl rfl ?_
  refine r_cVd K dX5_inchesMoreAsOnion_41 (c_X0_allInchesS l Γ hm am (daysS (upd r (iM p 0) (nI 2)) n) (Inv_daysS (Inv_onion (hI) (by first | decide | omega)) n)) mX0_allInches q542 rfl (by decide) rfl rfl 3 rfl [2] [0, 1] rfl rfl [eO t 3 [.ref hn, .ref hm, .ref dd, .int sd], ydW Γ hn an r] rfl [eO t 3 [.ref hn, .ref hm, .ref dd, .int sd], ydW Γ hn an r, ydW Γ hm am (daysS (upd r (iM p 0) (nI 2)) n)] rfl rfl rfl [] rfl (Nat.le_of_ble_eq_true rfl) ?_
  refine r_iload_n K dX5_inchesMoreAsOnion_44 0 rfl ?_
  refine r_isub K dX5_inchesMoreAsOnion_45 ?_
  exact hR () dX5_inchesMoreAsOnion_46 (trivial) (e_ri (rfl)) (weq.rf)
set_option maxHeartbeats 1000000 in
set_option maxRecDepth 20000 in
theorem c_X5_whomToSend (l : Launch) (Γ : eG) (t : Nat) (hn : Nat) (hm : Nat) (dd : Nat) (sd : Int32) (an : Nat → Nat) (am : Nat → Nat) (r : Nat → Int32) (q : Nat → Int32) (n : Nat) (hI : Inv r) (hn31 : n < 2 ^ 31) : cE l Γ yX5_whomToSend cX5_whomToSend 6 (some .int) 6 [.ref t, .int (nI n)] [eO t 3 [.ref hn, .ref hm, .ref dd, .int sd], ydW Γ hn an r, ydW Γ hm am q] (S := Nat → Int32) (fun u => True) (fun u => (some (.int ((sdF r n (nM r)).1)))) (fun u => [eO t 3 [.ref hn, .ref hm, .ref dd, .int sd], ydW Γ hn an r, ydW Γ hm am u]) := by
  refine e_int [(0, .ref t), (1, .int (nI n))] (by decide +kernel) (Nat.le_of_ble_eq_true rfl) rfl (fun V K hR => ?_)
  have h5 := hI.g
  have h6 := hI.m
  refine r_bipush K dX5_whomToSend_0 ((-9)) (by decide) ?_
  refine r_istore_n K dX5_whomToSend_2 rfl (by decide) (lv1 := [(2, .int (-9)), (0, .ref t), (1, .int (nI n))]) rfl ?_
  refine r_iconst K dX5_whomToSend_3 (nI 0) (by decide) ?_
  refine r_istore_n K dX5_whomToSend_4 rfl (by decide) (lv1 := [(3, .int (nI 0)), (2, .int (-9)), (0, .ref t), (1, .int (nI n))]) rfl ?_
  refine r_iconst K dX5_whomToSend_5 (nI 0) (by decide) ?_
  refine r_istore K dX5_whomToSend_6 (by decide) (lv1 := [(4, .int (nI 0)), (3, .int (nI 0)), (2, .int (-9)), (0, .ref t), (1, .int (nI n))]) rfl ?_
  have L8 : ∀ (fL8 : Nat) (k : Nat) (b : Int32) (m : Int32) (q : Nat → Int32), (k ≤ nM r) → (b = (sdF r n k).1) → (m = (sdF r n k).2) → nM r - k < fL8 → V 8 [(4, .int (nI k)), (3, .int m), (2, .int b), (0, .ref t), (1, .int (nI n))] [] [eO t 3 [.ref hn, .ref hm, .ref dd, .int sd], ydW Γ hn an r, ydW Γ hm am q] := by
    intro fL8
    induction fL8 with
    | zero => intro k b m q hk hb1 hm1 hf; exact absurd hf (Nat.not_lt_zero _)
    | succ fL8 ih_L8 =>
      intro k b m q hk hb1 hm1 hfL8
      refine r_iload K dX5_whomToSend_8 0 rfl ?_
      refine r_aload_n K dX5_whomToSend_10 3 rfl ?_
      refine r_get K dX5_whomToSend_11 (kf := 0) 0 rfl rfl hinX5 (by decide) q69 rfl rfl ?_
      refine r_cVd K dX5_whomToSend_14 (c_X0_mournerCount l Γ hn an r (hI)) mX0_mournerCount q521 rfl (by decide) rfl rfl 3 rfl [1] [0, 2] rfl rfl [eO t 3 [.ref hn, .ref hm, .ref dd, .int sd], ydW Γ hm am q] rfl [eO t 3 [.ref hn, .ref hm, .ref dd, .int sd], ydW Γ hn an r, ydW Γ hm am q] rfl rfl rfl [.int (nI k)] rfl (Nat.le_of_ble_eq_true rfl) ?_
      refine r_ic_geN K dX5_whomToSend_17 (by omega) (by omega) (fun c17 => ?_) (fun c17 => ?_)
      · obtain rfl : k = nM r := by omega
        refine r_iload_n K dX5_whomToSend_67 2 rfl ?_
        exact hR q dX5_whomToSend_68 (trivial) (e_ri (hb1.symm)) (weq.rf)
      · refine r_aload_n K dX5_whomToSend_20 3 rfl ?_
        refine r_get K dX5_whomToSend_21 (kf := 0) 0 rfl rfl hinX5 (by decide) q69 rfl rfl ?_
        refine r_iload K dX5_whomToSend_24 0 rfl ?_
        refine r_cVd K dX5_whomToSend_26 (c_X0_placeOfN l Γ hn an r k (hI) (by first | omega | (simp only [daysS_nM, daysS_nG, dayS_nM, dayS_nG, tellS_nM, tellS_nG, aloneTo_nM, aloneTo_nG, nM_M, nG_M, nM_G, nG_G, lv_nM, lv_nG, gnT_nM, gnT_nG] <;> omega))) mX0_placeOf q555 rfl (by decide) rfl rfl 3 rfl [1] [0, 2] rfl rfl [eO t 3 [.ref hn, .ref hm, .ref dd, .int sd], ydW Γ hm am q] rfl [eO t 3 [.ref hn, .ref hm, .ref dd, .int sd], ydW Γ hn an r, ydW Γ hm am q] rfl rfl rfl [] rfl (Nat.le_of_ble_eq_true rfl) ?_
        refine r_bipush K dX5_whomToSend_29 ((-9)) (by decide) ?_
        refine r_ic_eq K dX5_whomToSend_31 (fun c31 => ?_) (fun c31 => ?_)
        · refine r_iincN K dX5_whomToSend_61 (n := 1) 0 rfl rfl (by decide) (lv1 := [(4, .int (nI (k + 1))), (3, .int m), (2, .int b), (0, .ref t), (1, .int (nI n))]) rfl ?_
          refine r_goto K dX5_whomToSend_64 ?_
          exact ih_L8 (k + 1) b m q (by omega) (by rw [hb1, sdF_n (fun z => z.1 c31)]) (by rw [hm1, sdF_n (fun z => z.1 c31)]) (by omega)
        · refine r_aload_n K dX5_whomToSend_34 3 rfl ?_
          refine r_iload K dX5_whomToSend_35 0 rfl ?_
          refine r_iload_n K dX5_whomToSend_37 4 rfl ?_
          refine r_cVd K dX5_whomToSend_38 (c_X5_inchesLostWithout l Γ t hn hm dd sd an am r q k n (hI) (by first | omega | (simp only [daysS_nM, daysS_nG, dayS_nM, dayS_nG, tellS_nM, tellS_nG, aloneTo_nM, aloneTo_nG, nM_M, nG_M, nM_G, nG_G, lv_nM, lv_nG, gnT_nM, gnT_nG] <;> omega)) (by first | assumption | omega)) mX5_inchesLostWithout q556 rfl (by decide) rfl rfl 3 rfl [0, 1, 2] [] rfl rfl [] rfl [eO t 3 [.ref hn, .ref hm, .ref dd, .int sd], ydW Γ hn an r, ydW Γ hm am (daysS (upd r (iM k 3) (-9)) n)] rfl rfl rfl [] rfl (Nat.le_of_ble_eq_true rfl) ?_
          refine r_istore K dX5_whomToSend_41 (by decide) (lv1 := [(5, .int (lostS r k n)), (4, .int (nI k)), (3, .int m), (2, .int b), (0, .ref t), (1, .int (nI n))]) rfl ?_
          refine r_iload_n K dX5_whomToSend_43 3 rfl ?_
          refine r_bipush K dX5_whomToSend_44 ((-9)) (by decide) ?_
          refine r_ic_eq K dX5_whomToSend_46 (fun c46 => ?_) (fun c46 => ?_)
          · refine r_iload K dX5_whomToSend_55 0 rfl ?_
            refine r_istore_n K dX5_whomToSend_57 rfl (by decide) (lv1 := [(3, .int (lostS r k n)), (5, .int (lostS r k n)), (4, .int (nI k)), (2, .int b), (0, .ref t), (1, .int (nI n))]) rfl ?_
            refine r_iload K dX5_whomToSend_58 2 rfl ?_
            refine r_istore_n K dX5_whomToSend_60 rfl (by decide) (lv1 := [(2, .int (nI k)), (3, .int (lostS r k n)), (5, .int (lostS r k n)), (4, .int (nI k)), (0, .ref t), (1, .int (nI n))]) rfl ?_
            refine r_iincN K dX5_whomToSend_61 (n := 1) 3 rfl rfl (by decide) (lv1 := [(4, .int (nI (k + 1))), (2, .int (nI k)), (3, .int (lostS r k n)), (5, .int (lostS r k n)), (0, .ref t), (1, .int (nI n))]) rfl ?_
            refine r_goto K dX5_whomToSend_64 ?_
            refine r_lv K [0, 2, 1, 4, 5] rfl ?_
            exact ih_L8 (k + 1) (nI k) (lostS r k n) (daysS (upd r (iM k 3) (-9)) n) (by omega) (by rw [sdF_t ⟨c31, Or.inl (by rw [← hb1]; exact c46)⟩]) (by rw [sdF_t ⟨c31, Or.inl (by rw [← hb1]; exact c46)⟩]) (by omega)
          · refine r_iload K dX5_whomToSend_49 0 rfl ?_
            refine r_iload_n K dX5_whomToSend_51 2 rfl ?_
            refine r_ic_ge K dX5_whomToSend_52 (fun c52 => ?_) (fun c52 => ?_)
            · refine r_iincN K dX5_whomToSend_61 (n := 1) 1 rfl rfl (by decide) (lv1 := [(4, .int (nI (k + 1))), (5, .int (lostS r k n)), (3, .int m), (2, .int b), (0, .ref t), (1, .int (nI n))]) rfl ?_
              refine r_goto K dX5_whomToSend_64 ?_
              refine r_lv K [0, 2, 3, 4, 5] rfl ?_
              exact ih_L8 (k + 1) b m (daysS (upd r (iM k 3) (-9)) n) (by omega) (by rw [hb1, sdF_n (fun z => z.2.elim (fun y => c46 (hb1.trans y)) (fun y => absurd y (by rw [← hm1]; exact Int32.not_lt.mpr c52)))]) (by rw [hm1, sdF_n (fun z => z.2.elim (fun y => c46 (hb1.trans y)) (fun y => absurd y (by rw [← hm1]; exact Int32.not_lt.mpr c52)))]) (by omega)
            · refine r_iload K dX5_whomToSend_55 0 rfl ?_
              refine r_istore_n K dX5_whomToSend_57 rfl (by decide) (lv1 := [(3, .int (lostS r k n)), (5, .int (lostS r k n)), (4, .int (nI k)), (2, .int b), (0, .ref t), (1, .int (nI n))]) rfl ?_
              refine r_iload K dX5_whomToSend_58 2 rfl ?_
              refine r_istore_n K dX5_whomToSend_60 rfl (by decide) (lv1 := [(2, .int (nI k)), (3, .int (lostS r k n)), (5, .int (lostS r k n)), (4, .int (nI k)), (0, .ref t), (1, .int (nI n))]) rfl ?_
              refine r_iincN K dX5_whomToSend_61 (n := 1) 3 rfl rfl (by decide) (lv1 := [(4, .int (nI (k + 1))), (2, .int (nI k)), (3, .int (lostS r k n)), (5, .int (lostS r k n)), (0, .ref t), (1, .int (nI n))]) rfl ?_
              refine r_goto K dX5_whomToSend_64 ?_
              refine r_lv K [0, 2, 1, 4, 5] rfl ?_
              exact ih_L8 (k + 1) (nI k) (lostS r k n) (daysS (upd r (iM k 3) (-9)) n) (by omega) (by rw [sdF_t ⟨c31, Or.inr (by rw [← hm1]; exact Int32.not_le.mp c52)⟩]) (by rw [sdF_t ⟨c31, Or.inr (by rw [← hm1]; exact Int32.not_le.mp c52)⟩]) (by omega)
  exact L8 _ 0 (-9) (nI 0) q (Nat.zero_le _) (rfl) (rfl) (Nat.lt_succ_self _)
