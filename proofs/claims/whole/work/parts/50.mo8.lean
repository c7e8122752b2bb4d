/-! THE REFERENCE: a churchyard told -/
set_option maxHeartbeats 1000000 in
set_option maxRecDepth 20000 in
theorem c_X7_yard (l : Launch) (Γ : eG) (h : Nat) (a : Nat → Nat) (hi : Bool) (lm : Nat) (rm : Nat) (pc : Nat) (bi : Int32) (sd : Int32) (r : Nat → Int32) (wa : Nat → Int32) (lt : Nat → Int32) (nb : Nat → Int32) (hI : Inv r) (hl : lm ≤ 96) : cE l Γ yX7_yard cX7_yard 6 (some .int) 5 [.ref h] [mo h a hi lm rm pc bi sd, eI Γ (a 0) 42 r, eI Γ (a 3) 42 wa, eI Γ (a 4) 96 lt, eI Γ (a 7) 3 nb] (S := (Nat → Int32) × (Nat → Int32) × Nat) (fun u => True) (fun u => (some (.int (tlA lt lm r)))) (fun u => [mo h a hi 0 rm u.2.2 bi sd, eI Γ (a 0) 42 (yaR lt lm r), eI Γ (a 3) 42 u.2.1, eI Γ (a 4) 96 lt, eI Γ (a 7) 3 u.1]) := by
  refine e_int [(0, .ref h)] (by decide +kernel) (Nat.le_of_ble_eq_true rfl) rfl (fun V K hR => ?_)
  have h5 := hI.g
  have h6 := hI.m
  refine r_aload_n K dX7_yard_0 0 rfl ?_
  refine r_iconst K dX7_yard_1 (nI 0) (by decide) ?_
  refine r_put K dX7_yard_2 (kf := 10) (ty := .int) (ws1 := [mo h a hi lm rm 0 bi sd, eI Γ (a 0) 42 r, eI Γ (a 3) 42 wa, eI Γ (a 4) 96 lt, eI Γ (a 7) 3 nb]) 0 rfl rfl hinX7 tyX7 tyX7_ok nmX7 (by decide) q767 rfl (by decide +kernel) rfl rfl (Nat.le_of_ble_eq_true rfl) rfl ?_
  refine r_iconst K dX7_yard_5 (nI 0) (by decide) ?_
  refine r_istore_n K dX7_yard_6 rfl (by decide) (lv1 := [(1, .int (nI 0)), (0, .ref h)]) rfl ?_
  refine r_bipush K dX7_yard_7 ((-9)) (by decide) ?_
  refine r_istore_n K dX7_yard_9 rfl (by decide) (lv1 := [(2, .int (-9)), (1, .int (nI 0)), (0, .ref h)]) rfl ?_
  have L10 : ∀ (fL10 : Nat) (f : Nat) (p : Nat) (n : Nat) (nb : Nat → Int32), (lm < f + p) → (p < lm ∨ (p = 0 ∧ lm = 0)) → (p < lm → fMis lt lm = miO lt lm f p) → (stN lt lm (lm + 1) 0 = n + stN lt lm f p) → (n ≤ p) → f < fL10 → V 10 [(2, .int (-9)), (1, .int (nI n)), (0, .ref h)] [] [mo h a hi lm rm p bi sd, eI Γ (a 0) 42 r, eI Γ (a 3) 42 wa, eI Γ (a 4) 96 lt, eI Γ (a 7) 3 nb] := by
    intro fL10
    induction fL10 with
    | zero => intro f p n nb hf hpl hM hN hnp hf; exact absurd hf (Nat.not_lt_zero _)
    | succ fL10 ih_L10 =>
      intro f p n nb hf hpl hM hN hnp hfL10
      refine r_aload_n K dX7_yard_10 2 rfl ?_
      refine r_cV K dX7_yard_11 (c_X7_readsStatement l Γ h a hi lm rm p bi sd lt nb (by first | assumption | omega) (by omega)) mX7_readsStatement q821 rfl (by decide) rfl rfl 5 rfl [0, 3, 4] [1, 2] rfl rfl [eI Γ (a 0) 42 r, eI Γ (a 3) 42 wa] rfl (fun u => [mo h a hi lm rm (rsP lt lm p) bi sd, eI Γ (a 0) 42 r, eI Γ (a 3) 42 wa, eI Γ (a 4) 96 lt, eI Γ (a 7) 3 u]) (fun _ => rfl) (fun _ => rfl) (fun _ => rfl) [] rfl (Nat.le_of_ble_eq_true rfl) (fun u1 hu2 => ?_)
      show V 14 _ [.int (bz (rsB lt lm p))] [mo h a hi lm rm (rsP lt lm p) bi sd, eI Γ (a 0) 42 r, eI Γ (a 3) 42 wa, eI Γ (a 4) 96 lt, eI Γ (a 7) 3 u1]
      refine r_ifneB K dX7_yard_14 (fun c14 => ?_) (fun c14 => ?_)
      · obtain ⟨f, rfl⟩ : ∃ z, f = z + 1 := ⟨f - 1, by omega⟩
        have hle := rsP_le c14
        obtain ⟨hL0, hrP, hmi⟩ := (rs_miO (f := f) hle.2.2).1 c14
        have hl6 := lnS_le (sgS lt lm p)
        refine r_ws K (ws1 := [mo h a hi lm rm (p + lnS (sgS lt lm p)) bi sd, eI Γ (a 0) 42 r, eI Γ (a 3) 42 wa, eI Γ (a 4) 96 lt, eI Γ (a 7) 3 u1]) (by rw [hrP]; exact weq.rf) ?_
        refine r_iincN K dX7_yard_26 (n := 1) 1 rfl rfl (by decide) (lv1 := [(1, .int (nI (n + 1))), (2, .int (-9)), (0, .ref h)]) rfl ?_
        refine r_iload_n K dX7_yard_29 1 rfl ?_
        refine r_bipush K dX7_yard_30 ((-9)) (by decide) ?_
        refine r_ic_ne K dX7_yard_32 (fun c32 => ?_) (fun c32 => ?_)
        · exact absurd rfl c32
        · refine r_aload_n K dX7_yard_35 2 rfl ?_
          refine r_get K dX7_yard_36 (kf := 10) 0 rfl rfl hinX7 (by decide) q767 rfl rfl ?_
          refine r_aload_n K dX7_yard_39 2 rfl ?_
          refine r_get K dX7_yard_40 (kf := 8) 0 rfl rfl hinX7 (by decide) q765 rfl rfl ?_
          refine r_ic_ltN K dX7_yard_43 (by omega) (by omega) (fun c43 => ?_) (fun c43 => ?_)
          · refine r_lv K [1, 0, 2] rfl ?_
            exact ih_L10 f (p + lnS (sgS lt lm p)) (n + 1) u1 (by omega) (Or.inl c43) (fun _ => (hM hle.2.2).trans hmi) (by rw [hN, stN_s hle.2.2]; omega) (by omega) (by omega)
          · have hF9 : fMis lt lm = -9 := (hM hle.2.2).trans (hmi.trans (miO_e (by omega)))
            have hN1 : 0 + stN lt lm (lm + 1) 0 = n + 1 := by rw [hN, stN_s hle.2.2, stN_0 (by omega)]; omega
            obtain ⟨nt, hnt⟩ : ∃ z, z = n + 1 := ⟨_, rfl⟩
            rw [← hnt] at hN1
            refine r_lc (lv1 := [(1, .int (nI nt)), (2, .int (-9)), (0, .ref h)]) (by rw [hnt]) ?_
            refine r_aload_n K dX7_yard_46 2 rfl ?_
            refine r_get K dX7_yard_47 (kf := 0) 0 rfl rfl hinX7 (by decide) q757 rfl rfl ?_
            refine r_aload_n K dX7_yard_50 2 rfl ?_
            refine r_get K dX7_yard_51 (kf := 3) 0 rfl rfl hinX7 (by decide) q760 rfl rfl ?_
            refine r_cSn K dX7_yard_54 (c_X7_copies l Γ (a 0) (a 3) r wa) mX7_copies q843 rfl (by decide) 5 rfl [1, 2] [0, 3, 4] rfl rfl [mo h a hi lm rm (p + lnS (sgS lt lm p)) bi sd, eI Γ (a 4) 96 lt, eI Γ (a 7) 3 u1] rfl [mo h a hi lm rm (p + lnS (sgS lt lm p)) bi sd, eI Γ (a 0) 42 r, eI Γ (a 3) 42 r, eI Γ (a 4) 96 lt, eI Γ (a 7) 3 u1] rfl rfl rfl [] rfl (Nat.le_of_ble_eq_true rfl) ?_
            refine r_aload_n K dX7_yard_57 2 rfl ?_
            refine r_iconst K dX7_yard_58 (nI 0) (by decide) ?_
            refine r_put K dX7_yard_59 (kf := 10) (ty := .int) (ws1 := [mo h a hi lm rm 0 bi sd, eI Γ (a 0) 42 r, eI Γ (a 3) 42 r, eI Γ (a 4) 96 lt, eI Γ (a 7) 3 u1]) 0 rfl rfl hinX7 tyX7 tyX7_ok nmX7 (by decide) q767 rfl (by decide +kernel) rfl rfl (Nat.le_of_ble_eq_true rfl) rfl ?_
            have L62 : ∀ (fL62 : Nat) (f : Nat) (p : Nat) (m : Nat) (q : Nat → Int32) (nb : Nat → Int32), (lm < f + p) → (p ≤ lm) → (m ≤ p) → (miO lt lm f p = -9) → (Inv q) → (tlO lt lm (lm + 1) 0 0 r = tlO lt lm f p m q) → (m + stN lt lm f p = nt) → f < fL62 → V 62 [(2, .int (-9)), (1, .int (nI nt)), (0, .ref h)] [] [mo h a hi lm rm p bi sd, eI Γ (a 0) 42 q, eI Γ (a 3) 42 r, eI Γ (a 4) 96 lt, eI Γ (a 7) 3 nb] := by
              intro fL62
              induction fL62 with
              | zero => intro f p m q nb hf hp hm hM hJ hE hN hf; exact absurd hf (Nat.not_lt_zero _)
              | succ fL62 ih_L62 =>
                intro f p m q nb hf hp hm hM hJ hE hN hfL62
                refine r_iload_n K dX7_yard_62 0 rfl ?_
                refine r_bipush K dX7_yard_63 ((-9)) (by decide) ?_
                refine r_ic_ne K dX7_yard_65 (fun c65 => ?_) (fun c65 => ?_)
                · exact absurd rfl c65
                · refine r_aload_n K dX7_yard_68 2 rfl ?_
                  refine r_get K dX7_yard_69 (kf := 10) 0 rfl rfl hinX7 (by decide) q767 rfl rfl ?_
                  refine r_aload_n K dX7_yard_72 2 rfl ?_
                  refine r_get K dX7_yard_73 (kf := 8) 0 rfl rfl hinX7 (by decide) q765 rfl rfl ?_
                  refine r_ic_geN K dX7_yard_76 (by omega) (by omega) (fun c76 => ?_) (fun c76 => ?_)
                  · have hy := ya_0 hF9 (hE.trans (tlO_e (by omega))) (by omega)
                    have hmn : nt = m := by rw [stN_0 (by omega)] at hN; omega
                    refine r_lc (lv1 := [(2, .int (-9)), (1, .int (nI m)), (0, .ref h)]) (by rw [hmn]) ?_
                    refine r_aload_n K dX7_yard_128 2 rfl ?_
                    refine r_iconst K dX7_yard_129 (nI 0) (by decide) ?_
                    refine r_put K dX7_yard_130 (kf := 8) (ty := .int) (ws1 := [mo h a hi 0 rm p bi sd, eI Γ (a 0) 42 q, eI Γ (a 3) 42 r, eI Γ (a 4) 96 lt, eI Γ (a 7) 3 nb]) 0 rfl rfl hinX7 tyX7 tyX7_ok nmX7 (by decide) q765 rfl (by decide +kernel) rfl rfl (Nat.le_of_ble_eq_true rfl) rfl ?_
                    refine r_iload_n K dX7_yard_133 0 rfl ?_
                    refine r_bipush K dX7_yard_134 ((-9)) (by decide) ?_
                    refine r_ic_ne K dX7_yard_136 (fun c136 => ?_) (fun c136 => ?_)
                    · exact absurd rfl c136
                    · refine r_iload_n K dX7_yard_139 1 rfl ?_
                      refine r_goto K dX7_yard_140 ?_
                      refine r_arr K (f2 := yaR lt lm r) (ws1 := [mo h a hi 0 rm p bi sd, eI Γ (a 0) 42 (yaR lt lm r), eI Γ (a 3) 42 r, eI Γ (a 4) 96 lt, eI Γ (a 7) 3 nb]) 1 rfl (fun _ _ => by rw [hy.2]) rfl ?_
                      exact hR (nb, r, p) dX7_yard_144 (trivial) (e_ri (hy.1)) (weq.rf)
                  · have hlt : p < lm := c76
                    obtain ⟨f, rfl⟩ : ∃ z, f = z + 1 := ⟨f - 1, by omega⟩
                    refine r_aload_n K dX7_yard_79 2 rfl ?_
                    refine r_get K dX7_yard_80 (kf := 10) 0 rfl rfl hinX7 (by decide) q767 rfl rfl ?_
                    refine r_istore_n K dX7_yard_83 rfl (by decide) (lv1 := [(3, .int (nI p)), (2, .int (-9)), (1, .int (nI nt)), (0, .ref h)]) rfl ?_
                    refine r_aload_n K dX7_yard_84 3 rfl ?_
                    refine r_cVd K dX7_yard_85 (c_X7_here l Γ h a hi lm rm p bi sd lt (by first | assumption | omega) (by omega)) mX7_here q825 rfl (by decide) rfl rfl 5 rfl [0, 3] [1, 2, 4] rfl rfl [eI Γ (a 0) 42 q, eI Γ (a 3) 42 r, eI Γ (a 7) 3 nb] rfl [mo h a hi lm rm p bi sd, eI Γ (a 0) 42 q, eI Γ (a 3) 42 r, eI Γ (a 4) 96 lt, eI Γ (a 7) 3 nb] rfl rfl rfl [] rfl (Nat.le_of_ble_eq_true rfl) ?_
                    refine r_top (y := sgS lt lm p) (hr_in hlt) ?_
                    refine r_istore K dX7_yard_88 (by decide) (lv1 := [(4, .int (sgS lt lm p)), (3, .int (nI p)), (2, .int (-9)), (1, .int (nI nt)), (0, .ref h)]) rfl ?_
                    refine r_aload_n K dX7_yard_90 4 rfl ?_
                    refine r_cV K dX7_yard_91 (c_X7_readsStatement l Γ h a hi lm rm p bi sd lt nb (by first | assumption | omega) (by omega)) mX7_readsStatement q821 rfl (by decide) rfl rfl 5 rfl [0, 3, 4] [1, 2] rfl rfl [eI Γ (a 0) 42 q, eI Γ (a 3) 42 r] rfl (fun u => [mo h a hi lm rm (rsP lt lm p) bi sd, eI Γ (a 0) 42 q, eI Γ (a 3) 42 r, eI Γ (a 4) 96 lt, eI Γ (a 7) 3 u]) (fun _ => rfl) (fun _ => rfl) (fun _ => rfl) [] rfl (Nat.le_of_ble_eq_true rfl) (fun u3 hur => ?_)
                    show V 94 _ [.int (bz (rsB lt lm p))] [mo h a hi lm rm (rsP lt lm p) bi sd, eI Γ (a 0) 42 q, eI Γ (a 3) 42 r, eI Γ (a 4) 96 lt, eI Γ (a 7) 3 u3]
                    obtain ⟨o1, o2, o3, o4⟩ := miO_ok hlt hM (by omega)
                    have hrs : rsB lt lm p = true := by
                      cases z : rsB lt lm p with
                      | true => rfl
                      | false =>
                        have e := (rs_miO (f := f) hlt).2 z
                        have hbd := rsP_bd (lt := lt) (lm := lm) (p := p)
                        rw [hM] at e; exact absurd e.symm (nI_n9 (by omega))
                    have hrP := ((rs_miO (f := f) hlt).1 hrs).2.1
                    have hl6 := lnS_le (sgS lt lm p)
                    refine r_ws K (ws1 := [mo h a hi lm rm (p + lnS (sgS lt lm p)) bi sd, eI Γ (a 0) 42 q, eI Γ (a 3) 42 r, eI Γ (a 4) 96 lt, eI Γ (a 7) 3 u3]) (by rw [hrP]; exact weq.rf) ?_
                    have hnb := hur hrs
                    refine r_istore K dX7_yard_94 (by decide) (lv1 := [(5, .int (bz (rsB lt lm p))), (4, .int (sgS lt lm p)), (3, .int (nI p)), (2, .int (-9)), (1, .int (nI nt)), (0, .ref h)]) rfl ?_
                    refine r_aload_n K dX7_yard_96 5 rfl ?_
                    refine r_iload K dX7_yard_97 1 rfl ?_
                    refine r_cVd K dX7_yard_99 (c_X7_isDone l Γ h a hi lm rm (p + lnS (sgS lt lm p)) bi sd q u3 (sgS lt lm p) (hJ) (ln_okC o1)) mX7_isDone q846 rfl (by decide) rfl rfl 5 rfl [0, 1, 4] [2, 3] rfl rfl [eI Γ (a 3) 42 r, eI Γ (a 4) 96 lt] rfl [mo h a hi lm rm (p + lnS (sgS lt lm p)) bi sd, eI Γ (a 0) 42 (dnX q (sgS lt lm p) (u3 0) (u3 1) (u3 2)), eI Γ (a 3) 42 r, eI Γ (a 4) 96 lt, eI Γ (a 7) 3 u3] rfl rfl rfl [] rfl (Nat.le_of_ble_eq_true rfl) ?_
                    refine r_top (y := bz (stB q lt lm p)) (congrArg bz (nb_stB hnb)) ?_
                    refine r_arr K (f2 := stR q lt lm p) (ws1 := [mo h a hi lm rm (p + lnS (sgS lt lm p)) bi sd, eI Γ (a 0) 42 (stR q lt lm p), eI Γ (a 3) 42 r, eI Γ (a 4) 96 lt, eI Γ (a 7) 3 u3]) 1 rfl (fun _ _ => by rw [nb_stR hnb]) rfl ?_
                    refine r_ifeqB K dX7_yard_102 (fun c102 => ?_) (fun c102 => ?_)
                    · have hy := ya_2 hF9 (hE.trans (tlO_f hlt c102)) (by omega)
                      refine r_sipush K dX7_yard_108 ((-2000)) (by decide) ?_
                      refine r_iload_n K dX7_yard_111 2 rfl ?_
                      refine r_isub K dX7_yard_112 ?_
                      refine r_istore_n K dX7_yard_113 rfl (by decide) (lv1 := [(2, .int ((-2000) - (nI p))), (5, .int (bz (rsB lt lm p))), (4, .int (sgS lt lm p)), (3, .int (nI p)), (1, .int (nI nt)), (0, .ref h)]) rfl ?_
                      refine r_aload_n K dX7_yard_114 5 rfl ?_
                      refine r_get K dX7_yard_115 (kf := 3) 0 rfl rfl hinX7 (by decide) q760 rfl rfl ?_
                      refine r_aload_n K dX7_yard_118 5 rfl ?_
                      refine r_get K dX7_yard_119 (kf := 0) 0 rfl rfl hinX7 (by decide) q757 rfl rfl ?_
                      refine r_cSn K dX7_yard_122 (c_X7_copies l Γ (a 3) (a 0) r (stR q lt lm p)) mX7_copies q843 rfl (by decide) 5 rfl [2, 1] [0, 3, 4] rfl rfl [mo h a hi lm rm (p + lnS (sgS lt lm p)) bi sd, eI Γ (a 4) 96 lt, eI Γ (a 7) 3 u3] rfl [mo h a hi lm rm (p + lnS (sgS lt lm p)) bi sd, eI Γ (a 0) 42 r, eI Γ (a 3) 42 r, eI Γ (a 4) 96 lt, eI Γ (a 7) 3 u3] rfl rfl rfl [] rfl (Nat.le_of_ble_eq_true rfl) ?_
                      refine r_goto K dX7_yard_125 ?_
                      refine r_iload_n K dX7_yard_62 0 rfl ?_
                      refine r_bipush K dX7_yard_63 ((-9)) (by decide) ?_
                      refine r_ic_ne K dX7_yard_65 (fun c65 => ?_) (fun c65 => ?_)
                      · refine r_aload_n K dX7_yard_128 5 rfl ?_
                        refine r_iconst K dX7_yard_129 (nI 0) (by decide) ?_
                        refine r_put K dX7_yard_130 (kf := 8) (ty := .int) (ws1 := [mo h a hi 0 rm (p + lnS (sgS lt lm p)) bi sd, eI Γ (a 0) 42 r, eI Γ (a 3) 42 r, eI Γ (a 4) 96 lt, eI Γ (a 7) 3 u3]) 0 rfl rfl hinX7 tyX7 tyX7_ok nmX7 (by decide) q765 rfl (by decide +kernel) rfl rfl (Nat.le_of_ble_eq_true rfl) rfl ?_
                        refine r_iload_n K dX7_yard_133 0 rfl ?_
                        refine r_bipush K dX7_yard_134 ((-9)) (by decide) ?_
                        refine r_ic_ne K dX7_yard_136 (fun c136 => ?_) (fun c136 => ?_)
                        · refine r_iload_n K dX7_yard_143 0 rfl ?_
                          refine r_arr K (f2 := yaR lt lm r) (ws1 := [mo h a hi 0 rm (p + lnS (sgS lt lm p)) bi sd, eI Γ (a 0) 42 (yaR lt lm r), eI Γ (a 3) 42 r, eI Γ (a 4) 96 lt, eI Γ (a 7) 3 u3]) 1 rfl (fun _ _ => by rw [hy.2]) rfl ?_
                          exact hR (u3, r, p + lnS (sgS lt lm p)) dX7_yard_144 (trivial) (e_ri (hy.1)) (weq.rf)
                        · exact absurd c136 (k2n (by omega)).2
                      · exact absurd c65 (k2n (by omega)).2
                    · refine r_goto K dX7_yard_105 ?_
                      refine r_lv K [3, 4, 5] rfl ?_
                      exact ih_L62 f (p + lnS (sgS lt lm p)) (m + 1) (stR q lt lm p) u3 (by omega) (by omega) (by omega) (o4) (Inv_stR hJ (fun hc => miO_kind hlt hM (by omega) hc)) (hE.trans (tlO_t hlt c102)) (by rw [← hN, stN_s hlt]; omega) (by omega)
            refine r_lv K [1, 0, 2] rfl ?_
            exact L62 _ (lm + 1) 0 0 r u1 (by omega) (Nat.zero_le _) (Nat.le_refl _) (fMis_9 hF9) (hI) (rfl) (hN1) (Nat.lt_succ_self _)
      · obtain ⟨f, rfl⟩ : ∃ z, f = z + 1 := ⟨f - 1, by omega⟩
        have hbd := rsP_bd (lt := lt) (lm := lm) (p := p)
        have hF := fMis_rs hpl hM c14
        have hy := ya_1 (r := r) hF (by omega)
        refine r_sipush K dX7_yard_17 ((-1000)) (by decide) ?_
        refine r_aload_n K dX7_yard_20 2 rfl ?_
        refine r_get K dX7_yard_21 (kf := 10) 0 rfl rfl hinX7 (by decide) q767 rfl rfl ?_
        refine r_isub K dX7_yard_24 ?_
        refine r_istore_n K dX7_yard_25 rfl (by decide) (lv1 := [(2, .int ((-1000) - (nI (rsP lt lm p)))), (1, .int (nI n)), (0, .ref h)]) rfl ?_
        refine r_iincN K dX7_yard_26 (n := 1) 1 rfl rfl (by decide) (lv1 := [(1, .int (nI (n + 1))), (2, .int ((-1000) - (nI (rsP lt lm p)))), (0, .ref h)]) rfl ?_
        refine r_iload_n K dX7_yard_29 1 rfl ?_
        refine r_bipush K dX7_yard_30 ((-9)) (by decide) ?_
        refine r_ic_ne K dX7_yard_32 (fun c32 => ?_) (fun c32 => ?_)
        · refine r_aload_n K dX7_yard_46 2 rfl ?_
          refine r_get K dX7_yard_47 (kf := 0) 0 rfl rfl hinX7 (by decide) q757 rfl rfl ?_
          refine r_aload_n K dX7_yard_50 2 rfl ?_
          refine r_get K dX7_yard_51 (kf := 3) 0 rfl rfl hinX7 (by decide) q760 rfl rfl ?_
          refine r_cSn K dX7_yard_54 (c_X7_copies l Γ (a 0) (a 3) r wa) mX7_copies q843 rfl (by decide) 5 rfl [1, 2] [0, 3, 4] rfl rfl [mo h a hi lm rm (rsP lt lm p) bi sd, eI Γ (a 4) 96 lt, eI Γ (a 7) 3 u1] rfl [mo h a hi lm rm (rsP lt lm p) bi sd, eI Γ (a 0) 42 r, eI Γ (a 3) 42 r, eI Γ (a 4) 96 lt, eI Γ (a 7) 3 u1] rfl rfl rfl [] rfl (Nat.le_of_ble_eq_true rfl) ?_
          refine r_aload_n K dX7_yard_57 2 rfl ?_
          refine r_iconst K dX7_yard_58 (nI 0) (by decide) ?_
          refine r_put K dX7_yard_59 (kf := 10) (ty := .int) (ws1 := [mo h a hi lm rm 0 bi sd, eI Γ (a 0) 42 r, eI Γ (a 3) 42 r, eI Γ (a 4) 96 lt, eI Γ (a 7) 3 u1]) 0 rfl rfl hinX7 tyX7 tyX7_ok nmX7 (by decide) q767 rfl (by decide +kernel) rfl rfl (Nat.le_of_ble_eq_true rfl) rfl ?_
          refine r_iload_n K dX7_yard_62 1 rfl ?_
          refine r_bipush K dX7_yard_63 ((-9)) (by decide) ?_
          refine r_ic_ne K dX7_yard_65 (fun c65 => ?_) (fun c65 => ?_)
          · refine r_aload_n K dX7_yard_128 2 rfl ?_
            refine r_iconst K dX7_yard_129 (nI 0) (by decide) ?_
            refine r_put K dX7_yard_130 (kf := 8) (ty := .int) (ws1 := [mo h a hi 0 rm 0 bi sd, eI Γ (a 0) 42 r, eI Γ (a 3) 42 r, eI Γ (a 4) 96 lt, eI Γ (a 7) 3 u1]) 0 rfl rfl hinX7 tyX7 tyX7_ok nmX7 (by decide) q765 rfl (by decide +kernel) rfl rfl (Nat.le_of_ble_eq_true rfl) rfl ?_
            refine r_iload_n K dX7_yard_133 1 rfl ?_
            refine r_bipush K dX7_yard_134 ((-9)) (by decide) ?_
            refine r_ic_ne K dX7_yard_136 (fun c136 => ?_) (fun c136 => ?_)
            · refine r_iload_n K dX7_yard_143 1 rfl ?_
              refine r_arr K (f2 := yaR lt lm r) (ws1 := [mo h a hi 0 rm 0 bi sd, eI Γ (a 0) 42 (yaR lt lm r), eI Γ (a 3) 42 r, eI Γ (a 4) 96 lt, eI Γ (a 7) 3 u1]) 1 rfl (fun _ _ => by rw [hy.2]) rfl ?_
              exact hR (u1, r, 0) dX7_yard_144 (trivial) (e_ri (hy.1)) (weq.rf)
            · exact absurd c136 (k1n (by omega)).2
          · exact absurd c65 (k1n (by omega)).2
        · exact absurd c32 (k1n (by omega)).2
  exact L10 _ (lm + 1) 0 0 nb (by omega) (by omega) (fun z => fMis_s (by omega)) ((Nat.zero_add _).symm) (Nat.le_refl _) (Nat.lt_succ_self _)
