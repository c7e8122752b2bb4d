/-! THE LAW: a step, the loop, the start -/
def lwLen (V : Nat → List (Nat × Value) → List Value → List va_W → Prop) (bS L : Nat) : Prop := ∀ {pc nx : Nat} {lv : List (Nat × Value)} {st : List Value} {ws : List va_W}, eN cL_law pc .arraylength 1 nx → V nx lv (.int (nI L) :: st) ws → V pc lv (.ref bS :: st) ws
def lwRet (V : Nat → List (Nat × Value) → List Value → List va_W → Prop) : Prop := ∀ {pc nx : Nat} {lv : List (Nat × Value)} {ws : List va_W}, eN cL_law pc .ireturn 1 nx → V pc lv [.int (nI 1)] ws
set_option maxHeartbeats 2000000 in
set_option maxRecDepth 20000 in
theorem law_step {l : Launch} {L : Nat} {xs : Nat → Int32} {V : Nat → List (Nat × Value) → List Value → List va_W → Prop} {Γ : eG} {h : Nat} {b an ad ap am : Nat → Nat} {h2 : Nat} {a : Nat → Nat} {bS : Nat} {i : Nat} (K : eK l Γ RL cL_law 4 20 V) (hSl : lwSl V bS L xs) (hLen : lwLen V bS L) (hRet : lwRet V) (hL : L ≤ 3072) (hi3 : i ≤ 3072) (hnext : i + 6 ≤ L → lwGo V Γ h b an ad ap am h2 a bS (i + 6)) : lwGo V Γ h b an ad ap am h2 a bS i := by
  intro r img q mi m2 wa lt rw rf f0 f1 f2 dw nb gi bg po sd be bi sd2 lm rm pc hi hI hJ hl hr
  refine r_iload_n K dL_law_18 0 rfl ?_
  refine r_aload_n K dL_law_19 3 rfl ?_
  refine hLen dL_law_20 ?_
  refine r_bipush K dL_law_21 (nI 6) (by decide) ?_
  refine r_isub K dL_law_23 ?_
  refine r_ic_gt K dL_law_24 (fun c24 => ?_) (fun c24 => ?_)
  · refine r_iconst K dL_law_1300 (nI 1) (by decide) ?_
    exact hRet dL_law_1301
  · have hiL := lw_in hL (by omega) c24
    have hn := hnext hiL
    refine r_aload_n K dL_law_27 3 rfl ?_
    refine r_iload_n K dL_law_28 0 rfl ?_
    refine hSl i dL_law_29 (by omega) ?_
    refine r_bipush K dL_law_30 (nI 63) (by decide) ?_
    refine r_iand K dL_law_32 ?_
    refine r_tsw K dL_law_33.1 [204, 227, 240, 273, 306, 339, 362, 385, 418, 451, 494, 517, 560, 593, 616, 649, 672, 695, 738, 761, 794, 827, 850, 883, 896, 919, 932, 975, 1009, 1073, 1097, 1120, 1153, 1176, 1189, 1202, 1245, 1258, 1271] 1294 (by decide) (by decide) (by decide) ⟨fun c33 => ?_, fun c33 => ?_, fun c33 => ?_, fun c33 => ?_, fun c33 => ?_, fun c33 => ?_, fun c33 => ?_, fun c33 => ?_, fun c33 => ?_, fun c33 => ?_, fun c33 => ?_, fun c33 => ?_, fun c33 => ?_, fun c33 => ?_, fun c33 => ?_, fun c33 => ?_, fun c33 => ?_, fun c33 => ?_, fun c33 => ?_, fun c33 => ?_, fun c33 => ?_, fun c33 => ?_, fun c33 => ?_, fun c33 => ?_, fun c33 => ?_, fun c33 => ?_, fun c33 => ?_, fun c33 => ?_, fun c33 => ?_, fun c33 => ?_, fun c33 => ?_, fun c33 => ?_, fun c33 => ?_, fun c33 => ?_, fun c33 => ?_, fun c33 => ?_, fun c33 => ?_, fun c33 => ?_, fun c33 => ?_, trivial⟩ (fun c33 => ?_)
    · have c33 : (xs i) &&& (nI 63) = nI 0 := c33
      exact law_c0 (k := 0) K hSl hn hiL hL r img q mi m2 wa lt rw rf f0 f1 f2 dw nb gi bg po sd be bi sd2 lm rm pc hi hI hJ hl hr
    · have c33 : (xs i) &&& (nI 63) = nI 1 := c33
      exact law_c1 (k := 0) K hSl hn hiL hL r img q mi m2 wa lt rw rf f0 f1 f2 dw nb gi bg po sd be bi sd2 lm rm pc hi hI hJ hl hr
    · have c33 : (xs i) &&& (nI 63) = nI 2 := c33
      exact law_c2 (k := 0) K hSl hn hiL hL r img q mi m2 wa lt rw rf f0 f1 f2 dw nb gi bg po sd be bi sd2 lm rm pc hi hI hJ hl hr
    · have c33 : (xs i) &&& (nI 63) = nI 3 := c33
      exact law_c3 (k := 0) K hSl hn hiL hL r img q mi m2 wa lt rw rf f0 f1 f2 dw nb gi bg po sd be bi sd2 lm rm pc hi hI hJ hl hr
    · have c33 : (xs i) &&& (nI 63) = nI 4 := c33
      exact law_c4 (k := 0) K hSl hn hiL hL r img q mi m2 wa lt rw rf f0 f1 f2 dw nb gi bg po sd be bi sd2 lm rm pc hi hI hJ hl hr
    · have c33 : (xs i) &&& (nI 63) = nI 5 := c33
      exact law_c5 (k := 0) K hSl hn hiL hL r img q mi m2 wa lt rw rf f0 f1 f2 dw nb gi bg po sd be bi sd2 lm rm pc hi hI hJ hl hr
    · have c33 : (xs i) &&& (nI 63) = nI 6 := c33
      exact law_c6 (k := 0) K hSl hn hiL hL r img q mi m2 wa lt rw rf f0 f1 f2 dw nb gi bg po sd be bi sd2 lm rm pc hi hI hJ hl hr
    · have c33 : (xs i) &&& (nI 63) = nI 7 := c33
      exact law_c7 (k := 0) K hSl hn hiL hL r img q mi m2 wa lt rw rf f0 f1 f2 dw nb gi bg po sd be bi sd2 lm rm pc hi hI hJ hl hr
    · have c33 : (xs i) &&& (nI 63) = nI 8 := c33
      exact law_c8 (k := 0) K hSl hn hiL hL r img q mi m2 wa lt rw rf f0 f1 f2 dw nb gi bg po sd be bi sd2 lm rm pc hi hI hJ hl hr
    · have c33 : (xs i) &&& (nI 63) = nI 9 := c33
      exact law_c9 (k := 0) K hSl hn hiL hL r img q mi m2 wa lt rw rf f0 f1 f2 dw nb gi bg po sd be bi sd2 lm rm pc hi hI hJ hl hr
    · have c33 : (xs i) &&& (nI 63) = nI 10 := c33
      exact law_c10 (k := 0) K hSl hn hiL hL r img q mi m2 wa lt rw rf f0 f1 f2 dw nb gi bg po sd be bi sd2 lm rm pc hi hI hJ hl hr
    · have c33 : (xs i) &&& (nI 63) = nI 11 := c33
      exact law_c11 (k := 0) K hSl hn hiL hL r img q mi m2 wa lt rw rf f0 f1 f2 dw nb gi bg po sd be bi sd2 lm rm pc hi hI hJ hl hr
    · have c33 : (xs i) &&& (nI 63) = nI 12 := c33
      exact law_c12 (k := 0) K hSl hn hiL hL r img q mi m2 wa lt rw rf f0 f1 f2 dw nb gi bg po sd be bi sd2 lm rm pc hi hI hJ hl hr
    · have c33 : (xs i) &&& (nI 63) = nI 13 := c33
      exact law_c13 (k := 0) K hSl hn hiL hL r img q mi m2 wa lt rw rf f0 f1 f2 dw nb gi bg po sd be bi sd2 lm rm pc hi hI hJ hl hr
    · have c33 : (xs i) &&& (nI 63) = nI 14 := c33
      exact law_c14 (k := 0) K hSl hn hiL hL r img q mi m2 wa lt rw rf f0 f1 f2 dw nb gi bg po sd be bi sd2 lm rm pc hi hI hJ hl hr
    · have c33 : (xs i) &&& (nI 63) = nI 15 := c33
      exact law_c15 (k := 0) K hSl hn hiL hL r img q mi m2 wa lt rw rf f0 f1 f2 dw nb gi bg po sd be bi sd2 lm rm pc hi hI hJ hl hr
    · have c33 : (xs i) &&& (nI 63) = nI 16 := c33
      exact law_c16 (k := 0) K hSl hn hiL hL r img q mi m2 wa lt rw rf f0 f1 f2 dw nb gi bg po sd be bi sd2 lm rm pc hi hI hJ hl hr
    · have c33 : (xs i) &&& (nI 63) = nI 17 := c33
      exact law_c17 (k := 0) K hSl hn hiL hL r img q mi m2 wa lt rw rf f0 f1 f2 dw nb gi bg po sd be bi sd2 lm rm pc hi hI hJ hl hr
    · have c33 : (xs i) &&& (nI 63) = nI 18 := c33
      exact law_c18 (k := 0) K hSl hn hiL hL r img q mi m2 wa lt rw rf f0 f1 f2 dw nb gi bg po sd be bi sd2 lm rm pc hi hI hJ hl hr
    · have c33 : (xs i) &&& (nI 63) = nI 19 := c33
      exact law_c19 (k := 0) K hSl hn hiL hL r img q mi m2 wa lt rw rf f0 f1 f2 dw nb gi bg po sd be bi sd2 lm rm pc hi hI hJ hl hr
    · have c33 : (xs i) &&& (nI 63) = nI 20 := c33
      exact law_c20 (k := 0) K hSl hn hiL hL r img q mi m2 wa lt rw rf f0 f1 f2 dw nb gi bg po sd be bi sd2 lm rm pc hi hI hJ hl hr
    · have c33 : (xs i) &&& (nI 63) = nI 21 := c33
      exact law_c21 (k := 0) K hSl hn hiL hL r img q mi m2 wa lt rw rf f0 f1 f2 dw nb gi bg po sd be bi sd2 lm rm pc hi hI hJ hl hr
    · have c33 : (xs i) &&& (nI 63) = nI 22 := c33
      exact law_c22 (k := 0) K hSl hn hiL hL r img q mi m2 wa lt rw rf f0 f1 f2 dw nb gi bg po sd be bi sd2 lm rm pc hi hI hJ hl hr
    · have c33 : (xs i) &&& (nI 63) = nI 23 := c33
      exact law_c23 (k := 0) K hSl hn hiL hL r img q mi m2 wa lt rw rf f0 f1 f2 dw nb gi bg po sd be bi sd2 lm rm pc hi hI hJ hl hr
    · have c33 : (xs i) &&& (nI 63) = nI 24 := c33
      exact law_c24 (k := 0) K hSl hn hiL hL r img q mi m2 wa lt rw rf f0 f1 f2 dw nb gi bg po sd be bi sd2 lm rm pc hi hI hJ hl hr
    · have c33 : (xs i) &&& (nI 63) = nI 25 := c33
      exact law_c25 (k := 0) K hSl hn hiL hL r img q mi m2 wa lt rw rf f0 f1 f2 dw nb gi bg po sd be bi sd2 lm rm pc hi hI hJ hl hr
    · have c33 : (xs i) &&& (nI 63) = nI 26 := c33
      exact law_c26 (k := 0) K hSl hn hiL hL r img q mi m2 wa lt rw rf f0 f1 f2 dw nb gi bg po sd be bi sd2 lm rm pc hi hI hJ hl hr
    · have c33 : (xs i) &&& (nI 63) = nI 27 := c33
      exact law_c27 (k := 0) K hSl hn hiL hL r img q mi m2 wa lt rw rf f0 f1 f2 dw nb gi bg po sd be bi sd2 lm rm pc hi hI hJ hl hr
    · have c33 : (xs i) &&& (nI 63) = nI 28 := c33
      exact law_c28 (k := 0) K hSl hn hiL hL r img q mi m2 wa lt rw rf f0 f1 f2 dw nb gi bg po sd be bi sd2 lm rm pc hi hI hJ hl hr
    · have c33 : (xs i) &&& (nI 63) = nI 29 := c33
      exact law_c29 (k := 0) K hSl hn hiL hL r img q mi m2 wa lt rw rf f0 f1 f2 dw nb gi bg po sd be bi sd2 lm rm pc hi hI hJ hl hr
    · have c33 : (xs i) &&& (nI 63) = nI 30 := c33
      exact law_c30 (k := 0) K hSl hn hiL hL r img q mi m2 wa lt rw rf f0 f1 f2 dw nb gi bg po sd be bi sd2 lm rm pc hi hI hJ hl hr
    · have c33 : (xs i) &&& (nI 63) = nI 31 := c33
      exact law_c31 (k := 0) K hSl hn hiL hL r img q mi m2 wa lt rw rf f0 f1 f2 dw nb gi bg po sd be bi sd2 lm rm pc hi hI hJ hl hr
    · have c33 : (xs i) &&& (nI 63) = nI 32 := c33
      exact law_c32 (k := 0) K hSl hn hiL hL r img q mi m2 wa lt rw rf f0 f1 f2 dw nb gi bg po sd be bi sd2 lm rm pc hi hI hJ hl hr
    · have c33 : (xs i) &&& (nI 63) = nI 33 := c33
      exact law_c33 (k := 0) K hSl hn hiL hL r img q mi m2 wa lt rw rf f0 f1 f2 dw nb gi bg po sd be bi sd2 lm rm pc hi hI hJ hl hr
    · have c33 : (xs i) &&& (nI 63) = nI 34 := c33
      exact law_c34 (k := 0) K hSl hn hiL hL r img q mi m2 wa lt rw rf f0 f1 f2 dw nb gi bg po sd be bi sd2 lm rm pc hi hI hJ hl hr
    · have c33 : (xs i) &&& (nI 63) = nI 35 := c33
      exact law_c35 (k := 0) K hSl hn hiL hL r img q mi m2 wa lt rw rf f0 f1 f2 dw nb gi bg po sd be bi sd2 lm rm pc hi hI hJ hl hr
    · have c33 : (xs i) &&& (nI 63) = nI 36 := c33
      exact law_c36 (k := 0) K hSl hn hiL hL r img q mi m2 wa lt rw rf f0 f1 f2 dw nb gi bg po sd be bi sd2 lm rm pc hi hI hJ hl hr
    · have c33 : (xs i) &&& (nI 63) = nI 37 := c33
      exact law_c37 (k := 0) K hSl hn hiL hL r img q mi m2 wa lt rw rf f0 f1 f2 dw nb gi bg po sd be bi sd2 lm rm pc hi hI hJ hl hr
    · have c33 : (xs i) &&& (nI 63) = nI 38 := c33
      exact law_c38 (k := 0) K hSl hn hiL hL r img q mi m2 wa lt rw rf f0 f1 f2 dw nb gi bg po sd be bi sd2 lm rm pc hi hI hJ hl hr
    · have c33 : ∀ v : Nat, 0 ≤ v → v ≤ 38 → v < 2 ^ 31 → ¬ (xs i) &&& (nI 63) = nI v := tsw_out c33
      refine r_iincN K dL_law_1294 (n := 6) 0 rfl rfl (by decide) (lv1 := [(3, .int (nI (i + 6))), (2, .ref h2), (1, .ref h), (0, .ref bS)]) rfl ?_
      refine r_goto K dL_law_1297 ?_
      exact hn r img q mi m2 wa lt rw rf f0 f1 f2 dw nb gi bg po sd be bi sd2 lm rm pc hi hI hJ hl hr
theorem law_loop {l : Launch} {L : Nat} {xs : Nat → Int32} {V : Nat → List (Nat × Value) → List Value → List va_W → Prop} {Γ : eG} {h : Nat} {b an ad ap am : Nat → Nat} {h2 : Nat} {a : Nat → Nat} {bS : Nat} (K : eK l Γ RL cL_law 4 20 V) (hSl : lwSl V bS L xs) (hLen : lwLen V bS L) (hRet : lwRet V) (hL : L ≤ 3072) : ∀ f i, L < f + i → i ≤ 3072 → lwGo V Γ h b an ad ap am h2 a bS i
  | 0, i, hf, h3 => law_step K hSl hLen hRet hL h3 (fun h => absurd h (by omega))
  | f + 1, i, hf, h3 => law_step K hSl hLen hRet hL h3 (fun h => law_loop K hSl hLen hRet hL f (i + 6) (by omega) (by omega))
set_option maxRecDepth 20000 in
theorem law_weq {Γ : eG} {h h2 : Nat} {u : (Nat → Nat) × (Nat → Nat) × (Nat → Nat) × (Nat → Nat) × (Nat → Nat)} {a : Nat → Nat} : weq [goC Γ h u, moC Γ h2 a].flatten [go h u.1 0 false, ydW Γ (u.1 0) u.2.1 z0, ydW Γ (u.1 1) u.2.2.1 z0, ydW Γ (u.1 2) u.2.2.2.1 z0, eO (u.1 3) 3 [.ref (u.1 0), .ref (u.1 8), .ref (u.1 9), .int (nI 0)], ydW Γ (u.1 8) u.2.2.2.2 z0, eI Γ (u.1 9) 7 z0, eO (u.1 4) 1 [.ref (u.1 10), .int (nI 0)], eI Γ (u.1 10) 96 z0, eO (u.1 5) 2 [.ref (u.1 11), .ref (u.1 12), .ref (u.1 13), .int (nI 0)], eI Γ (u.1 11) 64 z0, eI Γ (u.1 12) 64 z0, eI Γ (u.1 13) 64 z0, eI Γ (u.1 6) 16 z0, eI Γ (u.1 7) 7 z0, mo h2 a false 0 0 0 (nI 0) (nI 0), eI Γ (a 0) 42 z0, eI Γ (a 1) 42 z0, eI Γ (a 2) 42 z0, eI Γ (a 3) 42 z0, eI Γ (a 4) 96 z0, eI Γ (a 5) 16 z0, eI Γ (a 6) 7 z0, eI Γ (a 7) 3 z0, eI Γ (a 8) 6 z0, eI Γ (a 9) 6 z0, eI Γ (a 10) 5 z0].flatten := by
  unfold goC moC goL moL
  refine weq.of ?_
  simp only [List.flatten_cons, List.flatten_nil, List.append_nil, List.append_assoc]
set_option maxHeartbeats 2000000 in
set_option maxRecDepth 20000 in
theorem law_start {l : Launch} {Γ : eG} {L : Nat} {xs : Nat → Int32} {bS : Nat} {VV : eVV} (KN : eKN l Γ RL cL_law 4 20 600000 7302250 false VV) (hSl : ∀ c s, lwSl (VV c s) bS L xs) (hLen : ∀ c s, lwLen (VV c s) bS L) (hRet : ∀ c s, c ≤ 600000 → s ≤ 7302250 → lwRet (VV c s)) (hL : L ≤ 3072) : VV 0 0 0 [(0, .ref bS)] [] [] := by
  have K := KN.K (c := 0) (s := 0) (Nat.le_of_ble_eq_true rfl) (Nat.le_of_ble_eq_true rfl)
  refine r_new KN (c := 0) (s := 0) (n := 10) [.null, .null, .null, .null, .null, .null, .null, .null, .int (nI 0), .int (nI 0)] dL_law_0 (ci := 4) rfl hinX6 tyX6 tyX6_ok q11 q12 q1 hfs_X6 (Nat.le_of_ble_eq_true rfl) (Nat.le_of_ble_eq_true rfl) (fun nq1 => ?_)
  show VV 1 10 3 [(0, .ref bS)] [.ref nq1] [eO nq1 4 [.null, .null, .null, .null, .null, .null, .null, .null, .int (nI 0), .int (nI 0)]]
  have K := KN.K (c := 1) (s := 10) (Nat.le_of_ble_eq_true rfl) (Nat.le_of_ble_eq_true rfl)
  refine r_dup K dL_law_3 rfl ?_
  refine r_cI KN (c := 1) (s := 10) dL_law_4 (c_X6_init l Γ nq1 ) mX6_init ⟨rfl, q14⟩ q13 rfl (by decide) (Nat.le_of_ble_eq_true rfl) (Nat.le_of_ble_eq_true rfl) 1 rfl [0] [] rfl rfl [] rfl (fun u => [goC Γ nq1 u]) (fun _ => rfl) (fun _ => rfl) (fun _ => rfl) [.ref nq1] rfl (Nat.le_of_ble_eq_true rfl) (fun u2 => ?_)
  show VV 43 534 7 [(0, .ref bS)] [.ref nq1] [goC Γ nq1 u2]
  have K := KN.K (c := 43) (s := 534) (Nat.le_of_ble_eq_true rfl) (Nat.le_of_ble_eq_true rfl)
  refine r_astore_n K dL_law_7 rfl (by decide) (lv1 := [(1, .ref nq1), (0, .ref bS)]) rfl ?_
  refine r_new KN (c := 43) (s := 534) (n := 17) [.null, .null, .null, .null, .int (nI 0), .null, .null, .null, .int (nI 0), .int (nI 0), .int (nI 0), .null, .null, .null, .null, .int (nI 0), .int (nI 0)] dL_law_8 (ci := 5) rfl hinX7 tyX7 tyX7_ok q751 q752 q6 hfs_X7 (Nat.le_of_ble_eq_true rfl) (Nat.le_of_ble_eq_true rfl) (fun nq3 => ?_)
  show VV 44 551 11 [(1, .ref nq1), (0, .ref bS)] [.ref nq3] [goC Γ nq1 u2, eO nq3 5 [.null, .null, .null, .null, .int (nI 0), .null, .null, .null, .int (nI 0), .int (nI 0), .int (nI 0), .null, .null, .null, .null, .int (nI 0), .int (nI 0)]]
  have K := KN.K (c := 44) (s := 551) (Nat.le_of_ble_eq_true rfl) (Nat.le_of_ble_eq_true rfl)
  refine r_dup K dL_law_11 rfl ?_
  refine r_cI KN (c := 44) (s := 551) dL_law_12 (c_X7_init l Γ nq3 ) mX7_init ⟨rfl, q754⟩ q753 rfl (by decide) (Nat.le_of_ble_eq_true rfl) (Nat.le_of_ble_eq_true rfl) 2 rfl [1] [0] rfl rfl [goC Γ nq1 u2] rfl (fun u => [goC Γ nq1 u2, moC Γ nq3 u]) (fun _ => rfl) (fun _ => rfl) (fun _ => rfl) [.ref nq3] rfl (Nat.le_of_ble_eq_true rfl) (fun u4 => ?_)
  show VV 55 858 15 [(1, .ref nq1), (0, .ref bS)] [.ref nq3] [goC Γ nq1 u2, moC Γ nq3 u4]
  have K := KN.K (c := 55) (s := 858) (Nat.le_of_ble_eq_true rfl) (Nat.le_of_ble_eq_true rfl)
  refine r_astore_n K dL_law_15 rfl (by decide) (lv1 := [(2, .ref nq3), (1, .ref nq1), (0, .ref bS)]) rfl ?_
  refine r_iconst K dL_law_16 (nI 0) (by decide) ?_
  refine r_istore_n K dL_law_17 rfl (by decide) (lv1 := [(3, .int (nI 0)), (2, .ref nq3), (1, .ref nq1), (0, .ref bS)]) rfl ?_
  refine r_ws K (ws1 := [go nq1 u2.1 0 false, ydW Γ (u2.1 0) u2.2.1 z0, ydW Γ (u2.1 1) u2.2.2.1 z0, ydW Γ (u2.1 2) u2.2.2.2.1 z0, eO (u2.1 3) 3 [.ref (u2.1 0), .ref (u2.1 8), .ref (u2.1 9), .int (nI 0)], ydW Γ (u2.1 8) u2.2.2.2.2 z0, eI Γ (u2.1 9) 7 z0, eO (u2.1 4) 1 [.ref (u2.1 10), .int (nI 0)], eI Γ (u2.1 10) 96 z0, eO (u2.1 5) 2 [.ref (u2.1 11), .ref (u2.1 12), .ref (u2.1 13), .int (nI 0)], eI Γ (u2.1 11) 64 z0, eI Γ (u2.1 12) 64 z0, eI Γ (u2.1 13) 64 z0, eI Γ (u2.1 6) 16 z0, eI Γ (u2.1 7) 7 z0, mo nq3 u4 false 0 0 0 (nI 0) (nI 0), eI Γ (u4 0) 42 z0, eI Γ (u4 1) 42 z0, eI Γ (u4 2) 42 z0, eI Γ (u4 3) 42 z0, eI Γ (u4 4) 96 z0, eI Γ (u4 5) 16 z0, eI Γ (u4 6) 7 z0, eI Γ (u4 7) 3 z0, eI Γ (u4 8) 6 z0, eI Γ (u4 9) 6 z0, eI Γ (u4 10) 5 z0]) law_weq ?_
  refine r_lc (lv1 := [(3, .int (nI 0)), (2, .ref nq3), (1, .ref nq1), (0, .ref bS)]) rfl ?_
  exact law_loop K (hSl _ _) (hLen _ _) (hRet _ _ (Nat.le_of_ble_eq_true rfl) (Nat.le_of_ble_eq_true rfl)) hL (L + 1) 0 (by omega) (by omega) z0 z0 z0 z0 z0 z0 z0 z0 z0 z0 z0 z0 z0 z0 z0 z0 z0 (nI 0) (nI 0) (nI 0) (nI 0) 0 0 0 false Inv_z0 Inv_z0 (Nat.zero_le _) (Nat.zero_le _)
