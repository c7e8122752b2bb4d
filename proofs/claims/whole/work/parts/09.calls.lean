/-! CALLS over V: by contract, the frame by chunks -/
def eM (y : MethodName) (bytes : ByteArray) (maxL : Nat) (ret : Option FieldType) (n : Nat) : Prop :=
  (y.cls ≠ "java/lang/invoke/MethodHandle" ∧ y.cls ≠ "java/lang/invoke/VarHandle" ∧ (parseMethodDescriptor y.desc).map (fun d => d.parameters.length) = some n) ∧ Cond.code y bytes maxL ret ∈ eT ∧ Cond.initialized y.cls ∈ eT ∧ maxL ≤ 21
def eMv (y : MethodName) (bytes : ByteArray) (maxL : Nat) (ret : Option FieldType) (n : Nat) : Prop := eM y bytes maxL ret n ∧ Cond.instanceMethod y ∈ eT ∧ Cond.selects y.cls y y ∈ eT
def eMs (y : MethodName) (bytes : ByteArray) (maxL : Nat) (ret : Option FieldType) (n : Nat) : Prop := eM y bytes maxL ret n ∧ Cond.static y ∈ eT
theorem e_callB {R : Room} {s : State} {args : Array Value} {own : String} {index kc k maxL n : Nat} {y : MethodName} {bytes : ByteArray} {ret : Option FieldType} (hts : ∀ w ∈ eT, w.before args s = true) (hy : eM y bytes maxL ret n) (hlk : Cond.methodLink own index y ∈ eT) (hk : kc + 1 ≤ k) (hfr : k ≤ R.frames) (hlo : 40 * k ≤ R.locals) :
    CallB R s args own index y bytes maxL ret (.code y bytes maxL ret :: eT) (rm kc) 0 0 n := by
  obtain ⟨hd, hcode, hini, hm⟩ := hy
  refine callB_of n hts (fun w hw => ?_) rfl rfl rfl (hts _ hini) (hts _ hlk) hd ⟨?_, ?_⟩
  · rcases List.mem_cons.mp hw with rfl | hw
    · exact ⟨hcode, good_of_word (e_good _ hcode)⟩
    · exact ⟨hw, good_of_word (e_good _ hw)⟩
  · show kc + 1 ≤ R.frames
    omega
  · show 8 + (maxL + 11) + 40 * kc ≤ R.locals
    omega
section CALLS
variable {l : Launch} {Γ : eG} {own : String} {cc : ByteArray} {nL k : Nat} {V : Nat → List (Nat × Value) → List Value → List va_W → Prop}
variable {pc nx : Nat} {lv : List (Nat × Value)} {st : List Value} {ws : List va_W}
variable {index kc n maxL b ci N : Nat} {y : MethodName} {bytes : ByteArray} {ret : Option FieldType} {As : List Value} {w0 : List va_W} {S : Type} {post : S → Prop} {res : S → Option Value} {w1 : S → List va_W} {fs : List Value} {T : u_T}
set_option maxHeartbeats 2000000 in
theorem r_cV (K : eK l Γ own cc nL k V) (d : eN cc pc (.invokevirtual index) 3 nx) (hM : cE l Γ y bytes maxL ret kc (.ref b :: As) w0 post res w1) (hy : eMv y bytes maxL ret n) (hlk : Cond.methodLink own index y ∈ eT) (hn : As.length = n) (hk : kc + 1 ≤ k) (hb0 : w0.flatten[0]? = some (b, .inr (ci, fs))) (hc0 : cls[ci]? = some (y.cls, T, N))
    (nw : Nat) (hl0 : ws.length = nw) (isC isR : List Nat) (hp : (isC ++ isR).isPerm (List.range nw) = true) (hC : isC.map (fun i => ws.getD i []) = w0) (wr : List va_W) (hR0 : isR.map (fun i => ws.getD i []) = wr) (ws1 : S → List va_W) (hl1 : ∀ u, (ws1 u).length = nw) (hC1 : ∀ u, isC.map (fun i => (ws1 u).getD i []) = w1 u) (hR1 : ∀ u, isR.map (fun i => (ws1 u).getD i []) = wr)
    (rest : List Value) (hst : st = As.reverse ++ .ref b :: rest) (hr : (rest.map fun v => v.category).sum ≤ 8) (g : ∀ u, post u → V nx lv ((res u).toList ++ rest) (ws1 u)) : V pc lv st ws := by
  obtain ⟨p, e, R, s, m, args, below, meth, c, cells, slots, Q, A, hx, hb, hml, hown, hts, hK, hA, hX, hce, hse, hfr, hlo, rfl⟩ := K
  intro H locs ls hl hP hD hS
  subst hl0
  obtain ⟨d, rfl⟩ := d
  have hA2 : ∀ q, H.size ≤ q → A q := fun q h => hA q (Nat.le_trans hS.1 h)
  obtain ⟨hPc, hDc⟩ := e_sub isC isR hp hC hP hD
  have hF := e_free hDc hA2
  have hrun := va_runV (p := p) (e := e) (R := R) (s := s) (m := m) (args := args) (below := below) (meth := meth) (c := c) (H := H) (locs := locs) (cells := cells) (slots := slots) (g := F0 m pc ls st) (As := As) (rest := rest) (b := b) (C := y.cls) ⟨hx, hb, hml, hown, hts⟩ (hM H.size) ⟨e_callB hts hy.1 hlk hk hfr hlo, hts _ hy.2.1, hts _ hy.2.2⟩
    ⟨fun a U g mk q => ⟨q.1, q.2.1, q.2.2.1, va_K.moved (u := U) (U := U.calling g mk a) (Vm.Alike.refl U.vm) q.2.2.2.1, q.2.2.2.2.1, eX.moved (u := U) (U := U.calling g mk a) q.2.2.2.2.2 (Vm.Alike.refl U.vm) (fun _ _ _ => rfl) (fun _ h => h)⟩, va_recv hK hPc hc0 hb0, fun U hU hW => ⟨rfl, by rw [hU], by rw [hU]; exact hPc, va_K.moved hW.alike hK, hDc.weaken (fun _ _ _ _ => trivial), eX.moved hX hW.alike (fun a h1 h2 => by rw [hU]; exact hS.2.1 a h1 h2) hF⟩⟩
    rfl hn hl.1 hst (lv_room hr) d ⟨hce, hse⟩
  intro T0 hT X
  obtain ⟨v, st₀, t, T', L, h0, X', hL, e1, e2, ⟨⟨u, hv, hpu, hP1, hD1⟩, hz, hkk⟩, stp⟩ := hrun T0 hT X
  have hv := Outcome.returned.inj hv
  subst hv
  rw [h0] at hz hkk
  obtain ⟨hP', hD'⟩ := e_frame (H1 := T'.heap) isC isR hp hC (hl1 u) (hC1 u) (hR0.trans (hR1 u).symm) hP hD hA2 (fun q h1 h2 => by rw [e1]; exact hkk q h1 h2) (by rw [e1]; exact hP1) hD1
  obtain ⟨t2, a1, b1⟩ := g u hpu T'.heap (locs ++ L) ls hl hP' hD' ⟨Nat.le_trans hS.1 (by rw [e1]; exact hz), fun q h1 h2 => by rw [e1, hkk q (Nat.lt_of_lt_of_le h1 hS.1) (fun z => h2 (hF q z))]; exact hS.2.1 q h1 h2, fun q hq => by
      rcases List.mem_append.mp hq with h | h
      · exact hS.2.2 q h
      · exact hF _ (hL q h)⟩ T' rfl X'
  exact ⟨t2, stp t2 a1, b1⟩
set_option maxHeartbeats 2000000 in
theorem r_cS (K : eK l Γ own cc nL k V) (d : eN cc pc (.invokestatic index) 3 nx) (hM : cE l Γ y bytes maxL ret kc As w0 post res w1) (hy : eMs y bytes maxL ret n) (hlk : Cond.methodLink own index y ∈ eT) (hn : As.length = n) (hk : kc + 1 ≤ k)
    (nw : Nat) (hl0 : ws.length = nw) (isC isR : List Nat) (hp : (isC ++ isR).isPerm (List.range nw) = true) (hC : isC.map (fun i => ws.getD i []) = w0) (wr : List va_W) (hR0 : isR.map (fun i => ws.getD i []) = wr) (ws1 : S → List va_W) (hl1 : ∀ u, (ws1 u).length = nw) (hC1 : ∀ u, isC.map (fun i => (ws1 u).getD i []) = w1 u) (hR1 : ∀ u, isR.map (fun i => (ws1 u).getD i []) = wr)
    (rest : List Value) (hst : st = As.reverse ++ rest) (hr : (rest.map fun v => v.category).sum ≤ 8) (g : ∀ u, post u → V nx lv ((res u).toList ++ rest) (ws1 u)) : V pc lv st ws := by
  obtain ⟨p, e, R, s, m, args, below, meth, c, cells, slots, Q, A, hx, hb, hml, hown, hts, hK, hA, hX, hce, hse, hfr, hlo, rfl⟩ := K
  intro H locs ls hl hP hD hS
  subst hl0
  obtain ⟨d, rfl⟩ := d
  have hA2 : ∀ q, H.size ≤ q → A q := fun q h => hA q (Nat.le_trans hS.1 h)
  obtain ⟨hPc, hDc⟩ := e_sub isC isR hp hC hP hD
  have hF := e_free hDc hA2
  have hrun := va_runS (p := p) (e := e) (R := R) (s := s) (m := m) (args := args) (below := below) (meth := meth) (c := c) (H := H) (locs := locs) (cells := cells) (slots := slots) (g := F0 m pc ls st) (As := As) (rest := rest) ⟨hx, hb, hml, hown, hts⟩ (hM H.size) ⟨e_callB hts hy.1 hlk hk hfr hlo, hts _ hy.2⟩
    ⟨fun a U g mk q => ⟨q.1, q.2.1, q.2.2.1, va_K.moved (u := U) (U := U.calling g mk a) (Vm.Alike.refl U.vm) q.2.2.2.1, q.2.2.2.2.1, eX.moved (u := U) (U := U.calling g mk a) q.2.2.2.2.2 (Vm.Alike.refl U.vm) (fun _ _ _ => rfl) (fun _ h => h)⟩, fun U hU hW => ⟨rfl, by rw [hU], by rw [hU]; exact hPc, va_K.moved hW.alike hK, hDc.weaken (fun _ _ _ _ => trivial), eX.moved hX hW.alike (fun a h1 h2 => by rw [hU]; exact hS.2.1 a h1 h2) hF⟩⟩
    rfl hn hl.1 hst (lv_room hr) d ⟨hce, hse⟩
  intro T0 hT X
  obtain ⟨v, st₀, t, T', L, h0, X', hL, e1, e2, ⟨⟨u, hv, hpu, hP1, hD1⟩, hz, hkk⟩, stp⟩ := hrun T0 hT X
  have hv := Outcome.returned.inj hv
  subst hv
  rw [h0] at hz hkk
  obtain ⟨hP', hD'⟩ := e_frame (H1 := T'.heap) isC isR hp hC (hl1 u) (hC1 u) (hR0.trans (hR1 u).symm) hP hD hA2 (fun q h1 h2 => by rw [e1]; exact hkk q h1 h2) (by rw [e1]; exact hP1) hD1
  obtain ⟨t2, a1, b1⟩ := g u hpu T'.heap (locs ++ L) ls hl hP' hD' ⟨Nat.le_trans hS.1 (by rw [e1]; exact hz), fun q h1 h2 => by rw [e1, hkk q (Nat.lt_of_lt_of_le h1 hS.1) (fun z => h2 (hF q z))]; exact hS.2.1 q h1 h2, fun q hq => by
      rcases List.mem_append.mp hq with h | h
      · exact hS.2.2 q h
      · exact hF _ (hL q h)⟩ T' rfl X'
  exact ⟨t2, stp t2 a1, b1⟩
end CALLS
section CALLSD
variable {l : Launch} {Γ : eG} {own : String} {cc : ByteArray} {nL k : Nat} {V : Nat → List (Nat × Value) → List Value → List va_W → Prop}
variable {pc nx : Nat} {lv : List (Nat × Value)} {st : List Value} {ws : List va_W}
variable {index kc n maxL b ci N : Nat} {y : MethodName} {bytes : ByteArray} {ret : Option FieldType} {As : List Value} {w0 w1 : List va_W} {fs : List Value} {T : u_T}
/-- a call of one outcome: with an answer, without -/
theorem r_cVd (K : eK l Γ own cc nL k V) (d : eN cc pc (.invokevirtual index) 3 nx) {v : Value} (hM : cD l Γ y bytes maxL ret kc (.ref b :: As) w0 (some v) w1) (hy : eMv y bytes maxL ret n) (hlk : Cond.methodLink own index y ∈ eT) (hn : As.length = n) (hk : kc + 1 ≤ k) (hb0 : w0.flatten[0]? = some (b, .inr (ci, fs))) (hc0 : cls[ci]? = some (y.cls, T, N))
    (nw : Nat) (hl0 : ws.length = nw) (isC isR : List Nat) (hp : (isC ++ isR).isPerm (List.range nw) = true) (hC : isC.map (fun i => ws.getD i []) = w0) (wr : List va_W) (hR0 : isR.map (fun i => ws.getD i []) = wr) (ws1 : List va_W) (hl1 : ws1.length = nw) (hC1 : isC.map (fun i => ws1.getD i []) = w1) (hR1 : isR.map (fun i => ws1.getD i []) = wr)
    (rest : List Value) (hst : st = As.reverse ++ .ref b :: rest) (hr : (rest.map fun v => v.category).sum ≤ 8) (g : V nx lv (v :: rest) ws1) : V pc lv st ws :=
  r_cV K d hM hy hlk hn hk hb0 hc0 nw hl0 isC isR hp hC wr hR0 (fun _ => ws1) (fun _ => hl1) (fun _ => hC1) (fun _ => hR1) rest hst hr (fun _ _ => g)
theorem r_cVn (K : eK l Γ own cc nL k V) (d : eN cc pc (.invokevirtual index) 3 nx) (hM : cD l Γ y bytes maxL ret kc (.ref b :: As) w0 none w1) (hy : eMv y bytes maxL ret n) (hlk : Cond.methodLink own index y ∈ eT) (hn : As.length = n) (hk : kc + 1 ≤ k) (hb0 : w0.flatten[0]? = some (b, .inr (ci, fs))) (hc0 : cls[ci]? = some (y.cls, T, N))
    (nw : Nat) (hl0 : ws.length = nw) (isC isR : List Nat) (hp : (isC ++ isR).isPerm (List.range nw) = true) (hC : isC.map (fun i => ws.getD i []) = w0) (wr : List va_W) (hR0 : isR.map (fun i => ws.getD i []) = wr) (ws1 : List va_W) (hl1 : ws1.length = nw) (hC1 : isC.map (fun i => ws1.getD i []) = w1) (hR1 : isR.map (fun i => ws1.getD i []) = wr)
    (rest : List Value) (hst : st = As.reverse ++ .ref b :: rest) (hr : (rest.map fun v => v.category).sum ≤ 8) (g : V nx lv rest ws1) : V pc lv st ws :=
  r_cV K d hM hy hlk hn hk hb0 hc0 nw hl0 isC isR hp hC wr hR0 (fun _ => ws1) (fun _ => hl1) (fun _ => hC1) (fun _ => hR1) rest hst hr (fun _ _ => g)
theorem r_cSd (K : eK l Γ own cc nL k V) (d : eN cc pc (.invokestatic index) 3 nx) {v : Value} (hM : cD l Γ y bytes maxL ret kc As w0 (some v) w1) (hy : eMs y bytes maxL ret n) (hlk : Cond.methodLink own index y ∈ eT) (hn : As.length = n) (hk : kc + 1 ≤ k)
    (nw : Nat) (hl0 : ws.length = nw) (isC isR : List Nat) (hp : (isC ++ isR).isPerm (List.range nw) = true) (hC : isC.map (fun i => ws.getD i []) = w0) (wr : List va_W) (hR0 : isR.map (fun i => ws.getD i []) = wr) (ws1 : List va_W) (hl1 : ws1.length = nw) (hC1 : isC.map (fun i => ws1.getD i []) = w1) (hR1 : isR.map (fun i => ws1.getD i []) = wr)
    (rest : List Value) (hst : st = As.reverse ++ rest) (hr : (rest.map fun v => v.category).sum ≤ 8) (g : V nx lv (v :: rest) ws1) : V pc lv st ws :=
  r_cS K d hM hy hlk hn hk nw hl0 isC isR hp hC wr hR0 (fun _ => ws1) (fun _ => hl1) (fun _ => hC1) (fun _ => hR1) rest hst hr (fun _ _ => g)
theorem r_cSn (K : eK l Γ own cc nL k V) (d : eN cc pc (.invokestatic index) 3 nx) (hM : cD l Γ y bytes maxL ret kc As w0 none w1) (hy : eMs y bytes maxL ret n) (hlk : Cond.methodLink own index y ∈ eT) (hn : As.length = n) (hk : kc + 1 ≤ k)
    (nw : Nat) (hl0 : ws.length = nw) (isC isR : List Nat) (hp : (isC ++ isR).isPerm (List.range nw) = true) (hC : isC.map (fun i => ws.getD i []) = w0) (wr : List va_W) (hR0 : isR.map (fun i => ws.getD i []) = wr) (ws1 : List va_W) (hl1 : ws1.length = nw) (hC1 : isC.map (fun i => ws1.getD i []) = w1) (hR1 : isR.map (fun i => ws1.getD i []) = wr)
    (rest : List Value) (hst : st = As.reverse ++ rest) (hr : (rest.map fun v => v.category).sum ≤ 8) (g : V nx lv rest ws1) : V pc lv st ws :=
  r_cS K d hM hy hlk hn hk nw hl0 isC isR hp hC wr hR0 (fun _ => ws1) (fun _ => hl1) (fun _ => hC1) (fun _ => hR1) rest hst hr (fun _ _ => g)
end CALLSD
