/-! WALKS THAT MAKE CELLS: a family of V, by how many cells and slots are made -/
def rmN (k mc ms : Nat) : Room := { frames := k, cells := mc, slots := ms, locals := 40 * k }
abbrev eVV : Type := Nat → Nat → Nat → List (Nat × Value) → List Value → List va_W → Prop
def eKN (l : Launch) (Γ : eG) (own : String) (cc : ByteArray) (nL k mc ms : Nat) (ini : Bool) (VV : eVV) : Prop :=
  ∃ (p : Program) (e : Env) (R : Room) (s : State) (m : MethodId) (args : Array Value) (below : List Frame) (meth : Method) (c : Code) (Q : State → Prop) (A : Nat → Prop),
    p.tables.exec = Jvm.exec ∧ c.code = cc ∧ c.maxLocals = nL ∧ s.vm.findClass own = some m.cls ∧ (∀ w ∈ eT, w.before args s = true) ∧ va_K Γ.1 cls (eTy Γ) s ∧ (∀ q, s.heap.size ≤ q → A q) ∧ eX Γ A s s.heap ∧ mc ≤ R.cells ∧ ms ≤ R.slots ∧ k ≤ R.frames ∧ 40 * k ≤ R.locals ∧ (ini = true → meth.name = "<init>") ∧ VV = fun cells slots => eV p l e R s m args below meth c cells slots Q A Γ nL
section MAKES
variable {l : Launch} {Γ : eG} {own : String} {cc : ByteArray} {nL k mc ms : Nat} {ini : Bool} {VV : eVV}
theorem eKN.K (K : eKN l Γ own cc nL k mc ms ini VV) {c s : Nat} (hc : c ≤ mc) (hs : s ≤ ms) : eK l Γ own cc nL k (VV c s) := by
  obtain ⟨p, e, R, s0, m, args, below, meth, cd, Q, A, hx, hb, hml, hown, hts, hK, hA, hX, hce, hse, hfr, hlo, -, rfl⟩ := K
  exact ⟨p, e, R, s0, m, args, below, meth, cd, c, s, Q, A, hx, hb, hml, hown, hts, hK, hA, hX, Nat.le_trans hc hce, Nat.le_trans hs hse, hfr, hlo, rfl⟩
variable {pc nx c s : Nat} {lv : List (Nat × Value)} {st : List Value} {ws : List va_W}
theorem r_new (K : eKN l Γ own cc nL k mc ms ini VV) {ci n index : Nat} {C : String} {T : u_T} (fs : List Value) (d : eN cc pc (.new index) 3 nx) (hc : cls[ci]? = some (C, T, n)) (hin : ∀ w ∈ u_ws C T n, w ∈ eT) (ty : Nat → FieldType) (hty : ∀ k, k < n → parseFieldDescriptor (T k).2.2.1 = some (ty k)) (hcl : Cond.classLink own index C ∈ eT) (hinst : Cond.instantiable C n ∈ eT) (hini : Cond.initialized C ∈ eT) (hfs : ∀ j, j < n → defaultValue (ty j) = vp_V fs j) (h1 : c + 1 ≤ mc) (h2 : s + n ≤ ms) (g : ∀ q : Nat, VV (c + 1) (s + n) nx lv (.ref q :: st) (ws ++ [eO q ci fs])) : VV c s pc lv st ws := by
  obtain ⟨p, e, R, s0, m, args, below, meth, cd, Q, A, hx, hb, hml, hown, hts, hK, hA, hX, hce, hse, hfr, hlo, hni, rfl⟩ := K
  intro H locs ls hl hP hD hS
  obtain ⟨d, rfl⟩ := d
  refine va_new (D := Γ.1) (ci := ci) (fs := fs) hx hb hts hin ty hty hown (hts _ hcl) (hts _ hinst) (hts _ hini) hK hP hD hS hA hc hfs (Nat.le_trans h1 hce) (Nat.le_trans h2 hse) d (fun q H1 hP hD hS => ?_)
  have e1 : (ws ++ [eO q ci fs]).flatten = ws.flatten ++ [(q, .inr (ci, fs))] := by rw [List.flatten_append, fl1]; rfl
  rw [← e1] at hP hD
  exact g q H1 locs ls hl hP hD hS
theorem r_newa (K : eKN l Γ own cc nL k mc ms ini VV) {N : Nat} (d : eN cc pc (.newarray .int) 2 nx) (harr : Cond.arrayClass .int ∈ eT) (hN : N < 2 ^ 20) (h1 : c + 1 ≤ mc) (h2 : s + N ≤ ms) (g : ∀ q : Nat, VV (c + 1) (s + N) nx lv (.ref q :: st) (ws ++ [eI Γ q N (fun _ => nI 0)])) : VV c s pc lv (.int (nI N) :: st) ws := by
  obtain ⟨p, e, R, s0, m, args, below, meth, cd, Q, A, hx, hb, hml, hown, hts, hK, hA, hX, hce, hse, hfr, hlo, hni, rfl⟩ := K
  intro H locs ls hl hP hD hS
  obtain ⟨d, rfl⟩ := d
  refine va_newa (D := Γ.1) (atype := .int) (ty := .int) (N' := N) (a0 := (N, .inl (fun _ => nI 0))) hx hb (hts _ harr) rfl hK hP hD hS hA (fun cA => ?_) (nI_pos (by omega)) (nI_clamp (by omega)) ?_ (Nat.le_trans h1 hce) (Nat.le_trans h2 hse) d (fun q cA H1 hK1 hP hD hS => ?_)
  · rw [vp_cell_i, nI_0]; rfl
  · show N * 4 ≤ 536870912
    omega
  · have a1 := (hK.2 0 (Γ.2.1, .int) rfl).2
    have a2 := (hK1.2 1 (cA, .int) rfl).2
    have ec : cA = Γ.2.1 := Option.some.inj (a2.symm.trans a1)
    subst ec
    have e1 : (ws ++ [eI Γ q N (fun _ => nI 0)]).flatten = ws.flatten ++ [(q, .inl (Γ.2.1, N, .inl (fun _ => nI 0)))] := by rw [List.flatten_append, fl1]; rfl
    rw [← e1] at hP hD
    exact g q H1 locs ls hl hP hD hS
theorem r_putF (K : eKN l Γ own cc nL k mc ms true VV) {h ci index n kf : Nat} {fs : List Value} {C nm de : String} {T : u_T} {v : Value} {ws1 : List va_W} (d : eN cc pc (.putfield index) 3 nx) (j : Nat) (hj : ws[j]? = some (eO h ci fs)) (hc : cls[ci]? = some (C, T, n)) (hin : ∀ w ∈ u_ws C T n, w ∈ eT) (t0 : Nat → FieldType) (ht0 : ∀ k, k < n → parseFieldDescriptor (T k).2.2.1 = some (t0 k)) (hnm : ∀ a, a < n → ∀ b, b < n → a ≠ b → (T a).2.1 ≠ (T b).2.1) (hk : kf < n) (hlk : Cond.fieldLink own index own nm de ∈ eT) (hT : T kf = (own, nm, de, true)) (hn : narrow (t0 kf) v = v) (hf : fits (t0 kf) v = true) (hlen : kf < fs.length) (hw : ws.set j (eO h ci (fs.set kf v)) = ws1) (g : VV c s nx lv st ws1) : VV c s pc lv (v :: .ref h :: st) ws := by
  obtain ⟨p, e, R, s0, m, args, below, meth, cd, Q, A, hx, hb, hml, hown, hts, hK, hA, hX, hce, hse, hfr, hlo, hni, rfl⟩ := K
  intro H locs ls hl hP hD hS
  obtain ⟨d, rfl⟩ := d
  obtain ⟨q0, h1, h2⟩ := e_one hj
  have hlk := hts _ hlk
  have hlk : (Cond.fieldLink own index own (T kf).2.1 (T kf).2.2.1).before args s0 = true := by rw [hT]; exact hlk
  refine va_putF (D := Γ.1) (ci := ci) (v := v) (ty := t0 kf) (own := own) (ref := own) hx hb hts hin t0 ht0 hnm hown hK hP hD hS q0 h1 hc kf hk hlk (fun x h9 => by rw [hT] at h9 ⊢; exact h9) (by rw [hT]) (hni rfl) (by rw [hT]) (ht0 kf hk) hn hf hlen d (fun H locs hP hD hS => ?_)
  have e := h2 (h, .inr (ci, fs.set kf v))
  rw [← e] at hP hD
  subst hw
  exact g H locs ls hl hP hD hS
end MAKES
section OBJ
variable {l : Launch} {Γ : eG} {own : String} {cc : ByteArray} {nL k : Nat} {V : Nat → List (Nat × Value) → List Value → List va_W → Prop}
variable {pc nx : Nat} {lv : List (Nat × Value)} {st : List Value} {ws : List va_W}
theorem r_obj (K : eK l Γ own cc nL k V) {idx a : Nat} (d : eN cc pc (.invokespecial idx) 3 nx) (hlk : Cond.methodLink own idx Lib.objectInit ∈ eT) (hi : Cond.instanceMethod Lib.objectInit ∈ eT) (hcd : Cond.code Lib.objectInit ⟨#[0xb1]⟩ 1 none ∈ eT) (hk : 1 ≤ k) (hr : (st.map fun v => v.category).sum ≤ 8) (g : V nx lv st ws) : V pc lv (.ref a :: st) ws := by
  obtain ⟨p, e, R, s, m, args, below, meth, c, cells, slots, Q, A, hx, hb, hml, hown, hts, hK, hA, hX, hce, hse, hfr, hlo, rfl⟩ := K
  intro H locs ls hl hP hD hS
  obtain ⟨d, rfl⟩ := d
  have hroom : 2 * (F0 m pc ls (.ref a :: st)).monitorRoom + (st.map fun v => v.category).sum ≤ 8 := lv_room hr
  exact W.objInit hx hb hown (hts _ hlk) (hts _ hi) (hts _ hcd) rfl (hl.1.trans hml.symm) rfl d (by omega) (by omega) (g H locs ls hl hP hD hS)
end OBJ
def cN (l : Launch) (Γ : eG) (y : MethodName) (cc : ByteArray) (nL k mc ms : Nat) (av : List Value) (w0 : List va_W) {S : Type} (w1 : S → List va_W) : Prop :=
  ∀ sz : Nat, Met l y (.code y cc nL none :: eT) (rmN k mc ms) (va_Pc av (fun U => U.heap.size = sz ∧ va_P Γ.1 cls w0.flatten U.heap ∧ va_K Γ.1 cls (eTy Γ) U ∧ va_D (fun _ => True) w0.flatten ∧ eX Γ (va_A w0.flatten sz) U U.heap))
    (fun _ st oc t => (∃ u : S, oc = .returned none ∧ va_P Γ.1 cls (w1 u).flatten t.heap ∧ va_D (va_A w0.flatten sz) (w1 u).flatten) ∧ va_F (va_A w0.flatten sz) st t) mc ms (va_A w0.flatten sz)
set_option maxHeartbeats 4000000 in
theorem e_ctor {l : Launch} {Γ : eG} {y : MethodName} {cc : ByteArray} {nL k mc ms : Nat} {av : List Value} {w0 : List va_W} {S : Type} {w1 : S → List va_W} (lv0 : List (Nat × Value)) (hy : plainFor y = true) (hnm : y.name = "<init>") (hav : (lg_sl av).length ≤ nL) (hlv : lv_args 0 av = lv0)
    (body : ∀ VV : eVV, eKN l Γ y.cls cc nL k mc ms true VV → (∀ (u : S) {c s pc nx : Nat} {lv : List (Nat × Value)} {ws : List va_W}, eN cc pc .return_ 1 nx → c ≤ mc → s ≤ ms → weq ws.flatten (w1 u).flatten → VV c s pc lv [] ws) → VV 0 0 0 lv0 [] w0) : cN l Γ y cc nL k mc ms av w0 w1 := by
  intro sz
  refine va_MetF (cc := cc) (maxL := nL) (ret := none) hy rfl ?_
  intro p e s m args below meth c s₁ B hml hv
  obtain ⟨rfl, hsz, hP, hK, hD0, hX⟩ := hv
  have hts := atoms_spec (ws := (.code y cc nL none :: eT)) B.pre
  have hown : s.vm.findClass y.cls = some m.cls := findClass_of_methodNamed B.named
  have hini : meth.name = "<init>" := ((name_of_methodNamed B.named B.method).1).trans hnm
  subst hsz
  have hD := hD0.self (sz := s.heap.size)
  rw [lg_entry_eq]
  have hl := lv_entry av (n := nL) hav
  rw [hlv] at hl
  refine body (fun cells slots => eV p l e (rmN k mc ms) s m _ below meth c cells slots _ (va_A w0.flatten s.heap.size) Γ nL) ⟨p, e, rmN k mc ms, s, m, _, below, meth, c, _, _, B.exec, B.bytes, hml, hown, fun w hw => hts w (List.mem_cons_of_mem _ hw), hK, fun q h => Or.inr h, hX, Nat.le_refl _, Nat.le_refl _, Nat.le_refl _, Nat.le_refl _, fun _ => hini, rfl⟩ ?_ s.heap [] _ hl hP hD va_S.rf
  intro u c1 s1 pc nx lv ws d h1 h2 hw H locs ls hl hP hD hS
  have hP := hw.P hP
  have hD := hw.D hD
  refine W.widen h1 h2 ?_
  exact W.vret B.exec B.bytes B.returns (fun t ht _ => ⟨⟨u, rfl, by rw [ht]; exact hP, hD⟩, hS.F ht⟩) hS.2.2 d.1 B.notSynchronized
theorem e_callN {R : Room} {s : State} {args : Array Value} {own : String} {index kc mc ms k maxL n : Nat} {y : MethodName} {bytes : ByteArray} (hts : ∀ w ∈ eT, w.before args s = true) (hy : eM y bytes maxL none n) (hlk : Cond.methodLink own index y ∈ eT) (hk : kc + 1 ≤ k) (hfr : k ≤ R.frames) (hlo : 40 * k ≤ R.locals) :
    CallB R s args own index y bytes maxL none (.code y bytes maxL none :: eT) (rmN kc mc ms) mc ms n := by
  obtain ⟨hd, hcode, hini, hm⟩ := hy
  refine callB_of n hts (fun w hw => ?_) rfl rfl rfl (hts _ hini) (hts _ hlk) hd ⟨?_, ?_⟩
  · rcases List.mem_cons.mp hw with rfl | hw
    · exact ⟨hcode, good_of_word (e_good _ hcode)⟩
    · exact ⟨hw, good_of_word (e_good _ hw)⟩
  · show kc + 1 ≤ R.frames
    omega
  · show 8 + (maxL + 11) + 40 * kc ≤ R.locals
    omega
section CTOR
variable {l : Launch} {Γ : eG} {own : String} {cc : ByteArray} {nL k mc ms : Nat} {ini : Bool} {VV : eVV}
variable {pc nx c s : Nat} {lv : List (Nat × Value)} {st : List Value} {ws : List va_W}
variable {index kc n maxL b mc1 ms1 : Nat} {y : MethodName} {bytes : ByteArray} {As : List Value} {w0 : List va_W} {S : Type} {w1 : S → List va_W}
set_option maxHeartbeats 2000000 in
theorem r_cI (K : eKN l Γ own cc nL k mc ms ini VV) (d : eN cc pc (.invokespecial index) 3 nx) (hM : cN l Γ y bytes maxL kc mc1 ms1 (.ref b :: As) w0 w1) (hy : eM y bytes maxL none n) (hi : y.name = "<init>" ∧ Cond.instanceMethod y ∈ eT) (hlk : Cond.methodLink own index y ∈ eT) (hn : As.length = n) (hk : kc + 1 ≤ k) (h1 : c + mc1 ≤ mc) (h2 : s + ms1 ≤ ms)
    (nw : Nat) (hl0 : ws.length = nw) (isC isR : List Nat) (hp : (isC ++ isR).isPerm (List.range nw) = true) (hC : isC.map (fun i => ws.getD i []) = w0) (wr : List va_W) (hR0 : isR.map (fun i => ws.getD i []) = wr) (ws1 : S → List va_W) (hl1 : ∀ u, (ws1 u).length = nw) (hC1 : ∀ u, isC.map (fun i => (ws1 u).getD i []) = w1 u) (hR1 : ∀ u, isR.map (fun i => (ws1 u).getD i []) = wr)
    (rest : List Value) (hst : st = As.reverse ++ .ref b :: rest) (hr : (rest.map fun v => v.category).sum ≤ 8) (g : ∀ u, VV (c + mc1) (s + ms1) nx lv rest (ws1 u)) : VV c s pc lv st ws := by
  obtain ⟨p, e, R, s0, m, args, below, meth, cd, Q, A, hx, hb, hml, hown, hts, hK, hA, hX, hce, hse, hfr, hlo, hni, rfl⟩ := K
  intro H locs ls hl hP hD hS
  subst hl0
  obtain ⟨d, rfl⟩ := d
  have hA2 : ∀ q, H.size ≤ q → A q := fun q h => hA q (Nat.le_trans hS.1 h)
  obtain ⟨hPc, hDc⟩ := e_sub isC isR hp hC hP hD
  have hF := e_free hDc hA2
  have hrun := va_runI (p := p) (e := e) (R := R) (s := s0) (m := m) (args := args) (below := below) (meth := meth) (c := cd) (H := H) (locs := locs) (cells := c) (slots := s) (g := F0 m pc ls st) (As := As) (rest := rest) (b := b) ⟨hx, hb, hml, hown, hts⟩ (hM H.size) ⟨e_callN hts hy hlk hk hfr hlo, hi.1, hts _ hi.2⟩
    ⟨fun a U g mk q => ⟨q.1, q.2.1, q.2.2.1, va_K.moved (u := U) (U := U.calling g mk a) (Vm.Alike.refl U.vm) q.2.2.2.1, q.2.2.2.2.1, eX.moved (u := U) (U := U.calling g mk a) q.2.2.2.2.2 (Vm.Alike.refl U.vm) (fun _ _ _ => rfl) (fun _ h => h)⟩, fun U hU hW => ⟨rfl, by rw [hU], by rw [hU]; exact hPc, va_K.moved hW.alike hK, hDc.weaken (fun _ _ _ _ => trivial), eX.moved hX hW.alike (fun a h1 h2 => by rw [hU]; exact hS.2.1 a h1 h2) hF⟩⟩
    rfl hn hl.1 hst (lv_room hr) d ⟨Nat.le_trans h1 hce, Nat.le_trans h2 hse⟩
  intro T0 hT X
  obtain ⟨v, st₀, t, T', L, h0, X', hL, e1, e2, ⟨⟨u, hv, hP1, hD1⟩, hz, hkk⟩, stp⟩ := hrun T0 hT X
  have hv := Outcome.returned.inj hv
  subst hv
  rw [h0] at hz hkk
  obtain ⟨hP', hD'⟩ := e_frame (H1 := T'.heap) isC isR hp hC (hl1 u) (hC1 u) (hR0.trans (hR1 u).symm) hP hD hA2 (fun q h1 h2 => by rw [e1]; exact hkk q h1 h2) (by rw [e1]; exact hP1) hD1
  obtain ⟨t2, a1, b1⟩ := g u T'.heap (locs ++ L) ls hl hP' hD' ⟨Nat.le_trans hS.1 (by rw [e1]; exact hz), fun q h1 h2 => by rw [e1, hkk q (Nat.lt_of_lt_of_le h1 hS.1) (fun z => h2 (hF q z))]; exact hS.2.1 q h1 h2, fun q hq => by
      rcases List.mem_append.mp hq with h | h
      · exact hS.2.2 q h
      · exact hF _ (hL q h)⟩ T' rfl X'
  exact ⟨t2, stp t2 a1, b1⟩
end CTOR
