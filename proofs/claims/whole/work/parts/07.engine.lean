/-! THE ENGINE: a walk with an abstract state predicate V pc locals stack world, the world as a list of chunks -/
abbrev eG : Type := va_G × ClassId × Nat
def cls : List vw_C := [(RX0, TX0, 10), (RX3, TX3, 2), (RX4, TX4, 4), (RX5, TX5, 4), (RX6, TX6, 10), (RX7, TX7, 17)]
def eI (Γ : eG) (a n : Nat) (f : Nat → Int32) : va_W := [(a, .inl (Γ.2.1, n, .inl f))]
def eO (a ci : Nat) (fs : List Value) : va_W := [(a, .inr (ci, fs))]
abbrev eTy (Γ : eG) : List (ClassId × FieldType) := [(Γ.2.1, .int)]
def rm (k : Nat) : Room := { frames := k, cells := 0, slots := 0, locals := 40 * k }
def dgN : Nat → Nat := fun j => match j with
  | 0 => 3125
  | 1 => 625
  | 2 => 125
  | 3 => 25
  | 4 => 5
  | _ => 1
def dgF : Nat → Value := fun j => .int (nI (dgN j))
def eX (Γ : eG) (A : Nat → Prop) (U : State) (H : Heap) : Prop := va_Z RX4 "DIGITS" "[I" (.ref Γ.2.2) A U H ∧ va_T .int Γ.2.2 6 dgF A U H
theorem eX.moved {Γ : eG} {A B : Nat → Prop} {u U : State} {H H1 : Heap} (h : eX Γ A u H) (hvm : u.vm.Alike U.vm) (hq : ∀ a : Nat, a < H.size → ¬ A a → H1[a]? = H[a]?) (hAB : ∀ q, B q → A q) : eX Γ B U H1 :=
  ⟨((va_Z.moved hvm h.1).kept hq).narrow hAB, ((va_T.moved hvm h.2).kept hq).narrow hAB⟩
/-! worlds as lists of chunks -/
theorem e_D_iff {A : Nat → Prop} {ws : va_W} : va_D A ws ↔ (ws.map (fun q => q.1)).Nodup ∧ ∀ q ∈ ws, A q.1 := by
  constructor
  · intro h
    refine ⟨?_, fun q hq => ?_⟩
    · rw [List.Nodup, List.pairwise_iff_getElem]
      intro i j hi hj hij he
      rw [List.length_map] at hi hj
      rw [List.getElem_map, List.getElem_map] at he
      have := h.1 i j _ _ (List.getElem?_eq_getElem hi) (List.getElem?_eq_getElem hj) he
      omega
    · obtain ⟨i, hi⟩ := List.getElem?_of_mem hq
      exact h.2 i q hi
  · rintro ⟨h1, h2⟩
    refine ⟨fun i j p q hi hj hpq => ?_, fun k q hk => h2 q (List.mem_of_getElem? hk)⟩
    rw [List.Nodup, List.pairwise_iff_getElem] at h1
    obtain ⟨li, ei⟩ := List.getElem?_eq_some_iff.mp hi
    obtain ⟨lj, ej⟩ := List.getElem?_eq_some_iff.mp hj
    have li' : i < (ws.map (fun q => q.1)).length := by rw [List.length_map]; exact li
    have lj' : j < (ws.map (fun q => q.1)).length := by rw [List.length_map]; exact lj
    have e : (ws.map (fun q => q.1))[i] = (ws.map (fun q => q.1))[j] := by
      rw [List.getElem_map, List.getElem_map, ei, ej]
      exact hpq
    rcases Nat.lt_trichotomy i j with h | h | h
    · exact absurd e (h1 i j li' lj' h)
    · exact h
    · exact absurd e.symm (h1 j i lj' li' h)
theorem e_P_iff {D : va_G} {cl : List vw_C} {ws : va_W} {H : Heap} : va_P D cl ws H ↔ ∀ q ∈ ws, va_at D cl q H := by
  constructor
  · intro h q hq
    obtain ⟨i, hi⟩ := List.getElem?_of_mem hq
    exact h i q hi
  · intro h k q hk
    exact h q (List.mem_of_getElem? hk)
theorem e_P_perm {D : va_G} {cl : List vw_C} {a b : va_W} {H : Heap} (p : a.Perm b) (h : va_P D cl a H) : va_P D cl b H := e_P_iff.mpr fun q hq => e_P_iff.mp h q (p.mem_iff.mpr hq)
theorem e_D_perm {A : Nat → Prop} {a b : va_W} (p : a.Perm b) (h : va_D A a) : va_D A b := by
  rw [e_D_iff] at h ⊢
  exact ⟨(p.map (fun q => q.1)).nodup_iff.mp h.1, fun q hq => h.2 q (p.mem_iff.mpr hq)⟩
/-- the same cells, as far as their rows are long -/
def weq (a b : va_W) : Prop := a.map (fun q => q.1) = b.map (fun q => q.1) ∧ ∀ (D : va_G) (cl : List vw_C) (H : Heap), va_P D cl a H → va_P D cl b H
theorem weq.rf {a : va_W} : weq a a := ⟨rfl, fun _ _ _ h => h⟩
theorem weq.of {a b : va_W} (h : a = b) : weq a b := by subst h; exact weq.rf
theorem weq.P {a b : va_W} (h : weq a b) {D : va_G} {cl : List vw_C} {H : Heap} (hP : va_P D cl a H) : va_P D cl b H := h.2 D cl H hP
theorem weq.D {a b : va_W} (h : weq a b) {A : Nat → Prop} (hD : va_D A a) : va_D A b := by
  rw [e_D_iff] at hD ⊢
  refine ⟨by rw [← h.1]; exact hD.1, fun q hq => ?_⟩
  have hm : q.1 ∈ b.map (fun q => q.1) := List.mem_map.mpr ⟨q, hq, rfl⟩
  rw [← h.1] at hm
  obtain ⟨z, hz, e⟩ := List.mem_map.mp hm
  rw [← e]
  exact hD.2 z hz
theorem weq.tr {a b c : va_W} (h : weq a b) (h2 : weq b c) : weq a c := ⟨h.1.trans h2.1, fun D cl H hP => h2.2 D cl H (h.2 D cl H hP)⟩
theorem weq.app {a b a2 b2 : va_W} (h : weq a b) (h2 : weq a2 b2) : weq (a ++ a2) (b ++ b2) := by
  refine ⟨by rw [List.map_append, List.map_append, h.1, h2.1], fun D cl H hP => ?_⟩
  have q := e_P_iff.mp hP
  refine e_P_iff.mpr fun z hz => ?_
  rcases List.mem_append.mp hz with hz | hz
  · exact e_P_iff.mp (h.2 D cl H (e_P_iff.mpr fun y hy => q y (List.mem_append_left _ hy))) z hz
  · exact e_P_iff.mp (h2.2 D cl H (e_P_iff.mpr fun y hy => q y (List.mem_append_right _ hy))) z hz
theorem e_arrV {cA : ClassId} {n : Nat} {f f2 : Nat → Int32} (h : ∀ i, i < n → f i = f2 i) : vp_cell cA (n, .inl f) = vp_cell cA (n, .inl f2) := by
  rw [vp_cell_i, vp_cell_i]
  simp only [arrV, Cell.mk.injEq, true_and, and_true]
  apply Array.ext
  · simp
  · intro i h1 h2
    simp at h1 ⊢
    exact h i h1
theorem weq.cons {q : Nat × va_E} {a b : va_W} (h : weq a b) : weq (q :: a) (q :: b) := weq.app (a := [q]) (b := [q]) weq.rf h
theorem weq.arr {x n : Nat} {cy : ClassId} {f f2 : Nat → Int32} {a b : va_W} (hf : ∀ i, i < n → f i = f2 i) (h : weq a b) : weq ((x, .inl (cy, n, .inl f)) :: a) ((x, .inl (cy, n, .inl f2)) :: b) := by
  refine weq.app (a := [_]) (b := [_]) ⟨rfl, fun D cl H hP => e_P_iff.mpr fun z hz => ?_⟩ h
  rw [List.mem_singleton] at hz
  subst hz
  show H[x]? = some (vp_cell cy (n, .inl f2))
  rw [← e_arrV hf]
  exact e_P_iff.mp hP (x, .inl (cy, n, .inl f)) (List.mem_singleton.mpr rfl)
theorem e_flat_perm {a b : List va_W} (p : a.Perm b) : a.flatten.Perm b.flatten := p.flatten
/-- a list by its places, in another order -/
theorem e_by {ws : List va_W} {is : List Nat} (h : is.isPerm (List.range ws.length) = true) : (is.map (fun i => ws.getD i [])).Perm ws := by
  have p := (List.isPerm_iff.mp h).map (fun i => ws.getD i [])
  refine p.trans ?_
  have : (List.range ws.length).map (fun i => ws.getD i []) = ws := by
    apply List.ext_getElem
    · simp
    · intro i h1 h2
      simp [List.getElem?_eq_getElem h2]
  rw [this]
/-- the frame: the callee's chunks by their places isC, the rest by isR -/
theorem e_frame {D : va_G} {cl : List vw_C} {A : Nat → Prop} {ws w0 w1 ws' : List va_W} {H H1 : Heap} (isC isR : List Nat) (hp : (isC ++ isR).isPerm (List.range ws.length) = true) (hC : isC.map (fun i => ws.getD i []) = w0) (hl : ws'.length = ws.length) (hC1 : isC.map (fun i => ws'.getD i []) = w1) (hR : isR.map (fun i => ws.getD i []) = isR.map (fun i => ws'.getD i []))
    (hP : va_P D cl ws.flatten H) (hD : va_D A ws.flatten) (hA : ∀ q, H.size ≤ q → A q) (hk : ∀ q : Nat, q < H.size → ¬ va_A w0.flatten H.size q → H1[q]? = H[q]?) (hP1 : va_P D cl w1.flatten H1) (hD1 : va_D (va_A w0.flatten H.size) w1.flatten) : va_P D cl ws'.flatten H1 ∧ va_D A ws'.flatten := by
  have p0 := e_by hp
  have p1 := e_by (ws := ws') (is := isC ++ isR) (by rw [hl]; exact hp)
  rw [List.map_append, hC] at p0
  rw [List.map_append, hC1, ← hR] at p1
  generalize isR.map (fun i => ws.getD i []) = wr at p0 p1
  have q0 := e_flat_perm p0
  have q1 := e_flat_perm p1
  rw [List.flatten_append] at q0 q1
  have hP' := e_P_iff.mp (e_P_perm q0.symm hP)
  have hD' := e_D_iff.mp (e_D_perm q0.symm hD)
  rw [List.map_append, List.nodup_append] at hD'
  obtain ⟨⟨n0, n1, n2⟩, hA'⟩ := hD'
  have apart : ∀ q ∈ wr.flatten, q.1 < H.size ∧ ¬ va_A w0.flatten H.size q.1 := by
    intro q hq
    have hlt := (hP' q (List.mem_append_right _ hq)).lt
    refine ⟨hlt, fun h => ?_⟩
    rcases h with ⟨k, e, h⟩ | h
    · exact n2 q.1 (List.mem_map.mpr ⟨(q.1, e), List.mem_of_getElem? h, rfl⟩) q.1 (List.mem_map.mpr ⟨q, hq, rfl⟩) rfl
    · omega
  have hF : ∀ q, va_A w0.flatten H.size q → A q := by
    intro q h
    rcases h with ⟨k, e, h⟩ | h
    · exact hA' (q, e) (List.mem_append_left _ (List.mem_of_getElem? h))
    · exact hA q h
  constructor
  · refine e_P_perm q1 (e_P_iff.mpr fun q hq => ?_)
    rcases List.mem_append.mp hq with h | h
    · exact e_P_iff.mp hP1 q h
    · obtain ⟨g1, g2⟩ := apart q h
      exact (hP' q (List.mem_append_right _ h)).kept (hk q.1 g1 g2)
  · refine e_D_perm q1 (e_D_iff.mpr ⟨?_, fun q hq => ?_⟩)
    · have d1 := e_D_iff.mp hD1
      rw [List.map_append, List.nodup_append]
      refine ⟨d1.1, n1, fun a ha b hb hab => ?_⟩
      subst hab
      obtain ⟨x, hx, rfl⟩ := List.mem_map.mp ha
      obtain ⟨z, hz, hxz⟩ := List.mem_map.mp hb
      have := (apart z hz).2
      rw [hxz] at this
      exact this (d1.2 x hx)
    · rcases List.mem_append.mp hq with h | h
      · exact hF q.1 ((e_D_iff.mp hD1).2 q h)
      · exact hA' q (List.mem_append_right _ h)
theorem e_sub {D : va_G} {cl : List vw_C} {A : Nat → Prop} {ws w0 : List va_W} {H : Heap} (isC isR : List Nat) (hp : (isC ++ isR).isPerm (List.range ws.length) = true) (hC : isC.map (fun i => ws.getD i []) = w0) (hP : va_P D cl ws.flatten H) (hD : va_D A ws.flatten) : va_P D cl w0.flatten H ∧ va_D A w0.flatten := by
  have p0 := e_by hp
  rw [List.map_append, hC] at p0
  have q0 := e_flat_perm p0
  rw [List.flatten_append] at q0
  have hP' := e_P_iff.mp (e_P_perm q0.symm hP)
  have hD' := e_D_iff.mp (e_D_perm q0.symm hD)
  rw [List.map_append, List.nodup_append] at hD'
  exact ⟨e_P_iff.mpr fun q hq => hP' q (List.mem_append_left _ hq), e_D_iff.mpr ⟨hD'.1.1, fun q hq => hD'.2 q (List.mem_append_left _ hq)⟩⟩
theorem e_free {A : Nat → Prop} {w0 : va_W} {sz : Nat} (hD : va_D A w0) (hA : ∀ q, sz ≤ q → A q) : ∀ q, va_A w0 sz q → A q := by
  intro q h
  rcases h with ⟨k, e, h⟩ | h
  · exact hD.2 k (q, e) h
  · exact hA q h
/-- a chunk of one cell, read and set -/
theorem e_one {ws : List va_W} : ∀ {j : Nat} {x : Nat × va_E}, ws[j]? = some [x] → ∃ q0, ws.flatten[q0]? = some x ∧ ∀ y, (ws.set j [y]).flatten = ws.flatten.set q0 y := by
  induction ws with
  | nil => intro j x h; simp at h
  | cons c cs ih =>
    intro j x h
    cases j with
    | zero =>
      rw [List.getElem?_cons_zero] at h
      cases h
      exact ⟨0, rfl, fun y => rfl⟩
    | succ j =>
      rw [List.getElem?_cons_succ] at h
      obtain ⟨q0, h1, h2⟩ := ih h
      refine ⟨c.length + q0, ?_, fun y => ?_⟩
      · rw [List.flatten_cons, List.getElem?_append_right (by omega)]
        simpa using h1
      · rw [List.set_cons_succ, List.flatten_cons, h2, List.flatten_cons, List.set_append_right _ _ (by omega)]
        simp
/-! contracts -/
def cE (l : Launch) (Γ : eG) (y : MethodName) (cc : ByteArray) (nL : Nat) (ret : Option FieldType) (k : Nat) (av : List Value) (w0 : List va_W) {S : Type} (post : S → Prop) (res : S → Option Value) (w1 : S → List va_W) : Prop :=
  ∀ sz : Nat, Met l y (.code y cc nL ret :: eT) (rm k) (va_Pc av (fun U => U.heap.size = sz ∧ va_P Γ.1 cls w0.flatten U.heap ∧ va_K Γ.1 cls (eTy Γ) U ∧ va_D (fun _ => True) w0.flatten ∧ eX Γ (va_A w0.flatten sz) U U.heap))
    (fun _ st oc t => (∃ u : S, oc = .returned (res u) ∧ post u ∧ va_P Γ.1 cls (w1 u).flatten t.heap ∧ va_D (va_A w0.flatten sz) (w1 u).flatten) ∧ va_F (va_A w0.flatten sz) st t) 0 0 (va_A w0.flatten sz)
abbrev cD (l : Launch) (Γ : eG) (y : MethodName) (cc : ByteArray) (nL : Nat) (ret : Option FieldType) (k : Nat) (av : List Value) (w0 : List va_W) (res : Option Value) (w1 : List va_W) : Prop :=
  cE l Γ y cc nL ret k av w0 (S := Unit) (fun _ => True) (fun _ => res) (fun _ => w1)
def eV (p : Program) (l : Launch) (e : Env) (R : Room) (s : State) (m : MethodId) (args : Array Value) (below : List Frame) (meth : Method) (c : Code) (cells slots : Nat) (Q : State → Prop) (A : Nat → Prop) (Γ : eG) (nL : Nat) : Nat → List (Nat × Value) → List Value → List va_W → Prop :=
  fun pc lv st ws => ∀ (H : Heap) (locs : List Loc) (ls : Array Slot), lv_has ls nL lv → va_P Γ.1 cls ws.flatten H → va_D A ws.flatten → va_S A s.heap H locs → W p l e R s m args below meth c H locs cells slots Q (F0 m pc ls st)
def eK (l : Launch) (Γ : eG) (own : String) (cc : ByteArray) (nL k : Nat) (V : Nat → List (Nat × Value) → List Value → List va_W → Prop) : Prop :=
  ∃ (p : Program) (e : Env) (R : Room) (s : State) (m : MethodId) (args : Array Value) (below : List Frame) (meth : Method) (c : Code) (cells slots : Nat) (Q : State → Prop) (A : Nat → Prop),
    p.tables.exec = Jvm.exec ∧ c.code = cc ∧ c.maxLocals = nL ∧ s.vm.findClass own = some m.cls ∧ (∀ w ∈ eT, w.before args s = true) ∧ va_K Γ.1 cls (eTy Γ) s ∧ (∀ q, s.heap.size ≤ q → A q) ∧ eX Γ A s s.heap ∧ cells ≤ R.cells ∧ slots ≤ R.slots ∧ k ≤ R.frames ∧ 40 * k ≤ R.locals ∧ V = eV p l e R s m args below meth c cells slots Q A Γ nL
/-- the ends -/
def eRi {S : Type} (cc : ByteArray) (V : Nat → List (Nat × Value) → List Value → List va_W → Prop) (post : S → Prop) (res : S → Option Value) (w1 : S → List va_W) : Prop :=
  ∀ (u : S) {pc nx : Nat} {lv : List (Nat × Value)} {x : Int32} {ws : List va_W}, eN cc pc .ireturn 1 nx → post u → res u = some (.int x) → weq ws.flatten (w1 u).flatten → V pc lv [.int x] ws
def eRz {S : Type} (cc : ByteArray) (V : Nat → List (Nat × Value) → List Value → List va_W → Prop) (post : S → Prop) (res : S → Option Value) (w1 : S → List va_W) : Prop :=
  ∀ (u : S) {pc nx : Nat} {lv : List (Nat × Value)} {x : Int32} {ws : List va_W}, eN cc pc .ireturn 1 nx → narrow .boolean (.int x) = .int x → post u → res u = some (.int x) → weq ws.flatten (w1 u).flatten → V pc lv [.int x] ws
def eRl {S : Type} (cc : ByteArray) (V : Nat → List (Nat × Value) → List Value → List va_W → Prop) (post : S → Prop) (res : S → Option Value) (w1 : S → List va_W) : Prop :=
  ∀ (u : S) {pc nx : Nat} {lv : List (Nat × Value)} {x : Int64} {ws : List va_W}, eN cc pc .lreturn 1 nx → post u → res u = some (.long x) → weq ws.flatten (w1 u).flatten → V pc lv [.long x] ws
def eRa {S : Type} (cc : ByteArray) (V : Nat → List (Nat × Value) → List Value → List va_W → Prop) (post : S → Prop) (res : S → Option Value) (w1 : S → List va_W) : Prop :=
  ∀ (u : S) {pc nx : Nat} {lv : List (Nat × Value)} {x : Nat} {ws : List va_W}, eN cc pc .areturn 1 nx → post u → res u = some (.ref x) → weq ws.flatten (w1 u).flatten → V pc lv [.ref x] ws
def eRv {S : Type} (cc : ByteArray) (V : Nat → List (Nat × Value) → List Value → List va_W → Prop) (post : S → Prop) (res : S → Option Value) (w1 : S → List va_W) : Prop :=
  ∀ (u : S) {pc nx : Nat} {lv : List (Nat × Value)} {ws : List va_W}, eN cc pc .return_ 1 nx → post u → res u = none → weq ws.flatten (w1 u).flatten → V pc lv [] ws
set_option maxHeartbeats 4000000 in
theorem e_entry {l : Launch} {Γ : eG} {y : MethodName} {cc : ByteArray} {nL : Nat} {ret : Option FieldType} {k : Nat} {av : List Value} {w0 : List va_W} {S : Type} {post : S → Prop} {res : S → Option Value} {w1 : S → List va_W} (lv0 : List (Nat × Value)) (hy : plainFor y = true) (hav : (lg_sl av).length ≤ nL) (hlv : lv_args 0 av = lv0)
    (body : ∀ (p : Program) (e : Env) (s : State) (m : MethodId) (args : Array Value) (below : List Frame) (meth : Method) (c : Code) (Q : State → Prop) (A : Nat → Prop), p.tables.exec = Jvm.exec → c.code = cc → meth.sig.returnType = ret → meth.locks = false → (∀ (u : S) (v : Option Value) (H : Heap) (locs : List Loc), res u = v → post u → va_P Γ.1 cls (w1 u).flatten H → va_D A (w1 u).flatten → va_S A s.heap H locs → Q = MQ below (fun _ st oc t => (∃ u : S, oc = .returned (res u) ∧ post u ∧ va_P Γ.1 cls (w1 u).flatten t.heap ∧ va_D A (w1 u).flatten) ∧ va_F A st t) args s 0 0 A ∧ (∀ t : State, t.heap = H → ((∃ u : S, Outcome.returned v = .returned (res u) ∧ post u ∧ va_P Γ.1 cls (w1 u).flatten t.heap ∧ va_D A (w1 u).flatten) ∧ va_F A s t)) ∧ ∀ q ∈ locs, A q.base) →
      eK l Γ y.cls cc nL k (eV p l e (rm k) s m args below meth c 0 0 Q A Γ nL) → eV p l e (rm k) s m args below meth c 0 0 Q A Γ nL 0 lv0 [] w0) : cE l Γ y cc nL ret k av w0 post res w1 := by
  intro sz
  refine va_MetF (cc := cc) (maxL := nL) (ret := ret) hy rfl ?_
  intro p e s m args below meth c s₁ B hml hv
  obtain ⟨rfl, hsz, hP, hK, hD0, hX⟩ := hv
  have hts := atoms_spec (ws := (.code y cc nL ret :: eT)) B.pre
  have hown : s.vm.findClass y.cls = some m.cls := findClass_of_methodNamed B.named
  subst hsz
  have hD := hD0.self (sz := s.heap.size)
  rw [lg_entry_eq]
  have hl := lv_entry av (n := nL) hav
  rw [hlv] at hl
  refine body p e s m _ below meth c _ (va_A w0.flatten s.heap.size) B.exec B.bytes B.returns B.notSynchronized ?_ ?_ s.heap [] _ hl hP hD va_S.rf
  · intro u v H locs hv hp hP1 hD1 hS
    subst hv
    refine ⟨rfl, fun t ht => ⟨⟨u, rfl, hp, by rw [ht]; exact hP1, hD1⟩, hS.F ht⟩, hS.2.2⟩
  · exact ⟨p, e, rm k, s, m, _, below, meth, c, 0, 0, _, _, B.exec, B.bytes, hml, hown, fun w hw => hts w (List.mem_cons_of_mem _ hw), hK, fun q h => Or.inr h, hX, Nat.zero_le _, Nat.zero_le _, Nat.le_refl _, Nat.le_refl _, rfl⟩
section ENT
variable {l : Launch} {Γ : eG} {y : MethodName} {cc : ByteArray} {nL : Nat} {k : Nat} {av : List Value} {w0 : List va_W} {S : Type} {post : S → Prop} {res : S → Option Value} {w1 : S → List va_W}
theorem e_int (lv0 : List (Nat × Value)) (hy : plainFor y = true) (hav : (lg_sl av).length ≤ nL) (hlv : lv_args 0 av = lv0) (body : ∀ V, eK l Γ y.cls cc nL k V → eRi cc V post res w1 → V 0 lv0 [] w0) : cE l Γ y cc nL (some .int) k av w0 post res w1 := by
  refine e_entry lv0 hy hav hlv fun p e s m args below meth c Q A hx hb hr hlk hq hK => body _ hK ?_
  intro u pc nx lv x ws d hp hres hw H locs ls hl hP hD hS
  have hP := hw.P hP
  have hD := hw.D hD
  obtain ⟨rfl, h1, h2⟩ := hq u _ H locs hres hp hP hD hS
  exact W.iret (v := x) hx hb hr (fun t ht _ => h1 t ht) h2 d.1 hlk
theorem e_bool (lv0 : List (Nat × Value)) (hy : plainFor y = true) (hav : (lg_sl av).length ≤ nL) (hlv : lv_args 0 av = lv0) (body : ∀ V, eK l Γ y.cls cc nL k V → eRz cc V post res w1 → V 0 lv0 [] w0) : cE l Γ y cc nL (some .boolean) k av w0 post res w1 := by
  refine e_entry lv0 hy hav hlv fun p e s m args below meth c Q A hx hb hr hlk hq hK => body _ hK ?_
  intro u pc nx lv x ws d hn hp hres hw H locs ls hl hP hD hS
  have hP := hw.P hP
  have hD := hw.D hD
  obtain ⟨rfl, h1, h2⟩ := hq u _ H locs hres hp hP hD hS
  exact W.zret (v := x) hx hb hr hn (fun t ht _ => h1 t ht) h2 d.1 hlk
theorem e_long (lv0 : List (Nat × Value)) (hy : plainFor y = true) (hav : (lg_sl av).length ≤ nL) (hlv : lv_args 0 av = lv0) (body : ∀ V, eK l Γ y.cls cc nL k V → eRl cc V post res w1 → V 0 lv0 [] w0) : cE l Γ y cc nL (some .long) k av w0 post res w1 := by
  refine e_entry lv0 hy hav hlv fun p e s m args below meth c Q A hx hb hr hlk hq hK => body _ hK ?_
  intro u pc nx lv x ws d hp hres hw H locs ls hl hP hD hS
  have hP := hw.P hP
  have hD := hw.D hD
  obtain ⟨rfl, h1, h2⟩ := hq u _ H locs hres hp hP hD hS
  exact W.lret (v := x) hx hb hr (fun t ht _ => h1 t ht) h2 d.1 hlk
theorem e_void (lv0 : List (Nat × Value)) (hy : plainFor y = true) (hav : (lg_sl av).length ≤ nL) (hlv : lv_args 0 av = lv0) (body : ∀ V, eK l Γ y.cls cc nL k V → eRv cc V post res w1 → V 0 lv0 [] w0) : cE l Γ y cc nL none k av w0 post res w1 := by
  refine e_entry lv0 hy hav hlv fun p e s m args below meth c Q A hx hb hr hlk hq hK => body _ hK ?_
  intro u pc nx lv ws d hp hres hw H locs ls hl hP hD hS
  have hP := hw.P hP
  have hD := hw.D hD
  obtain ⟨rfl, h1, h2⟩ := hq u _ H locs hres hp hP hD hS
  exact W.vret hx hb hr (fun t ht _ => h1 t ht) h2 d.1 hlk
theorem e_ref {C : String} (lv0 : List (Nat × Value)) (hy : plainFor y = true) (hav : (lg_sl av).length ≤ nL) (hlv : lv_args 0 av = lv0) (body : ∀ V, eK l Γ y.cls cc nL k V → eRa cc V post res w1 → V 0 lv0 [] w0) : cE l Γ y cc nL (some (.object C)) k av w0 post res w1 := by
  refine e_entry lv0 hy hav hlv fun p e s m args below meth c Q A hx hb hr hlk hq hK => body _ hK ?_
  intro u pc nx lv x ws d hp hres hw H locs ls hl hP hD hS
  have hP := hw.P hP
  have hD := hw.D hD
  obtain ⟨rfl, h1, h2⟩ := hq u _ H locs hres hp hP hD hS
  exact W.aret (v := .ref x) hx hb hr (Or.inl ⟨C, rfl⟩) (Or.inr ⟨x, rfl⟩) (fun t ht _ => h1 t ht) h2 d.1 hlk
end ENT
