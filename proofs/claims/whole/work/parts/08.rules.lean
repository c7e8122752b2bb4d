/-! THE RULES: one instruction over V -/
def bz (b : Bool) : Int32 := if b then nI 1 else nI 0
section RULES
variable {l : Launch} {Γ : eG} {own : String} {cc : ByteArray} {nL k : Nat} {V : Nat → List (Nat × Value) → List Value → List va_W → Prop}
variable {pc nx tg : Nat} {lv lv1 : List (Nat × Value)} {st : List Value} {ws : List va_W}
theorem r_iconst (K : eK l Γ own cc nL k V) {n : Int} (d : eN cc pc (.iconst n) 1 nx) (v : Int32) (hv : Int32.ofInt n = v) (g : V nx lv (.int v :: st) ws) : V pc lv st ws := by
  obtain ⟨p, e, R, s, m, args, below, meth, c, cells, slots, Q, A, hx, hb, hml, hown, hts, hK, hA, hX, hce, hse, hfr, hlo, rfl⟩ := K
  intro H locs ls hl hP hD hS
  obtain ⟨d, rfl⟩ := d
  exact lv_iconst hx hb d hv (g H locs ls hl hP hD hS)
theorem r_bipush (K : eK l Γ own cc nL k V) {n : Int} (d : eN cc pc (.bipush n) 2 nx) (v : Int32) (hv : (Int8.ofInt n).toInt32 = v) (g : V nx lv (.int v :: st) ws) : V pc lv st ws := by
  obtain ⟨p, e, R, s, m, args, below, meth, c, cells, slots, Q, A, hx, hb, hml, hown, hts, hK, hA, hX, hce, hse, hfr, hlo, rfl⟩ := K
  intro H locs ls hl hP hD hS
  obtain ⟨d, rfl⟩ := d
  exact lv_bipush hx hb d hv (g H locs ls hl hP hD hS)
theorem r_sipush (K : eK l Γ own cc nL k V) {n : Int} (d : eN cc pc (.sipush n) 3 nx) (v : Int32) (hv : (Int16.ofInt n).toInt32 = v) (g : V nx lv (.int v :: st) ws) : V pc lv st ws := by
  obtain ⟨p, e, R, s, m, args, below, meth, c, cells, slots, Q, A, hx, hb, hml, hown, hts, hK, hA, hX, hce, hse, hfr, hlo, rfl⟩ := K
  intro H locs ls hl hP hD hS
  obtain ⟨d, rfl⟩ := d
  exact lv_sipush hx hb d hv (g H locs ls hl hP hD hS)
theorem r_lconst (K : eK l Γ own cc nL k V) {n : Fin 2} (d : eN cc pc (.lconst n) 1 nx) (v : Int64) (hv : Int64.ofNat (n : Nat) = v) (g : V nx lv (.long v :: st) ws) : V pc lv st ws := by
  obtain ⟨p, e, R, s, m, args, below, meth, c, cells, slots, Q, A, hx, hb, hml, hown, hts, hK, hA, hX, hce, hse, hfr, hlo, rfl⟩ := K
  intro H locs ls hl hP hD hS
  obtain ⟨d, rfl⟩ := d
  exact lv_lconst hx hb d hv (g H locs ls hl hP hD hS)
theorem r_ldc (K : eK l Γ own cc nL k V) {i : Nat} (d : eN cc pc (.ldc i) 2 nx) {v : Int32} (hv : Cond.constant own i v ∈ eT) (g : V nx lv (.int v :: st) ws) : V pc lv st ws := by
  obtain ⟨p, e, R, s, m, args, below, meth, c, cells, slots, Q, A, hx, hb, hml, hown, hts, hK, hA, hX, hce, hse, hfr, hlo, rfl⟩ := K
  intro H locs ls hl hP hD hS
  obtain ⟨d, rfl⟩ := d
  exact lv_ldc hx hb hown (hts _ hv) d (g H locs ls hl hP hD hS)
theorem r_ldcw (K : eK l Γ own cc nL k V) {i : Nat} (d : eN cc pc (.ldc_w i) 3 nx) {v : Int32} (hv : Cond.constant own i v ∈ eT) (g : V nx lv (.int v :: st) ws) : V pc lv st ws := by
  obtain ⟨p, e, R, s, m, args, below, meth, c, cells, slots, Q, A, hx, hb, hml, hown, hts, hK, hA, hX, hce, hse, hfr, hlo, rfl⟩ := K
  intro H locs ls hl hP hD hS
  obtain ⟨d, rfl⟩ := d
  exact lv_ldcw hx hb hown (hts _ hv) d (g H locs ls hl hP hD hS)
theorem r_ldc2 (K : eK l Γ own cc nL k V) {i : Nat} (d : eN cc pc (.ldc2_w i) 3 nx) {v : Int64} (hv : Cond.constantLong own i v ∈ eT) (g : V nx lv (.long v :: st) ws) : V pc lv st ws := by
  obtain ⟨p, e, R, s, m, args, below, meth, c, cells, slots, Q, A, hx, hb, hml, hown, hts, hK, hA, hX, hce, hse, hfr, hlo, rfl⟩ := K
  intro H locs ls hl hP hD hS
  obtain ⟨d, rfl⟩ := d
  exact lv_ldc2 hx hb hown (hts _ hv) d (g H locs ls hl hP hD hS)
theorem r_iload_n (K : eK l Γ own cc nL k V) {i : Fin 4} {x : Int32} (d : eN cc pc (.iload_n i) 1 nx) (j : Nat) (h : lv[j]? = some ((i : Nat), .int x)) (g : V nx lv (.int x :: st) ws) : V pc lv st ws := by
  obtain ⟨p, e, R, s, m, args, below, meth, c, cells, slots, Q, A, hx, hb, hml, hown, hts, hK, hA, hX, hce, hse, hfr, hlo, rfl⟩ := K
  intro H locs ls hl hP hD hS
  obtain ⟨d, rfl⟩ := d
  exact lv_iload_n hx hb d rfl (lv_at hl j h) (g H locs ls hl hP hD hS)
theorem r_iload (K : eK l Γ own cc nL k V) {i : Nat} {x : Int32} (d : eN cc pc (.iload i) 2 nx) (j : Nat) (h : lv[j]? = some (i, .int x)) (g : V nx lv (.int x :: st) ws) : V pc lv st ws := by
  obtain ⟨p, e, R, s, m, args, below, meth, c, cells, slots, Q, A, hx, hb, hml, hown, hts, hK, hA, hX, hce, hse, hfr, hlo, rfl⟩ := K
  intro H locs ls hl hP hD hS
  obtain ⟨d, rfl⟩ := d
  exact lv_iload hx hb d (lv_at hl j h) (g H locs ls hl hP hD hS)
theorem r_lload_n (K : eK l Γ own cc nL k V) {i : Fin 4} {x : Int64} (d : eN cc pc (.lload_n i) 1 nx) (j : Nat) (h : lv[j]? = some ((i : Nat), .long x)) (g : V nx lv (.long x :: st) ws) : V pc lv st ws := by
  obtain ⟨p, e, R, s, m, args, below, meth, c, cells, slots, Q, A, hx, hb, hml, hown, hts, hK, hA, hX, hce, hse, hfr, hlo, rfl⟩ := K
  intro H locs ls hl hP hD hS
  obtain ⟨d, rfl⟩ := d
  exact lv_lload_n hx hb d rfl (lv_at hl j h) (g H locs ls hl hP hD hS)
theorem r_lload (K : eK l Γ own cc nL k V) {i : Nat} {x : Int64} (d : eN cc pc (.lload i) 2 nx) (j : Nat) (h : lv[j]? = some (i, .long x)) (g : V nx lv (.long x :: st) ws) : V pc lv st ws := by
  obtain ⟨p, e, R, s, m, args, below, meth, c, cells, slots, Q, A, hx, hb, hml, hown, hts, hK, hA, hX, hce, hse, hfr, hlo, rfl⟩ := K
  intro H locs ls hl hP hD hS
  obtain ⟨d, rfl⟩ := d
  exact lv_lload hx hb d (lv_at hl j h) (g H locs ls hl hP hD hS)
theorem r_aload_n (K : eK l Γ own cc nL k V) {i : Fin 4} {x : Nat} (d : eN cc pc (.aload_n i) 1 nx) (j : Nat) (h : lv[j]? = some ((i : Nat), .ref x)) (g : V nx lv (.ref x :: st) ws) : V pc lv st ws := by
  obtain ⟨p, e, R, s, m, args, below, meth, c, cells, slots, Q, A, hx, hb, hml, hown, hts, hK, hA, hX, hce, hse, hfr, hlo, rfl⟩ := K
  intro H locs ls hl hP hD hS
  obtain ⟨d, rfl⟩ := d
  exact lv_aload_n hx hb d rfl (lv_at hl j h) (g H locs ls hl hP hD hS)
theorem r_aload (K : eK l Γ own cc nL k V) {i : Nat} {x : Nat} (d : eN cc pc (.aload i) 2 nx) (j : Nat) (h : lv[j]? = some (i, .ref x)) (g : V nx lv (.ref x :: st) ws) : V pc lv st ws := by
  obtain ⟨p, e, R, s, m, args, below, meth, c, cells, slots, Q, A, hx, hb, hml, hown, hts, hK, hA, hX, hce, hse, hfr, hlo, rfl⟩ := K
  intro H locs ls hl hP hD hS
  obtain ⟨d, rfl⟩ := d
  exact lv_aload hx hb d (lv_at hl j h) (g H locs ls hl hP hD hS)
theorem r_istore_n (K : eK l Γ own cc nL k V) {iF : Fin 4} {i : Nat} {x : Int32} (d : eN cc pc (.istore_n iF) 1 nx) (hi : (iF : Nat) = i) (hn : i < nL) (hl1 : (i, Value.int x) :: lv.filter (fun q => !(q.1 == i) && !(q.1 + 1 == i && q.2.category == 2)) = lv1) (g : V nx lv1 st ws) : V pc lv (.int x :: st) ws := by
  obtain ⟨p, e, R, s, m, args, below, meth, c, cells, slots, Q, A, hx, hb, hml, hown, hts, hK, hA, hX, hce, hse, hfr, hlo, rfl⟩ := K
  intro H locs ls hl hP hD hS
  obtain ⟨d, rfl⟩ := d
  exact lv_istore_n hx hb d hi hl hn hl1 (fun ls hl => (g H locs ls hl hP hD hS))
theorem r_istore (K : eK l Γ own cc nL k V) {i : Nat} {x : Int32} (d : eN cc pc (.istore i) 2 nx) (hn : i < nL) (hl1 : (i, Value.int x) :: lv.filter (fun q => !(q.1 == i) && !(q.1 + 1 == i && q.2.category == 2)) = lv1) (g : V nx lv1 st ws) : V pc lv (.int x :: st) ws := by
  obtain ⟨p, e, R, s, m, args, below, meth, c, cells, slots, Q, A, hx, hb, hml, hown, hts, hK, hA, hX, hce, hse, hfr, hlo, rfl⟩ := K
  intro H locs ls hl hP hD hS
  obtain ⟨d, rfl⟩ := d
  exact lv_istore hx hb d hl hn hl1 (fun ls hl => (g H locs ls hl hP hD hS))
theorem r_astore_n (K : eK l Γ own cc nL k V) {iF : Fin 4} {i : Nat} {x : Nat} (d : eN cc pc (.astore_n iF) 1 nx) (hi : (iF : Nat) = i) (hn : i < nL) (hl1 : (i, Value.ref x) :: lv.filter (fun q => !(q.1 == i) && !(q.1 + 1 == i && q.2.category == 2)) = lv1) (g : V nx lv1 st ws) : V pc lv (.ref x :: st) ws := by
  obtain ⟨p, e, R, s, m, args, below, meth, c, cells, slots, Q, A, hx, hb, hml, hown, hts, hK, hA, hX, hce, hse, hfr, hlo, rfl⟩ := K
  intro H locs ls hl hP hD hS
  obtain ⟨d, rfl⟩ := d
  exact lv_astore_n hx hb d hi hl hn hl1 (fun ls hl => (g H locs ls hl hP hD hS))
theorem r_astore (K : eK l Γ own cc nL k V) {i : Nat} {x : Nat} (d : eN cc pc (.astore i) 2 nx) (hn : i < nL) (hl1 : (i, Value.ref x) :: lv.filter (fun q => !(q.1 == i) && !(q.1 + 1 == i && q.2.category == 2)) = lv1) (g : V nx lv1 st ws) : V pc lv (.ref x :: st) ws := by
  obtain ⟨p, e, R, s, m, args, below, meth, c, cells, slots, Q, A, hx, hb, hml, hown, hts, hK, hA, hX, hce, hse, hfr, hlo, rfl⟩ := K
  intro H locs ls hl hP hD hS
  obtain ⟨d, rfl⟩ := d
  exact lv_astore hx hb d hl hn hl1 (fun ls hl => (g H locs ls hl hP hD hS))
theorem r_lstore_n (K : eK l Γ own cc nL k V) {iF : Fin 4} {i : Nat} {x : Int64} (d : eN cc pc (.lstore_n iF) 1 nx) (hi : (iF : Nat) = i) (hn : i + 1 < nL) (hl1 : (i, Value.long x) :: lv.filter (fun q => !(q.1 == i) && (!(q.1 == i + 1) && !(q.1 + 1 == i && q.2.category == 2))) = lv1) (g : V nx lv1 st ws) : V pc lv (.long x :: st) ws := by
  obtain ⟨p, e, R, s, m, args, below, meth, c, cells, slots, Q, A, hx, hb, hml, hown, hts, hK, hA, hX, hce, hse, hfr, hlo, rfl⟩ := K
  intro H locs ls hl hP hD hS
  obtain ⟨d, rfl⟩ := d
  exact lv_lstore_n hx hb d hi hl hn hl1 (fun ls hl => (g H locs ls hl hP hD hS))
theorem r_lstore (K : eK l Γ own cc nL k V) {i : Nat} {x : Int64} (d : eN cc pc (.lstore i) 2 nx) (hn : i + 1 < nL) (hl1 : (i, Value.long x) :: lv.filter (fun q => !(q.1 == i) && (!(q.1 == i + 1) && !(q.1 + 1 == i && q.2.category == 2))) = lv1) (g : V nx lv1 st ws) : V pc lv (.long x :: st) ws := by
  obtain ⟨p, e, R, s, m, args, below, meth, c, cells, slots, Q, A, hx, hb, hml, hown, hts, hK, hA, hX, hce, hse, hfr, hlo, rfl⟩ := K
  intro H locs ls hl hP hD hS
  obtain ⟨d, rfl⟩ := d
  exact lv_lstore hx hb d hl hn hl1 (fun ls hl => (g H locs ls hl hP hD hS))
theorem r_iinc (K : eK l Γ own cc nL k V) {i : Nat} {n : Int} {x : Int32} (d : eN cc pc (.iinc i n) 3 nx) (j : Nat) (v : Int32) (hj : lv[j]? = some (i, .int x)) (hv : x + Int32.ofInt n = v) (hn : i < nL) (hl1 : (i, Value.int v) :: lv.filter (fun q => !(q.1 == i) && !(q.1 + 1 == i && q.2.category == 2)) = lv1) (g : V nx lv1 st ws) : V pc lv st ws := by
  obtain ⟨p, e, R, s, m, args, below, meth, c, cells, slots, Q, A, hx, hb, hml, hown, hts, hK, hA, hX, hce, hse, hfr, hlo, rfl⟩ := K
  intro H locs ls hl hP hD hS
  obtain ⟨d, rfl⟩ := d
  exact lv_iinc (k := j) hx hb d hl hj hv hn hl1 (fun ls hl => (g H locs ls hl hP hD hS))
theorem r_iadd (K : eK l Γ own cc nL k V) {x y : Int32} (d : eN cc pc .iadd 1 nx) (g : V nx lv (.int (x + y) :: st) ws) : V pc lv (.int y :: .int x :: st) ws := by
  obtain ⟨p, e, R, s, m, args, below, meth, c, cells, slots, Q, A, hx, hb, hml, hown, hts, hK, hA, hX, hce, hse, hfr, hlo, rfl⟩ := K
  intro H locs ls hl hP hD hS
  obtain ⟨d, rfl⟩ := d
  exact lv_iadd hx hb d (g H locs ls hl hP hD hS)
theorem r_isub (K : eK l Γ own cc nL k V) {x y : Int32} (d : eN cc pc .isub 1 nx) (g : V nx lv (.int (x - y) :: st) ws) : V pc lv (.int y :: .int x :: st) ws := by
  obtain ⟨p, e, R, s, m, args, below, meth, c, cells, slots, Q, A, hx, hb, hml, hown, hts, hK, hA, hX, hce, hse, hfr, hlo, rfl⟩ := K
  intro H locs ls hl hP hD hS
  obtain ⟨d, rfl⟩ := d
  exact lv_isub hx hb d (g H locs ls hl hP hD hS)
theorem r_imul (K : eK l Γ own cc nL k V) {x y : Int32} (d : eN cc pc .imul 1 nx) (g : V nx lv (.int (x * y) :: st) ws) : V pc lv (.int y :: .int x :: st) ws := by
  obtain ⟨p, e, R, s, m, args, below, meth, c, cells, slots, Q, A, hx, hb, hml, hown, hts, hK, hA, hX, hce, hse, hfr, hlo, rfl⟩ := K
  intro H locs ls hl hP hD hS
  obtain ⟨d, rfl⟩ := d
  exact lv_imul hx hb d (g H locs ls hl hP hD hS)
theorem r_iand (K : eK l Γ own cc nL k V) {x y : Int32} (d : eN cc pc .iand 1 nx) (g : V nx lv (.int (x &&& y) :: st) ws) : V pc lv (.int y :: .int x :: st) ws := by
  obtain ⟨p, e, R, s, m, args, below, meth, c, cells, slots, Q, A, hx, hb, hml, hown, hts, hK, hA, hX, hce, hse, hfr, hlo, rfl⟩ := K
  intro H locs ls hl hP hD hS
  obtain ⟨d, rfl⟩ := d
  exact lv_iand hx hb d (g H locs ls hl hP hD hS)
theorem r_ior (K : eK l Γ own cc nL k V) {x y : Int32} (d : eN cc pc .ior 1 nx) (g : V nx lv (.int (x ||| y) :: st) ws) : V pc lv (.int y :: .int x :: st) ws := by
  obtain ⟨p, e, R, s, m, args, below, meth, c, cells, slots, Q, A, hx, hb, hml, hown, hts, hK, hA, hX, hce, hse, hfr, hlo, rfl⟩ := K
  intro H locs ls hl hP hD hS
  obtain ⟨d, rfl⟩ := d
  exact lv_ior hx hb d (g H locs ls hl hP hD hS)
theorem r_ixor (K : eK l Γ own cc nL k V) {x y : Int32} (d : eN cc pc .ixor 1 nx) (g : V nx lv (.int (x ^^^ y) :: st) ws) : V pc lv (.int y :: .int x :: st) ws := by
  obtain ⟨p, e, R, s, m, args, below, meth, c, cells, slots, Q, A, hx, hb, hml, hown, hts, hK, hA, hX, hce, hse, hfr, hlo, rfl⟩ := K
  intro H locs ls hl hP hD hS
  obtain ⟨d, rfl⟩ := d
  exact lv_ixor hx hb d (g H locs ls hl hP hD hS)
theorem r_ishl (K : eK l Γ own cc nL k V) {x y : Int32} (d : eN cc pc .ishl 1 nx) (g : V nx lv (.int (x <<< (y &&& 31)) :: st) ws) : V pc lv (.int y :: .int x :: st) ws := by
  obtain ⟨p, e, R, s, m, args, below, meth, c, cells, slots, Q, A, hx, hb, hml, hown, hts, hK, hA, hX, hce, hse, hfr, hlo, rfl⟩ := K
  intro H locs ls hl hP hD hS
  obtain ⟨d, rfl⟩ := d
  exact lv_ishl hx hb d (g H locs ls hl hP hD hS)
theorem r_ishr (K : eK l Γ own cc nL k V) {x y : Int32} (d : eN cc pc .ishr 1 nx) (g : V nx lv (.int (x >>> (y &&& 31)) :: st) ws) : V pc lv (.int y :: .int x :: st) ws := by
  obtain ⟨p, e, R, s, m, args, below, meth, c, cells, slots, Q, A, hx, hb, hml, hown, hts, hK, hA, hX, hce, hse, hfr, hlo, rfl⟩ := K
  intro H locs ls hl hP hD hS
  obtain ⟨d, rfl⟩ := d
  exact lv_ishr hx hb d (g H locs ls hl hP hD hS)
theorem r_idiv (K : eK l Γ own cc nL k V) {x y : Int32} (d : eN cc pc .idiv 1 nx) (hne : ¬ y = 0) (g : V nx lv (.int (x / y) :: st) ws) : V pc lv (.int y :: .int x :: st) ws := by
  obtain ⟨p, e, R, s, m, args, below, meth, c, cells, slots, Q, A, hx, hb, hml, hown, hts, hK, hA, hX, hce, hse, hfr, hlo, rfl⟩ := K
  intro H locs ls hl hP hD hS
  obtain ⟨d, rfl⟩ := d
  exact lv_idiv hx hb d hne (g H locs ls hl hP hD hS)
theorem r_irem (K : eK l Γ own cc nL k V) {x y : Int32} (d : eN cc pc .irem 1 nx) (hne : ¬ y = 0) (g : V nx lv (.int (x - x / y * y) :: st) ws) : V pc lv (.int y :: .int x :: st) ws := by
  obtain ⟨p, e, R, s, m, args, below, meth, c, cells, slots, Q, A, hx, hb, hml, hown, hts, hK, hA, hX, hce, hse, hfr, hlo, rfl⟩ := K
  intro H locs ls hl hP hD hS
  obtain ⟨d, rfl⟩ := d
  exact lv_irem hx hb d hne (g H locs ls hl hP hD hS)
theorem r_ineg (K : eK l Γ own cc nL k V) {x : Int32} (d : eN cc pc .ineg 1 nx) (g : V nx lv (.int (-x) :: st) ws) : V pc lv (.int x :: st) ws := by
  obtain ⟨p, e, R, s, m, args, below, meth, c, cells, slots, Q, A, hx, hb, hml, hown, hts, hK, hA, hX, hce, hse, hfr, hlo, rfl⟩ := K
  intro H locs ls hl hP hD hS
  obtain ⟨d, rfl⟩ := d
  exact lv_ineg hx hb d (g H locs ls hl hP hD hS)
theorem r_iushr (K : eK l Γ own cc nL k V) {x y : Int32} (d : eN cc pc .iushr 1 nx) (v : Int32) (hv : (x.toUInt32 >>> (y.toUInt32 &&& Int32.toUInt32 31)).toInt32 = v) (g : V nx lv (.int v :: st) ws) : V pc lv (.int y :: .int x :: st) ws := by
  obtain ⟨p, e, R, s, m, args, below, meth, c, cells, slots, Q, A, hx, hb, hml, hown, hts, hK, hA, hX, hce, hse, hfr, hlo, rfl⟩ := K
  intro H locs ls hl hP hD hS
  obtain ⟨d, rfl⟩ := d
  exact lv_iushr hx hb d hv (g H locs ls hl hP hD hS)
theorem r_ladd (K : eK l Γ own cc nL k V) {x y : Int64} (d : eN cc pc .ladd 1 nx) (g : V nx lv (.long (x + y) :: st) ws) : V pc lv (.long y :: .long x :: st) ws := by
  obtain ⟨p, e, R, s, m, args, below, meth, c, cells, slots, Q, A, hx, hb, hml, hown, hts, hK, hA, hX, hce, hse, hfr, hlo, rfl⟩ := K
  intro H locs ls hl hP hD hS
  obtain ⟨d, rfl⟩ := d
  exact lv_ladd hx hb d (g H locs ls hl hP hD hS)
theorem r_lsub (K : eK l Γ own cc nL k V) {x y : Int64} (d : eN cc pc .lsub 1 nx) (g : V nx lv (.long (x - y) :: st) ws) : V pc lv (.long y :: .long x :: st) ws := by
  obtain ⟨p, e, R, s, m, args, below, meth, c, cells, slots, Q, A, hx, hb, hml, hown, hts, hK, hA, hX, hce, hse, hfr, hlo, rfl⟩ := K
  intro H locs ls hl hP hD hS
  obtain ⟨d, rfl⟩ := d
  exact lv_lsub hx hb d (g H locs ls hl hP hD hS)
theorem r_lmul (K : eK l Γ own cc nL k V) {x y : Int64} (d : eN cc pc .lmul 1 nx) (g : V nx lv (.long (x * y) :: st) ws) : V pc lv (.long y :: .long x :: st) ws := by
  obtain ⟨p, e, R, s, m, args, below, meth, c, cells, slots, Q, A, hx, hb, hml, hown, hts, hK, hA, hX, hce, hse, hfr, hlo, rfl⟩ := K
  intro H locs ls hl hP hD hS
  obtain ⟨d, rfl⟩ := d
  exact lv_lmul hx hb d (g H locs ls hl hP hD hS)
theorem r_ldiv (K : eK l Γ own cc nL k V) {x y : Int64} (d : eN cc pc .ldiv 1 nx) (hne : ¬ y = 0) (g : V nx lv (.long (x / y) :: st) ws) : V pc lv (.long y :: .long x :: st) ws := by
  obtain ⟨p, e, R, s, m, args, below, meth, c, cells, slots, Q, A, hx, hb, hml, hown, hts, hK, hA, hX, hce, hse, hfr, hlo, rfl⟩ := K
  intro H locs ls hl hP hD hS
  obtain ⟨d, rfl⟩ := d
  exact lv_ldiv hx hb d hne (g H locs ls hl hP hD hS)
theorem r_lrem (K : eK l Γ own cc nL k V) {x y : Int64} (d : eN cc pc .lrem 1 nx) (hne : ¬ y = 0) (g : V nx lv (.long (x - x / y * y) :: st) ws) : V pc lv (.long y :: .long x :: st) ws := by
  obtain ⟨p, e, R, s, m, args, below, meth, c, cells, slots, Q, A, hx, hb, hml, hown, hts, hK, hA, hX, hce, hse, hfr, hlo, rfl⟩ := K
  intro H locs ls hl hP hD hS
  obtain ⟨d, rfl⟩ := d
  exact lv_lrem hx hb d hne (g H locs ls hl hP hD hS)
theorem r_i2l (K : eK l Γ own cc nL k V) {x : Int32} (d : eN cc pc .i2l 1 nx) (g : V nx lv (.long x.toInt64 :: st) ws) : V pc lv (.int x :: st) ws := by
  obtain ⟨p, e, R, s, m, args, below, meth, c, cells, slots, Q, A, hx, hb, hml, hown, hts, hK, hA, hX, hce, hse, hfr, hlo, rfl⟩ := K
  intro H locs ls hl hP hD hS
  obtain ⟨d, rfl⟩ := d
  exact lv_i2l hx hb d rfl (g H locs ls hl hP hD hS)
theorem r_lcmp (K : eK l Γ own cc nL k V) {x y : Int64} (d : eN cc pc .lcmp 1 nx) (g : V nx lv (.int (lg_cmp x y) :: st) ws) : V pc lv (.long y :: .long x :: st) ws := by
  obtain ⟨p, e, R, s, m, args, below, meth, c, cells, slots, Q, A, hx, hb, hml, hown, hts, hK, hA, hX, hce, hse, hfr, hlo, rfl⟩ := K
  intro H locs ls hl hP hD hS
  obtain ⟨d, rfl⟩ := d
  exact W.lcmp hx hb d (g H locs ls hl hP hD hS)
theorem r_iaddN (K : eK l Γ own cc nL k V) {a b : Nat} (d : eN cc pc .iadd 1 nx) (g : V nx lv (.int (nI (a + b)) :: st) ws) : V pc lv (.int (nI b) :: .int (nI a) :: st) ws := by
  obtain ⟨p, e, R, s, m, args, below, meth, c, cells, slots, Q, A, hx, hb, hml, hown, hts, hK, hA, hX, hce, hse, hfr, hlo, rfl⟩ := K
  intro H locs ls hl hP hD hS
  obtain ⟨d, rfl⟩ := d
  refine lv_iadd hx hb d ?_
  rw [nI_add]
  exact (g H locs ls hl hP hD hS)
theorem r_imulN (K : eK l Γ own cc nL k V) {a b : Nat} (d : eN cc pc .imul 1 nx) (g : V nx lv (.int (nI (a * b)) :: st) ws) : V pc lv (.int (nI b) :: .int (nI a) :: st) ws := by
  obtain ⟨p, e, R, s, m, args, below, meth, c, cells, slots, Q, A, hx, hb, hml, hown, hts, hK, hA, hX, hce, hse, hfr, hlo, rfl⟩ := K
  intro H locs ls hl hP hD hS
  obtain ⟨d, rfl⟩ := d
  refine lv_imul hx hb d ?_
  rw [pk_mul]
  exact (g H locs ls hl hP hD hS)
theorem r_isubN (K : eK l Γ own cc nL k V) {a b : Nat} (d : eN cc pc .isub 1 nx) (h : b ≤ a) (g : V nx lv (.int (nI (a - b)) :: st) ws) : V pc lv (.int (nI b) :: .int (nI a) :: st) ws := by
  obtain ⟨p, e, R, s, m, args, below, meth, c, cells, slots, Q, A, hx, hb, hml, hown, hts, hK, hA, hX, hce, hse, hfr, hlo, rfl⟩ := K
  intro H locs ls hl hP hD hS
  obtain ⟨d, rfl⟩ := d
  refine lv_isub hx hb d ?_
  rw [pk_sub h]
  exact (g H locs ls hl hP hD hS)
theorem r_idivN (K : eK l Γ own cc nL k V) {a b : Nat} (d : eN cc pc .idiv 1 nx) (ha : a < 2 ^ 31) (h0 : 0 < b) (hb0 : b < 2 ^ 31) (g : V nx lv (.int (nI (a / b)) :: st) ws) : V pc lv (.int (nI b) :: .int (nI a) :: st) ws := by
  obtain ⟨p, e, R, s, m, args, below, meth, c, cells, slots, Q, A, hx, hb, hml, hown, hts, hK, hA, hX, hce, hse, hfr, hlo, rfl⟩ := K
  intro H locs ls hl hP hD hS
  obtain ⟨d, rfl⟩ := d
  refine lv_idiv hx hb d (nI_ne0 h0 hb0) ?_
  rw [pk_div ha h0 hb0]
  exact (g H locs ls hl hP hD hS)
theorem r_iremN (K : eK l Γ own cc nL k V) {a b : Nat} (d : eN cc pc .irem 1 nx) (ha : a < 2 ^ 31) (h0 : 0 < b) (hb0 : b < 2 ^ 31) (g : V nx lv (.int (nI (a % b)) :: st) ws) : V pc lv (.int (nI b) :: .int (nI a) :: st) ws := by
  obtain ⟨p, e, R, s, m, args, below, meth, c, cells, slots, Q, A, hx, hb, hml, hown, hts, hK, hA, hX, hce, hse, hfr, hlo, rfl⟩ := K
  intro H locs ls hl hP hD hS
  obtain ⟨d, rfl⟩ := d
  refine lv_irem hx hb d (nI_ne0 h0 hb0) ?_
  rw [pk_rem ha h0 hb0]
  exact (g H locs ls hl hP hD hS)
theorem r_iincN (K : eK l Γ own cc nL k V) {i a n : Nat} {z : Int} (d : eN cc pc (.iinc i z) 3 nx) (j : Nat) (hz : z = (n : Int)) (hj : lv[j]? = some (i, .int (nI a))) (hn : i < nL) (hl1 : (i, Value.int (nI (a + n))) :: lv.filter (fun q => !(q.1 == i) && !(q.1 + 1 == i && q.2.category == 2)) = lv1) (g : V nx lv1 st ws) : V pc lv st ws := by
  obtain ⟨p, e, R, s, m, args, below, meth, c, cells, slots, Q, A, hx, hb, hml, hown, hts, hK, hA, hX, hce, hse, hfr, hlo, rfl⟩ := K
  intro H locs ls hl hP hD hS
  obtain ⟨d, rfl⟩ := d
  subst hz
  exact lv_iinc (k := j) hx hb d hl hj (nI_add a n) hn hl1 (fun ls hl => (g H locs ls hl hP hD hS))
theorem r_dup (K : eK l Γ own cc nL k V) {v : Value} (d : eN cc pc .dup 1 nx) (hv : v.category = 1) (g : V nx lv (v :: v :: st) ws) : V pc lv (v :: st) ws := by
  obtain ⟨p, e, R, s, m, args, below, meth, c, cells, slots, Q, A, hx, hb, hml, hown, hts, hK, hA, hX, hce, hse, hfr, hlo, rfl⟩ := K
  intro H locs ls hl hP hD hS
  obtain ⟨d, rfl⟩ := d
  exact lv_dup hx hb d hv (g H locs ls hl hP hD hS)
theorem r_pop (K : eK l Γ own cc nL k V) {v : Value} (d : eN cc pc .pop 1 nx) (hv : v.category = 1) (g : V nx lv st ws) : V pc lv (v :: st) ws := by
  obtain ⟨p, e, R, s, m, args, below, meth, c, cells, slots, Q, A, hx, hb, hml, hown, hts, hK, hA, hX, hce, hse, hfr, hlo, rfl⟩ := K
  intro H locs ls hl hP hD hS
  obtain ⟨d, rfl⟩ := d
  exact lv_pop hx hb d hv (g H locs ls hl hP hD hS)
theorem r_dup2 (K : eK l Γ own cc nL k V) {v w : Value} (d : eN cc pc .dup2 1 nx) (hv : v.category = 1) (hw : w.category = 1) (g : V nx lv (v :: w :: v :: w :: st) ws) : V pc lv (v :: w :: st) ws := by
  obtain ⟨p, e, R, s, m, args, below, meth, c, cells, slots, Q, A, hx, hb, hml, hown, hts, hK, hA, hX, hce, hse, hfr, hlo, rfl⟩ := K
  intro H locs ls hl hP hD hS
  obtain ⟨d, rfl⟩ := d
  exact lv_dup2_11 hx hb d hv hw (g H locs ls hl hP hD hS)
theorem r_if_eq (K : eK l Γ own cc nL k V) {x : Int32} {off : Int} (d : eB cc pc (.ifCond .eq off) off 3 nx tg) (kt : x = 0 → V tg lv st ws) (kf : ¬ x = 0 → V nx lv st ws) : V pc lv (.int x :: st) ws := by
  obtain ⟨p, e, R, s, m, args, below, meth, c, cells, slots, Q, A, hx, hb, hml, hown, hts, hK, hA, hX, hce, hse, hfr, hlo, rfl⟩ := K
  intro H locs ls hl hP hD hS
  obtain ⟨d, rfl, ht⟩ := d
  exact lv_if_eq hx hb d ht (fun h => kt h H locs ls hl hP hD hS) (fun h => kf h H locs ls hl hP hD hS)
theorem r_ic_eq (K : eK l Γ own cc nL k V) {x y : Int32} {off : Int} (d : eB cc pc (.if_icmp .eq off) off 3 nx tg) (kt : x = y → V tg lv st ws) (kf : ¬ x = y → V nx lv st ws) : V pc lv (.int y :: .int x :: st) ws := by
  obtain ⟨p, e, R, s, m, args, below, meth, c, cells, slots, Q, A, hx, hb, hml, hown, hts, hK, hA, hX, hce, hse, hfr, hlo, rfl⟩ := K
  intro H locs ls hl hP hD hS
  obtain ⟨d, rfl, ht⟩ := d
  exact lv_icmp_eq hx hb d ht (fun h => kt h H locs ls hl hP hD hS) (fun h => kf h H locs ls hl hP hD hS)
theorem r_if_ne (K : eK l Γ own cc nL k V) {x : Int32} {off : Int} (d : eB cc pc (.ifCond .ne off) off 3 nx tg) (kt : ¬ x = 0 → V tg lv st ws) (kf : x = 0 → V nx lv st ws) : V pc lv (.int x :: st) ws := by
  obtain ⟨p, e, R, s, m, args, below, meth, c, cells, slots, Q, A, hx, hb, hml, hown, hts, hK, hA, hX, hce, hse, hfr, hlo, rfl⟩ := K
  intro H locs ls hl hP hD hS
  obtain ⟨d, rfl, ht⟩ := d
  exact lv_if_ne hx hb d ht (fun h => kt h H locs ls hl hP hD hS) (fun h => kf h H locs ls hl hP hD hS)
theorem r_ic_ne (K : eK l Γ own cc nL k V) {x y : Int32} {off : Int} (d : eB cc pc (.if_icmp .ne off) off 3 nx tg) (kt : ¬ x = y → V tg lv st ws) (kf : x = y → V nx lv st ws) : V pc lv (.int y :: .int x :: st) ws := by
  obtain ⟨p, e, R, s, m, args, below, meth, c, cells, slots, Q, A, hx, hb, hml, hown, hts, hK, hA, hX, hce, hse, hfr, hlo, rfl⟩ := K
  intro H locs ls hl hP hD hS
  obtain ⟨d, rfl, ht⟩ := d
  exact lv_icmp_ne hx hb d ht (fun h => kt h H locs ls hl hP hD hS) (fun h => kf h H locs ls hl hP hD hS)
theorem r_if_lt (K : eK l Γ own cc nL k V) {x : Int32} {off : Int} (d : eB cc pc (.ifCond .lt off) off 3 nx tg) (kt : x < 0 → V tg lv st ws) (kf : ¬ x < 0 → V nx lv st ws) : V pc lv (.int x :: st) ws := by
  obtain ⟨p, e, R, s, m, args, below, meth, c, cells, slots, Q, A, hx, hb, hml, hown, hts, hK, hA, hX, hce, hse, hfr, hlo, rfl⟩ := K
  intro H locs ls hl hP hD hS
  obtain ⟨d, rfl, ht⟩ := d
  exact lv_if_lt hx hb d ht (fun h => kt h H locs ls hl hP hD hS) (fun h => kf h H locs ls hl hP hD hS)
theorem r_ic_lt (K : eK l Γ own cc nL k V) {x y : Int32} {off : Int} (d : eB cc pc (.if_icmp .lt off) off 3 nx tg) (kt : x < y → V tg lv st ws) (kf : ¬ x < y → V nx lv st ws) : V pc lv (.int y :: .int x :: st) ws := by
  obtain ⟨p, e, R, s, m, args, below, meth, c, cells, slots, Q, A, hx, hb, hml, hown, hts, hK, hA, hX, hce, hse, hfr, hlo, rfl⟩ := K
  intro H locs ls hl hP hD hS
  obtain ⟨d, rfl, ht⟩ := d
  exact lv_icmp_lt hx hb d ht (fun h => kt h H locs ls hl hP hD hS) (fun h => kf h H locs ls hl hP hD hS)
theorem r_if_ge (K : eK l Γ own cc nL k V) {x : Int32} {off : Int} (d : eB cc pc (.ifCond .ge off) off 3 nx tg) (kt : 0 ≤ x → V tg lv st ws) (kf : ¬ 0 ≤ x → V nx lv st ws) : V pc lv (.int x :: st) ws := by
  obtain ⟨p, e, R, s, m, args, below, meth, c, cells, slots, Q, A, hx, hb, hml, hown, hts, hK, hA, hX, hce, hse, hfr, hlo, rfl⟩ := K
  intro H locs ls hl hP hD hS
  obtain ⟨d, rfl, ht⟩ := d
  exact lv_if_ge hx hb d ht (fun h => kt h H locs ls hl hP hD hS) (fun h => kf h H locs ls hl hP hD hS)
theorem r_ic_ge (K : eK l Γ own cc nL k V) {x y : Int32} {off : Int} (d : eB cc pc (.if_icmp .ge off) off 3 nx tg) (kt : y ≤ x → V tg lv st ws) (kf : ¬ y ≤ x → V nx lv st ws) : V pc lv (.int y :: .int x :: st) ws := by
  obtain ⟨p, e, R, s, m, args, below, meth, c, cells, slots, Q, A, hx, hb, hml, hown, hts, hK, hA, hX, hce, hse, hfr, hlo, rfl⟩ := K
  intro H locs ls hl hP hD hS
  obtain ⟨d, rfl, ht⟩ := d
  exact lv_icmp_ge hx hb d ht (fun h => kt h H locs ls hl hP hD hS) (fun h => kf h H locs ls hl hP hD hS)
theorem r_if_gt (K : eK l Γ own cc nL k V) {x : Int32} {off : Int} (d : eB cc pc (.ifCond .gt off) off 3 nx tg) (kt : 0 < x → V tg lv st ws) (kf : ¬ 0 < x → V nx lv st ws) : V pc lv (.int x :: st) ws := by
  obtain ⟨p, e, R, s, m, args, below, meth, c, cells, slots, Q, A, hx, hb, hml, hown, hts, hK, hA, hX, hce, hse, hfr, hlo, rfl⟩ := K
  intro H locs ls hl hP hD hS
  obtain ⟨d, rfl, ht⟩ := d
  exact lv_if_gt hx hb d ht (fun h => kt h H locs ls hl hP hD hS) (fun h => kf h H locs ls hl hP hD hS)
theorem r_ic_gt (K : eK l Γ own cc nL k V) {x y : Int32} {off : Int} (d : eB cc pc (.if_icmp .gt off) off 3 nx tg) (kt : y < x → V tg lv st ws) (kf : ¬ y < x → V nx lv st ws) : V pc lv (.int y :: .int x :: st) ws := by
  obtain ⟨p, e, R, s, m, args, below, meth, c, cells, slots, Q, A, hx, hb, hml, hown, hts, hK, hA, hX, hce, hse, hfr, hlo, rfl⟩ := K
  intro H locs ls hl hP hD hS
  obtain ⟨d, rfl, ht⟩ := d
  exact lv_icmp_gt hx hb d ht (fun h => kt h H locs ls hl hP hD hS) (fun h => kf h H locs ls hl hP hD hS)
theorem r_if_le (K : eK l Γ own cc nL k V) {x : Int32} {off : Int} (d : eB cc pc (.ifCond .le off) off 3 nx tg) (kt : x ≤ 0 → V tg lv st ws) (kf : ¬ x ≤ 0 → V nx lv st ws) : V pc lv (.int x :: st) ws := by
  obtain ⟨p, e, R, s, m, args, below, meth, c, cells, slots, Q, A, hx, hb, hml, hown, hts, hK, hA, hX, hce, hse, hfr, hlo, rfl⟩ := K
  intro H locs ls hl hP hD hS
  obtain ⟨d, rfl, ht⟩ := d
  exact lv_if_le hx hb d ht (fun h => kt h H locs ls hl hP hD hS) (fun h => kf h H locs ls hl hP hD hS)
theorem r_ic_le (K : eK l Γ own cc nL k V) {x y : Int32} {off : Int} (d : eB cc pc (.if_icmp .le off) off 3 nx tg) (kt : x ≤ y → V tg lv st ws) (kf : ¬ x ≤ y → V nx lv st ws) : V pc lv (.int y :: .int x :: st) ws := by
  obtain ⟨p, e, R, s, m, args, below, meth, c, cells, slots, Q, A, hx, hb, hml, hown, hts, hK, hA, hX, hce, hse, hfr, hlo, rfl⟩ := K
  intro H locs ls hl hP hD hS
  obtain ⟨d, rfl, ht⟩ := d
  exact lv_icmp_le hx hb d ht (fun h => kt h H locs ls hl hP hD hS) (fun h => kf h H locs ls hl hP hD hS)
end RULES
section RULESN
variable {l : Launch} {Γ : eG} {own : String} {cc : ByteArray} {nL k : Nat} {V : Nat → List (Nat × Value) → List Value → List va_W → Prop}
variable {pc nx tg : Nat} {lv lv1 : List (Nat × Value)} {st : List Value} {ws : List va_W}
theorem r_ic_eqN (K : eK l Γ own cc nL k V) {a b : Nat} {off : Int} (d : eB cc pc (.if_icmp .eq off) off 3 nx tg) (ha : a < 2 ^ 31) (hb : b < 2 ^ 31) (kt : a = b → V tg lv st ws) (kf : ¬ a = b → V nx lv st ws) : V pc lv (.int (nI b) :: .int (nI a) :: st) ws := r_ic_eq K d (fun h => kt ((nI_eq ha hb).mp h)) (fun h => kf (fun q => h ((nI_eq ha hb).mpr q)))
theorem r_if_eqN (K : eK l Γ own cc nL k V) {a : Nat} {off : Int} (d : eB cc pc (.ifCond .eq off) off 3 nx tg) (ha : a < 2 ^ 31) (kt : a = 0 → V tg lv st ws) (kf : ¬ a = 0 → V nx lv st ws) : V pc lv (.int (nI a) :: st) ws := by
  have hb : 0 < 2 ^ 31 := by decide
  refine r_if_eq K d (fun h => kt ?_) (fun h => kf ?_)
  · rw [← nI_0] at h
    exact (nI_eq ha hb).mp h
  · rw [← nI_0] at h
    exact fun q => h ((nI_eq ha hb).mpr q)
theorem r_ic_neN (K : eK l Γ own cc nL k V) {a b : Nat} {off : Int} (d : eB cc pc (.if_icmp .ne off) off 3 nx tg) (ha : a < 2 ^ 31) (hb : b < 2 ^ 31) (kt : ¬ a = b → V tg lv st ws) (kf : a = b → V nx lv st ws) : V pc lv (.int (nI b) :: .int (nI a) :: st) ws := r_ic_ne K d (fun h => kt (fun q => h ((nI_eq ha hb).mpr q))) (fun h => kf ((nI_eq ha hb).mp h))
theorem r_if_neN (K : eK l Γ own cc nL k V) {a : Nat} {off : Int} (d : eB cc pc (.ifCond .ne off) off 3 nx tg) (ha : a < 2 ^ 31) (kt : ¬ a = 0 → V tg lv st ws) (kf : a = 0 → V nx lv st ws) : V pc lv (.int (nI a) :: st) ws := by
  have hb : 0 < 2 ^ 31 := by decide
  refine r_if_ne K d (fun h => kt ?_) (fun h => kf ?_)
  · rw [← nI_0] at h
    exact fun q => h ((nI_eq ha hb).mpr q)
  · rw [← nI_0] at h
    exact (nI_eq ha hb).mp h
theorem r_ic_ltN (K : eK l Γ own cc nL k V) {a b : Nat} {off : Int} (d : eB cc pc (.if_icmp .lt off) off 3 nx tg) (ha : a < 2 ^ 31) (hb : b < 2 ^ 31) (kt : a < b → V tg lv st ws) (kf : b ≤ a → V nx lv st ws) : V pc lv (.int (nI b) :: .int (nI a) :: st) ws := r_ic_lt K d (fun h => kt ((nI_ltI ha hb).mp h)) (fun h => kf (Nat.not_lt.mp fun q => h ((nI_ltI ha hb).mpr q)))
theorem r_if_ltN (K : eK l Γ own cc nL k V) {a : Nat} {off : Int} (d : eB cc pc (.ifCond .lt off) off 3 nx tg) (ha : a < 2 ^ 31) (kt : a < 0 → V tg lv st ws) (kf : 0 ≤ a → V nx lv st ws) : V pc lv (.int (nI a) :: st) ws := by
  have hb : 0 < 2 ^ 31 := by decide
  refine r_if_lt K d (fun h => kt ?_) (fun h => kf ?_)
  · rw [← nI_0] at h
    exact (nI_ltI ha hb).mp h
  · rw [← nI_0] at h
    exact Nat.not_lt.mp fun q => h ((nI_ltI ha hb).mpr q)
theorem r_ic_geN (K : eK l Γ own cc nL k V) {a b : Nat} {off : Int} (d : eB cc pc (.if_icmp .ge off) off 3 nx tg) (ha : a < 2 ^ 31) (hb : b < 2 ^ 31) (kt : b ≤ a → V tg lv st ws) (kf : a < b → V nx lv st ws) : V pc lv (.int (nI b) :: .int (nI a) :: st) ws := r_ic_ge K d (fun h => kt ((nI_leI hb ha).mp h)) (fun h => kf (Nat.not_le.mp fun q => h ((nI_leI hb ha).mpr q)))
theorem r_if_geN (K : eK l Γ own cc nL k V) {a : Nat} {off : Int} (d : eB cc pc (.ifCond .ge off) off 3 nx tg) (ha : a < 2 ^ 31) (kt : 0 ≤ a → V tg lv st ws) (kf : a < 0 → V nx lv st ws) : V pc lv (.int (nI a) :: st) ws := by
  have hb : 0 < 2 ^ 31 := by decide
  refine r_if_ge K d (fun h => kt ?_) (fun h => kf ?_)
  · rw [← nI_0] at h
    exact (nI_leI hb ha).mp h
  · rw [← nI_0] at h
    exact Nat.not_le.mp fun q => h ((nI_leI hb ha).mpr q)
theorem r_ic_gtN (K : eK l Γ own cc nL k V) {a b : Nat} {off : Int} (d : eB cc pc (.if_icmp .gt off) off 3 nx tg) (ha : a < 2 ^ 31) (hb : b < 2 ^ 31) (kt : b < a → V tg lv st ws) (kf : a ≤ b → V nx lv st ws) : V pc lv (.int (nI b) :: .int (nI a) :: st) ws := r_ic_gt K d (fun h => kt ((nI_ltI hb ha).mp h)) (fun h => kf (Nat.not_lt.mp fun q => h ((nI_ltI hb ha).mpr q)))
theorem r_if_gtN (K : eK l Γ own cc nL k V) {a : Nat} {off : Int} (d : eB cc pc (.ifCond .gt off) off 3 nx tg) (ha : a < 2 ^ 31) (kt : 0 < a → V tg lv st ws) (kf : a ≤ 0 → V nx lv st ws) : V pc lv (.int (nI a) :: st) ws := by
  have hb : 0 < 2 ^ 31 := by decide
  refine r_if_gt K d (fun h => kt ?_) (fun h => kf ?_)
  · rw [← nI_0] at h
    exact (nI_ltI hb ha).mp h
  · rw [← nI_0] at h
    exact Nat.not_lt.mp fun q => h ((nI_ltI hb ha).mpr q)
theorem r_ic_leN (K : eK l Γ own cc nL k V) {a b : Nat} {off : Int} (d : eB cc pc (.if_icmp .le off) off 3 nx tg) (ha : a < 2 ^ 31) (hb : b < 2 ^ 31) (kt : a ≤ b → V tg lv st ws) (kf : b < a → V nx lv st ws) : V pc lv (.int (nI b) :: .int (nI a) :: st) ws := r_ic_le K d (fun h => kt ((nI_leI ha hb).mp h)) (fun h => kf (Nat.not_le.mp fun q => h ((nI_leI ha hb).mpr q)))
theorem r_if_leN (K : eK l Γ own cc nL k V) {a : Nat} {off : Int} (d : eB cc pc (.ifCond .le off) off 3 nx tg) (ha : a < 2 ^ 31) (kt : a ≤ 0 → V tg lv st ws) (kf : 0 < a → V nx lv st ws) : V pc lv (.int (nI a) :: st) ws := by
  have hb : 0 < 2 ^ 31 := by decide
  refine r_if_le K d (fun h => kt ?_) (fun h => kf ?_)
  · rw [← nI_0] at h
    exact (nI_leI ha hb).mp h
  · rw [← nI_0] at h
    exact Nat.not_le.mp fun q => h ((nI_leI ha hb).mpr q)
theorem bz_t : bz true = nI 1 := rfl
theorem bz_f : bz false = nI 0 := rfl
theorem bz_eq (b : Bool) : bz b = 0 ↔ b = false := by cases b <;> decide
theorem bz_n (b : Bool) : narrow .boolean (.int (bz b)) = .int (bz b) := by cases b <;> rfl
theorem r_ifeqB (K : eK l Γ own cc nL k V) {b : Bool} {off : Int} (d : eB cc pc (.ifCond .eq off) off 3 nx tg) (kt : b = false → V tg lv st ws) (kf : b = true → V nx lv st ws) : V pc lv (.int (bz b) :: st) ws := r_if_eq K d (fun h => kt ((bz_eq b).mp h)) (fun h => kf (by cases b; exact absurd rfl h; rfl))
theorem r_ifneB (K : eK l Γ own cc nL k V) {b : Bool} {off : Int} (d : eB cc pc (.ifCond .ne off) off 3 nx tg) (kt : b = true → V tg lv st ws) (kf : b = false → V nx lv st ws) : V pc lv (.int (bz b) :: st) ws := r_if_ne K d (fun h => kt (by cases b; exact absurd rfl h; rfl)) (fun h => kf ((bz_eq b).mp h))
end RULESN
section RULES2
variable {l : Launch} {Γ : eG} {own : String} {cc : ByteArray} {nL k : Nat} {V : Nat → List (Nat × Value) → List Value → List va_W → Prop}
variable {pc nx tg : Nat} {lv lv1 : List (Nat × Value)} {st : List Value} {ws : List va_W}
theorem r_goto (K : eK l Γ own cc nL k V) {off : Int} (d : eB cc pc (.goto off) off 3 nx tg) (g : V tg lv st ws) : V pc lv st ws := by
  obtain ⟨p, e, R, s, m, args, below, meth, c, cells, slots, Q, A, hx, hb, hml, hown, hts, hK, hA, hX, hce, hse, hfr, hlo, rfl⟩ := K
  intro H locs ls hl hP hD hS
  obtain ⟨d, rfl, ht⟩ := d
  exact lv_goto hx hb d ht (g H locs ls hl hP hD hS)
/-- the arms of a switch, from the number v on -/
def swG (V : Nat → List (Nat × Value) → List Value → List va_W → Prop) (lv : List (Nat × Value)) (st : List Value) (ws : List va_W) (x : Int32) : Int → List Nat → Prop
  | _, [] => True
  | v, t :: ts => (x = Int32.ofInt v → V t lv st ws) ∧ swG V lv st ws x (v + 1) ts
theorem swG_at {V : Nat → List (Nat × Value) → List Value → List va_W → Prop} {lv : List (Nat × Value)} {st : List Value} {ws : List va_W} {x : Int32} : ∀ {ts : List Nat} {v : Int} {i t : Nat}, swG V lv st ws x v ts → ts[i]? = some t → x = Int32.ofInt (v + i) → V t lv st ws
  | [], _, _, _, _, h, _ => by simp at h
  | t0 :: ts, v, 0, t, hg, h, hx => by
    rw [List.getElem?_cons_zero] at h
    cases h
    exact hg.1 (by rw [hx]; simp)
  | t0 :: ts, v, i + 1, t, hg, h, hx => by
    rw [List.getElem?_cons_succ] at h
    exact swG_at hg.2 h (by rw [hx]; congr 1; omega)
theorem r_tsw (K : eK l Γ own cc nL k V) {dflt lo hi : Int} {offs : Array Int} {len : Nat} {x : Int32} (d : decode cc pc = .ok (.tableswitch dflt lo hi offs, len)) (ts : List Nat) (td : Nat) (hts0 : offs.toList.map (fun o : Int => (pc : Int) + o) = ts.map (fun t : Nat => (t : Int))) (hlh : lo ≤ hi ∧ hi - lo + 1 = offs.size) (htd : (pc : Int) + dflt = (td : Int)) (g : swG V lv st ws x lo ts) (gd : (x.toInt < lo ∨ hi < x.toInt) → V td lv st ws) : V pc lv (.int x :: st) ws := by
  obtain ⟨p, e, R, s, m, args, below, meth, c, cells, slots, Q, A, hx, hb, hml, hown, hts, hK, hA, hX, hce, hse, hfr, hlo, rfl⟩ := K
  intro H locs ls hl hP hD hS
  by_cases h1 : x.toInt < lo
  · exact lv_tableOut hx hb d (Or.inl h1) htd (gd (Or.inl h1) H locs ls hl hP hD hS)
  by_cases h2 : hi < x.toInt
  · exact lv_tableOut hx hb d (Or.inr h2) htd (gd (Or.inr h2) H locs ls hl hP hD hS)
  have hlt : (x.toInt - lo).toNat < offs.size := by omega
  have ho : offs[(x.toInt - lo).toNat]? = some offs[(x.toInt - lo).toNat] := Array.getElem?_eq_getElem hlt
  have e1 : (ts.map (fun t : Nat => (t : Int)))[(x.toInt - lo).toNat]? = some ((pc : Int) + offs[(x.toInt - lo).toNat]) := by
    rw [← hts0, List.getElem?_map, Array.getElem?_toList, ho]
    rfl
  rw [List.getElem?_map] at e1
  cases ht : ts[(x.toInt - lo).toNat]? with
  | none => rw [ht] at e1; cases e1
  | some t =>
    rw [ht] at e1
    have e2 := Option.some.inj e1
    exact lv_tableIn hx hb d h1 h2 ho e2.symm (swG_at g ht (by rw [show lo + ((x.toInt - lo).toNat : Int) = x.toInt by omega]; exact (Int32.ofInt_toInt x).symm) H locs ls hl hP hD hS)
theorem r_get (K : eK l Γ own cc nL k V) {h ci index n kf : Nat} {fs : List Value} {C ref nm de : String} {T : u_T} {v : Value} (d : eN cc pc (.getfield index) 3 nx) (j : Nat) (hj : ws[j]? = some (eO h ci fs)) (hc : cls[ci]? = some (C, T, n)) (hin : ∀ w ∈ u_ws C T n, w ∈ eT) (hk : kf < n) (hlk : Cond.fieldLink own index ref nm de ∈ eT) (hT : T kf = (ref, nm, de, (T kf).2.2.2)) (hv : fs[kf]? = some v) (g : V nx lv (v :: st) ws) : V pc lv (.ref h :: st) ws := by
  obtain ⟨p, e, R, s, m, args, below, meth, c, cells, slots, Q, A, hx, hb, hml, hown, hts, hK, hA, hX, hce, hse, hfr, hlo, rfl⟩ := K
  intro H locs ls hl hP hD hS
  obtain ⟨d, rfl⟩ := d
  obtain ⟨q0, h1, -⟩ := e_one hj
  have hlk := hts _ hlk
  rw [show ref = (T kf).1 by rw [hT], show nm = (T kf).2.1 by rw [hT], show de = (T kf).2.2.1 by rw [hT]] at hlk
  exact va_get (D := Γ.1) (ci := ci) (v := v) hx hb hts hin hown hK hP q0 h1 hc kf hk hlk (fun _ h9 => h9) hv d (g H locs ls hl hP hD hS)
theorem r_put (K : eK l Γ own cc nL k V) {h ci index n kf : Nat} {fs : List Value} {C ref nm de : String} {T : u_T} {ty : FieldType} {v : Value} {ws1 : List va_W} (d : eN cc pc (.putfield index) 3 nx) (j : Nat) (hj : ws[j]? = some (eO h ci fs)) (hc : cls[ci]? = some (C, T, n)) (hin : ∀ w ∈ u_ws C T n, w ∈ eT) (t0 : Nat → FieldType) (ht0 : ∀ k, k < n → parseFieldDescriptor (T k).2.2.1 = some (t0 k)) (hnm : ∀ a, a < n → ∀ b, b < n → a ≠ b → (T a).2.1 ≠ (T b).2.1) (hk : kf < n) (hlk : Cond.fieldLink own index ref nm de ∈ eT) (hT : T kf = (ref, nm, de, false)) (hty : parseFieldDescriptor de = some ty) (hn : narrow ty v = v) (hf : fits ty v = true) (hlen : kf < fs.length) (hw : ws.set j (eO h ci (fs.set kf v)) = ws1) (g : V nx lv st ws1) : V pc lv (v :: .ref h :: st) ws := by
  obtain ⟨p, e, R, s, m, args, below, meth, c, cells, slots, Q, A, hx, hb, hml, hown, hts, hK, hA, hX, hce, hse, hfr, hlo, rfl⟩ := K
  intro H locs ls hl hP hD hS
  obtain ⟨d, rfl⟩ := d
  obtain ⟨q0, h1, h2⟩ := e_one hj
  have hlk := hts _ hlk
  rw [show ref = (T kf).1 by rw [hT], show nm = (T kf).2.1 by rw [hT], show de = (T kf).2.2.1 by rw [hT]] at hlk
  refine va_put (D := Γ.1) (ci := ci) (v := v) (ty := ty) hx hb hts hin t0 ht0 hnm hown hK hP hD hS q0 h1 hc kf hk hlk (fun _ h9 => h9) (by rw [hT]) (by rw [hT]; exact hty) hn hf hlen d (fun H locs hP hD hS => ?_)
  have e := h2 (h, .inr (ci, fs.set kf v))
  rw [← e] at hP hD
  subst hw
  exact (g H locs ls hl hP hD hS)
theorem r_ald (K : eK l Γ own cc nL k V) {h n : Nat} {f : Nat → Int32} {i : Int32} (d : eN cc pc .iaload 1 nx) (j : Nat) (hj : ws[j]? = some (eI Γ h n f)) (hi : vp_in i n) (g : V nx lv (.int (f i.toNatClampNeg) :: st) ws) : V pc lv (.int i :: .ref h :: st) ws := by
  obtain ⟨p, e, R, s, m, args, below, meth, c, cells, slots, Q, A, hx, hb, hml, hown, hts, hK, hA, hX, hce, hse, hfr, hlo, rfl⟩ := K
  intro H locs ls hl hP hD hS
  obtain ⟨d, rfl⟩ := d
  obtain ⟨q0, h1, -⟩ := e_one hj
  exact va_iald hx hb hK hP q0 0 h1 rfl hi d (g H locs ls hl hP hD hS)
theorem r_aldN (K : eK l Γ own cc nL k V) {h n i : Nat} {f : Nat → Int32} (d : eN cc pc .iaload 1 nx) (j : Nat) (hj : ws[j]? = some (eI Γ h n f)) (hi : i < n) (hn : n < 2 ^ 31) (g : V nx lv (.int (f i) :: st) ws) : V pc lv (.int (nI i) :: .ref h :: st) ws := by
  obtain ⟨p, e, R, s, m, args, below, meth, c, cells, slots, Q, A, hx, hb, hml, hown, hts, hK, hA, hX, hce, hse, hfr, hlo, rfl⟩ := K
  intro H locs ls hl hP hD hS
  obtain ⟨d, rfl⟩ := d
  obtain ⟨q0, h1, -⟩ := e_one hj
  refine va_iald hx hb hK hP q0 0 h1 rfl (vp_in_nI hi hn) d ?_
  rw [nI_clamp (by omega)]
  exact (g H locs ls hl hP hD hS)
theorem r_ast (K : eK l Γ own cc nL k V) {h n : Nat} {f : Nat → Int32} {i x : Int32} {ws1 : List va_W} (d : eN cc pc .iastore 1 nx) (j : Nat) (hj : ws[j]? = some (eI Γ h n f)) (hi : vp_in i n) (hw : ws.set j (eI Γ h n (upd f i.toNatClampNeg x)) = ws1) (g : V nx lv st ws1) : V pc lv (.int x :: .int i :: .ref h :: st) ws := by
  obtain ⟨p, e, R, s, m, args, below, meth, c, cells, slots, Q, A, hx, hb, hml, hown, hts, hK, hA, hX, hce, hse, hfr, hlo, rfl⟩ := K
  intro H locs ls hl hP hD hS
  obtain ⟨d, rfl⟩ := d
  obtain ⟨q0, h1, h2⟩ := e_one hj
  refine va_iast hx hb hK hP hD hS q0 0 h1 rfl hi d (fun H locs hP hD hS => ?_)
  have e := h2 (h, .inl (Γ.2.1, n, .inl (upd f i.toNatClampNeg x)))
  rw [← e] at hP hD
  subst hw
  exact (g H locs ls hl hP hD hS)
theorem r_astN (K : eK l Γ own cc nL k V) {h n i : Nat} {f : Nat → Int32} {x : Int32} {ws1 : List va_W} (d : eN cc pc .iastore 1 nx) (j : Nat) (hj : ws[j]? = some (eI Γ h n f)) (hi : i < n) (hn : n < 2 ^ 31) (hw : ws.set j (eI Γ h n (upd f i x)) = ws1) (g : V nx lv st ws1) : V pc lv (.int x :: .int (nI i) :: .ref h :: st) ws := by
  refine r_ast K d j hj (vp_in_nI hi hn) ?_ g
  rw [nI_clamp (by omega)]
  exact hw
theorem r_len (K : eK l Γ own cc nL k V) {h n : Nat} {f : Nat → Int32} (d : eN cc pc .arraylength 1 nx) (j : Nat) (hj : ws[j]? = some (eI Γ h n f)) (g : V nx lv (.int (nI n) :: st) ws) : V pc lv (.ref h :: st) ws := by
  obtain ⟨p, e, R, s, m, args, below, meth, c, cells, slots, Q, A, hx, hb, hml, hown, hts, hK, hA, hX, hce, hse, hfr, hlo, rfl⟩ := K
  intro H locs ls hl hP hD hS
  obtain ⟨d, rfl⟩ := d
  obtain ⟨q0, h1, -⟩ := e_one hj
  exact va_alen hx hb hK hP q0 0 h1 rfl rfl d (g H locs ls hl hP hD hS)
theorem r_gets (K : eK l Γ own cc nL k V) {index : Nat} (d : eN cc pc (.getstatic index) 3 nx) (hlk : Cond.fieldLink own index RX4 "DIGITS" "[I" ∈ eT) (g : V nx lv (.ref Γ.2.2 :: st) ws) : V pc lv st ws := by
  obtain ⟨p, e, R, s, m, args, below, meth, c, cells, slots, Q, A, hx, hb, hml, hown, hts, hK, hA, hX, hce, hse, hfr, hlo, rfl⟩ := K
  intro H locs ls hl hP hD hS
  obtain ⟨d, rfl⟩ := d
  exact va_gets hx hb hX.1 hS hown (hts _ hlk) (fun _ h9 => h9) d (g H locs ls hl hP hD hS)
theorem r_tald (K : eK l Γ own cc nL k V) {i : Nat} (d : eN cc pc .iaload 1 nx) (hi : i < 6) (g : V nx lv (.int (nI (dgN i)) :: st) ws) : V pc lv (.int (nI i) :: .ref Γ.2.2 :: st) ws := by
  obtain ⟨p, e, R, s, m, args, below, meth, c, cells, slots, Q, A, hx, hb, hml, hown, hts, hK, hA, hX, hce, hse, hfr, hlo, rfl⟩ := K
  intro H locs ls hl hP hD hS
  obtain ⟨d, rfl⟩ := d
  exact va_ti hx hb hX.2 hS (vp_in_nI hi (by decide)) (by rw [nI_clamp (by omega)]; rfl) d (g H locs ls hl hP hD hS)
theorem r_tlen (K : eK l Γ own cc nL k V) (d : eN cc pc .arraylength 1 nx) (g : V nx lv (.int (nI 6) :: st) ws) : V pc lv (.ref Γ.2.2 :: st) ws := by
  obtain ⟨p, e, R, s, m, args, below, meth, c, cells, slots, Q, A, hx, hb, hml, hown, hts, hK, hA, hX, hce, hse, hfr, hlo, rfl⟩ := K
  intro H locs ls hl hP hD hS
  obtain ⟨d, rfl⟩ := d
  exact va_tlen hx hb hX.2 hS rfl d (g H locs ls hl hP hD hS)
theorem r_mmin (K : eK l Γ own cc nL k V) {i : Nat} {x y : Int32} (d : eN cc pc (.invokestatic i) 3 nx) (hlk : Cond.methodLink own i Lib.Math.min.name ∈ eT) (hst : Cond.static Lib.Math.min.name ∈ eT) (hcd : Cond.code Lib.Math.min.name Lib.Math.min.code 2 (some .int) ∈ eT) (hr : (st.map fun v => v.category).sum ≤ 8) (hk : 1 ≤ k) (g : V nx lv (.int (if y < x then y else x) :: st) ws) : V pc lv (.int y :: .int x :: st) ws := by
  obtain ⟨p, e, R, s, m, args, below, meth, c, cells, slots, Q, A, hx, hb, hml, hown, hts, hK, hA, hX, hce, hse, hfr, hlo, rfl⟩ := K
  intro H locs ls hl hP hD hS
  obtain ⟨d, rfl⟩ := d
  exact va_mmin hx hb (hml.trans hl.1.symm) hown (hts _ hlk) (hts _ hst) (hts _ q8) (hts _ hcd) (by omega) (by omega) hce hse d (g H locs ls hl hP hD hS)
theorem r_mmax (K : eK l Γ own cc nL k V) {i : Nat} {x y : Int32} (d : eN cc pc (.invokestatic i) 3 nx) (hlk : Cond.methodLink own i Lib.Math.max.name ∈ eT) (hst : Cond.static Lib.Math.max.name ∈ eT) (hcd : Cond.code Lib.Math.max.name Lib.Math.max.code 2 (some .int) ∈ eT) (hr : (st.map fun v => v.category).sum ≤ 8) (hk : 1 ≤ k) (g : V nx lv (.int (if x < y then y else x) :: st) ws) : V pc lv (.int y :: .int x :: st) ws := by
  obtain ⟨p, e, R, s, m, args, below, meth, c, cells, slots, Q, A, hx, hb, hml, hown, hts, hK, hA, hX, hce, hse, hfr, hlo, rfl⟩ := K
  intro H locs ls hl hP hD hS
  obtain ⟨d, rfl⟩ := d
  exact va_mmax hx hb (hml.trans hl.1.symm) hown (hts _ hlk) (hts _ hst) (hts _ q8) (hts _ hcd) (by omega) (by omega) hce hse d (g H locs ls hl hP hD hS)
theorem r_mmaxL (K : eK l Γ own cc nL k V) {i : Nat} {x y : Int64} (d : eN cc pc (.invokestatic i) 3 nx) (hlk : Cond.methodLink own i Lib.MathLoose.max_long.x ∈ eT) (hst : Cond.static Lib.MathLoose.max_long.x ∈ eT) (hcd : Cond.code Lib.MathLoose.max_long.x Lib.MathLoose.max_long.code 4 (some .long) ∈ eT) (hr : (st.map fun v => v.category).sum ≤ 8) (hk : 1 ≤ k) (g : V nx lv (.long (if y < x then x else y) :: st) ws) : V pc lv (.long y :: .long x :: st) ws := by
  obtain ⟨p, e, R, s, m, args, below, meth, c, cells, slots, Q, A, hx, hb, hml, hown, hts, hK, hA, hX, hce, hse, hfr, hlo, rfl⟩ := K
  intro H locs ls hl hP hD hS
  obtain ⟨d, rfl⟩ := d
  exact va_mmax_long hx hb (hml.trans hl.1.symm) hown (hts _ hlk) (hts _ hst) (hts _ q8) (hts _ hcd) (by omega) (by omega) hce hse d (g H locs ls hl hP hD hS)
theorem r_lv (K : eK l Γ own cc nL k V) (ks : List Nat) (h : lv_pick lv ks = lv1) (g : V pc lv1 st ws) : V pc lv st ws := by
  obtain ⟨p, e, R, s, m, args, below, meth, c, cells, slots, Q, A, hx, hb, hml, hown, hts, hK, hA, hX, hce, hse, hfr, hlo, rfl⟩ := K
  intro H locs ls hl hP hD hS
  exact g H locs ls (lv_sub hl ks h) hP hD hS
theorem r_ws (K : eK l Γ own cc nL k V) {ws1 : List va_W} (h : weq ws.flatten ws1.flatten) (g : V pc lv st ws1) : V pc lv st ws := by
  obtain ⟨p, e, R, s, m, args, below, meth, c, cells, slots, Q, A, hx, hb, hml, hown, hts, hK, hA, hX, hce, hse, hfr, hlo, rfl⟩ := K
  intro H locs ls hl hP hD hS
  have hP := h.P hP
  have hD := h.D hD
  exact (g H locs ls hl hP hD hS)
end RULES2
section RULES3
variable {l : Launch} {Γ : eG} {own : String} {cc : ByteArray} {nL k : Nat} {V : Nat → List (Nat × Value) → List Value → List va_W → Prop}
variable {pc nx tg : Nat} {lv lv1 : List (Nat × Value)} {st : List Value} {ws : List va_W}
theorem r_arr (K : eK l Γ own cc nL k V) {h n : Nat} {f f2 : Nat → Int32} {ws1 : List va_W} (j : Nat) (hj : ws[j]? = some (eI Γ h n f)) (hf : ∀ i, i < n → f i = f2 i) (hw : ws.set j (eI Γ h n f2) = ws1) (g : V pc lv st ws1) : V pc lv st ws := by
  obtain ⟨p, e, R, s, m, args, below, meth, c, cells, slots, Q, A, hx, hb, hml, hown, hts, hK, hA, hX, hce, hse, hfr, hlo, rfl⟩ := K
  intro H locs ls hl hP hD hS
  obtain ⟨q0, h1, h2⟩ := e_one hj
  subst hw
  refine g H locs ls hl ?_ ?_ hS
  · show va_P Γ.1 cls (ws.set j [(h, .inl (Γ.2.1, n, .inl f2))]).flatten H
    rw [h2]
    exact va_P.set hP hD h1 (show H[h]? = some (vp_cell Γ.2.1 (n, .inl f2)) by rw [← e_arrV hf]; exact hP q0 _ h1) (fun q _ => rfl)
  · show va_D A (ws.set j [(h, .inl (Γ.2.1, n, .inl f2))]).flatten
    rw [h2]
    exact hD.set h1
end RULES3
