/-! what the constructors make -/
def z0 : Nat → Int32 := fun _ => nI 0
theorem z0_nG : nG z0 = 0 := by decide
theorem z0_nM : nM z0 = 0 := by decide
theorem yd0 {Γ : eG} {h : Nat} {a : Nat → Nat} : (ydL Γ h a 0 0 (nI 0) z0 z0 z0 z0 z0 z0 z0).flatten = [ydX Γ h a z0 z0].flatten := by
  rw [ydL_fl, fl1]
  unfold ydX
  rw [z0_nG, z0_nM]
  rfl
theorem leave_z0 : leaveS z0 = z0 := by
  funext k
  unfold leaveS
  rw [z0_nM, if_neg (by omega)]
theorem Inv_z0 : Inv z0 := by
  refine ⟨okN_nI (by decide) (by decide), okN_nI (by decide) (by decide), fun g _ => ⟨okN_nI (by decide) (by decide), okN_nI (by decide) (by decide), okN_nI (by decide) (by decide), fun _ => rfl⟩, fun p _ => ⟨okN_nI (by decide) (by decide), okN_nI (by decide) (by decide), okN_nI (by decide) (by decide), fun _ => rfl⟩, fun p hp => ?_⟩
  rw [z0_nM] at hp
  omega
def ad7 (a b c d e f g : Nat) : Nat → Nat := fun k => match k with
  | 0 => a
  | 1 => b
  | 2 => c
  | 3 => d
  | 4 => e
  | 5 => f
  | _ => g
def ltC (Γ : eG) (h a : Nat) : va_W := [eO h 1 [.ref a, .int (nI 0)], eI Γ a 96 z0].flatten
def stC (Γ : eG) (h : Nat) (a : Nat × Nat × Nat) : va_W := [eO h 2 [.ref a.1, .ref a.2.1, .ref a.2.2, .int (nI 0)], eI Γ a.1 64 z0, eI Γ a.2.1 64 z0, eI Γ a.2.2 64 z0].flatten
def thC (Γ : eG) (h n : Nat) (a : Nat × Nat × (Nat → Nat)) : va_W := [eO h 3 [.ref n, .ref a.1, .ref a.2.1, .int (nI 0)], ydW Γ a.1 a.2.2 z0, eI Γ a.2.1 7 z0].flatten
/-- the class's world at first -/
def goL (Γ : eG) (h : Nat) (b an ad ap am : Nat → Nat) : List va_W := [go h b 0 false, ydW Γ (b 0) an z0, ydW Γ (b 1) ad z0, ydW Γ (b 2) ap z0, eO (b 3) 3 [.ref (b 0), .ref (b 8), .ref (b 9), .int (nI 0)], ydW Γ (b 8) am z0, eI Γ (b 9) 7 z0, eO (b 4) 1 [.ref (b 10), .int (nI 0)], eI Γ (b 10) 96 z0, eO (b 5) 2 [.ref (b 11), .ref (b 12), .ref (b 13), .int (nI 0)], eI Γ (b 11) 64 z0, eI Γ (b 12) 64 z0, eI Γ (b 13) 64 z0, eI Γ (b 6) 16 z0, eI Γ (b 7) 7 z0]
def goC (Γ : eG) (h : Nat) (u : (Nat → Nat) × (Nat → Nat) × (Nat → Nat) × (Nat → Nat) × (Nat → Nat)) : va_W := (goL Γ h u.1 u.2.1 u.2.2.1 u.2.2.2.1 u.2.2.2.2).flatten
def ad14 (a b c d e f g h i j k l m n : Nat) : Nat → Nat := fun x => match x with
  | 0 => a
  | 1 => b
  | 2 => c
  | 3 => d
  | 4 => e
  | 5 => f
  | 6 => g
  | 7 => h
  | 8 => i
  | 9 => j
  | 10 => k
  | 11 => l
  | 12 => m
  | _ => n
def moL (Γ : eG) (h : Nat) (a : Nat → Nat) : List va_W := [mo h a false 0 0 0 (nI 0) (nI 0), eI Γ (a 0) 42 z0, eI Γ (a 1) 42 z0, eI Γ (a 2) 42 z0, eI Γ (a 3) 42 z0, eI Γ (a 4) 96 z0, eI Γ (a 5) 16 z0, eI Γ (a 6) 7 z0, eI Γ (a 7) 3 z0, eI Γ (a 8) 6 z0, eI Γ (a 9) 6 z0, eI Γ (a 10) 5 z0]
def moC (Γ : eG) (h : Nat) (a : Nat → Nat) : va_W := (moL Γ h a).flatten
theorem go_weq {Γ : eG} {h q1 q2 q3 q4 q5 q6 q7 q8 u5 : Nat} {u1 u2 u3 : Nat → Nat} {u4 : Nat × Nat × (Nat → Nat)} {u6 : Nat × Nat × Nat} : weq [eO h 4 [.ref q1, .ref q2, .ref q3, .ref q4, .ref q5, .ref q6, .ref q7, .ref q8, .int (nI 0), .int (nI 0)], ydW Γ q1 u1 z0, ydW Γ q2 u2 z0, ydW Γ q3 u3 z0, thC Γ q4 q1 u4, ltC Γ q5 u5, stC Γ q6 u6, eI Γ q7 16 z0, eI Γ q8 7 z0].flatten [goC Γ h (ad14 q1 q2 q3 q4 q5 q6 q7 q8 u4.1 u4.2.1 u5 u6.1 u6.2.1 u6.2.2, u1, u2, u3, u4.2.2)].flatten := by
  rw [fl1]
  unfold goC goL thC ltC stC go
  refine weq.of ?_
  simp only [List.flatten_cons, List.flatten_nil, List.append_nil, List.append_assoc]
  rfl
