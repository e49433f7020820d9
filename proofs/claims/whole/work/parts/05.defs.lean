/-! The two worlds: which cell is what -/
abbrev Zx : Type := va_G × (Nat → Nat) × ClassId × ClassId
def fsC0 (ad : Nat → Nat) (r : Nat → Int32) : List Value := [.ref (ad 1), .ref (ad 3), .ref (ad 10), .ref (ad 18), .ref (ad 20), .int (r 5), .ref (ad 22), .ref (ad 29), .ref (ad 30), .ref (ad 32), .ref (ad 37)]
def fsC1 (ad : Nat → Nat) (r : Nat → Int32) : List Value := [.ref (ad 2), .int (r 1)]
def fsC3 (ad : Nat → Nat) (r : Nat → Int32) : List Value := [.int (r 0), .int (r 1), .int (r 2), .int (r 3), .ref (ad 4), .ref (ad 5), .ref (ad 6), .ref (ad 7), .ref (ad 8), .ref (ad 9)]
def fsC10 (ad : Nat → Nat) (r : Nat → Int32) : List Value := [.ref (ad 1), .ref (ad 11), .int (r 2), .int (r 3), .int (r 4), .int (r 5)]
def fsC11 (ad : Nat → Nat) (r : Nat → Int32) : List Value := [.int (r 0), .int (r 1), .int (r 2), .int (r 3), .ref (ad 12), .ref (ad 13), .ref (ad 14), .ref (ad 15), .ref (ad 16), .ref (ad 17)]
def fsC18 (ad : Nat → Nat) (r : Nat → Int32) : List Value := [.ref (ad 19)]
def fsC20 (ad : Nat → Nat) (r : Nat → Int32) : List Value := [.ref (ad 21), .int (r 1), .int (r 2)]
def fsC23 (ad : Nat → Nat) (r : Nat → Int32) : List Value := [.ref (ad 24), .int (r 1), .int (r 2)]
def fsC24 (ad : Nat → Nat) (r : Nat → Int32) : List Value := [.ref (ad 25)]
def fsC26 (ad : Nat → Nat) (r : Nat → Int32) : List Value := [.ref (ad 27), .int (r 1), .int (r 2)]
def fsC27 (ad : Nat → Nat) (r : Nat → Int32) : List Value := [.ref (ad 28)]
def fsC29 (ad : Nat → Nat) (r : Nat → Int32) : List Value := [.ref (ad 3), .ref (ad 18)]
def fsC30 (ad : Nat → Nat) (r : Nat → Int32) : List Value := [.ref (ad 3), .ref (ad 18), .ref (ad 29), .ref (ad 31)]
def fsC32 (ad : Nat → Nat) (r : Nat → Int32) : List Value := [.ref (ad 3), .ref (ad 29), .ref (ad 33), .ref (ad 34), .int (r 4), .ref (ad 35), .int (r 6), .ref (ad 36)]
def fsC37 (ad : Nat → Nat) (r : Nat → Int32) : List Value := [.ref (ad 38), .int (r 1)]
def gC (Z : Zx) : Lay := fun k r => match k with
  | 0 => .inr (10, fsC0 Z.2.1 r)
  | 1 => .inr (8, fsC1 Z.2.1 r)
  | 2 => .inl (Z.2.2.1, 240, .inl r)
  | 3 => .inr (5, fsC3 Z.2.1 r)
  | 4 => .inl (Z.2.2.1, 8, .inl r)
  | 5 => .inl (Z.2.2.1, 6, .inl r)
  | 6 => .inl (Z.2.2.1, 6, .inl r)
  | 7 => .inl (Z.2.2.1, 7, .inl r)
  | 8 => .inl (Z.2.2.1, 7, .inl r)
  | 9 => .inl (Z.2.2.1, 7, .inl r)
  | 10 => .inr (6, fsC10 Z.2.1 r)
  | 11 => .inr (5, fsC11 Z.2.1 r)
  | 12 => .inl (Z.2.2.1, 8, .inl r)
  | 13 => .inl (Z.2.2.1, 6, .inl r)
  | 14 => .inl (Z.2.2.1, 6, .inl r)
  | 15 => .inl (Z.2.2.1, 7, .inl r)
  | 16 => .inl (Z.2.2.1, 7, .inl r)
  | 17 => .inl (Z.2.2.1, 7, .inl r)
  | 18 => .inr (7, fsC18 Z.2.1 r)
  | 19 => .inl (Z.2.2.1, 28, .inl r)
  | 20 => .inr (4, fsC20 Z.2.1 r)
  | 21 => .inl (Z.2.2.1, 560, .inl r)
  | 22 => .inl (Z.2.2.2, 2, .inr (.inr (.inr (.inr (fun j => if j = 0 then some (Z.2.1 23) else if j = 1 then some (Z.2.1 26) else none)))))
  | 23 => .inr (3, fsC23 Z.2.1 r)
  | 24 => .inr (7, fsC24 Z.2.1 r)
  | 25 => .inl (Z.2.2.1, 28, .inl r)
  | 26 => .inr (3, fsC26 Z.2.1 r)
  | 27 => .inr (7, fsC27 Z.2.1 r)
  | 28 => .inl (Z.2.2.1, 28, .inl r)
  | 29 => .inr (2, fsC29 Z.2.1 r)
  | 30 => .inr (9, fsC30 Z.2.1 r)
  | 31 => .inl (Z.2.2.1, 9, .inl r)
  | 32 => .inr (1, fsC32 Z.2.1 r)
  | 33 => .inl (Z.2.2.1, 8, .inl r)
  | 34 => .inl (Z.2.2.1, 8, .inl r)
  | 35 => .inl (Z.2.2.1, 55, .inl r)
  | 36 => .inl (Z.2.2.1, 12, .inl r)
  | 37 => .inr (0, fsC37 Z.2.1 r)
  | 38 => .inl (Z.2.2.1, 15, .inl r)
  | _ => .inl (Z.2.2.1, 0, .inl r)
theorem stC0_5 (ad : Nat → Nat) : ∀ (r : Nat → Int32) (v : Int32), (fsC0 ad r).set 5 (.int v) = fsC0 ad (upd r 5 v) := fun r v => by simp [fsC0, upd]
theorem lnC0 (ad : Nat → Nat) : ∀ r : Nat → Int32, (fsC0 ad r).length = 11 := fun _ => rfl
theorem gC_0 (Z : Zx) : ∀ r : Nat → Int32, gC Z 0 r = .inr (10, fsC0 Z.2.1 r) := fun _ => rfl
theorem stC1_1 (ad : Nat → Nat) : ∀ (r : Nat → Int32) (v : Int32), (fsC1 ad r).set 1 (.int v) = fsC1 ad (upd r 1 v) := fun r v => by simp [fsC1, upd]
theorem lnC1 (ad : Nat → Nat) : ∀ r : Nat → Int32, (fsC1 ad r).length = 2 := fun _ => rfl
theorem gC_1 (Z : Zx) : ∀ r : Nat → Int32, gC Z 1 r = .inr (8, fsC1 Z.2.1 r) := fun _ => rfl
theorem gC_2 (Z : Zx) : ∀ r : Nat → Int32, gC Z 2 r = .inl (Z.2.2.1, 240, .inl r) := fun _ => rfl
theorem stC3_0 (ad : Nat → Nat) : ∀ (r : Nat → Int32) (v : Int32), (fsC3 ad r).set 0 (.int v) = fsC3 ad (upd r 0 v) := fun r v => by simp [fsC3, upd]
theorem stC3_1 (ad : Nat → Nat) : ∀ (r : Nat → Int32) (v : Int32), (fsC3 ad r).set 1 (.int v) = fsC3 ad (upd r 1 v) := fun r v => by simp [fsC3, upd]
theorem stC3_2 (ad : Nat → Nat) : ∀ (r : Nat → Int32) (v : Int32), (fsC3 ad r).set 2 (.int v) = fsC3 ad (upd r 2 v) := fun r v => by simp [fsC3, upd]
theorem stC3_3 (ad : Nat → Nat) : ∀ (r : Nat → Int32) (v : Int32), (fsC3 ad r).set 3 (.int v) = fsC3 ad (upd r 3 v) := fun r v => by simp [fsC3, upd]
theorem lnC3 (ad : Nat → Nat) : ∀ r : Nat → Int32, (fsC3 ad r).length = 10 := fun _ => rfl
theorem gC_3 (Z : Zx) : ∀ r : Nat → Int32, gC Z 3 r = .inr (5, fsC3 Z.2.1 r) := fun _ => rfl
theorem gC_4 (Z : Zx) : ∀ r : Nat → Int32, gC Z 4 r = .inl (Z.2.2.1, 8, .inl r) := fun _ => rfl
theorem gC_5 (Z : Zx) : ∀ r : Nat → Int32, gC Z 5 r = .inl (Z.2.2.1, 6, .inl r) := fun _ => rfl
theorem gC_6 (Z : Zx) : ∀ r : Nat → Int32, gC Z 6 r = .inl (Z.2.2.1, 6, .inl r) := fun _ => rfl
theorem gC_7 (Z : Zx) : ∀ r : Nat → Int32, gC Z 7 r = .inl (Z.2.2.1, 7, .inl r) := fun _ => rfl
theorem gC_8 (Z : Zx) : ∀ r : Nat → Int32, gC Z 8 r = .inl (Z.2.2.1, 7, .inl r) := fun _ => rfl
theorem gC_9 (Z : Zx) : ∀ r : Nat → Int32, gC Z 9 r = .inl (Z.2.2.1, 7, .inl r) := fun _ => rfl
theorem stC10_2 (ad : Nat → Nat) : ∀ (r : Nat → Int32) (v : Int32), (fsC10 ad r).set 2 (.int v) = fsC10 ad (upd r 2 v) := fun r v => by simp [fsC10, upd]
theorem stC10_3 (ad : Nat → Nat) : ∀ (r : Nat → Int32) (v : Int32), (fsC10 ad r).set 3 (.int v) = fsC10 ad (upd r 3 v) := fun r v => by simp [fsC10, upd]
theorem stC10_4 (ad : Nat → Nat) : ∀ (r : Nat → Int32) (v : Int32), (fsC10 ad r).set 4 (.int v) = fsC10 ad (upd r 4 v) := fun r v => by simp [fsC10, upd]
theorem stC10_5 (ad : Nat → Nat) : ∀ (r : Nat → Int32) (v : Int32), (fsC10 ad r).set 5 (.int v) = fsC10 ad (upd r 5 v) := fun r v => by simp [fsC10, upd]
theorem lnC10 (ad : Nat → Nat) : ∀ r : Nat → Int32, (fsC10 ad r).length = 6 := fun _ => rfl
theorem gC_10 (Z : Zx) : ∀ r : Nat → Int32, gC Z 10 r = .inr (6, fsC10 Z.2.1 r) := fun _ => rfl
theorem stC11_0 (ad : Nat → Nat) : ∀ (r : Nat → Int32) (v : Int32), (fsC11 ad r).set 0 (.int v) = fsC11 ad (upd r 0 v) := fun r v => by simp [fsC11, upd]
theorem stC11_1 (ad : Nat → Nat) : ∀ (r : Nat → Int32) (v : Int32), (fsC11 ad r).set 1 (.int v) = fsC11 ad (upd r 1 v) := fun r v => by simp [fsC11, upd]
theorem stC11_2 (ad : Nat → Nat) : ∀ (r : Nat → Int32) (v : Int32), (fsC11 ad r).set 2 (.int v) = fsC11 ad (upd r 2 v) := fun r v => by simp [fsC11, upd]
theorem stC11_3 (ad : Nat → Nat) : ∀ (r : Nat → Int32) (v : Int32), (fsC11 ad r).set 3 (.int v) = fsC11 ad (upd r 3 v) := fun r v => by simp [fsC11, upd]
theorem lnC11 (ad : Nat → Nat) : ∀ r : Nat → Int32, (fsC11 ad r).length = 10 := fun _ => rfl
theorem gC_11 (Z : Zx) : ∀ r : Nat → Int32, gC Z 11 r = .inr (5, fsC11 Z.2.1 r) := fun _ => rfl
theorem gC_12 (Z : Zx) : ∀ r : Nat → Int32, gC Z 12 r = .inl (Z.2.2.1, 8, .inl r) := fun _ => rfl
theorem gC_13 (Z : Zx) : ∀ r : Nat → Int32, gC Z 13 r = .inl (Z.2.2.1, 6, .inl r) := fun _ => rfl
theorem gC_14 (Z : Zx) : ∀ r : Nat → Int32, gC Z 14 r = .inl (Z.2.2.1, 6, .inl r) := fun _ => rfl
theorem gC_15 (Z : Zx) : ∀ r : Nat → Int32, gC Z 15 r = .inl (Z.2.2.1, 7, .inl r) := fun _ => rfl
theorem gC_16 (Z : Zx) : ∀ r : Nat → Int32, gC Z 16 r = .inl (Z.2.2.1, 7, .inl r) := fun _ => rfl
theorem gC_17 (Z : Zx) : ∀ r : Nat → Int32, gC Z 17 r = .inl (Z.2.2.1, 7, .inl r) := fun _ => rfl
theorem lnC18 (ad : Nat → Nat) : ∀ r : Nat → Int32, (fsC18 ad r).length = 1 := fun _ => rfl
theorem gC_18 (Z : Zx) : ∀ r : Nat → Int32, gC Z 18 r = .inr (7, fsC18 Z.2.1 r) := fun _ => rfl
theorem gC_19 (Z : Zx) : ∀ r : Nat → Int32, gC Z 19 r = .inl (Z.2.2.1, 28, .inl r) := fun _ => rfl
theorem stC20_1 (ad : Nat → Nat) : ∀ (r : Nat → Int32) (v : Int32), (fsC20 ad r).set 1 (.int v) = fsC20 ad (upd r 1 v) := fun r v => by simp [fsC20, upd]
theorem stC20_2 (ad : Nat → Nat) : ∀ (r : Nat → Int32) (v : Int32), (fsC20 ad r).set 2 (.int v) = fsC20 ad (upd r 2 v) := fun r v => by simp [fsC20, upd]
theorem lnC20 (ad : Nat → Nat) : ∀ r : Nat → Int32, (fsC20 ad r).length = 3 := fun _ => rfl
theorem gC_20 (Z : Zx) : ∀ r : Nat → Int32, gC Z 20 r = .inr (4, fsC20 Z.2.1 r) := fun _ => rfl
theorem gC_21 (Z : Zx) : ∀ r : Nat → Int32, gC Z 21 r = .inl (Z.2.2.1, 560, .inl r) := fun _ => rfl
theorem gC_22 (Z : Zx) : ∀ r : Nat → Int32, gC Z 22 r = .inl (Z.2.2.2, 2, .inr (.inr (.inr (.inr (fun j => if j = 0 then some (Z.2.1 23) else if j = 1 then some (Z.2.1 26) else none))))) := fun _ => rfl
theorem stC23_1 (ad : Nat → Nat) : ∀ (r : Nat → Int32) (v : Int32), (fsC23 ad r).set 1 (.int v) = fsC23 ad (upd r 1 v) := fun r v => by simp [fsC23, upd]
theorem stC23_2 (ad : Nat → Nat) : ∀ (r : Nat → Int32) (v : Int32), (fsC23 ad r).set 2 (.int v) = fsC23 ad (upd r 2 v) := fun r v => by simp [fsC23, upd]
theorem lnC23 (ad : Nat → Nat) : ∀ r : Nat → Int32, (fsC23 ad r).length = 3 := fun _ => rfl
theorem gC_23 (Z : Zx) : ∀ r : Nat → Int32, gC Z 23 r = .inr (3, fsC23 Z.2.1 r) := fun _ => rfl
theorem lnC24 (ad : Nat → Nat) : ∀ r : Nat → Int32, (fsC24 ad r).length = 1 := fun _ => rfl
theorem gC_24 (Z : Zx) : ∀ r : Nat → Int32, gC Z 24 r = .inr (7, fsC24 Z.2.1 r) := fun _ => rfl
theorem gC_25 (Z : Zx) : ∀ r : Nat → Int32, gC Z 25 r = .inl (Z.2.2.1, 28, .inl r) := fun _ => rfl
theorem stC26_1 (ad : Nat → Nat) : ∀ (r : Nat → Int32) (v : Int32), (fsC26 ad r).set 1 (.int v) = fsC26 ad (upd r 1 v) := fun r v => by simp [fsC26, upd]
theorem stC26_2 (ad : Nat → Nat) : ∀ (r : Nat → Int32) (v : Int32), (fsC26 ad r).set 2 (.int v) = fsC26 ad (upd r 2 v) := fun r v => by simp [fsC26, upd]
theorem lnC26 (ad : Nat → Nat) : ∀ r : Nat → Int32, (fsC26 ad r).length = 3 := fun _ => rfl
theorem gC_26 (Z : Zx) : ∀ r : Nat → Int32, gC Z 26 r = .inr (3, fsC26 Z.2.1 r) := fun _ => rfl
theorem lnC27 (ad : Nat → Nat) : ∀ r : Nat → Int32, (fsC27 ad r).length = 1 := fun _ => rfl
theorem gC_27 (Z : Zx) : ∀ r : Nat → Int32, gC Z 27 r = .inr (7, fsC27 Z.2.1 r) := fun _ => rfl
theorem gC_28 (Z : Zx) : ∀ r : Nat → Int32, gC Z 28 r = .inl (Z.2.2.1, 28, .inl r) := fun _ => rfl
theorem lnC29 (ad : Nat → Nat) : ∀ r : Nat → Int32, (fsC29 ad r).length = 2 := fun _ => rfl
theorem gC_29 (Z : Zx) : ∀ r : Nat → Int32, gC Z 29 r = .inr (2, fsC29 Z.2.1 r) := fun _ => rfl
theorem lnC30 (ad : Nat → Nat) : ∀ r : Nat → Int32, (fsC30 ad r).length = 4 := fun _ => rfl
theorem gC_30 (Z : Zx) : ∀ r : Nat → Int32, gC Z 30 r = .inr (9, fsC30 Z.2.1 r) := fun _ => rfl
theorem gC_31 (Z : Zx) : ∀ r : Nat → Int32, gC Z 31 r = .inl (Z.2.2.1, 9, .inl r) := fun _ => rfl
theorem stC32_4 (ad : Nat → Nat) : ∀ (r : Nat → Int32) (v : Int32), (fsC32 ad r).set 4 (.int v) = fsC32 ad (upd r 4 v) := fun r v => by simp [fsC32, upd]
theorem stC32_6 (ad : Nat → Nat) : ∀ (r : Nat → Int32) (v : Int32), (fsC32 ad r).set 6 (.int v) = fsC32 ad (upd r 6 v) := fun r v => by simp [fsC32, upd]
theorem lnC32 (ad : Nat → Nat) : ∀ r : Nat → Int32, (fsC32 ad r).length = 8 := fun _ => rfl
theorem gC_32 (Z : Zx) : ∀ r : Nat → Int32, gC Z 32 r = .inr (1, fsC32 Z.2.1 r) := fun _ => rfl
theorem gC_33 (Z : Zx) : ∀ r : Nat → Int32, gC Z 33 r = .inl (Z.2.2.1, 8, .inl r) := fun _ => rfl
theorem gC_34 (Z : Zx) : ∀ r : Nat → Int32, gC Z 34 r = .inl (Z.2.2.1, 8, .inl r) := fun _ => rfl
theorem gC_35 (Z : Zx) : ∀ r : Nat → Int32, gC Z 35 r = .inl (Z.2.2.1, 55, .inl r) := fun _ => rfl
theorem gC_36 (Z : Zx) : ∀ r : Nat → Int32, gC Z 36 r = .inl (Z.2.2.1, 12, .inl r) := fun _ => rfl
theorem stC37_1 (ad : Nat → Nat) : ∀ (r : Nat → Int32) (v : Int32), (fsC37 ad r).set 1 (.int v) = fsC37 ad (upd r 1 v) := fun r v => by simp [fsC37, upd]
theorem lnC37 (ad : Nat → Nat) : ∀ r : Nat → Int32, (fsC37 ad r).length = 2 := fun _ => rfl
theorem gC_37 (Z : Zx) : ∀ r : Nat → Int32, gC Z 37 r = .inr (0, fsC37 Z.2.1 r) := fun _ => rfl
theorem gC_38 (Z : Zx) : ∀ r : Nat → Int32, gC Z 38 r = .inl (Z.2.2.1, 15, .inl r) := fun _ => rfl
abbrev XC (Z : Zx) : Wx := (Z.1, vwCl, [(Z.2.2.1, .int), (Z.2.2.2, .object "FourWalls$Image")], 39, Z.2.1, gC Z)
def fsM0 (ad : Nat → Nat) (r : Nat → Int32) : List Value := [.int (r 0), .int (r 1), .ref (ad 1), .ref (ad 2), .int (r 4), .ref (ad 3), .ref (ad 4), .ref (ad 5), .int (r 8), .ref (ad 6), .int (r 10), .int (r 11), .int (r 12), .int (r 13), .int (r 14), .int (r 15), .ref (ad 7), .int (r 17), .int (r 18), .ref (ad 8), .ref (ad 9), .int (r 21), .ref (ad 10), .ref (ad 11), .ref (ad 12), .int (r 25), .ref (ad 13), .int (r 27), .ref (ad 14), .ref (ad 15), .ref (ad 16), .int (r 31), .ref (ad 17), .ref (ad 18), .ref (ad 19)]
def gM (Z : Zx) : Lay := fun k r => match k with
  | 0 => .inr (11, fsM0 Z.2.1 r)
  | 1 => .inl (Z.2.2.1, 6, .inl r)
  | 2 => .inl (Z.2.2.1, 6, .inl r)
  | 3 => .inl (Z.2.2.1, 7, .inl r)
  | 4 => .inl (Z.2.2.1, 7, .inl r)
  | 5 => .inl (Z.2.2.1, 28, .inl r)
  | 6 => .inl (Z.2.2.1, 240, .inl r)
  | 7 => .inl (Z.2.2.1, 8, .inl r)
  | 8 => .inl (Z.2.2.1, 6, .inl r)
  | 9 => .inl (Z.2.2.1, 6, .inl r)
  | 10 => .inl (Z.2.2.1, 7, .inl r)
  | 11 => .inl (Z.2.2.1, 7, .inl r)
  | 12 => .inl (Z.2.2.1, 7, .inl r)
  | 13 => .inl (Z.2.2.1, 560, .inl r)
  | 14 => .inl (Z.2.2.1, 8, .inl r)
  | 15 => .inl (Z.2.2.1, 8, .inl r)
  | 16 => .inl (Z.2.2.1, 12, .inl r)
  | 17 => .inl (Z.2.2.1, 15, .inl r)
  | 18 => .inl (Z.2.2.1, 58, .inl r)
  | 19 => .inl (Z.2.2.2, 2, .inl r)
  | _ => .inl (Z.2.2.1, 0, .inl r)
theorem stM0_0 (ad : Nat → Nat) : ∀ (r : Nat → Int32) (v : Int32), (fsM0 ad r).set 0 (.int v) = fsM0 ad (upd r 0 v) := fun r v => by simp [fsM0, upd]
theorem stM0_1 (ad : Nat → Nat) : ∀ (r : Nat → Int32) (v : Int32), (fsM0 ad r).set 1 (.int v) = fsM0 ad (upd r 1 v) := fun r v => by simp [fsM0, upd]
theorem stM0_4 (ad : Nat → Nat) : ∀ (r : Nat → Int32) (v : Int32), (fsM0 ad r).set 4 (.int v) = fsM0 ad (upd r 4 v) := fun r v => by simp [fsM0, upd]
theorem stM0_8 (ad : Nat → Nat) : ∀ (r : Nat → Int32) (v : Int32), (fsM0 ad r).set 8 (.int v) = fsM0 ad (upd r 8 v) := fun r v => by simp [fsM0, upd]
theorem stM0_10 (ad : Nat → Nat) : ∀ (r : Nat → Int32) (v : Int32), (fsM0 ad r).set 10 (.int v) = fsM0 ad (upd r 10 v) := fun r v => by simp [fsM0, upd]
theorem stM0_11 (ad : Nat → Nat) : ∀ (r : Nat → Int32) (v : Int32), (fsM0 ad r).set 11 (.int v) = fsM0 ad (upd r 11 v) := fun r v => by simp [fsM0, upd]
theorem stM0_12 (ad : Nat → Nat) : ∀ (r : Nat → Int32) (v : Int32), (fsM0 ad r).set 12 (.int v) = fsM0 ad (upd r 12 v) := fun r v => by simp [fsM0, upd]
theorem stM0_13 (ad : Nat → Nat) : ∀ (r : Nat → Int32) (v : Int32), (fsM0 ad r).set 13 (.int v) = fsM0 ad (upd r 13 v) := fun r v => by simp [fsM0, upd]
theorem stM0_14 (ad : Nat → Nat) : ∀ (r : Nat → Int32) (v : Int32), (fsM0 ad r).set 14 (.int v) = fsM0 ad (upd r 14 v) := fun r v => by simp [fsM0, upd]
theorem stM0_15 (ad : Nat → Nat) : ∀ (r : Nat → Int32) (v : Int32), (fsM0 ad r).set 15 (.int v) = fsM0 ad (upd r 15 v) := fun r v => by simp [fsM0, upd]
theorem stM0_17 (ad : Nat → Nat) : ∀ (r : Nat → Int32) (v : Int32), (fsM0 ad r).set 17 (.int v) = fsM0 ad (upd r 17 v) := fun r v => by simp [fsM0, upd]
theorem stM0_18 (ad : Nat → Nat) : ∀ (r : Nat → Int32) (v : Int32), (fsM0 ad r).set 18 (.int v) = fsM0 ad (upd r 18 v) := fun r v => by simp [fsM0, upd]
theorem stM0_21 (ad : Nat → Nat) : ∀ (r : Nat → Int32) (v : Int32), (fsM0 ad r).set 21 (.int v) = fsM0 ad (upd r 21 v) := fun r v => by simp [fsM0, upd]
theorem stM0_25 (ad : Nat → Nat) : ∀ (r : Nat → Int32) (v : Int32), (fsM0 ad r).set 25 (.int v) = fsM0 ad (upd r 25 v) := fun r v => by simp [fsM0, upd]
theorem stM0_27 (ad : Nat → Nat) : ∀ (r : Nat → Int32) (v : Int32), (fsM0 ad r).set 27 (.int v) = fsM0 ad (upd r 27 v) := fun r v => by simp [fsM0, upd]
theorem stM0_31 (ad : Nat → Nat) : ∀ (r : Nat → Int32) (v : Int32), (fsM0 ad r).set 31 (.int v) = fsM0 ad (upd r 31 v) := fun r v => by simp [fsM0, upd]
theorem lnM0 (ad : Nat → Nat) : ∀ r : Nat → Int32, (fsM0 ad r).length = 35 := fun _ => rfl
theorem gM_0 (Z : Zx) : ∀ r : Nat → Int32, gM Z 0 r = .inr (11, fsM0 Z.2.1 r) := fun _ => rfl
theorem gM_1 (Z : Zx) : ∀ r : Nat → Int32, gM Z 1 r = .inl (Z.2.2.1, 6, .inl r) := fun _ => rfl
theorem gM_2 (Z : Zx) : ∀ r : Nat → Int32, gM Z 2 r = .inl (Z.2.2.1, 6, .inl r) := fun _ => rfl
theorem gM_3 (Z : Zx) : ∀ r : Nat → Int32, gM Z 3 r = .inl (Z.2.2.1, 7, .inl r) := fun _ => rfl
theorem gM_4 (Z : Zx) : ∀ r : Nat → Int32, gM Z 4 r = .inl (Z.2.2.1, 7, .inl r) := fun _ => rfl
theorem gM_5 (Z : Zx) : ∀ r : Nat → Int32, gM Z 5 r = .inl (Z.2.2.1, 28, .inl r) := fun _ => rfl
theorem gM_6 (Z : Zx) : ∀ r : Nat → Int32, gM Z 6 r = .inl (Z.2.2.1, 240, .inl r) := fun _ => rfl
theorem gM_7 (Z : Zx) : ∀ r : Nat → Int32, gM Z 7 r = .inl (Z.2.2.1, 8, .inl r) := fun _ => rfl
theorem gM_8 (Z : Zx) : ∀ r : Nat → Int32, gM Z 8 r = .inl (Z.2.2.1, 6, .inl r) := fun _ => rfl
theorem gM_9 (Z : Zx) : ∀ r : Nat → Int32, gM Z 9 r = .inl (Z.2.2.1, 6, .inl r) := fun _ => rfl
theorem gM_10 (Z : Zx) : ∀ r : Nat → Int32, gM Z 10 r = .inl (Z.2.2.1, 7, .inl r) := fun _ => rfl
theorem gM_11 (Z : Zx) : ∀ r : Nat → Int32, gM Z 11 r = .inl (Z.2.2.1, 7, .inl r) := fun _ => rfl
theorem gM_12 (Z : Zx) : ∀ r : Nat → Int32, gM Z 12 r = .inl (Z.2.2.1, 7, .inl r) := fun _ => rfl
theorem gM_13 (Z : Zx) : ∀ r : Nat → Int32, gM Z 13 r = .inl (Z.2.2.1, 560, .inl r) := fun _ => rfl
theorem gM_14 (Z : Zx) : ∀ r : Nat → Int32, gM Z 14 r = .inl (Z.2.2.1, 8, .inl r) := fun _ => rfl
theorem gM_15 (Z : Zx) : ∀ r : Nat → Int32, gM Z 15 r = .inl (Z.2.2.1, 8, .inl r) := fun _ => rfl
theorem gM_16 (Z : Zx) : ∀ r : Nat → Int32, gM Z 16 r = .inl (Z.2.2.1, 12, .inl r) := fun _ => rfl
theorem gM_17 (Z : Zx) : ∀ r : Nat → Int32, gM Z 17 r = .inl (Z.2.2.1, 15, .inl r) := fun _ => rfl
theorem gM_18 (Z : Zx) : ∀ r : Nat → Int32, gM Z 18 r = .inl (Z.2.2.1, 58, .inl r) := fun _ => rfl
theorem gM_19 (Z : Zx) : ∀ r : Nat → Int32, gM Z 19 r = .inl (Z.2.2.2, 2, .inl r) := fun _ => rfl
abbrev XM (Z : Zx) : Wx := (Z.1, vwCl, [(Z.2.2.1, .int), (Z.2.2.2, .boolean)], 20, Z.2.1, gM Z)
theorem if_h {c : Prop} [Decidable c] {ρ : Type} {T E : Option ρ} {r : ρ} (h : (if c then T else E) = some r) : (c ∧ T = some r) ∨ (¬ c ∧ E = some r) := by
  split at h
  · exact Or.inl ⟨by assumption, h⟩
  · exact Or.inr ⟨by assumption, h⟩
theorem tb_out {x lo hi : Int32} {a b : Int} (h : x < lo ∨ hi < x) (ha : lo.toInt = a) (hb : hi.toInt = b) : x.toInt < a ∨ b < x.toInt := by
  subst ha; subst hb
  exact h.imp Int32.lt_iff_toInt_lt.mp Int32.lt_iff_toInt_lt.mp
def dz {ρ : Type} (y : Int32) (k : Option ρ) : Option ρ := if y = 0 then none else k
def dzL {ρ : Type} (y : Int64) (k : Option ρ) : Option ρ := if y = 0 then none else k
theorem dz_h {ρ : Type} {y : Int32} {k : Option ρ} {r : ρ} (h : dz y k = some r) : ¬ y = 0 ∧ k = some r := by
  unfold dz at h
  split at h
  · cases h
  · exact ⟨by assumption, h⟩
theorem dzL_h {ρ : Type} {y : Int64} {k : Option ρ} {r : ρ} (h : dzL y k = some r) : ¬ y = 0 ∧ k = some r := by
  unfold dzL at h
  split at h
  · cases h
  · exact ⟨by assumption, h⟩
abbrev jmin (x y : Int32) : Int32 := if y < x then y else x
abbrev jmax (x y : Int32) : Int32 := if x < y then y else x
def f_X12_clearNow_b48s (K48 : Int32 → (Nat → Nat → Int32) → Option (Nat → Nat → Int32)) (i1 : Int32) (f : Nat → Nat → Int32) : Option (Nat → Nat → Int32) :=
  if (7 : Int32) ≤ i1 then
  (some f)
  else
  (ck ((21 : Int32) + i1) 28 <|
  K48 (i1 + (1 : Int32)) (su f 5 ((21 : Int32) + i1).toNatClampNeg (-1 : Int32)))
def f_X12_clearNow_b48 : Nat → Int32 → (Nat → Nat → Int32) → Option (Nat → Nat → Int32)
  | 0 => fun _ _ => none
  | n + 1 => fun i1 f => f_X12_clearNow_b48s (f_X12_clearNow_b48 n) i1 f
def f_X12_clearNow_b2s (K2 : Int32 → (Nat → Nat → Int32) → Option (Nat → Nat → Int32)) (i1 : Int32) (f : Nat → Nat → Int32) : Option (Nat → Nat → Int32) :=
  if (28 : Int32) ≤ i1 then
  (ck (8 : Int32) 28 <|
  ck (17 : Int32) 28 <|
  ck (18 : Int32) 28 <|
  f_X12_clearNow_b48 fuB (0 : Int32) (su (su (su f 5 (8 : Int32).toNatClampNeg (9 : Int32)) 5 (17 : Int32).toNatClampNeg (-1 : Int32)) 5 (18 : Int32).toNatClampNeg (-1 : Int32)))
  else
  (ck i1 28 <|
  K2 (i1 + (1 : Int32)) (su f 5 i1.toNatClampNeg (0 : Int32)))
def f_X12_clearNow_b2 : Nat → Int32 → (Nat → Nat → Int32) → Option (Nat → Nat → Int32)
  | 0 => fun _ _ => none
  | n + 1 => fun i1 f => f_X12_clearNow_b2s (f_X12_clearNow_b2 n) i1 f
def f_X12_clearNow (f : Nat → Nat → Int32) : Option (Nat → Nat → Int32) :=
  f_X12_clearNow_b2 fuB (0 : Int32) f
def f_X12_in (p0 : Int64) (p2 : Int64) (p4 : Int64) (f : Nat → Nat → Int32) : Option Int32 :=
  if (lg_cmp p0 p2) < 0 then
  (some (0 : Int32))
  else
  (if 0 < (lg_cmp p0 p4) then
  (some (0 : Int32))
  else
  (some (1 : Int32)))
def f_X12_has (p0 : Int32) (p1 : Int32) (f : Nat → Nat → Int32) : Option Int32 :=
  if ((p0 >>> (p1 &&& 31)) &&& (1 : Int32)) = (1 : Int32) then
  (some (1 : Int32))
  else
  (some (0 : Int32))
def f_X12_bits_b4s (K4 : Int32 → Int32 → Int32 → Option Int32) (i0 : Int32) (i1 : Int32) (i2 : Int32) (f : Nat → Nat → Int32) : Option Int32 :=
  if (9 : Int32) ≤ i2 then
  (some i1)
  else
  (nm (i1 + ((i0 >>> (i2 &&& 31)) &&& (1 : Int32))) fun v1_17 =>
  K4 i0 v1_17 (i2 + (1 : Int32)))
def f_X12_bits_b4 : Nat → Int32 → Int32 → Int32 → (Nat → Nat → Int32) → Option Int32
  | 0 => fun _ _ _ _ => none
  | n + 1 => fun i0 i1 i2 f => f_X12_bits_b4s (fun i0 i1 i2 => f_X12_bits_b4 n i0 i1 i2 f) i0 i1 i2 f
def f_X12_bits (p0 : Int32) (f : Nat → Nat → Int32) : Option Int32 :=
  f_X12_bits_b4 fuB p0 (0 : Int32) (0 : Int32) f
def f_X12_places (f : Nat → Nat → Int32) : Option Int32 :=
  if (f 0 0) = 0 then
  (some (0 : Int32))
  else
  (some ((f 0 0) + (1 : Int32)))
def f_X12_isPlace (p1 : Int32) (f : Nat → Nat → Int32) : Option Int32 :=
  (f_X12_places f).bind fun q2 =>
  (f_X12_in p1.toInt64 (0 : Int64) ((q2 - (1 : Int32)).toInt64) f).bind fun q4 =>
  zr q4
def f_X12_isPlaces (p1 : Int32) (f : Nat → Nat → Int32) : Option Int32 :=
  (f_X12_places f).bind fun q2 =>
  (f_X12_in p1.toInt64 (0 : Int64) ((((1 : Int32) <<< (q2 &&& 31)) - (1 : Int32)).toInt64) f).bind fun q4 =>
  zr q4
def f_X12_isSound (p1 : Int32) (f : Nat → Nat → Int32) : Option Int32 :=
  (f_X12_in p1.toInt64 (0 : Int64) (((f 0 1) - (1 : Int32)).toInt64) f).bind fun q2 =>
  zr q2
def f_X12_isWitness (p1 : Int32) (f : Nat → Nat → Int32) : Option Int32 :=
  (f_X12_in p1.toInt64 (0 : Int64) (((f 0 4) - (1 : Int32)).toInt64) f).bind fun q2 =>
  zr q2
def f_X12_feed (p1 : Int32) (f : Nat → Nat → Int32) : Option (Int32 × (Nat → Nat → Int32)) :=
  (f_X12_in p1.toInt64 (0 : Int64) (255 : Int64) f).bind fun q2 =>
  if q2 = 0 then
  (some ((-1000000002 : Int32), f))
  else
  (if (f 0 10) = (240 : Int32) then
  (some ((-1000000004 : Int32), f))
  else
  (ck (f 0 10) 240 <|
  some ((su (su f 6 (f 0 10).toNatClampNeg p1) 0 10 (((su f 6 (f 0 10).toNatClampNeg p1) 0 10) + (1 : Int32))) 0 10, su (su f 6 (f 0 10).toNatClampNeg p1) 0 10 (((su f 6 (f 0 10).toNatClampNeg p1) 0 10) + (1 : Int32)))))
def f_X12_here_b38 (f : Nat → Nat → Int32) : Option (Int32 × (Nat → Nat → Int32)) :=
  if (f 0 10) ≤ (f 0 12) then
  (some ((-1 : Int32), f))
  else
  (ck (f 0 12) 240 <|
  some (f 6 (f 0 12).toNatClampNeg, f))
def f_X12_here_b0s (K0 : (Nat → Nat → Int32) → Option (Int32 × (Nat → Nat → Int32))) (f : Nat → Nat → Int32) : Option (Int32 × (Nat → Nat → Int32)) :=
  if (f 0 10) ≤ (f 0 12) then
  (f_X12_here_b38 f)
  else
  (ck (f 0 12) 240 <|
  if (f 6 (f 0 12).toNatClampNeg) = (32 : Int32) then
  (K0 (su f 0 12 ((f 0 12) + (1 : Int32))))
  else
  (f_X12_here_b38 f))
def f_X12_here_b0 : Nat → (Nat → Nat → Int32) → Option (Int32 × (Nat → Nat → Int32))
  | 0 => fun  _ => none
  | n + 1 => fun  f => f_X12_here_b0s (f_X12_here_b0 n)  f
def f_X12_here (f : Nat → Nat → Int32) : Option (Int32 × (Nat → Nat → Int32)) :=
  f_X12_here_b0 fuB f
def f_X12_fails (p1 : Int32) (p2 : Int32) (f : Nat → Nat → Int32) : Option (Int32 × (Nat → Nat → Int32)) :=
  some (p1, su f 0 11 p2)
def f_X12_takeNumber_b157 (f : Nat → Nat → Int32) : Option (Int32 × (Nat → Nat → Int32)) :=
  (f_X12_fails (2 : Int32) (f 0 14) f).bind fun q6 =>
  some (q6.1, q6.2)
def f_X12_takeNumber_b129 (i1 : Int32) (i2 : Int32) (f : Nat → Nat → Int32) : Option (Int32 × (Nat → Nat → Int32)) :=
  if (3 : Int32) < ((f 0 12) - (f 0 14)) then
  (f_X12_takeNumber_b157 f)
  else
  ((f_X12_in ((f 0 13).toInt64) i1.toInt64 i2.toInt64 f).bind fun q8 =>
  if q8 = 0 then
  (f_X12_takeNumber_b157 f)
  else
  (some ((0 : Int32), f)))
def f_X12_takeNumber_b113 (K42 : Int32 → Int32 → (Nat → Nat → Int32) → Option (Int32 × (Nat → Nat → Int32))) (i1 : Int32) (i2 : Int32) (s1 : Int32) (f : Nat → Nat → Int32) : Option (Int32 × (Nat → Nat → Int32)) :=
  K42 i1 i2 (su (su f 0 13 s1) 0 12 (((su f 0 13 s1) 0 12) + (1 : Int32)))
def f_X12_takeNumber_b42s (K42 : Int32 → Int32 → (Nat → Nat → Int32) → Option (Int32 × (Nat → Nat → Int32))) (i1 : Int32) (i2 : Int32) (f : Nat → Nat → Int32) : Option (Int32 × (Nat → Nat → Int32)) :=
  if (f 0 10) ≤ (f 0 12) then
  (f_X12_takeNumber_b129 i1 i2 f)
  else
  (ck (f 0 12) 240 <|
  (f_X12_in ((f 6 (f 0 12).toNatClampNeg).toInt64) (48 : Int64) (57 : Int64) f).bind fun q13 =>
  if q13 = 0 then
  (f_X12_takeNumber_b129 i1 i2 f)
  else
  (if (f 0 13) ≤ (10000 : Int32) then
  (ck (f 0 12) 240 <|
  f_X12_takeNumber_b113 K42 i1 i2 ((((10 : Int32) * (f 0 13)) + (f 6 (f 0 12).toNatClampNeg)) - (48 : Int32)) f)
  else
  (f_X12_takeNumber_b113 K42 i1 i2 (f 0 13) f)))
def f_X12_takeNumber_b42 : Nat → Int32 → Int32 → (Nat → Nat → Int32) → Option (Int32 × (Nat → Nat → Int32))
  | 0 => fun _ _ _ => none
  | n + 1 => fun i1 i2 f => f_X12_takeNumber_b42s (f_X12_takeNumber_b42 n) i1 i2 f
def f_X12_takeNumber (p1 : Int32) (p2 : Int32) (f : Nat → Nat → Int32) : Option (Int32 × (Nat → Nat → Int32)) :=
  (f_X12_here f).bind fun q2 =>
  (f_X12_in q2.1.toInt64 (48 : Int64) (57 : Int64) q2.2).bind fun q4 =>
  if q4 = 0 then
  ((f_X12_fails (1 : Int32) (q2.2 0 12) q2.2).bind fun q19 =>
  some (q19.1, q19.2))
  else
  (f_X12_takeNumber_b42 fuB p1 p2 (su (su q2.2 0 14 (q2.2 0 12)) 0 13 (0 : Int32)))
def f_X12_into (ka na : Nat) (p2 : Int32) (p3 : Int32) (p4 : Int32) (f : Nat → Nat → Int32) : Option (Int32 × (Nat → Nat → Int32)) :=
  (f_X12_takeNumber p3 p4 f).bind fun q2 =>
  ck p2 na <|
  some (q2.1, su q2.2 ka p2.toNatClampNeg (q2.2 0 13))
def f_X12_takeWalls_b89 (i1 : Int32) (f : Nat → Nat → Int32) : Option (Int32 × (Nat → Nat → Int32)) :=
  some (i1, f)
def f_X12_takeWalls_b18s (K18 : Int32 → (Nat → Nat → Int32) → Option (Int32 × (Nat → Nat → Int32))) (i1 : Int32) (f : Nat → Nat → Int32) : Option (Int32 × (Nat → Nat → Int32)) :=
  if i1 = 0 then
  ((f_X12_here f).bind fun q4 =>
  if q4.1 = (44 : Int32) then
  (if (q4.2 0 15) = (8 : Int32) then
  ((f_X12_fails (1 : Int32) (q4.2 0 12) q4.2).bind fun q8 =>
  some (q8.1, q8.2))
  else
  ((f_X12_into 7 8 ((su q4.2 0 12 ((q4.2 0 12) + (1 : Int32))) 0 15) (0 : Int32) (20 : Int32) (su q4.2 0 12 ((q4.2 0 12) + (1 : Int32)))).bind fun q6 =>
  K18 q6.1 (su q6.2 0 15 ((q6.2 0 15) + (1 : Int32)))))
  else
  (f_X12_takeWalls_b89 i1 q4.2))
  else
  (f_X12_takeWalls_b89 i1 f)
def f_X12_takeWalls_b18 : Nat → Int32 → (Nat → Nat → Int32) → Option (Int32 × (Nat → Nat → Int32))
  | 0 => fun _ _ => none
  | n + 1 => fun i1 f => f_X12_takeWalls_b18s (f_X12_takeWalls_b18 n) i1 f
def f_X12_takeWalls (f : Nat → Nat → Int32) : Option (Int32 × (Nat → Nat → Int32)) :=
  (f_X12_into 7 8 (0 : Int32) (0 : Int32) (20 : Int32) f).bind fun q2 =>
  f_X12_takeWalls_b18 fuB q2.1 (su q2.2 0 15 (1 : Int32))
def f_X12_takeWind (f : Nat → Nat → Int32) : Option (Int32 × (Nat → Nat → Int32)) :=
  (f_X12_takeNumber (0 : Int32) (18 : Int32) f).bind fun q2 =>
  some (q2.1, su q2.2 0 17 (q2.2 0 13))
def f_X12_takeSound (f : Nat → Nat → Int32) : Option (Int32 × (Nat → Nat → Int32)) :=
  (f_X12_into 8 6 (f 0 18) (0 : Int32) (60 : Int32) (su f 0 18 ((f 0 18) + (1 : Int32)))).bind fun q2 =>
  if q2.1 ≤ 0 then
  ((f_X12_into 9 6 (f 0 18) (0 : Int32) (9 : Int32) q2.2).bind fun q4 =>
  some (q4.1, q4.2))
  else
  (some (q2.1, q2.2))
def f_X12_takeWitness_b50 (i1 : Int32) (s0 : Int32) (f : Nat → Nat → Int32) : Option (Int32 × (Nat → Nat → Int32)) :=
  if s0 ≤ 0 then
  ((f_X12_into 12 7 i1 (0 : Int32) (2 : Int32) f).bind fun q6 =>
  some (q6.1, q6.2))
  else
  (some (s0, f))
def f_X12_takeWitness (f : Nat → Nat → Int32) : Option (Int32 × (Nat → Nat → Int32)) :=
  (f_X12_into 10 7 (f 0 21) (0 : Int32) ((su f 0 21 ((f 0 21) + (1 : Int32))) 0 15) (su f 0 21 ((f 0 21) + (1 : Int32)))).bind fun q2 =>
  if q2.1 ≤ 0 then
  ((f_X12_into 11 7 (f 0 21) (0 : Int32) (30 : Int32) q2.2).bind fun q4 =>
  f_X12_takeWitness_b50 (f 0 21) q4.1 q4.2)
  else
  (f_X12_takeWitness_b50 (f 0 21) q2.1 q2.2)
def f_X12_takeClause_b62 (f : Nat → Nat → Int32) : Option (Int32 × (Nat → Nat → Int32)) :=
  (f_X12_fails (1 : Int32) (f 0 12) f).bind fun q4 =>
  some (q4.1, q4.2)
def f_X12_takeClause_b237 (i4 : Int32) (f : Nat → Nat → Int32) : Option (Int32 × (Nat → Nat → Int32)) :=
  some (i4, su f 0 12 ((f 0 12) + (1 : Int32)))
def f_X12_takeClause_b211 (s0 : Int32) (f : Nat → Nat → Int32) : Option (Int32 × (Nat → Nat → Int32)) :=
  if s0 = 0 then
  ((f_X12_here f).bind fun q8 =>
  if q8.1 = (59 : Int32) then
  (f_X12_takeClause_b237 s0 q8.2)
  else
  ((f_X12_fails (1 : Int32) (q8.2 0 12) q8.2).bind fun q10 =>
  some (q10.1, q10.2)))
  else
  (f_X12_takeClause_b237 s0 f)
def f_X12_takeClause_b147 (i2 : Int32) (s0 : Int32) (f : Nat → Nat → Int32) : Option (Int32 × (Nat → Nat → Int32)) :=
  if s0 = 0 then
  (if i2 = 0 then
  ((f_X12_takeWalls (su f 0 12 ((f 0 12) + (1 : Int32)))).bind fun q20 =>
  f_X12_takeClause_b211 q20.1 q20.2)
  else
  (if i2 = (1 : Int32) then
  ((f_X12_takeWind (su f 0 12 ((f 0 12) + (1 : Int32)))).bind fun q17 =>
  f_X12_takeClause_b211 q17.1 q17.2)
  else
  (if i2 = (2 : Int32) then
  ((f_X12_takeSound (su f 0 12 ((f 0 12) + (1 : Int32)))).bind fun q14 =>
  f_X12_takeClause_b211 q14.1 q14.2)
  else
  ((f_X12_takeWitness (su f 0 12 ((f 0 12) + (1 : Int32)))).bind fun q6 =>
  f_X12_takeClause_b211 q6.1 q6.2))))
  else
  ((f_X12_fails (3 : Int32) (f 0 12) f).bind fun q23 =>
  some (q23.1, q23.2))
def f_X12_takeClause_b72 (i2 : Int32) (f : Nat → Nat → Int32) : Option (Int32 × (Nat → Nat → Int32)) :=
  if i2 = 0 then
  (if (f 0 15) ≤ 0 then
  (f_X12_takeClause_b147 i2 (0 : Int32) f)
  else
  (f_X12_takeClause_b147 i2 (1 : Int32) f))
  else
  (if i2 = (1 : Int32) then
  (if (f 0 17) < 0 then
  (f_X12_takeClause_b147 i2 (0 : Int32) f)
  else
  (f_X12_takeClause_b147 i2 (1 : Int32) f))
  else
  (if i2 = (2 : Int32) then
  (if (f 0 18) = (6 : Int32) then
  (f_X12_takeClause_b147 i2 (1 : Int32) f)
  else
  (f_X12_takeClause_b147 i2 (0 : Int32) f))
  else
  (if (f 0 21) = (7 : Int32) then
  (f_X12_takeClause_b147 i2 (1 : Int32) f)
  else
  (f_X12_takeClause_b147 i2 (0 : Int32) f))))
def f_X12_takeClause_b46 (s0 : Int32) (f : Nat → Nat → Int32) : Option (Int32 × (Nat → Nat → Int32)) :=
  if s0 < 0 then
  (f_X12_takeClause_b62 f)
  else
  (if s0 ≤ 0 then
  (f_X12_takeClause_b72 s0 f)
  else
  (if (f 0 15) = 0 then
  (f_X12_takeClause_b62 f)
  else
  (f_X12_takeClause_b72 s0 f)))
def f_X12_takeClause (f : Nat → Nat → Int32) : Option (Int32 × (Nat → Nat → Int32)) :=
  (f_X12_here f).bind fun q2 =>
  if q2.1 = (104 : Int32) then
  (f_X12_takeClause_b46 (0 : Int32) q2.2)
  else
  (if q2.1 = (118 : Int32) then
  (f_X12_takeClause_b46 (1 : Int32) q2.2)
  else
  (if q2.1 = (115 : Int32) then
  (f_X12_takeClause_b46 (2 : Int32) q2.2)
  else
  (if q2.1 = (119 : Int32) then
  (f_X12_takeClause_b46 (3 : Int32) q2.2)
  else
  (f_X12_takeClause_b46 (-1 : Int32) q2.2))))
def f_X12_takeRead_b121s (K121 : Int32 → (Nat → Nat → Int32) → Option (Nat → Nat → Int32)) (i1 : Int32) (f : Nat → Nat → Int32) : Option (Nat → Nat → Int32) :=
  if (f 0 4) ≤ i1 then
  (some f)
  else
  (ck i1 7 <|
  ck ((9 : Int32) + i1) 28 <|
  ck i1 7 <|
  ck i1 7 <|
  ck i1 7 <|
  ck i1 7 <|
  K121 (i1 + (1 : Int32)) (su (su (su f 5 ((9 : Int32) + i1).toNatClampNeg (f 10 i1.toNatClampNeg)) 3 i1.toNatClampNeg ((su f 5 ((9 : Int32) + i1).toNatClampNeg (f 10 i1.toNatClampNeg)) 11 i1.toNatClampNeg)) 4 i1.toNatClampNeg ((su (su f 5 ((9 : Int32) + i1).toNatClampNeg (f 10 i1.toNatClampNeg)) 3 i1.toNatClampNeg ((su f 5 ((9 : Int32) + i1).toNatClampNeg (f 10 i1.toNatClampNeg)) 11 i1.toNatClampNeg)) 12 i1.toNatClampNeg)))
def f_X12_takeRead_b121 : Nat → Int32 → (Nat → Nat → Int32) → Option (Nat → Nat → Int32)
  | 0 => fun _ _ => none
  | n + 1 => fun i1 f => f_X12_takeRead_b121s (f_X12_takeRead_b121 n) i1 f
def f_X12_takeRead_b81s (K81 : Int32 → (Nat → Nat → Int32) → Option (Nat → Nat → Int32)) (i1 : Int32) (f : Nat → Nat → Int32) : Option (Nat → Nat → Int32) :=
  if (f 0 1) ≤ i1 then
  (f_X12_takeRead_b121 fuB (0 : Int32) f)
  else
  (ck i1 6 <|
  ck i1 6 <|
  ck i1 6 <|
  ck i1 6 <|
  K81 (i1 + (1 : Int32)) (su (su f 1 i1.toNatClampNeg (f 8 i1.toNatClampNeg)) 2 i1.toNatClampNeg ((su f 1 i1.toNatClampNeg (f 8 i1.toNatClampNeg)) 9 i1.toNatClampNeg)))
def f_X12_takeRead_b81 : Nat → Int32 → (Nat → Nat → Int32) → Option (Nat → Nat → Int32)
  | 0 => fun _ _ => none
  | n + 1 => fun i1 f => f_X12_takeRead_b81s (f_X12_takeRead_b81 n) i1 f
def f_X12_takeRead_b78 (s1 : Int32) (s2 : Int32) (f : Nat → Nat → Int32) : Option (Nat → Nat → Int32) :=
  ck s1 28 <|
  f_X12_takeRead_b81 fuB (0 : Int32) (su f 5 s1.toNatClampNeg s2)
def f_X12_takeRead_b30s (K30 : Int32 → (Nat → Nat → Int32) → Option (Nat → Nat → Int32)) (i1 : Int32) (f : Nat → Nat → Int32) : Option (Nat → Nat → Int32) :=
  if (f 0 0) ≤ i1 then
  (if 0 ≤ (f 0 17) then
  (f_X12_takeRead_b78 (8 : Int32) (f 0 17) f)
  else
  (f_X12_takeRead_b78 (8 : Int32) (9 : Int32) f))
  else
  (ck i1 8 <|
  ck i1 28 <|
  K30 (i1 + (1 : Int32)) (su f 5 i1.toNatClampNeg (f 7 i1.toNatClampNeg)))
def f_X12_takeRead_b30 : Nat → Int32 → (Nat → Nat → Int32) → Option (Nat → Nat → Int32)
  | 0 => fun _ _ => none
  | n + 1 => fun i1 f => f_X12_takeRead_b30s (f_X12_takeRead_b30 n) i1 f
def f_X12_takeRead (f : Nat → Nat → Int32) : Option (Nat → Nat → Int32) :=
  (f_X12_clearNow (su (su (su f 0 0 (f 0 15)) 0 1 ((su f 0 0 (f 0 15)) 0 18)) 0 4 ((su (su f 0 0 (f 0 15)) 0 1 ((su f 0 0 (f 0 15)) 0 18)) 0 21))).bind fun q2 =>
  f_X12_takeRead_b30 fuB (0 : Int32) q2
def f_X12_house_b51 (i1 : Int32) (f : Nat → Nat → Int32) : Option (Int32 × (Nat → Nat → Int32)) :=
  if i1 ≤ 0 then
  ((f_X12_takeRead (su f 0 10 (0 : Int32))).bind fun q2 =>
  ck (0 : Int32) 2 <|
  ck (1 : Int32) 2 <|
  (f_X12_places (su (su (su (su (su q2 0 27 (0 : Int32)) 0 31 (0 : Int32)) 0 25 (0 : Int32)) 19 (0 : Int32).toNatClampNeg (0 : Int32)) 19 (1 : Int32).toNatClampNeg (0 : Int32))).bind fun q6 =>
  some (q6, su (su (su (su (su q2 0 27 (0 : Int32)) 0 31 (0 : Int32)) 0 25 (0 : Int32)) 19 (0 : Int32).toNatClampNeg (0 : Int32)) 19 (1 : Int32).toNatClampNeg (0 : Int32)))
  else
  (some ((-10 : Int32) - i1, su f 0 10 (0 : Int32)))
def f_X12_house_b32s (K32 : Int32 → (Nat → Nat → Int32) → Option (Int32 × (Nat → Nat → Int32))) (i1 : Int32) (f : Nat → Nat → Int32) : Option (Int32 × (Nat → Nat → Int32)) :=
  if i1 = 0 then
  ((f_X12_here f).bind fun q9 =>
  if q9.1 < 0 then
  (f_X12_house_b51 i1 q9.2)
  else
  ((f_X12_takeClause q9.2).bind fun q11 =>
  K32 q11.1 q11.2))
  else
  (f_X12_house_b51 i1 f)
def f_X12_house_b32 : Nat → Int32 → (Nat → Nat → Int32) → Option (Int32 × (Nat → Nat → Int32))
  | 0 => fun _ _ => none
  | n + 1 => fun i1 f => f_X12_house_b32s (f_X12_house_b32 n) i1 f
def f_X12_house (f : Nat → Nat → Int32) : Option (Int32 × (Nat → Nat → Int32)) :=
  f_X12_house_b32 fuB (0 : Int32) (su (su (su (su (su (su f 0 11 (-1 : Int32)) 0 12 (0 : Int32)) 0 15 (0 : Int32)) 0 17 (-1 : Int32)) 0 18 (0 : Int32)) 0 21 (0 : Int32))
def f_X12_fault (f : Nat → Nat → Int32) : Option Int32 :=
  some (f 0 11)
def f_X12_told (p1 : Int32) (f : Nat → Nat → Int32) : Option Int32 :=
  if p1 < 0 ∨ 12 < p1 then
  (some (-1000000002 : Int32))
  else if p1 = 0 then
  ((f_X12_places f).bind fun q3 =>
  some q3)
  else if p1 = 1 then
  (some (f 0 1))
  else if p1 = 2 then
  (some (f 0 4))
  else if p1 = 3 then
  (some (f 0 10))
  else if p1 = 4 then
  (ck (8 : Int32) 28 <|
  some (f 5 (8 : Int32).toNatClampNeg))
  else if p1 = 5 then
  (ck (16 : Int32) 28 <|
  some (f 5 (16 : Int32).toNatClampNeg))
  else if p1 = 6 then
  (ck (17 : Int32) 28 <|
  some (f 5 (17 : Int32).toNatClampNeg))
  else if p1 = 7 then
  (ck (18 : Int32) 28 <|
  some (f 5 (18 : Int32).toNatClampNeg))
  else if p1 = 8 then
  (ck (19 : Int32) 28 <|
  some (f 5 (19 : Int32).toNatClampNeg))
  else if p1 = 9 then
  (ck (20 : Int32) 28 <|
  some (f 5 (20 : Int32).toNatClampNeg))
  else if p1 = 10 then
  (some (f 0 27))
  else if p1 = 11 then
  (some (f 0 31))
  else if p1 = 12 then
  (some (f 0 25))
  else none
def f_X12_thick (p1 : Int32) (f : Nat → Nat → Int32) : Option Int32 :=
  (f_X12_in p1.toInt64 (0 : Int64) (((f 0 0) - (1 : Int32)).toInt64) f).bind fun q2 =>
  if q2 = 0 then
  (some (-1000000001 : Int32))
  else
  (ck p1 28 <|
  some (f 5 p1.toNatClampNeg))
def f_X12_sound (p1 : Int32) (p2 : Int32) (f : Nat → Nat → Int32) : Option Int32 :=
  (f_X12_isSound p1 f).bind fun q2 =>
  if q2 = 0 then
  (some (-1000000001 : Int32))
  else
  (if p2 = 0 then
  (ck p1 6 <|
  some (f 1 p1.toNatClampNeg))
  else
  (if p2 = (1 : Int32) then
  (ck p1 6 <|
  some (f 2 p1.toNatClampNeg))
  else
  (some (-1000000002 : Int32))))
def f_X12_witness (p1 : Int32) (p2 : Int32) (f : Nat → Nat → Int32) : Option Int32 :=
  (f_X12_isWitness p1 f).bind fun q2 =>
  if q2 = 0 then
  (some (-1000000001 : Int32))
  else
  (if p2 < 0 ∨ 3 < p2 then
  (some (-1000000002 : Int32))
  else if p2 = 0 then
  (ck ((9 : Int32) + p1) 28 <|
  some (f 5 ((9 : Int32) + p1).toNatClampNeg))
  else if p2 = 1 then
  (ck p1 7 <|
  some (f 3 p1.toNatClampNeg))
  else if p2 = 2 then
  (ck p1 7 <|
  some (f 4 p1.toNatClampNeg))
  else if p2 = 3 then
  (ck ((21 : Int32) + p1) 28 <|
  some (f 5 ((21 : Int32) + p1).toNatClampNeg))
  else none)
def f_X12_loudAt_b57s (K57 : Int32 → Int32 → Int32 → Option Int32) (i5 : Int32) (i6 : Int32) (i7 : Int32) (f : Nat → Nat → Int32) : Option Int32 :=
  if i5 ≤ i7 then
  (some i6)
  else
  (ck i7 28 <|
  K57 i5 (i6 - (f 5 i7.toNatClampNeg)) (i7 + (1 : Int32)))
def f_X12_loudAt_b57 : Nat → Int32 → Int32 → Int32 → (Nat → Nat → Int32) → Option Int32
  | 0 => fun _ _ _ _ => none
  | n + 1 => fun i5 i6 i7 f => f_X12_loudAt_b57s (fun i5 i6 i7 => f_X12_loudAt_b57 n i5 i6 i7 f) i5 i6 i7 f
def f_X12_loudAt_b22 (i1 : Int32) (i2 : Int32) (i3 : Int32) (i4 : Int32) (s0 : Int32) (f : Nat → Nat → Int32) : Option Int32 :=
  ck i1 6 <|
  ck (8 : Int32) 28 <|
  nm (((f 1 i1.toNatClampNeg) - (s0 - i4)) + (((f 5 (8 : Int32).toNatClampNeg) - (9 : Int32)) * (i3 - i2))) fun v6_51 =>
  f_X12_loudAt_b57 fuB s0 v6_51 i4 f
def f_X12_loudAt_b10 (i1 : Int32) (i2 : Int32) (i3 : Int32) (s0 : Int32) (f : Nat → Nat → Int32) : Option Int32 :=
  if i3 ≤ i2 then
  (f_X12_loudAt_b22 i1 i2 i3 s0 i2 f)
  else
  (f_X12_loudAt_b22 i1 i2 i3 s0 i3 f)
def f_X12_loudAt (p1 : Int32) (p2 : Int32) (p3 : Int32) (f : Nat → Nat → Int32) : Option Int32 :=
  if p3 ≤ p2 then
  (f_X12_loudAt_b10 p1 p2 p3 p3 f)
  else
  (f_X12_loudAt_b10 p1 p2 p3 p2 f)
def f_X12_hears (p1 : Int32) (p2 : Int32) (p3 : Int32) (f : Nat → Nat → Int32) : Option Int32 :=
  ck ((9 : Int32) + p1) 28 <|
  (f_X12_loudAt p2 p3 (f 5 ((9 : Int32) + p1).toNatClampNeg) f).bind fun q3 =>
  ck p1 7 <|
  if q3 < (f 3 p1.toNatClampNeg) then
  (some (0 : Int32))
  else
  (some (1 : Int32))
def f_X12_hearsTone (p1 : Int32) (p2 : Int32) (p3 : Int32) (f : Nat → Nat → Int32) : Option Int32 :=
  ck ((9 : Int32) + p1) 28 <|
  (f_X12_loudAt p2 p3 (f 5 ((9 : Int32) + p1).toNatClampNeg) f).bind fun q3 =>
  ck p1 7 <|
  if q3 < ((f 3 p1.toNatClampNeg) + (5 : Int32)) then
  (some (0 : Int32))
  else
  (some (1 : Int32))
def f_X12_widowers (f : Nat → Nat → Int32) : Option Int32 :=
  if (f 0 1) = 0 then
  (some (0 : Int32))
  else
  (ck (0 : Int32) 6 <|
  some ((2 : Int32) + (f 2 (0 : Int32).toNatClampNeg)))
def f_X12_sayingOf (p1 : Int32) (p2 : Int32) (p3 : Int32) (f : Nat → Nat → Int32) : Option Int32 :=
  ck p1 7 <|
  if (f 4 p1.toNatClampNeg) = 0 then
  ((f_X12_hearsTone p1 p2 p3 f).bind fun q3 =>
  if q3 = 0 then
  ((f_X12_hears p1 p2 p3 f).bind fun q5 =>
  if q5 = 0 then
  (some (0 : Int32))
  else
  (some (1 : Int32)))
  else
  (ck p2 6 <|
  some ((2 : Int32) + (f 2 p2.toNatClampNeg))))
  else
  (ck p1 7 <|
  if (f 4 p1.toNatClampNeg) = (1 : Int32) then
  ((f_X12_widowers f).bind fun q11 =>
  some q11)
  else
  (some (0 : Int32)))
def f_X12_remember_b52s (K52 : Int32 → (Nat → Nat → Int32) → Option (Nat → Nat → Int32)) (i1 : Int32) (f : Nat → Nat → Int32) : Option (Nat → Nat → Int32) :=
  if (28 : Int32) ≤ i1 then
  (some (su f 0 25 ((f 0 25) + (1 : Int32))))
  else
  (ck i1 28 <|
  ck (((28 : Int32) * (f 0 25)) + i1) 560 <|
  K52 (i1 + (1 : Int32)) (su f 13 (((28 : Int32) * (f 0 25)) + i1).toNatClampNeg (f 5 i1.toNatClampNeg)))
def f_X12_remember_b52 : Nat → Int32 → (Nat → Nat → Int32) → Option (Nat → Nat → Int32)
  | 0 => fun _ _ => none
  | n + 1 => fun i1 f => f_X12_remember_b52s (f_X12_remember_b52 n) i1 f
def f_X12_remember_b50 (f : Nat → Nat → Int32) : Option (Nat → Nat → Int32) :=
  f_X12_remember_b52 fuB (0 : Int32) f
def f_X12_remember_b12s (K12 : Int32 → (Nat → Nat → Int32) → Option (Nat → Nat → Int32)) (i1 : Int32) (f : Nat → Nat → Int32) : Option (Nat → Nat → Int32) :=
  if (560 : Int32) ≤ i1 then
  (f_X12_remember_b50 (su f 0 25 ((f 0 25) - (1 : Int32))))
  else
  (ck i1 560 <|
  ck (i1 - (28 : Int32)) 560 <|
  K12 (i1 + (1 : Int32)) (su f 13 (i1 - (28 : Int32)).toNatClampNeg (f 13 i1.toNatClampNeg)))
def f_X12_remember_b12 : Nat → Int32 → (Nat → Nat → Int32) → Option (Nat → Nat → Int32)
  | 0 => fun _ _ => none
  | n + 1 => fun i1 f => f_X12_remember_b12s (f_X12_remember_b12 n) i1 f
def f_X12_remember (f : Nat → Nat → Int32) : Option (Nat → Nat → Int32) :=
  if (f 0 25) = (20 : Int32) then
  (f_X12_remember_b12 fuB (28 : Int32) f)
  else
  (f_X12_remember_b50 f)
def f_X12_morningOf_b105 (K45 : Int32 → Int32 → Int32 → (Nat → Nat → Int32) → Option (Nat → Nat → Int32)) (i1 : Int32) (i2 : Int32) (i3 : Int32) (s1 : Int32) (s2 : Int32) (s3 : Int32) (f : Nat → Nat → Int32) : Option (Nat → Nat → Int32) :=
  ck s1 28 <|
  (f_X12_sayingOf i3 i1 i2 (su f 5 s1.toNatClampNeg (s2 ||| s3))).bind fun q16 =>
  ck ((21 : Int32) + i3) 28 <|
  K45 i1 i2 (i3 + (1 : Int32)) (su (su f 5 s1.toNatClampNeg (s2 ||| s3)) 5 ((21 : Int32) + i3).toNatClampNeg q16)
def f_X12_morningOf_b78 (K45 : Int32 → Int32 → Int32 → (Nat → Nat → Int32) → Option (Nat → Nat → Int32)) (i1 : Int32) (i2 : Int32) (i3 : Int32) (s1 : Int32) (s2 : Int32) (s3 : Int32) (f : Nat → Nat → Int32) : Option (Nat → Nat → Int32) :=
  ck s1 28 <|
  ck (20 : Int32) 28 <|
  (f_X12_hearsTone i3 i1 i2 (su f 5 s1.toNatClampNeg (s2 ||| s3))).bind fun q13 =>
  if q13 = 0 then
  (f_X12_morningOf_b105 K45 i1 i2 i3 (20 : Int32) ((su f 5 s1.toNatClampNeg (s2 ||| s3)) 5 (20 : Int32).toNatClampNeg) (0 : Int32) (su f 5 s1.toNatClampNeg (s2 ||| s3)))
  else
  (f_X12_morningOf_b105 K45 i1 i2 i3 (20 : Int32) ((su f 5 s1.toNatClampNeg (s2 ||| s3)) 5 (20 : Int32).toNatClampNeg) ((1 : Int32) <<< (i3 &&& 31)) (su f 5 s1.toNatClampNeg (s2 ||| s3)))
def f_X12_morningOf_b45s (K45 : Int32 → Int32 → Int32 → (Nat → Nat → Int32) → Option (Nat → Nat → Int32)) (i1 : Int32) (i2 : Int32) (i3 : Int32) (f : Nat → Nat → Int32) : Option (Nat → Nat → Int32) :=
  if (f 0 4) ≤ i3 then
  (some f)
  else
  (ck (19 : Int32) 28 <|
  (f_X12_hears i3 i1 i2 f).bind fun q9 =>
  if q9 = 0 then
  (f_X12_morningOf_b78 K45 i1 i2 i3 (19 : Int32) (f 5 (19 : Int32).toNatClampNeg) (0 : Int32) f)
  else
  (f_X12_morningOf_b78 K45 i1 i2 i3 (19 : Int32) (f 5 (19 : Int32).toNatClampNeg) ((1 : Int32) <<< (i3 &&& 31)) f))
def f_X12_morningOf_b45 : Nat → Int32 → Int32 → Int32 → (Nat → Nat → Int32) → Option (Nat → Nat → Int32)
  | 0 => fun _ _ _ _ => none
  | n + 1 => fun i1 i2 i3 f => f_X12_morningOf_b45s (f_X12_morningOf_b45 n) i1 i2 i3 f
def f_X12_morningOf (p1 : Int32) (p2 : Int32) (f : Nat → Nat → Int32) : Option (Nat → Nat → Int32) :=
  ck (16 : Int32) 28 <|
  ck (16 : Int32) 28 <|
  ck (17 : Int32) 28 <|
  ck (18 : Int32) 28 <|
  ck (19 : Int32) 28 <|
  ck (20 : Int32) 28 <|
  f_X12_morningOf_b45 fuB p1 p2 (0 : Int32) (su (su (su (su (su f 5 (16 : Int32).toNatClampNeg ((f 5 (16 : Int32).toNatClampNeg) + (1 : Int32))) 5 (17 : Int32).toNatClampNeg p1) 5 (18 : Int32).toNatClampNeg p2) 5 (19 : Int32).toNatClampNeg (0 : Int32)) 5 (20 : Int32).toNatClampNeg (0 : Int32))
def f_X12_morning_b16 (f : Nat → Nat → Int32) : Option (Int32 × (Nat → Nat → Int32)) :=
  some ((-1000000001 : Int32), f)
def f_X12_morning (p1 : Int32) (p2 : Int32) (f : Nat → Nat → Int32) : Option (Int32 × (Nat → Nat → Int32)) :=
  (f_X12_isSound p1 f).bind fun q2 =>
  if q2 = 0 then
  (f_X12_morning_b16 f)
  else
  ((f_X12_isPlace p2 f).bind fun q4 =>
  if q4 = 0 then
  (f_X12_morning_b16 f)
  else
  (ck (16 : Int32) 28 <|
  if (f 5 (16 : Int32).toNatClampNeg) ≤ (9000 : Int32) then
  ((f_X12_remember f).bind fun q7 =>
  (f_X12_morningOf p1 p2 q7).bind fun q9 =>
  ck (19 : Int32) 28 <|
  some (q9 5 (19 : Int32).toNatClampNeg, q9))
  else
  (some ((-1000000004 : Int32), f))))
def f_X12_move_b16 (f : Nat → Nat → Int32) : Option (Int32 × (Nat → Nat → Int32)) :=
  some ((-1000000001 : Int32), f)
def f_X12_move (p1 : Int32) (p2 : Int32) (f : Nat → Nat → Int32) : Option (Int32 × (Nat → Nat → Int32)) :=
  (f_X12_isWitness p1 f).bind fun q2 =>
  if q2 = 0 then
  (f_X12_move_b16 f)
  else
  ((f_X12_isPlace p2 f).bind fun q4 =>
  if q4 = 0 then
  (f_X12_move_b16 f)
  else
  ((f_X12_remember f).bind fun q6 =>
  ck ((9 : Int32) + p1) 28 <|
  nm (q6 5 ((9 : Int32) + p1).toNatClampNeg) fun v3_32 =>
  ck ((9 : Int32) + p1) 28 <|
  some (v3_32, su q6 5 ((9 : Int32) + p1).toNatClampNeg p2)))
def f_X12_wall (p1 : Int32) (p2 : Int32) (f : Nat → Nat → Int32) : Option (Int32 × (Nat → Nat → Int32)) :=
  (f_X12_in p1.toInt64 (0 : Int64) (((f 0 0) - (1 : Int32)).toInt64) f).bind fun q2 =>
  if q2 = 0 then
  (some ((-1000000001 : Int32), f))
  else
  ((f_X12_in p2.toInt64 (0 : Int64) (20 : Int64) f).bind fun q4 =>
  if q4 = 0 then
  (some ((-1000000002 : Int32), f))
  else
  ((f_X12_remember f).bind fun q6 =>
  ck p1 28 <|
  ck p1 28 <|
  some (q6 5 p1.toNatClampNeg, su q6 5 p1.toNatClampNeg p2)))
def f_X12_wind (p1 : Int32) (f : Nat → Nat → Int32) : Option (Int32 × (Nat → Nat → Int32)) :=
  (f_X12_in p1.toInt64 (0 : Int64) (18 : Int64) f).bind fun q2 =>
  if q2 = 0 then
  (some ((-1000000002 : Int32), f))
  else
  (if (f 0 0) = 0 then
  (some ((-1000000003 : Int32), f))
  else
  ((f_X12_remember f).bind fun q4 =>
  ck (8 : Int32) 28 <|
  nm (q4 5 (8 : Int32).toNatClampNeg) fun v2_36 =>
  ck (8 : Int32) 28 <|
  some (v2_36, su q4 5 (8 : Int32).toNatClampNeg p1)))
def f_X12_draw (p1 : Int32) (f : Nat → Nat → Int32) : Option (Int32 × (Nat → Nat → Int32)) :=
  dz p1 <|
  some ((((su f 0 8 ((((((f 0 8).toInt64) * (1103515245 : Int64)) + (12345 : Int64)) - ((((f 0 8).toInt64) * (1103515245 : Int64)) + (12345 : Int64)) / (2147483648 : Int64) * (2147483648 : Int64)).toInt32)) 0 8) / (65536 : Int32)) - (((su f 0 8 ((((((f 0 8).toInt64) * (1103515245 : Int64)) + (12345 : Int64)) - ((((f 0 8).toInt64) * (1103515245 : Int64)) + (12345 : Int64)) / (2147483648 : Int64) * (2147483648 : Int64)).toInt32)) 0 8) / (65536 : Int32)) / p1 * p1, su f 0 8 ((((((f 0 8).toInt64) * (1103515245 : Int64)) + (12345 : Int64)) - ((((f 0 8).toInt64) * (1103515245 : Int64)) + (12345 : Int64)) / (2147483648 : Int64) * (2147483648 : Int64)).toInt32))
def f_X12_drift_b104 (f : Nat → Nat → Int32) : Option (Int32 × (Nat → Nat → Int32)) :=
  ck (19 : Int32) 28 <|
  some (f 5 (19 : Int32).toNatClampNeg, f)
def f_X12_drift_b47s (K47 : Int32 → Int32 → (Nat → Nat → Int32) → Option (Int32 × (Nat → Nat → Int32))) (i1 : Int32) (i2 : Int32) (f : Nat → Nat → Int32) : Option (Int32 × (Nat → Nat → Int32)) :=
  if i1 ≤ i2 then
  (f_X12_drift_b104 f)
  else
  (if (f 0 1) ≤ 0 then
  (f_X12_drift_b104 f)
  else
  ((f_X12_draw (f 0 1) f).bind fun q8 =>
  (f_X12_places q8.2).bind fun q10 =>
  (f_X12_draw q10 q8.2).bind fun q12 =>
  (f_X12_morningOf q8.1 q12.1 q12.2).bind fun q14 =>
  (f_X12_draw (5 : Int32) q14).bind fun q16 =>
  ck (8 : Int32) 28 <|
  K47 i1 (i2 + (1 : Int32)) (su q16.2 5 (8 : Int32).toNatClampNeg ((q16.1 - (2 : Int32)) + (9 : Int32)))))
def f_X12_drift_b47 : Nat → Int32 → Int32 → (Nat → Nat → Int32) → Option (Int32 × (Nat → Nat → Int32))
  | 0 => fun _ _ _ => none
  | n + 1 => fun i1 i2 f => f_X12_drift_b47s (f_X12_drift_b47 n) i1 i2 f
def f_X12_drift (p1 : Int32) (f : Nat → Nat → Int32) : Option (Int32 × (Nat → Nat → Int32)) :=
  (f_X12_in p1.toInt64 (1 : Int64) (60 : Int64) f).bind fun q2 =>
  if q2 = 0 then
  (some ((-1000000002 : Int32), f))
  else
  (if (f 0 0) = 0 then
  (some ((-1000000003 : Int32), f))
  else
  (ck (16 : Int32) 28 <|
  if (f 5 (16 : Int32).toNatClampNeg) ≤ (9000 : Int32) then
  ((f_X12_remember f).bind fun q5 =>
  f_X12_drift_b47 fuB p1 (0 : Int32) q5)
  else
  (some ((-1000000004 : Int32), f))))
def f_X12_undo_b22s (K22 : Int32 → (Nat → Nat → Int32) → Option (Int32 × (Nat → Nat → Int32))) (i1 : Int32) (f : Nat → Nat → Int32) : Option (Int32 × (Nat → Nat → Int32)) :=
  if (28 : Int32) ≤ i1 then
  (some (f 0 25, f))
  else
  (ck (((28 : Int32) * (f 0 25)) + i1) 560 <|
  ck i1 28 <|
  K22 (i1 + (1 : Int32)) (su f 5 i1.toNatClampNeg (f 13 (((28 : Int32) * (f 0 25)) + i1).toNatClampNeg)))
def f_X12_undo_b22 : Nat → Int32 → (Nat → Nat → Int32) → Option (Int32 × (Nat → Nat → Int32))
  | 0 => fun _ _ => none
  | n + 1 => fun i1 f => f_X12_undo_b22s (f_X12_undo_b22 n) i1 f
def f_X12_undo (f : Nat → Nat → Int32) : Option (Int32 × (Nat → Nat → Int32)) :=
  if (f 0 25) = 0 then
  (some ((-1000000003 : Int32), f))
  else
  (f_X12_undo_b22 fuB (0 : Int32) (su f 0 25 ((f 0 25) - (1 : Int32))))
def f_X12_comes_b38 (f : Nat → Nat → Int32) : Option Int32 :=
  some (-1000000001 : Int32)
def f_X12_comes (p1 : Int32) (p2 : Int32) (p3 : Int32) (f : Nat → Nat → Int32) : Option Int32 :=
  (f_X12_isSound p1 f).bind fun q2 =>
  if q2 = 0 then
  (f_X12_comes_b38  f)
  else
  ((f_X12_isPlace p2 f).bind fun q4 =>
  if q4 = 0 then
  (f_X12_comes_b38  f)
  else
  ((f_X12_isPlace p3 f).bind fun q6 =>
  if q6 = 0 then
  (f_X12_comes_b38  f)
  else
  ((f_X12_loudAt p1 p2 p3 f).bind fun q8 =>
  some (q8 + (1000 : Int32)))))
def f_X12_says_b34 (f : Nat → Nat → Int32) : Option Int32 :=
  some (-1000000001 : Int32)
def f_X12_says (p1 : Int32) (p2 : Int32) (p3 : Int32) (f : Nat → Nat → Int32) : Option Int32 :=
  (f_X12_isWitness p1 f).bind fun q2 =>
  if q2 = 0 then
  (f_X12_says_b34  f)
  else
  ((f_X12_isSound p2 f).bind fun q4 =>
  if q4 = 0 then
  (f_X12_says_b34  f)
  else
  ((f_X12_isPlace p3 f).bind fun q6 =>
  if q6 = 0 then
  (f_X12_says_b34  f)
  else
  ((f_X12_sayingOf p1 p2 p3 f).bind fun q8 =>
  some q8)))
def f_X12_listenTo_b37 (K6 : Int32 → Int32 → Int32 → Int32 → Int32 → Option Int32) (i1 : Int32) (i2 : Int32) (i3 : Int32) (i5 : Int32) (s0 : Int32) (s1 : Int32) (f : Nat → Nat → Int32) : Option Int32 :=
  K6 i1 i2 i3 (s0 ||| s1) (i5 + (1 : Int32))
def f_X12_listenTo_b6s (K6 : Int32 → Int32 → Int32 → Int32 → Int32 → Option Int32) (i1 : Int32) (i2 : Int32) (i3 : Int32) (i4 : Int32) (i5 : Int32) (f : Nat → Nat → Int32) : Option Int32 :=
  (f_X12_places f).bind fun q2 =>
  if q2 ≤ i5 then
  (some i4)
  else
  ((f_X12_loudAt i1 i2 i5 f).bind fun q4 =>
  if q4 < i3 then
  (f_X12_listenTo_b37 K6 i1 i2 i3 i5 i4 (0 : Int32) f)
  else
  (f_X12_listenTo_b37 K6 i1 i2 i3 i5 i4 ((1 : Int32) <<< (i5 &&& 31)) f))
def f_X12_listenTo_b6 : Nat → Int32 → Int32 → Int32 → Int32 → Int32 → (Nat → Nat → Int32) → Option Int32
  | 0 => fun _ _ _ _ _ _ => none
  | n + 1 => fun i1 i2 i3 i4 i5 f => f_X12_listenTo_b6s (fun i1 i2 i3 i4 i5 => f_X12_listenTo_b6 n i1 i2 i3 i4 i5 f) i1 i2 i3 i4 i5 f
def f_X12_listenTo (p1 : Int32) (p2 : Int32) (p3 : Int32) (f : Nat → Nat → Int32) : Option Int32 :=
  f_X12_listenTo_b6 fuB p1 p2 p3 (0 : Int32) (0 : Int32) f
def f_X12_listen_b16 (f : Nat → Nat → Int32) : Option Int32 :=
  some (-1000000001 : Int32)
def f_X12_listen (p1 : Int32) (p2 : Int32) (p3 : Int32) (f : Nat → Nat → Int32) : Option Int32 :=
  (f_X12_isSound p1 f).bind fun q2 =>
  if q2 = 0 then
  (f_X12_listen_b16  f)
  else
  ((f_X12_isPlace p2 f).bind fun q4 =>
  if q4 = 0 then
  (f_X12_listen_b16  f)
  else
  ((f_X12_in p3.toInt64 (0 : Int64) (30 : Int64) f).bind fun q6 =>
  if q6 = 0 then
  (some (-1000000002 : Int32))
  else
  ((f_X12_listenTo p1 p2 p3 f).bind fun q8 =>
  some q8)))
def f_X12_isHeard_b34 (K5 : Int32 → Int32 → Int32 → Int32 → Option Int32) (i1 : Int32) (i2 : Int32) (i4 : Int32) (s0 : Int32) (f : Nat → Nat → Int32) : Option Int32 :=
  K5 i1 i2 s0 (i4 + (1 : Int32))
def f_X12_isHeard_b29 (K5 : Int32 → Int32 → Int32 → Int32 → Option Int32) (i1 : Int32) (i2 : Int32) (i4 : Int32) (f : Nat → Nat → Int32) : Option Int32 :=
  f_X12_isHeard_b34 K5 i1 i2 i4 (1 : Int32) f
def f_X12_isHeard_b5s (K5 : Int32 → Int32 → Int32 → Int32 → Option Int32) (i1 : Int32) (i2 : Int32) (i3 : Int32) (i4 : Int32) (f : Nat → Nat → Int32) : Option Int32 :=
  if (f 0 4) ≤ i4 then
  (zr i3)
  else
  (if i3 = 0 then
  ((f_X12_hears i4 i1 i2 f).bind fun q2 =>
  if q2 = 0 then
  (f_X12_isHeard_b34 K5 i1 i2 i4 (0 : Int32) f)
  else
  (f_X12_isHeard_b29 K5 i1 i2 i4 f))
  else
  (f_X12_isHeard_b29 K5 i1 i2 i4 f))
def f_X12_isHeard_b5 : Nat → Int32 → Int32 → Int32 → Int32 → (Nat → Nat → Int32) → Option Int32
  | 0 => fun _ _ _ _ _ => none
  | n + 1 => fun i1 i2 i3 i4 f => f_X12_isHeard_b5s (fun i1 i2 i3 i4 => f_X12_isHeard_b5 n i1 i2 i3 i4 f) i1 i2 i3 i4 f
def f_X12_isHeard (p1 : Int32) (p2 : Int32) (f : Nat → Nat → Int32) : Option Int32 :=
  f_X12_isHeard_b5 fuB p1 p2 (0 : Int32) (0 : Int32) f
def f_X12_deaf_b40 (K15 : Int32 → Int32 → Int32 → Option Int32) (i1 : Int32) (i3 : Int32) (s0 : Int32) (s1 : Int32) (f : Nat → Nat → Int32) : Option Int32 :=
  K15 i1 (s0 ||| s1) (i3 + (1 : Int32))
def f_X12_deaf_b15s (K15 : Int32 → Int32 → Int32 → Option Int32) (i1 : Int32) (i2 : Int32) (i3 : Int32) (f : Nat → Nat → Int32) : Option Int32 :=
  (f_X12_places f).bind fun q4 =>
  if q4 ≤ i3 then
  (some i2)
  else
  ((f_X12_isHeard i1 i3 f).bind fun q6 =>
  if q6 = 0 then
  (f_X12_deaf_b40 K15 i1 i3 i2 ((1 : Int32) <<< (i3 &&& 31)) f)
  else
  (f_X12_deaf_b40 K15 i1 i3 i2 (0 : Int32) f))
def f_X12_deaf_b15 : Nat → Int32 → Int32 → Int32 → (Nat → Nat → Int32) → Option Int32
  | 0 => fun _ _ _ _ => none
  | n + 1 => fun i1 i2 i3 f => f_X12_deaf_b15s (fun i1 i2 i3 => f_X12_deaf_b15 n i1 i2 i3 f) i1 i2 i3 f
def f_X12_deaf (p1 : Int32) (f : Nat → Nat → Int32) : Option Int32 :=
  (f_X12_isSound p1 f).bind fun q2 =>
  if q2 = 0 then
  (some (-1000000001 : Int32))
  else
  (f_X12_deaf_b15 fuB p1 (0 : Int32) (0 : Int32) f)
def f_X12_allHeard_b48 (K6 : Int32 → Int32 → Int32 → Int32 → Int32 → Int32 → Option Int32) (i1 : Int32) (i2 : Int32) (i3 : Int32) (i4 : Int32) (i6 : Int32) (s0 : Int32) (f : Nat → Nat → Int32) : Option Int32 :=
  K6 i1 i2 i3 i4 s0 (i6 + (1 : Int32))
def f_X12_allHeard_b47 (K6 : Int32 → Int32 → Int32 → Int32 → Int32 → Int32 → Option Int32) (i1 : Int32) (i2 : Int32) (i3 : Int32) (i4 : Int32) (i6 : Int32) (f : Nat → Nat → Int32) : Option Int32 :=
  f_X12_allHeard_b48 K6 i1 i2 i3 i4 i6 (0 : Int32) f
def f_X12_allHeard_b43 (K6 : Int32 → Int32 → Int32 → Int32 → Int32 → Int32 → Option Int32) (i1 : Int32) (i2 : Int32) (i3 : Int32) (i4 : Int32) (i6 : Int32) (f : Nat → Nat → Int32) : Option Int32 :=
  f_X12_allHeard_b48 K6 i1 i2 i3 i4 i6 (1 : Int32) f
def f_X12_allHeard_b6s (K6 : Int32 → Int32 → Int32 → Int32 → Int32 → Int32 → Option Int32) (i1 : Int32) (i2 : Int32) (i3 : Int32) (i4 : Int32) (i5 : Int32) (i6 : Int32) (f : Nat → Nat → Int32) : Option Int32 :=
  (f_X12_places f).bind fun q2 =>
  if q2 ≤ i6 then
  (zr i5)
  else
  (if i5 = 0 then
  (f_X12_allHeard_b47 K6 i1 i2 i3 i4 i6 f)
  else
  ((f_X12_has i2 i6 f).bind fun q4 =>
  if q4 = 0 then
  (f_X12_allHeard_b43 K6 i1 i2 i3 i4 i6 f)
  else
  ((f_X12_listenTo i1 i6 i3 f).bind fun q6 =>
  if (q6 &&& i4) = 0 then
  (f_X12_allHeard_b47 K6 i1 i2 i3 i4 i6 f)
  else
  (f_X12_allHeard_b43 K6 i1 i2 i3 i4 i6 f))))
def f_X12_allHeard_b6 : Nat → Int32 → Int32 → Int32 → Int32 → Int32 → Int32 → (Nat → Nat → Int32) → Option Int32
  | 0 => fun _ _ _ _ _ _ _ => none
  | n + 1 => fun i1 i2 i3 i4 i5 i6 f => f_X12_allHeard_b6s (fun i1 i2 i3 i4 i5 i6 => f_X12_allHeard_b6 n i1 i2 i3 i4 i5 i6 f) i1 i2 i3 i4 i5 i6 f
def f_X12_allHeard (p1 : Int32) (p2 : Int32) (p3 : Int32) (p4 : Int32) (f : Nat → Nat → Int32) : Option Int32 :=
  f_X12_allHeard_b6 fuB p1 p2 p3 p4 (1 : Int32) (0 : Int32) f
def f_X12_ears_b16 (f : Nat → Nat → Int32) : Option Int32 :=
  some (-1000000001 : Int32)
def f_X12_ears_b100 (K40 : Int32 → Int32 → Int32 → Int32 → Int32 → Option Int32) (i1 : Int32) (i2 : Int32) (i3 : Int32) (i5 : Int32) (s0 : Int32) (f : Nat → Nat → Int32) : Option Int32 :=
  K40 i1 i2 i3 s0 (i5 + (1 : Int32))
def f_X12_ears_b98 (K40 : Int32 → Int32 → Int32 → Int32 → Int32 → Option Int32) (i1 : Int32) (i2 : Int32) (i3 : Int32) (i4 : Int32) (i5 : Int32) (f : Nat → Nat → Int32) : Option Int32 :=
  f_X12_ears_b100 K40 i1 i2 i3 i5 i4 f
def f_X12_ears_b74 (K40 : Int32 → Int32 → Int32 → Int32 → Int32 → Option Int32) (i1 : Int32) (i2 : Int32) (i3 : Int32) (i4 : Int32) (i5 : Int32) (s0 : Int32) (f : Nat → Nat → Int32) : Option Int32 :=
  if s0 = 0 then
  (f_X12_ears_b98 K40 i1 i2 i3 i4 i5 f)
  else
  ((f_X12_allHeard i1 i2 i3 i5 f).bind fun q10 =>
  if q10 = 0 then
  (f_X12_ears_b98 K40 i1 i2 i3 i4 i5 f)
  else
  (f_X12_ears_b100 K40 i1 i2 i3 i5 i5 f))
def f_X12_ears_b69 (K40 : Int32 → Int32 → Int32 → Int32 → Int32 → Option Int32) (i1 : Int32) (i2 : Int32) (i3 : Int32) (i4 : Int32) (i5 : Int32) (f : Nat → Nat → Int32) : Option Int32 :=
  f_X12_ears_b74 K40 i1 i2 i3 i4 i5 (1 : Int32) f
def f_X12_ears_b40s (K40 : Int32 → Int32 → Int32 → Int32 → Int32 → Option Int32) (i1 : Int32) (i2 : Int32) (i3 : Int32) (i4 : Int32) (i5 : Int32) (f : Nat → Nat → Int32) : Option Int32 :=
  (f_X12_places f).bind fun q8 =>
  if ((1 : Int32) <<< (q8 &&& 31)) ≤ i5 then
  (some i4)
  else
  (if i4 < 0 then
  (f_X12_ears_b69 K40 i1 i2 i3 i4 i5 f)
  else
  ((f_X12_bits i5 f).bind fun q14 =>
  (f_X12_bits i4 f).bind fun q16 =>
  if q16 ≤ q14 then
  (f_X12_ears_b74 K40 i1 i2 i3 i4 i5 (0 : Int32) f)
  else
  (f_X12_ears_b69 K40 i1 i2 i3 i4 i5 f)))
def f_X12_ears_b40 : Nat → Int32 → Int32 → Int32 → Int32 → Int32 → (Nat → Nat → Int32) → Option Int32
  | 0 => fun _ _ _ _ _ _ => none
  | n + 1 => fun i1 i2 i3 i4 i5 f => f_X12_ears_b40s (fun i1 i2 i3 i4 i5 => f_X12_ears_b40 n i1 i2 i3 i4 i5 f) i1 i2 i3 i4 i5 f
def f_X12_ears (p1 : Int32) (p2 : Int32) (p3 : Int32) (f : Nat → Nat → Int32) : Option Int32 :=
  (f_X12_isSound p1 f).bind fun q2 =>
  if q2 = 0 then
  (f_X12_ears_b16  f)
  else
  ((f_X12_isPlaces p2 f).bind fun q4 =>
  if q4 = 0 then
  (f_X12_ears_b16  f)
  else
  ((f_X12_in p3.toInt64 (0 : Int64) (30 : Int64) f).bind fun q6 =>
  if q6 = 0 then
  (some (-1000000002 : Int32))
  else
  (f_X12_ears_b40 fuB p1 p2 p3 (-1 : Int32) (0 : Int32) f)))
def f_X12_areAlike_b44 (K6 : Int32 → Int32 → Int32 → Int32 → Int32 → Option Int32) (i1 : Int32) (i2 : Int32) (i3 : Int32) (i5 : Int32) (s0 : Int32) (f : Nat → Nat → Int32) : Option Int32 :=
  K6 i1 i2 i3 s0 (i5 + (1 : Int32))
def f_X12_areAlike_b43 (K6 : Int32 → Int32 → Int32 → Int32 → Int32 → Option Int32) (i1 : Int32) (i2 : Int32) (i3 : Int32) (i5 : Int32) (f : Nat → Nat → Int32) : Option Int32 :=
  f_X12_areAlike_b44 K6 i1 i2 i3 i5 (0 : Int32) f
def f_X12_areAlike_b6s (K6 : Int32 → Int32 → Int32 → Int32 → Int32 → Option Int32) (i1 : Int32) (i2 : Int32) (i3 : Int32) (i4 : Int32) (i5 : Int32) (f : Nat → Nat → Int32) : Option Int32 :=
  if (f 0 4) ≤ i5 then
  (zr i4)
  else
  (if i4 = 0 then
  (f_X12_areAlike_b43 K6 i1 i2 i3 i5 f)
  else
  ((f_X12_sayingOf i5 i1 i3 f).bind fun q2 =>
  (f_X12_sayingOf i5 i2 i3 f).bind fun q4 =>
  if q2 = q4 then
  (f_X12_areAlike_b44 K6 i1 i2 i3 i5 (1 : Int32) f)
  else
  (f_X12_areAlike_b43 K6 i1 i2 i3 i5 f)))
def f_X12_areAlike_b6 : Nat → Int32 → Int32 → Int32 → Int32 → Int32 → (Nat → Nat → Int32) → Option Int32
  | 0 => fun _ _ _ _ _ _ => none
  | n + 1 => fun i1 i2 i3 i4 i5 f => f_X12_areAlike_b6s (fun i1 i2 i3 i4 i5 => f_X12_areAlike_b6 n i1 i2 i3 i4 i5 f) i1 i2 i3 i4 i5 f
def f_X12_areAlike (p1 : Int32) (p2 : Int32) (p3 : Int32) (f : Nat → Nat → Int32) : Option Int32 :=
  f_X12_areAlike_b6 fuB p1 p2 p3 (1 : Int32) (0 : Int32) f
def f_X12_alike_b82 (K16 : Int32 → Int32 → Int32 → Int32 → Option Int32) (i1 : Int32) (i2 : Int32) (i3 : Int32) (i4 : Int32) (f : Nat → Nat → Int32) : Option Int32 :=
  K16 i1 i2 i3 (i4 + (1 : Int32))
def f_X12_alike_b16s (K16 : Int32 → Int32 → Int32 → Int32 → Option Int32) (i1 : Int32) (i2 : Int32) (i3 : Int32) (i4 : Int32) (f : Nat → Nat → Int32) : Option Int32 :=
  if (36 : Int32) ≤ i4 then
  (if i2 = (-1 : Int32) then
  (some i3)
  else
  (some (-1 : Int32)))
  else
  (nm (i4 - i4 / (6 : Int32) * (6 : Int32)) fun v6_35 =>
  if v6_35 ≤ (i4 / (6 : Int32)) then
  (f_X12_alike_b82 K16 i1 i2 i3 i4 f)
  else
  (if (f 0 1) ≤ v6_35 then
  (f_X12_alike_b82 K16 i1 i2 i3 i4 f)
  else
  ((f_X12_areAlike (i4 / (6 : Int32)) v6_35 i1 f).bind fun q5 =>
  if q5 = 0 then
  (f_X12_alike_b82 K16 i1 i2 i3 i4 f)
  else
  (if i3 = i2 then
  (some (((10 : Int32) * (i4 / (6 : Int32))) + v6_35))
  else
  (f_X12_alike_b82 K16 i1 i2 (i3 + (1 : Int32)) i4 f)))))
def f_X12_alike_b16 : Nat → Int32 → Int32 → Int32 → Int32 → (Nat → Nat → Int32) → Option Int32
  | 0 => fun _ _ _ _ _ => none
  | n + 1 => fun i1 i2 i3 i4 f => f_X12_alike_b16s (fun i1 i2 i3 i4 => f_X12_alike_b16 n i1 i2 i3 i4 f) i1 i2 i3 i4 f
def f_X12_alike (p1 : Int32) (p2 : Int32) (f : Nat → Nat → Int32) : Option Int32 :=
  (f_X12_isPlace p1 f).bind fun q2 =>
  if q2 = 0 then
  (some (-1000000001 : Int32))
  else
  (f_X12_alike_b16 fuB p1 p2 (0 : Int32) (0 : Int32) f)
def f_X12_hides_b32 (f : Nat → Nat → Int32) : Option (Int32 × (Nat → Nat → Int32)) :=
  some ((-1000000001 : Int32), f)
def f_X12_hides_b79 (K50 : Int32 → Int32 → Int32 → Int32 → Int32 → Int32 → (Nat → Nat → Int32) → Option (Int32 × (Nat → Nat → Int32))) (i1 : Int32) (i2 : Int32) (i3 : Int32) (i4 : Int32) (i6 : Int32) (s0 : Int32) (f : Nat → Nat → Int32) : Option (Int32 × (Nat → Nat → Int32)) :=
  K50 i1 i2 i3 i4 s0 (i6 + (-1 : Int32)) f
def f_X12_hides_b50s (K50 : Int32 → Int32 → Int32 → Int32 → Int32 → Int32 → (Nat → Nat → Int32) → Option (Int32 × (Nat → Nat → Int32))) (i1 : Int32) (i2 : Int32) (i3 : Int32) (i4 : Int32) (i5 : Int32) (i6 : Int32) (f : Nat → Nat → Int32) : Option (Int32 × (Nat → Nat → Int32)) :=
  if i6 < 0 then
  (ck i1 28 <|
  some (i5, su f 5 i1.toNatClampNeg i4))
  else
  (ck i1 28 <|
  (f_X12_isHeard i2 i3 (su f 5 i1.toNatClampNeg i6)).bind fun q11 =>
  if q11 = 0 then
  (f_X12_hides_b79 K50 i1 i2 i3 i4 i6 i6 (su f 5 i1.toNatClampNeg i6))
  else
  (f_X12_hides_b79 K50 i1 i2 i3 i4 i6 i5 (su f 5 i1.toNatClampNeg i6)))
def f_X12_hides_b50 : Nat → Int32 → Int32 → Int32 → Int32 → Int32 → Int32 → (Nat → Nat → Int32) → Option (Int32 × (Nat → Nat → Int32))
  | 0 => fun _ _ _ _ _ _ _ => none
  | n + 1 => fun i1 i2 i3 i4 i5 i6 f => f_X12_hides_b50s (f_X12_hides_b50 n) i1 i2 i3 i4 i5 i6 f
def f_X12_hides (p1 : Int32) (p2 : Int32) (p3 : Int32) (f : Nat → Nat → Int32) : Option (Int32 × (Nat → Nat → Int32)) :=
  (f_X12_in p1.toInt64 (0 : Int64) (((f 0 0) - (1 : Int32)).toInt64) f).bind fun q2 =>
  if q2 = 0 then
  (f_X12_hides_b32 f)
  else
  ((f_X12_isSound p2 f).bind fun q4 =>
  if q4 = 0 then
  (f_X12_hides_b32 f)
  else
  ((f_X12_isPlace p3 f).bind fun q6 =>
  if q6 = 0 then
  (f_X12_hides_b32 f)
  else
  (ck p1 28 <|
  f_X12_hides_b50 fuB p1 p2 p3 (f 5 p1.toNatClampNeg) (-1 : Int32) (99 : Int32) f)))
def f_X12_midwife_b50 (f : Nat → Nat → Int32) : Option Int32 :=
  some (-1000000002 : Int32)
def f_X12_midwife_b100 (i1 : Int32) (s0 : Int32) (f : Nat → Nat → Int32) : Option Int32 :=
  if i1 = s0 then
  (some (0 : Int32))
  else
  (some (1 : Int32))
def f_X12_midwife_b83 (i1 : Int32) (i6 : Int32) (i7 : Int32) (s0 : Int32) (f : Nat → Nat → Int32) : Option Int32 :=
  if (s0 - i6) ≤ i7 then
  (f_X12_midwife_b100 i1 (0 : Int32) f)
  else
  (f_X12_midwife_b100 i1 (1 : Int32) f)
def f_X12_midwife_b72 (i1 : Int32) (i2 : Int32) (i3 : Int32) (i6 : Int32) (s0 : Int32) (f : Nat → Nat → Int32) : Option Int32 :=
  if i1 = 0 then
  (f_X12_midwife_b83 i1 i6 s0 i2 f)
  else
  (f_X12_midwife_b83 i1 i6 s0 i3 f)
def f_X12_midwife (p1 : Int32) (p2 : Int32) (p3 : Int32) (p4 : Int32) (p5 : Int32) (f : Nat → Nat → Int32) : Option Int32 :=
  (f_X12_in p2.toInt64 (0 : Int64) (9999 : Int64) f).bind fun q2 =>
  if q2 = 0 then
  (f_X12_midwife_b50  f)
  else
  ((f_X12_in p3.toInt64 (0 : Int64) (9999 : Int64) f).bind fun q4 =>
  if q4 = 0 then
  (f_X12_midwife_b50  f)
  else
  ((f_X12_in p4.toInt64 (0 : Int64) (9999 : Int64) f).bind fun q6 =>
  if q6 = 0 then
  (f_X12_midwife_b50  f)
  else
  ((f_X12_in p5.toInt64 (0 : Int64) (100 : Int64) f).bind fun q8 =>
  if q8 = 0 then
  (f_X12_midwife_b50  f)
  else
  (if p1 = 0 then
  (f_X12_midwife_b72 p1 p2 p3 ((p4 * p5) / (100 : Int32)) p3 f)
  else
  (f_X12_midwife_b72 p1 p2 p3 ((p4 * p5) / (100 : Int32)) p2 f)))))
def f_X12_bargain_b47 (f : Nat → Nat → Int32) : Option Int32 :=
  some (-1000000002 : Int32)
def f_X12_bargain_b97 (i4 : Int32) (i5 : Int32) (s0 : Int32) (f : Nat → Nat → Int32) : Option Int32 :=
  if i4 = 0 then
  (some i5)
  else
  (some s0)
def f_X12_bargain_b75 (i1 : Int32) (i3 : Int32) (i4 : Int32) (s0 : Int32) (f : Nat → Nat → Int32) : Option Int32 :=
  if i1 ≤ (s0 + ((2 : Int32) * i3)) then
  (f_X12_bargain_b97 i4 s0 i1 f)
  else
  (f_X12_bargain_b97 i4 s0 (s0 + ((2 : Int32) * i3)) f)
def f_X12_bargain (p1 : Int32) (p2 : Int32) (p3 : Int32) (p4 : Int32) (f : Nat → Nat → Int32) : Option Int32 :=
  (f_X12_in p1.toInt64 (0 : Int64) (9999 : Int64) f).bind fun q2 =>
  if q2 = 0 then
  (f_X12_bargain_b47  f)
  else
  ((f_X12_in p2.toInt64 (0 : Int64) (1000000 : Int64) f).bind fun q4 =>
  if q4 = 0 then
  (f_X12_bargain_b47  f)
  else
  ((f_X12_in p3.toInt64 (0 : Int64) (999 : Int64) f).bind fun q6 =>
  if q6 = 0 then
  (f_X12_bargain_b47  f)
  else
  ((f_X12_in p4.toInt64 (0 : Int64) (1 : Int64) f).bind fun q8 =>
  if q8 = 0 then
  (f_X12_bargain_b47  f)
  else
  (nm ((((p1.toInt64 * p2.toInt64) / (1000000 : Int64)).toInt32) - p3) fun v5_62 =>
  if v5_62 ≤ 0 then
  (f_X12_bargain_b75 p1 p3 p4 (0 : Int32) f)
  else
  (f_X12_bargain_b75 p1 p3 p4 v5_62 f)))))
def f_X12_found_b74 (K18 : Int32 → Int32 → Int32 → Int32 → Option Int32) (K30 : Int32 → Int32 → Int32 → Int32 → Int32 → Option Int32) (i1 : Int32) (i2 : Int32) (i4 : Int32) (i5 : Int32) (s0 : Int32) (s1 : Int32) (f : Nat → Nat → Int32) : Option Int32 :=
  K30 i1 i2 (s0 + s1) i4 (i5 + (1 : Int32))
def f_X12_found_b73 (K18 : Int32 → Int32 → Int32 → Int32 → Option Int32) (K30 : Int32 → Int32 → Int32 → Int32 → Int32 → Option Int32) (i1 : Int32) (i2 : Int32) (i4 : Int32) (i5 : Int32) (s0 : Int32) (f : Nat → Nat → Int32) : Option Int32 :=
  f_X12_found_b74 K18 K30 i1 i2 i4 i5 s0 (0 : Int32) f
def f_X12_found_b30s (K30 : Int32 → Int32 → Int32 → Int32 → Int32 → Option Int32) (K18 : Int32 → Int32 → Int32 → Int32 → Option Int32) (i1 : Int32) (i2 : Int32) (i3 : Int32) (i4 : Int32) (i5 : Int32) (f : Nat → Nat → Int32) : Option Int32 :=
  (f_X12_places f).bind fun q6 =>
  if q6 ≤ i5 then
  (K18 i1 i2 i3 (i4 + (1 : Int32)))
  else
  (nm (i2 + ((i1 >>> (i5 &&& 31)) &&& (1 : Int32))) fun v2_47 =>
  (f_X12_has i1 i5 f).bind fun q8 =>
  if q8 = 0 then
  (f_X12_found_b73 K18 K30 i1 v2_47 i4 i5 i3 f)
  else
  ((f_X12_isHeard i4 i5 f).bind fun q10 =>
  if q10 = 0 then
  (f_X12_found_b73 K18 K30 i1 v2_47 i4 i5 i3 f)
  else
  (f_X12_found_b74 K18 K30 i1 v2_47 i4 i5 i3 (1 : Int32) f)))
def f_X12_found_b30 (K18 : Int32 → Int32 → Int32 → Int32 → Option Int32) : Nat → Int32 → Int32 → Int32 → Int32 → Int32 → (Nat → Nat → Int32) → Option Int32
  | 0 => fun _ _ _ _ _ _ => none
  | n + 1 => fun i1 i2 i3 i4 i5 f => f_X12_found_b30s (fun i1 i2 i3 i4 i5 => f_X12_found_b30 K18 n i1 i2 i3 i4 i5 f) K18 i1 i2 i3 i4 i5 f
def f_X12_found_b18s (K18 : Int32 → Int32 → Int32 → Int32 → Option Int32) (i1 : Int32) (i2 : Int32) (i3 : Int32) (i4 : Int32) (f : Nat → Nat → Int32) : Option Int32 :=
  if (f 0 1) ≤ i4 then
  (if i2 = 0 then
  (some (0 : Int32))
  else
  (dzL i2.toInt64 <|
  some (((i3.toInt64 * (1000000 : Int64)) / i2.toInt64).toInt32)))
  else
  (f_X12_found_b30 K18 fuB i1 i2 i3 i4 (0 : Int32) f)
def f_X12_found_b18 : Nat → Int32 → Int32 → Int32 → Int32 → (Nat → Nat → Int32) → Option Int32
  | 0 => fun _ _ _ _ _ => none
  | n + 1 => fun i1 i2 i3 i4 f => f_X12_found_b18s (fun i1 i2 i3 i4 => f_X12_found_b18 n i1 i2 i3 i4 f) i1 i2 i3 i4 f
def f_X12_found (p1 : Int32) (f : Nat → Nat → Int32) : Option Int32 :=
  (f_X12_isPlaces p1 f).bind fun q2 =>
  if q2 = 0 then
  (some (-1000000001 : Int32))
  else
  (f_X12_found_b18 fuB p1 (0 : Int32) (0 : Int32) (0 : Int32) f)
def f_X12_say (p1 : Int32) (p2 : Int32) (f : Nat → Nat → Int32) : Option (Int32 × (Nat → Nat → Int32)) :=
  (f_X12_isWitness p1 f).bind fun q2 =>
  if q2 = 0 then
  (some ((-1000000001 : Int32), f))
  else
  ((f_X12_in p2.toInt64 (0 : Int64) (11 : Int64) f).bind fun q4 =>
  if q4 = 0 then
  (some ((-1000000002 : Int32), f))
  else
  (if (f 0 27) = (8 : Int32) then
  (some ((-1000000004 : Int32), f))
  else
  (ck (f 0 27) 8 <|
  ck ((su f 14 (f 0 27).toNatClampNeg p1) 0 27) 8 <|
  some ((su (su (su f 14 (f 0 27).toNatClampNeg p1) 15 ((su f 14 (f 0 27).toNatClampNeg p1) 0 27).toNatClampNeg p2) 0 27 (((su (su f 14 (f 0 27).toNatClampNeg p1) 15 ((su f 14 (f 0 27).toNatClampNeg p1) 0 27).toNatClampNeg p2) 0 27) + (1 : Int32))) 0 27, su (su (su f 14 (f 0 27).toNatClampNeg p1) 15 ((su f 14 (f 0 27).toNatClampNeg p1) 0 27).toNatClampNeg p2) 0 27 (((su (su f 14 (f 0 27).toNatClampNeg p1) 15 ((su f 14 (f 0 27).toNatClampNeg p1) 0 27).toNatClampNeg p2) 0 27) + (1 : Int32))))))
def f_X12_isPair_b32 (f : Nat → Nat → Int32) : Option Int32 :=
  some (1 : Int32)
def f_X12_isPair (p1 : Int32) (f : Nat → Nat → Int32) : Option Int32 :=
  if p1 = (100 : Int32) then
  (f_X12_isPair_b32  f)
  else
  (if p1 < 0 then
  (some (0 : Int32))
  else
  ((f_X12_isSound (p1 / (10 : Int32)) f).bind fun q2 =>
  if q2 = 0 then
  (some (0 : Int32))
  else
  ((f_X12_isPlace (p1 - p1 / (10 : Int32) * (10 : Int32)) f).bind fun q4 =>
  if q4 = 0 then
  (some (0 : Int32))
  else
  (f_X12_isPair_b32  f))))
def f_X12_sayingFor (p1 : Int32) (p2 : Int32) (f : Nat → Nat → Int32) : Option Int32 :=
  if p2 = (100 : Int32) then
  (ck p1 7 <|
  if (f 4 p1.toNatClampNeg) = (1 : Int32) then
  ((f_X12_widowers f).bind fun q3 =>
  some q3)
  else
  (some (0 : Int32)))
  else
  ((f_X12_sayingOf p1 (p2 / (10 : Int32)) (p2 - p2 / (10 : Int32) * (10 : Int32)) f).bind fun q6 =>
  some q6)
def f_X12_liarsOf_b38 (K4 : Int32 → Int32 → Int32 → Option Int32) (i1 : Int32) (i3 : Int32) (s0 : Int32) (s1 : Int32) (f : Nat → Nat → Int32) : Option Int32 :=
  K4 i1 (s0 + s1) (i3 + (1 : Int32))
def f_X12_liarsOf_b4s (K4 : Int32 → Int32 → Int32 → Option Int32) (i1 : Int32) (i2 : Int32) (i3 : Int32) (f : Nat → Nat → Int32) : Option Int32 :=
  if (f 0 27) ≤ i3 then
  (some i2)
  else
  (ck i3 8 <|
  (f_X12_sayingFor (f 14 i3.toNatClampNeg) i1 f).bind fun q3 =>
  ck i3 8 <|
  if q3 = (f 15 i3.toNatClampNeg) then
  (f_X12_liarsOf_b38 K4 i1 i3 i2 (0 : Int32) f)
  else
  (f_X12_liarsOf_b38 K4 i1 i3 i2 (1 : Int32) f))
def f_X12_liarsOf_b4 : Nat → Int32 → Int32 → Int32 → (Nat → Nat → Int32) → Option Int32
  | 0 => fun _ _ _ _ => none
  | n + 1 => fun i1 i2 i3 f => f_X12_liarsOf_b4s (fun i1 i2 i3 => f_X12_liarsOf_b4 n i1 i2 i3 f) i1 i2 i3 f
def f_X12_liarsOf (p1 : Int32) (f : Nat → Nat → Int32) : Option Int32 :=
  f_X12_liarsOf_b4 fuB p1 (0 : Int32) (0 : Int32) f
def f_X12_births_b46 (K14 : Int32 → Int32 → Int32 → Option Int32) (i1 : Int32) (i2 : Int32) (i3 : Int32) (f : Nat → Nat → Int32) : Option Int32 :=
  K14 i1 i2 (i3 + (1 : Int32))
def f_X12_births_b14s (K14 : Int32 → Int32 → Int32 → Option Int32) (i1 : Int32) (i2 : Int32) (i3 : Int32) (f : Nat → Nat → Int32) : Option Int32 :=
  if (100 : Int32) < i3 then
  (if i1 = (-1 : Int32) then
  (some i2)
  else
  (some (-1 : Int32)))
  else
  ((f_X12_isPair i3 f).bind fun q3 =>
  if q3 = 0 then
  (f_X12_births_b46 K14 i1 i2 i3 f)
  else
  ((f_X12_liarsOf i3 f).bind fun q5 =>
  if q5 = 0 then
  (if i2 = i1 then
  (some i3)
  else
  (f_X12_births_b46 K14 i1 (i2 + (1 : Int32)) i3 f))
  else
  (f_X12_births_b46 K14 i1 i2 i3 f)))
def f_X12_births_b14 : Nat → Int32 → Int32 → Int32 → (Nat → Nat → Int32) → Option Int32
  | 0 => fun _ _ _ _ => none
  | n + 1 => fun i1 i2 i3 f => f_X12_births_b14s (fun i1 i2 i3 => f_X12_births_b14 n i1 i2 i3 f) i1 i2 i3 f
def f_X12_births (p1 : Int32) (f : Nat → Nat → Int32) : Option Int32 :=
  if (f 0 0) = 0 then
  (some (-1000000003 : Int32))
  else
  (f_X12_births_b14 fuB p1 (0 : Int32) (0 : Int32) f)
def f_X12_liars (p1 : Int32) (f : Nat → Nat → Int32) : Option Int32 :=
  (f_X12_isPair p1 f).bind fun q2 =>
  if q2 = 0 then
  (some (-1000000001 : Int32))
  else
  (if (f 0 0) = 0 then
  (some (-1000000003 : Int32))
  else
  ((f_X12_liarsOf p1 f).bind fun q4 =>
  some q4))
def f_X12_leastLiars_b59 (K29 : Int32 → Int32 → Int32 → Option Int32) (i1 : Int32) (i3 : Int32) (s0 : Int32) (f : Nat → Nat → Int32) : Option Int32 :=
  K29 i1 s0 (i3 + (-1 : Int32))
def f_X12_leastLiars_b58 (K29 : Int32 → Int32 → Int32 → Option Int32) (i1 : Int32) (i2 : Int32) (i3 : Int32) (f : Nat → Nat → Int32) : Option Int32 :=
  f_X12_leastLiars_b59 K29 i1 i3 i2 f
def f_X12_leastLiars_b29s (K29 : Int32 → Int32 → Int32 → Option Int32) (i1 : Int32) (i2 : Int32) (i3 : Int32) (f : Nat → Nat → Int32) : Option Int32 :=
  if i3 < 0 then
  (if i1 = 0 then
  (some i2)
  else
  ((f_X12_liarsOf i2 f).bind fun q4 =>
  some q4))
  else
  ((f_X12_isPair i3 f).bind fun q7 =>
  if q7 = 0 then
  (f_X12_leastLiars_b58 K29 i1 i2 i3 f)
  else
  ((f_X12_liarsOf i3 f).bind fun q9 =>
  (f_X12_liarsOf i2 f).bind fun q11 =>
  if q11 < q9 then
  (f_X12_leastLiars_b58 K29 i1 i2 i3 f)
  else
  (f_X12_leastLiars_b59 K29 i1 i3 i3 f)))
def f_X12_leastLiars_b29 : Nat → Int32 → Int32 → Int32 → (Nat → Nat → Int32) → Option Int32
  | 0 => fun _ _ _ _ => none
  | n + 1 => fun i1 i2 i3 f => f_X12_leastLiars_b29s (fun i1 i2 i3 => f_X12_leastLiars_b29 n i1 i2 i3 f) i1 i2 i3 f
def f_X12_leastLiars (p1 : Int32) (f : Nat → Nat → Int32) : Option Int32 :=
  (f_X12_in p1.toInt64 (0 : Int64) (1 : Int64) f).bind fun q2 =>
  if q2 = 0 then
  (some (-1000000002 : Int32))
  else
  (if (f 0 0) = 0 then
  (some (-1000000003 : Int32))
  else
  (f_X12_leastLiars_b29 fuB p1 (100 : Int32) (100 : Int32) f))
def f_X12_greatestPart_b89 (K25 : Int32 → Int32 → Int32 → (Nat → Nat → Int32) → Option (Int32 × (Nat → Nat → Int32))) (i1 : Int32) (i2 : Int32) (i3 : Int32) (f : Nat → Nat → Int32) : Option (Int32 × (Nat → Nat → Int32)) :=
  K25 i1 i2 (i3 + (1 : Int32)) f
def f_X12_greatestPart_b88 (K25 : Int32 → Int32 → Int32 → (Nat → Nat → Int32) → Option (Int32 × (Nat → Nat → Int32))) (i1 : Int32) (i3 : Int32) (s0 : Int32) (f : Nat → Nat → Int32) : Option (Int32 × (Nat → Nat → Int32)) :=
  f_X12_greatestPart_b89 K25 i1 s0 i3 f
def f_X12_greatestPart_b25s (K25 : Int32 → Int32 → Int32 → (Nat → Nat → Int32) → Option (Int32 × (Nat → Nat → Int32))) (i1 : Int32) (i2 : Int32) (i3 : Int32) (f : Nat → Nat → Int32) : Option (Int32 × (Nat → Nat → Int32)) :=
  if (100 : Int32) < i3 then
  (some (i2, f))
  else
  ((f_X12_isPair i3 f).bind fun q2 =>
  if q2 = 0 then
  (f_X12_greatestPart_b89 K25 i1 i2 i3 f)
  else
  ((f_X12_liarsOf i3 f).bind fun q4 =>
  if q4 = 0 then
  ((f_X12_sayingFor i1 i3 f).bind fun q6 =>
  ck q6 12 <|
  ck q6 12 <|
  ck q6 12 <|
  if ((su f 16 q6.toNatClampNeg ((f 16 q6.toNatClampNeg) + (1 : Int32))) 16 q6.toNatClampNeg) ≤ i2 then
  (f_X12_greatestPart_b88 K25 i1 i3 i2 (su f 16 q6.toNatClampNeg ((f 16 q6.toNatClampNeg) + (1 : Int32))))
  else
  (ck q6 12 <|
  f_X12_greatestPart_b88 K25 i1 i3 ((su f 16 q6.toNatClampNeg ((f 16 q6.toNatClampNeg) + (1 : Int32))) 16 q6.toNatClampNeg) (su f 16 q6.toNatClampNeg ((f 16 q6.toNatClampNeg) + (1 : Int32)))))
  else
  (f_X12_greatestPart_b89 K25 i1 i2 i3 f)))
def f_X12_greatestPart_b25 : Nat → Int32 → Int32 → Int32 → (Nat → Nat → Int32) → Option (Int32 × (Nat → Nat → Int32))
  | 0 => fun _ _ _ _ => none
  | n + 1 => fun i1 i2 i3 f => f_X12_greatestPart_b25s (f_X12_greatestPart_b25 n) i1 i2 i3 f
def f_X12_greatestPart_b2s (K2 : Int32 → Int32 → (Nat → Nat → Int32) → Option (Int32 × (Nat → Nat → Int32))) (i1 : Int32) (i2 : Int32) (f : Nat → Nat → Int32) : Option (Int32 × (Nat → Nat → Int32)) :=
  if (12 : Int32) ≤ i2 then
  (f_X12_greatestPart_b25 fuB i1 (0 : Int32) (0 : Int32) f)
  else
  (ck i2 12 <|
  K2 i1 (i2 + (1 : Int32)) (su f 16 i2.toNatClampNeg (0 : Int32)))
def f_X12_greatestPart_b2 : Nat → Int32 → Int32 → (Nat → Nat → Int32) → Option (Int32 × (Nat → Nat → Int32))
  | 0 => fun _ _ _ => none
  | n + 1 => fun i1 i2 f => f_X12_greatestPart_b2s (f_X12_greatestPart_b2 n) i1 i2 f
def f_X12_greatestPart (p1 : Int32) (f : Nat → Nat → Int32) : Option (Int32 × (Nat → Nat → Int32)) :=
  f_X12_greatestPart_b2 fuB p1 (0 : Int32) f
def f_X12_ask_b59 (K20 : Int32 → Int32 → Int32 → (Nat → Nat → Int32) → Option (Int32 × (Nat → Nat → Int32))) (i1 : Int32) (i3 : Int32) (s0 : Int32) (f : Nat → Nat → Int32) : Option (Int32 × (Nat → Nat → Int32)) :=
  K20 i1 s0 (i3 + (1 : Int32)) f
def f_X12_ask_b46 (K20 : Int32 → Int32 → Int32 → (Nat → Nat → Int32) → Option (Int32 × (Nat → Nat → Int32))) (i2 : Int32) (i3 : Int32) (i4 : Int32) (s0 : Int32) (f : Nat → Nat → Int32) : Option (Int32 × (Nat → Nat → Int32)) :=
  if i2 ≤ i4 then
  (f_X12_ask_b59 K20 s0 i3 i2 f)
  else
  (f_X12_ask_b59 K20 s0 i3 i4 f)
def f_X12_ask_b20s (K20 : Int32 → Int32 → Int32 → (Nat → Nat → Int32) → Option (Int32 × (Nat → Nat → Int32))) (i1 : Int32) (i2 : Int32) (i3 : Int32) (f : Nat → Nat → Int32) : Option (Int32 × (Nat → Nat → Int32)) :=
  if (f 0 4) ≤ i3 then
  (some (i1, f))
  else
  ((f_X12_greatestPart i3 f).bind fun q4 =>
  if i2 ≤ q4.1 then
  (f_X12_ask_b46 K20 i2 i3 q4.1 i1 q4.2)
  else
  (f_X12_ask_b46 K20 i2 i3 q4.1 i3 q4.2))
def f_X12_ask_b20 : Nat → Int32 → Int32 → Int32 → (Nat → Nat → Int32) → Option (Int32 × (Nat → Nat → Int32))
  | 0 => fun _ _ _ _ => none
  | n + 1 => fun i1 i2 i3 f => f_X12_ask_b20s (f_X12_ask_b20 n) i1 i2 i3 f
def f_X12_ask (f : Nat → Nat → Int32) : Option (Int32 × (Nat → Nat → Int32)) :=
  if (f 0 0) = 0 then
  (some ((-1000000003 : Int32), f))
  else
  ((f_X12_births (-1 : Int32) f).bind fun q2 =>
  f_X12_ask_b20 fuB (-1 : Int32) q2 (0 : Int32) f)
def f_X12_write (p1 : Int32) (f : Nat → Nat → Int32) : Option (Int32 × (Nat → Nat → Int32)) :=
  (f_X12_in p1.toInt64 (0 : Int64) (7 : Int64) f).bind fun q2 =>
  if q2 = 0 then
  (some ((-1000000002 : Int32), f))
  else
  (if (f 0 31) = (15 : Int32) then
  (some ((-1000000004 : Int32), f))
  else
  (ck (f 0 31) 15 <|
  some ((su (su f 17 (f 0 31).toNatClampNeg p1) 0 31 (((su f 17 (f 0 31).toNatClampNeg p1) 0 31) + (1 : Int32))) 0 31, su (su f 17 (f 0 31).toNatClampNeg p1) 0 31 (((su f 17 (f 0 31).toNatClampNeg p1) 0 31) + (1 : Int32)))))
def f_X12_tear (f : Nat → Nat → Int32) : Option (Int32 × (Nat → Nat → Int32)) :=
  some ((f 0 27) + (f 0 31), su (su f 0 27 (0 : Int32)) 0 31 (0 : Int32))
def f_X12_judge_b2s (K2 : Int32 → Option Int32) (i1 : Int32) (f : Nat → Nat → Int32) : Option Int32 :=
  if (f 0 31) ≤ i1 then
  (some (-1 : Int32))
  else
  (ck (19 : Int32) 28 <|
  (f_X12_bits (f 5 (19 : Int32).toNatClampNeg) f).bind fun q3 =>
  ck i1 15 <|
  if q3 = (f 17 i1.toNatClampNeg) then
  (K2 (i1 + (1 : Int32)))
  else
  (some i1))
def f_X12_judge_b2 : Nat → Int32 → (Nat → Nat → Int32) → Option Int32
  | 0 => fun _ _ => none
  | n + 1 => fun i1 f => f_X12_judge_b2s (fun i1 => f_X12_judge_b2 n i1 f) i1 f
def f_X12_judge (f : Nat → Nat → Int32) : Option Int32 :=
  f_X12_judge_b2 fuB (0 : Int32) f
def f_X12_seed (p1 : Int32) (f : Nat → Nat → Int32) : Option (Int32 × (Nat → Nat → Int32)) :=
  if 0 ≤ p1 then
  (some (f 0 8, su f 0 8 p1))
  else
  (some ((-1000000002 : Int32), f))
def f_X12_keep_b15s (K15 : Int32 → Int32 → (Nat → Nat → Int32) → Option (Int32 × (Nat → Nat → Int32))) (i1 : Int32) (i2 : Int32) (f : Nat → Nat → Int32) : Option (Int32 × (Nat → Nat → Int32)) :=
  if (28 : Int32) ≤ i2 then
  (ck (((29 : Int32) * i1) + (28 : Int32)) 58 <|
  ck i1 2 <|
  some ((1 : Int32), su (su (su f 18 (((29 : Int32) * i1) + (28 : Int32)).toNatClampNeg (f 0 8)) 19 i1.toNatClampNeg (1 : Int32)) 0 25 (0 : Int32)))
  else
  (ck i2 28 <|
  ck (((29 : Int32) * i1) + i2) 58 <|
  K15 i1 (i2 + (1 : Int32)) (su f 18 (((29 : Int32) * i1) + i2).toNatClampNeg (f 5 i2.toNatClampNeg)))
def f_X12_keep_b15 : Nat → Int32 → Int32 → (Nat → Nat → Int32) → Option (Int32 × (Nat → Nat → Int32))
  | 0 => fun _ _ _ => none
  | n + 1 => fun i1 i2 f => f_X12_keep_b15s (f_X12_keep_b15 n) i1 i2 f
def f_X12_keep (p1 : Int32) (f : Nat → Nat → Int32) : Option (Int32 × (Nat → Nat → Int32)) :=
  (f_X12_in p1.toInt64 (0 : Int64) (1 : Int64) f).bind fun q2 =>
  if q2 = 0 then
  (some ((-1000000001 : Int32), f))
  else
  (f_X12_keep_b15 fuB p1 (0 : Int32) f)
def f_X12_goBack_b27s (K27 : Int32 → Int32 → (Nat → Nat → Int32) → Option (Int32 × (Nat → Nat → Int32))) (i1 : Int32) (i2 : Int32) (f : Nat → Nat → Int32) : Option (Int32 × (Nat → Nat → Int32)) :=
  if (28 : Int32) ≤ i2 then
  (ck (((29 : Int32) * i1) + (28 : Int32)) 58 <|
  some ((1 : Int32), su (su f 0 8 (f 18 (((29 : Int32) * i1) + (28 : Int32)).toNatClampNeg)) 0 25 (0 : Int32)))
  else
  (ck (((29 : Int32) * i1) + i2) 58 <|
  ck i2 28 <|
  K27 i1 (i2 + (1 : Int32)) (su f 5 i2.toNatClampNeg (f 18 (((29 : Int32) * i1) + i2).toNatClampNeg)))
def f_X12_goBack_b27 : Nat → Int32 → Int32 → (Nat → Nat → Int32) → Option (Int32 × (Nat → Nat → Int32))
  | 0 => fun _ _ _ => none
  | n + 1 => fun i1 i2 f => f_X12_goBack_b27s (f_X12_goBack_b27 n) i1 i2 f
def f_X12_goBack (p1 : Int32) (f : Nat → Nat → Int32) : Option (Int32 × (Nat → Nat → Int32)) :=
  (f_X12_in p1.toInt64 (0 : Int64) (1 : Int64) f).bind fun q2 =>
  if q2 = 0 then
  (some ((-1000000001 : Int32), f))
  else
  (ck p1 2 <|
  if (f 19 p1.toNatClampNeg) = 0 then
  (some ((-1000000003 : Int32), f))
  else
  (f_X12_goBack_b27 fuB p1 (0 : Int32) f))
def f_X11_isOutside_b9 (f : Nat → Nat → Int32) : Option Int32 :=
  some (1 : Int32)
def f_X11_isOutside (p0 : Int32) (p1 : Int32) (f : Nat → Nat → Int32) : Option Int32 :=
  if p0 < 0 then
  (f_X11_isOutside_b9  f)
  else
  (if p0 ≤ p1 then
  (some (0 : Int32))
  else
  (f_X11_isOutside_b9  f))
def f_X7_put (ka na : Nat) (p1 : Int32) (p2 : Int32) (f : Nat → Nat → Int32) : Option (Nat → Nat → Int32) :=
  if p1 < 0 then
  (some f)
  else
  (if (Int32.ofNat na) ≤ p1 then
  (some f)
  else
  (ck p1 na <|
  some (su f ka p1.toNatClampNeg p2)))
def f_X9_add_1 (p1 : Int32) (f : Nat → Nat → Int32) : Option (Int32 × (Nat → Nat → Int32)) :=
  if (f 1 1) < (240 : Int32) then
  ((f_X7_put 2 240 (f 1 1) p1 f).bind fun q2 =>
  some ((1 : Int32), su q2 1 1 ((q2 1 1) + (1 : Int32))))
  else
  (some ((0 : Int32), f))
def f_X11_feed (p1 : Int32) (f : Nat → Nat → Int32) : Option (Int32 × (Nat → Nat → Int32)) :=
  (f_X11_isOutside p1 (255 : Int32) f).bind fun q2 =>
  if q2 = 0 then
  ((f_X9_add_1 p1 f).bind fun q4 =>
  if q4.1 = 0 then
  (some ((-1000000004 : Int32), q4.2))
  else
  (some (q4.2 1 1, q4.2)))
  else
  (some ((-1000000002 : Int32), f))
def f_X5_clear_11 (f : Nat → Nat → Int32) : Option (Nat → Nat → Int32) :=
  some (su (su (su (su f 11 0 (0 : Int32)) 11 1 (0 : Int32)) 11 2 (0 : Int32)) 11 3 (0 : Int32))
def f_X9_letterAt_1 (p1 : Int32) (f : Nat → Nat → Int32) : Option Int32 :=
  if p1 < 0 then
  (some (-1 : Int32))
  else
  (if (f 1 1) ≤ p1 then
  (some (-1 : Int32))
  else
  (if (Int32.ofNat 240) ≤ p1 then
  (some (-1 : Int32))
  else
  (ck p1 240 <|
  some (f 2 p1.toNatClampNeg))))
def f_X6_skipBlanks_10_b2s (K2 : Int32 → (Nat → Nat → Int32) → Option (Nat → Nat → Int32)) (i1 : Int32) (f : Nat → Nat → Int32) : Option (Nat → Nat → Int32) :=
  if (240 : Int32) ≤ i1 then
  (some f)
  else
  ((f_X9_letterAt_1 (f 10 4) f).bind fun q2 =>
  if q2 = (32 : Int32) then
  (K2 (i1 + (1 : Int32)) (su f 10 4 ((f 10 4) + (1 : Int32))))
  else
  (some f))
def f_X6_skipBlanks_10_b2 : Nat → Int32 → (Nat → Nat → Int32) → Option (Nat → Nat → Int32)
  | 0 => fun _ _ => none
  | n + 1 => fun i1 f => f_X6_skipBlanks_10_b2s (f_X6_skipBlanks_10_b2 n) i1 f
def f_X6_skipBlanks_10 (f : Nat → Nat → Int32) : Option (Nat → Nat → Int32) :=
  f_X6_skipBlanks_10_b2 fuB (0 : Int32) f
def f_X5_stands_11 (f : Nat → Nat → Int32) : Option Int32 :=
  if (f 11 0) ≤ 0 then
  (some (0 : Int32))
  else
  (some (1 : Int32))
def f_X6_fail_10 (p1 : Int32) (p2 : Int32) (f : Nat → Nat → Int32) : Option (Nat → Nat → Int32) :=
  if (f 10 2) = 0 then
  (some (su (su f 10 2 p1) 10 3 p2))
  else
  (some f)
def f_X6_isFigure (p0 : Int32) (f : Nat → Nat → Int32) : Option Int32 :=
  if p0 < (48 : Int32) then
  (some (0 : Int32))
  else
  (if (57 : Int32) < p0 then
  (some (0 : Int32))
  else
  (some (1 : Int32)))
def f_X6_readNumber_10_b119 (i3 : Int32) (f : Nat → Nat → Int32) : Option (Int32 × (Nat → Nat → Int32)) :=
  some (i3, f)
def f_X6_readNumber_10_b113 (i2 : Int32) (i3 : Int32) (f : Nat → Nat → Int32) : Option (Int32 × (Nat → Nat → Int32)) :=
  (f_X6_fail_10 (2 : Int32) i2 f).bind fun q4 =>
  f_X6_readNumber_10_b119 i3 q4
def f_X6_readNumber_10_b81 (i1 : Int32) (i2 : Int32) (i3 : Int32) (f : Nat → Nat → Int32) : Option (Int32 × (Nat → Nat → Int32)) :=
  if (f 10 4) = i2 then
  ((f_X6_fail_10 (1 : Int32) i2 f).bind fun q8 =>
  f_X6_readNumber_10_b119 i3 q8)
  else
  (if (3 : Int32) < ((f 10 4) - i2) then
  (f_X6_readNumber_10_b113 i2 i3 f)
  else
  (if i3 ≤ i1 then
  (f_X6_readNumber_10_b119 i3 f)
  else
  (f_X6_readNumber_10_b113 i2 i3 f)))
def f_X6_readNumber_10_b14s (K14 : Int32 → Int32 → Int32 → Int32 → (Nat → Nat → Int32) → Option (Int32 × (Nat → Nat → Int32))) (i1 : Int32) (i2 : Int32) (i3 : Int32) (i4 : Int32) (f : Nat → Nat → Int32) : Option (Int32 × (Nat → Nat → Int32)) :=
  if (240 : Int32) ≤ i4 then
  (f_X6_readNumber_10_b81 i1 i2 i3 f)
  else
  ((f_X9_letterAt_1 (f 10 4) f).bind fun q11 =>
  (f_X6_isFigure q11 f).bind fun q13 =>
  if q13 = 0 then
  (f_X6_readNumber_10_b81 i1 i2 i3 f)
  else
  ((f_X9_letterAt_1 (f 10 4) f).bind fun q15 =>
  nm (jmin (((i3 * (10 : Int32)) + q15) - (48 : Int32)) (1000 : Int32)) fun v3_64 =>
  K14 i1 i2 v3_64 (i4 + (1 : Int32)) (su f 10 4 ((f 10 4) + (1 : Int32)))))
def f_X6_readNumber_10_b14 : Nat → Int32 → Int32 → Int32 → Int32 → (Nat → Nat → Int32) → Option (Int32 × (Nat → Nat → Int32))
  | 0 => fun _ _ _ _ _ => none
  | n + 1 => fun i1 i2 i3 i4 f => f_X6_readNumber_10_b14s (f_X6_readNumber_10_b14 n) i1 i2 i3 i4 f
def f_X6_readNumber_10 (p1 : Int32) (f : Nat → Nat → Int32) : Option (Int32 × (Nat → Nat → Int32)) :=
  (f_X6_skipBlanks_10 f).bind fun q2 =>
  f_X6_readNumber_10_b14 fuB p1 (q2 10 4) (0 : Int32) (0 : Int32) q2
def f_X5_addWall_11 (p1 : Int32) (f : Nat → Nat → Int32) : Option (Nat → Nat → Int32) :=
  (f_X7_put 12 8 (f 11 0) p1 f).bind fun q2 =>
  some (su q2 11 0 ((q2 11 0) + (1 : Int32)))
def f_X6_readEnd_10_b29 (f : Nat → Nat → Int32) : Option (Nat → Nat → Int32) :=
  some (su f 10 4 ((f 10 4) + (1 : Int32)))
def f_X6_readEnd_10 (f : Nat → Nat → Int32) : Option (Nat → Nat → Int32) :=
  (f_X6_skipBlanks_10 f).bind fun q2 =>
  (f_X9_letterAt_1 (q2 10 4) q2).bind fun q4 =>
  if q4 = (59 : Int32) then
  (f_X6_readEnd_10_b29 q2)
  else
  ((f_X6_fail_10 (1 : Int32) (q2 10 4) q2).bind fun q6 =>
  f_X6_readEnd_10_b29 q6)
def f_X6_readWalls_10_b98 (f : Nat → Nat → Int32) : Option (Nat → Nat → Int32) :=
  (f_X6_readEnd_10 f).bind fun q10 =>
  some q10
def f_X6_readWalls_10_b36s (K36 : Int32 → (Nat → Nat → Int32) → Option (Nat → Nat → Int32)) (i2 : Int32) (f : Nat → Nat → Int32) : Option (Nat → Nat → Int32) :=
  if (8 : Int32) ≤ i2 then
  (f_X6_readWalls_10_b98 f)
  else
  (if (f 10 2) = 0 then
  ((f_X9_letterAt_1 (f 10 4) f).bind fun q12 =>
  if q12 = (44 : Int32) then
  ((f_X6_readNumber_10 (20 : Int32) (su f 10 4 ((f 10 4) + (1 : Int32)))).bind fun q14 =>
  (f_X5_addWall_11 q14.1 q14.2).bind fun q16 =>
  (f_X6_skipBlanks_10 q16).bind fun q18 =>
  K36 (i2 + (1 : Int32)) q18)
  else
  (f_X6_readWalls_10_b98 f))
  else
  (f_X6_readWalls_10_b98 f))
def f_X6_readWalls_10_b36 : Nat → Int32 → (Nat → Nat → Int32) → Option (Nat → Nat → Int32)
  | 0 => fun _ _ => none
  | n + 1 => fun i2 f => f_X6_readWalls_10_b36s (f_X6_readWalls_10_b36 n) i2 f
def f_X6_readWalls_10 (p1 : Int32) (f : Nat → Nat → Int32) : Option (Nat → Nat → Int32) :=
  (f_X5_stands_11 f).bind fun q2 =>
  if q2 = 0 then
  ((f_X6_readNumber_10 (20 : Int32) f).bind fun q4 =>
  (f_X5_addWall_11 q4.1 q4.2).bind fun q6 =>
  (f_X6_skipBlanks_10 q6).bind fun q8 =>
  f_X6_readWalls_10_b36 fuB (1 : Int32) q8)
  else
  ((f_X6_fail_10 (3 : Int32) p1 f).bind fun q23 =>
  some q23)
def f_X5_addSound_11 (p1 : Int32) (p2 : Int32) (f : Nat → Nat → Int32) : Option (Nat → Nat → Int32) :=
  (f_X7_put 13 6 (f 11 2) p1 f).bind fun q2 =>
  (f_X7_put 14 6 (q2 11 2) p2 q2).bind fun q4 =>
  some (su q4 11 2 ((q4 11 2) + (1 : Int32)))
def f_X6_readSound_10 (p1 : Int32) (f : Nat → Nat → Int32) : Option (Nat → Nat → Int32) :=
  if (f 11 2) < (6 : Int32) then
  ((f_X6_readNumber_10 (60 : Int32) f).bind fun q2 =>
  (f_X6_readNumber_10 (9 : Int32) q2.2).bind fun q4 =>
  (f_X5_addSound_11 q2.1 q4.1 q4.2).bind fun q6 =>
  (f_X6_readEnd_10 q6).bind fun q8 =>
  some q8)
  else
  ((f_X6_fail_10 (3 : Int32) p1 f).bind fun q10 =>
  some q10)
def f_X6_readWind_10 (p1 : Int32) (f : Nat → Nat → Int32) : Option (Nat → Nat → Int32) :=
  if (f 10 5) = 0 then
  ((f_X6_readNumber_10 (18 : Int32) (su f 10 5 (1 : Int32))).bind fun q2 =>
  (f_X6_readEnd_10 (su q2.2 11 1 (q2.1 - (9 : Int32)))).bind fun q4 =>
  some q4)
  else
  ((f_X6_fail_10 (3 : Int32) p1 f).bind fun q6 =>
  some q6)
def f_X5_addWitness_11 (p1 : Int32) (p2 : Int32) (p3 : Int32) (f : Nat → Nat → Int32) : Option (Nat → Nat → Int32) :=
  (f_X7_put 15 7 (f 11 3) p1 f).bind fun q2 =>
  (f_X7_put 16 7 (q2 11 3) p2 q2).bind fun q4 =>
  (f_X7_put 17 7 (q4 11 3) p3 q4).bind fun q6 =>
  some (su q6 11 3 ((q6 11 3) + (1 : Int32)))
def f_X6_readWitness_10 (p1 : Int32) (f : Nat → Nat → Int32) : Option (Nat → Nat → Int32) :=
  if (f 11 3) < (7 : Int32) then
  ((f_X6_readNumber_10 (f 11 0) f).bind fun q2 =>
  (f_X6_readNumber_10 (30 : Int32) q2.2).bind fun q4 =>
  (f_X6_readNumber_10 (2 : Int32) q4.2).bind fun q6 =>
  (f_X5_addWitness_11 q2.1 q4.1 q6.1 q6.2).bind fun q8 =>
  (f_X6_readEnd_10 q8).bind fun q10 =>
  some q10)
  else
  ((f_X6_fail_10 (3 : Int32) p1 f).bind fun q12 =>
  some q12)
def f_X6_readClause_10_b50 (i1 : Int32) (i2 : Int32) (f : Nat → Nat → Int32) : Option (Nat → Nat → Int32) :=
  if i2 = 104 then
  ((f_X6_readWalls_10 i1 f).bind fun q6 =>
  some q6)
  else if i2 = 115 then
  ((f_X6_readSound_10 i1 f).bind fun q8 =>
  some q8)
  else if i2 = 118 then
  ((f_X6_readWind_10 i1 f).bind fun q10 =>
  some q10)
  else if i2 = 119 then
  ((f_X6_readWitness_10 i1 f).bind fun q12 =>
  some q12)
  else ((f_X6_fail_10 (1 : Int32) i1 f).bind fun q14 =>
  some q14)
def f_X6_readClause_10 (f : Nat → Nat → Int32) : Option (Nat → Nat → Int32) :=
  (f_X9_letterAt_1 (f 10 4) f).bind fun q2 =>
  (f_X5_stands_11 (su f 10 4 ((f 10 4) + (1 : Int32)))).bind fun q4 =>
  if q4 = 0 then
  (if q2 = (104 : Int32) then
  (f_X6_readClause_10_b50 (f 10 4) q2 (su f 10 4 ((f 10 4) + (1 : Int32))))
  else
  ((f_X6_fail_10 (1 : Int32) (f 10 4) (su f 10 4 ((f 10 4) + (1 : Int32)))).bind fun q20 =>
  some q20))
  else
  (f_X6_readClause_10_b50 (f 10 4) q2 (su f 10 4 ((f 10 4) + (1 : Int32))))
def f_X6_read_10_b33s (K33 : Int32 → (Nat → Nat → Int32) → Option (Nat → Nat → Int32)) (i1 : Int32) (f : Nat → Nat → Int32) : Option (Nat → Nat → Int32) :=
  if (240 : Int32) ≤ i1 then
  (some f)
  else
  (if (f 10 2) = 0 then
  (if (f 1 1) ≤ (f 10 4) then
  (some f)
  else
  ((f_X6_readClause_10 f).bind fun q6 =>
  (f_X6_skipBlanks_10 q6).bind fun q8 =>
  K33 (i1 + (1 : Int32)) q8))
  else
  (some f))
def f_X6_read_10_b33 : Nat → Int32 → (Nat → Nat → Int32) → Option (Nat → Nat → Int32)
  | 0 => fun _ _ => none
  | n + 1 => fun i1 f => f_X6_read_10_b33s (f_X6_read_10_b33 n) i1 f
def f_X6_read_10 (f : Nat → Nat → Int32) : Option (Nat → Nat → Int32) :=
  (f_X5_clear_11 f).bind fun q2 =>
  (f_X6_skipBlanks_10 (su (su (su (su q2 10 2 (0 : Int32)) 10 3 (-1 : Int32)) 10 4 (0 : Int32)) 10 5 (0 : Int32))).bind fun q4 =>
  f_X6_read_10_b33 fuB (0 : Int32) q4
def f_X7_get (ka na : Nat) (p1 : Int32) (f : Nat → Nat → Int32) : Option Int32 :=
  if p1 < 0 then
  (some (0 : Int32))
  else
  (if (Int32.ofNat na) ≤ p1 then
  (some (0 : Int32))
  else
  (ck p1 na <|
  some (f ka p1.toNatClampNeg)))
def f_X7_copy_b3s (ka na : Nat) (kb nb : Nat) (K3 : Int32 → Int32 → Int32 → Int32 → (Nat → Nat → Int32) → Option (Nat → Nat → Int32)) (i1 : Int32) (i3 : Int32) (i4 : Int32) (i5 : Int32) (f : Nat → Nat → Int32) : Option (Nat → Nat → Int32) :=
  if i4 ≤ i5 then
  (some f)
  else
  ((f_X7_get ka na (i1 + i5) f).bind fun q2 =>
  (f_X7_put kb nb (i3 + i5) q2 f).bind fun q4 =>
  K3 i1 i3 i4 (i5 + (1 : Int32)) q4)
def f_X7_copy_b3 (ka na : Nat) (kb nb : Nat) : Nat → Int32 → Int32 → Int32 → Int32 → (Nat → Nat → Int32) → Option (Nat → Nat → Int32)
  | 0 => fun _ _ _ _ _ => none
  | n + 1 => fun i1 i3 i4 i5 f => f_X7_copy_b3s ka na kb nb (f_X7_copy_b3 ka na kb nb n) i1 i3 i4 i5 f
def f_X7_copy (ka na : Nat) (kb nb : Nat) (p1 : Int32) (p3 : Int32) (p4 : Int32) (f : Nat → Nat → Int32) : Option (Nat → Nat → Int32) :=
  f_X7_copy_b3 ka na kb nb fuB p1 p3 p4 (0 : Int32) f
def f_X5_take_3_11 (f : Nat → Nat → Int32) : Option (Nat → Nat → Int32) :=
  (f_X7_copy 12 8 4 8 (0 : Int32) (0 : Int32) (8 : Int32) (su (su (su (su f 3 0 (f 11 0)) 3 1 ((su f 3 0 (f 11 0)) 11 1)) 3 2 ((su (su f 3 0 (f 11 0)) 3 1 ((su f 3 0 (f 11 0)) 11 1)) 11 2)) 3 3 ((su (su (su f 3 0 (f 11 0)) 3 1 ((su f 3 0 (f 11 0)) 11 1)) 3 2 ((su (su f 3 0 (f 11 0)) 3 1 ((su f 3 0 (f 11 0)) 11 1)) 11 2)) 11 3))).bind fun q2 =>
  (f_X7_copy 13 6 5 6 (0 : Int32) (0 : Int32) (6 : Int32) q2).bind fun q4 =>
  (f_X7_copy 14 6 6 6 (0 : Int32) (0 : Int32) (6 : Int32) q4).bind fun q6 =>
  (f_X7_copy 15 7 7 7 (0 : Int32) (0 : Int32) (7 : Int32) q6).bind fun q8 =>
  (f_X7_copy 16 7 8 7 (0 : Int32) (0 : Int32) (7 : Int32) q8).bind fun q10 =>
  (f_X7_copy 17 7 9 7 (0 : Int32) (0 : Int32) (7 : Int32) q10).bind fun q12 =>
  some q12
def f_X8_put_18 (p1 : Int32) (p2 : Int32) (f : Nat → Nat → Int32) : Option (Nat → Nat → Int32) :=
  (f_X7_put 19 28 p1 p2 f).bind fun q2 =>
  some q2
def f_X8_forgetMornings_18_b32s (K32 : Int32 → (Nat → Nat → Int32) → Option (Nat → Nat → Int32)) (i1 : Int32) (f : Nat → Nat → Int32) : Option (Nat → Nat → Int32) :=
  if (7 : Int32) ≤ i1 then
  (some f)
  else
  ((f_X8_put_18 ((21 : Int32) + i1) (-1 : Int32) f).bind fun q12 =>
  K32 (i1 + (1 : Int32)) q12)
def f_X8_forgetMornings_18_b32 : Nat → Int32 → (Nat → Nat → Int32) → Option (Nat → Nat → Int32)
  | 0 => fun _ _ => none
  | n + 1 => fun i1 f => f_X8_forgetMornings_18_b32s (f_X8_forgetMornings_18_b32 n) i1 f
def f_X8_forgetMornings_18 (f : Nat → Nat → Int32) : Option (Nat → Nat → Int32) :=
  (f_X8_put_18 (1 : Int32) (0 : Int32) f).bind fun q2 =>
  (f_X8_put_18 (2 : Int32) (-1 : Int32) q2).bind fun q4 =>
  (f_X8_put_18 (3 : Int32) (-1 : Int32) q4).bind fun q6 =>
  (f_X8_put_18 (4 : Int32) (0 : Int32) q6).bind fun q8 =>
  (f_X8_put_18 (5 : Int32) (0 : Int32) q8).bind fun q10 =>
  f_X8_forgetMornings_18_b32 fuB (0 : Int32) q10
def f_X8_begin_18_3 (f : Nat → Nat → Int32) : Option (Nat → Nat → Int32) :=
  (f_X8_forgetMornings_18 f).bind fun q2 =>
  (f_X8_put_18 (0 : Int32) (q2 3 1) q2).bind fun q4 =>
  (f_X7_copy 4 8 19 28 (0 : Int32) (6 : Int32) (8 : Int32) q4).bind fun q6 =>
  (f_X7_copy 7 7 19 28 (0 : Int32) (14 : Int32) (7 : Int32) q6).bind fun q8 =>
  some q8
def f_X4_forget_20 (f : Nat → Nat → Int32) : Option (Nat → Nat → Int32) :=
  some (su f 20 2 (0 : Int32))
def f_X11_forgetImages_b26 (K2 : Int32 → (Nat → Nat → Int32) → Option (Nat → Nat → Int32)) (i1 : Int32) (f : Nat → Nat → Int32) : Option (Nat → Nat → Int32) :=
  K2 (i1 + (1 : Int32)) f
def f_X11_forgetImages_b2s (K2 : Int32 → (Nat → Nat → Int32) → Option (Nat → Nat → Int32)) (i1 : Int32) (f : Nat → Nat → Int32) : Option (Nat → Nat → Int32) :=
  if (Int32.ofNat 2) ≤ i1 then
  (some f)
  else
  (if i1 = 0 then
  (f_X11_forgetImages_b26 K2 i1 (su f 23 2 (0 : Int32)))
  else if i1 = 1 then
  (f_X11_forgetImages_b26 K2 i1 (su f 26 2 (0 : Int32)))
  else
  (f_X11_forgetImages_b26 K2 i1 f))
def f_X11_forgetImages_b2 : Nat → Int32 → (Nat → Nat → Int32) → Option (Nat → Nat → Int32)
  | 0 => fun _ _ => none
  | n + 1 => fun i1 f => f_X11_forgetImages_b2s (f_X11_forgetImages_b2 n) i1 f
def f_X11_forgetImages (f : Nat → Nat → Int32) : Option (Nat → Nat → Int32) :=
  f_X11_forgetImages_b2 fuB (0 : Int32) f
def f_X5_places_3 (f : Nat → Nat → Int32) : Option Int32 :=
  if (f 3 0) ≤ 0 then
  (some (0 : Int32))
  else
  (some ((f 3 0) + (1 : Int32)))
def f_X11_house (f : Nat → Nat → Int32) : Option (Int32 × (Nat → Nat → Int32)) :=
  (f_X6_read_10 f).bind fun q2 =>
  if ((su q2 1 1 (0 : Int32)) 10 2) = 0 then
  ((f_X5_take_3_11 (su q2 1 1 (0 : Int32))).bind fun q4 =>
  (f_X8_begin_18_3 q4).bind fun q6 =>
  (f_X4_forget_20 q6).bind fun q8 =>
  (f_X11_forgetImages q8).bind fun q10 =>
  (f_X5_places_3 (su (su q10 32 4 (0 : Int32)) 37 1 (0 : Int32))).bind fun q12 =>
  some (q12, su (su q10 32 4 (0 : Int32)) 37 1 (0 : Int32)))
  else
  (some ((-10 : Int32) - ((su q2 1 1 (0 : Int32)) 10 2), su q2 1 1 (0 : Int32)))
def f_X11_fault (f : Nat → Nat → Int32) : Option Int32 :=
  some (f 10 3)
def f_X8_get_18 (p1 : Int32) (f : Nat → Nat → Int32) : Option Int32 :=
  (f_X7_get 19 28 p1 f).bind fun q2 =>
  some q2
def f_X11_told (p1 : Int32) (f : Nat → Nat → Int32) : Option Int32 :=
  if p1 < 0 ∨ 12 < p1 then
  (some (-1000000002 : Int32))
  else if p1 = 0 then
  ((f_X5_places_3 f).bind fun q3 =>
  some q3)
  else if p1 = 1 then
  (some (f 3 2))
  else if p1 = 2 then
  (some (f 3 3))
  else if p1 = 3 then
  (some (f 1 1))
  else if p1 = 4 then
  ((f_X8_get_18 (0 : Int32) f).bind fun q5 =>
  some (q5 + (9 : Int32)))
  else if p1 = 5 then
  ((f_X8_get_18 (1 : Int32) f).bind fun q7 =>
  some q7)
  else if p1 = 6 then
  ((f_X8_get_18 (2 : Int32) f).bind fun q9 =>
  some q9)
  else if p1 = 7 then
  ((f_X8_get_18 (3 : Int32) f).bind fun q11 =>
  some q11)
  else if p1 = 8 then
  ((f_X8_get_18 (4 : Int32) f).bind fun q13 =>
  some q13)
  else if p1 = 9 then
  ((f_X8_get_18 (5 : Int32) f).bind fun q15 =>
  some q15)
  else if p1 = 10 then
  (some (f 32 4))
  else if p1 = 11 then
  (some (f 37 1))
  else if p1 = 12 then
  (some (f 20 2))
  else none
def f_X5_isWall_3 (p1 : Int32) (f : Nat → Nat → Int32) : Option Int32 :=
  if p1 < 0 then
  (some (0 : Int32))
  else
  (if (f 3 0) ≤ p1 then
  (some (0 : Int32))
  else
  (some (1 : Int32)))
def f_X11_thick (p1 : Int32) (f : Nat → Nat → Int32) : Option Int32 :=
  (f_X5_isWall_3 p1 f).bind fun q2 =>
  if q2 = 0 then
  (some (-1000000001 : Int32))
  else
  ((f_X8_get_18 ((6 : Int32) + p1) f).bind fun q4 =>
  some q4)
def f_X5_isSound_3 (p1 : Int32) (f : Nat → Nat → Int32) : Option Int32 :=
  if p1 < 0 then
  (some (0 : Int32))
  else
  (if (f 3 2) ≤ p1 then
  (some (0 : Int32))
  else
  (some (1 : Int32)))
def f_X11_sound (p1 : Int32) (p2 : Int32) (f : Nat → Nat → Int32) : Option Int32 :=
  (f_X5_isSound_3 p1 f).bind fun q2 =>
  if q2 = 0 then
  (some (-1000000001 : Int32))
  else
  (if p2 = 0 then
  ((f_X7_get 5 6 p1 f).bind fun q4 =>
  some q4)
  else if p2 = 1 then
  ((f_X7_get 6 6 p1 f).bind fun q6 =>
  some q6)
  else (some (-1000000002 : Int32)))
def f_X5_isWitness_3 (p1 : Int32) (f : Nat → Nat → Int32) : Option Int32 :=
  if p1 < 0 then
  (some (0 : Int32))
  else
  (if (f 3 3) ≤ p1 then
  (some (0 : Int32))
  else
  (some (1 : Int32)))
def f_X11_witness (p1 : Int32) (p2 : Int32) (f : Nat → Nat → Int32) : Option Int32 :=
  (f_X5_isWitness_3 p1 f).bind fun q2 =>
  if q2 = 0 then
  (some (-1000000001 : Int32))
  else
  (if p2 < 0 ∨ 3 < p2 then
  (some (-1000000002 : Int32))
  else if p2 = 0 then
  ((f_X8_get_18 ((14 : Int32) + p1) f).bind fun q5 =>
  some q5)
  else if p2 = 1 then
  ((f_X7_get 8 7 p1 f).bind fun q7 =>
  some q7)
  else if p2 = 2 then
  ((f_X7_get 9 7 p1 f).bind fun q9 =>
  some q9)
  else if p2 = 3 then
  ((f_X8_get_18 ((21 : Int32) + p1) f).bind fun q11 =>
  some q11)
  else none)
def f_X5_isPlace_3 (p1 : Int32) (f : Nat → Nat → Int32) : Option Int32 :=
  if p1 < 0 then
  (some (0 : Int32))
  else
  ((f_X5_places_3 f).bind fun q2 =>
  if q2 ≤ p1 then
  (some (0 : Int32))
  else
  (some (1 : Int32)))
def f_X11_isFullOfMornings (f : Nat → Nat → Int32) : Option Int32 :=
  (f_X8_get_18 (1 : Int32) f).bind fun q2 =>
  if q2 ≤ (9000 : Int32) then
  (some (0 : Int32))
  else
  (some (1 : Int32))
def f_X4_push_20_18_b43 (s1 : Int32) (f : Nat → Nat → Int32) : Option (Nat → Nat → Int32) :=
  some (su (su f 20 1 s1) 20 2 (jmin (((su f 20 1 s1) 20 2) + (1 : Int32)) (20 : Int32)))
def f_X4_push_20_18 (f : Nat → Nat → Int32) : Option (Nat → Nat → Int32) :=
  (f_X7_copy 19 28 21 560 (0 : Int32) ((f 20 1) * (28 : Int32)) (28 : Int32) f).bind fun q2 =>
  if (20 : Int32) ≤ ((q2 20 1) + (1 : Int32)) then
  (f_X4_push_20_18_b43 (0 : Int32) q2)
  else
  (f_X4_push_20_18_b43 ((q2 20 1) + (1 : Int32)) q2)
def f_X2_loudness_29_b53s (K53 : Int32 → Int32 → Int32 → Option Int32) (i5 : Int32) (i6 : Int32) (i7 : Int32) (f : Nat → Nat → Int32) : Option Int32 :=
  if i5 ≤ i7 then
  (some i6)
  else
  ((f_X7_get 19 28 ((6 : Int32) + i7) f).bind fun q6 =>
  K53 i5 (i6 - q6) (i7 + (1 : Int32)))
def f_X2_loudness_29_b53 : Nat → Int32 → Int32 → Int32 → (Nat → Nat → Int32) → Option Int32
  | 0 => fun _ _ _ _ => none
  | n + 1 => fun i5 i6 i7 f => f_X2_loudness_29_b53s (fun i5 i6 i7 => f_X2_loudness_29_b53 n i5 i6 i7 f) i5 i6 i7 f
def f_X2_loudness_29 (p1 : Int32) (p2 : Int32) (p3 : Int32) (f : Nat → Nat → Int32) : Option Int32 :=
  (f_X7_get 5 6 p1 f).bind fun q2 =>
  (f_X7_get 19 28 (0 : Int32) f).bind fun q4 =>
  nm ((q2 - ((jmax p2 p3) - (jmin p2 p3))) + (q4 * (p3 - p2))) fun v6_47 =>
  f_X2_loudness_29_b53 fuB (jmax p2 p3) v6_47 (jmin p2 p3) f
def f_X2_margin_29 (p1 : Int32) (p2 : Int32) (p3 : Int32) (f : Nat → Nat → Int32) : Option Int32 :=
  (f_X7_get 19 28 ((14 : Int32) + p1) f).bind fun q2 =>
  (f_X2_loudness_29 p2 p3 q2 f).bind fun q4 =>
  (f_X7_get 8 7 p1 f).bind fun q6 =>
  some (q4 - q6)
def f_X2_hearers_29_b39 (K6 : Int32 → Int32 → Int32 → Int32 → Int32 → Option Int32) (i1 : Int32) (i2 : Int32) (i3 : Int32) (i4 : Int32) (i5 : Int32) (f : Nat → Nat → Int32) : Option Int32 :=
  K6 i1 i2 i3 i4 (i5 + (1 : Int32))
def f_X2_hearers_29_b6s (K6 : Int32 → Int32 → Int32 → Int32 → Int32 → Option Int32) (i1 : Int32) (i2 : Int32) (i3 : Int32) (i4 : Int32) (i5 : Int32) (f : Nat → Nat → Int32) : Option Int32 :=
  if (f 3 3) ≤ i5 then
  (some i4)
  else
  ((f_X2_margin_29 i5 i1 i2 f).bind fun q2 =>
  if q2 < i3 then
  (f_X2_hearers_29_b39 K6 i1 i2 i3 i4 i5 f)
  else
  (nm (i4 ||| ((1 : Int32) <<< (i5 &&& 31))) fun v4_37 =>
  f_X2_hearers_29_b39 K6 i1 i2 i3 v4_37 i5 f))
def f_X2_hearers_29_b6 : Nat → Int32 → Int32 → Int32 → Int32 → Int32 → (Nat → Nat → Int32) → Option Int32
  | 0 => fun _ _ _ _ _ _ => none
  | n + 1 => fun i1 i2 i3 i4 i5 f => f_X2_hearers_29_b6s (fun i1 i2 i3 i4 i5 => f_X2_hearers_29_b6 n i1 i2 i3 i4 i5 f) i1 i2 i3 i4 i5 f
def f_X2_hearers_29 (p1 : Int32) (p2 : Int32) (p3 : Int32) (f : Nat → Nat → Int32) : Option Int32 :=
  f_X2_hearers_29_b6 fuB p1 p2 p3 (0 : Int32) (0 : Int32) f
def f_X2_saying_29 (p1 : Int32) (p2 : Int32) (p3 : Int32) (f : Nat → Nat → Int32) : Option Int32 :=
  (f_X7_get 9 7 p1 f).bind fun q2 =>
  if q2 = (1 : Int32) then
  (if (f 3 2) ≤ 0 then
  (some (0 : Int32))
  else
  ((f_X7_get 6 6 (0 : Int32) f).bind fun q12 =>
  some ((2 : Int32) + q12)))
  else
  (if q2 = (2 : Int32) then
  (some (0 : Int32))
  else
  (if p2 = (-1 : Int32) then
  (some (0 : Int32))
  else
  ((f_X2_margin_29 p1 p2 p3 f).bind fun q4 =>
  if 0 ≤ q4 then
  (if q4 < (5 : Int32) then
  (some (1 : Int32))
  else
  ((f_X7_get 6 6 p2 f).bind fun q6 =>
  some ((2 : Int32) + q6)))
  else
  (some (0 : Int32)))))
def f_X11_swear_b74s (K74 : Int32 → Int32 → Int32 → (Nat → Nat → Int32) → Option (Nat → Nat → Int32)) (i1 : Int32) (i2 : Int32) (i3 : Int32) (f : Nat → Nat → Int32) : Option (Nat → Nat → Int32) :=
  if (f 3 3) ≤ i3 then
  (some f)
  else
  ((f_X2_saying_29 i3 i1 i2 f).bind fun q18 =>
  (f_X8_put_18 ((21 : Int32) + i3) q18 f).bind fun q20 =>
  K74 i1 i2 (i3 + (1 : Int32)) q20)
def f_X11_swear_b74 : Nat → Int32 → Int32 → Int32 → (Nat → Nat → Int32) → Option (Nat → Nat → Int32)
  | 0 => fun _ _ _ _ => none
  | n + 1 => fun i1 i2 i3 f => f_X11_swear_b74s (f_X11_swear_b74 n) i1 i2 i3 f
def f_X11_swear (p1 : Int32) (p2 : Int32) (f : Nat → Nat → Int32) : Option (Nat → Nat → Int32) :=
  (f_X8_get_18 (1 : Int32) f).bind fun q2 =>
  (f_X8_put_18 (1 : Int32) (q2 + (1 : Int32)) f).bind fun q4 =>
  (f_X8_put_18 (2 : Int32) p1 q4).bind fun q6 =>
  (f_X8_put_18 (3 : Int32) p2 q6).bind fun q8 =>
  (f_X2_hearers_29 p1 p2 (0 : Int32) q8).bind fun q10 =>
  (f_X8_put_18 (4 : Int32) q10 q8).bind fun q12 =>
  (f_X2_hearers_29 p1 p2 (5 : Int32) q12).bind fun q14 =>
  (f_X8_put_18 (5 : Int32) q14 q12).bind fun q16 =>
  f_X11_swear_b74 fuB p1 p2 (0 : Int32) q16
def f_X11_morning_b22 (f : Nat → Nat → Int32) : Option (Int32 × (Nat → Nat → Int32)) :=
  some ((-1000000001 : Int32), f)
def f_X11_morning (p1 : Int32) (p2 : Int32) (f : Nat → Nat → Int32) : Option (Int32 × (Nat → Nat → Int32)) :=
  (f_X5_isSound_3 p1 f).bind fun q2 =>
  if q2 = 0 then
  (f_X11_morning_b22 f)
  else
  ((f_X5_isPlace_3 p2 f).bind fun q4 =>
  if q4 = 0 then
  (f_X11_morning_b22 f)
  else
  ((f_X11_isFullOfMornings f).bind fun q6 =>
  if q6 = 0 then
  ((f_X4_push_20_18 f).bind fun q8 =>
  (f_X11_swear p1 p2 q8).bind fun q10 =>
  (f_X8_get_18 (4 : Int32) q10).bind fun q12 =>
  some (q12, q10))
  else
  (some ((-1000000004 : Int32), f))))
def f_X11_change (p1 : Int32) (p2 : Int32) (f : Nat → Nat → Int32) : Option (Int32 × (Nat → Nat → Int32)) :=
  (f_X8_get_18 p1 f).bind fun q2 =>
  (f_X4_push_20_18 f).bind fun q4 =>
  (f_X8_put_18 p1 p2 q4).bind fun q6 =>
  some (q2, q6)
def f_X11_move_b22 (f : Nat → Nat → Int32) : Option (Int32 × (Nat → Nat → Int32)) :=
  some ((-1000000001 : Int32), f)
def f_X11_move (p1 : Int32) (p2 : Int32) (f : Nat → Nat → Int32) : Option (Int32 × (Nat → Nat → Int32)) :=
  (f_X5_isWitness_3 p1 f).bind fun q2 =>
  if q2 = 0 then
  (f_X11_move_b22 f)
  else
  ((f_X5_isPlace_3 p2 f).bind fun q4 =>
  if q4 = 0 then
  (f_X11_move_b22 f)
  else
  ((f_X11_change ((14 : Int32) + p1) p2 f).bind fun q6 =>
  some (q6.1, q6.2)))
def f_X11_wall (p1 : Int32) (p2 : Int32) (f : Nat → Nat → Int32) : Option (Int32 × (Nat → Nat → Int32)) :=
  (f_X5_isWall_3 p1 f).bind fun q2 =>
  if q2 = 0 then
  (some ((-1000000001 : Int32), f))
  else
  ((f_X11_isOutside p2 (20 : Int32) f).bind fun q4 =>
  if q4 = 0 then
  ((f_X11_change ((6 : Int32) + p1) p2 f).bind fun q6 =>
  some (q6.1, q6.2))
  else
  (some ((-1000000002 : Int32), f)))
def f_X5_stands_3 (f : Nat → Nat → Int32) : Option Int32 :=
  if (f 3 0) ≤ 0 then
  (some (0 : Int32))
  else
  (some (1 : Int32))
def f_X11_wind (p1 : Int32) (f : Nat → Nat → Int32) : Option (Int32 × (Nat → Nat → Int32)) :=
  (f_X11_isOutside p1 (18 : Int32) f).bind fun q2 =>
  if q2 = 0 then
  ((f_X5_stands_3 f).bind fun q4 =>
  if q4 = 0 then
  (some ((-1000000003 : Int32), f))
  else
  ((f_X11_change (0 : Int32) (p1 - (9 : Int32)) f).bind fun q6 =>
  some (q6.1 + (9 : Int32), q6.2)))
  else
  (some ((-1000000002 : Int32), f))
def f_X11_draw (p1 : Int32) (f : Nat → Nat → Int32) : Option (Int32 × (Nat → Nat → Int32)) :=
  if 0 < p1 then
  (dz p1 <|
  some ((((su f 0 5 ((((((f 0 5).toInt64) * (1103515245 : Int64)) + (12345 : Int64)) - ((((f 0 5).toInt64) * (1103515245 : Int64)) + (12345 : Int64)) / (2147483648 : Int64) * (2147483648 : Int64)).toInt32)) 0 5) / (65536 : Int32)) - (((su f 0 5 ((((((f 0 5).toInt64) * (1103515245 : Int64)) + (12345 : Int64)) - ((((f 0 5).toInt64) * (1103515245 : Int64)) + (12345 : Int64)) / (2147483648 : Int64) * (2147483648 : Int64)).toInt32)) 0 5) / (65536 : Int32)) / p1 * p1, su f 0 5 ((((((f 0 5).toInt64) * (1103515245 : Int64)) + (12345 : Int64)) - ((((f 0 5).toInt64) * (1103515245 : Int64)) + (12345 : Int64)) / (2147483648 : Int64) * (2147483648 : Int64)).toInt32)))
  else
  (some ((0 : Int32), f))
def f_X11_drift_b11 (f : Nat → Nat → Int32) : Option (Int32 × (Nat → Nat → Int32)) :=
  some ((-1000000002 : Int32), f)
def f_X11_drift_b118 (f : Nat → Nat → Int32) : Option (Int32 × (Nat → Nat → Int32)) :=
  (f_X8_get_18 (4 : Int32) f).bind fun q8 =>
  some (q8, f)
def f_X11_drift_b50s (K50 : Int32 → Int32 → (Nat → Nat → Int32) → Option (Int32 × (Nat → Nat → Int32))) (i1 : Int32) (i2 : Int32) (f : Nat → Nat → Int32) : Option (Int32 × (Nat → Nat → Int32)) :=
  if i1 ≤ i2 then
  (f_X11_drift_b118 f)
  else
  (if (f 3 2) ≤ 0 then
  (f_X11_drift_b118 f)
  else
  ((f_X11_draw (f 3 2) f).bind fun q10 =>
  (f_X5_places_3 q10.2).bind fun q12 =>
  (f_X11_draw q12 q10.2).bind fun q14 =>
  (f_X11_swear q10.1 q14.1 q14.2).bind fun q16 =>
  (f_X11_draw (5 : Int32) q16).bind fun q18 =>
  (f_X8_put_18 (0 : Int32) (q18.1 - (2 : Int32)) q18.2).bind fun q20 =>
  K50 i1 (i2 + (1 : Int32)) q20))
def f_X11_drift_b50 : Nat → Int32 → Int32 → (Nat → Nat → Int32) → Option (Int32 × (Nat → Nat → Int32))
  | 0 => fun _ _ _ => none
  | n + 1 => fun i1 i2 f => f_X11_drift_b50s (f_X11_drift_b50 n) i1 i2 f
def f_X11_drift (p1 : Int32) (f : Nat → Nat → Int32) : Option (Int32 × (Nat → Nat → Int32)) :=
  if p1 < (1 : Int32) then
  (f_X11_drift_b11 f)
  else
  (if p1 ≤ (60 : Int32) then
  ((f_X5_stands_3 f).bind fun q2 =>
  if q2 = 0 then
  (some ((-1000000003 : Int32), f))
  else
  ((f_X11_isFullOfMornings f).bind fun q4 =>
  if q4 = 0 then
  ((f_X4_push_20_18 f).bind fun q6 =>
  f_X11_drift_b50 fuB p1 (0 : Int32) q6)
  else
  (some ((-1000000004 : Int32), f))))
  else
  (f_X11_drift_b11 f))
def f_X4_pop_20_18_b28 (s1 : Int32) (f : Nat → Nat → Int32) : Option (Int32 × (Nat → Nat → Int32)) :=
  (f_X7_copy 21 560 19 28 (((su (su f 20 1 s1) 20 2 (((su f 20 1 s1) 20 2) - (1 : Int32))) 20 1) * (28 : Int32)) (0 : Int32) (28 : Int32) (su (su f 20 1 s1) 20 2 (((su f 20 1 s1) 20 2) - (1 : Int32)))).bind fun q2 =>
  some ((1 : Int32), q2)
def f_X4_pop_20_18 (f : Nat → Nat → Int32) : Option (Int32 × (Nat → Nat → Int32)) :=
  if 0 < (f 20 2) then
  (if (f 20 1) ≤ 0 then
  (f_X4_pop_20_18_b28 (19 : Int32) f)
  else
  (f_X4_pop_20_18_b28 ((f 20 1) - (1 : Int32)) f))
  else
  (some ((0 : Int32), f))
def f_X11_undo (f : Nat → Nat → Int32) : Option (Int32 × (Nat → Nat → Int32)) :=
  (f_X4_pop_20_18 f).bind fun q2 =>
  if q2.1 = 0 then
  (some ((-1000000003 : Int32), q2.2))
  else
  (some (q2.2 20 2, q2.2))
def f_X11_comes_b33 (f : Nat → Nat → Int32) : Option Int32 :=
  some (-1000000001 : Int32)
def f_X11_comes (p1 : Int32) (p2 : Int32) (p3 : Int32) (f : Nat → Nat → Int32) : Option Int32 :=
  (f_X5_isSound_3 p1 f).bind fun q2 =>
  if q2 = 0 then
  (f_X11_comes_b33  f)
  else
  ((f_X5_isPlace_3 p2 f).bind fun q4 =>
  if q4 = 0 then
  (f_X11_comes_b33  f)
  else
  ((f_X5_isPlace_3 p3 f).bind fun q6 =>
  if q6 = 0 then
  (f_X11_comes_b33  f)
  else
  ((f_X2_loudness_29 p1 p2 p3 f).bind fun q8 =>
  some (q8 + (1000 : Int32)))))
def f_X11_says_b33 (f : Nat → Nat → Int32) : Option Int32 :=
  some (-1000000001 : Int32)
def f_X11_says (p1 : Int32) (p2 : Int32) (p3 : Int32) (f : Nat → Nat → Int32) : Option Int32 :=
  (f_X5_isWitness_3 p1 f).bind fun q2 =>
  if q2 = 0 then
  (f_X11_says_b33  f)
  else
  ((f_X5_isSound_3 p2 f).bind fun q4 =>
  if q4 = 0 then
  (f_X11_says_b33  f)
  else
  ((f_X5_isPlace_3 p3 f).bind fun q6 =>
  if q6 = 0 then
  (f_X11_says_b33  f)
  else
  ((f_X2_saying_29 p1 p2 p3 f).bind fun q8 =>
  some q8)))
def f_X10_listeners_30_b42 (K6 : Int32 → Int32 → Int32 → Int32 → Int32 → Option Int32) (i1 : Int32) (i2 : Int32) (i3 : Int32) (i4 : Int32) (i5 : Int32) (f : Nat → Nat → Int32) : Option Int32 :=
  K6 i1 i2 i3 i4 (i5 + (1 : Int32))
def f_X10_listeners_30_b6s (K6 : Int32 → Int32 → Int32 → Int32 → Int32 → Option Int32) (i1 : Int32) (i2 : Int32) (i3 : Int32) (i4 : Int32) (i5 : Int32) (f : Nat → Nat → Int32) : Option Int32 :=
  (f_X5_places_3 f).bind fun q2 =>
  if q2 ≤ i5 then
  (some i4)
  else
  ((f_X2_loudness_29 i1 i2 i5 f).bind fun q4 =>
  if q4 < i3 then
  (f_X10_listeners_30_b42 K6 i1 i2 i3 i4 i5 f)
  else
  (nm (i4 ||| ((1 : Int32) <<< (i5 &&& 31))) fun v4_40 =>
  f_X10_listeners_30_b42 K6 i1 i2 i3 v4_40 i5 f))
def f_X10_listeners_30_b6 : Nat → Int32 → Int32 → Int32 → Int32 → Int32 → (Nat → Nat → Int32) → Option Int32
  | 0 => fun _ _ _ _ _ _ => none
  | n + 1 => fun i1 i2 i3 i4 i5 f => f_X10_listeners_30_b6s (fun i1 i2 i3 i4 i5 => f_X10_listeners_30_b6 n i1 i2 i3 i4 i5 f) i1 i2 i3 i4 i5 f
def f_X10_listeners_30 (p1 : Int32) (p2 : Int32) (p3 : Int32) (f : Nat → Nat → Int32) : Option Int32 :=
  f_X10_listeners_30_b6 fuB p1 p2 p3 (0 : Int32) (0 : Int32) f
def f_X11_listen_b22 (f : Nat → Nat → Int32) : Option Int32 :=
  some (-1000000001 : Int32)
def f_X11_listen (p1 : Int32) (p2 : Int32) (p3 : Int32) (f : Nat → Nat → Int32) : Option Int32 :=
  (f_X5_isSound_3 p1 f).bind fun q2 =>
  if q2 = 0 then
  (f_X11_listen_b22  f)
  else
  ((f_X5_isPlace_3 p2 f).bind fun q4 =>
  if q4 = 0 then
  (f_X11_listen_b22  f)
  else
  ((f_X11_isOutside p3 (30 : Int32) f).bind fun q6 =>
  if q6 = 0 then
  ((f_X10_listeners_30 p1 p2 p3 f).bind fun q8 =>
  some q8)
  else
  (some (-1000000002 : Int32))))
def f_X10_unheard_30_b34 (K4 : Int32 → Int32 → Int32 → Option Int32) (i1 : Int32) (i2 : Int32) (i3 : Int32) (f : Nat → Nat → Int32) : Option Int32 :=
  K4 i1 i2 (i3 + (1 : Int32))
def f_X10_unheard_30_b4s (K4 : Int32 → Int32 → Int32 → Option Int32) (i1 : Int32) (i2 : Int32) (i3 : Int32) (f : Nat → Nat → Int32) : Option Int32 :=
  (f_X5_places_3 f).bind fun q2 =>
  if q2 ≤ i3 then
  (some i2)
  else
  ((f_X2_hearers_29 i1 i3 (0 : Int32) f).bind fun q4 =>
  if q4 = 0 then
  (nm (i2 ||| ((1 : Int32) <<< (i3 &&& 31))) fun v2_33 =>
  f_X10_unheard_30_b34 K4 i1 v2_33 i3 f)
  else
  (f_X10_unheard_30_b34 K4 i1 i2 i3 f))
def f_X10_unheard_30_b4 : Nat → Int32 → Int32 → Int32 → (Nat → Nat → Int32) → Option Int32
  | 0 => fun _ _ _ _ => none
  | n + 1 => fun i1 i2 i3 f => f_X10_unheard_30_b4s (fun i1 i2 i3 => f_X10_unheard_30_b4 n i1 i2 i3 f) i1 i2 i3 f
def f_X10_unheard_30 (p1 : Int32) (f : Nat → Nat → Int32) : Option Int32 :=
  f_X10_unheard_30_b4 fuB p1 (0 : Int32) (0 : Int32) f
def f_X11_deaf (p1 : Int32) (f : Nat → Nat → Int32) : Option Int32 :=
  (f_X5_isSound_3 p1 f).bind fun q2 =>
  if q2 = 0 then
  (some (-1000000001 : Int32))
  else
  ((f_X10_unheard_30 p1 f).bind fun q4 =>
  some q4)
def f_X5_arePlaces_3 (p1 : Int32) (f : Nat → Nat → Int32) : Option Int32 :=
  if p1 < 0 then
  (some (0 : Int32))
  else
  ((f_X5_places_3 f).bind fun q2 =>
  if ((1 : Int32) <<< (q2 &&& 31)) ≤ p1 then
  (some (0 : Int32))
  else
  (some (1 : Int32)))
def f_X10_coverAll_30_b36 (K2 : Int32 → Int32 → Int32 → Option Int32) (i1 : Int32) (i2 : Int32) (i3 : Int32) (f : Nat → Nat → Int32) : Option Int32 :=
  K2 i1 i2 (i3 + (1 : Int32))
def f_X10_coverAll_30_b2s (K2 : Int32 → Int32 → Int32 → Option Int32) (i1 : Int32) (i2 : Int32) (i3 : Int32) (f : Nat → Nat → Int32) : Option Int32 :=
  (f_X5_places_3 f).bind fun q2 =>
  if q2 ≤ i3 then
  (some (1 : Int32))
  else
  (if ((i2 >>> (i3 &&& 31)) &&& (1 : Int32)) = 0 then
  (f_X10_coverAll_30_b36 K2 i1 i2 i3 f)
  else
  ((f_X7_get 31 9 i3 f).bind fun q4 =>
  if (i1 &&& q4) = 0 then
  (some (0 : Int32))
  else
  (f_X10_coverAll_30_b36 K2 i1 i2 i3 f)))
def f_X10_coverAll_30_b2 : Nat → Int32 → Int32 → Int32 → (Nat → Nat → Int32) → Option Int32
  | 0 => fun _ _ _ _ => none
  | n + 1 => fun i1 i2 i3 f => f_X10_coverAll_30_b2s (fun i1 i2 i3 => f_X10_coverAll_30_b2 n i1 i2 i3 f) i1 i2 i3 f
def f_X10_coverAll_30 (p1 : Int32) (p2 : Int32) (f : Nat → Nat → Int32) : Option Int32 :=
  f_X10_coverAll_30_b2 fuB p1 p2 (0 : Int32) f
def f_J6_bitCount_0f7a4 (p0 : Int32) (f : Nat → Nat → Int32) : Option Int32 :=
  nm (p0 - (((p0.toUInt32 >>> ((1 : Int32).toUInt32 &&& Int32.toUInt32 31)).toInt32) &&& (1431655765 : Int32))) fun v0_9 =>
  nm ((v0_9 &&& (858993459 : Int32)) + (((v0_9.toUInt32 >>> ((2 : Int32).toUInt32 &&& Int32.toUInt32 31)).toInt32) &&& (858993459 : Int32))) fun v0_23 =>
  nm ((v0_23 + ((v0_23.toUInt32 >>> ((4 : Int32).toUInt32 &&& Int32.toUInt32 31)).toInt32)) &&& (252645135 : Int32)) fun v0_33 =>
  nm (v0_33 + ((v0_33.toUInt32 >>> ((8 : Int32).toUInt32 &&& Int32.toUInt32 31)).toInt32)) fun v0_40 =>
  nm (v0_40 + ((v0_40.toUInt32 >>> ((16 : Int32).toUInt32 &&& Int32.toUInt32 31)).toInt32)) fun v0_47 =>
  some (v0_47 &&& (63 : Int32))
def f_X10_fewestEars_30_b103 (K44 : Int32 → Int32 → Int32 → (Nat → Nat → Int32) → Option (Int32 × (Nat → Nat → Int32))) (i2 : Int32) (i4 : Int32) (i5 : Int32) (f : Nat → Nat → Int32) : Option (Int32 × (Nat → Nat → Int32)) :=
  K44 i2 i4 (i5 + (1 : Int32)) f
def f_X10_fewestEars_30_b82 (K44 : Int32 → Int32 → Int32 → (Nat → Nat → Int32) → Option (Int32 × (Nat → Nat → Int32))) (i2 : Int32) (i4 : Int32) (i5 : Int32) (s0 : Int32) (f : Nat → Nat → Int32) : Option (Int32 × (Nat → Nat → Int32)) :=
  if s0 = 0 then
  (f_X10_fewestEars_30_b103 K44 i2 i4 i5 f)
  else
  ((f_X10_coverAll_30 i5 i2 f).bind fun q6 =>
  if q6 = 0 then
  (f_X10_fewestEars_30_b103 K44 i2 i4 i5 f)
  else
  (f_X10_fewestEars_30_b103 K44 i2 i5 i5 f))
def f_X10_fewestEars_30_b77 (K44 : Int32 → Int32 → Int32 → (Nat → Nat → Int32) → Option (Int32 × (Nat → Nat → Int32))) (i2 : Int32) (i4 : Int32) (i5 : Int32) (f : Nat → Nat → Int32) : Option (Int32 × (Nat → Nat → Int32)) :=
  f_X10_fewestEars_30_b82 K44 i2 i4 i5 (1 : Int32) f
def f_X10_fewestEars_30_b44s (K44 : Int32 → Int32 → Int32 → (Nat → Nat → Int32) → Option (Int32 × (Nat → Nat → Int32))) (i2 : Int32) (i4 : Int32) (i5 : Int32) (f : Nat → Nat → Int32) : Option (Int32 × (Nat → Nat → Int32)) :=
  (f_X5_places_3 f).bind fun q4 =>
  if ((1 : Int32) <<< (q4 &&& 31)) ≤ i5 then
  (some (i4, f))
  else
  (if i4 = (-1 : Int32) then
  (f_X10_fewestEars_30_b77 K44 i2 i4 i5 f)
  else
  ((f_J6_bitCount_0f7a4 i5 f).bind fun q10 =>
  (f_J6_bitCount_0f7a4 i4 f).bind fun q12 =>
  if q12 ≤ q10 then
  (f_X10_fewestEars_30_b82 K44 i2 i4 i5 (0 : Int32) f)
  else
  (f_X10_fewestEars_30_b77 K44 i2 i4 i5 f)))
def f_X10_fewestEars_30_b44 : Nat → Int32 → Int32 → Int32 → (Nat → Nat → Int32) → Option (Int32 × (Nat → Nat → Int32))
  | 0 => fun _ _ _ _ => none
  | n + 1 => fun i2 i4 i5 f => f_X10_fewestEars_30_b44s (f_X10_fewestEars_30_b44 n) i2 i4 i5 f
def f_X10_fewestEars_30_b3s (K3 : Int32 → Int32 → Int32 → Int32 → (Nat → Nat → Int32) → Option (Int32 × (Nat → Nat → Int32))) (i1 : Int32) (i2 : Int32) (i3 : Int32) (i4 : Int32) (f : Nat → Nat → Int32) : Option (Int32 × (Nat → Nat → Int32)) :=
  (f_X5_places_3 f).bind fun q2 =>
  if q2 ≤ i4 then
  (f_X10_fewestEars_30_b44 fuB i2 (-1 : Int32) (0 : Int32) f)
  else
  ((f_X10_listeners_30 i1 i4 i3 f).bind fun q17 =>
  (f_X7_put 31 9 i4 q17 f).bind fun q19 =>
  K3 i1 i2 i3 (i4 + (1 : Int32)) q19)
def f_X10_fewestEars_30_b3 : Nat → Int32 → Int32 → Int32 → Int32 → (Nat → Nat → Int32) → Option (Int32 × (Nat → Nat → Int32))
  | 0 => fun _ _ _ _ _ => none
  | n + 1 => fun i1 i2 i3 i4 f => f_X10_fewestEars_30_b3s (f_X10_fewestEars_30_b3 n) i1 i2 i3 i4 f
def f_X10_fewestEars_30 (p1 : Int32) (p2 : Int32) (p3 : Int32) (f : Nat → Nat → Int32) : Option (Int32 × (Nat → Nat → Int32)) :=
  f_X10_fewestEars_30_b3 fuB p1 p2 p3 (0 : Int32) f
def f_X11_ears_b22 (f : Nat → Nat → Int32) : Option (Int32 × (Nat → Nat → Int32)) :=
  some ((-1000000001 : Int32), f)
def f_X11_ears (p1 : Int32) (p2 : Int32) (p3 : Int32) (f : Nat → Nat → Int32) : Option (Int32 × (Nat → Nat → Int32)) :=
  (f_X5_isSound_3 p1 f).bind fun q2 =>
  if q2 = 0 then
  (f_X11_ears_b22 f)
  else
  ((f_X5_arePlaces_3 p2 f).bind fun q4 =>
  if q4 = 0 then
  (f_X11_ears_b22 f)
  else
  ((f_X11_isOutside p3 (30 : Int32) f).bind fun q6 =>
  if q6 = 0 then
  ((f_X10_fewestEars_30 p1 p2 p3 f).bind fun q8 =>
  some (q8.1, q8.2))
  else
  (some ((-1000000002 : Int32), f))))
def f_X10_areAlike_30_b3s (K3 : Int32 → Int32 → Int32 → Int32 → Option Int32) (i1 : Int32) (i2 : Int32) (i3 : Int32) (i4 : Int32) (f : Nat → Nat → Int32) : Option Int32 :=
  if (f 3 3) ≤ i4 then
  (some (1 : Int32))
  else
  ((f_X2_saying_29 i4 i1 i3 f).bind fun q2 =>
  (f_X2_saying_29 i4 i2 i3 f).bind fun q4 =>
  if q2 = q4 then
  (K3 i1 i2 i3 (i4 + (1 : Int32)))
  else
  (some (0 : Int32)))
def f_X10_areAlike_30_b3 : Nat → Int32 → Int32 → Int32 → Int32 → (Nat → Nat → Int32) → Option Int32
  | 0 => fun _ _ _ _ _ => none
  | n + 1 => fun i1 i2 i3 i4 f => f_X10_areAlike_30_b3s (fun i1 i2 i3 i4 => f_X10_areAlike_30_b3 n i1 i2 i3 i4 f) i1 i2 i3 i4 f
def f_X10_areAlike_30 (p1 : Int32) (p2 : Int32) (p3 : Int32) (f : Nat → Nat → Int32) : Option Int32 :=
  f_X10_areAlike_30_b3 fuB p1 p2 p3 (0 : Int32) f
def f_X10_alikePair_30_b67 (K5 : Int32 → Int32 → Int32 → Int32 → Option Int32) (K23 : Int32 → Int32 → Int32 → Int32 → Int32 → Option Int32) (i1 : Int32) (i2 : Int32) (i3 : Int32) (i4 : Int32) (i5 : Int32) (f : Nat → Nat → Int32) : Option Int32 :=
  K23 i1 i2 i3 i4 (i5 + (1 : Int32))
def f_X10_alikePair_30_b23s (K23 : Int32 → Int32 → Int32 → Int32 → Int32 → Option Int32) (K5 : Int32 → Int32 → Int32 → Int32 → Option Int32) (i1 : Int32) (i2 : Int32) (i3 : Int32) (i4 : Int32) (i5 : Int32) (f : Nat → Nat → Int32) : Option Int32 :=
  if (f 3 2) ≤ i5 then
  (K5 i1 i2 i3 (i4 + (1 : Int32)))
  else
  ((f_X10_areAlike_30 i4 i5 i1 f).bind fun q3 =>
  if q3 = 0 then
  (f_X10_alikePair_30_b67 K5 K23 i1 i2 i3 i4 i5 f)
  else
  (if i3 = i2 then
  (some (((10 : Int32) * i4) + i5))
  else
  (f_X10_alikePair_30_b67 K5 K23 i1 i2 (i3 + (1 : Int32)) i4 i5 f)))
def f_X10_alikePair_30_b23 (K5 : Int32 → Int32 → Int32 → Int32 → Option Int32) : Nat → Int32 → Int32 → Int32 → Int32 → Int32 → (Nat → Nat → Int32) → Option Int32
  | 0 => fun _ _ _ _ _ _ => none
  | n + 1 => fun i1 i2 i3 i4 i5 f => f_X10_alikePair_30_b23s (fun i1 i2 i3 i4 i5 => f_X10_alikePair_30_b23 K5 n i1 i2 i3 i4 i5 f) K5 i1 i2 i3 i4 i5 f
def f_X10_alikePair_30_b5s (K5 : Int32 → Int32 → Int32 → Int32 → Option Int32) (i1 : Int32) (i2 : Int32) (i3 : Int32) (i4 : Int32) (f : Nat → Nat → Int32) : Option Int32 :=
  if (f 3 2) ≤ i4 then
  (if i2 = (-1 : Int32) then
  (some i3)
  else
  (some (-1 : Int32)))
  else
  (f_X10_alikePair_30_b23 K5 fuB i1 i2 i3 i4 (i4 + (1 : Int32)) f)
def f_X10_alikePair_30_b5 : Nat → Int32 → Int32 → Int32 → Int32 → (Nat → Nat → Int32) → Option Int32
  | 0 => fun _ _ _ _ _ => none
  | n + 1 => fun i1 i2 i3 i4 f => f_X10_alikePair_30_b5s (fun i1 i2 i3 i4 => f_X10_alikePair_30_b5 n i1 i2 i3 i4 f) i1 i2 i3 i4 f
def f_X10_alikePair_30 (p1 : Int32) (p2 : Int32) (f : Nat → Nat → Int32) : Option Int32 :=
  f_X10_alikePair_30_b5 fuB p1 p2 (0 : Int32) (0 : Int32) f
def f_X11_alike (p1 : Int32) (p2 : Int32) (f : Nat → Nat → Int32) : Option Int32 :=
  (f_X5_isPlace_3 p1 f).bind fun q2 =>
  if q2 = 0 then
  (some (-1000000001 : Int32))
  else
  ((f_X10_alikePair_30 p1 p2 f).bind fun q4 =>
  some q4)
def f_X10_hidingThickness_30_b110 (K6 : Int32 → Int32 → Int32 → Int32 → Int32 → Option Int32) (i1 : Int32) (i2 : Int32) (i3 : Int32) (i4 : Int32) (i5 : Int32) (f : Nat → Nat → Int32) : Option Int32 :=
  K6 i1 i2 i3 i4 (i5 + (1 : Int32))
def f_X10_hidingThickness_30_b70 (K6 : Int32 → Int32 → Int32 → Int32 → Int32 → Option Int32) (i1 : Int32) (i2 : Int32) (i3 : Int32) (i4 : Int32) (i5 : Int32) (i6 : Int32) (s0 : Int32) (f : Nat → Nat → Int32) : Option Int32 :=
  if s0 = 0 then
  (if i6 < 0 then
  (f_X10_hidingThickness_30_b110 K6 i1 i2 i3 i4 i5 f)
  else
  (some (-1 : Int32)))
  else
  ((f_X8_get_18 ((6 : Int32) + i1) f).bind fun q8 =>
  nm (jmax i4 ((i6 + q8) + (1 : Int32))) fun v4_98 =>
  f_X10_hidingThickness_30_b110 K6 i1 i2 i3 v4_98 i5 f)
def f_X10_hidingThickness_30_b69 (K6 : Int32 → Int32 → Int32 → Int32 → Int32 → Option Int32) (i1 : Int32) (i2 : Int32) (i3 : Int32) (i4 : Int32) (i5 : Int32) (i6 : Int32) (f : Nat → Nat → Int32) : Option Int32 :=
  f_X10_hidingThickness_30_b70 K6 i1 i2 i3 i4 i5 i6 (0 : Int32) f
def f_X10_hidingThickness_30_b6s (K6 : Int32 → Int32 → Int32 → Int32 → Int32 → Option Int32) (i1 : Int32) (i2 : Int32) (i3 : Int32) (i4 : Int32) (i5 : Int32) (f : Nat → Nat → Int32) : Option Int32 :=
  if (f 3 3) ≤ i5 then
  (if i4 ≤ (99 : Int32) then
  (some i4)
  else
  (some (-1 : Int32)))
  else
  ((f_X2_margin_29 i5 i2 i3 f).bind fun q3 =>
  (f_X8_get_18 ((14 : Int32) + i5) f).bind fun q5 =>
  if i1 < (jmin i3 q5) then
  (f_X10_hidingThickness_30_b69 K6 i1 i2 i3 i4 i5 q3 f)
  else
  (if (jmax i3 q5) ≤ i1 then
  (f_X10_hidingThickness_30_b69 K6 i1 i2 i3 i4 i5 q3 f)
  else
  (f_X10_hidingThickness_30_b70 K6 i1 i2 i3 i4 i5 q3 (1 : Int32) f)))
def f_X10_hidingThickness_30_b6 : Nat → Int32 → Int32 → Int32 → Int32 → Int32 → (Nat → Nat → Int32) → Option Int32
  | 0 => fun _ _ _ _ _ _ => none
  | n + 1 => fun i1 i2 i3 i4 i5 f => f_X10_hidingThickness_30_b6s (fun i1 i2 i3 i4 i5 => f_X10_hidingThickness_30_b6 n i1 i2 i3 i4 i5 f) i1 i2 i3 i4 i5 f
def f_X10_hidingThickness_30 (p1 : Int32) (p2 : Int32) (p3 : Int32) (f : Nat → Nat → Int32) : Option Int32 :=
  f_X10_hidingThickness_30_b6 fuB p1 p2 p3 (0 : Int32) (0 : Int32) f
def f_X11_hides_b33 (f : Nat → Nat → Int32) : Option Int32 :=
  some (-1000000001 : Int32)
def f_X11_hides (p1 : Int32) (p2 : Int32) (p3 : Int32) (f : Nat → Nat → Int32) : Option Int32 :=
  (f_X5_isWall_3 p1 f).bind fun q2 =>
  if q2 = 0 then
  (f_X11_hides_b33  f)
  else
  ((f_X5_isSound_3 p2 f).bind fun q4 =>
  if q4 = 0 then
  (f_X11_hides_b33  f)
  else
  ((f_X5_isPlace_3 p3 f).bind fun q6 =>
  if q6 = 0 then
  (f_X11_hides_b33  f)
  else
  ((f_X10_hidingThickness_30 p1 p2 p3 f).bind fun q8 =>
  some q8)))
def f_X11_midwife_b41 (f : Nat → Nat → Int32) : Option Int32 :=
  some (-1000000002 : Int32)
def f_X11_midwife (p1 : Int32) (p2 : Int32) (p3 : Int32) (p4 : Int32) (p5 : Int32) (f : Nat → Nat → Int32) : Option Int32 :=
  (f_X11_isOutside p2 (9999 : Int32) f).bind fun q2 =>
  if q2 = 0 then
  ((f_X11_isOutside p3 (9999 : Int32) f).bind fun q4 =>
  if q4 = 0 then
  ((f_X11_isOutside p4 (9999 : Int32) f).bind fun q6 =>
  if q6 = 0 then
  ((f_X11_isOutside p5 (100 : Int32) f).bind fun q8 =>
  if q8 = 0 then
  (if p1 = 0 then
  (if (p2 - ((p4 * p5) / (100 : Int32))) ≤ p3 then
  (some (0 : Int32))
  else
  (some (1 : Int32)))
  else
  (if (p3 - ((p4 * p5) / (100 : Int32))) ≤ p2 then
  (some (1 : Int32))
  else
  (some (0 : Int32))))
  else
  (f_X11_midwife_b41  f))
  else
  (f_X11_midwife_b41  f))
  else
  (f_X11_midwife_b41  f))
  else
  (f_X11_midwife_b41  f)
def f_X11_bargain_b38 (f : Nat → Nat → Int32) : Option Int32 :=
  some (-1000000002 : Int32)
def f_X11_bargain (p1 : Int32) (p2 : Int32) (p3 : Int32) (p4 : Int32) (f : Nat → Nat → Int32) : Option Int32 :=
  (f_X11_isOutside p1 (9999 : Int32) f).bind fun q2 =>
  if q2 = 0 then
  ((f_X11_isOutside p2 (1000000 : Int32) f).bind fun q4 =>
  if q4 = 0 then
  ((f_X11_isOutside p3 (999 : Int32) f).bind fun q6 =>
  if q6 = 0 then
  ((f_X11_isOutside p4 (1 : Int32) f).bind fun q8 =>
  if q8 = 0 then
  (nm ((p1.toInt64 * p2.toInt64) / (1000000 : Int64)) fun v5_50 =>
  nm (jmax (v5_50.toInt32 - p3) (0 : Int32)) fun v7_61 =>
  if p4 = 0 then
  (some v7_61)
  else
  (some (jmin (v7_61 + ((2 : Int32) * p3)) p1)))
  else
  (f_X11_bargain_b38  f))
  else
  (f_X11_bargain_b38  f))
  else
  (f_X11_bargain_b38  f))
  else
  (f_X11_bargain_b38  f)
def f_X10_oddsOfHearing_30_b24s (K24 : Int32 → Int32 → Int32 → Int32 → Option Int32) (i1 : Int32) (i2 : Int32) (i3 : Int32) (i4 : Int32) (f : Nat → Nat → Int32) : Option Int32 :=
  if (f 3 2) ≤ i4 then
  (dz i2 <|
  some ((i3 * (1000000 : Int32)) / i2))
  else
  ((f_X10_unheard_30 i4 f).bind fun q5 =>
  (f_J6_bitCount_0f7a4 (i1 &&& (q5 ^^^ (-1 : Int32))) f).bind fun q7 =>
  K24 i1 i2 (i3 + q7) (i4 + (1 : Int32)))
def f_X10_oddsOfHearing_30_b24 : Nat → Int32 → Int32 → Int32 → Int32 → (Nat → Nat → Int32) → Option Int32
  | 0 => fun _ _ _ _ _ => none
  | n + 1 => fun i1 i2 i3 i4 f => f_X10_oddsOfHearing_30_b24s (fun i1 i2 i3 i4 => f_X10_oddsOfHearing_30_b24 n i1 i2 i3 i4 f) i1 i2 i3 i4 f
def f_X10_oddsOfHearing_30 (p1 : Int32) (f : Nat → Nat → Int32) : Option Int32 :=
  (f_J6_bitCount_0f7a4 p1 f).bind fun q2 =>
  if 0 < ((f 3 2) * q2) then
  (f_X10_oddsOfHearing_30_b24 fuB p1 ((f 3 2) * q2) (0 : Int32) (0 : Int32) f)
  else
  (some (0 : Int32))
def f_X11_found (p1 : Int32) (f : Nat → Nat → Int32) : Option Int32 :=
  (f_X5_arePlaces_3 p1 f).bind fun q2 =>
  if q2 = 0 then
  (some (-1000000001 : Int32))
  else
  ((f_X10_oddsOfHearing_30 p1 f).bind fun q4 =>
  some q4)
def f_X1_add_32 (p1 : Int32) (p2 : Int32) (f : Nat → Nat → Int32) : Option (Int32 × (Nat → Nat → Int32)) :=
  if (f 32 4) < (8 : Int32) then
  ((f_X7_put 33 8 (f 32 4) p1 f).bind fun q2 =>
  (f_X7_put 34 8 (q2 32 4) p2 q2).bind fun q4 =>
  some ((1 : Int32), su q4 32 4 ((q4 32 4) + (1 : Int32))))
  else
  (some ((0 : Int32), f))
def f_X11_say (p1 : Int32) (p2 : Int32) (f : Nat → Nat → Int32) : Option (Int32 × (Nat → Nat → Int32)) :=
  (f_X5_isWitness_3 p1 f).bind fun q2 =>
  if q2 = 0 then
  (some ((-1000000001 : Int32), f))
  else
  ((f_X11_isOutside p2 (11 : Int32) f).bind fun q4 =>
  if q4 = 0 then
  ((f_X1_add_32 p1 p2 f).bind fun q6 =>
  if q6.1 = 0 then
  (some ((-1000000004 : Int32), q6.2))
  else
  (some (q6.2 32 4, q6.2)))
  else
  (some ((-1000000002 : Int32), f)))
def f_X1_pairs_32 (f : Nat → Nat → Int32) : Option Int32 :=
  (f_X5_places_3 f).bind fun q2 =>
  some (((f 3 2) * q2) + (1 : Int32))
def f_X1_pairAt_32_b25 (f : Nat → Nat → Int32) : Option Int32 :=
  some (100 : Int32)
def f_X1_pairAt_32 (p1 : Int32) (f : Nat → Nat → Int32) : Option Int32 :=
  (f_X5_places_3 f).bind fun q2 =>
  if q2 ≤ 0 then
  (f_X1_pairAt_32_b25  f)
  else
  (if p1 < ((f 3 2) * q2) then
  (dz q2 <|
  dz q2 <|
  some (((10 : Int32) * (p1 / q2)) + (p1 - p1 / q2 * q2)))
  else
  (f_X1_pairAt_32_b25  f))
def f_X1_soundOf (p0 : Int32) (f : Nat → Nat → Int32) : Option Int32 :=
  if p0 = (100 : Int32) then
  (some (-1 : Int32))
  else
  (some (p0 / (10 : Int32)))
def f_X1_liarsOf_32_b55 (K10 : Int32 → Int32 → Int32 → Int32 → Option Int32) (i1 : Int32) (i2 : Int32) (i3 : Int32) (i4 : Int32) (f : Nat → Nat → Int32) : Option Int32 :=
  K10 i1 i2 i3 (i4 + (1 : Int32))
def f_X1_liarsOf_32_b10s (K10 : Int32 → Int32 → Int32 → Int32 → Option Int32) (i1 : Int32) (i2 : Int32) (i3 : Int32) (i4 : Int32) (f : Nat → Nat → Int32) : Option Int32 :=
  if (f 32 4) ≤ i4 then
  (some i3)
  else
  ((f_X7_get 33 8 i4 f).bind fun q4 =>
  (f_X2_saying_29 q4 i2 (i1 - i1 / (10 : Int32) * (10 : Int32)) f).bind fun q6 =>
  (f_X7_get 34 8 i4 f).bind fun q8 =>
  if q6 = q8 then
  (f_X1_liarsOf_32_b55 K10 i1 i2 i3 i4 f)
  else
  (f_X1_liarsOf_32_b55 K10 i1 i2 (i3 + (1 : Int32)) i4 f))
def f_X1_liarsOf_32_b10 : Nat → Int32 → Int32 → Int32 → Int32 → (Nat → Nat → Int32) → Option Int32
  | 0 => fun _ _ _ _ _ => none
  | n + 1 => fun i1 i2 i3 i4 f => f_X1_liarsOf_32_b10s (fun i1 i2 i3 i4 => f_X1_liarsOf_32_b10 n i1 i2 i3 i4 f) i1 i2 i3 i4 f
def f_X1_liarsOf_32 (p1 : Int32) (f : Nat → Nat → Int32) : Option Int32 :=
  (f_X1_soundOf p1 f).bind fun q2 =>
  f_X1_liarsOf_32_b10 fuB p1 q2 (0 : Int32) (0 : Int32) f
def f_X1_gatherBirths_32_b51 (K7 : Int32 → (Nat → Nat → Int32) → Option (Nat → Nat → Int32)) (i1 : Int32) (f : Nat → Nat → Int32) : Option (Nat → Nat → Int32) :=
  K7 (i1 + (1 : Int32)) f
def f_X1_gatherBirths_32_b7s (K7 : Int32 → (Nat → Nat → Int32) → Option (Nat → Nat → Int32)) (i1 : Int32) (f : Nat → Nat → Int32) : Option (Nat → Nat → Int32) :=
  (f_X1_pairs_32 f).bind fun q2 =>
  if q2 ≤ i1 then
  (some f)
  else
  ((f_X1_pairAt_32 i1 f).bind fun q4 =>
  (f_X1_liarsOf_32 q4 f).bind fun q6 =>
  if q6 = 0 then
  ((f_X7_put 35 55 (f 32 6) q4 f).bind fun q8 =>
  f_X1_gatherBirths_32_b51 K7 i1 (su q8 32 6 ((q8 32 6) + (1 : Int32))))
  else
  (f_X1_gatherBirths_32_b51 K7 i1 f))
def f_X1_gatherBirths_32_b7 : Nat → Int32 → (Nat → Nat → Int32) → Option (Nat → Nat → Int32)
  | 0 => fun _ _ => none
  | n + 1 => fun i1 f => f_X1_gatherBirths_32_b7s (f_X1_gatherBirths_32_b7 n) i1 f
def f_X1_gatherBirths_32 (f : Nat → Nat → Int32) : Option (Nat → Nat → Int32) :=
  f_X1_gatherBirths_32_b7 fuB (0 : Int32) (su f 32 6 (0 : Int32))
def f_X1_birthAt_32 (p1 : Int32) (f : Nat → Nat → Int32) : Option Int32 :=
  if p1 < 0 then
  (some (-1 : Int32))
  else
  (if (f 32 6) ≤ p1 then
  (some (-1 : Int32))
  else
  ((f_X7_get 35 55 p1 f).bind fun q2 =>
  some q2))
def f_X11_births (p1 : Int32) (f : Nat → Nat → Int32) : Option (Int32 × (Nat → Nat → Int32)) :=
  (f_X5_stands_3 f).bind fun q2 =>
  if q2 = 0 then
  (some ((-1000000003 : Int32), f))
  else
  ((f_X1_gatherBirths_32 f).bind fun q4 =>
  if p1 = (-1 : Int32) then
  (some (q4 32 6, q4))
  else
  ((f_X1_birthAt_32 p1 q4).bind fun q6 =>
  some (q6, q4)))
def f_X5_isPair_3_b32 (f : Nat → Nat → Int32) : Option Int32 :=
  some (1 : Int32)
def f_X5_isPair_3 (p1 : Int32) (f : Nat → Nat → Int32) : Option Int32 :=
  if p1 = (100 : Int32) then
  (f_X5_isPair_3_b32  f)
  else
  (if p1 < 0 then
  (some (0 : Int32))
  else
  ((f_X5_isSound_3 (p1 / (10 : Int32)) f).bind fun q2 =>
  if q2 = 0 then
  (some (0 : Int32))
  else
  ((f_X5_isPlace_3 (p1 - p1 / (10 : Int32) * (10 : Int32)) f).bind fun q4 =>
  if q4 = 0 then
  (some (0 : Int32))
  else
  (f_X5_isPair_3_b32  f))))
def f_X11_liars (p1 : Int32) (f : Nat → Nat → Int32) : Option Int32 :=
  (f_X5_isPair_3 p1 f).bind fun q2 =>
  if q2 = 0 then
  (some (-1000000001 : Int32))
  else
  ((f_X5_stands_3 f).bind fun q4 =>
  if q4 = 0 then
  (some (-1000000003 : Int32))
  else
  ((f_X1_liarsOf_32 p1 f).bind fun q6 =>
  some q6))
def f_X1_pairOfFewestLiars_32_b48 (K14 : Int32 → Int32 → Int32 → Option Int32) (i1 : Int32) (i2 : Int32) (i3 : Int32) (f : Nat → Nat → Int32) : Option Int32 :=
  K14 i1 i2 (i3 + (1 : Int32))
def f_X1_pairOfFewestLiars_32_b14s (K14 : Int32 → Int32 → Int32 → Option Int32) (i1 : Int32) (i2 : Int32) (i3 : Int32) (f : Nat → Nat → Int32) : Option Int32 :=
  (f_X1_pairs_32 f).bind fun q6 =>
  if q6 ≤ i3 then
  (some i1)
  else
  ((f_X1_pairAt_32 i3 f).bind fun q8 =>
  (f_X1_liarsOf_32 q8 f).bind fun q10 =>
  if i2 ≤ q10 then
  (f_X1_pairOfFewestLiars_32_b48 K14 i1 i2 i3 f)
  else
  ((f_X1_pairAt_32 i3 f).bind fun q12 =>
  f_X1_pairOfFewestLiars_32_b48 K14 q12 q10 i3 f))
def f_X1_pairOfFewestLiars_32_b14 : Nat → Int32 → Int32 → Int32 → (Nat → Nat → Int32) → Option Int32
  | 0 => fun _ _ _ _ => none
  | n + 1 => fun i1 i2 i3 f => f_X1_pairOfFewestLiars_32_b14s (fun i1 i2 i3 => f_X1_pairOfFewestLiars_32_b14 n i1 i2 i3 f) i1 i2 i3 f
def f_X1_pairOfFewestLiars_32 (f : Nat → Nat → Int32) : Option Int32 :=
  (f_X1_pairAt_32 (0 : Int32) f).bind fun q2 =>
  (f_X1_liarsOf_32 q2 f).bind fun q4 =>
  f_X1_pairOfFewestLiars_32_b14 fuB q2 q4 (1 : Int32) f
def f_X11_leastLiars (p1 : Int32) (f : Nat → Nat → Int32) : Option Int32 :=
  (f_X11_isOutside p1 (1 : Int32) f).bind fun q2 =>
  if q2 = 0 then
  ((f_X5_stands_3 f).bind fun q4 =>
  if q4 = 0 then
  (some (-1000000003 : Int32))
  else
  ((f_X1_pairOfFewestLiars_32 f).bind fun q6 =>
  if p1 = 0 then
  (some q6)
  else
  ((f_X1_liarsOf_32 q6 f).bind fun q8 =>
  some q8)))
  else
  (some (-1000000002 : Int32))
def f_X1_greatestPart_32_b30s (K30 : Int32 → Int32 → Int32 → (Nat → Nat → Int32) → Option (Int32 × (Nat → Nat → Int32))) (i1 : Int32) (i2 : Int32) (i3 : Int32) (f : Nat → Nat → Int32) : Option (Int32 × (Nat → Nat → Int32)) :=
  if (f 32 6) ≤ i3 then
  (some (i2, f))
  else
  ((f_X7_get 35 55 i3 f).bind fun q2 =>
  (f_X1_soundOf q2 f).bind fun q4 =>
  (f_X2_saying_29 i1 q4 (q2 - q2 / (10 : Int32) * (10 : Int32)) f).bind fun q6 =>
  (f_X7_get 36 12 q6 f).bind fun q8 =>
  (f_X7_put 36 12 q6 (q8 + (1 : Int32)) f).bind fun q10 =>
  K30 i1 (jmax i2 (q8 + (1 : Int32))) (i3 + (1 : Int32)) q10)
def f_X1_greatestPart_32_b30 : Nat → Int32 → Int32 → Int32 → (Nat → Nat → Int32) → Option (Int32 × (Nat → Nat → Int32))
  | 0 => fun _ _ _ _ => none
  | n + 1 => fun i1 i2 i3 f => f_X1_greatestPart_32_b30s (f_X1_greatestPart_32_b30 n) i1 i2 i3 f
def f_X1_greatestPart_32_b4s (K4 : Int32 → Int32 → Int32 → (Nat → Nat → Int32) → Option (Int32 × (Nat → Nat → Int32))) (i1 : Int32) (i2 : Int32) (i3 : Int32) (f : Nat → Nat → Int32) : Option (Int32 × (Nat → Nat → Int32)) :=
  if (Int32.ofNat 12) ≤ i3 then
  (f_X1_greatestPart_32_b30 fuB i1 i2 (0 : Int32) f)
  else
  ((f_X7_put 36 12 i3 (0 : Int32) f).bind fun q13 =>
  K4 i1 i2 (i3 + (1 : Int32)) q13)
def f_X1_greatestPart_32_b4 : Nat → Int32 → Int32 → Int32 → (Nat → Nat → Int32) → Option (Int32 × (Nat → Nat → Int32))
  | 0 => fun _ _ _ _ => none
  | n + 1 => fun i1 i2 i3 f => f_X1_greatestPart_32_b4s (f_X1_greatestPart_32_b4 n) i1 i2 i3 f
def f_X1_greatestPart_32 (p1 : Int32) (f : Nat → Nat → Int32) : Option (Int32 × (Nat → Nat → Int32)) :=
  f_X1_greatestPart_32_b4 fuB p1 (0 : Int32) (0 : Int32) f
def f_X1_bestAsked_32_b38 (K9 : Int32 → Int32 → Int32 → (Nat → Nat → Int32) → Option (Int32 × (Nat → Nat → Int32))) (i1 : Int32) (i2 : Int32) (i3 : Int32) (f : Nat → Nat → Int32) : Option (Int32 × (Nat → Nat → Int32)) :=
  K9 i1 i2 (i3 + (1 : Int32)) f
def f_X1_bestAsked_32_b9s (K9 : Int32 → Int32 → Int32 → (Nat → Nat → Int32) → Option (Int32 × (Nat → Nat → Int32))) (i1 : Int32) (i2 : Int32) (i3 : Int32) (f : Nat → Nat → Int32) : Option (Int32 × (Nat → Nat → Int32)) :=
  if (f 3 3) ≤ i3 then
  (some (i1, f))
  else
  ((f_X1_greatestPart_32 i3 f).bind fun q2 =>
  if i2 ≤ q2.1 then
  (f_X1_bestAsked_32_b38 K9 i1 i2 i3 q2.2)
  else
  (f_X1_bestAsked_32_b38 K9 i3 q2.1 i3 q2.2))
def f_X1_bestAsked_32_b9 : Nat → Int32 → Int32 → Int32 → (Nat → Nat → Int32) → Option (Int32 × (Nat → Nat → Int32))
  | 0 => fun _ _ _ _ => none
  | n + 1 => fun i1 i2 i3 f => f_X1_bestAsked_32_b9s (f_X1_bestAsked_32_b9 n) i1 i2 i3 f
def f_X1_bestAsked_32 (f : Nat → Nat → Int32) : Option (Int32 × (Nat → Nat → Int32)) :=
  f_X1_bestAsked_32_b9 fuB (-1 : Int32) (f 32 6) (0 : Int32) f
def f_X11_ask (f : Nat → Nat → Int32) : Option (Int32 × (Nat → Nat → Int32)) :=
  (f_X5_stands_3 f).bind fun q2 =>
  if q2 = 0 then
  (some ((-1000000003 : Int32), f))
  else
  ((f_X1_gatherBirths_32 f).bind fun q4 =>
  (f_X1_bestAsked_32 q4).bind fun q6 =>
  some (q6.1, q6.2))
def f_X0_add_37 (p1 : Int32) (f : Nat → Nat → Int32) : Option (Int32 × (Nat → Nat → Int32)) :=
  if (f 37 1) < (15 : Int32) then
  ((f_X7_put 38 15 (f 37 1) p1 f).bind fun q2 =>
  some ((1 : Int32), su q2 37 1 ((q2 37 1) + (1 : Int32))))
  else
  (some ((0 : Int32), f))
def f_X11_write (p1 : Int32) (f : Nat → Nat → Int32) : Option (Int32 × (Nat → Nat → Int32)) :=
  (f_X11_isOutside p1 (7 : Int32) f).bind fun q2 =>
  if q2 = 0 then
  ((f_X0_add_37 p1 f).bind fun q4 =>
  if q4.1 = 0 then
  (some ((-1000000004 : Int32), q4.2))
  else
  (some (q4.2 37 1, q4.2)))
  else
  (some ((-1000000002 : Int32), f))
def f_X11_tear (f : Nat → Nat → Int32) : Option (Int32 × (Nat → Nat → Int32)) :=
  some ((f 32 4) + (f 37 1), su (su f 32 4 (0 : Int32)) 37 1 (0 : Int32))
def f_X0_firstOtherThan_37_b2s (K2 : Int32 → Int32 → Option Int32) (i1 : Int32) (i2 : Int32) (f : Nat → Nat → Int32) : Option Int32 :=
  if (f 37 1) ≤ i2 then
  (some (-1 : Int32))
  else
  ((f_X7_get 38 15 i2 f).bind fun q2 =>
  if q2 = i1 then
  (K2 i1 (i2 + (1 : Int32)))
  else
  (some i2))
def f_X0_firstOtherThan_37_b2 : Nat → Int32 → Int32 → (Nat → Nat → Int32) → Option Int32
  | 0 => fun _ _ _ => none
  | n + 1 => fun i1 i2 f => f_X0_firstOtherThan_37_b2s (fun i1 i2 => f_X0_firstOtherThan_37_b2 n i1 i2 f) i1 i2 f
def f_X0_firstOtherThan_37 (p1 : Int32) (f : Nat → Nat → Int32) : Option Int32 :=
  f_X0_firstOtherThan_37_b2 fuB p1 (0 : Int32) f
def f_X11_judge (f : Nat → Nat → Int32) : Option Int32 :=
  (f_X8_get_18 (4 : Int32) f).bind fun q2 =>
  (f_J6_bitCount_0f7a4 q2 f).bind fun q4 =>
  (f_X0_firstOtherThan_37 q4 f).bind fun q6 =>
  some q6
def f_X11_seed (p1 : Int32) (f : Nat → Nat → Int32) : Option (Int32 × (Nat → Nat → Int32)) :=
  if 0 ≤ p1 then
  (some (f 0 5, su f 0 5 p1))
  else
  (some ((-1000000002 : Int32), f))
def f_X8_take_24_18 (f : Nat → Nat → Int32) : Option (Nat → Nat → Int32) :=
  (f_X7_copy 19 28 25 28 (0 : Int32) (0 : Int32) (28 : Int32) f).bind fun q2 =>
  some q2
def f_X8_take_27_18 (f : Nat → Nat → Int32) : Option (Nat → Nat → Int32) :=
  (f_X7_copy 19 28 28 28 (0 : Int32) (0 : Int32) (28 : Int32) f).bind fun q2 =>
  some q2
def f_X11_keep (p1 : Int32) (f : Nat → Nat → Int32) : Option (Int32 × (Nat → Nat → Int32)) :=
  if p1 = 0 then
  ((f_X8_take_24_18 f).bind fun q4 =>
  (f_X4_forget_20 (su (su q4 23 1 (q4 0 5)) 23 2 (1 : Int32))).bind fun q6 =>
  some ((1 : Int32), q6))
  else if p1 = 1 then
  ((f_X8_take_27_18 f).bind fun q8 =>
  (f_X4_forget_20 (su (su q8 26 1 (q8 0 5)) 26 2 (1 : Int32))).bind fun q10 =>
  some ((1 : Int32), q10))
  else
  (some ((-1000000001 : Int32), f))
def f_X8_take_18_24 (f : Nat → Nat → Int32) : Option (Nat → Nat → Int32) :=
  (f_X7_copy 25 28 19 28 (0 : Int32) (0 : Int32) (28 : Int32) f).bind fun q2 =>
  some q2
def f_X8_take_18_27 (f : Nat → Nat → Int32) : Option (Nat → Nat → Int32) :=
  (f_X7_copy 28 28 19 28 (0 : Int32) (0 : Int32) (28 : Int32) f).bind fun q2 =>
  some q2
def f_X11_goBack (p1 : Int32) (f : Nat → Nat → Int32) : Option (Int32 × (Nat → Nat → Int32)) :=
  if p1 = 0 then
  (if (f 23 2) = 0 then
  (some ((-1000000003 : Int32), f))
  else
  ((f_X8_take_18_24 f).bind fun q4 =>
  (f_X4_forget_20 (su q4 0 5 (q4 23 1))).bind fun q6 =>
  some ((1 : Int32), q6)))
  else if p1 = 1 then
  (if (f 26 2) = 0 then
  (some ((-1000000003 : Int32), f))
  else
  ((f_X8_take_18_27 f).bind fun q9 =>
  (f_X4_forget_20 (su q9 0 5 (q9 26 1))).bind fun q11 =>
  some ((1 : Int32), q11)))
  else
  (some ((-1000000001 : Int32), f))
