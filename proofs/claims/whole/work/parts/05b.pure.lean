/-! Pure facts: rows of numbers, small whole numbers, how loud a sound comes -/
abbrev St : Type := Nat → Nat → Int32
theorem su_r {f : St} {k j : Nat} {v : Int32} {k' : Nat} (h : k' ≠ k) : su f k j v k' = f k' := if_neg h
theorem su_s {f : St} {k j : Nat} {v : Int32} : su f k j v k = upd (f k) j v := if_pos rfl
theorem upd_s {r : Nat → Int32} {j : Nat} {v : Int32} : upd r j v j = v := if_pos rfl
theorem upd_n {r : Nat → Int32} {j i : Nat} {v : Int32} (h : i ≠ j) : upd r j v i = r i := if_neg h
theorem ck_n {ρ : Type} {i n : Nat} {k : Option ρ} (h : i < n) (hn : n < 2 ^ 31) : ck (nI i) n k = k := if_neg (nI_in h hn)
theorem get_n {ka na n : Nat} {f : St} (h : n < na) (hn : na < 2 ^ 31) : f_X7_get ka na (nI n) f = some (f ka n) := by
  unfold f_X7_get
  rw [if_neg (nI_pos (by omega)), if_neg (show ¬ Int32.ofNat na ≤ nI n from nI_ge h hn), ck_n h hn, nI_clamp (by omega)]
theorem put_n {ka na n : Nat} {v : Int32} {f : St} (h : n < na) (hn : na < 2 ^ 31) : f_X7_put ka na (nI n) v f = some (su f ka n v) := by
  unfold f_X7_put
  rw [if_neg (nI_pos (by omega)), if_neg (show ¬ Int32.ofNat na ≤ nI n from nI_ge h hn), ck_n h hn, nI_clamp (by omega)]
/-- c numbers of row ka from a on, copied to row kb from b on -/
def cpF (f : St) (ka kb a b c : Nat) : St := fun k => if k = kb then (fun j => if b ≤ j ∧ j < b + c then f ka (a + (j - b)) else f kb j) else f k
/-- row 13 moved down by 28, up to i -/
def shF (g : St) (i : Nat) : St := fun k => if k = 13 then (fun j => if j + 28 < i then g 13 (j + 28) else g 13 j) else g k
theorem t_add {a b : Int32} (h1 : -2147483648 ≤ a.toInt + b.toInt) (h2 : a.toInt + b.toInt < 2147483648) : (a + b).toInt = a.toInt + b.toInt := by
  rw [Int32.toInt_add]
  exact Int.bmod_eq_of_le (by omega) (by omega)
theorem t_sub {a b : Int32} (h1 : -2147483648 ≤ a.toInt - b.toInt) (h2 : a.toInt - b.toInt < 2147483648) : (a - b).toInt = a.toInt - b.toInt := by
  rw [Int32.toInt_sub]
  exact Int.bmod_eq_of_le (by omega) (by omega)
theorem t_mul {a b : Int32} (h1 : -2147483648 ≤ a.toInt * b.toInt) (h2 : a.toInt * b.toInt < 2147483648) : (a * b).toInt = a.toInt * b.toInt := by
  rw [Int32.toInt_mul]
  exact Int.bmod_eq_of_le (by omega) (by omega)
theorem lt_t {a b : Int32} : a < b ↔ a.toInt < b.toInt := Int32.lt_iff_toInt_lt
theorem le_t {a b : Int32} : a ≤ b ↔ a.toInt ≤ b.toInt := Int32.le_iff_toInt_le
theorem eq_t {a b : Int32} : a = b ↔ a.toInt = b.toInt := Int32.toInt_inj.symm
/-- from lo on, d of a row -/
def lsum (r : Nat → Int32) : Nat → Nat → Int
  | _, 0 => 0
  | lo, d + 1 => (r lo).toInt + lsum r (lo + 1) d
theorem lsum_s {r : Nat → Int32} {lo d : Nat} : lsum r lo (d + 1) = (r lo).toInt + lsum r (lo + 1) d := rfl
theorem lsum_bd {r : Nat → Int32} {W : Nat} (hb : ∀ k, k < W → 0 ≤ (r k).toInt ∧ (r k).toInt ≤ 99) : ∀ d lo : Nat, lo + d ≤ W → 0 ≤ lsum r lo d ∧ lsum r lo d ≤ 99 * d := by
  intro d
  induction d with
  | zero => intro lo _; simp [lsum]
  | succ d ih =>
    intro lo h
    have h1 := ih (lo + 1) (by omega)
    have h2 := hb lo (by omega)
    rw [lsum_s]
    omega
theorem lsum_congr {r q : Nat → Int32} : ∀ d lo : Nat, (∀ k, lo ≤ k → k < lo + d → r k = q k) → lsum r lo d = lsum q lo d := by
  intro d
  induction d with
  | zero => intro lo _; rfl
  | succ d ih =>
    intro lo h
    rw [lsum_s, lsum_s, ih (lo + 1) (fun k h1 h2 => h k (by omega) (by omega)), h lo (by omega) (by omega)]
/-- how loud a sound of L comes from X to Y over the row now (walls first, the wind, and 9, at 8) -/
def loudZ (L : Int32) (now : Nat → Int32) (X Y : Nat) : Int := L.toInt - (((max X Y : Nat) : Int) - ((min X Y : Nat) : Int)) + ((now 8).toInt - 9) * ((Y : Int) - (X : Int)) - lsum now (min X Y) (max X Y - min X Y)
def NowB (W : Nat) (now : Nat → Int32) : Prop := W ≤ 8 ∧ 0 ≤ (now 8).toInt ∧ (now 8).toInt ≤ 18 ∧ ∀ k, k < W → 0 ≤ (now k).toInt ∧ (now k).toInt ≤ 99
theorem wind_bd {b : Int} {X Y W : Nat} (h0 : 0 ≤ b) (h1 : b ≤ 18) (hX : X ≤ W) (hY : Y ≤ W) (hW : W ≤ 8) : -72 ≤ (b - 9) * ((Y : Int) - (X : Int)) ∧ (b - 9) * ((Y : Int) - (X : Int)) ≤ 72 := by
  have a1 : -9 ≤ b - 9 := by omega
  have a2 : b - 9 ≤ 9 := by omega
  have b1 : -8 ≤ (Y : Int) - (X : Int) := by omega
  have b2 : (Y : Int) - (X : Int) ≤ 8 := by omega
  generalize b - 9 = u at *
  generalize (Y : Int) - (X : Int) = v at *
  have hu : u = -9 ∨ u = -8 ∨ u = -7 ∨ u = -6 ∨ u = -5 ∨ u = -4 ∨ u = -3 ∨ u = -2 ∨ u = -1 ∨ u = 0 ∨ u = 1 ∨ u = 2 ∨ u = 3 ∨ u = 4 ∨ u = 5 ∨ u = 6 ∨ u = 7 ∨ u = 8 ∨ u = 9 := by omega
  rcases hu with rfl | rfl | rfl | rfl | rfl | rfl | rfl | rfl | rfl | rfl | rfl | rfl | rfl | rfl | rfl | rfl | rfl | rfl | rfl <;> omega
theorem loudZ_bd {L : Int32} {now : Nat → Int32} {W X Y : Nat} (hB : NowB W now) (hL : 0 ≤ L.toInt ∧ L.toInt ≤ 60) (hX : X ≤ W) (hY : Y ≤ W) : -1000 ≤ loudZ L now X Y ∧ loudZ L now X Y ≤ 1000 := by
  obtain ⟨hW, h0, h1, hk⟩ := hB
  have hw := wind_bd h0 h1 hX hY hW
  have hs := lsum_bd hk (max X Y - min X Y) (min X Y) (by omega)
  unfold loudZ
  omega
theorem mloud_loop {g : St} {W : Nat} (hW : W ≤ 8) (hk : ∀ k, k < W → 0 ≤ (g 5 k).toInt ∧ (g 5 k).toInt ≤ 99) : ∀ (d n lo : Nat) (v : Int32), lo + d ≤ W → d < n → -10000 + 99 * (d : Int) ≤ v.toInt → v.toInt ≤ 10000 → ∃ v' : Int32, f_X12_loudAt_b57 n (nI (lo + d)) v (nI lo) g = some v' ∧ v'.toInt = v.toInt - lsum (g 5) lo d := by
  intro d
  induction d with
  | zero =>
    intro n lo v h1 h2 h3 h4
    obtain ⟨n, rfl⟩ : ∃ m, n = m + 1 := ⟨n - 1, by omega⟩
    refine ⟨v, ?_, by simp [lsum]⟩
    simp only [f_X12_loudAt_b57, f_X12_loudAt_b57s]
    rw [if_pos (nI_le (by omega) (by omega))]
  | succ d ih =>
    intro n lo v h1 h2 h3 h4
    obtain ⟨n, rfl⟩ : ∃ m, n = m + 1 := ⟨n - 1, by omega⟩
    have hb := hk lo (by omega)
    have e : (v - g 5 lo).toInt = v.toInt - (g 5 lo).toInt := t_sub (by omega) (by omega)
    obtain ⟨v', hv, hz⟩ := ih n (lo + 1) (v - g 5 lo) (by omega) (by omega) (by omega) (by omega)
    refine ⟨v', ?_, ?_⟩
    · simp only [f_X12_loudAt_b57, f_X12_loudAt_b57s]
      rw [if_neg (nI_ge (by omega) (by omega)), ck_n (by omega) (by omega), nI_clamp (by omega)]
      rw [show nI lo + (1 : Int32) = nI (lo + 1) from nI_1 lo]
      rw [show lo + (d + 1) = lo + 1 + d by omega]
      exact hv
    · rw [hz, e]
      rw [lsum_s]
      omega
theorem mloud_b22 {g : St} {W s X Y hi lo : Nat} (hB : NowB W (g 5)) (hs : s < 6) (hL : 0 ≤ (g 1 s).toInt ∧ (g 1 s).toInt ≤ 60) (hX : X ≤ W) (hY : Y ≤ W) (hhi : hi = max X Y) (hlo : lo = min X Y) : ∃ v : Int32, f_X12_loudAt_b22 (nI s) (nI X) (nI Y) (nI lo) (nI hi) g = some v ∧ v.toInt = loudZ (g 1 s) (g 5) X Y := by
  obtain ⟨hW, h0, h1, hk⟩ := hB
  unfold f_X12_loudAt_b22
  rw [ck_n hs (by omega), nI_clamp (by omega)]
  have e8 : ck (8 : Int32) 28 = fun k : Option Int32 => k := funext fun k => ck_n (i := 8) (by omega) (by omega)
  rw [e8]
  have t8 : (8 : Int32).toNatClampNeg = 8 := rfl
  rw [t8]
  show ∃ v : Int32, f_X12_loudAt_b57 fuB (nI hi) (((g 1 s) - (nI hi - nI lo)) + (((g 5 8) - (9 : Int32)) * (nI Y - nI X))) (nI lo) g = some v ∧ _
  have hw := wind_bd h0 h1 hX hY hW
  have e1 : (nI hi - nI lo).toInt = (hi : Int) - lo := pk_sub_toInt (by omega) (by omega)
  have e2 : (nI Y - nI X).toInt = (Y : Int) - X := pk_sub_toInt (by omega) (by omega)
  have t9 : (9 : Int32).toInt = 9 := rfl
  have e3 : ((g 5 8) - (9 : Int32)).toInt = (g 5 8).toInt - 9 := by rw [t_sub (by omega) (by omega), t9]
  have e4 : (((g 5 8) - (9 : Int32)) * (nI Y - nI X)).toInt = ((g 5 8).toInt - 9) * ((Y : Int) - X) := by rw [t_mul (by rw [e3, e2]; omega) (by rw [e3, e2]; omega), e3, e2]
  have e5 : ((g 1 s) - (nI hi - nI lo)).toInt = (g 1 s).toInt - ((hi : Int) - lo) := by rw [t_sub (by omega) (by omega), e1]
  have e6 : (((g 1 s) - (nI hi - nI lo)) + (((g 5 8) - (9 : Int32)) * (nI Y - nI X))).toInt = (g 1 s).toInt - ((hi : Int) - lo) + ((g 5 8).toInt - 9) * ((Y : Int) - X) := by rw [t_add (by omega) (by omega), e5, e4]
  obtain ⟨v, hv, hz⟩ := mloud_loop (g := g) hW hk (hi - lo) fuB lo _ (by omega) (by unfold fuB; omega) (by rw [e6]; omega) (by rw [e6]; omega)
  refine ⟨v, ?_, ?_⟩
  · rw [show lo + (hi - lo) = hi by omega] at hv
    exact hv
  · rw [hz, e6]
    subst hhi; subst hlo
    unfold loudZ
    omega
/-- the reference's loudAt -/
theorem mloud {g : St} {W s X Y : Nat} (hB : NowB W (g 5)) (hs : s < 6) (hL : 0 ≤ (g 1 s).toInt ∧ (g 1 s).toInt ≤ 60) (hX : X ≤ W) (hY : Y ≤ W) : ∃ v : Int32, f_X12_loudAt (nI s) (nI X) (nI Y) g = some v ∧ v.toInt = loudZ (g 1 s) (g 5) X Y := by
  have hW := hB.1
  unfold f_X12_loudAt f_X12_loudAt_b10
  by_cases h : Y ≤ X
  · rw [if_pos (nI_le h (by omega)), if_pos (nI_le h (by omega))]
    exact mloud_b22 hB hs hL hX hY (by omega) (by omega)
  · rw [if_neg (nI_ge (by omega) (by omega)), if_neg (nI_ge (by omega) (by omega))]
    exact mloud_b22 hB hs hL hX hY (by omega) (by omega)
/-- the class's row of state, beside the reference's -/
def RowR (W N : Nat) (row now : Nat → Int32) : Prop := row 0 = now 8 - 9 ∧ row 1 = now 16 ∧ row 2 = now 17 ∧ row 3 = now 18 ∧ row 4 = now 19 ∧ row 5 = now 20 ∧ (∀ k, k < W → row (6 + k) = now k) ∧ (∀ w, w < N → row (14 + w) = now (9 + w)) ∧ (∀ w, w < N → row (21 + w) = now (21 + w))
theorem jmax_n {X Y : Nat} (hX : X < 2 ^ 31) (hY : Y < 2 ^ 31) : jmax (nI X) (nI Y) = nI (max X Y) := by
  unfold jmax
  by_cases h : X < Y
  · rw [if_pos (nI_lt h hY), Nat.max_eq_right (by omega)]
  · rw [if_neg (nI_nlt (by omega) hX), Nat.max_eq_left (by omega)]
theorem jmin_n {X Y : Nat} (hX : X < 2 ^ 31) (hY : Y < 2 ^ 31) : jmin (nI X) (nI Y) = nI (min X Y) := by
  unfold jmin
  by_cases h : Y < X
  · rw [if_pos (nI_lt h hX), Nat.min_eq_right (by omega)]
  · rw [if_neg (nI_nlt (by omega) hY), Nat.min_eq_left (by omega)]
theorem cloud_loop {f : St} {W : Nat} {now : Nat → Int32} (hW : W ≤ 8) (hr : ∀ k, k < W → f 19 (6 + k) = now k) (hk : ∀ k, k < W → 0 ≤ (now k).toInt ∧ (now k).toInt ≤ 99) : ∀ (d n lo : Nat) (v : Int32), lo + d ≤ W → d < n → -10000 + 99 * (d : Int) ≤ v.toInt → v.toInt ≤ 10000 → ∃ v' : Int32, f_X2_loudness_29_b53 n (nI (lo + d)) v (nI lo) f = some v' ∧ v'.toInt = v.toInt - lsum now lo d := by
  intro d
  induction d with
  | zero =>
    intro n lo v h1 h2 h3 h4
    obtain ⟨n, rfl⟩ : ∃ m, n = m + 1 := ⟨n - 1, by omega⟩
    refine ⟨v, ?_, by simp [lsum]⟩
    simp only [f_X2_loudness_29_b53, f_X2_loudness_29_b53s]
    rw [if_pos (nI_le (by omega) (by omega))]
  | succ d ih =>
    intro n lo v h1 h2 h3 h4
    obtain ⟨n, rfl⟩ : ∃ m, n = m + 1 := ⟨n - 1, by omega⟩
    have hb := hk lo (by omega)
    have e : (v - now lo).toInt = v.toInt - (now lo).toInt := t_sub (by omega) (by omega)
    obtain ⟨v', hv, hz⟩ := ih n (lo + 1) (v - now lo) (by omega) (by omega) (by omega) (by omega)
    refine ⟨v', ?_, ?_⟩
    · simp only [f_X2_loudness_29_b53, f_X2_loudness_29_b53s]
      rw [if_neg (nI_ge (by omega) (by omega))]
      rw [show (6 : Int32) + nI lo = nI (6 + lo) from nI_add 6 lo, get_n (by omega) (by omega), hr lo (by omega)]
      show f_X2_loudness_29_b53 n (nI (lo + (d + 1))) (v - now lo) (nI lo + 1) f = _
      rw [show nI lo + (1 : Int32) = nI (lo + 1) from nI_1 lo]
      rw [show lo + (d + 1) = lo + 1 + d by omega]
      exact hv
    · rw [hz, e]
      rw [lsum_s]
      omega
/-- the class's loudness -/
theorem cloud {f : St} {W N s X Y : Nat} {now : Nat → Int32} (hR : RowR W N (f 19) now) (hB : NowB W now) (hs : s < 6) (hL : 0 ≤ (f 5 s).toInt ∧ (f 5 s).toInt ≤ 60) (hX : X ≤ W) (hY : Y ≤ W) : ∃ v : Int32, f_X2_loudness_29 (nI s) (nI X) (nI Y) f = some v ∧ v.toInt = loudZ (f 5 s) now X Y := by
  obtain ⟨hW, h0, h1, hk⟩ := hB
  obtain ⟨r0, -, -, -, -, -, rk, -⟩ := hR
  unfold f_X2_loudness_29
  rw [get_n hs (by omega), show f_X7_get 19 28 (0 : Int32) f = some (f 19 0) from get_n (n := 0) (by omega) (by omega), jmax_n (by omega) (by omega), jmin_n (by omega) (by omega), r0]
  generalize hhi : max X Y = hi
  generalize hlo : min X Y = lo
  show ∃ v : Int32, f_X2_loudness_29_b53 fuB (nI hi) (((f 5 s) - (nI hi - nI lo)) + ((now 8 - 9) * (nI Y - nI X))) (nI lo) f = some v ∧ _
  have hw := wind_bd h0 h1 hX hY hW
  have e1 : (nI hi - nI lo).toInt = (hi : Int) - lo := pk_sub_toInt (by omega) (by omega)
  have e2 : (nI Y - nI X).toInt = (Y : Int) - X := pk_sub_toInt (by omega) (by omega)
  have t9 : (9 : Int32).toInt = 9 := rfl
  have e3 : (now 8 - (9 : Int32)).toInt = (now 8).toInt - 9 := by rw [t_sub (by omega) (by omega), t9]
  have e4 : ((now 8 - (9 : Int32)) * (nI Y - nI X)).toInt = ((now 8).toInt - 9) * ((Y : Int) - X) := by rw [t_mul (by rw [e3, e2]; omega) (by rw [e3, e2]; omega), e3, e2]
  have e5 : ((f 5 s) - (nI hi - nI lo)).toInt = (f 5 s).toInt - ((hi : Int) - lo) := by rw [t_sub (by omega) (by omega), e1]
  have e6 : (((f 5 s) - (nI hi - nI lo)) + ((now 8 - (9 : Int32)) * (nI Y - nI X))).toInt = (f 5 s).toInt - ((hi : Int) - lo) + ((now 8).toInt - 9) * ((Y : Int) - X) := by rw [t_add (by omega) (by omega), e5, e4]
  obtain ⟨v, hv, hz⟩ := cloud_loop (f := f) hW rk hk (hi - lo) fuB lo _ (by omega) (by unfold fuB; omega) (by rw [e6]; omega) (by rw [e6]; omega)
  refine ⟨v, ?_, ?_⟩
  · rw [show lo + (hi - lo) = hi by omega] at hv
    exact hv
  · rw [hz, e6]
    subst hhi; subst hlo
    unfold loudZ
    omega
