/-! All that both sides hold alike between two calls -/
def PastR (W N : Nat) (f g : St) : Prop := ∃ P nx : Nat, P ≤ 20 ∧ nx < 20 ∧ f 20 1 = nI nx ∧ f 20 2 = nI P ∧ g 0 25 = nI P ∧ ∀ i, i < P → StR W N (fun j => f 21 (28 * ((nx + 20 - P + i) % 20) + j)) (fun j => g 13 (28 * i + j))
def Img1 (W N : Nat) (kf sf : Int32) (row : Nat → Int32) (kg sg : Int32) (now : Nat → Int32) : Prop := (kf = 0 ∧ kg = 0) ∨ (kf = 1 ∧ kg = 1 ∧ sf = sg ∧ 0 ≤ sf.toInt ∧ StR W N row now)
def ImgR (W N : Nat) (f g : St) : Prop := Img1 W N (f 23 2) (f 23 1) (f 25) (g 19 0) (g 18 28) (fun j => g 18 j) ∧ Img1 W N (f 26 2) (f 26 1) (f 28) (g 19 1) (g 18 57) (fun j => g 18 (29 + j))
def SeedR (f g : St) : Prop := f 0 5 = g 0 8 ∧ 0 ≤ (f 0 5).toInt
def SaidR (N : Nat) (f g : St) : Prop := ∃ C : Nat, C ≤ 8 ∧ f 32 4 = nI C ∧ g 0 27 = nI C ∧ ∀ k, k < C → f 33 k = g 14 k ∧ f 34 k = g 15 k ∧ ∃ w, w < N ∧ g 14 k = nI w
def BookR (f g : St) : Prop := ∃ B : Nat, B ≤ 15 ∧ f 37 1 = nI B ∧ g 0 31 = nI B ∧ ∀ k, k < B → f 38 k = g 17 k
def TextR (f g : St) : Prop := ∃ T : Nat, T ≤ 240 ∧ f 1 1 = nI T ∧ g 0 10 = nI T ∧ ∀ k, k < T → f 2 k = g 6 k ∧ 0 ≤ (g 6 k).toInt ∧ (g 6 k).toInt ≤ 255
def Rest (W N : Nat) (f g : St) : Prop := PastR W N f g ∧ ImgR W N f g ∧ SeedR f g ∧ SaidR N f g ∧ BookR f g ∧ TextR f g ∧ f 10 3 = g 0 11
def Rel (f g : St) : Prop := ∃ W S N : Nat, V W S N f g ∧ Rest W N f g
theorem PastR.mv {W N : Nat} {f g f' g' : St} (h : PastR W N f g) (e1 : f' 20 = f 20 := by simp [su, upd, cpF, shF]) (e2 : f' 21 = f 21 := by simp [su, upd, cpF, shF]) (a : g' 0 25 = g 0 25 := by simp [su, upd, cpF, shF]) (b : g' 13 = g 13 := by simp [su, upd, cpF, shF]) : PastR W N f' g' := by
  unfold PastR at h ⊢
  rw [e1, e2, a, b]
  exact h
theorem ImgR.mv {W N : Nat} {f g f' g' : St} (h : ImgR W N f g) (e1 : f' 23 = f 23 := by simp [su, upd, cpF, shF]) (e2 : f' 25 = f 25 := by simp [su, upd, cpF, shF]) (e3 : f' 26 = f 26 := by simp [su, upd, cpF, shF]) (e4 : f' 28 = f 28 := by simp [su, upd, cpF, shF]) (a : g' 18 = g 18 := by simp [su, upd, cpF, shF]) (b : g' 19 = g 19 := by simp [su, upd, cpF, shF]) : ImgR W N f' g' := by
  unfold ImgR at h ⊢
  rw [e1, e2, e3, e4, a, b]
  exact h
theorem SeedR.mv {f g f' g' : St} (h : SeedR f g) (e1 : f' 0 5 = f 0 5 := by simp [su, upd, cpF, shF]) (a : g' 0 8 = g 0 8 := by simp [su, upd, cpF, shF]) : SeedR f' g' := by
  unfold SeedR at h ⊢
  rw [e1, a]
  exact h
theorem SaidR.mv {N : Nat} {f g f' g' : St} (h : SaidR N f g) (e1 : f' 32 4 = f 32 4 := by simp [su, upd, cpF, shF]) (e2 : f' 33 = f 33 := by simp [su, upd, cpF, shF]) (e3 : f' 34 = f 34 := by simp [su, upd, cpF, shF]) (a : g' 0 27 = g 0 27 := by simp [su, upd, cpF, shF]) (b : g' 14 = g 14 := by simp [su, upd, cpF, shF]) (c : g' 15 = g 15 := by simp [su, upd, cpF, shF]) : SaidR N f' g' := by
  unfold SaidR at h ⊢
  rw [e1, e2, e3, a, b, c]
  exact h
theorem BookR.mv {f g f' g' : St} (h : BookR f g) (e1 : f' 37 1 = f 37 1 := by simp [su, upd, cpF, shF]) (e2 : f' 38 = f 38 := by simp [su, upd, cpF, shF]) (a : g' 0 31 = g 0 31 := by simp [su, upd, cpF, shF]) (b : g' 17 = g 17 := by simp [su, upd, cpF, shF]) : BookR f' g' := by
  unfold BookR at h ⊢
  rw [e1, e2, a, b]
  exact h
theorem TextR.mv {f g f' g' : St} (h : TextR f g) (e1 : f' 1 1 = f 1 1 := by simp [su, upd, cpF, shF]) (e2 : f' 2 = f 2 := by simp [su, upd, cpF, shF]) (a : g' 0 10 = g 0 10 := by simp [su, upd, cpF, shF]) (b : g' 6 = g 6 := by simp [su, upd, cpF, shF]) : TextR f' g' := by
  unfold TextR at h ⊢
  rw [e1, e2, a, b]
  exact h
/-- nothing but scratch has changed -/
theorem Rest.mv {W N : Nat} {f g f' g' : St} (h : Rest W N f g) (k0 : f' 0 5 = f 0 5 := by simp [su, upd, cpF, shF]) (k1 : f' 1 1 = f 1 1 := by simp [su, upd, cpF, shF]) (k2 : f' 2 = f 2 := by simp [su, upd, cpF, shF]) (k10 : f' 10 3 = f 10 3 := by simp [su, upd, cpF, shF]) (k20 : f' 20 = f 20 := by simp [su, upd, cpF, shF]) (k21 : f' 21 = f 21 := by simp [su, upd, cpF, shF]) (k23 : f' 23 = f 23 := by simp [su, upd, cpF, shF]) (k25 : f' 25 = f 25 := by simp [su, upd, cpF, shF]) (k26 : f' 26 = f 26 := by simp [su, upd, cpF, shF]) (k28 : f' 28 = f 28 := by simp [su, upd, cpF, shF]) (k32 : f' 32 4 = f 32 4 := by simp [su, upd, cpF, shF]) (k33 : f' 33 = f 33 := by simp [su, upd, cpF, shF]) (k34 : f' 34 = f 34 := by simp [su, upd, cpF, shF]) (k37 : f' 37 1 = f 37 1 := by simp [su, upd, cpF, shF]) (k38 : f' 38 = f 38 := by simp [su, upd, cpF, shF])
    (a8 : g' 0 8 = g 0 8 := by simp [su, upd, cpF, shF]) (a10 : g' 0 10 = g 0 10 := by simp [su, upd, cpF, shF]) (a11 : g' 0 11 = g 0 11 := by simp [su, upd, cpF, shF]) (a25 : g' 0 25 = g 0 25 := by simp [su, upd, cpF, shF]) (a27 : g' 0 27 = g 0 27 := by simp [su, upd, cpF, shF]) (a31 : g' 0 31 = g 0 31 := by simp [su, upd, cpF, shF]) (b6 : g' 6 = g 6 := by simp [su, upd, cpF, shF]) (b13 : g' 13 = g 13 := by simp [su, upd, cpF, shF]) (b14 : g' 14 = g 14 := by simp [su, upd, cpF, shF]) (b15 : g' 15 = g 15 := by simp [su, upd, cpF, shF]) (b17 : g' 17 = g 17 := by simp [su, upd, cpF, shF]) (b18 : g' 18 = g 18 := by simp [su, upd, cpF, shF]) (b19 : g' 19 = g 19 := by simp [su, upd, cpF, shF]) : Rest W N f' g' := by
  obtain ⟨h1, h2, h3, h4, h5, h6, h7⟩ := h
  exact ⟨h1.mv k20 k21 a25 b13, h2.mv k23 k25 k26 k28 b18 b19, h3.mv k0 a8, h4.mv k32 k33 k34 a27 b14 b15, h5.mv k37 k38 a31 b17, h6.mv k1 k2 a10 b6, by rw [k10, a11]; exact h7⟩
theorem V.mv {W S N : Nat} {f g f' g' : St} (h : V W S N f g) (e3 : f' 3 = f 3 := by simp [su, upd, cpF, shF]) (e5 : f' 5 = f 5 := by simp [su, upd, cpF, shF]) (e6 : f' 6 = f 6 := by simp [su, upd, cpF, shF]) (e8 : f' 8 = f 8 := by simp [su, upd, cpF, shF]) (e9 : f' 9 = f 9 := by simp [su, upd, cpF, shF]) (e19 : f' 19 = f 19 := by simp [su, upd, cpF, shF]) (a0 : g' 0 0 = g 0 0 := by simp [su, upd, cpF, shF]) (a1 : g' 0 1 = g 0 1 := by simp [su, upd, cpF, shF]) (a4 : g' 0 4 = g 0 4 := by simp [su, upd, cpF, shF]) (b1 : g' 1 = g 1 := by simp [su, upd, cpF, shF]) (b2 : g' 2 = g 2 := by simp [su, upd, cpF, shF]) (b3 : g' 3 = g 3 := by simp [su, upd, cpF, shF]) (b4 : g' 4 = g 4 := by simp [su, upd, cpF, shF]) (b5 : g' 5 = g 5 := by simp [su, upd, cpF, shF]) : V W S N f' g' := by
  refine ⟨h.1.mv e3 e5 e6 e8 e9 a0 a1 a4 b1 b2 b3 b4, ?_⟩
  rw [e19, b5]
  exact h.2
/-- bounds of an argument -/
def rng (p : Int32) (n : Nat) : Bool := decide (0 ≤ p.toInt ∧ p.toInt < n)
theorem rng_nI {p : Int32} {n : Nat} (h : rng p n = true) : ∃ k, k < n ∧ p = nI k := by
  unfold rng at h
  have h1 := of_decide_eq_true h
  refine ⟨p.toInt.toNat, by omega, ?_⟩
  have hm : p.toInt < 2147483648 := Int32.toInt_lt p
  rw [eq_t, nI_toInt (by omega)]
  omega
theorem rng_cases (p : Int32) (n : Nat) : rng p n = false ∨ (rng p n = true ∧ ∃ k, k < n ∧ p = nI k) := by
  cases h : rng p n
  · exact Or.inl rfl
  · exact Or.inr ⟨rfl, rng_nI h⟩
def pl (W : Nat) : Nat := if W = 0 then 0 else W + 1
theorem c_rng {p : Int32} {n : Nat} (hn : n < 2 ^ 31) : (if p < 0 then (some (0 : Int32)) else (if nI n ≤ p then (some (0 : Int32)) else (some (1 : Int32)))) = some (b2i (rng p n)) := by
  have t0 : (0 : Int32).toInt = 0 := rfl
  have tn : (nI n).toInt = n := nI_toInt hn
  unfold rng
  by_cases h0 : p < 0
  · rw [if_pos h0]
    rw [lt_t, t0] at h0
    rw [decide_eq_false (by omega)]
    rfl
  · rw [if_neg h0]
    rw [lt_t, t0] at h0
    by_cases h1 : nI n ≤ p
    · rw [if_pos h1]
      rw [le_t, tn] at h1
      rw [decide_eq_false (by omega)]
      rfl
    · rw [if_neg h1]
      rw [le_t, tn] at h1
      rw [decide_eq_true (by omega)]
      rfl
theorem m_in {a b c : Int64} {g : St} : f_X12_in a b c g = some (b2i (decide (b.toInt ≤ a.toInt ∧ a.toInt ≤ c.toInt))) := by
  have k1 : (lg_cmp a b < 0) ↔ a.toInt < b.toInt := by
    unfold lg_cmp
    simp only [gt_iff_lt, Int64.lt_iff_toInt_lt, ← Int64.toInt_inj]
    by_cases h1 : b.toInt < a.toInt
    · rw [if_pos h1]
      exact ⟨fun h => absurd h (by decide), fun h => by omega⟩
    · rw [if_neg h1]
      by_cases h2 : a.toInt = b.toInt
      · rw [if_pos h2]
        exact ⟨fun h => absurd h (by decide), fun h => by omega⟩
      · rw [if_neg h2]
        exact ⟨fun _ => by omega, fun _ => by decide⟩
  have k2 : (0 < lg_cmp a c) ↔ c.toInt < a.toInt := by
    unfold lg_cmp
    simp only [gt_iff_lt, Int64.lt_iff_toInt_lt, ← Int64.toInt_inj]
    by_cases h1 : c.toInt < a.toInt
    · rw [if_pos h1]
      exact ⟨fun _ => h1, fun _ => by decide⟩
    · rw [if_neg h1]
      by_cases h2 : a.toInt = c.toInt
      · rw [if_pos h2]
        exact ⟨fun h => absurd h (by decide), fun h => by omega⟩
      · rw [if_neg h2]
        exact ⟨fun h => absurd h (by decide), fun h => by omega⟩
  unfold f_X12_in
  by_cases h1 : lg_cmp a b < 0
  · rw [if_pos h1]
    rw [k1] at h1
    rw [decide_eq_false (by omega)]
    rfl
  · rw [if_neg h1]
    rw [k1] at h1
    by_cases h2 : 0 < lg_cmp a c
    · rw [if_pos h2]
      rw [k2] at h2
      rw [decide_eq_false (by omega)]
      rfl
    · rw [if_neg h2]
      rw [k2] at h2
      rw [decide_eq_true (by omega)]
      rfl
theorem m_inN {p : Int32} {c : Int64} {n : Nat} {g : St} (hc : c.toInt = (n : Int) - 1) : f_X12_in p.toInt64 (0 : Int64) c g = some (b2i (rng p n)) := by
  rw [m_in]
  have t0 : (0 : Int64).toInt = 0 := rfl
  unfold rng
  rw [Int32.toInt_toInt64, t0, hc]
  congr 2
  simp only [decide_eq_decide]
  omega
theorem zr_b {b : Bool} : zr (b2i b) = some (b2i b) := by cases b <;> rfl
section HL
variable {W S N : Nat} {f g : St}
theorem pm1 {n : Nat} (hn : n < 2 ^ 30) : ((nI n - (1 : Int32)).toInt64).toInt = (n : Int) - 1 := by
  rw [Int32.toInt_toInt64, show nI n - (1 : Int32) = nI n - nI 1 from rfl, pk_sub_toInt hn (by omega)]
  rfl
theorem c_isSound (h : V W S N f g) (p : Int32) : f_X5_isSound_3 p f = some (b2i (rng p S)) := by
  have := h.S6
  unfold f_X5_isSound_3
  rw [h.fS]
  exact c_rng (by omega)
theorem c_isWitness (h : V W S N f g) (p : Int32) : f_X5_isWitness_3 p f = some (b2i (rng p N)) := by
  have := h.N7
  unfold f_X5_isWitness_3
  rw [h.fN]
  exact c_rng (by omega)
theorem c_isWall (h : V W S N f g) (p : Int32) : f_X5_isWall_3 p f = some (b2i (rng p W)) := by
  have := h.W8
  unfold f_X5_isWall_3
  rw [h.fW]
  exact c_rng (by omega)
theorem c_places (h : V W S N f g) : f_X5_places_3 f = some (nI (pl W)) := by
  have := h.W8
  unfold f_X5_places_3 pl
  rw [h.fW]
  by_cases h0 : W = 0
  · subst h0; rfl
  · rw [if_neg (nI_nle (by omega) (by omega)), if_neg h0]
    exact congrArg some (nI_1 W)
theorem m_places (h : V W S N f g) : f_X12_places g = some (nI (pl W)) := by
  have := h.W8
  unfold f_X12_places pl
  rw [h.gW]
  by_cases h0 : W = 0
  · subst h0; rfl
  · rw [if_neg (nI_ne0 (by omega) (by omega)), if_neg h0]
    exact congrArg some (nI_1 W)
theorem pl_le {W : Nat} (h : W ≤ 8) : pl W ≤ 9 := by unfold pl; split <;> omega
theorem pl_W {W k : Nat} (h : k < pl W) : k ≤ W := by unfold pl at h; split at h <;> omega
theorem c_isPlace (h : V W S N f g) (p : Int32) : f_X5_isPlace_3 p f = some (b2i (rng p (pl W))) := by
  have := pl_le h.W8
  unfold f_X5_isPlace_3
  rw [c_places h]
  exact c_rng (by omega)
theorem m_isSound (h : V W S N f g) (p : Int32) : f_X12_isSound p g = some (b2i (rng p S)) := by
  have := h.S6
  unfold f_X12_isSound
  rw [h.gS, m_inN (n := S) (pm1 (by omega))]
  exact zr_b
theorem m_isWitness (h : V W S N f g) (p : Int32) : f_X12_isWitness p g = some (b2i (rng p N)) := by
  have := h.N7
  unfold f_X12_isWitness
  rw [h.gN, m_inN (n := N) (pm1 (by omega))]
  exact zr_b
theorem m_isWall (h : V W S N f g) (p : Int32) : f_X12_in p.toInt64 (0 : Int64) (((g 0 0) - (1 : Int32)).toInt64) g = some (b2i (rng p W)) := by
  have := h.W8
  rw [h.gW, m_inN (n := W) (pm1 (by omega))]
theorem m_isPlace (h : V W S N f g) (p : Int32) : f_X12_isPlace p g = some (b2i (rng p (pl W))) := by
  have := pl_le h.W8
  unfold f_X12_isPlace
  rw [m_places h]
  show ((f_X12_in p.toInt64 (0 : Int64) ((nI (pl W) - (1 : Int32)).toInt64) g).bind _) = _
  rw [m_inN (n := pl W) (pm1 (by omega))]
  exact zr_b
theorem c_out {p m : Int32} {n : Nat} {f : St} (hm : m.toInt = (n : Int) - 1) : f_X11_isOutside p m f = some (b2i (!rng p n)) := by
  have t0 : (0 : Int32).toInt = 0 := rfl
  unfold f_X11_isOutside f_X11_isOutside_b9 rng
  by_cases h0 : p < 0
  · rw [if_pos h0]
    rw [lt_t, t0] at h0
    rw [decide_eq_false (by omega)]
    rfl
  · rw [if_neg h0]
    rw [lt_t, t0] at h0
    by_cases h1 : p ≤ m
    · rw [if_pos h1]
      rw [le_t, hm] at h1
      rw [decide_eq_true (by omega)]
      rfl
    · rw [if_neg h1]
      rw [le_t, hm] at h1
      rw [decide_eq_false (by omega)]
      rfl
theorem c_get (k : Nat) (hk : k < 28) : f_X8_get_18 (nI k) f = some (f 19 k) := by
  unfold f_X8_get_18
  rw [get_n hk (by omega)]
  rfl
theorem c_put (k : Nat) (hk : k < 28) (v : Int32) : f_X8_put_18 (nI k) v f = some (su f 19 k v) := by
  unfold f_X8_put_18
  rw [put_n hk (by omega)]
  rfl
end HL
/-- a question: both answer alike, nothing changes -/
theorem q_ok {f g : St} (hR : Rel f g) {A B : Option Int32} (e : ∃ r : Int32, A = some r ∧ B = some r) : ∃ (r : Int32) (f' g' : Nat → Nat → Int32), (A = some r ∧ f' = f) ∧ (B = some r ∧ g' = g) ∧ Rel f' g' := by
  obtain ⟨r, h1, h2⟩ := e
  exact ⟨r, f, g, ⟨h1, rfl⟩, ⟨h2, rfl⟩, hR⟩
