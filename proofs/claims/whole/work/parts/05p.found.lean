/-! Sets of places; the odds of a morning -/
theorem i_xor (a b : Nat) : nI a ^^^ nI b = nI (a ^^^ b) := by
  apply Int32.toBitVec_inj.1
  show BitVec.ofNat 32 a ^^^ BitVec.ofNat 32 b = BitVec.ofNat 32 (a ^^^ b)
  apply BitVec.eq_of_getLsbD_eq
  intro i hi
  simp [hi]
theorem m1_n : (-1 : Int32) = nI 4294967295 := by decide
theorem not_bit {m U k : Nat} (hk : k < 32) : (m &&& (U ^^^ 4294967295)).testBit k = (m.testBit k && !U.testBit k) := by
  rw [Nat.testBit_and, Nat.testBit_xor, show (4294967295 : Nat) = 2 ^ 32 - 1 from rfl, Nat.testBit_two_pow_sub_one, decide_eq_true hk]
  cases m.testBit k <;> cases U.testBit k <;> rfl
def cntN (Q : Nat → Bool) : Nat → Nat → Nat
  | _, 0 => 0
  | k, d + 1 => (Q k).toNat + cntN Q (k + 1) d
theorem cntN_s {Q : Nat → Bool} {k d : Nat} : cntN Q k (d + 1) = (Q k).toNat + cntN Q (k + 1) d := rfl
theorem cntN_congr {P Q : Nat → Bool} : ∀ d y : Nat, (∀ k, y ≤ k → k < y + d → P k = Q k) → cntN P y d = cntN Q y d := by
  intro d
  induction d with
  | zero => intro y h; rfl
  | succ d ih =>
    intro y h
    rw [cntN_s, cntN_s, h y (by omega) (by omega), ih (y + 1) (fun k h1 h2 => h k (by omega) (by omega))]
theorem cntN_le {Q : Nat → Bool} : ∀ d y : Nat, cntN Q y d ≤ d := by
  intro d
  induction d with
  | zero => intro y; exact Nat.le_refl _
  | succ d ih =>
    intro y
    rw [cntN_s]
    have := ih (y + 1)
    have : (Q y).toNat ≤ 1 := by cases Q y <;> decide
    omega
theorem cntN_0 {Q : Nat → Bool} : ∀ d y : Nat, (∀ k, y ≤ k → k < y + d → Q k = false) → cntN Q y d = 0 := by
  intro d
  induction d with
  | zero => intro y h; rfl
  | succ d ih =>
    intro y h
    rw [cntN_s, h y (by omega) (by omega), ih (y + 1) (fun k h1 h2 => h k (by omega) (by omega))]
    rfl
theorem cntN_app {Q : Nat → Bool} : ∀ a b y : Nat, cntN Q y (a + b) = cntN Q y a + cntN Q (y + a) b := by
  intro a
  induction a with
  | zero => intro b y; simp [cntN]
  | succ a ih =>
    intro b y
    rw [show a + 1 + b = (a + b) + 1 by omega, cntN_s, cntN_s, ih b (y + 1), show y + 1 + a = y + (a + 1) by omega]
    omega
theorem popN_cnt {m : Nat} : ∀ d k : Nat, popN m k d = cntN m.testBit k d := by
  intro d
  induction d with
  | zero => intro k; rfl
  | succ d ih =>
    intro k
    rw [popN_s, cntN_s, ih (k + 1), Nat.toNat_testBit]
theorem orN_bit {P : Nat → Bool} {k : Nat} : ∀ d y acc : Nat, (orN P acc y d).testBit k = (acc.testBit k || (decide (y ≤ k ∧ k < y + d) && P k)) := by
  intro d
  induction d with
  | zero =>
    intro y acc
    rw [decide_eq_false (by omega), Bool.false_and, Bool.or_false]
    rfl
  | succ d ih =>
    intro y acc
    rw [orN_s, ih]
    by_cases e : y = k
    · subst e
      rw [decide_eq_false (by omega), decide_eq_true (by omega), Bool.false_and, Bool.or_false, Bool.true_and]
      cases P y
      · simp
      · simp [Nat.testBit_or]
    · have : (if P y = true then acc ||| 2 ^ y else acc).testBit k = acc.testBit k := by
        cases P y
        · rfl
        · rw [if_pos rfl, Nat.testBit_or, Nat.testBit_two_pow, decide_eq_false e, Bool.or_false]
      rw [this]
      by_cases h : y + 1 ≤ k ∧ k < y + 1 + d
      · rw [decide_eq_true h, decide_eq_true (by omega)]
      · rw [decide_eq_false h, decide_eq_false (by omega)]
theorem c_arePl {W S N : Nat} {f g : St} (h : V W S N f g) (p : Int32) : f_X5_arePlaces_3 p f = some (b2i (rng p (2 ^ pl W))) := by
  have hp := pl_le h.W8
  have h2 : 2 ^ pl W ≤ 2 ^ 9 := Nat.pow_le_pow_right (by omega) hp
  unfold f_X5_arePlaces_3
  rw [← c_rng (p := p) (n := 2 ^ pl W) (by omega), c_places h]
  simp only [Option.bind_some]
  rw [bit_n _ (by omega)]
theorem m_isPls {W S N : Nat} {f g : St} (h : V W S N f g) (p : Int32) : f_X12_isPlaces p g = some (b2i (rng p (2 ^ pl W))) := by
  have hp := pl_le h.W8
  have h2 : 2 ^ pl W ≤ 2 ^ 9 := Nat.pow_le_pow_right (by omega) hp
  unfold f_X12_isPlaces
  rw [bind_e (m_places h), bit_n _ (by omega), bind_e (m_inN (p := p) (n := 2 ^ pl W) (pm1 (by omega))), zr_b]
theorem m_has {m k : Nat} (hm : m < 2 ^ 31) (hk : k < 16) (g : St) : f_X12_has (nI m) (nI k) g = some (b2i (m.testBit k)) := by
  unfold f_X12_has
  rw [bitN hm hk, ← Nat.toNat_testBit]
  cases m.testBit k <;> rfl
section FO
variable {W S N : Nat} {f g : St}
def hm (g : St) (N m s k : Nat) : Bool := m.testBit k && heard g N s k
def sumH (g : St) (N m P : Nat) : Nat → Nat → Nat
  | _, 0 => 0
  | s, d + 1 => cntN (hm g N m s) 0 P + sumH g N m P (s + 1) d
theorem sumH_s {m P s d : Nat} : sumH g N m P s (d + 1) = cntN (hm g N m s) 0 P + sumH g N m P (s + 1) d := rfl
theorem sumH_le {m P : Nat} : ∀ d s : Nat, sumH g N m P s d ≤ d * P := by
  intro d
  induction d with
  | zero => intro s; exact Nat.zero_le _
  | succ d ih =>
    intro s
    have := ih (s + 1)
    have := cntN_le (Q := hm g N m s) P 0
    rw [Nat.succ_mul]
    unfold sumH
    omega
theorem c_heardbits (h : V W S N f g) {s m : Nat} (hs : s < S) (hm9 : m < 2 ^ pl W) : f_J6_bitCount_0f7a4 (nI m &&& (nI (orN (fun X => !heard g N s X) 0 0 (pl W)) ^^^ (-1 : Int32))) f = some (nI (cntN (hm g N m s) 0 (pl W))) := by
  have hp := pl_le h.W8
  have h2 : 2 ^ pl W ≤ 2 ^ 9 := Nat.pow_le_pow_right (by omega) hp
  rw [m1_n, i_xor, i_and, c_bits (Nat.lt_of_le_of_lt Nat.and_le_left (by omega))]
  unfold pc
  rw [popN_cnt, show 9 = pl W + (9 - pl W) by omega, cntN_app, cntN_0 (9 - pl W) (0 + pl W) (fun k h1 h3 => ?_), Nat.add_zero, cntN_congr (Q := hm g N m s) (pl W) 0 (fun k h1 h3 => ?_)]
  · rw [not_bit (by omega), orN_bit, decide_eq_true (by omega), Nat.zero_testBit]
    unfold hm
    simp
  · rw [Nat.testBit_and, Nat.testBit_lt_two_pow (Nat.lt_of_lt_of_le hm9 (Nat.pow_le_pow_right (by omega) (by omega))), Bool.false_and]
theorem c_odds_loop (h : V W S N f g) {m T : Nat} (hm9 : m < 2 ^ pl W) (hT : 0 < T) (hT2 : T < 1000) : ∀ d n s acc : Nat, s + d = S → d < n → acc + 9 * d ≤ 100 → f_X10_oddsOfHearing_30_b24 n (nI m) (nI T) (nI acc) (nI s) f = some (nI ((acc + sumH g N m (pl W) s d) * 1000000 / T)) := by
  have hS := h.S6
  have hp := pl_le h.W8
  intro d
  induction d with
  | zero =>
    intro n s acc h1 h2 h3
    obtain ⟨n, rfl⟩ : ∃ m, n = m + 1 := ⟨n - 1, by omega⟩
    simp only [f_X10_oddsOfHearing_30_b24, f_X10_oddsOfHearing_30_b24s]
    rw [h.fS, if_pos (nI_le (by omega) (by omega)), dz_n hT (by omega), show (1000000 : Int32) = nI 1000000 from rfl, pk_mul, pk_div (by omega) hT (by omega)]
    rfl
  | succ d ih =>
    intro n s acc h1 h2 h3
    obtain ⟨n, rfl⟩ : ∃ m, n = m + 1 := ⟨n - 1, by omega⟩
    have hc := cntN_le (Q := hm g N m s) (pl W) 0
    simp only [f_X10_oddsOfHearing_30_b24, f_X10_oddsOfHearing_30_b24s]
    rw [h.fS, if_neg (nI_ge (by omega) (by omega)), bind_e (c_unheard h (show s < S by omega)), bind_e (c_heardbits h (show s < S by omega) hm9), nI_add, nI_1]
    refine (ih n (s + 1) _ (by omega) (by omega) (by omega)).trans ?_
    rw [sumH_s, Nat.add_assoc]
theorem fnd_in (h : V W S N f g) {s m : Nat} (hs : s < S) (hm9 : m < 2 ^ pl W) {K18 : Int32 → Int32 → Int32 → Int32 → Option Int32} : ∀ d n k a b : Nat, k + d = pl W → d < n → f_X12_found_b30 K18 n (nI m) (nI a) (nI b) (nI s) (nI k) g = K18 (nI m) (nI (a + cntN m.testBit k d)) (nI (b + cntN (hm g N m s) k d)) (nI (s + 1)) := by
  have hp := pl_le h.W8
  have h2 : 2 ^ pl W ≤ 2 ^ 9 := Nat.pow_le_pow_right (by omega) hp
  intro d
  induction d with
  | zero =>
    intro n k a b h1 h2
    obtain ⟨n, rfl⟩ : ∃ m, n = m + 1 := ⟨n - 1, by omega⟩
    simp only [f_X12_found_b30, f_X12_found_b30s]
    rw [bind_e (m_places h), if_pos (nI_le (by omega) (by omega)), nI_1]
    rfl
  | succ d ih =>
    intro n k a b h1 h2
    obtain ⟨n, rfl⟩ : ∃ m, n = m + 1 := ⟨n - 1, by omega⟩
    simp only [f_X12_found_b30, f_X12_found_b30s, nm, f_X12_found_b73, f_X12_found_b74]
    rw [bind_e (m_places h), if_neg (nI_ge (by omega) (by omega)), bind_e (m_has (show m < 2 ^ 31 by omega) (by omega) g), bitN (by omega) (by omega), ← Nat.toNat_testBit, nI_add, cntN_s, cntN_s]
    have g0 : ∀ b : Nat, nI b + (0 : Int32) = nI b := fun b => nI_add b 0
    cases hb : m.testBit k
    · have e : hm g N m s k = false := by unfold hm; rw [hb]; rfl
      rw [b2i_f, if0, nI_1, g0, e]
      refine (ih n (k + 1) _ _ (by omega) (by omega)).trans ?_
      simp [Nat.add_assoc]
    · have e : hm g N m s k = heard g N s k := by unfold hm; rw [hb]; rfl
      rw [b2i_t, if1, bind_e (m_isHeard h hs (pl_W (show k < pl W by omega))), e, nI_1]
      cases heard g N s k
      · rw [b2i_f, if0, g0]
        refine (ih n (k + 1) _ _ (by omega) (by omega)).trans ?_
        simp [Nat.add_assoc]
      · rw [b2i_t, if1, nI_1]
        refine (ih n (k + 1) _ _ (by omega) (by omega)).trans ?_
        simp [Nat.add_assoc]
theorem fnd_in_all (h : V W S N f g) {s m : Nat} (hs : s < S) (hm9 : m < 2 ^ pl W) {K18 : Int32 → Int32 → Int32 → Int32 → Option Int32} (a b : Nat) : f_X12_found_b30 K18 fuB (nI m) (nI a) (nI b) (nI s) (0 : Int32) g = K18 (nI m) (nI (a + cntN m.testBit 0 (pl W))) (nI (b + cntN (hm g N m s) 0 (pl W))) (nI (s + 1)) := by
  have hp := pl_le h.W8
  exact fnd_in h hs hm9 (pl W) fuB 0 a b (by omega) (by unfold fuB; omega)
def fndV (T A : Nat) : Int32 := if T = 0 then 0 else nI (A * 1000000 / T)
theorem fnd_out (h : V W S N f g) {m : Nat} (hm9 : m < 2 ^ pl W) : ∀ d n s a b : Nat, s + d = S → d < n → a + 9 * d ≤ 100 → b + 9 * d ≤ 100 → f_X12_found_b18 n (nI m) (nI a) (nI b) (nI s) g = some (fndV (a + d * cntN m.testBit 0 (pl W)) (b + sumH g N m (pl W) s d)) := by
  have hS := h.S6
  have hp := pl_le h.W8
  intro d
  induction d with
  | zero =>
    intro n s a b h1 h2 h3 h4
    obtain ⟨n, rfl⟩ : ∃ m, n = m + 1 := ⟨n - 1, by omega⟩
    simp only [f_X12_found_b18, f_X12_found_b18s]
    rw [h.gS, if_pos (nI_le (by omega) (by omega)), Nat.zero_mul, Nat.add_zero]
    unfold fndV sumH
    by_cases e : a = 0
    · rw [if_pos e, e, if_pos (show nI 0 = (0 : Int32) from rfl)]
    · rw [if_neg e, if_neg (nI_ne0 (by omega) (by omega)), nI_l (by omega), nI_l (by omega), show (1000000 : Int64) = lN 1000000 from rfl, lN_mul, pk_lDiv (by omega) (by omega) (by omega), lN_i]
      have : ¬ lN a = 0 := fun q => e ((pk_lEQ (a := a) (b := 0) (by omega) (by omega)).mp q)
      unfold dzL
      rw [if_neg this]
      rfl
  | succ d ih =>
    intro n s a b h1 h2 h3 h4
    obtain ⟨n, rfl⟩ : ∃ m, n = m + 1 := ⟨n - 1, by omega⟩
    have hc1 := cntN_le (Q := m.testBit) (pl W) 0
    have hc2 := cntN_le (Q := hm g N m s) (pl W) 0
    simp only [f_X12_found_b18, f_X12_found_b18s]
    rw [h.gS, if_neg (nI_ge (by omega) (by omega)), fnd_in_all h (show s < S by omega) hm9]
    refine (ih n (s + 1) _ _ (by omega) (by omega) (by omega) (by omega)).trans ?_
    rw [Nat.succ_mul, sumH_s]
    rw [show a + cntN m.testBit 0 (pl W) + d * cntN m.testBit 0 (pl W) = a + (d * cntN m.testBit 0 (pl W) + cntN m.testBit 0 (pl W)) by omega, Nat.add_assoc b]
theorem m_found (h : V W S N f g) {m : Nat} (hm9 : m < 2 ^ pl W) : f_X12_found_b18 fuB (nI m) (0 : Int32) (0 : Int32) (0 : Int32) g = some (fndV (S * cntN m.testBit 0 (pl W)) (sumH g N m (pl W) 0 S)) := by
  have hS := h.S6
  refine (fnd_out h hm9 S fuB 0 0 0 (by omega) (by unfold fuB; omega) (by omega) (by omega)).trans ?_
  rw [Nat.zero_add, Nat.zero_add]
theorem c_odds_all (h : V W S N f g) {m T : Nat} (hm9 : m < 2 ^ pl W) (hT : 0 < T) (hT2 : T < 1000) : f_X10_oddsOfHearing_30_b24 fuB (nI m) (nI T) (0 : Int32) (0 : Int32) f = some (nI (sumH g N m (pl W) 0 S * 1000000 / T)) := by
  have hS := h.S6
  refine (c_odds_loop h hm9 hT hT2 S fuB 0 0 (by omega) (by unfold fuB; omega) (by omega)).trans ?_
  rw [Nat.zero_add]
theorem c_found (h : V W S N f g) {m : Nat} (hm9 : m < 2 ^ pl W) : f_X10_oddsOfHearing_30 (nI m) f = some (fndV (S * cntN m.testBit 0 (pl W)) (sumH g N m (pl W) 0 S)) := by
  have hS := h.S6
  have hp := pl_le h.W8
  have h2 : 2 ^ pl W ≤ 2 ^ 9 := Nat.pow_le_pow_right (by omega) hp
  have hpc : pc m = cntN m.testBit 0 (pl W) := by
    unfold pc
    rw [popN_cnt, show 9 = pl W + (9 - pl W) by omega, cntN_app, cntN_0 (9 - pl W) (0 + pl W) (fun k h1 h3 => Nat.testBit_lt_two_pow (Nat.lt_of_lt_of_le hm9 (Nat.pow_le_pow_right (by omega) (by omega)))), Nat.add_zero]
  have hb : S * cntN m.testBit 0 (pl W) ≤ 6 * 9 := Nat.mul_le_mul hS (Nat.le_trans (cntN_le _ _) hp)
  unfold f_X10_oddsOfHearing_30
  rw [bind_e (c_bits (show m < 512 by omega) f), h.fS, pk_mul, hpc]
  unfold fndV
  by_cases e : S * cntN m.testBit 0 (pl W) = 0
  · rw [if_pos e, e, if_neg (show ¬ (0 : Int32) < nI 0 by decide)]
  · rw [if_neg e, if_pos (lt0n (by omega) (by omega))]
    exact c_odds_all h hm9 (by omega) (by omega)
end FO
theorem sim_found : Sim_found Rel := by
  intro f g hR p1
  obtain ⟨W, S, N, hV, hT⟩ := id hR
  rcases rng_cases p1 (2 ^ pl W) with e | ⟨e, m, hm9, rfl⟩
  · refine ⟨(-1000000001 : Int32), f, g, ⟨?_, rfl⟩, ⟨?_, rfl⟩, hR⟩
    · unfold f_X11_found
      rw [bind_e (c_arePl hV p1), e, b2i_f, if0]
    · unfold f_X12_found
      rw [bind_e (m_isPls hV p1), e, b2i_f, if0]
  · refine ⟨fndV (S * cntN m.testBit 0 (pl W)) (sumH g N m (pl W) 0 S), f, g, ⟨?_, rfl⟩, ⟨?_, rfl⟩, hR⟩
    · unfold f_X11_found
      rw [bind_e (c_arePl hV (nI m)), e, b2i_t, if1, bind_e (c_found hV hm9)]
    · unfold f_X12_found
      rw [bind_e (m_isPls hV (nI m)), e, b2i_t, if1]
      exact m_found hV hm9
