/-! Pairs, and who lied -/
theorem rng_b {k n : Nat} (hk : k < 2 ^ 31) : rng (nI k) n = decide (k < n) := by
  unfold rng
  rw [nI_toInt hk]
  by_cases h : k < n
  · rw [decide_eq_true h, decide_eq_true (by omega)]
  · rw [decide_eq_false h, decide_eq_false (by omega)]
theorem sgn_cases (p : Int32) : p < 0 ∨ ∃ q, q < 2 ^ 31 ∧ p = nI q := by
  by_cases h : p < 0
  · exact Or.inl h
  · have hb := p.toInt_lt
    have t0 : (0 : Int32).toInt = 0 := rfl
    rw [lt_t] at h
    exact Or.inr ⟨p.toInt.toNat, by omega, by rw [eq_t, nI_toInt (by omega)]; omega⟩
def prN (S P q : Nat) : Bool := decide (q = 100 ∨ (q / 10 < S ∧ q % 10 < P))
def CL (N C : Nat) (f g : St) : Prop := C ≤ 8 ∧ f 32 4 = nI C ∧ g 0 27 = nI C ∧ ∀ k, k < C → f 33 k = g 14 k ∧ f 34 k = g 15 k ∧ ∃ w, w < N ∧ g 14 k = nI w
def syP (g : St) (q : Nat) (v : Int32) : Int32 := if q = 100 then syN g v.toNatClampNeg else sy g v.toNatClampNeg (q / 10) (q % 10)
def lie (g : St) (q k : Nat) : Bool := !decide (syP g q (g 14 k) = g 15 k)
def liN (g : St) (C q : Nat) : Nat := cntN (lie g q) 0 C
def sndN (q : Nat) : Int32 := if q = 100 then -1 else nI (q / 10)
section PA
variable {W S N C : Nat} {f g : St}
theorem prN_100 {S P q : Nat} (h : prN S P q = true) (hS : S ≤ 6) : q ≤ 100 := by
  unfold prN at h
  rw [decide_eq_true_eq] at h
  omega
theorem c_isPair (h : V W S N f g) {q : Nat} (hq : q < 2 ^ 31) : f_X5_isPair_3 (nI q) f = some (b2i (prN S (pl W) q)) := by
  unfold f_X5_isPair_3 f_X5_isPair_3_b32 prN
  rw [show (100 : Int32) = nI 100 from rfl, show (10 : Int32) = nI 10 from rfl, pk_rem hq (by omega) (by omega), pk_div hq (by omega) (by omega)]
  by_cases e : q = 100
  · rw [if_pos (by rw [e]), decide_eq_true (Or.inl e)]; rfl
  · rw [if_neg (fun x => e ((nI_eq hq (by omega)).mp x)), if_neg (show ¬ nI q < (0 : Int32) from nI_nlt (a := q) (b := 0) (by omega) hq), bind_e (c_isSound h _), bind_e (c_isPlace h _), rng_b (by omega), rng_b (by omega)]
    by_cases e1 : q / 10 < S
    · rw [decide_eq_true e1, b2i_t, if1]
      by_cases e2 : q % 10 < pl W
      · rw [decide_eq_true e2, b2i_t, if1, decide_eq_true (Or.inr ⟨e1, e2⟩)]; rfl
      · rw [decide_eq_false e2, b2i_f, if0, decide_eq_false (by omega)]; rfl
    · rw [decide_eq_false e1, b2i_f, if0, decide_eq_false (by omega)]; rfl
theorem m_isPair (h : V W S N f g) {q : Nat} (hq : q < 2 ^ 31) : f_X12_isPair (nI q) g = some (b2i (prN S (pl W) q)) := by
  unfold f_X12_isPair f_X12_isPair_b32 prN
  rw [show (100 : Int32) = nI 100 from rfl, show (10 : Int32) = nI 10 from rfl, pk_rem hq (by omega) (by omega), pk_div hq (by omega) (by omega)]
  by_cases e : q = 100
  · rw [if_pos (by rw [e]), decide_eq_true (Or.inl e)]; rfl
  · rw [if_neg (fun x => e ((nI_eq hq (by omega)).mp x)), if_neg (show ¬ nI q < (0 : Int32) from nI_nlt (a := q) (b := 0) (by omega) hq), bind_e (m_isSound h _), bind_e (m_isPlace h _), rng_b (by omega), rng_b (by omega)]
    by_cases e1 : q / 10 < S
    · rw [decide_eq_true e1, b2i_t, if1]
      by_cases e2 : q % 10 < pl W
      · rw [decide_eq_true e2, b2i_t, if1, decide_eq_true (Or.inr ⟨e1, e2⟩)]; rfl
      · rw [decide_eq_false e2, b2i_f, if0, decide_eq_false (by omega)]; rfl
    · rw [decide_eq_false e1, b2i_f, if0, decide_eq_false (by omega)]; rfl
theorem neg100 {p : Int32} (hp : p < 0) : ¬ p = 100 := by
  intro e
  rw [e] at hp
  exact absurd hp (by decide)
theorem c_isPair_neg {p : Int32} (hp : p < 0) : f_X5_isPair_3 p f = some 0 := by
  unfold f_X5_isPair_3
  rw [if_neg (neg100 hp), if_pos hp]
theorem m_isPair_neg {p : Int32} (hp : p < 0) : f_X12_isPair p g = some 0 := by
  unfold f_X12_isPair
  rw [if_neg (neg100 hp), if_pos hp]
theorem c_sayP (h : V W S N f g) {q w : Nat} (hq : prN S (pl W) q = true) (hw : w < N) : f_X2_saying_29 (nI w) (sndN q) (nI (q % 10)) f = some (syP g q (nI w)) := by
  have hN := h.N7
  unfold sndN syP
  unfold prN at hq
  rw [decide_eq_true_eq] at hq
  rw [nI_clamp (by omega)]
  by_cases e : q = 100
  · rw [if_pos e, if_pos e]
    exact c_sayingN h hw _
  · rw [if_neg e, if_neg e]
    exact c_saying h hw (by omega) (pl_W (by omega))
theorem m_sayP (h : V W S N f g) {q w : Nat} (hq : prN S (pl W) q = true) (hw : w < N) : f_X12_sayingFor (nI w) (nI q) g = some (syP g q (nI w)) := by
  have hN := h.N7
  have hq1 := prN_100 hq h.S6
  unfold syP f_X12_sayingFor
  unfold prN at hq
  rw [decide_eq_true_eq] at hq
  rw [nI_clamp (by omega), show (100 : Int32) = nI 100 from rfl, show (10 : Int32) = nI 10 from rfl, pk_rem (by omega) (by omega) (by omega), pk_div (by omega) (by omega) (by omega)]
  by_cases e : q = 100
  · rw [if_pos (by rw [e]), if_pos e, ck_n (by omega) (by omega), bind_e (m_wid h)]
    unfold syN
    by_cases e1 : g 4 w = 1
    · rw [if_pos e1, if_pos e1]
    · rw [if_neg e1, if_neg e1]
  · rw [if_neg (fun x => e ((nI_eq (by omega) (by omega)).mp x)), if_neg e, bind_e (m_saying h hw (show q / 10 < S by omega) (pl_W (show q % 10 < pl W by omega)))]
theorem c_lia_loop (h : V W S N f g) (hc : CL N C f g) {q : Nat} (hq : prN S (pl W) q = true) : ∀ d n k a : Nat, k + d = C → d < n → f_X1_liarsOf_32_b10 n (nI q) (sndN q) (nI a) (nI k) f = some (nI (a + cntN (lie g q) k d)) := by
  have hq1 := prN_100 hq h.S6
  obtain ⟨hC, c1, c2, c3⟩ := hc
  intro d
  induction d with
  | zero =>
    intro n k a h1 h2
    obtain ⟨n, rfl⟩ : ∃ m, n = m + 1 := ⟨n - 1, by omega⟩
    simp only [f_X1_liarsOf_32_b10, f_X1_liarsOf_32_b10s]
    rw [c1, if_pos (nI_le (by omega) (by omega))]
    rfl
  | succ d ih =>
    intro n k a h1 h2
    obtain ⟨n, rfl⟩ : ∃ m, n = m + 1 := ⟨n - 1, by omega⟩
    obtain ⟨u1, u2, w, hw, u3⟩ := c3 k (by omega)
    simp only [f_X1_liarsOf_32_b10, f_X1_liarsOf_32_b10s, f_X1_liarsOf_32_b55]
    rw [c1, if_neg (nI_ge (by omega) (by omega)), bind_e (get_n (ka := 33) (f := f) (show k < 8 by omega) (by omega)), u1, u3, show (10 : Int32) = nI 10 from rfl, pk_rem (by omega) (by omega) (by omega), bind_e (c_sayP h hq hw), bind_e (get_n (ka := 34) (f := f) (show k < 8 by omega) (by omega)), u2, cntN_s, nI_1, nI_1]
    have el : lie g q k = !decide (syP g q (nI w) = g 15 k) := by unfold lie; rw [u3]
    by_cases e : syP g q (nI w) = g 15 k
    · rw [if_pos e, el, decide_eq_true e]
      refine (ih n (k + 1) _ (by omega) (by omega)).trans ?_
      simp
    · rw [if_neg e, el, decide_eq_false e]
      refine (ih n (k + 1) _ (by omega) (by omega)).trans ?_
      simp [Nat.add_assoc]
theorem c_liars (h : V W S N f g) (hc : CL N C f g) {q : Nat} (hq : prN S (pl W) q = true) : f_X1_liarsOf_32 (nI q) f = some (nI (liN g C q)) := by
  have hq1 := prN_100 hq h.S6
  have hC := hc.1
  have hl := c_lia_loop h hc hq C fuB 0 0 (by omega) (by unfold fuB; omega)
  rw [Nat.zero_add] at hl
  have hs : f_X1_soundOf (nI q) f = some (sndN q) := by
    unfold f_X1_soundOf sndN
    rw [show (100 : Int32) = nI 100 from rfl, show (10 : Int32) = nI 10 from rfl, pk_div (by omega) (by omega) (by omega)]
    by_cases e : q = 100
    · rw [if_pos (by rw [e]), if_pos e]
    · rw [if_neg (fun x => e ((nI_eq (by omega) (by omega)).mp x)), if_neg e]
  unfold f_X1_liarsOf_32
  rw [bind_e hs]
  exact hl
theorem m_lia_loop (h : V W S N f g) (hc : CL N C f g) {q : Nat} (hq : prN S (pl W) q = true) : ∀ d n k a : Nat, k + d = C → d < n → f_X12_liarsOf_b4 n (nI q) (nI a) (nI k) g = some (nI (a + cntN (lie g q) k d)) := by
  have hq1 := prN_100 hq h.S6
  obtain ⟨hC, c1, c2, c3⟩ := hc
  intro d
  induction d with
  | zero =>
    intro n k a h1 h2
    obtain ⟨n, rfl⟩ : ∃ m, n = m + 1 := ⟨n - 1, by omega⟩
    simp only [f_X12_liarsOf_b4, f_X12_liarsOf_b4s]
    rw [c2, if_pos (nI_le (by omega) (by omega))]
    rfl
  | succ d ih =>
    intro n k a h1 h2
    obtain ⟨n, rfl⟩ : ∃ m, n = m + 1 := ⟨n - 1, by omega⟩
    obtain ⟨u1, u2, w, hw, u3⟩ := c3 k (by omega)
    simp only [f_X12_liarsOf_b4, f_X12_liarsOf_b4s, f_X12_liarsOf_b38]
    rw [c2, if_neg (nI_ge (by omega) (by omega)), ck_n (by omega) (by omega), nI_clamp (by omega), u3, bind_e (m_sayP h hq hw), ck_n (by omega) (by omega), cntN_s, nI_1]
    have el : lie g q k = !decide (syP g q (nI w) = g 15 k) := by unfold lie; rw [u3]
    have g0 : nI a + (0 : Int32) = nI a := nI_add a 0
    by_cases e : syP g q (nI w) = g 15 k
    · rw [if_pos e, el, decide_eq_true e, g0]
      refine (ih n (k + 1) _ (by omega) (by omega)).trans ?_
      simp
    · rw [if_neg e, el, decide_eq_false e, nI_1]
      refine (ih n (k + 1) _ (by omega) (by omega)).trans ?_
      simp [Nat.add_assoc]
theorem m_liars (h : V W S N f g) (hc : CL N C f g) {q : Nat} (hq : prN S (pl W) q = true) : f_X12_liarsOf (nI q) g = some (nI (liN g C q)) := by
  have hC := hc.1
  have hl := m_lia_loop h hc hq C fuB 0 0 (by omega) (by unfold fuB; omega)
  rw [Nat.zero_add] at hl
  exact hl
end PA
theorem Rel.cl {f g : St} (hR : Rel f g) : ∃ W S N C : Nat, V W S N f g ∧ CL N C f g := by
  obtain ⟨W, S, N, hV, h1, h2, h3, ⟨C, hC⟩, h5⟩ := hR
  exact ⟨W, S, N, C, hV, hC⟩
theorem c_standsW {W S N : Nat} {f g : St} (h : V W S N f g) (hW : 0 < W) : f_X5_stands_3 f = some 1 := by
  rw [c_stands h, decide_eq_true hW]; rfl
theorem c_stands0 {S N : Nat} {f g : St} (h : V 0 S N f g) : f_X5_stands_3 f = some 0 := by
  rw [c_stands h, decide_eq_false (by omega)]; rfl
theorem m_stands0 {S N : Nat} {f g : St} (h : V 0 S N f g) : g 0 0 = 0 := h.gW
theorem m_standsW {W S N : Nat} {f g : St} (h : V W S N f g) (hW : 0 < W) : ¬ g 0 0 = 0 := by
  rw [h.gW]; exact nI_ne0 hW (by have := h.W8; omega)
theorem sim_liars : Sim_liars Rel := by
  intro f g hR p1
  obtain ⟨W, S, N, C, hV, hc⟩ := hR.cl
  rcases sgn_cases p1 with hp | ⟨q, hq, rfl⟩
  · refine ⟨(-1000000001 : Int32), f, g, ⟨?_, rfl⟩, ⟨?_, rfl⟩, hR⟩
    · unfold f_X11_liars
      rw [bind_e (c_isPair_neg hp), if0]
    · unfold f_X12_liars
      rw [bind_e (m_isPair_neg hp), if0]
  · cases e : prN S (pl W) q
    · refine ⟨(-1000000001 : Int32), f, g, ⟨?_, rfl⟩, ⟨?_, rfl⟩, hR⟩
      · unfold f_X11_liars
        rw [bind_e (c_isPair hV hq), e, b2i_f, if0]
      · unfold f_X12_liars
        rw [bind_e (m_isPair hV hq), e, b2i_f, if0]
    · by_cases h0 : W = 0
      · subst h0
        refine ⟨(-1000000003 : Int32), f, g, ⟨?_, rfl⟩, ⟨?_, rfl⟩, hR⟩
        · unfold f_X11_liars
          rw [bind_e (c_isPair hV hq), e, b2i_t, if1, bind_e (c_stands0 hV), if0]
        · unfold f_X12_liars
          rw [bind_e (m_isPair hV hq), e, b2i_t, if1, if_pos (m_stands0 hV)]
      · refine ⟨nI (liN g C q), f, g, ⟨?_, rfl⟩, ⟨?_, rfl⟩, hR⟩
        · unfold f_X11_liars
          rw [bind_e (c_isPair hV hq), e, b2i_t, if1, bind_e (c_standsW hV (by omega)), if1, bind_e (c_liars hV hc e)]
        · unfold f_X12_liars
          rw [bind_e (m_isPair hV hq), e, b2i_t, if1, if_neg (m_standsW hV (by omega)), bind_e (m_liars hV hc e)]
