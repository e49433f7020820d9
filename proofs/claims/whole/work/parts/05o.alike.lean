/-! Sounds that nobody can tell apart -/
section AL
variable {W S N : Nat} {f g : St}
def dif (g : St) (a b X w : Nat) : Bool := !decide (sy g w a X = sy g w b X)
def alk (g : St) (N a b X : Nat) : Bool := !anyN (dif g a b X) 0 N
theorem c_al_loop (h : V W S N f g) {a b X : Nat} (ha : a < S) (hb : b < S) (hX : X ≤ W) : ∀ d n w : Nat, w + d = N → d < n → f_X10_areAlike_30_b3 n (nI a) (nI b) (nI X) (nI w) f = some (b2i (!anyN (dif g a b X) w d)) := by
  have hN := h.N7
  intro d
  induction d with
  | zero =>
    intro n w h1 h2
    obtain ⟨n, rfl⟩ : ∃ m, n = m + 1 := ⟨n - 1, by omega⟩
    simp only [f_X10_areAlike_30_b3, f_X10_areAlike_30_b3s]
    rw [h.fN, if_pos (nI_le (by omega) (by omega))]
    rfl
  | succ d ih =>
    intro n w h1 h2
    obtain ⟨n, rfl⟩ : ∃ m, n = m + 1 := ⟨n - 1, by omega⟩
    simp only [f_X10_areAlike_30_b3, f_X10_areAlike_30_b3s]
    rw [h.fN, if_neg (nI_ge (by omega) (by omega)), bind_e (c_saying h (show w < N by omega) ha hX), bind_e (c_saying h (show w < N by omega) hb hX), anyN_s]
    unfold dif
    by_cases e : sy g w a X = sy g w b X
    · rw [if_pos e, nI_1, decide_eq_true e, Bool.not_true, Bool.false_or]
      exact ih n (w + 1) (by omega) (by omega)
    · rw [if_neg e, decide_eq_false e, Bool.not_false, Bool.true_or]
      rfl
theorem c_al (h : V W S N f g) {a b X : Nat} (ha : a < S) (hb : b < S) (hX : X ≤ W) : f_X10_areAlike_30 (nI a) (nI b) (nI X) f = some (b2i (alk g N a b X)) := by
  have hN := h.N7
  exact c_al_loop h ha hb hX N fuB 0 (by omega) (by unfold fuB; omega)
theorem m_al_loop (h : V W S N f g) {a b X : Nat} (ha : a < S) (hb : b < S) (hX : X ≤ W) : ∀ (d n w : Nat) (c : Bool), w + d = N → d < n → f_X12_areAlike_b6 n (nI a) (nI b) (nI X) (b2i c) (nI w) g = some (b2i (c && !anyN (dif g a b X) w d)) := by
  have hN := h.N7
  intro d
  induction d with
  | zero =>
    intro n w c h1 h2
    obtain ⟨n, rfl⟩ : ∃ m, n = m + 1 := ⟨n - 1, by omega⟩
    simp only [f_X12_areAlike_b6, f_X12_areAlike_b6s]
    rw [h.gN, if_pos (nI_le (by omega) (by omega)), zr_b]
    simp [anyN]
  | succ d ih =>
    intro n w c h1 h2
    obtain ⟨n, rfl⟩ : ∃ m, n = m + 1 := ⟨n - 1, by omega⟩
    simp only [f_X12_areAlike_b6, f_X12_areAlike_b6s]
    rw [h.gN, if_neg (nI_ge (by omega) (by omega))]
    unfold f_X12_areAlike_b43 f_X12_areAlike_b44
    have i0 := ih n (w + 1) false (by omega) (by omega)
    have i1 := ih n (w + 1) true (by omega) (by omega)
    rw [b2i_f] at i0
    rw [b2i_t] at i1
    cases c
    · rw [b2i_f, if0, nI_1]
      refine i0.trans ?_
      rw [Bool.false_and, Bool.false_and]
    · rw [b2i_t, if1, bind_e (m_saying h (show w < N by omega) ha hX), bind_e (m_saying h (show w < N by omega) hb hX), anyN_s]
      unfold dif at i0 i1 ⊢
      by_cases e : sy g w a X = sy g w b X
      · rw [if_pos e, nI_1, decide_eq_true e, Bool.not_true, Bool.false_or]
        exact i1
      · rw [if_neg e, decide_eq_false e, Bool.not_false, Bool.true_or, nI_1]
        exact i0
theorem m_al (h : V W S N f g) {a b X : Nat} (ha : a < S) (hb : b < S) (hX : X ≤ W) : f_X12_areAlike (nI a) (nI b) (nI X) g = some (b2i (alk g N a b X)) := by
  have hN := h.N7
  exact (m_al_loop h ha hb hX N fuB 0 true (by omega) (by unfold fuB; omega)).trans (by rw [Bool.true_and]; rfl)
def evL (A : Nat → Nat → Bool) (p : Int32) : List (Nat × Nat) → Nat → Int32
  | [], c => if p = -1 then nI c else -1
  | q :: L, c => if A q.1 q.2 then (if nI c = p then (10 : Int32) * nI q.1 + nI q.2 else evL A p L (c + 1)) else evL A p L c
def lcI (a : Nat) : Nat → Nat → List (Nat × Nat)
  | _, 0 => []
  | b, d + 1 => (a, b) :: lcI a (b + 1) d
def lcO (S : Nat) : Nat → Nat → List (Nat × Nat)
  | _, 0 => []
  | a, d + 1 => lcI a (a + 1) (S - (a + 1)) ++ lcO S (a + 1) d
def lmF (S : Nat) : Nat → Nat → List (Nat × Nat)
  | _, 0 => []
  | q, d + 1 => if q % 6 ≤ q / 6 then lmF S (q + 1) d else if S ≤ q % 6 then lmF S (q + 1) d else (q / 6, q % 6) :: lmF S (q + 1) d
theorem lists_eq : ∀ S, S ≤ 6 → lmF S 0 36 = lcO S 0 S := by decide +kernel
theorem evL_c {A : Nat → Nat → Bool} {p : Int32} {q : Nat × Nat} {L : List (Nat × Nat)} {c : Nat} : evL A p (q :: L) c = if A q.1 q.2 then (if nI c = p then (10 : Int32) * nI q.1 + nI q.2 else evL A p L (c + 1)) else evL A p L c := rfl
theorem c_ali_in (h : V W S N f g) {X a : Nat} (ha : a < S) (hX : X ≤ W) {p : Int32} {R : List (Nat × Nat)} {M : Nat} {K5 : Int32 → Int32 → Int32 → Int32 → Option Int32} (hK : ∀ c, c ≤ M → K5 (nI X) p (nI c) (nI (a + 1)) = some (evL (fun a b => alk g N a b X) p R c)) : ∀ d n b c : Nat, b + d = S → d < n → c + d ≤ M → f_X10_alikePair_30_b23 K5 n (nI X) p (nI c) (nI a) (nI b) f = some (evL (fun a b => alk g N a b X) p (lcI a b d ++ R) c) := by
  have hS := h.S6
  intro d
  induction d with
  | zero =>
    intro n b c h1 h2 h3
    obtain ⟨n, rfl⟩ : ∃ m, n = m + 1 := ⟨n - 1, by omega⟩
    simp only [f_X10_alikePair_30_b23, f_X10_alikePair_30_b23s]
    rw [h.fS, if_pos (nI_le (by omega) (by omega)), nI_1]
    exact hK c (by omega)
  | succ d ih =>
    intro n b c h1 h2 h3
    obtain ⟨n, rfl⟩ : ∃ m, n = m + 1 := ⟨n - 1, by omega⟩
    simp only [f_X10_alikePair_30_b23, f_X10_alikePair_30_b23s, f_X10_alikePair_30_b67]
    rw [h.fS, if_neg (nI_ge (by omega) (by omega)), bind_e (c_al h ha (show b < S by omega) hX)]
    unfold lcI
    rw [List.cons_append, evL_c]
    cases alk g N a b X
    · rw [b2i_f, if0, nI_1, if_neg (by decide)]
      exact ih n (b + 1) c (by omega) (by omega) (by omega)
    · rw [b2i_t, if1, if_pos rfl]
      by_cases e : nI c = p
      · rw [if_pos e, if_pos e]
      · rw [if_neg e, if_neg e, nI_1, nI_1]
        exact ih n (b + 1) (c + 1) (by omega) (by omega) (by omega)
theorem c_ali_out (h : V W S N f g) {X : Nat} (hX : X ≤ W) {p : Int32} : ∀ d n a c : Nat, a + d = S → d < n → c + 6 * d ≤ 100 → f_X10_alikePair_30_b5 n (nI X) p (nI c) (nI a) f = some (evL (fun a b => alk g N a b X) p (lcO S a d) c) := by
  have hS := h.S6
  intro d
  induction d with
  | zero =>
    intro n a c h1 h2 h3
    obtain ⟨n, rfl⟩ : ∃ m, n = m + 1 := ⟨n - 1, by omega⟩
    simp only [f_X10_alikePair_30_b5, f_X10_alikePair_30_b5s]
    rw [h.fS, if_pos (nI_le (by omega) (by omega))]
    unfold lcO evL
    by_cases e : p = -1
    · rw [if_pos e, if_pos e]
    · rw [if_neg e, if_neg e]
  | succ d ih =>
    intro n a c h1 h2 h3
    obtain ⟨n, rfl⟩ : ∃ m, n = m + 1 := ⟨n - 1, by omega⟩
    simp only [f_X10_alikePair_30_b5, f_X10_alikePair_30_b5s]
    rw [h.fS, if_neg (nI_ge (by omega) (by omega)), nI_1]
    exact c_ali_in h (show a < S by omega) hX (M := 100 - 6 * d) (fun c' hc' => ih n (a + 1) c' (by omega) (by omega) (by omega)) (S - (a + 1)) fuB (a + 1) c (by omega) (by unfold fuB; omega) (by omega)
theorem c_ali (h : V W S N f g) {X : Nat} (hX : X ≤ W) (p : Int32) : f_X10_alikePair_30 (nI X) p f = some (evL (fun a b => alk g N a b X) p (lcO S 0 S) 0) := by
  have hS := h.S6
  exact c_ali_out h hX S fuB 0 0 (by omega) (by unfold fuB; omega) (by omega)
theorem m_ali_loop (h : V W S N f g) {X : Nat} (hX : X ≤ W) {p : Int32} : ∀ d n q c : Nat, q + d = 36 → d < n → c ≤ q → f_X12_alike_b16 n (nI X) p (nI c) (nI q) g = some (evL (fun a b => alk g N a b X) p (lmF S q d) c) := by
  have hS := h.S6
  intro d
  induction d with
  | zero =>
    intro n q c h1 h2 h3
    obtain ⟨n, rfl⟩ : ∃ m, n = m + 1 := ⟨n - 1, by omega⟩
    simp only [f_X12_alike_b16, f_X12_alike_b16s]
    rw [show (36 : Int32) = nI 36 from rfl, if_pos (nI_le (a := 36) (by omega) (by omega))]
    unfold lmF evL
    by_cases e : p = -1
    · rw [if_pos e, if_pos e]
    · rw [if_neg e, if_neg e]
  | succ d ih =>
    intro n q c h1 h2 h3
    obtain ⟨n, rfl⟩ : ∃ m, n = m + 1 := ⟨n - 1, by omega⟩
    simp only [f_X12_alike_b16, f_X12_alike_b16s, nm, f_X12_alike_b82]
    rw [show (36 : Int32) = nI 36 from rfl, if_neg (nI_ge (b := 36) (by omega) (by omega)), show (6 : Int32) = nI 6 from rfl, pk_rem (by omega) (by omega) (by omega), pk_div (by omega) (by omega) (by omega)]
    unfold lmF
    by_cases e1 : q % 6 ≤ q / 6
    · rw [if_pos (nI_le e1 (by omega)), if_pos e1, nI_1]
      exact ih n (q + 1) c (by omega) (by omega) (by omega)
    · rw [if_neg (nI_ge (by omega) (by omega)), if_neg e1, h.gS]
      by_cases e2 : S ≤ q % 6
      · rw [if_pos (nI_le e2 (by omega)), if_pos e2, nI_1]
        exact ih n (q + 1) c (by omega) (by omega) (by omega)
      · rw [if_neg (nI_ge (by omega) (by omega)), if_neg e2, bind_e (m_al h (show q / 6 < S by omega) (show q % 6 < S by omega) hX), evL_c]
        cases alk g N (q / 6) (q % 6) X
        · rw [b2i_f, if0, nI_1, if_neg (by decide)]
          exact ih n (q + 1) c (by omega) (by omega) (by omega)
        · rw [b2i_t, if1, if_pos rfl]
          by_cases e : nI c = p
          · rw [if_pos e, if_pos e]
          · rw [if_neg e, if_neg e, nI_1, nI_1]
            exact ih n (q + 1) (c + 1) (by omega) (by omega) (by omega)
theorem m_ali (h : V W S N f g) {X : Nat} (hX : X ≤ W) (p : Int32) : f_X12_alike_b16 fuB (nI X) p (0 : Int32) (0 : Int32) g = some (evL (fun a b => alk g N a b X) p (lcO S 0 S) 0) := by
  rw [← lists_eq S h.S6]
  exact m_ali_loop h hX 36 fuB 0 0 (by omega) (by unfold fuB; omega) (by omega)
end AL
theorem sim_alike : Sim_alike Rel := by
  intro f g hR p1 p2
  obtain ⟨W, S, N, hV, hT⟩ := id hR
  rcases rng_cases p1 (pl W) with e | ⟨e, X, hX, rfl⟩
  · refine ⟨(-1000000001 : Int32), f, g, ⟨?_, rfl⟩, ⟨?_, rfl⟩, hR⟩
    · unfold f_X11_alike
      rw [bind_e (c_isPlace hV p1), e, b2i_f, if0]
    · unfold f_X12_alike
      rw [bind_e (m_isPlace hV p1), e, b2i_f, if0]
  · refine ⟨evL (fun a b => alk g N a b X) p2 (lcO S 0 S) 0, f, g, ⟨?_, rfl⟩, ⟨?_, rfl⟩, hR⟩
    · unfold f_X11_alike
      rw [bind_e (c_isPlace hV (nI X)), e, b2i_t, if1, bind_e (c_ali hV (pl_W hX) p2)]
    · unfold f_X12_alike
      rw [bind_e (m_isPlace hV (nI X)), e, b2i_t, if1]
      exact m_ali hV (pl_W hX) p2
