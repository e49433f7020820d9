/-! The fewest ears -/
section EA
variable {W S N : Nat} {f g : St}
def lsN (g : St) (P s : Nat) (e : Int32) (k : Nat) : Nat := orN (lsP g s k e) 0 0 P
def cvP (g : St) (P s : Nat) (e : Int32) (m j k : Nat) : Bool := m.testBit k && decide (lsN g P s e k &&& j = 0)
def cvA (g : St) (P s : Nat) (e : Int32) (m j : Nat) : Bool := !anyN (cvP g P s e m j) 0 P
def encO : Option Nat → Int32
  | none => -1
  | some b => nI b
def stpO (A : Nat → Bool) (j : Nat) : Option Nat → Option Nat
  | none => if A j then some j else none
  | some b => if pc b ≤ pc j then some b else if A j then some j else some b
def bstO (A : Nat → Bool) : Nat → Nat → Option Nat → Option Nat
  | _, 0, o => o
  | j, d + 1, o => bstO A (j + 1) d (stpO A j o)
theorem lsN_lt (h : V W S N f g) {s : Nat} {e : Int32} {k : Nat} : lsN g (pl W) s e k < 512 := by
  have hp := pl_le h.W8
  exact orN_lt (M := 9) (pl W) 0 0 (by omega) (by omega)
theorem c_cov_loop (h : V W S N f g) {s m j : Nat} {e : Int32} (hm9 : m < 512) (hr : ∀ k, k < pl W → f 31 k = nI (lsN g (pl W) s e k)) (hj : j < 512) : ∀ d n k : Nat, k + d = pl W → d < n → f_X10_coverAll_30_b2 n (nI j) (nI m) (nI k) f = some (b2i (!anyN (cvP g (pl W) s e m j) k d)) := by
  have hp := pl_le h.W8
  intro d
  induction d with
  | zero =>
    intro n k h1 h2
    obtain ⟨n, rfl⟩ : ∃ m, n = m + 1 := ⟨n - 1, by omega⟩
    simp only [f_X10_coverAll_30_b2, f_X10_coverAll_30_b2s]
    rw [bind_e (c_places h), if_pos (nI_le (by omega) (by omega))]
    rfl
  | succ d ih =>
    intro n k h1 h2
    obtain ⟨n, rfl⟩ : ∃ m, n = m + 1 := ⟨n - 1, by omega⟩
    have hl := lsN_lt h (s := s) (e := e) (k := k)
    have hand : j &&& lsN g (pl W) s e k < 512 := Nat.lt_of_le_of_lt Nat.and_le_left hj
    simp only [f_X10_coverAll_30_b2, f_X10_coverAll_30_b2s, f_X10_coverAll_30_b36]
    rw [bind_e (c_places h), if_neg (nI_ge (by omega) (by omega)), bitN (by omega) (by omega), ← Nat.toNat_testBit, bind_e (get_n (ka := 31) (f := f) (show k < 9 by omega) (by omega)), hr k (by omega), i_and, anyN_s]
    have i0 := ih n (k + 1) (by omega) (by omega)
    cases hb : m.testBit k
    · have e0 : cvP g (pl W) s e m j k = false := by unfold cvP; rw [hb]; rfl
      rw [show nI (Bool.toNat false) = (0 : Int32) from rfl, if0, nI_1, e0, Bool.false_or]
      exact i0
    · rw [show nI (Bool.toNat true) = (1 : Int32) from rfl, if1]
      by_cases hz : j &&& lsN g (pl W) s e k = 0
      · have e0 : cvP g (pl W) s e m j k = true := by unfold cvP; rw [hb, Nat.and_comm, decide_eq_true hz]; rfl
        rw [if_pos (show nI (j &&& lsN g (pl W) s e k) = 0 by rw [hz]; rfl), e0]
        rfl
      · have e0 : cvP g (pl W) s e m j k = false := by unfold cvP; rw [hb, Nat.and_comm, decide_eq_false hz]; rfl
        rw [if_neg (nI_ne0 (by omega) (by omega)), e0, Bool.false_or, nI_1]
        exact i0
theorem c_cov (h : V W S N f g) {s m j : Nat} {e : Int32} (hm9 : m < 512) (hr : ∀ k, k < pl W → f 31 k = nI (lsN g (pl W) s e k)) (hj : j < 512) : f_X10_coverAll_30 (nI j) (nI m) f = some (b2i (cvA g (pl W) s e m j)) := by
  have hp := pl_le h.W8
  exact c_cov_loop h hm9 hr hj (pl W) fuB 0 (by omega) (by unfold fuB; omega)
theorem m_cov_loop (h : V W S N f g) {s m j : Nat} {e : Int32} (hs : s < S) (hm9 : m < 512) (hj : j < 512) : ∀ (d n k : Nat) (c : Bool), k + d = pl W → d < n → f_X12_allHeard_b6 n (nI s) (nI m) e (nI j) (b2i c) (nI k) g = some (b2i (c && !anyN (cvP g (pl W) s e m j) k d)) := by
  have hp := pl_le h.W8
  intro d
  induction d with
  | zero =>
    intro n k c h1 h2
    obtain ⟨n, rfl⟩ : ∃ m, n = m + 1 := ⟨n - 1, by omega⟩
    simp only [f_X12_allHeard_b6, f_X12_allHeard_b6s]
    rw [bind_e (m_places h), if_pos (nI_le (by omega) (by omega)), zr_b]
    simp [anyN]
  | succ d ih =>
    intro n k c h1 h2
    obtain ⟨n, rfl⟩ : ∃ m, n = m + 1 := ⟨n - 1, by omega⟩
    have hl := lsN_lt h (s := s) (e := e) (k := k)
    have hand : lsN g (pl W) s e k &&& j < 512 := Nat.lt_of_le_of_lt Nat.and_le_left hl
    simp only [f_X12_allHeard_b6, f_X12_allHeard_b6s, f_X12_allHeard_b43, f_X12_allHeard_b47, f_X12_allHeard_b48]
    rw [bind_e (m_places h), if_neg (nI_ge (by omega) (by omega)), nI_1]
    have i0 := ih n (k + 1) false (by omega) (by omega)
    have i1 := ih n (k + 1) true (by omega) (by omega)
    rw [b2i_f, Bool.false_and] at i0
    rw [b2i_t, Bool.true_and] at i1
    cases c
    · rw [b2i_f, if0, Bool.false_and]
      exact i0
    · rw [b2i_t, if1, bind_e (m_has (show m < 2 ^ 31 by omega) (by omega) g), Bool.true_and, anyN_s]
      cases hb : m.testBit k
      · have e0 : cvP g (pl W) s e m j k = false := by unfold cvP; rw [hb]; rfl
        rw [b2i_f, if0, e0, Bool.false_or]
        exact i1
      · rw [b2i_t, if1, bind_e (m_listenTo h hs (pl_W (show k < pl W by omega)) e), i_and]
        by_cases hz : lsN g (pl W) s e k &&& j = 0
        · have e0 : cvP g (pl W) s e m j k = true := by unfold cvP; rw [hb, decide_eq_true hz]; rfl
          rw [if_pos (show nI (orN (lsP g s k e) 0 0 (pl W) &&& j) = 0 by unfold lsN at hz; rw [hz]; rfl), e0, Bool.true_or]
          exact i0
        · have e0 : cvP g (pl W) s e m j k = false := by unfold cvP; rw [hb, decide_eq_false hz]; rfl
          rw [e0, Bool.false_or]
          unfold lsN at hz hand
          rw [if_neg (nI_ne0 (by omega) (by omega))]
          exact i1
theorem m_cov (h : V W S N f g) {s m j : Nat} {e : Int32} (hs : s < S) (hm9 : m < 512) (hj : j < 512) : f_X12_allHeard (nI s) (nI m) e (nI j) g = some (b2i (cvA g (pl W) s e m j)) := by
  have hp := pl_le h.W8
  exact (m_cov_loop h hs hm9 hj (pl W) fuB 0 true (by omega) (by unfold fuB; omega)).trans (by rw [Bool.true_and]; rfl)
theorem stpO_lt {A : Nat → Bool} {j : Nat} {o : Option Nat} (hj : j < 512) (ho : ∀ b, o = some b → b < 512) : ∀ b, stpO A j o = some b → b < 512 := by
  intro b hb
  cases o with
  | none =>
    unfold stpO at hb
    cases hA : A j
    · rw [hA, if_neg (by decide)] at hb; exact absurd hb (by simp)
    · rw [hA, if_pos rfl] at hb; injection hb with hb; omega
  | some a =>
    unfold stpO at hb
    have := ho a rfl
    by_cases hc : pc a ≤ pc j
    · simp only [if_pos hc] at hb; injection hb with hb; omega
    · simp only [if_neg hc] at hb
      cases hA : A j
      · rw [hA, if_neg (by decide)] at hb; injection hb with hb; omega
      · rw [hA, if_pos rfl] at hb; injection hb with hb; omega
theorem c_best_loop (h : V W S N f g) {m : Nat} {A : Nat → Bool} (hA : ∀ j, j < 512 → f_X10_coverAll_30 (nI j) (nI m) f = some (b2i (A j))) : ∀ (d n j : Nat) (o : Option Nat), j + d = 2 ^ pl W → d < n → (∀ b, o = some b → b < 512) → f_X10_fewestEars_30_b44 n (nI m) (encO o) (nI j) f = some (encO (bstO A j d o), f) := by
  have hp := pl_le h.W8
  have h2 : 2 ^ pl W ≤ 2 ^ 9 := Nat.pow_le_pow_right (by omega) hp
  intro d
  induction d with
  | zero =>
    intro n j o h1 h3 ho
    obtain ⟨n, rfl⟩ : ∃ m, n = m + 1 := ⟨n - 1, by omega⟩
    simp only [f_X10_fewestEars_30_b44, f_X10_fewestEars_30_b44s]
    rw [bind_e (c_places h), bit_n _ (by omega), if_pos (nI_le (by omega) (by omega))]
    rfl
  | succ d ih =>
    intro n j o h1 h3 ho
    obtain ⟨n, rfl⟩ : ∃ m, n = m + 1 := ⟨n - 1, by omega⟩
    have i0 := ih n (j + 1) (stpO A j o) (by omega) (by omega) (stpO_lt (show j < 512 by omega) ho)
    simp only [f_X10_fewestEars_30_b44, f_X10_fewestEars_30_b44s, f_X10_fewestEars_30_b77, f_X10_fewestEars_30_b82, f_X10_fewestEars_30_b103]
    rw [bind_e (c_places h), bit_n _ (by omega), if_neg (nI_ge (by omega) (by omega)), nI_1]
    show _ = some (encO (bstO A (j + 1) d (stpO A j o)), f)
    rw [← i0]
    clear i0
    cases o with
    | none =>
      rw [show encO none = (-1 : Int32) from rfl, if_pos rfl, if1, bind_e (hA j (by omega))]
      unfold stpO
      cases A j
      · rw [b2i_f, if0, if_neg (by decide)]; rfl
      · rw [b2i_t, if1, if_pos rfl]; rfl
    | some b =>
      have hb := ho b rfl
      have hpj : pc j ≤ 9 := popN_le 9 0
      have hpb : pc b ≤ 9 := popN_le 9 0
      rw [show encO (some b) = nI b from rfl, if_neg (nI_m1 (by omega)), bind_e (c_bits (show j < 512 by omega) f), bind_e (c_bits hb f), if_true, if1]
      unfold stpO
      by_cases hc : pc b ≤ pc j
      · simp only [if_pos hc]
        rw [if_pos (nI_le hc (by omega))]; rfl
      · simp only [if_neg hc]
        rw [if_neg (nI_ge (by omega) (by omega)), bind_e (hA j (by omega))]
        cases A j
        · rw [b2i_f, if0, if_neg (by decide)]; rfl
        · rw [b2i_t, if1, if_pos rfl]; rfl
theorem c_best_all (h : V W S N f g) {m : Nat} {A : Nat → Bool} (hA : ∀ j, j < 512 → f_X10_coverAll_30 (nI j) (nI m) f = some (b2i (A j))) : f_X10_fewestEars_30_b44 fuB (nI m) (-1 : Int32) (0 : Int32) f = some (encO (bstO A 0 (2 ^ pl W) none), f) := by
  have hp := pl_le h.W8
  have h2 : 2 ^ pl W ≤ 2 ^ 9 := Nat.pow_le_pow_right (by omega) hp
  exact c_best_loop h hA (2 ^ pl W) fuB 0 none (by omega) (by unfold fuB; omega) (fun b hb => absurd hb (by simp))
theorem m_best_loop (h : V W S N f g) {m s : Nat} {e : Int32} {A : Nat → Bool} (hA : ∀ j, j < 512 → f_X12_allHeard (nI s) (nI m) e (nI j) g = some (b2i (A j))) : ∀ (d n j : Nat) (o : Option Nat), j + d = 2 ^ pl W → d < n → (∀ b, o = some b → b < 512) → f_X12_ears_b40 n (nI s) (nI m) e (encO o) (nI j) g = some (encO (bstO A j d o)) := by
  have hp := pl_le h.W8
  have h2 : 2 ^ pl W ≤ 2 ^ 9 := Nat.pow_le_pow_right (by omega) hp
  intro d
  induction d with
  | zero =>
    intro n j o h1 h3 ho
    obtain ⟨n, rfl⟩ : ∃ m, n = m + 1 := ⟨n - 1, by omega⟩
    simp only [f_X12_ears_b40, f_X12_ears_b40s]
    rw [bind_e (m_places h), bit_n _ (by omega), if_pos (nI_le (by omega) (by omega))]
    rfl
  | succ d ih =>
    intro n j o h1 h3 ho
    obtain ⟨n, rfl⟩ : ∃ m, n = m + 1 := ⟨n - 1, by omega⟩
    have i0 := ih n (j + 1) (stpO A j o) (by omega) (by omega) (stpO_lt (show j < 512 by omega) ho)
    simp only [f_X12_ears_b40, f_X12_ears_b40s, f_X12_ears_b69, f_X12_ears_b74, f_X12_ears_b98, f_X12_ears_b100]
    rw [bind_e (m_places h), bit_n _ (by omega), if_neg (nI_ge (by omega) (by omega)), nI_1]
    show _ = some (encO (bstO A (j + 1) d (stpO A j o)))
    rw [← i0]
    clear i0
    cases o with
    | none =>
      rw [show encO none = (-1 : Int32) from rfl, if_pos (show (-1 : Int32) < 0 by decide), if1, bind_e (hA j (by omega))]
      unfold stpO
      cases A j
      · rw [b2i_f, if0, if_neg (by decide)]; rfl
      · rw [b2i_t, if1, if_pos rfl]; rfl
    | some b =>
      have hb := ho b rfl
      have hpj : pc j ≤ 9 := popN_le 9 0
      have hpb : pc b ≤ 9 := popN_le 9 0
      rw [show encO (some b) = nI b from rfl, if_neg (show ¬ nI b < (0 : Int32) from nI_nlt (a := b) (b := 0) (by omega) (by omega)), bind_e (m_bits (show j < 512 by omega) g), bind_e (m_bits hb g), if_true, if1]
      unfold stpO
      by_cases hc : pc b ≤ pc j
      · simp only [if_pos hc]
        rw [if_pos (nI_le hc (by omega))]; rfl
      · simp only [if_neg hc]
        rw [if_neg (nI_ge (by omega) (by omega)), bind_e (hA j (by omega))]
        cases A j
        · rw [b2i_f, if0, if_neg (by decide)]; rfl
        · rw [b2i_t, if1, if_pos rfl]; rfl
theorem m_best_all (h : V W S N f g) {m s : Nat} {e : Int32} {A : Nat → Bool} (hA : ∀ j, j < 512 → f_X12_allHeard (nI s) (nI m) e (nI j) g = some (b2i (A j))) : f_X12_ears_b40 fuB (nI s) (nI m) e (-1 : Int32) (0 : Int32) g = some (encO (bstO A 0 (2 ^ pl W) none)) := by
  have hp := pl_le h.W8
  have h2 : 2 ^ pl W ≤ 2 ^ 9 := Nat.pow_le_pow_right (by omega) hp
  exact m_best_loop h hA (2 ^ pl W) fuB 0 none (by omega) (by unfold fuB; omega) (fun b hb => absurd hb (by simp))
end EA
theorem c_row_loop {W S N : Nat} {g : St} {s m : Nat} {e : Int32} (hs : s < S) (hm9 : m < 512) : ∀ (d n k : Nat) (f : St), V W S N f g → k + d = pl W → d < n → (∀ i, i < k → f 31 i = nI (lsN g (pl W) s e i)) → ∃ f', f_X10_fewestEars_30_b3 n (nI s) (nI m) e (nI k) f = some (encO (bstO (cvA g (pl W) s e m) 0 (2 ^ pl W) none), f') ∧ ∀ k, k ≠ 31 → f' k = f k := by
  intro d
  induction d with
  | zero =>
    intro n k f h h1 h3 hr
    have hp := pl_le h.W8
    obtain ⟨n, rfl⟩ : ∃ m, n = m + 1 := ⟨n - 1, by omega⟩
    simp only [f_X10_fewestEars_30_b3, f_X10_fewestEars_30_b3s]
    rw [bind_e (c_places h), if_pos (nI_le (by omega) (by omega)), c_best_all h (fun j hj => c_cov h hm9 (fun k hk => hr k (by omega)) hj)]
    exact ⟨f, rfl, fun k _ => rfl⟩
  | succ d ih =>
    intro n k f h h1 h3 hr
    have hp := pl_le h.W8
    obtain ⟨n, rfl⟩ : ∃ m, n = m + 1 := ⟨n - 1, by omega⟩
    simp only [f_X10_fewestEars_30_b3, f_X10_fewestEars_30_b3s]
    rw [bind_e (c_places h), if_neg (nI_ge (by omega) (by omega)), bind_e (c_listeners h hs (pl_W (show k < pl W by omega)) e), bind_e (put_n (ka := 31) (f := f) (v := nI (orN (lsP g s k e) 0 0 (pl W))) (show k < 9 by omega) (by omega)), nI_1]
    obtain ⟨f', q1, q2⟩ := ih n (k + 1) (su f 31 k (nI (orN (lsP g s k e) 0 0 (pl W)))) h.mv (by omega) (by omega) (fun i hi => by
      rw [su_s]
      by_cases ei : i = k
      · subst ei; rw [upd_s]; rfl
      · rw [upd_n ei]; exact hr i (by omega))
    exact ⟨f', q1, fun k hk => by rw [q2 k hk, su_r hk]⟩
theorem c_row_all {W S N : Nat} {f g : St} (h : V W S N f g) {s m : Nat} {e : Int32} (hs : s < S) (hm9 : m < 512) : ∃ f', f_X10_fewestEars_30 (nI s) (nI m) e f = some (encO (bstO (cvA g (pl W) s e m) 0 (2 ^ pl W) none), f') ∧ ∀ k, k ≠ 31 → f' k = f k := by
  have hp := pl_le h.W8
  exact c_row_loop hs hm9 (pl W) fuB 0 f h (by omega) (by unfold fuB; omega) (fun i hi => absurd hi (by omega))
theorem Rel.but {f g f' : St} (hR : Rel f g) (q : ∀ k, k ≠ 31 → k ≠ 35 → k ≠ 36 → k ≠ 29 → k ≠ 30 → k ≠ 32 → f' k = f k) (q32 : f' 32 4 = f 32 4) : Rel f' g := by
  obtain ⟨W, S, N, hV, hT⟩ := hR
  have e : ∀ k, (k ≠ 31 ∧ k ≠ 35 ∧ k ≠ 36 ∧ k ≠ 29 ∧ k ≠ 30 ∧ k ≠ 32) → f' k = f k := fun k h => q k h.1 h.2.1 h.2.2.1 h.2.2.2.1 h.2.2.2.2.1 h.2.2.2.2.2
  exact ⟨W, S, N, hV.mv (e 3 (by omega)) (e 5 (by omega)) (e 6 (by omega)) (e 8 (by omega)) (e 9 (by omega)) (e 19 (by omega)), hT.mv (by rw [e 0 (by omega)]) (by rw [e 1 (by omega)]) (e 2 (by omega)) (by rw [e 10 (by omega)]) (e 20 (by omega)) (e 21 (by omega)) (e 23 (by omega)) (e 25 (by omega)) (e 26 (by omega)) (e 28 (by omega)) q32 (e 33 (by omega)) (e 34 (by omega)) (by rw [e 37 (by omega)]) (e 38 (by omega))⟩
theorem sim_ears : Sim_ears Rel := by
  intro f g hR p1 p2 p3
  obtain ⟨W, S, N, hV, hT⟩ := id hR
  have hp := pl_le hV.W8
  have h2 : 2 ^ pl W ≤ 2 ^ 9 := Nat.pow_le_pow_right (by omega) hp
  rcases rng_cases p1 S with e | ⟨e, s, hs, rfl⟩
  · refine ⟨(-1000000001 : Int32), f, g, ?_, ⟨?_, rfl⟩, hR⟩
    · unfold f_X11_ears f_X11_ears_b22
      rw [bind_e (c_isSound hV p1), e, b2i_f, if0]
    · unfold f_X12_ears f_X12_ears_b16
      rw [bind_e (m_isSound hV p1), e, b2i_f, if0]
  · rcases rng_cases p2 (2 ^ pl W) with e2 | ⟨e2, m, hm9, rfl⟩
    · refine ⟨(-1000000001 : Int32), f, g, ?_, ⟨?_, rfl⟩, hR⟩
      · unfold f_X11_ears f_X11_ears_b22
        rw [bind_e (c_isSound hV _), e, b2i_t, if1, bind_e (c_arePl hV p2), e2, b2i_f, if0]
      · unfold f_X12_ears f_X12_ears_b16
        rw [bind_e (m_isSound hV _), e, b2i_t, if1, bind_e (m_isPls hV p2), e2, b2i_f, if0]
    · cases e3 : rng p3 31
      · refine ⟨(-1000000002 : Int32), f, g, ?_, ⟨?_, rfl⟩, hR⟩
        · unfold f_X11_ears f_X11_ears_b22
          rw [bind_e (c_isSound hV _), e, b2i_t, if1, bind_e (c_arePl hV _), e2, b2i_t, if1, bind_e (c_out (p := p3) (n := 31) rfl), e3, Bool.not_false, b2i_t, if1]
        · unfold f_X12_ears f_X12_ears_b16
          rw [bind_e (m_isSound hV _), e, b2i_t, if1, bind_e (m_isPls hV _), e2, b2i_t, if1, bind_e (m_inN (p := p3) (n := 31) rfl), e3, b2i_f, if0]
      · obtain ⟨f', q1, q2⟩ := c_row_all hV (e := p3) hs (show m < 512 by omega)
        refine ⟨encO (bstO (cvA g (pl W) s p3 m) 0 (2 ^ pl W) none), f', g, ?_, ⟨?_, rfl⟩, hR.but (fun k a _ _ _ _ _ => q2 k a) (by rw [q2 32 (by omega)])⟩
        · unfold f_X11_ears f_X11_ears_b22
          rw [bind_e (c_isSound hV _), e, b2i_t, if1, bind_e (c_arePl hV _), e2, b2i_t, if1, bind_e (c_out (p := p3) (n := 31) rfl), e3, Bool.not_true, b2i_f, if0, bind_e q1]
        · unfold f_X12_ears f_X12_ears_b16
          rw [bind_e (m_isSound hV _), e, b2i_t, if1, bind_e (m_isPls hV _), e2, b2i_t, if1, bind_e (m_inN (p := p3) (n := 31) rfl), e3, b2i_t, if1]
          exact m_best_all hV (fun j hj => m_cov hV hs (by omega) hj)
