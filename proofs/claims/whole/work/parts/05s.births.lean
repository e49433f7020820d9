/-! The list of all pairs; the births that fit; the least liars -/
def pmL (S P : Nat) : Nat → Nat → List Nat
  | _, 0 => []
  | q, d + 1 => if prN S P q then q :: pmL S P (q + 1) d else pmL S P (q + 1) d
def pairA (S P i : Nat) : Nat := if i < S * P then 10 * (i / P) + i % P else 100
def pcL (S P : Nat) : Nat → Nat → List Nat
  | _, 0 => []
  | i, d + 1 => pairA S P i :: pcL S P (i + 1) d
theorem pairs_eq : ∀ S, S ≤ 6 → ∀ P, P ≤ 9 → pmL S P 0 101 = pcL S P 0 (S * P + 1) := by decide +kernel
theorem pairA_ok : ∀ S, S ≤ 6 → ∀ P, P ≤ 9 → ∀ i, i < S * P + 1 → prN S P (pairA S P i) = true := by
  intro S hS P hP i hi
  unfold pairA prN
  rw [decide_eq_true_eq]
  by_cases h : i < S * P
  · rw [if_pos h]
    have hP0 : 0 < P := by
      cases P with
      | zero => rw [Nat.mul_zero] at h; omega
      | succ n => omega
    have h1 : i % P < P := Nat.mod_lt _ hP0
    have h2 : i / P < S := by rw [Nat.div_lt_iff_lt_mul hP0]; exact h
    right
    omega
  · rw [if_neg h]; exact Or.inl rfl
theorem pcL_s {S P i d : Nat} : pcL S P i (d + 1) = pairA S P i :: pcL S P (i + 1) d := rfl
theorem pmL_s {S P q d : Nat} : pmL S P q (d + 1) = if prN S P q then q :: pmL S P (q + 1) d else pmL S P (q + 1) d := rfl
def fitL (L : Nat → Nat) (l : List Nat) : List Nat := l.filter fun q => L q == 0
theorem fitL_c {L : Nat → Nat} {q : Nat} {l : List Nat} : fitL L (q :: l) = if L q = 0 then q :: fitL L l else fitL L l := by
  unfold fitL
  rw [List.filter_cons]
  by_cases h : L q = 0
  · rw [if_pos h, if_pos (by simp [h])]
  · rw [if_neg h, if_neg (by simp [h])]
def birV (p : Int32) : List Nat → Nat → Int32
  | [], c => if p = -1 then nI c else -1
  | q :: l, c => if nI c = p then nI q else birV p l (c + 1)
theorem birV_c {p : Int32} {q : Nat} {l : List Nat} {c : Nat} : birV p (q :: l) c = if nI c = p then nI q else birV p l (c + 1) := rfl
section BI
variable {W S N C : Nat} {f g : St}
theorem pl0 {W : Nat} (hW : 0 < W) : 0 < pl W := by unfold pl; split <;> omega
theorem SP_le (h : V W S N f g) : S * pl W ≤ 54 := by
  have h1 := h.S6
  have h2 := pl_le h.W8
  exact Nat.mul_le_mul h1 h2
theorem c_pairs (h : V W S N f g) : f_X1_pairs_32 f = some (nI (S * pl W + 1)) := by
  unfold f_X1_pairs_32
  rw [bind_e (c_places h), h.fS, pk_mul, nI_1]
theorem c_pairAt (h : V W S N f g) {i : Nat} (hW : 0 < W) (hi : i < 100) : f_X1_pairAt_32 (nI i) f = some (nI (pairA S (pl W) i)) := by
  have h3 := SP_le h
  have hp := pl_le h.W8
  have hp0 := pl0 hW
  unfold f_X1_pairAt_32 f_X1_pairAt_32_b25 pairA
  rw [bind_e (c_places h), if_neg (nlt0 hp0 (by omega)), h.fS, pk_mul]
  by_cases e : i < S * pl W
  · have h1 : i % pl W < pl W := Nat.mod_lt _ hp0
    have h2 : i / pl W ≤ i := Nat.div_le_self _ _
    rw [if_pos (nI_lt e (by omega)), if_pos e, dz_n hp0 (by omega), dz_n hp0 (by omega), pk_rem (by omega) hp0 (by omega), pk_div (by omega) hp0 (by omega), show (10 : Int32) = nI 10 from rfl, pk_mul, nI_add]
  · rw [if_neg (nI_nlt (by omega) (by omega)), if_neg e]; rfl
theorem m_bir_loop (h : V W S N f g) (hc : CL N C f g) {p : Int32} : ∀ d n q c : Nat, q + d = 101 → d < n → c ≤ q → f_X12_births_b14 n p (nI c) (nI q) g = some (birV p (fitL (liN g C) (pmL S (pl W) q d)) c) := by
  intro d
  induction d with
  | zero =>
    intro n q c h1 h2 h3
    obtain ⟨n, rfl⟩ : ∃ m, n = m + 1 := ⟨n - 1, by omega⟩
    simp only [f_X12_births_b14, f_X12_births_b14s]
    rw [show (100 : Int32) = nI 100 from rfl, if_pos (nI_lt (a := 100) (by omega) (by omega))]
    unfold pmL fitL birV
    by_cases e : p = -1
    · rw [if_pos e]; simp [e]
    · rw [if_neg e]; simp [e]
  | succ d ih =>
    intro n q c h1 h2 h3
    obtain ⟨n, rfl⟩ : ∃ m, n = m + 1 := ⟨n - 1, by omega⟩
    have i0 := ih n (q + 1) c (by omega) (by omega) (by omega)
    have i1 := ih n (q + 1) (c + 1) (by omega) (by omega) (by omega)
    simp only [f_X12_births_b14, f_X12_births_b14s, f_X12_births_b46]
    rw [show (100 : Int32) = nI 100 from rfl, if_neg (nI_nlt (b := q) (a := 100) (by omega) (by omega)), bind_e (m_isPair h (show q < 2 ^ 31 by omega)), pmL_s, nI_1, nI_1]
    cases e : prN S (pl W) q
    · rw [b2i_f, if0, if_neg (by decide)]
      exact i0
    · have hlL : liN g C q ≤ 8 := Nat.le_trans (cntN_le C 0) hc.1
      rw [b2i_t, if1, if_pos rfl, bind_e (m_liars h hc e), fitL_c]
      by_cases z : liN g C q = 0
      · rw [if_pos (show nI (liN g C q) = 0 by rw [z]; rfl), if_pos z, birV_c]
        by_cases y : nI c = p
        · rw [if_pos y, if_pos y]
        · rw [if_neg y, if_neg y]
          exact i1
      · rw [if_neg (nI_ne0 (by omega) (by omega)), if_neg z]
        exact i0
theorem m_bir (h : V W S N f g) (hc : CL N C f g) (p : Int32) : f_X12_births_b14 fuB p (0 : Int32) (0 : Int32) g = some (birV p (fitL (liN g C) (pcL S (pl W) 0 (S * pl W + 1))) 0) := by
  rw [← pairs_eq S h.S6 (pl W) (pl_le h.W8)]
  exact m_bir_loop h hc 101 fuB 0 0 (by omega) (by unfold fuB; omega) (by omega)
theorem fitL_len {L : Nat → Nat} {S P : Nat} : ∀ d i : Nat, (fitL L (pcL S P i d)).length ≤ d := by
  intro d
  induction d with
  | zero => intro i; exact Nat.le_refl _
  | succ d ih =>
    intro i
    have := ih (i + 1)
    rw [pcL_s, fitL_c]
    split
    · rw [List.length_cons]; omega
    · omega
end BI
def BirR (f : St) (B : List Nat) : Prop := f 32 6 = nI B.length ∧ ∀ i, i < B.length → f 35 i = nI (B.getD i 0)
theorem BirR.snoc {f : St} {B : List Nat} {q : Nat} (h : BirR f B) : BirR (su (su f 35 B.length (nI q)) 32 6 (nI (B.length + 1))) (B ++ [q]) := by
  obtain ⟨h1, h2⟩ := h
  refine ⟨by rw [su_s, upd_s, List.length_append]; rfl, fun i hi => ?_⟩
  rw [List.length_append, List.length_singleton] at hi
  rw [su_r (k := 32) (by omega), su_s]
  by_cases e : i = B.length
  · subst e
    rw [upd_s]
    simp
  · rw [upd_n e, h2 i (by omega)]
    have hi2 : i < B.length := by omega
    simp [List.getD, List.getElem?_append_left hi2, hi2]
theorem c_gat_loop {W S N C : Nat} {g : St} (hW : 0 < W) : ∀ (d n i : Nat) (f : St) (B : List Nat), V W S N f g → CL N C f g → BirR f B → B.length ≤ i → i + d = S * pl W + 1 → d < n → ∃ f', f_X1_gatherBirths_32_b7 n (nI i) f = some f' ∧ BirR f' (B ++ fitL (liN g C) (pcL S (pl W) i d)) ∧ V W S N f' g ∧ CL N C f' g ∧ (∀ k, k ≠ 32 → k ≠ 35 → f' k = f k) ∧ f' 32 4 = f 32 4 := by
  intro d
  induction d with
  | zero =>
    intro n i f B hV hc hB hl h1 h2
    have hsp := SP_le hV
    obtain ⟨n, rfl⟩ : ∃ m, n = m + 1 := ⟨n - 1, by omega⟩
    refine ⟨f, ?_, by unfold pcL fitL; simpa using hB, hV, hc, fun k _ _ => rfl, rfl⟩
    simp only [f_X1_gatherBirths_32_b7, f_X1_gatherBirths_32_b7s]
    rw [bind_e (c_pairs hV), if_pos (nI_le (by omega) (by omega))]
  | succ d ih =>
    intro n i f B hV hc hB hl h1 h2
    have hsp := SP_le hV
    obtain ⟨n, rfl⟩ : ∃ m, n = m + 1 := ⟨n - 1, by omega⟩
    have hpa := pairA_ok S hV.S6 (pl W) (pl_le hV.W8) i (by omega)
    have hlL : liN g C (pairA S (pl W) i) ≤ 8 := Nat.le_trans (cntN_le C 0) hc.1
    simp only [f_X1_gatherBirths_32_b7, f_X1_gatherBirths_32_b7s, f_X1_gatherBirths_32_b51]
    rw [bind_e (c_pairs hV), if_neg (nI_ge (by omega) (by omega)), bind_e (c_pairAt hV hW (show i < 100 by omega)), bind_e (c_liars hV hc hpa), pcL_s, fitL_c, nI_1]
    by_cases z : liN g C (pairA S (pl W) i) = 0
    · rw [if_pos (show nI (liN g C (pairA S (pl W) i)) = 0 by rw [z]; rfl), if_pos z, hB.1, bind_e (put_n (ka := 35) (f := f) (v := nI (pairA S (pl W) i)) (show B.length < 55 by omega) (by omega)), su_r (k := 35) (k' := 32) (by omega), hB.1, nI_1]
      have hc' : CL N C (su (su f 35 B.length (nI (pairA S (pl W) i))) 32 6 (nI (B.length + 1))) g := by
        obtain ⟨c0, c1, c2, c3⟩ := hc
        exact ⟨c0, c1, c2, c3⟩
      obtain ⟨f', q1, q2, q3, q4, q5, q6⟩ := ih n (i + 1) _ _ hV.mv hc' hB.snoc (by rw [List.length_append, List.length_singleton]; omega) (by omega) (by omega)
      refine ⟨f', q1, by rw [List.append_assoc] at q2; exact q2, q3, q4, fun k k1 k2 => ?_, ?_⟩
      · rw [q5 k k1 k2, su_r k1, su_r k2]
      · rw [q6]; rfl
    · rw [if_neg (nI_ne0 (by omega) (by omega)), if_neg z]
      exact ih n (i + 1) f B hV hc hB (by omega) (by omega) (by omega)
theorem c_gather {W S N C : Nat} {f g : St} (hW : 0 < W) (hV : V W S N f g) (hc : CL N C f g) : ∃ f', f_X1_gatherBirths_32 f = some f' ∧ BirR f' (fitL (liN g C) (pcL S (pl W) 0 (S * pl W + 1))) ∧ V W S N f' g ∧ CL N C f' g ∧ (∀ k, k ≠ 32 → k ≠ 35 → f' k = f k) ∧ f' 32 4 = f 32 4 := by
  have hsp := SP_le hV
  have hc' : CL N C (su f 32 6 (0 : Int32)) g := by
    obtain ⟨c0, c1, c2, c3⟩ := hc
    exact ⟨c0, c1, c2, c3⟩
  have hB : BirR (su f 32 6 (0 : Int32)) [] := ⟨by rw [su_s, upd_s]; rfl, fun i hi => absurd hi (by simp)⟩
  obtain ⟨f', q1, q2, q3, q4, q5, q6⟩ := c_gat_loop hW (S * pl W + 1) fuB 0 _ [] hV.mv hc' hB (by simp) (by omega) (by unfold fuB; omega)
  rw [List.nil_append] at q2
  refine ⟨f', q1, q2, q3, q4, fun k k1 k2 => by rw [q5 k k1 k2, su_r k1], by rw [q6]; rfl⟩
theorem birV_m1 {B : List Nat} : ∀ c : Nat, c + B.length < 1000 → birV (-1) B c = nI (c + B.length) := by
  induction B with
  | nil => intro c h; unfold birV; rw [if_pos rfl]; rfl
  | cons q l ih =>
    intro c h
    rw [List.length_cons] at h ⊢
    rw [birV_c, if_neg (nI_m1 (by omega)), ih (c + 1) (by omega), show c + 1 + l.length = c + (l.length + 1) by omega]
theorem birV_out {p : Int32} (hp : p ≠ -1) {B : List Nat} : ∀ c : Nat, c + B.length < 1000 → (p.toInt < c ∨ (c : Int) + B.length ≤ p.toInt) → birV p B c = -1 := by
  induction B with
  | nil => intro c h h2; unfold birV; rw [if_neg hp]
  | cons q l ih =>
    intro c h h2
    rw [List.length_cons] at h h2
    have tc := nI_toInt (n := c) (by omega)
    have e : ¬ nI c = p := by intro x; rw [← x, tc] at h2; omega
    rw [birV_c, if_neg e, ih (c + 1) (by omega) (by omega)]
theorem birV_in {j : Nat} {B : List Nat} : ∀ c : Nat, c + B.length < 1000 → j < B.length → birV (nI (c + j)) B c = nI (B.getD j 0) := by
  induction B generalizing j with
  | nil => intro c h h2; exact absurd h2 (by simp)
  | cons q l ih =>
    intro c h h2
    rw [List.length_cons] at h h2
    rw [birV_c]
    cases j with
    | zero => rw [Nat.add_zero, if_pos rfl]; rfl
    | succ j =>
      rw [if_neg (fun x => by have := (nI_eq (by omega) (by omega)).mp x; omega), show c + (j + 1) = c + 1 + j by omega, ih (c + 1) (by omega) (by omega)]
      rfl
theorem c_birthAt {f : St} {B : List Nat} (hB : BirR f B) (hl : B.length ≤ 55) {p : Int32} (hp : p ≠ -1) : f_X1_birthAt_32 p f = some (birV p B 0) := by
  unfold f_X1_birthAt_32
  rcases sgn_cases p with h | ⟨q, hq, rfl⟩
  · rw [if_pos h, birV_out hp 0 (by omega) (Or.inl (by rw [lt_t] at h; exact h))]
  · rw [if_neg (show ¬ nI q < (0 : Int32) from nI_nlt (a := q) (b := 0) (by omega) hq), hB.1]
    by_cases e : B.length ≤ q
    · rw [if_pos (nI_le e hq), birV_out hp 0 (by omega) (Or.inr (by rw [nI_toInt hq]; omega))]
    · rw [if_neg (nI_ge (by omega) (by omega)), bind_e (get_n (ka := 35) (f := f) (show q < 55 by omega) (by omega)), hB.2 q (by omega)]
      have := birV_in (j := q) (B := B) 0 (by omega) (by omega)
      rw [Nat.zero_add] at this
      rw [this]
theorem sim_births : Sim_births Rel := by
  intro f g hR p1
  obtain ⟨W, S, N, C, hV, hc⟩ := hR.cl
  by_cases h0 : W = 0
  · subst h0
    refine ⟨(-1000000003 : Int32), f, g, ?_, ⟨?_, rfl⟩, hR⟩
    · unfold f_X11_births
      rw [bind_e (c_stands0 hV), if0]
    · unfold f_X12_births
      rw [if_pos (m_stands0 hV)]
  · obtain ⟨f', q1, q2, q3, q4, q5, q6⟩ := c_gather (by omega) hV hc
    have hsp := SP_le hV
    have hlen := fitL_len (L := liN g C) (S := S) (P := pl W) (S * pl W + 1) 0
    refine ⟨birV p1 (fitL (liN g C) (pcL S (pl W) 0 (S * pl W + 1))) 0, f', g, ?_, ⟨?_, rfl⟩, hR.but (fun k _ k35 _ _ _ k32 => q5 k k32 k35) q6⟩
    · unfold f_X11_births
      rw [bind_e (c_standsW hV (by omega)), if1, bind_e q1]
      by_cases e : p1 = -1
      · rw [if_pos e, q2.1, e, birV_m1 0 (by omega), Nat.zero_add]
      · rw [if_neg e, bind_e (c_birthAt q2 (by omega) e)]
    · unfold f_X12_births
      rw [if_neg (m_standsW hV (by omega))]
      exact m_bir hV hc p1
