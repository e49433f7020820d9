/-! The least liars; whom to ask next -/
def fmR (L : Nat → Nat) : List Nat → Nat
  | [] => 100
  | q :: l => if L (fmR L l) < L q then fmR L l else q
def fmL (L : Nat → Nat) : Nat → List Nat → Nat
  | b, [] => b
  | b, q :: l => if L b ≤ L q then fmL L b l else fmL L q l
theorem fmR_c {L : Nat → Nat} {q : Nat} {l : List Nat} : fmR L (q :: l) = if L (fmR L l) < L q then fmR L l else q := rfl
theorem fmL_c {L : Nat → Nat} {b q : Nat} {l : List Nat} : fmL L b (q :: l) = if L b ≤ L q then fmL L b l else fmL L q l := rfl
theorem fm_eq {L : Nat → Nat} (l : List Nat) : ∀ b, fmL L b (l ++ [100]) = if L (fmR L (l ++ [100])) < L b then fmR L (l ++ [100]) else b := by
  induction l with
  | nil =>
    intro b
    rw [List.nil_append, fmL_c, fmR_c]
    unfold fmL fmR
    rw [if_neg (Nat.lt_irrefl _)]
    by_cases h : L b ≤ L 100
    · rw [if_pos h, if_neg (by omega)]
    · rw [if_neg h, if_pos (by omega)]
  | cons q l ih =>
    intro b
    rw [List.cons_append, fmL_c, fmR_c, ih b, ih q]
    generalize fmR L (l ++ [100]) = m
    by_cases h1 : L b ≤ L q
    · rw [if_pos h1]
      by_cases h2 : L m < L q
      · rw [if_pos h2]
      · rw [if_neg h2, if_neg (show ¬ L q < L b by omega), if_neg (show ¬ L m < L b by omega)]
    · rw [if_neg h1]
      by_cases h2 : L m < L q
      · rw [if_pos h2, if_pos (show L m < L b by omega)]
      · rw [if_neg h2, if_pos (show L q < L b by omega)]
theorem pcL_last {S P : Nat} : ∀ d i : Nat, i + d = S * P → pcL S P i (d + 1) = pcL S P i d ++ [100] := by
  intro d
  induction d with
  | zero =>
    intro i h
    rw [pcL_s]
    unfold pairA
    rw [if_neg (by omega)]
    rfl
  | succ d ih =>
    intro i h
    rw [pcL_s, ih (i + 1) (by omega), pcL_s]
    rfl
section LE
variable {W S N C : Nat} {f g : St}
theorem liN_le {g : St} {C q : Nat} (hC : C ≤ 8) : liN g C q ≤ 8 := Nat.le_trans (cntN_le C 0) hC
theorem c_few_loop (h : V W S N f g) (hc : CL N C f g) (hW : 0 < W) : ∀ d n i b : Nat, i + d = S * pl W + 1 → d < n → b ≤ 100 → f_X1_pairOfFewestLiars_32_b14 n (nI b) (nI (liN g C b)) (nI i) f = some (nI (fmL (liN g C) b (pcL S (pl W) i d))) := by
  have hsp := SP_le h
  intro d
  induction d with
  | zero =>
    intro n i b h1 h2 h3
    obtain ⟨n, rfl⟩ : ∃ m, n = m + 1 := ⟨n - 1, by omega⟩
    simp only [f_X1_pairOfFewestLiars_32_b14, f_X1_pairOfFewestLiars_32_b14s]
    rw [bind_e (c_pairs h), if_pos (nI_le (by omega) (by omega))]
    rfl
  | succ d ih =>
    intro n i b h1 h2 h3
    obtain ⟨n, rfl⟩ : ∃ m, n = m + 1 := ⟨n - 1, by omega⟩
    have hpa := pairA_ok S h.S6 (pl W) (pl_le h.W8) i (by omega)
    have hpb := prN_100 hpa h.S6
    have l1 := liN_le (g := g) (q := pairA S (pl W) i) hc.1
    have l2 := liN_le (g := g) (q := b) hc.1
    simp only [f_X1_pairOfFewestLiars_32_b14, f_X1_pairOfFewestLiars_32_b14s, f_X1_pairOfFewestLiars_32_b48]
    rw [bind_e (c_pairs h), if_neg (nI_ge (by omega) (by omega)), bind_e (c_pairAt h hW (show i < 100 by omega)), bind_e (c_liars h hc hpa), pcL_s, fmL_c, nI_1]
    by_cases e : liN g C b ≤ liN g C (pairA S (pl W) i)
    · rw [if_pos (nI_le e (by omega)), if_pos e]
      exact ih n (i + 1) b (by omega) (by omega) h3
    · rw [if_neg (nI_ge (by omega) (by omega)), if_neg e, bind_e (c_pairAt h hW (show i < 100 by omega))]
      exact ih n (i + 1) _ (by omega) (by omega) hpb
theorem c_few (h : V W S N f g) (hc : CL N C f g) (hW : 0 < W) : f_X1_pairOfFewestLiars_32 f = some (nI (fmR (liN g C) (pcL S (pl W) 0 (S * pl W + 1)))) := by
  have hsp := SP_le h
  have hpa := pairA_ok S h.S6 (pl W) (pl_le h.W8) 0 (by omega)
  have hpb := prN_100 hpa h.S6
  have hl := c_few_loop h hc hW (S * pl W) fuB 1 (pairA S (pl W) 0) (by omega) (by unfold fuB; omega) hpb
  have he : fmL (liN g C) (pairA S (pl W) 0) (pcL S (pl W) 1 (S * pl W)) = fmR (liN g C) (pcL S (pl W) 0 (S * pl W + 1)) := by
    rw [pcL_s]
    cases hsp0 : S * pl W with
    | zero =>
      rw [show pairA S (pl W) 0 = 100 by unfold pairA; rw [hsp0]; rfl]
      unfold pcL fmL fmR fmR
      rw [if_neg (Nat.lt_irrefl _)]
    | succ d =>
      rw [pcL_last d (0 + 1) (by omega), fm_eq, fmR_c]
  rw [he] at hl
  unfold f_X1_pairOfFewestLiars_32
  rw [bind_e (show f_X1_pairAt_32 (0 : Int32) f = some (nI (pairA S (pl W) 0)) from c_pairAt h hW (i := 0) (by omega)), bind_e (c_liars h hc hpa)]
  exact hl
theorem fmR_ok {L : Nat → Nat} {S P : Nat} (hS : S ≤ 6) : ∀ d q : Nat, prN S P (fmR L (pmL S P q d)) = true := by
  intro d
  induction d with
  | zero => intro q; unfold pmL fmR prN; rw [decide_eq_true_eq]; exact Or.inl rfl
  | succ d ih =>
    intro q
    rw [pmL_s]
    cases e : prN S P q
    · rw [if_neg (by decide)]; exact ih (q + 1)
    · rw [if_pos rfl, fmR_c]
      split
      · exact ih (q + 1)
      · exact e
theorem m_few_loop (h : V W S N f g) (hc : CL N C f g) {p : Int32} : ∀ (d n : Nat) (i3 : Int32), d ≤ 101 → d < n → i3.toInt = (d : Int) - 1 → f_X12_leastLiars_b29 n p (nI (fmR (liN g C) (pmL S (pl W) d (101 - d)))) i3 g = some (if p = 0 then nI (fmR (liN g C) (pmL S (pl W) 0 101)) else nI (liN g C (fmR (liN g C) (pmL S (pl W) 0 101)))) := by
  have t0 : (0 : Int32).toInt = 0 := rfl
  intro d
  induction d with
  | zero =>
    intro n i3 h1 h2 h3
    obtain ⟨n, rfl⟩ : ∃ m, n = m + 1 := ⟨n - 1, by omega⟩
    have hok := fmR_ok (L := liN g C) (P := pl W) h.S6 101 0
    simp only [f_X12_leastLiars_b29, f_X12_leastLiars_b29s]
    rw [if_pos (by rw [lt_t]; omega)]
    by_cases e : p = 0
    · rw [if_pos e, if_pos e]
    · rw [if_neg e, if_neg e, bind_e (m_liars h hc hok)]
  | succ d ih =>
    intro n i3 h1 h2 h3
    obtain ⟨n, rfl⟩ : ∃ m, n = m + 1 := ⟨n - 1, by omega⟩
    have hi : i3 = nI d := by rw [eq_t, nI_toInt (by omega)]; omega
    subst hi
    have hok := fmR_ok (L := liN g C) (P := pl W) h.S6 (101 - (d + 1)) (d + 1)
    have i0 := ih n (nI d + (-1)) (by omega) (by omega) (tdm (by omega))
    rw [show 101 - d = (101 - (d + 1)) + 1 by omega, pmL_s] at i0
    simp only [f_X12_leastLiars_b29, f_X12_leastLiars_b29s, f_X12_leastLiars_b58, f_X12_leastLiars_b59]
    rw [if_neg (show ¬ nI d < (0 : Int32) from nI_nlt (a := d) (b := 0) (by omega) (by omega)), bind_e (m_isPair h (show d < 2 ^ 31 by omega))]
    cases e : prN S (pl W) d
    · rw [e, if_neg (by decide)] at i0
      rw [b2i_f, if0]
      exact i0
    · rw [e, if_pos rfl, fmR_c] at i0
      have l1 := liN_le (g := g) (q := d) hc.1
      have l2 := liN_le (g := g) (q := fmR (liN g C) (pmL S (pl W) (d + 1) (101 - (d + 1)))) hc.1
      rw [b2i_t, if1, bind_e (m_liars h hc e), bind_e (m_liars h hc hok)]
      by_cases z : liN g C (fmR (liN g C) (pmL S (pl W) (d + 1) (101 - (d + 1)))) < liN g C d
      · rw [if_pos z] at i0
        rw [if_pos (nI_lt z (by omega))]
        exact i0
      · rw [if_neg z] at i0
        rw [if_neg (nI_nlt (by omega) (by omega))]
        exact i0
theorem m_few (h : V W S N f g) (hc : CL N C f g) (p : Int32) : f_X12_leastLiars_b29 fuB p (100 : Int32) (100 : Int32) g = some (if p = 0 then nI (fmR (liN g C) (pcL S (pl W) 0 (S * pl W + 1))) else nI (liN g C (fmR (liN g C) (pcL S (pl W) 0 (S * pl W + 1))))) := by
  rw [← pairs_eq S h.S6 (pl W) (pl_le h.W8)]
  exact m_few_loop h hc 101 fuB 100 (by omega) (by unfold fuB; omega) (by decide)
end LE
theorem sim_leastLiars : Sim_leastLiars Rel := by
  intro f g hR p1
  obtain ⟨W, S, N, C, hV, hc⟩ := hR.cl
  cases e : rng p1 2
  · refine ⟨(-1000000002 : Int32), f, g, ⟨?_, rfl⟩, ⟨?_, rfl⟩, hR⟩
    · unfold f_X11_leastLiars
      rw [bind_e (c_out (p := p1) (n := 2) rfl), e, Bool.not_false, b2i_t, if1]
    · unfold f_X12_leastLiars
      rw [bind_e (m_inN (p := p1) (n := 2) rfl), e, b2i_f, if0]
  · by_cases h0 : W = 0
    · subst h0
      refine ⟨(-1000000003 : Int32), f, g, ⟨?_, rfl⟩, ⟨?_, rfl⟩, hR⟩
      · unfold f_X11_leastLiars
        rw [bind_e (c_out (p := p1) (n := 2) rfl), e, Bool.not_true, b2i_f, if0, bind_e (c_stands0 hV), if0]
      · unfold f_X12_leastLiars
        rw [bind_e (m_inN (p := p1) (n := 2) rfl), e, b2i_t, if1, if_pos (m_stands0 hV)]
    · have hok := fmR_ok (L := liN g C) (P := pl W) hV.S6 101 0
      rw [pairs_eq S hV.S6 (pl W) (pl_le hV.W8)] at hok
      refine ⟨_, f, g, ⟨?_, rfl⟩, ⟨(by unfold f_X12_leastLiars; rw [bind_e (m_inN (p := p1) (n := 2) rfl), e, b2i_t, if1, if_neg (m_standsW hV (by omega))]; exact m_few hV hc p1), rfl⟩, hR⟩
      unfold f_X11_leastLiars
      rw [bind_e (c_out (p := p1) (n := 2) rfl), e, Bool.not_true, b2i_f, if0, bind_e (c_standsW hV (by omega)), if1, bind_e (c_few hV hc (by omega))]
      by_cases z : p1 = 0
      · rw [if_pos z, if_pos z]
      · rw [if_neg z, if_neg z, bind_e (c_liars hV hc hok)]
