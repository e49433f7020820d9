/-! Writing, the seed, tearing, saying, feeding; a midwife, a bargain, a judge -/
theorem sim_seed : Sim_seed Rel := by
  intro f g hR p1
  obtain ⟨W, S, N, hV, h1, h2, h3, h4, h5, h6, h7⟩ := id hR
  unfold f_X11_seed f_X12_seed
  by_cases h : 0 ≤ p1
  · rw [if_pos h, if_pos h]
    refine ⟨f 0 5, _, _, rfl, by rw [h3.1], W, S, N, hV.mv, h1.mv, h2.mv, ?_, h4.mv, h5.mv, h6.mv, by simpa [su, upd] using h7⟩
    rw [le_t] at h
    exact ⟨by simp [su, upd], by simpa [su, upd] using h⟩
  · rw [if_neg h, if_neg h]
    exact ⟨_, _, _, rfl, rfl, hR⟩
theorem sim_tear : Sim_tear Rel := by
  intro f g hR
  obtain ⟨W, S, N, hV, h1, h2, h3, ⟨C, hC, c1, c2, -⟩, ⟨B, hB, b1, b2, -⟩, h6, h7⟩ := id hR
  unfold f_X11_tear f_X12_tear
  refine ⟨nI C + nI B, _, _, by rw [c1, b1], by rw [c2, b2], W, S, N, hV.mv, h1.mv, h2.mv, h3.mv, ⟨0, by omega, by simp [su, upd, nI_0], by simp [su, upd, nI_0], fun k hk => absurd hk (by omega)⟩, ⟨0, by omega, by simp [su, upd, nI_0], by simp [su, upd, nI_0], fun k hk => absurd hk (by omega)⟩, h6.mv, by simpa [su, upd] using h7⟩
theorem nI_lit {n : Nat} {k : Int32} {m : Nat} (hk : k = nI m) (hm : m < 2 ^ 31) (hn : n < 2 ^ 31) : nI n = k ↔ n = m := by
  rw [hk, nI_eq hn hm]
theorem sim_write : Sim_write Rel := by
  intro f g hR p1
  obtain ⟨W, S, N, hV, h1, h2, h3, h4, ⟨B, hB, b1, b2, bb⟩, h6, h7⟩ := id hR
  unfold f_X11_write f_X12_write
  rw [c_out (n := 8) rfl, m_inN (n := 8) rfl]
  cases hr : rng p1 8
  · exact ⟨_, _, _, rfl, rfl, hR⟩
  · show ∃ r f' g', (((f_X0_add_37 p1 f).bind _) = _) ∧ ((if g 0 31 = 15 then _ else _) = _) ∧ _
    unfold f_X0_add_37
    rw [b1, b2]
    by_cases hB15 : B = 15
    · subst hB15
      rw [if_neg (by decide), if_pos (by decide)]
      exact ⟨_, _, _, rfl, rfl, hR⟩
    · rw [if_pos (show nI B < (15 : Int32) from nI_lt (b := 15) (by omega) (by omega)), if_neg (show ¬ nI B = (15 : Int32) by rw [show (15 : Int32) = nI 15 from rfl]; rw [nI_eq (by omega) (by omega)]; omega)]
      rw [put_n (by omega) (by omega), ck_n (by omega) (by omega), nI_clamp (by omega)]
      refine ⟨nI (B + 1), su (su f 38 B p1) 37 1 (nI (B + 1)), su (su g 17 B p1) 0 31 (nI (B + 1)), ?_, ?_, W, S, N, hV.mv, h1.mv, h2.mv, h3.mv, h4.mv, ⟨B + 1, by omega, by simp [su, upd], by simp [su, upd], fun k hk => ?_⟩, h6.mv, by simpa [su, upd] using h7⟩
      · have e : (su f 38 B p1) 37 1 + (1 : Int32) = nI (B + 1) := by rw [show (su f 38 B p1) 37 1 = f 37 1 by simp [su], b1]; exact nI_1 B
        simp only [Option.bind_some, e]
        simp [su, upd]
      · have e : (su g 17 B p1) 0 31 + (1 : Int32) = nI (B + 1) := by rw [show (su g 17 B p1) 0 31 = g 0 31 by simp [su], b2]; exact nI_1 B
        rw [e]
        simp [su, upd]
      · by_cases hkB : k = B
        · subst hkB; simp [su, upd]
        · have := bb k (by omega)
          simp [su, upd, hkB, this]
theorem sim_say : Sim_say Rel := by
  intro f g hR p1 p2
  obtain ⟨W, S, N, hV, h1, h2, h3, ⟨C, hC, c1, c2, cc⟩, h5, h6, h7⟩ := id hR
  unfold f_X11_say f_X12_say
  rw [c_isWitness hV, m_isWitness hV]
  rcases rng_cases p1 N with e | ⟨e, w, hw, rfl⟩
  · rw [e]
    exact ⟨_, _, _, rfl, rfl, hR⟩
  · rw [e]
    show ∃ r f' g', ((f_X11_isOutside p2 (11 : Int32) f).bind _ = _) ∧ ((f_X12_in p2.toInt64 (0 : Int64) (11 : Int64) g).bind _ = _) ∧ _
    rw [c_out (n := 12) rfl, m_inN (n := 12) rfl]
    cases hr : rng p2 12
    · exact ⟨_, _, _, rfl, rfl, hR⟩
    · show ∃ r f' g', (((f_X1_add_32 (nI w) p2 f).bind _) = _) ∧ ((if g 0 27 = 8 then _ else _) = _) ∧ _
      unfold f_X1_add_32
      rw [c1, c2]
      by_cases hC8 : C = 8
      · subst hC8
        rw [if_neg (by decide), if_pos (by decide)]
        exact ⟨_, _, _, rfl, rfl, hR⟩
      · rw [if_pos (show nI C < (8 : Int32) from nI_lt (b := 8) (by omega) (by omega)), if_neg (show ¬ nI C = (8 : Int32) by rw [show (8 : Int32) = nI 8 from rfl]; rw [nI_eq (by omega) (by omega)]; omega)]
        rw [put_n (by omega) (by omega), ck_n (by omega) (by omega), nI_clamp (by omega)]
        have e1 : (su f 33 C (nI w)) 32 4 = nI C := by rw [show (su f 33 C (nI w)) 32 4 = f 32 4 by simp [su], c1]
        have e2 : (su g 14 C (nI w)) 0 27 = nI C := by rw [show (su g 14 C (nI w)) 0 27 = g 0 27 by simp [su], c2]
        show ∃ r f' g', ((((f_X7_put 34 8 ((su f 33 C (nI w)) 32 4) p2 (su f 33 C (nI w))).bind _).bind _) = _) ∧ _ ∧ _
        rw [e1, e2, put_n (by omega) (by omega), ck_n (by omega) (by omega), nI_clamp (by omega)]
        refine ⟨nI (C + 1), su (su (su f 33 C (nI w)) 34 C p2) 32 4 (nI (C + 1)), su (su (su g 14 C (nI w)) 15 C p2) 0 27 (nI (C + 1)), ?_, ?_, W, S, N, hV.mv, h1.mv, h2.mv, h3.mv, ⟨C + 1, by omega, by simp [su, upd], by simp [su, upd], fun k hk => ?_⟩, h5.mv, h6.mv, by simpa [su, upd] using h7⟩
        · have e : (su (su f 33 C (nI w)) 34 C p2) 32 4 + (1 : Int32) = nI (C + 1) := by rw [show (su (su f 33 C (nI w)) 34 C p2) 32 4 = f 32 4 by simp [su], c1]; exact nI_1 C
          simp only [Option.bind_some, e]
          simp [su, upd]
        · have e : (su (su g 14 C (nI w)) 15 C p2) 0 27 + (1 : Int32) = nI (C + 1) := by rw [show (su (su g 14 C (nI w)) 15 C p2) 0 27 = g 0 27 by simp [su], c2]; exact nI_1 C
          rw [e]
          simp [su, upd]
        · by_cases hkC : k = C
          · subst hkC
            exact ⟨by simp [su, upd], by simp [su, upd], w, hw, by simp [su, upd]⟩
          · obtain ⟨a1, a2, w2, a3, a4⟩ := cc k (by omega)
            exact ⟨by simp [su, upd, hkC, a1], by simp [su, upd, hkC, a2], w2, a3, by simp [su, upd, hkC, a4]⟩
theorem sim_feed : Sim_feed Rel := by
  intro f g hR p1
  obtain ⟨W, S, N, hV, h1, h2, h3, h4, h5, ⟨B, hB, b1, b2, bb⟩, h7⟩ := id hR
  unfold f_X11_feed f_X12_feed
  rw [c_out (n := 256) rfl, m_inN (n := 256) rfl]
  cases hr : rng p1 256
  · exact ⟨_, _, _, rfl, rfl, hR⟩
  · have hp : 0 ≤ p1.toInt ∧ p1.toInt ≤ 255 := by
      have := of_decide_eq_true hr
      omega
    show ∃ r f' g', (((f_X9_add_1 p1 f).bind _) = _) ∧ ((if g 0 10 = 240 then _ else _) = _) ∧ _
    unfold f_X9_add_1
    rw [b1, b2]
    by_cases hB15 : B = 240
    · subst hB15
      rw [if_neg (by decide), if_pos (by decide)]
      exact ⟨_, _, _, rfl, rfl, hR⟩
    · rw [if_pos (show nI B < (240 : Int32) from nI_lt (b := 240) (by omega) (by omega)), if_neg (show ¬ nI B = (240 : Int32) by rw [show (240 : Int32) = nI 240 from rfl]; rw [nI_eq (by omega) (by omega)]; omega)]
      rw [put_n (by omega) (by omega), ck_n (by omega) (by omega), nI_clamp (by omega)]
      refine ⟨nI (B + 1), su (su f 2 B p1) 1 1 (nI (B + 1)), su (su g 6 B p1) 0 10 (nI (B + 1)), ?_, ?_, W, S, N, hV.mv, h1.mv, h2.mv, h3.mv, h4.mv, h5.mv, ⟨B + 1, by omega, by simp [su, upd], by simp [su, upd], fun k hk => ?_⟩, by simpa [su, upd] using h7⟩
      · have e : (su f 2 B p1) 1 1 + (1 : Int32) = nI (B + 1) := by rw [show (su f 2 B p1) 1 1 = f 1 1 by simp [su], b1]; exact nI_1 B
        simp only [Option.bind_some, e]
        simp [su, upd]
      · have e : (su g 6 B p1) 0 10 + (1 : Int32) = nI (B + 1) := by rw [show (su g 6 B p1) 0 10 = g 0 10 by simp [su], b2]; exact nI_1 B
        rw [e]
        simp [su, upd]
      · by_cases hkB : k = B
        · subst hkB; simp [su, upd, hp]
        · have := bb k (by omega)
          simp [su, upd, hkB, this]
theorem sim_midwife : Sim_midwife Rel := by
  intro f g hR p1 p2 p3 p4 p5 hz
  refine q_ok hR ?_
  unfold f_X11_midwife f_X12_midwife f_X11_midwife_b41 f_X12_midwife_b50
  rw [c_out (n := 10000) rfl, m_inN (n := 10000) rfl, c_out (n := 10000) rfl, m_inN (n := 10000) rfl, c_out (n := 10000) rfl, m_inN (n := 10000) rfl, c_out (n := 101) rfl, m_inN (n := 101) rfl]
  cases rng p2 10000
  · exact ⟨_, rfl, rfl⟩
  cases rng p3 10000
  · exact ⟨_, rfl, rfl⟩
  cases rng p4 10000
  · exact ⟨_, rfl, rfl⟩
  cases rng p5 101
  · exact ⟨_, rfl, rfl⟩
  show ∃ r, (if p1 = 0 then _ else _) = _ ∧ (if p1 = 0 then f_X12_midwife_b72 p1 p2 p3 ((p4 * p5) / (100 : Int32)) p3 g else f_X12_midwife_b72 p1 p2 p3 ((p4 * p5) / (100 : Int32)) p2 g) = _
  unfold f_X12_midwife_b72 f_X12_midwife_b83 f_X12_midwife_b100
  have e10 : ¬ (1 : Int32) = 0 := by decide
  have e01 : ¬ (0 : Int32) = 1 := by decide
  rcases hz with rfl | rfl
  · simp only [if_true, if_neg e01, if_neg e10]
    by_cases h2 : p2 - p4 * p5 / 100 ≤ p3
    · rw [if_pos h2]
      exact ⟨_, rfl, rfl⟩
    · rw [if_neg h2]
      exact ⟨1, rfl, rfl⟩
  · simp only [if_true, if_neg e01, if_neg e10]
    by_cases h2 : p3 - p4 * p5 / 100 ≤ p2
    · rw [if_pos h2]
      exact ⟨1, rfl, rfl⟩
    · rw [if_neg h2]
      exact ⟨0, rfl, rfl⟩
