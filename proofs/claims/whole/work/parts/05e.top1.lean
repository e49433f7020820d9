/-! The plain questions -/
theorem sim_fault : Sim_fault Rel := by
  intro f g hR
  obtain ⟨W, S, N, hV, hT⟩ := id hR
  exact q_ok hR ⟨f 10 3, rfl, by unfold f_X12_fault; rw [hT.2.2.2.2.2.2]⟩
theorem sim_thick : Sim_thick Rel := by
  intro f g hR p1
  obtain ⟨W, S, N, hV, hT⟩ := id hR
  have hW := hV.W8
  refine q_ok hR ?_
  unfold f_X11_thick f_X12_thick
  rw [c_isWall hV, m_isWall hV]
  rcases rng_cases p1 W with e | ⟨e, k, hk, rfl⟩
  · rw [e]
    exact ⟨_, rfl, rfl⟩
  · rw [e]
    refine ⟨g 5 k, ?_, ?_⟩
    · show ((f_X8_get_18 ((6 : Int32) + nI k) f).bind fun q4 => some q4) = _
      rw [show (6 : Int32) + nI k = nI (6 + k) from nI_add 6 k, c_get _ (by omega), hV.row.2.2.2.2.2.2.1 k hk]
      rfl
    · show ck (nI k) 28 _ = _
      rw [ck_n (by omega) (by omega), nI_clamp (by omega)]
theorem sim_sound : Sim_sound Rel := by
  intro f g hR p1 p2
  obtain ⟨W, S, N, hV, hT⟩ := id hR
  have hS := hV.S6
  refine q_ok hR ?_
  unfold f_X11_sound f_X12_sound
  rw [c_isSound hV, m_isSound hV]
  rcases rng_cases p1 S with e | ⟨e, k, hk, rfl⟩
  · rw [e]
    exact ⟨_, rfl, rfl⟩
  · rw [e]
    show ∃ r, (if p2 = 0 then _ else if p2 = 1 then _ else _) = _ ∧ (if p2 = 0 then _ else if p2 = 1 then _ else _) = _
    by_cases h0 : p2 = 0
    · rw [if_pos h0, if_pos h0]
      refine ⟨g 1 k, ?_, ?_⟩
      · rw [get_n (by omega) (by omega), (hV.loud hk).1]; rfl
      · rw [ck_n (by omega) (by omega), nI_clamp (by omega)]
    · rw [if_neg h0, if_neg h0]
      by_cases h1 : p2 = 1
      · rw [if_pos h1, if_pos h1]
        refine ⟨g 2 k, ?_, ?_⟩
        · rw [get_n (by omega) (by omega), (hV.tone hk).1]; rfl
        · rw [ck_n (by omega) (by omega), nI_clamp (by omega)]
      · rw [if_neg h1, if_neg h1]
        exact ⟨_, rfl, rfl⟩
theorem out3 {p : Int32} {n : Nat} {m : Int32} (hm : m.toInt = n) (h : ¬ (p < 0 ∨ m < p)) : ∃ k, k ≤ n ∧ p = nI k := by
  have t0 : (0 : Int32).toInt = 0 := rfl
  have h1 : ¬ p < 0 := fun q => h (Or.inl q)
  have h2 : ¬ m < p := fun q => h (Or.inr q)
  rw [lt_t, t0] at h1
  rw [lt_t, hm] at h2
  have hp : p.toInt < 2147483648 := Int32.toInt_lt p
  refine ⟨p.toInt.toNat, by omega, ?_⟩
  rw [eq_t, nI_toInt (by omega)]
  omega
theorem sim_witness : Sim_witness Rel := by
  intro f g hR p1 p2
  obtain ⟨W, S, N, hV, hT⟩ := id hR
  have hN := hV.N7
  refine q_ok hR ?_
  unfold f_X11_witness f_X12_witness
  rw [c_isWitness hV, m_isWitness hV]
  rcases rng_cases p1 N with e | ⟨e, k, hk, rfl⟩
  · rw [e]
    exact ⟨_, rfl, rfl⟩
  · rw [e]
    obtain ⟨-, -, -, -, -, -, -, rsp, rsw⟩ := hV.row
    show ∃ r, (if p2 < 0 ∨ 3 < p2 then _ else _) = _ ∧ (if p2 < 0 ∨ 3 < p2 then _ else _) = _
    by_cases hout : p2 < 0 ∨ 3 < p2
    · rw [if_pos hout, if_pos hout]
      exact ⟨_, rfl, rfl⟩
    · rw [if_neg hout, if_neg hout]
      obtain ⟨j, hj, rfl⟩ := out3 (n := 3) rfl hout
      rcases (show j = 0 ∨ j = 1 ∨ j = 2 ∨ j = 3 by omega) with rfl | rfl | rfl | rfl
      · refine ⟨g 5 (9 + k), ?_, ?_⟩
        · show ((f_X8_get_18 ((14 : Int32) + nI k) f).bind fun q4 => some q4) = _
          rw [show (14 : Int32) + nI k = nI (14 + k) from nI_add 14 k, c_get _ (by omega), rsp k hk]
          rfl
        · show ck ((9 : Int32) + nI k) 28 _ = _
          rw [show (9 : Int32) + nI k = nI (9 + k) from nI_add 9 k, ck_n (by omega) (by omega), nI_clamp (by omega)]
      · refine ⟨g 3 k, ?_, ?_⟩
        · show ((f_X7_get 8 7 (nI k) f).bind fun q4 => some q4) = _
          rw [get_n (by omega) (by omega), (hV.wit hk).1]
          rfl
        · show ck (nI k) 7 _ = _
          rw [ck_n (by omega) (by omega), nI_clamp (by omega)]
      · refine ⟨g 4 k, ?_, ?_⟩
        · show ((f_X7_get 9 7 (nI k) f).bind fun q4 => some q4) = _
          rw [get_n (by omega) (by omega), (hV.wit hk).2.1]
          rfl
        · show ck (nI k) 7 _ = _
          rw [ck_n (by omega) (by omega), nI_clamp (by omega)]
      · refine ⟨g 5 (21 + k), ?_, ?_⟩
        · show ((f_X8_get_18 ((21 : Int32) + nI k) f).bind fun q4 => some q4) = _
          rw [show (21 : Int32) + nI k = nI (21 + k) from nI_add 21 k, c_get _ (by omega), rsw k hk]
          rfl
        · show ck ((21 : Int32) + nI k) 28 _ = _
          rw [show (21 : Int32) + nI k = nI (21 + k) from nI_add 21 k, ck_n (by omega) (by omega), nI_clamp (by omega)]
theorem sim_comes : Sim_comes Rel := by
  intro f g hR p1 p2 p3
  obtain ⟨W, S, N, hV, hT⟩ := id hR
  refine q_ok hR ?_
  unfold f_X11_comes f_X12_comes f_X11_comes_b33 f_X12_comes_b38
  rw [c_isSound hV, m_isSound hV, c_isPlace hV, m_isPlace hV, c_isPlace hV, m_isPlace hV]
  rcases rng_cases p1 S with e | ⟨e, s, hs, rfl⟩
  · rw [e]
    exact ⟨_, rfl, rfl⟩
  · rw [e]
    rcases rng_cases p2 (pl W) with e | ⟨e, X, hX, rfl⟩
    · rw [e]
      exact ⟨_, rfl, rfl⟩
    · rw [e]
      rcases rng_cases p3 (pl W) with e | ⟨e, Y, hY, rfl⟩
      · rw [e]
        exact ⟨_, rfl, rfl⟩
      · rw [e]
        obtain ⟨v, hv, hz⟩ := c_loud hV hs (pl_W hX) (pl_W hY)
        obtain ⟨v2, hv2, hz2⟩ := m_loud hV hs (pl_W hX) (pl_W hY)
        have : v = v2 := by rw [eq_t, hz, hz2]
        subst this
        refine ⟨v + 1000, ?_, ?_⟩
        · show ((f_X2_loudness_29 (nI s) (nI X) (nI Y) f).bind _) = _
          rw [hv]; rfl
        · show ((f_X12_loudAt (nI s) (nI X) (nI Y) g).bind _) = _
          rw [hv2]; rfl
theorem sim_says : Sim_says Rel := by
  intro f g hR p1 p2 p3
  obtain ⟨W, S, N, hV, hT⟩ := id hR
  refine q_ok hR ?_
  unfold f_X11_says f_X12_says f_X11_says_b33 f_X12_says_b34
  rw [c_isWitness hV, m_isWitness hV, c_isSound hV, m_isSound hV, c_isPlace hV, m_isPlace hV]
  rcases rng_cases p1 N with e | ⟨e, w, hw, rfl⟩
  · rw [e]
    exact ⟨_, rfl, rfl⟩
  · rw [e]
    rcases rng_cases p2 S with e | ⟨e, s, hs, rfl⟩
    · rw [e]
      exact ⟨_, rfl, rfl⟩
    · rw [e]
      rcases rng_cases p3 (pl W) with e | ⟨e, X, hX, rfl⟩
      · rw [e]
        exact ⟨_, rfl, rfl⟩
      · rw [e]
        refine ⟨sy g w s X, ?_, ?_⟩
        · show ((f_X2_saying_29 (nI w) (nI s) (nI X) f).bind _) = _
          rw [c_saying hV hw hs (pl_W hX)]; rfl
        · show ((f_X12_sayingOf (nI w) (nI s) (nI X) g).bind _) = _
          rw [m_saying hV hw hs (pl_W hX)]; rfl
theorem sim_told : Sim_told Rel := by
  intro f g hR p1
  obtain ⟨W, S, N, hV, hT⟩ := id hR
  refine q_ok hR ?_
  obtain ⟨r0, r1, r2, r3, r4, r5, -⟩ := hV.row
  obtain ⟨⟨P, nx, -, -, -, hP1, hP2, -⟩, -, -, ⟨Cn, -, hC1, hC2, -⟩, ⟨B, -, hB1, hB2, -⟩, ⟨Tn, -, hT1, hT2, -⟩, -⟩ := hT
  unfold f_X11_told f_X12_told
  by_cases hout : p1 < 0 ∨ 12 < p1
  · rw [if_pos hout, if_pos hout]
    exact ⟨_, rfl, rfl⟩
  · rw [if_neg hout, if_neg hout]
    obtain ⟨j, hj, rfl⟩ := out3 (n := 12) rfl hout
    have gt : ∀ (k : Nat) (hk : k < 28), ((f_X8_get_18 (nI k) f).bind fun q => some q) = some (f 19 k) := fun k hk => by rw [c_get k hk]; rfl
    have ckk : ∀ (k : Nat) (hk : k < 28), (ck (nI k) 28 (some (g 5 (nI k).toNatClampNeg))) = some (g 5 k) := fun k hk => by rw [ck_n hk (by omega), nI_clamp (by omega)]
    rcases (show j = 0 ∨ j = 1 ∨ j = 2 ∨ j = 3 ∨ j = 4 ∨ j = 5 ∨ j = 6 ∨ j = 7 ∨ j = 8 ∨ j = 9 ∨ j = 10 ∨ j = 11 ∨ j = 12 by omega) with rfl | rfl | rfl | rfl | rfl | rfl | rfl | rfl | rfl | rfl | rfl | rfl | rfl
    · refine ⟨nI (pl W), ?_, ?_⟩
      · show ((f_X5_places_3 f).bind fun q => some q) = _
        rw [c_places hV]; rfl
      · show ((f_X12_places g).bind fun q => some q) = _
        rw [m_places hV]; rfl
    · exact ⟨nI S, congrArg some hV.fS, congrArg some hV.gS⟩
    · exact ⟨nI N, congrArg some hV.fN, congrArg some hV.gN⟩
    · exact ⟨nI Tn, congrArg some hT1, congrArg some hT2⟩
    · refine ⟨g 5 8, ?_, ckk 8 (by omega)⟩
      show ((f_X8_get_18 (nI 0) f).bind fun q => some (q + (9 : Int32))) = _
      rw [c_get 0 (by omega), r0]
      show some (g 5 8 - 9 + 9) = _
      rw [Int32.sub_add_cancel]
    · exact ⟨g 5 16, (gt 1 (by omega)).trans (congrArg some r1), ckk 16 (by omega)⟩
    · exact ⟨g 5 17, (gt 2 (by omega)).trans (congrArg some r2), ckk 17 (by omega)⟩
    · exact ⟨g 5 18, (gt 3 (by omega)).trans (congrArg some r3), ckk 18 (by omega)⟩
    · exact ⟨g 5 19, (gt 4 (by omega)).trans (congrArg some r4), ckk 19 (by omega)⟩
    · exact ⟨g 5 20, (gt 5 (by omega)).trans (congrArg some r5), ckk 20 (by omega)⟩
    · exact ⟨nI Cn, congrArg some hC1, congrArg some hC2⟩
    · exact ⟨nI B, congrArg some hB1, congrArg some hB2⟩
    · exact ⟨nI P, congrArg some hP1, congrArg some hP2⟩
