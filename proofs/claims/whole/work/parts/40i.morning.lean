/-! A morning, both sides -/
theorem c_morn_chain {p1 p2 v : Int32} {f f1 f2 : St} (z1 : f_X5_isSound_3 p1 f = some 1) (z2 : f_X5_isPlace_3 p2 f = some 1) (z3 : f_X11_isFullOfMornings f = some 0) (z4 : f_X4_push_20_18 f = some f1) (z5 : f_X11_swear p1 p2 f1 = some f2) (z6 : f_X8_get_18 (4 : Int32) f2 = some v) : f_X11_morning p1 p2 f = some (v, f2) := by
  unfold f_X11_morning
  rw [bind_e z1, if1, bind_e z2, if1, bind_e z3, if0, bind_e z4, bind_e z5, bind_e z6]
theorem m_morn_chain {p1 p2 : Int32} {g g1 g2 : St} (z1 : f_X12_isSound p1 g = some 1) (z2 : f_X12_isPlace p2 g = some 1) (z3 : g 5 16 ≤ 9000) (z4 : f_X12_remember g = some g1) (z5 : f_X12_morningOf p1 p2 g1 = some g2) : f_X12_morning p1 p2 g = some (g2 5 19, g2) := by
  unfold f_X12_morning
  rw [bind_e z1, if1, bind_e z2, if1, show ck (16 : Int32) 28 _ = _ from ck_n (i := 16) (n := 28) (by omega) (by omega), show (16 : Int32).toNatClampNeg = 16 from rfl, if_pos z3, bind_e z4, bind_e z5, show ck (19 : Int32) 28 _ = _ from ck_n (i := 19) (n := 28) (by omega) (by omega)]
  rfl
theorem sim_morning : Sim_morning Rel := by
  intro f g hR p1 p2
  obtain ⟨W, S, N, hV, hT⟩ := id hR
  have a1 := c_isSound hV p1
  have a2 := c_isPlace hV p2
  have b1 := m_isSound hV p1
  have b2 := m_isPlace hV p2
  have a3 := c_full hV
  rcases rng_cases p1 S with e | ⟨e, s, hs, rfl⟩
  · rw [e, b2i_f] at a1 b1
    refine ⟨(-1000000001 : Int32), f, g, ?_, ?_, hR⟩
    · unfold f_X11_morning
      rw [bind_e a1, if0]; rfl
    · unfold f_X12_morning
      rw [bind_e b1, if0]; rfl
  · rw [e, b2i_t] at a1 b1
    rcases rng_cases p2 (pl W) with e2 | ⟨e2, X, hX, rfl⟩
    · rw [e2, b2i_f] at a2 b2
      refine ⟨(-1000000001 : Int32), f, g, ?_, ?_, hR⟩
      · unfold f_X11_morning
        rw [bind_e a1, if1, bind_e a2, if0]; rfl
      · unfold f_X12_morning
        rw [bind_e b1, if1, bind_e b2, if0]; rfl
    · rw [e2, b2i_t] at a2 b2
      by_cases hc : g 5 16 ≤ 9000
      · rw [decide_eq_true hc, Bool.not_true, b2i_f] at a3
        obtain ⟨f1, g1, k1, k2, hV1, hT1, e19, e5⟩ := push_rel hV hT
        obtain ⟨f2, g2, q1, q2, hV2, ra, rb⟩ := morning_step hV1 hs (pl_W hX)
        have z6 : f_X8_get_18 (4 : Int32) f2 = some (f2 19 4) := c_get 4 (by omega)
        rw [hV2.row.2.2.2.2.1] at z6
        exact ⟨g2 5 19, f2, g2, c_morn_chain a1 a2 a3 k1 q1 z6, m_morn_chain b1 b2 hc k2 q2, W, S, N, hV2, hT1.rows ra rb⟩
      · rw [decide_eq_false hc, Bool.not_false, b2i_t] at a3
        refine ⟨(-1000000004 : Int32), f, g, ?_, ?_, hR⟩
        · unfold f_X11_morning
          rw [bind_e a1, if1, bind_e a2, if1, bind_e a3, if1]
        · unfold f_X12_morning
          rw [bind_e b1, if1, bind_e b2, if1, show ck (16 : Int32) 28 _ = _ from ck_n (i := 16) (n := 28) (by omega) (by omega), show (16 : Int32).toNatClampNeg = 16 from rfl, if_neg hc]
