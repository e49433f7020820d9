theorem m_deaf {W S N : Nat} {f g : St} (h : V W S N f g) {s : Nat} (hs : s < S) : f_X12_deaf_b15 fuB (nI s) (0 : Int32) (0 : Int32) g = some (nI (orN (fun X => !heard g N s X) 0 0 (pl W))) := by
  have hp := pl_le h.W8
  exact m_deaf_loop h hs (pl W) fuB 0 0 (by omega) (by unfold fuB; omega)
theorem sim_deaf : Sim_deaf Rel := by
  intro f g hR p1
  obtain ⟨W, S, N, hV, hT⟩ := id hR
  refine q_ok hR ?_
  unfold f_X11_deaf f_X12_deaf
  rw [c_isSound hV, m_isSound hV]
  rcases rng_cases p1 S with e | ⟨e, s, hs, rfl⟩
  · simp only [e, b2i_f, Option.bind_some, if0]
    exact ⟨_, rfl, rfl⟩
  · rw [m_deaf hV hs, c_unheard hV hs]
    simp only [e, b2i_t, Option.bind_some, if1]
    exact ⟨_, rfl, rfl⟩
theorem t_mil : (1000000 : Int32).toInt = ((1000001 : Nat) : Int) - 1 := by decide
theorem t_milL : (1000000 : Int64).toInt = ((1000001 : Nat) : Int) - 1 := by decide
theorem barg_key (g : St) (p1 p3 p4 x : Int32) : ∃ r, (if p4 = 0 then some (jmax x (0 : Int32)) else some (jmin (jmax x (0 : Int32) + ((2 : Int32) * p3)) p1)) = some r ∧ (if x ≤ 0 then f_X12_bargain_b75 p1 p3 p4 (0 : Int32) g else f_X12_bargain_b75 p1 p3 p4 x g) = some r := by
  have e : (if x ≤ 0 then f_X12_bargain_b75 p1 p3 p4 (0 : Int32) g else f_X12_bargain_b75 p1 p3 p4 x g) = f_X12_bargain_b75 p1 p3 p4 (jmax x 0) g := by
    unfold jmax
    by_cases h1 : x < 0
    · rw [if_pos h1, if_pos (by rw [lt_t] at h1; rw [le_t]; omega)]
    · rw [if_neg h1]
      by_cases h2 : x ≤ 0
      · have : x = 0 := by rw [lt_t] at h1; rw [le_t] at h2; rw [eq_t]; omega
        subst this
        rw [if_pos h2]
      · rw [if_neg h2]
  rw [e]
  generalize jmax x 0 = z
  unfold f_X12_bargain_b75 f_X12_bargain_b97 jmin
  by_cases h4 : p4 = 0
  · simp only [if_pos h4]
    split <;> exact ⟨_, rfl, rfl⟩
  · simp only [if_neg h4]
    by_cases h1 : p1 < z + 2 * p3
    · rw [if_pos h1, if_pos (by rw [lt_t] at h1; rw [le_t]; omega)]
      exact ⟨_, rfl, rfl⟩
    · rw [if_neg h1]
      by_cases h2 : p1 ≤ z + 2 * p3
      · have : z + 2 * p3 = p1 := by rw [lt_t] at h1; rw [le_t] at h2; rw [eq_t]; omega
        rw [if_pos h2, this]
        exact ⟨_, rfl, rfl⟩
      · rw [if_neg h2]
        exact ⟨_, rfl, rfl⟩
theorem sim_bargain : Sim_bargain Rel := by
  intro f g hR p1 p2 p3 p4
  refine q_ok hR ?_
  unfold f_X11_bargain f_X12_bargain f_X11_bargain_b38 f_X12_bargain_b47
  rw [c_out (n := 10000) rfl, m_inN (n := 10000) rfl, c_out (n := 1000001) t_mil, m_inN (n := 1000001) t_milL, c_out (n := 1000) rfl, m_inN (n := 1000) rfl, c_out (n := 2) rfl, m_inN (n := 2) rfl]
  generalize rng p1 10000 = c1
  generalize rng p2 1000001 = c2
  generalize rng p3 1000 = c3
  generalize rng p4 2 = c4
  simp only [nm]
  generalize (p1.toInt64 * p2.toInt64 / 1000000).toInt32 - p3 = x
  have key := barg_key g p1 p3 p4 x
  cases c1
  · simp only [b2i_t, Bool.not_false, b2i_f, Option.bind_some, if0, if1]
    exact ⟨_, rfl, rfl⟩
  cases c2
  · simp only [b2i_t, Bool.not_false, Bool.not_true, b2i_f, Option.bind_some, if0, if1]
    exact ⟨_, rfl, rfl⟩
  cases c3
  · simp only [b2i_t, Bool.not_false, Bool.not_true, b2i_f, Option.bind_some, if0, if1]
    exact ⟨_, rfl, rfl⟩
  cases c4
  · simp only [b2i_t, Bool.not_false, Bool.not_true, b2i_f, Option.bind_some, if0, if1]
    exact ⟨_, rfl, rfl⟩
  simp only [b2i_t, Bool.not_true, b2i_f, Option.bind_some, if0, if1]
  exact key
