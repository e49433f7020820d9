/-! A house that is read: what is taken over -/
theorem c_take (F : St) : ∃ G : St, f_X5_take_3_11 F = some G ∧ (∀ k, (k < 3 ∨ 9 < k) → G k = F k) ∧ (G 3 0 = F 11 0 ∧ G 3 1 = F 11 1 ∧ G 3 2 = F 11 2 ∧ G 3 3 = F 11 3) ∧ (∀ j, j < 8 → G 4 j = F 12 j) ∧ (∀ j, j < 6 → G 5 j = F 13 j ∧ G 6 j = F 14 j) ∧ ∀ j, j < 7 → G 7 j = F 15 j ∧ G 8 j = F 16 j ∧ G 9 j = F 17 j := by
  have k1 : ∀ F : St, f_X7_copy 12 8 4 8 (0 : Int32) (0 : Int32) (8 : Int32) F = some (cpF F 12 4 0 0 8) := fun F => copy_n (a := 0) (b := 0) (c := 8) (by omega) (by omega) (by omega) (by omega) (by omega) (by omega)
  have k2 : ∀ F : St, f_X7_copy 13 6 5 6 (0 : Int32) (0 : Int32) (6 : Int32) F = some (cpF F 13 5 0 0 6) := fun F => copy_n (a := 0) (b := 0) (c := 6) (by omega) (by omega) (by omega) (by omega) (by omega) (by omega)
  have k3 : ∀ F : St, f_X7_copy 14 6 6 6 (0 : Int32) (0 : Int32) (6 : Int32) F = some (cpF F 14 6 0 0 6) := fun F => copy_n (a := 0) (b := 0) (c := 6) (by omega) (by omega) (by omega) (by omega) (by omega) (by omega)
  have k4 : ∀ F : St, f_X7_copy 15 7 7 7 (0 : Int32) (0 : Int32) (7 : Int32) F = some (cpF F 15 7 0 0 7) := fun F => copy_n (a := 0) (b := 0) (c := 7) (by omega) (by omega) (by omega) (by omega) (by omega) (by omega)
  have k5 : ∀ F : St, f_X7_copy 16 7 8 7 (0 : Int32) (0 : Int32) (7 : Int32) F = some (cpF F 16 8 0 0 7) := fun F => copy_n (a := 0) (b := 0) (c := 7) (by omega) (by omega) (by omega) (by omega) (by omega) (by omega)
  have k6 : ∀ F : St, f_X7_copy 17 7 9 7 (0 : Int32) (0 : Int32) (7 : Int32) F = some (cpF F 17 9 0 0 7) := fun F => copy_n (a := 0) (b := 0) (c := 7) (by omega) (by omega) (by omega) (by omega) (by omega) (by omega)
  refine ⟨cpF (cpF (cpF (cpF (cpF (cpF (su (su (su (su F 3 0 (F 11 0)) 3 1 (F 11 1)) 3 2 (F 11 2)) 3 3 (F 11 3)) 12 4 0 0 8) 13 5 0 0 6) 14 6 0 0 6) 15 7 0 0 7) 16 8 0 0 7) 17 9 0 0 7, ?_, fun k hk => ?_, ⟨?_, ?_, ?_, ?_⟩, fun j hj => ?_, fun j hj => ⟨?_, ?_⟩, fun j hj => ⟨?_, ?_, ?_⟩⟩
  · unfold f_X5_take_3_11
    rw [bind_e (k1 _), bind_e (k2 _), bind_e (k3 _), bind_e (k4 _), bind_e (k5 _), bind_e (k6 _)]
    rfl
  · have a3 : ¬ k = 3 := by omega
    have a4 : ¬ k = 4 := by omega
    have a5 : ¬ k = 5 := by omega
    have a6 : ¬ k = 6 := by omega
    have a7 : ¬ k = 7 := by omega
    have a8 : ¬ k = 8 := by omega
    have a9 : ¬ k = 9 := by omega
    simp [cpF, su, a3, a4, a5, a6, a7, a8, a9]
  · simp [cpF, su, upd]
  · simp [cpF, su, upd]
  · simp [cpF, su, upd]
  · simp [cpF, su, upd]
  · simp [cpF, su, upd, hj]
  · simp [cpF, su, upd, hj]
  · simp [cpF, su, upd, hj]
  · simp [cpF, su, upd, hj]
  · simp [cpF, su, upd, hj]
  · simp [cpF, su, upd, hj]
theorem fm_loop : ∀ (d n i : Nat) (F : St), i + d = 7 → d < n → ∃ G : St, f_X8_forgetMornings_18_b32 n (nI i) F = some G ∧ (∀ k, k ≠ 19 → G k = F k) ∧ (∀ j, j < 21 + i → G 19 j = F 19 j) ∧ ∀ w, i ≤ w → w < 7 → G 19 (21 + w) = -1 := by
  intro d
  induction d with
  | zero =>
    intro n i F h1 h2
    obtain ⟨n, rfl⟩ : ∃ m, n = m + 1 := ⟨n - 1, by omega⟩
    refine ⟨F, ?_, fun _ _ => rfl, fun _ _ => rfl, fun w h3 h4 => by omega⟩
    show f_X8_forgetMornings_18_b32s _ _ _ = _
    unfold f_X8_forgetMornings_18_b32s
    rw [show (7 : Int32) = nI 7 from rfl, if_pos (nI_le (a := 7) (by omega) (by omega))]
  | succ d ih =>
    intro n i F h1 h2
    obtain ⟨n, rfl⟩ : ∃ m, n = m + 1 := ⟨n - 1, by omega⟩
    obtain ⟨G, g1, g2, g3, g4⟩ := ih n (i + 1) (su F 19 (21 + i) (-1)) (by omega) (by omega)
    refine ⟨G, ?_, fun k hk => by rw [g2 k hk, su_r hk], fun j hj => by rw [g3 j (by omega), su_s, upd_n (by omega)], fun w h3 h4 => ?_⟩
    · show f_X8_forgetMornings_18_b32s _ _ _ = _
      unfold f_X8_forgetMornings_18_b32s
      rw [show (7 : Int32) = nI 7 from rfl, if_neg (nI_ge (b := 7) (by omega) (by omega)), show (21 : Int32) + nI i = nI (21 + i) from nI_add 21 i, bind_e (c_put (f := F) (21 + i) (by omega) (-1)), nI_1]
      exact g1
    · by_cases e : w = i
      · subst e
        rw [g3 _ (by omega), su_s, upd_s]
      · exact g4 w (by omega) h4
theorem c_forgetM (F : St) : ∃ G : St, f_X8_forgetMornings_18 F = some G ∧ (∀ k, k ≠ 19 → G k = F k) ∧ (G 19 1 = 0 ∧ G 19 2 = -1 ∧ G 19 3 = -1 ∧ G 19 4 = 0 ∧ G 19 5 = 0) ∧ ∀ w, w < 7 → G 19 (21 + w) = -1 := by
  obtain ⟨G, g1, g2, g3, g4⟩ := fm_loop 7 fuB 0 (su (su (su (su (su F 19 1 0) 19 2 (-1)) 19 3 (-1)) 19 4 0) 19 5 0) (by omega) (by unfold fuB; omega)
  refine ⟨G, ?_, fun k hk => ?_, ⟨?_, ?_, ?_, ?_, ?_⟩, fun w hw => g4 w (by omega) hw⟩
  · unfold f_X8_forgetMornings_18
    generalize f_X8_forgetMornings_18_b32 fuB = K at g1 ⊢
    rw [bind_e (show f_X8_put_18 (1 : Int32) (0 : Int32) F = _ from c_put 1 (by omega) 0), bind_e (show f_X8_put_18 (2 : Int32) (-1 : Int32) _ = _ from c_put 2 (by omega) (-1)), bind_e (show f_X8_put_18 (3 : Int32) (-1 : Int32) _ = _ from c_put 3 (by omega) (-1)), bind_e (show f_X8_put_18 (4 : Int32) (0 : Int32) _ = _ from c_put 4 (by omega) 0), bind_e (show f_X8_put_18 (5 : Int32) (0 : Int32) _ = _ from c_put 5 (by omega) 0)]
    exact g1
  · rw [g2 k hk, su_r hk, su_r hk, su_r hk, su_r hk, su_r hk]
  · rw [g3 1 (by omega)]; simp [su, upd]
  · rw [g3 2 (by omega)]; simp [su, upd]
  · rw [g3 3 (by omega)]; simp [su, upd]
  · rw [g3 4 (by omega)]; simp [su, upd]
  · rw [g3 5 (by omega)]; simp [su, upd]
theorem c_begin (F : St) : ∃ G : St, f_X8_begin_18_3 F = some G ∧ (∀ k, k ≠ 19 → G k = F k) ∧ (G 19 0 = F 3 1 ∧ G 19 1 = 0 ∧ G 19 2 = -1 ∧ G 19 3 = -1 ∧ G 19 4 = 0 ∧ G 19 5 = 0) ∧ (∀ k, k < 8 → G 19 (6 + k) = F 4 k) ∧ (∀ w, w < 7 → G 19 (14 + w) = F 7 w) ∧ ∀ w, w < 7 → G 19 (21 + w) = -1 := by
  obtain ⟨G, g1, g2, ⟨a1, a2, a3, a4, a5⟩, g4⟩ := c_forgetM F
  have k1 : ∀ F : St, f_X7_copy 4 8 19 28 (0 : Int32) (6 : Int32) (8 : Int32) F = some (cpF F 4 19 0 6 8) := fun F => copy_n (a := 0) (b := 6) (c := 8) (by omega) (by omega) (by omega) (by omega) (by omega) (by omega)
  have k2 : ∀ F : St, f_X7_copy 7 7 19 28 (0 : Int32) (14 : Int32) (7 : Int32) F = some (cpF F 7 19 0 14 7) := fun F => copy_n (a := 0) (b := 14) (c := 7) (by omega) (by omega) (by omega) (by omega) (by omega) (by omega)
  refine ⟨cpF (cpF (su G 19 0 (G 3 1)) 4 19 0 6 8) 7 19 0 14 7, ?_, fun k hk => ?_, ⟨?_, ?_, ?_, ?_, ?_, ?_⟩, fun k hk => ?_, fun w hw => ?_, fun w hw => ?_⟩
  · unfold f_X8_begin_18_3
    rw [bind_e g1, bind_e (show f_X8_put_18 (0 : Int32) (G 3 1) G = _ from c_put 0 (by omega) _), bind_e (k1 _), bind_e (k2 _)]
  · rw [cpF_src hk, cpF_src hk, su_r hk, g2 k hk]
  · simp [cpF, su, upd, g2 3 (by omega)]
  · simp [cpF, su, upd, a1]
  · simp [cpF, su, upd, a2]
  · simp [cpF, su, upd, a3]
  · simp [cpF, su, upd, a4]
  · simp [cpF, su, upd, a5]
  · rw [cpF_dst, if_neg (by omega), cpF_dst, if_pos (by omega), su_r (by omega), g2 4 (by omega)]
    congr 1; omega
  · rw [cpF_dst, if_pos (by omega), cpF_src (by omega), su_r (by omega), g2 7 (by omega)]
    congr 1; omega
  · rw [cpF_dst, if_neg (by omega), cpF_dst, if_neg (by omega), su_s, upd_n (by omega)]
    exact g4 w hw
theorem fi_n (n : Nat) (F : St) : f_X11_forgetImages_b2 (n + 3) (0 : Int32) F = some (su (su F 23 2 0) 26 2 0) := by
  have s : ∀ (m : Nat) (i : Int32) (F : St), f_X11_forgetImages_b2 (m + 1) i F = f_X11_forgetImages_b2s (f_X11_forgetImages_b2 m) i F := fun _ _ _ => rfl
  rw [s]
  unfold f_X11_forgetImages_b2s f_X11_forgetImages_b26
  rw [if_neg (show ¬ Int32.ofNat 2 ≤ (0 : Int32) by decide), if0, show (0 : Int32) + 1 = 1 from rfl, s]
  unfold f_X11_forgetImages_b2s f_X11_forgetImages_b26
  rw [if_neg (show ¬ Int32.ofNat 2 ≤ (1 : Int32) by decide), if1, if_pos rfl, show (1 : Int32) + 1 = 2 from rfl, s]
  unfold f_X11_forgetImages_b2s
  rw [if_pos (show Int32.ofNat 2 ≤ (2 : Int32) by decide)]
theorem c_forgetI (F : St) : f_X11_forgetImages F = some (su (su F 23 2 0) 26 2 0) := by
  unfold f_X11_forgetImages
  rw [show fuB = 997 + 3 from rfl]
  exact fi_n 997 F
theorem cn_loop2 : ∀ (d n i : Nat) (F : St), i + d = 7 → d < n → ∃ G : St, f_X12_clearNow_b48 n (nI i) F = some G ∧ (∀ k, k ≠ 5 → G k = F k) ∧ (∀ j, j < 21 + i → G 5 j = F 5 j) ∧ ∀ w, i ≤ w → w < 7 → G 5 (21 + w) = -1 := by
  intro d
  induction d with
  | zero =>
    intro n i F h1 h2
    obtain ⟨n, rfl⟩ : ∃ m, n = m + 1 := ⟨n - 1, by omega⟩
    refine ⟨F, ?_, fun _ _ => rfl, fun _ _ => rfl, fun w h3 h4 => by omega⟩
    show f_X12_clearNow_b48s _ _ _ = _
    unfold f_X12_clearNow_b48s
    rw [show (7 : Int32) = nI 7 from rfl, if_pos (nI_le (a := 7) (by omega) (by omega))]
  | succ d ih =>
    intro n i F h1 h2
    obtain ⟨n, rfl⟩ : ∃ m, n = m + 1 := ⟨n - 1, by omega⟩
    obtain ⟨G, g1, g2, g3, g4⟩ := ih n (i + 1) (su F 5 (21 + i) (-1)) (by omega) (by omega)
    refine ⟨G, ?_, fun k hk => by rw [g2 k hk, su_r hk], fun j hj => by rw [g3 j (by omega), su_s, upd_n (by omega)], fun w h3 h4 => ?_⟩
    · show f_X12_clearNow_b48s _ _ _ = _
      unfold f_X12_clearNow_b48s
      rw [show (7 : Int32) = nI 7 from rfl, if_neg (nI_ge (b := 7) (by omega) (by omega)), show (21 : Int32) + nI i = nI (21 + i) from nI_add 21 i, ck_n (by omega) (by omega), nI_clamp (by omega), nI_1]
      exact g1
    · by_cases e : w = i
      · subst e
        rw [g3 _ (by omega), su_s, upd_s]
      · exact g4 w (by omega) h4
theorem cn_loop1 : ∀ (d n i : Nat) (F : St), i + d = 28 → d < n → ∃ G : St, f_X12_clearNow_b2 n (nI i) F = f_X12_clearNow_b48 fuB (0 : Int32) (su (su (su G 5 8 9) 5 17 (-1)) 5 18 (-1)) ∧ (∀ k, k ≠ 5 → G k = F k) ∧ (∀ j, j < i → G 5 j = F 5 j) ∧ ∀ j, i ≤ j → j < 28 → G 5 j = 0 := by
  intro d
  induction d with
  | zero =>
    intro n i F h1 h2
    obtain ⟨n, rfl⟩ : ∃ m, n = m + 1 := ⟨n - 1, by omega⟩
    refine ⟨F, ?_, fun _ _ => rfl, fun _ _ => rfl, fun w h3 h4 => by omega⟩
    show f_X12_clearNow_b2s (f_X12_clearNow_b2 n) _ _ = _
    unfold f_X12_clearNow_b2s
    generalize f_X12_clearNow_b48 fuB = K
    rw [show (28 : Int32) = nI 28 from rfl, if_pos (nI_le (a := 28) (by omega) (by omega)), show (8 : Int32) = nI 8 from rfl, show (17 : Int32) = nI 17 from rfl, show (18 : Int32) = nI 18 from rfl, ck_n (by omega) (by omega), ck_n (by omega) (by omega), ck_n (by omega) (by omega), nI_clamp (by omega), nI_clamp (by omega), nI_clamp (by omega)]
  | succ d ih =>
    intro n i F h1 h2
    obtain ⟨n, rfl⟩ : ∃ m, n = m + 1 := ⟨n - 1, by omega⟩
    obtain ⟨G, g1, g2, g3, g4⟩ := ih n (i + 1) (su F 5 i 0) (by omega) (by omega)
    refine ⟨G, ?_, fun k hk => by rw [g2 k hk, su_r hk], fun j hj => by rw [g3 j (by omega), su_s, upd_n (by omega)], fun j h3 h4 => ?_⟩
    · show f_X12_clearNow_b2s (f_X12_clearNow_b2 n) _ _ = _
      unfold f_X12_clearNow_b2s
      generalize f_X12_clearNow_b48 fuB = K at g1 ⊢
      rw [show (28 : Int32) = nI 28 from rfl, if_neg (nI_ge (b := 28) (by omega) (by omega)), ck_n (by omega) (by omega), nI_clamp (by omega), nI_1]
      exact g1
    · by_cases e : j = i
      · subst e
        rw [g3 _ (by omega), su_s, upd_s]
      · exact g4 j (by omega) h4
theorem m_clearNow (F : St) : ∃ G : St, f_X12_clearNow F = some G ∧ (∀ k, k ≠ 5 → G k = F k) ∧ (∀ j, j < 21 → G 5 j = if j = 8 then 9 else if j = 17 ∨ j = 18 then -1 else 0) ∧ ∀ w, w < 7 → G 5 (21 + w) = -1 := by
  obtain ⟨G1, g1, g2, -, g4⟩ := cn_loop1 28 fuB 0 F (by omega) (by unfold fuB; omega)
  obtain ⟨G, h1, h2, h3, h4⟩ := cn_loop2 7 fuB 0 (su (su (su G1 5 8 9) 5 17 (-1)) 5 18 (-1)) (by omega) (by unfold fuB; omega)
  rw [nI_0] at g1 h1
  refine ⟨G, ?_, fun k hk => ?_, fun j hj => ?_, fun w hw => h4 w (by omega) hw⟩
  · exact g1.trans h1
  · rw [h2 k hk, su_r hk, su_r hk, su_r hk, g2 k hk]
  · rw [h3 j (by omega)]
    by_cases e8 : j = 8
    · subst e8; simp [su, upd]
    · by_cases e17 : j = 17
      · subst e17; simp [su, upd]
      · by_cases e18 : j = 18
        · subst e18; simp [su, upd]
        · rw [su_s, upd_n e18, su_s, upd_n e17, su_s, upd_n e8, g4 j (by omega) (by omega), if_neg e8, if_neg (by omega)]
