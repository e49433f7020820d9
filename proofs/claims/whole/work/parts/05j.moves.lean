/-! Moved, walls, winds, undone, images -/
theorem StR.spot {W N : Nat} {row now : Nat → Int32} (h : StR W N row now) (hN : N ≤ 7) {w x : Nat} (hw : w < N) (hx : x ≤ W) : StR W N (upd row (14 + w) (nI x)) (upd now (9 + w) (nI x)) := by
  obtain ⟨⟨r0, r1, r2, r3, r4, r5, rk, rp, rs⟩, ⟨hW, b1, b2, b3⟩, hp, m, hm, em⟩ := h
  refine ⟨⟨?_, ?_, ?_, ?_, ?_, ?_, fun k hk => ?_, fun k hk => ?_, fun k hk => ?_⟩, ⟨hW, ?_, ?_, fun k hk => ?_⟩, fun k hk => ?_, m, hm, ?_⟩
  · rw [upd_n (by omega), upd_n (by omega), r0]
  · rw [upd_n (by omega), upd_n (by omega), r1]
  · rw [upd_n (by omega), upd_n (by omega), r2]
  · rw [upd_n (by omega), upd_n (by omega), r3]
  · rw [upd_n (by omega), upd_n (by omega), r4]
  · rw [upd_n (by omega), upd_n (by omega), r5]
  · rw [upd_n (by omega), upd_n (by omega), rk k hk]
  · by_cases e : k = w
    · subst e; rw [upd_s, upd_s]
    · rw [upd_n (by omega), upd_n (by omega), rp k hk]
  · rw [upd_n (by omega), upd_n (by omega), rs k hk]
  · rw [upd_n (by omega)]; exact b1
  · rw [upd_n (by omega)]; exact b2
  · rw [upd_n (by omega)]; exact b3 k hk
  · by_cases e : k = w
    · subst e; exact ⟨x, hx, upd_s⟩
    · rw [upd_n (by omega)]; exact hp k hk
  · rw [upd_n (by omega)]; exact em
theorem StR.thick {W N : Nat} {row now : Nat → Int32} (h : StR W N row now) (hN : N ≤ 7) {k0 : Nat} {t : Int32} (hk0 : k0 < W) (ht : 0 ≤ t.toInt ∧ t.toInt ≤ 99) : StR W N (upd row (6 + k0) t) (upd now k0 t) := by
  obtain ⟨⟨r0, r1, r2, r3, r4, r5, rk, rp, rs⟩, ⟨hW, b1, b2, b3⟩, hp, m, hm, em⟩ := h
  refine ⟨⟨?_, ?_, ?_, ?_, ?_, ?_, fun k hk => ?_, fun k hk => ?_, fun k hk => ?_⟩, ⟨hW, ?_, ?_, fun k hk => ?_⟩, fun k hk => ?_, m, hm, ?_⟩
  · rw [upd_n (by omega), upd_n (by omega), r0]
  · rw [upd_n (by omega), upd_n (by omega), r1]
  · rw [upd_n (by omega), upd_n (by omega), r2]
  · rw [upd_n (by omega), upd_n (by omega), r3]
  · rw [upd_n (by omega), upd_n (by omega), r4]
  · rw [upd_n (by omega), upd_n (by omega), r5]
  · by_cases e : k = k0
    · subst e; rw [upd_s, upd_s]
    · rw [upd_n (by omega), upd_n (by omega), rk k hk]
  · rw [upd_n (by omega), upd_n (by omega), rp k hk]
  · rw [upd_n (by omega), upd_n (by omega), rs k hk]
  · rw [upd_n (by omega)]; exact b1
  · rw [upd_n (by omega)]; exact b2
  · by_cases e : k = k0
    · subst e; rw [upd_s]; exact ht
    · rw [upd_n (by omega)]; exact b3 k hk
  · rw [upd_n (by omega)]; exact hp k hk
  · rw [upd_n (by omega)]; exact em
theorem StR.windy {W N : Nat} {row now : Nat → Int32} (h : StR W N row now) (hN : N ≤ 7) {b : Int32} (hb : 0 ≤ b.toInt ∧ b.toInt ≤ 18) : StR W N (upd row 0 (b - 9)) (upd now 8 b) := by
  obtain ⟨⟨r0, r1, r2, r3, r4, r5, rk, rp, rs⟩, ⟨hW, b1, b2, b3⟩, hp, m, hm, em⟩ := h
  refine ⟨⟨?_, ?_, ?_, ?_, ?_, ?_, fun k hk => ?_, fun k hk => ?_, fun k hk => ?_⟩, ⟨hW, ?_, ?_, fun k hk => ?_⟩, fun k hk => ?_, m, hm, ?_⟩
  · rw [upd_s, upd_s]
  · rw [upd_n (by omega), upd_n (by omega), r1]
  · rw [upd_n (by omega), upd_n (by omega), r2]
  · rw [upd_n (by omega), upd_n (by omega), r3]
  · rw [upd_n (by omega), upd_n (by omega), r4]
  · rw [upd_n (by omega), upd_n (by omega), r5]
  · rw [upd_n (by omega), upd_n (by omega), rk k hk]
  · rw [upd_n (by omega), upd_n (by omega), rp k hk]
  · rw [upd_n (by omega), upd_n (by omega), rs k hk]
  · rw [upd_s]; exact hb.1
  · rw [upd_s]; exact hb.2
  · rw [upd_n (by omega)]; exact b3 k hk
  · rw [upd_n (by omega)]; exact hp k hk
  · rw [upd_n (by omega)]; exact em
theorem V.row5 {W S N : Nat} {f g : St} (h : V W S N f g) {i j : Nat} {u v : Int32} (hs : StR W N (upd (f 19) i u) (upd (g 5) j v)) : V W S N (su f 19 i u) (su g 5 j v) :=
  ⟨h.1.mv (by simp [su]) (by simp [su]) (by simp [su]) (by simp [su]) (by simp [su]) (by simp [su]) (by simp [su]) (by simp [su]) (by simp [su]) (by simp [su]) (by simp [su]) (by simp [su]), by rw [su_s, su_s]; exact hs⟩
theorem sim_move : Sim_move Rel := by
  intro f g hR p1 p2
  obtain ⟨W, S, N, hV, hT⟩ := id hR
  have hN := hV.N7
  unfold f_X11_move f_X12_move f_X11_move_b22 f_X12_move_b16
  rw [c_isWitness hV, m_isWitness hV, c_isPlace hV, m_isPlace hV]
  rcases rng_cases p1 N with e | ⟨e, w, hw, rfl⟩
  · simp only [e, b2i_f, Option.bind_some, if0]
    exact ⟨_, _, _, rfl, rfl, hR⟩
  · rcases rng_cases p2 (pl W) with e2 | ⟨e2, x, hx, rfl⟩
    · simp only [e, e2, b2i_t, b2i_f, Option.bind_some, if0, if1]
      exact ⟨_, _, _, rfl, rfl, hR⟩
    · simp only [e, e2, b2i_t, Option.bind_some, if1]
      obtain ⟨f1, g1, k1, k2, hV1, hT1, e19, e5⟩ := push_rel hV hT
      unfold f_X11_change
      rw [show (14 : Int32) + nI w = nI (14 + w) from nI_add 14 w, show (9 : Int32) + nI w = nI (9 + w) from nI_add 9 w, c_get _ (by omega), k1, k2]
      simp only [Option.bind_some]
      rw [c_put _ (by omega), ck_n (by omega) (by omega), nI_clamp (by omega)]
      simp only [Option.bind_some, nm]
      rw [ck_n (by omega) (by omega)]
      refine ⟨g 5 (9 + w), _, _, by rw [hV.row.2.2.2.2.2.2.2.1 w hw], by rw [e5], W, S, N, hV1.row5 (hV1.2.spot hN hw (pl_W hx)), hT1.mv⟩
theorem sim_wall : Sim_wall Rel := by
  intro f g hR p1 p2
  obtain ⟨W, S, N, hV, hT⟩ := id hR
  have hN := hV.N7
  have hW := hV.W8
  unfold f_X11_wall f_X12_wall
  rw [c_isWall hV, m_isWall hV, c_out (n := 21) rfl, m_inN (n := 21) rfl]
  rcases rng_cases p1 W with e | ⟨e, w, hw, rfl⟩
  · simp only [e, b2i_f, Option.bind_some, if0]
    exact ⟨_, _, _, rfl, rfl, hR⟩
  · rcases rng_cases p2 21 with e2 | ⟨e2, x, hx, rfl⟩
    · simp only [e, e2, b2i_t, b2i_f, Option.bind_some, if0, if1, Bool.not_false]
      exact ⟨_, _, _, rfl, rfl, hR⟩
    · simp only [e, e2, b2i_t, b2i_f, Option.bind_some, if0, if1, Bool.not_true, if_true]
      obtain ⟨f1, g1, k1, k2, hV1, hT1, e19, e5⟩ := push_rel hV hT
      unfold f_X11_change
      rw [show (6 : Int32) + nI w = nI (6 + w) from nI_add 6 w, c_get _ (by omega), k1, k2]
      simp only [Option.bind_some]
      rw [c_put _ (by omega), ck_n (by omega) (by omega), nI_clamp (by omega)]
      simp only [Option.bind_some]
      have tx : (nI x).toInt = x := nI_toInt (by omega)
      refine ⟨g 5 w, _, _, by rw [hV.row.2.2.2.2.2.2.1 w hw], by rw [ck_n (by omega) (by omega), e5], W, S, N, hV1.row5 (hV1.2.thick hN hw (by rw [tx]; omega)), hT1.mv⟩
theorem c_stands {W S N : Nat} {f g : St} (h : V W S N f g) : f_X5_stands_3 f = some (b2i (decide (0 < W))) := by
  have := h.W8
  unfold f_X5_stands_3
  rw [h.fW]
  by_cases h0 : W = 0
  · subst h0; rfl
  · rw [if_neg (nI_nle (by omega) (by omega)), decide_eq_true (by omega)]
    rfl
theorem sim_wind : Sim_wind Rel := by
  intro f g hR p1
  obtain ⟨W, S, N, hV, hT⟩ := id hR
  have hN := hV.N7
  have hW := hV.W8
  unfold f_X11_wind f_X12_wind
  rw [c_stands hV, hV.gW, c_out (n := 19) rfl, m_inN (n := 19) rfl]
  rcases rng_cases p1 19 with e | ⟨e, x, hx, rfl⟩
  · simp only [e, b2i_f, b2i_t, Option.bind_some, if0, if1, Bool.not_false]
    exact ⟨_, _, _, rfl, rfl, hR⟩
  · by_cases h0 : W = 0
    · subst h0
      simp only [e, b2i_t, b2i_f, Option.bind_some, if0, if1, Bool.not_true, decide_eq_false (show ¬ 0 < 0 by omega), show nI 0 = (0 : Int32) from rfl]
      exact ⟨_, _, _, rfl, rfl, hR⟩
    · simp only [e, b2i_t, b2i_f, Option.bind_some, if0, if1, Bool.not_true, if_true, decide_eq_true (show 0 < W by omega), if_neg (nI_ne0 (show 0 < W by omega) (by omega))]
      obtain ⟨f1, g1, k1, k2, hV1, hT1, e19, e5⟩ := push_rel hV hT
      unfold f_X11_change
      rw [show f_X8_get_18 (0 : Int32) f = some (f 19 0) from c_get 0 (by omega), k1, k2]
      simp only [Option.bind_some]
      rw [show f_X8_put_18 (0 : Int32) (nI x - 9) f1 = some (su f1 19 0 (nI x - 9)) from c_put 0 (by omega) _]
      rw [show ck (8 : Int32) 28 _ = _ from ck_n (i := 8) (n := 28) (by omega) (by omega)]
      simp only [Option.bind_some, nm]
      rw [show ck (8 : Int32) 28 _ = _ from ck_n (i := 8) (n := 28) (by omega) (by omega)]
      have tx : (nI x).toInt = x := nI_toInt (by omega)
      refine ⟨g 5 8, _, _, by rw [hV.row.1, Int32.sub_add_cancel], by rw [show (8 : Int32).toNatClampNeg = 8 from rfl, e5], W, S, N, hV1.row5 (hV1.2.windy hN (by rw [tx]; omega)), hT1.mv⟩
theorem und_loop {g : St} {P : Nat} (hP : P < 20) (h : g 0 25 = nI P) : ∀ d n i : Nat, i + d = 28 → d < n → f_X12_undo_b22 n (nI i) (cpF g 13 5 (28 * P) 0 i) = some (nI P, cpF g 13 5 (28 * P) 0 28) := by
  intro d
  induction d with
  | zero =>
    intro n i h1 h2
    obtain ⟨n, rfl⟩ : ∃ m, n = m + 1 := ⟨n - 1, by omega⟩
    simp only [f_X12_undo_b22, f_X12_undo_b22s]
    rw [if_pos (show (28 : Int32) ≤ nI i from nI_le (a := 28) (by omega) (by omega)), cpF_src (by omega), h, show i = 28 by omega]
  | succ d ih =>
    intro n i h1 h2
    obtain ⟨n, rfl⟩ : ∃ m, n = m + 1 := ⟨n - 1, by omega⟩
    simp only [f_X12_undo_b22, f_X12_undo_b22s]
    have e : (cpF g 13 5 (28 * P) 0 i) 0 25 = nI P := by rw [cpF_src (by omega), h]
    rw [if_neg (show ¬ (28 : Int32) ≤ nI i from nI_ge (b := 28) (by omega) (by omega)), e, show (28 : Int32) * nI P = nI (28 * P) from pk_mul 28 P, nI_add, ck_n (by omega) (by omega), ck_n (by omega) (by omega), nI_clamp (by omega), nI_clamp (by omega), nI_1, cpF_src (by omega)]
    have st := cpF_step (f := g) (ka := 13) (kb := 5) (a := 28 * P) (b := 0) (i := i) (by omega)
    rw [Nat.zero_add] at st
    rw [st]
    exact ih n (i + 1) (by omega) (by omega)
theorem sim_undo : Sim_undo Rel := by
  intro f g hR
  obtain ⟨W, S, N, hV, ⟨P, nx, hP, hn, e1, e2, e3, hall⟩, h2, h3, h4, h5, h6, h7⟩ := id hR
  have hN := hV.N7
  have hW := hV.W8
  unfold f_X11_undo f_X12_undo f_X4_pop_20_18
  rw [e2, e3]
  by_cases h0 : P = 0
  · subst h0
    rw [if_neg (show ¬ (0 : Int32) < nI 0 by decide), if_pos (show nI 0 = (0 : Int32) from rfl)]
    simp only [Option.bind_some, if0]
    exact ⟨_, _, _, rfl, rfl, hR⟩
  · rw [if_pos (show (0 : Int32) < nI P from nI_lt (a := 0) (by omega) (by omega)), if_neg (nI_ne0 (by omega) (by omega))]
    have key : ∀ nx' : Nat, nx' = (nx + 19) % 20 → ∃ (r : Int32) (f' g' : St), ((f_X4_pop_20_18_b28 (nI nx') f).bind fun q2 => if q2.1 = 0 then some ((-1000000003 : Int32), q2.2) else some (q2.2 20 2, q2.2)) = some (r, f') ∧ f_X12_undo_b22 fuB (0 : Int32) (su g 0 25 (nI P - 1)) = some (r, g') ∧ Rel f' g' := by
      intro nx' hnx
      have a1 : (su f 20 1 (nI nx')) 20 2 = nI P := by rw [su_s, upd_n (by omega), e2]
      have a2 : nI P - (1 : Int32) = nI (P - 1) := pk_sub (a := P) (b := 1) (by omega)
      have a3 : (su (su f 20 1 (nI nx')) 20 2 (nI (P - 1))) 20 1 = nI nx' := by rw [su_s, upd_n (by omega), su_s, upd_s]
      unfold f_X4_pop_20_18_b28
      rw [a1, a2, a3, show nI nx' * (28 : Int32) = nI (nx' * 28) from pk_mul nx' 28]
      rw [show f_X7_copy 21 560 19 28 (nI (nx' * 28)) (0 : Int32) (28 : Int32) (su (su f 20 1 (nI nx')) 20 2 (nI (P - 1))) = some (cpF (su (su f 20 1 (nI nx')) 20 2 (nI (P - 1))) 21 19 (nx' * 28) 0 28) from copy_n (b := 0) (c := 28) (by omega) (by omega) (by omega) (by omega) (by omega) (by omega)]
      simp only [Option.bind_some, if1]
      have b1 := und_loop (g := su g 0 25 (nI (P - 1))) (P := P - 1) (by omega) (by rw [su_s, upd_s]) 28 fuB 0 (by omega) (by unfold fuB; omega)
      rw [cpF_0] at b1
      have hst : StR W N ((cpF (su (su f 20 1 (nI nx')) 20 2 (nI (P - 1))) 21 19 (nx' * 28) 0 28) 19) ((cpF (su g 0 25 (nI (P - 1))) 13 5 (28 * (P - 1)) 0 28) 5) := by
        refine (hall (P - 1) (by omega)).congr hW hN (fun j hj => ?_) (fun j hj => ?_)
        · rw [cpF_dst, if_pos (by omega), su_r (by omega), su_r (by omega)]
          show f 21 _ = f 21 _
          congr 1
          omega
        · rw [cpF_dst, if_pos (by omega), su_r (by omega), Nat.sub_zero]
      refine ⟨nI (P - 1), _, _, ?_, b1, W, S, N, ⟨hV.1.mv (by simp [su, upd, cpF]) (by simp [su, upd, cpF]) (by simp [su, upd, cpF]) (by simp [su, upd, cpF]) (by simp [su, upd, cpF]) (by simp [su, upd, cpF]) (by simp [su, upd, cpF]) (by simp [su, upd, cpF]) (by simp [su, upd, cpF]) (by simp [su, upd, cpF]) (by simp [su, upd, cpF]) (by simp [su, upd, cpF]), hst⟩, ⟨P - 1, nx', by omega, by omega, ?_, ?_, ?_, fun i hi => ?_⟩, h2.mv, h3.mv, h4.mv, h5.mv, h6.mv, by simpa [su, upd, cpF] using h7⟩
      · rw [cpF_src (by omega), su_s, upd_s]
      · rw [cpF_src (by omega), su_s, upd_n (by omega), su_s, upd_s]
      · rw [cpF_src (by omega), su_s, upd_s]
      · rw [cpF_src (by omega), su_s, upd_s]
      · refine (hall i (by omega)).congr hW hN (fun j hj => ?_) (fun j hj => ?_)
        · show (cpF _ _ _ _ _ _) 21 _ = f 21 _
          rw [cpF_src (by omega), su_r (by omega), su_r (by omega)]
          congr 1
          omega
        · show (cpF _ _ _ _ _ _) 13 _ = g 13 _
          rw [cpF_src (by omega), su_r (by omega)]
    rw [e1]
    by_cases hz : nx = 0
    · subst hz
      rw [if_pos (show nI 0 ≤ (0 : Int32) by decide)]
      exact key 19 (by omega)
    · rw [if_neg (nI_nle (by omega) (by omega)), show nI nx - (1 : Int32) = nI (nx - 1) from pk_sub (a := nx) (b := 1) (by omega)]
      exact key (nx - 1) (by omega)
theorem keep_loop {g : St} {i : Nat} (hi : i < 2) : ∀ d n k : Nat, k + d = 28 → d < n → f_X12_keep_b15 n (nI i) (nI k) (cpF g 5 18 0 (29 * i) k) = some ((1 : Int32), su (su (su (cpF g 5 18 0 (29 * i) 28) 18 (29 * i + 28) (g 0 8)) 19 i 1) 0 25 0) := by
  intro d
  induction d with
  | zero =>
    intro n k h1 h2
    obtain ⟨n, rfl⟩ : ∃ m, n = m + 1 := ⟨n - 1, by omega⟩
    simp only [f_X12_keep_b15, f_X12_keep_b15s]
    rw [if_pos (show (28 : Int32) ≤ nI k from nI_le (a := 28) (by omega) (by omega)), show (29 : Int32) * nI i = nI (29 * i) from pk_mul 29 i, show nI (29 * i) + (28 : Int32) = nI (29 * i + 28) from nI_add _ 28, ck_n (by omega) (by omega), ck_n (by omega) (by omega), nI_clamp (by omega), nI_clamp (by omega), show k = 28 by omega]
    rw [cpF_src (f := g) (k := 0) (by omega)]
  | succ d ih =>
    intro n k h1 h2
    obtain ⟨n, rfl⟩ : ∃ m, n = m + 1 := ⟨n - 1, by omega⟩
    simp only [f_X12_keep_b15, f_X12_keep_b15s]
    rw [if_neg (show ¬ (28 : Int32) ≤ nI k from nI_ge (b := 28) (by omega) (by omega)), show (29 : Int32) * nI i = nI (29 * i) from pk_mul 29 i, nI_add, ck_n (by omega) (by omega), ck_n (by omega) (by omega), nI_clamp (by omega), nI_clamp (by omega), nI_1, cpF_src (f := g) (k := 5) (by omega)]
    have st := cpF_step (f := g) (ka := 5) (kb := 18) (a := 0) (b := 29 * i) (i := k) (by omega)
    rw [Nat.zero_add] at st
    rw [st]
    exact ih n (k + 1) (by omega) (by omega)
theorem back_loop {g : St} {i : Nat} (hi : i < 2) : ∀ d n k : Nat, k + d = 28 → d < n → f_X12_goBack_b27 n (nI i) (nI k) (cpF g 18 5 (29 * i) 0 k) = some ((1 : Int32), su (su (cpF g 18 5 (29 * i) 0 28) 0 8 (g 18 (29 * i + 28))) 0 25 0) := by
  intro d
  induction d with
  | zero =>
    intro n k h1 h2
    obtain ⟨n, rfl⟩ : ∃ m, n = m + 1 := ⟨n - 1, by omega⟩
    simp only [f_X12_goBack_b27, f_X12_goBack_b27s]
    rw [if_pos (show (28 : Int32) ≤ nI k from nI_le (a := 28) (by omega) (by omega)), show (29 : Int32) * nI i = nI (29 * i) from pk_mul 29 i, show nI (29 * i) + (28 : Int32) = nI (29 * i + 28) from nI_add _ 28, ck_n (by omega) (by omega), nI_clamp (by omega), show k = 28 by omega]
    rw [cpF_src (f := g) (k := 18) (by omega)]
  | succ d ih =>
    intro n k h1 h2
    obtain ⟨n, rfl⟩ : ∃ m, n = m + 1 := ⟨n - 1, by omega⟩
    simp only [f_X12_goBack_b27, f_X12_goBack_b27s]
    rw [if_neg (show ¬ (28 : Int32) ≤ nI k from nI_ge (b := 28) (by omega) (by omega)), show (29 : Int32) * nI i = nI (29 * i) from pk_mul 29 i, nI_add, ck_n (by omega) (by omega), ck_n (by omega) (by omega), nI_clamp (by omega), nI_clamp (by omega), nI_1, cpF_src (f := g) (k := 18) (by omega)]
    have st := cpF_step (f := g) (ka := 18) (kb := 5) (a := 29 * i) (b := 0) (i := k) (by omega)
    rw [Nat.zero_add] at st
    rw [st]
    exact ih n (k + 1) (by omega) (by omega)
theorem rng2 {p : Int32} (h : rng p 2 = false) : ¬ p = 0 ∧ ¬ p = 1 := by
  refine ⟨fun e => ?_, fun e => ?_⟩
  · rw [e] at h
    exact absurd h (by decide)
  · rw [e] at h
    exact absurd h (by decide)
theorem PastR.none {W N : Nat} {f g : St} (h : PastR W N f g) {f' g' : St} (e1 : f' 20 1 = f 20 1) (e2 : f' 20 2 = 0) (e3 : g' 0 25 = 0) : PastR W N f' g' := by
  obtain ⟨P, nx, hP, hn, a1, a2, a3, hall⟩ := h
  exact ⟨0, nx, by omega, hn, e1.trans a1, e2, e3, fun i hi => absurd hi (by omega)⟩
theorem sim_keep : Sim_keep Rel := by
  intro f g hR p1
  obtain ⟨W, S, N, hV, h1, h2, h3, h4, h5, h6, h7⟩ := id hR
  have hN := hV.N7
  have hW := hV.W8
  unfold f_X11_keep f_X12_keep f_X8_take_24_18 f_X8_take_27_18 f_X4_forget_20
  rw [m_inN (n := 2) rfl]
  rcases rng_cases p1 2 with e | ⟨e, i, hi, rfl⟩
  · obtain ⟨n0, n1⟩ := rng2 e
    simp only [e, b2i_f, Option.bind_some, if0, if_neg n0, if_neg n1]
    exact ⟨_, _, _, rfl, rfl, hR⟩
  · simp only [e, b2i_t, Option.bind_some, if1]
    have b1 := keep_loop (g := g) hi 28 fuB 0 (by omega) (by unfold fuB; omega)
    rw [cpF_0] at b1
    rcases (show i = 0 ∨ i = 1 by omega) with rfl | rfl
    · rw [if_pos (show nI 0 = (0 : Int32) from rfl), show f_X7_copy 19 28 25 28 (0 : Int32) (0 : Int32) (28 : Int32) f = some (cpF f 19 25 0 0 28) from copy_n (a := 0) (b := 0) (c := 28) (by omega) (by omega) (by omega) (by omega) (by omega) (by omega)]
      simp only [Option.bind_some]
      refine ⟨1, _, _, rfl, b1, W, S, N, hV.mv, h1.none (by simp [su, upd, cpF]) (by simp [su, upd, cpF]) (by simp [su, upd, cpF]), ⟨Or.inr ⟨?_, ?_, ?_, ?_, ?_⟩, ?_⟩, h3.mv, h4.mv, h5.mv, h6.mv, by simpa [su, upd, cpF] using h7⟩
      · simp [su, upd, cpF]
      · simp [su, upd, cpF]
      · simp [su, upd, cpF, h3.1]
      · simpa [su, upd, cpF] using h3.2
      · refine hV.2.congr hW hN (fun j hj => ?_) (fun j hj => ?_)
        · simp [su, upd, cpF, hj]
        · have : ¬ j = 28 := by omega
          simp [su, upd, cpF, hj, this]
      · have hd : ∀ j : Nat, (su (su (su (cpF g 5 18 0 (29 * 0) 28) 18 (29 * 0 + 28) (g 0 8)) 19 0 1) 0 25 0) 18 (29 + j) = g 18 (29 + j) := by
          intro j
          have n1 : ¬ 29 + j = 28 := by omega
          have n2 : ¬ 29 + j < 28 := by omega
          simp [su, upd, cpF, n1, n2]
        have hd2 : (fun j => (su (su (su (cpF g 5 18 0 (29 * 0) 28) 18 (29 * 0 + 28) (g 0 8)) 19 0 1) 0 25 0) 18 (29 + j)) = fun j => g 18 (29 + j) := funext hd
        rw [hd2]
        simpa [su, upd, cpF] using h2.2
    · rw [if_neg (show ¬ nI 1 = (0 : Int32) by decide), if_pos (show nI 1 = (1 : Int32) from rfl), show f_X7_copy 19 28 28 28 (0 : Int32) (0 : Int32) (28 : Int32) f = some (cpF f 19 28 0 0 28) from copy_n (a := 0) (b := 0) (c := 28) (by omega) (by omega) (by omega) (by omega) (by omega) (by omega)]
      simp only [Option.bind_some]
      refine ⟨1, _, _, rfl, b1, W, S, N, hV.mv, h1.none (by simp [su, upd, cpF]) (by simp [su, upd, cpF]) (by simp [su, upd, cpF]), ⟨?_, Or.inr ⟨?_, ?_, ?_, ?_, ?_⟩⟩, h3.mv, h4.mv, h5.mv, h6.mv, by simpa [su, upd, cpF] using h7⟩
      · have h0 := h2.1
        have gen : ∀ j : Nat, j < 29 → (su (su (su (cpF g 5 18 0 (29 * 1) 28) 18 (29 * 1 + 28) (g 0 8)) 19 1 1) 0 25 0) 18 j = g 18 j := by
          intro j hj
          have n1 : ¬ j = 57 := by omega
          have n2 : ¬ (29 ≤ j ∧ j < 57) := by omega
          simp [su, upd, cpF, n1, n2]
        rcases h0 with ⟨q1, q2⟩ | ⟨q1, q2, q3, q4, q5⟩
        · exact Or.inl ⟨by simpa [su, upd, cpF] using q1, by simpa [su, upd, cpF] using q2⟩
        · refine Or.inr ⟨by simpa [su, upd, cpF] using q1, by simpa [su, upd, cpF] using q2, ?_, by simpa [su, upd, cpF] using q4, q5.congr hW hN (fun j hj => by simp [su, upd, cpF]) (fun j hj => gen j (by omega))⟩
          rw [gen 28 (by omega)]
          simpa [su, upd, cpF] using q3
      · simp [su, upd, cpF]
      · simp [su, upd, cpF]
      · simp [su, upd, cpF, h3.1]
      · simpa [su, upd, cpF] using h3.2
      · refine hV.2.congr hW hN (fun j hj => ?_) (fun j hj => ?_)
        · simp [su, upd, cpF, hj]
        · have n1 : ¬ 29 + j = 57 := by omega
          have n2 : 29 + j < 57 := by omega
          simp [su, upd, cpF, n1, n2]
theorem sim_goBack : Sim_goBack Rel := by
  intro f g hR p1
  obtain ⟨W, S, N, hV, h1, h2, h3, h4, h5, h6, h7⟩ := id hR
  have hN := hV.N7
  have hW := hV.W8
  unfold f_X11_goBack f_X12_goBack f_X8_take_18_24 f_X8_take_18_27 f_X4_forget_20
  rw [m_inN (n := 2) rfl]
  rcases rng_cases p1 2 with e | ⟨e, i, hi, rfl⟩
  · obtain ⟨n0, n1⟩ := rng2 e
    simp only [e, b2i_f, Option.bind_some, if0, if_neg n0, if_neg n1]
    exact ⟨_, _, _, rfl, rfl, hR⟩
  · simp only [e, b2i_t, Option.bind_some, if1]
    rw [ck_n (by omega) (by omega), nI_clamp (by omega)]
    have b1 := back_loop (g := g) hi 28 fuB 0 (by omega) (by unfold fuB; omega)
    rw [cpF_0] at b1
    rcases (show i = 0 ∨ i = 1 by omega) with rfl | rfl
    · rw [if_pos (show nI 0 = (0 : Int32) from rfl)]
      rcases h2.1 with ⟨q1, q2⟩ | ⟨q1, q2, q3, q4, q5⟩
      · rw [q1, q2, if_pos rfl, if_pos rfl]
        exact ⟨_, _, _, rfl, rfl, hR⟩
      · rw [q1, q2, if_neg (by decide), if_neg (by decide), show f_X7_copy 25 28 19 28 (0 : Int32) (0 : Int32) (28 : Int32) f = some (cpF f 25 19 0 0 28) from copy_n (a := 0) (b := 0) (c := 28) (by omega) (by omega) (by omega) (by omega) (by omega) (by omega)]
        simp only [Option.bind_some]
        refine ⟨1, _, _, rfl, b1, W, S, N, ⟨hV.1.mv (by simp [su, upd, cpF]) (by simp [su, upd, cpF]) (by simp [su, upd, cpF]) (by simp [su, upd, cpF]) (by simp [su, upd, cpF]) (by simp [su, upd, cpF]) (by simp [su, upd, cpF]) (by simp [su, upd, cpF]) (by simp [su, upd, cpF]) (by simp [su, upd, cpF]) (by simp [su, upd, cpF]) (by simp [su, upd, cpF]), q5.congr hW hN (fun j hj => ?_) (fun j hj => ?_)⟩, h1.none (by simp [su, upd, cpF]) (by simp [su, upd, cpF]) (by simp [su, upd, cpF]), h2.mv, ⟨?_, ?_⟩, h4.mv, h5.mv, h6.mv, by simpa [su, upd, cpF] using h7⟩
        · simp [su, upd, cpF, hj]
        · simp [su, upd, cpF, hj]
        · simp [su, upd, cpF, q3]
        · simpa [su, upd, cpF] using q4
    · rw [if_neg (show ¬ nI 1 = (0 : Int32) by decide), if_pos (show nI 1 = (1 : Int32) from rfl)]
      rcases h2.2 with ⟨q1, q2⟩ | ⟨q1, q2, q3, q4, q5⟩
      · rw [q1, q2, if_pos rfl, if_pos rfl]
        exact ⟨_, _, _, rfl, rfl, hR⟩
      · rw [q1, q2, if_neg (by decide), if_neg (by decide), show f_X7_copy 28 28 19 28 (0 : Int32) (0 : Int32) (28 : Int32) f = some (cpF f 28 19 0 0 28) from copy_n (a := 0) (b := 0) (c := 28) (by omega) (by omega) (by omega) (by omega) (by omega) (by omega)]
        simp only [Option.bind_some]
        refine ⟨1, _, _, rfl, b1, W, S, N, ⟨hV.1.mv (by simp [su, upd, cpF]) (by simp [su, upd, cpF]) (by simp [su, upd, cpF]) (by simp [su, upd, cpF]) (by simp [su, upd, cpF]) (by simp [su, upd, cpF]) (by simp [su, upd, cpF]) (by simp [su, upd, cpF]) (by simp [su, upd, cpF]) (by simp [su, upd, cpF]) (by simp [su, upd, cpF]) (by simp [su, upd, cpF]), q5.congr hW hN (fun j hj => ?_) (fun j hj => ?_)⟩, h1.none (by simp [su, upd, cpF]) (by simp [su, upd, cpF]) (by simp [su, upd, cpF]), h2.mv, ⟨?_, ?_⟩, h4.mv, h5.mv, h6.mv, by simpa [su, upd, cpF] using h7⟩
        · simp [su, upd, cpF, hj]
        · simp [su, upd, cpF, hj]
        · simp [su, upd, cpF, q3]
        · simpa [su, upd, cpF] using q4
