/-! A house that is read: what the reference takes over; both houses -/
theorem tr_loop3 {rn : Nat} (hrn : rn ≤ 7) : ∀ (d n i : Nat) (F : St), i + d = rn → d < n → F 0 4 = nI rn → ∃ G : St, f_X12_takeRead_b121 n (nI i) F = some G ∧ (∀ k, k ≠ 3 → k ≠ 4 → k ≠ 5 → G k = F k) ∧ (∀ j, (j < 9 + i ∨ 9 + rn ≤ j) → G 5 j = F 5 j) ∧ (∀ j, j < i → G 3 j = F 3 j ∧ G 4 j = F 4 j) ∧ ∀ w, i ≤ w → w < rn → G 5 (9 + w) = F 10 w ∧ G 3 w = F 11 w ∧ G 4 w = F 12 w := by
  intro d
  induction d with
  | zero =>
    intro n i F h1 h2 h0
    obtain ⟨n, rfl⟩ : ∃ m, n = m + 1 := ⟨n - 1, by omega⟩
    refine ⟨F, ?_, fun _ _ _ _ => rfl, fun _ _ => rfl, fun _ _ => ⟨rfl, rfl⟩, fun w h3 h4 => by omega⟩
    show f_X12_takeRead_b121s _ _ _ = _
    unfold f_X12_takeRead_b121s
    rw [h0, if_pos (nI_le (by omega) (by omega))]
  | succ d ih =>
    intro n i F h1 h2 h0
    obtain ⟨n, rfl⟩ : ∃ m, n = m + 1 := ⟨n - 1, by omega⟩
    obtain ⟨G, g1, g2, g3, g4, g5⟩ := ih n (i + 1) (su (su (su F 5 (9 + i) (F 10 i)) 3 i (F 11 i)) 4 i (F 12 i)) (by omega) (by omega) (by rw [su_r (by omega), su_r (by omega), su_r (by omega)]; exact h0)
    refine ⟨G, ?_, fun k a b c => by rw [g2 k a b c, su_r b, su_r a, su_r c], fun j hj => ?_, fun j hj => ⟨?_, ?_⟩, fun w h3 h4 => ?_⟩
    · show f_X12_takeRead_b121s _ _ _ = _
      unfold f_X12_takeRead_b121s
      rw [h0, if_neg (nI_ge (by omega) (by omega)), show (9 : Int32) + nI i = nI (9 + i) from nI_add 9 i, ck_n (by omega) (by omega), ck_n (by omega) (by omega), ck_n (by omega) (by omega), ck_n (by omega) (by omega), ck_n (by omega) (by omega), ck_n (by omega) (by omega), nI_clamp (n := i) (by omega), nI_clamp (n := 9 + i) (by omega), nI_1]
      have e1 : su F 5 (9 + i) (F 10 i) 11 i = F 11 i := by rw [su_r (by omega)]
      have e2 : su (su F 5 (9 + i) (F 10 i)) 3 i (F 11 i) 12 i = F 12 i := by rw [su_r (by omega), su_r (by omega)]
      rw [e1, e2]
      exact g1
    · rw [g3 j (by omega), su_r (by omega), su_r (by omega), su_s, upd_n (by omega)]
    · rw [(g4 j (by omega)).1, su_r (by omega), su_s, upd_n (by omega), su_r (by omega)]
    · rw [(g4 j (by omega)).2, su_s, upd_n (by omega), su_r (by omega), su_r (by omega)]
    · by_cases e : w = i
      · subst e
        refine ⟨?_, ?_, ?_⟩
        · rw [g3 _ (by omega), su_r (by omega), su_r (by omega), su_s, upd_s]
        · rw [(g4 w (by omega)).1, su_r (by omega), su_s, upd_s]
        · rw [(g4 w (by omega)).2, su_s, upd_s]
      · obtain ⟨a, b, c⟩ := g5 w (by omega) h4
        refine ⟨?_, ?_, ?_⟩
        · rw [a, su_r (by omega), su_r (by omega), su_r (by omega)]
        · rw [b, su_r (by omega), su_r (by omega), su_r (by omega)]
        · rw [c, su_r (by omega), su_r (by omega), su_r (by omega)]
theorem tr_loop2 {rs : Nat} (hrs : rs ≤ 6) : ∀ (d n i : Nat) (F : St), i + d = rs → d < n → F 0 1 = nI rs → ∃ G : St, f_X12_takeRead_b81 n (nI i) F = f_X12_takeRead_b121 fuB (0 : Int32) G ∧ (∀ k, k ≠ 1 → k ≠ 2 → G k = F k) ∧ (∀ j, j < i → G 1 j = F 1 j ∧ G 2 j = F 2 j) ∧ ∀ s, i ≤ s → s < rs → G 1 s = F 8 s ∧ G 2 s = F 9 s := by
  intro d
  induction d with
  | zero =>
    intro n i F h1 h2 h0
    obtain ⟨n, rfl⟩ : ∃ m, n = m + 1 := ⟨n - 1, by omega⟩
    refine ⟨F, ?_, fun _ _ _ => rfl, fun _ _ => ⟨rfl, rfl⟩, fun w h3 h4 => by omega⟩
    show f_X12_takeRead_b81s (f_X12_takeRead_b81 n) _ _ = _
    unfold f_X12_takeRead_b81s
    generalize f_X12_takeRead_b121 fuB = K
    rw [h0, if_pos (nI_le (by omega) (by omega))]
  | succ d ih =>
    intro n i F h1 h2 h0
    obtain ⟨n, rfl⟩ : ∃ m, n = m + 1 := ⟨n - 1, by omega⟩
    obtain ⟨G, g1, g2, g4, g5⟩ := ih n (i + 1) (su (su F 1 i (F 8 i)) 2 i (F 9 i)) (by omega) (by omega) (by rw [su_r (by omega), su_r (by omega)]; exact h0)
    refine ⟨G, ?_, fun k a b => by rw [g2 k a b, su_r b, su_r a], fun j hj => ⟨?_, ?_⟩, fun w h3 h4 => ?_⟩
    · show f_X12_takeRead_b81s (f_X12_takeRead_b81 n) _ _ = _
      unfold f_X12_takeRead_b81s
      generalize f_X12_takeRead_b121 fuB = K at g1 ⊢
      have e1 : su F 1 i (F 8 i) 9 i = F 9 i := by rw [su_r (by omega)]
      rw [h0, if_neg (nI_ge (by omega) (by omega)), ck_n (by omega) (by omega), ck_n (by omega) (by omega), ck_n (by omega) (by omega), ck_n (by omega) (by omega), nI_clamp (n := i) (by omega), nI_1, e1]
      exact g1
    · rw [(g4 j (by omega)).1, su_r (by omega), su_s, upd_n (by omega)]
    · rw [(g4 j (by omega)).2, su_s, upd_n (by omega), su_r (by omega)]
    · by_cases e : w = i
      · subst e
        refine ⟨?_, ?_⟩
        · rw [(g4 w (by omega)).1, su_r (by omega), su_s, upd_s]
        · rw [(g4 w (by omega)).2, su_s, upd_s]
      · obtain ⟨a, b⟩ := g5 w (by omega) h4
        refine ⟨?_, ?_⟩
        · rw [a, su_r (by omega), su_r (by omega)]
        · rw [b, su_r (by omega), su_r (by omega)]
def rdW (x : Int32) : Int32 := if 0 ≤ x then x else 9
theorem tr_loop1 {rw : Nat} (hrw : rw ≤ 8) : ∀ (d n i : Nat) (F : St), i + d = rw → d < n → F 0 0 = nI rw → ∃ G : St, f_X12_takeRead_b30 n (nI i) F = f_X12_takeRead_b81 fuB (0 : Int32) (su G 5 8 (rdW (F 0 17))) ∧ (∀ k, k ≠ 5 → G k = F k) ∧ (∀ j, (j < i ∨ rw ≤ j) → G 5 j = F 5 j) ∧ ∀ s, i ≤ s → s < rw → G 5 s = F 7 s := by
  intro d
  induction d with
  | zero =>
    intro n i F h1 h2 h0
    obtain ⟨n, rfl⟩ : ∃ m, n = m + 1 := ⟨n - 1, by omega⟩
    refine ⟨F, ?_, fun _ _ => rfl, fun _ _ => rfl, fun w h3 h4 => by omega⟩
    show f_X12_takeRead_b30s (f_X12_takeRead_b30 n) _ _ = _
    unfold f_X12_takeRead_b30s f_X12_takeRead_b78 rdW
    generalize f_X12_takeRead_b81 fuB = K
    rw [h0, if_pos (nI_le (by omega) (by omega)), show (8 : Int32) = nI 8 from rfl, ck_n (by omega) (by omega), ck_n (by omega) (by omega), nI_clamp (by omega)]
    by_cases e : 0 ≤ F 0 17
    · rw [if_pos e, if_pos e]
    · rw [if_neg e, if_neg e]
  | succ d ih =>
    intro n i F h1 h2 h0
    obtain ⟨n, rfl⟩ : ∃ m, n = m + 1 := ⟨n - 1, by omega⟩
    obtain ⟨G, g1, g2, g4, g5⟩ := ih n (i + 1) (su F 5 i (F 7 i)) (by omega) (by omega) (by rw [su_r (by omega)]; exact h0)
    refine ⟨G, ?_, fun k a => by rw [g2 k a, su_r a], fun j hj => ?_, fun w h3 h4 => ?_⟩
    · show f_X12_takeRead_b30s (f_X12_takeRead_b30 n) _ _ = _
      rw [su_r (show (0 : Nat) ≠ 5 by omega)] at g1
      unfold f_X12_takeRead_b30s
      generalize f_X12_takeRead_b81 fuB = K at g1 ⊢
      rw [h0, if_neg (nI_ge (by omega) (by omega)), ck_n (by omega) (by omega), ck_n (by omega) (by omega), nI_clamp (n := i) (by omega), nI_1]
      exact g1
    · rw [g4 j (by omega), su_s, upd_n (by omega)]
    · by_cases e : w = i
      · subst e
        rw [g4 w (by omega), su_s, upd_s]
      · rw [g5 w (by omega) h4, su_r (by omega)]
theorem m_takeRead {F : St} {rw rs rn : Nat} (hrw : rw ≤ 8) (hrs : rs ≤ 6) (hrn : rn ≤ 7) (a1 : F 0 15 = nI rw) (a2 : F 0 18 = nI rs) (a3 : F 0 21 = nI rn) : ∃ G : St, f_X12_takeRead F = some G ∧ (∀ k, k ≠ 0 → 5 < k → G k = F k) ∧ (∀ j, j ≠ 0 → j ≠ 1 → j ≠ 4 → G 0 j = F 0 j) ∧ (G 0 0 = nI rw ∧ G 0 1 = nI rs ∧ G 0 4 = nI rn) ∧ (G 5 8 = rdW (F 0 17) ∧ G 5 16 = 0 ∧ G 5 17 = -1 ∧ G 5 18 = -1 ∧ G 5 19 = 0 ∧ G 5 20 = 0) ∧ (∀ k, k < rw → G 5 k = F 7 k) ∧ (∀ s, s < rs → G 1 s = F 8 s ∧ G 2 s = F 9 s) ∧ (∀ w, w < rn → G 5 (9 + w) = F 10 w ∧ G 3 w = F 11 w ∧ G 4 w = F 12 w) ∧ ∀ w, w < 7 → G 5 (21 + w) = -1 := by
  obtain ⟨G0, b1, b2, b3, b4⟩ := m_clearNow (su (su (su F 0 0 (nI rw)) 0 1 (nI rs)) 0 4 (nI rn))
  have z : ∀ j, G0 0 j = su (su (su F 0 0 (nI rw)) 0 1 (nI rs)) 0 4 (nI rn) 0 j := fun j => by rw [b2 0 (by omega)]
  have z0 : G0 0 0 = nI rw := by rw [z]; simp [su, upd]
  have z1 : G0 0 1 = nI rs := by rw [z]; simp [su, upd]
  have z4 : G0 0 4 = nI rn := by rw [z]; simp [su, upd]
  have zj : ∀ j, j ≠ 0 → j ≠ 1 → j ≠ 4 → G0 0 j = F 0 j := fun j x y w => by rw [z, su_s, upd_n w, su_s, upd_n y, su_s, upd_n x]
  have zk : ∀ k, k ≠ 0 → k ≠ 5 → G0 k = F k := fun k x y => by rw [b2 k y, su_r x, su_r x, su_r x]
  obtain ⟨G1, c1, c2, c3, c4⟩ := tr_loop1 hrw rw fuB 0 G0 (by omega) (by unfold fuB; omega) z0
  have z17 : G0 0 17 = F 0 17 := zj 17 (by omega) (by omega) (by omega)
  rw [z17] at c1
  obtain ⟨G2, d1, d2, -, d4⟩ := tr_loop2 hrs rs fuB 0 (su G1 5 8 (rdW (F 0 17))) (by omega) (by unfold fuB; omega) (by rw [su_r (by omega), c2 0 (by omega)]; exact z1)
  obtain ⟨G3, e1, e2, e3, -, e4⟩ := tr_loop3 hrn rn fuB 0 G2 (by omega) (by unfold fuB; omega) (by rw [d2 0 (by omega) (by omega), su_r (by omega), c2 0 (by omega)]; exact z4)
  rw [nI_0] at c1 d1 e1
  have g5 : ∀ j, (j < 9 ∨ 9 + rn ≤ j) → G3 5 j = upd (G1 5) 8 (rdW (F 0 17)) j := fun j hj => by rw [e3 j (by omega), d2 5 (by omega) (by omega), su_s]
  have g5c : ∀ j, 16 ≤ j → G3 5 j = G0 5 j := fun j hj => by rw [g5 j (by omega), upd_n (by omega), c3 j (by omega)]
  have g0 : ∀ j, G3 0 j = G0 0 j := fun j => by rw [e2 0 (by omega) (by omega) (by omega), d2 0 (by omega) (by omega), su_r (by omega), c2 0 (by omega)]
  have gk : ∀ k, k ≠ 0 → 5 < k → G2 k = F k := fun k x y => by rw [d2 k (by omega) (by omega), su_r (by omega), c2 k (by omega), zk k x (by omega)]
  refine ⟨G3, ?_, fun k x y => by rw [e2 k (by omega) (by omega) (by omega), gk k x y], fun j x y w => by rw [g0, zj j x y w], ⟨by rw [g0, z0], by rw [g0, z1], by rw [g0, z4]⟩, ⟨?_, ?_, ?_, ?_, ?_, ?_⟩, fun k hk => ?_, fun s hs => ⟨?_, ?_⟩, fun w hw => ?_, fun w hw => ?_⟩
  · unfold f_X12_takeRead
    generalize f_X12_takeRead_b30 fuB = K at c1 ⊢
    have n1 : su F 0 0 (F 0 15) 0 18 = nI rs := by rw [su_s, upd_n (by omega)]; exact a2
    have n2 : su (su F 0 0 (F 0 15)) 0 1 (nI rs) 0 21 = nI rn := by rw [su_s, upd_n (by omega), su_s, upd_n (by omega)]; exact a3
    rw [n1, n2, a1, bind_e b1]
    exact c1.trans (d1.trans e1)
  · rw [g5 8 (by omega), upd_s]
  · rw [g5c 16 (by omega), b3 16 (by omega)]; rfl
  · rw [g5c 17 (by omega), b3 17 (by omega)]; rfl
  · rw [g5c 18 (by omega), b3 18 (by omega)]; rfl
  · rw [g5c 19 (by omega), b3 19 (by omega)]; rfl
  · rw [g5c 20 (by omega), b3 20 (by omega)]; rfl
  · rw [g5 k (by omega), upd_n (by omega), c4 k (by omega) hk, zk 7 (by omega) (by omega)]
  · rw [e2 1 (by omega) (by omega) (by omega), (d4 s (by omega) hs).1, su_r (by omega), c2 8 (by omega), zk 8 (by omega) (by omega)]
  · rw [e2 2 (by omega) (by omega) (by omega), (d4 s (by omega) hs).2, su_r (by omega), c2 9 (by omega), zk 9 (by omega) (by omega)]
  · obtain ⟨x, y, u⟩ := e4 w (by omega) hw
    exact ⟨by rw [x, gk 10 (by omega) (by omega)], by rw [y, gk 11 (by omega) (by omega)], by rw [u, gk 12 (by omega) (by omega)]⟩
  · rw [g5c _ (by omega), b4 w hw]
theorem rdW_r {f g : St} (h : RD f g) : f 11 1 = rdW (g 0 17) - 9 ∧ 0 ≤ (rdW (g 0 17)).toInt ∧ (rdW (g 0 17)).toInt ≤ 18 := by
  unfold rdW
  rcases h with ⟨-, a2, a3⟩ | ⟨-, b, hb, a2, a3⟩
  · rw [a2, if_neg (by decide), a3]
    exact ⟨by decide, by decide, by decide⟩
  · rw [a2, if_pos (nI_pos' (by omega)), a3, nI_toInt (by omega)]
    exact ⟨rfl, by omega, by omega⟩
theorem c_pl0 {F : St} {W : Nat} (h : F 3 0 = nI W) (hW : W ≤ 8) : f_X5_places_3 F = some (nI (pl W)) := by
  unfold f_X5_places_3 pl
  rw [h]
  by_cases h0 : W = 0
  · subst h0; rfl
  · rw [if_neg (nI_nle (by omega) (by omega)), if_neg h0]
    exact congrArg some (nI_1 W)
theorem m_pl0 {G : St} {W : Nat} (h : G 0 0 = nI W) (hW : W ≤ 8) : f_X12_places G = some (nI (pl W)) := by
  unfold f_X12_places pl
  rw [h]
  by_cases h0 : W = 0
  · subst h0; rfl
  · rw [if_neg (nI_ne0 (by omega) (by omega)), if_neg h0]
    exact congrArg some (nI_1 W)
/-- a good text: both take it over alike -/
theorem house_good {f g F G : St} {W S N rw : Nat} (hV : V W S N f g) (hT : Rest W N f g) (hR : RR rw F G) (hf : FRc f F) (hg : FRm g G) : ∃ (r : Int32) (f' g' : St), ((f_X5_take_3_11 (su F 1 1 (0 : Int32))).bind fun q4 => (f_X8_begin_18_3 q4).bind fun q6 => (f_X4_forget_20 q6).bind fun q8 => (f_X11_forgetImages q8).bind fun q10 => (f_X5_places_3 (su (su q10 32 4 (0 : Int32)) 37 1 (0 : Int32))).bind fun q12 => some (q12, su (su q10 32 4 (0 : Int32)) 37 1 (0 : Int32))) = some (r, f') ∧ f_X12_house_b51 (nI 0) G = some (r, g') ∧ Rel f' g' := by
  obtain ⟨h1, ⟨rs, h2⟩, ⟨rn, h3⟩, h4, h5⟩ := hR
  have hrw := h1.2.2.1
  have hrs := h2.2.2.1
  have hrn := h3.2.2.1
  obtain ⟨A, a1, a2, ⟨a3, a4, a5, a6⟩, a7, a8, a9⟩ := c_take (su F 1 1 0)
  obtain ⟨B, b1, b2, ⟨b3, b4, b5, b6, b7, b8⟩, b9, b10, b11⟩ := c_begin A
  obtain ⟨M, m1, m2, m3, ⟨m4, m5, m6⟩, ⟨m7, m8, m9, m10, m11, m12⟩, m13, m14, m15, m16⟩ := m_takeRead (F := su G 0 10 0) hrw hrs hrn (by rw [su_s, upd_n (by omega)]; exact h1.2.1) (by rw [su_s, upd_n (by omega)]; exact h2.2.1) (by rw [su_s, upd_n (by omega)]; exact h3.2.1)
  have hwd := rdW_r h4
  have w17 : su G 0 10 (0 : Int32) 0 17 = G 0 17 := by rw [su_s, upd_n (by omega)]
  rw [w17] at m7
  have gG : ∀ k, k ≠ 0 → su G 0 10 (0 : Int32) k = G k := fun k hk => su_r hk
  have fF : ∀ k, k ≠ 1 → su F 1 1 (0 : Int32) k = F k := fun k hk => su_r hk
  rw [fF 11 (by omega)] at a3 a4 a5 a6
  -- the class's new cells
  have cA : ∀ k, (k < 3 ∨ 9 < k) → k ≠ 19 → k ≠ 1 → B k = F k := fun k x y u => by rw [b2 k y, a2 k x, fF k u]
  have cB : ∀ k, 3 ≤ k → k ≤ 9 → B k = A k := fun k x y => b2 k (by omega)
  have p1 : f_X5_places_3 (su (su (su (su (su B 20 2 0) 23 2 0) 26 2 0) 32 4 0) 37 1 0) = some (nI (pl rw)) := c_pl0 (by rw [su_r (by omega), su_r (by omega), su_r (by omega), su_r (by omega), su_r (by omega), cB 3 (by omega) (by omega), a3]; exact h1.1) hrw
  have p2 : f_X12_places (su (su (su (su (su M 0 27 0) 0 31 0) 0 25 0) 19 0 0) 19 1 0) = some (nI (pl rw)) := m_pl0 (by rw [su_r (by omega), su_r (by omega), su_s, upd_n (by omega), su_s, upd_n (by omega), su_s, upd_n (by omega)]; exact m4) hrw
  have fc : ∀ k, k ≠ 20 → k ≠ 23 → k ≠ 26 → k ≠ 32 → k ≠ 37 → (su (su (su (su (su B 20 2 0) 23 2 0) 26 2 0) 32 4 0) 37 1 0 : St) k = B k := fun k x y z u v => by rw [su_r v, su_r u, su_r z, su_r y, su_r x]
  have gc : ∀ k, k ≠ 0 → k ≠ 19 → (su (su (su (su (su M 0 27 0) 0 31 0) 0 25 0) 19 0 0) 19 1 0 : St) k = M k := fun k x y => by rw [su_r y, su_r y, su_r x, su_r x, su_r x]
  have g0 : ∀ j, j ≠ 25 → j ≠ 27 → j ≠ 31 → (su (su (su (su (su M 0 27 0) 0 31 0) 0 25 0) 19 0 0) 19 1 0 : St) 0 j = M 0 j := fun j x y z => by rw [su_r (by omega), su_r (by omega), su_s, upd_n x, su_s, upd_n z, su_s, upd_n y]
  refine ⟨nI (pl rw), su (su (su (su (su B 20 2 0) 23 2 0) 26 2 0) 32 4 0) 37 1 0, su (su (su (su (su M 0 27 0) 0 31 0) 0 25 0) 19 0 0) 19 1 0, ?_, ?_, rw, rs, rn, ⟨⟨hrw, hrs, hrn, ?_, ?_, ?_, ?_, ?_, ?_, fun s hs => ?_, fun w hw => ?_⟩, ⟨?_, ?_, ?_, ?_, ?_, ?_, fun k hk => ?_, fun w hw => ?_, fun w hw => ?_⟩, ⟨hrw, ?_, ?_, fun k hk => ?_⟩, fun w hw => ?_, 0, by omega, ?_⟩, ?_, ⟨Or.inl ⟨?_, ?_⟩, Or.inl ⟨?_, ?_⟩⟩, ⟨?_, ?_⟩, ⟨0, by omega, ?_, ?_, fun k hk => absurd hk (by omega)⟩, ⟨0, by omega, ?_, ?_, fun k hk => absurd hk (by omega)⟩, ⟨0, by omega, ?_, ?_, fun k hk => absurd hk (by omega)⟩, ?_⟩
  · unfold f_X4_forget_20
    rw [bind_e a1, bind_e b1, Option.bind_some, bind_e (c_forgetI _), bind_e p1]
  · unfold f_X12_house_b51
    rw [if_pos (show nI 0 ≤ (0 : Int32) by decide), bind_e m1, show (0 : Int32) = nI 0 from rfl, show (1 : Int32) = nI 1 from rfl, ck_n (by omega) (by omega), ck_n (by omega) (by omega), nI_clamp (by omega), nI_clamp (by omega)]
    exact bind_e p2 _
  · rw [fc 3 (by omega) (by omega) (by omega) (by omega) (by omega), cB 3 (by omega) (by omega), a3]; exact h1.1
  · rw [g0 0 (by omega) (by omega) (by omega)]; exact m4
  · rw [fc 3 (by omega) (by omega) (by omega) (by omega) (by omega), cB 3 (by omega) (by omega), a5]; exact h2.1
  · rw [g0 1 (by omega) (by omega) (by omega)]; exact m5
  · rw [fc 3 (by omega) (by omega) (by omega) (by omega) (by omega), cB 3 (by omega) (by omega), a6]; exact h3.1
  · rw [g0 4 (by omega) (by omega) (by omega)]; exact m6
  · obtain ⟨u1, u2, ⟨u3, u4⟩, u5, u6⟩ := h2.2.2.2 s hs
    rw [fc 5 (by omega) (by omega) (by omega) (by omega) (by omega), fc 6 (by omega) (by omega) (by omega) (by omega) (by omega), gc 1 (by omega) (by omega), gc 2 (by omega) (by omega), cB 5 (by omega) (by omega), cB 6 (by omega) (by omega), (a8 s (by omega)).1, (a8 s (by omega)).2, fF 13 (by omega), fF 14 (by omega), (m14 s hs).1, (m14 s hs).2, gG 8 (by omega), gG 9 (by omega)]
    exact ⟨u1, u2, u3, u4, u5, u6⟩
  · obtain ⟨u1, u2, u3, -, ⟨u4, u5⟩, y, hy, u6⟩ := h3.2.2.2 w hw
    rw [fc 8 (by omega) (by omega) (by omega) (by omega) (by omega), fc 9 (by omega) (by omega) (by omega) (by omega) (by omega), gc 3 (by omega) (by omega), gc 4 (by omega) (by omega), cB 8 (by omega) (by omega), cB 9 (by omega) (by omega), (a9 w (by omega)).2.1, (a9 w (by omega)).2.2, fF 16 (by omega), fF 17 (by omega), (m15 w hw).2.1, (m15 w hw).2.2, gG 11 (by omega), gG 12 (by omega)]
    refine ⟨u2, u3, u4, u5, ?_⟩
    rw [u6]
    rcases (show y = 0 ∨ y = 1 ∨ y = 2 by omega) with rfl | rfl | rfl
    · exact Or.inl rfl
    · exact Or.inr (Or.inl rfl)
    · exact Or.inr (Or.inr rfl)
  · rw [fc 19 (by omega) (by omega) (by omega) (by omega) (by omega), gc 5 (by omega) (by omega), b3, a4, m7]; exact hwd.1
  · rw [fc 19 (by omega) (by omega) (by omega) (by omega) (by omega), gc 5 (by omega) (by omega), b4, m8]
  · rw [fc 19 (by omega) (by omega) (by omega) (by omega) (by omega), gc 5 (by omega) (by omega), b5, m9]
  · rw [fc 19 (by omega) (by omega) (by omega) (by omega) (by omega), gc 5 (by omega) (by omega), b6, m10]
  · rw [fc 19 (by omega) (by omega) (by omega) (by omega) (by omega), gc 5 (by omega) (by omega), b7, m11]
  · rw [fc 19 (by omega) (by omega) (by omega) (by omega) (by omega), gc 5 (by omega) (by omega), b8, m12]
  · rw [fc 19 (by omega) (by omega) (by omega) (by omega) (by omega), gc 5 (by omega) (by omega), b9 k (by omega), a7 k (by omega), fF 12 (by omega), m13 k hk, gG 7 (by omega)]; exact (h1.2.2.2 k hk).1
  · rw [fc 19 (by omega) (by omega) (by omega) (by omega) (by omega), gc 5 (by omega) (by omega), b10 w (by omega), (a9 w (by omega)).1, fF 15 (by omega), (m15 w hw).1, gG 10 (by omega)]; exact (h3.2.2.2 w hw).1
  · rw [fc 19 (by omega) (by omega) (by omega) (by omega) (by omega), gc 5 (by omega) (by omega), b11 w (by omega), m16 w (by omega)]
  · rw [gc 5 (by omega) (by omega), m7]; exact hwd.2.1
  · rw [gc 5 (by omega) (by omega), m7]; exact hwd.2.2
  · obtain ⟨-, u1, u2⟩ := h1.2.2.2 k hk
    rw [gc 5 (by omega) (by omega), m13 k hk, gG 7 (by omega)]; exact ⟨u1, by omega⟩
  · obtain ⟨-, -, -, u4, -⟩ := h3.2.2.2 w hw
    rw [gc 5 (by omega) (by omega), (m15 w hw).1, gG 10 (by omega)]; exact u4
  · rw [gc 5 (by omega) (by omega), m11]; rfl
  · obtain ⟨P, nx, hP, hn, x1, x2, x3, -⟩ := hT.1
    refine ⟨0, nx, by omega, hn, ?_, ?_, ?_, fun i hi => absurd hi (by omega)⟩
    · rw [su_r (by omega), su_r (by omega), su_r (by omega), su_r (by omega), su_s, upd_n (by omega), cA 20 (by omega) (by omega) (by omega), hf 20 (by omega)]; exact x1
    · rw [su_r (by omega), su_r (by omega), su_r (by omega), su_r (by omega), su_s, upd_s]; rfl
    · rw [su_r (by omega), su_r (by omega), su_s, upd_s]; rfl
  · rw [su_r (by omega), su_r (by omega), su_r (by omega), su_s, upd_s]
  · rw [su_s, upd_n (by omega), su_s, upd_s]
  · rw [su_r (by omega), su_r (by omega), su_s, upd_s]
  · rw [su_s, upd_s]
  · rw [fc 0 (by omega) (by omega) (by omega) (by omega) (by omega), cA 0 (by omega) (by omega) (by omega), hf 0 (by omega), g0 8 (by omega) (by omega) (by omega), m3 8 (by omega) (by omega) (by omega), su_s, upd_n (by omega), hg.2 8 (by omega) (by omega) (by omega) (by omega) (by omega) (by omega) (by omega) (by omega)]; exact hT.2.2.1.1
  · rw [fc 0 (by omega) (by omega) (by omega) (by omega) (by omega), cA 0 (by omega) (by omega) (by omega), hf 0 (by omega)]; exact hT.2.2.1.2
  · rw [su_r (by omega), su_s, upd_s]; rfl
  · rw [su_r (by omega), su_r (by omega), su_s, upd_n (by omega), su_s, upd_n (by omega), su_s, upd_s]; rfl
  · rw [su_s, upd_s]; rfl
  · rw [su_r (by omega), su_r (by omega), su_s, upd_n (by omega), su_s, upd_s]; rfl
  · rw [fc 1 (by omega) (by omega) (by omega) (by omega) (by omega), b2 1 (by omega), a2 1 (by omega), su_s, upd_s]; rfl
  · rw [g0 10 (by omega) (by omega) (by omega), m3 10 (by omega) (by omega) (by omega), su_s, upd_s]; rfl
  · rw [fc 10 (by omega) (by omega) (by omega) (by omega) (by omega), cA 10 (by omega) (by omega) (by omega), h5.2.1, g0 11 (by omega) (by omega) (by omega), m3 11 (by omega) (by omega) (by omega), su_s, upd_n (by omega), h5.2.2]
theorem sim_house : Sim_house Rel := by
  intro f g hRel
  obtain ⟨W, S, N, hV, hT⟩ := id hRel
  obtain ⟨T, hT240, t1, t2, tL⟩ := hT.2.2.2.2.2.1
  have hL : LOK T (g 6) := ⟨hT240, fun k hk => (tL k hk).2⟩
  have hc0 : TXc T (g 6) (su (su (su (su (su (su (su (su f 11 0 0) 11 1 0) 11 2 0) 11 3 0) 10 2 0) 10 3 (-1)) 10 4 0) 10 5 0) := ⟨t1, fun k hk => (tL k hk).1⟩
  have hm0 : TXm T (g 6) (su (su (su (su (su (su g 0 11 (-1)) 0 12 0) 0 15 0) 0 17 (-1)) 0 18 0) 0 21 0) := ⟨t2, fun k hk => rfl⟩
  have hsk := c_skip hL hc0 (a := 0) (by simp [su, upd, nI_0]) (Nat.zero_le _)
  have hR : RR 0 (su (su (su (su (su (su (su (su f 11 0 0) 11 1 0) 11 2 0) 11 3 0) 10 2 0) 10 3 (-1)) 10 4 0) 10 5 0) (su (su (su (su (su (su g 0 11 (-1)) 0 12 0) 0 15 0) 0 17 (-1)) 0 18 0) 0 21 0) := by
    refine ⟨⟨?_, ?_, by omega, fun i hi => absurd hi (by omega)⟩, ⟨0, ?_, ?_, by omega, fun i hi => absurd hi (by omega)⟩, ⟨0, ?_, ?_, by omega, fun i hi => absurd hi (by omega)⟩, Or.inl ⟨?_, ?_, ?_⟩, ?_, ?_, ?_⟩ <;> simp [su, upd, nI_0]
  have hR1 := hR.at (nI (sk (g 6) T 0)) (nI 0)
  have hself : su (su (su (su (su (su (su g 0 11 (-1)) 0 12 0) 0 15 0) 0 17 (-1)) 0 18 0) 0 21 0) 0 12 (nI 0) = su (su (su (su (su (su g 0 11 (-1)) 0 12 0) 0 15 0) 0 17 (-1)) 0 18 0) 0 21 0 := by
    have : su (su (su (su (su (su g 0 11 (-1)) 0 12 0) 0 15 0) 0 17 (-1)) 0 18 0) 0 21 0 0 12 = nI 0 := by simp [su, upd, nI_0]
    rw [← this, su_self]
  rw [hself] at hR1
  obtain ⟨c, F, G, q1, q2, q3, q4, q5, q6⟩ := read_loop hL (F0 := f) (G0 := g) T fuB fuB 0 0 0 _ _ (by omega) (by unfold fuB; omega) (by unfold fuB; omega) (Nat.zero_le _) (hc0.at (nI (sk (g 6) T 0))) hm0 (by rw [su_s, upd_s]) (by simp [su, upd, nI_0]) (Nat.zero_le _) hR1 (fun k hk => by rw [su_r (by omega), su_r (by omega), su_r (by omega), su_r (by omega), su_r (by omega), su_r (by omega), su_r (by omega), su_r (by omega), su_r (by omega)]) ⟨fun k k1 k2 => by rw [su_r k1, su_r k1, su_r k1, su_r k1, su_r k1, su_r k1], fun j j1 j2 j3 j4 j5 j6 j7 j8 => by rw [su_s, upd_n j8, su_s, upd_n j7, su_s, upd_n j6, su_s, upd_n j5, su_s, upd_n j2, su_s, upd_n j1]⟩
  rw [nI_0] at q2
  have hC : f_X6_read_10 f = some F := by
    unfold f_X6_read_10 f_X5_clear_11
    generalize f_X6_read_10_b33 fuB = K at q2 ⊢
    rw [Option.bind_some, bind_e hsk]
    exact q2
  have hM : f_X12_house g = f_X12_house_b51 (nI c) G := q3
  have x1 : su F 1 1 (0 : Int32) 10 2 = F 10 2 := by rw [su_r (by omega)]
  unfold f_X11_house
  rw [bind_e hC, hM, x1]
  rcases q6 with ⟨rfl, e2, rw', hRR⟩ | ⟨c0, e2, e3⟩
  · rw [if_pos e2]
    exact house_good hV hT hRR q4 q5
  · rw [e2, if_neg (nI_ne0 c0 (by omega))]
    unfold f_X12_house_b51
    rw [if_neg (nlt0 c0 (by omega))]
    refine ⟨_, _, _, rfl, rfl, W, S, N, ?_, ?_⟩
    · exact hV.mv (by rw [su_r (by omega), q4 3 (by omega)]) (by rw [su_r (by omega), q4 5 (by omega)]) (by rw [su_r (by omega), q4 6 (by omega)]) (by rw [su_r (by omega), q4 8 (by omega)]) (by rw [su_r (by omega), q4 9 (by omega)]) (by rw [su_r (by omega), q4 19 (by omega)]) (by rw [su_s, upd_n (by omega), q5.2 0 (by omega) (by omega) (by omega) (by omega) (by omega) (by omega) (by omega) (by omega)]) (by rw [su_s, upd_n (by omega), q5.2 1 (by omega) (by omega) (by omega) (by omega) (by omega) (by omega) (by omega) (by omega)]) (by rw [su_s, upd_n (by omega), q5.2 4 (by omega) (by omega) (by omega) (by omega) (by omega) (by omega) (by omega) (by omega)]) (by rw [su_r (by omega), q5.1 1 (by omega) (by omega)]) (by rw [su_r (by omega), q5.1 2 (by omega) (by omega)]) (by rw [su_r (by omega), q5.1 3 (by omega) (by omega)]) (by rw [su_r (by omega), q5.1 4 (by omega) (by omega)]) (by rw [su_r (by omega), q5.1 5 (by omega) (by omega)])
    · obtain ⟨r1, r2, r3, r4, r5, r6, r7⟩ := hT
      have fk : ∀ k, k ≠ 1 → (k < 10 ∨ 17 < k) → su F 1 1 (0 : Int32) k = f k := fun k a b => by rw [su_r a, q4 k b]
      have gk : ∀ k, k ≠ 0 → (k < 7 ∨ 12 < k) → su G 0 10 (0 : Int32) k = g k := fun k a b => by rw [su_r a, q5.1 k a b]
      have gj : ∀ j, j ≠ 10 → j ≠ 11 → j ≠ 12 → j ≠ 13 → j ≠ 14 → j ≠ 15 → j ≠ 17 → j ≠ 18 → j ≠ 21 → su G 0 10 (0 : Int32) 0 j = g 0 j := fun j a b c d e x y z u => by rw [su_s, upd_n a, q5.2 j b c d e x y z u]
      refine ⟨r1.mv (fk 20 (by omega) (by omega)) (fk 21 (by omega) (by omega)) (gj 25 (by omega) (by omega) (by omega) (by omega) (by omega) (by omega) (by omega) (by omega) (by omega)) (gk 13 (by omega) (by omega)), r2.mv (fk 23 (by omega) (by omega)) (fk 25 (by omega) (by omega)) (fk 26 (by omega) (by omega)) (fk 28 (by omega) (by omega)) (gk 18 (by omega) (by omega)) (gk 19 (by omega) (by omega)), r3.mv (by rw [fk 0 (by omega) (by omega)]) (gj 8 (by omega) (by omega) (by omega) (by omega) (by omega) (by omega) (by omega) (by omega) (by omega)), r4.mv (by rw [fk 32 (by omega) (by omega)]) (fk 33 (by omega) (by omega)) (fk 34 (by omega) (by omega)) (gj 27 (by omega) (by omega) (by omega) (by omega) (by omega) (by omega) (by omega) (by omega) (by omega)) (gk 14 (by omega) (by omega)) (gk 15 (by omega) (by omega)), r5.mv (by rw [fk 37 (by omega) (by omega)]) (fk 38 (by omega) (by omega)) (gj 31 (by omega) (by omega) (by omega) (by omega) (by omega) (by omega) (by omega) (by omega) (by omega)) (gk 17 (by omega) (by omega)), ⟨0, by omega, by rw [su_s, upd_s]; rfl, by rw [su_s, upd_s]; rfl, fun k hk => absurd hk (by omega)⟩, ?_⟩
      rw [su_r (by omega), e3, su_s, upd_n (by omega)]
