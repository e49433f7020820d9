/-! Mornings by draws -/
def lcgN (n : Nat) : Nat := (n * 1103515245 + 12345) % 2147483648
theorem lcgN_lt {n : Nat} : lcgN n < 2 ^ 31 := Nat.mod_lt _ (by omega)
theorem lcg_n {n : Nat} (h : n < 2 ^ 31) : (((((nI n).toInt64) * (1103515245 : Int64)) + (12345 : Int64)) - (((nI n).toInt64) * (1103515245 : Int64) + (12345 : Int64)) / (2147483648 : Int64) * (2147483648 : Int64)).toInt32 = nI (lcgN n) := by
  rw [nI_l h, show (1103515245 : Int64) = lN 1103515245 from rfl, show (12345 : Int64) = lN 12345 from rfl, show (2147483648 : Int64) = lN 2147483648 from rfl, lN_mul, lN_add, pk_lRem (by omega) (by omega) (by omega), lN_i]
  rfl
theorem dz_n {ρ : Type} {d : Nat} {k : Option ρ} (h : 0 < d) (hd : d < 2 ^ 31) : dz (nI d) k = k := if_neg (nI_ne0 h hd)
theorem lt0n {d : Nat} (h : 0 < d) (hd : d < 2 ^ 31) : (0 : Int32) < nI d := by
  rw [lt_t, nI_toInt hd]
  have : (0 : Int32).toInt = 0 := rfl
  omega
theorem m_draw {g : St} {n d : Nat} (hg : g 0 8 = nI n) (hn : n < 2 ^ 31) (hd : 0 < d) (hd2 : d < 2 ^ 31) : f_X12_draw (nI d) g = some (nI (lcgN n / 65536 % d), su g 0 8 (nI (lcgN n))) := by
  have e1 : lcgN n / 65536 < 2 ^ 31 := Nat.lt_of_le_of_lt (Nat.div_le_self _ _) lcgN_lt
  unfold f_X12_draw
  rw [dz_n hd hd2, hg, lcg_n hn, su_s, upd_s, show (65536 : Int32) = nI 65536 from rfl, pk_div lcgN_lt (by omega) (by omega), pk_rem e1 hd hd2]
theorem c_draw {f : St} {n d : Nat} (hg : f 0 5 = nI n) (hn : n < 2 ^ 31) (hd : 0 < d) (hd2 : d < 2 ^ 31) : f_X11_draw (nI d) f = some (nI (lcgN n / 65536 % d), su f 0 5 (nI (lcgN n))) := by
  have e1 : lcgN n / 65536 < 2 ^ 31 := Nat.lt_of_le_of_lt (Nat.div_le_self _ _) lcgN_lt
  unfold f_X11_draw
  rw [if_pos (lt0n hd hd2), dz_n hd hd2, hg, lcg_n hn, su_s, upd_s, show (65536 : Int32) = nI 65536 from rfl, pk_div lcgN_lt (by omega) (by omega), pk_rem e1 hd hd2]
theorem Rest.draw {W S N : Nat} {f g : St} (hV : V W S N f g) (hT : Rest W N f g) {n : Nat} (hn : n < 2 ^ 31) : V W S N (su f 0 5 (nI n)) (su g 0 8 (nI n)) ∧ Rest W N (su f 0 5 (nI n)) (su g 0 8 (nI n)) := by
  obtain ⟨h1, h2, h3, h4, h5, h6, h7⟩ := hT
  refine ⟨hV.mv, h1.mv, h2.mv, ?_, h4.mv, h5.mv, h6.mv, by simpa [su, upd] using h7⟩
  have := nI_toInt hn
  exact ⟨by simp [su, upd], by simp [su, upd]; omega⟩
theorem Rest.seed {W N : Nat} {f g : St} (hT : Rest W N f g) : ∃ n : Nat, n < 2 ^ 31 ∧ f 0 5 = nI n ∧ g 0 8 = nI n := by
  obtain ⟨h1, h2, ⟨e, h3⟩, -⟩ := hT
  have hb := (f 0 5).toInt_lt
  refine ⟨(f 0 5).toInt.toNat, by omega, ?_, ?_⟩
  · rw [eq_t, nI_toInt (by omega)]; omega
  · rw [← e, eq_t, nI_toInt (by omega)]; omega
theorem draw_step {W S N : Nat} {f g : St} (hV : V W S N f g) (hT : Rest W N f g) {d : Nat} (hd : 0 < d) (hd2 : d < 2 ^ 31) : ∃ (r : Nat) (f' g' : St), r < d ∧ f_X11_draw (nI d) f = some (nI r, f') ∧ f_X12_draw (nI d) g = some (nI r, g') ∧ V W S N f' g' ∧ Rest W N f' g' := by
  obtain ⟨n, hn, e1, e2⟩ := hT.seed
  have hx := Rest.draw hV hT (n := lcgN n) lcgN_lt
  exact ⟨lcgN n / 65536 % d, _, _, Nat.mod_lt _ hd, c_draw e1 hn hd hd2, m_draw e2 hn hd hd2, hx.1, hx.2⟩
theorem c_dchain {K : Int32 → Int32 → St → Option (Int32 × St)} {p i x y z w : Int32} {f f1 f2 f3 f4 f5 : St} (h0 : ¬ p ≤ i) (h1 : ¬ f 3 2 ≤ 0) (z1 : f_X11_draw (f 3 2) f = some (x, f1)) (z2 : f_X5_places_3 f1 = some y) (z3 : f_X11_draw y f1 = some (z, f2)) (z4 : f_X11_swear x z f2 = some f3) (z5 : f_X11_draw (5 : Int32) f3 = some (w, f4)) (z6 : f_X8_put_18 (0 : Int32) (w - 2) f4 = some f5) : f_X11_drift_b50s K p i f = K p (i + 1) f5 := by
  unfold f_X11_drift_b50s
  rw [if_neg h0, if_neg h1, bind_e z1, bind_e z2, bind_e z3, bind_e z4, bind_e z5, bind_e z6]
theorem m_dchain {K : Int32 → Int32 → St → Option (Int32 × St)} {p i x y z w : Int32} {f f1 f2 f3 f4 : St} (h0 : ¬ p ≤ i) (h1 : ¬ f 0 1 ≤ 0) (z1 : f_X12_draw (f 0 1) f = some (x, f1)) (z2 : f_X12_places f1 = some y) (z3 : f_X12_draw y f1 = some (z, f2)) (z4 : f_X12_morningOf x z f2 = some f3) (z5 : f_X12_draw (5 : Int32) f3 = some (w, f4)) : f_X12_drift_b47s K p i f = K p (i + 1) (su f4 5 8 ((w - 2) + 9)) := by
  unfold f_X12_drift_b47s
  rw [if_neg h0, if_neg h1, bind_e z1, bind_e z2, bind_e z3, bind_e z4, bind_e z5]
  exact ck_n (i := 8) (n := 28) (by omega) (by omega)
theorem c_dend {W S N : Nat} {f g : St} (hV : V W S N f g) : f_X11_drift_b118 f = some (g 5 19, f) := by
  unfold f_X11_drift_b118
  rw [show f_X8_get_18 (4 : Int32) f = some (f 19 4) from c_get 4 (by omega), hV.row.2.2.2.2.1]
  rfl
theorem m_dend {g : St} : f_X12_drift_b104 g = some (g 5 19, g) := by
  unfold f_X12_drift_b104
  exact ck_n (i := 19) (n := 28) (by omega) (by omega)
theorem nlt0 {d : Nat} (h : 0 < d) (hd : d < 2 ^ 31) : ¬ nI d ≤ (0 : Int32) := by
  rw [le_t, nI_toInt hd]
  have : (0 : Int32).toInt = 0 := rfl
  omega
theorem dri_loop {W S N : Nat} (hW : 0 < W) {p : Nat} (hp : p < 100) : ∀ (d n k : Nat) (f g : St), k + d = p → d < n → V W S N f g → Rest W N f g → ∃ (r : Int32) (f' g' : St), f_X11_drift_b50 n (nI p) (nI k) f = some (r, f') ∧ f_X12_drift_b47 n (nI p) (nI k) g = some (r, g') ∧ V W S N f' g' ∧ Rest W N f' g' := by
  intro d
  induction d with
  | zero =>
    intro n k f g h1 h2 hV hT
    obtain ⟨n, rfl⟩ : ∃ m, n = m + 1 := ⟨n - 1, by omega⟩
    simp only [f_X11_drift_b50, f_X11_drift_b50s, f_X12_drift_b47, f_X12_drift_b47s]
    rw [if_pos (nI_le (by omega) (by omega)), if_pos (nI_le (by omega) (by omega))]
    exact ⟨_, _, _, c_dend hV, m_dend, hV, hT⟩
  | succ d ih =>
    intro n k f g h1 h2 hV hT
    obtain ⟨n, rfl⟩ : ∃ m, n = m + 1 := ⟨n - 1, by omega⟩
    have hS := hV.S6
    have hW8 := hV.W8
    simp only [f_X11_drift_b50, f_X12_drift_b47]
    by_cases hs0 : S = 0
    · refine ⟨g 5 19, f, g, ?_, ?_, hV, hT⟩
      · unfold f_X11_drift_b50s
        rw [if_neg (nI_ge (by omega) (by omega)), hV.fS, hs0, if_pos (show nI 0 ≤ (0 : Int32) by decide)]
        exact c_dend hV
      · unfold f_X12_drift_b47s
        rw [if_neg (nI_ge (by omega) (by omega)), hV.gS, hs0, if_pos (show nI 0 ≤ (0 : Int32) by decide)]
        exact m_dend
    · obtain ⟨s, f1, g1, hs, a1, b1, hV1, hT1⟩ := draw_step hV hT (d := S) (by omega) (by omega)
      obtain ⟨x, f2, g2, hx, a2, b2, hV2, hT2⟩ := draw_step hV1 hT1 (d := pl W) (by unfold pl; split <;> omega) (by have := pl_le hW8; omega)
      obtain ⟨f3, g3, a3, b3, hV3, ra, rb⟩ := morning_step hV2 hs (pl_W hx)
      obtain ⟨w, f4, g4, hw, a4, b4, hV4, hT4⟩ := draw_step hV3 (hT2.rows ra rb) (d := 5) (by omega) (by omega)
      have tb : (nI w - 2 + 9 : Int32).toInt = w + 7 := by
        have t := nI_toInt (n := w) (by omega)
        have t2 : (2 : Int32).toInt = 2 := rfl
        have t9 : (9 : Int32).toInt = 9 := rfl
        have t3 : (nI w - 2 : Int32).toInt = w - 2 := by rw [t_sub (by omega) (by omega)]; omega
        rw [t_add (by omega) (by omega)]; omega
      have hV5 : V W S N (su f4 19 0 (nI w - 2)) (su g4 5 8 (nI w - 2 + 9)) := by
        have := hV4.row5 (hV4.2.windy hV4.N7 (b := nI w - 2 + 9) (by rw [tb]; omega))
        rwa [Int32.add_sub_cancel] at this
      obtain ⟨r, f', g', u1, u2, u3, u4⟩ := ih n (k + 1) (su f4 19 0 (nI w - 2)) (su g4 5 8 (nI w - 2 + 9)) (by omega) (by omega) hV5 hT4.mv
      refine ⟨r, f', g', ?_, ?_, u3, u4⟩
      · rw [c_dchain (nI_ge (by omega) (by omega)) (by rw [hV.fS]; exact nlt0 (by omega) (by omega)) (by rw [hV.fS]; exact a1) (c_places hV1) a2 a3 a4 (c_put 0 (by omega) _), nI_1]
        exact u1
      · rw [m_dchain (nI_ge (by omega) (by omega)) (by rw [hV.gS]; exact nlt0 (by omega) (by omega)) (by rw [hV.gS]; exact b1) (m_places hV1) b2 b3 b4, nI_1]
        exact u2
theorem dri_all {W S N : Nat} {f g : St} (hW : 0 < W) {p : Nat} (hp : p < 100) (hV : V W S N f g) (hT : Rest W N f g) : ∃ (r : Int32) (f' g' : St), f_X11_drift_b50 fuB (nI p) (0 : Int32) f = some (r, f') ∧ f_X12_drift_b47 fuB (nI p) (0 : Int32) g = some (r, g') ∧ V W S N f' g' ∧ Rest W N f' g' :=
  dri_loop hW hp p fuB 0 f g (by omega) (by unfold fuB; omega) hV hT
theorem c_drift_chain {p : Int32} {f f1 : St} {R : Option (Int32 × St)} (h1 : ¬ p < 1) (h2 : p ≤ 60) (z1 : f_X5_stands_3 f = some 1) (z2 : f_X11_isFullOfMornings f = some 0) (z3 : f_X4_push_20_18 f = some f1) (z4 : f_X11_drift_b50 fuB p (0 : Int32) f1 = R) : f_X11_drift p f = R := by
  unfold f_X11_drift
  subst z4
  generalize f_X11_drift_b50 fuB = K
  rw [if_neg h1, if_pos h2, bind_e z1, if1, bind_e z2, if0, bind_e z3]
theorem m_drift_chain {p : Int32} {f f1 : St} {R : Option (Int32 × St)} (z0 : f_X12_in p.toInt64 (1 : Int64) (60 : Int64) f = some 1) (h1 : ¬ f 0 0 = 0) (h2 : f 5 16 ≤ 9000) (z3 : f_X12_remember f = some f1) (z4 : f_X12_drift_b47 fuB p (0 : Int32) f1 = R) : f_X12_drift p f = R := by
  unfold f_X12_drift
  subst z4
  generalize f_X12_drift_b47 fuB = K
  rw [bind_e z0, if1, if_neg h1, show ck (16 : Int32) 28 _ = _ from ck_n (i := 16) (n := 28) (by omega) (by omega), show (16 : Int32).toNatClampNeg = 16 from rfl, if_pos h2, bind_e z3]
theorem sim_drift : Sim_drift Rel := by
  intro f g hR p1
  obtain ⟨W, S, N, hV, hT⟩ := id hR
  have t1 : (1 : Int32).toInt = 1 := rfl
  have t60 : (60 : Int32).toInt = 60 := rfl
  by_cases hp : 1 ≤ p1.toInt ∧ p1.toInt ≤ 60
  · have z0 : f_X12_in p1.toInt64 (1 : Int64) (60 : Int64) g = some 1 := by
      rw [m_in, decide_eq_true (by rw [Int32.toInt_toInt64]; exact hp)]; rfl
    have h1 : ¬ p1 < 1 := by rw [lt_t]; omega
    have h2 : p1 ≤ 60 := by rw [le_t]; omega
    by_cases h0 : W = 0
    · subst h0
      refine ⟨(-1000000003 : Int32), f, g, ?_, ?_, hR⟩
      · unfold f_X11_drift
        rw [if_neg h1, if_pos h2, bind_e (c_stands hV), decide_eq_false (show ¬ 0 < 0 by omega), b2i_f, if0]
      · unfold f_X12_drift
        rw [bind_e z0, if1, hV.gW, if_pos (show nI 0 = (0 : Int32) from rfl)]
    · have hst : f_X5_stands_3 f = some 1 := by rw [c_stands hV, decide_eq_true (show 0 < W by omega)]; rfl
      have hg0 : ¬ g 0 0 = 0 := by rw [hV.gW]; exact nI_ne0 (show 0 < W by omega) (by have := hV.W8; omega)
      by_cases hc : g 5 16 ≤ 9000
      · obtain ⟨f1, g1, k1, k2, hV1, hT1, e19, e5⟩ := push_rel hV hT
        obtain ⟨k, hk⟩ : ∃ k : Nat, p1.toInt = k := ⟨p1.toInt.toNat, by omega⟩
        have hpk : p1 = nI k := by rw [eq_t, nI_toInt (by omega)]; exact hk
        obtain ⟨r, f', g', u1, u2, u3, u4⟩ := dri_all (by omega) (p := k) (by omega) hV1 hT1
        rw [← hpk] at u1 u2
        exact ⟨r, f', g', c_drift_chain h1 h2 hst (by rw [c_full hV, decide_eq_true hc]; rfl) k1 u1, m_drift_chain z0 hg0 hc k2 u2, W, S, N, u3, u4⟩
      · refine ⟨(-1000000004 : Int32), f, g, ?_, ?_, hR⟩
        · unfold f_X11_drift
          rw [if_neg h1, if_pos h2, bind_e hst, if1, bind_e (c_full hV), decide_eq_false hc, Bool.not_false, b2i_t, if1]
        · unfold f_X12_drift
          rw [bind_e z0, if1, if_neg hg0, show ck (16 : Int32) 28 _ = _ from ck_n (i := 16) (n := 28) (by omega) (by omega), show (16 : Int32).toNatClampNeg = 16 from rfl, if_neg hc]
  · refine ⟨(-1000000002 : Int32), f, g, ?_, ?_, hR⟩
    · unfold f_X11_drift f_X11_drift_b11
      by_cases h1 : p1 < 1
      · rw [if_pos h1]
      · rw [if_neg h1, if_neg (by rw [le_t]; rw [lt_t] at h1; omega)]
    · unfold f_X12_drift
      rw [m_in, decide_eq_false (by rw [Int32.toInt_toInt64]; exact hp)]
      rfl
