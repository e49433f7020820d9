section LO
variable {T : Nat} {L : Nat → Int32}
theorem OUT.base {a a' : Nat} {C : Option St} {M : Option (Int32 × St)} {f g f1 g1 : St} (h : OUT T a' C M f1 g1) (ha : a ≤ a') (hf : FRc f f1) (hg : FRm g g1) : OUT T a C M f g := by
  rcases h with ⟨rw, e, f', g', q1, q2, q3, q4, q5, q6, q7, q8, q9, q10⟩ | ⟨c, f', g', q1, q2, q3, q4, q5, q6, q7, q8⟩
  · exact Or.inl ⟨rw, e, f', g', by omega, q2, q3, q4, q5, q6, q7, q8, hf.trans q9, hg.trans q10⟩
  · exact Or.inr ⟨c, f', g', q1, q2, q3, q4, q5, q6, hf.trans q7, hg.trans q8⟩
theorem OUT.fail {a c s : Nat} {u v : Int32} {f g : St} (h0 : 0 < c) (h3 : c ≤ 3) (hf : f 10 2 = 0) : OUT T a (f_X6_fail_10 (nI c) (nI s) (su f 10 4 u)) (some (nI c, su (su g 0 12 v) 0 11 (nI s))) f g := by
  rw [c_fail0 (by rw [su_s, upd_n (by omega)]; exact hf)]
  exact Or.inr ⟨c, _, _, h0, h3, rfl, rfl, by rw [su_s, upd_n (by omega), su_s, upd_s], by rw [su_s, upd_s, su_s, upd_s], fun k hk => by rw [su_r (by omega), su_r (by omega), su_r (by omega)], (FRm.slot (by omega)).trans (FRm.slot (by omega))⟩
theorem c_clause (hL : LOK T L) {f : St} {s rw : Nat} (hc : TXc T L f) (ha : f 10 4 = nI s) (hsT : s < T) (hr : f 11 0 = nI rw) (hrw : rw ≤ 8) : f_X6_readClause_10 f = (if L s = 104 then f_X6_readWalls_10 (nI s) (su f 10 4 (nI (s + 1))) else if rw = 0 then f_X6_fail_10 (nI 1) (nI s) (su f 10 4 (nI (s + 1))) else if L s = 115 then f_X6_readSound_10 (nI s) (su f 10 4 (nI (s + 1))) else if L s = 118 then f_X6_readWind_10 (nI s) (su f 10 4 (nI (s + 1))) else if L s = 119 then f_X6_readWitness_10 (nI s) (su f 10 4 (nI (s + 1))) else f_X6_fail_10 (nI 1) (nI s) (su f 10 4 (nI (s + 1)))) := by
  have hT := hL.1
  have hst : f_X5_stands_11 (su f 10 4 (nI (s + 1))) = some (b2i (decide (0 < rw))) := by
    unfold f_X5_stands_11
    rw [su_r (by omega), hr]
    by_cases h : rw = 0
    · rw [h, if_pos (show nI 0 ≤ (0 : Int32) by decide)]; rfl
    · rw [if_neg (nlt0 (show 0 < rw by omega) (by omega)), decide_eq_true (show 0 < rw by omega)]; rfl
  have hl : ltr L T s = L s := by unfold ltr; rw [if_pos hsT]
  unfold f_X6_readClause_10
  rw [ha, bind_e (c_letter hL hc (show s < 2 ^ 31 by omega)), nI_1, bind_e hst, hl]
  unfold f_X6_readClause_10_b50
  simp only [bind_id]
  generalize L s = l
  rw [show (1 : Int32) = nI 1 from rfl]
  by_cases e1 : l = 104
  · simp only [if_pos e1, ite_self]
  · simp only [if_neg e1]
    by_cases h : rw = 0
    · rw [if_pos (show b2i (decide (0 < rw)) = 0 by subst h; rfl), if_pos h]
    · rw [if_neg (show ¬ b2i (decide (0 < rw)) = 0 by rw [decide_eq_true (show 0 < rw by omega)]; decide), if_neg h]
theorem m_46 {i : Int32} {g : St} {rw : Nat} (h1 : ¬ i < 0) (h2 : ¬ i ≤ 0) (hr : g 0 15 = nI rw) (hrw : rw ≤ 8) : f_X12_takeClause_b46 i g = if rw = 0 then f_X12_takeClause_b62 g else f_X12_takeClause_b72 i g := by
  unfold f_X12_takeClause_b46
  rw [if_neg h1, if_neg h2, hr]
  by_cases h : rw = 0
  · rw [if_pos h, if_pos (by rw [h]; rfl)]
  · rw [if_neg h, if_neg (nI_ne0 (by omega) (by omega))]
theorem m_62 {g : St} {s : Nat} (hb : g 0 12 = nI s) : f_X12_takeClause_b62 g = some (nI 1, su g 0 11 (nI s)) := by
  unfold f_X12_takeClause_b62 f_X12_fails
  rw [hb]
  rfl
theorem m_147 {i2 : Int32} {g : St} {s : Nat} (hb : g 0 12 = nI s) : f_X12_takeClause_b147 i2 (1 : Int32) g = some (nI 3, su g 0 11 (nI s)) := by
  unfold f_X12_takeClause_b147 f_X12_fails
  rw [if1, hb]
  rfl
theorem m_147h {g : St} {s : Nat} (hb : g 0 12 = nI s) : f_X12_takeClause_b147 (0 : Int32) (0 : Int32) g = (f_X12_takeWalls (su g 0 12 (nI (s + 1)))).bind fun q => f_X12_takeClause_b211 q.1 q.2 := by
  unfold f_X12_takeClause_b147
  rw [if0, if0, hb, nI_1]
theorem m_147v {g : St} {s : Nat} (hb : g 0 12 = nI s) : f_X12_takeClause_b147 (1 : Int32) (0 : Int32) g = (f_X12_takeWind (su g 0 12 (nI (s + 1)))).bind fun q => f_X12_takeClause_b211 q.1 q.2 := by
  unfold f_X12_takeClause_b147
  rw [if0, if1, if_pos rfl, hb, nI_1]
theorem m_147s {g : St} {s : Nat} (hb : g 0 12 = nI s) : f_X12_takeClause_b147 (2 : Int32) (0 : Int32) g = (f_X12_takeSound (su g 0 12 (nI (s + 1)))).bind fun q => f_X12_takeClause_b211 q.1 q.2 := by
  unfold f_X12_takeClause_b147
  rw [if0, if_neg (show ¬ (2 : Int32) = 0 by decide), if_neg (show ¬ (2 : Int32) = 1 by decide), if_pos rfl, hb, nI_1]
theorem m_147w {g : St} {s : Nat} (hb : g 0 12 = nI s) : f_X12_takeClause_b147 (3 : Int32) (0 : Int32) g = (f_X12_takeWitness (su g 0 12 (nI (s + 1)))).bind fun q => f_X12_takeClause_b211 q.1 q.2 := by
  unfold f_X12_takeClause_b147
  rw [if0, if_neg (show ¬ (3 : Int32) = 0 by decide), if_neg (show ¬ (3 : Int32) = 1 by decide), if_neg (show ¬ (3 : Int32) = 2 by decide), hb, nI_1]
theorem m_72h {g : St} : f_X12_takeClause_b72 (0 : Int32) g = if (g 0 15) ≤ 0 then f_X12_takeClause_b147 (0 : Int32) (0 : Int32) g else f_X12_takeClause_b147 (0 : Int32) (1 : Int32) g := by
  unfold f_X12_takeClause_b72
  rw [if0]
theorem m_72v {g : St} : f_X12_takeClause_b72 (1 : Int32) g = if (g 0 17) < 0 then f_X12_takeClause_b147 (1 : Int32) (0 : Int32) g else f_X12_takeClause_b147 (1 : Int32) (1 : Int32) g := by
  unfold f_X12_takeClause_b72
  rw [if1, if_pos rfl]
theorem m_72s {g : St} : f_X12_takeClause_b72 (2 : Int32) g = if (g 0 18) = 6 then f_X12_takeClause_b147 (2 : Int32) (1 : Int32) g else f_X12_takeClause_b147 (2 : Int32) (0 : Int32) g := by
  unfold f_X12_takeClause_b72
  rw [if_neg (show ¬ (2 : Int32) = 0 by decide), if_neg (show ¬ (2 : Int32) = 1 by decide), if_pos rfl]
theorem m_72w {g : St} : f_X12_takeClause_b72 (3 : Int32) g = if (g 0 21) = 7 then f_X12_takeClause_b147 (3 : Int32) (1 : Int32) g else f_X12_takeClause_b147 (3 : Int32) (0 : Int32) g := by
  unfold f_X12_takeClause_b72
  rw [if_neg (show ¬ (3 : Int32) = 0 by decide), if_neg (show ¬ (3 : Int32) = 1 by decide), if_neg (show ¬ (3 : Int32) = 2 by decide)]
theorem m_clause (hL : LOK T L) {g : St} {s rw : Nat} (hm : TXm T L g) (hb : g 0 12 = nI s) (hsT : s < T) (hss : sk L T s = s) (hr : g 0 15 = nI rw) (hrw : rw ≤ 8) : f_X12_takeClause g = (if L s = 104 then f_X12_takeClause_b72 (0 : Int32) g else if rw = 0 then some (nI 1, su g 0 11 (nI s)) else if L s = 115 then f_X12_takeClause_b72 (2 : Int32) g else if L s = 118 then f_X12_takeClause_b72 (1 : Int32) g else if L s = 119 then f_X12_takeClause_b72 (3 : Int32) g else some (nI 1, su g 0 11 (nI s))) := by
  have hl : ltr L T s = L s := by unfold ltr; rw [if_pos hsT]
  have hgs : su g 0 12 (nI s) = g := by rw [← hb, su_self]
  unfold f_X12_takeClause
  rw [bind_e (m_here hL hm hb (by omega)), hss, hgs, hl]
  dsimp only
  generalize L s = l
  rw [m_46 (i := 1) (by decide) (by decide) hr hrw, m_46 (i := 2) (by decide) (by decide) hr hrw, m_46 (i := 3) (by decide) (by decide) hr hrw, show f_X12_takeClause_b46 (0 : Int32) g = f_X12_takeClause_b72 (0 : Int32) g by unfold f_X12_takeClause_b46; rw [if_neg (by decide), if_pos (by decide)], show f_X12_takeClause_b46 (-1 : Int32) g = f_X12_takeClause_b62 g by unfold f_X12_takeClause_b46; rw [if_pos (by decide)], m_62 hb]
  by_cases e1 : l = 104
  · rw [if_pos e1, if_pos e1]
  · rw [if_neg e1, if_neg e1]
    by_cases h : rw = 0
    · simp only [if_pos h, ite_self]
    · simp only [if_neg h]
      by_cases e2 : l = 118
      · rw [if_pos e2, if_neg (show ¬ l = 115 by rw [e2]; decide), if_pos e2]
      · rw [if_neg e2, if_neg e2]
theorem clause_step (hL : LOK T L) {f g : St} {s rw : Nat} (hc : TXc T L f) (hm : TXm T L g) (ha : f 10 4 = nI s) (hb : g 0 12 = nI s) (hsT : s < T) (hss : sk L T s = s) (hR : RR rw f g) : OUT T s (f_X6_readClause_10 f) (f_X12_takeClause g) f g := by
  have hT := hL.1
  have hgs : su g 0 12 (nI s) = g := by rw [← hb, su_self]
  have hc1 : TXc T L (su f 10 4 (nI (s + 1))) := hc.at _
  have hm1 : TXm T L (su g 0 12 (nI (s + 1))) := hm.at _
  have hf1 : FRc f (su f 10 4 (nI (s + 1))) := fun k hk => su_r (by omega)
  have hg1 : FRm g (su g 0 12 (nI (s + 1))) := FRm.slot (by omega)
  have ha1 : su f 10 4 (nI (s + 1)) 10 4 = nI (s + 1) := by rw [su_s, upd_s]
  have hb1 : su g 0 12 (nI (s + 1)) 0 12 = nI (s + 1) := by rw [su_s, upd_s]
  have hR1 := hR.at (nI (s + 1)) (nI (s + 1))
  have f1 : OUT T s (f_X6_fail_10 (nI 1) (nI s) (su f 10 4 (nI (s + 1)))) (some (nI 1, su g 0 11 (nI s))) f g := by
    have := OUT.fail (T := T) (a := s) (c := 1) (s := s) (u := nI (s + 1)) (v := nI s) (f := f) (g := g) (by omega) (by omega) hR.2.2.2.2.1
    rwa [hgs] at this
  have f3 : OUT T s (f_X6_fail_10 (3 : Int32) (nI s) (su f 10 4 (nI (s + 1)))) (some (nI 3, su g 0 11 (nI s))) f g := by
    have := OUT.fail (T := T) (a := s) (c := 3) (s := s) (u := nI (s + 1)) (v := nI s) (f := f) (g := g) (by omega) (by omega) hR.2.2.2.2.1
    rwa [hgs] at this
  have hrw8 := hR.1.2.2.1
  rw [c_clause hL hc ha hsT hR.1.1 hrw8, m_clause hL hm hb hsT hss hR.1.2.1 hrw8]
  generalize L s = l
  by_cases e1 : l = 104
  · rw [if_pos e1, if_pos e1, m_72h, hR.1.2.1]
    by_cases h : rw = 0
    · subst h
      rw [if_pos (show nI 0 ≤ (0 : Int32) by decide), m_147h hb]
      exact (walls_clause hL hc1 hm1 ha1 hb1 (by omega) hR1 (nI s)).base (by omega) hf1 hg1
    · rw [if_neg (nlt0 (show 0 < rw by omega) (by omega)), m_147 hb]
      have hC : f_X6_readWalls_10 (nI s) (su f 10 4 (nI (s + 1))) = f_X6_fail_10 (3 : Int32) (nI s) (su f 10 4 (nI (s + 1))) := by
        unfold f_X6_readWalls_10 f_X5_stands_11
        generalize f_X6_readWalls_10_b36 fuB = K
        rw [hR1.1.1, if_neg (nlt0 (show 0 < rw by omega) (by omega)), Option.bind_some, if1, bind_id]
      rw [hC]
      exact f3
  · rw [if_neg e1, if_neg e1]
    by_cases h : rw = 0
    · rw [if_pos h, if_pos h]
      exact f1
    · rw [if_neg h, if_neg h]
      obtain ⟨h1, ⟨rs, h2⟩, ⟨rn, h3⟩, h4, h5⟩ := hR1
      by_cases e2 : l = 115
      · rw [if_pos e2, if_pos e2, m_72s]
        have k1 : f 11 2 = nI rs := by rw [← h2.1, su_r (by omega)]
        have k2 : g 0 18 = nI rs := by rw [← h2.2.1, su_s, upd_n (by omega)]
        have k3 := h2.2.2.1
        rw [k2]
        by_cases hs6 : rs = 6
        · subst hs6
          rw [if_pos (show nI 6 = (6 : Int32) from rfl), m_147 hb]
          have hC : f_X6_readSound_10 (nI s) (su f 10 4 (nI (s + 1))) = f_X6_fail_10 (3 : Int32) (nI s) (su f 10 4 (nI (s + 1))) := by
            unfold f_X6_readSound_10
            rw [su_r (k := 10) (k' := 11) (by omega), k1, if_neg (show ¬ nI 6 < (6 : Int32) by decide), bind_id]
          rw [hC]
          exact f3
        · rw [if_neg (show ¬ nI rs = (6 : Int32) from fun x => by have := (nI_eq (b := 6) (by omega) (by omega)).mp x; omega), m_147s hb]
          exact (sound_clause hL hc1 hm1 ha1 hb1 (by omega) (by omega) h1 h2 ⟨rn, h3⟩ h4 h5 (by omega) (nI s)).base (by omega) hf1 hg1
      · rw [if_neg e2, if_neg e2]
        by_cases e3 : l = 118
        · rw [if_pos e3, if_pos e3, m_72v]
          have k2 : g 0 17 = su g 0 12 (nI (s + 1)) 0 17 := by rw [su_s, upd_n (by omega)]
          rw [k2]
          rcases h4 with ⟨a1, a2, a3⟩ | ⟨a1, b, a2, a3, a4⟩
          · rw [a2, if_pos (by decide), m_147v hb]
            exact (wind_clause hL hc1 hm1 ha1 hb1 (by omega) (show 0 < rw by omega) ⟨h1, ⟨rs, h2⟩, ⟨rn, h3⟩, Or.inl ⟨a1, a2, a3⟩, h5⟩ (nI s) a1).base (by omega) hf1 hg1
          · rw [a3, if_neg (nI_pos (by omega)), m_147 hb]
            have hC : f_X6_readWind_10 (nI s) (su f 10 4 (nI (s + 1))) = f_X6_fail_10 (3 : Int32) (nI s) (su f 10 4 (nI (s + 1))) := by
              unfold f_X6_readWind_10
              rw [a1, if1, bind_id]
            rw [hC]
            exact f3
        · rw [if_neg e3, if_neg e3]
          by_cases e4 : l = 119
          · rw [if_pos e4, if_pos e4, m_72w]
            have k1 : f 11 3 = nI rn := by rw [← h3.1, su_r (by omega)]
            have k2 : g 0 21 = nI rn := by rw [← h3.2.1, su_s, upd_n (by omega)]
            have k3 := h3.2.2.1
            rw [k2]
            by_cases hs7 : rn = 7
            · subst hs7
              rw [if_pos (show nI 7 = (7 : Int32) from rfl), m_147 hb]
              have hC : f_X6_readWitness_10 (nI s) (su f 10 4 (nI (s + 1))) = f_X6_fail_10 (3 : Int32) (nI s) (su f 10 4 (nI (s + 1))) := by
                unfold f_X6_readWitness_10
                rw [su_r (k := 10) (k' := 11) (by omega), k1, if_neg (show ¬ nI 7 < (7 : Int32) by decide), bind_id]
              rw [hC]
              exact f3
            · rw [if_neg (show ¬ nI rn = (7 : Int32) from fun x => by have := (nI_eq (b := 7) (by omega) (by omega)).mp x; omega), m_147w hb]
              exact (witness_clause hL hc1 hm1 ha1 hb1 (by omega) (show 0 < rw by omega) h1 ⟨rs, h2⟩ h3 h4 h5 (by omega) (nI s)).base (by omega) hf1 hg1
          · rw [if_neg e4, if_neg e4]
            exact f1
end LO
section LP
variable {T : Nat} {L : Nat → Int32}
theorem b33_s (n : Nat) (i : Int32) (F : St) : f_X6_read_10_b33 (n + 1) i F = f_X6_read_10_b33s (f_X6_read_10_b33 n) i F := rfl
theorem b32_s (n : Nat) (i : Int32) (G : St) : f_X12_house_b32 (n + 1) i G = f_X12_house_b32s (f_X12_house_b32 n) i G := rfl
theorem hb32_c {n : Nat} {c : Int32} {G : St} (hc : ¬ c = 0) : f_X12_house_b32 (n + 1) c G = f_X12_house_b51 c G := by
  rw [b32_s]
  unfold f_X12_house_b32s
  rw [if_neg hc]
theorem rb33_c {n : Nat} {i : Int32} {F : St} (hc : ¬ F 10 2 = 0) : f_X6_read_10_b33 (n + 1) i F = some F := by
  rw [b33_s]
  unfold f_X6_read_10_b33s
  rw [if_neg hc]
  split <;> rfl
theorem read_loop (hL : LOK T L) {F0 G0 : St} : ∀ (d n1 n2 i a rw : Nat) (F G : St), T ≤ sk L T a + d → d < n1 → d + 1 < n2 → i ≤ sk L T a → TXc T L F → TXm T L G → F 10 4 = nI (sk L T a) → G 0 12 = nI a → a ≤ T → RR rw F G → FRc F0 F → FRm G0 G → ∃ (c : Nat) (F' G' : St), c ≤ 3 ∧ f_X6_read_10_b33 n1 (nI i) F = some F' ∧ f_X12_house_b32 n2 0 G = f_X12_house_b51 (nI c) G' ∧ FRc F0 F' ∧ FRm G0 G' ∧ ((c = 0 ∧ F' 10 2 = 0 ∧ ∃ rw', RR rw' F' G') ∨ (0 < c ∧ F' 10 2 = nI c ∧ F' 10 3 = G' 0 11)) := by
  have hT := hL.1
  intro d
  induction d with
  | zero =>
    intro n1 n2 i a rw F G h1 h2 h3 hi hc hm ha hb haT hR hf hg
    obtain ⟨n1, rfl⟩ : ∃ m, n1 = m + 1 := ⟨n1 - 1, by omega⟩
    obtain ⟨n2, rfl⟩ : ∃ m, n2 = m + 1 := ⟨n2 - 1, by omega⟩
    have hs := sk_bd (L := L) haT
    have hsT : sk L T a = T := by omega
    rw [hsT] at ha
    have hsi : su F 10 4 (nI T) = F := by rw [← ha, su_self]
    have hRR := hR.at (nI T) (nI T)
    rw [hsi] at hRR
    refine ⟨0, F, su G 0 12 (nI T), by omega, ?_, ?_, hf, hg.trans (FRm.slot (by omega)), Or.inl ⟨rfl, hR.2.2.2.2.1, rw, hRR⟩⟩
    · rw [b33_s]
      unfold f_X6_read_10_b33s
      rw [if_pos hR.2.2.2.2.1, hc.1, ha, if_pos (nI_le (Nat.le_refl _) (by omega)), ite_self]
    · rw [b32_s]
      unfold f_X12_house_b32s
      rw [if0, bind_e (m_here hL hm hb haT), hsT]
      dsimp only
      rw [show ltr L T T = -1 by unfold ltr; rw [if_neg (Nat.lt_irrefl _)], if_pos (show (-1 : Int32) < 0 by decide)]
      rfl
  | succ d ih =>
    intro n1 n2 i a rw F G h1 h2 h3 hi hc hm ha hb haT hR hf hg
    obtain ⟨n1, rfl⟩ : ∃ m, n1 = m + 1 := ⟨n1 - 1, by omega⟩
    obtain ⟨n2, rfl⟩ : ∃ m, n2 = m + 1 := ⟨n2 - 1, by omega⟩
    have hs := sk_bd (L := L) haT
    have hss := sk_sk (L := L) haT
    by_cases hsT : sk L T a = T
    · rw [hsT] at ha
      have hsi : su F 10 4 (nI T) = F := by rw [← ha, su_self]
      have hRR := hR.at (nI T) (nI T)
      rw [hsi] at hRR
      refine ⟨0, F, su G 0 12 (nI T), by omega, ?_, ?_, hf, hg.trans (FRm.slot (by omega)), Or.inl ⟨rfl, hR.2.2.2.2.1, rw, hRR⟩⟩
      · rw [b33_s]
        unfold f_X6_read_10_b33s
        rw [if_pos hR.2.2.2.2.1, hc.1, ha, if_pos (nI_le (Nat.le_refl _) (by omega)), ite_self]
      · rw [b32_s]
        unfold f_X12_house_b32s
        rw [if0, bind_e (m_here hL hm hb haT), hsT]
        dsimp only
        rw [show ltr L T T = -1 by unfold ltr; rw [if_neg (Nat.lt_irrefl _)], if_pos (show (-1 : Int32) < 0 by decide)]
        rfl
    · have hh := m_here hL hm hb haT
      generalize sk L T a = s at *
      have hsi : su F 10 4 (nI s) = F := by rw [← ha, su_self]
      have hRR := hR.at (nI s) (nI s)
      rw [hsi] at hRR
      have hLs := hL.2 s (by omega)
      have hl0 : ¬ ltr L T s < 0 := by
        unfold ltr
        rw [if_pos (by omega), lt_t]
        have t0 : (0 : Int32).toInt = 0 := rfl
        omega
      have key := clause_step hL hc (hm.at (nI s)) ha (by rw [su_s, upd_s]) (by omega) hss hRR
      have hC : f_X6_read_10_b33 (n1 + 1) (nI i) F = (f_X6_readClause_10 F).bind fun q6 => (f_X6_skipBlanks_10 q6).bind fun q8 => f_X6_read_10_b33 n1 (nI (i + 1)) q8 := by
        rw [b33_s]
        unfold f_X6_read_10_b33s
        rw [show (240 : Int32) = nI 240 from rfl, if_neg (nI_ge (b := 240) (by omega) (by omega)), if_pos hR.2.2.2.2.1, hc.1, ha, if_neg (nI_ge (by omega) (by omega)), nI_1]
      have hM : f_X12_house_b32 (n2 + 1) 0 G = (f_X12_takeClause (su G 0 12 (nI s))).bind fun q11 => f_X12_house_b32 n2 q11.1 q11.2 := by
        rw [b32_s]
        unfold f_X12_house_b32s
        rw [if0, bind_e hh]
        dsimp only
        rw [if_neg hl0]
      rw [hC, hM]
      rcases key with ⟨rw', e, F1, G1, q1, q2, q3, q4, q5, q6, q7, q8, q9, q10⟩ | ⟨c, F1, G1, q1, q2, q3, q4, q5, q6, q7, q8⟩
      · have hc1 := hc.fr q9
        have hm1 := (hm.at (nI s)).fr q10
        have he := sk_bd (L := L) q2
        rw [bind_e q3, bind_e (c_skip hL hc1 q5 q2), bind_e q4]
        refine ih n1 n2 (i + 1) e rw' _ G1 (by omega) (by omega) (by omega) (by omega) (hc1.at _) hm1 (by rw [su_s, upd_s]) q6 q2 ?_ (fun k hk => ?_) ((hg.trans (FRm.slot (by omega))).trans q10)
        · have := q8.at (nI (sk L T e)) (nI e)
          rwa [← q6, su_self] at this
        · rw [su_r (by omega), q9 k hk, hf k hk]
      · obtain ⟨F2, u1, u2⟩ := q_skip F1
        obtain ⟨n1', rfl⟩ : ∃ m, n1 = m + 1 := ⟨n1 - 1, by omega⟩
        obtain ⟨n2', rfl⟩ : ∃ m, n2 = m + 1 := ⟨n2 - 1, by omega⟩
        rw [bind_e q3, bind_e u1, bind_e q4, rb33_c (by rw [u2.2.1, q5]; exact nI_ne0 q1 (by omega)), hb32_c (nI_ne0 q1 (by omega))]
        exact ⟨c, F2, G1, q2, rfl, rfl, fun k hk => by rw [u2.1 k hk, q7 k hk, hf k hk], (hg.trans (FRm.slot (by omega))).trans q8, Or.inr ⟨q1, by rw [u2.2.1, q5], by rw [u2.2.2, q6]⟩⟩
end LP
