section CW
variable {T : Nat} {L : Nat → Int32}
theorem q_walls {f : St} (h : ¬ f 10 2 = 0) (n : Nat) (i : Int32) : ∃ f', f_X6_readWalls_10_b36 (n + 1) i f = some f' ∧ FQ f f' := by
  obtain ⟨f', u1, u2⟩ := q_end h
  simp only [f_X6_readWalls_10_b36, f_X6_readWalls_10_b36s, f_X6_readWalls_10_b98]
  rw [u1, Option.bind_some, if_neg h]
  exact ⟨f', by split <;> rfl, u2⟩
theorem m_18c {c n : Nat} (h0 : 0 < c) (h3 : c ≤ 3) (g : St) : f_X12_takeWalls_b18 (n + 1) (nI c) g = some (nI c, g) := by
  simp only [f_X12_takeWalls_b18, f_X12_takeWalls_b18s, f_X12_takeWalls_b89]
  rw [if_neg (nI_ne0 h0 (by omega))]
theorem m_211n (hL : LOK T L) {g : St} (hm : TXm T L g) {s : Nat} (hb : g 0 12 = nI s) (hs : s ≤ T) (hss : sk L T s = s) (hl : ¬ ltr L T s = 59) : f_X12_takeClause_b211 (0 : Int32) g = some (1, su g 0 11 (nI s)) := by
  unfold f_X12_takeClause_b211 f_X12_fails
  rw [if_pos rfl, bind_e (m_here hL hm hb hs), hss, ← hb, su_self]
  dsimp only
  rw [if_neg hl]
  rfl
theorem walls_loop (hL : LOK T L) {a0 : Nat} {f0 g0 : St} : ∀ (d n1 n2 i a : Nat) (f g : St), i + d = 8 → d < n1 → d + 1 < n2 → 0 < i → TXc T L f → TXm T L g → f 10 4 = nI (sk L T a) → g 0 12 = nI a → a ≤ T → a0 ≤ a → RR i f g → FRc f0 f → FRm g0 g → OUT T a0 (f_X6_readWalls_10_b36 n1 (nI i) f) ((f_X12_takeWalls_b18 n2 (0 : Int32) g).bind fun q => f_X12_takeClause_b211 q.1 q.2) f0 g0 := by
  intro d
  induction d with
  | zero =>
    intro n1 n2 i a f g h1 h2 h3 hi hc hm ha hb haT ha0 hR hf hg
    obtain ⟨n1, rfl⟩ : ∃ m, n1 = m + 1 := ⟨n1 - 1, by omega⟩
    obtain ⟨n2, rfl⟩ : ∃ m, n2 = m + 1 := ⟨n2 - 1, by omega⟩
    have hT := hL.1
    have hs := sk_bd (L := L) haT
    have hss := sk_sk (L := L) haT
    have h8 : i = 8 := by omega
    simp only [f_X6_readWalls_10_b36, f_X6_readWalls_10_b36s, f_X6_readWalls_10_b98, f_X12_takeWalls_b18, f_X12_takeWalls_b18s, f_X12_takeWalls_b89]
    rw [show (8 : Int32) = nI 8 from rfl, if_pos (nI_le (a := 8) (by omega) (by omega)), bind_id, if_true, bind_e (m_here hL hm hb haT)]
    dsimp only
    generalize sk L T a = s at *
    have hg1 : FRm g0 (su g 0 12 (nI s)) := hg.trans (FRm.slot (Or.inr (Or.inl rfl)))
    have hm1 : TXm T L (su g 0 12 (nI s)) := hm.at _
    by_cases e : ltr L T s = 44
    · rw [if_pos e, if_pos (show su g 0 12 (nI s) 0 15 = nI 8 by rw [su_s, upd_n (by omega), ← h8]; exact hR.1.2.1), show su g 0 12 (nI s) 0 12 = nI s by rw [su_s, upd_s]]
      have hbad := m_211n hL hm1 (s := s) (by rw [su_s, upd_s]) hs.2.1 hss (by rw [e]; decide)
      rcases end_step hL hc hm1 ha (by rw [su_s, upd_s]) hs.2.1 hR.2.2.2.2.1 with ⟨e', q1, q2, q3, q4⟩ | ⟨f', g', q1, q2, q3, q4, q5, q6⟩
      · rw [hbad] at q4
        injection q4 with q4
        injection q4 with q4 q5
        exact absurd q4 (by decide)
      · rw [hbad] at q2
        injection q2 with q2
        injection q2 with q2 q7
        unfold f_X12_fails
        exact OUT.bad (c := 1) (f1 := f') (g1 := su (su g 0 12 (nI s)) 0 11 (nI s)) (by omega) (by omega) q1 rfl q3 (by rw [q4, ← q7]) FQ.refl (hf.trans q5) (hg1.trans (FRm.slot (Or.inl rfl)))
    · rw [if_neg e]
      have hsi : su f 10 4 (nI s) = f := by rw [← ha, su_self]
      have hRR := hR.at (nI s) (nI s)
      rw [hsi] at hRR
      exact fin_step hL (g2 := su g 0 12 (nI s)) hc hm1 ha (by rw [su_s, upd_s]) hs.2.1 (by omega) hi hRR hf hg1
  | succ d ih =>
    intro n1 n2 i a f g h1 h2 h3 hi hc hm ha hb haT ha0 hR hf hg
    obtain ⟨n1, rfl⟩ : ∃ m, n1 = m + 1 := ⟨n1 - 1, by omega⟩
    obtain ⟨n2, rfl⟩ : ∃ m, n2 = m + 1 := ⟨n2 - 1, by omega⟩
    have hT := hL.1
    have hs := sk_bd (L := L) haT
    have hss := sk_sk (L := L) haT
    simp only [f_X6_readWalls_10_b36, f_X6_readWalls_10_b36s, f_X6_readWalls_10_b98, f_X12_takeWalls_b18, f_X12_takeWalls_b18s, f_X12_takeWalls_b89]
    rw [show (8 : Int32) = nI 8 from rfl, if_neg (nI_ge (b := 8) (by omega) (by omega)), if_pos hR.2.2.2.2.1, bind_id, if_true, bind_e (m_here hL hm hb haT)]
    dsimp only
    generalize sk L T a = s at *
    have hg1 : FRm g0 (su g 0 12 (nI s)) := hg.trans (FRm.slot (Or.inr (Or.inl rfl)))
    have hm1 : TXm T L (su g 0 12 (nI s)) := hm.at _
    have hsi : su f 10 4 (nI s) = f := by rw [← ha, su_self]
    rw [ha, bind_e (c_letter hL hc (show s < 2 ^ 31 by omega))]
    by_cases e : ltr L T s = 44
    · have hsT : s < T := by
        by_cases x : s < T
        · exact x
        · unfold ltr at e
          rw [if_neg x] at e
          exact absurd e (by decide)
      rw [if_pos e, if_pos e, if_neg (show ¬ su g 0 12 (nI s) 0 15 = nI 8 by rw [su_s, upd_n (by omega), hR.1.2.1]; exact fun x => by have := (nI_eq (by omega) (by omega)).mp x; omega), show su g 0 12 (nI s) 0 12 = nI s by rw [su_s, upd_s], su_su, nI_1, show su g 0 12 (nI (s + 1)) 0 15 = nI i by rw [su_s, upd_n (by omega)]; exact hR.1.2.1, show (20 : Int32) = nI 20 from rfl]
      have hR1 := hR.at (nI (s + 1)) (nI (s + 1))
      rcases into_step hL (f := su f 10 4 (nI (s + 1))) (g := su g 0 12 (nI (s + 1))) (hc.at _) (hm.at _) (by rw [su_s, upd_s]) (by rw [su_s, upd_s]) (show s + 1 ≤ T by omega) hR1.2.2.2.2.1 (P := 20) (ka := 7) (na := 8) (i := i) (by omega) (by omega) (by omega) (by omega) with ⟨e1, v, g1, q1, q2, q3, q4, q5, q6, q7, q8, q9⟩ | ⟨c, x, f1, g1, q1, q2, q3, q4, q5, q6, q7, q8, q9⟩
      · rw [su_su] at q4
        have hadd := wall_add hL (e := e1) hR1 (show i < 8 by omega) q3 q6 q7 q8 q9
        rw [su_su] at hadd
        have hcF : TXc T L (su (su (su f 10 4 (nI e1)) 12 i (nI v)) 11 0 (nI (i + 1))) := ⟨hc.1, hc.2⟩
        rw [bind_e q4, bind_e q5]
        dsimp only
        rw [bind_e (c_addWall (f := su f 10 4 (nI e1)) (rw := i) (by rw [su_r (by omega)]; exact hR.1.1) (by omega) (nI v)), bind_e (c_skip hL hcF (a := e1) (by simp [su, upd]) q2), nI_1, show g1 0 15 = nI i by rw [q9 15 (by omega) (by omega) (by omega), su_s, upd_n (by omega)]; exact hR.1.2.1, nI_1]
        have hR2 := hadd.at (nI (sk L T e1)) (nI e1)
        have hg2e : su (su g1 0 15 (nI (i + 1))) 0 12 (nI e1) = su g1 0 15 (nI (i + 1)) := by
          have : su g1 0 15 (nI (i + 1)) 0 12 = nI e1 := by rw [su_s, upd_n (by omega)]; exact q6
          rw [← this, su_self]
        rw [hg2e] at hR2
        refine ih n1 n2 (i + 1) e1 _ _ (by omega) (by omega) (by omega) (by omega) (hcF.at _) ⟨?_, ?_⟩ (by rw [su_s, upd_s]) (by rw [su_s, upd_n (by omega)]; exact q6) q2 (by omega) hR2 (fun k hk => ?_) (hg.trans ⟨fun k k1 k2 => ?_, fun j j1 j2 j3 j4 j5 j6 j7 j8 => ?_⟩)
        · rw [su_s, upd_n (by omega), q9 10 (by omega) (by omega) (by omega)]; exact hm.1
        · rw [su_r (by omega), q8 6 (by omega) (by omega)]; exact hm.2
        · rw [su_r (by omega), su_r (by omega), su_r (by omega), su_r (by omega), hf k hk]
        · rw [su_r k1, q8 k k1 (by omega), su_r k1]
        · rw [su_s, upd_n j5, q9 j j2 j3 j4, su_s, upd_n j2]
      · rw [bind_e q3, bind_e q4]
        dsimp only
        obtain ⟨f2, u1, u2⟩ := q_addWall x f1
        obtain ⟨f3, u3, u4⟩ := q_skip f2
        obtain ⟨n1', rfl⟩ : ∃ m, n1 = m + 1 := ⟨n1 - 1, by omega⟩
        obtain ⟨n2', rfl⟩ : ∃ m, n2 = m + 1 := ⟨n2 - 1, by omega⟩
        obtain ⟨f4, u5, u6⟩ := q_walls (f := f3) (by rw [u4.2.1, u2.2.1]; exact nIne q1 q2 q5) n1' (nI i + 1)
        rw [bind_e u1, bind_e u3, u5, m_18c q1 q2, Option.bind_some]
        exact OUT.bad q1 q2 rfl rfl (f1 := f1) (g1 := su g1 0 15 (g1 0 15 + 1)) q5 (by rw [q6, su_s, upd_n (by omega)]) ((u2.trans u4).trans u6) (fun k hk => by rw [q7 k (by omega), su_r (by omega), hf k hk]) (hg.trans ⟨fun k k1 k2 => by rw [su_r k1, q8 k k1 (by omega), su_r k1], fun j j1 j2 j3 j4 j5 j6 j7 j8 => by rw [su_s, upd_n j5, q9 j j1 j2 j3 j4, su_s, upd_n j2]⟩)
    · rw [if_neg e, if_neg e]
      have hRR := hR.at (nI s) (nI s)
      rw [hsi] at hRR
      exact fin_step hL (g2 := su g 0 12 (nI s)) hc hm1 ha (by rw [su_s, upd_s]) hs.2.1 (by omega) hi hRR hf hg1
theorem walls_clause (hL : LOK T L) {f g : St} {a : Nat} (hc : TXc T L f) (hm : TXm T L g) (ha : f 10 4 = nI a) (hb : g 0 12 = nI a) (haT : a ≤ T) (hR : RR 0 f g) (p : Int32) : OUT T a (f_X6_readWalls_10 p f) ((f_X12_takeWalls g).bind fun q => f_X12_takeClause_b211 q.1 q.2) f g := by
  have hT := hL.1
  have hst : f_X5_stands_11 f = some 0 := by
    unfold f_X5_stands_11
    rw [hR.1.1, if_pos (show nI 0 ≤ (0 : Int32) by decide)]
  rcases into_step hL hc hm ha hb haT hR.2.2.2.2.1 (P := 20) (ka := 7) (na := 8) (i := 0) (by omega) (by omega) (by omega) (by omega) with ⟨e1, v, g1, q1, q2, q3, q4, q5, q6, q7, q8, q9⟩ | ⟨c, x, f1, g1, q1, q2, q3, q4, q5, q6, q7, q8, q9⟩
  · have hadd := wall_add hL (e := e1) hR (by omega) q3 q6 q7 q8 q9
    have hcF : TXc T L (su (su (su f 10 4 (nI e1)) 12 0 (nI v)) 11 0 (nI 1)) := ⟨hc.1, hc.2⟩
    have hR2 := hadd.at (nI (sk L T e1)) (nI e1)
    have hg2e : su (su g1 0 15 (nI 1)) 0 12 (nI e1) = su g1 0 15 (nI 1) := by
      have : su g1 0 15 (nI 1) 0 12 = nI e1 := by rw [su_s, upd_n (by omega)]; exact q6
      rw [← this, su_self]
    rw [Nat.zero_add, hg2e] at hR2
    have key := walls_loop hL (a0 := a) (f0 := f) (g0 := g) 7 fuB fuB 1 e1 _ _ (by omega) (by unfold fuB; omega) (by unfold fuB; omega) (by omega) (hcF.at _) ⟨by rw [su_s, upd_n (by omega), q9 10 (by omega) (by omega) (by omega)]; exact hm.1, by rw [su_r (by omega), q8 6 (by omega) (by omega)]; exact hm.2⟩ (by rw [su_s, upd_s]) (by rw [su_s, upd_n (by omega)]; exact q6) q2 (by omega) hR2 (fun k hk => by rw [su_r (by omega), su_r (by omega), su_r (by omega), su_r (by omega)]) ⟨fun k k1 k2 => by rw [su_r k1, q8 k k1 (by omega)], fun j j1 j2 j3 j4 j5 j6 j7 j8 => by rw [su_s, upd_n j5, q9 j j2 j3 j4]⟩
    have hC : f_X6_readWalls_10 p f = f_X6_readWalls_10_b36 fuB (nI 1) (su (su (su (su f 10 4 (nI e1)) 12 0 (nI v)) 11 0 (nI 1)) 10 4 (nI (sk L T e1))) := by
      unfold f_X6_readWalls_10
      generalize f_X6_readWalls_10_b36 fuB = K
      rw [bind_e hst, if0, show (20 : Int32) = nI 20 from rfl, bind_e q4]
      dsimp only
      rw [bind_e (c_addWall (f := su f 10 4 (nI e1)) (rw := 0) (by rw [su_r (by omega)]; exact hR.1.1) (by omega) (nI v)), bind_e (c_skip hL hcF (a := e1) (by simp [su, upd]) q2)]
      rfl
    have hM : f_X12_takeWalls g = f_X12_takeWalls_b18 fuB (0 : Int32) (su g1 0 15 (nI 1)) := by
      unfold f_X12_takeWalls
      generalize f_X12_takeWalls_b18 fuB = K
      rw [show (20 : Int32) = nI 20 from rfl, bind_e (show f_X12_into 7 8 (0 : Int32) (0 : Int32) (nI 20) g = some (0, g1) from q5)]
      rfl
    rw [hC, hM]
    exact key
  · obtain ⟨f2, u1, u2⟩ := q_addWall x f1
    obtain ⟨f3, u3, u4⟩ := q_skip f2
    obtain ⟨f4, u5, u6⟩ := q_walls (f := f3) (by rw [u4.2.1, u2.2.1]; exact nIne q1 q2 q5) 999 (1 : Int32)
    have hC : f_X6_readWalls_10 p f = some f4 := by
      unfold f_X6_readWalls_10
      rw [show f_X6_readWalls_10_b36 fuB = f_X6_readWalls_10_b36 (999 + 1) by unfold fuB; rfl]
      generalize f_X6_readWalls_10_b36 (999 + 1) = K at u5 ⊢
      rw [bind_e hst, if0, show (20 : Int32) = nI 20 from rfl, bind_e q3]
      dsimp only
      rw [bind_e u1, bind_e u3, u5]
    have hM : f_X12_takeWalls g = some (nI c, su g1 0 15 1) := by
      have hx := m_18c (n := 999) q1 q2 (su g1 0 15 1)
      unfold f_X12_takeWalls
      rw [show f_X12_takeWalls_b18 fuB = f_X12_takeWalls_b18 (999 + 1) by unfold fuB; rfl]
      generalize f_X12_takeWalls_b18 (999 + 1) = K at hx ⊢
      rw [show (20 : Int32) = nI 20 from rfl, bind_e (show f_X12_into 7 8 (0 : Int32) (0 : Int32) (nI 20) g = some (nI c, g1) from q4)]
      exact hx
    rw [hC, hM, Option.bind_some]
    exact OUT.bad q1 q2 rfl rfl (f1 := f1) (g1 := su g1 0 15 1) q5 (by rw [q6, su_s, upd_n (by omega)]) ((u2.trans u4).trans u6) (fun k hk => q7 k (by omega)) ⟨fun k k1 k2 => by rw [su_r k1, q8 k k1 (by omega)], fun j j1 j2 j3 j4 j5 j6 j7 j8 => by rw [su_s, upd_n j5, q9 j j1 j2 j3 j4]⟩
end CW
