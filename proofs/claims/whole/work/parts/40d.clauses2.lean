section CM
variable {T : Nat} {L : Nat → Int32}
theorem c_addWitness {f : St} {rn : Nat} (h : f 11 3 = nI rn) (hr : rn < 7) (u v w : Int32) : f_X5_addWitness_11 u v w f = some (su (su (su (su f 15 rn u) 16 rn v) 17 rn w) 11 3 (nI (rn + 1))) := by
  unfold f_X5_addWitness_11
  rw [h, bind_e (put_n (ka := 15) (f := f) (v := u) hr (by omega)), su_r (k := 15) (k' := 11) (by omega), h, bind_e (put_n (ka := 16) (v := v) hr (by omega)), su_r (k := 16) (k' := 11) (by omega), su_r (k := 15) (k' := 11) (by omega), h, bind_e (put_n (ka := 17) (v := w) hr (by omega)), su_r (k := 17) (k' := 11) (by omega), su_r (k := 16) (k' := 11) (by omega), su_r (k := 15) (k' := 11) (by omega), h, nI_1]
theorem witness_clause (hL : LOK T L) {f g : St} {a rw rn : Nat} (hc : TXc T L f) (hm : TXm T L g) (ha : f 10 4 = nI a) (hb : g 0 12 = nI a) (haT : a ≤ T) (h0 : 0 < rw) (h1 : RW rw f g) (h2 : ∃ rs, RS rs f g) (h3 : RN rw rn f g) (h4 : RD f g) (h5 : RF f g) (hrn : rn < 7) (p : Int32) : OUT T a (f_X6_readWitness_10 p f) ((f_X12_takeWitness g).bind fun q => f_X12_takeClause_b211 q.1 q.2) f g := by
  obtain ⟨rs, h2⟩ := h2
  have e1 := h3.1
  have e2 := h3.2.1
  have hrw := h1.2.2.1
  unfold f_X6_readWitness_10 f_X12_takeWitness f_X12_takeWitness_b50
  rw [e1, e2, show (7 : Int32) = nI 7 from rfl, if_pos (nI_lt (b := 7) hrn (by omega)), nI_1, show su g 0 21 (nI (rn + 1)) 0 15 = nI rw by rw [su_s, upd_n (by omega)]; exact h1.2.1, h1.1, show (30 : Int32) = nI 30 from rfl, show (2 : Int32) = nI 2 from rfl]
  have hm0 : TXm T L (su g 0 21 (nI (rn + 1))) := ⟨hm.1, hm.2⟩
  rcases into_step hL hc hm0 ha (by rw [su_s, upd_n (by omega)]; exact hb) haT h5.1 (P := rw) (ka := 10) (na := 7) (i := rn) (by omega) (by omega) hrn (by omega) with ⟨e, v, g1, q1, q2, q3, q4, q5, q6, q7, q8, q9⟩ | ⟨c, x, f1, g1, q1, q2, q3, q4, q5, q6, q7, q8, q9⟩
  · have g1k : ∀ k, k ≠ 0 → k ≠ 10 → g1 k = g k := fun k a b => by rw [q8 k a b, su_r a]
    have g1j : ∀ j, j ≠ 12 → j ≠ 13 → j ≠ 14 → j ≠ 21 → g1 0 j = g 0 j := fun j a b c d => by rw [q9 j a b c, su_s, upd_n d]
    have g10 : g1 10 = upd (g 10) rn (nI v) := by rw [q7, su_r (by omega)]
    have g121 : g1 0 21 = nI (rn + 1) := by rw [q9 21 (by omega) (by omega) (by omega), su_s, upd_s]
    rw [bind_e q4, bind_e q5]
    dsimp only
    rw [if_pos (show (0 : Int32) ≤ 0 by decide)]
    rcases into_step hL (f := su f 10 4 (nI e)) (g := g1) ⟨hc.1, hc.2⟩ ⟨by rw [g1j 10 (by omega) (by omega) (by omega) (by omega)]; exact hm.1, by rw [g1k 6 (by omega) (by omega)]; exact hm.2⟩ (by rw [su_s, upd_s]) q6 q2 (by rw [su_s, upd_n (by omega)]; exact h5.1) (P := 30) (ka := 11) (na := 7) (i := rn) (by omega) (by omega) hrn (by omega) with ⟨e', v', g2, r1, r2, r3, r4, r5, r6, r7, r8, r9⟩ | ⟨c, x, f2, g2, r1, r2, r3, r4, r5, r6, r7, r8, r9⟩
    · rw [su_su] at r4
      have g2k : ∀ k, k ≠ 0 → k ≠ 10 → k ≠ 11 → g2 k = g k := fun k a b c => by rw [r8 k a c, g1k k a b]
      have g2j : ∀ j, j ≠ 12 → j ≠ 13 → j ≠ 14 → j ≠ 21 → g2 0 j = g 0 j := fun j a b c d => by rw [r9 j a b c, g1j j a b c d]
      have g221 : g2 0 21 = nI (rn + 1) := by rw [r9 21 (by omega) (by omega) (by omega), g121]
      rw [bind_e r4, bind_e r5]
      dsimp only
      rw [if_pos (show (0 : Int32) ≤ 0 by decide)]
      rcases into_step hL (f := su f 10 4 (nI e')) (g := g2) ⟨hc.1, hc.2⟩ ⟨by rw [g2j 10 (by omega) (by omega) (by omega) (by omega)]; exact hm.1, by rw [g2k 6 (by omega) (by omega) (by omega)]; exact hm.2⟩ (by rw [su_s, upd_s]) r6 r2 (by rw [su_s, upd_n (by omega)]; exact h5.1) (P := 2) (ka := 12) (na := 7) (i := rn) (by omega) (by omega) hrn (by omega) with ⟨e'', v'', g3, s1, s2, s3, s4, s5, s6, s7, s8, s9⟩ | ⟨c, x, f3, g3, s1, s2, s3, s4, s5, s6, s7, s8, s9⟩
      · rw [su_su] at s4
        have g3k : ∀ k, k ≠ 0 → k ≠ 10 → k ≠ 11 → k ≠ 12 → g3 k = g k := fun k a b c d => by rw [s8 k a d, g2k k a b c]
        have g3j : ∀ j, j ≠ 12 → j ≠ 13 → j ≠ 14 → j ≠ 21 → g3 0 j = g 0 j := fun j a b c d => by rw [s9 j a b c, g2j j a b c d]
        have tv' := nI_toInt (n := v') (by omega)
        rw [bind_e s4, bind_e s5]
        dsimp only
        rw [bind_e (c_addWitness (f := su f 10 4 (nI e'')) (rn := rn) (by rw [su_r (by omega)]; exact e1) hrn (nI v) (nI v') (nI v''))]
        have key := fin_step hL (f := f) (g := g) (f2 := su (su (su (su (su f 10 4 (nI e'')) 15 rn (nI v)) 16 rn (nI v')) 17 rn (nI v'')) 11 3 (nI (rn + 1))) (g2 := g3) (a := a) (e := e'') (rw := rw) ⟨hc.1, hc.2⟩ ⟨by rw [g3j 10 (by omega) (by omega) (by omega) (by omega)]; exact hm.1, by rw [g3k 6 (by omega) (by omega) (by omega) (by omega)]; exact hm.2⟩ (by simp [su, upd]) s6 s2 (by omega) h0 ⟨h1.mv (by simp [su, upd]) (by simp [su, upd]) (g3j 15 (by omega) (by omega) (by omega) (by omega)) (g3k 7 (by omega) (by omega) (by omega) (by omega)), ⟨rs, h2.mv (by simp [su, upd]) (by simp [su, upd]) (by simp [su, upd]) (g3j 18 (by omega) (by omega) (by omega) (by omega)) (g3k 8 (by omega) (by omega) (by omega) (by omega)) (g3k 9 (by omega) (by omega) (by omega) (by omega))⟩, ⟨rn + 1, by simp [su, upd], by rw [s9 21 (by omega) (by omega) (by omega), g221], by omega, fun i hi => ?_⟩, h4.mv (by simp [su, upd]) (by simp [su, upd]) (g3j 17 (by omega) (by omega) (by omega) (by omega)), h5.mv (by simp [su, upd]) (by simp [su, upd]) (g3j 11 (by omega) (by omega) (by omega) (by omega))⟩ (fun k hk => by rw [su_r (by omega), su_r (by omega), su_r (by omega), su_r (by omega), su_r (by omega)]) ⟨fun k k1 k2 => g3k k k1 (by omega) (by omega) (by omega), fun j j1 j2 j3 j4 j5 j6 j7 j8 => g3j j j2 j3 j4 j8⟩
        · rw [bind_id]
          exact key
        · rw [s8 10 (by omega) (by omega), r8 10 (by omega) (by omega), g10, s8 11 (by omega) (by omega), r7, g1k 11 (by omega) (by omega), s7, g2k 12 (by omega) (by omega) (by omega), show su (su (su (su (su f 10 4 (nI e'')) 15 rn (nI v)) 16 rn (nI v')) 17 rn (nI v'')) 11 3 (nI (rn + 1)) 15 = upd (f 15) rn (nI v) by rw [su_r (by omega), su_r (by omega), su_r (by omega), su_s, su_r (by omega)], show su (su (su (su (su f 10 4 (nI e'')) 15 rn (nI v)) 16 rn (nI v')) 17 rn (nI v'')) 11 3 (nI (rn + 1)) 16 = upd (f 16) rn (nI v') by rw [su_r (by omega), su_r (by omega), su_s, su_r (by omega), su_r (by omega)], show su (su (su (su (su f 10 4 (nI e'')) 15 rn (nI v)) 16 rn (nI v')) 17 rn (nI v'')) 11 3 (nI (rn + 1)) 17 = upd (f 17) rn (nI v'') by rw [su_r (by omega), su_s, su_r (by omega), su_r (by omega), su_r (by omega)]]
          by_cases ei : i = rn
          · subst ei
            rw [upd_s, upd_s, upd_s, upd_s, upd_s, upd_s, tv']
            exact ⟨rfl, rfl, rfl, ⟨v, q3, rfl⟩, ⟨by omega, by omega⟩, v'', s3, rfl⟩
          · rw [upd_n ei, upd_n ei, upd_n ei, upd_n ei, upd_n ei, upd_n ei]
            exact h3.2.2.2 i (by omega)
      · rw [bind_e s3, bind_e s4]
        dsimp only
        obtain ⟨f4, u1, u2⟩ := q_addWitness (nI v) (nI v') x f3
        obtain ⟨f5, u3, u4⟩ := q_end (f := f4) (by rw [u2.2.1]; exact nIne s1 s2 s5)
        rw [bind_e u1, bind_e u3]
        exact OUT.bad s1 s2 rfl rfl (f1 := f3) (g1 := g3) s5 s6 (u2.trans u4) (fun k hk => by rw [s7 k (by omega), su_r (by omega)]) ⟨fun k k1 k2 => by rw [s8 k k1 (by omega), g2k k k1 (by omega) (by omega)], fun j j1 j2 j3 j4 j5 j6 j7 j8 => by rw [s9 j j1 j2 j3 j4, g2j j j2 j3 j4 j8]⟩
    · rw [bind_e r3, bind_e r4]
      dsimp only
      rw [if_neg (nlt0 r1 (by omega))]
      obtain ⟨y, f3, u1, u2⟩ := q_num (f := f2) (nIne r1 r2 r5) (nI 2)
      obtain ⟨f4, u3, u4⟩ := q_addWitness (nI v) x y f3
      obtain ⟨f5, u5, u6⟩ := q_end (f := f4) (by rw [u4.2.1, u2.2.1]; exact nIne r1 r2 r5)
      rw [bind_e u1]
      dsimp only
      rw [bind_e u3, bind_e u5]
      exact OUT.bad r1 r2 rfl rfl (f1 := f2) (g1 := g2) r5 r6 ((u2.trans u4).trans u6) (fun k hk => by rw [r7 k (by omega), su_r (by omega)]) ⟨fun k k1 k2 => by rw [r8 k k1 (by omega), g1k k k1 (by omega)], fun j j1 j2 j3 j4 j5 j6 j7 j8 => by rw [r9 j j1 j2 j3 j4, g1j j j2 j3 j4 j8]⟩
  · rw [bind_e q3, bind_e q4]
    dsimp only
    rw [if_neg (nlt0 q1 (by omega)), if_neg (nlt0 q1 (by omega))]
    obtain ⟨y, f2, u1, u2⟩ := q_num (f := f1) (nIne q1 q2 q5) (nI 30)
    obtain ⟨z, f3, u3, u4⟩ := q_num (f := f2) (by rw [u2.2.1]; exact nIne q1 q2 q5) (nI 2)
    obtain ⟨f4, u5, u6⟩ := q_addWitness x y z f3
    obtain ⟨f5, u7, u8⟩ := q_end (f := f4) (by rw [u6.2.1, u4.2.1, u2.2.1]; exact nIne q1 q2 q5)
    rw [bind_e u1]
    dsimp only
    rw [bind_e u3]
    dsimp only
    rw [bind_e u5, bind_e u7]
    exact OUT.bad q1 q2 rfl rfl (f1 := f1) (g1 := g1) q5 q6 (((u2.trans u4).trans u6).trans u8) (fun k hk => q7 k (by omega)) ⟨fun k k1 k2 => by rw [q8 k k1 (by omega), su_r k1], fun j j1 j2 j3 j4 j5 j6 j7 j8 => by rw [q9 j j1 j2 j3 j4, su_s, upd_n j8]⟩
theorem c_addWall {f : St} {rw : Nat} (h : f 11 0 = nI rw) (hr : rw < 8) (u : Int32) : f_X5_addWall_11 u f = some (su (su f 12 rw u) 11 0 (nI (rw + 1))) := by
  unfold f_X5_addWall_11
  rw [h, bind_e (put_n (ka := 12) (f := f) (v := u) hr (by omega)), su_r (k := 12) (k' := 11) (by omega), h, nI_1]
theorem wall_add (hL : LOK T L) {f g g' : St} {e v rw : Nat} (hR : RR rw f g) (hr : rw < 8) (hv : v ≤ 20) (q6 : g' 0 12 = nI e) (q7 : g' 7 = upd (g 7) rw (nI v)) (q8 : ∀ k, k ≠ 0 → k ≠ 7 → g' k = g k) (q9 : ∀ j, j ≠ 12 → j ≠ 13 → j ≠ 14 → g' 0 j = g 0 j) : RR (rw + 1) (su (su (su f 10 4 (nI e)) 12 rw (nI v)) 11 0 (nI (rw + 1))) (su g' 0 15 (nI (rw + 1))) := by
  obtain ⟨h1, ⟨rs, h2⟩, ⟨rn, h3⟩, h4, h5⟩ := hR
  have tv := nI_toInt (n := v) (by omega)
  have gk : ∀ k, k ≠ 0 → k ≠ 7 → su g' 0 15 (nI (rw + 1)) k = g k := fun k a b => by rw [su_r a, q8 k a b]
  have gj : ∀ j, j ≠ 12 → j ≠ 13 → j ≠ 14 → j ≠ 15 → su g' 0 15 (nI (rw + 1)) 0 j = g 0 j := fun j a b c d => by rw [su_s, upd_n d, q9 j a b c]
  refine ⟨⟨by simp [su, upd], by rw [su_s, upd_s], by omega, fun i hi => ?_⟩, ⟨rs, h2.mv (by simp [su, upd]) (by simp [su, upd]) (by simp [su, upd]) (gj 18 (by omega) (by omega) (by omega) (by omega)) (gk 8 (by omega) (by omega)) (gk 9 (by omega) (by omega))⟩, ⟨rn, h3.mv (by omega) (by simp [su, upd]) (by simp [su, upd]) (by simp [su, upd]) (by simp [su, upd]) (gj 21 (by omega) (by omega) (by omega) (by omega)) (gk 10 (by omega) (by omega)) (gk 11 (by omega) (by omega)) (gk 12 (by omega) (by omega))⟩, h4.mv (by simp [su, upd]) (by simp [su, upd]) (gj 17 (by omega) (by omega) (by omega) (by omega)), h5.mv (by simp [su, upd]) (by simp [su, upd]) (gj 11 (by omega) (by omega) (by omega) (by omega))⟩
  rw [su_r (k := 0) (k' := 7) (by omega), q7, show su (su (su f 10 4 (nI e)) 12 rw (nI v)) 11 0 (nI (rw + 1)) 12 = upd (f 12) rw (nI v) by rw [su_r (by omega), su_s, su_r (by omega)]]
  by_cases ei : i = rw
  · subst ei
    rw [upd_s, upd_s, tv]
    exact ⟨rfl, by omega, by omega⟩
  · rw [upd_n ei, upd_n ei]
    exact h1.2.2.2 i (by omega)
end CM
