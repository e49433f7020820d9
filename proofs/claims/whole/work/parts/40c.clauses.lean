/-! Clauses -/
def RW (rw : Nat) (f g : St) : Prop := f 11 0 = nI rw ∧ g 0 15 = nI rw ∧ rw ≤ 8 ∧ ∀ i, i < rw → f 12 i = g 7 i ∧ 0 ≤ (g 7 i).toInt ∧ (g 7 i).toInt ≤ 20
def RS (rs : Nat) (f g : St) : Prop := f 11 2 = nI rs ∧ g 0 18 = nI rs ∧ rs ≤ 6 ∧ ∀ i, i < rs → f 13 i = g 8 i ∧ f 14 i = g 9 i ∧ (0 ≤ (g 8 i).toInt ∧ (g 8 i).toInt ≤ 60) ∧ 0 ≤ (g 9 i).toInt ∧ (g 9 i).toInt ≤ 9
def RN (rw rn : Nat) (f g : St) : Prop := f 11 3 = nI rn ∧ g 0 21 = nI rn ∧ rn ≤ 7 ∧ ∀ i, i < rn → f 15 i = g 10 i ∧ f 16 i = g 11 i ∧ f 17 i = g 12 i ∧ (∃ x, x ≤ rw ∧ g 10 i = nI x) ∧ (0 ≤ (g 11 i).toInt ∧ (g 11 i).toInt ≤ 30) ∧ ∃ y, y ≤ 2 ∧ g 12 i = nI y
def RD (f g : St) : Prop := (f 10 5 = 0 ∧ g 0 17 = -1 ∧ f 11 1 = 0) ∨ (f 10 5 = 1 ∧ ∃ b, b ≤ 18 ∧ g 0 17 = nI b ∧ f 11 1 = nI b - 9)
def RF (f g : St) : Prop := f 10 2 = 0 ∧ f 10 3 = -1 ∧ g 0 11 = -1
theorem RW.mv {rw : Nat} {f g f' g' : St} (h : RW rw f g) (e1 : f' 11 0 = f 11 0) (e2 : f' 12 = f 12) (e3 : g' 0 15 = g 0 15) (e4 : g' 7 = g 7) : RW rw f' g' := by
  unfold RW at h ⊢
  rw [e1, e2, e3, e4]; exact h
theorem RS.mv {rs : Nat} {f g f' g' : St} (h : RS rs f g) (e1 : f' 11 2 = f 11 2) (e2 : f' 13 = f 13) (e5 : f' 14 = f 14) (e3 : g' 0 18 = g 0 18) (e4 : g' 8 = g 8) (e6 : g' 9 = g 9) : RS rs f' g' := by
  unfold RS at h ⊢
  rw [e1, e2, e3, e4, e5, e6]; exact h
theorem RN.mv {rw rn rw' : Nat} {f g f' g' : St} (h : RN rw rn f g) (hrw : rw ≤ rw') (e1 : f' 11 3 = f 11 3) (e2 : f' 15 = f 15) (e5 : f' 16 = f 16) (e7 : f' 17 = f 17) (e3 : g' 0 21 = g 0 21) (e4 : g' 10 = g 10) (e6 : g' 11 = g 11) (e8 : g' 12 = g 12) : RN rw' rn f' g' := by
  unfold RN at h ⊢
  rw [e1, e2, e3, e4, e5, e6, e7, e8]
  obtain ⟨h1, h2, h3, h4⟩ := h
  refine ⟨h1, h2, h3, fun i hi => ?_⟩
  obtain ⟨a, b, c, ⟨x, hx, ex⟩, d⟩ := h4 i hi
  exact ⟨a, b, c, ⟨x, Nat.le_trans hx hrw, ex⟩, d⟩
theorem RD.mv {f g f' g' : St} (h : RD f g) (e1 : f' 10 5 = f 10 5) (e2 : f' 11 1 = f 11 1) (e3 : g' 0 17 = g 0 17) : RD f' g' := by
  unfold RD at h ⊢
  rw [e1, e2, e3]; exact h
theorem RF.mv {f g f' g' : St} (h : RF f g) (e1 : f' 10 2 = f 10 2) (e2 : f' 10 3 = f 10 3) (e3 : g' 0 11 = g 0 11) : RF f' g' := by
  unfold RF at h ⊢
  rw [e1, e2, e3]; exact h
def RR (rw : Nat) (f g : St) : Prop := RW rw f g ∧ (∃ rs, RS rs f g) ∧ (∃ rn, RN rw rn f g) ∧ RD f g ∧ RF f g
theorem RR.at {rw : Nat} {f g : St} (h : RR rw f g) (u v : Int32) : RR rw (su f 10 4 u) (su g 0 12 v) := by
  obtain ⟨h1, ⟨rs, h2⟩, ⟨rn, h3⟩, h4, h5⟩ := h
  have s1 : ∀ j, j ≠ 4 → su f 10 4 u 10 j = f 10 j := fun j hj => by rw [su_s, upd_n hj]
  have s0 : ∀ j, j ≠ 12 → su g 0 12 v 0 j = g 0 j := fun j hj => by rw [su_s, upd_n hj]
  have sk1 : ∀ k, k ≠ 10 → su f 10 4 u k = f k := fun k hk => su_r hk
  have sk0 : ∀ k, k ≠ 0 → su g 0 12 v k = g k := fun k hk => su_r hk
  exact ⟨h1.mv (by rw [sk1 11 (by omega)]) (sk1 12 (by omega)) (s0 15 (by omega)) (sk0 7 (by omega)), ⟨rs, h2.mv (by rw [sk1 11 (by omega)]) (sk1 13 (by omega)) (sk1 14 (by omega)) (s0 18 (by omega)) (sk0 8 (by omega)) (sk0 9 (by omega))⟩, ⟨rn, h3.mv (Nat.le_refl _) (by rw [sk1 11 (by omega)]) (sk1 15 (by omega)) (sk1 16 (by omega)) (sk1 17 (by omega)) (s0 21 (by omega)) (sk0 10 (by omega)) (sk0 11 (by omega)) (sk0 12 (by omega))⟩, h4.mv (s1 5 (by omega)) (by rw [sk1 11 (by omega)]) (s0 17 (by omega)), h5.mv (s1 2 (by omega)) (s1 3 (by omega)) (s0 11 (by omega))⟩
def OUT (T a : Nat) (C : Option St) (M : Option (Int32 × St)) (f g : St) : Prop := (∃ (rw e : Nat) (f' g' : St), a < e ∧ e ≤ T ∧ C = some f' ∧ M = some (0, g') ∧ f' 10 4 = nI e ∧ g' 0 12 = nI e ∧ 0 < rw ∧ RR rw f' g' ∧ FRc f f' ∧ FRm g g') ∨ (∃ (c : Nat) (f' g' : St), 0 < c ∧ c ≤ 3 ∧ C = some f' ∧ M = some (nI c, g') ∧ f' 10 2 = nI c ∧ f' 10 3 = g' 0 11 ∧ FRc f f' ∧ FRm g g')
theorem OUT.bad {T a c : Nat} {C : Option St} {M : Option (Int32 × St)} {f g f1 g1 f2 : St} (h0 : 0 < c) (h3 : c ≤ 3) (hC : C = some f2) (hM : M = f_X12_takeClause_b211 (nI c) g1) (hc : f1 10 2 = nI c) (hp : f1 10 3 = g1 0 11) (hq : FQ f1 f2) (hf : FRc f f1) (hg : FRm g g1) : OUT T a C M f g := by
  refine Or.inr ⟨c, f2, su g1 0 12 (g1 0 12 + 1), h0, h3, hC, by rw [hM, m_211 h0 h3], by rw [hq.2.1, hc], ?_, fun k hk => by rw [hq.1 k hk, hf k hk], hg.trans (FRm.slot (Or.inr (Or.inl rfl)))⟩
  rw [hq.2.2, hp, su_s, upd_n (by omega)]
section CL
variable {T : Nat} {L : Nat → Int32}
theorem fin_step (hL : LOK T L) {f g f2 g2 : St} {a e rw : Nat} (hc : TXc T L f2) (hm : TXm T L g2) (ha : f2 10 4 = nI e) (hb : g2 0 12 = nI e) (he : e ≤ T) (hae : a ≤ e) (h0 : 0 < rw) (hR : RR rw f2 g2) (hf : FRc f f2) (hg : FRm g g2) : OUT T a (f_X6_readEnd_10 f2) (f_X12_takeClause_b211 (0 : Int32) g2) f g := by
  rcases end_step hL hc hm ha hb he hR.2.2.2.2.1 with ⟨e', q1, q2, q3, q4⟩ | ⟨f', g', q1, q2, q3, q4, q5, q6⟩
  · exact Or.inl ⟨rw, e', _, _, by omega, q2, q3, q4, by rw [su_s, upd_s], by rw [su_s, upd_s], h0, hR.at _ _, fun k hk => by rw [su_r (by omega), hf k hk], hg.trans (FRm.slot (Or.inr (Or.inl rfl)))⟩
  · exact Or.inr ⟨1, f', g', by omega, by omega, q1, q2, q3, q4, hf.trans q5, hg.trans q6⟩
theorem nIne {c : Nat} (h0 : 0 < c) (h3 : c ≤ 3) {x : Int32} (h : x = nI c) : ¬ x = 0 := by
  rw [h]; exact nI_ne0 h0 (by omega)
theorem bind_id {α : Type} (x : Option α) : (x.bind fun q => some q) = x := by cases x <;> rfl
theorem wind_clause (hL : LOK T L) {f g : St} {a rw : Nat} (hc : TXc T L f) (hm : TXm T L g) (ha : f 10 4 = nI a) (hb : g 0 12 = nI a) (haT : a ≤ T) (h0 : 0 < rw) (hR : RR rw f g) (p : Int32) (hw : f 10 5 = 0) : OUT T a (f_X6_readWind_10 p f) ((f_X12_takeWind g).bind fun q => f_X12_takeClause_b211 q.1 q.2) f g := by
  obtain ⟨h1, ⟨rs, h2⟩, ⟨rn, h3⟩, h4, h5⟩ := hR
  have hc0 : TXc T L (su f 10 5 1) := ⟨hc.1, hc.2⟩
  unfold f_X6_readWind_10 f_X12_takeWind
  rw [if_pos hw]
  rcases num_step hL hc0 hm (f := su f 10 5 1) (by rw [su_s, upd_n (by omega)]; exact ha) hb haT (by rw [su_s, upd_n (by omega)]; exact h5.1) (P := 18) (by omega) with ⟨e, v, g', q1, q2, q3, q4, q5, q6, q7, q8, q9⟩ | ⟨c, x, f', g', q1, q2, q3, q4, q5, q6, q7, q8, q9⟩
  · rw [show (18 : Int32) = nI 18 from rfl, bind_e q4, bind_e q5]
    dsimp only
    rw [q7]
    have key := fin_step hL (f := f) (g := g) (f2 := su (su (su f 10 5 1) 10 4 (nI e)) 11 1 (nI v - 9)) (g2 := su g' 0 17 (nI v)) (a := a) (e := e) (rw := rw) ⟨hc.1, hc.2⟩ ⟨by rw [su_s, upd_n (by omega), q9 10 (by omega) (by omega) (by omega)]; exact hm.1, by rw [su_r (by omega), q8 6 (by omega)]; exact hm.2⟩ (by rw [su_r (by omega), su_s, upd_s]) (by rw [su_s, upd_n (by omega)]; exact q6) q2 (by omega) h0 ⟨h1.mv (by simp [su, upd]) (by simp [su, upd]) (by rw [su_s, upd_n (by omega), q9 15 (by omega) (by omega) (by omega)]) (by rw [su_r (by omega), q8 7 (by omega)]), ⟨rs, h2.mv (by simp [su, upd]) (by simp [su, upd]) (by simp [su, upd]) (by rw [su_s, upd_n (by omega), q9 18 (by omega) (by omega) (by omega)]) (by rw [su_r (by omega), q8 8 (by omega)]) (by rw [su_r (by omega), q8 9 (by omega)])⟩, ⟨rn, h3.mv (Nat.le_refl _) (by simp [su, upd]) (by simp [su, upd]) (by simp [su, upd]) (by simp [su, upd]) (by rw [su_s, upd_n (by omega), q9 21 (by omega) (by omega) (by omega)]) (by rw [su_r (by omega), q8 10 (by omega)]) (by rw [su_r (by omega), q8 11 (by omega)]) (by rw [su_r (by omega), q8 12 (by omega)])⟩, Or.inr ⟨by simp [su, upd], v, q3, by rw [su_s, upd_s], by rw [su_s, upd_s]⟩, h5.mv (by simp [su, upd]) (by simp [su, upd]) (by rw [su_s, upd_n (by omega), q9 11 (by omega) (by omega) (by omega)])⟩ (fun k hk => by rw [su_r (by omega), su_r (by omega), su_r (by omega)]) (FRm.trans (f' := g') ⟨fun k k1 _ => q8 k k1, fun j a b c d _ _ _ _ => q9 j b c d⟩ (FRm.slot (by omega)))
    rcases key with ⟨rw', e', f', g2, a1, a2, a3, a4, a5⟩ | ⟨c, f', g2, a1, a2, a3, a4, a5⟩
    · rw [bind_e a3, Option.bind_some]
      exact Or.inl ⟨rw', e', f', g2, a1, a2, rfl, a4, a5⟩
    · rw [bind_e a3, Option.bind_some]
      exact Or.inr ⟨c, f', g2, a1, a2, rfl, a4, a5⟩
  · rw [show (18 : Int32) = nI 18 from rfl, bind_e q3, bind_e q4]
    dsimp only
    obtain ⟨f2, u1, u2⟩ := q_end (f := su f' 11 1 (x - 9)) (by rw [su_r (by omega)]; exact nIne q1 q2 q5)
    rw [bind_e u1, Option.bind_some]
    exact OUT.bad q1 q2 rfl rfl (f1 := f') (g1 := su g' 0 17 (g' 0 13)) q5 (by rw [q6, su_s, upd_n (by omega)]) ((FQ.row (ka := 11) (by omega) (by omega) (fun k hk => su_r hk)).trans u2) (fun k hk => by rw [q7 k (by omega), su_r (by omega)]) (FRm.trans (f' := g') ⟨fun k k1 _ => q8 k k1, fun j a b c d _ _ _ _ => q9 j a b c d⟩ (FRm.slot (by omega)))
theorem c_addSound {f : St} {rs : Nat} (h : f 11 2 = nI rs) (hr : rs < 6) (u v : Int32) : f_X5_addSound_11 u v f = some (su (su (su f 13 rs u) 14 rs v) 11 2 (nI (rs + 1))) := by
  unfold f_X5_addSound_11
  rw [h, bind_e (put_n (ka := 13) (f := f) (v := u) hr (by omega)), su_r (k := 13) (k' := 11) (by omega), h, bind_e (put_n (ka := 14) (v := v) hr (by omega)), su_r (k := 14) (k' := 11) (by omega), su_r (k := 13) (k' := 11) (by omega), h, nI_1]
theorem sound_clause (hL : LOK T L) {f g : St} {a rw rs : Nat} (hc : TXc T L f) (hm : TXm T L g) (ha : f 10 4 = nI a) (hb : g 0 12 = nI a) (haT : a ≤ T) (h0 : 0 < rw) (h1 : RW rw f g) (h2 : RS rs f g) (h3 : ∃ rn, RN rw rn f g) (h4 : RD f g) (h5 : RF f g) (hrs : rs < 6) (p : Int32) : OUT T a (f_X6_readSound_10 p f) ((f_X12_takeSound g).bind fun q => f_X12_takeClause_b211 q.1 q.2) f g := by
  obtain ⟨rn, h3⟩ := h3
  have e1 := h2.1
  have e2 := h2.2.1
  unfold f_X6_readSound_10 f_X12_takeSound
  rw [e1, e2, show (6 : Int32) = nI 6 from rfl, if_pos (nI_lt (b := 6) hrs (by omega)), nI_1, show (60 : Int32) = nI 60 from rfl, show (9 : Int32) = nI 9 from rfl]
  have hm0 : TXm T L (su g 0 18 (nI (rs + 1))) := ⟨hm.1, hm.2⟩
  rcases into_step hL hc hm0 ha (by rw [su_s, upd_n (by omega)]; exact hb) haT h5.1 (P := 60) (ka := 8) (na := 6) (i := rs) (by omega) (by omega) hrs (by omega) with ⟨e, v, g1, q1, q2, q3, q4, q5, q6, q7, q8, q9⟩ | ⟨c, x, f1, g1, q1, q2, q3, q4, q5, q6, q7, q8, q9⟩
  · have g1k : ∀ k, k ≠ 0 → k ≠ 8 → g1 k = g k := fun k a b => by rw [q8 k a b, su_r a]
    have g1j : ∀ j, j ≠ 12 → j ≠ 13 → j ≠ 14 → j ≠ 18 → g1 0 j = g 0 j := fun j a b c d => by rw [q9 j a b c, su_s, upd_n d]
    have g18 : g1 8 = upd (g 8) rs (nI v) := by rw [q7, su_r (by omega)]
    have g118 : g1 0 18 = nI (rs + 1) := by rw [q9 18 (by omega) (by omega) (by omega), su_s, upd_s]
    rw [bind_e q4, bind_e q5]
    dsimp only
    rw [if_pos (show (0 : Int32) ≤ 0 by decide)]
    rcases into_step hL (f := su f 10 4 (nI e)) (g := g1) ⟨hc.1, hc.2⟩ ⟨by rw [g1j 10 (by omega) (by omega) (by omega) (by omega)]; exact hm.1, by rw [g1k 6 (by omega) (by omega)]; exact hm.2⟩ (by rw [su_s, upd_s]) q6 q2 (by rw [su_s, upd_n (by omega)]; exact h5.1) (P := 9) (ka := 9) (na := 6) (i := rs) (by omega) (by omega) hrs (by omega) with ⟨e', v', g2, r1, r2, r3, r4, r5, r6, r7, r8, r9⟩ | ⟨c, x, f2, g2, r1, r2, r3, r4, r5, r6, r7, r8, r9⟩
    · rw [su_su] at r4
      have g2k : ∀ k, k ≠ 0 → k ≠ 8 → k ≠ 9 → g2 k = g k := fun k a b c => by rw [r8 k a c, g1k k a b]
      have g2j : ∀ j, j ≠ 12 → j ≠ 13 → j ≠ 14 → j ≠ 18 → g2 0 j = g 0 j := fun j a b c d => by rw [r9 j a b c, g1j j a b c d]
      have tv := nI_toInt (n := v) (by omega)
      have tv' := nI_toInt (n := v') (by omega)
      rw [bind_e r4, bind_e r5]
      dsimp only
      rw [bind_e (c_addSound (f := su f 10 4 (nI e')) (rs := rs) (by rw [su_r (by omega)]; exact e1) hrs (nI v) (nI v'))]
      have key := fin_step hL (f := f) (g := g) (f2 := su (su (su (su f 10 4 (nI e')) 13 rs (nI v)) 14 rs (nI v')) 11 2 (nI (rs + 1))) (g2 := g2) (a := a) (e := e') (rw := rw) ⟨hc.1, hc.2⟩ ⟨by rw [g2j 10 (by omega) (by omega) (by omega) (by omega)]; exact hm.1, by rw [g2k 6 (by omega) (by omega) (by omega)]; exact hm.2⟩ (by simp [su, upd]) r6 r2 (by omega) h0 ⟨h1.mv (by simp [su, upd]) (by simp [su, upd]) (g2j 15 (by omega) (by omega) (by omega) (by omega)) (g2k 7 (by omega) (by omega) (by omega)), ⟨rs + 1, by simp [su, upd], by rw [r9 18 (by omega) (by omega) (by omega), g118], by omega, fun i hi => ?_⟩, ⟨rn, h3.mv (Nat.le_refl _) (by simp [su, upd]) (by simp [su, upd]) (by simp [su, upd]) (by simp [su, upd]) (g2j 21 (by omega) (by omega) (by omega) (by omega)) (g2k 10 (by omega) (by omega) (by omega)) (g2k 11 (by omega) (by omega) (by omega)) (g2k 12 (by omega) (by omega) (by omega))⟩, h4.mv (by simp [su, upd]) (by simp [su, upd]) (g2j 17 (by omega) (by omega) (by omega) (by omega)), h5.mv (by simp [su, upd]) (by simp [su, upd]) (g2j 11 (by omega) (by omega) (by omega) (by omega))⟩ (fun k hk => by rw [su_r (by omega), su_r (by omega), su_r (by omega), su_r (by omega)]) ⟨fun k k1 k2 => g2k k k1 (by omega) (by omega), fun j j1 j2 j3 j4 j5 j6 j7 j8 => g2j j j2 j3 j4 j7⟩
      · rw [bind_id]
        exact key
      · rw [r8 8 (by omega) (by omega), g18, r7, g1k 9 (by omega) (by omega), show su (su (su (su f 10 4 (nI e')) 13 rs (nI v)) 14 rs (nI v')) 11 2 (nI (rs + 1)) 13 = upd (f 13) rs (nI v) by rw [su_r (by omega), su_r (by omega), su_s, su_r (by omega)], show su (su (su (su f 10 4 (nI e')) 13 rs (nI v)) 14 rs (nI v')) 11 2 (nI (rs + 1)) 14 = upd (f 14) rs (nI v') by rw [su_r (by omega), su_s, su_r (by omega), su_r (by omega)]]
        by_cases ei : i = rs
        · subst ei
          rw [upd_s, upd_s, upd_s, upd_s, tv, tv']
          exact ⟨rfl, rfl, ⟨by omega, by omega⟩, by omega, by omega⟩
        · rw [upd_n ei, upd_n ei, upd_n ei, upd_n ei]
          exact h2.2.2.2 i (by omega)
    · rw [bind_e r3, bind_e r4]
      dsimp only
      obtain ⟨f3, u1, u2⟩ := q_addSound (nI v) x f2
      obtain ⟨f4, u3, u4⟩ := q_end (f := f3) (by rw [u2.2.1]; exact nIne r1 r2 r5)
      rw [bind_e u1, bind_e u3]
      exact OUT.bad r1 r2 rfl rfl (f1 := f2) (g1 := g2) r5 r6 (u2.trans u4) (fun k hk => by rw [r7 k (by omega), su_r (by omega)]) ⟨fun k k1 k2 => by rw [r8 k k1 (by omega), g1k k k1 (by omega)], fun j j1 j2 j3 j4 j5 j6 j7 j8 => by rw [r9 j j1 j2 j3 j4, g1j j j2 j3 j4 j7]⟩
  · rw [bind_e q3, bind_e q4]
    dsimp only
    rw [if_neg (nlt0 q1 (by omega))]
    obtain ⟨y, f2, u1, u2⟩ := q_num (f := f1) (nIne q1 q2 q5) (nI 9)
    obtain ⟨f3, u3, u4⟩ := q_addSound x y f2
    obtain ⟨f4, u5, u6⟩ := q_end (f := f3) (by rw [u4.2.1, u2.2.1]; exact nIne q1 q2 q5)
    rw [bind_e u1]
    dsimp only
    rw [bind_e u3, bind_e u5, Option.bind_some]
    exact OUT.bad q1 q2 rfl rfl (f1 := f1) (g1 := g1) q5 q6 ((u2.trans u4).trans u6) (fun k hk => q7 k (by omega)) ⟨fun k k1 k2 => by rw [q8 k k1 (by omega), su_r k1], fun j j1 j2 j3 j4 j5 j6 j7 j8 => by rw [q9 j j1 j2 j3 j4, su_s, upd_n j7]⟩
end CL
