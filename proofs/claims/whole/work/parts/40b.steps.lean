/-! Steps of the reader: a number, an end of a clause; and what goes on after a fault -/
def FQ (f f' : St) : Prop := (∀ k, (k < 10 ∨ 17 < k) → f' k = f k) ∧ f' 10 2 = f 10 2 ∧ f' 10 3 = f 10 3
theorem FQ.refl {f : St} : FQ f f := ⟨fun _ _ => rfl, rfl, rfl⟩
theorem FQ.trans {f f' f'' : St} (h : FQ f f') (k : FQ f' f'') : FQ f f'' := ⟨fun i hi => by rw [k.1 i hi, h.1 i hi], by rw [k.2.1, h.2.1], by rw [k.2.2, h.2.2]⟩
theorem FQ.at {f : St} {v : Int32} : FQ f (su f 10 4 v) := ⟨fun k hk => su_r (by omega), by rw [su_s, upd_n (by omega)], by rw [su_s, upd_n (by omega)]⟩
theorem c_fail0 {f : St} {c p : Int32} (h : f 10 2 = 0) : f_X6_fail_10 c p f = some (su (su f 10 2 c) 10 3 p) := by
  unfold f_X6_fail_10
  rw [if_pos h]
theorem c_fail1 {f : St} {c p : Int32} (h : ¬ f 10 2 = 0) : f_X6_fail_10 c p f = some f := by
  unfold f_X6_fail_10
  rw [if_neg h]
theorem q_letter (p : Int32) (f : St) : ∃ v, f_X9_letterAt_1 p f = some v := by
  unfold f_X9_letterAt_1
  by_cases h1 : p < 0
  · rw [if_pos h1]; exact ⟨_, rfl⟩
  · rw [if_neg h1]
    by_cases h2 : f 1 1 ≤ p
    · rw [if_pos h2]; exact ⟨_, rfl⟩
    · rw [if_neg h2]
      by_cases h3 : Int32.ofNat 240 ≤ p
      · rw [if_pos h3]; exact ⟨_, rfl⟩
      · rw [if_neg h3]
        rcases sgn_cases p with e | ⟨q, hq, rfl⟩
        · exact absurd e h1
        · have : q < 240 := by
            have h4 : ¬ nI 240 ≤ nI q := h3
            rw [nI_leI (by omega) hq] at h4
            omega
          rw [ck_n this (by omega)]
          exact ⟨_, rfl⟩
theorem q_skip_loop : ∀ (d n i : Nat) (f : St), i + d = 240 → d < n → ∃ f', f_X6_skipBlanks_10_b2 n (nI i) f = some f' ∧ FQ f f' := by
  intro d
  induction d with
  | zero =>
    intro n i f h1 h2
    obtain ⟨n, rfl⟩ : ∃ m, n = m + 1 := ⟨n - 1, by omega⟩
    simp only [f_X6_skipBlanks_10_b2, f_X6_skipBlanks_10_b2s]
    rw [show (240 : Int32) = nI 240 from rfl, if_pos (nI_le (a := 240) (by omega) (by omega))]
    exact ⟨f, rfl, FQ.refl⟩
  | succ d ih =>
    intro n i f h1 h2
    obtain ⟨n, rfl⟩ : ∃ m, n = m + 1 := ⟨n - 1, by omega⟩
    obtain ⟨v, hv⟩ := q_letter (f 10 4) f
    simp only [f_X6_skipBlanks_10_b2, f_X6_skipBlanks_10_b2s]
    rw [show (240 : Int32) = nI 240 from rfl, if_neg (nI_ge (b := 240) (by omega) (by omega)), bind_e hv, nI_1]
    by_cases e : v = 32
    · rw [if_pos e]
      obtain ⟨f', q1, q2⟩ := ih n (i + 1) (su f 10 4 (f 10 4 + 1)) (by omega) (by omega)
      exact ⟨f', q1, FQ.at.trans q2⟩
    · rw [if_neg e]
      exact ⟨f, rfl, FQ.refl⟩
theorem q_skip (f : St) : ∃ f', f_X6_skipBlanks_10 f = some f' ∧ FQ f f' := q_skip_loop 240 fuB 0 f (by omega) (by unfold fuB; omega)
theorem q_81 {p s x : Int32} {f : St} (h : ¬ f 10 2 = 0) : ∃ x', f_X6_readNumber_10_b81 p s x f = some (x', f) := by
  unfold f_X6_readNumber_10_b81 f_X6_readNumber_10_b113 f_X6_readNumber_10_b119
  rw [bind_e (c_fail1 h), bind_e (c_fail1 h)]
  split
  · exact ⟨_, rfl⟩
  · split
    · exact ⟨_, rfl⟩
    · split
      · exact ⟨_, rfl⟩
      · exact ⟨_, rfl⟩
theorem q_num_loop {p s : Int32} : ∀ (d n i : Nat) (x : Int32) (f : St), ¬ f 10 2 = 0 → i + d = 240 → d < n → ∃ x' f', f_X6_readNumber_10_b14 n p s x (nI i) f = some (x', f') ∧ FQ f f' := by
  intro d
  induction d with
  | zero =>
    intro n i x f h0 h1 h2
    obtain ⟨n, rfl⟩ : ∃ m, n = m + 1 := ⟨n - 1, by omega⟩
    obtain ⟨x', hx⟩ := q_81 (p := p) (s := s) (x := x) h0
    simp only [f_X6_readNumber_10_b14, f_X6_readNumber_10_b14s]
    rw [show (240 : Int32) = nI 240 from rfl, if_pos (nI_le (a := 240) (by omega) (by omega))]
    exact ⟨x', f, hx, FQ.refl⟩
  | succ d ih =>
    intro n i x f h0 h1 h2
    obtain ⟨n, rfl⟩ : ∃ m, n = m + 1 := ⟨n - 1, by omega⟩
    obtain ⟨x', hx⟩ := q_81 (p := p) (s := s) (x := x) h0
    obtain ⟨v, hv⟩ := q_letter (f 10 4) f
    simp only [f_X6_readNumber_10_b14, f_X6_readNumber_10_b14s]
    rw [show (240 : Int32) = nI 240 from rfl, if_neg (nI_ge (b := 240) (by omega) (by omega)), bind_e hv, bind_e c_fig, bind_e hv, nI_1]
    cases isD v
    · rw [b2i_f, if0]
      exact ⟨x', f, hx, FQ.refl⟩
    · rw [b2i_t, if1]
      obtain ⟨y, f', q1, q2⟩ := ih n (i + 1) (jmin (((x * (10 : Int32)) + v) - (48 : Int32)) (1000 : Int32)) (su f 10 4 (f 10 4 + 1)) (by rw [su_s, upd_n (by omega)]; exact h0) (by omega) (by omega)
      exact ⟨y, f', q1, FQ.at.trans q2⟩
theorem q_num {f : St} (h : ¬ f 10 2 = 0) (p : Int32) : ∃ x f', f_X6_readNumber_10 p f = some (x, f') ∧ FQ f f' := by
  obtain ⟨f1, q1, q2⟩ := q_skip f
  obtain ⟨x, f', u1, u2⟩ := q_num_loop (p := p) (s := f1 10 4) 240 fuB 0 0 f1 (by rw [q2.2.1]; exact h) (by omega) (by unfold fuB; omega)
  refine ⟨x, f', ?_, q2.trans u2⟩
  unfold f_X6_readNumber_10
  rw [bind_e q1]
  exact u1
theorem q_end {f : St} (h : ¬ f 10 2 = 0) : ∃ f', f_X6_readEnd_10 f = some f' ∧ FQ f f' := by
  obtain ⟨f1, q1, q2⟩ := q_skip f
  obtain ⟨v, hv⟩ := q_letter (f1 10 4) f1
  have h1 : ¬ f1 10 2 = 0 := by rw [q2.2.1]; exact h
  refine ⟨su f1 10 4 (f1 10 4 + 1), ?_, q2.trans FQ.at⟩
  unfold f_X6_readEnd_10 f_X6_readEnd_10_b29
  rw [bind_e q1, bind_e hv, bind_e (c_fail1 h1)]
  split <;> rfl
theorem q_put (ka na : Nat) (hna : na < 2 ^ 31) (p v : Int32) (f : St) : ∃ f', f_X7_put ka na p v f = some f' ∧ ∀ k, k ≠ ka → f' k = f k := by
  unfold f_X7_put
  by_cases h1 : p < 0
  · rw [if_pos h1]; exact ⟨f, rfl, fun _ _ => rfl⟩
  · rw [if_neg h1]
    by_cases h3 : Int32.ofNat na ≤ p
    · rw [if_pos h3]; exact ⟨f, rfl, fun _ _ => rfl⟩
    · rw [if_neg h3]
      rcases sgn_cases p with e | ⟨q, hq, rfl⟩
      · exact absurd e h1
      · have : q < na := by
          have h4 : ¬ nI na ≤ nI q := h3
          rw [nI_leI hna hq] at h4
          omega
        rw [ck_n this hna]
        exact ⟨_, rfl, fun k hk => su_r hk⟩
theorem FQ.row {f f' : St} {ka : Nat} (h1 : 10 < ka) (h2 : ka ≤ 17) (h : ∀ k, k ≠ ka → f' k = f k) : FQ f f' := ⟨fun k hk => h k (by omega), by rw [h 10 (by omega)], by rw [h 10 (by omega)]⟩
theorem q_addWall (p : Int32) (f : St) : ∃ f', f_X5_addWall_11 p f = some f' ∧ FQ f f' := by
  obtain ⟨f1, q1, q2⟩ := q_put 12 8 (by omega) (f 11 0) p f
  unfold f_X5_addWall_11
  rw [bind_e q1]
  exact ⟨_, rfl, (FQ.row (ka := 12) (by omega) (by omega) q2).trans (FQ.row (ka := 11) (by omega) (by omega) (fun k hk => su_r hk))⟩
theorem q_addSound (p1 p2 : Int32) (f : St) : ∃ f', f_X5_addSound_11 p1 p2 f = some f' ∧ FQ f f' := by
  obtain ⟨f1, q1, q2⟩ := q_put 13 6 (by omega) (f 11 2) p1 f
  obtain ⟨f2, q3, q4⟩ := q_put 14 6 (by omega) (f1 11 2) p2 f1
  unfold f_X5_addSound_11
  rw [bind_e q1, bind_e q3]
  exact ⟨_, rfl, ((FQ.row (ka := 13) (by omega) (by omega) q2).trans (FQ.row (ka := 14) (by omega) (by omega) q4)).trans (FQ.row (ka := 11) (by omega) (by omega) (fun k hk => su_r hk))⟩
theorem q_addWitness (p1 p2 p3 : Int32) (f : St) : ∃ f', f_X5_addWitness_11 p1 p2 p3 f = some f' ∧ FQ f f' := by
  obtain ⟨f1, q1, q2⟩ := q_put 15 7 (by omega) (f 11 3) p1 f
  obtain ⟨f2, q3, q4⟩ := q_put 16 7 (by omega) (f1 11 3) p2 f1
  obtain ⟨f3, q5, q6⟩ := q_put 17 7 (by omega) (f2 11 3) p3 f2
  unfold f_X5_addWitness_11
  rw [bind_e q1, bind_e q3, bind_e q5]
  exact ⟨_, rfl, (((FQ.row (ka := 15) (by omega) (by omega) q2).trans (FQ.row (ka := 16) (by omega) (by omega) q4)).trans (FQ.row (ka := 17) (by omega) (by omega) q6)).trans (FQ.row (ka := 11) (by omega) (by omega) (fun k hk => su_r hk))⟩
def FRm (g g' : St) : Prop := (∀ k, k ≠ 0 → (k < 7 ∨ 12 < k) → g' k = g k) ∧ ∀ j, j ≠ 11 → j ≠ 12 → j ≠ 13 → j ≠ 14 → j ≠ 15 → j ≠ 17 → j ≠ 18 → j ≠ 21 → g' 0 j = g 0 j
def FRc (f f' : St) : Prop := ∀ k, (k < 10 ∨ 17 < k) → f' k = f k
theorem FRm.refl {g : St} : FRm g g := ⟨fun _ _ _ => rfl, fun _ _ _ _ _ _ _ _ _ => rfl⟩
theorem FRm.trans {f f' f'' : St} (h : FRm f f') (k : FRm f' f'') : FRm f f'' := ⟨fun i h1 h2 => by rw [k.1 i h1 h2, h.1 i h1 h2], fun j a b c d e x y z => by rw [k.2 j a b c d e x y z, h.2 j a b c d e x y z]⟩
theorem FRc.trans {f f' f'' : St} (h : FRc f f') (k : FRc f' f'') : FRc f f'' := fun i hi => by rw [k i hi, h i hi]
theorem FRm.row {g g' : St} {ka : Nat} (h1 : 6 < ka) (h2 : ka ≤ 12) (h : ∀ k, k ≠ ka → g' k = g k) : FRm g g' := ⟨fun k hk hk2 => h k (by omega), fun j _ _ _ _ _ _ _ _ => by rw [h 0 (by omega)]⟩
theorem FRm.slot {g : St} {j : Nat} {v : Int32} (h : j = 11 ∨ j = 12 ∨ j = 13 ∨ j = 14 ∨ j = 15 ∨ j = 17 ∨ j = 18 ∨ j = 21) : FRm g (su g 0 j v) := ⟨fun k hk _ => su_r hk, fun i _ _ _ _ _ _ _ _ => by rw [su_s, upd_n (by omega)]⟩
section ST
variable {T : Nat} {L : Nat → Int32} {f g : St}
theorem TXc.fr (h : TXc T L f) {f' : St} (k : FRc f f') : TXc T L f' := ⟨by rw [k 1 (by omega)]; exact h.1, by rw [k 2 (by omega)]; exact h.2⟩
theorem TXm.fr (h : TXm T L g) {g' : St} (k : FRm g g') : TXm T L g' := ⟨by rw [k.2 10 (by omega) (by omega) (by omega) (by omega) (by omega) (by omega) (by omega) (by omega)]; exact h.1, by rw [k.1 6 (by omega) (by omega)]; exact h.2⟩
theorem dig_lt {s : Nat} (h : isD (ltr L T s) = true) : s < dgN L s (T - s) := by
  have hsT : s < T := by
    by_cases x : s < T
    · exact x
    · unfold ltr at h
      rw [if_neg x] at h
      exact absurd h (by decide)
  unfold ltr at h
  rw [if_pos hsT] at h
  obtain ⟨d, hd⟩ : ∃ d, T - s = d + 1 := ⟨T - s - 1, by omega⟩
  rw [hd, dgN_s, if_pos h]
  exact (dgN_bd (L := L) d (s + 1)).1
theorem dig_eq {s : Nat} (h : isD (ltr L T s) = false) : dgN L s (T - s) = s := by
  by_cases hsT : s < T
  · unfold ltr at h
    rw [if_pos hsT] at h
    obtain ⟨d, hd⟩ : ∃ d, T - s = d + 1 := ⟨T - s - 1, by omega⟩
    rw [hd, dgN_s, h, if_neg (by decide)]
  · obtain hd : T - s = 0 := by omega
    rw [hd]; rfl
theorem num_step (hL : LOK T L) (hc : TXc T L f) (hm : TXm T L g) {a : Nat} (ha : f 10 4 = nI a) (hb : g 0 12 = nI a) (haT : a ≤ T) (h0 : f 10 2 = 0) {P : Nat} (hP : P < 1000) : (∃ (e v : Nat) (g' : St), a < e ∧ e ≤ T ∧ v ≤ P ∧ f_X6_readNumber_10 (nI P) f = some (nI v, su f 10 4 (nI e)) ∧ f_X12_takeNumber (0 : Int32) (nI P) g = some (0, g') ∧ g' 0 12 = nI e ∧ g' 0 13 = nI v ∧ (∀ k, k ≠ 0 → g' k = g k) ∧ ∀ j, j ≠ 12 → j ≠ 13 → j ≠ 14 → g' 0 j = g 0 j) ∨ (∃ (c : Nat) (x : Int32) (f' g' : St), 0 < c ∧ c ≤ 3 ∧ f_X6_readNumber_10 (nI P) f = some (x, f') ∧ f_X12_takeNumber (0 : Int32) (nI P) g = some (nI c, g') ∧ f' 10 2 = nI c ∧ f' 10 3 = g' 0 11 ∧ (∀ k, k ≠ 10 → f' k = f k) ∧ (∀ k, k ≠ 0 → g' k = g k) ∧ ∀ j, j ≠ 11 → j ≠ 12 → j ≠ 13 → j ≠ 14 → g' 0 j = g 0 j) := by
  have hT := hL.1
  have hs := sk_bd (L := L) haT
  rw [c_num hL hc ha haT, m_num hL hm hb haT]
  generalize sk L T a = s at hs ⊢
  have hd := dgN_bd (L := L) (T - s) s
  have hv : 0 < 10 ^ 0 → 0 ≤ 3 → dgN L s (T - s) ≤ s + (3 - 0) → ∃ v', v' < 1000 ∧ vcN L s (T - s) 0 = nI v' ∧ vmN L s (T - s) 0 = nI v' := val_eq (L := L) (T - s) s 0 0
  have hdig := dig_lt (L := L) (T := T) (s := s)
  have hnod := dig_eq (L := L) (T := T) (s := s)
  generalize dgN L s (T - s) = e at hd hv hdig hnod ⊢
  generalize vcN L s (T - s) 0 = VC at hv ⊢
  generalize vmN L s (T - s) 0 = VM at hv ⊢
  have h02 : ∀ v, su f 10 4 v 10 2 = 0 := fun v => by rw [su_s, upd_n (by omega)]; exact h0
  have t3 : (3 : Int32).toInt = 3 := rfl
  have fr : ∀ (c p : Int32) (k : Nat), k ≠ 10 → su (su (su f 10 4 (nI e)) 10 2 c) 10 3 p k = f k := fun c p k hk => by rw [su_r hk, su_r hk, su_r hk]
  have f2 : ∀ c p : Int32, su (su (su f 10 4 (nI e)) 10 2 c) 10 3 p 10 2 = c := fun c p => by rw [su_s, upd_n (by omega), su_s, upd_s]
  have f3 : ∀ c p : Int32, su (su (su f 10 4 (nI e)) 10 2 c) 10 3 p 10 3 = p := fun c p => by rw [su_s, upd_s]
  unfold f_X6_readNumber_10_b81 f_X6_readNumber_10_b113 f_X6_readNumber_10_b119
  rw [bind_e (c_fail0 (h02 _)), bind_e (c_fail0 (h02 _)), show su f 10 4 (nI e) 10 4 = nI e by rw [su_s, upd_s]]
  cases hi : isD (ltr L T s)
  · have he := hnod hi
    rw [if_pos (show nI e = nI s by rw [he]), if_neg (by decide)]
    refine Or.inr ⟨1, _, _, su (su g 0 12 (nI s)) 0 11 (nI s), by omega, by omega, rfl, rfl, f2 _ _, by rw [f3, su_s, upd_s], fr _ _, fun k hk => by rw [su_r hk, su_r hk], fun j j1 j2 j3 j4 => by rw [su_s, upd_n j1, su_s, upd_n j2]⟩
  · have he := hdig hi
    have hte : (nI e - nI s).toInt = (e : Int) - s := pk_sub_toInt (by omega) (by omega)
    have gk : ∀ x k, k ≠ 0 → GN (su g 0 14 (nI s)) e x k = g k := fun x k hk => by rw [GN_k hk, su_r hk]
    have gj : ∀ x j, j ≠ 12 → j ≠ 13 → j ≠ 14 → GN (su g 0 14 (nI s)) e x 0 j = g 0 j := fun x j a b c => by rw [GN_j a b, su_s, upd_n c]
    have g14 : ∀ x, GN (su g 0 14 (nI s)) e x 0 14 = nI s := fun x => by rw [GN_j (by omega) (by omega), su_s, upd_s]
    rw [if_neg (show ¬ nI e = nI s from fun x => by have := (nI_eq (by omega) (by omega)).mp x; omega), if_pos rfl]
    unfold f_X12_takeNumber_b129 f_X12_takeNumber_b157 f_X12_fails
    rw [GN_12, g14]
    by_cases h4 : (3 : Int32) < nI e - nI s
    · rw [if_pos h4, if_pos h4]
      exact Or.inr ⟨2, _, _, su (GN (su g 0 14 (nI s)) e VM) 0 11 (nI s), by omega, by omega, rfl, rfl, f2 _ _, by rw [f3, su_s, upd_s], fr _ _, fun k hk => by rw [su_r hk, gk _ k hk], fun j j1 j2 j3 j4 => by rw [su_s, upd_n j1, gj _ j j2 j3 j4]⟩
    · rw [if_neg h4, if_neg h4]
      rw [lt_t] at h4
      obtain ⟨v, hv1, hv2, hv3⟩ := hv (by omega) (by omega) (by omega)
      have hv2' : VC = nI v := hv2
      have hv3' : VM = nI v := hv3
      subst hv2'
      subst hv3'
      have tv := nI_toInt (n := v) (by omega)
      have tP := nI_toInt (n := P) (by omega)
      rw [GN_13, bind_e m_in]
      by_cases hvP : v ≤ P
      · rw [if_pos (nI_le hvP (by omega)), decide_eq_true (show (0 : Int32).toInt64.toInt ≤ (nI v).toInt64.toInt ∧ (nI v).toInt64.toInt ≤ (nI P).toInt64.toInt by rw [Int32.toInt_toInt64, Int32.toInt_toInt64, Int32.toInt_toInt64, tv, tP, show (0 : Int32).toInt = 0 from rfl]; omega), b2i_t, if1]
        exact Or.inl ⟨e, v, _, by omega, by omega, hvP, rfl, rfl, GN_12, GN_13, gk _, gj _⟩
      · rw [if_neg (nI_ge (by omega) (by omega)), decide_eq_false (show ¬ ((0 : Int32).toInt64.toInt ≤ (nI v).toInt64.toInt ∧ (nI v).toInt64.toInt ≤ (nI P).toInt64.toInt) by rw [Int32.toInt_toInt64, Int32.toInt_toInt64, Int32.toInt_toInt64, tv, tP, show (0 : Int32).toInt = 0 from rfl]; omega), b2i_f, if0]
        exact Or.inr ⟨2, _, _, su (GN (su g 0 14 (nI s)) e (nI v)) 0 11 (nI s), by omega, by omega, rfl, rfl, f2 _ _, by rw [f3, su_s, upd_s], fr _ _, fun k hk => by rw [su_r hk, gk _ k hk], fun j j1 j2 j3 j4 => by rw [su_s, upd_n j1, gj _ j j2 j3 j4]⟩
theorem into_step (hL : LOK T L) (hc : TXc T L f) (hm : TXm T L g) {a : Nat} (ha : f 10 4 = nI a) (hb : g 0 12 = nI a) (haT : a ≤ T) (h0 : f 10 2 = 0) {P ka na i : Nat} (hP : P < 1000) (hka : ka ≠ 0) (hi : i < na) (hna : na < 2 ^ 31) : (∃ (e v : Nat) (g' : St), a < e ∧ e ≤ T ∧ v ≤ P ∧ f_X6_readNumber_10 (nI P) f = some (nI v, su f 10 4 (nI e)) ∧ f_X12_into ka na (nI i) (0 : Int32) (nI P) g = some (0, g') ∧ g' 0 12 = nI e ∧ g' ka = upd (g ka) i (nI v) ∧ (∀ k, k ≠ 0 → k ≠ ka → g' k = g k) ∧ ∀ j, j ≠ 12 → j ≠ 13 → j ≠ 14 → g' 0 j = g 0 j) ∨ (∃ (c : Nat) (x : Int32) (f' g' : St), 0 < c ∧ c ≤ 3 ∧ f_X6_readNumber_10 (nI P) f = some (x, f') ∧ f_X12_into ka na (nI i) (0 : Int32) (nI P) g = some (nI c, g') ∧ f' 10 2 = nI c ∧ f' 10 3 = g' 0 11 ∧ (∀ k, k ≠ 10 → f' k = f k) ∧ (∀ k, k ≠ 0 → k ≠ ka → g' k = g k) ∧ ∀ j, j ≠ 11 → j ≠ 12 → j ≠ 13 → j ≠ 14 → g' 0 j = g 0 j) := by
  rcases num_step hL hc hm ha hb haT h0 hP with ⟨e, v, g', q1, q2, q3, q4, q5, q6, q7, q8, q9⟩ | ⟨c, x, f', g', q1, q2, q3, q4, q5, q6, q7, q8, q9⟩
  · refine Or.inl ⟨e, v, su g' ka i (nI v), q1, q2, q3, q4, ?_, ?_, ?_, fun k k1 k2 => ?_, fun j j1 j2 j3 => ?_⟩
    · unfold f_X12_into
      rw [bind_e q5, ck_n hi hna, nI_clamp (by omega)]
      dsimp only
      rw [q7]
    · rw [su_r (Ne.symm hka)]; exact q6
    · rw [su_s, q8 ka hka]
    · rw [su_r k2, q8 k k1]
    · rw [su_r (Ne.symm hka)]; exact q9 j j1 j2 j3
  · refine Or.inr ⟨c, x, f', su g' ka i (g' 0 13), q1, q2, q3, ?_, q5, ?_, q7, fun k k1 k2 => ?_, fun j j1 j2 j3 j4 => ?_⟩
    · unfold f_X12_into
      rw [bind_e q4, ck_n hi hna, nI_clamp (by omega)]
    · rw [su_r (Ne.symm hka)]; exact q6
    · rw [su_r k2, q8 k k1]
    · rw [su_r (Ne.symm hka)]; exact q9 j j1 j2 j3 j4
theorem end_step (hL : LOK T L) (hc : TXc T L f) (hm : TXm T L g) {a : Nat} (ha : f 10 4 = nI a) (hb : g 0 12 = nI a) (haT : a ≤ T) (h0 : f 10 2 = 0) : (∃ e : Nat, a < e ∧ e ≤ T ∧ f_X6_readEnd_10 f = some (su f 10 4 (nI e)) ∧ f_X12_takeClause_b211 (0 : Int32) g = some (0, su g 0 12 (nI e))) ∨ (∃ f' g' : St, f_X6_readEnd_10 f = some f' ∧ f_X12_takeClause_b211 (0 : Int32) g = some (nI 1, g') ∧ f' 10 2 = nI 1 ∧ f' 10 3 = g' 0 11 ∧ FRc f f' ∧ FRm g g') := by
  have hT := hL.1
  have hs := sk_bd (L := L) haT
  unfold f_X6_readEnd_10 f_X12_takeClause_b211 f_X6_readEnd_10_b29 f_X12_takeClause_b237
  rw [bind_e (c_skip hL hc ha haT), if_pos rfl, bind_e (m_here hL hm hb haT)]
  dsimp only
  generalize sk L T a = s at hs ⊢
  rw [show su f 10 4 (nI s) 10 4 = nI s by rw [su_s, upd_s], bind_e (c_letter hL (hc.at _) (show s < 2 ^ 31 by omega)), bind_e (c_fail0 (by rw [su_s, upd_n (by omega)]; exact h0)), show su g 0 12 (nI s) 0 12 = nI s by rw [su_s, upd_s]]
  by_cases e : ltr L T s = 59
  · have hsT : s < T := by
      by_cases x : s < T
      · exact x
      · unfold ltr at e
        rw [if_neg x] at e
        exact absurd e (by decide)
    rw [if_pos e, if_pos e, su_su, su_su, nI_1]
    exact Or.inl ⟨s + 1, by omega, by omega, rfl, rfl⟩
  · rw [if_neg e, if_neg e]
    unfold f_X12_fails
    refine Or.inr ⟨_, su (su g 0 12 (nI s)) 0 11 (nI s), rfl, rfl, ?_, ?_, fun k hk => ?_, FRm.trans (FRm.slot (Or.inr (Or.inl rfl))) (FRm.slot (Or.inl rfl))⟩
    · rw [su_s, upd_n (by omega), su_s, upd_n (by omega), su_s, upd_s]; rfl
    · rw [su_s, upd_n (by omega), su_s, upd_s, su_s, upd_s]
    · rw [su_r (by omega), su_r (by omega), su_r (by omega), su_r (by omega)]
theorem m_211 {c : Nat} (h0 : 0 < c) (h3 : c ≤ 3) (g : St) : f_X12_takeClause_b211 (nI c) g = some (nI c, su g 0 12 (g 0 12 + 1)) := by
  unfold f_X12_takeClause_b211 f_X12_takeClause_b237
  rw [if_neg (nI_ne0 h0 (by omega))]
end ST
