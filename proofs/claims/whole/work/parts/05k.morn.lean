/-! Mornings, by hand and by draws -/
def GOK (W S N : Nat) (g : St) : Prop := (W ≤ 8 ∧ S ≤ 6 ∧ N ≤ 7) ∧ (g 0 0 = nI W ∧ g 0 1 = nI S ∧ g 0 4 = nI N) ∧ (∀ s, s < S → 0 ≤ (g 1 s).toInt ∧ (g 1 s).toInt ≤ 60 ∧ 0 ≤ (g 2 s).toInt ∧ (g 2 s).toInt ≤ 9) ∧ (∀ w, w < N → 0 ≤ (g 3 w).toInt ∧ (g 3 w).toInt ≤ 30 ∧ (g 4 w = 0 ∨ g 4 w = 1 ∨ g 4 w = 2)) ∧ NowOK W N (g 5)
def mkF (g : St) : St := fun k => if k = 3 then (fun j => if j = 0 then g 0 0 else if j = 2 then g 0 1 else g 0 4) else if k = 5 then g 1 else if k = 6 then g 2 else if k = 8 then g 3 else if k = 9 then g 4 else (fun j => if j = 0 then g 5 8 - 9 else if j = 1 then g 5 16 else if j = 2 then g 5 17 else if j = 3 then g 5 18 else if j = 4 then g 5 19 else if j = 5 then g 5 20 else if j < 14 then g 5 (j - 6) else if j < 21 then g 5 (9 + (j - 14)) else g 5 j)
theorem mkV {W S N : Nat} {g : St} (h : GOK W S N g) : V W S N (mkF g) g := by
  obtain ⟨⟨hW, hS, hN⟩, ⟨g0, g1, g4⟩, hs, hw, hn⟩ := h
  refine ⟨⟨hW, hS, hN, ?_, g0, ?_, g1, ?_, g4, fun s h => ⟨by simp [mkF], by simp [mkF], hs s h⟩, fun w h => ⟨by simp [mkF], by simp [mkF], hw w h⟩⟩, ⟨by simp [mkF], by simp [mkF], by simp [mkF], by simp [mkF], by simp [mkF], by simp [mkF], fun k hk => ?_, fun k hk => ?_, fun k hk => ?_⟩, hn⟩
  · simp [mkF, g0]
  · simp [mkF, g1]
  · simp [mkF, g4]
  · have a1 : ¬ 6 + k = 0 := by omega
    have a2 : ¬ 6 + k = 1 := by omega
    have a3 : ¬ 6 + k = 2 := by omega
    have a4 : ¬ 6 + k = 3 := by omega
    have a5 : ¬ 6 + k = 4 := by omega
    have a6 : ¬ 6 + k = 5 := by omega
    have a7 : 6 + k < 14 := by omega
    simp [mkF, a1, a2, a3, a4, a5, a6, a7]
  · have a1 : ¬ 14 + k = 0 := by omega
    have a2 : ¬ 14 + k = 1 := by omega
    have a3 : ¬ 14 + k = 2 := by omega
    have a4 : ¬ 14 + k = 3 := by omega
    have a5 : ¬ 14 + k = 4 := by omega
    have a6 : ¬ 14 + k = 5 := by omega
    have a7 : ¬ 14 + k < 14 := by omega
    have a8 : 14 + k < 21 := by omega
    simp [mkF, a1, a2, a3, a4, a5, a6, a8]
    intro hx
    exact absurd hx (by omega)
  · have a1 : ¬ 21 + k = 0 := by omega
    have a2 : ¬ 21 + k = 1 := by omega
    have a3 : ¬ 21 + k = 2 := by omega
    have a4 : ¬ 21 + k = 3 := by omega
    have a5 : ¬ 21 + k = 4 := by omega
    have a6 : ¬ 21 + k = 5 := by omega
    have a7 : ¬ 21 + k < 14 := by omega
    have a8 : ¬ 21 + k < 21 := by omega
    simp [mkF, a1, a2, a3, a4, a5, a6, a7]
    intro hx
    exact absurd hx (by omega)
theorem V.gok {W S N : Nat} {f g : St} (h : V W S N f g) : GOK W S N g :=
  ⟨⟨h.W8, h.S6, h.N7⟩, ⟨h.gW, h.gS, h.gN⟩, fun s hs => ⟨(h.loud hs).2.1, (h.loud hs).2.2, (h.tone hs).2.1, (h.tone hs).2.2⟩, fun w hw => (h.wit hw).2.2, h.2.2⟩
def gm (g : St) (m s x H T : Int32) (P : Nat → Int32) (w : Nat) : St := fun k => if k = 5 then (fun j => if j = 16 then m else if j = 17 then s else if j = 18 then x else if j = 19 then H else if j = 20 then T else if 21 ≤ j ∧ j < 21 + w then P (j - 21) else g 5 j) else g k
def cm (f : St) (m s x H T : Int32) (P : Nat → Int32) (w : Nat) : St := fun k => if k = 19 then (fun j => if j = 1 then m else if j = 2 then s else if j = 3 then x else if j = 4 then H else if j = 5 then T else if 21 ≤ j ∧ j < 21 + w then P (j - 21) else f 19 j) else f k
section GM
variable {f g : St} {m s x H T : Int32} {P : Nat → Int32} {w : Nat}
theorem gm_r {k : Nat} (h : k ≠ 5) : gm g m s x H T P w k = g k := if_neg h
theorem cm_r {k : Nat} (h : k ≠ 19) : cm f m s x H T P w k = f k := if_neg h
theorem gm_lo {j : Nat} (h : j < 16) : gm g m s x H T P w 5 j = g 5 j := by
  unfold gm
  rw [if_pos rfl, if_neg (by omega), if_neg (by omega), if_neg (by omega), if_neg (by omega), if_neg (by omega), if_neg (by omega)]
theorem gm_hi {j : Nat} (h : 21 ≤ j) : gm g m s x H T P w 5 j = if 21 ≤ j ∧ j < 21 + w then P (j - 21) else g 5 j := by
  unfold gm
  rw [if_pos rfl, if_neg (by omega), if_neg (by omega), if_neg (by omega), if_neg (by omega), if_neg (by omega)]
theorem cm_hi {j : Nat} (h : 21 ≤ j) : cm f m s x H T P w 19 j = if 21 ≤ j ∧ j < 21 + w then P (j - 21) else f 19 j := by
  unfold cm
  rw [if_pos rfl, if_neg (by omega), if_neg (by omega), if_neg (by omega), if_neg (by omega), if_neg (by omega)]
theorem gm_19 : gm g m s x H T P w 5 19 = H := by
  unfold gm
  rw [if_pos rfl, if_neg (by omega), if_neg (by omega), if_neg (by omega), if_pos rfl]
theorem gm_20 : gm g m s x H T P w 5 20 = T := by
  unfold gm
  rw [if_pos rfl, if_neg (by omega), if_neg (by omega), if_neg (by omega), if_neg (by omega), if_pos rfl]
theorem gm_H {H' : Int32} : su (gm g m s x H T P w) 5 19 H' = gm g m s x H' T P w := by
  funext k j
  by_cases hk : k = 5
  · subst hk
    rw [su_s]
    unfold upd gm
    simp only [if_true]
    by_cases hj : j = 19
    · subst hj; rfl
    · rw [if_neg hj, if_neg hj, if_neg hj]
  · rw [su_r hk, gm_r hk, gm_r hk]
theorem gm_T {T' : Int32} : su (gm g m s x H T P w) 5 20 T' = gm g m s x H T' P w := by
  funext k j
  by_cases hk : k = 5
  · subst hk
    rw [su_s]
    unfold upd gm
    simp only [if_true]
    by_cases hj : j = 20
    · subst hj; rfl
    · rw [if_neg hj, if_neg hj, if_neg hj]
  · rw [su_r hk, gm_r hk, gm_r hk]
theorem gm_w : su (gm g m s x H T P w) 5 (21 + w) (P w) = gm g m s x H T P (w + 1) := by
  funext k j
  by_cases hk : k = 5
  · subst hk
    rw [su_s]
    unfold upd gm
    simp only [if_true]
    by_cases hj : j = 21 + w
    · subst hj
      rw [if_pos rfl, if_neg (by omega), if_neg (by omega), if_neg (by omega), if_neg (by omega), if_neg (by omega), if_pos (by omega), show 21 + w - 21 = w by omega]
    · rw [if_neg hj]
      by_cases h2 : 21 ≤ j ∧ j < 21 + w
      · rw [if_pos h2, if_pos (show 21 ≤ j ∧ j < 21 + (w + 1) by omega)]
      · rw [if_neg h2, if_neg (show ¬ (21 ≤ j ∧ j < 21 + (w + 1)) by omega)]
  · rw [su_r hk, gm_r hk, gm_r hk]
theorem gm_init : su (su (su (su (su g 5 16 m) 5 17 s) 5 18 x) 5 19 H) 5 20 T = gm g m s x H T P 0 := by
  funext k j
  by_cases hk : k = 5
  · subst hk
    rw [su_s, su_s, su_s, su_s, su_s]
    unfold upd gm
    simp only [if_true]
    by_cases h1 : j = 16
    · subst h1; rfl
    · by_cases h2 : j = 17
      · subst h2; rfl
      · by_cases h3 : j = 18
        · subst h3; rfl
        · by_cases h4 : j = 19
          · subst h4; rfl
          · by_cases h5 : j = 20
            · subst h5; rfl
            · simp [h1, h2, h3, h4, h5]
              omega
  · rw [su_r hk, su_r hk, su_r hk, su_r hk, su_r hk, gm_r hk]
theorem cm_init : su (su (su f 19 1 m) 19 2 s) 19 3 x = cm f m s x (f 19 4) (f 19 5) P 0 := by
  funext k j
  by_cases hk : k = 19
  · subst hk
    rw [su_s, su_s, su_s]
    unfold upd cm
    simp only [if_true]
    by_cases h1 : j = 1
    · subst h1; rfl
    · by_cases h2 : j = 2
      · subst h2; rfl
      · by_cases h3 : j = 3
        · subst h3; rfl
        · by_cases h4 : j = 4
          · subst h4; rfl
          · by_cases h5 : j = 5
            · subst h5; rfl
            · simp [h1, h2, h3, h4, h5]
              omega
  · rw [su_r hk, su_r hk, su_r hk, cm_r hk]
theorem cm_H {H' : Int32} : su (cm f m s x H T P w) 19 4 H' = cm f m s x H' T P w := by
  funext k j
  by_cases hk : k = 19
  · subst hk
    rw [su_s]
    unfold upd cm
    simp only [if_true]
    by_cases hj : j = 4
    · subst hj; rfl
    · rw [if_neg hj, if_neg hj, if_neg hj]
  · rw [su_r hk, cm_r hk, cm_r hk]
theorem cm_T {T' : Int32} : su (cm f m s x H T P w) 19 5 T' = cm f m s x H T' P w := by
  funext k j
  by_cases hk : k = 19
  · subst hk
    rw [su_s]
    unfold upd cm
    simp only [if_true]
    by_cases hj : j = 5
    · subst hj; rfl
    · rw [if_neg hj, if_neg hj, if_neg hj]
  · rw [su_r hk, cm_r hk, cm_r hk]
theorem cm_w : su (cm f m s x H T P w) 19 (21 + w) (P w) = cm f m s x H T P (w + 1) := by
  funext k j
  by_cases hk : k = 19
  · subst hk
    rw [su_s]
    unfold upd cm
    simp only [if_true]
    by_cases hj : j = 21 + w
    · subst hj
      rw [if_pos rfl, if_neg (by omega), if_neg (by omega), if_neg (by omega), if_neg (by omega), if_neg (by omega), if_pos (by omega), show 21 + w - 21 = w by omega]
    · rw [if_neg hj]
      by_cases h2 : 21 ≤ j ∧ j < 21 + w
      · rw [if_pos h2, if_pos (show 21 ≤ j ∧ j < 21 + (w + 1) by omega)]
      · rw [if_neg h2, if_neg (show ¬ (21 ≤ j ∧ j < 21 + (w + 1)) by omega)]
  · rw [su_r hk, cm_r hk, cm_r hk]
theorem NowOK.gm {W N : Nat} (hN : N ≤ 7) (h : NowOK W N (g 5)) {q : Nat} (hq : q < 128) (hH : H = nI q) : NowOK W N (gm g m s x H T P w 5) := by
  obtain ⟨⟨hW, b1, b2, b3⟩, hp, -⟩ := h
  refine ⟨⟨hW, by rw [gm_lo (by omega)]; exact b1, by rw [gm_lo (by omega)]; exact b2, fun k hk => by rw [gm_lo (by omega)]; exact b3 k hk⟩, fun v hv => by rw [gm_lo (by omega)]; exact hp v hv, q, hq, by rw [gm_19]; exact hH⟩
theorem GOK.gm {W S N : Nat} (h : GOK W S N g) {q : Nat} (hq : q < 128) (hH : H = nI q) : GOK W S N (gm g m s x H T P w) := by
  obtain ⟨h0, h1, h2, h3, h4⟩ := h
  refine ⟨h0, ?_, ?_, ?_, h4.gm h0.2.2 hq hH⟩
  · rw [gm_r (by omega)]; exact h1
  · rw [gm_r (by omega), gm_r (by omega)]; exact h2
  · rw [gm_r (by omega), gm_r (by omega)]; exact h3
theorem V.cm {W S N : Nat} (h : V W S N f g) {q : Nat} (hq : q < 128) (hH : H = nI q) : V W S N (cm f m s x H T P w) (gm g m s x H T P w) := by
  have hN := h.N7
  have hW := h.W8
  obtain ⟨r0, r1, r2, r3, r4, r5, rk, rp, rs⟩ := h.row
  refine ⟨h.1.mv (cm_r (by omega)) (cm_r (by omega)) (cm_r (by omega)) (cm_r (by omega)) (cm_r (by omega)) (by rw [gm_r (by omega)]) (by rw [gm_r (by omega)]) (by rw [gm_r (by omega)]) (gm_r (by omega)) (gm_r (by omega)) (gm_r (by omega)) (gm_r (by omega)), ⟨?_, rfl, rfl, rfl, rfl, rfl, fun k hk => ?_, fun k hk => ?_, fun k hk => ?_⟩, h.2.2.gm hN hq hH⟩
  · rw [gm_lo (by omega)]; exact r0
  · rw [gm_lo (by omega), ← rk k hk]
    unfold Jvm.Pilot.CFourWallsLaw_law_r9678_762e2c.cm
    rw [if_pos rfl, if_neg (by omega), if_neg (by omega), if_neg (by omega), if_neg (by omega), if_neg (by omega), if_neg (by omega)]
  · rw [gm_lo (by omega), ← rp k hk]
    unfold Jvm.Pilot.CFourWallsLaw_law_r9678_762e2c.cm
    rw [if_pos rfl, if_neg (by omega), if_neg (by omega), if_neg (by omega), if_neg (by omega), if_neg (by omega), if_neg (by omega)]
  · have hr := rs k hk
    rw [cm_hi (by omega), gm_hi (by omega), hr]
theorem lz_gm {W S N : Nat} (h : GOK W S N g) {a X v : Nat} (hX : X ≤ W) (hv : v < N) : lz (gm g m s x H T P w) a X v = lz g a X v := by
  obtain ⟨⟨hW, hS, hN⟩, -, -, -, hB, hp, -⟩ := h
  obtain ⟨y, hy, ey⟩ := hp v hv
  unfold lz
  rw [gm_r (k := 1) (by omega), gm_lo (j := 9 + v) (by omega), ey, nI_clamp (by omega)]
  unfold loudZ
  rw [gm_lo (j := 8) (by omega), lsum_congr (q := g 5) _ _ (fun k h1 h2 => gm_lo (by omega))]
theorem hr_gm {W S N : Nat} (h : GOK W S N g) {a X v : Nat} (hX : X ≤ W) (hv : v < N) : hr (gm g m s x H T P w) v a X = hr g v a X := by
  unfold hr
  rw [lz_gm h hX hv, gm_r (by omega)]
theorem ht_gm {W S N : Nat} (h : GOK W S N g) {a X v : Nat} (hX : X ≤ W) (hv : v < N) : ht (gm g m s x H T P w) v a X = ht g v a X := by
  unfold ht
  rw [lz_gm h hX hv, gm_r (by omega)]
theorem sy_gm {W S N : Nat} (h : GOK W S N g) {a X v : Nat} (hX : X ≤ W) (hv : v < N) : sy (gm g m s x H T P w) v a X = sy g v a X := by
  unfold sy wid
  rw [hr_gm h hX hv, ht_gm h hX hv, gm_r (k := 4) (by omega), gm_r (k := 2) (by omega), gm_r (k := 0) (by omega)]
end GM
theorem mor_loop {W S N : Nat} {g : St} (h : GOK W S N g) {s X : Nat} (hs : s < S) (hX : X ≤ W) (m : Int32) : ∀ d n w H T : Nat, w + d = N → d < n → H < 2 ^ 7 → T < 2 ^ 7 → f_X12_morningOf_b45 n (nI s) (nI X) (nI w) (gm g m (nI s) (nI X) (nI H) (nI T) (fun v => sy g v s X) w) = some (gm g m (nI s) (nI X) (nI (orN (fun v => hr g v s X) H w d)) (nI (orN (fun v => ht g v s X) T w d)) (fun v => sy g v s X) N) := by
  have hN := h.1.2.2
  intro d
  induction d with
  | zero =>
    intro n w H T h1 h2 h3 h4
    obtain ⟨n, rfl⟩ : ∃ m, n = m + 1 := ⟨n - 1, by omega⟩
    simp only [f_X12_morningOf_b45, f_X12_morningOf_b45s]
    rw [gm_r (k := 0) (by omega), h.2.1.2.2, if_pos (nI_le (by omega) (by omega)), show w = N by omega]
    rfl
  | succ d ih =>
    intro n w H T h1 h2 h3 h4
    obtain ⟨n, rfl⟩ : ∃ m, n = m + 1 := ⟨n - 1, by omega⟩
    have e19 : (19 : Int32).toNatClampNeg = 19 := rfl
    have e20 : (20 : Int32).toNatClampNeg = 20 := rfl
    have c19 : ∀ {ρ : Type} (k : Option ρ), ck (19 : Int32) 28 k = k := fun k => ck_n (i := 19) (by omega) (by omega)
    have c20 : ∀ {ρ : Type} (k : Option ρ), ck (20 : Int32) 28 k = k := fun k => ck_n (i := 20) (by omega) (by omega)
    have or0 : ∀ a : Nat, nI a ||| (0 : Int32) = nI a := fun a => (i_or a 0).trans (by rw [Nat.or_zero])
    have last : ∀ H' T' : Nat, H' < 2 ^ 7 → T' < 2 ^ 7 → ∀ (a b : Int32), nI T ||| b = nI T' → f_X12_morningOf_b105 (f_X12_morningOf_b45 n) (nI s) (nI X) (nI w) (20 : Int32) (nI T) b (gm g m (nI s) (nI X) (nI H') (nI T) (fun v => sy g v s X) w) = some (gm g m (nI s) (nI X) (nI (orN (fun v => hr g v s X) H' (w + 1) d)) (nI (orN (fun v => ht g v s X) T' (w + 1) d)) (fun v => sy g v s X) N) := by
      intro H' T' hH' hT' a b hb
      unfold f_X12_morningOf_b105
      rw [c20, e20, hb, gm_T, m_saying (mkV (h.gm hH' rfl)) (show w < N by omega) hs hX]
      simp only [Option.bind_some]
      rw [show (21 : Int32) + nI w = nI (21 + w) from nI_add 21 w, ck_n (by omega) (by omega), nI_clamp (by omega), sy_gm h hX (show w < N by omega), gm_w (P := fun v => sy g v s X), nI_1]
      exact ih n (w + 1) H' T' (by omega) (by omega) hH' hT'
    have mid : ∀ H' : Nat, H' < 2 ^ 7 → ∀ b : Int32, nI H ||| b = nI H' → f_X12_morningOf_b78 (f_X12_morningOf_b45 n) (nI s) (nI X) (nI w) (19 : Int32) (nI H) b (gm g m (nI s) (nI X) (nI H) (nI T) (fun v => sy g v s X) w) = some (gm g m (nI s) (nI X) (nI (orN (fun v => hr g v s X) H' (w + 1) d)) (nI (orN (fun v => ht g v s X) T w (d + 1))) (fun v => sy g v s X) N) := by
      intro H' hH' b hb
      unfold f_X12_morningOf_b78
      rw [c19, c20, e19, e20, hb, gm_H, m_hearsTone (mkV (h.gm hH' rfl)) (show w < N by omega) hs hX]
      simp only [Option.bind_some]
      rw [ht_gm h hX (show w < N by omega), gm_20, orN_s]
      cases ht g w s X
      · simp only [b2i_f, if0]
        exact last H' T hH' h4 0 0 (or0 T)
      · simp only [b2i_t, if1]
        rw [bit_n w (by omega)]
        exact last H' (T ||| 2 ^ w) hH' (Nat.or_lt_two_pow h4 (Nat.pow_lt_pow_right (by omega) (by omega))) 0 _ (i_or T (2 ^ w))
    simp only [f_X12_morningOf_b45, f_X12_morningOf_b45s]
    rw [gm_r (k := 0) (by omega), h.2.1.2.2, if_neg (nI_ge (by omega) (by omega)), c19, e19, m_hears (mkV (h.gm h3 rfl)) (show w < N by omega) hs hX]
    simp only [Option.bind_some]
    rw [hr_gm h hX (show w < N by omega), gm_19, orN_s (P := fun v => hr g v s X)]
    cases hr g w s X
    · simp only [b2i_f, if0]
      exact mid H h3 0 (or0 H)
    · simp only [b2i_t, if1]
      rw [bit_n w (by omega)]
      exact mid (H ||| 2 ^ w) (Nat.or_lt_two_pow h3 (Nat.pow_lt_pow_right (by omega) (by omega))) _ (i_or H (2 ^ w))
theorem m_morningOf {W S N : Nat} {g : St} (h : GOK W S N g) {s X : Nat} (hs : s < S) (hX : X ≤ W) : f_X12_morningOf (nI s) (nI X) g = some (gm g (g 5 16 + 1) (nI s) (nI X) (nI (orN (fun v => hr g v s X) 0 0 N)) (nI (orN (fun v => ht g v s X) 0 0 N)) (fun v => sy g v s X) N) := by
  have hN := h.1.2.2
  have c : ∀ (k : Nat) {ρ : Type} (z : Option ρ), k < 28 → ck (nI k) 28 z = z := fun k ρ z hk => ck_n hk (by omega)
  have hl := mor_loop h hs hX (g 5 16 + 1) N fuB 0 0 0 (by omega) (by unfold fuB; omega) (by omega) (by omega)
  rw [← gm_init] at hl
  unfold f_X12_morningOf
  rw [show (16 : Int32) = nI 16 from rfl, show (17 : Int32) = nI 17 from rfl, show (18 : Int32) = nI 18 from rfl, show (19 : Int32) = nI 19 from rfl, show (20 : Int32) = nI 20 from rfl, c 16 _ (by omega), c 16 _ (by omega), c 17 _ (by omega), c 18 _ (by omega), c 19 _ (by omega), c 20 _ (by omega)]
  exact hl
theorem swe_loop {W S N : Nat} {f g : St} (h : V W S N f g) {s X : Nat} (hs : s < S) (hX : X ≤ W) (m T : Int32) {H : Nat} (hH : H < 128) : ∀ d n w : Nat, w + d = N → d < n → f_X11_swear_b74 n (nI s) (nI X) (nI w) (cm f m (nI s) (nI X) (nI H) T (fun v => sy g v s X) w) = some (cm f m (nI s) (nI X) (nI H) T (fun v => sy g v s X) N) := by
  have hN := h.N7
  intro d
  induction d with
  | zero =>
    intro n w h1 h2
    obtain ⟨n, rfl⟩ : ∃ m, n = m + 1 := ⟨n - 1, by omega⟩
    simp only [f_X11_swear_b74, f_X11_swear_b74s]
    rw [cm_r (k := 3) (by omega), h.fN, if_pos (nI_le (by omega) (by omega)), show w = N by omega]
  | succ d ih =>
    intro n w h1 h2
    obtain ⟨n, rfl⟩ : ∃ m, n = m + 1 := ⟨n - 1, by omega⟩
    simp only [f_X11_swear_b74, f_X11_swear_b74s]
    rw [cm_r (k := 3) (by omega), h.fN, if_neg (nI_ge (by omega) (by omega)), c_saying (h.cm hH rfl) (show w < N by omega) hs hX]
    simp only [Option.bind_some]
    rw [sy_gm h.gok hX (show w < N by omega), show (21 : Int32) + nI w = nI (21 + w) from nI_add 21 w, c_put _ (by omega)]
    simp only [Option.bind_some]
    rw [cm_w (P := fun v => sy g v s X), nI_1]
    exact ih n (w + 1) (by omega) (by omega)
theorem swe_all {W S N : Nat} {f g : St} (h : V W S N f g) {s X : Nat} (hs : s < S) (hX : X ≤ W) (m T : Int32) {H : Nat} (hH : H < 128) : f_X11_swear_b74 fuB (nI s) (nI X) (0 : Int32) (cm f m (nI s) (nI X) (nI H) T (fun v => sy g v s X) 0) = some (cm f m (nI s) (nI X) (nI H) T (fun v => sy g v s X) N) := by
  have hN := h.N7
  exact swe_loop h hs hX m T hH N fuB 0 (by omega) (by unfold fuB; omega)
