/-! Rows copied; what can be undone -/
theorem cpF_0 {f : St} {ka kb a b : Nat} : cpF f ka kb a b 0 = f := by
  funext k j
  unfold cpF
  by_cases h : k = kb
  · subst h
    rw [if_pos rfl, if_neg (by omega)]
  · rw [if_neg h]
theorem cpF_step {f : St} {ka kb a b i : Nat} (h : ka ≠ kb) : su (cpF f ka kb a b i) kb (b + i) (f ka (a + i)) = cpF f ka kb a b (i + 1) := by
  funext k j
  by_cases hk : k = kb
  · subst hk
    rw [su_s]
    unfold cpF upd
    simp only [if_true]
    by_cases hj : j = b + i
    · subst hj
      rw [if_pos rfl, if_pos (by omega), show a + (b + i - b) = a + i by omega]
    · rw [if_neg hj]
      by_cases h2 : b ≤ j ∧ j < b + i
      · rw [if_pos h2, if_pos (by omega)]
      · rw [if_neg h2, if_neg (by omega)]
  · rw [su_r hk]
    unfold cpF
    rw [if_neg hk, if_neg hk]
theorem cpF_src {f : St} {ka kb a b i k : Nat} (h : k ≠ kb) : cpF f ka kb a b i k = f k := if_neg h
theorem cpF_dst {f : St} {ka kb a b i j : Nat} : cpF f ka kb a b i kb j = if b ≤ j ∧ j < b + i then f ka (a + (j - b)) else f kb j := by
  unfold cpF
  rw [if_pos rfl]
theorem cp_loop {f : St} {ka na kb nb a b c : Nat} (hab : ka ≠ kb) (ha : a + c ≤ na) (hb : b + c ≤ nb) (hna : na < 2 ^ 20) (hnb : nb < 2 ^ 20) : ∀ d n i : Nat, i + d = c → d < n → f_X7_copy_b3 ka na kb nb n (nI a) (nI b) (nI c) (nI i) (cpF f ka kb a b i) = some (cpF f ka kb a b c) := by
  intro d
  induction d with
  | zero =>
    intro n i h1 h2
    obtain ⟨n, rfl⟩ : ∃ m, n = m + 1 := ⟨n - 1, by omega⟩
    simp only [f_X7_copy_b3, f_X7_copy_b3s]
    rw [if_pos (nI_le (by omega) (by omega)), show i = c by omega]
  | succ d ih =>
    intro n i h1 h2
    obtain ⟨n, rfl⟩ : ∃ m, n = m + 1 := ⟨n - 1, by omega⟩
    simp only [f_X7_copy_b3, f_X7_copy_b3s]
    rw [if_neg (nI_ge (by omega) (by omega)), nI_add, nI_add, get_n (by omega) (by omega)]
    simp only [Option.bind_some]
    rw [put_n (by omega) (by omega)]
    simp only [Option.bind_some]
    rw [cpF_src hab, cpF_step hab, nI_1]
    exact ih n (i + 1) (by omega) (by omega)
theorem copy_n {f : St} {ka na kb nb a b c : Nat} (hab : ka ≠ kb) (ha : a + c ≤ na) (hb : b + c ≤ nb) (hna : na < 2 ^ 20) (hnb : nb < 2 ^ 20) (hc : c < 1000) : f_X7_copy ka na kb nb (nI a) (nI b) (nI c) f = some (cpF f ka kb a b c) := by
  have := cp_loop (f := f) hab ha hb hna hnb c fuB 0 (by omega) (by unfold fuB; omega)
  rw [cpF_0] at this
  exact this
theorem RowR.congr {W N : Nat} {row now row' now' : Nat → Int32} (hW : W ≤ 8) (hN : N ≤ 7) (h : RowR W N row now) (e1 : ∀ j, j < 28 → row' j = row j) (e2 : ∀ j, j < 28 → now' j = now j) : RowR W N row' now' := by
  obtain ⟨r0, r1, r2, r3, r4, r5, rk, rp, rs⟩ := h
  refine ⟨?_, ?_, ?_, ?_, ?_, ?_, fun k hk => ?_, fun k hk => ?_, fun k hk => ?_⟩
  · rw [e1 0 (by omega), e2 8 (by omega), r0]
  · rw [e1 1 (by omega), e2 16 (by omega), r1]
  · rw [e1 2 (by omega), e2 17 (by omega), r2]
  · rw [e1 3 (by omega), e2 18 (by omega), r3]
  · rw [e1 4 (by omega), e2 19 (by omega), r4]
  · rw [e1 5 (by omega), e2 20 (by omega), r5]
  · rw [e1 _ (by omega), e2 _ (by omega), rk k hk]
  · rw [e1 _ (by omega), e2 _ (by omega), rp k hk]
  · rw [e1 _ (by omega), e2 _ (by omega), rs k hk]
theorem NowOK.congr {W N : Nat} {now now' : Nat → Int32} (hN : N ≤ 7) (h : NowOK W N now) (e2 : ∀ j, j < 28 → now' j = now j) : NowOK W N now' := by
  obtain ⟨⟨hW, b1, b2, b3⟩, hp, m, hm, em⟩ := h
  refine ⟨⟨hW, by rw [e2 8 (by omega)]; exact b1, by rw [e2 8 (by omega)]; exact b2, fun k hk => by rw [e2 k (by omega)]; exact b3 k hk⟩, fun w hw => ?_, m, hm, by rw [e2 19 (by omega)]; exact em⟩
  rw [e2 _ (by omega)]
  exact hp w hw
theorem StR.congr {W N : Nat} {row now row' now' : Nat → Int32} (hW : W ≤ 8) (hN : N ≤ 7) (h : StR W N row now) (e1 : ∀ j, j < 28 → row' j = row j) (e2 : ∀ j, j < 28 → now' j = now j) : StR W N row' now' :=
  ⟨h.1.congr hW hN e1 e2, h.2.congr hN e2⟩
def pushC (f : St) (nx P : Nat) : St := su (su (cpF f 19 21 0 (nx * 28) 28) 20 1 (nI ((nx + 1) % 20))) 20 2 (nI (min (P + 1) 20))
theorem c_push {f : St} {nx P : Nat} (h1 : f 20 1 = nI nx) (h2 : f 20 2 = nI P) (hn : nx < 20) (hP : P ≤ 20) : f_X4_push_20_18 f = some (pushC f nx P) := by
  unfold f_X4_push_20_18
  rw [h1, show nI nx * (28 : Int32) = nI (nx * 28) from pk_mul nx 28, show f_X7_copy 19 28 21 560 (0 : Int32) (nI (nx * 28)) (28 : Int32) f = some (cpF f 19 21 0 (nx * 28) 28) from copy_n (a := 0) (c := 28) (by omega) (by omega) (by omega) (by omega) (by omega) (by omega)]
  simp only [Option.bind_some]
  have e1 : (cpF f 19 21 0 (nx * 28) 28) 20 1 = nI nx := by rw [cpF_src (by omega), h1]
  have e2 : (cpF f 19 21 0 (nx * 28) 28) 20 2 = nI P := by rw [cpF_src (by omega), h2]
  have e3 : ∀ v : Int32, f_X4_push_20_18_b43 v (cpF f 19 21 0 (nx * 28) 28) = some (su (su (cpF f 19 21 0 (nx * 28) 28) 20 1 v) 20 2 (nI (min (P + 1) 20))) := by
    intro v
    unfold f_X4_push_20_18_b43
    have e4 : (su (cpF f 19 21 0 (nx * 28) 28) 20 1 v) 20 2 = nI P := by rw [su_s, upd_n (by omega), e2]
    rw [e4, nI_1, show jmin (nI (P + 1)) (20 : Int32) = nI (min (P + 1) 20) from jmin_n (Y := 20) (by omega) (by omega)]
  rw [e1, nI_1]
  by_cases h : 20 ≤ nx + 1
  · rw [if_pos (show (20 : Int32) ≤ nI (nx + 1) from nI_le (a := 20) h (by omega)), e3]
    unfold pushC
    rw [show (nx + 1) % 20 = 0 by omega]
    rfl
  · rw [if_neg (show ¬ (20 : Int32) ≤ nI (nx + 1) from nI_ge (b := 20) (by omega) (by omega)), e3]
    unfold pushC
    rw [show (nx + 1) % 20 = nx + 1 by omega]
def pushM (g : St) (P : Nat) : St := if P = 20 then su (cpF (su (shF g 560) 0 25 (nI 19)) 5 13 0 532 28) 0 25 (nI 20) else su (cpF g 5 13 0 (28 * P) 28) 0 25 (nI (P + 1))
theorem rem_loop {g : St} {P : Nat} (hP : P < 20) (h : g 0 25 = nI P) : ∀ d n i : Nat, i + d = 28 → d < n → f_X12_remember_b52 n (nI i) (cpF g 5 13 0 (28 * P) i) = some (su (cpF g 5 13 0 (28 * P) 28) 0 25 (nI (P + 1))) := by
  intro d
  induction d with
  | zero =>
    intro n i h1 h2
    obtain ⟨n, rfl⟩ : ∃ m, n = m + 1 := ⟨n - 1, by omega⟩
    simp only [f_X12_remember_b52, f_X12_remember_b52s]
    rw [if_pos (show (28 : Int32) ≤ nI i from nI_le (a := 28) (by omega) (by omega)), cpF_src (by omega), h, nI_1, show i = 28 by omega]
  | succ d ih =>
    intro n i h1 h2
    obtain ⟨n, rfl⟩ : ∃ m, n = m + 1 := ⟨n - 1, by omega⟩
    simp only [f_X12_remember_b52, f_X12_remember_b52s]
    have e : (cpF g 5 13 0 (28 * P) i) 0 25 = nI P := by rw [cpF_src (by omega), h]
    rw [if_neg (show ¬ (28 : Int32) ≤ nI i from nI_ge (b := 28) (by omega) (by omega)), ck_n (by omega) (by omega), e, show (28 : Int32) * nI P = nI (28 * P) from pk_mul 28 P, nI_add, ck_n (by omega) (by omega), nI_clamp (by omega), nI_clamp (by omega), nI_1, cpF_src (by omega)]
    have st := cpF_step (f := g) (ka := 5) (kb := 13) (a := 0) (b := 28 * P) (i := i) (by omega)
    rw [Nat.zero_add] at st
    rw [st]
    exact ih n (i + 1) (by omega) (by omega)
theorem shF_28 {g : St} : shF g 28 = g := by
  funext k j
  unfold shF
  by_cases h : k = 13
  · subst h
    rw [if_pos rfl, if_neg (by omega)]
  · rw [if_neg h]
theorem shF_step {g : St} {i : Nat} (h : 28 ≤ i) : su (shF g i) 13 (i - 28) (g 13 i) = shF g (i + 1) := by
  funext k j
  by_cases hk : k = 13
  · subst hk
    rw [su_s]
    unfold shF upd
    simp only [if_true]
    by_cases hj : j = i - 28
    · subst hj
      rw [if_pos rfl, if_pos (by omega), show i - 28 + 28 = i by omega]
    · rw [if_neg hj]
      by_cases h2 : j + 28 < i
      · rw [if_pos h2, if_pos (by omega)]
      · rw [if_neg h2, if_neg (by omega)]
  · rw [su_r hk]
    unfold shF
    rw [if_neg hk, if_neg hk]
theorem shF_at {g : St} {i : Nat} : (shF g i) 13 i = g 13 i := by
  unfold shF
  rw [if_pos rfl, if_neg (by omega)]
theorem sh_loop {g : St} (h : g 0 25 = nI 20) : ∀ d n i : Nat, 28 ≤ i → i + d = 560 → d < n → f_X12_remember_b12 n (nI i) (shF g i) = f_X12_remember_b50 (su (shF g 560) 0 25 (nI 19)) := by
  intro d
  induction d with
  | zero =>
    intro n i h0 h1 h2
    obtain ⟨n, rfl⟩ : ∃ m, n = m + 1 := ⟨n - 1, by omega⟩
    simp only [f_X12_remember_b12, f_X12_remember_b12s]
    have e : (shF g i) 0 25 = nI 20 := by unfold shF; rw [if_neg (by omega), h]
    rw [if_pos (show (560 : Int32) ≤ nI i from nI_le (a := 560) (by omega) (by omega)), e, show nI 20 - (1 : Int32) = nI 19 from rfl, show i = 560 by omega]
  | succ d ih =>
    intro n i h0 h1 h2
    obtain ⟨n, rfl⟩ : ∃ m, n = m + 1 := ⟨n - 1, by omega⟩
    simp only [f_X12_remember_b12, f_X12_remember_b12s]
    rw [if_neg (show ¬ (560 : Int32) ≤ nI i from nI_ge (b := 560) (by omega) (by omega)), ck_n (by omega) (by omega), show nI i - (28 : Int32) = nI (i - 28) from pk_sub h0, ck_n (by omega) (by omega), nI_clamp (by omega), nI_clamp (by omega), shF_at, shF_step h0, nI_1]
    exact ih n (i + 1) (by omega) (by omega) (by omega)
theorem m_rem {g : St} {P : Nat} (hP : P ≤ 20) (h : g 0 25 = nI P) : f_X12_remember g = some (pushM g P) := by
  unfold f_X12_remember pushM
  rw [h]
  by_cases h20 : P = 20
  · subst h20
    rw [if_pos (show nI 20 = (20 : Int32) from rfl), if_pos rfl]
    have e1 := sh_loop h 532 fuB 28 (by omega) (by omega) (by unfold fuB; omega)
    rw [shF_28] at e1
    rw [show f_X12_remember_b12 fuB (28 : Int32) g = _ from e1]
    unfold f_X12_remember_b50
    have e2 := rem_loop (g := su (shF g 560) 0 25 (nI 19)) (P := 19) (by omega) (by rw [su_s, upd_s]) 28 fuB 0 (by omega) (by unfold fuB; omega)
    rw [cpF_0] at e2
    exact e2
  · rw [if_neg (show ¬ nI P = (20 : Int32) by rw [show (20 : Int32) = nI 20 from rfl]; rw [nI_eq (by omega) (by omega)]; exact h20), if_neg h20]
    unfold f_X12_remember_b50
    have e2 := rem_loop (g := g) (P := P) (by omega) h 28 fuB 0 (by omega) (by unfold fuB; omega)
    rw [cpF_0] at e2
    exact e2
theorem push_past {W N : Nat} {f g : St} (hW : W ≤ 8) (hN : N ≤ 7) (hS : StR W N (f 19) (g 5)) {P nx : Nat} (hP : P ≤ 20) (hn : nx < 20) (hall : ∀ i, i < P → StR W N (fun j => f 21 (28 * ((nx + 20 - P + i) % 20) + j)) (fun j => g 13 (28 * i + j))) : PastR W N (pushC f nx P) (pushM g P) := by
  refine ⟨min (P + 1) 20, (nx + 1) % 20, by omega, by omega, ?_, ?_, ?_, fun i hi => ?_⟩
  · unfold pushC
    rw [su_s, upd_n (by omega), su_s, upd_s]
  · unfold pushC
    rw [su_s, upd_s]
  · unfold pushM
    by_cases h : P = 20
    · subst h
      rw [if_pos rfl, su_s, upd_s]
      rfl
    · rw [if_neg h, su_s, upd_s, show min (P + 1) 20 = P + 1 by omega]
  · have eC : ∀ x, (pushC f nx P) 21 x = if nx * 28 ≤ x ∧ x < nx * 28 + 28 then f 19 (x - nx * 28) else f 21 x := by
      intro x
      unfold pushC
      rw [su_r (by omega), su_r (by omega), cpF_dst, Nat.zero_add]
    by_cases h20 : P = 20
    · subst h20
      have eM : ∀ x, (pushM g 20) 13 x = if 532 ≤ x ∧ x < 560 then g 5 (x - 532) else if x + 28 < 560 then g 13 (x + 28) else g 13 x := by
        intro x
        unfold pushM
        have e5 : (shF g 560) 5 = g 5 := by unfold shF; rw [if_neg (by omega)]
        have e13 : (shF g 560) 13 x = if x + 28 < 560 then g 13 (x + 28) else g 13 x := by unfold shF; rw [if_pos rfl]
        rw [if_pos rfl, su_r (by omega), cpF_dst, Nat.zero_add, su_r (by omega), su_r (by omega), e5, e13]
      by_cases hl : i = 19
      · subst hl
        refine hS.congr hW hN (fun j hj => ?_) (fun j hj => ?_)
        · show (pushC f nx 20) 21 _ = _
          rw [eC, if_pos (by omega)]
          congr 1
          omega
        · show (pushM g 20) 13 _ = _
          rw [eM, if_pos (by omega), show 28 * 19 + j - 532 = j by omega]
      · refine (hall (i + 1) (by omega)).congr hW hN (fun j hj => ?_) (fun j hj => ?_)
        · show (pushC f nx 20) 21 _ = _
          rw [eC, if_neg (by omega)]
          congr 1
          omega
        · show (pushM g 20) 13 _ = _
          rw [eM, if_neg (by omega), if_pos (by omega)]
          congr 1
          omega
    · have eM : ∀ x, (pushM g P) 13 x = if 28 * P ≤ x ∧ x < 28 * P + 28 then g 5 (x - 28 * P) else g 13 x := by
        intro x
        unfold pushM
        rw [if_neg h20, su_r (by omega), cpF_dst, Nat.zero_add]
      by_cases hl : i = P
      · subst hl
        refine hS.congr hW hN (fun j hj => ?_) (fun j hj => ?_)
        · show (pushC f nx i) 21 _ = _
          rw [eC, if_pos (by omega)]
          congr 1
          omega
        · show (pushM g i) 13 _ = _
          rw [eM, if_pos (by omega)]
          congr 1
          omega
      · refine (hall i (by omega)).congr hW hN (fun j hj => ?_) (fun j hj => ?_)
        · show (pushC f nx P) 21 _ = _
          rw [eC, if_neg (by omega)]
          congr 1
          omega
        · show (pushM g P) 13 _ = _
          rw [eM, if_neg (by omega)]
theorem pushM_r {g : St} {P k : Nat} (h1 : k ≠ 13) (h0 : k ≠ 0) : pushM g P k = g k := by
  unfold pushM
  split
  · rw [su_r h0, cpF_src h1, su_r h0]
    unfold shF
    rw [if_neg h1]
  · rw [su_r h0, cpF_src h1]
theorem pushM_0 {g : St} {P j : Nat} (h : j ≠ 25) : pushM g P 0 j = g 0 j := by
  unfold pushM
  split
  · rw [su_s, upd_n h, cpF_src (by omega), su_s, upd_n h]
    unfold shF
    rw [if_neg (by omega)]
  · rw [su_s, upd_n h, cpF_src (by omega)]
theorem push_rel {W S N : Nat} {f g : St} (hV : V W S N f g) (hT : Rest W N f g) : ∃ f1 g1 : St, f_X4_push_20_18 f = some f1 ∧ f_X12_remember g = some g1 ∧ V W S N f1 g1 ∧ Rest W N f1 g1 ∧ f1 19 = f 19 ∧ g1 5 = g 5 := by
  obtain ⟨⟨P, nx, hP, hn, e1, e2, e3, hall⟩, h2, h3, h4, h5, h6, h7⟩ := id hT
  have p20 := @pushM_r g P
  refine ⟨pushC f nx P, pushM g P, c_push e1 e2 hn hP, m_rem hP e3, hV.mv (e3 := ?_) (e5 := ?_) (e6 := ?_) (e8 := ?_) (e9 := ?_) (e19 := ?_) (pushM_0 (by omega)) (pushM_0 (by omega)) (pushM_0 (by omega)) (pushM_r (by omega) (by omega)) (pushM_r (by omega) (by omega)) (pushM_r (by omega) (by omega)) (pushM_r (by omega) (by omega)) (pushM_r (by omega) (by omega)), ⟨push_past hV.W8 hV.N7 hV.2 hP hn hall, h2.mv (by simp [pushC, su, upd, cpF]) (by simp [pushC, su, upd, cpF]) (by simp [pushC, su, upd, cpF]) (by simp [pushC, su, upd, cpF]) (pushM_r (by omega) (by omega)) (pushM_r (by omega) (by omega)), h3.mv (by simp [pushC, su, upd, cpF]) (pushM_0 (by omega)), h4.mv (by simp [pushC, su, upd, cpF]) (by simp [pushC, su, upd, cpF]) (by simp [pushC, su, upd, cpF]) (pushM_0 (by omega)) (pushM_r (by omega) (by omega)) (pushM_r (by omega) (by omega)), h5.mv (by simp [pushC, su, upd, cpF]) (by simp [pushC, su, upd, cpF]) (pushM_0 (by omega)) (pushM_r (by omega) (by omega)), h6.mv (by simp [pushC, su, upd, cpF]) (by simp [pushC, su, upd, cpF]) (pushM_0 (by omega)) (pushM_r (by omega) (by omega)), ?_⟩, ?_, pushM_r (by omega) (by omega)⟩
  all_goals first | (simp [pushC, su, upd, cpF]; done) | skip
  rw [pushM_0 (by omega), ← h7]
  simp [pushC, su, upd, cpF]
