/-! How thick a wall hides it -/
theorem jmax_t {a b : Int32} : (jmax a b).toInt = max a.toInt b.toInt := by
  unfold jmax
  by_cases h : a < b
  · rw [if_pos h]; rw [lt_t] at h; omega
  · rw [if_neg h]; rw [lt_t] at h; omega
theorem su_self {f : St} {k j : Nat} : su f k j (f k j) = f := by
  funext a b
  by_cases h : a = k
  · subst h
    rw [su_s]
    by_cases h2 : b = j
    · subst h2; rw [upd_s]
    · rw [upd_n h2]
  · rw [su_r h]
theorem su_su {f : St} {k j : Nat} {u v : Int32} : su (su f k j u) k j v = su f k j v := by
  funext a b
  by_cases h : a = k
  · subst h
    rw [su_s, su_s, su_s]
    by_cases h2 : b = j
    · subst h2; rw [upd_s, upd_s]
    · rw [upd_n h2, upd_n h2, upd_n h2]
  · rw [su_r h, su_r h, su_r h]
theorem lsum_upd {r : Nat → Int32} {k0 : Nat} {v : Int32} : ∀ d lo : Nat, lsum (upd r k0 v) lo d = lsum r lo d + (if lo ≤ k0 ∧ k0 < lo + d then v.toInt - (r k0).toInt else 0) := by
  intro d
  induction d with
  | zero =>
    intro lo
    rw [if_neg (by omega)]
    simp [lsum]
  | succ d ih =>
    intro lo
    rw [lsum_s, lsum_s, ih (lo + 1)]
    by_cases h : lo = k0
    · subst h
      rw [upd_s, if_neg (by omega), if_pos (by omega)]
      omega
    · rw [upd_n h]
      by_cases h2 : lo + 1 ≤ k0 ∧ k0 < lo + 1 + d
      · rw [if_pos h2, if_pos (by omega)]; omega
      · rw [if_neg h2, if_neg (by omega)]; omega
theorem anyN_false {P : Nat → Bool} : ∀ d y : Nat, anyN P y d = false ↔ ∀ k, y ≤ k → k < y + d → P k = false := by
  intro d
  induction d with
  | zero => intro y; exact ⟨fun _ k h1 h2 => absurd h2 (by omega), fun _ => rfl⟩
  | succ d ih =>
    intro y
    rw [anyN_s, Bool.or_eq_false_iff, ih (y + 1)]
    constructor
    · rintro ⟨h1, h2⟩ k hk1 hk2
      by_cases e : k = y
      · rw [e]; exact h1
      · exact h2 k (by omega) (by omega)
    · intro h
      exact ⟨h y (by omega) (by omega), fun k hk1 hk2 => h k (by omega) (by omega)⟩
def btw (g : St) (k0 X v : Nat) : Bool := decide (min X (g 5 (9 + v)).toNatClampNeg ≤ k0 ∧ k0 < max X (g 5 (9 + v)).toNatClampNeg)
def hq (g : St) (k0 s X v x : Nat) : Prop := lz g s X v - (if btw g k0 X v then (x : Int) - (g 5 k0).toInt else 0) < (g 3 v).toInt
theorem hr_su {W S N : Nat} {f g : St} (h : V W S N f g) {k0 s X v x : Nat} (hk : k0 < W) (hx : x < 100) : hr (su g 5 k0 (nI x)) v s X = false ↔ hq g k0 s X v x := by
  have hW := h.W8
  have e9 : su g 5 k0 (nI x) 5 (9 + v) = g 5 (9 + v) := by rw [su_s, upd_n (by omega)]
  have e8 : su g 5 k0 (nI x) 5 8 = g 5 8 := by rw [su_s, upd_n (by omega)]
  have e : lz (su g 5 k0 (nI x)) s X v = lz g s X v - (if btw g k0 X v then (x : Int) - (g 5 k0).toInt else 0) := by
    unfold lz
    rw [e9]
    unfold loudZ
    rw [e8, su_r (k' := 1) (by omega), su_s, lsum_upd, nI_toInt (by omega)]
    unfold btw
    simp only [decide_eq_true_eq]
    generalize (g 5 (9 + v)).toNatClampNeg = y
    rw [show min X y + (max X y - min X y) = max X y by omega]
    split <;> omega
  unfold hr hq
  rw [e, su_r (k' := 3) (by omega), decide_eq_false_iff_not, Int.not_le]
def Lst (P : Nat → Prop) (r : Int32) : Prop := (r = -1 ∧ ∀ x, x ≤ 99 → ¬ P x) ∨ (∃ j, j ≤ 99 ∧ r = nI j ∧ P j ∧ ∀ x, P x → j ≤ x)
theorem Lst.uniq {P : Nat → Prop} {r q : Int32} (h : Lst P r) (k : Lst P q) : r = q := by
  rcases h with ⟨h1, h2⟩ | ⟨j, h1, h2, h3, h4⟩
  · rcases k with ⟨k1, k2⟩ | ⟨i, k1, k2, k3, k4⟩
    · rw [h1, k1]
    · exact absurd k3 (h2 i k1)
  · rcases k with ⟨k1, k2⟩ | ⟨i, k1, k2, k3, k4⟩
    · exact absurd h3 (k2 j h1)
    · rw [h2, k2, show i = j from Nat.le_antisymm (k4 j h3) (h4 i k3)]
theorem Lst.congr {P Q : Nat → Prop} {r : Int32} (h : Lst P r) (e : ∀ x, P x ↔ Q x) : Lst Q r := by
  have : P = Q := funext fun x => propext (e x)
  rwa [← this]
theorem hid_loop {W S N : Nat} {f g : St} (h : V W S N f g) {s X k0 : Nat} (hs : s < S) (hX : X ≤ W) (hk : k0 < W) : ∀ d n w a : Nat, w + d = N → d < n → a ≤ 3000 → ∃ r, f_X10_hidingThickness_30_b6 n (nI k0) (nI s) (nI X) (nI a) (nI w) f = some r ∧ Lst (fun x => a ≤ x ∧ ∀ v, w ≤ v → v < N → hq g k0 s X v x) r := by
  have hN := h.N7
  have hW := h.W8
  intro d
  induction d with
  | zero =>
    intro n w a h1 h2 h3
    obtain ⟨n, rfl⟩ : ∃ m, n = m + 1 := ⟨n - 1, by omega⟩
    simp only [f_X10_hidingThickness_30_b6, f_X10_hidingThickness_30_b6s]
    rw [h.fN, if_pos (nI_le (by omega) (by omega)), show (99 : Int32) = nI 99 from rfl]
    by_cases ha : a ≤ 99
    · rw [if_pos (nI_le ha (by omega))]
      exact ⟨_, rfl, Or.inr ⟨a, ha, rfl, ⟨by omega, fun v hv1 hv2 => absurd hv2 (by omega)⟩, fun x hx => hx.1⟩⟩
    · rw [if_neg (nI_ge (by omega) (by omega))]
      exact ⟨_, rfl, Or.inl ⟨rfl, fun x hx hp => absurd hp.1 (by omega)⟩⟩
  | succ d ih =>
    intro n w a h1 h2 h3
    obtain ⟨n, rfl⟩ : ∃ m, n = m + 1 := ⟨n - 1, by omega⟩
    obtain ⟨y, hy, e1, e2⟩ := h.spot (w := w) (by omega)
    obtain ⟨m, hm, hz⟩ := c_margin h (w := w) (by omega) hs hX
    have hb := lz_bd h hs hX (w := w) (by omega)
    have hwt := h.wit (w := w) (by omega)
    have hth := h.nowB.2.2.2 k0 hk
    have key : ∀ x, (a ≤ x ∧ ∀ v, w ≤ v → v < N → hq g k0 s X v x) ↔ (a ≤ x ∧ hq g k0 s X w x ∧ ∀ v, w + 1 ≤ v → v < N → hq g k0 s X v x) := by
      intro x
      constructor
      · rintro ⟨q1, q2⟩
        exact ⟨q1, q2 w (by omega) (by omega), fun v hv1 hv2 => q2 v (by omega) hv2⟩
      · rintro ⟨q1, q2, q3⟩
        refine ⟨q1, fun v hv1 hv2 => ?_⟩
        by_cases e : v = w
        · rw [e]; exact q2
        · exact q3 v (by omega) hv2
    have t0 : (0 : Int32).toInt = 0 := rfl
    have nb : ¬ btw g k0 X w = true → ∃ r, f_X10_hidingThickness_30_b70 (fun i1 i2 i3 i4 i5 => f_X10_hidingThickness_30_b6 n i1 i2 i3 i4 i5 f) (nI k0) (nI s) (nI X) (nI a) (nI w) m (0 : Int32) f = some r ∧ Lst (fun x => a ≤ x ∧ ∀ v, w ≤ v → v < N → hq g k0 s X v x) r := by
      intro hnb
      unfold f_X10_hidingThickness_30_b70 f_X10_hidingThickness_30_b110
      rw [if0]
      have hqe : ∀ x, hq g k0 s X w x ↔ m.toInt < 0 := by
        intro x
        unfold hq
        rw [if_neg hnb]
        omega
      by_cases hm0 : m < 0
      · rw [if_pos hm0, nI_1]
        rw [lt_t] at hm0
        obtain ⟨r, hr1, hr2⟩ := ih n (w + 1) a (by omega) (by omega) h3
        refine ⟨r, hr1, hr2.congr fun x => ?_⟩
        rw [key x, hqe x]
        exact ⟨fun q => ⟨q.1, by omega, q.2⟩, fun q => ⟨q.1, q.2.2⟩⟩
      · rw [if_neg hm0]
        rw [lt_t] at hm0
        refine ⟨_, rfl, Or.inl ⟨rfl, fun x hx hp => ?_⟩⟩
        have := (hqe x).mp (hp.2 w (by omega) (by omega))
        omega
    simp only [f_X10_hidingThickness_30_b6, f_X10_hidingThickness_30_b6s]
    rw [h.fN, if_neg (nI_ge (by omega) (by omega)), bind_e hm, show (14 : Int32) + nI w = nI (14 + w) from nI_add 14 w, bind_e (c_get (14 + w) (by omega)), h.row.2.2.2.2.2.2.2.1 w (by omega), e1, jmin_n (by omega) (by omega), jmax_n (by omega) (by omega)]
    unfold f_X10_hidingThickness_30_b69
    by_cases b1 : k0 < min X y
    · rw [if_pos (nI_lt b1 (by omega))]
      exact nb (by unfold btw; rw [e2, decide_eq_true_eq]; omega)
    · rw [if_neg (nI_nlt (by omega) (by omega))]
      by_cases b2 : max X y ≤ k0
      · rw [if_pos (nI_le b2 (by omega))]
        exact nb (by unfold btw; rw [e2, decide_eq_true_eq]; omega)
      · rw [if_neg (nI_ge (by omega) (by omega))]
        unfold f_X10_hidingThickness_30_b70 f_X10_hidingThickness_30_b110 nm
        rw [if1, show (6 : Int32) + nI k0 = nI (6 + k0) from nI_add 6 k0, bind_e (c_get (6 + k0) (by omega)), h.row.2.2.2.2.2.2.1 k0 hk, nI_1]
        have hbt : btw g k0 X w = true := by unfold btw; rw [e2, decide_eq_true_eq]; omega
        have t1 : (1 : Int32).toInt = 1 := rfl
        have ta := nI_toInt (n := a) (by omega)
        have te : (m + g 5 k0 + 1 : Int32).toInt = m.toInt + (g 5 k0).toInt + 1 := by
          rw [t_add (by rw [t_add (by omega) (by omega)]; omega) (by rw [t_add (by omega) (by omega)]; omega), t_add (by omega) (by omega), t1]
        have ej : jmax (nI a) (m + g 5 k0 + 1) = nI (max a (m.toInt + (g 5 k0).toInt + 1).toNat) := by
          rw [eq_t, jmax_t, te, ta, nI_toInt (by omega)]
          omega
        rw [ej]
        obtain ⟨r, hr1, hr2⟩ := ih n (w + 1) (max a (m.toInt + (g 5 k0).toInt + 1).toNat) (by omega) (by omega) (by omega)
        refine ⟨r, hr1, hr2.congr fun x => ?_⟩
        rw [key x]
        have hqe : hq g k0 s X w x ↔ m.toInt + (g 5 k0).toInt + 1 ≤ x := by
          unfold hq
          rw [if_pos hbt]
          omega
        rw [hqe]
        constructor
        · rintro ⟨q1, q2⟩
          exact ⟨by omega, by omega, q2⟩
        · rintro ⟨q1, q2, q3⟩
          exact ⟨by omega, q3⟩
theorem hid_all {W S N : Nat} {f g : St} (h : V W S N f g) {s X k0 : Nat} (hs : s < S) (hX : X ≤ W) (hk : k0 < W) : ∃ r, f_X10_hidingThickness_30 (nI k0) (nI s) (nI X) f = some r ∧ Lst (fun x => ∀ v, v < N → hq g k0 s X v x) r := by
  have hN := h.N7
  obtain ⟨r, h1, h2⟩ := hid_loop h hs hX hk N fuB 0 0 (by omega) (by unfold fuB; omega) (by omega)
  exact ⟨r, h1, h2.congr fun x => ⟨fun q v hv => q.2 v (by omega) hv, fun q => ⟨by omega, fun v _ hv => q v hv⟩⟩⟩
theorem t99 {d : Nat} (h : d ≤ 99) : 0 ≤ (nI d).toInt ∧ (nI d).toInt ≤ 99 := by
  have := nI_toInt (n := d) (by omega)
  exact ⟨by omega, by omega⟩
theorem tdm {d : Nat} (h : d < 1000) : (nI d + (-1) : Int32).toInt = (d : Int) - 1 := by
  have td := nI_toInt (n := d) (by omega)
  have tm : (-1 : Int32).toInt = -1 := rfl
  rw [t_add (by omega) (by omega)]; omega
theorem hidm_loop {W S N : Nat} {f g : St} (h : V W S N f g) {s X k0 : Nat} (hs : s < S) (hX : X ≤ W) (hk : k0 < W) : ∀ (d n : Nat) (z r i6 : Int32), d ≤ 100 → d < n → i6.toInt = (d : Int) - 1 → ((r = -1 ∧ ∀ x, d ≤ x → x ≤ 99 → ¬ ∀ v, v < N → hq g k0 s X v x) ∨ (∃ j, j ≤ 99 ∧ r = nI j ∧ (∀ v, v < N → hq g k0 s X v j) ∧ ∀ x, d ≤ x → (∀ v, v < N → hq g k0 s X v x) → j ≤ x)) → ∃ r', f_X12_hides_b50 n (nI k0) (nI s) (nI X) (g 5 k0) r i6 (su g 5 k0 z) = some (r', g) ∧ Lst (fun x => ∀ v, v < N → hq g k0 s X v x) r' := by
  have hN := h.N7
  have hW := h.W8
  have t0 : (0 : Int32).toInt = 0 := rfl
  intro d
  induction d with
  | zero =>
    intro n z r i6 h1 h2 h3 h4
    obtain ⟨n, rfl⟩ : ∃ m, n = m + 1 := ⟨n - 1, by omega⟩
    simp only [f_X12_hides_b50, f_X12_hides_b50s]
    rw [if_pos (by rw [lt_t]; omega), ck_n (by omega) (by omega), nI_clamp (by omega), su_su, su_self]
    refine ⟨r, rfl, ?_⟩
    rcases h4 with ⟨a, b⟩ | ⟨j, a, b, c, e⟩
    · exact Or.inl ⟨a, fun x hx => b x (by omega) hx⟩
    · exact Or.inr ⟨j, a, b, c, fun x hx => e x (by omega) hx⟩
  | succ d ih =>
    intro n z r i6 h1 h2 h3 h4
    obtain ⟨n, rfl⟩ : ∃ m, n = m + 1 := ⟨n - 1, by omega⟩
    have hi : i6 = nI d := by rw [eq_t, nI_toInt (by omega)]; omega
    subst hi
    have td := nI_toInt (n := d) (by omega)
    have hb : 0 ≤ (nI d).toInt ∧ (nI d).toInt ≤ 99 := t99 (by omega)
    have hVd : V W S N (su f 19 (6 + k0) (nI d)) (su g 5 k0 (nI d)) := h.row5 (h.2.thick hN hk hb)
    simp only [f_X12_hides_b50, f_X12_hides_b50s]
    rw [if_neg (by rw [lt_t]; omega), ck_n (by omega) (by omega), nI_clamp (by omega), su_su, bind_e (m_isHeard hVd hs hX)]
    unfold f_X12_hides_b79
    have hp : heard (su g 5 k0 (nI d)) N s X = false ↔ ∀ v, v < N → hq g k0 s X v d := by
      unfold heard
      rw [anyN_false]
      exact ⟨fun q v hv => (hr_su h hk (by omega)).mp (q v (by omega) (by omega)), fun q v _ hv => (hr_su h hk (by omega)).mpr (q v (by omega))⟩
    cases hh : heard (su g 5 k0 (nI d)) N s X
    · rw [b2i_f, if0]
      have hpd := hp.mp hh
      refine ih n _ _ _ (by omega) (by omega) (tdm (by omega)) (Or.inr ⟨d, by omega, rfl, hpd, fun x hx hq => ?_⟩)
      exact hx
    · rw [b2i_t, if1]
      have hpd : ¬ ∀ v, v < N → hq g k0 s X v d := fun q => by rw [hp.mpr q] at hh; exact absurd hh (by decide)
      refine ih n _ _ _ (by omega) (by omega) (tdm (by omega)) ?_
      rcases h4 with ⟨a, b⟩ | ⟨j, a, b, c, e⟩
      · refine Or.inl ⟨a, fun x hx1 hx2 => ?_⟩
        by_cases ex : x = d
        · rw [ex]; exact hpd
        · exact b x (by omega) hx2
      · refine Or.inr ⟨j, a, b, c, fun x hx1 hx2 => ?_⟩
        by_cases ex : x = d
        · rw [ex] at hx2; exact absurd hx2 hpd
        · exact e x (by omega) hx2
theorem hidm_all {W S N : Nat} {f g : St} (h : V W S N f g) {s X k0 : Nat} (hs : s < S) (hX : X ≤ W) (hk : k0 < W) : ∃ r', f_X12_hides_b50 fuB (nI k0) (nI s) (nI X) (g 5 k0) (-1 : Int32) (99 : Int32) g = some (r', g) ∧ Lst (fun x => ∀ v, v < N → hq g k0 s X v x) r' := by
  have := hidm_loop h hs hX hk 100 fuB (g 5 k0) (-1) 99 (by omega) (by unfold fuB; omega) (by decide) (Or.inl ⟨rfl, fun x h1 h2 => absurd h2 (by omega)⟩)
  rwa [su_self] at this
theorem hides_eq {W S N : Nat} {f g : St} (h : V W S N f g) {s X k0 : Nat} (hs : s < S) (hX : X ≤ W) (hk : k0 < W) : ∃ r, f_X10_hidingThickness_30 (nI k0) (nI s) (nI X) f = some r ∧ f_X12_hides_b50 fuB (nI k0) (nI s) (nI X) (g 5 k0) (-1 : Int32) (99 : Int32) g = some (r, g) := by
  obtain ⟨r, h1, h2⟩ := hid_all h hs hX hk
  obtain ⟨q, k1, k2⟩ := hidm_all h hs hX hk
  rw [← h2.uniq k2] at k1
  exact ⟨r, h1, k1⟩
theorem sim_hides : Sim_hides Rel := by
  intro f g hR p1 p2 p3
  obtain ⟨W, S, N, hV, hT⟩ := id hR
  have hW := hV.W8
  rcases rng_cases p1 W with e | ⟨e, k0, hk, rfl⟩
  · refine ⟨(-1000000001 : Int32), f, g, ⟨?_, rfl⟩, ?_, hR⟩
    · unfold f_X11_hides f_X11_hides_b33
      rw [bind_e (c_isWall hV p1), e, b2i_f, if0]
    · unfold f_X12_hides f_X12_hides_b32
      rw [bind_e (m_isWall hV p1), e, b2i_f, if0]
  · rcases rng_cases p2 S with e2 | ⟨e2, s, hs, rfl⟩
    · refine ⟨(-1000000001 : Int32), f, g, ⟨?_, rfl⟩, ?_, hR⟩
      · unfold f_X11_hides f_X11_hides_b33
        rw [bind_e (c_isWall hV (nI k0)), e, b2i_t, if1, bind_e (c_isSound hV p2), e2, b2i_f, if0]
      · unfold f_X12_hides f_X12_hides_b32
        rw [bind_e (m_isWall hV (nI k0)), e, b2i_t, if1, bind_e (m_isSound hV p2), e2, b2i_f, if0]
    · rcases rng_cases p3 (pl W) with e3 | ⟨e3, X, hX, rfl⟩
      · refine ⟨(-1000000001 : Int32), f, g, ⟨?_, rfl⟩, ?_, hR⟩
        · unfold f_X11_hides f_X11_hides_b33
          rw [bind_e (c_isWall hV (nI k0)), e, b2i_t, if1, bind_e (c_isSound hV (nI s)), e2, b2i_t, if1, bind_e (c_isPlace hV p3), e3, b2i_f, if0]
        · unfold f_X12_hides f_X12_hides_b32
          rw [bind_e (m_isWall hV (nI k0)), e, b2i_t, if1, bind_e (m_isSound hV (nI s)), e2, b2i_t, if1, bind_e (m_isPlace hV p3), e3, b2i_f, if0]
      · obtain ⟨r, h1, h2⟩ := hides_eq hV hs (pl_W hX) hk
        refine ⟨r, f, g, ⟨?_, rfl⟩, ?_, hR⟩
        · unfold f_X11_hides f_X11_hides_b33
          rw [bind_e (c_isWall hV (nI k0)), e, b2i_t, if1, bind_e (c_isSound hV (nI s)), e2, b2i_t, if1, bind_e (c_isPlace hV (nI X)), e3, b2i_t, if1, bind_e h1]
        · unfold f_X12_hides f_X12_hides_b32
          rw [bind_e (m_isWall hV (nI k0)), e, b2i_t, if1, bind_e (m_isSound hV (nI s)), e2, b2i_t, if1, bind_e (m_isPlace hV (nI X)), e3, b2i_t, if1, ck_n (by omega) (by omega), nI_clamp (by omega)]
          exact h2
