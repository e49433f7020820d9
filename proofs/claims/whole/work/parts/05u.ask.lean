/-! Whom to ask next -/
def gpL : List Nat → (Nat → Int32) → Int32 → Int32
  | [], _, b => b
  | k :: l, r, b => gpL l (upd r k (r k + 1)) (jmax b (r k + 1))
theorem gpL_c {k : Nat} {l : List Nat} {r : Nat → Int32} {b : Int32} : gpL (k :: l) r b = gpL l (upd r k (r k + 1)) (jmax b (r k + 1)) := rfl
def syK (g : St) (w q : Nat) : Nat := (syP g q (nI w)).toNatClampNeg
def gpG (g : St) (B : List Nat) (w : Nat) : Int32 := gpL (B.map (syK g w)) (fun _ => 0) 0
def askN (G : Nat → Int32) : Nat → Nat → Int32 → Int32 → Int32
  | _, 0, i1, _ => i1
  | w, d + 1, i1, i2 => if i2 ≤ G w then askN G (w + 1) d i1 i2 else askN G (w + 1) d (nI w) (G w)
theorem askN_s {G : Nat → Int32} {w d : Nat} {i1 i2 : Int32} : askN G w (d + 1) i1 i2 = if i2 ≤ G w then askN G (w + 1) d i1 i2 else askN G (w + 1) d (nI w) (G w) := rfl
theorem two_t {t : Int32} (h : 0 ≤ t.toInt ∧ t.toInt ≤ 9) : ∃ k, k < 12 ∧ 2 + t = nI k := by
  have t2 : (2 : Int32).toInt = 2 := rfl
  refine ⟨(2 + t.toInt).toNat, by omega, ?_⟩
  rw [eq_t, nI_toInt (by omega), t_add (by omega) (by omega)]
  omega
section AS
variable {W S N C : Nat} {f g : St}
theorem wid_rng (h : V W S N f g) : ∃ k, k < 12 ∧ wid g = nI k := by
  unfold wid
  by_cases e : g 0 1 = 0
  · rw [if_pos e]; exact ⟨0, by omega, rfl⟩
  · rw [if_neg e]
    have hS : 0 < S := by
      cases S with
      | zero => exact absurd h.gS e
      | succ n => omega
    exact two_t (h.tone hS).2
theorem sy_rng (h : V W S N f g) {w q : Nat} (hw : w < N) (hq : prN S (pl W) q = true) : syK g w q < 12 ∧ syP g q (nI w) = nI (syK g w q) := by
  have hN := h.N7
  have key : ∃ k, k < 12 ∧ syP g q (nI w) = nI k := by
    unfold prN at hq
    rw [decide_eq_true_eq] at hq
    unfold syP
    rw [nI_clamp (by omega)]
    by_cases e : q = 100
    · rw [if_pos e]
      unfold syN
      split
      · exact wid_rng h
      · exact ⟨0, by omega, rfl⟩
    · rw [if_neg e]
      unfold sy
      split
      · split
        · exact two_t (h.tone (show q / 10 < S by omega)).2
        · split
          · exact ⟨1, by omega, rfl⟩
          · exact ⟨0, by omega, rfl⟩
      · split
        · exact wid_rng h
        · exact ⟨0, by omega, rfl⟩
  obtain ⟨k, hk, e⟩ := key
  unfold syK
  rw [e, nI_clamp (by omega)]
  exact ⟨hk, rfl⟩
theorem c_gp_loop {B : List Nat} (hB : ∀ q, q ∈ B → prN S (pl W) q = true) (hl : B.length ≤ 55) {w : Nat} (hw : w < N) : ∀ (d n i : Nat) (r : Nat → Int32) (b : Int32) (f : St), V W S N f g → BirR f B → i + d = B.length → d < n → (∀ k, k < 12 → f 36 k = r k) → ∃ f', f_X1_greatestPart_32_b30 n (nI w) b (nI i) f = some (gpL ((B.drop i).map (syK g w)) r b, f') ∧ ∀ k, k ≠ 36 → f' k = f k := by
  intro d
  induction d with
  | zero =>
    intro n i r b f h hb h1 h2 h3
    obtain ⟨n, rfl⟩ : ∃ m, n = m + 1 := ⟨n - 1, by omega⟩
    simp only [f_X1_greatestPart_32_b30, f_X1_greatestPart_32_b30s]
    rw [hb.1, if_pos (nI_le (by omega) (by omega)), List.drop_eq_nil_of_le (by omega)]
    exact ⟨f, rfl, fun k _ => rfl⟩
  | succ d ih =>
    intro n i r b f h hb h1 h2 h3
    obtain ⟨n, rfl⟩ : ∃ m, n = m + 1 := ⟨n - 1, by omega⟩
    have hi : i < B.length := by omega
    have hg : B.getD i 0 = B[i] := by simp [List.getD, hi]
    have hp := hB B[i] (List.getElem_mem hi)
    have hp1 := prN_100 hp h.S6
    have hsy := sy_rng h hw hp
    have hs : f_X1_soundOf (nI B[i]) f = some (sndN B[i]) := by
      unfold f_X1_soundOf sndN
      rw [show (100 : Int32) = nI 100 from rfl, show (10 : Int32) = nI 10 from rfl, pk_div (by omega) (by omega) (by omega)]
      by_cases e : B[i] = 100
      · rw [if_pos (by rw [e]), if_pos e]
      · rw [if_neg (fun x => e ((nI_eq (by omega) (by omega)).mp x)), if_neg e]
    simp only [f_X1_greatestPart_32_b30, f_X1_greatestPart_32_b30s]
    rw [hb.1, if_neg (nI_ge (by omega) (by omega)), bind_e (get_n (ka := 35) (f := f) (show i < 55 by omega) (by omega)), hb.2 i hi, hg, bind_e hs, show (10 : Int32) = nI 10 from rfl, pk_rem (by omega) (by omega) (by omega), bind_e (c_sayP h hp hw), hsy.2, bind_e (get_n (ka := 36) (f := f) hsy.1 (by omega)), h3 _ hsy.1, bind_e (put_n (ka := 36) (f := f) (v := r (syK g w B[i]) + 1) hsy.1 (by omega)), nI_1, List.drop_eq_getElem_cons hi, List.map_cons, gpL_c]
    obtain ⟨f', q1, q2⟩ := ih n (i + 1) (upd r (syK g w B[i]) (r (syK g w B[i]) + 1)) (jmax b (r (syK g w B[i]) + 1)) (su f 36 (syK g w B[i]) (r (syK g w B[i]) + 1)) h.mv ⟨hb.1, hb.2⟩ (by omega) (by omega) (fun k hk => by
      rw [su_s]
      by_cases e : k = syK g w B[i]
      · rw [e, upd_s, upd_s]
      · rw [upd_n e, upd_n e, h3 k hk])
    exact ⟨f', q1, fun k hk => by rw [q2 k hk, su_r hk]⟩
theorem c_gp_loop_all {B : List Nat} (hB : ∀ q, q ∈ B → prN S (pl W) q = true) (hl : B.length ≤ 55) {w : Nat} (hw : w < N) {f : St} (h : V W S N f g) (hb : BirR f B) (h3 : ∀ k, k < 12 → f 36 k = 0) : ∃ f', f_X1_greatestPart_32_b30 fuB (nI w) (0 : Int32) (0 : Int32) f = some (gpG g B w, f') ∧ ∀ k, k ≠ 36 → f' k = f k := by
  have := c_gp_loop hB hl hw B.length fuB 0 (fun _ => 0) 0 f h hb (by omega) (by unfold fuB; omega) h3
  rwa [List.drop_zero] at this
theorem c_gz_loop {B : List Nat} (hB : ∀ q, q ∈ B → prN S (pl W) q = true) (hl : B.length ≤ 55) {w : Nat} (hw : w < N) : ∀ (d n i : Nat) (f : St), V W S N f g → BirR f B → i + d = 12 → d < n → (∀ k, k < i → f 36 k = 0) → ∃ f', f_X1_greatestPart_32_b4 n (nI w) (0 : Int32) (nI i) f = some (gpG g B w, f') ∧ ∀ k, k ≠ 36 → f' k = f k := by
  intro d
  induction d with
  | zero =>
    intro n i f h hb h1 h2 h3
    obtain ⟨n, rfl⟩ : ∃ m, n = m + 1 := ⟨n - 1, by omega⟩
    obtain ⟨f', q1, q2⟩ := c_gp_loop_all hB hl hw h hb (fun k hk => h3 k (by omega))
    simp only [f_X1_greatestPart_32_b4, f_X1_greatestPart_32_b4s]
    rw [q1, show Int32.ofNat 12 = nI 12 from rfl, if_pos (nI_le (a := 12) (by omega) (by omega))]
    exact ⟨f', rfl, q2⟩
  | succ d ih =>
    intro n i f h hb h1 h2 h3
    obtain ⟨n, rfl⟩ : ∃ m, n = m + 1 := ⟨n - 1, by omega⟩
    obtain ⟨f', q1, q2⟩ := ih n (i + 1) (su f 36 i 0) h.mv ⟨hb.1, hb.2⟩ (by omega) (by omega) (fun k hk => by
      rw [su_s]
      by_cases e : k = i
      · rw [e, upd_s]
      · rw [upd_n e, h3 k (by omega)])
    refine ⟨f', ?_, fun k hk => by rw [q2 k hk, su_r hk]⟩
    simp only [f_X1_greatestPart_32_b4, f_X1_greatestPart_32_b4s]
    rw [show Int32.ofNat 12 = nI 12 from rfl, if_neg (nI_ge (b := 12) (by omega) (by omega)), bind_e (put_n (ka := 36) (f := f) (v := (0 : Int32)) (show i < 12 by omega) (by omega)), nI_1]
    exact q1
theorem c_gp {B : List Nat} (hB : ∀ q, q ∈ B → prN S (pl W) q = true) (hl : B.length ≤ 55) {w : Nat} (hw : w < N) {f : St} (h : V W S N f g) (hb : BirR f B) : ∃ f', f_X1_greatestPart_32 (nI w) f = some (gpG g B w, f') ∧ ∀ k, k ≠ 36 → f' k = f k :=
  c_gz_loop hB hl hw 12 fuB 0 f h hb (by omega) (by unfold fuB; omega) (fun k hk => absurd hk (by omega))
theorem c_ask_loop {B : List Nat} (hB : ∀ q, q ∈ B → prN S (pl W) q = true) (hl : B.length ≤ 55) : ∀ (d n w : Nat) (i1 i2 : Int32) (f : St), V W S N f g → BirR f B → w + d = N → d < n → ∃ f', f_X1_bestAsked_32_b9 n i1 i2 (nI w) f = some (askN (gpG g B) w d i1 i2, f') ∧ ∀ k, k ≠ 36 → f' k = f k := by
  intro d
  induction d with
  | zero =>
    intro n w i1 i2 f h hb h1 h2
    have hN := h.N7
    obtain ⟨n, rfl⟩ : ∃ m, n = m + 1 := ⟨n - 1, by omega⟩
    simp only [f_X1_bestAsked_32_b9, f_X1_bestAsked_32_b9s]
    rw [h.fN, if_pos (nI_le (by omega) (by omega))]
    exact ⟨f, rfl, fun k _ => rfl⟩
  | succ d ih =>
    intro n w i1 i2 f h hb h1 h2
    have hN := h.N7
    obtain ⟨n, rfl⟩ : ∃ m, n = m + 1 := ⟨n - 1, by omega⟩
    obtain ⟨f1, q1, q2⟩ := c_gp hB hl (show w < N by omega) h hb
    have hV1 : V W S N f1 g := h.mv (q2 3 (by omega)) (q2 5 (by omega)) (q2 6 (by omega)) (q2 8 (by omega)) (q2 9 (by omega)) (q2 19 (by omega))
    have hb1 : BirR f1 B := ⟨by rw [q2 32 (by omega)]; exact hb.1, by rw [q2 35 (by omega)]; exact hb.2⟩
    simp only [f_X1_bestAsked_32_b9, f_X1_bestAsked_32_b9s, f_X1_bestAsked_32_b38]
    rw [h.fN, if_neg (nI_ge (by omega) (by omega)), bind_e q1, nI_1, askN_s]
    by_cases e : i2 ≤ gpG g B w
    · obtain ⟨f', u1, u2⟩ := ih n (w + 1) i1 i2 f1 hV1 hb1 (by omega) (by omega)
      refine ⟨f', ?_, fun k hk => by rw [u2 k hk, q2 k hk]⟩
      rw [if_pos e]
      simp only [if_pos e]
      exact u1
    · obtain ⟨f', u1, u2⟩ := ih n (w + 1) (nI w) (gpG g B w) f1 hV1 hb1 (by omega) (by omega)
      refine ⟨f', ?_, fun k hk => by rw [u2 k hk, q2 k hk]⟩
      rw [if_neg e]
      simp only [if_neg e]
      exact u1
theorem c_ask {B : List Nat} (hB : ∀ q, q ∈ B → prN S (pl W) q = true) (hl : B.length ≤ 55) {f : St} (h : V W S N f g) (hb : BirR f B) : ∃ f', f_X1_bestAsked_32 f = some (askN (gpG g B) 0 N (-1) (nI B.length), f') ∧ ∀ k, k ≠ 36 → f' k = f k := by
  have hN := h.N7
  have := c_ask_loop hB hl N fuB 0 (-1) (f 32 6) f h hb (by omega) (by unfold fuB; omega)
  unfold f_X1_bestAsked_32
  rw [hb.1] at this ⊢
  exact this
end AS
def rp (g : St) (r : Nat → Int32) : St := fun k => if k = 16 then r else g k
theorem rp_n {g : St} {r : Nat → Int32} {k : Nat} (h : k ≠ 16) : rp g r k = g k := if_neg h
theorem rp_s {g : St} {r : Nat → Int32} : rp g r 16 = r := if_pos rfl
theorem su_rp {g : St} {r : Nat → Int32} {k : Nat} {v : Int32} : su (rp g r) 16 k v = rp g (upd r k v) := by
  funext a
  by_cases h : a = 16
  · subst h; rw [su_s, rp_s, rp_s]
  · rw [su_r h, rp_n h, rp_n h]
theorem rp_self {g : St} : rp g (g 16) = g := by
  funext a
  by_cases h : a = 16
  · subst h; rw [rp_s]
  · rw [rp_n h]
theorem sy_rp {g : St} {r : Nat → Int32} {w s X : Nat} : sy (rp g r) w s X = sy g w s X := by
  unfold sy wid ht hr lz
  rw [rp_n (k := 0) (by omega), rp_n (k := 1) (by omega), rp_n (k := 2) (by omega), rp_n (k := 3) (by omega), rp_n (k := 4) (by omega), rp_n (k := 5) (by omega)]
theorem syN_rp {g : St} {r : Nat → Int32} {w : Nat} : syN (rp g r) w = syN g w := by
  unfold syN wid
  rw [rp_n (k := 0) (by omega), rp_n (k := 2) (by omega), rp_n (k := 4) (by omega)]
theorem syP_rp {g : St} {r : Nat → Int32} {q : Nat} {v : Int32} : syP (rp g r) q v = syP g q v := by
  unfold syP
  rw [sy_rp, syN_rp]
theorem liN_rp {g : St} {r : Nat → Int32} {C q : Nat} : liN (rp g r) C q = liN g C q := by
  unfold liN
  refine cntN_congr C 0 (fun k _ _ => ?_)
  unfold lie
  rw [syP_rp, rp_n (k := 14) (by omega), rp_n (k := 15) (by omega)]
theorem syK_rp {g : St} {r : Nat → Int32} {w q : Nat} : syK (rp g r) w q = syK g w q := by
  unfold syK
  rw [syP_rp]
theorem V.rp {W S N : Nat} {f g : St} (h : V W S N f g) (r : Nat → Int32) : V W S N f (rp g r) :=
  h.mv rfl rfl rfl rfl rfl rfl (by rw [rp_n (by omega)]) (by rw [rp_n (by omega)]) (by rw [rp_n (by omega)]) (rp_n (by omega)) (rp_n (by omega)) (rp_n (by omega)) (rp_n (by omega)) (rp_n (by omega))
theorem CL.rp {N C : Nat} {f g : St} (h : CL N C f g) (r : Nat → Int32) : CL N C f (rp g r) := by
  unfold CL at h ⊢
  rw [rp_n (k := 0) (by omega), rp_n (k := 14) (by omega), rp_n (k := 15) (by omega)]
  exact h
theorem jmax_le {a b : Int32} : jmax a b = if b ≤ a then a else b := by
  unfold jmax
  by_cases h : a < b
  · rw [if_pos h, if_neg (by rw [le_t]; rw [lt_t] at h; omega)]
  · rw [if_neg h, if_pos (by rw [le_t]; rw [lt_t] at h; omega)]
section AM
variable {W S N C : Nat} {f g : St}
theorem m_gchain {K : Int32 → Int32 → Int32 → St → Option (Int32 × St)} {w q k : Nat} {b : Int32} {g : St} (hq : q ≤ 100) (hk : k < 12) (z1 : f_X12_isPair (nI q) g = some 1) (z2 : f_X12_liarsOf (nI q) g = some 0) (z3 : f_X12_sayingFor (nI w) (nI q) g = some (nI k)) : f_X12_greatestPart_b25s K (nI w) b (nI q) g = K (nI w) (jmax b (g 16 k + 1)) (nI q + 1) (su g 16 k (g 16 k + 1)) := by
  unfold f_X12_greatestPart_b25s f_X12_greatestPart_b88 f_X12_greatestPart_b89
  rw [show (100 : Int32) = nI 100 from rfl, if_neg (nI_nlt (b := q) (a := 100) (by omega) (by omega)), bind_e z1, if1, bind_e z2, if_pos rfl, bind_e z3, ck_n hk (by omega), ck_n hk (by omega), ck_n hk (by omega), ck_n hk (by omega), nI_clamp (by omega), su_s, upd_s, jmax_le]
  split <;> rfl
theorem m_gp_loop (h : V W S N f g) (hc : CL N C f g) {w : Nat} (hw : w < N) : ∀ (d n q : Nat) (r ρ : Nat → Int32) (b : Int32), q + d = 101 → d < n → (∀ k, k < 12 → ρ k = r k) → ∃ ρ', f_X12_greatestPart_b25 n (nI w) b (nI q) (rp g ρ) = some (gpL ((fitL (liN g C) (pmL S (pl W) q d)).map (syK g w)) r b, rp g ρ') := by
  intro d
  induction d with
  | zero =>
    intro n q r ρ b h1 h2 h3
    obtain ⟨n, rfl⟩ : ∃ m, n = m + 1 := ⟨n - 1, by omega⟩
    simp only [f_X12_greatestPart_b25, f_X12_greatestPart_b25s]
    rw [show (100 : Int32) = nI 100 from rfl, if_pos (nI_lt (a := 100) (by omega) (by omega))]
    exact ⟨ρ, rfl⟩
  | succ d ih =>
    intro n q r ρ b h1 h2 h3
    obtain ⟨n, rfl⟩ : ∃ m, n = m + 1 := ⟨n - 1, by omega⟩
    have hV := h.rp ρ
    have hcr := hc.rp ρ
    rw [pmL_s]
    simp only [f_X12_greatestPart_b25]
    cases e : prN S (pl W) q
    · obtain ⟨ρ', u⟩ := ih n (q + 1) r ρ b (by omega) (by omega) h3
      refine ⟨ρ', ?_⟩
      unfold f_X12_greatestPart_b25s f_X12_greatestPart_b89
      rw [show (100 : Int32) = nI 100 from rfl, if_neg (nI_nlt (b := q) (a := 100) (by omega) (by omega)), bind_e (m_isPair hV (show q < 2 ^ 31 by omega)), e, b2i_f, if0, if_neg (by decide), nI_1]
      exact u
    · have l1 := liN_le (g := g) (q := q) hc.1
      rw [if_pos rfl, fitL_c]
      by_cases z : liN g C q = 0
      · have hsy := sy_rng h hw e
        rw [m_gchain (k := syK g w q) (by omega) hsy.1 (by rw [m_isPair hV (by omega), e]; rfl) (by rw [m_liars hV hcr e, liN_rp, z]; rfl) (by rw [m_sayP hV e hw, syP_rp, hsy.2]), su_rp, rp_s, h3 _ hsy.1, nI_1, if_pos z, List.map_cons, gpL_c]
        exact ih n (q + 1) _ _ _ (by omega) (by omega) (fun k hk => by
          by_cases e2 : k = syK g w q
          · rw [e2, upd_s, upd_s]
          · rw [upd_n e2, upd_n e2, h3 k hk])
      · obtain ⟨ρ', u⟩ := ih n (q + 1) r ρ b (by omega) (by omega) h3
        refine ⟨ρ', ?_⟩
        unfold f_X12_greatestPart_b25s f_X12_greatestPart_b89
        rw [show (100 : Int32) = nI 100 from rfl, if_neg (nI_nlt (b := q) (a := 100) (by omega) (by omega)), bind_e (m_isPair hV (show q < 2 ^ 31 by omega)), e, b2i_t, if1, bind_e (m_liars hV hcr e), liN_rp, if_neg (nI_ne0 (by omega) (by omega)), if_neg z, nI_1]
        exact u
theorem m_gp_all (h : V W S N f g) (hc : CL N C f g) {w : Nat} (hw : w < N) {ρ : Nat → Int32} (h3 : ∀ k, k < 12 → ρ k = 0) : ∃ ρ', f_X12_greatestPart_b25 fuB (nI w) (0 : Int32) (0 : Int32) (rp g ρ) = some (gpG g (fitL (liN g C) (pcL S (pl W) 0 (S * pl W + 1))) w, rp g ρ') := by
  rw [← pairs_eq S h.S6 (pl W) (pl_le h.W8)]
  exact m_gp_loop h hc hw 101 fuB 0 (fun _ => 0) ρ 0 (by omega) (by unfold fuB; omega) h3
theorem m_gz_loop (h : V W S N f g) (hc : CL N C f g) {w : Nat} (hw : w < N) : ∀ (d n i : Nat) (ρ : Nat → Int32), i + d = 12 → d < n → (∀ k, k < i → ρ k = 0) → ∃ ρ', f_X12_greatestPart_b2 n (nI w) (nI i) (rp g ρ) = some (gpG g (fitL (liN g C) (pcL S (pl W) 0 (S * pl W + 1))) w, rp g ρ') := by
  intro d
  induction d with
  | zero =>
    intro n i ρ h1 h2 h3
    obtain ⟨n, rfl⟩ : ∃ m, n = m + 1 := ⟨n - 1, by omega⟩
    obtain ⟨ρ', u⟩ := m_gp_all h hc hw (ρ := ρ) (fun k hk => h3 k (by omega))
    simp only [f_X12_greatestPart_b2, f_X12_greatestPart_b2s]
    rw [u, show (12 : Int32) = nI 12 from rfl, if_pos (nI_le (a := 12) (by omega) (by omega))]
    exact ⟨ρ', rfl⟩
  | succ d ih =>
    intro n i ρ h1 h2 h3
    obtain ⟨n, rfl⟩ : ∃ m, n = m + 1 := ⟨n - 1, by omega⟩
    simp only [f_X12_greatestPart_b2, f_X12_greatestPart_b2s]
    rw [show (12 : Int32) = nI 12 from rfl, if_neg (nI_ge (b := 12) (by omega) (by omega)), ck_n (by omega) (by omega), nI_clamp (by omega), su_rp, nI_1]
    exact ih n (i + 1) _ (by omega) (by omega) (fun k hk => by
      by_cases e : k = i
      · rw [e, upd_s]
      · rw [upd_n e, h3 k (by omega)])
theorem m_gp (h : V W S N f g) (hc : CL N C f g) {w : Nat} (hw : w < N) (ρ : Nat → Int32) : ∃ ρ', f_X12_greatestPart (nI w) (rp g ρ) = some (gpG g (fitL (liN g C) (pcL S (pl W) 0 (S * pl W + 1))) w, rp g ρ') :=
  m_gz_loop h hc hw 12 fuB 0 ρ (by omega) (by unfold fuB; omega) (fun k hk => absurd hk (by omega))
theorem m_ask_loop (h : V W S N f g) (hc : CL N C f g) : ∀ (d n w : Nat) (i1 i2 : Int32) (ρ : Nat → Int32), w + d = N → d < n → ∃ ρ', f_X12_ask_b20 n i1 i2 (nI w) (rp g ρ) = some (askN (gpG g (fitL (liN g C) (pcL S (pl W) 0 (S * pl W + 1)))) w d i1 i2, rp g ρ') := by
  have hN := h.N7
  intro d
  induction d with
  | zero =>
    intro n w i1 i2 ρ h1 h2
    obtain ⟨n, rfl⟩ : ∃ m, n = m + 1 := ⟨n - 1, by omega⟩
    simp only [f_X12_ask_b20, f_X12_ask_b20s]
    rw [(h.rp ρ).gN, if_pos (nI_le (by omega) (by omega))]
    exact ⟨ρ, rfl⟩
  | succ d ih =>
    intro n w i1 i2 ρ h1 h2
    obtain ⟨n, rfl⟩ : ∃ m, n = m + 1 := ⟨n - 1, by omega⟩
    obtain ⟨ρ1, u⟩ := m_gp h hc (show w < N by omega) ρ
    simp only [f_X12_ask_b20, f_X12_ask_b20s, f_X12_ask_b46, f_X12_ask_b59]
    rw [(h.rp ρ).gN, if_neg (nI_ge (by omega) (by omega)), bind_e u, nI_1, askN_s]
    by_cases e : i2 ≤ gpG g (fitL (liN g C) (pcL S (pl W) 0 (S * pl W + 1))) w
    · obtain ⟨ρ', v⟩ := ih n (w + 1) i1 i2 ρ1 (by omega) (by omega)
      refine ⟨ρ', ?_⟩
      simp only [if_pos e]
      exact v
    · obtain ⟨ρ', v⟩ := ih n (w + 1) (nI w) (gpG g (fitL (liN g C) (pcL S (pl W) 0 (S * pl W + 1))) w) ρ1 (by omega) (by omega)
      refine ⟨ρ', ?_⟩
      simp only [if_neg e]
      exact v
theorem m_ask (h : V W S N f g) (hc : CL N C f g) (i2 : Int32) : ∃ ρ', f_X12_ask_b20 fuB (-1 : Int32) i2 (0 : Int32) g = some (askN (gpG g (fitL (liN g C) (pcL S (pl W) 0 (S * pl W + 1)))) 0 N (-1) i2, rp g ρ') := by
  have hN := h.N7
  have := m_ask_loop h hc N fuB 0 (-1) i2 (g 16) (by omega) (by unfold fuB; omega)
  rwa [rp_self] at this
end AM
theorem Rel.rp {f g : St} (hR : Rel f g) (r : Nat → Int32) : Rel f (rp g r) := by
  obtain ⟨W, S, N, hV, hT⟩ := hR
  exact ⟨W, S, N, hV.rp r, hT.mv rfl rfl rfl rfl rfl rfl rfl rfl rfl rfl rfl rfl rfl rfl rfl (by rw [rp_n (by omega)]) (by rw [rp_n (by omega)]) (by rw [rp_n (by omega)]) (by rw [rp_n (by omega)]) (by rw [rp_n (by omega)]) (by rw [rp_n (by omega)]) (rp_n (by omega)) (rp_n (by omega)) (rp_n (by omega)) (rp_n (by omega)) (rp_n (by omega)) (rp_n (by omega)) (rp_n (by omega))⟩
theorem pcL_ok {S P : Nat} (hS : S ≤ 6) (hP : P ≤ 9) : ∀ d i : Nat, i + d = S * P + 1 → ∀ q, q ∈ pcL S P i d → prN S P q = true := by
  intro d
  induction d with
  | zero => intro i h q hq; exact absurd hq (by unfold pcL; simp)
  | succ d ih =>
    intro i h q hq
    rw [pcL_s, List.mem_cons] at hq
    rcases hq with e | hq
    · rw [e]; exact pairA_ok S hS P hP i (by omega)
    · exact ih (i + 1) (by omega) q hq
theorem sim_ask : Sim_ask Rel := by
  intro f g hR
  obtain ⟨W, S, N, C, hV, hc⟩ := hR.cl
  by_cases h0 : W = 0
  · subst h0
    refine ⟨(-1000000003 : Int32), f, g, ?_, ?_, hR⟩
    · unfold f_X11_ask
      rw [bind_e (c_stands0 hV), if0]
    · unfold f_X12_ask
      rw [if_pos (m_stands0 hV)]
  · obtain ⟨f', q1, q2, q3, q4, q5, q6⟩ := c_gather (by omega) hV hc
    have hsp := SP_le hV
    have hlen := fitL_len (L := liN g C) (S := S) (P := pl W) (S * pl W + 1) 0
    have hB : ∀ q, q ∈ fitL (liN g C) (pcL S (pl W) 0 (S * pl W + 1)) → prN S (pl W) q = true := fun q hq => pcL_ok hV.S6 (pl_le hV.W8) (S * pl W + 1) 0 (by omega) q (List.mem_filter.mp hq).1
    obtain ⟨f2, u1, u2⟩ := c_ask hB (by omega) q3 q2
    obtain ⟨ρ', v⟩ := m_ask hV hc (nI (fitL (liN g C) (pcL S (pl W) 0 (S * pl W + 1))).length)
    have hm := m_bir hV hc (-1)
    rw [birV_m1 0 (by omega), Nat.zero_add] at hm
    have hmb : f_X12_births (-1 : Int32) g = some (nI (fitL (liN g C) (pcL S (pl W) 0 (S * pl W + 1))).length) := by
      unfold f_X12_births
      rw [if_neg (m_standsW hV (by omega))]
      exact hm
    refine ⟨askN (gpG g (fitL (liN g C) (pcL S (pl W) 0 (S * pl W + 1)))) 0 N (-1) (nI (fitL (liN g C) (pcL S (pl W) 0 (S * pl W + 1))).length), f2, rp g ρ', ?_, ?_, (hR.but (fun k _ k35 k36 _ _ k32 => by rw [u2 k k36, q5 k k32 k35]) (by rw [u2 32 (by omega)]; exact q6)).rp ρ'⟩
    · unfold f_X11_ask
      rw [bind_e (c_standsW hV (by omega)), if1, bind_e q1, bind_e u1]
    · unfold f_X12_ask
      rw [if_neg (m_standsW hV (by omega)), bind_e hmb]
      exact v
