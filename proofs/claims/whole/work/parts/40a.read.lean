/-! Reading the text: blanks and numbers -/
def skN (L : Nat → Int32) : Nat → Nat → Nat
  | a, 0 => a
  | a, d + 1 => if L a = 32 then skN L (a + 1) d else a
theorem skN_s {L : Nat → Int32} {a d : Nat} : skN L a (d + 1) = if L a = 32 then skN L (a + 1) d else a := rfl
def sk (L : Nat → Int32) (T a : Nat) : Nat := skN L a (T - a)
theorem skN_bd {L : Nat → Int32} : ∀ d a : Nat, a ≤ skN L a d ∧ skN L a d ≤ a + d ∧ (skN L a d < a + d → ¬ L (skN L a d) = 32) := by
  intro d
  induction d with
  | zero => intro a; exact ⟨Nat.le_refl _, Nat.le_refl _, fun h => absurd h (Nat.lt_irrefl _)⟩
  | succ d ih =>
    intro a
    rw [skN_s]
    by_cases e : L a = 32
    · rw [if_pos e]
      obtain ⟨h1, h2, h3⟩ := ih (a + 1)
      exact ⟨by omega, by omega, fun h => h3 (by omega)⟩
    · rw [if_neg e]
      exact ⟨by omega, by omega, fun _ => e⟩
theorem sk_bd {L : Nat → Int32} {T a : Nat} (h : a ≤ T) : a ≤ sk L T a ∧ sk L T a ≤ T ∧ (sk L T a < T → ¬ L (sk L T a) = 32) := by
  obtain ⟨h1, h2, h3⟩ := skN_bd (L := L) (T - a) a
  unfold sk
  exact ⟨h1, by omega, fun h => h3 (by omega)⟩
theorem sk_sk {L : Nat → Int32} {T a : Nat} (h : a ≤ T) : sk L T (sk L T a) = sk L T a := by
  obtain ⟨h1, h2, h3⟩ := sk_bd (L := L) h
  generalize sk L T a = s at h1 h2 h3 ⊢
  unfold sk
  by_cases e : s = T
  · rw [show T - s = 0 by omega]; rfl
  · rw [show T - s = (T - s - 1) + 1 by omega, skN_s, if_neg (h3 (by omega))]
def ltr (L : Nat → Int32) (T a : Nat) : Int32 := if a < T then L a else -1
def TXc (T : Nat) (L : Nat → Int32) (f : St) : Prop := f 1 1 = nI T ∧ ∀ k, k < T → f 2 k = L k
def TXm (T : Nat) (L : Nat → Int32) (g : St) : Prop := g 0 10 = nI T ∧ ∀ k, k < T → g 6 k = L k
def LOK (T : Nat) (L : Nat → Int32) : Prop := T ≤ 240 ∧ ∀ k, k < T → 0 ≤ (L k).toInt ∧ (L k).toInt ≤ 255
theorem su_comm {f : St} {k i j : Nat} {u v : Int32} (h : i ≠ j) : su (su f k i u) k j v = su (su f k j v) k i u := by
  funext a b
  by_cases ha : a = k
  · subst ha
    rw [su_s, su_s, su_s, su_s]
    by_cases hb : b = i
    · subst hb
      rw [upd_n h, upd_s, upd_s]
    · by_cases hc : b = j
      · subst hc
        rw [upd_s, upd_n hb, upd_s]
      · rw [upd_n hc, upd_n hb, upd_n hb, upd_n hc]
  · rw [su_r ha, su_r ha, su_r ha, su_r ha]
section RE
variable {T : Nat} {L : Nat → Int32} {f g : St}
theorem TXc.at (h : TXc T L f) (v : Int32) : TXc T L (su f 10 4 v) := ⟨h.1, h.2⟩
theorem c_letter (hL : LOK T L) (h : TXc T L f) {a : Nat} (ha : a < 2 ^ 31) : f_X9_letterAt_1 (nI a) f = some (ltr L T a) := by
  have hT := hL.1
  unfold f_X9_letterAt_1 ltr
  rw [if_neg (show ¬ nI a < (0 : Int32) from nI_nlt (a := a) (b := 0) (by omega) ha), h.1]
  by_cases e : a < T
  · rw [if_neg (nI_ge e (by omega)), show Int32.ofNat 240 = nI 240 from rfl, if_neg (nI_ge (b := 240) (by omega) (by omega)), ck_n (by omega) (by omega), nI_clamp (by omega), if_pos e, h.2 a e]
  · rw [if_pos (nI_le (by omega) ha), if_neg e]
theorem c_skip_loop (hL : LOK T L) (h : TXc T L f) : ∀ d n a i : Nat, a + d = T → d < n → i + d ≤ 240 → f_X6_skipBlanks_10_b2 n (nI i) (su f 10 4 (nI a)) = some (su f 10 4 (nI (skN L a d))) := by
  have hT := hL.1
  intro d
  induction d with
  | zero =>
    intro n a i h1 h2 h3
    obtain ⟨n, rfl⟩ : ∃ m, n = m + 1 := ⟨n - 1, by omega⟩
    simp only [f_X6_skipBlanks_10_b2, f_X6_skipBlanks_10_b2s]
    rw [su_s, upd_s, bind_e (c_letter hL (h.at _) (show a < 2 ^ 31 by omega))]
    unfold ltr
    rw [if_neg (show ¬ a < T by omega), if_neg (show ¬ (-1 : Int32) = 32 by decide)]
    split <;> rfl
  | succ d ih =>
    intro n a i h1 h2 h3
    obtain ⟨n, rfl⟩ : ∃ m, n = m + 1 := ⟨n - 1, by omega⟩
    simp only [f_X6_skipBlanks_10_b2, f_X6_skipBlanks_10_b2s]
    rw [su_s, upd_s, bind_e (c_letter hL (h.at _) (show a < 2 ^ 31 by omega)), show (240 : Int32) = nI 240 from rfl, if_neg (nI_ge (b := 240) (by omega) (by omega)), skN_s]
    unfold ltr
    rw [if_pos (show a < T by omega)]
    by_cases e : L a = 32
    · rw [if_pos e, if_pos e, su_su, nI_1, nI_1]
      exact ih n (a + 1) (i + 1) (by omega) (by omega) (by omega)
    · rw [if_neg e, if_neg e]
theorem c_skip (hL : LOK T L) (h : TXc T L f) {a : Nat} (ha : f 10 4 = nI a) (haT : a ≤ T) : f_X6_skipBlanks_10 f = some (su f 10 4 (nI (sk L T a))) := by
  have hT := hL.1
  have := c_skip_loop hL h (T - a) fuB a 0 (by omega) (by unfold fuB; omega) (by omega)
  rw [← ha, su_self] at this
  exact this
theorem TXm.at (h : TXm T L g) (v : Int32) : TXm T L (su g 0 12 v) := ⟨h.1, h.2⟩
theorem m_h38 (hL : LOK T L) (h : TXm T L g) {a : Nat} (ha : g 0 12 = nI a) (hb : a < 1000) : f_X12_here_b38 g = some (ltr L T a, g) := by
  have hT := hL.1
  unfold f_X12_here_b38 ltr
  rw [ha, h.1]
  by_cases e : a < T
  · rw [if_neg (nI_ge e (by omega)), ck_n (by omega) (by omega), nI_clamp (by omega), if_pos e, h.2 a e]
  · rw [if_pos (nI_le (by omega) (by omega)), if_neg e]
theorem m_here_loop (hL : LOK T L) (h : TXm T L g) : ∀ d n a : Nat, a + d = T → d < n → f_X12_here_b0 n (su g 0 12 (nI a)) = some (ltr L T (skN L a d), su g 0 12 (nI (skN L a d))) := by
  have hT := hL.1
  intro d
  induction d with
  | zero =>
    intro n a h1 h2
    obtain ⟨n, rfl⟩ : ∃ m, n = m + 1 := ⟨n - 1, by omega⟩
    simp only [f_X12_here_b0, f_X12_here_b0s]
    rw [m_h38 hL (h.at _) (a := a) (by rw [su_s, upd_s]) (by omega), (h.at _).1, su_s, upd_s, if_pos (nI_le (by omega) (by omega))]
    rfl
  | succ d ih =>
    intro n a h1 h2
    obtain ⟨n, rfl⟩ : ∃ m, n = m + 1 := ⟨n - 1, by omega⟩
    simp only [f_X12_here_b0, f_X12_here_b0s]
    rw [m_h38 hL (h.at _) (a := a) (by rw [su_s, upd_s]) (by omega), (h.at _).1, su_s, upd_s, if_neg (nI_ge (by omega) (by omega)), ck_n (by omega) (by omega), nI_clamp (by omega), su_r (k := 0) (k' := 6) (by omega), h.2 a (by omega), skN_s]
    by_cases e : L a = 32
    · rw [if_pos e, if_pos e, su_su, nI_1]
      exact ih n (a + 1) (by omega) (by omega)
    · rw [if_neg e, if_neg e]
theorem m_here (hL : LOK T L) (h : TXm T L g) {a : Nat} (ha : g 0 12 = nI a) (haT : a ≤ T) : f_X12_here g = some (ltr L T (sk L T a), su g 0 12 (nI (sk L T a))) := by
  have hT := hL.1
  have := m_here_loop hL h (T - a) fuB a (by omega) (by unfold fuB; omega)
  rw [← ha, su_self] at this
  exact this
def isD (x : Int32) : Bool := decide (48 ≤ x.toInt ∧ x.toInt ≤ 57)
theorem c_fig {x : Int32} : f_X6_isFigure x f = some (b2i (isD x)) := by
  have t48 : (48 : Int32).toInt = 48 := rfl
  have t57 : (57 : Int32).toInt = 57 := rfl
  unfold f_X6_isFigure isD
  by_cases h1 : x < 48
  · rw [if_pos h1]
    rw [lt_t] at h1
    rw [decide_eq_false (by omega)]; rfl
  · rw [if_neg h1]
    rw [lt_t] at h1
    by_cases h2 : 57 < x
    · rw [if_pos h2]
      rw [lt_t] at h2
      rw [decide_eq_false (by omega)]; rfl
    · rw [if_neg h2]
      rw [lt_t] at h2
      rw [decide_eq_true (by omega)]; rfl
theorem m_fig {x : Int32} : f_X12_in x.toInt64 (48 : Int64) (57 : Int64) g = some (b2i (isD x)) := by
  rw [m_in]
  unfold isD
  rw [Int32.toInt_toInt64]
  rfl
def dgN (L : Nat → Int32) : Nat → Nat → Nat
  | a, 0 => a
  | a, d + 1 => if isD (L a) then dgN L (a + 1) d else a
def vcN (L : Nat → Int32) : Nat → Nat → Int32 → Int32
  | _, 0, x => x
  | a, d + 1, x => if isD (L a) then vcN L (a + 1) d (jmin (((x * (10 : Int32)) + L a) - (48 : Int32)) (1000 : Int32)) else x
def vmN (L : Nat → Int32) : Nat → Nat → Int32 → Int32
  | _, 0, x => x
  | a, d + 1, x => if isD (L a) then vmN L (a + 1) d (if x ≤ 10000 then (((10 : Int32) * x) + L a) - (48 : Int32) else x) else x
theorem dgN_s {a d : Nat} : dgN L a (d + 1) = if isD (L a) then dgN L (a + 1) d else a := rfl
theorem vcN_s {a d : Nat} {x : Int32} : vcN L a (d + 1) x = if isD (L a) then vcN L (a + 1) d (jmin (((x * (10 : Int32)) + L a) - (48 : Int32)) (1000 : Int32)) else x := rfl
theorem vmN_s {a d : Nat} {x : Int32} : vmN L a (d + 1) x = if isD (L a) then vmN L (a + 1) d (if x ≤ 10000 then (((10 : Int32) * x) + L a) - (48 : Int32) else x) else x := rfl
theorem dgN_bd : ∀ d a : Nat, a ≤ dgN L a d ∧ dgN L a d ≤ a + d := by
  intro d
  induction d with
  | zero => intro a; exact ⟨Nat.le_refl _, Nat.le_refl _⟩
  | succ d ih =>
    intro a
    rw [dgN_s]
    cases isD (L a)
    · rw [if_neg (by decide)]; exact ⟨by omega, by omega⟩
    · rw [if_pos rfl]
      obtain ⟨h1, h2⟩ := ih (a + 1)
      exact ⟨by omega, by omega⟩
theorem isD_n {x : Int32} (h : isD x = true) : ∃ e, e ≤ 9 ∧ x = nI (e + 48) := by
  unfold isD at h
  rw [decide_eq_true_eq] at h
  refine ⟨(x.toInt - 48).toNat, by omega, ?_⟩
  rw [eq_t, nI_toInt (by omega)]
  omega
theorem val_eq : ∀ d a v k : Nat, v < 10 ^ k → k ≤ 3 → dgN L a d ≤ a + (3 - k) → ∃ v', v' < 1000 ∧ vcN L a d (nI v) = nI v' ∧ vmN L a d (nI v) = nI v' := by
  intro d
  induction d with
  | zero =>
    intro a v k h1 h2 h3
    have : 10 ^ k ≤ 10 ^ 3 := Nat.pow_le_pow_right (by omega) h2
    exact ⟨v, by omega, rfl, rfl⟩
  | succ d ih =>
    intro a v k h1 h2 h3
    have hk3 : 10 ^ k ≤ 10 ^ 3 := Nat.pow_le_pow_right (by omega) h2
    rw [dgN_s] at h3
    rw [vcN_s, vmN_s]
    cases e : isD (L a)
    · rw [if_neg (by decide), if_neg (by decide)]
      exact ⟨v, by omega, rfl, rfl⟩
    · rw [e, if_pos rfl] at h3
      rw [if_pos rfl, if_pos rfl]
      have hb := (dgN_bd (L := L) d (a + 1)).1
      obtain ⟨y, hy, ey⟩ := isD_n e
      have hk2 : 10 ^ (k + 1) ≤ 10 ^ 3 := Nat.pow_le_pow_right (by omega) (by omega)
      have hv2 : v * 10 + y < 10 ^ (k + 1) := by rw [Nat.pow_succ]; omega
      have e1 : nI v * (10 : Int32) + L a - (48 : Int32) = nI (v * 10 + y) := by
        rw [ey, show (10 : Int32) = nI 10 from rfl, pk_mul, nI_add, ← Nat.add_assoc, ← nI_add (v * 10 + y) 48, show (48 : Int32) = nI 48 from rfl, Int32.add_sub_cancel]
      have e2 : (10 : Int32) * nI v + L a - (48 : Int32) = nI (v * 10 + y) := by
        rw [ey, show (10 : Int32) = nI 10 from rfl, pk_mul, Nat.mul_comm 10 v, nI_add, ← Nat.add_assoc, ← nI_add (v * 10 + y) 48, show (48 : Int32) = nI 48 from rfl, Int32.add_sub_cancel]
      rw [e1, e2, show (1000 : Int32) = nI 1000 from rfl, jmin_n (by omega) (by omega), Nat.min_eq_left (by omega), show (10000 : Int32) = nI 10000 from rfl, if_pos (nI_le (b := 10000) (by omega) (by omega))]
      exact ih (a + 1) (v * 10 + y) (k + 1) hv2 (by omega) (by omega)
theorem c_num_loop (hL : LOK T L) (h : TXc T L f) {p s : Int32} : ∀ (d n a i : Nat) (x : Int32), a + d = T → d < n → i + d ≤ 240 → f_X6_readNumber_10_b14 n p s x (nI i) (su f 10 4 (nI a)) = f_X6_readNumber_10_b81 p s (vcN L a d x) (su f 10 4 (nI (dgN L a d))) := by
  have hT := hL.1
  intro d
  induction d with
  | zero =>
    intro n a i x h1 h2 h3
    obtain ⟨n, rfl⟩ : ∃ m, n = m + 1 := ⟨n - 1, by omega⟩
    simp only [f_X6_readNumber_10_b14, f_X6_readNumber_10_b14s]
    rw [su_s, upd_s, bind_e (c_letter hL (h.at _) (show a < 2 ^ 31 by omega)), bind_e c_fig]
    unfold ltr
    rw [if_neg (show ¬ a < T by omega), show isD (-1) = false by decide, b2i_f, if0]
    split <;> rfl
  | succ d ih =>
    intro n a i x h1 h2 h3
    obtain ⟨n, rfl⟩ : ∃ m, n = m + 1 := ⟨n - 1, by omega⟩
    simp only [f_X6_readNumber_10_b14, f_X6_readNumber_10_b14s]
    rw [su_s, upd_s, bind_e (c_letter hL (h.at _) (show a < 2 ^ 31 by omega)), bind_e c_fig, show (240 : Int32) = nI 240 from rfl, if_neg (nI_ge (b := 240) (by omega) (by omega)), bind_e (c_letter hL (h.at _) (show a < 2 ^ 31 by omega)), vcN_s, dgN_s]
    unfold ltr
    rw [if_pos (show a < T by omega)]
    cases e : isD (L a)
    · rw [b2i_f, if0, if_neg (by decide), if_neg (by decide)]
    · rw [b2i_t, if1, if_pos rfl, if_pos rfl, su_su, nI_1, nI_1]
      exact ih n (a + 1) (i + 1) _ (by omega) (by omega) (by omega)
def GN (g : St) (a : Nat) (x : Int32) : St := su (su g 0 13 x) 0 12 (nI a)
theorem GN_12 {a : Nat} {x : Int32} : GN g a x 0 12 = nI a := by unfold GN; rw [su_s, upd_s]
theorem GN_13 {a : Nat} {x : Int32} : GN g a x 0 13 = x := by unfold GN; rw [su_s, upd_n (by omega), su_s, upd_s]
theorem GN_j {a j : Nat} {x : Int32} (h1 : j ≠ 12) (h2 : j ≠ 13) : GN g a x 0 j = g 0 j := by unfold GN; rw [su_s, upd_n h1, su_s, upd_n h2]
theorem GN_k {a k : Nat} {x : Int32} (h : k ≠ 0) : GN g a x k = g k := by unfold GN; rw [su_r h, su_r h]
theorem GN_step {a : Nat} {x y : Int32} : su (su (GN g a x) 0 13 y) 0 12 (nI (a + 1)) = GN g (a + 1) y := by
  unfold GN
  rw [su_comm (i := 12) (j := 13) (by omega), su_su, su_su]
theorem GN_x {a : Nat} {x : Int32} : su (GN g a x) 0 12 (nI (a + 1)) = GN g (a + 1) x := by
  unfold GN
  rw [su_su]
theorem m_num_loop (hL : LOK T L) (h : TXm T L g) {p q : Int32} : ∀ (d n a : Nat) (x : Int32), a + d = T → d < n → f_X12_takeNumber_b42 n p q (GN g a x) = f_X12_takeNumber_b129 p q (GN g (dgN L a d) (vmN L a d x)) := by
  have hT := hL.1
  intro d
  induction d with
  | zero =>
    intro n a x h1 h2
    obtain ⟨n, rfl⟩ : ∃ m, n = m + 1 := ⟨n - 1, by omega⟩
    simp only [f_X12_takeNumber_b42, f_X12_takeNumber_b42s]
    rw [GN_12, GN_j (by omega) (by omega), h.1, if_pos (nI_le (by omega) (by omega))]
    rfl
  | succ d ih =>
    intro n a x h1 h2
    obtain ⟨n, rfl⟩ : ∃ m, n = m + 1 := ⟨n - 1, by omega⟩
    simp only [f_X12_takeNumber_b42, f_X12_takeNumber_b42s, f_X12_takeNumber_b113]
    rw [GN_12, GN_j (by omega) (by omega), h.1, if_neg (nI_ge (by omega) (by omega)), ck_n (by omega) (by omega), ck_n (by omega) (by omega), nI_clamp (by omega), GN_k (k := 6) (by omega), h.2 a (by omega), bind_e m_fig, GN_13, dgN_s, vmN_s]
    cases e : isD (L a)
    · rw [b2i_f, if0, if_neg (by decide), if_neg (by decide)]
    · have i0 : ∀ y, su (GN g a x) 0 13 y 0 12 = nI a := fun y => by rw [su_s, upd_n (by omega), GN_12]
      rw [b2i_t, if1, if_pos rfl, if_pos rfl, i0, i0, nI_1, GN_step, GN_step]
      by_cases hx : x ≤ 10000
      · rw [if_pos hx, if_pos hx]
        exact ih n (a + 1) _ (by omega) (by omega)
      · rw [if_neg hx, if_neg hx]
        exact ih n (a + 1) _ (by omega) (by omega)
theorem c_num (hL : LOK T L) (h : TXc T L f) {a : Nat} (ha : f 10 4 = nI a) (haT : a ≤ T) (p : Int32) : f_X6_readNumber_10 p f = f_X6_readNumber_10_b81 p (nI (sk L T a)) (vcN L (sk L T a) (T - sk L T a) 0) (su f 10 4 (nI (dgN L (sk L T a) (T - sk L T a)))) := by
  have hT := hL.1
  have hs := sk_bd (L := L) haT
  unfold f_X6_readNumber_10
  rw [bind_e (c_skip hL h ha haT), su_s, upd_s]
  exact c_num_loop hL h (T - sk L T a) fuB (sk L T a) 0 0 (by omega) (by unfold fuB; omega) (by omega)
theorem m_num (hL : LOK T L) (h : TXm T L g) {a : Nat} (ha : g 0 12 = nI a) (haT : a ≤ T) (p q : Int32) : f_X12_takeNumber p q g = if isD (ltr L T (sk L T a)) then f_X12_takeNumber_b129 p q (GN (su g 0 14 (nI (sk L T a))) (dgN L (sk L T a) (T - sk L T a)) (vmN L (sk L T a) (T - sk L T a) 0)) else some (1, su (su g 0 12 (nI (sk L T a))) 0 11 (nI (sk L T a))) := by
  have hT := hL.1
  have hs := sk_bd (L := L) haT
  have e1 : su (su (su g 0 12 (nI (sk L T a))) 0 14 (nI (sk L T a))) 0 13 (0 : Int32) = GN (su g 0 14 (nI (sk L T a))) (sk L T a) 0 := by
    unfold GN
    rw [su_comm (i := 12) (j := 14) (by omega), su_comm (i := 12) (j := 13) (by omega)]
  have e2 := m_num_loop hL (g := su g 0 14 (nI (sk L T a))) (p := p) (q := q) ⟨h.1, h.2⟩ (T - sk L T a) fuB (sk L T a) 0 (by omega) (by unfold fuB; omega)
  rw [← e1] at e2
  unfold f_X12_takeNumber
  generalize f_X12_takeNumber_b42 fuB = K at e2 ⊢
  rw [bind_e (m_here hL h ha haT), bind_e m_fig]
  dsimp only
  rw [su_s, upd_s, ← e2]
  unfold f_X12_fails
  cases isD (ltr L T (sk L T a))
  · rw [b2i_f, if0, if_neg (by decide)]; rfl
  · rw [b2i_t, if1, if_pos rfl]
end RE
