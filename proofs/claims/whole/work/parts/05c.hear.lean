/-! What both sides hold alike: the house, the state; who hears what -/
def PlanR (W S N : Nat) (f g : St) : Prop := W ≤ 8 ∧ S ≤ 6 ∧ N ≤ 7 ∧ f 3 0 = nI W ∧ g 0 0 = nI W ∧ f 3 2 = nI S ∧ g 0 1 = nI S ∧ f 3 3 = nI N ∧ g 0 4 = nI N ∧ (∀ s, s < S → f 5 s = g 1 s ∧ f 6 s = g 2 s ∧ 0 ≤ (g 1 s).toInt ∧ (g 1 s).toInt ≤ 60 ∧ 0 ≤ (g 2 s).toInt ∧ (g 2 s).toInt ≤ 9) ∧ (∀ w, w < N → f 8 w = g 3 w ∧ f 9 w = g 4 w ∧ 0 ≤ (g 3 w).toInt ∧ (g 3 w).toInt ≤ 30 ∧ (g 4 w = 0 ∨ g 4 w = 1 ∨ g 4 w = 2))
theorem PlanR.mv {W S N : Nat} {f g f' g' : St} (h : PlanR W S N f g) (e3 : f' 3 = f 3) (e5 : f' 5 = f 5) (e6 : f' 6 = f 6) (e8 : f' 8 = f 8) (e9 : f' 9 = f 9) (a0 : g' 0 0 = g 0 0) (a1 : g' 0 1 = g 0 1) (a4 : g' 0 4 = g 0 4) (b1 : g' 1 = g 1) (b2 : g' 2 = g 2) (b3 : g' 3 = g 3) (b4 : g' 4 = g 4) : PlanR W S N f' g' := by
  unfold PlanR at h ⊢
  rw [e3, e5, e6, e8, e9, a0, a1, a4, b1, b2, b3, b4]
  exact h
def NowOK (W N : Nat) (now : Nat → Int32) : Prop := NowB W now ∧ (∀ w, w < N → ∃ x, x ≤ W ∧ now (9 + w) = nI x) ∧ ∃ m, m < 128 ∧ now 19 = nI m
def StR (W N : Nat) (row now : Nat → Int32) : Prop := RowR W N row now ∧ NowOK W N now
def V (W S N : Nat) (f g : St) : Prop := PlanR W S N f g ∧ StR W N (f 19) (g 5)
/-- how loud a sound from X comes to a witness -/
def lz (g : St) (s X w : Nat) : Int := loudZ (g 1 s) (g 5) X (g 5 (9 + w)).toNatClampNeg
def hr (g : St) (w s X : Nat) : Bool := decide ((g 3 w).toInt ≤ lz g s X w)
def ht (g : St) (w s X : Nat) : Bool := decide ((g 3 w).toInt + 5 ≤ lz g s X w)
def b2i (b : Bool) : Int32 := if b then 1 else 0
def wid (g : St) : Int32 := if g 0 1 = 0 then 0 else 2 + g 2 0
def sy (g : St) (w s X : Nat) : Int32 := if g 4 w = 0 then (if ht g w s X then 2 + g 2 s else if hr g w s X then 1 else 0) else if g 4 w = 1 then wid g else 0
def syN (g : St) (w : Nat) : Int32 := if g 4 w = 1 then wid g else 0
theorem b2i_0 {b : Bool} : b2i b = 0 ↔ b = false := by cases b <;> simp [b2i]
section HV
variable {W S N : Nat} {f g : St}
theorem V.spot (h : V W S N f g) {w : Nat} (hw : w < N) : ∃ x, x ≤ W ∧ g 5 (9 + w) = nI x ∧ (g 5 (9 + w)).toNatClampNeg = x := by
  obtain ⟨x, hx, e⟩ := h.2.2.2.1 w hw
  have hW := h.1.1
  exact ⟨x, hx, e, by rw [e, nI_clamp (by omega)]⟩
theorem V.loud (h : V W S N f g) {s : Nat} (hs : s < S) : f 5 s = g 1 s ∧ 0 ≤ (g 1 s).toInt ∧ (g 1 s).toInt ≤ 60 := by
  have := h.1.2.2.2.2.2.2.2.2.2.1 s hs
  exact ⟨this.1, this.2.2.1, this.2.2.2.1⟩
theorem V.tone (h : V W S N f g) {s : Nat} (hs : s < S) : f 6 s = g 2 s ∧ 0 ≤ (g 2 s).toInt ∧ (g 2 s).toInt ≤ 9 := by
  have := h.1.2.2.2.2.2.2.2.2.2.1 s hs
  exact ⟨this.2.1, this.2.2.2.2.1, this.2.2.2.2.2⟩
theorem V.wit (h : V W S N f g) {w : Nat} (hw : w < N) : f 8 w = g 3 w ∧ f 9 w = g 4 w ∧ 0 ≤ (g 3 w).toInt ∧ (g 3 w).toInt ≤ 30 ∧ (g 4 w = 0 ∨ g 4 w = 1 ∨ g 4 w = 2) := h.1.2.2.2.2.2.2.2.2.2.2 w hw
theorem V.S6 (h : V W S N f g) : S ≤ 6 := h.1.2.1
theorem V.N7 (h : V W S N f g) : N ≤ 7 := h.1.2.2.1
theorem V.W8 (h : V W S N f g) : W ≤ 8 := h.1.1
theorem V.row (h : V W S N f g) : RowR W N (f 19) (g 5) := h.2.1
theorem V.nowB (h : V W S N f g) : NowB W (g 5) := h.2.2.1
theorem V.gS (h : V W S N f g) : g 0 1 = nI S := h.1.2.2.2.2.2.2.1
theorem V.gN (h : V W S N f g) : g 0 4 = nI N := h.1.2.2.2.2.2.2.2.2.1
theorem V.gW (h : V W S N f g) : g 0 0 = nI W := h.1.2.2.2.2.1
theorem V.fS (h : V W S N f g) : f 3 2 = nI S := h.1.2.2.2.2.2.1
theorem V.fN (h : V W S N f g) : f 3 3 = nI N := h.1.2.2.2.2.2.2.2.1
theorem V.fW (h : V W S N f g) : f 3 0 = nI W := h.1.2.2.2.1
theorem m_loud (h : V W S N f g) {s X Y : Nat} (hs : s < S) (hX : X ≤ W) (hY : Y ≤ W) : ∃ v : Int32, f_X12_loudAt (nI s) (nI X) (nI Y) g = some v ∧ v.toInt = loudZ (g 1 s) (g 5) X Y :=
  mloud h.nowB (Nat.lt_of_lt_of_le hs h.S6) (h.loud hs).2 hX hY
theorem c_loud (h : V W S N f g) {s X Y : Nat} (hs : s < S) (hX : X ≤ W) (hY : Y ≤ W) : ∃ v : Int32, f_X2_loudness_29 (nI s) (nI X) (nI Y) f = some v ∧ v.toInt = loudZ (g 1 s) (g 5) X Y := by
  have e := (h.loud hs).1
  have := cloud h.row h.nowB (Nat.lt_of_lt_of_le hs h.S6) (by rw [e]; exact (h.loud hs).2) hX hY
  rw [e] at this
  exact this
theorem lz_bd (h : V W S N f g) {s X w : Nat} (hs : s < S) (hX : X ≤ W) (hw : w < N) : -1000 ≤ lz g s X w ∧ lz g s X w ≤ 1000 := by
  obtain ⟨x, hx, -, e⟩ := h.spot hw
  unfold lz
  rw [e]
  exact loudZ_bd h.nowB (h.loud hs).2 hX hx
theorem m_hears (h : V W S N f g) {w s X : Nat} (hw : w < N) (hs : s < S) (hX : X ≤ W) : f_X12_hears (nI w) (nI s) (nI X) g = some (b2i (hr g w s X)) := by
  obtain ⟨x, hx, e1, e2⟩ := h.spot hw
  have hN := h.N7
  unfold f_X12_hears
  rw [show (9 : Int32) + nI w = nI (9 + w) from nI_add 9 w, ck_n (by omega) (by omega), nI_clamp (by omega), e1]
  obtain ⟨v, hv, hz⟩ := m_loud h hs hX hx
  rw [hv]
  show ck (nI w) 7 _ = _
  rw [ck_n (by omega) (by omega), nI_clamp (by omega)]
  have hl : lz g s X w = v.toInt := by unfold lz; rw [e2, hz]
  unfold hr
  rw [hl]
  by_cases hc : v < g 3 w
  · rw [if_pos hc, decide_eq_false (by rw [lt_t] at hc; omega)]
    rfl
  · rw [if_neg hc, decide_eq_true (by rw [lt_t] at hc; omega)]
    rfl
theorem m_hearsTone (h : V W S N f g) {w s X : Nat} (hw : w < N) (hs : s < S) (hX : X ≤ W) : f_X12_hearsTone (nI w) (nI s) (nI X) g = some (b2i (ht g w s X)) := by
  obtain ⟨x, hx, e1, e2⟩ := h.spot hw
  have hN := h.N7
  have hwt := h.wit hw
  unfold f_X12_hearsTone
  rw [show (9 : Int32) + nI w = nI (9 + w) from nI_add 9 w, ck_n (by omega) (by omega), nI_clamp (by omega), e1]
  obtain ⟨v, hv, hz⟩ := m_loud h hs hX hx
  rw [hv]
  show ck (nI w) 7 _ = _
  rw [ck_n (by omega) (by omega), nI_clamp (by omega)]
  have t5 : (5 : Int32).toInt = 5 := rfl
  have e5 : (g 3 w + 5).toInt = (g 3 w).toInt + 5 := by rw [t_add (by omega) (by omega), t5]
  have hl : lz g s X w = v.toInt := by unfold lz; rw [e2, hz]
  unfold ht
  rw [hl]
  by_cases hc : v < g 3 w + 5
  · rw [if_pos hc, decide_eq_false (by rw [lt_t] at hc; omega)]
    rfl
  · rw [if_neg hc, decide_eq_true (by rw [lt_t] at hc; omega)]
    rfl
theorem m_wid (h : V W S N f g) : f_X12_widowers g = some (wid g) := by
  unfold f_X12_widowers wid
  by_cases hc : g 0 1 = 0
  · rw [if_pos hc, if_pos hc]
  · rw [if_neg hc, if_neg hc, show ck (0 : Int32) 6 _ = _ from ck_n (n := 6) (i := 0) (by omega) (by omega)]
    rfl
theorem m_saying (h : V W S N f g) {w s X : Nat} (hw : w < N) (hs : s < S) (hX : X ≤ W) : f_X12_sayingOf (nI w) (nI s) (nI X) g = some (sy g w s X) := by
  have hN := h.N7
  have hS := h.S6
  unfold f_X12_sayingOf sy
  rw [ck_n (by omega) (by omega), nI_clamp (by omega)]
  by_cases h0 : g 4 w = 0
  · rw [if_pos h0, if_pos h0, m_hearsTone h hw hs hX]
    show (if b2i (ht g w s X) = 0 then _ else _) = _
    cases e : ht g w s X
    · rw [if_pos (by rfl), m_hears h hw hs hX]
      show (if b2i (hr g w s X) = 0 then _ else _) = _
      cases e2 : hr g w s X
      · rw [if_pos (by rfl)]; rfl
      · rw [if_neg (by decide)]; rfl
    · rw [if_neg (by decide), ck_n (by omega) (by omega), nI_clamp (by omega)]
      rfl
  · rw [if_neg h0, if_neg h0, ck_n (by omega) (by omega)]
    by_cases h1 : g 4 w = 1
    · rw [if_pos h1, if_pos h1, m_wid h]; rfl
    · rw [if_neg h1, if_neg h1]
theorem c_margin (h : V W S N f g) {w s X : Nat} (hw : w < N) (hs : s < S) (hX : X ≤ W) : ∃ v : Int32, f_X2_margin_29 (nI w) (nI s) (nI X) f = some v ∧ v.toInt = lz g s X w - (g 3 w).toInt := by
  obtain ⟨x, hx, e1, e2⟩ := h.spot hw
  have hN := h.N7
  have hwt := h.wit hw
  have hb := lz_bd h hs hX hw
  obtain ⟨-, -, -, -, -, -, -, rsp, -⟩ := h.row
  unfold f_X2_margin_29
  rw [show (14 : Int32) + nI w = nI (14 + w) from nI_add 14 w, get_n (by omega) (by omega), rsp w hw, e1]
  obtain ⟨v, hv, hz⟩ := c_loud h hs hX hx
  have hl : lz g s X w = v.toInt := by unfold lz; rw [e2, hz]
  refine ⟨v - g 3 w, ?_, ?_⟩
  · show ((f_X2_loudness_29 (nI s) (nI X) (nI x) f).bind _) = _
    rw [hv]
    show ((f_X7_get 8 7 (nI w) f).bind _) = _
    rw [get_n (by omega) (by omega), hwt.1]
    rfl
  · rw [t_sub (by omega) (by omega), hl]
theorem c_wid (h : V W S N f g) : (if (f 3 2) ≤ 0 then (some (0 : Int32)) else ((f_X7_get 6 6 (0 : Int32) f).bind fun q12 => some ((2 : Int32) + q12))) = some (wid g) := by
  unfold wid
  have hS := h.S6
  rw [h.fS, h.gS]
  by_cases h0 : S = 0
  · subst h0
    rfl
  · rw [if_neg (nI_nle (by omega) (by omega)), if_neg (nI_ne0 (by omega) (by omega)), show f_X7_get 6 6 (0 : Int32) f = some (f 6 0) from get_n (n := 0) (by omega) (by omega), (h.tone (s := 0) (by omega)).1]
    rfl
theorem nI_m1 {n : Nat} (h : n < 2 ^ 31) : ¬ nI n = -1 := by
  intro e
  have := nI_toInt h
  rw [e] at this
  have t : (-1 : Int32).toInt = -1 := rfl
  omega
theorem c_saying (h : V W S N f g) {w s X : Nat} (hw : w < N) (hs : s < S) (hX : X ≤ W) : f_X2_saying_29 (nI w) (nI s) (nI X) f = some (sy g w s X) := by
  have hN := h.N7
  have hS := h.S6
  obtain ⟨-, e9, -, -, hside⟩ := h.wit hw
  unfold f_X2_saying_29 sy
  rw [get_n (by omega) (by omega), e9]
  show (if g 4 w = 1 then _ else _) = _
  rw [c_wid h]
  rcases hside with e | e | e
  · rw [e, if_neg (by decide), if_neg (by decide), if_neg (nI_m1 (by omega)), if_pos rfl]
    obtain ⟨v, hv, hz⟩ := c_margin h hw hs hX
    rw [hv]
    show (if 0 ≤ v then _ else _) = _
    unfold ht hr
    have t0 : (0 : Int32).toInt = 0 := rfl
    have t5 : (5 : Int32).toInt = 5 := rfl
    by_cases h1 : 0 ≤ v
    · rw [if_pos h1]
      rw [le_t, t0] at h1
      by_cases h2 : v < 5
      · rw [if_pos h2]
        rw [lt_t, t5] at h2
        rw [decide_eq_false (by omega), decide_eq_true (by omega)]
        rfl
      · rw [if_neg h2]
        rw [lt_t, t5] at h2
        rw [decide_eq_true (by omega), get_n (by omega) (by omega), (h.tone hs).1]
        rfl
    · rw [if_neg h1]
      rw [le_t, t0] at h1
      rw [decide_eq_false (by omega), decide_eq_false (by omega)]
      rfl
  · rw [e, if_pos rfl, if_neg (by decide), if_pos rfl]
  · rw [e, if_neg (by decide), if_pos rfl, if_neg (by decide), if_neg (by decide)]
theorem c_sayingN (h : V W S N f g) {w : Nat} (hw : w < N) (p : Int32) : f_X2_saying_29 (nI w) (-1) p f = some (syN g w) := by
  have hN := h.N7
  obtain ⟨-, e9, -, -, hside⟩ := h.wit hw
  unfold f_X2_saying_29 syN
  rw [get_n (by omega) (by omega), e9]
  show (if g 4 w = 1 then _ else _) = _
  rw [c_wid h]
  rcases hside with e | e | e
  · rw [e, if_neg (by decide), if_neg (by decide), if_pos rfl, if_neg (by decide)]
  · rw [e, if_pos rfl, if_pos rfl]
  · rw [e, if_neg (by decide), if_pos rfl, if_neg (by decide)]
end HV
