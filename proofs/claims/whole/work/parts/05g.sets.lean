/-! Sets of places and of witnesses; counting; the questions that stand on them -/
theorem i_or (a b : Nat) : nI a ||| nI b = nI (a ||| b) := by
  apply Int32.toBitVec_inj.1
  show BitVec.ofNat 32 a ||| BitVec.ofNat 32 b = BitVec.ofNat 32 (a ||| b)
  apply BitVec.eq_of_getLsbD_eq
  intro i hi
  simp [hi]
theorem i_and (a b : Nat) : nI a &&& nI b = nI (a &&& b) := by
  apply Int32.toBitVec_inj.1
  show BitVec.ofNat 32 a &&& BitVec.ofNat 32 b = BitVec.ofNat 32 (a &&& b)
  apply BitVec.eq_of_getLsbD_eq
  intro i hi
  simp [hi]
theorem if1 {α : Type} {a b : α} : (if (1 : Int32) = 0 then a else b) = b := if_neg (by decide)
theorem if0 {α : Type} {a b : α} : (if (0 : Int32) = 0 then a else b) = a := if_pos rfl
theorem b2i_t : b2i true = 1 := rfl
theorem b2i_f : b2i false = 0 := rfl
theorem bit_n : ∀ y, y < 16 → (1 : Int32) <<< (nI y &&& 31) = nI (2 ^ y) := by decide +kernel
def orN (P : Nat → Bool) : Nat → Nat → Nat → Nat
  | acc, _, 0 => acc
  | acc, y, d + 1 => orN P (if P y then acc ||| 2 ^ y else acc) (y + 1) d
def anyN (P : Nat → Bool) : Nat → Nat → Bool
  | _, 0 => false
  | y, d + 1 => P y || anyN P (y + 1) d
theorem orN_s {P : Nat → Bool} {acc y d : Nat} : orN P acc y (d + 1) = orN P (if P y then acc ||| 2 ^ y else acc) (y + 1) d := rfl
theorem anyN_s {P : Nat → Bool} {y d : Nat} : anyN P y (d + 1) = (P y || anyN P (y + 1) d) := rfl
theorem orN_congr {P Q : Nat → Bool} : ∀ d y acc : Nat, (∀ k, y ≤ k → k < y + d → P k = Q k) → orN P acc y d = orN Q acc y d := by
  intro d
  induction d with
  | zero => intro y acc _; rfl
  | succ d ih =>
    intro y acc h
    rw [orN_s, orN_s, h y (by omega) (by omega)]
    exact ih (y + 1) _ (fun k h1 h2 => h k (by omega) (by omega))
theorem anyN_congr {P Q : Nat → Bool} : ∀ d y : Nat, (∀ k, y ≤ k → k < y + d → P k = Q k) → anyN P y d = anyN Q y d := by
  intro d
  induction d with
  | zero => intro y _; rfl
  | succ d ih =>
    intro y h
    rw [anyN_s, anyN_s, h y (by omega) (by omega), ih (y + 1) (fun k h1 h2 => h k (by omega) (by omega))]
theorem or_pos (a y : Nat) : ¬ (a ||| 2 ^ y) = 0 := by
  have h1 : 2 ^ y ≤ a ||| 2 ^ y := Nat.right_le_or
  have h2 : 0 < 2 ^ y := Nat.two_pow_pos y
  omega
theorem orN_zero {P : Nat → Bool} : ∀ d y acc : Nat, orN P acc y d = 0 ↔ (acc = 0 ∧ anyN P y d = false) := by
  intro d
  induction d with
  | zero => intro y acc; simp [orN, anyN]
  | succ d ih =>
    intro y acc
    rw [orN_s, anyN_s, ih]
    cases P y
    · simp
    · simp [or_pos]
theorem orN_lt {P : Nat → Bool} {M : Nat} : ∀ d y acc : Nat, acc < 2 ^ M → y + d ≤ M → orN P acc y d < 2 ^ M := by
  intro d
  induction d with
  | zero => intro y acc h _; exact h
  | succ d ih =>
    intro y acc h1 h2
    rw [orN_s]
    refine ih (y + 1) _ ?_ (by omega)
    split
    · exact Nat.or_lt_two_pow h1 (Nat.pow_lt_pow_right (by omega) (by omega))
    · exact h1
def lsP (g : St) (s X : Nat) (e : Int32) (y : Nat) : Bool := decide (e.toInt ≤ loudZ (g 1 s) (g 5) X y)
section HS
variable {W S N : Nat} {f g : St}
theorem c_lis_loop (h : V W S N f g) {s X : Nat} (hs : s < S) (hX : X ≤ W) (e : Int32) : ∀ d n y acc : Nat, y + d = pl W → d < n → f_X10_listeners_30_b6 n (nI s) (nI X) e (nI acc) (nI y) f = some (nI (orN (lsP g s X e) acc y d)) := by
  have hp := pl_le h.W8
  intro d
  induction d with
  | zero =>
    intro n y acc h1 h2
    obtain ⟨n, rfl⟩ : ∃ m, n = m + 1 := ⟨n - 1, by omega⟩
    simp only [f_X10_listeners_30_b6, f_X10_listeners_30_b6s, c_places h, Option.bind_some]
    rw [if_pos (nI_le (by omega) (by omega))]
    rfl
  | succ d ih =>
    intro n y acc h1 h2
    obtain ⟨n, rfl⟩ : ∃ m, n = m + 1 := ⟨n - 1, by omega⟩
    simp only [f_X10_listeners_30_b6, f_X10_listeners_30_b6s, c_places h, Option.bind_some]
    rw [if_neg (nI_ge (by omega) (by omega))]
    obtain ⟨v, hv, hz⟩ := c_loud h hs hX (pl_W (show y < pl W by omega))
    rw [hv]
    simp only [Option.bind_some, f_X10_listeners_30_b42, nm]
    rw [orN_s]
    by_cases hc : v < e
    · rw [if_pos hc, nI_1, show lsP g s X e y = false from decide_eq_false (by rw [lt_t, hz] at hc; omega)]
      exact ih n (y + 1) acc (by omega) (by omega)
    · rw [if_neg hc, nI_1, bit_n y (by omega), i_or, show lsP g s X e y = true from decide_eq_true (by rw [lt_t, hz] at hc; omega)]
      exact ih n (y + 1) _ (by omega) (by omega)
theorem c_listeners (h : V W S N f g) {s X : Nat} (hs : s < S) (hX : X ≤ W) (e : Int32) : f_X10_listeners_30 (nI s) (nI X) e f = some (nI (orN (lsP g s X e) 0 0 (pl W))) := by
  have hp := pl_le h.W8
  exact c_lis_loop h hs hX e (pl W) fuB 0 0 (by omega) (by unfold fuB; omega)
theorem m_lis_loop (h : V W S N f g) {s X : Nat} (hs : s < S) (hX : X ≤ W) (e : Int32) : ∀ d n y acc : Nat, y + d = pl W → d < n → f_X12_listenTo_b6 n (nI s) (nI X) e (nI acc) (nI y) g = some (nI (orN (lsP g s X e) acc y d)) := by
  have hp := pl_le h.W8
  intro d
  induction d with
  | zero =>
    intro n y acc h1 h2
    obtain ⟨n, rfl⟩ : ∃ m, n = m + 1 := ⟨n - 1, by omega⟩
    simp only [f_X12_listenTo_b6, f_X12_listenTo_b6s, m_places h, Option.bind_some]
    rw [if_pos (nI_le (by omega) (by omega))]
    rfl
  | succ d ih =>
    intro n y acc h1 h2
    obtain ⟨n, rfl⟩ : ∃ m, n = m + 1 := ⟨n - 1, by omega⟩
    simp only [f_X12_listenTo_b6, f_X12_listenTo_b6s, m_places h, Option.bind_some]
    rw [if_neg (nI_ge (by omega) (by omega))]
    obtain ⟨v, hv, hz⟩ := m_loud h hs hX (pl_W (show y < pl W by omega))
    rw [hv]
    simp only [Option.bind_some, f_X12_listenTo_b37, nm]
    rw [orN_s]
    by_cases hc : v < e
    · rw [if_pos hc, nI_1, show nI acc ||| (0 : Int32) = nI acc from (i_or acc 0).trans (by rw [Nat.or_zero]), show lsP g s X e y = false from decide_eq_false (by rw [lt_t, hz] at hc; omega)]
      exact ih n (y + 1) acc (by omega) (by omega)
    · rw [if_neg hc, nI_1, bit_n y (by omega), i_or, show lsP g s X e y = true from decide_eq_true (by rw [lt_t, hz] at hc; omega)]
      exact ih n (y + 1) _ (by omega) (by omega)
theorem m_listenTo (h : V W S N f g) {s X : Nat} (hs : s < S) (hX : X ≤ W) (e : Int32) : f_X12_listenTo (nI s) (nI X) e g = some (nI (orN (lsP g s X e) 0 0 (pl W))) := by
  have hp := pl_le h.W8
  exact m_lis_loop h hs hX e (pl W) fuB 0 0 (by omega) (by unfold fuB; omega)
def hsP (g : St) (s X : Nat) (o : Int) (w : Nat) : Bool := decide (o ≤ lz g s X w - (g 3 w).toInt)
theorem c_her_loop (h : V W S N f g) {s X : Nat} (hs : s < S) (hX : X ≤ W) (o : Int32) : ∀ d n y acc : Nat, y + d = N → d < n → f_X2_hearers_29_b6 n (nI s) (nI X) o (nI acc) (nI y) f = some (nI (orN (hsP g s X o.toInt) acc y d)) := by
  have hp := h.N7
  intro d
  induction d with
  | zero =>
    intro n y acc h1 h2
    obtain ⟨n, rfl⟩ : ∃ m, n = m + 1 := ⟨n - 1, by omega⟩
    simp only [f_X2_hearers_29_b6, f_X2_hearers_29_b6s, h.fN]
    rw [if_pos (nI_le (by omega) (by omega))]
    rfl
  | succ d ih =>
    intro n y acc h1 h2
    obtain ⟨n, rfl⟩ : ∃ m, n = m + 1 := ⟨n - 1, by omega⟩
    simp only [f_X2_hearers_29_b6, f_X2_hearers_29_b6s, h.fN]
    rw [if_neg (nI_ge (by omega) (by omega))]
    obtain ⟨v, hv, hz⟩ := c_margin h (show y < N by omega) hs hX
    rw [hv]
    simp only [Option.bind_some, f_X2_hearers_29_b39, nm]
    rw [orN_s]
    by_cases hc : v < o
    · rw [if_pos hc, nI_1, show hsP g s X o.toInt y = false from decide_eq_false (by rw [lt_t, hz] at hc; omega)]
      exact ih n (y + 1) acc (by omega) (by omega)
    · rw [if_neg hc, nI_1, bit_n y (by omega), i_or, show hsP g s X o.toInt y = true from decide_eq_true (by rw [lt_t, hz] at hc; omega)]
      exact ih n (y + 1) _ (by omega) (by omega)
theorem c_hearers (h : V W S N f g) {s X : Nat} (hs : s < S) (hX : X ≤ W) (o : Int32) : f_X2_hearers_29 (nI s) (nI X) o f = some (nI (orN (hsP g s X o.toInt) 0 0 N)) := by
  have hp := h.N7
  exact c_her_loop h hs hX o N fuB 0 0 (by omega) (by unfold fuB; omega)
theorem hsP_0 {s X w : Nat} : hsP g s X 0 w = hr g w s X := by
  unfold hsP hr
  simp only [decide_eq_decide]
  omega
theorem hsP_5 {s X w : Nat} : hsP g s X 5 w = ht g w s X := by
  unfold hsP ht
  simp only [decide_eq_decide]
  omega
/-- some witness hears it -/
def heard (g : St) (N s X : Nat) : Bool := anyN (fun w => hr g w s X) 0 N
theorem m_ish_loop (h : V W S N f g) {s X : Nat} (hs : s < S) (hX : X ≤ W) : ∀ (d n y : Nat) (b : Bool), y + d = N → d < n → f_X12_isHeard_b5 n (nI s) (nI X) (b2i b) (nI y) g = some (b2i (b || anyN (fun w => hr g w s X) y d)) := by
  have hp := h.N7
  intro d
  induction d with
  | zero =>
    intro n y b h1 h2
    obtain ⟨n, rfl⟩ : ∃ m, n = m + 1 := ⟨n - 1, by omega⟩
    simp only [f_X12_isHeard_b5, f_X12_isHeard_b5s, h.gN]
    rw [if_pos (nI_le (by omega) (by omega)), zr_b]
    simp [anyN]
  | succ d ih =>
    intro n y b h1 h2
    obtain ⟨n, rfl⟩ : ∃ m, n = m + 1 := ⟨n - 1, by omega⟩
    simp only [f_X12_isHeard_b5, f_X12_isHeard_b5s, h.gN, f_X12_isHeard_b29, f_X12_isHeard_b34]
    rw [if_neg (nI_ge (by omega) (by omega)), m_hears h (show y < N by omega) hs hX, nI_1, anyN_s]
    cases b
    · simp only [Option.bind_some, b2i_f, if0]
      cases hr g y s X
      · simp only [b2i_f, if0]
        exact ih n (y + 1) false (by omega) (by omega)
      · simp only [b2i_t, if1]
        exact (ih n (y + 1) true (by omega) (by omega)).trans (by simp)
    · simp only [b2i_t, if1]
      exact (ih n (y + 1) true (by omega) (by omega)).trans (by simp)
theorem m_isHeard (h : V W S N f g) {s X : Nat} (hs : s < S) (hX : X ≤ W) : f_X12_isHeard (nI s) (nI X) g = some (b2i (heard g N s X)) := by
  have hp := h.N7
  exact (m_ish_loop h hs hX N fuB 0 false (by omega) (by unfold fuB; omega)).trans (by simp [heard])
theorem c_heard0 (h : V W S N f g) {s X : Nat} : orN (hsP g s X 0) 0 0 N = 0 ↔ heard g N s X = false := by
  rw [orN_zero]
  unfold heard
  rw [anyN_congr (Q := fun w => hr g w s X) N 0 (fun k _ _ => hsP_0)]
  simp
theorem c_unh_loop (h : V W S N f g) {s : Nat} (hs : s < S) : ∀ d n y acc : Nat, y + d = pl W → d < n → f_X10_unheard_30_b4 n (nI s) (nI acc) (nI y) f = some (nI (orN (fun X => !heard g N s X) acc y d)) := by
  have hp := pl_le h.W8
  intro d
  induction d with
  | zero =>
    intro n y acc h1 h2
    obtain ⟨n, rfl⟩ : ∃ m, n = m + 1 := ⟨n - 1, by omega⟩
    simp only [f_X10_unheard_30_b4, f_X10_unheard_30_b4s, c_places h, Option.bind_some]
    rw [if_pos (nI_le (by omega) (by omega))]
    rfl
  | succ d ih =>
    intro n y acc h1 h2
    obtain ⟨n, rfl⟩ : ∃ m, n = m + 1 := ⟨n - 1, by omega⟩
    simp only [f_X10_unheard_30_b4, f_X10_unheard_30_b4s, c_places h, Option.bind_some]
    rw [if_neg (nI_ge (by omega) (by omega)), c_hearers h hs (pl_W (show y < pl W by omega)) 0]
    simp only [Option.bind_some, f_X10_unheard_30_b34, nm]
    have hN := h.N7
    have hb : orN (hsP g s y (0 : Int32).toInt) 0 0 N < 2 ^ 7 := orN_lt N 0 0 (by omega) (by omega)
    have h0 : orN (hsP g s y (0 : Int32).toInt) 0 0 N = 0 ↔ heard g N s y = false := c_heard0 h
    rw [orN_s]
    by_cases hc : heard g N s y = false
    · rw [if_pos (by rw [h0.mpr hc]; rfl), nI_1, bit_n y (by omega), i_or, hc]
      exact ih n (y + 1) _ (by omega) (by omega)
    · rw [if_neg (by
        intro q
        have q2 : nI (orN (hsP g s y (0 : Int32).toInt) 0 0 N) = nI 0 := q
        rw [nI_eq (by omega) (by omega)] at q2
        exact hc (h0.mp q2)), nI_1]
      rw [Bool.not_eq_false] at hc
      rw [hc]
      exact ih n (y + 1) _ (by omega) (by omega)
theorem c_unheard (h : V W S N f g) {s : Nat} (hs : s < S) : f_X10_unheard_30 (nI s) f = some (nI (orN (fun X => !heard g N s X) 0 0 (pl W))) := by
  have hp := pl_le h.W8
  exact c_unh_loop h hs (pl W) fuB 0 0 (by omega) (by unfold fuB; omega)
theorem m_deaf_loop (h : V W S N f g) {s : Nat} (hs : s < S) : ∀ d n y acc : Nat, y + d = pl W → d < n → f_X12_deaf_b15 n (nI s) (nI acc) (nI y) g = some (nI (orN (fun X => !heard g N s X) acc y d)) := by
  have hp := pl_le h.W8
  intro d
  induction d with
  | zero =>
    intro n y acc h1 h2
    obtain ⟨n, rfl⟩ : ∃ m, n = m + 1 := ⟨n - 1, by omega⟩
    simp only [f_X12_deaf_b15, f_X12_deaf_b15s, m_places h, Option.bind_some]
    rw [if_pos (nI_le (by omega) (by omega))]
    rfl
  | succ d ih =>
    intro n y acc h1 h2
    obtain ⟨n, rfl⟩ : ∃ m, n = m + 1 := ⟨n - 1, by omega⟩
    simp only [f_X12_deaf_b15, f_X12_deaf_b15s, m_places h, Option.bind_some]
    rw [if_neg (nI_ge (by omega) (by omega)), m_isHeard h hs (pl_W (show y < pl W by omega))]
    simp only [Option.bind_some, f_X12_deaf_b40]
    rw [orN_s]
    cases heard g N s y
    · simp only [b2i_f, if0]
      rw [nI_1, bit_n y (by omega), i_or]
      exact ih n (y + 1) _ (by omega) (by omega)
    · simp only [b2i_t, if1]
      rw [nI_1, show nI acc ||| (0 : Int32) = nI acc from (i_or acc 0).trans (by rw [Nat.or_zero])]
      exact ih n (y + 1) _ (by omega) (by omega)
end HS
theorem sim_listen : Sim_listen Rel := by
  intro f g hR p1 p2 p3
  obtain ⟨W, S, N, hV, hT⟩ := id hR
  refine q_ok hR ?_
  unfold f_X11_listen f_X12_listen f_X11_listen_b22 f_X12_listen_b16
  rw [c_isSound hV, m_isSound hV, c_isPlace hV, m_isPlace hV, c_out (n := 31) rfl, m_inN (n := 31) rfl]
  rcases rng_cases p1 S with e | ⟨e, s, hs, rfl⟩
  · rw [e]
    exact ⟨_, rfl, rfl⟩
  · rw [e]
    rcases rng_cases p2 (pl W) with e | ⟨e, X, hX, rfl⟩
    · rw [e]
      exact ⟨_, rfl, rfl⟩
    · rw [e]
      cases rng p3 31
      · exact ⟨_, rfl, rfl⟩
      · refine ⟨nI (orN (lsP g s X p3) 0 0 (pl W)), ?_, ?_⟩
        · show ((f_X10_listeners_30 (nI s) (nI X) p3 f).bind _) = _
          rw [c_listeners hV hs (pl_W hX)]; rfl
        · show ((f_X12_listenTo (nI s) (nI X) p3 g).bind _) = _
          rw [m_listenTo hV hs (pl_W hX)]; rfl
/-- how many bits, from k on -/
def popN (m : Nat) : Nat → Nat → Nat
  | _, 0 => 0
  | k, d + 1 => m / 2 ^ k % 2 + popN m (k + 1) d
theorem popN_s {m k d : Nat} : popN m k (d + 1) = m / 2 ^ k % 2 + popN m (k + 1) d := rfl
theorem popN_le {m : Nat} : ∀ d k : Nat, popN m k d ≤ d := by
  intro d
  induction d with
  | zero => intro k; exact Nat.le_refl _
  | succ d ih =>
    intro k
    rw [popN_s]
    have := ih (k + 1)
    have : m / 2 ^ k % 2 < 2 := Nat.mod_lt _ (by omega)
    omega
def pc (m : Nat) : Nat := popN m 0 9
theorem sh31 : ∀ k, k < 16 → ((nI k &&& 31).toBitVec.smod 32).toNat = k := by decide +kernel
theorem bitN {m k : Nat} (hm : m < 2 ^ 31) (hk : k < 16) : (nI m >>> (nI k &&& 31)) &&& (1 : Int32) = nI (m / 2 ^ k % 2) := by
  rw [pk_shrN hm _ k (sh31 k hk)]
  have : m / 2 ^ k ≤ m := Nat.div_le_self _ _
  exact pk_andN (m := 1) (by omega) 1 (by decide)
theorem bits_loop {m : Nat} (hm : m < 2 ^ 31) (g : St) : ∀ d n k acc : Nat, k + d = 9 → d < n → f_X12_bits_b4 n (nI m) (nI acc) (nI k) g = some (nI (acc + popN m k d)) := by
  intro d
  induction d with
  | zero =>
    intro n k acc h1 h2
    obtain ⟨n, rfl⟩ : ∃ m, n = m + 1 := ⟨n - 1, by omega⟩
    simp only [f_X12_bits_b4, f_X12_bits_b4s]
    rw [if_pos (show (9 : Int32) ≤ nI k from nI_le (a := 9) (by omega) (by omega))]
    rfl
  | succ d ih =>
    intro n k acc h1 h2
    obtain ⟨n, rfl⟩ : ∃ m, n = m + 1 := ⟨n - 1, by omega⟩
    simp only [f_X12_bits_b4, f_X12_bits_b4s, nm]
    rw [if_neg (show ¬ (9 : Int32) ≤ nI k from nI_ge (b := 9) (by omega) (by omega)), bitN hm (by omega), nI_add, nI_1, ih n (k + 1) _ (by omega) (by omega), popN_s, Nat.add_assoc]
theorem m_bits {m : Nat} (hm : m < 512) (g : St) : f_X12_bits (nI m) g = some (nI (pc m)) :=
  (bits_loop (by omega) g 9 fuB 0 0 (by omega) (by unfold fuB; omega)).trans (by rw [Nat.zero_add]; rfl)
theorem J6_all : ∀ m, m < 512 → f_J6_bitCount_0f7a4 (nI m) (fun _ _ => 0) = some (nI (pc m)) := by decide +kernel
theorem c_bits {m : Nat} (hm : m < 512) (f : St) : f_J6_bitCount_0f7a4 (nI m) f = some (nI (pc m)) := J6_all m hm
theorem sim_judge : Sim_judge Rel := by
  intro f g hR
  obtain ⟨W, S, N, hV, h1, h2, h3, h4, ⟨B, hB, b1, b2, bb⟩, h6, h7⟩ := id hR
  refine q_ok hR ?_
  obtain ⟨m, hm, em⟩ := hV.2.2.2.2
  have key : ∀ d n n2 y : Nat, y + d = B → d < n → d < n2 → ∃ r : Int32, f_X0_firstOtherThan_37_b2 n (nI (pc m)) (nI y) f = some r ∧ f_X12_judge_b2 n2 (nI y) g = some r := by
    intro d
    induction d with
    | zero =>
      intro n n2 y e1 e2 e3
      obtain ⟨n, rfl⟩ : ∃ m, n = m + 1 := ⟨n - 1, by omega⟩
      obtain ⟨n2, rfl⟩ : ∃ m, n2 = m + 1 := ⟨n2 - 1, by omega⟩
      simp only [f_X0_firstOtherThan_37_b2, f_X0_firstOtherThan_37_b2s, f_X12_judge_b2, f_X12_judge_b2s, b1, b2]
      rw [if_pos (nI_le (by omega) (by omega)), if_pos (nI_le (by omega) (by omega))]
      exact ⟨_, rfl, rfl⟩
    | succ d ih =>
      intro n n2 y e1 e2 e3
      obtain ⟨n, rfl⟩ : ∃ m, n = m + 1 := ⟨n - 1, by omega⟩
      obtain ⟨n2, rfl⟩ : ∃ m, n2 = m + 1 := ⟨n2 - 1, by omega⟩
      simp only [f_X0_firstOtherThan_37_b2, f_X0_firstOtherThan_37_b2s, f_X12_judge_b2, f_X12_judge_b2s, b1, b2]
      rw [if_neg (nI_ge (by omega) (by omega)), if_neg (nI_ge (by omega) (by omega))]
      rw [get_n (by omega) (by omega), show ck (19 : Int32) 28 _ = _ from ck_n (n := 28) (i := 19) (by omega) (by omega)]
      rw [show (19 : Int32).toNatClampNeg = 19 from rfl, em, m_bits (by omega)]
      simp only [Option.bind_some]
      rw [ck_n (by omega) (by omega), nI_clamp (by omega), bb y (by omega), nI_1]
      by_cases hc : g 17 y = nI (pc m)
      · rw [if_pos hc, if_pos hc.symm]
        exact ih n n2 (y + 1) (by omega) (by omega) (by omega)
      · rw [if_neg hc, if_neg (fun q => hc q.symm)]
        exact ⟨_, rfl, rfl⟩
  obtain ⟨r, k1, k2⟩ := key B fuB fuB 0 (by omega) (by unfold fuB; omega) (by unfold fuB; omega)
  refine ⟨r, ?_, k2⟩
  obtain ⟨-, -, -, -, r4, -⟩ := hV.row
  unfold f_X11_judge
  rw [show f_X8_get_18 (4 : Int32) f = some (f 19 4) from c_get 4 (by omega), r4, em]
  simp only [Option.bind_some, c_bits (show m < 512 by omega)]
  rw [show f_X0_firstOtherThan_37 (nI (pc m)) f = some r from k1]
  rfl
