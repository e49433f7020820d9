theorem bind_e {α β : Type} {x : Option α} {v : α} (h : x = some v) (k : α → Option β) : x.bind k = k v := by
  subst h; rfl
theorem swe_chain {p1 p2 v b d : Int32} {f f1 f2 f3 f4 f5 : St} (z1 : f_X8_get_18 (1 : Int32) f = some v) (z2 : f_X8_put_18 (1 : Int32) (v + 1) f = some f1) (z3 : f_X8_put_18 (2 : Int32) p1 f1 = some f2) (z4 : f_X8_put_18 (3 : Int32) p2 f2 = some f3) (z5 : f_X2_hearers_29 p1 p2 (0 : Int32) f3 = some b) (z6 : f_X8_put_18 (4 : Int32) b f3 = some f4) (z7 : f_X2_hearers_29 p1 p2 (5 : Int32) f4 = some d) (z8 : f_X8_put_18 (5 : Int32) d f4 = some f5) : f_X11_swear p1 p2 f = f_X11_swear_b74 fuB p1 p2 (0 : Int32) f5 := by
  unfold f_X11_swear
  generalize f_X11_swear_b74 fuB = K
  rw [bind_e z1, bind_e z2, bind_e z3, bind_e z4, bind_e z5, bind_e z6, bind_e z7, bind_e z8]
theorem swe_pre {W S N : Nat} {f g : St} (h : V W S N f g) {s X : Nat} (hs : s < S) (hX : X ≤ W) : f_X11_swear (nI s) (nI X) f = f_X11_swear_b74 fuB (nI s) (nI X) (0 : Int32) (cm f (g 5 16 + 1) (nI s) (nI X) (nI (orN (fun v => hr g v s X) 0 0 N)) (nI (orN (fun v => ht g v s X) 0 0 N)) (fun v => sy g v s X) 0) := by
  have hN := h.N7
  obtain ⟨q, hq, eq⟩ := h.2.2.2.2
  have r1 := h.row.2.1
  have r4 := h.row.2.2.2.2.1
  have hHf : orN (fun v => hr g v s X) 0 0 N < 2 ^ 7 := orN_lt N 0 0 (by omega) (by omega)
  have h8 : V W S N (cm f (g 5 16 + 1) (nI s) (nI X) (f 19 4) (f 19 5) (fun v => sy g v s X) 0) (gm g (g 5 16 + 1) (nI s) (nI X) (f 19 4) (f 19 5) (fun v => sy g v s X) 0) := h.cm hq (r4.trans eq)
  have o1 : orN (hsP (gm g (g 5 16 + 1) (nI s) (nI X) (f 19 4) (f 19 5) (fun v => sy g v s X) 0) s X (0 : Int32).toInt) 0 0 N = orN (fun v => hr g v s X) 0 0 N := orN_congr N 0 0 (fun k _ hk => hsP_0.trans (hr_gm h.gok hX (by omega)))
  have k8 := c_hearers h8 hs hX 0
  rw [o1] at k8
  have h12 : V W S N (cm f (g 5 16 + 1) (nI s) (nI X) (nI (orN (fun v => hr g v s X) 0 0 N)) (f 19 5) (fun v => sy g v s X) 0) (gm g (g 5 16 + 1) (nI s) (nI X) (nI (orN (fun v => hr g v s X) 0 0 N)) (f 19 5) (fun v => sy g v s X) 0) := h.cm hHf rfl
  have o2 : orN (hsP (gm g (g 5 16 + 1) (nI s) (nI X) (nI (orN (fun v => hr g v s X) 0 0 N)) (f 19 5) (fun v => sy g v s X) 0) s X (5 : Int32).toInt) 0 0 N = orN (fun v => ht g v s X) 0 0 N := orN_congr N 0 0 (fun k _ hk => hsP_5.trans (ht_gm h.gok hX (by omega)))
  have k12 := c_hearers h12 hs hX 5
  rw [o2] at k12
  have z1 : f_X8_get_18 (1 : Int32) f = some (g 5 16) := (c_get 1 (by omega)).trans (congrArg some r1)
  have z2 : f_X8_put_18 (1 : Int32) (g 5 16 + 1) f = some (su f 19 1 (g 5 16 + 1)) := c_put 1 (by omega) _
  have z3 : f_X8_put_18 (2 : Int32) (nI s) (su f 19 1 (g 5 16 + 1)) = some (su (su f 19 1 (g 5 16 + 1)) 19 2 (nI s)) := c_put 2 (by omega) _
  have z4 : f_X8_put_18 (3 : Int32) (nI X) (su (su f 19 1 (g 5 16 + 1)) 19 2 (nI s)) = some (cm f (g 5 16 + 1) (nI s) (nI X) (f 19 4) (f 19 5) (fun v => sy g v s X) 0) := (c_put 3 (by omega) _).trans (congrArg some cm_init)
  have z5 : f_X8_put_18 (4 : Int32) (nI (orN (fun v => hr g v s X) 0 0 N)) (cm f (g 5 16 + 1) (nI s) (nI X) (f 19 4) (f 19 5) (fun v => sy g v s X) 0) = some (cm f (g 5 16 + 1) (nI s) (nI X) (nI (orN (fun v => hr g v s X) 0 0 N)) (f 19 5) (fun v => sy g v s X) 0) := (c_put 4 (by omega) _).trans (congrArg some cm_H)
  have z6 : f_X8_put_18 (5 : Int32) (nI (orN (fun v => ht g v s X) 0 0 N)) (cm f (g 5 16 + 1) (nI s) (nI X) (nI (orN (fun v => hr g v s X) 0 0 N)) (f 19 5) (fun v => sy g v s X) 0) = some (cm f (g 5 16 + 1) (nI s) (nI X) (nI (orN (fun v => hr g v s X) 0 0 N)) (nI (orN (fun v => ht g v s X) 0 0 N)) (fun v => sy g v s X) 0) := (c_put 5 (by omega) _).trans (congrArg some cm_T)
  exact swe_chain z1 z2 z3 z4 k8 z5 k12 z6
theorem morning_step {W S N : Nat} {f g : St} (h : V W S N f g) {s X : Nat} (hs : s < S) (hX : X ≤ W) : ∃ f' g' : St, f_X11_swear (nI s) (nI X) f = some f' ∧ f_X12_morningOf (nI s) (nI X) g = some g' ∧ V W S N f' g' ∧ (∀ k, k ≠ 19 → f' k = f k) ∧ (∀ k, k ≠ 5 → g' k = g k) := by
  have hN := h.N7
  have hHf : orN (fun v => hr g v s X) 0 0 N < 2 ^ 7 := orN_lt N 0 0 (by omega) (by omega)
  have e1 := swe_all h hs hX (g 5 16 + 1) (nI (orN (fun v => ht g v s X) 0 0 N)) hHf
  rw [← swe_pre h hs hX] at e1
  exact ⟨_, _, e1, m_morningOf h.gok hs hX, h.cm hHf rfl, fun k hk => cm_r hk, fun k hk => gm_r hk⟩
theorem Rest.rows {W N : Nat} {f g f' g' : St} (h : Rest W N f g) (a : ∀ k, k ≠ 19 → f' k = f k) (b : ∀ k, k ≠ 5 → g' k = g k) : Rest W N f' g' :=
  h.mv (by rw [a 0 (by omega)]) (by rw [a 1 (by omega)]) (a 2 (by omega)) (by rw [a 10 (by omega)]) (a 20 (by omega)) (a 21 (by omega)) (a 23 (by omega)) (a 25 (by omega)) (a 26 (by omega)) (a 28 (by omega)) (by rw [a 32 (by omega)]) (a 33 (by omega)) (a 34 (by omega)) (by rw [a 37 (by omega)]) (a 38 (by omega)) (by rw [b 0 (by omega)]) (by rw [b 0 (by omega)]) (by rw [b 0 (by omega)]) (by rw [b 0 (by omega)]) (by rw [b 0 (by omega)]) (by rw [b 0 (by omega)]) (b 6 (by omega)) (b 13 (by omega)) (b 14 (by omega)) (b 15 (by omega)) (b 17 (by omega)) (b 18 (by omega)) (b 19 (by omega))
theorem c_full {W S N : Nat} {f g : St} (h : V W S N f g) : f_X11_isFullOfMornings f = some (b2i (!decide (g 5 16 ≤ 9000))) := by
  unfold f_X11_isFullOfMornings
  rw [show f_X8_get_18 (1 : Int32) f = some (f 19 1) from c_get 1 (by omega), h.row.2.1]
  simp only [Option.bind_some]
  by_cases hc : g 5 16 ≤ 9000
  · rw [if_pos hc, decide_eq_true hc]; rfl
  · rw [if_neg hc, decide_eq_false hc]; rfl
