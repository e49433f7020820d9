/-! THE CLAIM OUT OF ONE WALK OF THE LAW'S BODY. Your part is whole_start (and what it stands on); all else here is the same for every law, but numbers. -/
def R_law : String := "FourWallsLaw"
def lw_P (b : Addr) (xs : List Int32) (args : Array Value) (s : State) : Prop := args = #[.ref b] ∧ s.IntsAt b xs ∧ xs.length ≤ 3072 ∧ (Jvm.Cond.and given_1 narrow_1).before args s = true
def lw_Q (_ : Array Value) (s : State) (o : Outcome) (t : State) : Prop := o = .returned (some (.int 1)) ∧ Framed s o t [] 600000 7302250
def lw_Z (below : List Frame) (a : Array Value) (s : State) : State → Prop := fun t => ∃ o, t.status = .running ∧ Ended t below o ∧ lw_Q a s o t
/-- the law's own end, with 1 on the stack, nothing written that was there before, its room as the claim has it -/
theorem lw_ret {p : Program} {l : Launch} {e : Env} {s : State} {m : MethodId} {below : List Frame} {meth : Method} {c : Code} {b : Nat} (hx : p.tables.exec = Jvm.exec) (hb : c.code = code) (hr : meth.sig.returnType = ret) (hlocks : meth.locks = false) {pc : Nat} {H : Heap} {ls : Array Slot} (hdg : decode code pc = .ok (.ireturn, 1)) : W p l e room_1 s m #[Value.ref b] below meth c H [] 600000 7302250 (lw_Z below #[Value.ref b] s) (F0 m pc ls [.int 1]) := by
  intro T hT X
  obtain ⟨fs, hret, hrun, hended, hW, hframe⟩ := X.leave (v := some (.int 1)) (hlocks := hlocks) (fun h => by rw [hr] at h; cases h)
  have hmeth' : T.vm.method? m = some meth := X.method'
  refine ⟨T.setFrames fs, ?_, .returned (some (.int 1)), hrun, hended, rfl, ⟨_, rfl⟩, hW, hframe⟩
  jvm_step X.here [X.here.top, hx, hb, hdg, hmeth', hr, ret, narrow_b1]
  (try refine ⟨rfl, ?_⟩); (try refine ⟨rfl, ?_⟩)
  first | (intro acts; rw [hret _ acts rfl rfl rfl]) | rw [hret _ _ rfl rfl rfl]
  exact Steps.refl _
/-- what holds at the law's entry: the machine, the code, the tables' words (any of lw_tbl by 'hts w (by decide +kernel)'), the script of L ints xs at the cell b, what the Statement gives of the start (any of its parts by flat_of_before) -/
def lw_At (p : Program) (s : State) (m : MethodId) (meth : Method) (c : Code) (b L : Nat) (xs : Nat → Int32) : Prop :=
  p.tables.exec = Jvm.exec ∧ c.code = code ∧ meth.sig.returnType = ret ∧ c.maxLocals = 4 ∧ s.vm.findClass R_law = some m.cls ∧ (∀ w ∈ lw_tbl, w.before #[Value.ref b] s = true) ∧ va_X b L xs s s.heap ∧ b < s.heap.size ∧ meth.locks = false ∧ (Jvm.Cond.and given_1 narrow_1).before #[Value.ref b] s = true

theorem fm_of_map {α : Type} {ps : List Nat} {w w' : List α} (h : ps.map (fun i => w[i]?) = w'.map some) : ps.filterMap (fun i => w[i]?) = w' := by
  have e : ps.filterMap (fun i => w[i]?) = (ps.map (fun i => w[i]?)).filterMap id := by
    rw [List.filterMap_map]; rfl
  rw [e, h, List.filterMap_map]
  simp
theorem pick_at {α : Type} {ps : List Nat} {w w' : List α} (h : ps.map (fun i => w[i]?) = w'.map some) {i : Nat} {x : α} (hx : w'[i]? = some x) : ∃ k : Nat, w[k]? = some x := by
  have h1 : (ps.map (fun i => w[i]?))[i]? = some (some x) := by rw [h, List.getElem?_map, hx]; rfl
  rw [List.getElem?_map] at h1
  cases hp : ps[i]? with
  | none => rw [hp] at h1; cases h1
  | some k => rw [hp] at h1; exact ⟨k, Option.some.inj h1⟩
theorem P_app {D : va_G} {w1 w2 : va_W} {H : Heap} (h : va_P D vwCl (w1 ++ w2) H) : va_P D vwCl w1 H ∧ va_P D vwCl w2 H := by
  refine ⟨fun k q hk => h k q (by rw [List.getElem?_append_left (List.getElem?_eq_some_iff.mp hk).1]; exact hk), fun k q hk => h (w1.length + k) q (by rw [List.getElem?_append_right (by omega)]; rw [show w1.length + k - w1.length = k by omega]; exact hk)⟩
theorem D_app {A : Nat → Prop} {w1 w2 : va_W} (h : va_D A (w1 ++ w2)) : va_D A w1 ∧ va_D A w2 ∧ ∀ (i j : Nat) (p q : Nat × va_E), w1[i]? = some p → w2[j]? = some q → p.1 ≠ q.1 := by
  have hl : ∀ (k : Nat) (q : Nat × va_E), w1[k]? = some q → (w1 ++ w2)[k]? = some q := fun k q hk => by rw [List.getElem?_append_left (List.getElem?_eq_some_iff.mp hk).1]; exact hk
  have hr : ∀ (k : Nat) (q : Nat × va_E), w2[k]? = some q → (w1 ++ w2)[w1.length + k]? = some q := fun k q hk => by rw [List.getElem?_append_right (by omega)]; rw [show w1.length + k - w1.length = k by omega]; exact hk
  refine ⟨⟨fun i j p q hi hj e => h.1 i j p q (hl i p hi) (hl j q hj) e, fun k q hk => h.2 k q (hl k q hk)⟩, ⟨fun i j p q hi hj e => ?_, fun k q hk => h.2 _ q (hr k q hk)⟩, fun i j p q hi hj e => ?_⟩
  · have := h.1 _ _ p q (hr i p hi) (hr j q hj) e
    omega
  · have h1 := h.1 _ _ p q (hl i p hi) (hr j q hj) e
    have h2 := (List.getElem?_eq_some_iff.mp hi).1
    omega
theorem rl_ctorK {a : Ax} {D : va_G} {A : Nat → Prop} {nL : Nat} {Q : State → Prop} {ks ns : Nat} {tys : List (ClassId × FieldType)} {cc : ByteArray} {own : String} {Ts : List Cond} {rm : Room} {nest : List Cond} {ret : Option FieldType} {nm0 : String} {pc : Nat} {lv : List (Nat × Value)} {st : List Value} {ws : va_W} (F : FL a D A cc own Ts nL rm nest ret nm0) {As st0 : List Value} {ci q : Nat} {fs : List Value} {S : Type} {post : S → Prop} {w : Nat → S → va_W} {tyf : S → List (ClassId × FieldType)} {mc ms : Nat} {wr : va_W} {ks' ns' : Nat}
    (run : ∀ (H : Heap) (locs : List Loc) (ls : Array Slot), va_P D vwCl ws H → va_D A ws → va_K D vwCl tys (aS a) → lv_has ls nL lv → va_Run (aP a) (aL a) (aE a) (aR a) (aS a) (aM a) (aA a) (aB a) (aT a) (aC a) H locs ks ns mc ms (F0 (aM a) pc ls st0) st (va_Qv post (fun u t => va_P D vwCl (w q u) t.heap ∧ va_K D vwCl (tyf u) t ∧ va_D (va_A [(q, .inr (ci, fs))] H.size) (w q u)) (va_A [(q, .inr (ci, fs))] H.size) (Value.ref q :: As).toArray) (va_A [(q, .inr (ci, fs))] H.size))
    (hwr : ws = wr ++ [(q, .inr (ci, fs))]) (hks : ks + mc = ks') (hns : ns + ms = ns') (k : ∀ u : S, post u → WL a D A nL Q ks' ns' (tys ++ tyf u) (pc + 3) lv st (wr ++ w q u)) : WL a D A nL Q ks ns tys pc lv st0 ws := by
  subst hwr; subst hks; subst hns
  intro H locs ls hP hD hK hS hl
  have hC : [wr.length].map (fun i => (wr ++ [(q, (Sum.inr (ci, fs) : va_E))])[i]?) = [(q, (Sum.inr (ci, fs) : va_E))].map some := by
    simp
  have hF := va_free (wc := [(q, .inr (ci, fs))]) hD hS F.2.2.2.2.2.2.1 [wr.length] hC
  refine va_callv (run H locs ls hP hD hK hl) hS (fun q _ h => hF q h) hF (fun u t H1 locs1 ht hvm hw1 hB hz1 hk1 hS1 => ?_)
  obtain ⟨hP1, hK1, hD1⟩ := hB
  rw [ht] at hP1
  obtain ⟨hP2, hD2⟩ := va_join (wr := wr) (w1 := w q u) hP hD [wr.length] (List.range wr.length) hC (pick_init wr _) (nd_range _) (fun i hi h => by
    have := List.mem_range.mp hi
    have h2 := List.mem_singleton.mp h
    omega) hk1 hF hP1 hD1
  exact k u hw1 H1 locs1 ls hP2 hD2 (hK.app (va_K.moved hvm.symm hK1)) hS1 hl
theorem up22 (x y : Nat) : va_up (va_up (fun _ => (none : Option Nat)) 0 (some x)) 1 (some y) = fun j => if j = 0 then some x else if j = 1 then some y else none := by
  funext j
  unfold va_up
  by_cases h1 : j = 1
  · subst h1; rfl
  · by_cases h0 : j = 0
    · subst h0; rfl
    · simp [h0, h1]
def iC : Nat → Nat → Int32 := fun k => match k with
  | 10 => fun j => if j = 3 then -1 else 0
  | 19 => fmS 1
  | 25 => fmS 1
  | 28 => fmS 1
  | _ => fun _ => 0
def admC (a0 a1 a2 a3 a4 a5 a6 a7 a8 a9 a10 a11 a12 a13 a14 a15 a16 a17 a18 a19 a20 a21 a22 a23 a24 a25 a26 a27 a28 a29 a30 a31 a32 a33 a34 a35 a36 a37 a38 : Nat) : Nat → Nat := fun k => match k with | 0 => a0 | 1 => a1 | 2 => a2 | 3 => a3 | 4 => a4 | 5 => a5 | 6 => a6 | 7 => a7 | 8 => a8 | 9 => a9 | 10 => a10 | 11 => a11 | 12 => a12 | 13 => a13 | 14 => a14 | 15 => a15 | 16 => a16 | 17 => a17 | 18 => a18 | 19 => a19 | 20 => a20 | 21 => a21 | 22 => a22 | 23 => a23 | 24 => a24 | 25 => a25 | 26 => a26 | 27 => a27 | 28 => a28 | 29 => a29 | 30 => a30 | 31 => a31 | 32 => a32 | 33 => a33 | 34 => a34 | 35 => a35 | 36 => a36 | 37 => a37 | _ => a38
set_option maxHeartbeats 4000000 in
set_option maxRecDepth 100000 in
theorem sub_C (D : va_G) (qA q1 q1_2 q3 q1_4 q2_4 q3_4 q4_4 q5_4 q6_4 q5 q1_6 q1_2_6 q2_2_6 q3_2_6 q4_2_6 q5_2_6 q6_2_6 q7 q1_8 q9 q1_10 q11 q12 q14 q1_15 q16 q1_17 q2_17 q3_17 q4_17 q18 q1_19 q20 q1_21 q1_2_21 q22 q1_23 q1_2_23 : Nat) (cI cJ : ClassId) : ([0, 1, 2, 3, 4, 5, 6, 7, 8, 9, 10, 11, 12, 13, 14, 15, 16, 17, 18, 19, 20, 21, 22, 33, 34, 35, 36, 37, 38, 23, 24, 25, 26, 27, 28, 29, 30, 31, 32] : List Nat).map (fun i => ([(qA, .inr (10, [.ref q1, .ref q3, .ref q5, .ref q7, .ref q9, .int 0, .ref q11, .ref q12, .ref q14, .ref q16, .ref q18])), (q1, .inr (8, [.ref q1_2, .int 0])), (q1_2, .inl (cI, 240, .inl (fun _ => 0))), (q3, .inr (5, [.int 0, .int 0, .int 0, .int 0, .ref q1_4, .ref q2_4, .ref q3_4, .ref q4_4, .ref q5_4, .ref q6_4])), (q1_4, .inl (cI, 8, .inl (fun _ => 0))), (q2_4, .inl (cI, 6, .inl (fun _ => 0))), (q3_4, .inl (cI, 6, .inl (fun _ => 0))), (q4_4, .inl (cI, 7, .inl (fun _ => 0))), (q5_4, .inl (cI, 7, .inl (fun _ => 0))), (q6_4, .inl (cI, 7, .inl (fun _ => 0))), (q5, .inr (6, [.ref q1, .ref q1_6, .int 0, .int (-1), .int 0, .int 0])), (q1_6, .inr (5, [.int 0, .int 0, .int 0, .int 0, .ref q1_2_6, .ref q2_2_6, .ref q3_2_6, .ref q4_2_6, .ref q5_2_6, .ref q6_2_6])), (q1_2_6, .inl (cI, 8, .inl (fun _ => 0))), (q2_2_6, .inl (cI, 6, .inl (fun _ => 0))), (q3_2_6, .inl (cI, 6, .inl (fun _ => 0))), (q4_2_6, .inl (cI, 7, .inl (fun _ => 0))), (q5_2_6, .inl (cI, 7, .inl (fun _ => 0))), (q6_2_6, .inl (cI, 7, .inl (fun _ => 0))), (q7, .inr (7, [.ref q1_8])), (q1_8, .inl (cI, 28, .inl (fmS 1))), (q9, .inr (4, [.ref q1_10, .int 0, .int 0])), (q1_10, .inl (cI, 560, .inl (fun _ => 0))), (q11, .inl (cJ, 2, .inr (.inr (.inr (.inr (fun j => if j = 0 then some q20 else if j = 1 then some q22 else none)))))), (q12, .inr (2, [.ref q3, .ref q7])), (q14, .inr (9, [.ref q3, .ref q7, .ref q12, .ref q1_15])), (q1_15, .inl (cI, 9, .inl (fun _ => 0))), (q16, .inr (1, [.ref q3, .ref q12, .ref q1_17, .ref q2_17, .int 0, .ref q3_17, .int 0, .ref q4_17])), (q1_17, .inl (cI, 8, .inl (fun _ => 0))), (q2_17, .inl (cI, 8, .inl (fun _ => 0))), (q3_17, .inl (cI, 55, .inl (fun _ => 0))), (q4_17, .inl (cI, 12, .inl (fun _ => 0))), (q18, .inr (0, [.ref q1_19, .int 0])), (q1_19, .inl (cI, 15, .inl (fun _ => 0))), (q20, .inr (3, [.ref q1_21, .int 0, .int 0])), (q1_21, .inr (7, [.ref q1_2_21])), (q1_2_21, .inl (cI, 28, .inl (fmS 1))), (q22, .inr (3, [.ref q1_23, .int 0, .int 0])), (q1_23, .inr (7, [.ref q1_2_23])), (q1_2_23, .inl (cI, 28, .inl (fmS 1)))] : va_W)[i]?) = (xW (XC (D, admC qA q1 q1_2 q3 q1_4 q2_4 q3_4 q4_4 q5_4 q6_4 q5 q1_6 q1_2_6 q2_2_6 q3_2_6 q4_2_6 q5_2_6 q6_2_6 q7 q1_8 q9 q1_10 q11 q20 q1_21 q1_2_21 q22 q1_23 q1_2_23 q12 q14 q1_15 q16 q1_17 q2_17 q3_17 q4_17 q18 q1_19, cI, cJ)) iC).map some := rfl
theorem LW_end {a : Ax} {XA XB : Wx} {A : Nat → Prop} {b L : Nat} {xs : Nat → Int32} (F : FW a XA XB A b L xs) (hA : ∀ q, A q → (aS a).heap.size ≤ q) (hargs : aA a = #[Value.ref b]) (hlk : (aT a).locks = false) (hret : (aT a).sig.returnType = ret) {ks ns : Nat} (hk : ks ≤ 600000) (hn : ns ≤ 7302250) {lv : List (Nat × Value)} {f g : Nat → Nat → Int32} : LW a XA XB A (lw_Z (aB a) #[Value.ref b] (aS a)) ks ns 1168 lv [] f g := by
  refine lw_iconst F (v := 1) dL_law_1168 (by decide) ?_
  intro H locs ls hP hM hS hl
  obtain ⟨h1, h2, h3, h4, h5, h6, -⟩ := F
  rw [h6, hargs]
  refine va_forget (fun q hq => hA _ (hS.2.2 q hq)) ?_
  refine W.widen hk hn ?_
  exact lw_ret h1 h2 hret hlk dL_law_1169
theorem loop_facts {L n : Nat} (hL : L ≤ 3072) (hn : n ≤ L) : (¬ Int32.ofNat L - 6 < nI n) → n + 6 ≤ L := by
  intro h
  have e : (Int32.ofNat L - 6).toInt = (L : Int) - 6 := pk_sub_toInt (a := L) (b := 6) (by omega) (by omega)
  have e2 : (nI n).toInt = n := nI_toInt (by omega)
  rw [Int32.lt_iff_toInt_lt, e, e2] at h
  omega
theorem vp_add {L n j : Nat} (h : n + j < L) (hL : L ≤ 3072) : vp_in (nI n + nI j) L := by
  rw [nI_add]
  exact vp_in_nI h (by omega)
set_option maxHeartbeats 4000000 in
set_option maxRecDepth 100000 in
theorem law_loop {a : Ax} {ZA ZB : Zx} {A : Nat → Prop} {b L : Nat} {xs : Nat → Int32} (F : FW a (XC ZA) (XM ZB) A b L xs) (hA : ∀ q, A q → (aS a).heap.size ≤ q) (hargs : aA a = #[Value.ref b]) (hlk : (aT a).locks = false) (hret : (aT a).sig.returnType = ret) {Rel : (Nat → Nat → Int32) → (Nat → Nat → Int32) → Prop} (hS : SimAll Rel) (hL : L ≤ 3072) {ks ns : Nat} (hf : ks ≤ room_1.cells ∧ ns ≤ room_1.slots) : ∀ (m n : Nat), n ≤ L → L < n + m → ∀ f g : Nat → Nat → Int32, Rel f g → LW a (XC ZA) (XM ZB) A (lw_Z (aB a) #[Value.ref b] (aS a)) ks ns 18 [(0, .ref b), (1, .ref (ZA.2.1 0)), (2, .ref (ZB.2.1 0)), (3, .int (nI n))] [] f g := by
  intro m
  induction m with
  | zero => intro n h1 h2; omega
  | succ m ih =>
    intro n hn hm f g hR
    refine lw_iload_n F dL_law_18 rfl 3 rfl ?_
    refine lw_aload_n F dL_law_19 rfl 0 rfl ?_
    refine lw_slen F dL_law_20 ?_
    refine lw_bipush F (v := 6) dL_law_21 (by decide) ?_
    refine lw_isub F dL_law_23 ?_
    refine lw_gt F (tgt := 1168) dL_law_24 (by decide) (fun _ => LW_end F hA hargs hlk hret hf.1 hf.2) (fun hc => ?_)
    have h6 := loop_facts hL hn hc
    refine lw_aload_n F dL_law_27 rfl 0 rfl ?_
    refine lw_iload_n F dL_law_28 rfl 3 rfl ?_
    refine lw_sld F (vp_in_nI (by omega) (by omega)) dL_law_29 ?_
    refine lw_bipush F (v := 63) dL_law_30 (by decide) ?_
    refine lw_iand F dL_law_32 ?_
    refine law_switch F hS hf hR (vp_add (j := 1) (by omega) hL) (vp_add (j := 2) (by omega) hL) (vp_add (j := 3) (by omega) hL) (vp_add (j := 4) (by omega) hL) (vp_add (j := 5) (by omega) hL) (fun f1 g1 hR1 => ?_) _
    refine lw_iinc F (v := nI (n + 6)) dL_law_1162 3 rfl (by rw [← nI_add]; rfl) (by decide) rfl ?_
    refine lw_goto F (tgt := 18) dL_law_1165 (by decide) ?_
    exact LW.sub [1, 2, 3, 0] rfl (ih (n + 6) h6 (by omega) f1 g1 hR1)
def nestC : List Cond := [.methodLinkNest RX11 11 yX9_init "FourWalls", .methodLinkNest RX11 18 yX5_init "FourWalls", .methodLinkNest RX11 41 yX4_init "FourWalls", .arrayOver (.object RX3), .methodLinkNest RX11 81 yX0_init "FourWalls", .methodLinkNest RX11 86 yX3_init "FourWalls", .methodLinkNest RX6 11 yX5_init "FourWalls"]
theorem rl_blind2 {D : va_G} {av : List Value} {sz : Nat} {ws0 : va_W} {tys0 : List (ClassId × FieldType)} {nest0 : List Cond} (hn : ∀ w ∈ nest0, ∀ u U : State, u.vm = U.vm → va_Nw w u → va_Nw w U) : FrameBlind (va_Pc av (fun U => U.heap.size = sz ∧ va_P D vwCl ws0 U.heap ∧ va_K D vwCl tys0 U ∧ va_D (fun _ => True) ws0 ∧ ∀ w ∈ nest0, va_Nw w U)) := by
  intro v U g mk h
  obtain ⟨h1, h2, h3, h4, h5, h6⟩ := h
  exact ⟨h1, h2, h3, va_K.moved (u := U) (U := U.calling g mk v) (Vm.Alike.refl U.vm) h4, h5, fun w hw => hn w hw U (U.calling g mk v) rfl (h6 w hw)⟩
theorem run_I2 {a : Ax} {D : va_G} {A : Nat → Prop} {nL : Nat} {ks ns : Nat} {tys : List (ClassId × FieldType)} {cc : ByteArray} {own : String} {Ts : List Cond} {rm : Room} {nest : List Cond} {ret : Option FieldType} {nm0 : String} {pc : Nat} {lv : List (Nat × Value)} {st : List Value} {ws : va_W} (F : FL a D A cc own Ts nL rm nest ret nm0) {y : MethodName} {wsy ws'' : List Cond} {rm' : Room} {As st0 : List Value} {ci q : Nat} {fs : List Value} {S : Type} {post : S → Prop} {w : Nat → S → va_W} {tyf : S → List (ClassId × FieldType)} {mc ms index nA maxL : Nat} {bytes : ByteArray} {cI : ClassId} {wr : va_W} {nest' : List Cond} (t0 : Nat) (ht : tys[t0]? = some (cI, .int)) (hwr : ws = wr ++ [(q, .inr (ci, fs))]) (hM : MC (aL a) D cI y wsy rm' As ci fs nest' post w tyf mc ms) (hne : ∀ w ∈ nest', w ∈ nest) (hnw : ∀ w ∈ nest', ∀ u U : State, u.vm = U.vm → va_Nw w u → va_Nw w U) (hnm : ∀ w ∈ nest', ∀ U : State, (aS a).WarmedH U.vm → va_Nw w (aS a) → va_Nw w U) (hG : GoodIn Ts wsy) (hw : wsy = Cond.code y bytes maxL none :: ws'') (hrm : rm'.cells = mc ∧ rm'.slots = ms) (hini : Cond.initialized y.cls ∈ Ts) (hl1 : Cond.methodLink own index y ∈ Ts) (hi : Cond.instanceMethod y ∈ Ts) (hy1 : y.name = "<init>") (hd : y.cls ≠ "java/lang/invoke/MethodHandle" ∧ y.cls ≠ "java/lang/invoke/VarHandle" ∧ (parseMethodDescriptor y.desc).map (fun d => d.parameters.length) = some nA) (hR : rm'.frames + 1 ≤ rm.frames ∧ 8 + (maxL + 11) + rm'.locals ≤ rm.locals) (hn : As.length = nA) (hst : st0 = As.reverse ++ .ref q :: st) (hro : (st.map fun v => v.category).sum ≤ 8) (hdg : decode cc pc = .ok (.invokespecial index, 3)) (hf : ks + mc ≤ rm.cells ∧ ns + ms ≤ rm.slots)
    (H : Heap) (locs : List Loc) (ls : Array Slot) (hP : va_P D vwCl ws H) (hD : va_D A ws) (hK : va_K D vwCl tys (aS a)) (hl : lv_has ls nL lv) : va_Run (aP a) (aL a) (aE a) (aR a) (aS a) (aM a) (aA a) (aB a) (aT a) (aC a) H locs ks ns mc ms (F0 (aM a) pc ls st0) st (va_Qv post (fun u t => va_P D vwCl (w q u) t.heap ∧ va_K D vwCl (tyf u) t ∧ va_D (va_A [(q, .inr (ci, fs))] H.size) (w q u)) (va_A [(q, .inr (ci, fs))] H.size) (Value.ref q :: As).toArray) (va_A [(q, .inr (ci, fs))] H.size) := by
  subst hwr
  exact va_runI (As := As) (rest := st) ⟨F.1, F.2.1, F.2.2.1, F.2.2.2.1, F.2.2.2.2.1⟩ (hM q H.size) (cwI nA F.2.2.2.2.1 hG hw hrm.1 hrm.2 (F.2.2.2.2.1 _ hini) (F.2.2.2.2.1 _ hl1) (F.2.2.2.2.1 _ hi) hy1 hd (by rw [F.2.2.2.2.2.2.2.2.2.1]; exact hR)) ⟨rl_blind2 hnw, fun U hU hW => by
    obtain ⟨h1, h2, h3, h4⟩ := rl_pre (a := a) t0 ht hP hD hK hU hW
    exact ⟨rfl, h1, h2, h3, h4, fun w hw => hnm w hw U hW (F.2.2.2.2.2.1 w (hne w hw))⟩⟩ rfl hn hl.1 hst (lv_room hro) hdg (by rw [F.2.2.2.2.2.2.2.2.2.1]; exact hf)
theorem nestC_on : ∀ w ∈ nestC, ∀ u U : State, u.vm = U.vm → va_Nw w u → va_Nw w U := by
  intro w hw u U h hz
  simp only [nestC, List.mem_cons, List.not_mem_nil, or_false] at hw
  rcases hw with hw | hw | hw | hw | hw | hw | hw
  · subst hw; exact va_Nw.same rfl h hz
  · subst hw; exact va_Nw.same rfl h hz
  · subst hw; exact va_Nw.same rfl h hz
  · subst hw; exact va_AO.moved (C := RX3) (u := u) (by rw [← h]; exact Vm.Alike.refl u.vm) hz
  · subst hw; exact va_Nw.same rfl h hz
  · subst hw; exact va_Nw.same rfl h hz
  · subst hw; exact va_Nw.same rfl h hz
theorem nestC_moved {s U : State} : ∀ w ∈ nestC, s.WarmedH U.vm → va_Nw w s → va_Nw w U := by
  intro w hw hW hz
  simp only [nestC, List.mem_cons, List.not_mem_nil, or_false] at hw
  rcases hw with hw | hw | hw | hw | hw | hw | hw
  · subst hw; exact va_Nw.warmM hW hz
  · subst hw; exact va_Nw.warmM hW hz
  · subst hw; exact va_Nw.warmM hW hz
  · subst hw; exact va_AO.moved (C := RX3) hW.alike hz
  · subst hw; exact va_Nw.warmM hW hz
  · subst hw; exact va_Nw.warmM hW hz
  · subst hw; exact va_Nw.warmM hW hz
theorem nestC_of {s : State} {args : Array Value} (hts : ∀ w ∈ lw_tbl, w.before args s = true) : ∀ w ∈ nestC, va_Nw w s := by
  intro w hw
  simp only [nestC, List.mem_cons, List.not_mem_nil, or_false] at hw
  rcases hw with hw | hw | hw | hw | hw | hw | hw
  · subst hw; exact va_Nw.of rfl (hts (.methodLinkNest RX11 11 yX9_init "FourWalls") (by decide +kernel))
  · subst hw; exact va_Nw.of rfl (hts (.methodLinkNest RX11 18 yX5_init "FourWalls") (by decide +kernel))
  · subst hw; exact va_Nw.of rfl (hts (.methodLinkNest RX11 41 yX4_init "FourWalls") (by decide +kernel))
  · subst hw; exact va_AO.of (hts (.arrayOver (.object RX3)) (by decide +kernel))
  · subst hw; exact va_Nw.of rfl (hts (.methodLinkNest RX11 81 yX0_init "FourWalls") (by decide +kernel))
  · subst hw; exact va_Nw.of rfl (hts (.methodLinkNest RX11 86 yX3_init "FourWalls") (by decide +kernel))
  · subst hw; exact va_Nw.of rfl (hts (.methodLinkNest RX6 11 yX5_init "FourWalls") (by decide +kernel))

set_option maxHeartbeats 4000000 in
set_option maxRecDepth 100000 in
theorem start_of {Rel : (Nat → Nat → Int32) → (Nat → Nat → Int32) → Prop} (hS : SimAll Rel) (hR0 : Rel iC iM) {p : Program} {e : Env} {s : State} {m : MethodId} {below : List Frame} {meth : Method} {c : Code} (l : Launch) {b L : Nat} {xs : Nat → Int32} (hL : L ≤ 3072) (C0 : lw_At p s m meth c b L xs) : W p l e room_1 s m #[Value.ref b] below meth c s.heap [] 0 0 (lw_Z below #[Value.ref b] s) (entryFrame m ([Value.ref b] : List Value).toArray 4) := by
  obtain ⟨hx, hb, hr, hml, hown, hts, hX, hbl, hlocks, hgv⟩ := id C0
  obtain ⟨c0, iS0, hKn0⟩ := u_known (C := RX0) (T := TX0) (N := 2) (n := 2) hts inX0 (hts (.instantiable RX0 2) (by decide +kernel))
  obtain ⟨c1, iS1, hKn1⟩ := u_known (C := RX1) (T := TX1) (N := 8) (n := 8) hts inX1 (hts (.instantiable RX1 8) (by decide +kernel))
  obtain ⟨c2, iS2, hKn2⟩ := u_known (C := RX2) (T := TX2) (N := 2) (n := 2) hts inX2 (hts (.instantiable RX2 2) (by decide +kernel))
  obtain ⟨c3, iS3, hKn3⟩ := u_known (C := RX3) (T := TX3) (N := 3) (n := 3) hts inX3 (hts (.instantiable RX3 3) (by decide +kernel))
  obtain ⟨c4, iS4, hKn4⟩ := u_known (C := RX4) (T := TX4) (N := 3) (n := 3) hts inX4 (hts (.instantiable RX4 3) (by decide +kernel))
  obtain ⟨c5, iS5, hKn5⟩ := u_known (C := RX5) (T := TX5) (N := 10) (n := 10) hts inX5 (hts (.instantiable RX5 10) (by decide +kernel))
  obtain ⟨c6, iS6, hKn6⟩ := u_known (C := RX6) (T := TX6) (N := 6) (n := 6) hts inX6 (hts (.instantiable RX6 6) (by decide +kernel))
  obtain ⟨c7, iS7, hKn7⟩ := u_known (C := RX8) (T := TX8) (N := 1) (n := 1) hts inX8 (hts (.instantiable RX8 1) (by decide +kernel))
  obtain ⟨c8, iS8, hKn8⟩ := u_known (C := RX9) (T := TX9) (N := 2) (n := 2) hts inX9 (hts (.instantiable RX9 2) (by decide +kernel))
  obtain ⟨c9, iS9, hKn9⟩ := u_known (C := RX10) (T := TX10) (N := 4) (n := 4) hts inX10 (hts (.instantiable RX10 4) (by decide +kernel))
  obtain ⟨c10, iS10, hKn10⟩ := u_known (C := RX11) (T := TX11) (N := 11) (n := 11) hts inX11 (hts (.instantiable RX11 11) (by decide +kernel))
  obtain ⟨c11, iS11, hKn11⟩ := u_known (C := RX12) (T := TX12) (N := 35) (n := 35) hts inX12 (hts (.instantiable RX12 35) (by decide +kernel))
  obtain ⟨cI, kA, comp, hi1, hi2, hi3⟩ := Cond.arrayClass_spec (hts (.arrayClass .int) (by decide +kernel))
  obtain ⟨D, hKc⟩ : ∃ D : va_G, ∀ (k : Nat) (q : vw_C), vwCl[k]? = some q → u_Kn s q.1 q.2.1 q.2.2 (D.1 k) (D.2 k) := by
    refine ⟨(fun k => match k with | 0 => c0 | 1 => c1 | 2 => c2 | 3 => c3 | 4 => c4 | 5 => c5 | 6 => c6 | 7 => c7 | 8 => c8 | 9 => c9 | 10 => c10 | _ => c11, fun k => match k with | 0 => iS0 | 1 => iS1 | 2 => iS2 | 3 => iS3 | 4 => iS4 | 5 => iS5 | 6 => iS6 | 7 => iS7 | 8 => iS8 | 9 => iS9 | 10 => iS10 | _ => iS11), ?_⟩
    intro k q hq
    match k, hq with
    | 0, hq => cases hq; exact hKn0
    | 1, hq => cases hq; exact hKn1
    | 2, hq => cases hq; exact hKn2
    | 3, hq => cases hq; exact hKn3
    | 4, hq => cases hq; exact hKn4
    | 5, hq => cases hq; exact hKn5
    | 6, hq => cases hq; exact hKn6
    | 7, hq => cases hq; exact hKn7
    | 8, hq => cases hq; exact hKn8
    | 9, hq => cases hq; exact hKn9
    | 10, hq => cases hq; exact hKn10
    | 11, hq => cases hq; exact hKn11
    | k + 12, hq => simp [vwCl] at hq
  have hK : va_K D vwCl [(cI, .int)] s := by
    refine ⟨hKc, fun k q hq => ?_⟩
    match k, hq with
    | 0, hq => cases hq; exact ⟨fun n z => ⟨fun k h => (by simp [arrV] at h), kA, hi2, comp, hi3⟩, hi1⟩
    | k + 1, hq => simp at hq
  obtain ⟨a, ha⟩ : ∃ a : Ax, a = (p, l, e, room_1, s, m, #[Value.ref b], below, meth, c) := ⟨_, rfl⟩
  obtain ⟨A, hAe⟩ : ∃ A : Nat → Prop, A = fun q => s.heap.size ≤ q := ⟨_, rfl⟩
  have hA : ∀ q, (aS a).heap.size ≤ q → A q := by subst ha; subst hAe; exact fun q h => h
  have hA2 : ∀ q, A q → (aS a).heap.size ≤ q := by subst ha; subst hAe; exact fun q h => h
  have F : FL a D A cL_law RL wsL_law 4 room_1 nestC ret meth.name := by
    subst ha
    exact ⟨hx, hb, hml, hown, fun w h => hts w (wsL_law_in w h), nestC_of hts, hA, hlocks, hr, rfl, rfl⟩
  have goal : WL a D A 4 (lw_Z below #[Value.ref b] s) 0 0 [(cI, .int)] 0 [(0, .ref b)] [] [] := by
    refine rl_new F (ci := 10) (fs := [.null, .null, .null, .null, .null, .int 0, .null, .null, .null, .null, .null]) (ks' := 1) (ns' := 11) inlX11 tyX11 tyX11_ok (by decide +kernel) (by decide +kernel) (by decide +kernel) rfl (fun j hj => by rcases (show j = 0 ∨ j = 1 ∨ j = 2 ∨ j = 3 ∨ j = 4 ∨ j = 5 ∨ j = 6 ∨ j = 7 ∨ j = 8 ∨ j = 9 ∨ j = 10 by omega) with rfl | rfl | rfl | rfl | rfl | rfl | rfl | rfl | rfl | rfl | rfl <;> rfl) rfl rfl (Nat.le_of_ble_eq_true rfl) (Nat.le_of_ble_eq_true rfl) dL_law_0 (fun qA => ?_)
    refine rl_dup F dL_law_3 rfl ?_
    refine rl_ctorK F (wr := []) (ks' := 39) (ns' := 1142) (run_I2 F (cI := cI) (nA := 0) (wr := []) (nest' := nestC) 0 rfl rfl (c_X11_init (aL a) D cI) (fun w h => h) nestC_on (fun w hw U hW hz => nestC_moved w hw hW hz) gL_law_X11_init rfl ⟨rfl, rfl⟩ (by decide +kernel) (by decide +kernel) (by decide +kernel) rfl (by decide +kernel) ⟨Nat.le_of_ble_eq_true rfl, Nat.le_of_ble_eq_true rfl⟩ rfl rfl (Nat.le_of_ble_eq_true rfl) dL_law_4 ⟨Nat.le_of_ble_eq_true rfl, Nat.le_of_ble_eq_true rfl⟩) rfl rfl rfl (fun u _ => ?_)
    obtain ⟨q1, q1_2, q3, q1_4, q2_4, q3_4, q4_4, q5_4, q6_4, q5, q1_6, q1_2_6, q2_2_6, q3_2_6, q4_2_6, q5_2_6, q6_2_6, q7, q1_8, q9, q1_10, q11, q12, q14, q1_15, q16, q1_17, q2_17, q3_17, q4_17, q18, q1_19, q20, q1_21, q1_2_21, q22, q1_23, q1_2_23, cJ⟩ := u
    refine WL.ws (ws' := [(qA, .inr (10, [.ref q1, .ref q3, .ref q5, .ref q7, .ref q9, .int 0, .ref q11, .ref q12, .ref q14, .ref q16, .ref q18])), (q1, .inr (8, [.ref q1_2, .int 0])), (q1_2, .inl (cI, 240, .inl (fun _ => 0))), (q3, .inr (5, [.int 0, .int 0, .int 0, .int 0, .ref q1_4, .ref q2_4, .ref q3_4, .ref q4_4, .ref q5_4, .ref q6_4])), (q1_4, .inl (cI, 8, .inl (fun _ => 0))), (q2_4, .inl (cI, 6, .inl (fun _ => 0))), (q3_4, .inl (cI, 6, .inl (fun _ => 0))), (q4_4, .inl (cI, 7, .inl (fun _ => 0))), (q5_4, .inl (cI, 7, .inl (fun _ => 0))), (q6_4, .inl (cI, 7, .inl (fun _ => 0))), (q5, .inr (6, [.ref q1, .ref q1_6, .int 0, .int (-1), .int 0, .int 0])), (q1_6, .inr (5, [.int 0, .int 0, .int 0, .int 0, .ref q1_2_6, .ref q2_2_6, .ref q3_2_6, .ref q4_2_6, .ref q5_2_6, .ref q6_2_6])), (q1_2_6, .inl (cI, 8, .inl (fun _ => 0))), (q2_2_6, .inl (cI, 6, .inl (fun _ => 0))), (q3_2_6, .inl (cI, 6, .inl (fun _ => 0))), (q4_2_6, .inl (cI, 7, .inl (fun _ => 0))), (q5_2_6, .inl (cI, 7, .inl (fun _ => 0))), (q6_2_6, .inl (cI, 7, .inl (fun _ => 0))), (q7, .inr (7, [.ref q1_8])), (q1_8, .inl (cI, 28, .inl (fmS 1))), (q9, .inr (4, [.ref q1_10, .int 0, .int 0])), (q1_10, .inl (cI, 560, .inl (fun _ => 0))), (q11, .inl (cJ, 2, .inr (.inr (.inr (.inr (fun j => if j = 0 then some q20 else if j = 1 then some q22 else none)))))), (q12, .inr (2, [.ref q3, .ref q7])), (q14, .inr (9, [.ref q3, .ref q7, .ref q12, .ref q1_15])), (q1_15, .inl (cI, 9, .inl (fun _ => 0))), (q16, .inr (1, [.ref q3, .ref q12, .ref q1_17, .ref q2_17, .int 0, .ref q3_17, .int 0, .ref q4_17])), (q1_17, .inl (cI, 8, .inl (fun _ => 0))), (q2_17, .inl (cI, 8, .inl (fun _ => 0))), (q3_17, .inl (cI, 55, .inl (fun _ => 0))), (q4_17, .inl (cI, 12, .inl (fun _ => 0))), (q18, .inr (0, [.ref q1_19, .int 0])), (q1_19, .inl (cI, 15, .inl (fun _ => 0))), (q20, .inr (3, [.ref q1_21, .int 0, .int 0])), (q1_21, .inr (7, [.ref q1_2_21])), (q1_2_21, .inl (cI, 28, .inl (fmS 1))), (q22, .inr (3, [.ref q1_23, .int 0, .int 0])), (q1_23, .inr (7, [.ref q1_2_23])), (q1_2_23, .inl (cI, 28, .inl (fmS 1)))]) (by rw [← up22]; rfl) ?_
    refine rl_astore_n F dL_law_7 rfl (by decide) rfl ?_
    refine rl_new F (ci := 11) (fs := [.int 0, .int 0, .null, .null, .int 0, .null, .null, .null, .int 0, .null, .int 0, .int 0, .int 0, .int 0, .int 0, .int 0, .null, .int 0, .int 0, .null, .null, .int 0, .null, .null, .null, .int 0, .null, .int 0, .null, .null, .null, .int 0, .null, .null, .null]) (ks' := 40) (ns' := 1177) inlX12 tyX12 tyX12_ok (by decide +kernel) (by decide +kernel) (by decide +kernel) rfl (fun j hj => by rcases (show j = 0 ∨ j = 1 ∨ j = 2 ∨ j = 3 ∨ j = 4 ∨ j = 5 ∨ j = 6 ∨ j = 7 ∨ j = 8 ∨ j = 9 ∨ j = 10 ∨ j = 11 ∨ j = 12 ∨ j = 13 ∨ j = 14 ∨ j = 15 ∨ j = 16 ∨ j = 17 ∨ j = 18 ∨ j = 19 ∨ j = 20 ∨ j = 21 ∨ j = 22 ∨ j = 23 ∨ j = 24 ∨ j = 25 ∨ j = 26 ∨ j = 27 ∨ j = 28 ∨ j = 29 ∨ j = 30 ∨ j = 31 ∨ j = 32 ∨ j = 33 ∨ j = 34 by omega) with rfl | rfl | rfl | rfl | rfl | rfl | rfl | rfl | rfl | rfl | rfl | rfl | rfl | rfl | rfl | rfl | rfl | rfl | rfl | rfl | rfl | rfl | rfl | rfl | rfl | rfl | rfl | rfl | rfl | rfl | rfl | rfl | rfl | rfl | rfl <;> rfl) rfl rfl (Nat.le_of_ble_eq_true rfl) (Nat.le_of_ble_eq_true rfl) dL_law_8 (fun qB => ?_)
    refine rl_dup F dL_law_11 rfl ?_
    refine rl_ctorK F (wr := [(qA, .inr (10, [.ref q1, .ref q3, .ref q5, .ref q7, .ref q9, .int 0, .ref q11, .ref q12, .ref q14, .ref q16, .ref q18])), (q1, .inr (8, [.ref q1_2, .int 0])), (q1_2, .inl (cI, 240, .inl (fun _ => 0))), (q3, .inr (5, [.int 0, .int 0, .int 0, .int 0, .ref q1_4, .ref q2_4, .ref q3_4, .ref q4_4, .ref q5_4, .ref q6_4])), (q1_4, .inl (cI, 8, .inl (fun _ => 0))), (q2_4, .inl (cI, 6, .inl (fun _ => 0))), (q3_4, .inl (cI, 6, .inl (fun _ => 0))), (q4_4, .inl (cI, 7, .inl (fun _ => 0))), (q5_4, .inl (cI, 7, .inl (fun _ => 0))), (q6_4, .inl (cI, 7, .inl (fun _ => 0))), (q5, .inr (6, [.ref q1, .ref q1_6, .int 0, .int (-1), .int 0, .int 0])), (q1_6, .inr (5, [.int 0, .int 0, .int 0, .int 0, .ref q1_2_6, .ref q2_2_6, .ref q3_2_6, .ref q4_2_6, .ref q5_2_6, .ref q6_2_6])), (q1_2_6, .inl (cI, 8, .inl (fun _ => 0))), (q2_2_6, .inl (cI, 6, .inl (fun _ => 0))), (q3_2_6, .inl (cI, 6, .inl (fun _ => 0))), (q4_2_6, .inl (cI, 7, .inl (fun _ => 0))), (q5_2_6, .inl (cI, 7, .inl (fun _ => 0))), (q6_2_6, .inl (cI, 7, .inl (fun _ => 0))), (q7, .inr (7, [.ref q1_8])), (q1_8, .inl (cI, 28, .inl (fmS 1))), (q9, .inr (4, [.ref q1_10, .int 0, .int 0])), (q1_10, .inl (cI, 560, .inl (fun _ => 0))), (q11, .inl (cJ, 2, .inr (.inr (.inr (.inr (fun j => if j = 0 then some q20 else if j = 1 then some q22 else none)))))), (q12, .inr (2, [.ref q3, .ref q7])), (q14, .inr (9, [.ref q3, .ref q7, .ref q12, .ref q1_15])), (q1_15, .inl (cI, 9, .inl (fun _ => 0))), (q16, .inr (1, [.ref q3, .ref q12, .ref q1_17, .ref q2_17, .int 0, .ref q3_17, .int 0, .ref q4_17])), (q1_17, .inl (cI, 8, .inl (fun _ => 0))), (q2_17, .inl (cI, 8, .inl (fun _ => 0))), (q3_17, .inl (cI, 55, .inl (fun _ => 0))), (q4_17, .inl (cI, 12, .inl (fun _ => 0))), (q18, .inr (0, [.ref q1_19, .int 0])), (q1_19, .inl (cI, 15, .inl (fun _ => 0))), (q20, .inr (3, [.ref q1_21, .int 0, .int 0])), (q1_21, .inr (7, [.ref q1_2_21])), (q1_2_21, .inl (cI, 28, .inl (fmS 1))), (q22, .inr (3, [.ref q1_23, .int 0, .int 0])), (q1_23, .inr (7, [.ref q1_2_23])), (q1_2_23, .inl (cI, 28, .inl (fmS 1)))]) (ks' := 59) (ns' := 2175) (run_I F (cI := cI) (nA := 0) (wr := [(qA, .inr (10, [.ref q1, .ref q3, .ref q5, .ref q7, .ref q9, .int 0, .ref q11, .ref q12, .ref q14, .ref q16, .ref q18])), (q1, .inr (8, [.ref q1_2, .int 0])), (q1_2, .inl (cI, 240, .inl (fun _ => 0))), (q3, .inr (5, [.int 0, .int 0, .int 0, .int 0, .ref q1_4, .ref q2_4, .ref q3_4, .ref q4_4, .ref q5_4, .ref q6_4])), (q1_4, .inl (cI, 8, .inl (fun _ => 0))), (q2_4, .inl (cI, 6, .inl (fun _ => 0))), (q3_4, .inl (cI, 6, .inl (fun _ => 0))), (q4_4, .inl (cI, 7, .inl (fun _ => 0))), (q5_4, .inl (cI, 7, .inl (fun _ => 0))), (q6_4, .inl (cI, 7, .inl (fun _ => 0))), (q5, .inr (6, [.ref q1, .ref q1_6, .int 0, .int (-1), .int 0, .int 0])), (q1_6, .inr (5, [.int 0, .int 0, .int 0, .int 0, .ref q1_2_6, .ref q2_2_6, .ref q3_2_6, .ref q4_2_6, .ref q5_2_6, .ref q6_2_6])), (q1_2_6, .inl (cI, 8, .inl (fun _ => 0))), (q2_2_6, .inl (cI, 6, .inl (fun _ => 0))), (q3_2_6, .inl (cI, 6, .inl (fun _ => 0))), (q4_2_6, .inl (cI, 7, .inl (fun _ => 0))), (q5_2_6, .inl (cI, 7, .inl (fun _ => 0))), (q6_2_6, .inl (cI, 7, .inl (fun _ => 0))), (q7, .inr (7, [.ref q1_8])), (q1_8, .inl (cI, 28, .inl (fmS 1))), (q9, .inr (4, [.ref q1_10, .int 0, .int 0])), (q1_10, .inl (cI, 560, .inl (fun _ => 0))), (q11, .inl (cJ, 2, .inr (.inr (.inr (.inr (fun j => if j = 0 then some q20 else if j = 1 then some q22 else none)))))), (q12, .inr (2, [.ref q3, .ref q7])), (q14, .inr (9, [.ref q3, .ref q7, .ref q12, .ref q1_15])), (q1_15, .inl (cI, 9, .inl (fun _ => 0))), (q16, .inr (1, [.ref q3, .ref q12, .ref q1_17, .ref q2_17, .int 0, .ref q3_17, .int 0, .ref q4_17])), (q1_17, .inl (cI, 8, .inl (fun _ => 0))), (q2_17, .inl (cI, 8, .inl (fun _ => 0))), (q3_17, .inl (cI, 55, .inl (fun _ => 0))), (q4_17, .inl (cI, 12, .inl (fun _ => 0))), (q18, .inr (0, [.ref q1_19, .int 0])), (q1_19, .inl (cI, 15, .inl (fun _ => 0))), (q20, .inr (3, [.ref q1_21, .int 0, .int 0])), (q1_21, .inr (7, [.ref q1_2_21])), (q1_2_21, .inl (cI, 28, .inl (fmS 1))), (q22, .inr (3, [.ref q1_23, .int 0, .int 0])), (q1_23, .inr (7, [.ref q1_2_23])), (q1_2_23, .inl (cI, 28, .inl (fmS 1)))]) (nest' := []) 0 rfl rfl (c_X12_init (aL a) D cI) (fun w hw => by cases hw) (fun w hw => by cases hw) (fun w hw => by cases hw) gL_law_X12_init rfl ⟨rfl, rfl⟩ (by decide +kernel) (by decide +kernel) (by decide +kernel) rfl (by decide +kernel) ⟨Nat.le_of_ble_eq_true rfl, Nat.le_of_ble_eq_true rfl⟩ rfl rfl (Nat.le_of_ble_eq_true rfl) dL_law_12 ⟨Nat.le_of_ble_eq_true rfl, Nat.le_of_ble_eq_true rfl⟩) rfl rfl rfl (fun u _ => ?_)
    obtain ⟨q1M, q2M, q3M, q4M, q5M, q6M, q7M, q8M, q9M, q10M, q11M, q12M, q13M, q14M, q15M, q16M, q17M, q18M, q19M, cZ⟩ := u
    refine rl_astore_n F dL_law_15 rfl (by decide) rfl ?_
    refine rl_iconst F (v := 0) dL_law_16 (by decide) ?_
    refine rl_istore_n F dL_law_17 rfl (by decide) rfl ?_
    intro H locs ls hP hD hK hVS hl
    have hPs := P_app hP
    have hDs := D_app hD
    have hPA : va_P D vwCl (xW (XC (D, admC qA q1 q1_2 q3 q1_4 q2_4 q3_4 q4_4 q5_4 q6_4 q5 q1_6 q1_2_6 q2_2_6 q3_2_6 q4_2_6 q5_2_6 q6_2_6 q7 q1_8 q9 q1_10 q11 q20 q1_21 q1_2_21 q22 q1_23 q1_2_23 q12 q14 q1_15 q16 q1_17 q2_17 q3_17 q4_17 q18 q1_19, cI, cJ)) iC) H := hPs.1.sub [0, 1, 2, 3, 4, 5, 6, 7, 8, 9, 10, 11, 12, 13, 14, 15, 16, 17, 18, 19, 20, 21, 22, 33, 34, 35, 36, 37, 38, 23, 24, 25, 26, 27, 28, 29, 30, 31, 32] (fm_of_map (sub_C D qA q1 q1_2 q3 q1_4 q2_4 q3_4 q4_4 q5_4 q6_4 q5 q1_6 q1_2_6 q2_2_6 q3_2_6 q4_2_6 q5_2_6 q6_2_6 q7 q1_8 q9 q1_10 q11 q12 q14 q1_15 q16 q1_17 q2_17 q3_17 q4_17 q18 q1_19 q20 q1_21 q1_2_21 q22 q1_23 q1_2_23 cI cJ))
    have hDA : va_D A (xW (XC (D, admC qA q1 q1_2 q3 q1_4 q2_4 q3_4 q4_4 q5_4 q6_4 q5 q1_6 q1_2_6 q2_2_6 q3_2_6 q4_2_6 q5_2_6 q6_2_6 q7 q1_8 q9 q1_10 q11 q20 q1_21 q1_2_21 q22 q1_23 q1_2_23 q12 q14 q1_15 q16 q1_17 q2_17 q3_17 q4_17 q18 q1_19, cI, cJ)) iC) := hDs.1.sub [0, 1, 2, 3, 4, 5, 6, 7, 8, 9, 10, 11, 12, 13, 14, 15, 16, 17, 18, 19, 20, 21, 22, 33, 34, 35, 36, 37, 38, 23, 24, 25, 26, 27, 28, 29, 30, 31, 32] (by decide) (sub_C D qA q1 q1_2 q3 q1_4 q2_4 q3_4 q4_4 q5_4 q6_4 q5 q1_6 q1_2_6 q2_2_6 q3_2_6 q4_2_6 q5_2_6 q6_2_6 q7 q1_8 q9 q1_10 q11 q12 q14 q1_15 q16 q1_17 q2_17 q3_17 q4_17 q18 q1_19 q20 q1_21 q1_2_21 q22 q1_23 q1_2_23 cI cJ)
    have hPB : va_P D vwCl (xW (XM (D, admM qB q1M q2M q3M q4M q5M q6M q7M q8M q9M q10M q11M q12M q13M q14M q15M q16M q17M q18M q19M, cI, cZ)) iM) H := hPs.2
    have hDB : va_D A (xW (XM (D, admM qB q1M q2M q3M q4M q5M q6M q7M q8M q9M q10M q11M q12M q13M q14M q15M q16M q17M q18M q19M, cI, cZ)) iM) := hDs.2.1
    have hdis : ∀ i j, i < 39 → j < 20 → (admC qA q1 q1_2 q3 q1_4 q2_4 q3_4 q4_4 q5_4 q6_4 q5 q1_6 q1_2_6 q2_2_6 q3_2_6 q4_2_6 q5_2_6 q6_2_6 q7 q1_8 q9 q1_10 q11 q20 q1_21 q1_2_21 q22 q1_23 q1_2_23 q12 q14 q1_15 q16 q1_17 q2_17 q3_17 q4_17 q18 q1_19) i ≠ (admM qB q1M q2M q3M q4M q5M q6M q7M q8M q9M q10M q11M q12M q13M q14M q15M q16M q17M q18M q19M) j := by
      intro i j hi hj
      have e1 : (xW (XC (D, admC qA q1 q1_2 q3 q1_4 q2_4 q3_4 q4_4 q5_4 q6_4 q5 q1_6 q1_2_6 q2_2_6 q3_2_6 q4_2_6 q5_2_6 q6_2_6 q7 q1_8 q9 q1_10 q11 q20 q1_21 q1_2_21 q22 q1_23 q1_2_23 q12 q14 q1_15 q16 q1_17 q2_17 q3_17 q4_17 q18 q1_19, cI, cJ)) iC)[i]? = some _ := wd_at hi
      have e2 : (xW (XM (D, admM qB q1M q2M q3M q4M q5M q6M q7M q8M q9M q10M q11M q12M q13M q14M q15M q16M q17M q18M q19M, cI, cZ)) iM)[j]? = some _ := wd_at hj
      obtain ⟨k, hk⟩ := pick_at (sub_C D qA q1 q1_2 q3 q1_4 q2_4 q3_4 q4_4 q5_4 q6_4 q5 q1_6 q1_2_6 q2_2_6 q3_2_6 q4_2_6 q5_2_6 q6_2_6 q7 q1_8 q9 q1_10 q11 q12 q14 q1_15 q16 q1_17 q2_17 q3_17 q4_17 q18 q1_19 q20 q1_21 q1_2_21 q22 q1_23 q1_2_23 cI cJ) e1
      exact hDs.2.2 k j _ _ hk e2
    have FWx : FW a (XC (D, admC qA q1 q1_2 q3 q1_4 q2_4 q3_4 q4_4 q5_4 q6_4 q5 q1_6 q1_2_6 q2_2_6 q3_2_6 q4_2_6 q5_2_6 q6_2_6 q7 q1_8 q9 q1_10 q11 q20 q1_21 q1_2_21 q22 q1_23 q1_2_23 q12 q14 q1_15 q16 q1_17 q2_17 q3_17 q4_17 q18 q1_19, cI, cJ)) (XM (D, admM qB q1M q2M q3M q4M q5M q6M q7M q8M q9M q10M q11M q12M q13M q14M q15M q16M q17M q18M q19M, cI, cZ)) A b L xs := by
      subst ha
      exact ⟨hx, hb, hml, hown, fun w h => hts w (wsL_law_in w h), rfl, hA, hK.sub [0, 2] rfl, hK.sub [0, 4] rfl, wd_D (X := XC (D, admC qA q1 q1_2 q3 q1_4 q2_4 q3_4 q4_4 q5_4 q6_4 q5 q1_6 q1_2_6 q2_2_6 q3_2_6 q4_2_6 q5_2_6 q6_2_6 q7 q1_8 q9 q1_10 q11 q20 q1_21 q1_2_21 q22 q1_23 q1_2_23 q12 q14 q1_15 q16 q1_17 q2_17 q3_17 q4_17 q18 q1_19, cI, cJ)) hDA, wd_D (X := XM (D, admM qB q1M q2M q3M q4M q5M q6M q7M q8M q9M q10M q11M q12M q13M q14M q15M q16M q17M q18M q19M, cI, cZ)) hDB, hdis, hX, hbl, by subst hAe; exact Nat.not_le.mpr hbl⟩
    have hloop := law_loop (ZA := (D, admC qA q1 q1_2 q3 q1_4 q2_4 q3_4 q4_4 q5_4 q6_4 q5 q1_6 q1_2_6 q2_2_6 q3_2_6 q4_2_6 q5_2_6 q6_2_6 q7 q1_8 q9 q1_10 q11 q20 q1_21 q1_2_21 q22 q1_23 q1_2_23 q12 q14 q1_15 q16 q1_17 q2_17 q3_17 q4_17 q18 q1_19, cI, cJ)) (ZB := (D, admM qB q1M q2M q3M q4M q5M q6M q7M q8M q9M q10M q11M q12M q13M q14M q15M q16M q17M q18M q19M, cI, cZ)) FWx hA2 (by subst ha; rfl) (by subst ha; exact hlocks) (by subst ha; exact hr) hS hL (ks := 59) (ns := 2175) ⟨Nat.le_of_ble_eq_true rfl, Nat.le_of_ble_eq_true rfl⟩ (L + 1) 0 (Nat.zero_le _) (by omega) iC iM hR0
    have hq : lw_Z (aB a) #[Value.ref b] (aS a) = lw_Z below #[Value.ref b] s := by subst ha; rfl
    rw [hq] at hloop
    exact hloop H locs ls hPA hPB hVS (lv_sub hl [3, 2, 1, 0] rfl)
  have hl := lv_entry ([.ref b]) (n := 4) (Nat.le_of_ble_eq_true rfl)
  rw [lg_entry_eq]
  have g2 := goal s.heap [] _ (fun k q h => by simp at h) ⟨fun i j p q h => by simp at h, fun k q h => by simp at h⟩ (by subst ha; exact hK) (by subst ha; exact va_S.rf) hl
  subst ha
  exact g2
