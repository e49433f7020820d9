/-! The law: the class's world and the reference's side by side -/
def LW (a : Ax) (XA XB : Wx) (A : Nat → Prop) (Q : State → Prop) (ks ns : Nat) (pc : Nat) (lv : List (Nat × Value)) (st : List Value) (f g : Nat → Nat → Int32) : Prop :=
  ∀ (H : Heap) (locs : List Loc) (ls : Array Slot), va_P XA.1 XA.2.1 (xW XA f) H → va_P XB.1 XB.2.1 (xW XB g) H → va_S A (aS a).heap H locs → lv_has ls 4 lv → W (aP a) (aL a) (aE a) (aR a) (aS a) (aM a) (aA a) (aB a) (aT a) (aC a) H locs ks ns Q (F0 (aM a) pc ls st)
def FW (a : Ax) (XA XB : Wx) (A : Nat → Prop) (b L : Nat) (xs : Nat → Int32) : Prop :=
  (aP a).tables.exec = Jvm.exec ∧ (aC a).code = cL_law ∧ (aC a).maxLocals = 4 ∧ (aS a).vm.findClass RL = some (aM a).cls ∧ (∀ w ∈ wsL_law, w.before (aA a) (aS a) = true) ∧ aR a = room_1 ∧ (∀ q, (aS a).heap.size ≤ q → A q) ∧ va_K XA.1 XA.2.1 XA.2.2.1 (aS a) ∧ va_K XB.1 XB.2.1 XB.2.2.1 (aS a) ∧ va_D A (xW XA (fun _ _ => 0)) ∧ va_D A (xW XB (fun _ _ => 0)) ∧ (∀ i j, i < XA.2.2.2.1 → j < XB.2.2.2.1 → XA.2.2.2.2.1 i ≠ XB.2.2.2.2.1 j) ∧ va_X b L xs (aS a) (aS a).heap ∧ b < (aS a).heap.size ∧ ¬ A b
theorem xW_in {X : Wx} {f : Nat → Nat → Int32} {k : Nat} {q : Nat × va_E} (h : (xW X f)[k]? = some q) : k < X.2.2.2.1 ∧ X.2.2.2.2.1 k = q.1 := by
  have hk : k < X.2.2.2.1 := by
    have := (List.getElem?_eq_some_iff.mp h).1
    rwa [wd_len] at this
  rw [xW, wd_at hk] at h
  exact ⟨hk, congrArg Prod.fst (Option.some.inj h)⟩
theorem not_AA {X Y : Wx} {g : Nat → Nat → Int32} {H : Heap} {D : va_G} {cl : List vw_C} (hd : ∀ i j, i < X.2.2.2.1 → j < Y.2.2.2.1 → X.2.2.2.2.1 i ≠ Y.2.2.2.2.1 j) (hP : va_P D cl (xW Y g) H) {j : Nat} {q : Nat × va_E} (h : (xW Y g)[j]? = some q) : q.1 < H.size ∧ ¬ AA X H.size q.1 := by
  have hl := (hP j q h).lt
  refine ⟨hl, fun hA => ?_⟩
  rcases hA with ⟨k, e, hk⟩ | hk
  · obtain ⟨h1, h2⟩ := xW_in hk
    obtain ⟨h3, h4⟩ := xW_in h
    exact hd k j h1 h3 (h2.trans h4.symm)
  · omega
theorem AA_free {a : Ax} {X : Wx} {A : Nat → Prop} {H : Heap} {locs : List Loc} (hD : va_D A (xW X (fun _ _ => 0))) (hA : ∀ q, (aS a).heap.size ≤ q → A q) (hS : va_S A (aS a).heap H locs) : ∀ q, AA X H.size q → A q := by
  intro q h
  rcases h with ⟨k, e, h⟩ | h
  · exact hD.2 k _ h
  · exact hA q (Nat.le_trans hS.1 h)
section LWs
variable {a : Ax} {XA XB : Wx} {A : Nat → Prop} {Q : State → Prop} {ks ns : Nat} {pc : Nat} {lv : List (Nat × Value)} {st : List Value} {f g f' g' : Nat → Nat → Int32} {b L : Nat} {xs : Nat → Int32}
theorem lw_aload_n (F : FW a XA XB A b L xs) {k0 : Fin 4} {i : Nat} {x : Nat} (hdg : decode cL_law pc = .ok (.aload_n k0, 1)) (hi : (k0 : Nat) = i) (q : Nat) (hq : lv[q]? = some (i, .ref x)) (k : LW a XA XB A Q ks ns (pc + 1) lv (.ref x :: st) f g) : LW a XA XB A Q ks ns pc lv st f g :=
  fun H locs ls hP hM hS hl => lv_aload_n F.1 F.2.1 hdg hi (lv_at hl q hq) (k H locs ls hP hM hS hl)
theorem lw_iload_n (F : FW a XA XB A b L xs) {k0 : Fin 4} {i : Nat} {x : Int32} (hdg : decode cL_law pc = .ok (.iload_n k0, 1)) (hi : (k0 : Nat) = i) (q : Nat) (hq : lv[q]? = some (i, .int x)) (k : LW a XA XB A Q ks ns (pc + 1) lv (.int x :: st) f g) : LW a XA XB A Q ks ns pc lv st f g :=
  fun H locs ls hP hM hS hl => lv_iload_n F.1 F.2.1 hdg hi (lv_at hl q hq) (k H locs ls hP hM hS hl)
theorem lw_iconst (F : FW a XA XB A b L xs) {n : Int} {v : Int32} (hdg : decode cL_law pc = .ok (.iconst n, 1)) (hv : Int32.ofInt n = v) (k : LW a XA XB A Q ks ns (pc + 1) lv (.int v :: st) f g) : LW a XA XB A Q ks ns pc lv st f g :=
  fun H locs ls hP hM hS hl => lv_iconst F.1 F.2.1 hdg hv (k H locs ls hP hM hS hl)
theorem lw_bipush (F : FW a XA XB A b L xs) {n : Int} {v : Int32} (hdg : decode cL_law pc = .ok (.bipush n, 2)) (hv : (Int8.ofInt n).toInt32 = v) (k : LW a XA XB A Q ks ns (pc + 2) lv (.int v :: st) f g) : LW a XA XB A Q ks ns pc lv st f g :=
  fun H locs ls hP hM hS hl => lv_bipush F.1 F.2.1 hdg hv (k H locs ls hP hM hS hl)
theorem lw_iadd (F : FW a XA XB A b L xs) {x y : Int32} (hdg : decode cL_law pc = .ok (.iadd, 1)) (k : LW a XA XB A Q ks ns (pc + 1) lv (.int (x + y) :: st) f g) : LW a XA XB A Q ks ns pc lv (.int y :: .int x :: st) f g :=
  fun H locs ls hP hM hS hl => lv_iadd F.1 F.2.1 hdg (k H locs ls hP hM hS hl)
theorem lw_isub (F : FW a XA XB A b L xs) {x y : Int32} (hdg : decode cL_law pc = .ok (.isub, 1)) (k : LW a XA XB A Q ks ns (pc + 1) lv (.int (x - y) :: st) f g) : LW a XA XB A Q ks ns pc lv (.int y :: .int x :: st) f g :=
  fun H locs ls hP hM hS hl => lv_isub F.1 F.2.1 hdg (k H locs ls hP hM hS hl)
theorem lw_iand (F : FW a XA XB A b L xs) {x y : Int32} (hdg : decode cL_law pc = .ok (.iand, 1)) (k : LW a XA XB A Q ks ns (pc + 1) lv (.int (x &&& y) :: st) f g) : LW a XA XB A Q ks ns pc lv (.int y :: .int x :: st) f g :=
  fun H locs ls hP hM hS hl => lv_iand F.1 F.2.1 hdg (k H locs ls hP hM hS hl)
theorem lw_iinc (F : FW a XA XB A b L xs) {i : Nat} {n : Int} {x v : Int32} {lv' : List (Nat × Value)} (hdg : decode cL_law pc = .ok (.iinc i n, 3)) (q : Nat) (hq : lv[q]? = some (i, .int x)) (hv : x + Int32.ofInt n = v) (hn : i < 4) (hl' : (i, Value.int v) :: lv.filter (fun q => !(q.1 == i) && !(q.1 + 1 == i && q.2.category == 2)) = lv') (k : LW a XA XB A Q ks ns (pc + 3) lv' st f g) : LW a XA XB A Q ks ns pc lv st f g :=
  fun H locs ls hP hM hS hl => lv_iinc F.1 F.2.1 hdg hl hq hv hn hl' (fun ls' h' => k H locs ls' hP hM hS h')
theorem lw_goto (F : FW a XA XB A b L xs) {off : Int} {tgt : Nat} (hdg : decode cL_law pc = .ok (.goto off, 3)) (ht : (pc : Int) + off = (tgt : Int)) (k : LW a XA XB A Q ks ns tgt lv st f g) : LW a XA XB A Q ks ns pc lv st f g :=
  fun H locs ls hP hM hS hl => lv_goto F.1 F.2.1 hdg ht (k H locs ls hP hM hS hl)
theorem lw_eq (F : FW a XA XB A b L xs) {x y : Int32} {off : Int} {tgt : Nat} (hxy : x = y) (hdg : decode cL_law pc = .ok (.if_icmp .eq off, 3)) (ht : (pc : Int) + off = (tgt : Int)) (k : LW a XA XB A Q ks ns tgt lv st f g) : LW a XA XB A Q ks ns pc lv (.int y :: .int x :: st) f g :=
  fun H locs ls hP hM hS hl => lv_icmp_eq F.1 F.2.1 hdg ht (fun _ => k H locs ls hP hM hS hl) (fun h => absurd hxy h)
theorem lw_gt (F : FW a XA XB A b L xs) {x y : Int32} {off : Int} {tgt : Nat} (hdg : decode cL_law pc = .ok (.if_icmp .gt off, 3)) (ht : (pc : Int) + off = (tgt : Int)) (kt : y < x → LW a XA XB A Q ks ns tgt lv st f g) (kf : ¬ y < x → LW a XA XB A Q ks ns (pc + 3) lv st f g) : LW a XA XB A Q ks ns pc lv (.int y :: .int x :: st) f g :=
  fun H locs ls hP hM hS hl => lv_icmp_gt F.1 F.2.1 hdg ht (fun h => kt h H locs ls hP hM hS hl) (fun h => kf h H locs ls hP hM hS hl)
theorem lw_ifeq (F : FW a XA XB A b L xs) {x : Int32} {off : Int} {tgt : Nat} (hdg : decode cL_law pc = .ok (.ifCond .eq off, 3)) (ht : (pc : Int) + off = (tgt : Int)) (kt : x = 0 → LW a XA XB A Q ks ns tgt lv st f g) (kf : ¬ x = 0 → LW a XA XB A Q ks ns (pc + 3) lv st f g) : LW a XA XB A Q ks ns pc lv (.int x :: st) f g :=
  fun H locs ls hP hM hS hl => lv_if_eq F.1 F.2.1 hdg ht (fun h => kt h H locs ls hP hM hS hl) (fun h => kf h H locs ls hP hM hS hl)
theorem lw_tableOut (F : FW a XA XB A b L xs) {dflt lo hi : Int} {offs : Array Int} {len : Nat} {x : Int32} {tgt : Nat} (hdg : decode cL_law pc = .ok (.tableswitch dflt lo hi offs, len)) (h : x.toInt < lo ∨ hi < x.toInt) (ht : (pc : Int) + dflt = (tgt : Int)) (k : LW a XA XB A Q ks ns tgt lv st f g) : LW a XA XB A Q ks ns pc lv (.int x :: st) f g :=
  fun H locs ls hP hM hS hl => lv_tableOut F.1 F.2.1 hdg h ht (k H locs ls hP hM hS hl)
theorem lw_tableIn (F : FW a XA XB A b L xs) {dflt lo hi : Int} {offs : Array Int} {len : Nat} {x : Int32} {off : Int} {tgt : Nat} (hdg : decode cL_law pc = .ok (.tableswitch dflt lo hi offs, len)) (h1 : ¬ x.toInt < lo) (h2 : ¬ hi < x.toInt) (ho : offs[(x.toInt - lo).toNat]? = some off) (ht : (pc : Int) + off = (tgt : Int)) (k : LW a XA XB A Q ks ns tgt lv st f g) : LW a XA XB A Q ks ns pc lv (.int x :: st) f g :=
  fun H locs ls hP hM hS hl => lv_tableIn F.1 F.2.1 hdg h1 h2 ho ht (k H locs ls hP hM hS hl)
theorem lw_sld (F : FW a XA XB A b L xs) {i : Int32} (hin : vp_in i L) (hdg : decode cL_law pc = .ok (.iaload, 1)) (k : LW a XA XB A Q ks ns (pc + 1) lv (.int (xs i.toNatClampNeg) :: st) f g) : LW a XA XB A Q ks ns pc lv (.int i :: .ref b :: st) f g := by
  obtain ⟨h1, h2, -, -, -, -, -, -, -, -, -, -, hX, hbl, hbA⟩ := F
  exact fun H locs ls hP hM hS hl => va_sld h1 h2 hX hbl hbA hS hin hdg (k H locs ls hP hM hS hl)
theorem lw_slen (F : FW a XA XB A b L xs) (hdg : decode cL_law pc = .ok (.arraylength, 1)) (k : LW a XA XB A Q ks ns (pc + 1) lv (.int (Int32.ofNat L) :: st) f g) : LW a XA XB A Q ks ns pc lv (.ref b :: st) f g := by
  obtain ⟨h1, h2, -, -, -, -, -, -, -, -, -, -, hX, hbl, hbA⟩ := F
  exact fun H locs ls hP hM hS hl => va_slen h1 h2 hX hbl hbA hS hdg (k H locs ls hP hM hS hl)
theorem LW.sub (ks' : List Nat) {lv' : List (Nat × Value)} (hl' : lv_pick lv ks' = lv') (h : LW a XA XB A Q ks ns pc lv' st f g) : LW a XA XB A Q ks ns pc lv st f g :=
  fun H locs ls hP hM hS hl => h H locs ls hP hM hS (lv_sub hl ks' hl')
/-- a call of the class's -/
theorem lw_callA (F : FW a XA XB A b L xs) {y : MethodName} {ws ws' : List Cond} {rm' : Room} {As st0 : List Value} {bytes : ByteArray} {maxL index ci n nA : Nat} {ret' : Option FieldType} {C : String} {T : u_T} {fs : List Value} {r : Int32} (k0 : Nat) (hM : MS (aL a) XA y ws rm' (.ref (XA.2.2.2.2.1 k0) :: As) f (PI r f')) (hT : GoodIn wsL_law (wsV RL index C y ws)) (hw : ws = Cond.code y bytes maxL ret' :: ws') (hrm : rm'.cells = 0 ∧ rm'.slots = 0) (hd : y.cls = C ∧ y.cls ≠ "java/lang/invoke/MethodHandle" ∧ y.cls ≠ "java/lang/invoke/VarHandle" ∧ (parseMethodDescriptor y.desc).map (fun d => d.parameters.length) = some nA) (hR : rm'.frames + 1 ≤ room_1.frames ∧ 8 + (maxL + 11) + rm'.locals ≤ room_1.locals) (hk : k0 < XA.2.2.2.1) (he : XA.2.2.2.2.2 k0 (f k0) = .inr (ci, fs)) (hc : XA.2.1[ci]? = some (C, T, n)) (hn : As.length = nA) (hst : st0 = As.reverse ++ .ref (XA.2.2.2.2.1 k0) :: st) (hro : (st.map fun v => v.category).sum ≤ 8) (hdg : decode cL_law pc = .ok (.invokevirtual index, 3)) (hf : ks ≤ room_1.cells ∧ ns ≤ room_1.slots) (k : LW a XA XB A Q ks ns (pc + 3) lv (.int r :: st) f' g) : LW a XA XB A Q ks ns pc lv st0 f g := by
  obtain ⟨h1, h2, h3, h4, h5, h6, h7, hKA, hKB, hDA, hDB, hdis, hX, hbl, hbA⟩ := F
  intro H locs ls hP hB hS hl
  have hfr := AA_free hDA h7 hS
  refine va_calli (va_runV (C := C) (As := As) (rest := st) ⟨h1, h2, h3, h4, h5⟩ (hM H.size) (cwV nA h5 hT hw hrm.1 hrm.2 hd (by rw [h6]; exact hR)) ⟨PreB.blind, va_recv hKA hP hc ((wd_at hk).trans (by rw [he])), fun U hU hW => ⟨rfl, ⟨by rw [hU], by rw [hU]; exact hP, va_K.moved hW.alike hKA, (wd_D hDA).weaken (fun _ _ _ _ => trivial)⟩⟩⟩ rfl hn hl.1 hst (lv_room hro) hdg (by rw [h6]; exact hf)) hS (fun q _ h => hfr q h) hfr (fun r1 u t H1 locs1 ht hvm hw1 hE hz1 hk1 hS1 => ?_)
  obtain ⟨hP1, -, -⟩ := hE
  rw [ht] at hP1
  subst hw1
  exact k H1 locs1 ls hP1 (hB.kept (fun j q hq => by
    obtain ⟨e1, e2⟩ := not_AA hdis hB hq
    exact hk1 q.1 e1 e2)) hS1 hl
/-- a call of the reference's -/
theorem lw_callB (F : FW a XA XB A b L xs) {y : MethodName} {ws ws' : List Cond} {rm' : Room} {As st0 : List Value} {bytes : ByteArray} {maxL index ci n nA : Nat} {ret' : Option FieldType} {C : String} {T : u_T} {fs : List Value} {r : Int32} (k0 : Nat) (hM : MS (aL a) XB y ws rm' (.ref (XB.2.2.2.2.1 k0) :: As) g (PI r g')) (hT : GoodIn wsL_law (wsV RL index C y ws)) (hw : ws = Cond.code y bytes maxL ret' :: ws') (hrm : rm'.cells = 0 ∧ rm'.slots = 0) (hd : y.cls = C ∧ y.cls ≠ "java/lang/invoke/MethodHandle" ∧ y.cls ≠ "java/lang/invoke/VarHandle" ∧ (parseMethodDescriptor y.desc).map (fun d => d.parameters.length) = some nA) (hR : rm'.frames + 1 ≤ room_1.frames ∧ 8 + (maxL + 11) + rm'.locals ≤ room_1.locals) (hk : k0 < XB.2.2.2.1) (he : XB.2.2.2.2.2 k0 (g k0) = .inr (ci, fs)) (hc : XB.2.1[ci]? = some (C, T, n)) (hn : As.length = nA) (hst : st0 = As.reverse ++ .ref (XB.2.2.2.2.1 k0) :: st) (hro : (st.map fun v => v.category).sum ≤ 8) (hdg : decode cL_law pc = .ok (.invokevirtual index, 3)) (hf : ks ≤ room_1.cells ∧ ns ≤ room_1.slots) (k : LW a XA XB A Q ks ns (pc + 3) lv (.int r :: st) f g') : LW a XA XB A Q ks ns pc lv st0 f g := by
  obtain ⟨h1, h2, h3, h4, h5, h6, h7, hKA, hKB, hDA, hDB, hdis, hX, hbl, hbA⟩ := F
  intro H locs ls hP hB hS hl
  have hfr := AA_free hDB h7 hS
  refine va_calli (va_runV (C := C) (As := As) (rest := st) ⟨h1, h2, h3, h4, h5⟩ (hM H.size) (cwV nA h5 hT hw hrm.1 hrm.2 hd (by rw [h6]; exact hR)) ⟨PreB.blind, va_recv hKB hB hc ((wd_at hk).trans (by rw [he])), fun U hU hW => ⟨rfl, ⟨by rw [hU], by rw [hU]; exact hB, va_K.moved hW.alike hKB, (wd_D hDB).weaken (fun _ _ _ _ => trivial)⟩⟩⟩ rfl hn hl.1 hst (lv_room hro) hdg (by rw [h6]; exact hf)) hS (fun q _ h => hfr q h) hfr (fun r1 u t H1 locs1 ht hvm hw1 hE hz1 hk1 hS1 => ?_)
  obtain ⟨hP1, -, -⟩ := hE
  rw [ht] at hP1
  subst hw1
  exact k H1 locs1 ls (hP.kept (fun j q hq => by
    obtain ⟨e1, e2⟩ := not_AA (X := XB) (Y := XA) (fun i j hi hj e => hdis j i hj hi e.symm) hP hq
    exact hk1 q.1 e1 e2)) hP1 hS1 hl
end LWs
