/-! Constructors: the world is a list of cells that grows; a row an instruction -/
def WL (a : Ax) (D : va_G) (A : Nat → Prop) (nL : Nat) (Q : State → Prop) (ks ns : Nat) (tys : List (ClassId × FieldType)) (pc : Nat) (lv : List (Nat × Value)) (st : List Value) (ws : va_W) : Prop :=
  ∀ (H : Heap) (locs : List Loc) (ls : Array Slot), va_P D vwCl ws H → va_D A ws → va_K D vwCl tys (aS a) → va_S A (aS a).heap H locs → lv_has ls nL lv → W (aP a) (aL a) (aE a) (aR a) (aS a) (aM a) (aA a) (aB a) (aT a) (aC a) H locs ks ns Q (F0 (aM a) pc ls st)
/-- what is fixed while a constructor runs -/
def FL (a : Ax) (D : va_G) (A : Nat → Prop) (cc : ByteArray) (own : String) (Ts : List Cond) (nL : Nat) (rm : Room) (nest : List Cond) (ret : Option FieldType) (nm0 : String) : Prop :=
  (aP a).tables.exec = Jvm.exec ∧ (aC a).code = cc ∧ (aC a).maxLocals = nL ∧ (aS a).vm.findClass own = some (aM a).cls ∧ (∀ w ∈ Ts, w.before (aA a) (aS a) = true) ∧ (∀ w ∈ nest, va_Nw w (aS a)) ∧ (∀ q, (aS a).heap.size ≤ q → A q) ∧ (aT a).locks = false ∧ (aT a).sig.returnType = ret ∧ aR a = rm ∧ (aT a).name = nm0
/-- a constructor's contract: from the one new cell to the cells of w -/
def MC (l : Launch) (D : va_G) (cI : ClassId) (y : MethodName) (ws : List Cond) (rm : Room) (As : List Value) (ci : Nat) (fs : List Value) (nest : List Cond) {S : Type} (post : S → Prop) (w : Nat → S → va_W) (tys : S → List (ClassId × FieldType)) (mc ms : Nat) : Prop :=
  ∀ (h0 sz : Nat), Met l y ws rm (va_Pc (.ref h0 :: As) (fun U => U.heap.size = sz ∧ va_P D vwCl [(h0, .inr (ci, fs))] U.heap ∧ va_K D vwCl [(cI, .int)] U ∧ va_D (fun _ => True) [(h0, .inr (ci, fs))] ∧ ∀ w ∈ nest, va_Nw w U)) (va_Qv post (fun u t => va_P D vwCl (w h0 u) t.heap ∧ va_K D vwCl (tys u) t ∧ va_D (va_A [(h0, .inr (ci, fs))] sz) (w h0 u)) (va_A [(h0, .inr (ci, fs))] sz)) mc ms (va_A [(h0, .inr (ci, fs))] sz)
theorem MC.of {l : Launch} {D : va_G} {cI : ClassId} {y : MethodName} {ws ws' : List Cond} {rm : Room} {As : List Value} {ci : Nat} {fs : List Value} {nest : List Cond} {S : Type} {post : S → Prop} {w : Nat → S → va_W} {tys : S → List (ClassId × FieldType)} {mc ms : Nat} {cc : ByteArray} {maxL : Nat} {own : String} (hy : plainName y.cls = true) (hown : y.cls = own) (hi : y.name = "<init>") (hw : ws = Cond.code y cc maxL none :: ws') (hn : ∀ h0, (lg_sl (.ref h0 :: As)).length ≤ maxL)
    (body : ∀ (a : Ax) (A : Nat → Prop) (h0 : Nat), aL a = l → FL a D A cc own ws maxL rm nest none "<init>" → WL a D A maxL (MQ (aB a) (va_Qv post (fun u t => va_P D vwCl (w h0 u) t.heap ∧ va_K D vwCl (tys u) t ∧ va_D A (w h0 u)) A) (aA a) (aS a) mc ms A) 0 0 [(cI, .int)] 0 (lv_args 0 (.ref h0 :: As)) [] [(h0, .inr (ci, fs))]) : MC l D cI y ws rm As ci fs nest post w tys mc ms := by
  intro h0 sz
  refine Met.ofW (cc := cc) (maxL := maxL) (ret := none) hy hw ?_
  intro p e s m args below meth c s₁ B hml hv
  obtain ⟨rfl, hsz, hP, hK, hD0, hN⟩ := hv
  subst hsz
  subst hown
  have hb := body (p, l, e, rm, s, m, _, below, meth, c) (va_A [(h0, .inr (ci, fs))] s.heap.size) h0 rfl ⟨B.exec, B.bytes, hml, findClass_of_methodNamed B.named, atoms_spec (ws := ws) B.pre, hN, fun q h => Or.inr h, B.notSynchronized, B.returns, rfl, (name_of_methodNamed B.named B.method).1.trans hi⟩
  rw [lg_entry_eq]
  exact hb s.heap [] _ hP (hD0.self (sz := s.heap.size)) hK va_S.rf (lv_entry _ (hn h0))
section RL
variable {a : Ax} {D : va_G} {A : Nat → Prop} {nL : Nat} {Q : State → Prop} {ks ns : Nat} {tys : List (ClassId × FieldType)} {cc : ByteArray} {own : String} {Ts : List Cond} {rm : Room} {nest : List Cond} {ret : Option FieldType} {nm0 : String} {pc : Nat} {lv : List (Nat × Value)} {st : List Value} {ws : va_W}
theorem rl_objInit (F : FL a D A cc own Ts nL rm nest ret nm0) {idx h0 : Nat} (hl1 : Cond.methodLink own idx objectInit ∈ Ts) (hi : Cond.instanceMethod objectInit ∈ Ts) (hc : Cond.code objectInit ⟨#[0xb1]⟩ 1 none ∈ Ts) (hd : decode cc pc = .ok (.invokespecial idx, 3)) (hfr : 1 ≤ rm.frames) (hlo : (st.map fun v => v.category).sum + 12 ≤ rm.locals) (k : WL a D A nL Q ks ns tys (pc + 3) lv st ws) : WL a D A nL Q ks ns tys pc lv (.ref h0 :: st) ws :=
  fun H locs ls hP hD hK hS hl => W.objInit F.1 F.2.1 F.2.2.2.1 (F.2.2.2.2.1 _ hl1) (F.2.2.2.2.1 _ hi) (F.2.2.2.2.1 _ hc) rfl (hl.1.trans F.2.2.1.symm) rfl hd (by rw [F.2.2.2.2.2.2.2.2.2.1]; exact hfr) (by rw [F.2.2.2.2.2.2.2.2.2.1]; show 2 * 0 + _ + 12 ≤ _; omega) (k H locs ls hP hD hK hS hl)
theorem rl_aload_n (F : FL a D A cc own Ts nL rm nest ret nm0) {k0 : Fin 4} {i : Nat} {x : Nat} (hdg : decode cc pc = .ok (.aload_n k0, 1)) (hi : (k0 : Nat) = i) (q : Nat) (hq : lv[q]? = some (i, .ref x)) (k : WL a D A nL Q ks ns tys (pc + 1) lv (.ref x :: st) ws) : WL a D A nL Q ks ns tys pc lv st ws :=
  fun H locs ls hP hD hK hS hl => lv_aload_n F.1 F.2.1 hdg hi (lv_at hl q hq) (k H locs ls hP hD hK hS hl)
theorem rl_iload_n (F : FL a D A cc own Ts nL rm nest ret nm0) {k0 : Fin 4} {i : Nat} {x : Int32} (hdg : decode cc pc = .ok (.iload_n k0, 1)) (hi : (k0 : Nat) = i) (q : Nat) (hq : lv[q]? = some (i, .int x)) (k : WL a D A nL Q ks ns tys (pc + 1) lv (.int x :: st) ws) : WL a D A nL Q ks ns tys pc lv st ws :=
  fun H locs ls hP hD hK hS hl => lv_iload_n F.1 F.2.1 hdg hi (lv_at hl q hq) (k H locs ls hP hD hK hS hl)
theorem rl_istore_n (F : FL a D A cc own Ts nL rm nest ret nm0) {k0 : Fin 4} {i : Nat} {x : Int32} {lv' : List (Nat × Value)} (hdg : decode cc pc = .ok (.istore_n k0, 1)) (hi : (k0 : Nat) = i) (hn : i < nL) (hl' : (i, Value.int x) :: lv.filter (fun q => !(q.1 == i) && !(q.1 + 1 == i && q.2.category == 2)) = lv') (k : WL a D A nL Q ks ns tys (pc + 1) lv' st ws) : WL a D A nL Q ks ns tys pc lv (.int x :: st) ws :=
  fun H locs ls hP hD hK hS hl => lv_istore_n F.1 F.2.1 hdg hi hl hn hl' (fun ls' h' => k H locs ls' hP hD hK hS h')
theorem rl_iinc (F : FL a D A cc own Ts nL rm nest ret nm0) {i : Nat} {n : Int} {x v : Int32} {lv' : List (Nat × Value)} (hdg : decode cc pc = .ok (.iinc i n, 3)) (q : Nat) (hq : lv[q]? = some (i, .int x)) (hv : x + Int32.ofInt n = v) (hn : i < nL) (hl' : (i, Value.int v) :: lv.filter (fun q => !(q.1 == i) && !(q.1 + 1 == i && q.2.category == 2)) = lv') (k : WL a D A nL Q ks ns tys (pc + 3) lv' st ws) : WL a D A nL Q ks ns tys pc lv st ws :=
  fun H locs ls hP hD hK hS hl => lv_iinc F.1 F.2.1 hdg hl hq hv hn hl' (fun ls' h' => k H locs ls' hP hD hK hS h')
theorem rl_iconst (F : FL a D A cc own Ts nL rm nest ret nm0) {n : Int} {v : Int32} (hdg : decode cc pc = .ok (.iconst n, 1)) (hv : Int32.ofInt n = v) (k : WL a D A nL Q ks ns tys (pc + 1) lv (.int v :: st) ws) : WL a D A nL Q ks ns tys pc lv st ws :=
  fun H locs ls hP hD hK hS hl => lv_iconst F.1 F.2.1 hdg hv (k H locs ls hP hD hK hS hl)
theorem rl_bipush (F : FL a D A cc own Ts nL rm nest ret nm0) {n : Int} {v : Int32} (hdg : decode cc pc = .ok (.bipush n, 2)) (hv : (Int8.ofInt n).toInt32 = v) (k : WL a D A nL Q ks ns tys (pc + 2) lv (.int v :: st) ws) : WL a D A nL Q ks ns tys pc lv st ws :=
  fun H locs ls hP hD hK hS hl => lv_bipush F.1 F.2.1 hdg hv (k H locs ls hP hD hK hS hl)
theorem rl_sipush (F : FL a D A cc own Ts nL rm nest ret nm0) {n : Int} {v : Int32} (hdg : decode cc pc = .ok (.sipush n, 3)) (hv : (Int16.ofInt n).toInt32 = v) (k : WL a D A nL Q ks ns tys (pc + 3) lv (.int v :: st) ws) : WL a D A nL Q ks ns tys pc lv st ws :=
  fun H locs ls hP hD hK hS hl => lv_sipush F.1 F.2.1 hdg hv (k H locs ls hP hD hK hS hl)
theorem rl_dup (F : FL a D A cc own Ts nL rm nest ret nm0) {u : Value} (hdg : decode cc pc = .ok (.dup, 1)) (hu : u.category = 1) (k : WL a D A nL Q ks ns tys (pc + 1) lv (u :: u :: st) ws) : WL a D A nL Q ks ns tys pc lv (u :: st) ws :=
  fun H locs ls hP hD hK hS hl => lv_dup F.1 F.2.1 hdg hu (k H locs ls hP hD hK hS hl)
theorem rl_goto (F : FL a D A cc own Ts nL rm nest ret nm0) {off : Int} {tgt : Nat} (hdg : decode cc pc = .ok (.goto off, 3)) (ht : (pc : Int) + off = (tgt : Int)) (k : WL a D A nL Q ks ns tys tgt lv st ws) : WL a D A nL Q ks ns tys pc lv st ws :=
  fun H locs ls hP hD hK hS hl => lv_goto F.1 F.2.1 hdg ht (k H locs ls hP hD hK hS hl)
theorem rl_geT (F : FL a D A cc own Ts nL rm nest ret nm0) {x y : Int32} {off : Int} {tgt : Nat} (hxy : y ≤ x) (hdg : decode cc pc = .ok (.if_icmp .ge off, 3)) (ht : (pc : Int) + off = (tgt : Int)) (k : WL a D A nL Q ks ns tys tgt lv st ws) : WL a D A nL Q ks ns tys pc lv (.int y :: .int x :: st) ws :=
  fun H locs ls hP hD hK hS hl => lv_icmp_ge F.1 F.2.1 hdg ht (fun _ => k H locs ls hP hD hK hS hl) (fun h => absurd hxy h)
theorem rl_geF (F : FL a D A cc own Ts nL rm nest ret nm0) {x y : Int32} {off : Int} {tgt : Nat} (hxy : ¬ y ≤ x) (hdg : decode cc pc = .ok (.if_icmp .ge off, 3)) (ht : (pc : Int) + off = (tgt : Int)) (k : WL a D A nL Q ks ns tys (pc + 3) lv st ws) : WL a D A nL Q ks ns tys pc lv (.int y :: .int x :: st) ws :=
  fun H locs ls hP hD hK hS hl => lv_icmp_ge F.1 F.2.1 hdg ht (fun h => absurd h hxy) (fun _ => k H locs ls hP hD hK hS hl)
theorem rl_new (F : FL a D A cc own Ts nL rm nest ret nm0) {C : String} {T : u_T} {n ci index : Nat} {fs : List Value} {ks' ns' : Nat} (hin : ∀ w ∈ u_ws C T n, w ∈ Ts) (ty0 : Nat → FieldType) (hty : ∀ k, k < n → parseFieldDescriptor (T k).2.2.1 = some (ty0 k)) (hcl : Cond.classLink own index C ∈ Ts) (hinst : Cond.instantiable C n ∈ Ts) (hini : Cond.initialized C ∈ Ts) (hc : vwCl[ci]? = some (C, T, n)) (hfs : ∀ j, j < n → defaultValue (ty0 j) = vp_V fs j) (hks : ks + 1 = ks') (hns : ns + n = ns') (hk1 : ks' ≤ rm.cells) (hn1 : ns' ≤ rm.slots) (hdg : decode cc pc = .ok (.new index, 3)) (k : ∀ q : Nat, WL a D A nL Q ks' ns' tys (pc + 3) lv (.ref q :: st) (ws ++ [(q, .inr (ci, fs))])) : WL a D A nL Q ks ns tys pc lv st ws := by
  subst hks; subst hns
  exact fun H locs ls hP hD hK hS hl => va_new F.1 F.2.1 F.2.2.2.2.1 hin ty0 hty F.2.2.2.1 (F.2.2.2.2.1 _ hcl) (F.2.2.2.2.1 _ hinst) (F.2.2.2.2.1 _ hini) hK hP hD hS F.2.2.2.2.2.2.1 hc hfs (by rw [F.2.2.2.2.2.2.2.2.2.1]; exact hk1) (by rw [F.2.2.2.2.2.2.2.2.2.1]; exact hn1) hdg (fun q H1 hP1 hD1 hS1 => k q H1 locs ls hP1 hD1 hK hS1 hl)
theorem K_eq {s : State} {c1 c2 : ClassId} {i j : Nat} (h : va_K D vwCl tys s) (h1 : tys[i]? = some (c1, .int)) (h2 : tys[j]? = some (c2, .int)) : c1 = c2 := by
  have e1 := (h.2 i _ h1).2
  have e2 := (h.2 j _ h2).2
  exact Option.some.inj (e1.symm.trans e2)
theorem rl_newa (F : FL a D A cc own Ts nL rm nest ret nm0) {cI : ClassId} {v : Int32} {N : Nat} {ks' ns' : Nat} (t0 : Nat) (ht : tys[t0]? = some (cI, .int)) (harr : Cond.arrayClass .int ∈ Ts) (hv : ¬ v < 0) (hN : v.toNatClampNeg = N) (hb : N * 4 ≤ 536870912) (hks : ks + 1 = ks') (hns : ns + N = ns') (hk1 : ks' ≤ rm.cells) (hn1 : ns' ≤ rm.slots) (hdg : decode cc pc = .ok (.newarray .int, 2)) (k : ∀ q : Nat, WL a D A nL Q ks' ns' tys (pc + 2) lv (.ref q :: st) (ws ++ [(q, .inl (cI, N, .inl (fun _ => 0)))])) : WL a D A nL Q ks ns tys pc lv (.int v :: st) ws := by
  subst hks; subst hns
  exact fun H locs ls hP hD hK hS hl => va_newa (atype := .int) (ty := .int) (a0 := (N, .inl (fun _ => 0))) F.1 F.2.1 (F.2.2.2.2.1 _ harr) rfl hK hP hD hS F.2.2.2.2.2.2.1 (fun _ => rfl) hv hN hb (by rw [F.2.2.2.2.2.2.2.2.2.1]; exact hk1) (by rw [F.2.2.2.2.2.2.2.2.2.1]; exact hn1) hdg (fun q cA H1 hK1 hP1 hD1 hS1 => by
    have hlt : t0 < tys.length := (List.getElem?_eq_some_iff.mp ht).1
    have e : cA = cI := K_eq hK1 (i := tys.length) (j := t0) (by rw [List.getElem?_append_right (Nat.le_refl _), Nat.sub_self]; rfl) (by rw [List.getElem?_append_left hlt]; exact ht)
    subst e
    exact k q H1 locs ls hP1 hD1 hK hS1 hl)
theorem rl_newz (F : FL a D A cc own Ts nL rm nest ret nm0) {v : Int32} {N : Nat} {ks' ns' : Nat} (harr : Cond.arrayClass .boolean ∈ Ts) (hv : ¬ v < 0) (hN : v.toNatClampNeg = N) (hb : N * 1 ≤ 536870912) (hks : ks + 1 = ks') (hns : ns + N = ns') (hk1 : ks' ≤ rm.cells) (hn1 : ns' ≤ rm.slots) (hdg : decode cc pc = .ok (.newarray .boolean, 2)) (k : ∀ (q : Nat) (cZ : ClassId), WL a D A nL Q ks' ns' (tys ++ [(cZ, .boolean)]) (pc + 2) lv (.ref q :: st) (ws ++ [(q, .inl (cZ, N, .inl (fun _ => 0)))])) : WL a D A nL Q ks ns tys pc lv (.int v :: st) ws := by
  subst hks; subst hns
  exact fun H locs ls hP hD hK hS hl => va_newa (atype := .boolean) (ty := .boolean) (a0 := (N, .inl (fun _ => 0))) F.1 F.2.1 (F.2.2.2.2.1 _ harr) rfl hK hP hD hS F.2.2.2.2.2.2.1 (fun _ => rfl) hv hN hb (by rw [F.2.2.2.2.2.2.2.2.2.1]; exact hk1) (by rw [F.2.2.2.2.2.2.2.2.2.1]; exact hn1) hdg (fun q cA H1 hK1 hP1 hD1 hS1 => k q cA H1 locs ls hP1 hD1 hK1 hS1 hl)
theorem rl_newq (F : FL a D A cc own Ts nL rm nest ret nm0) {C : String} {index : Nat} {v : Int32} {N : Nat} {ks' ns' : Nat} (hcl : Cond.classLink own index C ∈ Ts) (hover : Cond.arrayOver (.object C) ∈ nest) (hv : ¬ v < 0) (hN : v.toNatClampNeg = N) (hb : N * 4 ≤ 536870912) (hks : ks + 1 = ks') (hns : ns + N = ns') (hk1 : ks' ≤ rm.cells) (hn1 : ns' ≤ rm.slots) (hdg : decode cc pc = .ok (.anewarray index, 3)) (k : ∀ (q : Nat) (cJ : ClassId), WL a D A nL Q ks' ns' (tys ++ [(cJ, .object C)]) (pc + 3) lv (.ref q :: st) (ws ++ [(q, .inl (cJ, N, .inr (.inr (.inr (.inr (fun _ => none))))))])) : WL a D A nL Q ks ns tys pc lv (.int v :: st) ws := by
  subst hks; subst hns
  exact fun H locs ls hP hD hK hS hl => va_newq F.1 F.2.1 F.2.2.2.1 (F.2.2.2.2.1 _ hcl) (F.2.2.2.2.2.1 _ hover) hK hP hD hS F.2.2.2.2.2.2.1 hv hN hb (by rw [F.2.2.2.2.2.2.2.2.2.1]; exact hk1) (by rw [F.2.2.2.2.2.2.2.2.2.1]; exact hn1) hdg (fun q cA H1 hK1 hP1 hD1 hS1 => k q cA H1 locs ls hP1 hD1 hK1 hS1 hl)
theorem rl_get (F : FL a D A cc own Ts nL rm nest ret nm0) {C : String} {T : u_T} {n ci index b0 : Nat} {fs : List Value} {v : Value} (q0 : Nat) (he : ws[q0]? = some (b0, .inr (ci, fs))) (hin : ∀ w ∈ u_ws C T n, w ∈ Ts) (hc : vwCl[ci]? = some (C, T, n)) (j : Nat) (hj : j < n) (hlink : Cond.fieldLink own index (T j).1 (T j).2.1 (T j).2.2.1 ∈ Ts) (hv : fs[j]? = some v) (hdg : decode cc pc = .ok (.getfield index, 3)) (k : WL a D A nL Q ks ns tys (pc + 3) lv (v :: st) ws) : WL a D A nL Q ks ns tys pc lv (.ref b0 :: st) ws :=
  fun H locs ls hP hD hK hS hl => va_get F.1 F.2.1 F.2.2.2.2.1 hin F.2.2.2.1 hK hP q0 he hc j hj (F.2.2.2.2.1 _ hlink) (fun _ h9 => h9) hv hdg (k H locs ls hP hD hK hS hl)
theorem rl_putF (F : FL a D A cc own Ts nL rm nest ret "<init>") {C : String} {T : u_T} {n ci index b0 x : Nat} {fs : List Value} {ws' : va_W} (q0 : Nat) (he : ws[q0]? = some (b0, .inr (ci, fs))) (hin : ∀ w ∈ u_ws C T n, w ∈ Ts) (ty0 : Nat → FieldType) (hty : ∀ k, k < n → parseFieldDescriptor (T k).2.2.1 = some (ty0 k)) (hnm : ∀ a, a < n → ∀ b, b < n → a ≠ b → (T a).2.1 ≠ (T b).2.1) (hc : vwCl[ci]? = some (C, T, n)) (j : Nat) (hj : j < n) (hlink : Cond.fieldLink own index (T j).1 (T j).2.1 (T j).2.2.1 ∈ Ts) (hfin : (T j).2.2.2 = true) (hdecl : (T j).1 = own) (hn : narrow (ty0 j) (.ref x) = .ref x) (hfit : fits (ty0 j) (.ref x) = true) (hl : j < fs.length) (hset : ws.set q0 (b0, .inr (ci, fs.set j (.ref x))) = ws') (hdg : decode cc pc = .ok (.putfield index, 3)) (k : WL a D A nL Q ks ns tys (pc + 3) lv st ws') : WL a D A nL Q ks ns tys pc lv (.ref x :: .ref b0 :: st) ws := by
  subst hset
  exact fun H locs ls hP hD hK hS hl0 => va_putF (ty := ty0 j) F.1 F.2.1 F.2.2.2.2.1 hin ty0 hty hnm F.2.2.2.1 hK hP hD hS q0 he hc j hj (F.2.2.2.2.1 _ hlink) (fun _ h9 => h9) hfin F.2.2.2.2.2.2.2.2.2.2 hdecl (hty j hj) hn hfit hl hdg (fun H1 locs1 hP1 hD1 hS1 => k H1 locs1 ls hP1 hD1 hK hS1 hl0)
theorem rl_put (F : FL a D A cc own Ts nL rm nest ret nm0) {C : String} {T : u_T} {n ci index b0 : Nat} {v : Int32} {fs : List Value} {ws' : va_W} (q0 : Nat) (he : ws[q0]? = some (b0, .inr (ci, fs))) (hin : ∀ w ∈ u_ws C T n, w ∈ Ts) (ty0 : Nat → FieldType) (hty : ∀ k, k < n → parseFieldDescriptor (T k).2.2.1 = some (ty0 k)) (hnm : ∀ a, a < n → ∀ b, b < n → a ≠ b → (T a).2.1 ≠ (T b).2.1) (hc : vwCl[ci]? = some (C, T, n)) (j : Nat) (hj : j < n) (hlink : Cond.fieldLink own index (T j).1 (T j).2.1 (T j).2.2.1 ∈ Ts) (hfin : (T j).2.2.2 = false) (hn : narrow (ty0 j) (.int v) = .int v) (hfit : fits (ty0 j) (.int v) = true) (hl : j < fs.length) (hset : ws.set q0 (b0, .inr (ci, fs.set j (.int v))) = ws') (hdg : decode cc pc = .ok (.putfield index, 3)) (k : WL a D A nL Q ks ns tys (pc + 3) lv st ws') : WL a D A nL Q ks ns tys pc lv (.int v :: .ref b0 :: st) ws := by
  subst hset
  exact fun H locs ls hP hD hK hS hl0 => va_put (ty := ty0 j) F.1 F.2.1 F.2.2.2.2.1 hin ty0 hty hnm F.2.2.2.1 hK hP hD hS q0 he hc j hj (F.2.2.2.2.1 _ hlink) (fun _ h9 => h9) hfin (hty j hj) hn hfit hl hdg (fun H1 locs1 hP1 hD1 hS1 => k H1 locs1 ls hP1 hD1 hK hS1 hl0)
theorem rl_alen (F : FL a D A cc own Ts nL rm nest ret nm0) {cA : ClassId} {u : vp_A} {ty : FieldType} {v : Int32} {b0 : Nat} (q0 : Nat) (he : ws[q0]? = some (b0, .inl (cA, u))) (t0 : Nat) (ht : tys[t0]? = some (cA, ty)) (hv : Int32.ofNat u.1 = v) (hdg : decode cc pc = .ok (.arraylength, 1)) (k : WL a D A nL Q ks ns tys (pc + 1) lv (.int v :: st) ws) : WL a D A nL Q ks ns tys pc lv (.ref b0 :: st) ws :=
  fun H locs ls hP hD hK hS hl => va_alen F.1 F.2.1 hK hP q0 t0 he ht hv hdg (k H locs ls hP hD hK hS hl)
theorem rl_astq (F : FL a D A cc own Ts nL rm nest ret nm0) {cA : ClassId} {r : vw_C} {n v ci b0 : Nat} {vs : List Value} {fu : Nat → Option Nat} {i : Int32} {ws' : va_W} (q0 t0 qk : Nat) (he : ws[q0]? = some (b0, .inl (cA, n, .inr (.inr (.inr (.inr fu)))))) (ht : tys[t0]? = some (cA, .object r.1)) (hv : ws[qk]? = some (v, .inr (ci, vs))) (hc : vwCl[ci]? = some r) (hin : vp_in i n) (hset : ws.set q0 (b0, .inl (cA, n, .inr (.inr (.inr (.inr (va_up fu i.toNatClampNeg (some v))))))) = ws') (hdg : decode cc pc = .ok (.aastore, 1)) (k : WL a D A nL Q ks ns tys (pc + 1) lv st ws') : WL a D A nL Q ks ns tys pc lv (.ref v :: .int i :: .ref b0 :: st) ws := by
  subst hset
  exact fun H locs ls hP hD hK hS hl => va_astq F.1 F.2.1 hK hP hD hS q0 t0 qk ci he ht hv hc hin hdg (fun H1 locs1 hP1 hD1 hS1 => k H1 locs1 ls hP1 hD1 hK hS1 hl)
theorem rl_vret (F : FL a D A cc own Ts nL rm nest none nm0) {S : Type} {post : S → Prop} {w : S → va_W} {tyf : S → List (ClassId × FieldType)} (u : S) (hp : post u) (hw : w u = ws) (ht : tyf u = tys) (hdg : decode cc pc = .ok (.return_, 1)) : WL a D A nL (MQ (aB a) (va_Qv post (fun u t => va_P D vwCl (w u) t.heap ∧ va_K D vwCl (tyf u) t ∧ va_D A (w u)) A) (aA a) (aS a) ks ns A) ks ns tys pc lv [] ws := by
  subst hw; subst ht
  exact fun H locs ls hP hD hK hS hl => W.vret F.1 F.2.1 F.2.2.2.2.2.2.2.2.1 (fun t ht hW => ⟨⟨u, rfl, hp, by rw [ht]; exact hP, va_K.moved hW.alike hK, hD⟩, hS.F ht⟩) hS.2.2 hdg F.2.2.2.2.2.2.2.1
theorem pick_init (w1 : va_W) (c : Nat × va_E) : (List.range w1.length).map (fun i => (w1 ++ [c])[i]?) = w1.map some := by
  apply List.ext_getElem?
  intro i
  rw [List.getElem?_map, List.getElem?_map]
  by_cases h : i < w1.length
  · rw [List.getElem?_range h]
    simp [List.getElem?_append_left h, List.getElem?_eq_getElem h]
  · rw [List.getElem?_eq_none (by simp; omega), List.getElem?_eq_none (by omega)]
    rfl
theorem nd_range (n : Nat) : va_nd (List.range n) = true := by
  have key : ∀ l : List Nat, l.Nodup → va_nd l = true := by
    intro l
    induction l with
    | nil => intro _; rfl
    | cons x l ih =>
      intro h
      rw [List.nodup_cons] at h
      simp [va_nd, h.1, ih h.2]
  exact key _ List.nodup_range
/-- a constructor's call: the new cell is the last; the callee's cells stand in its place behind -/
theorem rl_ctor (F : FL a D A cc own Ts nL rm nest ret nm0) {As st0 : List Value} {ci q : Nat} {fs : List Value} {S : Type} {post : S → Prop} {w : Nat → S → va_W} {tyf : S → List (ClassId × FieldType)} {mc ms : Nat} {wr : va_W} {ks' ns' : Nat}
    (run : ∀ (H : Heap) (locs : List Loc) (ls : Array Slot), va_P D vwCl ws H → va_D A ws → va_K D vwCl tys (aS a) → lv_has ls nL lv → va_Run (aP a) (aL a) (aE a) (aR a) (aS a) (aM a) (aA a) (aB a) (aT a) (aC a) H locs ks ns mc ms (F0 (aM a) pc ls st0) st (va_Qv post (fun u t => va_P D vwCl (w q u) t.heap ∧ va_K D vwCl (tyf u) t ∧ va_D (va_A [(q, .inr (ci, fs))] H.size) (w q u)) (va_A [(q, .inr (ci, fs))] H.size) (Value.ref q :: As).toArray) (va_A [(q, .inr (ci, fs))] H.size))
    (hwr : ws = wr ++ [(q, .inr (ci, fs))]) (hks : ks + mc = ks') (hns : ns + ms = ns') (k : ∀ u : S, post u → (∀ s' : State, s'.vm.Alike (aS a).vm → True) → WL a D A nL Q ks' ns' tys (pc + 3) lv st (wr ++ w q u)) : WL a D A nL Q ks ns tys pc lv st0 ws := by
  subst hwr; subst hks; subst hns
  intro H locs ls hP hD hK hS hl
  have hC : [wr.length].map (fun i => (wr ++ [(q, (Sum.inr (ci, fs) : va_E))])[i]?) = [(q, (Sum.inr (ci, fs) : va_E))].map some := by
    simp
  have hF := va_free (wc := [(q, .inr (ci, fs))]) hD hS F.2.2.2.2.2.2.1 [wr.length] hC
  refine va_callv (run H locs ls hP hD hK hl) hS (fun q _ h => hF q h) hF (fun u t H1 locs1 ht hvm hw1 hB hz1 hk1 hS1 => ?_)
  obtain ⟨hP1, hK1, hD1⟩ := hB
  rw [ht] at hP1
  obtain ⟨hP2, hD2⟩ := va_join (wr := wr) (w1 := w q u) hP hD [wr.length] (List.range wr.length) hC (pick_init wr _) (nd_range _) (fun i hi h => by
    have := List.mem_range.mp hi
    have h2 := List.mem_singleton.mp h
    omega) hk1 hF hP1 hD1
  exact k u hw1 (fun _ _ => trivial) H1 locs1 ls hP2 hD2 hK hS1 hl
theorem rl_pre {H : Heap} {U : State} {wr : va_W} {c : Nat × va_E} {cI : ClassId} (t0 : Nat) (ht : tys[t0]? = some (cI, .int)) (hP : va_P D vwCl (wr ++ [c]) H) (hD : va_D A (wr ++ [c])) (hK : va_K D vwCl tys (aS a)) (hU : U.heap = H) (hW : (aS a).WarmedH U.vm) : U.heap.size = H.size ∧ va_P D vwCl [c] U.heap ∧ va_K D vwCl [(cI, .int)] U ∧ va_D (fun _ => True) [c] := by
  refine ⟨by rw [hU], by rw [hU]; exact hP.sub [wr.length] (by simp), va_K.moved hW.alike (hK.sub [t0] (by simp [ht])), (hD.sub [wr.length] rfl (by simp)).weaken (fun _ _ _ _ => trivial)⟩
theorem rl_blind {av : List Value} {sz : Nat} {ws0 : va_W} {tys0 : List (ClassId × FieldType)} {nest0 : List Cond} (hn : ∀ w ∈ nest0, w.onTables = true) : FrameBlind (va_Pc av (fun U => U.heap.size = sz ∧ va_P D vwCl ws0 U.heap ∧ va_K D vwCl tys0 U ∧ va_D (fun _ => True) ws0 ∧ ∀ w ∈ nest0, va_Nw w U)) := by
  intro v U g mk h
  obtain ⟨h1, h2, h3, h4, h5, h6⟩ := h
  exact ⟨h1, h2, h3, va_K.moved (u := U) (U := U.calling g mk v) (Vm.Alike.refl U.vm) h4, h5, fun w hw => va_Nw.same (hn w hw) (u := U) (U := U.calling g mk v) rfl (h6 w hw)⟩
/-- a constructor of another top class, or one that isn't private -/
theorem run_I (F : FL a D A cc own Ts nL rm nest ret nm0) {y : MethodName} {wsy ws'' : List Cond} {rm' : Room} {As st0 : List Value} {ci q : Nat} {fs : List Value} {S : Type} {post : S → Prop} {w : Nat → S → va_W} {tyf : S → List (ClassId × FieldType)} {mc ms index nA maxL : Nat} {bytes : ByteArray} {cI : ClassId} {wr : va_W} {nest' : List Cond} (t0 : Nat) (ht : tys[t0]? = some (cI, .int)) (hwr : ws = wr ++ [(q, .inr (ci, fs))]) (hM : MC (aL a) D cI y wsy rm' As ci fs nest' post w tyf mc ms) (hne : ∀ w ∈ nest', w ∈ nest) (hnw : ∀ w ∈ nest', w.onTables = true) (hnm : ∀ w ∈ nest', ∀ U : State, (aS a).WarmedH U.vm → va_Nw w (aS a) → va_Nw w U) (hG : GoodIn Ts wsy) (hw : wsy = Cond.code y bytes maxL none :: ws'') (hrm : rm'.cells = mc ∧ rm'.slots = ms) (hini : Cond.initialized y.cls ∈ Ts) (hl1 : Cond.methodLink own index y ∈ Ts) (hi : Cond.instanceMethod y ∈ Ts) (hy1 : y.name = "<init>") (hd : y.cls ≠ "java/lang/invoke/MethodHandle" ∧ y.cls ≠ "java/lang/invoke/VarHandle" ∧ (parseMethodDescriptor y.desc).map (fun d => d.parameters.length) = some nA) (hR : rm'.frames + 1 ≤ rm.frames ∧ 8 + (maxL + 11) + rm'.locals ≤ rm.locals) (hn : As.length = nA) (hst : st0 = As.reverse ++ .ref q :: st) (hro : (st.map fun v => v.category).sum ≤ 8) (hdg : decode cc pc = .ok (.invokespecial index, 3)) (hf : ks + mc ≤ rm.cells ∧ ns + ms ≤ rm.slots)
    (H : Heap) (locs : List Loc) (ls : Array Slot) (hP : va_P D vwCl ws H) (hD : va_D A ws) (hK : va_K D vwCl tys (aS a)) (hl : lv_has ls nL lv) : va_Run (aP a) (aL a) (aE a) (aR a) (aS a) (aM a) (aA a) (aB a) (aT a) (aC a) H locs ks ns mc ms (F0 (aM a) pc ls st0) st (va_Qv post (fun u t => va_P D vwCl (w q u) t.heap ∧ va_K D vwCl (tyf u) t ∧ va_D (va_A [(q, .inr (ci, fs))] H.size) (w q u)) (va_A [(q, .inr (ci, fs))] H.size) (Value.ref q :: As).toArray) (va_A [(q, .inr (ci, fs))] H.size) := by
  subst hwr
  exact va_runI (As := As) (rest := st) ⟨F.1, F.2.1, F.2.2.1, F.2.2.2.1, F.2.2.2.2.1⟩ (hM q H.size) (cwI nA F.2.2.2.2.1 hG hw hrm.1 hrm.2 (F.2.2.2.2.1 _ hini) (F.2.2.2.2.1 _ hl1) (F.2.2.2.2.1 _ hi) hy1 hd (by rw [F.2.2.2.2.2.2.2.2.2.1]; exact hR)) ⟨rl_blind hnw, fun U hU hW => by
    obtain ⟨h1, h2, h3, h4⟩ := rl_pre (a := a) t0 ht hP hD hK hU hW
    exact ⟨rfl, h1, h2, h3, h4, fun w hw => hnm w hw U hW (F.2.2.2.2.2.1 w (hne w hw))⟩⟩ rfl hn hl.1 hst (lv_room hro) hdg (by rw [F.2.2.2.2.2.2.2.2.2.1]; exact hf)
/-- a private constructor of a nest mate -/
theorem run_IN (F : FL a D A cc own Ts nL rm nest ret nm0) {y : MethodName} {wsy ws'' : List Cond} {rm' : Room} {As st0 : List Value} {ci q : Nat} {fs : List Value} {S : Type} {post : S → Prop} {w : Nat → S → va_W} {tyf : S → List (ClassId × FieldType)} {mc ms index nA maxL : Nat} {bytes : ByteArray} {cI : ClassId} {wr : va_W} {host : String} {nest' : List Cond} (t0 : Nat) (ht : tys[t0]? = some (cI, .int)) (hwr : ws = wr ++ [(q, .inr (ci, fs))]) (hM : MC (aL a) D cI y wsy rm' As ci fs nest' post w tyf mc ms) (hne : ∀ w ∈ nest', w ∈ nest) (hnw : ∀ w ∈ nest', w.onTables = true) (hnm : ∀ w ∈ nest', ∀ U : State, (aS a).WarmedH U.vm → va_Nw w (aS a) → va_Nw w U) (hG : GoodIn Ts wsy) (hw : wsy = Cond.code y bytes maxL none :: ws'') (hrm : rm'.cells = mc ∧ rm'.slots = ms) (hini : Cond.initialized y.cls ∈ Ts) (hl1 : Cond.methodLinkNest own index y host ∈ nest) (hi : Cond.instanceMethod y ∈ Ts) (hy1 : y.name = "<init>") (hd : y.cls ≠ "java/lang/invoke/MethodHandle" ∧ y.cls ≠ "java/lang/invoke/VarHandle" ∧ (parseMethodDescriptor y.desc).map (fun d => d.parameters.length) = some nA) (hR : rm'.frames + 1 ≤ rm.frames ∧ 8 + (maxL + 11) + rm'.locals ≤ rm.locals) (hn : As.length = nA) (hst : st0 = As.reverse ++ .ref q :: st) (hro : (st.map fun v => v.category).sum ≤ 8) (hdg : decode cc pc = .ok (.invokespecial index, 3)) (hf : ks + mc ≤ rm.cells ∧ ns + ms ≤ rm.slots)
    (H : Heap) (locs : List Loc) (ls : Array Slot) (hP : va_P D vwCl ws H) (hD : va_D A ws) (hK : va_K D vwCl tys (aS a)) (hl : lv_has ls nL lv) : va_Run (aP a) (aL a) (aE a) (aR a) (aS a) (aM a) (aA a) (aB a) (aT a) (aC a) H locs ks ns mc ms (F0 (aM a) pc ls st0) st (va_Qv post (fun u t => va_P D vwCl (w q u) t.heap ∧ va_K D vwCl (tyf u) t ∧ va_D (va_A [(q, .inr (ci, fs))] H.size) (w q u)) (va_A [(q, .inr (ci, fs))] H.size) (Value.ref q :: As).toArray) (va_A [(q, .inr (ci, fs))] H.size) := by
  subst hwr
  exact va_runIN (As := As) (rest := st) ⟨F.1, F.2.1, F.2.2.1, F.2.2.2.1, F.2.2.2.2.1⟩ (hM q H.size) ⟨va_cnB nA F.2.2.2.2.1 hG hw hrm.1 hrm.2 (F.2.2.2.2.2.1 _ hl1) (F.2.2.2.2.1 _ hini) hd (by rw [F.2.2.2.2.2.2.2.2.2.1]; exact hR), hy1, F.2.2.2.2.1 _ hi⟩ ⟨rl_blind hnw, fun U hU hW => by
    obtain ⟨h1, h2, h3, h4⟩ := rl_pre (a := a) t0 ht hP hD hK hU hW
    exact ⟨rfl, h1, h2, h3, h4, fun w hw => hnm w hw U hW (F.2.2.2.2.2.1 w (hne w hw))⟩⟩ rfl hn hl.1 hst (lv_room hro) hdg (by rw [F.2.2.2.2.2.2.2.2.2.1]; exact hf)
end RL
theorem WL.ws {a : Ax} {D : va_G} {A : Nat → Prop} {nL : Nat} {Q : State → Prop} {ks ns : Nat} {tys : List (ClassId × FieldType)} {pc : Nat} {lv : List (Nat × Value)} {st : List Value} {ws ws' : va_W} (h : ws = ws') (k : WL a D A nL Q ks ns tys pc lv st ws') : WL a D A nL Q ks ns tys pc lv st ws := h ▸ k
/-- a call of a method of this object, over the whole list as one world -/
theorem rl_MSV {a : Ax} {D : va_G} {A : Nat → Prop} {nL : Nat} {Q : State → Prop} {ks ns : Nat} {tys : List (ClassId × FieldType)} {cc : ByteArray} {own : String} {Ts : List Cond} {rm : Room} {nest : List Cond} {ret : Option FieldType} {nm0 : String} {pc : Nat} {lv : List (Nat × Value)} {st : List Value} {ws : va_W}
    (F : FL a D A cc own Ts nL rm nest ret nm0) {N : Nat} {ad : Nat → Nat} {g : Lay} {tysX : List (ClassId × FieldType)} {y : MethodName} {wsy ws'' : List Cond} {rm' : Room} {b0 : Nat} {As st0 : List Value} {f f' : Nat → Nat → Int32} {C : String} {T : u_T} {n ci index nA maxL : Nat} {fs : List Value} {bytes : ByteArray} {ret' : Option FieldType} (hM : MS (aL a) (D, vwCl, tysX, N, ad, g) y wsy rm' (.ref b0 :: As) f (PV f')) (is : List Nat) (his : is.filterMap (fun i => tys[i]?) = tysX) (hw : wd N ad g f = ws) (hT : GoodIn Ts (wsV own index C y wsy)) (hwy : wsy = Cond.code y bytes maxL ret' :: ws'') (hrm : rm'.cells = 0 ∧ rm'.slots = 0) (hd : y.cls = C ∧ y.cls ≠ "java/lang/invoke/MethodHandle" ∧ y.cls ≠ "java/lang/invoke/VarHandle" ∧ (parseMethodDescriptor y.desc).map (fun d => d.parameters.length) = some nA) (hR : rm'.frames + 1 ≤ rm.frames ∧ 8 + (maxL + 11) + rm'.locals ≤ rm.locals) (q0 : Nat) (he : ws[q0]? = some (b0, .inr (ci, fs))) (hc : vwCl[ci]? = some (C, T, n)) (hn : As.length = nA) (hst : st0 = As.reverse ++ .ref b0 :: st) (hro : (st.map fun v => v.category).sum ≤ 8) (hdg : decode cc pc = .ok (.invokevirtual index, 3)) (hf : ks ≤ rm.cells ∧ ns ≤ rm.slots) (k : WL a D A nL Q ks ns tys (pc + 3) lv st (wd N ad g f')) : WL a D A nL Q ks ns tys pc lv st0 ws := by
  subst hw
  intro H locs ls hP hD hK hS hl
  have hKx := hK.sub is his
  have hfr : ∀ q, AA (D, vwCl, tysX, N, ad, g) H.size q → A q := by
    intro q hq
    rcases (AA_in (f := f)).mpr hq with ⟨k, e, h⟩ | h
    · exact hD.2 k _ h
    · exact F.2.2.2.2.2.2.1 q (Nat.le_trans hS.1 h)
  refine va_callv (va_runV (C := C) (As := As) (rest := st) ⟨F.1, F.2.1, F.2.2.1, F.2.2.2.1, F.2.2.2.2.1⟩ (hM H.size) (cwV nA F.2.2.2.2.1 hT hwy hrm.1 hrm.2 hd (by rw [F.2.2.2.2.2.2.2.2.2.1]; exact hR)) ⟨PreB.blind, va_recv hK hP hc he, fun U hU hW => ⟨rfl, ⟨by rw [hU], by rw [hU]; exact hP, va_K.moved hW.alike hKx, hD.weaken (fun _ _ _ _ => trivial)⟩⟩⟩ rfl hn hl.1 hst (lv_room hro) hdg (by rw [F.2.2.2.2.2.2.2.2.2.1]; exact hf)) hS (fun q _ h => hfr q h) hfr (fun u t H1 locs1 ht hvm hw1 hB hz1 hk1 hS1 => ?_)
  obtain ⟨hP1, -, hD1⟩ := hB
  rw [ht] at hP1
  exact k H1 locs1 ls hP1 (hD1.weaken (fun _ q _ h => hfr q.1 h)) hK hS1 hl
theorem some_of {α : Type} {x : Option α} (d : α) (h : x.isSome = true) : x = some (x.getD d) := by
  cases x with
  | none => cases h
  | some v => rfl
theorem rl_astore_n {a : Ax} {D : va_G} {A : Nat → Prop} {nL : Nat} {Q : State → Prop} {ks ns : Nat} {tys : List (ClassId × FieldType)} {cc : ByteArray} {own : String} {Ts : List Cond} {rm : Room} {nest : List Cond} {ret : Option FieldType} {nm0 : String} {pc : Nat} {lv : List (Nat × Value)} {st : List Value} {ws : va_W} (F : FL a D A cc own Ts nL rm nest ret nm0) {k0 : Fin 4} {i : Nat} {x : Nat} {lv' : List (Nat × Value)} (hdg : decode cc pc = .ok (.astore_n k0, 1)) (hi : (k0 : Nat) = i) (hn : i < nL) (hl' : (i, Value.ref x) :: lv.filter (fun q => !(q.1 == i) && !(q.1 + 1 == i && q.2.category == 2)) = lv') (k : WL a D A nL Q ks ns tys (pc + 1) lv' st ws) : WL a D A nL Q ks ns tys pc lv (.ref x :: st) ws :=
  fun H locs ls hP hD hK hS hl => lv_astore_n F.1 F.2.1 hdg hi hl hn hl' (fun ls' h' => k H locs ls' hP hD hK hS h')
