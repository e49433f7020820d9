/-! The world as a row of cells that one function of numbers fills; the walk over it; a row an instruction -/
def su (f : Nat → Nat → Int32) (k j : Nat) (v : Int32) : Nat → Nat → Int32 := fun a => if a = k then upd (f k) j v else f a
abbrev Lay : Type := Nat → (Nat → Int32) → va_E
def wd (N : Nat) (ad : Nat → Nat) (g : Lay) (f : Nat → Nat → Int32) : va_W := (List.range N).map (fun k => (ad k, g k (f k)))
theorem wd_len {N : Nat} {ad : Nat → Nat} {g : Lay} {f : Nat → Nat → Int32} : (wd N ad g f).length = N := by simp [wd]
theorem wd_at {N : Nat} {ad : Nat → Nat} {g : Lay} {f : Nat → Nat → Int32} {k : Nat} (h : k < N) : (wd N ad g f)[k]? = some (ad k, g k (f k)) := by
  unfold wd
  rw [List.getElem?_map, List.getElem?_range h]
  rfl
theorem wd_set {N : Nat} {ad : Nat → Nat} {g : Lay} {f : Nat → Nat → Int32} {k j : Nat} {v : Int32} {x : va_E} (h : k < N) (hx : g k (upd (f k) j v) = x) : (wd N ad g f).set k (ad k, x) = wd N ad g (su f k j v) := by
  apply List.ext_getElem?
  intro i
  by_cases hi : i = k
  · subst hi
    rw [List.getElem?_set_self (by rw [wd_len]; exact h), wd_at h]
    simp [su, hx]
  · rw [List.getElem?_set_ne (Ne.symm hi)]
    by_cases hn : i < N
    · rw [wd_at hn, wd_at hn]
      simp [su, hi]
    · rw [List.getElem?_eq_none (by rw [wd_len]; omega), List.getElem?_eq_none (by rw [wd_len]; omega)]
abbrev Wx : Type := va_G × List vw_C × List (ClassId × FieldType) × Nat × (Nat → Nat) × Lay
abbrev Ax : Type := Program × Launch × Env × Room × State × MethodId × Array Value × List Frame × Method × Code
abbrev aP (a : Ax) : Program := a.1
abbrev aL (a : Ax) : Launch := a.2.1
abbrev aE (a : Ax) : Env := a.2.2.1
abbrev aR (a : Ax) : Room := a.2.2.2.1
abbrev aS (a : Ax) : State := a.2.2.2.2.1
abbrev aM (a : Ax) : MethodId := a.2.2.2.2.2.1
abbrev aA (a : Ax) : Array Value := a.2.2.2.2.2.2.1
abbrev aB (a : Ax) : List Frame := a.2.2.2.2.2.2.2.1
abbrev aT (a : Ax) : Method := a.2.2.2.2.2.2.2.2.1
abbrev aC (a : Ax) : Code := a.2.2.2.2.2.2.2.2.2
abbrev xW (X : Wx) (f : Nat → Nat → Int32) : va_W := wd X.2.2.2.1 X.2.2.2.2.1 X.2.2.2.2.2 f
/-- which cells a method may change: its world's, and those behind -/
def AA (X : Wx) (sz : Nat) : Nat → Prop := va_A (xW X (fun _ _ => 0)) sz
theorem AA_in {X : Wx} {sz : Nat} {f : Nat → Nat → Int32} {q : Nat} : va_A (xW X f) sz q ↔ AA X sz q := by
  have key : ∀ f1 f2 : Nat → Nat → Int32, va_A (xW X f1) sz q → va_A (xW X f2) sz q := by
    intro f1 f2 h
    rcases h with ⟨k, e, h⟩ | h
    · have hk : k < X.2.2.2.1 := by
        have := (List.getElem?_eq_some_iff.mp h).1
        rwa [wd_len] at this
      rw [xW, wd_at hk] at h
      have h1 : X.2.2.2.2.1 k = q := by
        have := Option.some.inj h
        exact congrArg Prod.fst this
      exact Or.inl ⟨k, _, by rw [xW, wd_at hk, h1]⟩
    · exact Or.inr h
  exact ⟨key _ _, key _ _⟩
theorem wd_D {A : Nat → Prop} {X : Wx} {f1 f2 : Nat → Nat → Int32} (h : va_D A (xW X f1)) : va_D A (xW X f2) := by
  have at' : ∀ (k : Nat) (q : Nat × va_E), (xW X f2)[k]? = some q → ∃ e, (xW X f1)[k]? = some (q.1, e) := by
    intro k q hq
    have hk : k < X.2.2.2.1 := by
      have := (List.getElem?_eq_some_iff.mp hq).1
      rwa [wd_len] at this
    rw [xW, wd_at hk] at hq
    exact ⟨_, by rw [xW, wd_at hk, ← Option.some.inj hq]⟩
  refine ⟨fun i j p q hi hj hpq => ?_, fun k q hk => ?_⟩
  · obtain ⟨e1, h1⟩ := at' i p hi
    obtain ⟨e2, h2⟩ := at' j q hj
    exact h.1 i j _ _ h1 h2 hpq
  · obtain ⟨e1, h1⟩ := at' k q hk
    exact h.2 k (q.1, e1) h1
/-- what holds where a method begins, and where it ends -/
def PreB (X : Wx) (sz : Nat) (f : Nat → Nat → Int32) : State → Prop := fun U => U.heap.size = sz ∧ va_P X.1 X.2.1 (xW X f) U.heap ∧ va_K X.1 X.2.1 X.2.2.1 U ∧ va_D (fun _ => True) (xW X f)
def EndB (X : Wx) (A : Nat → Prop) (f : Nat → Nat → Int32) : State → Prop := fun t => va_P X.1 X.2.1 (xW X f) t.heap ∧ va_K X.1 X.2.1 X.2.2.1 t ∧ va_D A (xW X f)
abbrev Pst : Type := Wx → (Nat → Prop) → Array Value → State → Outcome → State → Prop
def PI (r : Int32) (f : Nat → Nat → Int32) : Pst := fun X A => va_Qi (fun (r' : Int32) (_ : Unit) => r' = r) (fun _ t => EndB X A f t) A
def PV (f : Nat → Nat → Int32) : Pst := fun X A => va_Qv (fun (_ : Unit) => True) (fun _ t => EndB X A f t) A
def PQ (r : Option Nat) (f : Nat → Nat → Int32) : Pst := fun X A => va_Qq (fun (r' : Option Nat) (_ : Unit) => r' = r) (fun _ t => EndB X A f t) A
/-- a method's contract over the whole world -/
def MS (l : Launch) (X : Wx) (y : MethodName) (ws : List Cond) (rm : Room) (av : List Value) (f : Nat → Nat → Int32) (post : Pst) : Prop := ∀ sz : Nat, Met l y ws rm (va_Pc av (PreB X sz f)) (post X (AA X sz)) 0 0 (AA X sz)
def RP (a : Ax) (X : Wx) (A : Nat → Prop) (post : Pst) : State → Prop := MQ (aB a) (post X A) (aA a) (aS a) 0 0 A
/-- what is fixed while one method runs -/
def FX (a : Ax) (X : Wx) (A : Nat → Prop) (cc : ByteArray) (own : String) (Ts : List Cond) (nL : Nat) (ret : Option FieldType) (rm : Room) : Prop :=
  (aP a).tables.exec = Jvm.exec ∧ (aC a).code = cc ∧ (aC a).maxLocals = nL ∧ (aS a).vm.findClass own = some (aM a).cls ∧ (∀ w ∈ Ts, w.before (aA a) (aS a) = true) ∧ va_K X.1 X.2.1 X.2.2.1 (aS a) ∧ (∀ q, (aS a).heap.size ≤ q → A q) ∧ (∀ q, A q ↔ AA X (aS a).heap.size q) ∧ (aT a).locks = false ∧ (aT a).sig.returnType = ret ∧ aR a = rm
def WS (a : Ax) (X : Wx) (A : Nat → Prop) (nL : Nat) (Q : State → Prop) (pc : Nat) (lv : List (Nat × Value)) (st : List Value) (f : Nat → Nat → Int32) : Prop :=
  ∀ (H : Heap) (locs : List Loc) (ls : Array Slot), va_P X.1 X.2.1 (xW X f) H → va_D A (xW X f) → va_S A (aS a).heap H locs → lv_has ls nL lv → W (aP a) (aL a) (aE a) (aR a) (aS a) (aM a) (aA a) (aB a) (aT a) (aC a) H locs 0 0 Q (F0 (aM a) pc ls st)
/-- a name for a value: only for the eye -/
def nm {α β : Sort _} (e : α) (k : α → β) : β := k e
/-- an index that is looked at by the machine -/
def ck {ρ : Type} (i : Int32) (n : Nat) (k : Option ρ) : Option ρ := if i < 0 ∨ n ≤ i.toNatClampNeg then none else k
theorem ck_h {ρ : Type} {i : Int32} {n : Nat} {k : Option ρ} {r : ρ} (h : ck i n k = some r) : vp_in i n ∧ k = some r := by
  unfold ck at h
  split at h
  · cases h
  · exact ⟨by assumption, h⟩
theorem bind_h {ρ τ : Type} {x : Option ρ} {k : ρ → Option τ} {r : τ} (h : x.bind k = some r) : ∃ q, x = some q ∧ k q = some r := by
  cases x with
  | none => cases h
  | some q => exact ⟨q, rfl, h⟩
/-- an answer of a boolean method -/
def zr (x : Int32) : Option Int32 := if x = 0 ∨ x = 1 then some x else none
def zrs {ρ : Type} (x : Int32) (s : ρ) : Option (Int32 × ρ) := if x = 0 ∨ x = 1 then some (x, s) else none
theorem nar_z {x : Int32} (h : x = 0 ∨ x = 1) : narrow .boolean (.int x) = .int x := by rcases h with rfl | rfl <;> rfl
theorem zr_h {x r : Int32} (h : zr x = some r) : (x = 0 ∨ x = 1) ∧ x = r := by
  unfold zr at h
  split at h
  · exact ⟨by assumption, Option.some.inj h⟩
  · cases h
/-- the fuel of a loop -/
def fuB : Nat := 1000
theorem MS.of {l : Launch} {X : Wx} {y : MethodName} {ws ws' : List Cond} {rm : Room} {av : List Value} {f : Nat → Nat → Int32} {post : Pst} {cc : ByteArray} {maxL : Nat} {ret : Option FieldType} {own : String} {lv : List (Nat × Value)} (hy : plainName y.cls = true) (hown : y.cls = own) (hw : ws = Cond.code y cc maxL ret :: ws') (hn : (lg_sl av).length ≤ maxL) (hlv : lv_args 0 av = lv)
    (body : ∀ (a : Ax) (A : Nat → Prop), aL a = l → FX a X A cc own ws maxL ret rm → WS a X A maxL (RP a X A post) 0 lv [] f) : MS l X y ws rm av f post := by
  intro sz
  refine Met.ofW (cc := cc) (maxL := maxL) (ret := ret) hy hw ?_
  intro p e s m args below meth c s₁ B hml hv
  obtain ⟨rfl, hsz, hP, hK, hD0⟩ := hv
  subst hsz
  subst hown
  have hb := body (p, l, e, rm, s, m, av.toArray, below, meth, c) (AA X s.heap.size) rfl ⟨B.exec, B.bytes, hml, findClass_of_methodNamed B.named, atoms_spec (ws := ws) B.pre, hK, fun q h => Or.inr h, fun q => Iff.rfl, B.notSynchronized, B.returns, rfl⟩
  rw [lg_entry_eq]
  subst hlv
  exact hb s.heap [] _ hP ((hD0.self (sz := s.heap.size)).weaken (fun _ q _ h => AA_in.mp h)) va_S.rf (lv_entry av hn)
theorem WS.sub {a : Ax} {X : Wx} {A : Nat → Prop} {nL : Nat} {Q : State → Prop} {pc : Nat} {lv lv' : List (Nat × Value)} {st : List Value} {f : Nat → Nat → Int32} (ks : List Nat) (hl : lv_pick lv ks = lv') (h : WS a X A nL Q pc lv' st f) : WS a X A nL Q pc lv st f :=
  fun H locs ls hP hD hS hl0 => h H locs ls hP hD hS (lv_sub hl0 ks hl)
theorem WS.pc {a : Ax} {X : Wx} {A : Nat → Prop} {nL : Nat} {Q : State → Prop} {pc pc' : Nat} {lv : List (Nat × Value)} {st : List Value} {f : Nat → Nat → Int32} (h : pc = pc') (k : WS a X A nL Q pc' lv st f) : WS a X A nL Q pc lv st f := h ▸ k
section RW
variable {a : Ax} {X : Wx} {A : Nat → Prop} {nL : Nat} {Q : State → Prop} {cc : ByteArray} {own : String} {Ts : List Cond} {ret : Option FieldType} {rm : Room} {pc : Nat} {lv : List (Nat × Value)} {st : List Value} {f : Nat → Nat → Int32}

theorem rw_iconst (F : FX a X A cc own Ts nL ret rm) {n : Int} {v : Int32} (hdg : decode cc pc = .ok (.iconst n, 1)) (hv : Int32.ofInt n = v) (k : WS a X A nL Q (pc + 1) lv (.int v :: st) f) : WS a X A nL Q pc lv (st) f :=
  fun H locs ls hP hD hS hl => lv_iconst F.1 F.2.1 hdg hv (k H locs ls hP hD hS hl)
theorem rw_bipush (F : FX a X A cc own Ts nL ret rm) {n : Int} {v : Int32} (hdg : decode cc pc = .ok (.bipush n, 2)) (hv : (Int8.ofInt n).toInt32 = v) (k : WS a X A nL Q (pc + 2) lv (.int v :: st) f) : WS a X A nL Q pc lv (st) f :=
  fun H locs ls hP hD hS hl => lv_bipush F.1 F.2.1 hdg hv (k H locs ls hP hD hS hl)
theorem rw_sipush (F : FX a X A cc own Ts nL ret rm) {n : Int} {v : Int32} (hdg : decode cc pc = .ok (.sipush n, 3)) (hv : (Int16.ofInt n).toInt32 = v) (k : WS a X A nL Q (pc + 3) lv (.int v :: st) f) : WS a X A nL Q pc lv (st) f :=
  fun H locs ls hP hD hS hl => lv_sipush F.1 F.2.1 hdg hv (k H locs ls hP hD hS hl)
theorem rw_lconst (F : FX a X A cc own Ts nL ret rm) {n : Fin 2} {v : Int64} (hdg : decode cc pc = .ok (.lconst n, 1)) (hv : Int64.ofNat (n : Nat) = v) (k : WS a X A nL Q (pc + 1) lv (.long v :: st) f) : WS a X A nL Q pc lv (st) f :=
  fun H locs ls hP hD hS hl => lv_lconst F.1 F.2.1 hdg hv (k H locs ls hP hD hS hl)
theorem rw_null (F : FX a X A cc own Ts nL ret rm) (hdg : decode cc pc = .ok (.aconst_null, 1)) (k : WS a X A nL Q (pc + 1) lv (.null :: st) f) : WS a X A nL Q pc lv (st) f :=
  fun H locs ls hP hD hS hl => lv_null F.1 F.2.1 hdg (k H locs ls hP hD hS hl)
theorem rw_ldc (F : FX a X A cc own Ts nL ret rm) {index : Nat} {v : Int32} (hdg : decode cc pc = .ok (.ldc index, 2)) (hc : Cond.constant own index v ∈ Ts) (k : WS a X A nL Q (pc + 2) lv (.int v :: st) f) : WS a X A nL Q pc lv st f :=
  fun H locs ls hP hD hS hl => lv_ldc F.1 F.2.1 F.2.2.2.1 (F.2.2.2.2.1 _ hc) hdg (k H locs ls hP hD hS hl)
theorem rw_ldcw (F : FX a X A cc own Ts nL ret rm) {index : Nat} {v : Int32} (hdg : decode cc pc = .ok (.ldc_w index, 3)) (hc : Cond.constant own index v ∈ Ts) (k : WS a X A nL Q (pc + 3) lv (.int v :: st) f) : WS a X A nL Q pc lv st f :=
  fun H locs ls hP hD hS hl => lv_ldcw F.1 F.2.1 F.2.2.2.1 (F.2.2.2.2.1 _ hc) hdg (k H locs ls hP hD hS hl)
theorem rw_ldc2 (F : FX a X A cc own Ts nL ret rm) {index : Nat} {v : Int64} (hdg : decode cc pc = .ok (.ldc2_w index, 3)) (hc : Cond.constantLong own index v ∈ Ts) (k : WS a X A nL Q (pc + 3) lv (.long v :: st) f) : WS a X A nL Q pc lv st f :=
  fun H locs ls hP hD hS hl => lv_ldc2 F.1 F.2.1 F.2.2.2.1 (F.2.2.2.2.1 _ hc) hdg (k H locs ls hP hD hS hl)
theorem rw_iload_n (F : FX a X A cc own Ts nL ret rm) {k0 : Fin 4} {i : Nat} {x : Int32} (hdg : decode cc pc = .ok (.iload_n k0, 1)) (hi : (k0 : Nat) = i) (q : Nat) (hq : lv[q]? = some (i, .int x)) (k : WS a X A nL Q (pc + 1) lv (.int x :: st) f) : WS a X A nL Q pc lv st f :=
  fun H locs ls hP hD hS hl => lv_iload_n F.1 F.2.1 hdg hi (lv_at hl q hq) (k H locs ls hP hD hS hl)
theorem rw_iload (F : FX a X A cc own Ts nL ret rm) {i : Nat} {x : Int32} (hdg : decode cc pc = .ok (.iload i, 2)) (q : Nat) (hq : lv[q]? = some (i, .int x)) (k : WS a X A nL Q (pc + 2) lv (.int x :: st) f) : WS a X A nL Q pc lv st f :=
  fun H locs ls hP hD hS hl => lv_iload F.1 F.2.1 hdg (lv_at hl q hq) (k H locs ls hP hD hS hl)
theorem rw_lload_n (F : FX a X A cc own Ts nL ret rm) {k0 : Fin 4} {i : Nat} {x : Int64} (hdg : decode cc pc = .ok (.lload_n k0, 1)) (hi : (k0 : Nat) = i) (q : Nat) (hq : lv[q]? = some (i, .long x)) (k : WS a X A nL Q (pc + 1) lv (.long x :: st) f) : WS a X A nL Q pc lv st f :=
  fun H locs ls hP hD hS hl => lv_lload_n F.1 F.2.1 hdg hi (lv_at hl q hq) (k H locs ls hP hD hS hl)
theorem rw_lload (F : FX a X A cc own Ts nL ret rm) {i : Nat} {x : Int64} (hdg : decode cc pc = .ok (.lload i, 2)) (q : Nat) (hq : lv[q]? = some (i, .long x)) (k : WS a X A nL Q (pc + 2) lv (.long x :: st) f) : WS a X A nL Q pc lv st f :=
  fun H locs ls hP hD hS hl => lv_lload F.1 F.2.1 hdg (lv_at hl q hq) (k H locs ls hP hD hS hl)
theorem rw_aload_n (F : FX a X A cc own Ts nL ret rm) {k0 : Fin 4} {i : Nat} {x : Nat} (hdg : decode cc pc = .ok (.aload_n k0, 1)) (hi : (k0 : Nat) = i) (q : Nat) (hq : lv[q]? = some (i, .ref x)) (k : WS a X A nL Q (pc + 1) lv (.ref x :: st) f) : WS a X A nL Q pc lv st f :=
  fun H locs ls hP hD hS hl => lv_aload_n F.1 F.2.1 hdg hi (lv_at hl q hq) (k H locs ls hP hD hS hl)
theorem rw_aload (F : FX a X A cc own Ts nL ret rm) {i : Nat} {x : Nat} (hdg : decode cc pc = .ok (.aload i, 2)) (q : Nat) (hq : lv[q]? = some (i, .ref x)) (k : WS a X A nL Q (pc + 2) lv (.ref x :: st) f) : WS a X A nL Q pc lv st f :=
  fun H locs ls hP hD hS hl => lv_aload F.1 F.2.1 hdg (lv_at hl q hq) (k H locs ls hP hD hS hl)
theorem rw_istore_n (F : FX a X A cc own Ts nL ret rm) {k0 : Fin 4} {i : Nat} {x : Int32} {lv' : List (Nat × Value)} (hdg : decode cc pc = .ok (.istore_n k0, 1)) (hi : (k0 : Nat) = i) (hn : i < nL) (hl' : (i, Value.int x) :: lv.filter (fun q => !(q.1 == i) && !(q.1 + 1 == i && q.2.category == 2)) = lv') (k : WS a X A nL Q (pc + 1) lv' st f) : WS a X A nL Q pc lv (.int x :: st) f :=
  fun H locs ls hP hD hS hl => lv_istore_n F.1 F.2.1 hdg hi hl hn hl' (fun ls' h' => k H locs ls' hP hD hS h')
theorem rw_istore (F : FX a X A cc own Ts nL ret rm) {i : Nat} {x : Int32} {lv' : List (Nat × Value)} (hdg : decode cc pc = .ok (.istore i, 2)) (hn : i < nL) (hl' : (i, Value.int x) :: lv.filter (fun q => !(q.1 == i) && !(q.1 + 1 == i && q.2.category == 2)) = lv') (k : WS a X A nL Q (pc + 2) lv' st f) : WS a X A nL Q pc lv (.int x :: st) f :=
  fun H locs ls hP hD hS hl => lv_istore F.1 F.2.1 hdg hl hn hl' (fun ls' h' => k H locs ls' hP hD hS h')
theorem rw_astore_n (F : FX a X A cc own Ts nL ret rm) {k0 : Fin 4} {i : Nat} {x : Nat} {lv' : List (Nat × Value)} (hdg : decode cc pc = .ok (.astore_n k0, 1)) (hi : (k0 : Nat) = i) (hn : i < nL) (hl' : (i, Value.ref x) :: lv.filter (fun q => !(q.1 == i) && !(q.1 + 1 == i && q.2.category == 2)) = lv') (k : WS a X A nL Q (pc + 1) lv' st f) : WS a X A nL Q pc lv (.ref x :: st) f :=
  fun H locs ls hP hD hS hl => lv_astore_n F.1 F.2.1 hdg hi hl hn hl' (fun ls' h' => k H locs ls' hP hD hS h')
theorem rw_astore (F : FX a X A cc own Ts nL ret rm) {i : Nat} {x : Nat} {lv' : List (Nat × Value)} (hdg : decode cc pc = .ok (.astore i, 2)) (hn : i < nL) (hl' : (i, Value.ref x) :: lv.filter (fun q => !(q.1 == i) && !(q.1 + 1 == i && q.2.category == 2)) = lv') (k : WS a X A nL Q (pc + 2) lv' st f) : WS a X A nL Q pc lv (.ref x :: st) f :=
  fun H locs ls hP hD hS hl => lv_astore F.1 F.2.1 hdg hl hn hl' (fun ls' h' => k H locs ls' hP hD hS h')
theorem rw_lstore (F : FX a X A cc own Ts nL ret rm) {i : Nat} {x : Int64} {lv' : List (Nat × Value)} (hdg : decode cc pc = .ok (.lstore i, 2)) (hn : i + 1 < nL) (hl' : (i, Value.long x) :: lv.filter (fun q => !(q.1 == i) && (!(q.1 == i + 1) && !(q.1 + 1 == i && q.2.category == 2))) = lv') (k : WS a X A nL Q (pc + 2) lv' st f) : WS a X A nL Q pc lv (.long x :: st) f :=
  fun H locs ls hP hD hS hl => lv_lstore F.1 F.2.1 hdg hl hn hl' (fun ls' h' => k H locs ls' hP hD hS h')
theorem rw_iinc (F : FX a X A cc own Ts nL ret rm) {i : Nat} {n : Int} {x v : Int32} {lv' : List (Nat × Value)} (hdg : decode cc pc = .ok (.iinc i n, 3)) (q : Nat) (hq : lv[q]? = some (i, .int x)) (hv : Int32.ofInt n = v) (hn : i < nL) (hl' : (i, Value.int (x + v)) :: lv.filter (fun q => !(q.1 == i) && !(q.1 + 1 == i && q.2.category == 2)) = lv') (k : WS a X A nL Q (pc + 3) lv' st f) : WS a X A nL Q pc lv st f :=
  fun H locs ls hP hD hS hl => lv_iinc F.1 F.2.1 hdg hl hq (by rw [hv]) hn hl' (fun ls' h' => k H locs ls' hP hD hS h')
theorem rw_iadd (F : FX a X A cc own Ts nL ret rm) {x y : Int32} (hdg : decode cc pc = .ok (.iadd, 1)) (k : WS a X A nL Q (pc + 1) lv (.int (x + y) :: st) f) : WS a X A nL Q pc lv (.int y :: .int x :: st) f :=
  fun H locs ls hP hD hS hl => lv_iadd F.1 F.2.1 hdg (k H locs ls hP hD hS hl)
theorem rw_isub (F : FX a X A cc own Ts nL ret rm) {x y : Int32} (hdg : decode cc pc = .ok (.isub, 1)) (k : WS a X A nL Q (pc + 1) lv (.int (x - y) :: st) f) : WS a X A nL Q pc lv (.int y :: .int x :: st) f :=
  fun H locs ls hP hD hS hl => lv_isub F.1 F.2.1 hdg (k H locs ls hP hD hS hl)
theorem rw_imul (F : FX a X A cc own Ts nL ret rm) {x y : Int32} (hdg : decode cc pc = .ok (.imul, 1)) (k : WS a X A nL Q (pc + 1) lv (.int (x * y) :: st) f) : WS a X A nL Q pc lv (.int y :: .int x :: st) f :=
  fun H locs ls hP hD hS hl => lv_imul F.1 F.2.1 hdg (k H locs ls hP hD hS hl)
theorem rw_iand (F : FX a X A cc own Ts nL ret rm) {x y : Int32} (hdg : decode cc pc = .ok (.iand, 1)) (k : WS a X A nL Q (pc + 1) lv (.int (x &&& y) :: st) f) : WS a X A nL Q pc lv (.int y :: .int x :: st) f :=
  fun H locs ls hP hD hS hl => lv_iand F.1 F.2.1 hdg (k H locs ls hP hD hS hl)
theorem rw_ior (F : FX a X A cc own Ts nL ret rm) {x y : Int32} (hdg : decode cc pc = .ok (.ior, 1)) (k : WS a X A nL Q (pc + 1) lv (.int (x ||| y) :: st) f) : WS a X A nL Q pc lv (.int y :: .int x :: st) f :=
  fun H locs ls hP hD hS hl => lv_ior F.1 F.2.1 hdg (k H locs ls hP hD hS hl)
theorem rw_ixor (F : FX a X A cc own Ts nL ret rm) {x y : Int32} (hdg : decode cc pc = .ok (.ixor, 1)) (k : WS a X A nL Q (pc + 1) lv (.int (x ^^^ y) :: st) f) : WS a X A nL Q pc lv (.int y :: .int x :: st) f :=
  fun H locs ls hP hD hS hl => lv_ixor F.1 F.2.1 hdg (k H locs ls hP hD hS hl)
theorem rw_ishl (F : FX a X A cc own Ts nL ret rm) {x y : Int32} (hdg : decode cc pc = .ok (.ishl, 1)) (k : WS a X A nL Q (pc + 1) lv (.int (x <<< (y &&& 31)) :: st) f) : WS a X A nL Q pc lv (.int y :: .int x :: st) f :=
  fun H locs ls hP hD hS hl => lv_ishl F.1 F.2.1 hdg (k H locs ls hP hD hS hl)
theorem rw_ishr (F : FX a X A cc own Ts nL ret rm) {x y : Int32} (hdg : decode cc pc = .ok (.ishr, 1)) (k : WS a X A nL Q (pc + 1) lv (.int (x >>> (y &&& 31)) :: st) f) : WS a X A nL Q pc lv (.int y :: .int x :: st) f :=
  fun H locs ls hP hD hS hl => lv_ishr F.1 F.2.1 hdg (k H locs ls hP hD hS hl)
theorem rw_iushr (F : FX a X A cc own Ts nL ret rm) {x y : Int32} (hdg : decode cc pc = .ok (.iushr, 1)) (k : WS a X A nL Q (pc + 1) lv (.int ((x.toUInt32 >>> (y.toUInt32 &&& Int32.toUInt32 31)).toInt32) :: st) f) : WS a X A nL Q pc lv (.int y :: .int x :: st) f :=
  fun H locs ls hP hD hS hl => lv_iushr F.1 F.2.1 hdg rfl (k H locs ls hP hD hS hl)
theorem rw_ineg (F : FX a X A cc own Ts nL ret rm) {x : Int32} (hdg : decode cc pc = .ok (.ineg, 1)) (k : WS a X A nL Q (pc + 1) lv (.int (-x) :: st) f) : WS a X A nL Q pc lv (.int x :: st) f :=
  fun H locs ls hP hD hS hl => lv_ineg F.1 F.2.1 hdg (k H locs ls hP hD hS hl)
theorem rw_idiv (F : FX a X A cc own Ts nL ret rm) {x y : Int32} (hdg : decode cc pc = .ok (.idiv, 1)) (hne : ¬ y = 0) (k : WS a X A nL Q (pc + 1) lv (.int (x / y) :: st) f) : WS a X A nL Q pc lv (.int y :: .int x :: st) f :=
  fun H locs ls hP hD hS hl => lv_idiv F.1 F.2.1 hdg hne (k H locs ls hP hD hS hl)
theorem rw_irem (F : FX a X A cc own Ts nL ret rm) {x y : Int32} (hdg : decode cc pc = .ok (.irem, 1)) (hne : ¬ y = 0) (k : WS a X A nL Q (pc + 1) lv (.int (x - x / y * y) :: st) f) : WS a X A nL Q pc lv (.int y :: .int x :: st) f :=
  fun H locs ls hP hD hS hl => lv_irem F.1 F.2.1 hdg hne (k H locs ls hP hD hS hl)
theorem rw_ladd (F : FX a X A cc own Ts nL ret rm) {x y : Int64} (hdg : decode cc pc = .ok (.ladd, 1)) (k : WS a X A nL Q (pc + 1) lv (.long (x + y) :: st) f) : WS a X A nL Q pc lv (.long y :: .long x :: st) f :=
  fun H locs ls hP hD hS hl => lv_ladd F.1 F.2.1 hdg (k H locs ls hP hD hS hl)
theorem rw_lsub (F : FX a X A cc own Ts nL ret rm) {x y : Int64} (hdg : decode cc pc = .ok (.lsub, 1)) (k : WS a X A nL Q (pc + 1) lv (.long (x - y) :: st) f) : WS a X A nL Q pc lv (.long y :: .long x :: st) f :=
  fun H locs ls hP hD hS hl => lv_lsub F.1 F.2.1 hdg (k H locs ls hP hD hS hl)
theorem rw_lmul (F : FX a X A cc own Ts nL ret rm) {x y : Int64} (hdg : decode cc pc = .ok (.lmul, 1)) (k : WS a X A nL Q (pc + 1) lv (.long (x * y) :: st) f) : WS a X A nL Q pc lv (.long y :: .long x :: st) f :=
  fun H locs ls hP hD hS hl => lv_lmul F.1 F.2.1 hdg (k H locs ls hP hD hS hl)
theorem rw_ldiv (F : FX a X A cc own Ts nL ret rm) {x y : Int64} (hdg : decode cc pc = .ok (.ldiv, 1)) (hne : ¬ y = 0) (k : WS a X A nL Q (pc + 1) lv (.long (x / y) :: st) f) : WS a X A nL Q pc lv (.long y :: .long x :: st) f :=
  fun H locs ls hP hD hS hl => lv_ldiv F.1 F.2.1 hdg hne (k H locs ls hP hD hS hl)
theorem rw_lrem (F : FX a X A cc own Ts nL ret rm) {x y : Int64} (hdg : decode cc pc = .ok (.lrem, 1)) (hne : ¬ y = 0) (k : WS a X A nL Q (pc + 1) lv (.long (x - x / y * y) :: st) f) : WS a X A nL Q pc lv (.long y :: .long x :: st) f :=
  fun H locs ls hP hD hS hl => lv_lrem F.1 F.2.1 hdg hne (k H locs ls hP hD hS hl)
theorem rw_i2l (F : FX a X A cc own Ts nL ret rm) {x : Int32} (hdg : decode cc pc = .ok (.i2l, 1)) (k : WS a X A nL Q (pc + 1) lv (.long x.toInt64 :: st) f) : WS a X A nL Q pc lv (.int x :: st) f :=
  fun H locs ls hP hD hS hl => lv_i2l F.1 F.2.1 hdg rfl (k H locs ls hP hD hS hl)
theorem rw_l2i (F : FX a X A cc own Ts nL ret rm) {x : Int64} (hdg : decode cc pc = .ok (.l2i, 1)) (k : WS a X A nL Q (pc + 1) lv (.int x.toInt32 :: st) f) : WS a X A nL Q pc lv (.long x :: st) f :=
  fun H locs ls hP hD hS hl => lv_l2i F.1 F.2.1 hdg rfl (k H locs ls hP hD hS hl)
theorem rw_lcmp (F : FX a X A cc own Ts nL ret rm) {x y : Int64} (hdg : decode cc pc = .ok (.lcmp, 1)) (k : WS a X A nL Q (pc + 1) lv (.int (lg_cmp x y) :: st) f) : WS a X A nL Q pc lv (.long y :: .long x :: st) f :=
  fun H locs ls hP hD hS hl => W.lcmp F.1 F.2.1 hdg (k H locs ls hP hD hS hl)
theorem rw_dup (F : FX a X A cc own Ts nL ret rm) {u : Value} (hdg : decode cc pc = .ok (.dup, 1)) (hu : u.category = 1) (k : WS a X A nL Q (pc + 1) lv (u :: u :: st) f) : WS a X A nL Q pc lv (u :: st) f :=
  fun H locs ls hP hD hS hl => lv_dup F.1 F.2.1 hdg hu (k H locs ls hP hD hS hl)
theorem rw_pop (F : FX a X A cc own Ts nL ret rm) {u : Value} (hdg : decode cc pc = .ok (.pop, 1)) (hu : u.category = 1) (k : WS a X A nL Q (pc + 1) lv (st) f) : WS a X A nL Q pc lv (u :: st) f :=
  fun H locs ls hP hD hS hl => lv_pop F.1 F.2.1 hdg hu (k H locs ls hP hD hS hl)
theorem rw_dup2 (F : FX a X A cc own Ts nL ret rm) {u v : Value} (hdg : decode cc pc = .ok (.dup2, 1)) (hu : u.category = 1) (hv : v.category = 1) (k : WS a X A nL Q (pc + 1) lv (u :: v :: u :: v :: st) f) : WS a X A nL Q pc lv (u :: v :: st) f :=
  fun H locs ls hP hD hS hl => lv_dup2_11 F.1 F.2.1 hdg hu hv (k H locs ls hP hD hS hl)
theorem rw_dup_x1 (F : FX a X A cc own Ts nL ret rm) {u v : Value} (hdg : decode cc pc = .ok (.dup_x1, 1)) (hu : u.category = 1) (hv : v.category = 1) (k : WS a X A nL Q (pc + 1) lv (u :: v :: u :: st) f) : WS a X A nL Q pc lv (u :: v :: st) f :=
  fun H locs ls hP hD hS hl => lv_dup_x1 F.1 F.2.1 hdg hu hv (k H locs ls hP hD hS hl)
theorem rw_goto (F : FX a X A cc own Ts nL ret rm) {off : Int} {tgt : Nat} (hdg : decode cc pc = .ok (.goto off, 3)) (ht : (pc : Int) + off = (tgt : Int)) (k : WS a X A nL Q tgt lv st f) : WS a X A nL Q pc lv st f :=
  fun H locs ls hP hD hS hl => lv_goto F.1 F.2.1 hdg ht (k H locs ls hP hD hS hl)
theorem rw_if_eq (F : FX a X A cc own Ts nL ret rm) {x : Int32} {off : Int} {tgt : Nat} {ρ : Type} {T E : Option ρ} {r : ρ} (hf : (if x = 0 then T else E) = some r) (hdg : decode cc pc = .ok (.ifCond .eq off, 3)) (ht : (pc : Int) + off = (tgt : Int)) (kt : x = 0 → T = some r → WS a X A nL Q tgt lv st f) (kf : ¬ x = 0 → E = some r → WS a X A nL Q (pc + 3) lv st f) : WS a X A nL Q pc lv (.int x :: st) f :=
  fun H locs ls hP hD hS hl => lv_if_eq F.1 F.2.1 hdg ht (fun h => kt h (by rw [if_pos h] at hf; exact hf) H locs ls hP hD hS hl) (fun h => kf h (by rw [if_neg h] at hf; exact hf) H locs ls hP hD hS hl)
theorem rw_icmp_eq (F : FX a X A cc own Ts nL ret rm) {x y : Int32} {off : Int} {tgt : Nat} {ρ : Type} {T E : Option ρ} {r : ρ} (hf : (if x = y then T else E) = some r) (hdg : decode cc pc = .ok (.if_icmp .eq off, 3)) (ht : (pc : Int) + off = (tgt : Int)) (kt : x = y → T = some r → WS a X A nL Q tgt lv st f) (kf : ¬ x = y → E = some r → WS a X A nL Q (pc + 3) lv st f) : WS a X A nL Q pc lv (.int y :: .int x :: st) f :=
  fun H locs ls hP hD hS hl => lv_icmp_eq F.1 F.2.1 hdg ht (fun h => kt h (by rw [if_pos h] at hf; exact hf) H locs ls hP hD hS hl) (fun h => kf h (by rw [if_neg h] at hf; exact hf) H locs ls hP hD hS hl)
theorem rw_if_ne (F : FX a X A cc own Ts nL ret rm) {x : Int32} {off : Int} {tgt : Nat} {ρ : Type} {T E : Option ρ} {r : ρ} (hf : (if x = 0 then T else E) = some r) (hdg : decode cc pc = .ok (.ifCond .ne off, 3)) (ht : (pc : Int) + off = (tgt : Int)) (kt : ¬ x = 0 → E = some r → WS a X A nL Q tgt lv st f) (kf : x = 0 → T = some r → WS a X A nL Q (pc + 3) lv st f) : WS a X A nL Q pc lv (.int x :: st) f :=
  fun H locs ls hP hD hS hl => lv_if_ne F.1 F.2.1 hdg ht (fun h => kt h (by rw [if_neg h] at hf; exact hf) H locs ls hP hD hS hl) (fun h => kf h (by rw [if_pos h] at hf; exact hf) H locs ls hP hD hS hl)
theorem rw_icmp_ne (F : FX a X A cc own Ts nL ret rm) {x y : Int32} {off : Int} {tgt : Nat} {ρ : Type} {T E : Option ρ} {r : ρ} (hf : (if x = y then T else E) = some r) (hdg : decode cc pc = .ok (.if_icmp .ne off, 3)) (ht : (pc : Int) + off = (tgt : Int)) (kt : ¬ x = y → E = some r → WS a X A nL Q tgt lv st f) (kf : x = y → T = some r → WS a X A nL Q (pc + 3) lv st f) : WS a X A nL Q pc lv (.int y :: .int x :: st) f :=
  fun H locs ls hP hD hS hl => lv_icmp_ne F.1 F.2.1 hdg ht (fun h => kt h (by rw [if_neg h] at hf; exact hf) H locs ls hP hD hS hl) (fun h => kf h (by rw [if_pos h] at hf; exact hf) H locs ls hP hD hS hl)
theorem rw_if_lt (F : FX a X A cc own Ts nL ret rm) {x : Int32} {off : Int} {tgt : Nat} {ρ : Type} {T E : Option ρ} {r : ρ} (hf : (if x < 0 then T else E) = some r) (hdg : decode cc pc = .ok (.ifCond .lt off, 3)) (ht : (pc : Int) + off = (tgt : Int)) (kt : x < 0 → T = some r → WS a X A nL Q tgt lv st f) (kf : ¬ x < 0 → E = some r → WS a X A nL Q (pc + 3) lv st f) : WS a X A nL Q pc lv (.int x :: st) f :=
  fun H locs ls hP hD hS hl => lv_if_lt F.1 F.2.1 hdg ht (fun h => kt h (by rw [if_pos h] at hf; exact hf) H locs ls hP hD hS hl) (fun h => kf h (by rw [if_neg h] at hf; exact hf) H locs ls hP hD hS hl)
theorem rw_icmp_lt (F : FX a X A cc own Ts nL ret rm) {x y : Int32} {off : Int} {tgt : Nat} {ρ : Type} {T E : Option ρ} {r : ρ} (hf : (if x < y then T else E) = some r) (hdg : decode cc pc = .ok (.if_icmp .lt off, 3)) (ht : (pc : Int) + off = (tgt : Int)) (kt : x < y → T = some r → WS a X A nL Q tgt lv st f) (kf : ¬ x < y → E = some r → WS a X A nL Q (pc + 3) lv st f) : WS a X A nL Q pc lv (.int y :: .int x :: st) f :=
  fun H locs ls hP hD hS hl => lv_icmp_lt F.1 F.2.1 hdg ht (fun h => kt h (by rw [if_pos h] at hf; exact hf) H locs ls hP hD hS hl) (fun h => kf h (by rw [if_neg h] at hf; exact hf) H locs ls hP hD hS hl)
theorem rw_if_ge (F : FX a X A cc own Ts nL ret rm) {x : Int32} {off : Int} {tgt : Nat} {ρ : Type} {T E : Option ρ} {r : ρ} (hf : (if 0 ≤ x then T else E) = some r) (hdg : decode cc pc = .ok (.ifCond .ge off, 3)) (ht : (pc : Int) + off = (tgt : Int)) (kt : 0 ≤ x → T = some r → WS a X A nL Q tgt lv st f) (kf : ¬ 0 ≤ x → E = some r → WS a X A nL Q (pc + 3) lv st f) : WS a X A nL Q pc lv (.int x :: st) f :=
  fun H locs ls hP hD hS hl => lv_if_ge F.1 F.2.1 hdg ht (fun h => kt h (by rw [if_pos h] at hf; exact hf) H locs ls hP hD hS hl) (fun h => kf h (by rw [if_neg h] at hf; exact hf) H locs ls hP hD hS hl)
theorem rw_icmp_ge (F : FX a X A cc own Ts nL ret rm) {x y : Int32} {off : Int} {tgt : Nat} {ρ : Type} {T E : Option ρ} {r : ρ} (hf : (if y ≤ x then T else E) = some r) (hdg : decode cc pc = .ok (.if_icmp .ge off, 3)) (ht : (pc : Int) + off = (tgt : Int)) (kt : y ≤ x → T = some r → WS a X A nL Q tgt lv st f) (kf : ¬ y ≤ x → E = some r → WS a X A nL Q (pc + 3) lv st f) : WS a X A nL Q pc lv (.int y :: .int x :: st) f :=
  fun H locs ls hP hD hS hl => lv_icmp_ge F.1 F.2.1 hdg ht (fun h => kt h (by rw [if_pos h] at hf; exact hf) H locs ls hP hD hS hl) (fun h => kf h (by rw [if_neg h] at hf; exact hf) H locs ls hP hD hS hl)
theorem rw_if_gt (F : FX a X A cc own Ts nL ret rm) {x : Int32} {off : Int} {tgt : Nat} {ρ : Type} {T E : Option ρ} {r : ρ} (hf : (if 0 < x then T else E) = some r) (hdg : decode cc pc = .ok (.ifCond .gt off, 3)) (ht : (pc : Int) + off = (tgt : Int)) (kt : 0 < x → T = some r → WS a X A nL Q tgt lv st f) (kf : ¬ 0 < x → E = some r → WS a X A nL Q (pc + 3) lv st f) : WS a X A nL Q pc lv (.int x :: st) f :=
  fun H locs ls hP hD hS hl => lv_if_gt F.1 F.2.1 hdg ht (fun h => kt h (by rw [if_pos h] at hf; exact hf) H locs ls hP hD hS hl) (fun h => kf h (by rw [if_neg h] at hf; exact hf) H locs ls hP hD hS hl)
theorem rw_icmp_gt (F : FX a X A cc own Ts nL ret rm) {x y : Int32} {off : Int} {tgt : Nat} {ρ : Type} {T E : Option ρ} {r : ρ} (hf : (if y < x then T else E) = some r) (hdg : decode cc pc = .ok (.if_icmp .gt off, 3)) (ht : (pc : Int) + off = (tgt : Int)) (kt : y < x → T = some r → WS a X A nL Q tgt lv st f) (kf : ¬ y < x → E = some r → WS a X A nL Q (pc + 3) lv st f) : WS a X A nL Q pc lv (.int y :: .int x :: st) f :=
  fun H locs ls hP hD hS hl => lv_icmp_gt F.1 F.2.1 hdg ht (fun h => kt h (by rw [if_pos h] at hf; exact hf) H locs ls hP hD hS hl) (fun h => kf h (by rw [if_neg h] at hf; exact hf) H locs ls hP hD hS hl)
theorem rw_if_le (F : FX a X A cc own Ts nL ret rm) {x : Int32} {off : Int} {tgt : Nat} {ρ : Type} {T E : Option ρ} {r : ρ} (hf : (if x ≤ 0 then T else E) = some r) (hdg : decode cc pc = .ok (.ifCond .le off, 3)) (ht : (pc : Int) + off = (tgt : Int)) (kt : x ≤ 0 → T = some r → WS a X A nL Q tgt lv st f) (kf : ¬ x ≤ 0 → E = some r → WS a X A nL Q (pc + 3) lv st f) : WS a X A nL Q pc lv (.int x :: st) f :=
  fun H locs ls hP hD hS hl => lv_if_le F.1 F.2.1 hdg ht (fun h => kt h (by rw [if_pos h] at hf; exact hf) H locs ls hP hD hS hl) (fun h => kf h (by rw [if_neg h] at hf; exact hf) H locs ls hP hD hS hl)
theorem rw_icmp_le (F : FX a X A cc own Ts nL ret rm) {x y : Int32} {off : Int} {tgt : Nat} {ρ : Type} {T E : Option ρ} {r : ρ} (hf : (if x ≤ y then T else E) = some r) (hdg : decode cc pc = .ok (.if_icmp .le off, 3)) (ht : (pc : Int) + off = (tgt : Int)) (kt : x ≤ y → T = some r → WS a X A nL Q tgt lv st f) (kf : ¬ x ≤ y → E = some r → WS a X A nL Q (pc + 3) lv st f) : WS a X A nL Q pc lv (.int y :: .int x :: st) f :=
  fun H locs ls hP hD hS hl => lv_icmp_le F.1 F.2.1 hdg ht (fun h => kt h (by rw [if_pos h] at hf; exact hf) H locs ls hP hD hS hl) (fun h => kf h (by rw [if_neg h] at hf; exact hf) H locs ls hP hD hS hl)
theorem rw_tableOut (F : FX a X A cc own Ts nL ret rm) {dflt lo hi : Int} {offs : Array Int} {len : Nat} {x : Int32} {tgt : Nat} (hdg : decode cc pc = .ok (.tableswitch dflt lo hi offs, len)) (h : x.toInt < lo ∨ hi < x.toInt) (ht : (pc : Int) + dflt = (tgt : Int)) (k : WS a X A nL Q tgt lv st f) : WS a X A nL Q pc lv (.int x :: st) f :=
  fun H locs ls hP hD hS hl => lv_tableOut F.1 F.2.1 hdg h ht (k H locs ls hP hD hS hl)
theorem rw_tableIn (F : FX a X A cc own Ts nL ret rm) {dflt lo hi : Int} {offs : Array Int} {len : Nat} {x : Int32} {off : Int} {tgt : Nat} (hdg : decode cc pc = .ok (.tableswitch dflt lo hi offs, len)) (h1 : ¬ x.toInt < lo) (h2 : ¬ hi < x.toInt) (ho : offs[(x.toInt - lo).toNat]? = some off) (ht : (pc : Int) + off = (tgt : Int)) (k : WS a X A nL Q tgt lv st f) : WS a X A nL Q pc lv (.int x :: st) f :=
  fun H locs ls hP hD hS hl => lv_tableIn F.1 F.2.1 hdg h1 h2 ho ht (k H locs ls hP hD hS hl)
theorem rw_lookup (F : FX a X A cc own Ts nL ret rm) {dflt : Int} {ps : Array (Int × Int)} {len : Nat} {x : Int32} {off : Int} {tgt : Nat} (hdg : decode cc pc = .ok (.lookupswitch dflt ps, len)) (hp : (ps.toList.zip (ps.toList.drop 1)).all (fun (a, next) => a.1 < next.1) = true) (ho : Op.lookupswitch.offset ps.toList dflt x.toInt = off) (ht : (pc : Int) + off = (tgt : Int)) (k : WS a X A nL Q tgt lv st f) : WS a X A nL Q pc lv (.int x :: st) f :=
  fun H locs ls hP hD hS hl => lv_lookup F.1 F.2.1 hdg hp ho ht (k H locs ls hP hD hS hl)
theorem rw_ifnonnull (F : FX a X A cc own Ts nL ret rm) {x : Nat} {off : Int} {tgt : Nat} (hdg : decode cc pc = .ok (.ifnonnull off, 3)) (ht : (pc : Int) + off = (tgt : Int)) (k : WS a X A nL Q tgt lv st f) : WS a X A nL Q pc lv (.ref x :: st) f :=
  fun H locs ls hP hD hS hl => lv_ifnonnull F.1 F.2.1 hdg ht (k H locs ls hP hD hS hl)
theorem rw_ifnull (F : FX a X A cc own Ts nL ret rm) {x : Nat} {off : Int} (hdg : decode cc pc = .ok (.ifnull off, 3)) (k : WS a X A nL Q (pc + 3) lv st f) : WS a X A nL Q pc lv (.ref x :: st) f :=
  fun H locs ls hP hD hS hl => lv_ifnull F.1 F.2.1 hdg (k H locs ls hP hD hS hl)
theorem rw_ifnullN (F : FX a X A cc own Ts nL ret rm) {off : Int} {tgt : Nat} (hdg : decode cc pc = .ok (.ifnull off, 3)) (ht : (pc : Int) + off = (tgt : Int)) (k : WS a X A nL Q tgt lv st f) : WS a X A nL Q pc lv (.null :: st) f :=
  fun H locs ls hP hD hS hl => lv_ifnullN F.1 F.2.1 hdg ht (k H locs ls hP hD hS hl)
theorem rw_ifnonnullN (F : FX a X A cc own Ts nL ret rm) {off : Int} (hdg : decode cc pc = .ok (.ifnonnull off, 3)) (k : WS a X A nL Q (pc + 3) lv st f) : WS a X A nL Q pc lv (.null :: st) f :=
  fun H locs ls hP hD hS hl => lv_ifnonnullN F.1 F.2.1 hdg (k H locs ls hP hD hS hl)
-- fields and arrays
theorem rw_get (F : FX a X A cc own Ts nL ret rm) {C : String} {T : u_T} {n ci index : Nat} {fs : List Value} {v : Value} (k0 : Nat) (hk : k0 < X.2.2.2.1) (he : X.2.2.2.2.2 k0 (f k0) = .inr (ci, fs)) (hin : ∀ w ∈ u_ws C T n, w ∈ Ts) (hc : X.2.1[ci]? = some (C, T, n)) (j : Nat) (hj : j < n) (hlink : Cond.fieldLink own index (T j).1 (T j).2.1 (T j).2.2.1 ∈ Ts) (hv : fs[j]? = some v) (hdg : decode cc pc = .ok (.getfield index, 3)) (k : WS a X A nL Q (pc + 3) lv (v :: st) f) : WS a X A nL Q pc lv (.ref (X.2.2.2.2.1 k0) :: st) f :=
  fun H locs ls hP hD hS hl => va_get (D := X.1) F.1 F.2.1 F.2.2.2.2.1 hin F.2.2.2.1 F.2.2.2.2.2.1 hP k0 ((wd_at hk).trans (by rw [he])) hc j hj (F.2.2.2.2.1 _ hlink) (fun _ h9 => h9) hv hdg (k H locs ls hP hD hS hl)
theorem rw_put (F : FX a X A cc own Ts nL ret rm) {C : String} {T : u_T} {n ci index : Nat} {fs : (Nat → Int32) → List Value} {v : Int32} (k0 : Nat) (hk : k0 < X.2.2.2.1) (hg : ∀ r, X.2.2.2.2.2 k0 r = .inr (ci, fs r)) (hin : ∀ w ∈ u_ws C T n, w ∈ Ts) (ty0 : Nat → FieldType) (hty : ∀ k, k < n → parseFieldDescriptor (T k).2.2.1 = some (ty0 k)) (hnm : ∀ a, a < n → ∀ b, b < n → a ≠ b → (T a).2.1 ≠ (T b).2.1) (hc : X.2.1[ci]? = some (C, T, n)) (j : Nat) (hj : j < n) (hlink : Cond.fieldLink own index (T j).1 (T j).2.1 (T j).2.2.1 ∈ Ts) (hfin : (T j).2.2.2 = false) (hn : narrow (ty0 j) (.int v) = .int v) (hfit : fits (ty0 j) (.int v) = true) (hl : ∀ r, j < (fs r).length) (hset : ∀ (r : Nat → Int32) (v : Int32), (fs r).set j (.int v) = fs (upd r j v)) (hdg : decode cc pc = .ok (.putfield index, 3)) (k : WS a X A nL Q (pc + 3) lv st (su f k0 j v)) : WS a X A nL Q pc lv (.int v :: .ref (X.2.2.2.2.1 k0) :: st) f :=
  fun H locs ls hP hD hS hl0 => va_put (D := X.1) (ty := ty0 j) F.1 F.2.1 F.2.2.2.2.1 hin ty0 hty hnm F.2.2.2.1 F.2.2.2.2.2.1 hP hD hS k0 ((wd_at hk).trans (by rw [hg])) hc j hj (F.2.2.2.2.1 _ hlink) (fun _ h9 => h9) hfin (hty j hj) hn hfit (hl _) hdg (fun H1 locs1 hP1 hD1 hS1 => by
    have e : (xW X f).set k0 (X.2.2.2.2.1 k0, .inr (ci, (fs (f k0)).set j (.int v))) = xW X (su f k0 j v) := wd_set hk (by rw [hg, hset])
    unfold xW at hP1 hD1 e
    rw [e] at hP1 hD1
    exact k H1 locs1 ls hP1 hD1 hS1 hl0)
theorem rw_iald (F : FX a X A cc own Ts nL ret rm) {cA : ClassId} {n : Nat} {fu : Nat → Int32} {i : Int32} (k0 : Nat) (hk : k0 < X.2.2.2.1) (he : X.2.2.2.2.2 k0 (f k0) = .inl (cA, n, .inl fu)) (t0 : Nat) (ht : X.2.2.1[t0]? = some (cA, .int)) (hin : vp_in i n) (hdg : decode cc pc = .ok (.iaload, 1)) (k : WS a X A nL Q (pc + 1) lv (.int (fu i.toNatClampNeg) :: st) f) : WS a X A nL Q pc lv (.int i :: .ref (X.2.2.2.2.1 k0) :: st) f :=
  fun H locs ls hP hD hS hl => va_iald (D := X.1) F.1 F.2.1 F.2.2.2.2.2.1 hP k0 t0 ((wd_at hk).trans (by rw [he])) ht hin hdg (k H locs ls hP hD hS hl)
theorem rw_zald (F : FX a X A cc own Ts nL ret rm) {cA : ClassId} {n : Nat} {fu : Nat → Int32} {i : Int32} (k0 : Nat) (hk : k0 < X.2.2.2.1) (he : X.2.2.2.2.2 k0 (f k0) = .inl (cA, n, .inl fu)) (t0 : Nat) (ht : X.2.2.1[t0]? = some (cA, .boolean)) (hin : vp_in i n) (hdg : decode cc pc = .ok (.baload, 1)) (k : WS a X A nL Q (pc + 1) lv (.int (fu i.toNatClampNeg) :: st) f) : WS a X A nL Q pc lv (.int i :: .ref (X.2.2.2.2.1 k0) :: st) f :=
  fun H locs ls hP hD hS hl => va_zald (D := X.1) F.1 F.2.1 F.2.2.2.2.2.1 hP k0 t0 ((wd_at hk).trans (by rw [he])) ht hin hdg (k H locs ls hP hD hS hl)
theorem rw_iast (F : FX a X A cc own Ts nL ret rm) {cA : ClassId} {n : Nat} {i x : Int32} (k0 : Nat) (hk : k0 < X.2.2.2.1) (hg : ∀ r, X.2.2.2.2.2 k0 r = .inl (cA, n, .inl r)) (t0 : Nat) (ht : X.2.2.1[t0]? = some (cA, .int)) (hin : vp_in i n) (hdg : decode cc pc = .ok (.iastore, 1)) (k : WS a X A nL Q (pc + 1) lv st (su f k0 i.toNatClampNeg x)) : WS a X A nL Q pc lv (.int x :: .int i :: .ref (X.2.2.2.2.1 k0) :: st) f :=
  fun H locs ls hP hD hS hl0 => va_iast (D := X.1) F.1 F.2.1 F.2.2.2.2.2.1 hP hD hS k0 t0 ((wd_at hk).trans (by rw [hg])) ht hin hdg (fun H1 locs1 hP1 hD1 hS1 => by
    have e : (xW X f).set k0 (X.2.2.2.2.1 k0, .inl (cA, n, .inl (upd (f k0) i.toNatClampNeg x))) = xW X (su f k0 i.toNatClampNeg x) := wd_set hk (by rw [hg])
    unfold xW at hP1 hD1 e
    rw [e] at hP1 hD1
    exact k H1 locs1 ls hP1 hD1 hS1 hl0)
theorem rw_zast (F : FX a X A cc own Ts nL ret rm) {cA : ClassId} {n : Nat} {i x : Int32} (k0 : Nat) (hk : k0 < X.2.2.2.1) (hg : ∀ r, X.2.2.2.2.2 k0 r = .inl (cA, n, .inl r)) (t0 : Nat) (ht : X.2.2.1[t0]? = some (cA, .boolean)) (hin : vp_in i n) (hx : vp_nar .boolean x = x) (hdg : decode cc pc = .ok (.bastore, 1)) (k : WS a X A nL Q (pc + 1) lv st (su f k0 i.toNatClampNeg x)) : WS a X A nL Q pc lv (.int x :: .int i :: .ref (X.2.2.2.2.1 k0) :: st) f :=
  fun H locs ls hP hD hS hl0 => va_zast (D := X.1) F.1 F.2.1 F.2.2.2.2.2.1 hP hD hS k0 t0 ((wd_at hk).trans (by rw [hg])) ht hin hdg (fun H1 locs1 hP1 hD1 hS1 => by
    have e : (xW X f).set k0 (X.2.2.2.2.1 k0, .inl (cA, n, .inl (upd (f k0) i.toNatClampNeg x))) = xW X (su f k0 i.toNatClampNeg x) := wd_set hk (by rw [hg])
    unfold xW at hP1 hD1 e
    rw [hx, e] at hP1 hD1
    exact k H1 locs1 ls hP1 hD1 hS1 hl0)
theorem rw_alen (F : FX a X A cc own Ts nL ret rm) {cA : ClassId} {u : vp_A} {ty : FieldType} {v : Int32} (k0 : Nat) (hk : k0 < X.2.2.2.1) (he : X.2.2.2.2.2 k0 (f k0) = .inl (cA, u)) (t0 : Nat) (ht : X.2.2.1[t0]? = some (cA, ty)) (hv : Int32.ofNat u.1 = v) (hdg : decode cc pc = .ok (.arraylength, 1)) (k : WS a X A nL Q (pc + 1) lv (.int v :: st) f) : WS a X A nL Q pc lv (.ref (X.2.2.2.2.1 k0) :: st) f :=
  fun H locs ls hP hD hS hl => va_alen (D := X.1) F.1 F.2.1 F.2.2.2.2.2.1 hP k0 t0 ((wd_at hk).trans (by rw [he])) ht hv hdg (k H locs ls hP hD hS hl)
-- Math
theorem rw_mmax (F : FX a X A cc own Ts nL ret rm) {index : Nat} {x y : Int32} (hl1 : Cond.methodLink own index Lib.Math.max.name ∈ Ts) (hst : Cond.static Lib.Math.max.name ∈ Ts) (hini : Cond.initialized "java/lang/Math" ∈ Ts) (hcode : Cond.code Lib.Math.max.name Lib.Math.max.code 2 (some .int) ∈ Ts) (hfr : 1 ≤ rm.frames) (hlo : (st.map fun v => v.category).sum + 13 ≤ rm.locals) (hdg : decode cc pc = .ok (.invokestatic index, 3)) (k : WS a X A nL Q (pc + 3) lv (.int (if x < y then y else x) :: st) f) : WS a X A nL Q pc lv (.int y :: .int x :: st) f :=
  fun H locs ls hP hD hS hl => va_mmax F.1 F.2.1 (F.2.2.1.trans hl.1.symm) F.2.2.2.1 (F.2.2.2.2.1 _ hl1) (F.2.2.2.2.1 _ hst) (F.2.2.2.2.1 _ hini) (F.2.2.2.2.1 _ hcode) (by rw [F.2.2.2.2.2.2.2.2.2.2]; exact hfr) (by rw [F.2.2.2.2.2.2.2.2.2.2]; exact hlo) (Nat.zero_le _) (Nat.zero_le _) hdg (k H locs ls hP hD hS hl)
theorem rw_mmin (F : FX a X A cc own Ts nL ret rm) {index : Nat} {x y : Int32} (hl1 : Cond.methodLink own index Lib.Math.min.name ∈ Ts) (hst : Cond.static Lib.Math.min.name ∈ Ts) (hini : Cond.initialized "java/lang/Math" ∈ Ts) (hcode : Cond.code Lib.Math.min.name Lib.Math.min.code 2 (some .int) ∈ Ts) (hfr : 1 ≤ rm.frames) (hlo : (st.map fun v => v.category).sum + 13 ≤ rm.locals) (hdg : decode cc pc = .ok (.invokestatic index, 3)) (k : WS a X A nL Q (pc + 3) lv (.int (if y < x then y else x) :: st) f) : WS a X A nL Q pc lv (.int y :: .int x :: st) f :=
  fun H locs ls hP hD hS hl => va_mmin F.1 F.2.1 (F.2.2.1.trans hl.1.symm) F.2.2.2.1 (F.2.2.2.2.1 _ hl1) (F.2.2.2.2.1 _ hst) (F.2.2.2.2.1 _ hini) (F.2.2.2.2.1 _ hcode) (by rw [F.2.2.2.2.2.2.2.2.2.2]; exact hfr) (by rw [F.2.2.2.2.2.2.2.2.2.2]; exact hlo) (Nat.zero_le _) (Nat.zero_le _) hdg (k H locs ls hP hD hS hl)
-- ends
theorem EndB.of (F : FX a X A cc own Ts nL ret rm) {H : Heap} (hP : va_P X.1 X.2.1 (xW X f) H) (hD : va_D A (xW X f)) (t : State) (ht : t.heap = H) (hW : (aS a).WarmedH t.vm) : EndB X A f t := ⟨by rw [ht]; exact hP, va_K.moved hW.alike F.2.2.2.2.2.1, hD⟩
theorem rw_iret (F : FX a X A cc own Ts nL ret rm) {x r : Int32} (hf : some x = some r) (hr : ret = some .int) (hdg : decode cc pc = .ok (.ireturn, 1)) : WS a X A nL (RP a X A (PI r f)) pc lv [.int x] f :=
  fun H locs ls hP hD hS hl => W.iret F.1 F.2.1 (F.2.2.2.2.2.2.2.2.2.1.trans hr) (fun t ht hW => ⟨⟨x, (), rfl, Option.some.inj hf, EndB.of F hP hD t ht hW⟩, hS.F ht⟩) hS.2.2 hdg F.2.2.2.2.2.2.2.2.1
theorem rw_iretS (F : FX a X A cc own Ts nL ret rm) {x : Int32} {R : Int32 × (Nat → Nat → Int32)} (hf : some (x, f) = some R) (hr : ret = some .int) (hdg : decode cc pc = .ok (.ireturn, 1)) : WS a X A nL (RP a X A (PI R.1 R.2)) pc lv [.int x] f := by
  cases hf
  exact rw_iret F rfl hr hdg
theorem rw_zretZ (F : FX a X A cc own Ts nL ret rm) {x r : Int32} (hz : x = 0 ∨ x = 1) (hf : some x = some r) (hr : ret = some .boolean) (hdg : decode cc pc = .ok (.ireturn, 1)) : WS a X A nL (RP a X A (PI r f)) pc lv [.int x] f :=
  fun H locs ls hP hD hS hl => W.zret F.1 F.2.1 (F.2.2.2.2.2.2.2.2.2.1.trans hr) (nar_z hz) (fun t ht hW => ⟨⟨x, (), rfl, Option.some.inj hf, EndB.of F hP hD t ht hW⟩, hS.F ht⟩) hS.2.2 hdg F.2.2.2.2.2.2.2.2.1
theorem rw_zret (F : FX a X A cc own Ts nL ret rm) {x r : Int32} (hf : zr x = some r) (hr : ret = some .boolean) (hdg : decode cc pc = .ok (.ireturn, 1)) : WS a X A nL (RP a X A (PI r f)) pc lv [.int x] f :=
  rw_zretZ F (zr_h hf).1 (congrArg some (zr_h hf).2) hr hdg
theorem rw_zretZS (F : FX a X A cc own Ts nL ret rm) {x : Int32} {R : Int32 × (Nat → Nat → Int32)} (hz : x = 0 ∨ x = 1) (hf : some (x, f) = some R) (hr : ret = some .boolean) (hdg : decode cc pc = .ok (.ireturn, 1)) : WS a X A nL (RP a X A (PI R.1 R.2)) pc lv [.int x] f := by
  cases hf
  exact rw_zretZ F hz rfl hr hdg
theorem rw_zretS (F : FX a X A cc own Ts nL ret rm) {x : Int32} {R : Int32 × (Nat → Nat → Int32)} (hf : zrs x f = some R) (hr : ret = some .boolean) (hdg : decode cc pc = .ok (.ireturn, 1)) : WS a X A nL (RP a X A (PI R.1 R.2)) pc lv [.int x] f := by
  unfold zrs at hf
  split at hf
  · exact rw_zretZS F (by assumption) hf hr hdg
  · cases hf
theorem rw_vret (F : FX a X A cc own Ts nL ret rm) {r : Nat → Nat → Int32} (hf : some f = some r) (hr : ret = none) (hdg : decode cc pc = .ok (.return_, 1)) : WS a X A nL (RP a X A (PV r)) pc lv [] f := by
  cases hf
  exact fun H locs ls hP hD hS hl => W.vret F.1 F.2.1 (F.2.2.2.2.2.2.2.2.2.1.trans hr) (fun t ht hW => ⟨⟨(), rfl, trivial, EndB.of F hP hD t ht hW⟩, hS.F ht⟩) hS.2.2 hdg F.2.2.2.2.2.2.2.2.1
theorem rw_aret (F : FX a X A cc own Ts nL ret rm) {v : Option Nat} {rt : FieldType} (hr : ret = some rt) (hrt : (∃ n, rt = .object n) ∨ ∃ t, rt = .array t) (hdg : decode cc pc = .ok (.areturn, 1)) : WS a X A nL (RP a X A (PQ v f)) pc lv [va_rf v] f :=
  fun H locs ls hP hD hS hl => W.aret F.1 F.2.1 (F.2.2.2.2.2.2.2.2.2.1.trans hr) hrt (va_rf_or v) (fun t ht hW => ⟨⟨v, (), rfl, rfl, EndB.of F hP hD t ht hW⟩, hS.F ht⟩) hS.2.2 hdg F.2.2.2.2.2.2.2.2.1
theorem rw_aload_nN (F : FX a X A cc own Ts nL ret rm) {k0 : Fin 4} {i : Nat} (hdg : decode cc pc = .ok (.aload_n k0, 1)) (hi : (k0 : Nat) = i) (q : Nat) (hq : lv[q]? = some (i, .null)) (k : WS a X A nL Q (pc + 1) lv (.null :: st) f) : WS a X A nL Q pc lv st f :=
  fun H locs ls hP hD hS hl => lv_aload_nN F.1 F.2.1 hdg hi (lv_at hl q hq) (k H locs ls hP hD hS hl)
theorem rw_astoreN_n (F : FX a X A cc own Ts nL ret rm) {k0 : Fin 4} {i : Nat} {lv' : List (Nat × Value)} (hdg : decode cc pc = .ok (.astore_n k0, 1)) (hi : (k0 : Nat) = i) (hn : i < nL) (hl' : (i, Value.null) :: lv.filter (fun q => !(q.1 == i) && !(q.1 + 1 == i && q.2.category == 2)) = lv') (k : WS a X A nL Q (pc + 1) lv' st f) : WS a X A nL Q pc lv (.null :: st) f :=
  fun H locs ls hP hD hS hl => lv_astore_nN F.1 F.2.1 hdg hi hl hn hl' (fun ls' h' => k H locs ls' hP hD hS h')
theorem rw_aaldq (F : FX a X A cc own Ts nL ret rm) {cA : ClassId} {C : String} {n : Nat} {fu : Nat → Option Nat} {i : Int32} (k0 : Nat) (hk : k0 < X.2.2.2.1) (he : X.2.2.2.2.2 k0 (f k0) = .inl (cA, n, .inr (.inr (.inr (.inr fu))))) (t0 : Nat) (ht : X.2.2.1[t0]? = some (cA, .object C)) (hin : vp_in i n) (hdg : decode cc pc = .ok (.aaload, 1)) (k : WS a X A nL Q (pc + 1) lv (va_rf (fu i.toNatClampNeg) :: st) f) : WS a X A nL Q pc lv (.int i :: .ref (X.2.2.2.2.1 k0) :: st) f :=
  fun H locs ls hP hD hS hl => va_aldq (D := X.1) F.1 F.2.1 F.2.2.2.2.2.1 hP k0 t0 ((wd_at hk).trans (by rw [he])) ht hin hdg (k H locs ls hP hD hS hl)
-- calls
theorem FX.free (F : FX a X A cc own Ts nL ret rm) {H : Heap} {locs : List Loc} (hS : va_S A (aS a).heap H locs) : ∀ q, AA X H.size q → A q := by
  intro q h
  refine (F.2.2.2.2.2.2.2.1 q).mpr ?_
  rcases h with h | h
  · exact Or.inl h
  · exact Or.inr (Nat.le_trans hS.1 h)
end RW
theorem PreB.blind {X : Wx} {sz : Nat} {av : List Value} {f : Nat → Nat → Int32} : FrameBlind (va_Pc av (PreB X sz f)) := by
  intro v U g mk h
  obtain ⟨h1, h2, h3, h4, h5⟩ := h
  exact ⟨h1, h2, h3, va_K.moved (u := U) (U := U.calling g mk v) (Vm.Alike.refl U.vm) h4, h5⟩
section RC
variable {a : Ax} {X : Wx} {A : Nat → Prop} {nL : Nat} {Q : State → Prop} {cc : ByteArray} {own : String} {Ts : List Cond} {ret : Option FieldType} {rm : Room} {pc : Nat} {lv : List (Nat × Value)} {st : List Value} {f : Nat → Nat → Int32}
variable {y : MethodName} {ws ws' : List Cond} {rm' : Room} {As st0 : List Value} {f' : Nat → Nat → Int32} {bytes : ByteArray} {maxL index ci n nA : Nat} {ret' : Option FieldType} {C : String} {T : u_T} {fs : List Value} {k0 : Nat} {post : Pst}
theorem pre_ok (F : FX a X A cc own Ts nL ret rm) {H : Heap} {U : State} (hP : va_P X.1 X.2.1 (xW X f) H) (hD : va_D A (xW X f)) (hU : U.heap = H) (hW : (aS a).WarmedH U.vm) : PreB X H.size f U := ⟨by rw [hU], by rw [hU]; exact hP, va_K.moved hW.alike F.2.2.2.2.2.1, hD.weaken (fun _ _ _ _ => trivial)⟩
theorem run_V (F : FX a X A cc own Ts nL ret rm) (hM : MS (aL a) X y ws rm' (.ref (X.2.2.2.2.1 k0) :: As) f post) (hT : GoodIn Ts (wsV own index C y ws)) (hw : ws = Cond.code y bytes maxL ret' :: ws') (hrm : rm'.cells = 0 ∧ rm'.slots = 0) (hd : y.cls = C ∧ y.cls ≠ "java/lang/invoke/MethodHandle" ∧ y.cls ≠ "java/lang/invoke/VarHandle" ∧ (parseMethodDescriptor y.desc).map (fun d => d.parameters.length) = some nA) (hR : rm'.frames + 1 ≤ rm.frames ∧ 8 + (maxL + 11) + rm'.locals ≤ rm.locals) (hk : k0 < X.2.2.2.1) (he : X.2.2.2.2.2 k0 (f k0) = .inr (ci, fs)) (hc : X.2.1[ci]? = some (C, T, n)) (hn : As.length = nA) (hst : st0 = As.reverse ++ .ref (X.2.2.2.2.1 k0) :: st) (hro : (st.map fun v => v.category).sum ≤ 8) (hdg : decode cc pc = .ok (.invokevirtual index, 3))
    {H : Heap} {locs : List Loc} {ls : Array Slot} (hP : va_P X.1 X.2.1 (xW X f) H) (hD : va_D A (xW X f)) (hS : va_S A (aS a).heap H locs) (hl : lv_has ls nL lv) :
    va_Run (aP a) (aL a) (aE a) (aR a) (aS a) (aM a) (aA a) (aB a) (aT a) (aC a) H locs 0 0 0 0 (F0 (aM a) pc ls st0) st (post X (AA X H.size) (Value.ref (X.2.2.2.2.1 k0) :: As).toArray) (AA X H.size) :=
  va_runV (C := C) (As := As) (rest := st) ⟨F.1, F.2.1, F.2.2.1, F.2.2.2.1, F.2.2.2.2.1⟩ (hM H.size) (cwV nA F.2.2.2.2.1 hT hw hrm.1 hrm.2 hd (by rw [F.2.2.2.2.2.2.2.2.2.2]; exact hR)) ⟨PreB.blind, va_recv F.2.2.2.2.2.1 hP hc ((wd_at hk).trans (by rw [he])), fun U hU hW => ⟨rfl, pre_ok F hP hD hU hW⟩⟩ rfl hn hl.1 hst (lv_room hro) hdg ⟨Nat.zero_le _, Nat.zero_le _⟩
theorem run_S (F : FX a X A cc own Ts nL ret rm) (hM : MS (aL a) X y ws rm' As f post) (hT : GoodIn Ts (va_wsS own index y ws)) (hw : ws = Cond.code y bytes maxL ret' :: ws') (hrm : rm'.cells = 0 ∧ rm'.slots = 0) (hd : y.cls ≠ "java/lang/invoke/MethodHandle" ∧ y.cls ≠ "java/lang/invoke/VarHandle" ∧ (parseMethodDescriptor y.desc).map (fun d => d.parameters.length) = some nA) (hR : rm'.frames + 1 ≤ rm.frames ∧ 8 + (maxL + 11) + rm'.locals ≤ rm.locals) (hn : As.length = nA) (hst : st0 = As.reverse ++ st) (hro : (st.map fun v => v.category).sum ≤ 8) (hdg : decode cc pc = .ok (.invokestatic index, 3))
    {H : Heap} {locs : List Loc} {ls : Array Slot} (hP : va_P X.1 X.2.1 (xW X f) H) (hD : va_D A (xW X f)) (hS : va_S A (aS a).heap H locs) (hl : lv_has ls nL lv) :
    va_Run (aP a) (aL a) (aE a) (aR a) (aS a) (aM a) (aA a) (aB a) (aT a) (aC a) H locs 0 0 0 0 (F0 (aM a) pc ls st0) st (post X (AA X H.size) As.toArray) (AA X H.size) :=
  va_runS (As := As) (rest := st) ⟨F.1, F.2.1, F.2.2.1, F.2.2.2.1, F.2.2.2.2.1⟩ (hM H.size) (va_cwS nA F.2.2.2.2.1 hT hw hrm.1 hrm.2 hd (by rw [F.2.2.2.2.2.2.2.2.2.2]; exact hR)) ⟨PreB.blind, fun U hU hW => ⟨rfl, pre_ok F hP hD hU hW⟩⟩ rfl hn hl.1 hst (lv_room hro) hdg ⟨Nat.zero_le _, Nat.zero_le _⟩
theorem back_D {A' : Nat → Prop} {sz : Nat} (F : FX a X A cc own Ts nL ret rm) {H : Heap} {locs : List Loc} (hS : va_S A (aS a).heap H locs) (h : va_D (AA X H.size) (xW X f')) : va_D A (xW X f') := h.weaken (fun _ q _ hq => FX.free F hS q.1 hq)
theorem rw_callVI {r : Int32} (F : FX a X A cc own Ts nL ret rm) (hM : MS (aL a) X y ws rm' (.ref (X.2.2.2.2.1 k0) :: As) f (PI r f')) (hT : GoodIn Ts (wsV own index C y ws)) (hw : ws = Cond.code y bytes maxL ret' :: ws') (hrm : rm'.cells = 0 ∧ rm'.slots = 0) (hd : y.cls = C ∧ y.cls ≠ "java/lang/invoke/MethodHandle" ∧ y.cls ≠ "java/lang/invoke/VarHandle" ∧ (parseMethodDescriptor y.desc).map (fun d => d.parameters.length) = some nA) (hR : rm'.frames + 1 ≤ rm.frames ∧ 8 + (maxL + 11) + rm'.locals ≤ rm.locals) (hk : k0 < X.2.2.2.1) (he : X.2.2.2.2.2 k0 (f k0) = .inr (ci, fs)) (hc : X.2.1[ci]? = some (C, T, n)) (hn : As.length = nA) (hst : st0 = As.reverse ++ .ref (X.2.2.2.2.1 k0) :: st) (hro : (st.map fun v => v.category).sum ≤ 8) (hdg : decode cc pc = .ok (.invokevirtual index, 3)) (k : WS a X A nL Q (pc + 3) lv (.int r :: st) f') : WS a X A nL Q pc lv st0 f :=
  fun H locs ls hP hD hS hl => va_calli (run_V F hM hT hw hrm hd hR hk he hc hn hst hro hdg hP hD hS hl) hS (fun q _ h => FX.free F hS q h) (FX.free F hS) (fun r1 u t H1 locs1 ht hvm hw1 hB hz1 hk1 hS1 => by
    obtain ⟨hP1, -, hD1⟩ := hB
    rw [ht] at hP1
    subst hw1
    exact k H1 locs1 ls hP1 (back_D (A' := A) (sz := 0) F hS hD1) hS1 hl)
theorem rw_callSI {r : Int32} (F : FX a X A cc own Ts nL ret rm) (hM : MS (aL a) X y ws rm' As f (PI r f')) (hT : GoodIn Ts (va_wsS own index y ws)) (hw : ws = Cond.code y bytes maxL ret' :: ws') (hrm : rm'.cells = 0 ∧ rm'.slots = 0) (hd : y.cls ≠ "java/lang/invoke/MethodHandle" ∧ y.cls ≠ "java/lang/invoke/VarHandle" ∧ (parseMethodDescriptor y.desc).map (fun d => d.parameters.length) = some nA) (hR : rm'.frames + 1 ≤ rm.frames ∧ 8 + (maxL + 11) + rm'.locals ≤ rm.locals) (hn : As.length = nA) (hst : st0 = As.reverse ++ st) (hro : (st.map fun v => v.category).sum ≤ 8) (hdg : decode cc pc = .ok (.invokestatic index, 3)) (k : WS a X A nL Q (pc + 3) lv (.int r :: st) f') : WS a X A nL Q pc lv st0 f :=
  fun H locs ls hP hD hS hl => va_calli (run_S F hM hT hw hrm hd hR hn hst hro hdg hP hD hS hl) hS (fun q _ h => FX.free F hS q h) (FX.free F hS) (fun r1 u t H1 locs1 ht hvm hw1 hB hz1 hk1 hS1 => by
    obtain ⟨hP1, -, hD1⟩ := hB
    rw [ht] at hP1
    subst hw1
    exact k H1 locs1 ls hP1 (back_D (A' := A) (sz := 0) F hS hD1) hS1 hl)
theorem rw_callVV (F : FX a X A cc own Ts nL ret rm) (hM : MS (aL a) X y ws rm' (.ref (X.2.2.2.2.1 k0) :: As) f (PV f')) (hT : GoodIn Ts (wsV own index C y ws)) (hw : ws = Cond.code y bytes maxL ret' :: ws') (hrm : rm'.cells = 0 ∧ rm'.slots = 0) (hd : y.cls = C ∧ y.cls ≠ "java/lang/invoke/MethodHandle" ∧ y.cls ≠ "java/lang/invoke/VarHandle" ∧ (parseMethodDescriptor y.desc).map (fun d => d.parameters.length) = some nA) (hR : rm'.frames + 1 ≤ rm.frames ∧ 8 + (maxL + 11) + rm'.locals ≤ rm.locals) (hk : k0 < X.2.2.2.1) (he : X.2.2.2.2.2 k0 (f k0) = .inr (ci, fs)) (hc : X.2.1[ci]? = some (C, T, n)) (hn : As.length = nA) (hst : st0 = As.reverse ++ .ref (X.2.2.2.2.1 k0) :: st) (hro : (st.map fun v => v.category).sum ≤ 8) (hdg : decode cc pc = .ok (.invokevirtual index, 3)) (k : WS a X A nL Q (pc + 3) lv (st) f') : WS a X A nL Q pc lv st0 f :=
  fun H locs ls hP hD hS hl => va_callv (run_V F hM hT hw hrm hd hR hk he hc hn hst hro hdg hP hD hS hl) hS (fun q _ h => FX.free F hS q h) (FX.free F hS) (fun u t H1 locs1 ht hvm hw1 hB hz1 hk1 hS1 => by
    obtain ⟨hP1, -, hD1⟩ := hB
    rw [ht] at hP1
    exact k H1 locs1 ls hP1 (back_D (A' := A) (sz := 0) F hS hD1) hS1 hl)
theorem rw_callSV (F : FX a X A cc own Ts nL ret rm) (hM : MS (aL a) X y ws rm' As f (PV f')) (hT : GoodIn Ts (va_wsS own index y ws)) (hw : ws = Cond.code y bytes maxL ret' :: ws') (hrm : rm'.cells = 0 ∧ rm'.slots = 0) (hd : y.cls ≠ "java/lang/invoke/MethodHandle" ∧ y.cls ≠ "java/lang/invoke/VarHandle" ∧ (parseMethodDescriptor y.desc).map (fun d => d.parameters.length) = some nA) (hR : rm'.frames + 1 ≤ rm.frames ∧ 8 + (maxL + 11) + rm'.locals ≤ rm.locals) (hn : As.length = nA) (hst : st0 = As.reverse ++ st) (hro : (st.map fun v => v.category).sum ≤ 8) (hdg : decode cc pc = .ok (.invokestatic index, 3)) (k : WS a X A nL Q (pc + 3) lv (st) f') : WS a X A nL Q pc lv st0 f :=
  fun H locs ls hP hD hS hl => va_callv (run_S F hM hT hw hrm hd hR hn hst hro hdg hP hD hS hl) hS (fun q _ h => FX.free F hS q h) (FX.free F hS) (fun u t H1 locs1 ht hvm hw1 hB hz1 hk1 hS1 => by
    obtain ⟨hP1, -, hD1⟩ := hB
    rw [ht] at hP1
    exact k H1 locs1 ls hP1 (back_D (A' := A) (sz := 0) F hS hD1) hS1 hl)
theorem rw_callVQ {r : Option Nat} (F : FX a X A cc own Ts nL ret rm) (hM : MS (aL a) X y ws rm' (.ref (X.2.2.2.2.1 k0) :: As) f (PQ r f')) (hT : GoodIn Ts (wsV own index C y ws)) (hw : ws = Cond.code y bytes maxL ret' :: ws') (hrm : rm'.cells = 0 ∧ rm'.slots = 0) (hd : y.cls = C ∧ y.cls ≠ "java/lang/invoke/MethodHandle" ∧ y.cls ≠ "java/lang/invoke/VarHandle" ∧ (parseMethodDescriptor y.desc).map (fun d => d.parameters.length) = some nA) (hR : rm'.frames + 1 ≤ rm.frames ∧ 8 + (maxL + 11) + rm'.locals ≤ rm.locals) (hk : k0 < X.2.2.2.1) (he : X.2.2.2.2.2 k0 (f k0) = .inr (ci, fs)) (hc : X.2.1[ci]? = some (C, T, n)) (hn : As.length = nA) (hst : st0 = As.reverse ++ .ref (X.2.2.2.2.1 k0) :: st) (hro : (st.map fun v => v.category).sum ≤ 8) (hdg : decode cc pc = .ok (.invokevirtual index, 3)) (k : WS a X A nL Q (pc + 3) lv (va_rf r :: st) f') : WS a X A nL Q pc lv st0 f :=
  fun H locs ls hP hD hS hl => va_callq (run_V F hM hT hw hrm hd hR hk he hc hn hst hro hdg hP hD hS hl) hS (fun q _ h => FX.free F hS q h) (FX.free F hS) (fun r1 u t H1 locs1 ht hvm hw1 hB hz1 hk1 hS1 => by
    obtain ⟨hP1, -, hD1⟩ := hB
    rw [ht] at hP1
    subst hw1
    exact k H1 locs1 ls hP1 (back_D (A' := A) (sz := 0) F hS hD1) hS1 hl)
theorem rw_callVQs {r : Nat} (F : FX a X A cc own Ts nL ret rm) (hM : MS (aL a) X y ws rm' (.ref (X.2.2.2.2.1 k0) :: As) f (PQ (some r) f')) (hT : GoodIn Ts (wsV own index C y ws)) (hw : ws = Cond.code y bytes maxL ret' :: ws') (hrm : rm'.cells = 0 ∧ rm'.slots = 0) (hd : y.cls = C ∧ y.cls ≠ "java/lang/invoke/MethodHandle" ∧ y.cls ≠ "java/lang/invoke/VarHandle" ∧ (parseMethodDescriptor y.desc).map (fun d => d.parameters.length) = some nA) (hR : rm'.frames + 1 ≤ rm.frames ∧ 8 + (maxL + 11) + rm'.locals ≤ rm.locals) (hk : k0 < X.2.2.2.1) (he : X.2.2.2.2.2 k0 (f k0) = .inr (ci, fs)) (hc : X.2.1[ci]? = some (C, T, n)) (hn : As.length = nA) (hst : st0 = As.reverse ++ .ref (X.2.2.2.2.1 k0) :: st) (hro : (st.map fun v => v.category).sum ≤ 8) (hdg : decode cc pc = .ok (.invokevirtual index, 3)) (k : WS a X A nL Q (pc + 3) lv (.ref r :: st) f') : WS a X A nL Q pc lv st0 f := rw_callVQ F hM hT hw hrm hd hR hk he hc hn hst hro hdg k
theorem rw_callVQn (F : FX a X A cc own Ts nL ret rm) (hM : MS (aL a) X y ws rm' (.ref (X.2.2.2.2.1 k0) :: As) f (PQ (none) f')) (hT : GoodIn Ts (wsV own index C y ws)) (hw : ws = Cond.code y bytes maxL ret' :: ws') (hrm : rm'.cells = 0 ∧ rm'.slots = 0) (hd : y.cls = C ∧ y.cls ≠ "java/lang/invoke/MethodHandle" ∧ y.cls ≠ "java/lang/invoke/VarHandle" ∧ (parseMethodDescriptor y.desc).map (fun d => d.parameters.length) = some nA) (hR : rm'.frames + 1 ≤ rm.frames ∧ 8 + (maxL + 11) + rm'.locals ≤ rm.locals) (hk : k0 < X.2.2.2.1) (he : X.2.2.2.2.2 k0 (f k0) = .inr (ci, fs)) (hc : X.2.1[ci]? = some (C, T, n)) (hn : As.length = nA) (hst : st0 = As.reverse ++ .ref (X.2.2.2.2.1 k0) :: st) (hro : (st.map fun v => v.category).sum ≤ 8) (hdg : decode cc pc = .ok (.invokevirtual index, 3)) (k : WS a X A nL Q (pc + 3) lv (.null :: st) f') : WS a X A nL Q pc lv st0 f := rw_callVQ F hM hT hw hrm hd hR hk he hc hn hst hro hdg k
end RC
