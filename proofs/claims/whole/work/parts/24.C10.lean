abbrev rm_X10_alikePair_30 : Room := { frames := 5, cells := 0, slots := 0, locals := 120 }
abbrev FX_X10_alikePair_30 (a : Ax) (Z : Zx) (A : Nat → Prop) : Prop := FX a (XC Z) A cX10_alikePair RX10 wsX10_alikePair 6 (some .int) rm_X10_alikePair_30
theorem iw_X10_alikePair_X10 : ∀ w ∈ wsX100, w ∈ wsX10_alikePair := by decide +kernel
theorem iw_X10_alikePair_X5 : ∀ w ∈ wsX50, w ∈ wsX10_alikePair := by decide +kernel
theorem lk_X10_alikePair_15 : Cond.fieldLink RX10 15 (TX10 0).1 (TX10 0).2.1 (TX10 0).2.2.1 ∈ wsX10_alikePair := by decide +kernel
theorem lk_X10_alikePair_65 : Cond.fieldLink RX10 65 (TX5 2).1 (TX5 2).2.1 (TX5 2).2.2.1 ∈ wsX10_alikePair := by decide +kernel
set_option maxHeartbeats 4000000 in
set_option maxRecDepth 100000 in
theorem b_X10_alikePair_30_b67 {a : Ax} {Z : Zx} {A : Nat → Prop} {r : Int32} {f : Nat → Nat → Int32} (F : FX_X10_alikePair_30 a Z A) (K5 : Int32 → Int32 → Int32 → Int32 → Option Int32) (hK5 : ∀ (i1 : Int32) (i2 : Int32) (i3 : Int32) (i4 : Int32), K5 i1 i2 i3 i4 = some r → WS a (XC Z) A 6 (RP a (XC Z) A (PI r f)) 5 [(0, .ref (Z.2.1 30)), (1, .int i1), (2, .int i2), (3, .int i3), (4, .int i4)] [] f) (K23 : Int32 → Int32 → Int32 → Int32 → Int32 → Option Int32) (hK23 : ∀ (i1 : Int32) (i2 : Int32) (i3 : Int32) (i4 : Int32) (i5 : Int32), K23 i1 i2 i3 i4 i5 = some r → WS a (XC Z) A 6 (RP a (XC Z) A (PI r f)) 23 [(0, .ref (Z.2.1 30)), (1, .int i1), (2, .int i2), (3, .int i3), (4, .int i4), (5, .int i5)] [] f) : ∀ (i1 : Int32) (i2 : Int32) (i3 : Int32) (i4 : Int32) (i5 : Int32), f_X10_alikePair_30_b67 K5 K23 i1 i2 i3 i4 i5 f = some r → WS a (XC Z) A 6 (RP a (XC Z) A (PI r f)) 67 [(0, .ref (Z.2.1 30)), (1, .int i1), (2, .int i2), (3, .int i3), (4, .int i4), (5, .int i5)] [] f := by
  intro i1 i2 i3 i4 i5 hf
  unfold f_X10_alikePair_30_b67 at hf
  refine rw_iinc F (v := 1) dX10_alikePair_67 5 rfl (by decide) (by decide) rfl ?_
  refine rw_goto F (tgt := 23) dX10_alikePair_70 (by decide) ?_
  exact WS.sub [1, 2, 3, 4, 5, 0] rfl (hK23 _ _ _ _ _ hf)

set_option maxHeartbeats 4000000 in
set_option maxRecDepth 100000 in
theorem b_X10_alikePair_30_b23 {a : Ax} {Z : Zx} {A : Nat → Prop} {r : Int32} {f : Nat → Nat → Int32} (F : FX_X10_alikePair_30 a Z A) (K5 : Int32 → Int32 → Int32 → Int32 → Option Int32) (hK5 : ∀ (i1 : Int32) (i2 : Int32) (i3 : Int32) (i4 : Int32), K5 i1 i2 i3 i4 = some r → WS a (XC Z) A 6 (RP a (XC Z) A (PI r f)) 5 [(0, .ref (Z.2.1 30)), (1, .int i1), (2, .int i2), (3, .int i3), (4, .int i4)] [] f) : ∀ (n : Nat) (i1 : Int32) (i2 : Int32) (i3 : Int32) (i4 : Int32) (i5 : Int32), f_X10_alikePair_30_b23 K5 n i1 i2 i3 i4 i5 f = some r → WS a (XC Z) A 6 (RP a (XC Z) A (PI r f)) 23 [(0, .ref (Z.2.1 30)), (1, .int i1), (2, .int i2), (3, .int i3), (4, .int i4), (5, .int i5)] [] f := by
  intro n
  induction n with
  | zero => intro i1 i2 i3 i4 i5 hf; exact nomatch (show (none : Option Int32) = some r from hf)
  | succ n hK23 =>
    intro i1 i2 i3 i4 i5 hf
    replace hf : f_X10_alikePair_30_b23s (fun i1 i2 i3 i4 i5 => f_X10_alikePair_30_b23 K5 n i1 i2 i3 i4 i5 f) K5 i1 i2 i3 i4 i5 f = some r := hf
    unfold f_X10_alikePair_30_b23s at hf
    refine rw_iload F dX10_alikePair_23 5 rfl ?_
    refine rw_aload_n F dX10_alikePair_25 rfl 0 rfl ?_
    refine rw_get F 30 (show 30 < 39 by decide) (gC_30 Z _) iw_X10_alikePair_X10 rfl 0 (by decide) lk_X10_alikePair_15 rfl dX10_alikePair_26 ?_
    refine rw_get F 3 (show 3 < 39 by decide) (gC_3 Z _) iw_X10_alikePair_X5 rfl 2 (by decide) lk_X10_alikePair_65 rfl dX10_alikePair_29 ?_
    refine rw_icmp_ge F (tgt := 73) hf dX10_alikePair_32 (by decide) (fun hc6 hf => ?_) (fun hc6 hf => ?_)
    · refine rw_iinc F (v := 1) dX10_alikePair_73 4 rfl (by decide) (by decide) rfl ?_
      refine rw_goto F (tgt := 5) dX10_alikePair_76 (by decide) ?_
      exact WS.sub [1, 2, 3, 4, 0] rfl (hK5 _ _ _ _ hf)
    · refine rw_aload_n F dX10_alikePair_35 rfl 0 rfl ?_
      refine rw_iload F dX10_alikePair_36 4 rfl ?_
      refine rw_iload F dX10_alikePair_38 5 rfl ?_
      refine rw_iload_n F dX10_alikePair_40 rfl 1 rfl ?_
      obtain ⟨q3, hq2, hf⟩ := bind_h hf
      refine rw_callVI F (k0 := 30) (nA := 3) (c_X10_areAlike_30 (aL a) Z _ _ _ _ _ hq2) gX10_alikePair_X10_areAlike rfl ⟨rfl, rfl⟩ (by decide +kernel) ⟨Nat.le_of_ble_eq_true rfl, Nat.le_of_ble_eq_true rfl⟩ (show 30 < 39 by decide) (gC_30 Z _) rfl rfl rfl (Nat.le_of_ble_eq_true rfl) dX10_alikePair_41 ?_
      refine rw_if_ne F (tgt := 50) hf dX10_alikePair_44 (by decide) (fun hc5 hf => ?_) (fun hc5 hf => ?_)
      · refine rw_iload_n F dX10_alikePair_50 rfl 3 rfl ?_
        refine rw_iload_n F dX10_alikePair_51 rfl 2 rfl ?_
        refine rw_icmp_ne F (tgt := 64) hf dX10_alikePair_52 (by decide) (fun hc4 hf => ?_) (fun hc4 hf => ?_)
        · refine rw_iinc F (v := 1) dX10_alikePair_64 3 rfl (by decide) (by decide) rfl ?_
          exact WS.sub [1, 2, 3, 0, 4, 5] rfl (b_X10_alikePair_30_b67 F _ hK5 _ hK23 _ _ _ _ _ hf)
        · refine rw_bipush F (v := 10) dX10_alikePair_55 (by decide) ?_
          refine rw_iload F dX10_alikePair_57 4 rfl ?_
          refine rw_imul F dX10_alikePair_59 ?_
          refine rw_iload F dX10_alikePair_60 5 rfl ?_
          refine rw_iadd F dX10_alikePair_62 ?_
          exact rw_iret F hf rfl dX10_alikePair_63
      · refine rw_goto F (tgt := 67) dX10_alikePair_47 (by decide) ?_
        exact WS.sub [0, 1, 2, 3, 4, 5] rfl (b_X10_alikePair_30_b67 F _ hK5 _ hK23 _ _ _ _ _ hf)

set_option maxHeartbeats 4000000 in
set_option maxRecDepth 100000 in
theorem b_X10_alikePair_30_b5 {a : Ax} {Z : Zx} {A : Nat → Prop} {r : Int32} {f : Nat → Nat → Int32} (F : FX_X10_alikePair_30 a Z A) : ∀ (n : Nat) (i1 : Int32) (i2 : Int32) (i3 : Int32) (i4 : Int32), f_X10_alikePair_30_b5 n i1 i2 i3 i4 f = some r → WS a (XC Z) A 6 (RP a (XC Z) A (PI r f)) 5 [(0, .ref (Z.2.1 30)), (1, .int i1), (2, .int i2), (3, .int i3), (4, .int i4)] [] f := by
  intro n
  induction n with
  | zero => intro i1 i2 i3 i4 hf; exact nomatch (show (none : Option Int32) = some r from hf)
  | succ n hK5 =>
    intro i1 i2 i3 i4 hf
    replace hf : f_X10_alikePair_30_b5s (fun i1 i2 i3 i4 => f_X10_alikePair_30_b5 n i1 i2 i3 i4 f) i1 i2 i3 i4 f = some r := hf
    unfold f_X10_alikePair_30_b5s at hf
    refine rw_iload F dX10_alikePair_5 4 rfl ?_
    refine rw_aload_n F dX10_alikePair_7 rfl 0 rfl ?_
    refine rw_get F 30 (show 30 < 39 by decide) (gC_30 Z _) iw_X10_alikePair_X10 rfl 0 (by decide) lk_X10_alikePair_15 rfl dX10_alikePair_8 ?_
    refine rw_get F 3 (show 3 < 39 by decide) (gC_3 Z _) iw_X10_alikePair_X5 rfl 2 (by decide) lk_X10_alikePair_65 rfl dX10_alikePair_11 ?_
    refine rw_icmp_ge F (tgt := 79) hf dX10_alikePair_14 (by decide) (fun hc7 hf => ?_) (fun hc7 hf => ?_)
    · refine rw_iload_n F dX10_alikePair_79 rfl 2 rfl ?_
      refine rw_iconst F (v := -1) dX10_alikePair_80 (by decide) ?_
      refine rw_icmp_ne F (tgt := 88) hf dX10_alikePair_81 (by decide) (fun hc1 hf => ?_) (fun hc1 hf => ?_)
      · refine rw_iconst F (v := -1) dX10_alikePair_88 (by decide) ?_
        exact rw_iret F hf rfl dX10_alikePair_89
      · refine rw_iload_n F dX10_alikePair_84 rfl 3 rfl ?_
        refine rw_goto F (tgt := 89) dX10_alikePair_85 (by decide) ?_
        exact rw_iret F hf rfl dX10_alikePair_89
    · refine rw_iload F dX10_alikePair_17 4 rfl ?_
      refine rw_iconst F (v := 1) dX10_alikePair_19 (by decide) ?_
      refine rw_iadd F dX10_alikePair_20 ?_
      refine rw_istore F dX10_alikePair_21 (by decide) rfl ?_
      exact WS.sub [1, 2, 3, 4, 5, 0] rfl (b_X10_alikePair_30_b23 F _ hK5 fuB _ _ _ _ _ hf)

set_option maxHeartbeats 4000000 in
set_option maxRecDepth 100000 in
theorem c_X10_alikePair_30 (l : Launch) (Z : Zx) (p1 : Int32) (p2 : Int32) (f : Nat → Nat → Int32) (r : Int32) (hf : f_X10_alikePair_30 p1 p2 f = some r) : MS l (XC Z) yX10_alikePair wsX10_alikePair rm_X10_alikePair_30 [.ref (Z.2.1 30), .int p1, .int p2] f (PI r f) := by
  refine MS.of (cc := cX10_alikePair) (maxL := 6) (ret := (some .int)) (own := RX10) (lv := [(0, .ref (Z.2.1 30)), (1, .int p1), (2, .int p2)]) (by decide) rfl rfl (Nat.le_of_ble_eq_true rfl) rfl ?_
  intro a A hla F
  subst hla
  unfold f_X10_alikePair_30 at hf
  refine rw_iconst F (v := 0) dX10_alikePair_0 (by decide) ?_
  refine rw_istore_n F dX10_alikePair_1 rfl (by decide) rfl ?_
  refine rw_iconst F (v := 0) dX10_alikePair_2 (by decide) ?_
  refine rw_istore F dX10_alikePair_3 (by decide) rfl ?_
  exact WS.sub [2, 3, 4, 1, 0] rfl (b_X10_alikePair_30_b5 F  fuB _ _ _ _ hf)

abbrev rm_X11_alike : Room := { frames := 6, cells := 0, slots := 0, locals := 145 }
abbrev FX_X11_alike (a : Ax) (Z : Zx) (A : Nat → Prop) : Prop := FX a (XC Z) A cX11_alike RX11 wsX11_alike 3 (some .int) rm_X11_alike
theorem iw_X11_alike_X11 : ∀ w ∈ wsX110, w ∈ wsX11_alike := by decide +kernel
theorem lk_X11_alike_19 : Cond.fieldLink RX11 19 (TX11 1).1 (TX11 1).2.1 (TX11 1).2.2.1 ∈ wsX11_alike := by decide +kernel
theorem lk_X11_alike_66 : Cond.fieldLink RX11 66 (TX11 8).1 (TX11 8).2.1 (TX11 8).2.2.1 ∈ wsX11_alike := by decide +kernel
set_option maxHeartbeats 4000000 in
set_option maxRecDepth 100000 in
theorem c_X11_alike (l : Launch) (Z : Zx) (p1 : Int32) (p2 : Int32) (f : Nat → Nat → Int32) (r : Int32) (hf : f_X11_alike p1 p2 f = some r) : MS l (XC Z) yX11_alike wsX11_alike rm_X11_alike [.ref (Z.2.1 0), .int p1, .int p2] f (PI r f) := by
  refine MS.of (cc := cX11_alike) (maxL := 3) (ret := (some .int)) (own := RX11) (lv := [(0, .ref (Z.2.1 0)), (1, .int p1), (2, .int p2)]) (by decide) rfl rfl (Nat.le_of_ble_eq_true rfl) rfl ?_
  intro a A hla F
  subst hla
  unfold f_X11_alike at hf
  refine rw_aload_n F dX11_alike_0 rfl 0 rfl ?_
  refine rw_get F 0 (show 0 < 39 by decide) (gC_0 Z _) iw_X11_alike_X11 rfl 1 (by decide) lk_X11_alike_19 rfl dX11_alike_1 ?_
  refine rw_iload_n F dX11_alike_4 rfl 1 rfl ?_
  obtain ⟨q2, hq1, hf⟩ := bind_h hf
  refine rw_callVI F (k0 := 3) (nA := 1) (c_X5_isPlace_3 (aL a) Z _ _ _ hq1) gX11_alike_X5_isPlace rfl ⟨rfl, rfl⟩ (by decide +kernel) ⟨Nat.le_of_ble_eq_true rfl, Nat.le_of_ble_eq_true rfl⟩ (show 3 < 39 by decide) (gC_3 Z _) rfl rfl rfl (Nat.le_of_ble_eq_true rfl) dX11_alike_5 ?_
  refine rw_if_eq F (tgt := 23) hf dX11_alike_8 (by decide) (fun hc5 hf => ?_) (fun hc5 hf => ?_)
  · refine rw_ldc F (v := -1000000001) dX11_alike_23 (by decide +kernel) ?_
    exact rw_iret F hf rfl dX11_alike_25
  · refine rw_aload_n F dX11_alike_11 rfl 0 rfl ?_
    refine rw_get F 0 (show 0 < 39 by decide) (gC_0 Z _) iw_X11_alike_X11 rfl 8 (by decide) lk_X11_alike_66 rfl dX11_alike_12 ?_
    refine rw_iload_n F dX11_alike_15 rfl 1 rfl ?_
    refine rw_iload_n F dX11_alike_16 rfl 2 rfl ?_
    obtain ⟨q4, hq3, hf⟩ := bind_h hf
    refine rw_callVI F (k0 := 30) (nA := 2) (c_X10_alikePair_30 (aL a) Z _ _ _ _ hq3) gX11_alike_X10_alikePair rfl ⟨rfl, rfl⟩ (by decide +kernel) ⟨Nat.le_of_ble_eq_true rfl, Nat.le_of_ble_eq_true rfl⟩ (show 30 < 39 by decide) (gC_30 Z _) rfl rfl rfl (Nat.le_of_ble_eq_true rfl) dX11_alike_17 ?_
    refine rw_goto F (tgt := 25) dX11_alike_20 (by decide) ?_
    exact rw_iret F hf rfl dX11_alike_25

abbrev rm_X10_hidingThickness_30 : Room := { frames := 3, cells := 0, slots := 0, locals := 71 }
abbrev FX_X10_hidingThickness_30 (a : Ax) (Z : Zx) (A : Nat → Prop) : Prop := FX a (XC Z) A cX10_hidingThickness RX10 wsX10_hidingThickness 9 (some .int) rm_X10_hidingThickness_30
theorem iw_X10_hidingThickness_X10 : ∀ w ∈ wsX100, w ∈ wsX10_hidingThickness := by decide +kernel
theorem iw_X10_hidingThickness_X5 : ∀ w ∈ wsX50, w ∈ wsX10_hidingThickness := by decide +kernel
theorem lk_X10_hidingThickness_15 : Cond.fieldLink RX10 15 (TX10 0).1 (TX10 0).2.1 (TX10 0).2.2.1 ∈ wsX10_hidingThickness := by decide +kernel
theorem lk_X10_hidingThickness_19 : Cond.fieldLink RX10 19 (TX10 1).1 (TX10 1).2.1 (TX10 1).2.2.1 ∈ wsX10_hidingThickness := by decide +kernel
theorem lk_X10_hidingThickness_23 : Cond.fieldLink RX10 23 (TX10 2).1 (TX10 2).2.1 (TX10 2).2.2.1 ∈ wsX10_hidingThickness := by decide +kernel
theorem lk_X10_hidingThickness_73 : Cond.fieldLink RX10 73 (TX5 3).1 (TX5 3).2.1 (TX5 3).2.2.1 ∈ wsX10_hidingThickness := by decide +kernel
theorem lkm_X10_hidingThickness_max_92 : Cond.methodLink RX10 92 Lib.Math.max.name ∈ wsX10_hidingThickness := by decide +kernel
theorem lkm_X10_hidingThickness_min_86 : Cond.methodLink RX10 86 Lib.Math.min.name ∈ wsX10_hidingThickness := by decide +kernel
set_option maxHeartbeats 4000000 in
set_option maxRecDepth 100000 in
theorem b_X10_hidingThickness_30_b110 {a : Ax} {Z : Zx} {A : Nat → Prop} {r : Int32} {f : Nat → Nat → Int32} (F : FX_X10_hidingThickness_30 a Z A) (K6 : Int32 → Int32 → Int32 → Int32 → Int32 → Option Int32) (hK6 : ∀ (i1 : Int32) (i2 : Int32) (i3 : Int32) (i4 : Int32) (i5 : Int32), K6 i1 i2 i3 i4 i5 = some r → WS a (XC Z) A 9 (RP a (XC Z) A (PI r f)) 6 [(0, .ref (Z.2.1 30)), (1, .int i1), (2, .int i2), (3, .int i3), (4, .int i4), (5, .int i5)] [] f) : ∀ (i1 : Int32) (i2 : Int32) (i3 : Int32) (i4 : Int32) (i5 : Int32), f_X10_hidingThickness_30_b110 K6 i1 i2 i3 i4 i5 f = some r → WS a (XC Z) A 9 (RP a (XC Z) A (PI r f)) 110 [(0, .ref (Z.2.1 30)), (1, .int i1), (2, .int i2), (3, .int i3), (4, .int i4), (5, .int i5)] [] f := by
  intro i1 i2 i3 i4 i5 hf
  unfold f_X10_hidingThickness_30_b110 at hf
  refine rw_iinc F (v := 1) dX10_hidingThickness_110 5 rfl (by decide) (by decide) rfl ?_
  refine rw_goto F (tgt := 6) dX10_hidingThickness_113 (by decide) ?_
  exact WS.sub [1, 2, 3, 4, 5, 0] rfl (hK6 _ _ _ _ _ hf)

set_option maxHeartbeats 4000000 in
set_option maxRecDepth 100000 in
theorem b_X10_hidingThickness_30_b70 {a : Ax} {Z : Zx} {A : Nat → Prop} {r : Int32} {f : Nat → Nat → Int32} (F : FX_X10_hidingThickness_30 a Z A) (K6 : Int32 → Int32 → Int32 → Int32 → Int32 → Option Int32) (hK6 : ∀ (i1 : Int32) (i2 : Int32) (i3 : Int32) (i4 : Int32) (i5 : Int32), K6 i1 i2 i3 i4 i5 = some r → WS a (XC Z) A 9 (RP a (XC Z) A (PI r f)) 6 [(0, .ref (Z.2.1 30)), (1, .int i1), (2, .int i2), (3, .int i3), (4, .int i4), (5, .int i5)] [] f) : ∀ (i1 : Int32) (i2 : Int32) (i3 : Int32) (i4 : Int32) (i5 : Int32) (i6 : Int32) (s0 : Int32), f_X10_hidingThickness_30_b70 K6 i1 i2 i3 i4 i5 i6 s0 f = some r → WS a (XC Z) A 9 (RP a (XC Z) A (PI r f)) 70 [(0, .ref (Z.2.1 30)), (1, .int i1), (2, .int i2), (3, .int i3), (4, .int i4), (5, .int i5), (6, .int i6)] [.int s0] f := by
  intro i1 i2 i3 i4 i5 i6 s0 hf
  unfold f_X10_hidingThickness_30_b70 at hf
  refine rw_istore F dX10_hidingThickness_70 (by decide) rfl ?_
  refine rw_iload F dX10_hidingThickness_72 0 rfl ?_
  refine rw_if_eq F (tgt := 103) hf dX10_hidingThickness_74 (by decide) (fun hc9 hf => ?_) (fun hc9 hf => ?_)
  · refine rw_iload F dX10_hidingThickness_103 7 rfl ?_
    refine rw_if_lt F (tgt := 110) hf dX10_hidingThickness_105 (by decide) (fun hc6 hf => ?_) (fun hc6 hf => ?_)
    · exact WS.sub [1, 2, 3, 4, 5, 6] rfl (b_X10_hidingThickness_30_b110 F _ hK6 _ _ _ _ _ hf)
    · refine rw_iconst F (v := -1) dX10_hidingThickness_108 (by decide) ?_
      exact rw_iret F hf rfl dX10_hidingThickness_109
  · refine rw_iload F dX10_hidingThickness_77 5 rfl ?_
    refine rw_iload F dX10_hidingThickness_79 7 rfl ?_
    refine rw_aload_n F dX10_hidingThickness_81 rfl 1 rfl ?_
    refine rw_get F 30 (show 30 < 39 by decide) (gC_30 Z _) iw_X10_hidingThickness_X10 rfl 1 (by decide) lk_X10_hidingThickness_19 rfl dX10_hidingThickness_82 ?_
    refine rw_bipush F (v := 6) dX10_hidingThickness_85 (by decide) ?_
    refine rw_iload_n F dX10_hidingThickness_87 rfl 2 rfl ?_
    refine rw_iadd F dX10_hidingThickness_88 ?_
    obtain ⟨q8, hq7, hf⟩ := bind_h hf
    refine rw_callVI F (k0 := 18) (nA := 1) (c_X8_get_18 (aL a) Z _ _ _ hq7) gX10_hidingThickness_X8_get rfl ⟨rfl, rfl⟩ (by decide +kernel) ⟨Nat.le_of_ble_eq_true rfl, Nat.le_of_ble_eq_true rfl⟩ (show 18 < 39 by decide) (gC_18 Z _) rfl rfl rfl (Nat.le_of_ble_eq_true rfl) dX10_hidingThickness_89 ?_
    refine rw_iadd F dX10_hidingThickness_92 ?_
    refine rw_iconst F (v := 1) dX10_hidingThickness_93 (by decide) ?_
    refine rw_iadd F dX10_hidingThickness_94 ?_
    refine rw_mmax F lkm_X10_hidingThickness_max_92 (by decide +kernel) (by decide +kernel) (by decide +kernel) (Nat.le_of_ble_eq_true rfl) (Nat.le_of_ble_eq_true rfl) dX10_hidingThickness_95 ?_
    refine rw_istore F dX10_hidingThickness_98 (by decide) rfl ?_
    refine rw_goto F (tgt := 110) dX10_hidingThickness_100 (by decide) ?_
    exact WS.sub [2, 3, 4, 5, 0, 6] rfl (b_X10_hidingThickness_30_b110 F _ hK6 _ _ _ _ _ hf)

set_option maxHeartbeats 4000000 in
set_option maxRecDepth 100000 in
theorem b_X10_hidingThickness_30_b69 {a : Ax} {Z : Zx} {A : Nat → Prop} {r : Int32} {f : Nat → Nat → Int32} (F : FX_X10_hidingThickness_30 a Z A) (K6 : Int32 → Int32 → Int32 → Int32 → Int32 → Option Int32) (hK6 : ∀ (i1 : Int32) (i2 : Int32) (i3 : Int32) (i4 : Int32) (i5 : Int32), K6 i1 i2 i3 i4 i5 = some r → WS a (XC Z) A 9 (RP a (XC Z) A (PI r f)) 6 [(0, .ref (Z.2.1 30)), (1, .int i1), (2, .int i2), (3, .int i3), (4, .int i4), (5, .int i5)] [] f) : ∀ (i1 : Int32) (i2 : Int32) (i3 : Int32) (i4 : Int32) (i5 : Int32) (i6 : Int32), f_X10_hidingThickness_30_b69 K6 i1 i2 i3 i4 i5 i6 f = some r → WS a (XC Z) A 9 (RP a (XC Z) A (PI r f)) 69 [(0, .ref (Z.2.1 30)), (1, .int i1), (2, .int i2), (3, .int i3), (4, .int i4), (5, .int i5), (6, .int i6)] [] f := by
  intro i1 i2 i3 i4 i5 i6 hf
  unfold f_X10_hidingThickness_30_b69 at hf
  refine rw_iconst F (v := 0) dX10_hidingThickness_69 (by decide) ?_
  exact WS.sub [0, 1, 2, 3, 4, 5, 6] rfl (b_X10_hidingThickness_30_b70 F _ hK6 _ _ _ _ _ _ _ hf)

set_option maxHeartbeats 4000000 in
set_option maxRecDepth 100000 in
theorem b_X10_hidingThickness_30_b6 {a : Ax} {Z : Zx} {A : Nat → Prop} {r : Int32} {f : Nat → Nat → Int32} (F : FX_X10_hidingThickness_30 a Z A) : ∀ (n : Nat) (i1 : Int32) (i2 : Int32) (i3 : Int32) (i4 : Int32) (i5 : Int32), f_X10_hidingThickness_30_b6 n i1 i2 i3 i4 i5 f = some r → WS a (XC Z) A 9 (RP a (XC Z) A (PI r f)) 6 [(0, .ref (Z.2.1 30)), (1, .int i1), (2, .int i2), (3, .int i3), (4, .int i4), (5, .int i5)] [] f := by
  intro n
  induction n with
  | zero => intro i1 i2 i3 i4 i5 hf; exact nomatch (show (none : Option Int32) = some r from hf)
  | succ n hK6 =>
    intro i1 i2 i3 i4 i5 hf
    replace hf : f_X10_hidingThickness_30_b6s (fun i1 i2 i3 i4 i5 => f_X10_hidingThickness_30_b6 n i1 i2 i3 i4 i5 f) i1 i2 i3 i4 i5 f = some r := hf
    unfold f_X10_hidingThickness_30_b6s at hf
    refine rw_iload F dX10_hidingThickness_6 5 rfl ?_
    refine rw_aload_n F dX10_hidingThickness_8 rfl 0 rfl ?_
    refine rw_get F 30 (show 30 < 39 by decide) (gC_30 Z _) iw_X10_hidingThickness_X10 rfl 0 (by decide) lk_X10_hidingThickness_15 rfl dX10_hidingThickness_9 ?_
    refine rw_get F 3 (show 3 < 39 by decide) (gC_3 Z _) iw_X10_hidingThickness_X5 rfl 3 (by decide) lk_X10_hidingThickness_73 rfl dX10_hidingThickness_12 ?_
    refine rw_icmp_ge F (tgt := 116) hf dX10_hidingThickness_15 (by decide) (fun hc12 hf => ?_) (fun hc12 hf => ?_)
    · refine rw_iload F dX10_hidingThickness_116 4 rfl ?_
      refine rw_bipush F (v := 99) dX10_hidingThickness_118 (by decide) ?_
      refine rw_icmp_le F (tgt := 127) hf dX10_hidingThickness_120 (by decide) (fun hc1 hf => ?_) (fun hc1 hf => ?_)
      · refine rw_iload F dX10_hidingThickness_127 4 rfl ?_
        exact rw_iret F hf rfl dX10_hidingThickness_129
      · refine rw_iconst F (v := -1) dX10_hidingThickness_123 (by decide) ?_
        refine rw_goto F (tgt := 129) dX10_hidingThickness_124 (by decide) ?_
        exact rw_iret F hf rfl dX10_hidingThickness_129
    · refine rw_aload_n F dX10_hidingThickness_18 rfl 0 rfl ?_
      refine rw_get F 30 (show 30 < 39 by decide) (gC_30 Z _) iw_X10_hidingThickness_X10 rfl 2 (by decide) lk_X10_hidingThickness_23 rfl dX10_hidingThickness_19 ?_
      refine rw_iload F dX10_hidingThickness_22 5 rfl ?_
      refine rw_iload_n F dX10_hidingThickness_24 rfl 2 rfl ?_
      refine rw_iload_n F dX10_hidingThickness_25 rfl 3 rfl ?_
      obtain ⟨q3, hq2, hf⟩ := bind_h hf
      refine rw_callVI F (k0 := 29) (nA := 3) (c_X2_margin_29 (aL a) Z _ _ _ _ _ hq2) gX10_hidingThickness_X2_margin rfl ⟨rfl, rfl⟩ (by decide +kernel) ⟨Nat.le_of_ble_eq_true rfl, Nat.le_of_ble_eq_true rfl⟩ (show 29 < 39 by decide) (gC_29 Z _) rfl rfl rfl (Nat.le_of_ble_eq_true rfl) dX10_hidingThickness_26 ?_
      refine rw_istore F dX10_hidingThickness_29 (by decide) rfl ?_
      refine rw_aload_n F dX10_hidingThickness_31 rfl 1 rfl ?_
      refine rw_get F 30 (show 30 < 39 by decide) (gC_30 Z _) iw_X10_hidingThickness_X10 rfl 1 (by decide) lk_X10_hidingThickness_19 rfl dX10_hidingThickness_32 ?_
      refine rw_bipush F (v := 14) dX10_hidingThickness_35 (by decide) ?_
      refine rw_iload F dX10_hidingThickness_37 6 rfl ?_
      refine rw_iadd F dX10_hidingThickness_39 ?_
      obtain ⟨q5, hq4, hf⟩ := bind_h hf
      refine rw_callVI F (k0 := 18) (nA := 1) (c_X8_get_18 (aL a) Z _ _ _ hq4) gX10_hidingThickness_X8_get rfl ⟨rfl, rfl⟩ (by decide +kernel) ⟨Nat.le_of_ble_eq_true rfl, Nat.le_of_ble_eq_true rfl⟩ (show 18 < 39 by decide) (gC_18 Z _) rfl rfl rfl (Nat.le_of_ble_eq_true rfl) dX10_hidingThickness_40 ?_
      refine rw_istore F dX10_hidingThickness_43 (by decide) rfl ?_
      refine rw_iload_n F dX10_hidingThickness_45 rfl 5 rfl ?_
      refine rw_iload F dX10_hidingThickness_46 0 rfl ?_
      refine rw_mmin F lkm_X10_hidingThickness_min_86 (by decide +kernel) (by decide +kernel) (by decide +kernel) (Nat.le_of_ble_eq_true rfl) (Nat.le_of_ble_eq_true rfl) dX10_hidingThickness_48 ?_
      refine rw_iload_n F dX10_hidingThickness_51 rfl 3 rfl ?_
      refine rw_icmp_gt F (tgt := 69) hf dX10_hidingThickness_52 (by decide) (fun hc11 hf => ?_) (fun hc11 hf => ?_)
      · exact WS.sub [2, 3, 4, 5, 6, 7, 1] rfl (b_X10_hidingThickness_30_b69 F _ hK6 _ _ _ _ _ _ hf)
      · refine rw_iload_n F dX10_hidingThickness_55 rfl 3 rfl ?_
        refine rw_iload_n F dX10_hidingThickness_56 rfl 5 rfl ?_
        refine rw_iload F dX10_hidingThickness_57 0 rfl ?_
        refine rw_mmax F lkm_X10_hidingThickness_max_92 (by decide +kernel) (by decide +kernel) (by decide +kernel) (Nat.le_of_ble_eq_true rfl) (Nat.le_of_ble_eq_true rfl) dX10_hidingThickness_59 ?_
        refine rw_icmp_ge F (tgt := 69) hf dX10_hidingThickness_62 (by decide) (fun hc10 hf => ?_) (fun hc10 hf => ?_)
        · exact WS.sub [2, 3, 4, 5, 6, 7, 1] rfl (b_X10_hidingThickness_30_b69 F _ hK6 _ _ _ _ _ _ hf)
        · refine rw_iconst F (v := 1) dX10_hidingThickness_65 (by decide) ?_
          refine rw_goto F (tgt := 70) dX10_hidingThickness_66 (by decide) ?_
          exact WS.sub [2, 3, 4, 5, 6, 7, 1] rfl (b_X10_hidingThickness_30_b70 F _ hK6 _ _ _ _ _ _ _ hf)

set_option maxHeartbeats 4000000 in
set_option maxRecDepth 100000 in
theorem c_X10_hidingThickness_30 (l : Launch) (Z : Zx) (p1 : Int32) (p2 : Int32) (p3 : Int32) (f : Nat → Nat → Int32) (r : Int32) (hf : f_X10_hidingThickness_30 p1 p2 p3 f = some r) : MS l (XC Z) yX10_hidingThickness wsX10_hidingThickness rm_X10_hidingThickness_30 [.ref (Z.2.1 30), .int p1, .int p2, .int p3] f (PI r f) := by
  refine MS.of (cc := cX10_hidingThickness) (maxL := 9) (ret := (some .int)) (own := RX10) (lv := [(0, .ref (Z.2.1 30)), (1, .int p1), (2, .int p2), (3, .int p3)]) (by decide) rfl rfl (Nat.le_of_ble_eq_true rfl) rfl ?_
  intro a A hla F
  subst hla
  unfold f_X10_hidingThickness_30 at hf
  refine rw_iconst F (v := 0) dX10_hidingThickness_0 (by decide) ?_
  refine rw_istore F dX10_hidingThickness_1 (by decide) rfl ?_
  refine rw_iconst F (v := 0) dX10_hidingThickness_3 (by decide) ?_
  refine rw_istore F dX10_hidingThickness_4 (by decide) rfl ?_
  exact WS.sub [2, 3, 4, 5, 1, 0] rfl (b_X10_hidingThickness_30_b6 F  fuB _ _ _ _ _ hf)

abbrev rm_X11_hides : Room := { frames := 4, cells := 0, slots := 0, locals := 99 }
abbrev FX_X11_hides (a : Ax) (Z : Zx) (A : Nat → Prop) : Prop := FX a (XC Z) A cX11_hides RX11 wsX11_hides 4 (some .int) rm_X11_hides
theorem iw_X11_hides_X11 : ∀ w ∈ wsX110, w ∈ wsX11_hides := by decide +kernel
theorem lk_X11_hides_19 : Cond.fieldLink RX11 19 (TX11 1).1 (TX11 1).2.1 (TX11 1).2.2.1 ∈ wsX11_hides := by decide +kernel
theorem lk_X11_hides_66 : Cond.fieldLink RX11 66 (TX11 8).1 (TX11 8).2.1 (TX11 8).2.2.1 ∈ wsX11_hides := by decide +kernel
set_option maxHeartbeats 4000000 in
set_option maxRecDepth 100000 in
theorem b_X11_hides_b33 {a : Ax} {Z : Zx} {A : Nat → Prop} {r : Int32} {f : Nat → Nat → Int32} (F : FX_X11_hides a Z A) : f_X11_hides_b33  f = some r → WS a (XC Z) A 4 (RP a (XC Z) A (PI r f)) 33 [] [] f := by
  intro  hf
  unfold f_X11_hides_b33 at hf
  refine rw_ldc F (v := -1000000001) dX11_hides_33 (by decide +kernel) ?_
  exact rw_iret F hf rfl dX11_hides_35

set_option maxHeartbeats 4000000 in
set_option maxRecDepth 100000 in
theorem c_X11_hides (l : Launch) (Z : Zx) (p1 : Int32) (p2 : Int32) (p3 : Int32) (f : Nat → Nat → Int32) (r : Int32) (hf : f_X11_hides p1 p2 p3 f = some r) : MS l (XC Z) yX11_hides wsX11_hides rm_X11_hides [.ref (Z.2.1 0), .int p1, .int p2, .int p3] f (PI r f) := by
  refine MS.of (cc := cX11_hides) (maxL := 4) (ret := (some .int)) (own := RX11) (lv := [(0, .ref (Z.2.1 0)), (1, .int p1), (2, .int p2), (3, .int p3)]) (by decide) rfl rfl (Nat.le_of_ble_eq_true rfl) rfl ?_
  intro a A hla F
  subst hla
  unfold f_X11_hides at hf
  refine rw_aload_n F dX11_hides_0 rfl 0 rfl ?_
  refine rw_get F 0 (show 0 < 39 by decide) (gC_0 Z _) iw_X11_hides_X11 rfl 1 (by decide) lk_X11_hides_19 rfl dX11_hides_1 ?_
  refine rw_iload_n F dX11_hides_4 rfl 1 rfl ?_
  obtain ⟨q2, hq1, hf⟩ := bind_h hf
  refine rw_callVI F (k0 := 3) (nA := 1) (c_X5_isWall_3 (aL a) Z _ _ _ hq1) gX11_hides_X5_isWall rfl ⟨rfl, rfl⟩ (by decide +kernel) ⟨Nat.le_of_ble_eq_true rfl, Nat.le_of_ble_eq_true rfl⟩ (show 3 < 39 by decide) (gC_3 Z _) rfl rfl rfl (Nat.le_of_ble_eq_true rfl) dX11_hides_5 ?_
  refine rw_if_eq F (tgt := 33) hf dX11_hides_8 (by decide) (fun hc11 hf => ?_) (fun hc11 hf => ?_)
  · exact WS.sub [] rfl (b_X11_hides_b33 F   hf)
  · refine rw_aload_n F dX11_hides_11 rfl 0 rfl ?_
    refine rw_get F 0 (show 0 < 39 by decide) (gC_0 Z _) iw_X11_hides_X11 rfl 1 (by decide) lk_X11_hides_19 rfl dX11_hides_12 ?_
    refine rw_iload_n F dX11_hides_15 rfl 2 rfl ?_
    obtain ⟨q4, hq3, hf⟩ := bind_h hf
    refine rw_callVI F (k0 := 3) (nA := 1) (c_X5_isSound_3 (aL a) Z _ _ _ hq3) gX11_hides_X5_isSound rfl ⟨rfl, rfl⟩ (by decide +kernel) ⟨Nat.le_of_ble_eq_true rfl, Nat.le_of_ble_eq_true rfl⟩ (show 3 < 39 by decide) (gC_3 Z _) rfl rfl rfl (Nat.le_of_ble_eq_true rfl) dX11_hides_16 ?_
    refine rw_if_eq F (tgt := 33) hf dX11_hides_19 (by decide) (fun hc10 hf => ?_) (fun hc10 hf => ?_)
    · exact WS.sub [] rfl (b_X11_hides_b33 F   hf)
    · refine rw_aload_n F dX11_hides_22 rfl 0 rfl ?_
      refine rw_get F 0 (show 0 < 39 by decide) (gC_0 Z _) iw_X11_hides_X11 rfl 1 (by decide) lk_X11_hides_19 rfl dX11_hides_23 ?_
      refine rw_iload_n F dX11_hides_26 rfl 3 rfl ?_
      obtain ⟨q6, hq5, hf⟩ := bind_h hf
      refine rw_callVI F (k0 := 3) (nA := 1) (c_X5_isPlace_3 (aL a) Z _ _ _ hq5) gX11_hides_X5_isPlace rfl ⟨rfl, rfl⟩ (by decide +kernel) ⟨Nat.le_of_ble_eq_true rfl, Nat.le_of_ble_eq_true rfl⟩ (show 3 < 39 by decide) (gC_3 Z _) rfl rfl rfl (Nat.le_of_ble_eq_true rfl) dX11_hides_27 ?_
      refine rw_if_ne F (tgt := 36) hf dX11_hides_30 (by decide) (fun hc9 hf => ?_) (fun hc9 hf => ?_)
      · refine rw_aload_n F dX11_hides_36 rfl 0 rfl ?_
        refine rw_get F 0 (show 0 < 39 by decide) (gC_0 Z _) iw_X11_hides_X11 rfl 8 (by decide) lk_X11_hides_66 rfl dX11_hides_37 ?_
        refine rw_iload_n F dX11_hides_40 rfl 1 rfl ?_
        refine rw_iload_n F dX11_hides_41 rfl 2 rfl ?_
        refine rw_iload_n F dX11_hides_42 rfl 3 rfl ?_
        obtain ⟨q8, hq7, hf⟩ := bind_h hf
        refine rw_callVI F (k0 := 30) (nA := 3) (c_X10_hidingThickness_30 (aL a) Z _ _ _ _ _ hq7) gX11_hides_X10_hidingThickness rfl ⟨rfl, rfl⟩ (by decide +kernel) ⟨Nat.le_of_ble_eq_true rfl, Nat.le_of_ble_eq_true rfl⟩ (show 30 < 39 by decide) (gC_30 Z _) rfl rfl rfl (Nat.le_of_ble_eq_true rfl) dX11_hides_43 ?_
        exact rw_iret F hf rfl dX11_hides_46
      · exact WS.sub [] rfl (b_X11_hides_b33 F   hf)

abbrev rm_X11_midwife : Room := { frames := 1, cells := 0, slots := 0, locals := 21 }
abbrev FX_X11_midwife (a : Ax) (Z : Zx) (A : Nat → Prop) : Prop := FX a (XC Z) A cX11_midwife RX11 wsX11_midwife 7 (some .int) rm_X11_midwife
set_option maxHeartbeats 4000000 in
set_option maxRecDepth 100000 in
theorem b_X11_midwife_b41 {a : Ax} {Z : Zx} {A : Nat → Prop} {r : Int32} {f : Nat → Nat → Int32} (F : FX_X11_midwife a Z A) : f_X11_midwife_b41  f = some r → WS a (XC Z) A 7 (RP a (XC Z) A (PI r f)) 41 [] [] f := by
  intro  hf
  unfold f_X11_midwife_b41 at hf
  refine rw_ldc F (v := -1000000002) dX11_midwife_41 (by decide +kernel) ?_
  exact rw_iret F hf rfl dX11_midwife_43

set_option maxHeartbeats 4000000 in
set_option maxRecDepth 100000 in
theorem c_X11_midwife (l : Launch) (Z : Zx) (p1 : Int32) (p2 : Int32) (p3 : Int32) (p4 : Int32) (p5 : Int32) (f : Nat → Nat → Int32) (r : Int32) (hf : f_X11_midwife p1 p2 p3 p4 p5 f = some r) : MS l (XC Z) yX11_midwife wsX11_midwife rm_X11_midwife [.ref (Z.2.1 0), .int p1, .int p2, .int p3, .int p4, .int p5] f (PI r f) := by
  refine MS.of (cc := cX11_midwife) (maxL := 7) (ret := (some .int)) (own := RX11) (lv := [(0, .ref (Z.2.1 0)), (1, .int p1), (2, .int p2), (3, .int p3), (4, .int p4), (5, .int p5)]) (by decide) rfl rfl (Nat.le_of_ble_eq_true rfl) rfl ?_
  intro a A hla F
  subst hla
  unfold f_X11_midwife at hf
  refine rw_iload_n F dX11_midwife_0 rfl 2 rfl ?_
  refine rw_sipush F (v := 9999) dX11_midwife_1 (by decide) ?_
  obtain ⟨q2, hq1, hf⟩ := bind_h hf
  refine rw_callSI F (nA := 2) (c_X11_isOutside (aL a) Z _ _ _ _ hq1) gX11_midwife_X11_isOutside rfl ⟨rfl, rfl⟩ (by decide +kernel) ⟨Nat.le_of_ble_eq_true rfl, Nat.le_of_ble_eq_true rfl⟩ rfl rfl (Nat.le_of_ble_eq_true rfl) dX11_midwife_4 ?_
  refine rw_if_ne F (tgt := 41) hf dX11_midwife_7 (by decide) (fun hc15 hf => ?_) (fun hc15 hf => ?_)
  · exact WS.sub [] rfl (b_X11_midwife_b41 F   hf)
  · refine rw_iload_n F dX11_midwife_10 rfl 3 rfl ?_
    refine rw_sipush F (v := 9999) dX11_midwife_11 (by decide) ?_
    obtain ⟨q4, hq3, hf⟩ := bind_h hf
    refine rw_callSI F (nA := 2) (c_X11_isOutside (aL a) Z _ _ _ _ hq3) gX11_midwife_X11_isOutside rfl ⟨rfl, rfl⟩ (by decide +kernel) ⟨Nat.le_of_ble_eq_true rfl, Nat.le_of_ble_eq_true rfl⟩ rfl rfl (Nat.le_of_ble_eq_true rfl) dX11_midwife_14 ?_
    refine rw_if_ne F (tgt := 41) hf dX11_midwife_17 (by decide) (fun hc14 hf => ?_) (fun hc14 hf => ?_)
    · exact WS.sub [] rfl (b_X11_midwife_b41 F   hf)
    · refine rw_iload F dX11_midwife_20 4 rfl ?_
      refine rw_sipush F (v := 9999) dX11_midwife_22 (by decide) ?_
      obtain ⟨q6, hq5, hf⟩ := bind_h hf
      refine rw_callSI F (nA := 2) (c_X11_isOutside (aL a) Z _ _ _ _ hq5) gX11_midwife_X11_isOutside rfl ⟨rfl, rfl⟩ (by decide +kernel) ⟨Nat.le_of_ble_eq_true rfl, Nat.le_of_ble_eq_true rfl⟩ rfl rfl (Nat.le_of_ble_eq_true rfl) dX11_midwife_25 ?_
      refine rw_if_ne F (tgt := 41) hf dX11_midwife_28 (by decide) (fun hc13 hf => ?_) (fun hc13 hf => ?_)
      · exact WS.sub [] rfl (b_X11_midwife_b41 F   hf)
      · refine rw_iload F dX11_midwife_31 5 rfl ?_
        refine rw_bipush F (v := 100) dX11_midwife_33 (by decide) ?_
        obtain ⟨q8, hq7, hf⟩ := bind_h hf
        refine rw_callSI F (nA := 2) (c_X11_isOutside (aL a) Z _ _ _ _ hq7) gX11_midwife_X11_isOutside rfl ⟨rfl, rfl⟩ (by decide +kernel) ⟨Nat.le_of_ble_eq_true rfl, Nat.le_of_ble_eq_true rfl⟩ rfl rfl (Nat.le_of_ble_eq_true rfl) dX11_midwife_35 ?_
        refine rw_if_eq F (tgt := 44) hf dX11_midwife_38 (by decide) (fun hc12 hf => ?_) (fun hc12 hf => ?_)
        · refine rw_iload F dX11_midwife_44 4 rfl ?_
          refine rw_iload F dX11_midwife_46 5 rfl ?_
          refine rw_imul F dX11_midwife_48 ?_
          refine rw_bipush F (v := 100) dX11_midwife_49 (by decide) ?_
          refine rw_idiv F dX11_midwife_51 (by decide) ?_
          refine rw_istore F dX11_midwife_52 (by decide) rfl ?_
          refine rw_iload_n F dX11_midwife_54 rfl 2 rfl ?_
          refine rw_if_eq F (tgt := 72) hf dX11_midwife_55 (by decide) (fun hc11 hf => ?_) (fun hc11 hf => ?_)
          · refine rw_iload_n F dX11_midwife_72 rfl 3 rfl ?_
            refine rw_iload F dX11_midwife_73 0 rfl ?_
            refine rw_isub F dX11_midwife_75 ?_
            refine rw_iload_n F dX11_midwife_76 rfl 4 rfl ?_
            refine rw_icmp_le F (tgt := 84) hf dX11_midwife_77 (by decide) (fun hc9 hf => ?_) (fun hc9 hf => ?_)
            · refine rw_iconst F (v := 0) dX11_midwife_84 (by decide) ?_
              exact rw_iret F hf rfl dX11_midwife_85
            · refine rw_iconst F (v := 1) dX11_midwife_80 (by decide) ?_
              refine rw_goto F (tgt := 85) dX11_midwife_81 (by decide) ?_
              exact rw_iret F hf rfl dX11_midwife_85
          · refine rw_iload_n F dX11_midwife_58 rfl 4 rfl ?_
            refine rw_iload F dX11_midwife_59 0 rfl ?_
            refine rw_isub F dX11_midwife_61 ?_
            refine rw_iload_n F dX11_midwife_62 rfl 3 rfl ?_
            refine rw_icmp_le F (tgt := 70) hf dX11_midwife_63 (by decide) (fun hc10 hf => ?_) (fun hc10 hf => ?_)
            · refine rw_iconst F (v := 1) dX11_midwife_70 (by decide) ?_
              exact rw_iret F hf rfl dX11_midwife_71
            · refine rw_iconst F (v := 0) dX11_midwife_66 (by decide) ?_
              refine rw_goto F (tgt := 71) dX11_midwife_67 (by decide) ?_
              exact rw_iret F hf rfl dX11_midwife_71
        · exact WS.sub [] rfl (b_X11_midwife_b41 F   hf)

abbrev rm_X11_bargain : Room := { frames := 1, cells := 0, slots := 0, locals := 21 }
abbrev FX_X11_bargain (a : Ax) (Z : Zx) (A : Nat → Prop) : Prop := FX a (XC Z) A cX11_bargain RX11 wsX11_bargain 8 (some .int) rm_X11_bargain
theorem lkm_X11_bargain_max_232 : Cond.methodLink RX11 232 Lib.Math.max.name ∈ wsX11_bargain := by decide +kernel
theorem lkm_X11_bargain_min_237 : Cond.methodLink RX11 237 Lib.Math.min.name ∈ wsX11_bargain := by decide +kernel
set_option maxHeartbeats 4000000 in
set_option maxRecDepth 100000 in
theorem b_X11_bargain_b38 {a : Ax} {Z : Zx} {A : Nat → Prop} {r : Int32} {f : Nat → Nat → Int32} (F : FX_X11_bargain a Z A) : f_X11_bargain_b38  f = some r → WS a (XC Z) A 8 (RP a (XC Z) A (PI r f)) 38 [] [] f := by
  intro  hf
  unfold f_X11_bargain_b38 at hf
  refine rw_ldc F (v := -1000000002) dX11_bargain_38 (by decide +kernel) ?_
  exact rw_iret F hf rfl dX11_bargain_40

set_option maxHeartbeats 4000000 in
set_option maxRecDepth 100000 in
theorem c_X11_bargain (l : Launch) (Z : Zx) (p1 : Int32) (p2 : Int32) (p3 : Int32) (p4 : Int32) (f : Nat → Nat → Int32) (r : Int32) (hf : f_X11_bargain p1 p2 p3 p4 f = some r) : MS l (XC Z) yX11_bargain wsX11_bargain rm_X11_bargain [.ref (Z.2.1 0), .int p1, .int p2, .int p3, .int p4] f (PI r f) := by
  refine MS.of (cc := cX11_bargain) (maxL := 8) (ret := (some .int)) (own := RX11) (lv := [(0, .ref (Z.2.1 0)), (1, .int p1), (2, .int p2), (3, .int p3), (4, .int p4)]) (by decide) rfl rfl (Nat.le_of_ble_eq_true rfl) rfl ?_
  intro a A hla F
  subst hla
  unfold f_X11_bargain at hf
  refine rw_iload_n F dX11_bargain_0 rfl 1 rfl ?_
  refine rw_sipush F (v := 9999) dX11_bargain_1 (by decide) ?_
  obtain ⟨q2, hq1, hf⟩ := bind_h hf
  refine rw_callSI F (nA := 2) (c_X11_isOutside (aL a) Z _ _ _ _ hq1) gX11_bargain_X11_isOutside rfl ⟨rfl, rfl⟩ (by decide +kernel) ⟨Nat.le_of_ble_eq_true rfl, Nat.le_of_ble_eq_true rfl⟩ rfl rfl (Nat.le_of_ble_eq_true rfl) dX11_bargain_4 ?_
  refine rw_if_ne F (tgt := 38) hf dX11_bargain_7 (by decide) (fun hc13 hf => ?_) (fun hc13 hf => ?_)
  · exact WS.sub [] rfl (b_X11_bargain_b38 F   hf)
  · refine rw_iload_n F dX11_bargain_10 rfl 2 rfl ?_
    refine rw_ldc F (v := 1000000) dX11_bargain_11 (by decide +kernel) ?_
    obtain ⟨q4, hq3, hf⟩ := bind_h hf
    refine rw_callSI F (nA := 2) (c_X11_isOutside (aL a) Z _ _ _ _ hq3) gX11_bargain_X11_isOutside rfl ⟨rfl, rfl⟩ (by decide +kernel) ⟨Nat.le_of_ble_eq_true rfl, Nat.le_of_ble_eq_true rfl⟩ rfl rfl (Nat.le_of_ble_eq_true rfl) dX11_bargain_13 ?_
    refine rw_if_ne F (tgt := 38) hf dX11_bargain_16 (by decide) (fun hc12 hf => ?_) (fun hc12 hf => ?_)
    · exact WS.sub [] rfl (b_X11_bargain_b38 F   hf)
    · refine rw_iload_n F dX11_bargain_19 rfl 3 rfl ?_
      refine rw_sipush F (v := 999) dX11_bargain_20 (by decide) ?_
      obtain ⟨q6, hq5, hf⟩ := bind_h hf
      refine rw_callSI F (nA := 2) (c_X11_isOutside (aL a) Z _ _ _ _ hq5) gX11_bargain_X11_isOutside rfl ⟨rfl, rfl⟩ (by decide +kernel) ⟨Nat.le_of_ble_eq_true rfl, Nat.le_of_ble_eq_true rfl⟩ rfl rfl (Nat.le_of_ble_eq_true rfl) dX11_bargain_23 ?_
      refine rw_if_ne F (tgt := 38) hf dX11_bargain_26 (by decide) (fun hc11 hf => ?_) (fun hc11 hf => ?_)
      · exact WS.sub [] rfl (b_X11_bargain_b38 F   hf)
      · refine rw_iload F dX11_bargain_29 4 rfl ?_
        refine rw_iconst F (v := 1) dX11_bargain_31 (by decide) ?_
        obtain ⟨q8, hq7, hf⟩ := bind_h hf
        refine rw_callSI F (nA := 2) (c_X11_isOutside (aL a) Z _ _ _ _ hq7) gX11_bargain_X11_isOutside rfl ⟨rfl, rfl⟩ (by decide +kernel) ⟨Nat.le_of_ble_eq_true rfl, Nat.le_of_ble_eq_true rfl⟩ rfl rfl (Nat.le_of_ble_eq_true rfl) dX11_bargain_32 ?_
        refine rw_if_eq F (tgt := 41) hf dX11_bargain_35 (by decide) (fun hc10 hf => ?_) (fun hc10 hf => ?_)
        · refine rw_iload_n F dX11_bargain_41 rfl 1 rfl ?_
          refine rw_i2l F dX11_bargain_42 ?_
          refine rw_iload_n F dX11_bargain_43 rfl 2 rfl ?_
          refine rw_i2l F dX11_bargain_44 ?_
          refine rw_lmul F dX11_bargain_45 ?_
          refine rw_ldc2 F (v := 1000000) dX11_bargain_46 (by decide +kernel) ?_
          refine rw_ldiv F dX11_bargain_49 (by decide) ?_
          refine rw_lstore F dX11_bargain_50 (by decide) rfl ?_
          refine rw_lload F dX11_bargain_52 0 rfl ?_
          refine rw_l2i F dX11_bargain_54 ?_
          refine rw_iload_n F dX11_bargain_55 rfl 4 rfl ?_
          refine rw_isub F dX11_bargain_56 ?_
          refine rw_iconst F (v := 0) dX11_bargain_57 (by decide) ?_
          refine rw_mmax F lkm_X11_bargain_max_232 (by decide +kernel) (by decide +kernel) (by decide +kernel) (Nat.le_of_ble_eq_true rfl) (Nat.le_of_ble_eq_true rfl) dX11_bargain_58 ?_
          refine rw_istore F dX11_bargain_61 (by decide) rfl ?_
          refine rw_iload F dX11_bargain_63 6 rfl ?_
          refine rw_if_ne F (tgt := 73) hf dX11_bargain_65 (by decide) (fun hc9 hf => ?_) (fun hc9 hf => ?_)
          · refine rw_iload F dX11_bargain_73 0 rfl ?_
            refine rw_iconst F (v := 2) dX11_bargain_75 (by decide) ?_
            refine rw_iload_n F dX11_bargain_76 rfl 5 rfl ?_
            refine rw_imul F dX11_bargain_77 ?_
            refine rw_iadd F dX11_bargain_78 ?_
            refine rw_iload_n F dX11_bargain_79 rfl 3 rfl ?_
            refine rw_mmin F lkm_X11_bargain_min_237 (by decide +kernel) (by decide +kernel) (by decide +kernel) (Nat.le_of_ble_eq_true rfl) (Nat.le_of_ble_eq_true rfl) dX11_bargain_80 ?_
            exact rw_iret F hf rfl dX11_bargain_83
          · refine rw_iload F dX11_bargain_68 0 rfl ?_
            refine rw_goto F (tgt := 83) dX11_bargain_70 (by decide) ?_
            exact rw_iret F hf rfl dX11_bargain_83
        · exact WS.sub [] rfl (b_X11_bargain_b38 F   hf)

abbrev rm_X10_oddsOfHearing_30 : Room := { frames := 5, cells := 0, slots := 0, locals := 119 }
abbrev FX_X10_oddsOfHearing_30 (a : Ax) (Z : Zx) (A : Nat → Prop) : Prop := FX a (XC Z) A cX10_oddsOfHearing RX10 wsX10_oddsOfHearing 5 (some .int) rm_X10_oddsOfHearing_30
theorem iw_X10_oddsOfHearing_X10 : ∀ w ∈ wsX100, w ∈ wsX10_oddsOfHearing := by decide +kernel
theorem iw_X10_oddsOfHearing_X5 : ∀ w ∈ wsX50, w ∈ wsX10_oddsOfHearing := by decide +kernel
theorem lk_X10_oddsOfHearing_15 : Cond.fieldLink RX10 15 (TX10 0).1 (TX10 0).2.1 (TX10 0).2.2.1 ∈ wsX10_oddsOfHearing := by decide +kernel
theorem lk_X10_oddsOfHearing_65 : Cond.fieldLink RX10 65 (TX5 2).1 (TX5 2).2.1 (TX5 2).2.2.1 ∈ wsX10_oddsOfHearing := by decide +kernel
set_option maxHeartbeats 4000000 in
set_option maxRecDepth 100000 in
theorem b_X10_oddsOfHearing_30_b24 {a : Ax} {Z : Zx} {A : Nat → Prop} {r : Int32} {f : Nat → Nat → Int32} (F : FX_X10_oddsOfHearing_30 a Z A) : ∀ (n : Nat) (i1 : Int32) (i2 : Int32) (i3 : Int32) (i4 : Int32), f_X10_oddsOfHearing_30_b24 n i1 i2 i3 i4 f = some r → WS a (XC Z) A 5 (RP a (XC Z) A (PI r f)) 24 [(0, .ref (Z.2.1 30)), (1, .int i1), (2, .int i2), (3, .int i3), (4, .int i4)] [] f := by
  intro n
  induction n with
  | zero => intro i1 i2 i3 i4 hf; exact nomatch (show (none : Option Int32) = some r from hf)
  | succ n hK24 =>
    intro i1 i2 i3 i4 hf
    replace hf : f_X10_oddsOfHearing_30_b24s (fun i1 i2 i3 i4 => f_X10_oddsOfHearing_30_b24 n i1 i2 i3 i4 f) i1 i2 i3 i4 f = some r := hf
    unfold f_X10_oddsOfHearing_30_b24s at hf
    refine rw_iload F dX10_oddsOfHearing_24 4 rfl ?_
    refine rw_aload_n F dX10_oddsOfHearing_26 rfl 0 rfl ?_
    refine rw_get F 30 (show 30 < 39 by decide) (gC_30 Z _) iw_X10_oddsOfHearing_X10 rfl 0 (by decide) lk_X10_oddsOfHearing_15 rfl dX10_oddsOfHearing_27 ?_
    refine rw_get F 3 (show 3 < 39 by decide) (gC_3 Z _) iw_X10_oddsOfHearing_X5 rfl 2 (by decide) lk_X10_oddsOfHearing_65 rfl dX10_oddsOfHearing_30 ?_
    refine rw_icmp_ge F (tgt := 58) hf dX10_oddsOfHearing_33 (by decide) (fun hc8 hf => ?_) (fun hc8 hf => ?_)
    · refine rw_iload_n F dX10_oddsOfHearing_58 rfl 3 rfl ?_
      refine rw_ldc F (v := 1000000) dX10_oddsOfHearing_59 (by decide +kernel) ?_
      refine rw_imul F dX10_oddsOfHearing_61 ?_
      refine rw_iload_n F dX10_oddsOfHearing_62 rfl 2 rfl ?_
      obtain ⟨hz3, hf⟩ := dz_h hf
      refine rw_idiv F dX10_oddsOfHearing_63 hz3 ?_
      exact rw_iret F hf rfl dX10_oddsOfHearing_64
    · refine rw_iload_n F dX10_oddsOfHearing_36 rfl 3 rfl ?_
      refine rw_iload_n F dX10_oddsOfHearing_37 rfl 1 rfl ?_
      refine rw_aload_n F dX10_oddsOfHearing_38 rfl 0 rfl ?_
      refine rw_iload F dX10_oddsOfHearing_39 4 rfl ?_
      obtain ⟨q5, hq4, hf⟩ := bind_h hf
      refine rw_callVI F (k0 := 30) (nA := 1) (c_X10_unheard_30 (aL a) Z _ _ _ hq4) gX10_oddsOfHearing_X10_unheard rfl ⟨rfl, rfl⟩ (by decide +kernel) ⟨Nat.le_of_ble_eq_true rfl, Nat.le_of_ble_eq_true rfl⟩ (show 30 < 39 by decide) (gC_30 Z _) rfl rfl rfl (Nat.le_of_ble_eq_true rfl) dX10_oddsOfHearing_41 ?_
      refine rw_iconst F (v := -1) dX10_oddsOfHearing_44 (by decide) ?_
      refine rw_ixor F dX10_oddsOfHearing_45 ?_
      refine rw_iand F dX10_oddsOfHearing_46 ?_
      obtain ⟨q7, hq6, hf⟩ := bind_h hf
      refine rw_callSI F (nA := 1) (c_J6_bitCount_0f7a4 (aL a) Z _ _ _ hq6) gX10_oddsOfHearing_J6_bitCount_0f7a4 rfl ⟨rfl, rfl⟩ (by decide +kernel) ⟨Nat.le_of_ble_eq_true rfl, Nat.le_of_ble_eq_true rfl⟩ rfl rfl (Nat.le_of_ble_eq_true rfl) dX10_oddsOfHearing_47 ?_
      refine rw_iadd F dX10_oddsOfHearing_50 ?_
      refine rw_istore_n F dX10_oddsOfHearing_51 rfl (by decide) rfl ?_
      refine rw_iinc F (v := 1) dX10_oddsOfHearing_52 4 rfl (by decide) (by decide) rfl ?_
      refine rw_goto F (tgt := 24) dX10_oddsOfHearing_55 (by decide) ?_
      exact WS.sub [2, 3, 4, 1, 0] rfl (hK24 _ _ _ _ hf)

set_option maxHeartbeats 4000000 in
set_option maxRecDepth 100000 in
theorem c_X10_oddsOfHearing_30 (l : Launch) (Z : Zx) (p1 : Int32) (f : Nat → Nat → Int32) (r : Int32) (hf : f_X10_oddsOfHearing_30 p1 f = some r) : MS l (XC Z) yX10_oddsOfHearing wsX10_oddsOfHearing rm_X10_oddsOfHearing_30 [.ref (Z.2.1 30), .int p1] f (PI r f) := by
  refine MS.of (cc := cX10_oddsOfHearing) (maxL := 5) (ret := (some .int)) (own := RX10) (lv := [(0, .ref (Z.2.1 30)), (1, .int p1)]) (by decide) rfl rfl (Nat.le_of_ble_eq_true rfl) rfl ?_
  intro a A hla F
  subst hla
  unfold f_X10_oddsOfHearing_30 at hf
  refine rw_aload_n F dX10_oddsOfHearing_0 rfl 0 rfl ?_
  refine rw_get F 30 (show 30 < 39 by decide) (gC_30 Z _) iw_X10_oddsOfHearing_X10 rfl 0 (by decide) lk_X10_oddsOfHearing_15 rfl dX10_oddsOfHearing_1 ?_
  refine rw_get F 3 (show 3 < 39 by decide) (gC_3 Z _) iw_X10_oddsOfHearing_X5 rfl 2 (by decide) lk_X10_oddsOfHearing_65 rfl dX10_oddsOfHearing_4 ?_
  refine rw_iload_n F dX10_oddsOfHearing_7 rfl 1 rfl ?_
  obtain ⟨q2, hq1, hf⟩ := bind_h hf
  refine rw_callSI F (nA := 1) (c_J6_bitCount_0f7a4 (aL a) Z _ _ _ hq1) gX10_oddsOfHearing_J6_bitCount_0f7a4 rfl ⟨rfl, rfl⟩ (by decide +kernel) ⟨Nat.le_of_ble_eq_true rfl, Nat.le_of_ble_eq_true rfl⟩ rfl rfl (Nat.le_of_ble_eq_true rfl) dX10_oddsOfHearing_8 ?_
  refine rw_imul F dX10_oddsOfHearing_11 ?_
  refine rw_istore_n F dX10_oddsOfHearing_12 rfl (by decide) rfl ?_
  refine rw_iload_n F dX10_oddsOfHearing_13 rfl 0 rfl ?_
  refine rw_if_gt F (tgt := 19) hf dX10_oddsOfHearing_14 (by decide) (fun hc9 hf => ?_) (fun hc9 hf => ?_)
  · refine rw_iconst F (v := 0) dX10_oddsOfHearing_19 (by decide) ?_
    refine rw_istore_n F dX10_oddsOfHearing_20 rfl (by decide) rfl ?_
    refine rw_iconst F (v := 0) dX10_oddsOfHearing_21 (by decide) ?_
    refine rw_istore F dX10_oddsOfHearing_22 (by decide) rfl ?_
    exact WS.sub [3, 4, 2, 1, 0] rfl (b_X10_oddsOfHearing_30_b24 F  fuB _ _ _ _ hf)
  · refine rw_iconst F (v := 0) dX10_oddsOfHearing_17 (by decide) ?_
    exact rw_iret F hf rfl dX10_oddsOfHearing_18

abbrev rm_X11_found : Room := { frames := 6, cells := 0, slots := 0, locals := 143 }
abbrev FX_X11_found (a : Ax) (Z : Zx) (A : Nat → Prop) : Prop := FX a (XC Z) A cX11_found RX11 wsX11_found 2 (some .int) rm_X11_found
theorem iw_X11_found_X11 : ∀ w ∈ wsX110, w ∈ wsX11_found := by decide +kernel
theorem lk_X11_found_19 : Cond.fieldLink RX11 19 (TX11 1).1 (TX11 1).2.1 (TX11 1).2.2.1 ∈ wsX11_found := by decide +kernel
theorem lk_X11_found_66 : Cond.fieldLink RX11 66 (TX11 8).1 (TX11 8).2.1 (TX11 8).2.2.1 ∈ wsX11_found := by decide +kernel
set_option maxHeartbeats 4000000 in
set_option maxRecDepth 100000 in
theorem c_X11_found (l : Launch) (Z : Zx) (p1 : Int32) (f : Nat → Nat → Int32) (r : Int32) (hf : f_X11_found p1 f = some r) : MS l (XC Z) yX11_found wsX11_found rm_X11_found [.ref (Z.2.1 0), .int p1] f (PI r f) := by
  refine MS.of (cc := cX11_found) (maxL := 2) (ret := (some .int)) (own := RX11) (lv := [(0, .ref (Z.2.1 0)), (1, .int p1)]) (by decide) rfl rfl (Nat.le_of_ble_eq_true rfl) rfl ?_
  intro a A hla F
  subst hla
  unfold f_X11_found at hf
  refine rw_aload_n F dX11_found_0 rfl 0 rfl ?_
  refine rw_get F 0 (show 0 < 39 by decide) (gC_0 Z _) iw_X11_found_X11 rfl 1 (by decide) lk_X11_found_19 rfl dX11_found_1 ?_
  refine rw_iload_n F dX11_found_4 rfl 1 rfl ?_
  obtain ⟨q2, hq1, hf⟩ := bind_h hf
  refine rw_callVI F (k0 := 3) (nA := 1) (c_X5_arePlaces_3 (aL a) Z _ _ _ hq1) gX11_found_X5_arePlaces rfl ⟨rfl, rfl⟩ (by decide +kernel) ⟨Nat.le_of_ble_eq_true rfl, Nat.le_of_ble_eq_true rfl⟩ (show 3 < 39 by decide) (gC_3 Z _) rfl rfl rfl (Nat.le_of_ble_eq_true rfl) dX11_found_5 ?_
  refine rw_if_eq F (tgt := 22) hf dX11_found_8 (by decide) (fun hc5 hf => ?_) (fun hc5 hf => ?_)
  · refine rw_ldc F (v := -1000000001) dX11_found_22 (by decide +kernel) ?_
    exact rw_iret F hf rfl dX11_found_24
  · refine rw_aload_n F dX11_found_11 rfl 0 rfl ?_
    refine rw_get F 0 (show 0 < 39 by decide) (gC_0 Z _) iw_X11_found_X11 rfl 8 (by decide) lk_X11_found_66 rfl dX11_found_12 ?_
    refine rw_iload_n F dX11_found_15 rfl 1 rfl ?_
    obtain ⟨q4, hq3, hf⟩ := bind_h hf
    refine rw_callVI F (k0 := 30) (nA := 1) (c_X10_oddsOfHearing_30 (aL a) Z _ _ _ hq3) gX11_found_X10_oddsOfHearing rfl ⟨rfl, rfl⟩ (by decide +kernel) ⟨Nat.le_of_ble_eq_true rfl, Nat.le_of_ble_eq_true rfl⟩ (show 30 < 39 by decide) (gC_30 Z _) rfl rfl rfl (Nat.le_of_ble_eq_true rfl) dX11_found_16 ?_
    refine rw_goto F (tgt := 24) dX11_found_19 (by decide) ?_
    exact rw_iret F hf rfl dX11_found_24

abbrev rm_X1_add_32 : Room := { frames := 1, cells := 0, slots := 0, locals := 22 }
abbrev FX_X1_add_32 (a : Ax) (Z : Zx) (A : Nat → Prop) : Prop := FX a (XC Z) A cX1_add RX1 wsX1_add 3 (some .boolean) rm_X1_add_32
theorem iw_X1_add_X1 : ∀ w ∈ wsX10, w ∈ wsX1_add := by decide +kernel
theorem lk_X1_add_9 : Cond.fieldLink RX1 9 (TX1 2).1 (TX1 2).2.1 (TX1 2).2.2.1 ∈ wsX1_add := by decide +kernel
theorem lk_X1_add_15 : Cond.fieldLink RX1 15 (TX1 3).1 (TX1 3).2.1 (TX1 3).2.2.1 ∈ wsX1_add := by decide +kernel
theorem lk_X1_add_32 : Cond.fieldLink RX1 32 (TX1 4).1 (TX1 4).2.1 (TX1 4).2.2.1 ∈ wsX1_add := by decide +kernel
set_option maxHeartbeats 4000000 in
set_option maxRecDepth 100000 in
theorem c_X1_add_32 (l : Launch) (Z : Zx) (p1 : Int32) (p2 : Int32) (f : Nat → Nat → Int32) (r : (Int32 × (Nat → Nat → Int32))) (hf : f_X1_add_32 p1 p2 f = some r) : MS l (XC Z) yX1_add wsX1_add rm_X1_add_32 [.ref (Z.2.1 32), .int p1, .int p2] f (PI r.1 r.2) := by
  refine MS.of (cc := cX1_add) (maxL := 3) (ret := (some .boolean)) (own := RX1) (lv := [(0, .ref (Z.2.1 32)), (1, .int p1), (2, .int p2)]) (by decide) rfl rfl (Nat.le_of_ble_eq_true rfl) rfl ?_
  intro a A hla F
  subst hla
  unfold f_X1_add_32 at hf
  refine rw_aload_n F dX1_add_0 rfl 0 rfl ?_
  refine rw_get F 32 (show 32 < 39 by decide) (gC_32 Z _) iw_X1_add_X1 rfl 4 (by decide) lk_X1_add_32 rfl dX1_add_1 ?_
  refine rw_bipush F (v := 8) dX1_add_4 (by decide) ?_
  refine rw_icmp_lt F (tgt := 11) hf dX1_add_6 (by decide) (fun hc5 hf => ?_) (fun hc5 hf => ?_)
  · refine rw_aload_n F dX1_add_11 rfl 0 rfl ?_
    refine rw_get F 32 (show 32 < 39 by decide) (gC_32 Z _) iw_X1_add_X1 rfl 2 (by decide) lk_X1_add_9 rfl dX1_add_12 ?_
    refine rw_aload_n F dX1_add_15 rfl 0 rfl ?_
    refine rw_get F 32 (show 32 < 39 by decide) (gC_32 Z _) iw_X1_add_X1 rfl 4 (by decide) lk_X1_add_32 rfl dX1_add_16 ?_
    refine rw_iload_n F dX1_add_19 rfl 1 rfl ?_
    obtain ⟨q2, hq1, hf⟩ := bind_h hf
    refine rw_callSV F (nA := 3) (c_X7_put (aL a) Z (show 33 < 39 by decide) (gC_33 Z) _ _ _ _ hq1) gX1_add_X7_put rfl ⟨rfl, rfl⟩ (by decide +kernel) ⟨Nat.le_of_ble_eq_true rfl, Nat.le_of_ble_eq_true rfl⟩ rfl rfl (Nat.le_of_ble_eq_true rfl) dX1_add_20 ?_
    refine rw_aload_n F dX1_add_23 rfl 0 rfl ?_
    refine rw_get F 32 (show 32 < 39 by decide) (gC_32 Z _) iw_X1_add_X1 rfl 3 (by decide) lk_X1_add_15 rfl dX1_add_24 ?_
    refine rw_aload_n F dX1_add_27 rfl 0 rfl ?_
    refine rw_get F 32 (show 32 < 39 by decide) (gC_32 Z _) iw_X1_add_X1 rfl 4 (by decide) lk_X1_add_32 rfl dX1_add_28 ?_
    refine rw_iload_n F dX1_add_31 rfl 2 rfl ?_
    obtain ⟨q4, hq3, hf⟩ := bind_h hf
    refine rw_callSV F (nA := 3) (c_X7_put (aL a) Z (show 34 < 39 by decide) (gC_34 Z) _ _ _ _ hq3) gX1_add_X7_put rfl ⟨rfl, rfl⟩ (by decide +kernel) ⟨Nat.le_of_ble_eq_true rfl, Nat.le_of_ble_eq_true rfl⟩ rfl rfl (Nat.le_of_ble_eq_true rfl) dX1_add_32 ?_
    refine rw_aload_n F dX1_add_35 rfl 0 rfl ?_
    refine rw_dup F dX1_add_36 rfl ?_
    refine rw_get F 32 (show 32 < 39 by decide) (gC_32 Z _) iw_X1_add_X1 rfl 4 (by decide) lk_X1_add_32 rfl dX1_add_37 ?_
    refine rw_iconst F (v := 1) dX1_add_40 (by decide) ?_
    refine rw_iadd F dX1_add_41 ?_
    refine rw_put F 32 (show 32 < 39 by decide) (gC_32 Z) iw_X1_add_X1 tyX1 tyX1_ok nmX1 rfl 4 (by decide) lk_X1_add_32 rfl rfl rfl (fun _ => by rw [lnC32]; decide) (stC32_4 Z.2.1) dX1_add_42 ?_
    refine rw_iconst F (v := 1) dX1_add_45 (by decide) ?_
    exact rw_zretZS F (by decide) hf rfl dX1_add_46
  · refine rw_iconst F (v := 0) dX1_add_9 (by decide) ?_
    exact rw_zretZS F (by decide) hf rfl dX1_add_10

abbrev rm_X11_say : Room := { frames := 2, cells := 0, slots := 0, locals := 44 }
abbrev FX_X11_say (a : Ax) (Z : Zx) (A : Nat → Prop) : Prop := FX a (XC Z) A cX11_say RX11 wsX11_say 3 (some .int) rm_X11_say
theorem iw_X11_say_X1 : ∀ w ∈ wsX10, w ∈ wsX11_say := by decide +kernel
theorem iw_X11_say_X11 : ∀ w ∈ wsX110, w ∈ wsX11_say := by decide +kernel
theorem lk_X11_say_19 : Cond.fieldLink RX11 19 (TX11 1).1 (TX11 1).2.1 (TX11 1).2.2.1 ∈ wsX11_say := by decide +kernel
theorem lk_X11_say_75 : Cond.fieldLink RX11 75 (TX11 9).1 (TX11 9).2.1 (TX11 9).2.2.1 ∈ wsX11_say := by decide +kernel
theorem lk_X11_say_121 : Cond.fieldLink RX11 121 (TX1 4).1 (TX1 4).2.1 (TX1 4).2.2.1 ∈ wsX11_say := by decide +kernel
set_option maxHeartbeats 4000000 in
set_option maxRecDepth 100000 in
theorem c_X11_say (l : Launch) (Z : Zx) (p1 : Int32) (p2 : Int32) (f : Nat → Nat → Int32) (r : (Int32 × (Nat → Nat → Int32))) (hf : f_X11_say p1 p2 f = some r) : MS l (XC Z) yX11_say wsX11_say rm_X11_say [.ref (Z.2.1 0), .int p1, .int p2] f (PI r.1 r.2) := by
  refine MS.of (cc := cX11_say) (maxL := 3) (ret := (some .int)) (own := RX11) (lv := [(0, .ref (Z.2.1 0)), (1, .int p1), (2, .int p2)]) (by decide) rfl rfl (Nat.le_of_ble_eq_true rfl) rfl ?_
  intro a A hla F
  subst hla
  unfold f_X11_say at hf
  refine rw_aload_n F dX11_say_0 rfl 0 rfl ?_
  refine rw_get F 0 (show 0 < 39 by decide) (gC_0 Z _) iw_X11_say_X11 rfl 1 (by decide) lk_X11_say_19 rfl dX11_say_1 ?_
  refine rw_iload_n F dX11_say_4 rfl 1 rfl ?_
  obtain ⟨q2, hq1, hf⟩ := bind_h hf
  refine rw_callVI F (k0 := 3) (nA := 1) (c_X5_isWitness_3 (aL a) Z _ _ _ hq1) gX11_say_X5_isWitness rfl ⟨rfl, rfl⟩ (by decide +kernel) ⟨Nat.le_of_ble_eq_true rfl, Nat.le_of_ble_eq_true rfl⟩ (show 3 < 39 by decide) (gC_3 Z _) rfl rfl rfl (Nat.le_of_ble_eq_true rfl) dX11_say_5 ?_
  refine rw_if_ne F (tgt := 14) hf dX11_say_8 (by decide) (fun hc9 hf => ?_) (fun hc9 hf => ?_)
  · refine rw_iload_n F dX11_say_14 rfl 2 rfl ?_
    refine rw_bipush F (v := 11) dX11_say_15 (by decide) ?_
    obtain ⟨q4, hq3, hf⟩ := bind_h hf
    refine rw_callSI F (nA := 2) (c_X11_isOutside (aL a) Z _ _ _ _ hq3) gX11_say_X11_isOutside rfl ⟨rfl, rfl⟩ (by decide +kernel) ⟨Nat.le_of_ble_eq_true rfl, Nat.le_of_ble_eq_true rfl⟩ rfl rfl (Nat.le_of_ble_eq_true rfl) dX11_say_17 ?_
    refine rw_if_eq F (tgt := 26) hf dX11_say_20 (by decide) (fun hc8 hf => ?_) (fun hc8 hf => ?_)
    · refine rw_aload_n F dX11_say_26 rfl 0 rfl ?_
      refine rw_get F 0 (show 0 < 39 by decide) (gC_0 Z _) iw_X11_say_X11 rfl 9 (by decide) lk_X11_say_75 rfl dX11_say_27 ?_
      refine rw_iload_n F dX11_say_30 rfl 1 rfl ?_
      refine rw_iload_n F dX11_say_31 rfl 2 rfl ?_
      obtain ⟨q6, hq5, hf⟩ := bind_h hf
      refine rw_callVI F (k0 := 32) (nA := 2) (c_X1_add_32 (aL a) Z _ _ _ _ hq5) gX11_say_X1_add rfl ⟨rfl, rfl⟩ (by decide +kernel) ⟨Nat.le_of_ble_eq_true rfl, Nat.le_of_ble_eq_true rfl⟩ (show 32 < 39 by decide) (gC_32 Z _) rfl rfl rfl (Nat.le_of_ble_eq_true rfl) dX11_say_32 ?_
      refine rw_if_eq F (tgt := 48) hf dX11_say_35 (by decide) (fun hc7 hf => ?_) (fun hc7 hf => ?_)
      · refine rw_ldc F (v := -1000000004) dX11_say_48 (by decide +kernel) ?_
        exact rw_iretS F hf rfl dX11_say_50
      · refine rw_aload_n F dX11_say_38 rfl 0 rfl ?_
        refine rw_get F 0 (show 0 < 39 by decide) (gC_0 Z _) iw_X11_say_X11 rfl 9 (by decide) lk_X11_say_75 rfl dX11_say_39 ?_
        refine rw_get F 32 (show 32 < 39 by decide) (gC_32 Z _) iw_X11_say_X1 rfl 4 (by decide) lk_X11_say_121 rfl dX11_say_42 ?_
        refine rw_goto F (tgt := 50) dX11_say_45 (by decide) ?_
        exact rw_iretS F hf rfl dX11_say_50
    · refine rw_ldc F (v := -1000000002) dX11_say_23 (by decide +kernel) ?_
      exact rw_iretS F hf rfl dX11_say_25
  · refine rw_ldc F (v := -1000000001) dX11_say_11 (by decide +kernel) ?_
    exact rw_iretS F hf rfl dX11_say_13

abbrev rm_X1_pairs_32 : Room := { frames := 1, cells := 0, slots := 0, locals := 20 }
abbrev FX_X1_pairs_32 (a : Ax) (Z : Zx) (A : Nat → Prop) : Prop := FX a (XC Z) A cX1_pairs RX1 wsX1_pairs 1 (some .int) rm_X1_pairs_32
theorem iw_X1_pairs_X1 : ∀ w ∈ wsX10, w ∈ wsX1_pairs := by decide +kernel
theorem iw_X1_pairs_X5 : ∀ w ∈ wsX50, w ∈ wsX1_pairs := by decide +kernel
theorem lk_X1_pairs_24 : Cond.fieldLink RX1 24 (TX1 0).1 (TX1 0).2.1 (TX1 0).2.2.1 ∈ wsX1_pairs := by decide +kernel
theorem lk_X1_pairs_83 : Cond.fieldLink RX1 83 (TX5 2).1 (TX5 2).2.1 (TX5 2).2.2.1 ∈ wsX1_pairs := by decide +kernel
set_option maxHeartbeats 4000000 in
set_option maxRecDepth 100000 in
theorem c_X1_pairs_32 (l : Launch) (Z : Zx) (f : Nat → Nat → Int32) (r : Int32) (hf : f_X1_pairs_32 f = some r) : MS l (XC Z) yX1_pairs wsX1_pairs rm_X1_pairs_32 [.ref (Z.2.1 32)] f (PI r f) := by
  refine MS.of (cc := cX1_pairs) (maxL := 1) (ret := (some .int)) (own := RX1) (lv := [(0, .ref (Z.2.1 32))]) (by decide) rfl rfl (Nat.le_of_ble_eq_true rfl) rfl ?_
  intro a A hla F
  subst hla
  unfold f_X1_pairs_32 at hf
  refine rw_aload_n F dX1_pairs_0 rfl 0 rfl ?_
  refine rw_get F 32 (show 32 < 39 by decide) (gC_32 Z _) iw_X1_pairs_X1 rfl 0 (by decide) lk_X1_pairs_24 rfl dX1_pairs_1 ?_
  refine rw_get F 3 (show 3 < 39 by decide) (gC_3 Z _) iw_X1_pairs_X5 rfl 2 (by decide) lk_X1_pairs_83 rfl dX1_pairs_4 ?_
  refine rw_aload_n F dX1_pairs_7 rfl 0 rfl ?_
  refine rw_get F 32 (show 32 < 39 by decide) (gC_32 Z _) iw_X1_pairs_X1 rfl 0 (by decide) lk_X1_pairs_24 rfl dX1_pairs_8 ?_
  obtain ⟨q2, hq1, hf⟩ := bind_h hf
  refine rw_callVI F (k0 := 3) (nA := 0) (c_X5_places_3 (aL a) Z  _ _ hq1) gX1_pairs_X5_places rfl ⟨rfl, rfl⟩ (by decide +kernel) ⟨Nat.le_of_ble_eq_true rfl, Nat.le_of_ble_eq_true rfl⟩ (show 3 < 39 by decide) (gC_3 Z _) rfl rfl rfl (Nat.le_of_ble_eq_true rfl) dX1_pairs_11 ?_
  refine rw_imul F dX1_pairs_14 ?_
  refine rw_iconst F (v := 1) dX1_pairs_15 (by decide) ?_
  refine rw_iadd F dX1_pairs_16 ?_
  exact rw_iret F hf rfl dX1_pairs_17

abbrev rm_X1_pairAt_32 : Room := { frames := 1, cells := 0, slots := 0, locals := 20 }
abbrev FX_X1_pairAt_32 (a : Ax) (Z : Zx) (A : Nat → Prop) : Prop := FX a (XC Z) A cX1_pairAt RX1 wsX1_pairAt 3 (some .int) rm_X1_pairAt_32
theorem iw_X1_pairAt_X1 : ∀ w ∈ wsX10, w ∈ wsX1_pairAt := by decide +kernel
theorem iw_X1_pairAt_X5 : ∀ w ∈ wsX50, w ∈ wsX1_pairAt := by decide +kernel
theorem lk_X1_pairAt_24 : Cond.fieldLink RX1 24 (TX1 0).1 (TX1 0).2.1 (TX1 0).2.2.1 ∈ wsX1_pairAt := by decide +kernel
theorem lk_X1_pairAt_83 : Cond.fieldLink RX1 83 (TX5 2).1 (TX5 2).2.1 (TX5 2).2.2.1 ∈ wsX1_pairAt := by decide +kernel
set_option maxHeartbeats 4000000 in
set_option maxRecDepth 100000 in
theorem b_X1_pairAt_32_b25 {a : Ax} {Z : Zx} {A : Nat → Prop} {r : Int32} {f : Nat → Nat → Int32} (F : FX_X1_pairAt_32 a Z A) : f_X1_pairAt_32_b25  f = some r → WS a (XC Z) A 3 (RP a (XC Z) A (PI r f)) 25 [] [] f := by
  intro  hf
  unfold f_X1_pairAt_32_b25 at hf
  refine rw_bipush F (v := 100) dX1_pairAt_25 (by decide) ?_
  exact rw_iret F hf rfl dX1_pairAt_27

set_option maxHeartbeats 4000000 in
set_option maxRecDepth 100000 in
theorem c_X1_pairAt_32 (l : Launch) (Z : Zx) (p1 : Int32) (f : Nat → Nat → Int32) (r : Int32) (hf : f_X1_pairAt_32 p1 f = some r) : MS l (XC Z) yX1_pairAt wsX1_pairAt rm_X1_pairAt_32 [.ref (Z.2.1 32), .int p1] f (PI r f) := by
  refine MS.of (cc := cX1_pairAt) (maxL := 3) (ret := (some .int)) (own := RX1) (lv := [(0, .ref (Z.2.1 32)), (1, .int p1)]) (by decide) rfl rfl (Nat.le_of_ble_eq_true rfl) rfl ?_
  intro a A hla F
  subst hla
  unfold f_X1_pairAt_32 at hf
  refine rw_aload_n F dX1_pairAt_0 rfl 0 rfl ?_
  refine rw_get F 32 (show 32 < 39 by decide) (gC_32 Z _) iw_X1_pairAt_X1 rfl 0 (by decide) lk_X1_pairAt_24 rfl dX1_pairAt_1 ?_
  obtain ⟨q2, hq1, hf⟩ := bind_h hf
  refine rw_callVI F (k0 := 3) (nA := 0) (c_X5_places_3 (aL a) Z  _ _ hq1) gX1_pairAt_X5_places rfl ⟨rfl, rfl⟩ (by decide +kernel) ⟨Nat.le_of_ble_eq_true rfl, Nat.le_of_ble_eq_true rfl⟩ (show 3 < 39 by decide) (gC_3 Z _) rfl rfl rfl (Nat.le_of_ble_eq_true rfl) dX1_pairAt_4 ?_
  refine rw_istore_n F dX1_pairAt_7 rfl (by decide) rfl ?_
  refine rw_iload_n F dX1_pairAt_8 rfl 0 rfl ?_
  refine rw_if_le F (tgt := 25) hf dX1_pairAt_9 (by decide) (fun hc6 hf => ?_) (fun hc6 hf => ?_)
  · exact WS.sub [] rfl (b_X1_pairAt_32_b25 F   hf)
  · refine rw_iload_n F dX1_pairAt_12 rfl 2 rfl ?_
    refine rw_aload_n F dX1_pairAt_13 rfl 1 rfl ?_
    refine rw_get F 32 (show 32 < 39 by decide) (gC_32 Z _) iw_X1_pairAt_X1 rfl 0 (by decide) lk_X1_pairAt_24 rfl dX1_pairAt_14 ?_
    refine rw_get F 3 (show 3 < 39 by decide) (gC_3 Z _) iw_X1_pairAt_X5 rfl 2 (by decide) lk_X1_pairAt_83 rfl dX1_pairAt_17 ?_
    refine rw_iload_n F dX1_pairAt_20 rfl 0 rfl ?_
    refine rw_imul F dX1_pairAt_21 ?_
    refine rw_icmp_lt F (tgt := 28) hf dX1_pairAt_22 (by decide) (fun hc5 hf => ?_) (fun hc5 hf => ?_)
    · refine rw_bipush F (v := 10) dX1_pairAt_28 (by decide) ?_
      refine rw_iload_n F dX1_pairAt_30 rfl 2 rfl ?_
      refine rw_iload_n F dX1_pairAt_31 rfl 0 rfl ?_
      obtain ⟨hz3, hf⟩ := dz_h hf
      refine rw_idiv F dX1_pairAt_32 hz3 ?_
      refine rw_imul F dX1_pairAt_33 ?_
      refine rw_iload_n F dX1_pairAt_34 rfl 2 rfl ?_
      refine rw_iload_n F dX1_pairAt_35 rfl 0 rfl ?_
      obtain ⟨hz4, hf⟩ := dz_h hf
      refine rw_irem F dX1_pairAt_36 hz4 ?_
      refine rw_iadd F dX1_pairAt_37 ?_
      exact rw_iret F hf rfl dX1_pairAt_38
    · exact WS.sub [] rfl (b_X1_pairAt_32_b25 F   hf)

abbrev rm_X1_soundOf : Room := { frames := 0, cells := 0, slots := 0, locals := 0 }
abbrev FX_X1_soundOf (a : Ax) (Z : Zx) (A : Nat → Prop) : Prop := FX a (XC Z) A cX1_soundOf RX1 wsX1_soundOf 1 (some .int) rm_X1_soundOf
set_option maxHeartbeats 4000000 in
set_option maxRecDepth 100000 in
theorem c_X1_soundOf (l : Launch) (Z : Zx) (p0 : Int32) (f : Nat → Nat → Int32) (r : Int32) (hf : f_X1_soundOf p0 f = some r) : MS l (XC Z) yX1_soundOf wsX1_soundOf rm_X1_soundOf [.int p0] f (PI r f) := by
  refine MS.of (cc := cX1_soundOf) (maxL := 1) (ret := (some .int)) (own := RX1) (lv := [(0, .int p0)]) (by decide) rfl rfl (Nat.le_of_ble_eq_true rfl) rfl ?_
  intro a A hla F
  subst hla
  unfold f_X1_soundOf at hf
  refine rw_iload_n F dX1_soundOf_0 rfl 0 rfl ?_
  refine rw_bipush F (v := 100) dX1_soundOf_1 (by decide) ?_
  refine rw_icmp_ne F (tgt := 10) hf dX1_soundOf_3 (by decide) (fun hc1 hf => ?_) (fun hc1 hf => ?_)
  · refine rw_iload_n F dX1_soundOf_10 rfl 0 rfl ?_
    refine rw_bipush F (v := 10) dX1_soundOf_11 (by decide) ?_
    refine rw_idiv F dX1_soundOf_13 (by decide) ?_
    exact rw_iret F hf rfl dX1_soundOf_14
  · refine rw_iconst F (v := -1) dX1_soundOf_6 (by decide) ?_
    refine rw_goto F (tgt := 14) dX1_soundOf_7 (by decide) ?_
    exact rw_iret F hf rfl dX1_soundOf_14

abbrev rm_X1_liarsOf_32 : Room := { frames := 4, cells := 0, slots := 0, locals := 96 }
abbrev FX_X1_liarsOf_32 (a : Ax) (Z : Zx) (A : Nat → Prop) : Prop := FX a (XC Z) A cX1_liarsOf RX1 wsX1_liarsOf 5 (some .int) rm_X1_liarsOf_32
theorem iw_X1_liarsOf_X1 : ∀ w ∈ wsX10, w ∈ wsX1_liarsOf := by decide +kernel
theorem lk_X1_liarsOf_9 : Cond.fieldLink RX1 9 (TX1 2).1 (TX1 2).2.1 (TX1 2).2.2.1 ∈ wsX1_liarsOf := by decide +kernel
theorem lk_X1_liarsOf_15 : Cond.fieldLink RX1 15 (TX1 3).1 (TX1 3).2.1 (TX1 3).2.2.1 ∈ wsX1_liarsOf := by decide +kernel
theorem lk_X1_liarsOf_28 : Cond.fieldLink RX1 28 (TX1 1).1 (TX1 1).2.1 (TX1 1).2.2.1 ∈ wsX1_liarsOf := by decide +kernel
theorem lk_X1_liarsOf_32 : Cond.fieldLink RX1 32 (TX1 4).1 (TX1 4).2.1 (TX1 4).2.2.1 ∈ wsX1_liarsOf := by decide +kernel
set_option maxHeartbeats 4000000 in
set_option maxRecDepth 100000 in
theorem b_X1_liarsOf_32_b55 {a : Ax} {Z : Zx} {A : Nat → Prop} {r : Int32} {f : Nat → Nat → Int32} (F : FX_X1_liarsOf_32 a Z A) (K10 : Int32 → Int32 → Int32 → Int32 → Option Int32) (hK10 : ∀ (i1 : Int32) (i2 : Int32) (i3 : Int32) (i4 : Int32), K10 i1 i2 i3 i4 = some r → WS a (XC Z) A 5 (RP a (XC Z) A (PI r f)) 10 [(0, .ref (Z.2.1 32)), (1, .int i1), (2, .int i2), (3, .int i3), (4, .int i4)] [] f) : ∀ (i1 : Int32) (i2 : Int32) (i3 : Int32) (i4 : Int32), f_X1_liarsOf_32_b55 K10 i1 i2 i3 i4 f = some r → WS a (XC Z) A 5 (RP a (XC Z) A (PI r f)) 55 [(0, .ref (Z.2.1 32)), (1, .int i1), (2, .int i2), (3, .int i3), (4, .int i4)] [] f := by
  intro i1 i2 i3 i4 hf
  unfold f_X1_liarsOf_32_b55 at hf
  refine rw_iinc F (v := 1) dX1_liarsOf_55 4 rfl (by decide) (by decide) rfl ?_
  refine rw_goto F (tgt := 10) dX1_liarsOf_58 (by decide) ?_
  exact WS.sub [1, 2, 3, 4, 0] rfl (hK10 _ _ _ _ hf)

set_option maxHeartbeats 4000000 in
set_option maxRecDepth 100000 in
theorem b_X1_liarsOf_32_b10 {a : Ax} {Z : Zx} {A : Nat → Prop} {r : Int32} {f : Nat → Nat → Int32} (F : FX_X1_liarsOf_32 a Z A) : ∀ (n : Nat) (i1 : Int32) (i2 : Int32) (i3 : Int32) (i4 : Int32), f_X1_liarsOf_32_b10 n i1 i2 i3 i4 f = some r → WS a (XC Z) A 5 (RP a (XC Z) A (PI r f)) 10 [(0, .ref (Z.2.1 32)), (1, .int i1), (2, .int i2), (3, .int i3), (4, .int i4)] [] f := by
  intro n
  induction n with
  | zero => intro i1 i2 i3 i4 hf; exact nomatch (show (none : Option Int32) = some r from hf)
  | succ n hK10 =>
    intro i1 i2 i3 i4 hf
    replace hf : f_X1_liarsOf_32_b10s (fun i1 i2 i3 i4 => f_X1_liarsOf_32_b10 n i1 i2 i3 i4 f) i1 i2 i3 i4 f = some r := hf
    unfold f_X1_liarsOf_32_b10s at hf
    refine rw_iload F dX1_liarsOf_10 4 rfl ?_
    refine rw_aload_n F dX1_liarsOf_12 rfl 0 rfl ?_
    refine rw_get F 32 (show 32 < 39 by decide) (gC_32 Z _) iw_X1_liarsOf_X1 rfl 4 (by decide) lk_X1_liarsOf_32 rfl dX1_liarsOf_13 ?_
    refine rw_icmp_ge F (tgt := 61) hf dX1_liarsOf_16 (by decide) (fun hc10 hf => ?_) (fun hc10 hf => ?_)
    · refine rw_iload_n F dX1_liarsOf_61 rfl 3 rfl ?_
      exact rw_iret F hf rfl dX1_liarsOf_62
    · refine rw_aload_n F dX1_liarsOf_19 rfl 0 rfl ?_
      refine rw_get F 32 (show 32 < 39 by decide) (gC_32 Z _) iw_X1_liarsOf_X1 rfl 1 (by decide) lk_X1_liarsOf_28 rfl dX1_liarsOf_20 ?_
      refine rw_aload_n F dX1_liarsOf_23 rfl 0 rfl ?_
      refine rw_get F 32 (show 32 < 39 by decide) (gC_32 Z _) iw_X1_liarsOf_X1 rfl 2 (by decide) lk_X1_liarsOf_9 rfl dX1_liarsOf_24 ?_
      refine rw_iload F dX1_liarsOf_27 4 rfl ?_
      obtain ⟨q4, hq3, hf⟩ := bind_h hf
      refine rw_callSI F (nA := 2) (c_X7_get (aL a) Z (show 33 < 39 by decide) (gC_33 Z) _ _ _ hq3) gX1_liarsOf_X7_get rfl ⟨rfl, rfl⟩ (by decide +kernel) ⟨Nat.le_of_ble_eq_true rfl, Nat.le_of_ble_eq_true rfl⟩ rfl rfl (Nat.le_of_ble_eq_true rfl) dX1_liarsOf_29 ?_
      refine rw_iload_n F dX1_liarsOf_32 rfl 2 rfl ?_
      refine rw_iload_n F dX1_liarsOf_33 rfl 1 rfl ?_
      refine rw_bipush F (v := 10) dX1_liarsOf_34 (by decide) ?_
      refine rw_irem F dX1_liarsOf_36 (by decide) ?_
      obtain ⟨q6, hq5, hf⟩ := bind_h hf
      refine rw_callVI F (k0 := 29) (nA := 3) (c_X2_saying_29 (aL a) Z _ _ _ _ _ hq5) gX1_liarsOf_X2_saying rfl ⟨rfl, rfl⟩ (by decide +kernel) ⟨Nat.le_of_ble_eq_true rfl, Nat.le_of_ble_eq_true rfl⟩ (show 29 < 39 by decide) (gC_29 Z _) rfl rfl rfl (Nat.le_of_ble_eq_true rfl) dX1_liarsOf_37 ?_
      refine rw_aload_n F dX1_liarsOf_40 rfl 0 rfl ?_
      refine rw_get F 32 (show 32 < 39 by decide) (gC_32 Z _) iw_X1_liarsOf_X1 rfl 3 (by decide) lk_X1_liarsOf_15 rfl dX1_liarsOf_41 ?_
      refine rw_iload F dX1_liarsOf_44 4 rfl ?_
      obtain ⟨q8, hq7, hf⟩ := bind_h hf
      refine rw_callSI F (nA := 2) (c_X7_get (aL a) Z (show 34 < 39 by decide) (gC_34 Z) _ _ _ hq7) gX1_liarsOf_X7_get rfl ⟨rfl, rfl⟩ (by decide +kernel) ⟨Nat.le_of_ble_eq_true rfl, Nat.le_of_ble_eq_true rfl⟩ rfl rfl (Nat.le_of_ble_eq_true rfl) dX1_liarsOf_46 ?_
      refine rw_icmp_eq F (tgt := 55) hf dX1_liarsOf_49 (by decide) (fun hc9 hf => ?_) (fun hc9 hf => ?_)
      · exact WS.sub [0, 1, 2, 3, 4] rfl (b_X1_liarsOf_32_b55 F _ hK10 _ _ _ _ hf)
      · refine rw_iinc F (v := 1) dX1_liarsOf_52 3 rfl (by decide) (by decide) rfl ?_
        exact WS.sub [1, 2, 3, 0, 4] rfl (b_X1_liarsOf_32_b55 F _ hK10 _ _ _ _ hf)

set_option maxHeartbeats 4000000 in
set_option maxRecDepth 100000 in
theorem c_X1_liarsOf_32 (l : Launch) (Z : Zx) (p1 : Int32) (f : Nat → Nat → Int32) (r : Int32) (hf : f_X1_liarsOf_32 p1 f = some r) : MS l (XC Z) yX1_liarsOf wsX1_liarsOf rm_X1_liarsOf_32 [.ref (Z.2.1 32), .int p1] f (PI r f) := by
  refine MS.of (cc := cX1_liarsOf) (maxL := 5) (ret := (some .int)) (own := RX1) (lv := [(0, .ref (Z.2.1 32)), (1, .int p1)]) (by decide) rfl rfl (Nat.le_of_ble_eq_true rfl) rfl ?_
  intro a A hla F
  subst hla
  unfold f_X1_liarsOf_32 at hf
  refine rw_iload_n F dX1_liarsOf_0 rfl 1 rfl ?_
  obtain ⟨q2, hq1, hf⟩ := bind_h hf
  refine rw_callSI F (nA := 1) (c_X1_soundOf (aL a) Z _ _ _ hq1) gX1_liarsOf_X1_soundOf rfl ⟨rfl, rfl⟩ (by decide +kernel) ⟨Nat.le_of_ble_eq_true rfl, Nat.le_of_ble_eq_true rfl⟩ rfl rfl (Nat.le_of_ble_eq_true rfl) dX1_liarsOf_1 ?_
  refine rw_istore_n F dX1_liarsOf_4 rfl (by decide) rfl ?_
  refine rw_iconst F (v := 0) dX1_liarsOf_5 (by decide) ?_
  refine rw_istore_n F dX1_liarsOf_6 rfl (by decide) rfl ?_
  refine rw_iconst F (v := 0) dX1_liarsOf_7 (by decide) ?_
  refine rw_istore F dX1_liarsOf_8 (by decide) rfl ?_
  exact WS.sub [3, 4, 2, 1, 0] rfl (b_X1_liarsOf_32_b10 F  fuB _ _ _ _ hf)

abbrev rm_X1_gatherBirths_32 : Room := { frames := 5, cells := 0, slots := 0, locals := 120 }
abbrev FX_X1_gatherBirths_32 (a : Ax) (Z : Zx) (A : Nat → Prop) : Prop := FX a (XC Z) A cX1_gatherBirths RX1 wsX1_gatherBirths 3 none rm_X1_gatherBirths_32
theorem iw_X1_gatherBirths_X1 : ∀ w ∈ wsX10, w ∈ wsX1_gatherBirths := by decide +kernel
theorem lk_X1_gatherBirths_18 : Cond.fieldLink RX1 18 (TX1 5).1 (TX1 5).2.1 (TX1 5).2.2.1 ∈ wsX1_gatherBirths := by decide +kernel
theorem lk_X1_gatherBirths_56 : Cond.fieldLink RX1 56 (TX1 6).1 (TX1 6).2.1 (TX1 6).2.2.1 ∈ wsX1_gatherBirths := by decide +kernel
set_option maxHeartbeats 4000000 in
set_option maxRecDepth 100000 in
theorem b_X1_gatherBirths_32_b51 {a : Ax} {Z : Zx} {A : Nat → Prop} {r : Nat → Nat → Int32} (F : FX_X1_gatherBirths_32 a Z A) (K7 : Int32 → (Nat → Nat → Int32) → Option (Nat → Nat → Int32)) (hK7 : ∀ (i1 : Int32) (f : Nat → Nat → Int32), K7 i1 f = some r → WS a (XC Z) A 3 (RP a (XC Z) A (PV r)) 7 [(0, .ref (Z.2.1 32)), (1, .int i1)] [] f) : ∀ (i1 : Int32) (f : Nat → Nat → Int32), f_X1_gatherBirths_32_b51 K7 i1 f = some r → WS a (XC Z) A 3 (RP a (XC Z) A (PV r)) 51 [(0, .ref (Z.2.1 32)), (1, .int i1)] [] f := by
  intro i1 f hf
  unfold f_X1_gatherBirths_32_b51 at hf
  refine rw_iinc F (v := 1) dX1_gatherBirths_51 1 rfl (by decide) (by decide) rfl ?_
  refine rw_goto F (tgt := 7) dX1_gatherBirths_54 (by decide) ?_
  exact WS.sub [1, 0] rfl (hK7 _ _ hf)

set_option maxHeartbeats 4000000 in
set_option maxRecDepth 100000 in
theorem b_X1_gatherBirths_32_b7 {a : Ax} {Z : Zx} {A : Nat → Prop} {r : Nat → Nat → Int32} (F : FX_X1_gatherBirths_32 a Z A) : ∀ (n : Nat) (i1 : Int32) (f : Nat → Nat → Int32), f_X1_gatherBirths_32_b7 n i1 f = some r → WS a (XC Z) A 3 (RP a (XC Z) A (PV r)) 7 [(0, .ref (Z.2.1 32)), (1, .int i1)] [] f := by
  intro n
  induction n with
  | zero => intro i1 f hf; exact nomatch (show (none : Option (Nat → Nat → Int32)) = some r from hf)
  | succ n hK7 =>
    intro i1 f hf
    replace hf : f_X1_gatherBirths_32_b7s (f_X1_gatherBirths_32_b7 n) i1 f = some r := hf
    unfold f_X1_gatherBirths_32_b7s at hf
    refine rw_iload_n F dX1_gatherBirths_7 rfl 1 rfl ?_
    refine rw_aload_n F dX1_gatherBirths_8 rfl 0 rfl ?_
    obtain ⟨q2, hq1, hf⟩ := bind_h hf
    refine rw_callVI F (k0 := 32) (nA := 0) (c_X1_pairs_32 (aL a) Z  _ _ hq1) gX1_gatherBirths_X1_pairs rfl ⟨rfl, rfl⟩ (by decide +kernel) ⟨Nat.le_of_ble_eq_true rfl, Nat.le_of_ble_eq_true rfl⟩ (show 32 < 39 by decide) (gC_32 Z _) rfl rfl rfl (Nat.le_of_ble_eq_true rfl) dX1_gatherBirths_9 ?_
    refine rw_icmp_ge F (tgt := 57) hf dX1_gatherBirths_12 (by decide) (fun hc10 hf => ?_) (fun hc10 hf => ?_)
    · exact rw_vret F hf rfl dX1_gatherBirths_57
    · refine rw_aload_n F dX1_gatherBirths_15 rfl 0 rfl ?_
      refine rw_iload_n F dX1_gatherBirths_16 rfl 1 rfl ?_
      obtain ⟨q4, hq3, hf⟩ := bind_h hf
      refine rw_callVI F (k0 := 32) (nA := 1) (c_X1_pairAt_32 (aL a) Z _ _ _ hq3) gX1_gatherBirths_X1_pairAt rfl ⟨rfl, rfl⟩ (by decide +kernel) ⟨Nat.le_of_ble_eq_true rfl, Nat.le_of_ble_eq_true rfl⟩ (show 32 < 39 by decide) (gC_32 Z _) rfl rfl rfl (Nat.le_of_ble_eq_true rfl) dX1_gatherBirths_17 ?_
      refine rw_istore_n F dX1_gatherBirths_20 rfl (by decide) rfl ?_
      refine rw_aload_n F dX1_gatherBirths_21 rfl 1 rfl ?_
      refine rw_iload_n F dX1_gatherBirths_22 rfl 0 rfl ?_
      obtain ⟨q6, hq5, hf⟩ := bind_h hf
      refine rw_callVI F (k0 := 32) (nA := 1) (c_X1_liarsOf_32 (aL a) Z _ _ _ hq5) gX1_gatherBirths_X1_liarsOf rfl ⟨rfl, rfl⟩ (by decide +kernel) ⟨Nat.le_of_ble_eq_true rfl, Nat.le_of_ble_eq_true rfl⟩ (show 32 < 39 by decide) (gC_32 Z _) rfl rfl rfl (Nat.le_of_ble_eq_true rfl) dX1_gatherBirths_23 ?_
      refine rw_if_ne F (tgt := 51) hf dX1_gatherBirths_26 (by decide) (fun hc9 hf => ?_) (fun hc9 hf => ?_)
      · exact WS.sub [1, 2] rfl (b_X1_gatherBirths_32_b51 F _ hK7 _ _ hf)
      · refine rw_aload_n F dX1_gatherBirths_29 rfl 1 rfl ?_
        refine rw_get F 32 (show 32 < 39 by decide) (gC_32 Z _) iw_X1_gatherBirths_X1 rfl 5 (by decide) lk_X1_gatherBirths_18 rfl dX1_gatherBirths_30 ?_
        refine rw_aload_n F dX1_gatherBirths_33 rfl 1 rfl ?_
        refine rw_get F 32 (show 32 < 39 by decide) (gC_32 Z _) iw_X1_gatherBirths_X1 rfl 6 (by decide) lk_X1_gatherBirths_56 rfl dX1_gatherBirths_34 ?_
        refine rw_iload_n F dX1_gatherBirths_37 rfl 0 rfl ?_
        obtain ⟨q8, hq7, hf⟩ := bind_h hf
        refine rw_callSV F (nA := 3) (c_X7_put (aL a) Z (show 35 < 39 by decide) (gC_35 Z) _ _ _ _ hq7) gX1_gatherBirths_X7_put rfl ⟨rfl, rfl⟩ (by decide +kernel) ⟨Nat.le_of_ble_eq_true rfl, Nat.le_of_ble_eq_true rfl⟩ rfl rfl (Nat.le_of_ble_eq_true rfl) dX1_gatherBirths_38 ?_
        refine rw_aload_n F dX1_gatherBirths_41 rfl 1 rfl ?_
        refine rw_dup F dX1_gatherBirths_42 rfl ?_
        refine rw_get F 32 (show 32 < 39 by decide) (gC_32 Z _) iw_X1_gatherBirths_X1 rfl 6 (by decide) lk_X1_gatherBirths_56 rfl dX1_gatherBirths_43 ?_
        refine rw_iconst F (v := 1) dX1_gatherBirths_46 (by decide) ?_
        refine rw_iadd F dX1_gatherBirths_47 ?_
        refine rw_put F 32 (show 32 < 39 by decide) (gC_32 Z) iw_X1_gatherBirths_X1 tyX1 tyX1_ok nmX1 rfl 6 (by decide) lk_X1_gatherBirths_56 rfl rfl rfl (fun _ => by rw [lnC32]; decide) (stC32_6 Z.2.1) dX1_gatherBirths_48 ?_
        exact WS.sub [1, 2] rfl (b_X1_gatherBirths_32_b51 F _ hK7 _ _ hf)

set_option maxHeartbeats 4000000 in
set_option maxRecDepth 100000 in
theorem c_X1_gatherBirths_32 (l : Launch) (Z : Zx) (f : Nat → Nat → Int32) (r : Nat → Nat → Int32) (hf : f_X1_gatherBirths_32 f = some r) : MS l (XC Z) yX1_gatherBirths wsX1_gatherBirths rm_X1_gatherBirths_32 [.ref (Z.2.1 32)] f (PV r) := by
  refine MS.of (cc := cX1_gatherBirths) (maxL := 3) (ret := none) (own := RX1) (lv := [(0, .ref (Z.2.1 32))]) (by decide) rfl rfl (Nat.le_of_ble_eq_true rfl) rfl ?_
  intro a A hla F
  subst hla
  unfold f_X1_gatherBirths_32 at hf
  refine rw_aload_n F dX1_gatherBirths_0 rfl 0 rfl ?_
  refine rw_iconst F (v := 0) dX1_gatherBirths_1 (by decide) ?_
  refine rw_put F 32 (show 32 < 39 by decide) (gC_32 Z) iw_X1_gatherBirths_X1 tyX1 tyX1_ok nmX1 rfl 6 (by decide) lk_X1_gatherBirths_56 rfl rfl rfl (fun _ => by rw [lnC32]; decide) (stC32_6 Z.2.1) dX1_gatherBirths_2 ?_
  refine rw_iconst F (v := 0) dX1_gatherBirths_5 (by decide) ?_
  refine rw_istore_n F dX1_gatherBirths_6 rfl (by decide) rfl ?_
  exact WS.sub [1, 0] rfl (b_X1_gatherBirths_32_b7 F  fuB _ _ hf)

abbrev rm_X1_birthAt_32 : Room := { frames := 1, cells := 0, slots := 0, locals := 21 }
abbrev FX_X1_birthAt_32 (a : Ax) (Z : Zx) (A : Nat → Prop) : Prop := FX a (XC Z) A cX1_birthAt RX1 wsX1_birthAt 2 (some .int) rm_X1_birthAt_32
theorem iw_X1_birthAt_X1 : ∀ w ∈ wsX10, w ∈ wsX1_birthAt := by decide +kernel
theorem lk_X1_birthAt_18 : Cond.fieldLink RX1 18 (TX1 5).1 (TX1 5).2.1 (TX1 5).2.2.1 ∈ wsX1_birthAt := by decide +kernel
theorem lk_X1_birthAt_56 : Cond.fieldLink RX1 56 (TX1 6).1 (TX1 6).2.1 (TX1 6).2.2.1 ∈ wsX1_birthAt := by decide +kernel
set_option maxHeartbeats 4000000 in
set_option maxRecDepth 100000 in
theorem c_X1_birthAt_32 (l : Launch) (Z : Zx) (p1 : Int32) (f : Nat → Nat → Int32) (r : Int32) (hf : f_X1_birthAt_32 p1 f = some r) : MS l (XC Z) yX1_birthAt wsX1_birthAt rm_X1_birthAt_32 [.ref (Z.2.1 32), .int p1] f (PI r f) := by
  refine MS.of (cc := cX1_birthAt) (maxL := 2) (ret := (some .int)) (own := RX1) (lv := [(0, .ref (Z.2.1 32)), (1, .int p1)]) (by decide) rfl rfl (Nat.le_of_ble_eq_true rfl) rfl ?_
  intro a A hla F
  subst hla
  unfold f_X1_birthAt_32 at hf
  refine rw_iload_n F dX1_birthAt_0 rfl 1 rfl ?_
  refine rw_if_lt F (tgt := 23) hf dX1_birthAt_1 (by decide) (fun hc4 hf => ?_) (fun hc4 hf => ?_)
  · refine rw_iconst F (v := -1) dX1_birthAt_23 (by decide) ?_
    exact rw_iret F hf rfl dX1_birthAt_24
  · refine rw_iload_n F dX1_birthAt_4 rfl 1 rfl ?_
    refine rw_aload_n F dX1_birthAt_5 rfl 0 rfl ?_
    refine rw_get F 32 (show 32 < 39 by decide) (gC_32 Z _) iw_X1_birthAt_X1 rfl 6 (by decide) lk_X1_birthAt_56 rfl dX1_birthAt_6 ?_
    refine rw_icmp_ge F (tgt := 23) hf dX1_birthAt_9 (by decide) (fun hc3 hf => ?_) (fun hc3 hf => ?_)
    · refine rw_iconst F (v := -1) dX1_birthAt_23 (by decide) ?_
      exact rw_iret F hf rfl dX1_birthAt_24
    · refine rw_aload_n F dX1_birthAt_12 rfl 0 rfl ?_
      refine rw_get F 32 (show 32 < 39 by decide) (gC_32 Z _) iw_X1_birthAt_X1 rfl 5 (by decide) lk_X1_birthAt_18 rfl dX1_birthAt_13 ?_
      refine rw_iload_n F dX1_birthAt_16 rfl 1 rfl ?_
      obtain ⟨q2, hq1, hf⟩ := bind_h hf
      refine rw_callSI F (nA := 2) (c_X7_get (aL a) Z (show 35 < 39 by decide) (gC_35 Z) _ _ _ hq1) gX1_birthAt_X7_get rfl ⟨rfl, rfl⟩ (by decide +kernel) ⟨Nat.le_of_ble_eq_true rfl, Nat.le_of_ble_eq_true rfl⟩ rfl rfl (Nat.le_of_ble_eq_true rfl) dX1_birthAt_17 ?_
      refine rw_goto F (tgt := 24) dX1_birthAt_20 (by decide) ?_
      exact rw_iret F hf rfl dX1_birthAt_24

