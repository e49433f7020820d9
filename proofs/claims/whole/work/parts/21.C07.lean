abbrev rm_X6_readClause_10 : Room := { frames := 4, cells := 0, slots := 0, locals := 90 }
abbrev FX_X6_readClause_10 (a : Ax) (Z : Zx) (A : Nat → Prop) : Prop := FX a (XC Z) A cX6_readClause RX6 wsX6_readClause 3 none rm_X6_readClause_10
theorem iw_X6_readClause_X6 : ∀ w ∈ wsX60, w ∈ wsX6_readClause := by decide +kernel
theorem lk_X6_readClause_12 : Cond.fieldLink RX6 12 (TX6 1).1 (TX6 1).2.1 (TX6 1).2.2.1 ∈ wsX6_readClause := by decide +kernel
theorem lk_X6_readClause_22 : Cond.fieldLink RX6 22 (TX6 0).1 (TX6 0).2.1 (TX6 0).2.2.1 ∈ wsX6_readClause := by decide +kernel
theorem lk_X6_readClause_32 : Cond.fieldLink RX6 32 (TX6 4).1 (TX6 4).2.1 (TX6 4).2.2.1 ∈ wsX6_readClause := by decide +kernel
set_option maxHeartbeats 4000000 in
set_option maxRecDepth 100000 in
theorem b_X6_readClause_10_b50 {a : Ax} {Z : Zx} {A : Nat → Prop} {r : Nat → Nat → Int32} (F : FX_X6_readClause_10 a Z A) : ∀ (i1 : Int32) (i2 : Int32) (f : Nat → Nat → Int32), f_X6_readClause_10_b50 i1 i2 f = some r → WS a (XC Z) A 3 (RP a (XC Z) A (PV r)) 50 [(0, .ref (Z.2.1 10)), (1, .int i1), (2, .int i2)] [] f := by
  intro i1 i2 f hf
  unfold f_X6_readClause_10_b50 at hf
  refine rw_iload_n F dX6_readClause_50 rfl 2 rfl ?_
  rcases if_h hf with ⟨he15, hf⟩ | ⟨he15, hf⟩
  · refine rw_lookup F (tgt := 92) dX6_readClause_51 (by decide) (by first | (rw [he15]; done) | (rw [he15]; rfl)) (by decide) ?_
    refine rw_aload_n F dX6_readClause_92 rfl 0 rfl ?_
    refine rw_iload_n F dX6_readClause_93 rfl 1 rfl ?_
    obtain ⟨q6, hq5, hf⟩ := bind_h hf
    refine rw_callVV F (k0 := 10) (nA := 1) (c_X6_readWalls_10 (aL a) Z _ _ _ hq5) gX6_readClause_X6_readWalls rfl ⟨rfl, rfl⟩ (by decide +kernel) ⟨Nat.le_of_ble_eq_true rfl, Nat.le_of_ble_eq_true rfl⟩ (show 10 < 39 by decide) (gC_10 Z _) rfl rfl rfl (Nat.le_of_ble_eq_true rfl) dX6_readClause_94 ?_
    refine rw_goto F (tgt := 130) dX6_readClause_97 (by decide) ?_
    exact rw_vret F hf rfl dX6_readClause_130
  · rcases if_h hf with ⟨he16, hf⟩ | ⟨he16, hf⟩
    · refine rw_lookup F (tgt := 108) dX6_readClause_51 (by decide) (by first | (rw [he16]; done) | (rw [he16]; rfl)) (by decide) ?_
      refine rw_aload_n F dX6_readClause_108 rfl 0 rfl ?_
      refine rw_iload_n F dX6_readClause_109 rfl 1 rfl ?_
      obtain ⟨q8, hq7, hf⟩ := bind_h hf
      refine rw_callVV F (k0 := 10) (nA := 1) (c_X6_readSound_10 (aL a) Z _ _ _ hq7) gX6_readClause_X6_readSound rfl ⟨rfl, rfl⟩ (by decide +kernel) ⟨Nat.le_of_ble_eq_true rfl, Nat.le_of_ble_eq_true rfl⟩ (show 10 < 39 by decide) (gC_10 Z _) rfl rfl rfl (Nat.le_of_ble_eq_true rfl) dX6_readClause_110 ?_
      refine rw_goto F (tgt := 130) dX6_readClause_113 (by decide) ?_
      exact rw_vret F hf rfl dX6_readClause_130
    · rcases if_h hf with ⟨he17, hf⟩ | ⟨he17, hf⟩
      · refine rw_lookup F (tgt := 100) dX6_readClause_51 (by decide) (by first | (rw [he17]; done) | (rw [he17]; rfl)) (by decide) ?_
        refine rw_aload_n F dX6_readClause_100 rfl 0 rfl ?_
        refine rw_iload_n F dX6_readClause_101 rfl 1 rfl ?_
        obtain ⟨q10, hq9, hf⟩ := bind_h hf
        refine rw_callVV F (k0 := 10) (nA := 1) (c_X6_readWind_10 (aL a) Z _ _ _ hq9) gX6_readClause_X6_readWind rfl ⟨rfl, rfl⟩ (by decide +kernel) ⟨Nat.le_of_ble_eq_true rfl, Nat.le_of_ble_eq_true rfl⟩ (show 10 < 39 by decide) (gC_10 Z _) rfl rfl rfl (Nat.le_of_ble_eq_true rfl) dX6_readClause_102 ?_
        refine rw_goto F (tgt := 130) dX6_readClause_105 (by decide) ?_
        exact rw_vret F hf rfl dX6_readClause_130
      · rcases if_h hf with ⟨he18, hf⟩ | ⟨he18, hf⟩
        · refine rw_lookup F (tgt := 116) dX6_readClause_51 (by decide) (by first | (rw [he18]; done) | (rw [he18]; rfl)) (by decide) ?_
          refine rw_aload_n F dX6_readClause_116 rfl 0 rfl ?_
          refine rw_iload_n F dX6_readClause_117 rfl 1 rfl ?_
          obtain ⟨q12, hq11, hf⟩ := bind_h hf
          refine rw_callVV F (k0 := 10) (nA := 1) (c_X6_readWitness_10 (aL a) Z _ _ _ hq11) gX6_readClause_X6_readWitness rfl ⟨rfl, rfl⟩ (by decide +kernel) ⟨Nat.le_of_ble_eq_true rfl, Nat.le_of_ble_eq_true rfl⟩ (show 10 < 39 by decide) (gC_10 Z _) rfl rfl rfl (Nat.le_of_ble_eq_true rfl) dX6_readClause_118 ?_
          refine rw_goto F (tgt := 130) dX6_readClause_121 (by decide) ?_
          exact rw_vret F hf rfl dX6_readClause_130
        · refine rw_lookup F (tgt := 124) dX6_readClause_51 (by decide) (by (show Op.lookupswitch.offset [(104, 41), (115, 57), (118, 49), (119, 65)] (73) _ = (73 : Int)); rw [lv_osw he15 (by decide), lv_osw he16 (by decide), lv_osw he17 (by decide), lv_osw he18 (by decide)]; rfl) (by decide) ?_
          refine rw_aload_n F dX6_readClause_124 rfl 0 rfl ?_
          refine rw_iconst F (v := 1) dX6_readClause_125 (by decide) ?_
          refine rw_iload_n F dX6_readClause_126 rfl 1 rfl ?_
          obtain ⟨q14, hq13, hf⟩ := bind_h hf
          refine rw_callVV F (k0 := 10) (nA := 2) (c_X6_fail_10 (aL a) Z _ _ _ _ hq13) gX6_readClause_X6_fail rfl ⟨rfl, rfl⟩ (by decide +kernel) ⟨Nat.le_of_ble_eq_true rfl, Nat.le_of_ble_eq_true rfl⟩ (show 10 < 39 by decide) (gC_10 Z _) rfl rfl rfl (Nat.le_of_ble_eq_true rfl) dX6_readClause_127 ?_
          exact rw_vret F hf rfl dX6_readClause_130

set_option maxHeartbeats 4000000 in
set_option maxRecDepth 100000 in
theorem c_X6_readClause_10 (l : Launch) (Z : Zx) (f : Nat → Nat → Int32) (r : Nat → Nat → Int32) (hf : f_X6_readClause_10 f = some r) : MS l (XC Z) yX6_readClause wsX6_readClause rm_X6_readClause_10 [.ref (Z.2.1 10)] f (PV r) := by
  refine MS.of (cc := cX6_readClause) (maxL := 3) (ret := none) (own := RX6) (lv := [(0, .ref (Z.2.1 10))]) (by decide) rfl rfl (Nat.le_of_ble_eq_true rfl) rfl ?_
  intro a A hla F
  subst hla
  unfold f_X6_readClause_10 at hf
  refine rw_aload_n F dX6_readClause_0 rfl 0 rfl ?_
  refine rw_get F 10 (show 10 < 39 by decide) (gC_10 Z _) iw_X6_readClause_X6 rfl 4 (by decide) lk_X6_readClause_32 rfl dX6_readClause_1 ?_
  refine rw_istore_n F dX6_readClause_4 rfl (by decide) rfl ?_
  refine rw_aload_n F dX6_readClause_5 rfl 1 rfl ?_
  refine rw_get F 10 (show 10 < 39 by decide) (gC_10 Z _) iw_X6_readClause_X6 rfl 0 (by decide) lk_X6_readClause_22 rfl dX6_readClause_6 ?_
  refine rw_aload_n F dX6_readClause_9 rfl 1 rfl ?_
  refine rw_get F 10 (show 10 < 39 by decide) (gC_10 Z _) iw_X6_readClause_X6 rfl 4 (by decide) lk_X6_readClause_32 rfl dX6_readClause_10 ?_
  obtain ⟨q2, hq1, hf⟩ := bind_h hf
  refine rw_callVI F (k0 := 1) (nA := 1) (c_X9_letterAt_1 (aL a) Z _ _ _ hq1) gX6_readClause_X9_letterAt rfl ⟨rfl, rfl⟩ (by decide +kernel) ⟨Nat.le_of_ble_eq_true rfl, Nat.le_of_ble_eq_true rfl⟩ (show 1 < 39 by decide) (gC_1 Z _) rfl rfl rfl (Nat.le_of_ble_eq_true rfl) dX6_readClause_13 ?_
  refine rw_istore_n F dX6_readClause_16 rfl (by decide) rfl ?_
  refine rw_aload_n F dX6_readClause_17 rfl 2 rfl ?_
  refine rw_dup F dX6_readClause_18 rfl ?_
  refine rw_get F 10 (show 10 < 39 by decide) (gC_10 Z _) iw_X6_readClause_X6 rfl 4 (by decide) lk_X6_readClause_32 rfl dX6_readClause_19 ?_
  refine rw_iconst F (v := 1) dX6_readClause_22 (by decide) ?_
  refine rw_iadd F dX6_readClause_23 ?_
  refine rw_put F 10 (show 10 < 39 by decide) (gC_10 Z) iw_X6_readClause_X6 tyX6 tyX6_ok nmX6 rfl 4 (by decide) lk_X6_readClause_32 rfl rfl rfl (fun _ => by rw [lnC10]; decide) (stC10_4 Z.2.1) dX6_readClause_24 ?_
  refine rw_aload_n F dX6_readClause_27 rfl 2 rfl ?_
  refine rw_get F 10 (show 10 < 39 by decide) (gC_10 Z _) iw_X6_readClause_X6 rfl 1 (by decide) lk_X6_readClause_12 rfl dX6_readClause_28 ?_
  obtain ⟨q4, hq3, hf⟩ := bind_h hf
  refine rw_callVI F (k0 := 11) (nA := 0) (c_X5_stands_11 (aL a) Z  _ _ hq3) gX6_readClause_X5_stands rfl ⟨rfl, rfl⟩ (by decide +kernel) ⟨Nat.le_of_ble_eq_true rfl, Nat.le_of_ble_eq_true rfl⟩ (show 11 < 39 by decide) (gC_11 Z _) rfl rfl rfl (Nat.le_of_ble_eq_true rfl) dX6_readClause_31 ?_
  refine rw_if_ne F (tgt := 50) hf dX6_readClause_34 (by decide) (fun hc22 hf => ?_) (fun hc22 hf => ?_)
  · exact WS.sub [2, 1, 0] rfl (b_X6_readClause_10_b50 F  _ _ _ hf)
  · refine rw_iload_n F dX6_readClause_37 rfl 0 rfl ?_
    refine rw_bipush F (v := 104) dX6_readClause_38 (by decide) ?_
    refine rw_icmp_eq F (tgt := 50) hf dX6_readClause_40 (by decide) (fun hc21 hf => ?_) (fun hc21 hf => ?_)
    · exact WS.sub [2, 1, 0] rfl (b_X6_readClause_10_b50 F  _ _ _ hf)
    · refine rw_aload_n F dX6_readClause_43 rfl 2 rfl ?_
      refine rw_iconst F (v := 1) dX6_readClause_44 (by decide) ?_
      refine rw_iload_n F dX6_readClause_45 rfl 1 rfl ?_
      obtain ⟨q20, hq19, hf⟩ := bind_h hf
      refine rw_callVV F (k0 := 10) (nA := 2) (c_X6_fail_10 (aL a) Z _ _ _ _ hq19) gX6_readClause_X6_fail rfl ⟨rfl, rfl⟩ (by decide +kernel) ⟨Nat.le_of_ble_eq_true rfl, Nat.le_of_ble_eq_true rfl⟩ (show 10 < 39 by decide) (gC_10 Z _) rfl rfl rfl (Nat.le_of_ble_eq_true rfl) dX6_readClause_46 ?_
      exact rw_vret F hf rfl dX6_readClause_49

abbrev rm_X6_read_10 : Room := { frames := 5, cells := 0, slots := 0, locals := 112 }
abbrev FX_X6_read_10 (a : Ax) (Z : Zx) (A : Nat → Prop) : Prop := FX a (XC Z) A cX6_read RX6 wsX6_read 2 none rm_X6_read_10
theorem iw_X6_read_X6 : ∀ w ∈ wsX60, w ∈ wsX6_read := by decide +kernel
theorem iw_X6_read_X9 : ∀ w ∈ wsX90, w ∈ wsX6_read := by decide +kernel
theorem lk_X6_read_12 : Cond.fieldLink RX6 12 (TX6 1).1 (TX6 1).2.1 (TX6 1).2.2.1 ∈ wsX6_read := by decide +kernel
theorem lk_X6_read_18 : Cond.fieldLink RX6 18 (TX6 3).1 (TX6 3).2.1 (TX6 3).2.2.1 ∈ wsX6_read := by decide +kernel
theorem lk_X6_read_22 : Cond.fieldLink RX6 22 (TX6 0).1 (TX6 0).2.1 (TX6 0).2.2.1 ∈ wsX6_read := by decide +kernel
theorem lk_X6_read_29 : Cond.fieldLink RX6 29 (TX6 2).1 (TX6 2).2.1 (TX6 2).2.2.1 ∈ wsX6_read := by decide +kernel
theorem lk_X6_read_32 : Cond.fieldLink RX6 32 (TX6 4).1 (TX6 4).2.1 (TX6 4).2.2.1 ∈ wsX6_read := by decide +kernel
theorem lk_X6_read_35 : Cond.fieldLink RX6 35 (TX6 5).1 (TX6 5).2.1 (TX6 5).2.2.1 ∈ wsX6_read := by decide +kernel
theorem lk_X6_read_42 : Cond.fieldLink RX6 42 (TX9 1).1 (TX9 1).2.1 (TX9 1).2.2.1 ∈ wsX6_read := by decide +kernel
set_option maxHeartbeats 4000000 in
set_option maxRecDepth 100000 in
theorem b_X6_read_10_b33 {a : Ax} {Z : Zx} {A : Nat → Prop} {r : Nat → Nat → Int32} (F : FX_X6_read_10 a Z A) : ∀ (n : Nat) (i1 : Int32) (f : Nat → Nat → Int32), f_X6_read_10_b33 n i1 f = some r → WS a (XC Z) A 2 (RP a (XC Z) A (PV r)) 33 [(0, .ref (Z.2.1 10)), (1, .int i1)] [] f := by
  intro n
  induction n with
  | zero => intro i1 f hf; exact nomatch (show (none : Option (Nat → Nat → Int32)) = some r from hf)
  | succ n hK33 =>
    intro i1 f hf
    replace hf : f_X6_read_10_b33s (f_X6_read_10_b33 n) i1 f = some r := hf
    unfold f_X6_read_10_b33s at hf
    refine rw_iload_n F dX6_read_33 rfl 1 rfl ?_
    refine rw_sipush F (v := 240) dX6_read_34 (by decide) ?_
    refine rw_icmp_ge F (tgt := 75) hf dX6_read_37 (by decide) (fun hc11 hf => ?_) (fun hc11 hf => ?_)
    · exact rw_vret F hf rfl dX6_read_75
    · refine rw_aload_n F dX6_read_40 rfl 0 rfl ?_
      refine rw_get F 10 (show 10 < 39 by decide) (gC_10 Z _) iw_X6_read_X6 rfl 2 (by decide) lk_X6_read_29 rfl dX6_read_41 ?_
      refine rw_if_ne F (tgt := 75) hf dX6_read_44 (by decide) (fun hc10 hf => ?_) (fun hc10 hf => ?_)
      · exact rw_vret F hf rfl dX6_read_75
      · refine rw_aload_n F dX6_read_47 rfl 0 rfl ?_
        refine rw_get F 10 (show 10 < 39 by decide) (gC_10 Z _) iw_X6_read_X6 rfl 4 (by decide) lk_X6_read_32 rfl dX6_read_48 ?_
        refine rw_aload_n F dX6_read_51 rfl 0 rfl ?_
        refine rw_get F 10 (show 10 < 39 by decide) (gC_10 Z _) iw_X6_read_X6 rfl 0 (by decide) lk_X6_read_22 rfl dX6_read_52 ?_
        refine rw_get F 1 (show 1 < 39 by decide) (gC_1 Z _) iw_X6_read_X9 rfl 1 (by decide) lk_X6_read_42 rfl dX6_read_55 ?_
        refine rw_icmp_ge F (tgt := 75) hf dX6_read_58 (by decide) (fun hc9 hf => ?_) (fun hc9 hf => ?_)
        · exact rw_vret F hf rfl dX6_read_75
        · refine rw_aload_n F dX6_read_61 rfl 0 rfl ?_
          obtain ⟨q6, hq5, hf⟩ := bind_h hf
          refine rw_callVV F (k0 := 10) (nA := 0) (c_X6_readClause_10 (aL a) Z  _ _ hq5) gX6_read_X6_readClause rfl ⟨rfl, rfl⟩ (by decide +kernel) ⟨Nat.le_of_ble_eq_true rfl, Nat.le_of_ble_eq_true rfl⟩ (show 10 < 39 by decide) (gC_10 Z _) rfl rfl rfl (Nat.le_of_ble_eq_true rfl) dX6_read_62 ?_
          refine rw_aload_n F dX6_read_65 rfl 0 rfl ?_
          obtain ⟨q8, hq7, hf⟩ := bind_h hf
          refine rw_callVV F (k0 := 10) (nA := 0) (c_X6_skipBlanks_10 (aL a) Z  _ _ hq7) gX6_read_X6_skipBlanks rfl ⟨rfl, rfl⟩ (by decide +kernel) ⟨Nat.le_of_ble_eq_true rfl, Nat.le_of_ble_eq_true rfl⟩ (show 10 < 39 by decide) (gC_10 Z _) rfl rfl rfl (Nat.le_of_ble_eq_true rfl) dX6_read_66 ?_
          refine rw_iinc F (v := 1) dX6_read_69 1 rfl (by decide) (by decide) rfl ?_
          refine rw_goto F (tgt := 33) dX6_read_72 (by decide) ?_
          exact WS.sub [1, 0] rfl (hK33 _ _ hf)

set_option maxHeartbeats 4000000 in
set_option maxRecDepth 100000 in
theorem c_X6_read_10 (l : Launch) (Z : Zx) (f : Nat → Nat → Int32) (r : Nat → Nat → Int32) (hf : f_X6_read_10 f = some r) : MS l (XC Z) yX6_read wsX6_read rm_X6_read_10 [.ref (Z.2.1 10)] f (PV r) := by
  refine MS.of (cc := cX6_read) (maxL := 2) (ret := none) (own := RX6) (lv := [(0, .ref (Z.2.1 10))]) (by decide) rfl rfl (Nat.le_of_ble_eq_true rfl) rfl ?_
  intro a A hla F
  subst hla
  unfold f_X6_read_10 at hf
  refine rw_aload_n F dX6_read_0 rfl 0 rfl ?_
  refine rw_get F 10 (show 10 < 39 by decide) (gC_10 Z _) iw_X6_read_X6 rfl 1 (by decide) lk_X6_read_12 rfl dX6_read_1 ?_
  obtain ⟨q2, hq1, hf⟩ := bind_h hf
  refine rw_callVV F (k0 := 11) (nA := 0) (c_X5_clear_11 (aL a) Z  _ _ hq1) gX6_read_X5_clear rfl ⟨rfl, rfl⟩ (by decide +kernel) ⟨Nat.le_of_ble_eq_true rfl, Nat.le_of_ble_eq_true rfl⟩ (show 11 < 39 by decide) (gC_11 Z _) rfl rfl rfl (Nat.le_of_ble_eq_true rfl) dX6_read_4 ?_
  refine rw_aload_n F dX6_read_7 rfl 0 rfl ?_
  refine rw_iconst F (v := 0) dX6_read_8 (by decide) ?_
  refine rw_put F 10 (show 10 < 39 by decide) (gC_10 Z) iw_X6_read_X6 tyX6 tyX6_ok nmX6 rfl 2 (by decide) lk_X6_read_29 rfl rfl rfl (fun _ => by rw [lnC10]; decide) (stC10_2 Z.2.1) dX6_read_9 ?_
  refine rw_aload_n F dX6_read_12 rfl 0 rfl ?_
  refine rw_iconst F (v := -1) dX6_read_13 (by decide) ?_
  refine rw_put F 10 (show 10 < 39 by decide) (gC_10 Z) iw_X6_read_X6 tyX6 tyX6_ok nmX6 rfl 3 (by decide) lk_X6_read_18 rfl rfl rfl (fun _ => by rw [lnC10]; decide) (stC10_3 Z.2.1) dX6_read_14 ?_
  refine rw_aload_n F dX6_read_17 rfl 0 rfl ?_
  refine rw_iconst F (v := 0) dX6_read_18 (by decide) ?_
  refine rw_put F 10 (show 10 < 39 by decide) (gC_10 Z) iw_X6_read_X6 tyX6 tyX6_ok nmX6 rfl 4 (by decide) lk_X6_read_32 rfl rfl rfl (fun _ => by rw [lnC10]; decide) (stC10_4 Z.2.1) dX6_read_19 ?_
  refine rw_aload_n F dX6_read_22 rfl 0 rfl ?_
  refine rw_iconst F (v := 0) dX6_read_23 (by decide) ?_
  refine rw_put F 10 (show 10 < 39 by decide) (gC_10 Z) iw_X6_read_X6 tyX6 tyX6_ok nmX6 rfl 5 (by decide) lk_X6_read_35 rfl rfl rfl (fun _ => by rw [lnC10]; decide) (stC10_5 Z.2.1) dX6_read_24 ?_
  refine rw_aload_n F dX6_read_27 rfl 0 rfl ?_
  obtain ⟨q4, hq3, hf⟩ := bind_h hf
  refine rw_callVV F (k0 := 10) (nA := 0) (c_X6_skipBlanks_10 (aL a) Z  _ _ hq3) gX6_read_X6_skipBlanks rfl ⟨rfl, rfl⟩ (by decide +kernel) ⟨Nat.le_of_ble_eq_true rfl, Nat.le_of_ble_eq_true rfl⟩ (show 10 < 39 by decide) (gC_10 Z _) rfl rfl rfl (Nat.le_of_ble_eq_true rfl) dX6_read_28 ?_
  refine rw_iconst F (v := 0) dX6_read_31 (by decide) ?_
  refine rw_istore_n F dX6_read_32 rfl (by decide) rfl ?_
  exact WS.sub [1, 0] rfl (b_X6_read_10_b33 F  fuB _ _ hf)

abbrev rm_X7_get : Room := { frames := 0, cells := 0, slots := 0, locals := 0 }
abbrev FX_X7_get (a : Ax) (Z : Zx) (A : Nat → Prop) : Prop := FX a (XC Z) A cX7_get RX7 wsX7_get 2 (some .int) rm_X7_get
set_option maxHeartbeats 4000000 in
set_option maxRecDepth 100000 in
theorem c_X7_get (l : Launch) (Z : Zx) {ka na : Nat} (hka : ka < 39) (hna : ∀ r, gC Z ka r = .inl (Z.2.2.1, na, .inl r)) (p1 : Int32) (f : Nat → Nat → Int32) (r : Int32) (hf : f_X7_get ka na p1 f = some r) : MS l (XC Z) yX7_get wsX7_get rm_X7_get [.ref (Z.2.1 ka), .int p1] f (PI r f) := by
  refine MS.of (cc := cX7_get) (maxL := 2) (ret := (some .int)) (own := RX7) (lv := [(0, .ref (Z.2.1 ka)), (1, .int p1)]) (by decide) rfl rfl (Nat.le_of_ble_eq_true rfl) rfl ?_
  intro a A hla F
  subst hla
  unfold f_X7_get at hf
  refine rw_iload_n F dX7_get_0 rfl 1 rfl ?_
  refine rw_if_lt F (tgt := 16) hf dX7_get_1 (by decide) (fun hc3 hf => ?_) (fun hc3 hf => ?_)
  · refine rw_iconst F (v := 0) dX7_get_16 (by decide) ?_
    exact rw_iret F hf rfl dX7_get_17
  · refine rw_iload_n F dX7_get_4 rfl 1 rfl ?_
    refine rw_aload_n F dX7_get_5 rfl 0 rfl ?_
    refine rw_alen F (v := Int32.ofNat na) ka hka (hna _) 0 rfl rfl dX7_get_6 ?_
    refine rw_icmp_ge F (tgt := 16) hf dX7_get_7 (by decide) (fun hc2 hf => ?_) (fun hc2 hf => ?_)
    · refine rw_iconst F (v := 0) dX7_get_16 (by decide) ?_
      exact rw_iret F hf rfl dX7_get_17
    · refine rw_aload_n F dX7_get_10 rfl 0 rfl ?_
      refine rw_iload_n F dX7_get_11 rfl 1 rfl ?_
      obtain ⟨hi1, hf⟩ := ck_h hf
      refine rw_iald F ka hka (hna _) 0 rfl hi1 dX7_get_12 ?_
      refine rw_goto F (tgt := 17) dX7_get_13 (by decide) ?_
      exact rw_iret F hf rfl dX7_get_17

abbrev rm_X7_copy : Room := { frames := 1, cells := 0, slots := 0, locals := 22 }
abbrev FX_X7_copy (a : Ax) (Z : Zx) (A : Nat → Prop) : Prop := FX a (XC Z) A cX7_copy RX7 wsX7_copy 6 none rm_X7_copy
set_option maxHeartbeats 4000000 in
set_option maxRecDepth 100000 in
theorem b_X7_copy_b3 {a : Ax} {Z : Zx} {A : Nat → Prop} {r : Nat → Nat → Int32} (F : FX_X7_copy a Z A) {ka na : Nat} (hka : ka < 39) (hna : ∀ r, gC Z ka r = .inl (Z.2.2.1, na, .inl r)) {kb nb : Nat} (hkb : kb < 39) (hnb : ∀ r, gC Z kb r = .inl (Z.2.2.1, nb, .inl r)) : ∀ (n : Nat) (i1 : Int32) (i3 : Int32) (i4 : Int32) (i5 : Int32) (f : Nat → Nat → Int32), f_X7_copy_b3 ka na kb nb n i1 i3 i4 i5 f = some r → WS a (XC Z) A 6 (RP a (XC Z) A (PV r)) 3 [(0, .ref (Z.2.1 ka)), (1, .int i1), (2, .ref (Z.2.1 kb)), (3, .int i3), (4, .int i4), (5, .int i5)] [] f := by
  intro n
  induction n with
  | zero => intro i1 i3 i4 i5 f hf; exact nomatch (show (none : Option (Nat → Nat → Int32)) = some r from hf)
  | succ n hK3 =>
    intro i1 i3 i4 i5 f hf
    replace hf : f_X7_copy_b3s ka na kb nb (f_X7_copy_b3 ka na kb nb n) i1 i3 i4 i5 f = some r := hf
    unfold f_X7_copy_b3s at hf
    refine rw_iload F dX7_copy_3 5 rfl ?_
    refine rw_iload F dX7_copy_5 4 rfl ?_
    refine rw_icmp_ge F (tgt := 32) hf dX7_copy_7 (by decide) (fun hc5 hf => ?_) (fun hc5 hf => ?_)
    · exact rw_vret F hf rfl dX7_copy_32
    · refine rw_aload_n F dX7_copy_10 rfl 2 rfl ?_
      refine rw_iload_n F dX7_copy_11 rfl 3 rfl ?_
      refine rw_iload F dX7_copy_12 5 rfl ?_
      refine rw_iadd F dX7_copy_14 ?_
      refine rw_aload_n F dX7_copy_15 rfl 0 rfl ?_
      refine rw_iload_n F dX7_copy_16 rfl 1 rfl ?_
      refine rw_iload F dX7_copy_17 5 rfl ?_
      refine rw_iadd F dX7_copy_19 ?_
      obtain ⟨q2, hq1, hf⟩ := bind_h hf
      refine rw_callSI F (nA := 2) (c_X7_get (aL a) Z hka hna _ _ _ hq1) gX7_copy_X7_get rfl ⟨rfl, rfl⟩ (by decide +kernel) ⟨Nat.le_of_ble_eq_true rfl, Nat.le_of_ble_eq_true rfl⟩ rfl rfl (Nat.le_of_ble_eq_true rfl) dX7_copy_20 ?_
      obtain ⟨q4, hq3, hf⟩ := bind_h hf
      refine rw_callSV F (nA := 3) (c_X7_put (aL a) Z hkb hnb _ _ _ _ hq3) gX7_copy_X7_put rfl ⟨rfl, rfl⟩ (by decide +kernel) ⟨Nat.le_of_ble_eq_true rfl, Nat.le_of_ble_eq_true rfl⟩ rfl rfl (Nat.le_of_ble_eq_true rfl) dX7_copy_23 ?_
      refine rw_iinc F (v := 1) dX7_copy_26 5 rfl (by decide) (by decide) rfl ?_
      refine rw_goto F (tgt := 3) dX7_copy_29 (by decide) ?_
      exact WS.sub [1, 2, 3, 4, 5, 0] rfl (hK3 _ _ _ _ _ hf)

set_option maxHeartbeats 4000000 in
set_option maxRecDepth 100000 in
theorem c_X7_copy (l : Launch) (Z : Zx) {ka na : Nat} (hka : ka < 39) (hna : ∀ r, gC Z ka r = .inl (Z.2.2.1, na, .inl r)) {kb nb : Nat} (hkb : kb < 39) (hnb : ∀ r, gC Z kb r = .inl (Z.2.2.1, nb, .inl r)) (p1 : Int32) (p3 : Int32) (p4 : Int32) (f : Nat → Nat → Int32) (r : Nat → Nat → Int32) (hf : f_X7_copy ka na kb nb p1 p3 p4 f = some r) : MS l (XC Z) yX7_copy wsX7_copy rm_X7_copy [.ref (Z.2.1 ka), .int p1, .ref (Z.2.1 kb), .int p3, .int p4] f (PV r) := by
  refine MS.of (cc := cX7_copy) (maxL := 6) (ret := none) (own := RX7) (lv := [(0, .ref (Z.2.1 ka)), (1, .int p1), (2, .ref (Z.2.1 kb)), (3, .int p3), (4, .int p4)]) (by decide) rfl rfl (Nat.le_of_ble_eq_true rfl) rfl ?_
  intro a A hla F
  subst hla
  unfold f_X7_copy at hf
  refine rw_iconst F (v := 0) dX7_copy_0 (by decide) ?_
  refine rw_istore F dX7_copy_1 (by decide) rfl ?_
  exact WS.sub [1, 2, 3, 4, 5, 0] rfl (b_X7_copy_b3 F hka hna hkb hnb  fuB _ _ _ _ _ hf)

abbrev rm_X5_take_3_11 : Room := { frames := 2, cells := 0, slots := 0, locals := 47 }
abbrev FX_X5_take_3_11 (a : Ax) (Z : Zx) (A : Nat → Prop) : Prop := FX a (XC Z) A cX5_take RX5 wsX5_take 2 none rm_X5_take_3_11
theorem iw_X5_take_X5 : ∀ w ∈ wsX50, w ∈ wsX5_take := by decide +kernel
theorem lk_X5_take_9 : Cond.fieldLink RX5 9 (TX5 4).1 (TX5 4).2.1 (TX5 4).2.2.1 ∈ wsX5_take := by decide +kernel
theorem lk_X5_take_15 : Cond.fieldLink RX5 15 (TX5 5).1 (TX5 5).2.1 (TX5 5).2.2.1 ∈ wsX5_take := by decide +kernel
theorem lk_X5_take_18 : Cond.fieldLink RX5 18 (TX5 6).1 (TX5 6).2.1 (TX5 6).2.2.1 ∈ wsX5_take := by decide +kernel
theorem lk_X5_take_21 : Cond.fieldLink RX5 21 (TX5 7).1 (TX5 7).2.1 (TX5 7).2.2.1 ∈ wsX5_take := by decide +kernel
theorem lk_X5_take_24 : Cond.fieldLink RX5 24 (TX5 8).1 (TX5 8).2.1 (TX5 8).2.2.1 ∈ wsX5_take := by decide +kernel
theorem lk_X5_take_27 : Cond.fieldLink RX5 27 (TX5 9).1 (TX5 9).2.1 (TX5 9).2.2.1 ∈ wsX5_take := by decide +kernel
theorem lk_X5_take_30 : Cond.fieldLink RX5 30 (TX5 0).1 (TX5 0).2.1 (TX5 0).2.2.1 ∈ wsX5_take := by decide +kernel
theorem lk_X5_take_34 : Cond.fieldLink RX5 34 (TX5 1).1 (TX5 1).2.1 (TX5 1).2.2.1 ∈ wsX5_take := by decide +kernel
theorem lk_X5_take_37 : Cond.fieldLink RX5 37 (TX5 2).1 (TX5 2).2.1 (TX5 2).2.2.1 ∈ wsX5_take := by decide +kernel
theorem lk_X5_take_40 : Cond.fieldLink RX5 40 (TX5 3).1 (TX5 3).2.1 (TX5 3).2.2.1 ∈ wsX5_take := by decide +kernel
set_option maxHeartbeats 4000000 in
set_option maxRecDepth 100000 in
theorem c_X5_take_3_11 (l : Launch) (Z : Zx) (f : Nat → Nat → Int32) (r : Nat → Nat → Int32) (hf : f_X5_take_3_11 f = some r) : MS l (XC Z) yX5_take wsX5_take rm_X5_take_3_11 [.ref (Z.2.1 3), .ref (Z.2.1 11)] f (PV r) := by
  refine MS.of (cc := cX5_take) (maxL := 2) (ret := none) (own := RX5) (lv := [(0, .ref (Z.2.1 3)), (1, .ref (Z.2.1 11))]) (by decide) rfl rfl (Nat.le_of_ble_eq_true rfl) rfl ?_
  intro a A hla F
  subst hla
  unfold f_X5_take_3_11 at hf
  refine rw_aload_n F dX5_take_0 rfl 0 rfl ?_
  refine rw_aload_n F dX5_take_1 rfl 1 rfl ?_
  refine rw_get F 11 (show 11 < 39 by decide) (gC_11 Z _) iw_X5_take_X5 rfl 0 (by decide) lk_X5_take_30 rfl dX5_take_2 ?_
  refine rw_put F 3 (show 3 < 39 by decide) (gC_3 Z) iw_X5_take_X5 tyX5 tyX5_ok nmX5 rfl 0 (by decide) lk_X5_take_30 rfl rfl rfl (fun _ => by rw [lnC3]; decide) (stC3_0 Z.2.1) dX5_take_5 ?_
  refine rw_aload_n F dX5_take_8 rfl 0 rfl ?_
  refine rw_aload_n F dX5_take_9 rfl 1 rfl ?_
  refine rw_get F 11 (show 11 < 39 by decide) (gC_11 Z _) iw_X5_take_X5 rfl 1 (by decide) lk_X5_take_34 rfl dX5_take_10 ?_
  refine rw_put F 3 (show 3 < 39 by decide) (gC_3 Z) iw_X5_take_X5 tyX5 tyX5_ok nmX5 rfl 1 (by decide) lk_X5_take_34 rfl rfl rfl (fun _ => by rw [lnC3]; decide) (stC3_1 Z.2.1) dX5_take_13 ?_
  refine rw_aload_n F dX5_take_16 rfl 0 rfl ?_
  refine rw_aload_n F dX5_take_17 rfl 1 rfl ?_
  refine rw_get F 11 (show 11 < 39 by decide) (gC_11 Z _) iw_X5_take_X5 rfl 2 (by decide) lk_X5_take_37 rfl dX5_take_18 ?_
  refine rw_put F 3 (show 3 < 39 by decide) (gC_3 Z) iw_X5_take_X5 tyX5 tyX5_ok nmX5 rfl 2 (by decide) lk_X5_take_37 rfl rfl rfl (fun _ => by rw [lnC3]; decide) (stC3_2 Z.2.1) dX5_take_21 ?_
  refine rw_aload_n F dX5_take_24 rfl 0 rfl ?_
  refine rw_aload_n F dX5_take_25 rfl 1 rfl ?_
  refine rw_get F 11 (show 11 < 39 by decide) (gC_11 Z _) iw_X5_take_X5 rfl 3 (by decide) lk_X5_take_40 rfl dX5_take_26 ?_
  refine rw_put F 3 (show 3 < 39 by decide) (gC_3 Z) iw_X5_take_X5 tyX5 tyX5_ok nmX5 rfl 3 (by decide) lk_X5_take_40 rfl rfl rfl (fun _ => by rw [lnC3]; decide) (stC3_3 Z.2.1) dX5_take_29 ?_
  refine rw_aload_n F dX5_take_32 rfl 1 rfl ?_
  refine rw_get F 11 (show 11 < 39 by decide) (gC_11 Z _) iw_X5_take_X5 rfl 4 (by decide) lk_X5_take_9 rfl dX5_take_33 ?_
  refine rw_iconst F (v := 0) dX5_take_36 (by decide) ?_
  refine rw_aload_n F dX5_take_37 rfl 0 rfl ?_
  refine rw_get F 3 (show 3 < 39 by decide) (gC_3 Z _) iw_X5_take_X5 rfl 4 (by decide) lk_X5_take_9 rfl dX5_take_38 ?_
  refine rw_iconst F (v := 0) dX5_take_41 (by decide) ?_
  refine rw_bipush F (v := 8) dX5_take_42 (by decide) ?_
  obtain ⟨q2, hq1, hf⟩ := bind_h hf
  refine rw_callSV F (nA := 5) (c_X7_copy (aL a) Z (show 12 < 39 by decide) (gC_12 Z) (show 4 < 39 by decide) (gC_4 Z) _ _ _ _ _ hq1) gX5_take_X7_copy rfl ⟨rfl, rfl⟩ (by decide +kernel) ⟨Nat.le_of_ble_eq_true rfl, Nat.le_of_ble_eq_true rfl⟩ rfl rfl (Nat.le_of_ble_eq_true rfl) dX5_take_44 ?_
  refine rw_aload_n F dX5_take_47 rfl 1 rfl ?_
  refine rw_get F 11 (show 11 < 39 by decide) (gC_11 Z _) iw_X5_take_X5 rfl 5 (by decide) lk_X5_take_15 rfl dX5_take_48 ?_
  refine rw_iconst F (v := 0) dX5_take_51 (by decide) ?_
  refine rw_aload_n F dX5_take_52 rfl 0 rfl ?_
  refine rw_get F 3 (show 3 < 39 by decide) (gC_3 Z _) iw_X5_take_X5 rfl 5 (by decide) lk_X5_take_15 rfl dX5_take_53 ?_
  refine rw_iconst F (v := 0) dX5_take_56 (by decide) ?_
  refine rw_bipush F (v := 6) dX5_take_57 (by decide) ?_
  obtain ⟨q4, hq3, hf⟩ := bind_h hf
  refine rw_callSV F (nA := 5) (c_X7_copy (aL a) Z (show 13 < 39 by decide) (gC_13 Z) (show 5 < 39 by decide) (gC_5 Z) _ _ _ _ _ hq3) gX5_take_X7_copy rfl ⟨rfl, rfl⟩ (by decide +kernel) ⟨Nat.le_of_ble_eq_true rfl, Nat.le_of_ble_eq_true rfl⟩ rfl rfl (Nat.le_of_ble_eq_true rfl) dX5_take_59 ?_
  refine rw_aload_n F dX5_take_62 rfl 1 rfl ?_
  refine rw_get F 11 (show 11 < 39 by decide) (gC_11 Z _) iw_X5_take_X5 rfl 6 (by decide) lk_X5_take_18 rfl dX5_take_63 ?_
  refine rw_iconst F (v := 0) dX5_take_66 (by decide) ?_
  refine rw_aload_n F dX5_take_67 rfl 0 rfl ?_
  refine rw_get F 3 (show 3 < 39 by decide) (gC_3 Z _) iw_X5_take_X5 rfl 6 (by decide) lk_X5_take_18 rfl dX5_take_68 ?_
  refine rw_iconst F (v := 0) dX5_take_71 (by decide) ?_
  refine rw_bipush F (v := 6) dX5_take_72 (by decide) ?_
  obtain ⟨q6, hq5, hf⟩ := bind_h hf
  refine rw_callSV F (nA := 5) (c_X7_copy (aL a) Z (show 14 < 39 by decide) (gC_14 Z) (show 6 < 39 by decide) (gC_6 Z) _ _ _ _ _ hq5) gX5_take_X7_copy rfl ⟨rfl, rfl⟩ (by decide +kernel) ⟨Nat.le_of_ble_eq_true rfl, Nat.le_of_ble_eq_true rfl⟩ rfl rfl (Nat.le_of_ble_eq_true rfl) dX5_take_74 ?_
  refine rw_aload_n F dX5_take_77 rfl 1 rfl ?_
  refine rw_get F 11 (show 11 < 39 by decide) (gC_11 Z _) iw_X5_take_X5 rfl 7 (by decide) lk_X5_take_21 rfl dX5_take_78 ?_
  refine rw_iconst F (v := 0) dX5_take_81 (by decide) ?_
  refine rw_aload_n F dX5_take_82 rfl 0 rfl ?_
  refine rw_get F 3 (show 3 < 39 by decide) (gC_3 Z _) iw_X5_take_X5 rfl 7 (by decide) lk_X5_take_21 rfl dX5_take_83 ?_
  refine rw_iconst F (v := 0) dX5_take_86 (by decide) ?_
  refine rw_bipush F (v := 7) dX5_take_87 (by decide) ?_
  obtain ⟨q8, hq7, hf⟩ := bind_h hf
  refine rw_callSV F (nA := 5) (c_X7_copy (aL a) Z (show 15 < 39 by decide) (gC_15 Z) (show 7 < 39 by decide) (gC_7 Z) _ _ _ _ _ hq7) gX5_take_X7_copy rfl ⟨rfl, rfl⟩ (by decide +kernel) ⟨Nat.le_of_ble_eq_true rfl, Nat.le_of_ble_eq_true rfl⟩ rfl rfl (Nat.le_of_ble_eq_true rfl) dX5_take_89 ?_
  refine rw_aload_n F dX5_take_92 rfl 1 rfl ?_
  refine rw_get F 11 (show 11 < 39 by decide) (gC_11 Z _) iw_X5_take_X5 rfl 8 (by decide) lk_X5_take_24 rfl dX5_take_93 ?_
  refine rw_iconst F (v := 0) dX5_take_96 (by decide) ?_
  refine rw_aload_n F dX5_take_97 rfl 0 rfl ?_
  refine rw_get F 3 (show 3 < 39 by decide) (gC_3 Z _) iw_X5_take_X5 rfl 8 (by decide) lk_X5_take_24 rfl dX5_take_98 ?_
  refine rw_iconst F (v := 0) dX5_take_101 (by decide) ?_
  refine rw_bipush F (v := 7) dX5_take_102 (by decide) ?_
  obtain ⟨q10, hq9, hf⟩ := bind_h hf
  refine rw_callSV F (nA := 5) (c_X7_copy (aL a) Z (show 16 < 39 by decide) (gC_16 Z) (show 8 < 39 by decide) (gC_8 Z) _ _ _ _ _ hq9) gX5_take_X7_copy rfl ⟨rfl, rfl⟩ (by decide +kernel) ⟨Nat.le_of_ble_eq_true rfl, Nat.le_of_ble_eq_true rfl⟩ rfl rfl (Nat.le_of_ble_eq_true rfl) dX5_take_104 ?_
  refine rw_aload_n F dX5_take_107 rfl 1 rfl ?_
  refine rw_get F 11 (show 11 < 39 by decide) (gC_11 Z _) iw_X5_take_X5 rfl 9 (by decide) lk_X5_take_27 rfl dX5_take_108 ?_
  refine rw_iconst F (v := 0) dX5_take_111 (by decide) ?_
  refine rw_aload_n F dX5_take_112 rfl 0 rfl ?_
  refine rw_get F 3 (show 3 < 39 by decide) (gC_3 Z _) iw_X5_take_X5 rfl 9 (by decide) lk_X5_take_27 rfl dX5_take_113 ?_
  refine rw_iconst F (v := 0) dX5_take_116 (by decide) ?_
  refine rw_bipush F (v := 7) dX5_take_117 (by decide) ?_
  obtain ⟨q12, hq11, hf⟩ := bind_h hf
  refine rw_callSV F (nA := 5) (c_X7_copy (aL a) Z (show 17 < 39 by decide) (gC_17 Z) (show 9 < 39 by decide) (gC_9 Z) _ _ _ _ _ hq11) gX5_take_X7_copy rfl ⟨rfl, rfl⟩ (by decide +kernel) ⟨Nat.le_of_ble_eq_true rfl, Nat.le_of_ble_eq_true rfl⟩ rfl rfl (Nat.le_of_ble_eq_true rfl) dX5_take_119 ?_
  exact rw_vret F hf rfl dX5_take_122

abbrev rm_X8_put_18 : Room := { frames := 1, cells := 0, slots := 0, locals := 22 }
abbrev FX_X8_put_18 (a : Ax) (Z : Zx) (A : Nat → Prop) : Prop := FX a (XC Z) A cX8_put RX8 wsX8_put 3 none rm_X8_put_18
theorem iw_X8_put_X8 : ∀ w ∈ wsX80, w ∈ wsX8_put := by decide +kernel
theorem lk_X8_put_11 : Cond.fieldLink RX8 11 (TX8 0).1 (TX8 0).2.1 (TX8 0).2.2.1 ∈ wsX8_put := by decide +kernel
set_option maxHeartbeats 4000000 in
set_option maxRecDepth 100000 in
theorem c_X8_put_18 (l : Launch) (Z : Zx) (p1 : Int32) (p2 : Int32) (f : Nat → Nat → Int32) (r : Nat → Nat → Int32) (hf : f_X8_put_18 p1 p2 f = some r) : MS l (XC Z) yX8_put wsX8_put rm_X8_put_18 [.ref (Z.2.1 18), .int p1, .int p2] f (PV r) := by
  refine MS.of (cc := cX8_put) (maxL := 3) (ret := none) (own := RX8) (lv := [(0, .ref (Z.2.1 18)), (1, .int p1), (2, .int p2)]) (by decide) rfl rfl (Nat.le_of_ble_eq_true rfl) rfl ?_
  intro a A hla F
  subst hla
  unfold f_X8_put_18 at hf
  refine rw_aload_n F dX8_put_0 rfl 0 rfl ?_
  refine rw_get F 18 (show 18 < 39 by decide) (gC_18 Z _) iw_X8_put_X8 rfl 0 (by decide) lk_X8_put_11 rfl dX8_put_1 ?_
  refine rw_iload_n F dX8_put_4 rfl 1 rfl ?_
  refine rw_iload_n F dX8_put_5 rfl 2 rfl ?_
  obtain ⟨q2, hq1, hf⟩ := bind_h hf
  refine rw_callSV F (nA := 3) (c_X7_put (aL a) Z (show 19 < 39 by decide) (gC_19 Z) _ _ _ _ hq1) gX8_put_X7_put rfl ⟨rfl, rfl⟩ (by decide +kernel) ⟨Nat.le_of_ble_eq_true rfl, Nat.le_of_ble_eq_true rfl⟩ rfl rfl (Nat.le_of_ble_eq_true rfl) dX8_put_6 ?_
  exact rw_vret F hf rfl dX8_put_9

abbrev rm_X8_forgetMornings_18 : Room := { frames := 2, cells := 0, slots := 0, locals := 44 }
abbrev FX_X8_forgetMornings_18 (a : Ax) (Z : Zx) (A : Nat → Prop) : Prop := FX a (XC Z) A cX8_forgetMornings RX8 wsX8_forgetMornings 2 none rm_X8_forgetMornings_18
set_option maxHeartbeats 4000000 in
set_option maxRecDepth 100000 in
theorem b_X8_forgetMornings_18_b32 {a : Ax} {Z : Zx} {A : Nat → Prop} {r : Nat → Nat → Int32} (F : FX_X8_forgetMornings_18 a Z A) : ∀ (n : Nat) (i1 : Int32) (f : Nat → Nat → Int32), f_X8_forgetMornings_18_b32 n i1 f = some r → WS a (XC Z) A 2 (RP a (XC Z) A (PV r)) 32 [(0, .ref (Z.2.1 18)), (1, .int i1)] [] f := by
  intro n
  induction n with
  | zero => intro i1 f hf; exact nomatch (show (none : Option (Nat → Nat → Int32)) = some r from hf)
  | succ n hK32 =>
    intro i1 f hf
    replace hf : f_X8_forgetMornings_18_b32s (f_X8_forgetMornings_18_b32 n) i1 f = some r := hf
    unfold f_X8_forgetMornings_18_b32s at hf
    refine rw_iload_n F dX8_forgetMornings_32 rfl 1 rfl ?_
    refine rw_bipush F (v := 7) dX8_forgetMornings_33 (by decide) ?_
    refine rw_icmp_ge F (tgt := 53) hf dX8_forgetMornings_35 (by decide) (fun hc13 hf => ?_) (fun hc13 hf => ?_)
    · exact rw_vret F hf rfl dX8_forgetMornings_53
    · refine rw_aload_n F dX8_forgetMornings_38 rfl 0 rfl ?_
      refine rw_bipush F (v := 21) dX8_forgetMornings_39 (by decide) ?_
      refine rw_iload_n F dX8_forgetMornings_41 rfl 1 rfl ?_
      refine rw_iadd F dX8_forgetMornings_42 ?_
      refine rw_iconst F (v := -1) dX8_forgetMornings_43 (by decide) ?_
      obtain ⟨q12, hq11, hf⟩ := bind_h hf
      refine rw_callVV F (k0 := 18) (nA := 2) (c_X8_put_18 (aL a) Z _ _ _ _ hq11) gX8_forgetMornings_X8_put rfl ⟨rfl, rfl⟩ (by decide +kernel) ⟨Nat.le_of_ble_eq_true rfl, Nat.le_of_ble_eq_true rfl⟩ (show 18 < 39 by decide) (gC_18 Z _) rfl rfl rfl (Nat.le_of_ble_eq_true rfl) dX8_forgetMornings_44 ?_
      refine rw_iinc F (v := 1) dX8_forgetMornings_47 1 rfl (by decide) (by decide) rfl ?_
      refine rw_goto F (tgt := 32) dX8_forgetMornings_50 (by decide) ?_
      exact WS.sub [1, 0] rfl (hK32 _ _ hf)

set_option maxHeartbeats 4000000 in
set_option maxRecDepth 100000 in
theorem c_X8_forgetMornings_18 (l : Launch) (Z : Zx) (f : Nat → Nat → Int32) (r : Nat → Nat → Int32) (hf : f_X8_forgetMornings_18 f = some r) : MS l (XC Z) yX8_forgetMornings wsX8_forgetMornings rm_X8_forgetMornings_18 [.ref (Z.2.1 18)] f (PV r) := by
  refine MS.of (cc := cX8_forgetMornings) (maxL := 2) (ret := none) (own := RX8) (lv := [(0, .ref (Z.2.1 18))]) (by decide) rfl rfl (Nat.le_of_ble_eq_true rfl) rfl ?_
  intro a A hla F
  subst hla
  unfold f_X8_forgetMornings_18 at hf
  refine rw_aload_n F dX8_forgetMornings_0 rfl 0 rfl ?_
  refine rw_iconst F (v := 1) dX8_forgetMornings_1 (by decide) ?_
  refine rw_iconst F (v := 0) dX8_forgetMornings_2 (by decide) ?_
  obtain ⟨q2, hq1, hf⟩ := bind_h hf
  refine rw_callVV F (k0 := 18) (nA := 2) (c_X8_put_18 (aL a) Z _ _ _ _ hq1) gX8_forgetMornings_X8_put rfl ⟨rfl, rfl⟩ (by decide +kernel) ⟨Nat.le_of_ble_eq_true rfl, Nat.le_of_ble_eq_true rfl⟩ (show 18 < 39 by decide) (gC_18 Z _) rfl rfl rfl (Nat.le_of_ble_eq_true rfl) dX8_forgetMornings_3 ?_
  refine rw_aload_n F dX8_forgetMornings_6 rfl 0 rfl ?_
  refine rw_iconst F (v := 2) dX8_forgetMornings_7 (by decide) ?_
  refine rw_iconst F (v := -1) dX8_forgetMornings_8 (by decide) ?_
  obtain ⟨q4, hq3, hf⟩ := bind_h hf
  refine rw_callVV F (k0 := 18) (nA := 2) (c_X8_put_18 (aL a) Z _ _ _ _ hq3) gX8_forgetMornings_X8_put rfl ⟨rfl, rfl⟩ (by decide +kernel) ⟨Nat.le_of_ble_eq_true rfl, Nat.le_of_ble_eq_true rfl⟩ (show 18 < 39 by decide) (gC_18 Z _) rfl rfl rfl (Nat.le_of_ble_eq_true rfl) dX8_forgetMornings_9 ?_
  refine rw_aload_n F dX8_forgetMornings_12 rfl 0 rfl ?_
  refine rw_iconst F (v := 3) dX8_forgetMornings_13 (by decide) ?_
  refine rw_iconst F (v := -1) dX8_forgetMornings_14 (by decide) ?_
  obtain ⟨q6, hq5, hf⟩ := bind_h hf
  refine rw_callVV F (k0 := 18) (nA := 2) (c_X8_put_18 (aL a) Z _ _ _ _ hq5) gX8_forgetMornings_X8_put rfl ⟨rfl, rfl⟩ (by decide +kernel) ⟨Nat.le_of_ble_eq_true rfl, Nat.le_of_ble_eq_true rfl⟩ (show 18 < 39 by decide) (gC_18 Z _) rfl rfl rfl (Nat.le_of_ble_eq_true rfl) dX8_forgetMornings_15 ?_
  refine rw_aload_n F dX8_forgetMornings_18 rfl 0 rfl ?_
  refine rw_iconst F (v := 4) dX8_forgetMornings_19 (by decide) ?_
  refine rw_iconst F (v := 0) dX8_forgetMornings_20 (by decide) ?_
  obtain ⟨q8, hq7, hf⟩ := bind_h hf
  refine rw_callVV F (k0 := 18) (nA := 2) (c_X8_put_18 (aL a) Z _ _ _ _ hq7) gX8_forgetMornings_X8_put rfl ⟨rfl, rfl⟩ (by decide +kernel) ⟨Nat.le_of_ble_eq_true rfl, Nat.le_of_ble_eq_true rfl⟩ (show 18 < 39 by decide) (gC_18 Z _) rfl rfl rfl (Nat.le_of_ble_eq_true rfl) dX8_forgetMornings_21 ?_
  refine rw_aload_n F dX8_forgetMornings_24 rfl 0 rfl ?_
  refine rw_iconst F (v := 5) dX8_forgetMornings_25 (by decide) ?_
  refine rw_iconst F (v := 0) dX8_forgetMornings_26 (by decide) ?_
  obtain ⟨q10, hq9, hf⟩ := bind_h hf
  refine rw_callVV F (k0 := 18) (nA := 2) (c_X8_put_18 (aL a) Z _ _ _ _ hq9) gX8_forgetMornings_X8_put rfl ⟨rfl, rfl⟩ (by decide +kernel) ⟨Nat.le_of_ble_eq_true rfl, Nat.le_of_ble_eq_true rfl⟩ (show 18 < 39 by decide) (gC_18 Z _) rfl rfl rfl (Nat.le_of_ble_eq_true rfl) dX8_forgetMornings_27 ?_
  refine rw_iconst F (v := 0) dX8_forgetMornings_30 (by decide) ?_
  refine rw_istore_n F dX8_forgetMornings_31 rfl (by decide) rfl ?_
  exact WS.sub [1, 0] rfl (b_X8_forgetMornings_18_b32 F  fuB _ _ hf)

abbrev rm_X8_begin_18_3 : Room := { frames := 3, cells := 0, slots := 0, locals := 65 }
abbrev FX_X8_begin_18_3 (a : Ax) (Z : Zx) (A : Nat → Prop) : Prop := FX a (XC Z) A cX8_begin RX8 wsX8_begin 2 none rm_X8_begin_18_3
theorem iw_X8_begin_X5 : ∀ w ∈ wsX50, w ∈ wsX8_begin := by decide +kernel
theorem iw_X8_begin_X8 : ∀ w ∈ wsX80, w ∈ wsX8_begin := by decide +kernel
theorem lk_X8_begin_11 : Cond.fieldLink RX8 11 (TX8 0).1 (TX8 0).2.1 (TX8 0).2.2.1 ∈ wsX8_begin := by decide +kernel
theorem lk_X8_begin_32 : Cond.fieldLink RX8 32 (TX5 1).1 (TX5 1).2.1 (TX5 1).2.2.1 ∈ wsX8_begin := by decide +kernel
theorem lk_X8_begin_41 : Cond.fieldLink RX8 41 (TX5 4).1 (TX5 4).2.1 (TX5 4).2.2.1 ∈ wsX8_begin := by decide +kernel
theorem lk_X8_begin_44 : Cond.fieldLink RX8 44 (TX5 7).1 (TX5 7).2.1 (TX5 7).2.2.1 ∈ wsX8_begin := by decide +kernel
set_option maxHeartbeats 4000000 in
set_option maxRecDepth 100000 in
theorem c_X8_begin_18_3 (l : Launch) (Z : Zx) (f : Nat → Nat → Int32) (r : Nat → Nat → Int32) (hf : f_X8_begin_18_3 f = some r) : MS l (XC Z) yX8_begin wsX8_begin rm_X8_begin_18_3 [.ref (Z.2.1 18), .ref (Z.2.1 3)] f (PV r) := by
  refine MS.of (cc := cX8_begin) (maxL := 2) (ret := none) (own := RX8) (lv := [(0, .ref (Z.2.1 18)), (1, .ref (Z.2.1 3))]) (by decide) rfl rfl (Nat.le_of_ble_eq_true rfl) rfl ?_
  intro a A hla F
  subst hla
  unfold f_X8_begin_18_3 at hf
  refine rw_aload_n F dX8_begin_0 rfl 0 rfl ?_
  obtain ⟨q2, hq1, hf⟩ := bind_h hf
  refine rw_callVV F (k0 := 18) (nA := 0) (c_X8_forgetMornings_18 (aL a) Z  _ _ hq1) gX8_begin_X8_forgetMornings rfl ⟨rfl, rfl⟩ (by decide +kernel) ⟨Nat.le_of_ble_eq_true rfl, Nat.le_of_ble_eq_true rfl⟩ (show 18 < 39 by decide) (gC_18 Z _) rfl rfl rfl (Nat.le_of_ble_eq_true rfl) dX8_begin_1 ?_
  refine rw_aload_n F dX8_begin_4 rfl 0 rfl ?_
  refine rw_iconst F (v := 0) dX8_begin_5 (by decide) ?_
  refine rw_aload_n F dX8_begin_6 rfl 1 rfl ?_
  refine rw_get F 3 (show 3 < 39 by decide) (gC_3 Z _) iw_X8_begin_X5 rfl 1 (by decide) lk_X8_begin_32 rfl dX8_begin_7 ?_
  obtain ⟨q4, hq3, hf⟩ := bind_h hf
  refine rw_callVV F (k0 := 18) (nA := 2) (c_X8_put_18 (aL a) Z _ _ _ _ hq3) gX8_begin_X8_put rfl ⟨rfl, rfl⟩ (by decide +kernel) ⟨Nat.le_of_ble_eq_true rfl, Nat.le_of_ble_eq_true rfl⟩ (show 18 < 39 by decide) (gC_18 Z _) rfl rfl rfl (Nat.le_of_ble_eq_true rfl) dX8_begin_10 ?_
  refine rw_aload_n F dX8_begin_13 rfl 1 rfl ?_
  refine rw_get F 3 (show 3 < 39 by decide) (gC_3 Z _) iw_X8_begin_X5 rfl 4 (by decide) lk_X8_begin_41 rfl dX8_begin_14 ?_
  refine rw_iconst F (v := 0) dX8_begin_17 (by decide) ?_
  refine rw_aload_n F dX8_begin_18 rfl 0 rfl ?_
  refine rw_get F 18 (show 18 < 39 by decide) (gC_18 Z _) iw_X8_begin_X8 rfl 0 (by decide) lk_X8_begin_11 rfl dX8_begin_19 ?_
  refine rw_bipush F (v := 6) dX8_begin_22 (by decide) ?_
  refine rw_bipush F (v := 8) dX8_begin_24 (by decide) ?_
  obtain ⟨q6, hq5, hf⟩ := bind_h hf
  refine rw_callSV F (nA := 5) (c_X7_copy (aL a) Z (show 4 < 39 by decide) (gC_4 Z) (show 19 < 39 by decide) (gC_19 Z) _ _ _ _ _ hq5) gX8_begin_X7_copy rfl ⟨rfl, rfl⟩ (by decide +kernel) ⟨Nat.le_of_ble_eq_true rfl, Nat.le_of_ble_eq_true rfl⟩ rfl rfl (Nat.le_of_ble_eq_true rfl) dX8_begin_26 ?_
  refine rw_aload_n F dX8_begin_29 rfl 1 rfl ?_
  refine rw_get F 3 (show 3 < 39 by decide) (gC_3 Z _) iw_X8_begin_X5 rfl 7 (by decide) lk_X8_begin_44 rfl dX8_begin_30 ?_
  refine rw_iconst F (v := 0) dX8_begin_33 (by decide) ?_
  refine rw_aload_n F dX8_begin_34 rfl 0 rfl ?_
  refine rw_get F 18 (show 18 < 39 by decide) (gC_18 Z _) iw_X8_begin_X8 rfl 0 (by decide) lk_X8_begin_11 rfl dX8_begin_35 ?_
  refine rw_bipush F (v := 14) dX8_begin_38 (by decide) ?_
  refine rw_bipush F (v := 7) dX8_begin_40 (by decide) ?_
  obtain ⟨q8, hq7, hf⟩ := bind_h hf
  refine rw_callSV F (nA := 5) (c_X7_copy (aL a) Z (show 7 < 39 by decide) (gC_7 Z) (show 19 < 39 by decide) (gC_19 Z) _ _ _ _ _ hq7) gX8_begin_X7_copy rfl ⟨rfl, rfl⟩ (by decide +kernel) ⟨Nat.le_of_ble_eq_true rfl, Nat.le_of_ble_eq_true rfl⟩ rfl rfl (Nat.le_of_ble_eq_true rfl) dX8_begin_42 ?_
  exact rw_vret F hf rfl dX8_begin_45

abbrev rm_X4_forget_20 : Room := { frames := 0, cells := 0, slots := 0, locals := 0 }
abbrev FX_X4_forget_20 (a : Ax) (Z : Zx) (A : Nat → Prop) : Prop := FX a (XC Z) A cX4_forget RX4 wsX4_forget 1 none rm_X4_forget_20
theorem iw_X4_forget_X4 : ∀ w ∈ wsX40, w ∈ wsX4_forget := by decide +kernel
theorem lk_X4_forget_30 : Cond.fieldLink RX4 30 (TX4 2).1 (TX4 2).2.1 (TX4 2).2.2.1 ∈ wsX4_forget := by decide +kernel
set_option maxHeartbeats 4000000 in
set_option maxRecDepth 100000 in
theorem c_X4_forget_20 (l : Launch) (Z : Zx) (f : Nat → Nat → Int32) (r : Nat → Nat → Int32) (hf : f_X4_forget_20 f = some r) : MS l (XC Z) yX4_forget wsX4_forget rm_X4_forget_20 [.ref (Z.2.1 20)] f (PV r) := by
  refine MS.of (cc := cX4_forget) (maxL := 1) (ret := none) (own := RX4) (lv := [(0, .ref (Z.2.1 20))]) (by decide) rfl rfl (Nat.le_of_ble_eq_true rfl) rfl ?_
  intro a A hla F
  subst hla
  unfold f_X4_forget_20 at hf
  refine rw_aload_n F dX4_forget_0 rfl 0 rfl ?_
  refine rw_iconst F (v := 0) dX4_forget_1 (by decide) ?_
  refine rw_put F 20 (show 20 < 39 by decide) (gC_20 Z) iw_X4_forget_X4 tyX4 tyX4_ok nmX4 rfl 2 (by decide) lk_X4_forget_30 rfl rfl rfl (fun _ => by rw [lnC20]; decide) (stC20_2 Z.2.1) dX4_forget_2 ?_
  exact rw_vret F hf rfl dX4_forget_5

abbrev rm_X11_forgetImages : Room := { frames := 1, cells := 0, slots := 0, locals := 21 }
abbrev FX_X11_forgetImages (a : Ax) (Z : Zx) (A : Nat → Prop) : Prop := FX a (XC Z) A cX11_forgetImages RX11 wsX11_forgetImages 3 none rm_X11_forgetImages
theorem iw_X11_forgetImages_X11 : ∀ w ∈ wsX110, w ∈ wsX11_forgetImages := by decide +kernel
theorem iw_X11_forgetImages_X3 : ∀ w ∈ wsX30, w ∈ wsX11_forgetImages := by decide +kernel
theorem lk_X11_forgetImages_48 : Cond.fieldLink RX11 48 (TX11 6).1 (TX11 6).2.1 (TX11 6).2.2.1 ∈ wsX11_forgetImages := by decide +kernel
theorem lk_X11_forgetImages_288 : Cond.fieldLink RX11 288 (TX3 2).1 (TX3 2).2.1 (TX3 2).2.2.1 ∈ wsX11_forgetImages := by decide +kernel
set_option maxHeartbeats 4000000 in
set_option maxRecDepth 100000 in
theorem b_X11_forgetImages_b26 {a : Ax} {Z : Zx} {A : Nat → Prop} {r : Nat → Nat → Int32} (F : FX_X11_forgetImages a Z A) (K2 : Int32 → (Nat → Nat → Int32) → Option (Nat → Nat → Int32)) (hK2 : ∀ (i1 : Int32) (f : Nat → Nat → Int32), K2 i1 f = some r → WS a (XC Z) A 3 (RP a (XC Z) A (PV r)) 2 [(0, .ref (Z.2.1 0)), (1, .int i1)] [] f) : ∀ (i1 : Int32) (f : Nat → Nat → Int32), f_X11_forgetImages_b26 K2 i1 f = some r → WS a (XC Z) A 3 (RP a (XC Z) A (PV r)) 26 [(0, .ref (Z.2.1 0)), (1, .int i1)] [] f := by
  intro i1 f hf
  unfold f_X11_forgetImages_b26 at hf
  refine rw_iinc F (v := 1) dX11_forgetImages_26 1 rfl (by decide) (by decide) rfl ?_
  refine rw_goto F (tgt := 2) dX11_forgetImages_29 (by decide) ?_
  exact WS.sub [1, 0] rfl (hK2 _ _ hf)

set_option maxHeartbeats 4000000 in
set_option maxRecDepth 100000 in
theorem b_X11_forgetImages_b2 {a : Ax} {Z : Zx} {A : Nat → Prop} {r : Nat → Nat → Int32} (F : FX_X11_forgetImages a Z A) : ∀ (n : Nat) (i1 : Int32) (f : Nat → Nat → Int32), f_X11_forgetImages_b2 n i1 f = some r → WS a (XC Z) A 3 (RP a (XC Z) A (PV r)) 2 [(0, .ref (Z.2.1 0)), (1, .int i1)] [] f := by
  intro n
  induction n with
  | zero => intro i1 f hf; exact nomatch (show (none : Option (Nat → Nat → Int32)) = some r from hf)
  | succ n hK2 =>
    intro i1 f hf
    replace hf : f_X11_forgetImages_b2s (f_X11_forgetImages_b2 n) i1 f = some r := hf
    unfold f_X11_forgetImages_b2s at hf
    refine rw_iload_n F dX11_forgetImages_2 rfl 1 rfl ?_
    refine rw_aload_n F dX11_forgetImages_3 rfl 0 rfl ?_
    refine rw_get F 0 (show 0 < 39 by decide) (gC_0 Z _) iw_X11_forgetImages_X11 rfl 6 (by decide) lk_X11_forgetImages_48 rfl dX11_forgetImages_4 ?_
    refine rw_alen F (v := Int32.ofNat 2) 22 (show 22 < 39 by decide) (gC_22 Z (f 22)) 1 rfl rfl dX11_forgetImages_7 ?_
    refine rw_icmp_ge F (tgt := 32) hf dX11_forgetImages_8 (by decide) (fun hc3 hf => ?_) (fun hc3 hf => ?_)
    · exact rw_vret F hf rfl dX11_forgetImages_32
    · refine rw_aload_n F dX11_forgetImages_11 rfl 0 rfl ?_
      refine rw_iload_n F dX11_forgetImages_12 rfl 1 rfl ?_
      rcases if_h hf with ⟨he1, hf⟩ | ⟨he1, hf⟩
      · refine rw_callVQs F (k0 := 0) (nA := 1) (c_imageAt_0 (aL a) Z _ f he1) gX11_forgetImages_X11_imageAt rfl ⟨rfl, rfl⟩ (by decide +kernel) ⟨Nat.le_of_ble_eq_true rfl, Nat.le_of_ble_eq_true rfl⟩ (show 0 < 39 by decide) (gC_0 Z _) rfl rfl rfl (Nat.le_of_ble_eq_true rfl) dX11_forgetImages_13 ?_
        refine rw_astore_n F dX11_forgetImages_16 rfl (by decide) rfl ?_
        refine rw_aload_n F dX11_forgetImages_17 rfl 0 rfl ?_
        refine rw_ifnull F dX11_forgetImages_18 ?_
        refine rw_aload_n F dX11_forgetImages_21 rfl 0 rfl ?_
        refine rw_iconst F (v := 0) dX11_forgetImages_22 (by decide) ?_
        refine rw_put F 23 (show 23 < 39 by decide) (gC_23 Z) iw_X11_forgetImages_X3 tyX3 tyX3_ok nmX3 rfl 2 (by decide) lk_X11_forgetImages_288 rfl rfl rfl (fun _ => by rw [lnC23]; decide) (stC23_2 Z.2.1) dX11_forgetImages_23 ?_
        exact WS.sub [1, 2] rfl (b_X11_forgetImages_b26 F _ hK2 _ _ hf)
      · rcases if_h hf with ⟨he2, hf⟩ | ⟨he2, hf⟩
        · refine rw_callVQs F (k0 := 0) (nA := 1) (c_imageAt_1 (aL a) Z _ f he2) gX11_forgetImages_X11_imageAt rfl ⟨rfl, rfl⟩ (by decide +kernel) ⟨Nat.le_of_ble_eq_true rfl, Nat.le_of_ble_eq_true rfl⟩ (show 0 < 39 by decide) (gC_0 Z _) rfl rfl rfl (Nat.le_of_ble_eq_true rfl) dX11_forgetImages_13 ?_
          refine rw_astore_n F dX11_forgetImages_16 rfl (by decide) rfl ?_
          refine rw_aload_n F dX11_forgetImages_17 rfl 0 rfl ?_
          refine rw_ifnull F dX11_forgetImages_18 ?_
          refine rw_aload_n F dX11_forgetImages_21 rfl 0 rfl ?_
          refine rw_iconst F (v := 0) dX11_forgetImages_22 (by decide) ?_
          refine rw_put F 26 (show 26 < 39 by decide) (gC_26 Z) iw_X11_forgetImages_X3 tyX3 tyX3_ok nmX3 rfl 2 (by decide) lk_X11_forgetImages_288 rfl rfl rfl (fun _ => by rw [lnC26]; decide) (stC26_2 Z.2.1) dX11_forgetImages_23 ?_
          exact WS.sub [1, 2] rfl (b_X11_forgetImages_b26 F _ hK2 _ _ hf)
        · refine rw_callVQn F (k0 := 0) (nA := 1) (c_imageAt_n (aL a) Z _ f he1 he2) gX11_forgetImages_X11_imageAt rfl ⟨rfl, rfl⟩ (by decide +kernel) ⟨Nat.le_of_ble_eq_true rfl, Nat.le_of_ble_eq_true rfl⟩ (show 0 < 39 by decide) (gC_0 Z _) rfl rfl rfl (Nat.le_of_ble_eq_true rfl) dX11_forgetImages_13 ?_
          refine rw_astoreN_n F dX11_forgetImages_16 rfl (by decide) rfl ?_
          refine rw_aload_nN F dX11_forgetImages_17 rfl 0 rfl ?_
          refine rw_ifnullN F (tgt := 26) dX11_forgetImages_18 (by decide) ?_
          exact WS.sub [1, 2] rfl (b_X11_forgetImages_b26 F _ hK2 _ _ hf)

set_option maxHeartbeats 4000000 in
set_option maxRecDepth 100000 in
theorem c_X11_forgetImages (l : Launch) (Z : Zx) (f : Nat → Nat → Int32) (r : Nat → Nat → Int32) (hf : f_X11_forgetImages f = some r) : MS l (XC Z) yX11_forgetImages wsX11_forgetImages rm_X11_forgetImages [.ref (Z.2.1 0)] f (PV r) := by
  refine MS.of (cc := cX11_forgetImages) (maxL := 3) (ret := none) (own := RX11) (lv := [(0, .ref (Z.2.1 0))]) (by decide) rfl rfl (Nat.le_of_ble_eq_true rfl) rfl ?_
  intro a A hla F
  subst hla
  unfold f_X11_forgetImages at hf
  refine rw_iconst F (v := 0) dX11_forgetImages_0 (by decide) ?_
  refine rw_istore_n F dX11_forgetImages_1 rfl (by decide) rfl ?_
  exact WS.sub [1, 0] rfl (b_X11_forgetImages_b2 F  fuB _ _ hf)

abbrev rm_X5_places_3 : Room := { frames := 0, cells := 0, slots := 0, locals := 0 }
abbrev FX_X5_places_3 (a : Ax) (Z : Zx) (A : Nat → Prop) : Prop := FX a (XC Z) A cX5_places RX5 wsX5_places 1 (some .int) rm_X5_places_3
theorem iw_X5_places_X5 : ∀ w ∈ wsX50, w ∈ wsX5_places := by decide +kernel
theorem lk_X5_places_30 : Cond.fieldLink RX5 30 (TX5 0).1 (TX5 0).2.1 (TX5 0).2.2.1 ∈ wsX5_places := by decide +kernel
set_option maxHeartbeats 4000000 in
set_option maxRecDepth 100000 in
theorem c_X5_places_3 (l : Launch) (Z : Zx) (f : Nat → Nat → Int32) (r : Int32) (hf : f_X5_places_3 f = some r) : MS l (XC Z) yX5_places wsX5_places rm_X5_places_3 [.ref (Z.2.1 3)] f (PI r f) := by
  refine MS.of (cc := cX5_places) (maxL := 1) (ret := (some .int)) (own := RX5) (lv := [(0, .ref (Z.2.1 3))]) (by decide) rfl rfl (Nat.le_of_ble_eq_true rfl) rfl ?_
  intro a A hla F
  subst hla
  unfold f_X5_places_3 at hf
  refine rw_aload_n F dX5_places_0 rfl 0 rfl ?_
  refine rw_get F 3 (show 3 < 39 by decide) (gC_3 Z _) iw_X5_places_X5 rfl 0 (by decide) lk_X5_places_30 rfl dX5_places_1 ?_
  refine rw_if_le F (tgt := 16) hf dX5_places_4 (by decide) (fun hc1 hf => ?_) (fun hc1 hf => ?_)
  · refine rw_iconst F (v := 0) dX5_places_16 (by decide) ?_
    exact rw_iret F hf rfl dX5_places_17
  · refine rw_aload_n F dX5_places_7 rfl 0 rfl ?_
    refine rw_get F 3 (show 3 < 39 by decide) (gC_3 Z _) iw_X5_places_X5 rfl 0 (by decide) lk_X5_places_30 rfl dX5_places_8 ?_
    refine rw_iconst F (v := 1) dX5_places_11 (by decide) ?_
    refine rw_iadd F dX5_places_12 ?_
    refine rw_goto F (tgt := 17) dX5_places_13 (by decide) ?_
    exact rw_iret F hf rfl dX5_places_17

abbrev rm_X11_house : Room := { frames := 6, cells := 0, slots := 0, locals := 133 }
abbrev FX_X11_house (a : Ax) (Z : Zx) (A : Nat → Prop) : Prop := FX a (XC Z) A cX11_house RX11 wsX11_house 1 (some .int) rm_X11_house
theorem iw_X11_house_X0 : ∀ w ∈ wsX00, w ∈ wsX11_house := by decide +kernel
theorem iw_X11_house_X1 : ∀ w ∈ wsX10, w ∈ wsX11_house := by decide +kernel
theorem iw_X11_house_X11 : ∀ w ∈ wsX110, w ∈ wsX11_house := by decide +kernel
theorem iw_X11_house_X6 : ∀ w ∈ wsX60, w ∈ wsX11_house := by decide +kernel
theorem iw_X11_house_X9 : ∀ w ∈ wsX90, w ∈ wsX11_house := by decide +kernel
theorem lk_X11_house_12 : Cond.fieldLink RX11 12 (TX11 0).1 (TX11 0).2.1 (TX11 0).2.2.1 ∈ wsX11_house := by decide +kernel
theorem lk_X11_house_19 : Cond.fieldLink RX11 19 (TX11 1).1 (TX11 1).2.1 (TX11 1).2.2.1 ∈ wsX11_house := by decide +kernel
theorem lk_X11_house_28 : Cond.fieldLink RX11 28 (TX11 2).1 (TX11 2).2.1 (TX11 2).2.2.1 ∈ wsX11_house := by decide +kernel
theorem lk_X11_house_35 : Cond.fieldLink RX11 35 (TX11 3).1 (TX11 3).2.1 (TX11 3).2.2.1 ∈ wsX11_house := by decide +kernel
theorem lk_X11_house_42 : Cond.fieldLink RX11 42 (TX11 4).1 (TX11 4).2.1 (TX11 4).2.2.1 ∈ wsX11_house := by decide +kernel
theorem lk_X11_house_75 : Cond.fieldLink RX11 75 (TX11 9).1 (TX11 9).2.1 (TX11 9).2.2.1 ∈ wsX11_house := by decide +kernel
theorem lk_X11_house_82 : Cond.fieldLink RX11 82 (TX11 10).1 (TX11 10).2.1 (TX11 10).2.2.1 ∈ wsX11_house := by decide +kernel
theorem lk_X11_house_96 : Cond.fieldLink RX11 96 (TX9 1).1 (TX9 1).2.1 (TX9 1).2.2.1 ∈ wsX11_house := by decide +kernel
theorem lk_X11_house_104 : Cond.fieldLink RX11 104 (TX6 2).1 (TX6 2).2.1 (TX6 2).2.2.1 ∈ wsX11_house := by decide +kernel
theorem lk_X11_house_107 : Cond.fieldLink RX11 107 (TX6 1).1 (TX6 1).2.1 (TX6 1).2.2.1 ∈ wsX11_house := by decide +kernel
theorem lk_X11_house_121 : Cond.fieldLink RX11 121 (TX1 4).1 (TX1 4).2.1 (TX1 4).2.2.1 ∈ wsX11_house := by decide +kernel
theorem lk_X11_house_124 : Cond.fieldLink RX11 124 (TX0 1).1 (TX0 1).2.1 (TX0 1).2.2.1 ∈ wsX11_house := by decide +kernel
set_option maxHeartbeats 4000000 in
set_option maxRecDepth 100000 in
theorem c_X11_house (l : Launch) (Z : Zx) (f : Nat → Nat → Int32) (r : (Int32 × (Nat → Nat → Int32))) (hf : f_X11_house f = some r) : MS l (XC Z) yX11_house wsX11_house rm_X11_house [.ref (Z.2.1 0)] f (PI r.1 r.2) := by
  refine MS.of (cc := cX11_house) (maxL := 1) (ret := (some .int)) (own := RX11) (lv := [(0, .ref (Z.2.1 0))]) (by decide) rfl rfl (Nat.le_of_ble_eq_true rfl) rfl ?_
  intro a A hla F
  subst hla
  unfold f_X11_house at hf
  refine rw_aload_n F dX11_house_0 rfl 0 rfl ?_
  refine rw_get F 0 (show 0 < 39 by decide) (gC_0 Z _) iw_X11_house_X11 rfl 2 (by decide) lk_X11_house_28 rfl dX11_house_1 ?_
  obtain ⟨q2, hq1, hf⟩ := bind_h hf
  refine rw_callVV F (k0 := 10) (nA := 0) (c_X6_read_10 (aL a) Z  _ _ hq1) gX11_house_X6_read rfl ⟨rfl, rfl⟩ (by decide +kernel) ⟨Nat.le_of_ble_eq_true rfl, Nat.le_of_ble_eq_true rfl⟩ (show 10 < 39 by decide) (gC_10 Z _) rfl rfl rfl (Nat.le_of_ble_eq_true rfl) dX11_house_4 ?_
  refine rw_aload_n F dX11_house_7 rfl 0 rfl ?_
  refine rw_get F 0 (show 0 < 39 by decide) (gC_0 Z _) iw_X11_house_X11 rfl 0 (by decide) lk_X11_house_12 rfl dX11_house_8 ?_
  refine rw_iconst F (v := 0) dX11_house_11 (by decide) ?_
  refine rw_put F 1 (show 1 < 39 by decide) (gC_1 Z) iw_X11_house_X9 tyX9 tyX9_ok nmX9 rfl 1 (by decide) lk_X11_house_96 rfl rfl rfl (fun _ => by rw [lnC1]; decide) (stC1_1 Z.2.1) dX11_house_12 ?_
  refine rw_aload_n F dX11_house_15 rfl 0 rfl ?_
  refine rw_get F 0 (show 0 < 39 by decide) (gC_0 Z _) iw_X11_house_X11 rfl 2 (by decide) lk_X11_house_28 rfl dX11_house_16 ?_
  refine rw_get F 10 (show 10 < 39 by decide) (gC_10 Z _) iw_X11_house_X6 rfl 2 (by decide) lk_X11_house_104 rfl dX11_house_19 ?_
  refine rw_if_eq F (tgt := 36) hf dX11_house_22 (by decide) (fun hc13 hf => ?_) (fun hc13 hf => ?_)
  · refine rw_aload_n F dX11_house_36 rfl 0 rfl ?_
    refine rw_get F 0 (show 0 < 39 by decide) (gC_0 Z _) iw_X11_house_X11 rfl 1 (by decide) lk_X11_house_19 rfl dX11_house_37 ?_
    refine rw_aload_n F dX11_house_40 rfl 0 rfl ?_
    refine rw_get F 0 (show 0 < 39 by decide) (gC_0 Z _) iw_X11_house_X11 rfl 2 (by decide) lk_X11_house_28 rfl dX11_house_41 ?_
    refine rw_get F 10 (show 10 < 39 by decide) (gC_10 Z _) iw_X11_house_X6 rfl 1 (by decide) lk_X11_house_107 rfl dX11_house_44 ?_
    obtain ⟨q4, hq3, hf⟩ := bind_h hf
    refine rw_callVV F (k0 := 3) (nA := 1) (c_X5_take_3_11 (aL a) Z  _ _ hq3) gX11_house_X5_take rfl ⟨rfl, rfl⟩ (by decide +kernel) ⟨Nat.le_of_ble_eq_true rfl, Nat.le_of_ble_eq_true rfl⟩ (show 3 < 39 by decide) (gC_3 Z _) rfl rfl rfl (Nat.le_of_ble_eq_true rfl) dX11_house_47 ?_
    refine rw_aload_n F dX11_house_50 rfl 0 rfl ?_
    refine rw_get F 0 (show 0 < 39 by decide) (gC_0 Z _) iw_X11_house_X11 rfl 3 (by decide) lk_X11_house_35 rfl dX11_house_51 ?_
    refine rw_aload_n F dX11_house_54 rfl 0 rfl ?_
    refine rw_get F 0 (show 0 < 39 by decide) (gC_0 Z _) iw_X11_house_X11 rfl 1 (by decide) lk_X11_house_19 rfl dX11_house_55 ?_
    obtain ⟨q6, hq5, hf⟩ := bind_h hf
    refine rw_callVV F (k0 := 18) (nA := 1) (c_X8_begin_18_3 (aL a) Z  _ _ hq5) gX11_house_X8_begin rfl ⟨rfl, rfl⟩ (by decide +kernel) ⟨Nat.le_of_ble_eq_true rfl, Nat.le_of_ble_eq_true rfl⟩ (show 18 < 39 by decide) (gC_18 Z _) rfl rfl rfl (Nat.le_of_ble_eq_true rfl) dX11_house_58 ?_
    refine rw_aload_n F dX11_house_61 rfl 0 rfl ?_
    refine rw_get F 0 (show 0 < 39 by decide) (gC_0 Z _) iw_X11_house_X11 rfl 4 (by decide) lk_X11_house_42 rfl dX11_house_62 ?_
    obtain ⟨q8, hq7, hf⟩ := bind_h hf
    refine rw_callVV F (k0 := 20) (nA := 0) (c_X4_forget_20 (aL a) Z  _ _ hq7) gX11_house_X4_forget rfl ⟨rfl, rfl⟩ (by decide +kernel) ⟨Nat.le_of_ble_eq_true rfl, Nat.le_of_ble_eq_true rfl⟩ (show 20 < 39 by decide) (gC_20 Z _) rfl rfl rfl (Nat.le_of_ble_eq_true rfl) dX11_house_65 ?_
    refine rw_aload_n F dX11_house_68 rfl 0 rfl ?_
    obtain ⟨q10, hq9, hf⟩ := bind_h hf
    refine rw_callVV F (k0 := 0) (nA := 0) (c_X11_forgetImages (aL a) Z  _ _ hq9) gX11_house_X11_forgetImages rfl ⟨rfl, rfl⟩ (by decide +kernel) ⟨Nat.le_of_ble_eq_true rfl, Nat.le_of_ble_eq_true rfl⟩ (show 0 < 39 by decide) (gC_0 Z _) rfl rfl rfl (Nat.le_of_ble_eq_true rfl) dX11_house_69 ?_
    refine rw_aload_n F dX11_house_72 rfl 0 rfl ?_
    refine rw_get F 0 (show 0 < 39 by decide) (gC_0 Z _) iw_X11_house_X11 rfl 9 (by decide) lk_X11_house_75 rfl dX11_house_73 ?_
    refine rw_iconst F (v := 0) dX11_house_76 (by decide) ?_
    refine rw_put F 32 (show 32 < 39 by decide) (gC_32 Z) iw_X11_house_X1 tyX1 tyX1_ok nmX1 rfl 4 (by decide) lk_X11_house_121 rfl rfl rfl (fun _ => by rw [lnC32]; decide) (stC32_4 Z.2.1) dX11_house_77 ?_
    refine rw_aload_n F dX11_house_80 rfl 0 rfl ?_
    refine rw_get F 0 (show 0 < 39 by decide) (gC_0 Z _) iw_X11_house_X11 rfl 10 (by decide) lk_X11_house_82 rfl dX11_house_81 ?_
    refine rw_iconst F (v := 0) dX11_house_84 (by decide) ?_
    refine rw_put F 37 (show 37 < 39 by decide) (gC_37 Z) iw_X11_house_X0 tyX0 tyX0_ok nmX0 rfl 1 (by decide) lk_X11_house_124 rfl rfl rfl (fun _ => by rw [lnC37]; decide) (stC37_1 Z.2.1) dX11_house_85 ?_
    refine rw_aload_n F dX11_house_88 rfl 0 rfl ?_
    refine rw_get F 0 (show 0 < 39 by decide) (gC_0 Z _) iw_X11_house_X11 rfl 1 (by decide) lk_X11_house_19 rfl dX11_house_89 ?_
    obtain ⟨q12, hq11, hf⟩ := bind_h hf
    refine rw_callVI F (k0 := 3) (nA := 0) (c_X5_places_3 (aL a) Z  _ _ hq11) gX11_house_X5_places rfl ⟨rfl, rfl⟩ (by decide +kernel) ⟨Nat.le_of_ble_eq_true rfl, Nat.le_of_ble_eq_true rfl⟩ (show 3 < 39 by decide) (gC_3 Z _) rfl rfl rfl (Nat.le_of_ble_eq_true rfl) dX11_house_92 ?_
    exact rw_iretS F hf rfl dX11_house_95
  · refine rw_bipush F (v := -10) dX11_house_25 (by decide) ?_
    refine rw_aload_n F dX11_house_27 rfl 0 rfl ?_
    refine rw_get F 0 (show 0 < 39 by decide) (gC_0 Z _) iw_X11_house_X11 rfl 2 (by decide) lk_X11_house_28 rfl dX11_house_28 ?_
    refine rw_get F 10 (show 10 < 39 by decide) (gC_10 Z _) iw_X11_house_X6 rfl 2 (by decide) lk_X11_house_104 rfl dX11_house_31 ?_
    refine rw_isub F dX11_house_34 ?_
    exact rw_iretS F hf rfl dX11_house_35

abbrev rm_X11_fault : Room := { frames := 0, cells := 0, slots := 0, locals := 0 }
abbrev FX_X11_fault (a : Ax) (Z : Zx) (A : Nat → Prop) : Prop := FX a (XC Z) A cX11_fault RX11 wsX11_fault 1 (some .int) rm_X11_fault
theorem iw_X11_fault_X11 : ∀ w ∈ wsX110, w ∈ wsX11_fault := by decide +kernel
theorem iw_X11_fault_X6 : ∀ w ∈ wsX60, w ∈ wsX11_fault := by decide +kernel
theorem lk_X11_fault_28 : Cond.fieldLink RX11 28 (TX11 2).1 (TX11 2).2.1 (TX11 2).2.2.1 ∈ wsX11_fault := by decide +kernel
theorem lk_X11_fault_129 : Cond.fieldLink RX11 129 (TX6 3).1 (TX6 3).2.1 (TX6 3).2.2.1 ∈ wsX11_fault := by decide +kernel
set_option maxHeartbeats 4000000 in
set_option maxRecDepth 100000 in
theorem c_X11_fault (l : Launch) (Z : Zx) (f : Nat → Nat → Int32) (r : Int32) (hf : f_X11_fault f = some r) : MS l (XC Z) yX11_fault wsX11_fault rm_X11_fault [.ref (Z.2.1 0)] f (PI r f) := by
  refine MS.of (cc := cX11_fault) (maxL := 1) (ret := (some .int)) (own := RX11) (lv := [(0, .ref (Z.2.1 0))]) (by decide) rfl rfl (Nat.le_of_ble_eq_true rfl) rfl ?_
  intro a A hla F
  subst hla
  unfold f_X11_fault at hf
  refine rw_aload_n F dX11_fault_0 rfl 0 rfl ?_
  refine rw_get F 0 (show 0 < 39 by decide) (gC_0 Z _) iw_X11_fault_X11 rfl 2 (by decide) lk_X11_fault_28 rfl dX11_fault_1 ?_
  refine rw_get F 10 (show 10 < 39 by decide) (gC_10 Z _) iw_X11_fault_X6 rfl 3 (by decide) lk_X11_fault_129 rfl dX11_fault_4 ?_
  exact rw_iret F hf rfl dX11_fault_7

abbrev rm_X8_get_18 : Room := { frames := 1, cells := 0, slots := 0, locals := 21 }
abbrev FX_X8_get_18 (a : Ax) (Z : Zx) (A : Nat → Prop) : Prop := FX a (XC Z) A cX8_get RX8 wsX8_get 2 (some .int) rm_X8_get_18
theorem iw_X8_get_X8 : ∀ w ∈ wsX80, w ∈ wsX8_get := by decide +kernel
theorem lk_X8_get_11 : Cond.fieldLink RX8 11 (TX8 0).1 (TX8 0).2.1 (TX8 0).2.2.1 ∈ wsX8_get := by decide +kernel
set_option maxHeartbeats 4000000 in
set_option maxRecDepth 100000 in
theorem c_X8_get_18 (l : Launch) (Z : Zx) (p1 : Int32) (f : Nat → Nat → Int32) (r : Int32) (hf : f_X8_get_18 p1 f = some r) : MS l (XC Z) yX8_get wsX8_get rm_X8_get_18 [.ref (Z.2.1 18), .int p1] f (PI r f) := by
  refine MS.of (cc := cX8_get) (maxL := 2) (ret := (some .int)) (own := RX8) (lv := [(0, .ref (Z.2.1 18)), (1, .int p1)]) (by decide) rfl rfl (Nat.le_of_ble_eq_true rfl) rfl ?_
  intro a A hla F
  subst hla
  unfold f_X8_get_18 at hf
  refine rw_aload_n F dX8_get_0 rfl 0 rfl ?_
  refine rw_get F 18 (show 18 < 39 by decide) (gC_18 Z _) iw_X8_get_X8 rfl 0 (by decide) lk_X8_get_11 rfl dX8_get_1 ?_
  refine rw_iload_n F dX8_get_4 rfl 1 rfl ?_
  obtain ⟨q2, hq1, hf⟩ := bind_h hf
  refine rw_callSI F (nA := 2) (c_X7_get (aL a) Z (show 19 < 39 by decide) (gC_19 Z) _ _ _ hq1) gX8_get_X7_get rfl ⟨rfl, rfl⟩ (by decide +kernel) ⟨Nat.le_of_ble_eq_true rfl, Nat.le_of_ble_eq_true rfl⟩ rfl rfl (Nat.le_of_ble_eq_true rfl) dX8_get_5 ?_
  exact rw_iret F hf rfl dX8_get_8

abbrev rm_X11_told : Room := { frames := 2, cells := 0, slots := 0, locals := 42 }
abbrev FX_X11_told (a : Ax) (Z : Zx) (A : Nat → Prop) : Prop := FX a (XC Z) A cX11_told RX11 wsX11_told 2 (some .int) rm_X11_told
theorem iw_X11_told_X0 : ∀ w ∈ wsX00, w ∈ wsX11_told := by decide +kernel
theorem iw_X11_told_X1 : ∀ w ∈ wsX10, w ∈ wsX11_told := by decide +kernel
theorem iw_X11_told_X11 : ∀ w ∈ wsX110, w ∈ wsX11_told := by decide +kernel
theorem iw_X11_told_X4 : ∀ w ∈ wsX40, w ∈ wsX11_told := by decide +kernel
theorem iw_X11_told_X5 : ∀ w ∈ wsX50, w ∈ wsX11_told := by decide +kernel
theorem iw_X11_told_X9 : ∀ w ∈ wsX90, w ∈ wsX11_told := by decide +kernel
theorem lk_X11_told_12 : Cond.fieldLink RX11 12 (TX11 0).1 (TX11 0).2.1 (TX11 0).2.2.1 ∈ wsX11_told := by decide +kernel
theorem lk_X11_told_19 : Cond.fieldLink RX11 19 (TX11 1).1 (TX11 1).2.1 (TX11 1).2.2.1 ∈ wsX11_told := by decide +kernel
theorem lk_X11_told_35 : Cond.fieldLink RX11 35 (TX11 3).1 (TX11 3).2.1 (TX11 3).2.2.1 ∈ wsX11_told := by decide +kernel
theorem lk_X11_told_42 : Cond.fieldLink RX11 42 (TX11 4).1 (TX11 4).2.1 (TX11 4).2.2.1 ∈ wsX11_told := by decide +kernel
theorem lk_X11_told_75 : Cond.fieldLink RX11 75 (TX11 9).1 (TX11 9).2.1 (TX11 9).2.2.1 ∈ wsX11_told := by decide +kernel
theorem lk_X11_told_82 : Cond.fieldLink RX11 82 (TX11 10).1 (TX11 10).2.1 (TX11 10).2.2.1 ∈ wsX11_told := by decide +kernel
theorem lk_X11_told_96 : Cond.fieldLink RX11 96 (TX9 1).1 (TX9 1).2.1 (TX9 1).2.2.1 ∈ wsX11_told := by decide +kernel
theorem lk_X11_told_121 : Cond.fieldLink RX11 121 (TX1 4).1 (TX1 4).2.1 (TX1 4).2.2.1 ∈ wsX11_told := by decide +kernel
theorem lk_X11_told_124 : Cond.fieldLink RX11 124 (TX0 1).1 (TX0 1).2.1 (TX0 1).2.2.1 ∈ wsX11_told := by decide +kernel
theorem lk_X11_told_132 : Cond.fieldLink RX11 132 (TX5 2).1 (TX5 2).2.1 (TX5 2).2.2.1 ∈ wsX11_told := by decide +kernel
theorem lk_X11_told_135 : Cond.fieldLink RX11 135 (TX5 3).1 (TX5 3).2.1 (TX5 3).2.2.1 ∈ wsX11_told := by decide +kernel
theorem lk_X11_told_142 : Cond.fieldLink RX11 142 (TX4 2).1 (TX4 2).2.1 (TX4 2).2.2.1 ∈ wsX11_told := by decide +kernel
set_option maxHeartbeats 4000000 in
set_option maxRecDepth 100000 in
theorem c_X11_told (l : Launch) (Z : Zx) (p1 : Int32) (f : Nat → Nat → Int32) (r : Int32) (hf : f_X11_told p1 f = some r) : MS l (XC Z) yX11_told wsX11_told rm_X11_told [.ref (Z.2.1 0), .int p1] f (PI r f) := by
  refine MS.of (cc := cX11_told) (maxL := 2) (ret := (some .int)) (own := RX11) (lv := [(0, .ref (Z.2.1 0)), (1, .int p1)]) (by decide) rfl rfl (Nat.le_of_ble_eq_true rfl) rfl ?_
  intro a A hla F
  subst hla
  unfold f_X11_told at hf
  refine rw_iload_n F dX11_told_0 rfl 1 rfl ?_
  rcases if_h hf with ⟨hc1, hf⟩ | ⟨hc1, hf⟩
  · refine rw_tableOut F (tgt := 181) dX11_told_1 (tb_out hc1 rfl rfl) (by decide) ?_
    refine rw_ldc F (v := -1000000002) dX11_told_181 (by decide +kernel) ?_
    exact rw_iret F hf rfl dX11_told_183
  · rcases if_h hf with ⟨he28, hf⟩ | ⟨-, hf⟩
    · refine rw_tableIn F (tgt := 68) dX11_told_1 (by rw [he28]; decide) (by rw [he28]; decide) (by rw [he28]; rfl) (by decide) ?_
      refine rw_aload_n F dX11_told_68 rfl 0 rfl ?_
      refine rw_get F 0 (show 0 < 39 by decide) (gC_0 Z _) iw_X11_told_X11 rfl 1 (by decide) lk_X11_told_19 rfl dX11_told_69 ?_
      obtain ⟨q3, hq2, hf⟩ := bind_h hf
      refine rw_callVI F (k0 := 3) (nA := 0) (c_X5_places_3 (aL a) Z  _ _ hq2) gX11_told_X5_places rfl ⟨rfl, rfl⟩ (by decide +kernel) ⟨Nat.le_of_ble_eq_true rfl, Nat.le_of_ble_eq_true rfl⟩ (show 3 < 39 by decide) (gC_3 Z _) rfl rfl rfl (Nat.le_of_ble_eq_true rfl) dX11_told_72 ?_
      exact rw_iret F hf rfl dX11_told_75
    · rcases if_h hf with ⟨he27, hf⟩ | ⟨-, hf⟩
      · refine rw_tableIn F (tgt := 76) dX11_told_1 (by rw [he27]; decide) (by rw [he27]; decide) (by rw [he27]; rfl) (by decide) ?_
        refine rw_aload_n F dX11_told_76 rfl 0 rfl ?_
        refine rw_get F 0 (show 0 < 39 by decide) (gC_0 Z _) iw_X11_told_X11 rfl 1 (by decide) lk_X11_told_19 rfl dX11_told_77 ?_
        refine rw_get F 3 (show 3 < 39 by decide) (gC_3 Z _) iw_X11_told_X5 rfl 2 (by decide) lk_X11_told_132 rfl dX11_told_80 ?_
        exact rw_iret F hf rfl dX11_told_83
      · rcases if_h hf with ⟨he26, hf⟩ | ⟨-, hf⟩
        · refine rw_tableIn F (tgt := 84) dX11_told_1 (by rw [he26]; decide) (by rw [he26]; decide) (by rw [he26]; rfl) (by decide) ?_
          refine rw_aload_n F dX11_told_84 rfl 0 rfl ?_
          refine rw_get F 0 (show 0 < 39 by decide) (gC_0 Z _) iw_X11_told_X11 rfl 1 (by decide) lk_X11_told_19 rfl dX11_told_85 ?_
          refine rw_get F 3 (show 3 < 39 by decide) (gC_3 Z _) iw_X11_told_X5 rfl 3 (by decide) lk_X11_told_135 rfl dX11_told_88 ?_
          exact rw_iret F hf rfl dX11_told_91
        · rcases if_h hf with ⟨he25, hf⟩ | ⟨-, hf⟩
          · refine rw_tableIn F (tgt := 92) dX11_told_1 (by rw [he25]; decide) (by rw [he25]; decide) (by rw [he25]; rfl) (by decide) ?_
            refine rw_aload_n F dX11_told_92 rfl 0 rfl ?_
            refine rw_get F 0 (show 0 < 39 by decide) (gC_0 Z _) iw_X11_told_X11 rfl 0 (by decide) lk_X11_told_12 rfl dX11_told_93 ?_
            refine rw_get F 1 (show 1 < 39 by decide) (gC_1 Z _) iw_X11_told_X9 rfl 1 (by decide) lk_X11_told_96 rfl dX11_told_96 ?_
            exact rw_iret F hf rfl dX11_told_99
          · rcases if_h hf with ⟨he24, hf⟩ | ⟨-, hf⟩
            · refine rw_tableIn F (tgt := 100) dX11_told_1 (by rw [he24]; decide) (by rw [he24]; decide) (by rw [he24]; rfl) (by decide) ?_
              refine rw_aload_n F dX11_told_100 rfl 0 rfl ?_
              refine rw_get F 0 (show 0 < 39 by decide) (gC_0 Z _) iw_X11_told_X11 rfl 3 (by decide) lk_X11_told_35 rfl dX11_told_101 ?_
              refine rw_iconst F (v := 0) dX11_told_104 (by decide) ?_
              obtain ⟨q5, hq4, hf⟩ := bind_h hf
              refine rw_callVI F (k0 := 18) (nA := 1) (c_X8_get_18 (aL a) Z _ _ _ hq4) gX11_told_X8_get rfl ⟨rfl, rfl⟩ (by decide +kernel) ⟨Nat.le_of_ble_eq_true rfl, Nat.le_of_ble_eq_true rfl⟩ (show 18 < 39 by decide) (gC_18 Z _) rfl rfl rfl (Nat.le_of_ble_eq_true rfl) dX11_told_105 ?_
              refine rw_bipush F (v := 9) dX11_told_108 (by decide) ?_
              refine rw_iadd F dX11_told_110 ?_
              exact rw_iret F hf rfl dX11_told_111
            · rcases if_h hf with ⟨he23, hf⟩ | ⟨-, hf⟩
              · refine rw_tableIn F (tgt := 112) dX11_told_1 (by rw [he23]; decide) (by rw [he23]; decide) (by rw [he23]; rfl) (by decide) ?_
                refine rw_aload_n F dX11_told_112 rfl 0 rfl ?_
                refine rw_get F 0 (show 0 < 39 by decide) (gC_0 Z _) iw_X11_told_X11 rfl 3 (by decide) lk_X11_told_35 rfl dX11_told_113 ?_
                refine rw_iconst F (v := 1) dX11_told_116 (by decide) ?_
                obtain ⟨q7, hq6, hf⟩ := bind_h hf
                refine rw_callVI F (k0 := 18) (nA := 1) (c_X8_get_18 (aL a) Z _ _ _ hq6) gX11_told_X8_get rfl ⟨rfl, rfl⟩ (by decide +kernel) ⟨Nat.le_of_ble_eq_true rfl, Nat.le_of_ble_eq_true rfl⟩ (show 18 < 39 by decide) (gC_18 Z _) rfl rfl rfl (Nat.le_of_ble_eq_true rfl) dX11_told_117 ?_
                exact rw_iret F hf rfl dX11_told_120
              · rcases if_h hf with ⟨he22, hf⟩ | ⟨-, hf⟩
                · refine rw_tableIn F (tgt := 121) dX11_told_1 (by rw [he22]; decide) (by rw [he22]; decide) (by rw [he22]; rfl) (by decide) ?_
                  refine rw_aload_n F dX11_told_121 rfl 0 rfl ?_
                  refine rw_get F 0 (show 0 < 39 by decide) (gC_0 Z _) iw_X11_told_X11 rfl 3 (by decide) lk_X11_told_35 rfl dX11_told_122 ?_
                  refine rw_iconst F (v := 2) dX11_told_125 (by decide) ?_
                  obtain ⟨q9, hq8, hf⟩ := bind_h hf
                  refine rw_callVI F (k0 := 18) (nA := 1) (c_X8_get_18 (aL a) Z _ _ _ hq8) gX11_told_X8_get rfl ⟨rfl, rfl⟩ (by decide +kernel) ⟨Nat.le_of_ble_eq_true rfl, Nat.le_of_ble_eq_true rfl⟩ (show 18 < 39 by decide) (gC_18 Z _) rfl rfl rfl (Nat.le_of_ble_eq_true rfl) dX11_told_126 ?_
                  exact rw_iret F hf rfl dX11_told_129
                · rcases if_h hf with ⟨he21, hf⟩ | ⟨-, hf⟩
                  · refine rw_tableIn F (tgt := 130) dX11_told_1 (by rw [he21]; decide) (by rw [he21]; decide) (by rw [he21]; rfl) (by decide) ?_
                    refine rw_aload_n F dX11_told_130 rfl 0 rfl ?_
                    refine rw_get F 0 (show 0 < 39 by decide) (gC_0 Z _) iw_X11_told_X11 rfl 3 (by decide) lk_X11_told_35 rfl dX11_told_131 ?_
                    refine rw_iconst F (v := 3) dX11_told_134 (by decide) ?_
                    obtain ⟨q11, hq10, hf⟩ := bind_h hf
                    refine rw_callVI F (k0 := 18) (nA := 1) (c_X8_get_18 (aL a) Z _ _ _ hq10) gX11_told_X8_get rfl ⟨rfl, rfl⟩ (by decide +kernel) ⟨Nat.le_of_ble_eq_true rfl, Nat.le_of_ble_eq_true rfl⟩ (show 18 < 39 by decide) (gC_18 Z _) rfl rfl rfl (Nat.le_of_ble_eq_true rfl) dX11_told_135 ?_
                    exact rw_iret F hf rfl dX11_told_138
                  · rcases if_h hf with ⟨he20, hf⟩ | ⟨-, hf⟩
                    · refine rw_tableIn F (tgt := 139) dX11_told_1 (by rw [he20]; decide) (by rw [he20]; decide) (by rw [he20]; rfl) (by decide) ?_
                      refine rw_aload_n F dX11_told_139 rfl 0 rfl ?_
                      refine rw_get F 0 (show 0 < 39 by decide) (gC_0 Z _) iw_X11_told_X11 rfl 3 (by decide) lk_X11_told_35 rfl dX11_told_140 ?_
                      refine rw_iconst F (v := 4) dX11_told_143 (by decide) ?_
                      obtain ⟨q13, hq12, hf⟩ := bind_h hf
                      refine rw_callVI F (k0 := 18) (nA := 1) (c_X8_get_18 (aL a) Z _ _ _ hq12) gX11_told_X8_get rfl ⟨rfl, rfl⟩ (by decide +kernel) ⟨Nat.le_of_ble_eq_true rfl, Nat.le_of_ble_eq_true rfl⟩ (show 18 < 39 by decide) (gC_18 Z _) rfl rfl rfl (Nat.le_of_ble_eq_true rfl) dX11_told_144 ?_
                      exact rw_iret F hf rfl dX11_told_147
                    · rcases if_h hf with ⟨he19, hf⟩ | ⟨-, hf⟩
                      · refine rw_tableIn F (tgt := 148) dX11_told_1 (by rw [he19]; decide) (by rw [he19]; decide) (by rw [he19]; rfl) (by decide) ?_
                        refine rw_aload_n F dX11_told_148 rfl 0 rfl ?_
                        refine rw_get F 0 (show 0 < 39 by decide) (gC_0 Z _) iw_X11_told_X11 rfl 3 (by decide) lk_X11_told_35 rfl dX11_told_149 ?_
                        refine rw_iconst F (v := 5) dX11_told_152 (by decide) ?_
                        obtain ⟨q15, hq14, hf⟩ := bind_h hf
                        refine rw_callVI F (k0 := 18) (nA := 1) (c_X8_get_18 (aL a) Z _ _ _ hq14) gX11_told_X8_get rfl ⟨rfl, rfl⟩ (by decide +kernel) ⟨Nat.le_of_ble_eq_true rfl, Nat.le_of_ble_eq_true rfl⟩ (show 18 < 39 by decide) (gC_18 Z _) rfl rfl rfl (Nat.le_of_ble_eq_true rfl) dX11_told_153 ?_
                        exact rw_iret F hf rfl dX11_told_156
                      · rcases if_h hf with ⟨he18, hf⟩ | ⟨-, hf⟩
                        · refine rw_tableIn F (tgt := 157) dX11_told_1 (by rw [he18]; decide) (by rw [he18]; decide) (by rw [he18]; rfl) (by decide) ?_
                          refine rw_aload_n F dX11_told_157 rfl 0 rfl ?_
                          refine rw_get F 0 (show 0 < 39 by decide) (gC_0 Z _) iw_X11_told_X11 rfl 9 (by decide) lk_X11_told_75 rfl dX11_told_158 ?_
                          refine rw_get F 32 (show 32 < 39 by decide) (gC_32 Z _) iw_X11_told_X1 rfl 4 (by decide) lk_X11_told_121 rfl dX11_told_161 ?_
                          exact rw_iret F hf rfl dX11_told_164
                        · rcases if_h hf with ⟨he17, hf⟩ | ⟨-, hf⟩
                          · refine rw_tableIn F (tgt := 165) dX11_told_1 (by rw [he17]; decide) (by rw [he17]; decide) (by rw [he17]; rfl) (by decide) ?_
                            refine rw_aload_n F dX11_told_165 rfl 0 rfl ?_
                            refine rw_get F 0 (show 0 < 39 by decide) (gC_0 Z _) iw_X11_told_X11 rfl 10 (by decide) lk_X11_told_82 rfl dX11_told_166 ?_
                            refine rw_get F 37 (show 37 < 39 by decide) (gC_37 Z _) iw_X11_told_X0 rfl 1 (by decide) lk_X11_told_124 rfl dX11_told_169 ?_
                            exact rw_iret F hf rfl dX11_told_172
                          · rcases if_h hf with ⟨he16, hf⟩ | ⟨-, hf⟩
                            · refine rw_tableIn F (tgt := 173) dX11_told_1 (by rw [he16]; decide) (by rw [he16]; decide) (by rw [he16]; rfl) (by decide) ?_
                              refine rw_aload_n F dX11_told_173 rfl 0 rfl ?_
                              refine rw_get F 0 (show 0 < 39 by decide) (gC_0 Z _) iw_X11_told_X11 rfl 4 (by decide) lk_X11_told_42 rfl dX11_told_174 ?_
                              refine rw_get F 20 (show 20 < 39 by decide) (gC_20 Z _) iw_X11_told_X4 rfl 2 (by decide) lk_X11_told_142 rfl dX11_told_177 ?_
                              exact rw_iret F hf rfl dX11_told_180
                            · exact nomatch hf

abbrev rm_X5_isWall_3 : Room := { frames := 0, cells := 0, slots := 0, locals := 0 }
abbrev FX_X5_isWall_3 (a : Ax) (Z : Zx) (A : Nat → Prop) : Prop := FX a (XC Z) A cX5_isWall RX5 wsX5_isWall 2 (some .boolean) rm_X5_isWall_3
theorem iw_X5_isWall_X5 : ∀ w ∈ wsX50, w ∈ wsX5_isWall := by decide +kernel
theorem lk_X5_isWall_30 : Cond.fieldLink RX5 30 (TX5 0).1 (TX5 0).2.1 (TX5 0).2.2.1 ∈ wsX5_isWall := by decide +kernel
set_option maxHeartbeats 4000000 in
set_option maxRecDepth 100000 in
theorem c_X5_isWall_3 (l : Launch) (Z : Zx) (p1 : Int32) (f : Nat → Nat → Int32) (r : Int32) (hf : f_X5_isWall_3 p1 f = some r) : MS l (XC Z) yX5_isWall wsX5_isWall rm_X5_isWall_3 [.ref (Z.2.1 3), .int p1] f (PI r f) := by
  refine MS.of (cc := cX5_isWall) (maxL := 2) (ret := (some .boolean)) (own := RX5) (lv := [(0, .ref (Z.2.1 3)), (1, .int p1)]) (by decide) rfl rfl (Nat.le_of_ble_eq_true rfl) rfl ?_
  intro a A hla F
  subst hla
  unfold f_X5_isWall_3 at hf
  refine rw_iload_n F dX5_isWall_0 rfl 1 rfl ?_
  refine rw_if_lt F (tgt := 16) hf dX5_isWall_1 (by decide) (fun hc2 hf => ?_) (fun hc2 hf => ?_)
  · refine rw_iconst F (v := 0) dX5_isWall_16 (by decide) ?_
    exact rw_zretZ F (by decide) hf rfl dX5_isWall_17
  · refine rw_iload_n F dX5_isWall_4 rfl 1 rfl ?_
    refine rw_aload_n F dX5_isWall_5 rfl 0 rfl ?_
    refine rw_get F 3 (show 3 < 39 by decide) (gC_3 Z _) iw_X5_isWall_X5 rfl 0 (by decide) lk_X5_isWall_30 rfl dX5_isWall_6 ?_
    refine rw_icmp_ge F (tgt := 16) hf dX5_isWall_9 (by decide) (fun hc1 hf => ?_) (fun hc1 hf => ?_)
    · refine rw_iconst F (v := 0) dX5_isWall_16 (by decide) ?_
      exact rw_zretZ F (by decide) hf rfl dX5_isWall_17
    · refine rw_iconst F (v := 1) dX5_isWall_12 (by decide) ?_
      refine rw_goto F (tgt := 17) dX5_isWall_13 (by decide) ?_
      exact rw_zretZ F (by decide) hf rfl dX5_isWall_17

abbrev rm_X11_thick : Room := { frames := 2, cells := 0, slots := 0, locals := 42 }
abbrev FX_X11_thick (a : Ax) (Z : Zx) (A : Nat → Prop) : Prop := FX a (XC Z) A cX11_thick RX11 wsX11_thick 2 (some .int) rm_X11_thick
theorem iw_X11_thick_X11 : ∀ w ∈ wsX110, w ∈ wsX11_thick := by decide +kernel
theorem lk_X11_thick_19 : Cond.fieldLink RX11 19 (TX11 1).1 (TX11 1).2.1 (TX11 1).2.2.1 ∈ wsX11_thick := by decide +kernel
theorem lk_X11_thick_35 : Cond.fieldLink RX11 35 (TX11 3).1 (TX11 3).2.1 (TX11 3).2.2.1 ∈ wsX11_thick := by decide +kernel
set_option maxHeartbeats 4000000 in
set_option maxRecDepth 100000 in
theorem c_X11_thick (l : Launch) (Z : Zx) (p1 : Int32) (f : Nat → Nat → Int32) (r : Int32) (hf : f_X11_thick p1 f = some r) : MS l (XC Z) yX11_thick wsX11_thick rm_X11_thick [.ref (Z.2.1 0), .int p1] f (PI r f) := by
  refine MS.of (cc := cX11_thick) (maxL := 2) (ret := (some .int)) (own := RX11) (lv := [(0, .ref (Z.2.1 0)), (1, .int p1)]) (by decide) rfl rfl (Nat.le_of_ble_eq_true rfl) rfl ?_
  intro a A hla F
  subst hla
  unfold f_X11_thick at hf
  refine rw_aload_n F dX11_thick_0 rfl 0 rfl ?_
  refine rw_get F 0 (show 0 < 39 by decide) (gC_0 Z _) iw_X11_thick_X11 rfl 1 (by decide) lk_X11_thick_19 rfl dX11_thick_1 ?_
  refine rw_iload_n F dX11_thick_4 rfl 1 rfl ?_
  obtain ⟨q2, hq1, hf⟩ := bind_h hf
  refine rw_callVI F (k0 := 3) (nA := 1) (c_X5_isWall_3 (aL a) Z _ _ _ hq1) gX11_thick_X5_isWall rfl ⟨rfl, rfl⟩ (by decide +kernel) ⟨Nat.le_of_ble_eq_true rfl, Nat.le_of_ble_eq_true rfl⟩ (show 3 < 39 by decide) (gC_3 Z _) rfl rfl rfl (Nat.le_of_ble_eq_true rfl) dX11_thick_5 ?_
  refine rw_if_eq F (tgt := 25) hf dX11_thick_8 (by decide) (fun hc5 hf => ?_) (fun hc5 hf => ?_)
  · refine rw_ldc F (v := -1000000001) dX11_thick_25 (by decide +kernel) ?_
    exact rw_iret F hf rfl dX11_thick_27
  · refine rw_aload_n F dX11_thick_11 rfl 0 rfl ?_
    refine rw_get F 0 (show 0 < 39 by decide) (gC_0 Z _) iw_X11_thick_X11 rfl 3 (by decide) lk_X11_thick_35 rfl dX11_thick_12 ?_
    refine rw_bipush F (v := 6) dX11_thick_15 (by decide) ?_
    refine rw_iload_n F dX11_thick_17 rfl 1 rfl ?_
    refine rw_iadd F dX11_thick_18 ?_
    obtain ⟨q4, hq3, hf⟩ := bind_h hf
    refine rw_callVI F (k0 := 18) (nA := 1) (c_X8_get_18 (aL a) Z _ _ _ hq3) gX11_thick_X8_get rfl ⟨rfl, rfl⟩ (by decide +kernel) ⟨Nat.le_of_ble_eq_true rfl, Nat.le_of_ble_eq_true rfl⟩ (show 18 < 39 by decide) (gC_18 Z _) rfl rfl rfl (Nat.le_of_ble_eq_true rfl) dX11_thick_19 ?_
    refine rw_goto F (tgt := 27) dX11_thick_22 (by decide) ?_
    exact rw_iret F hf rfl dX11_thick_27

abbrev rm_X5_isSound_3 : Room := { frames := 0, cells := 0, slots := 0, locals := 0 }
abbrev FX_X5_isSound_3 (a : Ax) (Z : Zx) (A : Nat → Prop) : Prop := FX a (XC Z) A cX5_isSound RX5 wsX5_isSound 2 (some .boolean) rm_X5_isSound_3
theorem iw_X5_isSound_X5 : ∀ w ∈ wsX50, w ∈ wsX5_isSound := by decide +kernel
theorem lk_X5_isSound_37 : Cond.fieldLink RX5 37 (TX5 2).1 (TX5 2).2.1 (TX5 2).2.2.1 ∈ wsX5_isSound := by decide +kernel
set_option maxHeartbeats 4000000 in
set_option maxRecDepth 100000 in
theorem c_X5_isSound_3 (l : Launch) (Z : Zx) (p1 : Int32) (f : Nat → Nat → Int32) (r : Int32) (hf : f_X5_isSound_3 p1 f = some r) : MS l (XC Z) yX5_isSound wsX5_isSound rm_X5_isSound_3 [.ref (Z.2.1 3), .int p1] f (PI r f) := by
  refine MS.of (cc := cX5_isSound) (maxL := 2) (ret := (some .boolean)) (own := RX5) (lv := [(0, .ref (Z.2.1 3)), (1, .int p1)]) (by decide) rfl rfl (Nat.le_of_ble_eq_true rfl) rfl ?_
  intro a A hla F
  subst hla
  unfold f_X5_isSound_3 at hf
  refine rw_iload_n F dX5_isSound_0 rfl 1 rfl ?_
  refine rw_if_lt F (tgt := 16) hf dX5_isSound_1 (by decide) (fun hc2 hf => ?_) (fun hc2 hf => ?_)
  · refine rw_iconst F (v := 0) dX5_isSound_16 (by decide) ?_
    exact rw_zretZ F (by decide) hf rfl dX5_isSound_17
  · refine rw_iload_n F dX5_isSound_4 rfl 1 rfl ?_
    refine rw_aload_n F dX5_isSound_5 rfl 0 rfl ?_
    refine rw_get F 3 (show 3 < 39 by decide) (gC_3 Z _) iw_X5_isSound_X5 rfl 2 (by decide) lk_X5_isSound_37 rfl dX5_isSound_6 ?_
    refine rw_icmp_ge F (tgt := 16) hf dX5_isSound_9 (by decide) (fun hc1 hf => ?_) (fun hc1 hf => ?_)
    · refine rw_iconst F (v := 0) dX5_isSound_16 (by decide) ?_
      exact rw_zretZ F (by decide) hf rfl dX5_isSound_17
    · refine rw_iconst F (v := 1) dX5_isSound_12 (by decide) ?_
      refine rw_goto F (tgt := 17) dX5_isSound_13 (by decide) ?_
      exact rw_zretZ F (by decide) hf rfl dX5_isSound_17

