abbrev rm_X11_drift : Room := { frames := 5, cells := 0, slots := 0, locals := 119 }
abbrev FX_X11_drift (a : Ax) (Z : Zx) (A : Nat → Prop) : Prop := FX a (XC Z) A cX11_drift RX11 wsX11_drift 5 (some .int) rm_X11_drift
theorem iw_X11_drift_X11 : ∀ w ∈ wsX110, w ∈ wsX11_drift := by decide +kernel
theorem iw_X11_drift_X5 : ∀ w ∈ wsX50, w ∈ wsX11_drift := by decide +kernel
theorem lk_X11_drift_19 : Cond.fieldLink RX11 19 (TX11 1).1 (TX11 1).2.1 (TX11 1).2.2.1 ∈ wsX11_drift := by decide +kernel
theorem lk_X11_drift_35 : Cond.fieldLink RX11 35 (TX11 3).1 (TX11 3).2.1 (TX11 3).2.2.1 ∈ wsX11_drift := by decide +kernel
theorem lk_X11_drift_42 : Cond.fieldLink RX11 42 (TX11 4).1 (TX11 4).2.1 (TX11 4).2.2.1 ∈ wsX11_drift := by decide +kernel
theorem lk_X11_drift_132 : Cond.fieldLink RX11 132 (TX5 2).1 (TX5 2).2.1 (TX5 2).2.2.1 ∈ wsX11_drift := by decide +kernel
set_option maxHeartbeats 4000000 in
set_option maxRecDepth 100000 in
theorem b_X11_drift_b11 {a : Ax} {Z : Zx} {A : Nat → Prop} {r : (Int32 × (Nat → Nat → Int32))} (F : FX_X11_drift a Z A) : ∀ (f : Nat → Nat → Int32), f_X11_drift_b11  f = some r → WS a (XC Z) A 5 (RP a (XC Z) A (PI r.1 r.2)) 11 [] [] f := by
  intro  f hf
  unfold f_X11_drift_b11 at hf
  refine rw_ldc F (v := -1000000002) dX11_drift_11 (by decide +kernel) ?_
  exact rw_iretS F hf rfl dX11_drift_13

set_option maxHeartbeats 4000000 in
set_option maxRecDepth 100000 in
theorem b_X11_drift_b118 {a : Ax} {Z : Zx} {A : Nat → Prop} {r : (Int32 × (Nat → Nat → Int32))} (F : FX_X11_drift a Z A) : ∀ (f : Nat → Nat → Int32), f_X11_drift_b118  f = some r → WS a (XC Z) A 5 (RP a (XC Z) A (PI r.1 r.2)) 118 [(0, .ref (Z.2.1 0))] [] f := by
  intro  f hf
  unfold f_X11_drift_b118 at hf
  refine rw_aload_n F dX11_drift_118 rfl 0 rfl ?_
  refine rw_get F 0 (show 0 < 39 by decide) (gC_0 Z _) iw_X11_drift_X11 rfl 3 (by decide) lk_X11_drift_35 rfl dX11_drift_119 ?_
  refine rw_iconst F (v := 4) dX11_drift_122 (by decide) ?_
  obtain ⟨q8, hq7, hf⟩ := bind_h hf
  refine rw_callVI F (k0 := 18) (nA := 1) (c_X8_get_18 (aL a) Z _ _ _ hq7) gX11_drift_X8_get rfl ⟨rfl, rfl⟩ (by decide +kernel) ⟨Nat.le_of_ble_eq_true rfl, Nat.le_of_ble_eq_true rfl⟩ (show 18 < 39 by decide) (gC_18 Z _) rfl rfl rfl (Nat.le_of_ble_eq_true rfl) dX11_drift_123 ?_
  exact rw_iretS F hf rfl dX11_drift_126

set_option maxHeartbeats 4000000 in
set_option maxRecDepth 100000 in
theorem b_X11_drift_b50 {a : Ax} {Z : Zx} {A : Nat → Prop} {r : (Int32 × (Nat → Nat → Int32))} (F : FX_X11_drift a Z A) : ∀ (n : Nat) (i1 : Int32) (i2 : Int32) (f : Nat → Nat → Int32), f_X11_drift_b50 n i1 i2 f = some r → WS a (XC Z) A 5 (RP a (XC Z) A (PI r.1 r.2)) 50 [(0, .ref (Z.2.1 0)), (1, .int i1), (2, .int i2)] [] f := by
  intro n
  induction n with
  | zero => intro i1 i2 f hf; exact nomatch (show (none : Option (Int32 × (Nat → Nat → Int32))) = some r from hf)
  | succ n hK50 =>
    intro i1 i2 f hf
    replace hf : f_X11_drift_b50s (f_X11_drift_b50 n) i1 i2 f = some r := hf
    unfold f_X11_drift_b50s at hf
    refine rw_iload_n F dX11_drift_50 rfl 2 rfl ?_
    refine rw_iload_n F dX11_drift_51 rfl 1 rfl ?_
    refine rw_icmp_ge F (tgt := 118) hf dX11_drift_52 (by decide) (fun hc22 hf => ?_) (fun hc22 hf => ?_)
    · exact WS.sub [0] rfl (b_X11_drift_b118 F  _ hf)
    · refine rw_aload_n F dX11_drift_55 rfl 0 rfl ?_
      refine rw_get F 0 (show 0 < 39 by decide) (gC_0 Z _) iw_X11_drift_X11 rfl 1 (by decide) lk_X11_drift_19 rfl dX11_drift_56 ?_
      refine rw_get F 3 (show 3 < 39 by decide) (gC_3 Z _) iw_X11_drift_X5 rfl 2 (by decide) lk_X11_drift_132 rfl dX11_drift_59 ?_
      refine rw_if_le F (tgt := 118) hf dX11_drift_62 (by decide) (fun hc21 hf => ?_) (fun hc21 hf => ?_)
      · exact WS.sub [0] rfl (b_X11_drift_b118 F  _ hf)
      · refine rw_aload_n F dX11_drift_65 rfl 0 rfl ?_
        refine rw_aload_n F dX11_drift_66 rfl 0 rfl ?_
        refine rw_get F 0 (show 0 < 39 by decide) (gC_0 Z _) iw_X11_drift_X11 rfl 1 (by decide) lk_X11_drift_19 rfl dX11_drift_67 ?_
        refine rw_get F 3 (show 3 < 39 by decide) (gC_3 Z _) iw_X11_drift_X5 rfl 2 (by decide) lk_X11_drift_132 rfl dX11_drift_70 ?_
        obtain ⟨q10, hq9, hf⟩ := bind_h hf
        refine rw_callVI F (k0 := 0) (nA := 1) (c_X11_draw (aL a) Z _ _ _ hq9) gX11_drift_X11_draw rfl ⟨rfl, rfl⟩ (by decide +kernel) ⟨Nat.le_of_ble_eq_true rfl, Nat.le_of_ble_eq_true rfl⟩ (show 0 < 39 by decide) (gC_0 Z _) rfl rfl rfl (Nat.le_of_ble_eq_true rfl) dX11_drift_73 ?_
        refine rw_istore_n F dX11_drift_76 rfl (by decide) rfl ?_
        refine rw_aload_n F dX11_drift_77 rfl 1 rfl ?_
        refine rw_aload_n F dX11_drift_78 rfl 1 rfl ?_
        refine rw_get F 0 (show 0 < 39 by decide) (gC_0 Z _) iw_X11_drift_X11 rfl 1 (by decide) lk_X11_drift_19 rfl dX11_drift_79 ?_
        obtain ⟨q12, hq11, hf⟩ := bind_h hf
        refine rw_callVI F (k0 := 3) (nA := 0) (c_X5_places_3 (aL a) Z  _ _ hq11) gX11_drift_X5_places rfl ⟨rfl, rfl⟩ (by decide +kernel) ⟨Nat.le_of_ble_eq_true rfl, Nat.le_of_ble_eq_true rfl⟩ (show 3 < 39 by decide) (gC_3 Z _) rfl rfl rfl (Nat.le_of_ble_eq_true rfl) dX11_drift_82 ?_
        obtain ⟨q14, hq13, hf⟩ := bind_h hf
        refine rw_callVI F (k0 := 0) (nA := 1) (c_X11_draw (aL a) Z _ _ _ hq13) gX11_drift_X11_draw rfl ⟨rfl, rfl⟩ (by decide +kernel) ⟨Nat.le_of_ble_eq_true rfl, Nat.le_of_ble_eq_true rfl⟩ (show 0 < 39 by decide) (gC_0 Z _) rfl rfl rfl (Nat.le_of_ble_eq_true rfl) dX11_drift_85 ?_
        refine rw_istore F dX11_drift_88 (by decide) rfl ?_
        refine rw_aload_n F dX11_drift_90 rfl 2 rfl ?_
        refine rw_iload_n F dX11_drift_91 rfl 1 rfl ?_
        refine rw_iload F dX11_drift_92 0 rfl ?_
        obtain ⟨q16, hq15, hf⟩ := bind_h hf
        refine rw_callVV F (k0 := 0) (nA := 2) (c_X11_swear (aL a) Z _ _ _ _ hq15) gX11_drift_X11_swear rfl ⟨rfl, rfl⟩ (by decide +kernel) ⟨Nat.le_of_ble_eq_true rfl, Nat.le_of_ble_eq_true rfl⟩ (show 0 < 39 by decide) (gC_0 Z _) rfl rfl rfl (Nat.le_of_ble_eq_true rfl) dX11_drift_94 ?_
        refine rw_aload_n F dX11_drift_97 rfl 2 rfl ?_
        refine rw_get F 0 (show 0 < 39 by decide) (gC_0 Z _) iw_X11_drift_X11 rfl 3 (by decide) lk_X11_drift_35 rfl dX11_drift_98 ?_
        refine rw_iconst F (v := 0) dX11_drift_101 (by decide) ?_
        refine rw_aload_n F dX11_drift_102 rfl 2 rfl ?_
        refine rw_iconst F (v := 5) dX11_drift_103 (by decide) ?_
        obtain ⟨q18, hq17, hf⟩ := bind_h hf
        refine rw_callVI F (k0 := 0) (nA := 1) (c_X11_draw (aL a) Z _ _ _ hq17) gX11_drift_X11_draw rfl ⟨rfl, rfl⟩ (by decide +kernel) ⟨Nat.le_of_ble_eq_true rfl, Nat.le_of_ble_eq_true rfl⟩ (show 0 < 39 by decide) (gC_0 Z _) rfl rfl rfl (Nat.le_of_ble_eq_true rfl) dX11_drift_104 ?_
        refine rw_iconst F (v := 2) dX11_drift_107 (by decide) ?_
        refine rw_isub F dX11_drift_108 ?_
        obtain ⟨q20, hq19, hf⟩ := bind_h hf
        refine rw_callVV F (k0 := 18) (nA := 2) (c_X8_put_18 (aL a) Z _ _ _ _ hq19) gX11_drift_X8_put rfl ⟨rfl, rfl⟩ (by decide +kernel) ⟨Nat.le_of_ble_eq_true rfl, Nat.le_of_ble_eq_true rfl⟩ (show 18 < 39 by decide) (gC_18 Z _) rfl rfl rfl (Nat.le_of_ble_eq_true rfl) dX11_drift_109 ?_
        refine rw_iinc F (v := 1) dX11_drift_112 4 rfl (by decide) (by decide) rfl ?_
        refine rw_goto F (tgt := 50) dX11_drift_115 (by decide) ?_
        exact WS.sub [3, 4, 0] rfl (hK50 _ _ _ hf)

set_option maxHeartbeats 4000000 in
set_option maxRecDepth 100000 in
theorem c_X11_drift (l : Launch) (Z : Zx) (p1 : Int32) (f : Nat → Nat → Int32) (r : (Int32 × (Nat → Nat → Int32))) (hf : f_X11_drift p1 f = some r) : MS l (XC Z) yX11_drift wsX11_drift rm_X11_drift [.ref (Z.2.1 0), .int p1] f (PI r.1 r.2) := by
  refine MS.of (cc := cX11_drift) (maxL := 5) (ret := (some .int)) (own := RX11) (lv := [(0, .ref (Z.2.1 0)), (1, .int p1)]) (by decide) rfl rfl (Nat.le_of_ble_eq_true rfl) rfl ?_
  intro a A hla F
  subst hla
  unfold f_X11_drift at hf
  refine rw_iload_n F dX11_drift_0 rfl 1 rfl ?_
  refine rw_iconst F (v := 1) dX11_drift_1 (by decide) ?_
  refine rw_icmp_lt F (tgt := 11) hf dX11_drift_2 (by decide) (fun hc26 hf => ?_) (fun hc26 hf => ?_)
  · exact WS.sub [] rfl (b_X11_drift_b11 F  _ hf)
  · refine rw_iload_n F dX11_drift_5 rfl 1 rfl ?_
    refine rw_bipush F (v := 60) dX11_drift_6 (by decide) ?_
    refine rw_icmp_le F (tgt := 14) hf dX11_drift_8 (by decide) (fun hc25 hf => ?_) (fun hc25 hf => ?_)
    · refine rw_aload_n F dX11_drift_14 rfl 0 rfl ?_
      refine rw_get F 0 (show 0 < 39 by decide) (gC_0 Z _) iw_X11_drift_X11 rfl 1 (by decide) lk_X11_drift_19 rfl dX11_drift_15 ?_
      obtain ⟨q2, hq1, hf⟩ := bind_h hf
      refine rw_callVI F (k0 := 3) (nA := 0) (c_X5_stands_3 (aL a) Z  _ _ hq1) gX11_drift_X5_stands rfl ⟨rfl, rfl⟩ (by decide +kernel) ⟨Nat.le_of_ble_eq_true rfl, Nat.le_of_ble_eq_true rfl⟩ (show 3 < 39 by decide) (gC_3 Z _) rfl rfl rfl (Nat.le_of_ble_eq_true rfl) dX11_drift_18 ?_
      refine rw_if_ne F (tgt := 27) hf dX11_drift_21 (by decide) (fun hc24 hf => ?_) (fun hc24 hf => ?_)
      · refine rw_aload_n F dX11_drift_27 rfl 0 rfl ?_
        obtain ⟨q4, hq3, hf⟩ := bind_h hf
        refine rw_callVI F (k0 := 0) (nA := 0) (c_X11_isFullOfMornings (aL a) Z  _ _ hq3) gX11_drift_X11_isFullOfMornings rfl ⟨rfl, rfl⟩ (by decide +kernel) ⟨Nat.le_of_ble_eq_true rfl, Nat.le_of_ble_eq_true rfl⟩ (show 0 < 39 by decide) (gC_0 Z _) rfl rfl rfl (Nat.le_of_ble_eq_true rfl) dX11_drift_28 ?_
        refine rw_if_eq F (tgt := 37) hf dX11_drift_31 (by decide) (fun hc23 hf => ?_) (fun hc23 hf => ?_)
        · refine rw_aload_n F dX11_drift_37 rfl 0 rfl ?_
          refine rw_get F 0 (show 0 < 39 by decide) (gC_0 Z _) iw_X11_drift_X11 rfl 4 (by decide) lk_X11_drift_42 rfl dX11_drift_38 ?_
          refine rw_aload_n F dX11_drift_41 rfl 0 rfl ?_
          refine rw_get F 0 (show 0 < 39 by decide) (gC_0 Z _) iw_X11_drift_X11 rfl 3 (by decide) lk_X11_drift_35 rfl dX11_drift_42 ?_
          obtain ⟨q6, hq5, hf⟩ := bind_h hf
          refine rw_callVV F (k0 := 20) (nA := 1) (c_X4_push_20_18 (aL a) Z  _ _ hq5) gX11_drift_X4_push rfl ⟨rfl, rfl⟩ (by decide +kernel) ⟨Nat.le_of_ble_eq_true rfl, Nat.le_of_ble_eq_true rfl⟩ (show 20 < 39 by decide) (gC_20 Z _) rfl rfl rfl (Nat.le_of_ble_eq_true rfl) dX11_drift_45 ?_
          refine rw_iconst F (v := 0) dX11_drift_48 (by decide) ?_
          refine rw_istore_n F dX11_drift_49 rfl (by decide) rfl ?_
          exact WS.sub [1, 2, 0] rfl (b_X11_drift_b50 F  fuB _ _ _ hf)
        · refine rw_ldc F (v := -1000000004) dX11_drift_34 (by decide +kernel) ?_
          exact rw_iretS F hf rfl dX11_drift_36
      · refine rw_ldc F (v := -1000000003) dX11_drift_24 (by decide +kernel) ?_
        exact rw_iretS F hf rfl dX11_drift_26
    · exact WS.sub [] rfl (b_X11_drift_b11 F  _ hf)

abbrev rm_X4_pop_20_18 : Room := { frames := 2, cells := 0, slots := 0, locals := 47 }
abbrev FX_X4_pop_20_18 (a : Ax) (Z : Zx) (A : Nat → Prop) : Prop := FX a (XC Z) A cX4_pop RX4 wsX4_pop 2 (some .boolean) rm_X4_pop_20_18
theorem iw_X4_pop_X4 : ∀ w ∈ wsX40, w ∈ wsX4_pop := by decide +kernel
theorem iw_X4_pop_X8 : ∀ w ∈ wsX80, w ∈ wsX4_pop := by decide +kernel
theorem lk_X4_pop_11 : Cond.fieldLink RX4 11 (TX4 0).1 (TX4 0).2.1 (TX4 0).2.2.1 ∈ wsX4_pop := by decide +kernel
theorem lk_X4_pop_17 : Cond.fieldLink RX4 17 (TX8 0).1 (TX8 0).2.1 (TX8 0).2.2.1 ∈ wsX4_pop := by decide +kernel
theorem lk_X4_pop_20 : Cond.fieldLink RX4 20 (TX4 1).1 (TX4 1).2.1 (TX4 1).2.2.1 ∈ wsX4_pop := by decide +kernel
theorem lk_X4_pop_30 : Cond.fieldLink RX4 30 (TX4 2).1 (TX4 2).2.1 (TX4 2).2.2.1 ∈ wsX4_pop := by decide +kernel
set_option maxHeartbeats 4000000 in
set_option maxRecDepth 100000 in
theorem b_X4_pop_20_18_b28 {a : Ax} {Z : Zx} {A : Nat → Prop} {r : (Int32 × (Nat → Nat → Int32))} (F : FX_X4_pop_20_18 a Z A) : ∀ (s1 : Int32) (f : Nat → Nat → Int32), f_X4_pop_20_18_b28 s1 f = some r → WS a (XC Z) A 2 (RP a (XC Z) A (PI r.1 r.2)) 28 [(0, .ref (Z.2.1 20)), (1, .ref (Z.2.1 18))] [.int s1, .ref (Z.2.1 20)] f := by
  intro s1 f hf
  unfold f_X4_pop_20_18_b28 at hf
  refine rw_put F 20 (show 20 < 39 by decide) (gC_20 Z) iw_X4_pop_X4 tyX4 tyX4_ok nmX4 rfl 1 (by decide) lk_X4_pop_20 rfl rfl rfl (fun _ => by rw [lnC20]; decide) (stC20_1 Z.2.1) dX4_pop_28 ?_
  refine rw_aload_n F dX4_pop_31 rfl 0 rfl ?_
  refine rw_dup F dX4_pop_32 rfl ?_
  refine rw_get F 20 (show 20 < 39 by decide) (gC_20 Z _) iw_X4_pop_X4 rfl 2 (by decide) lk_X4_pop_30 rfl dX4_pop_33 ?_
  refine rw_iconst F (v := 1) dX4_pop_36 (by decide) ?_
  refine rw_isub F dX4_pop_37 ?_
  refine rw_put F 20 (show 20 < 39 by decide) (gC_20 Z) iw_X4_pop_X4 tyX4 tyX4_ok nmX4 rfl 2 (by decide) lk_X4_pop_30 rfl rfl rfl (fun _ => by rw [lnC20]; decide) (stC20_2 Z.2.1) dX4_pop_38 ?_
  refine rw_aload_n F dX4_pop_41 rfl 0 rfl ?_
  refine rw_get F 20 (show 20 < 39 by decide) (gC_20 Z _) iw_X4_pop_X4 rfl 0 (by decide) lk_X4_pop_11 rfl dX4_pop_42 ?_
  refine rw_aload_n F dX4_pop_45 rfl 0 rfl ?_
  refine rw_get F 20 (show 20 < 39 by decide) (gC_20 Z _) iw_X4_pop_X4 rfl 1 (by decide) lk_X4_pop_20 rfl dX4_pop_46 ?_
  refine rw_bipush F (v := 28) dX4_pop_49 (by decide) ?_
  refine rw_imul F dX4_pop_51 ?_
  refine rw_aload_n F dX4_pop_52 rfl 1 rfl ?_
  refine rw_get F 18 (show 18 < 39 by decide) (gC_18 Z _) iw_X4_pop_X8 rfl 0 (by decide) lk_X4_pop_17 rfl dX4_pop_53 ?_
  refine rw_iconst F (v := 0) dX4_pop_56 (by decide) ?_
  refine rw_bipush F (v := 28) dX4_pop_57 (by decide) ?_
  obtain ⟨q2, hq1, hf⟩ := bind_h hf
  refine rw_callSV F (nA := 5) (c_X7_copy (aL a) Z (show 21 < 39 by decide) (gC_21 Z) (show 19 < 39 by decide) (gC_19 Z) _ _ _ _ _ hq1) gX4_pop_X7_copy rfl ⟨rfl, rfl⟩ (by decide +kernel) ⟨Nat.le_of_ble_eq_true rfl, Nat.le_of_ble_eq_true rfl⟩ rfl rfl (Nat.le_of_ble_eq_true rfl) dX4_pop_59 ?_
  refine rw_iconst F (v := 1) dX4_pop_62 (by decide) ?_
  exact rw_zretZS F (by decide) hf rfl dX4_pop_63

set_option maxHeartbeats 4000000 in
set_option maxRecDepth 100000 in
theorem c_X4_pop_20_18 (l : Launch) (Z : Zx) (f : Nat → Nat → Int32) (r : (Int32 × (Nat → Nat → Int32))) (hf : f_X4_pop_20_18 f = some r) : MS l (XC Z) yX4_pop wsX4_pop rm_X4_pop_20_18 [.ref (Z.2.1 20), .ref (Z.2.1 18)] f (PI r.1 r.2) := by
  refine MS.of (cc := cX4_pop) (maxL := 2) (ret := (some .boolean)) (own := RX4) (lv := [(0, .ref (Z.2.1 20)), (1, .ref (Z.2.1 18))]) (by decide) rfl rfl (Nat.le_of_ble_eq_true rfl) rfl ?_
  intro a A hla F
  subst hla
  unfold f_X4_pop_20_18 at hf
  refine rw_aload_n F dX4_pop_0 rfl 0 rfl ?_
  refine rw_get F 20 (show 20 < 39 by decide) (gC_20 Z _) iw_X4_pop_X4 rfl 2 (by decide) lk_X4_pop_30 rfl dX4_pop_1 ?_
  refine rw_if_gt F (tgt := 9) hf dX4_pop_4 (by decide) (fun hc4 hf => ?_) (fun hc4 hf => ?_)
  · refine rw_aload_n F dX4_pop_9 rfl 0 rfl ?_
    refine rw_aload_n F dX4_pop_10 rfl 0 rfl ?_
    refine rw_get F 20 (show 20 < 39 by decide) (gC_20 Z _) iw_X4_pop_X4 rfl 1 (by decide) lk_X4_pop_20 rfl dX4_pop_11 ?_
    refine rw_if_le F (tgt := 26) hf dX4_pop_14 (by decide) (fun hc3 hf => ?_) (fun hc3 hf => ?_)
    · refine rw_bipush F (v := 19) dX4_pop_26 (by decide) ?_
      exact WS.sub [0, 1] rfl (b_X4_pop_20_18_b28 F  _ _ hf)
    · refine rw_aload_n F dX4_pop_17 rfl 0 rfl ?_
      refine rw_get F 20 (show 20 < 39 by decide) (gC_20 Z _) iw_X4_pop_X4 rfl 1 (by decide) lk_X4_pop_20 rfl dX4_pop_18 ?_
      refine rw_iconst F (v := 1) dX4_pop_21 (by decide) ?_
      refine rw_isub F dX4_pop_22 ?_
      refine rw_goto F (tgt := 28) dX4_pop_23 (by decide) ?_
      exact WS.sub [0, 1] rfl (b_X4_pop_20_18_b28 F  _ _ hf)
  · refine rw_iconst F (v := 0) dX4_pop_7 (by decide) ?_
    exact rw_zretZS F (by decide) hf rfl dX4_pop_8

abbrev rm_X11_undo : Room := { frames := 3, cells := 0, slots := 0, locals := 68 }
abbrev FX_X11_undo (a : Ax) (Z : Zx) (A : Nat → Prop) : Prop := FX a (XC Z) A cX11_undo RX11 wsX11_undo 1 (some .int) rm_X11_undo
theorem iw_X11_undo_X11 : ∀ w ∈ wsX110, w ∈ wsX11_undo := by decide +kernel
theorem iw_X11_undo_X4 : ∀ w ∈ wsX40, w ∈ wsX11_undo := by decide +kernel
theorem lk_X11_undo_35 : Cond.fieldLink RX11 35 (TX11 3).1 (TX11 3).2.1 (TX11 3).2.2.1 ∈ wsX11_undo := by decide +kernel
theorem lk_X11_undo_42 : Cond.fieldLink RX11 42 (TX11 4).1 (TX11 4).2.1 (TX11 4).2.2.1 ∈ wsX11_undo := by decide +kernel
theorem lk_X11_undo_142 : Cond.fieldLink RX11 142 (TX4 2).1 (TX4 2).2.1 (TX4 2).2.2.1 ∈ wsX11_undo := by decide +kernel
set_option maxHeartbeats 4000000 in
set_option maxRecDepth 100000 in
theorem c_X11_undo (l : Launch) (Z : Zx) (f : Nat → Nat → Int32) (r : (Int32 × (Nat → Nat → Int32))) (hf : f_X11_undo f = some r) : MS l (XC Z) yX11_undo wsX11_undo rm_X11_undo [.ref (Z.2.1 0)] f (PI r.1 r.2) := by
  refine MS.of (cc := cX11_undo) (maxL := 1) (ret := (some .int)) (own := RX11) (lv := [(0, .ref (Z.2.1 0))]) (by decide) rfl rfl (Nat.le_of_ble_eq_true rfl) rfl ?_
  intro a A hla F
  subst hla
  unfold f_X11_undo at hf
  refine rw_aload_n F dX11_undo_0 rfl 0 rfl ?_
  refine rw_get F 0 (show 0 < 39 by decide) (gC_0 Z _) iw_X11_undo_X11 rfl 4 (by decide) lk_X11_undo_42 rfl dX11_undo_1 ?_
  refine rw_aload_n F dX11_undo_4 rfl 0 rfl ?_
  refine rw_get F 0 (show 0 < 39 by decide) (gC_0 Z _) iw_X11_undo_X11 rfl 3 (by decide) lk_X11_undo_35 rfl dX11_undo_5 ?_
  obtain ⟨q2, hq1, hf⟩ := bind_h hf
  refine rw_callVI F (k0 := 20) (nA := 1) (c_X4_pop_20_18 (aL a) Z  _ _ hq1) gX11_undo_X4_pop rfl ⟨rfl, rfl⟩ (by decide +kernel) ⟨Nat.le_of_ble_eq_true rfl, Nat.le_of_ble_eq_true rfl⟩ (show 20 < 39 by decide) (gC_20 Z _) rfl rfl rfl (Nat.le_of_ble_eq_true rfl) dX11_undo_8 ?_
  refine rw_if_eq F (tgt := 24) hf dX11_undo_11 (by decide) (fun hc3 hf => ?_) (fun hc3 hf => ?_)
  · refine rw_ldc F (v := -1000000003) dX11_undo_24 (by decide +kernel) ?_
    exact rw_iretS F hf rfl dX11_undo_26
  · refine rw_aload_n F dX11_undo_14 rfl 0 rfl ?_
    refine rw_get F 0 (show 0 < 39 by decide) (gC_0 Z _) iw_X11_undo_X11 rfl 4 (by decide) lk_X11_undo_42 rfl dX11_undo_15 ?_
    refine rw_get F 20 (show 20 < 39 by decide) (gC_20 Z _) iw_X11_undo_X4 rfl 2 (by decide) lk_X11_undo_142 rfl dX11_undo_18 ?_
    refine rw_goto F (tgt := 26) dX11_undo_21 (by decide) ?_
    exact rw_iretS F hf rfl dX11_undo_26

abbrev rm_X11_comes : Room := { frames := 2, cells := 0, slots := 0, locals := 48 }
abbrev FX_X11_comes (a : Ax) (Z : Zx) (A : Nat → Prop) : Prop := FX a (XC Z) A cX11_comes RX11 wsX11_comes 4 (some .int) rm_X11_comes
theorem iw_X11_comes_X11 : ∀ w ∈ wsX110, w ∈ wsX11_comes := by decide +kernel
theorem lk_X11_comes_19 : Cond.fieldLink RX11 19 (TX11 1).1 (TX11 1).2.1 (TX11 1).2.2.1 ∈ wsX11_comes := by decide +kernel
theorem lk_X11_comes_57 : Cond.fieldLink RX11 57 (TX11 7).1 (TX11 7).2.1 (TX11 7).2.2.1 ∈ wsX11_comes := by decide +kernel
set_option maxHeartbeats 4000000 in
set_option maxRecDepth 100000 in
theorem b_X11_comes_b33 {a : Ax} {Z : Zx} {A : Nat → Prop} {r : Int32} {f : Nat → Nat → Int32} (F : FX_X11_comes a Z A) : f_X11_comes_b33  f = some r → WS a (XC Z) A 4 (RP a (XC Z) A (PI r f)) 33 [] [] f := by
  intro  hf
  unfold f_X11_comes_b33 at hf
  refine rw_ldc F (v := -1000000001) dX11_comes_33 (by decide +kernel) ?_
  exact rw_iret F hf rfl dX11_comes_35

set_option maxHeartbeats 4000000 in
set_option maxRecDepth 100000 in
theorem c_X11_comes (l : Launch) (Z : Zx) (p1 : Int32) (p2 : Int32) (p3 : Int32) (f : Nat → Nat → Int32) (r : Int32) (hf : f_X11_comes p1 p2 p3 f = some r) : MS l (XC Z) yX11_comes wsX11_comes rm_X11_comes [.ref (Z.2.1 0), .int p1, .int p2, .int p3] f (PI r f) := by
  refine MS.of (cc := cX11_comes) (maxL := 4) (ret := (some .int)) (own := RX11) (lv := [(0, .ref (Z.2.1 0)), (1, .int p1), (2, .int p2), (3, .int p3)]) (by decide) rfl rfl (Nat.le_of_ble_eq_true rfl) rfl ?_
  intro a A hla F
  subst hla
  unfold f_X11_comes at hf
  refine rw_aload_n F dX11_comes_0 rfl 0 rfl ?_
  refine rw_get F 0 (show 0 < 39 by decide) (gC_0 Z _) iw_X11_comes_X11 rfl 1 (by decide) lk_X11_comes_19 rfl dX11_comes_1 ?_
  refine rw_iload_n F dX11_comes_4 rfl 1 rfl ?_
  obtain ⟨q2, hq1, hf⟩ := bind_h hf
  refine rw_callVI F (k0 := 3) (nA := 1) (c_X5_isSound_3 (aL a) Z _ _ _ hq1) gX11_comes_X5_isSound rfl ⟨rfl, rfl⟩ (by decide +kernel) ⟨Nat.le_of_ble_eq_true rfl, Nat.le_of_ble_eq_true rfl⟩ (show 3 < 39 by decide) (gC_3 Z _) rfl rfl rfl (Nat.le_of_ble_eq_true rfl) dX11_comes_5 ?_
  refine rw_if_eq F (tgt := 33) hf dX11_comes_8 (by decide) (fun hc11 hf => ?_) (fun hc11 hf => ?_)
  · exact WS.sub [] rfl (b_X11_comes_b33 F   hf)
  · refine rw_aload_n F dX11_comes_11 rfl 0 rfl ?_
    refine rw_get F 0 (show 0 < 39 by decide) (gC_0 Z _) iw_X11_comes_X11 rfl 1 (by decide) lk_X11_comes_19 rfl dX11_comes_12 ?_
    refine rw_iload_n F dX11_comes_15 rfl 2 rfl ?_
    obtain ⟨q4, hq3, hf⟩ := bind_h hf
    refine rw_callVI F (k0 := 3) (nA := 1) (c_X5_isPlace_3 (aL a) Z _ _ _ hq3) gX11_comes_X5_isPlace rfl ⟨rfl, rfl⟩ (by decide +kernel) ⟨Nat.le_of_ble_eq_true rfl, Nat.le_of_ble_eq_true rfl⟩ (show 3 < 39 by decide) (gC_3 Z _) rfl rfl rfl (Nat.le_of_ble_eq_true rfl) dX11_comes_16 ?_
    refine rw_if_eq F (tgt := 33) hf dX11_comes_19 (by decide) (fun hc10 hf => ?_) (fun hc10 hf => ?_)
    · exact WS.sub [] rfl (b_X11_comes_b33 F   hf)
    · refine rw_aload_n F dX11_comes_22 rfl 0 rfl ?_
      refine rw_get F 0 (show 0 < 39 by decide) (gC_0 Z _) iw_X11_comes_X11 rfl 1 (by decide) lk_X11_comes_19 rfl dX11_comes_23 ?_
      refine rw_iload_n F dX11_comes_26 rfl 3 rfl ?_
      obtain ⟨q6, hq5, hf⟩ := bind_h hf
      refine rw_callVI F (k0 := 3) (nA := 1) (c_X5_isPlace_3 (aL a) Z _ _ _ hq5) gX11_comes_X5_isPlace rfl ⟨rfl, rfl⟩ (by decide +kernel) ⟨Nat.le_of_ble_eq_true rfl, Nat.le_of_ble_eq_true rfl⟩ (show 3 < 39 by decide) (gC_3 Z _) rfl rfl rfl (Nat.le_of_ble_eq_true rfl) dX11_comes_27 ?_
      refine rw_if_ne F (tgt := 36) hf dX11_comes_30 (by decide) (fun hc9 hf => ?_) (fun hc9 hf => ?_)
      · refine rw_aload_n F dX11_comes_36 rfl 0 rfl ?_
        refine rw_get F 0 (show 0 < 39 by decide) (gC_0 Z _) iw_X11_comes_X11 rfl 7 (by decide) lk_X11_comes_57 rfl dX11_comes_37 ?_
        refine rw_iload_n F dX11_comes_40 rfl 1 rfl ?_
        refine rw_iload_n F dX11_comes_41 rfl 2 rfl ?_
        refine rw_iload_n F dX11_comes_42 rfl 3 rfl ?_
        obtain ⟨q8, hq7, hf⟩ := bind_h hf
        refine rw_callVI F (k0 := 29) (nA := 3) (c_X2_loudness_29 (aL a) Z _ _ _ _ _ hq7) gX11_comes_X2_loudness rfl ⟨rfl, rfl⟩ (by decide +kernel) ⟨Nat.le_of_ble_eq_true rfl, Nat.le_of_ble_eq_true rfl⟩ (show 29 < 39 by decide) (gC_29 Z _) rfl rfl rfl (Nat.le_of_ble_eq_true rfl) dX11_comes_43 ?_
        refine rw_sipush F (v := 1000) dX11_comes_46 (by decide) ?_
        refine rw_iadd F dX11_comes_49 ?_
        exact rw_iret F hf rfl dX11_comes_50
      · exact WS.sub [] rfl (b_X11_comes_b33 F   hf)

abbrev rm_X11_says : Room := { frames := 4, cells := 0, slots := 0, locals := 96 }
abbrev FX_X11_says (a : Ax) (Z : Zx) (A : Nat → Prop) : Prop := FX a (XC Z) A cX11_says RX11 wsX11_says 4 (some .int) rm_X11_says
theorem iw_X11_says_X11 : ∀ w ∈ wsX110, w ∈ wsX11_says := by decide +kernel
theorem lk_X11_says_19 : Cond.fieldLink RX11 19 (TX11 1).1 (TX11 1).2.1 (TX11 1).2.2.1 ∈ wsX11_says := by decide +kernel
theorem lk_X11_says_57 : Cond.fieldLink RX11 57 (TX11 7).1 (TX11 7).2.1 (TX11 7).2.2.1 ∈ wsX11_says := by decide +kernel
set_option maxHeartbeats 4000000 in
set_option maxRecDepth 100000 in
theorem b_X11_says_b33 {a : Ax} {Z : Zx} {A : Nat → Prop} {r : Int32} {f : Nat → Nat → Int32} (F : FX_X11_says a Z A) : f_X11_says_b33  f = some r → WS a (XC Z) A 4 (RP a (XC Z) A (PI r f)) 33 [] [] f := by
  intro  hf
  unfold f_X11_says_b33 at hf
  refine rw_ldc F (v := -1000000001) dX11_says_33 (by decide +kernel) ?_
  exact rw_iret F hf rfl dX11_says_35

set_option maxHeartbeats 4000000 in
set_option maxRecDepth 100000 in
theorem c_X11_says (l : Launch) (Z : Zx) (p1 : Int32) (p2 : Int32) (p3 : Int32) (f : Nat → Nat → Int32) (r : Int32) (hf : f_X11_says p1 p2 p3 f = some r) : MS l (XC Z) yX11_says wsX11_says rm_X11_says [.ref (Z.2.1 0), .int p1, .int p2, .int p3] f (PI r f) := by
  refine MS.of (cc := cX11_says) (maxL := 4) (ret := (some .int)) (own := RX11) (lv := [(0, .ref (Z.2.1 0)), (1, .int p1), (2, .int p2), (3, .int p3)]) (by decide) rfl rfl (Nat.le_of_ble_eq_true rfl) rfl ?_
  intro a A hla F
  subst hla
  unfold f_X11_says at hf
  refine rw_aload_n F dX11_says_0 rfl 0 rfl ?_
  refine rw_get F 0 (show 0 < 39 by decide) (gC_0 Z _) iw_X11_says_X11 rfl 1 (by decide) lk_X11_says_19 rfl dX11_says_1 ?_
  refine rw_iload_n F dX11_says_4 rfl 1 rfl ?_
  obtain ⟨q2, hq1, hf⟩ := bind_h hf
  refine rw_callVI F (k0 := 3) (nA := 1) (c_X5_isWitness_3 (aL a) Z _ _ _ hq1) gX11_says_X5_isWitness rfl ⟨rfl, rfl⟩ (by decide +kernel) ⟨Nat.le_of_ble_eq_true rfl, Nat.le_of_ble_eq_true rfl⟩ (show 3 < 39 by decide) (gC_3 Z _) rfl rfl rfl (Nat.le_of_ble_eq_true rfl) dX11_says_5 ?_
  refine rw_if_eq F (tgt := 33) hf dX11_says_8 (by decide) (fun hc11 hf => ?_) (fun hc11 hf => ?_)
  · exact WS.sub [] rfl (b_X11_says_b33 F   hf)
  · refine rw_aload_n F dX11_says_11 rfl 0 rfl ?_
    refine rw_get F 0 (show 0 < 39 by decide) (gC_0 Z _) iw_X11_says_X11 rfl 1 (by decide) lk_X11_says_19 rfl dX11_says_12 ?_
    refine rw_iload_n F dX11_says_15 rfl 2 rfl ?_
    obtain ⟨q4, hq3, hf⟩ := bind_h hf
    refine rw_callVI F (k0 := 3) (nA := 1) (c_X5_isSound_3 (aL a) Z _ _ _ hq3) gX11_says_X5_isSound rfl ⟨rfl, rfl⟩ (by decide +kernel) ⟨Nat.le_of_ble_eq_true rfl, Nat.le_of_ble_eq_true rfl⟩ (show 3 < 39 by decide) (gC_3 Z _) rfl rfl rfl (Nat.le_of_ble_eq_true rfl) dX11_says_16 ?_
    refine rw_if_eq F (tgt := 33) hf dX11_says_19 (by decide) (fun hc10 hf => ?_) (fun hc10 hf => ?_)
    · exact WS.sub [] rfl (b_X11_says_b33 F   hf)
    · refine rw_aload_n F dX11_says_22 rfl 0 rfl ?_
      refine rw_get F 0 (show 0 < 39 by decide) (gC_0 Z _) iw_X11_says_X11 rfl 1 (by decide) lk_X11_says_19 rfl dX11_says_23 ?_
      refine rw_iload_n F dX11_says_26 rfl 3 rfl ?_
      obtain ⟨q6, hq5, hf⟩ := bind_h hf
      refine rw_callVI F (k0 := 3) (nA := 1) (c_X5_isPlace_3 (aL a) Z _ _ _ hq5) gX11_says_X5_isPlace rfl ⟨rfl, rfl⟩ (by decide +kernel) ⟨Nat.le_of_ble_eq_true rfl, Nat.le_of_ble_eq_true rfl⟩ (show 3 < 39 by decide) (gC_3 Z _) rfl rfl rfl (Nat.le_of_ble_eq_true rfl) dX11_says_27 ?_
      refine rw_if_ne F (tgt := 36) hf dX11_says_30 (by decide) (fun hc9 hf => ?_) (fun hc9 hf => ?_)
      · refine rw_aload_n F dX11_says_36 rfl 0 rfl ?_
        refine rw_get F 0 (show 0 < 39 by decide) (gC_0 Z _) iw_X11_says_X11 rfl 7 (by decide) lk_X11_says_57 rfl dX11_says_37 ?_
        refine rw_iload_n F dX11_says_40 rfl 1 rfl ?_
        refine rw_iload_n F dX11_says_41 rfl 2 rfl ?_
        refine rw_iload_n F dX11_says_42 rfl 3 rfl ?_
        obtain ⟨q8, hq7, hf⟩ := bind_h hf
        refine rw_callVI F (k0 := 29) (nA := 3) (c_X2_saying_29 (aL a) Z _ _ _ _ _ hq7) gX11_says_X2_saying rfl ⟨rfl, rfl⟩ (by decide +kernel) ⟨Nat.le_of_ble_eq_true rfl, Nat.le_of_ble_eq_true rfl⟩ (show 29 < 39 by decide) (gC_29 Z _) rfl rfl rfl (Nat.le_of_ble_eq_true rfl) dX11_says_43 ?_
        exact rw_iret F hf rfl dX11_says_46
      · exact WS.sub [] rfl (b_X11_says_b33 F   hf)

abbrev rm_X10_listeners_30 : Room := { frames := 2, cells := 0, slots := 0, locals := 48 }
abbrev FX_X10_listeners_30 (a : Ax) (Z : Zx) (A : Nat → Prop) : Prop := FX a (XC Z) A cX10_listeners RX10 wsX10_listeners 6 (some .int) rm_X10_listeners_30
theorem iw_X10_listeners_X10 : ∀ w ∈ wsX100, w ∈ wsX10_listeners := by decide +kernel
theorem lk_X10_listeners_15 : Cond.fieldLink RX10 15 (TX10 0).1 (TX10 0).2.1 (TX10 0).2.2.1 ∈ wsX10_listeners := by decide +kernel
theorem lk_X10_listeners_23 : Cond.fieldLink RX10 23 (TX10 2).1 (TX10 2).2.1 (TX10 2).2.2.1 ∈ wsX10_listeners := by decide +kernel
set_option maxHeartbeats 4000000 in
set_option maxRecDepth 100000 in
theorem b_X10_listeners_30_b42 {a : Ax} {Z : Zx} {A : Nat → Prop} {r : Int32} {f : Nat → Nat → Int32} (F : FX_X10_listeners_30 a Z A) (K6 : Int32 → Int32 → Int32 → Int32 → Int32 → Option Int32) (hK6 : ∀ (i1 : Int32) (i2 : Int32) (i3 : Int32) (i4 : Int32) (i5 : Int32), K6 i1 i2 i3 i4 i5 = some r → WS a (XC Z) A 6 (RP a (XC Z) A (PI r f)) 6 [(0, .ref (Z.2.1 30)), (1, .int i1), (2, .int i2), (3, .int i3), (4, .int i4), (5, .int i5)] [] f) : ∀ (i1 : Int32) (i2 : Int32) (i3 : Int32) (i4 : Int32) (i5 : Int32), f_X10_listeners_30_b42 K6 i1 i2 i3 i4 i5 f = some r → WS a (XC Z) A 6 (RP a (XC Z) A (PI r f)) 42 [(0, .ref (Z.2.1 30)), (1, .int i1), (2, .int i2), (3, .int i3), (4, .int i4), (5, .int i5)] [] f := by
  intro i1 i2 i3 i4 i5 hf
  unfold f_X10_listeners_30_b42 at hf
  refine rw_iinc F (v := 1) dX10_listeners_42 5 rfl (by decide) (by decide) rfl ?_
  refine rw_goto F (tgt := 6) dX10_listeners_45 (by decide) ?_
  exact WS.sub [1, 2, 3, 4, 5, 0] rfl (hK6 _ _ _ _ _ hf)

set_option maxHeartbeats 4000000 in
set_option maxRecDepth 100000 in
theorem b_X10_listeners_30_b6 {a : Ax} {Z : Zx} {A : Nat → Prop} {r : Int32} {f : Nat → Nat → Int32} (F : FX_X10_listeners_30 a Z A) : ∀ (n : Nat) (i1 : Int32) (i2 : Int32) (i3 : Int32) (i4 : Int32) (i5 : Int32), f_X10_listeners_30_b6 n i1 i2 i3 i4 i5 f = some r → WS a (XC Z) A 6 (RP a (XC Z) A (PI r f)) 6 [(0, .ref (Z.2.1 30)), (1, .int i1), (2, .int i2), (3, .int i3), (4, .int i4), (5, .int i5)] [] f := by
  intro n
  induction n with
  | zero => intro i1 i2 i3 i4 i5 hf; exact nomatch (show (none : Option Int32) = some r from hf)
  | succ n hK6 =>
    intro i1 i2 i3 i4 i5 hf
    replace hf : f_X10_listeners_30_b6s (fun i1 i2 i3 i4 i5 => f_X10_listeners_30_b6 n i1 i2 i3 i4 i5 f) i1 i2 i3 i4 i5 f = some r := hf
    unfold f_X10_listeners_30_b6s at hf
    refine rw_iload F dX10_listeners_6 5 rfl ?_
    refine rw_aload_n F dX10_listeners_8 rfl 0 rfl ?_
    refine rw_get F 30 (show 30 < 39 by decide) (gC_30 Z _) iw_X10_listeners_X10 rfl 0 (by decide) lk_X10_listeners_15 rfl dX10_listeners_9 ?_
    obtain ⟨q2, hq1, hf⟩ := bind_h hf
    refine rw_callVI F (k0 := 3) (nA := 0) (c_X5_places_3 (aL a) Z  _ _ hq1) gX10_listeners_X5_places rfl ⟨rfl, rfl⟩ (by decide +kernel) ⟨Nat.le_of_ble_eq_true rfl, Nat.le_of_ble_eq_true rfl⟩ (show 3 < 39 by decide) (gC_3 Z _) rfl rfl rfl (Nat.le_of_ble_eq_true rfl) dX10_listeners_12 ?_
    refine rw_icmp_ge F (tgt := 48) hf dX10_listeners_15 (by decide) (fun hc6 hf => ?_) (fun hc6 hf => ?_)
    · refine rw_iload F dX10_listeners_48 4 rfl ?_
      exact rw_iret F hf rfl dX10_listeners_50
    · refine rw_aload_n F dX10_listeners_18 rfl 0 rfl ?_
      refine rw_get F 30 (show 30 < 39 by decide) (gC_30 Z _) iw_X10_listeners_X10 rfl 2 (by decide) lk_X10_listeners_23 rfl dX10_listeners_19 ?_
      refine rw_iload_n F dX10_listeners_22 rfl 1 rfl ?_
      refine rw_iload_n F dX10_listeners_23 rfl 2 rfl ?_
      refine rw_iload F dX10_listeners_24 5 rfl ?_
      obtain ⟨q4, hq3, hf⟩ := bind_h hf
      refine rw_callVI F (k0 := 29) (nA := 3) (c_X2_loudness_29 (aL a) Z _ _ _ _ _ hq3) gX10_listeners_X2_loudness rfl ⟨rfl, rfl⟩ (by decide +kernel) ⟨Nat.le_of_ble_eq_true rfl, Nat.le_of_ble_eq_true rfl⟩ (show 29 < 39 by decide) (gC_29 Z _) rfl rfl rfl (Nat.le_of_ble_eq_true rfl) dX10_listeners_26 ?_
      refine rw_iload_n F dX10_listeners_29 rfl 3 rfl ?_
      refine rw_icmp_lt F (tgt := 42) hf dX10_listeners_30 (by decide) (fun hc5 hf => ?_) (fun hc5 hf => ?_)
      · exact WS.sub [0, 1, 2, 3, 4, 5] rfl (b_X10_listeners_30_b42 F _ hK6 _ _ _ _ _ hf)
      · refine rw_iload F dX10_listeners_33 4 rfl ?_
        refine rw_iconst F (v := 1) dX10_listeners_35 (by decide) ?_
        refine rw_iload F dX10_listeners_36 5 rfl ?_
        refine rw_ishl F dX10_listeners_38 ?_
        refine rw_ior F dX10_listeners_39 ?_
        refine rw_istore F dX10_listeners_40 (by decide) rfl ?_
        exact WS.sub [1, 2, 3, 4, 0, 5] rfl (b_X10_listeners_30_b42 F _ hK6 _ _ _ _ _ hf)

set_option maxHeartbeats 4000000 in
set_option maxRecDepth 100000 in
theorem c_X10_listeners_30 (l : Launch) (Z : Zx) (p1 : Int32) (p2 : Int32) (p3 : Int32) (f : Nat → Nat → Int32) (r : Int32) (hf : f_X10_listeners_30 p1 p2 p3 f = some r) : MS l (XC Z) yX10_listeners wsX10_listeners rm_X10_listeners_30 [.ref (Z.2.1 30), .int p1, .int p2, .int p3] f (PI r f) := by
  refine MS.of (cc := cX10_listeners) (maxL := 6) (ret := (some .int)) (own := RX10) (lv := [(0, .ref (Z.2.1 30)), (1, .int p1), (2, .int p2), (3, .int p3)]) (by decide) rfl rfl (Nat.le_of_ble_eq_true rfl) rfl ?_
  intro a A hla F
  subst hla
  unfold f_X10_listeners_30 at hf
  refine rw_iconst F (v := 0) dX10_listeners_0 (by decide) ?_
  refine rw_istore F dX10_listeners_1 (by decide) rfl ?_
  refine rw_iconst F (v := 0) dX10_listeners_3 (by decide) ?_
  refine rw_istore F dX10_listeners_4 (by decide) rfl ?_
  exact WS.sub [2, 3, 4, 5, 1, 0] rfl (b_X10_listeners_30_b6 F  fuB _ _ _ _ _ hf)

abbrev rm_X11_listen : Room := { frames := 3, cells := 0, slots := 0, locals := 73 }
abbrev FX_X11_listen (a : Ax) (Z : Zx) (A : Nat → Prop) : Prop := FX a (XC Z) A cX11_listen RX11 wsX11_listen 4 (some .int) rm_X11_listen
theorem iw_X11_listen_X11 : ∀ w ∈ wsX110, w ∈ wsX11_listen := by decide +kernel
theorem lk_X11_listen_19 : Cond.fieldLink RX11 19 (TX11 1).1 (TX11 1).2.1 (TX11 1).2.2.1 ∈ wsX11_listen := by decide +kernel
theorem lk_X11_listen_66 : Cond.fieldLink RX11 66 (TX11 8).1 (TX11 8).2.1 (TX11 8).2.2.1 ∈ wsX11_listen := by decide +kernel
set_option maxHeartbeats 4000000 in
set_option maxRecDepth 100000 in
theorem b_X11_listen_b22 {a : Ax} {Z : Zx} {A : Nat → Prop} {r : Int32} {f : Nat → Nat → Int32} (F : FX_X11_listen a Z A) : f_X11_listen_b22  f = some r → WS a (XC Z) A 4 (RP a (XC Z) A (PI r f)) 22 [] [] f := by
  intro  hf
  unfold f_X11_listen_b22 at hf
  refine rw_ldc F (v := -1000000001) dX11_listen_22 (by decide +kernel) ?_
  exact rw_iret F hf rfl dX11_listen_24

set_option maxHeartbeats 4000000 in
set_option maxRecDepth 100000 in
theorem c_X11_listen (l : Launch) (Z : Zx) (p1 : Int32) (p2 : Int32) (p3 : Int32) (f : Nat → Nat → Int32) (r : Int32) (hf : f_X11_listen p1 p2 p3 f = some r) : MS l (XC Z) yX11_listen wsX11_listen rm_X11_listen [.ref (Z.2.1 0), .int p1, .int p2, .int p3] f (PI r f) := by
  refine MS.of (cc := cX11_listen) (maxL := 4) (ret := (some .int)) (own := RX11) (lv := [(0, .ref (Z.2.1 0)), (1, .int p1), (2, .int p2), (3, .int p3)]) (by decide) rfl rfl (Nat.le_of_ble_eq_true rfl) rfl ?_
  intro a A hla F
  subst hla
  unfold f_X11_listen at hf
  refine rw_aload_n F dX11_listen_0 rfl 0 rfl ?_
  refine rw_get F 0 (show 0 < 39 by decide) (gC_0 Z _) iw_X11_listen_X11 rfl 1 (by decide) lk_X11_listen_19 rfl dX11_listen_1 ?_
  refine rw_iload_n F dX11_listen_4 rfl 1 rfl ?_
  obtain ⟨q2, hq1, hf⟩ := bind_h hf
  refine rw_callVI F (k0 := 3) (nA := 1) (c_X5_isSound_3 (aL a) Z _ _ _ hq1) gX11_listen_X5_isSound rfl ⟨rfl, rfl⟩ (by decide +kernel) ⟨Nat.le_of_ble_eq_true rfl, Nat.le_of_ble_eq_true rfl⟩ (show 3 < 39 by decide) (gC_3 Z _) rfl rfl rfl (Nat.le_of_ble_eq_true rfl) dX11_listen_5 ?_
  refine rw_if_eq F (tgt := 22) hf dX11_listen_8 (by decide) (fun hc11 hf => ?_) (fun hc11 hf => ?_)
  · exact WS.sub [] rfl (b_X11_listen_b22 F   hf)
  · refine rw_aload_n F dX11_listen_11 rfl 0 rfl ?_
    refine rw_get F 0 (show 0 < 39 by decide) (gC_0 Z _) iw_X11_listen_X11 rfl 1 (by decide) lk_X11_listen_19 rfl dX11_listen_12 ?_
    refine rw_iload_n F dX11_listen_15 rfl 2 rfl ?_
    obtain ⟨q4, hq3, hf⟩ := bind_h hf
    refine rw_callVI F (k0 := 3) (nA := 1) (c_X5_isPlace_3 (aL a) Z _ _ _ hq3) gX11_listen_X5_isPlace rfl ⟨rfl, rfl⟩ (by decide +kernel) ⟨Nat.le_of_ble_eq_true rfl, Nat.le_of_ble_eq_true rfl⟩ (show 3 < 39 by decide) (gC_3 Z _) rfl rfl rfl (Nat.le_of_ble_eq_true rfl) dX11_listen_16 ?_
    refine rw_if_ne F (tgt := 25) hf dX11_listen_19 (by decide) (fun hc10 hf => ?_) (fun hc10 hf => ?_)
    · refine rw_iload_n F dX11_listen_25 rfl 3 rfl ?_
      refine rw_bipush F (v := 30) dX11_listen_26 (by decide) ?_
      obtain ⟨q6, hq5, hf⟩ := bind_h hf
      refine rw_callSI F (nA := 2) (c_X11_isOutside (aL a) Z _ _ _ _ hq5) gX11_listen_X11_isOutside rfl ⟨rfl, rfl⟩ (by decide +kernel) ⟨Nat.le_of_ble_eq_true rfl, Nat.le_of_ble_eq_true rfl⟩ rfl rfl (Nat.le_of_ble_eq_true rfl) dX11_listen_28 ?_
      refine rw_if_eq F (tgt := 39) hf dX11_listen_31 (by decide) (fun hc9 hf => ?_) (fun hc9 hf => ?_)
      · refine rw_aload_n F dX11_listen_39 rfl 0 rfl ?_
        refine rw_get F 0 (show 0 < 39 by decide) (gC_0 Z _) iw_X11_listen_X11 rfl 8 (by decide) lk_X11_listen_66 rfl dX11_listen_40 ?_
        refine rw_iload_n F dX11_listen_43 rfl 1 rfl ?_
        refine rw_iload_n F dX11_listen_44 rfl 2 rfl ?_
        refine rw_iload_n F dX11_listen_45 rfl 3 rfl ?_
        obtain ⟨q8, hq7, hf⟩ := bind_h hf
        refine rw_callVI F (k0 := 30) (nA := 3) (c_X10_listeners_30 (aL a) Z _ _ _ _ _ hq7) gX11_listen_X10_listeners rfl ⟨rfl, rfl⟩ (by decide +kernel) ⟨Nat.le_of_ble_eq_true rfl, Nat.le_of_ble_eq_true rfl⟩ (show 30 < 39 by decide) (gC_30 Z _) rfl rfl rfl (Nat.le_of_ble_eq_true rfl) dX11_listen_46 ?_
        exact rw_iret F hf rfl dX11_listen_49
      · refine rw_ldc F (v := -1000000002) dX11_listen_34 (by decide +kernel) ?_
        refine rw_goto F (tgt := 49) dX11_listen_36 (by decide) ?_
        exact rw_iret F hf rfl dX11_listen_49
    · exact WS.sub [] rfl (b_X11_listen_b22 F   hf)

abbrev rm_X10_unheard_30 : Room := { frames := 4, cells := 0, slots := 0, locals := 96 }
abbrev FX_X10_unheard_30 (a : Ax) (Z : Zx) (A : Nat → Prop) : Prop := FX a (XC Z) A cX10_unheard RX10 wsX10_unheard 4 (some .int) rm_X10_unheard_30
theorem iw_X10_unheard_X10 : ∀ w ∈ wsX100, w ∈ wsX10_unheard := by decide +kernel
theorem lk_X10_unheard_15 : Cond.fieldLink RX10 15 (TX10 0).1 (TX10 0).2.1 (TX10 0).2.2.1 ∈ wsX10_unheard := by decide +kernel
theorem lk_X10_unheard_23 : Cond.fieldLink RX10 23 (TX10 2).1 (TX10 2).2.1 (TX10 2).2.2.1 ∈ wsX10_unheard := by decide +kernel
set_option maxHeartbeats 4000000 in
set_option maxRecDepth 100000 in
theorem b_X10_unheard_30_b34 {a : Ax} {Z : Zx} {A : Nat → Prop} {r : Int32} {f : Nat → Nat → Int32} (F : FX_X10_unheard_30 a Z A) (K4 : Int32 → Int32 → Int32 → Option Int32) (hK4 : ∀ (i1 : Int32) (i2 : Int32) (i3 : Int32), K4 i1 i2 i3 = some r → WS a (XC Z) A 4 (RP a (XC Z) A (PI r f)) 4 [(0, .ref (Z.2.1 30)), (1, .int i1), (2, .int i2), (3, .int i3)] [] f) : ∀ (i1 : Int32) (i2 : Int32) (i3 : Int32), f_X10_unheard_30_b34 K4 i1 i2 i3 f = some r → WS a (XC Z) A 4 (RP a (XC Z) A (PI r f)) 34 [(0, .ref (Z.2.1 30)), (1, .int i1), (2, .int i2), (3, .int i3)] [] f := by
  intro i1 i2 i3 hf
  unfold f_X10_unheard_30_b34 at hf
  refine rw_iinc F (v := 1) dX10_unheard_34 3 rfl (by decide) (by decide) rfl ?_
  refine rw_goto F (tgt := 4) dX10_unheard_37 (by decide) ?_
  exact WS.sub [1, 2, 3, 0] rfl (hK4 _ _ _ hf)

set_option maxHeartbeats 4000000 in
set_option maxRecDepth 100000 in
theorem b_X10_unheard_30_b4 {a : Ax} {Z : Zx} {A : Nat → Prop} {r : Int32} {f : Nat → Nat → Int32} (F : FX_X10_unheard_30 a Z A) : ∀ (n : Nat) (i1 : Int32) (i2 : Int32) (i3 : Int32), f_X10_unheard_30_b4 n i1 i2 i3 f = some r → WS a (XC Z) A 4 (RP a (XC Z) A (PI r f)) 4 [(0, .ref (Z.2.1 30)), (1, .int i1), (2, .int i2), (3, .int i3)] [] f := by
  intro n
  induction n with
  | zero => intro i1 i2 i3 hf; exact nomatch (show (none : Option Int32) = some r from hf)
  | succ n hK4 =>
    intro i1 i2 i3 hf
    replace hf : f_X10_unheard_30_b4s (fun i1 i2 i3 => f_X10_unheard_30_b4 n i1 i2 i3 f) i1 i2 i3 f = some r := hf
    unfold f_X10_unheard_30_b4s at hf
    refine rw_iload_n F dX10_unheard_4 rfl 3 rfl ?_
    refine rw_aload_n F dX10_unheard_5 rfl 0 rfl ?_
    refine rw_get F 30 (show 30 < 39 by decide) (gC_30 Z _) iw_X10_unheard_X10 rfl 0 (by decide) lk_X10_unheard_15 rfl dX10_unheard_6 ?_
    obtain ⟨q2, hq1, hf⟩ := bind_h hf
    refine rw_callVI F (k0 := 3) (nA := 0) (c_X5_places_3 (aL a) Z  _ _ hq1) gX10_unheard_X5_places rfl ⟨rfl, rfl⟩ (by decide +kernel) ⟨Nat.le_of_ble_eq_true rfl, Nat.le_of_ble_eq_true rfl⟩ (show 3 < 39 by decide) (gC_3 Z _) rfl rfl rfl (Nat.le_of_ble_eq_true rfl) dX10_unheard_9 ?_
    refine rw_icmp_ge F (tgt := 40) hf dX10_unheard_12 (by decide) (fun hc6 hf => ?_) (fun hc6 hf => ?_)
    · refine rw_iload_n F dX10_unheard_40 rfl 2 rfl ?_
      exact rw_iret F hf rfl dX10_unheard_41
    · refine rw_aload_n F dX10_unheard_15 rfl 0 rfl ?_
      refine rw_get F 30 (show 30 < 39 by decide) (gC_30 Z _) iw_X10_unheard_X10 rfl 2 (by decide) lk_X10_unheard_23 rfl dX10_unheard_16 ?_
      refine rw_iload_n F dX10_unheard_19 rfl 1 rfl ?_
      refine rw_iload_n F dX10_unheard_20 rfl 3 rfl ?_
      refine rw_iconst F (v := 0) dX10_unheard_21 (by decide) ?_
      obtain ⟨q4, hq3, hf⟩ := bind_h hf
      refine rw_callVI F (k0 := 29) (nA := 3) (c_X2_hearers_29 (aL a) Z _ _ _ _ _ hq3) gX10_unheard_X2_hearers rfl ⟨rfl, rfl⟩ (by decide +kernel) ⟨Nat.le_of_ble_eq_true rfl, Nat.le_of_ble_eq_true rfl⟩ (show 29 < 39 by decide) (gC_29 Z _) rfl rfl rfl (Nat.le_of_ble_eq_true rfl) dX10_unheard_22 ?_
      refine rw_if_ne F (tgt := 34) hf dX10_unheard_25 (by decide) (fun hc5 hf => ?_) (fun hc5 hf => ?_)
      · exact WS.sub [0, 1, 2, 3] rfl (b_X10_unheard_30_b34 F _ hK4 _ _ _ hf)
      · refine rw_iload_n F dX10_unheard_28 rfl 2 rfl ?_
        refine rw_iconst F (v := 1) dX10_unheard_29 (by decide) ?_
        refine rw_iload_n F dX10_unheard_30 rfl 3 rfl ?_
        refine rw_ishl F dX10_unheard_31 ?_
        refine rw_ior F dX10_unheard_32 ?_
        refine rw_istore_n F dX10_unheard_33 rfl (by decide) rfl ?_
        exact WS.sub [1, 2, 0, 3] rfl (b_X10_unheard_30_b34 F _ hK4 _ _ _ hf)

set_option maxHeartbeats 4000000 in
set_option maxRecDepth 100000 in
theorem c_X10_unheard_30 (l : Launch) (Z : Zx) (p1 : Int32) (f : Nat → Nat → Int32) (r : Int32) (hf : f_X10_unheard_30 p1 f = some r) : MS l (XC Z) yX10_unheard wsX10_unheard rm_X10_unheard_30 [.ref (Z.2.1 30), .int p1] f (PI r f) := by
  refine MS.of (cc := cX10_unheard) (maxL := 4) (ret := (some .int)) (own := RX10) (lv := [(0, .ref (Z.2.1 30)), (1, .int p1)]) (by decide) rfl rfl (Nat.le_of_ble_eq_true rfl) rfl ?_
  intro a A hla F
  subst hla
  unfold f_X10_unheard_30 at hf
  refine rw_iconst F (v := 0) dX10_unheard_0 (by decide) ?_
  refine rw_istore_n F dX10_unheard_1 rfl (by decide) rfl ?_
  refine rw_iconst F (v := 0) dX10_unheard_2 (by decide) ?_
  refine rw_istore_n F dX10_unheard_3 rfl (by decide) rfl ?_
  exact WS.sub [2, 3, 1, 0] rfl (b_X10_unheard_30_b4 F  fuB _ _ _ hf)

abbrev rm_X11_deaf : Room := { frames := 5, cells := 0, slots := 0, locals := 119 }
abbrev FX_X11_deaf (a : Ax) (Z : Zx) (A : Nat → Prop) : Prop := FX a (XC Z) A cX11_deaf RX11 wsX11_deaf 2 (some .int) rm_X11_deaf
theorem iw_X11_deaf_X11 : ∀ w ∈ wsX110, w ∈ wsX11_deaf := by decide +kernel
theorem lk_X11_deaf_19 : Cond.fieldLink RX11 19 (TX11 1).1 (TX11 1).2.1 (TX11 1).2.2.1 ∈ wsX11_deaf := by decide +kernel
theorem lk_X11_deaf_66 : Cond.fieldLink RX11 66 (TX11 8).1 (TX11 8).2.1 (TX11 8).2.2.1 ∈ wsX11_deaf := by decide +kernel
set_option maxHeartbeats 4000000 in
set_option maxRecDepth 100000 in
theorem c_X11_deaf (l : Launch) (Z : Zx) (p1 : Int32) (f : Nat → Nat → Int32) (r : Int32) (hf : f_X11_deaf p1 f = some r) : MS l (XC Z) yX11_deaf wsX11_deaf rm_X11_deaf [.ref (Z.2.1 0), .int p1] f (PI r f) := by
  refine MS.of (cc := cX11_deaf) (maxL := 2) (ret := (some .int)) (own := RX11) (lv := [(0, .ref (Z.2.1 0)), (1, .int p1)]) (by decide) rfl rfl (Nat.le_of_ble_eq_true rfl) rfl ?_
  intro a A hla F
  subst hla
  unfold f_X11_deaf at hf
  refine rw_aload_n F dX11_deaf_0 rfl 0 rfl ?_
  refine rw_get F 0 (show 0 < 39 by decide) (gC_0 Z _) iw_X11_deaf_X11 rfl 1 (by decide) lk_X11_deaf_19 rfl dX11_deaf_1 ?_
  refine rw_iload_n F dX11_deaf_4 rfl 1 rfl ?_
  obtain ⟨q2, hq1, hf⟩ := bind_h hf
  refine rw_callVI F (k0 := 3) (nA := 1) (c_X5_isSound_3 (aL a) Z _ _ _ hq1) gX11_deaf_X5_isSound rfl ⟨rfl, rfl⟩ (by decide +kernel) ⟨Nat.le_of_ble_eq_true rfl, Nat.le_of_ble_eq_true rfl⟩ (show 3 < 39 by decide) (gC_3 Z _) rfl rfl rfl (Nat.le_of_ble_eq_true rfl) dX11_deaf_5 ?_
  refine rw_if_eq F (tgt := 22) hf dX11_deaf_8 (by decide) (fun hc5 hf => ?_) (fun hc5 hf => ?_)
  · refine rw_ldc F (v := -1000000001) dX11_deaf_22 (by decide +kernel) ?_
    exact rw_iret F hf rfl dX11_deaf_24
  · refine rw_aload_n F dX11_deaf_11 rfl 0 rfl ?_
    refine rw_get F 0 (show 0 < 39 by decide) (gC_0 Z _) iw_X11_deaf_X11 rfl 8 (by decide) lk_X11_deaf_66 rfl dX11_deaf_12 ?_
    refine rw_iload_n F dX11_deaf_15 rfl 1 rfl ?_
    obtain ⟨q4, hq3, hf⟩ := bind_h hf
    refine rw_callVI F (k0 := 30) (nA := 1) (c_X10_unheard_30 (aL a) Z _ _ _ hq3) gX11_deaf_X10_unheard rfl ⟨rfl, rfl⟩ (by decide +kernel) ⟨Nat.le_of_ble_eq_true rfl, Nat.le_of_ble_eq_true rfl⟩ (show 30 < 39 by decide) (gC_30 Z _) rfl rfl rfl (Nat.le_of_ble_eq_true rfl) dX11_deaf_16 ?_
    refine rw_goto F (tgt := 24) dX11_deaf_19 (by decide) ?_
    exact rw_iret F hf rfl dX11_deaf_24

abbrev rm_X5_arePlaces_3 : Room := { frames := 1, cells := 0, slots := 0, locals := 20 }
abbrev FX_X5_arePlaces_3 (a : Ax) (Z : Zx) (A : Nat → Prop) : Prop := FX a (XC Z) A cX5_arePlaces RX5 wsX5_arePlaces 2 (some .boolean) rm_X5_arePlaces_3
set_option maxHeartbeats 4000000 in
set_option maxRecDepth 100000 in
theorem c_X5_arePlaces_3 (l : Launch) (Z : Zx) (p1 : Int32) (f : Nat → Nat → Int32) (r : Int32) (hf : f_X5_arePlaces_3 p1 f = some r) : MS l (XC Z) yX5_arePlaces wsX5_arePlaces rm_X5_arePlaces_3 [.ref (Z.2.1 3), .int p1] f (PI r f) := by
  refine MS.of (cc := cX5_arePlaces) (maxL := 2) (ret := (some .boolean)) (own := RX5) (lv := [(0, .ref (Z.2.1 3)), (1, .int p1)]) (by decide) rfl rfl (Nat.le_of_ble_eq_true rfl) rfl ?_
  intro a A hla F
  subst hla
  unfold f_X5_arePlaces_3 at hf
  refine rw_iload_n F dX5_arePlaces_0 rfl 1 rfl ?_
  refine rw_if_lt F (tgt := 18) hf dX5_arePlaces_1 (by decide) (fun hc4 hf => ?_) (fun hc4 hf => ?_)
  · refine rw_iconst F (v := 0) dX5_arePlaces_18 (by decide) ?_
    exact rw_zretZ F (by decide) hf rfl dX5_arePlaces_19
  · refine rw_iload_n F dX5_arePlaces_4 rfl 1 rfl ?_
    refine rw_iconst F (v := 1) dX5_arePlaces_5 (by decide) ?_
    refine rw_aload_n F dX5_arePlaces_6 rfl 0 rfl ?_
    obtain ⟨q2, hq1, hf⟩ := bind_h hf
    refine rw_callVI F (k0 := 3) (nA := 0) (c_X5_places_3 (aL a) Z  _ _ hq1) gX5_arePlaces_X5_places rfl ⟨rfl, rfl⟩ (by decide +kernel) ⟨Nat.le_of_ble_eq_true rfl, Nat.le_of_ble_eq_true rfl⟩ (show 3 < 39 by decide) (gC_3 Z _) rfl rfl rfl (Nat.le_of_ble_eq_true rfl) dX5_arePlaces_7 ?_
    refine rw_ishl F dX5_arePlaces_10 ?_
    refine rw_icmp_ge F (tgt := 18) hf dX5_arePlaces_11 (by decide) (fun hc3 hf => ?_) (fun hc3 hf => ?_)
    · refine rw_iconst F (v := 0) dX5_arePlaces_18 (by decide) ?_
      exact rw_zretZ F (by decide) hf rfl dX5_arePlaces_19
    · refine rw_iconst F (v := 1) dX5_arePlaces_14 (by decide) ?_
      refine rw_goto F (tgt := 19) dX5_arePlaces_15 (by decide) ?_
      exact rw_zretZ F (by decide) hf rfl dX5_arePlaces_19

abbrev rm_X10_coverAll_30 : Room := { frames := 1, cells := 0, slots := 0, locals := 21 }
abbrev FX_X10_coverAll_30 (a : Ax) (Z : Zx) (A : Nat → Prop) : Prop := FX a (XC Z) A cX10_coverAll RX10 wsX10_coverAll 4 (some .boolean) rm_X10_coverAll_30
theorem iw_X10_coverAll_X10 : ∀ w ∈ wsX100, w ∈ wsX10_coverAll := by decide +kernel
theorem lk_X10_coverAll_9 : Cond.fieldLink RX10 9 (TX10 3).1 (TX10 3).2.1 (TX10 3).2.2.1 ∈ wsX10_coverAll := by decide +kernel
theorem lk_X10_coverAll_15 : Cond.fieldLink RX10 15 (TX10 0).1 (TX10 0).2.1 (TX10 0).2.2.1 ∈ wsX10_coverAll := by decide +kernel
set_option maxHeartbeats 4000000 in
set_option maxRecDepth 100000 in
theorem b_X10_coverAll_30_b36 {a : Ax} {Z : Zx} {A : Nat → Prop} {r : Int32} {f : Nat → Nat → Int32} (F : FX_X10_coverAll_30 a Z A) (K2 : Int32 → Int32 → Int32 → Option Int32) (hK2 : ∀ (i1 : Int32) (i2 : Int32) (i3 : Int32), K2 i1 i2 i3 = some r → WS a (XC Z) A 4 (RP a (XC Z) A (PI r f)) 2 [(0, .ref (Z.2.1 30)), (1, .int i1), (2, .int i2), (3, .int i3)] [] f) : ∀ (i1 : Int32) (i2 : Int32) (i3 : Int32), f_X10_coverAll_30_b36 K2 i1 i2 i3 f = some r → WS a (XC Z) A 4 (RP a (XC Z) A (PI r f)) 36 [(0, .ref (Z.2.1 30)), (1, .int i1), (2, .int i2), (3, .int i3)] [] f := by
  intro i1 i2 i3 hf
  unfold f_X10_coverAll_30_b36 at hf
  refine rw_iinc F (v := 1) dX10_coverAll_36 3 rfl (by decide) (by decide) rfl ?_
  refine rw_goto F (tgt := 2) dX10_coverAll_39 (by decide) ?_
  exact WS.sub [1, 2, 3, 0] rfl (hK2 _ _ _ hf)

set_option maxHeartbeats 4000000 in
set_option maxRecDepth 100000 in
theorem b_X10_coverAll_30_b2 {a : Ax} {Z : Zx} {A : Nat → Prop} {r : Int32} {f : Nat → Nat → Int32} (F : FX_X10_coverAll_30 a Z A) : ∀ (n : Nat) (i1 : Int32) (i2 : Int32) (i3 : Int32), f_X10_coverAll_30_b2 n i1 i2 i3 f = some r → WS a (XC Z) A 4 (RP a (XC Z) A (PI r f)) 2 [(0, .ref (Z.2.1 30)), (1, .int i1), (2, .int i2), (3, .int i3)] [] f := by
  intro n
  induction n with
  | zero => intro i1 i2 i3 hf; exact nomatch (show (none : Option Int32) = some r from hf)
  | succ n hK2 =>
    intro i1 i2 i3 hf
    replace hf : f_X10_coverAll_30_b2s (fun i1 i2 i3 => f_X10_coverAll_30_b2 n i1 i2 i3 f) i1 i2 i3 f = some r := hf
    unfold f_X10_coverAll_30_b2s at hf
    refine rw_iload_n F dX10_coverAll_2 rfl 3 rfl ?_
    refine rw_aload_n F dX10_coverAll_3 rfl 0 rfl ?_
    refine rw_get F 30 (show 30 < 39 by decide) (gC_30 Z _) iw_X10_coverAll_X10 rfl 0 (by decide) lk_X10_coverAll_15 rfl dX10_coverAll_4 ?_
    obtain ⟨q2, hq1, hf⟩ := bind_h hf
    refine rw_callVI F (k0 := 3) (nA := 0) (c_X5_places_3 (aL a) Z  _ _ hq1) gX10_coverAll_X5_places rfl ⟨rfl, rfl⟩ (by decide +kernel) ⟨Nat.le_of_ble_eq_true rfl, Nat.le_of_ble_eq_true rfl⟩ (show 3 < 39 by decide) (gC_3 Z _) rfl rfl rfl (Nat.le_of_ble_eq_true rfl) dX10_coverAll_7 ?_
    refine rw_icmp_ge F (tgt := 42) hf dX10_coverAll_10 (by decide) (fun hc7 hf => ?_) (fun hc7 hf => ?_)
    · refine rw_iconst F (v := 1) dX10_coverAll_42 (by decide) ?_
      exact rw_zretZ F (by decide) hf rfl dX10_coverAll_43
    · refine rw_iload_n F dX10_coverAll_13 rfl 2 rfl ?_
      refine rw_iload_n F dX10_coverAll_14 rfl 3 rfl ?_
      refine rw_ishr F dX10_coverAll_15 ?_
      refine rw_iconst F (v := 1) dX10_coverAll_16 (by decide) ?_
      refine rw_iand F dX10_coverAll_17 ?_
      refine rw_if_eq F (tgt := 36) hf dX10_coverAll_18 (by decide) (fun hc6 hf => ?_) (fun hc6 hf => ?_)
      · exact WS.sub [0, 1, 2, 3] rfl (b_X10_coverAll_30_b36 F _ hK2 _ _ _ hf)
      · refine rw_iload_n F dX10_coverAll_21 rfl 1 rfl ?_
        refine rw_aload_n F dX10_coverAll_22 rfl 0 rfl ?_
        refine rw_get F 30 (show 30 < 39 by decide) (gC_30 Z _) iw_X10_coverAll_X10 rfl 3 (by decide) lk_X10_coverAll_9 rfl dX10_coverAll_23 ?_
        refine rw_iload_n F dX10_coverAll_26 rfl 3 rfl ?_
        obtain ⟨q4, hq3, hf⟩ := bind_h hf
        refine rw_callSI F (nA := 2) (c_X7_get (aL a) Z (show 31 < 39 by decide) (gC_31 Z) _ _ _ hq3) gX10_coverAll_X7_get rfl ⟨rfl, rfl⟩ (by decide +kernel) ⟨Nat.le_of_ble_eq_true rfl, Nat.le_of_ble_eq_true rfl⟩ rfl rfl (Nat.le_of_ble_eq_true rfl) dX10_coverAll_27 ?_
        refine rw_iand F dX10_coverAll_30 ?_
        refine rw_if_ne F (tgt := 36) hf dX10_coverAll_31 (by decide) (fun hc5 hf => ?_) (fun hc5 hf => ?_)
        · exact WS.sub [0, 1, 2, 3] rfl (b_X10_coverAll_30_b36 F _ hK2 _ _ _ hf)
        · refine rw_iconst F (v := 0) dX10_coverAll_34 (by decide) ?_
          exact rw_zretZ F (by decide) hf rfl dX10_coverAll_35

set_option maxHeartbeats 4000000 in
set_option maxRecDepth 100000 in
theorem c_X10_coverAll_30 (l : Launch) (Z : Zx) (p1 : Int32) (p2 : Int32) (f : Nat → Nat → Int32) (r : Int32) (hf : f_X10_coverAll_30 p1 p2 f = some r) : MS l (XC Z) yX10_coverAll wsX10_coverAll rm_X10_coverAll_30 [.ref (Z.2.1 30), .int p1, .int p2] f (PI r f) := by
  refine MS.of (cc := cX10_coverAll) (maxL := 4) (ret := (some .boolean)) (own := RX10) (lv := [(0, .ref (Z.2.1 30)), (1, .int p1), (2, .int p2)]) (by decide) rfl rfl (Nat.le_of_ble_eq_true rfl) rfl ?_
  intro a A hla F
  subst hla
  unfold f_X10_coverAll_30 at hf
  refine rw_iconst F (v := 0) dX10_coverAll_0 (by decide) ?_
  refine rw_istore_n F dX10_coverAll_1 rfl (by decide) rfl ?_
  exact WS.sub [1, 2, 3, 0] rfl (b_X10_coverAll_30_b2 F  fuB _ _ _ hf)

abbrev rm_J6_bitCount_0f7a4 : Room := { frames := 0, cells := 0, slots := 0, locals := 0 }
abbrev FX_J6_bitCount_0f7a4 (a : Ax) (Z : Zx) (A : Nat → Prop) : Prop := FX a (XC Z) A cJ6_bitCount_0f7a4 RJ6 wsJ6_bitCount_0f7a4 1 (some .int) rm_J6_bitCount_0f7a4
set_option maxHeartbeats 4000000 in
set_option maxRecDepth 100000 in
theorem c_J6_bitCount_0f7a4 (l : Launch) (Z : Zx) (p0 : Int32) (f : Nat → Nat → Int32) (r : Int32) (hf : f_J6_bitCount_0f7a4 p0 f = some r) : MS l (XC Z) yJ6_bitCount_0f7a4 wsJ6_bitCount_0f7a4 rm_J6_bitCount_0f7a4 [.int p0] f (PI r f) := by
  refine MS.of (cc := cJ6_bitCount_0f7a4) (maxL := 1) (ret := (some .int)) (own := RJ6) (lv := [(0, .int p0)]) (by decide) rfl rfl (Nat.le_of_ble_eq_true rfl) rfl ?_
  intro a A hla F
  subst hla
  unfold f_J6_bitCount_0f7a4 at hf
  refine rw_iload_n F dJ6_bitCount_0f7a4_0 rfl 0 rfl ?_
  refine rw_iload_n F dJ6_bitCount_0f7a4_1 rfl 0 rfl ?_
  refine rw_iconst F (v := 1) dJ6_bitCount_0f7a4_2 (by decide) ?_
  refine rw_iushr F dJ6_bitCount_0f7a4_3 ?_
  refine rw_ldcw F (v := 1431655765) dJ6_bitCount_0f7a4_4 (by decide +kernel) ?_
  refine rw_iand F dJ6_bitCount_0f7a4_7 ?_
  refine rw_isub F dJ6_bitCount_0f7a4_8 ?_
  refine rw_istore_n F dJ6_bitCount_0f7a4_9 rfl (by decide) rfl ?_
  refine rw_iload_n F dJ6_bitCount_0f7a4_10 rfl 0 rfl ?_
  refine rw_ldcw F (v := 858993459) dJ6_bitCount_0f7a4_11 (by decide +kernel) ?_
  refine rw_iand F dJ6_bitCount_0f7a4_14 ?_
  refine rw_iload_n F dJ6_bitCount_0f7a4_15 rfl 0 rfl ?_
  refine rw_iconst F (v := 2) dJ6_bitCount_0f7a4_16 (by decide) ?_
  refine rw_iushr F dJ6_bitCount_0f7a4_17 ?_
  refine rw_ldcw F (v := 858993459) dJ6_bitCount_0f7a4_18 (by decide +kernel) ?_
  refine rw_iand F dJ6_bitCount_0f7a4_21 ?_
  refine rw_iadd F dJ6_bitCount_0f7a4_22 ?_
  refine rw_istore_n F dJ6_bitCount_0f7a4_23 rfl (by decide) rfl ?_
  refine rw_iload_n F dJ6_bitCount_0f7a4_24 rfl 0 rfl ?_
  refine rw_iload_n F dJ6_bitCount_0f7a4_25 rfl 0 rfl ?_
  refine rw_iconst F (v := 4) dJ6_bitCount_0f7a4_26 (by decide) ?_
  refine rw_iushr F dJ6_bitCount_0f7a4_27 ?_
  refine rw_iadd F dJ6_bitCount_0f7a4_28 ?_
  refine rw_ldcw F (v := 252645135) dJ6_bitCount_0f7a4_29 (by decide +kernel) ?_
  refine rw_iand F dJ6_bitCount_0f7a4_32 ?_
  refine rw_istore_n F dJ6_bitCount_0f7a4_33 rfl (by decide) rfl ?_
  refine rw_iload_n F dJ6_bitCount_0f7a4_34 rfl 0 rfl ?_
  refine rw_iload_n F dJ6_bitCount_0f7a4_35 rfl 0 rfl ?_
  refine rw_bipush F (v := 8) dJ6_bitCount_0f7a4_36 (by decide) ?_
  refine rw_iushr F dJ6_bitCount_0f7a4_38 ?_
  refine rw_iadd F dJ6_bitCount_0f7a4_39 ?_
  refine rw_istore_n F dJ6_bitCount_0f7a4_40 rfl (by decide) rfl ?_
  refine rw_iload_n F dJ6_bitCount_0f7a4_41 rfl 0 rfl ?_
  refine rw_iload_n F dJ6_bitCount_0f7a4_42 rfl 0 rfl ?_
  refine rw_bipush F (v := 16) dJ6_bitCount_0f7a4_43 (by decide) ?_
  refine rw_iushr F dJ6_bitCount_0f7a4_45 ?_
  refine rw_iadd F dJ6_bitCount_0f7a4_46 ?_
  refine rw_istore_n F dJ6_bitCount_0f7a4_47 rfl (by decide) rfl ?_
  refine rw_iload_n F dJ6_bitCount_0f7a4_48 rfl 0 rfl ?_
  refine rw_bipush F (v := 63) dJ6_bitCount_0f7a4_49 (by decide) ?_
  refine rw_iand F dJ6_bitCount_0f7a4_51 ?_
  exact rw_iret F hf rfl dJ6_bitCount_0f7a4_52

abbrev rm_X10_fewestEars_30 : Room := { frames := 3, cells := 0, slots := 0, locals := 73 }
abbrev FX_X10_fewestEars_30 (a : Ax) (Z : Zx) (A : Nat → Prop) : Prop := FX a (XC Z) A cX10_fewestEars RX10 wsX10_fewestEars 7 (some .int) rm_X10_fewestEars_30
theorem iw_X10_fewestEars_X10 : ∀ w ∈ wsX100, w ∈ wsX10_fewestEars := by decide +kernel
theorem lk_X10_fewestEars_9 : Cond.fieldLink RX10 9 (TX10 3).1 (TX10 3).2.1 (TX10 3).2.2.1 ∈ wsX10_fewestEars := by decide +kernel
theorem lk_X10_fewestEars_15 : Cond.fieldLink RX10 15 (TX10 0).1 (TX10 0).2.1 (TX10 0).2.2.1 ∈ wsX10_fewestEars := by decide +kernel
set_option maxHeartbeats 4000000 in
set_option maxRecDepth 100000 in
theorem b_X10_fewestEars_30_b103 {a : Ax} {Z : Zx} {A : Nat → Prop} {r : (Int32 × (Nat → Nat → Int32))} (F : FX_X10_fewestEars_30 a Z A) (K44 : Int32 → Int32 → Int32 → (Nat → Nat → Int32) → Option (Int32 × (Nat → Nat → Int32))) (hK44 : ∀ (i2 : Int32) (i4 : Int32) (i5 : Int32) (f : Nat → Nat → Int32), K44 i2 i4 i5 f = some r → WS a (XC Z) A 7 (RP a (XC Z) A (PI r.1 r.2)) 44 [(0, .ref (Z.2.1 30)), (2, .int i2), (4, .int i4), (5, .int i5)] [] f) : ∀ (i2 : Int32) (i4 : Int32) (i5 : Int32) (f : Nat → Nat → Int32), f_X10_fewestEars_30_b103 K44 i2 i4 i5 f = some r → WS a (XC Z) A 7 (RP a (XC Z) A (PI r.1 r.2)) 103 [(0, .ref (Z.2.1 30)), (2, .int i2), (4, .int i4), (5, .int i5)] [] f := by
  intro i2 i4 i5 f hf
  unfold f_X10_fewestEars_30_b103 at hf
  refine rw_iinc F (v := 1) dX10_fewestEars_103 3 rfl (by decide) (by decide) rfl ?_
  refine rw_goto F (tgt := 44) dX10_fewestEars_106 (by decide) ?_
  exact WS.sub [1, 2, 3, 0] rfl (hK44 _ _ _ _ hf)

set_option maxHeartbeats 4000000 in
set_option maxRecDepth 100000 in
theorem b_X10_fewestEars_30_b82 {a : Ax} {Z : Zx} {A : Nat → Prop} {r : (Int32 × (Nat → Nat → Int32))} (F : FX_X10_fewestEars_30 a Z A) (K44 : Int32 → Int32 → Int32 → (Nat → Nat → Int32) → Option (Int32 × (Nat → Nat → Int32))) (hK44 : ∀ (i2 : Int32) (i4 : Int32) (i5 : Int32) (f : Nat → Nat → Int32), K44 i2 i4 i5 f = some r → WS a (XC Z) A 7 (RP a (XC Z) A (PI r.1 r.2)) 44 [(0, .ref (Z.2.1 30)), (2, .int i2), (4, .int i4), (5, .int i5)] [] f) : ∀ (i2 : Int32) (i4 : Int32) (i5 : Int32) (s0 : Int32) (f : Nat → Nat → Int32), f_X10_fewestEars_30_b82 K44 i2 i4 i5 s0 f = some r → WS a (XC Z) A 7 (RP a (XC Z) A (PI r.1 r.2)) 82 [(0, .ref (Z.2.1 30)), (2, .int i2), (4, .int i4), (5, .int i5)] [.int s0] f := by
  intro i2 i4 i5 s0 f hf
  unfold f_X10_fewestEars_30_b82 at hf
  refine rw_istore F dX10_fewestEars_82 (by decide) rfl ?_
  refine rw_iload F dX10_fewestEars_84 0 rfl ?_
  refine rw_if_eq F (tgt := 103) hf dX10_fewestEars_86 (by decide) (fun hc8 hf => ?_) (fun hc8 hf => ?_)
  · exact WS.sub [1, 2, 3, 4] rfl (b_X10_fewestEars_30_b103 F _ hK44 _ _ _ _ hf)
  · refine rw_aload_n F dX10_fewestEars_89 rfl 1 rfl ?_
    refine rw_iload F dX10_fewestEars_90 4 rfl ?_
    refine rw_iload_n F dX10_fewestEars_92 rfl 2 rfl ?_
    obtain ⟨q6, hq5, hf⟩ := bind_h hf
    refine rw_callVI F (k0 := 30) (nA := 2) (c_X10_coverAll_30 (aL a) Z _ _ _ _ hq5) gX10_fewestEars_X10_coverAll rfl ⟨rfl, rfl⟩ (by decide +kernel) ⟨Nat.le_of_ble_eq_true rfl, Nat.le_of_ble_eq_true rfl⟩ (show 30 < 39 by decide) (gC_30 Z _) rfl rfl rfl (Nat.le_of_ble_eq_true rfl) dX10_fewestEars_93 ?_
    refine rw_if_eq F (tgt := 103) hf dX10_fewestEars_96 (by decide) (fun hc7 hf => ?_) (fun hc7 hf => ?_)
    · exact WS.sub [1, 2, 3, 4] rfl (b_X10_fewestEars_30_b103 F _ hK44 _ _ _ _ hf)
    · refine rw_iload F dX10_fewestEars_99 4 rfl ?_
      refine rw_istore F dX10_fewestEars_101 (by decide) rfl ?_
      exact WS.sub [2, 3, 0, 4] rfl (b_X10_fewestEars_30_b103 F _ hK44 _ _ _ _ hf)

set_option maxHeartbeats 4000000 in
set_option maxRecDepth 100000 in
theorem b_X10_fewestEars_30_b77 {a : Ax} {Z : Zx} {A : Nat → Prop} {r : (Int32 × (Nat → Nat → Int32))} (F : FX_X10_fewestEars_30 a Z A) (K44 : Int32 → Int32 → Int32 → (Nat → Nat → Int32) → Option (Int32 × (Nat → Nat → Int32))) (hK44 : ∀ (i2 : Int32) (i4 : Int32) (i5 : Int32) (f : Nat → Nat → Int32), K44 i2 i4 i5 f = some r → WS a (XC Z) A 7 (RP a (XC Z) A (PI r.1 r.2)) 44 [(0, .ref (Z.2.1 30)), (2, .int i2), (4, .int i4), (5, .int i5)] [] f) : ∀ (i2 : Int32) (i4 : Int32) (i5 : Int32) (f : Nat → Nat → Int32), f_X10_fewestEars_30_b77 K44 i2 i4 i5 f = some r → WS a (XC Z) A 7 (RP a (XC Z) A (PI r.1 r.2)) 77 [(0, .ref (Z.2.1 30)), (2, .int i2), (4, .int i4), (5, .int i5)] [] f := by
  intro i2 i4 i5 f hf
  unfold f_X10_fewestEars_30_b77 at hf
  refine rw_iconst F (v := 1) dX10_fewestEars_77 (by decide) ?_
  refine rw_goto F (tgt := 82) dX10_fewestEars_78 (by decide) ?_
  exact WS.sub [0, 1, 2, 3] rfl (b_X10_fewestEars_30_b82 F _ hK44 _ _ _ _ _ hf)

set_option maxHeartbeats 4000000 in
set_option maxRecDepth 100000 in
theorem b_X10_fewestEars_30_b44 {a : Ax} {Z : Zx} {A : Nat → Prop} {r : (Int32 × (Nat → Nat → Int32))} (F : FX_X10_fewestEars_30 a Z A) : ∀ (n : Nat) (i2 : Int32) (i4 : Int32) (i5 : Int32) (f : Nat → Nat → Int32), f_X10_fewestEars_30_b44 n i2 i4 i5 f = some r → WS a (XC Z) A 7 (RP a (XC Z) A (PI r.1 r.2)) 44 [(0, .ref (Z.2.1 30)), (2, .int i2), (4, .int i4), (5, .int i5)] [] f := by
  intro n
  induction n with
  | zero => intro i2 i4 i5 f hf; exact nomatch (show (none : Option (Int32 × (Nat → Nat → Int32))) = some r from hf)
  | succ n hK44 =>
    intro i2 i4 i5 f hf
    replace hf : f_X10_fewestEars_30_b44s (f_X10_fewestEars_30_b44 n) i2 i4 i5 f = some r := hf
    unfold f_X10_fewestEars_30_b44s at hf
    refine rw_iload F dX10_fewestEars_44 3 rfl ?_
    refine rw_iconst F (v := 1) dX10_fewestEars_46 (by decide) ?_
    refine rw_aload_n F dX10_fewestEars_47 rfl 0 rfl ?_
    refine rw_get F 30 (show 30 < 39 by decide) (gC_30 Z _) iw_X10_fewestEars_X10 rfl 0 (by decide) lk_X10_fewestEars_15 rfl dX10_fewestEars_48 ?_
    obtain ⟨q4, hq3, hf⟩ := bind_h hf
    refine rw_callVI F (k0 := 3) (nA := 0) (c_X5_places_3 (aL a) Z  _ _ hq3) gX10_fewestEars_X5_places rfl ⟨rfl, rfl⟩ (by decide +kernel) ⟨Nat.le_of_ble_eq_true rfl, Nat.le_of_ble_eq_true rfl⟩ (show 3 < 39 by decide) (gC_3 Z _) rfl rfl rfl (Nat.le_of_ble_eq_true rfl) dX10_fewestEars_51 ?_
    refine rw_ishl F dX10_fewestEars_54 ?_
    refine rw_icmp_ge F (tgt := 109) hf dX10_fewestEars_55 (by decide) (fun hc15 hf => ?_) (fun hc15 hf => ?_)
    · refine rw_iload F dX10_fewestEars_109 2 rfl ?_
      exact rw_iretS F hf rfl dX10_fewestEars_111
    · refine rw_iload F dX10_fewestEars_58 2 rfl ?_
      refine rw_iconst F (v := -1) dX10_fewestEars_60 (by decide) ?_
      refine rw_icmp_eq F (tgt := 77) hf dX10_fewestEars_61 (by decide) (fun hc14 hf => ?_) (fun hc14 hf => ?_)
      · exact WS.sub [0, 1, 2, 3] rfl (b_X10_fewestEars_30_b77 F _ hK44 _ _ _ _ hf)
      · refine rw_iload F dX10_fewestEars_64 3 rfl ?_
        obtain ⟨q10, hq9, hf⟩ := bind_h hf
        refine rw_callSI F (nA := 1) (c_J6_bitCount_0f7a4 (aL a) Z _ _ _ hq9) gX10_fewestEars_J6_bitCount_0f7a4 rfl ⟨rfl, rfl⟩ (by decide +kernel) ⟨Nat.le_of_ble_eq_true rfl, Nat.le_of_ble_eq_true rfl⟩ rfl rfl (Nat.le_of_ble_eq_true rfl) dX10_fewestEars_66 ?_
        refine rw_iload F dX10_fewestEars_69 2 rfl ?_
        obtain ⟨q12, hq11, hf⟩ := bind_h hf
        refine rw_callSI F (nA := 1) (c_J6_bitCount_0f7a4 (aL a) Z _ _ _ hq11) gX10_fewestEars_J6_bitCount_0f7a4 rfl ⟨rfl, rfl⟩ (by decide +kernel) ⟨Nat.le_of_ble_eq_true rfl, Nat.le_of_ble_eq_true rfl⟩ rfl rfl (Nat.le_of_ble_eq_true rfl) dX10_fewestEars_71 ?_
        refine rw_icmp_ge F (tgt := 81) hf dX10_fewestEars_74 (by decide) (fun hc13 hf => ?_) (fun hc13 hf => ?_)
        · refine rw_iconst F (v := 0) dX10_fewestEars_81 (by decide) ?_
          exact WS.sub [0, 1, 2, 3] rfl (b_X10_fewestEars_30_b82 F _ hK44 _ _ _ _ _ hf)
        · exact WS.sub [0, 1, 2, 3] rfl (b_X10_fewestEars_30_b77 F _ hK44 _ _ _ _ hf)

set_option maxHeartbeats 4000000 in
set_option maxRecDepth 100000 in
theorem b_X10_fewestEars_30_b3 {a : Ax} {Z : Zx} {A : Nat → Prop} {r : (Int32 × (Nat → Nat → Int32))} (F : FX_X10_fewestEars_30 a Z A) : ∀ (n : Nat) (i1 : Int32) (i2 : Int32) (i3 : Int32) (i4 : Int32) (f : Nat → Nat → Int32), f_X10_fewestEars_30_b3 n i1 i2 i3 i4 f = some r → WS a (XC Z) A 7 (RP a (XC Z) A (PI r.1 r.2)) 3 [(0, .ref (Z.2.1 30)), (1, .int i1), (2, .int i2), (3, .int i3), (4, .int i4)] [] f := by
  intro n
  induction n with
  | zero => intro i1 i2 i3 i4 f hf; exact nomatch (show (none : Option (Int32 × (Nat → Nat → Int32))) = some r from hf)
  | succ n hK3 =>
    intro i1 i2 i3 i4 f hf
    replace hf : f_X10_fewestEars_30_b3s (f_X10_fewestEars_30_b3 n) i1 i2 i3 i4 f = some r := hf
    unfold f_X10_fewestEars_30_b3s at hf
    refine rw_iload F dX10_fewestEars_3 4 rfl ?_
    refine rw_aload_n F dX10_fewestEars_5 rfl 0 rfl ?_
    refine rw_get F 30 (show 30 < 39 by decide) (gC_30 Z _) iw_X10_fewestEars_X10 rfl 0 (by decide) lk_X10_fewestEars_15 rfl dX10_fewestEars_6 ?_
    obtain ⟨q2, hq1, hf⟩ := bind_h hf
    refine rw_callVI F (k0 := 3) (nA := 0) (c_X5_places_3 (aL a) Z  _ _ hq1) gX10_fewestEars_X5_places rfl ⟨rfl, rfl⟩ (by decide +kernel) ⟨Nat.le_of_ble_eq_true rfl, Nat.le_of_ble_eq_true rfl⟩ (show 3 < 39 by decide) (gC_3 Z _) rfl rfl rfl (Nat.le_of_ble_eq_true rfl) dX10_fewestEars_9 ?_
    refine rw_icmp_ge F (tgt := 38) hf dX10_fewestEars_12 (by decide) (fun hc20 hf => ?_) (fun hc20 hf => ?_)
    · refine rw_iconst F (v := -1) dX10_fewestEars_38 (by decide) ?_
      refine rw_istore F dX10_fewestEars_39 (by decide) rfl ?_
      refine rw_iconst F (v := 0) dX10_fewestEars_41 (by decide) ?_
      refine rw_istore F dX10_fewestEars_42 (by decide) rfl ?_
      exact WS.sub [2, 4, 1, 0] rfl (b_X10_fewestEars_30_b44 F  fuB _ _ _ _ hf)
    · refine rw_aload_n F dX10_fewestEars_15 rfl 0 rfl ?_
      refine rw_get F 30 (show 30 < 39 by decide) (gC_30 Z _) iw_X10_fewestEars_X10 rfl 3 (by decide) lk_X10_fewestEars_9 rfl dX10_fewestEars_16 ?_
      refine rw_iload F dX10_fewestEars_19 4 rfl ?_
      refine rw_aload_n F dX10_fewestEars_21 rfl 0 rfl ?_
      refine rw_iload_n F dX10_fewestEars_22 rfl 1 rfl ?_
      refine rw_iload F dX10_fewestEars_23 4 rfl ?_
      refine rw_iload_n F dX10_fewestEars_25 rfl 3 rfl ?_
      obtain ⟨q17, hq16, hf⟩ := bind_h hf
      refine rw_callVI F (k0 := 30) (nA := 3) (c_X10_listeners_30 (aL a) Z _ _ _ _ _ hq16) gX10_fewestEars_X10_listeners rfl ⟨rfl, rfl⟩ (by decide +kernel) ⟨Nat.le_of_ble_eq_true rfl, Nat.le_of_ble_eq_true rfl⟩ (show 30 < 39 by decide) (gC_30 Z _) rfl rfl rfl (Nat.le_of_ble_eq_true rfl) dX10_fewestEars_26 ?_
      obtain ⟨q19, hq18, hf⟩ := bind_h hf
      refine rw_callSV F (nA := 3) (c_X7_put (aL a) Z (show 31 < 39 by decide) (gC_31 Z) _ _ _ _ hq18) gX10_fewestEars_X7_put rfl ⟨rfl, rfl⟩ (by decide +kernel) ⟨Nat.le_of_ble_eq_true rfl, Nat.le_of_ble_eq_true rfl⟩ rfl rfl (Nat.le_of_ble_eq_true rfl) dX10_fewestEars_29 ?_
      refine rw_iinc F (v := 1) dX10_fewestEars_32 4 rfl (by decide) (by decide) rfl ?_
      refine rw_goto F (tgt := 3) dX10_fewestEars_35 (by decide) ?_
      exact WS.sub [1, 2, 3, 4, 0] rfl (hK3 _ _ _ _ _ hf)

set_option maxHeartbeats 4000000 in
set_option maxRecDepth 100000 in
theorem c_X10_fewestEars_30 (l : Launch) (Z : Zx) (p1 : Int32) (p2 : Int32) (p3 : Int32) (f : Nat → Nat → Int32) (r : (Int32 × (Nat → Nat → Int32))) (hf : f_X10_fewestEars_30 p1 p2 p3 f = some r) : MS l (XC Z) yX10_fewestEars wsX10_fewestEars rm_X10_fewestEars_30 [.ref (Z.2.1 30), .int p1, .int p2, .int p3] f (PI r.1 r.2) := by
  refine MS.of (cc := cX10_fewestEars) (maxL := 7) (ret := (some .int)) (own := RX10) (lv := [(0, .ref (Z.2.1 30)), (1, .int p1), (2, .int p2), (3, .int p3)]) (by decide) rfl rfl (Nat.le_of_ble_eq_true rfl) rfl ?_
  intro a A hla F
  subst hla
  unfold f_X10_fewestEars_30 at hf
  refine rw_iconst F (v := 0) dX10_fewestEars_0 (by decide) ?_
  refine rw_istore F dX10_fewestEars_1 (by decide) rfl ?_
  exact WS.sub [1, 2, 3, 4, 0] rfl (b_X10_fewestEars_30_b3 F  fuB _ _ _ _ _ hf)

abbrev rm_X11_ears : Room := { frames := 4, cells := 0, slots := 0, locals := 99 }
abbrev FX_X11_ears (a : Ax) (Z : Zx) (A : Nat → Prop) : Prop := FX a (XC Z) A cX11_ears RX11 wsX11_ears 4 (some .int) rm_X11_ears
theorem iw_X11_ears_X11 : ∀ w ∈ wsX110, w ∈ wsX11_ears := by decide +kernel
theorem lk_X11_ears_19 : Cond.fieldLink RX11 19 (TX11 1).1 (TX11 1).2.1 (TX11 1).2.2.1 ∈ wsX11_ears := by decide +kernel
theorem lk_X11_ears_66 : Cond.fieldLink RX11 66 (TX11 8).1 (TX11 8).2.1 (TX11 8).2.2.1 ∈ wsX11_ears := by decide +kernel
set_option maxHeartbeats 4000000 in
set_option maxRecDepth 100000 in
theorem b_X11_ears_b22 {a : Ax} {Z : Zx} {A : Nat → Prop} {r : (Int32 × (Nat → Nat → Int32))} (F : FX_X11_ears a Z A) : ∀ (f : Nat → Nat → Int32), f_X11_ears_b22  f = some r → WS a (XC Z) A 4 (RP a (XC Z) A (PI r.1 r.2)) 22 [] [] f := by
  intro  f hf
  unfold f_X11_ears_b22 at hf
  refine rw_ldc F (v := -1000000001) dX11_ears_22 (by decide +kernel) ?_
  exact rw_iretS F hf rfl dX11_ears_24

set_option maxHeartbeats 4000000 in
set_option maxRecDepth 100000 in
theorem c_X11_ears (l : Launch) (Z : Zx) (p1 : Int32) (p2 : Int32) (p3 : Int32) (f : Nat → Nat → Int32) (r : (Int32 × (Nat → Nat → Int32))) (hf : f_X11_ears p1 p2 p3 f = some r) : MS l (XC Z) yX11_ears wsX11_ears rm_X11_ears [.ref (Z.2.1 0), .int p1, .int p2, .int p3] f (PI r.1 r.2) := by
  refine MS.of (cc := cX11_ears) (maxL := 4) (ret := (some .int)) (own := RX11) (lv := [(0, .ref (Z.2.1 0)), (1, .int p1), (2, .int p2), (3, .int p3)]) (by decide) rfl rfl (Nat.le_of_ble_eq_true rfl) rfl ?_
  intro a A hla F
  subst hla
  unfold f_X11_ears at hf
  refine rw_aload_n F dX11_ears_0 rfl 0 rfl ?_
  refine rw_get F 0 (show 0 < 39 by decide) (gC_0 Z _) iw_X11_ears_X11 rfl 1 (by decide) lk_X11_ears_19 rfl dX11_ears_1 ?_
  refine rw_iload_n F dX11_ears_4 rfl 1 rfl ?_
  obtain ⟨q2, hq1, hf⟩ := bind_h hf
  refine rw_callVI F (k0 := 3) (nA := 1) (c_X5_isSound_3 (aL a) Z _ _ _ hq1) gX11_ears_X5_isSound rfl ⟨rfl, rfl⟩ (by decide +kernel) ⟨Nat.le_of_ble_eq_true rfl, Nat.le_of_ble_eq_true rfl⟩ (show 3 < 39 by decide) (gC_3 Z _) rfl rfl rfl (Nat.le_of_ble_eq_true rfl) dX11_ears_5 ?_
  refine rw_if_eq F (tgt := 22) hf dX11_ears_8 (by decide) (fun hc11 hf => ?_) (fun hc11 hf => ?_)
  · exact WS.sub [] rfl (b_X11_ears_b22 F  _ hf)
  · refine rw_aload_n F dX11_ears_11 rfl 0 rfl ?_
    refine rw_get F 0 (show 0 < 39 by decide) (gC_0 Z _) iw_X11_ears_X11 rfl 1 (by decide) lk_X11_ears_19 rfl dX11_ears_12 ?_
    refine rw_iload_n F dX11_ears_15 rfl 2 rfl ?_
    obtain ⟨q4, hq3, hf⟩ := bind_h hf
    refine rw_callVI F (k0 := 3) (nA := 1) (c_X5_arePlaces_3 (aL a) Z _ _ _ hq3) gX11_ears_X5_arePlaces rfl ⟨rfl, rfl⟩ (by decide +kernel) ⟨Nat.le_of_ble_eq_true rfl, Nat.le_of_ble_eq_true rfl⟩ (show 3 < 39 by decide) (gC_3 Z _) rfl rfl rfl (Nat.le_of_ble_eq_true rfl) dX11_ears_16 ?_
    refine rw_if_ne F (tgt := 25) hf dX11_ears_19 (by decide) (fun hc10 hf => ?_) (fun hc10 hf => ?_)
    · refine rw_iload_n F dX11_ears_25 rfl 3 rfl ?_
      refine rw_bipush F (v := 30) dX11_ears_26 (by decide) ?_
      obtain ⟨q6, hq5, hf⟩ := bind_h hf
      refine rw_callSI F (nA := 2) (c_X11_isOutside (aL a) Z _ _ _ _ hq5) gX11_ears_X11_isOutside rfl ⟨rfl, rfl⟩ (by decide +kernel) ⟨Nat.le_of_ble_eq_true rfl, Nat.le_of_ble_eq_true rfl⟩ rfl rfl (Nat.le_of_ble_eq_true rfl) dX11_ears_28 ?_
      refine rw_if_eq F (tgt := 39) hf dX11_ears_31 (by decide) (fun hc9 hf => ?_) (fun hc9 hf => ?_)
      · refine rw_aload_n F dX11_ears_39 rfl 0 rfl ?_
        refine rw_get F 0 (show 0 < 39 by decide) (gC_0 Z _) iw_X11_ears_X11 rfl 8 (by decide) lk_X11_ears_66 rfl dX11_ears_40 ?_
        refine rw_iload_n F dX11_ears_43 rfl 1 rfl ?_
        refine rw_iload_n F dX11_ears_44 rfl 2 rfl ?_
        refine rw_iload_n F dX11_ears_45 rfl 3 rfl ?_
        obtain ⟨q8, hq7, hf⟩ := bind_h hf
        refine rw_callVI F (k0 := 30) (nA := 3) (c_X10_fewestEars_30 (aL a) Z _ _ _ _ _ hq7) gX11_ears_X10_fewestEars rfl ⟨rfl, rfl⟩ (by decide +kernel) ⟨Nat.le_of_ble_eq_true rfl, Nat.le_of_ble_eq_true rfl⟩ (show 30 < 39 by decide) (gC_30 Z _) rfl rfl rfl (Nat.le_of_ble_eq_true rfl) dX11_ears_46 ?_
        exact rw_iretS F hf rfl dX11_ears_49
      · refine rw_ldc F (v := -1000000002) dX11_ears_34 (by decide +kernel) ?_
        refine rw_goto F (tgt := 49) dX11_ears_36 (by decide) ?_
        exact rw_iretS F hf rfl dX11_ears_49
    · exact WS.sub [] rfl (b_X11_ears_b22 F  _ hf)

abbrev rm_X10_areAlike_30 : Room := { frames := 4, cells := 0, slots := 0, locals := 96 }
abbrev FX_X10_areAlike_30 (a : Ax) (Z : Zx) (A : Nat → Prop) : Prop := FX a (XC Z) A cX10_areAlike RX10 wsX10_areAlike 5 (some .boolean) rm_X10_areAlike_30
theorem iw_X10_areAlike_X10 : ∀ w ∈ wsX100, w ∈ wsX10_areAlike := by decide +kernel
theorem iw_X10_areAlike_X5 : ∀ w ∈ wsX50, w ∈ wsX10_areAlike := by decide +kernel
theorem lk_X10_areAlike_15 : Cond.fieldLink RX10 15 (TX10 0).1 (TX10 0).2.1 (TX10 0).2.2.1 ∈ wsX10_areAlike := by decide +kernel
theorem lk_X10_areAlike_23 : Cond.fieldLink RX10 23 (TX10 2).1 (TX10 2).2.1 (TX10 2).2.2.1 ∈ wsX10_areAlike := by decide +kernel
theorem lk_X10_areAlike_73 : Cond.fieldLink RX10 73 (TX5 3).1 (TX5 3).2.1 (TX5 3).2.2.1 ∈ wsX10_areAlike := by decide +kernel
set_option maxHeartbeats 4000000 in
set_option maxRecDepth 100000 in
theorem b_X10_areAlike_30_b3 {a : Ax} {Z : Zx} {A : Nat → Prop} {r : Int32} {f : Nat → Nat → Int32} (F : FX_X10_areAlike_30 a Z A) : ∀ (n : Nat) (i1 : Int32) (i2 : Int32) (i3 : Int32) (i4 : Int32), f_X10_areAlike_30_b3 n i1 i2 i3 i4 f = some r → WS a (XC Z) A 5 (RP a (XC Z) A (PI r f)) 3 [(0, .ref (Z.2.1 30)), (1, .int i1), (2, .int i2), (3, .int i3), (4, .int i4)] [] f := by
  intro n
  induction n with
  | zero => intro i1 i2 i3 i4 hf; exact nomatch (show (none : Option Int32) = some r from hf)
  | succ n hK3 =>
    intro i1 i2 i3 i4 hf
    replace hf : f_X10_areAlike_30_b3s (fun i1 i2 i3 i4 => f_X10_areAlike_30_b3 n i1 i2 i3 i4 f) i1 i2 i3 i4 f = some r := hf
    unfold f_X10_areAlike_30_b3s at hf
    refine rw_iload F dX10_areAlike_3 4 rfl ?_
    refine rw_aload_n F dX10_areAlike_5 rfl 0 rfl ?_
    refine rw_get F 30 (show 30 < 39 by decide) (gC_30 Z _) iw_X10_areAlike_X10 rfl 0 (by decide) lk_X10_areAlike_15 rfl dX10_areAlike_6 ?_
    refine rw_get F 3 (show 3 < 39 by decide) (gC_3 Z _) iw_X10_areAlike_X5 rfl 3 (by decide) lk_X10_areAlike_73 rfl dX10_areAlike_9 ?_
    refine rw_icmp_ge F (tgt := 48) hf dX10_areAlike_12 (by decide) (fun hc6 hf => ?_) (fun hc6 hf => ?_)
    · refine rw_iconst F (v := 1) dX10_areAlike_48 (by decide) ?_
      exact rw_zretZ F (by decide) hf rfl dX10_areAlike_49
    · refine rw_aload_n F dX10_areAlike_15 rfl 0 rfl ?_
      refine rw_get F 30 (show 30 < 39 by decide) (gC_30 Z _) iw_X10_areAlike_X10 rfl 2 (by decide) lk_X10_areAlike_23 rfl dX10_areAlike_16 ?_
      refine rw_iload F dX10_areAlike_19 4 rfl ?_
      refine rw_iload_n F dX10_areAlike_21 rfl 1 rfl ?_
      refine rw_iload_n F dX10_areAlike_22 rfl 3 rfl ?_
      obtain ⟨q2, hq1, hf⟩ := bind_h hf
      refine rw_callVI F (k0 := 29) (nA := 3) (c_X2_saying_29 (aL a) Z _ _ _ _ _ hq1) gX10_areAlike_X2_saying rfl ⟨rfl, rfl⟩ (by decide +kernel) ⟨Nat.le_of_ble_eq_true rfl, Nat.le_of_ble_eq_true rfl⟩ (show 29 < 39 by decide) (gC_29 Z _) rfl rfl rfl (Nat.le_of_ble_eq_true rfl) dX10_areAlike_23 ?_
      refine rw_aload_n F dX10_areAlike_26 rfl 0 rfl ?_
      refine rw_get F 30 (show 30 < 39 by decide) (gC_30 Z _) iw_X10_areAlike_X10 rfl 2 (by decide) lk_X10_areAlike_23 rfl dX10_areAlike_27 ?_
      refine rw_iload F dX10_areAlike_30 4 rfl ?_
      refine rw_iload_n F dX10_areAlike_32 rfl 2 rfl ?_
      refine rw_iload_n F dX10_areAlike_33 rfl 3 rfl ?_
      obtain ⟨q4, hq3, hf⟩ := bind_h hf
      refine rw_callVI F (k0 := 29) (nA := 3) (c_X2_saying_29 (aL a) Z _ _ _ _ _ hq3) gX10_areAlike_X2_saying rfl ⟨rfl, rfl⟩ (by decide +kernel) ⟨Nat.le_of_ble_eq_true rfl, Nat.le_of_ble_eq_true rfl⟩ (show 29 < 39 by decide) (gC_29 Z _) rfl rfl rfl (Nat.le_of_ble_eq_true rfl) dX10_areAlike_34 ?_
      refine rw_icmp_eq F (tgt := 42) hf dX10_areAlike_37 (by decide) (fun hc5 hf => ?_) (fun hc5 hf => ?_)
      · refine rw_iinc F (v := 1) dX10_areAlike_42 4 rfl (by decide) (by decide) rfl ?_
        refine rw_goto F (tgt := 3) dX10_areAlike_45 (by decide) ?_
        exact WS.sub [1, 2, 3, 4, 0] rfl (hK3 _ _ _ _ hf)
      · refine rw_iconst F (v := 0) dX10_areAlike_40 (by decide) ?_
        exact rw_zretZ F (by decide) hf rfl dX10_areAlike_41

set_option maxHeartbeats 4000000 in
set_option maxRecDepth 100000 in
theorem c_X10_areAlike_30 (l : Launch) (Z : Zx) (p1 : Int32) (p2 : Int32) (p3 : Int32) (f : Nat → Nat → Int32) (r : Int32) (hf : f_X10_areAlike_30 p1 p2 p3 f = some r) : MS l (XC Z) yX10_areAlike wsX10_areAlike rm_X10_areAlike_30 [.ref (Z.2.1 30), .int p1, .int p2, .int p3] f (PI r f) := by
  refine MS.of (cc := cX10_areAlike) (maxL := 5) (ret := (some .boolean)) (own := RX10) (lv := [(0, .ref (Z.2.1 30)), (1, .int p1), (2, .int p2), (3, .int p3)]) (by decide) rfl rfl (Nat.le_of_ble_eq_true rfl) rfl ?_
  intro a A hla F
  subst hla
  unfold f_X10_areAlike_30 at hf
  refine rw_iconst F (v := 0) dX10_areAlike_0 (by decide) ?_
  refine rw_istore F dX10_areAlike_1 (by decide) rfl ?_
  exact WS.sub [1, 2, 3, 4, 0] rfl (b_X10_areAlike_30_b3 F  fuB _ _ _ _ hf)

