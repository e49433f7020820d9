abbrev rm_X11_isOutside : Room := { frames := 0, cells := 0, slots := 0, locals := 0 }
abbrev FX_X11_isOutside (a : Ax) (Z : Zx) (A : Nat → Prop) : Prop := FX a (XC Z) A cX11_isOutside RX11 wsX11_isOutside 2 (some .boolean) rm_X11_isOutside
set_option maxHeartbeats 4000000 in
set_option maxRecDepth 100000 in
theorem b_X11_isOutside_b9 {a : Ax} {Z : Zx} {A : Nat → Prop} {r : Int32} {f : Nat → Nat → Int32} (F : FX_X11_isOutside a Z A) : f_X11_isOutside_b9  f = some r → WS a (XC Z) A 2 (RP a (XC Z) A (PI r f)) 9 [] [] f := by
  intro  hf
  unfold f_X11_isOutside_b9 at hf
  refine rw_iconst F (v := 1) dX11_isOutside_9 (by decide) ?_
  refine rw_goto F (tgt := 14) dX11_isOutside_10 (by decide) ?_
  exact rw_zretZ F (by decide) hf rfl dX11_isOutside_14

set_option maxHeartbeats 4000000 in
set_option maxRecDepth 100000 in
theorem c_X11_isOutside (l : Launch) (Z : Zx) (p0 : Int32) (p1 : Int32) (f : Nat → Nat → Int32) (r : Int32) (hf : f_X11_isOutside p0 p1 f = some r) : MS l (XC Z) yX11_isOutside wsX11_isOutside rm_X11_isOutside [.int p0, .int p1] f (PI r f) := by
  refine MS.of (cc := cX11_isOutside) (maxL := 2) (ret := (some .boolean)) (own := RX11) (lv := [(0, .int p0), (1, .int p1)]) (by decide) rfl rfl (Nat.le_of_ble_eq_true rfl) rfl ?_
  intro a A hla F
  subst hla
  unfold f_X11_isOutside at hf
  refine rw_iload_n F dX11_isOutside_0 rfl 0 rfl ?_
  refine rw_if_lt F (tgt := 9) hf dX11_isOutside_1 (by decide) (fun hc2 hf => ?_) (fun hc2 hf => ?_)
  · exact WS.sub [] rfl (b_X11_isOutside_b9 F   hf)
  · refine rw_iload_n F dX11_isOutside_4 rfl 0 rfl ?_
    refine rw_iload_n F dX11_isOutside_5 rfl 1 rfl ?_
    refine rw_icmp_le F (tgt := 13) hf dX11_isOutside_6 (by decide) (fun hc1 hf => ?_) (fun hc1 hf => ?_)
    · refine rw_iconst F (v := 0) dX11_isOutside_13 (by decide) ?_
      exact rw_zretZ F (by decide) hf rfl dX11_isOutside_14
    · exact WS.sub [] rfl (b_X11_isOutside_b9 F   hf)

abbrev rm_X7_put : Room := { frames := 0, cells := 0, slots := 0, locals := 0 }
abbrev FX_X7_put (a : Ax) (Z : Zx) (A : Nat → Prop) : Prop := FX a (XC Z) A cX7_put RX7 wsX7_put 3 none rm_X7_put
set_option maxHeartbeats 4000000 in
set_option maxRecDepth 100000 in
theorem c_X7_put (l : Launch) (Z : Zx) {ka na : Nat} (hka : ka < 39) (hna : ∀ r, gC Z ka r = .inl (Z.2.2.1, na, .inl r)) (p1 : Int32) (p2 : Int32) (f : Nat → Nat → Int32) (r : Nat → Nat → Int32) (hf : f_X7_put ka na p1 p2 f = some r) : MS l (XC Z) yX7_put wsX7_put rm_X7_put [.ref (Z.2.1 ka), .int p1, .int p2] f (PV r) := by
  refine MS.of (cc := cX7_put) (maxL := 3) (ret := none) (own := RX7) (lv := [(0, .ref (Z.2.1 ka)), (1, .int p1), (2, .int p2)]) (by decide) rfl rfl (Nat.le_of_ble_eq_true rfl) rfl ?_
  intro a A hla F
  subst hla
  unfold f_X7_put at hf
  refine rw_iload_n F dX7_put_0 rfl 1 rfl ?_
  refine rw_if_lt F (tgt := 14) hf dX7_put_1 (by decide) (fun hc3 hf => ?_) (fun hc3 hf => ?_)
  · exact rw_vret F hf rfl dX7_put_14
  · refine rw_iload_n F dX7_put_4 rfl 1 rfl ?_
    refine rw_aload_n F dX7_put_5 rfl 0 rfl ?_
    refine rw_alen F (v := Int32.ofNat na) ka hka (hna _) 0 rfl rfl dX7_put_6 ?_
    refine rw_icmp_ge F (tgt := 14) hf dX7_put_7 (by decide) (fun hc2 hf => ?_) (fun hc2 hf => ?_)
    · exact rw_vret F hf rfl dX7_put_14
    · refine rw_aload_n F dX7_put_10 rfl 0 rfl ?_
      refine rw_iload_n F dX7_put_11 rfl 1 rfl ?_
      refine rw_iload_n F dX7_put_12 rfl 2 rfl ?_
      obtain ⟨hi1, hf⟩ := ck_h hf
      refine rw_iast F ka hka hna 0 rfl hi1 dX7_put_13 ?_
      exact rw_vret F hf rfl dX7_put_14

abbrev rm_X9_add_1 : Room := { frames := 1, cells := 0, slots := 0, locals := 22 }
abbrev FX_X9_add_1 (a : Ax) (Z : Zx) (A : Nat → Prop) : Prop := FX a (XC Z) A cX9_add RX9 wsX9_add 2 (some .boolean) rm_X9_add_1
theorem iw_X9_add_X9 : ∀ w ∈ wsX90, w ∈ wsX9_add := by decide +kernel
theorem lk_X9_add_9 : Cond.fieldLink RX9 9 (TX9 0).1 (TX9 0).2.1 (TX9 0).2.2.1 ∈ wsX9_add := by decide +kernel
theorem lk_X9_add_15 : Cond.fieldLink RX9 15 (TX9 1).1 (TX9 1).2.1 (TX9 1).2.2.1 ∈ wsX9_add := by decide +kernel
set_option maxHeartbeats 4000000 in
set_option maxRecDepth 100000 in
theorem c_X9_add_1 (l : Launch) (Z : Zx) (p1 : Int32) (f : Nat → Nat → Int32) (r : (Int32 × (Nat → Nat → Int32))) (hf : f_X9_add_1 p1 f = some r) : MS l (XC Z) yX9_add wsX9_add rm_X9_add_1 [.ref (Z.2.1 1), .int p1] f (PI r.1 r.2) := by
  refine MS.of (cc := cX9_add) (maxL := 2) (ret := (some .boolean)) (own := RX9) (lv := [(0, .ref (Z.2.1 1)), (1, .int p1)]) (by decide) rfl rfl (Nat.le_of_ble_eq_true rfl) rfl ?_
  intro a A hla F
  subst hla
  unfold f_X9_add_1 at hf
  refine rw_aload_n F dX9_add_0 rfl 0 rfl ?_
  refine rw_get F 1 (show 1 < 39 by decide) (gC_1 Z _) iw_X9_add_X9 rfl 1 (by decide) lk_X9_add_15 rfl dX9_add_1 ?_
  refine rw_sipush F (v := 240) dX9_add_4 (by decide) ?_
  refine rw_icmp_lt F (tgt := 12) hf dX9_add_7 (by decide) (fun hc3 hf => ?_) (fun hc3 hf => ?_)
  · refine rw_aload_n F dX9_add_12 rfl 0 rfl ?_
    refine rw_get F 1 (show 1 < 39 by decide) (gC_1 Z _) iw_X9_add_X9 rfl 0 (by decide) lk_X9_add_9 rfl dX9_add_13 ?_
    refine rw_aload_n F dX9_add_16 rfl 0 rfl ?_
    refine rw_get F 1 (show 1 < 39 by decide) (gC_1 Z _) iw_X9_add_X9 rfl 1 (by decide) lk_X9_add_15 rfl dX9_add_17 ?_
    refine rw_iload_n F dX9_add_20 rfl 1 rfl ?_
    obtain ⟨q2, hq1, hf⟩ := bind_h hf
    refine rw_callSV F (nA := 3) (c_X7_put (aL a) Z (show 2 < 39 by decide) (gC_2 Z) _ _ _ _ hq1) gX9_add_X7_put rfl ⟨rfl, rfl⟩ (by decide +kernel) ⟨Nat.le_of_ble_eq_true rfl, Nat.le_of_ble_eq_true rfl⟩ rfl rfl (Nat.le_of_ble_eq_true rfl) dX9_add_21 ?_
    refine rw_aload_n F dX9_add_24 rfl 0 rfl ?_
    refine rw_dup F dX9_add_25 rfl ?_
    refine rw_get F 1 (show 1 < 39 by decide) (gC_1 Z _) iw_X9_add_X9 rfl 1 (by decide) lk_X9_add_15 rfl dX9_add_26 ?_
    refine rw_iconst F (v := 1) dX9_add_29 (by decide) ?_
    refine rw_iadd F dX9_add_30 ?_
    refine rw_put F 1 (show 1 < 39 by decide) (gC_1 Z) iw_X9_add_X9 tyX9 tyX9_ok nmX9 rfl 1 (by decide) lk_X9_add_15 rfl rfl rfl (fun _ => by rw [lnC1]; decide) (stC1_1 Z.2.1) dX9_add_31 ?_
    refine rw_iconst F (v := 1) dX9_add_34 (by decide) ?_
    exact rw_zretZS F (by decide) hf rfl dX9_add_35
  · refine rw_iconst F (v := 0) dX9_add_10 (by decide) ?_
    exact rw_zretZS F (by decide) hf rfl dX9_add_11

abbrev rm_X11_feed : Room := { frames := 2, cells := 0, slots := 0, locals := 43 }
abbrev FX_X11_feed (a : Ax) (Z : Zx) (A : Nat → Prop) : Prop := FX a (XC Z) A cX11_feed RX11 wsX11_feed 2 (some .int) rm_X11_feed
theorem iw_X11_feed_X11 : ∀ w ∈ wsX110, w ∈ wsX11_feed := by decide +kernel
theorem iw_X11_feed_X9 : ∀ w ∈ wsX90, w ∈ wsX11_feed := by decide +kernel
theorem lk_X11_feed_12 : Cond.fieldLink RX11 12 (TX11 0).1 (TX11 0).2.1 (TX11 0).2.2.1 ∈ wsX11_feed := by decide +kernel
theorem lk_X11_feed_96 : Cond.fieldLink RX11 96 (TX9 1).1 (TX9 1).2.1 (TX9 1).2.2.1 ∈ wsX11_feed := by decide +kernel
set_option maxHeartbeats 4000000 in
set_option maxRecDepth 100000 in
theorem c_X11_feed (l : Launch) (Z : Zx) (p1 : Int32) (f : Nat → Nat → Int32) (r : (Int32 × (Nat → Nat → Int32))) (hf : f_X11_feed p1 f = some r) : MS l (XC Z) yX11_feed wsX11_feed rm_X11_feed [.ref (Z.2.1 0), .int p1] f (PI r.1 r.2) := by
  refine MS.of (cc := cX11_feed) (maxL := 2) (ret := (some .int)) (own := RX11) (lv := [(0, .ref (Z.2.1 0)), (1, .int p1)]) (by decide) rfl rfl (Nat.le_of_ble_eq_true rfl) rfl ?_
  intro a A hla F
  subst hla
  unfold f_X11_feed at hf
  refine rw_iload_n F dX11_feed_0 rfl 1 rfl ?_
  refine rw_sipush F (v := 255) dX11_feed_1 (by decide) ?_
  obtain ⟨q2, hq1, hf⟩ := bind_h hf
  refine rw_callSI F (nA := 2) (c_X11_isOutside (aL a) Z _ _ _ _ hq1) gX11_feed_X11_isOutside rfl ⟨rfl, rfl⟩ (by decide +kernel) ⟨Nat.le_of_ble_eq_true rfl, Nat.le_of_ble_eq_true rfl⟩ rfl rfl (Nat.le_of_ble_eq_true rfl) dX11_feed_4 ?_
  refine rw_if_eq F (tgt := 13) hf dX11_feed_7 (by decide) (fun hc6 hf => ?_) (fun hc6 hf => ?_)
  · refine rw_aload_n F dX11_feed_13 rfl 0 rfl ?_
    refine rw_get F 0 (show 0 < 39 by decide) (gC_0 Z _) iw_X11_feed_X11 rfl 0 (by decide) lk_X11_feed_12 rfl dX11_feed_14 ?_
    refine rw_iload_n F dX11_feed_17 rfl 1 rfl ?_
    obtain ⟨q4, hq3, hf⟩ := bind_h hf
    refine rw_callVI F (k0 := 1) (nA := 1) (c_X9_add_1 (aL a) Z _ _ _ hq3) gX11_feed_X9_add rfl ⟨rfl, rfl⟩ (by decide +kernel) ⟨Nat.le_of_ble_eq_true rfl, Nat.le_of_ble_eq_true rfl⟩ (show 1 < 39 by decide) (gC_1 Z _) rfl rfl rfl (Nat.le_of_ble_eq_true rfl) dX11_feed_18 ?_
    refine rw_if_eq F (tgt := 34) hf dX11_feed_21 (by decide) (fun hc5 hf => ?_) (fun hc5 hf => ?_)
    · refine rw_ldc F (v := -1000000004) dX11_feed_34 (by decide +kernel) ?_
      exact rw_iretS F hf rfl dX11_feed_36
    · refine rw_aload_n F dX11_feed_24 rfl 0 rfl ?_
      refine rw_get F 0 (show 0 < 39 by decide) (gC_0 Z _) iw_X11_feed_X11 rfl 0 (by decide) lk_X11_feed_12 rfl dX11_feed_25 ?_
      refine rw_get F 1 (show 1 < 39 by decide) (gC_1 Z _) iw_X11_feed_X9 rfl 1 (by decide) lk_X11_feed_96 rfl dX11_feed_28 ?_
      refine rw_goto F (tgt := 36) dX11_feed_31 (by decide) ?_
      exact rw_iretS F hf rfl dX11_feed_36
  · refine rw_ldc F (v := -1000000002) dX11_feed_10 (by decide +kernel) ?_
    exact rw_iretS F hf rfl dX11_feed_12

abbrev rm_X5_clear_11 : Room := { frames := 0, cells := 0, slots := 0, locals := 0 }
abbrev FX_X5_clear_11 (a : Ax) (Z : Zx) (A : Nat → Prop) : Prop := FX a (XC Z) A cX5_clear RX5 wsX5_clear 1 none rm_X5_clear_11
theorem iw_X5_clear_X5 : ∀ w ∈ wsX50, w ∈ wsX5_clear := by decide +kernel
theorem lk_X5_clear_30 : Cond.fieldLink RX5 30 (TX5 0).1 (TX5 0).2.1 (TX5 0).2.2.1 ∈ wsX5_clear := by decide +kernel
theorem lk_X5_clear_34 : Cond.fieldLink RX5 34 (TX5 1).1 (TX5 1).2.1 (TX5 1).2.2.1 ∈ wsX5_clear := by decide +kernel
theorem lk_X5_clear_37 : Cond.fieldLink RX5 37 (TX5 2).1 (TX5 2).2.1 (TX5 2).2.2.1 ∈ wsX5_clear := by decide +kernel
theorem lk_X5_clear_40 : Cond.fieldLink RX5 40 (TX5 3).1 (TX5 3).2.1 (TX5 3).2.2.1 ∈ wsX5_clear := by decide +kernel
set_option maxHeartbeats 4000000 in
set_option maxRecDepth 100000 in
theorem c_X5_clear_11 (l : Launch) (Z : Zx) (f : Nat → Nat → Int32) (r : Nat → Nat → Int32) (hf : f_X5_clear_11 f = some r) : MS l (XC Z) yX5_clear wsX5_clear rm_X5_clear_11 [.ref (Z.2.1 11)] f (PV r) := by
  refine MS.of (cc := cX5_clear) (maxL := 1) (ret := none) (own := RX5) (lv := [(0, .ref (Z.2.1 11))]) (by decide) rfl rfl (Nat.le_of_ble_eq_true rfl) rfl ?_
  intro a A hla F
  subst hla
  unfold f_X5_clear_11 at hf
  refine rw_aload_n F dX5_clear_0 rfl 0 rfl ?_
  refine rw_iconst F (v := 0) dX5_clear_1 (by decide) ?_
  refine rw_put F 11 (show 11 < 39 by decide) (gC_11 Z) iw_X5_clear_X5 tyX5 tyX5_ok nmX5 rfl 0 (by decide) lk_X5_clear_30 rfl rfl rfl (fun _ => by rw [lnC11]; decide) (stC11_0 Z.2.1) dX5_clear_2 ?_
  refine rw_aload_n F dX5_clear_5 rfl 0 rfl ?_
  refine rw_iconst F (v := 0) dX5_clear_6 (by decide) ?_
  refine rw_put F 11 (show 11 < 39 by decide) (gC_11 Z) iw_X5_clear_X5 tyX5 tyX5_ok nmX5 rfl 1 (by decide) lk_X5_clear_34 rfl rfl rfl (fun _ => by rw [lnC11]; decide) (stC11_1 Z.2.1) dX5_clear_7 ?_
  refine rw_aload_n F dX5_clear_10 rfl 0 rfl ?_
  refine rw_iconst F (v := 0) dX5_clear_11 (by decide) ?_
  refine rw_put F 11 (show 11 < 39 by decide) (gC_11 Z) iw_X5_clear_X5 tyX5 tyX5_ok nmX5 rfl 2 (by decide) lk_X5_clear_37 rfl rfl rfl (fun _ => by rw [lnC11]; decide) (stC11_2 Z.2.1) dX5_clear_12 ?_
  refine rw_aload_n F dX5_clear_15 rfl 0 rfl ?_
  refine rw_iconst F (v := 0) dX5_clear_16 (by decide) ?_
  refine rw_put F 11 (show 11 < 39 by decide) (gC_11 Z) iw_X5_clear_X5 tyX5 tyX5_ok nmX5 rfl 3 (by decide) lk_X5_clear_40 rfl rfl rfl (fun _ => by rw [lnC11]; decide) (stC11_3 Z.2.1) dX5_clear_17 ?_
  exact rw_vret F hf rfl dX5_clear_20

abbrev rm_X9_letterAt_1 : Room := { frames := 0, cells := 0, slots := 0, locals := 0 }
abbrev FX_X9_letterAt_1 (a : Ax) (Z : Zx) (A : Nat → Prop) : Prop := FX a (XC Z) A cX9_letterAt RX9 wsX9_letterAt 2 (some .int) rm_X9_letterAt_1
theorem iw_X9_letterAt_X9 : ∀ w ∈ wsX90, w ∈ wsX9_letterAt := by decide +kernel
theorem lk_X9_letterAt_9 : Cond.fieldLink RX9 9 (TX9 0).1 (TX9 0).2.1 (TX9 0).2.2.1 ∈ wsX9_letterAt := by decide +kernel
theorem lk_X9_letterAt_15 : Cond.fieldLink RX9 15 (TX9 1).1 (TX9 1).2.1 (TX9 1).2.2.1 ∈ wsX9_letterAt := by decide +kernel
set_option maxHeartbeats 4000000 in
set_option maxRecDepth 100000 in
theorem c_X9_letterAt_1 (l : Launch) (Z : Zx) (p1 : Int32) (f : Nat → Nat → Int32) (r : Int32) (hf : f_X9_letterAt_1 p1 f = some r) : MS l (XC Z) yX9_letterAt wsX9_letterAt rm_X9_letterAt_1 [.ref (Z.2.1 1), .int p1] f (PI r f) := by
  refine MS.of (cc := cX9_letterAt) (maxL := 2) (ret := (some .int)) (own := RX9) (lv := [(0, .ref (Z.2.1 1)), (1, .int p1)]) (by decide) rfl rfl (Nat.le_of_ble_eq_true rfl) rfl ?_
  intro a A hla F
  subst hla
  unfold f_X9_letterAt_1 at hf
  refine rw_iload_n F dX9_letterAt_0 rfl 1 rfl ?_
  refine rw_if_lt F (tgt := 30) hf dX9_letterAt_1 (by decide) (fun hc4 hf => ?_) (fun hc4 hf => ?_)
  · refine rw_iconst F (v := -1) dX9_letterAt_30 (by decide) ?_
    exact rw_iret F hf rfl dX9_letterAt_31
  · refine rw_iload_n F dX9_letterAt_4 rfl 1 rfl ?_
    refine rw_aload_n F dX9_letterAt_5 rfl 0 rfl ?_
    refine rw_get F 1 (show 1 < 39 by decide) (gC_1 Z _) iw_X9_letterAt_X9 rfl 1 (by decide) lk_X9_letterAt_15 rfl dX9_letterAt_6 ?_
    refine rw_icmp_ge F (tgt := 30) hf dX9_letterAt_9 (by decide) (fun hc3 hf => ?_) (fun hc3 hf => ?_)
    · refine rw_iconst F (v := -1) dX9_letterAt_30 (by decide) ?_
      exact rw_iret F hf rfl dX9_letterAt_31
    · refine rw_iload_n F dX9_letterAt_12 rfl 1 rfl ?_
      refine rw_aload_n F dX9_letterAt_13 rfl 0 rfl ?_
      refine rw_get F 1 (show 1 < 39 by decide) (gC_1 Z _) iw_X9_letterAt_X9 rfl 0 (by decide) lk_X9_letterAt_9 rfl dX9_letterAt_14 ?_
      refine rw_alen F (v := Int32.ofNat 240) 2 (show 2 < 39 by decide) (gC_2 Z (f 2)) 0 rfl rfl dX9_letterAt_17 ?_
      refine rw_icmp_ge F (tgt := 30) hf dX9_letterAt_18 (by decide) (fun hc2 hf => ?_) (fun hc2 hf => ?_)
      · refine rw_iconst F (v := -1) dX9_letterAt_30 (by decide) ?_
        exact rw_iret F hf rfl dX9_letterAt_31
      · refine rw_aload_n F dX9_letterAt_21 rfl 0 rfl ?_
        refine rw_get F 1 (show 1 < 39 by decide) (gC_1 Z _) iw_X9_letterAt_X9 rfl 0 (by decide) lk_X9_letterAt_9 rfl dX9_letterAt_22 ?_
        refine rw_iload_n F dX9_letterAt_25 rfl 1 rfl ?_
        obtain ⟨hi1, hf⟩ := ck_h hf
        refine rw_iald F 2 (show 2 < 39 by decide) (gC_2 Z _) 0 rfl hi1 dX9_letterAt_26 ?_
        refine rw_goto F (tgt := 31) dX9_letterAt_27 (by decide) ?_
        exact rw_iret F hf rfl dX9_letterAt_31

abbrev rm_X6_skipBlanks_10 : Room := { frames := 1, cells := 0, slots := 0, locals := 21 }
abbrev FX_X6_skipBlanks_10 (a : Ax) (Z : Zx) (A : Nat → Prop) : Prop := FX a (XC Z) A cX6_skipBlanks RX6 wsX6_skipBlanks 2 none rm_X6_skipBlanks_10
theorem iw_X6_skipBlanks_X6 : ∀ w ∈ wsX60, w ∈ wsX6_skipBlanks := by decide +kernel
theorem lk_X6_skipBlanks_22 : Cond.fieldLink RX6 22 (TX6 0).1 (TX6 0).2.1 (TX6 0).2.2.1 ∈ wsX6_skipBlanks := by decide +kernel
theorem lk_X6_skipBlanks_32 : Cond.fieldLink RX6 32 (TX6 4).1 (TX6 4).2.1 (TX6 4).2.2.1 ∈ wsX6_skipBlanks := by decide +kernel
set_option maxHeartbeats 4000000 in
set_option maxRecDepth 100000 in
theorem b_X6_skipBlanks_10_b2 {a : Ax} {Z : Zx} {A : Nat → Prop} {r : Nat → Nat → Int32} (F : FX_X6_skipBlanks_10 a Z A) : ∀ (n : Nat) (i1 : Int32) (f : Nat → Nat → Int32), f_X6_skipBlanks_10_b2 n i1 f = some r → WS a (XC Z) A 2 (RP a (XC Z) A (PV r)) 2 [(0, .ref (Z.2.1 10)), (1, .int i1)] [] f := by
  intro n
  induction n with
  | zero => intro i1 f hf; exact nomatch (show (none : Option (Nat → Nat → Int32)) = some r from hf)
  | succ n hK2 =>
    intro i1 f hf
    replace hf : f_X6_skipBlanks_10_b2s (f_X6_skipBlanks_10_b2 n) i1 f = some r := hf
    unfold f_X6_skipBlanks_10_b2s at hf
    refine rw_iload_n F dX6_skipBlanks_2 rfl 1 rfl ?_
    refine rw_sipush F (v := 240) dX6_skipBlanks_3 (by decide) ?_
    refine rw_icmp_ge F (tgt := 41) hf dX6_skipBlanks_6 (by decide) (fun hc4 hf => ?_) (fun hc4 hf => ?_)
    · exact rw_vret F hf rfl dX6_skipBlanks_41
    · refine rw_aload_n F dX6_skipBlanks_9 rfl 0 rfl ?_
      refine rw_get F 10 (show 10 < 39 by decide) (gC_10 Z _) iw_X6_skipBlanks_X6 rfl 0 (by decide) lk_X6_skipBlanks_22 rfl dX6_skipBlanks_10 ?_
      refine rw_aload_n F dX6_skipBlanks_13 rfl 0 rfl ?_
      refine rw_get F 10 (show 10 < 39 by decide) (gC_10 Z _) iw_X6_skipBlanks_X6 rfl 4 (by decide) lk_X6_skipBlanks_32 rfl dX6_skipBlanks_14 ?_
      obtain ⟨q2, hq1, hf⟩ := bind_h hf
      refine rw_callVI F (k0 := 1) (nA := 1) (c_X9_letterAt_1 (aL a) Z _ _ _ hq1) gX6_skipBlanks_X9_letterAt rfl ⟨rfl, rfl⟩ (by decide +kernel) ⟨Nat.le_of_ble_eq_true rfl, Nat.le_of_ble_eq_true rfl⟩ (show 1 < 39 by decide) (gC_1 Z _) rfl rfl rfl (Nat.le_of_ble_eq_true rfl) dX6_skipBlanks_17 ?_
      refine rw_bipush F (v := 32) dX6_skipBlanks_20 (by decide) ?_
      refine rw_icmp_ne F (tgt := 41) hf dX6_skipBlanks_22 (by decide) (fun hc3 hf => ?_) (fun hc3 hf => ?_)
      · exact rw_vret F hf rfl dX6_skipBlanks_41
      · refine rw_aload_n F dX6_skipBlanks_25 rfl 0 rfl ?_
        refine rw_dup F dX6_skipBlanks_26 rfl ?_
        refine rw_get F 10 (show 10 < 39 by decide) (gC_10 Z _) iw_X6_skipBlanks_X6 rfl 4 (by decide) lk_X6_skipBlanks_32 rfl dX6_skipBlanks_27 ?_
        refine rw_iconst F (v := 1) dX6_skipBlanks_30 (by decide) ?_
        refine rw_iadd F dX6_skipBlanks_31 ?_
        refine rw_put F 10 (show 10 < 39 by decide) (gC_10 Z) iw_X6_skipBlanks_X6 tyX6 tyX6_ok nmX6 rfl 4 (by decide) lk_X6_skipBlanks_32 rfl rfl rfl (fun _ => by rw [lnC10]; decide) (stC10_4 Z.2.1) dX6_skipBlanks_32 ?_
        refine rw_iinc F (v := 1) dX6_skipBlanks_35 1 rfl (by decide) (by decide) rfl ?_
        refine rw_goto F (tgt := 2) dX6_skipBlanks_38 (by decide) ?_
        exact WS.sub [1, 0] rfl (hK2 _ _ hf)

set_option maxHeartbeats 4000000 in
set_option maxRecDepth 100000 in
theorem c_X6_skipBlanks_10 (l : Launch) (Z : Zx) (f : Nat → Nat → Int32) (r : Nat → Nat → Int32) (hf : f_X6_skipBlanks_10 f = some r) : MS l (XC Z) yX6_skipBlanks wsX6_skipBlanks rm_X6_skipBlanks_10 [.ref (Z.2.1 10)] f (PV r) := by
  refine MS.of (cc := cX6_skipBlanks) (maxL := 2) (ret := none) (own := RX6) (lv := [(0, .ref (Z.2.1 10))]) (by decide) rfl rfl (Nat.le_of_ble_eq_true rfl) rfl ?_
  intro a A hla F
  subst hla
  unfold f_X6_skipBlanks_10 at hf
  refine rw_iconst F (v := 0) dX6_skipBlanks_0 (by decide) ?_
  refine rw_istore_n F dX6_skipBlanks_1 rfl (by decide) rfl ?_
  exact WS.sub [1, 0] rfl (b_X6_skipBlanks_10_b2 F  fuB _ _ hf)

abbrev rm_X5_stands_11 : Room := { frames := 0, cells := 0, slots := 0, locals := 0 }
abbrev FX_X5_stands_11 (a : Ax) (Z : Zx) (A : Nat → Prop) : Prop := FX a (XC Z) A cX5_stands RX5 wsX5_stands 1 (some .boolean) rm_X5_stands_11
theorem iw_X5_stands_X5 : ∀ w ∈ wsX50, w ∈ wsX5_stands := by decide +kernel
theorem lk_X5_stands_30 : Cond.fieldLink RX5 30 (TX5 0).1 (TX5 0).2.1 (TX5 0).2.2.1 ∈ wsX5_stands := by decide +kernel
set_option maxHeartbeats 4000000 in
set_option maxRecDepth 100000 in
theorem c_X5_stands_11 (l : Launch) (Z : Zx) (f : Nat → Nat → Int32) (r : Int32) (hf : f_X5_stands_11 f = some r) : MS l (XC Z) yX5_stands wsX5_stands rm_X5_stands_11 [.ref (Z.2.1 11)] f (PI r f) := by
  refine MS.of (cc := cX5_stands) (maxL := 1) (ret := (some .boolean)) (own := RX5) (lv := [(0, .ref (Z.2.1 11))]) (by decide) rfl rfl (Nat.le_of_ble_eq_true rfl) rfl ?_
  intro a A hla F
  subst hla
  unfold f_X5_stands_11 at hf
  refine rw_aload_n F dX5_stands_0 rfl 0 rfl ?_
  refine rw_get F 11 (show 11 < 39 by decide) (gC_11 Z _) iw_X5_stands_X5 rfl 0 (by decide) lk_X5_stands_30 rfl dX5_stands_1 ?_
  refine rw_if_le F (tgt := 11) hf dX5_stands_4 (by decide) (fun hc1 hf => ?_) (fun hc1 hf => ?_)
  · refine rw_iconst F (v := 0) dX5_stands_11 (by decide) ?_
    exact rw_zretZ F (by decide) hf rfl dX5_stands_12
  · refine rw_iconst F (v := 1) dX5_stands_7 (by decide) ?_
    refine rw_goto F (tgt := 12) dX5_stands_8 (by decide) ?_
    exact rw_zretZ F (by decide) hf rfl dX5_stands_12

abbrev rm_X6_fail_10 : Room := { frames := 0, cells := 0, slots := 0, locals := 0 }
abbrev FX_X6_fail_10 (a : Ax) (Z : Zx) (A : Nat → Prop) : Prop := FX a (XC Z) A cX6_fail RX6 wsX6_fail 3 none rm_X6_fail_10
theorem iw_X6_fail_X6 : ∀ w ∈ wsX60, w ∈ wsX6_fail := by decide +kernel
theorem lk_X6_fail_18 : Cond.fieldLink RX6 18 (TX6 3).1 (TX6 3).2.1 (TX6 3).2.2.1 ∈ wsX6_fail := by decide +kernel
theorem lk_X6_fail_29 : Cond.fieldLink RX6 29 (TX6 2).1 (TX6 2).2.1 (TX6 2).2.2.1 ∈ wsX6_fail := by decide +kernel
set_option maxHeartbeats 4000000 in
set_option maxRecDepth 100000 in
theorem c_X6_fail_10 (l : Launch) (Z : Zx) (p1 : Int32) (p2 : Int32) (f : Nat → Nat → Int32) (r : Nat → Nat → Int32) (hf : f_X6_fail_10 p1 p2 f = some r) : MS l (XC Z) yX6_fail wsX6_fail rm_X6_fail_10 [.ref (Z.2.1 10), .int p1, .int p2] f (PV r) := by
  refine MS.of (cc := cX6_fail) (maxL := 3) (ret := none) (own := RX6) (lv := [(0, .ref (Z.2.1 10)), (1, .int p1), (2, .int p2)]) (by decide) rfl rfl (Nat.le_of_ble_eq_true rfl) rfl ?_
  intro a A hla F
  subst hla
  unfold f_X6_fail_10 at hf
  refine rw_aload_n F dX6_fail_0 rfl 0 rfl ?_
  refine rw_get F 10 (show 10 < 39 by decide) (gC_10 Z _) iw_X6_fail_X6 rfl 2 (by decide) lk_X6_fail_29 rfl dX6_fail_1 ?_
  refine rw_if_ne F (tgt := 17) hf dX6_fail_4 (by decide) (fun hc1 hf => ?_) (fun hc1 hf => ?_)
  · exact rw_vret F hf rfl dX6_fail_17
  · refine rw_aload_n F dX6_fail_7 rfl 0 rfl ?_
    refine rw_iload_n F dX6_fail_8 rfl 1 rfl ?_
    refine rw_put F 10 (show 10 < 39 by decide) (gC_10 Z) iw_X6_fail_X6 tyX6 tyX6_ok nmX6 rfl 2 (by decide) lk_X6_fail_29 rfl rfl rfl (fun _ => by rw [lnC10]; decide) (stC10_2 Z.2.1) dX6_fail_9 ?_
    refine rw_aload_n F dX6_fail_12 rfl 0 rfl ?_
    refine rw_iload_n F dX6_fail_13 rfl 2 rfl ?_
    refine rw_put F 10 (show 10 < 39 by decide) (gC_10 Z) iw_X6_fail_X6 tyX6 tyX6_ok nmX6 rfl 3 (by decide) lk_X6_fail_18 rfl rfl rfl (fun _ => by rw [lnC10]; decide) (stC10_3 Z.2.1) dX6_fail_14 ?_
    exact rw_vret F hf rfl dX6_fail_17

abbrev rm_X6_isFigure : Room := { frames := 0, cells := 0, slots := 0, locals := 0 }
abbrev FX_X6_isFigure (a : Ax) (Z : Zx) (A : Nat → Prop) : Prop := FX a (XC Z) A cX6_isFigure RX6 wsX6_isFigure 1 (some .boolean) rm_X6_isFigure
set_option maxHeartbeats 4000000 in
set_option maxRecDepth 100000 in
theorem c_X6_isFigure (l : Launch) (Z : Zx) (p0 : Int32) (f : Nat → Nat → Int32) (r : Int32) (hf : f_X6_isFigure p0 f = some r) : MS l (XC Z) yX6_isFigure wsX6_isFigure rm_X6_isFigure [.int p0] f (PI r f) := by
  refine MS.of (cc := cX6_isFigure) (maxL := 1) (ret := (some .boolean)) (own := RX6) (lv := [(0, .int p0)]) (by decide) rfl rfl (Nat.le_of_ble_eq_true rfl) rfl ?_
  intro a A hla F
  subst hla
  unfold f_X6_isFigure at hf
  refine rw_iload_n F dX6_isFigure_0 rfl 0 rfl ?_
  refine rw_bipush F (v := 48) dX6_isFigure_1 (by decide) ?_
  refine rw_icmp_lt F (tgt := 16) hf dX6_isFigure_3 (by decide) (fun hc2 hf => ?_) (fun hc2 hf => ?_)
  · refine rw_iconst F (v := 0) dX6_isFigure_16 (by decide) ?_
    exact rw_zretZ F (by decide) hf rfl dX6_isFigure_17
  · refine rw_iload_n F dX6_isFigure_6 rfl 0 rfl ?_
    refine rw_bipush F (v := 57) dX6_isFigure_7 (by decide) ?_
    refine rw_icmp_gt F (tgt := 16) hf dX6_isFigure_9 (by decide) (fun hc1 hf => ?_) (fun hc1 hf => ?_)
    · refine rw_iconst F (v := 0) dX6_isFigure_16 (by decide) ?_
      exact rw_zretZ F (by decide) hf rfl dX6_isFigure_17
    · refine rw_iconst F (v := 1) dX6_isFigure_12 (by decide) ?_
      refine rw_goto F (tgt := 17) dX6_isFigure_13 (by decide) ?_
      exact rw_zretZ F (by decide) hf rfl dX6_isFigure_17

abbrev rm_X6_readNumber_10 : Room := { frames := 2, cells := 0, slots := 0, locals := 42 }
abbrev FX_X6_readNumber_10 (a : Ax) (Z : Zx) (A : Nat → Prop) : Prop := FX a (XC Z) A cX6_readNumber RX6 wsX6_readNumber 5 (some .int) rm_X6_readNumber_10
theorem iw_X6_readNumber_X6 : ∀ w ∈ wsX60, w ∈ wsX6_readNumber := by decide +kernel
theorem lk_X6_readNumber_22 : Cond.fieldLink RX6 22 (TX6 0).1 (TX6 0).2.1 (TX6 0).2.2.1 ∈ wsX6_readNumber := by decide +kernel
theorem lk_X6_readNumber_32 : Cond.fieldLink RX6 32 (TX6 4).1 (TX6 4).2.1 (TX6 4).2.2.1 ∈ wsX6_readNumber := by decide +kernel
theorem lkm_X6_readNumber_min_107 : Cond.methodLink RX6 107 Lib.Math.min.name ∈ wsX6_readNumber := by decide +kernel
set_option maxHeartbeats 4000000 in
set_option maxRecDepth 100000 in
theorem b_X6_readNumber_10_b119 {a : Ax} {Z : Zx} {A : Nat → Prop} {r : (Int32 × (Nat → Nat → Int32))} (F : FX_X6_readNumber_10 a Z A) : ∀ (i3 : Int32) (f : Nat → Nat → Int32), f_X6_readNumber_10_b119 i3 f = some r → WS a (XC Z) A 5 (RP a (XC Z) A (PI r.1 r.2)) 119 [(3, .int i3)] [] f := by
  intro i3 f hf
  unfold f_X6_readNumber_10_b119 at hf
  refine rw_iload_n F dX6_readNumber_119 rfl 0 rfl ?_
  exact rw_iretS F hf rfl dX6_readNumber_120

set_option maxHeartbeats 4000000 in
set_option maxRecDepth 100000 in
theorem b_X6_readNumber_10_b113 {a : Ax} {Z : Zx} {A : Nat → Prop} {r : (Int32 × (Nat → Nat → Int32))} (F : FX_X6_readNumber_10 a Z A) : ∀ (i2 : Int32) (i3 : Int32) (f : Nat → Nat → Int32), f_X6_readNumber_10_b113 i2 i3 f = some r → WS a (XC Z) A 5 (RP a (XC Z) A (PI r.1 r.2)) 113 [(0, .ref (Z.2.1 10)), (2, .int i2), (3, .int i3)] [] f := by
  intro i2 i3 f hf
  unfold f_X6_readNumber_10_b113 at hf
  refine rw_aload_n F dX6_readNumber_113 rfl 0 rfl ?_
  refine rw_iconst F (v := 2) dX6_readNumber_114 (by decide) ?_
  refine rw_iload_n F dX6_readNumber_115 rfl 1 rfl ?_
  obtain ⟨q4, hq3, hf⟩ := bind_h hf
  refine rw_callVV F (k0 := 10) (nA := 2) (c_X6_fail_10 (aL a) Z _ _ _ _ hq3) gX6_readNumber_X6_fail rfl ⟨rfl, rfl⟩ (by decide +kernel) ⟨Nat.le_of_ble_eq_true rfl, Nat.le_of_ble_eq_true rfl⟩ (show 10 < 39 by decide) (gC_10 Z _) rfl rfl rfl (Nat.le_of_ble_eq_true rfl) dX6_readNumber_116 ?_
  exact WS.sub [2] rfl (b_X6_readNumber_10_b119 F  _ _ hf)

set_option maxHeartbeats 4000000 in
set_option maxRecDepth 100000 in
theorem b_X6_readNumber_10_b81 {a : Ax} {Z : Zx} {A : Nat → Prop} {r : (Int32 × (Nat → Nat → Int32))} (F : FX_X6_readNumber_10 a Z A) : ∀ (i1 : Int32) (i2 : Int32) (i3 : Int32) (f : Nat → Nat → Int32), f_X6_readNumber_10_b81 i1 i2 i3 f = some r → WS a (XC Z) A 5 (RP a (XC Z) A (PI r.1 r.2)) 81 [(0, .ref (Z.2.1 10)), (1, .int i1), (2, .int i2), (3, .int i3)] [] f := by
  intro i1 i2 i3 f hf
  unfold f_X6_readNumber_10_b81 at hf
  refine rw_aload_n F dX6_readNumber_81 rfl 0 rfl ?_
  refine rw_get F 10 (show 10 < 39 by decide) (gC_10 Z _) iw_X6_readNumber_X6 rfl 4 (by decide) lk_X6_readNumber_32 rfl dX6_readNumber_82 ?_
  refine rw_iload_n F dX6_readNumber_85 rfl 2 rfl ?_
  refine rw_icmp_ne F (tgt := 98) hf dX6_readNumber_86 (by decide) (fun hc9 hf => ?_) (fun hc9 hf => ?_)
  · refine rw_aload_n F dX6_readNumber_98 rfl 0 rfl ?_
    refine rw_get F 10 (show 10 < 39 by decide) (gC_10 Z _) iw_X6_readNumber_X6 rfl 4 (by decide) lk_X6_readNumber_32 rfl dX6_readNumber_99 ?_
    refine rw_iload_n F dX6_readNumber_102 rfl 2 rfl ?_
    refine rw_isub F dX6_readNumber_103 ?_
    refine rw_iconst F (v := 3) dX6_readNumber_104 (by decide) ?_
    refine rw_icmp_gt F (tgt := 113) hf dX6_readNumber_105 (by decide) (fun hc6 hf => ?_) (fun hc6 hf => ?_)
    · exact WS.sub [0, 2, 3] rfl (b_X6_readNumber_10_b113 F  _ _ _ hf)
    · refine rw_iload_n F dX6_readNumber_108 rfl 3 rfl ?_
      refine rw_iload_n F dX6_readNumber_109 rfl 1 rfl ?_
      refine rw_icmp_le F (tgt := 119) hf dX6_readNumber_110 (by decide) (fun hc5 hf => ?_) (fun hc5 hf => ?_)
      · exact WS.sub [3] rfl (b_X6_readNumber_10_b119 F  _ _ hf)
      · exact WS.sub [0, 2, 3] rfl (b_X6_readNumber_10_b113 F  _ _ _ hf)
  · refine rw_aload_n F dX6_readNumber_89 rfl 0 rfl ?_
    refine rw_iconst F (v := 1) dX6_readNumber_90 (by decide) ?_
    refine rw_iload_n F dX6_readNumber_91 rfl 2 rfl ?_
    obtain ⟨q8, hq7, hf⟩ := bind_h hf
    refine rw_callVV F (k0 := 10) (nA := 2) (c_X6_fail_10 (aL a) Z _ _ _ _ hq7) gX6_readNumber_X6_fail rfl ⟨rfl, rfl⟩ (by decide +kernel) ⟨Nat.le_of_ble_eq_true rfl, Nat.le_of_ble_eq_true rfl⟩ (show 10 < 39 by decide) (gC_10 Z _) rfl rfl rfl (Nat.le_of_ble_eq_true rfl) dX6_readNumber_92 ?_
    refine rw_goto F (tgt := 119) dX6_readNumber_95 (by decide) ?_
    exact WS.sub [3] rfl (b_X6_readNumber_10_b119 F  _ _ hf)

set_option maxHeartbeats 4000000 in
set_option maxRecDepth 100000 in
theorem b_X6_readNumber_10_b14 {a : Ax} {Z : Zx} {A : Nat → Prop} {r : (Int32 × (Nat → Nat → Int32))} (F : FX_X6_readNumber_10 a Z A) : ∀ (n : Nat) (i1 : Int32) (i2 : Int32) (i3 : Int32) (i4 : Int32) (f : Nat → Nat → Int32), f_X6_readNumber_10_b14 n i1 i2 i3 i4 f = some r → WS a (XC Z) A 5 (RP a (XC Z) A (PI r.1 r.2)) 14 [(0, .ref (Z.2.1 10)), (1, .int i1), (2, .int i2), (3, .int i3), (4, .int i4)] [] f := by
  intro n
  induction n with
  | zero => intro i1 i2 i3 i4 f hf; exact nomatch (show (none : Option (Int32 × (Nat → Nat → Int32))) = some r from hf)
  | succ n hK14 =>
    intro i1 i2 i3 i4 f hf
    replace hf : f_X6_readNumber_10_b14s (f_X6_readNumber_10_b14 n) i1 i2 i3 i4 f = some r := hf
    unfold f_X6_readNumber_10_b14s at hf
    refine rw_iload F dX6_readNumber_14 4 rfl ?_
    refine rw_sipush F (v := 240) dX6_readNumber_16 (by decide) ?_
    refine rw_icmp_ge F (tgt := 81) hf dX6_readNumber_19 (by decide) (fun hc17 hf => ?_) (fun hc17 hf => ?_)
    · exact WS.sub [0, 1, 2, 3] rfl (b_X6_readNumber_10_b81 F  _ _ _ _ hf)
    · refine rw_aload_n F dX6_readNumber_22 rfl 0 rfl ?_
      refine rw_get F 10 (show 10 < 39 by decide) (gC_10 Z _) iw_X6_readNumber_X6 rfl 0 (by decide) lk_X6_readNumber_22 rfl dX6_readNumber_23 ?_
      refine rw_aload_n F dX6_readNumber_26 rfl 0 rfl ?_
      refine rw_get F 10 (show 10 < 39 by decide) (gC_10 Z _) iw_X6_readNumber_X6 rfl 4 (by decide) lk_X6_readNumber_32 rfl dX6_readNumber_27 ?_
      obtain ⟨q11, hq10, hf⟩ := bind_h hf
      refine rw_callVI F (k0 := 1) (nA := 1) (c_X9_letterAt_1 (aL a) Z _ _ _ hq10) gX6_readNumber_X9_letterAt rfl ⟨rfl, rfl⟩ (by decide +kernel) ⟨Nat.le_of_ble_eq_true rfl, Nat.le_of_ble_eq_true rfl⟩ (show 1 < 39 by decide) (gC_1 Z _) rfl rfl rfl (Nat.le_of_ble_eq_true rfl) dX6_readNumber_30 ?_
      obtain ⟨q13, hq12, hf⟩ := bind_h hf
      refine rw_callSI F (nA := 1) (c_X6_isFigure (aL a) Z _ _ _ hq12) gX6_readNumber_X6_isFigure rfl ⟨rfl, rfl⟩ (by decide +kernel) ⟨Nat.le_of_ble_eq_true rfl, Nat.le_of_ble_eq_true rfl⟩ rfl rfl (Nat.le_of_ble_eq_true rfl) dX6_readNumber_33 ?_
      refine rw_if_eq F (tgt := 81) hf dX6_readNumber_36 (by decide) (fun hc16 hf => ?_) (fun hc16 hf => ?_)
      · exact WS.sub [0, 1, 2, 3] rfl (b_X6_readNumber_10_b81 F  _ _ _ _ hf)
      · refine rw_iload_n F dX6_readNumber_39 rfl 3 rfl ?_
        refine rw_bipush F (v := 10) dX6_readNumber_40 (by decide) ?_
        refine rw_imul F dX6_readNumber_42 ?_
        refine rw_aload_n F dX6_readNumber_43 rfl 0 rfl ?_
        refine rw_get F 10 (show 10 < 39 by decide) (gC_10 Z _) iw_X6_readNumber_X6 rfl 0 (by decide) lk_X6_readNumber_22 rfl dX6_readNumber_44 ?_
        refine rw_aload_n F dX6_readNumber_47 rfl 0 rfl ?_
        refine rw_get F 10 (show 10 < 39 by decide) (gC_10 Z _) iw_X6_readNumber_X6 rfl 4 (by decide) lk_X6_readNumber_32 rfl dX6_readNumber_48 ?_
        obtain ⟨q15, hq14, hf⟩ := bind_h hf
        refine rw_callVI F (k0 := 1) (nA := 1) (c_X9_letterAt_1 (aL a) Z _ _ _ hq14) gX6_readNumber_X9_letterAt rfl ⟨rfl, rfl⟩ (by decide +kernel) ⟨Nat.le_of_ble_eq_true rfl, Nat.le_of_ble_eq_true rfl⟩ (show 1 < 39 by decide) (gC_1 Z _) rfl rfl rfl (Nat.le_of_ble_eq_true rfl) dX6_readNumber_51 ?_
        refine rw_iadd F dX6_readNumber_54 ?_
        refine rw_bipush F (v := 48) dX6_readNumber_55 (by decide) ?_
        refine rw_isub F dX6_readNumber_57 ?_
        refine rw_sipush F (v := 1000) dX6_readNumber_58 (by decide) ?_
        refine rw_mmin F lkm_X6_readNumber_min_107 (by decide +kernel) (by decide +kernel) (by decide +kernel) (Nat.le_of_ble_eq_true rfl) (Nat.le_of_ble_eq_true rfl) dX6_readNumber_61 ?_
        refine rw_istore_n F dX6_readNumber_64 rfl (by decide) rfl ?_
        refine rw_aload_n F dX6_readNumber_65 rfl 1 rfl ?_
        refine rw_dup F dX6_readNumber_66 rfl ?_
        refine rw_get F 10 (show 10 < 39 by decide) (gC_10 Z _) iw_X6_readNumber_X6 rfl 4 (by decide) lk_X6_readNumber_32 rfl dX6_readNumber_67 ?_
        refine rw_iconst F (v := 1) dX6_readNumber_70 (by decide) ?_
        refine rw_iadd F dX6_readNumber_71 ?_
        refine rw_put F 10 (show 10 < 39 by decide) (gC_10 Z) iw_X6_readNumber_X6 tyX6 tyX6_ok nmX6 rfl 4 (by decide) lk_X6_readNumber_32 rfl rfl rfl (fun _ => by rw [lnC10]; decide) (stC10_4 Z.2.1) dX6_readNumber_72 ?_
        refine rw_iinc F (v := 1) dX6_readNumber_75 4 rfl (by decide) (by decide) rfl ?_
        refine rw_goto F (tgt := 14) dX6_readNumber_78 (by decide) ?_
        exact WS.sub [2, 3, 4, 1, 0] rfl (hK14 _ _ _ _ _ hf)

set_option maxHeartbeats 4000000 in
set_option maxRecDepth 100000 in
theorem c_X6_readNumber_10 (l : Launch) (Z : Zx) (p1 : Int32) (f : Nat → Nat → Int32) (r : (Int32 × (Nat → Nat → Int32))) (hf : f_X6_readNumber_10 p1 f = some r) : MS l (XC Z) yX6_readNumber wsX6_readNumber rm_X6_readNumber_10 [.ref (Z.2.1 10), .int p1] f (PI r.1 r.2) := by
  refine MS.of (cc := cX6_readNumber) (maxL := 5) (ret := (some .int)) (own := RX6) (lv := [(0, .ref (Z.2.1 10)), (1, .int p1)]) (by decide) rfl rfl (Nat.le_of_ble_eq_true rfl) rfl ?_
  intro a A hla F
  subst hla
  unfold f_X6_readNumber_10 at hf
  refine rw_aload_n F dX6_readNumber_0 rfl 0 rfl ?_
  obtain ⟨q2, hq1, hf⟩ := bind_h hf
  refine rw_callVV F (k0 := 10) (nA := 0) (c_X6_skipBlanks_10 (aL a) Z  _ _ hq1) gX6_readNumber_X6_skipBlanks rfl ⟨rfl, rfl⟩ (by decide +kernel) ⟨Nat.le_of_ble_eq_true rfl, Nat.le_of_ble_eq_true rfl⟩ (show 10 < 39 by decide) (gC_10 Z _) rfl rfl rfl (Nat.le_of_ble_eq_true rfl) dX6_readNumber_1 ?_
  refine rw_aload_n F dX6_readNumber_4 rfl 0 rfl ?_
  refine rw_get F 10 (show 10 < 39 by decide) (gC_10 Z _) iw_X6_readNumber_X6 rfl 4 (by decide) lk_X6_readNumber_32 rfl dX6_readNumber_5 ?_
  refine rw_istore_n F dX6_readNumber_8 rfl (by decide) rfl ?_
  refine rw_iconst F (v := 0) dX6_readNumber_9 (by decide) ?_
  refine rw_istore_n F dX6_readNumber_10 rfl (by decide) rfl ?_
  refine rw_iconst F (v := 0) dX6_readNumber_11 (by decide) ?_
  refine rw_istore F dX6_readNumber_12 (by decide) rfl ?_
  exact WS.sub [3, 4, 2, 1, 0] rfl (b_X6_readNumber_10_b14 F  fuB _ _ _ _ _ hf)

abbrev rm_X5_addWall_11 : Room := { frames := 1, cells := 0, slots := 0, locals := 22 }
abbrev FX_X5_addWall_11 (a : Ax) (Z : Zx) (A : Nat → Prop) : Prop := FX a (XC Z) A cX5_addWall RX5 wsX5_addWall 2 none rm_X5_addWall_11
theorem iw_X5_addWall_X5 : ∀ w ∈ wsX50, w ∈ wsX5_addWall := by decide +kernel
theorem lk_X5_addWall_9 : Cond.fieldLink RX5 9 (TX5 4).1 (TX5 4).2.1 (TX5 4).2.2.1 ∈ wsX5_addWall := by decide +kernel
theorem lk_X5_addWall_30 : Cond.fieldLink RX5 30 (TX5 0).1 (TX5 0).2.1 (TX5 0).2.2.1 ∈ wsX5_addWall := by decide +kernel
set_option maxHeartbeats 4000000 in
set_option maxRecDepth 100000 in
theorem c_X5_addWall_11 (l : Launch) (Z : Zx) (p1 : Int32) (f : Nat → Nat → Int32) (r : Nat → Nat → Int32) (hf : f_X5_addWall_11 p1 f = some r) : MS l (XC Z) yX5_addWall wsX5_addWall rm_X5_addWall_11 [.ref (Z.2.1 11), .int p1] f (PV r) := by
  refine MS.of (cc := cX5_addWall) (maxL := 2) (ret := none) (own := RX5) (lv := [(0, .ref (Z.2.1 11)), (1, .int p1)]) (by decide) rfl rfl (Nat.le_of_ble_eq_true rfl) rfl ?_
  intro a A hla F
  subst hla
  unfold f_X5_addWall_11 at hf
  refine rw_aload_n F dX5_addWall_0 rfl 0 rfl ?_
  refine rw_get F 11 (show 11 < 39 by decide) (gC_11 Z _) iw_X5_addWall_X5 rfl 4 (by decide) lk_X5_addWall_9 rfl dX5_addWall_1 ?_
  refine rw_aload_n F dX5_addWall_4 rfl 0 rfl ?_
  refine rw_get F 11 (show 11 < 39 by decide) (gC_11 Z _) iw_X5_addWall_X5 rfl 0 (by decide) lk_X5_addWall_30 rfl dX5_addWall_5 ?_
  refine rw_iload_n F dX5_addWall_8 rfl 1 rfl ?_
  obtain ⟨q2, hq1, hf⟩ := bind_h hf
  refine rw_callSV F (nA := 3) (c_X7_put (aL a) Z (show 12 < 39 by decide) (gC_12 Z) _ _ _ _ hq1) gX5_addWall_X7_put rfl ⟨rfl, rfl⟩ (by decide +kernel) ⟨Nat.le_of_ble_eq_true rfl, Nat.le_of_ble_eq_true rfl⟩ rfl rfl (Nat.le_of_ble_eq_true rfl) dX5_addWall_9 ?_
  refine rw_aload_n F dX5_addWall_12 rfl 0 rfl ?_
  refine rw_dup F dX5_addWall_13 rfl ?_
  refine rw_get F 11 (show 11 < 39 by decide) (gC_11 Z _) iw_X5_addWall_X5 rfl 0 (by decide) lk_X5_addWall_30 rfl dX5_addWall_14 ?_
  refine rw_iconst F (v := 1) dX5_addWall_17 (by decide) ?_
  refine rw_iadd F dX5_addWall_18 ?_
  refine rw_put F 11 (show 11 < 39 by decide) (gC_11 Z) iw_X5_addWall_X5 tyX5 tyX5_ok nmX5 rfl 0 (by decide) lk_X5_addWall_30 rfl rfl rfl (fun _ => by rw [lnC11]; decide) (stC11_0 Z.2.1) dX5_addWall_19 ?_
  exact rw_vret F hf rfl dX5_addWall_22

abbrev rm_X6_readEnd_10 : Room := { frames := 2, cells := 0, slots := 0, locals := 42 }
abbrev FX_X6_readEnd_10 (a : Ax) (Z : Zx) (A : Nat → Prop) : Prop := FX a (XC Z) A cX6_readEnd RX6 wsX6_readEnd 1 none rm_X6_readEnd_10
theorem iw_X6_readEnd_X6 : ∀ w ∈ wsX60, w ∈ wsX6_readEnd := by decide +kernel
theorem lk_X6_readEnd_22 : Cond.fieldLink RX6 22 (TX6 0).1 (TX6 0).2.1 (TX6 0).2.2.1 ∈ wsX6_readEnd := by decide +kernel
theorem lk_X6_readEnd_32 : Cond.fieldLink RX6 32 (TX6 4).1 (TX6 4).2.1 (TX6 4).2.2.1 ∈ wsX6_readEnd := by decide +kernel
set_option maxHeartbeats 4000000 in
set_option maxRecDepth 100000 in
theorem b_X6_readEnd_10_b29 {a : Ax} {Z : Zx} {A : Nat → Prop} {r : Nat → Nat → Int32} (F : FX_X6_readEnd_10 a Z A) : ∀ (f : Nat → Nat → Int32), f_X6_readEnd_10_b29  f = some r → WS a (XC Z) A 1 (RP a (XC Z) A (PV r)) 29 [(0, .ref (Z.2.1 10))] [] f := by
  intro  f hf
  unfold f_X6_readEnd_10_b29 at hf
  refine rw_aload_n F dX6_readEnd_29 rfl 0 rfl ?_
  refine rw_dup F dX6_readEnd_30 rfl ?_
  refine rw_get F 10 (show 10 < 39 by decide) (gC_10 Z _) iw_X6_readEnd_X6 rfl 4 (by decide) lk_X6_readEnd_32 rfl dX6_readEnd_31 ?_
  refine rw_iconst F (v := 1) dX6_readEnd_34 (by decide) ?_
  refine rw_iadd F dX6_readEnd_35 ?_
  refine rw_put F 10 (show 10 < 39 by decide) (gC_10 Z) iw_X6_readEnd_X6 tyX6 tyX6_ok nmX6 rfl 4 (by decide) lk_X6_readEnd_32 rfl rfl rfl (fun _ => by rw [lnC10]; decide) (stC10_4 Z.2.1) dX6_readEnd_36 ?_
  exact rw_vret F hf rfl dX6_readEnd_39

set_option maxHeartbeats 4000000 in
set_option maxRecDepth 100000 in
theorem c_X6_readEnd_10 (l : Launch) (Z : Zx) (f : Nat → Nat → Int32) (r : Nat → Nat → Int32) (hf : f_X6_readEnd_10 f = some r) : MS l (XC Z) yX6_readEnd wsX6_readEnd rm_X6_readEnd_10 [.ref (Z.2.1 10)] f (PV r) := by
  refine MS.of (cc := cX6_readEnd) (maxL := 1) (ret := none) (own := RX6) (lv := [(0, .ref (Z.2.1 10))]) (by decide) rfl rfl (Nat.le_of_ble_eq_true rfl) rfl ?_
  intro a A hla F
  subst hla
  unfold f_X6_readEnd_10 at hf
  refine rw_aload_n F dX6_readEnd_0 rfl 0 rfl ?_
  obtain ⟨q2, hq1, hf⟩ := bind_h hf
  refine rw_callVV F (k0 := 10) (nA := 0) (c_X6_skipBlanks_10 (aL a) Z  _ _ hq1) gX6_readEnd_X6_skipBlanks rfl ⟨rfl, rfl⟩ (by decide +kernel) ⟨Nat.le_of_ble_eq_true rfl, Nat.le_of_ble_eq_true rfl⟩ (show 10 < 39 by decide) (gC_10 Z _) rfl rfl rfl (Nat.le_of_ble_eq_true rfl) dX6_readEnd_1 ?_
  refine rw_aload_n F dX6_readEnd_4 rfl 0 rfl ?_
  refine rw_get F 10 (show 10 < 39 by decide) (gC_10 Z _) iw_X6_readEnd_X6 rfl 0 (by decide) lk_X6_readEnd_22 rfl dX6_readEnd_5 ?_
  refine rw_aload_n F dX6_readEnd_8 rfl 0 rfl ?_
  refine rw_get F 10 (show 10 < 39 by decide) (gC_10 Z _) iw_X6_readEnd_X6 rfl 4 (by decide) lk_X6_readEnd_32 rfl dX6_readEnd_9 ?_
  obtain ⟨q4, hq3, hf⟩ := bind_h hf
  refine rw_callVI F (k0 := 1) (nA := 1) (c_X9_letterAt_1 (aL a) Z _ _ _ hq3) gX6_readEnd_X9_letterAt rfl ⟨rfl, rfl⟩ (by decide +kernel) ⟨Nat.le_of_ble_eq_true rfl, Nat.le_of_ble_eq_true rfl⟩ (show 1 < 39 by decide) (gC_1 Z _) rfl rfl rfl (Nat.le_of_ble_eq_true rfl) dX6_readEnd_12 ?_
  refine rw_bipush F (v := 59) dX6_readEnd_15 (by decide) ?_
  refine rw_icmp_eq F (tgt := 29) hf dX6_readEnd_17 (by decide) (fun hc7 hf => ?_) (fun hc7 hf => ?_)
  · exact WS.sub [0] rfl (b_X6_readEnd_10_b29 F  _ hf)
  · refine rw_aload_n F dX6_readEnd_20 rfl 0 rfl ?_
    refine rw_iconst F (v := 1) dX6_readEnd_21 (by decide) ?_
    refine rw_aload_n F dX6_readEnd_22 rfl 0 rfl ?_
    refine rw_get F 10 (show 10 < 39 by decide) (gC_10 Z _) iw_X6_readEnd_X6 rfl 4 (by decide) lk_X6_readEnd_32 rfl dX6_readEnd_23 ?_
    obtain ⟨q6, hq5, hf⟩ := bind_h hf
    refine rw_callVV F (k0 := 10) (nA := 2) (c_X6_fail_10 (aL a) Z _ _ _ _ hq5) gX6_readEnd_X6_fail rfl ⟨rfl, rfl⟩ (by decide +kernel) ⟨Nat.le_of_ble_eq_true rfl, Nat.le_of_ble_eq_true rfl⟩ (show 10 < 39 by decide) (gC_10 Z _) rfl rfl rfl (Nat.le_of_ble_eq_true rfl) dX6_readEnd_26 ?_
    exact WS.sub [0] rfl (b_X6_readEnd_10_b29 F  _ hf)

abbrev rm_X6_readWalls_10 : Room := { frames := 3, cells := 0, slots := 0, locals := 66 }
abbrev FX_X6_readWalls_10 (a : Ax) (Z : Zx) (A : Nat → Prop) : Prop := FX a (XC Z) A cX6_readWalls RX6 wsX6_readWalls 3 none rm_X6_readWalls_10
theorem iw_X6_readWalls_X6 : ∀ w ∈ wsX60, w ∈ wsX6_readWalls := by decide +kernel
theorem lk_X6_readWalls_12 : Cond.fieldLink RX6 12 (TX6 1).1 (TX6 1).2.1 (TX6 1).2.2.1 ∈ wsX6_readWalls := by decide +kernel
theorem lk_X6_readWalls_22 : Cond.fieldLink RX6 22 (TX6 0).1 (TX6 0).2.1 (TX6 0).2.2.1 ∈ wsX6_readWalls := by decide +kernel
theorem lk_X6_readWalls_29 : Cond.fieldLink RX6 29 (TX6 2).1 (TX6 2).2.1 (TX6 2).2.2.1 ∈ wsX6_readWalls := by decide +kernel
theorem lk_X6_readWalls_32 : Cond.fieldLink RX6 32 (TX6 4).1 (TX6 4).2.1 (TX6 4).2.2.1 ∈ wsX6_readWalls := by decide +kernel
set_option maxHeartbeats 4000000 in
set_option maxRecDepth 100000 in
theorem b_X6_readWalls_10_b98 {a : Ax} {Z : Zx} {A : Nat → Prop} {r : Nat → Nat → Int32} (F : FX_X6_readWalls_10 a Z A) : ∀ (f : Nat → Nat → Int32), f_X6_readWalls_10_b98  f = some r → WS a (XC Z) A 3 (RP a (XC Z) A (PV r)) 98 [(0, .ref (Z.2.1 10))] [] f := by
  intro  f hf
  unfold f_X6_readWalls_10_b98 at hf
  refine rw_aload_n F dX6_readWalls_98 rfl 0 rfl ?_
  obtain ⟨q10, hq9, hf⟩ := bind_h hf
  refine rw_callVV F (k0 := 10) (nA := 0) (c_X6_readEnd_10 (aL a) Z  _ _ hq9) gX6_readWalls_X6_readEnd rfl ⟨rfl, rfl⟩ (by decide +kernel) ⟨Nat.le_of_ble_eq_true rfl, Nat.le_of_ble_eq_true rfl⟩ (show 10 < 39 by decide) (gC_10 Z _) rfl rfl rfl (Nat.le_of_ble_eq_true rfl) dX6_readWalls_99 ?_
  exact rw_vret F hf rfl dX6_readWalls_102

set_option maxHeartbeats 4000000 in
set_option maxRecDepth 100000 in
theorem b_X6_readWalls_10_b36 {a : Ax} {Z : Zx} {A : Nat → Prop} {r : Nat → Nat → Int32} (F : FX_X6_readWalls_10 a Z A) : ∀ (n : Nat) (i2 : Int32) (f : Nat → Nat → Int32), f_X6_readWalls_10_b36 n i2 f = some r → WS a (XC Z) A 3 (RP a (XC Z) A (PV r)) 36 [(0, .ref (Z.2.1 10)), (2, .int i2)] [] f := by
  intro n
  induction n with
  | zero => intro i2 f hf; exact nomatch (show (none : Option (Nat → Nat → Int32)) = some r from hf)
  | succ n hK36 =>
    intro i2 f hf
    replace hf : f_X6_readWalls_10_b36s (f_X6_readWalls_10_b36 n) i2 f = some r := hf
    unfold f_X6_readWalls_10_b36s at hf
    refine rw_iload_n F dX6_readWalls_36 rfl 1 rfl ?_
    refine rw_bipush F (v := 8) dX6_readWalls_37 (by decide) ?_
    refine rw_icmp_ge F (tgt := 98) hf dX6_readWalls_39 (by decide) (fun hc21 hf => ?_) (fun hc21 hf => ?_)
    · exact WS.sub [0] rfl (b_X6_readWalls_10_b98 F  _ hf)
    · refine rw_aload_n F dX6_readWalls_42 rfl 0 rfl ?_
      refine rw_get F 10 (show 10 < 39 by decide) (gC_10 Z _) iw_X6_readWalls_X6 rfl 2 (by decide) lk_X6_readWalls_29 rfl dX6_readWalls_43 ?_
      refine rw_if_ne F (tgt := 98) hf dX6_readWalls_46 (by decide) (fun hc20 hf => ?_) (fun hc20 hf => ?_)
      · exact WS.sub [0] rfl (b_X6_readWalls_10_b98 F  _ hf)
      · refine rw_aload_n F dX6_readWalls_49 rfl 0 rfl ?_
        refine rw_get F 10 (show 10 < 39 by decide) (gC_10 Z _) iw_X6_readWalls_X6 rfl 0 (by decide) lk_X6_readWalls_22 rfl dX6_readWalls_50 ?_
        refine rw_aload_n F dX6_readWalls_53 rfl 0 rfl ?_
        refine rw_get F 10 (show 10 < 39 by decide) (gC_10 Z _) iw_X6_readWalls_X6 rfl 4 (by decide) lk_X6_readWalls_32 rfl dX6_readWalls_54 ?_
        obtain ⟨q12, hq11, hf⟩ := bind_h hf
        refine rw_callVI F (k0 := 1) (nA := 1) (c_X9_letterAt_1 (aL a) Z _ _ _ hq11) gX6_readWalls_X9_letterAt rfl ⟨rfl, rfl⟩ (by decide +kernel) ⟨Nat.le_of_ble_eq_true rfl, Nat.le_of_ble_eq_true rfl⟩ (show 1 < 39 by decide) (gC_1 Z _) rfl rfl rfl (Nat.le_of_ble_eq_true rfl) dX6_readWalls_57 ?_
        refine rw_bipush F (v := 44) dX6_readWalls_60 (by decide) ?_
        refine rw_icmp_ne F (tgt := 98) hf dX6_readWalls_62 (by decide) (fun hc19 hf => ?_) (fun hc19 hf => ?_)
        · exact WS.sub [0] rfl (b_X6_readWalls_10_b98 F  _ hf)
        · refine rw_aload_n F dX6_readWalls_65 rfl 0 rfl ?_
          refine rw_dup F dX6_readWalls_66 rfl ?_
          refine rw_get F 10 (show 10 < 39 by decide) (gC_10 Z _) iw_X6_readWalls_X6 rfl 4 (by decide) lk_X6_readWalls_32 rfl dX6_readWalls_67 ?_
          refine rw_iconst F (v := 1) dX6_readWalls_70 (by decide) ?_
          refine rw_iadd F dX6_readWalls_71 ?_
          refine rw_put F 10 (show 10 < 39 by decide) (gC_10 Z) iw_X6_readWalls_X6 tyX6 tyX6_ok nmX6 rfl 4 (by decide) lk_X6_readWalls_32 rfl rfl rfl (fun _ => by rw [lnC10]; decide) (stC10_4 Z.2.1) dX6_readWalls_72 ?_
          refine rw_aload_n F dX6_readWalls_75 rfl 0 rfl ?_
          refine rw_get F 10 (show 10 < 39 by decide) (gC_10 Z _) iw_X6_readWalls_X6 rfl 1 (by decide) lk_X6_readWalls_12 rfl dX6_readWalls_76 ?_
          refine rw_aload_n F dX6_readWalls_79 rfl 0 rfl ?_
          refine rw_bipush F (v := 20) dX6_readWalls_80 (by decide) ?_
          obtain ⟨q14, hq13, hf⟩ := bind_h hf
          refine rw_callVI F (k0 := 10) (nA := 1) (c_X6_readNumber_10 (aL a) Z _ _ _ hq13) gX6_readWalls_X6_readNumber rfl ⟨rfl, rfl⟩ (by decide +kernel) ⟨Nat.le_of_ble_eq_true rfl, Nat.le_of_ble_eq_true rfl⟩ (show 10 < 39 by decide) (gC_10 Z _) rfl rfl rfl (Nat.le_of_ble_eq_true rfl) dX6_readWalls_82 ?_
          obtain ⟨q16, hq15, hf⟩ := bind_h hf
          refine rw_callVV F (k0 := 11) (nA := 1) (c_X5_addWall_11 (aL a) Z _ _ _ hq15) gX6_readWalls_X5_addWall rfl ⟨rfl, rfl⟩ (by decide +kernel) ⟨Nat.le_of_ble_eq_true rfl, Nat.le_of_ble_eq_true rfl⟩ (show 11 < 39 by decide) (gC_11 Z _) rfl rfl rfl (Nat.le_of_ble_eq_true rfl) dX6_readWalls_85 ?_
          refine rw_aload_n F dX6_readWalls_88 rfl 0 rfl ?_
          obtain ⟨q18, hq17, hf⟩ := bind_h hf
          refine rw_callVV F (k0 := 10) (nA := 0) (c_X6_skipBlanks_10 (aL a) Z  _ _ hq17) gX6_readWalls_X6_skipBlanks rfl ⟨rfl, rfl⟩ (by decide +kernel) ⟨Nat.le_of_ble_eq_true rfl, Nat.le_of_ble_eq_true rfl⟩ (show 10 < 39 by decide) (gC_10 Z _) rfl rfl rfl (Nat.le_of_ble_eq_true rfl) dX6_readWalls_89 ?_
          refine rw_iinc F (v := 1) dX6_readWalls_92 1 rfl (by decide) (by decide) rfl ?_
          refine rw_goto F (tgt := 36) dX6_readWalls_95 (by decide) ?_
          exact WS.sub [1, 0] rfl (hK36 _ _ hf)

set_option maxHeartbeats 4000000 in
set_option maxRecDepth 100000 in
theorem c_X6_readWalls_10 (l : Launch) (Z : Zx) (p1 : Int32) (f : Nat → Nat → Int32) (r : Nat → Nat → Int32) (hf : f_X6_readWalls_10 p1 f = some r) : MS l (XC Z) yX6_readWalls wsX6_readWalls rm_X6_readWalls_10 [.ref (Z.2.1 10), .int p1] f (PV r) := by
  refine MS.of (cc := cX6_readWalls) (maxL := 3) (ret := none) (own := RX6) (lv := [(0, .ref (Z.2.1 10)), (1, .int p1)]) (by decide) rfl rfl (Nat.le_of_ble_eq_true rfl) rfl ?_
  intro a A hla F
  subst hla
  unfold f_X6_readWalls_10 at hf
  refine rw_aload_n F dX6_readWalls_0 rfl 0 rfl ?_
  refine rw_get F 10 (show 10 < 39 by decide) (gC_10 Z _) iw_X6_readWalls_X6 rfl 1 (by decide) lk_X6_readWalls_12 rfl dX6_readWalls_1 ?_
  obtain ⟨q2, hq1, hf⟩ := bind_h hf
  refine rw_callVI F (k0 := 11) (nA := 0) (c_X5_stands_11 (aL a) Z  _ _ hq1) gX6_readWalls_X5_stands rfl ⟨rfl, rfl⟩ (by decide +kernel) ⟨Nat.le_of_ble_eq_true rfl, Nat.le_of_ble_eq_true rfl⟩ (show 11 < 39 by decide) (gC_11 Z _) rfl rfl rfl (Nat.le_of_ble_eq_true rfl) dX6_readWalls_4 ?_
  refine rw_if_eq F (tgt := 17) hf dX6_readWalls_7 (by decide) (fun hc24 hf => ?_) (fun hc24 hf => ?_)
  · refine rw_aload_n F dX6_readWalls_17 rfl 0 rfl ?_
    refine rw_get F 10 (show 10 < 39 by decide) (gC_10 Z _) iw_X6_readWalls_X6 rfl 1 (by decide) lk_X6_readWalls_12 rfl dX6_readWalls_18 ?_
    refine rw_aload_n F dX6_readWalls_21 rfl 0 rfl ?_
    refine rw_bipush F (v := 20) dX6_readWalls_22 (by decide) ?_
    obtain ⟨q4, hq3, hf⟩ := bind_h hf
    refine rw_callVI F (k0 := 10) (nA := 1) (c_X6_readNumber_10 (aL a) Z _ _ _ hq3) gX6_readWalls_X6_readNumber rfl ⟨rfl, rfl⟩ (by decide +kernel) ⟨Nat.le_of_ble_eq_true rfl, Nat.le_of_ble_eq_true rfl⟩ (show 10 < 39 by decide) (gC_10 Z _) rfl rfl rfl (Nat.le_of_ble_eq_true rfl) dX6_readWalls_24 ?_
    obtain ⟨q6, hq5, hf⟩ := bind_h hf
    refine rw_callVV F (k0 := 11) (nA := 1) (c_X5_addWall_11 (aL a) Z _ _ _ hq5) gX6_readWalls_X5_addWall rfl ⟨rfl, rfl⟩ (by decide +kernel) ⟨Nat.le_of_ble_eq_true rfl, Nat.le_of_ble_eq_true rfl⟩ (show 11 < 39 by decide) (gC_11 Z _) rfl rfl rfl (Nat.le_of_ble_eq_true rfl) dX6_readWalls_27 ?_
    refine rw_aload_n F dX6_readWalls_30 rfl 0 rfl ?_
    obtain ⟨q8, hq7, hf⟩ := bind_h hf
    refine rw_callVV F (k0 := 10) (nA := 0) (c_X6_skipBlanks_10 (aL a) Z  _ _ hq7) gX6_readWalls_X6_skipBlanks rfl ⟨rfl, rfl⟩ (by decide +kernel) ⟨Nat.le_of_ble_eq_true rfl, Nat.le_of_ble_eq_true rfl⟩ (show 10 < 39 by decide) (gC_10 Z _) rfl rfl rfl (Nat.le_of_ble_eq_true rfl) dX6_readWalls_31 ?_
    refine rw_iconst F (v := 1) dX6_readWalls_34 (by decide) ?_
    refine rw_istore_n F dX6_readWalls_35 rfl (by decide) rfl ?_
    exact WS.sub [1, 0] rfl (b_X6_readWalls_10_b36 F  fuB _ _ hf)
  · refine rw_aload_n F dX6_readWalls_10 rfl 0 rfl ?_
    refine rw_iconst F (v := 3) dX6_readWalls_11 (by decide) ?_
    refine rw_iload_n F dX6_readWalls_12 rfl 1 rfl ?_
    obtain ⟨q23, hq22, hf⟩ := bind_h hf
    refine rw_callVV F (k0 := 10) (nA := 2) (c_X6_fail_10 (aL a) Z _ _ _ _ hq22) gX6_readWalls_X6_fail rfl ⟨rfl, rfl⟩ (by decide +kernel) ⟨Nat.le_of_ble_eq_true rfl, Nat.le_of_ble_eq_true rfl⟩ (show 10 < 39 by decide) (gC_10 Z _) rfl rfl rfl (Nat.le_of_ble_eq_true rfl) dX6_readWalls_13 ?_
    exact rw_vret F hf rfl dX6_readWalls_16

abbrev rm_X5_addSound_11 : Room := { frames := 1, cells := 0, slots := 0, locals := 22 }
abbrev FX_X5_addSound_11 (a : Ax) (Z : Zx) (A : Nat → Prop) : Prop := FX a (XC Z) A cX5_addSound RX5 wsX5_addSound 3 none rm_X5_addSound_11
theorem iw_X5_addSound_X5 : ∀ w ∈ wsX50, w ∈ wsX5_addSound := by decide +kernel
theorem lk_X5_addSound_15 : Cond.fieldLink RX5 15 (TX5 5).1 (TX5 5).2.1 (TX5 5).2.2.1 ∈ wsX5_addSound := by decide +kernel
theorem lk_X5_addSound_18 : Cond.fieldLink RX5 18 (TX5 6).1 (TX5 6).2.1 (TX5 6).2.2.1 ∈ wsX5_addSound := by decide +kernel
theorem lk_X5_addSound_37 : Cond.fieldLink RX5 37 (TX5 2).1 (TX5 2).2.1 (TX5 2).2.2.1 ∈ wsX5_addSound := by decide +kernel
set_option maxHeartbeats 4000000 in
set_option maxRecDepth 100000 in
theorem c_X5_addSound_11 (l : Launch) (Z : Zx) (p1 : Int32) (p2 : Int32) (f : Nat → Nat → Int32) (r : Nat → Nat → Int32) (hf : f_X5_addSound_11 p1 p2 f = some r) : MS l (XC Z) yX5_addSound wsX5_addSound rm_X5_addSound_11 [.ref (Z.2.1 11), .int p1, .int p2] f (PV r) := by
  refine MS.of (cc := cX5_addSound) (maxL := 3) (ret := none) (own := RX5) (lv := [(0, .ref (Z.2.1 11)), (1, .int p1), (2, .int p2)]) (by decide) rfl rfl (Nat.le_of_ble_eq_true rfl) rfl ?_
  intro a A hla F
  subst hla
  unfold f_X5_addSound_11 at hf
  refine rw_aload_n F dX5_addSound_0 rfl 0 rfl ?_
  refine rw_get F 11 (show 11 < 39 by decide) (gC_11 Z _) iw_X5_addSound_X5 rfl 5 (by decide) lk_X5_addSound_15 rfl dX5_addSound_1 ?_
  refine rw_aload_n F dX5_addSound_4 rfl 0 rfl ?_
  refine rw_get F 11 (show 11 < 39 by decide) (gC_11 Z _) iw_X5_addSound_X5 rfl 2 (by decide) lk_X5_addSound_37 rfl dX5_addSound_5 ?_
  refine rw_iload_n F dX5_addSound_8 rfl 1 rfl ?_
  obtain ⟨q2, hq1, hf⟩ := bind_h hf
  refine rw_callSV F (nA := 3) (c_X7_put (aL a) Z (show 13 < 39 by decide) (gC_13 Z) _ _ _ _ hq1) gX5_addSound_X7_put rfl ⟨rfl, rfl⟩ (by decide +kernel) ⟨Nat.le_of_ble_eq_true rfl, Nat.le_of_ble_eq_true rfl⟩ rfl rfl (Nat.le_of_ble_eq_true rfl) dX5_addSound_9 ?_
  refine rw_aload_n F dX5_addSound_12 rfl 0 rfl ?_
  refine rw_get F 11 (show 11 < 39 by decide) (gC_11 Z _) iw_X5_addSound_X5 rfl 6 (by decide) lk_X5_addSound_18 rfl dX5_addSound_13 ?_
  refine rw_aload_n F dX5_addSound_16 rfl 0 rfl ?_
  refine rw_get F 11 (show 11 < 39 by decide) (gC_11 Z _) iw_X5_addSound_X5 rfl 2 (by decide) lk_X5_addSound_37 rfl dX5_addSound_17 ?_
  refine rw_iload_n F dX5_addSound_20 rfl 2 rfl ?_
  obtain ⟨q4, hq3, hf⟩ := bind_h hf
  refine rw_callSV F (nA := 3) (c_X7_put (aL a) Z (show 14 < 39 by decide) (gC_14 Z) _ _ _ _ hq3) gX5_addSound_X7_put rfl ⟨rfl, rfl⟩ (by decide +kernel) ⟨Nat.le_of_ble_eq_true rfl, Nat.le_of_ble_eq_true rfl⟩ rfl rfl (Nat.le_of_ble_eq_true rfl) dX5_addSound_21 ?_
  refine rw_aload_n F dX5_addSound_24 rfl 0 rfl ?_
  refine rw_dup F dX5_addSound_25 rfl ?_
  refine rw_get F 11 (show 11 < 39 by decide) (gC_11 Z _) iw_X5_addSound_X5 rfl 2 (by decide) lk_X5_addSound_37 rfl dX5_addSound_26 ?_
  refine rw_iconst F (v := 1) dX5_addSound_29 (by decide) ?_
  refine rw_iadd F dX5_addSound_30 ?_
  refine rw_put F 11 (show 11 < 39 by decide) (gC_11 Z) iw_X5_addSound_X5 tyX5 tyX5_ok nmX5 rfl 2 (by decide) lk_X5_addSound_37 rfl rfl rfl (fun _ => by rw [lnC11]; decide) (stC11_2 Z.2.1) dX5_addSound_31 ?_
  exact rw_vret F hf rfl dX5_addSound_34

abbrev rm_X6_readSound_10 : Room := { frames := 3, cells := 0, slots := 0, locals := 66 }
abbrev FX_X6_readSound_10 (a : Ax) (Z : Zx) (A : Nat → Prop) : Prop := FX a (XC Z) A cX6_readSound RX6 wsX6_readSound 4 none rm_X6_readSound_10
theorem iw_X6_readSound_X5 : ∀ w ∈ wsX50, w ∈ wsX6_readSound := by decide +kernel
theorem iw_X6_readSound_X6 : ∀ w ∈ wsX60, w ∈ wsX6_readSound := by decide +kernel
theorem lk_X6_readSound_12 : Cond.fieldLink RX6 12 (TX6 1).1 (TX6 1).2.1 (TX6 1).2.2.1 ∈ wsX6_readSound := by decide +kernel
theorem lk_X6_readSound_87 : Cond.fieldLink RX6 87 (TX5 2).1 (TX5 2).2.1 (TX5 2).2.2.1 ∈ wsX6_readSound := by decide +kernel
set_option maxHeartbeats 4000000 in
set_option maxRecDepth 100000 in
theorem c_X6_readSound_10 (l : Launch) (Z : Zx) (p1 : Int32) (f : Nat → Nat → Int32) (r : Nat → Nat → Int32) (hf : f_X6_readSound_10 p1 f = some r) : MS l (XC Z) yX6_readSound wsX6_readSound rm_X6_readSound_10 [.ref (Z.2.1 10), .int p1] f (PV r) := by
  refine MS.of (cc := cX6_readSound) (maxL := 4) (ret := none) (own := RX6) (lv := [(0, .ref (Z.2.1 10)), (1, .int p1)]) (by decide) rfl rfl (Nat.le_of_ble_eq_true rfl) rfl ?_
  intro a A hla F
  subst hla
  unfold f_X6_readSound_10 at hf
  refine rw_aload_n F dX6_readSound_0 rfl 0 rfl ?_
  refine rw_get F 10 (show 10 < 39 by decide) (gC_10 Z _) iw_X6_readSound_X6 rfl 1 (by decide) lk_X6_readSound_12 rfl dX6_readSound_1 ?_
  refine rw_get F 11 (show 11 < 39 by decide) (gC_11 Z _) iw_X6_readSound_X5 rfl 2 (by decide) lk_X6_readSound_87 rfl dX6_readSound_4 ?_
  refine rw_bipush F (v := 6) dX6_readSound_7 (by decide) ?_
  refine rw_icmp_lt F (tgt := 19) hf dX6_readSound_9 (by decide) (fun hc11 hf => ?_) (fun hc11 hf => ?_)
  · refine rw_aload_n F dX6_readSound_19 rfl 0 rfl ?_
    refine rw_bipush F (v := 60) dX6_readSound_20 (by decide) ?_
    obtain ⟨q2, hq1, hf⟩ := bind_h hf
    refine rw_callVI F (k0 := 10) (nA := 1) (c_X6_readNumber_10 (aL a) Z _ _ _ hq1) gX6_readSound_X6_readNumber rfl ⟨rfl, rfl⟩ (by decide +kernel) ⟨Nat.le_of_ble_eq_true rfl, Nat.le_of_ble_eq_true rfl⟩ (show 10 < 39 by decide) (gC_10 Z _) rfl rfl rfl (Nat.le_of_ble_eq_true rfl) dX6_readSound_22 ?_
    refine rw_istore_n F dX6_readSound_25 rfl (by decide) rfl ?_
    refine rw_aload_n F dX6_readSound_26 rfl 1 rfl ?_
    refine rw_bipush F (v := 9) dX6_readSound_27 (by decide) ?_
    obtain ⟨q4, hq3, hf⟩ := bind_h hf
    refine rw_callVI F (k0 := 10) (nA := 1) (c_X6_readNumber_10 (aL a) Z _ _ _ hq3) gX6_readSound_X6_readNumber rfl ⟨rfl, rfl⟩ (by decide +kernel) ⟨Nat.le_of_ble_eq_true rfl, Nat.le_of_ble_eq_true rfl⟩ (show 10 < 39 by decide) (gC_10 Z _) rfl rfl rfl (Nat.le_of_ble_eq_true rfl) dX6_readSound_29 ?_
    refine rw_istore_n F dX6_readSound_32 rfl (by decide) rfl ?_
    refine rw_aload_n F dX6_readSound_33 rfl 2 rfl ?_
    refine rw_get F 10 (show 10 < 39 by decide) (gC_10 Z _) iw_X6_readSound_X6 rfl 1 (by decide) lk_X6_readSound_12 rfl dX6_readSound_34 ?_
    refine rw_iload_n F dX6_readSound_37 rfl 1 rfl ?_
    refine rw_iload_n F dX6_readSound_38 rfl 0 rfl ?_
    obtain ⟨q6, hq5, hf⟩ := bind_h hf
    refine rw_callVV F (k0 := 11) (nA := 2) (c_X5_addSound_11 (aL a) Z _ _ _ _ hq5) gX6_readSound_X5_addSound rfl ⟨rfl, rfl⟩ (by decide +kernel) ⟨Nat.le_of_ble_eq_true rfl, Nat.le_of_ble_eq_true rfl⟩ (show 11 < 39 by decide) (gC_11 Z _) rfl rfl rfl (Nat.le_of_ble_eq_true rfl) dX6_readSound_39 ?_
    refine rw_aload_n F dX6_readSound_42 rfl 2 rfl ?_
    obtain ⟨q8, hq7, hf⟩ := bind_h hf
    refine rw_callVV F (k0 := 10) (nA := 0) (c_X6_readEnd_10 (aL a) Z  _ _ hq7) gX6_readSound_X6_readEnd rfl ⟨rfl, rfl⟩ (by decide +kernel) ⟨Nat.le_of_ble_eq_true rfl, Nat.le_of_ble_eq_true rfl⟩ (show 10 < 39 by decide) (gC_10 Z _) rfl rfl rfl (Nat.le_of_ble_eq_true rfl) dX6_readSound_43 ?_
    exact rw_vret F hf rfl dX6_readSound_46
  · refine rw_aload_n F dX6_readSound_12 rfl 0 rfl ?_
    refine rw_iconst F (v := 3) dX6_readSound_13 (by decide) ?_
    refine rw_iload_n F dX6_readSound_14 rfl 1 rfl ?_
    obtain ⟨q10, hq9, hf⟩ := bind_h hf
    refine rw_callVV F (k0 := 10) (nA := 2) (c_X6_fail_10 (aL a) Z _ _ _ _ hq9) gX6_readSound_X6_fail rfl ⟨rfl, rfl⟩ (by decide +kernel) ⟨Nat.le_of_ble_eq_true rfl, Nat.le_of_ble_eq_true rfl⟩ (show 10 < 39 by decide) (gC_10 Z _) rfl rfl rfl (Nat.le_of_ble_eq_true rfl) dX6_readSound_15 ?_
    exact rw_vret F hf rfl dX6_readSound_18

abbrev rm_X6_readWind_10 : Room := { frames := 3, cells := 0, slots := 0, locals := 66 }
abbrev FX_X6_readWind_10 (a : Ax) (Z : Zx) (A : Nat → Prop) : Prop := FX a (XC Z) A cX6_readWind RX6 wsX6_readWind 2 none rm_X6_readWind_10
theorem iw_X6_readWind_X5 : ∀ w ∈ wsX50, w ∈ wsX6_readWind := by decide +kernel
theorem iw_X6_readWind_X6 : ∀ w ∈ wsX60, w ∈ wsX6_readWind := by decide +kernel
theorem lk_X6_readWind_12 : Cond.fieldLink RX6 12 (TX6 1).1 (TX6 1).2.1 (TX6 1).2.2.1 ∈ wsX6_readWind := by decide +kernel
theorem lk_X6_readWind_35 : Cond.fieldLink RX6 35 (TX6 5).1 (TX6 5).2.1 (TX6 5).2.2.1 ∈ wsX6_readWind := by decide +kernel
theorem lk_X6_readWind_84 : Cond.fieldLink RX6 84 (TX5 1).1 (TX5 1).2.1 (TX5 1).2.2.1 ∈ wsX6_readWind := by decide +kernel
set_option maxHeartbeats 4000000 in
set_option maxRecDepth 100000 in
theorem c_X6_readWind_10 (l : Launch) (Z : Zx) (p1 : Int32) (f : Nat → Nat → Int32) (r : Nat → Nat → Int32) (hf : f_X6_readWind_10 p1 f = some r) : MS l (XC Z) yX6_readWind wsX6_readWind rm_X6_readWind_10 [.ref (Z.2.1 10), .int p1] f (PV r) := by
  refine MS.of (cc := cX6_readWind) (maxL := 2) (ret := none) (own := RX6) (lv := [(0, .ref (Z.2.1 10)), (1, .int p1)]) (by decide) rfl rfl (Nat.le_of_ble_eq_true rfl) rfl ?_
  intro a A hla F
  subst hla
  unfold f_X6_readWind_10 at hf
  refine rw_aload_n F dX6_readWind_0 rfl 0 rfl ?_
  refine rw_get F 10 (show 10 < 39 by decide) (gC_10 Z _) iw_X6_readWind_X6 rfl 5 (by decide) lk_X6_readWind_35 rfl dX6_readWind_1 ?_
  refine rw_if_eq F (tgt := 14) hf dX6_readWind_4 (by decide) (fun hc7 hf => ?_) (fun hc7 hf => ?_)
  · refine rw_aload_n F dX6_readWind_14 rfl 0 rfl ?_
    refine rw_iconst F (v := 1) dX6_readWind_15 (by decide) ?_
    refine rw_put F 10 (show 10 < 39 by decide) (gC_10 Z) iw_X6_readWind_X6 tyX6 tyX6_ok nmX6 rfl 5 (by decide) lk_X6_readWind_35 rfl rfl rfl (fun _ => by rw [lnC10]; decide) (stC10_5 Z.2.1) dX6_readWind_16 ?_
    refine rw_aload_n F dX6_readWind_19 rfl 0 rfl ?_
    refine rw_get F 10 (show 10 < 39 by decide) (gC_10 Z _) iw_X6_readWind_X6 rfl 1 (by decide) lk_X6_readWind_12 rfl dX6_readWind_20 ?_
    refine rw_aload_n F dX6_readWind_23 rfl 0 rfl ?_
    refine rw_bipush F (v := 18) dX6_readWind_24 (by decide) ?_
    obtain ⟨q2, hq1, hf⟩ := bind_h hf
    refine rw_callVI F (k0 := 10) (nA := 1) (c_X6_readNumber_10 (aL a) Z _ _ _ hq1) gX6_readWind_X6_readNumber rfl ⟨rfl, rfl⟩ (by decide +kernel) ⟨Nat.le_of_ble_eq_true rfl, Nat.le_of_ble_eq_true rfl⟩ (show 10 < 39 by decide) (gC_10 Z _) rfl rfl rfl (Nat.le_of_ble_eq_true rfl) dX6_readWind_26 ?_
    refine rw_bipush F (v := 9) dX6_readWind_29 (by decide) ?_
    refine rw_isub F dX6_readWind_31 ?_
    refine rw_put F 11 (show 11 < 39 by decide) (gC_11 Z) iw_X6_readWind_X5 tyX5 tyX5_ok nmX5 rfl 1 (by decide) lk_X6_readWind_84 rfl rfl rfl (fun _ => by rw [lnC11]; decide) (stC11_1 Z.2.1) dX6_readWind_32 ?_
    refine rw_aload_n F dX6_readWind_35 rfl 0 rfl ?_
    obtain ⟨q4, hq3, hf⟩ := bind_h hf
    refine rw_callVV F (k0 := 10) (nA := 0) (c_X6_readEnd_10 (aL a) Z  _ _ hq3) gX6_readWind_X6_readEnd rfl ⟨rfl, rfl⟩ (by decide +kernel) ⟨Nat.le_of_ble_eq_true rfl, Nat.le_of_ble_eq_true rfl⟩ (show 10 < 39 by decide) (gC_10 Z _) rfl rfl rfl (Nat.le_of_ble_eq_true rfl) dX6_readWind_36 ?_
    exact rw_vret F hf rfl dX6_readWind_39
  · refine rw_aload_n F dX6_readWind_7 rfl 0 rfl ?_
    refine rw_iconst F (v := 3) dX6_readWind_8 (by decide) ?_
    refine rw_iload_n F dX6_readWind_9 rfl 1 rfl ?_
    obtain ⟨q6, hq5, hf⟩ := bind_h hf
    refine rw_callVV F (k0 := 10) (nA := 2) (c_X6_fail_10 (aL a) Z _ _ _ _ hq5) gX6_readWind_X6_fail rfl ⟨rfl, rfl⟩ (by decide +kernel) ⟨Nat.le_of_ble_eq_true rfl, Nat.le_of_ble_eq_true rfl⟩ (show 10 < 39 by decide) (gC_10 Z _) rfl rfl rfl (Nat.le_of_ble_eq_true rfl) dX6_readWind_10 ?_
    exact rw_vret F hf rfl dX6_readWind_13

abbrev rm_X5_addWitness_11 : Room := { frames := 1, cells := 0, slots := 0, locals := 22 }
abbrev FX_X5_addWitness_11 (a : Ax) (Z : Zx) (A : Nat → Prop) : Prop := FX a (XC Z) A cX5_addWitness RX5 wsX5_addWitness 4 none rm_X5_addWitness_11
theorem iw_X5_addWitness_X5 : ∀ w ∈ wsX50, w ∈ wsX5_addWitness := by decide +kernel
theorem lk_X5_addWitness_21 : Cond.fieldLink RX5 21 (TX5 7).1 (TX5 7).2.1 (TX5 7).2.2.1 ∈ wsX5_addWitness := by decide +kernel
theorem lk_X5_addWitness_24 : Cond.fieldLink RX5 24 (TX5 8).1 (TX5 8).2.1 (TX5 8).2.2.1 ∈ wsX5_addWitness := by decide +kernel
theorem lk_X5_addWitness_27 : Cond.fieldLink RX5 27 (TX5 9).1 (TX5 9).2.1 (TX5 9).2.2.1 ∈ wsX5_addWitness := by decide +kernel
theorem lk_X5_addWitness_40 : Cond.fieldLink RX5 40 (TX5 3).1 (TX5 3).2.1 (TX5 3).2.2.1 ∈ wsX5_addWitness := by decide +kernel
set_option maxHeartbeats 4000000 in
set_option maxRecDepth 100000 in
theorem c_X5_addWitness_11 (l : Launch) (Z : Zx) (p1 : Int32) (p2 : Int32) (p3 : Int32) (f : Nat → Nat → Int32) (r : Nat → Nat → Int32) (hf : f_X5_addWitness_11 p1 p2 p3 f = some r) : MS l (XC Z) yX5_addWitness wsX5_addWitness rm_X5_addWitness_11 [.ref (Z.2.1 11), .int p1, .int p2, .int p3] f (PV r) := by
  refine MS.of (cc := cX5_addWitness) (maxL := 4) (ret := none) (own := RX5) (lv := [(0, .ref (Z.2.1 11)), (1, .int p1), (2, .int p2), (3, .int p3)]) (by decide) rfl rfl (Nat.le_of_ble_eq_true rfl) rfl ?_
  intro a A hla F
  subst hla
  unfold f_X5_addWitness_11 at hf
  refine rw_aload_n F dX5_addWitness_0 rfl 0 rfl ?_
  refine rw_get F 11 (show 11 < 39 by decide) (gC_11 Z _) iw_X5_addWitness_X5 rfl 7 (by decide) lk_X5_addWitness_21 rfl dX5_addWitness_1 ?_
  refine rw_aload_n F dX5_addWitness_4 rfl 0 rfl ?_
  refine rw_get F 11 (show 11 < 39 by decide) (gC_11 Z _) iw_X5_addWitness_X5 rfl 3 (by decide) lk_X5_addWitness_40 rfl dX5_addWitness_5 ?_
  refine rw_iload_n F dX5_addWitness_8 rfl 1 rfl ?_
  obtain ⟨q2, hq1, hf⟩ := bind_h hf
  refine rw_callSV F (nA := 3) (c_X7_put (aL a) Z (show 15 < 39 by decide) (gC_15 Z) _ _ _ _ hq1) gX5_addWitness_X7_put rfl ⟨rfl, rfl⟩ (by decide +kernel) ⟨Nat.le_of_ble_eq_true rfl, Nat.le_of_ble_eq_true rfl⟩ rfl rfl (Nat.le_of_ble_eq_true rfl) dX5_addWitness_9 ?_
  refine rw_aload_n F dX5_addWitness_12 rfl 0 rfl ?_
  refine rw_get F 11 (show 11 < 39 by decide) (gC_11 Z _) iw_X5_addWitness_X5 rfl 8 (by decide) lk_X5_addWitness_24 rfl dX5_addWitness_13 ?_
  refine rw_aload_n F dX5_addWitness_16 rfl 0 rfl ?_
  refine rw_get F 11 (show 11 < 39 by decide) (gC_11 Z _) iw_X5_addWitness_X5 rfl 3 (by decide) lk_X5_addWitness_40 rfl dX5_addWitness_17 ?_
  refine rw_iload_n F dX5_addWitness_20 rfl 2 rfl ?_
  obtain ⟨q4, hq3, hf⟩ := bind_h hf
  refine rw_callSV F (nA := 3) (c_X7_put (aL a) Z (show 16 < 39 by decide) (gC_16 Z) _ _ _ _ hq3) gX5_addWitness_X7_put rfl ⟨rfl, rfl⟩ (by decide +kernel) ⟨Nat.le_of_ble_eq_true rfl, Nat.le_of_ble_eq_true rfl⟩ rfl rfl (Nat.le_of_ble_eq_true rfl) dX5_addWitness_21 ?_
  refine rw_aload_n F dX5_addWitness_24 rfl 0 rfl ?_
  refine rw_get F 11 (show 11 < 39 by decide) (gC_11 Z _) iw_X5_addWitness_X5 rfl 9 (by decide) lk_X5_addWitness_27 rfl dX5_addWitness_25 ?_
  refine rw_aload_n F dX5_addWitness_28 rfl 0 rfl ?_
  refine rw_get F 11 (show 11 < 39 by decide) (gC_11 Z _) iw_X5_addWitness_X5 rfl 3 (by decide) lk_X5_addWitness_40 rfl dX5_addWitness_29 ?_
  refine rw_iload_n F dX5_addWitness_32 rfl 3 rfl ?_
  obtain ⟨q6, hq5, hf⟩ := bind_h hf
  refine rw_callSV F (nA := 3) (c_X7_put (aL a) Z (show 17 < 39 by decide) (gC_17 Z) _ _ _ _ hq5) gX5_addWitness_X7_put rfl ⟨rfl, rfl⟩ (by decide +kernel) ⟨Nat.le_of_ble_eq_true rfl, Nat.le_of_ble_eq_true rfl⟩ rfl rfl (Nat.le_of_ble_eq_true rfl) dX5_addWitness_33 ?_
  refine rw_aload_n F dX5_addWitness_36 rfl 0 rfl ?_
  refine rw_dup F dX5_addWitness_37 rfl ?_
  refine rw_get F 11 (show 11 < 39 by decide) (gC_11 Z _) iw_X5_addWitness_X5 rfl 3 (by decide) lk_X5_addWitness_40 rfl dX5_addWitness_38 ?_
  refine rw_iconst F (v := 1) dX5_addWitness_41 (by decide) ?_
  refine rw_iadd F dX5_addWitness_42 ?_
  refine rw_put F 11 (show 11 < 39 by decide) (gC_11 Z) iw_X5_addWitness_X5 tyX5 tyX5_ok nmX5 rfl 3 (by decide) lk_X5_addWitness_40 rfl rfl rfl (fun _ => by rw [lnC11]; decide) (stC11_3 Z.2.1) dX5_addWitness_43 ?_
  exact rw_vret F hf rfl dX5_addWitness_46

abbrev rm_X6_readWitness_10 : Room := { frames := 3, cells := 0, slots := 0, locals := 66 }
abbrev FX_X6_readWitness_10 (a : Ax) (Z : Zx) (A : Nat → Prop) : Prop := FX a (XC Z) A cX6_readWitness RX6 wsX6_readWitness 5 none rm_X6_readWitness_10
theorem iw_X6_readWitness_X5 : ∀ w ∈ wsX50, w ∈ wsX6_readWitness := by decide +kernel
theorem iw_X6_readWitness_X6 : ∀ w ∈ wsX60, w ∈ wsX6_readWitness := by decide +kernel
theorem lk_X6_readWitness_12 : Cond.fieldLink RX6 12 (TX6 1).1 (TX6 1).2.1 (TX6 1).2.2.1 ∈ wsX6_readWitness := by decide +kernel
theorem lk_X6_readWitness_93 : Cond.fieldLink RX6 93 (TX5 3).1 (TX5 3).2.1 (TX5 3).2.2.1 ∈ wsX6_readWitness := by decide +kernel
theorem lk_X6_readWitness_96 : Cond.fieldLink RX6 96 (TX5 0).1 (TX5 0).2.1 (TX5 0).2.2.1 ∈ wsX6_readWitness := by decide +kernel
set_option maxHeartbeats 4000000 in
set_option maxRecDepth 100000 in
theorem c_X6_readWitness_10 (l : Launch) (Z : Zx) (p1 : Int32) (f : Nat → Nat → Int32) (r : Nat → Nat → Int32) (hf : f_X6_readWitness_10 p1 f = some r) : MS l (XC Z) yX6_readWitness wsX6_readWitness rm_X6_readWitness_10 [.ref (Z.2.1 10), .int p1] f (PV r) := by
  refine MS.of (cc := cX6_readWitness) (maxL := 5) (ret := none) (own := RX6) (lv := [(0, .ref (Z.2.1 10)), (1, .int p1)]) (by decide) rfl rfl (Nat.le_of_ble_eq_true rfl) rfl ?_
  intro a A hla F
  subst hla
  unfold f_X6_readWitness_10 at hf
  refine rw_aload_n F dX6_readWitness_0 rfl 0 rfl ?_
  refine rw_get F 10 (show 10 < 39 by decide) (gC_10 Z _) iw_X6_readWitness_X6 rfl 1 (by decide) lk_X6_readWitness_12 rfl dX6_readWitness_1 ?_
  refine rw_get F 11 (show 11 < 39 by decide) (gC_11 Z _) iw_X6_readWitness_X5 rfl 3 (by decide) lk_X6_readWitness_93 rfl dX6_readWitness_4 ?_
  refine rw_bipush F (v := 7) dX6_readWitness_7 (by decide) ?_
  refine rw_icmp_lt F (tgt := 19) hf dX6_readWitness_9 (by decide) (fun hc13 hf => ?_) (fun hc13 hf => ?_)
  · refine rw_aload_n F dX6_readWitness_19 rfl 0 rfl ?_
    refine rw_aload_n F dX6_readWitness_20 rfl 0 rfl ?_
    refine rw_get F 10 (show 10 < 39 by decide) (gC_10 Z _) iw_X6_readWitness_X6 rfl 1 (by decide) lk_X6_readWitness_12 rfl dX6_readWitness_21 ?_
    refine rw_get F 11 (show 11 < 39 by decide) (gC_11 Z _) iw_X6_readWitness_X5 rfl 0 (by decide) lk_X6_readWitness_96 rfl dX6_readWitness_24 ?_
    obtain ⟨q2, hq1, hf⟩ := bind_h hf
    refine rw_callVI F (k0 := 10) (nA := 1) (c_X6_readNumber_10 (aL a) Z _ _ _ hq1) gX6_readWitness_X6_readNumber rfl ⟨rfl, rfl⟩ (by decide +kernel) ⟨Nat.le_of_ble_eq_true rfl, Nat.le_of_ble_eq_true rfl⟩ (show 10 < 39 by decide) (gC_10 Z _) rfl rfl rfl (Nat.le_of_ble_eq_true rfl) dX6_readWitness_27 ?_
    refine rw_istore_n F dX6_readWitness_30 rfl (by decide) rfl ?_
    refine rw_aload_n F dX6_readWitness_31 rfl 1 rfl ?_
    refine rw_bipush F (v := 30) dX6_readWitness_32 (by decide) ?_
    obtain ⟨q4, hq3, hf⟩ := bind_h hf
    refine rw_callVI F (k0 := 10) (nA := 1) (c_X6_readNumber_10 (aL a) Z _ _ _ hq3) gX6_readWitness_X6_readNumber rfl ⟨rfl, rfl⟩ (by decide +kernel) ⟨Nat.le_of_ble_eq_true rfl, Nat.le_of_ble_eq_true rfl⟩ (show 10 < 39 by decide) (gC_10 Z _) rfl rfl rfl (Nat.le_of_ble_eq_true rfl) dX6_readWitness_34 ?_
    refine rw_istore_n F dX6_readWitness_37 rfl (by decide) rfl ?_
    refine rw_aload_n F dX6_readWitness_38 rfl 2 rfl ?_
    refine rw_iconst F (v := 2) dX6_readWitness_39 (by decide) ?_
    obtain ⟨q6, hq5, hf⟩ := bind_h hf
    refine rw_callVI F (k0 := 10) (nA := 1) (c_X6_readNumber_10 (aL a) Z _ _ _ hq5) gX6_readWitness_X6_readNumber rfl ⟨rfl, rfl⟩ (by decide +kernel) ⟨Nat.le_of_ble_eq_true rfl, Nat.le_of_ble_eq_true rfl⟩ (show 10 < 39 by decide) (gC_10 Z _) rfl rfl rfl (Nat.le_of_ble_eq_true rfl) dX6_readWitness_40 ?_
    refine rw_istore F dX6_readWitness_43 (by decide) rfl ?_
    refine rw_aload_n F dX6_readWitness_45 rfl 3 rfl ?_
    refine rw_get F 10 (show 10 < 39 by decide) (gC_10 Z _) iw_X6_readWitness_X6 rfl 1 (by decide) lk_X6_readWitness_12 rfl dX6_readWitness_46 ?_
    refine rw_iload_n F dX6_readWitness_49 rfl 2 rfl ?_
    refine rw_iload_n F dX6_readWitness_50 rfl 1 rfl ?_
    refine rw_iload F dX6_readWitness_51 0 rfl ?_
    obtain ⟨q8, hq7, hf⟩ := bind_h hf
    refine rw_callVV F (k0 := 11) (nA := 3) (c_X5_addWitness_11 (aL a) Z _ _ _ _ _ hq7) gX6_readWitness_X5_addWitness rfl ⟨rfl, rfl⟩ (by decide +kernel) ⟨Nat.le_of_ble_eq_true rfl, Nat.le_of_ble_eq_true rfl⟩ (show 11 < 39 by decide) (gC_11 Z _) rfl rfl rfl (Nat.le_of_ble_eq_true rfl) dX6_readWitness_53 ?_
    refine rw_aload_n F dX6_readWitness_56 rfl 3 rfl ?_
    obtain ⟨q10, hq9, hf⟩ := bind_h hf
    refine rw_callVV F (k0 := 10) (nA := 0) (c_X6_readEnd_10 (aL a) Z  _ _ hq9) gX6_readWitness_X6_readEnd rfl ⟨rfl, rfl⟩ (by decide +kernel) ⟨Nat.le_of_ble_eq_true rfl, Nat.le_of_ble_eq_true rfl⟩ (show 10 < 39 by decide) (gC_10 Z _) rfl rfl rfl (Nat.le_of_ble_eq_true rfl) dX6_readWitness_57 ?_
    exact rw_vret F hf rfl dX6_readWitness_60
  · refine rw_aload_n F dX6_readWitness_12 rfl 0 rfl ?_
    refine rw_iconst F (v := 3) dX6_readWitness_13 (by decide) ?_
    refine rw_iload_n F dX6_readWitness_14 rfl 1 rfl ?_
    obtain ⟨q12, hq11, hf⟩ := bind_h hf
    refine rw_callVV F (k0 := 10) (nA := 2) (c_X6_fail_10 (aL a) Z _ _ _ _ hq11) gX6_readWitness_X6_fail rfl ⟨rfl, rfl⟩ (by decide +kernel) ⟨Nat.le_of_ble_eq_true rfl, Nat.le_of_ble_eq_true rfl⟩ (show 10 < 39 by decide) (gC_10 Z _) rfl rfl rfl (Nat.le_of_ble_eq_true rfl) dX6_readWitness_15 ?_
    exact rw_vret F hf rfl dX6_readWitness_18

