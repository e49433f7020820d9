abbrev rm_X12_hears : Room := { frames := 1, cells := 0, slots := 0, locals := 27 }
abbrev FX_X12_hears (a : Ax) (Z : Zx) (A : Nat → Prop) : Prop := FX a (XM Z) A cX12_hears RX12 wsX12_hears 4 (some .boolean) rm_X12_hears
theorem iw_X12_hears_X12 : ∀ w ∈ wsX120, w ∈ wsX12_hears := by decide +kernel
theorem lk_X12_hears_16 : Cond.fieldLink RX12 16 (TX12 5).1 (TX12 5).2.1 (TX12 5).2.2.1 ∈ wsX12_hears := by decide +kernel
theorem lk_X12_hears_22 : Cond.fieldLink RX12 22 (TX12 7).1 (TX12 7).2.1 (TX12 7).2.2.1 ∈ wsX12_hears := by decide +kernel
set_option maxHeartbeats 4000000 in
set_option maxRecDepth 100000 in
theorem c_X12_hears (l : Launch) (Z : Zx) (p1 : Int32) (p2 : Int32) (p3 : Int32) (f : Nat → Nat → Int32) (r : Int32) (hf : f_X12_hears p1 p2 p3 f = some r) : MS l (XM Z) yX12_hears wsX12_hears rm_X12_hears [.ref (Z.2.1 0), .int p1, .int p2, .int p3] f (PI r f) := by
  refine MS.of (cc := cX12_hears) (maxL := 4) (ret := (some .boolean)) (own := RX12) (lv := [(0, .ref (Z.2.1 0)), (1, .int p1), (2, .int p2), (3, .int p3)]) (by decide) rfl rfl (Nat.le_of_ble_eq_true rfl) rfl ?_
  intro a A hla F
  subst hla
  unfold f_X12_hears at hf
  refine rw_aload_n F dX12_hears_0 rfl 0 rfl ?_
  refine rw_iload_n F dX12_hears_1 rfl 2 rfl ?_
  refine rw_iload_n F dX12_hears_2 rfl 3 rfl ?_
  refine rw_aload_n F dX12_hears_3 rfl 0 rfl ?_
  refine rw_get F 0 (show 0 < 20 by decide) (gM_0 Z _) iw_X12_hears_X12 rfl 7 (by decide) lk_X12_hears_22 rfl dX12_hears_4 ?_
  refine rw_bipush F (v := 9) dX12_hears_7 (by decide) ?_
  refine rw_iload_n F dX12_hears_9 rfl 1 rfl ?_
  refine rw_iadd F dX12_hears_10 ?_
  obtain ⟨hi1, hf⟩ := ck_h hf
  refine rw_iald F 5 (show 5 < 20 by decide) (gM_5 Z _) 0 rfl hi1 dX12_hears_11 ?_
  obtain ⟨q3, hq2, hf⟩ := bind_h hf
  refine rw_callVI F (k0 := 0) (nA := 3) (c_X12_loudAt (aL a) Z _ _ _ _ _ hq2) gX12_hears_X12_loudAt rfl ⟨rfl, rfl⟩ (by decide +kernel) ⟨Nat.le_of_ble_eq_true rfl, Nat.le_of_ble_eq_true rfl⟩ (show 0 < 20 by decide) (gM_0 Z _) rfl rfl rfl (Nat.le_of_ble_eq_true rfl) dX12_hears_12 ?_
  refine rw_aload_n F dX12_hears_15 rfl 0 rfl ?_
  refine rw_get F 0 (show 0 < 20 by decide) (gM_0 Z _) iw_X12_hears_X12 rfl 5 (by decide) lk_X12_hears_16 rfl dX12_hears_16 ?_
  refine rw_iload_n F dX12_hears_19 rfl 1 rfl ?_
  obtain ⟨hi4, hf⟩ := ck_h hf
  refine rw_iald F 3 (show 3 < 20 by decide) (gM_3 Z _) 0 rfl hi4 dX12_hears_20 ?_
  refine rw_icmp_lt F (tgt := 28) hf dX12_hears_21 (by decide) (fun hc5 hf => ?_) (fun hc5 hf => ?_)
  · refine rw_iconst F (v := 0) dX12_hears_28 (by decide) ?_
    exact rw_zretZ F (by decide) hf rfl dX12_hears_29
  · refine rw_iconst F (v := 1) dX12_hears_24 (by decide) ?_
    refine rw_goto F (tgt := 29) dX12_hears_25 (by decide) ?_
    exact rw_zretZ F (by decide) hf rfl dX12_hears_29

abbrev rm_X12_hearsTone : Room := { frames := 1, cells := 0, slots := 0, locals := 27 }
abbrev FX_X12_hearsTone (a : Ax) (Z : Zx) (A : Nat → Prop) : Prop := FX a (XM Z) A cX12_hearsTone RX12 wsX12_hearsTone 4 (some .boolean) rm_X12_hearsTone
theorem iw_X12_hearsTone_X12 : ∀ w ∈ wsX120, w ∈ wsX12_hearsTone := by decide +kernel
theorem lk_X12_hearsTone_16 : Cond.fieldLink RX12 16 (TX12 5).1 (TX12 5).2.1 (TX12 5).2.2.1 ∈ wsX12_hearsTone := by decide +kernel
theorem lk_X12_hearsTone_22 : Cond.fieldLink RX12 22 (TX12 7).1 (TX12 7).2.1 (TX12 7).2.2.1 ∈ wsX12_hearsTone := by decide +kernel
set_option maxHeartbeats 4000000 in
set_option maxRecDepth 100000 in
theorem c_X12_hearsTone (l : Launch) (Z : Zx) (p1 : Int32) (p2 : Int32) (p3 : Int32) (f : Nat → Nat → Int32) (r : Int32) (hf : f_X12_hearsTone p1 p2 p3 f = some r) : MS l (XM Z) yX12_hearsTone wsX12_hearsTone rm_X12_hearsTone [.ref (Z.2.1 0), .int p1, .int p2, .int p3] f (PI r f) := by
  refine MS.of (cc := cX12_hearsTone) (maxL := 4) (ret := (some .boolean)) (own := RX12) (lv := [(0, .ref (Z.2.1 0)), (1, .int p1), (2, .int p2), (3, .int p3)]) (by decide) rfl rfl (Nat.le_of_ble_eq_true rfl) rfl ?_
  intro a A hla F
  subst hla
  unfold f_X12_hearsTone at hf
  refine rw_aload_n F dX12_hearsTone_0 rfl 0 rfl ?_
  refine rw_iload_n F dX12_hearsTone_1 rfl 2 rfl ?_
  refine rw_iload_n F dX12_hearsTone_2 rfl 3 rfl ?_
  refine rw_aload_n F dX12_hearsTone_3 rfl 0 rfl ?_
  refine rw_get F 0 (show 0 < 20 by decide) (gM_0 Z _) iw_X12_hearsTone_X12 rfl 7 (by decide) lk_X12_hearsTone_22 rfl dX12_hearsTone_4 ?_
  refine rw_bipush F (v := 9) dX12_hearsTone_7 (by decide) ?_
  refine rw_iload_n F dX12_hearsTone_9 rfl 1 rfl ?_
  refine rw_iadd F dX12_hearsTone_10 ?_
  obtain ⟨hi1, hf⟩ := ck_h hf
  refine rw_iald F 5 (show 5 < 20 by decide) (gM_5 Z _) 0 rfl hi1 dX12_hearsTone_11 ?_
  obtain ⟨q3, hq2, hf⟩ := bind_h hf
  refine rw_callVI F (k0 := 0) (nA := 3) (c_X12_loudAt (aL a) Z _ _ _ _ _ hq2) gX12_hearsTone_X12_loudAt rfl ⟨rfl, rfl⟩ (by decide +kernel) ⟨Nat.le_of_ble_eq_true rfl, Nat.le_of_ble_eq_true rfl⟩ (show 0 < 20 by decide) (gM_0 Z _) rfl rfl rfl (Nat.le_of_ble_eq_true rfl) dX12_hearsTone_12 ?_
  refine rw_aload_n F dX12_hearsTone_15 rfl 0 rfl ?_
  refine rw_get F 0 (show 0 < 20 by decide) (gM_0 Z _) iw_X12_hearsTone_X12 rfl 5 (by decide) lk_X12_hearsTone_16 rfl dX12_hearsTone_16 ?_
  refine rw_iload_n F dX12_hearsTone_19 rfl 1 rfl ?_
  obtain ⟨hi4, hf⟩ := ck_h hf
  refine rw_iald F 3 (show 3 < 20 by decide) (gM_3 Z _) 0 rfl hi4 dX12_hearsTone_20 ?_
  refine rw_iconst F (v := 5) dX12_hearsTone_21 (by decide) ?_
  refine rw_iadd F dX12_hearsTone_22 ?_
  refine rw_icmp_lt F (tgt := 30) hf dX12_hearsTone_23 (by decide) (fun hc5 hf => ?_) (fun hc5 hf => ?_)
  · refine rw_iconst F (v := 0) dX12_hearsTone_30 (by decide) ?_
    exact rw_zretZ F (by decide) hf rfl dX12_hearsTone_31
  · refine rw_iconst F (v := 1) dX12_hearsTone_26 (by decide) ?_
    refine rw_goto F (tgt := 31) dX12_hearsTone_27 (by decide) ?_
    exact rw_zretZ F (by decide) hf rfl dX12_hearsTone_31

abbrev rm_X12_widowers : Room := { frames := 0, cells := 0, slots := 0, locals := 0 }
abbrev FX_X12_widowers (a : Ax) (Z : Zx) (A : Nat → Prop) : Prop := FX a (XM Z) A cX12_widowers RX12 wsX12_widowers 1 (some .int) rm_X12_widowers
theorem iw_X12_widowers_X12 : ∀ w ∈ wsX120, w ∈ wsX12_widowers := by decide +kernel
theorem lk_X12_widowers_13 : Cond.fieldLink RX12 13 (TX12 3).1 (TX12 3).2.1 (TX12 3).2.2.1 ∈ wsX12_widowers := by decide +kernel
theorem lk_X12_widowers_86 : Cond.fieldLink RX12 86 (TX12 1).1 (TX12 1).2.1 (TX12 1).2.2.1 ∈ wsX12_widowers := by decide +kernel
set_option maxHeartbeats 4000000 in
set_option maxRecDepth 100000 in
theorem c_X12_widowers (l : Launch) (Z : Zx) (f : Nat → Nat → Int32) (r : Int32) (hf : f_X12_widowers f = some r) : MS l (XM Z) yX12_widowers wsX12_widowers rm_X12_widowers [.ref (Z.2.1 0)] f (PI r f) := by
  refine MS.of (cc := cX12_widowers) (maxL := 1) (ret := (some .int)) (own := RX12) (lv := [(0, .ref (Z.2.1 0))]) (by decide) rfl rfl (Nat.le_of_ble_eq_true rfl) rfl ?_
  intro a A hla F
  subst hla
  unfold f_X12_widowers at hf
  refine rw_aload_n F dX12_widowers_0 rfl 0 rfl ?_
  refine rw_get F 0 (show 0 < 20 by decide) (gM_0 Z _) iw_X12_widowers_X12 rfl 1 (by decide) lk_X12_widowers_86 rfl dX12_widowers_1 ?_
  refine rw_if_ne F (tgt := 11) hf dX12_widowers_4 (by decide) (fun hc2 hf => ?_) (fun hc2 hf => ?_)
  · refine rw_iconst F (v := 2) dX12_widowers_11 (by decide) ?_
    refine rw_aload_n F dX12_widowers_12 rfl 0 rfl ?_
    refine rw_get F 0 (show 0 < 20 by decide) (gM_0 Z _) iw_X12_widowers_X12 rfl 3 (by decide) lk_X12_widowers_13 rfl dX12_widowers_13 ?_
    refine rw_iconst F (v := 0) dX12_widowers_16 (by decide) ?_
    obtain ⟨hi1, hf⟩ := ck_h hf
    refine rw_iald F 2 (show 2 < 20 by decide) (gM_2 Z _) 0 rfl hi1 dX12_widowers_17 ?_
    refine rw_iadd F dX12_widowers_18 ?_
    exact rw_iret F hf rfl dX12_widowers_19
  · refine rw_iconst F (v := 0) dX12_widowers_7 (by decide) ?_
    refine rw_goto F (tgt := 19) dX12_widowers_8 (by decide) ?_
    exact rw_iret F hf rfl dX12_widowers_19

abbrev rm_X12_sayingOf : Room := { frames := 2, cells := 0, slots := 0, locals := 50 }
abbrev FX_X12_sayingOf (a : Ax) (Z : Zx) (A : Nat → Prop) : Prop := FX a (XM Z) A cX12_sayingOf RX12 wsX12_sayingOf 4 (some .int) rm_X12_sayingOf
theorem iw_X12_sayingOf_X12 : ∀ w ∈ wsX120, w ∈ wsX12_sayingOf := by decide +kernel
theorem lk_X12_sayingOf_13 : Cond.fieldLink RX12 13 (TX12 3).1 (TX12 3).2.1 (TX12 3).2.2.1 ∈ wsX12_sayingOf := by decide +kernel
theorem lk_X12_sayingOf_19 : Cond.fieldLink RX12 19 (TX12 6).1 (TX12 6).2.1 (TX12 6).2.2.1 ∈ wsX12_sayingOf := by decide +kernel
set_option maxHeartbeats 4000000 in
set_option maxRecDepth 100000 in
theorem c_X12_sayingOf (l : Launch) (Z : Zx) (p1 : Int32) (p2 : Int32) (p3 : Int32) (f : Nat → Nat → Int32) (r : Int32) (hf : f_X12_sayingOf p1 p2 p3 f = some r) : MS l (XM Z) yX12_sayingOf wsX12_sayingOf rm_X12_sayingOf [.ref (Z.2.1 0), .int p1, .int p2, .int p3] f (PI r f) := by
  refine MS.of (cc := cX12_sayingOf) (maxL := 4) (ret := (some .int)) (own := RX12) (lv := [(0, .ref (Z.2.1 0)), (1, .int p1), (2, .int p2), (3, .int p3)]) (by decide) rfl rfl (Nat.le_of_ble_eq_true rfl) rfl ?_
  intro a A hla F
  subst hla
  unfold f_X12_sayingOf at hf
  refine rw_aload_n F dX12_sayingOf_0 rfl 0 rfl ?_
  refine rw_get F 0 (show 0 < 20 by decide) (gM_0 Z _) iw_X12_sayingOf_X12 rfl 6 (by decide) lk_X12_sayingOf_19 rfl dX12_sayingOf_1 ?_
  refine rw_iload_n F dX12_sayingOf_4 rfl 1 rfl ?_
  obtain ⟨hi1, hf⟩ := ck_h hf
  refine rw_iald F 4 (show 4 < 20 by decide) (gM_4 Z _) 0 rfl hi1 dX12_sayingOf_5 ?_
  refine rw_if_eq F (tgt := 28) hf dX12_sayingOf_6 (by decide) (fun hc13 hf => ?_) (fun hc13 hf => ?_)
  · refine rw_aload_n F dX12_sayingOf_28 rfl 0 rfl ?_
    refine rw_iload_n F dX12_sayingOf_29 rfl 1 rfl ?_
    refine rw_iload_n F dX12_sayingOf_30 rfl 2 rfl ?_
    refine rw_iload_n F dX12_sayingOf_31 rfl 3 rfl ?_
    obtain ⟨q3, hq2, hf⟩ := bind_h hf
    refine rw_callVI F (k0 := 0) (nA := 3) (c_X12_hearsTone (aL a) Z _ _ _ _ _ hq2) gX12_sayingOf_X12_hearsTone rfl ⟨rfl, rfl⟩ (by decide +kernel) ⟨Nat.le_of_ble_eq_true rfl, Nat.le_of_ble_eq_true rfl⟩ (show 0 < 20 by decide) (gM_0 Z _) rfl rfl rfl (Nat.le_of_ble_eq_true rfl) dX12_sayingOf_32 ?_
    refine rw_if_eq F (tgt := 49) hf dX12_sayingOf_35 (by decide) (fun hc8 hf => ?_) (fun hc8 hf => ?_)
    · refine rw_aload_n F dX12_sayingOf_49 rfl 0 rfl ?_
      refine rw_iload_n F dX12_sayingOf_50 rfl 1 rfl ?_
      refine rw_iload_n F dX12_sayingOf_51 rfl 2 rfl ?_
      refine rw_iload_n F dX12_sayingOf_52 rfl 3 rfl ?_
      obtain ⟨q5, hq4, hf⟩ := bind_h hf
      refine rw_callVI F (k0 := 0) (nA := 3) (c_X12_hears (aL a) Z _ _ _ _ _ hq4) gX12_sayingOf_X12_hears rfl ⟨rfl, rfl⟩ (by decide +kernel) ⟨Nat.le_of_ble_eq_true rfl, Nat.le_of_ble_eq_true rfl⟩ (show 0 < 20 by decide) (gM_0 Z _) rfl rfl rfl (Nat.le_of_ble_eq_true rfl) dX12_sayingOf_53 ?_
      refine rw_if_eq F (tgt := 63) hf dX12_sayingOf_56 (by decide) (fun hc6 hf => ?_) (fun hc6 hf => ?_)
      · refine rw_iconst F (v := 0) dX12_sayingOf_63 (by decide) ?_
        exact rw_iret F hf rfl dX12_sayingOf_64
      · refine rw_iconst F (v := 1) dX12_sayingOf_59 (by decide) ?_
        refine rw_goto F (tgt := 64) dX12_sayingOf_60 (by decide) ?_
        exact rw_iret F hf rfl dX12_sayingOf_64
    · refine rw_iconst F (v := 2) dX12_sayingOf_38 (by decide) ?_
      refine rw_aload_n F dX12_sayingOf_39 rfl 0 rfl ?_
      refine rw_get F 0 (show 0 < 20 by decide) (gM_0 Z _) iw_X12_sayingOf_X12 rfl 3 (by decide) lk_X12_sayingOf_13 rfl dX12_sayingOf_40 ?_
      refine rw_iload_n F dX12_sayingOf_43 rfl 2 rfl ?_
      obtain ⟨hi7, hf⟩ := ck_h hf
      refine rw_iald F 2 (show 2 < 20 by decide) (gM_2 Z _) 0 rfl hi7 dX12_sayingOf_44 ?_
      refine rw_iadd F dX12_sayingOf_45 ?_
      refine rw_goto F (tgt := 64) dX12_sayingOf_46 (by decide) ?_
      exact rw_iret F hf rfl dX12_sayingOf_64
  · refine rw_aload_n F dX12_sayingOf_9 rfl 0 rfl ?_
    refine rw_get F 0 (show 0 < 20 by decide) (gM_0 Z _) iw_X12_sayingOf_X12 rfl 6 (by decide) lk_X12_sayingOf_19 rfl dX12_sayingOf_10 ?_
    refine rw_iload_n F dX12_sayingOf_13 rfl 1 rfl ?_
    obtain ⟨hi9, hf⟩ := ck_h hf
    refine rw_iald F 4 (show 4 < 20 by decide) (gM_4 Z _) 0 rfl hi9 dX12_sayingOf_14 ?_
    refine rw_iconst F (v := 1) dX12_sayingOf_15 (by decide) ?_
    refine rw_icmp_ne F (tgt := 26) hf dX12_sayingOf_16 (by decide) (fun hc12 hf => ?_) (fun hc12 hf => ?_)
    · refine rw_iconst F (v := 0) dX12_sayingOf_26 (by decide) ?_
      exact rw_iret F hf rfl dX12_sayingOf_27
    · refine rw_aload_n F dX12_sayingOf_19 rfl 0 rfl ?_
      obtain ⟨q11, hq10, hf⟩ := bind_h hf
      refine rw_callVI F (k0 := 0) (nA := 0) (c_X12_widowers (aL a) Z  _ _ hq10) gX12_sayingOf_X12_widowers rfl ⟨rfl, rfl⟩ (by decide +kernel) ⟨Nat.le_of_ble_eq_true rfl, Nat.le_of_ble_eq_true rfl⟩ (show 0 < 20 by decide) (gM_0 Z _) rfl rfl rfl (Nat.le_of_ble_eq_true rfl) dX12_sayingOf_20 ?_
      refine rw_goto F (tgt := 27) dX12_sayingOf_23 (by decide) ?_
      exact rw_iret F hf rfl dX12_sayingOf_27

abbrev rm_X12_remember : Room := { frames := 0, cells := 0, slots := 0, locals := 0 }
abbrev FX_X12_remember (a : Ax) (Z : Zx) (A : Nat → Prop) : Prop := FX a (XM Z) A cX12_remember RX12 wsX12_remember 2 none rm_X12_remember
theorem iw_X12_remember_X12 : ∀ w ∈ wsX120, w ∈ wsX12_remember := by decide +kernel
theorem lk_X12_remember_22 : Cond.fieldLink RX12 22 (TX12 7).1 (TX12 7).2.1 (TX12 7).2.2.1 ∈ wsX12_remember := by decide +kernel
theorem lk_X12_remember_50 : Cond.fieldLink RX12 50 (TX12 26).1 (TX12 26).2.1 (TX12 26).2.2.1 ∈ wsX12_remember := by decide +kernel
theorem lk_X12_remember_162 : Cond.fieldLink RX12 162 (TX12 25).1 (TX12 25).2.1 (TX12 25).2.2.1 ∈ wsX12_remember := by decide +kernel
set_option maxHeartbeats 4000000 in
set_option maxRecDepth 100000 in
theorem b_X12_remember_b52 {a : Ax} {Z : Zx} {A : Nat → Prop} {r : Nat → Nat → Int32} (F : FX_X12_remember a Z A) : ∀ (n : Nat) (i1 : Int32) (f : Nat → Nat → Int32), f_X12_remember_b52 n i1 f = some r → WS a (XM Z) A 2 (RP a (XM Z) A (PV r)) 52 [(0, .ref (Z.2.1 0)), (1, .int i1)] [] f := by
  intro n
  induction n with
  | zero => intro i1 f hf; exact nomatch (show (none : Option (Nat → Nat → Int32)) = some r from hf)
  | succ n hK52 =>
    intro i1 f hf
    replace hf : f_X12_remember_b52s (f_X12_remember_b52 n) i1 f = some r := hf
    unfold f_X12_remember_b52s at hf
    refine rw_iload_n F dX12_remember_52 rfl 1 rfl ?_
    refine rw_bipush F (v := 28) dX12_remember_53 (by decide) ?_
    refine rw_icmp_ge F (tgt := 84) hf dX12_remember_55 (by decide) (fun hc3 hf => ?_) (fun hc3 hf => ?_)
    · refine rw_aload_n F dX12_remember_84 rfl 0 rfl ?_
      refine rw_dup F dX12_remember_85 rfl ?_
      refine rw_get F 0 (show 0 < 20 by decide) (gM_0 Z _) iw_X12_remember_X12 rfl 25 (by decide) lk_X12_remember_162 rfl dX12_remember_86 ?_
      refine rw_iconst F (v := 1) dX12_remember_89 (by decide) ?_
      refine rw_iadd F dX12_remember_90 ?_
      refine rw_put F 0 (show 0 < 20 by decide) (gM_0 Z) iw_X12_remember_X12 tyX12 tyX12_ok nmX12 rfl 25 (by decide) lk_X12_remember_162 rfl rfl rfl (fun _ => by rw [lnM0]; decide) (stM0_25 Z.2.1) dX12_remember_91 ?_
      exact rw_vret F hf rfl dX12_remember_94
    · refine rw_aload_n F dX12_remember_58 rfl 0 rfl ?_
      refine rw_get F 0 (show 0 < 20 by decide) (gM_0 Z _) iw_X12_remember_X12 rfl 26 (by decide) lk_X12_remember_50 rfl dX12_remember_59 ?_
      refine rw_bipush F (v := 28) dX12_remember_62 (by decide) ?_
      refine rw_aload_n F dX12_remember_64 rfl 0 rfl ?_
      refine rw_get F 0 (show 0 < 20 by decide) (gM_0 Z _) iw_X12_remember_X12 rfl 25 (by decide) lk_X12_remember_162 rfl dX12_remember_65 ?_
      refine rw_imul F dX12_remember_68 ?_
      refine rw_iload_n F dX12_remember_69 rfl 1 rfl ?_
      refine rw_iadd F dX12_remember_70 ?_
      refine rw_aload_n F dX12_remember_71 rfl 0 rfl ?_
      refine rw_get F 0 (show 0 < 20 by decide) (gM_0 Z _) iw_X12_remember_X12 rfl 7 (by decide) lk_X12_remember_22 rfl dX12_remember_72 ?_
      refine rw_iload_n F dX12_remember_75 rfl 1 rfl ?_
      obtain ⟨hi1, hf⟩ := ck_h hf
      refine rw_iald F 5 (show 5 < 20 by decide) (gM_5 Z _) 0 rfl hi1 dX12_remember_76 ?_
      obtain ⟨hi2, hf⟩ := ck_h hf
      refine rw_iast F 13 (show 13 < 20 by decide) (gM_13 Z) 0 rfl hi2 dX12_remember_77 ?_
      refine rw_iinc F (v := 1) dX12_remember_78 1 rfl (by decide) (by decide) rfl ?_
      refine rw_goto F (tgt := 52) dX12_remember_81 (by decide) ?_
      exact WS.sub [1, 0] rfl (hK52 _ _ hf)

set_option maxHeartbeats 4000000 in
set_option maxRecDepth 100000 in
theorem b_X12_remember_b50 {a : Ax} {Z : Zx} {A : Nat → Prop} {r : Nat → Nat → Int32} (F : FX_X12_remember a Z A) : ∀ (f : Nat → Nat → Int32), f_X12_remember_b50  f = some r → WS a (XM Z) A 2 (RP a (XM Z) A (PV r)) 50 [(0, .ref (Z.2.1 0))] [] f := by
  intro  f hf
  unfold f_X12_remember_b50 at hf
  refine rw_iconst F (v := 0) dX12_remember_50 (by decide) ?_
  refine rw_istore_n F dX12_remember_51 rfl (by decide) rfl ?_
  exact WS.sub [1, 0] rfl (b_X12_remember_b52 F  fuB _ _ hf)

set_option maxHeartbeats 4000000 in
set_option maxRecDepth 100000 in
theorem b_X12_remember_b12 {a : Ax} {Z : Zx} {A : Nat → Prop} {r : Nat → Nat → Int32} (F : FX_X12_remember a Z A) : ∀ (n : Nat) (i1 : Int32) (f : Nat → Nat → Int32), f_X12_remember_b12 n i1 f = some r → WS a (XM Z) A 2 (RP a (XM Z) A (PV r)) 12 [(0, .ref (Z.2.1 0)), (1, .int i1)] [] f := by
  intro n
  induction n with
  | zero => intro i1 f hf; exact nomatch (show (none : Option (Nat → Nat → Int32)) = some r from hf)
  | succ n hK12 =>
    intro i1 f hf
    replace hf : f_X12_remember_b12s (f_X12_remember_b12 n) i1 f = some r := hf
    unfold f_X12_remember_b12s at hf
    refine rw_iload_n F dX12_remember_12 rfl 1 rfl ?_
    refine rw_sipush F (v := 560) dX12_remember_13 (by decide) ?_
    refine rw_icmp_ge F (tgt := 40) hf dX12_remember_16 (by decide) (fun hc6 hf => ?_) (fun hc6 hf => ?_)
    · refine rw_aload_n F dX12_remember_40 rfl 0 rfl ?_
      refine rw_dup F dX12_remember_41 rfl ?_
      refine rw_get F 0 (show 0 < 20 by decide) (gM_0 Z _) iw_X12_remember_X12 rfl 25 (by decide) lk_X12_remember_162 rfl dX12_remember_42 ?_
      refine rw_iconst F (v := 1) dX12_remember_45 (by decide) ?_
      refine rw_isub F dX12_remember_46 ?_
      refine rw_put F 0 (show 0 < 20 by decide) (gM_0 Z) iw_X12_remember_X12 tyX12 tyX12_ok nmX12 rfl 25 (by decide) lk_X12_remember_162 rfl rfl rfl (fun _ => by rw [lnM0]; decide) (stM0_25 Z.2.1) dX12_remember_47 ?_
      exact WS.sub [0] rfl (b_X12_remember_b50 F  _ hf)
    · refine rw_aload_n F dX12_remember_19 rfl 0 rfl ?_
      refine rw_get F 0 (show 0 < 20 by decide) (gM_0 Z _) iw_X12_remember_X12 rfl 26 (by decide) lk_X12_remember_50 rfl dX12_remember_20 ?_
      refine rw_iload_n F dX12_remember_23 rfl 1 rfl ?_
      refine rw_bipush F (v := 28) dX12_remember_24 (by decide) ?_
      refine rw_isub F dX12_remember_26 ?_
      refine rw_aload_n F dX12_remember_27 rfl 0 rfl ?_
      refine rw_get F 0 (show 0 < 20 by decide) (gM_0 Z _) iw_X12_remember_X12 rfl 26 (by decide) lk_X12_remember_50 rfl dX12_remember_28 ?_
      refine rw_iload_n F dX12_remember_31 rfl 1 rfl ?_
      obtain ⟨hi4, hf⟩ := ck_h hf
      refine rw_iald F 13 (show 13 < 20 by decide) (gM_13 Z _) 0 rfl hi4 dX12_remember_32 ?_
      obtain ⟨hi5, hf⟩ := ck_h hf
      refine rw_iast F 13 (show 13 < 20 by decide) (gM_13 Z) 0 rfl hi5 dX12_remember_33 ?_
      refine rw_iinc F (v := 1) dX12_remember_34 1 rfl (by decide) (by decide) rfl ?_
      refine rw_goto F (tgt := 12) dX12_remember_37 (by decide) ?_
      exact WS.sub [1, 0] rfl (hK12 _ _ hf)

set_option maxHeartbeats 4000000 in
set_option maxRecDepth 100000 in
theorem c_X12_remember (l : Launch) (Z : Zx) (f : Nat → Nat → Int32) (r : Nat → Nat → Int32) (hf : f_X12_remember f = some r) : MS l (XM Z) yX12_remember wsX12_remember rm_X12_remember [.ref (Z.2.1 0)] f (PV r) := by
  refine MS.of (cc := cX12_remember) (maxL := 2) (ret := none) (own := RX12) (lv := [(0, .ref (Z.2.1 0))]) (by decide) rfl rfl (Nat.le_of_ble_eq_true rfl) rfl ?_
  intro a A hla F
  subst hla
  unfold f_X12_remember at hf
  refine rw_aload_n F dX12_remember_0 rfl 0 rfl ?_
  refine rw_get F 0 (show 0 < 20 by decide) (gM_0 Z _) iw_X12_remember_X12 rfl 25 (by decide) lk_X12_remember_162 rfl dX12_remember_1 ?_
  refine rw_bipush F (v := 20) dX12_remember_4 (by decide) ?_
  refine rw_icmp_ne F (tgt := 50) hf dX12_remember_6 (by decide) (fun hc7 hf => ?_) (fun hc7 hf => ?_)
  · exact WS.sub [0] rfl (b_X12_remember_b50 F  _ hf)
  · refine rw_bipush F (v := 28) dX12_remember_9 (by decide) ?_
    refine rw_istore_n F dX12_remember_11 rfl (by decide) rfl ?_
    exact WS.sub [1, 0] rfl (b_X12_remember_b12 F  fuB _ _ hf)

abbrev rm_X12_morningOf : Room := { frames := 3, cells := 0, slots := 0, locals := 73 }
abbrev FX_X12_morningOf (a : Ax) (Z : Zx) (A : Nat → Prop) : Prop := FX a (XM Z) A cX12_morningOf RX12 wsX12_morningOf 4 none rm_X12_morningOf
theorem iw_X12_morningOf_X12 : ∀ w ∈ wsX120, w ∈ wsX12_morningOf := by decide +kernel
theorem lk_X12_morningOf_22 : Cond.fieldLink RX12 22 (TX12 7).1 (TX12 7).2.1 (TX12 7).2.2.1 ∈ wsX12_morningOf := by decide +kernel
theorem lk_X12_morningOf_89 : Cond.fieldLink RX12 89 (TX12 4).1 (TX12 4).2.1 (TX12 4).2.2.1 ∈ wsX12_morningOf := by decide +kernel
set_option maxHeartbeats 4000000 in
set_option maxRecDepth 100000 in
theorem b_X12_morningOf_b105 {a : Ax} {Z : Zx} {A : Nat → Prop} {r : Nat → Nat → Int32} (F : FX_X12_morningOf a Z A) (K45 : Int32 → Int32 → Int32 → (Nat → Nat → Int32) → Option (Nat → Nat → Int32)) (hK45 : ∀ (i1 : Int32) (i2 : Int32) (i3 : Int32) (f : Nat → Nat → Int32), K45 i1 i2 i3 f = some r → WS a (XM Z) A 4 (RP a (XM Z) A (PV r)) 45 [(0, .ref (Z.2.1 0)), (1, .int i1), (2, .int i2), (3, .int i3)] [] f) : ∀ (i1 : Int32) (i2 : Int32) (i3 : Int32) (s1 : Int32) (s2 : Int32) (s3 : Int32) (f : Nat → Nat → Int32), f_X12_morningOf_b105 K45 i1 i2 i3 s1 s2 s3 f = some r → WS a (XM Z) A 4 (RP a (XM Z) A (PV r)) 105 [(0, .ref (Z.2.1 0)), (1, .int i1), (2, .int i2), (3, .int i3)] [.int s3, .int s2, .int s1, .ref (Z.2.1 5)] f := by
  intro i1 i2 i3 s1 s2 s3 f hf
  unfold f_X12_morningOf_b105 at hf
  refine rw_ior F dX12_morningOf_105 ?_
  obtain ⟨hi14, hf⟩ := ck_h hf
  refine rw_iast F 5 (show 5 < 20 by decide) (gM_5 Z) 0 rfl hi14 dX12_morningOf_106 ?_
  refine rw_aload_n F dX12_morningOf_107 rfl 0 rfl ?_
  refine rw_get F 0 (show 0 < 20 by decide) (gM_0 Z _) iw_X12_morningOf_X12 rfl 7 (by decide) lk_X12_morningOf_22 rfl dX12_morningOf_108 ?_
  refine rw_bipush F (v := 21) dX12_morningOf_111 (by decide) ?_
  refine rw_iload_n F dX12_morningOf_113 rfl 3 rfl ?_
  refine rw_iadd F dX12_morningOf_114 ?_
  refine rw_aload_n F dX12_morningOf_115 rfl 0 rfl ?_
  refine rw_iload_n F dX12_morningOf_116 rfl 3 rfl ?_
  refine rw_iload_n F dX12_morningOf_117 rfl 1 rfl ?_
  refine rw_iload_n F dX12_morningOf_118 rfl 2 rfl ?_
  obtain ⟨q16, hq15, hf⟩ := bind_h hf
  refine rw_callVI F (k0 := 0) (nA := 3) (c_X12_sayingOf (aL a) Z _ _ _ _ _ hq15) gX12_morningOf_X12_sayingOf rfl ⟨rfl, rfl⟩ (by decide +kernel) ⟨Nat.le_of_ble_eq_true rfl, Nat.le_of_ble_eq_true rfl⟩ (show 0 < 20 by decide) (gM_0 Z _) rfl rfl rfl (Nat.le_of_ble_eq_true rfl) dX12_morningOf_119 ?_
  obtain ⟨hi17, hf⟩ := ck_h hf
  refine rw_iast F 5 (show 5 < 20 by decide) (gM_5 Z) 0 rfl hi17 dX12_morningOf_122 ?_
  refine rw_iinc F (v := 1) dX12_morningOf_123 3 rfl (by decide) (by decide) rfl ?_
  refine rw_goto F (tgt := 45) dX12_morningOf_126 (by decide) ?_
  exact WS.sub [1, 2, 3, 0] rfl (hK45 _ _ _ _ hf)

set_option maxHeartbeats 4000000 in
set_option maxRecDepth 100000 in
theorem b_X12_morningOf_b78 {a : Ax} {Z : Zx} {A : Nat → Prop} {r : Nat → Nat → Int32} (F : FX_X12_morningOf a Z A) (K45 : Int32 → Int32 → Int32 → (Nat → Nat → Int32) → Option (Nat → Nat → Int32)) (hK45 : ∀ (i1 : Int32) (i2 : Int32) (i3 : Int32) (f : Nat → Nat → Int32), K45 i1 i2 i3 f = some r → WS a (XM Z) A 4 (RP a (XM Z) A (PV r)) 45 [(0, .ref (Z.2.1 0)), (1, .int i1), (2, .int i2), (3, .int i3)] [] f) : ∀ (i1 : Int32) (i2 : Int32) (i3 : Int32) (s1 : Int32) (s2 : Int32) (s3 : Int32) (f : Nat → Nat → Int32), f_X12_morningOf_b78 K45 i1 i2 i3 s1 s2 s3 f = some r → WS a (XM Z) A 4 (RP a (XM Z) A (PV r)) 78 [(0, .ref (Z.2.1 0)), (1, .int i1), (2, .int i2), (3, .int i3)] [.int s3, .int s2, .int s1, .ref (Z.2.1 5)] f := by
  intro i1 i2 i3 s1 s2 s3 f hf
  unfold f_X12_morningOf_b78 at hf
  refine rw_ior F dX12_morningOf_78 ?_
  obtain ⟨hi10, hf⟩ := ck_h hf
  refine rw_iast F 5 (show 5 < 20 by decide) (gM_5 Z) 0 rfl hi10 dX12_morningOf_79 ?_
  refine rw_aload_n F dX12_morningOf_80 rfl 0 rfl ?_
  refine rw_get F 0 (show 0 < 20 by decide) (gM_0 Z _) iw_X12_morningOf_X12 rfl 7 (by decide) lk_X12_morningOf_22 rfl dX12_morningOf_81 ?_
  refine rw_bipush F (v := 20) dX12_morningOf_84 (by decide) ?_
  refine rw_dup2 F dX12_morningOf_86 rfl rfl ?_
  obtain ⟨hi11, hf⟩ := ck_h hf
  refine rw_iald F 5 (show 5 < 20 by decide) (gM_5 Z _) 0 rfl hi11 dX12_morningOf_87 ?_
  refine rw_aload_n F dX12_morningOf_88 rfl 0 rfl ?_
  refine rw_iload_n F dX12_morningOf_89 rfl 3 rfl ?_
  refine rw_iload_n F dX12_morningOf_90 rfl 1 rfl ?_
  refine rw_iload_n F dX12_morningOf_91 rfl 2 rfl ?_
  obtain ⟨q13, hq12, hf⟩ := bind_h hf
  refine rw_callVI F (k0 := 0) (nA := 3) (c_X12_hearsTone (aL a) Z _ _ _ _ _ hq12) gX12_morningOf_X12_hearsTone rfl ⟨rfl, rfl⟩ (by decide +kernel) ⟨Nat.le_of_ble_eq_true rfl, Nat.le_of_ble_eq_true rfl⟩ (show 0 < 20 by decide) (gM_0 Z _) rfl rfl rfl (Nat.le_of_ble_eq_true rfl) dX12_morningOf_92 ?_
  refine rw_if_eq F (tgt := 104) hf dX12_morningOf_95 (by decide) (fun hc18 hf => ?_) (fun hc18 hf => ?_)
  · refine rw_iconst F (v := 0) dX12_morningOf_104 (by decide) ?_
    exact WS.sub [0, 1, 2, 3] rfl (b_X12_morningOf_b105 F _ hK45 _ _ _ _ _ _ _ hf)
  · refine rw_iconst F (v := 1) dX12_morningOf_98 (by decide) ?_
    refine rw_iload_n F dX12_morningOf_99 rfl 3 rfl ?_
    refine rw_ishl F dX12_morningOf_100 ?_
    refine rw_goto F (tgt := 105) dX12_morningOf_101 (by decide) ?_
    exact WS.sub [0, 1, 2, 3] rfl (b_X12_morningOf_b105 F _ hK45 _ _ _ _ _ _ _ hf)

set_option maxHeartbeats 4000000 in
set_option maxRecDepth 100000 in
theorem b_X12_morningOf_b45 {a : Ax} {Z : Zx} {A : Nat → Prop} {r : Nat → Nat → Int32} (F : FX_X12_morningOf a Z A) : ∀ (n : Nat) (i1 : Int32) (i2 : Int32) (i3 : Int32) (f : Nat → Nat → Int32), f_X12_morningOf_b45 n i1 i2 i3 f = some r → WS a (XM Z) A 4 (RP a (XM Z) A (PV r)) 45 [(0, .ref (Z.2.1 0)), (1, .int i1), (2, .int i2), (3, .int i3)] [] f := by
  intro n
  induction n with
  | zero => intro i1 i2 i3 f hf; exact nomatch (show (none : Option (Nat → Nat → Int32)) = some r from hf)
  | succ n hK45 =>
    intro i1 i2 i3 f hf
    replace hf : f_X12_morningOf_b45s (f_X12_morningOf_b45 n) i1 i2 i3 f = some r := hf
    unfold f_X12_morningOf_b45s at hf
    refine rw_iload_n F dX12_morningOf_45 rfl 3 rfl ?_
    refine rw_aload_n F dX12_morningOf_46 rfl 0 rfl ?_
    refine rw_get F 0 (show 0 < 20 by decide) (gM_0 Z _) iw_X12_morningOf_X12 rfl 4 (by decide) lk_X12_morningOf_89 rfl dX12_morningOf_47 ?_
    refine rw_icmp_ge F (tgt := 129) hf dX12_morningOf_50 (by decide) (fun hc20 hf => ?_) (fun hc20 hf => ?_)
    · exact rw_vret F hf rfl dX12_morningOf_129
    · refine rw_aload_n F dX12_morningOf_53 rfl 0 rfl ?_
      refine rw_get F 0 (show 0 < 20 by decide) (gM_0 Z _) iw_X12_morningOf_X12 rfl 7 (by decide) lk_X12_morningOf_22 rfl dX12_morningOf_54 ?_
      refine rw_bipush F (v := 19) dX12_morningOf_57 (by decide) ?_
      refine rw_dup2 F dX12_morningOf_59 rfl rfl ?_
      obtain ⟨hi7, hf⟩ := ck_h hf
      refine rw_iald F 5 (show 5 < 20 by decide) (gM_5 Z _) 0 rfl hi7 dX12_morningOf_60 ?_
      refine rw_aload_n F dX12_morningOf_61 rfl 0 rfl ?_
      refine rw_iload_n F dX12_morningOf_62 rfl 3 rfl ?_
      refine rw_iload_n F dX12_morningOf_63 rfl 1 rfl ?_
      refine rw_iload_n F dX12_morningOf_64 rfl 2 rfl ?_
      obtain ⟨q9, hq8, hf⟩ := bind_h hf
      refine rw_callVI F (k0 := 0) (nA := 3) (c_X12_hears (aL a) Z _ _ _ _ _ hq8) gX12_morningOf_X12_hears rfl ⟨rfl, rfl⟩ (by decide +kernel) ⟨Nat.le_of_ble_eq_true rfl, Nat.le_of_ble_eq_true rfl⟩ (show 0 < 20 by decide) (gM_0 Z _) rfl rfl rfl (Nat.le_of_ble_eq_true rfl) dX12_morningOf_65 ?_
      refine rw_if_eq F (tgt := 77) hf dX12_morningOf_68 (by decide) (fun hc19 hf => ?_) (fun hc19 hf => ?_)
      · refine rw_iconst F (v := 0) dX12_morningOf_77 (by decide) ?_
        exact WS.sub [0, 1, 2, 3] rfl (b_X12_morningOf_b78 F _ hK45 _ _ _ _ _ _ _ hf)
      · refine rw_iconst F (v := 1) dX12_morningOf_71 (by decide) ?_
        refine rw_iload_n F dX12_morningOf_72 rfl 3 rfl ?_
        refine rw_ishl F dX12_morningOf_73 ?_
        refine rw_goto F (tgt := 78) dX12_morningOf_74 (by decide) ?_
        exact WS.sub [0, 1, 2, 3] rfl (b_X12_morningOf_b78 F _ hK45 _ _ _ _ _ _ _ hf)

set_option maxHeartbeats 4000000 in
set_option maxRecDepth 100000 in
theorem c_X12_morningOf (l : Launch) (Z : Zx) (p1 : Int32) (p2 : Int32) (f : Nat → Nat → Int32) (r : Nat → Nat → Int32) (hf : f_X12_morningOf p1 p2 f = some r) : MS l (XM Z) yX12_morningOf wsX12_morningOf rm_X12_morningOf [.ref (Z.2.1 0), .int p1, .int p2] f (PV r) := by
  refine MS.of (cc := cX12_morningOf) (maxL := 4) (ret := none) (own := RX12) (lv := [(0, .ref (Z.2.1 0)), (1, .int p1), (2, .int p2)]) (by decide) rfl rfl (Nat.le_of_ble_eq_true rfl) rfl ?_
  intro a A hla F
  subst hla
  unfold f_X12_morningOf at hf
  refine rw_aload_n F dX12_morningOf_0 rfl 0 rfl ?_
  refine rw_get F 0 (show 0 < 20 by decide) (gM_0 Z _) iw_X12_morningOf_X12 rfl 7 (by decide) lk_X12_morningOf_22 rfl dX12_morningOf_1 ?_
  refine rw_bipush F (v := 16) dX12_morningOf_4 (by decide) ?_
  refine rw_dup2 F dX12_morningOf_6 rfl rfl ?_
  obtain ⟨hi1, hf⟩ := ck_h hf
  refine rw_iald F 5 (show 5 < 20 by decide) (gM_5 Z _) 0 rfl hi1 dX12_morningOf_7 ?_
  refine rw_iconst F (v := 1) dX12_morningOf_8 (by decide) ?_
  refine rw_iadd F dX12_morningOf_9 ?_
  obtain ⟨hi2, hf⟩ := ck_h hf
  refine rw_iast F 5 (show 5 < 20 by decide) (gM_5 Z) 0 rfl hi2 dX12_morningOf_10 ?_
  refine rw_aload_n F dX12_morningOf_11 rfl 0 rfl ?_
  refine rw_get F 0 (show 0 < 20 by decide) (gM_0 Z _) iw_X12_morningOf_X12 rfl 7 (by decide) lk_X12_morningOf_22 rfl dX12_morningOf_12 ?_
  refine rw_bipush F (v := 17) dX12_morningOf_15 (by decide) ?_
  refine rw_iload_n F dX12_morningOf_17 rfl 1 rfl ?_
  obtain ⟨hi3, hf⟩ := ck_h hf
  refine rw_iast F 5 (show 5 < 20 by decide) (gM_5 Z) 0 rfl hi3 dX12_morningOf_18 ?_
  refine rw_aload_n F dX12_morningOf_19 rfl 0 rfl ?_
  refine rw_get F 0 (show 0 < 20 by decide) (gM_0 Z _) iw_X12_morningOf_X12 rfl 7 (by decide) lk_X12_morningOf_22 rfl dX12_morningOf_20 ?_
  refine rw_bipush F (v := 18) dX12_morningOf_23 (by decide) ?_
  refine rw_iload_n F dX12_morningOf_25 rfl 2 rfl ?_
  obtain ⟨hi4, hf⟩ := ck_h hf
  refine rw_iast F 5 (show 5 < 20 by decide) (gM_5 Z) 0 rfl hi4 dX12_morningOf_26 ?_
  refine rw_aload_n F dX12_morningOf_27 rfl 0 rfl ?_
  refine rw_get F 0 (show 0 < 20 by decide) (gM_0 Z _) iw_X12_morningOf_X12 rfl 7 (by decide) lk_X12_morningOf_22 rfl dX12_morningOf_28 ?_
  refine rw_bipush F (v := 19) dX12_morningOf_31 (by decide) ?_
  refine rw_iconst F (v := 0) dX12_morningOf_33 (by decide) ?_
  obtain ⟨hi5, hf⟩ := ck_h hf
  refine rw_iast F 5 (show 5 < 20 by decide) (gM_5 Z) 0 rfl hi5 dX12_morningOf_34 ?_
  refine rw_aload_n F dX12_morningOf_35 rfl 0 rfl ?_
  refine rw_get F 0 (show 0 < 20 by decide) (gM_0 Z _) iw_X12_morningOf_X12 rfl 7 (by decide) lk_X12_morningOf_22 rfl dX12_morningOf_36 ?_
  refine rw_bipush F (v := 20) dX12_morningOf_39 (by decide) ?_
  refine rw_iconst F (v := 0) dX12_morningOf_41 (by decide) ?_
  obtain ⟨hi6, hf⟩ := ck_h hf
  refine rw_iast F 5 (show 5 < 20 by decide) (gM_5 Z) 0 rfl hi6 dX12_morningOf_42 ?_
  refine rw_iconst F (v := 0) dX12_morningOf_43 (by decide) ?_
  refine rw_istore_n F dX12_morningOf_44 rfl (by decide) rfl ?_
  exact WS.sub [1, 2, 3, 0] rfl (b_X12_morningOf_b45 F  fuB _ _ _ _ hf)

abbrev rm_X12_morning : Room := { frames := 4, cells := 0, slots := 0, locals := 96 }
abbrev FX_X12_morning (a : Ax) (Z : Zx) (A : Nat → Prop) : Prop := FX a (XM Z) A cX12_morning RX12 wsX12_morning 3 (some .int) rm_X12_morning
theorem iw_X12_morning_X12 : ∀ w ∈ wsX120, w ∈ wsX12_morning := by decide +kernel
theorem lk_X12_morning_22 : Cond.fieldLink RX12 22 (TX12 7).1 (TX12 7).2.1 (TX12 7).2.2.1 ∈ wsX12_morning := by decide +kernel
set_option maxHeartbeats 4000000 in
set_option maxRecDepth 100000 in
theorem b_X12_morning_b16 {a : Ax} {Z : Zx} {A : Nat → Prop} {r : (Int32 × (Nat → Nat → Int32))} (F : FX_X12_morning a Z A) : ∀ (f : Nat → Nat → Int32), f_X12_morning_b16  f = some r → WS a (XM Z) A 3 (RP a (XM Z) A (PI r.1 r.2)) 16 [] [] f := by
  intro  f hf
  unfold f_X12_morning_b16 at hf
  refine rw_ldc F (v := -1000000001) dX12_morning_16 (by decide +kernel) ?_
  exact rw_iretS F hf rfl dX12_morning_18

set_option maxHeartbeats 4000000 in
set_option maxRecDepth 100000 in
theorem c_X12_morning (l : Launch) (Z : Zx) (p1 : Int32) (p2 : Int32) (f : Nat → Nat → Int32) (r : (Int32 × (Nat → Nat → Int32))) (hf : f_X12_morning p1 p2 f = some r) : MS l (XM Z) yX12_morning wsX12_morning rm_X12_morning [.ref (Z.2.1 0), .int p1, .int p2] f (PI r.1 r.2) := by
  refine MS.of (cc := cX12_morning) (maxL := 3) (ret := (some .int)) (own := RX12) (lv := [(0, .ref (Z.2.1 0)), (1, .int p1), (2, .int p2)]) (by decide) rfl rfl (Nat.le_of_ble_eq_true rfl) rfl ?_
  intro a A hla F
  subst hla
  unfold f_X12_morning at hf
  refine rw_aload_n F dX12_morning_0 rfl 0 rfl ?_
  refine rw_iload_n F dX12_morning_1 rfl 1 rfl ?_
  obtain ⟨q2, hq1, hf⟩ := bind_h hf
  refine rw_callVI F (k0 := 0) (nA := 1) (c_X12_isSound (aL a) Z _ _ _ hq1) gX12_morning_X12_isSound rfl ⟨rfl, rfl⟩ (by decide +kernel) ⟨Nat.le_of_ble_eq_true rfl, Nat.le_of_ble_eq_true rfl⟩ (show 0 < 20 by decide) (gM_0 Z _) rfl rfl rfl (Nat.le_of_ble_eq_true rfl) dX12_morning_2 ?_
  refine rw_if_eq F (tgt := 16) hf dX12_morning_5 (by decide) (fun hc13 hf => ?_) (fun hc13 hf => ?_)
  · exact WS.sub [] rfl (b_X12_morning_b16 F  _ hf)
  · refine rw_aload_n F dX12_morning_8 rfl 0 rfl ?_
    refine rw_iload_n F dX12_morning_9 rfl 2 rfl ?_
    obtain ⟨q4, hq3, hf⟩ := bind_h hf
    refine rw_callVI F (k0 := 0) (nA := 1) (c_X12_isPlace (aL a) Z _ _ _ hq3) gX12_morning_X12_isPlace rfl ⟨rfl, rfl⟩ (by decide +kernel) ⟨Nat.le_of_ble_eq_true rfl, Nat.le_of_ble_eq_true rfl⟩ (show 0 < 20 by decide) (gM_0 Z _) rfl rfl rfl (Nat.le_of_ble_eq_true rfl) dX12_morning_10 ?_
    refine rw_if_ne F (tgt := 19) hf dX12_morning_13 (by decide) (fun hc12 hf => ?_) (fun hc12 hf => ?_)
    · refine rw_aload_n F dX12_morning_19 rfl 0 rfl ?_
      refine rw_get F 0 (show 0 < 20 by decide) (gM_0 Z _) iw_X12_morning_X12 rfl 7 (by decide) lk_X12_morning_22 rfl dX12_morning_20 ?_
      refine rw_bipush F (v := 16) dX12_morning_23 (by decide) ?_
      obtain ⟨hi5, hf⟩ := ck_h hf
      refine rw_iald F 5 (show 5 < 20 by decide) (gM_5 Z _) 0 rfl hi5 dX12_morning_25 ?_
      refine rw_sipush F (v := 9000) dX12_morning_26 (by decide) ?_
      refine rw_icmp_le F (tgt := 35) hf dX12_morning_29 (by decide) (fun hc11 hf => ?_) (fun hc11 hf => ?_)
      · refine rw_aload_n F dX12_morning_35 rfl 0 rfl ?_
        obtain ⟨q7, hq6, hf⟩ := bind_h hf
        refine rw_callVV F (k0 := 0) (nA := 0) (c_X12_remember (aL a) Z  _ _ hq6) gX12_morning_X12_remember rfl ⟨rfl, rfl⟩ (by decide +kernel) ⟨Nat.le_of_ble_eq_true rfl, Nat.le_of_ble_eq_true rfl⟩ (show 0 < 20 by decide) (gM_0 Z _) rfl rfl rfl (Nat.le_of_ble_eq_true rfl) dX12_morning_36 ?_
        refine rw_aload_n F dX12_morning_39 rfl 0 rfl ?_
        refine rw_iload_n F dX12_morning_40 rfl 1 rfl ?_
        refine rw_iload_n F dX12_morning_41 rfl 2 rfl ?_
        obtain ⟨q9, hq8, hf⟩ := bind_h hf
        refine rw_callVV F (k0 := 0) (nA := 2) (c_X12_morningOf (aL a) Z _ _ _ _ hq8) gX12_morning_X12_morningOf rfl ⟨rfl, rfl⟩ (by decide +kernel) ⟨Nat.le_of_ble_eq_true rfl, Nat.le_of_ble_eq_true rfl⟩ (show 0 < 20 by decide) (gM_0 Z _) rfl rfl rfl (Nat.le_of_ble_eq_true rfl) dX12_morning_42 ?_
        refine rw_aload_n F dX12_morning_45 rfl 0 rfl ?_
        refine rw_get F 0 (show 0 < 20 by decide) (gM_0 Z _) iw_X12_morning_X12 rfl 7 (by decide) lk_X12_morning_22 rfl dX12_morning_46 ?_
        refine rw_bipush F (v := 19) dX12_morning_49 (by decide) ?_
        obtain ⟨hi10, hf⟩ := ck_h hf
        refine rw_iald F 5 (show 5 < 20 by decide) (gM_5 Z _) 0 rfl hi10 dX12_morning_51 ?_
        exact rw_iretS F hf rfl dX12_morning_52
      · refine rw_ldc F (v := -1000000004) dX12_morning_32 (by decide +kernel) ?_
        exact rw_iretS F hf rfl dX12_morning_34
    · exact WS.sub [] rfl (b_X12_morning_b16 F  _ hf)

abbrev rm_X12_move : Room := { frames := 2, cells := 0, slots := 0, locals := 46 }
abbrev FX_X12_move (a : Ax) (Z : Zx) (A : Nat → Prop) : Prop := FX a (XM Z) A cX12_move RX12 wsX12_move 4 (some .int) rm_X12_move
theorem iw_X12_move_X12 : ∀ w ∈ wsX120, w ∈ wsX12_move := by decide +kernel
theorem lk_X12_move_22 : Cond.fieldLink RX12 22 (TX12 7).1 (TX12 7).2.1 (TX12 7).2.2.1 ∈ wsX12_move := by decide +kernel
set_option maxHeartbeats 4000000 in
set_option maxRecDepth 100000 in
theorem b_X12_move_b16 {a : Ax} {Z : Zx} {A : Nat → Prop} {r : (Int32 × (Nat → Nat → Int32))} (F : FX_X12_move a Z A) : ∀ (f : Nat → Nat → Int32), f_X12_move_b16  f = some r → WS a (XM Z) A 4 (RP a (XM Z) A (PI r.1 r.2)) 16 [] [] f := by
  intro  f hf
  unfold f_X12_move_b16 at hf
  refine rw_ldc F (v := -1000000001) dX12_move_16 (by decide +kernel) ?_
  exact rw_iretS F hf rfl dX12_move_18

set_option maxHeartbeats 4000000 in
set_option maxRecDepth 100000 in
theorem c_X12_move (l : Launch) (Z : Zx) (p1 : Int32) (p2 : Int32) (f : Nat → Nat → Int32) (r : (Int32 × (Nat → Nat → Int32))) (hf : f_X12_move p1 p2 f = some r) : MS l (XM Z) yX12_move wsX12_move rm_X12_move [.ref (Z.2.1 0), .int p1, .int p2] f (PI r.1 r.2) := by
  refine MS.of (cc := cX12_move) (maxL := 4) (ret := (some .int)) (own := RX12) (lv := [(0, .ref (Z.2.1 0)), (1, .int p1), (2, .int p2)]) (by decide) rfl rfl (Nat.le_of_ble_eq_true rfl) rfl ?_
  intro a A hla F
  subst hla
  unfold f_X12_move at hf
  refine rw_aload_n F dX12_move_0 rfl 0 rfl ?_
  refine rw_iload_n F dX12_move_1 rfl 1 rfl ?_
  obtain ⟨q2, hq1, hf⟩ := bind_h hf
  refine rw_callVI F (k0 := 0) (nA := 1) (c_X12_isWitness (aL a) Z _ _ _ hq1) gX12_move_X12_isWitness rfl ⟨rfl, rfl⟩ (by decide +kernel) ⟨Nat.le_of_ble_eq_true rfl, Nat.le_of_ble_eq_true rfl⟩ (show 0 < 20 by decide) (gM_0 Z _) rfl rfl rfl (Nat.le_of_ble_eq_true rfl) dX12_move_2 ?_
  refine rw_if_eq F (tgt := 16) hf dX12_move_5 (by decide) (fun hc10 hf => ?_) (fun hc10 hf => ?_)
  · exact WS.sub [] rfl (b_X12_move_b16 F  _ hf)
  · refine rw_aload_n F dX12_move_8 rfl 0 rfl ?_
    refine rw_iload_n F dX12_move_9 rfl 2 rfl ?_
    obtain ⟨q4, hq3, hf⟩ := bind_h hf
    refine rw_callVI F (k0 := 0) (nA := 1) (c_X12_isPlace (aL a) Z _ _ _ hq3) gX12_move_X12_isPlace rfl ⟨rfl, rfl⟩ (by decide +kernel) ⟨Nat.le_of_ble_eq_true rfl, Nat.le_of_ble_eq_true rfl⟩ (show 0 < 20 by decide) (gM_0 Z _) rfl rfl rfl (Nat.le_of_ble_eq_true rfl) dX12_move_10 ?_
    refine rw_if_ne F (tgt := 19) hf dX12_move_13 (by decide) (fun hc9 hf => ?_) (fun hc9 hf => ?_)
    · refine rw_aload_n F dX12_move_19 rfl 0 rfl ?_
      obtain ⟨q6, hq5, hf⟩ := bind_h hf
      refine rw_callVV F (k0 := 0) (nA := 0) (c_X12_remember (aL a) Z  _ _ hq5) gX12_move_X12_remember rfl ⟨rfl, rfl⟩ (by decide +kernel) ⟨Nat.le_of_ble_eq_true rfl, Nat.le_of_ble_eq_true rfl⟩ (show 0 < 20 by decide) (gM_0 Z _) rfl rfl rfl (Nat.le_of_ble_eq_true rfl) dX12_move_20 ?_
      refine rw_aload_n F dX12_move_23 rfl 0 rfl ?_
      refine rw_get F 0 (show 0 < 20 by decide) (gM_0 Z _) iw_X12_move_X12 rfl 7 (by decide) lk_X12_move_22 rfl dX12_move_24 ?_
      refine rw_bipush F (v := 9) dX12_move_27 (by decide) ?_
      refine rw_iload_n F dX12_move_29 rfl 1 rfl ?_
      refine rw_iadd F dX12_move_30 ?_
      obtain ⟨hi7, hf⟩ := ck_h hf
      refine rw_iald F 5 (show 5 < 20 by decide) (gM_5 Z _) 0 rfl hi7 dX12_move_31 ?_
      refine rw_istore_n F dX12_move_32 rfl (by decide) rfl ?_
      refine rw_aload_n F dX12_move_33 rfl 1 rfl ?_
      refine rw_get F 0 (show 0 < 20 by decide) (gM_0 Z _) iw_X12_move_X12 rfl 7 (by decide) lk_X12_move_22 rfl dX12_move_34 ?_
      refine rw_bipush F (v := 9) dX12_move_37 (by decide) ?_
      refine rw_iload_n F dX12_move_39 rfl 2 rfl ?_
      refine rw_iadd F dX12_move_40 ?_
      refine rw_iload_n F dX12_move_41 rfl 3 rfl ?_
      obtain ⟨hi8, hf⟩ := ck_h hf
      refine rw_iast F 5 (show 5 < 20 by decide) (gM_5 Z) 0 rfl hi8 dX12_move_42 ?_
      refine rw_iload_n F dX12_move_43 rfl 0 rfl ?_
      exact rw_iretS F hf rfl dX12_move_44
    · exact WS.sub [] rfl (b_X12_move_b16 F  _ hf)

abbrev rm_X12_wall : Room := { frames := 1, cells := 0, slots := 0, locals := 25 }
abbrev FX_X12_wall (a : Ax) (Z : Zx) (A : Nat → Prop) : Prop := FX a (XM Z) A cX12_wall RX12 wsX12_wall 4 (some .int) rm_X12_wall
theorem iw_X12_wall_X12 : ∀ w ∈ wsX120, w ∈ wsX12_wall := by decide +kernel
theorem lk_X12_wall_22 : Cond.fieldLink RX12 22 (TX12 7).1 (TX12 7).2.1 (TX12 7).2.2.1 ∈ wsX12_wall := by decide +kernel
theorem lk_X12_wall_75 : Cond.fieldLink RX12 75 (TX12 0).1 (TX12 0).2.1 (TX12 0).2.2.1 ∈ wsX12_wall := by decide +kernel
set_option maxHeartbeats 4000000 in
set_option maxRecDepth 100000 in
theorem c_X12_wall (l : Launch) (Z : Zx) (p1 : Int32) (p2 : Int32) (f : Nat → Nat → Int32) (r : (Int32 × (Nat → Nat → Int32))) (hf : f_X12_wall p1 p2 f = some r) : MS l (XM Z) yX12_wall wsX12_wall rm_X12_wall [.ref (Z.2.1 0), .int p1, .int p2] f (PI r.1 r.2) := by
  refine MS.of (cc := cX12_wall) (maxL := 4) (ret := (some .int)) (own := RX12) (lv := [(0, .ref (Z.2.1 0)), (1, .int p1), (2, .int p2)]) (by decide) rfl rfl (Nat.le_of_ble_eq_true rfl) rfl ?_
  intro a A hla F
  subst hla
  unfold f_X12_wall at hf
  refine rw_iload_n F dX12_wall_0 rfl 1 rfl ?_
  refine rw_i2l F dX12_wall_1 ?_
  refine rw_lconst F (v := 0) dX12_wall_2 (by decide) ?_
  refine rw_aload_n F dX12_wall_3 rfl 0 rfl ?_
  refine rw_get F 0 (show 0 < 20 by decide) (gM_0 Z _) iw_X12_wall_X12 rfl 0 (by decide) lk_X12_wall_75 rfl dX12_wall_4 ?_
  refine rw_iconst F (v := 1) dX12_wall_7 (by decide) ?_
  refine rw_isub F dX12_wall_8 ?_
  refine rw_i2l F dX12_wall_9 ?_
  obtain ⟨q2, hq1, hf⟩ := bind_h hf
  refine rw_callSI F (nA := 3) (c_X12_in (aL a) Z _ _ _ _ _ hq1) gX12_wall_X12_in rfl ⟨rfl, rfl⟩ (by decide +kernel) ⟨Nat.le_of_ble_eq_true rfl, Nat.le_of_ble_eq_true rfl⟩ rfl rfl (Nat.le_of_ble_eq_true rfl) dX12_wall_10 ?_
  refine rw_if_ne F (tgt := 19) hf dX12_wall_13 (by decide) (fun hc10 hf => ?_) (fun hc10 hf => ?_)
  · refine rw_iload_n F dX12_wall_19 rfl 2 rfl ?_
    refine rw_i2l F dX12_wall_20 ?_
    refine rw_lconst F (v := 0) dX12_wall_21 (by decide) ?_
    refine rw_ldc2 F (v := 20) dX12_wall_22 (by decide +kernel) ?_
    obtain ⟨q4, hq3, hf⟩ := bind_h hf
    refine rw_callSI F (nA := 3) (c_X12_in (aL a) Z _ _ _ _ _ hq3) gX12_wall_X12_in rfl ⟨rfl, rfl⟩ (by decide +kernel) ⟨Nat.le_of_ble_eq_true rfl, Nat.le_of_ble_eq_true rfl⟩ rfl rfl (Nat.le_of_ble_eq_true rfl) dX12_wall_25 ?_
    refine rw_if_ne F (tgt := 34) hf dX12_wall_28 (by decide) (fun hc9 hf => ?_) (fun hc9 hf => ?_)
    · refine rw_aload_n F dX12_wall_34 rfl 0 rfl ?_
      obtain ⟨q6, hq5, hf⟩ := bind_h hf
      refine rw_callVV F (k0 := 0) (nA := 0) (c_X12_remember (aL a) Z  _ _ hq5) gX12_wall_X12_remember rfl ⟨rfl, rfl⟩ (by decide +kernel) ⟨Nat.le_of_ble_eq_true rfl, Nat.le_of_ble_eq_true rfl⟩ (show 0 < 20 by decide) (gM_0 Z _) rfl rfl rfl (Nat.le_of_ble_eq_true rfl) dX12_wall_35 ?_
      refine rw_aload_n F dX12_wall_38 rfl 0 rfl ?_
      refine rw_get F 0 (show 0 < 20 by decide) (gM_0 Z _) iw_X12_wall_X12 rfl 7 (by decide) lk_X12_wall_22 rfl dX12_wall_39 ?_
      refine rw_iload_n F dX12_wall_42 rfl 1 rfl ?_
      obtain ⟨hi7, hf⟩ := ck_h hf
      refine rw_iald F 5 (show 5 < 20 by decide) (gM_5 Z _) 0 rfl hi7 dX12_wall_43 ?_
      refine rw_istore_n F dX12_wall_44 rfl (by decide) rfl ?_
      refine rw_aload_n F dX12_wall_45 rfl 1 rfl ?_
      refine rw_get F 0 (show 0 < 20 by decide) (gM_0 Z _) iw_X12_wall_X12 rfl 7 (by decide) lk_X12_wall_22 rfl dX12_wall_46 ?_
      refine rw_iload_n F dX12_wall_49 rfl 2 rfl ?_
      refine rw_iload_n F dX12_wall_50 rfl 3 rfl ?_
      obtain ⟨hi8, hf⟩ := ck_h hf
      refine rw_iast F 5 (show 5 < 20 by decide) (gM_5 Z) 0 rfl hi8 dX12_wall_51 ?_
      refine rw_iload_n F dX12_wall_52 rfl 0 rfl ?_
      exact rw_iretS F hf rfl dX12_wall_53
    · refine rw_ldc F (v := -1000000002) dX12_wall_31 (by decide +kernel) ?_
      exact rw_iretS F hf rfl dX12_wall_33
  · refine rw_ldc F (v := -1000000001) dX12_wall_16 (by decide +kernel) ?_
    exact rw_iretS F hf rfl dX12_wall_18

abbrev rm_X12_wind : Room := { frames := 1, cells := 0, slots := 0, locals := 25 }
abbrev FX_X12_wind (a : Ax) (Z : Zx) (A : Nat → Prop) : Prop := FX a (XM Z) A cX12_wind RX12 wsX12_wind 3 (some .int) rm_X12_wind
theorem iw_X12_wind_X12 : ∀ w ∈ wsX120, w ∈ wsX12_wind := by decide +kernel
theorem lk_X12_wind_22 : Cond.fieldLink RX12 22 (TX12 7).1 (TX12 7).2.1 (TX12 7).2.2.1 ∈ wsX12_wind := by decide +kernel
theorem lk_X12_wind_75 : Cond.fieldLink RX12 75 (TX12 0).1 (TX12 0).2.1 (TX12 0).2.2.1 ∈ wsX12_wind := by decide +kernel
set_option maxHeartbeats 4000000 in
set_option maxRecDepth 100000 in
theorem c_X12_wind (l : Launch) (Z : Zx) (p1 : Int32) (f : Nat → Nat → Int32) (r : (Int32 × (Nat → Nat → Int32))) (hf : f_X12_wind p1 f = some r) : MS l (XM Z) yX12_wind wsX12_wind rm_X12_wind [.ref (Z.2.1 0), .int p1] f (PI r.1 r.2) := by
  refine MS.of (cc := cX12_wind) (maxL := 3) (ret := (some .int)) (own := RX12) (lv := [(0, .ref (Z.2.1 0)), (1, .int p1)]) (by decide) rfl rfl (Nat.le_of_ble_eq_true rfl) rfl ?_
  intro a A hla F
  subst hla
  unfold f_X12_wind at hf
  refine rw_iload_n F dX12_wind_0 rfl 1 rfl ?_
  refine rw_i2l F dX12_wind_1 ?_
  refine rw_lconst F (v := 0) dX12_wind_2 (by decide) ?_
  refine rw_ldc2 F (v := 18) dX12_wind_3 (by decide +kernel) ?_
  obtain ⟨q2, hq1, hf⟩ := bind_h hf
  refine rw_callSI F (nA := 3) (c_X12_in (aL a) Z _ _ _ _ _ hq1) gX12_wind_X12_in rfl ⟨rfl, rfl⟩ (by decide +kernel) ⟨Nat.le_of_ble_eq_true rfl, Nat.le_of_ble_eq_true rfl⟩ rfl rfl (Nat.le_of_ble_eq_true rfl) dX12_wind_6 ?_
  refine rw_if_ne F (tgt := 15) hf dX12_wind_9 (by decide) (fun hc8 hf => ?_) (fun hc8 hf => ?_)
  · refine rw_aload_n F dX12_wind_15 rfl 0 rfl ?_
    refine rw_get F 0 (show 0 < 20 by decide) (gM_0 Z _) iw_X12_wind_X12 rfl 0 (by decide) lk_X12_wind_75 rfl dX12_wind_16 ?_
    refine rw_if_ne F (tgt := 25) hf dX12_wind_19 (by decide) (fun hc7 hf => ?_) (fun hc7 hf => ?_)
    · refine rw_aload_n F dX12_wind_25 rfl 0 rfl ?_
      obtain ⟨q4, hq3, hf⟩ := bind_h hf
      refine rw_callVV F (k0 := 0) (nA := 0) (c_X12_remember (aL a) Z  _ _ hq3) gX12_wind_X12_remember rfl ⟨rfl, rfl⟩ (by decide +kernel) ⟨Nat.le_of_ble_eq_true rfl, Nat.le_of_ble_eq_true rfl⟩ (show 0 < 20 by decide) (gM_0 Z _) rfl rfl rfl (Nat.le_of_ble_eq_true rfl) dX12_wind_26 ?_
      refine rw_aload_n F dX12_wind_29 rfl 0 rfl ?_
      refine rw_get F 0 (show 0 < 20 by decide) (gM_0 Z _) iw_X12_wind_X12 rfl 7 (by decide) lk_X12_wind_22 rfl dX12_wind_30 ?_
      refine rw_bipush F (v := 8) dX12_wind_33 (by decide) ?_
      obtain ⟨hi5, hf⟩ := ck_h hf
      refine rw_iald F 5 (show 5 < 20 by decide) (gM_5 Z _) 0 rfl hi5 dX12_wind_35 ?_
      refine rw_istore_n F dX12_wind_36 rfl (by decide) rfl ?_
      refine rw_aload_n F dX12_wind_37 rfl 1 rfl ?_
      refine rw_get F 0 (show 0 < 20 by decide) (gM_0 Z _) iw_X12_wind_X12 rfl 7 (by decide) lk_X12_wind_22 rfl dX12_wind_38 ?_
      refine rw_bipush F (v := 8) dX12_wind_41 (by decide) ?_
      refine rw_iload_n F dX12_wind_43 rfl 2 rfl ?_
      obtain ⟨hi6, hf⟩ := ck_h hf
      refine rw_iast F 5 (show 5 < 20 by decide) (gM_5 Z) 0 rfl hi6 dX12_wind_44 ?_
      refine rw_iload_n F dX12_wind_45 rfl 0 rfl ?_
      exact rw_iretS F hf rfl dX12_wind_46
    · refine rw_ldc F (v := -1000000003) dX12_wind_22 (by decide +kernel) ?_
      exact rw_iretS F hf rfl dX12_wind_24
  · refine rw_ldc F (v := -1000000002) dX12_wind_12 (by decide +kernel) ?_
    exact rw_iretS F hf rfl dX12_wind_14

abbrev rm_X12_draw : Room := { frames := 0, cells := 0, slots := 0, locals := 0 }
abbrev FX_X12_draw (a : Ax) (Z : Zx) (A : Nat → Prop) : Prop := FX a (XM Z) A cX12_draw RX12 wsX12_draw 2 (some .int) rm_X12_draw
theorem iw_X12_draw_X12 : ∀ w ∈ wsX120, w ∈ wsX12_draw := by decide +kernel
theorem lk_X12_draw_205 : Cond.fieldLink RX12 205 (TX12 8).1 (TX12 8).2.1 (TX12 8).2.2.1 ∈ wsX12_draw := by decide +kernel
set_option maxHeartbeats 4000000 in
set_option maxRecDepth 100000 in
theorem c_X12_draw (l : Launch) (Z : Zx) (p1 : Int32) (f : Nat → Nat → Int32) (r : (Int32 × (Nat → Nat → Int32))) (hf : f_X12_draw p1 f = some r) : MS l (XM Z) yX12_draw wsX12_draw rm_X12_draw [.ref (Z.2.1 0), .int p1] f (PI r.1 r.2) := by
  refine MS.of (cc := cX12_draw) (maxL := 2) (ret := (some .int)) (own := RX12) (lv := [(0, .ref (Z.2.1 0)), (1, .int p1)]) (by decide) rfl rfl (Nat.le_of_ble_eq_true rfl) rfl ?_
  intro a A hla F
  subst hla
  unfold f_X12_draw at hf
  refine rw_aload_n F dX12_draw_0 rfl 0 rfl ?_
  refine rw_aload_n F dX12_draw_1 rfl 0 rfl ?_
  refine rw_get F 0 (show 0 < 20 by decide) (gM_0 Z _) iw_X12_draw_X12 rfl 8 (by decide) lk_X12_draw_205 rfl dX12_draw_2 ?_
  refine rw_i2l F dX12_draw_5 ?_
  refine rw_ldc2 F (v := 1103515245) dX12_draw_6 (by decide +kernel) ?_
  refine rw_lmul F dX12_draw_9 ?_
  refine rw_ldc2 F (v := 12345) dX12_draw_10 (by decide +kernel) ?_
  refine rw_ladd F dX12_draw_13 ?_
  refine rw_ldc2 F (v := 2147483648) dX12_draw_14 (by decide +kernel) ?_
  refine rw_lrem F dX12_draw_17 (by decide) ?_
  refine rw_l2i F dX12_draw_18 ?_
  refine rw_put F 0 (show 0 < 20 by decide) (gM_0 Z) iw_X12_draw_X12 tyX12 tyX12_ok nmX12 rfl 8 (by decide) lk_X12_draw_205 rfl rfl rfl (fun _ => by rw [lnM0]; decide) (stM0_8 Z.2.1) dX12_draw_19 ?_
  refine rw_aload_n F dX12_draw_22 rfl 0 rfl ?_
  refine rw_get F 0 (show 0 < 20 by decide) (gM_0 Z _) iw_X12_draw_X12 rfl 8 (by decide) lk_X12_draw_205 rfl dX12_draw_23 ?_
  refine rw_ldc F (v := 65536) dX12_draw_26 (by decide +kernel) ?_
  refine rw_idiv F dX12_draw_28 (by decide) ?_
  refine rw_iload_n F dX12_draw_29 rfl 1 rfl ?_
  obtain ⟨hz1, hf⟩ := dz_h hf
  refine rw_irem F dX12_draw_30 hz1 ?_
  exact rw_iretS F hf rfl dX12_draw_31

abbrev rm_X12_drift : Room := { frames := 4, cells := 0, slots := 0, locals := 96 }
abbrev FX_X12_drift (a : Ax) (Z : Zx) (A : Nat → Prop) : Prop := FX a (XM Z) A cX12_drift RX12 wsX12_drift 4 (some .int) rm_X12_drift
theorem iw_X12_drift_X12 : ∀ w ∈ wsX120, w ∈ wsX12_drift := by decide +kernel
theorem lk_X12_drift_22 : Cond.fieldLink RX12 22 (TX12 7).1 (TX12 7).2.1 (TX12 7).2.2.1 ∈ wsX12_drift := by decide +kernel
theorem lk_X12_drift_75 : Cond.fieldLink RX12 75 (TX12 0).1 (TX12 0).2.1 (TX12 0).2.2.1 ∈ wsX12_drift := by decide +kernel
theorem lk_X12_drift_86 : Cond.fieldLink RX12 86 (TX12 1).1 (TX12 1).2.1 (TX12 1).2.2.1 ∈ wsX12_drift := by decide +kernel
set_option maxHeartbeats 4000000 in
set_option maxRecDepth 100000 in
theorem b_X12_drift_b104 {a : Ax} {Z : Zx} {A : Nat → Prop} {r : (Int32 × (Nat → Nat → Int32))} (F : FX_X12_drift a Z A) : ∀ (f : Nat → Nat → Int32), f_X12_drift_b104  f = some r → WS a (XM Z) A 4 (RP a (XM Z) A (PI r.1 r.2)) 104 [(0, .ref (Z.2.1 0))] [] f := by
  intro  f hf
  unfold f_X12_drift_b104 at hf
  refine rw_aload_n F dX12_drift_104 rfl 0 rfl ?_
  refine rw_get F 0 (show 0 < 20 by decide) (gM_0 Z _) iw_X12_drift_X12 rfl 7 (by decide) lk_X12_drift_22 rfl dX12_drift_105 ?_
  refine rw_bipush F (v := 19) dX12_drift_108 (by decide) ?_
  obtain ⟨hi6, hf⟩ := ck_h hf
  refine rw_iald F 5 (show 5 < 20 by decide) (gM_5 Z _) 0 rfl hi6 dX12_drift_110 ?_
  exact rw_iretS F hf rfl dX12_drift_111

set_option maxHeartbeats 4000000 in
set_option maxRecDepth 100000 in
theorem b_X12_drift_b47 {a : Ax} {Z : Zx} {A : Nat → Prop} {r : (Int32 × (Nat → Nat → Int32))} (F : FX_X12_drift a Z A) : ∀ (n : Nat) (i1 : Int32) (i2 : Int32) (f : Nat → Nat → Int32), f_X12_drift_b47 n i1 i2 f = some r → WS a (XM Z) A 4 (RP a (XM Z) A (PI r.1 r.2)) 47 [(0, .ref (Z.2.1 0)), (1, .int i1), (2, .int i2)] [] f := by
  intro n
  induction n with
  | zero => intro i1 i2 f hf; exact nomatch (show (none : Option (Int32 × (Nat → Nat → Int32))) = some r from hf)
  | succ n hK47 =>
    intro i1 i2 f hf
    replace hf : f_X12_drift_b47s (f_X12_drift_b47 n) i1 i2 f = some r := hf
    unfold f_X12_drift_b47s at hf
    refine rw_iload_n F dX12_drift_47 rfl 2 rfl ?_
    refine rw_iload_n F dX12_drift_48 rfl 1 rfl ?_
    refine rw_icmp_ge F (tgt := 104) hf dX12_drift_49 (by decide) (fun hc19 hf => ?_) (fun hc19 hf => ?_)
    · exact WS.sub [0] rfl (b_X12_drift_b104 F  _ hf)
    · refine rw_aload_n F dX12_drift_52 rfl 0 rfl ?_
      refine rw_get F 0 (show 0 < 20 by decide) (gM_0 Z _) iw_X12_drift_X12 rfl 1 (by decide) lk_X12_drift_86 rfl dX12_drift_53 ?_
      refine rw_if_le F (tgt := 104) hf dX12_drift_56 (by decide) (fun hc18 hf => ?_) (fun hc18 hf => ?_)
      · exact WS.sub [0] rfl (b_X12_drift_b104 F  _ hf)
      · refine rw_aload_n F dX12_drift_59 rfl 0 rfl ?_
        refine rw_aload_n F dX12_drift_60 rfl 0 rfl ?_
        refine rw_get F 0 (show 0 < 20 by decide) (gM_0 Z _) iw_X12_drift_X12 rfl 1 (by decide) lk_X12_drift_86 rfl dX12_drift_61 ?_
        obtain ⟨q8, hq7, hf⟩ := bind_h hf
        refine rw_callVI F (k0 := 0) (nA := 1) (c_X12_draw (aL a) Z _ _ _ hq7) gX12_drift_X12_draw rfl ⟨rfl, rfl⟩ (by decide +kernel) ⟨Nat.le_of_ble_eq_true rfl, Nat.le_of_ble_eq_true rfl⟩ (show 0 < 20 by decide) (gM_0 Z _) rfl rfl rfl (Nat.le_of_ble_eq_true rfl) dX12_drift_64 ?_
        refine rw_istore_n F dX12_drift_67 rfl (by decide) rfl ?_
        refine rw_aload_n F dX12_drift_68 rfl 1 rfl ?_
        refine rw_iload_n F dX12_drift_69 rfl 0 rfl ?_
        refine rw_aload_n F dX12_drift_70 rfl 1 rfl ?_
        refine rw_aload_n F dX12_drift_71 rfl 1 rfl ?_
        obtain ⟨q10, hq9, hf⟩ := bind_h hf
        refine rw_callVI F (k0 := 0) (nA := 0) (c_X12_places (aL a) Z  _ _ hq9) gX12_drift_X12_places rfl ⟨rfl, rfl⟩ (by decide +kernel) ⟨Nat.le_of_ble_eq_true rfl, Nat.le_of_ble_eq_true rfl⟩ (show 0 < 20 by decide) (gM_0 Z _) rfl rfl rfl (Nat.le_of_ble_eq_true rfl) dX12_drift_72 ?_
        obtain ⟨q12, hq11, hf⟩ := bind_h hf
        refine rw_callVI F (k0 := 0) (nA := 1) (c_X12_draw (aL a) Z _ _ _ hq11) gX12_drift_X12_draw rfl ⟨rfl, rfl⟩ (by decide +kernel) ⟨Nat.le_of_ble_eq_true rfl, Nat.le_of_ble_eq_true rfl⟩ (show 0 < 20 by decide) (gM_0 Z _) rfl rfl rfl (Nat.le_of_ble_eq_true rfl) dX12_drift_75 ?_
        obtain ⟨q14, hq13, hf⟩ := bind_h hf
        refine rw_callVV F (k0 := 0) (nA := 2) (c_X12_morningOf (aL a) Z _ _ _ _ hq13) gX12_drift_X12_morningOf rfl ⟨rfl, rfl⟩ (by decide +kernel) ⟨Nat.le_of_ble_eq_true rfl, Nat.le_of_ble_eq_true rfl⟩ (show 0 < 20 by decide) (gM_0 Z _) rfl rfl rfl (Nat.le_of_ble_eq_true rfl) dX12_drift_78 ?_
        refine rw_aload_n F dX12_drift_81 rfl 1 rfl ?_
        refine rw_get F 0 (show 0 < 20 by decide) (gM_0 Z _) iw_X12_drift_X12 rfl 7 (by decide) lk_X12_drift_22 rfl dX12_drift_82 ?_
        refine rw_bipush F (v := 8) dX12_drift_85 (by decide) ?_
        refine rw_aload_n F dX12_drift_87 rfl 1 rfl ?_
        refine rw_iconst F (v := 5) dX12_drift_88 (by decide) ?_
        obtain ⟨q16, hq15, hf⟩ := bind_h hf
        refine rw_callVI F (k0 := 0) (nA := 1) (c_X12_draw (aL a) Z _ _ _ hq15) gX12_drift_X12_draw rfl ⟨rfl, rfl⟩ (by decide +kernel) ⟨Nat.le_of_ble_eq_true rfl, Nat.le_of_ble_eq_true rfl⟩ (show 0 < 20 by decide) (gM_0 Z _) rfl rfl rfl (Nat.le_of_ble_eq_true rfl) dX12_drift_89 ?_
        refine rw_iconst F (v := 2) dX12_drift_92 (by decide) ?_
        refine rw_isub F dX12_drift_93 ?_
        refine rw_bipush F (v := 9) dX12_drift_94 (by decide) ?_
        refine rw_iadd F dX12_drift_96 ?_
        obtain ⟨hi17, hf⟩ := ck_h hf
        refine rw_iast F 5 (show 5 < 20 by decide) (gM_5 Z) 0 rfl hi17 dX12_drift_97 ?_
        refine rw_iinc F (v := 1) dX12_drift_98 3 rfl (by decide) (by decide) rfl ?_
        refine rw_goto F (tgt := 47) dX12_drift_101 (by decide) ?_
        exact WS.sub [2, 3, 0] rfl (hK47 _ _ _ hf)

set_option maxHeartbeats 4000000 in
set_option maxRecDepth 100000 in
theorem c_X12_drift (l : Launch) (Z : Zx) (p1 : Int32) (f : Nat → Nat → Int32) (r : (Int32 × (Nat → Nat → Int32))) (hf : f_X12_drift p1 f = some r) : MS l (XM Z) yX12_drift wsX12_drift rm_X12_drift [.ref (Z.2.1 0), .int p1] f (PI r.1 r.2) := by
  refine MS.of (cc := cX12_drift) (maxL := 4) (ret := (some .int)) (own := RX12) (lv := [(0, .ref (Z.2.1 0)), (1, .int p1)]) (by decide) rfl rfl (Nat.le_of_ble_eq_true rfl) rfl ?_
  intro a A hla F
  subst hla
  unfold f_X12_drift at hf
  refine rw_iload_n F dX12_drift_0 rfl 1 rfl ?_
  refine rw_i2l F dX12_drift_1 ?_
  refine rw_lconst F (v := 1) dX12_drift_2 (by decide) ?_
  refine rw_ldc2 F (v := 60) dX12_drift_3 (by decide +kernel) ?_
  obtain ⟨q2, hq1, hf⟩ := bind_h hf
  refine rw_callSI F (nA := 3) (c_X12_in (aL a) Z _ _ _ _ _ hq1) gX12_drift_X12_in rfl ⟨rfl, rfl⟩ (by decide +kernel) ⟨Nat.le_of_ble_eq_true rfl, Nat.le_of_ble_eq_true rfl⟩ rfl rfl (Nat.le_of_ble_eq_true rfl) dX12_drift_6 ?_
  refine rw_if_ne F (tgt := 15) hf dX12_drift_9 (by decide) (fun hc22 hf => ?_) (fun hc22 hf => ?_)
  · refine rw_aload_n F dX12_drift_15 rfl 0 rfl ?_
    refine rw_get F 0 (show 0 < 20 by decide) (gM_0 Z _) iw_X12_drift_X12 rfl 0 (by decide) lk_X12_drift_75 rfl dX12_drift_16 ?_
    refine rw_if_ne F (tgt := 25) hf dX12_drift_19 (by decide) (fun hc21 hf => ?_) (fun hc21 hf => ?_)
    · refine rw_aload_n F dX12_drift_25 rfl 0 rfl ?_
      refine rw_get F 0 (show 0 < 20 by decide) (gM_0 Z _) iw_X12_drift_X12 rfl 7 (by decide) lk_X12_drift_22 rfl dX12_drift_26 ?_
      refine rw_bipush F (v := 16) dX12_drift_29 (by decide) ?_
      obtain ⟨hi3, hf⟩ := ck_h hf
      refine rw_iald F 5 (show 5 < 20 by decide) (gM_5 Z _) 0 rfl hi3 dX12_drift_31 ?_
      refine rw_sipush F (v := 9000) dX12_drift_32 (by decide) ?_
      refine rw_icmp_le F (tgt := 41) hf dX12_drift_35 (by decide) (fun hc20 hf => ?_) (fun hc20 hf => ?_)
      · refine rw_aload_n F dX12_drift_41 rfl 0 rfl ?_
        obtain ⟨q5, hq4, hf⟩ := bind_h hf
        refine rw_callVV F (k0 := 0) (nA := 0) (c_X12_remember (aL a) Z  _ _ hq4) gX12_drift_X12_remember rfl ⟨rfl, rfl⟩ (by decide +kernel) ⟨Nat.le_of_ble_eq_true rfl, Nat.le_of_ble_eq_true rfl⟩ (show 0 < 20 by decide) (gM_0 Z _) rfl rfl rfl (Nat.le_of_ble_eq_true rfl) dX12_drift_42 ?_
        refine rw_iconst F (v := 0) dX12_drift_45 (by decide) ?_
        refine rw_istore_n F dX12_drift_46 rfl (by decide) rfl ?_
        exact WS.sub [1, 2, 0] rfl (b_X12_drift_b47 F  fuB _ _ _ hf)
      · refine rw_ldc F (v := -1000000004) dX12_drift_38 (by decide +kernel) ?_
        exact rw_iretS F hf rfl dX12_drift_40
    · refine rw_ldc F (v := -1000000003) dX12_drift_22 (by decide +kernel) ?_
      exact rw_iretS F hf rfl dX12_drift_24
  · refine rw_ldc F (v := -1000000002) dX12_drift_12 (by decide +kernel) ?_
    exact rw_iretS F hf rfl dX12_drift_14

abbrev rm_X12_undo : Room := { frames := 0, cells := 0, slots := 0, locals := 0 }
abbrev FX_X12_undo (a : Ax) (Z : Zx) (A : Nat → Prop) : Prop := FX a (XM Z) A cX12_undo RX12 wsX12_undo 2 (some .int) rm_X12_undo
theorem iw_X12_undo_X12 : ∀ w ∈ wsX120, w ∈ wsX12_undo := by decide +kernel
theorem lk_X12_undo_22 : Cond.fieldLink RX12 22 (TX12 7).1 (TX12 7).2.1 (TX12 7).2.2.1 ∈ wsX12_undo := by decide +kernel
theorem lk_X12_undo_50 : Cond.fieldLink RX12 50 (TX12 26).1 (TX12 26).2.1 (TX12 26).2.2.1 ∈ wsX12_undo := by decide +kernel
theorem lk_X12_undo_162 : Cond.fieldLink RX12 162 (TX12 25).1 (TX12 25).2.1 (TX12 25).2.2.1 ∈ wsX12_undo := by decide +kernel
set_option maxHeartbeats 4000000 in
set_option maxRecDepth 100000 in
theorem b_X12_undo_b22 {a : Ax} {Z : Zx} {A : Nat → Prop} {r : (Int32 × (Nat → Nat → Int32))} (F : FX_X12_undo a Z A) : ∀ (n : Nat) (i1 : Int32) (f : Nat → Nat → Int32), f_X12_undo_b22 n i1 f = some r → WS a (XM Z) A 2 (RP a (XM Z) A (PI r.1 r.2)) 22 [(0, .ref (Z.2.1 0)), (1, .int i1)] [] f := by
  intro n
  induction n with
  | zero => intro i1 f hf; exact nomatch (show (none : Option (Int32 × (Nat → Nat → Int32))) = some r from hf)
  | succ n hK22 =>
    intro i1 f hf
    replace hf : f_X12_undo_b22s (f_X12_undo_b22 n) i1 f = some r := hf
    unfold f_X12_undo_b22s at hf
    refine rw_iload_n F dX12_undo_22 rfl 1 rfl ?_
    refine rw_bipush F (v := 28) dX12_undo_23 (by decide) ?_
    refine rw_icmp_ge F (tgt := 54) hf dX12_undo_25 (by decide) (fun hc3 hf => ?_) (fun hc3 hf => ?_)
    · refine rw_aload_n F dX12_undo_54 rfl 0 rfl ?_
      refine rw_get F 0 (show 0 < 20 by decide) (gM_0 Z _) iw_X12_undo_X12 rfl 25 (by decide) lk_X12_undo_162 rfl dX12_undo_55 ?_
      exact rw_iretS F hf rfl dX12_undo_58
    · refine rw_aload_n F dX12_undo_28 rfl 0 rfl ?_
      refine rw_get F 0 (show 0 < 20 by decide) (gM_0 Z _) iw_X12_undo_X12 rfl 7 (by decide) lk_X12_undo_22 rfl dX12_undo_29 ?_
      refine rw_iload_n F dX12_undo_32 rfl 1 rfl ?_
      refine rw_aload_n F dX12_undo_33 rfl 0 rfl ?_
      refine rw_get F 0 (show 0 < 20 by decide) (gM_0 Z _) iw_X12_undo_X12 rfl 26 (by decide) lk_X12_undo_50 rfl dX12_undo_34 ?_
      refine rw_bipush F (v := 28) dX12_undo_37 (by decide) ?_
      refine rw_aload_n F dX12_undo_39 rfl 0 rfl ?_
      refine rw_get F 0 (show 0 < 20 by decide) (gM_0 Z _) iw_X12_undo_X12 rfl 25 (by decide) lk_X12_undo_162 rfl dX12_undo_40 ?_
      refine rw_imul F dX12_undo_43 ?_
      refine rw_iload_n F dX12_undo_44 rfl 1 rfl ?_
      refine rw_iadd F dX12_undo_45 ?_
      obtain ⟨hi1, hf⟩ := ck_h hf
      refine rw_iald F 13 (show 13 < 20 by decide) (gM_13 Z _) 0 rfl hi1 dX12_undo_46 ?_
      obtain ⟨hi2, hf⟩ := ck_h hf
      refine rw_iast F 5 (show 5 < 20 by decide) (gM_5 Z) 0 rfl hi2 dX12_undo_47 ?_
      refine rw_iinc F (v := 1) dX12_undo_48 1 rfl (by decide) (by decide) rfl ?_
      refine rw_goto F (tgt := 22) dX12_undo_51 (by decide) ?_
      exact WS.sub [1, 0] rfl (hK22 _ _ hf)

set_option maxHeartbeats 4000000 in
set_option maxRecDepth 100000 in
theorem c_X12_undo (l : Launch) (Z : Zx) (f : Nat → Nat → Int32) (r : (Int32 × (Nat → Nat → Int32))) (hf : f_X12_undo f = some r) : MS l (XM Z) yX12_undo wsX12_undo rm_X12_undo [.ref (Z.2.1 0)] f (PI r.1 r.2) := by
  refine MS.of (cc := cX12_undo) (maxL := 2) (ret := (some .int)) (own := RX12) (lv := [(0, .ref (Z.2.1 0))]) (by decide) rfl rfl (Nat.le_of_ble_eq_true rfl) rfl ?_
  intro a A hla F
  subst hla
  unfold f_X12_undo at hf
  refine rw_aload_n F dX12_undo_0 rfl 0 rfl ?_
  refine rw_get F 0 (show 0 < 20 by decide) (gM_0 Z _) iw_X12_undo_X12 rfl 25 (by decide) lk_X12_undo_162 rfl dX12_undo_1 ?_
  refine rw_if_ne F (tgt := 10) hf dX12_undo_4 (by decide) (fun hc4 hf => ?_) (fun hc4 hf => ?_)
  · refine rw_aload_n F dX12_undo_10 rfl 0 rfl ?_
    refine rw_dup F dX12_undo_11 rfl ?_
    refine rw_get F 0 (show 0 < 20 by decide) (gM_0 Z _) iw_X12_undo_X12 rfl 25 (by decide) lk_X12_undo_162 rfl dX12_undo_12 ?_
    refine rw_iconst F (v := 1) dX12_undo_15 (by decide) ?_
    refine rw_isub F dX12_undo_16 ?_
    refine rw_put F 0 (show 0 < 20 by decide) (gM_0 Z) iw_X12_undo_X12 tyX12 tyX12_ok nmX12 rfl 25 (by decide) lk_X12_undo_162 rfl rfl rfl (fun _ => by rw [lnM0]; decide) (stM0_25 Z.2.1) dX12_undo_17 ?_
    refine rw_iconst F (v := 0) dX12_undo_20 (by decide) ?_
    refine rw_istore_n F dX12_undo_21 rfl (by decide) rfl ?_
    exact WS.sub [1, 0] rfl (b_X12_undo_b22 F  fuB _ _ hf)
  · refine rw_ldc F (v := -1000000003) dX12_undo_7 (by decide +kernel) ?_
    exact rw_iretS F hf rfl dX12_undo_9

abbrev rm_X12_comes : Room := { frames := 2, cells := 0, slots := 0, locals := 46 }
abbrev FX_X12_comes (a : Ax) (Z : Zx) (A : Nat → Prop) : Prop := FX a (XM Z) A cX12_comes RX12 wsX12_comes 4 (some .int) rm_X12_comes
set_option maxHeartbeats 4000000 in
set_option maxRecDepth 100000 in
theorem b_X12_comes_b38 {a : Ax} {Z : Zx} {A : Nat → Prop} {r : Int32} {f : Nat → Nat → Int32} (F : FX_X12_comes a Z A) : f_X12_comes_b38  f = some r → WS a (XM Z) A 4 (RP a (XM Z) A (PI r f)) 38 [] [] f := by
  intro  hf
  unfold f_X12_comes_b38 at hf
  refine rw_ldc F (v := -1000000001) dX12_comes_38 (by decide +kernel) ?_
  exact rw_iret F hf rfl dX12_comes_40

set_option maxHeartbeats 4000000 in
set_option maxRecDepth 100000 in
theorem c_X12_comes (l : Launch) (Z : Zx) (p1 : Int32) (p2 : Int32) (p3 : Int32) (f : Nat → Nat → Int32) (r : Int32) (hf : f_X12_comes p1 p2 p3 f = some r) : MS l (XM Z) yX12_comes wsX12_comes rm_X12_comes [.ref (Z.2.1 0), .int p1, .int p2, .int p3] f (PI r f) := by
  refine MS.of (cc := cX12_comes) (maxL := 4) (ret := (some .int)) (own := RX12) (lv := [(0, .ref (Z.2.1 0)), (1, .int p1), (2, .int p2), (3, .int p3)]) (by decide) rfl rfl (Nat.le_of_ble_eq_true rfl) rfl ?_
  intro a A hla F
  subst hla
  unfold f_X12_comes at hf
  refine rw_aload_n F dX12_comes_0 rfl 0 rfl ?_
  refine rw_iload_n F dX12_comes_1 rfl 1 rfl ?_
  obtain ⟨q2, hq1, hf⟩ := bind_h hf
  refine rw_callVI F (k0 := 0) (nA := 1) (c_X12_isSound (aL a) Z _ _ _ hq1) gX12_comes_X12_isSound rfl ⟨rfl, rfl⟩ (by decide +kernel) ⟨Nat.le_of_ble_eq_true rfl, Nat.le_of_ble_eq_true rfl⟩ (show 0 < 20 by decide) (gM_0 Z _) rfl rfl rfl (Nat.le_of_ble_eq_true rfl) dX12_comes_2 ?_
  refine rw_if_eq F (tgt := 38) hf dX12_comes_5 (by decide) (fun hc11 hf => ?_) (fun hc11 hf => ?_)
  · exact WS.sub [] rfl (b_X12_comes_b38 F   hf)
  · refine rw_aload_n F dX12_comes_8 rfl 0 rfl ?_
    refine rw_iload_n F dX12_comes_9 rfl 2 rfl ?_
    obtain ⟨q4, hq3, hf⟩ := bind_h hf
    refine rw_callVI F (k0 := 0) (nA := 1) (c_X12_isPlace (aL a) Z _ _ _ hq3) gX12_comes_X12_isPlace rfl ⟨rfl, rfl⟩ (by decide +kernel) ⟨Nat.le_of_ble_eq_true rfl, Nat.le_of_ble_eq_true rfl⟩ (show 0 < 20 by decide) (gM_0 Z _) rfl rfl rfl (Nat.le_of_ble_eq_true rfl) dX12_comes_10 ?_
    refine rw_if_eq F (tgt := 38) hf dX12_comes_13 (by decide) (fun hc10 hf => ?_) (fun hc10 hf => ?_)
    · exact WS.sub [] rfl (b_X12_comes_b38 F   hf)
    · refine rw_aload_n F dX12_comes_16 rfl 0 rfl ?_
      refine rw_iload_n F dX12_comes_17 rfl 3 rfl ?_
      obtain ⟨q6, hq5, hf⟩ := bind_h hf
      refine rw_callVI F (k0 := 0) (nA := 1) (c_X12_isPlace (aL a) Z _ _ _ hq5) gX12_comes_X12_isPlace rfl ⟨rfl, rfl⟩ (by decide +kernel) ⟨Nat.le_of_ble_eq_true rfl, Nat.le_of_ble_eq_true rfl⟩ (show 0 < 20 by decide) (gM_0 Z _) rfl rfl rfl (Nat.le_of_ble_eq_true rfl) dX12_comes_18 ?_
      refine rw_if_eq F (tgt := 38) hf dX12_comes_21 (by decide) (fun hc9 hf => ?_) (fun hc9 hf => ?_)
      · exact WS.sub [] rfl (b_X12_comes_b38 F   hf)
      · refine rw_aload_n F dX12_comes_24 rfl 0 rfl ?_
        refine rw_iload_n F dX12_comes_25 rfl 1 rfl ?_
        refine rw_iload_n F dX12_comes_26 rfl 2 rfl ?_
        refine rw_iload_n F dX12_comes_27 rfl 3 rfl ?_
        obtain ⟨q8, hq7, hf⟩ := bind_h hf
        refine rw_callVI F (k0 := 0) (nA := 3) (c_X12_loudAt (aL a) Z _ _ _ _ _ hq7) gX12_comes_X12_loudAt rfl ⟨rfl, rfl⟩ (by decide +kernel) ⟨Nat.le_of_ble_eq_true rfl, Nat.le_of_ble_eq_true rfl⟩ (show 0 < 20 by decide) (gM_0 Z _) rfl rfl rfl (Nat.le_of_ble_eq_true rfl) dX12_comes_28 ?_
        refine rw_sipush F (v := 1000) dX12_comes_31 (by decide) ?_
        refine rw_iadd F dX12_comes_34 ?_
        refine rw_goto F (tgt := 40) dX12_comes_35 (by decide) ?_
        exact rw_iret F hf rfl dX12_comes_40

