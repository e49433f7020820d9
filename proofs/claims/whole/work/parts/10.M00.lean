abbrev rm_X12_clearNow : Room := { frames := 0, cells := 0, slots := 0, locals := 0 }
abbrev FX_X12_clearNow (a : Ax) (Z : Zx) (A : Nat → Prop) : Prop := FX a (XM Z) A cX12_clearNow RX12 wsX12_clearNow 2 none rm_X12_clearNow
theorem iw_X12_clearNow_X12 : ∀ w ∈ wsX120, w ∈ wsX12_clearNow := by decide +kernel
theorem lk_X12_clearNow_22 : Cond.fieldLink RX12 22 (TX12 7).1 (TX12 7).2.1 (TX12 7).2.2.1 ∈ wsX12_clearNow := by decide +kernel
set_option maxHeartbeats 4000000 in
set_option maxRecDepth 100000 in
theorem b_X12_clearNow_b48 {a : Ax} {Z : Zx} {A : Nat → Prop} {r : Nat → Nat → Int32} (F : FX_X12_clearNow a Z A) : ∀ (n : Nat) (i1 : Int32) (f : Nat → Nat → Int32), f_X12_clearNow_b48 n i1 f = some r → WS a (XM Z) A 2 (RP a (XM Z) A (PV r)) 48 [(0, .ref (Z.2.1 0)), (1, .int i1)] [] f := by
  intro n
  induction n with
  | zero => intro i1 f hf; exact nomatch (show (none : Option (Nat → Nat → Int32)) = some r from hf)
  | succ n hK48 =>
    intro i1 f hf
    replace hf : f_X12_clearNow_b48s (f_X12_clearNow_b48 n) i1 f = some r := hf
    unfold f_X12_clearNow_b48s at hf
    refine rw_iload_n F dX12_clearNow_48 rfl 1 rfl ?_
    refine rw_bipush F (v := 7) dX12_clearNow_49 (by decide) ?_
    refine rw_icmp_ge F (tgt := 70) hf dX12_clearNow_51 (by decide) (fun hc5 hf => ?_) (fun hc5 hf => ?_)
    · exact rw_vret F hf rfl dX12_clearNow_70
    · refine rw_aload_n F dX12_clearNow_54 rfl 0 rfl ?_
      refine rw_get F 0 (show 0 < 20 by decide) (gM_0 Z _) iw_X12_clearNow_X12 rfl 7 (by decide) lk_X12_clearNow_22 rfl dX12_clearNow_55 ?_
      refine rw_bipush F (v := 21) dX12_clearNow_58 (by decide) ?_
      refine rw_iload_n F dX12_clearNow_60 rfl 1 rfl ?_
      refine rw_iadd F dX12_clearNow_61 ?_
      refine rw_iconst F (v := -1) dX12_clearNow_62 (by decide) ?_
      obtain ⟨hi4, hf⟩ := ck_h hf
      refine rw_iast F 5 (show 5 < 20 by decide) (gM_5 Z) 0 rfl hi4 dX12_clearNow_63 ?_
      refine rw_iinc F (v := 1) dX12_clearNow_64 1 rfl (by decide) (by decide) rfl ?_
      refine rw_goto F (tgt := 48) dX12_clearNow_67 (by decide) ?_
      exact WS.sub [1, 0] rfl (hK48 _ _ hf)

set_option maxHeartbeats 4000000 in
set_option maxRecDepth 100000 in
theorem b_X12_clearNow_b2 {a : Ax} {Z : Zx} {A : Nat → Prop} {r : Nat → Nat → Int32} (F : FX_X12_clearNow a Z A) : ∀ (n : Nat) (i1 : Int32) (f : Nat → Nat → Int32), f_X12_clearNow_b2 n i1 f = some r → WS a (XM Z) A 2 (RP a (XM Z) A (PV r)) 2 [(0, .ref (Z.2.1 0)), (1, .int i1)] [] f := by
  intro n
  induction n with
  | zero => intro i1 f hf; exact nomatch (show (none : Option (Nat → Nat → Int32)) = some r from hf)
  | succ n hK2 =>
    intro i1 f hf
    replace hf : f_X12_clearNow_b2s (f_X12_clearNow_b2 n) i1 f = some r := hf
    unfold f_X12_clearNow_b2s at hf
    refine rw_iload_n F dX12_clearNow_2 rfl 1 rfl ?_
    refine rw_bipush F (v := 28) dX12_clearNow_3 (by decide) ?_
    refine rw_icmp_ge F (tgt := 21) hf dX12_clearNow_5 (by decide) (fun hc7 hf => ?_) (fun hc7 hf => ?_)
    · refine rw_aload_n F dX12_clearNow_21 rfl 0 rfl ?_
      refine rw_get F 0 (show 0 < 20 by decide) (gM_0 Z _) iw_X12_clearNow_X12 rfl 7 (by decide) lk_X12_clearNow_22 rfl dX12_clearNow_22 ?_
      refine rw_bipush F (v := 8) dX12_clearNow_25 (by decide) ?_
      refine rw_bipush F (v := 9) dX12_clearNow_27 (by decide) ?_
      obtain ⟨hi1, hf⟩ := ck_h hf
      refine rw_iast F 5 (show 5 < 20 by decide) (gM_5 Z) 0 rfl hi1 dX12_clearNow_29 ?_
      refine rw_aload_n F dX12_clearNow_30 rfl 0 rfl ?_
      refine rw_get F 0 (show 0 < 20 by decide) (gM_0 Z _) iw_X12_clearNow_X12 rfl 7 (by decide) lk_X12_clearNow_22 rfl dX12_clearNow_31 ?_
      refine rw_bipush F (v := 17) dX12_clearNow_34 (by decide) ?_
      refine rw_iconst F (v := -1) dX12_clearNow_36 (by decide) ?_
      obtain ⟨hi2, hf⟩ := ck_h hf
      refine rw_iast F 5 (show 5 < 20 by decide) (gM_5 Z) 0 rfl hi2 dX12_clearNow_37 ?_
      refine rw_aload_n F dX12_clearNow_38 rfl 0 rfl ?_
      refine rw_get F 0 (show 0 < 20 by decide) (gM_0 Z _) iw_X12_clearNow_X12 rfl 7 (by decide) lk_X12_clearNow_22 rfl dX12_clearNow_39 ?_
      refine rw_bipush F (v := 18) dX12_clearNow_42 (by decide) ?_
      refine rw_iconst F (v := -1) dX12_clearNow_44 (by decide) ?_
      obtain ⟨hi3, hf⟩ := ck_h hf
      refine rw_iast F 5 (show 5 < 20 by decide) (gM_5 Z) 0 rfl hi3 dX12_clearNow_45 ?_
      refine rw_iconst F (v := 0) dX12_clearNow_46 (by decide) ?_
      refine rw_istore_n F dX12_clearNow_47 rfl (by decide) rfl ?_
      exact WS.sub [1, 0] rfl (b_X12_clearNow_b48 F  fuB _ _ hf)
    · refine rw_aload_n F dX12_clearNow_8 rfl 0 rfl ?_
      refine rw_get F 0 (show 0 < 20 by decide) (gM_0 Z _) iw_X12_clearNow_X12 rfl 7 (by decide) lk_X12_clearNow_22 rfl dX12_clearNow_9 ?_
      refine rw_iload_n F dX12_clearNow_12 rfl 1 rfl ?_
      refine rw_iconst F (v := 0) dX12_clearNow_13 (by decide) ?_
      obtain ⟨hi6, hf⟩ := ck_h hf
      refine rw_iast F 5 (show 5 < 20 by decide) (gM_5 Z) 0 rfl hi6 dX12_clearNow_14 ?_
      refine rw_iinc F (v := 1) dX12_clearNow_15 1 rfl (by decide) (by decide) rfl ?_
      refine rw_goto F (tgt := 2) dX12_clearNow_18 (by decide) ?_
      exact WS.sub [1, 0] rfl (hK2 _ _ hf)

set_option maxHeartbeats 4000000 in
set_option maxRecDepth 100000 in
theorem c_X12_clearNow (l : Launch) (Z : Zx) (f : Nat → Nat → Int32) (r : Nat → Nat → Int32) (hf : f_X12_clearNow f = some r) : MS l (XM Z) yX12_clearNow wsX12_clearNow rm_X12_clearNow [.ref (Z.2.1 0)] f (PV r) := by
  refine MS.of (cc := cX12_clearNow) (maxL := 2) (ret := none) (own := RX12) (lv := [(0, .ref (Z.2.1 0))]) (by decide) rfl rfl (Nat.le_of_ble_eq_true rfl) rfl ?_
  intro a A hla F
  subst hla
  unfold f_X12_clearNow at hf
  refine rw_iconst F (v := 0) dX12_clearNow_0 (by decide) ?_
  refine rw_istore_n F dX12_clearNow_1 rfl (by decide) rfl ?_
  exact WS.sub [1, 0] rfl (b_X12_clearNow_b2 F  fuB _ _ hf)

abbrev rm_X12_in : Room := { frames := 0, cells := 0, slots := 0, locals := 0 }
abbrev FX_X12_in (a : Ax) (Z : Zx) (A : Nat → Prop) : Prop := FX a (XM Z) A cX12_in RX12 wsX12_in 6 (some .boolean) rm_X12_in
set_option maxHeartbeats 4000000 in
set_option maxRecDepth 100000 in
theorem c_X12_in (l : Launch) (Z : Zx) (p0 : Int64) (p2 : Int64) (p4 : Int64) (f : Nat → Nat → Int32) (r : Int32) (hf : f_X12_in p0 p2 p4 f = some r) : MS l (XM Z) yX12_in wsX12_in rm_X12_in [.long p0, .long p2, .long p4] f (PI r f) := by
  refine MS.of (cc := cX12_in) (maxL := 6) (ret := (some .boolean)) (own := RX12) (lv := [(0, .long p0), (2, .long p2), (4, .long p4)]) (by decide) rfl rfl (Nat.le_of_ble_eq_true rfl) rfl ?_
  intro a A hla F
  subst hla
  unfold f_X12_in at hf
  refine rw_lload_n F dX12_in_0 rfl 0 rfl ?_
  refine rw_lload_n F dX12_in_1 rfl 1 rfl ?_
  refine rw_lcmp F dX12_in_2 ?_
  refine rw_if_lt F (tgt := 17) hf dX12_in_3 (by decide) (fun hc2 hf => ?_) (fun hc2 hf => ?_)
  · refine rw_iconst F (v := 0) dX12_in_17 (by decide) ?_
    exact rw_zretZ F (by decide) hf rfl dX12_in_18
  · refine rw_lload_n F dX12_in_6 rfl 0 rfl ?_
    refine rw_lload F dX12_in_7 2 rfl ?_
    refine rw_lcmp F dX12_in_9 ?_
    refine rw_if_gt F (tgt := 17) hf dX12_in_10 (by decide) (fun hc1 hf => ?_) (fun hc1 hf => ?_)
    · refine rw_iconst F (v := 0) dX12_in_17 (by decide) ?_
      exact rw_zretZ F (by decide) hf rfl dX12_in_18
    · refine rw_iconst F (v := 1) dX12_in_13 (by decide) ?_
      refine rw_goto F (tgt := 18) dX12_in_14 (by decide) ?_
      exact rw_zretZ F (by decide) hf rfl dX12_in_18

abbrev rm_X12_has : Room := { frames := 0, cells := 0, slots := 0, locals := 0 }
abbrev FX_X12_has (a : Ax) (Z : Zx) (A : Nat → Prop) : Prop := FX a (XM Z) A cX12_has RX12 wsX12_has 2 (some .boolean) rm_X12_has
set_option maxHeartbeats 4000000 in
set_option maxRecDepth 100000 in
theorem c_X12_has (l : Launch) (Z : Zx) (p0 : Int32) (p1 : Int32) (f : Nat → Nat → Int32) (r : Int32) (hf : f_X12_has p0 p1 f = some r) : MS l (XM Z) yX12_has wsX12_has rm_X12_has [.int p0, .int p1] f (PI r f) := by
  refine MS.of (cc := cX12_has) (maxL := 2) (ret := (some .boolean)) (own := RX12) (lv := [(0, .int p0), (1, .int p1)]) (by decide) rfl rfl (Nat.le_of_ble_eq_true rfl) rfl ?_
  intro a A hla F
  subst hla
  unfold f_X12_has at hf
  refine rw_iload_n F dX12_has_0 rfl 0 rfl ?_
  refine rw_iload_n F dX12_has_1 rfl 1 rfl ?_
  refine rw_ishr F dX12_has_2 ?_
  refine rw_iconst F (v := 1) dX12_has_3 (by decide) ?_
  refine rw_iand F dX12_has_4 ?_
  refine rw_iconst F (v := 1) dX12_has_5 (by decide) ?_
  refine rw_icmp_ne F (tgt := 13) hf dX12_has_6 (by decide) (fun hc1 hf => ?_) (fun hc1 hf => ?_)
  · refine rw_iconst F (v := 0) dX12_has_13 (by decide) ?_
    exact rw_zretZ F (by decide) hf rfl dX12_has_14
  · refine rw_iconst F (v := 1) dX12_has_9 (by decide) ?_
    refine rw_goto F (tgt := 14) dX12_has_10 (by decide) ?_
    exact rw_zretZ F (by decide) hf rfl dX12_has_14

abbrev rm_X12_bits : Room := { frames := 0, cells := 0, slots := 0, locals := 0 }
abbrev FX_X12_bits (a : Ax) (Z : Zx) (A : Nat → Prop) : Prop := FX a (XM Z) A cX12_bits RX12 wsX12_bits 3 (some .int) rm_X12_bits
set_option maxHeartbeats 4000000 in
set_option maxRecDepth 100000 in
theorem b_X12_bits_b4 {a : Ax} {Z : Zx} {A : Nat → Prop} {r : Int32} {f : Nat → Nat → Int32} (F : FX_X12_bits a Z A) : ∀ (n : Nat) (i0 : Int32) (i1 : Int32) (i2 : Int32), f_X12_bits_b4 n i0 i1 i2 f = some r → WS a (XM Z) A 3 (RP a (XM Z) A (PI r f)) 4 [(0, .int i0), (1, .int i1), (2, .int i2)] [] f := by
  intro n
  induction n with
  | zero => intro i0 i1 i2 hf; exact nomatch (show (none : Option Int32) = some r from hf)
  | succ n hK4 =>
    intro i0 i1 i2 hf
    replace hf : f_X12_bits_b4s (fun i0 i1 i2 => f_X12_bits_b4 n i0 i1 i2 f) i0 i1 i2 f = some r := hf
    unfold f_X12_bits_b4s at hf
    refine rw_iload_n F dX12_bits_4 rfl 2 rfl ?_
    refine rw_bipush F (v := 9) dX12_bits_5 (by decide) ?_
    refine rw_icmp_ge F (tgt := 24) hf dX12_bits_7 (by decide) (fun hc1 hf => ?_) (fun hc1 hf => ?_)
    · refine rw_iload_n F dX12_bits_24 rfl 1 rfl ?_
      exact rw_iret F hf rfl dX12_bits_25
    · refine rw_iload_n F dX12_bits_10 rfl 1 rfl ?_
      refine rw_iload_n F dX12_bits_11 rfl 0 rfl ?_
      refine rw_iload_n F dX12_bits_12 rfl 2 rfl ?_
      refine rw_ishr F dX12_bits_13 ?_
      refine rw_iconst F (v := 1) dX12_bits_14 (by decide) ?_
      refine rw_iand F dX12_bits_15 ?_
      refine rw_iadd F dX12_bits_16 ?_
      refine rw_istore_n F dX12_bits_17 rfl (by decide) rfl ?_
      refine rw_iinc F (v := 1) dX12_bits_18 2 rfl (by decide) (by decide) rfl ?_
      refine rw_goto F (tgt := 4) dX12_bits_21 (by decide) ?_
      exact WS.sub [2, 1, 0] rfl (hK4 _ _ _ hf)

set_option maxHeartbeats 4000000 in
set_option maxRecDepth 100000 in
theorem c_X12_bits (l : Launch) (Z : Zx) (p0 : Int32) (f : Nat → Nat → Int32) (r : Int32) (hf : f_X12_bits p0 f = some r) : MS l (XM Z) yX12_bits wsX12_bits rm_X12_bits [.int p0] f (PI r f) := by
  refine MS.of (cc := cX12_bits) (maxL := 3) (ret := (some .int)) (own := RX12) (lv := [(0, .int p0)]) (by decide) rfl rfl (Nat.le_of_ble_eq_true rfl) rfl ?_
  intro a A hla F
  subst hla
  unfold f_X12_bits at hf
  refine rw_iconst F (v := 0) dX12_bits_0 (by decide) ?_
  refine rw_istore_n F dX12_bits_1 rfl (by decide) rfl ?_
  refine rw_iconst F (v := 0) dX12_bits_2 (by decide) ?_
  refine rw_istore_n F dX12_bits_3 rfl (by decide) rfl ?_
  exact WS.sub [2, 1, 0] rfl (b_X12_bits_b4 F  fuB _ _ _ hf)

abbrev rm_X12_places : Room := { frames := 0, cells := 0, slots := 0, locals := 0 }
abbrev FX_X12_places (a : Ax) (Z : Zx) (A : Nat → Prop) : Prop := FX a (XM Z) A cX12_places RX12 wsX12_places 1 (some .int) rm_X12_places
theorem iw_X12_places_X12 : ∀ w ∈ wsX120, w ∈ wsX12_places := by decide +kernel
theorem lk_X12_places_75 : Cond.fieldLink RX12 75 (TX12 0).1 (TX12 0).2.1 (TX12 0).2.2.1 ∈ wsX12_places := by decide +kernel
set_option maxHeartbeats 4000000 in
set_option maxRecDepth 100000 in
theorem c_X12_places (l : Launch) (Z : Zx) (f : Nat → Nat → Int32) (r : Int32) (hf : f_X12_places f = some r) : MS l (XM Z) yX12_places wsX12_places rm_X12_places [.ref (Z.2.1 0)] f (PI r f) := by
  refine MS.of (cc := cX12_places) (maxL := 1) (ret := (some .int)) (own := RX12) (lv := [(0, .ref (Z.2.1 0))]) (by decide) rfl rfl (Nat.le_of_ble_eq_true rfl) rfl ?_
  intro a A hla F
  subst hla
  unfold f_X12_places at hf
  refine rw_aload_n F dX12_places_0 rfl 0 rfl ?_
  refine rw_get F 0 (show 0 < 20 by decide) (gM_0 Z _) iw_X12_places_X12 rfl 0 (by decide) lk_X12_places_75 rfl dX12_places_1 ?_
  refine rw_if_ne F (tgt := 11) hf dX12_places_4 (by decide) (fun hc1 hf => ?_) (fun hc1 hf => ?_)
  · refine rw_aload_n F dX12_places_11 rfl 0 rfl ?_
    refine rw_get F 0 (show 0 < 20 by decide) (gM_0 Z _) iw_X12_places_X12 rfl 0 (by decide) lk_X12_places_75 rfl dX12_places_12 ?_
    refine rw_iconst F (v := 1) dX12_places_15 (by decide) ?_
    refine rw_iadd F dX12_places_16 ?_
    exact rw_iret F hf rfl dX12_places_17
  · refine rw_iconst F (v := 0) dX12_places_7 (by decide) ?_
    refine rw_goto F (tgt := 17) dX12_places_8 (by decide) ?_
    exact rw_iret F hf rfl dX12_places_17

abbrev rm_X12_isPlace : Room := { frames := 1, cells := 0, slots := 0, locals := 25 }
abbrev FX_X12_isPlace (a : Ax) (Z : Zx) (A : Nat → Prop) : Prop := FX a (XM Z) A cX12_isPlace RX12 wsX12_isPlace 2 (some .boolean) rm_X12_isPlace
set_option maxHeartbeats 4000000 in
set_option maxRecDepth 100000 in
theorem c_X12_isPlace (l : Launch) (Z : Zx) (p1 : Int32) (f : Nat → Nat → Int32) (r : Int32) (hf : f_X12_isPlace p1 f = some r) : MS l (XM Z) yX12_isPlace wsX12_isPlace rm_X12_isPlace [.ref (Z.2.1 0), .int p1] f (PI r f) := by
  refine MS.of (cc := cX12_isPlace) (maxL := 2) (ret := (some .boolean)) (own := RX12) (lv := [(0, .ref (Z.2.1 0)), (1, .int p1)]) (by decide) rfl rfl (Nat.le_of_ble_eq_true rfl) rfl ?_
  intro a A hla F
  subst hla
  unfold f_X12_isPlace at hf
  refine rw_iload_n F dX12_isPlace_0 rfl 1 rfl ?_
  refine rw_i2l F dX12_isPlace_1 ?_
  refine rw_lconst F (v := 0) dX12_isPlace_2 (by decide) ?_
  refine rw_aload_n F dX12_isPlace_3 rfl 0 rfl ?_
  obtain ⟨q2, hq1, hf⟩ := bind_h hf
  refine rw_callVI F (k0 := 0) (nA := 0) (c_X12_places (aL a) Z  _ _ hq1) gX12_isPlace_X12_places rfl ⟨rfl, rfl⟩ (by decide +kernel) ⟨Nat.le_of_ble_eq_true rfl, Nat.le_of_ble_eq_true rfl⟩ (show 0 < 20 by decide) (gM_0 Z _) rfl rfl rfl (Nat.le_of_ble_eq_true rfl) dX12_isPlace_4 ?_
  refine rw_iconst F (v := 1) dX12_isPlace_7 (by decide) ?_
  refine rw_isub F dX12_isPlace_8 ?_
  refine rw_i2l F dX12_isPlace_9 ?_
  obtain ⟨q4, hq3, hf⟩ := bind_h hf
  refine rw_callSI F (nA := 3) (c_X12_in (aL a) Z _ _ _ _ _ hq3) gX12_isPlace_X12_in rfl ⟨rfl, rfl⟩ (by decide +kernel) ⟨Nat.le_of_ble_eq_true rfl, Nat.le_of_ble_eq_true rfl⟩ rfl rfl (Nat.le_of_ble_eq_true rfl) dX12_isPlace_10 ?_
  exact rw_zret F hf rfl dX12_isPlace_13

abbrev rm_X12_isPlaces : Room := { frames := 1, cells := 0, slots := 0, locals := 25 }
abbrev FX_X12_isPlaces (a : Ax) (Z : Zx) (A : Nat → Prop) : Prop := FX a (XM Z) A cX12_isPlaces RX12 wsX12_isPlaces 2 (some .boolean) rm_X12_isPlaces
set_option maxHeartbeats 4000000 in
set_option maxRecDepth 100000 in
theorem c_X12_isPlaces (l : Launch) (Z : Zx) (p1 : Int32) (f : Nat → Nat → Int32) (r : Int32) (hf : f_X12_isPlaces p1 f = some r) : MS l (XM Z) yX12_isPlaces wsX12_isPlaces rm_X12_isPlaces [.ref (Z.2.1 0), .int p1] f (PI r f) := by
  refine MS.of (cc := cX12_isPlaces) (maxL := 2) (ret := (some .boolean)) (own := RX12) (lv := [(0, .ref (Z.2.1 0)), (1, .int p1)]) (by decide) rfl rfl (Nat.le_of_ble_eq_true rfl) rfl ?_
  intro a A hla F
  subst hla
  unfold f_X12_isPlaces at hf
  refine rw_iload_n F dX12_isPlaces_0 rfl 1 rfl ?_
  refine rw_i2l F dX12_isPlaces_1 ?_
  refine rw_lconst F (v := 0) dX12_isPlaces_2 (by decide) ?_
  refine rw_iconst F (v := 1) dX12_isPlaces_3 (by decide) ?_
  refine rw_aload_n F dX12_isPlaces_4 rfl 0 rfl ?_
  obtain ⟨q2, hq1, hf⟩ := bind_h hf
  refine rw_callVI F (k0 := 0) (nA := 0) (c_X12_places (aL a) Z  _ _ hq1) gX12_isPlaces_X12_places rfl ⟨rfl, rfl⟩ (by decide +kernel) ⟨Nat.le_of_ble_eq_true rfl, Nat.le_of_ble_eq_true rfl⟩ (show 0 < 20 by decide) (gM_0 Z _) rfl rfl rfl (Nat.le_of_ble_eq_true rfl) dX12_isPlaces_5 ?_
  refine rw_ishl F dX12_isPlaces_8 ?_
  refine rw_iconst F (v := 1) dX12_isPlaces_9 (by decide) ?_
  refine rw_isub F dX12_isPlaces_10 ?_
  refine rw_i2l F dX12_isPlaces_11 ?_
  obtain ⟨q4, hq3, hf⟩ := bind_h hf
  refine rw_callSI F (nA := 3) (c_X12_in (aL a) Z _ _ _ _ _ hq3) gX12_isPlaces_X12_in rfl ⟨rfl, rfl⟩ (by decide +kernel) ⟨Nat.le_of_ble_eq_true rfl, Nat.le_of_ble_eq_true rfl⟩ rfl rfl (Nat.le_of_ble_eq_true rfl) dX12_isPlaces_12 ?_
  exact rw_zret F hf rfl dX12_isPlaces_15

abbrev rm_X12_isSound : Room := { frames := 1, cells := 0, slots := 0, locals := 25 }
abbrev FX_X12_isSound (a : Ax) (Z : Zx) (A : Nat → Prop) : Prop := FX a (XM Z) A cX12_isSound RX12 wsX12_isSound 2 (some .boolean) rm_X12_isSound
theorem iw_X12_isSound_X12 : ∀ w ∈ wsX120, w ∈ wsX12_isSound := by decide +kernel
theorem lk_X12_isSound_86 : Cond.fieldLink RX12 86 (TX12 1).1 (TX12 1).2.1 (TX12 1).2.2.1 ∈ wsX12_isSound := by decide +kernel
set_option maxHeartbeats 4000000 in
set_option maxRecDepth 100000 in
theorem c_X12_isSound (l : Launch) (Z : Zx) (p1 : Int32) (f : Nat → Nat → Int32) (r : Int32) (hf : f_X12_isSound p1 f = some r) : MS l (XM Z) yX12_isSound wsX12_isSound rm_X12_isSound [.ref (Z.2.1 0), .int p1] f (PI r f) := by
  refine MS.of (cc := cX12_isSound) (maxL := 2) (ret := (some .boolean)) (own := RX12) (lv := [(0, .ref (Z.2.1 0)), (1, .int p1)]) (by decide) rfl rfl (Nat.le_of_ble_eq_true rfl) rfl ?_
  intro a A hla F
  subst hla
  unfold f_X12_isSound at hf
  refine rw_iload_n F dX12_isSound_0 rfl 1 rfl ?_
  refine rw_i2l F dX12_isSound_1 ?_
  refine rw_lconst F (v := 0) dX12_isSound_2 (by decide) ?_
  refine rw_aload_n F dX12_isSound_3 rfl 0 rfl ?_
  refine rw_get F 0 (show 0 < 20 by decide) (gM_0 Z _) iw_X12_isSound_X12 rfl 1 (by decide) lk_X12_isSound_86 rfl dX12_isSound_4 ?_
  refine rw_iconst F (v := 1) dX12_isSound_7 (by decide) ?_
  refine rw_isub F dX12_isSound_8 ?_
  refine rw_i2l F dX12_isSound_9 ?_
  obtain ⟨q2, hq1, hf⟩ := bind_h hf
  refine rw_callSI F (nA := 3) (c_X12_in (aL a) Z _ _ _ _ _ hq1) gX12_isSound_X12_in rfl ⟨rfl, rfl⟩ (by decide +kernel) ⟨Nat.le_of_ble_eq_true rfl, Nat.le_of_ble_eq_true rfl⟩ rfl rfl (Nat.le_of_ble_eq_true rfl) dX12_isSound_10 ?_
  exact rw_zret F hf rfl dX12_isSound_13

abbrev rm_X12_isWitness : Room := { frames := 1, cells := 0, slots := 0, locals := 25 }
abbrev FX_X12_isWitness (a : Ax) (Z : Zx) (A : Nat → Prop) : Prop := FX a (XM Z) A cX12_isWitness RX12 wsX12_isWitness 2 (some .boolean) rm_X12_isWitness
theorem iw_X12_isWitness_X12 : ∀ w ∈ wsX120, w ∈ wsX12_isWitness := by decide +kernel
theorem lk_X12_isWitness_89 : Cond.fieldLink RX12 89 (TX12 4).1 (TX12 4).2.1 (TX12 4).2.2.1 ∈ wsX12_isWitness := by decide +kernel
set_option maxHeartbeats 4000000 in
set_option maxRecDepth 100000 in
theorem c_X12_isWitness (l : Launch) (Z : Zx) (p1 : Int32) (f : Nat → Nat → Int32) (r : Int32) (hf : f_X12_isWitness p1 f = some r) : MS l (XM Z) yX12_isWitness wsX12_isWitness rm_X12_isWitness [.ref (Z.2.1 0), .int p1] f (PI r f) := by
  refine MS.of (cc := cX12_isWitness) (maxL := 2) (ret := (some .boolean)) (own := RX12) (lv := [(0, .ref (Z.2.1 0)), (1, .int p1)]) (by decide) rfl rfl (Nat.le_of_ble_eq_true rfl) rfl ?_
  intro a A hla F
  subst hla
  unfold f_X12_isWitness at hf
  refine rw_iload_n F dX12_isWitness_0 rfl 1 rfl ?_
  refine rw_i2l F dX12_isWitness_1 ?_
  refine rw_lconst F (v := 0) dX12_isWitness_2 (by decide) ?_
  refine rw_aload_n F dX12_isWitness_3 rfl 0 rfl ?_
  refine rw_get F 0 (show 0 < 20 by decide) (gM_0 Z _) iw_X12_isWitness_X12 rfl 4 (by decide) lk_X12_isWitness_89 rfl dX12_isWitness_4 ?_
  refine rw_iconst F (v := 1) dX12_isWitness_7 (by decide) ?_
  refine rw_isub F dX12_isWitness_8 ?_
  refine rw_i2l F dX12_isWitness_9 ?_
  obtain ⟨q2, hq1, hf⟩ := bind_h hf
  refine rw_callSI F (nA := 3) (c_X12_in (aL a) Z _ _ _ _ _ hq1) gX12_isWitness_X12_in rfl ⟨rfl, rfl⟩ (by decide +kernel) ⟨Nat.le_of_ble_eq_true rfl, Nat.le_of_ble_eq_true rfl⟩ rfl rfl (Nat.le_of_ble_eq_true rfl) dX12_isWitness_10 ?_
  exact rw_zret F hf rfl dX12_isWitness_13

abbrev rm_X12_feed : Room := { frames := 1, cells := 0, slots := 0, locals := 25 }
abbrev FX_X12_feed (a : Ax) (Z : Zx) (A : Nat → Prop) : Prop := FX a (XM Z) A cX12_feed RX12 wsX12_feed 2 (some .int) rm_X12_feed
theorem iw_X12_feed_X12 : ∀ w ∈ wsX120, w ∈ wsX12_feed := by decide +kernel
theorem lk_X12_feed_25 : Cond.fieldLink RX12 25 (TX12 9).1 (TX12 9).2.1 (TX12 9).2.2.1 ∈ wsX12_feed := by decide +kernel
theorem lk_X12_feed_95 : Cond.fieldLink RX12 95 (TX12 10).1 (TX12 10).2.1 (TX12 10).2.2.1 ∈ wsX12_feed := by decide +kernel
set_option maxHeartbeats 4000000 in
set_option maxRecDepth 100000 in
theorem c_X12_feed (l : Launch) (Z : Zx) (p1 : Int32) (f : Nat → Nat → Int32) (r : (Int32 × (Nat → Nat → Int32))) (hf : f_X12_feed p1 f = some r) : MS l (XM Z) yX12_feed wsX12_feed rm_X12_feed [.ref (Z.2.1 0), .int p1] f (PI r.1 r.2) := by
  refine MS.of (cc := cX12_feed) (maxL := 2) (ret := (some .int)) (own := RX12) (lv := [(0, .ref (Z.2.1 0)), (1, .int p1)]) (by decide) rfl rfl (Nat.le_of_ble_eq_true rfl) rfl ?_
  intro a A hla F
  subst hla
  unfold f_X12_feed at hf
  refine rw_iload_n F dX12_feed_0 rfl 1 rfl ?_
  refine rw_i2l F dX12_feed_1 ?_
  refine rw_lconst F (v := 0) dX12_feed_2 (by decide) ?_
  refine rw_ldc2 F (v := 255) dX12_feed_3 (by decide +kernel) ?_
  obtain ⟨q2, hq1, hf⟩ := bind_h hf
  refine rw_callSI F (nA := 3) (c_X12_in (aL a) Z _ _ _ _ _ hq1) gX12_feed_X12_in rfl ⟨rfl, rfl⟩ (by decide +kernel) ⟨Nat.le_of_ble_eq_true rfl, Nat.le_of_ble_eq_true rfl⟩ rfl rfl (Nat.le_of_ble_eq_true rfl) dX12_feed_6 ?_
  refine rw_if_ne F (tgt := 15) hf dX12_feed_9 (by decide) (fun hc5 hf => ?_) (fun hc5 hf => ?_)
  · refine rw_aload_n F dX12_feed_15 rfl 0 rfl ?_
    refine rw_get F 0 (show 0 < 20 by decide) (gM_0 Z _) iw_X12_feed_X12 rfl 10 (by decide) lk_X12_feed_95 rfl dX12_feed_16 ?_
    refine rw_sipush F (v := 240) dX12_feed_19 (by decide) ?_
    refine rw_icmp_ne F (tgt := 28) hf dX12_feed_22 (by decide) (fun hc4 hf => ?_) (fun hc4 hf => ?_)
    · refine rw_aload_n F dX12_feed_28 rfl 0 rfl ?_
      refine rw_get F 0 (show 0 < 20 by decide) (gM_0 Z _) iw_X12_feed_X12 rfl 9 (by decide) lk_X12_feed_25 rfl dX12_feed_29 ?_
      refine rw_aload_n F dX12_feed_32 rfl 0 rfl ?_
      refine rw_get F 0 (show 0 < 20 by decide) (gM_0 Z _) iw_X12_feed_X12 rfl 10 (by decide) lk_X12_feed_95 rfl dX12_feed_33 ?_
      refine rw_iload_n F dX12_feed_36 rfl 1 rfl ?_
      obtain ⟨hi3, hf⟩ := ck_h hf
      refine rw_iast F 6 (show 6 < 20 by decide) (gM_6 Z) 0 rfl hi3 dX12_feed_37 ?_
      refine rw_aload_n F dX12_feed_38 rfl 0 rfl ?_
      refine rw_dup F dX12_feed_39 rfl ?_
      refine rw_get F 0 (show 0 < 20 by decide) (gM_0 Z _) iw_X12_feed_X12 rfl 10 (by decide) lk_X12_feed_95 rfl dX12_feed_40 ?_
      refine rw_iconst F (v := 1) dX12_feed_43 (by decide) ?_
      refine rw_iadd F dX12_feed_44 ?_
      refine rw_put F 0 (show 0 < 20 by decide) (gM_0 Z) iw_X12_feed_X12 tyX12 tyX12_ok nmX12 rfl 10 (by decide) lk_X12_feed_95 rfl rfl rfl (fun _ => by rw [lnM0]; decide) (stM0_10 Z.2.1) dX12_feed_45 ?_
      refine rw_aload_n F dX12_feed_48 rfl 0 rfl ?_
      refine rw_get F 0 (show 0 < 20 by decide) (gM_0 Z _) iw_X12_feed_X12 rfl 10 (by decide) lk_X12_feed_95 rfl dX12_feed_49 ?_
      exact rw_iretS F hf rfl dX12_feed_52
    · refine rw_ldc F (v := -1000000004) dX12_feed_25 (by decide +kernel) ?_
      exact rw_iretS F hf rfl dX12_feed_27
  · refine rw_ldc F (v := -1000000002) dX12_feed_12 (by decide +kernel) ?_
    exact rw_iretS F hf rfl dX12_feed_14

abbrev rm_X12_here : Room := { frames := 0, cells := 0, slots := 0, locals := 0 }
abbrev FX_X12_here (a : Ax) (Z : Zx) (A : Nat → Prop) : Prop := FX a (XM Z) A cX12_here RX12 wsX12_here 1 (some .int) rm_X12_here
theorem iw_X12_here_X12 : ∀ w ∈ wsX120, w ∈ wsX12_here := by decide +kernel
theorem lk_X12_here_25 : Cond.fieldLink RX12 25 (TX12 9).1 (TX12 9).2.1 (TX12 9).2.2.1 ∈ wsX12_here := by decide +kernel
theorem lk_X12_here_95 : Cond.fieldLink RX12 95 (TX12 10).1 (TX12 10).2.1 (TX12 10).2.2.1 ∈ wsX12_here := by decide +kernel
theorem lk_X12_here_99 : Cond.fieldLink RX12 99 (TX12 12).1 (TX12 12).2.1 (TX12 12).2.2.1 ∈ wsX12_here := by decide +kernel
set_option maxHeartbeats 4000000 in
set_option maxRecDepth 100000 in
theorem b_X12_here_b38 {a : Ax} {Z : Zx} {A : Nat → Prop} {r : (Int32 × (Nat → Nat → Int32))} (F : FX_X12_here a Z A) : ∀ (f : Nat → Nat → Int32), f_X12_here_b38  f = some r → WS a (XM Z) A 1 (RP a (XM Z) A (PI r.1 r.2)) 38 [(0, .ref (Z.2.1 0))] [] f := by
  intro  f hf
  unfold f_X12_here_b38 at hf
  refine rw_aload_n F dX12_here_38 rfl 0 rfl ?_
  refine rw_get F 0 (show 0 < 20 by decide) (gM_0 Z _) iw_X12_here_X12 rfl 12 (by decide) lk_X12_here_99 rfl dX12_here_39 ?_
  refine rw_aload_n F dX12_here_42 rfl 0 rfl ?_
  refine rw_get F 0 (show 0 < 20 by decide) (gM_0 Z _) iw_X12_here_X12 rfl 10 (by decide) lk_X12_here_95 rfl dX12_here_43 ?_
  refine rw_icmp_ge F (tgt := 61) hf dX12_here_46 (by decide) (fun hc2 hf => ?_) (fun hc2 hf => ?_)
  · refine rw_iconst F (v := -1) dX12_here_61 (by decide) ?_
    exact rw_iretS F hf rfl dX12_here_62
  · refine rw_aload_n F dX12_here_49 rfl 0 rfl ?_
    refine rw_get F 0 (show 0 < 20 by decide) (gM_0 Z _) iw_X12_here_X12 rfl 9 (by decide) lk_X12_here_25 rfl dX12_here_50 ?_
    refine rw_aload_n F dX12_here_53 rfl 0 rfl ?_
    refine rw_get F 0 (show 0 < 20 by decide) (gM_0 Z _) iw_X12_here_X12 rfl 12 (by decide) lk_X12_here_99 rfl dX12_here_54 ?_
    obtain ⟨hi1, hf⟩ := ck_h hf
    refine rw_iald F 6 (show 6 < 20 by decide) (gM_6 Z _) 0 rfl hi1 dX12_here_57 ?_
    refine rw_goto F (tgt := 62) dX12_here_58 (by decide) ?_
    exact rw_iretS F hf rfl dX12_here_62

set_option maxHeartbeats 4000000 in
set_option maxRecDepth 100000 in
theorem b_X12_here_b0 {a : Ax} {Z : Zx} {A : Nat → Prop} {r : (Int32 × (Nat → Nat → Int32))} (F : FX_X12_here a Z A) : ∀ (n : Nat) (f : Nat → Nat → Int32), f_X12_here_b0 n  f = some r → WS a (XM Z) A 1 (RP a (XM Z) A (PI r.1 r.2)) 0 [(0, .ref (Z.2.1 0))] [] f := by
  intro n
  induction n with
  | zero => intro  f hf; exact nomatch (show (none : Option (Int32 × (Nat → Nat → Int32))) = some r from hf)
  | succ n hK0 =>
    intro  f hf
    replace hf : f_X12_here_b0s (f_X12_here_b0 n)  f = some r := hf
    unfold f_X12_here_b0s at hf
    refine rw_aload_n F dX12_here_0 rfl 0 rfl ?_
    refine rw_get F 0 (show 0 < 20 by decide) (gM_0 Z _) iw_X12_here_X12 rfl 12 (by decide) lk_X12_here_99 rfl dX12_here_1 ?_
    refine rw_aload_n F dX12_here_4 rfl 0 rfl ?_
    refine rw_get F 0 (show 0 < 20 by decide) (gM_0 Z _) iw_X12_here_X12 rfl 10 (by decide) lk_X12_here_95 rfl dX12_here_5 ?_
    refine rw_icmp_ge F (tgt := 38) hf dX12_here_8 (by decide) (fun hc5 hf => ?_) (fun hc5 hf => ?_)
    · exact WS.sub [0] rfl (b_X12_here_b38 F  _ hf)
    · refine rw_aload_n F dX12_here_11 rfl 0 rfl ?_
      refine rw_get F 0 (show 0 < 20 by decide) (gM_0 Z _) iw_X12_here_X12 rfl 9 (by decide) lk_X12_here_25 rfl dX12_here_12 ?_
      refine rw_aload_n F dX12_here_15 rfl 0 rfl ?_
      refine rw_get F 0 (show 0 < 20 by decide) (gM_0 Z _) iw_X12_here_X12 rfl 12 (by decide) lk_X12_here_99 rfl dX12_here_16 ?_
      obtain ⟨hi3, hf⟩ := ck_h hf
      refine rw_iald F 6 (show 6 < 20 by decide) (gM_6 Z _) 0 rfl hi3 dX12_here_19 ?_
      refine rw_bipush F (v := 32) dX12_here_20 (by decide) ?_
      refine rw_icmp_ne F (tgt := 38) hf dX12_here_22 (by decide) (fun hc4 hf => ?_) (fun hc4 hf => ?_)
      · exact WS.sub [0] rfl (b_X12_here_b38 F  _ hf)
      · refine rw_aload_n F dX12_here_25 rfl 0 rfl ?_
        refine rw_dup F dX12_here_26 rfl ?_
        refine rw_get F 0 (show 0 < 20 by decide) (gM_0 Z _) iw_X12_here_X12 rfl 12 (by decide) lk_X12_here_99 rfl dX12_here_27 ?_
        refine rw_iconst F (v := 1) dX12_here_30 (by decide) ?_
        refine rw_iadd F dX12_here_31 ?_
        refine rw_put F 0 (show 0 < 20 by decide) (gM_0 Z) iw_X12_here_X12 tyX12 tyX12_ok nmX12 rfl 12 (by decide) lk_X12_here_99 rfl rfl rfl (fun _ => by rw [lnM0]; decide) (stM0_12 Z.2.1) dX12_here_32 ?_
        refine rw_goto F (tgt := 0) dX12_here_35 (by decide) ?_
        exact WS.sub [0] rfl (hK0 _ hf)

set_option maxHeartbeats 4000000 in
set_option maxRecDepth 100000 in
theorem c_X12_here (l : Launch) (Z : Zx) (f : Nat → Nat → Int32) (r : (Int32 × (Nat → Nat → Int32))) (hf : f_X12_here f = some r) : MS l (XM Z) yX12_here wsX12_here rm_X12_here [.ref (Z.2.1 0)] f (PI r.1 r.2) := by
  refine MS.of (cc := cX12_here) (maxL := 1) (ret := (some .int)) (own := RX12) (lv := [(0, .ref (Z.2.1 0))]) (by decide) rfl rfl (Nat.le_of_ble_eq_true rfl) rfl ?_
  intro a A hla F
  subst hla
  unfold f_X12_here at hf
  exact WS.sub [0] rfl (b_X12_here_b0 F  fuB _ hf)

abbrev rm_X12_fails : Room := { frames := 0, cells := 0, slots := 0, locals := 0 }
abbrev FX_X12_fails (a : Ax) (Z : Zx) (A : Nat → Prop) : Prop := FX a (XM Z) A cX12_fails RX12 wsX12_fails 3 (some .int) rm_X12_fails
theorem iw_X12_fails_X12 : ∀ w ∈ wsX120, w ∈ wsX12_fails := by decide +kernel
theorem lk_X12_fails_28 : Cond.fieldLink RX12 28 (TX12 11).1 (TX12 11).2.1 (TX12 11).2.2.1 ∈ wsX12_fails := by decide +kernel
set_option maxHeartbeats 4000000 in
set_option maxRecDepth 100000 in
theorem c_X12_fails (l : Launch) (Z : Zx) (p1 : Int32) (p2 : Int32) (f : Nat → Nat → Int32) (r : (Int32 × (Nat → Nat → Int32))) (hf : f_X12_fails p1 p2 f = some r) : MS l (XM Z) yX12_fails wsX12_fails rm_X12_fails [.ref (Z.2.1 0), .int p1, .int p2] f (PI r.1 r.2) := by
  refine MS.of (cc := cX12_fails) (maxL := 3) (ret := (some .int)) (own := RX12) (lv := [(0, .ref (Z.2.1 0)), (1, .int p1), (2, .int p2)]) (by decide) rfl rfl (Nat.le_of_ble_eq_true rfl) rfl ?_
  intro a A hla F
  subst hla
  unfold f_X12_fails at hf
  refine rw_aload_n F dX12_fails_0 rfl 0 rfl ?_
  refine rw_iload_n F dX12_fails_1 rfl 2 rfl ?_
  refine rw_put F 0 (show 0 < 20 by decide) (gM_0 Z) iw_X12_fails_X12 tyX12 tyX12_ok nmX12 rfl 11 (by decide) lk_X12_fails_28 rfl rfl rfl (fun _ => by rw [lnM0]; decide) (stM0_11 Z.2.1) dX12_fails_2 ?_
  refine rw_iload_n F dX12_fails_5 rfl 1 rfl ?_
  exact rw_iretS F hf rfl dX12_fails_6

abbrev rm_X12_takeNumber : Room := { frames := 1, cells := 0, slots := 0, locals := 25 }
abbrev FX_X12_takeNumber (a : Ax) (Z : Zx) (A : Nat → Prop) : Prop := FX a (XM Z) A cX12_takeNumber RX12 wsX12_takeNumber 4 (some .int) rm_X12_takeNumber
theorem iw_X12_takeNumber_X12 : ∀ w ∈ wsX120, w ∈ wsX12_takeNumber := by decide +kernel
theorem lk_X12_takeNumber_25 : Cond.fieldLink RX12 25 (TX12 9).1 (TX12 9).2.1 (TX12 9).2.2.1 ∈ wsX12_takeNumber := by decide +kernel
theorem lk_X12_takeNumber_95 : Cond.fieldLink RX12 95 (TX12 10).1 (TX12 10).2.1 (TX12 10).2.2.1 ∈ wsX12_takeNumber := by decide +kernel
theorem lk_X12_takeNumber_99 : Cond.fieldLink RX12 99 (TX12 12).1 (TX12 12).2.1 (TX12 12).2.2.1 ∈ wsX12_takeNumber := by decide +kernel
theorem lk_X12_takeNumber_113 : Cond.fieldLink RX12 113 (TX12 14).1 (TX12 14).2.1 (TX12 14).2.2.1 ∈ wsX12_takeNumber := by decide +kernel
theorem lk_X12_takeNumber_116 : Cond.fieldLink RX12 116 (TX12 13).1 (TX12 13).2.1 (TX12 13).2.2.1 ∈ wsX12_takeNumber := by decide +kernel
set_option maxHeartbeats 4000000 in
set_option maxRecDepth 100000 in
theorem b_X12_takeNumber_b157 {a : Ax} {Z : Zx} {A : Nat → Prop} {r : (Int32 × (Nat → Nat → Int32))} (F : FX_X12_takeNumber a Z A) : ∀ (f : Nat → Nat → Int32), f_X12_takeNumber_b157  f = some r → WS a (XM Z) A 4 (RP a (XM Z) A (PI r.1 r.2)) 157 [(0, .ref (Z.2.1 0))] [] f := by
  intro  f hf
  unfold f_X12_takeNumber_b157 at hf
  refine rw_aload_n F dX12_takeNumber_157 rfl 0 rfl ?_
  refine rw_iconst F (v := 2) dX12_takeNumber_158 (by decide) ?_
  refine rw_aload_n F dX12_takeNumber_159 rfl 0 rfl ?_
  refine rw_get F 0 (show 0 < 20 by decide) (gM_0 Z _) iw_X12_takeNumber_X12 rfl 14 (by decide) lk_X12_takeNumber_113 rfl dX12_takeNumber_160 ?_
  obtain ⟨q6, hq5, hf⟩ := bind_h hf
  refine rw_callVI F (k0 := 0) (nA := 2) (c_X12_fails (aL a) Z _ _ _ _ hq5) gX12_takeNumber_X12_fails rfl ⟨rfl, rfl⟩ (by decide +kernel) ⟨Nat.le_of_ble_eq_true rfl, Nat.le_of_ble_eq_true rfl⟩ (show 0 < 20 by decide) (gM_0 Z _) rfl rfl rfl (Nat.le_of_ble_eq_true rfl) dX12_takeNumber_163 ?_
  refine rw_goto F (tgt := 170) dX12_takeNumber_166 (by decide) ?_
  exact rw_iretS F hf rfl dX12_takeNumber_170

set_option maxHeartbeats 4000000 in
set_option maxRecDepth 100000 in
theorem b_X12_takeNumber_b129 {a : Ax} {Z : Zx} {A : Nat → Prop} {r : (Int32 × (Nat → Nat → Int32))} (F : FX_X12_takeNumber a Z A) : ∀ (i1 : Int32) (i2 : Int32) (f : Nat → Nat → Int32), f_X12_takeNumber_b129 i1 i2 f = some r → WS a (XM Z) A 4 (RP a (XM Z) A (PI r.1 r.2)) 129 [(0, .ref (Z.2.1 0)), (1, .int i1), (2, .int i2)] [] f := by
  intro i1 i2 f hf
  unfold f_X12_takeNumber_b129 at hf
  refine rw_aload_n F dX12_takeNumber_129 rfl 0 rfl ?_
  refine rw_get F 0 (show 0 < 20 by decide) (gM_0 Z _) iw_X12_takeNumber_X12 rfl 12 (by decide) lk_X12_takeNumber_99 rfl dX12_takeNumber_130 ?_
  refine rw_aload_n F dX12_takeNumber_133 rfl 0 rfl ?_
  refine rw_get F 0 (show 0 < 20 by decide) (gM_0 Z _) iw_X12_takeNumber_X12 rfl 14 (by decide) lk_X12_takeNumber_113 rfl dX12_takeNumber_134 ?_
  refine rw_isub F dX12_takeNumber_137 ?_
  refine rw_iconst F (v := 3) dX12_takeNumber_138 (by decide) ?_
  refine rw_icmp_gt F (tgt := 157) hf dX12_takeNumber_139 (by decide) (fun hc10 hf => ?_) (fun hc10 hf => ?_)
  · exact WS.sub [0] rfl (b_X12_takeNumber_b157 F  _ hf)
  · refine rw_aload_n F dX12_takeNumber_142 rfl 0 rfl ?_
    refine rw_get F 0 (show 0 < 20 by decide) (gM_0 Z _) iw_X12_takeNumber_X12 rfl 13 (by decide) lk_X12_takeNumber_116 rfl dX12_takeNumber_143 ?_
    refine rw_i2l F dX12_takeNumber_146 ?_
    refine rw_iload_n F dX12_takeNumber_147 rfl 1 rfl ?_
    refine rw_i2l F dX12_takeNumber_148 ?_
    refine rw_iload_n F dX12_takeNumber_149 rfl 2 rfl ?_
    refine rw_i2l F dX12_takeNumber_150 ?_
    obtain ⟨q8, hq7, hf⟩ := bind_h hf
    refine rw_callSI F (nA := 3) (c_X12_in (aL a) Z _ _ _ _ _ hq7) gX12_takeNumber_X12_in rfl ⟨rfl, rfl⟩ (by decide +kernel) ⟨Nat.le_of_ble_eq_true rfl, Nat.le_of_ble_eq_true rfl⟩ rfl rfl (Nat.le_of_ble_eq_true rfl) dX12_takeNumber_151 ?_
    refine rw_if_ne F (tgt := 169) hf dX12_takeNumber_154 (by decide) (fun hc9 hf => ?_) (fun hc9 hf => ?_)
    · refine rw_iconst F (v := 0) dX12_takeNumber_169 (by decide) ?_
      exact rw_iretS F hf rfl dX12_takeNumber_170
    · exact WS.sub [0] rfl (b_X12_takeNumber_b157 F  _ hf)

set_option maxHeartbeats 4000000 in
set_option maxRecDepth 100000 in
theorem b_X12_takeNumber_b113 {a : Ax} {Z : Zx} {A : Nat → Prop} {r : (Int32 × (Nat → Nat → Int32))} (F : FX_X12_takeNumber a Z A) (K42 : Int32 → Int32 → (Nat → Nat → Int32) → Option (Int32 × (Nat → Nat → Int32))) (hK42 : ∀ (i1 : Int32) (i2 : Int32) (f : Nat → Nat → Int32), K42 i1 i2 f = some r → WS a (XM Z) A 4 (RP a (XM Z) A (PI r.1 r.2)) 42 [(0, .ref (Z.2.1 0)), (1, .int i1), (2, .int i2)] [] f) : ∀ (i1 : Int32) (i2 : Int32) (s1 : Int32) (f : Nat → Nat → Int32), f_X12_takeNumber_b113 K42 i1 i2 s1 f = some r → WS a (XM Z) A 4 (RP a (XM Z) A (PI r.1 r.2)) 113 [(0, .ref (Z.2.1 0)), (1, .int i1), (2, .int i2)] [.int s1, .ref (Z.2.1 0)] f := by
  intro i1 i2 s1 f hf
  unfold f_X12_takeNumber_b113 at hf
  refine rw_put F 0 (show 0 < 20 by decide) (gM_0 Z) iw_X12_takeNumber_X12 tyX12 tyX12_ok nmX12 rfl 13 (by decide) lk_X12_takeNumber_116 rfl rfl rfl (fun _ => by rw [lnM0]; decide) (stM0_13 Z.2.1) dX12_takeNumber_113 ?_
  refine rw_aload_n F dX12_takeNumber_116 rfl 0 rfl ?_
  refine rw_dup F dX12_takeNumber_117 rfl ?_
  refine rw_get F 0 (show 0 < 20 by decide) (gM_0 Z _) iw_X12_takeNumber_X12 rfl 12 (by decide) lk_X12_takeNumber_99 rfl dX12_takeNumber_118 ?_
  refine rw_iconst F (v := 1) dX12_takeNumber_121 (by decide) ?_
  refine rw_iadd F dX12_takeNumber_122 ?_
  refine rw_put F 0 (show 0 < 20 by decide) (gM_0 Z) iw_X12_takeNumber_X12 tyX12 tyX12_ok nmX12 rfl 12 (by decide) lk_X12_takeNumber_99 rfl rfl rfl (fun _ => by rw [lnM0]; decide) (stM0_12 Z.2.1) dX12_takeNumber_123 ?_
  refine rw_goto F (tgt := 42) dX12_takeNumber_126 (by decide) ?_
  exact WS.sub [0, 1, 2] rfl (hK42 _ _ _ hf)

set_option maxHeartbeats 4000000 in
set_option maxRecDepth 100000 in
theorem b_X12_takeNumber_b42 {a : Ax} {Z : Zx} {A : Nat → Prop} {r : (Int32 × (Nat → Nat → Int32))} (F : FX_X12_takeNumber a Z A) : ∀ (n : Nat) (i1 : Int32) (i2 : Int32) (f : Nat → Nat → Int32), f_X12_takeNumber_b42 n i1 i2 f = some r → WS a (XM Z) A 4 (RP a (XM Z) A (PI r.1 r.2)) 42 [(0, .ref (Z.2.1 0)), (1, .int i1), (2, .int i2)] [] f := by
  intro n
  induction n with
  | zero => intro i1 i2 f hf; exact nomatch (show (none : Option (Int32 × (Nat → Nat → Int32))) = some r from hf)
  | succ n hK42 =>
    intro i1 i2 f hf
    replace hf : f_X12_takeNumber_b42s (f_X12_takeNumber_b42 n) i1 i2 f = some r := hf
    unfold f_X12_takeNumber_b42s at hf
    refine rw_aload_n F dX12_takeNumber_42 rfl 0 rfl ?_
    refine rw_get F 0 (show 0 < 20 by decide) (gM_0 Z _) iw_X12_takeNumber_X12 rfl 12 (by decide) lk_X12_takeNumber_99 rfl dX12_takeNumber_43 ?_
    refine rw_aload_n F dX12_takeNumber_46 rfl 0 rfl ?_
    refine rw_get F 0 (show 0 < 20 by decide) (gM_0 Z _) iw_X12_takeNumber_X12 rfl 10 (by decide) lk_X12_takeNumber_95 rfl dX12_takeNumber_47 ?_
    refine rw_icmp_ge F (tgt := 129) hf dX12_takeNumber_50 (by decide) (fun hc17 hf => ?_) (fun hc17 hf => ?_)
    · exact WS.sub [0, 1, 2] rfl (b_X12_takeNumber_b129 F  _ _ _ hf)
    · refine rw_aload_n F dX12_takeNumber_53 rfl 0 rfl ?_
      refine rw_get F 0 (show 0 < 20 by decide) (gM_0 Z _) iw_X12_takeNumber_X12 rfl 9 (by decide) lk_X12_takeNumber_25 rfl dX12_takeNumber_54 ?_
      refine rw_aload_n F dX12_takeNumber_57 rfl 0 rfl ?_
      refine rw_get F 0 (show 0 < 20 by decide) (gM_0 Z _) iw_X12_takeNumber_X12 rfl 12 (by decide) lk_X12_takeNumber_99 rfl dX12_takeNumber_58 ?_
      obtain ⟨hi11, hf⟩ := ck_h hf
      refine rw_iald F 6 (show 6 < 20 by decide) (gM_6 Z _) 0 rfl hi11 dX12_takeNumber_61 ?_
      refine rw_i2l F dX12_takeNumber_62 ?_
      refine rw_ldc2 F (v := 48) dX12_takeNumber_63 (by decide +kernel) ?_
      refine rw_ldc2 F (v := 57) dX12_takeNumber_66 (by decide +kernel) ?_
      obtain ⟨q13, hq12, hf⟩ := bind_h hf
      refine rw_callSI F (nA := 3) (c_X12_in (aL a) Z _ _ _ _ _ hq12) gX12_takeNumber_X12_in rfl ⟨rfl, rfl⟩ (by decide +kernel) ⟨Nat.le_of_ble_eq_true rfl, Nat.le_of_ble_eq_true rfl⟩ rfl rfl (Nat.le_of_ble_eq_true rfl) dX12_takeNumber_69 ?_
      refine rw_if_eq F (tgt := 129) hf dX12_takeNumber_72 (by decide) (fun hc16 hf => ?_) (fun hc16 hf => ?_)
      · exact WS.sub [0, 1, 2] rfl (b_X12_takeNumber_b129 F  _ _ _ hf)
      · refine rw_aload_n F dX12_takeNumber_75 rfl 0 rfl ?_
        refine rw_aload_n F dX12_takeNumber_76 rfl 0 rfl ?_
        refine rw_get F 0 (show 0 < 20 by decide) (gM_0 Z _) iw_X12_takeNumber_X12 rfl 13 (by decide) lk_X12_takeNumber_116 rfl dX12_takeNumber_77 ?_
        refine rw_sipush F (v := 10000) dX12_takeNumber_80 (by decide) ?_
        refine rw_icmp_le F (tgt := 93) hf dX12_takeNumber_83 (by decide) (fun hc15 hf => ?_) (fun hc15 hf => ?_)
        · refine rw_bipush F (v := 10) dX12_takeNumber_93 (by decide) ?_
          refine rw_aload_n F dX12_takeNumber_95 rfl 0 rfl ?_
          refine rw_get F 0 (show 0 < 20 by decide) (gM_0 Z _) iw_X12_takeNumber_X12 rfl 13 (by decide) lk_X12_takeNumber_116 rfl dX12_takeNumber_96 ?_
          refine rw_imul F dX12_takeNumber_99 ?_
          refine rw_aload_n F dX12_takeNumber_100 rfl 0 rfl ?_
          refine rw_get F 0 (show 0 < 20 by decide) (gM_0 Z _) iw_X12_takeNumber_X12 rfl 9 (by decide) lk_X12_takeNumber_25 rfl dX12_takeNumber_101 ?_
          refine rw_aload_n F dX12_takeNumber_104 rfl 0 rfl ?_
          refine rw_get F 0 (show 0 < 20 by decide) (gM_0 Z _) iw_X12_takeNumber_X12 rfl 12 (by decide) lk_X12_takeNumber_99 rfl dX12_takeNumber_105 ?_
          obtain ⟨hi14, hf⟩ := ck_h hf
          refine rw_iald F 6 (show 6 < 20 by decide) (gM_6 Z _) 0 rfl hi14 dX12_takeNumber_108 ?_
          refine rw_iadd F dX12_takeNumber_109 ?_
          refine rw_bipush F (v := 48) dX12_takeNumber_110 (by decide) ?_
          refine rw_isub F dX12_takeNumber_112 ?_
          exact WS.sub [0, 1, 2] rfl (b_X12_takeNumber_b113 F _ hK42 _ _ _ _ hf)
        · refine rw_aload_n F dX12_takeNumber_86 rfl 0 rfl ?_
          refine rw_get F 0 (show 0 < 20 by decide) (gM_0 Z _) iw_X12_takeNumber_X12 rfl 13 (by decide) lk_X12_takeNumber_116 rfl dX12_takeNumber_87 ?_
          refine rw_goto F (tgt := 113) dX12_takeNumber_90 (by decide) ?_
          exact WS.sub [0, 1, 2] rfl (b_X12_takeNumber_b113 F _ hK42 _ _ _ _ hf)

set_option maxHeartbeats 4000000 in
set_option maxRecDepth 100000 in
theorem c_X12_takeNumber (l : Launch) (Z : Zx) (p1 : Int32) (p2 : Int32) (f : Nat → Nat → Int32) (r : (Int32 × (Nat → Nat → Int32))) (hf : f_X12_takeNumber p1 p2 f = some r) : MS l (XM Z) yX12_takeNumber wsX12_takeNumber rm_X12_takeNumber [.ref (Z.2.1 0), .int p1, .int p2] f (PI r.1 r.2) := by
  refine MS.of (cc := cX12_takeNumber) (maxL := 4) (ret := (some .int)) (own := RX12) (lv := [(0, .ref (Z.2.1 0)), (1, .int p1), (2, .int p2)]) (by decide) rfl rfl (Nat.le_of_ble_eq_true rfl) rfl ?_
  intro a A hla F
  subst hla
  unfold f_X12_takeNumber at hf
  refine rw_aload_n F dX12_takeNumber_0 rfl 0 rfl ?_
  obtain ⟨q2, hq1, hf⟩ := bind_h hf
  refine rw_callVI F (k0 := 0) (nA := 0) (c_X12_here (aL a) Z  _ _ hq1) gX12_takeNumber_X12_here rfl ⟨rfl, rfl⟩ (by decide +kernel) ⟨Nat.le_of_ble_eq_true rfl, Nat.le_of_ble_eq_true rfl⟩ (show 0 < 20 by decide) (gM_0 Z _) rfl rfl rfl (Nat.le_of_ble_eq_true rfl) dX12_takeNumber_1 ?_
  refine rw_istore_n F dX12_takeNumber_4 rfl (by decide) rfl ?_
  refine rw_iload_n F dX12_takeNumber_5 rfl 0 rfl ?_
  refine rw_i2l F dX12_takeNumber_6 ?_
  refine rw_ldc2 F (v := 48) dX12_takeNumber_7 (by decide +kernel) ?_
  refine rw_ldc2 F (v := 57) dX12_takeNumber_10 (by decide +kernel) ?_
  obtain ⟨q4, hq3, hf⟩ := bind_h hf
  refine rw_callSI F (nA := 3) (c_X12_in (aL a) Z _ _ _ _ _ hq3) gX12_takeNumber_X12_in rfl ⟨rfl, rfl⟩ (by decide +kernel) ⟨Nat.le_of_ble_eq_true rfl, Nat.le_of_ble_eq_true rfl⟩ rfl rfl (Nat.le_of_ble_eq_true rfl) dX12_takeNumber_13 ?_
  refine rw_if_ne F (tgt := 29) hf dX12_takeNumber_16 (by decide) (fun hc20 hf => ?_) (fun hc20 hf => ?_)
  · refine rw_aload_n F dX12_takeNumber_29 rfl 1 rfl ?_
    refine rw_aload_n F dX12_takeNumber_30 rfl 1 rfl ?_
    refine rw_get F 0 (show 0 < 20 by decide) (gM_0 Z _) iw_X12_takeNumber_X12 rfl 12 (by decide) lk_X12_takeNumber_99 rfl dX12_takeNumber_31 ?_
    refine rw_put F 0 (show 0 < 20 by decide) (gM_0 Z) iw_X12_takeNumber_X12 tyX12 tyX12_ok nmX12 rfl 14 (by decide) lk_X12_takeNumber_113 rfl rfl rfl (fun _ => by rw [lnM0]; decide) (stM0_14 Z.2.1) dX12_takeNumber_34 ?_
    refine rw_aload_n F dX12_takeNumber_37 rfl 1 rfl ?_
    refine rw_iconst F (v := 0) dX12_takeNumber_38 (by decide) ?_
    refine rw_put F 0 (show 0 < 20 by decide) (gM_0 Z) iw_X12_takeNumber_X12 tyX12 tyX12_ok nmX12 rfl 13 (by decide) lk_X12_takeNumber_116 rfl rfl rfl (fun _ => by rw [lnM0]; decide) (stM0_13 Z.2.1) dX12_takeNumber_39 ?_
    exact WS.sub [1, 2, 3] rfl (b_X12_takeNumber_b42 F  fuB _ _ _ hf)
  · refine rw_aload_n F dX12_takeNumber_19 rfl 1 rfl ?_
    refine rw_iconst F (v := 1) dX12_takeNumber_20 (by decide) ?_
    refine rw_aload_n F dX12_takeNumber_21 rfl 1 rfl ?_
    refine rw_get F 0 (show 0 < 20 by decide) (gM_0 Z _) iw_X12_takeNumber_X12 rfl 12 (by decide) lk_X12_takeNumber_99 rfl dX12_takeNumber_22 ?_
    obtain ⟨q19, hq18, hf⟩ := bind_h hf
    refine rw_callVI F (k0 := 0) (nA := 2) (c_X12_fails (aL a) Z _ _ _ _ hq18) gX12_takeNumber_X12_fails rfl ⟨rfl, rfl⟩ (by decide +kernel) ⟨Nat.le_of_ble_eq_true rfl, Nat.le_of_ble_eq_true rfl⟩ (show 0 < 20 by decide) (gM_0 Z _) rfl rfl rfl (Nat.le_of_ble_eq_true rfl) dX12_takeNumber_25 ?_
    exact rw_iretS F hf rfl dX12_takeNumber_28

abbrev rm_X12_into : Room := { frames := 2, cells := 0, slots := 0, locals := 48 }
abbrev FX_X12_into (a : Ax) (Z : Zx) (A : Nat → Prop) : Prop := FX a (XM Z) A cX12_into RX12 wsX12_into 6 (some .int) rm_X12_into
theorem iw_X12_into_X12 : ∀ w ∈ wsX120, w ∈ wsX12_into := by decide +kernel
theorem lk_X12_into_116 : Cond.fieldLink RX12 116 (TX12 13).1 (TX12 13).2.1 (TX12 13).2.2.1 ∈ wsX12_into := by decide +kernel
set_option maxHeartbeats 4000000 in
set_option maxRecDepth 100000 in
theorem c_X12_into (l : Launch) (Z : Zx) {ka na : Nat} (hka : ka < 20) (hna : ∀ r, gM Z ka r = .inl (Z.2.2.1, na, .inl r)) (p2 : Int32) (p3 : Int32) (p4 : Int32) (f : Nat → Nat → Int32) (r : (Int32 × (Nat → Nat → Int32))) (hf : f_X12_into ka na p2 p3 p4 f = some r) : MS l (XM Z) yX12_into wsX12_into rm_X12_into [.ref (Z.2.1 0), .ref (Z.2.1 ka), .int p2, .int p3, .int p4] f (PI r.1 r.2) := by
  refine MS.of (cc := cX12_into) (maxL := 6) (ret := (some .int)) (own := RX12) (lv := [(0, .ref (Z.2.1 0)), (1, .ref (Z.2.1 ka)), (2, .int p2), (3, .int p3), (4, .int p4)]) (by decide) rfl rfl (Nat.le_of_ble_eq_true rfl) rfl ?_
  intro a A hla F
  subst hla
  unfold f_X12_into at hf
  refine rw_aload_n F dX12_into_0 rfl 0 rfl ?_
  refine rw_iload_n F dX12_into_1 rfl 3 rfl ?_
  refine rw_iload F dX12_into_2 4 rfl ?_
  obtain ⟨q2, hq1, hf⟩ := bind_h hf
  refine rw_callVI F (k0 := 0) (nA := 2) (c_X12_takeNumber (aL a) Z _ _ _ _ hq1) gX12_into_X12_takeNumber rfl ⟨rfl, rfl⟩ (by decide +kernel) ⟨Nat.le_of_ble_eq_true rfl, Nat.le_of_ble_eq_true rfl⟩ (show 0 < 20 by decide) (gM_0 Z _) rfl rfl rfl (Nat.le_of_ble_eq_true rfl) dX12_into_4 ?_
  refine rw_istore F dX12_into_7 (by decide) rfl ?_
  refine rw_aload_n F dX12_into_9 rfl 2 rfl ?_
  refine rw_iload_n F dX12_into_10 rfl 3 rfl ?_
  refine rw_aload_n F dX12_into_11 rfl 1 rfl ?_
  refine rw_get F 0 (show 0 < 20 by decide) (gM_0 Z _) iw_X12_into_X12 rfl 13 (by decide) lk_X12_into_116 rfl dX12_into_12 ?_
  obtain ⟨hi3, hf⟩ := ck_h hf
  refine rw_iast F ka hka hna 0 rfl hi3 dX12_into_15 ?_
  refine rw_iload F dX12_into_16 0 rfl ?_
  exact rw_iretS F hf rfl dX12_into_18

abbrev rm_X12_takeWalls : Room := { frames := 3, cells := 0, slots := 0, locals := 73 }
abbrev FX_X12_takeWalls (a : Ax) (Z : Zx) (A : Nat → Prop) : Prop := FX a (XM Z) A cX12_takeWalls RX12 wsX12_takeWalls 2 (some .int) rm_X12_takeWalls
theorem iw_X12_takeWalls_X12 : ∀ w ∈ wsX120, w ∈ wsX12_takeWalls := by decide +kernel
theorem lk_X12_takeWalls_32 : Cond.fieldLink RX12 32 (TX12 16).1 (TX12 16).2.1 (TX12 16).2.2.1 ∈ wsX12_takeWalls := by decide +kernel
theorem lk_X12_takeWalls_99 : Cond.fieldLink RX12 99 (TX12 12).1 (TX12 12).2.1 (TX12 12).2.2.1 ∈ wsX12_takeWalls := by decide +kernel
theorem lk_X12_takeWalls_126 : Cond.fieldLink RX12 126 (TX12 15).1 (TX12 15).2.1 (TX12 15).2.2.1 ∈ wsX12_takeWalls := by decide +kernel
set_option maxHeartbeats 4000000 in
set_option maxRecDepth 100000 in
theorem b_X12_takeWalls_b89 {a : Ax} {Z : Zx} {A : Nat → Prop} {r : (Int32 × (Nat → Nat → Int32))} (F : FX_X12_takeWalls a Z A) : ∀ (i1 : Int32) (f : Nat → Nat → Int32), f_X12_takeWalls_b89 i1 f = some r → WS a (XM Z) A 2 (RP a (XM Z) A (PI r.1 r.2)) 89 [(1, .int i1)] [] f := by
  intro i1 f hf
  unfold f_X12_takeWalls_b89 at hf
  refine rw_iload_n F dX12_takeWalls_89 rfl 0 rfl ?_
  exact rw_iretS F hf rfl dX12_takeWalls_90

set_option maxHeartbeats 4000000 in
set_option maxRecDepth 100000 in
theorem b_X12_takeWalls_b18 {a : Ax} {Z : Zx} {A : Nat → Prop} {r : (Int32 × (Nat → Nat → Int32))} (F : FX_X12_takeWalls a Z A) : ∀ (n : Nat) (i1 : Int32) (f : Nat → Nat → Int32), f_X12_takeWalls_b18 n i1 f = some r → WS a (XM Z) A 2 (RP a (XM Z) A (PI r.1 r.2)) 18 [(0, .ref (Z.2.1 0)), (1, .int i1)] [] f := by
  intro n
  induction n with
  | zero => intro i1 f hf; exact nomatch (show (none : Option (Int32 × (Nat → Nat → Int32))) = some r from hf)
  | succ n hK18 =>
    intro i1 f hf
    replace hf : f_X12_takeWalls_b18s (f_X12_takeWalls_b18 n) i1 f = some r := hf
    unfold f_X12_takeWalls_b18s at hf
    refine rw_iload_n F dX12_takeWalls_18 rfl 1 rfl ?_
    refine rw_if_ne F (tgt := 89) hf dX12_takeWalls_19 (by decide) (fun hc11 hf => ?_) (fun hc11 hf => ?_)
    · exact WS.sub [1] rfl (b_X12_takeWalls_b89 F  _ _ hf)
    · refine rw_aload_n F dX12_takeWalls_22 rfl 0 rfl ?_
      obtain ⟨q4, hq3, hf⟩ := bind_h hf
      refine rw_callVI F (k0 := 0) (nA := 0) (c_X12_here (aL a) Z  _ _ hq3) gX12_takeWalls_X12_here rfl ⟨rfl, rfl⟩ (by decide +kernel) ⟨Nat.le_of_ble_eq_true rfl, Nat.le_of_ble_eq_true rfl⟩ (show 0 < 20 by decide) (gM_0 Z _) rfl rfl rfl (Nat.le_of_ble_eq_true rfl) dX12_takeWalls_23 ?_
      refine rw_bipush F (v := 44) dX12_takeWalls_26 (by decide) ?_
      refine rw_icmp_ne F (tgt := 89) hf dX12_takeWalls_28 (by decide) (fun hc10 hf => ?_) (fun hc10 hf => ?_)
      · exact WS.sub [1] rfl (b_X12_takeWalls_b89 F  _ _ hf)
      · refine rw_aload_n F dX12_takeWalls_31 rfl 0 rfl ?_
        refine rw_get F 0 (show 0 < 20 by decide) (gM_0 Z _) iw_X12_takeWalls_X12 rfl 15 (by decide) lk_X12_takeWalls_126 rfl dX12_takeWalls_32 ?_
        refine rw_bipush F (v := 8) dX12_takeWalls_35 (by decide) ?_
        refine rw_icmp_ne F (tgt := 50) hf dX12_takeWalls_37 (by decide) (fun hc9 hf => ?_) (fun hc9 hf => ?_)
        · refine rw_aload_n F dX12_takeWalls_50 rfl 0 rfl ?_
          refine rw_dup F dX12_takeWalls_51 rfl ?_
          refine rw_get F 0 (show 0 < 20 by decide) (gM_0 Z _) iw_X12_takeWalls_X12 rfl 12 (by decide) lk_X12_takeWalls_99 rfl dX12_takeWalls_52 ?_
          refine rw_iconst F (v := 1) dX12_takeWalls_55 (by decide) ?_
          refine rw_iadd F dX12_takeWalls_56 ?_
          refine rw_put F 0 (show 0 < 20 by decide) (gM_0 Z) iw_X12_takeWalls_X12 tyX12 tyX12_ok nmX12 rfl 12 (by decide) lk_X12_takeWalls_99 rfl rfl rfl (fun _ => by rw [lnM0]; decide) (stM0_12 Z.2.1) dX12_takeWalls_57 ?_
          refine rw_aload_n F dX12_takeWalls_60 rfl 0 rfl ?_
          refine rw_aload_n F dX12_takeWalls_61 rfl 0 rfl ?_
          refine rw_get F 0 (show 0 < 20 by decide) (gM_0 Z _) iw_X12_takeWalls_X12 rfl 16 (by decide) lk_X12_takeWalls_32 rfl dX12_takeWalls_62 ?_
          refine rw_aload_n F dX12_takeWalls_65 rfl 0 rfl ?_
          refine rw_get F 0 (show 0 < 20 by decide) (gM_0 Z _) iw_X12_takeWalls_X12 rfl 15 (by decide) lk_X12_takeWalls_126 rfl dX12_takeWalls_66 ?_
          refine rw_iconst F (v := 0) dX12_takeWalls_69 (by decide) ?_
          refine rw_bipush F (v := 20) dX12_takeWalls_70 (by decide) ?_
          obtain ⟨q6, hq5, hf⟩ := bind_h hf
          refine rw_callVI F (k0 := 0) (nA := 4) (c_X12_into (aL a) Z (show 7 < 20 by decide) (gM_7 Z) _ _ _ _ _ hq5) gX12_takeWalls_X12_into rfl ⟨rfl, rfl⟩ (by decide +kernel) ⟨Nat.le_of_ble_eq_true rfl, Nat.le_of_ble_eq_true rfl⟩ (show 0 < 20 by decide) (gM_0 Z _) rfl rfl rfl (Nat.le_of_ble_eq_true rfl) dX12_takeWalls_72 ?_
          refine rw_istore_n F dX12_takeWalls_75 rfl (by decide) rfl ?_
          refine rw_aload_n F dX12_takeWalls_76 rfl 1 rfl ?_
          refine rw_dup F dX12_takeWalls_77 rfl ?_
          refine rw_get F 0 (show 0 < 20 by decide) (gM_0 Z _) iw_X12_takeWalls_X12 rfl 15 (by decide) lk_X12_takeWalls_126 rfl dX12_takeWalls_78 ?_
          refine rw_iconst F (v := 1) dX12_takeWalls_81 (by decide) ?_
          refine rw_iadd F dX12_takeWalls_82 ?_
          refine rw_put F 0 (show 0 < 20 by decide) (gM_0 Z) iw_X12_takeWalls_X12 tyX12 tyX12_ok nmX12 rfl 15 (by decide) lk_X12_takeWalls_126 rfl rfl rfl (fun _ => by rw [lnM0]; decide) (stM0_15 Z.2.1) dX12_takeWalls_83 ?_
          refine rw_goto F (tgt := 18) dX12_takeWalls_86 (by decide) ?_
          exact WS.sub [1, 0] rfl (hK18 _ _ hf)
        · refine rw_aload_n F dX12_takeWalls_40 rfl 0 rfl ?_
          refine rw_iconst F (v := 1) dX12_takeWalls_41 (by decide) ?_
          refine rw_aload_n F dX12_takeWalls_42 rfl 0 rfl ?_
          refine rw_get F 0 (show 0 < 20 by decide) (gM_0 Z _) iw_X12_takeWalls_X12 rfl 12 (by decide) lk_X12_takeWalls_99 rfl dX12_takeWalls_43 ?_
          obtain ⟨q8, hq7, hf⟩ := bind_h hf
          refine rw_callVI F (k0 := 0) (nA := 2) (c_X12_fails (aL a) Z _ _ _ _ hq7) gX12_takeWalls_X12_fails rfl ⟨rfl, rfl⟩ (by decide +kernel) ⟨Nat.le_of_ble_eq_true rfl, Nat.le_of_ble_eq_true rfl⟩ (show 0 < 20 by decide) (gM_0 Z _) rfl rfl rfl (Nat.le_of_ble_eq_true rfl) dX12_takeWalls_46 ?_
          exact rw_iretS F hf rfl dX12_takeWalls_49

set_option maxHeartbeats 4000000 in
set_option maxRecDepth 100000 in
theorem c_X12_takeWalls (l : Launch) (Z : Zx) (f : Nat → Nat → Int32) (r : (Int32 × (Nat → Nat → Int32))) (hf : f_X12_takeWalls f = some r) : MS l (XM Z) yX12_takeWalls wsX12_takeWalls rm_X12_takeWalls [.ref (Z.2.1 0)] f (PI r.1 r.2) := by
  refine MS.of (cc := cX12_takeWalls) (maxL := 2) (ret := (some .int)) (own := RX12) (lv := [(0, .ref (Z.2.1 0))]) (by decide) rfl rfl (Nat.le_of_ble_eq_true rfl) rfl ?_
  intro a A hla F
  subst hla
  unfold f_X12_takeWalls at hf
  refine rw_aload_n F dX12_takeWalls_0 rfl 0 rfl ?_
  refine rw_aload_n F dX12_takeWalls_1 rfl 0 rfl ?_
  refine rw_get F 0 (show 0 < 20 by decide) (gM_0 Z _) iw_X12_takeWalls_X12 rfl 16 (by decide) lk_X12_takeWalls_32 rfl dX12_takeWalls_2 ?_
  refine rw_iconst F (v := 0) dX12_takeWalls_5 (by decide) ?_
  refine rw_iconst F (v := 0) dX12_takeWalls_6 (by decide) ?_
  refine rw_bipush F (v := 20) dX12_takeWalls_7 (by decide) ?_
  obtain ⟨q2, hq1, hf⟩ := bind_h hf
  refine rw_callVI F (k0 := 0) (nA := 4) (c_X12_into (aL a) Z (show 7 < 20 by decide) (gM_7 Z) _ _ _ _ _ hq1) gX12_takeWalls_X12_into rfl ⟨rfl, rfl⟩ (by decide +kernel) ⟨Nat.le_of_ble_eq_true rfl, Nat.le_of_ble_eq_true rfl⟩ (show 0 < 20 by decide) (gM_0 Z _) rfl rfl rfl (Nat.le_of_ble_eq_true rfl) dX12_takeWalls_9 ?_
  refine rw_istore_n F dX12_takeWalls_12 rfl (by decide) rfl ?_
  refine rw_aload_n F dX12_takeWalls_13 rfl 1 rfl ?_
  refine rw_iconst F (v := 1) dX12_takeWalls_14 (by decide) ?_
  refine rw_put F 0 (show 0 < 20 by decide) (gM_0 Z) iw_X12_takeWalls_X12 tyX12 tyX12_ok nmX12 rfl 15 (by decide) lk_X12_takeWalls_126 rfl rfl rfl (fun _ => by rw [lnM0]; decide) (stM0_15 Z.2.1) dX12_takeWalls_15 ?_
  exact WS.sub [1, 0] rfl (b_X12_takeWalls_b18 F  fuB _ _ hf)

abbrev rm_X12_takeWind : Room := { frames := 2, cells := 0, slots := 0, locals := 48 }
abbrev FX_X12_takeWind (a : Ax) (Z : Zx) (A : Nat → Prop) : Prop := FX a (XM Z) A cX12_takeWind RX12 wsX12_takeWind 2 (some .int) rm_X12_takeWind
theorem iw_X12_takeWind_X12 : ∀ w ∈ wsX120, w ∈ wsX12_takeWind := by decide +kernel
theorem lk_X12_takeWind_116 : Cond.fieldLink RX12 116 (TX12 13).1 (TX12 13).2.1 (TX12 13).2.2.1 ∈ wsX12_takeWind := by decide +kernel
theorem lk_X12_takeWind_129 : Cond.fieldLink RX12 129 (TX12 17).1 (TX12 17).2.1 (TX12 17).2.2.1 ∈ wsX12_takeWind := by decide +kernel
set_option maxHeartbeats 4000000 in
set_option maxRecDepth 100000 in
theorem c_X12_takeWind (l : Launch) (Z : Zx) (f : Nat → Nat → Int32) (r : (Int32 × (Nat → Nat → Int32))) (hf : f_X12_takeWind f = some r) : MS l (XM Z) yX12_takeWind wsX12_takeWind rm_X12_takeWind [.ref (Z.2.1 0)] f (PI r.1 r.2) := by
  refine MS.of (cc := cX12_takeWind) (maxL := 2) (ret := (some .int)) (own := RX12) (lv := [(0, .ref (Z.2.1 0))]) (by decide) rfl rfl (Nat.le_of_ble_eq_true rfl) rfl ?_
  intro a A hla F
  subst hla
  unfold f_X12_takeWind at hf
  refine rw_aload_n F dX12_takeWind_0 rfl 0 rfl ?_
  refine rw_iconst F (v := 0) dX12_takeWind_1 (by decide) ?_
  refine rw_bipush F (v := 18) dX12_takeWind_2 (by decide) ?_
  obtain ⟨q2, hq1, hf⟩ := bind_h hf
  refine rw_callVI F (k0 := 0) (nA := 2) (c_X12_takeNumber (aL a) Z _ _ _ _ hq1) gX12_takeWind_X12_takeNumber rfl ⟨rfl, rfl⟩ (by decide +kernel) ⟨Nat.le_of_ble_eq_true rfl, Nat.le_of_ble_eq_true rfl⟩ (show 0 < 20 by decide) (gM_0 Z _) rfl rfl rfl (Nat.le_of_ble_eq_true rfl) dX12_takeWind_4 ?_
  refine rw_istore_n F dX12_takeWind_7 rfl (by decide) rfl ?_
  refine rw_aload_n F dX12_takeWind_8 rfl 1 rfl ?_
  refine rw_aload_n F dX12_takeWind_9 rfl 1 rfl ?_
  refine rw_get F 0 (show 0 < 20 by decide) (gM_0 Z _) iw_X12_takeWind_X12 rfl 13 (by decide) lk_X12_takeWind_116 rfl dX12_takeWind_10 ?_
  refine rw_put F 0 (show 0 < 20 by decide) (gM_0 Z) iw_X12_takeWind_X12 tyX12 tyX12_ok nmX12 rfl 17 (by decide) lk_X12_takeWind_129 rfl rfl rfl (fun _ => by rw [lnM0]; decide) (stM0_17 Z.2.1) dX12_takeWind_13 ?_
  refine rw_iload_n F dX12_takeWind_16 rfl 0 rfl ?_
  exact rw_iretS F hf rfl dX12_takeWind_17

abbrev rm_X12_takeSound : Room := { frames := 3, cells := 0, slots := 0, locals := 73 }
abbrev FX_X12_takeSound (a : Ax) (Z : Zx) (A : Nat → Prop) : Prop := FX a (XM Z) A cX12_takeSound RX12 wsX12_takeSound 3 (some .int) rm_X12_takeSound
theorem iw_X12_takeSound_X12 : ∀ w ∈ wsX120, w ∈ wsX12_takeSound := by decide +kernel
theorem lk_X12_takeSound_35 : Cond.fieldLink RX12 35 (TX12 19).1 (TX12 19).2.1 (TX12 19).2.2.1 ∈ wsX12_takeSound := by decide +kernel
theorem lk_X12_takeSound_38 : Cond.fieldLink RX12 38 (TX12 20).1 (TX12 20).2.1 (TX12 20).2.2.1 ∈ wsX12_takeSound := by decide +kernel
theorem lk_X12_takeSound_132 : Cond.fieldLink RX12 132 (TX12 18).1 (TX12 18).2.1 (TX12 18).2.2.1 ∈ wsX12_takeSound := by decide +kernel
set_option maxHeartbeats 4000000 in
set_option maxRecDepth 100000 in
theorem c_X12_takeSound (l : Launch) (Z : Zx) (f : Nat → Nat → Int32) (r : (Int32 × (Nat → Nat → Int32))) (hf : f_X12_takeSound f = some r) : MS l (XM Z) yX12_takeSound wsX12_takeSound rm_X12_takeSound [.ref (Z.2.1 0)] f (PI r.1 r.2) := by
  refine MS.of (cc := cX12_takeSound) (maxL := 3) (ret := (some .int)) (own := RX12) (lv := [(0, .ref (Z.2.1 0))]) (by decide) rfl rfl (Nat.le_of_ble_eq_true rfl) rfl ?_
  intro a A hla F
  subst hla
  unfold f_X12_takeSound at hf
  refine rw_aload_n F dX12_takeSound_0 rfl 0 rfl ?_
  refine rw_get F 0 (show 0 < 20 by decide) (gM_0 Z _) iw_X12_takeSound_X12 rfl 18 (by decide) lk_X12_takeSound_132 rfl dX12_takeSound_1 ?_
  refine rw_istore_n F dX12_takeSound_4 rfl (by decide) rfl ?_
  refine rw_aload_n F dX12_takeSound_5 rfl 1 rfl ?_
  refine rw_dup F dX12_takeSound_6 rfl ?_
  refine rw_get F 0 (show 0 < 20 by decide) (gM_0 Z _) iw_X12_takeSound_X12 rfl 18 (by decide) lk_X12_takeSound_132 rfl dX12_takeSound_7 ?_
  refine rw_iconst F (v := 1) dX12_takeSound_10 (by decide) ?_
  refine rw_iadd F dX12_takeSound_11 ?_
  refine rw_put F 0 (show 0 < 20 by decide) (gM_0 Z) iw_X12_takeSound_X12 tyX12 tyX12_ok nmX12 rfl 18 (by decide) lk_X12_takeSound_132 rfl rfl rfl (fun _ => by rw [lnM0]; decide) (stM0_18 Z.2.1) dX12_takeSound_12 ?_
  refine rw_aload_n F dX12_takeSound_15 rfl 1 rfl ?_
  refine rw_aload_n F dX12_takeSound_16 rfl 1 rfl ?_
  refine rw_get F 0 (show 0 < 20 by decide) (gM_0 Z _) iw_X12_takeSound_X12 rfl 19 (by decide) lk_X12_takeSound_35 rfl dX12_takeSound_17 ?_
  refine rw_iload_n F dX12_takeSound_20 rfl 0 rfl ?_
  refine rw_iconst F (v := 0) dX12_takeSound_21 (by decide) ?_
  refine rw_bipush F (v := 60) dX12_takeSound_22 (by decide) ?_
  obtain ⟨q2, hq1, hf⟩ := bind_h hf
  refine rw_callVI F (k0 := 0) (nA := 4) (c_X12_into (aL a) Z (show 8 < 20 by decide) (gM_8 Z) _ _ _ _ _ hq1) gX12_takeSound_X12_into rfl ⟨rfl, rfl⟩ (by decide +kernel) ⟨Nat.le_of_ble_eq_true rfl, Nat.le_of_ble_eq_true rfl⟩ (show 0 < 20 by decide) (gM_0 Z _) rfl rfl rfl (Nat.le_of_ble_eq_true rfl) dX12_takeSound_24 ?_
  refine rw_istore_n F dX12_takeSound_27 rfl (by decide) rfl ?_
  refine rw_iload_n F dX12_takeSound_28 rfl 0 rfl ?_
  refine rw_if_le F (tgt := 36) hf dX12_takeSound_29 (by decide) (fun hc5 hf => ?_) (fun hc5 hf => ?_)
  · refine rw_aload_n F dX12_takeSound_36 rfl 2 rfl ?_
    refine rw_aload_n F dX12_takeSound_37 rfl 2 rfl ?_
    refine rw_get F 0 (show 0 < 20 by decide) (gM_0 Z _) iw_X12_takeSound_X12 rfl 20 (by decide) lk_X12_takeSound_38 rfl dX12_takeSound_38 ?_
    refine rw_iload_n F dX12_takeSound_41 rfl 1 rfl ?_
    refine rw_iconst F (v := 0) dX12_takeSound_42 (by decide) ?_
    refine rw_bipush F (v := 9) dX12_takeSound_43 (by decide) ?_
    obtain ⟨q4, hq3, hf⟩ := bind_h hf
    refine rw_callVI F (k0 := 0) (nA := 4) (c_X12_into (aL a) Z (show 9 < 20 by decide) (gM_9 Z) _ _ _ _ _ hq3) gX12_takeSound_X12_into rfl ⟨rfl, rfl⟩ (by decide +kernel) ⟨Nat.le_of_ble_eq_true rfl, Nat.le_of_ble_eq_true rfl⟩ (show 0 < 20 by decide) (gM_0 Z _) rfl rfl rfl (Nat.le_of_ble_eq_true rfl) dX12_takeSound_45 ?_
    exact rw_iretS F hf rfl dX12_takeSound_48
  · refine rw_iload_n F dX12_takeSound_32 rfl 0 rfl ?_
    refine rw_goto F (tgt := 48) dX12_takeSound_33 (by decide) ?_
    exact rw_iretS F hf rfl dX12_takeSound_48

abbrev rm_X12_takeWitness : Room := { frames := 3, cells := 0, slots := 0, locals := 73 }
abbrev FX_X12_takeWitness (a : Ax) (Z : Zx) (A : Nat → Prop) : Prop := FX a (XM Z) A cX12_takeWitness RX12 wsX12_takeWitness 3 (some .int) rm_X12_takeWitness
theorem iw_X12_takeWitness_X12 : ∀ w ∈ wsX120, w ∈ wsX12_takeWitness := by decide +kernel
theorem lk_X12_takeWitness_41 : Cond.fieldLink RX12 41 (TX12 22).1 (TX12 22).2.1 (TX12 22).2.2.1 ∈ wsX12_takeWitness := by decide +kernel
theorem lk_X12_takeWitness_44 : Cond.fieldLink RX12 44 (TX12 23).1 (TX12 23).2.1 (TX12 23).2.2.1 ∈ wsX12_takeWitness := by decide +kernel
theorem lk_X12_takeWitness_47 : Cond.fieldLink RX12 47 (TX12 24).1 (TX12 24).2.1 (TX12 24).2.2.1 ∈ wsX12_takeWitness := by decide +kernel
theorem lk_X12_takeWitness_126 : Cond.fieldLink RX12 126 (TX12 15).1 (TX12 15).2.1 (TX12 15).2.2.1 ∈ wsX12_takeWitness := by decide +kernel
theorem lk_X12_takeWitness_135 : Cond.fieldLink RX12 135 (TX12 21).1 (TX12 21).2.1 (TX12 21).2.2.1 ∈ wsX12_takeWitness := by decide +kernel
set_option maxHeartbeats 4000000 in
set_option maxRecDepth 100000 in
theorem b_X12_takeWitness_b50 {a : Ax} {Z : Zx} {A : Nat → Prop} {r : (Int32 × (Nat → Nat → Int32))} (F : FX_X12_takeWitness a Z A) : ∀ (i1 : Int32) (s0 : Int32) (f : Nat → Nat → Int32), f_X12_takeWitness_b50 i1 s0 f = some r → WS a (XM Z) A 3 (RP a (XM Z) A (PI r.1 r.2)) 50 [(0, .ref (Z.2.1 0)), (1, .int i1)] [.int s0] f := by
  intro i1 s0 f hf
  unfold f_X12_takeWitness_b50 at hf
  refine rw_istore_n F dX12_takeWitness_50 rfl (by decide) rfl ?_
  refine rw_iload_n F dX12_takeWitness_51 rfl 0 rfl ?_
  refine rw_if_le F (tgt := 59) hf dX12_takeWitness_52 (by decide) (fun hc7 hf => ?_) (fun hc7 hf => ?_)
  · refine rw_aload_n F dX12_takeWitness_59 rfl 1 rfl ?_
    refine rw_aload_n F dX12_takeWitness_60 rfl 1 rfl ?_
    refine rw_get F 0 (show 0 < 20 by decide) (gM_0 Z _) iw_X12_takeWitness_X12 rfl 24 (by decide) lk_X12_takeWitness_47 rfl dX12_takeWitness_61 ?_
    refine rw_iload_n F dX12_takeWitness_64 rfl 2 rfl ?_
    refine rw_iconst F (v := 0) dX12_takeWitness_65 (by decide) ?_
    refine rw_iconst F (v := 2) dX12_takeWitness_66 (by decide) ?_
    obtain ⟨q6, hq5, hf⟩ := bind_h hf
    refine rw_callVI F (k0 := 0) (nA := 4) (c_X12_into (aL a) Z (show 12 < 20 by decide) (gM_12 Z) _ _ _ _ _ hq5) gX12_takeWitness_X12_into rfl ⟨rfl, rfl⟩ (by decide +kernel) ⟨Nat.le_of_ble_eq_true rfl, Nat.le_of_ble_eq_true rfl⟩ (show 0 < 20 by decide) (gM_0 Z _) rfl rfl rfl (Nat.le_of_ble_eq_true rfl) dX12_takeWitness_67 ?_
    exact rw_iretS F hf rfl dX12_takeWitness_70
  · refine rw_iload_n F dX12_takeWitness_55 rfl 0 rfl ?_
    refine rw_goto F (tgt := 70) dX12_takeWitness_56 (by decide) ?_
    exact rw_iretS F hf rfl dX12_takeWitness_70

set_option maxHeartbeats 4000000 in
set_option maxRecDepth 100000 in
theorem c_X12_takeWitness (l : Launch) (Z : Zx) (f : Nat → Nat → Int32) (r : (Int32 × (Nat → Nat → Int32))) (hf : f_X12_takeWitness f = some r) : MS l (XM Z) yX12_takeWitness wsX12_takeWitness rm_X12_takeWitness [.ref (Z.2.1 0)] f (PI r.1 r.2) := by
  refine MS.of (cc := cX12_takeWitness) (maxL := 3) (ret := (some .int)) (own := RX12) (lv := [(0, .ref (Z.2.1 0))]) (by decide) rfl rfl (Nat.le_of_ble_eq_true rfl) rfl ?_
  intro a A hla F
  subst hla
  unfold f_X12_takeWitness at hf
  refine rw_aload_n F dX12_takeWitness_0 rfl 0 rfl ?_
  refine rw_get F 0 (show 0 < 20 by decide) (gM_0 Z _) iw_X12_takeWitness_X12 rfl 21 (by decide) lk_X12_takeWitness_135 rfl dX12_takeWitness_1 ?_
  refine rw_istore_n F dX12_takeWitness_4 rfl (by decide) rfl ?_
  refine rw_aload_n F dX12_takeWitness_5 rfl 1 rfl ?_
  refine rw_dup F dX12_takeWitness_6 rfl ?_
  refine rw_get F 0 (show 0 < 20 by decide) (gM_0 Z _) iw_X12_takeWitness_X12 rfl 21 (by decide) lk_X12_takeWitness_135 rfl dX12_takeWitness_7 ?_
  refine rw_iconst F (v := 1) dX12_takeWitness_10 (by decide) ?_
  refine rw_iadd F dX12_takeWitness_11 ?_
  refine rw_put F 0 (show 0 < 20 by decide) (gM_0 Z) iw_X12_takeWitness_X12 tyX12 tyX12_ok nmX12 rfl 21 (by decide) lk_X12_takeWitness_135 rfl rfl rfl (fun _ => by rw [lnM0]; decide) (stM0_21 Z.2.1) dX12_takeWitness_12 ?_
  refine rw_aload_n F dX12_takeWitness_15 rfl 1 rfl ?_
  refine rw_aload_n F dX12_takeWitness_16 rfl 1 rfl ?_
  refine rw_get F 0 (show 0 < 20 by decide) (gM_0 Z _) iw_X12_takeWitness_X12 rfl 22 (by decide) lk_X12_takeWitness_41 rfl dX12_takeWitness_17 ?_
  refine rw_iload_n F dX12_takeWitness_20 rfl 0 rfl ?_
  refine rw_iconst F (v := 0) dX12_takeWitness_21 (by decide) ?_
  refine rw_aload_n F dX12_takeWitness_22 rfl 1 rfl ?_
  refine rw_get F 0 (show 0 < 20 by decide) (gM_0 Z _) iw_X12_takeWitness_X12 rfl 15 (by decide) lk_X12_takeWitness_126 rfl dX12_takeWitness_23 ?_
  obtain ⟨q2, hq1, hf⟩ := bind_h hf
  refine rw_callVI F (k0 := 0) (nA := 4) (c_X12_into (aL a) Z (show 10 < 20 by decide) (gM_10 Z) _ _ _ _ _ hq1) gX12_takeWitness_X12_into rfl ⟨rfl, rfl⟩ (by decide +kernel) ⟨Nat.le_of_ble_eq_true rfl, Nat.le_of_ble_eq_true rfl⟩ (show 0 < 20 by decide) (gM_0 Z _) rfl rfl rfl (Nat.le_of_ble_eq_true rfl) dX12_takeWitness_26 ?_
  refine rw_istore_n F dX12_takeWitness_29 rfl (by decide) rfl ?_
  refine rw_iload_n F dX12_takeWitness_30 rfl 0 rfl ?_
  refine rw_if_le F (tgt := 38) hf dX12_takeWitness_31 (by decide) (fun hc8 hf => ?_) (fun hc8 hf => ?_)
  · refine rw_aload_n F dX12_takeWitness_38 rfl 2 rfl ?_
    refine rw_aload_n F dX12_takeWitness_39 rfl 2 rfl ?_
    refine rw_get F 0 (show 0 < 20 by decide) (gM_0 Z _) iw_X12_takeWitness_X12 rfl 23 (by decide) lk_X12_takeWitness_44 rfl dX12_takeWitness_40 ?_
    refine rw_iload_n F dX12_takeWitness_43 rfl 1 rfl ?_
    refine rw_iconst F (v := 0) dX12_takeWitness_44 (by decide) ?_
    refine rw_bipush F (v := 30) dX12_takeWitness_45 (by decide) ?_
    obtain ⟨q4, hq3, hf⟩ := bind_h hf
    refine rw_callVI F (k0 := 0) (nA := 4) (c_X12_into (aL a) Z (show 11 < 20 by decide) (gM_11 Z) _ _ _ _ _ hq3) gX12_takeWitness_X12_into rfl ⟨rfl, rfl⟩ (by decide +kernel) ⟨Nat.le_of_ble_eq_true rfl, Nat.le_of_ble_eq_true rfl⟩ (show 0 < 20 by decide) (gM_0 Z _) rfl rfl rfl (Nat.le_of_ble_eq_true rfl) dX12_takeWitness_47 ?_
    exact WS.sub [2, 1] rfl (b_X12_takeWitness_b50 F  _ _ _ hf)
  · refine rw_iload_n F dX12_takeWitness_34 rfl 0 rfl ?_
    refine rw_goto F (tgt := 50) dX12_takeWitness_35 (by decide) ?_
    exact WS.sub [2, 1] rfl (b_X12_takeWitness_b50 F  _ _ _ hf)

