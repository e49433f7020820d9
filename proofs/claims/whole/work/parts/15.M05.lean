abbrev rm_X12_tear : Room := { frames := 0, cells := 0, slots := 0, locals := 0 }
abbrev FX_X12_tear (a : Ax) (Z : Zx) (A : Nat → Prop) : Prop := FX a (XM Z) A cX12_tear RX12 wsX12_tear 2 (some .int) rm_X12_tear
theorem iw_X12_tear_X12 : ∀ w ∈ wsX120, w ∈ wsX12_tear := by decide +kernel
theorem lk_X12_tear_156 : Cond.fieldLink RX12 156 (TX12 27).1 (TX12 27).2.1 (TX12 27).2.2.1 ∈ wsX12_tear := by decide +kernel
theorem lk_X12_tear_159 : Cond.fieldLink RX12 159 (TX12 31).1 (TX12 31).2.1 (TX12 31).2.2.1 ∈ wsX12_tear := by decide +kernel
set_option maxHeartbeats 4000000 in
set_option maxRecDepth 100000 in
theorem c_X12_tear (l : Launch) (Z : Zx) (f : Nat → Nat → Int32) (r : (Int32 × (Nat → Nat → Int32))) (hf : f_X12_tear f = some r) : MS l (XM Z) yX12_tear wsX12_tear rm_X12_tear [.ref (Z.2.1 0)] f (PI r.1 r.2) := by
  refine MS.of (cc := cX12_tear) (maxL := 2) (ret := (some .int)) (own := RX12) (lv := [(0, .ref (Z.2.1 0))]) (by decide) rfl rfl (Nat.le_of_ble_eq_true rfl) rfl ?_
  intro a A hla F
  subst hla
  unfold f_X12_tear at hf
  refine rw_aload_n F dX12_tear_0 rfl 0 rfl ?_
  refine rw_get F 0 (show 0 < 20 by decide) (gM_0 Z _) iw_X12_tear_X12 rfl 27 (by decide) lk_X12_tear_156 rfl dX12_tear_1 ?_
  refine rw_aload_n F dX12_tear_4 rfl 0 rfl ?_
  refine rw_get F 0 (show 0 < 20 by decide) (gM_0 Z _) iw_X12_tear_X12 rfl 31 (by decide) lk_X12_tear_159 rfl dX12_tear_5 ?_
  refine rw_iadd F dX12_tear_8 ?_
  refine rw_istore_n F dX12_tear_9 rfl (by decide) rfl ?_
  refine rw_aload_n F dX12_tear_10 rfl 1 rfl ?_
  refine rw_iconst F (v := 0) dX12_tear_11 (by decide) ?_
  refine rw_put F 0 (show 0 < 20 by decide) (gM_0 Z) iw_X12_tear_X12 tyX12 tyX12_ok nmX12 rfl 27 (by decide) lk_X12_tear_156 rfl rfl rfl (fun _ => by rw [lnM0]; decide) (stM0_27 Z.2.1) dX12_tear_12 ?_
  refine rw_aload_n F dX12_tear_15 rfl 1 rfl ?_
  refine rw_iconst F (v := 0) dX12_tear_16 (by decide) ?_
  refine rw_put F 0 (show 0 < 20 by decide) (gM_0 Z) iw_X12_tear_X12 tyX12 tyX12_ok nmX12 rfl 31 (by decide) lk_X12_tear_159 rfl rfl rfl (fun _ => by rw [lnM0]; decide) (stM0_31 Z.2.1) dX12_tear_17 ?_
  refine rw_iload_n F dX12_tear_20 rfl 0 rfl ?_
  exact rw_iretS F hf rfl dX12_tear_21

abbrev rm_X12_judge : Room := { frames := 1, cells := 0, slots := 0, locals := 22 }
abbrev FX_X12_judge (a : Ax) (Z : Zx) (A : Nat → Prop) : Prop := FX a (XM Z) A cX12_judge RX12 wsX12_judge 2 (some .int) rm_X12_judge
theorem iw_X12_judge_X12 : ∀ w ∈ wsX120, w ∈ wsX12_judge := by decide +kernel
theorem lk_X12_judge_22 : Cond.fieldLink RX12 22 (TX12 7).1 (TX12 7).2.1 (TX12 7).2.2.1 ∈ wsX12_judge := by decide +kernel
theorem lk_X12_judge_62 : Cond.fieldLink RX12 62 (TX12 32).1 (TX12 32).2.1 (TX12 32).2.2.1 ∈ wsX12_judge := by decide +kernel
theorem lk_X12_judge_159 : Cond.fieldLink RX12 159 (TX12 31).1 (TX12 31).2.1 (TX12 31).2.2.1 ∈ wsX12_judge := by decide +kernel
set_option maxHeartbeats 4000000 in
set_option maxRecDepth 100000 in
theorem b_X12_judge_b2 {a : Ax} {Z : Zx} {A : Nat → Prop} {r : Int32} {f : Nat → Nat → Int32} (F : FX_X12_judge a Z A) : ∀ (n : Nat) (i1 : Int32), f_X12_judge_b2 n i1 f = some r → WS a (XM Z) A 2 (RP a (XM Z) A (PI r f)) 2 [(0, .ref (Z.2.1 0)), (1, .int i1)] [] f := by
  intro n
  induction n with
  | zero => intro i1 hf; exact nomatch (show (none : Option Int32) = some r from hf)
  | succ n hK2 =>
    intro i1 hf
    replace hf : f_X12_judge_b2s (fun i1 => f_X12_judge_b2 n i1 f) i1 f = some r := hf
    unfold f_X12_judge_b2s at hf
    refine rw_iload_n F dX12_judge_2 rfl 1 rfl ?_
    refine rw_aload_n F dX12_judge_3 rfl 0 rfl ?_
    refine rw_get F 0 (show 0 < 20 by decide) (gM_0 Z _) iw_X12_judge_X12 rfl 31 (by decide) lk_X12_judge_159 rfl dX12_judge_4 ?_
    refine rw_icmp_ge F (tgt := 37) hf dX12_judge_7 (by decide) (fun hc6 hf => ?_) (fun hc6 hf => ?_)
    · refine rw_iconst F (v := -1) dX12_judge_37 (by decide) ?_
      exact rw_iret F hf rfl dX12_judge_38
    · refine rw_aload_n F dX12_judge_10 rfl 0 rfl ?_
      refine rw_get F 0 (show 0 < 20 by decide) (gM_0 Z _) iw_X12_judge_X12 rfl 7 (by decide) lk_X12_judge_22 rfl dX12_judge_11 ?_
      refine rw_bipush F (v := 19) dX12_judge_14 (by decide) ?_
      obtain ⟨hi1, hf⟩ := ck_h hf
      refine rw_iald F 5 (show 5 < 20 by decide) (gM_5 Z _) 0 rfl hi1 dX12_judge_16 ?_
      obtain ⟨q3, hq2, hf⟩ := bind_h hf
      refine rw_callSI F (nA := 1) (c_X12_bits (aL a) Z _ _ _ hq2) gX12_judge_X12_bits rfl ⟨rfl, rfl⟩ (by decide +kernel) ⟨Nat.le_of_ble_eq_true rfl, Nat.le_of_ble_eq_true rfl⟩ rfl rfl (Nat.le_of_ble_eq_true rfl) dX12_judge_17 ?_
      refine rw_aload_n F dX12_judge_20 rfl 0 rfl ?_
      refine rw_get F 0 (show 0 < 20 by decide) (gM_0 Z _) iw_X12_judge_X12 rfl 32 (by decide) lk_X12_judge_62 rfl dX12_judge_21 ?_
      refine rw_iload_n F dX12_judge_24 rfl 1 rfl ?_
      obtain ⟨hi4, hf⟩ := ck_h hf
      refine rw_iald F 17 (show 17 < 20 by decide) (gM_17 Z _) 0 rfl hi4 dX12_judge_25 ?_
      refine rw_icmp_eq F (tgt := 31) hf dX12_judge_26 (by decide) (fun hc5 hf => ?_) (fun hc5 hf => ?_)
      · refine rw_iinc F (v := 1) dX12_judge_31 1 rfl (by decide) (by decide) rfl ?_
        refine rw_goto F (tgt := 2) dX12_judge_34 (by decide) ?_
        exact WS.sub [1, 0] rfl (hK2 _ hf)
      · refine rw_iload_n F dX12_judge_29 rfl 1 rfl ?_
        exact rw_iret F hf rfl dX12_judge_30

set_option maxHeartbeats 4000000 in
set_option maxRecDepth 100000 in
theorem c_X12_judge (l : Launch) (Z : Zx) (f : Nat → Nat → Int32) (r : Int32) (hf : f_X12_judge f = some r) : MS l (XM Z) yX12_judge wsX12_judge rm_X12_judge [.ref (Z.2.1 0)] f (PI r f) := by
  refine MS.of (cc := cX12_judge) (maxL := 2) (ret := (some .int)) (own := RX12) (lv := [(0, .ref (Z.2.1 0))]) (by decide) rfl rfl (Nat.le_of_ble_eq_true rfl) rfl ?_
  intro a A hla F
  subst hla
  unfold f_X12_judge at hf
  refine rw_iconst F (v := 0) dX12_judge_0 (by decide) ?_
  refine rw_istore_n F dX12_judge_1 rfl (by decide) rfl ?_
  exact WS.sub [1, 0] rfl (b_X12_judge_b2 F  fuB _ hf)

abbrev rm_X12_seed : Room := { frames := 0, cells := 0, slots := 0, locals := 0 }
abbrev FX_X12_seed (a : Ax) (Z : Zx) (A : Nat → Prop) : Prop := FX a (XM Z) A cX12_seed RX12 wsX12_seed 3 (some .int) rm_X12_seed
theorem iw_X12_seed_X12 : ∀ w ∈ wsX120, w ∈ wsX12_seed := by decide +kernel
theorem lk_X12_seed_205 : Cond.fieldLink RX12 205 (TX12 8).1 (TX12 8).2.1 (TX12 8).2.2.1 ∈ wsX12_seed := by decide +kernel
set_option maxHeartbeats 4000000 in
set_option maxRecDepth 100000 in
theorem c_X12_seed (l : Launch) (Z : Zx) (p1 : Int32) (f : Nat → Nat → Int32) (r : (Int32 × (Nat → Nat → Int32))) (hf : f_X12_seed p1 f = some r) : MS l (XM Z) yX12_seed wsX12_seed rm_X12_seed [.ref (Z.2.1 0), .int p1] f (PI r.1 r.2) := by
  refine MS.of (cc := cX12_seed) (maxL := 3) (ret := (some .int)) (own := RX12) (lv := [(0, .ref (Z.2.1 0)), (1, .int p1)]) (by decide) rfl rfl (Nat.le_of_ble_eq_true rfl) rfl ?_
  intro a A hla F
  subst hla
  unfold f_X12_seed at hf
  refine rw_iload_n F dX12_seed_0 rfl 1 rfl ?_
  refine rw_if_ge F (tgt := 7) hf dX12_seed_1 (by decide) (fun hc1 hf => ?_) (fun hc1 hf => ?_)
  · refine rw_aload_n F dX12_seed_7 rfl 0 rfl ?_
    refine rw_get F 0 (show 0 < 20 by decide) (gM_0 Z _) iw_X12_seed_X12 rfl 8 (by decide) lk_X12_seed_205 rfl dX12_seed_8 ?_
    refine rw_istore_n F dX12_seed_11 rfl (by decide) rfl ?_
    refine rw_aload_n F dX12_seed_12 rfl 1 rfl ?_
    refine rw_iload_n F dX12_seed_13 rfl 2 rfl ?_
    refine rw_put F 0 (show 0 < 20 by decide) (gM_0 Z) iw_X12_seed_X12 tyX12 tyX12_ok nmX12 rfl 8 (by decide) lk_X12_seed_205 rfl rfl rfl (fun _ => by rw [lnM0]; decide) (stM0_8 Z.2.1) dX12_seed_14 ?_
    refine rw_iload_n F dX12_seed_17 rfl 0 rfl ?_
    exact rw_iretS F hf rfl dX12_seed_18
  · refine rw_ldc F (v := -1000000002) dX12_seed_4 (by decide +kernel) ?_
    exact rw_iretS F hf rfl dX12_seed_6

abbrev rm_X12_keep : Room := { frames := 1, cells := 0, slots := 0, locals := 25 }
abbrev FX_X12_keep (a : Ax) (Z : Zx) (A : Nat → Prop) : Prop := FX a (XM Z) A cX12_keep RX12 wsX12_keep 3 (some .int) rm_X12_keep
theorem iw_X12_keep_X12 : ∀ w ∈ wsX120, w ∈ wsX12_keep := by decide +kernel
theorem lk_X12_keep_22 : Cond.fieldLink RX12 22 (TX12 7).1 (TX12 7).2.1 (TX12 7).2.2.1 ∈ wsX12_keep := by decide +kernel
theorem lk_X12_keep_65 : Cond.fieldLink RX12 65 (TX12 33).1 (TX12 33).2.1 (TX12 33).2.2.1 ∈ wsX12_keep := by decide +kernel
theorem lk_X12_keep_68 : Cond.fieldLink RX12 68 (TX12 34).1 (TX12 34).2.1 (TX12 34).2.2.1 ∈ wsX12_keep := by decide +kernel
theorem lk_X12_keep_162 : Cond.fieldLink RX12 162 (TX12 25).1 (TX12 25).2.1 (TX12 25).2.2.1 ∈ wsX12_keep := by decide +kernel
theorem lk_X12_keep_205 : Cond.fieldLink RX12 205 (TX12 8).1 (TX12 8).2.1 (TX12 8).2.2.1 ∈ wsX12_keep := by decide +kernel
set_option maxHeartbeats 4000000 in
set_option maxRecDepth 100000 in
theorem b_X12_keep_b15 {a : Ax} {Z : Zx} {A : Nat → Prop} {r : (Int32 × (Nat → Nat → Int32))} (F : FX_X12_keep a Z A) : ∀ (n : Nat) (i1 : Int32) (i2 : Int32) (f : Nat → Nat → Int32), f_X12_keep_b15 n i1 i2 f = some r → WS a (XM Z) A 3 (RP a (XM Z) A (PI r.1 r.2)) 15 [(0, .ref (Z.2.1 0)), (1, .int i1), (2, .int i2)] [] f := by
  intro n
  induction n with
  | zero => intro i1 i2 f hf; exact nomatch (show (none : Option (Int32 × (Nat → Nat → Int32))) = some r from hf)
  | succ n hK15 =>
    intro i1 i2 f hf
    replace hf : f_X12_keep_b15s (f_X12_keep_b15 n) i1 i2 f = some r := hf
    unfold f_X12_keep_b15s at hf
    refine rw_iload_n F dX12_keep_15 rfl 2 rfl ?_
    refine rw_bipush F (v := 28) dX12_keep_16 (by decide) ?_
    refine rw_icmp_ge F (tgt := 44) hf dX12_keep_18 (by decide) (fun hc7 hf => ?_) (fun hc7 hf => ?_)
    · refine rw_aload_n F dX12_keep_44 rfl 0 rfl ?_
      refine rw_get F 0 (show 0 < 20 by decide) (gM_0 Z _) iw_X12_keep_X12 rfl 33 (by decide) lk_X12_keep_65 rfl dX12_keep_45 ?_
      refine rw_bipush F (v := 29) dX12_keep_48 (by decide) ?_
      refine rw_iload_n F dX12_keep_50 rfl 1 rfl ?_
      refine rw_imul F dX12_keep_51 ?_
      refine rw_bipush F (v := 28) dX12_keep_52 (by decide) ?_
      refine rw_iadd F dX12_keep_54 ?_
      refine rw_aload_n F dX12_keep_55 rfl 0 rfl ?_
      refine rw_get F 0 (show 0 < 20 by decide) (gM_0 Z _) iw_X12_keep_X12 rfl 8 (by decide) lk_X12_keep_205 rfl dX12_keep_56 ?_
      obtain ⟨hi3, hf⟩ := ck_h hf
      refine rw_iast F 18 (show 18 < 20 by decide) (gM_18 Z) 0 rfl hi3 dX12_keep_59 ?_
      refine rw_aload_n F dX12_keep_60 rfl 0 rfl ?_
      refine rw_get F 0 (show 0 < 20 by decide) (gM_0 Z _) iw_X12_keep_X12 rfl 34 (by decide) lk_X12_keep_68 rfl dX12_keep_61 ?_
      refine rw_iload_n F dX12_keep_64 rfl 1 rfl ?_
      refine rw_iconst F (v := 1) dX12_keep_65 (by decide) ?_
      obtain ⟨hi4, hf⟩ := ck_h hf
      refine rw_zast F 19 (show 19 < 20 by decide) (gM_19 Z) 1 rfl hi4 rfl dX12_keep_66 ?_
      refine rw_aload_n F dX12_keep_67 rfl 0 rfl ?_
      refine rw_iconst F (v := 0) dX12_keep_68 (by decide) ?_
      refine rw_put F 0 (show 0 < 20 by decide) (gM_0 Z) iw_X12_keep_X12 tyX12 tyX12_ok nmX12 rfl 25 (by decide) lk_X12_keep_162 rfl rfl rfl (fun _ => by rw [lnM0]; decide) (stM0_25 Z.2.1) dX12_keep_69 ?_
      refine rw_iconst F (v := 1) dX12_keep_72 (by decide) ?_
      exact rw_iretS F hf rfl dX12_keep_73
    · refine rw_aload_n F dX12_keep_21 rfl 0 rfl ?_
      refine rw_get F 0 (show 0 < 20 by decide) (gM_0 Z _) iw_X12_keep_X12 rfl 33 (by decide) lk_X12_keep_65 rfl dX12_keep_22 ?_
      refine rw_bipush F (v := 29) dX12_keep_25 (by decide) ?_
      refine rw_iload_n F dX12_keep_27 rfl 1 rfl ?_
      refine rw_imul F dX12_keep_28 ?_
      refine rw_iload_n F dX12_keep_29 rfl 2 rfl ?_
      refine rw_iadd F dX12_keep_30 ?_
      refine rw_aload_n F dX12_keep_31 rfl 0 rfl ?_
      refine rw_get F 0 (show 0 < 20 by decide) (gM_0 Z _) iw_X12_keep_X12 rfl 7 (by decide) lk_X12_keep_22 rfl dX12_keep_32 ?_
      refine rw_iload_n F dX12_keep_35 rfl 2 rfl ?_
      obtain ⟨hi5, hf⟩ := ck_h hf
      refine rw_iald F 5 (show 5 < 20 by decide) (gM_5 Z _) 0 rfl hi5 dX12_keep_36 ?_
      obtain ⟨hi6, hf⟩ := ck_h hf
      refine rw_iast F 18 (show 18 < 20 by decide) (gM_18 Z) 0 rfl hi6 dX12_keep_37 ?_
      refine rw_iinc F (v := 1) dX12_keep_38 2 rfl (by decide) (by decide) rfl ?_
      refine rw_goto F (tgt := 15) dX12_keep_41 (by decide) ?_
      exact WS.sub [1, 2, 0] rfl (hK15 _ _ _ hf)

set_option maxHeartbeats 4000000 in
set_option maxRecDepth 100000 in
theorem c_X12_keep (l : Launch) (Z : Zx) (p1 : Int32) (f : Nat → Nat → Int32) (r : (Int32 × (Nat → Nat → Int32))) (hf : f_X12_keep p1 f = some r) : MS l (XM Z) yX12_keep wsX12_keep rm_X12_keep [.ref (Z.2.1 0), .int p1] f (PI r.1 r.2) := by
  refine MS.of (cc := cX12_keep) (maxL := 3) (ret := (some .int)) (own := RX12) (lv := [(0, .ref (Z.2.1 0)), (1, .int p1)]) (by decide) rfl rfl (Nat.le_of_ble_eq_true rfl) rfl ?_
  intro a A hla F
  subst hla
  unfold f_X12_keep at hf
  refine rw_iload_n F dX12_keep_0 rfl 1 rfl ?_
  refine rw_i2l F dX12_keep_1 ?_
  refine rw_lconst F (v := 0) dX12_keep_2 (by decide) ?_
  refine rw_lconst F (v := 1) dX12_keep_3 (by decide) ?_
  obtain ⟨q2, hq1, hf⟩ := bind_h hf
  refine rw_callSI F (nA := 3) (c_X12_in (aL a) Z _ _ _ _ _ hq1) gX12_keep_X12_in rfl ⟨rfl, rfl⟩ (by decide +kernel) ⟨Nat.le_of_ble_eq_true rfl, Nat.le_of_ble_eq_true rfl⟩ rfl rfl (Nat.le_of_ble_eq_true rfl) dX12_keep_4 ?_
  refine rw_if_ne F (tgt := 13) hf dX12_keep_7 (by decide) (fun hc8 hf => ?_) (fun hc8 hf => ?_)
  · refine rw_iconst F (v := 0) dX12_keep_13 (by decide) ?_
    refine rw_istore_n F dX12_keep_14 rfl (by decide) rfl ?_
    exact WS.sub [1, 2, 0] rfl (b_X12_keep_b15 F  fuB _ _ _ hf)
  · refine rw_ldc F (v := -1000000001) dX12_keep_10 (by decide +kernel) ?_
    exact rw_iretS F hf rfl dX12_keep_12

abbrev rm_X12_goBack : Room := { frames := 1, cells := 0, slots := 0, locals := 25 }
abbrev FX_X12_goBack (a : Ax) (Z : Zx) (A : Nat → Prop) : Prop := FX a (XM Z) A cX12_goBack RX12 wsX12_goBack 3 (some .int) rm_X12_goBack
theorem iw_X12_goBack_X12 : ∀ w ∈ wsX120, w ∈ wsX12_goBack := by decide +kernel
theorem lk_X12_goBack_22 : Cond.fieldLink RX12 22 (TX12 7).1 (TX12 7).2.1 (TX12 7).2.2.1 ∈ wsX12_goBack := by decide +kernel
theorem lk_X12_goBack_65 : Cond.fieldLink RX12 65 (TX12 33).1 (TX12 33).2.1 (TX12 33).2.2.1 ∈ wsX12_goBack := by decide +kernel
theorem lk_X12_goBack_68 : Cond.fieldLink RX12 68 (TX12 34).1 (TX12 34).2.1 (TX12 34).2.2.1 ∈ wsX12_goBack := by decide +kernel
theorem lk_X12_goBack_162 : Cond.fieldLink RX12 162 (TX12 25).1 (TX12 25).2.1 (TX12 25).2.2.1 ∈ wsX12_goBack := by decide +kernel
theorem lk_X12_goBack_205 : Cond.fieldLink RX12 205 (TX12 8).1 (TX12 8).2.1 (TX12 8).2.2.1 ∈ wsX12_goBack := by decide +kernel
set_option maxHeartbeats 4000000 in
set_option maxRecDepth 100000 in
theorem b_X12_goBack_b27 {a : Ax} {Z : Zx} {A : Nat → Prop} {r : (Int32 × (Nat → Nat → Int32))} (F : FX_X12_goBack a Z A) : ∀ (n : Nat) (i1 : Int32) (i2 : Int32) (f : Nat → Nat → Int32), f_X12_goBack_b27 n i1 i2 f = some r → WS a (XM Z) A 3 (RP a (XM Z) A (PI r.1 r.2)) 27 [(0, .ref (Z.2.1 0)), (1, .int i1), (2, .int i2)] [] f := by
  intro n
  induction n with
  | zero => intro i1 i2 f hf; exact nomatch (show (none : Option (Int32 × (Nat → Nat → Int32))) = some r from hf)
  | succ n hK27 =>
    intro i1 i2 f hf
    replace hf : f_X12_goBack_b27s (f_X12_goBack_b27 n) i1 i2 f = some r := hf
    unfold f_X12_goBack_b27s at hf
    refine rw_iload_n F dX12_goBack_27 rfl 2 rfl ?_
    refine rw_bipush F (v := 28) dX12_goBack_28 (by decide) ?_
    refine rw_icmp_ge F (tgt := 56) hf dX12_goBack_30 (by decide) (fun hc7 hf => ?_) (fun hc7 hf => ?_)
    · refine rw_aload_n F dX12_goBack_56 rfl 0 rfl ?_
      refine rw_aload_n F dX12_goBack_57 rfl 0 rfl ?_
      refine rw_get F 0 (show 0 < 20 by decide) (gM_0 Z _) iw_X12_goBack_X12 rfl 33 (by decide) lk_X12_goBack_65 rfl dX12_goBack_58 ?_
      refine rw_bipush F (v := 29) dX12_goBack_61 (by decide) ?_
      refine rw_iload_n F dX12_goBack_63 rfl 1 rfl ?_
      refine rw_imul F dX12_goBack_64 ?_
      refine rw_bipush F (v := 28) dX12_goBack_65 (by decide) ?_
      refine rw_iadd F dX12_goBack_67 ?_
      obtain ⟨hi4, hf⟩ := ck_h hf
      refine rw_iald F 18 (show 18 < 20 by decide) (gM_18 Z _) 0 rfl hi4 dX12_goBack_68 ?_
      refine rw_put F 0 (show 0 < 20 by decide) (gM_0 Z) iw_X12_goBack_X12 tyX12 tyX12_ok nmX12 rfl 8 (by decide) lk_X12_goBack_205 rfl rfl rfl (fun _ => by rw [lnM0]; decide) (stM0_8 Z.2.1) dX12_goBack_69 ?_
      refine rw_aload_n F dX12_goBack_72 rfl 0 rfl ?_
      refine rw_iconst F (v := 0) dX12_goBack_73 (by decide) ?_
      refine rw_put F 0 (show 0 < 20 by decide) (gM_0 Z) iw_X12_goBack_X12 tyX12 tyX12_ok nmX12 rfl 25 (by decide) lk_X12_goBack_162 rfl rfl rfl (fun _ => by rw [lnM0]; decide) (stM0_25 Z.2.1) dX12_goBack_74 ?_
      refine rw_iconst F (v := 1) dX12_goBack_77 (by decide) ?_
      exact rw_iretS F hf rfl dX12_goBack_78
    · refine rw_aload_n F dX12_goBack_33 rfl 0 rfl ?_
      refine rw_get F 0 (show 0 < 20 by decide) (gM_0 Z _) iw_X12_goBack_X12 rfl 7 (by decide) lk_X12_goBack_22 rfl dX12_goBack_34 ?_
      refine rw_iload_n F dX12_goBack_37 rfl 2 rfl ?_
      refine rw_aload_n F dX12_goBack_38 rfl 0 rfl ?_
      refine rw_get F 0 (show 0 < 20 by decide) (gM_0 Z _) iw_X12_goBack_X12 rfl 33 (by decide) lk_X12_goBack_65 rfl dX12_goBack_39 ?_
      refine rw_bipush F (v := 29) dX12_goBack_42 (by decide) ?_
      refine rw_iload_n F dX12_goBack_44 rfl 1 rfl ?_
      refine rw_imul F dX12_goBack_45 ?_
      refine rw_iload_n F dX12_goBack_46 rfl 2 rfl ?_
      refine rw_iadd F dX12_goBack_47 ?_
      obtain ⟨hi5, hf⟩ := ck_h hf
      refine rw_iald F 18 (show 18 < 20 by decide) (gM_18 Z _) 0 rfl hi5 dX12_goBack_48 ?_
      obtain ⟨hi6, hf⟩ := ck_h hf
      refine rw_iast F 5 (show 5 < 20 by decide) (gM_5 Z) 0 rfl hi6 dX12_goBack_49 ?_
      refine rw_iinc F (v := 1) dX12_goBack_50 2 rfl (by decide) (by decide) rfl ?_
      refine rw_goto F (tgt := 27) dX12_goBack_53 (by decide) ?_
      exact WS.sub [1, 2, 0] rfl (hK27 _ _ _ hf)

set_option maxHeartbeats 4000000 in
set_option maxRecDepth 100000 in
theorem c_X12_goBack (l : Launch) (Z : Zx) (p1 : Int32) (f : Nat → Nat → Int32) (r : (Int32 × (Nat → Nat → Int32))) (hf : f_X12_goBack p1 f = some r) : MS l (XM Z) yX12_goBack wsX12_goBack rm_X12_goBack [.ref (Z.2.1 0), .int p1] f (PI r.1 r.2) := by
  refine MS.of (cc := cX12_goBack) (maxL := 3) (ret := (some .int)) (own := RX12) (lv := [(0, .ref (Z.2.1 0)), (1, .int p1)]) (by decide) rfl rfl (Nat.le_of_ble_eq_true rfl) rfl ?_
  intro a A hla F
  subst hla
  unfold f_X12_goBack at hf
  refine rw_iload_n F dX12_goBack_0 rfl 1 rfl ?_
  refine rw_i2l F dX12_goBack_1 ?_
  refine rw_lconst F (v := 0) dX12_goBack_2 (by decide) ?_
  refine rw_lconst F (v := 1) dX12_goBack_3 (by decide) ?_
  obtain ⟨q2, hq1, hf⟩ := bind_h hf
  refine rw_callSI F (nA := 3) (c_X12_in (aL a) Z _ _ _ _ _ hq1) gX12_goBack_X12_in rfl ⟨rfl, rfl⟩ (by decide +kernel) ⟨Nat.le_of_ble_eq_true rfl, Nat.le_of_ble_eq_true rfl⟩ rfl rfl (Nat.le_of_ble_eq_true rfl) dX12_goBack_4 ?_
  refine rw_if_ne F (tgt := 13) hf dX12_goBack_7 (by decide) (fun hc9 hf => ?_) (fun hc9 hf => ?_)
  · refine rw_aload_n F dX12_goBack_13 rfl 0 rfl ?_
    refine rw_get F 0 (show 0 < 20 by decide) (gM_0 Z _) iw_X12_goBack_X12 rfl 34 (by decide) lk_X12_goBack_68 rfl dX12_goBack_14 ?_
    refine rw_iload_n F dX12_goBack_17 rfl 1 rfl ?_
    obtain ⟨hi3, hf⟩ := ck_h hf
    refine rw_zald F 19 (show 19 < 20 by decide) (gM_19 Z _) 1 rfl hi3 dX12_goBack_18 ?_
    refine rw_if_ne F (tgt := 25) hf dX12_goBack_19 (by decide) (fun hc8 hf => ?_) (fun hc8 hf => ?_)
    · refine rw_iconst F (v := 0) dX12_goBack_25 (by decide) ?_
      refine rw_istore_n F dX12_goBack_26 rfl (by decide) rfl ?_
      exact WS.sub [1, 2, 0] rfl (b_X12_goBack_b27 F  fuB _ _ _ hf)
    · refine rw_ldc F (v := -1000000003) dX12_goBack_22 (by decide +kernel) ?_
      exact rw_iretS F hf rfl dX12_goBack_24
  · refine rw_ldc F (v := -1000000001) dX12_goBack_10 (by decide +kernel) ?_
    exact rw_iretS F hf rfl dX12_goBack_12

