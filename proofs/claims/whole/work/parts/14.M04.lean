abbrev rm_X12_bargain : Room := { frames := 1, cells := 0, slots := 0, locals := 25 }
abbrev FX_X12_bargain (a : Ax) (Z : Zx) (A : Nat → Prop) : Prop := FX a (XM Z) A cX12_bargain RX12 wsX12_bargain 7 (some .int) rm_X12_bargain
set_option maxHeartbeats 4000000 in
set_option maxRecDepth 100000 in
theorem b_X12_bargain_b47 {a : Ax} {Z : Zx} {A : Nat → Prop} {r : Int32} {f : Nat → Nat → Int32} (F : FX_X12_bargain a Z A) : f_X12_bargain_b47  f = some r → WS a (XM Z) A 7 (RP a (XM Z) A (PI r f)) 47 [] [] f := by
  intro  hf
  unfold f_X12_bargain_b47 at hf
  refine rw_ldc F (v := -1000000002) dX12_bargain_47 (by decide +kernel) ?_
  exact rw_iret F hf rfl dX12_bargain_49

set_option maxHeartbeats 4000000 in
set_option maxRecDepth 100000 in
theorem b_X12_bargain_b97 {a : Ax} {Z : Zx} {A : Nat → Prop} {r : Int32} {f : Nat → Nat → Int32} (F : FX_X12_bargain a Z A) : ∀ (i4 : Int32) (i5 : Int32) (s0 : Int32), f_X12_bargain_b97 i4 i5 s0 f = some r → WS a (XM Z) A 7 (RP a (XM Z) A (PI r f)) 97 [(4, .int i4), (5, .int i5)] [.int s0] f := by
  intro i4 i5 s0 hf
  unfold f_X12_bargain_b97 at hf
  refine rw_istore F dX12_bargain_97 (by decide) rfl ?_
  refine rw_iload F dX12_bargain_99 1 rfl ?_
  refine rw_if_ne F (tgt := 109) hf dX12_bargain_101 (by decide) (fun hc9 hf => ?_) (fun hc9 hf => ?_)
  · refine rw_iload F dX12_bargain_109 0 rfl ?_
    exact rw_iret F hf rfl dX12_bargain_111
  · refine rw_iload F dX12_bargain_104 2 rfl ?_
    refine rw_goto F (tgt := 111) dX12_bargain_106 (by decide) ?_
    exact rw_iret F hf rfl dX12_bargain_111

set_option maxHeartbeats 4000000 in
set_option maxRecDepth 100000 in
theorem b_X12_bargain_b75 {a : Ax} {Z : Zx} {A : Nat → Prop} {r : Int32} {f : Nat → Nat → Int32} (F : FX_X12_bargain a Z A) : ∀ (i1 : Int32) (i3 : Int32) (i4 : Int32) (s0 : Int32), f_X12_bargain_b75 i1 i3 i4 s0 f = some r → WS a (XM Z) A 7 (RP a (XM Z) A (PI r f)) 75 [(1, .int i1), (3, .int i3), (4, .int i4)] [.int s0] f := by
  intro i1 i3 i4 s0 hf
  unfold f_X12_bargain_b75 at hf
  refine rw_istore F dX12_bargain_75 (by decide) rfl ?_
  refine rw_iload F dX12_bargain_77 0 rfl ?_
  refine rw_iconst F (v := 2) dX12_bargain_79 (by decide) ?_
  refine rw_iload_n F dX12_bargain_80 rfl 2 rfl ?_
  refine rw_imul F dX12_bargain_81 ?_
  refine rw_iadd F dX12_bargain_82 ?_
  refine rw_iload_n F dX12_bargain_83 rfl 1 rfl ?_
  refine rw_icmp_ge F (tgt := 96) hf dX12_bargain_84 (by decide) (fun hc10 hf => ?_) (fun hc10 hf => ?_)
  · refine rw_iload_n F dX12_bargain_96 rfl 1 rfl ?_
    exact WS.sub [3, 0] rfl (b_X12_bargain_b97 F  _ _ _ hf)
  · refine rw_iload F dX12_bargain_87 0 rfl ?_
    refine rw_iconst F (v := 2) dX12_bargain_89 (by decide) ?_
    refine rw_iload_n F dX12_bargain_90 rfl 2 rfl ?_
    refine rw_imul F dX12_bargain_91 ?_
    refine rw_iadd F dX12_bargain_92 ?_
    refine rw_goto F (tgt := 97) dX12_bargain_93 (by decide) ?_
    exact WS.sub [3, 0] rfl (b_X12_bargain_b97 F  _ _ _ hf)

set_option maxHeartbeats 4000000 in
set_option maxRecDepth 100000 in
theorem c_X12_bargain (l : Launch) (Z : Zx) (p1 : Int32) (p2 : Int32) (p3 : Int32) (p4 : Int32) (f : Nat → Nat → Int32) (r : Int32) (hf : f_X12_bargain p1 p2 p3 p4 f = some r) : MS l (XM Z) yX12_bargain wsX12_bargain rm_X12_bargain [.ref (Z.2.1 0), .int p1, .int p2, .int p3, .int p4] f (PI r f) := by
  refine MS.of (cc := cX12_bargain) (maxL := 7) (ret := (some .int)) (own := RX12) (lv := [(0, .ref (Z.2.1 0)), (1, .int p1), (2, .int p2), (3, .int p3), (4, .int p4)]) (by decide) rfl rfl (Nat.le_of_ble_eq_true rfl) rfl ?_
  intro a A hla F
  subst hla
  unfold f_X12_bargain at hf
  refine rw_iload_n F dX12_bargain_0 rfl 1 rfl ?_
  refine rw_i2l F dX12_bargain_1 ?_
  refine rw_lconst F (v := 0) dX12_bargain_2 (by decide) ?_
  refine rw_ldc2 F (v := 9999) dX12_bargain_3 (by decide +kernel) ?_
  obtain ⟨q2, hq1, hf⟩ := bind_h hf
  refine rw_callSI F (nA := 3) (c_X12_in (aL a) Z _ _ _ _ _ hq1) gX12_bargain_X12_in rfl ⟨rfl, rfl⟩ (by decide +kernel) ⟨Nat.le_of_ble_eq_true rfl, Nat.le_of_ble_eq_true rfl⟩ rfl rfl (Nat.le_of_ble_eq_true rfl) dX12_bargain_6 ?_
  refine rw_if_eq F (tgt := 47) hf dX12_bargain_9 (by decide) (fun hc15 hf => ?_) (fun hc15 hf => ?_)
  · exact WS.sub [] rfl (b_X12_bargain_b47 F   hf)
  · refine rw_iload_n F dX12_bargain_12 rfl 2 rfl ?_
    refine rw_i2l F dX12_bargain_13 ?_
    refine rw_lconst F (v := 0) dX12_bargain_14 (by decide) ?_
    refine rw_ldc2 F (v := 1000000) dX12_bargain_15 (by decide +kernel) ?_
    obtain ⟨q4, hq3, hf⟩ := bind_h hf
    refine rw_callSI F (nA := 3) (c_X12_in (aL a) Z _ _ _ _ _ hq3) gX12_bargain_X12_in rfl ⟨rfl, rfl⟩ (by decide +kernel) ⟨Nat.le_of_ble_eq_true rfl, Nat.le_of_ble_eq_true rfl⟩ rfl rfl (Nat.le_of_ble_eq_true rfl) dX12_bargain_18 ?_
    refine rw_if_eq F (tgt := 47) hf dX12_bargain_21 (by decide) (fun hc14 hf => ?_) (fun hc14 hf => ?_)
    · exact WS.sub [] rfl (b_X12_bargain_b47 F   hf)
    · refine rw_iload_n F dX12_bargain_24 rfl 3 rfl ?_
      refine rw_i2l F dX12_bargain_25 ?_
      refine rw_lconst F (v := 0) dX12_bargain_26 (by decide) ?_
      refine rw_ldc2 F (v := 999) dX12_bargain_27 (by decide +kernel) ?_
      obtain ⟨q6, hq5, hf⟩ := bind_h hf
      refine rw_callSI F (nA := 3) (c_X12_in (aL a) Z _ _ _ _ _ hq5) gX12_bargain_X12_in rfl ⟨rfl, rfl⟩ (by decide +kernel) ⟨Nat.le_of_ble_eq_true rfl, Nat.le_of_ble_eq_true rfl⟩ rfl rfl (Nat.le_of_ble_eq_true rfl) dX12_bargain_30 ?_
      refine rw_if_eq F (tgt := 47) hf dX12_bargain_33 (by decide) (fun hc13 hf => ?_) (fun hc13 hf => ?_)
      · exact WS.sub [] rfl (b_X12_bargain_b47 F   hf)
      · refine rw_iload F dX12_bargain_36 4 rfl ?_
        refine rw_i2l F dX12_bargain_38 ?_
        refine rw_lconst F (v := 0) dX12_bargain_39 (by decide) ?_
        refine rw_lconst F (v := 1) dX12_bargain_40 (by decide) ?_
        obtain ⟨q8, hq7, hf⟩ := bind_h hf
        refine rw_callSI F (nA := 3) (c_X12_in (aL a) Z _ _ _ _ _ hq7) gX12_bargain_X12_in rfl ⟨rfl, rfl⟩ (by decide +kernel) ⟨Nat.le_of_ble_eq_true rfl, Nat.le_of_ble_eq_true rfl⟩ rfl rfl (Nat.le_of_ble_eq_true rfl) dX12_bargain_41 ?_
        refine rw_if_ne F (tgt := 50) hf dX12_bargain_44 (by decide) (fun hc12 hf => ?_) (fun hc12 hf => ?_)
        · refine rw_iload_n F dX12_bargain_50 rfl 1 rfl ?_
          refine rw_i2l F dX12_bargain_51 ?_
          refine rw_iload_n F dX12_bargain_52 rfl 2 rfl ?_
          refine rw_i2l F dX12_bargain_53 ?_
          refine rw_lmul F dX12_bargain_54 ?_
          refine rw_ldc2 F (v := 1000000) dX12_bargain_55 (by decide +kernel) ?_
          refine rw_ldiv F dX12_bargain_58 (by decide) ?_
          refine rw_l2i F dX12_bargain_59 ?_
          refine rw_iload_n F dX12_bargain_60 rfl 3 rfl ?_
          refine rw_isub F dX12_bargain_61 ?_
          refine rw_istore F dX12_bargain_62 (by decide) rfl ?_
          refine rw_iload F dX12_bargain_64 0 rfl ?_
          refine rw_if_le F (tgt := 74) hf dX12_bargain_66 (by decide) (fun hc11 hf => ?_) (fun hc11 hf => ?_)
          · refine rw_iconst F (v := 0) dX12_bargain_74 (by decide) ?_
            exact WS.sub [2, 4, 5] rfl (b_X12_bargain_b75 F  _ _ _ _ hf)
          · refine rw_iload F dX12_bargain_69 0 rfl ?_
            refine rw_goto F (tgt := 75) dX12_bargain_71 (by decide) ?_
            exact WS.sub [2, 4, 5] rfl (b_X12_bargain_b75 F  _ _ _ _ hf)
        · exact WS.sub [] rfl (b_X12_bargain_b47 F   hf)

abbrev rm_X12_found : Room := { frames := 3, cells := 0, slots := 0, locals := 74 }
abbrev FX_X12_found (a : Ax) (Z : Zx) (A : Nat → Prop) : Prop := FX a (XM Z) A cX12_found RX12 wsX12_found 6 (some .int) rm_X12_found
theorem iw_X12_found_X12 : ∀ w ∈ wsX120, w ∈ wsX12_found := by decide +kernel
theorem lk_X12_found_86 : Cond.fieldLink RX12 86 (TX12 1).1 (TX12 1).2.1 (TX12 1).2.2.1 ∈ wsX12_found := by decide +kernel
set_option maxHeartbeats 4000000 in
set_option maxRecDepth 100000 in
theorem b_X12_found_b74 {a : Ax} {Z : Zx} {A : Nat → Prop} {r : Int32} {f : Nat → Nat → Int32} (F : FX_X12_found a Z A) (K18 : Int32 → Int32 → Int32 → Int32 → Option Int32) (hK18 : ∀ (i1 : Int32) (i2 : Int32) (i3 : Int32) (i4 : Int32), K18 i1 i2 i3 i4 = some r → WS a (XM Z) A 6 (RP a (XM Z) A (PI r f)) 18 [(0, .ref (Z.2.1 0)), (1, .int i1), (2, .int i2), (3, .int i3), (4, .int i4)] [] f) (K30 : Int32 → Int32 → Int32 → Int32 → Int32 → Option Int32) (hK30 : ∀ (i1 : Int32) (i2 : Int32) (i3 : Int32) (i4 : Int32) (i5 : Int32), K30 i1 i2 i3 i4 i5 = some r → WS a (XM Z) A 6 (RP a (XM Z) A (PI r f)) 30 [(0, .ref (Z.2.1 0)), (1, .int i1), (2, .int i2), (3, .int i3), (4, .int i4), (5, .int i5)] [] f) : ∀ (i1 : Int32) (i2 : Int32) (i4 : Int32) (i5 : Int32) (s0 : Int32) (s1 : Int32), f_X12_found_b74 K18 K30 i1 i2 i4 i5 s0 s1 f = some r → WS a (XM Z) A 6 (RP a (XM Z) A (PI r f)) 74 [(0, .ref (Z.2.1 0)), (1, .int i1), (2, .int i2), (4, .int i4), (5, .int i5)] [.int s1, .int s0] f := by
  intro i1 i2 i4 i5 s0 s1 hf
  unfold f_X12_found_b74 at hf
  refine rw_iadd F dX12_found_74 ?_
  refine rw_istore_n F dX12_found_75 rfl (by decide) rfl ?_
  refine rw_iinc F (v := 1) dX12_found_76 5 rfl (by decide) (by decide) rfl ?_
  refine rw_goto F (tgt := 30) dX12_found_79 (by decide) ?_
  exact WS.sub [2, 3, 4, 1, 5, 0] rfl (hK30 _ _ _ _ _ hf)

set_option maxHeartbeats 4000000 in
set_option maxRecDepth 100000 in
theorem b_X12_found_b73 {a : Ax} {Z : Zx} {A : Nat → Prop} {r : Int32} {f : Nat → Nat → Int32} (F : FX_X12_found a Z A) (K18 : Int32 → Int32 → Int32 → Int32 → Option Int32) (hK18 : ∀ (i1 : Int32) (i2 : Int32) (i3 : Int32) (i4 : Int32), K18 i1 i2 i3 i4 = some r → WS a (XM Z) A 6 (RP a (XM Z) A (PI r f)) 18 [(0, .ref (Z.2.1 0)), (1, .int i1), (2, .int i2), (3, .int i3), (4, .int i4)] [] f) (K30 : Int32 → Int32 → Int32 → Int32 → Int32 → Option Int32) (hK30 : ∀ (i1 : Int32) (i2 : Int32) (i3 : Int32) (i4 : Int32) (i5 : Int32), K30 i1 i2 i3 i4 i5 = some r → WS a (XM Z) A 6 (RP a (XM Z) A (PI r f)) 30 [(0, .ref (Z.2.1 0)), (1, .int i1), (2, .int i2), (3, .int i3), (4, .int i4), (5, .int i5)] [] f) : ∀ (i1 : Int32) (i2 : Int32) (i4 : Int32) (i5 : Int32) (s0 : Int32), f_X12_found_b73 K18 K30 i1 i2 i4 i5 s0 f = some r → WS a (XM Z) A 6 (RP a (XM Z) A (PI r f)) 73 [(0, .ref (Z.2.1 0)), (1, .int i1), (2, .int i2), (4, .int i4), (5, .int i5)] [.int s0] f := by
  intro i1 i2 i4 i5 s0 hf
  unfold f_X12_found_b73 at hf
  refine rw_iconst F (v := 0) dX12_found_73 (by decide) ?_
  exact WS.sub [0, 1, 2, 3, 4] rfl (b_X12_found_b74 F _ hK18 _ hK30 _ _ _ _ _ _ hf)

set_option maxHeartbeats 4000000 in
set_option maxRecDepth 100000 in
theorem b_X12_found_b30 {a : Ax} {Z : Zx} {A : Nat → Prop} {r : Int32} {f : Nat → Nat → Int32} (F : FX_X12_found a Z A) (K18 : Int32 → Int32 → Int32 → Int32 → Option Int32) (hK18 : ∀ (i1 : Int32) (i2 : Int32) (i3 : Int32) (i4 : Int32), K18 i1 i2 i3 i4 = some r → WS a (XM Z) A 6 (RP a (XM Z) A (PI r f)) 18 [(0, .ref (Z.2.1 0)), (1, .int i1), (2, .int i2), (3, .int i3), (4, .int i4)] [] f) : ∀ (n : Nat) (i1 : Int32) (i2 : Int32) (i3 : Int32) (i4 : Int32) (i5 : Int32), f_X12_found_b30 K18 n i1 i2 i3 i4 i5 f = some r → WS a (XM Z) A 6 (RP a (XM Z) A (PI r f)) 30 [(0, .ref (Z.2.1 0)), (1, .int i1), (2, .int i2), (3, .int i3), (4, .int i4), (5, .int i5)] [] f := by
  intro n
  induction n with
  | zero => intro i1 i2 i3 i4 i5 hf; exact nomatch (show (none : Option Int32) = some r from hf)
  | succ n hK30 =>
    intro i1 i2 i3 i4 i5 hf
    replace hf : f_X12_found_b30s (fun i1 i2 i3 i4 i5 => f_X12_found_b30 K18 n i1 i2 i3 i4 i5 f) K18 i1 i2 i3 i4 i5 f = some r := hf
    unfold f_X12_found_b30s at hf
    refine rw_iload F dX12_found_30 5 rfl ?_
    refine rw_aload_n F dX12_found_32 rfl 0 rfl ?_
    obtain ⟨q6, hq5, hf⟩ := bind_h hf
    refine rw_callVI F (k0 := 0) (nA := 0) (c_X12_places (aL a) Z  _ _ hq5) gX12_found_X12_places rfl ⟨rfl, rfl⟩ (by decide +kernel) ⟨Nat.le_of_ble_eq_true rfl, Nat.le_of_ble_eq_true rfl⟩ (show 0 < 20 by decide) (gM_0 Z _) rfl rfl rfl (Nat.le_of_ble_eq_true rfl) dX12_found_33 ?_
    refine rw_icmp_ge F (tgt := 82) hf dX12_found_36 (by decide) (fun hc13 hf => ?_) (fun hc13 hf => ?_)
    · refine rw_iinc F (v := 1) dX12_found_82 4 rfl (by decide) (by decide) rfl ?_
      refine rw_goto F (tgt := 18) dX12_found_85 (by decide) ?_
      exact WS.sub [1, 2, 3, 4, 0] rfl (hK18 _ _ _ _ hf)
    · refine rw_iload_n F dX12_found_39 rfl 2 rfl ?_
      refine rw_iload_n F dX12_found_40 rfl 1 rfl ?_
      refine rw_iload F dX12_found_41 5 rfl ?_
      refine rw_ishr F dX12_found_43 ?_
      refine rw_iconst F (v := 1) dX12_found_44 (by decide) ?_
      refine rw_iand F dX12_found_45 ?_
      refine rw_iadd F dX12_found_46 ?_
      refine rw_istore_n F dX12_found_47 rfl (by decide) rfl ?_
      refine rw_iload_n F dX12_found_48 rfl 3 rfl ?_
      refine rw_iload_n F dX12_found_49 rfl 2 rfl ?_
      refine rw_iload F dX12_found_50 5 rfl ?_
      obtain ⟨q8, hq7, hf⟩ := bind_h hf
      refine rw_callSI F (nA := 2) (c_X12_has (aL a) Z _ _ _ _ hq7) gX12_found_X12_has rfl ⟨rfl, rfl⟩ (by decide +kernel) ⟨Nat.le_of_ble_eq_true rfl, Nat.le_of_ble_eq_true rfl⟩ rfl rfl (Nat.le_of_ble_eq_true rfl) dX12_found_52 ?_
      refine rw_if_eq F (tgt := 73) hf dX12_found_55 (by decide) (fun hc12 hf => ?_) (fun hc12 hf => ?_)
      · exact WS.sub [1, 2, 0, 4, 5] rfl (b_X12_found_b73 F _ hK18 _ hK30 _ _ _ _ _ hf)
      · refine rw_aload_n F dX12_found_58 rfl 1 rfl ?_
        refine rw_iload F dX12_found_59 4 rfl ?_
        refine rw_iload F dX12_found_61 5 rfl ?_
        obtain ⟨q10, hq9, hf⟩ := bind_h hf
        refine rw_callVI F (k0 := 0) (nA := 2) (c_X12_isHeard (aL a) Z _ _ _ _ hq9) gX12_found_X12_isHeard rfl ⟨rfl, rfl⟩ (by decide +kernel) ⟨Nat.le_of_ble_eq_true rfl, Nat.le_of_ble_eq_true rfl⟩ (show 0 < 20 by decide) (gM_0 Z _) rfl rfl rfl (Nat.le_of_ble_eq_true rfl) dX12_found_63 ?_
        refine rw_if_eq F (tgt := 73) hf dX12_found_66 (by decide) (fun hc11 hf => ?_) (fun hc11 hf => ?_)
        · exact WS.sub [1, 2, 0, 4, 5] rfl (b_X12_found_b73 F _ hK18 _ hK30 _ _ _ _ _ hf)
        · refine rw_iconst F (v := 1) dX12_found_69 (by decide) ?_
          refine rw_goto F (tgt := 74) dX12_found_70 (by decide) ?_
          exact WS.sub [1, 2, 0, 4, 5] rfl (b_X12_found_b74 F _ hK18 _ hK30 _ _ _ _ _ _ hf)

set_option maxHeartbeats 4000000 in
set_option maxRecDepth 100000 in
theorem b_X12_found_b18 {a : Ax} {Z : Zx} {A : Nat → Prop} {r : Int32} {f : Nat → Nat → Int32} (F : FX_X12_found a Z A) : ∀ (n : Nat) (i1 : Int32) (i2 : Int32) (i3 : Int32) (i4 : Int32), f_X12_found_b18 n i1 i2 i3 i4 f = some r → WS a (XM Z) A 6 (RP a (XM Z) A (PI r f)) 18 [(0, .ref (Z.2.1 0)), (1, .int i1), (2, .int i2), (3, .int i3), (4, .int i4)] [] f := by
  intro n
  induction n with
  | zero => intro i1 i2 i3 i4 hf; exact nomatch (show (none : Option Int32) = some r from hf)
  | succ n hK18 =>
    intro i1 i2 i3 i4 hf
    replace hf : f_X12_found_b18s (fun i1 i2 i3 i4 => f_X12_found_b18 n i1 i2 i3 i4 f) i1 i2 i3 i4 f = some r := hf
    unfold f_X12_found_b18s at hf
    refine rw_iload F dX12_found_18 4 rfl ?_
    refine rw_aload_n F dX12_found_20 rfl 0 rfl ?_
    refine rw_get F 0 (show 0 < 20 by decide) (gM_0 Z _) iw_X12_found_X12 rfl 1 (by decide) lk_X12_found_86 rfl dX12_found_21 ?_
    refine rw_icmp_ge F (tgt := 88) hf dX12_found_24 (by decide) (fun hc14 hf => ?_) (fun hc14 hf => ?_)
    · refine rw_iload_n F dX12_found_88 rfl 2 rfl ?_
      refine rw_if_ne F (tgt := 96) hf dX12_found_89 (by decide) (fun hc4 hf => ?_) (fun hc4 hf => ?_)
      · refine rw_iload_n F dX12_found_96 rfl 3 rfl ?_
        refine rw_i2l F dX12_found_97 ?_
        refine rw_ldc2 F (v := 1000000) dX12_found_98 (by decide +kernel) ?_
        refine rw_lmul F dX12_found_101 ?_
        refine rw_iload_n F dX12_found_102 rfl 2 rfl ?_
        refine rw_i2l F dX12_found_103 ?_
        obtain ⟨hz3, hf⟩ := dzL_h hf
        refine rw_ldiv F dX12_found_104 hz3 ?_
        refine rw_l2i F dX12_found_105 ?_
        exact rw_iret F hf rfl dX12_found_106
      · refine rw_iconst F (v := 0) dX12_found_92 (by decide) ?_
        refine rw_goto F (tgt := 106) dX12_found_93 (by decide) ?_
        exact rw_iret F hf rfl dX12_found_106
    · refine rw_iconst F (v := 0) dX12_found_27 (by decide) ?_
      refine rw_istore F dX12_found_28 (by decide) rfl ?_
      exact WS.sub [1, 2, 3, 4, 5, 0] rfl (b_X12_found_b30 F _ hK18 fuB _ _ _ _ _ hf)

set_option maxHeartbeats 4000000 in
set_option maxRecDepth 100000 in
theorem c_X12_found (l : Launch) (Z : Zx) (p1 : Int32) (f : Nat → Nat → Int32) (r : Int32) (hf : f_X12_found p1 f = some r) : MS l (XM Z) yX12_found wsX12_found rm_X12_found [.ref (Z.2.1 0), .int p1] f (PI r f) := by
  refine MS.of (cc := cX12_found) (maxL := 6) (ret := (some .int)) (own := RX12) (lv := [(0, .ref (Z.2.1 0)), (1, .int p1)]) (by decide) rfl rfl (Nat.le_of_ble_eq_true rfl) rfl ?_
  intro a A hla F
  subst hla
  unfold f_X12_found at hf
  refine rw_aload_n F dX12_found_0 rfl 0 rfl ?_
  refine rw_iload_n F dX12_found_1 rfl 1 rfl ?_
  obtain ⟨q2, hq1, hf⟩ := bind_h hf
  refine rw_callVI F (k0 := 0) (nA := 1) (c_X12_isPlaces (aL a) Z _ _ _ hq1) gX12_found_X12_isPlaces rfl ⟨rfl, rfl⟩ (by decide +kernel) ⟨Nat.le_of_ble_eq_true rfl, Nat.le_of_ble_eq_true rfl⟩ (show 0 < 20 by decide) (gM_0 Z _) rfl rfl rfl (Nat.le_of_ble_eq_true rfl) dX12_found_2 ?_
  refine rw_if_ne F (tgt := 11) hf dX12_found_5 (by decide) (fun hc15 hf => ?_) (fun hc15 hf => ?_)
  · refine rw_iconst F (v := 0) dX12_found_11 (by decide) ?_
    refine rw_istore_n F dX12_found_12 rfl (by decide) rfl ?_
    refine rw_iconst F (v := 0) dX12_found_13 (by decide) ?_
    refine rw_istore_n F dX12_found_14 rfl (by decide) rfl ?_
    refine rw_iconst F (v := 0) dX12_found_15 (by decide) ?_
    refine rw_istore F dX12_found_16 (by decide) rfl ?_
    exact WS.sub [3, 4, 2, 1, 0] rfl (b_X12_found_b18 F  fuB _ _ _ _ hf)
  · refine rw_ldc F (v := -1000000001) dX12_found_8 (by decide +kernel) ?_
    exact rw_iret F hf rfl dX12_found_10

abbrev rm_X12_say : Room := { frames := 2, cells := 0, slots := 0, locals := 46 }
abbrev FX_X12_say (a : Ax) (Z : Zx) (A : Nat → Prop) : Prop := FX a (XM Z) A cX12_say RX12 wsX12_say 3 (some .int) rm_X12_say
theorem iw_X12_say_X12 : ∀ w ∈ wsX120, w ∈ wsX12_say := by decide +kernel
theorem lk_X12_say_53 : Cond.fieldLink RX12 53 (TX12 28).1 (TX12 28).2.1 (TX12 28).2.2.1 ∈ wsX12_say := by decide +kernel
theorem lk_X12_say_56 : Cond.fieldLink RX12 56 (TX12 29).1 (TX12 29).2.1 (TX12 29).2.2.1 ∈ wsX12_say := by decide +kernel
theorem lk_X12_say_156 : Cond.fieldLink RX12 156 (TX12 27).1 (TX12 27).2.1 (TX12 27).2.2.1 ∈ wsX12_say := by decide +kernel
set_option maxHeartbeats 4000000 in
set_option maxRecDepth 100000 in
theorem c_X12_say (l : Launch) (Z : Zx) (p1 : Int32) (p2 : Int32) (f : Nat → Nat → Int32) (r : (Int32 × (Nat → Nat → Int32))) (hf : f_X12_say p1 p2 f = some r) : MS l (XM Z) yX12_say wsX12_say rm_X12_say [.ref (Z.2.1 0), .int p1, .int p2] f (PI r.1 r.2) := by
  refine MS.of (cc := cX12_say) (maxL := 3) (ret := (some .int)) (own := RX12) (lv := [(0, .ref (Z.2.1 0)), (1, .int p1), (2, .int p2)]) (by decide) rfl rfl (Nat.le_of_ble_eq_true rfl) rfl ?_
  intro a A hla F
  subst hla
  unfold f_X12_say at hf
  refine rw_aload_n F dX12_say_0 rfl 0 rfl ?_
  refine rw_iload_n F dX12_say_1 rfl 1 rfl ?_
  obtain ⟨q2, hq1, hf⟩ := bind_h hf
  refine rw_callVI F (k0 := 0) (nA := 1) (c_X12_isWitness (aL a) Z _ _ _ hq1) gX12_say_X12_isWitness rfl ⟨rfl, rfl⟩ (by decide +kernel) ⟨Nat.le_of_ble_eq_true rfl, Nat.le_of_ble_eq_true rfl⟩ (show 0 < 20 by decide) (gM_0 Z _) rfl rfl rfl (Nat.le_of_ble_eq_true rfl) dX12_say_2 ?_
  refine rw_if_ne F (tgt := 11) hf dX12_say_5 (by decide) (fun hc9 hf => ?_) (fun hc9 hf => ?_)
  · refine rw_iload_n F dX12_say_11 rfl 2 rfl ?_
    refine rw_i2l F dX12_say_12 ?_
    refine rw_lconst F (v := 0) dX12_say_13 (by decide) ?_
    refine rw_ldc2 F (v := 11) dX12_say_14 (by decide +kernel) ?_
    obtain ⟨q4, hq3, hf⟩ := bind_h hf
    refine rw_callSI F (nA := 3) (c_X12_in (aL a) Z _ _ _ _ _ hq3) gX12_say_X12_in rfl ⟨rfl, rfl⟩ (by decide +kernel) ⟨Nat.le_of_ble_eq_true rfl, Nat.le_of_ble_eq_true rfl⟩ rfl rfl (Nat.le_of_ble_eq_true rfl) dX12_say_17 ?_
    refine rw_if_ne F (tgt := 26) hf dX12_say_20 (by decide) (fun hc8 hf => ?_) (fun hc8 hf => ?_)
    · refine rw_aload_n F dX12_say_26 rfl 0 rfl ?_
      refine rw_get F 0 (show 0 < 20 by decide) (gM_0 Z _) iw_X12_say_X12 rfl 27 (by decide) lk_X12_say_156 rfl dX12_say_27 ?_
      refine rw_bipush F (v := 8) dX12_say_30 (by decide) ?_
      refine rw_icmp_ne F (tgt := 38) hf dX12_say_32 (by decide) (fun hc7 hf => ?_) (fun hc7 hf => ?_)
      · refine rw_aload_n F dX12_say_38 rfl 0 rfl ?_
        refine rw_get F 0 (show 0 < 20 by decide) (gM_0 Z _) iw_X12_say_X12 rfl 28 (by decide) lk_X12_say_53 rfl dX12_say_39 ?_
        refine rw_aload_n F dX12_say_42 rfl 0 rfl ?_
        refine rw_get F 0 (show 0 < 20 by decide) (gM_0 Z _) iw_X12_say_X12 rfl 27 (by decide) lk_X12_say_156 rfl dX12_say_43 ?_
        refine rw_iload_n F dX12_say_46 rfl 1 rfl ?_
        obtain ⟨hi5, hf⟩ := ck_h hf
        refine rw_iast F 14 (show 14 < 20 by decide) (gM_14 Z) 0 rfl hi5 dX12_say_47 ?_
        refine rw_aload_n F dX12_say_48 rfl 0 rfl ?_
        refine rw_get F 0 (show 0 < 20 by decide) (gM_0 Z _) iw_X12_say_X12 rfl 29 (by decide) lk_X12_say_56 rfl dX12_say_49 ?_
        refine rw_aload_n F dX12_say_52 rfl 0 rfl ?_
        refine rw_get F 0 (show 0 < 20 by decide) (gM_0 Z _) iw_X12_say_X12 rfl 27 (by decide) lk_X12_say_156 rfl dX12_say_53 ?_
        refine rw_iload_n F dX12_say_56 rfl 2 rfl ?_
        obtain ⟨hi6, hf⟩ := ck_h hf
        refine rw_iast F 15 (show 15 < 20 by decide) (gM_15 Z) 0 rfl hi6 dX12_say_57 ?_
        refine rw_aload_n F dX12_say_58 rfl 0 rfl ?_
        refine rw_dup F dX12_say_59 rfl ?_
        refine rw_get F 0 (show 0 < 20 by decide) (gM_0 Z _) iw_X12_say_X12 rfl 27 (by decide) lk_X12_say_156 rfl dX12_say_60 ?_
        refine rw_iconst F (v := 1) dX12_say_63 (by decide) ?_
        refine rw_iadd F dX12_say_64 ?_
        refine rw_put F 0 (show 0 < 20 by decide) (gM_0 Z) iw_X12_say_X12 tyX12 tyX12_ok nmX12 rfl 27 (by decide) lk_X12_say_156 rfl rfl rfl (fun _ => by rw [lnM0]; decide) (stM0_27 Z.2.1) dX12_say_65 ?_
        refine rw_aload_n F dX12_say_68 rfl 0 rfl ?_
        refine rw_get F 0 (show 0 < 20 by decide) (gM_0 Z _) iw_X12_say_X12 rfl 27 (by decide) lk_X12_say_156 rfl dX12_say_69 ?_
        exact rw_iretS F hf rfl dX12_say_72
      · refine rw_ldc F (v := -1000000004) dX12_say_35 (by decide +kernel) ?_
        exact rw_iretS F hf rfl dX12_say_37
    · refine rw_ldc F (v := -1000000002) dX12_say_23 (by decide +kernel) ?_
      exact rw_iretS F hf rfl dX12_say_25
  · refine rw_ldc F (v := -1000000001) dX12_say_8 (by decide +kernel) ?_
    exact rw_iretS F hf rfl dX12_say_10

abbrev rm_X12_isPair : Room := { frames := 2, cells := 0, slots := 0, locals := 46 }
abbrev FX_X12_isPair (a : Ax) (Z : Zx) (A : Nat → Prop) : Prop := FX a (XM Z) A cX12_isPair RX12 wsX12_isPair 2 (some .boolean) rm_X12_isPair
set_option maxHeartbeats 4000000 in
set_option maxRecDepth 100000 in
theorem b_X12_isPair_b32 {a : Ax} {Z : Zx} {A : Nat → Prop} {r : Int32} {f : Nat → Nat → Int32} (F : FX_X12_isPair a Z A) : f_X12_isPair_b32  f = some r → WS a (XM Z) A 2 (RP a (XM Z) A (PI r f)) 32 [] [] f := by
  intro  hf
  unfold f_X12_isPair_b32 at hf
  refine rw_iconst F (v := 1) dX12_isPair_32 (by decide) ?_
  refine rw_goto F (tgt := 37) dX12_isPair_33 (by decide) ?_
  exact rw_zretZ F (by decide) hf rfl dX12_isPair_37

set_option maxHeartbeats 4000000 in
set_option maxRecDepth 100000 in
theorem c_X12_isPair (l : Launch) (Z : Zx) (p1 : Int32) (f : Nat → Nat → Int32) (r : Int32) (hf : f_X12_isPair p1 f = some r) : MS l (XM Z) yX12_isPair wsX12_isPair rm_X12_isPair [.ref (Z.2.1 0), .int p1] f (PI r f) := by
  refine MS.of (cc := cX12_isPair) (maxL := 2) (ret := (some .boolean)) (own := RX12) (lv := [(0, .ref (Z.2.1 0)), (1, .int p1)]) (by decide) rfl rfl (Nat.le_of_ble_eq_true rfl) rfl ?_
  intro a A hla F
  subst hla
  unfold f_X12_isPair at hf
  refine rw_iload_n F dX12_isPair_0 rfl 1 rfl ?_
  refine rw_bipush F (v := 100) dX12_isPair_1 (by decide) ?_
  refine rw_icmp_eq F (tgt := 32) hf dX12_isPair_3 (by decide) (fun hc8 hf => ?_) (fun hc8 hf => ?_)
  · exact WS.sub [] rfl (b_X12_isPair_b32 F   hf)
  · refine rw_iload_n F dX12_isPair_6 rfl 1 rfl ?_
    refine rw_if_lt F (tgt := 36) hf dX12_isPair_7 (by decide) (fun hc7 hf => ?_) (fun hc7 hf => ?_)
    · refine rw_iconst F (v := 0) dX12_isPair_36 (by decide) ?_
      exact rw_zretZ F (by decide) hf rfl dX12_isPair_37
    · refine rw_aload_n F dX12_isPair_10 rfl 0 rfl ?_
      refine rw_iload_n F dX12_isPair_11 rfl 1 rfl ?_
      refine rw_bipush F (v := 10) dX12_isPair_12 (by decide) ?_
      refine rw_idiv F dX12_isPair_14 (by decide) ?_
      obtain ⟨q2, hq1, hf⟩ := bind_h hf
      refine rw_callVI F (k0 := 0) (nA := 1) (c_X12_isSound (aL a) Z _ _ _ hq1) gX12_isPair_X12_isSound rfl ⟨rfl, rfl⟩ (by decide +kernel) ⟨Nat.le_of_ble_eq_true rfl, Nat.le_of_ble_eq_true rfl⟩ (show 0 < 20 by decide) (gM_0 Z _) rfl rfl rfl (Nat.le_of_ble_eq_true rfl) dX12_isPair_15 ?_
      refine rw_if_eq F (tgt := 36) hf dX12_isPair_18 (by decide) (fun hc6 hf => ?_) (fun hc6 hf => ?_)
      · refine rw_iconst F (v := 0) dX12_isPair_36 (by decide) ?_
        exact rw_zretZ F (by decide) hf rfl dX12_isPair_37
      · refine rw_aload_n F dX12_isPair_21 rfl 0 rfl ?_
        refine rw_iload_n F dX12_isPair_22 rfl 1 rfl ?_
        refine rw_bipush F (v := 10) dX12_isPair_23 (by decide) ?_
        refine rw_irem F dX12_isPair_25 (by decide) ?_
        obtain ⟨q4, hq3, hf⟩ := bind_h hf
        refine rw_callVI F (k0 := 0) (nA := 1) (c_X12_isPlace (aL a) Z _ _ _ hq3) gX12_isPair_X12_isPlace rfl ⟨rfl, rfl⟩ (by decide +kernel) ⟨Nat.le_of_ble_eq_true rfl, Nat.le_of_ble_eq_true rfl⟩ (show 0 < 20 by decide) (gM_0 Z _) rfl rfl rfl (Nat.le_of_ble_eq_true rfl) dX12_isPair_26 ?_
        refine rw_if_eq F (tgt := 36) hf dX12_isPair_29 (by decide) (fun hc5 hf => ?_) (fun hc5 hf => ?_)
        · refine rw_iconst F (v := 0) dX12_isPair_36 (by decide) ?_
          exact rw_zretZ F (by decide) hf rfl dX12_isPair_37
        · exact WS.sub [] rfl (b_X12_isPair_b32 F   hf)

abbrev rm_X12_sayingFor : Room := { frames := 3, cells := 0, slots := 0, locals := 73 }
abbrev FX_X12_sayingFor (a : Ax) (Z : Zx) (A : Nat → Prop) : Prop := FX a (XM Z) A cX12_sayingFor RX12 wsX12_sayingFor 3 (some .int) rm_X12_sayingFor
theorem iw_X12_sayingFor_X12 : ∀ w ∈ wsX120, w ∈ wsX12_sayingFor := by decide +kernel
theorem lk_X12_sayingFor_19 : Cond.fieldLink RX12 19 (TX12 6).1 (TX12 6).2.1 (TX12 6).2.2.1 ∈ wsX12_sayingFor := by decide +kernel
set_option maxHeartbeats 4000000 in
set_option maxRecDepth 100000 in
theorem c_X12_sayingFor (l : Launch) (Z : Zx) (p1 : Int32) (p2 : Int32) (f : Nat → Nat → Int32) (r : Int32) (hf : f_X12_sayingFor p1 p2 f = some r) : MS l (XM Z) yX12_sayingFor wsX12_sayingFor rm_X12_sayingFor [.ref (Z.2.1 0), .int p1, .int p2] f (PI r f) := by
  refine MS.of (cc := cX12_sayingFor) (maxL := 3) (ret := (some .int)) (own := RX12) (lv := [(0, .ref (Z.2.1 0)), (1, .int p1), (2, .int p2)]) (by decide) rfl rfl (Nat.le_of_ble_eq_true rfl) rfl ?_
  intro a A hla F
  subst hla
  unfold f_X12_sayingFor at hf
  refine rw_iload_n F dX12_sayingFor_0 rfl 2 rfl ?_
  refine rw_bipush F (v := 100) dX12_sayingFor_1 (by decide) ?_
  refine rw_icmp_eq F (tgt := 22) hf dX12_sayingFor_3 (by decide) (fun hc7 hf => ?_) (fun hc7 hf => ?_)
  · refine rw_aload_n F dX12_sayingFor_22 rfl 0 rfl ?_
    refine rw_get F 0 (show 0 < 20 by decide) (gM_0 Z _) iw_X12_sayingFor_X12 rfl 6 (by decide) lk_X12_sayingFor_19 rfl dX12_sayingFor_23 ?_
    refine rw_iload_n F dX12_sayingFor_26 rfl 1 rfl ?_
    obtain ⟨hi1, hf⟩ := ck_h hf
    refine rw_iald F 4 (show 4 < 20 by decide) (gM_4 Z _) 0 rfl hi1 dX12_sayingFor_27 ?_
    refine rw_iconst F (v := 1) dX12_sayingFor_28 (by decide) ?_
    refine rw_icmp_ne F (tgt := 39) hf dX12_sayingFor_29 (by decide) (fun hc4 hf => ?_) (fun hc4 hf => ?_)
    · refine rw_iconst F (v := 0) dX12_sayingFor_39 (by decide) ?_
      exact rw_iret F hf rfl dX12_sayingFor_40
    · refine rw_aload_n F dX12_sayingFor_32 rfl 0 rfl ?_
      obtain ⟨q3, hq2, hf⟩ := bind_h hf
      refine rw_callVI F (k0 := 0) (nA := 0) (c_X12_widowers (aL a) Z  _ _ hq2) gX12_sayingFor_X12_widowers rfl ⟨rfl, rfl⟩ (by decide +kernel) ⟨Nat.le_of_ble_eq_true rfl, Nat.le_of_ble_eq_true rfl⟩ (show 0 < 20 by decide) (gM_0 Z _) rfl rfl rfl (Nat.le_of_ble_eq_true rfl) dX12_sayingFor_33 ?_
      refine rw_goto F (tgt := 40) dX12_sayingFor_36 (by decide) ?_
      exact rw_iret F hf rfl dX12_sayingFor_40
  · refine rw_aload_n F dX12_sayingFor_6 rfl 0 rfl ?_
    refine rw_iload_n F dX12_sayingFor_7 rfl 1 rfl ?_
    refine rw_iload_n F dX12_sayingFor_8 rfl 2 rfl ?_
    refine rw_bipush F (v := 10) dX12_sayingFor_9 (by decide) ?_
    refine rw_idiv F dX12_sayingFor_11 (by decide) ?_
    refine rw_iload_n F dX12_sayingFor_12 rfl 2 rfl ?_
    refine rw_bipush F (v := 10) dX12_sayingFor_13 (by decide) ?_
    refine rw_irem F dX12_sayingFor_15 (by decide) ?_
    obtain ⟨q6, hq5, hf⟩ := bind_h hf
    refine rw_callVI F (k0 := 0) (nA := 3) (c_X12_sayingOf (aL a) Z _ _ _ _ _ hq5) gX12_sayingFor_X12_sayingOf rfl ⟨rfl, rfl⟩ (by decide +kernel) ⟨Nat.le_of_ble_eq_true rfl, Nat.le_of_ble_eq_true rfl⟩ (show 0 < 20 by decide) (gM_0 Z _) rfl rfl rfl (Nat.le_of_ble_eq_true rfl) dX12_sayingFor_16 ?_
    refine rw_goto F (tgt := 40) dX12_sayingFor_19 (by decide) ?_
    exact rw_iret F hf rfl dX12_sayingFor_40

abbrev rm_X12_liarsOf : Room := { frames := 4, cells := 0, slots := 0, locals := 95 }
abbrev FX_X12_liarsOf (a : Ax) (Z : Zx) (A : Nat → Prop) : Prop := FX a (XM Z) A cX12_liarsOf RX12 wsX12_liarsOf 4 (some .int) rm_X12_liarsOf
theorem iw_X12_liarsOf_X12 : ∀ w ∈ wsX120, w ∈ wsX12_liarsOf := by decide +kernel
theorem lk_X12_liarsOf_53 : Cond.fieldLink RX12 53 (TX12 28).1 (TX12 28).2.1 (TX12 28).2.2.1 ∈ wsX12_liarsOf := by decide +kernel
theorem lk_X12_liarsOf_56 : Cond.fieldLink RX12 56 (TX12 29).1 (TX12 29).2.1 (TX12 29).2.2.1 ∈ wsX12_liarsOf := by decide +kernel
theorem lk_X12_liarsOf_156 : Cond.fieldLink RX12 156 (TX12 27).1 (TX12 27).2.1 (TX12 27).2.2.1 ∈ wsX12_liarsOf := by decide +kernel
set_option maxHeartbeats 4000000 in
set_option maxRecDepth 100000 in
theorem b_X12_liarsOf_b38 {a : Ax} {Z : Zx} {A : Nat → Prop} {r : Int32} {f : Nat → Nat → Int32} (F : FX_X12_liarsOf a Z A) (K4 : Int32 → Int32 → Int32 → Option Int32) (hK4 : ∀ (i1 : Int32) (i2 : Int32) (i3 : Int32), K4 i1 i2 i3 = some r → WS a (XM Z) A 4 (RP a (XM Z) A (PI r f)) 4 [(0, .ref (Z.2.1 0)), (1, .int i1), (2, .int i2), (3, .int i3)] [] f) : ∀ (i1 : Int32) (i3 : Int32) (s0 : Int32) (s1 : Int32), f_X12_liarsOf_b38 K4 i1 i3 s0 s1 f = some r → WS a (XM Z) A 4 (RP a (XM Z) A (PI r f)) 38 [(0, .ref (Z.2.1 0)), (1, .int i1), (3, .int i3)] [.int s1, .int s0] f := by
  intro i1 i3 s0 s1 hf
  unfold f_X12_liarsOf_b38 at hf
  refine rw_iadd F dX12_liarsOf_38 ?_
  refine rw_istore_n F dX12_liarsOf_39 rfl (by decide) rfl ?_
  refine rw_iinc F (v := 1) dX12_liarsOf_40 3 rfl (by decide) (by decide) rfl ?_
  refine rw_goto F (tgt := 4) dX12_liarsOf_43 (by decide) ?_
  exact WS.sub [2, 3, 1, 0] rfl (hK4 _ _ _ hf)

set_option maxHeartbeats 4000000 in
set_option maxRecDepth 100000 in
theorem b_X12_liarsOf_b4 {a : Ax} {Z : Zx} {A : Nat → Prop} {r : Int32} {f : Nat → Nat → Int32} (F : FX_X12_liarsOf a Z A) : ∀ (n : Nat) (i1 : Int32) (i2 : Int32) (i3 : Int32), f_X12_liarsOf_b4 n i1 i2 i3 f = some r → WS a (XM Z) A 4 (RP a (XM Z) A (PI r f)) 4 [(0, .ref (Z.2.1 0)), (1, .int i1), (2, .int i2), (3, .int i3)] [] f := by
  intro n
  induction n with
  | zero => intro i1 i2 i3 hf; exact nomatch (show (none : Option Int32) = some r from hf)
  | succ n hK4 =>
    intro i1 i2 i3 hf
    replace hf : f_X12_liarsOf_b4s (fun i1 i2 i3 => f_X12_liarsOf_b4 n i1 i2 i3 f) i1 i2 i3 f = some r := hf
    unfold f_X12_liarsOf_b4s at hf
    refine rw_iload_n F dX12_liarsOf_4 rfl 3 rfl ?_
    refine rw_aload_n F dX12_liarsOf_5 rfl 0 rfl ?_
    refine rw_get F 0 (show 0 < 20 by decide) (gM_0 Z _) iw_X12_liarsOf_X12 rfl 27 (by decide) lk_X12_liarsOf_156 rfl dX12_liarsOf_6 ?_
    refine rw_icmp_ge F (tgt := 46) hf dX12_liarsOf_9 (by decide) (fun hc6 hf => ?_) (fun hc6 hf => ?_)
    · refine rw_iload_n F dX12_liarsOf_46 rfl 2 rfl ?_
      exact rw_iret F hf rfl dX12_liarsOf_47
    · refine rw_iload_n F dX12_liarsOf_12 rfl 2 rfl ?_
      refine rw_aload_n F dX12_liarsOf_13 rfl 0 rfl ?_
      refine rw_aload_n F dX12_liarsOf_14 rfl 0 rfl ?_
      refine rw_get F 0 (show 0 < 20 by decide) (gM_0 Z _) iw_X12_liarsOf_X12 rfl 28 (by decide) lk_X12_liarsOf_53 rfl dX12_liarsOf_15 ?_
      refine rw_iload_n F dX12_liarsOf_18 rfl 3 rfl ?_
      obtain ⟨hi1, hf⟩ := ck_h hf
      refine rw_iald F 14 (show 14 < 20 by decide) (gM_14 Z _) 0 rfl hi1 dX12_liarsOf_19 ?_
      refine rw_iload_n F dX12_liarsOf_20 rfl 1 rfl ?_
      obtain ⟨q3, hq2, hf⟩ := bind_h hf
      refine rw_callVI F (k0 := 0) (nA := 2) (c_X12_sayingFor (aL a) Z _ _ _ _ hq2) gX12_liarsOf_X12_sayingFor rfl ⟨rfl, rfl⟩ (by decide +kernel) ⟨Nat.le_of_ble_eq_true rfl, Nat.le_of_ble_eq_true rfl⟩ (show 0 < 20 by decide) (gM_0 Z _) rfl rfl rfl (Nat.le_of_ble_eq_true rfl) dX12_liarsOf_21 ?_
      refine rw_aload_n F dX12_liarsOf_24 rfl 0 rfl ?_
      refine rw_get F 0 (show 0 < 20 by decide) (gM_0 Z _) iw_X12_liarsOf_X12 rfl 29 (by decide) lk_X12_liarsOf_56 rfl dX12_liarsOf_25 ?_
      refine rw_iload_n F dX12_liarsOf_28 rfl 3 rfl ?_
      obtain ⟨hi4, hf⟩ := ck_h hf
      refine rw_iald F 15 (show 15 < 20 by decide) (gM_15 Z _) 0 rfl hi4 dX12_liarsOf_29 ?_
      refine rw_icmp_eq F (tgt := 37) hf dX12_liarsOf_30 (by decide) (fun hc5 hf => ?_) (fun hc5 hf => ?_)
      · refine rw_iconst F (v := 0) dX12_liarsOf_37 (by decide) ?_
        exact WS.sub [0, 1, 3] rfl (b_X12_liarsOf_b38 F _ hK4 _ _ _ _ hf)
      · refine rw_iconst F (v := 1) dX12_liarsOf_33 (by decide) ?_
        refine rw_goto F (tgt := 38) dX12_liarsOf_34 (by decide) ?_
        exact WS.sub [0, 1, 3] rfl (b_X12_liarsOf_b38 F _ hK4 _ _ _ _ hf)

set_option maxHeartbeats 4000000 in
set_option maxRecDepth 100000 in
theorem c_X12_liarsOf (l : Launch) (Z : Zx) (p1 : Int32) (f : Nat → Nat → Int32) (r : Int32) (hf : f_X12_liarsOf p1 f = some r) : MS l (XM Z) yX12_liarsOf wsX12_liarsOf rm_X12_liarsOf [.ref (Z.2.1 0), .int p1] f (PI r f) := by
  refine MS.of (cc := cX12_liarsOf) (maxL := 4) (ret := (some .int)) (own := RX12) (lv := [(0, .ref (Z.2.1 0)), (1, .int p1)]) (by decide) rfl rfl (Nat.le_of_ble_eq_true rfl) rfl ?_
  intro a A hla F
  subst hla
  unfold f_X12_liarsOf at hf
  refine rw_iconst F (v := 0) dX12_liarsOf_0 (by decide) ?_
  refine rw_istore_n F dX12_liarsOf_1 rfl (by decide) rfl ?_
  refine rw_iconst F (v := 0) dX12_liarsOf_2 (by decide) ?_
  refine rw_istore_n F dX12_liarsOf_3 rfl (by decide) rfl ?_
  exact WS.sub [2, 3, 1, 0] rfl (b_X12_liarsOf_b4 F  fuB _ _ _ hf)

abbrev rm_X12_births : Room := { frames := 5, cells := 0, slots := 0, locals := 118 }
abbrev FX_X12_births (a : Ax) (Z : Zx) (A : Nat → Prop) : Prop := FX a (XM Z) A cX12_births RX12 wsX12_births 4 (some .int) rm_X12_births
theorem iw_X12_births_X12 : ∀ w ∈ wsX120, w ∈ wsX12_births := by decide +kernel
theorem lk_X12_births_75 : Cond.fieldLink RX12 75 (TX12 0).1 (TX12 0).2.1 (TX12 0).2.2.1 ∈ wsX12_births := by decide +kernel
set_option maxHeartbeats 4000000 in
set_option maxRecDepth 100000 in
theorem b_X12_births_b46 {a : Ax} {Z : Zx} {A : Nat → Prop} {r : Int32} {f : Nat → Nat → Int32} (F : FX_X12_births a Z A) (K14 : Int32 → Int32 → Int32 → Option Int32) (hK14 : ∀ (i1 : Int32) (i2 : Int32) (i3 : Int32), K14 i1 i2 i3 = some r → WS a (XM Z) A 4 (RP a (XM Z) A (PI r f)) 14 [(0, .ref (Z.2.1 0)), (1, .int i1), (2, .int i2), (3, .int i3)] [] f) : ∀ (i1 : Int32) (i2 : Int32) (i3 : Int32), f_X12_births_b46 K14 i1 i2 i3 f = some r → WS a (XM Z) A 4 (RP a (XM Z) A (PI r f)) 46 [(0, .ref (Z.2.1 0)), (1, .int i1), (2, .int i2), (3, .int i3)] [] f := by
  intro i1 i2 i3 hf
  unfold f_X12_births_b46 at hf
  refine rw_iinc F (v := 1) dX12_births_46 3 rfl (by decide) (by decide) rfl ?_
  refine rw_goto F (tgt := 14) dX12_births_49 (by decide) ?_
  exact WS.sub [1, 2, 3, 0] rfl (hK14 _ _ _ hf)

set_option maxHeartbeats 4000000 in
set_option maxRecDepth 100000 in
theorem b_X12_births_b14 {a : Ax} {Z : Zx} {A : Nat → Prop} {r : Int32} {f : Nat → Nat → Int32} (F : FX_X12_births a Z A) : ∀ (n : Nat) (i1 : Int32) (i2 : Int32) (i3 : Int32), f_X12_births_b14 n i1 i2 i3 f = some r → WS a (XM Z) A 4 (RP a (XM Z) A (PI r f)) 14 [(0, .ref (Z.2.1 0)), (1, .int i1), (2, .int i2), (3, .int i3)] [] f := by
  intro n
  induction n with
  | zero => intro i1 i2 i3 hf; exact nomatch (show (none : Option Int32) = some r from hf)
  | succ n hK14 =>
    intro i1 i2 i3 hf
    replace hf : f_X12_births_b14s (fun i1 i2 i3 => f_X12_births_b14 n i1 i2 i3 f) i1 i2 i3 f = some r := hf
    unfold f_X12_births_b14s at hf
    refine rw_iload_n F dX12_births_14 rfl 3 rfl ?_
    refine rw_bipush F (v := 100) dX12_births_15 (by decide) ?_
    refine rw_icmp_gt F (tgt := 52) hf dX12_births_17 (by decide) (fun hc9 hf => ?_) (fun hc9 hf => ?_)
    · refine rw_iload_n F dX12_births_52 rfl 1 rfl ?_
      refine rw_iconst F (v := -1) dX12_births_53 (by decide) ?_
      refine rw_icmp_ne F (tgt := 61) hf dX12_births_54 (by decide) (fun hc1 hf => ?_) (fun hc1 hf => ?_)
      · refine rw_iconst F (v := -1) dX12_births_61 (by decide) ?_
        exact rw_iret F hf rfl dX12_births_62
      · refine rw_iload_n F dX12_births_57 rfl 2 rfl ?_
        refine rw_goto F (tgt := 62) dX12_births_58 (by decide) ?_
        exact rw_iret F hf rfl dX12_births_62
    · refine rw_aload_n F dX12_births_20 rfl 0 rfl ?_
      refine rw_iload_n F dX12_births_21 rfl 3 rfl ?_
      obtain ⟨q3, hq2, hf⟩ := bind_h hf
      refine rw_callVI F (k0 := 0) (nA := 1) (c_X12_isPair (aL a) Z _ _ _ hq2) gX12_births_X12_isPair rfl ⟨rfl, rfl⟩ (by decide +kernel) ⟨Nat.le_of_ble_eq_true rfl, Nat.le_of_ble_eq_true rfl⟩ (show 0 < 20 by decide) (gM_0 Z _) rfl rfl rfl (Nat.le_of_ble_eq_true rfl) dX12_births_22 ?_
      refine rw_if_eq F (tgt := 46) hf dX12_births_25 (by decide) (fun hc8 hf => ?_) (fun hc8 hf => ?_)
      · exact WS.sub [0, 1, 2, 3] rfl (b_X12_births_b46 F _ hK14 _ _ _ hf)
      · refine rw_aload_n F dX12_births_28 rfl 0 rfl ?_
        refine rw_iload_n F dX12_births_29 rfl 3 rfl ?_
        obtain ⟨q5, hq4, hf⟩ := bind_h hf
        refine rw_callVI F (k0 := 0) (nA := 1) (c_X12_liarsOf (aL a) Z _ _ _ hq4) gX12_births_X12_liarsOf rfl ⟨rfl, rfl⟩ (by decide +kernel) ⟨Nat.le_of_ble_eq_true rfl, Nat.le_of_ble_eq_true rfl⟩ (show 0 < 20 by decide) (gM_0 Z _) rfl rfl rfl (Nat.le_of_ble_eq_true rfl) dX12_births_30 ?_
        refine rw_if_ne F (tgt := 46) hf dX12_births_33 (by decide) (fun hc7 hf => ?_) (fun hc7 hf => ?_)
        · exact WS.sub [0, 1, 2, 3] rfl (b_X12_births_b46 F _ hK14 _ _ _ hf)
        · refine rw_iload_n F dX12_births_36 rfl 2 rfl ?_
          refine rw_iload_n F dX12_births_37 rfl 1 rfl ?_
          refine rw_icmp_ne F (tgt := 43) hf dX12_births_38 (by decide) (fun hc6 hf => ?_) (fun hc6 hf => ?_)
          · refine rw_iinc F (v := 1) dX12_births_43 2 rfl (by decide) (by decide) rfl ?_
            exact WS.sub [1, 2, 0, 3] rfl (b_X12_births_b46 F _ hK14 _ _ _ hf)
          · refine rw_iload_n F dX12_births_41 rfl 3 rfl ?_
            exact rw_iret F hf rfl dX12_births_42

set_option maxHeartbeats 4000000 in
set_option maxRecDepth 100000 in
theorem c_X12_births (l : Launch) (Z : Zx) (p1 : Int32) (f : Nat → Nat → Int32) (r : Int32) (hf : f_X12_births p1 f = some r) : MS l (XM Z) yX12_births wsX12_births rm_X12_births [.ref (Z.2.1 0), .int p1] f (PI r f) := by
  refine MS.of (cc := cX12_births) (maxL := 4) (ret := (some .int)) (own := RX12) (lv := [(0, .ref (Z.2.1 0)), (1, .int p1)]) (by decide) rfl rfl (Nat.le_of_ble_eq_true rfl) rfl ?_
  intro a A hla F
  subst hla
  unfold f_X12_births at hf
  refine rw_aload_n F dX12_births_0 rfl 0 rfl ?_
  refine rw_get F 0 (show 0 < 20 by decide) (gM_0 Z _) iw_X12_births_X12 rfl 0 (by decide) lk_X12_births_75 rfl dX12_births_1 ?_
  refine rw_if_ne F (tgt := 10) hf dX12_births_4 (by decide) (fun hc10 hf => ?_) (fun hc10 hf => ?_)
  · refine rw_iconst F (v := 0) dX12_births_10 (by decide) ?_
    refine rw_istore_n F dX12_births_11 rfl (by decide) rfl ?_
    refine rw_iconst F (v := 0) dX12_births_12 (by decide) ?_
    refine rw_istore_n F dX12_births_13 rfl (by decide) rfl ?_
    exact WS.sub [2, 3, 1, 0] rfl (b_X12_births_b14 F  fuB _ _ _ hf)
  · refine rw_ldc F (v := -1000000003) dX12_births_7 (by decide +kernel) ?_
    exact rw_iret F hf rfl dX12_births_9

abbrev rm_X12_liars : Room := { frames := 5, cells := 0, slots := 0, locals := 118 }
abbrev FX_X12_liars (a : Ax) (Z : Zx) (A : Nat → Prop) : Prop := FX a (XM Z) A cX12_liars RX12 wsX12_liars 2 (some .int) rm_X12_liars
theorem iw_X12_liars_X12 : ∀ w ∈ wsX120, w ∈ wsX12_liars := by decide +kernel
theorem lk_X12_liars_75 : Cond.fieldLink RX12 75 (TX12 0).1 (TX12 0).2.1 (TX12 0).2.2.1 ∈ wsX12_liars := by decide +kernel
set_option maxHeartbeats 4000000 in
set_option maxRecDepth 100000 in
theorem c_X12_liars (l : Launch) (Z : Zx) (p1 : Int32) (f : Nat → Nat → Int32) (r : Int32) (hf : f_X12_liars p1 f = some r) : MS l (XM Z) yX12_liars wsX12_liars rm_X12_liars [.ref (Z.2.1 0), .int p1] f (PI r f) := by
  refine MS.of (cc := cX12_liars) (maxL := 2) (ret := (some .int)) (own := RX12) (lv := [(0, .ref (Z.2.1 0)), (1, .int p1)]) (by decide) rfl rfl (Nat.le_of_ble_eq_true rfl) rfl ?_
  intro a A hla F
  subst hla
  unfold f_X12_liars at hf
  refine rw_aload_n F dX12_liars_0 rfl 0 rfl ?_
  refine rw_iload_n F dX12_liars_1 rfl 1 rfl ?_
  obtain ⟨q2, hq1, hf⟩ := bind_h hf
  refine rw_callVI F (k0 := 0) (nA := 1) (c_X12_isPair (aL a) Z _ _ _ hq1) gX12_liars_X12_isPair rfl ⟨rfl, rfl⟩ (by decide +kernel) ⟨Nat.le_of_ble_eq_true rfl, Nat.le_of_ble_eq_true rfl⟩ (show 0 < 20 by decide) (gM_0 Z _) rfl rfl rfl (Nat.le_of_ble_eq_true rfl) dX12_liars_2 ?_
  refine rw_if_ne F (tgt := 11) hf dX12_liars_5 (by decide) (fun hc6 hf => ?_) (fun hc6 hf => ?_)
  · refine rw_aload_n F dX12_liars_11 rfl 0 rfl ?_
    refine rw_get F 0 (show 0 < 20 by decide) (gM_0 Z _) iw_X12_liars_X12 rfl 0 (by decide) lk_X12_liars_75 rfl dX12_liars_12 ?_
    refine rw_if_ne F (tgt := 23) hf dX12_liars_15 (by decide) (fun hc5 hf => ?_) (fun hc5 hf => ?_)
    · refine rw_aload_n F dX12_liars_23 rfl 0 rfl ?_
      refine rw_iload_n F dX12_liars_24 rfl 1 rfl ?_
      obtain ⟨q4, hq3, hf⟩ := bind_h hf
      refine rw_callVI F (k0 := 0) (nA := 1) (c_X12_liarsOf (aL a) Z _ _ _ hq3) gX12_liars_X12_liarsOf rfl ⟨rfl, rfl⟩ (by decide +kernel) ⟨Nat.le_of_ble_eq_true rfl, Nat.le_of_ble_eq_true rfl⟩ (show 0 < 20 by decide) (gM_0 Z _) rfl rfl rfl (Nat.le_of_ble_eq_true rfl) dX12_liars_25 ?_
      exact rw_iret F hf rfl dX12_liars_28
    · refine rw_ldc F (v := -1000000003) dX12_liars_18 (by decide +kernel) ?_
      refine rw_goto F (tgt := 28) dX12_liars_20 (by decide) ?_
      exact rw_iret F hf rfl dX12_liars_28
  · refine rw_ldc F (v := -1000000001) dX12_liars_8 (by decide +kernel) ?_
    exact rw_iret F hf rfl dX12_liars_10

abbrev rm_X12_leastLiars : Room := { frames := 5, cells := 0, slots := 0, locals := 118 }
abbrev FX_X12_leastLiars (a : Ax) (Z : Zx) (A : Nat → Prop) : Prop := FX a (XM Z) A cX12_leastLiars RX12 wsX12_leastLiars 4 (some .int) rm_X12_leastLiars
theorem iw_X12_leastLiars_X12 : ∀ w ∈ wsX120, w ∈ wsX12_leastLiars := by decide +kernel
theorem lk_X12_leastLiars_75 : Cond.fieldLink RX12 75 (TX12 0).1 (TX12 0).2.1 (TX12 0).2.2.1 ∈ wsX12_leastLiars := by decide +kernel
set_option maxHeartbeats 4000000 in
set_option maxRecDepth 100000 in
theorem b_X12_leastLiars_b59 {a : Ax} {Z : Zx} {A : Nat → Prop} {r : Int32} {f : Nat → Nat → Int32} (F : FX_X12_leastLiars a Z A) (K29 : Int32 → Int32 → Int32 → Option Int32) (hK29 : ∀ (i1 : Int32) (i2 : Int32) (i3 : Int32), K29 i1 i2 i3 = some r → WS a (XM Z) A 4 (RP a (XM Z) A (PI r f)) 29 [(0, .ref (Z.2.1 0)), (1, .int i1), (2, .int i2), (3, .int i3)] [] f) : ∀ (i1 : Int32) (i3 : Int32) (s0 : Int32), f_X12_leastLiars_b59 K29 i1 i3 s0 f = some r → WS a (XM Z) A 4 (RP a (XM Z) A (PI r f)) 59 [(0, .ref (Z.2.1 0)), (1, .int i1), (3, .int i3)] [.int s0] f := by
  intro i1 i3 s0 hf
  unfold f_X12_leastLiars_b59 at hf
  refine rw_istore_n F dX12_leastLiars_59 rfl (by decide) rfl ?_
  refine rw_iinc F (v := -1) dX12_leastLiars_60 3 rfl (by decide) (by decide) rfl ?_
  refine rw_goto F (tgt := 29) dX12_leastLiars_63 (by decide) ?_
  exact WS.sub [2, 3, 1, 0] rfl (hK29 _ _ _ hf)

set_option maxHeartbeats 4000000 in
set_option maxRecDepth 100000 in
theorem b_X12_leastLiars_b58 {a : Ax} {Z : Zx} {A : Nat → Prop} {r : Int32} {f : Nat → Nat → Int32} (F : FX_X12_leastLiars a Z A) (K29 : Int32 → Int32 → Int32 → Option Int32) (hK29 : ∀ (i1 : Int32) (i2 : Int32) (i3 : Int32), K29 i1 i2 i3 = some r → WS a (XM Z) A 4 (RP a (XM Z) A (PI r f)) 29 [(0, .ref (Z.2.1 0)), (1, .int i1), (2, .int i2), (3, .int i3)] [] f) : ∀ (i1 : Int32) (i2 : Int32) (i3 : Int32), f_X12_leastLiars_b58 K29 i1 i2 i3 f = some r → WS a (XM Z) A 4 (RP a (XM Z) A (PI r f)) 58 [(0, .ref (Z.2.1 0)), (1, .int i1), (2, .int i2), (3, .int i3)] [] f := by
  intro i1 i2 i3 hf
  unfold f_X12_leastLiars_b58 at hf
  refine rw_iload_n F dX12_leastLiars_58 rfl 2 rfl ?_
  exact WS.sub [0, 1, 3] rfl (b_X12_leastLiars_b59 F _ hK29 _ _ _ hf)

set_option maxHeartbeats 4000000 in
set_option maxRecDepth 100000 in
theorem b_X12_leastLiars_b29 {a : Ax} {Z : Zx} {A : Nat → Prop} {r : Int32} {f : Nat → Nat → Int32} (F : FX_X12_leastLiars a Z A) : ∀ (n : Nat) (i1 : Int32) (i2 : Int32) (i3 : Int32), f_X12_leastLiars_b29 n i1 i2 i3 f = some r → WS a (XM Z) A 4 (RP a (XM Z) A (PI r f)) 29 [(0, .ref (Z.2.1 0)), (1, .int i1), (2, .int i2), (3, .int i3)] [] f := by
  intro n
  induction n with
  | zero => intro i1 i2 i3 hf; exact nomatch (show (none : Option Int32) = some r from hf)
  | succ n hK29 =>
    intro i1 i2 i3 hf
    replace hf : f_X12_leastLiars_b29s (fun i1 i2 i3 => f_X12_leastLiars_b29 n i1 i2 i3 f) i1 i2 i3 f = some r := hf
    unfold f_X12_leastLiars_b29s at hf
    refine rw_iload_n F dX12_leastLiars_29 rfl 3 rfl ?_
    refine rw_if_lt F (tgt := 66) hf dX12_leastLiars_30 (by decide) (fun hc14 hf => ?_) (fun hc14 hf => ?_)
    · refine rw_iload_n F dX12_leastLiars_66 rfl 1 rfl ?_
      refine rw_if_ne F (tgt := 74) hf dX12_leastLiars_67 (by decide) (fun hc5 hf => ?_) (fun hc5 hf => ?_)
      · refine rw_aload_n F dX12_leastLiars_74 rfl 0 rfl ?_
        refine rw_iload_n F dX12_leastLiars_75 rfl 2 rfl ?_
        obtain ⟨q4, hq3, hf⟩ := bind_h hf
        refine rw_callVI F (k0 := 0) (nA := 1) (c_X12_liarsOf (aL a) Z _ _ _ hq3) gX12_leastLiars_X12_liarsOf rfl ⟨rfl, rfl⟩ (by decide +kernel) ⟨Nat.le_of_ble_eq_true rfl, Nat.le_of_ble_eq_true rfl⟩ (show 0 < 20 by decide) (gM_0 Z _) rfl rfl rfl (Nat.le_of_ble_eq_true rfl) dX12_leastLiars_76 ?_
        exact rw_iret F hf rfl dX12_leastLiars_79
      · refine rw_iload_n F dX12_leastLiars_70 rfl 2 rfl ?_
        refine rw_goto F (tgt := 79) dX12_leastLiars_71 (by decide) ?_
        exact rw_iret F hf rfl dX12_leastLiars_79
    · refine rw_aload_n F dX12_leastLiars_33 rfl 0 rfl ?_
      refine rw_iload_n F dX12_leastLiars_34 rfl 3 rfl ?_
      obtain ⟨q7, hq6, hf⟩ := bind_h hf
      refine rw_callVI F (k0 := 0) (nA := 1) (c_X12_isPair (aL a) Z _ _ _ hq6) gX12_leastLiars_X12_isPair rfl ⟨rfl, rfl⟩ (by decide +kernel) ⟨Nat.le_of_ble_eq_true rfl, Nat.le_of_ble_eq_true rfl⟩ (show 0 < 20 by decide) (gM_0 Z _) rfl rfl rfl (Nat.le_of_ble_eq_true rfl) dX12_leastLiars_35 ?_
      refine rw_if_eq F (tgt := 58) hf dX12_leastLiars_38 (by decide) (fun hc13 hf => ?_) (fun hc13 hf => ?_)
      · exact WS.sub [0, 1, 2, 3] rfl (b_X12_leastLiars_b58 F _ hK29 _ _ _ hf)
      · refine rw_aload_n F dX12_leastLiars_41 rfl 0 rfl ?_
        refine rw_iload_n F dX12_leastLiars_42 rfl 3 rfl ?_
        obtain ⟨q9, hq8, hf⟩ := bind_h hf
        refine rw_callVI F (k0 := 0) (nA := 1) (c_X12_liarsOf (aL a) Z _ _ _ hq8) gX12_leastLiars_X12_liarsOf rfl ⟨rfl, rfl⟩ (by decide +kernel) ⟨Nat.le_of_ble_eq_true rfl, Nat.le_of_ble_eq_true rfl⟩ (show 0 < 20 by decide) (gM_0 Z _) rfl rfl rfl (Nat.le_of_ble_eq_true rfl) dX12_leastLiars_43 ?_
        refine rw_aload_n F dX12_leastLiars_46 rfl 0 rfl ?_
        refine rw_iload_n F dX12_leastLiars_47 rfl 2 rfl ?_
        obtain ⟨q11, hq10, hf⟩ := bind_h hf
        refine rw_callVI F (k0 := 0) (nA := 1) (c_X12_liarsOf (aL a) Z _ _ _ hq10) gX12_leastLiars_X12_liarsOf rfl ⟨rfl, rfl⟩ (by decide +kernel) ⟨Nat.le_of_ble_eq_true rfl, Nat.le_of_ble_eq_true rfl⟩ (show 0 < 20 by decide) (gM_0 Z _) rfl rfl rfl (Nat.le_of_ble_eq_true rfl) dX12_leastLiars_48 ?_
        refine rw_icmp_gt F (tgt := 58) hf dX12_leastLiars_51 (by decide) (fun hc12 hf => ?_) (fun hc12 hf => ?_)
        · exact WS.sub [0, 1, 2, 3] rfl (b_X12_leastLiars_b58 F _ hK29 _ _ _ hf)
        · refine rw_iload_n F dX12_leastLiars_54 rfl 3 rfl ?_
          refine rw_goto F (tgt := 59) dX12_leastLiars_55 (by decide) ?_
          exact WS.sub [0, 1, 3] rfl (b_X12_leastLiars_b59 F _ hK29 _ _ _ hf)

set_option maxHeartbeats 4000000 in
set_option maxRecDepth 100000 in
theorem c_X12_leastLiars (l : Launch) (Z : Zx) (p1 : Int32) (f : Nat → Nat → Int32) (r : Int32) (hf : f_X12_leastLiars p1 f = some r) : MS l (XM Z) yX12_leastLiars wsX12_leastLiars rm_X12_leastLiars [.ref (Z.2.1 0), .int p1] f (PI r f) := by
  refine MS.of (cc := cX12_leastLiars) (maxL := 4) (ret := (some .int)) (own := RX12) (lv := [(0, .ref (Z.2.1 0)), (1, .int p1)]) (by decide) rfl rfl (Nat.le_of_ble_eq_true rfl) rfl ?_
  intro a A hla F
  subst hla
  unfold f_X12_leastLiars at hf
  refine rw_iload_n F dX12_leastLiars_0 rfl 1 rfl ?_
  refine rw_i2l F dX12_leastLiars_1 ?_
  refine rw_lconst F (v := 0) dX12_leastLiars_2 (by decide) ?_
  refine rw_lconst F (v := 1) dX12_leastLiars_3 (by decide) ?_
  obtain ⟨q2, hq1, hf⟩ := bind_h hf
  refine rw_callSI F (nA := 3) (c_X12_in (aL a) Z _ _ _ _ _ hq1) gX12_leastLiars_X12_in rfl ⟨rfl, rfl⟩ (by decide +kernel) ⟨Nat.le_of_ble_eq_true rfl, Nat.le_of_ble_eq_true rfl⟩ rfl rfl (Nat.le_of_ble_eq_true rfl) dX12_leastLiars_4 ?_
  refine rw_if_ne F (tgt := 13) hf dX12_leastLiars_7 (by decide) (fun hc16 hf => ?_) (fun hc16 hf => ?_)
  · refine rw_aload_n F dX12_leastLiars_13 rfl 0 rfl ?_
    refine rw_get F 0 (show 0 < 20 by decide) (gM_0 Z _) iw_X12_leastLiars_X12 rfl 0 (by decide) lk_X12_leastLiars_75 rfl dX12_leastLiars_14 ?_
    refine rw_if_ne F (tgt := 23) hf dX12_leastLiars_17 (by decide) (fun hc15 hf => ?_) (fun hc15 hf => ?_)
    · refine rw_bipush F (v := 100) dX12_leastLiars_23 (by decide) ?_
      refine rw_istore_n F dX12_leastLiars_25 rfl (by decide) rfl ?_
      refine rw_bipush F (v := 100) dX12_leastLiars_26 (by decide) ?_
      refine rw_istore_n F dX12_leastLiars_28 rfl (by decide) rfl ?_
      exact WS.sub [2, 3, 1, 0] rfl (b_X12_leastLiars_b29 F  fuB _ _ _ hf)
    · refine rw_ldc F (v := -1000000003) dX12_leastLiars_20 (by decide +kernel) ?_
      exact rw_iret F hf rfl dX12_leastLiars_22
  · refine rw_ldc F (v := -1000000002) dX12_leastLiars_10 (by decide +kernel) ?_
    exact rw_iret F hf rfl dX12_leastLiars_12

abbrev rm_X12_greatestPart : Room := { frames := 5, cells := 0, slots := 0, locals := 118 }
abbrev FX_X12_greatestPart (a : Ax) (Z : Zx) (A : Nat → Prop) : Prop := FX a (XM Z) A cX12_greatestPart RX12 wsX12_greatestPart 5 (some .int) rm_X12_greatestPart
theorem iw_X12_greatestPart_X12 : ∀ w ∈ wsX120, w ∈ wsX12_greatestPart := by decide +kernel
theorem lk_X12_greatestPart_59 : Cond.fieldLink RX12 59 (TX12 30).1 (TX12 30).2.1 (TX12 30).2.2.1 ∈ wsX12_greatestPart := by decide +kernel
set_option maxHeartbeats 4000000 in
set_option maxRecDepth 100000 in
theorem b_X12_greatestPart_b89 {a : Ax} {Z : Zx} {A : Nat → Prop} {r : (Int32 × (Nat → Nat → Int32))} (F : FX_X12_greatestPart a Z A) (K25 : Int32 → Int32 → Int32 → (Nat → Nat → Int32) → Option (Int32 × (Nat → Nat → Int32))) (hK25 : ∀ (i1 : Int32) (i2 : Int32) (i3 : Int32) (f : Nat → Nat → Int32), K25 i1 i2 i3 f = some r → WS a (XM Z) A 5 (RP a (XM Z) A (PI r.1 r.2)) 25 [(0, .ref (Z.2.1 0)), (1, .int i1), (2, .int i2), (3, .int i3)] [] f) : ∀ (i1 : Int32) (i2 : Int32) (i3 : Int32) (f : Nat → Nat → Int32), f_X12_greatestPart_b89 K25 i1 i2 i3 f = some r → WS a (XM Z) A 5 (RP a (XM Z) A (PI r.1 r.2)) 89 [(0, .ref (Z.2.1 0)), (1, .int i1), (2, .int i2), (3, .int i3)] [] f := by
  intro i1 i2 i3 f hf
  unfold f_X12_greatestPart_b89 at hf
  refine rw_iinc F (v := 1) dX12_greatestPart_89 3 rfl (by decide) (by decide) rfl ?_
  refine rw_goto F (tgt := 25) dX12_greatestPart_92 (by decide) ?_
  exact WS.sub [1, 2, 3, 0] rfl (hK25 _ _ _ _ hf)

set_option maxHeartbeats 4000000 in
set_option maxRecDepth 100000 in
theorem b_X12_greatestPart_b88 {a : Ax} {Z : Zx} {A : Nat → Prop} {r : (Int32 × (Nat → Nat → Int32))} (F : FX_X12_greatestPart a Z A) (K25 : Int32 → Int32 → Int32 → (Nat → Nat → Int32) → Option (Int32 × (Nat → Nat → Int32))) (hK25 : ∀ (i1 : Int32) (i2 : Int32) (i3 : Int32) (f : Nat → Nat → Int32), K25 i1 i2 i3 f = some r → WS a (XM Z) A 5 (RP a (XM Z) A (PI r.1 r.2)) 25 [(0, .ref (Z.2.1 0)), (1, .int i1), (2, .int i2), (3, .int i3)] [] f) : ∀ (i1 : Int32) (i3 : Int32) (s0 : Int32) (f : Nat → Nat → Int32), f_X12_greatestPart_b88 K25 i1 i3 s0 f = some r → WS a (XM Z) A 5 (RP a (XM Z) A (PI r.1 r.2)) 88 [(0, .ref (Z.2.1 0)), (1, .int i1), (3, .int i3)] [.int s0] f := by
  intro i1 i3 s0 f hf
  unfold f_X12_greatestPart_b88 at hf
  refine rw_istore_n F dX12_greatestPart_88 rfl (by decide) rfl ?_
  exact WS.sub [1, 2, 0, 3] rfl (b_X12_greatestPart_b89 F _ hK25 _ _ _ _ hf)

set_option maxHeartbeats 4000000 in
set_option maxRecDepth 100000 in
theorem b_X12_greatestPart_b25 {a : Ax} {Z : Zx} {A : Nat → Prop} {r : (Int32 × (Nat → Nat → Int32))} (F : FX_X12_greatestPart a Z A) : ∀ (n : Nat) (i1 : Int32) (i2 : Int32) (i3 : Int32) (f : Nat → Nat → Int32), f_X12_greatestPart_b25 n i1 i2 i3 f = some r → WS a (XM Z) A 5 (RP a (XM Z) A (PI r.1 r.2)) 25 [(0, .ref (Z.2.1 0)), (1, .int i1), (2, .int i2), (3, .int i3)] [] f := by
  intro n
  induction n with
  | zero => intro i1 i2 i3 f hf; exact nomatch (show (none : Option (Int32 × (Nat → Nat → Int32))) = some r from hf)
  | succ n hK25 =>
    intro i1 i2 i3 f hf
    replace hf : f_X12_greatestPart_b25s (f_X12_greatestPart_b25 n) i1 i2 i3 f = some r := hf
    unfold f_X12_greatestPart_b25s at hf
    refine rw_iload_n F dX12_greatestPart_25 rfl 3 rfl ?_
    refine rw_bipush F (v := 100) dX12_greatestPart_26 (by decide) ?_
    refine rw_icmp_gt F (tgt := 95) hf dX12_greatestPart_28 (by decide) (fun hc14 hf => ?_) (fun hc14 hf => ?_)
    · refine rw_iload_n F dX12_greatestPart_95 rfl 2 rfl ?_
      exact rw_iretS F hf rfl dX12_greatestPart_96
    · refine rw_aload_n F dX12_greatestPart_31 rfl 0 rfl ?_
      refine rw_iload_n F dX12_greatestPart_32 rfl 3 rfl ?_
      obtain ⟨q2, hq1, hf⟩ := bind_h hf
      refine rw_callVI F (k0 := 0) (nA := 1) (c_X12_isPair (aL a) Z _ _ _ hq1) gX12_greatestPart_X12_isPair rfl ⟨rfl, rfl⟩ (by decide +kernel) ⟨Nat.le_of_ble_eq_true rfl, Nat.le_of_ble_eq_true rfl⟩ (show 0 < 20 by decide) (gM_0 Z _) rfl rfl rfl (Nat.le_of_ble_eq_true rfl) dX12_greatestPart_33 ?_
      refine rw_if_eq F (tgt := 89) hf dX12_greatestPart_36 (by decide) (fun hc13 hf => ?_) (fun hc13 hf => ?_)
      · exact WS.sub [0, 1, 2, 3] rfl (b_X12_greatestPart_b89 F _ hK25 _ _ _ _ hf)
      · refine rw_aload_n F dX12_greatestPart_39 rfl 0 rfl ?_
        refine rw_iload_n F dX12_greatestPart_40 rfl 3 rfl ?_
        obtain ⟨q4, hq3, hf⟩ := bind_h hf
        refine rw_callVI F (k0 := 0) (nA := 1) (c_X12_liarsOf (aL a) Z _ _ _ hq3) gX12_greatestPart_X12_liarsOf rfl ⟨rfl, rfl⟩ (by decide +kernel) ⟨Nat.le_of_ble_eq_true rfl, Nat.le_of_ble_eq_true rfl⟩ (show 0 < 20 by decide) (gM_0 Z _) rfl rfl rfl (Nat.le_of_ble_eq_true rfl) dX12_greatestPart_41 ?_
        refine rw_if_ne F (tgt := 89) hf dX12_greatestPart_44 (by decide) (fun hc12 hf => ?_) (fun hc12 hf => ?_)
        · exact WS.sub [0, 1, 2, 3] rfl (b_X12_greatestPart_b89 F _ hK25 _ _ _ _ hf)
        · refine rw_aload_n F dX12_greatestPart_47 rfl 0 rfl ?_
          refine rw_iload_n F dX12_greatestPart_48 rfl 1 rfl ?_
          refine rw_iload_n F dX12_greatestPart_49 rfl 3 rfl ?_
          obtain ⟨q6, hq5, hf⟩ := bind_h hf
          refine rw_callVI F (k0 := 0) (nA := 2) (c_X12_sayingFor (aL a) Z _ _ _ _ hq5) gX12_greatestPart_X12_sayingFor rfl ⟨rfl, rfl⟩ (by decide +kernel) ⟨Nat.le_of_ble_eq_true rfl, Nat.le_of_ble_eq_true rfl⟩ (show 0 < 20 by decide) (gM_0 Z _) rfl rfl rfl (Nat.le_of_ble_eq_true rfl) dX12_greatestPart_50 ?_
          refine rw_istore F dX12_greatestPart_53 (by decide) rfl ?_
          refine rw_aload_n F dX12_greatestPart_55 rfl 1 rfl ?_
          refine rw_get F 0 (show 0 < 20 by decide) (gM_0 Z _) iw_X12_greatestPart_X12 rfl 30 (by decide) lk_X12_greatestPart_59 rfl dX12_greatestPart_56 ?_
          refine rw_iload F dX12_greatestPart_59 0 rfl ?_
          refine rw_dup2 F dX12_greatestPart_61 rfl rfl ?_
          obtain ⟨hi7, hf⟩ := ck_h hf
          refine rw_iald F 16 (show 16 < 20 by decide) (gM_16 Z _) 0 rfl hi7 dX12_greatestPart_62 ?_
          refine rw_iconst F (v := 1) dX12_greatestPart_63 (by decide) ?_
          refine rw_iadd F dX12_greatestPart_64 ?_
          obtain ⟨hi8, hf⟩ := ck_h hf
          refine rw_iast F 16 (show 16 < 20 by decide) (gM_16 Z) 0 rfl hi8 dX12_greatestPart_65 ?_
          refine rw_aload_n F dX12_greatestPart_66 rfl 1 rfl ?_
          refine rw_get F 0 (show 0 < 20 by decide) (gM_0 Z _) iw_X12_greatestPart_X12 rfl 30 (by decide) lk_X12_greatestPart_59 rfl dX12_greatestPart_67 ?_
          refine rw_iload F dX12_greatestPart_70 0 rfl ?_
          obtain ⟨hi9, hf⟩ := ck_h hf
          refine rw_iald F 16 (show 16 < 20 by decide) (gM_16 Z _) 0 rfl hi9 dX12_greatestPart_72 ?_
          refine rw_iload_n F dX12_greatestPart_73 rfl 3 rfl ?_
          refine rw_icmp_le F (tgt := 87) hf dX12_greatestPart_74 (by decide) (fun hc11 hf => ?_) (fun hc11 hf => ?_)
          · refine rw_iload_n F dX12_greatestPart_87 rfl 3 rfl ?_
            exact WS.sub [1, 2, 4] rfl (b_X12_greatestPart_b88 F _ hK25 _ _ _ _ hf)
          · refine rw_aload_n F dX12_greatestPart_77 rfl 1 rfl ?_
            refine rw_get F 0 (show 0 < 20 by decide) (gM_0 Z _) iw_X12_greatestPart_X12 rfl 30 (by decide) lk_X12_greatestPart_59 rfl dX12_greatestPart_78 ?_
            refine rw_iload F dX12_greatestPart_81 0 rfl ?_
            obtain ⟨hi10, hf⟩ := ck_h hf
            refine rw_iald F 16 (show 16 < 20 by decide) (gM_16 Z _) 0 rfl hi10 dX12_greatestPart_83 ?_
            refine rw_goto F (tgt := 88) dX12_greatestPart_84 (by decide) ?_
            exact WS.sub [1, 2, 4] rfl (b_X12_greatestPart_b88 F _ hK25 _ _ _ _ hf)

set_option maxHeartbeats 4000000 in
set_option maxRecDepth 100000 in
theorem b_X12_greatestPart_b2 {a : Ax} {Z : Zx} {A : Nat → Prop} {r : (Int32 × (Nat → Nat → Int32))} (F : FX_X12_greatestPart a Z A) : ∀ (n : Nat) (i1 : Int32) (i2 : Int32) (f : Nat → Nat → Int32), f_X12_greatestPart_b2 n i1 i2 f = some r → WS a (XM Z) A 5 (RP a (XM Z) A (PI r.1 r.2)) 2 [(0, .ref (Z.2.1 0)), (1, .int i1), (2, .int i2)] [] f := by
  intro n
  induction n with
  | zero => intro i1 i2 f hf; exact nomatch (show (none : Option (Int32 × (Nat → Nat → Int32))) = some r from hf)
  | succ n hK2 =>
    intro i1 i2 f hf
    replace hf : f_X12_greatestPart_b2s (f_X12_greatestPart_b2 n) i1 i2 f = some r := hf
    unfold f_X12_greatestPart_b2s at hf
    refine rw_iload_n F dX12_greatestPart_2 rfl 2 rfl ?_
    refine rw_bipush F (v := 12) dX12_greatestPart_3 (by decide) ?_
    refine rw_icmp_ge F (tgt := 21) hf dX12_greatestPart_5 (by decide) (fun hc16 hf => ?_) (fun hc16 hf => ?_)
    · refine rw_iconst F (v := 0) dX12_greatestPart_21 (by decide) ?_
      refine rw_istore_n F dX12_greatestPart_22 rfl (by decide) rfl ?_
      refine rw_iconst F (v := 0) dX12_greatestPart_23 (by decide) ?_
      refine rw_istore_n F dX12_greatestPart_24 rfl (by decide) rfl ?_
      exact WS.sub [2, 3, 1, 0] rfl (b_X12_greatestPart_b25 F  fuB _ _ _ _ hf)
    · refine rw_aload_n F dX12_greatestPart_8 rfl 0 rfl ?_
      refine rw_get F 0 (show 0 < 20 by decide) (gM_0 Z _) iw_X12_greatestPart_X12 rfl 30 (by decide) lk_X12_greatestPart_59 rfl dX12_greatestPart_9 ?_
      refine rw_iload_n F dX12_greatestPart_12 rfl 2 rfl ?_
      refine rw_iconst F (v := 0) dX12_greatestPart_13 (by decide) ?_
      obtain ⟨hi15, hf⟩ := ck_h hf
      refine rw_iast F 16 (show 16 < 20 by decide) (gM_16 Z) 0 rfl hi15 dX12_greatestPart_14 ?_
      refine rw_iinc F (v := 1) dX12_greatestPart_15 2 rfl (by decide) (by decide) rfl ?_
      refine rw_goto F (tgt := 2) dX12_greatestPart_18 (by decide) ?_
      exact WS.sub [1, 2, 0] rfl (hK2 _ _ _ hf)

set_option maxHeartbeats 4000000 in
set_option maxRecDepth 100000 in
theorem c_X12_greatestPart (l : Launch) (Z : Zx) (p1 : Int32) (f : Nat → Nat → Int32) (r : (Int32 × (Nat → Nat → Int32))) (hf : f_X12_greatestPart p1 f = some r) : MS l (XM Z) yX12_greatestPart wsX12_greatestPart rm_X12_greatestPart [.ref (Z.2.1 0), .int p1] f (PI r.1 r.2) := by
  refine MS.of (cc := cX12_greatestPart) (maxL := 5) (ret := (some .int)) (own := RX12) (lv := [(0, .ref (Z.2.1 0)), (1, .int p1)]) (by decide) rfl rfl (Nat.le_of_ble_eq_true rfl) rfl ?_
  intro a A hla F
  subst hla
  unfold f_X12_greatestPart at hf
  refine rw_iconst F (v := 0) dX12_greatestPart_0 (by decide) ?_
  refine rw_istore_n F dX12_greatestPart_1 rfl (by decide) rfl ?_
  exact WS.sub [1, 2, 0] rfl (b_X12_greatestPart_b2 F  fuB _ _ _ hf)

abbrev rm_X12_ask : Room := { frames := 6, cells := 0, slots := 0, locals := 142 }
abbrev FX_X12_ask (a : Ax) (Z : Zx) (A : Nat → Prop) : Prop := FX a (XM Z) A cX12_ask RX12 wsX12_ask 5 (some .int) rm_X12_ask
theorem iw_X12_ask_X12 : ∀ w ∈ wsX120, w ∈ wsX12_ask := by decide +kernel
theorem lk_X12_ask_75 : Cond.fieldLink RX12 75 (TX12 0).1 (TX12 0).2.1 (TX12 0).2.2.1 ∈ wsX12_ask := by decide +kernel
theorem lk_X12_ask_89 : Cond.fieldLink RX12 89 (TX12 4).1 (TX12 4).2.1 (TX12 4).2.2.1 ∈ wsX12_ask := by decide +kernel
set_option maxHeartbeats 4000000 in
set_option maxRecDepth 100000 in
theorem b_X12_ask_b59 {a : Ax} {Z : Zx} {A : Nat → Prop} {r : (Int32 × (Nat → Nat → Int32))} (F : FX_X12_ask a Z A) (K20 : Int32 → Int32 → Int32 → (Nat → Nat → Int32) → Option (Int32 × (Nat → Nat → Int32))) (hK20 : ∀ (i1 : Int32) (i2 : Int32) (i3 : Int32) (f : Nat → Nat → Int32), K20 i1 i2 i3 f = some r → WS a (XM Z) A 5 (RP a (XM Z) A (PI r.1 r.2)) 20 [(0, .ref (Z.2.1 0)), (1, .int i1), (2, .int i2), (3, .int i3)] [] f) : ∀ (i1 : Int32) (i3 : Int32) (s0 : Int32) (f : Nat → Nat → Int32), f_X12_ask_b59 K20 i1 i3 s0 f = some r → WS a (XM Z) A 5 (RP a (XM Z) A (PI r.1 r.2)) 59 [(0, .ref (Z.2.1 0)), (1, .int i1), (3, .int i3)] [.int s0] f := by
  intro i1 i3 s0 f hf
  unfold f_X12_ask_b59 at hf
  refine rw_istore_n F dX12_ask_59 rfl (by decide) rfl ?_
  refine rw_iinc F (v := 1) dX12_ask_60 3 rfl (by decide) (by decide) rfl ?_
  refine rw_goto F (tgt := 20) dX12_ask_63 (by decide) ?_
  exact WS.sub [2, 3, 1, 0] rfl (hK20 _ _ _ _ hf)

set_option maxHeartbeats 4000000 in
set_option maxRecDepth 100000 in
theorem b_X12_ask_b46 {a : Ax} {Z : Zx} {A : Nat → Prop} {r : (Int32 × (Nat → Nat → Int32))} (F : FX_X12_ask a Z A) (K20 : Int32 → Int32 → Int32 → (Nat → Nat → Int32) → Option (Int32 × (Nat → Nat → Int32))) (hK20 : ∀ (i1 : Int32) (i2 : Int32) (i3 : Int32) (f : Nat → Nat → Int32), K20 i1 i2 i3 f = some r → WS a (XM Z) A 5 (RP a (XM Z) A (PI r.1 r.2)) 20 [(0, .ref (Z.2.1 0)), (1, .int i1), (2, .int i2), (3, .int i3)] [] f) : ∀ (i2 : Int32) (i3 : Int32) (i4 : Int32) (s0 : Int32) (f : Nat → Nat → Int32), f_X12_ask_b46 K20 i2 i3 i4 s0 f = some r → WS a (XM Z) A 5 (RP a (XM Z) A (PI r.1 r.2)) 46 [(0, .ref (Z.2.1 0)), (2, .int i2), (3, .int i3), (4, .int i4)] [.int s0] f := by
  intro i2 i3 i4 s0 f hf
  unfold f_X12_ask_b46 at hf
  refine rw_istore_n F dX12_ask_46 rfl (by decide) rfl ?_
  refine rw_iload F dX12_ask_47 4 rfl ?_
  refine rw_iload_n F dX12_ask_49 rfl 2 rfl ?_
  refine rw_icmp_ge F (tgt := 58) hf dX12_ask_50 (by decide) (fun hc5 hf => ?_) (fun hc5 hf => ?_)
  · refine rw_iload_n F dX12_ask_58 rfl 2 rfl ?_
    exact WS.sub [1, 0, 3] rfl (b_X12_ask_b59 F _ hK20 _ _ _ _ hf)
  · refine rw_iload F dX12_ask_53 4 rfl ?_
    refine rw_goto F (tgt := 59) dX12_ask_55 (by decide) ?_
    exact WS.sub [1, 0, 3] rfl (b_X12_ask_b59 F _ hK20 _ _ _ _ hf)

set_option maxHeartbeats 4000000 in
set_option maxRecDepth 100000 in
theorem b_X12_ask_b20 {a : Ax} {Z : Zx} {A : Nat → Prop} {r : (Int32 × (Nat → Nat → Int32))} (F : FX_X12_ask a Z A) : ∀ (n : Nat) (i1 : Int32) (i2 : Int32) (i3 : Int32) (f : Nat → Nat → Int32), f_X12_ask_b20 n i1 i2 i3 f = some r → WS a (XM Z) A 5 (RP a (XM Z) A (PI r.1 r.2)) 20 [(0, .ref (Z.2.1 0)), (1, .int i1), (2, .int i2), (3, .int i3)] [] f := by
  intro n
  induction n with
  | zero => intro i1 i2 i3 f hf; exact nomatch (show (none : Option (Int32 × (Nat → Nat → Int32))) = some r from hf)
  | succ n hK20 =>
    intro i1 i2 i3 f hf
    replace hf : f_X12_ask_b20s (f_X12_ask_b20 n) i1 i2 i3 f = some r := hf
    unfold f_X12_ask_b20s at hf
    refine rw_iload_n F dX12_ask_20 rfl 3 rfl ?_
    refine rw_aload_n F dX12_ask_21 rfl 0 rfl ?_
    refine rw_get F 0 (show 0 < 20 by decide) (gM_0 Z _) iw_X12_ask_X12 rfl 4 (by decide) lk_X12_ask_89 rfl dX12_ask_22 ?_
    refine rw_icmp_ge F (tgt := 66) hf dX12_ask_25 (by decide) (fun hc7 hf => ?_) (fun hc7 hf => ?_)
    · refine rw_iload_n F dX12_ask_66 rfl 1 rfl ?_
      exact rw_iretS F hf rfl dX12_ask_67
    · refine rw_aload_n F dX12_ask_28 rfl 0 rfl ?_
      refine rw_iload_n F dX12_ask_29 rfl 3 rfl ?_
      obtain ⟨q4, hq3, hf⟩ := bind_h hf
      refine rw_callVI F (k0 := 0) (nA := 1) (c_X12_greatestPart (aL a) Z _ _ _ hq3) gX12_ask_X12_greatestPart rfl ⟨rfl, rfl⟩ (by decide +kernel) ⟨Nat.le_of_ble_eq_true rfl, Nat.le_of_ble_eq_true rfl⟩ (show 0 < 20 by decide) (gM_0 Z _) rfl rfl rfl (Nat.le_of_ble_eq_true rfl) dX12_ask_30 ?_
      refine rw_istore F dX12_ask_33 (by decide) rfl ?_
      refine rw_iload F dX12_ask_35 0 rfl ?_
      refine rw_iload_n F dX12_ask_37 rfl 3 rfl ?_
      refine rw_icmp_ge F (tgt := 45) hf dX12_ask_38 (by decide) (fun hc6 hf => ?_) (fun hc6 hf => ?_)
      · refine rw_iload_n F dX12_ask_45 rfl 2 rfl ?_
        exact WS.sub [1, 3, 4, 0] rfl (b_X12_ask_b46 F _ hK20 _ _ _ _ _ hf)
      · refine rw_iload_n F dX12_ask_41 rfl 4 rfl ?_
        refine rw_goto F (tgt := 46) dX12_ask_42 (by decide) ?_
        exact WS.sub [1, 3, 4, 0] rfl (b_X12_ask_b46 F _ hK20 _ _ _ _ _ hf)

set_option maxHeartbeats 4000000 in
set_option maxRecDepth 100000 in
theorem c_X12_ask (l : Launch) (Z : Zx) (f : Nat → Nat → Int32) (r : (Int32 × (Nat → Nat → Int32))) (hf : f_X12_ask f = some r) : MS l (XM Z) yX12_ask wsX12_ask rm_X12_ask [.ref (Z.2.1 0)] f (PI r.1 r.2) := by
  refine MS.of (cc := cX12_ask) (maxL := 5) (ret := (some .int)) (own := RX12) (lv := [(0, .ref (Z.2.1 0))]) (by decide) rfl rfl (Nat.le_of_ble_eq_true rfl) rfl ?_
  intro a A hla F
  subst hla
  unfold f_X12_ask at hf
  refine rw_aload_n F dX12_ask_0 rfl 0 rfl ?_
  refine rw_get F 0 (show 0 < 20 by decide) (gM_0 Z _) iw_X12_ask_X12 rfl 0 (by decide) lk_X12_ask_75 rfl dX12_ask_1 ?_
  refine rw_if_ne F (tgt := 10) hf dX12_ask_4 (by decide) (fun hc8 hf => ?_) (fun hc8 hf => ?_)
  · refine rw_iconst F (v := -1) dX12_ask_10 (by decide) ?_
    refine rw_istore_n F dX12_ask_11 rfl (by decide) rfl ?_
    refine rw_aload_n F dX12_ask_12 rfl 1 rfl ?_
    refine rw_iconst F (v := -1) dX12_ask_13 (by decide) ?_
    obtain ⟨q2, hq1, hf⟩ := bind_h hf
    refine rw_callVI F (k0 := 0) (nA := 1) (c_X12_births (aL a) Z _ _ _ hq1) gX12_ask_X12_births rfl ⟨rfl, rfl⟩ (by decide +kernel) ⟨Nat.le_of_ble_eq_true rfl, Nat.le_of_ble_eq_true rfl⟩ (show 0 < 20 by decide) (gM_0 Z _) rfl rfl rfl (Nat.le_of_ble_eq_true rfl) dX12_ask_14 ?_
    refine rw_istore_n F dX12_ask_17 rfl (by decide) rfl ?_
    refine rw_iconst F (v := 0) dX12_ask_18 (by decide) ?_
    refine rw_istore_n F dX12_ask_19 rfl (by decide) rfl ?_
    exact WS.sub [3, 2, 1, 0] rfl (b_X12_ask_b20 F  fuB _ _ _ _ hf)
  · refine rw_ldc F (v := -1000000003) dX12_ask_7 (by decide +kernel) ?_
    exact rw_iretS F hf rfl dX12_ask_9

abbrev rm_X12_write : Room := { frames := 1, cells := 0, slots := 0, locals := 25 }
abbrev FX_X12_write (a : Ax) (Z : Zx) (A : Nat → Prop) : Prop := FX a (XM Z) A cX12_write RX12 wsX12_write 2 (some .int) rm_X12_write
theorem iw_X12_write_X12 : ∀ w ∈ wsX120, w ∈ wsX12_write := by decide +kernel
theorem lk_X12_write_62 : Cond.fieldLink RX12 62 (TX12 32).1 (TX12 32).2.1 (TX12 32).2.2.1 ∈ wsX12_write := by decide +kernel
theorem lk_X12_write_159 : Cond.fieldLink RX12 159 (TX12 31).1 (TX12 31).2.1 (TX12 31).2.2.1 ∈ wsX12_write := by decide +kernel
set_option maxHeartbeats 4000000 in
set_option maxRecDepth 100000 in
theorem c_X12_write (l : Launch) (Z : Zx) (p1 : Int32) (f : Nat → Nat → Int32) (r : (Int32 × (Nat → Nat → Int32))) (hf : f_X12_write p1 f = some r) : MS l (XM Z) yX12_write wsX12_write rm_X12_write [.ref (Z.2.1 0), .int p1] f (PI r.1 r.2) := by
  refine MS.of (cc := cX12_write) (maxL := 2) (ret := (some .int)) (own := RX12) (lv := [(0, .ref (Z.2.1 0)), (1, .int p1)]) (by decide) rfl rfl (Nat.le_of_ble_eq_true rfl) rfl ?_
  intro a A hla F
  subst hla
  unfold f_X12_write at hf
  refine rw_iload_n F dX12_write_0 rfl 1 rfl ?_
  refine rw_i2l F dX12_write_1 ?_
  refine rw_lconst F (v := 0) dX12_write_2 (by decide) ?_
  refine rw_ldc2 F (v := 7) dX12_write_3 (by decide +kernel) ?_
  obtain ⟨q2, hq1, hf⟩ := bind_h hf
  refine rw_callSI F (nA := 3) (c_X12_in (aL a) Z _ _ _ _ _ hq1) gX12_write_X12_in rfl ⟨rfl, rfl⟩ (by decide +kernel) ⟨Nat.le_of_ble_eq_true rfl, Nat.le_of_ble_eq_true rfl⟩ rfl rfl (Nat.le_of_ble_eq_true rfl) dX12_write_6 ?_
  refine rw_if_ne F (tgt := 15) hf dX12_write_9 (by decide) (fun hc5 hf => ?_) (fun hc5 hf => ?_)
  · refine rw_aload_n F dX12_write_15 rfl 0 rfl ?_
    refine rw_get F 0 (show 0 < 20 by decide) (gM_0 Z _) iw_X12_write_X12 rfl 31 (by decide) lk_X12_write_159 rfl dX12_write_16 ?_
    refine rw_bipush F (v := 15) dX12_write_19 (by decide) ?_
    refine rw_icmp_ne F (tgt := 27) hf dX12_write_21 (by decide) (fun hc4 hf => ?_) (fun hc4 hf => ?_)
    · refine rw_aload_n F dX12_write_27 rfl 0 rfl ?_
      refine rw_get F 0 (show 0 < 20 by decide) (gM_0 Z _) iw_X12_write_X12 rfl 32 (by decide) lk_X12_write_62 rfl dX12_write_28 ?_
      refine rw_aload_n F dX12_write_31 rfl 0 rfl ?_
      refine rw_get F 0 (show 0 < 20 by decide) (gM_0 Z _) iw_X12_write_X12 rfl 31 (by decide) lk_X12_write_159 rfl dX12_write_32 ?_
      refine rw_iload_n F dX12_write_35 rfl 1 rfl ?_
      obtain ⟨hi3, hf⟩ := ck_h hf
      refine rw_iast F 17 (show 17 < 20 by decide) (gM_17 Z) 0 rfl hi3 dX12_write_36 ?_
      refine rw_aload_n F dX12_write_37 rfl 0 rfl ?_
      refine rw_dup F dX12_write_38 rfl ?_
      refine rw_get F 0 (show 0 < 20 by decide) (gM_0 Z _) iw_X12_write_X12 rfl 31 (by decide) lk_X12_write_159 rfl dX12_write_39 ?_
      refine rw_iconst F (v := 1) dX12_write_42 (by decide) ?_
      refine rw_iadd F dX12_write_43 ?_
      refine rw_put F 0 (show 0 < 20 by decide) (gM_0 Z) iw_X12_write_X12 tyX12 tyX12_ok nmX12 rfl 31 (by decide) lk_X12_write_159 rfl rfl rfl (fun _ => by rw [lnM0]; decide) (stM0_31 Z.2.1) dX12_write_44 ?_
      refine rw_aload_n F dX12_write_47 rfl 0 rfl ?_
      refine rw_get F 0 (show 0 < 20 by decide) (gM_0 Z _) iw_X12_write_X12 rfl 31 (by decide) lk_X12_write_159 rfl dX12_write_48 ?_
      exact rw_iretS F hf rfl dX12_write_51
    · refine rw_ldc F (v := -1000000004) dX12_write_24 (by decide +kernel) ?_
      exact rw_iretS F hf rfl dX12_write_26
  · refine rw_ldc F (v := -1000000002) dX12_write_12 (by decide +kernel) ?_
    exact rw_iretS F hf rfl dX12_write_14

