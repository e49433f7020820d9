abbrev rm_X12_says : Room := { frames := 3, cells := 0, slots := 0, locals := 73 }
abbrev FX_X12_says (a : Ax) (Z : Zx) (A : Nat → Prop) : Prop := FX a (XM Z) A cX12_says RX12 wsX12_says 4 (some .int) rm_X12_says
set_option maxHeartbeats 4000000 in
set_option maxRecDepth 100000 in
theorem b_X12_says_b34 {a : Ax} {Z : Zx} {A : Nat → Prop} {r : Int32} {f : Nat → Nat → Int32} (F : FX_X12_says a Z A) : f_X12_says_b34  f = some r → WS a (XM Z) A 4 (RP a (XM Z) A (PI r f)) 34 [] [] f := by
  intro  hf
  unfold f_X12_says_b34 at hf
  refine rw_ldc F (v := -1000000001) dX12_says_34 (by decide +kernel) ?_
  exact rw_iret F hf rfl dX12_says_36

set_option maxHeartbeats 4000000 in
set_option maxRecDepth 100000 in
theorem c_X12_says (l : Launch) (Z : Zx) (p1 : Int32) (p2 : Int32) (p3 : Int32) (f : Nat → Nat → Int32) (r : Int32) (hf : f_X12_says p1 p2 p3 f = some r) : MS l (XM Z) yX12_says wsX12_says rm_X12_says [.ref (Z.2.1 0), .int p1, .int p2, .int p3] f (PI r f) := by
  refine MS.of (cc := cX12_says) (maxL := 4) (ret := (some .int)) (own := RX12) (lv := [(0, .ref (Z.2.1 0)), (1, .int p1), (2, .int p2), (3, .int p3)]) (by decide) rfl rfl (Nat.le_of_ble_eq_true rfl) rfl ?_
  intro a A hla F
  subst hla
  unfold f_X12_says at hf
  refine rw_aload_n F dX12_says_0 rfl 0 rfl ?_
  refine rw_iload_n F dX12_says_1 rfl 1 rfl ?_
  obtain ⟨q2, hq1, hf⟩ := bind_h hf
  refine rw_callVI F (k0 := 0) (nA := 1) (c_X12_isWitness (aL a) Z _ _ _ hq1) gX12_says_X12_isWitness rfl ⟨rfl, rfl⟩ (by decide +kernel) ⟨Nat.le_of_ble_eq_true rfl, Nat.le_of_ble_eq_true rfl⟩ (show 0 < 20 by decide) (gM_0 Z _) rfl rfl rfl (Nat.le_of_ble_eq_true rfl) dX12_says_2 ?_
  refine rw_if_eq F (tgt := 34) hf dX12_says_5 (by decide) (fun hc11 hf => ?_) (fun hc11 hf => ?_)
  · exact WS.sub [] rfl (b_X12_says_b34 F   hf)
  · refine rw_aload_n F dX12_says_8 rfl 0 rfl ?_
    refine rw_iload_n F dX12_says_9 rfl 2 rfl ?_
    obtain ⟨q4, hq3, hf⟩ := bind_h hf
    refine rw_callVI F (k0 := 0) (nA := 1) (c_X12_isSound (aL a) Z _ _ _ hq3) gX12_says_X12_isSound rfl ⟨rfl, rfl⟩ (by decide +kernel) ⟨Nat.le_of_ble_eq_true rfl, Nat.le_of_ble_eq_true rfl⟩ (show 0 < 20 by decide) (gM_0 Z _) rfl rfl rfl (Nat.le_of_ble_eq_true rfl) dX12_says_10 ?_
    refine rw_if_eq F (tgt := 34) hf dX12_says_13 (by decide) (fun hc10 hf => ?_) (fun hc10 hf => ?_)
    · exact WS.sub [] rfl (b_X12_says_b34 F   hf)
    · refine rw_aload_n F dX12_says_16 rfl 0 rfl ?_
      refine rw_iload_n F dX12_says_17 rfl 3 rfl ?_
      obtain ⟨q6, hq5, hf⟩ := bind_h hf
      refine rw_callVI F (k0 := 0) (nA := 1) (c_X12_isPlace (aL a) Z _ _ _ hq5) gX12_says_X12_isPlace rfl ⟨rfl, rfl⟩ (by decide +kernel) ⟨Nat.le_of_ble_eq_true rfl, Nat.le_of_ble_eq_true rfl⟩ (show 0 < 20 by decide) (gM_0 Z _) rfl rfl rfl (Nat.le_of_ble_eq_true rfl) dX12_says_18 ?_
      refine rw_if_eq F (tgt := 34) hf dX12_says_21 (by decide) (fun hc9 hf => ?_) (fun hc9 hf => ?_)
      · exact WS.sub [] rfl (b_X12_says_b34 F   hf)
      · refine rw_aload_n F dX12_says_24 rfl 0 rfl ?_
        refine rw_iload_n F dX12_says_25 rfl 1 rfl ?_
        refine rw_iload_n F dX12_says_26 rfl 2 rfl ?_
        refine rw_iload_n F dX12_says_27 rfl 3 rfl ?_
        obtain ⟨q8, hq7, hf⟩ := bind_h hf
        refine rw_callVI F (k0 := 0) (nA := 3) (c_X12_sayingOf (aL a) Z _ _ _ _ _ hq7) gX12_says_X12_sayingOf rfl ⟨rfl, rfl⟩ (by decide +kernel) ⟨Nat.le_of_ble_eq_true rfl, Nat.le_of_ble_eq_true rfl⟩ (show 0 < 20 by decide) (gM_0 Z _) rfl rfl rfl (Nat.le_of_ble_eq_true rfl) dX12_says_28 ?_
        refine rw_goto F (tgt := 36) dX12_says_31 (by decide) ?_
        exact rw_iret F hf rfl dX12_says_36

abbrev rm_X12_listenTo : Room := { frames := 1, cells := 0, slots := 0, locals := 27 }
abbrev FX_X12_listenTo (a : Ax) (Z : Zx) (A : Nat → Prop) : Prop := FX a (XM Z) A cX12_listenTo RX12 wsX12_listenTo 6 (some .int) rm_X12_listenTo
set_option maxHeartbeats 4000000 in
set_option maxRecDepth 100000 in
theorem b_X12_listenTo_b37 {a : Ax} {Z : Zx} {A : Nat → Prop} {r : Int32} {f : Nat → Nat → Int32} (F : FX_X12_listenTo a Z A) (K6 : Int32 → Int32 → Int32 → Int32 → Int32 → Option Int32) (hK6 : ∀ (i1 : Int32) (i2 : Int32) (i3 : Int32) (i4 : Int32) (i5 : Int32), K6 i1 i2 i3 i4 i5 = some r → WS a (XM Z) A 6 (RP a (XM Z) A (PI r f)) 6 [(0, .ref (Z.2.1 0)), (1, .int i1), (2, .int i2), (3, .int i3), (4, .int i4), (5, .int i5)] [] f) : ∀ (i1 : Int32) (i2 : Int32) (i3 : Int32) (i5 : Int32) (s0 : Int32) (s1 : Int32), f_X12_listenTo_b37 K6 i1 i2 i3 i5 s0 s1 f = some r → WS a (XM Z) A 6 (RP a (XM Z) A (PI r f)) 37 [(0, .ref (Z.2.1 0)), (1, .int i1), (2, .int i2), (3, .int i3), (5, .int i5)] [.int s1, .int s0] f := by
  intro i1 i2 i3 i5 s0 s1 hf
  unfold f_X12_listenTo_b37 at hf
  refine rw_ior F dX12_listenTo_37 ?_
  refine rw_istore F dX12_listenTo_38 (by decide) rfl ?_
  refine rw_iinc F (v := 1) dX12_listenTo_40 5 rfl (by decide) (by decide) rfl ?_
  refine rw_goto F (tgt := 6) dX12_listenTo_43 (by decide) ?_
  exact WS.sub [2, 3, 4, 5, 1, 0] rfl (hK6 _ _ _ _ _ hf)

set_option maxHeartbeats 4000000 in
set_option maxRecDepth 100000 in
theorem b_X12_listenTo_b6 {a : Ax} {Z : Zx} {A : Nat → Prop} {r : Int32} {f : Nat → Nat → Int32} (F : FX_X12_listenTo a Z A) : ∀ (n : Nat) (i1 : Int32) (i2 : Int32) (i3 : Int32) (i4 : Int32) (i5 : Int32), f_X12_listenTo_b6 n i1 i2 i3 i4 i5 f = some r → WS a (XM Z) A 6 (RP a (XM Z) A (PI r f)) 6 [(0, .ref (Z.2.1 0)), (1, .int i1), (2, .int i2), (3, .int i3), (4, .int i4), (5, .int i5)] [] f := by
  intro n
  induction n with
  | zero => intro i1 i2 i3 i4 i5 hf; exact nomatch (show (none : Option Int32) = some r from hf)
  | succ n hK6 =>
    intro i1 i2 i3 i4 i5 hf
    replace hf : f_X12_listenTo_b6s (fun i1 i2 i3 i4 i5 => f_X12_listenTo_b6 n i1 i2 i3 i4 i5 f) i1 i2 i3 i4 i5 f = some r := hf
    unfold f_X12_listenTo_b6s at hf
    refine rw_iload F dX12_listenTo_6 5 rfl ?_
    refine rw_aload_n F dX12_listenTo_8 rfl 0 rfl ?_
    obtain ⟨q2, hq1, hf⟩ := bind_h hf
    refine rw_callVI F (k0 := 0) (nA := 0) (c_X12_places (aL a) Z  _ _ hq1) gX12_listenTo_X12_places rfl ⟨rfl, rfl⟩ (by decide +kernel) ⟨Nat.le_of_ble_eq_true rfl, Nat.le_of_ble_eq_true rfl⟩ (show 0 < 20 by decide) (gM_0 Z _) rfl rfl rfl (Nat.le_of_ble_eq_true rfl) dX12_listenTo_9 ?_
    refine rw_icmp_ge F (tgt := 46) hf dX12_listenTo_12 (by decide) (fun hc6 hf => ?_) (fun hc6 hf => ?_)
    · refine rw_iload F dX12_listenTo_46 4 rfl ?_
      exact rw_iret F hf rfl dX12_listenTo_48
    · refine rw_iload F dX12_listenTo_15 4 rfl ?_
      refine rw_aload_n F dX12_listenTo_17 rfl 0 rfl ?_
      refine rw_iload_n F dX12_listenTo_18 rfl 1 rfl ?_
      refine rw_iload_n F dX12_listenTo_19 rfl 2 rfl ?_
      refine rw_iload F dX12_listenTo_20 5 rfl ?_
      obtain ⟨q4, hq3, hf⟩ := bind_h hf
      refine rw_callVI F (k0 := 0) (nA := 3) (c_X12_loudAt (aL a) Z _ _ _ _ _ hq3) gX12_listenTo_X12_loudAt rfl ⟨rfl, rfl⟩ (by decide +kernel) ⟨Nat.le_of_ble_eq_true rfl, Nat.le_of_ble_eq_true rfl⟩ (show 0 < 20 by decide) (gM_0 Z _) rfl rfl rfl (Nat.le_of_ble_eq_true rfl) dX12_listenTo_22 ?_
      refine rw_iload_n F dX12_listenTo_25 rfl 3 rfl ?_
      refine rw_icmp_lt F (tgt := 36) hf dX12_listenTo_26 (by decide) (fun hc5 hf => ?_) (fun hc5 hf => ?_)
      · refine rw_iconst F (v := 0) dX12_listenTo_36 (by decide) ?_
        exact WS.sub [0, 1, 2, 3, 5] rfl (b_X12_listenTo_b37 F _ hK6 _ _ _ _ _ _ hf)
      · refine rw_iconst F (v := 1) dX12_listenTo_29 (by decide) ?_
        refine rw_iload F dX12_listenTo_30 5 rfl ?_
        refine rw_ishl F dX12_listenTo_32 ?_
        refine rw_goto F (tgt := 37) dX12_listenTo_33 (by decide) ?_
        exact WS.sub [0, 1, 2, 3, 5] rfl (b_X12_listenTo_b37 F _ hK6 _ _ _ _ _ _ hf)

set_option maxHeartbeats 4000000 in
set_option maxRecDepth 100000 in
theorem c_X12_listenTo (l : Launch) (Z : Zx) (p1 : Int32) (p2 : Int32) (p3 : Int32) (f : Nat → Nat → Int32) (r : Int32) (hf : f_X12_listenTo p1 p2 p3 f = some r) : MS l (XM Z) yX12_listenTo wsX12_listenTo rm_X12_listenTo [.ref (Z.2.1 0), .int p1, .int p2, .int p3] f (PI r f) := by
  refine MS.of (cc := cX12_listenTo) (maxL := 6) (ret := (some .int)) (own := RX12) (lv := [(0, .ref (Z.2.1 0)), (1, .int p1), (2, .int p2), (3, .int p3)]) (by decide) rfl rfl (Nat.le_of_ble_eq_true rfl) rfl ?_
  intro a A hla F
  subst hla
  unfold f_X12_listenTo at hf
  refine rw_iconst F (v := 0) dX12_listenTo_0 (by decide) ?_
  refine rw_istore F dX12_listenTo_1 (by decide) rfl ?_
  refine rw_iconst F (v := 0) dX12_listenTo_3 (by decide) ?_
  refine rw_istore F dX12_listenTo_4 (by decide) rfl ?_
  exact WS.sub [2, 3, 4, 5, 1, 0] rfl (b_X12_listenTo_b6 F  fuB _ _ _ _ _ hf)

abbrev rm_X12_listen : Room := { frames := 2, cells := 0, slots := 0, locals := 52 }
abbrev FX_X12_listen (a : Ax) (Z : Zx) (A : Nat → Prop) : Prop := FX a (XM Z) A cX12_listen RX12 wsX12_listen 4 (some .int) rm_X12_listen
set_option maxHeartbeats 4000000 in
set_option maxRecDepth 100000 in
theorem b_X12_listen_b16 {a : Ax} {Z : Zx} {A : Nat → Prop} {r : Int32} {f : Nat → Nat → Int32} (F : FX_X12_listen a Z A) : f_X12_listen_b16  f = some r → WS a (XM Z) A 4 (RP a (XM Z) A (PI r f)) 16 [] [] f := by
  intro  hf
  unfold f_X12_listen_b16 at hf
  refine rw_ldc F (v := -1000000001) dX12_listen_16 (by decide +kernel) ?_
  exact rw_iret F hf rfl dX12_listen_18

set_option maxHeartbeats 4000000 in
set_option maxRecDepth 100000 in
theorem c_X12_listen (l : Launch) (Z : Zx) (p1 : Int32) (p2 : Int32) (p3 : Int32) (f : Nat → Nat → Int32) (r : Int32) (hf : f_X12_listen p1 p2 p3 f = some r) : MS l (XM Z) yX12_listen wsX12_listen rm_X12_listen [.ref (Z.2.1 0), .int p1, .int p2, .int p3] f (PI r f) := by
  refine MS.of (cc := cX12_listen) (maxL := 4) (ret := (some .int)) (own := RX12) (lv := [(0, .ref (Z.2.1 0)), (1, .int p1), (2, .int p2), (3, .int p3)]) (by decide) rfl rfl (Nat.le_of_ble_eq_true rfl) rfl ?_
  intro a A hla F
  subst hla
  unfold f_X12_listen at hf
  refine rw_aload_n F dX12_listen_0 rfl 0 rfl ?_
  refine rw_iload_n F dX12_listen_1 rfl 1 rfl ?_
  obtain ⟨q2, hq1, hf⟩ := bind_h hf
  refine rw_callVI F (k0 := 0) (nA := 1) (c_X12_isSound (aL a) Z _ _ _ hq1) gX12_listen_X12_isSound rfl ⟨rfl, rfl⟩ (by decide +kernel) ⟨Nat.le_of_ble_eq_true rfl, Nat.le_of_ble_eq_true rfl⟩ (show 0 < 20 by decide) (gM_0 Z _) rfl rfl rfl (Nat.le_of_ble_eq_true rfl) dX12_listen_2 ?_
  refine rw_if_eq F (tgt := 16) hf dX12_listen_5 (by decide) (fun hc11 hf => ?_) (fun hc11 hf => ?_)
  · exact WS.sub [] rfl (b_X12_listen_b16 F   hf)
  · refine rw_aload_n F dX12_listen_8 rfl 0 rfl ?_
    refine rw_iload_n F dX12_listen_9 rfl 2 rfl ?_
    obtain ⟨q4, hq3, hf⟩ := bind_h hf
    refine rw_callVI F (k0 := 0) (nA := 1) (c_X12_isPlace (aL a) Z _ _ _ hq3) gX12_listen_X12_isPlace rfl ⟨rfl, rfl⟩ (by decide +kernel) ⟨Nat.le_of_ble_eq_true rfl, Nat.le_of_ble_eq_true rfl⟩ (show 0 < 20 by decide) (gM_0 Z _) rfl rfl rfl (Nat.le_of_ble_eq_true rfl) dX12_listen_10 ?_
    refine rw_if_ne F (tgt := 19) hf dX12_listen_13 (by decide) (fun hc10 hf => ?_) (fun hc10 hf => ?_)
    · refine rw_iload_n F dX12_listen_19 rfl 3 rfl ?_
      refine rw_i2l F dX12_listen_20 ?_
      refine rw_lconst F (v := 0) dX12_listen_21 (by decide) ?_
      refine rw_ldc2 F (v := 30) dX12_listen_22 (by decide +kernel) ?_
      obtain ⟨q6, hq5, hf⟩ := bind_h hf
      refine rw_callSI F (nA := 3) (c_X12_in (aL a) Z _ _ _ _ _ hq5) gX12_listen_X12_in rfl ⟨rfl, rfl⟩ (by decide +kernel) ⟨Nat.le_of_ble_eq_true rfl, Nat.le_of_ble_eq_true rfl⟩ rfl rfl (Nat.le_of_ble_eq_true rfl) dX12_listen_25 ?_
      refine rw_if_eq F (tgt := 41) hf dX12_listen_28 (by decide) (fun hc9 hf => ?_) (fun hc9 hf => ?_)
      · refine rw_ldc F (v := -1000000002) dX12_listen_41 (by decide +kernel) ?_
        exact rw_iret F hf rfl dX12_listen_43
      · refine rw_aload_n F dX12_listen_31 rfl 0 rfl ?_
        refine rw_iload_n F dX12_listen_32 rfl 1 rfl ?_
        refine rw_iload_n F dX12_listen_33 rfl 2 rfl ?_
        refine rw_iload_n F dX12_listen_34 rfl 3 rfl ?_
        obtain ⟨q8, hq7, hf⟩ := bind_h hf
        refine rw_callVI F (k0 := 0) (nA := 3) (c_X12_listenTo (aL a) Z _ _ _ _ _ hq7) gX12_listen_X12_listenTo rfl ⟨rfl, rfl⟩ (by decide +kernel) ⟨Nat.le_of_ble_eq_true rfl, Nat.le_of_ble_eq_true rfl⟩ (show 0 < 20 by decide) (gM_0 Z _) rfl rfl rfl (Nat.le_of_ble_eq_true rfl) dX12_listen_35 ?_
        refine rw_goto F (tgt := 43) dX12_listen_38 (by decide) ?_
        exact rw_iret F hf rfl dX12_listen_43
    · exact WS.sub [] rfl (b_X12_listen_b16 F   hf)

abbrev rm_X12_isHeard : Room := { frames := 2, cells := 0, slots := 0, locals := 50 }
abbrev FX_X12_isHeard (a : Ax) (Z : Zx) (A : Nat → Prop) : Prop := FX a (XM Z) A cX12_isHeard RX12 wsX12_isHeard 5 (some .boolean) rm_X12_isHeard
theorem iw_X12_isHeard_X12 : ∀ w ∈ wsX120, w ∈ wsX12_isHeard := by decide +kernel
theorem lk_X12_isHeard_89 : Cond.fieldLink RX12 89 (TX12 4).1 (TX12 4).2.1 (TX12 4).2.2.1 ∈ wsX12_isHeard := by decide +kernel
set_option maxHeartbeats 4000000 in
set_option maxRecDepth 100000 in
theorem b_X12_isHeard_b34 {a : Ax} {Z : Zx} {A : Nat → Prop} {r : Int32} {f : Nat → Nat → Int32} (F : FX_X12_isHeard a Z A) (K5 : Int32 → Int32 → Int32 → Int32 → Option Int32) (hK5 : ∀ (i1 : Int32) (i2 : Int32) (i3 : Int32) (i4 : Int32), K5 i1 i2 i3 i4 = some r → WS a (XM Z) A 5 (RP a (XM Z) A (PI r f)) 5 [(0, .ref (Z.2.1 0)), (1, .int i1), (2, .int i2), (3, .int i3), (4, .int i4)] [] f) : ∀ (i1 : Int32) (i2 : Int32) (i4 : Int32) (s0 : Int32), f_X12_isHeard_b34 K5 i1 i2 i4 s0 f = some r → WS a (XM Z) A 5 (RP a (XM Z) A (PI r f)) 34 [(0, .ref (Z.2.1 0)), (1, .int i1), (2, .int i2), (4, .int i4)] [.int s0] f := by
  intro i1 i2 i4 s0 hf
  unfold f_X12_isHeard_b34 at hf
  refine rw_istore_n F dX12_isHeard_34 rfl (by decide) rfl ?_
  refine rw_iinc F (v := 1) dX12_isHeard_35 4 rfl (by decide) (by decide) rfl ?_
  refine rw_goto F (tgt := 5) dX12_isHeard_38 (by decide) ?_
  exact WS.sub [2, 3, 4, 1, 0] rfl (hK5 _ _ _ _ hf)

set_option maxHeartbeats 4000000 in
set_option maxRecDepth 100000 in
theorem b_X12_isHeard_b29 {a : Ax} {Z : Zx} {A : Nat → Prop} {r : Int32} {f : Nat → Nat → Int32} (F : FX_X12_isHeard a Z A) (K5 : Int32 → Int32 → Int32 → Int32 → Option Int32) (hK5 : ∀ (i1 : Int32) (i2 : Int32) (i3 : Int32) (i4 : Int32), K5 i1 i2 i3 i4 = some r → WS a (XM Z) A 5 (RP a (XM Z) A (PI r f)) 5 [(0, .ref (Z.2.1 0)), (1, .int i1), (2, .int i2), (3, .int i3), (4, .int i4)] [] f) : ∀ (i1 : Int32) (i2 : Int32) (i4 : Int32), f_X12_isHeard_b29 K5 i1 i2 i4 f = some r → WS a (XM Z) A 5 (RP a (XM Z) A (PI r f)) 29 [(0, .ref (Z.2.1 0)), (1, .int i1), (2, .int i2), (4, .int i4)] [] f := by
  intro i1 i2 i4 hf
  unfold f_X12_isHeard_b29 at hf
  refine rw_iconst F (v := 1) dX12_isHeard_29 (by decide) ?_
  refine rw_goto F (tgt := 34) dX12_isHeard_30 (by decide) ?_
  exact WS.sub [0, 1, 2, 3] rfl (b_X12_isHeard_b34 F _ hK5 _ _ _ _ hf)

set_option maxHeartbeats 4000000 in
set_option maxRecDepth 100000 in
theorem b_X12_isHeard_b5 {a : Ax} {Z : Zx} {A : Nat → Prop} {r : Int32} {f : Nat → Nat → Int32} (F : FX_X12_isHeard a Z A) : ∀ (n : Nat) (i1 : Int32) (i2 : Int32) (i3 : Int32) (i4 : Int32), f_X12_isHeard_b5 n i1 i2 i3 i4 f = some r → WS a (XM Z) A 5 (RP a (XM Z) A (PI r f)) 5 [(0, .ref (Z.2.1 0)), (1, .int i1), (2, .int i2), (3, .int i3), (4, .int i4)] [] f := by
  intro n
  induction n with
  | zero => intro i1 i2 i3 i4 hf; exact nomatch (show (none : Option Int32) = some r from hf)
  | succ n hK5 =>
    intro i1 i2 i3 i4 hf
    replace hf : f_X12_isHeard_b5s (fun i1 i2 i3 i4 => f_X12_isHeard_b5 n i1 i2 i3 i4 f) i1 i2 i3 i4 f = some r := hf
    unfold f_X12_isHeard_b5s at hf
    refine rw_iload F dX12_isHeard_5 4 rfl ?_
    refine rw_aload_n F dX12_isHeard_7 rfl 0 rfl ?_
    refine rw_get F 0 (show 0 < 20 by decide) (gM_0 Z _) iw_X12_isHeard_X12 rfl 4 (by decide) lk_X12_isHeard_89 rfl dX12_isHeard_8 ?_
    refine rw_icmp_ge F (tgt := 41) hf dX12_isHeard_11 (by decide) (fun hc5 hf => ?_) (fun hc5 hf => ?_)
    · refine rw_iload_n F dX12_isHeard_41 rfl 3 rfl ?_
      exact rw_zret F hf rfl dX12_isHeard_42
    · refine rw_iload_n F dX12_isHeard_14 rfl 3 rfl ?_
      refine rw_if_ne F (tgt := 29) hf dX12_isHeard_15 (by decide) (fun hc4 hf => ?_) (fun hc4 hf => ?_)
      · exact WS.sub [0, 1, 2, 4] rfl (b_X12_isHeard_b29 F _ hK5 _ _ _ hf)
      · refine rw_aload_n F dX12_isHeard_18 rfl 0 rfl ?_
        refine rw_iload F dX12_isHeard_19 4 rfl ?_
        refine rw_iload_n F dX12_isHeard_21 rfl 1 rfl ?_
        refine rw_iload_n F dX12_isHeard_22 rfl 2 rfl ?_
        obtain ⟨q2, hq1, hf⟩ := bind_h hf
        refine rw_callVI F (k0 := 0) (nA := 3) (c_X12_hears (aL a) Z _ _ _ _ _ hq1) gX12_isHeard_X12_hears rfl ⟨rfl, rfl⟩ (by decide +kernel) ⟨Nat.le_of_ble_eq_true rfl, Nat.le_of_ble_eq_true rfl⟩ (show 0 < 20 by decide) (gM_0 Z _) rfl rfl rfl (Nat.le_of_ble_eq_true rfl) dX12_isHeard_23 ?_
        refine rw_if_eq F (tgt := 33) hf dX12_isHeard_26 (by decide) (fun hc3 hf => ?_) (fun hc3 hf => ?_)
        · refine rw_iconst F (v := 0) dX12_isHeard_33 (by decide) ?_
          exact WS.sub [0, 1, 2, 4] rfl (b_X12_isHeard_b34 F _ hK5 _ _ _ _ hf)
        · exact WS.sub [0, 1, 2, 4] rfl (b_X12_isHeard_b29 F _ hK5 _ _ _ hf)

set_option maxHeartbeats 4000000 in
set_option maxRecDepth 100000 in
theorem c_X12_isHeard (l : Launch) (Z : Zx) (p1 : Int32) (p2 : Int32) (f : Nat → Nat → Int32) (r : Int32) (hf : f_X12_isHeard p1 p2 f = some r) : MS l (XM Z) yX12_isHeard wsX12_isHeard rm_X12_isHeard [.ref (Z.2.1 0), .int p1, .int p2] f (PI r f) := by
  refine MS.of (cc := cX12_isHeard) (maxL := 5) (ret := (some .boolean)) (own := RX12) (lv := [(0, .ref (Z.2.1 0)), (1, .int p1), (2, .int p2)]) (by decide) rfl rfl (Nat.le_of_ble_eq_true rfl) rfl ?_
  intro a A hla F
  subst hla
  unfold f_X12_isHeard at hf
  refine rw_iconst F (v := 0) dX12_isHeard_0 (by decide) ?_
  refine rw_istore_n F dX12_isHeard_1 rfl (by decide) rfl ?_
  refine rw_iconst F (v := 0) dX12_isHeard_2 (by decide) ?_
  refine rw_istore F dX12_isHeard_3 (by decide) rfl ?_
  exact WS.sub [2, 3, 4, 1, 0] rfl (b_X12_isHeard_b5 F  fuB _ _ _ _ hf)

abbrev rm_X12_deaf : Room := { frames := 3, cells := 0, slots := 0, locals := 74 }
abbrev FX_X12_deaf (a : Ax) (Z : Zx) (A : Nat → Prop) : Prop := FX a (XM Z) A cX12_deaf RX12 wsX12_deaf 4 (some .int) rm_X12_deaf
set_option maxHeartbeats 4000000 in
set_option maxRecDepth 100000 in
theorem b_X12_deaf_b40 {a : Ax} {Z : Zx} {A : Nat → Prop} {r : Int32} {f : Nat → Nat → Int32} (F : FX_X12_deaf a Z A) (K15 : Int32 → Int32 → Int32 → Option Int32) (hK15 : ∀ (i1 : Int32) (i2 : Int32) (i3 : Int32), K15 i1 i2 i3 = some r → WS a (XM Z) A 4 (RP a (XM Z) A (PI r f)) 15 [(0, .ref (Z.2.1 0)), (1, .int i1), (2, .int i2), (3, .int i3)] [] f) : ∀ (i1 : Int32) (i3 : Int32) (s0 : Int32) (s1 : Int32), f_X12_deaf_b40 K15 i1 i3 s0 s1 f = some r → WS a (XM Z) A 4 (RP a (XM Z) A (PI r f)) 40 [(0, .ref (Z.2.1 0)), (1, .int i1), (3, .int i3)] [.int s1, .int s0] f := by
  intro i1 i3 s0 s1 hf
  unfold f_X12_deaf_b40 at hf
  refine rw_ior F dX12_deaf_40 ?_
  refine rw_istore_n F dX12_deaf_41 rfl (by decide) rfl ?_
  refine rw_iinc F (v := 1) dX12_deaf_42 3 rfl (by decide) (by decide) rfl ?_
  refine rw_goto F (tgt := 15) dX12_deaf_45 (by decide) ?_
  exact WS.sub [2, 3, 1, 0] rfl (hK15 _ _ _ hf)

set_option maxHeartbeats 4000000 in
set_option maxRecDepth 100000 in
theorem b_X12_deaf_b15 {a : Ax} {Z : Zx} {A : Nat → Prop} {r : Int32} {f : Nat → Nat → Int32} (F : FX_X12_deaf a Z A) : ∀ (n : Nat) (i1 : Int32) (i2 : Int32) (i3 : Int32), f_X12_deaf_b15 n i1 i2 i3 f = some r → WS a (XM Z) A 4 (RP a (XM Z) A (PI r f)) 15 [(0, .ref (Z.2.1 0)), (1, .int i1), (2, .int i2), (3, .int i3)] [] f := by
  intro n
  induction n with
  | zero => intro i1 i2 i3 hf; exact nomatch (show (none : Option Int32) = some r from hf)
  | succ n hK15 =>
    intro i1 i2 i3 hf
    replace hf : f_X12_deaf_b15s (fun i1 i2 i3 => f_X12_deaf_b15 n i1 i2 i3 f) i1 i2 i3 f = some r := hf
    unfold f_X12_deaf_b15s at hf
    refine rw_iload_n F dX12_deaf_15 rfl 3 rfl ?_
    refine rw_aload_n F dX12_deaf_16 rfl 0 rfl ?_
    obtain ⟨q4, hq3, hf⟩ := bind_h hf
    refine rw_callVI F (k0 := 0) (nA := 0) (c_X12_places (aL a) Z  _ _ hq3) gX12_deaf_X12_places rfl ⟨rfl, rfl⟩ (by decide +kernel) ⟨Nat.le_of_ble_eq_true rfl, Nat.le_of_ble_eq_true rfl⟩ (show 0 < 20 by decide) (gM_0 Z _) rfl rfl rfl (Nat.le_of_ble_eq_true rfl) dX12_deaf_17 ?_
    refine rw_icmp_ge F (tgt := 48) hf dX12_deaf_20 (by decide) (fun hc8 hf => ?_) (fun hc8 hf => ?_)
    · refine rw_iload_n F dX12_deaf_48 rfl 2 rfl ?_
      exact rw_iret F hf rfl dX12_deaf_49
    · refine rw_iload_n F dX12_deaf_23 rfl 2 rfl ?_
      refine rw_aload_n F dX12_deaf_24 rfl 0 rfl ?_
      refine rw_iload_n F dX12_deaf_25 rfl 1 rfl ?_
      refine rw_iload_n F dX12_deaf_26 rfl 3 rfl ?_
      obtain ⟨q6, hq5, hf⟩ := bind_h hf
      refine rw_callVI F (k0 := 0) (nA := 2) (c_X12_isHeard (aL a) Z _ _ _ _ hq5) gX12_deaf_X12_isHeard rfl ⟨rfl, rfl⟩ (by decide +kernel) ⟨Nat.le_of_ble_eq_true rfl, Nat.le_of_ble_eq_true rfl⟩ (show 0 < 20 by decide) (gM_0 Z _) rfl rfl rfl (Nat.le_of_ble_eq_true rfl) dX12_deaf_27 ?_
      refine rw_if_eq F (tgt := 37) hf dX12_deaf_30 (by decide) (fun hc7 hf => ?_) (fun hc7 hf => ?_)
      · refine rw_iconst F (v := 1) dX12_deaf_37 (by decide) ?_
        refine rw_iload_n F dX12_deaf_38 rfl 3 rfl ?_
        refine rw_ishl F dX12_deaf_39 ?_
        exact WS.sub [0, 1, 3] rfl (b_X12_deaf_b40 F _ hK15 _ _ _ _ hf)
      · refine rw_iconst F (v := 0) dX12_deaf_33 (by decide) ?_
        refine rw_goto F (tgt := 40) dX12_deaf_34 (by decide) ?_
        exact WS.sub [0, 1, 3] rfl (b_X12_deaf_b40 F _ hK15 _ _ _ _ hf)

set_option maxHeartbeats 4000000 in
set_option maxRecDepth 100000 in
theorem c_X12_deaf (l : Launch) (Z : Zx) (p1 : Int32) (f : Nat → Nat → Int32) (r : Int32) (hf : f_X12_deaf p1 f = some r) : MS l (XM Z) yX12_deaf wsX12_deaf rm_X12_deaf [.ref (Z.2.1 0), .int p1] f (PI r f) := by
  refine MS.of (cc := cX12_deaf) (maxL := 4) (ret := (some .int)) (own := RX12) (lv := [(0, .ref (Z.2.1 0)), (1, .int p1)]) (by decide) rfl rfl (Nat.le_of_ble_eq_true rfl) rfl ?_
  intro a A hla F
  subst hla
  unfold f_X12_deaf at hf
  refine rw_aload_n F dX12_deaf_0 rfl 0 rfl ?_
  refine rw_iload_n F dX12_deaf_1 rfl 1 rfl ?_
  obtain ⟨q2, hq1, hf⟩ := bind_h hf
  refine rw_callVI F (k0 := 0) (nA := 1) (c_X12_isSound (aL a) Z _ _ _ hq1) gX12_deaf_X12_isSound rfl ⟨rfl, rfl⟩ (by decide +kernel) ⟨Nat.le_of_ble_eq_true rfl, Nat.le_of_ble_eq_true rfl⟩ (show 0 < 20 by decide) (gM_0 Z _) rfl rfl rfl (Nat.le_of_ble_eq_true rfl) dX12_deaf_2 ?_
  refine rw_if_ne F (tgt := 11) hf dX12_deaf_5 (by decide) (fun hc9 hf => ?_) (fun hc9 hf => ?_)
  · refine rw_iconst F (v := 0) dX12_deaf_11 (by decide) ?_
    refine rw_istore_n F dX12_deaf_12 rfl (by decide) rfl ?_
    refine rw_iconst F (v := 0) dX12_deaf_13 (by decide) ?_
    refine rw_istore_n F dX12_deaf_14 rfl (by decide) rfl ?_
    exact WS.sub [2, 3, 1, 0] rfl (b_X12_deaf_b15 F  fuB _ _ _ hf)
  · refine rw_ldc F (v := -1000000001) dX12_deaf_8 (by decide +kernel) ?_
    exact rw_iret F hf rfl dX12_deaf_10

abbrev rm_X12_allHeard : Room := { frames := 2, cells := 0, slots := 0, locals := 52 }
abbrev FX_X12_allHeard (a : Ax) (Z : Zx) (A : Nat → Prop) : Prop := FX a (XM Z) A cX12_allHeard RX12 wsX12_allHeard 7 (some .boolean) rm_X12_allHeard
set_option maxHeartbeats 4000000 in
set_option maxRecDepth 100000 in
theorem b_X12_allHeard_b48 {a : Ax} {Z : Zx} {A : Nat → Prop} {r : Int32} {f : Nat → Nat → Int32} (F : FX_X12_allHeard a Z A) (K6 : Int32 → Int32 → Int32 → Int32 → Int32 → Int32 → Option Int32) (hK6 : ∀ (i1 : Int32) (i2 : Int32) (i3 : Int32) (i4 : Int32) (i5 : Int32) (i6 : Int32), K6 i1 i2 i3 i4 i5 i6 = some r → WS a (XM Z) A 7 (RP a (XM Z) A (PI r f)) 6 [(0, .ref (Z.2.1 0)), (1, .int i1), (2, .int i2), (3, .int i3), (4, .int i4), (5, .int i5), (6, .int i6)] [] f) : ∀ (i1 : Int32) (i2 : Int32) (i3 : Int32) (i4 : Int32) (i6 : Int32) (s0 : Int32), f_X12_allHeard_b48 K6 i1 i2 i3 i4 i6 s0 f = some r → WS a (XM Z) A 7 (RP a (XM Z) A (PI r f)) 48 [(0, .ref (Z.2.1 0)), (1, .int i1), (2, .int i2), (3, .int i3), (4, .int i4), (6, .int i6)] [.int s0] f := by
  intro i1 i2 i3 i4 i6 s0 hf
  unfold f_X12_allHeard_b48 at hf
  refine rw_istore F dX12_allHeard_48 (by decide) rfl ?_
  refine rw_iinc F (v := 1) dX12_allHeard_50 6 rfl (by decide) (by decide) rfl ?_
  refine rw_goto F (tgt := 6) dX12_allHeard_53 (by decide) ?_
  exact WS.sub [2, 3, 4, 5, 6, 1, 0] rfl (hK6 _ _ _ _ _ _ hf)

set_option maxHeartbeats 4000000 in
set_option maxRecDepth 100000 in
theorem b_X12_allHeard_b47 {a : Ax} {Z : Zx} {A : Nat → Prop} {r : Int32} {f : Nat → Nat → Int32} (F : FX_X12_allHeard a Z A) (K6 : Int32 → Int32 → Int32 → Int32 → Int32 → Int32 → Option Int32) (hK6 : ∀ (i1 : Int32) (i2 : Int32) (i3 : Int32) (i4 : Int32) (i5 : Int32) (i6 : Int32), K6 i1 i2 i3 i4 i5 i6 = some r → WS a (XM Z) A 7 (RP a (XM Z) A (PI r f)) 6 [(0, .ref (Z.2.1 0)), (1, .int i1), (2, .int i2), (3, .int i3), (4, .int i4), (5, .int i5), (6, .int i6)] [] f) : ∀ (i1 : Int32) (i2 : Int32) (i3 : Int32) (i4 : Int32) (i6 : Int32), f_X12_allHeard_b47 K6 i1 i2 i3 i4 i6 f = some r → WS a (XM Z) A 7 (RP a (XM Z) A (PI r f)) 47 [(0, .ref (Z.2.1 0)), (1, .int i1), (2, .int i2), (3, .int i3), (4, .int i4), (6, .int i6)] [] f := by
  intro i1 i2 i3 i4 i6 hf
  unfold f_X12_allHeard_b47 at hf
  refine rw_iconst F (v := 0) dX12_allHeard_47 (by decide) ?_
  exact WS.sub [0, 1, 2, 3, 4, 5] rfl (b_X12_allHeard_b48 F _ hK6 _ _ _ _ _ _ hf)

set_option maxHeartbeats 4000000 in
set_option maxRecDepth 100000 in
theorem b_X12_allHeard_b43 {a : Ax} {Z : Zx} {A : Nat → Prop} {r : Int32} {f : Nat → Nat → Int32} (F : FX_X12_allHeard a Z A) (K6 : Int32 → Int32 → Int32 → Int32 → Int32 → Int32 → Option Int32) (hK6 : ∀ (i1 : Int32) (i2 : Int32) (i3 : Int32) (i4 : Int32) (i5 : Int32) (i6 : Int32), K6 i1 i2 i3 i4 i5 i6 = some r → WS a (XM Z) A 7 (RP a (XM Z) A (PI r f)) 6 [(0, .ref (Z.2.1 0)), (1, .int i1), (2, .int i2), (3, .int i3), (4, .int i4), (5, .int i5), (6, .int i6)] [] f) : ∀ (i1 : Int32) (i2 : Int32) (i3 : Int32) (i4 : Int32) (i6 : Int32), f_X12_allHeard_b43 K6 i1 i2 i3 i4 i6 f = some r → WS a (XM Z) A 7 (RP a (XM Z) A (PI r f)) 43 [(0, .ref (Z.2.1 0)), (1, .int i1), (2, .int i2), (3, .int i3), (4, .int i4), (6, .int i6)] [] f := by
  intro i1 i2 i3 i4 i6 hf
  unfold f_X12_allHeard_b43 at hf
  refine rw_iconst F (v := 1) dX12_allHeard_43 (by decide) ?_
  refine rw_goto F (tgt := 48) dX12_allHeard_44 (by decide) ?_
  exact WS.sub [0, 1, 2, 3, 4, 5] rfl (b_X12_allHeard_b48 F _ hK6 _ _ _ _ _ _ hf)

set_option maxHeartbeats 4000000 in
set_option maxRecDepth 100000 in
theorem b_X12_allHeard_b6 {a : Ax} {Z : Zx} {A : Nat → Prop} {r : Int32} {f : Nat → Nat → Int32} (F : FX_X12_allHeard a Z A) : ∀ (n : Nat) (i1 : Int32) (i2 : Int32) (i3 : Int32) (i4 : Int32) (i5 : Int32) (i6 : Int32), f_X12_allHeard_b6 n i1 i2 i3 i4 i5 i6 f = some r → WS a (XM Z) A 7 (RP a (XM Z) A (PI r f)) 6 [(0, .ref (Z.2.1 0)), (1, .int i1), (2, .int i2), (3, .int i3), (4, .int i4), (5, .int i5), (6, .int i6)] [] f := by
  intro n
  induction n with
  | zero => intro i1 i2 i3 i4 i5 i6 hf; exact nomatch (show (none : Option Int32) = some r from hf)
  | succ n hK6 =>
    intro i1 i2 i3 i4 i5 i6 hf
    replace hf : f_X12_allHeard_b6s (fun i1 i2 i3 i4 i5 i6 => f_X12_allHeard_b6 n i1 i2 i3 i4 i5 i6 f) i1 i2 i3 i4 i5 i6 f = some r := hf
    unfold f_X12_allHeard_b6s at hf
    refine rw_iload F dX12_allHeard_6 6 rfl ?_
    refine rw_aload_n F dX12_allHeard_8 rfl 0 rfl ?_
    obtain ⟨q2, hq1, hf⟩ := bind_h hf
    refine rw_callVI F (k0 := 0) (nA := 0) (c_X12_places (aL a) Z  _ _ hq1) gX12_allHeard_X12_places rfl ⟨rfl, rfl⟩ (by decide +kernel) ⟨Nat.le_of_ble_eq_true rfl, Nat.le_of_ble_eq_true rfl⟩ (show 0 < 20 by decide) (gM_0 Z _) rfl rfl rfl (Nat.le_of_ble_eq_true rfl) dX12_allHeard_9 ?_
    refine rw_icmp_ge F (tgt := 56) hf dX12_allHeard_12 (by decide) (fun hc10 hf => ?_) (fun hc10 hf => ?_)
    · refine rw_iload F dX12_allHeard_56 5 rfl ?_
      exact rw_zret F hf rfl dX12_allHeard_58
    · refine rw_iload F dX12_allHeard_15 5 rfl ?_
      refine rw_if_eq F (tgt := 47) hf dX12_allHeard_17 (by decide) (fun hc9 hf => ?_) (fun hc9 hf => ?_)
      · exact WS.sub [0, 1, 2, 3, 4, 6] rfl (b_X12_allHeard_b47 F _ hK6 _ _ _ _ _ hf)
      · refine rw_iload_n F dX12_allHeard_20 rfl 2 rfl ?_
        refine rw_iload F dX12_allHeard_21 6 rfl ?_
        obtain ⟨q4, hq3, hf⟩ := bind_h hf
        refine rw_callSI F (nA := 2) (c_X12_has (aL a) Z _ _ _ _ hq3) gX12_allHeard_X12_has rfl ⟨rfl, rfl⟩ (by decide +kernel) ⟨Nat.le_of_ble_eq_true rfl, Nat.le_of_ble_eq_true rfl⟩ rfl rfl (Nat.le_of_ble_eq_true rfl) dX12_allHeard_23 ?_
        refine rw_if_eq F (tgt := 43) hf dX12_allHeard_26 (by decide) (fun hc8 hf => ?_) (fun hc8 hf => ?_)
        · exact WS.sub [0, 1, 2, 3, 4, 6] rfl (b_X12_allHeard_b43 F _ hK6 _ _ _ _ _ hf)
        · refine rw_aload_n F dX12_allHeard_29 rfl 0 rfl ?_
          refine rw_iload_n F dX12_allHeard_30 rfl 1 rfl ?_
          refine rw_iload F dX12_allHeard_31 6 rfl ?_
          refine rw_iload_n F dX12_allHeard_33 rfl 3 rfl ?_
          obtain ⟨q6, hq5, hf⟩ := bind_h hf
          refine rw_callVI F (k0 := 0) (nA := 3) (c_X12_listenTo (aL a) Z _ _ _ _ _ hq5) gX12_allHeard_X12_listenTo rfl ⟨rfl, rfl⟩ (by decide +kernel) ⟨Nat.le_of_ble_eq_true rfl, Nat.le_of_ble_eq_true rfl⟩ (show 0 < 20 by decide) (gM_0 Z _) rfl rfl rfl (Nat.le_of_ble_eq_true rfl) dX12_allHeard_34 ?_
          refine rw_iload F dX12_allHeard_37 4 rfl ?_
          refine rw_iand F dX12_allHeard_39 ?_
          refine rw_if_eq F (tgt := 47) hf dX12_allHeard_40 (by decide) (fun hc7 hf => ?_) (fun hc7 hf => ?_)
          · exact WS.sub [0, 1, 2, 3, 4, 6] rfl (b_X12_allHeard_b47 F _ hK6 _ _ _ _ _ hf)
          · exact WS.sub [0, 1, 2, 3, 4, 6] rfl (b_X12_allHeard_b43 F _ hK6 _ _ _ _ _ hf)

set_option maxHeartbeats 4000000 in
set_option maxRecDepth 100000 in
theorem c_X12_allHeard (l : Launch) (Z : Zx) (p1 : Int32) (p2 : Int32) (p3 : Int32) (p4 : Int32) (f : Nat → Nat → Int32) (r : Int32) (hf : f_X12_allHeard p1 p2 p3 p4 f = some r) : MS l (XM Z) yX12_allHeard wsX12_allHeard rm_X12_allHeard [.ref (Z.2.1 0), .int p1, .int p2, .int p3, .int p4] f (PI r f) := by
  refine MS.of (cc := cX12_allHeard) (maxL := 7) (ret := (some .boolean)) (own := RX12) (lv := [(0, .ref (Z.2.1 0)), (1, .int p1), (2, .int p2), (3, .int p3), (4, .int p4)]) (by decide) rfl rfl (Nat.le_of_ble_eq_true rfl) rfl ?_
  intro a A hla F
  subst hla
  unfold f_X12_allHeard at hf
  refine rw_iconst F (v := 1) dX12_allHeard_0 (by decide) ?_
  refine rw_istore F dX12_allHeard_1 (by decide) rfl ?_
  refine rw_iconst F (v := 0) dX12_allHeard_3 (by decide) ?_
  refine rw_istore F dX12_allHeard_4 (by decide) rfl ?_
  exact WS.sub [2, 3, 4, 5, 6, 1, 0] rfl (b_X12_allHeard_b6 F  fuB _ _ _ _ _ _ hf)

abbrev rm_X12_ears : Room := { frames := 3, cells := 0, slots := 0, locals := 78 }
abbrev FX_X12_ears (a : Ax) (Z : Zx) (A : Nat → Prop) : Prop := FX a (XM Z) A cX12_ears RX12 wsX12_ears 7 (some .int) rm_X12_ears
set_option maxHeartbeats 4000000 in
set_option maxRecDepth 100000 in
theorem b_X12_ears_b16 {a : Ax} {Z : Zx} {A : Nat → Prop} {r : Int32} {f : Nat → Nat → Int32} (F : FX_X12_ears a Z A) : f_X12_ears_b16  f = some r → WS a (XM Z) A 7 (RP a (XM Z) A (PI r f)) 16 [] [] f := by
  intro  hf
  unfold f_X12_ears_b16 at hf
  refine rw_ldc F (v := -1000000001) dX12_ears_16 (by decide +kernel) ?_
  exact rw_iret F hf rfl dX12_ears_18

set_option maxHeartbeats 4000000 in
set_option maxRecDepth 100000 in
theorem b_X12_ears_b100 {a : Ax} {Z : Zx} {A : Nat → Prop} {r : Int32} {f : Nat → Nat → Int32} (F : FX_X12_ears a Z A) (K40 : Int32 → Int32 → Int32 → Int32 → Int32 → Option Int32) (hK40 : ∀ (i1 : Int32) (i2 : Int32) (i3 : Int32) (i4 : Int32) (i5 : Int32), K40 i1 i2 i3 i4 i5 = some r → WS a (XM Z) A 7 (RP a (XM Z) A (PI r f)) 40 [(0, .ref (Z.2.1 0)), (1, .int i1), (2, .int i2), (3, .int i3), (4, .int i4), (5, .int i5)] [] f) : ∀ (i1 : Int32) (i2 : Int32) (i3 : Int32) (i5 : Int32) (s0 : Int32), f_X12_ears_b100 K40 i1 i2 i3 i5 s0 f = some r → WS a (XM Z) A 7 (RP a (XM Z) A (PI r f)) 100 [(0, .ref (Z.2.1 0)), (1, .int i1), (2, .int i2), (3, .int i3), (5, .int i5)] [.int s0] f := by
  intro i1 i2 i3 i5 s0 hf
  unfold f_X12_ears_b100 at hf
  refine rw_istore F dX12_ears_100 (by decide) rfl ?_
  refine rw_iinc F (v := 1) dX12_ears_102 5 rfl (by decide) (by decide) rfl ?_
  refine rw_goto F (tgt := 40) dX12_ears_105 (by decide) ?_
  exact WS.sub [2, 3, 4, 5, 1, 0] rfl (hK40 _ _ _ _ _ hf)

set_option maxHeartbeats 4000000 in
set_option maxRecDepth 100000 in
theorem b_X12_ears_b98 {a : Ax} {Z : Zx} {A : Nat → Prop} {r : Int32} {f : Nat → Nat → Int32} (F : FX_X12_ears a Z A) (K40 : Int32 → Int32 → Int32 → Int32 → Int32 → Option Int32) (hK40 : ∀ (i1 : Int32) (i2 : Int32) (i3 : Int32) (i4 : Int32) (i5 : Int32), K40 i1 i2 i3 i4 i5 = some r → WS a (XM Z) A 7 (RP a (XM Z) A (PI r f)) 40 [(0, .ref (Z.2.1 0)), (1, .int i1), (2, .int i2), (3, .int i3), (4, .int i4), (5, .int i5)] [] f) : ∀ (i1 : Int32) (i2 : Int32) (i3 : Int32) (i4 : Int32) (i5 : Int32), f_X12_ears_b98 K40 i1 i2 i3 i4 i5 f = some r → WS a (XM Z) A 7 (RP a (XM Z) A (PI r f)) 98 [(0, .ref (Z.2.1 0)), (1, .int i1), (2, .int i2), (3, .int i3), (4, .int i4), (5, .int i5)] [] f := by
  intro i1 i2 i3 i4 i5 hf
  unfold f_X12_ears_b98 at hf
  refine rw_iload F dX12_ears_98 4 rfl ?_
  exact WS.sub [0, 1, 2, 3, 5] rfl (b_X12_ears_b100 F _ hK40 _ _ _ _ _ hf)

set_option maxHeartbeats 4000000 in
set_option maxRecDepth 100000 in
theorem b_X12_ears_b74 {a : Ax} {Z : Zx} {A : Nat → Prop} {r : Int32} {f : Nat → Nat → Int32} (F : FX_X12_ears a Z A) (K40 : Int32 → Int32 → Int32 → Int32 → Int32 → Option Int32) (hK40 : ∀ (i1 : Int32) (i2 : Int32) (i3 : Int32) (i4 : Int32) (i5 : Int32), K40 i1 i2 i3 i4 i5 = some r → WS a (XM Z) A 7 (RP a (XM Z) A (PI r f)) 40 [(0, .ref (Z.2.1 0)), (1, .int i1), (2, .int i2), (3, .int i3), (4, .int i4), (5, .int i5)] [] f) : ∀ (i1 : Int32) (i2 : Int32) (i3 : Int32) (i4 : Int32) (i5 : Int32) (s0 : Int32), f_X12_ears_b74 K40 i1 i2 i3 i4 i5 s0 f = some r → WS a (XM Z) A 7 (RP a (XM Z) A (PI r f)) 74 [(0, .ref (Z.2.1 0)), (1, .int i1), (2, .int i2), (3, .int i3), (4, .int i4), (5, .int i5)] [.int s0] f := by
  intro i1 i2 i3 i4 i5 s0 hf
  unfold f_X12_ears_b74 at hf
  refine rw_istore F dX12_ears_74 (by decide) rfl ?_
  refine rw_iload F dX12_ears_76 0 rfl ?_
  refine rw_if_eq F (tgt := 98) hf dX12_ears_78 (by decide) (fun hc12 hf => ?_) (fun hc12 hf => ?_)
  · exact WS.sub [1, 2, 3, 4, 5, 6] rfl (b_X12_ears_b98 F _ hK40 _ _ _ _ _ hf)
  · refine rw_aload_n F dX12_ears_81 rfl 1 rfl ?_
    refine rw_iload_n F dX12_ears_82 rfl 2 rfl ?_
    refine rw_iload_n F dX12_ears_83 rfl 3 rfl ?_
    refine rw_iload_n F dX12_ears_84 rfl 4 rfl ?_
    refine rw_iload F dX12_ears_85 6 rfl ?_
    obtain ⟨q10, hq9, hf⟩ := bind_h hf
    refine rw_callVI F (k0 := 0) (nA := 4) (c_X12_allHeard (aL a) Z _ _ _ _ _ _ hq9) gX12_ears_X12_allHeard rfl ⟨rfl, rfl⟩ (by decide +kernel) ⟨Nat.le_of_ble_eq_true rfl, Nat.le_of_ble_eq_true rfl⟩ (show 0 < 20 by decide) (gM_0 Z _) rfl rfl rfl (Nat.le_of_ble_eq_true rfl) dX12_ears_87 ?_
    refine rw_if_eq F (tgt := 98) hf dX12_ears_90 (by decide) (fun hc11 hf => ?_) (fun hc11 hf => ?_)
    · exact WS.sub [1, 2, 3, 4, 5, 6] rfl (b_X12_ears_b98 F _ hK40 _ _ _ _ _ hf)
    · refine rw_iload F dX12_ears_93 6 rfl ?_
      refine rw_goto F (tgt := 100) dX12_ears_95 (by decide) ?_
      exact WS.sub [1, 2, 3, 4, 6] rfl (b_X12_ears_b100 F _ hK40 _ _ _ _ _ hf)

set_option maxHeartbeats 4000000 in
set_option maxRecDepth 100000 in
theorem b_X12_ears_b69 {a : Ax} {Z : Zx} {A : Nat → Prop} {r : Int32} {f : Nat → Nat → Int32} (F : FX_X12_ears a Z A) (K40 : Int32 → Int32 → Int32 → Int32 → Int32 → Option Int32) (hK40 : ∀ (i1 : Int32) (i2 : Int32) (i3 : Int32) (i4 : Int32) (i5 : Int32), K40 i1 i2 i3 i4 i5 = some r → WS a (XM Z) A 7 (RP a (XM Z) A (PI r f)) 40 [(0, .ref (Z.2.1 0)), (1, .int i1), (2, .int i2), (3, .int i3), (4, .int i4), (5, .int i5)] [] f) : ∀ (i1 : Int32) (i2 : Int32) (i3 : Int32) (i4 : Int32) (i5 : Int32), f_X12_ears_b69 K40 i1 i2 i3 i4 i5 f = some r → WS a (XM Z) A 7 (RP a (XM Z) A (PI r f)) 69 [(0, .ref (Z.2.1 0)), (1, .int i1), (2, .int i2), (3, .int i3), (4, .int i4), (5, .int i5)] [] f := by
  intro i1 i2 i3 i4 i5 hf
  unfold f_X12_ears_b69 at hf
  refine rw_iconst F (v := 1) dX12_ears_69 (by decide) ?_
  refine rw_goto F (tgt := 74) dX12_ears_70 (by decide) ?_
  exact WS.sub [0, 1, 2, 3, 4, 5] rfl (b_X12_ears_b74 F _ hK40 _ _ _ _ _ _ hf)

set_option maxHeartbeats 4000000 in
set_option maxRecDepth 100000 in
theorem b_X12_ears_b40 {a : Ax} {Z : Zx} {A : Nat → Prop} {r : Int32} {f : Nat → Nat → Int32} (F : FX_X12_ears a Z A) : ∀ (n : Nat) (i1 : Int32) (i2 : Int32) (i3 : Int32) (i4 : Int32) (i5 : Int32), f_X12_ears_b40 n i1 i2 i3 i4 i5 f = some r → WS a (XM Z) A 7 (RP a (XM Z) A (PI r f)) 40 [(0, .ref (Z.2.1 0)), (1, .int i1), (2, .int i2), (3, .int i3), (4, .int i4), (5, .int i5)] [] f := by
  intro n
  induction n with
  | zero => intro i1 i2 i3 i4 i5 hf; exact nomatch (show (none : Option Int32) = some r from hf)
  | succ n hK40 =>
    intro i1 i2 i3 i4 i5 hf
    replace hf : f_X12_ears_b40s (fun i1 i2 i3 i4 i5 => f_X12_ears_b40 n i1 i2 i3 i4 i5 f) i1 i2 i3 i4 i5 f = some r := hf
    unfold f_X12_ears_b40s at hf
    refine rw_iload F dX12_ears_40 5 rfl ?_
    refine rw_iconst F (v := 1) dX12_ears_42 (by decide) ?_
    refine rw_aload_n F dX12_ears_43 rfl 0 rfl ?_
    obtain ⟨q8, hq7, hf⟩ := bind_h hf
    refine rw_callVI F (k0 := 0) (nA := 0) (c_X12_places (aL a) Z  _ _ hq7) gX12_ears_X12_places rfl ⟨rfl, rfl⟩ (by decide +kernel) ⟨Nat.le_of_ble_eq_true rfl, Nat.le_of_ble_eq_true rfl⟩ (show 0 < 20 by decide) (gM_0 Z _) rfl rfl rfl (Nat.le_of_ble_eq_true rfl) dX12_ears_44 ?_
    refine rw_ishl F dX12_ears_47 ?_
    refine rw_icmp_ge F (tgt := 108) hf dX12_ears_48 (by decide) (fun hc19 hf => ?_) (fun hc19 hf => ?_)
    · refine rw_iload F dX12_ears_108 4 rfl ?_
      exact rw_iret F hf rfl dX12_ears_110
    · refine rw_iload F dX12_ears_51 4 rfl ?_
      refine rw_if_lt F (tgt := 69) hf dX12_ears_53 (by decide) (fun hc18 hf => ?_) (fun hc18 hf => ?_)
      · exact WS.sub [0, 1, 2, 3, 4, 5] rfl (b_X12_ears_b69 F _ hK40 _ _ _ _ _ hf)
      · refine rw_iload F dX12_ears_56 5 rfl ?_
        obtain ⟨q14, hq13, hf⟩ := bind_h hf
        refine rw_callSI F (nA := 1) (c_X12_bits (aL a) Z _ _ _ hq13) gX12_ears_X12_bits rfl ⟨rfl, rfl⟩ (by decide +kernel) ⟨Nat.le_of_ble_eq_true rfl, Nat.le_of_ble_eq_true rfl⟩ rfl rfl (Nat.le_of_ble_eq_true rfl) dX12_ears_58 ?_
        refine rw_iload F dX12_ears_61 4 rfl ?_
        obtain ⟨q16, hq15, hf⟩ := bind_h hf
        refine rw_callSI F (nA := 1) (c_X12_bits (aL a) Z _ _ _ hq15) gX12_ears_X12_bits rfl ⟨rfl, rfl⟩ (by decide +kernel) ⟨Nat.le_of_ble_eq_true rfl, Nat.le_of_ble_eq_true rfl⟩ rfl rfl (Nat.le_of_ble_eq_true rfl) dX12_ears_63 ?_
        refine rw_icmp_ge F (tgt := 73) hf dX12_ears_66 (by decide) (fun hc17 hf => ?_) (fun hc17 hf => ?_)
        · refine rw_iconst F (v := 0) dX12_ears_73 (by decide) ?_
          exact WS.sub [0, 1, 2, 3, 4, 5] rfl (b_X12_ears_b74 F _ hK40 _ _ _ _ _ _ hf)
        · exact WS.sub [0, 1, 2, 3, 4, 5] rfl (b_X12_ears_b69 F _ hK40 _ _ _ _ _ hf)

set_option maxHeartbeats 4000000 in
set_option maxRecDepth 100000 in
theorem c_X12_ears (l : Launch) (Z : Zx) (p1 : Int32) (p2 : Int32) (p3 : Int32) (f : Nat → Nat → Int32) (r : Int32) (hf : f_X12_ears p1 p2 p3 f = some r) : MS l (XM Z) yX12_ears wsX12_ears rm_X12_ears [.ref (Z.2.1 0), .int p1, .int p2, .int p3] f (PI r f) := by
  refine MS.of (cc := cX12_ears) (maxL := 7) (ret := (some .int)) (own := RX12) (lv := [(0, .ref (Z.2.1 0)), (1, .int p1), (2, .int p2), (3, .int p3)]) (by decide) rfl rfl (Nat.le_of_ble_eq_true rfl) rfl ?_
  intro a A hla F
  subst hla
  unfold f_X12_ears at hf
  refine rw_aload_n F dX12_ears_0 rfl 0 rfl ?_
  refine rw_iload_n F dX12_ears_1 rfl 1 rfl ?_
  obtain ⟨q2, hq1, hf⟩ := bind_h hf
  refine rw_callVI F (k0 := 0) (nA := 1) (c_X12_isSound (aL a) Z _ _ _ hq1) gX12_ears_X12_isSound rfl ⟨rfl, rfl⟩ (by decide +kernel) ⟨Nat.le_of_ble_eq_true rfl, Nat.le_of_ble_eq_true rfl⟩ (show 0 < 20 by decide) (gM_0 Z _) rfl rfl rfl (Nat.le_of_ble_eq_true rfl) dX12_ears_2 ?_
  refine rw_if_eq F (tgt := 16) hf dX12_ears_5 (by decide) (fun hc22 hf => ?_) (fun hc22 hf => ?_)
  · exact WS.sub [] rfl (b_X12_ears_b16 F   hf)
  · refine rw_aload_n F dX12_ears_8 rfl 0 rfl ?_
    refine rw_iload_n F dX12_ears_9 rfl 2 rfl ?_
    obtain ⟨q4, hq3, hf⟩ := bind_h hf
    refine rw_callVI F (k0 := 0) (nA := 1) (c_X12_isPlaces (aL a) Z _ _ _ hq3) gX12_ears_X12_isPlaces rfl ⟨rfl, rfl⟩ (by decide +kernel) ⟨Nat.le_of_ble_eq_true rfl, Nat.le_of_ble_eq_true rfl⟩ (show 0 < 20 by decide) (gM_0 Z _) rfl rfl rfl (Nat.le_of_ble_eq_true rfl) dX12_ears_10 ?_
    refine rw_if_ne F (tgt := 19) hf dX12_ears_13 (by decide) (fun hc21 hf => ?_) (fun hc21 hf => ?_)
    · refine rw_iload_n F dX12_ears_19 rfl 3 rfl ?_
      refine rw_i2l F dX12_ears_20 ?_
      refine rw_lconst F (v := 0) dX12_ears_21 (by decide) ?_
      refine rw_ldc2 F (v := 30) dX12_ears_22 (by decide +kernel) ?_
      obtain ⟨q6, hq5, hf⟩ := bind_h hf
      refine rw_callSI F (nA := 3) (c_X12_in (aL a) Z _ _ _ _ _ hq5) gX12_ears_X12_in rfl ⟨rfl, rfl⟩ (by decide +kernel) ⟨Nat.le_of_ble_eq_true rfl, Nat.le_of_ble_eq_true rfl⟩ rfl rfl (Nat.le_of_ble_eq_true rfl) dX12_ears_25 ?_
      refine rw_if_ne F (tgt := 34) hf dX12_ears_28 (by decide) (fun hc20 hf => ?_) (fun hc20 hf => ?_)
      · refine rw_iconst F (v := -1) dX12_ears_34 (by decide) ?_
        refine rw_istore F dX12_ears_35 (by decide) rfl ?_
        refine rw_iconst F (v := 0) dX12_ears_37 (by decide) ?_
        refine rw_istore F dX12_ears_38 (by decide) rfl ?_
        exact WS.sub [2, 3, 4, 5, 1, 0] rfl (b_X12_ears_b40 F  fuB _ _ _ _ _ hf)
      · refine rw_ldc F (v := -1000000002) dX12_ears_31 (by decide +kernel) ?_
        exact rw_iret F hf rfl dX12_ears_33
    · exact WS.sub [] rfl (b_X12_ears_b16 F   hf)

abbrev rm_X12_areAlike : Room := { frames := 3, cells := 0, slots := 0, locals := 73 }
abbrev FX_X12_areAlike (a : Ax) (Z : Zx) (A : Nat → Prop) : Prop := FX a (XM Z) A cX12_areAlike RX12 wsX12_areAlike 6 (some .boolean) rm_X12_areAlike
theorem iw_X12_areAlike_X12 : ∀ w ∈ wsX120, w ∈ wsX12_areAlike := by decide +kernel
theorem lk_X12_areAlike_89 : Cond.fieldLink RX12 89 (TX12 4).1 (TX12 4).2.1 (TX12 4).2.2.1 ∈ wsX12_areAlike := by decide +kernel
set_option maxHeartbeats 4000000 in
set_option maxRecDepth 100000 in
theorem b_X12_areAlike_b44 {a : Ax} {Z : Zx} {A : Nat → Prop} {r : Int32} {f : Nat → Nat → Int32} (F : FX_X12_areAlike a Z A) (K6 : Int32 → Int32 → Int32 → Int32 → Int32 → Option Int32) (hK6 : ∀ (i1 : Int32) (i2 : Int32) (i3 : Int32) (i4 : Int32) (i5 : Int32), K6 i1 i2 i3 i4 i5 = some r → WS a (XM Z) A 6 (RP a (XM Z) A (PI r f)) 6 [(0, .ref (Z.2.1 0)), (1, .int i1), (2, .int i2), (3, .int i3), (4, .int i4), (5, .int i5)] [] f) : ∀ (i1 : Int32) (i2 : Int32) (i3 : Int32) (i5 : Int32) (s0 : Int32), f_X12_areAlike_b44 K6 i1 i2 i3 i5 s0 f = some r → WS a (XM Z) A 6 (RP a (XM Z) A (PI r f)) 44 [(0, .ref (Z.2.1 0)), (1, .int i1), (2, .int i2), (3, .int i3), (5, .int i5)] [.int s0] f := by
  intro i1 i2 i3 i5 s0 hf
  unfold f_X12_areAlike_b44 at hf
  refine rw_istore F dX12_areAlike_44 (by decide) rfl ?_
  refine rw_iinc F (v := 1) dX12_areAlike_46 5 rfl (by decide) (by decide) rfl ?_
  refine rw_goto F (tgt := 6) dX12_areAlike_49 (by decide) ?_
  exact WS.sub [2, 3, 4, 5, 1, 0] rfl (hK6 _ _ _ _ _ hf)

set_option maxHeartbeats 4000000 in
set_option maxRecDepth 100000 in
theorem b_X12_areAlike_b43 {a : Ax} {Z : Zx} {A : Nat → Prop} {r : Int32} {f : Nat → Nat → Int32} (F : FX_X12_areAlike a Z A) (K6 : Int32 → Int32 → Int32 → Int32 → Int32 → Option Int32) (hK6 : ∀ (i1 : Int32) (i2 : Int32) (i3 : Int32) (i4 : Int32) (i5 : Int32), K6 i1 i2 i3 i4 i5 = some r → WS a (XM Z) A 6 (RP a (XM Z) A (PI r f)) 6 [(0, .ref (Z.2.1 0)), (1, .int i1), (2, .int i2), (3, .int i3), (4, .int i4), (5, .int i5)] [] f) : ∀ (i1 : Int32) (i2 : Int32) (i3 : Int32) (i5 : Int32), f_X12_areAlike_b43 K6 i1 i2 i3 i5 f = some r → WS a (XM Z) A 6 (RP a (XM Z) A (PI r f)) 43 [(0, .ref (Z.2.1 0)), (1, .int i1), (2, .int i2), (3, .int i3), (5, .int i5)] [] f := by
  intro i1 i2 i3 i5 hf
  unfold f_X12_areAlike_b43 at hf
  refine rw_iconst F (v := 0) dX12_areAlike_43 (by decide) ?_
  exact WS.sub [0, 1, 2, 3, 4] rfl (b_X12_areAlike_b44 F _ hK6 _ _ _ _ _ hf)

set_option maxHeartbeats 4000000 in
set_option maxRecDepth 100000 in
theorem b_X12_areAlike_b6 {a : Ax} {Z : Zx} {A : Nat → Prop} {r : Int32} {f : Nat → Nat → Int32} (F : FX_X12_areAlike a Z A) : ∀ (n : Nat) (i1 : Int32) (i2 : Int32) (i3 : Int32) (i4 : Int32) (i5 : Int32), f_X12_areAlike_b6 n i1 i2 i3 i4 i5 f = some r → WS a (XM Z) A 6 (RP a (XM Z) A (PI r f)) 6 [(0, .ref (Z.2.1 0)), (1, .int i1), (2, .int i2), (3, .int i3), (4, .int i4), (5, .int i5)] [] f := by
  intro n
  induction n with
  | zero => intro i1 i2 i3 i4 i5 hf; exact nomatch (show (none : Option Int32) = some r from hf)
  | succ n hK6 =>
    intro i1 i2 i3 i4 i5 hf
    replace hf : f_X12_areAlike_b6s (fun i1 i2 i3 i4 i5 => f_X12_areAlike_b6 n i1 i2 i3 i4 i5 f) i1 i2 i3 i4 i5 f = some r := hf
    unfold f_X12_areAlike_b6s at hf
    refine rw_iload F dX12_areAlike_6 5 rfl ?_
    refine rw_aload_n F dX12_areAlike_8 rfl 0 rfl ?_
    refine rw_get F 0 (show 0 < 20 by decide) (gM_0 Z _) iw_X12_areAlike_X12 rfl 4 (by decide) lk_X12_areAlike_89 rfl dX12_areAlike_9 ?_
    refine rw_icmp_ge F (tgt := 52) hf dX12_areAlike_12 (by decide) (fun hc7 hf => ?_) (fun hc7 hf => ?_)
    · refine rw_iload F dX12_areAlike_52 4 rfl ?_
      exact rw_zret F hf rfl dX12_areAlike_54
    · refine rw_iload F dX12_areAlike_15 4 rfl ?_
      refine rw_if_eq F (tgt := 43) hf dX12_areAlike_17 (by decide) (fun hc6 hf => ?_) (fun hc6 hf => ?_)
      · exact WS.sub [0, 1, 2, 3, 5] rfl (b_X12_areAlike_b43 F _ hK6 _ _ _ _ hf)
      · refine rw_aload_n F dX12_areAlike_20 rfl 0 rfl ?_
        refine rw_iload F dX12_areAlike_21 5 rfl ?_
        refine rw_iload_n F dX12_areAlike_23 rfl 1 rfl ?_
        refine rw_iload_n F dX12_areAlike_24 rfl 3 rfl ?_
        obtain ⟨q2, hq1, hf⟩ := bind_h hf
        refine rw_callVI F (k0 := 0) (nA := 3) (c_X12_sayingOf (aL a) Z _ _ _ _ _ hq1) gX12_areAlike_X12_sayingOf rfl ⟨rfl, rfl⟩ (by decide +kernel) ⟨Nat.le_of_ble_eq_true rfl, Nat.le_of_ble_eq_true rfl⟩ (show 0 < 20 by decide) (gM_0 Z _) rfl rfl rfl (Nat.le_of_ble_eq_true rfl) dX12_areAlike_25 ?_
        refine rw_aload_n F dX12_areAlike_28 rfl 0 rfl ?_
        refine rw_iload F dX12_areAlike_29 5 rfl ?_
        refine rw_iload_n F dX12_areAlike_31 rfl 2 rfl ?_
        refine rw_iload_n F dX12_areAlike_32 rfl 3 rfl ?_
        obtain ⟨q4, hq3, hf⟩ := bind_h hf
        refine rw_callVI F (k0 := 0) (nA := 3) (c_X12_sayingOf (aL a) Z _ _ _ _ _ hq3) gX12_areAlike_X12_sayingOf rfl ⟨rfl, rfl⟩ (by decide +kernel) ⟨Nat.le_of_ble_eq_true rfl, Nat.le_of_ble_eq_true rfl⟩ (show 0 < 20 by decide) (gM_0 Z _) rfl rfl rfl (Nat.le_of_ble_eq_true rfl) dX12_areAlike_33 ?_
        refine rw_icmp_ne F (tgt := 43) hf dX12_areAlike_36 (by decide) (fun hc5 hf => ?_) (fun hc5 hf => ?_)
        · exact WS.sub [0, 1, 2, 3, 5] rfl (b_X12_areAlike_b43 F _ hK6 _ _ _ _ hf)
        · refine rw_iconst F (v := 1) dX12_areAlike_39 (by decide) ?_
          refine rw_goto F (tgt := 44) dX12_areAlike_40 (by decide) ?_
          exact WS.sub [0, 1, 2, 3, 5] rfl (b_X12_areAlike_b44 F _ hK6 _ _ _ _ _ hf)

set_option maxHeartbeats 4000000 in
set_option maxRecDepth 100000 in
theorem c_X12_areAlike (l : Launch) (Z : Zx) (p1 : Int32) (p2 : Int32) (p3 : Int32) (f : Nat → Nat → Int32) (r : Int32) (hf : f_X12_areAlike p1 p2 p3 f = some r) : MS l (XM Z) yX12_areAlike wsX12_areAlike rm_X12_areAlike [.ref (Z.2.1 0), .int p1, .int p2, .int p3] f (PI r f) := by
  refine MS.of (cc := cX12_areAlike) (maxL := 6) (ret := (some .boolean)) (own := RX12) (lv := [(0, .ref (Z.2.1 0)), (1, .int p1), (2, .int p2), (3, .int p3)]) (by decide) rfl rfl (Nat.le_of_ble_eq_true rfl) rfl ?_
  intro a A hla F
  subst hla
  unfold f_X12_areAlike at hf
  refine rw_iconst F (v := 1) dX12_areAlike_0 (by decide) ?_
  refine rw_istore F dX12_areAlike_1 (by decide) rfl ?_
  refine rw_iconst F (v := 0) dX12_areAlike_3 (by decide) ?_
  refine rw_istore F dX12_areAlike_4 (by decide) rfl ?_
  exact WS.sub [2, 3, 4, 5, 1, 0] rfl (b_X12_areAlike_b6 F  fuB _ _ _ _ _ hf)

abbrev rm_X12_alike : Room := { frames := 4, cells := 0, slots := 0, locals := 98 }
abbrev FX_X12_alike (a : Ax) (Z : Zx) (A : Nat → Prop) : Prop := FX a (XM Z) A cX12_alike RX12 wsX12_alike 7 (some .int) rm_X12_alike
theorem iw_X12_alike_X12 : ∀ w ∈ wsX120, w ∈ wsX12_alike := by decide +kernel
theorem lk_X12_alike_86 : Cond.fieldLink RX12 86 (TX12 1).1 (TX12 1).2.1 (TX12 1).2.2.1 ∈ wsX12_alike := by decide +kernel
set_option maxHeartbeats 4000000 in
set_option maxRecDepth 100000 in
theorem b_X12_alike_b82 {a : Ax} {Z : Zx} {A : Nat → Prop} {r : Int32} {f : Nat → Nat → Int32} (F : FX_X12_alike a Z A) (K16 : Int32 → Int32 → Int32 → Int32 → Option Int32) (hK16 : ∀ (i1 : Int32) (i2 : Int32) (i3 : Int32) (i4 : Int32), K16 i1 i2 i3 i4 = some r → WS a (XM Z) A 7 (RP a (XM Z) A (PI r f)) 16 [(0, .ref (Z.2.1 0)), (1, .int i1), (2, .int i2), (3, .int i3), (4, .int i4)] [] f) : ∀ (i1 : Int32) (i2 : Int32) (i3 : Int32) (i4 : Int32), f_X12_alike_b82 K16 i1 i2 i3 i4 f = some r → WS a (XM Z) A 7 (RP a (XM Z) A (PI r f)) 82 [(0, .ref (Z.2.1 0)), (1, .int i1), (2, .int i2), (3, .int i3), (4, .int i4)] [] f := by
  intro i1 i2 i3 i4 hf
  unfold f_X12_alike_b82 at hf
  refine rw_iinc F (v := 1) dX12_alike_82 4 rfl (by decide) (by decide) rfl ?_
  refine rw_goto F (tgt := 16) dX12_alike_85 (by decide) ?_
  exact WS.sub [1, 2, 3, 4, 0] rfl (hK16 _ _ _ _ hf)

set_option maxHeartbeats 4000000 in
set_option maxRecDepth 100000 in
theorem b_X12_alike_b16 {a : Ax} {Z : Zx} {A : Nat → Prop} {r : Int32} {f : Nat → Nat → Int32} (F : FX_X12_alike a Z A) : ∀ (n : Nat) (i1 : Int32) (i2 : Int32) (i3 : Int32) (i4 : Int32), f_X12_alike_b16 n i1 i2 i3 i4 f = some r → WS a (XM Z) A 7 (RP a (XM Z) A (PI r f)) 16 [(0, .ref (Z.2.1 0)), (1, .int i1), (2, .int i2), (3, .int i3), (4, .int i4)] [] f := by
  intro n
  induction n with
  | zero => intro i1 i2 i3 i4 hf; exact nomatch (show (none : Option Int32) = some r from hf)
  | succ n hK16 =>
    intro i1 i2 i3 i4 hf
    replace hf : f_X12_alike_b16s (fun i1 i2 i3 i4 => f_X12_alike_b16 n i1 i2 i3 i4 f) i1 i2 i3 i4 f = some r := hf
    unfold f_X12_alike_b16s at hf
    refine rw_iload F dX12_alike_16 4 rfl ?_
    refine rw_bipush F (v := 36) dX12_alike_18 (by decide) ?_
    refine rw_icmp_ge F (tgt := 88) hf dX12_alike_20 (by decide) (fun hc10 hf => ?_) (fun hc10 hf => ?_)
    · refine rw_iload_n F dX12_alike_88 rfl 2 rfl ?_
      refine rw_iconst F (v := -1) dX12_alike_89 (by decide) ?_
      refine rw_icmp_ne F (tgt := 97) hf dX12_alike_90 (by decide) (fun hc3 hf => ?_) (fun hc3 hf => ?_)
      · refine rw_iconst F (v := -1) dX12_alike_97 (by decide) ?_
        exact rw_iret F hf rfl dX12_alike_98
      · refine rw_iload_n F dX12_alike_93 rfl 3 rfl ?_
        refine rw_goto F (tgt := 98) dX12_alike_94 (by decide) ?_
        exact rw_iret F hf rfl dX12_alike_98
    · refine rw_iload F dX12_alike_23 4 rfl ?_
      refine rw_bipush F (v := 6) dX12_alike_25 (by decide) ?_
      refine rw_idiv F dX12_alike_27 (by decide) ?_
      refine rw_istore F dX12_alike_28 (by decide) rfl ?_
      refine rw_iload F dX12_alike_30 5 rfl ?_
      refine rw_bipush F (v := 6) dX12_alike_32 (by decide) ?_
      refine rw_irem F dX12_alike_34 (by decide) ?_
      refine rw_istore F dX12_alike_35 (by decide) rfl ?_
      refine rw_iload F dX12_alike_37 1 rfl ?_
      refine rw_iload F dX12_alike_39 0 rfl ?_
      refine rw_icmp_ge F (tgt := 82) hf dX12_alike_41 (by decide) (fun hc9 hf => ?_) (fun hc9 hf => ?_)
      · exact WS.sub [2, 3, 4, 5, 6] rfl (b_X12_alike_b82 F _ hK16 _ _ _ _ hf)
      · refine rw_iload F dX12_alike_44 0 rfl ?_
        refine rw_aload_n F dX12_alike_46 rfl 2 rfl ?_
        refine rw_get F 0 (show 0 < 20 by decide) (gM_0 Z _) iw_X12_alike_X12 rfl 1 (by decide) lk_X12_alike_86 rfl dX12_alike_47 ?_
        refine rw_icmp_ge F (tgt := 82) hf dX12_alike_50 (by decide) (fun hc8 hf => ?_) (fun hc8 hf => ?_)
        · exact WS.sub [2, 3, 4, 5, 6] rfl (b_X12_alike_b82 F _ hK16 _ _ _ _ hf)
        · refine rw_aload_n F dX12_alike_53 rfl 2 rfl ?_
          refine rw_iload F dX12_alike_54 1 rfl ?_
          refine rw_iload F dX12_alike_56 0 rfl ?_
          refine rw_iload_n F dX12_alike_58 rfl 3 rfl ?_
          obtain ⟨q5, hq4, hf⟩ := bind_h hf
          refine rw_callVI F (k0 := 0) (nA := 3) (c_X12_areAlike (aL a) Z _ _ _ _ _ hq4) gX12_alike_X12_areAlike rfl ⟨rfl, rfl⟩ (by decide +kernel) ⟨Nat.le_of_ble_eq_true rfl, Nat.le_of_ble_eq_true rfl⟩ (show 0 < 20 by decide) (gM_0 Z _) rfl rfl rfl (Nat.le_of_ble_eq_true rfl) dX12_alike_59 ?_
          refine rw_if_eq F (tgt := 82) hf dX12_alike_62 (by decide) (fun hc7 hf => ?_) (fun hc7 hf => ?_)
          · exact WS.sub [2, 3, 4, 5, 6] rfl (b_X12_alike_b82 F _ hK16 _ _ _ _ hf)
          · refine rw_iload_n F dX12_alike_65 rfl 5 rfl ?_
            refine rw_iload_n F dX12_alike_66 rfl 4 rfl ?_
            refine rw_icmp_ne F (tgt := 79) hf dX12_alike_67 (by decide) (fun hc6 hf => ?_) (fun hc6 hf => ?_)
            · refine rw_iinc F (v := 1) dX12_alike_79 5 rfl (by decide) (by decide) rfl ?_
              exact WS.sub [3, 4, 5, 0, 6] rfl (b_X12_alike_b82 F _ hK16 _ _ _ _ hf)
            · refine rw_bipush F (v := 10) dX12_alike_70 (by decide) ?_
              refine rw_iload F dX12_alike_72 1 rfl ?_
              refine rw_imul F dX12_alike_74 ?_
              refine rw_iload F dX12_alike_75 0 rfl ?_
              refine rw_iadd F dX12_alike_77 ?_
              exact rw_iret F hf rfl dX12_alike_78

set_option maxHeartbeats 4000000 in
set_option maxRecDepth 100000 in
theorem c_X12_alike (l : Launch) (Z : Zx) (p1 : Int32) (p2 : Int32) (f : Nat → Nat → Int32) (r : Int32) (hf : f_X12_alike p1 p2 f = some r) : MS l (XM Z) yX12_alike wsX12_alike rm_X12_alike [.ref (Z.2.1 0), .int p1, .int p2] f (PI r f) := by
  refine MS.of (cc := cX12_alike) (maxL := 7) (ret := (some .int)) (own := RX12) (lv := [(0, .ref (Z.2.1 0)), (1, .int p1), (2, .int p2)]) (by decide) rfl rfl (Nat.le_of_ble_eq_true rfl) rfl ?_
  intro a A hla F
  subst hla
  unfold f_X12_alike at hf
  refine rw_aload_n F dX12_alike_0 rfl 0 rfl ?_
  refine rw_iload_n F dX12_alike_1 rfl 1 rfl ?_
  obtain ⟨q2, hq1, hf⟩ := bind_h hf
  refine rw_callVI F (k0 := 0) (nA := 1) (c_X12_isPlace (aL a) Z _ _ _ hq1) gX12_alike_X12_isPlace rfl ⟨rfl, rfl⟩ (by decide +kernel) ⟨Nat.le_of_ble_eq_true rfl, Nat.le_of_ble_eq_true rfl⟩ (show 0 < 20 by decide) (gM_0 Z _) rfl rfl rfl (Nat.le_of_ble_eq_true rfl) dX12_alike_2 ?_
  refine rw_if_ne F (tgt := 11) hf dX12_alike_5 (by decide) (fun hc11 hf => ?_) (fun hc11 hf => ?_)
  · refine rw_iconst F (v := 0) dX12_alike_11 (by decide) ?_
    refine rw_istore_n F dX12_alike_12 rfl (by decide) rfl ?_
    refine rw_iconst F (v := 0) dX12_alike_13 (by decide) ?_
    refine rw_istore F dX12_alike_14 (by decide) rfl ?_
    exact WS.sub [2, 3, 4, 1, 0] rfl (b_X12_alike_b16 F  fuB _ _ _ _ hf)
  · refine rw_ldc F (v := -1000000001) dX12_alike_8 (by decide +kernel) ?_
    exact rw_iret F hf rfl dX12_alike_10

abbrev rm_X12_hides : Room := { frames := 3, cells := 0, slots := 0, locals := 74 }
abbrev FX_X12_hides (a : Ax) (Z : Zx) (A : Nat → Prop) : Prop := FX a (XM Z) A cX12_hides RX12 wsX12_hides 7 (some .int) rm_X12_hides
theorem iw_X12_hides_X12 : ∀ w ∈ wsX120, w ∈ wsX12_hides := by decide +kernel
theorem lk_X12_hides_22 : Cond.fieldLink RX12 22 (TX12 7).1 (TX12 7).2.1 (TX12 7).2.2.1 ∈ wsX12_hides := by decide +kernel
theorem lk_X12_hides_75 : Cond.fieldLink RX12 75 (TX12 0).1 (TX12 0).2.1 (TX12 0).2.2.1 ∈ wsX12_hides := by decide +kernel
set_option maxHeartbeats 4000000 in
set_option maxRecDepth 100000 in
theorem b_X12_hides_b32 {a : Ax} {Z : Zx} {A : Nat → Prop} {r : (Int32 × (Nat → Nat → Int32))} (F : FX_X12_hides a Z A) : ∀ (f : Nat → Nat → Int32), f_X12_hides_b32  f = some r → WS a (XM Z) A 7 (RP a (XM Z) A (PI r.1 r.2)) 32 [] [] f := by
  intro  f hf
  unfold f_X12_hides_b32 at hf
  refine rw_ldc F (v := -1000000001) dX12_hides_32 (by decide +kernel) ?_
  exact rw_iretS F hf rfl dX12_hides_34

set_option maxHeartbeats 4000000 in
set_option maxRecDepth 100000 in
theorem b_X12_hides_b79 {a : Ax} {Z : Zx} {A : Nat → Prop} {r : (Int32 × (Nat → Nat → Int32))} (F : FX_X12_hides a Z A) (K50 : Int32 → Int32 → Int32 → Int32 → Int32 → Int32 → (Nat → Nat → Int32) → Option (Int32 × (Nat → Nat → Int32))) (hK50 : ∀ (i1 : Int32) (i2 : Int32) (i3 : Int32) (i4 : Int32) (i5 : Int32) (i6 : Int32) (f : Nat → Nat → Int32), K50 i1 i2 i3 i4 i5 i6 f = some r → WS a (XM Z) A 7 (RP a (XM Z) A (PI r.1 r.2)) 50 [(0, .ref (Z.2.1 0)), (1, .int i1), (2, .int i2), (3, .int i3), (4, .int i4), (5, .int i5), (6, .int i6)] [] f) : ∀ (i1 : Int32) (i2 : Int32) (i3 : Int32) (i4 : Int32) (i6 : Int32) (s0 : Int32) (f : Nat → Nat → Int32), f_X12_hides_b79 K50 i1 i2 i3 i4 i6 s0 f = some r → WS a (XM Z) A 7 (RP a (XM Z) A (PI r.1 r.2)) 79 [(0, .ref (Z.2.1 0)), (1, .int i1), (2, .int i2), (3, .int i3), (4, .int i4), (6, .int i6)] [.int s0] f := by
  intro i1 i2 i3 i4 i6 s0 f hf
  unfold f_X12_hides_b79 at hf
  refine rw_istore F dX12_hides_79 (by decide) rfl ?_
  refine rw_iinc F (v := -1) dX12_hides_81 6 rfl (by decide) (by decide) rfl ?_
  refine rw_goto F (tgt := 50) dX12_hides_84 (by decide) ?_
  exact WS.sub [2, 3, 4, 5, 6, 1, 0] rfl (hK50 _ _ _ _ _ _ _ hf)

set_option maxHeartbeats 4000000 in
set_option maxRecDepth 100000 in
theorem b_X12_hides_b50 {a : Ax} {Z : Zx} {A : Nat → Prop} {r : (Int32 × (Nat → Nat → Int32))} (F : FX_X12_hides a Z A) : ∀ (n : Nat) (i1 : Int32) (i2 : Int32) (i3 : Int32) (i4 : Int32) (i5 : Int32) (i6 : Int32) (f : Nat → Nat → Int32), f_X12_hides_b50 n i1 i2 i3 i4 i5 i6 f = some r → WS a (XM Z) A 7 (RP a (XM Z) A (PI r.1 r.2)) 50 [(0, .ref (Z.2.1 0)), (1, .int i1), (2, .int i2), (3, .int i3), (4, .int i4), (5, .int i5), (6, .int i6)] [] f := by
  intro n
  induction n with
  | zero => intro i1 i2 i3 i4 i5 i6 f hf; exact nomatch (show (none : Option (Int32 × (Nat → Nat → Int32))) = some r from hf)
  | succ n hK50 =>
    intro i1 i2 i3 i4 i5 i6 f hf
    replace hf : f_X12_hides_b50s (f_X12_hides_b50 n) i1 i2 i3 i4 i5 i6 f = some r := hf
    unfold f_X12_hides_b50s at hf
    refine rw_iload F dX12_hides_50 6 rfl ?_
    refine rw_if_lt F (tgt := 87) hf dX12_hides_52 (by decide) (fun hc13 hf => ?_) (fun hc13 hf => ?_)
    · refine rw_aload_n F dX12_hides_87 rfl 0 rfl ?_
      refine rw_get F 0 (show 0 < 20 by decide) (gM_0 Z _) iw_X12_hides_X12 rfl 7 (by decide) lk_X12_hides_22 rfl dX12_hides_88 ?_
      refine rw_iload_n F dX12_hides_91 rfl 1 rfl ?_
      refine rw_iload F dX12_hides_92 4 rfl ?_
      obtain ⟨hi8, hf⟩ := ck_h hf
      refine rw_iast F 5 (show 5 < 20 by decide) (gM_5 Z) 0 rfl hi8 dX12_hides_94 ?_
      refine rw_iload F dX12_hides_95 5 rfl ?_
      exact rw_iretS F hf rfl dX12_hides_97
    · refine rw_aload_n F dX12_hides_55 rfl 0 rfl ?_
      refine rw_get F 0 (show 0 < 20 by decide) (gM_0 Z _) iw_X12_hides_X12 rfl 7 (by decide) lk_X12_hides_22 rfl dX12_hides_56 ?_
      refine rw_iload_n F dX12_hides_59 rfl 1 rfl ?_
      refine rw_iload F dX12_hides_60 6 rfl ?_
      obtain ⟨hi9, hf⟩ := ck_h hf
      refine rw_iast F 5 (show 5 < 20 by decide) (gM_5 Z) 0 rfl hi9 dX12_hides_62 ?_
      refine rw_aload_n F dX12_hides_63 rfl 0 rfl ?_
      refine rw_iload_n F dX12_hides_64 rfl 2 rfl ?_
      refine rw_iload_n F dX12_hides_65 rfl 3 rfl ?_
      obtain ⟨q11, hq10, hf⟩ := bind_h hf
      refine rw_callVI F (k0 := 0) (nA := 2) (c_X12_isHeard (aL a) Z _ _ _ _ hq10) gX12_hides_X12_isHeard rfl ⟨rfl, rfl⟩ (by decide +kernel) ⟨Nat.le_of_ble_eq_true rfl, Nat.le_of_ble_eq_true rfl⟩ (show 0 < 20 by decide) (gM_0 Z _) rfl rfl rfl (Nat.le_of_ble_eq_true rfl) dX12_hides_66 ?_
      refine rw_if_eq F (tgt := 77) hf dX12_hides_69 (by decide) (fun hc12 hf => ?_) (fun hc12 hf => ?_)
      · refine rw_iload F dX12_hides_77 6 rfl ?_
        exact WS.sub [0, 1, 2, 3, 4, 6] rfl (b_X12_hides_b79 F _ hK50 _ _ _ _ _ _ _ hf)
      · refine rw_iload F dX12_hides_72 5 rfl ?_
        refine rw_goto F (tgt := 79) dX12_hides_74 (by decide) ?_
        exact WS.sub [0, 1, 2, 3, 4, 6] rfl (b_X12_hides_b79 F _ hK50 _ _ _ _ _ _ _ hf)

set_option maxHeartbeats 4000000 in
set_option maxRecDepth 100000 in
theorem c_X12_hides (l : Launch) (Z : Zx) (p1 : Int32) (p2 : Int32) (p3 : Int32) (f : Nat → Nat → Int32) (r : (Int32 × (Nat → Nat → Int32))) (hf : f_X12_hides p1 p2 p3 f = some r) : MS l (XM Z) yX12_hides wsX12_hides rm_X12_hides [.ref (Z.2.1 0), .int p1, .int p2, .int p3] f (PI r.1 r.2) := by
  refine MS.of (cc := cX12_hides) (maxL := 7) (ret := (some .int)) (own := RX12) (lv := [(0, .ref (Z.2.1 0)), (1, .int p1), (2, .int p2), (3, .int p3)]) (by decide) rfl rfl (Nat.le_of_ble_eq_true rfl) rfl ?_
  intro a A hla F
  subst hla
  unfold f_X12_hides at hf
  refine rw_iload_n F dX12_hides_0 rfl 1 rfl ?_
  refine rw_i2l F dX12_hides_1 ?_
  refine rw_lconst F (v := 0) dX12_hides_2 (by decide) ?_
  refine rw_aload_n F dX12_hides_3 rfl 0 rfl ?_
  refine rw_get F 0 (show 0 < 20 by decide) (gM_0 Z _) iw_X12_hides_X12 rfl 0 (by decide) lk_X12_hides_75 rfl dX12_hides_4 ?_
  refine rw_iconst F (v := 1) dX12_hides_7 (by decide) ?_
  refine rw_isub F dX12_hides_8 ?_
  refine rw_i2l F dX12_hides_9 ?_
  obtain ⟨q2, hq1, hf⟩ := bind_h hf
  refine rw_callSI F (nA := 3) (c_X12_in (aL a) Z _ _ _ _ _ hq1) gX12_hides_X12_in rfl ⟨rfl, rfl⟩ (by decide +kernel) ⟨Nat.le_of_ble_eq_true rfl, Nat.le_of_ble_eq_true rfl⟩ rfl rfl (Nat.le_of_ble_eq_true rfl) dX12_hides_10 ?_
  refine rw_if_eq F (tgt := 32) hf dX12_hides_13 (by decide) (fun hc16 hf => ?_) (fun hc16 hf => ?_)
  · exact WS.sub [] rfl (b_X12_hides_b32 F  _ hf)
  · refine rw_aload_n F dX12_hides_16 rfl 0 rfl ?_
    refine rw_iload_n F dX12_hides_17 rfl 2 rfl ?_
    obtain ⟨q4, hq3, hf⟩ := bind_h hf
    refine rw_callVI F (k0 := 0) (nA := 1) (c_X12_isSound (aL a) Z _ _ _ hq3) gX12_hides_X12_isSound rfl ⟨rfl, rfl⟩ (by decide +kernel) ⟨Nat.le_of_ble_eq_true rfl, Nat.le_of_ble_eq_true rfl⟩ (show 0 < 20 by decide) (gM_0 Z _) rfl rfl rfl (Nat.le_of_ble_eq_true rfl) dX12_hides_18 ?_
    refine rw_if_eq F (tgt := 32) hf dX12_hides_21 (by decide) (fun hc15 hf => ?_) (fun hc15 hf => ?_)
    · exact WS.sub [] rfl (b_X12_hides_b32 F  _ hf)
    · refine rw_aload_n F dX12_hides_24 rfl 0 rfl ?_
      refine rw_iload_n F dX12_hides_25 rfl 3 rfl ?_
      obtain ⟨q6, hq5, hf⟩ := bind_h hf
      refine rw_callVI F (k0 := 0) (nA := 1) (c_X12_isPlace (aL a) Z _ _ _ hq5) gX12_hides_X12_isPlace rfl ⟨rfl, rfl⟩ (by decide +kernel) ⟨Nat.le_of_ble_eq_true rfl, Nat.le_of_ble_eq_true rfl⟩ (show 0 < 20 by decide) (gM_0 Z _) rfl rfl rfl (Nat.le_of_ble_eq_true rfl) dX12_hides_26 ?_
      refine rw_if_ne F (tgt := 35) hf dX12_hides_29 (by decide) (fun hc14 hf => ?_) (fun hc14 hf => ?_)
      · refine rw_aload_n F dX12_hides_35 rfl 0 rfl ?_
        refine rw_get F 0 (show 0 < 20 by decide) (gM_0 Z _) iw_X12_hides_X12 rfl 7 (by decide) lk_X12_hides_22 rfl dX12_hides_36 ?_
        refine rw_iload_n F dX12_hides_39 rfl 1 rfl ?_
        obtain ⟨hi7, hf⟩ := ck_h hf
        refine rw_iald F 5 (show 5 < 20 by decide) (gM_5 Z _) 0 rfl hi7 dX12_hides_40 ?_
        refine rw_istore F dX12_hides_41 (by decide) rfl ?_
        refine rw_iconst F (v := -1) dX12_hides_43 (by decide) ?_
        refine rw_istore F dX12_hides_44 (by decide) rfl ?_
        refine rw_bipush F (v := 99) dX12_hides_46 (by decide) ?_
        refine rw_istore F dX12_hides_48 (by decide) rfl ?_
        exact WS.sub [3, 4, 5, 6, 2, 1, 0] rfl (b_X12_hides_b50 F  fuB _ _ _ _ _ _ _ hf)
      · exact WS.sub [] rfl (b_X12_hides_b32 F  _ hf)

abbrev rm_X12_midwife : Room := { frames := 1, cells := 0, slots := 0, locals := 25 }
abbrev FX_X12_midwife (a : Ax) (Z : Zx) (A : Nat → Prop) : Prop := FX a (XM Z) A cX12_midwife RX12 wsX12_midwife 10 (some .int) rm_X12_midwife
set_option maxHeartbeats 4000000 in
set_option maxRecDepth 100000 in
theorem b_X12_midwife_b50 {a : Ax} {Z : Zx} {A : Nat → Prop} {r : Int32} {f : Nat → Nat → Int32} (F : FX_X12_midwife a Z A) : f_X12_midwife_b50  f = some r → WS a (XM Z) A 10 (RP a (XM Z) A (PI r f)) 50 [] [] f := by
  intro  hf
  unfold f_X12_midwife_b50 at hf
  refine rw_ldc F (v := -1000000002) dX12_midwife_50 (by decide +kernel) ?_
  exact rw_iret F hf rfl dX12_midwife_52

set_option maxHeartbeats 4000000 in
set_option maxRecDepth 100000 in
theorem b_X12_midwife_b100 {a : Ax} {Z : Zx} {A : Nat → Prop} {r : Int32} {f : Nat → Nat → Int32} (F : FX_X12_midwife a Z A) : ∀ (i1 : Int32) (s0 : Int32), f_X12_midwife_b100 i1 s0 f = some r → WS a (XM Z) A 10 (RP a (XM Z) A (PI r f)) 100 [(1, .int i1)] [.int s0] f := by
  intro i1 s0 hf
  unfold f_X12_midwife_b100 at hf
  refine rw_istore F dX12_midwife_100 (by decide) rfl ?_
  refine rw_iload_n F dX12_midwife_102 rfl 1 rfl ?_
  refine rw_iload F dX12_midwife_103 0 rfl ?_
  refine rw_icmp_ne F (tgt := 112) hf dX12_midwife_105 (by decide) (fun hc9 hf => ?_) (fun hc9 hf => ?_)
  · refine rw_iconst F (v := 1) dX12_midwife_112 (by decide) ?_
    exact rw_iret F hf rfl dX12_midwife_113
  · refine rw_iconst F (v := 0) dX12_midwife_108 (by decide) ?_
    refine rw_goto F (tgt := 113) dX12_midwife_109 (by decide) ?_
    exact rw_iret F hf rfl dX12_midwife_113

set_option maxHeartbeats 4000000 in
set_option maxRecDepth 100000 in
theorem b_X12_midwife_b83 {a : Ax} {Z : Zx} {A : Nat → Prop} {r : Int32} {f : Nat → Nat → Int32} (F : FX_X12_midwife a Z A) : ∀ (i1 : Int32) (i6 : Int32) (i7 : Int32) (s0 : Int32), f_X12_midwife_b83 i1 i6 i7 s0 f = some r → WS a (XM Z) A 10 (RP a (XM Z) A (PI r f)) 83 [(1, .int i1), (6, .int i6), (7, .int i7)] [.int s0] f := by
  intro i1 i6 i7 s0 hf
  unfold f_X12_midwife_b83 at hf
  refine rw_iload F dX12_midwife_83 1 rfl ?_
  refine rw_isub F dX12_midwife_85 ?_
  refine rw_istore F dX12_midwife_86 (by decide) rfl ?_
  refine rw_iload F dX12_midwife_88 0 rfl ?_
  refine rw_iload F dX12_midwife_90 3 rfl ?_
  refine rw_icmp_le F (tgt := 99) hf dX12_midwife_92 (by decide) (fun hc10 hf => ?_) (fun hc10 hf => ?_)
  · refine rw_iconst F (v := 0) dX12_midwife_99 (by decide) ?_
    exact WS.sub [1] rfl (b_X12_midwife_b100 F  _ _ hf)
  · refine rw_iconst F (v := 1) dX12_midwife_95 (by decide) ?_
    refine rw_goto F (tgt := 100) dX12_midwife_96 (by decide) ?_
    exact WS.sub [1] rfl (b_X12_midwife_b100 F  _ _ hf)

set_option maxHeartbeats 4000000 in
set_option maxRecDepth 100000 in
theorem b_X12_midwife_b72 {a : Ax} {Z : Zx} {A : Nat → Prop} {r : Int32} {f : Nat → Nat → Int32} (F : FX_X12_midwife a Z A) : ∀ (i1 : Int32) (i2 : Int32) (i3 : Int32) (i6 : Int32) (s0 : Int32), f_X12_midwife_b72 i1 i2 i3 i6 s0 f = some r → WS a (XM Z) A 10 (RP a (XM Z) A (PI r f)) 72 [(1, .int i1), (2, .int i2), (3, .int i3), (6, .int i6)] [.int s0] f := by
  intro i1 i2 i3 i6 s0 hf
  unfold f_X12_midwife_b72 at hf
  refine rw_istore F dX12_midwife_72 (by decide) rfl ?_
  refine rw_iload_n F dX12_midwife_74 rfl 1 rfl ?_
  refine rw_if_eq F (tgt := 82) hf dX12_midwife_75 (by decide) (fun hc11 hf => ?_) (fun hc11 hf => ?_)
  · refine rw_iload_n F dX12_midwife_82 rfl 2 rfl ?_
    exact WS.sub [1, 4, 0] rfl (b_X12_midwife_b83 F  _ _ _ _ hf)
  · refine rw_iload_n F dX12_midwife_78 rfl 3 rfl ?_
    refine rw_goto F (tgt := 83) dX12_midwife_79 (by decide) ?_
    exact WS.sub [1, 4, 0] rfl (b_X12_midwife_b83 F  _ _ _ _ hf)

set_option maxHeartbeats 4000000 in
set_option maxRecDepth 100000 in
theorem c_X12_midwife (l : Launch) (Z : Zx) (p1 : Int32) (p2 : Int32) (p3 : Int32) (p4 : Int32) (p5 : Int32) (f : Nat → Nat → Int32) (r : Int32) (hf : f_X12_midwife p1 p2 p3 p4 p5 f = some r) : MS l (XM Z) yX12_midwife wsX12_midwife rm_X12_midwife [.ref (Z.2.1 0), .int p1, .int p2, .int p3, .int p4, .int p5] f (PI r f) := by
  refine MS.of (cc := cX12_midwife) (maxL := 10) (ret := (some .int)) (own := RX12) (lv := [(0, .ref (Z.2.1 0)), (1, .int p1), (2, .int p2), (3, .int p3), (4, .int p4), (5, .int p5)]) (by decide) rfl rfl (Nat.le_of_ble_eq_true rfl) rfl ?_
  intro a A hla F
  subst hla
  unfold f_X12_midwife at hf
  refine rw_iload_n F dX12_midwife_0 rfl 2 rfl ?_
  refine rw_i2l F dX12_midwife_1 ?_
  refine rw_lconst F (v := 0) dX12_midwife_2 (by decide) ?_
  refine rw_ldc2 F (v := 9999) dX12_midwife_3 (by decide +kernel) ?_
  obtain ⟨q2, hq1, hf⟩ := bind_h hf
  refine rw_callSI F (nA := 3) (c_X12_in (aL a) Z _ _ _ _ _ hq1) gX12_midwife_X12_in rfl ⟨rfl, rfl⟩ (by decide +kernel) ⟨Nat.le_of_ble_eq_true rfl, Nat.le_of_ble_eq_true rfl⟩ rfl rfl (Nat.le_of_ble_eq_true rfl) dX12_midwife_6 ?_
  refine rw_if_eq F (tgt := 50) hf dX12_midwife_9 (by decide) (fun hc16 hf => ?_) (fun hc16 hf => ?_)
  · exact WS.sub [] rfl (b_X12_midwife_b50 F   hf)
  · refine rw_iload_n F dX12_midwife_12 rfl 3 rfl ?_
    refine rw_i2l F dX12_midwife_13 ?_
    refine rw_lconst F (v := 0) dX12_midwife_14 (by decide) ?_
    refine rw_ldc2 F (v := 9999) dX12_midwife_15 (by decide +kernel) ?_
    obtain ⟨q4, hq3, hf⟩ := bind_h hf
    refine rw_callSI F (nA := 3) (c_X12_in (aL a) Z _ _ _ _ _ hq3) gX12_midwife_X12_in rfl ⟨rfl, rfl⟩ (by decide +kernel) ⟨Nat.le_of_ble_eq_true rfl, Nat.le_of_ble_eq_true rfl⟩ rfl rfl (Nat.le_of_ble_eq_true rfl) dX12_midwife_18 ?_
    refine rw_if_eq F (tgt := 50) hf dX12_midwife_21 (by decide) (fun hc15 hf => ?_) (fun hc15 hf => ?_)
    · exact WS.sub [] rfl (b_X12_midwife_b50 F   hf)
    · refine rw_iload F dX12_midwife_24 4 rfl ?_
      refine rw_i2l F dX12_midwife_26 ?_
      refine rw_lconst F (v := 0) dX12_midwife_27 (by decide) ?_
      refine rw_ldc2 F (v := 9999) dX12_midwife_28 (by decide +kernel) ?_
      obtain ⟨q6, hq5, hf⟩ := bind_h hf
      refine rw_callSI F (nA := 3) (c_X12_in (aL a) Z _ _ _ _ _ hq5) gX12_midwife_X12_in rfl ⟨rfl, rfl⟩ (by decide +kernel) ⟨Nat.le_of_ble_eq_true rfl, Nat.le_of_ble_eq_true rfl⟩ rfl rfl (Nat.le_of_ble_eq_true rfl) dX12_midwife_31 ?_
      refine rw_if_eq F (tgt := 50) hf dX12_midwife_34 (by decide) (fun hc14 hf => ?_) (fun hc14 hf => ?_)
      · exact WS.sub [] rfl (b_X12_midwife_b50 F   hf)
      · refine rw_iload F dX12_midwife_37 5 rfl ?_
        refine rw_i2l F dX12_midwife_39 ?_
        refine rw_lconst F (v := 0) dX12_midwife_40 (by decide) ?_
        refine rw_ldc2 F (v := 100) dX12_midwife_41 (by decide +kernel) ?_
        obtain ⟨q8, hq7, hf⟩ := bind_h hf
        refine rw_callSI F (nA := 3) (c_X12_in (aL a) Z _ _ _ _ _ hq7) gX12_midwife_X12_in rfl ⟨rfl, rfl⟩ (by decide +kernel) ⟨Nat.le_of_ble_eq_true rfl, Nat.le_of_ble_eq_true rfl⟩ rfl rfl (Nat.le_of_ble_eq_true rfl) dX12_midwife_44 ?_
        refine rw_if_ne F (tgt := 53) hf dX12_midwife_47 (by decide) (fun hc13 hf => ?_) (fun hc13 hf => ?_)
        · refine rw_iload F dX12_midwife_53 4 rfl ?_
          refine rw_iload F dX12_midwife_55 5 rfl ?_
          refine rw_imul F dX12_midwife_57 ?_
          refine rw_bipush F (v := 100) dX12_midwife_58 (by decide) ?_
          refine rw_idiv F dX12_midwife_60 (by decide) ?_
          refine rw_istore F dX12_midwife_61 (by decide) rfl ?_
          refine rw_iload_n F dX12_midwife_63 rfl 2 rfl ?_
          refine rw_if_eq F (tgt := 71) hf dX12_midwife_64 (by decide) (fun hc12 hf => ?_) (fun hc12 hf => ?_)
          · refine rw_iload_n F dX12_midwife_71 rfl 4 rfl ?_
            exact WS.sub [2, 3, 4, 0] rfl (b_X12_midwife_b72 F  _ _ _ _ _ hf)
          · refine rw_iload_n F dX12_midwife_67 rfl 3 rfl ?_
            refine rw_goto F (tgt := 72) dX12_midwife_68 (by decide) ?_
            exact WS.sub [2, 3, 4, 0] rfl (b_X12_midwife_b72 F  _ _ _ _ _ hf)
        · exact WS.sub [] rfl (b_X12_midwife_b50 F   hf)

