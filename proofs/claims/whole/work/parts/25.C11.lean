abbrev rm_X11_births : Room := { frames := 6, cells := 0, slots := 0, locals := 142 }
abbrev FX_X11_births (a : Ax) (Z : Zx) (A : Nat → Prop) : Prop := FX a (XC Z) A cX11_births RX11 wsX11_births 2 (some .int) rm_X11_births
theorem iw_X11_births_X1 : ∀ w ∈ wsX10, w ∈ wsX11_births := by decide +kernel
theorem iw_X11_births_X11 : ∀ w ∈ wsX110, w ∈ wsX11_births := by decide +kernel
theorem lk_X11_births_19 : Cond.fieldLink RX11 19 (TX11 1).1 (TX11 1).2.1 (TX11 1).2.2.1 ∈ wsX11_births := by decide +kernel
theorem lk_X11_births_75 : Cond.fieldLink RX11 75 (TX11 9).1 (TX11 9).2.1 (TX11 9).2.2.1 ∈ wsX11_births := by decide +kernel
theorem lk_X11_births_248 : Cond.fieldLink RX11 248 (TX1 6).1 (TX1 6).2.1 (TX1 6).2.2.1 ∈ wsX11_births := by decide +kernel
set_option maxHeartbeats 4000000 in
set_option maxRecDepth 100000 in
theorem c_X11_births (l : Launch) (Z : Zx) (p1 : Int32) (f : Nat → Nat → Int32) (r : (Int32 × (Nat → Nat → Int32))) (hf : f_X11_births p1 f = some r) : MS l (XC Z) yX11_births wsX11_births rm_X11_births [.ref (Z.2.1 0), .int p1] f (PI r.1 r.2) := by
  refine MS.of (cc := cX11_births) (maxL := 2) (ret := (some .int)) (own := RX11) (lv := [(0, .ref (Z.2.1 0)), (1, .int p1)]) (by decide) rfl rfl (Nat.le_of_ble_eq_true rfl) rfl ?_
  intro a A hla F
  subst hla
  unfold f_X11_births at hf
  refine rw_aload_n F dX11_births_0 rfl 0 rfl ?_
  refine rw_get F 0 (show 0 < 39 by decide) (gC_0 Z _) iw_X11_births_X11 rfl 1 (by decide) lk_X11_births_19 rfl dX11_births_1 ?_
  obtain ⟨q2, hq1, hf⟩ := bind_h hf
  refine rw_callVI F (k0 := 3) (nA := 0) (c_X5_stands_3 (aL a) Z  _ _ hq1) gX11_births_X5_stands rfl ⟨rfl, rfl⟩ (by decide +kernel) ⟨Nat.le_of_ble_eq_true rfl, Nat.le_of_ble_eq_true rfl⟩ (show 3 < 39 by decide) (gC_3 Z _) rfl rfl rfl (Nat.le_of_ble_eq_true rfl) dX11_births_4 ?_
  refine rw_if_ne F (tgt := 13) hf dX11_births_7 (by decide) (fun hc8 hf => ?_) (fun hc8 hf => ?_)
  · refine rw_aload_n F dX11_births_13 rfl 0 rfl ?_
    refine rw_get F 0 (show 0 < 39 by decide) (gC_0 Z _) iw_X11_births_X11 rfl 9 (by decide) lk_X11_births_75 rfl dX11_births_14 ?_
    obtain ⟨q4, hq3, hf⟩ := bind_h hf
    refine rw_callVV F (k0 := 32) (nA := 0) (c_X1_gatherBirths_32 (aL a) Z  _ _ hq3) gX11_births_X1_gatherBirths rfl ⟨rfl, rfl⟩ (by decide +kernel) ⟨Nat.le_of_ble_eq_true rfl, Nat.le_of_ble_eq_true rfl⟩ (show 32 < 39 by decide) (gC_32 Z _) rfl rfl rfl (Nat.le_of_ble_eq_true rfl) dX11_births_17 ?_
    refine rw_iload_n F dX11_births_20 rfl 1 rfl ?_
    refine rw_iconst F (v := -1) dX11_births_21 (by decide) ?_
    refine rw_icmp_ne F (tgt := 33) hf dX11_births_22 (by decide) (fun hc7 hf => ?_) (fun hc7 hf => ?_)
    · refine rw_aload_n F dX11_births_33 rfl 0 rfl ?_
      refine rw_get F 0 (show 0 < 39 by decide) (gC_0 Z _) iw_X11_births_X11 rfl 9 (by decide) lk_X11_births_75 rfl dX11_births_34 ?_
      refine rw_iload_n F dX11_births_37 rfl 1 rfl ?_
      obtain ⟨q6, hq5, hf⟩ := bind_h hf
      refine rw_callVI F (k0 := 32) (nA := 1) (c_X1_birthAt_32 (aL a) Z _ _ _ hq5) gX11_births_X1_birthAt rfl ⟨rfl, rfl⟩ (by decide +kernel) ⟨Nat.le_of_ble_eq_true rfl, Nat.le_of_ble_eq_true rfl⟩ (show 32 < 39 by decide) (gC_32 Z _) rfl rfl rfl (Nat.le_of_ble_eq_true rfl) dX11_births_38 ?_
      exact rw_iretS F hf rfl dX11_births_41
    · refine rw_aload_n F dX11_births_25 rfl 0 rfl ?_
      refine rw_get F 0 (show 0 < 39 by decide) (gC_0 Z _) iw_X11_births_X11 rfl 9 (by decide) lk_X11_births_75 rfl dX11_births_26 ?_
      refine rw_get F 32 (show 32 < 39 by decide) (gC_32 Z _) iw_X11_births_X1 rfl 6 (by decide) lk_X11_births_248 rfl dX11_births_29 ?_
      exact rw_iretS F hf rfl dX11_births_32
  · refine rw_ldc F (v := -1000000003) dX11_births_10 (by decide +kernel) ?_
    exact rw_iretS F hf rfl dX11_births_12

abbrev rm_X5_isPair_3 : Room := { frames := 2, cells := 0, slots := 0, locals := 41 }
abbrev FX_X5_isPair_3 (a : Ax) (Z : Zx) (A : Nat → Prop) : Prop := FX a (XC Z) A cX5_isPair RX5 wsX5_isPair 2 (some .boolean) rm_X5_isPair_3
set_option maxHeartbeats 4000000 in
set_option maxRecDepth 100000 in
theorem b_X5_isPair_3_b32 {a : Ax} {Z : Zx} {A : Nat → Prop} {r : Int32} {f : Nat → Nat → Int32} (F : FX_X5_isPair_3 a Z A) : f_X5_isPair_3_b32  f = some r → WS a (XC Z) A 2 (RP a (XC Z) A (PI r f)) 32 [] [] f := by
  intro  hf
  unfold f_X5_isPair_3_b32 at hf
  refine rw_iconst F (v := 1) dX5_isPair_32 (by decide) ?_
  refine rw_goto F (tgt := 37) dX5_isPair_33 (by decide) ?_
  exact rw_zretZ F (by decide) hf rfl dX5_isPair_37

set_option maxHeartbeats 4000000 in
set_option maxRecDepth 100000 in
theorem c_X5_isPair_3 (l : Launch) (Z : Zx) (p1 : Int32) (f : Nat → Nat → Int32) (r : Int32) (hf : f_X5_isPair_3 p1 f = some r) : MS l (XC Z) yX5_isPair wsX5_isPair rm_X5_isPair_3 [.ref (Z.2.1 3), .int p1] f (PI r f) := by
  refine MS.of (cc := cX5_isPair) (maxL := 2) (ret := (some .boolean)) (own := RX5) (lv := [(0, .ref (Z.2.1 3)), (1, .int p1)]) (by decide) rfl rfl (Nat.le_of_ble_eq_true rfl) rfl ?_
  intro a A hla F
  subst hla
  unfold f_X5_isPair_3 at hf
  refine rw_iload_n F dX5_isPair_0 rfl 1 rfl ?_
  refine rw_bipush F (v := 100) dX5_isPair_1 (by decide) ?_
  refine rw_icmp_eq F (tgt := 32) hf dX5_isPair_3 (by decide) (fun hc8 hf => ?_) (fun hc8 hf => ?_)
  · exact WS.sub [] rfl (b_X5_isPair_3_b32 F   hf)
  · refine rw_iload_n F dX5_isPair_6 rfl 1 rfl ?_
    refine rw_if_lt F (tgt := 36) hf dX5_isPair_7 (by decide) (fun hc7 hf => ?_) (fun hc7 hf => ?_)
    · refine rw_iconst F (v := 0) dX5_isPair_36 (by decide) ?_
      exact rw_zretZ F (by decide) hf rfl dX5_isPair_37
    · refine rw_aload_n F dX5_isPair_10 rfl 0 rfl ?_
      refine rw_iload_n F dX5_isPair_11 rfl 1 rfl ?_
      refine rw_bipush F (v := 10) dX5_isPair_12 (by decide) ?_
      refine rw_idiv F dX5_isPair_14 (by decide) ?_
      obtain ⟨q2, hq1, hf⟩ := bind_h hf
      refine rw_callVI F (k0 := 3) (nA := 1) (c_X5_isSound_3 (aL a) Z _ _ _ hq1) gX5_isPair_X5_isSound rfl ⟨rfl, rfl⟩ (by decide +kernel) ⟨Nat.le_of_ble_eq_true rfl, Nat.le_of_ble_eq_true rfl⟩ (show 3 < 39 by decide) (gC_3 Z _) rfl rfl rfl (Nat.le_of_ble_eq_true rfl) dX5_isPair_15 ?_
      refine rw_if_eq F (tgt := 36) hf dX5_isPair_18 (by decide) (fun hc6 hf => ?_) (fun hc6 hf => ?_)
      · refine rw_iconst F (v := 0) dX5_isPair_36 (by decide) ?_
        exact rw_zretZ F (by decide) hf rfl dX5_isPair_37
      · refine rw_aload_n F dX5_isPair_21 rfl 0 rfl ?_
        refine rw_iload_n F dX5_isPair_22 rfl 1 rfl ?_
        refine rw_bipush F (v := 10) dX5_isPair_23 (by decide) ?_
        refine rw_irem F dX5_isPair_25 (by decide) ?_
        obtain ⟨q4, hq3, hf⟩ := bind_h hf
        refine rw_callVI F (k0 := 3) (nA := 1) (c_X5_isPlace_3 (aL a) Z _ _ _ hq3) gX5_isPair_X5_isPlace rfl ⟨rfl, rfl⟩ (by decide +kernel) ⟨Nat.le_of_ble_eq_true rfl, Nat.le_of_ble_eq_true rfl⟩ (show 3 < 39 by decide) (gC_3 Z _) rfl rfl rfl (Nat.le_of_ble_eq_true rfl) dX5_isPair_26 ?_
        refine rw_if_eq F (tgt := 36) hf dX5_isPair_29 (by decide) (fun hc5 hf => ?_) (fun hc5 hf => ?_)
        · refine rw_iconst F (v := 0) dX5_isPair_36 (by decide) ?_
          exact rw_zretZ F (by decide) hf rfl dX5_isPair_37
        · exact WS.sub [] rfl (b_X5_isPair_3_b32 F   hf)

abbrev rm_X11_liars : Room := { frames := 5, cells := 0, slots := 0, locals := 120 }
abbrev FX_X11_liars (a : Ax) (Z : Zx) (A : Nat → Prop) : Prop := FX a (XC Z) A cX11_liars RX11 wsX11_liars 2 (some .int) rm_X11_liars
theorem iw_X11_liars_X11 : ∀ w ∈ wsX110, w ∈ wsX11_liars := by decide +kernel
theorem lk_X11_liars_19 : Cond.fieldLink RX11 19 (TX11 1).1 (TX11 1).2.1 (TX11 1).2.2.1 ∈ wsX11_liars := by decide +kernel
theorem lk_X11_liars_75 : Cond.fieldLink RX11 75 (TX11 9).1 (TX11 9).2.1 (TX11 9).2.2.1 ∈ wsX11_liars := by decide +kernel
set_option maxHeartbeats 4000000 in
set_option maxRecDepth 100000 in
theorem c_X11_liars (l : Launch) (Z : Zx) (p1 : Int32) (f : Nat → Nat → Int32) (r : Int32) (hf : f_X11_liars p1 f = some r) : MS l (XC Z) yX11_liars wsX11_liars rm_X11_liars [.ref (Z.2.1 0), .int p1] f (PI r f) := by
  refine MS.of (cc := cX11_liars) (maxL := 2) (ret := (some .int)) (own := RX11) (lv := [(0, .ref (Z.2.1 0)), (1, .int p1)]) (by decide) rfl rfl (Nat.le_of_ble_eq_true rfl) rfl ?_
  intro a A hla F
  subst hla
  unfold f_X11_liars at hf
  refine rw_aload_n F dX11_liars_0 rfl 0 rfl ?_
  refine rw_get F 0 (show 0 < 39 by decide) (gC_0 Z _) iw_X11_liars_X11 rfl 1 (by decide) lk_X11_liars_19 rfl dX11_liars_1 ?_
  refine rw_iload_n F dX11_liars_4 rfl 1 rfl ?_
  obtain ⟨q2, hq1, hf⟩ := bind_h hf
  refine rw_callVI F (k0 := 3) (nA := 1) (c_X5_isPair_3 (aL a) Z _ _ _ hq1) gX11_liars_X5_isPair rfl ⟨rfl, rfl⟩ (by decide +kernel) ⟨Nat.le_of_ble_eq_true rfl, Nat.le_of_ble_eq_true rfl⟩ (show 3 < 39 by decide) (gC_3 Z _) rfl rfl rfl (Nat.le_of_ble_eq_true rfl) dX11_liars_5 ?_
  refine rw_if_ne F (tgt := 14) hf dX11_liars_8 (by decide) (fun hc8 hf => ?_) (fun hc8 hf => ?_)
  · refine rw_aload_n F dX11_liars_14 rfl 0 rfl ?_
    refine rw_get F 0 (show 0 < 39 by decide) (gC_0 Z _) iw_X11_liars_X11 rfl 1 (by decide) lk_X11_liars_19 rfl dX11_liars_15 ?_
    obtain ⟨q4, hq3, hf⟩ := bind_h hf
    refine rw_callVI F (k0 := 3) (nA := 0) (c_X5_stands_3 (aL a) Z  _ _ hq3) gX11_liars_X5_stands rfl ⟨rfl, rfl⟩ (by decide +kernel) ⟨Nat.le_of_ble_eq_true rfl, Nat.le_of_ble_eq_true rfl⟩ (show 3 < 39 by decide) (gC_3 Z _) rfl rfl rfl (Nat.le_of_ble_eq_true rfl) dX11_liars_18 ?_
    refine rw_if_eq F (tgt := 35) hf dX11_liars_21 (by decide) (fun hc7 hf => ?_) (fun hc7 hf => ?_)
    · refine rw_ldc F (v := -1000000003) dX11_liars_35 (by decide +kernel) ?_
      exact rw_iret F hf rfl dX11_liars_37
    · refine rw_aload_n F dX11_liars_24 rfl 0 rfl ?_
      refine rw_get F 0 (show 0 < 39 by decide) (gC_0 Z _) iw_X11_liars_X11 rfl 9 (by decide) lk_X11_liars_75 rfl dX11_liars_25 ?_
      refine rw_iload_n F dX11_liars_28 rfl 1 rfl ?_
      obtain ⟨q6, hq5, hf⟩ := bind_h hf
      refine rw_callVI F (k0 := 32) (nA := 1) (c_X1_liarsOf_32 (aL a) Z _ _ _ hq5) gX11_liars_X1_liarsOf rfl ⟨rfl, rfl⟩ (by decide +kernel) ⟨Nat.le_of_ble_eq_true rfl, Nat.le_of_ble_eq_true rfl⟩ (show 32 < 39 by decide) (gC_32 Z _) rfl rfl rfl (Nat.le_of_ble_eq_true rfl) dX11_liars_29 ?_
      refine rw_goto F (tgt := 37) dX11_liars_32 (by decide) ?_
      exact rw_iret F hf rfl dX11_liars_37
  · refine rw_ldc F (v := -1000000001) dX11_liars_11 (by decide +kernel) ?_
    exact rw_iret F hf rfl dX11_liars_13

abbrev rm_X1_pairOfFewestLiars_32 : Room := { frames := 5, cells := 0, slots := 0, locals := 120 }
abbrev FX_X1_pairOfFewestLiars_32 (a : Ax) (Z : Zx) (A : Nat → Prop) : Prop := FX a (XC Z) A cX1_pairOfFewestLiars RX1 wsX1_pairOfFewestLiars 5 (some .int) rm_X1_pairOfFewestLiars_32
set_option maxHeartbeats 4000000 in
set_option maxRecDepth 100000 in
theorem b_X1_pairOfFewestLiars_32_b48 {a : Ax} {Z : Zx} {A : Nat → Prop} {r : Int32} {f : Nat → Nat → Int32} (F : FX_X1_pairOfFewestLiars_32 a Z A) (K14 : Int32 → Int32 → Int32 → Option Int32) (hK14 : ∀ (i1 : Int32) (i2 : Int32) (i3 : Int32), K14 i1 i2 i3 = some r → WS a (XC Z) A 5 (RP a (XC Z) A (PI r f)) 14 [(0, .ref (Z.2.1 32)), (1, .int i1), (2, .int i2), (3, .int i3)] [] f) : ∀ (i1 : Int32) (i2 : Int32) (i3 : Int32), f_X1_pairOfFewestLiars_32_b48 K14 i1 i2 i3 f = some r → WS a (XC Z) A 5 (RP a (XC Z) A (PI r f)) 48 [(0, .ref (Z.2.1 32)), (1, .int i1), (2, .int i2), (3, .int i3)] [] f := by
  intro i1 i2 i3 hf
  unfold f_X1_pairOfFewestLiars_32_b48 at hf
  refine rw_iinc F (v := 1) dX1_pairOfFewestLiars_48 3 rfl (by decide) (by decide) rfl ?_
  refine rw_goto F (tgt := 14) dX1_pairOfFewestLiars_51 (by decide) ?_
  exact WS.sub [1, 2, 3, 0] rfl (hK14 _ _ _ hf)

set_option maxHeartbeats 4000000 in
set_option maxRecDepth 100000 in
theorem b_X1_pairOfFewestLiars_32_b14 {a : Ax} {Z : Zx} {A : Nat → Prop} {r : Int32} {f : Nat → Nat → Int32} (F : FX_X1_pairOfFewestLiars_32 a Z A) : ∀ (n : Nat) (i1 : Int32) (i2 : Int32) (i3 : Int32), f_X1_pairOfFewestLiars_32_b14 n i1 i2 i3 f = some r → WS a (XC Z) A 5 (RP a (XC Z) A (PI r f)) 14 [(0, .ref (Z.2.1 32)), (1, .int i1), (2, .int i2), (3, .int i3)] [] f := by
  intro n
  induction n with
  | zero => intro i1 i2 i3 hf; exact nomatch (show (none : Option Int32) = some r from hf)
  | succ n hK14 =>
    intro i1 i2 i3 hf
    replace hf : f_X1_pairOfFewestLiars_32_b14s (fun i1 i2 i3 => f_X1_pairOfFewestLiars_32_b14 n i1 i2 i3 f) i1 i2 i3 f = some r := hf
    unfold f_X1_pairOfFewestLiars_32_b14s at hf
    refine rw_iload_n F dX1_pairOfFewestLiars_14 rfl 3 rfl ?_
    refine rw_aload_n F dX1_pairOfFewestLiars_15 rfl 0 rfl ?_
    obtain ⟨q6, hq5, hf⟩ := bind_h hf
    refine rw_callVI F (k0 := 32) (nA := 0) (c_X1_pairs_32 (aL a) Z  _ _ hq5) gX1_pairOfFewestLiars_X1_pairs rfl ⟨rfl, rfl⟩ (by decide +kernel) ⟨Nat.le_of_ble_eq_true rfl, Nat.le_of_ble_eq_true rfl⟩ (show 32 < 39 by decide) (gC_32 Z _) rfl rfl rfl (Nat.le_of_ble_eq_true rfl) dX1_pairOfFewestLiars_16 ?_
    refine rw_icmp_ge F (tgt := 54) hf dX1_pairOfFewestLiars_19 (by decide) (fun hc14 hf => ?_) (fun hc14 hf => ?_)
    · refine rw_iload_n F dX1_pairOfFewestLiars_54 rfl 1 rfl ?_
      exact rw_iret F hf rfl dX1_pairOfFewestLiars_55
    · refine rw_aload_n F dX1_pairOfFewestLiars_22 rfl 0 rfl ?_
      refine rw_aload_n F dX1_pairOfFewestLiars_23 rfl 0 rfl ?_
      refine rw_iload_n F dX1_pairOfFewestLiars_24 rfl 3 rfl ?_
      obtain ⟨q8, hq7, hf⟩ := bind_h hf
      refine rw_callVI F (k0 := 32) (nA := 1) (c_X1_pairAt_32 (aL a) Z _ _ _ hq7) gX1_pairOfFewestLiars_X1_pairAt rfl ⟨rfl, rfl⟩ (by decide +kernel) ⟨Nat.le_of_ble_eq_true rfl, Nat.le_of_ble_eq_true rfl⟩ (show 32 < 39 by decide) (gC_32 Z _) rfl rfl rfl (Nat.le_of_ble_eq_true rfl) dX1_pairOfFewestLiars_25 ?_
      obtain ⟨q10, hq9, hf⟩ := bind_h hf
      refine rw_callVI F (k0 := 32) (nA := 1) (c_X1_liarsOf_32 (aL a) Z _ _ _ hq9) gX1_pairOfFewestLiars_X1_liarsOf rfl ⟨rfl, rfl⟩ (by decide +kernel) ⟨Nat.le_of_ble_eq_true rfl, Nat.le_of_ble_eq_true rfl⟩ (show 32 < 39 by decide) (gC_32 Z _) rfl rfl rfl (Nat.le_of_ble_eq_true rfl) dX1_pairOfFewestLiars_28 ?_
      refine rw_istore F dX1_pairOfFewestLiars_31 (by decide) rfl ?_
      refine rw_iload F dX1_pairOfFewestLiars_33 0 rfl ?_
      refine rw_iload_n F dX1_pairOfFewestLiars_35 rfl 3 rfl ?_
      refine rw_icmp_ge F (tgt := 48) hf dX1_pairOfFewestLiars_36 (by decide) (fun hc13 hf => ?_) (fun hc13 hf => ?_)
      · exact WS.sub [1, 2, 3, 4] rfl (b_X1_pairOfFewestLiars_32_b48 F _ hK14 _ _ _ hf)
      · refine rw_aload_n F dX1_pairOfFewestLiars_39 rfl 1 rfl ?_
        refine rw_iload_n F dX1_pairOfFewestLiars_40 rfl 4 rfl ?_
        obtain ⟨q12, hq11, hf⟩ := bind_h hf
        refine rw_callVI F (k0 := 32) (nA := 1) (c_X1_pairAt_32 (aL a) Z _ _ _ hq11) gX1_pairOfFewestLiars_X1_pairAt rfl ⟨rfl, rfl⟩ (by decide +kernel) ⟨Nat.le_of_ble_eq_true rfl, Nat.le_of_ble_eq_true rfl⟩ (show 32 < 39 by decide) (gC_32 Z _) rfl rfl rfl (Nat.le_of_ble_eq_true rfl) dX1_pairOfFewestLiars_41 ?_
        refine rw_istore_n F dX1_pairOfFewestLiars_44 rfl (by decide) rfl ?_
        refine rw_iload F dX1_pairOfFewestLiars_45 1 rfl ?_
        refine rw_istore_n F dX1_pairOfFewestLiars_47 rfl (by decide) rfl ?_
        exact WS.sub [3, 1, 0, 4] rfl (b_X1_pairOfFewestLiars_32_b48 F _ hK14 _ _ _ hf)

set_option maxHeartbeats 4000000 in
set_option maxRecDepth 100000 in
theorem c_X1_pairOfFewestLiars_32 (l : Launch) (Z : Zx) (f : Nat → Nat → Int32) (r : Int32) (hf : f_X1_pairOfFewestLiars_32 f = some r) : MS l (XC Z) yX1_pairOfFewestLiars wsX1_pairOfFewestLiars rm_X1_pairOfFewestLiars_32 [.ref (Z.2.1 32)] f (PI r f) := by
  refine MS.of (cc := cX1_pairOfFewestLiars) (maxL := 5) (ret := (some .int)) (own := RX1) (lv := [(0, .ref (Z.2.1 32))]) (by decide) rfl rfl (Nat.le_of_ble_eq_true rfl) rfl ?_
  intro a A hla F
  subst hla
  unfold f_X1_pairOfFewestLiars_32 at hf
  refine rw_aload_n F dX1_pairOfFewestLiars_0 rfl 0 rfl ?_
  refine rw_iconst F (v := 0) dX1_pairOfFewestLiars_1 (by decide) ?_
  obtain ⟨q2, hq1, hf⟩ := bind_h hf
  refine rw_callVI F (k0 := 32) (nA := 1) (c_X1_pairAt_32 (aL a) Z _ _ _ hq1) gX1_pairOfFewestLiars_X1_pairAt rfl ⟨rfl, rfl⟩ (by decide +kernel) ⟨Nat.le_of_ble_eq_true rfl, Nat.le_of_ble_eq_true rfl⟩ (show 32 < 39 by decide) (gC_32 Z _) rfl rfl rfl (Nat.le_of_ble_eq_true rfl) dX1_pairOfFewestLiars_2 ?_
  refine rw_istore_n F dX1_pairOfFewestLiars_5 rfl (by decide) rfl ?_
  refine rw_aload_n F dX1_pairOfFewestLiars_6 rfl 1 rfl ?_
  refine rw_iload_n F dX1_pairOfFewestLiars_7 rfl 0 rfl ?_
  obtain ⟨q4, hq3, hf⟩ := bind_h hf
  refine rw_callVI F (k0 := 32) (nA := 1) (c_X1_liarsOf_32 (aL a) Z _ _ _ hq3) gX1_pairOfFewestLiars_X1_liarsOf rfl ⟨rfl, rfl⟩ (by decide +kernel) ⟨Nat.le_of_ble_eq_true rfl, Nat.le_of_ble_eq_true rfl⟩ (show 32 < 39 by decide) (gC_32 Z _) rfl rfl rfl (Nat.le_of_ble_eq_true rfl) dX1_pairOfFewestLiars_8 ?_
  refine rw_istore_n F dX1_pairOfFewestLiars_11 rfl (by decide) rfl ?_
  refine rw_iconst F (v := 1) dX1_pairOfFewestLiars_12 (by decide) ?_
  refine rw_istore_n F dX1_pairOfFewestLiars_13 rfl (by decide) rfl ?_
  exact WS.sub [3, 2, 1, 0] rfl (b_X1_pairOfFewestLiars_32_b14 F  fuB _ _ _ hf)

abbrev rm_X11_leastLiars : Room := { frames := 6, cells := 0, slots := 0, locals := 144 }
abbrev FX_X11_leastLiars (a : Ax) (Z : Zx) (A : Nat → Prop) : Prop := FX a (XC Z) A cX11_leastLiars RX11 wsX11_leastLiars 3 (some .int) rm_X11_leastLiars
theorem iw_X11_leastLiars_X11 : ∀ w ∈ wsX110, w ∈ wsX11_leastLiars := by decide +kernel
theorem lk_X11_leastLiars_19 : Cond.fieldLink RX11 19 (TX11 1).1 (TX11 1).2.1 (TX11 1).2.2.1 ∈ wsX11_leastLiars := by decide +kernel
theorem lk_X11_leastLiars_75 : Cond.fieldLink RX11 75 (TX11 9).1 (TX11 9).2.1 (TX11 9).2.2.1 ∈ wsX11_leastLiars := by decide +kernel
set_option maxHeartbeats 4000000 in
set_option maxRecDepth 100000 in
theorem c_X11_leastLiars (l : Launch) (Z : Zx) (p1 : Int32) (f : Nat → Nat → Int32) (r : Int32) (hf : f_X11_leastLiars p1 f = some r) : MS l (XC Z) yX11_leastLiars wsX11_leastLiars rm_X11_leastLiars [.ref (Z.2.1 0), .int p1] f (PI r f) := by
  refine MS.of (cc := cX11_leastLiars) (maxL := 3) (ret := (some .int)) (own := RX11) (lv := [(0, .ref (Z.2.1 0)), (1, .int p1)]) (by decide) rfl rfl (Nat.le_of_ble_eq_true rfl) rfl ?_
  intro a A hla F
  subst hla
  unfold f_X11_leastLiars at hf
  refine rw_iload_n F dX11_leastLiars_0 rfl 1 rfl ?_
  refine rw_iconst F (v := 1) dX11_leastLiars_1 (by decide) ?_
  obtain ⟨q2, hq1, hf⟩ := bind_h hf
  refine rw_callSI F (nA := 2) (c_X11_isOutside (aL a) Z _ _ _ _ hq1) gX11_leastLiars_X11_isOutside rfl ⟨rfl, rfl⟩ (by decide +kernel) ⟨Nat.le_of_ble_eq_true rfl, Nat.le_of_ble_eq_true rfl⟩ rfl rfl (Nat.le_of_ble_eq_true rfl) dX11_leastLiars_2 ?_
  refine rw_if_eq F (tgt := 11) hf dX11_leastLiars_5 (by decide) (fun hc11 hf => ?_) (fun hc11 hf => ?_)
  · refine rw_aload_n F dX11_leastLiars_11 rfl 0 rfl ?_
    refine rw_get F 0 (show 0 < 39 by decide) (gC_0 Z _) iw_X11_leastLiars_X11 rfl 1 (by decide) lk_X11_leastLiars_19 rfl dX11_leastLiars_12 ?_
    obtain ⟨q4, hq3, hf⟩ := bind_h hf
    refine rw_callVI F (k0 := 3) (nA := 0) (c_X5_stands_3 (aL a) Z  _ _ hq3) gX11_leastLiars_X5_stands rfl ⟨rfl, rfl⟩ (by decide +kernel) ⟨Nat.le_of_ble_eq_true rfl, Nat.le_of_ble_eq_true rfl⟩ (show 3 < 39 by decide) (gC_3 Z _) rfl rfl rfl (Nat.le_of_ble_eq_true rfl) dX11_leastLiars_15 ?_
    refine rw_if_ne F (tgt := 24) hf dX11_leastLiars_18 (by decide) (fun hc10 hf => ?_) (fun hc10 hf => ?_)
    · refine rw_aload_n F dX11_leastLiars_24 rfl 0 rfl ?_
      refine rw_get F 0 (show 0 < 39 by decide) (gC_0 Z _) iw_X11_leastLiars_X11 rfl 9 (by decide) lk_X11_leastLiars_75 rfl dX11_leastLiars_25 ?_
      obtain ⟨q6, hq5, hf⟩ := bind_h hf
      refine rw_callVI F (k0 := 32) (nA := 0) (c_X1_pairOfFewestLiars_32 (aL a) Z  _ _ hq5) gX11_leastLiars_X1_pairOfFewestLiars rfl ⟨rfl, rfl⟩ (by decide +kernel) ⟨Nat.le_of_ble_eq_true rfl, Nat.le_of_ble_eq_true rfl⟩ (show 32 < 39 by decide) (gC_32 Z _) rfl rfl rfl (Nat.le_of_ble_eq_true rfl) dX11_leastLiars_28 ?_
      refine rw_istore_n F dX11_leastLiars_31 rfl (by decide) rfl ?_
      refine rw_iload_n F dX11_leastLiars_32 rfl 2 rfl ?_
      refine rw_if_ne F (tgt := 40) hf dX11_leastLiars_33 (by decide) (fun hc9 hf => ?_) (fun hc9 hf => ?_)
      · refine rw_aload_n F dX11_leastLiars_40 rfl 1 rfl ?_
        refine rw_get F 0 (show 0 < 39 by decide) (gC_0 Z _) iw_X11_leastLiars_X11 rfl 9 (by decide) lk_X11_leastLiars_75 rfl dX11_leastLiars_41 ?_
        refine rw_iload_n F dX11_leastLiars_44 rfl 0 rfl ?_
        obtain ⟨q8, hq7, hf⟩ := bind_h hf
        refine rw_callVI F (k0 := 32) (nA := 1) (c_X1_liarsOf_32 (aL a) Z _ _ _ hq7) gX11_leastLiars_X1_liarsOf rfl ⟨rfl, rfl⟩ (by decide +kernel) ⟨Nat.le_of_ble_eq_true rfl, Nat.le_of_ble_eq_true rfl⟩ (show 32 < 39 by decide) (gC_32 Z _) rfl rfl rfl (Nat.le_of_ble_eq_true rfl) dX11_leastLiars_45 ?_
        exact rw_iret F hf rfl dX11_leastLiars_48
      · refine rw_iload_n F dX11_leastLiars_36 rfl 0 rfl ?_
        refine rw_goto F (tgt := 48) dX11_leastLiars_37 (by decide) ?_
        exact rw_iret F hf rfl dX11_leastLiars_48
    · refine rw_ldc F (v := -1000000003) dX11_leastLiars_21 (by decide +kernel) ?_
      exact rw_iret F hf rfl dX11_leastLiars_23
  · refine rw_ldc F (v := -1000000002) dX11_leastLiars_8 (by decide +kernel) ?_
    exact rw_iret F hf rfl dX11_leastLiars_10

abbrev rm_X1_greatestPart_32 : Room := { frames := 4, cells := 0, slots := 0, locals := 96 }
abbrev FX_X1_greatestPart_32 (a : Ax) (Z : Zx) (A : Nat → Prop) : Prop := FX a (XC Z) A cX1_greatestPart RX1 wsX1_greatestPart 7 (some .int) rm_X1_greatestPart_32
theorem iw_X1_greatestPart_X1 : ∀ w ∈ wsX10, w ∈ wsX1_greatestPart := by decide +kernel
theorem lk_X1_greatestPart_18 : Cond.fieldLink RX1 18 (TX1 5).1 (TX1 5).2.1 (TX1 5).2.2.1 ∈ wsX1_greatestPart := by decide +kernel
theorem lk_X1_greatestPart_21 : Cond.fieldLink RX1 21 (TX1 7).1 (TX1 7).2.1 (TX1 7).2.2.1 ∈ wsX1_greatestPart := by decide +kernel
theorem lk_X1_greatestPart_28 : Cond.fieldLink RX1 28 (TX1 1).1 (TX1 1).2.1 (TX1 1).2.2.1 ∈ wsX1_greatestPart := by decide +kernel
theorem lk_X1_greatestPart_56 : Cond.fieldLink RX1 56 (TX1 6).1 (TX1 6).2.1 (TX1 6).2.2.1 ∈ wsX1_greatestPart := by decide +kernel
theorem lkm_X1_greatestPart_max_77 : Cond.methodLink RX1 77 Lib.Math.max.name ∈ wsX1_greatestPart := by decide +kernel
set_option maxHeartbeats 4000000 in
set_option maxRecDepth 100000 in
theorem b_X1_greatestPart_32_b30 {a : Ax} {Z : Zx} {A : Nat → Prop} {r : (Int32 × (Nat → Nat → Int32))} (F : FX_X1_greatestPart_32 a Z A) : ∀ (n : Nat) (i1 : Int32) (i2 : Int32) (i3 : Int32) (f : Nat → Nat → Int32), f_X1_greatestPart_32_b30 n i1 i2 i3 f = some r → WS a (XC Z) A 7 (RP a (XC Z) A (PI r.1 r.2)) 30 [(0, .ref (Z.2.1 32)), (1, .int i1), (2, .int i2), (3, .int i3)] [] f := by
  intro n
  induction n with
  | zero => intro i1 i2 i3 f hf; exact nomatch (show (none : Option (Int32 × (Nat → Nat → Int32))) = some r from hf)
  | succ n hK30 =>
    intro i1 i2 i3 f hf
    replace hf : f_X1_greatestPart_32_b30s (f_X1_greatestPart_32_b30 n) i1 i2 i3 f = some r := hf
    unfold f_X1_greatestPart_32_b30s at hf
    refine rw_iload_n F dX1_greatestPart_30 rfl 3 rfl ?_
    refine rw_aload_n F dX1_greatestPart_31 rfl 0 rfl ?_
    refine rw_get F 32 (show 32 < 39 by decide) (gC_32 Z _) iw_X1_greatestPart_X1 rfl 6 (by decide) lk_X1_greatestPart_56 rfl dX1_greatestPart_32 ?_
    refine rw_icmp_ge F (tgt := 105) hf dX1_greatestPart_35 (by decide) (fun hc11 hf => ?_) (fun hc11 hf => ?_)
    · refine rw_iload_n F dX1_greatestPart_105 rfl 2 rfl ?_
      exact rw_iretS F hf rfl dX1_greatestPart_106
    · refine rw_aload_n F dX1_greatestPart_38 rfl 0 rfl ?_
      refine rw_get F 32 (show 32 < 39 by decide) (gC_32 Z _) iw_X1_greatestPart_X1 rfl 5 (by decide) lk_X1_greatestPart_18 rfl dX1_greatestPart_39 ?_
      refine rw_iload_n F dX1_greatestPart_42 rfl 3 rfl ?_
      obtain ⟨q2, hq1, hf⟩ := bind_h hf
      refine rw_callSI F (nA := 2) (c_X7_get (aL a) Z (show 35 < 39 by decide) (gC_35 Z) _ _ _ hq1) gX1_greatestPart_X7_get rfl ⟨rfl, rfl⟩ (by decide +kernel) ⟨Nat.le_of_ble_eq_true rfl, Nat.le_of_ble_eq_true rfl⟩ rfl rfl (Nat.le_of_ble_eq_true rfl) dX1_greatestPart_43 ?_
      refine rw_istore F dX1_greatestPart_46 (by decide) rfl ?_
      refine rw_aload_n F dX1_greatestPart_48 rfl 1 rfl ?_
      refine rw_get F 32 (show 32 < 39 by decide) (gC_32 Z _) iw_X1_greatestPart_X1 rfl 1 (by decide) lk_X1_greatestPart_28 rfl dX1_greatestPart_49 ?_
      refine rw_iload_n F dX1_greatestPart_52 rfl 2 rfl ?_
      refine rw_iload F dX1_greatestPart_53 0 rfl ?_
      obtain ⟨q4, hq3, hf⟩ := bind_h hf
      refine rw_callSI F (nA := 1) (c_X1_soundOf (aL a) Z _ _ _ hq3) gX1_greatestPart_X1_soundOf rfl ⟨rfl, rfl⟩ (by decide +kernel) ⟨Nat.le_of_ble_eq_true rfl, Nat.le_of_ble_eq_true rfl⟩ rfl rfl (Nat.le_of_ble_eq_true rfl) dX1_greatestPart_55 ?_
      refine rw_iload F dX1_greatestPart_58 0 rfl ?_
      refine rw_bipush F (v := 10) dX1_greatestPart_60 (by decide) ?_
      refine rw_irem F dX1_greatestPart_62 (by decide) ?_
      obtain ⟨q6, hq5, hf⟩ := bind_h hf
      refine rw_callVI F (k0 := 29) (nA := 3) (c_X2_saying_29 (aL a) Z _ _ _ _ _ hq5) gX1_greatestPart_X2_saying rfl ⟨rfl, rfl⟩ (by decide +kernel) ⟨Nat.le_of_ble_eq_true rfl, Nat.le_of_ble_eq_true rfl⟩ (show 29 < 39 by decide) (gC_29 Z _) rfl rfl rfl (Nat.le_of_ble_eq_true rfl) dX1_greatestPart_63 ?_
      refine rw_istore F dX1_greatestPart_66 (by decide) rfl ?_
      refine rw_aload_n F dX1_greatestPart_68 rfl 2 rfl ?_
      refine rw_get F 32 (show 32 < 39 by decide) (gC_32 Z _) iw_X1_greatestPart_X1 rfl 7 (by decide) lk_X1_greatestPart_21 rfl dX1_greatestPart_69 ?_
      refine rw_iload F dX1_greatestPart_72 0 rfl ?_
      obtain ⟨q8, hq7, hf⟩ := bind_h hf
      refine rw_callSI F (nA := 2) (c_X7_get (aL a) Z (show 36 < 39 by decide) (gC_36 Z) _ _ _ hq7) gX1_greatestPart_X7_get rfl ⟨rfl, rfl⟩ (by decide +kernel) ⟨Nat.le_of_ble_eq_true rfl, Nat.le_of_ble_eq_true rfl⟩ rfl rfl (Nat.le_of_ble_eq_true rfl) dX1_greatestPart_74 ?_
      refine rw_iconst F (v := 1) dX1_greatestPart_77 (by decide) ?_
      refine rw_iadd F dX1_greatestPart_78 ?_
      refine rw_istore F dX1_greatestPart_79 (by decide) rfl ?_
      refine rw_aload_n F dX1_greatestPart_81 rfl 3 rfl ?_
      refine rw_get F 32 (show 32 < 39 by decide) (gC_32 Z _) iw_X1_greatestPart_X1 rfl 7 (by decide) lk_X1_greatestPart_21 rfl dX1_greatestPart_82 ?_
      refine rw_iload F dX1_greatestPart_85 1 rfl ?_
      refine rw_iload F dX1_greatestPart_87 0 rfl ?_
      obtain ⟨q10, hq9, hf⟩ := bind_h hf
      refine rw_callSV F (nA := 3) (c_X7_put (aL a) Z (show 36 < 39 by decide) (gC_36 Z) _ _ _ _ hq9) gX1_greatestPart_X7_put rfl ⟨rfl, rfl⟩ (by decide +kernel) ⟨Nat.le_of_ble_eq_true rfl, Nat.le_of_ble_eq_true rfl⟩ rfl rfl (Nat.le_of_ble_eq_true rfl) dX1_greatestPart_89 ?_
      refine rw_iload_n F dX1_greatestPart_92 rfl 5 rfl ?_
      refine rw_iload F dX1_greatestPart_93 0 rfl ?_
      refine rw_mmax F lkm_X1_greatestPart_max_77 (by decide +kernel) (by decide +kernel) (by decide +kernel) (Nat.le_of_ble_eq_true rfl) (Nat.le_of_ble_eq_true rfl) dX1_greatestPart_95 ?_
      refine rw_istore_n F dX1_greatestPart_98 rfl (by decide) rfl ?_
      refine rw_iinc F (v := 1) dX1_greatestPart_99 6 rfl (by decide) (by decide) rfl ?_
      refine rw_goto F (tgt := 30) dX1_greatestPart_102 (by decide) ?_
      exact WS.sub [5, 6, 1, 0] rfl (hK30 _ _ _ _ hf)

set_option maxHeartbeats 4000000 in
set_option maxRecDepth 100000 in
theorem b_X1_greatestPart_32_b4 {a : Ax} {Z : Zx} {A : Nat → Prop} {r : (Int32 × (Nat → Nat → Int32))} (F : FX_X1_greatestPart_32 a Z A) : ∀ (n : Nat) (i1 : Int32) (i2 : Int32) (i3 : Int32) (f : Nat → Nat → Int32), f_X1_greatestPart_32_b4 n i1 i2 i3 f = some r → WS a (XC Z) A 7 (RP a (XC Z) A (PI r.1 r.2)) 4 [(0, .ref (Z.2.1 32)), (1, .int i1), (2, .int i2), (3, .int i3)] [] f := by
  intro n
  induction n with
  | zero => intro i1 i2 i3 f hf; exact nomatch (show (none : Option (Int32 × (Nat → Nat → Int32))) = some r from hf)
  | succ n hK4 =>
    intro i1 i2 i3 f hf
    replace hf : f_X1_greatestPart_32_b4s (f_X1_greatestPart_32_b4 n) i1 i2 i3 f = some r := hf
    unfold f_X1_greatestPart_32_b4s at hf
    refine rw_iload_n F dX1_greatestPart_4 rfl 3 rfl ?_
    refine rw_aload_n F dX1_greatestPart_5 rfl 0 rfl ?_
    refine rw_get F 32 (show 32 < 39 by decide) (gC_32 Z _) iw_X1_greatestPart_X1 rfl 7 (by decide) lk_X1_greatestPart_21 rfl dX1_greatestPart_6 ?_
    refine rw_alen F (v := Int32.ofNat 12) 36 (show 36 < 39 by decide) (gC_36 Z (f 36)) 0 rfl rfl dX1_greatestPart_9 ?_
    refine rw_icmp_ge F (tgt := 28) hf dX1_greatestPart_10 (by decide) (fun hc14 hf => ?_) (fun hc14 hf => ?_)
    · refine rw_iconst F (v := 0) dX1_greatestPart_28 (by decide) ?_
      refine rw_istore_n F dX1_greatestPart_29 rfl (by decide) rfl ?_
      exact WS.sub [1, 2, 3, 0] rfl (b_X1_greatestPart_32_b30 F  fuB _ _ _ _ hf)
    · refine rw_aload_n F dX1_greatestPart_13 rfl 0 rfl ?_
      refine rw_get F 32 (show 32 < 39 by decide) (gC_32 Z _) iw_X1_greatestPart_X1 rfl 7 (by decide) lk_X1_greatestPart_21 rfl dX1_greatestPart_14 ?_
      refine rw_iload_n F dX1_greatestPart_17 rfl 3 rfl ?_
      refine rw_iconst F (v := 0) dX1_greatestPart_18 (by decide) ?_
      obtain ⟨q13, hq12, hf⟩ := bind_h hf
      refine rw_callSV F (nA := 3) (c_X7_put (aL a) Z (show 36 < 39 by decide) (gC_36 Z) _ _ _ _ hq12) gX1_greatestPart_X7_put rfl ⟨rfl, rfl⟩ (by decide +kernel) ⟨Nat.le_of_ble_eq_true rfl, Nat.le_of_ble_eq_true rfl⟩ rfl rfl (Nat.le_of_ble_eq_true rfl) dX1_greatestPart_19 ?_
      refine rw_iinc F (v := 1) dX1_greatestPart_22 3 rfl (by decide) (by decide) rfl ?_
      refine rw_goto F (tgt := 4) dX1_greatestPart_25 (by decide) ?_
      exact WS.sub [1, 2, 3, 0] rfl (hK4 _ _ _ _ hf)

set_option maxHeartbeats 4000000 in
set_option maxRecDepth 100000 in
theorem c_X1_greatestPart_32 (l : Launch) (Z : Zx) (p1 : Int32) (f : Nat → Nat → Int32) (r : (Int32 × (Nat → Nat → Int32))) (hf : f_X1_greatestPart_32 p1 f = some r) : MS l (XC Z) yX1_greatestPart wsX1_greatestPart rm_X1_greatestPart_32 [.ref (Z.2.1 32), .int p1] f (PI r.1 r.2) := by
  refine MS.of (cc := cX1_greatestPart) (maxL := 7) (ret := (some .int)) (own := RX1) (lv := [(0, .ref (Z.2.1 32)), (1, .int p1)]) (by decide) rfl rfl (Nat.le_of_ble_eq_true rfl) rfl ?_
  intro a A hla F
  subst hla
  unfold f_X1_greatestPart_32 at hf
  refine rw_iconst F (v := 0) dX1_greatestPart_0 (by decide) ?_
  refine rw_istore_n F dX1_greatestPart_1 rfl (by decide) rfl ?_
  refine rw_iconst F (v := 0) dX1_greatestPart_2 (by decide) ?_
  refine rw_istore_n F dX1_greatestPart_3 rfl (by decide) rfl ?_
  exact WS.sub [2, 3, 1, 0] rfl (b_X1_greatestPart_32_b4 F  fuB _ _ _ _ hf)

abbrev rm_X1_bestAsked_32 : Room := { frames := 5, cells := 0, slots := 0, locals := 122 }
abbrev FX_X1_bestAsked_32 (a : Ax) (Z : Zx) (A : Nat → Prop) : Prop := FX a (XC Z) A cX1_bestAsked RX1 wsX1_bestAsked 5 (some .int) rm_X1_bestAsked_32
theorem iw_X1_bestAsked_X1 : ∀ w ∈ wsX10, w ∈ wsX1_bestAsked := by decide +kernel
theorem iw_X1_bestAsked_X5 : ∀ w ∈ wsX50, w ∈ wsX1_bestAsked := by decide +kernel
theorem lk_X1_bestAsked_24 : Cond.fieldLink RX1 24 (TX1 0).1 (TX1 0).2.1 (TX1 0).2.2.1 ∈ wsX1_bestAsked := by decide +kernel
theorem lk_X1_bestAsked_56 : Cond.fieldLink RX1 56 (TX1 6).1 (TX1 6).2.1 (TX1 6).2.2.1 ∈ wsX1_bestAsked := by decide +kernel
theorem lk_X1_bestAsked_69 : Cond.fieldLink RX1 69 (TX5 3).1 (TX5 3).2.1 (TX5 3).2.2.1 ∈ wsX1_bestAsked := by decide +kernel
set_option maxHeartbeats 4000000 in
set_option maxRecDepth 100000 in
theorem b_X1_bestAsked_32_b38 {a : Ax} {Z : Zx} {A : Nat → Prop} {r : (Int32 × (Nat → Nat → Int32))} (F : FX_X1_bestAsked_32 a Z A) (K9 : Int32 → Int32 → Int32 → (Nat → Nat → Int32) → Option (Int32 × (Nat → Nat → Int32))) (hK9 : ∀ (i1 : Int32) (i2 : Int32) (i3 : Int32) (f : Nat → Nat → Int32), K9 i1 i2 i3 f = some r → WS a (XC Z) A 5 (RP a (XC Z) A (PI r.1 r.2)) 9 [(0, .ref (Z.2.1 32)), (1, .int i1), (2, .int i2), (3, .int i3)] [] f) : ∀ (i1 : Int32) (i2 : Int32) (i3 : Int32) (f : Nat → Nat → Int32), f_X1_bestAsked_32_b38 K9 i1 i2 i3 f = some r → WS a (XC Z) A 5 (RP a (XC Z) A (PI r.1 r.2)) 38 [(0, .ref (Z.2.1 32)), (1, .int i1), (2, .int i2), (3, .int i3)] [] f := by
  intro i1 i2 i3 f hf
  unfold f_X1_bestAsked_32_b38 at hf
  refine rw_iinc F (v := 1) dX1_bestAsked_38 3 rfl (by decide) (by decide) rfl ?_
  refine rw_goto F (tgt := 9) dX1_bestAsked_41 (by decide) ?_
  exact WS.sub [1, 2, 3, 0] rfl (hK9 _ _ _ _ hf)

set_option maxHeartbeats 4000000 in
set_option maxRecDepth 100000 in
theorem b_X1_bestAsked_32_b9 {a : Ax} {Z : Zx} {A : Nat → Prop} {r : (Int32 × (Nat → Nat → Int32))} (F : FX_X1_bestAsked_32 a Z A) : ∀ (n : Nat) (i1 : Int32) (i2 : Int32) (i3 : Int32) (f : Nat → Nat → Int32), f_X1_bestAsked_32_b9 n i1 i2 i3 f = some r → WS a (XC Z) A 5 (RP a (XC Z) A (PI r.1 r.2)) 9 [(0, .ref (Z.2.1 32)), (1, .int i1), (2, .int i2), (3, .int i3)] [] f := by
  intro n
  induction n with
  | zero => intro i1 i2 i3 f hf; exact nomatch (show (none : Option (Int32 × (Nat → Nat → Int32))) = some r from hf)
  | succ n hK9 =>
    intro i1 i2 i3 f hf
    replace hf : f_X1_bestAsked_32_b9s (f_X1_bestAsked_32_b9 n) i1 i2 i3 f = some r := hf
    unfold f_X1_bestAsked_32_b9s at hf
    refine rw_iload_n F dX1_bestAsked_9 rfl 3 rfl ?_
    refine rw_aload_n F dX1_bestAsked_10 rfl 0 rfl ?_
    refine rw_get F 32 (show 32 < 39 by decide) (gC_32 Z _) iw_X1_bestAsked_X1 rfl 0 (by decide) lk_X1_bestAsked_24 rfl dX1_bestAsked_11 ?_
    refine rw_get F 3 (show 3 < 39 by decide) (gC_3 Z _) iw_X1_bestAsked_X5 rfl 3 (by decide) lk_X1_bestAsked_69 rfl dX1_bestAsked_14 ?_
    refine rw_icmp_ge F (tgt := 44) hf dX1_bestAsked_17 (by decide) (fun hc4 hf => ?_) (fun hc4 hf => ?_)
    · refine rw_iload_n F dX1_bestAsked_44 rfl 1 rfl ?_
      exact rw_iretS F hf rfl dX1_bestAsked_45
    · refine rw_aload_n F dX1_bestAsked_20 rfl 0 rfl ?_
      refine rw_iload_n F dX1_bestAsked_21 rfl 3 rfl ?_
      obtain ⟨q2, hq1, hf⟩ := bind_h hf
      refine rw_callVI F (k0 := 32) (nA := 1) (c_X1_greatestPart_32 (aL a) Z _ _ _ hq1) gX1_bestAsked_X1_greatestPart rfl ⟨rfl, rfl⟩ (by decide +kernel) ⟨Nat.le_of_ble_eq_true rfl, Nat.le_of_ble_eq_true rfl⟩ (show 32 < 39 by decide) (gC_32 Z _) rfl rfl rfl (Nat.le_of_ble_eq_true rfl) dX1_bestAsked_22 ?_
      refine rw_istore F dX1_bestAsked_25 (by decide) rfl ?_
      refine rw_iload F dX1_bestAsked_27 0 rfl ?_
      refine rw_iload_n F dX1_bestAsked_29 rfl 3 rfl ?_
      refine rw_icmp_ge F (tgt := 38) hf dX1_bestAsked_30 (by decide) (fun hc3 hf => ?_) (fun hc3 hf => ?_)
      · exact WS.sub [1, 2, 3, 4] rfl (b_X1_bestAsked_32_b38 F _ hK9 _ _ _ _ hf)
      · refine rw_iload_n F dX1_bestAsked_33 rfl 4 rfl ?_
        refine rw_istore_n F dX1_bestAsked_34 rfl (by decide) rfl ?_
        refine rw_iload F dX1_bestAsked_35 1 rfl ?_
        refine rw_istore_n F dX1_bestAsked_37 rfl (by decide) rfl ?_
        exact WS.sub [3, 1, 0, 4] rfl (b_X1_bestAsked_32_b38 F _ hK9 _ _ _ _ hf)

set_option maxHeartbeats 4000000 in
set_option maxRecDepth 100000 in
theorem c_X1_bestAsked_32 (l : Launch) (Z : Zx) (f : Nat → Nat → Int32) (r : (Int32 × (Nat → Nat → Int32))) (hf : f_X1_bestAsked_32 f = some r) : MS l (XC Z) yX1_bestAsked wsX1_bestAsked rm_X1_bestAsked_32 [.ref (Z.2.1 32)] f (PI r.1 r.2) := by
  refine MS.of (cc := cX1_bestAsked) (maxL := 5) (ret := (some .int)) (own := RX1) (lv := [(0, .ref (Z.2.1 32))]) (by decide) rfl rfl (Nat.le_of_ble_eq_true rfl) rfl ?_
  intro a A hla F
  subst hla
  unfold f_X1_bestAsked_32 at hf
  refine rw_iconst F (v := -1) dX1_bestAsked_0 (by decide) ?_
  refine rw_istore_n F dX1_bestAsked_1 rfl (by decide) rfl ?_
  refine rw_aload_n F dX1_bestAsked_2 rfl 1 rfl ?_
  refine rw_get F 32 (show 32 < 39 by decide) (gC_32 Z _) iw_X1_bestAsked_X1 rfl 6 (by decide) lk_X1_bestAsked_56 rfl dX1_bestAsked_3 ?_
  refine rw_istore_n F dX1_bestAsked_6 rfl (by decide) rfl ?_
  refine rw_iconst F (v := 0) dX1_bestAsked_7 (by decide) ?_
  refine rw_istore_n F dX1_bestAsked_8 rfl (by decide) rfl ?_
  exact WS.sub [3, 2, 1, 0] rfl (b_X1_bestAsked_32_b9 F  fuB _ _ _ _ hf)

abbrev rm_X11_ask : Room := { frames := 6, cells := 0, slots := 0, locals := 146 }
abbrev FX_X11_ask (a : Ax) (Z : Zx) (A : Nat → Prop) : Prop := FX a (XC Z) A cX11_ask RX11 wsX11_ask 1 (some .int) rm_X11_ask
theorem iw_X11_ask_X11 : ∀ w ∈ wsX110, w ∈ wsX11_ask := by decide +kernel
theorem lk_X11_ask_19 : Cond.fieldLink RX11 19 (TX11 1).1 (TX11 1).2.1 (TX11 1).2.2.1 ∈ wsX11_ask := by decide +kernel
theorem lk_X11_ask_75 : Cond.fieldLink RX11 75 (TX11 9).1 (TX11 9).2.1 (TX11 9).2.2.1 ∈ wsX11_ask := by decide +kernel
set_option maxHeartbeats 4000000 in
set_option maxRecDepth 100000 in
theorem c_X11_ask (l : Launch) (Z : Zx) (f : Nat → Nat → Int32) (r : (Int32 × (Nat → Nat → Int32))) (hf : f_X11_ask f = some r) : MS l (XC Z) yX11_ask wsX11_ask rm_X11_ask [.ref (Z.2.1 0)] f (PI r.1 r.2) := by
  refine MS.of (cc := cX11_ask) (maxL := 1) (ret := (some .int)) (own := RX11) (lv := [(0, .ref (Z.2.1 0))]) (by decide) rfl rfl (Nat.le_of_ble_eq_true rfl) rfl ?_
  intro a A hla F
  subst hla
  unfold f_X11_ask at hf
  refine rw_aload_n F dX11_ask_0 rfl 0 rfl ?_
  refine rw_get F 0 (show 0 < 39 by decide) (gC_0 Z _) iw_X11_ask_X11 rfl 1 (by decide) lk_X11_ask_19 rfl dX11_ask_1 ?_
  obtain ⟨q2, hq1, hf⟩ := bind_h hf
  refine rw_callVI F (k0 := 3) (nA := 0) (c_X5_stands_3 (aL a) Z  _ _ hq1) gX11_ask_X5_stands rfl ⟨rfl, rfl⟩ (by decide +kernel) ⟨Nat.le_of_ble_eq_true rfl, Nat.le_of_ble_eq_true rfl⟩ (show 3 < 39 by decide) (gC_3 Z _) rfl rfl rfl (Nat.le_of_ble_eq_true rfl) dX11_ask_4 ?_
  refine rw_if_ne F (tgt := 13) hf dX11_ask_7 (by decide) (fun hc7 hf => ?_) (fun hc7 hf => ?_)
  · refine rw_aload_n F dX11_ask_13 rfl 0 rfl ?_
    refine rw_get F 0 (show 0 < 39 by decide) (gC_0 Z _) iw_X11_ask_X11 rfl 9 (by decide) lk_X11_ask_75 rfl dX11_ask_14 ?_
    obtain ⟨q4, hq3, hf⟩ := bind_h hf
    refine rw_callVV F (k0 := 32) (nA := 0) (c_X1_gatherBirths_32 (aL a) Z  _ _ hq3) gX11_ask_X1_gatherBirths rfl ⟨rfl, rfl⟩ (by decide +kernel) ⟨Nat.le_of_ble_eq_true rfl, Nat.le_of_ble_eq_true rfl⟩ (show 32 < 39 by decide) (gC_32 Z _) rfl rfl rfl (Nat.le_of_ble_eq_true rfl) dX11_ask_17 ?_
    refine rw_aload_n F dX11_ask_20 rfl 0 rfl ?_
    refine rw_get F 0 (show 0 < 39 by decide) (gC_0 Z _) iw_X11_ask_X11 rfl 9 (by decide) lk_X11_ask_75 rfl dX11_ask_21 ?_
    obtain ⟨q6, hq5, hf⟩ := bind_h hf
    refine rw_callVI F (k0 := 32) (nA := 0) (c_X1_bestAsked_32 (aL a) Z  _ _ hq5) gX11_ask_X1_bestAsked rfl ⟨rfl, rfl⟩ (by decide +kernel) ⟨Nat.le_of_ble_eq_true rfl, Nat.le_of_ble_eq_true rfl⟩ (show 32 < 39 by decide) (gC_32 Z _) rfl rfl rfl (Nat.le_of_ble_eq_true rfl) dX11_ask_24 ?_
    exact rw_iretS F hf rfl dX11_ask_27
  · refine rw_ldc F (v := -1000000003) dX11_ask_10 (by decide +kernel) ?_
    exact rw_iretS F hf rfl dX11_ask_12

abbrev rm_X0_add_37 : Room := { frames := 1, cells := 0, slots := 0, locals := 22 }
abbrev FX_X0_add_37 (a : Ax) (Z : Zx) (A : Nat → Prop) : Prop := FX a (XC Z) A cX0_add RX0 wsX0_add 2 (some .boolean) rm_X0_add_37
theorem iw_X0_add_X0 : ∀ w ∈ wsX00, w ∈ wsX0_add := by decide +kernel
theorem lk_X0_add_9 : Cond.fieldLink RX0 9 (TX0 0).1 (TX0 0).2.1 (TX0 0).2.2.1 ∈ wsX0_add := by decide +kernel
theorem lk_X0_add_15 : Cond.fieldLink RX0 15 (TX0 1).1 (TX0 1).2.1 (TX0 1).2.2.1 ∈ wsX0_add := by decide +kernel
set_option maxHeartbeats 4000000 in
set_option maxRecDepth 100000 in
theorem c_X0_add_37 (l : Launch) (Z : Zx) (p1 : Int32) (f : Nat → Nat → Int32) (r : (Int32 × (Nat → Nat → Int32))) (hf : f_X0_add_37 p1 f = some r) : MS l (XC Z) yX0_add wsX0_add rm_X0_add_37 [.ref (Z.2.1 37), .int p1] f (PI r.1 r.2) := by
  refine MS.of (cc := cX0_add) (maxL := 2) (ret := (some .boolean)) (own := RX0) (lv := [(0, .ref (Z.2.1 37)), (1, .int p1)]) (by decide) rfl rfl (Nat.le_of_ble_eq_true rfl) rfl ?_
  intro a A hla F
  subst hla
  unfold f_X0_add_37 at hf
  refine rw_aload_n F dX0_add_0 rfl 0 rfl ?_
  refine rw_get F 37 (show 37 < 39 by decide) (gC_37 Z _) iw_X0_add_X0 rfl 1 (by decide) lk_X0_add_15 rfl dX0_add_1 ?_
  refine rw_bipush F (v := 15) dX0_add_4 (by decide) ?_
  refine rw_icmp_lt F (tgt := 11) hf dX0_add_6 (by decide) (fun hc3 hf => ?_) (fun hc3 hf => ?_)
  · refine rw_aload_n F dX0_add_11 rfl 0 rfl ?_
    refine rw_get F 37 (show 37 < 39 by decide) (gC_37 Z _) iw_X0_add_X0 rfl 0 (by decide) lk_X0_add_9 rfl dX0_add_12 ?_
    refine rw_aload_n F dX0_add_15 rfl 0 rfl ?_
    refine rw_get F 37 (show 37 < 39 by decide) (gC_37 Z _) iw_X0_add_X0 rfl 1 (by decide) lk_X0_add_15 rfl dX0_add_16 ?_
    refine rw_iload_n F dX0_add_19 rfl 1 rfl ?_
    obtain ⟨q2, hq1, hf⟩ := bind_h hf
    refine rw_callSV F (nA := 3) (c_X7_put (aL a) Z (show 38 < 39 by decide) (gC_38 Z) _ _ _ _ hq1) gX0_add_X7_put rfl ⟨rfl, rfl⟩ (by decide +kernel) ⟨Nat.le_of_ble_eq_true rfl, Nat.le_of_ble_eq_true rfl⟩ rfl rfl (Nat.le_of_ble_eq_true rfl) dX0_add_20 ?_
    refine rw_aload_n F dX0_add_23 rfl 0 rfl ?_
    refine rw_dup F dX0_add_24 rfl ?_
    refine rw_get F 37 (show 37 < 39 by decide) (gC_37 Z _) iw_X0_add_X0 rfl 1 (by decide) lk_X0_add_15 rfl dX0_add_25 ?_
    refine rw_iconst F (v := 1) dX0_add_28 (by decide) ?_
    refine rw_iadd F dX0_add_29 ?_
    refine rw_put F 37 (show 37 < 39 by decide) (gC_37 Z) iw_X0_add_X0 tyX0 tyX0_ok nmX0 rfl 1 (by decide) lk_X0_add_15 rfl rfl rfl (fun _ => by rw [lnC37]; decide) (stC37_1 Z.2.1) dX0_add_30 ?_
    refine rw_iconst F (v := 1) dX0_add_33 (by decide) ?_
    exact rw_zretZS F (by decide) hf rfl dX0_add_34
  · refine rw_iconst F (v := 0) dX0_add_9 (by decide) ?_
    exact rw_zretZS F (by decide) hf rfl dX0_add_10

abbrev rm_X11_write : Room := { frames := 2, cells := 0, slots := 0, locals := 43 }
abbrev FX_X11_write (a : Ax) (Z : Zx) (A : Nat → Prop) : Prop := FX a (XC Z) A cX11_write RX11 wsX11_write 2 (some .int) rm_X11_write
theorem iw_X11_write_X0 : ∀ w ∈ wsX00, w ∈ wsX11_write := by decide +kernel
theorem iw_X11_write_X11 : ∀ w ∈ wsX110, w ∈ wsX11_write := by decide +kernel
theorem lk_X11_write_82 : Cond.fieldLink RX11 82 (TX11 10).1 (TX11 10).2.1 (TX11 10).2.2.1 ∈ wsX11_write := by decide +kernel
theorem lk_X11_write_124 : Cond.fieldLink RX11 124 (TX0 1).1 (TX0 1).2.1 (TX0 1).2.2.1 ∈ wsX11_write := by decide +kernel
set_option maxHeartbeats 4000000 in
set_option maxRecDepth 100000 in
theorem c_X11_write (l : Launch) (Z : Zx) (p1 : Int32) (f : Nat → Nat → Int32) (r : (Int32 × (Nat → Nat → Int32))) (hf : f_X11_write p1 f = some r) : MS l (XC Z) yX11_write wsX11_write rm_X11_write [.ref (Z.2.1 0), .int p1] f (PI r.1 r.2) := by
  refine MS.of (cc := cX11_write) (maxL := 2) (ret := (some .int)) (own := RX11) (lv := [(0, .ref (Z.2.1 0)), (1, .int p1)]) (by decide) rfl rfl (Nat.le_of_ble_eq_true rfl) rfl ?_
  intro a A hla F
  subst hla
  unfold f_X11_write at hf
  refine rw_iload_n F dX11_write_0 rfl 1 rfl ?_
  refine rw_bipush F (v := 7) dX11_write_1 (by decide) ?_
  obtain ⟨q2, hq1, hf⟩ := bind_h hf
  refine rw_callSI F (nA := 2) (c_X11_isOutside (aL a) Z _ _ _ _ hq1) gX11_write_X11_isOutside rfl ⟨rfl, rfl⟩ (by decide +kernel) ⟨Nat.le_of_ble_eq_true rfl, Nat.le_of_ble_eq_true rfl⟩ rfl rfl (Nat.le_of_ble_eq_true rfl) dX11_write_3 ?_
  refine rw_if_eq F (tgt := 12) hf dX11_write_6 (by decide) (fun hc6 hf => ?_) (fun hc6 hf => ?_)
  · refine rw_aload_n F dX11_write_12 rfl 0 rfl ?_
    refine rw_get F 0 (show 0 < 39 by decide) (gC_0 Z _) iw_X11_write_X11 rfl 10 (by decide) lk_X11_write_82 rfl dX11_write_13 ?_
    refine rw_iload_n F dX11_write_16 rfl 1 rfl ?_
    obtain ⟨q4, hq3, hf⟩ := bind_h hf
    refine rw_callVI F (k0 := 37) (nA := 1) (c_X0_add_37 (aL a) Z _ _ _ hq3) gX11_write_X0_add rfl ⟨rfl, rfl⟩ (by decide +kernel) ⟨Nat.le_of_ble_eq_true rfl, Nat.le_of_ble_eq_true rfl⟩ (show 37 < 39 by decide) (gC_37 Z _) rfl rfl rfl (Nat.le_of_ble_eq_true rfl) dX11_write_17 ?_
    refine rw_if_eq F (tgt := 33) hf dX11_write_20 (by decide) (fun hc5 hf => ?_) (fun hc5 hf => ?_)
    · refine rw_ldc F (v := -1000000004) dX11_write_33 (by decide +kernel) ?_
      exact rw_iretS F hf rfl dX11_write_35
    · refine rw_aload_n F dX11_write_23 rfl 0 rfl ?_
      refine rw_get F 0 (show 0 < 39 by decide) (gC_0 Z _) iw_X11_write_X11 rfl 10 (by decide) lk_X11_write_82 rfl dX11_write_24 ?_
      refine rw_get F 37 (show 37 < 39 by decide) (gC_37 Z _) iw_X11_write_X0 rfl 1 (by decide) lk_X11_write_124 rfl dX11_write_27 ?_
      refine rw_goto F (tgt := 35) dX11_write_30 (by decide) ?_
      exact rw_iretS F hf rfl dX11_write_35
  · refine rw_ldc F (v := -1000000002) dX11_write_9 (by decide +kernel) ?_
    exact rw_iretS F hf rfl dX11_write_11

abbrev rm_X11_tear : Room := { frames := 0, cells := 0, slots := 0, locals := 0 }
abbrev FX_X11_tear (a : Ax) (Z : Zx) (A : Nat → Prop) : Prop := FX a (XC Z) A cX11_tear RX11 wsX11_tear 2 (some .int) rm_X11_tear
theorem iw_X11_tear_X0 : ∀ w ∈ wsX00, w ∈ wsX11_tear := by decide +kernel
theorem iw_X11_tear_X1 : ∀ w ∈ wsX10, w ∈ wsX11_tear := by decide +kernel
theorem iw_X11_tear_X11 : ∀ w ∈ wsX110, w ∈ wsX11_tear := by decide +kernel
theorem lk_X11_tear_75 : Cond.fieldLink RX11 75 (TX11 9).1 (TX11 9).2.1 (TX11 9).2.2.1 ∈ wsX11_tear := by decide +kernel
theorem lk_X11_tear_82 : Cond.fieldLink RX11 82 (TX11 10).1 (TX11 10).2.1 (TX11 10).2.2.1 ∈ wsX11_tear := by decide +kernel
theorem lk_X11_tear_121 : Cond.fieldLink RX11 121 (TX1 4).1 (TX1 4).2.1 (TX1 4).2.2.1 ∈ wsX11_tear := by decide +kernel
theorem lk_X11_tear_124 : Cond.fieldLink RX11 124 (TX0 1).1 (TX0 1).2.1 (TX0 1).2.2.1 ∈ wsX11_tear := by decide +kernel
set_option maxHeartbeats 4000000 in
set_option maxRecDepth 100000 in
theorem c_X11_tear (l : Launch) (Z : Zx) (f : Nat → Nat → Int32) (r : (Int32 × (Nat → Nat → Int32))) (hf : f_X11_tear f = some r) : MS l (XC Z) yX11_tear wsX11_tear rm_X11_tear [.ref (Z.2.1 0)] f (PI r.1 r.2) := by
  refine MS.of (cc := cX11_tear) (maxL := 2) (ret := (some .int)) (own := RX11) (lv := [(0, .ref (Z.2.1 0))]) (by decide) rfl rfl (Nat.le_of_ble_eq_true rfl) rfl ?_
  intro a A hla F
  subst hla
  unfold f_X11_tear at hf
  refine rw_aload_n F dX11_tear_0 rfl 0 rfl ?_
  refine rw_get F 0 (show 0 < 39 by decide) (gC_0 Z _) iw_X11_tear_X11 rfl 9 (by decide) lk_X11_tear_75 rfl dX11_tear_1 ?_
  refine rw_get F 32 (show 32 < 39 by decide) (gC_32 Z _) iw_X11_tear_X1 rfl 4 (by decide) lk_X11_tear_121 rfl dX11_tear_4 ?_
  refine rw_aload_n F dX11_tear_7 rfl 0 rfl ?_
  refine rw_get F 0 (show 0 < 39 by decide) (gC_0 Z _) iw_X11_tear_X11 rfl 10 (by decide) lk_X11_tear_82 rfl dX11_tear_8 ?_
  refine rw_get F 37 (show 37 < 39 by decide) (gC_37 Z _) iw_X11_tear_X0 rfl 1 (by decide) lk_X11_tear_124 rfl dX11_tear_11 ?_
  refine rw_iadd F dX11_tear_14 ?_
  refine rw_istore_n F dX11_tear_15 rfl (by decide) rfl ?_
  refine rw_aload_n F dX11_tear_16 rfl 1 rfl ?_
  refine rw_get F 0 (show 0 < 39 by decide) (gC_0 Z _) iw_X11_tear_X11 rfl 9 (by decide) lk_X11_tear_75 rfl dX11_tear_17 ?_
  refine rw_iconst F (v := 0) dX11_tear_20 (by decide) ?_
  refine rw_put F 32 (show 32 < 39 by decide) (gC_32 Z) iw_X11_tear_X1 tyX1 tyX1_ok nmX1 rfl 4 (by decide) lk_X11_tear_121 rfl rfl rfl (fun _ => by rw [lnC32]; decide) (stC32_4 Z.2.1) dX11_tear_21 ?_
  refine rw_aload_n F dX11_tear_24 rfl 1 rfl ?_
  refine rw_get F 0 (show 0 < 39 by decide) (gC_0 Z _) iw_X11_tear_X11 rfl 10 (by decide) lk_X11_tear_82 rfl dX11_tear_25 ?_
  refine rw_iconst F (v := 0) dX11_tear_28 (by decide) ?_
  refine rw_put F 37 (show 37 < 39 by decide) (gC_37 Z) iw_X11_tear_X0 tyX0 tyX0_ok nmX0 rfl 1 (by decide) lk_X11_tear_124 rfl rfl rfl (fun _ => by rw [lnC37]; decide) (stC37_1 Z.2.1) dX11_tear_29 ?_
  refine rw_iload_n F dX11_tear_32 rfl 0 rfl ?_
  exact rw_iretS F hf rfl dX11_tear_33

abbrev rm_X0_firstOtherThan_37 : Room := { frames := 1, cells := 0, slots := 0, locals := 21 }
abbrev FX_X0_firstOtherThan_37 (a : Ax) (Z : Zx) (A : Nat → Prop) : Prop := FX a (XC Z) A cX0_firstOtherThan RX0 wsX0_firstOtherThan 3 (some .int) rm_X0_firstOtherThan_37
theorem iw_X0_firstOtherThan_X0 : ∀ w ∈ wsX00, w ∈ wsX0_firstOtherThan := by decide +kernel
theorem lk_X0_firstOtherThan_9 : Cond.fieldLink RX0 9 (TX0 0).1 (TX0 0).2.1 (TX0 0).2.2.1 ∈ wsX0_firstOtherThan := by decide +kernel
theorem lk_X0_firstOtherThan_15 : Cond.fieldLink RX0 15 (TX0 1).1 (TX0 1).2.1 (TX0 1).2.2.1 ∈ wsX0_firstOtherThan := by decide +kernel
set_option maxHeartbeats 4000000 in
set_option maxRecDepth 100000 in
theorem b_X0_firstOtherThan_37_b2 {a : Ax} {Z : Zx} {A : Nat → Prop} {r : Int32} {f : Nat → Nat → Int32} (F : FX_X0_firstOtherThan_37 a Z A) : ∀ (n : Nat) (i1 : Int32) (i2 : Int32), f_X0_firstOtherThan_37_b2 n i1 i2 f = some r → WS a (XC Z) A 3 (RP a (XC Z) A (PI r f)) 2 [(0, .ref (Z.2.1 37)), (1, .int i1), (2, .int i2)] [] f := by
  intro n
  induction n with
  | zero => intro i1 i2 hf; exact nomatch (show (none : Option Int32) = some r from hf)
  | succ n hK2 =>
    intro i1 i2 hf
    replace hf : f_X0_firstOtherThan_37_b2s (fun i1 i2 => f_X0_firstOtherThan_37_b2 n i1 i2 f) i1 i2 f = some r := hf
    unfold f_X0_firstOtherThan_37_b2s at hf
    refine rw_iload_n F dX0_firstOtherThan_2 rfl 2 rfl ?_
    refine rw_aload_n F dX0_firstOtherThan_3 rfl 0 rfl ?_
    refine rw_get F 37 (show 37 < 39 by decide) (gC_37 Z _) iw_X0_firstOtherThan_X0 rfl 1 (by decide) lk_X0_firstOtherThan_15 rfl dX0_firstOtherThan_4 ?_
    refine rw_icmp_ge F (tgt := 30) hf dX0_firstOtherThan_7 (by decide) (fun hc4 hf => ?_) (fun hc4 hf => ?_)
    · refine rw_iconst F (v := -1) dX0_firstOtherThan_30 (by decide) ?_
      exact rw_iret F hf rfl dX0_firstOtherThan_31
    · refine rw_aload_n F dX0_firstOtherThan_10 rfl 0 rfl ?_
      refine rw_get F 37 (show 37 < 39 by decide) (gC_37 Z _) iw_X0_firstOtherThan_X0 rfl 0 (by decide) lk_X0_firstOtherThan_9 rfl dX0_firstOtherThan_11 ?_
      refine rw_iload_n F dX0_firstOtherThan_14 rfl 2 rfl ?_
      obtain ⟨q2, hq1, hf⟩ := bind_h hf
      refine rw_callSI F (nA := 2) (c_X7_get (aL a) Z (show 38 < 39 by decide) (gC_38 Z) _ _ _ hq1) gX0_firstOtherThan_X7_get rfl ⟨rfl, rfl⟩ (by decide +kernel) ⟨Nat.le_of_ble_eq_true rfl, Nat.le_of_ble_eq_true rfl⟩ rfl rfl (Nat.le_of_ble_eq_true rfl) dX0_firstOtherThan_15 ?_
      refine rw_iload_n F dX0_firstOtherThan_18 rfl 1 rfl ?_
      refine rw_icmp_eq F (tgt := 24) hf dX0_firstOtherThan_19 (by decide) (fun hc3 hf => ?_) (fun hc3 hf => ?_)
      · refine rw_iinc F (v := 1) dX0_firstOtherThan_24 2 rfl (by decide) (by decide) rfl ?_
        refine rw_goto F (tgt := 2) dX0_firstOtherThan_27 (by decide) ?_
        exact WS.sub [1, 2, 0] rfl (hK2 _ _ hf)
      · refine rw_iload_n F dX0_firstOtherThan_22 rfl 2 rfl ?_
        exact rw_iret F hf rfl dX0_firstOtherThan_23

set_option maxHeartbeats 4000000 in
set_option maxRecDepth 100000 in
theorem c_X0_firstOtherThan_37 (l : Launch) (Z : Zx) (p1 : Int32) (f : Nat → Nat → Int32) (r : Int32) (hf : f_X0_firstOtherThan_37 p1 f = some r) : MS l (XC Z) yX0_firstOtherThan wsX0_firstOtherThan rm_X0_firstOtherThan_37 [.ref (Z.2.1 37), .int p1] f (PI r f) := by
  refine MS.of (cc := cX0_firstOtherThan) (maxL := 3) (ret := (some .int)) (own := RX0) (lv := [(0, .ref (Z.2.1 37)), (1, .int p1)]) (by decide) rfl rfl (Nat.le_of_ble_eq_true rfl) rfl ?_
  intro a A hla F
  subst hla
  unfold f_X0_firstOtherThan_37 at hf
  refine rw_iconst F (v := 0) dX0_firstOtherThan_0 (by decide) ?_
  refine rw_istore_n F dX0_firstOtherThan_1 rfl (by decide) rfl ?_
  exact WS.sub [1, 2, 0] rfl (b_X0_firstOtherThan_37_b2 F  fuB _ _ hf)

abbrev rm_X11_judge : Room := { frames := 2, cells := 0, slots := 0, locals := 43 }
abbrev FX_X11_judge (a : Ax) (Z : Zx) (A : Nat → Prop) : Prop := FX a (XC Z) A cX11_judge RX11 wsX11_judge 1 (some .int) rm_X11_judge
theorem iw_X11_judge_X11 : ∀ w ∈ wsX110, w ∈ wsX11_judge := by decide +kernel
theorem lk_X11_judge_35 : Cond.fieldLink RX11 35 (TX11 3).1 (TX11 3).2.1 (TX11 3).2.2.1 ∈ wsX11_judge := by decide +kernel
theorem lk_X11_judge_82 : Cond.fieldLink RX11 82 (TX11 10).1 (TX11 10).2.1 (TX11 10).2.2.1 ∈ wsX11_judge := by decide +kernel
set_option maxHeartbeats 4000000 in
set_option maxRecDepth 100000 in
theorem c_X11_judge (l : Launch) (Z : Zx) (f : Nat → Nat → Int32) (r : Int32) (hf : f_X11_judge f = some r) : MS l (XC Z) yX11_judge wsX11_judge rm_X11_judge [.ref (Z.2.1 0)] f (PI r f) := by
  refine MS.of (cc := cX11_judge) (maxL := 1) (ret := (some .int)) (own := RX11) (lv := [(0, .ref (Z.2.1 0))]) (by decide) rfl rfl (Nat.le_of_ble_eq_true rfl) rfl ?_
  intro a A hla F
  subst hla
  unfold f_X11_judge at hf
  refine rw_aload_n F dX11_judge_0 rfl 0 rfl ?_
  refine rw_get F 0 (show 0 < 39 by decide) (gC_0 Z _) iw_X11_judge_X11 rfl 10 (by decide) lk_X11_judge_82 rfl dX11_judge_1 ?_
  refine rw_aload_n F dX11_judge_4 rfl 0 rfl ?_
  refine rw_get F 0 (show 0 < 39 by decide) (gC_0 Z _) iw_X11_judge_X11 rfl 3 (by decide) lk_X11_judge_35 rfl dX11_judge_5 ?_
  refine rw_iconst F (v := 4) dX11_judge_8 (by decide) ?_
  obtain ⟨q2, hq1, hf⟩ := bind_h hf
  refine rw_callVI F (k0 := 18) (nA := 1) (c_X8_get_18 (aL a) Z _ _ _ hq1) gX11_judge_X8_get rfl ⟨rfl, rfl⟩ (by decide +kernel) ⟨Nat.le_of_ble_eq_true rfl, Nat.le_of_ble_eq_true rfl⟩ (show 18 < 39 by decide) (gC_18 Z _) rfl rfl rfl (Nat.le_of_ble_eq_true rfl) dX11_judge_9 ?_
  obtain ⟨q4, hq3, hf⟩ := bind_h hf
  refine rw_callSI F (nA := 1) (c_J6_bitCount_0f7a4 (aL a) Z _ _ _ hq3) gX11_judge_J6_bitCount_0f7a4 rfl ⟨rfl, rfl⟩ (by decide +kernel) ⟨Nat.le_of_ble_eq_true rfl, Nat.le_of_ble_eq_true rfl⟩ rfl rfl (Nat.le_of_ble_eq_true rfl) dX11_judge_12 ?_
  obtain ⟨q6, hq5, hf⟩ := bind_h hf
  refine rw_callVI F (k0 := 37) (nA := 1) (c_X0_firstOtherThan_37 (aL a) Z _ _ _ hq5) gX11_judge_X0_firstOtherThan rfl ⟨rfl, rfl⟩ (by decide +kernel) ⟨Nat.le_of_ble_eq_true rfl, Nat.le_of_ble_eq_true rfl⟩ (show 37 < 39 by decide) (gC_37 Z _) rfl rfl rfl (Nat.le_of_ble_eq_true rfl) dX11_judge_15 ?_
  exact rw_iret F hf rfl dX11_judge_18

abbrev rm_X11_seed : Room := { frames := 0, cells := 0, slots := 0, locals := 0 }
abbrev FX_X11_seed (a : Ax) (Z : Zx) (A : Nat → Prop) : Prop := FX a (XC Z) A cX11_seed RX11 wsX11_seed 3 (some .int) rm_X11_seed
theorem iw_X11_seed_X11 : ∀ w ∈ wsX110, w ∈ wsX11_seed := by decide +kernel
theorem lk_X11_seed_275 : Cond.fieldLink RX11 275 (TX11 5).1 (TX11 5).2.1 (TX11 5).2.2.1 ∈ wsX11_seed := by decide +kernel
set_option maxHeartbeats 4000000 in
set_option maxRecDepth 100000 in
theorem c_X11_seed (l : Launch) (Z : Zx) (p1 : Int32) (f : Nat → Nat → Int32) (r : (Int32 × (Nat → Nat → Int32))) (hf : f_X11_seed p1 f = some r) : MS l (XC Z) yX11_seed wsX11_seed rm_X11_seed [.ref (Z.2.1 0), .int p1] f (PI r.1 r.2) := by
  refine MS.of (cc := cX11_seed) (maxL := 3) (ret := (some .int)) (own := RX11) (lv := [(0, .ref (Z.2.1 0)), (1, .int p1)]) (by decide) rfl rfl (Nat.le_of_ble_eq_true rfl) rfl ?_
  intro a A hla F
  subst hla
  unfold f_X11_seed at hf
  refine rw_iload_n F dX11_seed_0 rfl 1 rfl ?_
  refine rw_if_ge F (tgt := 7) hf dX11_seed_1 (by decide) (fun hc1 hf => ?_) (fun hc1 hf => ?_)
  · refine rw_aload_n F dX11_seed_7 rfl 0 rfl ?_
    refine rw_get F 0 (show 0 < 39 by decide) (gC_0 Z _) iw_X11_seed_X11 rfl 5 (by decide) lk_X11_seed_275 rfl dX11_seed_8 ?_
    refine rw_istore_n F dX11_seed_11 rfl (by decide) rfl ?_
    refine rw_aload_n F dX11_seed_12 rfl 1 rfl ?_
    refine rw_iload_n F dX11_seed_13 rfl 2 rfl ?_
    refine rw_put F 0 (show 0 < 39 by decide) (gC_0 Z) iw_X11_seed_X11 tyX11 tyX11_ok nmX11 rfl 5 (by decide) lk_X11_seed_275 rfl rfl rfl (fun _ => by rw [lnC0]; decide) (stC0_5 Z.2.1) dX11_seed_14 ?_
    refine rw_iload_n F dX11_seed_17 rfl 0 rfl ?_
    exact rw_iretS F hf rfl dX11_seed_18
  · refine rw_ldc F (v := -1000000002) dX11_seed_4 (by decide +kernel) ?_
    exact rw_iretS F hf rfl dX11_seed_6

abbrev rm_X8_take_24_18 : Room := { frames := 2, cells := 0, slots := 0, locals := 47 }
abbrev FX_X8_take_24_18 (a : Ax) (Z : Zx) (A : Nat → Prop) : Prop := FX a (XC Z) A cX8_take RX8 wsX8_take 2 none rm_X8_take_24_18
theorem iw_X8_take_X8 : ∀ w ∈ wsX80, w ∈ wsX8_take := by decide +kernel
theorem lk_X8_take_11 : Cond.fieldLink RX8 11 (TX8 0).1 (TX8 0).2.1 (TX8 0).2.2.1 ∈ wsX8_take := by decide +kernel
set_option maxHeartbeats 4000000 in
set_option maxRecDepth 100000 in
theorem c_X8_take_24_18 (l : Launch) (Z : Zx) (f : Nat → Nat → Int32) (r : Nat → Nat → Int32) (hf : f_X8_take_24_18 f = some r) : MS l (XC Z) yX8_take wsX8_take rm_X8_take_24_18 [.ref (Z.2.1 24), .ref (Z.2.1 18)] f (PV r) := by
  refine MS.of (cc := cX8_take) (maxL := 2) (ret := none) (own := RX8) (lv := [(0, .ref (Z.2.1 24)), (1, .ref (Z.2.1 18))]) (by decide) rfl rfl (Nat.le_of_ble_eq_true rfl) rfl ?_
  intro a A hla F
  subst hla
  unfold f_X8_take_24_18 at hf
  refine rw_aload_n F dX8_take_0 rfl 1 rfl ?_
  refine rw_get F 18 (show 18 < 39 by decide) (gC_18 Z _) iw_X8_take_X8 rfl 0 (by decide) lk_X8_take_11 rfl dX8_take_1 ?_
  refine rw_iconst F (v := 0) dX8_take_4 (by decide) ?_
  refine rw_aload_n F dX8_take_5 rfl 0 rfl ?_
  refine rw_get F 24 (show 24 < 39 by decide) (gC_24 Z _) iw_X8_take_X8 rfl 0 (by decide) lk_X8_take_11 rfl dX8_take_6 ?_
  refine rw_iconst F (v := 0) dX8_take_9 (by decide) ?_
  refine rw_bipush F (v := 28) dX8_take_10 (by decide) ?_
  obtain ⟨q2, hq1, hf⟩ := bind_h hf
  refine rw_callSV F (nA := 5) (c_X7_copy (aL a) Z (show 19 < 39 by decide) (gC_19 Z) (show 25 < 39 by decide) (gC_25 Z) _ _ _ _ _ hq1) gX8_take_X7_copy rfl ⟨rfl, rfl⟩ (by decide +kernel) ⟨Nat.le_of_ble_eq_true rfl, Nat.le_of_ble_eq_true rfl⟩ rfl rfl (Nat.le_of_ble_eq_true rfl) dX8_take_12 ?_
  exact rw_vret F hf rfl dX8_take_15

abbrev rm_X8_take_27_18 : Room := { frames := 2, cells := 0, slots := 0, locals := 47 }
abbrev FX_X8_take_27_18 (a : Ax) (Z : Zx) (A : Nat → Prop) : Prop := FX a (XC Z) A cX8_take RX8 wsX8_take 2 none rm_X8_take_27_18
set_option maxHeartbeats 4000000 in
set_option maxRecDepth 100000 in
theorem c_X8_take_27_18 (l : Launch) (Z : Zx) (f : Nat → Nat → Int32) (r : Nat → Nat → Int32) (hf : f_X8_take_27_18 f = some r) : MS l (XC Z) yX8_take wsX8_take rm_X8_take_27_18 [.ref (Z.2.1 27), .ref (Z.2.1 18)] f (PV r) := by
  refine MS.of (cc := cX8_take) (maxL := 2) (ret := none) (own := RX8) (lv := [(0, .ref (Z.2.1 27)), (1, .ref (Z.2.1 18))]) (by decide) rfl rfl (Nat.le_of_ble_eq_true rfl) rfl ?_
  intro a A hla F
  subst hla
  unfold f_X8_take_27_18 at hf
  refine rw_aload_n F dX8_take_0 rfl 1 rfl ?_
  refine rw_get F 18 (show 18 < 39 by decide) (gC_18 Z _) iw_X8_take_X8 rfl 0 (by decide) lk_X8_take_11 rfl dX8_take_1 ?_
  refine rw_iconst F (v := 0) dX8_take_4 (by decide) ?_
  refine rw_aload_n F dX8_take_5 rfl 0 rfl ?_
  refine rw_get F 27 (show 27 < 39 by decide) (gC_27 Z _) iw_X8_take_X8 rfl 0 (by decide) lk_X8_take_11 rfl dX8_take_6 ?_
  refine rw_iconst F (v := 0) dX8_take_9 (by decide) ?_
  refine rw_bipush F (v := 28) dX8_take_10 (by decide) ?_
  obtain ⟨q2, hq1, hf⟩ := bind_h hf
  refine rw_callSV F (nA := 5) (c_X7_copy (aL a) Z (show 19 < 39 by decide) (gC_19 Z) (show 28 < 39 by decide) (gC_28 Z) _ _ _ _ _ hq1) gX8_take_X7_copy rfl ⟨rfl, rfl⟩ (by decide +kernel) ⟨Nat.le_of_ble_eq_true rfl, Nat.le_of_ble_eq_true rfl⟩ rfl rfl (Nat.le_of_ble_eq_true rfl) dX8_take_12 ?_
  exact rw_vret F hf rfl dX8_take_15

abbrev rm_X11_keep : Room := { frames := 3, cells := 0, slots := 0, locals := 68 }
abbrev FX_X11_keep (a : Ax) (Z : Zx) (A : Nat → Prop) : Prop := FX a (XC Z) A cX11_keep RX11 wsX11_keep 3 (some .int) rm_X11_keep
theorem iw_X11_keep_X11 : ∀ w ∈ wsX110, w ∈ wsX11_keep := by decide +kernel
theorem iw_X11_keep_X3 : ∀ w ∈ wsX30, w ∈ wsX11_keep := by decide +kernel
theorem lk_X11_keep_35 : Cond.fieldLink RX11 35 (TX11 3).1 (TX11 3).2.1 (TX11 3).2.2.1 ∈ wsX11_keep := by decide +kernel
theorem lk_X11_keep_42 : Cond.fieldLink RX11 42 (TX11 4).1 (TX11 4).2.1 (TX11 4).2.2.1 ∈ wsX11_keep := by decide +kernel
theorem lk_X11_keep_275 : Cond.fieldLink RX11 275 (TX11 5).1 (TX11 5).2.1 (TX11 5).2.2.1 ∈ wsX11_keep := by decide +kernel
theorem lk_X11_keep_282 : Cond.fieldLink RX11 282 (TX3 0).1 (TX3 0).2.1 (TX3 0).2.2.1 ∈ wsX11_keep := by decide +kernel
theorem lk_X11_keep_285 : Cond.fieldLink RX11 285 (TX3 1).1 (TX3 1).2.1 (TX3 1).2.2.1 ∈ wsX11_keep := by decide +kernel
theorem lk_X11_keep_288 : Cond.fieldLink RX11 288 (TX3 2).1 (TX3 2).2.1 (TX3 2).2.2.1 ∈ wsX11_keep := by decide +kernel
set_option maxHeartbeats 4000000 in
set_option maxRecDepth 100000 in
theorem c_X11_keep (l : Launch) (Z : Zx) (p1 : Int32) (f : Nat → Nat → Int32) (r : (Int32 × (Nat → Nat → Int32))) (hf : f_X11_keep p1 f = some r) : MS l (XC Z) yX11_keep wsX11_keep rm_X11_keep [.ref (Z.2.1 0), .int p1] f (PI r.1 r.2) := by
  refine MS.of (cc := cX11_keep) (maxL := 3) (ret := (some .int)) (own := RX11) (lv := [(0, .ref (Z.2.1 0)), (1, .int p1)]) (by decide) rfl rfl (Nat.le_of_ble_eq_true rfl) rfl ?_
  intro a A hla F
  subst hla
  unfold f_X11_keep at hf
  refine rw_aload_n F dX11_keep_0 rfl 0 rfl ?_
  refine rw_iload_n F dX11_keep_1 rfl 1 rfl ?_
  rcases if_h hf with ⟨he1, hf⟩ | ⟨he1, hf⟩
  · refine rw_callVQs F (k0 := 0) (nA := 1) (c_imageAt_0 (aL a) Z _ f he1) gX11_keep_X11_imageAt rfl ⟨rfl, rfl⟩ (by decide +kernel) ⟨Nat.le_of_ble_eq_true rfl, Nat.le_of_ble_eq_true rfl⟩ (show 0 < 39 by decide) (gC_0 Z _) rfl rfl rfl (Nat.le_of_ble_eq_true rfl) dX11_keep_2 ?_
    refine rw_astore_n F dX11_keep_5 rfl (by decide) rfl ?_
    refine rw_aload_n F dX11_keep_6 rfl 0 rfl ?_
    refine rw_ifnonnull F (tgt := 13) dX11_keep_7 (by decide) ?_
    refine rw_aload_n F dX11_keep_13 rfl 0 rfl ?_
    refine rw_get F 23 (show 23 < 39 by decide) (gC_23 Z _) iw_X11_keep_X3 rfl 0 (by decide) lk_X11_keep_282 rfl dX11_keep_14 ?_
    refine rw_aload_n F dX11_keep_17 rfl 1 rfl ?_
    refine rw_get F 0 (show 0 < 39 by decide) (gC_0 Z _) iw_X11_keep_X11 rfl 3 (by decide) lk_X11_keep_35 rfl dX11_keep_18 ?_
    obtain ⟨q4, hq3, hf⟩ := bind_h hf
    refine rw_callVV F (k0 := 24) (nA := 1) (c_X8_take_24_18 (aL a) Z  _ _ hq3) gX11_keep_X8_take rfl ⟨rfl, rfl⟩ (by decide +kernel) ⟨Nat.le_of_ble_eq_true rfl, Nat.le_of_ble_eq_true rfl⟩ (show 24 < 39 by decide) (gC_24 Z _) rfl rfl rfl (Nat.le_of_ble_eq_true rfl) dX11_keep_21 ?_
    refine rw_aload_n F dX11_keep_24 rfl 0 rfl ?_
    refine rw_aload_n F dX11_keep_25 rfl 1 rfl ?_
    refine rw_get F 0 (show 0 < 39 by decide) (gC_0 Z _) iw_X11_keep_X11 rfl 5 (by decide) lk_X11_keep_275 rfl dX11_keep_26 ?_
    refine rw_put F 23 (show 23 < 39 by decide) (gC_23 Z) iw_X11_keep_X3 tyX3 tyX3_ok nmX3 rfl 1 (by decide) lk_X11_keep_285 rfl rfl rfl (fun _ => by rw [lnC23]; decide) (stC23_1 Z.2.1) dX11_keep_29 ?_
    refine rw_aload_n F dX11_keep_32 rfl 0 rfl ?_
    refine rw_iconst F (v := 1) dX11_keep_33 (by decide) ?_
    refine rw_put F 23 (show 23 < 39 by decide) (gC_23 Z) iw_X11_keep_X3 tyX3 tyX3_ok nmX3 rfl 2 (by decide) lk_X11_keep_288 rfl rfl rfl (fun _ => by rw [lnC23]; decide) (stC23_2 Z.2.1) dX11_keep_34 ?_
    refine rw_aload_n F dX11_keep_37 rfl 1 rfl ?_
    refine rw_get F 0 (show 0 < 39 by decide) (gC_0 Z _) iw_X11_keep_X11 rfl 4 (by decide) lk_X11_keep_42 rfl dX11_keep_38 ?_
    obtain ⟨q6, hq5, hf⟩ := bind_h hf
    refine rw_callVV F (k0 := 20) (nA := 0) (c_X4_forget_20 (aL a) Z  _ _ hq5) gX11_keep_X4_forget rfl ⟨rfl, rfl⟩ (by decide +kernel) ⟨Nat.le_of_ble_eq_true rfl, Nat.le_of_ble_eq_true rfl⟩ (show 20 < 39 by decide) (gC_20 Z _) rfl rfl rfl (Nat.le_of_ble_eq_true rfl) dX11_keep_41 ?_
    refine rw_iconst F (v := 1) dX11_keep_44 (by decide) ?_
    exact rw_iretS F hf rfl dX11_keep_45
  · rcases if_h hf with ⟨he2, hf⟩ | ⟨he2, hf⟩
    · refine rw_callVQs F (k0 := 0) (nA := 1) (c_imageAt_1 (aL a) Z _ f he2) gX11_keep_X11_imageAt rfl ⟨rfl, rfl⟩ (by decide +kernel) ⟨Nat.le_of_ble_eq_true rfl, Nat.le_of_ble_eq_true rfl⟩ (show 0 < 39 by decide) (gC_0 Z _) rfl rfl rfl (Nat.le_of_ble_eq_true rfl) dX11_keep_2 ?_
      refine rw_astore_n F dX11_keep_5 rfl (by decide) rfl ?_
      refine rw_aload_n F dX11_keep_6 rfl 0 rfl ?_
      refine rw_ifnonnull F (tgt := 13) dX11_keep_7 (by decide) ?_
      refine rw_aload_n F dX11_keep_13 rfl 0 rfl ?_
      refine rw_get F 26 (show 26 < 39 by decide) (gC_26 Z _) iw_X11_keep_X3 rfl 0 (by decide) lk_X11_keep_282 rfl dX11_keep_14 ?_
      refine rw_aload_n F dX11_keep_17 rfl 1 rfl ?_
      refine rw_get F 0 (show 0 < 39 by decide) (gC_0 Z _) iw_X11_keep_X11 rfl 3 (by decide) lk_X11_keep_35 rfl dX11_keep_18 ?_
      obtain ⟨q8, hq7, hf⟩ := bind_h hf
      refine rw_callVV F (k0 := 27) (nA := 1) (c_X8_take_27_18 (aL a) Z  _ _ hq7) gX11_keep_X8_take rfl ⟨rfl, rfl⟩ (by decide +kernel) ⟨Nat.le_of_ble_eq_true rfl, Nat.le_of_ble_eq_true rfl⟩ (show 27 < 39 by decide) (gC_27 Z _) rfl rfl rfl (Nat.le_of_ble_eq_true rfl) dX11_keep_21 ?_
      refine rw_aload_n F dX11_keep_24 rfl 0 rfl ?_
      refine rw_aload_n F dX11_keep_25 rfl 1 rfl ?_
      refine rw_get F 0 (show 0 < 39 by decide) (gC_0 Z _) iw_X11_keep_X11 rfl 5 (by decide) lk_X11_keep_275 rfl dX11_keep_26 ?_
      refine rw_put F 26 (show 26 < 39 by decide) (gC_26 Z) iw_X11_keep_X3 tyX3 tyX3_ok nmX3 rfl 1 (by decide) lk_X11_keep_285 rfl rfl rfl (fun _ => by rw [lnC26]; decide) (stC26_1 Z.2.1) dX11_keep_29 ?_
      refine rw_aload_n F dX11_keep_32 rfl 0 rfl ?_
      refine rw_iconst F (v := 1) dX11_keep_33 (by decide) ?_
      refine rw_put F 26 (show 26 < 39 by decide) (gC_26 Z) iw_X11_keep_X3 tyX3 tyX3_ok nmX3 rfl 2 (by decide) lk_X11_keep_288 rfl rfl rfl (fun _ => by rw [lnC26]; decide) (stC26_2 Z.2.1) dX11_keep_34 ?_
      refine rw_aload_n F dX11_keep_37 rfl 1 rfl ?_
      refine rw_get F 0 (show 0 < 39 by decide) (gC_0 Z _) iw_X11_keep_X11 rfl 4 (by decide) lk_X11_keep_42 rfl dX11_keep_38 ?_
      obtain ⟨q10, hq9, hf⟩ := bind_h hf
      refine rw_callVV F (k0 := 20) (nA := 0) (c_X4_forget_20 (aL a) Z  _ _ hq9) gX11_keep_X4_forget rfl ⟨rfl, rfl⟩ (by decide +kernel) ⟨Nat.le_of_ble_eq_true rfl, Nat.le_of_ble_eq_true rfl⟩ (show 20 < 39 by decide) (gC_20 Z _) rfl rfl rfl (Nat.le_of_ble_eq_true rfl) dX11_keep_41 ?_
      refine rw_iconst F (v := 1) dX11_keep_44 (by decide) ?_
      exact rw_iretS F hf rfl dX11_keep_45
    · refine rw_callVQn F (k0 := 0) (nA := 1) (c_imageAt_n (aL a) Z _ f he1 he2) gX11_keep_X11_imageAt rfl ⟨rfl, rfl⟩ (by decide +kernel) ⟨Nat.le_of_ble_eq_true rfl, Nat.le_of_ble_eq_true rfl⟩ (show 0 < 39 by decide) (gC_0 Z _) rfl rfl rfl (Nat.le_of_ble_eq_true rfl) dX11_keep_2 ?_
      refine rw_astoreN_n F dX11_keep_5 rfl (by decide) rfl ?_
      refine rw_aload_nN F dX11_keep_6 rfl 0 rfl ?_
      refine rw_ifnonnullN F dX11_keep_7 ?_
      refine rw_ldc F (v := -1000000001) dX11_keep_10 (by decide +kernel) ?_
      exact rw_iretS F hf rfl dX11_keep_12

abbrev rm_X8_take_18_24 : Room := { frames := 2, cells := 0, slots := 0, locals := 47 }
abbrev FX_X8_take_18_24 (a : Ax) (Z : Zx) (A : Nat → Prop) : Prop := FX a (XC Z) A cX8_take RX8 wsX8_take 2 none rm_X8_take_18_24
set_option maxHeartbeats 4000000 in
set_option maxRecDepth 100000 in
theorem c_X8_take_18_24 (l : Launch) (Z : Zx) (f : Nat → Nat → Int32) (r : Nat → Nat → Int32) (hf : f_X8_take_18_24 f = some r) : MS l (XC Z) yX8_take wsX8_take rm_X8_take_18_24 [.ref (Z.2.1 18), .ref (Z.2.1 24)] f (PV r) := by
  refine MS.of (cc := cX8_take) (maxL := 2) (ret := none) (own := RX8) (lv := [(0, .ref (Z.2.1 18)), (1, .ref (Z.2.1 24))]) (by decide) rfl rfl (Nat.le_of_ble_eq_true rfl) rfl ?_
  intro a A hla F
  subst hla
  unfold f_X8_take_18_24 at hf
  refine rw_aload_n F dX8_take_0 rfl 1 rfl ?_
  refine rw_get F 24 (show 24 < 39 by decide) (gC_24 Z _) iw_X8_take_X8 rfl 0 (by decide) lk_X8_take_11 rfl dX8_take_1 ?_
  refine rw_iconst F (v := 0) dX8_take_4 (by decide) ?_
  refine rw_aload_n F dX8_take_5 rfl 0 rfl ?_
  refine rw_get F 18 (show 18 < 39 by decide) (gC_18 Z _) iw_X8_take_X8 rfl 0 (by decide) lk_X8_take_11 rfl dX8_take_6 ?_
  refine rw_iconst F (v := 0) dX8_take_9 (by decide) ?_
  refine rw_bipush F (v := 28) dX8_take_10 (by decide) ?_
  obtain ⟨q2, hq1, hf⟩ := bind_h hf
  refine rw_callSV F (nA := 5) (c_X7_copy (aL a) Z (show 25 < 39 by decide) (gC_25 Z) (show 19 < 39 by decide) (gC_19 Z) _ _ _ _ _ hq1) gX8_take_X7_copy rfl ⟨rfl, rfl⟩ (by decide +kernel) ⟨Nat.le_of_ble_eq_true rfl, Nat.le_of_ble_eq_true rfl⟩ rfl rfl (Nat.le_of_ble_eq_true rfl) dX8_take_12 ?_
  exact rw_vret F hf rfl dX8_take_15

abbrev rm_X8_take_18_27 : Room := { frames := 2, cells := 0, slots := 0, locals := 47 }
abbrev FX_X8_take_18_27 (a : Ax) (Z : Zx) (A : Nat → Prop) : Prop := FX a (XC Z) A cX8_take RX8 wsX8_take 2 none rm_X8_take_18_27
set_option maxHeartbeats 4000000 in
set_option maxRecDepth 100000 in
theorem c_X8_take_18_27 (l : Launch) (Z : Zx) (f : Nat → Nat → Int32) (r : Nat → Nat → Int32) (hf : f_X8_take_18_27 f = some r) : MS l (XC Z) yX8_take wsX8_take rm_X8_take_18_27 [.ref (Z.2.1 18), .ref (Z.2.1 27)] f (PV r) := by
  refine MS.of (cc := cX8_take) (maxL := 2) (ret := none) (own := RX8) (lv := [(0, .ref (Z.2.1 18)), (1, .ref (Z.2.1 27))]) (by decide) rfl rfl (Nat.le_of_ble_eq_true rfl) rfl ?_
  intro a A hla F
  subst hla
  unfold f_X8_take_18_27 at hf
  refine rw_aload_n F dX8_take_0 rfl 1 rfl ?_
  refine rw_get F 27 (show 27 < 39 by decide) (gC_27 Z _) iw_X8_take_X8 rfl 0 (by decide) lk_X8_take_11 rfl dX8_take_1 ?_
  refine rw_iconst F (v := 0) dX8_take_4 (by decide) ?_
  refine rw_aload_n F dX8_take_5 rfl 0 rfl ?_
  refine rw_get F 18 (show 18 < 39 by decide) (gC_18 Z _) iw_X8_take_X8 rfl 0 (by decide) lk_X8_take_11 rfl dX8_take_6 ?_
  refine rw_iconst F (v := 0) dX8_take_9 (by decide) ?_
  refine rw_bipush F (v := 28) dX8_take_10 (by decide) ?_
  obtain ⟨q2, hq1, hf⟩ := bind_h hf
  refine rw_callSV F (nA := 5) (c_X7_copy (aL a) Z (show 28 < 39 by decide) (gC_28 Z) (show 19 < 39 by decide) (gC_19 Z) _ _ _ _ _ hq1) gX8_take_X7_copy rfl ⟨rfl, rfl⟩ (by decide +kernel) ⟨Nat.le_of_ble_eq_true rfl, Nat.le_of_ble_eq_true rfl⟩ rfl rfl (Nat.le_of_ble_eq_true rfl) dX8_take_12 ?_
  exact rw_vret F hf rfl dX8_take_15

abbrev rm_X11_goBack : Room := { frames := 3, cells := 0, slots := 0, locals := 68 }
abbrev FX_X11_goBack (a : Ax) (Z : Zx) (A : Nat → Prop) : Prop := FX a (XC Z) A cX11_goBack RX11 wsX11_goBack 3 (some .int) rm_X11_goBack
theorem iw_X11_goBack_X11 : ∀ w ∈ wsX110, w ∈ wsX11_goBack := by decide +kernel
theorem iw_X11_goBack_X3 : ∀ w ∈ wsX30, w ∈ wsX11_goBack := by decide +kernel
theorem lk_X11_goBack_35 : Cond.fieldLink RX11 35 (TX11 3).1 (TX11 3).2.1 (TX11 3).2.2.1 ∈ wsX11_goBack := by decide +kernel
theorem lk_X11_goBack_42 : Cond.fieldLink RX11 42 (TX11 4).1 (TX11 4).2.1 (TX11 4).2.2.1 ∈ wsX11_goBack := by decide +kernel
theorem lk_X11_goBack_275 : Cond.fieldLink RX11 275 (TX11 5).1 (TX11 5).2.1 (TX11 5).2.2.1 ∈ wsX11_goBack := by decide +kernel
theorem lk_X11_goBack_282 : Cond.fieldLink RX11 282 (TX3 0).1 (TX3 0).2.1 (TX3 0).2.2.1 ∈ wsX11_goBack := by decide +kernel
theorem lk_X11_goBack_285 : Cond.fieldLink RX11 285 (TX3 1).1 (TX3 1).2.1 (TX3 1).2.2.1 ∈ wsX11_goBack := by decide +kernel
theorem lk_X11_goBack_288 : Cond.fieldLink RX11 288 (TX3 2).1 (TX3 2).2.1 (TX3 2).2.2.1 ∈ wsX11_goBack := by decide +kernel
set_option maxHeartbeats 4000000 in
set_option maxRecDepth 100000 in
theorem c_X11_goBack (l : Launch) (Z : Zx) (p1 : Int32) (f : Nat → Nat → Int32) (r : (Int32 × (Nat → Nat → Int32))) (hf : f_X11_goBack p1 f = some r) : MS l (XC Z) yX11_goBack wsX11_goBack rm_X11_goBack [.ref (Z.2.1 0), .int p1] f (PI r.1 r.2) := by
  refine MS.of (cc := cX11_goBack) (maxL := 3) (ret := (some .int)) (own := RX11) (lv := [(0, .ref (Z.2.1 0)), (1, .int p1)]) (by decide) rfl rfl (Nat.le_of_ble_eq_true rfl) rfl ?_
  intro a A hla F
  subst hla
  unfold f_X11_goBack at hf
  refine rw_aload_n F dX11_goBack_0 rfl 0 rfl ?_
  refine rw_iload_n F dX11_goBack_1 rfl 1 rfl ?_
  rcases if_h hf with ⟨he1, hf⟩ | ⟨he1, hf⟩
  · refine rw_callVQs F (k0 := 0) (nA := 1) (c_imageAt_0 (aL a) Z _ f he1) gX11_goBack_X11_imageAt rfl ⟨rfl, rfl⟩ (by decide +kernel) ⟨Nat.le_of_ble_eq_true rfl, Nat.le_of_ble_eq_true rfl⟩ (show 0 < 39 by decide) (gC_0 Z _) rfl rfl rfl (Nat.le_of_ble_eq_true rfl) dX11_goBack_2 ?_
    refine rw_astore_n F dX11_goBack_5 rfl (by decide) rfl ?_
    refine rw_aload_n F dX11_goBack_6 rfl 0 rfl ?_
    refine rw_ifnonnull F (tgt := 13) dX11_goBack_7 (by decide) ?_
    refine rw_aload_n F dX11_goBack_13 rfl 0 rfl ?_
    refine rw_get F 23 (show 23 < 39 by decide) (gC_23 Z _) iw_X11_goBack_X3 rfl 2 (by decide) lk_X11_goBack_288 rfl dX11_goBack_14 ?_
    refine rw_if_ne F (tgt := 23) hf dX11_goBack_17 (by decide) (fun hc7 hf => ?_) (fun hc7 hf => ?_)
    · refine rw_aload_n F dX11_goBack_23 rfl 1 rfl ?_
      refine rw_get F 0 (show 0 < 39 by decide) (gC_0 Z _) iw_X11_goBack_X11 rfl 3 (by decide) lk_X11_goBack_35 rfl dX11_goBack_24 ?_
      refine rw_aload_n F dX11_goBack_27 rfl 0 rfl ?_
      refine rw_get F 23 (show 23 < 39 by decide) (gC_23 Z _) iw_X11_goBack_X3 rfl 0 (by decide) lk_X11_goBack_282 rfl dX11_goBack_28 ?_
      obtain ⟨q4, hq3, hf⟩ := bind_h hf
      refine rw_callVV F (k0 := 18) (nA := 1) (c_X8_take_18_24 (aL a) Z  _ _ hq3) gX11_goBack_X8_take rfl ⟨rfl, rfl⟩ (by decide +kernel) ⟨Nat.le_of_ble_eq_true rfl, Nat.le_of_ble_eq_true rfl⟩ (show 18 < 39 by decide) (gC_18 Z _) rfl rfl rfl (Nat.le_of_ble_eq_true rfl) dX11_goBack_31 ?_
      refine rw_aload_n F dX11_goBack_34 rfl 1 rfl ?_
      refine rw_aload_n F dX11_goBack_35 rfl 0 rfl ?_
      refine rw_get F 23 (show 23 < 39 by decide) (gC_23 Z _) iw_X11_goBack_X3 rfl 1 (by decide) lk_X11_goBack_285 rfl dX11_goBack_36 ?_
      refine rw_put F 0 (show 0 < 39 by decide) (gC_0 Z) iw_X11_goBack_X11 tyX11 tyX11_ok nmX11 rfl 5 (by decide) lk_X11_goBack_275 rfl rfl rfl (fun _ => by rw [lnC0]; decide) (stC0_5 Z.2.1) dX11_goBack_39 ?_
      refine rw_aload_n F dX11_goBack_42 rfl 1 rfl ?_
      refine rw_get F 0 (show 0 < 39 by decide) (gC_0 Z _) iw_X11_goBack_X11 rfl 4 (by decide) lk_X11_goBack_42 rfl dX11_goBack_43 ?_
      obtain ⟨q6, hq5, hf⟩ := bind_h hf
      refine rw_callVV F (k0 := 20) (nA := 0) (c_X4_forget_20 (aL a) Z  _ _ hq5) gX11_goBack_X4_forget rfl ⟨rfl, rfl⟩ (by decide +kernel) ⟨Nat.le_of_ble_eq_true rfl, Nat.le_of_ble_eq_true rfl⟩ (show 20 < 39 by decide) (gC_20 Z _) rfl rfl rfl (Nat.le_of_ble_eq_true rfl) dX11_goBack_46 ?_
      refine rw_iconst F (v := 1) dX11_goBack_49 (by decide) ?_
      exact rw_iretS F hf rfl dX11_goBack_50
    · refine rw_ldc F (v := -1000000003) dX11_goBack_20 (by decide +kernel) ?_
      exact rw_iretS F hf rfl dX11_goBack_22
  · rcases if_h hf with ⟨he2, hf⟩ | ⟨he2, hf⟩
    · refine rw_callVQs F (k0 := 0) (nA := 1) (c_imageAt_1 (aL a) Z _ f he2) gX11_goBack_X11_imageAt rfl ⟨rfl, rfl⟩ (by decide +kernel) ⟨Nat.le_of_ble_eq_true rfl, Nat.le_of_ble_eq_true rfl⟩ (show 0 < 39 by decide) (gC_0 Z _) rfl rfl rfl (Nat.le_of_ble_eq_true rfl) dX11_goBack_2 ?_
      refine rw_astore_n F dX11_goBack_5 rfl (by decide) rfl ?_
      refine rw_aload_n F dX11_goBack_6 rfl 0 rfl ?_
      refine rw_ifnonnull F (tgt := 13) dX11_goBack_7 (by decide) ?_
      refine rw_aload_n F dX11_goBack_13 rfl 0 rfl ?_
      refine rw_get F 26 (show 26 < 39 by decide) (gC_26 Z _) iw_X11_goBack_X3 rfl 2 (by decide) lk_X11_goBack_288 rfl dX11_goBack_14 ?_
      refine rw_if_ne F (tgt := 23) hf dX11_goBack_17 (by decide) (fun hc12 hf => ?_) (fun hc12 hf => ?_)
      · refine rw_aload_n F dX11_goBack_23 rfl 1 rfl ?_
        refine rw_get F 0 (show 0 < 39 by decide) (gC_0 Z _) iw_X11_goBack_X11 rfl 3 (by decide) lk_X11_goBack_35 rfl dX11_goBack_24 ?_
        refine rw_aload_n F dX11_goBack_27 rfl 0 rfl ?_
        refine rw_get F 26 (show 26 < 39 by decide) (gC_26 Z _) iw_X11_goBack_X3 rfl 0 (by decide) lk_X11_goBack_282 rfl dX11_goBack_28 ?_
        obtain ⟨q9, hq8, hf⟩ := bind_h hf
        refine rw_callVV F (k0 := 18) (nA := 1) (c_X8_take_18_27 (aL a) Z  _ _ hq8) gX11_goBack_X8_take rfl ⟨rfl, rfl⟩ (by decide +kernel) ⟨Nat.le_of_ble_eq_true rfl, Nat.le_of_ble_eq_true rfl⟩ (show 18 < 39 by decide) (gC_18 Z _) rfl rfl rfl (Nat.le_of_ble_eq_true rfl) dX11_goBack_31 ?_
        refine rw_aload_n F dX11_goBack_34 rfl 1 rfl ?_
        refine rw_aload_n F dX11_goBack_35 rfl 0 rfl ?_
        refine rw_get F 26 (show 26 < 39 by decide) (gC_26 Z _) iw_X11_goBack_X3 rfl 1 (by decide) lk_X11_goBack_285 rfl dX11_goBack_36 ?_
        refine rw_put F 0 (show 0 < 39 by decide) (gC_0 Z) iw_X11_goBack_X11 tyX11 tyX11_ok nmX11 rfl 5 (by decide) lk_X11_goBack_275 rfl rfl rfl (fun _ => by rw [lnC0]; decide) (stC0_5 Z.2.1) dX11_goBack_39 ?_
        refine rw_aload_n F dX11_goBack_42 rfl 1 rfl ?_
        refine rw_get F 0 (show 0 < 39 by decide) (gC_0 Z _) iw_X11_goBack_X11 rfl 4 (by decide) lk_X11_goBack_42 rfl dX11_goBack_43 ?_
        obtain ⟨q11, hq10, hf⟩ := bind_h hf
        refine rw_callVV F (k0 := 20) (nA := 0) (c_X4_forget_20 (aL a) Z  _ _ hq10) gX11_goBack_X4_forget rfl ⟨rfl, rfl⟩ (by decide +kernel) ⟨Nat.le_of_ble_eq_true rfl, Nat.le_of_ble_eq_true rfl⟩ (show 20 < 39 by decide) (gC_20 Z _) rfl rfl rfl (Nat.le_of_ble_eq_true rfl) dX11_goBack_46 ?_
        refine rw_iconst F (v := 1) dX11_goBack_49 (by decide) ?_
        exact rw_iretS F hf rfl dX11_goBack_50
      · refine rw_ldc F (v := -1000000003) dX11_goBack_20 (by decide +kernel) ?_
        exact rw_iretS F hf rfl dX11_goBack_22
    · refine rw_callVQn F (k0 := 0) (nA := 1) (c_imageAt_n (aL a) Z _ f he1 he2) gX11_goBack_X11_imageAt rfl ⟨rfl, rfl⟩ (by decide +kernel) ⟨Nat.le_of_ble_eq_true rfl, Nat.le_of_ble_eq_true rfl⟩ (show 0 < 39 by decide) (gC_0 Z _) rfl rfl rfl (Nat.le_of_ble_eq_true rfl) dX11_goBack_2 ?_
      refine rw_astoreN_n F dX11_goBack_5 rfl (by decide) rfl ?_
      refine rw_aload_nN F dX11_goBack_6 rfl 0 rfl ?_
      refine rw_ifnonnullN F dX11_goBack_7 ?_
      refine rw_ldc F (v := -1000000001) dX11_goBack_10 (by decide +kernel) ?_
      exact rw_iretS F hf rfl dX11_goBack_12

