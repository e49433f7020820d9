abbrev rm_X11_sound : Room := { frames := 1, cells := 0, slots := 0, locals := 21 }
abbrev FX_X11_sound (a : Ax) (Z : Zx) (A : Nat → Prop) : Prop := FX a (XC Z) A cX11_sound RX11 wsX11_sound 3 (some .int) rm_X11_sound
theorem iw_X11_sound_X11 : ∀ w ∈ wsX110, w ∈ wsX11_sound := by decide +kernel
theorem iw_X11_sound_X5 : ∀ w ∈ wsX50, w ∈ wsX11_sound := by decide +kernel
theorem lk_X11_sound_19 : Cond.fieldLink RX11 19 (TX11 1).1 (TX11 1).2.1 (TX11 1).2.2.1 ∈ wsX11_sound := by decide +kernel
theorem lk_X11_sound_150 : Cond.fieldLink RX11 150 (TX5 5).1 (TX5 5).2.1 (TX5 5).2.2.1 ∈ wsX11_sound := by decide +kernel
theorem lk_X11_sound_159 : Cond.fieldLink RX11 159 (TX5 6).1 (TX5 6).2.1 (TX5 6).2.2.1 ∈ wsX11_sound := by decide +kernel
set_option maxHeartbeats 4000000 in
set_option maxRecDepth 100000 in
theorem c_X11_sound (l : Launch) (Z : Zx) (p1 : Int32) (p2 : Int32) (f : Nat → Nat → Int32) (r : Int32) (hf : f_X11_sound p1 p2 f = some r) : MS l (XC Z) yX11_sound wsX11_sound rm_X11_sound [.ref (Z.2.1 0), .int p1, .int p2] f (PI r f) := by
  refine MS.of (cc := cX11_sound) (maxL := 3) (ret := (some .int)) (own := RX11) (lv := [(0, .ref (Z.2.1 0)), (1, .int p1), (2, .int p2)]) (by decide) rfl rfl (Nat.le_of_ble_eq_true rfl) rfl ?_
  intro a A hla F
  subst hla
  unfold f_X11_sound at hf
  refine rw_aload_n F dX11_sound_0 rfl 0 rfl ?_
  refine rw_get F 0 (show 0 < 39 by decide) (gC_0 Z _) iw_X11_sound_X11 rfl 1 (by decide) lk_X11_sound_19 rfl dX11_sound_1 ?_
  refine rw_iload_n F dX11_sound_4 rfl 1 rfl ?_
  obtain ⟨q2, hq1, hf⟩ := bind_h hf
  refine rw_callVI F (k0 := 3) (nA := 1) (c_X5_isSound_3 (aL a) Z _ _ _ hq1) gX11_sound_X5_isSound rfl ⟨rfl, rfl⟩ (by decide +kernel) ⟨Nat.le_of_ble_eq_true rfl, Nat.le_of_ble_eq_true rfl⟩ (show 3 < 39 by decide) (gC_3 Z _) rfl rfl rfl (Nat.le_of_ble_eq_true rfl) dX11_sound_5 ?_
  refine rw_if_ne F (tgt := 14) hf dX11_sound_8 (by decide) (fun hc9 hf => ?_) (fun hc9 hf => ?_)
  · refine rw_iload_n F dX11_sound_14 rfl 2 rfl ?_
    rcases if_h hf with ⟨he7, hf⟩ | ⟨he7, hf⟩
    · refine rw_lookup F (tgt := 40) dX11_sound_15 (by decide) (by first | (rw [he7]; done) | (rw [he7]; rfl)) (by decide) ?_
      refine rw_aload_n F dX11_sound_40 rfl 0 rfl ?_
      refine rw_get F 0 (show 0 < 39 by decide) (gC_0 Z _) iw_X11_sound_X11 rfl 1 (by decide) lk_X11_sound_19 rfl dX11_sound_41 ?_
      refine rw_get F 3 (show 3 < 39 by decide) (gC_3 Z _) iw_X11_sound_X5 rfl 5 (by decide) lk_X11_sound_150 rfl dX11_sound_44 ?_
      refine rw_iload_n F dX11_sound_47 rfl 1 rfl ?_
      obtain ⟨q4, hq3, hf⟩ := bind_h hf
      refine rw_callSI F (nA := 2) (c_X7_get (aL a) Z (show 5 < 39 by decide) (gC_5 Z) _ _ _ hq3) gX11_sound_X7_get rfl ⟨rfl, rfl⟩ (by decide +kernel) ⟨Nat.le_of_ble_eq_true rfl, Nat.le_of_ble_eq_true rfl⟩ rfl rfl (Nat.le_of_ble_eq_true rfl) dX11_sound_48 ?_
      exact rw_iret F hf rfl dX11_sound_51
    · rcases if_h hf with ⟨he8, hf⟩ | ⟨he8, hf⟩
      · refine rw_lookup F (tgt := 52) dX11_sound_15 (by decide) (by first | (rw [he8]; done) | (rw [he8]; rfl)) (by decide) ?_
        refine rw_aload_n F dX11_sound_52 rfl 0 rfl ?_
        refine rw_get F 0 (show 0 < 39 by decide) (gC_0 Z _) iw_X11_sound_X11 rfl 1 (by decide) lk_X11_sound_19 rfl dX11_sound_53 ?_
        refine rw_get F 3 (show 3 < 39 by decide) (gC_3 Z _) iw_X11_sound_X5 rfl 6 (by decide) lk_X11_sound_159 rfl dX11_sound_56 ?_
        refine rw_iload_n F dX11_sound_59 rfl 1 rfl ?_
        obtain ⟨q6, hq5, hf⟩ := bind_h hf
        refine rw_callSI F (nA := 2) (c_X7_get (aL a) Z (show 6 < 39 by decide) (gC_6 Z) _ _ _ hq5) gX11_sound_X7_get rfl ⟨rfl, rfl⟩ (by decide +kernel) ⟨Nat.le_of_ble_eq_true rfl, Nat.le_of_ble_eq_true rfl⟩ rfl rfl (Nat.le_of_ble_eq_true rfl) dX11_sound_60 ?_
        exact rw_iret F hf rfl dX11_sound_63
      · refine rw_lookup F (tgt := 64) dX11_sound_15 (by decide) (by (show Op.lookupswitch.offset [(0, 25), (1, 37)] (49) _ = (49 : Int)); rw [lv_osw he7 (by decide), lv_osw he8 (by decide)]; rfl) (by decide) ?_
        refine rw_ldc F (v := -1000000002) dX11_sound_64 (by decide +kernel) ?_
        exact rw_iret F hf rfl dX11_sound_66
  · refine rw_ldc F (v := -1000000001) dX11_sound_11 (by decide +kernel) ?_
    exact rw_iret F hf rfl dX11_sound_13

abbrev rm_X5_isWitness_3 : Room := { frames := 0, cells := 0, slots := 0, locals := 0 }
abbrev FX_X5_isWitness_3 (a : Ax) (Z : Zx) (A : Nat → Prop) : Prop := FX a (XC Z) A cX5_isWitness RX5 wsX5_isWitness 2 (some .boolean) rm_X5_isWitness_3
theorem iw_X5_isWitness_X5 : ∀ w ∈ wsX50, w ∈ wsX5_isWitness := by decide +kernel
theorem lk_X5_isWitness_40 : Cond.fieldLink RX5 40 (TX5 3).1 (TX5 3).2.1 (TX5 3).2.2.1 ∈ wsX5_isWitness := by decide +kernel
set_option maxHeartbeats 4000000 in
set_option maxRecDepth 100000 in
theorem c_X5_isWitness_3 (l : Launch) (Z : Zx) (p1 : Int32) (f : Nat → Nat → Int32) (r : Int32) (hf : f_X5_isWitness_3 p1 f = some r) : MS l (XC Z) yX5_isWitness wsX5_isWitness rm_X5_isWitness_3 [.ref (Z.2.1 3), .int p1] f (PI r f) := by
  refine MS.of (cc := cX5_isWitness) (maxL := 2) (ret := (some .boolean)) (own := RX5) (lv := [(0, .ref (Z.2.1 3)), (1, .int p1)]) (by decide) rfl rfl (Nat.le_of_ble_eq_true rfl) rfl ?_
  intro a A hla F
  subst hla
  unfold f_X5_isWitness_3 at hf
  refine rw_iload_n F dX5_isWitness_0 rfl 1 rfl ?_
  refine rw_if_lt F (tgt := 16) hf dX5_isWitness_1 (by decide) (fun hc2 hf => ?_) (fun hc2 hf => ?_)
  · refine rw_iconst F (v := 0) dX5_isWitness_16 (by decide) ?_
    exact rw_zretZ F (by decide) hf rfl dX5_isWitness_17
  · refine rw_iload_n F dX5_isWitness_4 rfl 1 rfl ?_
    refine rw_aload_n F dX5_isWitness_5 rfl 0 rfl ?_
    refine rw_get F 3 (show 3 < 39 by decide) (gC_3 Z _) iw_X5_isWitness_X5 rfl 3 (by decide) lk_X5_isWitness_40 rfl dX5_isWitness_6 ?_
    refine rw_icmp_ge F (tgt := 16) hf dX5_isWitness_9 (by decide) (fun hc1 hf => ?_) (fun hc1 hf => ?_)
    · refine rw_iconst F (v := 0) dX5_isWitness_16 (by decide) ?_
      exact rw_zretZ F (by decide) hf rfl dX5_isWitness_17
    · refine rw_iconst F (v := 1) dX5_isWitness_12 (by decide) ?_
      refine rw_goto F (tgt := 17) dX5_isWitness_13 (by decide) ?_
      exact rw_zretZ F (by decide) hf rfl dX5_isWitness_17

abbrev rm_X11_witness : Room := { frames := 2, cells := 0, slots := 0, locals := 42 }
abbrev FX_X11_witness (a : Ax) (Z : Zx) (A : Nat → Prop) : Prop := FX a (XC Z) A cX11_witness RX11 wsX11_witness 3 (some .int) rm_X11_witness
theorem iw_X11_witness_X11 : ∀ w ∈ wsX110, w ∈ wsX11_witness := by decide +kernel
theorem iw_X11_witness_X5 : ∀ w ∈ wsX50, w ∈ wsX11_witness := by decide +kernel
theorem lk_X11_witness_19 : Cond.fieldLink RX11 19 (TX11 1).1 (TX11 1).2.1 (TX11 1).2.2.1 ∈ wsX11_witness := by decide +kernel
theorem lk_X11_witness_35 : Cond.fieldLink RX11 35 (TX11 3).1 (TX11 3).2.1 (TX11 3).2.2.1 ∈ wsX11_witness := by decide +kernel
theorem lk_X11_witness_165 : Cond.fieldLink RX11 165 (TX5 8).1 (TX5 8).2.1 (TX5 8).2.2.1 ∈ wsX11_witness := by decide +kernel
theorem lk_X11_witness_168 : Cond.fieldLink RX11 168 (TX5 9).1 (TX5 9).2.1 (TX5 9).2.2.1 ∈ wsX11_witness := by decide +kernel
set_option maxHeartbeats 4000000 in
set_option maxRecDepth 100000 in
theorem c_X11_witness (l : Launch) (Z : Zx) (p1 : Int32) (p2 : Int32) (f : Nat → Nat → Int32) (r : Int32) (hf : f_X11_witness p1 p2 f = some r) : MS l (XC Z) yX11_witness wsX11_witness rm_X11_witness [.ref (Z.2.1 0), .int p1, .int p2] f (PI r f) := by
  refine MS.of (cc := cX11_witness) (maxL := 3) (ret := (some .int)) (own := RX11) (lv := [(0, .ref (Z.2.1 0)), (1, .int p1), (2, .int p2)]) (by decide) rfl rfl (Nat.le_of_ble_eq_true rfl) rfl ?_
  intro a A hla F
  subst hla
  unfold f_X11_witness at hf
  refine rw_aload_n F dX11_witness_0 rfl 0 rfl ?_
  refine rw_get F 0 (show 0 < 39 by decide) (gC_0 Z _) iw_X11_witness_X11 rfl 1 (by decide) lk_X11_witness_19 rfl dX11_witness_1 ?_
  refine rw_iload_n F dX11_witness_4 rfl 1 rfl ?_
  obtain ⟨q2, hq1, hf⟩ := bind_h hf
  refine rw_callVI F (k0 := 3) (nA := 1) (c_X5_isWitness_3 (aL a) Z _ _ _ hq1) gX11_witness_X5_isWitness rfl ⟨rfl, rfl⟩ (by decide +kernel) ⟨Nat.le_of_ble_eq_true rfl, Nat.le_of_ble_eq_true rfl⟩ (show 3 < 39 by decide) (gC_3 Z _) rfl rfl rfl (Nat.le_of_ble_eq_true rfl) dX11_witness_5 ?_
  refine rw_if_ne F (tgt := 14) hf dX11_witness_8 (by decide) (fun hc16 hf => ?_) (fun hc16 hf => ?_)
  · refine rw_iload_n F dX11_witness_14 rfl 2 rfl ?_
    rcases if_h hf with ⟨hc3, hf⟩ | ⟨hc3, hf⟩
    · refine rw_tableOut F (tgt := 92) dX11_witness_15 (tb_out hc3 rfl rfl) (by decide) ?_
      refine rw_ldc F (v := -1000000002) dX11_witness_92 (by decide +kernel) ?_
      exact rw_iret F hf rfl dX11_witness_94
    · rcases if_h hf with ⟨he15, hf⟩ | ⟨-, hf⟩
      · refine rw_tableIn F (tgt := 44) dX11_witness_15 (by rw [he15]; decide) (by rw [he15]; decide) (by rw [he15]; rfl) (by decide) ?_
        refine rw_aload_n F dX11_witness_44 rfl 0 rfl ?_
        refine rw_get F 0 (show 0 < 39 by decide) (gC_0 Z _) iw_X11_witness_X11 rfl 3 (by decide) lk_X11_witness_35 rfl dX11_witness_45 ?_
        refine rw_bipush F (v := 14) dX11_witness_48 (by decide) ?_
        refine rw_iload_n F dX11_witness_50 rfl 1 rfl ?_
        refine rw_iadd F dX11_witness_51 ?_
        obtain ⟨q5, hq4, hf⟩ := bind_h hf
        refine rw_callVI F (k0 := 18) (nA := 1) (c_X8_get_18 (aL a) Z _ _ _ hq4) gX11_witness_X8_get rfl ⟨rfl, rfl⟩ (by decide +kernel) ⟨Nat.le_of_ble_eq_true rfl, Nat.le_of_ble_eq_true rfl⟩ (show 18 < 39 by decide) (gC_18 Z _) rfl rfl rfl (Nat.le_of_ble_eq_true rfl) dX11_witness_52 ?_
        exact rw_iret F hf rfl dX11_witness_55
      · rcases if_h hf with ⟨he14, hf⟩ | ⟨-, hf⟩
        · refine rw_tableIn F (tgt := 56) dX11_witness_15 (by rw [he14]; decide) (by rw [he14]; decide) (by rw [he14]; rfl) (by decide) ?_
          refine rw_aload_n F dX11_witness_56 rfl 0 rfl ?_
          refine rw_get F 0 (show 0 < 39 by decide) (gC_0 Z _) iw_X11_witness_X11 rfl 1 (by decide) lk_X11_witness_19 rfl dX11_witness_57 ?_
          refine rw_get F 3 (show 3 < 39 by decide) (gC_3 Z _) iw_X11_witness_X5 rfl 8 (by decide) lk_X11_witness_165 rfl dX11_witness_60 ?_
          refine rw_iload_n F dX11_witness_63 rfl 1 rfl ?_
          obtain ⟨q7, hq6, hf⟩ := bind_h hf
          refine rw_callSI F (nA := 2) (c_X7_get (aL a) Z (show 8 < 39 by decide) (gC_8 Z) _ _ _ hq6) gX11_witness_X7_get rfl ⟨rfl, rfl⟩ (by decide +kernel) ⟨Nat.le_of_ble_eq_true rfl, Nat.le_of_ble_eq_true rfl⟩ rfl rfl (Nat.le_of_ble_eq_true rfl) dX11_witness_64 ?_
          exact rw_iret F hf rfl dX11_witness_67
        · rcases if_h hf with ⟨he13, hf⟩ | ⟨-, hf⟩
          · refine rw_tableIn F (tgt := 68) dX11_witness_15 (by rw [he13]; decide) (by rw [he13]; decide) (by rw [he13]; rfl) (by decide) ?_
            refine rw_aload_n F dX11_witness_68 rfl 0 rfl ?_
            refine rw_get F 0 (show 0 < 39 by decide) (gC_0 Z _) iw_X11_witness_X11 rfl 1 (by decide) lk_X11_witness_19 rfl dX11_witness_69 ?_
            refine rw_get F 3 (show 3 < 39 by decide) (gC_3 Z _) iw_X11_witness_X5 rfl 9 (by decide) lk_X11_witness_168 rfl dX11_witness_72 ?_
            refine rw_iload_n F dX11_witness_75 rfl 1 rfl ?_
            obtain ⟨q9, hq8, hf⟩ := bind_h hf
            refine rw_callSI F (nA := 2) (c_X7_get (aL a) Z (show 9 < 39 by decide) (gC_9 Z) _ _ _ hq8) gX11_witness_X7_get rfl ⟨rfl, rfl⟩ (by decide +kernel) ⟨Nat.le_of_ble_eq_true rfl, Nat.le_of_ble_eq_true rfl⟩ rfl rfl (Nat.le_of_ble_eq_true rfl) dX11_witness_76 ?_
            exact rw_iret F hf rfl dX11_witness_79
          · rcases if_h hf with ⟨he12, hf⟩ | ⟨-, hf⟩
            · refine rw_tableIn F (tgt := 80) dX11_witness_15 (by rw [he12]; decide) (by rw [he12]; decide) (by rw [he12]; rfl) (by decide) ?_
              refine rw_aload_n F dX11_witness_80 rfl 0 rfl ?_
              refine rw_get F 0 (show 0 < 39 by decide) (gC_0 Z _) iw_X11_witness_X11 rfl 3 (by decide) lk_X11_witness_35 rfl dX11_witness_81 ?_
              refine rw_bipush F (v := 21) dX11_witness_84 (by decide) ?_
              refine rw_iload_n F dX11_witness_86 rfl 1 rfl ?_
              refine rw_iadd F dX11_witness_87 ?_
              obtain ⟨q11, hq10, hf⟩ := bind_h hf
              refine rw_callVI F (k0 := 18) (nA := 1) (c_X8_get_18 (aL a) Z _ _ _ hq10) gX11_witness_X8_get rfl ⟨rfl, rfl⟩ (by decide +kernel) ⟨Nat.le_of_ble_eq_true rfl, Nat.le_of_ble_eq_true rfl⟩ (show 18 < 39 by decide) (gC_18 Z _) rfl rfl rfl (Nat.le_of_ble_eq_true rfl) dX11_witness_88 ?_
              exact rw_iret F hf rfl dX11_witness_91
            · exact nomatch hf
  · refine rw_ldc F (v := -1000000001) dX11_witness_11 (by decide +kernel) ?_
    exact rw_iret F hf rfl dX11_witness_13

abbrev rm_X5_isPlace_3 : Room := { frames := 1, cells := 0, slots := 0, locals := 20 }
abbrev FX_X5_isPlace_3 (a : Ax) (Z : Zx) (A : Nat → Prop) : Prop := FX a (XC Z) A cX5_isPlace RX5 wsX5_isPlace 2 (some .boolean) rm_X5_isPlace_3
set_option maxHeartbeats 4000000 in
set_option maxRecDepth 100000 in
theorem c_X5_isPlace_3 (l : Launch) (Z : Zx) (p1 : Int32) (f : Nat → Nat → Int32) (r : Int32) (hf : f_X5_isPlace_3 p1 f = some r) : MS l (XC Z) yX5_isPlace wsX5_isPlace rm_X5_isPlace_3 [.ref (Z.2.1 3), .int p1] f (PI r f) := by
  refine MS.of (cc := cX5_isPlace) (maxL := 2) (ret := (some .boolean)) (own := RX5) (lv := [(0, .ref (Z.2.1 3)), (1, .int p1)]) (by decide) rfl rfl (Nat.le_of_ble_eq_true rfl) rfl ?_
  intro a A hla F
  subst hla
  unfold f_X5_isPlace_3 at hf
  refine rw_iload_n F dX5_isPlace_0 rfl 1 rfl ?_
  refine rw_if_lt F (tgt := 16) hf dX5_isPlace_1 (by decide) (fun hc4 hf => ?_) (fun hc4 hf => ?_)
  · refine rw_iconst F (v := 0) dX5_isPlace_16 (by decide) ?_
    exact rw_zretZ F (by decide) hf rfl dX5_isPlace_17
  · refine rw_iload_n F dX5_isPlace_4 rfl 1 rfl ?_
    refine rw_aload_n F dX5_isPlace_5 rfl 0 rfl ?_
    obtain ⟨q2, hq1, hf⟩ := bind_h hf
    refine rw_callVI F (k0 := 3) (nA := 0) (c_X5_places_3 (aL a) Z  _ _ hq1) gX5_isPlace_X5_places rfl ⟨rfl, rfl⟩ (by decide +kernel) ⟨Nat.le_of_ble_eq_true rfl, Nat.le_of_ble_eq_true rfl⟩ (show 3 < 39 by decide) (gC_3 Z _) rfl rfl rfl (Nat.le_of_ble_eq_true rfl) dX5_isPlace_6 ?_
    refine rw_icmp_ge F (tgt := 16) hf dX5_isPlace_9 (by decide) (fun hc3 hf => ?_) (fun hc3 hf => ?_)
    · refine rw_iconst F (v := 0) dX5_isPlace_16 (by decide) ?_
      exact rw_zretZ F (by decide) hf rfl dX5_isPlace_17
    · refine rw_iconst F (v := 1) dX5_isPlace_12 (by decide) ?_
      refine rw_goto F (tgt := 17) dX5_isPlace_13 (by decide) ?_
      exact rw_zretZ F (by decide) hf rfl dX5_isPlace_17

abbrev rm_X11_isFullOfMornings : Room := { frames := 2, cells := 0, slots := 0, locals := 42 }
abbrev FX_X11_isFullOfMornings (a : Ax) (Z : Zx) (A : Nat → Prop) : Prop := FX a (XC Z) A cX11_isFullOfMornings RX11 wsX11_isFullOfMornings 1 (some .boolean) rm_X11_isFullOfMornings
theorem iw_X11_isFullOfMornings_X11 : ∀ w ∈ wsX110, w ∈ wsX11_isFullOfMornings := by decide +kernel
theorem lk_X11_isFullOfMornings_35 : Cond.fieldLink RX11 35 (TX11 3).1 (TX11 3).2.1 (TX11 3).2.2.1 ∈ wsX11_isFullOfMornings := by decide +kernel
set_option maxHeartbeats 4000000 in
set_option maxRecDepth 100000 in
theorem c_X11_isFullOfMornings (l : Launch) (Z : Zx) (f : Nat → Nat → Int32) (r : Int32) (hf : f_X11_isFullOfMornings f = some r) : MS l (XC Z) yX11_isFullOfMornings wsX11_isFullOfMornings rm_X11_isFullOfMornings [.ref (Z.2.1 0)] f (PI r f) := by
  refine MS.of (cc := cX11_isFullOfMornings) (maxL := 1) (ret := (some .boolean)) (own := RX11) (lv := [(0, .ref (Z.2.1 0))]) (by decide) rfl rfl (Nat.le_of_ble_eq_true rfl) rfl ?_
  intro a A hla F
  subst hla
  unfold f_X11_isFullOfMornings at hf
  refine rw_aload_n F dX11_isFullOfMornings_0 rfl 0 rfl ?_
  refine rw_get F 0 (show 0 < 39 by decide) (gC_0 Z _) iw_X11_isFullOfMornings_X11 rfl 3 (by decide) lk_X11_isFullOfMornings_35 rfl dX11_isFullOfMornings_1 ?_
  refine rw_iconst F (v := 1) dX11_isFullOfMornings_4 (by decide) ?_
  obtain ⟨q2, hq1, hf⟩ := bind_h hf
  refine rw_callVI F (k0 := 18) (nA := 1) (c_X8_get_18 (aL a) Z _ _ _ hq1) gX11_isFullOfMornings_X8_get rfl ⟨rfl, rfl⟩ (by decide +kernel) ⟨Nat.le_of_ble_eq_true rfl, Nat.le_of_ble_eq_true rfl⟩ (show 18 < 39 by decide) (gC_18 Z _) rfl rfl rfl (Nat.le_of_ble_eq_true rfl) dX11_isFullOfMornings_5 ?_
  refine rw_sipush F (v := 9000) dX11_isFullOfMornings_8 (by decide) ?_
  refine rw_icmp_le F (tgt := 18) hf dX11_isFullOfMornings_11 (by decide) (fun hc3 hf => ?_) (fun hc3 hf => ?_)
  · refine rw_iconst F (v := 0) dX11_isFullOfMornings_18 (by decide) ?_
    exact rw_zretZ F (by decide) hf rfl dX11_isFullOfMornings_19
  · refine rw_iconst F (v := 1) dX11_isFullOfMornings_14 (by decide) ?_
    refine rw_goto F (tgt := 19) dX11_isFullOfMornings_15 (by decide) ?_
    exact rw_zretZ F (by decide) hf rfl dX11_isFullOfMornings_19

abbrev rm_X4_push_20_18 : Room := { frames := 2, cells := 0, slots := 0, locals := 47 }
abbrev FX_X4_push_20_18 (a : Ax) (Z : Zx) (A : Nat → Prop) : Prop := FX a (XC Z) A cX4_push RX4 wsX4_push 2 none rm_X4_push_20_18
theorem iw_X4_push_X4 : ∀ w ∈ wsX40, w ∈ wsX4_push := by decide +kernel
theorem iw_X4_push_X8 : ∀ w ∈ wsX80, w ∈ wsX4_push := by decide +kernel
theorem lk_X4_push_11 : Cond.fieldLink RX4 11 (TX4 0).1 (TX4 0).2.1 (TX4 0).2.2.1 ∈ wsX4_push := by decide +kernel
theorem lk_X4_push_17 : Cond.fieldLink RX4 17 (TX8 0).1 (TX8 0).2.1 (TX8 0).2.2.1 ∈ wsX4_push := by decide +kernel
theorem lk_X4_push_20 : Cond.fieldLink RX4 20 (TX4 1).1 (TX4 1).2.1 (TX4 1).2.2.1 ∈ wsX4_push := by decide +kernel
theorem lk_X4_push_30 : Cond.fieldLink RX4 30 (TX4 2).1 (TX4 2).2.1 (TX4 2).2.2.1 ∈ wsX4_push := by decide +kernel
theorem lkm_X4_push_min_33 : Cond.methodLink RX4 33 Lib.Math.min.name ∈ wsX4_push := by decide +kernel
set_option maxHeartbeats 4000000 in
set_option maxRecDepth 100000 in
theorem b_X4_push_20_18_b43 {a : Ax} {Z : Zx} {A : Nat → Prop} {r : Nat → Nat → Int32} (F : FX_X4_push_20_18 a Z A) : ∀ (s1 : Int32) (f : Nat → Nat → Int32), f_X4_push_20_18_b43 s1 f = some r → WS a (XC Z) A 2 (RP a (XC Z) A (PV r)) 43 [(0, .ref (Z.2.1 20))] [.int s1, .ref (Z.2.1 20)] f := by
  intro s1 f hf
  unfold f_X4_push_20_18_b43 at hf
  refine rw_put F 20 (show 20 < 39 by decide) (gC_20 Z) iw_X4_push_X4 tyX4 tyX4_ok nmX4 rfl 1 (by decide) lk_X4_push_20 rfl rfl rfl (fun _ => by rw [lnC20]; decide) (stC20_1 Z.2.1) dX4_push_43 ?_
  refine rw_aload_n F dX4_push_46 rfl 0 rfl ?_
  refine rw_aload_n F dX4_push_47 rfl 0 rfl ?_
  refine rw_get F 20 (show 20 < 39 by decide) (gC_20 Z _) iw_X4_push_X4 rfl 2 (by decide) lk_X4_push_30 rfl dX4_push_48 ?_
  refine rw_iconst F (v := 1) dX4_push_51 (by decide) ?_
  refine rw_iadd F dX4_push_52 ?_
  refine rw_bipush F (v := 20) dX4_push_53 (by decide) ?_
  refine rw_mmin F lkm_X4_push_min_33 (by decide +kernel) (by decide +kernel) (by decide +kernel) (Nat.le_of_ble_eq_true rfl) (Nat.le_of_ble_eq_true rfl) dX4_push_55 ?_
  refine rw_put F 20 (show 20 < 39 by decide) (gC_20 Z) iw_X4_push_X4 tyX4 tyX4_ok nmX4 rfl 2 (by decide) lk_X4_push_30 rfl rfl rfl (fun _ => by rw [lnC20]; decide) (stC20_2 Z.2.1) dX4_push_58 ?_
  exact rw_vret F hf rfl dX4_push_61

set_option maxHeartbeats 4000000 in
set_option maxRecDepth 100000 in
theorem c_X4_push_20_18 (l : Launch) (Z : Zx) (f : Nat → Nat → Int32) (r : Nat → Nat → Int32) (hf : f_X4_push_20_18 f = some r) : MS l (XC Z) yX4_push wsX4_push rm_X4_push_20_18 [.ref (Z.2.1 20), .ref (Z.2.1 18)] f (PV r) := by
  refine MS.of (cc := cX4_push) (maxL := 2) (ret := none) (own := RX4) (lv := [(0, .ref (Z.2.1 20)), (1, .ref (Z.2.1 18))]) (by decide) rfl rfl (Nat.le_of_ble_eq_true rfl) rfl ?_
  intro a A hla F
  subst hla
  unfold f_X4_push_20_18 at hf
  refine rw_aload_n F dX4_push_0 rfl 1 rfl ?_
  refine rw_get F 18 (show 18 < 39 by decide) (gC_18 Z _) iw_X4_push_X8 rfl 0 (by decide) lk_X4_push_17 rfl dX4_push_1 ?_
  refine rw_iconst F (v := 0) dX4_push_4 (by decide) ?_
  refine rw_aload_n F dX4_push_5 rfl 0 rfl ?_
  refine rw_get F 20 (show 20 < 39 by decide) (gC_20 Z _) iw_X4_push_X4 rfl 0 (by decide) lk_X4_push_11 rfl dX4_push_6 ?_
  refine rw_aload_n F dX4_push_9 rfl 0 rfl ?_
  refine rw_get F 20 (show 20 < 39 by decide) (gC_20 Z _) iw_X4_push_X4 rfl 1 (by decide) lk_X4_push_20 rfl dX4_push_10 ?_
  refine rw_bipush F (v := 28) dX4_push_13 (by decide) ?_
  refine rw_imul F dX4_push_15 ?_
  refine rw_bipush F (v := 28) dX4_push_16 (by decide) ?_
  obtain ⟨q2, hq1, hf⟩ := bind_h hf
  refine rw_callSV F (nA := 5) (c_X7_copy (aL a) Z (show 19 < 39 by decide) (gC_19 Z) (show 21 < 39 by decide) (gC_21 Z) _ _ _ _ _ hq1) gX4_push_X7_copy rfl ⟨rfl, rfl⟩ (by decide +kernel) ⟨Nat.le_of_ble_eq_true rfl, Nat.le_of_ble_eq_true rfl⟩ rfl rfl (Nat.le_of_ble_eq_true rfl) dX4_push_18 ?_
  refine rw_aload_n F dX4_push_21 rfl 0 rfl ?_
  refine rw_aload_n F dX4_push_22 rfl 0 rfl ?_
  refine rw_get F 20 (show 20 < 39 by decide) (gC_20 Z _) iw_X4_push_X4 rfl 1 (by decide) lk_X4_push_20 rfl dX4_push_23 ?_
  refine rw_iconst F (v := 1) dX4_push_26 (by decide) ?_
  refine rw_iadd F dX4_push_27 ?_
  refine rw_bipush F (v := 20) dX4_push_28 (by decide) ?_
  refine rw_icmp_ge F (tgt := 42) hf dX4_push_30 (by decide) (fun hc3 hf => ?_) (fun hc3 hf => ?_)
  · refine rw_iconst F (v := 0) dX4_push_42 (by decide) ?_
    exact WS.sub [0] rfl (b_X4_push_20_18_b43 F  _ _ hf)
  · refine rw_aload_n F dX4_push_33 rfl 0 rfl ?_
    refine rw_get F 20 (show 20 < 39 by decide) (gC_20 Z _) iw_X4_push_X4 rfl 1 (by decide) lk_X4_push_20 rfl dX4_push_34 ?_
    refine rw_iconst F (v := 1) dX4_push_37 (by decide) ?_
    refine rw_iadd F dX4_push_38 ?_
    refine rw_goto F (tgt := 43) dX4_push_39 (by decide) ?_
    exact WS.sub [0] rfl (b_X4_push_20_18_b43 F  _ _ hf)

abbrev rm_X2_loudness_29 : Room := { frames := 1, cells := 0, slots := 0, locals := 21 }
abbrev FX_X2_loudness_29 (a : Ax) (Z : Zx) (A : Nat → Prop) : Prop := FX a (XC Z) A cX2_loudness RX2 wsX2_loudness 8 (some .int) rm_X2_loudness_29
theorem iw_X2_loudness_X2 : ∀ w ∈ wsX20, w ∈ wsX2_loudness := by decide +kernel
theorem iw_X2_loudness_X5 : ∀ w ∈ wsX50, w ∈ wsX2_loudness := by decide +kernel
theorem iw_X2_loudness_X8 : ∀ w ∈ wsX80, w ∈ wsX2_loudness := by decide +kernel
theorem lk_X2_loudness_9 : Cond.fieldLink RX2 9 (TX2 0).1 (TX2 0).2.1 (TX2 0).2.2.1 ∈ wsX2_loudness := by decide +kernel
theorem lk_X2_loudness_15 : Cond.fieldLink RX2 15 (TX2 1).1 (TX2 1).2.1 (TX2 1).2.2.1 ∈ wsX2_loudness := by decide +kernel
theorem lk_X2_loudness_28 : Cond.fieldLink RX2 28 (TX5 5).1 (TX5 5).2.1 (TX5 5).2.2.1 ∈ wsX2_loudness := by decide +kernel
theorem lk_X2_loudness_40 : Cond.fieldLink RX2 40 (TX8 0).1 (TX8 0).2.1 (TX8 0).2.2.1 ∈ wsX2_loudness := by decide +kernel
theorem lkm_X2_loudness_max_25 : Cond.methodLink RX2 25 Lib.Math.max.name ∈ wsX2_loudness := by decide +kernel
theorem lkm_X2_loudness_min_19 : Cond.methodLink RX2 19 Lib.Math.min.name ∈ wsX2_loudness := by decide +kernel
set_option maxHeartbeats 4000000 in
set_option maxRecDepth 100000 in
theorem b_X2_loudness_29_b53 {a : Ax} {Z : Zx} {A : Nat → Prop} {r : Int32} {f : Nat → Nat → Int32} (F : FX_X2_loudness_29 a Z A) : ∀ (n : Nat) (i5 : Int32) (i6 : Int32) (i7 : Int32), f_X2_loudness_29_b53 n i5 i6 i7 f = some r → WS a (XC Z) A 8 (RP a (XC Z) A (PI r f)) 53 [(0, .ref (Z.2.1 29)), (5, .int i5), (6, .int i6), (7, .int i7)] [] f := by
  intro n
  induction n with
  | zero => intro i5 i6 i7 hf; exact nomatch (show (none : Option Int32) = some r from hf)
  | succ n hK53 =>
    intro i5 i6 i7 hf
    replace hf : f_X2_loudness_29_b53s (fun i5 i6 i7 => f_X2_loudness_29_b53 n i5 i6 i7 f) i5 i6 i7 f = some r := hf
    unfold f_X2_loudness_29_b53s at hf
    refine rw_iload F dX2_loudness_53 3 rfl ?_
    refine rw_iload F dX2_loudness_55 1 rfl ?_
    refine rw_icmp_ge F (tgt := 86) hf dX2_loudness_57 (by decide) (fun hc7 hf => ?_) (fun hc7 hf => ?_)
    · refine rw_iload F dX2_loudness_86 2 rfl ?_
      exact rw_iret F hf rfl dX2_loudness_88
    · refine rw_iload F dX2_loudness_60 2 rfl ?_
      refine rw_aload_n F dX2_loudness_62 rfl 0 rfl ?_
      refine rw_get F 29 (show 29 < 39 by decide) (gC_29 Z _) iw_X2_loudness_X2 rfl 1 (by decide) lk_X2_loudness_15 rfl dX2_loudness_63 ?_
      refine rw_get F 18 (show 18 < 39 by decide) (gC_18 Z _) iw_X2_loudness_X8 rfl 0 (by decide) lk_X2_loudness_40 rfl dX2_loudness_66 ?_
      refine rw_bipush F (v := 6) dX2_loudness_69 (by decide) ?_
      refine rw_iload F dX2_loudness_71 3 rfl ?_
      refine rw_iadd F dX2_loudness_73 ?_
      obtain ⟨q6, hq5, hf⟩ := bind_h hf
      refine rw_callSI F (nA := 2) (c_X7_get (aL a) Z (show 19 < 39 by decide) (gC_19 Z) _ _ _ hq5) gX2_loudness_X7_get rfl ⟨rfl, rfl⟩ (by decide +kernel) ⟨Nat.le_of_ble_eq_true rfl, Nat.le_of_ble_eq_true rfl⟩ rfl rfl (Nat.le_of_ble_eq_true rfl) dX2_loudness_74 ?_
      refine rw_isub F dX2_loudness_77 ?_
      refine rw_istore F dX2_loudness_78 (by decide) rfl ?_
      refine rw_iinc F (v := 1) dX2_loudness_80 3 rfl (by decide) (by decide) rfl ?_
      refine rw_goto F (tgt := 53) dX2_loudness_83 (by decide) ?_
      exact WS.sub [2, 3, 1, 0] rfl (hK53 _ _ _ hf)

set_option maxHeartbeats 4000000 in
set_option maxRecDepth 100000 in
theorem c_X2_loudness_29 (l : Launch) (Z : Zx) (p1 : Int32) (p2 : Int32) (p3 : Int32) (f : Nat → Nat → Int32) (r : Int32) (hf : f_X2_loudness_29 p1 p2 p3 f = some r) : MS l (XC Z) yX2_loudness wsX2_loudness rm_X2_loudness_29 [.ref (Z.2.1 29), .int p1, .int p2, .int p3] f (PI r f) := by
  refine MS.of (cc := cX2_loudness) (maxL := 8) (ret := (some .int)) (own := RX2) (lv := [(0, .ref (Z.2.1 29)), (1, .int p1), (2, .int p2), (3, .int p3)]) (by decide) rfl rfl (Nat.le_of_ble_eq_true rfl) rfl ?_
  intro a A hla F
  subst hla
  unfold f_X2_loudness_29 at hf
  refine rw_iload_n F dX2_loudness_0 rfl 2 rfl ?_
  refine rw_iload_n F dX2_loudness_1 rfl 3 rfl ?_
  refine rw_mmin F lkm_X2_loudness_min_19 (by decide +kernel) (by decide +kernel) (by decide +kernel) (Nat.le_of_ble_eq_true rfl) (Nat.le_of_ble_eq_true rfl) dX2_loudness_2 ?_
  refine rw_istore F dX2_loudness_5 (by decide) rfl ?_
  refine rw_iload_n F dX2_loudness_7 rfl 3 rfl ?_
  refine rw_iload_n F dX2_loudness_8 rfl 4 rfl ?_
  refine rw_mmax F lkm_X2_loudness_max_25 (by decide +kernel) (by decide +kernel) (by decide +kernel) (Nat.le_of_ble_eq_true rfl) (Nat.le_of_ble_eq_true rfl) dX2_loudness_9 ?_
  refine rw_istore F dX2_loudness_12 (by decide) rfl ?_
  refine rw_aload_n F dX2_loudness_14 rfl 2 rfl ?_
  refine rw_get F 29 (show 29 < 39 by decide) (gC_29 Z _) iw_X2_loudness_X2 rfl 0 (by decide) lk_X2_loudness_9 rfl dX2_loudness_15 ?_
  refine rw_get F 3 (show 3 < 39 by decide) (gC_3 Z _) iw_X2_loudness_X5 rfl 5 (by decide) lk_X2_loudness_28 rfl dX2_loudness_18 ?_
  refine rw_iload_n F dX2_loudness_21 rfl 3 rfl ?_
  obtain ⟨q2, hq1, hf⟩ := bind_h hf
  refine rw_callSI F (nA := 2) (c_X7_get (aL a) Z (show 5 < 39 by decide) (gC_5 Z) _ _ _ hq1) gX2_loudness_X7_get rfl ⟨rfl, rfl⟩ (by decide +kernel) ⟨Nat.le_of_ble_eq_true rfl, Nat.le_of_ble_eq_true rfl⟩ rfl rfl (Nat.le_of_ble_eq_true rfl) dX2_loudness_22 ?_
  refine rw_iload F dX2_loudness_25 0 rfl ?_
  refine rw_iload F dX2_loudness_27 1 rfl ?_
  refine rw_isub F dX2_loudness_29 ?_
  refine rw_isub F dX2_loudness_30 ?_
  refine rw_aload_n F dX2_loudness_31 rfl 2 rfl ?_
  refine rw_get F 29 (show 29 < 39 by decide) (gC_29 Z _) iw_X2_loudness_X2 rfl 1 (by decide) lk_X2_loudness_15 rfl dX2_loudness_32 ?_
  refine rw_get F 18 (show 18 < 39 by decide) (gC_18 Z _) iw_X2_loudness_X8 rfl 0 (by decide) lk_X2_loudness_40 rfl dX2_loudness_35 ?_
  refine rw_iconst F (v := 0) dX2_loudness_38 (by decide) ?_
  obtain ⟨q4, hq3, hf⟩ := bind_h hf
  refine rw_callSI F (nA := 2) (c_X7_get (aL a) Z (show 19 < 39 by decide) (gC_19 Z) _ _ _ hq3) gX2_loudness_X7_get rfl ⟨rfl, rfl⟩ (by decide +kernel) ⟨Nat.le_of_ble_eq_true rfl, Nat.le_of_ble_eq_true rfl⟩ rfl rfl (Nat.le_of_ble_eq_true rfl) dX2_loudness_39 ?_
  refine rw_iload_n F dX2_loudness_42 rfl 5 rfl ?_
  refine rw_iload_n F dX2_loudness_43 rfl 4 rfl ?_
  refine rw_isub F dX2_loudness_44 ?_
  refine rw_imul F dX2_loudness_45 ?_
  refine rw_iadd F dX2_loudness_46 ?_
  refine rw_istore F dX2_loudness_47 (by decide) rfl ?_
  refine rw_iload F dX2_loudness_49 2 rfl ?_
  refine rw_istore F dX2_loudness_51 (by decide) rfl ?_
  exact WS.sub [4, 2, 1, 0] rfl (b_X2_loudness_29_b53 F  fuB _ _ _ hf)

abbrev rm_X2_margin_29 : Room := { frames := 2, cells := 0, slots := 0, locals := 48 }
abbrev FX_X2_margin_29 (a : Ax) (Z : Zx) (A : Nat → Prop) : Prop := FX a (XC Z) A cX2_margin RX2 wsX2_margin 4 (some .int) rm_X2_margin_29
theorem iw_X2_margin_X2 : ∀ w ∈ wsX20, w ∈ wsX2_margin := by decide +kernel
theorem iw_X2_margin_X5 : ∀ w ∈ wsX50, w ∈ wsX2_margin := by decide +kernel
theorem iw_X2_margin_X8 : ∀ w ∈ wsX80, w ∈ wsX2_margin := by decide +kernel
theorem lk_X2_margin_9 : Cond.fieldLink RX2 9 (TX2 0).1 (TX2 0).2.1 (TX2 0).2.2.1 ∈ wsX2_margin := by decide +kernel
theorem lk_X2_margin_15 : Cond.fieldLink RX2 15 (TX2 1).1 (TX2 1).2.1 (TX2 1).2.2.1 ∈ wsX2_margin := by decide +kernel
theorem lk_X2_margin_40 : Cond.fieldLink RX2 40 (TX8 0).1 (TX8 0).2.1 (TX8 0).2.2.1 ∈ wsX2_margin := by decide +kernel
theorem lk_X2_margin_49 : Cond.fieldLink RX2 49 (TX5 8).1 (TX5 8).2.1 (TX5 8).2.2.1 ∈ wsX2_margin := by decide +kernel
set_option maxHeartbeats 4000000 in
set_option maxRecDepth 100000 in
theorem c_X2_margin_29 (l : Launch) (Z : Zx) (p1 : Int32) (p2 : Int32) (p3 : Int32) (f : Nat → Nat → Int32) (r : Int32) (hf : f_X2_margin_29 p1 p2 p3 f = some r) : MS l (XC Z) yX2_margin wsX2_margin rm_X2_margin_29 [.ref (Z.2.1 29), .int p1, .int p2, .int p3] f (PI r f) := by
  refine MS.of (cc := cX2_margin) (maxL := 4) (ret := (some .int)) (own := RX2) (lv := [(0, .ref (Z.2.1 29)), (1, .int p1), (2, .int p2), (3, .int p3)]) (by decide) rfl rfl (Nat.le_of_ble_eq_true rfl) rfl ?_
  intro a A hla F
  subst hla
  unfold f_X2_margin_29 at hf
  refine rw_aload_n F dX2_margin_0 rfl 0 rfl ?_
  refine rw_iload_n F dX2_margin_1 rfl 2 rfl ?_
  refine rw_iload_n F dX2_margin_2 rfl 3 rfl ?_
  refine rw_aload_n F dX2_margin_3 rfl 0 rfl ?_
  refine rw_get F 29 (show 29 < 39 by decide) (gC_29 Z _) iw_X2_margin_X2 rfl 1 (by decide) lk_X2_margin_15 rfl dX2_margin_4 ?_
  refine rw_get F 18 (show 18 < 39 by decide) (gC_18 Z _) iw_X2_margin_X8 rfl 0 (by decide) lk_X2_margin_40 rfl dX2_margin_7 ?_
  refine rw_bipush F (v := 14) dX2_margin_10 (by decide) ?_
  refine rw_iload_n F dX2_margin_12 rfl 1 rfl ?_
  refine rw_iadd F dX2_margin_13 ?_
  obtain ⟨q2, hq1, hf⟩ := bind_h hf
  refine rw_callSI F (nA := 2) (c_X7_get (aL a) Z (show 19 < 39 by decide) (gC_19 Z) _ _ _ hq1) gX2_margin_X7_get rfl ⟨rfl, rfl⟩ (by decide +kernel) ⟨Nat.le_of_ble_eq_true rfl, Nat.le_of_ble_eq_true rfl⟩ rfl rfl (Nat.le_of_ble_eq_true rfl) dX2_margin_14 ?_
  obtain ⟨q4, hq3, hf⟩ := bind_h hf
  refine rw_callVI F (k0 := 29) (nA := 3) (c_X2_loudness_29 (aL a) Z _ _ _ _ _ hq3) gX2_margin_X2_loudness rfl ⟨rfl, rfl⟩ (by decide +kernel) ⟨Nat.le_of_ble_eq_true rfl, Nat.le_of_ble_eq_true rfl⟩ (show 29 < 39 by decide) (gC_29 Z _) rfl rfl rfl (Nat.le_of_ble_eq_true rfl) dX2_margin_17 ?_
  refine rw_aload_n F dX2_margin_20 rfl 0 rfl ?_
  refine rw_get F 29 (show 29 < 39 by decide) (gC_29 Z _) iw_X2_margin_X2 rfl 0 (by decide) lk_X2_margin_9 rfl dX2_margin_21 ?_
  refine rw_get F 3 (show 3 < 39 by decide) (gC_3 Z _) iw_X2_margin_X5 rfl 8 (by decide) lk_X2_margin_49 rfl dX2_margin_24 ?_
  refine rw_iload_n F dX2_margin_27 rfl 1 rfl ?_
  obtain ⟨q6, hq5, hf⟩ := bind_h hf
  refine rw_callSI F (nA := 2) (c_X7_get (aL a) Z (show 8 < 39 by decide) (gC_8 Z) _ _ _ hq5) gX2_margin_X7_get rfl ⟨rfl, rfl⟩ (by decide +kernel) ⟨Nat.le_of_ble_eq_true rfl, Nat.le_of_ble_eq_true rfl⟩ rfl rfl (Nat.le_of_ble_eq_true rfl) dX2_margin_28 ?_
  refine rw_isub F dX2_margin_31 ?_
  exact rw_iret F hf rfl dX2_margin_32

abbrev rm_X2_hearers_29 : Room := { frames := 3, cells := 0, slots := 0, locals := 71 }
abbrev FX_X2_hearers_29 (a : Ax) (Z : Zx) (A : Nat → Prop) : Prop := FX a (XC Z) A cX2_hearers RX2 wsX2_hearers 6 (some .int) rm_X2_hearers_29
theorem iw_X2_hearers_X2 : ∀ w ∈ wsX20, w ∈ wsX2_hearers := by decide +kernel
theorem iw_X2_hearers_X5 : ∀ w ∈ wsX50, w ∈ wsX2_hearers := by decide +kernel
theorem lk_X2_hearers_9 : Cond.fieldLink RX2 9 (TX2 0).1 (TX2 0).2.1 (TX2 0).2.2.1 ∈ wsX2_hearers := by decide +kernel
theorem lk_X2_hearers_52 : Cond.fieldLink RX2 52 (TX5 3).1 (TX5 3).2.1 (TX5 3).2.2.1 ∈ wsX2_hearers := by decide +kernel
set_option maxHeartbeats 4000000 in
set_option maxRecDepth 100000 in
theorem b_X2_hearers_29_b39 {a : Ax} {Z : Zx} {A : Nat → Prop} {r : Int32} {f : Nat → Nat → Int32} (F : FX_X2_hearers_29 a Z A) (K6 : Int32 → Int32 → Int32 → Int32 → Int32 → Option Int32) (hK6 : ∀ (i1 : Int32) (i2 : Int32) (i3 : Int32) (i4 : Int32) (i5 : Int32), K6 i1 i2 i3 i4 i5 = some r → WS a (XC Z) A 6 (RP a (XC Z) A (PI r f)) 6 [(0, .ref (Z.2.1 29)), (1, .int i1), (2, .int i2), (3, .int i3), (4, .int i4), (5, .int i5)] [] f) : ∀ (i1 : Int32) (i2 : Int32) (i3 : Int32) (i4 : Int32) (i5 : Int32), f_X2_hearers_29_b39 K6 i1 i2 i3 i4 i5 f = some r → WS a (XC Z) A 6 (RP a (XC Z) A (PI r f)) 39 [(0, .ref (Z.2.1 29)), (1, .int i1), (2, .int i2), (3, .int i3), (4, .int i4), (5, .int i5)] [] f := by
  intro i1 i2 i3 i4 i5 hf
  unfold f_X2_hearers_29_b39 at hf
  refine rw_iinc F (v := 1) dX2_hearers_39 5 rfl (by decide) (by decide) rfl ?_
  refine rw_goto F (tgt := 6) dX2_hearers_42 (by decide) ?_
  exact WS.sub [1, 2, 3, 4, 5, 0] rfl (hK6 _ _ _ _ _ hf)

set_option maxHeartbeats 4000000 in
set_option maxRecDepth 100000 in
theorem b_X2_hearers_29_b6 {a : Ax} {Z : Zx} {A : Nat → Prop} {r : Int32} {f : Nat → Nat → Int32} (F : FX_X2_hearers_29 a Z A) : ∀ (n : Nat) (i1 : Int32) (i2 : Int32) (i3 : Int32) (i4 : Int32) (i5 : Int32), f_X2_hearers_29_b6 n i1 i2 i3 i4 i5 f = some r → WS a (XC Z) A 6 (RP a (XC Z) A (PI r f)) 6 [(0, .ref (Z.2.1 29)), (1, .int i1), (2, .int i2), (3, .int i3), (4, .int i4), (5, .int i5)] [] f := by
  intro n
  induction n with
  | zero => intro i1 i2 i3 i4 i5 hf; exact nomatch (show (none : Option Int32) = some r from hf)
  | succ n hK6 =>
    intro i1 i2 i3 i4 i5 hf
    replace hf : f_X2_hearers_29_b6s (fun i1 i2 i3 i4 i5 => f_X2_hearers_29_b6 n i1 i2 i3 i4 i5 f) i1 i2 i3 i4 i5 f = some r := hf
    unfold f_X2_hearers_29_b6s at hf
    refine rw_iload F dX2_hearers_6 5 rfl ?_
    refine rw_aload_n F dX2_hearers_8 rfl 0 rfl ?_
    refine rw_get F 29 (show 29 < 39 by decide) (gC_29 Z _) iw_X2_hearers_X2 rfl 0 (by decide) lk_X2_hearers_9 rfl dX2_hearers_9 ?_
    refine rw_get F 3 (show 3 < 39 by decide) (gC_3 Z _) iw_X2_hearers_X5 rfl 3 (by decide) lk_X2_hearers_52 rfl dX2_hearers_12 ?_
    refine rw_icmp_ge F (tgt := 45) hf dX2_hearers_15 (by decide) (fun hc4 hf => ?_) (fun hc4 hf => ?_)
    · refine rw_iload F dX2_hearers_45 4 rfl ?_
      exact rw_iret F hf rfl dX2_hearers_47
    · refine rw_aload_n F dX2_hearers_18 rfl 0 rfl ?_
      refine rw_iload F dX2_hearers_19 5 rfl ?_
      refine rw_iload_n F dX2_hearers_21 rfl 1 rfl ?_
      refine rw_iload_n F dX2_hearers_22 rfl 2 rfl ?_
      obtain ⟨q2, hq1, hf⟩ := bind_h hf
      refine rw_callVI F (k0 := 29) (nA := 3) (c_X2_margin_29 (aL a) Z _ _ _ _ _ hq1) gX2_hearers_X2_margin rfl ⟨rfl, rfl⟩ (by decide +kernel) ⟨Nat.le_of_ble_eq_true rfl, Nat.le_of_ble_eq_true rfl⟩ (show 29 < 39 by decide) (gC_29 Z _) rfl rfl rfl (Nat.le_of_ble_eq_true rfl) dX2_hearers_23 ?_
      refine rw_iload_n F dX2_hearers_26 rfl 3 rfl ?_
      refine rw_icmp_lt F (tgt := 39) hf dX2_hearers_27 (by decide) (fun hc3 hf => ?_) (fun hc3 hf => ?_)
      · exact WS.sub [0, 1, 2, 3, 4, 5] rfl (b_X2_hearers_29_b39 F _ hK6 _ _ _ _ _ hf)
      · refine rw_iload F dX2_hearers_30 4 rfl ?_
        refine rw_iconst F (v := 1) dX2_hearers_32 (by decide) ?_
        refine rw_iload F dX2_hearers_33 5 rfl ?_
        refine rw_ishl F dX2_hearers_35 ?_
        refine rw_ior F dX2_hearers_36 ?_
        refine rw_istore F dX2_hearers_37 (by decide) rfl ?_
        exact WS.sub [1, 2, 3, 4, 0, 5] rfl (b_X2_hearers_29_b39 F _ hK6 _ _ _ _ _ hf)

set_option maxHeartbeats 4000000 in
set_option maxRecDepth 100000 in
theorem c_X2_hearers_29 (l : Launch) (Z : Zx) (p1 : Int32) (p2 : Int32) (p3 : Int32) (f : Nat → Nat → Int32) (r : Int32) (hf : f_X2_hearers_29 p1 p2 p3 f = some r) : MS l (XC Z) yX2_hearers wsX2_hearers rm_X2_hearers_29 [.ref (Z.2.1 29), .int p1, .int p2, .int p3] f (PI r f) := by
  refine MS.of (cc := cX2_hearers) (maxL := 6) (ret := (some .int)) (own := RX2) (lv := [(0, .ref (Z.2.1 29)), (1, .int p1), (2, .int p2), (3, .int p3)]) (by decide) rfl rfl (Nat.le_of_ble_eq_true rfl) rfl ?_
  intro a A hla F
  subst hla
  unfold f_X2_hearers_29 at hf
  refine rw_iconst F (v := 0) dX2_hearers_0 (by decide) ?_
  refine rw_istore F dX2_hearers_1 (by decide) rfl ?_
  refine rw_iconst F (v := 0) dX2_hearers_3 (by decide) ?_
  refine rw_istore F dX2_hearers_4 (by decide) rfl ?_
  exact WS.sub [2, 3, 4, 5, 1, 0] rfl (b_X2_hearers_29_b6 F  fuB _ _ _ _ _ hf)

abbrev rm_X2_saying_29 : Room := { frames := 3, cells := 0, slots := 0, locals := 71 }
abbrev FX_X2_saying_29 (a : Ax) (Z : Zx) (A : Nat → Prop) : Prop := FX a (XC Z) A cX2_saying RX2 wsX2_saying 6 (some .int) rm_X2_saying_29
theorem iw_X2_saying_X2 : ∀ w ∈ wsX20, w ∈ wsX2_saying := by decide +kernel
theorem iw_X2_saying_X5 : ∀ w ∈ wsX50, w ∈ wsX2_saying := by decide +kernel
theorem lk_X2_saying_9 : Cond.fieldLink RX2 9 (TX2 0).1 (TX2 0).2.1 (TX2 0).2.2.1 ∈ wsX2_saying := by decide +kernel
theorem lk_X2_saying_59 : Cond.fieldLink RX2 59 (TX5 9).1 (TX5 9).2.1 (TX5 9).2.2.1 ∈ wsX2_saying := by decide +kernel
theorem lk_X2_saying_62 : Cond.fieldLink RX2 62 (TX5 2).1 (TX5 2).2.1 (TX5 2).2.2.1 ∈ wsX2_saying := by decide +kernel
theorem lk_X2_saying_65 : Cond.fieldLink RX2 65 (TX5 6).1 (TX5 6).2.1 (TX5 6).2.2.1 ∈ wsX2_saying := by decide +kernel
set_option maxHeartbeats 4000000 in
set_option maxRecDepth 100000 in
theorem c_X2_saying_29 (l : Launch) (Z : Zx) (p1 : Int32) (p2 : Int32) (p3 : Int32) (f : Nat → Nat → Int32) (r : Int32) (hf : f_X2_saying_29 p1 p2 p3 f = some r) : MS l (XC Z) yX2_saying wsX2_saying rm_X2_saying_29 [.ref (Z.2.1 29), .int p1, .int p2, .int p3] f (PI r f) := by
  refine MS.of (cc := cX2_saying) (maxL := 6) (ret := (some .int)) (own := RX2) (lv := [(0, .ref (Z.2.1 29)), (1, .int p1), (2, .int p2), (3, .int p3)]) (by decide) rfl rfl (Nat.le_of_ble_eq_true rfl) rfl ?_
  intro a A hla F
  subst hla
  unfold f_X2_saying_29 at hf
  refine rw_aload_n F dX2_saying_0 rfl 0 rfl ?_
  refine rw_get F 29 (show 29 < 39 by decide) (gC_29 Z _) iw_X2_saying_X2 rfl 0 (by decide) lk_X2_saying_9 rfl dX2_saying_1 ?_
  refine rw_get F 3 (show 3 < 39 by decide) (gC_3 Z _) iw_X2_saying_X5 rfl 9 (by decide) lk_X2_saying_59 rfl dX2_saying_4 ?_
  refine rw_iload_n F dX2_saying_7 rfl 1 rfl ?_
  obtain ⟨q2, hq1, hf⟩ := bind_h hf
  refine rw_callSI F (nA := 2) (c_X7_get (aL a) Z (show 9 < 39 by decide) (gC_9 Z) _ _ _ hq1) gX2_saying_X7_get rfl ⟨rfl, rfl⟩ (by decide +kernel) ⟨Nat.le_of_ble_eq_true rfl, Nat.le_of_ble_eq_true rfl⟩ rfl rfl (Nat.le_of_ble_eq_true rfl) dX2_saying_8 ?_
  refine rw_istore F dX2_saying_11 (by decide) rfl ?_
  refine rw_iload F dX2_saying_13 0 rfl ?_
  refine rw_iconst F (v := 1) dX2_saying_15 (by decide) ?_
  refine rw_icmp_ne F (tgt := 47) hf dX2_saying_16 (by decide) (fun hc14 hf => ?_) (fun hc14 hf => ?_)
  · refine rw_iload F dX2_saying_47 0 rfl ?_
    refine rw_iconst F (v := 2) dX2_saying_49 (by decide) ?_
    refine rw_icmp_eq F (tgt := 58) hf dX2_saying_50 (by decide) (fun hc10 hf => ?_) (fun hc10 hf => ?_)
    · refine rw_iconst F (v := 0) dX2_saying_58 (by decide) ?_
      exact rw_iret F hf rfl dX2_saying_59
    · refine rw_iload_n F dX2_saying_53 rfl 3 rfl ?_
      refine rw_iconst F (v := -1) dX2_saying_54 (by decide) ?_
      refine rw_icmp_ne F (tgt := 60) hf dX2_saying_55 (by decide) (fun hc9 hf => ?_) (fun hc9 hf => ?_)
      · refine rw_aload_n F dX2_saying_60 rfl 1 rfl ?_
        refine rw_iload_n F dX2_saying_61 rfl 2 rfl ?_
        refine rw_iload_n F dX2_saying_62 rfl 3 rfl ?_
        refine rw_iload_n F dX2_saying_63 rfl 4 rfl ?_
        obtain ⟨q4, hq3, hf⟩ := bind_h hf
        refine rw_callVI F (k0 := 29) (nA := 3) (c_X2_margin_29 (aL a) Z _ _ _ _ _ hq3) gX2_saying_X2_margin rfl ⟨rfl, rfl⟩ (by decide +kernel) ⟨Nat.le_of_ble_eq_true rfl, Nat.le_of_ble_eq_true rfl⟩ (show 29 < 39 by decide) (gC_29 Z _) rfl rfl rfl (Nat.le_of_ble_eq_true rfl) dX2_saying_64 ?_
        refine rw_istore F dX2_saying_67 (by decide) rfl ?_
        refine rw_iload F dX2_saying_69 0 rfl ?_
        refine rw_if_ge F (tgt := 76) hf dX2_saying_71 (by decide) (fun hc8 hf => ?_) (fun hc8 hf => ?_)
        · refine rw_iload F dX2_saying_76 0 rfl ?_
          refine rw_iconst F (v := 5) dX2_saying_78 (by decide) ?_
          refine rw_icmp_lt F (tgt := 98) hf dX2_saying_79 (by decide) (fun hc7 hf => ?_) (fun hc7 hf => ?_)
          · refine rw_iconst F (v := 1) dX2_saying_98 (by decide) ?_
            exact rw_iret F hf rfl dX2_saying_99
          · refine rw_iconst F (v := 2) dX2_saying_82 (by decide) ?_
            refine rw_aload_n F dX2_saying_83 rfl 2 rfl ?_
            refine rw_get F 29 (show 29 < 39 by decide) (gC_29 Z _) iw_X2_saying_X2 rfl 0 (by decide) lk_X2_saying_9 rfl dX2_saying_84 ?_
            refine rw_get F 3 (show 3 < 39 by decide) (gC_3 Z _) iw_X2_saying_X5 rfl 6 (by decide) lk_X2_saying_65 rfl dX2_saying_87 ?_
            refine rw_iload_n F dX2_saying_90 rfl 4 rfl ?_
            obtain ⟨q6, hq5, hf⟩ := bind_h hf
            refine rw_callSI F (nA := 2) (c_X7_get (aL a) Z (show 6 < 39 by decide) (gC_6 Z) _ _ _ hq5) gX2_saying_X7_get rfl ⟨rfl, rfl⟩ (by decide +kernel) ⟨Nat.le_of_ble_eq_true rfl, Nat.le_of_ble_eq_true rfl⟩ rfl rfl (Nat.le_of_ble_eq_true rfl) dX2_saying_91 ?_
            refine rw_iadd F dX2_saying_94 ?_
            refine rw_goto F (tgt := 99) dX2_saying_95 (by decide) ?_
            exact rw_iret F hf rfl dX2_saying_99
        · refine rw_iconst F (v := 0) dX2_saying_74 (by decide) ?_
          exact rw_iret F hf rfl dX2_saying_75
      · refine rw_iconst F (v := 0) dX2_saying_58 (by decide) ?_
        exact rw_iret F hf rfl dX2_saying_59
  · refine rw_aload_n F dX2_saying_19 rfl 1 rfl ?_
    refine rw_get F 29 (show 29 < 39 by decide) (gC_29 Z _) iw_X2_saying_X2 rfl 0 (by decide) lk_X2_saying_9 rfl dX2_saying_20 ?_
    refine rw_get F 3 (show 3 < 39 by decide) (gC_3 Z _) iw_X2_saying_X5 rfl 2 (by decide) lk_X2_saying_62 rfl dX2_saying_23 ?_
    refine rw_if_le F (tgt := 45) hf dX2_saying_26 (by decide) (fun hc13 hf => ?_) (fun hc13 hf => ?_)
    · refine rw_iconst F (v := 0) dX2_saying_45 (by decide) ?_
      exact rw_iret F hf rfl dX2_saying_46
    · refine rw_iconst F (v := 2) dX2_saying_29 (by decide) ?_
      refine rw_aload_n F dX2_saying_30 rfl 1 rfl ?_
      refine rw_get F 29 (show 29 < 39 by decide) (gC_29 Z _) iw_X2_saying_X2 rfl 0 (by decide) lk_X2_saying_9 rfl dX2_saying_31 ?_
      refine rw_get F 3 (show 3 < 39 by decide) (gC_3 Z _) iw_X2_saying_X5 rfl 6 (by decide) lk_X2_saying_65 rfl dX2_saying_34 ?_
      refine rw_iconst F (v := 0) dX2_saying_37 (by decide) ?_
      obtain ⟨q12, hq11, hf⟩ := bind_h hf
      refine rw_callSI F (nA := 2) (c_X7_get (aL a) Z (show 6 < 39 by decide) (gC_6 Z) _ _ _ hq11) gX2_saying_X7_get rfl ⟨rfl, rfl⟩ (by decide +kernel) ⟨Nat.le_of_ble_eq_true rfl, Nat.le_of_ble_eq_true rfl⟩ rfl rfl (Nat.le_of_ble_eq_true rfl) dX2_saying_38 ?_
      refine rw_iadd F dX2_saying_41 ?_
      refine rw_goto F (tgt := 46) dX2_saying_42 (by decide) ?_
      exact rw_iret F hf rfl dX2_saying_46

abbrev rm_X11_swear : Room := { frames := 4, cells := 0, slots := 0, locals := 96 }
abbrev FX_X11_swear (a : Ax) (Z : Zx) (A : Nat → Prop) : Prop := FX a (XC Z) A cX11_swear RX11 wsX11_swear 4 none rm_X11_swear
theorem iw_X11_swear_X11 : ∀ w ∈ wsX110, w ∈ wsX11_swear := by decide +kernel
theorem iw_X11_swear_X5 : ∀ w ∈ wsX50, w ∈ wsX11_swear := by decide +kernel
theorem lk_X11_swear_19 : Cond.fieldLink RX11 19 (TX11 1).1 (TX11 1).2.1 (TX11 1).2.2.1 ∈ wsX11_swear := by decide +kernel
theorem lk_X11_swear_35 : Cond.fieldLink RX11 35 (TX11 3).1 (TX11 3).2.1 (TX11 3).2.2.1 ∈ wsX11_swear := by decide +kernel
theorem lk_X11_swear_57 : Cond.fieldLink RX11 57 (TX11 7).1 (TX11 7).2.1 (TX11 7).2.2.1 ∈ wsX11_swear := by decide +kernel
theorem lk_X11_swear_135 : Cond.fieldLink RX11 135 (TX5 3).1 (TX5 3).2.1 (TX5 3).2.2.1 ∈ wsX11_swear := by decide +kernel
set_option maxHeartbeats 4000000 in
set_option maxRecDepth 100000 in
theorem b_X11_swear_b74 {a : Ax} {Z : Zx} {A : Nat → Prop} {r : Nat → Nat → Int32} (F : FX_X11_swear a Z A) : ∀ (n : Nat) (i1 : Int32) (i2 : Int32) (i3 : Int32) (f : Nat → Nat → Int32), f_X11_swear_b74 n i1 i2 i3 f = some r → WS a (XC Z) A 4 (RP a (XC Z) A (PV r)) 74 [(0, .ref (Z.2.1 0)), (1, .int i1), (2, .int i2), (3, .int i3)] [] f := by
  intro n
  induction n with
  | zero => intro i1 i2 i3 f hf; exact nomatch (show (none : Option (Nat → Nat → Int32)) = some r from hf)
  | succ n hK74 =>
    intro i1 i2 i3 f hf
    replace hf : f_X11_swear_b74s (f_X11_swear_b74 n) i1 i2 i3 f = some r := hf
    unfold f_X11_swear_b74s at hf
    refine rw_iload_n F dX11_swear_74 rfl 3 rfl ?_
    refine rw_aload_n F dX11_swear_75 rfl 0 rfl ?_
    refine rw_get F 0 (show 0 < 39 by decide) (gC_0 Z _) iw_X11_swear_X11 rfl 1 (by decide) lk_X11_swear_19 rfl dX11_swear_76 ?_
    refine rw_get F 3 (show 3 < 39 by decide) (gC_3 Z _) iw_X11_swear_X5 rfl 3 (by decide) lk_X11_swear_135 rfl dX11_swear_79 ?_
    refine rw_icmp_ge F (tgt := 112) hf dX11_swear_82 (by decide) (fun hc21 hf => ?_) (fun hc21 hf => ?_)
    · exact rw_vret F hf rfl dX11_swear_112
    · refine rw_aload_n F dX11_swear_85 rfl 0 rfl ?_
      refine rw_get F 0 (show 0 < 39 by decide) (gC_0 Z _) iw_X11_swear_X11 rfl 3 (by decide) lk_X11_swear_35 rfl dX11_swear_86 ?_
      refine rw_bipush F (v := 21) dX11_swear_89 (by decide) ?_
      refine rw_iload_n F dX11_swear_91 rfl 3 rfl ?_
      refine rw_iadd F dX11_swear_92 ?_
      refine rw_aload_n F dX11_swear_93 rfl 0 rfl ?_
      refine rw_get F 0 (show 0 < 39 by decide) (gC_0 Z _) iw_X11_swear_X11 rfl 7 (by decide) lk_X11_swear_57 rfl dX11_swear_94 ?_
      refine rw_iload_n F dX11_swear_97 rfl 3 rfl ?_
      refine rw_iload_n F dX11_swear_98 rfl 1 rfl ?_
      refine rw_iload_n F dX11_swear_99 rfl 2 rfl ?_
      obtain ⟨q18, hq17, hf⟩ := bind_h hf
      refine rw_callVI F (k0 := 29) (nA := 3) (c_X2_saying_29 (aL a) Z _ _ _ _ _ hq17) gX11_swear_X2_saying rfl ⟨rfl, rfl⟩ (by decide +kernel) ⟨Nat.le_of_ble_eq_true rfl, Nat.le_of_ble_eq_true rfl⟩ (show 29 < 39 by decide) (gC_29 Z _) rfl rfl rfl (Nat.le_of_ble_eq_true rfl) dX11_swear_100 ?_
      obtain ⟨q20, hq19, hf⟩ := bind_h hf
      refine rw_callVV F (k0 := 18) (nA := 2) (c_X8_put_18 (aL a) Z _ _ _ _ hq19) gX11_swear_X8_put rfl ⟨rfl, rfl⟩ (by decide +kernel) ⟨Nat.le_of_ble_eq_true rfl, Nat.le_of_ble_eq_true rfl⟩ (show 18 < 39 by decide) (gC_18 Z _) rfl rfl rfl (Nat.le_of_ble_eq_true rfl) dX11_swear_103 ?_
      refine rw_iinc F (v := 1) dX11_swear_106 3 rfl (by decide) (by decide) rfl ?_
      refine rw_goto F (tgt := 74) dX11_swear_109 (by decide) ?_
      exact WS.sub [1, 2, 3, 0] rfl (hK74 _ _ _ _ hf)

set_option maxHeartbeats 4000000 in
set_option maxRecDepth 100000 in
theorem c_X11_swear (l : Launch) (Z : Zx) (p1 : Int32) (p2 : Int32) (f : Nat → Nat → Int32) (r : Nat → Nat → Int32) (hf : f_X11_swear p1 p2 f = some r) : MS l (XC Z) yX11_swear wsX11_swear rm_X11_swear [.ref (Z.2.1 0), .int p1, .int p2] f (PV r) := by
  refine MS.of (cc := cX11_swear) (maxL := 4) (ret := none) (own := RX11) (lv := [(0, .ref (Z.2.1 0)), (1, .int p1), (2, .int p2)]) (by decide) rfl rfl (Nat.le_of_ble_eq_true rfl) rfl ?_
  intro a A hla F
  subst hla
  unfold f_X11_swear at hf
  refine rw_aload_n F dX11_swear_0 rfl 0 rfl ?_
  refine rw_get F 0 (show 0 < 39 by decide) (gC_0 Z _) iw_X11_swear_X11 rfl 3 (by decide) lk_X11_swear_35 rfl dX11_swear_1 ?_
  refine rw_iconst F (v := 1) dX11_swear_4 (by decide) ?_
  refine rw_aload_n F dX11_swear_5 rfl 0 rfl ?_
  refine rw_get F 0 (show 0 < 39 by decide) (gC_0 Z _) iw_X11_swear_X11 rfl 3 (by decide) lk_X11_swear_35 rfl dX11_swear_6 ?_
  refine rw_iconst F (v := 1) dX11_swear_9 (by decide) ?_
  obtain ⟨q2, hq1, hf⟩ := bind_h hf
  refine rw_callVI F (k0 := 18) (nA := 1) (c_X8_get_18 (aL a) Z _ _ _ hq1) gX11_swear_X8_get rfl ⟨rfl, rfl⟩ (by decide +kernel) ⟨Nat.le_of_ble_eq_true rfl, Nat.le_of_ble_eq_true rfl⟩ (show 18 < 39 by decide) (gC_18 Z _) rfl rfl rfl (Nat.le_of_ble_eq_true rfl) dX11_swear_10 ?_
  refine rw_iconst F (v := 1) dX11_swear_13 (by decide) ?_
  refine rw_iadd F dX11_swear_14 ?_
  obtain ⟨q4, hq3, hf⟩ := bind_h hf
  refine rw_callVV F (k0 := 18) (nA := 2) (c_X8_put_18 (aL a) Z _ _ _ _ hq3) gX11_swear_X8_put rfl ⟨rfl, rfl⟩ (by decide +kernel) ⟨Nat.le_of_ble_eq_true rfl, Nat.le_of_ble_eq_true rfl⟩ (show 18 < 39 by decide) (gC_18 Z _) rfl rfl rfl (Nat.le_of_ble_eq_true rfl) dX11_swear_15 ?_
  refine rw_aload_n F dX11_swear_18 rfl 0 rfl ?_
  refine rw_get F 0 (show 0 < 39 by decide) (gC_0 Z _) iw_X11_swear_X11 rfl 3 (by decide) lk_X11_swear_35 rfl dX11_swear_19 ?_
  refine rw_iconst F (v := 2) dX11_swear_22 (by decide) ?_
  refine rw_iload_n F dX11_swear_23 rfl 1 rfl ?_
  obtain ⟨q6, hq5, hf⟩ := bind_h hf
  refine rw_callVV F (k0 := 18) (nA := 2) (c_X8_put_18 (aL a) Z _ _ _ _ hq5) gX11_swear_X8_put rfl ⟨rfl, rfl⟩ (by decide +kernel) ⟨Nat.le_of_ble_eq_true rfl, Nat.le_of_ble_eq_true rfl⟩ (show 18 < 39 by decide) (gC_18 Z _) rfl rfl rfl (Nat.le_of_ble_eq_true rfl) dX11_swear_24 ?_
  refine rw_aload_n F dX11_swear_27 rfl 0 rfl ?_
  refine rw_get F 0 (show 0 < 39 by decide) (gC_0 Z _) iw_X11_swear_X11 rfl 3 (by decide) lk_X11_swear_35 rfl dX11_swear_28 ?_
  refine rw_iconst F (v := 3) dX11_swear_31 (by decide) ?_
  refine rw_iload_n F dX11_swear_32 rfl 2 rfl ?_
  obtain ⟨q8, hq7, hf⟩ := bind_h hf
  refine rw_callVV F (k0 := 18) (nA := 2) (c_X8_put_18 (aL a) Z _ _ _ _ hq7) gX11_swear_X8_put rfl ⟨rfl, rfl⟩ (by decide +kernel) ⟨Nat.le_of_ble_eq_true rfl, Nat.le_of_ble_eq_true rfl⟩ (show 18 < 39 by decide) (gC_18 Z _) rfl rfl rfl (Nat.le_of_ble_eq_true rfl) dX11_swear_33 ?_
  refine rw_aload_n F dX11_swear_36 rfl 0 rfl ?_
  refine rw_get F 0 (show 0 < 39 by decide) (gC_0 Z _) iw_X11_swear_X11 rfl 3 (by decide) lk_X11_swear_35 rfl dX11_swear_37 ?_
  refine rw_iconst F (v := 4) dX11_swear_40 (by decide) ?_
  refine rw_aload_n F dX11_swear_41 rfl 0 rfl ?_
  refine rw_get F 0 (show 0 < 39 by decide) (gC_0 Z _) iw_X11_swear_X11 rfl 7 (by decide) lk_X11_swear_57 rfl dX11_swear_42 ?_
  refine rw_iload_n F dX11_swear_45 rfl 1 rfl ?_
  refine rw_iload_n F dX11_swear_46 rfl 2 rfl ?_
  refine rw_iconst F (v := 0) dX11_swear_47 (by decide) ?_
  obtain ⟨q10, hq9, hf⟩ := bind_h hf
  refine rw_callVI F (k0 := 29) (nA := 3) (c_X2_hearers_29 (aL a) Z _ _ _ _ _ hq9) gX11_swear_X2_hearers rfl ⟨rfl, rfl⟩ (by decide +kernel) ⟨Nat.le_of_ble_eq_true rfl, Nat.le_of_ble_eq_true rfl⟩ (show 29 < 39 by decide) (gC_29 Z _) rfl rfl rfl (Nat.le_of_ble_eq_true rfl) dX11_swear_48 ?_
  obtain ⟨q12, hq11, hf⟩ := bind_h hf
  refine rw_callVV F (k0 := 18) (nA := 2) (c_X8_put_18 (aL a) Z _ _ _ _ hq11) gX11_swear_X8_put rfl ⟨rfl, rfl⟩ (by decide +kernel) ⟨Nat.le_of_ble_eq_true rfl, Nat.le_of_ble_eq_true rfl⟩ (show 18 < 39 by decide) (gC_18 Z _) rfl rfl rfl (Nat.le_of_ble_eq_true rfl) dX11_swear_51 ?_
  refine rw_aload_n F dX11_swear_54 rfl 0 rfl ?_
  refine rw_get F 0 (show 0 < 39 by decide) (gC_0 Z _) iw_X11_swear_X11 rfl 3 (by decide) lk_X11_swear_35 rfl dX11_swear_55 ?_
  refine rw_iconst F (v := 5) dX11_swear_58 (by decide) ?_
  refine rw_aload_n F dX11_swear_59 rfl 0 rfl ?_
  refine rw_get F 0 (show 0 < 39 by decide) (gC_0 Z _) iw_X11_swear_X11 rfl 7 (by decide) lk_X11_swear_57 rfl dX11_swear_60 ?_
  refine rw_iload_n F dX11_swear_63 rfl 1 rfl ?_
  refine rw_iload_n F dX11_swear_64 rfl 2 rfl ?_
  refine rw_iconst F (v := 5) dX11_swear_65 (by decide) ?_
  obtain ⟨q14, hq13, hf⟩ := bind_h hf
  refine rw_callVI F (k0 := 29) (nA := 3) (c_X2_hearers_29 (aL a) Z _ _ _ _ _ hq13) gX11_swear_X2_hearers rfl ⟨rfl, rfl⟩ (by decide +kernel) ⟨Nat.le_of_ble_eq_true rfl, Nat.le_of_ble_eq_true rfl⟩ (show 29 < 39 by decide) (gC_29 Z _) rfl rfl rfl (Nat.le_of_ble_eq_true rfl) dX11_swear_66 ?_
  obtain ⟨q16, hq15, hf⟩ := bind_h hf
  refine rw_callVV F (k0 := 18) (nA := 2) (c_X8_put_18 (aL a) Z _ _ _ _ hq15) gX11_swear_X8_put rfl ⟨rfl, rfl⟩ (by decide +kernel) ⟨Nat.le_of_ble_eq_true rfl, Nat.le_of_ble_eq_true rfl⟩ (show 18 < 39 by decide) (gC_18 Z _) rfl rfl rfl (Nat.le_of_ble_eq_true rfl) dX11_swear_69 ?_
  refine rw_iconst F (v := 0) dX11_swear_72 (by decide) ?_
  refine rw_istore_n F dX11_swear_73 rfl (by decide) rfl ?_
  exact WS.sub [1, 2, 3, 0] rfl (b_X11_swear_b74 F  fuB _ _ _ _ hf)

abbrev rm_X11_morning : Room := { frames := 5, cells := 0, slots := 0, locals := 119 }
abbrev FX_X11_morning (a : Ax) (Z : Zx) (A : Nat → Prop) : Prop := FX a (XC Z) A cX11_morning RX11 wsX11_morning 3 (some .int) rm_X11_morning
theorem iw_X11_morning_X11 : ∀ w ∈ wsX110, w ∈ wsX11_morning := by decide +kernel
theorem lk_X11_morning_19 : Cond.fieldLink RX11 19 (TX11 1).1 (TX11 1).2.1 (TX11 1).2.2.1 ∈ wsX11_morning := by decide +kernel
theorem lk_X11_morning_35 : Cond.fieldLink RX11 35 (TX11 3).1 (TX11 3).2.1 (TX11 3).2.2.1 ∈ wsX11_morning := by decide +kernel
theorem lk_X11_morning_42 : Cond.fieldLink RX11 42 (TX11 4).1 (TX11 4).2.1 (TX11 4).2.2.1 ∈ wsX11_morning := by decide +kernel
set_option maxHeartbeats 4000000 in
set_option maxRecDepth 100000 in
theorem b_X11_morning_b22 {a : Ax} {Z : Zx} {A : Nat → Prop} {r : (Int32 × (Nat → Nat → Int32))} (F : FX_X11_morning a Z A) : ∀ (f : Nat → Nat → Int32), f_X11_morning_b22  f = some r → WS a (XC Z) A 3 (RP a (XC Z) A (PI r.1 r.2)) 22 [] [] f := by
  intro  f hf
  unfold f_X11_morning_b22 at hf
  refine rw_ldc F (v := -1000000001) dX11_morning_22 (by decide +kernel) ?_
  exact rw_iretS F hf rfl dX11_morning_24

set_option maxHeartbeats 4000000 in
set_option maxRecDepth 100000 in
theorem c_X11_morning (l : Launch) (Z : Zx) (p1 : Int32) (p2 : Int32) (f : Nat → Nat → Int32) (r : (Int32 × (Nat → Nat → Int32))) (hf : f_X11_morning p1 p2 f = some r) : MS l (XC Z) yX11_morning wsX11_morning rm_X11_morning [.ref (Z.2.1 0), .int p1, .int p2] f (PI r.1 r.2) := by
  refine MS.of (cc := cX11_morning) (maxL := 3) (ret := (some .int)) (own := RX11) (lv := [(0, .ref (Z.2.1 0)), (1, .int p1), (2, .int p2)]) (by decide) rfl rfl (Nat.le_of_ble_eq_true rfl) rfl ?_
  intro a A hla F
  subst hla
  unfold f_X11_morning at hf
  refine rw_aload_n F dX11_morning_0 rfl 0 rfl ?_
  refine rw_get F 0 (show 0 < 39 by decide) (gC_0 Z _) iw_X11_morning_X11 rfl 1 (by decide) lk_X11_morning_19 rfl dX11_morning_1 ?_
  refine rw_iload_n F dX11_morning_4 rfl 1 rfl ?_
  obtain ⟨q2, hq1, hf⟩ := bind_h hf
  refine rw_callVI F (k0 := 3) (nA := 1) (c_X5_isSound_3 (aL a) Z _ _ _ hq1) gX11_morning_X5_isSound rfl ⟨rfl, rfl⟩ (by decide +kernel) ⟨Nat.le_of_ble_eq_true rfl, Nat.le_of_ble_eq_true rfl⟩ (show 3 < 39 by decide) (gC_3 Z _) rfl rfl rfl (Nat.le_of_ble_eq_true rfl) dX11_morning_5 ?_
  refine rw_if_eq F (tgt := 22) hf dX11_morning_8 (by decide) (fun hc15 hf => ?_) (fun hc15 hf => ?_)
  · exact WS.sub [] rfl (b_X11_morning_b22 F  _ hf)
  · refine rw_aload_n F dX11_morning_11 rfl 0 rfl ?_
    refine rw_get F 0 (show 0 < 39 by decide) (gC_0 Z _) iw_X11_morning_X11 rfl 1 (by decide) lk_X11_morning_19 rfl dX11_morning_12 ?_
    refine rw_iload_n F dX11_morning_15 rfl 2 rfl ?_
    obtain ⟨q4, hq3, hf⟩ := bind_h hf
    refine rw_callVI F (k0 := 3) (nA := 1) (c_X5_isPlace_3 (aL a) Z _ _ _ hq3) gX11_morning_X5_isPlace rfl ⟨rfl, rfl⟩ (by decide +kernel) ⟨Nat.le_of_ble_eq_true rfl, Nat.le_of_ble_eq_true rfl⟩ (show 3 < 39 by decide) (gC_3 Z _) rfl rfl rfl (Nat.le_of_ble_eq_true rfl) dX11_morning_16 ?_
    refine rw_if_ne F (tgt := 25) hf dX11_morning_19 (by decide) (fun hc14 hf => ?_) (fun hc14 hf => ?_)
    · refine rw_aload_n F dX11_morning_25 rfl 0 rfl ?_
      obtain ⟨q6, hq5, hf⟩ := bind_h hf
      refine rw_callVI F (k0 := 0) (nA := 0) (c_X11_isFullOfMornings (aL a) Z  _ _ hq5) gX11_morning_X11_isFullOfMornings rfl ⟨rfl, rfl⟩ (by decide +kernel) ⟨Nat.le_of_ble_eq_true rfl, Nat.le_of_ble_eq_true rfl⟩ (show 0 < 39 by decide) (gC_0 Z _) rfl rfl rfl (Nat.le_of_ble_eq_true rfl) dX11_morning_26 ?_
      refine rw_if_eq F (tgt := 35) hf dX11_morning_29 (by decide) (fun hc13 hf => ?_) (fun hc13 hf => ?_)
      · refine rw_aload_n F dX11_morning_35 rfl 0 rfl ?_
        refine rw_get F 0 (show 0 < 39 by decide) (gC_0 Z _) iw_X11_morning_X11 rfl 4 (by decide) lk_X11_morning_42 rfl dX11_morning_36 ?_
        refine rw_aload_n F dX11_morning_39 rfl 0 rfl ?_
        refine rw_get F 0 (show 0 < 39 by decide) (gC_0 Z _) iw_X11_morning_X11 rfl 3 (by decide) lk_X11_morning_35 rfl dX11_morning_40 ?_
        obtain ⟨q8, hq7, hf⟩ := bind_h hf
        refine rw_callVV F (k0 := 20) (nA := 1) (c_X4_push_20_18 (aL a) Z  _ _ hq7) gX11_morning_X4_push rfl ⟨rfl, rfl⟩ (by decide +kernel) ⟨Nat.le_of_ble_eq_true rfl, Nat.le_of_ble_eq_true rfl⟩ (show 20 < 39 by decide) (gC_20 Z _) rfl rfl rfl (Nat.le_of_ble_eq_true rfl) dX11_morning_43 ?_
        refine rw_aload_n F dX11_morning_46 rfl 0 rfl ?_
        refine rw_iload_n F dX11_morning_47 rfl 1 rfl ?_
        refine rw_iload_n F dX11_morning_48 rfl 2 rfl ?_
        obtain ⟨q10, hq9, hf⟩ := bind_h hf
        refine rw_callVV F (k0 := 0) (nA := 2) (c_X11_swear (aL a) Z _ _ _ _ hq9) gX11_morning_X11_swear rfl ⟨rfl, rfl⟩ (by decide +kernel) ⟨Nat.le_of_ble_eq_true rfl, Nat.le_of_ble_eq_true rfl⟩ (show 0 < 39 by decide) (gC_0 Z _) rfl rfl rfl (Nat.le_of_ble_eq_true rfl) dX11_morning_49 ?_
        refine rw_aload_n F dX11_morning_52 rfl 0 rfl ?_
        refine rw_get F 0 (show 0 < 39 by decide) (gC_0 Z _) iw_X11_morning_X11 rfl 3 (by decide) lk_X11_morning_35 rfl dX11_morning_53 ?_
        refine rw_iconst F (v := 4) dX11_morning_56 (by decide) ?_
        obtain ⟨q12, hq11, hf⟩ := bind_h hf
        refine rw_callVI F (k0 := 18) (nA := 1) (c_X8_get_18 (aL a) Z _ _ _ hq11) gX11_morning_X8_get rfl ⟨rfl, rfl⟩ (by decide +kernel) ⟨Nat.le_of_ble_eq_true rfl, Nat.le_of_ble_eq_true rfl⟩ (show 18 < 39 by decide) (gC_18 Z _) rfl rfl rfl (Nat.le_of_ble_eq_true rfl) dX11_morning_57 ?_
        exact rw_iretS F hf rfl dX11_morning_60
      · refine rw_ldc F (v := -1000000004) dX11_morning_32 (by decide +kernel) ?_
        exact rw_iretS F hf rfl dX11_morning_34
    · exact WS.sub [] rfl (b_X11_morning_b22 F  _ hf)

abbrev rm_X11_change : Room := { frames := 3, cells := 0, slots := 0, locals := 68 }
abbrev FX_X11_change (a : Ax) (Z : Zx) (A : Nat → Prop) : Prop := FX a (XC Z) A cX11_change RX11 wsX11_change 4 (some .int) rm_X11_change
theorem iw_X11_change_X11 : ∀ w ∈ wsX110, w ∈ wsX11_change := by decide +kernel
theorem lk_X11_change_35 : Cond.fieldLink RX11 35 (TX11 3).1 (TX11 3).2.1 (TX11 3).2.2.1 ∈ wsX11_change := by decide +kernel
theorem lk_X11_change_42 : Cond.fieldLink RX11 42 (TX11 4).1 (TX11 4).2.1 (TX11 4).2.2.1 ∈ wsX11_change := by decide +kernel
set_option maxHeartbeats 4000000 in
set_option maxRecDepth 100000 in
theorem c_X11_change (l : Launch) (Z : Zx) (p1 : Int32) (p2 : Int32) (f : Nat → Nat → Int32) (r : (Int32 × (Nat → Nat → Int32))) (hf : f_X11_change p1 p2 f = some r) : MS l (XC Z) yX11_change wsX11_change rm_X11_change [.ref (Z.2.1 0), .int p1, .int p2] f (PI r.1 r.2) := by
  refine MS.of (cc := cX11_change) (maxL := 4) (ret := (some .int)) (own := RX11) (lv := [(0, .ref (Z.2.1 0)), (1, .int p1), (2, .int p2)]) (by decide) rfl rfl (Nat.le_of_ble_eq_true rfl) rfl ?_
  intro a A hla F
  subst hla
  unfold f_X11_change at hf
  refine rw_aload_n F dX11_change_0 rfl 0 rfl ?_
  refine rw_get F 0 (show 0 < 39 by decide) (gC_0 Z _) iw_X11_change_X11 rfl 3 (by decide) lk_X11_change_35 rfl dX11_change_1 ?_
  refine rw_iload_n F dX11_change_4 rfl 1 rfl ?_
  obtain ⟨q2, hq1, hf⟩ := bind_h hf
  refine rw_callVI F (k0 := 18) (nA := 1) (c_X8_get_18 (aL a) Z _ _ _ hq1) gX11_change_X8_get rfl ⟨rfl, rfl⟩ (by decide +kernel) ⟨Nat.le_of_ble_eq_true rfl, Nat.le_of_ble_eq_true rfl⟩ (show 18 < 39 by decide) (gC_18 Z _) rfl rfl rfl (Nat.le_of_ble_eq_true rfl) dX11_change_5 ?_
  refine rw_istore_n F dX11_change_8 rfl (by decide) rfl ?_
  refine rw_aload_n F dX11_change_9 rfl 1 rfl ?_
  refine rw_get F 0 (show 0 < 39 by decide) (gC_0 Z _) iw_X11_change_X11 rfl 4 (by decide) lk_X11_change_42 rfl dX11_change_10 ?_
  refine rw_aload_n F dX11_change_13 rfl 1 rfl ?_
  refine rw_get F 0 (show 0 < 39 by decide) (gC_0 Z _) iw_X11_change_X11 rfl 3 (by decide) lk_X11_change_35 rfl dX11_change_14 ?_
  obtain ⟨q4, hq3, hf⟩ := bind_h hf
  refine rw_callVV F (k0 := 20) (nA := 1) (c_X4_push_20_18 (aL a) Z  _ _ hq3) gX11_change_X4_push rfl ⟨rfl, rfl⟩ (by decide +kernel) ⟨Nat.le_of_ble_eq_true rfl, Nat.le_of_ble_eq_true rfl⟩ (show 20 < 39 by decide) (gC_20 Z _) rfl rfl rfl (Nat.le_of_ble_eq_true rfl) dX11_change_17 ?_
  refine rw_aload_n F dX11_change_20 rfl 1 rfl ?_
  refine rw_get F 0 (show 0 < 39 by decide) (gC_0 Z _) iw_X11_change_X11 rfl 3 (by decide) lk_X11_change_35 rfl dX11_change_21 ?_
  refine rw_iload_n F dX11_change_24 rfl 2 rfl ?_
  refine rw_iload_n F dX11_change_25 rfl 3 rfl ?_
  obtain ⟨q6, hq5, hf⟩ := bind_h hf
  refine rw_callVV F (k0 := 18) (nA := 2) (c_X8_put_18 (aL a) Z _ _ _ _ hq5) gX11_change_X8_put rfl ⟨rfl, rfl⟩ (by decide +kernel) ⟨Nat.le_of_ble_eq_true rfl, Nat.le_of_ble_eq_true rfl⟩ (show 18 < 39 by decide) (gC_18 Z _) rfl rfl rfl (Nat.le_of_ble_eq_true rfl) dX11_change_26 ?_
  refine rw_iload_n F dX11_change_29 rfl 0 rfl ?_
  exact rw_iretS F hf rfl dX11_change_30

abbrev rm_X11_move : Room := { frames := 4, cells := 0, slots := 0, locals := 91 }
abbrev FX_X11_move (a : Ax) (Z : Zx) (A : Nat → Prop) : Prop := FX a (XC Z) A cX11_move RX11 wsX11_move 3 (some .int) rm_X11_move
theorem iw_X11_move_X11 : ∀ w ∈ wsX110, w ∈ wsX11_move := by decide +kernel
theorem lk_X11_move_19 : Cond.fieldLink RX11 19 (TX11 1).1 (TX11 1).2.1 (TX11 1).2.2.1 ∈ wsX11_move := by decide +kernel
set_option maxHeartbeats 4000000 in
set_option maxRecDepth 100000 in
theorem b_X11_move_b22 {a : Ax} {Z : Zx} {A : Nat → Prop} {r : (Int32 × (Nat → Nat → Int32))} (F : FX_X11_move a Z A) : ∀ (f : Nat → Nat → Int32), f_X11_move_b22  f = some r → WS a (XC Z) A 3 (RP a (XC Z) A (PI r.1 r.2)) 22 [] [] f := by
  intro  f hf
  unfold f_X11_move_b22 at hf
  refine rw_ldc F (v := -1000000001) dX11_move_22 (by decide +kernel) ?_
  exact rw_iretS F hf rfl dX11_move_24

set_option maxHeartbeats 4000000 in
set_option maxRecDepth 100000 in
theorem c_X11_move (l : Launch) (Z : Zx) (p1 : Int32) (p2 : Int32) (f : Nat → Nat → Int32) (r : (Int32 × (Nat → Nat → Int32))) (hf : f_X11_move p1 p2 f = some r) : MS l (XC Z) yX11_move wsX11_move rm_X11_move [.ref (Z.2.1 0), .int p1, .int p2] f (PI r.1 r.2) := by
  refine MS.of (cc := cX11_move) (maxL := 3) (ret := (some .int)) (own := RX11) (lv := [(0, .ref (Z.2.1 0)), (1, .int p1), (2, .int p2)]) (by decide) rfl rfl (Nat.le_of_ble_eq_true rfl) rfl ?_
  intro a A hla F
  subst hla
  unfold f_X11_move at hf
  refine rw_aload_n F dX11_move_0 rfl 0 rfl ?_
  refine rw_get F 0 (show 0 < 39 by decide) (gC_0 Z _) iw_X11_move_X11 rfl 1 (by decide) lk_X11_move_19 rfl dX11_move_1 ?_
  refine rw_iload_n F dX11_move_4 rfl 1 rfl ?_
  obtain ⟨q2, hq1, hf⟩ := bind_h hf
  refine rw_callVI F (k0 := 3) (nA := 1) (c_X5_isWitness_3 (aL a) Z _ _ _ hq1) gX11_move_X5_isWitness rfl ⟨rfl, rfl⟩ (by decide +kernel) ⟨Nat.le_of_ble_eq_true rfl, Nat.le_of_ble_eq_true rfl⟩ (show 3 < 39 by decide) (gC_3 Z _) rfl rfl rfl (Nat.le_of_ble_eq_true rfl) dX11_move_5 ?_
  refine rw_if_eq F (tgt := 22) hf dX11_move_8 (by decide) (fun hc8 hf => ?_) (fun hc8 hf => ?_)
  · exact WS.sub [] rfl (b_X11_move_b22 F  _ hf)
  · refine rw_aload_n F dX11_move_11 rfl 0 rfl ?_
    refine rw_get F 0 (show 0 < 39 by decide) (gC_0 Z _) iw_X11_move_X11 rfl 1 (by decide) lk_X11_move_19 rfl dX11_move_12 ?_
    refine rw_iload_n F dX11_move_15 rfl 2 rfl ?_
    obtain ⟨q4, hq3, hf⟩ := bind_h hf
    refine rw_callVI F (k0 := 3) (nA := 1) (c_X5_isPlace_3 (aL a) Z _ _ _ hq3) gX11_move_X5_isPlace rfl ⟨rfl, rfl⟩ (by decide +kernel) ⟨Nat.le_of_ble_eq_true rfl, Nat.le_of_ble_eq_true rfl⟩ (show 3 < 39 by decide) (gC_3 Z _) rfl rfl rfl (Nat.le_of_ble_eq_true rfl) dX11_move_16 ?_
    refine rw_if_ne F (tgt := 25) hf dX11_move_19 (by decide) (fun hc7 hf => ?_) (fun hc7 hf => ?_)
    · refine rw_aload_n F dX11_move_25 rfl 0 rfl ?_
      refine rw_bipush F (v := 14) dX11_move_26 (by decide) ?_
      refine rw_iload_n F dX11_move_28 rfl 1 rfl ?_
      refine rw_iadd F dX11_move_29 ?_
      refine rw_iload_n F dX11_move_30 rfl 2 rfl ?_
      obtain ⟨q6, hq5, hf⟩ := bind_h hf
      refine rw_callVI F (k0 := 0) (nA := 2) (c_X11_change (aL a) Z _ _ _ _ hq5) gX11_move_X11_change rfl ⟨rfl, rfl⟩ (by decide +kernel) ⟨Nat.le_of_ble_eq_true rfl, Nat.le_of_ble_eq_true rfl⟩ (show 0 < 39 by decide) (gC_0 Z _) rfl rfl rfl (Nat.le_of_ble_eq_true rfl) dX11_move_31 ?_
      exact rw_iretS F hf rfl dX11_move_34
    · exact WS.sub [] rfl (b_X11_move_b22 F  _ hf)

abbrev rm_X11_wall : Room := { frames := 4, cells := 0, slots := 0, locals := 91 }
abbrev FX_X11_wall (a : Ax) (Z : Zx) (A : Nat → Prop) : Prop := FX a (XC Z) A cX11_wall RX11 wsX11_wall 3 (some .int) rm_X11_wall
theorem iw_X11_wall_X11 : ∀ w ∈ wsX110, w ∈ wsX11_wall := by decide +kernel
theorem lk_X11_wall_19 : Cond.fieldLink RX11 19 (TX11 1).1 (TX11 1).2.1 (TX11 1).2.2.1 ∈ wsX11_wall := by decide +kernel
set_option maxHeartbeats 4000000 in
set_option maxRecDepth 100000 in
theorem c_X11_wall (l : Launch) (Z : Zx) (p1 : Int32) (p2 : Int32) (f : Nat → Nat → Int32) (r : (Int32 × (Nat → Nat → Int32))) (hf : f_X11_wall p1 p2 f = some r) : MS l (XC Z) yX11_wall wsX11_wall rm_X11_wall [.ref (Z.2.1 0), .int p1, .int p2] f (PI r.1 r.2) := by
  refine MS.of (cc := cX11_wall) (maxL := 3) (ret := (some .int)) (own := RX11) (lv := [(0, .ref (Z.2.1 0)), (1, .int p1), (2, .int p2)]) (by decide) rfl rfl (Nat.le_of_ble_eq_true rfl) rfl ?_
  intro a A hla F
  subst hla
  unfold f_X11_wall at hf
  refine rw_aload_n F dX11_wall_0 rfl 0 rfl ?_
  refine rw_get F 0 (show 0 < 39 by decide) (gC_0 Z _) iw_X11_wall_X11 rfl 1 (by decide) lk_X11_wall_19 rfl dX11_wall_1 ?_
  refine rw_iload_n F dX11_wall_4 rfl 1 rfl ?_
  obtain ⟨q2, hq1, hf⟩ := bind_h hf
  refine rw_callVI F (k0 := 3) (nA := 1) (c_X5_isWall_3 (aL a) Z _ _ _ hq1) gX11_wall_X5_isWall rfl ⟨rfl, rfl⟩ (by decide +kernel) ⟨Nat.le_of_ble_eq_true rfl, Nat.le_of_ble_eq_true rfl⟩ (show 3 < 39 by decide) (gC_3 Z _) rfl rfl rfl (Nat.le_of_ble_eq_true rfl) dX11_wall_5 ?_
  refine rw_if_ne F (tgt := 14) hf dX11_wall_8 (by decide) (fun hc8 hf => ?_) (fun hc8 hf => ?_)
  · refine rw_iload_n F dX11_wall_14 rfl 2 rfl ?_
    refine rw_bipush F (v := 20) dX11_wall_15 (by decide) ?_
    obtain ⟨q4, hq3, hf⟩ := bind_h hf
    refine rw_callSI F (nA := 2) (c_X11_isOutside (aL a) Z _ _ _ _ hq3) gX11_wall_X11_isOutside rfl ⟨rfl, rfl⟩ (by decide +kernel) ⟨Nat.le_of_ble_eq_true rfl, Nat.le_of_ble_eq_true rfl⟩ rfl rfl (Nat.le_of_ble_eq_true rfl) dX11_wall_17 ?_
    refine rw_if_eq F (tgt := 26) hf dX11_wall_20 (by decide) (fun hc7 hf => ?_) (fun hc7 hf => ?_)
    · refine rw_aload_n F dX11_wall_26 rfl 0 rfl ?_
      refine rw_bipush F (v := 6) dX11_wall_27 (by decide) ?_
      refine rw_iload_n F dX11_wall_29 rfl 1 rfl ?_
      refine rw_iadd F dX11_wall_30 ?_
      refine rw_iload_n F dX11_wall_31 rfl 2 rfl ?_
      obtain ⟨q6, hq5, hf⟩ := bind_h hf
      refine rw_callVI F (k0 := 0) (nA := 2) (c_X11_change (aL a) Z _ _ _ _ hq5) gX11_wall_X11_change rfl ⟨rfl, rfl⟩ (by decide +kernel) ⟨Nat.le_of_ble_eq_true rfl, Nat.le_of_ble_eq_true rfl⟩ (show 0 < 39 by decide) (gC_0 Z _) rfl rfl rfl (Nat.le_of_ble_eq_true rfl) dX11_wall_32 ?_
      exact rw_iretS F hf rfl dX11_wall_35
    · refine rw_ldc F (v := -1000000002) dX11_wall_23 (by decide +kernel) ?_
      exact rw_iretS F hf rfl dX11_wall_25
  · refine rw_ldc F (v := -1000000001) dX11_wall_11 (by decide +kernel) ?_
    exact rw_iretS F hf rfl dX11_wall_13

abbrev rm_X5_stands_3 : Room := { frames := 0, cells := 0, slots := 0, locals := 0 }
abbrev FX_X5_stands_3 (a : Ax) (Z : Zx) (A : Nat → Prop) : Prop := FX a (XC Z) A cX5_stands RX5 wsX5_stands 1 (some .boolean) rm_X5_stands_3
set_option maxHeartbeats 4000000 in
set_option maxRecDepth 100000 in
theorem c_X5_stands_3 (l : Launch) (Z : Zx) (f : Nat → Nat → Int32) (r : Int32) (hf : f_X5_stands_3 f = some r) : MS l (XC Z) yX5_stands wsX5_stands rm_X5_stands_3 [.ref (Z.2.1 3)] f (PI r f) := by
  refine MS.of (cc := cX5_stands) (maxL := 1) (ret := (some .boolean)) (own := RX5) (lv := [(0, .ref (Z.2.1 3))]) (by decide) rfl rfl (Nat.le_of_ble_eq_true rfl) rfl ?_
  intro a A hla F
  subst hla
  unfold f_X5_stands_3 at hf
  refine rw_aload_n F dX5_stands_0 rfl 0 rfl ?_
  refine rw_get F 3 (show 3 < 39 by decide) (gC_3 Z _) iw_X5_stands_X5 rfl 0 (by decide) lk_X5_stands_30 rfl dX5_stands_1 ?_
  refine rw_if_le F (tgt := 11) hf dX5_stands_4 (by decide) (fun hc1 hf => ?_) (fun hc1 hf => ?_)
  · refine rw_iconst F (v := 0) dX5_stands_11 (by decide) ?_
    exact rw_zretZ F (by decide) hf rfl dX5_stands_12
  · refine rw_iconst F (v := 1) dX5_stands_7 (by decide) ?_
    refine rw_goto F (tgt := 12) dX5_stands_8 (by decide) ?_
    exact rw_zretZ F (by decide) hf rfl dX5_stands_12

abbrev rm_X11_wind : Room := { frames := 4, cells := 0, slots := 0, locals := 91 }
abbrev FX_X11_wind (a : Ax) (Z : Zx) (A : Nat → Prop) : Prop := FX a (XC Z) A cX11_wind RX11 wsX11_wind 2 (some .int) rm_X11_wind
theorem iw_X11_wind_X11 : ∀ w ∈ wsX110, w ∈ wsX11_wind := by decide +kernel
theorem lk_X11_wind_19 : Cond.fieldLink RX11 19 (TX11 1).1 (TX11 1).2.1 (TX11 1).2.2.1 ∈ wsX11_wind := by decide +kernel
set_option maxHeartbeats 4000000 in
set_option maxRecDepth 100000 in
theorem c_X11_wind (l : Launch) (Z : Zx) (p1 : Int32) (f : Nat → Nat → Int32) (r : (Int32 × (Nat → Nat → Int32))) (hf : f_X11_wind p1 f = some r) : MS l (XC Z) yX11_wind wsX11_wind rm_X11_wind [.ref (Z.2.1 0), .int p1] f (PI r.1 r.2) := by
  refine MS.of (cc := cX11_wind) (maxL := 2) (ret := (some .int)) (own := RX11) (lv := [(0, .ref (Z.2.1 0)), (1, .int p1)]) (by decide) rfl rfl (Nat.le_of_ble_eq_true rfl) rfl ?_
  intro a A hla F
  subst hla
  unfold f_X11_wind at hf
  refine rw_iload_n F dX11_wind_0 rfl 1 rfl ?_
  refine rw_bipush F (v := 18) dX11_wind_1 (by decide) ?_
  obtain ⟨q2, hq1, hf⟩ := bind_h hf
  refine rw_callSI F (nA := 2) (c_X11_isOutside (aL a) Z _ _ _ _ hq1) gX11_wind_X11_isOutside rfl ⟨rfl, rfl⟩ (by decide +kernel) ⟨Nat.le_of_ble_eq_true rfl, Nat.le_of_ble_eq_true rfl⟩ rfl rfl (Nat.le_of_ble_eq_true rfl) dX11_wind_3 ?_
  refine rw_if_eq F (tgt := 12) hf dX11_wind_6 (by decide) (fun hc8 hf => ?_) (fun hc8 hf => ?_)
  · refine rw_aload_n F dX11_wind_12 rfl 0 rfl ?_
    refine rw_get F 0 (show 0 < 39 by decide) (gC_0 Z _) iw_X11_wind_X11 rfl 1 (by decide) lk_X11_wind_19 rfl dX11_wind_13 ?_
    obtain ⟨q4, hq3, hf⟩ := bind_h hf
    refine rw_callVI F (k0 := 3) (nA := 0) (c_X5_stands_3 (aL a) Z  _ _ hq3) gX11_wind_X5_stands rfl ⟨rfl, rfl⟩ (by decide +kernel) ⟨Nat.le_of_ble_eq_true rfl, Nat.le_of_ble_eq_true rfl⟩ (show 3 < 39 by decide) (gC_3 Z _) rfl rfl rfl (Nat.le_of_ble_eq_true rfl) dX11_wind_16 ?_
    refine rw_if_ne F (tgt := 25) hf dX11_wind_19 (by decide) (fun hc7 hf => ?_) (fun hc7 hf => ?_)
    · refine rw_aload_n F dX11_wind_25 rfl 0 rfl ?_
      refine rw_iconst F (v := 0) dX11_wind_26 (by decide) ?_
      refine rw_iload_n F dX11_wind_27 rfl 1 rfl ?_
      refine rw_bipush F (v := 9) dX11_wind_28 (by decide) ?_
      refine rw_isub F dX11_wind_30 ?_
      obtain ⟨q6, hq5, hf⟩ := bind_h hf
      refine rw_callVI F (k0 := 0) (nA := 2) (c_X11_change (aL a) Z _ _ _ _ hq5) gX11_wind_X11_change rfl ⟨rfl, rfl⟩ (by decide +kernel) ⟨Nat.le_of_ble_eq_true rfl, Nat.le_of_ble_eq_true rfl⟩ (show 0 < 39 by decide) (gC_0 Z _) rfl rfl rfl (Nat.le_of_ble_eq_true rfl) dX11_wind_31 ?_
      refine rw_bipush F (v := 9) dX11_wind_34 (by decide) ?_
      refine rw_iadd F dX11_wind_36 ?_
      exact rw_iretS F hf rfl dX11_wind_37
    · refine rw_ldc F (v := -1000000003) dX11_wind_22 (by decide +kernel) ?_
      exact rw_iretS F hf rfl dX11_wind_24
  · refine rw_ldc F (v := -1000000002) dX11_wind_9 (by decide +kernel) ?_
    exact rw_iretS F hf rfl dX11_wind_11

abbrev rm_X11_draw : Room := { frames := 0, cells := 0, slots := 0, locals := 0 }
abbrev FX_X11_draw (a : Ax) (Z : Zx) (A : Nat → Prop) : Prop := FX a (XC Z) A cX11_draw RX11 wsX11_draw 2 (some .int) rm_X11_draw
theorem iw_X11_draw_X11 : ∀ w ∈ wsX110, w ∈ wsX11_draw := by decide +kernel
theorem lk_X11_draw_275 : Cond.fieldLink RX11 275 (TX11 5).1 (TX11 5).2.1 (TX11 5).2.2.1 ∈ wsX11_draw := by decide +kernel
set_option maxHeartbeats 4000000 in
set_option maxRecDepth 100000 in
theorem c_X11_draw (l : Launch) (Z : Zx) (p1 : Int32) (f : Nat → Nat → Int32) (r : (Int32 × (Nat → Nat → Int32))) (hf : f_X11_draw p1 f = some r) : MS l (XC Z) yX11_draw wsX11_draw rm_X11_draw [.ref (Z.2.1 0), .int p1] f (PI r.1 r.2) := by
  refine MS.of (cc := cX11_draw) (maxL := 2) (ret := (some .int)) (own := RX11) (lv := [(0, .ref (Z.2.1 0)), (1, .int p1)]) (by decide) rfl rfl (Nat.le_of_ble_eq_true rfl) rfl ?_
  intro a A hla F
  subst hla
  unfold f_X11_draw at hf
  refine rw_iload_n F dX11_draw_0 rfl 1 rfl ?_
  refine rw_if_gt F (tgt := 6) hf dX11_draw_1 (by decide) (fun hc2 hf => ?_) (fun hc2 hf => ?_)
  · refine rw_aload_n F dX11_draw_6 rfl 0 rfl ?_
    refine rw_aload_n F dX11_draw_7 rfl 0 rfl ?_
    refine rw_get F 0 (show 0 < 39 by decide) (gC_0 Z _) iw_X11_draw_X11 rfl 5 (by decide) lk_X11_draw_275 rfl dX11_draw_8 ?_
    refine rw_i2l F dX11_draw_11 ?_
    refine rw_ldc2 F (v := 1103515245) dX11_draw_12 (by decide +kernel) ?_
    refine rw_lmul F dX11_draw_15 ?_
    refine rw_ldc2 F (v := 12345) dX11_draw_16 (by decide +kernel) ?_
    refine rw_ladd F dX11_draw_19 ?_
    refine rw_ldc2 F (v := 2147483648) dX11_draw_20 (by decide +kernel) ?_
    refine rw_lrem F dX11_draw_23 (by decide) ?_
    refine rw_l2i F dX11_draw_24 ?_
    refine rw_put F 0 (show 0 < 39 by decide) (gC_0 Z) iw_X11_draw_X11 tyX11 tyX11_ok nmX11 rfl 5 (by decide) lk_X11_draw_275 rfl rfl rfl (fun _ => by rw [lnC0]; decide) (stC0_5 Z.2.1) dX11_draw_25 ?_
    refine rw_aload_n F dX11_draw_28 rfl 0 rfl ?_
    refine rw_get F 0 (show 0 < 39 by decide) (gC_0 Z _) iw_X11_draw_X11 rfl 5 (by decide) lk_X11_draw_275 rfl dX11_draw_29 ?_
    refine rw_ldcw F (v := 65536) dX11_draw_32 (by decide +kernel) ?_
    refine rw_idiv F dX11_draw_35 (by decide) ?_
    refine rw_iload_n F dX11_draw_36 rfl 1 rfl ?_
    obtain ⟨hz1, hf⟩ := dz_h hf
    refine rw_irem F dX11_draw_37 hz1 ?_
    exact rw_iretS F hf rfl dX11_draw_38
  · refine rw_iconst F (v := 0) dX11_draw_4 (by decide) ?_
    exact rw_iretS F hf rfl dX11_draw_5

