abbrev rm_X12_takeClause : Room := { frames := 4, cells := 0, slots := 0, locals := 95 }
abbrev FX_X12_takeClause (a : Ax) (Z : Zx) (A : Nat → Prop) : Prop := FX a (XM Z) A cX12_takeClause RX12 wsX12_takeClause 5 (some .int) rm_X12_takeClause
theorem iw_X12_takeClause_X12 : ∀ w ∈ wsX120, w ∈ wsX12_takeClause := by decide +kernel
theorem lk_X12_takeClause_99 : Cond.fieldLink RX12 99 (TX12 12).1 (TX12 12).2.1 (TX12 12).2.2.1 ∈ wsX12_takeClause := by decide +kernel
theorem lk_X12_takeClause_126 : Cond.fieldLink RX12 126 (TX12 15).1 (TX12 15).2.1 (TX12 15).2.2.1 ∈ wsX12_takeClause := by decide +kernel
theorem lk_X12_takeClause_129 : Cond.fieldLink RX12 129 (TX12 17).1 (TX12 17).2.1 (TX12 17).2.2.1 ∈ wsX12_takeClause := by decide +kernel
theorem lk_X12_takeClause_132 : Cond.fieldLink RX12 132 (TX12 18).1 (TX12 18).2.1 (TX12 18).2.2.1 ∈ wsX12_takeClause := by decide +kernel
theorem lk_X12_takeClause_135 : Cond.fieldLink RX12 135 (TX12 21).1 (TX12 21).2.1 (TX12 21).2.2.1 ∈ wsX12_takeClause := by decide +kernel
set_option maxHeartbeats 4000000 in
set_option maxRecDepth 100000 in
theorem b_X12_takeClause_b62 {a : Ax} {Z : Zx} {A : Nat → Prop} {r : (Int32 × (Nat → Nat → Int32))} (F : FX_X12_takeClause a Z A) : ∀ (f : Nat → Nat → Int32), f_X12_takeClause_b62  f = some r → WS a (XM Z) A 5 (RP a (XM Z) A (PI r.1 r.2)) 62 [(0, .ref (Z.2.1 0))] [] f := by
  intro  f hf
  unfold f_X12_takeClause_b62 at hf
  refine rw_aload_n F dX12_takeClause_62 rfl 0 rfl ?_
  refine rw_iconst F (v := 1) dX12_takeClause_63 (by decide) ?_
  refine rw_aload_n F dX12_takeClause_64 rfl 0 rfl ?_
  refine rw_get F 0 (show 0 < 20 by decide) (gM_0 Z _) iw_X12_takeClause_X12 rfl 12 (by decide) lk_X12_takeClause_99 rfl dX12_takeClause_65 ?_
  obtain ⟨q4, hq3, hf⟩ := bind_h hf
  refine rw_callVI F (k0 := 0) (nA := 2) (c_X12_fails (aL a) Z _ _ _ _ hq3) gX12_takeClause_X12_fails rfl ⟨rfl, rfl⟩ (by decide +kernel) ⟨Nat.le_of_ble_eq_true rfl, Nat.le_of_ble_eq_true rfl⟩ (show 0 < 20 by decide) (gM_0 Z _) rfl rfl rfl (Nat.le_of_ble_eq_true rfl) dX12_takeClause_68 ?_
  exact rw_iretS F hf rfl dX12_takeClause_71

set_option maxHeartbeats 4000000 in
set_option maxRecDepth 100000 in
theorem b_X12_takeClause_b237 {a : Ax} {Z : Zx} {A : Nat → Prop} {r : (Int32 × (Nat → Nat → Int32))} (F : FX_X12_takeClause a Z A) : ∀ (i4 : Int32) (f : Nat → Nat → Int32), f_X12_takeClause_b237 i4 f = some r → WS a (XM Z) A 5 (RP a (XM Z) A (PI r.1 r.2)) 237 [(0, .ref (Z.2.1 0)), (4, .int i4)] [] f := by
  intro i4 f hf
  unfold f_X12_takeClause_b237 at hf
  refine rw_aload_n F dX12_takeClause_237 rfl 0 rfl ?_
  refine rw_dup F dX12_takeClause_238 rfl ?_
  refine rw_get F 0 (show 0 < 20 by decide) (gM_0 Z _) iw_X12_takeClause_X12 rfl 12 (by decide) lk_X12_takeClause_99 rfl dX12_takeClause_239 ?_
  refine rw_iconst F (v := 1) dX12_takeClause_242 (by decide) ?_
  refine rw_iadd F dX12_takeClause_243 ?_
  refine rw_put F 0 (show 0 < 20 by decide) (gM_0 Z) iw_X12_takeClause_X12 tyX12 tyX12_ok nmX12 rfl 12 (by decide) lk_X12_takeClause_99 rfl rfl rfl (fun _ => by rw [lnM0]; decide) (stM0_12 Z.2.1) dX12_takeClause_244 ?_
  refine rw_iload F dX12_takeClause_247 1 rfl ?_
  exact rw_iretS F hf rfl dX12_takeClause_249

set_option maxHeartbeats 4000000 in
set_option maxRecDepth 100000 in
theorem b_X12_takeClause_b211 {a : Ax} {Z : Zx} {A : Nat → Prop} {r : (Int32 × (Nat → Nat → Int32))} (F : FX_X12_takeClause a Z A) : ∀ (s0 : Int32) (f : Nat → Nat → Int32), f_X12_takeClause_b211 s0 f = some r → WS a (XM Z) A 5 (RP a (XM Z) A (PI r.1 r.2)) 211 [(0, .ref (Z.2.1 0))] [.int s0] f := by
  intro s0 f hf
  unfold f_X12_takeClause_b211 at hf
  refine rw_istore F dX12_takeClause_211 (by decide) rfl ?_
  refine rw_iload F dX12_takeClause_213 0 rfl ?_
  refine rw_if_ne F (tgt := 237) hf dX12_takeClause_215 (by decide) (fun hc12 hf => ?_) (fun hc12 hf => ?_)
  · exact WS.sub [1, 0] rfl (b_X12_takeClause_b237 F  _ _ hf)
  · refine rw_aload_n F dX12_takeClause_218 rfl 1 rfl ?_
    obtain ⟨q8, hq7, hf⟩ := bind_h hf
    refine rw_callVI F (k0 := 0) (nA := 0) (c_X12_here (aL a) Z  _ _ hq7) gX12_takeClause_X12_here rfl ⟨rfl, rfl⟩ (by decide +kernel) ⟨Nat.le_of_ble_eq_true rfl, Nat.le_of_ble_eq_true rfl⟩ (show 0 < 20 by decide) (gM_0 Z _) rfl rfl rfl (Nat.le_of_ble_eq_true rfl) dX12_takeClause_219 ?_
    refine rw_bipush F (v := 59) dX12_takeClause_222 (by decide) ?_
    refine rw_icmp_eq F (tgt := 237) hf dX12_takeClause_224 (by decide) (fun hc11 hf => ?_) (fun hc11 hf => ?_)
    · exact WS.sub [1, 0] rfl (b_X12_takeClause_b237 F  _ _ hf)
    · refine rw_aload_n F dX12_takeClause_227 rfl 1 rfl ?_
      refine rw_iconst F (v := 1) dX12_takeClause_228 (by decide) ?_
      refine rw_aload_n F dX12_takeClause_229 rfl 1 rfl ?_
      refine rw_get F 0 (show 0 < 20 by decide) (gM_0 Z _) iw_X12_takeClause_X12 rfl 12 (by decide) lk_X12_takeClause_99 rfl dX12_takeClause_230 ?_
      obtain ⟨q10, hq9, hf⟩ := bind_h hf
      refine rw_callVI F (k0 := 0) (nA := 2) (c_X12_fails (aL a) Z _ _ _ _ hq9) gX12_takeClause_X12_fails rfl ⟨rfl, rfl⟩ (by decide +kernel) ⟨Nat.le_of_ble_eq_true rfl, Nat.le_of_ble_eq_true rfl⟩ (show 0 < 20 by decide) (gM_0 Z _) rfl rfl rfl (Nat.le_of_ble_eq_true rfl) dX12_takeClause_233 ?_
      exact rw_iretS F hf rfl dX12_takeClause_236

set_option maxHeartbeats 4000000 in
set_option maxRecDepth 100000 in
theorem b_X12_takeClause_b147 {a : Ax} {Z : Zx} {A : Nat → Prop} {r : (Int32 × (Nat → Nat → Int32))} (F : FX_X12_takeClause a Z A) : ∀ (i2 : Int32) (s0 : Int32) (f : Nat → Nat → Int32), f_X12_takeClause_b147 i2 s0 f = some r → WS a (XM Z) A 5 (RP a (XM Z) A (PI r.1 r.2)) 147 [(0, .ref (Z.2.1 0)), (2, .int i2)] [.int s0] f := by
  intro i2 s0 f hf
  unfold f_X12_takeClause_b147 at hf
  refine rw_istore_n F dX12_takeClause_147 rfl (by decide) rfl ?_
  refine rw_iload_n F dX12_takeClause_148 rfl 0 rfl ?_
  refine rw_if_eq F (tgt := 162) hf dX12_takeClause_149 (by decide) (fun hc24 hf => ?_) (fun hc24 hf => ?_)
  · refine rw_aload_n F dX12_takeClause_162 rfl 1 rfl ?_
    refine rw_dup F dX12_takeClause_163 rfl ?_
    refine rw_get F 0 (show 0 < 20 by decide) (gM_0 Z _) iw_X12_takeClause_X12 rfl 12 (by decide) lk_X12_takeClause_99 rfl dX12_takeClause_164 ?_
    refine rw_iconst F (v := 1) dX12_takeClause_167 (by decide) ?_
    refine rw_iadd F dX12_takeClause_168 ?_
    refine rw_put F 0 (show 0 < 20 by decide) (gM_0 Z) iw_X12_takeClause_X12 tyX12 tyX12_ok nmX12 rfl 12 (by decide) lk_X12_takeClause_99 rfl rfl rfl (fun _ => by rw [lnM0]; decide) (stM0_12 Z.2.1) dX12_takeClause_169 ?_
    refine rw_iload_n F dX12_takeClause_172 rfl 2 rfl ?_
    refine rw_if_ne F (tgt := 183) hf dX12_takeClause_173 (by decide) (fun hc21 hf => ?_) (fun hc21 hf => ?_)
    · refine rw_iload_n F dX12_takeClause_183 rfl 2 rfl ?_
      refine rw_iconst F (v := 1) dX12_takeClause_184 (by decide) ?_
      refine rw_icmp_ne F (tgt := 195) hf dX12_takeClause_185 (by decide) (fun hc18 hf => ?_) (fun hc18 hf => ?_)
      · refine rw_iload_n F dX12_takeClause_195 rfl 2 rfl ?_
        refine rw_iconst F (v := 2) dX12_takeClause_196 (by decide) ?_
        refine rw_icmp_ne F (tgt := 207) hf dX12_takeClause_197 (by decide) (fun hc15 hf => ?_) (fun hc15 hf => ?_)
        · refine rw_aload_n F dX12_takeClause_207 rfl 1 rfl ?_
          obtain ⟨q6, hq5, hf⟩ := bind_h hf
          refine rw_callVI F (k0 := 0) (nA := 0) (c_X12_takeWitness (aL a) Z  _ _ hq5) gX12_takeClause_X12_takeWitness rfl ⟨rfl, rfl⟩ (by decide +kernel) ⟨Nat.le_of_ble_eq_true rfl, Nat.le_of_ble_eq_true rfl⟩ (show 0 < 20 by decide) (gM_0 Z _) rfl rfl rfl (Nat.le_of_ble_eq_true rfl) dX12_takeClause_208 ?_
          exact WS.sub [1] rfl (b_X12_takeClause_b211 F  _ _ hf)
        · refine rw_aload_n F dX12_takeClause_200 rfl 1 rfl ?_
          obtain ⟨q14, hq13, hf⟩ := bind_h hf
          refine rw_callVI F (k0 := 0) (nA := 0) (c_X12_takeSound (aL a) Z  _ _ hq13) gX12_takeClause_X12_takeSound rfl ⟨rfl, rfl⟩ (by decide +kernel) ⟨Nat.le_of_ble_eq_true rfl, Nat.le_of_ble_eq_true rfl⟩ (show 0 < 20 by decide) (gM_0 Z _) rfl rfl rfl (Nat.le_of_ble_eq_true rfl) dX12_takeClause_201 ?_
          refine rw_goto F (tgt := 211) dX12_takeClause_204 (by decide) ?_
          exact WS.sub [1] rfl (b_X12_takeClause_b211 F  _ _ hf)
      · refine rw_aload_n F dX12_takeClause_188 rfl 1 rfl ?_
        obtain ⟨q17, hq16, hf⟩ := bind_h hf
        refine rw_callVI F (k0 := 0) (nA := 0) (c_X12_takeWind (aL a) Z  _ _ hq16) gX12_takeClause_X12_takeWind rfl ⟨rfl, rfl⟩ (by decide +kernel) ⟨Nat.le_of_ble_eq_true rfl, Nat.le_of_ble_eq_true rfl⟩ (show 0 < 20 by decide) (gM_0 Z _) rfl rfl rfl (Nat.le_of_ble_eq_true rfl) dX12_takeClause_189 ?_
        refine rw_goto F (tgt := 211) dX12_takeClause_192 (by decide) ?_
        exact WS.sub [1] rfl (b_X12_takeClause_b211 F  _ _ hf)
    · refine rw_aload_n F dX12_takeClause_176 rfl 1 rfl ?_
      obtain ⟨q20, hq19, hf⟩ := bind_h hf
      refine rw_callVI F (k0 := 0) (nA := 0) (c_X12_takeWalls (aL a) Z  _ _ hq19) gX12_takeClause_X12_takeWalls rfl ⟨rfl, rfl⟩ (by decide +kernel) ⟨Nat.le_of_ble_eq_true rfl, Nat.le_of_ble_eq_true rfl⟩ (show 0 < 20 by decide) (gM_0 Z _) rfl rfl rfl (Nat.le_of_ble_eq_true rfl) dX12_takeClause_177 ?_
      refine rw_goto F (tgt := 211) dX12_takeClause_180 (by decide) ?_
      exact WS.sub [1] rfl (b_X12_takeClause_b211 F  _ _ hf)
  · refine rw_aload_n F dX12_takeClause_152 rfl 1 rfl ?_
    refine rw_iconst F (v := 3) dX12_takeClause_153 (by decide) ?_
    refine rw_aload_n F dX12_takeClause_154 rfl 1 rfl ?_
    refine rw_get F 0 (show 0 < 20 by decide) (gM_0 Z _) iw_X12_takeClause_X12 rfl 12 (by decide) lk_X12_takeClause_99 rfl dX12_takeClause_155 ?_
    obtain ⟨q23, hq22, hf⟩ := bind_h hf
    refine rw_callVI F (k0 := 0) (nA := 2) (c_X12_fails (aL a) Z _ _ _ _ hq22) gX12_takeClause_X12_fails rfl ⟨rfl, rfl⟩ (by decide +kernel) ⟨Nat.le_of_ble_eq_true rfl, Nat.le_of_ble_eq_true rfl⟩ (show 0 < 20 by decide) (gM_0 Z _) rfl rfl rfl (Nat.le_of_ble_eq_true rfl) dX12_takeClause_158 ?_
    exact rw_iretS F hf rfl dX12_takeClause_161

set_option maxHeartbeats 4000000 in
set_option maxRecDepth 100000 in
theorem b_X12_takeClause_b72 {a : Ax} {Z : Zx} {A : Nat → Prop} {r : (Int32 × (Nat → Nat → Int32))} (F : FX_X12_takeClause a Z A) : ∀ (i2 : Int32) (f : Nat → Nat → Int32), f_X12_takeClause_b72 i2 f = some r → WS a (XM Z) A 5 (RP a (XM Z) A (PI r.1 r.2)) 72 [(0, .ref (Z.2.1 0)), (2, .int i2)] [] f := by
  intro i2 f hf
  unfold f_X12_takeClause_b72 at hf
  refine rw_iload_n F dX12_takeClause_72 rfl 1 rfl ?_
  refine rw_if_ne F (tgt := 91) hf dX12_takeClause_73 (by decide) (fun hc31 hf => ?_) (fun hc31 hf => ?_)
  · refine rw_iload_n F dX12_takeClause_91 rfl 1 rfl ?_
    refine rw_iconst F (v := 1) dX12_takeClause_92 (by decide) ?_
    refine rw_icmp_ne F (tgt := 111) hf dX12_takeClause_93 (by decide) (fun hc29 hf => ?_) (fun hc29 hf => ?_)
    · refine rw_iload_n F dX12_takeClause_111 rfl 1 rfl ?_
      refine rw_iconst F (v := 2) dX12_takeClause_112 (by decide) ?_
      refine rw_icmp_ne F (tgt := 133) hf dX12_takeClause_113 (by decide) (fun hc27 hf => ?_) (fun hc27 hf => ?_)
      · refine rw_aload_n F dX12_takeClause_133 rfl 0 rfl ?_
        refine rw_get F 0 (show 0 < 20 by decide) (gM_0 Z _) iw_X12_takeClause_X12 rfl 21 (by decide) lk_X12_takeClause_135 rfl dX12_takeClause_134 ?_
        refine rw_bipush F (v := 7) dX12_takeClause_137 (by decide) ?_
        refine rw_icmp_ne F (tgt := 146) hf dX12_takeClause_139 (by decide) (fun hc25 hf => ?_) (fun hc25 hf => ?_)
        · refine rw_iconst F (v := 0) dX12_takeClause_146 (by decide) ?_
          exact WS.sub [0, 1] rfl (b_X12_takeClause_b147 F  _ _ _ hf)
        · refine rw_iconst F (v := 1) dX12_takeClause_142 (by decide) ?_
          refine rw_goto F (tgt := 147) dX12_takeClause_143 (by decide) ?_
          exact WS.sub [0, 1] rfl (b_X12_takeClause_b147 F  _ _ _ hf)
      · refine rw_aload_n F dX12_takeClause_116 rfl 0 rfl ?_
        refine rw_get F 0 (show 0 < 20 by decide) (gM_0 Z _) iw_X12_takeClause_X12 rfl 18 (by decide) lk_X12_takeClause_132 rfl dX12_takeClause_117 ?_
        refine rw_bipush F (v := 6) dX12_takeClause_120 (by decide) ?_
        refine rw_icmp_ne F (tgt := 129) hf dX12_takeClause_122 (by decide) (fun hc26 hf => ?_) (fun hc26 hf => ?_)
        · refine rw_iconst F (v := 0) dX12_takeClause_129 (by decide) ?_
          refine rw_goto F (tgt := 147) dX12_takeClause_130 (by decide) ?_
          exact WS.sub [0, 1] rfl (b_X12_takeClause_b147 F  _ _ _ hf)
        · refine rw_iconst F (v := 1) dX12_takeClause_125 (by decide) ?_
          refine rw_goto F (tgt := 147) dX12_takeClause_126 (by decide) ?_
          exact WS.sub [0, 1] rfl (b_X12_takeClause_b147 F  _ _ _ hf)
    · refine rw_aload_n F dX12_takeClause_96 rfl 0 rfl ?_
      refine rw_get F 0 (show 0 < 20 by decide) (gM_0 Z _) iw_X12_takeClause_X12 rfl 17 (by decide) lk_X12_takeClause_129 rfl dX12_takeClause_97 ?_
      refine rw_if_lt F (tgt := 107) hf dX12_takeClause_100 (by decide) (fun hc28 hf => ?_) (fun hc28 hf => ?_)
      · refine rw_iconst F (v := 0) dX12_takeClause_107 (by decide) ?_
        refine rw_goto F (tgt := 147) dX12_takeClause_108 (by decide) ?_
        exact WS.sub [0, 1] rfl (b_X12_takeClause_b147 F  _ _ _ hf)
      · refine rw_iconst F (v := 1) dX12_takeClause_103 (by decide) ?_
        refine rw_goto F (tgt := 147) dX12_takeClause_104 (by decide) ?_
        exact WS.sub [0, 1] rfl (b_X12_takeClause_b147 F  _ _ _ hf)
  · refine rw_aload_n F dX12_takeClause_76 rfl 0 rfl ?_
    refine rw_get F 0 (show 0 < 20 by decide) (gM_0 Z _) iw_X12_takeClause_X12 rfl 15 (by decide) lk_X12_takeClause_126 rfl dX12_takeClause_77 ?_
    refine rw_if_le F (tgt := 87) hf dX12_takeClause_80 (by decide) (fun hc30 hf => ?_) (fun hc30 hf => ?_)
    · refine rw_iconst F (v := 0) dX12_takeClause_87 (by decide) ?_
      refine rw_goto F (tgt := 147) dX12_takeClause_88 (by decide) ?_
      exact WS.sub [0, 1] rfl (b_X12_takeClause_b147 F  _ _ _ hf)
    · refine rw_iconst F (v := 1) dX12_takeClause_83 (by decide) ?_
      refine rw_goto F (tgt := 147) dX12_takeClause_84 (by decide) ?_
      exact WS.sub [0, 1] rfl (b_X12_takeClause_b147 F  _ _ _ hf)

set_option maxHeartbeats 4000000 in
set_option maxRecDepth 100000 in
theorem b_X12_takeClause_b46 {a : Ax} {Z : Zx} {A : Nat → Prop} {r : (Int32 × (Nat → Nat → Int32))} (F : FX_X12_takeClause a Z A) : ∀ (s0 : Int32) (f : Nat → Nat → Int32), f_X12_takeClause_b46 s0 f = some r → WS a (XM Z) A 5 (RP a (XM Z) A (PI r.1 r.2)) 46 [(0, .ref (Z.2.1 0))] [.int s0] f := by
  intro s0 f hf
  unfold f_X12_takeClause_b46 at hf
  refine rw_istore_n F dX12_takeClause_46 rfl (by decide) rfl ?_
  refine rw_iload_n F dX12_takeClause_47 rfl 0 rfl ?_
  refine rw_if_lt F (tgt := 62) hf dX12_takeClause_48 (by decide) (fun hc34 hf => ?_) (fun hc34 hf => ?_)
  · exact WS.sub [1] rfl (b_X12_takeClause_b62 F  _ hf)
  · refine rw_iload_n F dX12_takeClause_51 rfl 0 rfl ?_
    refine rw_if_le F (tgt := 72) hf dX12_takeClause_52 (by decide) (fun hc33 hf => ?_) (fun hc33 hf => ?_)
    · exact WS.sub [1, 0] rfl (b_X12_takeClause_b72 F  _ _ hf)
    · refine rw_aload_n F dX12_takeClause_55 rfl 1 rfl ?_
      refine rw_get F 0 (show 0 < 20 by decide) (gM_0 Z _) iw_X12_takeClause_X12 rfl 15 (by decide) lk_X12_takeClause_126 rfl dX12_takeClause_56 ?_
      refine rw_if_ne F (tgt := 72) hf dX12_takeClause_59 (by decide) (fun hc32 hf => ?_) (fun hc32 hf => ?_)
      · exact WS.sub [1, 0] rfl (b_X12_takeClause_b72 F  _ _ hf)
      · exact WS.sub [1] rfl (b_X12_takeClause_b62 F  _ hf)

set_option maxHeartbeats 4000000 in
set_option maxRecDepth 100000 in
theorem c_X12_takeClause (l : Launch) (Z : Zx) (f : Nat → Nat → Int32) (r : (Int32 × (Nat → Nat → Int32))) (hf : f_X12_takeClause f = some r) : MS l (XM Z) yX12_takeClause wsX12_takeClause rm_X12_takeClause [.ref (Z.2.1 0)] f (PI r.1 r.2) := by
  refine MS.of (cc := cX12_takeClause) (maxL := 5) (ret := (some .int)) (own := RX12) (lv := [(0, .ref (Z.2.1 0))]) (by decide) rfl rfl (Nat.le_of_ble_eq_true rfl) rfl ?_
  intro a A hla F
  subst hla
  unfold f_X12_takeClause at hf
  refine rw_aload_n F dX12_takeClause_0 rfl 0 rfl ?_
  obtain ⟨q2, hq1, hf⟩ := bind_h hf
  refine rw_callVI F (k0 := 0) (nA := 0) (c_X12_here (aL a) Z  _ _ hq1) gX12_takeClause_X12_here rfl ⟨rfl, rfl⟩ (by decide +kernel) ⟨Nat.le_of_ble_eq_true rfl, Nat.le_of_ble_eq_true rfl⟩ (show 0 < 20 by decide) (gM_0 Z _) rfl rfl rfl (Nat.le_of_ble_eq_true rfl) dX12_takeClause_1 ?_
  refine rw_istore_n F dX12_takeClause_4 rfl (by decide) rfl ?_
  refine rw_iload_n F dX12_takeClause_5 rfl 0 rfl ?_
  refine rw_bipush F (v := 104) dX12_takeClause_6 (by decide) ?_
  refine rw_icmp_ne F (tgt := 15) hf dX12_takeClause_8 (by decide) (fun hc38 hf => ?_) (fun hc38 hf => ?_)
  · refine rw_iload_n F dX12_takeClause_15 rfl 0 rfl ?_
    refine rw_bipush F (v := 118) dX12_takeClause_16 (by decide) ?_
    refine rw_icmp_ne F (tgt := 25) hf dX12_takeClause_18 (by decide) (fun hc37 hf => ?_) (fun hc37 hf => ?_)
    · refine rw_iload_n F dX12_takeClause_25 rfl 0 rfl ?_
      refine rw_bipush F (v := 115) dX12_takeClause_26 (by decide) ?_
      refine rw_icmp_ne F (tgt := 35) hf dX12_takeClause_28 (by decide) (fun hc36 hf => ?_) (fun hc36 hf => ?_)
      · refine rw_iload_n F dX12_takeClause_35 rfl 0 rfl ?_
        refine rw_bipush F (v := 119) dX12_takeClause_36 (by decide) ?_
        refine rw_icmp_ne F (tgt := 45) hf dX12_takeClause_38 (by decide) (fun hc35 hf => ?_) (fun hc35 hf => ?_)
        · refine rw_iconst F (v := -1) dX12_takeClause_45 (by decide) ?_
          exact WS.sub [1] rfl (b_X12_takeClause_b46 F  _ _ hf)
        · refine rw_iconst F (v := 3) dX12_takeClause_41 (by decide) ?_
          refine rw_goto F (tgt := 46) dX12_takeClause_42 (by decide) ?_
          exact WS.sub [1] rfl (b_X12_takeClause_b46 F  _ _ hf)
      · refine rw_iconst F (v := 2) dX12_takeClause_31 (by decide) ?_
        refine rw_goto F (tgt := 46) dX12_takeClause_32 (by decide) ?_
        exact WS.sub [1] rfl (b_X12_takeClause_b46 F  _ _ hf)
    · refine rw_iconst F (v := 1) dX12_takeClause_21 (by decide) ?_
      refine rw_goto F (tgt := 46) dX12_takeClause_22 (by decide) ?_
      exact WS.sub [1] rfl (b_X12_takeClause_b46 F  _ _ hf)
  · refine rw_iconst F (v := 0) dX12_takeClause_11 (by decide) ?_
    refine rw_goto F (tgt := 46) dX12_takeClause_12 (by decide) ?_
    exact WS.sub [1] rfl (b_X12_takeClause_b46 F  _ _ hf)

abbrev rm_X12_takeRead : Room := { frames := 1, cells := 0, slots := 0, locals := 21 }
abbrev FX_X12_takeRead (a : Ax) (Z : Zx) (A : Nat → Prop) : Prop := FX a (XM Z) A cX12_takeRead RX12 wsX12_takeRead 2 none rm_X12_takeRead
theorem iw_X12_takeRead_X12 : ∀ w ∈ wsX120, w ∈ wsX12_takeRead := by decide +kernel
theorem lk_X12_takeRead_7 : Cond.fieldLink RX12 7 (TX12 2).1 (TX12 2).2.1 (TX12 2).2.2.1 ∈ wsX12_takeRead := by decide +kernel
theorem lk_X12_takeRead_13 : Cond.fieldLink RX12 13 (TX12 3).1 (TX12 3).2.1 (TX12 3).2.2.1 ∈ wsX12_takeRead := by decide +kernel
theorem lk_X12_takeRead_16 : Cond.fieldLink RX12 16 (TX12 5).1 (TX12 5).2.1 (TX12 5).2.2.1 ∈ wsX12_takeRead := by decide +kernel
theorem lk_X12_takeRead_19 : Cond.fieldLink RX12 19 (TX12 6).1 (TX12 6).2.1 (TX12 6).2.2.1 ∈ wsX12_takeRead := by decide +kernel
theorem lk_X12_takeRead_22 : Cond.fieldLink RX12 22 (TX12 7).1 (TX12 7).2.1 (TX12 7).2.2.1 ∈ wsX12_takeRead := by decide +kernel
theorem lk_X12_takeRead_32 : Cond.fieldLink RX12 32 (TX12 16).1 (TX12 16).2.1 (TX12 16).2.2.1 ∈ wsX12_takeRead := by decide +kernel
theorem lk_X12_takeRead_35 : Cond.fieldLink RX12 35 (TX12 19).1 (TX12 19).2.1 (TX12 19).2.2.1 ∈ wsX12_takeRead := by decide +kernel
theorem lk_X12_takeRead_38 : Cond.fieldLink RX12 38 (TX12 20).1 (TX12 20).2.1 (TX12 20).2.2.1 ∈ wsX12_takeRead := by decide +kernel
theorem lk_X12_takeRead_41 : Cond.fieldLink RX12 41 (TX12 22).1 (TX12 22).2.1 (TX12 22).2.2.1 ∈ wsX12_takeRead := by decide +kernel
theorem lk_X12_takeRead_44 : Cond.fieldLink RX12 44 (TX12 23).1 (TX12 23).2.1 (TX12 23).2.2.1 ∈ wsX12_takeRead := by decide +kernel
theorem lk_X12_takeRead_47 : Cond.fieldLink RX12 47 (TX12 24).1 (TX12 24).2.1 (TX12 24).2.2.1 ∈ wsX12_takeRead := by decide +kernel
theorem lk_X12_takeRead_75 : Cond.fieldLink RX12 75 (TX12 0).1 (TX12 0).2.1 (TX12 0).2.2.1 ∈ wsX12_takeRead := by decide +kernel
theorem lk_X12_takeRead_86 : Cond.fieldLink RX12 86 (TX12 1).1 (TX12 1).2.1 (TX12 1).2.2.1 ∈ wsX12_takeRead := by decide +kernel
theorem lk_X12_takeRead_89 : Cond.fieldLink RX12 89 (TX12 4).1 (TX12 4).2.1 (TX12 4).2.2.1 ∈ wsX12_takeRead := by decide +kernel
theorem lk_X12_takeRead_126 : Cond.fieldLink RX12 126 (TX12 15).1 (TX12 15).2.1 (TX12 15).2.2.1 ∈ wsX12_takeRead := by decide +kernel
theorem lk_X12_takeRead_129 : Cond.fieldLink RX12 129 (TX12 17).1 (TX12 17).2.1 (TX12 17).2.2.1 ∈ wsX12_takeRead := by decide +kernel
theorem lk_X12_takeRead_132 : Cond.fieldLink RX12 132 (TX12 18).1 (TX12 18).2.1 (TX12 18).2.2.1 ∈ wsX12_takeRead := by decide +kernel
theorem lk_X12_takeRead_135 : Cond.fieldLink RX12 135 (TX12 21).1 (TX12 21).2.1 (TX12 21).2.2.1 ∈ wsX12_takeRead := by decide +kernel
set_option maxHeartbeats 4000000 in
set_option maxRecDepth 100000 in
theorem b_X12_takeRead_b121 {a : Ax} {Z : Zx} {A : Nat → Prop} {r : Nat → Nat → Int32} (F : FX_X12_takeRead a Z A) : ∀ (n : Nat) (i1 : Int32) (f : Nat → Nat → Int32), f_X12_takeRead_b121 n i1 f = some r → WS a (XM Z) A 2 (RP a (XM Z) A (PV r)) 121 [(0, .ref (Z.2.1 0)), (1, .int i1)] [] f := by
  intro n
  induction n with
  | zero => intro i1 f hf; exact nomatch (show (none : Option (Nat → Nat → Int32)) = some r from hf)
  | succ n hK121 =>
    intro i1 f hf
    replace hf : f_X12_takeRead_b121s (f_X12_takeRead_b121 n) i1 f = some r := hf
    unfold f_X12_takeRead_b121s at hf
    refine rw_iload_n F dX12_takeRead_121 rfl 1 rfl ?_
    refine rw_aload_n F dX12_takeRead_122 rfl 0 rfl ?_
    refine rw_get F 0 (show 0 < 20 by decide) (gM_0 Z _) iw_X12_takeRead_X12 rfl 4 (by decide) lk_X12_takeRead_89 rfl dX12_takeRead_123 ?_
    refine rw_icmp_ge F (tgt := 174) hf dX12_takeRead_126 (by decide) (fun hc10 hf => ?_) (fun hc10 hf => ?_)
    · exact rw_vret F hf rfl dX12_takeRead_174
    · refine rw_aload_n F dX12_takeRead_129 rfl 0 rfl ?_
      refine rw_get F 0 (show 0 < 20 by decide) (gM_0 Z _) iw_X12_takeRead_X12 rfl 7 (by decide) lk_X12_takeRead_22 rfl dX12_takeRead_130 ?_
      refine rw_bipush F (v := 9) dX12_takeRead_133 (by decide) ?_
      refine rw_iload_n F dX12_takeRead_135 rfl 1 rfl ?_
      refine rw_iadd F dX12_takeRead_136 ?_
      refine rw_aload_n F dX12_takeRead_137 rfl 0 rfl ?_
      refine rw_get F 0 (show 0 < 20 by decide) (gM_0 Z _) iw_X12_takeRead_X12 rfl 22 (by decide) lk_X12_takeRead_41 rfl dX12_takeRead_138 ?_
      refine rw_iload_n F dX12_takeRead_141 rfl 1 rfl ?_
      obtain ⟨hi4, hf⟩ := ck_h hf
      refine rw_iald F 10 (show 10 < 20 by decide) (gM_10 Z _) 0 rfl hi4 dX12_takeRead_142 ?_
      obtain ⟨hi5, hf⟩ := ck_h hf
      refine rw_iast F 5 (show 5 < 20 by decide) (gM_5 Z) 0 rfl hi5 dX12_takeRead_143 ?_
      refine rw_aload_n F dX12_takeRead_144 rfl 0 rfl ?_
      refine rw_get F 0 (show 0 < 20 by decide) (gM_0 Z _) iw_X12_takeRead_X12 rfl 5 (by decide) lk_X12_takeRead_16 rfl dX12_takeRead_145 ?_
      refine rw_iload_n F dX12_takeRead_148 rfl 1 rfl ?_
      refine rw_aload_n F dX12_takeRead_149 rfl 0 rfl ?_
      refine rw_get F 0 (show 0 < 20 by decide) (gM_0 Z _) iw_X12_takeRead_X12 rfl 23 (by decide) lk_X12_takeRead_44 rfl dX12_takeRead_150 ?_
      refine rw_iload_n F dX12_takeRead_153 rfl 1 rfl ?_
      obtain ⟨hi6, hf⟩ := ck_h hf
      refine rw_iald F 11 (show 11 < 20 by decide) (gM_11 Z _) 0 rfl hi6 dX12_takeRead_154 ?_
      obtain ⟨hi7, hf⟩ := ck_h hf
      refine rw_iast F 3 (show 3 < 20 by decide) (gM_3 Z) 0 rfl hi7 dX12_takeRead_155 ?_
      refine rw_aload_n F dX12_takeRead_156 rfl 0 rfl ?_
      refine rw_get F 0 (show 0 < 20 by decide) (gM_0 Z _) iw_X12_takeRead_X12 rfl 6 (by decide) lk_X12_takeRead_19 rfl dX12_takeRead_157 ?_
      refine rw_iload_n F dX12_takeRead_160 rfl 1 rfl ?_
      refine rw_aload_n F dX12_takeRead_161 rfl 0 rfl ?_
      refine rw_get F 0 (show 0 < 20 by decide) (gM_0 Z _) iw_X12_takeRead_X12 rfl 24 (by decide) lk_X12_takeRead_47 rfl dX12_takeRead_162 ?_
      refine rw_iload_n F dX12_takeRead_165 rfl 1 rfl ?_
      obtain ⟨hi8, hf⟩ := ck_h hf
      refine rw_iald F 12 (show 12 < 20 by decide) (gM_12 Z _) 0 rfl hi8 dX12_takeRead_166 ?_
      obtain ⟨hi9, hf⟩ := ck_h hf
      refine rw_iast F 4 (show 4 < 20 by decide) (gM_4 Z) 0 rfl hi9 dX12_takeRead_167 ?_
      refine rw_iinc F (v := 1) dX12_takeRead_168 1 rfl (by decide) (by decide) rfl ?_
      refine rw_goto F (tgt := 121) dX12_takeRead_171 (by decide) ?_
      exact WS.sub [1, 0] rfl (hK121 _ _ hf)

set_option maxHeartbeats 4000000 in
set_option maxRecDepth 100000 in
theorem b_X12_takeRead_b81 {a : Ax} {Z : Zx} {A : Nat → Prop} {r : Nat → Nat → Int32} (F : FX_X12_takeRead a Z A) : ∀ (n : Nat) (i1 : Int32) (f : Nat → Nat → Int32), f_X12_takeRead_b81 n i1 f = some r → WS a (XM Z) A 2 (RP a (XM Z) A (PV r)) 81 [(0, .ref (Z.2.1 0)), (1, .int i1)] [] f := by
  intro n
  induction n with
  | zero => intro i1 f hf; exact nomatch (show (none : Option (Nat → Nat → Int32)) = some r from hf)
  | succ n hK81 =>
    intro i1 f hf
    replace hf : f_X12_takeRead_b81s (f_X12_takeRead_b81 n) i1 f = some r := hf
    unfold f_X12_takeRead_b81s at hf
    refine rw_iload_n F dX12_takeRead_81 rfl 1 rfl ?_
    refine rw_aload_n F dX12_takeRead_82 rfl 0 rfl ?_
    refine rw_get F 0 (show 0 < 20 by decide) (gM_0 Z _) iw_X12_takeRead_X12 rfl 1 (by decide) lk_X12_takeRead_86 rfl dX12_takeRead_83 ?_
    refine rw_icmp_ge F (tgt := 119) hf dX12_takeRead_86 (by decide) (fun hc15 hf => ?_) (fun hc15 hf => ?_)
    · refine rw_iconst F (v := 0) dX12_takeRead_119 (by decide) ?_
      refine rw_istore_n F dX12_takeRead_120 rfl (by decide) rfl ?_
      exact WS.sub [1, 0] rfl (b_X12_takeRead_b121 F  fuB _ _ hf)
    · refine rw_aload_n F dX12_takeRead_89 rfl 0 rfl ?_
      refine rw_get F 0 (show 0 < 20 by decide) (gM_0 Z _) iw_X12_takeRead_X12 rfl 2 (by decide) lk_X12_takeRead_7 rfl dX12_takeRead_90 ?_
      refine rw_iload_n F dX12_takeRead_93 rfl 1 rfl ?_
      refine rw_aload_n F dX12_takeRead_94 rfl 0 rfl ?_
      refine rw_get F 0 (show 0 < 20 by decide) (gM_0 Z _) iw_X12_takeRead_X12 rfl 19 (by decide) lk_X12_takeRead_35 rfl dX12_takeRead_95 ?_
      refine rw_iload_n F dX12_takeRead_98 rfl 1 rfl ?_
      obtain ⟨hi11, hf⟩ := ck_h hf
      refine rw_iald F 8 (show 8 < 20 by decide) (gM_8 Z _) 0 rfl hi11 dX12_takeRead_99 ?_
      obtain ⟨hi12, hf⟩ := ck_h hf
      refine rw_iast F 1 (show 1 < 20 by decide) (gM_1 Z) 0 rfl hi12 dX12_takeRead_100 ?_
      refine rw_aload_n F dX12_takeRead_101 rfl 0 rfl ?_
      refine rw_get F 0 (show 0 < 20 by decide) (gM_0 Z _) iw_X12_takeRead_X12 rfl 3 (by decide) lk_X12_takeRead_13 rfl dX12_takeRead_102 ?_
      refine rw_iload_n F dX12_takeRead_105 rfl 1 rfl ?_
      refine rw_aload_n F dX12_takeRead_106 rfl 0 rfl ?_
      refine rw_get F 0 (show 0 < 20 by decide) (gM_0 Z _) iw_X12_takeRead_X12 rfl 20 (by decide) lk_X12_takeRead_38 rfl dX12_takeRead_107 ?_
      refine rw_iload_n F dX12_takeRead_110 rfl 1 rfl ?_
      obtain ⟨hi13, hf⟩ := ck_h hf
      refine rw_iald F 9 (show 9 < 20 by decide) (gM_9 Z _) 0 rfl hi13 dX12_takeRead_111 ?_
      obtain ⟨hi14, hf⟩ := ck_h hf
      refine rw_iast F 2 (show 2 < 20 by decide) (gM_2 Z) 0 rfl hi14 dX12_takeRead_112 ?_
      refine rw_iinc F (v := 1) dX12_takeRead_113 1 rfl (by decide) (by decide) rfl ?_
      refine rw_goto F (tgt := 81) dX12_takeRead_116 (by decide) ?_
      exact WS.sub [1, 0] rfl (hK81 _ _ hf)

set_option maxHeartbeats 4000000 in
set_option maxRecDepth 100000 in
theorem b_X12_takeRead_b78 {a : Ax} {Z : Zx} {A : Nat → Prop} {r : Nat → Nat → Int32} (F : FX_X12_takeRead a Z A) : ∀ (s1 : Int32) (s2 : Int32) (f : Nat → Nat → Int32), f_X12_takeRead_b78 s1 s2 f = some r → WS a (XM Z) A 2 (RP a (XM Z) A (PV r)) 78 [(0, .ref (Z.2.1 0))] [.int s2, .int s1, .ref (Z.2.1 5)] f := by
  intro s1 s2 f hf
  unfold f_X12_takeRead_b78 at hf
  obtain ⟨hi3, hf⟩ := ck_h hf
  refine rw_iast F 5 (show 5 < 20 by decide) (gM_5 Z) 0 rfl hi3 dX12_takeRead_78 ?_
  refine rw_iconst F (v := 0) dX12_takeRead_79 (by decide) ?_
  refine rw_istore_n F dX12_takeRead_80 rfl (by decide) rfl ?_
  exact WS.sub [1, 0] rfl (b_X12_takeRead_b81 F  fuB _ _ hf)

set_option maxHeartbeats 4000000 in
set_option maxRecDepth 100000 in
theorem b_X12_takeRead_b30 {a : Ax} {Z : Zx} {A : Nat → Prop} {r : Nat → Nat → Int32} (F : FX_X12_takeRead a Z A) : ∀ (n : Nat) (i1 : Int32) (f : Nat → Nat → Int32), f_X12_takeRead_b30 n i1 f = some r → WS a (XM Z) A 2 (RP a (XM Z) A (PV r)) 30 [(0, .ref (Z.2.1 0)), (1, .int i1)] [] f := by
  intro n
  induction n with
  | zero => intro i1 f hf; exact nomatch (show (none : Option (Nat → Nat → Int32)) = some r from hf)
  | succ n hK30 =>
    intro i1 f hf
    replace hf : f_X12_takeRead_b30s (f_X12_takeRead_b30 n) i1 f = some r := hf
    unfold f_X12_takeRead_b30s at hf
    refine rw_iload_n F dX12_takeRead_30 rfl 1 rfl ?_
    refine rw_aload_n F dX12_takeRead_31 rfl 0 rfl ?_
    refine rw_get F 0 (show 0 < 20 by decide) (gM_0 Z _) iw_X12_takeRead_X12 rfl 0 (by decide) lk_X12_takeRead_75 rfl dX12_takeRead_32 ?_
    refine rw_icmp_ge F (tgt := 56) hf dX12_takeRead_35 (by decide) (fun hc19 hf => ?_) (fun hc19 hf => ?_)
    · refine rw_aload_n F dX12_takeRead_56 rfl 0 rfl ?_
      refine rw_get F 0 (show 0 < 20 by decide) (gM_0 Z _) iw_X12_takeRead_X12 rfl 7 (by decide) lk_X12_takeRead_22 rfl dX12_takeRead_57 ?_
      refine rw_bipush F (v := 8) dX12_takeRead_60 (by decide) ?_
      refine rw_aload_n F dX12_takeRead_62 rfl 0 rfl ?_
      refine rw_get F 0 (show 0 < 20 by decide) (gM_0 Z _) iw_X12_takeRead_X12 rfl 17 (by decide) lk_X12_takeRead_129 rfl dX12_takeRead_63 ?_
      refine rw_if_ge F (tgt := 74) hf dX12_takeRead_66 (by decide) (fun hc16 hf => ?_) (fun hc16 hf => ?_)
      · refine rw_aload_n F dX12_takeRead_74 rfl 0 rfl ?_
        refine rw_get F 0 (show 0 < 20 by decide) (gM_0 Z _) iw_X12_takeRead_X12 rfl 17 (by decide) lk_X12_takeRead_129 rfl dX12_takeRead_75 ?_
        exact WS.sub [0] rfl (b_X12_takeRead_b78 F  _ _ _ hf)
      · refine rw_bipush F (v := 9) dX12_takeRead_69 (by decide) ?_
        refine rw_goto F (tgt := 78) dX12_takeRead_71 (by decide) ?_
        exact WS.sub [0] rfl (b_X12_takeRead_b78 F  _ _ _ hf)
    · refine rw_aload_n F dX12_takeRead_38 rfl 0 rfl ?_
      refine rw_get F 0 (show 0 < 20 by decide) (gM_0 Z _) iw_X12_takeRead_X12 rfl 7 (by decide) lk_X12_takeRead_22 rfl dX12_takeRead_39 ?_
      refine rw_iload_n F dX12_takeRead_42 rfl 1 rfl ?_
      refine rw_aload_n F dX12_takeRead_43 rfl 0 rfl ?_
      refine rw_get F 0 (show 0 < 20 by decide) (gM_0 Z _) iw_X12_takeRead_X12 rfl 16 (by decide) lk_X12_takeRead_32 rfl dX12_takeRead_44 ?_
      refine rw_iload_n F dX12_takeRead_47 rfl 1 rfl ?_
      obtain ⟨hi17, hf⟩ := ck_h hf
      refine rw_iald F 7 (show 7 < 20 by decide) (gM_7 Z _) 0 rfl hi17 dX12_takeRead_48 ?_
      obtain ⟨hi18, hf⟩ := ck_h hf
      refine rw_iast F 5 (show 5 < 20 by decide) (gM_5 Z) 0 rfl hi18 dX12_takeRead_49 ?_
      refine rw_iinc F (v := 1) dX12_takeRead_50 1 rfl (by decide) (by decide) rfl ?_
      refine rw_goto F (tgt := 30) dX12_takeRead_53 (by decide) ?_
      exact WS.sub [1, 0] rfl (hK30 _ _ hf)

set_option maxHeartbeats 4000000 in
set_option maxRecDepth 100000 in
theorem c_X12_takeRead (l : Launch) (Z : Zx) (f : Nat → Nat → Int32) (r : Nat → Nat → Int32) (hf : f_X12_takeRead f = some r) : MS l (XM Z) yX12_takeRead wsX12_takeRead rm_X12_takeRead [.ref (Z.2.1 0)] f (PV r) := by
  refine MS.of (cc := cX12_takeRead) (maxL := 2) (ret := none) (own := RX12) (lv := [(0, .ref (Z.2.1 0))]) (by decide) rfl rfl (Nat.le_of_ble_eq_true rfl) rfl ?_
  intro a A hla F
  subst hla
  unfold f_X12_takeRead at hf
  refine rw_aload_n F dX12_takeRead_0 rfl 0 rfl ?_
  refine rw_aload_n F dX12_takeRead_1 rfl 0 rfl ?_
  refine rw_get F 0 (show 0 < 20 by decide) (gM_0 Z _) iw_X12_takeRead_X12 rfl 15 (by decide) lk_X12_takeRead_126 rfl dX12_takeRead_2 ?_
  refine rw_put F 0 (show 0 < 20 by decide) (gM_0 Z) iw_X12_takeRead_X12 tyX12 tyX12_ok nmX12 rfl 0 (by decide) lk_X12_takeRead_75 rfl rfl rfl (fun _ => by rw [lnM0]; decide) (stM0_0 Z.2.1) dX12_takeRead_5 ?_
  refine rw_aload_n F dX12_takeRead_8 rfl 0 rfl ?_
  refine rw_aload_n F dX12_takeRead_9 rfl 0 rfl ?_
  refine rw_get F 0 (show 0 < 20 by decide) (gM_0 Z _) iw_X12_takeRead_X12 rfl 18 (by decide) lk_X12_takeRead_132 rfl dX12_takeRead_10 ?_
  refine rw_put F 0 (show 0 < 20 by decide) (gM_0 Z) iw_X12_takeRead_X12 tyX12 tyX12_ok nmX12 rfl 1 (by decide) lk_X12_takeRead_86 rfl rfl rfl (fun _ => by rw [lnM0]; decide) (stM0_1 Z.2.1) dX12_takeRead_13 ?_
  refine rw_aload_n F dX12_takeRead_16 rfl 0 rfl ?_
  refine rw_aload_n F dX12_takeRead_17 rfl 0 rfl ?_
  refine rw_get F 0 (show 0 < 20 by decide) (gM_0 Z _) iw_X12_takeRead_X12 rfl 21 (by decide) lk_X12_takeRead_135 rfl dX12_takeRead_18 ?_
  refine rw_put F 0 (show 0 < 20 by decide) (gM_0 Z) iw_X12_takeRead_X12 tyX12 tyX12_ok nmX12 rfl 4 (by decide) lk_X12_takeRead_89 rfl rfl rfl (fun _ => by rw [lnM0]; decide) (stM0_4 Z.2.1) dX12_takeRead_21 ?_
  refine rw_aload_n F dX12_takeRead_24 rfl 0 rfl ?_
  obtain ⟨q2, hq1, hf⟩ := bind_h hf
  refine rw_callVV F (k0 := 0) (nA := 0) (c_X12_clearNow (aL a) Z  _ _ hq1) gX12_takeRead_X12_clearNow rfl ⟨rfl, rfl⟩ (by decide +kernel) ⟨Nat.le_of_ble_eq_true rfl, Nat.le_of_ble_eq_true rfl⟩ (show 0 < 20 by decide) (gM_0 Z _) rfl rfl rfl (Nat.le_of_ble_eq_true rfl) dX12_takeRead_25 ?_
  refine rw_iconst F (v := 0) dX12_takeRead_28 (by decide) ?_
  refine rw_istore_n F dX12_takeRead_29 rfl (by decide) rfl ?_
  exact WS.sub [1, 0] rfl (b_X12_takeRead_b30 F  fuB _ _ hf)

abbrev rm_X12_house : Room := { frames := 5, cells := 0, slots := 0, locals := 119 }
abbrev FX_X12_house (a : Ax) (Z : Zx) (A : Nat → Prop) : Prop := FX a (XM Z) A cX12_house RX12 wsX12_house 2 (some .int) rm_X12_house
theorem iw_X12_house_X12 : ∀ w ∈ wsX120, w ∈ wsX12_house := by decide +kernel
theorem lk_X12_house_28 : Cond.fieldLink RX12 28 (TX12 11).1 (TX12 11).2.1 (TX12 11).2.2.1 ∈ wsX12_house := by decide +kernel
theorem lk_X12_house_68 : Cond.fieldLink RX12 68 (TX12 34).1 (TX12 34).2.1 (TX12 34).2.2.1 ∈ wsX12_house := by decide +kernel
theorem lk_X12_house_95 : Cond.fieldLink RX12 95 (TX12 10).1 (TX12 10).2.1 (TX12 10).2.2.1 ∈ wsX12_house := by decide +kernel
theorem lk_X12_house_99 : Cond.fieldLink RX12 99 (TX12 12).1 (TX12 12).2.1 (TX12 12).2.2.1 ∈ wsX12_house := by decide +kernel
theorem lk_X12_house_126 : Cond.fieldLink RX12 126 (TX12 15).1 (TX12 15).2.1 (TX12 15).2.2.1 ∈ wsX12_house := by decide +kernel
theorem lk_X12_house_129 : Cond.fieldLink RX12 129 (TX12 17).1 (TX12 17).2.1 (TX12 17).2.2.1 ∈ wsX12_house := by decide +kernel
theorem lk_X12_house_132 : Cond.fieldLink RX12 132 (TX12 18).1 (TX12 18).2.1 (TX12 18).2.2.1 ∈ wsX12_house := by decide +kernel
theorem lk_X12_house_135 : Cond.fieldLink RX12 135 (TX12 21).1 (TX12 21).2.1 (TX12 21).2.2.1 ∈ wsX12_house := by decide +kernel
theorem lk_X12_house_156 : Cond.fieldLink RX12 156 (TX12 27).1 (TX12 27).2.1 (TX12 27).2.2.1 ∈ wsX12_house := by decide +kernel
theorem lk_X12_house_159 : Cond.fieldLink RX12 159 (TX12 31).1 (TX12 31).2.1 (TX12 31).2.2.1 ∈ wsX12_house := by decide +kernel
theorem lk_X12_house_162 : Cond.fieldLink RX12 162 (TX12 25).1 (TX12 25).2.1 (TX12 25).2.2.1 ∈ wsX12_house := by decide +kernel
set_option maxHeartbeats 4000000 in
set_option maxRecDepth 100000 in
theorem b_X12_house_b51 {a : Ax} {Z : Zx} {A : Nat → Prop} {r : (Int32 × (Nat → Nat → Int32))} (F : FX_X12_house a Z A) : ∀ (i1 : Int32) (f : Nat → Nat → Int32), f_X12_house_b51 i1 f = some r → WS a (XM Z) A 2 (RP a (XM Z) A (PI r.1 r.2)) 51 [(0, .ref (Z.2.1 0)), (1, .int i1)] [] f := by
  intro i1 f hf
  unfold f_X12_house_b51 at hf
  refine rw_aload_n F dX12_house_51 rfl 0 rfl ?_
  refine rw_iconst F (v := 0) dX12_house_52 (by decide) ?_
  refine rw_put F 0 (show 0 < 20 by decide) (gM_0 Z) iw_X12_house_X12 tyX12 tyX12_ok nmX12 rfl 10 (by decide) lk_X12_house_95 rfl rfl rfl (fun _ => by rw [lnM0]; decide) (stM0_10 Z.2.1) dX12_house_53 ?_
  refine rw_iload_n F dX12_house_56 rfl 1 rfl ?_
  refine rw_if_le F (tgt := 65) hf dX12_house_57 (by decide) (fun hc7 hf => ?_) (fun hc7 hf => ?_)
  · refine rw_aload_n F dX12_house_65 rfl 0 rfl ?_
    obtain ⟨q2, hq1, hf⟩ := bind_h hf
    refine rw_callVV F (k0 := 0) (nA := 0) (c_X12_takeRead (aL a) Z  _ _ hq1) gX12_house_X12_takeRead rfl ⟨rfl, rfl⟩ (by decide +kernel) ⟨Nat.le_of_ble_eq_true rfl, Nat.le_of_ble_eq_true rfl⟩ (show 0 < 20 by decide) (gM_0 Z _) rfl rfl rfl (Nat.le_of_ble_eq_true rfl) dX12_house_66 ?_
    refine rw_aload_n F dX12_house_69 rfl 0 rfl ?_
    refine rw_iconst F (v := 0) dX12_house_70 (by decide) ?_
    refine rw_put F 0 (show 0 < 20 by decide) (gM_0 Z) iw_X12_house_X12 tyX12 tyX12_ok nmX12 rfl 27 (by decide) lk_X12_house_156 rfl rfl rfl (fun _ => by rw [lnM0]; decide) (stM0_27 Z.2.1) dX12_house_71 ?_
    refine rw_aload_n F dX12_house_74 rfl 0 rfl ?_
    refine rw_iconst F (v := 0) dX12_house_75 (by decide) ?_
    refine rw_put F 0 (show 0 < 20 by decide) (gM_0 Z) iw_X12_house_X12 tyX12 tyX12_ok nmX12 rfl 31 (by decide) lk_X12_house_159 rfl rfl rfl (fun _ => by rw [lnM0]; decide) (stM0_31 Z.2.1) dX12_house_76 ?_
    refine rw_aload_n F dX12_house_79 rfl 0 rfl ?_
    refine rw_iconst F (v := 0) dX12_house_80 (by decide) ?_
    refine rw_put F 0 (show 0 < 20 by decide) (gM_0 Z) iw_X12_house_X12 tyX12 tyX12_ok nmX12 rfl 25 (by decide) lk_X12_house_162 rfl rfl rfl (fun _ => by rw [lnM0]; decide) (stM0_25 Z.2.1) dX12_house_81 ?_
    refine rw_aload_n F dX12_house_84 rfl 0 rfl ?_
    refine rw_get F 0 (show 0 < 20 by decide) (gM_0 Z _) iw_X12_house_X12 rfl 34 (by decide) lk_X12_house_68 rfl dX12_house_85 ?_
    refine rw_iconst F (v := 0) dX12_house_88 (by decide) ?_
    refine rw_iconst F (v := 0) dX12_house_89 (by decide) ?_
    obtain ⟨hi3, hf⟩ := ck_h hf
    refine rw_zast F 19 (show 19 < 20 by decide) (gM_19 Z) 1 rfl hi3 rfl dX12_house_90 ?_
    refine rw_aload_n F dX12_house_91 rfl 0 rfl ?_
    refine rw_get F 0 (show 0 < 20 by decide) (gM_0 Z _) iw_X12_house_X12 rfl 34 (by decide) lk_X12_house_68 rfl dX12_house_92 ?_
    refine rw_iconst F (v := 1) dX12_house_95 (by decide) ?_
    refine rw_iconst F (v := 0) dX12_house_96 (by decide) ?_
    obtain ⟨hi4, hf⟩ := ck_h hf
    refine rw_zast F 19 (show 19 < 20 by decide) (gM_19 Z) 1 rfl hi4 rfl dX12_house_97 ?_
    refine rw_aload_n F dX12_house_98 rfl 0 rfl ?_
    obtain ⟨q6, hq5, hf⟩ := bind_h hf
    refine rw_callVI F (k0 := 0) (nA := 0) (c_X12_places (aL a) Z  _ _ hq5) gX12_house_X12_places rfl ⟨rfl, rfl⟩ (by decide +kernel) ⟨Nat.le_of_ble_eq_true rfl, Nat.le_of_ble_eq_true rfl⟩ (show 0 < 20 by decide) (gM_0 Z _) rfl rfl rfl (Nat.le_of_ble_eq_true rfl) dX12_house_99 ?_
    exact rw_iretS F hf rfl dX12_house_102
  · refine rw_bipush F (v := -10) dX12_house_60 (by decide) ?_
    refine rw_iload_n F dX12_house_62 rfl 1 rfl ?_
    refine rw_isub F dX12_house_63 ?_
    exact rw_iretS F hf rfl dX12_house_64

set_option maxHeartbeats 4000000 in
set_option maxRecDepth 100000 in
theorem b_X12_house_b32 {a : Ax} {Z : Zx} {A : Nat → Prop} {r : (Int32 × (Nat → Nat → Int32))} (F : FX_X12_house a Z A) : ∀ (n : Nat) (i1 : Int32) (f : Nat → Nat → Int32), f_X12_house_b32 n i1 f = some r → WS a (XM Z) A 2 (RP a (XM Z) A (PI r.1 r.2)) 32 [(0, .ref (Z.2.1 0)), (1, .int i1)] [] f := by
  intro n
  induction n with
  | zero => intro i1 f hf; exact nomatch (show (none : Option (Int32 × (Nat → Nat → Int32))) = some r from hf)
  | succ n hK32 =>
    intro i1 f hf
    replace hf : f_X12_house_b32s (f_X12_house_b32 n) i1 f = some r := hf
    unfold f_X12_house_b32s at hf
    refine rw_iload_n F dX12_house_32 rfl 1 rfl ?_
    refine rw_if_ne F (tgt := 51) hf dX12_house_33 (by decide) (fun hc13 hf => ?_) (fun hc13 hf => ?_)
    · exact WS.sub [0, 1] rfl (b_X12_house_b51 F  _ _ hf)
    · refine rw_aload_n F dX12_house_36 rfl 0 rfl ?_
      obtain ⟨q9, hq8, hf⟩ := bind_h hf
      refine rw_callVI F (k0 := 0) (nA := 0) (c_X12_here (aL a) Z  _ _ hq8) gX12_house_X12_here rfl ⟨rfl, rfl⟩ (by decide +kernel) ⟨Nat.le_of_ble_eq_true rfl, Nat.le_of_ble_eq_true rfl⟩ (show 0 < 20 by decide) (gM_0 Z _) rfl rfl rfl (Nat.le_of_ble_eq_true rfl) dX12_house_37 ?_
      refine rw_if_lt F (tgt := 51) hf dX12_house_40 (by decide) (fun hc12 hf => ?_) (fun hc12 hf => ?_)
      · exact WS.sub [0, 1] rfl (b_X12_house_b51 F  _ _ hf)
      · refine rw_aload_n F dX12_house_43 rfl 0 rfl ?_
        obtain ⟨q11, hq10, hf⟩ := bind_h hf
        refine rw_callVI F (k0 := 0) (nA := 0) (c_X12_takeClause (aL a) Z  _ _ hq10) gX12_house_X12_takeClause rfl ⟨rfl, rfl⟩ (by decide +kernel) ⟨Nat.le_of_ble_eq_true rfl, Nat.le_of_ble_eq_true rfl⟩ (show 0 < 20 by decide) (gM_0 Z _) rfl rfl rfl (Nat.le_of_ble_eq_true rfl) dX12_house_44 ?_
        refine rw_istore_n F dX12_house_47 rfl (by decide) rfl ?_
        refine rw_goto F (tgt := 32) dX12_house_48 (by decide) ?_
        exact WS.sub [1, 0] rfl (hK32 _ _ hf)

set_option maxHeartbeats 4000000 in
set_option maxRecDepth 100000 in
theorem c_X12_house (l : Launch) (Z : Zx) (f : Nat → Nat → Int32) (r : (Int32 × (Nat → Nat → Int32))) (hf : f_X12_house f = some r) : MS l (XM Z) yX12_house wsX12_house rm_X12_house [.ref (Z.2.1 0)] f (PI r.1 r.2) := by
  refine MS.of (cc := cX12_house) (maxL := 2) (ret := (some .int)) (own := RX12) (lv := [(0, .ref (Z.2.1 0))]) (by decide) rfl rfl (Nat.le_of_ble_eq_true rfl) rfl ?_
  intro a A hla F
  subst hla
  unfold f_X12_house at hf
  refine rw_aload_n F dX12_house_0 rfl 0 rfl ?_
  refine rw_iconst F (v := -1) dX12_house_1 (by decide) ?_
  refine rw_put F 0 (show 0 < 20 by decide) (gM_0 Z) iw_X12_house_X12 tyX12 tyX12_ok nmX12 rfl 11 (by decide) lk_X12_house_28 rfl rfl rfl (fun _ => by rw [lnM0]; decide) (stM0_11 Z.2.1) dX12_house_2 ?_
  refine rw_aload_n F dX12_house_5 rfl 0 rfl ?_
  refine rw_iconst F (v := 0) dX12_house_6 (by decide) ?_
  refine rw_put F 0 (show 0 < 20 by decide) (gM_0 Z) iw_X12_house_X12 tyX12 tyX12_ok nmX12 rfl 12 (by decide) lk_X12_house_99 rfl rfl rfl (fun _ => by rw [lnM0]; decide) (stM0_12 Z.2.1) dX12_house_7 ?_
  refine rw_aload_n F dX12_house_10 rfl 0 rfl ?_
  refine rw_iconst F (v := 0) dX12_house_11 (by decide) ?_
  refine rw_put F 0 (show 0 < 20 by decide) (gM_0 Z) iw_X12_house_X12 tyX12 tyX12_ok nmX12 rfl 15 (by decide) lk_X12_house_126 rfl rfl rfl (fun _ => by rw [lnM0]; decide) (stM0_15 Z.2.1) dX12_house_12 ?_
  refine rw_aload_n F dX12_house_15 rfl 0 rfl ?_
  refine rw_iconst F (v := -1) dX12_house_16 (by decide) ?_
  refine rw_put F 0 (show 0 < 20 by decide) (gM_0 Z) iw_X12_house_X12 tyX12 tyX12_ok nmX12 rfl 17 (by decide) lk_X12_house_129 rfl rfl rfl (fun _ => by rw [lnM0]; decide) (stM0_17 Z.2.1) dX12_house_17 ?_
  refine rw_aload_n F dX12_house_20 rfl 0 rfl ?_
  refine rw_iconst F (v := 0) dX12_house_21 (by decide) ?_
  refine rw_put F 0 (show 0 < 20 by decide) (gM_0 Z) iw_X12_house_X12 tyX12 tyX12_ok nmX12 rfl 18 (by decide) lk_X12_house_132 rfl rfl rfl (fun _ => by rw [lnM0]; decide) (stM0_18 Z.2.1) dX12_house_22 ?_
  refine rw_aload_n F dX12_house_25 rfl 0 rfl ?_
  refine rw_iconst F (v := 0) dX12_house_26 (by decide) ?_
  refine rw_put F 0 (show 0 < 20 by decide) (gM_0 Z) iw_X12_house_X12 tyX12 tyX12_ok nmX12 rfl 21 (by decide) lk_X12_house_135 rfl rfl rfl (fun _ => by rw [lnM0]; decide) (stM0_21 Z.2.1) dX12_house_27 ?_
  refine rw_iconst F (v := 0) dX12_house_30 (by decide) ?_
  refine rw_istore_n F dX12_house_31 rfl (by decide) rfl ?_
  exact WS.sub [1, 0] rfl (b_X12_house_b32 F  fuB _ _ hf)

abbrev rm_X12_fault : Room := { frames := 0, cells := 0, slots := 0, locals := 0 }
abbrev FX_X12_fault (a : Ax) (Z : Zx) (A : Nat → Prop) : Prop := FX a (XM Z) A cX12_fault RX12 wsX12_fault 1 (some .int) rm_X12_fault
theorem iw_X12_fault_X12 : ∀ w ∈ wsX120, w ∈ wsX12_fault := by decide +kernel
theorem lk_X12_fault_28 : Cond.fieldLink RX12 28 (TX12 11).1 (TX12 11).2.1 (TX12 11).2.2.1 ∈ wsX12_fault := by decide +kernel
set_option maxHeartbeats 4000000 in
set_option maxRecDepth 100000 in
theorem c_X12_fault (l : Launch) (Z : Zx) (f : Nat → Nat → Int32) (r : Int32) (hf : f_X12_fault f = some r) : MS l (XM Z) yX12_fault wsX12_fault rm_X12_fault [.ref (Z.2.1 0)] f (PI r f) := by
  refine MS.of (cc := cX12_fault) (maxL := 1) (ret := (some .int)) (own := RX12) (lv := [(0, .ref (Z.2.1 0))]) (by decide) rfl rfl (Nat.le_of_ble_eq_true rfl) rfl ?_
  intro a A hla F
  subst hla
  unfold f_X12_fault at hf
  refine rw_aload_n F dX12_fault_0 rfl 0 rfl ?_
  refine rw_get F 0 (show 0 < 20 by decide) (gM_0 Z _) iw_X12_fault_X12 rfl 11 (by decide) lk_X12_fault_28 rfl dX12_fault_1 ?_
  exact rw_iret F hf rfl dX12_fault_4

abbrev rm_X12_told : Room := { frames := 1, cells := 0, slots := 0, locals := 20 }
abbrev FX_X12_told (a : Ax) (Z : Zx) (A : Nat → Prop) : Prop := FX a (XM Z) A cX12_told RX12 wsX12_told 2 (some .int) rm_X12_told
theorem iw_X12_told_X12 : ∀ w ∈ wsX120, w ∈ wsX12_told := by decide +kernel
theorem lk_X12_told_22 : Cond.fieldLink RX12 22 (TX12 7).1 (TX12 7).2.1 (TX12 7).2.2.1 ∈ wsX12_told := by decide +kernel
theorem lk_X12_told_86 : Cond.fieldLink RX12 86 (TX12 1).1 (TX12 1).2.1 (TX12 1).2.2.1 ∈ wsX12_told := by decide +kernel
theorem lk_X12_told_89 : Cond.fieldLink RX12 89 (TX12 4).1 (TX12 4).2.1 (TX12 4).2.2.1 ∈ wsX12_told := by decide +kernel
theorem lk_X12_told_95 : Cond.fieldLink RX12 95 (TX12 10).1 (TX12 10).2.1 (TX12 10).2.2.1 ∈ wsX12_told := by decide +kernel
theorem lk_X12_told_156 : Cond.fieldLink RX12 156 (TX12 27).1 (TX12 27).2.1 (TX12 27).2.2.1 ∈ wsX12_told := by decide +kernel
theorem lk_X12_told_159 : Cond.fieldLink RX12 159 (TX12 31).1 (TX12 31).2.1 (TX12 31).2.2.1 ∈ wsX12_told := by decide +kernel
theorem lk_X12_told_162 : Cond.fieldLink RX12 162 (TX12 25).1 (TX12 25).2.1 (TX12 25).2.2.1 ∈ wsX12_told := by decide +kernel
set_option maxHeartbeats 4000000 in
set_option maxRecDepth 100000 in
theorem c_X12_told (l : Launch) (Z : Zx) (p1 : Int32) (f : Nat → Nat → Int32) (r : Int32) (hf : f_X12_told p1 f = some r) : MS l (XM Z) yX12_told wsX12_told rm_X12_told [.ref (Z.2.1 0), .int p1] f (PI r f) := by
  refine MS.of (cc := cX12_told) (maxL := 2) (ret := (some .int)) (own := RX12) (lv := [(0, .ref (Z.2.1 0)), (1, .int p1)]) (by decide) rfl rfl (Nat.le_of_ble_eq_true rfl) rfl ?_
  intro a A hla F
  subst hla
  unfold f_X12_told at hf
  refine rw_iload_n F dX12_told_0 rfl 1 rfl ?_
  rcases if_h hf with ⟨hc1, hf⟩ | ⟨hc1, hf⟩
  · refine rw_tableOut F (tgt := 151) dX12_told_1 (tb_out hc1 rfl rfl) (by decide) ?_
    refine rw_ldc F (v := -1000000002) dX12_told_151 (by decide +kernel) ?_
    exact rw_iret F hf rfl dX12_told_153
  · rcases if_h hf with ⟨he22, hf⟩ | ⟨-, hf⟩
    · refine rw_tableIn F (tgt := 68) dX12_told_1 (by rw [he22]; decide) (by rw [he22]; decide) (by rw [he22]; rfl) (by decide) ?_
      refine rw_aload_n F dX12_told_68 rfl 0 rfl ?_
      obtain ⟨q3, hq2, hf⟩ := bind_h hf
      refine rw_callVI F (k0 := 0) (nA := 0) (c_X12_places (aL a) Z  _ _ hq2) gX12_told_X12_places rfl ⟨rfl, rfl⟩ (by decide +kernel) ⟨Nat.le_of_ble_eq_true rfl, Nat.le_of_ble_eq_true rfl⟩ (show 0 < 20 by decide) (gM_0 Z _) rfl rfl rfl (Nat.le_of_ble_eq_true rfl) dX12_told_69 ?_
      exact rw_iret F hf rfl dX12_told_72
    · rcases if_h hf with ⟨he21, hf⟩ | ⟨-, hf⟩
      · refine rw_tableIn F (tgt := 73) dX12_told_1 (by rw [he21]; decide) (by rw [he21]; decide) (by rw [he21]; rfl) (by decide) ?_
        refine rw_aload_n F dX12_told_73 rfl 0 rfl ?_
        refine rw_get F 0 (show 0 < 20 by decide) (gM_0 Z _) iw_X12_told_X12 rfl 1 (by decide) lk_X12_told_86 rfl dX12_told_74 ?_
        exact rw_iret F hf rfl dX12_told_77
      · rcases if_h hf with ⟨he20, hf⟩ | ⟨-, hf⟩
        · refine rw_tableIn F (tgt := 78) dX12_told_1 (by rw [he20]; decide) (by rw [he20]; decide) (by rw [he20]; rfl) (by decide) ?_
          refine rw_aload_n F dX12_told_78 rfl 0 rfl ?_
          refine rw_get F 0 (show 0 < 20 by decide) (gM_0 Z _) iw_X12_told_X12 rfl 4 (by decide) lk_X12_told_89 rfl dX12_told_79 ?_
          exact rw_iret F hf rfl dX12_told_82
        · rcases if_h hf with ⟨he19, hf⟩ | ⟨-, hf⟩
          · refine rw_tableIn F (tgt := 83) dX12_told_1 (by rw [he19]; decide) (by rw [he19]; decide) (by rw [he19]; rfl) (by decide) ?_
            refine rw_aload_n F dX12_told_83 rfl 0 rfl ?_
            refine rw_get F 0 (show 0 < 20 by decide) (gM_0 Z _) iw_X12_told_X12 rfl 10 (by decide) lk_X12_told_95 rfl dX12_told_84 ?_
            exact rw_iret F hf rfl dX12_told_87
          · rcases if_h hf with ⟨he18, hf⟩ | ⟨-, hf⟩
            · refine rw_tableIn F (tgt := 88) dX12_told_1 (by rw [he18]; decide) (by rw [he18]; decide) (by rw [he18]; rfl) (by decide) ?_
              refine rw_aload_n F dX12_told_88 rfl 0 rfl ?_
              refine rw_get F 0 (show 0 < 20 by decide) (gM_0 Z _) iw_X12_told_X12 rfl 7 (by decide) lk_X12_told_22 rfl dX12_told_89 ?_
              refine rw_bipush F (v := 8) dX12_told_92 (by decide) ?_
              obtain ⟨hi4, hf⟩ := ck_h hf
              refine rw_iald F 5 (show 5 < 20 by decide) (gM_5 Z _) 0 rfl hi4 dX12_told_94 ?_
              exact rw_iret F hf rfl dX12_told_95
            · rcases if_h hf with ⟨he17, hf⟩ | ⟨-, hf⟩
              · refine rw_tableIn F (tgt := 96) dX12_told_1 (by rw [he17]; decide) (by rw [he17]; decide) (by rw [he17]; rfl) (by decide) ?_
                refine rw_aload_n F dX12_told_96 rfl 0 rfl ?_
                refine rw_get F 0 (show 0 < 20 by decide) (gM_0 Z _) iw_X12_told_X12 rfl 7 (by decide) lk_X12_told_22 rfl dX12_told_97 ?_
                refine rw_bipush F (v := 16) dX12_told_100 (by decide) ?_
                obtain ⟨hi5, hf⟩ := ck_h hf
                refine rw_iald F 5 (show 5 < 20 by decide) (gM_5 Z _) 0 rfl hi5 dX12_told_102 ?_
                exact rw_iret F hf rfl dX12_told_103
              · rcases if_h hf with ⟨he16, hf⟩ | ⟨-, hf⟩
                · refine rw_tableIn F (tgt := 104) dX12_told_1 (by rw [he16]; decide) (by rw [he16]; decide) (by rw [he16]; rfl) (by decide) ?_
                  refine rw_aload_n F dX12_told_104 rfl 0 rfl ?_
                  refine rw_get F 0 (show 0 < 20 by decide) (gM_0 Z _) iw_X12_told_X12 rfl 7 (by decide) lk_X12_told_22 rfl dX12_told_105 ?_
                  refine rw_bipush F (v := 17) dX12_told_108 (by decide) ?_
                  obtain ⟨hi6, hf⟩ := ck_h hf
                  refine rw_iald F 5 (show 5 < 20 by decide) (gM_5 Z _) 0 rfl hi6 dX12_told_110 ?_
                  exact rw_iret F hf rfl dX12_told_111
                · rcases if_h hf with ⟨he15, hf⟩ | ⟨-, hf⟩
                  · refine rw_tableIn F (tgt := 112) dX12_told_1 (by rw [he15]; decide) (by rw [he15]; decide) (by rw [he15]; rfl) (by decide) ?_
                    refine rw_aload_n F dX12_told_112 rfl 0 rfl ?_
                    refine rw_get F 0 (show 0 < 20 by decide) (gM_0 Z _) iw_X12_told_X12 rfl 7 (by decide) lk_X12_told_22 rfl dX12_told_113 ?_
                    refine rw_bipush F (v := 18) dX12_told_116 (by decide) ?_
                    obtain ⟨hi7, hf⟩ := ck_h hf
                    refine rw_iald F 5 (show 5 < 20 by decide) (gM_5 Z _) 0 rfl hi7 dX12_told_118 ?_
                    exact rw_iret F hf rfl dX12_told_119
                  · rcases if_h hf with ⟨he14, hf⟩ | ⟨-, hf⟩
                    · refine rw_tableIn F (tgt := 120) dX12_told_1 (by rw [he14]; decide) (by rw [he14]; decide) (by rw [he14]; rfl) (by decide) ?_
                      refine rw_aload_n F dX12_told_120 rfl 0 rfl ?_
                      refine rw_get F 0 (show 0 < 20 by decide) (gM_0 Z _) iw_X12_told_X12 rfl 7 (by decide) lk_X12_told_22 rfl dX12_told_121 ?_
                      refine rw_bipush F (v := 19) dX12_told_124 (by decide) ?_
                      obtain ⟨hi8, hf⟩ := ck_h hf
                      refine rw_iald F 5 (show 5 < 20 by decide) (gM_5 Z _) 0 rfl hi8 dX12_told_126 ?_
                      exact rw_iret F hf rfl dX12_told_127
                    · rcases if_h hf with ⟨he13, hf⟩ | ⟨-, hf⟩
                      · refine rw_tableIn F (tgt := 128) dX12_told_1 (by rw [he13]; decide) (by rw [he13]; decide) (by rw [he13]; rfl) (by decide) ?_
                        refine rw_aload_n F dX12_told_128 rfl 0 rfl ?_
                        refine rw_get F 0 (show 0 < 20 by decide) (gM_0 Z _) iw_X12_told_X12 rfl 7 (by decide) lk_X12_told_22 rfl dX12_told_129 ?_
                        refine rw_bipush F (v := 20) dX12_told_132 (by decide) ?_
                        obtain ⟨hi9, hf⟩ := ck_h hf
                        refine rw_iald F 5 (show 5 < 20 by decide) (gM_5 Z _) 0 rfl hi9 dX12_told_134 ?_
                        exact rw_iret F hf rfl dX12_told_135
                      · rcases if_h hf with ⟨he12, hf⟩ | ⟨-, hf⟩
                        · refine rw_tableIn F (tgt := 136) dX12_told_1 (by rw [he12]; decide) (by rw [he12]; decide) (by rw [he12]; rfl) (by decide) ?_
                          refine rw_aload_n F dX12_told_136 rfl 0 rfl ?_
                          refine rw_get F 0 (show 0 < 20 by decide) (gM_0 Z _) iw_X12_told_X12 rfl 27 (by decide) lk_X12_told_156 rfl dX12_told_137 ?_
                          exact rw_iret F hf rfl dX12_told_140
                        · rcases if_h hf with ⟨he11, hf⟩ | ⟨-, hf⟩
                          · refine rw_tableIn F (tgt := 141) dX12_told_1 (by rw [he11]; decide) (by rw [he11]; decide) (by rw [he11]; rfl) (by decide) ?_
                            refine rw_aload_n F dX12_told_141 rfl 0 rfl ?_
                            refine rw_get F 0 (show 0 < 20 by decide) (gM_0 Z _) iw_X12_told_X12 rfl 31 (by decide) lk_X12_told_159 rfl dX12_told_142 ?_
                            exact rw_iret F hf rfl dX12_told_145
                          · rcases if_h hf with ⟨he10, hf⟩ | ⟨-, hf⟩
                            · refine rw_tableIn F (tgt := 146) dX12_told_1 (by rw [he10]; decide) (by rw [he10]; decide) (by rw [he10]; rfl) (by decide) ?_
                              refine rw_aload_n F dX12_told_146 rfl 0 rfl ?_
                              refine rw_get F 0 (show 0 < 20 by decide) (gM_0 Z _) iw_X12_told_X12 rfl 25 (by decide) lk_X12_told_162 rfl dX12_told_147 ?_
                              exact rw_iret F hf rfl dX12_told_150
                            · exact nomatch hf

abbrev rm_X12_thick : Room := { frames := 1, cells := 0, slots := 0, locals := 25 }
abbrev FX_X12_thick (a : Ax) (Z : Zx) (A : Nat → Prop) : Prop := FX a (XM Z) A cX12_thick RX12 wsX12_thick 2 (some .int) rm_X12_thick
theorem iw_X12_thick_X12 : ∀ w ∈ wsX120, w ∈ wsX12_thick := by decide +kernel
theorem lk_X12_thick_22 : Cond.fieldLink RX12 22 (TX12 7).1 (TX12 7).2.1 (TX12 7).2.2.1 ∈ wsX12_thick := by decide +kernel
theorem lk_X12_thick_75 : Cond.fieldLink RX12 75 (TX12 0).1 (TX12 0).2.1 (TX12 0).2.2.1 ∈ wsX12_thick := by decide +kernel
set_option maxHeartbeats 4000000 in
set_option maxRecDepth 100000 in
theorem c_X12_thick (l : Launch) (Z : Zx) (p1 : Int32) (f : Nat → Nat → Int32) (r : Int32) (hf : f_X12_thick p1 f = some r) : MS l (XM Z) yX12_thick wsX12_thick rm_X12_thick [.ref (Z.2.1 0), .int p1] f (PI r f) := by
  refine MS.of (cc := cX12_thick) (maxL := 2) (ret := (some .int)) (own := RX12) (lv := [(0, .ref (Z.2.1 0)), (1, .int p1)]) (by decide) rfl rfl (Nat.le_of_ble_eq_true rfl) rfl ?_
  intro a A hla F
  subst hla
  unfold f_X12_thick at hf
  refine rw_iload_n F dX12_thick_0 rfl 1 rfl ?_
  refine rw_i2l F dX12_thick_1 ?_
  refine rw_lconst F (v := 0) dX12_thick_2 (by decide) ?_
  refine rw_aload_n F dX12_thick_3 rfl 0 rfl ?_
  refine rw_get F 0 (show 0 < 20 by decide) (gM_0 Z _) iw_X12_thick_X12 rfl 0 (by decide) lk_X12_thick_75 rfl dX12_thick_4 ?_
  refine rw_iconst F (v := 1) dX12_thick_7 (by decide) ?_
  refine rw_isub F dX12_thick_8 ?_
  refine rw_i2l F dX12_thick_9 ?_
  obtain ⟨q2, hq1, hf⟩ := bind_h hf
  refine rw_callSI F (nA := 3) (c_X12_in (aL a) Z _ _ _ _ _ hq1) gX12_thick_X12_in rfl ⟨rfl, rfl⟩ (by decide +kernel) ⟨Nat.le_of_ble_eq_true rfl, Nat.le_of_ble_eq_true rfl⟩ rfl rfl (Nat.le_of_ble_eq_true rfl) dX12_thick_10 ?_
  refine rw_if_eq F (tgt := 25) hf dX12_thick_13 (by decide) (fun hc4 hf => ?_) (fun hc4 hf => ?_)
  · refine rw_ldc F (v := -1000000001) dX12_thick_25 (by decide +kernel) ?_
    exact rw_iret F hf rfl dX12_thick_27
  · refine rw_aload_n F dX12_thick_16 rfl 0 rfl ?_
    refine rw_get F 0 (show 0 < 20 by decide) (gM_0 Z _) iw_X12_thick_X12 rfl 7 (by decide) lk_X12_thick_22 rfl dX12_thick_17 ?_
    refine rw_iload_n F dX12_thick_20 rfl 1 rfl ?_
    obtain ⟨hi3, hf⟩ := ck_h hf
    refine rw_iald F 5 (show 5 < 20 by decide) (gM_5 Z _) 0 rfl hi3 dX12_thick_21 ?_
    refine rw_goto F (tgt := 27) dX12_thick_22 (by decide) ?_
    exact rw_iret F hf rfl dX12_thick_27

abbrev rm_X12_sound : Room := { frames := 2, cells := 0, slots := 0, locals := 46 }
abbrev FX_X12_sound (a : Ax) (Z : Zx) (A : Nat → Prop) : Prop := FX a (XM Z) A cX12_sound RX12 wsX12_sound 3 (some .int) rm_X12_sound
theorem iw_X12_sound_X12 : ∀ w ∈ wsX120, w ∈ wsX12_sound := by decide +kernel
theorem lk_X12_sound_7 : Cond.fieldLink RX12 7 (TX12 2).1 (TX12 2).2.1 (TX12 2).2.2.1 ∈ wsX12_sound := by decide +kernel
theorem lk_X12_sound_13 : Cond.fieldLink RX12 13 (TX12 3).1 (TX12 3).2.1 (TX12 3).2.2.1 ∈ wsX12_sound := by decide +kernel
set_option maxHeartbeats 4000000 in
set_option maxRecDepth 100000 in
theorem c_X12_sound (l : Launch) (Z : Zx) (p1 : Int32) (p2 : Int32) (f : Nat → Nat → Int32) (r : Int32) (hf : f_X12_sound p1 p2 f = some r) : MS l (XM Z) yX12_sound wsX12_sound rm_X12_sound [.ref (Z.2.1 0), .int p1, .int p2] f (PI r f) := by
  refine MS.of (cc := cX12_sound) (maxL := 3) (ret := (some .int)) (own := RX12) (lv := [(0, .ref (Z.2.1 0)), (1, .int p1), (2, .int p2)]) (by decide) rfl rfl (Nat.le_of_ble_eq_true rfl) rfl ?_
  intro a A hla F
  subst hla
  unfold f_X12_sound at hf
  refine rw_aload_n F dX12_sound_0 rfl 0 rfl ?_
  refine rw_iload_n F dX12_sound_1 rfl 1 rfl ?_
  obtain ⟨q2, hq1, hf⟩ := bind_h hf
  refine rw_callVI F (k0 := 0) (nA := 1) (c_X12_isSound (aL a) Z _ _ _ hq1) gX12_sound_X12_isSound rfl ⟨rfl, rfl⟩ (by decide +kernel) ⟨Nat.le_of_ble_eq_true rfl, Nat.le_of_ble_eq_true rfl⟩ (show 0 < 20 by decide) (gM_0 Z _) rfl rfl rfl (Nat.le_of_ble_eq_true rfl) dX12_sound_2 ?_
  refine rw_if_ne F (tgt := 11) hf dX12_sound_5 (by decide) (fun hc7 hf => ?_) (fun hc7 hf => ?_)
  · refine rw_iload_n F dX12_sound_11 rfl 2 rfl ?_
    refine rw_if_ne F (tgt := 24) hf dX12_sound_12 (by decide) (fun hc6 hf => ?_) (fun hc6 hf => ?_)
    · refine rw_iload_n F dX12_sound_24 rfl 2 rfl ?_
      refine rw_iconst F (v := 1) dX12_sound_25 (by decide) ?_
      refine rw_icmp_ne F (tgt := 38) hf dX12_sound_26 (by decide) (fun hc4 hf => ?_) (fun hc4 hf => ?_)
      · refine rw_ldc F (v := -1000000002) dX12_sound_38 (by decide +kernel) ?_
        exact rw_iret F hf rfl dX12_sound_40
      · refine rw_aload_n F dX12_sound_29 rfl 0 rfl ?_
        refine rw_get F 0 (show 0 < 20 by decide) (gM_0 Z _) iw_X12_sound_X12 rfl 3 (by decide) lk_X12_sound_13 rfl dX12_sound_30 ?_
        refine rw_iload_n F dX12_sound_33 rfl 1 rfl ?_
        obtain ⟨hi3, hf⟩ := ck_h hf
        refine rw_iald F 2 (show 2 < 20 by decide) (gM_2 Z _) 0 rfl hi3 dX12_sound_34 ?_
        refine rw_goto F (tgt := 40) dX12_sound_35 (by decide) ?_
        exact rw_iret F hf rfl dX12_sound_40
    · refine rw_aload_n F dX12_sound_15 rfl 0 rfl ?_
      refine rw_get F 0 (show 0 < 20 by decide) (gM_0 Z _) iw_X12_sound_X12 rfl 2 (by decide) lk_X12_sound_7 rfl dX12_sound_16 ?_
      refine rw_iload_n F dX12_sound_19 rfl 1 rfl ?_
      obtain ⟨hi5, hf⟩ := ck_h hf
      refine rw_iald F 1 (show 1 < 20 by decide) (gM_1 Z _) 0 rfl hi5 dX12_sound_20 ?_
      refine rw_goto F (tgt := 40) dX12_sound_21 (by decide) ?_
      exact rw_iret F hf rfl dX12_sound_40
  · refine rw_ldc F (v := -1000000001) dX12_sound_8 (by decide +kernel) ?_
    exact rw_iret F hf rfl dX12_sound_10

abbrev rm_X12_witness : Room := { frames := 2, cells := 0, slots := 0, locals := 46 }
abbrev FX_X12_witness (a : Ax) (Z : Zx) (A : Nat → Prop) : Prop := FX a (XM Z) A cX12_witness RX12 wsX12_witness 3 (some .int) rm_X12_witness
theorem iw_X12_witness_X12 : ∀ w ∈ wsX120, w ∈ wsX12_witness := by decide +kernel
theorem lk_X12_witness_16 : Cond.fieldLink RX12 16 (TX12 5).1 (TX12 5).2.1 (TX12 5).2.2.1 ∈ wsX12_witness := by decide +kernel
theorem lk_X12_witness_19 : Cond.fieldLink RX12 19 (TX12 6).1 (TX12 6).2.1 (TX12 6).2.2.1 ∈ wsX12_witness := by decide +kernel
theorem lk_X12_witness_22 : Cond.fieldLink RX12 22 (TX12 7).1 (TX12 7).2.1 (TX12 7).2.2.1 ∈ wsX12_witness := by decide +kernel
set_option maxHeartbeats 4000000 in
set_option maxRecDepth 100000 in
theorem c_X12_witness (l : Launch) (Z : Zx) (p1 : Int32) (p2 : Int32) (f : Nat → Nat → Int32) (r : Int32) (hf : f_X12_witness p1 p2 f = some r) : MS l (XM Z) yX12_witness wsX12_witness rm_X12_witness [.ref (Z.2.1 0), .int p1, .int p2] f (PI r f) := by
  refine MS.of (cc := cX12_witness) (maxL := 3) (ret := (some .int)) (own := RX12) (lv := [(0, .ref (Z.2.1 0)), (1, .int p1), (2, .int p2)]) (by decide) rfl rfl (Nat.le_of_ble_eq_true rfl) rfl ?_
  intro a A hla F
  subst hla
  unfold f_X12_witness at hf
  refine rw_aload_n F dX12_witness_0 rfl 0 rfl ?_
  refine rw_iload_n F dX12_witness_1 rfl 1 rfl ?_
  obtain ⟨q2, hq1, hf⟩ := bind_h hf
  refine rw_callVI F (k0 := 0) (nA := 1) (c_X12_isWitness (aL a) Z _ _ _ hq1) gX12_witness_X12_isWitness rfl ⟨rfl, rfl⟩ (by decide +kernel) ⟨Nat.le_of_ble_eq_true rfl, Nat.le_of_ble_eq_true rfl⟩ (show 0 < 20 by decide) (gM_0 Z _) rfl rfl rfl (Nat.le_of_ble_eq_true rfl) dX12_witness_2 ?_
  refine rw_if_ne F (tgt := 11) hf dX12_witness_5 (by decide) (fun hc12 hf => ?_) (fun hc12 hf => ?_)
  · refine rw_iload_n F dX12_witness_11 rfl 2 rfl ?_
    rcases if_h hf with ⟨hc3, hf⟩ | ⟨hc3, hf⟩
    · refine rw_tableOut F (tgt := 78) dX12_witness_12 (tb_out hc3 rfl rfl) (by decide) ?_
      refine rw_ldc F (v := -1000000002) dX12_witness_78 (by decide +kernel) ?_
      exact rw_iret F hf rfl dX12_witness_80
    · rcases if_h hf with ⟨he11, hf⟩ | ⟨-, hf⟩
      · refine rw_tableIn F (tgt := 44) dX12_witness_12 (by rw [he11]; decide) (by rw [he11]; decide) (by rw [he11]; rfl) (by decide) ?_
        refine rw_aload_n F dX12_witness_44 rfl 0 rfl ?_
        refine rw_get F 0 (show 0 < 20 by decide) (gM_0 Z _) iw_X12_witness_X12 rfl 7 (by decide) lk_X12_witness_22 rfl dX12_witness_45 ?_
        refine rw_bipush F (v := 9) dX12_witness_48 (by decide) ?_
        refine rw_iload_n F dX12_witness_50 rfl 1 rfl ?_
        refine rw_iadd F dX12_witness_51 ?_
        obtain ⟨hi4, hf⟩ := ck_h hf
        refine rw_iald F 5 (show 5 < 20 by decide) (gM_5 Z _) 0 rfl hi4 dX12_witness_52 ?_
        exact rw_iret F hf rfl dX12_witness_53
      · rcases if_h hf with ⟨he10, hf⟩ | ⟨-, hf⟩
        · refine rw_tableIn F (tgt := 54) dX12_witness_12 (by rw [he10]; decide) (by rw [he10]; decide) (by rw [he10]; rfl) (by decide) ?_
          refine rw_aload_n F dX12_witness_54 rfl 0 rfl ?_
          refine rw_get F 0 (show 0 < 20 by decide) (gM_0 Z _) iw_X12_witness_X12 rfl 5 (by decide) lk_X12_witness_16 rfl dX12_witness_55 ?_
          refine rw_iload_n F dX12_witness_58 rfl 1 rfl ?_
          obtain ⟨hi5, hf⟩ := ck_h hf
          refine rw_iald F 3 (show 3 < 20 by decide) (gM_3 Z _) 0 rfl hi5 dX12_witness_59 ?_
          exact rw_iret F hf rfl dX12_witness_60
        · rcases if_h hf with ⟨he9, hf⟩ | ⟨-, hf⟩
          · refine rw_tableIn F (tgt := 61) dX12_witness_12 (by rw [he9]; decide) (by rw [he9]; decide) (by rw [he9]; rfl) (by decide) ?_
            refine rw_aload_n F dX12_witness_61 rfl 0 rfl ?_
            refine rw_get F 0 (show 0 < 20 by decide) (gM_0 Z _) iw_X12_witness_X12 rfl 6 (by decide) lk_X12_witness_19 rfl dX12_witness_62 ?_
            refine rw_iload_n F dX12_witness_65 rfl 1 rfl ?_
            obtain ⟨hi6, hf⟩ := ck_h hf
            refine rw_iald F 4 (show 4 < 20 by decide) (gM_4 Z _) 0 rfl hi6 dX12_witness_66 ?_
            exact rw_iret F hf rfl dX12_witness_67
          · rcases if_h hf with ⟨he8, hf⟩ | ⟨-, hf⟩
            · refine rw_tableIn F (tgt := 68) dX12_witness_12 (by rw [he8]; decide) (by rw [he8]; decide) (by rw [he8]; rfl) (by decide) ?_
              refine rw_aload_n F dX12_witness_68 rfl 0 rfl ?_
              refine rw_get F 0 (show 0 < 20 by decide) (gM_0 Z _) iw_X12_witness_X12 rfl 7 (by decide) lk_X12_witness_22 rfl dX12_witness_69 ?_
              refine rw_bipush F (v := 21) dX12_witness_72 (by decide) ?_
              refine rw_iload_n F dX12_witness_74 rfl 1 rfl ?_
              refine rw_iadd F dX12_witness_75 ?_
              obtain ⟨hi7, hf⟩ := ck_h hf
              refine rw_iald F 5 (show 5 < 20 by decide) (gM_5 Z _) 0 rfl hi7 dX12_witness_76 ?_
              exact rw_iret F hf rfl dX12_witness_77
            · exact nomatch hf
  · refine rw_ldc F (v := -1000000001) dX12_witness_8 (by decide +kernel) ?_
    exact rw_iret F hf rfl dX12_witness_10

abbrev rm_X12_loudAt : Room := { frames := 0, cells := 0, slots := 0, locals := 0 }
abbrev FX_X12_loudAt (a : Ax) (Z : Zx) (A : Nat → Prop) : Prop := FX a (XM Z) A cX12_loudAt RX12 wsX12_loudAt 8 (some .int) rm_X12_loudAt
theorem iw_X12_loudAt_X12 : ∀ w ∈ wsX120, w ∈ wsX12_loudAt := by decide +kernel
theorem lk_X12_loudAt_7 : Cond.fieldLink RX12 7 (TX12 2).1 (TX12 2).2.1 (TX12 2).2.2.1 ∈ wsX12_loudAt := by decide +kernel
theorem lk_X12_loudAt_22 : Cond.fieldLink RX12 22 (TX12 7).1 (TX12 7).2.1 (TX12 7).2.2.1 ∈ wsX12_loudAt := by decide +kernel
set_option maxHeartbeats 4000000 in
set_option maxRecDepth 100000 in
theorem b_X12_loudAt_b57 {a : Ax} {Z : Zx} {A : Nat → Prop} {r : Int32} {f : Nat → Nat → Int32} (F : FX_X12_loudAt a Z A) : ∀ (n : Nat) (i5 : Int32) (i6 : Int32) (i7 : Int32), f_X12_loudAt_b57 n i5 i6 i7 f = some r → WS a (XM Z) A 8 (RP a (XM Z) A (PI r f)) 57 [(0, .ref (Z.2.1 0)), (5, .int i5), (6, .int i6), (7, .int i7)] [] f := by
  intro n
  induction n with
  | zero => intro i5 i6 i7 hf; exact nomatch (show (none : Option Int32) = some r from hf)
  | succ n hK57 =>
    intro i5 i6 i7 hf
    replace hf : f_X12_loudAt_b57s (fun i5 i6 i7 => f_X12_loudAt_b57 n i5 i6 i7 f) i5 i6 i7 f = some r := hf
    unfold f_X12_loudAt_b57s at hf
    refine rw_iload F dX12_loudAt_57 3 rfl ?_
    refine rw_iload F dX12_loudAt_59 1 rfl ?_
    refine rw_icmp_ge F (tgt := 82) hf dX12_loudAt_61 (by decide) (fun hc4 hf => ?_) (fun hc4 hf => ?_)
    · refine rw_iload F dX12_loudAt_82 2 rfl ?_
      exact rw_iret F hf rfl dX12_loudAt_84
    · refine rw_iload F dX12_loudAt_64 2 rfl ?_
      refine rw_aload_n F dX12_loudAt_66 rfl 0 rfl ?_
      refine rw_get F 0 (show 0 < 20 by decide) (gM_0 Z _) iw_X12_loudAt_X12 rfl 7 (by decide) lk_X12_loudAt_22 rfl dX12_loudAt_67 ?_
      refine rw_iload F dX12_loudAt_70 3 rfl ?_
      obtain ⟨hi3, hf⟩ := ck_h hf
      refine rw_iald F 5 (show 5 < 20 by decide) (gM_5 Z _) 0 rfl hi3 dX12_loudAt_72 ?_
      refine rw_isub F dX12_loudAt_73 ?_
      refine rw_istore F dX12_loudAt_74 (by decide) rfl ?_
      refine rw_iinc F (v := 1) dX12_loudAt_76 3 rfl (by decide) (by decide) rfl ?_
      refine rw_goto F (tgt := 57) dX12_loudAt_79 (by decide) ?_
      exact WS.sub [2, 3, 1, 0] rfl (hK57 _ _ _ hf)

set_option maxHeartbeats 4000000 in
set_option maxRecDepth 100000 in
theorem b_X12_loudAt_b22 {a : Ax} {Z : Zx} {A : Nat → Prop} {r : Int32} {f : Nat → Nat → Int32} (F : FX_X12_loudAt a Z A) : ∀ (i1 : Int32) (i2 : Int32) (i3 : Int32) (i4 : Int32) (s0 : Int32), f_X12_loudAt_b22 i1 i2 i3 i4 s0 f = some r → WS a (XM Z) A 8 (RP a (XM Z) A (PI r f)) 22 [(0, .ref (Z.2.1 0)), (1, .int i1), (2, .int i2), (3, .int i3), (4, .int i4)] [.int s0] f := by
  intro i1 i2 i3 i4 s0 hf
  unfold f_X12_loudAt_b22 at hf
  refine rw_istore F dX12_loudAt_22 (by decide) rfl ?_
  refine rw_aload_n F dX12_loudAt_24 rfl 1 rfl ?_
  refine rw_get F 0 (show 0 < 20 by decide) (gM_0 Z _) iw_X12_loudAt_X12 rfl 2 (by decide) lk_X12_loudAt_7 rfl dX12_loudAt_25 ?_
  refine rw_iload_n F dX12_loudAt_28 rfl 2 rfl ?_
  obtain ⟨hi1, hf⟩ := ck_h hf
  refine rw_iald F 1 (show 1 < 20 by decide) (gM_1 Z _) 0 rfl hi1 dX12_loudAt_29 ?_
  refine rw_iload F dX12_loudAt_30 0 rfl ?_
  refine rw_iload F dX12_loudAt_32 5 rfl ?_
  refine rw_isub F dX12_loudAt_34 ?_
  refine rw_isub F dX12_loudAt_35 ?_
  refine rw_aload_n F dX12_loudAt_36 rfl 1 rfl ?_
  refine rw_get F 0 (show 0 < 20 by decide) (gM_0 Z _) iw_X12_loudAt_X12 rfl 7 (by decide) lk_X12_loudAt_22 rfl dX12_loudAt_37 ?_
  refine rw_bipush F (v := 8) dX12_loudAt_40 (by decide) ?_
  obtain ⟨hi2, hf⟩ := ck_h hf
  refine rw_iald F 5 (show 5 < 20 by decide) (gM_5 Z _) 0 rfl hi2 dX12_loudAt_42 ?_
  refine rw_bipush F (v := 9) dX12_loudAt_43 (by decide) ?_
  refine rw_isub F dX12_loudAt_45 ?_
  refine rw_iload_n F dX12_loudAt_46 rfl 4 rfl ?_
  refine rw_iload_n F dX12_loudAt_47 rfl 3 rfl ?_
  refine rw_isub F dX12_loudAt_48 ?_
  refine rw_imul F dX12_loudAt_49 ?_
  refine rw_iadd F dX12_loudAt_50 ?_
  refine rw_istore F dX12_loudAt_51 (by decide) rfl ?_
  refine rw_iload F dX12_loudAt_53 6 rfl ?_
  refine rw_istore F dX12_loudAt_55 (by decide) rfl ?_
  exact WS.sub [3, 2, 1, 0] rfl (b_X12_loudAt_b57 F  fuB _ _ _ hf)

set_option maxHeartbeats 4000000 in
set_option maxRecDepth 100000 in
theorem b_X12_loudAt_b10 {a : Ax} {Z : Zx} {A : Nat → Prop} {r : Int32} {f : Nat → Nat → Int32} (F : FX_X12_loudAt a Z A) : ∀ (i1 : Int32) (i2 : Int32) (i3 : Int32) (s0 : Int32), f_X12_loudAt_b10 i1 i2 i3 s0 f = some r → WS a (XM Z) A 8 (RP a (XM Z) A (PI r f)) 10 [(0, .ref (Z.2.1 0)), (1, .int i1), (2, .int i2), (3, .int i3)] [.int s0] f := by
  intro i1 i2 i3 s0 hf
  unfold f_X12_loudAt_b10 at hf
  refine rw_istore F dX12_loudAt_10 (by decide) rfl ?_
  refine rw_iload_n F dX12_loudAt_12 rfl 3 rfl ?_
  refine rw_iload_n F dX12_loudAt_13 rfl 4 rfl ?_
  refine rw_icmp_ge F (tgt := 21) hf dX12_loudAt_14 (by decide) (fun hc5 hf => ?_) (fun hc5 hf => ?_)
  · refine rw_iload_n F dX12_loudAt_21 rfl 3 rfl ?_
    exact WS.sub [1, 2, 3, 4, 0] rfl (b_X12_loudAt_b22 F  _ _ _ _ _ hf)
  · refine rw_iload_n F dX12_loudAt_17 rfl 4 rfl ?_
    refine rw_goto F (tgt := 22) dX12_loudAt_18 (by decide) ?_
    exact WS.sub [1, 2, 3, 4, 0] rfl (b_X12_loudAt_b22 F  _ _ _ _ _ hf)

set_option maxHeartbeats 4000000 in
set_option maxRecDepth 100000 in
theorem c_X12_loudAt (l : Launch) (Z : Zx) (p1 : Int32) (p2 : Int32) (p3 : Int32) (f : Nat → Nat → Int32) (r : Int32) (hf : f_X12_loudAt p1 p2 p3 f = some r) : MS l (XM Z) yX12_loudAt wsX12_loudAt rm_X12_loudAt [.ref (Z.2.1 0), .int p1, .int p2, .int p3] f (PI r f) := by
  refine MS.of (cc := cX12_loudAt) (maxL := 8) (ret := (some .int)) (own := RX12) (lv := [(0, .ref (Z.2.1 0)), (1, .int p1), (2, .int p2), (3, .int p3)]) (by decide) rfl rfl (Nat.le_of_ble_eq_true rfl) rfl ?_
  intro a A hla F
  subst hla
  unfold f_X12_loudAt at hf
  refine rw_iload_n F dX12_loudAt_0 rfl 2 rfl ?_
  refine rw_iload_n F dX12_loudAt_1 rfl 3 rfl ?_
  refine rw_icmp_ge F (tgt := 9) hf dX12_loudAt_2 (by decide) (fun hc6 hf => ?_) (fun hc6 hf => ?_)
  · refine rw_iload_n F dX12_loudAt_9 rfl 3 rfl ?_
    exact WS.sub [0, 1, 2, 3] rfl (b_X12_loudAt_b10 F  _ _ _ _ hf)
  · refine rw_iload_n F dX12_loudAt_5 rfl 2 rfl ?_
    refine rw_goto F (tgt := 10) dX12_loudAt_6 (by decide) ?_
    exact WS.sub [0, 1, 2, 3] rfl (b_X12_loudAt_b10 F  _ _ _ _ hf)

