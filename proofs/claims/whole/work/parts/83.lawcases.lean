/-! The law, case by case; its loop -/
set_option maxHeartbeats 4000000 in
set_option maxRecDepth 100000 in
theorem law_feed {a : Ax} {ZA ZB : Zx} {A : Nat → Prop} {Q : State → Prop} {b L : Nat} {xs : Nat → Int32} (F : FW a (XC ZA) (XM ZB) A b L xs) {Rel : (Nat → Nat → Int32) → (Nat → Nat → Int32) → Prop} (hS : Sim_feed Rel) {ks ns : Nat} (hf : ks ≤ room_1.cells ∧ ns ≤ room_1.slots) {f g : Nat → Nat → Int32} (hR : Rel f g) {i : Int32} (h1 : vp_in (i + 1) L) (h2 : vp_in (i + 2) L) (h3 : vp_in (i + 3) L) (h4 : vp_in (i + 4) L) (h5 : vp_in (i + 5) L) (hk : ∀ f' g' : Nat → Nat → Int32, Rel f' g' → LW a (XC ZA) (XM ZB) A Q ks ns 1162 [(0, .ref b), (1, .ref (ZA.2.1 0)), (2, .ref (ZB.2.1 0)), (3, .int i)] [] f' g') : LW a (XC ZA) (XM ZB) A Q ks ns 184 [(0, .ref b), (1, .ref (ZA.2.1 0)), (2, .ref (ZB.2.1 0)), (3, .int i)] [] f g := by
  refine lw_aload_n F dL_law_184 rfl 1 rfl ?_
  refine lw_aload_n F dL_law_185 rfl 0 rfl ?_
  refine lw_iload_n F dL_law_186 rfl 3 rfl ?_
  refine lw_iconst F (v := 1) dL_law_187 (by decide) ?_
  refine lw_iadd F dL_law_188 ?_
  refine lw_sld F h1 dL_law_189 ?_
  obtain ⟨r, f1, g1, ha, hb, hR1⟩ := hS f g hR (xs (i + 1).toNatClampNeg)
  refine lw_callA F (r := r) (f' := f1) (nA := 1) 0 (c_X11_feed (aL a) ZA _ _ (r, f1) ha) gL_law_X11_feed rfl ⟨rfl, rfl⟩ (by decide +kernel) ⟨Nat.le_of_ble_eq_true rfl, Nat.le_of_ble_eq_true rfl⟩ (show 0 < 39 by decide) (gC_0 ZA _) rfl rfl rfl (Nat.le_of_ble_eq_true rfl) dL_law_190 hf ?_
  refine lw_aload_n F dL_law_193 rfl 2 rfl ?_
  refine lw_aload_n F dL_law_194 rfl 0 rfl ?_
  refine lw_iload_n F dL_law_195 rfl 3 rfl ?_
  refine lw_iconst F (v := 1) dL_law_196 (by decide) ?_
  refine lw_iadd F dL_law_197 ?_
  refine lw_sld F h1 dL_law_198 ?_
  refine lw_callB F (r := r) (g' := g1) (nA := 1) 0 (c_X12_feed (aL a) ZB _ _ (r, g1) hb) gL_law_X12_feed rfl ⟨rfl, rfl⟩ (by decide +kernel) ⟨Nat.le_of_ble_eq_true rfl, Nat.le_of_ble_eq_true rfl⟩ (show 0 < 20 by decide) (gM_0 ZB _) rfl rfl rfl (Nat.le_of_ble_eq_true rfl) dL_law_199 hf ?_
  refine lw_eq F (tgt := 1162) rfl dL_law_202 (by decide) ?_
  exact hk f1 g1 hR1
set_option maxHeartbeats 4000000 in
set_option maxRecDepth 100000 in
theorem law_house {a : Ax} {ZA ZB : Zx} {A : Nat → Prop} {Q : State → Prop} {b L : Nat} {xs : Nat → Int32} (F : FW a (XC ZA) (XM ZB) A b L xs) {Rel : (Nat → Nat → Int32) → (Nat → Nat → Int32) → Prop} (hS : Sim_house Rel) {ks ns : Nat} (hf : ks ≤ room_1.cells ∧ ns ≤ room_1.slots) {f g : Nat → Nat → Int32} (hR : Rel f g) {i : Int32} (h1 : vp_in (i + 1) L) (h2 : vp_in (i + 2) L) (h3 : vp_in (i + 3) L) (h4 : vp_in (i + 4) L) (h5 : vp_in (i + 5) L) (hk : ∀ f' g' : Nat → Nat → Int32, Rel f' g' → LW a (XC ZA) (XM ZB) A Q ks ns 1162 [(0, .ref b), (1, .ref (ZA.2.1 0)), (2, .ref (ZB.2.1 0)), (3, .int i)] [] f' g') : LW a (XC ZA) (XM ZB) A Q ks ns 207 [(0, .ref b), (1, .ref (ZA.2.1 0)), (2, .ref (ZB.2.1 0)), (3, .int i)] [] f g := by
  refine lw_aload_n F dL_law_207 rfl 1 rfl ?_
  obtain ⟨r, f1, g1, ha, hb, hR1⟩ := hS f g hR
  refine lw_callA F (r := r) (f' := f1) (nA := 0) 0 (c_X11_house (aL a) ZA  _ (r, f1) ha) gL_law_X11_house rfl ⟨rfl, rfl⟩ (by decide +kernel) ⟨Nat.le_of_ble_eq_true rfl, Nat.le_of_ble_eq_true rfl⟩ (show 0 < 39 by decide) (gC_0 ZA _) rfl rfl rfl (Nat.le_of_ble_eq_true rfl) dL_law_208 hf ?_
  refine lw_aload_n F dL_law_211 rfl 2 rfl ?_
  refine lw_callB F (r := r) (g' := g1) (nA := 0) 0 (c_X12_house (aL a) ZB  _ (r, g1) hb) gL_law_X12_house rfl ⟨rfl, rfl⟩ (by decide +kernel) ⟨Nat.le_of_ble_eq_true rfl, Nat.le_of_ble_eq_true rfl⟩ (show 0 < 20 by decide) (gM_0 ZB _) rfl rfl rfl (Nat.le_of_ble_eq_true rfl) dL_law_212 hf ?_
  refine lw_eq F (tgt := 1162) rfl dL_law_215 (by decide) ?_
  exact hk f1 g1 hR1
set_option maxHeartbeats 4000000 in
set_option maxRecDepth 100000 in
theorem law_fault {a : Ax} {ZA ZB : Zx} {A : Nat → Prop} {Q : State → Prop} {b L : Nat} {xs : Nat → Int32} (F : FW a (XC ZA) (XM ZB) A b L xs) {Rel : (Nat → Nat → Int32) → (Nat → Nat → Int32) → Prop} (hS : Sim_fault Rel) {ks ns : Nat} (hf : ks ≤ room_1.cells ∧ ns ≤ room_1.slots) {f g : Nat → Nat → Int32} (hR : Rel f g) {i : Int32} (h1 : vp_in (i + 1) L) (h2 : vp_in (i + 2) L) (h3 : vp_in (i + 3) L) (h4 : vp_in (i + 4) L) (h5 : vp_in (i + 5) L) (hk : ∀ f' g' : Nat → Nat → Int32, Rel f' g' → LW a (XC ZA) (XM ZB) A Q ks ns 1162 [(0, .ref b), (1, .ref (ZA.2.1 0)), (2, .ref (ZB.2.1 0)), (3, .int i)] [] f' g') : LW a (XC ZA) (XM ZB) A Q ks ns 220 [(0, .ref b), (1, .ref (ZA.2.1 0)), (2, .ref (ZB.2.1 0)), (3, .int i)] [] f g := by
  refine lw_aload_n F dL_law_220 rfl 1 rfl ?_
  obtain ⟨r, f1, g1, ha, hb, hR1⟩ := hS f g hR
  obtain ⟨ha, hfa⟩ := ha
  obtain ⟨hb, hgb⟩ := hb
  subst hfa
  subst hgb
  refine lw_callA F (r := r) (f' := f1) (nA := 0) 0 (c_X11_fault (aL a) ZA  _ r ha) gL_law_X11_fault rfl ⟨rfl, rfl⟩ (by decide +kernel) ⟨Nat.le_of_ble_eq_true rfl, Nat.le_of_ble_eq_true rfl⟩ (show 0 < 39 by decide) (gC_0 ZA _) rfl rfl rfl (Nat.le_of_ble_eq_true rfl) dL_law_221 hf ?_
  refine lw_aload_n F dL_law_224 rfl 2 rfl ?_
  refine lw_callB F (r := r) (g' := g1) (nA := 0) 0 (c_X12_fault (aL a) ZB  _ r hb) gL_law_X12_fault rfl ⟨rfl, rfl⟩ (by decide +kernel) ⟨Nat.le_of_ble_eq_true rfl, Nat.le_of_ble_eq_true rfl⟩ (show 0 < 20 by decide) (gM_0 ZB _) rfl rfl rfl (Nat.le_of_ble_eq_true rfl) dL_law_225 hf ?_
  refine lw_eq F (tgt := 1162) rfl dL_law_228 (by decide) ?_
  exact hk f1 g1 hR1
set_option maxHeartbeats 4000000 in
set_option maxRecDepth 100000 in
theorem law_told {a : Ax} {ZA ZB : Zx} {A : Nat → Prop} {Q : State → Prop} {b L : Nat} {xs : Nat → Int32} (F : FW a (XC ZA) (XM ZB) A b L xs) {Rel : (Nat → Nat → Int32) → (Nat → Nat → Int32) → Prop} (hS : Sim_told Rel) {ks ns : Nat} (hf : ks ≤ room_1.cells ∧ ns ≤ room_1.slots) {f g : Nat → Nat → Int32} (hR : Rel f g) {i : Int32} (h1 : vp_in (i + 1) L) (h2 : vp_in (i + 2) L) (h3 : vp_in (i + 3) L) (h4 : vp_in (i + 4) L) (h5 : vp_in (i + 5) L) (hk : ∀ f' g' : Nat → Nat → Int32, Rel f' g' → LW a (XC ZA) (XM ZB) A Q ks ns 1162 [(0, .ref b), (1, .ref (ZA.2.1 0)), (2, .ref (ZB.2.1 0)), (3, .int i)] [] f' g') : LW a (XC ZA) (XM ZB) A Q ks ns 233 [(0, .ref b), (1, .ref (ZA.2.1 0)), (2, .ref (ZB.2.1 0)), (3, .int i)] [] f g := by
  refine lw_aload_n F dL_law_233 rfl 1 rfl ?_
  refine lw_aload_n F dL_law_234 rfl 0 rfl ?_
  refine lw_iload_n F dL_law_235 rfl 3 rfl ?_
  refine lw_iconst F (v := 1) dL_law_236 (by decide) ?_
  refine lw_iadd F dL_law_237 ?_
  refine lw_sld F h1 dL_law_238 ?_
  obtain ⟨r, f1, g1, ha, hb, hR1⟩ := hS f g hR (xs (i + 1).toNatClampNeg)
  obtain ⟨ha, hfa⟩ := ha
  obtain ⟨hb, hgb⟩ := hb
  subst hfa
  subst hgb
  refine lw_callA F (r := r) (f' := f1) (nA := 1) 0 (c_X11_told (aL a) ZA _ _ r ha) gL_law_X11_told rfl ⟨rfl, rfl⟩ (by decide +kernel) ⟨Nat.le_of_ble_eq_true rfl, Nat.le_of_ble_eq_true rfl⟩ (show 0 < 39 by decide) (gC_0 ZA _) rfl rfl rfl (Nat.le_of_ble_eq_true rfl) dL_law_239 hf ?_
  refine lw_aload_n F dL_law_242 rfl 2 rfl ?_
  refine lw_aload_n F dL_law_243 rfl 0 rfl ?_
  refine lw_iload_n F dL_law_244 rfl 3 rfl ?_
  refine lw_iconst F (v := 1) dL_law_245 (by decide) ?_
  refine lw_iadd F dL_law_246 ?_
  refine lw_sld F h1 dL_law_247 ?_
  refine lw_callB F (r := r) (g' := g1) (nA := 1) 0 (c_X12_told (aL a) ZB _ _ r hb) gL_law_X12_told rfl ⟨rfl, rfl⟩ (by decide +kernel) ⟨Nat.le_of_ble_eq_true rfl, Nat.le_of_ble_eq_true rfl⟩ (show 0 < 20 by decide) (gM_0 ZB _) rfl rfl rfl (Nat.le_of_ble_eq_true rfl) dL_law_248 hf ?_
  refine lw_eq F (tgt := 1162) rfl dL_law_251 (by decide) ?_
  exact hk f1 g1 hR1
set_option maxHeartbeats 4000000 in
set_option maxRecDepth 100000 in
theorem law_thick {a : Ax} {ZA ZB : Zx} {A : Nat → Prop} {Q : State → Prop} {b L : Nat} {xs : Nat → Int32} (F : FW a (XC ZA) (XM ZB) A b L xs) {Rel : (Nat → Nat → Int32) → (Nat → Nat → Int32) → Prop} (hS : Sim_thick Rel) {ks ns : Nat} (hf : ks ≤ room_1.cells ∧ ns ≤ room_1.slots) {f g : Nat → Nat → Int32} (hR : Rel f g) {i : Int32} (h1 : vp_in (i + 1) L) (h2 : vp_in (i + 2) L) (h3 : vp_in (i + 3) L) (h4 : vp_in (i + 4) L) (h5 : vp_in (i + 5) L) (hk : ∀ f' g' : Nat → Nat → Int32, Rel f' g' → LW a (XC ZA) (XM ZB) A Q ks ns 1162 [(0, .ref b), (1, .ref (ZA.2.1 0)), (2, .ref (ZB.2.1 0)), (3, .int i)] [] f' g') : LW a (XC ZA) (XM ZB) A Q ks ns 256 [(0, .ref b), (1, .ref (ZA.2.1 0)), (2, .ref (ZB.2.1 0)), (3, .int i)] [] f g := by
  refine lw_aload_n F dL_law_256 rfl 1 rfl ?_
  refine lw_aload_n F dL_law_257 rfl 0 rfl ?_
  refine lw_iload_n F dL_law_258 rfl 3 rfl ?_
  refine lw_iconst F (v := 1) dL_law_259 (by decide) ?_
  refine lw_iadd F dL_law_260 ?_
  refine lw_sld F h1 dL_law_261 ?_
  obtain ⟨r, f1, g1, ha, hb, hR1⟩ := hS f g hR (xs (i + 1).toNatClampNeg)
  obtain ⟨ha, hfa⟩ := ha
  obtain ⟨hb, hgb⟩ := hb
  subst hfa
  subst hgb
  refine lw_callA F (r := r) (f' := f1) (nA := 1) 0 (c_X11_thick (aL a) ZA _ _ r ha) gL_law_X11_thick rfl ⟨rfl, rfl⟩ (by decide +kernel) ⟨Nat.le_of_ble_eq_true rfl, Nat.le_of_ble_eq_true rfl⟩ (show 0 < 39 by decide) (gC_0 ZA _) rfl rfl rfl (Nat.le_of_ble_eq_true rfl) dL_law_262 hf ?_
  refine lw_aload_n F dL_law_265 rfl 2 rfl ?_
  refine lw_aload_n F dL_law_266 rfl 0 rfl ?_
  refine lw_iload_n F dL_law_267 rfl 3 rfl ?_
  refine lw_iconst F (v := 1) dL_law_268 (by decide) ?_
  refine lw_iadd F dL_law_269 ?_
  refine lw_sld F h1 dL_law_270 ?_
  refine lw_callB F (r := r) (g' := g1) (nA := 1) 0 (c_X12_thick (aL a) ZB _ _ r hb) gL_law_X12_thick rfl ⟨rfl, rfl⟩ (by decide +kernel) ⟨Nat.le_of_ble_eq_true rfl, Nat.le_of_ble_eq_true rfl⟩ (show 0 < 20 by decide) (gM_0 ZB _) rfl rfl rfl (Nat.le_of_ble_eq_true rfl) dL_law_271 hf ?_
  refine lw_eq F (tgt := 1162) rfl dL_law_274 (by decide) ?_
  exact hk f1 g1 hR1
set_option maxHeartbeats 4000000 in
set_option maxRecDepth 100000 in
theorem law_sound {a : Ax} {ZA ZB : Zx} {A : Nat → Prop} {Q : State → Prop} {b L : Nat} {xs : Nat → Int32} (F : FW a (XC ZA) (XM ZB) A b L xs) {Rel : (Nat → Nat → Int32) → (Nat → Nat → Int32) → Prop} (hS : Sim_sound Rel) {ks ns : Nat} (hf : ks ≤ room_1.cells ∧ ns ≤ room_1.slots) {f g : Nat → Nat → Int32} (hR : Rel f g) {i : Int32} (h1 : vp_in (i + 1) L) (h2 : vp_in (i + 2) L) (h3 : vp_in (i + 3) L) (h4 : vp_in (i + 4) L) (h5 : vp_in (i + 5) L) (hk : ∀ f' g' : Nat → Nat → Int32, Rel f' g' → LW a (XC ZA) (XM ZB) A Q ks ns 1162 [(0, .ref b), (1, .ref (ZA.2.1 0)), (2, .ref (ZB.2.1 0)), (3, .int i)] [] f' g') : LW a (XC ZA) (XM ZB) A Q ks ns 279 [(0, .ref b), (1, .ref (ZA.2.1 0)), (2, .ref (ZB.2.1 0)), (3, .int i)] [] f g := by
  refine lw_aload_n F dL_law_279 rfl 1 rfl ?_
  refine lw_aload_n F dL_law_280 rfl 0 rfl ?_
  refine lw_iload_n F dL_law_281 rfl 3 rfl ?_
  refine lw_iconst F (v := 1) dL_law_282 (by decide) ?_
  refine lw_iadd F dL_law_283 ?_
  refine lw_sld F h1 dL_law_284 ?_
  refine lw_aload_n F dL_law_285 rfl 0 rfl ?_
  refine lw_iload_n F dL_law_286 rfl 3 rfl ?_
  refine lw_iconst F (v := 2) dL_law_287 (by decide) ?_
  refine lw_iadd F dL_law_288 ?_
  refine lw_sld F h2 dL_law_289 ?_
  obtain ⟨r, f1, g1, ha, hb, hR1⟩ := hS f g hR (xs (i + 1).toNatClampNeg) (xs (i + 2).toNatClampNeg)
  obtain ⟨ha, hfa⟩ := ha
  obtain ⟨hb, hgb⟩ := hb
  subst hfa
  subst hgb
  refine lw_callA F (r := r) (f' := f1) (nA := 2) 0 (c_X11_sound (aL a) ZA _ _ _ r ha) gL_law_X11_sound rfl ⟨rfl, rfl⟩ (by decide +kernel) ⟨Nat.le_of_ble_eq_true rfl, Nat.le_of_ble_eq_true rfl⟩ (show 0 < 39 by decide) (gC_0 ZA _) rfl rfl rfl (Nat.le_of_ble_eq_true rfl) dL_law_290 hf ?_
  refine lw_aload_n F dL_law_293 rfl 2 rfl ?_
  refine lw_aload_n F dL_law_294 rfl 0 rfl ?_
  refine lw_iload_n F dL_law_295 rfl 3 rfl ?_
  refine lw_iconst F (v := 1) dL_law_296 (by decide) ?_
  refine lw_iadd F dL_law_297 ?_
  refine lw_sld F h1 dL_law_298 ?_
  refine lw_aload_n F dL_law_299 rfl 0 rfl ?_
  refine lw_iload_n F dL_law_300 rfl 3 rfl ?_
  refine lw_iconst F (v := 2) dL_law_301 (by decide) ?_
  refine lw_iadd F dL_law_302 ?_
  refine lw_sld F h2 dL_law_303 ?_
  refine lw_callB F (r := r) (g' := g1) (nA := 2) 0 (c_X12_sound (aL a) ZB _ _ _ r hb) gL_law_X12_sound rfl ⟨rfl, rfl⟩ (by decide +kernel) ⟨Nat.le_of_ble_eq_true rfl, Nat.le_of_ble_eq_true rfl⟩ (show 0 < 20 by decide) (gM_0 ZB _) rfl rfl rfl (Nat.le_of_ble_eq_true rfl) dL_law_304 hf ?_
  refine lw_eq F (tgt := 1162) rfl dL_law_307 (by decide) ?_
  exact hk f1 g1 hR1
set_option maxHeartbeats 4000000 in
set_option maxRecDepth 100000 in
theorem law_witness {a : Ax} {ZA ZB : Zx} {A : Nat → Prop} {Q : State → Prop} {b L : Nat} {xs : Nat → Int32} (F : FW a (XC ZA) (XM ZB) A b L xs) {Rel : (Nat → Nat → Int32) → (Nat → Nat → Int32) → Prop} (hS : Sim_witness Rel) {ks ns : Nat} (hf : ks ≤ room_1.cells ∧ ns ≤ room_1.slots) {f g : Nat → Nat → Int32} (hR : Rel f g) {i : Int32} (h1 : vp_in (i + 1) L) (h2 : vp_in (i + 2) L) (h3 : vp_in (i + 3) L) (h4 : vp_in (i + 4) L) (h5 : vp_in (i + 5) L) (hk : ∀ f' g' : Nat → Nat → Int32, Rel f' g' → LW a (XC ZA) (XM ZB) A Q ks ns 1162 [(0, .ref b), (1, .ref (ZA.2.1 0)), (2, .ref (ZB.2.1 0)), (3, .int i)] [] f' g') : LW a (XC ZA) (XM ZB) A Q ks ns 312 [(0, .ref b), (1, .ref (ZA.2.1 0)), (2, .ref (ZB.2.1 0)), (3, .int i)] [] f g := by
  refine lw_aload_n F dL_law_312 rfl 1 rfl ?_
  refine lw_aload_n F dL_law_313 rfl 0 rfl ?_
  refine lw_iload_n F dL_law_314 rfl 3 rfl ?_
  refine lw_iconst F (v := 1) dL_law_315 (by decide) ?_
  refine lw_iadd F dL_law_316 ?_
  refine lw_sld F h1 dL_law_317 ?_
  refine lw_aload_n F dL_law_318 rfl 0 rfl ?_
  refine lw_iload_n F dL_law_319 rfl 3 rfl ?_
  refine lw_iconst F (v := 2) dL_law_320 (by decide) ?_
  refine lw_iadd F dL_law_321 ?_
  refine lw_sld F h2 dL_law_322 ?_
  obtain ⟨r, f1, g1, ha, hb, hR1⟩ := hS f g hR (xs (i + 1).toNatClampNeg) (xs (i + 2).toNatClampNeg)
  obtain ⟨ha, hfa⟩ := ha
  obtain ⟨hb, hgb⟩ := hb
  subst hfa
  subst hgb
  refine lw_callA F (r := r) (f' := f1) (nA := 2) 0 (c_X11_witness (aL a) ZA _ _ _ r ha) gL_law_X11_witness rfl ⟨rfl, rfl⟩ (by decide +kernel) ⟨Nat.le_of_ble_eq_true rfl, Nat.le_of_ble_eq_true rfl⟩ (show 0 < 39 by decide) (gC_0 ZA _) rfl rfl rfl (Nat.le_of_ble_eq_true rfl) dL_law_323 hf ?_
  refine lw_aload_n F dL_law_326 rfl 2 rfl ?_
  refine lw_aload_n F dL_law_327 rfl 0 rfl ?_
  refine lw_iload_n F dL_law_328 rfl 3 rfl ?_
  refine lw_iconst F (v := 1) dL_law_329 (by decide) ?_
  refine lw_iadd F dL_law_330 ?_
  refine lw_sld F h1 dL_law_331 ?_
  refine lw_aload_n F dL_law_332 rfl 0 rfl ?_
  refine lw_iload_n F dL_law_333 rfl 3 rfl ?_
  refine lw_iconst F (v := 2) dL_law_334 (by decide) ?_
  refine lw_iadd F dL_law_335 ?_
  refine lw_sld F h2 dL_law_336 ?_
  refine lw_callB F (r := r) (g' := g1) (nA := 2) 0 (c_X12_witness (aL a) ZB _ _ _ r hb) gL_law_X12_witness rfl ⟨rfl, rfl⟩ (by decide +kernel) ⟨Nat.le_of_ble_eq_true rfl, Nat.le_of_ble_eq_true rfl⟩ (show 0 < 20 by decide) (gM_0 ZB _) rfl rfl rfl (Nat.le_of_ble_eq_true rfl) dL_law_337 hf ?_
  refine lw_eq F (tgt := 1162) rfl dL_law_340 (by decide) ?_
  exact hk f1 g1 hR1
set_option maxHeartbeats 4000000 in
set_option maxRecDepth 100000 in
theorem law_morning {a : Ax} {ZA ZB : Zx} {A : Nat → Prop} {Q : State → Prop} {b L : Nat} {xs : Nat → Int32} (F : FW a (XC ZA) (XM ZB) A b L xs) {Rel : (Nat → Nat → Int32) → (Nat → Nat → Int32) → Prop} (hS : Sim_morning Rel) {ks ns : Nat} (hf : ks ≤ room_1.cells ∧ ns ≤ room_1.slots) {f g : Nat → Nat → Int32} (hR : Rel f g) {i : Int32} (h1 : vp_in (i + 1) L) (h2 : vp_in (i + 2) L) (h3 : vp_in (i + 3) L) (h4 : vp_in (i + 4) L) (h5 : vp_in (i + 5) L) (hk : ∀ f' g' : Nat → Nat → Int32, Rel f' g' → LW a (XC ZA) (XM ZB) A Q ks ns 1162 [(0, .ref b), (1, .ref (ZA.2.1 0)), (2, .ref (ZB.2.1 0)), (3, .int i)] [] f' g') : LW a (XC ZA) (XM ZB) A Q ks ns 345 [(0, .ref b), (1, .ref (ZA.2.1 0)), (2, .ref (ZB.2.1 0)), (3, .int i)] [] f g := by
  refine lw_aload_n F dL_law_345 rfl 1 rfl ?_
  refine lw_aload_n F dL_law_346 rfl 0 rfl ?_
  refine lw_iload_n F dL_law_347 rfl 3 rfl ?_
  refine lw_iconst F (v := 1) dL_law_348 (by decide) ?_
  refine lw_iadd F dL_law_349 ?_
  refine lw_sld F h1 dL_law_350 ?_
  refine lw_aload_n F dL_law_351 rfl 0 rfl ?_
  refine lw_iload_n F dL_law_352 rfl 3 rfl ?_
  refine lw_iconst F (v := 2) dL_law_353 (by decide) ?_
  refine lw_iadd F dL_law_354 ?_
  refine lw_sld F h2 dL_law_355 ?_
  obtain ⟨r, f1, g1, ha, hb, hR1⟩ := hS f g hR (xs (i + 1).toNatClampNeg) (xs (i + 2).toNatClampNeg)
  refine lw_callA F (r := r) (f' := f1) (nA := 2) 0 (c_X11_morning (aL a) ZA _ _ _ (r, f1) ha) gL_law_X11_morning rfl ⟨rfl, rfl⟩ (by decide +kernel) ⟨Nat.le_of_ble_eq_true rfl, Nat.le_of_ble_eq_true rfl⟩ (show 0 < 39 by decide) (gC_0 ZA _) rfl rfl rfl (Nat.le_of_ble_eq_true rfl) dL_law_356 hf ?_
  refine lw_aload_n F dL_law_359 rfl 2 rfl ?_
  refine lw_aload_n F dL_law_360 rfl 0 rfl ?_
  refine lw_iload_n F dL_law_361 rfl 3 rfl ?_
  refine lw_iconst F (v := 1) dL_law_362 (by decide) ?_
  refine lw_iadd F dL_law_363 ?_
  refine lw_sld F h1 dL_law_364 ?_
  refine lw_aload_n F dL_law_365 rfl 0 rfl ?_
  refine lw_iload_n F dL_law_366 rfl 3 rfl ?_
  refine lw_iconst F (v := 2) dL_law_367 (by decide) ?_
  refine lw_iadd F dL_law_368 ?_
  refine lw_sld F h2 dL_law_369 ?_
  refine lw_callB F (r := r) (g' := g1) (nA := 2) 0 (c_X12_morning (aL a) ZB _ _ _ (r, g1) hb) gL_law_X12_morning rfl ⟨rfl, rfl⟩ (by decide +kernel) ⟨Nat.le_of_ble_eq_true rfl, Nat.le_of_ble_eq_true rfl⟩ (show 0 < 20 by decide) (gM_0 ZB _) rfl rfl rfl (Nat.le_of_ble_eq_true rfl) dL_law_370 hf ?_
  refine lw_eq F (tgt := 1162) rfl dL_law_373 (by decide) ?_
  exact hk f1 g1 hR1
set_option maxHeartbeats 4000000 in
set_option maxRecDepth 100000 in
theorem law_move {a : Ax} {ZA ZB : Zx} {A : Nat → Prop} {Q : State → Prop} {b L : Nat} {xs : Nat → Int32} (F : FW a (XC ZA) (XM ZB) A b L xs) {Rel : (Nat → Nat → Int32) → (Nat → Nat → Int32) → Prop} (hS : Sim_move Rel) {ks ns : Nat} (hf : ks ≤ room_1.cells ∧ ns ≤ room_1.slots) {f g : Nat → Nat → Int32} (hR : Rel f g) {i : Int32} (h1 : vp_in (i + 1) L) (h2 : vp_in (i + 2) L) (h3 : vp_in (i + 3) L) (h4 : vp_in (i + 4) L) (h5 : vp_in (i + 5) L) (hk : ∀ f' g' : Nat → Nat → Int32, Rel f' g' → LW a (XC ZA) (XM ZB) A Q ks ns 1162 [(0, .ref b), (1, .ref (ZA.2.1 0)), (2, .ref (ZB.2.1 0)), (3, .int i)] [] f' g') : LW a (XC ZA) (XM ZB) A Q ks ns 378 [(0, .ref b), (1, .ref (ZA.2.1 0)), (2, .ref (ZB.2.1 0)), (3, .int i)] [] f g := by
  refine lw_aload_n F dL_law_378 rfl 1 rfl ?_
  refine lw_aload_n F dL_law_379 rfl 0 rfl ?_
  refine lw_iload_n F dL_law_380 rfl 3 rfl ?_
  refine lw_iconst F (v := 1) dL_law_381 (by decide) ?_
  refine lw_iadd F dL_law_382 ?_
  refine lw_sld F h1 dL_law_383 ?_
  refine lw_aload_n F dL_law_384 rfl 0 rfl ?_
  refine lw_iload_n F dL_law_385 rfl 3 rfl ?_
  refine lw_iconst F (v := 2) dL_law_386 (by decide) ?_
  refine lw_iadd F dL_law_387 ?_
  refine lw_sld F h2 dL_law_388 ?_
  obtain ⟨r, f1, g1, ha, hb, hR1⟩ := hS f g hR (xs (i + 1).toNatClampNeg) (xs (i + 2).toNatClampNeg)
  refine lw_callA F (r := r) (f' := f1) (nA := 2) 0 (c_X11_move (aL a) ZA _ _ _ (r, f1) ha) gL_law_X11_move rfl ⟨rfl, rfl⟩ (by decide +kernel) ⟨Nat.le_of_ble_eq_true rfl, Nat.le_of_ble_eq_true rfl⟩ (show 0 < 39 by decide) (gC_0 ZA _) rfl rfl rfl (Nat.le_of_ble_eq_true rfl) dL_law_389 hf ?_
  refine lw_aload_n F dL_law_392 rfl 2 rfl ?_
  refine lw_aload_n F dL_law_393 rfl 0 rfl ?_
  refine lw_iload_n F dL_law_394 rfl 3 rfl ?_
  refine lw_iconst F (v := 1) dL_law_395 (by decide) ?_
  refine lw_iadd F dL_law_396 ?_
  refine lw_sld F h1 dL_law_397 ?_
  refine lw_aload_n F dL_law_398 rfl 0 rfl ?_
  refine lw_iload_n F dL_law_399 rfl 3 rfl ?_
  refine lw_iconst F (v := 2) dL_law_400 (by decide) ?_
  refine lw_iadd F dL_law_401 ?_
  refine lw_sld F h2 dL_law_402 ?_
  refine lw_callB F (r := r) (g' := g1) (nA := 2) 0 (c_X12_move (aL a) ZB _ _ _ (r, g1) hb) gL_law_X12_move rfl ⟨rfl, rfl⟩ (by decide +kernel) ⟨Nat.le_of_ble_eq_true rfl, Nat.le_of_ble_eq_true rfl⟩ (show 0 < 20 by decide) (gM_0 ZB _) rfl rfl rfl (Nat.le_of_ble_eq_true rfl) dL_law_403 hf ?_
  refine lw_eq F (tgt := 1162) rfl dL_law_406 (by decide) ?_
  exact hk f1 g1 hR1
set_option maxHeartbeats 4000000 in
set_option maxRecDepth 100000 in
theorem law_wall {a : Ax} {ZA ZB : Zx} {A : Nat → Prop} {Q : State → Prop} {b L : Nat} {xs : Nat → Int32} (F : FW a (XC ZA) (XM ZB) A b L xs) {Rel : (Nat → Nat → Int32) → (Nat → Nat → Int32) → Prop} (hS : Sim_wall Rel) {ks ns : Nat} (hf : ks ≤ room_1.cells ∧ ns ≤ room_1.slots) {f g : Nat → Nat → Int32} (hR : Rel f g) {i : Int32} (h1 : vp_in (i + 1) L) (h2 : vp_in (i + 2) L) (h3 : vp_in (i + 3) L) (h4 : vp_in (i + 4) L) (h5 : vp_in (i + 5) L) (hk : ∀ f' g' : Nat → Nat → Int32, Rel f' g' → LW a (XC ZA) (XM ZB) A Q ks ns 1162 [(0, .ref b), (1, .ref (ZA.2.1 0)), (2, .ref (ZB.2.1 0)), (3, .int i)] [] f' g') : LW a (XC ZA) (XM ZB) A Q ks ns 411 [(0, .ref b), (1, .ref (ZA.2.1 0)), (2, .ref (ZB.2.1 0)), (3, .int i)] [] f g := by
  refine lw_aload_n F dL_law_411 rfl 1 rfl ?_
  refine lw_aload_n F dL_law_412 rfl 0 rfl ?_
  refine lw_iload_n F dL_law_413 rfl 3 rfl ?_
  refine lw_iconst F (v := 1) dL_law_414 (by decide) ?_
  refine lw_iadd F dL_law_415 ?_
  refine lw_sld F h1 dL_law_416 ?_
  refine lw_aload_n F dL_law_417 rfl 0 rfl ?_
  refine lw_iload_n F dL_law_418 rfl 3 rfl ?_
  refine lw_iconst F (v := 2) dL_law_419 (by decide) ?_
  refine lw_iadd F dL_law_420 ?_
  refine lw_sld F h2 dL_law_421 ?_
  obtain ⟨r, f1, g1, ha, hb, hR1⟩ := hS f g hR (xs (i + 1).toNatClampNeg) (xs (i + 2).toNatClampNeg)
  refine lw_callA F (r := r) (f' := f1) (nA := 2) 0 (c_X11_wall (aL a) ZA _ _ _ (r, f1) ha) gL_law_X11_wall rfl ⟨rfl, rfl⟩ (by decide +kernel) ⟨Nat.le_of_ble_eq_true rfl, Nat.le_of_ble_eq_true rfl⟩ (show 0 < 39 by decide) (gC_0 ZA _) rfl rfl rfl (Nat.le_of_ble_eq_true rfl) dL_law_422 hf ?_
  refine lw_aload_n F dL_law_425 rfl 2 rfl ?_
  refine lw_aload_n F dL_law_426 rfl 0 rfl ?_
  refine lw_iload_n F dL_law_427 rfl 3 rfl ?_
  refine lw_iconst F (v := 1) dL_law_428 (by decide) ?_
  refine lw_iadd F dL_law_429 ?_
  refine lw_sld F h1 dL_law_430 ?_
  refine lw_aload_n F dL_law_431 rfl 0 rfl ?_
  refine lw_iload_n F dL_law_432 rfl 3 rfl ?_
  refine lw_iconst F (v := 2) dL_law_433 (by decide) ?_
  refine lw_iadd F dL_law_434 ?_
  refine lw_sld F h2 dL_law_435 ?_
  refine lw_callB F (r := r) (g' := g1) (nA := 2) 0 (c_X12_wall (aL a) ZB _ _ _ (r, g1) hb) gL_law_X12_wall rfl ⟨rfl, rfl⟩ (by decide +kernel) ⟨Nat.le_of_ble_eq_true rfl, Nat.le_of_ble_eq_true rfl⟩ (show 0 < 20 by decide) (gM_0 ZB _) rfl rfl rfl (Nat.le_of_ble_eq_true rfl) dL_law_436 hf ?_
  refine lw_eq F (tgt := 1162) rfl dL_law_439 (by decide) ?_
  exact hk f1 g1 hR1
set_option maxHeartbeats 4000000 in
set_option maxRecDepth 100000 in
theorem law_wind {a : Ax} {ZA ZB : Zx} {A : Nat → Prop} {Q : State → Prop} {b L : Nat} {xs : Nat → Int32} (F : FW a (XC ZA) (XM ZB) A b L xs) {Rel : (Nat → Nat → Int32) → (Nat → Nat → Int32) → Prop} (hS : Sim_wind Rel) {ks ns : Nat} (hf : ks ≤ room_1.cells ∧ ns ≤ room_1.slots) {f g : Nat → Nat → Int32} (hR : Rel f g) {i : Int32} (h1 : vp_in (i + 1) L) (h2 : vp_in (i + 2) L) (h3 : vp_in (i + 3) L) (h4 : vp_in (i + 4) L) (h5 : vp_in (i + 5) L) (hk : ∀ f' g' : Nat → Nat → Int32, Rel f' g' → LW a (XC ZA) (XM ZB) A Q ks ns 1162 [(0, .ref b), (1, .ref (ZA.2.1 0)), (2, .ref (ZB.2.1 0)), (3, .int i)] [] f' g') : LW a (XC ZA) (XM ZB) A Q ks ns 444 [(0, .ref b), (1, .ref (ZA.2.1 0)), (2, .ref (ZB.2.1 0)), (3, .int i)] [] f g := by
  refine lw_aload_n F dL_law_444 rfl 1 rfl ?_
  refine lw_aload_n F dL_law_445 rfl 0 rfl ?_
  refine lw_iload_n F dL_law_446 rfl 3 rfl ?_
  refine lw_iconst F (v := 1) dL_law_447 (by decide) ?_
  refine lw_iadd F dL_law_448 ?_
  refine lw_sld F h1 dL_law_449 ?_
  obtain ⟨r, f1, g1, ha, hb, hR1⟩ := hS f g hR (xs (i + 1).toNatClampNeg)
  refine lw_callA F (r := r) (f' := f1) (nA := 1) 0 (c_X11_wind (aL a) ZA _ _ (r, f1) ha) gL_law_X11_wind rfl ⟨rfl, rfl⟩ (by decide +kernel) ⟨Nat.le_of_ble_eq_true rfl, Nat.le_of_ble_eq_true rfl⟩ (show 0 < 39 by decide) (gC_0 ZA _) rfl rfl rfl (Nat.le_of_ble_eq_true rfl) dL_law_450 hf ?_
  refine lw_aload_n F dL_law_453 rfl 2 rfl ?_
  refine lw_aload_n F dL_law_454 rfl 0 rfl ?_
  refine lw_iload_n F dL_law_455 rfl 3 rfl ?_
  refine lw_iconst F (v := 1) dL_law_456 (by decide) ?_
  refine lw_iadd F dL_law_457 ?_
  refine lw_sld F h1 dL_law_458 ?_
  refine lw_callB F (r := r) (g' := g1) (nA := 1) 0 (c_X12_wind (aL a) ZB _ _ (r, g1) hb) gL_law_X12_wind rfl ⟨rfl, rfl⟩ (by decide +kernel) ⟨Nat.le_of_ble_eq_true rfl, Nat.le_of_ble_eq_true rfl⟩ (show 0 < 20 by decide) (gM_0 ZB _) rfl rfl rfl (Nat.le_of_ble_eq_true rfl) dL_law_459 hf ?_
  refine lw_eq F (tgt := 1162) rfl dL_law_462 (by decide) ?_
  exact hk f1 g1 hR1
set_option maxHeartbeats 4000000 in
set_option maxRecDepth 100000 in
theorem law_drift {a : Ax} {ZA ZB : Zx} {A : Nat → Prop} {Q : State → Prop} {b L : Nat} {xs : Nat → Int32} (F : FW a (XC ZA) (XM ZB) A b L xs) {Rel : (Nat → Nat → Int32) → (Nat → Nat → Int32) → Prop} (hS : Sim_drift Rel) {ks ns : Nat} (hf : ks ≤ room_1.cells ∧ ns ≤ room_1.slots) {f g : Nat → Nat → Int32} (hR : Rel f g) {i : Int32} (h1 : vp_in (i + 1) L) (h2 : vp_in (i + 2) L) (h3 : vp_in (i + 3) L) (h4 : vp_in (i + 4) L) (h5 : vp_in (i + 5) L) (hk : ∀ f' g' : Nat → Nat → Int32, Rel f' g' → LW a (XC ZA) (XM ZB) A Q ks ns 1162 [(0, .ref b), (1, .ref (ZA.2.1 0)), (2, .ref (ZB.2.1 0)), (3, .int i)] [] f' g') : LW a (XC ZA) (XM ZB) A Q ks ns 467 [(0, .ref b), (1, .ref (ZA.2.1 0)), (2, .ref (ZB.2.1 0)), (3, .int i)] [] f g := by
  refine lw_aload_n F dL_law_467 rfl 1 rfl ?_
  refine lw_aload_n F dL_law_468 rfl 0 rfl ?_
  refine lw_iload_n F dL_law_469 rfl 3 rfl ?_
  refine lw_iconst F (v := 1) dL_law_470 (by decide) ?_
  refine lw_iadd F dL_law_471 ?_
  refine lw_sld F h1 dL_law_472 ?_
  obtain ⟨r, f1, g1, ha, hb, hR1⟩ := hS f g hR (xs (i + 1).toNatClampNeg)
  refine lw_callA F (r := r) (f' := f1) (nA := 1) 0 (c_X11_drift (aL a) ZA _ _ (r, f1) ha) gL_law_X11_drift rfl ⟨rfl, rfl⟩ (by decide +kernel) ⟨Nat.le_of_ble_eq_true rfl, Nat.le_of_ble_eq_true rfl⟩ (show 0 < 39 by decide) (gC_0 ZA _) rfl rfl rfl (Nat.le_of_ble_eq_true rfl) dL_law_473 hf ?_
  refine lw_aload_n F dL_law_476 rfl 2 rfl ?_
  refine lw_aload_n F dL_law_477 rfl 0 rfl ?_
  refine lw_iload_n F dL_law_478 rfl 3 rfl ?_
  refine lw_iconst F (v := 1) dL_law_479 (by decide) ?_
  refine lw_iadd F dL_law_480 ?_
  refine lw_sld F h1 dL_law_481 ?_
  refine lw_callB F (r := r) (g' := g1) (nA := 1) 0 (c_X12_drift (aL a) ZB _ _ (r, g1) hb) gL_law_X12_drift rfl ⟨rfl, rfl⟩ (by decide +kernel) ⟨Nat.le_of_ble_eq_true rfl, Nat.le_of_ble_eq_true rfl⟩ (show 0 < 20 by decide) (gM_0 ZB _) rfl rfl rfl (Nat.le_of_ble_eq_true rfl) dL_law_482 hf ?_
  refine lw_eq F (tgt := 1162) rfl dL_law_485 (by decide) ?_
  exact hk f1 g1 hR1
set_option maxHeartbeats 4000000 in
set_option maxRecDepth 100000 in
theorem law_undo {a : Ax} {ZA ZB : Zx} {A : Nat → Prop} {Q : State → Prop} {b L : Nat} {xs : Nat → Int32} (F : FW a (XC ZA) (XM ZB) A b L xs) {Rel : (Nat → Nat → Int32) → (Nat → Nat → Int32) → Prop} (hS : Sim_undo Rel) {ks ns : Nat} (hf : ks ≤ room_1.cells ∧ ns ≤ room_1.slots) {f g : Nat → Nat → Int32} (hR : Rel f g) {i : Int32} (h1 : vp_in (i + 1) L) (h2 : vp_in (i + 2) L) (h3 : vp_in (i + 3) L) (h4 : vp_in (i + 4) L) (h5 : vp_in (i + 5) L) (hk : ∀ f' g' : Nat → Nat → Int32, Rel f' g' → LW a (XC ZA) (XM ZB) A Q ks ns 1162 [(0, .ref b), (1, .ref (ZA.2.1 0)), (2, .ref (ZB.2.1 0)), (3, .int i)] [] f' g') : LW a (XC ZA) (XM ZB) A Q ks ns 490 [(0, .ref b), (1, .ref (ZA.2.1 0)), (2, .ref (ZB.2.1 0)), (3, .int i)] [] f g := by
  refine lw_aload_n F dL_law_490 rfl 1 rfl ?_
  obtain ⟨r, f1, g1, ha, hb, hR1⟩ := hS f g hR
  refine lw_callA F (r := r) (f' := f1) (nA := 0) 0 (c_X11_undo (aL a) ZA  _ (r, f1) ha) gL_law_X11_undo rfl ⟨rfl, rfl⟩ (by decide +kernel) ⟨Nat.le_of_ble_eq_true rfl, Nat.le_of_ble_eq_true rfl⟩ (show 0 < 39 by decide) (gC_0 ZA _) rfl rfl rfl (Nat.le_of_ble_eq_true rfl) dL_law_491 hf ?_
  refine lw_aload_n F dL_law_494 rfl 2 rfl ?_
  refine lw_callB F (r := r) (g' := g1) (nA := 0) 0 (c_X12_undo (aL a) ZB  _ (r, g1) hb) gL_law_X12_undo rfl ⟨rfl, rfl⟩ (by decide +kernel) ⟨Nat.le_of_ble_eq_true rfl, Nat.le_of_ble_eq_true rfl⟩ (show 0 < 20 by decide) (gM_0 ZB _) rfl rfl rfl (Nat.le_of_ble_eq_true rfl) dL_law_495 hf ?_
  refine lw_eq F (tgt := 1162) rfl dL_law_498 (by decide) ?_
  exact hk f1 g1 hR1
set_option maxHeartbeats 4000000 in
set_option maxRecDepth 100000 in
theorem law_comes {a : Ax} {ZA ZB : Zx} {A : Nat → Prop} {Q : State → Prop} {b L : Nat} {xs : Nat → Int32} (F : FW a (XC ZA) (XM ZB) A b L xs) {Rel : (Nat → Nat → Int32) → (Nat → Nat → Int32) → Prop} (hS : Sim_comes Rel) {ks ns : Nat} (hf : ks ≤ room_1.cells ∧ ns ≤ room_1.slots) {f g : Nat → Nat → Int32} (hR : Rel f g) {i : Int32} (h1 : vp_in (i + 1) L) (h2 : vp_in (i + 2) L) (h3 : vp_in (i + 3) L) (h4 : vp_in (i + 4) L) (h5 : vp_in (i + 5) L) (hk : ∀ f' g' : Nat → Nat → Int32, Rel f' g' → LW a (XC ZA) (XM ZB) A Q ks ns 1162 [(0, .ref b), (1, .ref (ZA.2.1 0)), (2, .ref (ZB.2.1 0)), (3, .int i)] [] f' g') : LW a (XC ZA) (XM ZB) A Q ks ns 503 [(0, .ref b), (1, .ref (ZA.2.1 0)), (2, .ref (ZB.2.1 0)), (3, .int i)] [] f g := by
  refine lw_aload_n F dL_law_503 rfl 1 rfl ?_
  refine lw_aload_n F dL_law_504 rfl 0 rfl ?_
  refine lw_iload_n F dL_law_505 rfl 3 rfl ?_
  refine lw_iconst F (v := 1) dL_law_506 (by decide) ?_
  refine lw_iadd F dL_law_507 ?_
  refine lw_sld F h1 dL_law_508 ?_
  refine lw_aload_n F dL_law_509 rfl 0 rfl ?_
  refine lw_iload_n F dL_law_510 rfl 3 rfl ?_
  refine lw_iconst F (v := 2) dL_law_511 (by decide) ?_
  refine lw_iadd F dL_law_512 ?_
  refine lw_sld F h2 dL_law_513 ?_
  refine lw_aload_n F dL_law_514 rfl 0 rfl ?_
  refine lw_iload_n F dL_law_515 rfl 3 rfl ?_
  refine lw_iconst F (v := 3) dL_law_516 (by decide) ?_
  refine lw_iadd F dL_law_517 ?_
  refine lw_sld F h3 dL_law_518 ?_
  obtain ⟨r, f1, g1, ha, hb, hR1⟩ := hS f g hR (xs (i + 1).toNatClampNeg) (xs (i + 2).toNatClampNeg) (xs (i + 3).toNatClampNeg)
  obtain ⟨ha, hfa⟩ := ha
  obtain ⟨hb, hgb⟩ := hb
  subst hfa
  subst hgb
  refine lw_callA F (r := r) (f' := f1) (nA := 3) 0 (c_X11_comes (aL a) ZA _ _ _ _ r ha) gL_law_X11_comes rfl ⟨rfl, rfl⟩ (by decide +kernel) ⟨Nat.le_of_ble_eq_true rfl, Nat.le_of_ble_eq_true rfl⟩ (show 0 < 39 by decide) (gC_0 ZA _) rfl rfl rfl (Nat.le_of_ble_eq_true rfl) dL_law_519 hf ?_
  refine lw_aload_n F dL_law_522 rfl 2 rfl ?_
  refine lw_aload_n F dL_law_523 rfl 0 rfl ?_
  refine lw_iload_n F dL_law_524 rfl 3 rfl ?_
  refine lw_iconst F (v := 1) dL_law_525 (by decide) ?_
  refine lw_iadd F dL_law_526 ?_
  refine lw_sld F h1 dL_law_527 ?_
  refine lw_aload_n F dL_law_528 rfl 0 rfl ?_
  refine lw_iload_n F dL_law_529 rfl 3 rfl ?_
  refine lw_iconst F (v := 2) dL_law_530 (by decide) ?_
  refine lw_iadd F dL_law_531 ?_
  refine lw_sld F h2 dL_law_532 ?_
  refine lw_aload_n F dL_law_533 rfl 0 rfl ?_
  refine lw_iload_n F dL_law_534 rfl 3 rfl ?_
  refine lw_iconst F (v := 3) dL_law_535 (by decide) ?_
  refine lw_iadd F dL_law_536 ?_
  refine lw_sld F h3 dL_law_537 ?_
  refine lw_callB F (r := r) (g' := g1) (nA := 3) 0 (c_X12_comes (aL a) ZB _ _ _ _ r hb) gL_law_X12_comes rfl ⟨rfl, rfl⟩ (by decide +kernel) ⟨Nat.le_of_ble_eq_true rfl, Nat.le_of_ble_eq_true rfl⟩ (show 0 < 20 by decide) (gM_0 ZB _) rfl rfl rfl (Nat.le_of_ble_eq_true rfl) dL_law_538 hf ?_
  refine lw_eq F (tgt := 1162) rfl dL_law_541 (by decide) ?_
  exact hk f1 g1 hR1
set_option maxHeartbeats 4000000 in
set_option maxRecDepth 100000 in
theorem law_says {a : Ax} {ZA ZB : Zx} {A : Nat → Prop} {Q : State → Prop} {b L : Nat} {xs : Nat → Int32} (F : FW a (XC ZA) (XM ZB) A b L xs) {Rel : (Nat → Nat → Int32) → (Nat → Nat → Int32) → Prop} (hS : Sim_says Rel) {ks ns : Nat} (hf : ks ≤ room_1.cells ∧ ns ≤ room_1.slots) {f g : Nat → Nat → Int32} (hR : Rel f g) {i : Int32} (h1 : vp_in (i + 1) L) (h2 : vp_in (i + 2) L) (h3 : vp_in (i + 3) L) (h4 : vp_in (i + 4) L) (h5 : vp_in (i + 5) L) (hk : ∀ f' g' : Nat → Nat → Int32, Rel f' g' → LW a (XC ZA) (XM ZB) A Q ks ns 1162 [(0, .ref b), (1, .ref (ZA.2.1 0)), (2, .ref (ZB.2.1 0)), (3, .int i)] [] f' g') : LW a (XC ZA) (XM ZB) A Q ks ns 546 [(0, .ref b), (1, .ref (ZA.2.1 0)), (2, .ref (ZB.2.1 0)), (3, .int i)] [] f g := by
  refine lw_aload_n F dL_law_546 rfl 1 rfl ?_
  refine lw_aload_n F dL_law_547 rfl 0 rfl ?_
  refine lw_iload_n F dL_law_548 rfl 3 rfl ?_
  refine lw_iconst F (v := 1) dL_law_549 (by decide) ?_
  refine lw_iadd F dL_law_550 ?_
  refine lw_sld F h1 dL_law_551 ?_
  refine lw_aload_n F dL_law_552 rfl 0 rfl ?_
  refine lw_iload_n F dL_law_553 rfl 3 rfl ?_
  refine lw_iconst F (v := 2) dL_law_554 (by decide) ?_
  refine lw_iadd F dL_law_555 ?_
  refine lw_sld F h2 dL_law_556 ?_
  refine lw_aload_n F dL_law_557 rfl 0 rfl ?_
  refine lw_iload_n F dL_law_558 rfl 3 rfl ?_
  refine lw_iconst F (v := 3) dL_law_559 (by decide) ?_
  refine lw_iadd F dL_law_560 ?_
  refine lw_sld F h3 dL_law_561 ?_
  obtain ⟨r, f1, g1, ha, hb, hR1⟩ := hS f g hR (xs (i + 1).toNatClampNeg) (xs (i + 2).toNatClampNeg) (xs (i + 3).toNatClampNeg)
  obtain ⟨ha, hfa⟩ := ha
  obtain ⟨hb, hgb⟩ := hb
  subst hfa
  subst hgb
  refine lw_callA F (r := r) (f' := f1) (nA := 3) 0 (c_X11_says (aL a) ZA _ _ _ _ r ha) gL_law_X11_says rfl ⟨rfl, rfl⟩ (by decide +kernel) ⟨Nat.le_of_ble_eq_true rfl, Nat.le_of_ble_eq_true rfl⟩ (show 0 < 39 by decide) (gC_0 ZA _) rfl rfl rfl (Nat.le_of_ble_eq_true rfl) dL_law_562 hf ?_
  refine lw_aload_n F dL_law_565 rfl 2 rfl ?_
  refine lw_aload_n F dL_law_566 rfl 0 rfl ?_
  refine lw_iload_n F dL_law_567 rfl 3 rfl ?_
  refine lw_iconst F (v := 1) dL_law_568 (by decide) ?_
  refine lw_iadd F dL_law_569 ?_
  refine lw_sld F h1 dL_law_570 ?_
  refine lw_aload_n F dL_law_571 rfl 0 rfl ?_
  refine lw_iload_n F dL_law_572 rfl 3 rfl ?_
  refine lw_iconst F (v := 2) dL_law_573 (by decide) ?_
  refine lw_iadd F dL_law_574 ?_
  refine lw_sld F h2 dL_law_575 ?_
  refine lw_aload_n F dL_law_576 rfl 0 rfl ?_
  refine lw_iload_n F dL_law_577 rfl 3 rfl ?_
  refine lw_iconst F (v := 3) dL_law_578 (by decide) ?_
  refine lw_iadd F dL_law_579 ?_
  refine lw_sld F h3 dL_law_580 ?_
  refine lw_callB F (r := r) (g' := g1) (nA := 3) 0 (c_X12_says (aL a) ZB _ _ _ _ r hb) gL_law_X12_says rfl ⟨rfl, rfl⟩ (by decide +kernel) ⟨Nat.le_of_ble_eq_true rfl, Nat.le_of_ble_eq_true rfl⟩ (show 0 < 20 by decide) (gM_0 ZB _) rfl rfl rfl (Nat.le_of_ble_eq_true rfl) dL_law_581 hf ?_
  refine lw_eq F (tgt := 1162) rfl dL_law_584 (by decide) ?_
  exact hk f1 g1 hR1
set_option maxHeartbeats 4000000 in
set_option maxRecDepth 100000 in
theorem law_listen {a : Ax} {ZA ZB : Zx} {A : Nat → Prop} {Q : State → Prop} {b L : Nat} {xs : Nat → Int32} (F : FW a (XC ZA) (XM ZB) A b L xs) {Rel : (Nat → Nat → Int32) → (Nat → Nat → Int32) → Prop} (hS : Sim_listen Rel) {ks ns : Nat} (hf : ks ≤ room_1.cells ∧ ns ≤ room_1.slots) {f g : Nat → Nat → Int32} (hR : Rel f g) {i : Int32} (h1 : vp_in (i + 1) L) (h2 : vp_in (i + 2) L) (h3 : vp_in (i + 3) L) (h4 : vp_in (i + 4) L) (h5 : vp_in (i + 5) L) (hk : ∀ f' g' : Nat → Nat → Int32, Rel f' g' → LW a (XC ZA) (XM ZB) A Q ks ns 1162 [(0, .ref b), (1, .ref (ZA.2.1 0)), (2, .ref (ZB.2.1 0)), (3, .int i)] [] f' g') : LW a (XC ZA) (XM ZB) A Q ks ns 589 [(0, .ref b), (1, .ref (ZA.2.1 0)), (2, .ref (ZB.2.1 0)), (3, .int i)] [] f g := by
  refine lw_aload_n F dL_law_589 rfl 1 rfl ?_
  refine lw_aload_n F dL_law_590 rfl 0 rfl ?_
  refine lw_iload_n F dL_law_591 rfl 3 rfl ?_
  refine lw_iconst F (v := 1) dL_law_592 (by decide) ?_
  refine lw_iadd F dL_law_593 ?_
  refine lw_sld F h1 dL_law_594 ?_
  refine lw_aload_n F dL_law_595 rfl 0 rfl ?_
  refine lw_iload_n F dL_law_596 rfl 3 rfl ?_
  refine lw_iconst F (v := 2) dL_law_597 (by decide) ?_
  refine lw_iadd F dL_law_598 ?_
  refine lw_sld F h2 dL_law_599 ?_
  refine lw_aload_n F dL_law_600 rfl 0 rfl ?_
  refine lw_iload_n F dL_law_601 rfl 3 rfl ?_
  refine lw_iconst F (v := 3) dL_law_602 (by decide) ?_
  refine lw_iadd F dL_law_603 ?_
  refine lw_sld F h3 dL_law_604 ?_
  obtain ⟨r, f1, g1, ha, hb, hR1⟩ := hS f g hR (xs (i + 1).toNatClampNeg) (xs (i + 2).toNatClampNeg) (xs (i + 3).toNatClampNeg)
  obtain ⟨ha, hfa⟩ := ha
  obtain ⟨hb, hgb⟩ := hb
  subst hfa
  subst hgb
  refine lw_callA F (r := r) (f' := f1) (nA := 3) 0 (c_X11_listen (aL a) ZA _ _ _ _ r ha) gL_law_X11_listen rfl ⟨rfl, rfl⟩ (by decide +kernel) ⟨Nat.le_of_ble_eq_true rfl, Nat.le_of_ble_eq_true rfl⟩ (show 0 < 39 by decide) (gC_0 ZA _) rfl rfl rfl (Nat.le_of_ble_eq_true rfl) dL_law_605 hf ?_
  refine lw_aload_n F dL_law_608 rfl 2 rfl ?_
  refine lw_aload_n F dL_law_609 rfl 0 rfl ?_
  refine lw_iload_n F dL_law_610 rfl 3 rfl ?_
  refine lw_iconst F (v := 1) dL_law_611 (by decide) ?_
  refine lw_iadd F dL_law_612 ?_
  refine lw_sld F h1 dL_law_613 ?_
  refine lw_aload_n F dL_law_614 rfl 0 rfl ?_
  refine lw_iload_n F dL_law_615 rfl 3 rfl ?_
  refine lw_iconst F (v := 2) dL_law_616 (by decide) ?_
  refine lw_iadd F dL_law_617 ?_
  refine lw_sld F h2 dL_law_618 ?_
  refine lw_aload_n F dL_law_619 rfl 0 rfl ?_
  refine lw_iload_n F dL_law_620 rfl 3 rfl ?_
  refine lw_iconst F (v := 3) dL_law_621 (by decide) ?_
  refine lw_iadd F dL_law_622 ?_
  refine lw_sld F h3 dL_law_623 ?_
  refine lw_callB F (r := r) (g' := g1) (nA := 3) 0 (c_X12_listen (aL a) ZB _ _ _ _ r hb) gL_law_X12_listen rfl ⟨rfl, rfl⟩ (by decide +kernel) ⟨Nat.le_of_ble_eq_true rfl, Nat.le_of_ble_eq_true rfl⟩ (show 0 < 20 by decide) (gM_0 ZB _) rfl rfl rfl (Nat.le_of_ble_eq_true rfl) dL_law_624 hf ?_
  refine lw_eq F (tgt := 1162) rfl dL_law_627 (by decide) ?_
  exact hk f1 g1 hR1
set_option maxHeartbeats 4000000 in
set_option maxRecDepth 100000 in
theorem law_deaf {a : Ax} {ZA ZB : Zx} {A : Nat → Prop} {Q : State → Prop} {b L : Nat} {xs : Nat → Int32} (F : FW a (XC ZA) (XM ZB) A b L xs) {Rel : (Nat → Nat → Int32) → (Nat → Nat → Int32) → Prop} (hS : Sim_deaf Rel) {ks ns : Nat} (hf : ks ≤ room_1.cells ∧ ns ≤ room_1.slots) {f g : Nat → Nat → Int32} (hR : Rel f g) {i : Int32} (h1 : vp_in (i + 1) L) (h2 : vp_in (i + 2) L) (h3 : vp_in (i + 3) L) (h4 : vp_in (i + 4) L) (h5 : vp_in (i + 5) L) (hk : ∀ f' g' : Nat → Nat → Int32, Rel f' g' → LW a (XC ZA) (XM ZB) A Q ks ns 1162 [(0, .ref b), (1, .ref (ZA.2.1 0)), (2, .ref (ZB.2.1 0)), (3, .int i)] [] f' g') : LW a (XC ZA) (XM ZB) A Q ks ns 632 [(0, .ref b), (1, .ref (ZA.2.1 0)), (2, .ref (ZB.2.1 0)), (3, .int i)] [] f g := by
  refine lw_aload_n F dL_law_632 rfl 1 rfl ?_
  refine lw_aload_n F dL_law_633 rfl 0 rfl ?_
  refine lw_iload_n F dL_law_634 rfl 3 rfl ?_
  refine lw_iconst F (v := 1) dL_law_635 (by decide) ?_
  refine lw_iadd F dL_law_636 ?_
  refine lw_sld F h1 dL_law_637 ?_
  obtain ⟨r, f1, g1, ha, hb, hR1⟩ := hS f g hR (xs (i + 1).toNatClampNeg)
  obtain ⟨ha, hfa⟩ := ha
  obtain ⟨hb, hgb⟩ := hb
  subst hfa
  subst hgb
  refine lw_callA F (r := r) (f' := f1) (nA := 1) 0 (c_X11_deaf (aL a) ZA _ _ r ha) gL_law_X11_deaf rfl ⟨rfl, rfl⟩ (by decide +kernel) ⟨Nat.le_of_ble_eq_true rfl, Nat.le_of_ble_eq_true rfl⟩ (show 0 < 39 by decide) (gC_0 ZA _) rfl rfl rfl (Nat.le_of_ble_eq_true rfl) dL_law_638 hf ?_
  refine lw_aload_n F dL_law_641 rfl 2 rfl ?_
  refine lw_aload_n F dL_law_642 rfl 0 rfl ?_
  refine lw_iload_n F dL_law_643 rfl 3 rfl ?_
  refine lw_iconst F (v := 1) dL_law_644 (by decide) ?_
  refine lw_iadd F dL_law_645 ?_
  refine lw_sld F h1 dL_law_646 ?_
  refine lw_callB F (r := r) (g' := g1) (nA := 1) 0 (c_X12_deaf (aL a) ZB _ _ r hb) gL_law_X12_deaf rfl ⟨rfl, rfl⟩ (by decide +kernel) ⟨Nat.le_of_ble_eq_true rfl, Nat.le_of_ble_eq_true rfl⟩ (show 0 < 20 by decide) (gM_0 ZB _) rfl rfl rfl (Nat.le_of_ble_eq_true rfl) dL_law_647 hf ?_
  refine lw_eq F (tgt := 1162) rfl dL_law_650 (by decide) ?_
  exact hk f1 g1 hR1
set_option maxHeartbeats 4000000 in
set_option maxRecDepth 100000 in
theorem law_ears {a : Ax} {ZA ZB : Zx} {A : Nat → Prop} {Q : State → Prop} {b L : Nat} {xs : Nat → Int32} (F : FW a (XC ZA) (XM ZB) A b L xs) {Rel : (Nat → Nat → Int32) → (Nat → Nat → Int32) → Prop} (hS : Sim_ears Rel) {ks ns : Nat} (hf : ks ≤ room_1.cells ∧ ns ≤ room_1.slots) {f g : Nat → Nat → Int32} (hR : Rel f g) {i : Int32} (h1 : vp_in (i + 1) L) (h2 : vp_in (i + 2) L) (h3 : vp_in (i + 3) L) (h4 : vp_in (i + 4) L) (h5 : vp_in (i + 5) L) (hk : ∀ f' g' : Nat → Nat → Int32, Rel f' g' → LW a (XC ZA) (XM ZB) A Q ks ns 1162 [(0, .ref b), (1, .ref (ZA.2.1 0)), (2, .ref (ZB.2.1 0)), (3, .int i)] [] f' g') : LW a (XC ZA) (XM ZB) A Q ks ns 655 [(0, .ref b), (1, .ref (ZA.2.1 0)), (2, .ref (ZB.2.1 0)), (3, .int i)] [] f g := by
  refine lw_aload_n F dL_law_655 rfl 1 rfl ?_
  refine lw_aload_n F dL_law_656 rfl 0 rfl ?_
  refine lw_iload_n F dL_law_657 rfl 3 rfl ?_
  refine lw_iconst F (v := 1) dL_law_658 (by decide) ?_
  refine lw_iadd F dL_law_659 ?_
  refine lw_sld F h1 dL_law_660 ?_
  refine lw_aload_n F dL_law_661 rfl 0 rfl ?_
  refine lw_iload_n F dL_law_662 rfl 3 rfl ?_
  refine lw_iconst F (v := 2) dL_law_663 (by decide) ?_
  refine lw_iadd F dL_law_664 ?_
  refine lw_sld F h2 dL_law_665 ?_
  refine lw_aload_n F dL_law_666 rfl 0 rfl ?_
  refine lw_iload_n F dL_law_667 rfl 3 rfl ?_
  refine lw_iconst F (v := 3) dL_law_668 (by decide) ?_
  refine lw_iadd F dL_law_669 ?_
  refine lw_sld F h3 dL_law_670 ?_
  obtain ⟨r, f1, g1, ha, hb, hR1⟩ := hS f g hR (xs (i + 1).toNatClampNeg) (xs (i + 2).toNatClampNeg) (xs (i + 3).toNatClampNeg)
  obtain ⟨hb, hgb⟩ := hb
  subst hgb
  refine lw_callA F (r := r) (f' := f1) (nA := 3) 0 (c_X11_ears (aL a) ZA _ _ _ _ (r, f1) ha) gL_law_X11_ears rfl ⟨rfl, rfl⟩ (by decide +kernel) ⟨Nat.le_of_ble_eq_true rfl, Nat.le_of_ble_eq_true rfl⟩ (show 0 < 39 by decide) (gC_0 ZA _) rfl rfl rfl (Nat.le_of_ble_eq_true rfl) dL_law_671 hf ?_
  refine lw_aload_n F dL_law_674 rfl 2 rfl ?_
  refine lw_aload_n F dL_law_675 rfl 0 rfl ?_
  refine lw_iload_n F dL_law_676 rfl 3 rfl ?_
  refine lw_iconst F (v := 1) dL_law_677 (by decide) ?_
  refine lw_iadd F dL_law_678 ?_
  refine lw_sld F h1 dL_law_679 ?_
  refine lw_aload_n F dL_law_680 rfl 0 rfl ?_
  refine lw_iload_n F dL_law_681 rfl 3 rfl ?_
  refine lw_iconst F (v := 2) dL_law_682 (by decide) ?_
  refine lw_iadd F dL_law_683 ?_
  refine lw_sld F h2 dL_law_684 ?_
  refine lw_aload_n F dL_law_685 rfl 0 rfl ?_
  refine lw_iload_n F dL_law_686 rfl 3 rfl ?_
  refine lw_iconst F (v := 3) dL_law_687 (by decide) ?_
  refine lw_iadd F dL_law_688 ?_
  refine lw_sld F h3 dL_law_689 ?_
  refine lw_callB F (r := r) (g' := g1) (nA := 3) 0 (c_X12_ears (aL a) ZB _ _ _ _ r hb) gL_law_X12_ears rfl ⟨rfl, rfl⟩ (by decide +kernel) ⟨Nat.le_of_ble_eq_true rfl, Nat.le_of_ble_eq_true rfl⟩ (show 0 < 20 by decide) (gM_0 ZB _) rfl rfl rfl (Nat.le_of_ble_eq_true rfl) dL_law_690 hf ?_
  refine lw_eq F (tgt := 1162) rfl dL_law_693 (by decide) ?_
  exact hk f1 g1 hR1
set_option maxHeartbeats 4000000 in
set_option maxRecDepth 100000 in
theorem law_alike {a : Ax} {ZA ZB : Zx} {A : Nat → Prop} {Q : State → Prop} {b L : Nat} {xs : Nat → Int32} (F : FW a (XC ZA) (XM ZB) A b L xs) {Rel : (Nat → Nat → Int32) → (Nat → Nat → Int32) → Prop} (hS : Sim_alike Rel) {ks ns : Nat} (hf : ks ≤ room_1.cells ∧ ns ≤ room_1.slots) {f g : Nat → Nat → Int32} (hR : Rel f g) {i : Int32} (h1 : vp_in (i + 1) L) (h2 : vp_in (i + 2) L) (h3 : vp_in (i + 3) L) (h4 : vp_in (i + 4) L) (h5 : vp_in (i + 5) L) (hk : ∀ f' g' : Nat → Nat → Int32, Rel f' g' → LW a (XC ZA) (XM ZB) A Q ks ns 1162 [(0, .ref b), (1, .ref (ZA.2.1 0)), (2, .ref (ZB.2.1 0)), (3, .int i)] [] f' g') : LW a (XC ZA) (XM ZB) A Q ks ns 698 [(0, .ref b), (1, .ref (ZA.2.1 0)), (2, .ref (ZB.2.1 0)), (3, .int i)] [] f g := by
  refine lw_aload_n F dL_law_698 rfl 1 rfl ?_
  refine lw_aload_n F dL_law_699 rfl 0 rfl ?_
  refine lw_iload_n F dL_law_700 rfl 3 rfl ?_
  refine lw_iconst F (v := 1) dL_law_701 (by decide) ?_
  refine lw_iadd F dL_law_702 ?_
  refine lw_sld F h1 dL_law_703 ?_
  refine lw_aload_n F dL_law_704 rfl 0 rfl ?_
  refine lw_iload_n F dL_law_705 rfl 3 rfl ?_
  refine lw_iconst F (v := 2) dL_law_706 (by decide) ?_
  refine lw_iadd F dL_law_707 ?_
  refine lw_sld F h2 dL_law_708 ?_
  obtain ⟨r, f1, g1, ha, hb, hR1⟩ := hS f g hR (xs (i + 1).toNatClampNeg) (xs (i + 2).toNatClampNeg)
  obtain ⟨ha, hfa⟩ := ha
  obtain ⟨hb, hgb⟩ := hb
  subst hfa
  subst hgb
  refine lw_callA F (r := r) (f' := f1) (nA := 2) 0 (c_X11_alike (aL a) ZA _ _ _ r ha) gL_law_X11_alike rfl ⟨rfl, rfl⟩ (by decide +kernel) ⟨Nat.le_of_ble_eq_true rfl, Nat.le_of_ble_eq_true rfl⟩ (show 0 < 39 by decide) (gC_0 ZA _) rfl rfl rfl (Nat.le_of_ble_eq_true rfl) dL_law_709 hf ?_
  refine lw_aload_n F dL_law_712 rfl 2 rfl ?_
  refine lw_aload_n F dL_law_713 rfl 0 rfl ?_
  refine lw_iload_n F dL_law_714 rfl 3 rfl ?_
  refine lw_iconst F (v := 1) dL_law_715 (by decide) ?_
  refine lw_iadd F dL_law_716 ?_
  refine lw_sld F h1 dL_law_717 ?_
  refine lw_aload_n F dL_law_718 rfl 0 rfl ?_
  refine lw_iload_n F dL_law_719 rfl 3 rfl ?_
  refine lw_iconst F (v := 2) dL_law_720 (by decide) ?_
  refine lw_iadd F dL_law_721 ?_
  refine lw_sld F h2 dL_law_722 ?_
  refine lw_callB F (r := r) (g' := g1) (nA := 2) 0 (c_X12_alike (aL a) ZB _ _ _ r hb) gL_law_X12_alike rfl ⟨rfl, rfl⟩ (by decide +kernel) ⟨Nat.le_of_ble_eq_true rfl, Nat.le_of_ble_eq_true rfl⟩ (show 0 < 20 by decide) (gM_0 ZB _) rfl rfl rfl (Nat.le_of_ble_eq_true rfl) dL_law_723 hf ?_
  refine lw_eq F (tgt := 1162) rfl dL_law_726 (by decide) ?_
  exact hk f1 g1 hR1
set_option maxHeartbeats 4000000 in
set_option maxRecDepth 100000 in
theorem law_hides {a : Ax} {ZA ZB : Zx} {A : Nat → Prop} {Q : State → Prop} {b L : Nat} {xs : Nat → Int32} (F : FW a (XC ZA) (XM ZB) A b L xs) {Rel : (Nat → Nat → Int32) → (Nat → Nat → Int32) → Prop} (hS : Sim_hides Rel) {ks ns : Nat} (hf : ks ≤ room_1.cells ∧ ns ≤ room_1.slots) {f g : Nat → Nat → Int32} (hR : Rel f g) {i : Int32} (h1 : vp_in (i + 1) L) (h2 : vp_in (i + 2) L) (h3 : vp_in (i + 3) L) (h4 : vp_in (i + 4) L) (h5 : vp_in (i + 5) L) (hk : ∀ f' g' : Nat → Nat → Int32, Rel f' g' → LW a (XC ZA) (XM ZB) A Q ks ns 1162 [(0, .ref b), (1, .ref (ZA.2.1 0)), (2, .ref (ZB.2.1 0)), (3, .int i)] [] f' g') : LW a (XC ZA) (XM ZB) A Q ks ns 731 [(0, .ref b), (1, .ref (ZA.2.1 0)), (2, .ref (ZB.2.1 0)), (3, .int i)] [] f g := by
  refine lw_aload_n F dL_law_731 rfl 1 rfl ?_
  refine lw_aload_n F dL_law_732 rfl 0 rfl ?_
  refine lw_iload_n F dL_law_733 rfl 3 rfl ?_
  refine lw_iconst F (v := 1) dL_law_734 (by decide) ?_
  refine lw_iadd F dL_law_735 ?_
  refine lw_sld F h1 dL_law_736 ?_
  refine lw_aload_n F dL_law_737 rfl 0 rfl ?_
  refine lw_iload_n F dL_law_738 rfl 3 rfl ?_
  refine lw_iconst F (v := 2) dL_law_739 (by decide) ?_
  refine lw_iadd F dL_law_740 ?_
  refine lw_sld F h2 dL_law_741 ?_
  refine lw_aload_n F dL_law_742 rfl 0 rfl ?_
  refine lw_iload_n F dL_law_743 rfl 3 rfl ?_
  refine lw_iconst F (v := 3) dL_law_744 (by decide) ?_
  refine lw_iadd F dL_law_745 ?_
  refine lw_sld F h3 dL_law_746 ?_
  obtain ⟨r, f1, g1, ha, hb, hR1⟩ := hS f g hR (xs (i + 1).toNatClampNeg) (xs (i + 2).toNatClampNeg) (xs (i + 3).toNatClampNeg)
  obtain ⟨ha, hfa⟩ := ha
  subst hfa
  refine lw_callA F (r := r) (f' := f1) (nA := 3) 0 (c_X11_hides (aL a) ZA _ _ _ _ r ha) gL_law_X11_hides rfl ⟨rfl, rfl⟩ (by decide +kernel) ⟨Nat.le_of_ble_eq_true rfl, Nat.le_of_ble_eq_true rfl⟩ (show 0 < 39 by decide) (gC_0 ZA _) rfl rfl rfl (Nat.le_of_ble_eq_true rfl) dL_law_747 hf ?_
  refine lw_aload_n F dL_law_750 rfl 2 rfl ?_
  refine lw_aload_n F dL_law_751 rfl 0 rfl ?_
  refine lw_iload_n F dL_law_752 rfl 3 rfl ?_
  refine lw_iconst F (v := 1) dL_law_753 (by decide) ?_
  refine lw_iadd F dL_law_754 ?_
  refine lw_sld F h1 dL_law_755 ?_
  refine lw_aload_n F dL_law_756 rfl 0 rfl ?_
  refine lw_iload_n F dL_law_757 rfl 3 rfl ?_
  refine lw_iconst F (v := 2) dL_law_758 (by decide) ?_
  refine lw_iadd F dL_law_759 ?_
  refine lw_sld F h2 dL_law_760 ?_
  refine lw_aload_n F dL_law_761 rfl 0 rfl ?_
  refine lw_iload_n F dL_law_762 rfl 3 rfl ?_
  refine lw_iconst F (v := 3) dL_law_763 (by decide) ?_
  refine lw_iadd F dL_law_764 ?_
  refine lw_sld F h3 dL_law_765 ?_
  refine lw_callB F (r := r) (g' := g1) (nA := 3) 0 (c_X12_hides (aL a) ZB _ _ _ _ (r, g1) hb) gL_law_X12_hides rfl ⟨rfl, rfl⟩ (by decide +kernel) ⟨Nat.le_of_ble_eq_true rfl, Nat.le_of_ble_eq_true rfl⟩ (show 0 < 20 by decide) (gM_0 ZB _) rfl rfl rfl (Nat.le_of_ble_eq_true rfl) dL_law_766 hf ?_
  refine lw_eq F (tgt := 1162) rfl dL_law_769 (by decide) ?_
  exact hk f1 g1 hR1
set_option maxHeartbeats 4000000 in
set_option maxRecDepth 100000 in
theorem law_midwife {a : Ax} {ZA ZB : Zx} {A : Nat → Prop} {Q : State → Prop} {b L : Nat} {xs : Nat → Int32} (F : FW a (XC ZA) (XM ZB) A b L xs) {Rel : (Nat → Nat → Int32) → (Nat → Nat → Int32) → Prop} (hS : Sim_midwife Rel) {ks ns : Nat} (hf : ks ≤ room_1.cells ∧ ns ≤ room_1.slots) {f g : Nat → Nat → Int32} (hR : Rel f g) {i : Int32} (h1 : vp_in (i + 1) L) (h2 : vp_in (i + 2) L) (h3 : vp_in (i + 3) L) (h4 : vp_in (i + 4) L) (h5 : vp_in (i + 5) L) (hk : ∀ f' g' : Nat → Nat → Int32, Rel f' g' → LW a (XC ZA) (XM ZB) A Q ks ns 1162 [(0, .ref b), (1, .ref (ZA.2.1 0)), (2, .ref (ZB.2.1 0)), (3, .int i)] [] f' g') : LW a (XC ZA) (XM ZB) A Q ks ns 774 [(0, .ref b), (1, .ref (ZA.2.1 0)), (2, .ref (ZB.2.1 0)), (3, .int i)] [] f g := by
  refine lw_aload_n F dL_law_774 rfl 1 rfl ?_
  refine lw_aload_n F dL_law_775 rfl 0 rfl ?_
  refine lw_iload_n F dL_law_776 rfl 3 rfl ?_
  refine lw_iconst F (v := 1) dL_law_777 (by decide) ?_
  refine lw_iadd F dL_law_778 ?_
  refine lw_sld F h1 dL_law_779 ?_
  refine lw_ifeq F (tgt := 787) dL_law_780 (by decide) (fun hz => ?_) (fun hz => ?_)
  · refine lw_iconst F (v := 0) dL_law_787 (by decide) ?_
    refine lw_aload_n F dL_law_788 rfl 0 rfl ?_
    refine lw_iload_n F dL_law_789 rfl 3 rfl ?_
    refine lw_iconst F (v := 2) dL_law_790 (by decide) ?_
    refine lw_iadd F dL_law_791 ?_
    refine lw_sld F h2 dL_law_792 ?_
    refine lw_aload_n F dL_law_793 rfl 0 rfl ?_
    refine lw_iload_n F dL_law_794 rfl 3 rfl ?_
    refine lw_iconst F (v := 3) dL_law_795 (by decide) ?_
    refine lw_iadd F dL_law_796 ?_
    refine lw_sld F h3 dL_law_797 ?_
    refine lw_aload_n F dL_law_798 rfl 0 rfl ?_
    refine lw_iload_n F dL_law_799 rfl 3 rfl ?_
    refine lw_iconst F (v := 4) dL_law_800 (by decide) ?_
    refine lw_iadd F dL_law_801 ?_
    refine lw_sld F h4 dL_law_802 ?_
    refine lw_aload_n F dL_law_803 rfl 0 rfl ?_
    refine lw_iload_n F dL_law_804 rfl 3 rfl ?_
    refine lw_iconst F (v := 5) dL_law_805 (by decide) ?_
    refine lw_iadd F dL_law_806 ?_
    refine lw_sld F h5 dL_law_807 ?_
    obtain ⟨r, f1, g1, ha, hb, hR1⟩ := hS f g hR 0 (xs (i + 2).toNatClampNeg) (xs (i + 3).toNatClampNeg) (xs (i + 4).toNatClampNeg) (xs (i + 5).toNatClampNeg) (by decide)
    obtain ⟨ha, hfa⟩ := ha
    obtain ⟨hb, hgb⟩ := hb
    subst hfa
    subst hgb
    refine lw_callA F (r := r) (f' := f1) (nA := 5) 0 (c_X11_midwife (aL a) ZA _ _ _ _ _ _ r ha) gL_law_X11_midwife rfl ⟨rfl, rfl⟩ (by decide +kernel) ⟨Nat.le_of_ble_eq_true rfl, Nat.le_of_ble_eq_true rfl⟩ (show 0 < 39 by decide) (gC_0 ZA _) rfl rfl rfl (Nat.le_of_ble_eq_true rfl) dL_law_808 hf ?_
    refine lw_aload_n F dL_law_811 rfl 2 rfl ?_
    refine lw_aload_n F dL_law_812 rfl 0 rfl ?_
    refine lw_iload_n F dL_law_813 rfl 3 rfl ?_
    refine lw_iconst F (v := 1) dL_law_814 (by decide) ?_
    refine lw_iadd F dL_law_815 ?_
    refine lw_sld F h1 dL_law_816 ?_
    refine lw_ifeq F (tgt := 824) dL_law_817 (by decide) (fun _ => ?_) (fun hz2 => absurd hz hz2)
    refine lw_iconst F (v := 0) dL_law_824 (by decide) ?_
    refine lw_aload_n F dL_law_825 rfl 0 rfl ?_
    refine lw_iload_n F dL_law_826 rfl 3 rfl ?_
    refine lw_iconst F (v := 2) dL_law_827 (by decide) ?_
    refine lw_iadd F dL_law_828 ?_
    refine lw_sld F h2 dL_law_829 ?_
    refine lw_aload_n F dL_law_830 rfl 0 rfl ?_
    refine lw_iload_n F dL_law_831 rfl 3 rfl ?_
    refine lw_iconst F (v := 3) dL_law_832 (by decide) ?_
    refine lw_iadd F dL_law_833 ?_
    refine lw_sld F h3 dL_law_834 ?_
    refine lw_aload_n F dL_law_835 rfl 0 rfl ?_
    refine lw_iload_n F dL_law_836 rfl 3 rfl ?_
    refine lw_iconst F (v := 4) dL_law_837 (by decide) ?_
    refine lw_iadd F dL_law_838 ?_
    refine lw_sld F h4 dL_law_839 ?_
    refine lw_aload_n F dL_law_840 rfl 0 rfl ?_
    refine lw_iload_n F dL_law_841 rfl 3 rfl ?_
    refine lw_iconst F (v := 5) dL_law_842 (by decide) ?_
    refine lw_iadd F dL_law_843 ?_
    refine lw_sld F h5 dL_law_844 ?_
    refine lw_callB F (r := r) (g' := g1) (nA := 5) 0 (c_X12_midwife (aL a) ZB _ _ _ _ _ _ r hb) gL_law_X12_midwife rfl ⟨rfl, rfl⟩ (by decide +kernel) ⟨Nat.le_of_ble_eq_true rfl, Nat.le_of_ble_eq_true rfl⟩ (show 0 < 20 by decide) (gM_0 ZB _) rfl rfl rfl (Nat.le_of_ble_eq_true rfl) dL_law_845 hf ?_
    refine lw_eq F (tgt := 1162) rfl dL_law_848 (by decide) ?_
    exact hk f1 g1 hR1
  · refine lw_iconst F (v := 1) dL_law_783 (by decide) ?_
    refine lw_goto F (tgt := 788) dL_law_784 (by decide) ?_
    refine lw_aload_n F dL_law_788 rfl 0 rfl ?_
    refine lw_iload_n F dL_law_789 rfl 3 rfl ?_
    refine lw_iconst F (v := 2) dL_law_790 (by decide) ?_
    refine lw_iadd F dL_law_791 ?_
    refine lw_sld F h2 dL_law_792 ?_
    refine lw_aload_n F dL_law_793 rfl 0 rfl ?_
    refine lw_iload_n F dL_law_794 rfl 3 rfl ?_
    refine lw_iconst F (v := 3) dL_law_795 (by decide) ?_
    refine lw_iadd F dL_law_796 ?_
    refine lw_sld F h3 dL_law_797 ?_
    refine lw_aload_n F dL_law_798 rfl 0 rfl ?_
    refine lw_iload_n F dL_law_799 rfl 3 rfl ?_
    refine lw_iconst F (v := 4) dL_law_800 (by decide) ?_
    refine lw_iadd F dL_law_801 ?_
    refine lw_sld F h4 dL_law_802 ?_
    refine lw_aload_n F dL_law_803 rfl 0 rfl ?_
    refine lw_iload_n F dL_law_804 rfl 3 rfl ?_
    refine lw_iconst F (v := 5) dL_law_805 (by decide) ?_
    refine lw_iadd F dL_law_806 ?_
    refine lw_sld F h5 dL_law_807 ?_
    obtain ⟨r, f1, g1, ha, hb, hR1⟩ := hS f g hR 1 (xs (i + 2).toNatClampNeg) (xs (i + 3).toNatClampNeg) (xs (i + 4).toNatClampNeg) (xs (i + 5).toNatClampNeg) (by decide)
    obtain ⟨ha, hfa⟩ := ha
    obtain ⟨hb, hgb⟩ := hb
    subst hfa
    subst hgb
    refine lw_callA F (r := r) (f' := f1) (nA := 5) 0 (c_X11_midwife (aL a) ZA _ _ _ _ _ _ r ha) gL_law_X11_midwife rfl ⟨rfl, rfl⟩ (by decide +kernel) ⟨Nat.le_of_ble_eq_true rfl, Nat.le_of_ble_eq_true rfl⟩ (show 0 < 39 by decide) (gC_0 ZA _) rfl rfl rfl (Nat.le_of_ble_eq_true rfl) dL_law_808 hf ?_
    refine lw_aload_n F dL_law_811 rfl 2 rfl ?_
    refine lw_aload_n F dL_law_812 rfl 0 rfl ?_
    refine lw_iload_n F dL_law_813 rfl 3 rfl ?_
    refine lw_iconst F (v := 1) dL_law_814 (by decide) ?_
    refine lw_iadd F dL_law_815 ?_
    refine lw_sld F h1 dL_law_816 ?_
    refine lw_ifeq F (tgt := 824) dL_law_817 (by decide) (fun hz2 => absurd hz2 hz) (fun _ => ?_)
    refine lw_iconst F (v := 1) dL_law_820 (by decide) ?_
    refine lw_goto F (tgt := 825) dL_law_821 (by decide) ?_
    refine lw_aload_n F dL_law_825 rfl 0 rfl ?_
    refine lw_iload_n F dL_law_826 rfl 3 rfl ?_
    refine lw_iconst F (v := 2) dL_law_827 (by decide) ?_
    refine lw_iadd F dL_law_828 ?_
    refine lw_sld F h2 dL_law_829 ?_
    refine lw_aload_n F dL_law_830 rfl 0 rfl ?_
    refine lw_iload_n F dL_law_831 rfl 3 rfl ?_
    refine lw_iconst F (v := 3) dL_law_832 (by decide) ?_
    refine lw_iadd F dL_law_833 ?_
    refine lw_sld F h3 dL_law_834 ?_
    refine lw_aload_n F dL_law_835 rfl 0 rfl ?_
    refine lw_iload_n F dL_law_836 rfl 3 rfl ?_
    refine lw_iconst F (v := 4) dL_law_837 (by decide) ?_
    refine lw_iadd F dL_law_838 ?_
    refine lw_sld F h4 dL_law_839 ?_
    refine lw_aload_n F dL_law_840 rfl 0 rfl ?_
    refine lw_iload_n F dL_law_841 rfl 3 rfl ?_
    refine lw_iconst F (v := 5) dL_law_842 (by decide) ?_
    refine lw_iadd F dL_law_843 ?_
    refine lw_sld F h5 dL_law_844 ?_
    refine lw_callB F (r := r) (g' := g1) (nA := 5) 0 (c_X12_midwife (aL a) ZB _ _ _ _ _ _ r hb) gL_law_X12_midwife rfl ⟨rfl, rfl⟩ (by decide +kernel) ⟨Nat.le_of_ble_eq_true rfl, Nat.le_of_ble_eq_true rfl⟩ (show 0 < 20 by decide) (gM_0 ZB _) rfl rfl rfl (Nat.le_of_ble_eq_true rfl) dL_law_845 hf ?_
    refine lw_eq F (tgt := 1162) rfl dL_law_848 (by decide) ?_
    exact hk f1 g1 hR1
set_option maxHeartbeats 4000000 in
set_option maxRecDepth 100000 in
theorem law_bargain {a : Ax} {ZA ZB : Zx} {A : Nat → Prop} {Q : State → Prop} {b L : Nat} {xs : Nat → Int32} (F : FW a (XC ZA) (XM ZB) A b L xs) {Rel : (Nat → Nat → Int32) → (Nat → Nat → Int32) → Prop} (hS : Sim_bargain Rel) {ks ns : Nat} (hf : ks ≤ room_1.cells ∧ ns ≤ room_1.slots) {f g : Nat → Nat → Int32} (hR : Rel f g) {i : Int32} (h1 : vp_in (i + 1) L) (h2 : vp_in (i + 2) L) (h3 : vp_in (i + 3) L) (h4 : vp_in (i + 4) L) (h5 : vp_in (i + 5) L) (hk : ∀ f' g' : Nat → Nat → Int32, Rel f' g' → LW a (XC ZA) (XM ZB) A Q ks ns 1162 [(0, .ref b), (1, .ref (ZA.2.1 0)), (2, .ref (ZB.2.1 0)), (3, .int i)] [] f' g') : LW a (XC ZA) (XM ZB) A Q ks ns 853 [(0, .ref b), (1, .ref (ZA.2.1 0)), (2, .ref (ZB.2.1 0)), (3, .int i)] [] f g := by
  refine lw_aload_n F dL_law_853 rfl 1 rfl ?_
  refine lw_aload_n F dL_law_854 rfl 0 rfl ?_
  refine lw_iload_n F dL_law_855 rfl 3 rfl ?_
  refine lw_iconst F (v := 1) dL_law_856 (by decide) ?_
  refine lw_iadd F dL_law_857 ?_
  refine lw_sld F h1 dL_law_858 ?_
  refine lw_aload_n F dL_law_859 rfl 0 rfl ?_
  refine lw_iload_n F dL_law_860 rfl 3 rfl ?_
  refine lw_iconst F (v := 2) dL_law_861 (by decide) ?_
  refine lw_iadd F dL_law_862 ?_
  refine lw_sld F h2 dL_law_863 ?_
  refine lw_aload_n F dL_law_864 rfl 0 rfl ?_
  refine lw_iload_n F dL_law_865 rfl 3 rfl ?_
  refine lw_iconst F (v := 3) dL_law_866 (by decide) ?_
  refine lw_iadd F dL_law_867 ?_
  refine lw_sld F h3 dL_law_868 ?_
  refine lw_aload_n F dL_law_869 rfl 0 rfl ?_
  refine lw_iload_n F dL_law_870 rfl 3 rfl ?_
  refine lw_iconst F (v := 4) dL_law_871 (by decide) ?_
  refine lw_iadd F dL_law_872 ?_
  refine lw_sld F h4 dL_law_873 ?_
  obtain ⟨r, f1, g1, ha, hb, hR1⟩ := hS f g hR (xs (i + 1).toNatClampNeg) (xs (i + 2).toNatClampNeg) (xs (i + 3).toNatClampNeg) (xs (i + 4).toNatClampNeg)
  obtain ⟨ha, hfa⟩ := ha
  obtain ⟨hb, hgb⟩ := hb
  subst hfa
  subst hgb
  refine lw_callA F (r := r) (f' := f1) (nA := 4) 0 (c_X11_bargain (aL a) ZA _ _ _ _ _ r ha) gL_law_X11_bargain rfl ⟨rfl, rfl⟩ (by decide +kernel) ⟨Nat.le_of_ble_eq_true rfl, Nat.le_of_ble_eq_true rfl⟩ (show 0 < 39 by decide) (gC_0 ZA _) rfl rfl rfl (Nat.le_of_ble_eq_true rfl) dL_law_874 hf ?_
  refine lw_aload_n F dL_law_877 rfl 2 rfl ?_
  refine lw_aload_n F dL_law_878 rfl 0 rfl ?_
  refine lw_iload_n F dL_law_879 rfl 3 rfl ?_
  refine lw_iconst F (v := 1) dL_law_880 (by decide) ?_
  refine lw_iadd F dL_law_881 ?_
  refine lw_sld F h1 dL_law_882 ?_
  refine lw_aload_n F dL_law_883 rfl 0 rfl ?_
  refine lw_iload_n F dL_law_884 rfl 3 rfl ?_
  refine lw_iconst F (v := 2) dL_law_885 (by decide) ?_
  refine lw_iadd F dL_law_886 ?_
  refine lw_sld F h2 dL_law_887 ?_
  refine lw_aload_n F dL_law_888 rfl 0 rfl ?_
  refine lw_iload_n F dL_law_889 rfl 3 rfl ?_
  refine lw_iconst F (v := 3) dL_law_890 (by decide) ?_
  refine lw_iadd F dL_law_891 ?_
  refine lw_sld F h3 dL_law_892 ?_
  refine lw_aload_n F dL_law_893 rfl 0 rfl ?_
  refine lw_iload_n F dL_law_894 rfl 3 rfl ?_
  refine lw_iconst F (v := 4) dL_law_895 (by decide) ?_
  refine lw_iadd F dL_law_896 ?_
  refine lw_sld F h4 dL_law_897 ?_
  refine lw_callB F (r := r) (g' := g1) (nA := 4) 0 (c_X12_bargain (aL a) ZB _ _ _ _ _ r hb) gL_law_X12_bargain rfl ⟨rfl, rfl⟩ (by decide +kernel) ⟨Nat.le_of_ble_eq_true rfl, Nat.le_of_ble_eq_true rfl⟩ (show 0 < 20 by decide) (gM_0 ZB _) rfl rfl rfl (Nat.le_of_ble_eq_true rfl) dL_law_898 hf ?_
  refine lw_eq F (tgt := 1162) rfl dL_law_901 (by decide) ?_
  exact hk f1 g1 hR1
set_option maxHeartbeats 4000000 in
set_option maxRecDepth 100000 in
theorem law_found {a : Ax} {ZA ZB : Zx} {A : Nat → Prop} {Q : State → Prop} {b L : Nat} {xs : Nat → Int32} (F : FW a (XC ZA) (XM ZB) A b L xs) {Rel : (Nat → Nat → Int32) → (Nat → Nat → Int32) → Prop} (hS : Sim_found Rel) {ks ns : Nat} (hf : ks ≤ room_1.cells ∧ ns ≤ room_1.slots) {f g : Nat → Nat → Int32} (hR : Rel f g) {i : Int32} (h1 : vp_in (i + 1) L) (h2 : vp_in (i + 2) L) (h3 : vp_in (i + 3) L) (h4 : vp_in (i + 4) L) (h5 : vp_in (i + 5) L) (hk : ∀ f' g' : Nat → Nat → Int32, Rel f' g' → LW a (XC ZA) (XM ZB) A Q ks ns 1162 [(0, .ref b), (1, .ref (ZA.2.1 0)), (2, .ref (ZB.2.1 0)), (3, .int i)] [] f' g') : LW a (XC ZA) (XM ZB) A Q ks ns 906 [(0, .ref b), (1, .ref (ZA.2.1 0)), (2, .ref (ZB.2.1 0)), (3, .int i)] [] f g := by
  refine lw_aload_n F dL_law_906 rfl 1 rfl ?_
  refine lw_aload_n F dL_law_907 rfl 0 rfl ?_
  refine lw_iload_n F dL_law_908 rfl 3 rfl ?_
  refine lw_iconst F (v := 1) dL_law_909 (by decide) ?_
  refine lw_iadd F dL_law_910 ?_
  refine lw_sld F h1 dL_law_911 ?_
  obtain ⟨r, f1, g1, ha, hb, hR1⟩ := hS f g hR (xs (i + 1).toNatClampNeg)
  obtain ⟨ha, hfa⟩ := ha
  obtain ⟨hb, hgb⟩ := hb
  subst hfa
  subst hgb
  refine lw_callA F (r := r) (f' := f1) (nA := 1) 0 (c_X11_found (aL a) ZA _ _ r ha) gL_law_X11_found rfl ⟨rfl, rfl⟩ (by decide +kernel) ⟨Nat.le_of_ble_eq_true rfl, Nat.le_of_ble_eq_true rfl⟩ (show 0 < 39 by decide) (gC_0 ZA _) rfl rfl rfl (Nat.le_of_ble_eq_true rfl) dL_law_912 hf ?_
  refine lw_aload_n F dL_law_915 rfl 2 rfl ?_
  refine lw_aload_n F dL_law_916 rfl 0 rfl ?_
  refine lw_iload_n F dL_law_917 rfl 3 rfl ?_
  refine lw_iconst F (v := 1) dL_law_918 (by decide) ?_
  refine lw_iadd F dL_law_919 ?_
  refine lw_sld F h1 dL_law_920 ?_
  refine lw_callB F (r := r) (g' := g1) (nA := 1) 0 (c_X12_found (aL a) ZB _ _ r hb) gL_law_X12_found rfl ⟨rfl, rfl⟩ (by decide +kernel) ⟨Nat.le_of_ble_eq_true rfl, Nat.le_of_ble_eq_true rfl⟩ (show 0 < 20 by decide) (gM_0 ZB _) rfl rfl rfl (Nat.le_of_ble_eq_true rfl) dL_law_921 hf ?_
  refine lw_eq F (tgt := 1162) rfl dL_law_924 (by decide) ?_
  exact hk f1 g1 hR1
set_option maxHeartbeats 4000000 in
set_option maxRecDepth 100000 in
theorem law_say {a : Ax} {ZA ZB : Zx} {A : Nat → Prop} {Q : State → Prop} {b L : Nat} {xs : Nat → Int32} (F : FW a (XC ZA) (XM ZB) A b L xs) {Rel : (Nat → Nat → Int32) → (Nat → Nat → Int32) → Prop} (hS : Sim_say Rel) {ks ns : Nat} (hf : ks ≤ room_1.cells ∧ ns ≤ room_1.slots) {f g : Nat → Nat → Int32} (hR : Rel f g) {i : Int32} (h1 : vp_in (i + 1) L) (h2 : vp_in (i + 2) L) (h3 : vp_in (i + 3) L) (h4 : vp_in (i + 4) L) (h5 : vp_in (i + 5) L) (hk : ∀ f' g' : Nat → Nat → Int32, Rel f' g' → LW a (XC ZA) (XM ZB) A Q ks ns 1162 [(0, .ref b), (1, .ref (ZA.2.1 0)), (2, .ref (ZB.2.1 0)), (3, .int i)] [] f' g') : LW a (XC ZA) (XM ZB) A Q ks ns 929 [(0, .ref b), (1, .ref (ZA.2.1 0)), (2, .ref (ZB.2.1 0)), (3, .int i)] [] f g := by
  refine lw_aload_n F dL_law_929 rfl 1 rfl ?_
  refine lw_aload_n F dL_law_930 rfl 0 rfl ?_
  refine lw_iload_n F dL_law_931 rfl 3 rfl ?_
  refine lw_iconst F (v := 1) dL_law_932 (by decide) ?_
  refine lw_iadd F dL_law_933 ?_
  refine lw_sld F h1 dL_law_934 ?_
  refine lw_aload_n F dL_law_935 rfl 0 rfl ?_
  refine lw_iload_n F dL_law_936 rfl 3 rfl ?_
  refine lw_iconst F (v := 2) dL_law_937 (by decide) ?_
  refine lw_iadd F dL_law_938 ?_
  refine lw_sld F h2 dL_law_939 ?_
  obtain ⟨r, f1, g1, ha, hb, hR1⟩ := hS f g hR (xs (i + 1).toNatClampNeg) (xs (i + 2).toNatClampNeg)
  refine lw_callA F (r := r) (f' := f1) (nA := 2) 0 (c_X11_say (aL a) ZA _ _ _ (r, f1) ha) gL_law_X11_say rfl ⟨rfl, rfl⟩ (by decide +kernel) ⟨Nat.le_of_ble_eq_true rfl, Nat.le_of_ble_eq_true rfl⟩ (show 0 < 39 by decide) (gC_0 ZA _) rfl rfl rfl (Nat.le_of_ble_eq_true rfl) dL_law_940 hf ?_
  refine lw_aload_n F dL_law_943 rfl 2 rfl ?_
  refine lw_aload_n F dL_law_944 rfl 0 rfl ?_
  refine lw_iload_n F dL_law_945 rfl 3 rfl ?_
  refine lw_iconst F (v := 1) dL_law_946 (by decide) ?_
  refine lw_iadd F dL_law_947 ?_
  refine lw_sld F h1 dL_law_948 ?_
  refine lw_aload_n F dL_law_949 rfl 0 rfl ?_
  refine lw_iload_n F dL_law_950 rfl 3 rfl ?_
  refine lw_iconst F (v := 2) dL_law_951 (by decide) ?_
  refine lw_iadd F dL_law_952 ?_
  refine lw_sld F h2 dL_law_953 ?_
  refine lw_callB F (r := r) (g' := g1) (nA := 2) 0 (c_X12_say (aL a) ZB _ _ _ (r, g1) hb) gL_law_X12_say rfl ⟨rfl, rfl⟩ (by decide +kernel) ⟨Nat.le_of_ble_eq_true rfl, Nat.le_of_ble_eq_true rfl⟩ (show 0 < 20 by decide) (gM_0 ZB _) rfl rfl rfl (Nat.le_of_ble_eq_true rfl) dL_law_954 hf ?_
  refine lw_eq F (tgt := 1162) rfl dL_law_957 (by decide) ?_
  exact hk f1 g1 hR1
set_option maxHeartbeats 4000000 in
set_option maxRecDepth 100000 in
theorem law_births {a : Ax} {ZA ZB : Zx} {A : Nat → Prop} {Q : State → Prop} {b L : Nat} {xs : Nat → Int32} (F : FW a (XC ZA) (XM ZB) A b L xs) {Rel : (Nat → Nat → Int32) → (Nat → Nat → Int32) → Prop} (hS : Sim_births Rel) {ks ns : Nat} (hf : ks ≤ room_1.cells ∧ ns ≤ room_1.slots) {f g : Nat → Nat → Int32} (hR : Rel f g) {i : Int32} (h1 : vp_in (i + 1) L) (h2 : vp_in (i + 2) L) (h3 : vp_in (i + 3) L) (h4 : vp_in (i + 4) L) (h5 : vp_in (i + 5) L) (hk : ∀ f' g' : Nat → Nat → Int32, Rel f' g' → LW a (XC ZA) (XM ZB) A Q ks ns 1162 [(0, .ref b), (1, .ref (ZA.2.1 0)), (2, .ref (ZB.2.1 0)), (3, .int i)] [] f' g') : LW a (XC ZA) (XM ZB) A Q ks ns 962 [(0, .ref b), (1, .ref (ZA.2.1 0)), (2, .ref (ZB.2.1 0)), (3, .int i)] [] f g := by
  refine lw_aload_n F dL_law_962 rfl 1 rfl ?_
  refine lw_aload_n F dL_law_963 rfl 0 rfl ?_
  refine lw_iload_n F dL_law_964 rfl 3 rfl ?_
  refine lw_iconst F (v := 1) dL_law_965 (by decide) ?_
  refine lw_iadd F dL_law_966 ?_
  refine lw_sld F h1 dL_law_967 ?_
  obtain ⟨r, f1, g1, ha, hb, hR1⟩ := hS f g hR (xs (i + 1).toNatClampNeg)
  obtain ⟨hb, hgb⟩ := hb
  subst hgb
  refine lw_callA F (r := r) (f' := f1) (nA := 1) 0 (c_X11_births (aL a) ZA _ _ (r, f1) ha) gL_law_X11_births rfl ⟨rfl, rfl⟩ (by decide +kernel) ⟨Nat.le_of_ble_eq_true rfl, Nat.le_of_ble_eq_true rfl⟩ (show 0 < 39 by decide) (gC_0 ZA _) rfl rfl rfl (Nat.le_of_ble_eq_true rfl) dL_law_968 hf ?_
  refine lw_aload_n F dL_law_971 rfl 2 rfl ?_
  refine lw_aload_n F dL_law_972 rfl 0 rfl ?_
  refine lw_iload_n F dL_law_973 rfl 3 rfl ?_
  refine lw_iconst F (v := 1) dL_law_974 (by decide) ?_
  refine lw_iadd F dL_law_975 ?_
  refine lw_sld F h1 dL_law_976 ?_
  refine lw_callB F (r := r) (g' := g1) (nA := 1) 0 (c_X12_births (aL a) ZB _ _ r hb) gL_law_X12_births rfl ⟨rfl, rfl⟩ (by decide +kernel) ⟨Nat.le_of_ble_eq_true rfl, Nat.le_of_ble_eq_true rfl⟩ (show 0 < 20 by decide) (gM_0 ZB _) rfl rfl rfl (Nat.le_of_ble_eq_true rfl) dL_law_977 hf ?_
  refine lw_eq F (tgt := 1162) rfl dL_law_980 (by decide) ?_
  exact hk f1 g1 hR1
set_option maxHeartbeats 4000000 in
set_option maxRecDepth 100000 in
theorem law_liars {a : Ax} {ZA ZB : Zx} {A : Nat → Prop} {Q : State → Prop} {b L : Nat} {xs : Nat → Int32} (F : FW a (XC ZA) (XM ZB) A b L xs) {Rel : (Nat → Nat → Int32) → (Nat → Nat → Int32) → Prop} (hS : Sim_liars Rel) {ks ns : Nat} (hf : ks ≤ room_1.cells ∧ ns ≤ room_1.slots) {f g : Nat → Nat → Int32} (hR : Rel f g) {i : Int32} (h1 : vp_in (i + 1) L) (h2 : vp_in (i + 2) L) (h3 : vp_in (i + 3) L) (h4 : vp_in (i + 4) L) (h5 : vp_in (i + 5) L) (hk : ∀ f' g' : Nat → Nat → Int32, Rel f' g' → LW a (XC ZA) (XM ZB) A Q ks ns 1162 [(0, .ref b), (1, .ref (ZA.2.1 0)), (2, .ref (ZB.2.1 0)), (3, .int i)] [] f' g') : LW a (XC ZA) (XM ZB) A Q ks ns 985 [(0, .ref b), (1, .ref (ZA.2.1 0)), (2, .ref (ZB.2.1 0)), (3, .int i)] [] f g := by
  refine lw_aload_n F dL_law_985 rfl 1 rfl ?_
  refine lw_aload_n F dL_law_986 rfl 0 rfl ?_
  refine lw_iload_n F dL_law_987 rfl 3 rfl ?_
  refine lw_iconst F (v := 1) dL_law_988 (by decide) ?_
  refine lw_iadd F dL_law_989 ?_
  refine lw_sld F h1 dL_law_990 ?_
  obtain ⟨r, f1, g1, ha, hb, hR1⟩ := hS f g hR (xs (i + 1).toNatClampNeg)
  obtain ⟨ha, hfa⟩ := ha
  obtain ⟨hb, hgb⟩ := hb
  subst hfa
  subst hgb
  refine lw_callA F (r := r) (f' := f1) (nA := 1) 0 (c_X11_liars (aL a) ZA _ _ r ha) gL_law_X11_liars rfl ⟨rfl, rfl⟩ (by decide +kernel) ⟨Nat.le_of_ble_eq_true rfl, Nat.le_of_ble_eq_true rfl⟩ (show 0 < 39 by decide) (gC_0 ZA _) rfl rfl rfl (Nat.le_of_ble_eq_true rfl) dL_law_991 hf ?_
  refine lw_aload_n F dL_law_994 rfl 2 rfl ?_
  refine lw_aload_n F dL_law_995 rfl 0 rfl ?_
  refine lw_iload_n F dL_law_996 rfl 3 rfl ?_
  refine lw_iconst F (v := 1) dL_law_997 (by decide) ?_
  refine lw_iadd F dL_law_998 ?_
  refine lw_sld F h1 dL_law_999 ?_
  refine lw_callB F (r := r) (g' := g1) (nA := 1) 0 (c_X12_liars (aL a) ZB _ _ r hb) gL_law_X12_liars rfl ⟨rfl, rfl⟩ (by decide +kernel) ⟨Nat.le_of_ble_eq_true rfl, Nat.le_of_ble_eq_true rfl⟩ (show 0 < 20 by decide) (gM_0 ZB _) rfl rfl rfl (Nat.le_of_ble_eq_true rfl) dL_law_1000 hf ?_
  refine lw_eq F (tgt := 1162) rfl dL_law_1003 (by decide) ?_
  exact hk f1 g1 hR1
set_option maxHeartbeats 4000000 in
set_option maxRecDepth 100000 in
theorem law_leastLiars {a : Ax} {ZA ZB : Zx} {A : Nat → Prop} {Q : State → Prop} {b L : Nat} {xs : Nat → Int32} (F : FW a (XC ZA) (XM ZB) A b L xs) {Rel : (Nat → Nat → Int32) → (Nat → Nat → Int32) → Prop} (hS : Sim_leastLiars Rel) {ks ns : Nat} (hf : ks ≤ room_1.cells ∧ ns ≤ room_1.slots) {f g : Nat → Nat → Int32} (hR : Rel f g) {i : Int32} (h1 : vp_in (i + 1) L) (h2 : vp_in (i + 2) L) (h3 : vp_in (i + 3) L) (h4 : vp_in (i + 4) L) (h5 : vp_in (i + 5) L) (hk : ∀ f' g' : Nat → Nat → Int32, Rel f' g' → LW a (XC ZA) (XM ZB) A Q ks ns 1162 [(0, .ref b), (1, .ref (ZA.2.1 0)), (2, .ref (ZB.2.1 0)), (3, .int i)] [] f' g') : LW a (XC ZA) (XM ZB) A Q ks ns 1008 [(0, .ref b), (1, .ref (ZA.2.1 0)), (2, .ref (ZB.2.1 0)), (3, .int i)] [] f g := by
  refine lw_aload_n F dL_law_1008 rfl 1 rfl ?_
  refine lw_aload_n F dL_law_1009 rfl 0 rfl ?_
  refine lw_iload_n F dL_law_1010 rfl 3 rfl ?_
  refine lw_iconst F (v := 1) dL_law_1011 (by decide) ?_
  refine lw_iadd F dL_law_1012 ?_
  refine lw_sld F h1 dL_law_1013 ?_
  obtain ⟨r, f1, g1, ha, hb, hR1⟩ := hS f g hR (xs (i + 1).toNatClampNeg)
  obtain ⟨ha, hfa⟩ := ha
  obtain ⟨hb, hgb⟩ := hb
  subst hfa
  subst hgb
  refine lw_callA F (r := r) (f' := f1) (nA := 1) 0 (c_X11_leastLiars (aL a) ZA _ _ r ha) gL_law_X11_leastLiars rfl ⟨rfl, rfl⟩ (by decide +kernel) ⟨Nat.le_of_ble_eq_true rfl, Nat.le_of_ble_eq_true rfl⟩ (show 0 < 39 by decide) (gC_0 ZA _) rfl rfl rfl (Nat.le_of_ble_eq_true rfl) dL_law_1014 hf ?_
  refine lw_aload_n F dL_law_1017 rfl 2 rfl ?_
  refine lw_aload_n F dL_law_1018 rfl 0 rfl ?_
  refine lw_iload_n F dL_law_1019 rfl 3 rfl ?_
  refine lw_iconst F (v := 1) dL_law_1020 (by decide) ?_
  refine lw_iadd F dL_law_1021 ?_
  refine lw_sld F h1 dL_law_1022 ?_
  refine lw_callB F (r := r) (g' := g1) (nA := 1) 0 (c_X12_leastLiars (aL a) ZB _ _ r hb) gL_law_X12_leastLiars rfl ⟨rfl, rfl⟩ (by decide +kernel) ⟨Nat.le_of_ble_eq_true rfl, Nat.le_of_ble_eq_true rfl⟩ (show 0 < 20 by decide) (gM_0 ZB _) rfl rfl rfl (Nat.le_of_ble_eq_true rfl) dL_law_1023 hf ?_
  refine lw_eq F (tgt := 1162) rfl dL_law_1026 (by decide) ?_
  exact hk f1 g1 hR1
set_option maxHeartbeats 4000000 in
set_option maxRecDepth 100000 in
theorem law_ask {a : Ax} {ZA ZB : Zx} {A : Nat → Prop} {Q : State → Prop} {b L : Nat} {xs : Nat → Int32} (F : FW a (XC ZA) (XM ZB) A b L xs) {Rel : (Nat → Nat → Int32) → (Nat → Nat → Int32) → Prop} (hS : Sim_ask Rel) {ks ns : Nat} (hf : ks ≤ room_1.cells ∧ ns ≤ room_1.slots) {f g : Nat → Nat → Int32} (hR : Rel f g) {i : Int32} (h1 : vp_in (i + 1) L) (h2 : vp_in (i + 2) L) (h3 : vp_in (i + 3) L) (h4 : vp_in (i + 4) L) (h5 : vp_in (i + 5) L) (hk : ∀ f' g' : Nat → Nat → Int32, Rel f' g' → LW a (XC ZA) (XM ZB) A Q ks ns 1162 [(0, .ref b), (1, .ref (ZA.2.1 0)), (2, .ref (ZB.2.1 0)), (3, .int i)] [] f' g') : LW a (XC ZA) (XM ZB) A Q ks ns 1031 [(0, .ref b), (1, .ref (ZA.2.1 0)), (2, .ref (ZB.2.1 0)), (3, .int i)] [] f g := by
  refine lw_aload_n F dL_law_1031 rfl 1 rfl ?_
  obtain ⟨r, f1, g1, ha, hb, hR1⟩ := hS f g hR
  refine lw_callA F (r := r) (f' := f1) (nA := 0) 0 (c_X11_ask (aL a) ZA  _ (r, f1) ha) gL_law_X11_ask rfl ⟨rfl, rfl⟩ (by decide +kernel) ⟨Nat.le_of_ble_eq_true rfl, Nat.le_of_ble_eq_true rfl⟩ (show 0 < 39 by decide) (gC_0 ZA _) rfl rfl rfl (Nat.le_of_ble_eq_true rfl) dL_law_1032 hf ?_
  refine lw_aload_n F dL_law_1035 rfl 2 rfl ?_
  refine lw_callB F (r := r) (g' := g1) (nA := 0) 0 (c_X12_ask (aL a) ZB  _ (r, g1) hb) gL_law_X12_ask rfl ⟨rfl, rfl⟩ (by decide +kernel) ⟨Nat.le_of_ble_eq_true rfl, Nat.le_of_ble_eq_true rfl⟩ (show 0 < 20 by decide) (gM_0 ZB _) rfl rfl rfl (Nat.le_of_ble_eq_true rfl) dL_law_1036 hf ?_
  refine lw_eq F (tgt := 1162) rfl dL_law_1039 (by decide) ?_
  exact hk f1 g1 hR1
set_option maxHeartbeats 4000000 in
set_option maxRecDepth 100000 in
theorem law_write {a : Ax} {ZA ZB : Zx} {A : Nat → Prop} {Q : State → Prop} {b L : Nat} {xs : Nat → Int32} (F : FW a (XC ZA) (XM ZB) A b L xs) {Rel : (Nat → Nat → Int32) → (Nat → Nat → Int32) → Prop} (hS : Sim_write Rel) {ks ns : Nat} (hf : ks ≤ room_1.cells ∧ ns ≤ room_1.slots) {f g : Nat → Nat → Int32} (hR : Rel f g) {i : Int32} (h1 : vp_in (i + 1) L) (h2 : vp_in (i + 2) L) (h3 : vp_in (i + 3) L) (h4 : vp_in (i + 4) L) (h5 : vp_in (i + 5) L) (hk : ∀ f' g' : Nat → Nat → Int32, Rel f' g' → LW a (XC ZA) (XM ZB) A Q ks ns 1162 [(0, .ref b), (1, .ref (ZA.2.1 0)), (2, .ref (ZB.2.1 0)), (3, .int i)] [] f' g') : LW a (XC ZA) (XM ZB) A Q ks ns 1044 [(0, .ref b), (1, .ref (ZA.2.1 0)), (2, .ref (ZB.2.1 0)), (3, .int i)] [] f g := by
  refine lw_aload_n F dL_law_1044 rfl 1 rfl ?_
  refine lw_aload_n F dL_law_1045 rfl 0 rfl ?_
  refine lw_iload_n F dL_law_1046 rfl 3 rfl ?_
  refine lw_iconst F (v := 1) dL_law_1047 (by decide) ?_
  refine lw_iadd F dL_law_1048 ?_
  refine lw_sld F h1 dL_law_1049 ?_
  obtain ⟨r, f1, g1, ha, hb, hR1⟩ := hS f g hR (xs (i + 1).toNatClampNeg)
  refine lw_callA F (r := r) (f' := f1) (nA := 1) 0 (c_X11_write (aL a) ZA _ _ (r, f1) ha) gL_law_X11_write rfl ⟨rfl, rfl⟩ (by decide +kernel) ⟨Nat.le_of_ble_eq_true rfl, Nat.le_of_ble_eq_true rfl⟩ (show 0 < 39 by decide) (gC_0 ZA _) rfl rfl rfl (Nat.le_of_ble_eq_true rfl) dL_law_1050 hf ?_
  refine lw_aload_n F dL_law_1053 rfl 2 rfl ?_
  refine lw_aload_n F dL_law_1054 rfl 0 rfl ?_
  refine lw_iload_n F dL_law_1055 rfl 3 rfl ?_
  refine lw_iconst F (v := 1) dL_law_1056 (by decide) ?_
  refine lw_iadd F dL_law_1057 ?_
  refine lw_sld F h1 dL_law_1058 ?_
  refine lw_callB F (r := r) (g' := g1) (nA := 1) 0 (c_X12_write (aL a) ZB _ _ (r, g1) hb) gL_law_X12_write rfl ⟨rfl, rfl⟩ (by decide +kernel) ⟨Nat.le_of_ble_eq_true rfl, Nat.le_of_ble_eq_true rfl⟩ (show 0 < 20 by decide) (gM_0 ZB _) rfl rfl rfl (Nat.le_of_ble_eq_true rfl) dL_law_1059 hf ?_
  refine lw_eq F (tgt := 1162) rfl dL_law_1062 (by decide) ?_
  exact hk f1 g1 hR1
set_option maxHeartbeats 4000000 in
set_option maxRecDepth 100000 in
theorem law_tear {a : Ax} {ZA ZB : Zx} {A : Nat → Prop} {Q : State → Prop} {b L : Nat} {xs : Nat → Int32} (F : FW a (XC ZA) (XM ZB) A b L xs) {Rel : (Nat → Nat → Int32) → (Nat → Nat → Int32) → Prop} (hS : Sim_tear Rel) {ks ns : Nat} (hf : ks ≤ room_1.cells ∧ ns ≤ room_1.slots) {f g : Nat → Nat → Int32} (hR : Rel f g) {i : Int32} (h1 : vp_in (i + 1) L) (h2 : vp_in (i + 2) L) (h3 : vp_in (i + 3) L) (h4 : vp_in (i + 4) L) (h5 : vp_in (i + 5) L) (hk : ∀ f' g' : Nat → Nat → Int32, Rel f' g' → LW a (XC ZA) (XM ZB) A Q ks ns 1162 [(0, .ref b), (1, .ref (ZA.2.1 0)), (2, .ref (ZB.2.1 0)), (3, .int i)] [] f' g') : LW a (XC ZA) (XM ZB) A Q ks ns 1067 [(0, .ref b), (1, .ref (ZA.2.1 0)), (2, .ref (ZB.2.1 0)), (3, .int i)] [] f g := by
  refine lw_aload_n F dL_law_1067 rfl 1 rfl ?_
  obtain ⟨r, f1, g1, ha, hb, hR1⟩ := hS f g hR
  refine lw_callA F (r := r) (f' := f1) (nA := 0) 0 (c_X11_tear (aL a) ZA  _ (r, f1) ha) gL_law_X11_tear rfl ⟨rfl, rfl⟩ (by decide +kernel) ⟨Nat.le_of_ble_eq_true rfl, Nat.le_of_ble_eq_true rfl⟩ (show 0 < 39 by decide) (gC_0 ZA _) rfl rfl rfl (Nat.le_of_ble_eq_true rfl) dL_law_1068 hf ?_
  refine lw_aload_n F dL_law_1071 rfl 2 rfl ?_
  refine lw_callB F (r := r) (g' := g1) (nA := 0) 0 (c_X12_tear (aL a) ZB  _ (r, g1) hb) gL_law_X12_tear rfl ⟨rfl, rfl⟩ (by decide +kernel) ⟨Nat.le_of_ble_eq_true rfl, Nat.le_of_ble_eq_true rfl⟩ (show 0 < 20 by decide) (gM_0 ZB _) rfl rfl rfl (Nat.le_of_ble_eq_true rfl) dL_law_1072 hf ?_
  refine lw_eq F (tgt := 1162) rfl dL_law_1075 (by decide) ?_
  exact hk f1 g1 hR1
set_option maxHeartbeats 4000000 in
set_option maxRecDepth 100000 in
theorem law_judge {a : Ax} {ZA ZB : Zx} {A : Nat → Prop} {Q : State → Prop} {b L : Nat} {xs : Nat → Int32} (F : FW a (XC ZA) (XM ZB) A b L xs) {Rel : (Nat → Nat → Int32) → (Nat → Nat → Int32) → Prop} (hS : Sim_judge Rel) {ks ns : Nat} (hf : ks ≤ room_1.cells ∧ ns ≤ room_1.slots) {f g : Nat → Nat → Int32} (hR : Rel f g) {i : Int32} (h1 : vp_in (i + 1) L) (h2 : vp_in (i + 2) L) (h3 : vp_in (i + 3) L) (h4 : vp_in (i + 4) L) (h5 : vp_in (i + 5) L) (hk : ∀ f' g' : Nat → Nat → Int32, Rel f' g' → LW a (XC ZA) (XM ZB) A Q ks ns 1162 [(0, .ref b), (1, .ref (ZA.2.1 0)), (2, .ref (ZB.2.1 0)), (3, .int i)] [] f' g') : LW a (XC ZA) (XM ZB) A Q ks ns 1080 [(0, .ref b), (1, .ref (ZA.2.1 0)), (2, .ref (ZB.2.1 0)), (3, .int i)] [] f g := by
  refine lw_aload_n F dL_law_1080 rfl 1 rfl ?_
  obtain ⟨r, f1, g1, ha, hb, hR1⟩ := hS f g hR
  obtain ⟨ha, hfa⟩ := ha
  obtain ⟨hb, hgb⟩ := hb
  subst hfa
  subst hgb
  refine lw_callA F (r := r) (f' := f1) (nA := 0) 0 (c_X11_judge (aL a) ZA  _ r ha) gL_law_X11_judge rfl ⟨rfl, rfl⟩ (by decide +kernel) ⟨Nat.le_of_ble_eq_true rfl, Nat.le_of_ble_eq_true rfl⟩ (show 0 < 39 by decide) (gC_0 ZA _) rfl rfl rfl (Nat.le_of_ble_eq_true rfl) dL_law_1081 hf ?_
  refine lw_aload_n F dL_law_1084 rfl 2 rfl ?_
  refine lw_callB F (r := r) (g' := g1) (nA := 0) 0 (c_X12_judge (aL a) ZB  _ r hb) gL_law_X12_judge rfl ⟨rfl, rfl⟩ (by decide +kernel) ⟨Nat.le_of_ble_eq_true rfl, Nat.le_of_ble_eq_true rfl⟩ (show 0 < 20 by decide) (gM_0 ZB _) rfl rfl rfl (Nat.le_of_ble_eq_true rfl) dL_law_1085 hf ?_
  refine lw_eq F (tgt := 1162) rfl dL_law_1088 (by decide) ?_
  exact hk f1 g1 hR1
set_option maxHeartbeats 4000000 in
set_option maxRecDepth 100000 in
theorem law_seed {a : Ax} {ZA ZB : Zx} {A : Nat → Prop} {Q : State → Prop} {b L : Nat} {xs : Nat → Int32} (F : FW a (XC ZA) (XM ZB) A b L xs) {Rel : (Nat → Nat → Int32) → (Nat → Nat → Int32) → Prop} (hS : Sim_seed Rel) {ks ns : Nat} (hf : ks ≤ room_1.cells ∧ ns ≤ room_1.slots) {f g : Nat → Nat → Int32} (hR : Rel f g) {i : Int32} (h1 : vp_in (i + 1) L) (h2 : vp_in (i + 2) L) (h3 : vp_in (i + 3) L) (h4 : vp_in (i + 4) L) (h5 : vp_in (i + 5) L) (hk : ∀ f' g' : Nat → Nat → Int32, Rel f' g' → LW a (XC ZA) (XM ZB) A Q ks ns 1162 [(0, .ref b), (1, .ref (ZA.2.1 0)), (2, .ref (ZB.2.1 0)), (3, .int i)] [] f' g') : LW a (XC ZA) (XM ZB) A Q ks ns 1093 [(0, .ref b), (1, .ref (ZA.2.1 0)), (2, .ref (ZB.2.1 0)), (3, .int i)] [] f g := by
  refine lw_aload_n F dL_law_1093 rfl 1 rfl ?_
  refine lw_aload_n F dL_law_1094 rfl 0 rfl ?_
  refine lw_iload_n F dL_law_1095 rfl 3 rfl ?_
  refine lw_iconst F (v := 1) dL_law_1096 (by decide) ?_
  refine lw_iadd F dL_law_1097 ?_
  refine lw_sld F h1 dL_law_1098 ?_
  obtain ⟨r, f1, g1, ha, hb, hR1⟩ := hS f g hR (xs (i + 1).toNatClampNeg)
  refine lw_callA F (r := r) (f' := f1) (nA := 1) 0 (c_X11_seed (aL a) ZA _ _ (r, f1) ha) gL_law_X11_seed rfl ⟨rfl, rfl⟩ (by decide +kernel) ⟨Nat.le_of_ble_eq_true rfl, Nat.le_of_ble_eq_true rfl⟩ (show 0 < 39 by decide) (gC_0 ZA _) rfl rfl rfl (Nat.le_of_ble_eq_true rfl) dL_law_1099 hf ?_
  refine lw_aload_n F dL_law_1102 rfl 2 rfl ?_
  refine lw_aload_n F dL_law_1103 rfl 0 rfl ?_
  refine lw_iload_n F dL_law_1104 rfl 3 rfl ?_
  refine lw_iconst F (v := 1) dL_law_1105 (by decide) ?_
  refine lw_iadd F dL_law_1106 ?_
  refine lw_sld F h1 dL_law_1107 ?_
  refine lw_callB F (r := r) (g' := g1) (nA := 1) 0 (c_X12_seed (aL a) ZB _ _ (r, g1) hb) gL_law_X12_seed rfl ⟨rfl, rfl⟩ (by decide +kernel) ⟨Nat.le_of_ble_eq_true rfl, Nat.le_of_ble_eq_true rfl⟩ (show 0 < 20 by decide) (gM_0 ZB _) rfl rfl rfl (Nat.le_of_ble_eq_true rfl) dL_law_1108 hf ?_
  refine lw_eq F (tgt := 1162) rfl dL_law_1111 (by decide) ?_
  exact hk f1 g1 hR1
set_option maxHeartbeats 4000000 in
set_option maxRecDepth 100000 in
theorem law_keep {a : Ax} {ZA ZB : Zx} {A : Nat → Prop} {Q : State → Prop} {b L : Nat} {xs : Nat → Int32} (F : FW a (XC ZA) (XM ZB) A b L xs) {Rel : (Nat → Nat → Int32) → (Nat → Nat → Int32) → Prop} (hS : Sim_keep Rel) {ks ns : Nat} (hf : ks ≤ room_1.cells ∧ ns ≤ room_1.slots) {f g : Nat → Nat → Int32} (hR : Rel f g) {i : Int32} (h1 : vp_in (i + 1) L) (h2 : vp_in (i + 2) L) (h3 : vp_in (i + 3) L) (h4 : vp_in (i + 4) L) (h5 : vp_in (i + 5) L) (hk : ∀ f' g' : Nat → Nat → Int32, Rel f' g' → LW a (XC ZA) (XM ZB) A Q ks ns 1162 [(0, .ref b), (1, .ref (ZA.2.1 0)), (2, .ref (ZB.2.1 0)), (3, .int i)] [] f' g') : LW a (XC ZA) (XM ZB) A Q ks ns 1116 [(0, .ref b), (1, .ref (ZA.2.1 0)), (2, .ref (ZB.2.1 0)), (3, .int i)] [] f g := by
  refine lw_aload_n F dL_law_1116 rfl 1 rfl ?_
  refine lw_aload_n F dL_law_1117 rfl 0 rfl ?_
  refine lw_iload_n F dL_law_1118 rfl 3 rfl ?_
  refine lw_iconst F (v := 1) dL_law_1119 (by decide) ?_
  refine lw_iadd F dL_law_1120 ?_
  refine lw_sld F h1 dL_law_1121 ?_
  obtain ⟨r, f1, g1, ha, hb, hR1⟩ := hS f g hR (xs (i + 1).toNatClampNeg)
  refine lw_callA F (r := r) (f' := f1) (nA := 1) 0 (c_X11_keep (aL a) ZA _ _ (r, f1) ha) gL_law_X11_keep rfl ⟨rfl, rfl⟩ (by decide +kernel) ⟨Nat.le_of_ble_eq_true rfl, Nat.le_of_ble_eq_true rfl⟩ (show 0 < 39 by decide) (gC_0 ZA _) rfl rfl rfl (Nat.le_of_ble_eq_true rfl) dL_law_1122 hf ?_
  refine lw_aload_n F dL_law_1125 rfl 2 rfl ?_
  refine lw_aload_n F dL_law_1126 rfl 0 rfl ?_
  refine lw_iload_n F dL_law_1127 rfl 3 rfl ?_
  refine lw_iconst F (v := 1) dL_law_1128 (by decide) ?_
  refine lw_iadd F dL_law_1129 ?_
  refine lw_sld F h1 dL_law_1130 ?_
  refine lw_callB F (r := r) (g' := g1) (nA := 1) 0 (c_X12_keep (aL a) ZB _ _ (r, g1) hb) gL_law_X12_keep rfl ⟨rfl, rfl⟩ (by decide +kernel) ⟨Nat.le_of_ble_eq_true rfl, Nat.le_of_ble_eq_true rfl⟩ (show 0 < 20 by decide) (gM_0 ZB _) rfl rfl rfl (Nat.le_of_ble_eq_true rfl) dL_law_1131 hf ?_
  refine lw_eq F (tgt := 1162) rfl dL_law_1134 (by decide) ?_
  exact hk f1 g1 hR1
set_option maxHeartbeats 4000000 in
set_option maxRecDepth 100000 in
theorem law_goBack {a : Ax} {ZA ZB : Zx} {A : Nat → Prop} {Q : State → Prop} {b L : Nat} {xs : Nat → Int32} (F : FW a (XC ZA) (XM ZB) A b L xs) {Rel : (Nat → Nat → Int32) → (Nat → Nat → Int32) → Prop} (hS : Sim_goBack Rel) {ks ns : Nat} (hf : ks ≤ room_1.cells ∧ ns ≤ room_1.slots) {f g : Nat → Nat → Int32} (hR : Rel f g) {i : Int32} (h1 : vp_in (i + 1) L) (h2 : vp_in (i + 2) L) (h3 : vp_in (i + 3) L) (h4 : vp_in (i + 4) L) (h5 : vp_in (i + 5) L) (hk : ∀ f' g' : Nat → Nat → Int32, Rel f' g' → LW a (XC ZA) (XM ZB) A Q ks ns 1162 [(0, .ref b), (1, .ref (ZA.2.1 0)), (2, .ref (ZB.2.1 0)), (3, .int i)] [] f' g') : LW a (XC ZA) (XM ZB) A Q ks ns 1139 [(0, .ref b), (1, .ref (ZA.2.1 0)), (2, .ref (ZB.2.1 0)), (3, .int i)] [] f g := by
  refine lw_aload_n F dL_law_1139 rfl 1 rfl ?_
  refine lw_aload_n F dL_law_1140 rfl 0 rfl ?_
  refine lw_iload_n F dL_law_1141 rfl 3 rfl ?_
  refine lw_iconst F (v := 1) dL_law_1142 (by decide) ?_
  refine lw_iadd F dL_law_1143 ?_
  refine lw_sld F h1 dL_law_1144 ?_
  obtain ⟨r, f1, g1, ha, hb, hR1⟩ := hS f g hR (xs (i + 1).toNatClampNeg)
  refine lw_callA F (r := r) (f' := f1) (nA := 1) 0 (c_X11_goBack (aL a) ZA _ _ (r, f1) ha) gL_law_X11_goBack rfl ⟨rfl, rfl⟩ (by decide +kernel) ⟨Nat.le_of_ble_eq_true rfl, Nat.le_of_ble_eq_true rfl⟩ (show 0 < 39 by decide) (gC_0 ZA _) rfl rfl rfl (Nat.le_of_ble_eq_true rfl) dL_law_1145 hf ?_
  refine lw_aload_n F dL_law_1148 rfl 2 rfl ?_
  refine lw_aload_n F dL_law_1149 rfl 0 rfl ?_
  refine lw_iload_n F dL_law_1150 rfl 3 rfl ?_
  refine lw_iconst F (v := 1) dL_law_1151 (by decide) ?_
  refine lw_iadd F dL_law_1152 ?_
  refine lw_sld F h1 dL_law_1153 ?_
  refine lw_callB F (r := r) (g' := g1) (nA := 1) 0 (c_X12_goBack (aL a) ZB _ _ (r, g1) hb) gL_law_X12_goBack rfl ⟨rfl, rfl⟩ (by decide +kernel) ⟨Nat.le_of_ble_eq_true rfl, Nat.le_of_ble_eq_true rfl⟩ (show 0 < 20 by decide) (gM_0 ZB _) rfl rfl rfl (Nat.le_of_ble_eq_true rfl) dL_law_1154 hf ?_
  refine lw_eq F (tgt := 1162) rfl dL_law_1157 (by decide) ?_
  exact hk f1 g1 hR1
def SimAll (Rel : (Nat → Nat → Int32) → (Nat → Nat → Int32) → Prop) : Prop := Sim_feed Rel ∧ Sim_house Rel ∧ Sim_fault Rel ∧ Sim_told Rel ∧ Sim_thick Rel ∧ Sim_sound Rel ∧ Sim_witness Rel ∧ Sim_morning Rel ∧ Sim_move Rel ∧ Sim_wall Rel ∧ Sim_wind Rel ∧ Sim_drift Rel ∧ Sim_undo Rel ∧ Sim_comes Rel ∧ Sim_says Rel ∧ Sim_listen Rel ∧ Sim_deaf Rel ∧ Sim_ears Rel ∧ Sim_alike Rel ∧ Sim_hides Rel ∧ Sim_midwife Rel ∧ Sim_bargain Rel ∧ Sim_found Rel ∧ Sim_say Rel ∧ Sim_births Rel ∧ Sim_liars Rel ∧ Sim_leastLiars Rel ∧ Sim_ask Rel ∧ Sim_write Rel ∧ Sim_tear Rel ∧ Sim_judge Rel ∧ Sim_seed Rel ∧ Sim_keep Rel ∧ Sim_goBack Rel
set_option maxHeartbeats 4000000 in
set_option maxRecDepth 100000 in
theorem law_switch {a : Ax} {ZA ZB : Zx} {A : Nat → Prop} {Q : State → Prop} {b L : Nat} {xs : Nat → Int32} (F : FW a (XC ZA) (XM ZB) A b L xs) {Rel : (Nat → Nat → Int32) → (Nat → Nat → Int32) → Prop} (hS : SimAll Rel) {ks ns : Nat} (hf : ks ≤ room_1.cells ∧ ns ≤ room_1.slots) {f g : Nat → Nat → Int32} (hR : Rel f g) {i : Int32} (h1 : vp_in (i + 1) L) (h2 : vp_in (i + 2) L) (h3 : vp_in (i + 3) L) (h4 : vp_in (i + 4) L) (h5 : vp_in (i + 5) L) (hk : ∀ f' g' : Nat → Nat → Int32, Rel f' g' → LW a (XC ZA) (XM ZB) A Q ks ns 1162 [(0, .ref b), (1, .ref (ZA.2.1 0)), (2, .ref (ZB.2.1 0)), (3, .int i)] [] f' g') (x : Int32) : LW a (XC ZA) (XM ZB) A Q ks ns 33 [(0, .ref b), (1, .ref (ZA.2.1 0)), (2, .ref (ZB.2.1 0)), (3, .int i)] [.int x] f g := by
  by_cases e0 : x = 0
  · exact lw_tableIn F (tgt := 184) dL_law_33 (by rw [e0]; decide) (by rw [e0]; decide) (by rw [e0]; rfl) (by decide) (law_feed F (hS.1) hf hR h1 h2 h3 h4 h5 hk)
  by_cases e1 : x = 1
  · exact lw_tableIn F (tgt := 207) dL_law_33 (by rw [e1]; decide) (by rw [e1]; decide) (by rw [e1]; rfl) (by decide) (law_house F (hS.2.1) hf hR h1 h2 h3 h4 h5 hk)
  by_cases e2 : x = 2
  · exact lw_tableIn F (tgt := 220) dL_law_33 (by rw [e2]; decide) (by rw [e2]; decide) (by rw [e2]; rfl) (by decide) (law_fault F (hS.2.2.1) hf hR h1 h2 h3 h4 h5 hk)
  by_cases e3 : x = 3
  · exact lw_tableIn F (tgt := 233) dL_law_33 (by rw [e3]; decide) (by rw [e3]; decide) (by rw [e3]; rfl) (by decide) (law_told F (hS.2.2.2.1) hf hR h1 h2 h3 h4 h5 hk)
  by_cases e4 : x = 4
  · exact lw_tableIn F (tgt := 256) dL_law_33 (by rw [e4]; decide) (by rw [e4]; decide) (by rw [e4]; rfl) (by decide) (law_thick F (hS.2.2.2.2.1) hf hR h1 h2 h3 h4 h5 hk)
  by_cases e5 : x = 5
  · exact lw_tableIn F (tgt := 279) dL_law_33 (by rw [e5]; decide) (by rw [e5]; decide) (by rw [e5]; rfl) (by decide) (law_sound F (hS.2.2.2.2.2.1) hf hR h1 h2 h3 h4 h5 hk)
  by_cases e6 : x = 6
  · exact lw_tableIn F (tgt := 312) dL_law_33 (by rw [e6]; decide) (by rw [e6]; decide) (by rw [e6]; rfl) (by decide) (law_witness F (hS.2.2.2.2.2.2.1) hf hR h1 h2 h3 h4 h5 hk)
  by_cases e7 : x = 7
  · exact lw_tableIn F (tgt := 345) dL_law_33 (by rw [e7]; decide) (by rw [e7]; decide) (by rw [e7]; rfl) (by decide) (law_morning F (hS.2.2.2.2.2.2.2.1) hf hR h1 h2 h3 h4 h5 hk)
  by_cases e8 : x = 8
  · exact lw_tableIn F (tgt := 378) dL_law_33 (by rw [e8]; decide) (by rw [e8]; decide) (by rw [e8]; rfl) (by decide) (law_move F (hS.2.2.2.2.2.2.2.2.1) hf hR h1 h2 h3 h4 h5 hk)
  by_cases e9 : x = 9
  · exact lw_tableIn F (tgt := 411) dL_law_33 (by rw [e9]; decide) (by rw [e9]; decide) (by rw [e9]; rfl) (by decide) (law_wall F (hS.2.2.2.2.2.2.2.2.2.1) hf hR h1 h2 h3 h4 h5 hk)
  by_cases e10 : x = 10
  · exact lw_tableIn F (tgt := 444) dL_law_33 (by rw [e10]; decide) (by rw [e10]; decide) (by rw [e10]; rfl) (by decide) (law_wind F (hS.2.2.2.2.2.2.2.2.2.2.1) hf hR h1 h2 h3 h4 h5 hk)
  by_cases e11 : x = 11
  · exact lw_tableIn F (tgt := 467) dL_law_33 (by rw [e11]; decide) (by rw [e11]; decide) (by rw [e11]; rfl) (by decide) (law_drift F (hS.2.2.2.2.2.2.2.2.2.2.2.1) hf hR h1 h2 h3 h4 h5 hk)
  by_cases e12 : x = 12
  · exact lw_tableIn F (tgt := 490) dL_law_33 (by rw [e12]; decide) (by rw [e12]; decide) (by rw [e12]; rfl) (by decide) (law_undo F (hS.2.2.2.2.2.2.2.2.2.2.2.2.1) hf hR h1 h2 h3 h4 h5 hk)
  by_cases e13 : x = 13
  · exact lw_tableIn F (tgt := 503) dL_law_33 (by rw [e13]; decide) (by rw [e13]; decide) (by rw [e13]; rfl) (by decide) (law_comes F (hS.2.2.2.2.2.2.2.2.2.2.2.2.2.1) hf hR h1 h2 h3 h4 h5 hk)
  by_cases e14 : x = 14
  · exact lw_tableIn F (tgt := 546) dL_law_33 (by rw [e14]; decide) (by rw [e14]; decide) (by rw [e14]; rfl) (by decide) (law_says F (hS.2.2.2.2.2.2.2.2.2.2.2.2.2.2.1) hf hR h1 h2 h3 h4 h5 hk)
  by_cases e15 : x = 15
  · exact lw_tableIn F (tgt := 589) dL_law_33 (by rw [e15]; decide) (by rw [e15]; decide) (by rw [e15]; rfl) (by decide) (law_listen F (hS.2.2.2.2.2.2.2.2.2.2.2.2.2.2.2.1) hf hR h1 h2 h3 h4 h5 hk)
  by_cases e16 : x = 16
  · exact lw_tableIn F (tgt := 632) dL_law_33 (by rw [e16]; decide) (by rw [e16]; decide) (by rw [e16]; rfl) (by decide) (law_deaf F (hS.2.2.2.2.2.2.2.2.2.2.2.2.2.2.2.2.1) hf hR h1 h2 h3 h4 h5 hk)
  by_cases e17 : x = 17
  · exact lw_tableIn F (tgt := 655) dL_law_33 (by rw [e17]; decide) (by rw [e17]; decide) (by rw [e17]; rfl) (by decide) (law_ears F (hS.2.2.2.2.2.2.2.2.2.2.2.2.2.2.2.2.2.1) hf hR h1 h2 h3 h4 h5 hk)
  by_cases e18 : x = 18
  · exact lw_tableIn F (tgt := 698) dL_law_33 (by rw [e18]; decide) (by rw [e18]; decide) (by rw [e18]; rfl) (by decide) (law_alike F (hS.2.2.2.2.2.2.2.2.2.2.2.2.2.2.2.2.2.2.1) hf hR h1 h2 h3 h4 h5 hk)
  by_cases e19 : x = 19
  · exact lw_tableIn F (tgt := 731) dL_law_33 (by rw [e19]; decide) (by rw [e19]; decide) (by rw [e19]; rfl) (by decide) (law_hides F (hS.2.2.2.2.2.2.2.2.2.2.2.2.2.2.2.2.2.2.2.1) hf hR h1 h2 h3 h4 h5 hk)
  by_cases e20 : x = 20
  · exact lw_tableIn F (tgt := 774) dL_law_33 (by rw [e20]; decide) (by rw [e20]; decide) (by rw [e20]; rfl) (by decide) (law_midwife F (hS.2.2.2.2.2.2.2.2.2.2.2.2.2.2.2.2.2.2.2.2.1) hf hR h1 h2 h3 h4 h5 hk)
  by_cases e21 : x = 21
  · exact lw_tableIn F (tgt := 853) dL_law_33 (by rw [e21]; decide) (by rw [e21]; decide) (by rw [e21]; rfl) (by decide) (law_bargain F (hS.2.2.2.2.2.2.2.2.2.2.2.2.2.2.2.2.2.2.2.2.2.1) hf hR h1 h2 h3 h4 h5 hk)
  by_cases e22 : x = 22
  · exact lw_tableIn F (tgt := 906) dL_law_33 (by rw [e22]; decide) (by rw [e22]; decide) (by rw [e22]; rfl) (by decide) (law_found F (hS.2.2.2.2.2.2.2.2.2.2.2.2.2.2.2.2.2.2.2.2.2.2.1) hf hR h1 h2 h3 h4 h5 hk)
  by_cases e23 : x = 23
  · exact lw_tableIn F (tgt := 929) dL_law_33 (by rw [e23]; decide) (by rw [e23]; decide) (by rw [e23]; rfl) (by decide) (law_say F (hS.2.2.2.2.2.2.2.2.2.2.2.2.2.2.2.2.2.2.2.2.2.2.2.1) hf hR h1 h2 h3 h4 h5 hk)
  by_cases e24 : x = 24
  · exact lw_tableIn F (tgt := 962) dL_law_33 (by rw [e24]; decide) (by rw [e24]; decide) (by rw [e24]; rfl) (by decide) (law_births F (hS.2.2.2.2.2.2.2.2.2.2.2.2.2.2.2.2.2.2.2.2.2.2.2.2.1) hf hR h1 h2 h3 h4 h5 hk)
  by_cases e25 : x = 25
  · exact lw_tableIn F (tgt := 985) dL_law_33 (by rw [e25]; decide) (by rw [e25]; decide) (by rw [e25]; rfl) (by decide) (law_liars F (hS.2.2.2.2.2.2.2.2.2.2.2.2.2.2.2.2.2.2.2.2.2.2.2.2.2.1) hf hR h1 h2 h3 h4 h5 hk)
  by_cases e26 : x = 26
  · exact lw_tableIn F (tgt := 1008) dL_law_33 (by rw [e26]; decide) (by rw [e26]; decide) (by rw [e26]; rfl) (by decide) (law_leastLiars F (hS.2.2.2.2.2.2.2.2.2.2.2.2.2.2.2.2.2.2.2.2.2.2.2.2.2.2.1) hf hR h1 h2 h3 h4 h5 hk)
  by_cases e27 : x = 27
  · exact lw_tableIn F (tgt := 1031) dL_law_33 (by rw [e27]; decide) (by rw [e27]; decide) (by rw [e27]; rfl) (by decide) (law_ask F (hS.2.2.2.2.2.2.2.2.2.2.2.2.2.2.2.2.2.2.2.2.2.2.2.2.2.2.2.1) hf hR h1 h2 h3 h4 h5 hk)
  by_cases e28 : x = 28
  · exact lw_tableIn F (tgt := 1044) dL_law_33 (by rw [e28]; decide) (by rw [e28]; decide) (by rw [e28]; rfl) (by decide) (law_write F (hS.2.2.2.2.2.2.2.2.2.2.2.2.2.2.2.2.2.2.2.2.2.2.2.2.2.2.2.2.1) hf hR h1 h2 h3 h4 h5 hk)
  by_cases e29 : x = 29
  · exact lw_tableIn F (tgt := 1067) dL_law_33 (by rw [e29]; decide) (by rw [e29]; decide) (by rw [e29]; rfl) (by decide) (law_tear F (hS.2.2.2.2.2.2.2.2.2.2.2.2.2.2.2.2.2.2.2.2.2.2.2.2.2.2.2.2.2.1) hf hR h1 h2 h3 h4 h5 hk)
  by_cases e30 : x = 30
  · exact lw_tableIn F (tgt := 1080) dL_law_33 (by rw [e30]; decide) (by rw [e30]; decide) (by rw [e30]; rfl) (by decide) (law_judge F (hS.2.2.2.2.2.2.2.2.2.2.2.2.2.2.2.2.2.2.2.2.2.2.2.2.2.2.2.2.2.2.1) hf hR h1 h2 h3 h4 h5 hk)
  by_cases e31 : x = 31
  · exact lw_tableIn F (tgt := 1093) dL_law_33 (by rw [e31]; decide) (by rw [e31]; decide) (by rw [e31]; rfl) (by decide) (law_seed F (hS.2.2.2.2.2.2.2.2.2.2.2.2.2.2.2.2.2.2.2.2.2.2.2.2.2.2.2.2.2.2.2.1) hf hR h1 h2 h3 h4 h5 hk)
  by_cases e32 : x = 32
  · exact lw_tableIn F (tgt := 1116) dL_law_33 (by rw [e32]; decide) (by rw [e32]; decide) (by rw [e32]; rfl) (by decide) (law_keep F (hS.2.2.2.2.2.2.2.2.2.2.2.2.2.2.2.2.2.2.2.2.2.2.2.2.2.2.2.2.2.2.2.2.1) hf hR h1 h2 h3 h4 h5 hk)
  by_cases e33 : x = 33
  · exact lw_tableIn F (tgt := 1139) dL_law_33 (by rw [e33]; decide) (by rw [e33]; decide) (by rw [e33]; rfl) (by decide) (law_goBack F (hS.2.2.2.2.2.2.2.2.2.2.2.2.2.2.2.2.2.2.2.2.2.2.2.2.2.2.2.2.2.2.2.2.2) hf hR h1 h2 h3 h4 h5 hk)
  refine lw_tableOut F (tgt := 1162) dL_law_33 ?_ (by decide) (hk f g hR)
  have n0 : x.toInt ≠ 0 := lv_neT e0 rfl
  have n1 : x.toInt ≠ 1 := lv_neT e1 rfl
  have n2 : x.toInt ≠ 2 := lv_neT e2 rfl
  have n3 : x.toInt ≠ 3 := lv_neT e3 rfl
  have n4 : x.toInt ≠ 4 := lv_neT e4 rfl
  have n5 : x.toInt ≠ 5 := lv_neT e5 rfl
  have n6 : x.toInt ≠ 6 := lv_neT e6 rfl
  have n7 : x.toInt ≠ 7 := lv_neT e7 rfl
  have n8 : x.toInt ≠ 8 := lv_neT e8 rfl
  have n9 : x.toInt ≠ 9 := lv_neT e9 rfl
  have n10 : x.toInt ≠ 10 := lv_neT e10 rfl
  have n11 : x.toInt ≠ 11 := lv_neT e11 rfl
  have n12 : x.toInt ≠ 12 := lv_neT e12 rfl
  have n13 : x.toInt ≠ 13 := lv_neT e13 rfl
  have n14 : x.toInt ≠ 14 := lv_neT e14 rfl
  have n15 : x.toInt ≠ 15 := lv_neT e15 rfl
  have n16 : x.toInt ≠ 16 := lv_neT e16 rfl
  have n17 : x.toInt ≠ 17 := lv_neT e17 rfl
  have n18 : x.toInt ≠ 18 := lv_neT e18 rfl
  have n19 : x.toInt ≠ 19 := lv_neT e19 rfl
  have n20 : x.toInt ≠ 20 := lv_neT e20 rfl
  have n21 : x.toInt ≠ 21 := lv_neT e21 rfl
  have n22 : x.toInt ≠ 22 := lv_neT e22 rfl
  have n23 : x.toInt ≠ 23 := lv_neT e23 rfl
  have n24 : x.toInt ≠ 24 := lv_neT e24 rfl
  have n25 : x.toInt ≠ 25 := lv_neT e25 rfl
  have n26 : x.toInt ≠ 26 := lv_neT e26 rfl
  have n27 : x.toInt ≠ 27 := lv_neT e27 rfl
  have n28 : x.toInt ≠ 28 := lv_neT e28 rfl
  have n29 : x.toInt ≠ 29 := lv_neT e29 rfl
  have n30 : x.toInt ≠ 30 := lv_neT e30 rfl
  have n31 : x.toInt ≠ 31 := lv_neT e31 rfl
  have n32 : x.toInt ≠ 32 := lv_neT e32 rfl
  have n33 : x.toInt ≠ 33 := lv_neT e33 rfl
  omega
