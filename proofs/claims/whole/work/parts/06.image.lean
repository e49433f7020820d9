/-! imageAt: the image at 0, at 1, or none -/
abbrev rm_X11_imageAt : Room := { frames := 0, cells := 0, slots := 0, locals := 0 }
abbrev FX_X11_imageAt (a : Ax) (Z : Zx) (A : Nat → Prop) : Prop := FX a (XC Z) A cX11_imageAt RX11 wsX11_imageAt 2 (some (.object "FourWalls$Image")) rm_X11_imageAt
theorem iw_X11_imageAt_X11 : ∀ w ∈ wsX110, w ∈ wsX11_imageAt := by decide +kernel
theorem lk_X11_imageAt_48 : Cond.fieldLink RX11 48 (TX11 6).1 (TX11 6).2.1 (TX11 6).2.2.1 ∈ wsX11_imageAt := by decide +kernel
set_option maxHeartbeats 4000000 in
set_option maxRecDepth 100000 in
theorem im_in {a : Ax} {Z : Zx} {A : Nat → Prop} (F : FX_X11_imageAt a Z A) {i : Int32} {f : Nat → Nat → Int32} {x : Nat} (h0 : ¬ i < 0) (h2 : ¬ 2 ≤ i) (hin : vp_in i 2) (hx : (if i.toNatClampNeg = 0 then some (Z.2.1 23) else if i.toNatClampNeg = 1 then some (Z.2.1 26) else none) = some x) : WS a (XC Z) A 2 (RP a (XC Z) A (PQ (some x) f)) 0 [(0, .ref (Z.2.1 0)), (1, .int i)] [] f := by
  refine rw_iload_n F dX11_imageAt_0 rfl 1 rfl ?_
  refine rw_if_lt F (T := none) (E := some ()) (r := ()) (tgt := 22) (by rw [if_neg h0]) dX11_imageAt_1 (by decide) (fun hc _ => absurd hc h0) (fun _ _ => ?_)
  refine rw_iload_n F dX11_imageAt_4 rfl 1 rfl ?_
  refine rw_aload_n F dX11_imageAt_5 rfl 0 rfl ?_
  refine rw_get F 0 (show 0 < 39 by decide) (gC_0 Z _) iw_X11_imageAt_X11 rfl 6 (by decide) lk_X11_imageAt_48 rfl dX11_imageAt_6 ?_
  refine rw_alen F (v := 2) 22 (show 22 < 39 by decide) (gC_22 Z (f 22)) 1 rfl rfl dX11_imageAt_9 ?_
  refine rw_icmp_ge F (T := none) (E := some ()) (r := ()) (tgt := 22) (by rw [if_neg h2]) dX11_imageAt_10 (by decide) (fun hc _ => absurd hc h2) (fun _ _ => ?_)
  refine rw_aload_n F dX11_imageAt_13 rfl 0 rfl ?_
  refine rw_get F 0 (show 0 < 39 by decide) (gC_0 Z _) iw_X11_imageAt_X11 rfl 6 (by decide) lk_X11_imageAt_48 rfl dX11_imageAt_14 ?_
  refine rw_iload_n F dX11_imageAt_17 rfl 1 rfl ?_
  refine rw_aaldq F 22 (show 22 < 39 by decide) (gC_22 Z (f 22)) 1 rfl hin dX11_imageAt_18 ?_
  rw [hx]
  refine rw_goto F (tgt := 23) dX11_imageAt_19 (by decide) ?_
  exact rw_aret F rfl (Or.inl ⟨_, rfl⟩) dX11_imageAt_23
set_option maxHeartbeats 4000000 in
set_option maxRecDepth 100000 in
theorem c_imageAt_0 (l : Launch) (Z : Zx) (p1 : Int32) (f : Nat → Nat → Int32) (h : p1 = 0) : MS l (XC Z) yX11_imageAt wsX11_imageAt rm_X11_imageAt [.ref (Z.2.1 0), .int p1] f (PQ (some (Z.2.1 23)) f) := by
  subst h
  refine MS.of (cc := cX11_imageAt) (maxL := 2) (ret := some (.object "FourWalls$Image")) (own := RX11) (lv := [(0, .ref (Z.2.1 0)), (1, .int 0)]) (by decide) rfl rfl (Nat.le_of_ble_eq_true rfl) rfl ?_
  intro a A hla F
  exact im_in F (by decide) (by decide) (by unfold vp_in; decide) rfl
set_option maxHeartbeats 4000000 in
set_option maxRecDepth 100000 in
theorem c_imageAt_1 (l : Launch) (Z : Zx) (p1 : Int32) (f : Nat → Nat → Int32) (h : p1 = 1) : MS l (XC Z) yX11_imageAt wsX11_imageAt rm_X11_imageAt [.ref (Z.2.1 0), .int p1] f (PQ (some (Z.2.1 26)) f) := by
  subst h
  refine MS.of (cc := cX11_imageAt) (maxL := 2) (ret := some (.object "FourWalls$Image")) (own := RX11) (lv := [(0, .ref (Z.2.1 0)), (1, .int 1)]) (by decide) rfl rfl (Nat.le_of_ble_eq_true rfl) rfl ?_
  intro a A hla F
  exact im_in F (by decide) (by decide) (by unfold vp_in; decide) rfl
theorem im_out {i : Int32} (h0 : ¬ i = 0) (h1 : ¬ i = 1) (h : ¬ i < 0) : 2 ≤ i := by
  rw [Int32.le_iff_toInt_le]
  rw [Int32.lt_iff_toInt_lt] at h
  have a0 : i.toInt ≠ 0 := lv_neT h0 rfl
  have a1 : i.toInt ≠ 1 := lv_neT h1 rfl
  have e2 : (2 : Int32).toInt = 2 := rfl
  have e0 : (0 : Int32).toInt = 0 := rfl
  omega
set_option maxHeartbeats 4000000 in
set_option maxRecDepth 100000 in
theorem c_imageAt_n (l : Launch) (Z : Zx) (p1 : Int32) (f : Nat → Nat → Int32) (h0 : ¬ p1 = 0) (h1 : ¬ p1 = 1) : MS l (XC Z) yX11_imageAt wsX11_imageAt rm_X11_imageAt [.ref (Z.2.1 0), .int p1] f (PQ none f) := by
  refine MS.of (cc := cX11_imageAt) (maxL := 2) (ret := some (.object "FourWalls$Image")) (own := RX11) (lv := [(0, .ref (Z.2.1 0)), (1, .int p1)]) (by decide) rfl rfl (Nat.le_of_ble_eq_true rfl) rfl ?_
  intro a A hla F
  have hend : WS a (XC Z) A 2 (RP a (XC Z) A (PQ none f)) 22 [(0, .ref (Z.2.1 0)), (1, .int p1)] [] f := by
    refine rw_null F dX11_imageAt_22 ?_
    exact rw_aret F (v := none) rfl (Or.inl ⟨_, rfl⟩) dX11_imageAt_23
  refine rw_iload_n F dX11_imageAt_0 rfl 1 rfl ?_
  refine rw_if_lt F (T := some ()) (E := some ()) (r := ()) (tgt := 22) (by split <;> rfl) dX11_imageAt_1 (by decide) (fun _ _ => hend) (fun hn _ => ?_)
  refine rw_iload_n F dX11_imageAt_4 rfl 1 rfl ?_
  refine rw_aload_n F dX11_imageAt_5 rfl 0 rfl ?_
  refine rw_get F 0 (show 0 < 39 by decide) (gC_0 Z _) iw_X11_imageAt_X11 rfl 6 (by decide) lk_X11_imageAt_48 rfl dX11_imageAt_6 ?_
  refine rw_alen F (v := 2) 22 (show 22 < 39 by decide) (gC_22 Z (f 22)) 1 rfl rfl dX11_imageAt_9 ?_
  have h2 : (2 : Int32) ≤ p1 := im_out h0 h1 hn
  exact rw_icmp_ge F (T := some ()) (E := none) (r := ()) (tgt := 22) (by rw [if_pos h2]) dX11_imageAt_10 (by decide) (fun _ _ => hend) (fun hn2 _ => absurd h2 hn2)
