/-! ===== the law's loop ===== -/
def aFin (G : aG) : Prop := ∀ (h : aH) (kc ks : Nat) (lv : aV), kc ≤ 619416 → ks ≤ 7237855 → AW G MW h kc ks 1106 lv [.int 1]
theorem sub4 {N i : Nat} (hN : N ≤ 2048) (hi : i ≤ 2048) (h : ¬ nI N - 4 < nI i) : i + 4 ≤ N := by
  have e : (nI N - nI 4).toInt = (N : Int) - (4 : Nat) := pk_sub_toInt (by omega) (by omega)
  rw [Int32.lt_iff_toInt_lt, show (4 : Int32) = nI 4 from rfl, e, nI_toInt (by omega)] at h
  omega
set_option maxHeartbeats 4000000 in
theorem law_step {G : aG} {N : Nat} {xs : Nat → Int32} (hR : aRm G = RW) (hS : aScr 100 N xs G) {hg : List (Nat × Nat × Nat × Nat)} (hE : aEx hg G) (hF : aFin G) (hN : N ≤ 2048) {B : Nat} (th : Int32) (C T A : CS) (L L2 : Nat → Int32) (O : Nat → Int64) (i kc ks : Nat) (hV : VC B C) (hB : B + 96 < 2 ^ 31) (hk : kc + 127 ≤ 619416) (hs : ks + 907 ≤ 7237855) (hi : i ≤ N)
    (K : i + 4 ≤ N → ∀ (th' : Int32) (C' T' A' : CS) (L' L2' : Nat → Int32) (O' : Nat → Int64), VC (B + 96) C' → AW G MW (hW th' C' T' A' L' L2' O') (kc + 127) (ks + 907) 1099 [(4, .int (nI i)), (3, .ref 52), (2, .ref 28), (1, .ref 0), (0, .ref 100)] []) : AW G MW (hW th C T A L L2 O) kc ks 23 [(4, .int (nI i)), (3, .ref 52), (2, .ref 28), (1, .ref 0), (0, .ref 100)] [] := by
  refine AW.blk (amwh 0) 13 2 (h' := hW th C T A L L2 O) (pc' := 26) (lv' := [(4, .int (nI i)), (3, .ref 52), (2, .ref 28), (1, .ref 0), (0, .ref 100)]) (st' := [.ref 100, .int (nI i)]) (L := []) rfl trivial ?_
  refine AW.slen (amwh 0) 15 hS rfl ?_
  refine AW.blk (amwh 0) 16 2 (h' := hW th C T A L L2 O) (pc' := 29) (lv' := [(4, .int (nI i)), (3, .ref 52), (2, .ref 28), (1, .ref 0), (0, .ref 100)]) (st' := [.int (nI N - 4), .int (nI i)]) (L := []) rfl trivial ?_
  refine AW.br (amwh 0) 18 (tgt := 1105) (C := nI N - 4 < nI i) (C' := ¬ nI N - 4 < nI i) (st' := []) rfl rfl rfl (fun _ => ?_) (fun c => ?_)
  · refine AW.blk (amwh 0) 26 1 (h' := hW th C T A L L2 O) (pc' := 1106) (lv' := [(4, .int (nI i)), (3, .ref 52), (2, .ref 28), (1, .ref 0), (0, .ref 100)]) (st' := [.int 1]) (L := []) rfl trivial ?_
    exact hF _ _ _ _ (by omega) (by omega)
  · have hi4 := sub4 hN (by omega) c
    refine AW.blk (amwh 0) 19 2 (h' := hW th C T A L L2 O) (pc' := 35) (lv' := [(4, .int (nI i)), (3, .ref 52), (2, .ref 28), (1, .ref 0), (0, .ref 100)]) (st' := [.int (nI i), .ref 100]) (L := []) rfl trivial ?_
    refine AW.sld (amwh 0) 21 hS rfl (vp_in_nI (by omega) (by omega)) ?_
    rw [nI_clamp (show i < 2 ^ 31 by omega)]
    refine AW.blk (amwh 0) 22 2 (h' := hW th C T A L L2 O) (pc' := 39) (lv' := [(4, .int (nI i)), (3, .ref 52), (2, .ref 28), (1, .ref 0), (0, .ref 100)]) (st' := [.int (xs i &&& (Int8.ofInt 15).toInt32)]) (L := []) rfl trivial ?_
    obtain ⟨j, hj, e⟩ := pk_andE (xs i) (m := (Int8.ofInt 15).toInt32) 4 (by decide)
    rw [e]
    clear e
    match j, hj with
    | 0, _ => exact AW.swIn (tgt := 116) (off := 77) swL_law_39 (by decide) (by decide) rfl rfl (ds_set hR hS hE th C T A L L2 O i kc ks hV hB hk hs hi4 hN (K hi4))
    | 1, _ => exact AW.swIn (tgt := 196) (off := 157) swL_law_39 (by decide) (by decide) rfl rfl (ds_setRain hR hS hE th C T A L L2 O i kc ks hV hB hk hs hi4 hN (K hi4))
    | 2, _ => exact AW.swIn (tgt := 264) (off := 225) swL_law_39 (by decide) (by decide) rfl rfl (ds_spill hR hS hE th C T A L L2 O i kc ks hV hB hk hs hi4 hN (K hi4))
    | 3, _ => exact AW.swIn (tgt := 332) (off := 293) swL_law_39 (by decide) (by decide) rfl rfl (ds_come hR hS hE th C T A L L2 O i kc ks hV hB hk hs hi4 hN (K hi4))
    | 4, _ => exact AW.swIn (tgt := 400) (off := 361) swL_law_39 (by decide) (by decide) rfl rfl (ds_send hR hS hE th C T A L L2 O i kc ks hV hB hk hs hi4 hN (K hi4))
    | 5, _ => exact AW.swIn (tgt := 468) (off := 429) swL_law_39 (by decide) (by decide) rfl rfl (ds_buy hR hS hE th C T A L L2 O i kc ks hV hB hk hs hi4 hN (K hi4))
    | 6, _ => exact AW.swIn (tgt := 524) (off := 485) swL_law_39 (by decide) (by decide) rfl rfl (ds_sweeper hR hS hE th C T A L L2 O i kc ks hV hB hk hs hi4 hN (K hi4))
    | 7, _ => exact AW.swIn (tgt := 592) (off := 553) swL_law_39 (by decide) (by decide) rfl rfl (ds_crossing hR hS hE th C T A L L2 O i kc ks hV hB hk hs hi4 hN (K hi4))
    | 8, _ => exact AW.swIn (tgt := 660) (off := 621) swL_law_39 (by decide) (by decide) rfl rfl (ds_count hR hS hE th C T A L L2 O i kc ks hV hB hk hs hi4 hN (K hi4))
    | 9, _ => exact AW.swIn (tgt := 716) (off := 677) swL_law_39 (by decide) (by decide) rfl rfl (ds_pass hR hS hE th C T A L L2 O i kc ks hV hB hk hs hi4 hN (K hi4))
    | 10, _ => exact AW.swIn (tgt := 772) (off := 733) swL_law_39 (by decide) (by decide) rfl rfl (ds_way hR hS hE th C T A L L2 O i kc ks hV hB hk hs hi4 hN (K hi4))
    | 11, _ => exact AW.swIn (tgt := 840) (off := 801) swL_law_39 (by decide) (by decide) rfl rfl (ds_earns hR hS hE th C T A L L2 O i kc ks hV hB hk hs hi4 hN (K hi4))
    | 12, _ => exact AW.swIn (tgt := 908) (off := 869) swL_law_39 (by decide) (by decide) rfl rfl (ds_advise hR hS hE th C T A L L2 O i kc ks hV hB hk hs hi4 hN (K hi4))
    | 13, _ => exact AW.swIn (tgt := 976) (off := 937) swL_law_39 (by decide) (by decide) rfl rfl (ds_foresee hR hS hE th C T A L L2 O i kc ks hV hB hk hs hi4 hN (K hi4))
    | 14, _ => exact AW.swIn (tgt := 1044) (off := 1005) swL_law_39 (by decide) (by decide) rfl rfl (ds_mean hR hS hE th C T A L L2 O i kc ks hV hB hk hs hi4 hN (K hi4))
    | 15, _ => exact AW.swIn (tgt := 1085) (off := 1046) swL_law_39 (by decide) (by decide) rfl rfl (ds_digest hR hS hE th C T A L L2 O i kc ks hV hB hk hs hi4 hN (K hi4))
    | n + 16, hj => exact absurd hj (by omega)
set_option maxHeartbeats 2000000 in
theorem law_loop {G : aG} {N : Nat} {xs : Nat → Int32} (hR : aRm G = RW) (hS : aScr 100 N xs G) {hg : List (Nat × Nat × Nat × Nat)} (hE : aEx hg G) (hF : aFin G) (hN : N ≤ 2048) : ∀ (n i : Nat) (th : Int32) (C T A : CS) (L L2 : Nat → Int32) (O : Nat → Int64), N < i + 4 * n + 4 → i ≤ N → VC (24 * i) C → AW G MW (hW th C T A L L2 O) (100 + 32 * i) (1000 + 227 * i) 23 [(4, .int (nI i)), (3, .ref 52), (2, .ref 28), (1, .ref 0), (0, .ref 100)] [] := by
  intro n
  induction n with
  | zero =>
    intro i th C T A L L2 O hn hi hV
    exact law_step hR hS hE hF hN th C T A L L2 O i _ _ hV (by omega) (by omega) (by omega) hi (fun h => absurd h (by omega))
  | succ n ih =>
    intro i th C T A L L2 O hn hi hV
    refine law_step hR hS hE hF hN th C T A L L2 O i _ _ hV (by omega) (by omega) (by omega) hi (fun h th' C' T' A' L' L2' O' hV' => ?_)
    refine AW.blk (amwh 0) 24 2 (h' := hW th' C' T' A' L' L2' O') (pc' := 23) (lv' := [(4, .int (nI i + 4)), (3, .ref 52), (2, .ref 28), (1, .ref 0), (0, .ref 100)]) (st' := []) (L := []) rfl trivial ?_
    rw [show nI i + 4 = nI (i + 4) from nI_add i 4]
    exact AW.widen (by omega) (by omega) (ih (i + 4) th' C' T' A' L' L2' O' (by omega) h (by rw [show 24 * (i + 4) = 24 * i + 96 by omega]; exact hV'))
theorem kclL_8 : Cond.classLink RL 8 RX1 ∈ kwl := by decide +kernel
theorem kclL_61 : Cond.classLink RL 61 RX3 ∈ kwl := by decide +kernel
theorem kX1_initS : AMet yX1_init cX1_init 1 none { frames := 2, cells := 27, slots := 239, locals := 61 } [.ref 0] [aO 1 [.null, .null, .null]] none ((hM sC0 sC0 (fun _ => 0)).take 1 ++ (hM sC0 sC0 (fun _ => 0)).drop 1) := kX1_init
theorem kX3_initS : AMet yX3_init cX3_init 2 none { frames := 2, cells := 23, slots := 197, locals := 61 } [.ref 0] [aO 3 [.int 0, .null, .null, .null, .int 0, .null, .null, .null, .null]] none ((hX 0 sC0 sCz (fun _ => 0)).take 1 ++ (hX 0 sC0 sCz (fun _ => 0)).drop 1) := kX3_init
set_option maxHeartbeats 4000000 in
theorem law_all {G : aG} {N : Nat} {xs : Nat → Int32} (hR : aRm G = RW) (hS : aScr 100 N xs G) {hg : List (Nat × Nat × Nat × Nat)} (hE : aEx hg G) (hF : aFin G) (hN : N ≤ 2048) : AW G MW [] 0 0 0 [(0, .ref 100)] [] := by
  refine AW.newobj (fs := [.null, .null, .null]) (tb_at (amwh 0).1 0 rfl) (ci := 1) rfl tyX1_ok kclL_8 kins1 kini1 (fun _ => rfl) dfX1 hR (Nat.le_of_ble_eq_true rfl) (Nat.le_of_ble_eq_true rfl) rfl rfl rfl (h1 := [aO 1 [.null, .null, .null]]) rfl (st' := [.ref 0]) rfl ?_
  refine AW.blk (amwh 0) 1 1 (h' := [aO 1 [.null, .null, .null]]) (pc' := 4) (lv' := [(0, .ref 100)]) (st' := [.ref 0, .ref 0]) (L := []) rfl trivial ?_
  refine AW.callI (amwh 0) 2 kX1_initS [0] [] ykX1_init yiX1_init rfl mlL_60 rfl rfl rfl rfl hR ⟨Nat.le_of_ble_eq_true rfl, Nat.le_of_ble_eq_true rfl, Nat.le_of_ble_eq_true rfl, Nat.le_of_ble_eq_true rfl⟩ rfl rfl rfl rfl rfl rfl rfl rfl rfl rfl (fun _ => rfl) (h1 := hM sC0 sC0 (fun _ => 0)) rfl (st' := [.ref 0]) rfl ?_
  refine AW.blk (amwh 0) 3 1 (h' := hM sC0 sC0 (fun _ => 0)) (pc' := 8) (lv' := [(1, .ref 0), (0, .ref 100)]) (st' := []) (L := []) rfl trivial ?_
  refine AW.newobj (fs := [.int 0, .null, .null, .null, .int 0, .null, .null, .null, .null]) (tb_at (amwh 0).1 4 rfl) (ci := 3) rfl tyX3_ok kclL_61 kins3 kini3 (fun _ => rfl) dfX3 hR (Nat.le_of_ble_eq_true rfl) (Nat.le_of_ble_eq_true rfl) rfl rfl rfl (h1 := hM sC0 sC0 (fun _ => 0) ++ [aO 3 [.int 0, .null, .null, .null, .int 0, .null, .null, .null, .null]]) rfl (st' := [.ref 28]) rfl ?_
  refine AW.blk (amwh 0) 5 1 (h' := hM sC0 sC0 (fun _ => 0) ++ [aO 3 [.int 0, .null, .null, .null, .int 0, .null, .null, .null, .null]]) (pc' := 12) (lv' := [(1, .ref 0), (0, .ref 100)]) (st' := [.ref 28, .ref 28]) (L := []) rfl trivial ?_
  refine AW.callI (amwh 0) 6 kX3_initS [28] [] ykX3_init yiX3_init rfl mlL_63 rfl rfl rfl rfl hR ⟨Nat.le_of_ble_eq_true rfl, Nat.le_of_ble_eq_true rfl, Nat.le_of_ble_eq_true rfl, Nat.le_of_ble_eq_true rfl⟩ rfl rfl rfl rfl rfl rfl rfl rfl rfl rfl (fun _ => rfl) (h1 := hM sC0 sC0 (fun _ => 0) ++ (hX 0 sC0 sCz (fun _ => 0)).map (rE S2 [])) rfl (st' := [.ref 28]) rfl ?_
  refine AW.blk (amwh 0) 7 2 (h' := hM sC0 sC0 (fun _ => 0) ++ (hX 0 sC0 sCz (fun _ => 0)).map (rE S2 [])) (pc' := 17) (lv' := [(2, .ref 28), (1, .ref 0), (0, .ref 100)]) (st' := [.int 1]) (L := []) rfl trivial ?_
  refine AW.newarrL 1 (tb_at (amwh 0).1 9 rfl) (by decide) (by decide) rfl hR (Nat.le_of_ble_eq_true rfl) (Nat.le_of_ble_eq_true rfl) rfl rfl rfl (h1 := hW 0 sC0 sC0 sCz (fun _ => 0) (fun _ => 0) (fun _ => 0)) rfl (st' := [.ref 52]) rfl ?_
  refine AW.blk (amwh 0) 10 3 (h' := hW 0 sC0 sC0 sCz (fun _ => 0) (fun _ => 0) (fun _ => 0)) (pc' := 23) (lv' := [(4, .int (0)), (3, .ref 52), (2, .ref 28), (1, .ref 0), (0, .ref 100)]) (st' := []) (L := []) rfl trivial ?_
  exact AW.widen (Nat.le_of_ble_eq_true rfl) (Nat.le_of_ble_eq_true rfl) (law_loop hR hS hE hF hN (N + 1) 0 0 sC0 sC0 sCz (fun _ => 0) (fun _ => 0) (fun _ => 0) (by omega) (Nat.zero_le _) VC_0)
