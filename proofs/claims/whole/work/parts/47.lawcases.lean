/-! ===== the law's cases ===== -/
set_option maxHeartbeats 4000000 in
theorem cs_set {G : aG} {N : Nat} {xs : Nat → Int32} (hR : aRm G = RW) (hS : aScr 100 N xs G) {hg : List (Nat × Nat × Nat × Nat)} (hE : aEx hg G) {th kr br : Int32} {C T A C' T' A' : CS} {L L2 L' L2' : Nat → Int32} {O O' : Nat → Int64} (i kc ks : Nat) (hk : kc + 127 ≤ 619416) (hs : ks + 907 ≤ 7237855) (hi : i + 4 ≤ N) (hN : N ≤ 2048)
    (h1 : AMetW yL_set cL_set 6 (some .int) hh_set { frames := 8, cells := 1, slots := 6, locals := 130 } [.ref 0, .int (xs (i + 1)), .int (xs (i + 2)), .int (xs (i + 3)), .ref 28] (hM C T L ++ [aL 1 O]) (some (.int kr)) (hM C' T' L' ++ [aL 1 O']))
    (h2 : AMet yX3_set cX3_set 5 (some .int) { frames := 2, cells := 0, slots := 0, locals := 42 } [.ref 0, .int (xs (i + 1)), .int (xs (i + 2)), .int (xs (i + 3))] (hX th C A L2) (some (.int br)) (hX kr C' A' L2')) (he : kr = 0 → O' (0 : Int32).toNatClampNeg = br.toInt64)
    (K : AW G MW (hW kr C' T' A' L' L2' O') (kc + 127) (ks + 907) 1099 [(4, .int (nI i)), (3, .ref 52), (2, .ref 28), (1, .ref 0), (0, .ref 100)] []) : AW G MW (hW th C T A L L2 O) kc ks 116 [(4, .int (nI i)), (3, .ref 52), (2, .ref 28), (1, .ref 0), (0, .ref 100)] [] := by
  have fin : AW G MW (hM C' T' L' ++ (hX kr C' A' L2').map (rE S2 []) ++ [aL 1 O']) (kc + 1 + 0 + 0) (ks + 6 + 0 + 0) 1099 [(6, .int br), (5, .int kr), (4, .int (nI i)), (3, .ref 52), (2, .ref 28), (1, .ref 0), (0, .ref 100)] [] := AW.pick [2, 3, 4, 5, 6] rfl (AW.widen (by omega) (by omega) K)
  refine AW.blk (amw0 0) 0 1 (h' := hW th C T A L L2 O) (pc' := 117) (lv' := [(4, .int (nI i)), (3, .ref 52), (2, .ref 28), (1, .ref 0), (0, .ref 100)]) (st' := [.ref 0]) (L := []) rfl trivial ?_
  refine AW.blk (amw0 0) 1 4 (h' := hW th C T A L L2 O) (pc' := 122) (lv' := [(4, .int (nI i)), (3, .ref 52), (2, .ref 28), (1, .ref 0), (0, .ref 100)]) (st' := [.int (nI i + 1), .ref 100, .ref 0]) (L := []) rfl trivial ?_
  rw [show nI i + 1 = nI (i + 1) from nI_add i 1]
  refine AW.sld (amw0 0) 5 hS rfl (vp_in_nI (by omega) (by omega)) ?_
  rw [nI_clamp (show i + 1 < 2 ^ 31 by omega)]
  refine AW.blk (amw0 0) 6 4 (h' := hW th C T A L L2 O) (pc' := 128) (lv' := [(4, .int (nI i)), (3, .ref 52), (2, .ref 28), (1, .ref 0), (0, .ref 100)]) (st' := [.int (nI i + 2), .ref 100, .int (xs (i + 1)), .ref 0]) (L := []) rfl trivial ?_
  rw [show nI i + 2 = nI (i + 2) from nI_add i 2]
  refine AW.sld (amw0 0) 10 hS rfl (vp_in_nI (by omega) (by omega)) ?_
  rw [nI_clamp (show i + 2 < 2 ^ 31 by omega)]
  refine AW.blk (amw0 0) 11 4 (h' := hW th C T A L L2 O) (pc' := 134) (lv' := [(4, .int (nI i)), (3, .ref 52), (2, .ref 28), (1, .ref 0), (0, .ref 100)]) (st' := [.int (nI i + 3), .ref 100, .int (xs (i + 2)), .int (xs (i + 1)), .ref 0]) (L := []) rfl trivial ?_
  rw [show nI i + 3 = nI (i + 3) from nI_add i 3]
  refine AW.sld (amw0 0) 15 hS rfl (vp_in_nI (by omega) (by omega)) ?_
  rw [nI_clamp (show i + 3 < 2 ^ 31 by omega)]
  refine AW.blk (amw0 0) 16 1 (h' := hW th C T A L L2 O) (pc' := 136) (lv' := [(4, .int (nI i)), (3, .ref 52), (2, .ref 28), (1, .ref 0), (0, .ref 100)]) (st' := [.ref 52, .int (xs (i + 3)), .int (xs (i + 2)), .int (xs (i + 1)), .ref 0]) (L := []) rfl trivial ?_
  refine AW.lawW (amw0 0) 17 h1 hE wcL_set rfl wgL_set wsL_set wlL_set rfl rfl rfl rfl hR ⟨by decide, by decide, by show kc + 1 ≤ 619416; omega, by show ks + 6 ≤ 7237855; omega⟩ (st' := [.int kr]) rfl ?_
  refine AW.blk (amw0 0) 18 2 (h' := hM C' T' L' ++ (hX th C A L2).map (rE S2 []) ++ [aL 1 O']) (pc' := 142) (lv' := [(5, .int kr), (4, .int (nI i)), (3, .ref 52), (2, .ref 28), (1, .ref 0), (0, .ref 100)]) (st' := [.ref 28]) (L := []) rfl trivial ?_
  refine AW.blk (amw0 0) 20 4 (h' := hM C' T' L' ++ (hX th C A L2).map (rE S2 []) ++ [aL 1 O']) (pc' := 147) (lv' := [(5, .int kr), (4, .int (nI i)), (3, .ref 52), (2, .ref 28), (1, .ref 0), (0, .ref 100)]) (st' := [.int (nI i + 1), .ref 100, .ref 28]) (L := []) rfl trivial ?_
  rw [show nI i + 1 = nI (i + 1) from nI_add i 1]
  refine AW.sld (amw0 0) 24 hS rfl (vp_in_nI (by omega) (by omega)) ?_
  rw [nI_clamp (show i + 1 < 2 ^ 31 by omega)]
  refine AW.blk (amw0 0) 25 4 (h' := hM C' T' L' ++ (hX th C A L2).map (rE S2 []) ++ [aL 1 O']) (pc' := 153) (lv' := [(5, .int kr), (4, .int (nI i)), (3, .ref 52), (2, .ref 28), (1, .ref 0), (0, .ref 100)]) (st' := [.int (nI i + 2), .ref 100, .int (xs (i + 1)), .ref 28]) (L := []) rfl trivial ?_
  rw [show nI i + 2 = nI (i + 2) from nI_add i 2]
  refine AW.sld (amw0 0) 29 hS rfl (vp_in_nI (by omega) (by omega)) ?_
  rw [nI_clamp (show i + 2 < 2 ^ 31 by omega)]
  refine AW.blk (amw0 0) 30 4 (h' := hM C' T' L' ++ (hX th C A L2).map (rE S2 []) ++ [aL 1 O']) (pc' := 159) (lv' := [(5, .int kr), (4, .int (nI i)), (3, .ref 52), (2, .ref 28), (1, .ref 0), (0, .ref 100)]) (st' := [.int (nI i + 3), .ref 100, .int (xs (i + 2)), .int (xs (i + 1)), .ref 28]) (L := []) rfl trivial ?_
  rw [show nI i + 3 = nI (i + 3) from nI_add i 3]
  refine AW.sld (amw0 0) 34 hS rfl (vp_in_nI (by omega) (by omega)) ?_
  rw [nI_clamp (show i + 3 < 2 ^ 31 by omega)]
  refine AW.lawX (amw0 0) 35 h2 (hM_len _ _ _) rfl ykX3_set yiX3_set yvX3_set mlL_69 rfl rfl rfl rfl hR ⟨by decide, by decide, by show kc + 1 + 0 ≤ 619416; omega, by show ks + 6 + 0 ≤ 7237855; omega⟩ (fun _ => rfl) (st' := [.int br]) rfl ?_
  refine AW.blk (amw0 0) 36 2 (h' := hM C' T' L' ++ (hX kr C' A' L2').map (rE S2 []) ++ [aL 1 O']) (pc' := 166) (lv' := [(6, .int br), (5, .int kr), (4, .int (nI i)), (3, .ref 52), (2, .ref 28), (1, .ref 0), (0, .ref 100)]) (st' := [.ref 28]) (L := []) rfl trivial ?_
  refine AW.lawX (amw0 0) 38 (kX3_thrownX kr C' A' L2') (hM_len _ _ _) rfl ykX3_thrown yiX3_thrown yvX3_thrown mlL_70 rfl rfl rfl rfl hR ⟨by decide, by decide, by show kc + 1 + 0 + 0 ≤ 619416; omega, by show ks + 6 + 0 + 0 ≤ 7237855; omega⟩ (fun _ => rfl) (st' := [.int kr]) rfl ?_
  refine AW.blk (amw0 0) 39 1 (h' := hM C' T' L' ++ (hX kr C' A' L2').map (rE S2 []) ++ [aL 1 O']) (pc' := 171) (lv' := [(6, .int br), (5, .int kr), (4, .int (nI i)), (3, .ref 52), (2, .ref 28), (1, .ref 0), (0, .ref 100)]) (st' := [.int kr, .int kr]) (L := []) rfl trivial ?_
  refine AW.br (amw0 0) 40 (tgt := 176) (C := kr = kr) (C' := ¬ kr = kr) (st' := []) rfl rfl rfl (fun _ => ?_) (fun c => absurd rfl c)
  refine AW.blk (amw0 0) 43 1 (h' := hM C' T' L' ++ (hX kr C' A' L2').map (rE S2 []) ++ [aL 1 O']) (pc' := 178) (lv' := [(6, .int br), (5, .int kr), (4, .int (nI i)), (3, .ref 52), (2, .ref 28), (1, .ref 0), (0, .ref 100)]) (st' := [.int kr]) (L := []) rfl trivial ?_
  refine AW.br (amw0 0) 44 (tgt := 193) (C := ¬ kr = 0) (C' := kr = 0) (st' := []) rfl rfl rfl (fun _ => ?_) (fun c => ?_)
  · exact AW.blk (amw0 0) 54 1 (h' := hM C' T' L' ++ (hX kr C' A' L2').map (rE S2 []) ++ [aL 1 O']) (pc' := 1099) (lv' := [(6, .int br), (5, .int kr), (4, .int (nI i)), (3, .ref 52), (2, .ref 28), (1, .ref 0), (0, .ref 100)]) (st' := []) (L := []) rfl trivial fin
  · refine AW.blk (amw0 0) 45 2 (h' := hM C' T' L' ++ (hX kr C' A' L2').map (rE S2 []) ++ [aL 1 O']) (pc' := 183) (lv' := [(6, .int br), (5, .int kr), (4, .int (nI i)), (3, .ref 52), (2, .ref 28), (1, .ref 0), (0, .ref 100)]) (st' := [.int 0, .ref 52]) (L := []) rfl trivial ?_
    refine AW.lald (amw0 0) 47 rfl (get_52 (hM_len _ _ _) (hQ_len _ _ _ _)) vo_0 ?_
    refine AW.blk (amw0 0) 48 2 (h' := hM C' T' L' ++ (hX kr C' A' L2').map (rE S2 []) ++ [aL 1 O']) (pc' := 187) (lv' := [(6, .int br), (5, .int kr), (4, .int (nI i)), (3, .ref 52), (2, .ref 28), (1, .ref 0), (0, .ref 100)]) (st' := [.long br.toInt64, .long (O' (0 : Int32).toNatClampNeg)]) (L := []) rfl trivial ?_
    refine AW.lcmpE (amw0 0) 50 rfl (he c) ?_
    refine AW.br (amw0 0) 51 (tgt := 193) (C := (0 : Int32) = 0) (C' := ¬ (0 : Int32) = 0) (st' := []) rfl rfl rfl (fun _ => ?_) (fun c => absurd rfl c)
    exact AW.blk (amw0 0) 54 1 (h' := hM C' T' L' ++ (hX kr C' A' L2').map (rE S2 []) ++ [aL 1 O']) (pc' := 1099) (lv' := [(6, .int br), (5, .int kr), (4, .int (nI i)), (3, .ref 52), (2, .ref 28), (1, .ref 0), (0, .ref 100)]) (st' := []) (L := []) rfl trivial fin
set_option maxHeartbeats 4000000 in
theorem cs_setRain {G : aG} {N : Nat} {xs : Nat → Int32} (hR : aRm G = RW) (hS : aScr 100 N xs G) {hg : List (Nat × Nat × Nat × Nat)} (hE : aEx hg G) {th kr br : Int32} {C T A C' T' A' : CS} {L L2 L' L2' : Nat → Int32} {O O' : Nat → Int64} (i kc ks : Nat) (hk : kc + 127 ≤ 619416) (hs : ks + 907 ≤ 7237855) (hi : i + 4 ≤ N) (hN : N ≤ 2048)
    (h1 : AMetW yL_setRain cL_setRain 5 (some .int) hh_setRain { frames := 7, cells := 1, slots := 6, locals := 105 } [.ref 0, .int (xs (i + 1)), .int (xs (i + 2)), .ref 28] (hM C T L ++ [aL 1 O]) (some (.int kr)) (hM C' T' L' ++ [aL 1 O']))
    (h2 : AMet yX3_setRain cX3_setRain 4 (some .int) { frames := 1, cells := 0, slots := 0, locals := 22 } [.ref 0, .int (xs (i + 1)), .int (xs (i + 2))] (hX th C A L2) (some (.int br)) (hX kr C' A' L2')) (he : kr = 0 → O' (0 : Int32).toNatClampNeg = br.toInt64)
    (K : AW G MW (hW kr C' T' A' L' L2' O') (kc + 127) (ks + 907) 1099 [(4, .int (nI i)), (3, .ref 52), (2, .ref 28), (1, .ref 0), (0, .ref 100)] []) : AW G MW (hW th C T A L L2 O) kc ks 196 [(4, .int (nI i)), (3, .ref 52), (2, .ref 28), (1, .ref 0), (0, .ref 100)] [] := by
  have fin : AW G MW (hM C' T' L' ++ (hX kr C' A' L2').map (rE S2 []) ++ [aL 1 O']) (kc + 1 + 0 + 0) (ks + 6 + 0 + 0) 1099 [(6, .int br), (5, .int kr), (4, .int (nI i)), (3, .ref 52), (2, .ref 28), (1, .ref 0), (0, .ref 100)] [] := AW.pick [2, 3, 4, 5, 6] rfl (AW.widen (by omega) (by omega) K)
  refine AW.blk (amw1 0) 0 1 (h' := hW th C T A L L2 O) (pc' := 197) (lv' := [(4, .int (nI i)), (3, .ref 52), (2, .ref 28), (1, .ref 0), (0, .ref 100)]) (st' := [.ref 0]) (L := []) rfl trivial ?_
  refine AW.blk (amw1 0) 1 4 (h' := hW th C T A L L2 O) (pc' := 202) (lv' := [(4, .int (nI i)), (3, .ref 52), (2, .ref 28), (1, .ref 0), (0, .ref 100)]) (st' := [.int (nI i + 1), .ref 100, .ref 0]) (L := []) rfl trivial ?_
  rw [show nI i + 1 = nI (i + 1) from nI_add i 1]
  refine AW.sld (amw1 0) 5 hS rfl (vp_in_nI (by omega) (by omega)) ?_
  rw [nI_clamp (show i + 1 < 2 ^ 31 by omega)]
  refine AW.blk (amw1 0) 6 4 (h' := hW th C T A L L2 O) (pc' := 208) (lv' := [(4, .int (nI i)), (3, .ref 52), (2, .ref 28), (1, .ref 0), (0, .ref 100)]) (st' := [.int (nI i + 2), .ref 100, .int (xs (i + 1)), .ref 0]) (L := []) rfl trivial ?_
  rw [show nI i + 2 = nI (i + 2) from nI_add i 2]
  refine AW.sld (amw1 0) 10 hS rfl (vp_in_nI (by omega) (by omega)) ?_
  rw [nI_clamp (show i + 2 < 2 ^ 31 by omega)]
  refine AW.blk (amw1 0) 11 1 (h' := hW th C T A L L2 O) (pc' := 210) (lv' := [(4, .int (nI i)), (3, .ref 52), (2, .ref 28), (1, .ref 0), (0, .ref 100)]) (st' := [.ref 52, .int (xs (i + 2)), .int (xs (i + 1)), .ref 0]) (L := []) rfl trivial ?_
  refine AW.lawW (amw1 0) 12 h1 hE wcL_setRain rfl wgL_setRain wsL_setRain wlL_setRain rfl rfl rfl rfl hR ⟨by decide, by decide, by show kc + 1 ≤ 619416; omega, by show ks + 6 ≤ 7237855; omega⟩ (st' := [.int kr]) rfl ?_
  refine AW.blk (amw1 0) 13 2 (h' := hM C' T' L' ++ (hX th C A L2).map (rE S2 []) ++ [aL 1 O']) (pc' := 216) (lv' := [(5, .int kr), (4, .int (nI i)), (3, .ref 52), (2, .ref 28), (1, .ref 0), (0, .ref 100)]) (st' := [.ref 28]) (L := []) rfl trivial ?_
  refine AW.blk (amw1 0) 15 4 (h' := hM C' T' L' ++ (hX th C A L2).map (rE S2 []) ++ [aL 1 O']) (pc' := 221) (lv' := [(5, .int kr), (4, .int (nI i)), (3, .ref 52), (2, .ref 28), (1, .ref 0), (0, .ref 100)]) (st' := [.int (nI i + 1), .ref 100, .ref 28]) (L := []) rfl trivial ?_
  rw [show nI i + 1 = nI (i + 1) from nI_add i 1]
  refine AW.sld (amw1 0) 19 hS rfl (vp_in_nI (by omega) (by omega)) ?_
  rw [nI_clamp (show i + 1 < 2 ^ 31 by omega)]
  refine AW.blk (amw1 0) 20 4 (h' := hM C' T' L' ++ (hX th C A L2).map (rE S2 []) ++ [aL 1 O']) (pc' := 227) (lv' := [(5, .int kr), (4, .int (nI i)), (3, .ref 52), (2, .ref 28), (1, .ref 0), (0, .ref 100)]) (st' := [.int (nI i + 2), .ref 100, .int (xs (i + 1)), .ref 28]) (L := []) rfl trivial ?_
  rw [show nI i + 2 = nI (i + 2) from nI_add i 2]
  refine AW.sld (amw1 0) 24 hS rfl (vp_in_nI (by omega) (by omega)) ?_
  rw [nI_clamp (show i + 2 < 2 ^ 31 by omega)]
  refine AW.lawX (amw1 0) 25 h2 (hM_len _ _ _) rfl ykX3_setRain yiX3_setRain yvX3_setRain mlL_77 rfl rfl rfl rfl hR ⟨by decide, by decide, by show kc + 1 + 0 ≤ 619416; omega, by show ks + 6 + 0 ≤ 7237855; omega⟩ (fun _ => rfl) (st' := [.int br]) rfl ?_
  refine AW.blk (amw1 0) 26 2 (h' := hM C' T' L' ++ (hX kr C' A' L2').map (rE S2 []) ++ [aL 1 O']) (pc' := 234) (lv' := [(6, .int br), (5, .int kr), (4, .int (nI i)), (3, .ref 52), (2, .ref 28), (1, .ref 0), (0, .ref 100)]) (st' := [.ref 28]) (L := []) rfl trivial ?_
  refine AW.lawX (amw1 0) 28 (kX3_thrownX kr C' A' L2') (hM_len _ _ _) rfl ykX3_thrown yiX3_thrown yvX3_thrown mlL_70 rfl rfl rfl rfl hR ⟨by decide, by decide, by show kc + 1 + 0 + 0 ≤ 619416; omega, by show ks + 6 + 0 + 0 ≤ 7237855; omega⟩ (fun _ => rfl) (st' := [.int kr]) rfl ?_
  refine AW.blk (amw1 0) 29 1 (h' := hM C' T' L' ++ (hX kr C' A' L2').map (rE S2 []) ++ [aL 1 O']) (pc' := 239) (lv' := [(6, .int br), (5, .int kr), (4, .int (nI i)), (3, .ref 52), (2, .ref 28), (1, .ref 0), (0, .ref 100)]) (st' := [.int kr, .int kr]) (L := []) rfl trivial ?_
  refine AW.br (amw1 0) 30 (tgt := 244) (C := kr = kr) (C' := ¬ kr = kr) (st' := []) rfl rfl rfl (fun _ => ?_) (fun c => absurd rfl c)
  refine AW.blk (amw1 0) 33 1 (h' := hM C' T' L' ++ (hX kr C' A' L2').map (rE S2 []) ++ [aL 1 O']) (pc' := 246) (lv' := [(6, .int br), (5, .int kr), (4, .int (nI i)), (3, .ref 52), (2, .ref 28), (1, .ref 0), (0, .ref 100)]) (st' := [.int kr]) (L := []) rfl trivial ?_
  refine AW.br (amw1 0) 34 (tgt := 261) (C := ¬ kr = 0) (C' := kr = 0) (st' := []) rfl rfl rfl (fun _ => ?_) (fun c => ?_)
  · exact AW.blk (amw1 0) 44 1 (h' := hM C' T' L' ++ (hX kr C' A' L2').map (rE S2 []) ++ [aL 1 O']) (pc' := 1099) (lv' := [(6, .int br), (5, .int kr), (4, .int (nI i)), (3, .ref 52), (2, .ref 28), (1, .ref 0), (0, .ref 100)]) (st' := []) (L := []) rfl trivial fin
  · refine AW.blk (amw1 0) 35 2 (h' := hM C' T' L' ++ (hX kr C' A' L2').map (rE S2 []) ++ [aL 1 O']) (pc' := 251) (lv' := [(6, .int br), (5, .int kr), (4, .int (nI i)), (3, .ref 52), (2, .ref 28), (1, .ref 0), (0, .ref 100)]) (st' := [.int 0, .ref 52]) (L := []) rfl trivial ?_
    refine AW.lald (amw1 0) 37 rfl (get_52 (hM_len _ _ _) (hQ_len _ _ _ _)) vo_0 ?_
    refine AW.blk (amw1 0) 38 2 (h' := hM C' T' L' ++ (hX kr C' A' L2').map (rE S2 []) ++ [aL 1 O']) (pc' := 255) (lv' := [(6, .int br), (5, .int kr), (4, .int (nI i)), (3, .ref 52), (2, .ref 28), (1, .ref 0), (0, .ref 100)]) (st' := [.long br.toInt64, .long (O' (0 : Int32).toNatClampNeg)]) (L := []) rfl trivial ?_
    refine AW.lcmpE (amw1 0) 40 rfl (he c) ?_
    refine AW.br (amw1 0) 41 (tgt := 261) (C := (0 : Int32) = 0) (C' := ¬ (0 : Int32) = 0) (st' := []) rfl rfl rfl (fun _ => ?_) (fun c => absurd rfl c)
    exact AW.blk (amw1 0) 44 1 (h' := hM C' T' L' ++ (hX kr C' A' L2').map (rE S2 []) ++ [aL 1 O']) (pc' := 1099) (lv' := [(6, .int br), (5, .int kr), (4, .int (nI i)), (3, .ref 52), (2, .ref 28), (1, .ref 0), (0, .ref 100)]) (st' := []) (L := []) rfl trivial fin
set_option maxHeartbeats 4000000 in
theorem cs_spill {G : aG} {N : Nat} {xs : Nat → Int32} (hR : aRm G = RW) (hS : aScr 100 N xs G) {hg : List (Nat × Nat × Nat × Nat)} (hE : aEx hg G) {th kr br : Int32} {C T A C' T' A' : CS} {L L2 L' L2' : Nat → Int32} {O O' : Nat → Int64} (i kc ks : Nat) (hk : kc + 127 ≤ 619416) (hs : ks + 907 ≤ 7237855) (hi : i + 4 ≤ N) (hN : N ≤ 2048)
    (h1 : AMetW yL_spill cL_spill 5 (some .int) hh_spill { frames := 8, cells := 1, slots := 6, locals := 126 } [.ref 0, .int (xs (i + 1)), .int (xs (i + 2)), .ref 28] (hM C T L ++ [aL 1 O]) (some (.int kr)) (hM C' T' L' ++ [aL 1 O']))
    (h2 : AMet yX3_spill cX3_spill 3 (some .int) { frames := 2, cells := 0, slots := 0, locals := 42 } [.ref 0, .int (xs (i + 1)), .int (xs (i + 2))] (hX th C A L2) (some (.int br)) (hX kr C' A' L2')) (he : kr = 0 → O' (0 : Int32).toNatClampNeg = br.toInt64)
    (K : AW G MW (hW kr C' T' A' L' L2' O') (kc + 127) (ks + 907) 1099 [(4, .int (nI i)), (3, .ref 52), (2, .ref 28), (1, .ref 0), (0, .ref 100)] []) : AW G MW (hW th C T A L L2 O) kc ks 264 [(4, .int (nI i)), (3, .ref 52), (2, .ref 28), (1, .ref 0), (0, .ref 100)] [] := by
  have fin : AW G MW (hM C' T' L' ++ (hX kr C' A' L2').map (rE S2 []) ++ [aL 1 O']) (kc + 1 + 0 + 0) (ks + 6 + 0 + 0) 1099 [(6, .int br), (5, .int kr), (4, .int (nI i)), (3, .ref 52), (2, .ref 28), (1, .ref 0), (0, .ref 100)] [] := AW.pick [2, 3, 4, 5, 6] rfl (AW.widen (by omega) (by omega) K)
  refine AW.blk (amw2 0) 0 1 (h' := hW th C T A L L2 O) (pc' := 265) (lv' := [(4, .int (nI i)), (3, .ref 52), (2, .ref 28), (1, .ref 0), (0, .ref 100)]) (st' := [.ref 0]) (L := []) rfl trivial ?_
  refine AW.blk (amw2 0) 1 4 (h' := hW th C T A L L2 O) (pc' := 270) (lv' := [(4, .int (nI i)), (3, .ref 52), (2, .ref 28), (1, .ref 0), (0, .ref 100)]) (st' := [.int (nI i + 1), .ref 100, .ref 0]) (L := []) rfl trivial ?_
  rw [show nI i + 1 = nI (i + 1) from nI_add i 1]
  refine AW.sld (amw2 0) 5 hS rfl (vp_in_nI (by omega) (by omega)) ?_
  rw [nI_clamp (show i + 1 < 2 ^ 31 by omega)]
  refine AW.blk (amw2 0) 6 4 (h' := hW th C T A L L2 O) (pc' := 276) (lv' := [(4, .int (nI i)), (3, .ref 52), (2, .ref 28), (1, .ref 0), (0, .ref 100)]) (st' := [.int (nI i + 2), .ref 100, .int (xs (i + 1)), .ref 0]) (L := []) rfl trivial ?_
  rw [show nI i + 2 = nI (i + 2) from nI_add i 2]
  refine AW.sld (amw2 0) 10 hS rfl (vp_in_nI (by omega) (by omega)) ?_
  rw [nI_clamp (show i + 2 < 2 ^ 31 by omega)]
  refine AW.blk (amw2 0) 11 1 (h' := hW th C T A L L2 O) (pc' := 278) (lv' := [(4, .int (nI i)), (3, .ref 52), (2, .ref 28), (1, .ref 0), (0, .ref 100)]) (st' := [.ref 52, .int (xs (i + 2)), .int (xs (i + 1)), .ref 0]) (L := []) rfl trivial ?_
  refine AW.lawW (amw2 0) 12 h1 hE wcL_spill rfl wgL_spill wsL_spill wlL_spill rfl rfl rfl rfl hR ⟨by decide, by decide, by show kc + 1 ≤ 619416; omega, by show ks + 6 ≤ 7237855; omega⟩ (st' := [.int kr]) rfl ?_
  refine AW.blk (amw2 0) 13 2 (h' := hM C' T' L' ++ (hX th C A L2).map (rE S2 []) ++ [aL 1 O']) (pc' := 284) (lv' := [(5, .int kr), (4, .int (nI i)), (3, .ref 52), (2, .ref 28), (1, .ref 0), (0, .ref 100)]) (st' := [.ref 28]) (L := []) rfl trivial ?_
  refine AW.blk (amw2 0) 15 4 (h' := hM C' T' L' ++ (hX th C A L2).map (rE S2 []) ++ [aL 1 O']) (pc' := 289) (lv' := [(5, .int kr), (4, .int (nI i)), (3, .ref 52), (2, .ref 28), (1, .ref 0), (0, .ref 100)]) (st' := [.int (nI i + 1), .ref 100, .ref 28]) (L := []) rfl trivial ?_
  rw [show nI i + 1 = nI (i + 1) from nI_add i 1]
  refine AW.sld (amw2 0) 19 hS rfl (vp_in_nI (by omega) (by omega)) ?_
  rw [nI_clamp (show i + 1 < 2 ^ 31 by omega)]
  refine AW.blk (amw2 0) 20 4 (h' := hM C' T' L' ++ (hX th C A L2).map (rE S2 []) ++ [aL 1 O']) (pc' := 295) (lv' := [(5, .int kr), (4, .int (nI i)), (3, .ref 52), (2, .ref 28), (1, .ref 0), (0, .ref 100)]) (st' := [.int (nI i + 2), .ref 100, .int (xs (i + 1)), .ref 28]) (L := []) rfl trivial ?_
  rw [show nI i + 2 = nI (i + 2) from nI_add i 2]
  refine AW.sld (amw2 0) 24 hS rfl (vp_in_nI (by omega) (by omega)) ?_
  rw [nI_clamp (show i + 2 < 2 ^ 31 by omega)]
  refine AW.lawX (amw2 0) 25 h2 (hM_len _ _ _) rfl ykX3_spill yiX3_spill yvX3_spill mlL_80 rfl rfl rfl rfl hR ⟨by decide, by decide, by show kc + 1 + 0 ≤ 619416; omega, by show ks + 6 + 0 ≤ 7237855; omega⟩ (fun _ => rfl) (st' := [.int br]) rfl ?_
  refine AW.blk (amw2 0) 26 2 (h' := hM C' T' L' ++ (hX kr C' A' L2').map (rE S2 []) ++ [aL 1 O']) (pc' := 302) (lv' := [(6, .int br), (5, .int kr), (4, .int (nI i)), (3, .ref 52), (2, .ref 28), (1, .ref 0), (0, .ref 100)]) (st' := [.ref 28]) (L := []) rfl trivial ?_
  refine AW.lawX (amw2 0) 28 (kX3_thrownX kr C' A' L2') (hM_len _ _ _) rfl ykX3_thrown yiX3_thrown yvX3_thrown mlL_70 rfl rfl rfl rfl hR ⟨by decide, by decide, by show kc + 1 + 0 + 0 ≤ 619416; omega, by show ks + 6 + 0 + 0 ≤ 7237855; omega⟩ (fun _ => rfl) (st' := [.int kr]) rfl ?_
  refine AW.blk (amw2 0) 29 1 (h' := hM C' T' L' ++ (hX kr C' A' L2').map (rE S2 []) ++ [aL 1 O']) (pc' := 307) (lv' := [(6, .int br), (5, .int kr), (4, .int (nI i)), (3, .ref 52), (2, .ref 28), (1, .ref 0), (0, .ref 100)]) (st' := [.int kr, .int kr]) (L := []) rfl trivial ?_
  refine AW.br (amw2 0) 30 (tgt := 312) (C := kr = kr) (C' := ¬ kr = kr) (st' := []) rfl rfl rfl (fun _ => ?_) (fun c => absurd rfl c)
  refine AW.blk (amw2 0) 33 1 (h' := hM C' T' L' ++ (hX kr C' A' L2').map (rE S2 []) ++ [aL 1 O']) (pc' := 314) (lv' := [(6, .int br), (5, .int kr), (4, .int (nI i)), (3, .ref 52), (2, .ref 28), (1, .ref 0), (0, .ref 100)]) (st' := [.int kr]) (L := []) rfl trivial ?_
  refine AW.br (amw2 0) 34 (tgt := 329) (C := ¬ kr = 0) (C' := kr = 0) (st' := []) rfl rfl rfl (fun _ => ?_) (fun c => ?_)
  · exact AW.blk (amw2 0) 44 1 (h' := hM C' T' L' ++ (hX kr C' A' L2').map (rE S2 []) ++ [aL 1 O']) (pc' := 1099) (lv' := [(6, .int br), (5, .int kr), (4, .int (nI i)), (3, .ref 52), (2, .ref 28), (1, .ref 0), (0, .ref 100)]) (st' := []) (L := []) rfl trivial fin
  · refine AW.blk (amw2 0) 35 2 (h' := hM C' T' L' ++ (hX kr C' A' L2').map (rE S2 []) ++ [aL 1 O']) (pc' := 319) (lv' := [(6, .int br), (5, .int kr), (4, .int (nI i)), (3, .ref 52), (2, .ref 28), (1, .ref 0), (0, .ref 100)]) (st' := [.int 0, .ref 52]) (L := []) rfl trivial ?_
    refine AW.lald (amw2 0) 37 rfl (get_52 (hM_len _ _ _) (hQ_len _ _ _ _)) vo_0 ?_
    refine AW.blk (amw2 0) 38 2 (h' := hM C' T' L' ++ (hX kr C' A' L2').map (rE S2 []) ++ [aL 1 O']) (pc' := 323) (lv' := [(6, .int br), (5, .int kr), (4, .int (nI i)), (3, .ref 52), (2, .ref 28), (1, .ref 0), (0, .ref 100)]) (st' := [.long br.toInt64, .long (O' (0 : Int32).toNatClampNeg)]) (L := []) rfl trivial ?_
    refine AW.lcmpE (amw2 0) 40 rfl (he c) ?_
    refine AW.br (amw2 0) 41 (tgt := 329) (C := (0 : Int32) = 0) (C' := ¬ (0 : Int32) = 0) (st' := []) rfl rfl rfl (fun _ => ?_) (fun c => absurd rfl c)
    exact AW.blk (amw2 0) 44 1 (h' := hM C' T' L' ++ (hX kr C' A' L2').map (rE S2 []) ++ [aL 1 O']) (pc' := 1099) (lv' := [(6, .int br), (5, .int kr), (4, .int (nI i)), (3, .ref 52), (2, .ref 28), (1, .ref 0), (0, .ref 100)]) (st' := []) (L := []) rfl trivial fin
set_option maxHeartbeats 4000000 in
theorem cs_come {G : aG} {N : Nat} {xs : Nat → Int32} (hR : aRm G = RW) (hS : aScr 100 N xs G) {hg : List (Nat × Nat × Nat × Nat)} (hE : aEx hg G) {th kr br : Int32} {C T A C' T' A' : CS} {L L2 L' L2' : Nat → Int32} {O O' : Nat → Int64} (i kc ks : Nat) (hk : kc + 127 ≤ 619416) (hs : ks + 907 ≤ 7237855) (hi : i + 4 ≤ N) (hN : N ≤ 2048)
    (h1 : AMetW yL_come cL_come 5 (some .int) hh_come { frames := 8, cells := 1, slots := 6, locals := 126 } [.ref 0, .int (xs (i + 1)), .int (xs (i + 2)), .ref 28] (hM C T L ++ [aL 1 O]) (some (.int kr)) (hM C' T' L' ++ [aL 1 O']))
    (h2 : AMet yX3_come cX3_come 3 (some .int) { frames := 2, cells := 0, slots := 0, locals := 42 } [.ref 0, .int (xs (i + 1)), .int (xs (i + 2))] (hX th C A L2) (some (.int br)) (hX kr C' A' L2')) (he : kr = 0 → O' (0 : Int32).toNatClampNeg = br.toInt64)
    (K : AW G MW (hW kr C' T' A' L' L2' O') (kc + 127) (ks + 907) 1099 [(4, .int (nI i)), (3, .ref 52), (2, .ref 28), (1, .ref 0), (0, .ref 100)] []) : AW G MW (hW th C T A L L2 O) kc ks 332 [(4, .int (nI i)), (3, .ref 52), (2, .ref 28), (1, .ref 0), (0, .ref 100)] [] := by
  have fin : AW G MW (hM C' T' L' ++ (hX kr C' A' L2').map (rE S2 []) ++ [aL 1 O']) (kc + 1 + 0 + 0) (ks + 6 + 0 + 0) 1099 [(6, .int br), (5, .int kr), (4, .int (nI i)), (3, .ref 52), (2, .ref 28), (1, .ref 0), (0, .ref 100)] [] := AW.pick [2, 3, 4, 5, 6] rfl (AW.widen (by omega) (by omega) K)
  refine AW.blk (amw3 0) 0 1 (h' := hW th C T A L L2 O) (pc' := 333) (lv' := [(4, .int (nI i)), (3, .ref 52), (2, .ref 28), (1, .ref 0), (0, .ref 100)]) (st' := [.ref 0]) (L := []) rfl trivial ?_
  refine AW.blk (amw3 0) 1 4 (h' := hW th C T A L L2 O) (pc' := 338) (lv' := [(4, .int (nI i)), (3, .ref 52), (2, .ref 28), (1, .ref 0), (0, .ref 100)]) (st' := [.int (nI i + 1), .ref 100, .ref 0]) (L := []) rfl trivial ?_
  rw [show nI i + 1 = nI (i + 1) from nI_add i 1]
  refine AW.sld (amw3 0) 5 hS rfl (vp_in_nI (by omega) (by omega)) ?_
  rw [nI_clamp (show i + 1 < 2 ^ 31 by omega)]
  refine AW.blk (amw3 0) 6 4 (h' := hW th C T A L L2 O) (pc' := 344) (lv' := [(4, .int (nI i)), (3, .ref 52), (2, .ref 28), (1, .ref 0), (0, .ref 100)]) (st' := [.int (nI i + 2), .ref 100, .int (xs (i + 1)), .ref 0]) (L := []) rfl trivial ?_
  rw [show nI i + 2 = nI (i + 2) from nI_add i 2]
  refine AW.sld (amw3 0) 10 hS rfl (vp_in_nI (by omega) (by omega)) ?_
  rw [nI_clamp (show i + 2 < 2 ^ 31 by omega)]
  refine AW.blk (amw3 0) 11 1 (h' := hW th C T A L L2 O) (pc' := 346) (lv' := [(4, .int (nI i)), (3, .ref 52), (2, .ref 28), (1, .ref 0), (0, .ref 100)]) (st' := [.ref 52, .int (xs (i + 2)), .int (xs (i + 1)), .ref 0]) (L := []) rfl trivial ?_
  refine AW.lawW (amw3 0) 12 h1 hE wcL_come rfl wgL_come wsL_come wlL_come rfl rfl rfl rfl hR ⟨by decide, by decide, by show kc + 1 ≤ 619416; omega, by show ks + 6 ≤ 7237855; omega⟩ (st' := [.int kr]) rfl ?_
  refine AW.blk (amw3 0) 13 2 (h' := hM C' T' L' ++ (hX th C A L2).map (rE S2 []) ++ [aL 1 O']) (pc' := 352) (lv' := [(5, .int kr), (4, .int (nI i)), (3, .ref 52), (2, .ref 28), (1, .ref 0), (0, .ref 100)]) (st' := [.ref 28]) (L := []) rfl trivial ?_
  refine AW.blk (amw3 0) 15 4 (h' := hM C' T' L' ++ (hX th C A L2).map (rE S2 []) ++ [aL 1 O']) (pc' := 357) (lv' := [(5, .int kr), (4, .int (nI i)), (3, .ref 52), (2, .ref 28), (1, .ref 0), (0, .ref 100)]) (st' := [.int (nI i + 1), .ref 100, .ref 28]) (L := []) rfl trivial ?_
  rw [show nI i + 1 = nI (i + 1) from nI_add i 1]
  refine AW.sld (amw3 0) 19 hS rfl (vp_in_nI (by omega) (by omega)) ?_
  rw [nI_clamp (show i + 1 < 2 ^ 31 by omega)]
  refine AW.blk (amw3 0) 20 4 (h' := hM C' T' L' ++ (hX th C A L2).map (rE S2 []) ++ [aL 1 O']) (pc' := 363) (lv' := [(5, .int kr), (4, .int (nI i)), (3, .ref 52), (2, .ref 28), (1, .ref 0), (0, .ref 100)]) (st' := [.int (nI i + 2), .ref 100, .int (xs (i + 1)), .ref 28]) (L := []) rfl trivial ?_
  rw [show nI i + 2 = nI (i + 2) from nI_add i 2]
  refine AW.sld (amw3 0) 24 hS rfl (vp_in_nI (by omega) (by omega)) ?_
  rw [nI_clamp (show i + 2 < 2 ^ 31 by omega)]
  refine AW.lawX (amw3 0) 25 h2 (hM_len _ _ _) rfl ykX3_come yiX3_come yvX3_come mlL_83 rfl rfl rfl rfl hR ⟨by decide, by decide, by show kc + 1 + 0 ≤ 619416; omega, by show ks + 6 + 0 ≤ 7237855; omega⟩ (fun _ => rfl) (st' := [.int br]) rfl ?_
  refine AW.blk (amw3 0) 26 2 (h' := hM C' T' L' ++ (hX kr C' A' L2').map (rE S2 []) ++ [aL 1 O']) (pc' := 370) (lv' := [(6, .int br), (5, .int kr), (4, .int (nI i)), (3, .ref 52), (2, .ref 28), (1, .ref 0), (0, .ref 100)]) (st' := [.ref 28]) (L := []) rfl trivial ?_
  refine AW.lawX (amw3 0) 28 (kX3_thrownX kr C' A' L2') (hM_len _ _ _) rfl ykX3_thrown yiX3_thrown yvX3_thrown mlL_70 rfl rfl rfl rfl hR ⟨by decide, by decide, by show kc + 1 + 0 + 0 ≤ 619416; omega, by show ks + 6 + 0 + 0 ≤ 7237855; omega⟩ (fun _ => rfl) (st' := [.int kr]) rfl ?_
  refine AW.blk (amw3 0) 29 1 (h' := hM C' T' L' ++ (hX kr C' A' L2').map (rE S2 []) ++ [aL 1 O']) (pc' := 375) (lv' := [(6, .int br), (5, .int kr), (4, .int (nI i)), (3, .ref 52), (2, .ref 28), (1, .ref 0), (0, .ref 100)]) (st' := [.int kr, .int kr]) (L := []) rfl trivial ?_
  refine AW.br (amw3 0) 30 (tgt := 380) (C := kr = kr) (C' := ¬ kr = kr) (st' := []) rfl rfl rfl (fun _ => ?_) (fun c => absurd rfl c)
  refine AW.blk (amw3 0) 33 1 (h' := hM C' T' L' ++ (hX kr C' A' L2').map (rE S2 []) ++ [aL 1 O']) (pc' := 382) (lv' := [(6, .int br), (5, .int kr), (4, .int (nI i)), (3, .ref 52), (2, .ref 28), (1, .ref 0), (0, .ref 100)]) (st' := [.int kr]) (L := []) rfl trivial ?_
  refine AW.br (amw3 0) 34 (tgt := 397) (C := ¬ kr = 0) (C' := kr = 0) (st' := []) rfl rfl rfl (fun _ => ?_) (fun c => ?_)
  · exact AW.blk (amw3 0) 44 1 (h' := hM C' T' L' ++ (hX kr C' A' L2').map (rE S2 []) ++ [aL 1 O']) (pc' := 1099) (lv' := [(6, .int br), (5, .int kr), (4, .int (nI i)), (3, .ref 52), (2, .ref 28), (1, .ref 0), (0, .ref 100)]) (st' := []) (L := []) rfl trivial fin
  · refine AW.blk (amw3 0) 35 2 (h' := hM C' T' L' ++ (hX kr C' A' L2').map (rE S2 []) ++ [aL 1 O']) (pc' := 387) (lv' := [(6, .int br), (5, .int kr), (4, .int (nI i)), (3, .ref 52), (2, .ref 28), (1, .ref 0), (0, .ref 100)]) (st' := [.int 0, .ref 52]) (L := []) rfl trivial ?_
    refine AW.lald (amw3 0) 37 rfl (get_52 (hM_len _ _ _) (hQ_len _ _ _ _)) vo_0 ?_
    refine AW.blk (amw3 0) 38 2 (h' := hM C' T' L' ++ (hX kr C' A' L2').map (rE S2 []) ++ [aL 1 O']) (pc' := 391) (lv' := [(6, .int br), (5, .int kr), (4, .int (nI i)), (3, .ref 52), (2, .ref 28), (1, .ref 0), (0, .ref 100)]) (st' := [.long br.toInt64, .long (O' (0 : Int32).toNatClampNeg)]) (L := []) rfl trivial ?_
    refine AW.lcmpE (amw3 0) 40 rfl (he c) ?_
    refine AW.br (amw3 0) 41 (tgt := 397) (C := (0 : Int32) = 0) (C' := ¬ (0 : Int32) = 0) (st' := []) rfl rfl rfl (fun _ => ?_) (fun c => absurd rfl c)
    exact AW.blk (amw3 0) 44 1 (h' := hM C' T' L' ++ (hX kr C' A' L2').map (rE S2 []) ++ [aL 1 O']) (pc' := 1099) (lv' := [(6, .int br), (5, .int kr), (4, .int (nI i)), (3, .ref 52), (2, .ref 28), (1, .ref 0), (0, .ref 100)]) (st' := []) (L := []) rfl trivial fin
set_option maxHeartbeats 4000000 in
theorem cs_send {G : aG} {N : Nat} {xs : Nat → Int32} (hR : aRm G = RW) (hS : aScr 100 N xs G) {hg : List (Nat × Nat × Nat × Nat)} (hE : aEx hg G) {th kr br : Int32} {C T A C' T' A' : CS} {L L2 L' L2' : Nat → Int32} {O O' : Nat → Int64} (i kc ks : Nat) (hk : kc + 127 ≤ 619416) (hs : ks + 907 ≤ 7237855) (hi : i + 4 ≤ N) (hN : N ≤ 2048)
    (h1 : AMetW yL_send cL_send 5 (some .int) hh_send { frames := 8, cells := 1, slots := 6, locals := 128 } [.ref 0, .int (xs (i + 1)), .int (xs (i + 2)), .ref 28] (hM C T L ++ [aL 1 O]) (some (.int kr)) (hM C' T' L' ++ [aL 1 O']))
    (h2 : AMet yX3_send cX3_send 3 (some .int) { frames := 2, cells := 0, slots := 0, locals := 44 } [.ref 0, .int (xs (i + 1)), .int (xs (i + 2))] (hX th C A L2) (some (.int br)) (hX kr C' A' L2')) (he : kr = 0 → O' (0 : Int32).toNatClampNeg = br.toInt64)
    (K : AW G MW (hW kr C' T' A' L' L2' O') (kc + 127) (ks + 907) 1099 [(4, .int (nI i)), (3, .ref 52), (2, .ref 28), (1, .ref 0), (0, .ref 100)] []) : AW G MW (hW th C T A L L2 O) kc ks 400 [(4, .int (nI i)), (3, .ref 52), (2, .ref 28), (1, .ref 0), (0, .ref 100)] [] := by
  have fin : AW G MW (hM C' T' L' ++ (hX kr C' A' L2').map (rE S2 []) ++ [aL 1 O']) (kc + 1 + 0 + 0) (ks + 6 + 0 + 0) 1099 [(6, .int br), (5, .int kr), (4, .int (nI i)), (3, .ref 52), (2, .ref 28), (1, .ref 0), (0, .ref 100)] [] := AW.pick [2, 3, 4, 5, 6] rfl (AW.widen (by omega) (by omega) K)
  refine AW.blk (amw4 0) 0 1 (h' := hW th C T A L L2 O) (pc' := 401) (lv' := [(4, .int (nI i)), (3, .ref 52), (2, .ref 28), (1, .ref 0), (0, .ref 100)]) (st' := [.ref 0]) (L := []) rfl trivial ?_
  refine AW.blk (amw4 0) 1 4 (h' := hW th C T A L L2 O) (pc' := 406) (lv' := [(4, .int (nI i)), (3, .ref 52), (2, .ref 28), (1, .ref 0), (0, .ref 100)]) (st' := [.int (nI i + 1), .ref 100, .ref 0]) (L := []) rfl trivial ?_
  rw [show nI i + 1 = nI (i + 1) from nI_add i 1]
  refine AW.sld (amw4 0) 5 hS rfl (vp_in_nI (by omega) (by omega)) ?_
  rw [nI_clamp (show i + 1 < 2 ^ 31 by omega)]
  refine AW.blk (amw4 0) 6 4 (h' := hW th C T A L L2 O) (pc' := 412) (lv' := [(4, .int (nI i)), (3, .ref 52), (2, .ref 28), (1, .ref 0), (0, .ref 100)]) (st' := [.int (nI i + 2), .ref 100, .int (xs (i + 1)), .ref 0]) (L := []) rfl trivial ?_
  rw [show nI i + 2 = nI (i + 2) from nI_add i 2]
  refine AW.sld (amw4 0) 10 hS rfl (vp_in_nI (by omega) (by omega)) ?_
  rw [nI_clamp (show i + 2 < 2 ^ 31 by omega)]
  refine AW.blk (amw4 0) 11 1 (h' := hW th C T A L L2 O) (pc' := 414) (lv' := [(4, .int (nI i)), (3, .ref 52), (2, .ref 28), (1, .ref 0), (0, .ref 100)]) (st' := [.ref 52, .int (xs (i + 2)), .int (xs (i + 1)), .ref 0]) (L := []) rfl trivial ?_
  refine AW.lawW (amw4 0) 12 h1 hE wcL_send rfl wgL_send wsL_send wlL_send rfl rfl rfl rfl hR ⟨by decide, by decide, by show kc + 1 ≤ 619416; omega, by show ks + 6 ≤ 7237855; omega⟩ (st' := [.int kr]) rfl ?_
  refine AW.blk (amw4 0) 13 2 (h' := hM C' T' L' ++ (hX th C A L2).map (rE S2 []) ++ [aL 1 O']) (pc' := 420) (lv' := [(5, .int kr), (4, .int (nI i)), (3, .ref 52), (2, .ref 28), (1, .ref 0), (0, .ref 100)]) (st' := [.ref 28]) (L := []) rfl trivial ?_
  refine AW.blk (amw4 0) 15 4 (h' := hM C' T' L' ++ (hX th C A L2).map (rE S2 []) ++ [aL 1 O']) (pc' := 425) (lv' := [(5, .int kr), (4, .int (nI i)), (3, .ref 52), (2, .ref 28), (1, .ref 0), (0, .ref 100)]) (st' := [.int (nI i + 1), .ref 100, .ref 28]) (L := []) rfl trivial ?_
  rw [show nI i + 1 = nI (i + 1) from nI_add i 1]
  refine AW.sld (amw4 0) 19 hS rfl (vp_in_nI (by omega) (by omega)) ?_
  rw [nI_clamp (show i + 1 < 2 ^ 31 by omega)]
  refine AW.blk (amw4 0) 20 4 (h' := hM C' T' L' ++ (hX th C A L2).map (rE S2 []) ++ [aL 1 O']) (pc' := 431) (lv' := [(5, .int kr), (4, .int (nI i)), (3, .ref 52), (2, .ref 28), (1, .ref 0), (0, .ref 100)]) (st' := [.int (nI i + 2), .ref 100, .int (xs (i + 1)), .ref 28]) (L := []) rfl trivial ?_
  rw [show nI i + 2 = nI (i + 2) from nI_add i 2]
  refine AW.sld (amw4 0) 24 hS rfl (vp_in_nI (by omega) (by omega)) ?_
  rw [nI_clamp (show i + 2 < 2 ^ 31 by omega)]
  refine AW.lawX (amw4 0) 25 h2 (hM_len _ _ _) rfl ykX3_send yiX3_send yvX3_send mlL_86 rfl rfl rfl rfl hR ⟨by decide, by decide, by show kc + 1 + 0 ≤ 619416; omega, by show ks + 6 + 0 ≤ 7237855; omega⟩ (fun _ => rfl) (st' := [.int br]) rfl ?_
  refine AW.blk (amw4 0) 26 2 (h' := hM C' T' L' ++ (hX kr C' A' L2').map (rE S2 []) ++ [aL 1 O']) (pc' := 438) (lv' := [(6, .int br), (5, .int kr), (4, .int (nI i)), (3, .ref 52), (2, .ref 28), (1, .ref 0), (0, .ref 100)]) (st' := [.ref 28]) (L := []) rfl trivial ?_
  refine AW.lawX (amw4 0) 28 (kX3_thrownX kr C' A' L2') (hM_len _ _ _) rfl ykX3_thrown yiX3_thrown yvX3_thrown mlL_70 rfl rfl rfl rfl hR ⟨by decide, by decide, by show kc + 1 + 0 + 0 ≤ 619416; omega, by show ks + 6 + 0 + 0 ≤ 7237855; omega⟩ (fun _ => rfl) (st' := [.int kr]) rfl ?_
  refine AW.blk (amw4 0) 29 1 (h' := hM C' T' L' ++ (hX kr C' A' L2').map (rE S2 []) ++ [aL 1 O']) (pc' := 443) (lv' := [(6, .int br), (5, .int kr), (4, .int (nI i)), (3, .ref 52), (2, .ref 28), (1, .ref 0), (0, .ref 100)]) (st' := [.int kr, .int kr]) (L := []) rfl trivial ?_
  refine AW.br (amw4 0) 30 (tgt := 448) (C := kr = kr) (C' := ¬ kr = kr) (st' := []) rfl rfl rfl (fun _ => ?_) (fun c => absurd rfl c)
  refine AW.blk (amw4 0) 33 1 (h' := hM C' T' L' ++ (hX kr C' A' L2').map (rE S2 []) ++ [aL 1 O']) (pc' := 450) (lv' := [(6, .int br), (5, .int kr), (4, .int (nI i)), (3, .ref 52), (2, .ref 28), (1, .ref 0), (0, .ref 100)]) (st' := [.int kr]) (L := []) rfl trivial ?_
  refine AW.br (amw4 0) 34 (tgt := 465) (C := ¬ kr = 0) (C' := kr = 0) (st' := []) rfl rfl rfl (fun _ => ?_) (fun c => ?_)
  · exact AW.blk (amw4 0) 44 1 (h' := hM C' T' L' ++ (hX kr C' A' L2').map (rE S2 []) ++ [aL 1 O']) (pc' := 1099) (lv' := [(6, .int br), (5, .int kr), (4, .int (nI i)), (3, .ref 52), (2, .ref 28), (1, .ref 0), (0, .ref 100)]) (st' := []) (L := []) rfl trivial fin
  · refine AW.blk (amw4 0) 35 2 (h' := hM C' T' L' ++ (hX kr C' A' L2').map (rE S2 []) ++ [aL 1 O']) (pc' := 455) (lv' := [(6, .int br), (5, .int kr), (4, .int (nI i)), (3, .ref 52), (2, .ref 28), (1, .ref 0), (0, .ref 100)]) (st' := [.int 0, .ref 52]) (L := []) rfl trivial ?_
    refine AW.lald (amw4 0) 37 rfl (get_52 (hM_len _ _ _) (hQ_len _ _ _ _)) vo_0 ?_
    refine AW.blk (amw4 0) 38 2 (h' := hM C' T' L' ++ (hX kr C' A' L2').map (rE S2 []) ++ [aL 1 O']) (pc' := 459) (lv' := [(6, .int br), (5, .int kr), (4, .int (nI i)), (3, .ref 52), (2, .ref 28), (1, .ref 0), (0, .ref 100)]) (st' := [.long br.toInt64, .long (O' (0 : Int32).toNatClampNeg)]) (L := []) rfl trivial ?_
    refine AW.lcmpE (amw4 0) 40 rfl (he c) ?_
    refine AW.br (amw4 0) 41 (tgt := 465) (C := (0 : Int32) = 0) (C' := ¬ (0 : Int32) = 0) (st' := []) rfl rfl rfl (fun _ => ?_) (fun c => absurd rfl c)
    exact AW.blk (amw4 0) 44 1 (h' := hM C' T' L' ++ (hX kr C' A' L2').map (rE S2 []) ++ [aL 1 O']) (pc' := 1099) (lv' := [(6, .int br), (5, .int kr), (4, .int (nI i)), (3, .ref 52), (2, .ref 28), (1, .ref 0), (0, .ref 100)]) (st' := []) (L := []) rfl trivial fin
set_option maxHeartbeats 4000000 in
theorem cs_buy {G : aG} {N : Nat} {xs : Nat → Int32} (hR : aRm G = RW) (hS : aScr 100 N xs G) {hg : List (Nat × Nat × Nat × Nat)} (hE : aEx hg G) {th kr br : Int32} {C T A C' T' A' : CS} {L L2 L' L2' : Nat → Int32} {O O' : Nat → Int64} (i kc ks : Nat) (hk : kc + 127 ≤ 619416) (hs : ks + 907 ≤ 7237855) (hi : i + 4 ≤ N) (hN : N ≤ 2048)
    (h1 : AMetW yL_buy cL_buy 4 (some .int) hh_buy { frames := 8, cells := 1, slots := 6, locals := 124 } [.ref 0, .int (xs (i + 1)), .ref 28] (hM C T L ++ [aL 1 O]) (some (.int kr)) (hM C' T' L' ++ [aL 1 O']))
    (h2 : AMet yX3_buy cX3_buy 2 (some .int) { frames := 2, cells := 0, slots := 0, locals := 43 } [.ref 0, .int (xs (i + 1))] (hX th C A L2) (some (.int br)) (hX kr C' A' L2')) (he : kr = 0 → O' (0 : Int32).toNatClampNeg = br.toInt64)
    (K : AW G MW (hW kr C' T' A' L' L2' O') (kc + 127) (ks + 907) 1099 [(4, .int (nI i)), (3, .ref 52), (2, .ref 28), (1, .ref 0), (0, .ref 100)] []) : AW G MW (hW th C T A L L2 O) kc ks 468 [(4, .int (nI i)), (3, .ref 52), (2, .ref 28), (1, .ref 0), (0, .ref 100)] [] := by
  have fin : AW G MW (hM C' T' L' ++ (hX kr C' A' L2').map (rE S2 []) ++ [aL 1 O']) (kc + 1 + 0 + 0) (ks + 6 + 0 + 0) 1099 [(6, .int br), (5, .int kr), (4, .int (nI i)), (3, .ref 52), (2, .ref 28), (1, .ref 0), (0, .ref 100)] [] := AW.pick [2, 3, 4, 5, 6] rfl (AW.widen (by omega) (by omega) K)
  refine AW.blk (amw5 0) 0 1 (h' := hW th C T A L L2 O) (pc' := 469) (lv' := [(4, .int (nI i)), (3, .ref 52), (2, .ref 28), (1, .ref 0), (0, .ref 100)]) (st' := [.ref 0]) (L := []) rfl trivial ?_
  refine AW.blk (amw5 0) 1 4 (h' := hW th C T A L L2 O) (pc' := 474) (lv' := [(4, .int (nI i)), (3, .ref 52), (2, .ref 28), (1, .ref 0), (0, .ref 100)]) (st' := [.int (nI i + 1), .ref 100, .ref 0]) (L := []) rfl trivial ?_
  rw [show nI i + 1 = nI (i + 1) from nI_add i 1]
  refine AW.sld (amw5 0) 5 hS rfl (vp_in_nI (by omega) (by omega)) ?_
  rw [nI_clamp (show i + 1 < 2 ^ 31 by omega)]
  refine AW.blk (amw5 0) 6 1 (h' := hW th C T A L L2 O) (pc' := 476) (lv' := [(4, .int (nI i)), (3, .ref 52), (2, .ref 28), (1, .ref 0), (0, .ref 100)]) (st' := [.ref 52, .int (xs (i + 1)), .ref 0]) (L := []) rfl trivial ?_
  refine AW.lawW (amw5 0) 7 h1 hE wcL_buy rfl wgL_buy wsL_buy wlL_buy rfl rfl rfl rfl hR ⟨by decide, by decide, by show kc + 1 ≤ 619416; omega, by show ks + 6 ≤ 7237855; omega⟩ (st' := [.int kr]) rfl ?_
  refine AW.blk (amw5 0) 8 2 (h' := hM C' T' L' ++ (hX th C A L2).map (rE S2 []) ++ [aL 1 O']) (pc' := 482) (lv' := [(5, .int kr), (4, .int (nI i)), (3, .ref 52), (2, .ref 28), (1, .ref 0), (0, .ref 100)]) (st' := [.ref 28]) (L := []) rfl trivial ?_
  refine AW.blk (amw5 0) 10 4 (h' := hM C' T' L' ++ (hX th C A L2).map (rE S2 []) ++ [aL 1 O']) (pc' := 487) (lv' := [(5, .int kr), (4, .int (nI i)), (3, .ref 52), (2, .ref 28), (1, .ref 0), (0, .ref 100)]) (st' := [.int (nI i + 1), .ref 100, .ref 28]) (L := []) rfl trivial ?_
  rw [show nI i + 1 = nI (i + 1) from nI_add i 1]
  refine AW.sld (amw5 0) 14 hS rfl (vp_in_nI (by omega) (by omega)) ?_
  rw [nI_clamp (show i + 1 < 2 ^ 31 by omega)]
  refine AW.lawX (amw5 0) 15 h2 (hM_len _ _ _) rfl ykX3_buy yiX3_buy yvX3_buy mlL_90 rfl rfl rfl rfl hR ⟨by decide, by decide, by show kc + 1 + 0 ≤ 619416; omega, by show ks + 6 + 0 ≤ 7237855; omega⟩ (fun _ => rfl) (st' := [.int br]) rfl ?_
  refine AW.blk (amw5 0) 16 2 (h' := hM C' T' L' ++ (hX kr C' A' L2').map (rE S2 []) ++ [aL 1 O']) (pc' := 494) (lv' := [(6, .int br), (5, .int kr), (4, .int (nI i)), (3, .ref 52), (2, .ref 28), (1, .ref 0), (0, .ref 100)]) (st' := [.ref 28]) (L := []) rfl trivial ?_
  refine AW.lawX (amw5 0) 18 (kX3_thrownX kr C' A' L2') (hM_len _ _ _) rfl ykX3_thrown yiX3_thrown yvX3_thrown mlL_70 rfl rfl rfl rfl hR ⟨by decide, by decide, by show kc + 1 + 0 + 0 ≤ 619416; omega, by show ks + 6 + 0 + 0 ≤ 7237855; omega⟩ (fun _ => rfl) (st' := [.int kr]) rfl ?_
  refine AW.blk (amw5 0) 19 1 (h' := hM C' T' L' ++ (hX kr C' A' L2').map (rE S2 []) ++ [aL 1 O']) (pc' := 499) (lv' := [(6, .int br), (5, .int kr), (4, .int (nI i)), (3, .ref 52), (2, .ref 28), (1, .ref 0), (0, .ref 100)]) (st' := [.int kr, .int kr]) (L := []) rfl trivial ?_
  refine AW.br (amw5 0) 20 (tgt := 504) (C := kr = kr) (C' := ¬ kr = kr) (st' := []) rfl rfl rfl (fun _ => ?_) (fun c => absurd rfl c)
  refine AW.blk (amw5 0) 23 1 (h' := hM C' T' L' ++ (hX kr C' A' L2').map (rE S2 []) ++ [aL 1 O']) (pc' := 506) (lv' := [(6, .int br), (5, .int kr), (4, .int (nI i)), (3, .ref 52), (2, .ref 28), (1, .ref 0), (0, .ref 100)]) (st' := [.int kr]) (L := []) rfl trivial ?_
  refine AW.br (amw5 0) 24 (tgt := 521) (C := ¬ kr = 0) (C' := kr = 0) (st' := []) rfl rfl rfl (fun _ => ?_) (fun c => ?_)
  · exact AW.blk (amw5 0) 34 1 (h' := hM C' T' L' ++ (hX kr C' A' L2').map (rE S2 []) ++ [aL 1 O']) (pc' := 1099) (lv' := [(6, .int br), (5, .int kr), (4, .int (nI i)), (3, .ref 52), (2, .ref 28), (1, .ref 0), (0, .ref 100)]) (st' := []) (L := []) rfl trivial fin
  · refine AW.blk (amw5 0) 25 2 (h' := hM C' T' L' ++ (hX kr C' A' L2').map (rE S2 []) ++ [aL 1 O']) (pc' := 511) (lv' := [(6, .int br), (5, .int kr), (4, .int (nI i)), (3, .ref 52), (2, .ref 28), (1, .ref 0), (0, .ref 100)]) (st' := [.int 0, .ref 52]) (L := []) rfl trivial ?_
    refine AW.lald (amw5 0) 27 rfl (get_52 (hM_len _ _ _) (hQ_len _ _ _ _)) vo_0 ?_
    refine AW.blk (amw5 0) 28 2 (h' := hM C' T' L' ++ (hX kr C' A' L2').map (rE S2 []) ++ [aL 1 O']) (pc' := 515) (lv' := [(6, .int br), (5, .int kr), (4, .int (nI i)), (3, .ref 52), (2, .ref 28), (1, .ref 0), (0, .ref 100)]) (st' := [.long br.toInt64, .long (O' (0 : Int32).toNatClampNeg)]) (L := []) rfl trivial ?_
    refine AW.lcmpE (amw5 0) 30 rfl (he c) ?_
    refine AW.br (amw5 0) 31 (tgt := 521) (C := (0 : Int32) = 0) (C' := ¬ (0 : Int32) = 0) (st' := []) rfl rfl rfl (fun _ => ?_) (fun c => absurd rfl c)
    exact AW.blk (amw5 0) 34 1 (h' := hM C' T' L' ++ (hX kr C' A' L2').map (rE S2 []) ++ [aL 1 O']) (pc' := 1099) (lv' := [(6, .int br), (5, .int kr), (4, .int (nI i)), (3, .ref 52), (2, .ref 28), (1, .ref 0), (0, .ref 100)]) (st' := []) (L := []) rfl trivial fin
set_option maxHeartbeats 4000000 in
theorem cs_sweeper {G : aG} {N : Nat} {xs : Nat → Int32} (hR : aRm G = RW) (hS : aScr 100 N xs G) {hg : List (Nat × Nat × Nat × Nat)} (hE : aEx hg G) {th kr br : Int32} {C T A C' T' A' : CS} {L L2 L' L2' : Nat → Int32} {O O' : Nat → Int64} (i kc ks : Nat) (hk : kc + 127 ≤ 619416) (hs : ks + 907 ≤ 7237855) (hi : i + 4 ≤ N) (hN : N ≤ 2048)
    (h1 : AMetW yL_sweeper cL_sweeper 5 (some .int) hh_sweeper { frames := 8, cells := 1, slots := 6, locals := 126 } [.ref 0, .int (xs (i + 1)), .int (xs (i + 2)), .ref 28] (hM C T L ++ [aL 1 O]) (some (.int kr)) (hM C' T' L' ++ [aL 1 O']))
    (h2 : AMet yX3_sweeper cX3_sweeper 3 (some .int) { frames := 2, cells := 1, slots := 8, locals := 44 } [.ref 0, .int (xs (i + 1)), .int (xs (i + 2))] (hX th C A L2) (some (.int br)) (hX kr C' A' L2')) (he : kr = 0 → O' (0 : Int32).toNatClampNeg = br.toInt64)
    (K : AW G MW (hW kr C' T' A' L' L2' O') (kc + 127) (ks + 907) 1099 [(4, .int (nI i)), (3, .ref 52), (2, .ref 28), (1, .ref 0), (0, .ref 100)] []) : AW G MW (hW th C T A L L2 O) kc ks 524 [(4, .int (nI i)), (3, .ref 52), (2, .ref 28), (1, .ref 0), (0, .ref 100)] [] := by
  have fin : AW G MW (hM C' T' L' ++ (hX kr C' A' L2').map (rE S2 []) ++ [aL 1 O']) (kc + 1 + 1 + 0) (ks + 6 + 8 + 0) 1099 [(6, .int br), (5, .int kr), (4, .int (nI i)), (3, .ref 52), (2, .ref 28), (1, .ref 0), (0, .ref 100)] [] := AW.pick [2, 3, 4, 5, 6] rfl (AW.widen (by omega) (by omega) K)
  refine AW.blk (amw6 0) 0 1 (h' := hW th C T A L L2 O) (pc' := 525) (lv' := [(4, .int (nI i)), (3, .ref 52), (2, .ref 28), (1, .ref 0), (0, .ref 100)]) (st' := [.ref 0]) (L := []) rfl trivial ?_
  refine AW.blk (amw6 0) 1 4 (h' := hW th C T A L L2 O) (pc' := 530) (lv' := [(4, .int (nI i)), (3, .ref 52), (2, .ref 28), (1, .ref 0), (0, .ref 100)]) (st' := [.int (nI i + 1), .ref 100, .ref 0]) (L := []) rfl trivial ?_
  rw [show nI i + 1 = nI (i + 1) from nI_add i 1]
  refine AW.sld (amw6 0) 5 hS rfl (vp_in_nI (by omega) (by omega)) ?_
  rw [nI_clamp (show i + 1 < 2 ^ 31 by omega)]
  refine AW.blk (amw6 0) 6 4 (h' := hW th C T A L L2 O) (pc' := 536) (lv' := [(4, .int (nI i)), (3, .ref 52), (2, .ref 28), (1, .ref 0), (0, .ref 100)]) (st' := [.int (nI i + 2), .ref 100, .int (xs (i + 1)), .ref 0]) (L := []) rfl trivial ?_
  rw [show nI i + 2 = nI (i + 2) from nI_add i 2]
  refine AW.sld (amw6 0) 10 hS rfl (vp_in_nI (by omega) (by omega)) ?_
  rw [nI_clamp (show i + 2 < 2 ^ 31 by omega)]
  refine AW.blk (amw6 0) 11 1 (h' := hW th C T A L L2 O) (pc' := 538) (lv' := [(4, .int (nI i)), (3, .ref 52), (2, .ref 28), (1, .ref 0), (0, .ref 100)]) (st' := [.ref 52, .int (xs (i + 2)), .int (xs (i + 1)), .ref 0]) (L := []) rfl trivial ?_
  refine AW.lawW (amw6 0) 12 h1 hE wcL_sweeper rfl wgL_sweeper wsL_sweeper wlL_sweeper rfl rfl rfl rfl hR ⟨by decide, by decide, by show kc + 1 ≤ 619416; omega, by show ks + 6 ≤ 7237855; omega⟩ (st' := [.int kr]) rfl ?_
  refine AW.blk (amw6 0) 13 2 (h' := hM C' T' L' ++ (hX th C A L2).map (rE S2 []) ++ [aL 1 O']) (pc' := 544) (lv' := [(5, .int kr), (4, .int (nI i)), (3, .ref 52), (2, .ref 28), (1, .ref 0), (0, .ref 100)]) (st' := [.ref 28]) (L := []) rfl trivial ?_
  refine AW.blk (amw6 0) 15 4 (h' := hM C' T' L' ++ (hX th C A L2).map (rE S2 []) ++ [aL 1 O']) (pc' := 549) (lv' := [(5, .int kr), (4, .int (nI i)), (3, .ref 52), (2, .ref 28), (1, .ref 0), (0, .ref 100)]) (st' := [.int (nI i + 1), .ref 100, .ref 28]) (L := []) rfl trivial ?_
  rw [show nI i + 1 = nI (i + 1) from nI_add i 1]
  refine AW.sld (amw6 0) 19 hS rfl (vp_in_nI (by omega) (by omega)) ?_
  rw [nI_clamp (show i + 1 < 2 ^ 31 by omega)]
  refine AW.blk (amw6 0) 20 4 (h' := hM C' T' L' ++ (hX th C A L2).map (rE S2 []) ++ [aL 1 O']) (pc' := 555) (lv' := [(5, .int kr), (4, .int (nI i)), (3, .ref 52), (2, .ref 28), (1, .ref 0), (0, .ref 100)]) (st' := [.int (nI i + 2), .ref 100, .int (xs (i + 1)), .ref 28]) (L := []) rfl trivial ?_
  rw [show nI i + 2 = nI (i + 2) from nI_add i 2]
  refine AW.sld (amw6 0) 24 hS rfl (vp_in_nI (by omega) (by omega)) ?_
  rw [nI_clamp (show i + 2 < 2 ^ 31 by omega)]
  refine AW.lawX (amw6 0) 25 h2 (hM_len _ _ _) rfl ykX3_sweeper yiX3_sweeper yvX3_sweeper mlL_93 rfl rfl rfl rfl hR ⟨by decide, by decide, by show kc + 1 + 1 ≤ 619416; omega, by show ks + 6 + 8 ≤ 7237855; omega⟩ (fun _ => rfl) (st' := [.int br]) rfl ?_
  refine AW.blk (amw6 0) 26 2 (h' := hM C' T' L' ++ (hX kr C' A' L2').map (rE S2 []) ++ [aL 1 O']) (pc' := 562) (lv' := [(6, .int br), (5, .int kr), (4, .int (nI i)), (3, .ref 52), (2, .ref 28), (1, .ref 0), (0, .ref 100)]) (st' := [.ref 28]) (L := []) rfl trivial ?_
  refine AW.lawX (amw6 0) 28 (kX3_thrownX kr C' A' L2') (hM_len _ _ _) rfl ykX3_thrown yiX3_thrown yvX3_thrown mlL_70 rfl rfl rfl rfl hR ⟨by decide, by decide, by show kc + 1 + 1 + 0 ≤ 619416; omega, by show ks + 6 + 8 + 0 ≤ 7237855; omega⟩ (fun _ => rfl) (st' := [.int kr]) rfl ?_
  refine AW.blk (amw6 0) 29 1 (h' := hM C' T' L' ++ (hX kr C' A' L2').map (rE S2 []) ++ [aL 1 O']) (pc' := 567) (lv' := [(6, .int br), (5, .int kr), (4, .int (nI i)), (3, .ref 52), (2, .ref 28), (1, .ref 0), (0, .ref 100)]) (st' := [.int kr, .int kr]) (L := []) rfl trivial ?_
  refine AW.br (amw6 0) 30 (tgt := 572) (C := kr = kr) (C' := ¬ kr = kr) (st' := []) rfl rfl rfl (fun _ => ?_) (fun c => absurd rfl c)
  refine AW.blk (amw6 0) 33 1 (h' := hM C' T' L' ++ (hX kr C' A' L2').map (rE S2 []) ++ [aL 1 O']) (pc' := 574) (lv' := [(6, .int br), (5, .int kr), (4, .int (nI i)), (3, .ref 52), (2, .ref 28), (1, .ref 0), (0, .ref 100)]) (st' := [.int kr]) (L := []) rfl trivial ?_
  refine AW.br (amw6 0) 34 (tgt := 589) (C := ¬ kr = 0) (C' := kr = 0) (st' := []) rfl rfl rfl (fun _ => ?_) (fun c => ?_)
  · exact AW.blk (amw6 0) 44 1 (h' := hM C' T' L' ++ (hX kr C' A' L2').map (rE S2 []) ++ [aL 1 O']) (pc' := 1099) (lv' := [(6, .int br), (5, .int kr), (4, .int (nI i)), (3, .ref 52), (2, .ref 28), (1, .ref 0), (0, .ref 100)]) (st' := []) (L := []) rfl trivial fin
  · refine AW.blk (amw6 0) 35 2 (h' := hM C' T' L' ++ (hX kr C' A' L2').map (rE S2 []) ++ [aL 1 O']) (pc' := 579) (lv' := [(6, .int br), (5, .int kr), (4, .int (nI i)), (3, .ref 52), (2, .ref 28), (1, .ref 0), (0, .ref 100)]) (st' := [.int 0, .ref 52]) (L := []) rfl trivial ?_
    refine AW.lald (amw6 0) 37 rfl (get_52 (hM_len _ _ _) (hQ_len _ _ _ _)) vo_0 ?_
    refine AW.blk (amw6 0) 38 2 (h' := hM C' T' L' ++ (hX kr C' A' L2').map (rE S2 []) ++ [aL 1 O']) (pc' := 583) (lv' := [(6, .int br), (5, .int kr), (4, .int (nI i)), (3, .ref 52), (2, .ref 28), (1, .ref 0), (0, .ref 100)]) (st' := [.long br.toInt64, .long (O' (0 : Int32).toNatClampNeg)]) (L := []) rfl trivial ?_
    refine AW.lcmpE (amw6 0) 40 rfl (he c) ?_
    refine AW.br (amw6 0) 41 (tgt := 589) (C := (0 : Int32) = 0) (C' := ¬ (0 : Int32) = 0) (st' := []) rfl rfl rfl (fun _ => ?_) (fun c => absurd rfl c)
    exact AW.blk (amw6 0) 44 1 (h' := hM C' T' L' ++ (hX kr C' A' L2').map (rE S2 []) ++ [aL 1 O']) (pc' := 1099) (lv' := [(6, .int br), (5, .int kr), (4, .int (nI i)), (3, .ref 52), (2, .ref 28), (1, .ref 0), (0, .ref 100)]) (st' := []) (L := []) rfl trivial fin
set_option maxHeartbeats 4000000 in
theorem cs_crossing {G : aG} {N : Nat} {xs : Nat → Int32} (hR : aRm G = RW) (hS : aScr 100 N xs G) {hg : List (Nat × Nat × Nat × Nat)} (hE : aEx hg G) {th kr br : Int32} {C T A C' T' A' : CS} {L L2 L' L2' : Nat → Int32} {O O' : Nat → Int64} (i kc ks : Nat) (hk : kc + 127 ≤ 619416) (hs : ks + 907 ≤ 7237855) (hi : i + 4 ≤ N) (hN : N ≤ 2048)
    (h1 : AMetW yL_crossing cL_crossing 5 (some .int) hh_crossing { frames := 8, cells := 1, slots := 6, locals := 126 } [.ref 0, .int (xs (i + 1)), .int (xs (i + 2)), .ref 28] (hM C T L ++ [aL 1 O]) (some (.int kr)) (hM C' T' L' ++ [aL 1 O']))
    (h2 : AMet yX3_crossing cX3_crossing 3 (some .int) { frames := 2, cells := 1, slots := 6, locals := 42 } [.ref 0, .int (xs (i + 1)), .int (xs (i + 2))] (hX th C A L2) (some (.int br)) (hX kr C' A' L2')) (he : kr = 0 → O' (0 : Int32).toNatClampNeg = br.toInt64)
    (K : AW G MW (hW kr C' T' A' L' L2' O') (kc + 127) (ks + 907) 1099 [(4, .int (nI i)), (3, .ref 52), (2, .ref 28), (1, .ref 0), (0, .ref 100)] []) : AW G MW (hW th C T A L L2 O) kc ks 592 [(4, .int (nI i)), (3, .ref 52), (2, .ref 28), (1, .ref 0), (0, .ref 100)] [] := by
  have fin : AW G MW (hM C' T' L' ++ (hX kr C' A' L2').map (rE S2 []) ++ [aL 1 O']) (kc + 1 + 1 + 0) (ks + 6 + 6 + 0) 1099 [(6, .int br), (5, .int kr), (4, .int (nI i)), (3, .ref 52), (2, .ref 28), (1, .ref 0), (0, .ref 100)] [] := AW.pick [2, 3, 4, 5, 6] rfl (AW.widen (by omega) (by omega) K)
  refine AW.blk (amw7 0) 0 1 (h' := hW th C T A L L2 O) (pc' := 593) (lv' := [(4, .int (nI i)), (3, .ref 52), (2, .ref 28), (1, .ref 0), (0, .ref 100)]) (st' := [.ref 0]) (L := []) rfl trivial ?_
  refine AW.blk (amw7 0) 1 4 (h' := hW th C T A L L2 O) (pc' := 598) (lv' := [(4, .int (nI i)), (3, .ref 52), (2, .ref 28), (1, .ref 0), (0, .ref 100)]) (st' := [.int (nI i + 1), .ref 100, .ref 0]) (L := []) rfl trivial ?_
  rw [show nI i + 1 = nI (i + 1) from nI_add i 1]
  refine AW.sld (amw7 0) 5 hS rfl (vp_in_nI (by omega) (by omega)) ?_
  rw [nI_clamp (show i + 1 < 2 ^ 31 by omega)]
  refine AW.blk (amw7 0) 6 4 (h' := hW th C T A L L2 O) (pc' := 604) (lv' := [(4, .int (nI i)), (3, .ref 52), (2, .ref 28), (1, .ref 0), (0, .ref 100)]) (st' := [.int (nI i + 2), .ref 100, .int (xs (i + 1)), .ref 0]) (L := []) rfl trivial ?_
  rw [show nI i + 2 = nI (i + 2) from nI_add i 2]
  refine AW.sld (amw7 0) 10 hS rfl (vp_in_nI (by omega) (by omega)) ?_
  rw [nI_clamp (show i + 2 < 2 ^ 31 by omega)]
  refine AW.blk (amw7 0) 11 1 (h' := hW th C T A L L2 O) (pc' := 606) (lv' := [(4, .int (nI i)), (3, .ref 52), (2, .ref 28), (1, .ref 0), (0, .ref 100)]) (st' := [.ref 52, .int (xs (i + 2)), .int (xs (i + 1)), .ref 0]) (L := []) rfl trivial ?_
  refine AW.lawW (amw7 0) 12 h1 hE wcL_crossing rfl wgL_crossing wsL_crossing wlL_crossing rfl rfl rfl rfl hR ⟨by decide, by decide, by show kc + 1 ≤ 619416; omega, by show ks + 6 ≤ 7237855; omega⟩ (st' := [.int kr]) rfl ?_
  refine AW.blk (amw7 0) 13 2 (h' := hM C' T' L' ++ (hX th C A L2).map (rE S2 []) ++ [aL 1 O']) (pc' := 612) (lv' := [(5, .int kr), (4, .int (nI i)), (3, .ref 52), (2, .ref 28), (1, .ref 0), (0, .ref 100)]) (st' := [.ref 28]) (L := []) rfl trivial ?_
  refine AW.blk (amw7 0) 15 4 (h' := hM C' T' L' ++ (hX th C A L2).map (rE S2 []) ++ [aL 1 O']) (pc' := 617) (lv' := [(5, .int kr), (4, .int (nI i)), (3, .ref 52), (2, .ref 28), (1, .ref 0), (0, .ref 100)]) (st' := [.int (nI i + 1), .ref 100, .ref 28]) (L := []) rfl trivial ?_
  rw [show nI i + 1 = nI (i + 1) from nI_add i 1]
  refine AW.sld (amw7 0) 19 hS rfl (vp_in_nI (by omega) (by omega)) ?_
  rw [nI_clamp (show i + 1 < 2 ^ 31 by omega)]
  refine AW.blk (amw7 0) 20 4 (h' := hM C' T' L' ++ (hX th C A L2).map (rE S2 []) ++ [aL 1 O']) (pc' := 623) (lv' := [(5, .int kr), (4, .int (nI i)), (3, .ref 52), (2, .ref 28), (1, .ref 0), (0, .ref 100)]) (st' := [.int (nI i + 2), .ref 100, .int (xs (i + 1)), .ref 28]) (L := []) rfl trivial ?_
  rw [show nI i + 2 = nI (i + 2) from nI_add i 2]
  refine AW.sld (amw7 0) 24 hS rfl (vp_in_nI (by omega) (by omega)) ?_
  rw [nI_clamp (show i + 2 < 2 ^ 31 by omega)]
  refine AW.lawX (amw7 0) 25 h2 (hM_len _ _ _) rfl ykX3_crossing yiX3_crossing yvX3_crossing mlL_96 rfl rfl rfl rfl hR ⟨by decide, by decide, by show kc + 1 + 1 ≤ 619416; omega, by show ks + 6 + 6 ≤ 7237855; omega⟩ (fun _ => rfl) (st' := [.int br]) rfl ?_
  refine AW.blk (amw7 0) 26 2 (h' := hM C' T' L' ++ (hX kr C' A' L2').map (rE S2 []) ++ [aL 1 O']) (pc' := 630) (lv' := [(6, .int br), (5, .int kr), (4, .int (nI i)), (3, .ref 52), (2, .ref 28), (1, .ref 0), (0, .ref 100)]) (st' := [.ref 28]) (L := []) rfl trivial ?_
  refine AW.lawX (amw7 0) 28 (kX3_thrownX kr C' A' L2') (hM_len _ _ _) rfl ykX3_thrown yiX3_thrown yvX3_thrown mlL_70 rfl rfl rfl rfl hR ⟨by decide, by decide, by show kc + 1 + 1 + 0 ≤ 619416; omega, by show ks + 6 + 6 + 0 ≤ 7237855; omega⟩ (fun _ => rfl) (st' := [.int kr]) rfl ?_
  refine AW.blk (amw7 0) 29 1 (h' := hM C' T' L' ++ (hX kr C' A' L2').map (rE S2 []) ++ [aL 1 O']) (pc' := 635) (lv' := [(6, .int br), (5, .int kr), (4, .int (nI i)), (3, .ref 52), (2, .ref 28), (1, .ref 0), (0, .ref 100)]) (st' := [.int kr, .int kr]) (L := []) rfl trivial ?_
  refine AW.br (amw7 0) 30 (tgt := 640) (C := kr = kr) (C' := ¬ kr = kr) (st' := []) rfl rfl rfl (fun _ => ?_) (fun c => absurd rfl c)
  refine AW.blk (amw7 0) 33 1 (h' := hM C' T' L' ++ (hX kr C' A' L2').map (rE S2 []) ++ [aL 1 O']) (pc' := 642) (lv' := [(6, .int br), (5, .int kr), (4, .int (nI i)), (3, .ref 52), (2, .ref 28), (1, .ref 0), (0, .ref 100)]) (st' := [.int kr]) (L := []) rfl trivial ?_
  refine AW.br (amw7 0) 34 (tgt := 657) (C := ¬ kr = 0) (C' := kr = 0) (st' := []) rfl rfl rfl (fun _ => ?_) (fun c => ?_)
  · exact AW.blk (amw7 0) 44 1 (h' := hM C' T' L' ++ (hX kr C' A' L2').map (rE S2 []) ++ [aL 1 O']) (pc' := 1099) (lv' := [(6, .int br), (5, .int kr), (4, .int (nI i)), (3, .ref 52), (2, .ref 28), (1, .ref 0), (0, .ref 100)]) (st' := []) (L := []) rfl trivial fin
  · refine AW.blk (amw7 0) 35 2 (h' := hM C' T' L' ++ (hX kr C' A' L2').map (rE S2 []) ++ [aL 1 O']) (pc' := 647) (lv' := [(6, .int br), (5, .int kr), (4, .int (nI i)), (3, .ref 52), (2, .ref 28), (1, .ref 0), (0, .ref 100)]) (st' := [.int 0, .ref 52]) (L := []) rfl trivial ?_
    refine AW.lald (amw7 0) 37 rfl (get_52 (hM_len _ _ _) (hQ_len _ _ _ _)) vo_0 ?_
    refine AW.blk (amw7 0) 38 2 (h' := hM C' T' L' ++ (hX kr C' A' L2').map (rE S2 []) ++ [aL 1 O']) (pc' := 651) (lv' := [(6, .int br), (5, .int kr), (4, .int (nI i)), (3, .ref 52), (2, .ref 28), (1, .ref 0), (0, .ref 100)]) (st' := [.long br.toInt64, .long (O' (0 : Int32).toNatClampNeg)]) (L := []) rfl trivial ?_
    refine AW.lcmpE (amw7 0) 40 rfl (he c) ?_
    refine AW.br (amw7 0) 41 (tgt := 657) (C := (0 : Int32) = 0) (C' := ¬ (0 : Int32) = 0) (st' := []) rfl rfl rfl (fun _ => ?_) (fun c => absurd rfl c)
    exact AW.blk (amw7 0) 44 1 (h' := hM C' T' L' ++ (hX kr C' A' L2').map (rE S2 []) ++ [aL 1 O']) (pc' := 1099) (lv' := [(6, .int br), (5, .int kr), (4, .int (nI i)), (3, .ref 52), (2, .ref 28), (1, .ref 0), (0, .ref 100)]) (st' := []) (L := []) rfl trivial fin
set_option maxHeartbeats 4000000 in
theorem cs_count {G : aG} {N : Nat} {xs : Nat → Int32} (hR : aRm G = RW) (hS : aScr 100 N xs G) {hg : List (Nat × Nat × Nat × Nat)} (hE : aEx hg G) {th kr br : Int32} {C T A C' T' A' : CS} {L L2 L' L2' : Nat → Int32} {O O' : Nat → Int64} (i kc ks : Nat) (hk : kc + 127 ≤ 619416) (hs : ks + 907 ≤ 7237855) (hi : i + 4 ≤ N) (hN : N ≤ 2048)
    (h1 : AMetW yL_count cL_count 4 (some .int) hh_count { frames := 8, cells := 1, slots := 6, locals := 124 } [.ref 0, .int (xs (i + 1)), .ref 28] (hM C T L ++ [aL 1 O]) (some (.int kr)) (hM C' T' L' ++ [aL 1 O']))
    (h2 : AMet yX3_count cX3_count 2 (some .int) { frames := 3, cells := 1, slots := 8, locals := 72 } [.ref 0, .int (xs (i + 1))] (hX th C A L2) (some (.int br)) (hX kr C' A' L2')) (he : kr = 0 → O' (0 : Int32).toNatClampNeg = br.toInt64)
    (K : AW G MW (hW kr C' T' A' L' L2' O') (kc + 127) (ks + 907) 1099 [(4, .int (nI i)), (3, .ref 52), (2, .ref 28), (1, .ref 0), (0, .ref 100)] []) : AW G MW (hW th C T A L L2 O) kc ks 660 [(4, .int (nI i)), (3, .ref 52), (2, .ref 28), (1, .ref 0), (0, .ref 100)] [] := by
  have fin : AW G MW (hM C' T' L' ++ (hX kr C' A' L2').map (rE S2 []) ++ [aL 1 O']) (kc + 1 + 1 + 0) (ks + 6 + 8 + 0) 1099 [(6, .int br), (5, .int kr), (4, .int (nI i)), (3, .ref 52), (2, .ref 28), (1, .ref 0), (0, .ref 100)] [] := AW.pick [2, 3, 4, 5, 6] rfl (AW.widen (by omega) (by omega) K)
  refine AW.blk (amw8 0) 0 1 (h' := hW th C T A L L2 O) (pc' := 661) (lv' := [(4, .int (nI i)), (3, .ref 52), (2, .ref 28), (1, .ref 0), (0, .ref 100)]) (st' := [.ref 0]) (L := []) rfl trivial ?_
  refine AW.blk (amw8 0) 1 4 (h' := hW th C T A L L2 O) (pc' := 666) (lv' := [(4, .int (nI i)), (3, .ref 52), (2, .ref 28), (1, .ref 0), (0, .ref 100)]) (st' := [.int (nI i + 1), .ref 100, .ref 0]) (L := []) rfl trivial ?_
  rw [show nI i + 1 = nI (i + 1) from nI_add i 1]
  refine AW.sld (amw8 0) 5 hS rfl (vp_in_nI (by omega) (by omega)) ?_
  rw [nI_clamp (show i + 1 < 2 ^ 31 by omega)]
  refine AW.blk (amw8 0) 6 1 (h' := hW th C T A L L2 O) (pc' := 668) (lv' := [(4, .int (nI i)), (3, .ref 52), (2, .ref 28), (1, .ref 0), (0, .ref 100)]) (st' := [.ref 52, .int (xs (i + 1)), .ref 0]) (L := []) rfl trivial ?_
  refine AW.lawW (amw8 0) 7 h1 hE wcL_count rfl wgL_count wsL_count wlL_count rfl rfl rfl rfl hR ⟨by decide, by decide, by show kc + 1 ≤ 619416; omega, by show ks + 6 ≤ 7237855; omega⟩ (st' := [.int kr]) rfl ?_
  refine AW.blk (amw8 0) 8 2 (h' := hM C' T' L' ++ (hX th C A L2).map (rE S2 []) ++ [aL 1 O']) (pc' := 674) (lv' := [(5, .int kr), (4, .int (nI i)), (3, .ref 52), (2, .ref 28), (1, .ref 0), (0, .ref 100)]) (st' := [.ref 28]) (L := []) rfl trivial ?_
  refine AW.blk (amw8 0) 10 4 (h' := hM C' T' L' ++ (hX th C A L2).map (rE S2 []) ++ [aL 1 O']) (pc' := 679) (lv' := [(5, .int kr), (4, .int (nI i)), (3, .ref 52), (2, .ref 28), (1, .ref 0), (0, .ref 100)]) (st' := [.int (nI i + 1), .ref 100, .ref 28]) (L := []) rfl trivial ?_
  rw [show nI i + 1 = nI (i + 1) from nI_add i 1]
  refine AW.sld (amw8 0) 14 hS rfl (vp_in_nI (by omega) (by omega)) ?_
  rw [nI_clamp (show i + 1 < 2 ^ 31 by omega)]
  refine AW.lawX (amw8 0) 15 h2 (hM_len _ _ _) rfl ykX3_count yiX3_count yvX3_count mlL_99 rfl rfl rfl rfl hR ⟨by decide, by decide, by show kc + 1 + 1 ≤ 619416; omega, by show ks + 6 + 8 ≤ 7237855; omega⟩ (fun _ => rfl) (st' := [.int br]) rfl ?_
  refine AW.blk (amw8 0) 16 2 (h' := hM C' T' L' ++ (hX kr C' A' L2').map (rE S2 []) ++ [aL 1 O']) (pc' := 686) (lv' := [(6, .int br), (5, .int kr), (4, .int (nI i)), (3, .ref 52), (2, .ref 28), (1, .ref 0), (0, .ref 100)]) (st' := [.ref 28]) (L := []) rfl trivial ?_
  refine AW.lawX (amw8 0) 18 (kX3_thrownX kr C' A' L2') (hM_len _ _ _) rfl ykX3_thrown yiX3_thrown yvX3_thrown mlL_70 rfl rfl rfl rfl hR ⟨by decide, by decide, by show kc + 1 + 1 + 0 ≤ 619416; omega, by show ks + 6 + 8 + 0 ≤ 7237855; omega⟩ (fun _ => rfl) (st' := [.int kr]) rfl ?_
  refine AW.blk (amw8 0) 19 1 (h' := hM C' T' L' ++ (hX kr C' A' L2').map (rE S2 []) ++ [aL 1 O']) (pc' := 691) (lv' := [(6, .int br), (5, .int kr), (4, .int (nI i)), (3, .ref 52), (2, .ref 28), (1, .ref 0), (0, .ref 100)]) (st' := [.int kr, .int kr]) (L := []) rfl trivial ?_
  refine AW.br (amw8 0) 20 (tgt := 696) (C := kr = kr) (C' := ¬ kr = kr) (st' := []) rfl rfl rfl (fun _ => ?_) (fun c => absurd rfl c)
  refine AW.blk (amw8 0) 23 1 (h' := hM C' T' L' ++ (hX kr C' A' L2').map (rE S2 []) ++ [aL 1 O']) (pc' := 698) (lv' := [(6, .int br), (5, .int kr), (4, .int (nI i)), (3, .ref 52), (2, .ref 28), (1, .ref 0), (0, .ref 100)]) (st' := [.int kr]) (L := []) rfl trivial ?_
  refine AW.br (amw8 0) 24 (tgt := 713) (C := ¬ kr = 0) (C' := kr = 0) (st' := []) rfl rfl rfl (fun _ => ?_) (fun c => ?_)
  · exact AW.blk (amw8 0) 34 1 (h' := hM C' T' L' ++ (hX kr C' A' L2').map (rE S2 []) ++ [aL 1 O']) (pc' := 1099) (lv' := [(6, .int br), (5, .int kr), (4, .int (nI i)), (3, .ref 52), (2, .ref 28), (1, .ref 0), (0, .ref 100)]) (st' := []) (L := []) rfl trivial fin
  · refine AW.blk (amw8 0) 25 2 (h' := hM C' T' L' ++ (hX kr C' A' L2').map (rE S2 []) ++ [aL 1 O']) (pc' := 703) (lv' := [(6, .int br), (5, .int kr), (4, .int (nI i)), (3, .ref 52), (2, .ref 28), (1, .ref 0), (0, .ref 100)]) (st' := [.int 0, .ref 52]) (L := []) rfl trivial ?_
    refine AW.lald (amw8 0) 27 rfl (get_52 (hM_len _ _ _) (hQ_len _ _ _ _)) vo_0 ?_
    refine AW.blk (amw8 0) 28 2 (h' := hM C' T' L' ++ (hX kr C' A' L2').map (rE S2 []) ++ [aL 1 O']) (pc' := 707) (lv' := [(6, .int br), (5, .int kr), (4, .int (nI i)), (3, .ref 52), (2, .ref 28), (1, .ref 0), (0, .ref 100)]) (st' := [.long br.toInt64, .long (O' (0 : Int32).toNatClampNeg)]) (L := []) rfl trivial ?_
    refine AW.lcmpE (amw8 0) 30 rfl (he c) ?_
    refine AW.br (amw8 0) 31 (tgt := 713) (C := (0 : Int32) = 0) (C' := ¬ (0 : Int32) = 0) (st' := []) rfl rfl rfl (fun _ => ?_) (fun c => absurd rfl c)
    exact AW.blk (amw8 0) 34 1 (h' := hM C' T' L' ++ (hX kr C' A' L2').map (rE S2 []) ++ [aL 1 O']) (pc' := 1099) (lv' := [(6, .int br), (5, .int kr), (4, .int (nI i)), (3, .ref 52), (2, .ref 28), (1, .ref 0), (0, .ref 100)]) (st' := []) (L := []) rfl trivial fin
set_option maxHeartbeats 4000000 in
theorem cs_pass {G : aG} {N : Nat} {xs : Nat → Int32} (hR : aRm G = RW) (hS : aScr 100 N xs G) {hg : List (Nat × Nat × Nat × Nat)} (hE : aEx hg G) {th kr br : Int32} {C T A C' T' A' : CS} {L L2 L' L2' : Nat → Int32} {O O' : Nat → Int64} (i kc ks : Nat) (hk : kc + 127 ≤ 619416) (hs : ks + 907 ≤ 7237855) (hi : i + 4 ≤ N) (hN : N ≤ 2048)
    (h1 : AMetW yL_pass cL_pass 4 (some .int) hh_pass { frames := 8, cells := 1, slots := 6, locals := 137 } [.ref 0, .int (xs (i + 1)), .ref 28] (hM C T L ++ [aL 1 O]) (some (.int kr)) (hM C' T' L' ++ [aL 1 O']))
    (h2 : AMet yX3_pass cX3_pass 2 (some .int) { frames := 5, cells := 0, slots := 0, locals := 114 } [.ref 0, .int (xs (i + 1))] (hX th C A L2) (some (.int br)) (hX kr C' A' L2')) (he : kr = 0 → O' (0 : Int32).toNatClampNeg = br.toInt64)
    (K : AW G MW (hW kr C' T' A' L' L2' O') (kc + 127) (ks + 907) 1099 [(4, .int (nI i)), (3, .ref 52), (2, .ref 28), (1, .ref 0), (0, .ref 100)] []) : AW G MW (hW th C T A L L2 O) kc ks 716 [(4, .int (nI i)), (3, .ref 52), (2, .ref 28), (1, .ref 0), (0, .ref 100)] [] := by
  have fin : AW G MW (hM C' T' L' ++ (hX kr C' A' L2').map (rE S2 []) ++ [aL 1 O']) (kc + 1 + 0 + 0) (ks + 6 + 0 + 0) 1099 [(6, .int br), (5, .int kr), (4, .int (nI i)), (3, .ref 52), (2, .ref 28), (1, .ref 0), (0, .ref 100)] [] := AW.pick [2, 3, 4, 5, 6] rfl (AW.widen (by omega) (by omega) K)
  refine AW.blk (amw9 0) 0 1 (h' := hW th C T A L L2 O) (pc' := 717) (lv' := [(4, .int (nI i)), (3, .ref 52), (2, .ref 28), (1, .ref 0), (0, .ref 100)]) (st' := [.ref 0]) (L := []) rfl trivial ?_
  refine AW.blk (amw9 0) 1 4 (h' := hW th C T A L L2 O) (pc' := 722) (lv' := [(4, .int (nI i)), (3, .ref 52), (2, .ref 28), (1, .ref 0), (0, .ref 100)]) (st' := [.int (nI i + 1), .ref 100, .ref 0]) (L := []) rfl trivial ?_
  rw [show nI i + 1 = nI (i + 1) from nI_add i 1]
  refine AW.sld (amw9 0) 5 hS rfl (vp_in_nI (by omega) (by omega)) ?_
  rw [nI_clamp (show i + 1 < 2 ^ 31 by omega)]
  refine AW.blk (amw9 0) 6 1 (h' := hW th C T A L L2 O) (pc' := 724) (lv' := [(4, .int (nI i)), (3, .ref 52), (2, .ref 28), (1, .ref 0), (0, .ref 100)]) (st' := [.ref 52, .int (xs (i + 1)), .ref 0]) (L := []) rfl trivial ?_
  refine AW.lawW (amw9 0) 7 h1 hE wcL_pass rfl wgL_pass wsL_pass wlL_pass rfl rfl rfl rfl hR ⟨by decide, by decide, by show kc + 1 ≤ 619416; omega, by show ks + 6 ≤ 7237855; omega⟩ (st' := [.int kr]) rfl ?_
  refine AW.blk (amw9 0) 8 2 (h' := hM C' T' L' ++ (hX th C A L2).map (rE S2 []) ++ [aL 1 O']) (pc' := 730) (lv' := [(5, .int kr), (4, .int (nI i)), (3, .ref 52), (2, .ref 28), (1, .ref 0), (0, .ref 100)]) (st' := [.ref 28]) (L := []) rfl trivial ?_
  refine AW.blk (amw9 0) 10 4 (h' := hM C' T' L' ++ (hX th C A L2).map (rE S2 []) ++ [aL 1 O']) (pc' := 735) (lv' := [(5, .int kr), (4, .int (nI i)), (3, .ref 52), (2, .ref 28), (1, .ref 0), (0, .ref 100)]) (st' := [.int (nI i + 1), .ref 100, .ref 28]) (L := []) rfl trivial ?_
  rw [show nI i + 1 = nI (i + 1) from nI_add i 1]
  refine AW.sld (amw9 0) 14 hS rfl (vp_in_nI (by omega) (by omega)) ?_
  rw [nI_clamp (show i + 1 < 2 ^ 31 by omega)]
  refine AW.lawX (amw9 0) 15 h2 (hM_len _ _ _) rfl ykX3_pass yiX3_pass yvX3_pass mlL_102 rfl rfl rfl rfl hR ⟨by decide, by decide, by show kc + 1 + 0 ≤ 619416; omega, by show ks + 6 + 0 ≤ 7237855; omega⟩ (fun _ => rfl) (st' := [.int br]) rfl ?_
  refine AW.blk (amw9 0) 16 2 (h' := hM C' T' L' ++ (hX kr C' A' L2').map (rE S2 []) ++ [aL 1 O']) (pc' := 742) (lv' := [(6, .int br), (5, .int kr), (4, .int (nI i)), (3, .ref 52), (2, .ref 28), (1, .ref 0), (0, .ref 100)]) (st' := [.ref 28]) (L := []) rfl trivial ?_
  refine AW.lawX (amw9 0) 18 (kX3_thrownX kr C' A' L2') (hM_len _ _ _) rfl ykX3_thrown yiX3_thrown yvX3_thrown mlL_70 rfl rfl rfl rfl hR ⟨by decide, by decide, by show kc + 1 + 0 + 0 ≤ 619416; omega, by show ks + 6 + 0 + 0 ≤ 7237855; omega⟩ (fun _ => rfl) (st' := [.int kr]) rfl ?_
  refine AW.blk (amw9 0) 19 1 (h' := hM C' T' L' ++ (hX kr C' A' L2').map (rE S2 []) ++ [aL 1 O']) (pc' := 747) (lv' := [(6, .int br), (5, .int kr), (4, .int (nI i)), (3, .ref 52), (2, .ref 28), (1, .ref 0), (0, .ref 100)]) (st' := [.int kr, .int kr]) (L := []) rfl trivial ?_
  refine AW.br (amw9 0) 20 (tgt := 752) (C := kr = kr) (C' := ¬ kr = kr) (st' := []) rfl rfl rfl (fun _ => ?_) (fun c => absurd rfl c)
  refine AW.blk (amw9 0) 23 1 (h' := hM C' T' L' ++ (hX kr C' A' L2').map (rE S2 []) ++ [aL 1 O']) (pc' := 754) (lv' := [(6, .int br), (5, .int kr), (4, .int (nI i)), (3, .ref 52), (2, .ref 28), (1, .ref 0), (0, .ref 100)]) (st' := [.int kr]) (L := []) rfl trivial ?_
  refine AW.br (amw9 0) 24 (tgt := 769) (C := ¬ kr = 0) (C' := kr = 0) (st' := []) rfl rfl rfl (fun _ => ?_) (fun c => ?_)
  · exact AW.blk (amw9 0) 34 1 (h' := hM C' T' L' ++ (hX kr C' A' L2').map (rE S2 []) ++ [aL 1 O']) (pc' := 1099) (lv' := [(6, .int br), (5, .int kr), (4, .int (nI i)), (3, .ref 52), (2, .ref 28), (1, .ref 0), (0, .ref 100)]) (st' := []) (L := []) rfl trivial fin
  · refine AW.blk (amw9 0) 25 2 (h' := hM C' T' L' ++ (hX kr C' A' L2').map (rE S2 []) ++ [aL 1 O']) (pc' := 759) (lv' := [(6, .int br), (5, .int kr), (4, .int (nI i)), (3, .ref 52), (2, .ref 28), (1, .ref 0), (0, .ref 100)]) (st' := [.int 0, .ref 52]) (L := []) rfl trivial ?_
    refine AW.lald (amw9 0) 27 rfl (get_52 (hM_len _ _ _) (hQ_len _ _ _ _)) vo_0 ?_
    refine AW.blk (amw9 0) 28 2 (h' := hM C' T' L' ++ (hX kr C' A' L2').map (rE S2 []) ++ [aL 1 O']) (pc' := 763) (lv' := [(6, .int br), (5, .int kr), (4, .int (nI i)), (3, .ref 52), (2, .ref 28), (1, .ref 0), (0, .ref 100)]) (st' := [.long br.toInt64, .long (O' (0 : Int32).toNatClampNeg)]) (L := []) rfl trivial ?_
    refine AW.lcmpE (amw9 0) 30 rfl (he c) ?_
    refine AW.br (amw9 0) 31 (tgt := 769) (C := (0 : Int32) = 0) (C' := ¬ (0 : Int32) = 0) (st' := []) rfl rfl rfl (fun _ => ?_) (fun c => absurd rfl c)
    exact AW.blk (amw9 0) 34 1 (h' := hM C' T' L' ++ (hX kr C' A' L2').map (rE S2 []) ++ [aL 1 O']) (pc' := 1099) (lv' := [(6, .int br), (5, .int kr), (4, .int (nI i)), (3, .ref 52), (2, .ref 28), (1, .ref 0), (0, .ref 100)]) (st' := []) (L := []) rfl trivial fin
set_option maxHeartbeats 4000000 in
theorem cs_way {G : aG} {N : Nat} {xs : Nat → Int32} (hR : aRm G = RW) (hS : aScr 100 N xs G) {hg : List (Nat × Nat × Nat × Nat)} (hE : aEx hg G) {th kr br : Int32} {C T A C' T' A' : CS} {L L2 L' L2' : Nat → Int32} {O O' : Nat → Int64} (i kc ks : Nat) (hk : kc + 127 ≤ 619416) (hs : ks + 907 ≤ 7237855) (hi : i + 4 ≤ N) (hN : N ≤ 2048)
    (h1 : AMetW yL_way cL_way 5 (some .int) hh_way { frames := 8, cells := 1, slots := 6, locals := 128 } [.ref 0, .int (xs (i + 1)), .int (xs (i + 2)), .ref 28] (hM C T L ++ [aL 1 O]) (some (.int kr)) (hM C' T' L' ++ [aL 1 O']))
    (h2 : AMet yX3_way cX3_way 5 (some .int) { frames := 2, cells := 0, slots := 0, locals := 63 } [.ref 0, .int (xs (i + 1)), .int (xs (i + 2))] (hX th C A L2) (some (.int br)) (hX kr C' A' L2')) (he : kr = 0 → O' (0 : Int32).toNatClampNeg = br.toInt64)
    (K : AW G MW (hW kr C' T' A' L' L2' O') (kc + 127) (ks + 907) 1099 [(4, .int (nI i)), (3, .ref 52), (2, .ref 28), (1, .ref 0), (0, .ref 100)] []) : AW G MW (hW th C T A L L2 O) kc ks 772 [(4, .int (nI i)), (3, .ref 52), (2, .ref 28), (1, .ref 0), (0, .ref 100)] [] := by
  have fin : AW G MW (hM C' T' L' ++ (hX kr C' A' L2').map (rE S2 []) ++ [aL 1 O']) (kc + 1 + 0 + 0) (ks + 6 + 0 + 0) 1099 [(6, .int br), (5, .int kr), (4, .int (nI i)), (3, .ref 52), (2, .ref 28), (1, .ref 0), (0, .ref 100)] [] := AW.pick [2, 3, 4, 5, 6] rfl (AW.widen (by omega) (by omega) K)
  refine AW.blk (amw10 0) 0 1 (h' := hW th C T A L L2 O) (pc' := 773) (lv' := [(4, .int (nI i)), (3, .ref 52), (2, .ref 28), (1, .ref 0), (0, .ref 100)]) (st' := [.ref 0]) (L := []) rfl trivial ?_
  refine AW.blk (amw10 0) 1 4 (h' := hW th C T A L L2 O) (pc' := 778) (lv' := [(4, .int (nI i)), (3, .ref 52), (2, .ref 28), (1, .ref 0), (0, .ref 100)]) (st' := [.int (nI i + 1), .ref 100, .ref 0]) (L := []) rfl trivial ?_
  rw [show nI i + 1 = nI (i + 1) from nI_add i 1]
  refine AW.sld (amw10 0) 5 hS rfl (vp_in_nI (by omega) (by omega)) ?_
  rw [nI_clamp (show i + 1 < 2 ^ 31 by omega)]
  refine AW.blk (amw10 0) 6 4 (h' := hW th C T A L L2 O) (pc' := 784) (lv' := [(4, .int (nI i)), (3, .ref 52), (2, .ref 28), (1, .ref 0), (0, .ref 100)]) (st' := [.int (nI i + 2), .ref 100, .int (xs (i + 1)), .ref 0]) (L := []) rfl trivial ?_
  rw [show nI i + 2 = nI (i + 2) from nI_add i 2]
  refine AW.sld (amw10 0) 10 hS rfl (vp_in_nI (by omega) (by omega)) ?_
  rw [nI_clamp (show i + 2 < 2 ^ 31 by omega)]
  refine AW.blk (amw10 0) 11 1 (h' := hW th C T A L L2 O) (pc' := 786) (lv' := [(4, .int (nI i)), (3, .ref 52), (2, .ref 28), (1, .ref 0), (0, .ref 100)]) (st' := [.ref 52, .int (xs (i + 2)), .int (xs (i + 1)), .ref 0]) (L := []) rfl trivial ?_
  refine AW.lawW (amw10 0) 12 h1 hE wcL_way rfl wgL_way wsL_way wlL_way rfl rfl rfl rfl hR ⟨by decide, by decide, by show kc + 1 ≤ 619416; omega, by show ks + 6 ≤ 7237855; omega⟩ (st' := [.int kr]) rfl ?_
  refine AW.blk (amw10 0) 13 2 (h' := hM C' T' L' ++ (hX th C A L2).map (rE S2 []) ++ [aL 1 O']) (pc' := 792) (lv' := [(5, .int kr), (4, .int (nI i)), (3, .ref 52), (2, .ref 28), (1, .ref 0), (0, .ref 100)]) (st' := [.ref 28]) (L := []) rfl trivial ?_
  refine AW.blk (amw10 0) 15 4 (h' := hM C' T' L' ++ (hX th C A L2).map (rE S2 []) ++ [aL 1 O']) (pc' := 797) (lv' := [(5, .int kr), (4, .int (nI i)), (3, .ref 52), (2, .ref 28), (1, .ref 0), (0, .ref 100)]) (st' := [.int (nI i + 1), .ref 100, .ref 28]) (L := []) rfl trivial ?_
  rw [show nI i + 1 = nI (i + 1) from nI_add i 1]
  refine AW.sld (amw10 0) 19 hS rfl (vp_in_nI (by omega) (by omega)) ?_
  rw [nI_clamp (show i + 1 < 2 ^ 31 by omega)]
  refine AW.blk (amw10 0) 20 4 (h' := hM C' T' L' ++ (hX th C A L2).map (rE S2 []) ++ [aL 1 O']) (pc' := 803) (lv' := [(5, .int kr), (4, .int (nI i)), (3, .ref 52), (2, .ref 28), (1, .ref 0), (0, .ref 100)]) (st' := [.int (nI i + 2), .ref 100, .int (xs (i + 1)), .ref 28]) (L := []) rfl trivial ?_
  rw [show nI i + 2 = nI (i + 2) from nI_add i 2]
  refine AW.sld (amw10 0) 24 hS rfl (vp_in_nI (by omega) (by omega)) ?_
  rw [nI_clamp (show i + 2 < 2 ^ 31 by omega)]
  refine AW.lawX (amw10 0) 25 h2 (hM_len _ _ _) rfl ykX3_way yiX3_way yvX3_way mlL_105 rfl rfl rfl rfl hR ⟨by decide, by decide, by show kc + 1 + 0 ≤ 619416; omega, by show ks + 6 + 0 ≤ 7237855; omega⟩ (fun _ => rfl) (st' := [.int br]) rfl ?_
  refine AW.blk (amw10 0) 26 2 (h' := hM C' T' L' ++ (hX kr C' A' L2').map (rE S2 []) ++ [aL 1 O']) (pc' := 810) (lv' := [(6, .int br), (5, .int kr), (4, .int (nI i)), (3, .ref 52), (2, .ref 28), (1, .ref 0), (0, .ref 100)]) (st' := [.ref 28]) (L := []) rfl trivial ?_
  refine AW.lawX (amw10 0) 28 (kX3_thrownX kr C' A' L2') (hM_len _ _ _) rfl ykX3_thrown yiX3_thrown yvX3_thrown mlL_70 rfl rfl rfl rfl hR ⟨by decide, by decide, by show kc + 1 + 0 + 0 ≤ 619416; omega, by show ks + 6 + 0 + 0 ≤ 7237855; omega⟩ (fun _ => rfl) (st' := [.int kr]) rfl ?_
  refine AW.blk (amw10 0) 29 1 (h' := hM C' T' L' ++ (hX kr C' A' L2').map (rE S2 []) ++ [aL 1 O']) (pc' := 815) (lv' := [(6, .int br), (5, .int kr), (4, .int (nI i)), (3, .ref 52), (2, .ref 28), (1, .ref 0), (0, .ref 100)]) (st' := [.int kr, .int kr]) (L := []) rfl trivial ?_
  refine AW.br (amw10 0) 30 (tgt := 820) (C := kr = kr) (C' := ¬ kr = kr) (st' := []) rfl rfl rfl (fun _ => ?_) (fun c => absurd rfl c)
  refine AW.blk (amw10 0) 33 1 (h' := hM C' T' L' ++ (hX kr C' A' L2').map (rE S2 []) ++ [aL 1 O']) (pc' := 822) (lv' := [(6, .int br), (5, .int kr), (4, .int (nI i)), (3, .ref 52), (2, .ref 28), (1, .ref 0), (0, .ref 100)]) (st' := [.int kr]) (L := []) rfl trivial ?_
  refine AW.br (amw10 0) 34 (tgt := 837) (C := ¬ kr = 0) (C' := kr = 0) (st' := []) rfl rfl rfl (fun _ => ?_) (fun c => ?_)
  · exact AW.blk (amw10 0) 44 1 (h' := hM C' T' L' ++ (hX kr C' A' L2').map (rE S2 []) ++ [aL 1 O']) (pc' := 1099) (lv' := [(6, .int br), (5, .int kr), (4, .int (nI i)), (3, .ref 52), (2, .ref 28), (1, .ref 0), (0, .ref 100)]) (st' := []) (L := []) rfl trivial fin
  · refine AW.blk (amw10 0) 35 2 (h' := hM C' T' L' ++ (hX kr C' A' L2').map (rE S2 []) ++ [aL 1 O']) (pc' := 827) (lv' := [(6, .int br), (5, .int kr), (4, .int (nI i)), (3, .ref 52), (2, .ref 28), (1, .ref 0), (0, .ref 100)]) (st' := [.int 0, .ref 52]) (L := []) rfl trivial ?_
    refine AW.lald (amw10 0) 37 rfl (get_52 (hM_len _ _ _) (hQ_len _ _ _ _)) vo_0 ?_
    refine AW.blk (amw10 0) 38 2 (h' := hM C' T' L' ++ (hX kr C' A' L2').map (rE S2 []) ++ [aL 1 O']) (pc' := 831) (lv' := [(6, .int br), (5, .int kr), (4, .int (nI i)), (3, .ref 52), (2, .ref 28), (1, .ref 0), (0, .ref 100)]) (st' := [.long br.toInt64, .long (O' (0 : Int32).toNatClampNeg)]) (L := []) rfl trivial ?_
    refine AW.lcmpE (amw10 0) 40 rfl (he c) ?_
    refine AW.br (amw10 0) 41 (tgt := 837) (C := (0 : Int32) = 0) (C' := ¬ (0 : Int32) = 0) (st' := []) rfl rfl rfl (fun _ => ?_) (fun c => absurd rfl c)
    exact AW.blk (amw10 0) 44 1 (h' := hM C' T' L' ++ (hX kr C' A' L2').map (rE S2 []) ++ [aL 1 O']) (pc' := 1099) (lv' := [(6, .int br), (5, .int kr), (4, .int (nI i)), (3, .ref 52), (2, .ref 28), (1, .ref 0), (0, .ref 100)]) (st' := []) (L := []) rfl trivial fin
set_option maxHeartbeats 4000000 in
theorem cs_earns {G : aG} {N : Nat} {xs : Nat → Int32} (hR : aRm G = RW) (hS : aScr 100 N xs G) {hg : List (Nat × Nat × Nat × Nat)} (hE : aEx hg G) {th kr br : Int32} {C T A C' T' A' : CS} {L L2 L' L2' : Nat → Int32} {O O' : Nat → Int64} (i kc ks : Nat) (hk : kc + 127 ≤ 619416) (hs : ks + 907 ≤ 7237855) (hi : i + 4 ≤ N) (hN : N ≤ 2048)
    (h1 : AMetW yL_earns cL_earns 5 (some .int) hh_earns { frames := 8, cells := 1, slots := 6, locals := 162 } [.ref 0, .int (xs (i + 1)), .int (xs (i + 2)), .ref 28] (hM C T L ++ [aL 1 O]) (some (.int kr)) (hM C' T' L' ++ [aL 1 O']))
    (h2 : AMet yX3_earns cX3_earns 3 (some .int) { frames := 6, cells := 0, slots := 0, locals := 136 } [.ref 0, .int (xs (i + 1)), .int (xs (i + 2))] (hX th C A L2) (some (.int br)) (hX kr C' A' L2')) (he : kr = 0 → O' (0 : Int32).toNatClampNeg = br.toInt64)
    (K : AW G MW (hW kr C' T' A' L' L2' O') (kc + 127) (ks + 907) 1099 [(4, .int (nI i)), (3, .ref 52), (2, .ref 28), (1, .ref 0), (0, .ref 100)] []) : AW G MW (hW th C T A L L2 O) kc ks 840 [(4, .int (nI i)), (3, .ref 52), (2, .ref 28), (1, .ref 0), (0, .ref 100)] [] := by
  have fin : AW G MW (hM C' T' L' ++ (hX kr C' A' L2').map (rE S2 []) ++ [aL 1 O']) (kc + 1 + 0 + 0) (ks + 6 + 0 + 0) 1099 [(6, .int br), (5, .int kr), (4, .int (nI i)), (3, .ref 52), (2, .ref 28), (1, .ref 0), (0, .ref 100)] [] := AW.pick [2, 3, 4, 5, 6] rfl (AW.widen (by omega) (by omega) K)
  refine AW.blk (amw11 0) 0 1 (h' := hW th C T A L L2 O) (pc' := 841) (lv' := [(4, .int (nI i)), (3, .ref 52), (2, .ref 28), (1, .ref 0), (0, .ref 100)]) (st' := [.ref 0]) (L := []) rfl trivial ?_
  refine AW.blk (amw11 0) 1 4 (h' := hW th C T A L L2 O) (pc' := 846) (lv' := [(4, .int (nI i)), (3, .ref 52), (2, .ref 28), (1, .ref 0), (0, .ref 100)]) (st' := [.int (nI i + 1), .ref 100, .ref 0]) (L := []) rfl trivial ?_
  rw [show nI i + 1 = nI (i + 1) from nI_add i 1]
  refine AW.sld (amw11 0) 5 hS rfl (vp_in_nI (by omega) (by omega)) ?_
  rw [nI_clamp (show i + 1 < 2 ^ 31 by omega)]
  refine AW.blk (amw11 0) 6 4 (h' := hW th C T A L L2 O) (pc' := 852) (lv' := [(4, .int (nI i)), (3, .ref 52), (2, .ref 28), (1, .ref 0), (0, .ref 100)]) (st' := [.int (nI i + 2), .ref 100, .int (xs (i + 1)), .ref 0]) (L := []) rfl trivial ?_
  rw [show nI i + 2 = nI (i + 2) from nI_add i 2]
  refine AW.sld (amw11 0) 10 hS rfl (vp_in_nI (by omega) (by omega)) ?_
  rw [nI_clamp (show i + 2 < 2 ^ 31 by omega)]
  refine AW.blk (amw11 0) 11 1 (h' := hW th C T A L L2 O) (pc' := 854) (lv' := [(4, .int (nI i)), (3, .ref 52), (2, .ref 28), (1, .ref 0), (0, .ref 100)]) (st' := [.ref 52, .int (xs (i + 2)), .int (xs (i + 1)), .ref 0]) (L := []) rfl trivial ?_
  refine AW.lawW (amw11 0) 12 h1 hE wcL_earns rfl wgL_earns wsL_earns wlL_earns rfl rfl rfl rfl hR ⟨by decide, by decide, by show kc + 1 ≤ 619416; omega, by show ks + 6 ≤ 7237855; omega⟩ (st' := [.int kr]) rfl ?_
  refine AW.blk (amw11 0) 13 2 (h' := hM C' T' L' ++ (hX th C A L2).map (rE S2 []) ++ [aL 1 O']) (pc' := 860) (lv' := [(5, .int kr), (4, .int (nI i)), (3, .ref 52), (2, .ref 28), (1, .ref 0), (0, .ref 100)]) (st' := [.ref 28]) (L := []) rfl trivial ?_
  refine AW.blk (amw11 0) 15 4 (h' := hM C' T' L' ++ (hX th C A L2).map (rE S2 []) ++ [aL 1 O']) (pc' := 865) (lv' := [(5, .int kr), (4, .int (nI i)), (3, .ref 52), (2, .ref 28), (1, .ref 0), (0, .ref 100)]) (st' := [.int (nI i + 1), .ref 100, .ref 28]) (L := []) rfl trivial ?_
  rw [show nI i + 1 = nI (i + 1) from nI_add i 1]
  refine AW.sld (amw11 0) 19 hS rfl (vp_in_nI (by omega) (by omega)) ?_
  rw [nI_clamp (show i + 1 < 2 ^ 31 by omega)]
  refine AW.blk (amw11 0) 20 4 (h' := hM C' T' L' ++ (hX th C A L2).map (rE S2 []) ++ [aL 1 O']) (pc' := 871) (lv' := [(5, .int kr), (4, .int (nI i)), (3, .ref 52), (2, .ref 28), (1, .ref 0), (0, .ref 100)]) (st' := [.int (nI i + 2), .ref 100, .int (xs (i + 1)), .ref 28]) (L := []) rfl trivial ?_
  rw [show nI i + 2 = nI (i + 2) from nI_add i 2]
  refine AW.sld (amw11 0) 24 hS rfl (vp_in_nI (by omega) (by omega)) ?_
  rw [nI_clamp (show i + 2 < 2 ^ 31 by omega)]
  refine AW.lawX (amw11 0) 25 h2 (hM_len _ _ _) rfl ykX3_earns yiX3_earns yvX3_earns mlL_108 rfl rfl rfl rfl hR ⟨by decide, by decide, by show kc + 1 + 0 ≤ 619416; omega, by show ks + 6 + 0 ≤ 7237855; omega⟩ (fun _ => rfl) (st' := [.int br]) rfl ?_
  refine AW.blk (amw11 0) 26 2 (h' := hM C' T' L' ++ (hX kr C' A' L2').map (rE S2 []) ++ [aL 1 O']) (pc' := 878) (lv' := [(6, .int br), (5, .int kr), (4, .int (nI i)), (3, .ref 52), (2, .ref 28), (1, .ref 0), (0, .ref 100)]) (st' := [.ref 28]) (L := []) rfl trivial ?_
  refine AW.lawX (amw11 0) 28 (kX3_thrownX kr C' A' L2') (hM_len _ _ _) rfl ykX3_thrown yiX3_thrown yvX3_thrown mlL_70 rfl rfl rfl rfl hR ⟨by decide, by decide, by show kc + 1 + 0 + 0 ≤ 619416; omega, by show ks + 6 + 0 + 0 ≤ 7237855; omega⟩ (fun _ => rfl) (st' := [.int kr]) rfl ?_
  refine AW.blk (amw11 0) 29 1 (h' := hM C' T' L' ++ (hX kr C' A' L2').map (rE S2 []) ++ [aL 1 O']) (pc' := 883) (lv' := [(6, .int br), (5, .int kr), (4, .int (nI i)), (3, .ref 52), (2, .ref 28), (1, .ref 0), (0, .ref 100)]) (st' := [.int kr, .int kr]) (L := []) rfl trivial ?_
  refine AW.br (amw11 0) 30 (tgt := 888) (C := kr = kr) (C' := ¬ kr = kr) (st' := []) rfl rfl rfl (fun _ => ?_) (fun c => absurd rfl c)
  refine AW.blk (amw11 0) 33 1 (h' := hM C' T' L' ++ (hX kr C' A' L2').map (rE S2 []) ++ [aL 1 O']) (pc' := 890) (lv' := [(6, .int br), (5, .int kr), (4, .int (nI i)), (3, .ref 52), (2, .ref 28), (1, .ref 0), (0, .ref 100)]) (st' := [.int kr]) (L := []) rfl trivial ?_
  refine AW.br (amw11 0) 34 (tgt := 905) (C := ¬ kr = 0) (C' := kr = 0) (st' := []) rfl rfl rfl (fun _ => ?_) (fun c => ?_)
  · exact AW.blk (amw11 0) 44 1 (h' := hM C' T' L' ++ (hX kr C' A' L2').map (rE S2 []) ++ [aL 1 O']) (pc' := 1099) (lv' := [(6, .int br), (5, .int kr), (4, .int (nI i)), (3, .ref 52), (2, .ref 28), (1, .ref 0), (0, .ref 100)]) (st' := []) (L := []) rfl trivial fin
  · refine AW.blk (amw11 0) 35 2 (h' := hM C' T' L' ++ (hX kr C' A' L2').map (rE S2 []) ++ [aL 1 O']) (pc' := 895) (lv' := [(6, .int br), (5, .int kr), (4, .int (nI i)), (3, .ref 52), (2, .ref 28), (1, .ref 0), (0, .ref 100)]) (st' := [.int 0, .ref 52]) (L := []) rfl trivial ?_
    refine AW.lald (amw11 0) 37 rfl (get_52 (hM_len _ _ _) (hQ_len _ _ _ _)) vo_0 ?_
    refine AW.blk (amw11 0) 38 2 (h' := hM C' T' L' ++ (hX kr C' A' L2').map (rE S2 []) ++ [aL 1 O']) (pc' := 899) (lv' := [(6, .int br), (5, .int kr), (4, .int (nI i)), (3, .ref 52), (2, .ref 28), (1, .ref 0), (0, .ref 100)]) (st' := [.long br.toInt64, .long (O' (0 : Int32).toNatClampNeg)]) (L := []) rfl trivial ?_
    refine AW.lcmpE (amw11 0) 40 rfl (he c) ?_
    refine AW.br (amw11 0) 41 (tgt := 905) (C := (0 : Int32) = 0) (C' := ¬ (0 : Int32) = 0) (st' := []) rfl rfl rfl (fun _ => ?_) (fun c => absurd rfl c)
    exact AW.blk (amw11 0) 44 1 (h' := hM C' T' L' ++ (hX kr C' A' L2').map (rE S2 []) ++ [aL 1 O']) (pc' := 1099) (lv' := [(6, .int br), (5, .int kr), (4, .int (nI i)), (3, .ref 52), (2, .ref 28), (1, .ref 0), (0, .ref 100)]) (st' := []) (L := []) rfl trivial fin
set_option maxHeartbeats 4000000 in
theorem cs_advise {G : aG} {N : Nat} {xs : Nat → Int32} (hR : aRm G = RW) (hS : aScr 100 N xs G) {hg : List (Nat × Nat × Nat × Nat)} (hE : aEx hg G) {th kr br : Int32} {C T A C' T' A' : CS} {L L2 L' L2' : Nat → Int32} {O O' : Nat → Int64} (i kc ks : Nat) (hk : kc + 127 ≤ 619416) (hs : ks + 907 ≤ 7237855) (hi : i + 4 ≤ N) (hN : N ≤ 2048)
    (h1 : AMetW yL_advise cL_advise 5 (some .int) hh_advise { frames := 8, cells := 1, slots := 6, locals := 166 } [.ref 0, .int (xs (i + 1)), .int (xs (i + 2)), .ref 28] (hM C T L ++ [aL 1 O]) (some (.int kr)) (hM C' T' L' ++ [aL 1 O']))
    (h2 : AMet yX3_advise cX3_advise 7 (some .int) { frames := 6, cells := 0, slots := 0, locals := 136 } [.ref 0, .int (xs (i + 1)), .int (xs (i + 2))] (hX th C A L2) (some (.int br)) (hX kr C' A' L2')) (he : kr = 0 → O' (0 : Int32).toNatClampNeg = br.toInt64)
    (K : AW G MW (hW kr C' T' A' L' L2' O') (kc + 127) (ks + 907) 1099 [(4, .int (nI i)), (3, .ref 52), (2, .ref 28), (1, .ref 0), (0, .ref 100)] []) : AW G MW (hW th C T A L L2 O) kc ks 908 [(4, .int (nI i)), (3, .ref 52), (2, .ref 28), (1, .ref 0), (0, .ref 100)] [] := by
  have fin : AW G MW (hM C' T' L' ++ (hX kr C' A' L2').map (rE S2 []) ++ [aL 1 O']) (kc + 1 + 0 + 0) (ks + 6 + 0 + 0) 1099 [(6, .int br), (5, .int kr), (4, .int (nI i)), (3, .ref 52), (2, .ref 28), (1, .ref 0), (0, .ref 100)] [] := AW.pick [2, 3, 4, 5, 6] rfl (AW.widen (by omega) (by omega) K)
  refine AW.blk (amw12 0) 0 1 (h' := hW th C T A L L2 O) (pc' := 909) (lv' := [(4, .int (nI i)), (3, .ref 52), (2, .ref 28), (1, .ref 0), (0, .ref 100)]) (st' := [.ref 0]) (L := []) rfl trivial ?_
  refine AW.blk (amw12 0) 1 4 (h' := hW th C T A L L2 O) (pc' := 914) (lv' := [(4, .int (nI i)), (3, .ref 52), (2, .ref 28), (1, .ref 0), (0, .ref 100)]) (st' := [.int (nI i + 1), .ref 100, .ref 0]) (L := []) rfl trivial ?_
  rw [show nI i + 1 = nI (i + 1) from nI_add i 1]
  refine AW.sld (amw12 0) 5 hS rfl (vp_in_nI (by omega) (by omega)) ?_
  rw [nI_clamp (show i + 1 < 2 ^ 31 by omega)]
  refine AW.blk (amw12 0) 6 4 (h' := hW th C T A L L2 O) (pc' := 920) (lv' := [(4, .int (nI i)), (3, .ref 52), (2, .ref 28), (1, .ref 0), (0, .ref 100)]) (st' := [.int (nI i + 2), .ref 100, .int (xs (i + 1)), .ref 0]) (L := []) rfl trivial ?_
  rw [show nI i + 2 = nI (i + 2) from nI_add i 2]
  refine AW.sld (amw12 0) 10 hS rfl (vp_in_nI (by omega) (by omega)) ?_
  rw [nI_clamp (show i + 2 < 2 ^ 31 by omega)]
  refine AW.blk (amw12 0) 11 1 (h' := hW th C T A L L2 O) (pc' := 922) (lv' := [(4, .int (nI i)), (3, .ref 52), (2, .ref 28), (1, .ref 0), (0, .ref 100)]) (st' := [.ref 52, .int (xs (i + 2)), .int (xs (i + 1)), .ref 0]) (L := []) rfl trivial ?_
  refine AW.lawW (amw12 0) 12 h1 hE wcL_advise rfl wgL_advise wsL_advise wlL_advise rfl rfl rfl rfl hR ⟨by decide, by decide, by show kc + 1 ≤ 619416; omega, by show ks + 6 ≤ 7237855; omega⟩ (st' := [.int kr]) rfl ?_
  refine AW.blk (amw12 0) 13 2 (h' := hM C' T' L' ++ (hX th C A L2).map (rE S2 []) ++ [aL 1 O']) (pc' := 928) (lv' := [(5, .int kr), (4, .int (nI i)), (3, .ref 52), (2, .ref 28), (1, .ref 0), (0, .ref 100)]) (st' := [.ref 28]) (L := []) rfl trivial ?_
  refine AW.blk (amw12 0) 15 4 (h' := hM C' T' L' ++ (hX th C A L2).map (rE S2 []) ++ [aL 1 O']) (pc' := 933) (lv' := [(5, .int kr), (4, .int (nI i)), (3, .ref 52), (2, .ref 28), (1, .ref 0), (0, .ref 100)]) (st' := [.int (nI i + 1), .ref 100, .ref 28]) (L := []) rfl trivial ?_
  rw [show nI i + 1 = nI (i + 1) from nI_add i 1]
  refine AW.sld (amw12 0) 19 hS rfl (vp_in_nI (by omega) (by omega)) ?_
  rw [nI_clamp (show i + 1 < 2 ^ 31 by omega)]
  refine AW.blk (amw12 0) 20 4 (h' := hM C' T' L' ++ (hX th C A L2).map (rE S2 []) ++ [aL 1 O']) (pc' := 939) (lv' := [(5, .int kr), (4, .int (nI i)), (3, .ref 52), (2, .ref 28), (1, .ref 0), (0, .ref 100)]) (st' := [.int (nI i + 2), .ref 100, .int (xs (i + 1)), .ref 28]) (L := []) rfl trivial ?_
  rw [show nI i + 2 = nI (i + 2) from nI_add i 2]
  refine AW.sld (amw12 0) 24 hS rfl (vp_in_nI (by omega) (by omega)) ?_
  rw [nI_clamp (show i + 2 < 2 ^ 31 by omega)]
  refine AW.lawX (amw12 0) 25 h2 (hM_len _ _ _) rfl ykX3_advise yiX3_advise yvX3_advise mlL_111 rfl rfl rfl rfl hR ⟨by decide, by decide, by show kc + 1 + 0 ≤ 619416; omega, by show ks + 6 + 0 ≤ 7237855; omega⟩ (fun _ => rfl) (st' := [.int br]) rfl ?_
  refine AW.blk (amw12 0) 26 2 (h' := hM C' T' L' ++ (hX kr C' A' L2').map (rE S2 []) ++ [aL 1 O']) (pc' := 946) (lv' := [(6, .int br), (5, .int kr), (4, .int (nI i)), (3, .ref 52), (2, .ref 28), (1, .ref 0), (0, .ref 100)]) (st' := [.ref 28]) (L := []) rfl trivial ?_
  refine AW.lawX (amw12 0) 28 (kX3_thrownX kr C' A' L2') (hM_len _ _ _) rfl ykX3_thrown yiX3_thrown yvX3_thrown mlL_70 rfl rfl rfl rfl hR ⟨by decide, by decide, by show kc + 1 + 0 + 0 ≤ 619416; omega, by show ks + 6 + 0 + 0 ≤ 7237855; omega⟩ (fun _ => rfl) (st' := [.int kr]) rfl ?_
  refine AW.blk (amw12 0) 29 1 (h' := hM C' T' L' ++ (hX kr C' A' L2').map (rE S2 []) ++ [aL 1 O']) (pc' := 951) (lv' := [(6, .int br), (5, .int kr), (4, .int (nI i)), (3, .ref 52), (2, .ref 28), (1, .ref 0), (0, .ref 100)]) (st' := [.int kr, .int kr]) (L := []) rfl trivial ?_
  refine AW.br (amw12 0) 30 (tgt := 956) (C := kr = kr) (C' := ¬ kr = kr) (st' := []) rfl rfl rfl (fun _ => ?_) (fun c => absurd rfl c)
  refine AW.blk (amw12 0) 33 1 (h' := hM C' T' L' ++ (hX kr C' A' L2').map (rE S2 []) ++ [aL 1 O']) (pc' := 958) (lv' := [(6, .int br), (5, .int kr), (4, .int (nI i)), (3, .ref 52), (2, .ref 28), (1, .ref 0), (0, .ref 100)]) (st' := [.int kr]) (L := []) rfl trivial ?_
  refine AW.br (amw12 0) 34 (tgt := 973) (C := ¬ kr = 0) (C' := kr = 0) (st' := []) rfl rfl rfl (fun _ => ?_) (fun c => ?_)
  · exact AW.blk (amw12 0) 44 1 (h' := hM C' T' L' ++ (hX kr C' A' L2').map (rE S2 []) ++ [aL 1 O']) (pc' := 1099) (lv' := [(6, .int br), (5, .int kr), (4, .int (nI i)), (3, .ref 52), (2, .ref 28), (1, .ref 0), (0, .ref 100)]) (st' := []) (L := []) rfl trivial fin
  · refine AW.blk (amw12 0) 35 2 (h' := hM C' T' L' ++ (hX kr C' A' L2').map (rE S2 []) ++ [aL 1 O']) (pc' := 963) (lv' := [(6, .int br), (5, .int kr), (4, .int (nI i)), (3, .ref 52), (2, .ref 28), (1, .ref 0), (0, .ref 100)]) (st' := [.int 0, .ref 52]) (L := []) rfl trivial ?_
    refine AW.lald (amw12 0) 37 rfl (get_52 (hM_len _ _ _) (hQ_len _ _ _ _)) vo_0 ?_
    refine AW.blk (amw12 0) 38 2 (h' := hM C' T' L' ++ (hX kr C' A' L2').map (rE S2 []) ++ [aL 1 O']) (pc' := 967) (lv' := [(6, .int br), (5, .int kr), (4, .int (nI i)), (3, .ref 52), (2, .ref 28), (1, .ref 0), (0, .ref 100)]) (st' := [.long br.toInt64, .long (O' (0 : Int32).toNatClampNeg)]) (L := []) rfl trivial ?_
    refine AW.lcmpE (amw12 0) 40 rfl (he c) ?_
    refine AW.br (amw12 0) 41 (tgt := 973) (C := (0 : Int32) = 0) (C' := ¬ (0 : Int32) = 0) (st' := []) rfl rfl rfl (fun _ => ?_) (fun c => absurd rfl c)
    exact AW.blk (amw12 0) 44 1 (h' := hM C' T' L' ++ (hX kr C' A' L2').map (rE S2 []) ++ [aL 1 O']) (pc' := 1099) (lv' := [(6, .int br), (5, .int kr), (4, .int (nI i)), (3, .ref 52), (2, .ref 28), (1, .ref 0), (0, .ref 100)]) (st' := []) (L := []) rfl trivial fin
set_option maxHeartbeats 4000000 in
theorem cs_foresee {G : aG} {N : Nat} {xs : Nat → Int32} (hR : aRm G = RW) (hS : aScr 100 N xs G) {hg : List (Nat × Nat × Nat × Nat)} (hE : aEx hg G) {th kr br : Int32} {C T A C' T' A' : CS} {L L2 L' L2' : Nat → Int32} {O O' : Nat → Int64} (i kc ks : Nat) (hk : kc + 127 ≤ 619416) (hs : ks + 907 ≤ 7237855) (hi : i + 4 ≤ N) (hN : N ≤ 2048)
    (h1 : AMetW yL_foresee cL_foresee 5 (some .int) hh_foresee { frames := 8, cells := 1, slots := 6, locals := 139 } [.ref 0, .int (xs (i + 1)), .int (xs (i + 2)), .ref 28] (hM C T L ++ [aL 1 O]) (some (.int kr)) (hM C' T' L' ++ [aL 1 O']))
    (h2 : AMet yX3_foresee cX3_foresee 4 (some .int) { frames := 5, cells := 0, slots := 0, locals := 114 } [.ref 0, .int (xs (i + 1)), .int (xs (i + 2))] (hX th C A L2) (some (.int br)) (hX kr C' A' L2')) (he : kr = 0 → O' (0 : Int32).toNatClampNeg = br.toInt64)
    (K : AW G MW (hW kr C' T' A' L' L2' O') (kc + 127) (ks + 907) 1099 [(4, .int (nI i)), (3, .ref 52), (2, .ref 28), (1, .ref 0), (0, .ref 100)] []) : AW G MW (hW th C T A L L2 O) kc ks 976 [(4, .int (nI i)), (3, .ref 52), (2, .ref 28), (1, .ref 0), (0, .ref 100)] [] := by
  have fin : AW G MW (hM C' T' L' ++ (hX kr C' A' L2').map (rE S2 []) ++ [aL 1 O']) (kc + 1 + 0 + 0) (ks + 6 + 0 + 0) 1099 [(6, .int br), (5, .int kr), (4, .int (nI i)), (3, .ref 52), (2, .ref 28), (1, .ref 0), (0, .ref 100)] [] := AW.pick [2, 3, 4, 5, 6] rfl (AW.widen (by omega) (by omega) K)
  refine AW.blk (amw13 0) 0 1 (h' := hW th C T A L L2 O) (pc' := 977) (lv' := [(4, .int (nI i)), (3, .ref 52), (2, .ref 28), (1, .ref 0), (0, .ref 100)]) (st' := [.ref 0]) (L := []) rfl trivial ?_
  refine AW.blk (amw13 0) 1 4 (h' := hW th C T A L L2 O) (pc' := 982) (lv' := [(4, .int (nI i)), (3, .ref 52), (2, .ref 28), (1, .ref 0), (0, .ref 100)]) (st' := [.int (nI i + 1), .ref 100, .ref 0]) (L := []) rfl trivial ?_
  rw [show nI i + 1 = nI (i + 1) from nI_add i 1]
  refine AW.sld (amw13 0) 5 hS rfl (vp_in_nI (by omega) (by omega)) ?_
  rw [nI_clamp (show i + 1 < 2 ^ 31 by omega)]
  refine AW.blk (amw13 0) 6 4 (h' := hW th C T A L L2 O) (pc' := 988) (lv' := [(4, .int (nI i)), (3, .ref 52), (2, .ref 28), (1, .ref 0), (0, .ref 100)]) (st' := [.int (nI i + 2), .ref 100, .int (xs (i + 1)), .ref 0]) (L := []) rfl trivial ?_
  rw [show nI i + 2 = nI (i + 2) from nI_add i 2]
  refine AW.sld (amw13 0) 10 hS rfl (vp_in_nI (by omega) (by omega)) ?_
  rw [nI_clamp (show i + 2 < 2 ^ 31 by omega)]
  refine AW.blk (amw13 0) 11 1 (h' := hW th C T A L L2 O) (pc' := 990) (lv' := [(4, .int (nI i)), (3, .ref 52), (2, .ref 28), (1, .ref 0), (0, .ref 100)]) (st' := [.ref 52, .int (xs (i + 2)), .int (xs (i + 1)), .ref 0]) (L := []) rfl trivial ?_
  refine AW.lawW (amw13 0) 12 h1 hE wcL_foresee rfl wgL_foresee wsL_foresee wlL_foresee rfl rfl rfl rfl hR ⟨by decide, by decide, by show kc + 1 ≤ 619416; omega, by show ks + 6 ≤ 7237855; omega⟩ (st' := [.int kr]) rfl ?_
  refine AW.blk (amw13 0) 13 2 (h' := hM C' T' L' ++ (hX th C A L2).map (rE S2 []) ++ [aL 1 O']) (pc' := 996) (lv' := [(5, .int kr), (4, .int (nI i)), (3, .ref 52), (2, .ref 28), (1, .ref 0), (0, .ref 100)]) (st' := [.ref 28]) (L := []) rfl trivial ?_
  refine AW.blk (amw13 0) 15 4 (h' := hM C' T' L' ++ (hX th C A L2).map (rE S2 []) ++ [aL 1 O']) (pc' := 1001) (lv' := [(5, .int kr), (4, .int (nI i)), (3, .ref 52), (2, .ref 28), (1, .ref 0), (0, .ref 100)]) (st' := [.int (nI i + 1), .ref 100, .ref 28]) (L := []) rfl trivial ?_
  rw [show nI i + 1 = nI (i + 1) from nI_add i 1]
  refine AW.sld (amw13 0) 19 hS rfl (vp_in_nI (by omega) (by omega)) ?_
  rw [nI_clamp (show i + 1 < 2 ^ 31 by omega)]
  refine AW.blk (amw13 0) 20 4 (h' := hM C' T' L' ++ (hX th C A L2).map (rE S2 []) ++ [aL 1 O']) (pc' := 1007) (lv' := [(5, .int kr), (4, .int (nI i)), (3, .ref 52), (2, .ref 28), (1, .ref 0), (0, .ref 100)]) (st' := [.int (nI i + 2), .ref 100, .int (xs (i + 1)), .ref 28]) (L := []) rfl trivial ?_
  rw [show nI i + 2 = nI (i + 2) from nI_add i 2]
  refine AW.sld (amw13 0) 24 hS rfl (vp_in_nI (by omega) (by omega)) ?_
  rw [nI_clamp (show i + 2 < 2 ^ 31 by omega)]
  refine AW.lawX (amw13 0) 25 h2 (hM_len _ _ _) rfl ykX3_foresee yiX3_foresee yvX3_foresee mlL_114 rfl rfl rfl rfl hR ⟨by decide, by decide, by show kc + 1 + 0 ≤ 619416; omega, by show ks + 6 + 0 ≤ 7237855; omega⟩ (fun _ => rfl) (st' := [.int br]) rfl ?_
  refine AW.blk (amw13 0) 26 2 (h' := hM C' T' L' ++ (hX kr C' A' L2').map (rE S2 []) ++ [aL 1 O']) (pc' := 1014) (lv' := [(6, .int br), (5, .int kr), (4, .int (nI i)), (3, .ref 52), (2, .ref 28), (1, .ref 0), (0, .ref 100)]) (st' := [.ref 28]) (L := []) rfl trivial ?_
  refine AW.lawX (amw13 0) 28 (kX3_thrownX kr C' A' L2') (hM_len _ _ _) rfl ykX3_thrown yiX3_thrown yvX3_thrown mlL_70 rfl rfl rfl rfl hR ⟨by decide, by decide, by show kc + 1 + 0 + 0 ≤ 619416; omega, by show ks + 6 + 0 + 0 ≤ 7237855; omega⟩ (fun _ => rfl) (st' := [.int kr]) rfl ?_
  refine AW.blk (amw13 0) 29 1 (h' := hM C' T' L' ++ (hX kr C' A' L2').map (rE S2 []) ++ [aL 1 O']) (pc' := 1019) (lv' := [(6, .int br), (5, .int kr), (4, .int (nI i)), (3, .ref 52), (2, .ref 28), (1, .ref 0), (0, .ref 100)]) (st' := [.int kr, .int kr]) (L := []) rfl trivial ?_
  refine AW.br (amw13 0) 30 (tgt := 1024) (C := kr = kr) (C' := ¬ kr = kr) (st' := []) rfl rfl rfl (fun _ => ?_) (fun c => absurd rfl c)
  refine AW.blk (amw13 0) 33 1 (h' := hM C' T' L' ++ (hX kr C' A' L2').map (rE S2 []) ++ [aL 1 O']) (pc' := 1026) (lv' := [(6, .int br), (5, .int kr), (4, .int (nI i)), (3, .ref 52), (2, .ref 28), (1, .ref 0), (0, .ref 100)]) (st' := [.int kr]) (L := []) rfl trivial ?_
  refine AW.br (amw13 0) 34 (tgt := 1041) (C := ¬ kr = 0) (C' := kr = 0) (st' := []) rfl rfl rfl (fun _ => ?_) (fun c => ?_)
  · exact AW.blk (amw13 0) 44 1 (h' := hM C' T' L' ++ (hX kr C' A' L2').map (rE S2 []) ++ [aL 1 O']) (pc' := 1099) (lv' := [(6, .int br), (5, .int kr), (4, .int (nI i)), (3, .ref 52), (2, .ref 28), (1, .ref 0), (0, .ref 100)]) (st' := []) (L := []) rfl trivial fin
  · refine AW.blk (amw13 0) 35 2 (h' := hM C' T' L' ++ (hX kr C' A' L2').map (rE S2 []) ++ [aL 1 O']) (pc' := 1031) (lv' := [(6, .int br), (5, .int kr), (4, .int (nI i)), (3, .ref 52), (2, .ref 28), (1, .ref 0), (0, .ref 100)]) (st' := [.int 0, .ref 52]) (L := []) rfl trivial ?_
    refine AW.lald (amw13 0) 37 rfl (get_52 (hM_len _ _ _) (hQ_len _ _ _ _)) vo_0 ?_
    refine AW.blk (amw13 0) 38 2 (h' := hM C' T' L' ++ (hX kr C' A' L2').map (rE S2 []) ++ [aL 1 O']) (pc' := 1035) (lv' := [(6, .int br), (5, .int kr), (4, .int (nI i)), (3, .ref 52), (2, .ref 28), (1, .ref 0), (0, .ref 100)]) (st' := [.long br.toInt64, .long (O' (0 : Int32).toNatClampNeg)]) (L := []) rfl trivial ?_
    refine AW.lcmpE (amw13 0) 40 rfl (he c) ?_
    refine AW.br (amw13 0) 41 (tgt := 1041) (C := (0 : Int32) = 0) (C' := ¬ (0 : Int32) = 0) (st' := []) rfl rfl rfl (fun _ => ?_) (fun c => absurd rfl c)
    exact AW.blk (amw13 0) 44 1 (h' := hM C' T' L' ++ (hX kr C' A' L2').map (rE S2 []) ++ [aL 1 O']) (pc' := 1099) (lv' := [(6, .int br), (5, .int kr), (4, .int (nI i)), (3, .ref 52), (2, .ref 28), (1, .ref 0), (0, .ref 100)]) (st' := []) (L := []) rfl trivial fin
