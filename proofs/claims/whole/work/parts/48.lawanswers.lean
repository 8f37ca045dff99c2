/-! ===== each case of the law, all its answers ===== -/
theorem lt_le {x M M1 : Int32} (h : M1.toInt = M.toInt + 1) : x < M1 ↔ x ≤ M := by
  rw [Int32.lt_iff_toInt_lt, Int32.le_iff_toInt_le, h]
  omega
theorem in3_or {v a b b1 : Int32} (h : b1.toInt = b.toInt + 1) (z : v < a ∨ ¬ v < b1) : sIn3 v a b = 0 := z.elim in3_lo (fun q => in3_hi (fun r => q ((lt_le h).mpr r)))
theorem in3_or' {v a b : Int32} (z : v < a ∨ ¬ v ≤ b) : sIn3 v a b = 0 := z.elim in3_lo in3_hi
theorem VC_rg {B : Nat} {C : CS} (h : VC B C) : rg 9 50 C.1 := by
  obtain ⟨N, Q, v1, v2, v3, v4, v5, v6, v7, -⟩ := h
  exact v7
theorem mean_eq : ∀ n, n < 451 → FP.dcmp (FP.ddiv (FP.i2d (nI n)) 4621256167635550208) (FP.ddiv (FP.i2d (nI n)) 4621256167635550208) = some .eq := by decide +kernel
theorem VC_dcmp {B : Nat} {C : CS} (h : VC B C) : FP.dcmp (FP.ddiv (FP.i2d (sSum C.1 9)) 4621256167635550208) (FP.ddiv (FP.i2d (sSum C.1 9)) 4621256167635550208) = some .eq := by
  obtain ⟨n, hn, e⟩ := sum_n (VC_rg h)
  rw [e]
  exact mean_eq n (by omega)
set_option maxHeartbeats 2000000 in
theorem ds_set {G : aG} {B N : Nat} {xs : Nat → Int32} (hR : aRm G = RW) (hS : aScr 100 N xs G) {hg : List (Nat × Nat × Nat × Nat)} (hE : aEx hg G) (th : Int32) (C T A : CS) (L L2 : Nat → Int32) (O : Nat → Int64) (i kc ks : Nat) (hV : VC B C) (hB : B + 96 < 2 ^ 31) (hk : kc + 127 ≤ 619416) (hs : ks + 907 ≤ 7237855) (hi : i + 4 ≤ N) (hN : N ≤ 2048)
    (K : ∀ (th' : Int32) (C' T' A' : CS) (L' L2' : Nat → Int32) (O' : Nat → Int64), VC (B + 96) C' → AW G MW (hW th' C' T' A' L' L2' O') (kc + 127) (ks + 907) 1099 [(4, .int (nI i)), (3, .ref 52), (2, .ref 28), (1, .ref 0), (0, .ref 100)] []) : AW G MW (hW th C T A L L2 O) kc ks 116 [(4, .int (nI i)), (3, .ref 52), (2, .ref 28), (1, .ref 0), (0, .ref 100)] [] := by
  have hV' : VC (B + 96) C := VC_mono hV (by omega)
  by_cases hc : sCr (xs (i + 1)) = 0
  · exact cs_set hR hS hE i kc ks hk hs hi hN (kL_set_x1 C T L _ _ _ hc O) (kX3_set_b1 th C A L2 hV _ _ _ hc) (fun z => absurd z (by decide)) (K _ _ _ _ _ _ _ hV')
  by_cases p : xs (i + 2) < 0 ∨ ¬ xs (i + 2) ≤ 9
  · exact cs_set hR hS hE i kc ks hk hs hi hN (kL_set_x2 C T L _ _ _ hc p O) (kX3_set_b2 th C A L2 hV _ _ _ hc (in3_or' p)) (fun z => absurd z (by decide)) (K _ _ _ _ _ _ _ hV')
  have pa : ¬ xs (i + 2) < 0 := fun z => p (.inl z)
  have pb : xs (i + 2) ≤ 9 := Classical.not_not.mp fun z => p (.inr z)
  by_cases q : xs (i + 3) < 0 ∨ ¬ xs (i + 3) ≤ 30
  · exact cs_set hR hS hE i kc ks hk hs hi hN (kL_set_x3 C T L _ _ _ hc pa pb q O) (kX3_set_b3 th C A L2 hV _ _ _ hc (in3_ok pa pb) (in3_or' q)) (fun z => absurd z (by decide)) (K _ _ _ _ _ _ _ hV')
  have qa : ¬ xs (i + 3) < 0 := fun z => q (.inl z)
  have qb : xs (i + 3) ≤ 30 := Classical.not_not.mp fun z => q (.inr z)
  exact cs_set hR hS hE i kc ks hk hs hi hN (kL_set C T L _ _ _ hc pa pb qa qb O) (kX3_set th C A L2 hV _ _ _ hc (in3_ok pa pb) (in3_ok qa qb)) (fun _ => pk_uLs) (K _ _ _ _ _ _ _ (VC_mono (VC_set hV pa pb qa qb) (by omega)))
set_option maxHeartbeats 2000000 in
theorem ds_setRain {G : aG} {B N : Nat} {xs : Nat → Int32} (hR : aRm G = RW) (hS : aScr 100 N xs G) {hg : List (Nat × Nat × Nat × Nat)} (hE : aEx hg G) (th : Int32) (C T A : CS) (L L2 : Nat → Int32) (O : Nat → Int64) (i kc ks : Nat) (hV : VC B C) (hB : B + 96 < 2 ^ 31) (hk : kc + 127 ≤ 619416) (hs : ks + 907 ≤ 7237855) (hi : i + 4 ≤ N) (hN : N ≤ 2048)
    (K : ∀ (th' : Int32) (C' T' A' : CS) (L' L2' : Nat → Int32) (O' : Nat → Int64), VC (B + 96) C' → AW G MW (hW th' C' T' A' L' L2' O') (kc + 127) (ks + 907) 1099 [(4, .int (nI i)), (3, .ref 52), (2, .ref 28), (1, .ref 0), (0, .ref 100)] []) : AW G MW (hW th C T A L L2 O) kc ks 196 [(4, .int (nI i)), (3, .ref 52), (2, .ref 28), (1, .ref 0), (0, .ref 100)] [] := by
  have hV' : VC (B + 96) C := VC_mono hV (by omega)
  by_cases p : xs (i + 1) < 0 ∨ ¬ xs (i + 1) < 8
  · exact cs_setRain hR hS hE i kc ks hk hs hi hN (kL_setRain_x1 C T L _ _ p O) (kX3_setRain_b1 th C A L2 hV _ _ (in3_or (by decide) p)) (fun z => absurd z (by decide)) (K _ _ _ _ _ _ _ hV')
  have pa : ¬ xs (i + 1) < 0 := fun z => p (.inl z)
  have pb : xs (i + 1) < 8 := Classical.not_not.mp fun z => p (.inr z)
  have pc : xs (i + 1) ≤ 7 := (lt_le (by decide)).mp pb
  by_cases q : xs (i + 2) < 0 ∨ ¬ xs (i + 2) ≤ 9
  · exact cs_setRain hR hS hE i kc ks hk hs hi hN (kL_setRain_x2 C T L _ _ pa pb q O) (kX3_setRain_b2 th C A L2 hV _ _ (in3_ok pa pc) (in3_or' q)) (fun z => absurd z (by decide)) (K _ _ _ _ _ _ _ hV')
  have qa : ¬ xs (i + 2) < 0 := fun z => q (.inl z)
  have qb : xs (i + 2) ≤ 9 := Classical.not_not.mp fun z => q (.inr z)
  exact cs_setRain hR hS hE i kc ks hk hs hi hN (kL_setRain C T L _ _ pa pb qa qb O) (kX3_setRain th C A L2 hV _ _ (in3_ok pa pc) (in3_ok qa qb)) (fun _ => pk_uLs) (K _ _ _ _ _ _ _ (VC_mono (VC_rain hV qa qb) (by omega)))
set_option maxHeartbeats 2000000 in
theorem ds_spill {G : aG} {B N : Nat} {xs : Nat → Int32} (hR : aRm G = RW) (hS : aScr 100 N xs G) {hg : List (Nat × Nat × Nat × Nat)} (hE : aEx hg G) (th : Int32) (C T A : CS) (L L2 : Nat → Int32) (O : Nat → Int64) (i kc ks : Nat) (hV : VC B C) (hB : B + 96 < 2 ^ 31) (hk : kc + 127 ≤ 619416) (hs : ks + 907 ≤ 7237855) (hi : i + 4 ≤ N) (hN : N ≤ 2048)
    (K : ∀ (th' : Int32) (C' T' A' : CS) (L' L2' : Nat → Int32) (O' : Nat → Int64), VC (B + 96) C' → AW G MW (hW th' C' T' A' L' L2' O') (kc + 127) (ks + 907) 1099 [(4, .int (nI i)), (3, .ref 52), (2, .ref 28), (1, .ref 0), (0, .ref 100)] []) : AW G MW (hW th C T A L L2 O) kc ks 264 [(4, .int (nI i)), (3, .ref 52), (2, .ref 28), (1, .ref 0), (0, .ref 100)] [] := by
  have hV' : VC (B + 96) C := VC_mono hV (by omega)
  by_cases hc : sCr (xs (i + 1)) = 0
  · exact cs_spill hR hS hE i kc ks hk hs hi hN (kL_spill_x1 C T L _ _ hc O) (kX3_spill_b1 th C A L2 hV _ _ hc) (fun z => absurd z (by decide)) (K _ _ _ _ _ _ _ hV')
  by_cases p : xs (i + 2) < 1 ∨ ¬ xs (i + 2) ≤ 50
  · exact cs_spill hR hS hE i kc ks hk hs hi hN (kL_spill_x2 C T L _ _ hc p O) (kX3_spill_b2 th C A L2 hV _ _ hc (in3_or' p)) (fun z => absurd z (by decide)) (K _ _ _ _ _ _ _ hV')
  have pa : ¬ xs (i + 2) < 1 := fun z => p (.inl z)
  have pb : xs (i + 2) ≤ 50 := Classical.not_not.mp fun z => p (.inr z)
  exact cs_spill hR hS hE i kc ks hk hs hi hN (kL_spill C T L _ _ hc pa pb O) (kX3_spill th C A L2 hV _ _ hc (in3_ok pa pb)) (fun _ => pk_uLs) (K _ _ _ _ _ _ _ (VC_mono (VC_spill hV pa pb) (by omega)))
set_option maxHeartbeats 2000000 in
theorem ds_come {G : aG} {B N : Nat} {xs : Nat → Int32} (hR : aRm G = RW) (hS : aScr 100 N xs G) {hg : List (Nat × Nat × Nat × Nat)} (hE : aEx hg G) (th : Int32) (C T A : CS) (L L2 : Nat → Int32) (O : Nat → Int64) (i kc ks : Nat) (hV : VC B C) (hB : B + 96 < 2 ^ 31) (hk : kc + 127 ≤ 619416) (hs : ks + 907 ≤ 7237855) (hi : i + 4 ≤ N) (hN : N ≤ 2048)
    (K : ∀ (th' : Int32) (C' T' A' : CS) (L' L2' : Nat → Int32) (O' : Nat → Int64), VC (B + 96) C' → AW G MW (hW th' C' T' A' L' L2' O') (kc + 127) (ks + 907) 1099 [(4, .int (nI i)), (3, .ref 52), (2, .ref 28), (1, .ref 0), (0, .ref 100)] []) : AW G MW (hW th C T A L L2 O) kc ks 332 [(4, .int (nI i)), (3, .ref 52), (2, .ref 28), (1, .ref 0), (0, .ref 100)] [] := by
  have hV' : VC (B + 96) C := VC_mono hV (by omega)
  by_cases hc : sCr (xs (i + 1)) = 0
  · exact cs_come hR hS hE i kc ks hk hs hi hN (kL_come_x1 C T L _ _ hc O) (kX3_come_b1 th C A L2 hV _ _ hc) (fun z => absurd z (by decide)) (K _ _ _ _ _ _ _ hV')
  by_cases p : xs (i + 2) < 1 ∨ ¬ xs (i + 2) ≤ 9
  · exact cs_come hR hS hE i kc ks hk hs hi hN (kL_come_x2 C T L _ _ hc p O) (kX3_come_b2 th C A L2 hV _ _ hc (in3_or' p)) (fun z => absurd z (by decide)) (K _ _ _ _ _ _ _ hV')
  have pa : ¬ xs (i + 2) < 1 := fun z => p (.inl z)
  have pb : xs (i + 2) ≤ 9 := Classical.not_not.mp fun z => p (.inr z)
  obtain ⟨n0, n8 | ⟨n8, nv⟩⟩ := VC_n hV
  · exact cs_come hR hS hE i kc ks hk hs hi hN (kL_come_x3 C T L _ _ hc pa pb (.inr (by rw [n8]; decide)) O) (kX3_come_b3 th C A L2 hV _ _ hc (in3_ok pa pb) n8) (fun z => absurd z (by decide)) (K _ _ _ _ _ _ _ hV')
  · exact cs_come hR hS hE i kc ks hk hs hi hN (kL_come C T L _ _ hc pa pb n0 n8 O) (kX3_come th C A L2 hV _ _ hc (in3_ok pa pb) nv) (fun _ => pk_uLs) (K _ _ _ _ _ _ _ (VC_mono (VC_come hV hc pa pb n8) (by omega)))
set_option maxHeartbeats 2000000 in
theorem ds_send {G : aG} {B N : Nat} {xs : Nat → Int32} (hR : aRm G = RW) (hS : aScr 100 N xs G) {hg : List (Nat × Nat × Nat × Nat)} (hE : aEx hg G) (th : Int32) (C T A : CS) (L L2 : Nat → Int32) (O : Nat → Int64) (i kc ks : Nat) (hV : VC B C) (hB : B + 96 < 2 ^ 31) (hk : kc + 127 ≤ 619416) (hs : ks + 907 ≤ 7237855) (hi : i + 4 ≤ N) (hN : N ≤ 2048)
    (K : ∀ (th' : Int32) (C' T' A' : CS) (L' L2' : Nat → Int32) (O' : Nat → Int64), VC (B + 96) C' → AW G MW (hW th' C' T' A' L' L2' O') (kc + 127) (ks + 907) 1099 [(4, .int (nI i)), (3, .ref 52), (2, .ref 28), (1, .ref 0), (0, .ref 100)] []) : AW G MW (hW th C T A L L2 O) kc ks 400 [(4, .int (nI i)), (3, .ref 52), (2, .ref 28), (1, .ref 0), (0, .ref 100)] [] := by
  have hV' : VC (B + 96) C := VC_mono hV (by omega)
  by_cases hw : sSw (xs (i + 1)) C.2.2.2.2.2.2.2.2.2.2.2.2.1 = 0
  · exact cs_send hR hS hE i kc ks hk hs hi hN (kL_send_x1 C T L _ _ hw O) (kX3_send_b1 th C A L2 hV _ _ hw) (fun z => absurd z (by decide)) (K _ _ _ _ _ _ _ hV')
  by_cases hc : sCr (xs (i + 2)) = 0
  · exact cs_send hR hS hE i kc ks hk hs hi hN (kL_send_x2 C T L _ _ hw hc O) (kX3_send_b2 th C A L2 hV _ _ hw hc) (fun z => absurd z (by decide)) (K _ _ _ _ _ _ _ hV')
  exact cs_send hR hS hE i kc ks hk hs hi hN (kL_send C T L _ _ hw hc O) (kX3_send th C A L2 hV _ _ hw hc) (fun _ => pk_uLs) (K _ _ _ _ _ _ _ (VC_mono (VC_move hV hc) (by omega)))
set_option maxHeartbeats 2000000 in
theorem ds_buy {G : aG} {B N : Nat} {xs : Nat → Int32} (hR : aRm G = RW) (hS : aScr 100 N xs G) {hg : List (Nat × Nat × Nat × Nat)} (hE : aEx hg G) (th : Int32) (C T A : CS) (L L2 : Nat → Int32) (O : Nat → Int64) (i kc ks : Nat) (hV : VC B C) (hB : B + 96 < 2 ^ 31) (hk : kc + 127 ≤ 619416) (hs : ks + 907 ≤ 7237855) (hi : i + 4 ≤ N) (hN : N ≤ 2048)
    (K : ∀ (th' : Int32) (C' T' A' : CS) (L' L2' : Nat → Int32) (O' : Nat → Int64), VC (B + 96) C' → AW G MW (hW th' C' T' A' L' L2' O') (kc + 127) (ks + 907) 1099 [(4, .int (nI i)), (3, .ref 52), (2, .ref 28), (1, .ref 0), (0, .ref 100)] []) : AW G MW (hW th C T A L L2 O) kc ks 468 [(4, .int (nI i)), (3, .ref 52), (2, .ref 28), (1, .ref 0), (0, .ref 100)] [] := by
  have hV' : VC (B + 96) C := VC_mono hV (by omega)
  by_cases hw : sSw (xs (i + 1)) C.2.2.2.2.2.2.2.2.2.2.2.2.1 = 0
  · exact cs_buy hR hS hE i kc ks hk hs hi hN (kL_buy_x1 C T L _ hw O) (kX3_buy_b1 th C A L2 hV _ hw) (fun z => absurd z (by decide)) (K _ _ _ _ _ _ _ hV')
  by_cases p : 5 ≤ C.2.2.2.2.2.2.2.2.2.1 (xs (i + 1)).toNatClampNeg
  · exact cs_buy hR hS hE i kc ks hk hs hi hN (kL_buy C T L _ hw p O) (kX3_buy th C A L2 hV _ hw p) (fun _ => pk_uLs) (K _ _ _ _ _ _ _ (VC_mono (VC_buy hV) (by omega)))
  · exact cs_buy hR hS hE i kc ks hk hs hi hN (kL_buy_x2 C T L _ hw p O) (kX3_buy_b2 th C A L2 hV _ hw p) (fun z => absurd z (by decide)) (K _ _ _ _ _ _ _ hV')
set_option maxHeartbeats 2000000 in
theorem ds_sweeper {G : aG} {B N : Nat} {xs : Nat → Int32} (hR : aRm G = RW) (hS : aScr 100 N xs G) {hg : List (Nat × Nat × Nat × Nat)} (hE : aEx hg G) (th : Int32) (C T A : CS) (L L2 : Nat → Int32) (O : Nat → Int64) (i kc ks : Nat) (hV : VC B C) (hB : B + 96 < 2 ^ 31) (hk : kc + 127 ≤ 619416) (hs : ks + 907 ≤ 7237855) (hi : i + 4 ≤ N) (hN : N ≤ 2048)
    (K : ∀ (th' : Int32) (C' T' A' : CS) (L' L2' : Nat → Int32) (O' : Nat → Int64), VC (B + 96) C' → AW G MW (hW th' C' T' A' L' L2' O') (kc + 127) (ks + 907) 1099 [(4, .int (nI i)), (3, .ref 52), (2, .ref 28), (1, .ref 0), (0, .ref 100)] []) : AW G MW (hW th C T A L L2 O) kc ks 524 [(4, .int (nI i)), (3, .ref 52), (2, .ref 28), (1, .ref 0), (0, .ref 100)] [] := by
  have hV' : VC (B + 96) C := VC_mono hV (by omega)
  by_cases hw : sSw (xs (i + 1)) C.2.2.2.2.2.2.2.2.2.2.2.2.1 = 0
  · exact cs_sweeper hR hS hE i kc ks hk hs hi hN (kL_sweeper_x1 C T L _ _ hw O) (kX3_sweeper_b1 th C A L2 hV _ _ hw) (fun z => absurd z (by decide)) (K _ _ _ _ _ _ _ hV')
  by_cases q : xs (i + 2) < 0 ∨ ¬ xs (i + 2) < 8
  · exact cs_sweeper hR hS hE i kc ks hk hs hi hN (kL_sweeper_x2 C T L _ _ hw q O) (kX3_sweeper_b2 th C A L2 hV _ _ hw (in3_or (by decide) q)) (fun z => absurd z (by decide)) (K _ _ _ _ _ _ _ hV')
  have qa : ¬ xs (i + 2) < 0 := fun z => q (.inl z)
  have qb : xs (i + 2) < 8 := Classical.not_not.mp fun z => q (.inr z)
  obtain ⟨w, hw8, e⟩ := nI_of2 (n := 7) rfl qa ((lt_le (M := 7) (by decide)).mp qb)
  have k1 := kL_sweeper C T L _ hw w (by omega) O
  have k2 := kX3_sweeper th C A L2 hV _ hw w (by omega)
  rw [← e] at k1 k2
  exact cs_sweeper hR hS hE i kc ks hk hs hi hN (k1) (k2) (fun _ => pk_uLs) (K _ _ _ _ _ _ _ hV')
set_option maxHeartbeats 2000000 in
theorem ds_crossing {G : aG} {B N : Nat} {xs : Nat → Int32} (hR : aRm G = RW) (hS : aScr 100 N xs G) {hg : List (Nat × Nat × Nat × Nat)} (hE : aEx hg G) (th : Int32) (C T A : CS) (L L2 : Nat → Int32) (O : Nat → Int64) (i kc ks : Nat) (hV : VC B C) (hB : B + 96 < 2 ^ 31) (hk : kc + 127 ≤ 619416) (hs : ks + 907 ≤ 7237855) (hi : i + 4 ≤ N) (hN : N ≤ 2048)
    (K : ∀ (th' : Int32) (C' T' A' : CS) (L' L2' : Nat → Int32) (O' : Nat → Int64), VC (B + 96) C' → AW G MW (hW th' C' T' A' L' L2' O') (kc + 127) (ks + 907) 1099 [(4, .int (nI i)), (3, .ref 52), (2, .ref 28), (1, .ref 0), (0, .ref 100)] []) : AW G MW (hW th C T A L L2 O) kc ks 592 [(4, .int (nI i)), (3, .ref 52), (2, .ref 28), (1, .ref 0), (0, .ref 100)] [] := by
  have hV' : VC (B + 96) C := VC_mono hV (by omega)
  by_cases hc : sCr (xs (i + 1)) = 0
  · exact cs_crossing hR hS hE i kc ks hk hs hi hN (kL_crossing_x1 C T L _ _ hc O) (kX3_crossing_b1 th C A L2 hV _ _ hc) (fun z => absurd z (by decide)) (K _ _ _ _ _ _ _ hV')
  by_cases q : xs (i + 2) < 0 ∨ ¬ xs (i + 2) < 6
  · exact cs_crossing hR hS hE i kc ks hk hs hi hN (kL_crossing_x2 C T L _ _ hc q O) (kX3_crossing_b2 th C A L2 hV _ _ hc (in3_or (by decide) q)) (fun z => absurd z (by decide)) (K _ _ _ _ _ _ _ hV')
  have qa : ¬ xs (i + 2) < 0 := fun z => q (.inl z)
  have qb : xs (i + 2) < 6 := Classical.not_not.mp fun z => q (.inr z)
  obtain ⟨w, hw8, e⟩ := nI_of2 (n := 5) rfl qa ((lt_le (M := 5) (by decide)).mp qb)
  have k1 := kL_crossing C T L _ hc w (by omega) O
  have k2 := kX3_crossing th C A L2 hV _ hc w (by omega)
  rw [← e] at k1 k2
  exact cs_crossing hR hS hE i kc ks hk hs hi hN (k1) (k2) (fun _ => pk_uLs) (K _ _ _ _ _ _ _ hV')
set_option maxHeartbeats 2000000 in
theorem ds_count {G : aG} {B N : Nat} {xs : Nat → Int32} (hR : aRm G = RW) (hS : aScr 100 N xs G) {hg : List (Nat × Nat × Nat × Nat)} (hE : aEx hg G) (th : Int32) (C T A : CS) (L L2 : Nat → Int32) (O : Nat → Int64) (i kc ks : Nat) (hV : VC B C) (hB : B + 96 < 2 ^ 31) (hk : kc + 127 ≤ 619416) (hs : ks + 907 ≤ 7237855) (hi : i + 4 ≤ N) (hN : N ≤ 2048)
    (K : ∀ (th' : Int32) (C' T' A' : CS) (L' L2' : Nat → Int32) (O' : Nat → Int64), VC (B + 96) C' → AW G MW (hW th' C' T' A' L' L2' O') (kc + 127) (ks + 907) 1099 [(4, .int (nI i)), (3, .ref 52), (2, .ref 28), (1, .ref 0), (0, .ref 100)] []) : AW G MW (hW th C T A L L2 O) kc ks 660 [(4, .int (nI i)), (3, .ref 52), (2, .ref 28), (1, .ref 0), (0, .ref 100)] [] := by
  have hV' : VC (B + 96) C := VC_mono hV (by omega)
  by_cases q : xs (i + 1) < 0 ∨ ¬ xs (i + 1) < 8
  · exact cs_count hR hS hE i kc ks hk hs hi hN (kL_count_x1 C T L _ q O) (kX3_count_b1 th C A L2 hV _ (in3_or (by decide) q)) (fun z => absurd z (by decide)) (K _ _ _ _ _ _ _ hV')
  have qa : ¬ xs (i + 1) < 0 := fun z => q (.inl z)
  have qb : xs (i + 1) < 8 := Classical.not_not.mp fun z => q (.inr z)
  obtain ⟨w, hw8, e⟩ := nI_of2 (n := 7) rfl qa ((lt_le (M := 7) (by decide)).mp qb)
  have k1 := kL_count C T L w (by omega) O
  have k2 := kX3_count th C A L2 hV w (by omega)
  rw [← e] at k1 k2
  exact cs_count hR hS hE i kc ks hk hs hi hN (k1) (k2) (fun _ => pk_uLs) (K _ _ _ _ _ _ _ hV')
set_option maxHeartbeats 2000000 in
theorem ds_pass {G : aG} {B N : Nat} {xs : Nat → Int32} (hR : aRm G = RW) (hS : aScr 100 N xs G) {hg : List (Nat × Nat × Nat × Nat)} (hE : aEx hg G) (th : Int32) (C T A : CS) (L L2 : Nat → Int32) (O : Nat → Int64) (i kc ks : Nat) (hV : VC B C) (hB : B + 96 < 2 ^ 31) (hk : kc + 127 ≤ 619416) (hs : ks + 907 ≤ 7237855) (hi : i + 4 ≤ N) (hN : N ≤ 2048)
    (K : ∀ (th' : Int32) (C' T' A' : CS) (L' L2' : Nat → Int32) (O' : Nat → Int64), VC (B + 96) C' → AW G MW (hW th' C' T' A' L' L2' O') (kc + 127) (ks + 907) 1099 [(4, .int (nI i)), (3, .ref 52), (2, .ref 28), (1, .ref 0), (0, .ref 100)] []) : AW G MW (hW th C T A L L2 O) kc ks 716 [(4, .int (nI i)), (3, .ref 52), (2, .ref 28), (1, .ref 0), (0, .ref 100)] [] := by
  have hV' : VC (B + 96) C := VC_mono hV (by omega)
  by_cases p : xs (i + 1) < 1 ∨ ¬ xs (i + 1) ≤ 96
  · exact cs_pass hR hS hE i kc ks hk hs hi hN (kL_pass_x1 C T L _  p O) (kX3_pass_b1 th C A L2 hV _  (in3_or' p)) (fun z => absurd z (by decide)) (K _ _ _ _ _ _ _ hV')
  have pa : ¬ xs (i + 1) < 1 := fun z => p (.inl z)
  have pb : xs (i + 1) ≤ 96 := Classical.not_not.mp fun z => p (.inr z)
  exact cs_pass hR hS hE i kc ks hk hs hi hN (kL_pass C T L _ pa pb O) (kX3_pass th C A L2 hV hB _ (in3_ok pa pb)) (fun _ => pk_uLs) (K _ _ _ _ _ _ _ (VC_L hV))
set_option maxHeartbeats 2000000 in
theorem ds_way {G : aG} {B N : Nat} {xs : Nat → Int32} (hR : aRm G = RW) (hS : aScr 100 N xs G) {hg : List (Nat × Nat × Nat × Nat)} (hE : aEx hg G) (th : Int32) (C T A : CS) (L L2 : Nat → Int32) (O : Nat → Int64) (i kc ks : Nat) (hV : VC B C) (hB : B + 96 < 2 ^ 31) (hk : kc + 127 ≤ 619416) (hs : ks + 907 ≤ 7237855) (hi : i + 4 ≤ N) (hN : N ≤ 2048)
    (K : ∀ (th' : Int32) (C' T' A' : CS) (L' L2' : Nat → Int32) (O' : Nat → Int64), VC (B + 96) C' → AW G MW (hW th' C' T' A' L' L2' O') (kc + 127) (ks + 907) 1099 [(4, .int (nI i)), (3, .ref 52), (2, .ref 28), (1, .ref 0), (0, .ref 100)] []) : AW G MW (hW th C T A L L2 O) kc ks 772 [(4, .int (nI i)), (3, .ref 52), (2, .ref 28), (1, .ref 0), (0, .ref 100)] [] := by
  have hV' : VC (B + 96) C := VC_mono hV (by omega)
  by_cases ha : sCr (xs (i + 1)) = 0
  · exact cs_way hR hS hE i kc ks hk hs hi hN (kL_way_x1 C T L _ _ ha O) (kX3_way_b1 th C A L2 hV _ _ ha) (fun z => absurd z (by decide)) (K _ _ _ _ _ _ _ hV')
  by_cases hb : sCr (xs (i + 2)) = 0
  · exact cs_way hR hS hE i kc ks hk hs hi hN (kL_way_x2 C T L _ _ ha hb O) (kX3_way_b2 th C A L2 hV _ _ ha hb) (fun z => absurd z (by decide)) (K _ _ _ _ _ _ _ hV')
  exact cs_way hR hS hE i kc ks hk hs hi hN (kL_way C T L _ _ ha hb O) (kX3_way th C A L2 hV _ _ ha hb) (fun _ => pk_uLs.trans (congrArg Int32.toInt64 (way_same (VC_rg hV) ha hb))) (K _ _ _ _ _ _ _ hV')
set_option maxHeartbeats 2000000 in
theorem ds_earns {G : aG} {B N : Nat} {xs : Nat → Int32} (hR : aRm G = RW) (hS : aScr 100 N xs G) {hg : List (Nat × Nat × Nat × Nat)} (hE : aEx hg G) (th : Int32) (C T A : CS) (L L2 : Nat → Int32) (O : Nat → Int64) (i kc ks : Nat) (hV : VC B C) (hB : B + 96 < 2 ^ 31) (hk : kc + 127 ≤ 619416) (hs : ks + 907 ≤ 7237855) (hi : i + 4 ≤ N) (hN : N ≤ 2048)
    (K : ∀ (th' : Int32) (C' T' A' : CS) (L' L2' : Nat → Int32) (O' : Nat → Int64), VC (B + 96) C' → AW G MW (hW th' C' T' A' L' L2' O') (kc + 127) (ks + 907) 1099 [(4, .int (nI i)), (3, .ref 52), (2, .ref 28), (1, .ref 0), (0, .ref 100)] []) : AW G MW (hW th C T A L L2 O) kc ks 840 [(4, .int (nI i)), (3, .ref 52), (2, .ref 28), (1, .ref 0), (0, .ref 100)] [] := by
  have hV' : VC (B + 96) C := VC_mono hV (by omega)
  by_cases hw : sSw (xs (i + 1)) C.2.2.2.2.2.2.2.2.2.2.2.2.1 = 0
  · exact cs_earns hR hS hE i kc ks hk hs hi hN (kL_earns_x1 C T L _ _ hw O) (kX3_earns_b1 th C A L2 hV _ _ hw) (fun z => absurd z (by decide)) (K _ _ _ _ _ _ _ hV')
  by_cases p : xs (i + 2) < 1 ∨ ¬ xs (i + 2) ≤ 96
  · exact cs_earns hR hS hE i kc ks hk hs hi hN (kL_earns_x2 C T L _ _ hw p O) (kX3_earns_b2 th C A L2 hV _ _ hw (in3_or' p)) (fun z => absurd z (by decide)) (K _ _ _ _ _ _ _ hV')
  have pa : ¬ xs (i + 2) < 1 := fun z => p (.inl z)
  have pb : xs (i + 2) ≤ 96 := Classical.not_not.mp fun z => p (.inr z)
  exact cs_earns hR hS hE i kc ks hk hs hi hN (kL_earns C T L _ _ hw pa pb O) (kX3_earns th C A L2 hV hB _ _ hw (in3_ok pa pb)) (fun _ => pk_uLs) (K _ _ _ _ _ _ _ hV')
set_option maxHeartbeats 2000000 in
theorem ds_advise {G : aG} {B N : Nat} {xs : Nat → Int32} (hR : aRm G = RW) (hS : aScr 100 N xs G) {hg : List (Nat × Nat × Nat × Nat)} (hE : aEx hg G) (th : Int32) (C T A : CS) (L L2 : Nat → Int32) (O : Nat → Int64) (i kc ks : Nat) (hV : VC B C) (hB : B + 96 < 2 ^ 31) (hk : kc + 127 ≤ 619416) (hs : ks + 907 ≤ 7237855) (hi : i + 4 ≤ N) (hN : N ≤ 2048)
    (K : ∀ (th' : Int32) (C' T' A' : CS) (L' L2' : Nat → Int32) (O' : Nat → Int64), VC (B + 96) C' → AW G MW (hW th' C' T' A' L' L2' O') (kc + 127) (ks + 907) 1099 [(4, .int (nI i)), (3, .ref 52), (2, .ref 28), (1, .ref 0), (0, .ref 100)] []) : AW G MW (hW th C T A L L2 O) kc ks 908 [(4, .int (nI i)), (3, .ref 52), (2, .ref 28), (1, .ref 0), (0, .ref 100)] [] := by
  have hV' : VC (B + 96) C := VC_mono hV (by omega)
  by_cases hw : sSw (xs (i + 1)) C.2.2.2.2.2.2.2.2.2.2.2.2.1 = 0
  · exact cs_advise hR hS hE i kc ks hk hs hi hN (kL_advise_x1 C T L _ _ hw O) (kX3_advise_b1 th C A L2 hV _ _ hw) (fun z => absurd z (by decide)) (K _ _ _ _ _ _ _ hV')
  by_cases p : xs (i + 2) < 1 ∨ ¬ xs (i + 2) ≤ 96
  · exact cs_advise hR hS hE i kc ks hk hs hi hN (kL_advise_x2 C T L _ _ hw p O) (kX3_advise_b2 th C A L2 hV _ _ hw (in3_or' p)) (fun z => absurd z (by decide)) (K _ _ _ _ _ _ _ hV')
  have pa : ¬ xs (i + 2) < 1 := fun z => p (.inl z)
  have pb : xs (i + 2) ≤ 96 := Classical.not_not.mp fun z => p (.inr z)
  exact cs_advise hR hS hE i kc ks hk hs hi hN (kL_advise C T L _ _ hw pa pb O) (kX3_advise th C A L2 hV hB _ _ hw (in3_ok pa pb)) (fun _ => pk_uLs) (K _ _ _ _ _ _ _ hV')
set_option maxHeartbeats 2000000 in
theorem ds_foresee {G : aG} {B N : Nat} {xs : Nat → Int32} (hR : aRm G = RW) (hS : aScr 100 N xs G) {hg : List (Nat × Nat × Nat × Nat)} (hE : aEx hg G) (th : Int32) (C T A : CS) (L L2 : Nat → Int32) (O : Nat → Int64) (i kc ks : Nat) (hV : VC B C) (hB : B + 96 < 2 ^ 31) (hk : kc + 127 ≤ 619416) (hs : ks + 907 ≤ 7237855) (hi : i + 4 ≤ N) (hN : N ≤ 2048)
    (K : ∀ (th' : Int32) (C' T' A' : CS) (L' L2' : Nat → Int32) (O' : Nat → Int64), VC (B + 96) C' → AW G MW (hW th' C' T' A' L' L2' O') (kc + 127) (ks + 907) 1099 [(4, .int (nI i)), (3, .ref 52), (2, .ref 28), (1, .ref 0), (0, .ref 100)] []) : AW G MW (hW th C T A L L2 O) kc ks 976 [(4, .int (nI i)), (3, .ref 52), (2, .ref 28), (1, .ref 0), (0, .ref 100)] [] := by
  have hV' : VC (B + 96) C := VC_mono hV (by omega)
  by_cases p : xs (i + 1) < 1 ∨ ¬ xs (i + 1) ≤ 96
  · exact cs_foresee hR hS hE i kc ks hk hs hi hN (kL_foresee_x1 C T L _ _  p O) (kX3_foresee_b1 th C A L2 hV _ _  (in3_or' p)) (fun z => absurd z (by decide)) (K _ _ _ _ _ _ _ hV')
  have pa : ¬ xs (i + 1) < 1 := fun z => p (.inl z)
  have pb : xs (i + 1) ≤ 96 := Classical.not_not.mp fun z => p (.inr z)
  by_cases q : xs (i + 2) < 0 ∨ ¬ xs (i + 2) < 3
  · exact cs_foresee hR hS hE i kc ks hk hs hi hN (kL_foresee_x2 C T L _ _ pa pb q O) (kX3_foresee_b2 th C A L2 hV _ _ (in3_ok pa pb) (in3_or (by decide) q)) (fun z => absurd z (by decide)) (K _ _ _ _ _ _ _ hV')
  have qa : ¬ xs (i + 2) < 0 := fun z => q (.inl z)
  have qb : xs (i + 2) < 3 := Classical.not_not.mp fun z => q (.inr z)
  obtain ⟨w, hw8, e⟩ := nI_of2 (n := 2) rfl qa ((lt_le (M := 2) (by decide)).mp qb)
  have k1 := kL_foresee C T L (xs (i + 1)) pa pb w (by omega) O
  have k2 := kX3_foresee th C A L2 hV hB (xs (i + 1)) (in3_ok pa pb) w (by omega)
  rw [← e] at k1 k2
  exact cs_foresee hR hS hE i kc ks hk hs hi hN (k1) (k2) (fun _ => pk_uLs) (K _ _ _ _ _ _ _ hV')
set_option maxHeartbeats 2000000 in
theorem ds_mean {G : aG} {B N : Nat} {xs : Nat → Int32} (hR : aRm G = RW) (hS : aScr 100 N xs G) {hg : List (Nat × Nat × Nat × Nat)} (hE : aEx hg G) (th : Int32) (C T A : CS) (L L2 : Nat → Int32) (O : Nat → Int64) (i kc ks : Nat) (hV : VC B C) (hB : B + 96 < 2 ^ 31) (hk : kc + 127 ≤ 619416) (hs : ks + 907 ≤ 7237855) (hi : i + 4 ≤ N) (hN : N ≤ 2048)
    (K : ∀ (th' : Int32) (C' T' A' : CS) (L' L2' : Nat → Int32) (O' : Nat → Int64), VC (B + 96) C' → AW G MW (hW th' C' T' A' L' L2' O') (kc + 127) (ks + 907) 1099 [(4, .int (nI i)), (3, .ref 52), (2, .ref 28), (1, .ref 0), (0, .ref 100)] []) : AW G MW (hW th C T A L L2 O) kc ks 1044 [(4, .int (nI i)), (3, .ref 52), (2, .ref 28), (1, .ref 0), (0, .ref 100)] [] := by
  have hV' : VC (B + 96) C := VC_mono hV (by omega)
  have k1 := kX1_mean C T L (VC_mean hV)
  have k2 := kX3_mean th C A L2 hV (VC_mean hV)
  have hz : FP.dcmp (FP.ddiv (FP.i2d (sSum C.1 9)) 4621256167635550208) (FP.ddiv (FP.i2d (sSum C.1 9)) 4621256167635550208) = some .eq := VC_dcmp hV
  generalize FP.ddiv (FP.i2d (sSum C.1 9)) 4621256167635550208 = z at k1 k2 hz
  refine AW.blk (amw14 0) 0 1 (h' := hW th C T A L L2 O) (pc' := 1045) (lv' := [(4, .int (nI i)), (3, .ref 52), (2, .ref 28), (1, .ref 0), (0, .ref 100)]) (st' := [.ref 0]) (L := []) rfl trivial ?_
  refine AW.lawM (amw14 0) 1 k1 rfl ykX1_mean yiX1_mean yvX1_mean mlL_115 rfl rfl rfl rfl hR ⟨by decide, by decide, by show kc + 0 ≤ 619416; omega, by show ks + 0 ≤ 7237855; omega⟩ (fun _ => rfl) (st' := [.double z]) rfl ?_
  refine AW.blk (amw14 0) 2 2 (h' := hW th C T A L L2 O) (pc' := 1051) (lv' := [(5, .double z), (4, .int (nI i)), (3, .ref 52), (2, .ref 28), (1, .ref 0), (0, .ref 100)]) (st' := [.ref 28]) (L := []) rfl trivial ?_
  refine AW.lawX (amw14 0) 4 k2 (hM_len _ _ _) rfl ykX3_mean yiX3_mean yvX3_mean mlL_119 rfl rfl rfl rfl hR ⟨by decide, by decide, by show kc + 0 + 0 ≤ 619416; omega, by show ks + 0 + 0 ≤ 7237855; omega⟩ (fun _ => rfl) (st' := [.double z]) rfl ?_
  refine AW.blk (amw14 0) 5 3 (h' := hM C T L ++ (hX 0 C A L2).map (rE S2 []) ++ [aL 1 O]) (pc' := 1060) (lv' := [(7, .double z), (5, .double z), (4, .int (nI i)), (3, .ref 52), (2, .ref 28), (1, .ref 0), (0, .ref 100)]) (st' := [.double z, .double z]) (L := []) rfl trivial ?_
  refine AW.dcmpL (amw14 0) 8 rfl ?_
  rw [hz]
  refine AW.br (amw14 0) 9 (tgt := 1082) (C := (0 : Int32) = 0) (C' := ¬ (0 : Int32) = 0) (st' := []) rfl rfl rfl (fun _ => ?_) (fun c => absurd rfl c)
  exact AW.blk (amw14 0) 20 1 (h' := hM C T L ++ (hX 0 C A L2).map (rE S2 []) ++ [aL 1 O]) (pc' := 1099) (lv' := [(7, .double z), (5, .double z), (4, .int (nI i)), (3, .ref 52), (2, .ref 28), (1, .ref 0), (0, .ref 100)]) (st' := []) (L := []) rfl trivial (AW.pick [2, 3, 4, 5, 6] rfl (AW.widen (by show kc + 0 + 0 ≤ kc + 127; omega) (by show ks + 0 + 0 ≤ ks + 907; omega) (K 0 C T A L L2 O hV')))
set_option maxHeartbeats 2000000 in
theorem ds_digest {G : aG} {B N : Nat} {xs : Nat → Int32} (hR : aRm G = RW) (hS : aScr 100 N xs G) {hg : List (Nat × Nat × Nat × Nat)} (hE : aEx hg G) (th : Int32) (C T A : CS) (L L2 : Nat → Int32) (O : Nat → Int64) (i kc ks : Nat) (hV : VC B C) (hB : B + 96 < 2 ^ 31) (hk : kc + 127 ≤ 619416) (hs : ks + 907 ≤ 7237855) (hi : i + 4 ≤ N) (hN : N ≤ 2048)
    (K : ∀ (th' : Int32) (C' T' A' : CS) (L' L2' : Nat → Int32) (O' : Nat → Int64), VC (B + 96) C' → AW G MW (hW th' C' T' A' L' L2' O') (kc + 127) (ks + 907) 1099 [(4, .int (nI i)), (3, .ref 52), (2, .ref 28), (1, .ref 0), (0, .ref 100)] []) : AW G MW (hW th C T A L L2 O) kc ks 1085 [(4, .int (nI i)), (3, .ref 52), (2, .ref 28), (1, .ref 0), (0, .ref 100)] [] := by
  have hV' : VC (B + 96) C := VC_mono hV (by omega)
  refine AW.blk (amw15 0) 0 1 (h' := hW th C T A L L2 O) (pc' := 1086) (lv' := [(4, .int (nI i)), (3, .ref 52), (2, .ref 28), (1, .ref 0), (0, .ref 100)]) (st' := [.ref 0]) (L := []) rfl trivial ?_
  refine AW.lawM (amw15 0) 1 (kX1_digest C T L) rfl ykX1_digest yiX1_digest yvX1_digest mlL_120 rfl rfl rfl rfl hR ⟨by decide, by decide, by show kc + 0 ≤ 619416; omega, by show ks + 0 ≤ 7237855; omega⟩ (fun _ => rfl) (st' := [.long (sDig C)]) rfl ?_
  refine AW.blk (amw15 0) 2 1 (h' := hW th C T A L L2 O) (pc' := 1090) (lv' := [(4, .int (nI i)), (3, .ref 52), (2, .ref 28), (1, .ref 0), (0, .ref 100)]) (st' := [.ref 28, .long (sDig C)]) (L := []) rfl trivial ?_
  refine AW.lawX (amw15 0) 3 (kX3_digest th C A L2 hV) (hM_len _ _ _) rfl ykX3_digest yiX3_digest yvX3_digest mlL_124 rfl rfl rfl rfl hR ⟨by decide, by decide, by show kc + 0 + 126 ≤ 619416; omega, by show ks + 0 + 900 ≤ 7237855; omega⟩ (fun _ => rfl) (st' := [.long (sDig C), .long (sDig C)]) rfl ?_
  refine AW.lcmpE (amw15 0) 4 rfl rfl ?_
  refine AW.br (amw15 0) 5 (tgt := 1099) (C := (0 : Int32) = 0) (C' := ¬ (0 : Int32) = 0) (st' := []) rfl rfl rfl (fun _ => ?_) (fun c => absurd rfl c)
  exact AW.widen (by show kc + 0 + 126 ≤ kc + 127; omega) (by show ks + 0 + 900 ≤ ks + 907; omega) (K 0 C T A L L2 O hV')
