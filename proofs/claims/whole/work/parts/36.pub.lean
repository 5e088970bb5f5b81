set_option maxHeartbeats 2000000 in
theorem c_imageOf0 {d : Nat} (hd : 1 ≤ d) {hi : mm_HI} {τ : mm_T} {sw : Bool} (hτ : τ.1 = mm_hr sw) : wA d yX10_imageOf [.ref 0, .int (nI 0)] hi τ 39 := by
  refine w_intro (by omega) M_X10_imageOf (Nat.le_of_ble_eq_true rfl) rfl ?_
  intro e X he G
  show X 0 [some (.ref (0)), some (.int (nI (0)))] [] hi τ 125
  refine q_iload_n G (pc := 0) dX10_imageOf_0 rfl ?_
  refine q_if_neN (tgt := 11) G (pc := 1) dX10_imageOf_1 (by decide) (by omega) (fun c1 => absurd c1 (by decide)) (fun _ => ?_)
  refine q_aload_n G (pc := 4) dX10_imageOf_4 rfl ?_
  refine q_getR (x := 39) G (pc := 5) dX10_imageOf_5 fl_X10_33_9 rfl (hg hτ (hf_9_4 rfl)) ?_
  refine q_goto (tgt := 15) G (pc := 8) dX10_imageOf_8 (by decide) ?_
  refine q_aret G (pc := 15) dX10_imageOf_15 rfl ?_
  exact ⟨rfl, rfl, rfl⟩
set_option maxHeartbeats 2000000 in
theorem c_imageOf1 {d : Nat} (hd : 1 ≤ d) {hi : mm_HI} {τ : mm_T} {sw : Bool} (hτ : τ.1 = mm_hr sw) : wA d yX10_imageOf [.ref 0, .int (nI 1)] hi τ 63 := by
  refine w_intro (by omega) M_X10_imageOf (Nat.le_of_ble_eq_true rfl) rfl ?_
  intro e X he G
  show X 0 [some (.ref (0)), some (.int (nI (1)))] [] hi τ 125
  refine q_iload_n G (pc := 0) dX10_imageOf_0 rfl ?_
  refine q_if_neN (tgt := 11) G (pc := 1) dX10_imageOf_1 (by decide) (by omega) (fun _ => ?_) (fun c1 => absurd c1 (by decide))
  refine q_aload_n G (pc := 11) dX10_imageOf_11 rfl ?_
  refine q_getR (x := 63) G (pc := 12) dX10_imageOf_12 fl_X10_36_9 rfl (hg hτ (hf_9_5 rfl)) ?_
  refine q_aret G (pc := 15) dX10_imageOf_15 rfl ?_
  exact ⟨rfl, rfl, rfl⟩
theorem kp_or : ∀ kp, kp < 4 → ∀ i, i < 2 → (kp ||| 2 ^ i) < 4 ∧ ∀ j, j < 2 → (kp ||| 2 ^ i) / 2 ^ j % 2 = if j = i then 1 else kp / 2 ^ j % 2 := by decide +kernel
theorem cS.img {P : PG} {n : Nat} {f : Nat → Nat} {t K : Nat} {pn : Nat → Nat} {pf : Nat → Nat → Nat} {pt : Nat → Nat} {im : Nat → Option DK} {sl : List (Nat × Nat)} {N : Nat} {b : Nat → Nat} {tr : Int64} {x y : mm_HI} {τ : mm_T} (hC : cS P n f t K pn pf pt im sl N b tr x τ) {i kp : Nat} (hi2 : i < 2) (hk : kp < 4) (hkx : x 0 6 = nI kp) (hky : y 0 6 = nI (kp ||| 2 ^ i)) (h0 : ∀ k, k ≠ 6 → y 0 k = x 0 k) (hf : ∀ c, c ≠ 0 → c < 39 + 24 * i ∨ 63 + 24 * i ≤ c → y c = x c) (hd : deskF y (39 + 24 * i) n f t K pn pf pt) : cS P n f t K pn pf pt (fun j => if j = i then some (n, f, t, K, pn, pf, pt) else im j) sl N b tr y τ := by
  obtain ⟨sw, nx, nd, hτ, hS, hD, hV, hI, hIV, hN, hNO, hT, hFl, hE, hTr⟩ := hC
  have h7 := ly7 (ly_sh sw)
  obtain ⟨q1, q2⟩ := kp_or kp hk i hi2
  refine ⟨sw, nx, nd, hτ, hS.keep (fun c h1 h2 => hf c (by omega) (by omega)), hD.keep (fun c h1 h2 => hf c (by omega) (by omega)), hV, ⟨kp ||| 2 ^ i, q1, hky, fun j hj => ?_⟩, fun j D hD2 => ?_, ⟨by rw [h0 7 (by decide)]; exact hN.1, by rw [h0 8 (by decide)]; exact hN.2.1, by rw [h0 9 (by decide)]; exact hN.2.2⟩, hNO, hT.keep (by rw [hf 1 (by omega) (by omega)]) (hf 2 (by omega) (by omega)), ?_, hE.keep (hf 95 (by omega) (by omega)), hTr⟩
  · by_cases e : j = i
    · subst e
      exact Or.inr ⟨_, if_pos rfl, by rw [q2 j hj, if_pos rfl], hd⟩
    · rw [q2 j hj, if_neg e, show (fun j => if j = i then some (n, f, t, K, pn, pf, pt) else im j) j = im j from if_neg e]
      obtain ⟨kp2, k1, k2, k3⟩ := hI
      have ek : kp2 = kp := (nI_eq (by omega) (by omega)).mp (k2.symm.trans hkx)
      subst ek
      rcases k3 j hj with z | ⟨D, z1, z2, z3⟩
      · exact Or.inl z
      · exact Or.inr ⟨D, z1, z2, deskF.keep z3 (fun c h1 h2 => hf c (by omega) (by omega))⟩
  · by_cases e : j = i
    · rw [show (fun j => if j = i then some (n, f, t, K, pn, pf, pt) else im j) j = some (n, f, t, K, pn, pf, pt) from if_pos e] at hD2
      cases hD2
      exact hV
    · rw [show (fun j => if j = i then some (n, f, t, K, pn, pf, pt) else im j) j = im j from if_neg e] at hD2
      exact hIV j D hD2
  · obtain ⟨f1, f2, f3, f4, f5, f6⟩ := hFl
    exact ⟨by rw [hf 88 (by omega) (by omega)]; exact f1, by rw [hf 88 (by omega) (by omega)]; exact f2, by rw [hf 95 (by omega) (by omega)]; exact f3, by rw [hf 95 (by omega) (by omega)]; exact f4, by rw [hf 99 (by omega) (by omega)]; exact f5, by rw [hf 99 (by omega) (by omega)]; exact f6⟩
set_option maxHeartbeats 2000000 in
theorem c_keep {d : Nat} (hd : 4 ≤ d) {hi : mm_HI} {τ : mm_T} {P : PG} {n : Nat} {f : Nat → Nat} {t K : Nat} {pn : Nat → Nat} {pf : Nat → Nat → Nat} {pt : Nat → Nat} {im : Nat → Option DK} {sl : List (Nat × Nat)} {N : Nat} {b : Nat → Nat} {tr : Int64} (hC : cS P n f t K pn pf pt im sl N b tr hi τ) {x : Int32} : wR d yX10_keep [.ref 0, .int x] hi τ (CQ (zKeep (mkT P n f t K pn pf pt im sl N b tr) (ix x 2)) hi τ) := by
  refine w_intro (by omega) M_X10_keep (Nat.le_of_ble_eq_true rfl) rfl ?_
  intro e X he G
  show X 0 [some (.ref (0)), some (.int (x))] [] hi τ 125
  obtain ⟨sw, nx, nd, hτ, hS, hD, hV, hI, hIV, hN, hNO, hT, hFl, hE, hTr⟩ := id hC
  have hS6 := hS.2.2.2.1.2.2.1
  have hL3 : pL P ≤ 3 := hS.2.2.2.1.2.1
  have hn6 := hD.1.2.2.2.1
  have hRw : rowF hi 16 n f t := hD.1
  have hfs : ∀ j, j < n → f j < pS P := hV.1.1
  refine q_iload_n G (pc := 0) dX10_keep_0 rfl ?_
  refine q_if_lt (tgt := 9) G (pc := 1) dX10_keep_1 (by decide) (fun c1 => ?_) (fun c1 => ?_)
  · refine q_iconst (v := -1) G (pc := 9) dX10_keep_9 (by decide) ?_
    refine q_iret G (pc := 10) dX10_keep_10 (Or.inl rfl) ?_
    exact CQ.of (by rw [ix_none (ix_n0 (by decide) c1)]; rfl) (hC.post scr.rf _)
  · refine q_iload_n G (pc := 4) dX10_keep_4 rfl ?_
    refine q_iconst (v := nI 2) G (pc := 5) dX10_keep_5 (by decide) ?_
    refine q_icmp_lt (tgt := 11) G (pc := 6) dX10_keep_6 (by decide) (fun c6 => ?_) (fun c6 => ?_)
    · obtain ⟨i, hi2, rfl⟩ := ix_lt (n := 2) (by decide) c1 (nlt_1 (by decide) c6)
      have h01 : i = 0 ∨ i = 1 := by omega
      obtain ⟨kp, k1, k2, k3⟩ := id hI
      rcases h01 with rfl | rfl
      · refine q_aload_n G (pc := 11) dX10_keep_11 rfl ?_
        refine q_iload_n G (pc := 12) dX10_keep_12 rfl ?_
        refine q_cV1A G (pc := 13) dX10_keep_13 cv_X10_280 rfl (c_imageOf0 (by omega) hτ) (Nat.le_of_ble_eq_true rfl) ?_
        refine q_aload_n G (pc := 16) dX10_keep_16 rfl ?_
        refine q_getR (x := 15) G (pc := 17) dX10_keep_17 fl_X10_29_9 rfl (hg hτ (hf_9_3 rfl)) ?_
        refine q_cV1V G (pc := 20) dX10_keep_20 cv_X10_284 rfl (s_X1_copy (by omega) hτ (dk := 39) (q := 15) rfl rfl (by omega) hD) (Nat.le_of_ble_eq_true rfl) ?_
        intro hk hx
        obtain ⟨x1, x2⟩ := hx
        refine q_aload_n G (pc := 23) dX10_keep_23 rfl ?_
        refine q_dup G (pc := 24) dX10_keep_24 rfl ?_
        refine q_getI (v := nI (kp)) G (pc := 25) dX10_keep_25 fl_X10_103_9 (by decide) rfl (by rw [x2 0 (by omega)]; exact k2) ?_
        refine q_iconst (v := 1) G (pc := 28) dX10_keep_28 (by decide) ?_
        refine q_iload_n G (pc := 29) dX10_keep_29 rfl ?_
        refine q_ishl G (pc := 30) dX10_keep_30 ?_
        rw [(show (1 : Int32) <<< (nI 0 &&& 31) = nI (2 ^ 0) by decide)]
        refine q_ior G (pc := 31) dX10_keep_31 ?_
        rw [or_nI]
        refine q_putI G (pc := 32) dX10_keep_32 fl_X10_103_9 rfl ?_
        refine q_aload_n G (pc := 35) dX10_keep_35 rfl ?_
        refine q_getR (x := 15) G (pc := 36) dX10_keep_36 fl_X10_29_9 rfl (hg hτ (hf_9_3 rfl)) ?_
        refine q_getR (x := 16) G (pc := 39) dX10_keep_39 fl_X10_109_1 rfl (hg hτ (hf_1_0 rfl)) ?_
        refine q_getI (v := nI (n)) G (pc := 42) dX10_keep_42 fl_X10_182_6 (by decide) rfl (by simp [va_up]; rw [x2 16 (by omega)]; exact hRw.1) ?_
        refine q_iret G (pc := 45) dX10_keep_45 (Or.inl rfl) ?_
        have e : zKeep (mkT P n f t K pn pf pt im sl N b tr) (ix (nI 0) 2) = (mkT P n f t K pn pf pt (fun j => if j = 0 then some (n, f, t, K, pn, pf, pt) else im j) sl N b tr, nI n) := by rw [ix_some (s := 0) (n := 2) (by decide) (by decide)]; rfl
        exact CQ.mk e (hC.img (i := 0) (by decide) k1 k2 (by simp [va_up]) (fun k hk => by simp [va_up, hk]; rw [x2 0 (by omega)]) (fun c h1 h2 => by simp [va_up, h1]; exact x2 c (by omega)) (x1.keep (fun c h1 h2 => by simp [va_up, show c ≠ 0 by omega]))) (fun c hc => by simp [va_up, show c ≠ 0 by omega]; exact x2 c (by omega)) rfl
      · refine q_aload_n G (pc := 11) dX10_keep_11 rfl ?_
        refine q_iload_n G (pc := 12) dX10_keep_12 rfl ?_
        refine q_cV1A G (pc := 13) dX10_keep_13 cv_X10_280 rfl (c_imageOf1 (by omega) hτ) (Nat.le_of_ble_eq_true rfl) ?_
        refine q_aload_n G (pc := 16) dX10_keep_16 rfl ?_
        refine q_getR (x := 15) G (pc := 17) dX10_keep_17 fl_X10_29_9 rfl (hg hτ (hf_9_3 rfl)) ?_
        refine q_cV1V G (pc := 20) dX10_keep_20 cv_X10_284 rfl (s_X1_copy (by omega) hτ (dk := 63) (q := 15) rfl rfl (by omega) hD) (Nat.le_of_ble_eq_true rfl) ?_
        intro hk hx
        obtain ⟨x1, x2⟩ := hx
        refine q_aload_n G (pc := 23) dX10_keep_23 rfl ?_
        refine q_dup G (pc := 24) dX10_keep_24 rfl ?_
        refine q_getI (v := nI (kp)) G (pc := 25) dX10_keep_25 fl_X10_103_9 (by decide) rfl (by rw [x2 0 (by omega)]; exact k2) ?_
        refine q_iconst (v := 1) G (pc := 28) dX10_keep_28 (by decide) ?_
        refine q_iload_n G (pc := 29) dX10_keep_29 rfl ?_
        refine q_ishl G (pc := 30) dX10_keep_30 ?_
        rw [(show (1 : Int32) <<< (nI 1 &&& 31) = nI (2 ^ 1) by decide)]
        refine q_ior G (pc := 31) dX10_keep_31 ?_
        rw [or_nI]
        refine q_putI G (pc := 32) dX10_keep_32 fl_X10_103_9 rfl ?_
        refine q_aload_n G (pc := 35) dX10_keep_35 rfl ?_
        refine q_getR (x := 15) G (pc := 36) dX10_keep_36 fl_X10_29_9 rfl (hg hτ (hf_9_3 rfl)) ?_
        refine q_getR (x := 16) G (pc := 39) dX10_keep_39 fl_X10_109_1 rfl (hg hτ (hf_1_0 rfl)) ?_
        refine q_getI (v := nI (n)) G (pc := 42) dX10_keep_42 fl_X10_182_6 (by decide) rfl (by simp [va_up]; rw [x2 16 (by omega)]; exact hRw.1) ?_
        refine q_iret G (pc := 45) dX10_keep_45 (Or.inl rfl) ?_
        have e : zKeep (mkT P n f t K pn pf pt im sl N b tr) (ix (nI 1) 2) = (mkT P n f t K pn pf pt (fun j => if j = 1 then some (n, f, t, K, pn, pf, pt) else im j) sl N b tr, nI n) := by rw [ix_some (s := 1) (n := 2) (by decide) (by decide)]; rfl
        exact CQ.mk e (hC.img (i := 1) (by decide) k1 k2 (by simp [va_up]) (fun k hk => by simp [va_up, hk]; rw [x2 0 (by omega)]) (fun c h1 h2 => by simp [va_up, h1]; exact x2 c (by omega)) (x1.keep (fun c h1 h2 => by simp [va_up, show c ≠ 0 by omega]))) (fun c hc => by simp [va_up, show c ≠ 0 by omega]; exact x2 c (by omega)) rfl
    · refine q_iconst (v := -1) G (pc := 9) dX10_keep_9 (by decide) ?_
      refine q_iret G (pc := 10) dX10_keep_10 (Or.inl rfl) ?_
      exact CQ.of (by rw [ix_none (ix_nn (by decide) (nlt_2 (by decide) c6))]; rfl) (hC.post scr.rf _)
set_option maxHeartbeats 2000000 in
theorem c_back {d : Nat} (hd : 4 ≤ d) {hi : mm_HI} {τ : mm_T} {P : PG} {n : Nat} {f : Nat → Nat} {t K : Nat} {pn : Nat → Nat} {pf : Nat → Nat → Nat} {pt : Nat → Nat} {im : Nat → Option DK} {sl : List (Nat × Nat)} {N : Nat} {b : Nat → Nat} {tr : Int64} (hC : cS P n f t K pn pf pt im sl N b tr hi τ) {x : Int32} : wR d yX10_back [.ref 0, .int x] hi τ (CQ (zBack (mkT P n f t K pn pf pt im sl N b tr) (ix x 2)) hi τ) := by
  refine w_intro (by omega) M_X10_back (Nat.le_of_ble_eq_true rfl) rfl ?_
  intro e X he G
  show X 0 [some (.ref (0)), some (.int (x))] [] hi τ 125
  obtain ⟨sw, nx, nd, hτ, hS, hD, hV, hI, hIV, hN, hNO, hT, hFl, hE, hTr⟩ := id hC
  have hS6 := hS.2.2.2.1.2.2.1
  have hL3 : pL P ≤ 3 := hS.2.2.2.1.2.1
  have hn6 := hD.1.2.2.2.1
  have hRw : rowF hi 16 n f t := hD.1
  have hfs : ∀ j, j < n → f j < pS P := hV.1.1
  refine q_iload_n G (pc := 0) dX10_back_0 rfl ?_
  refine q_if_lt (tgt := 9) G (pc := 1) dX10_back_1 (by decide) (fun c1 => ?_) (fun c1 => ?_)
  · refine q_iconst (v := -1) G (pc := 9) dX10_back_9 (by decide) ?_
    refine q_iret G (pc := 10) dX10_back_10 (Or.inl rfl) ?_
    exact CQ.of (by rw [ix_none (ix_n0 (by decide) c1)]; rfl) (hC.post scr.rf _)
  · refine q_iload_n G (pc := 4) dX10_back_4 rfl ?_
    refine q_iconst (v := nI 2) G (pc := 5) dX10_back_5 (by decide) ?_
    refine q_icmp_lt (tgt := 11) G (pc := 6) dX10_back_6 (by decide) (fun c6 => ?_) (fun c6 => ?_)
    · obtain ⟨i, hi2, rfl⟩ := ix_lt (n := 2) (by decide) c1 (nlt_1 (by decide) c6)
      obtain ⟨kp, k1, k2, k3⟩ := id hI
      refine q_aload_n G (pc := 11) dX10_back_11 rfl ?_
      refine q_getI (v := nI (kp)) G (pc := 12) dX10_back_12 fl_X10_103_9 (by decide) rfl k2 ?_
      refine q_iload_n G (pc := 15) dX10_back_15 rfl ?_
      refine q_ishr G (pc := 16) dX10_back_16 ?_
      refine q_iconst (v := 1) G (pc := 17) dX10_back_17 (by decide) ?_
      refine q_iand G (pc := 18) dX10_back_18 ?_
      rw [bit_at kp (by omega) i (by omega)]
      have hbb := bit_lt2 kp i
      refine q_if_neN (tgt := 25) G (pc := 19) dX10_back_19 (by decide) (by omega) (fun c19 => ?_) (fun c19 => ?_)
      · have h01 : i = 0 ∨ i = 1 := by omega
        rcases h01 with rfl | rfl
        · rcases k3 0 (by decide) with ⟨z1, z2⟩ | ⟨⟨n2, f2, t2, K2, pn2, pf2, pt2⟩, z1, z2, z3⟩
          · exact absurd z2 c19
          refine q_aload_n G (pc := 25) dX10_back_25 rfl ?_
          refine q_getR (x := 15) G (pc := 26) dX10_back_26 fl_X10_29_9 rfl (hg hτ (hf_9_3 rfl)) ?_
          refine q_aload_n G (pc := 29) dX10_back_29 rfl ?_
          refine q_iload_n G (pc := 30) dX10_back_30 rfl ?_
          refine q_cV1A G (pc := 31) dX10_back_31 cv_X10_280 rfl (c_imageOf0 (by omega) hτ) (Nat.le_of_ble_eq_true rfl) ?_
          refine q_cV1V G (pc := 34) dX10_back_34 cv_X10_284 rfl (s_X1_copy (by omega) hτ (dk := 15) (q := 39) rfl rfl (by omega) z3) (Nat.le_of_ble_eq_true rfl) ?_
          intro hk hx
          obtain ⟨x1, x2⟩ := hx
          refine q_aload_n G (pc := 37) dX10_back_37 rfl ?_
          refine q_getR (x := 15) G (pc := 38) dX10_back_38 fl_X10_29_9 rfl (hg hτ (hf_9_3 rfl)) ?_
          refine q_getR (x := 16) G (pc := 41) dX10_back_41 fl_X10_109_1 rfl (hg hτ (hf_1_0 rfl)) ?_
          refine q_getI (v := nI (n2)) G (pc := 44) dX10_back_44 fl_X10_182_6 (by decide) rfl x1.1.1 ?_
          refine q_iret G (pc := 47) dX10_back_47 (Or.inl rfl) ?_
          have e : zBack (mkT P n f t K pn pf pt im sl N b tr) (ix (nI 0) 2) = (mkT P n2 f2 t2 K2 pn2 pf2 pt2 im sl N b tr, nI n2) := by
            rw [ix_some (s := 0) (n := 2) (by decide) (by decide)]
            simp only [zBack]
            rw [show gI (mkT P n f t K pn pf pt im sl N b tr) 0 = _ from z1]
          exact CQ.mk e (hC.dsk x2 x1 (hIV 0 _ z1)) (fun c hc => x2 c (by omega)) rfl
        · rcases k3 1 (by decide) with ⟨z1, z2⟩ | ⟨⟨n2, f2, t2, K2, pn2, pf2, pt2⟩, z1, z2, z3⟩
          · exact absurd z2 c19
          refine q_aload_n G (pc := 25) dX10_back_25 rfl ?_
          refine q_getR (x := 15) G (pc := 26) dX10_back_26 fl_X10_29_9 rfl (hg hτ (hf_9_3 rfl)) ?_
          refine q_aload_n G (pc := 29) dX10_back_29 rfl ?_
          refine q_iload_n G (pc := 30) dX10_back_30 rfl ?_
          refine q_cV1A G (pc := 31) dX10_back_31 cv_X10_280 rfl (c_imageOf1 (by omega) hτ) (Nat.le_of_ble_eq_true rfl) ?_
          refine q_cV1V G (pc := 34) dX10_back_34 cv_X10_284 rfl (s_X1_copy (by omega) hτ (dk := 15) (q := 63) rfl rfl (by omega) z3) (Nat.le_of_ble_eq_true rfl) ?_
          intro hk hx
          obtain ⟨x1, x2⟩ := hx
          refine q_aload_n G (pc := 37) dX10_back_37 rfl ?_
          refine q_getR (x := 15) G (pc := 38) dX10_back_38 fl_X10_29_9 rfl (hg hτ (hf_9_3 rfl)) ?_
          refine q_getR (x := 16) G (pc := 41) dX10_back_41 fl_X10_109_1 rfl (hg hτ (hf_1_0 rfl)) ?_
          refine q_getI (v := nI (n2)) G (pc := 44) dX10_back_44 fl_X10_182_6 (by decide) rfl x1.1.1 ?_
          refine q_iret G (pc := 47) dX10_back_47 (Or.inl rfl) ?_
          have e : zBack (mkT P n f t K pn pf pt im sl N b tr) (ix (nI 1) 2) = (mkT P n2 f2 t2 K2 pn2 pf2 pt2 im sl N b tr, nI n2) := by
            rw [ix_some (s := 1) (n := 2) (by decide) (by decide)]
            simp only [zBack]
            rw [show gI (mkT P n f t K pn pf pt im sl N b tr) 1 = _ from z1]
          exact CQ.mk e (hC.dsk x2 x1 (hIV 1 _ z1)) (fun c hc => x2 c (by omega)) rfl
      · refine q_bipush (v := -2) G (pc := 22) dX10_back_22 (by decide) ?_
        refine q_iret G (pc := 24) dX10_back_24 (Or.inl rfl) ?_
        rcases k3 i hi2 with ⟨z1, z2⟩ | ⟨D, z1, z2, z3⟩
        · exact CQ.of (by rw [ix_some hi2 (by decide)]; simp only [zBack]; rw [show gI (mkT P n f t K pn pf pt im sl N b tr) i = none from z1]) (hC.post scr.rf _)
        · omega
    · refine q_iconst (v := -1) G (pc := 9) dX10_back_9 (by decide) ?_
      refine q_iret G (pc := 10) dX10_back_10 (Or.inl rfl) ?_
      exact CQ.of (by rw [ix_none (ix_nn (by decide) (nlt_2 (by decide) c6))]; rfl) (hC.post scr.rf _)
set_option maxHeartbeats 2000000 in
theorem c_count {d : Nat} (hd : 1 ≤ d) {hi : mm_HI} {τ : mm_T} {P : PG} {n : Nat} {f : Nat → Nat} {t K : Nat} {pn : Nat → Nat} {pf : Nat → Nat → Nat} {pt : Nat → Nat} {im : Nat → Option DK} {sl : List (Nat × Nat)} {N : Nat} {b : Nat → Nat} {tr : Int64} (hC : cS P n f t K pn pf pt im sl N b tr hi τ) {x : Int32} : wR d yX10_count [.ref 0, .int x] hi τ (CQ (zCount (mkT P n f t K pn pf pt im sl N b tr) (ix x 6)) hi τ) := by
  refine w_intro (by omega) M_X10_count (Nat.le_of_ble_eq_true rfl) rfl ?_
  intro e X he G
  show X 0 [some (.ref (0)), some (.int (x))] [] hi τ 125
  obtain ⟨sw, nx, nd, hτ, hS, hD, hV, hI, hIV, hN, hNO, hT, hFl, hE, hTr⟩ := id hC
  have hS6 := hS.2.2.2.1.2.2.1
  have hL3 : pL P ≤ 3 := hS.2.2.2.1.2.1
  have hn6 := hD.1.2.2.2.1
  have hRw : rowF hi 16 n f t := hD.1
  have hfs : ∀ j, j < n → f j < pS P := hV.1.1
  refine q_iload_n G (pc := 0) dX10_count_0 rfl ?_
  rcases tab5 (x) with k1 | k1 | k1 | k1 | k1 | k1 | k1
  · refine q_tableOut (tgt := 85) G (pc := 1) dX10_count_1 (k1) (by decide) ?_
    refine q_iconst (v := -1) G (pc := 85) dX10_count_85 (by decide) ?_
    refine q_iret G (pc := 86) dX10_count_86 (Or.inl rfl) ?_
    exact CQ.of (by rw [ix_none (tab_n (n := 5) (by decide) k1)]; rfl) (hC.post scr.rf _)
  · subst k1
    refine q_tableIn (off := 39) (tgt := 40) G (pc := 1) dX10_count_1 (by decide) (by decide) (by decide) (by decide) ?_
    refine q_aload_n G (pc := 40) dX10_count_40 rfl ?_
    refine q_getR (x := mm_sh sw) G (pc := 41) dX10_count_41 fl_X10_19_9 rfl (hg hτ (hf_sh sw)) ?_
    refine q_getI (v := nI (pL P)) G (pc := 44) dX10_count_44 fl_X10_288_7 (by decide) (ly_sh sw) hS.1 ?_
    refine q_iret G (pc := 47) dX10_count_47 (Or.inl rfl) ?_
    exact CQ.of (by rw [ix_some (s := 0) (n := 6) (by decide) (by decide)]; rfl) (hC.post scr.rf _)
  · subst k1
    refine q_tableIn (off := 47) (tgt := 48) G (pc := 1) dX10_count_1 (by decide) (by decide) (by decide) (by decide) ?_
    refine q_aload_n G (pc := 48) dX10_count_48 rfl ?_
    refine q_getR (x := mm_sh sw) G (pc := 49) dX10_count_49 fl_X10_19_9 rfl (hg hτ (hf_sh sw)) ?_
    refine q_getI (v := nI (pS P)) G (pc := 52) dX10_count_52 fl_X10_90_7 (by decide) (ly_sh sw) hS.2.1 ?_
    refine q_iret G (pc := 55) dX10_count_55 (Or.inl rfl) ?_
    exact CQ.of (by rw [ix_some (s := 1) (n := 6) (by decide) (by decide)]; rfl) (hC.post scr.rf _)
  · subst k1
    refine q_tableIn (off := 55) (tgt := 56) G (pc := 1) dX10_count_1 (by decide) (by decide) (by decide) (by decide) ?_
    refine q_aload_n G (pc := 56) dX10_count_56 rfl ?_
    refine q_getR (x := mm_sh sw) G (pc := 57) dX10_count_57 fl_X10_19_9 rfl (hg hτ (hf_sh sw)) ?_
    refine q_getI (v := nI ((pW P).length)) G (pc := 60) dX10_count_60 fl_X10_145_7 (by decide) (ly_sh sw) hS.2.2.1 ?_
    refine q_iret G (pc := 63) dX10_count_63 (Or.inl rfl) ?_
    exact CQ.of (by rw [ix_some (s := 2) (n := 6) (by decide) (by decide)]; rfl) (hC.post scr.rf _)
  · subst k1
    refine q_tableIn (off := 63) (tgt := 64) G (pc := 1) dX10_count_1 (by decide) (by decide) (by decide) (by decide) ?_
    refine q_aload_n G (pc := 64) dX10_count_64 rfl ?_
    refine q_getI (v := nI (sl.length)) G (pc := 65) dX10_count_65 fl_X10_245_9 (by decide) rfl hN.1 ?_
    refine q_iret G (pc := 68) dX10_count_68 (Or.inl rfl) ?_
    exact CQ.of (by rw [ix_some (s := 3) (n := 6) (by decide) (by decide)]; rfl) (hC.post scr.rf _)
  · subst k1
    refine q_tableIn (off := 68) (tgt := 69) G (pc := 1) dX10_count_1 (by decide) (by decide) (by decide) (by decide) ?_
    refine q_aload_n G (pc := 69) dX10_count_69 rfl ?_
    refine q_getR (x := 15) G (pc := 70) dX10_count_70 fl_X10_29_9 rfl (hg hτ (hf_9_3 rfl)) ?_
    refine q_getI (v := nI (K)) G (pc := 73) dX10_count_73 fl_X10_191_1 (by decide) rfl hD.2.1 ?_
    refine q_iret G (pc := 76) dX10_count_76 (Or.inl rfl) ?_
    exact CQ.of (by rw [ix_some (s := 4) (n := 6) (by decide) (by decide)]; rfl) (hC.post scr.rf _)
  · subst k1
    refine q_tableIn (off := 76) (tgt := 77) G (pc := 1) dX10_count_1 (by decide) (by decide) (by decide) (by decide) ?_
    refine q_aload_n G (pc := 77) dX10_count_77 rfl ?_
    refine q_getR (x := 1) G (pc := 78) dX10_count_78 fl_X10_10_9 rfl (hg hτ (hf_9_0 rfl)) ?_
    refine q_getI (v := nI (N)) G (pc := 81) dX10_count_81 fl_X10_78_8 (by decide) rfl hT.1 ?_
    refine q_iret G (pc := 84) dX10_count_84 (Or.inl rfl) ?_
    exact CQ.of (by rw [ix_some (s := 5) (n := 6) (by decide) (by decide)]; rfl) (hC.post scr.rf _)
set_option maxHeartbeats 2000000 in
theorem c_trace {d : Nat} (hd : 1 ≤ d) {hi : mm_HI} {τ : mm_T} {P : PG} {n : Nat} {f : Nat → Nat} {t K : Nat} {pn : Nat → Nat} {pf : Nat → Nat → Nat} {pt : Nat → Nat} {im : Nat → Option DK} {sl : List (Nat × Nat)} {N : Nat} {b : Nat → Nat} {tr : Int64} (hC : cS P n f t K pn pf pt im sl N b tr hi τ) : wR d yX10_trace [.ref 0] hi τ (fun v h t2 => v = some (.long tr) ∧ h = hi ∧ t2 = τ) := by
  refine w_intro (by omega) M_X10_trace (Nat.le_of_ble_eq_true rfl) rfl ?_
  intro e X he G
  show X 0 [some (.ref (0))] [] hi τ 125
  obtain ⟨sw, nx, nd, hτ, hS, hD, hV, hI, hIV, hN, hNO, hT, hFl, hE, hTr⟩ := id hC
  have hS6 := hS.2.2.2.1.2.2.1
  have hL3 : pL P ≤ 3 := hS.2.2.2.1.2.1
  have hn6 := hD.1.2.2.2.1
  have hRw : rowF hi 16 n f t := hD.1
  have hfs : ∀ j, j < n → f j < pS P := hV.1.1
  refine q_aload_n G (pc := 0) dX10_trace_0 rfl ?_
  refine q_getL G (pc := 1) dX10_trace_1 fl_X10_291_9 rfl ?_
  refine q_lret G (pc := 4) dX10_trace_4 rfl ?_
  exact ⟨by rw [hTr], rfl, rfl⟩
