set_option maxHeartbeats 2000000 in
theorem c_strip {d : Nat} (hd : 15 ≤ d) {hi : mm_HI} {τ : mm_T} {P : PG} {n : Nat} {f : Nat → Nat} {t K : Nat} {pn : Nat → Nat} {pf : Nat → Nat → Nat} {pt : Nat → Nat} {im : Nat → Option DK} {sl : List (Nat × Nat)} {N : Nat} {b : Nat → Nat} {tr : Int64} (hC : cS P n f t K pn pf pt im sl N b tr hi τ) {x : Int32} {y : Int32} : wR d yX10_strip [.ref 0, .int x, .int y] hi τ (CQ (zStrip (mkT P n f t K pn pf pt im sl N b tr) (ix x (pS P)) (ix y 4)) hi τ) := by
  refine w_intro (by omega) M_X10_strip (Nat.le_of_ble_eq_true rfl) rfl ?_
  intro e X he G
  show X 0 [some (.ref (0)), some (.int (x)), some (.int (y))] [] hi τ 125
  obtain ⟨sw, nx, nd, hτ, hS, hD, hV, hI, hIV, hN, hNO, hT, hFl, hE, hTr⟩ := id hC
  have hS6 := hS.2.2.2.1.2.2.1
  have hL3 : pL P ≤ 3 := hS.2.2.2.1.2.1
  have hn6 := hD.1.2.2.2.1
  have hRw : rowF hi 16 n f t := hD.1
  have hfs : ∀ j, j < n → f j < pS P := hV.1.1
  refine q_aload_n G (pc := 0) dX10_strip_0 rfl ?_
  refine q_iload_n G (pc := 1) dX10_strip_1 rfl ?_
  refine q_cV1B G (pc := 2) dX10_strip_2 cv_X10_106 rfl (c_isStrip (by omega) hC) (Nat.le_of_ble_eq_true rfl) (fun c2 => ?_) (fun c2 => ?_)
  · obtain ⟨s, hs, rfl⟩ := c2
    refine q_if_neN (tgt := 10) G (pc := 5) dX10_strip_5 (by decide) (by omega) (fun _ => ?_) (fun c5 => absurd c5 (by decide))
    refine q_iload_n G (pc := 10) dX10_strip_10 rfl ?_
    rcases tab3 (y) with k11 | k11 | k11 | k11 | k11
    · refine q_tableOut (tgt := 101) G (pc := 11) dX10_strip_11 (k11) (by decide) ?_
      refine q_iconst (v := -1) G (pc := 101) dX10_strip_101 (by decide) ?_
      refine q_iret G (pc := 102) dX10_strip_102 (Or.inl rfl) ?_
      exact CQ.of (by rw [ix_some hs (by omega), ix_none (tab_n (n := 3) (by decide) k11)]; rfl) (hC.post scr.rf _)
    · subst k11
      refine q_tableIn (off := 29) (tgt := 40) G (pc := 11) dX10_strip_11 (by decide) (by decide) (by decide) (by decide) ?_
      refine q_aload_n G (pc := 40) dX10_strip_40 rfl ?_
      refine q_getR (x := 15) G (pc := 41) dX10_strip_41 fl_X10_29_9 rfl (hg hτ (hf_9_3 rfl)) ?_
      refine q_getR (x := 16) G (pc := 44) dX10_strip_44 fl_X10_109_1 rfl (hg hτ (hf_1_0 rfl)) ?_
      refine q_iload_n G (pc := 47) dX10_strip_47 rfl ?_
      refine q_cV1E G (pc := 48) dX10_strip_48 cv_X10_112 rfl (s_X6_placeOf (by omega) hτ (r := 16) rfl hRw (s := s) (by omega)) (Nat.le_of_ble_eq_true rfl) ?_
      refine q_iret G (pc := 51) dX10_strip_51 (Or.inl rfl) ?_
      exact CQ.of (by rw [ix_some hs (by omega), ix_some (s := 0) (n := 4) (by decide) (by decide)]; rfl) (hC.post scr.rf _)
    · subst k11
      refine q_tableIn (off := 41) (tgt := 52) G (pc := 11) dX10_strip_11 (by decide) (by decide) (by decide) (by decide) ?_
      refine q_aload_n G (pc := 52) dX10_strip_52 rfl ?_
      refine q_getR (x := 15) G (pc := 53) dX10_strip_53 fl_X10_29_9 rfl (hg hτ (hf_9_3 rfl)) ?_
      refine q_getR (x := 16) G (pc := 56) dX10_strip_56 fl_X10_109_1 rfl (hg hτ (hf_1_0 rfl)) ?_
      refine q_iload_n G (pc := 59) dX10_strip_59 rfl ?_
      refine q_cV1E G (pc := 60) dX10_strip_60 cv_X10_116 rfl (s_X6_wayOf (by omega) hτ (r := 16) rfl hRw (s := s) (by omega)) (Nat.le_of_ble_eq_true rfl) ?_
      refine q_iret G (pc := 63) dX10_strip_63 (Or.inl rfl) ?_
      exact CQ.of (by rw [ix_some hs (by omega), ix_some (s := 1) (n := 4) (by decide) (by decide)]; rfl) (hC.post scr.rf _)
    · subst k11
      refine q_tableIn (off := 53) (tgt := 64) G (pc := 11) dX10_strip_11 (by decide) (by decide) (by decide) (by decide) ?_
      refine q_aload_n G (pc := 64) dX10_strip_64 rfl ?_
      refine q_getR (x := mm_sh sw) G (pc := 65) dX10_strip_65 fl_X10_19_9 rfl (hg hτ (hf_sh sw)) ?_
      refine q_iload_n G (pc := 68) dX10_strip_68 rfl ?_
      refine q_cV1E G (pc := 69) dX10_strip_69 cv_X10_119 (ly_sh sw) (s_X7_lettersOn (by omega) hτ (ly_sh sw) hS hs) (Nat.le_of_ble_eq_true rfl) ?_
      refine q_iret G (pc := 72) dX10_strip_72 (Or.inl rfl) ?_
      exact CQ.of (by rw [ix_some hs (by omega), ix_some (s := 2) (n := 4) (by decide) (by decide)]; rfl) (hC.post scr.rf _)
    · subst k11
      refine q_tableIn (off := 62) (tgt := 73) G (pc := 11) dX10_strip_11 (by decide) (by decide) (by decide) (by decide) ?_
      refine q_aload_n G (pc := 73) dX10_strip_73 rfl ?_
      refine q_getR (x := 88) G (pc := 74) dX10_strip_74 fl_X10_49_9 rfl (hg hτ (hf_9_12 rfl)) ?_
      refine q_aload_n G (pc := 77) dX10_strip_77 rfl ?_
      refine q_getR (x := mm_sh sw) G (pc := 78) dX10_strip_78 fl_X10_19_9 rfl (hg hτ (hf_sh sw)) ?_
      refine q_aload_n G (pc := 81) dX10_strip_81 rfl ?_
      refine q_getR (x := 15) G (pc := 82) dX10_strip_82 fl_X10_29_9 rfl (hg hτ (hf_9_3 rfl)) ?_
      refine q_getR (x := 16) G (pc := 85) dX10_strip_85 fl_X10_109_1 rfl (hg hτ (hf_1_0 rfl)) ?_
      refine q_cU2V G (pc := 88) dX10_strip_88 cu_X10_122_5 rfl (c_search5 (by omega) hτ hS hFl (Or.inl rfl) hRw hV.1) (Nat.le_of_ble_eq_true rfl) ?_
      intro hk hx
      obtain ⟨x1, x2, x3, x4, x5, x6⟩ := hx
      refine q_aload_n G (pc := 91) dX10_strip_91 rfl ?_
      refine q_getR (x := 88) G (pc := 92) dX10_strip_92 fl_X10_49_9 rfl (hg hτ (hf_9_12 rfl)) ?_
      refine q_getR (x := 92) G (pc := 95) dX10_strip_95 fl_X10_126_5 rfl (hg hτ (hf_5_7 rfl)) ?_
      refine q_iload_n G (pc := 98) dX10_strip_98 rfl ?_
      refine q_iald (j := s) (v := (roA P n f t).2.2.2 s) G (pc := 99) dX10_strip_99 rfl rfl (by omega) (x4 s (by omega)) ?_
      refine q_iret G (pc := 100) dX10_strip_100 (Or.inl rfl) ?_
      exact CQ.of (by rw [ix_some hs (by omega), ix_some (s := 3) (n := 4) (by decide) (by decide)]; rfl) (hC.post x5 _)
  · refine q_if_neN (tgt := 10) G (pc := 5) dX10_strip_5 (by decide) (by omega) (fun c5 => absurd c5 (by decide)) (fun _ => ?_)
    refine q_iconst (v := -1) G (pc := 8) dX10_strip_8 (by decide) ?_
    refine q_iret G (pc := 9) dX10_strip_9 (Or.inl rfl) ?_
    exact CQ.of (by rw [ix_none c2]; rfl) (hC.post scr.rf _)
set_option maxHeartbeats 2000000 in
theorem c_sign {d : Nat} (hd : 4 ≤ d) {hi : mm_HI} {τ : mm_T} {P : PG} {n : Nat} {f : Nat → Nat} {t K : Nat} {pn : Nat → Nat} {pf : Nat → Nat → Nat} {pt : Nat → Nat} {im : Nat → Option DK} {sl : List (Nat × Nat)} {N : Nat} {b : Nat → Nat} {tr : Int64} (hC : cS P n f t K pn pf pt im sl N b tr hi τ) {x : Int32} {y : Int32} {z : Int32} : wR d yX10_sign [.ref 0, .int x, .int y, .int z] hi τ (CQ (zSign (mkT P n f t K pn pf pt im sl N b tr) (ix x (pS P)) (ix y (pL P)) (ix z 2)) hi τ) := by
  refine w_intro (by omega) M_X10_sign (Nat.le_of_ble_eq_true rfl) rfl ?_
  intro e X he G
  show X 0 [some (.ref (0)), some (.int (x)), some (.int (y)), some (.int (z))] [] hi τ 125
  obtain ⟨sw, nx, nd, hτ, hS, hD, hV, hI, hIV, hN, hNO, hT, hFl, hE, hTr⟩ := id hC
  have hS6 := hS.2.2.2.1.2.2.1
  have hL3 : pL P ≤ 3 := hS.2.2.2.1.2.1
  have hn6 := hD.1.2.2.2.1
  have hRw : rowF hi 16 n f t := hD.1
  have hfs : ∀ j, j < n → f j < pS P := hV.1.1
  refine q_aload_n G (pc := 0) dX10_sign_0 rfl ?_
  refine q_iload_n G (pc := 1) dX10_sign_1 rfl ?_
  refine q_cV1B G (pc := 2) dX10_sign_2 cv_X10_106 rfl (c_isStrip (by omega) hC) (Nat.le_of_ble_eq_true rfl) (fun c2 => ?_) (fun c2 => ?_)
  · obtain ⟨s, hs, rfl⟩ := c2
    refine q_if_eqN (tgt := 25) G (pc := 5) dX10_sign_5 (by decide) (by omega) (fun c5 => absurd c5 (by decide)) (fun _ => ?_)
    refine q_aload_n G (pc := 8) dX10_sign_8 rfl ?_
    refine q_iload_n G (pc := 9) dX10_sign_9 rfl ?_
    refine q_cV1B G (pc := 10) dX10_sign_10 cv_X10_130 rfl (c_isLine (by omega) hC) (Nat.le_of_ble_eq_true rfl) (fun c10 => ?_) (fun c10 => ?_)
    · obtain ⟨l, hl, rfl⟩ := c10
      refine q_if_eqN (tgt := 25) G (pc := 13) dX10_sign_13 (by decide) (by omega) (fun c13 => absurd c13 (by decide)) (fun _ => ?_)
      refine q_iload_n G (pc := 16) dX10_sign_16 rfl ?_
      refine q_if_lt (tgt := 25) G (pc := 17) dX10_sign_17 (by decide) (fun c17 => ?_) (fun c17 => ?_)
      · refine q_iconst (v := -1) G (pc := 25) dX10_sign_25 (by decide) ?_
        refine q_iret G (pc := 26) dX10_sign_26 (Or.inl rfl) ?_
        exact CQ.of (by rw [ix_some hs (by omega), ix_some hl (by omega), ix_none (ix_n0 (by decide) c17)]; rfl) (hC.post scr.rf _)
      · refine q_iload_n G (pc := 20) dX10_sign_20 rfl ?_
        refine q_iconst (v := nI 1) G (pc := 21) dX10_sign_21 (by decide) ?_
        refine q_icmp_le (tgt := 27) G (pc := 22) dX10_sign_22 (by decide) (fun c22 => ?_) (fun c22 => ?_)
        · obtain ⟨i, hi2, rfl⟩ := ix_lt (n := 2) (by decide) c17 (nle_1 (by decide) c22)
          refine q_aload_n G (pc := 27) dX10_sign_27 rfl ?_
          refine q_getR (x := mm_sh sw) G (pc := 28) dX10_sign_28 fl_X10_19_9 rfl (hg hτ (hf_sh sw)) ?_
          refine q_iload_n G (pc := 31) dX10_sign_31 rfl ?_
          refine q_iconst (v := nI 0) G (pc := 32) dX10_sign_32 (by decide) ?_
          refine q_iload_n G (pc := 33) dX10_sign_33 rfl ?_
          refine q_iload_n G (pc := 34) dX10_sign_34 rfl ?_
          refine q_cV4E G (pc := 35) dX10_sign_35 cv_X10_133 (ly_sh sw) (s_X7_shown (by omega) hτ (ly_sh sw) hS (s := s) (w := 0) (l := l) (i := i) hs (by omega) hl hi2) (Nat.le_of_ble_eq_true rfl) ?_
          refine q_cS1E G (pc := 38) dX10_sign_38 cs_X10_137 (c_byteOf (by omega) (shW_le hS.2.2.2.1 _ _ _ _)) (Nat.le_of_ble_eq_true rfl) ?_
          refine q_iret G (pc := 41) dX10_sign_41 (Or.inl rfl) ?_
          exact CQ.of (by rw [ix_some hs (by omega), ix_some hl (by omega), ix_some hi2 (by decide)]; rfl) (hC.post scr.rf _)
        · refine q_iconst (v := -1) G (pc := 25) dX10_sign_25 (by decide) ?_
          refine q_iret G (pc := 26) dX10_sign_26 (Or.inl rfl) ?_
          exact CQ.of (by rw [ix_some hs (by omega), ix_some hl (by omega), ix_none (ix_nn (by decide) (nle_2 (by decide) c22))]; rfl) (hC.post scr.rf _)
    · refine q_if_eqN (tgt := 25) G (pc := 13) dX10_sign_13 (by decide) (by omega) (fun _ => ?_) (fun c13 => absurd c13 (by decide))
      refine q_iconst (v := -1) G (pc := 25) dX10_sign_25 (by decide) ?_
      refine q_iret G (pc := 26) dX10_sign_26 (Or.inl rfl) ?_
      exact CQ.of (by rw [ix_some hs (by omega), ix_none c10]; rfl) (hC.post scr.rf _)
  · refine q_if_eqN (tgt := 25) G (pc := 5) dX10_sign_5 (by decide) (by omega) (fun _ => ?_) (fun c5 => absurd c5 (by decide))
    refine q_iconst (v := -1) G (pc := 25) dX10_sign_25 (by decide) ?_
    refine q_iret G (pc := 26) dX10_sign_26 (Or.inl rfl) ?_
    exact CQ.of (by rw [ix_none c2]; rfl) (hC.post scr.rf _)
set_option maxHeartbeats 2000000 in
theorem c_place {d : Nat} (hd : 3 ≤ d) {hi : mm_HI} {τ : mm_T} {P : PG} {n : Nat} {f : Nat → Nat} {t K : Nat} {pn : Nat → Nat} {pf : Nat → Nat → Nat} {pt : Nat → Nat} {im : Nat → Option DK} {sl : List (Nat × Nat)} {N : Nat} {b : Nat → Nat} {tr : Int64} (hC : cS P n f t K pn pf pt im sl N b tr hi τ) {x : Int32} : wR d yX10_place [.ref 0, .int x] hi τ (CQ (zPlace (mkT P n f t K pn pf pt im sl N b tr) (ix x n)) hi τ) := by
  refine w_intro (by omega) M_X10_place (Nat.le_of_ble_eq_true rfl) rfl ?_
  intro e X he G
  show X 0 [some (.ref (0)), some (.int (x))] [] hi τ 125
  obtain ⟨sw, nx, nd, hτ, hS, hD, hV, hI, hIV, hN, hNO, hT, hFl, hE, hTr⟩ := id hC
  have hS6 := hS.2.2.2.1.2.2.1
  have hL3 : pL P ≤ 3 := hS.2.2.2.1.2.1
  have hn6 := hD.1.2.2.2.1
  have hRw : rowF hi 16 n f t := hD.1
  have hfs : ∀ j, j < n → f j < pS P := hV.1.1
  refine q_aload_n G (pc := 0) dX10_place_0 rfl ?_
  refine q_iload_n G (pc := 1) dX10_place_1 rfl ?_
  refine q_cV1B G (pc := 2) dX10_place_2 cv_X10_140 rfl (c_isPlace (by omega) hC) (Nat.le_of_ble_eq_true rfl) (fun c2 => ?_) (fun c2 => ?_)
  · obtain ⟨p, hp, rfl⟩ := c2
    refine q_if_eqN (tgt := 23) G (pc := 5) dX10_place_5 (by decide) (by omega) (fun c5 => absurd c5 (by decide)) (fun _ => ?_)
    refine q_aload_n G (pc := 8) dX10_place_8 rfl ?_
    refine q_getR (x := 15) G (pc := 9) dX10_place_9 fl_X10_29_9 rfl (hg hτ (hf_9_3 rfl)) ?_
    refine q_getR (x := 16) G (pc := 12) dX10_place_12 fl_X10_109_1 rfl (hg hτ (hf_1_0 rfl)) ?_
    refine q_getR (x := 17) G (pc := 15) dX10_place_15 fl_X10_143_6 rfl (hg hτ (hf_6_0 rfl)) ?_
    refine q_iload_n G (pc := 18) dX10_place_18 rfl ?_
    refine q_iald (j := p) (v := nI (f p)) G (pc := 19) dX10_place_19 rfl rfl (by omega) (hRw.2.2.1 p hp) ?_
    refine q_goto (tgt := 24) G (pc := 20) dX10_place_20 (by decide) ?_
    refine q_iret G (pc := 24) dX10_place_24 (Or.inl rfl) ?_
    exact CQ.of (by rw [ix_some hp (by omega)]; rfl) (hC.post scr.rf _)
  · refine q_if_eqN (tgt := 23) G (pc := 5) dX10_place_5 (by decide) (by omega) (fun _ => ?_) (fun c5 => absurd c5 (by decide))
    refine q_iconst (v := -1) G (pc := 23) dX10_place_23 (by decide) ?_
    refine q_iret G (pc := 24) dX10_place_24 (Or.inl rfl) ?_
    exact CQ.of (by rw [ix_none c2]; rfl) (hC.post scr.rf _)
set_option maxHeartbeats 2000000 in
theorem c_word {d : Nat} (hd : 3 ≤ d) {hi : mm_HI} {τ : mm_T} {P : PG} {n : Nat} {f : Nat → Nat} {t K : Nat} {pn : Nat → Nat} {pf : Nat → Nat → Nat} {pt : Nat → Nat} {im : Nat → Option DK} {sl : List (Nat × Nat)} {N : Nat} {b : Nat → Nat} {tr : Int64} (hC : cS P n f t K pn pf pt im sl N b tr hi τ) {x : Int32} {y : Int32} : wR d yX10_word [.ref 0, .int x, .int y] hi τ (CQ (zWord (mkT P n f t K pn pf pt im sl N b tr) (ix x (pW P).length) (ix y 6)) hi τ) := by
  refine w_intro (by omega) M_X10_word (Nat.le_of_ble_eq_true rfl) rfl ?_
  intro e X he G
  show X 0 [some (.ref (0)), some (.int (x)), some (.int (y))] [] hi τ 125
  obtain ⟨sw, nx, nd, hτ, hS, hD, hV, hI, hIV, hN, hNO, hT, hFl, hE, hTr⟩ := id hC
  have hS6 := hS.2.2.2.1.2.2.1
  have hL3 : pL P ≤ 3 := hS.2.2.2.1.2.1
  have hn6 := hD.1.2.2.2.1
  have hRw : rowF hi 16 n f t := hD.1
  have hfs : ∀ j, j < n → f j < pS P := hV.1.1
  have hW8 := hS.2.2.2.1.2.2.2.2.1
  refine q_iload_n G (pc := 0) dX10_word_0 rfl ?_
  refine q_if_lt (tgt := 25) G (pc := 1) dX10_word_1 (by decide) (fun c1 => ?_) (fun c1 => ?_)
  · refine q_iconst (v := -1) G (pc := 25) dX10_word_25 (by decide) ?_
    refine q_iret G (pc := 26) dX10_word_26 (Or.inl rfl) ?_
    exact CQ.of (by rw [ix_none (ix_n0 (by omega) c1)]; rfl) (hC.post scr.rf _)
  · refine q_iload_n G (pc := 4) dX10_word_4 rfl ?_
    refine q_aload_n G (pc := 5) dX10_word_5 rfl ?_
    refine q_getR (x := mm_sh sw) G (pc := 6) dX10_word_6 fl_X10_19_9 rfl (hg hτ (hf_sh sw)) ?_
    refine q_getI (v := nI ((pW P).length)) G (pc := 9) dX10_word_9 fl_X10_145_7 (by decide) (ly_sh sw) hS.2.2.1 ?_
    refine q_icmp_ge (tgt := 25) G (pc := 12) dX10_word_12 (by decide) (fun c12 => ?_) (fun c12 => ?_)
    · refine q_iconst (v := -1) G (pc := 25) dX10_word_25 (by decide) ?_
      refine q_iret G (pc := 26) dX10_word_26 (Or.inl rfl) ?_
      exact CQ.of (by rw [ix_none (ix_nn (by omega) c12)]; rfl) (hC.post scr.rf _)
    · obtain ⟨w, hw, rfl⟩ := ix_lt (by omega) c1 c12
      refine q_iload_n G (pc := 15) dX10_word_15 rfl ?_
      refine q_if_lt (tgt := 25) G (pc := 16) dX10_word_16 (by decide) (fun c16 => ?_) (fun c16 => ?_)
      · refine q_iconst (v := -1) G (pc := 25) dX10_word_25 (by decide) ?_
        refine q_iret G (pc := 26) dX10_word_26 (Or.inl rfl) ?_
        exact CQ.of (by rw [ix_some hw (by omega), ix_none (ix_n0 (by decide) c16)]; rfl) (hC.post scr.rf _)
      · refine q_iload_n G (pc := 19) dX10_word_19 rfl ?_
        refine q_bipush (v := nI 6) G (pc := 20) dX10_word_20 (by decide) ?_
        refine q_icmp_lt (tgt := 27) G (pc := 22) dX10_word_22 (by decide) (fun c22 => ?_) (fun c22 => ?_)
        · obtain ⟨i, hi2, rfl⟩ := ix_lt (n := 6) (by decide) c16 (nlt_1 (by decide) c22)
          obtain ⟨w1, w2⟩ := hS.2.2.2.2.2.1 w hw
          have hwl : ((pW P).getD w []).length ≤ 6 ∧ ∀ c ∈ ((pW P).getD w []), c < 26 := ⟨(hS.2.2.2.1.2.2.2.2.2 _ (by rw [List.getD_eq_getElem?_getD, List.getElem?_eq_getElem hw]; exact List.getElem_mem _)).2.1, (hS.2.2.2.1.2.2.2.2.2 _ (by rw [List.getD_eq_getElem?_getD, List.getElem?_eq_getElem hw]; exact List.getElem_mem _)).2.2⟩
          refine q_iload_n G (pc := 27) dX10_word_27 rfl ?_
          refine q_aload_n G (pc := 28) dX10_word_28 rfl ?_
          refine q_getR (x := mm_sh sw) G (pc := 29) dX10_word_29 fl_X10_19_9 rfl (hg hτ (hf_sh sw)) ?_
          refine q_getR (x := mm_sh sw + 2) G (pc := 32) dX10_word_32 fl_X10_148_7 (ly_sh sw) (hg hτ (hf_7_4 (ly_sh sw))) ?_
          refine q_iload_n G (pc := 35) dX10_word_35 rfl ?_
          refine q_iald (j := w) (v := nI (((pW P).getD w []).length)) G (pc := 36) dX10_word_36 (ly_7_4 (ly_sh sw)) rfl (by omega) w1 ?_
          refine q_icmp_geN (tgt := 60) G (pc := 37) dX10_word_37 (by decide) (by omega) (by omega) (fun c37 => ?_) (fun c37 => ?_)
          · refine q_bipush (v := -9) G (pc := 60) dX10_word_60 (by decide) ?_
            refine q_iret G (pc := 62) dX10_word_62 (Or.inl rfl) ?_
            exact CQ.of (by rw [ix_some hw (by omega), ix_some hi2 (by decide)]; unfold zWord; simp only []; rw [if_neg (show ¬ i < ((pW P).getD w []).length by omega)]) (hC.post scr.rf _)
          · refine q_aload_n G (pc := 40) dX10_word_40 rfl ?_
            refine q_getR (x := mm_sh sw) G (pc := 41) dX10_word_41 fl_X10_19_9 rfl (hg hτ (hf_sh sw)) ?_
            refine q_getR (x := mm_sh sw + 1) G (pc := 44) dX10_word_44 fl_X10_151_7 (ly_sh sw) (hg hτ (hf_7_3 (ly_sh sw))) ?_
            refine q_iload_n G (pc := 47) dX10_word_47 rfl ?_
            refine q_bipush (v := nI 6) G (pc := 48) dX10_word_48 (by decide) ?_
            refine q_imulN G (pc := 50) dX10_word_50 ?_
            refine q_iload_n G (pc := 51) dX10_word_51 rfl ?_
            refine q_iaddN G (pc := 52) dX10_word_52 ?_
            refine q_iald (j := w * 6 + i) (v := nI (((pW P).getD w []).getD i 0)) G (pc := 53) dX10_word_53 (ly_7_3 (ly_sh sw)) rfl (by omega) (w2 i (by omega)) ?_
            refine q_cS1E G (pc := 54) dX10_word_54 cs_X10_137 (c_byteOf (by omega) (by have := hwl.2 _ (getD_mem (u := (pW P).getD w []) (i := i) (by omega)); omega)) (Nat.le_of_ble_eq_true rfl) ?_
            refine q_goto (tgt := 62) G (pc := 57) dX10_word_57 (by decide) ?_
            refine q_iret G (pc := 62) dX10_word_62 (Or.inl rfl) ?_
            exact CQ.of (by rw [ix_some hw (by omega), ix_some hi2 (by decide)]; unfold zWord; simp only []; rw [if_pos (show i < ((pW P).getD w []).length by omega)]) (hC.post scr.rf _)
        · refine q_iconst (v := -1) G (pc := 25) dX10_word_25 (by decide) ?_
          refine q_iret G (pc := 26) dX10_word_26 (Or.inl rfl) ?_
          exact CQ.of (by rw [ix_some hw (by omega), ix_none (ix_nn (by decide) (nlt_2 (by decide) c22))]; rfl) (hC.post scr.rf _)
set_option maxHeartbeats 2000000 in
theorem c_swaps {d : Nat} (hd : 6 ≤ d) {hi : mm_HI} {τ : mm_T} {P : PG} {n : Nat} {f : Nat → Nat} {t K : Nat} {pn : Nat → Nat} {pf : Nat → Nat → Nat} {pt : Nat → Nat} {im : Nat → Option DK} {sl : List (Nat × Nat)} {N : Nat} {b : Nat → Nat} {tr : Int64} (hC : cS P n f t K pn pf pt im sl N b tr hi τ) {x : Int32} {y : Int32} : wR d yX10_swaps [.ref 0, .int x, .int y] hi τ (CQ (zSwaps (mkT P n f t K pn pf pt im sl N b tr) (ix x n) (ix y n)) hi τ) := by
  refine w_intro (by omega) M_X10_swaps (Nat.le_of_ble_eq_true rfl) rfl ?_
  intro e X he G
  show X 0 [some (.ref (0)), some (.int (x)), some (.int (y))] [] hi τ 125
  obtain ⟨sw, nx, nd, hτ, hS, hD, hV, hI, hIV, hN, hNO, hT, hFl, hE, hTr⟩ := id hC
  have hS6 := hS.2.2.2.1.2.2.1
  have hL3 : pL P ≤ 3 := hS.2.2.2.1.2.1
  have hn6 := hD.1.2.2.2.1
  have hRw : rowF hi 16 n f t := hD.1
  have hfs : ∀ j, j < n → f j < pS P := hV.1.1
  refine q_aload_n G (pc := 0) dX10_swaps_0 rfl ?_
  refine q_iload_n G (pc := 1) dX10_swaps_1 rfl ?_
  refine q_cV1B G (pc := 2) dX10_swaps_2 cv_X10_140 rfl (c_isPlace (by omega) hC) (Nat.le_of_ble_eq_true rfl) (fun c2 => ?_) (fun c2 => ?_)
  · obtain ⟨p, hp, rfl⟩ := c2
    refine q_if_eqN (tgt := 21) G (pc := 5) dX10_swaps_5 (by decide) (by omega) (fun c5 => absurd c5 (by decide)) (fun _ => ?_)
    refine q_aload_n G (pc := 8) dX10_swaps_8 rfl ?_
    refine q_iload_n G (pc := 9) dX10_swaps_9 rfl ?_
    refine q_cV1B G (pc := 10) dX10_swaps_10 cv_X10_140 rfl (c_isPlace (by omega) hC) (Nat.le_of_ble_eq_true rfl) (fun c10 => ?_) (fun c10 => ?_)
    · obtain ⟨q, hq, rfl⟩ := c10
      refine q_if_eqN (tgt := 21) G (pc := 13) dX10_swaps_13 (by decide) (by omega) (fun c13 => absurd c13 (by decide)) (fun _ => ?_)
      refine q_iload_n G (pc := 16) dX10_swaps_16 rfl ?_
      refine q_iload_n G (pc := 17) dX10_swaps_17 rfl ?_
      refine q_icmp_neN (tgt := 23) G (pc := 18) dX10_swaps_18 (by decide) (by omega) (by omega) (fun c18 => ?_) (fun c18 => ?_)
      · refine q_aload_n G (pc := 23) dX10_swaps_23 rfl ?_
        refine q_getR (x := 15) G (pc := 24) dX10_swaps_24 fl_X10_29_9 rfl (hg hτ (hf_9_3 rfl)) ?_
        refine q_cV0V G (pc := 27) dX10_swaps_27 cv_X10_154 rfl (s_X1_remember (by omega) hτ (dk := 15) rfl hD) (Nat.le_of_ble_eq_true rfl) ?_
        intro hk hx
        obtain ⟨x1, x2⟩ := hx
        refine q_aload_n G (pc := 30) dX10_swaps_30 rfl ?_
        refine q_getR (x := 15) G (pc := 31) dX10_swaps_31 fl_X10_29_9 rfl (hg hτ (hf_9_3 rfl)) ?_
        refine q_getR (x := 16) G (pc := 34) dX10_swaps_34 fl_X10_109_1 rfl (hg hτ (hf_1_0 rfl)) ?_
        refine q_iload_n G (pc := 37) dX10_swaps_37 rfl ?_
        refine q_iload_n G (pc := 38) dX10_swaps_38 rfl ?_
        refine q_cV2V G (pc := 39) dX10_swaps_39 cv_X10_157 rfl (s_X6_exchange (by omega) hτ (r := 16) rfl x1.1 hp hq) (Nat.le_of_ble_eq_true rfl) ?_
        intro hk2 hy
        obtain ⟨y1, y2⟩ := hy
        have hC2 : cS P n (swpF f p q) t (if K < 10 then K + 1 else 10) (pu K pn n) (pu K pf f) (pu K pt t) im sl N b tr hk2 τ := hC.dsk (x2.trans (frr.row y2 (by omega) (by omega))) ⟨y1, by rw [y2 15 (by simp)]; exact x1.2.1, x1.2.2.1, fun k hk => (x1.2.2.2 k hk).oth y2 (by omega)⟩ (rem_dOK hV (rowV_swp hV.1 hp hq) hD.2.2.1)
        refine q_aload_n G (pc := 42) dX10_swaps_42 rfl ?_
        refine q_cV0I G (pc := 43) dX10_swaps_43 cv_X10_161 rfl (c_rightLines (by omega) hC2) (Nat.le_of_ble_eq_true rfl) ?_
        intro xr hk3 hz
        obtain ⟨rfl, z1⟩ := hz
        refine q_cS1E G (pc := 46) dX10_swaps_46 cs_X10_164 (s_bitCount (by omega) (rlM_lt _ _ _ _ _ (by omega))) (Nat.le_of_ble_eq_true rfl) ?_
        refine q_iret G (pc := 49) dX10_swaps_49 (Or.inl rfl) ?_
        have e : zSwaps (mkT P n f t K pn pf pt im sl N b tr) (ix (nI p) n) (ix (nI q) n) = (mkT P n (swpF f p q) t (if K < 10 then K + 1 else 10) (pu K pn n) (pu K pf f) (pu K pt t) im sl N b tr, nI (pcn (rlM P n (swpF f p q) t (pL P)))) := by rw [ix_some hp (by omega), ix_some hq (by omega)]; exact if_neg c18
        exact CQ.mk e (hC2.sc0 z1) (fun c hc => (z1.1 c (by omega)).trans ((y2 c (by simp; omega)).trans (x2 c (by omega)))) rfl
      · refine q_iconst (v := -1) G (pc := 21) dX10_swaps_21 (by decide) ?_
        refine q_iret G (pc := 22) dX10_swaps_22 (Or.inl rfl) ?_
        exact CQ.of (by rw [ix_some hp (by omega), ix_some hq (by omega)]; exact if_pos c18) (hC.post scr.rf _)
    · refine q_if_eqN (tgt := 21) G (pc := 13) dX10_swaps_13 (by decide) (by omega) (fun _ => ?_) (fun c13 => absurd c13 (by decide))
      refine q_iconst (v := -1) G (pc := 21) dX10_swaps_21 (by decide) ?_
      refine q_iret G (pc := 22) dX10_swaps_22 (Or.inl rfl) ?_
      exact CQ.of (by rw [ix_some hp (by omega), ix_none c10]; rfl) (hC.post scr.rf _)
  · refine q_if_eqN (tgt := 21) G (pc := 5) dX10_swaps_5 (by decide) (by omega) (fun _ => ?_) (fun c5 => absurd c5 (by decide))
    refine q_iconst (v := -1) G (pc := 21) dX10_swaps_21 (by decide) ?_
    refine q_iret G (pc := 22) dX10_swaps_22 (Or.inl rfl) ?_
    exact CQ.of (by rw [ix_none c2]; rfl) (hC.post scr.rf _)
set_option maxHeartbeats 2000000 in
theorem c_moves {d : Nat} (hd : 6 ≤ d) {hi : mm_HI} {τ : mm_T} {P : PG} {n : Nat} {f : Nat → Nat} {t K : Nat} {pn : Nat → Nat} {pf : Nat → Nat → Nat} {pt : Nat → Nat} {im : Nat → Option DK} {sl : List (Nat × Nat)} {N : Nat} {b : Nat → Nat} {tr : Int64} (hC : cS P n f t K pn pf pt im sl N b tr hi τ) {x : Int32} {y : Int32} : wR d yX10_moves [.ref 0, .int x, .int y] hi τ (CQ (zMoves (mkT P n f t K pn pf pt im sl N b tr) (ix x n) (ix y n)) hi τ) := by
  refine w_intro (by omega) M_X10_moves (Nat.le_of_ble_eq_true rfl) rfl ?_
  intro e X he G
  show X 0 [some (.ref (0)), some (.int (x)), some (.int (y))] [] hi τ 125
  obtain ⟨sw, nx, nd, hτ, hS, hD, hV, hI, hIV, hN, hNO, hT, hFl, hE, hTr⟩ := id hC
  have hS6 := hS.2.2.2.1.2.2.1
  have hL3 : pL P ≤ 3 := hS.2.2.2.1.2.1
  have hn6 := hD.1.2.2.2.1
  have hRw : rowF hi 16 n f t := hD.1
  have hfs : ∀ j, j < n → f j < pS P := hV.1.1
  refine q_aload_n G (pc := 0) dX10_moves_0 rfl ?_
  refine q_iload_n G (pc := 1) dX10_moves_1 rfl ?_
  refine q_cV1B G (pc := 2) dX10_moves_2 cv_X10_140 rfl (c_isPlace (by omega) hC) (Nat.le_of_ble_eq_true rfl) (fun c2 => ?_) (fun c2 => ?_)
  · obtain ⟨p, hp, rfl⟩ := c2
    refine q_if_eqN (tgt := 21) G (pc := 5) dX10_moves_5 (by decide) (by omega) (fun c5 => absurd c5 (by decide)) (fun _ => ?_)
    refine q_aload_n G (pc := 8) dX10_moves_8 rfl ?_
    refine q_iload_n G (pc := 9) dX10_moves_9 rfl ?_
    refine q_cV1B G (pc := 10) dX10_moves_10 cv_X10_140 rfl (c_isPlace (by omega) hC) (Nat.le_of_ble_eq_true rfl) (fun c10 => ?_) (fun c10 => ?_)
    · obtain ⟨q, hq, rfl⟩ := c10
      refine q_if_eqN (tgt := 21) G (pc := 13) dX10_moves_13 (by decide) (by omega) (fun c13 => absurd c13 (by decide)) (fun _ => ?_)
      refine q_iload_n G (pc := 16) dX10_moves_16 rfl ?_
      refine q_iload_n G (pc := 17) dX10_moves_17 rfl ?_
      refine q_icmp_neN (tgt := 23) G (pc := 18) dX10_moves_18 (by decide) (by omega) (by omega) (fun c18 => ?_) (fun c18 => ?_)
      · refine q_aload_n G (pc := 23) dX10_moves_23 rfl ?_
        refine q_getR (x := 15) G (pc := 24) dX10_moves_24 fl_X10_29_9 rfl (hg hτ (hf_9_3 rfl)) ?_
        refine q_cV0V G (pc := 27) dX10_moves_27 cv_X10_154 rfl (s_X1_remember (by omega) hτ (dk := 15) rfl hD) (Nat.le_of_ble_eq_true rfl) ?_
        intro hk hx
        obtain ⟨x1, x2⟩ := hx
        refine q_aload_n G (pc := 30) dX10_moves_30 rfl ?_
        refine q_getR (x := 15) G (pc := 31) dX10_moves_31 fl_X10_29_9 rfl (hg hτ (hf_9_3 rfl)) ?_
        refine q_getR (x := 16) G (pc := 34) dX10_moves_34 fl_X10_109_1 rfl (hg hτ (hf_1_0 rfl)) ?_
        refine q_iload_n G (pc := 37) dX10_moves_37 rfl ?_
        refine q_iload_n G (pc := 38) dX10_moves_38 rfl ?_
        refine q_cV2V G (pc := 39) dX10_moves_39 cv_X10_169 rfl (s_X6_carry (by omega) hτ (r := 16) rfl x1.1 hp hq) (Nat.le_of_ble_eq_true rfl) ?_
        intro hk2 hy
        obtain ⟨y1, y2⟩ := hy
        have hC2 : cS P n (fun j => f (crr p q j)) t (if K < 10 then K + 1 else 10) (pu K pn n) (pu K pf f) (pu K pt t) im sl N b tr hk2 τ := hC.dsk (x2.trans (frr.row y2 (by omega) (by omega))) ⟨y1, by rw [y2 15 (by simp)]; exact x1.2.1, x1.2.2.1, fun k hk => (x1.2.2.2 k hk).oth y2 (by omega)⟩ (rem_dOK hV (rowV_crr hV.1 hp hq) hD.2.2.1)
        refine q_aload_n G (pc := 42) dX10_moves_42 rfl ?_
        refine q_cV0I G (pc := 43) dX10_moves_43 cv_X10_161 rfl (c_rightLines (by omega) hC2) (Nat.le_of_ble_eq_true rfl) ?_
        intro xr hk3 hz
        obtain ⟨rfl, z1⟩ := hz
        refine q_cS1E G (pc := 46) dX10_moves_46 cs_X10_164 (s_bitCount (by omega) (rlM_lt _ _ _ _ _ (by omega))) (Nat.le_of_ble_eq_true rfl) ?_
        refine q_iret G (pc := 49) dX10_moves_49 (Or.inl rfl) ?_
        have e : zMoves (mkT P n f t K pn pf pt im sl N b tr) (ix (nI p) n) (ix (nI q) n) = (mkT P n (fun j => f (crr p q j)) t (if K < 10 then K + 1 else 10) (pu K pn n) (pu K pf f) (pu K pt t) im sl N b tr, nI (pcn (rlM P n (fun j => f (crr p q j)) t (pL P)))) := by rw [ix_some hp (by omega), ix_some hq (by omega)]; exact if_neg c18
        exact CQ.mk e (hC2.sc0 z1) (fun c hc => (z1.1 c (by omega)).trans ((y2 c (by simp; omega)).trans (x2 c (by omega)))) rfl
      · refine q_iconst (v := -1) G (pc := 21) dX10_moves_21 (by decide) ?_
        refine q_iret G (pc := 22) dX10_moves_22 (Or.inl rfl) ?_
        exact CQ.of (by rw [ix_some hp (by omega), ix_some hq (by omega)]; exact if_pos c18) (hC.post scr.rf _)
    · refine q_if_eqN (tgt := 21) G (pc := 13) dX10_moves_13 (by decide) (by omega) (fun _ => ?_) (fun c13 => absurd c13 (by decide))
      refine q_iconst (v := -1) G (pc := 21) dX10_moves_21 (by decide) ?_
      refine q_iret G (pc := 22) dX10_moves_22 (Or.inl rfl) ?_
      exact CQ.of (by rw [ix_some hp (by omega), ix_none c10]; rfl) (hC.post scr.rf _)
  · refine q_if_eqN (tgt := 21) G (pc := 5) dX10_moves_5 (by decide) (by omega) (fun _ => ?_) (fun c5 => absurd c5 (by decide))
    refine q_iconst (v := -1) G (pc := 21) dX10_moves_21 (by decide) ?_
    refine q_iret G (pc := 22) dX10_moves_22 (Or.inl rfl) ?_
    exact CQ.of (by rw [ix_none c2]; rfl) (hC.post scr.rf _)
def refO (n : Nat) (f : Nat → Nat) (s : Option Nat) (m : Nat) : Int32 := match s with
  | none => -1
  | some s => match fnd f s n with
    | none => if 0 = m then 0 else -2
    | some _ => if 1 = m then 0 else -2
set_option maxHeartbeats 2000000 in
theorem c_refusalOf {d : Nat} (hd : 2 ≤ d) {hi : mm_HI} {τ : mm_T} {P : PG} {n : Nat} {f : Nat → Nat} {t K : Nat} {pn : Nat → Nat} {pf : Nat → Nat → Nat} {pt : Nat → Nat} {im : Nat → Option DK} {sl : List (Nat × Nat)} {N : Nat} {b : Nat → Nat} {tr : Int64} (hC : cS P n f t K pn pf pt im sl N b tr hi τ) {x : Int32} {m : Nat} (hm : m < 2) : wE d yX10_refusalOf [.ref 0, .int x, .int (nI m)] hi τ (refO n f (ix x (pS P)) m) := by
  refine w_intro (by omega) M_X10_refusalOf (Nat.le_of_ble_eq_true rfl) rfl ?_
  intro e X he G
  show X 0 [some (.ref (0)), some (.int (x)), some (.int (nI (m))), none] [] hi τ 125
  obtain ⟨sw, nx, nd, hτ, hS, hD, hV, hI, hIV, hN, hNO, hT, hFl, hE, hTr⟩ := id hC
  have hS6 := hS.2.2.2.1.2.2.1
  have hL3 : pL P ≤ 3 := hS.2.2.2.1.2.1
  have hn6 := hD.1.2.2.2.1
  have hRw : rowF hi 16 n f t := hD.1
  have hfs : ∀ j, j < n → f j < pS P := hV.1.1
  refine q_aload_n G (pc := 0) dX10_refusalOf_0 rfl ?_
  refine q_iload_n G (pc := 1) dX10_refusalOf_1 rfl ?_
  refine q_cV1B G (pc := 2) dX10_refusalOf_2 cv_X10_106 rfl (c_isStrip (by omega) hC) (Nat.le_of_ble_eq_true rfl) (fun c2 => ?_) (fun c2 => ?_)
  · obtain ⟨s, hs, rfl⟩ := c2
    refine q_if_neN (tgt := 10) G (pc := 5) dX10_refusalOf_5 (by decide) (by omega) (fun _ => ?_) (fun c5 => absurd c5 (by decide))
    refine q_aload_n G (pc := 10) dX10_refusalOf_10 rfl ?_
    refine q_getR (x := 15) G (pc := 11) dX10_refusalOf_11 fl_X10_29_9 rfl (hg hτ (hf_9_3 rfl)) ?_
    refine q_getR (x := 16) G (pc := 14) dX10_refusalOf_14 fl_X10_109_1 rfl (hg hτ (hf_1_0 rfl)) ?_
    refine q_iload_n G (pc := 17) dX10_refusalOf_17 rfl ?_
    refine q_cV1E G (pc := 18) dX10_refusalOf_18 cv_X10_112 rfl (s_X6_placeOf (by omega) hτ (r := 16) rfl hRw (s := s) (by omega)) (Nat.le_of_ble_eq_true rfl) ?_
    refine q_bipush (v := -9) G (pc := 21) dX10_refusalOf_21 (by decide) ?_
    refine q_icmp_eq (tgt := 30) G (pc := 23) dX10_refusalOf_23 (by decide) (fun c23 => ?_) (fun c23 => ?_)
    · have hf := (plI_ne hn6).mp c23
      refine q_iconst (v := nI 0) G (pc := 30) dX10_refusalOf_30 (by decide) ?_
      refine q_istore_n G (pc := 31) dX10_refusalOf_31 (by decide) ?_
      show X _ [_, _, _, _] _ _ _ _
      refine q_iload_n G (pc := 32) dX10_refusalOf_32 rfl ?_
      refine q_iload_n G (pc := 33) dX10_refusalOf_33 rfl ?_
      refine q_icmp_neN (tgt := 41) G (pc := 34) dX10_refusalOf_34 (by decide) (by omega) (by omega) (fun c34 => ?_) (fun c34 => ?_)
      · refine q_bipush (v := -2) G (pc := 41) dX10_refusalOf_41 (by decide) ?_
        refine q_iret G (pc := 43) dX10_refusalOf_43 (Or.inl rfl) ?_
        refine ⟨rfl, rfl, ?_⟩
        rw [ix_some hs (by omega)]
        simp only [refO]
        rw [hf]
        simp only []
        rw [if_neg c34]
      · refine q_iconst (v := nI 0) G (pc := 37) dX10_refusalOf_37 (by decide) ?_
        refine q_goto (tgt := 43) G (pc := 38) dX10_refusalOf_38 (by decide) ?_
        refine q_iret G (pc := 43) dX10_refusalOf_43 (Or.inl rfl) ?_
        refine ⟨rfl, rfl, ?_⟩
        rw [ix_some hs (by omega)]
        simp only [refO]
        rw [hf]
        simp only []
        rw [if_pos c34]
        rfl
    · obtain ⟨p, hf⟩ : ∃ p, fnd f s n = some p := by
        cases e1 : fnd f s n with
        | none => exact absurd ((plI_ne hn6).mpr e1) c23
        | some p => exact ⟨p, rfl⟩
      refine q_iconst (v := nI 1) G (pc := 26) dX10_refusalOf_26 (by decide) ?_
      refine q_goto (tgt := 31) G (pc := 27) dX10_refusalOf_27 (by decide) ?_
      refine q_istore_n G (pc := 31) dX10_refusalOf_31 (by decide) ?_
      show X _ [_, _, _, _] _ _ _ _
      refine q_iload_n G (pc := 32) dX10_refusalOf_32 rfl ?_
      refine q_iload_n G (pc := 33) dX10_refusalOf_33 rfl ?_
      refine q_icmp_neN (tgt := 41) G (pc := 34) dX10_refusalOf_34 (by decide) (by omega) (by omega) (fun c34 => ?_) (fun c34 => ?_)
      · refine q_bipush (v := -2) G (pc := 41) dX10_refusalOf_41 (by decide) ?_
        refine q_iret G (pc := 43) dX10_refusalOf_43 (Or.inl rfl) ?_
        refine ⟨rfl, rfl, ?_⟩
        rw [ix_some hs (by omega)]
        simp only [refO]
        rw [hf]
        simp only []
        rw [if_neg c34]
      · refine q_iconst (v := nI 0) G (pc := 37) dX10_refusalOf_37 (by decide) ?_
        refine q_goto (tgt := 43) G (pc := 38) dX10_refusalOf_38 (by decide) ?_
        refine q_iret G (pc := 43) dX10_refusalOf_43 (Or.inl rfl) ?_
        refine ⟨rfl, rfl, ?_⟩
        rw [ix_some hs (by omega)]
        simp only [refO]
        rw [hf]
        simp only []
        rw [if_pos c34]
        rfl
  · refine q_if_neN (tgt := 10) G (pc := 5) dX10_refusalOf_5 (by decide) (by omega) (fun c5 => absurd c5 (by decide)) (fun _ => ?_)
    refine q_iconst (v := -1) G (pc := 8) dX10_refusalOf_8 (by decide) ?_
    refine q_iret G (pc := 9) dX10_refusalOf_9 (Or.inl rfl) ?_
    exact ⟨rfl, rfl, by rw [ix_none c2]; rfl⟩
set_option maxHeartbeats 2000000 in
theorem c_turn {d : Nat} (hd : 5 ≤ d) {hi : mm_HI} {τ : mm_T} {P : PG} {n : Nat} {f : Nat → Nat} {t K : Nat} {pn : Nat → Nat} {pf : Nat → Nat → Nat} {pt : Nat → Nat} {im : Nat → Option DK} {sl : List (Nat × Nat)} {N : Nat} {b : Nat → Nat} {tr : Int64} (hC : cS P n f t K pn pf pt im sl N b tr hi τ) {x : Int32} : wR d yX10_turn [.ref 0, .int x] hi τ (CQ (zTurn (mkT P n f t K pn pf pt im sl N b tr) (ix x (pS P))) hi τ) := by
  refine w_intro (by omega) M_X10_turn (Nat.le_of_ble_eq_true rfl) rfl ?_
  intro e X he G
  show X 0 [some (.ref (0)), some (.int (x)), none] [] hi τ 125
  obtain ⟨sw, nx, nd, hτ, hS, hD, hV, hI, hIV, hN, hNO, hT, hFl, hE, hTr⟩ := id hC
  have hS6 := hS.2.2.2.1.2.2.1
  have hL3 : pL P ≤ 3 := hS.2.2.2.1.2.1
  have hn6 := hD.1.2.2.2.1
  have hRw : rowF hi 16 n f t := hD.1
  have hfs : ∀ j, j < n → f j < pS P := hV.1.1
  by_cases hx : isI x (pS P)
  · obtain ⟨s, hs, rfl⟩ := hx
    rcases hf : fnd f s n with _ | p
    · refine q_aload_n G (pc := 0) dX10_turn_0 rfl ?_
      refine q_iload_n G (pc := 1) dX10_turn_1 rfl ?_
      refine q_iconst (v := nI 1) G (pc := 2) dX10_turn_2 (by decide) ?_
      refine q_cV2E G (pc := 3) dX10_turn_3 cv_X10_172 rfl (c_refusalOf (by omega) hC (m := 1) (by decide)) (Nat.le_of_ble_eq_true rfl) ?_
      rw [show refO n f (ix (nI s) (pS P)) 1 = (-2 : Int32) from (by rw [ix_some hs (by omega)]; simp only [refO]; rw [hf]; rfl)]
      refine q_istore_n G (pc := 6) dX10_turn_6 (by decide) ?_
      show X _ [_, _, _] _ _ _ _
      refine q_iload_n G (pc := 7) dX10_turn_7 rfl ?_
      refine q_if_eq (tgt := 13) G (pc := 8) dX10_turn_8 (by decide) (fun c8 => ?_) (fun c8 => ?_)
      · exact absurd c8 (by decide)
      · refine q_iload_n G (pc := 11) dX10_turn_11 rfl ?_
        refine q_iret G (pc := 12) dX10_turn_12 (Or.inl rfl) ?_
        exact CQ.of (by rw [ix_some hs (by omega)]; simp only [zTurn]; rw [show fnd (gf (mkT P n f t K pn pf pt im sl N b tr)) s (gn (mkT P n f t K pn pf pt im sl N b tr)) = _ from hf]) (hC.post scr.rf _)
    · refine q_aload_n G (pc := 0) dX10_turn_0 rfl ?_
      refine q_iload_n G (pc := 1) dX10_turn_1 rfl ?_
      refine q_iconst (v := nI 1) G (pc := 2) dX10_turn_2 (by decide) ?_
      refine q_cV2E G (pc := 3) dX10_turn_3 cv_X10_172 rfl (c_refusalOf (by omega) hC (m := 1) (by decide)) (Nat.le_of_ble_eq_true rfl) ?_
      rw [show refO n f (ix (nI s) (pS P)) 1 = nI 0 from (by rw [ix_some hs (by omega)]; simp only [refO]; rw [hf]; rfl)]
      refine q_istore_n G (pc := 6) dX10_turn_6 (by decide) ?_
      show X _ [_, _, _] _ _ _ _
      refine q_iload_n G (pc := 7) dX10_turn_7 rfl ?_
      refine q_if_eqN (tgt := 13) G (pc := 8) dX10_turn_8 (by decide) (by omega) (fun _ => ?_) (fun c8 => absurd c8 (by decide))
      refine q_aload_n G (pc := 13) dX10_turn_13 rfl ?_
      refine q_getR (x := 15) G (pc := 14) dX10_turn_14 fl_X10_29_9 rfl (hg hτ (hf_9_3 rfl)) ?_
      refine q_cV0V G (pc := 17) dX10_turn_17 cv_X10_154 rfl (s_X1_remember (by omega) hτ (dk := 15) rfl hD) (Nat.le_of_ble_eq_true rfl) ?_
      intro hk hx
      obtain ⟨x1, x2⟩ := hx
      refine q_aload_n G (pc := 20) dX10_turn_20 rfl ?_
      refine q_getR (x := 15) G (pc := 21) dX10_turn_21 fl_X10_29_9 rfl (hg hτ (hf_9_3 rfl)) ?_
      refine q_getR (x := 16) G (pc := 24) dX10_turn_24 fl_X10_109_1 rfl (hg hτ (hf_1_0 rfl)) ?_
      refine q_dup G (pc := 27) dX10_turn_27 rfl ?_
      refine q_getI (v := nI (t)) G (pc := 28) dX10_turn_28 fl_X10_176_6 (by decide) rfl x1.1.2.1 ?_
      refine q_iconst (v := 1) G (pc := 31) dX10_turn_31 (by decide) ?_
      refine q_iload_n G (pc := 32) dX10_turn_32 rfl ?_
      refine q_ishl G (pc := 33) dX10_turn_33 ?_
      refine q_ixor G (pc := 34) dX10_turn_34 ?_
      rw [(xor_t t hRw.2.2.2.2.2 s (by omega)).1]
      refine q_putI G (pc := 35) dX10_turn_35 fl_X10_176_6 rfl ?_
      have hx6 := xor_t t hRw.2.2.2.2.2 s (by omega)
      have hR2 : rowF (mm_up2 hk 16 2 (nI (stb t s (1 - t / 2 ^ s % 2)))) 16 n f (stb t s (1 - t / 2 ^ s % 2)) := ⟨by simp [va_up]; exact x1.1.1, by simp [va_up], fun j hj => by simp [va_up]; exact x1.1.2.2.1 j hj, hn6, x1.1.2.2.2.2.1, hx6.2.1⟩
      have hf2 : frr 15 39 hk (mm_up2 hk 16 2 (nI (stb t s (1 - t / 2 ^ s % 2)))) := frr.fld (by omega)
      have hC2 : cS P n f (stb t s (1 - t / 2 ^ s % 2)) (if K < 10 then K + 1 else 10) (pu K pn n) (pu K pf f) (pu K pt t) im sl N b tr (mm_up2 hk 16 2 (nI (stb t s (1 - t / 2 ^ s % 2)))) τ := hC.dsk (x2.trans hf2) ⟨hR2, by simp [va_up]; exact x1.2.1, x1.2.2.1, fun k hk => (x1.2.2.2 k hk).fld (by omega)⟩ (rem_dOK hV hV.1 hD.2.2.1)
      refine q_aload_n G (pc := 38) dX10_turn_38 rfl ?_
      refine q_getR (x := 15) G (pc := 39) dX10_turn_39 fl_X10_29_9 rfl (hg hτ (hf_9_3 rfl)) ?_
      refine q_getR (x := 16) G (pc := 42) dX10_turn_42 fl_X10_109_1 rfl (hg hτ (hf_1_0 rfl)) ?_
      refine q_iload_n G (pc := 45) dX10_turn_45 rfl ?_
      refine q_cV1E G (pc := 46) dX10_turn_46 cv_X10_116 rfl (s_X6_wayOf (by omega) hτ (r := 16) rfl hR2 (s := s) (by omega)) (Nat.le_of_ble_eq_true rfl) ?_
      rw [hx6.2.2]
      refine q_iret G (pc := 49) dX10_turn_49 (Or.inl rfl) ?_
      have e : zTurn (mkT P n f t K pn pf pt im sl N b tr) (ix (nI s) (pS P)) = (mkT P n f (stb t s (1 - t / 2 ^ s % 2)) (if K < 10 then K + 1 else 10) (pu K pn n) (pu K pf f) (pu K pt t) im sl N b tr, nI (1 - t / 2 ^ s % 2)) := by rw [ix_some hs (by omega)]; simp only [zTurn]; rw [show fnd (gf (mkT P n f t K pn pf pt im sl N b tr)) s (gn (mkT P n f t K pn pf pt im sl N b tr)) = _ from hf]; rfl
      exact CQ.mk e hC2 (fun c hc => (hf2 c (by omega)).trans (x2 c (by omega))) rfl
  · refine q_aload_n G (pc := 0) dX10_turn_0 rfl ?_
    refine q_iload_n G (pc := 1) dX10_turn_1 rfl ?_
    refine q_iconst (v := nI 1) G (pc := 2) dX10_turn_2 (by decide) ?_
    refine q_cV2E G (pc := 3) dX10_turn_3 cv_X10_172 rfl (c_refusalOf (by omega) hC (m := 1) (by decide)) (Nat.le_of_ble_eq_true rfl) ?_
    rw [show refO n f (ix x (pS P)) 1 = (-1 : Int32) from (by rw [ix_none hx]; rfl)]
    refine q_istore_n G (pc := 6) dX10_turn_6 (by decide) ?_
    show X _ [_, _, _] _ _ _ _
    refine q_iload_n G (pc := 7) dX10_turn_7 rfl ?_
    refine q_if_eq (tgt := 13) G (pc := 8) dX10_turn_8 (by decide) (fun c8 => ?_) (fun c8 => ?_)
    · exact absurd c8 (by decide)
    · refine q_iload_n G (pc := 11) dX10_turn_11 rfl ?_
      refine q_iret G (pc := 12) dX10_turn_12 (Or.inl rfl) ?_
      exact CQ.of (by rw [ix_none hx]; rfl) (hC.post scr.rf _)
set_option maxHeartbeats 2000000 in
theorem c_takes {d : Nat} (hd : 5 ≤ d) {hi : mm_HI} {τ : mm_T} {P : PG} {n : Nat} {f : Nat → Nat} {t K : Nat} {pn : Nat → Nat} {pf : Nat → Nat → Nat} {pt : Nat → Nat} {im : Nat → Option DK} {sl : List (Nat × Nat)} {N : Nat} {b : Nat → Nat} {tr : Int64} (hC : cS P n f t K pn pf pt im sl N b tr hi τ) {x : Int32} : wR d yX10_takes [.ref 0, .int x] hi τ (CQ (zTakes (mkT P n f t K pn pf pt im sl N b tr) (ix x (pS P))) hi τ) := by
  refine w_intro (by omega) M_X10_takes (Nat.le_of_ble_eq_true rfl) rfl ?_
  intro e X he G
  show X 0 [some (.ref (0)), some (.int (x)), none] [] hi τ 125
  obtain ⟨sw, nx, nd, hτ, hS, hD, hV, hI, hIV, hN, hNO, hT, hFl, hE, hTr⟩ := id hC
  have hS6 := hS.2.2.2.1.2.2.1
  have hL3 : pL P ≤ 3 := hS.2.2.2.1.2.1
  have hn6 := hD.1.2.2.2.1
  have hRw : rowF hi 16 n f t := hD.1
  have hfs : ∀ j, j < n → f j < pS P := hV.1.1
  by_cases hx : isI x (pS P)
  · obtain ⟨s, hs, rfl⟩ := hx
    rcases hf : fnd f s n with _ | p
    · refine q_aload_n G (pc := 0) dX10_takes_0 rfl ?_
      refine q_iload_n G (pc := 1) dX10_takes_1 rfl ?_
      refine q_iconst (v := nI 1) G (pc := 2) dX10_takes_2 (by decide) ?_
      refine q_cV2E G (pc := 3) dX10_takes_3 cv_X10_172 rfl (c_refusalOf (by omega) hC (m := 1) (by decide)) (Nat.le_of_ble_eq_true rfl) ?_
      rw [show refO n f (ix (nI s) (pS P)) 1 = (-2 : Int32) from (by rw [ix_some hs (by omega)]; simp only [refO]; rw [hf]; rfl)]
      refine q_istore_n G (pc := 6) dX10_takes_6 (by decide) ?_
      show X _ [_, _, _] _ _ _ _
      refine q_iload_n G (pc := 7) dX10_takes_7 rfl ?_
      refine q_if_eq (tgt := 13) G (pc := 8) dX10_takes_8 (by decide) (fun c8 => ?_) (fun c8 => ?_)
      · exact absurd c8 (by decide)
      · refine q_iload_n G (pc := 11) dX10_takes_11 rfl ?_
        refine q_iret G (pc := 12) dX10_takes_12 (Or.inl rfl) ?_
        exact CQ.of (by rw [ix_some hs (by omega)]; simp only [zTakes]; rw [show fnd (gf (mkT P n f t K pn pf pt im sl N b tr)) s (gn (mkT P n f t K pn pf pt im sl N b tr)) = _ from hf]) (hC.post scr.rf _)
    · refine q_aload_n G (pc := 0) dX10_takes_0 rfl ?_
      refine q_iload_n G (pc := 1) dX10_takes_1 rfl ?_
      refine q_iconst (v := nI 1) G (pc := 2) dX10_takes_2 (by decide) ?_
      refine q_cV2E G (pc := 3) dX10_takes_3 cv_X10_172 rfl (c_refusalOf (by omega) hC (m := 1) (by decide)) (Nat.le_of_ble_eq_true rfl) ?_
      rw [show refO n f (ix (nI s) (pS P)) 1 = nI 0 from (by rw [ix_some hs (by omega)]; simp only [refO]; rw [hf]; rfl)]
      refine q_istore_n G (pc := 6) dX10_takes_6 (by decide) ?_
      show X _ [_, _, _] _ _ _ _
      refine q_iload_n G (pc := 7) dX10_takes_7 rfl ?_
      refine q_if_eqN (tgt := 13) G (pc := 8) dX10_takes_8 (by decide) (by omega) (fun _ => ?_) (fun c8 => absurd c8 (by decide))
      refine q_aload_n G (pc := 13) dX10_takes_13 rfl ?_
      refine q_getR (x := 15) G (pc := 14) dX10_takes_14 fl_X10_29_9 rfl (hg hτ (hf_9_3 rfl)) ?_
      refine q_cV0V G (pc := 17) dX10_takes_17 cv_X10_154 rfl (s_X1_remember (by omega) hτ (dk := 15) rfl hD) (Nat.le_of_ble_eq_true rfl) ?_
      intro hk hx
      obtain ⟨x1, x2⟩ := hx
      refine q_aload_n G (pc := 20) dX10_takes_20 rfl ?_
      refine q_getR (x := 15) G (pc := 21) dX10_takes_21 fl_X10_29_9 rfl (hg hτ (hf_9_3 rfl)) ?_
      refine q_getR (x := 16) G (pc := 24) dX10_takes_24 fl_X10_109_1 rfl (hg hτ (hf_1_0 rfl)) ?_
      refine q_iload_n G (pc := 27) dX10_takes_27 rfl ?_
      refine q_cV1V G (pc := 28) dX10_takes_28 cv_X10_179 rfl (s_X6_remove (by omega) hτ (r := 16) rfl x1.1 (s := s) (by omega) hf) (Nat.le_of_ble_eq_true rfl) ?_
      intro hk2 hy
      obtain ⟨y1, y2⟩ := hy
      have hpn := (fnd_some hf).1
      have hC2 : cS P (n - 1) (fun j => f (crr p (n - 1) j)) t (if K < 10 then K + 1 else 10) (pu K pn n) (pu K pf f) (pu K pt t) im sl N b tr hk2 τ := hC.dsk (x2.trans (frr.row y2 (by omega) (by omega))) ⟨y1, by rw [y2 15 (by simp)]; exact x1.2.1, x1.2.2.1, fun k hk => (x1.2.2.2 k hk).oth y2 (by omega)⟩ (rem_dOK hV (rowV_lt (rowV_crr hV.1 hpn (by show n - 1 < n; omega)) (by show n - 1 ≤ n; omega)) hD.2.2.1)
      refine q_aload_n G (pc := 31) dX10_takes_31 rfl ?_
      refine q_getR (x := 15) G (pc := 32) dX10_takes_32 fl_X10_29_9 rfl (hg hτ (hf_9_3 rfl)) ?_
      refine q_getR (x := 16) G (pc := 35) dX10_takes_35 fl_X10_109_1 rfl (hg hτ (hf_1_0 rfl)) ?_
      refine q_getI (v := nI (n - 1)) G (pc := 38) dX10_takes_38 fl_X10_182_6 (by decide) rfl y1.1 ?_
      refine q_iret G (pc := 41) dX10_takes_41 (Or.inl rfl) ?_
      have e : zTakes (mkT P n f t K pn pf pt im sl N b tr) (ix (nI s) (pS P)) = (mkT P (n - 1) (fun j => f (crr p (n - 1) j)) t (if K < 10 then K + 1 else 10) (pu K pn n) (pu K pf f) (pu K pt t) im sl N b tr, nI (n - 1)) := by rw [ix_some hs (by omega)]; simp only [zTakes]; rw [show fnd (gf (mkT P n f t K pn pf pt im sl N b tr)) s (gn (mkT P n f t K pn pf pt im sl N b tr)) = _ from hf]; rfl
      exact CQ.mk e hC2 (fun c hc => (y2 c (by simp; omega)).trans (x2 c (by omega))) rfl
  · refine q_aload_n G (pc := 0) dX10_takes_0 rfl ?_
    refine q_iload_n G (pc := 1) dX10_takes_1 rfl ?_
    refine q_iconst (v := nI 1) G (pc := 2) dX10_takes_2 (by decide) ?_
    refine q_cV2E G (pc := 3) dX10_takes_3 cv_X10_172 rfl (c_refusalOf (by omega) hC (m := 1) (by decide)) (Nat.le_of_ble_eq_true rfl) ?_
    rw [show refO n f (ix x (pS P)) 1 = (-1 : Int32) from (by rw [ix_none hx]; rfl)]
    refine q_istore_n G (pc := 6) dX10_takes_6 (by decide) ?_
    show X _ [_, _, _] _ _ _ _
    refine q_iload_n G (pc := 7) dX10_takes_7 rfl ?_
    refine q_if_eq (tgt := 13) G (pc := 8) dX10_takes_8 (by decide) (fun c8 => ?_) (fun c8 => ?_)
    · exact absurd c8 (by decide)
    · refine q_iload_n G (pc := 11) dX10_takes_11 rfl ?_
      refine q_iret G (pc := 12) dX10_takes_12 (Or.inl rfl) ?_
      exact CQ.of (by rw [ix_none hx]; rfl) (hC.post scr.rf _)
set_option maxHeartbeats 2000000 in
theorem c_lays {d : Nat} (hd : 5 ≤ d) {hi : mm_HI} {τ : mm_T} {P : PG} {n : Nat} {f : Nat → Nat} {t K : Nat} {pn : Nat → Nat} {pf : Nat → Nat → Nat} {pt : Nat → Nat} {im : Nat → Option DK} {sl : List (Nat × Nat)} {N : Nat} {b : Nat → Nat} {tr : Int64} (hC : cS P n f t K pn pf pt im sl N b tr hi τ) {x : Int32} : wR d yX10_lays [.ref 0, .int x] hi τ (CQ (zLays (mkT P n f t K pn pf pt im sl N b tr) (ix x (pS P))) hi τ) := by
  refine w_intro (by omega) M_X10_lays (Nat.le_of_ble_eq_true rfl) rfl ?_
  intro e X he G
  show X 0 [some (.ref (0)), some (.int (x)), none] [] hi τ 125
  obtain ⟨sw, nx, nd, hτ, hS, hD, hV, hI, hIV, hN, hNO, hT, hFl, hE, hTr⟩ := id hC
  have hS6 := hS.2.2.2.1.2.2.1
  have hL3 : pL P ≤ 3 := hS.2.2.2.1.2.1
  have hn6 := hD.1.2.2.2.1
  have hRw : rowF hi 16 n f t := hD.1
  have hfs : ∀ j, j < n → f j < pS P := hV.1.1
  by_cases hx : isI x (pS P)
  · obtain ⟨s, hs, rfl⟩ := hx
    rcases hf : fnd f s n with _ | p
    · refine q_aload_n G (pc := 0) dX10_lays_0 rfl ?_
      refine q_iload_n G (pc := 1) dX10_lays_1 rfl ?_
      refine q_iconst (v := nI 0) G (pc := 2) dX10_lays_2 (by decide) ?_
      refine q_cV2E G (pc := 3) dX10_lays_3 cv_X10_172 rfl (c_refusalOf (by omega) hC (m := 0) (by decide)) (Nat.le_of_ble_eq_true rfl) ?_
      rw [show refO n f (ix (nI s) (pS P)) 0 = nI 0 from (by rw [ix_some hs (by omega)]; simp only [refO]; rw [hf]; rfl)]
      refine q_istore_n G (pc := 6) dX10_lays_6 (by decide) ?_
      show X _ [_, _, _] _ _ _ _
      refine q_iload_n G (pc := 7) dX10_lays_7 rfl ?_
      refine q_if_eqN (tgt := 13) G (pc := 8) dX10_lays_8 (by decide) (by omega) (fun _ => ?_) (fun c8 => absurd c8 (by decide))
      refine q_aload_n G (pc := 13) dX10_lays_13 rfl ?_
      refine q_getR (x := 15) G (pc := 14) dX10_lays_14 fl_X10_29_9 rfl (hg hτ (hf_9_3 rfl)) ?_
      have hn5 := n_lt6 hV.1 hS6 (by omega) (fnd_none hf)
      refine q_cV0V G (pc := 17) dX10_lays_17 cv_X10_154 rfl (s_X1_remember (by omega) hτ (dk := 15) rfl hD) (Nat.le_of_ble_eq_true rfl) ?_
      intro hk hx
      obtain ⟨x1, x2⟩ := hx
      refine q_aload_n G (pc := 20) dX10_lays_20 rfl ?_
      refine q_getR (x := 15) G (pc := 21) dX10_lays_21 fl_X10_29_9 rfl (hg hτ (hf_9_3 rfl)) ?_
      refine q_getR (x := 16) G (pc := 24) dX10_lays_24 fl_X10_109_1 rfl (hg hτ (hf_1_0 rfl)) ?_
      refine q_iload_n G (pc := 27) dX10_lays_27 rfl ?_
      refine q_cV1V G (pc := 28) dX10_lays_28 cv_X10_185 rfl (s_X6_append (by omega) hτ (r := 16) rfl x1.1 (s := s) hn5 (by omega)) (Nat.le_of_ble_eq_true rfl) ?_
      intro hk2 hy
      obtain ⟨y1, y2⟩ := hy
      have hC2 : cS P (n + 1) (va_up f n s) t (if K < 10 then K + 1 else 10) (pu K pn n) (pu K pf f) (pu K pt t) im sl N b tr hk2 τ := hC.dsk (x2.trans (frr.row y2 (by omega) (by omega))) ⟨y1, by rw [y2 15 (by simp)]; exact x1.2.1, x1.2.2.1, fun k hk => (x1.2.2.2 k hk).oth y2 (by omega)⟩ (rem_dOK hV (rowV_app hV.1 hs (fnd_none hf)) hD.2.2.1)
      refine q_aload_n G (pc := 31) dX10_lays_31 rfl ?_
      refine q_getR (x := 15) G (pc := 32) dX10_lays_32 fl_X10_29_9 rfl (hg hτ (hf_9_3 rfl)) ?_
      refine q_getR (x := 16) G (pc := 35) dX10_lays_35 fl_X10_109_1 rfl (hg hτ (hf_1_0 rfl)) ?_
      refine q_getI (v := nI (n + 1)) G (pc := 38) dX10_lays_38 fl_X10_182_6 (by decide) rfl y1.1 ?_
      refine q_iret G (pc := 41) dX10_lays_41 (Or.inl rfl) ?_
      have e : zLays (mkT P n f t K pn pf pt im sl N b tr) (ix (nI s) (pS P)) = (mkT P (n + 1) (va_up f n s) t (if K < 10 then K + 1 else 10) (pu K pn n) (pu K pf f) (pu K pt t) im sl N b tr, nI (n + 1)) := by rw [ix_some hs (by omega)]; simp only [zLays]; rw [show fnd (gf (mkT P n f t K pn pf pt im sl N b tr)) s (gn (mkT P n f t K pn pf pt im sl N b tr)) = _ from hf]; rfl
      exact CQ.mk e hC2 (fun c hc => (y2 c (by simp; omega)).trans (x2 c (by omega))) rfl
    · refine q_aload_n G (pc := 0) dX10_lays_0 rfl ?_
      refine q_iload_n G (pc := 1) dX10_lays_1 rfl ?_
      refine q_iconst (v := nI 0) G (pc := 2) dX10_lays_2 (by decide) ?_
      refine q_cV2E G (pc := 3) dX10_lays_3 cv_X10_172 rfl (c_refusalOf (by omega) hC (m := 0) (by decide)) (Nat.le_of_ble_eq_true rfl) ?_
      rw [show refO n f (ix (nI s) (pS P)) 0 = (-2 : Int32) from (by rw [ix_some hs (by omega)]; simp only [refO]; rw [hf]; rfl)]
      refine q_istore_n G (pc := 6) dX10_lays_6 (by decide) ?_
      show X _ [_, _, _] _ _ _ _
      refine q_iload_n G (pc := 7) dX10_lays_7 rfl ?_
      refine q_if_eq (tgt := 13) G (pc := 8) dX10_lays_8 (by decide) (fun c8 => ?_) (fun c8 => ?_)
      · exact absurd c8 (by decide)
      · refine q_iload_n G (pc := 11) dX10_lays_11 rfl ?_
        refine q_iret G (pc := 12) dX10_lays_12 (Or.inl rfl) ?_
        exact CQ.of (by rw [ix_some hs (by omega)]; simp only [zLays]; rw [show fnd (gf (mkT P n f t K pn pf pt im sl N b tr)) s (gn (mkT P n f t K pn pf pt im sl N b tr)) = _ from hf]) (hC.post scr.rf _)
  · refine q_aload_n G (pc := 0) dX10_lays_0 rfl ?_
    refine q_iload_n G (pc := 1) dX10_lays_1 rfl ?_
    refine q_iconst (v := nI 0) G (pc := 2) dX10_lays_2 (by decide) ?_
    refine q_cV2E G (pc := 3) dX10_lays_3 cv_X10_172 rfl (c_refusalOf (by omega) hC (m := 0) (by decide)) (Nat.le_of_ble_eq_true rfl) ?_
    rw [show refO n f (ix x (pS P)) 0 = (-1 : Int32) from (by rw [ix_none hx]; rfl)]
    refine q_istore_n G (pc := 6) dX10_lays_6 (by decide) ?_
    show X _ [_, _, _] _ _ _ _
    refine q_iload_n G (pc := 7) dX10_lays_7 rfl ?_
    refine q_if_eq (tgt := 13) G (pc := 8) dX10_lays_8 (by decide) (fun c8 => ?_) (fun c8 => ?_)
    · exact absurd c8 (by decide)
    · refine q_iload_n G (pc := 11) dX10_lays_11 rfl ?_
      refine q_iret G (pc := 12) dX10_lays_12 (Or.inl rfl) ?_
      exact CQ.of (by rw [ix_none hx]; rfl) (hC.post scr.rf _)
set_option maxHeartbeats 2000000 in
theorem c_undo {d : Nat} (hd : 3 ≤ d) {hi : mm_HI} {τ : mm_T} {P : PG} {n : Nat} {f : Nat → Nat} {t K : Nat} {pn : Nat → Nat} {pf : Nat → Nat → Nat} {pt : Nat → Nat} {im : Nat → Option DK} {sl : List (Nat × Nat)} {N : Nat} {b : Nat → Nat} {tr : Int64} (hC : cS P n f t K pn pf pt im sl N b tr hi τ)  : wR d yX10_undo [.ref 0] hi τ (CQ (zUndo (mkT P n f t K pn pf pt im sl N b tr)) hi τ) := by
  refine w_intro (by omega) M_X10_undo (Nat.le_of_ble_eq_true rfl) rfl ?_
  intro e X he G
  show X 0 [some (.ref (0))] [] hi τ 125
  obtain ⟨sw, nx, nd, hτ, hS, hD, hV, hI, hIV, hN, hNO, hT, hFl, hE, hTr⟩ := id hC
  have hS6 := hS.2.2.2.1.2.2.1
  have hL3 : pL P ≤ 3 := hS.2.2.2.1.2.1
  have hn6 := hD.1.2.2.2.1
  have hRw : rowF hi 16 n f t := hD.1
  have hfs : ∀ j, j < n → f j < pS P := hV.1.1
  refine q_aload_n G (pc := 0) dX10_undo_0 rfl ?_
  refine q_getR (x := 15) G (pc := 1) dX10_undo_1 fl_X10_29_9 rfl (hg hτ (hf_9_3 rfl)) ?_
  refine q_cV0I G (pc := 4) dX10_undo_4 cv_X10_187 rfl (s_X1_goBack (by omega) hτ (dk := 15) rfl hD) (Nat.le_of_ble_eq_true rfl) ?_
  intro xa hk hx
  rcases hx with ⟨rfl, a1, rfl⟩ | ⟨rfl, a1, a2, a3⟩
  · refine q_if_eqN (tgt := 20) G (pc := 7) dX10_undo_7 (by decide) (by omega) (fun _ => ?_) (fun c7 => absurd c7 (by decide))
    refine q_bipush (v := -2) G (pc := 20) dX10_undo_20 (by decide) ?_
    refine q_iret G (pc := 22) dX10_undo_22 (Or.inl rfl) ?_
    exact CQ.of (if_pos a1) (hC.post scr.rf _)
  · refine q_if_eqN (tgt := 20) G (pc := 7) dX10_undo_7 (by decide) (by omega) (fun c7 => absurd c7 (by decide)) (fun _ => ?_)
    refine q_aload_n G (pc := 10) dX10_undo_10 rfl ?_
    refine q_getR (x := 15) G (pc := 11) dX10_undo_11 fl_X10_29_9 rfl (hg hτ (hf_9_3 rfl)) ?_
    refine q_getI (v := nI (K - 1)) G (pc := 14) dX10_undo_14 fl_X10_191_1 (by decide) rfl a2.2.1 ?_
    refine q_goto (tgt := 22) G (pc := 17) dX10_undo_17 (by decide) ?_
    refine q_iret G (pc := 22) dX10_undo_22 (Or.inl rfl) ?_
    have e : zUndo (mkT P n f t K pn pf pt im sl N b tr) = (mkT P (pn (K - 1)) (pf (K - 1)) (pt (K - 1)) (K - 1) pn pf pt im sl N b tr, nI (K - 1)) := if_neg (show ¬ K = 0 by omega)
    exact CQ.mk e (hC.dsk a3 a2 ⟨hV.2 (K - 1) (by show K - 1 < K; omega), fun k hk => hV.2 k (by have : k < K - 1 := hk; show k < K; omega)⟩) (fun c hc => a3 c (by omega)) rfl
