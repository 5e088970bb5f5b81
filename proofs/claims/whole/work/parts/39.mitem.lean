theorem bytN_cod {c : Nat} (h : tok c = 1) : bytN (cod c) = c := by
  rcases tok1.mp h with q | q
  · have e : cod c = c - 97 := if_neg (by omega)
    rw [e]
    unfold bytN
    rw [if_neg (by omega)]
    omega
  · subst q; rfl
theorem cod_let {c : Nat} (h : tok c = 1) : cod c ≠ 26 ↔ 97 ≤ c ∧ c ≤ 122 := by
  rcases tok1.mp h with q | q
  · unfold cod
    rw [if_neg (by omega)]
    omega
  · subst q; decide
set_option maxHeartbeats 2000000 in
theorem m_readsStrip {d : Nat} (hd : 4 ≤ d) {hi : mm_HI} {τ : mm_T} {sw : Bool} (hτ : τ.1 = mm_hr sw) {b : Nat → Nat} {N p k : Nat} {P : PG} (hT : txM hi b N) (hR : rdM hi b N P k p) {q : Nat} (hpq : p = tke b N q) (hS6 : pS P < 6) : wI d yX11_readsStrip [.ref 106] hi τ (rsM (match badS b N q (pL P) with | some l => .inl (pq b N q (l + 1)) | none => stpM b N (tke b N (pq b N q (pL P))) (addS b N q P)) b N k hi) := by
  refine w_intro (by omega) M_X11_readsStrip (Nat.le_of_ble_eq_true rfl) rfl ?_
  intro e X he G
  show X 0 [some (.ref (106)), none] [] hi τ 125
  have hN150 := hT.2.1
  have hpN := hR.2.1
  obtain ⟨o1, o2, o3, o4, o5, o6⟩ := id hR.2.2.2.2.2.2.2.2
  refine q_iconst (v := nI 0) G (pc := 0) dX11_readsStrip_0 (by decide) ?_
  refine q_istore_n G (pc := 1) dX11_readsStrip_1 (by decide) ?_
  show X _ [_, _] _ _ _ _
  have L2 : ∀ (zz : Nat) (l : Nat) (hk : mm_HI), pL P - l < zz → l ≤ pL P → (∀ j, j < l → okP b N (pq b N q (j + 1))) → (∀ z, z < l → ∀ i, i < 2 → hk 114 (6 * pS P + 2 * z + i) = nI (b (pq b N q (z + 1) + i))) → rdM hk b N P k (tke b N (pq b N q l)) → msc hi hk → X 2 [some (.ref (106)), some (.int (nI (l)))] [] hk τ 125 := by
    intro zz
    induction zz with
    | zero => intro l hk hm; exact absurd hm (Nat.not_lt_zero _)
    | succ zz ih2 =>
      intro l hk hm h0 g3 g4 g5 g6
      refine q_iload_n G (pc := 2) dX11_readsStrip_2 rfl ?_
      refine q_aload_n G (pc := 3) dX11_readsStrip_3 rfl ?_
      refine q_getI (v := nI (pL P)) G (pc := 4) dX11_readsStrip_4 fl_X11_95_10 (by decide) rfl g5.2.2.1 ?_
      refine q_icmp_geN (tgt := 88) G (pc := 7) dX11_readsStrip_7 (by decide) (by omega) (by omega) (fun c7 => ?_) (fun c7 => ?_)
      · refine q_aload_n G (pc := 88) dX11_readsStrip_88 rfl ?_
        refine q_dup G (pc := 89) dX11_readsStrip_89 rfl ?_
        refine q_getI (v := nI (pS P)) G (pc := 90) dX11_readsStrip_90 fl_X11_105_10 (by decide) rfl g5.2.2.2.1 ?_
        refine q_iconst (v := nI 1) G (pc := 93) dX11_readsStrip_93 (by decide) ?_
        refine q_iaddN G (pc := 94) dX11_readsStrip_94 ?_
        refine q_putI G (pc := 95) dX11_readsStrip_95 fl_X11_105_10 rfl ?_
        refine q_aload_n G (pc := 98) dX11_readsStrip_98 rfl ?_
        have hl1 : l = pL P := by omega
        subst hl1
        have hs2 : msc hk (mm_up2 hk 106 17 (nI (pS P + 1))) := msc.fld (by omega) (by omega)
        have hR2 : rdM (mm_up2 hk 106 17 (nI (pS P + 1))) b N (addS b N q P) k (tke b N (pq b N q (pL P))) := by
          obtain ⟨a1, a2, a3, a4, a5, a6, a7, a8, a9⟩ := g5
          refine ⟨by simp [va_up]; exact a1, a2, by simp [va_up]; exact a3, by simp [va_up, addS], by simp [va_up]; exact a5, by simp [va_up]; exact a6, fun s hs l hl i hi2 => ?_, by simp [va_up]; exact a8, ⟨o1, o2, by show pS P + 1 ≤ 6; omega, fun s z i => ?_, o5, o6⟩⟩
          · have hs3 : s < pS P + 1 := hs
            have hl3 : l < pL P := hl
            simp only [va_up]
            rw [if_neg (by decide)]
            by_cases e : s = pS P
            · subst e
              rw [g4 l hl3 i hi2]
              show _ = nI (bytN (if _ then _ else _))
              rw [if_pos ⟨rfl, hl3, hi2⟩]
              have hk := g3 l hl3
              rw [bytN_cod (tke_row hk.1 (Nat.le_add_right _ _) (by omega)).2]
            · rw [a7 s (by omega) l hl3 i hi2]
              show _ = nI (bytN (if _ then _ else _))
              rw [if_neg (fun z => e z.1)]
          · show (if _ then _ else _) ≤ 26
            split
            · rename_i hc
              have hk := g3 z hc.2.1
              exact cod_26 (tke_row hk.1 (Nat.le_add_right _ _) (by omega)).2
            · exact o4 s z i
        refine q_cV0I G (pc := 99) dX11_readsStrip_99 cv_X11_98 rfl (m_ends (by omega) hτ (hT.sc (g6.trans hs2)) hR2.1 hR2.2.1) (Nat.le_of_ble_eq_true rfl) ?_
        intro xe hk3 hy
        have hz := (ends_rs hR2 hy).pre (g6.trans hs2)
        refine q_iret G (pc := 102) dX11_readsStrip_102 (Or.inr ⟨rfl, by rcases hz.2 with ⟨_, _, e, _⟩ | ⟨_, _, _, e, _⟩ <;> rw [e] <;> decide⟩) ?_
        exact ⟨rfl, _, rfl, by rw [badS_none g3]; exact hz⟩
      · refine q_aload_n G (pc := 10) dX11_readsStrip_10 rfl ?_
        refine q_cV0V G (pc := 11) dX11_readsStrip_11 cv_X11_92 rfl (m_skip (by omega) hτ (hT.sc g6) g5.1 g5.2.1) (Nat.le_of_ble_eq_true rfl) ?_
        intro hk2 hx
        obtain ⟨x1, x2⟩ := hx
        have x1 : hk2 106 15 = nI (pq b N q (l + 1)) := x1
        have hle : pq b N q (l + 1) ≤ N := (skp_le (b := b) g5.2.1).2
        have hT2 := (hT.sc g6).a x2
        have gR2 := g5.a x2 x1 hle
        refine q_aload_n G (pc := 14) dX11_readsStrip_14 rfl ?_
        refine q_cV0E G (pc := 15) dX11_readsStrip_15 cv_X11_102 rfl (m_rowSize (by omega) hτ hT2 x1 hle) (Nat.le_of_ble_eq_true rfl) ?_
        have hrl := ren_le (b := b) (k := 1) hle
        refine q_iconst (v := nI 2) G (pc := 18) dX11_readsStrip_18 (by decide) ?_
        refine q_icmp_eqN (tgt := 24) G (pc := 19) dX11_readsStrip_19 (by decide) (by omega) (by omega) (fun c19 => ?_) (fun c19 => ?_)
        · have hok : okP b N (pq b N q (l + 1)) := (row_is hle (by omega)).mp c19
          have hr0 := tke_row hok.1 (Nat.le_refl _) (by omega)
          have hr1 := tke_row (j := (pq b N q (l + 1)) + 1) hok.1 (by omega) (by omega)
          refine q_aload_n G (pc := 24) dX11_readsStrip_24 rfl ?_
          refine q_getR (x := 114) G (pc := 25) dX11_readsStrip_25 fl_X11_35_10 rfl (hg hτ (hf_10_20 rfl)) ?_
          refine q_aload_n G (pc := 28) dX11_readsStrip_28 rfl ?_
          refine q_getI (v := nI (pS P)) G (pc := 29) dX11_readsStrip_29 fl_X11_105_10 (by decide) rfl gR2.2.2.2.1 ?_
          refine q_iload_n G (pc := 32) dX11_readsStrip_32 rfl ?_
          refine q_iconst (v := nI 0) G (pc := 33) dX11_readsStrip_33 (by decide) ?_
          refine q_cS3E G (pc := 34) dX11_readsStrip_34 cs_X11_108 (m_at (by omega)) (Nat.le_of_ble_eq_true rfl) ?_
          refine q_aload_n G (pc := 37) dX11_readsStrip_37 rfl ?_
          refine q_getR (x := 113) G (pc := 38) dX11_readsStrip_38 fl_X11_32_10 rfl (hg hτ (hf_10_13 rfl)) ?_
          refine q_aload_n G (pc := 41) dX11_readsStrip_41 rfl ?_
          refine q_getI (v := nI ((pq b N q (l + 1)))) G (pc := 42) dX11_readsStrip_42 fl_X11_81_10 (by decide) rfl x1 ?_
          refine q_iald (j := (pq b N q (l + 1))) (v := nI (b (pq b N q (l + 1)))) G (pc := 45) dX11_readsStrip_45 rfl rfl (by omega) (hT2.2.2.1 _ hr0.1) ?_
          refine q_iast (j := 6 * pS P + 2 * l + 0) G (pc := 46) dX11_readsStrip_46 rfl rfl (by omega) ?_
          refine q_aload_n G (pc := 47) dX11_readsStrip_47 rfl ?_
          refine q_getR (x := 114) G (pc := 48) dX11_readsStrip_48 fl_X11_35_10 rfl (hg hτ (hf_10_20 rfl)) ?_
          refine q_aload_n G (pc := 51) dX11_readsStrip_51 rfl ?_
          refine q_getI (v := nI (pS P)) G (pc := 52) dX11_readsStrip_52 fl_X11_105_10 (by decide) rfl (by simp [va_up]; exact gR2.2.2.2.1) ?_
          refine q_iload_n G (pc := 55) dX11_readsStrip_55 rfl ?_
          refine q_iconst (v := nI 1) G (pc := 56) dX11_readsStrip_56 (by decide) ?_
          refine q_cS3E G (pc := 57) dX11_readsStrip_57 cs_X11_108 (m_at (by omega)) (Nat.le_of_ble_eq_true rfl) ?_
          refine q_aload_n G (pc := 60) dX11_readsStrip_60 rfl ?_
          refine q_getR (x := 113) G (pc := 61) dX11_readsStrip_61 fl_X11_32_10 rfl (hg hτ (hf_10_13 rfl)) ?_
          refine q_aload_n G (pc := 64) dX11_readsStrip_64 rfl ?_
          refine q_getI (v := nI ((pq b N q (l + 1)))) G (pc := 65) dX11_readsStrip_65 fl_X11_81_10 (by decide) rfl (by simp [va_up]; exact x1) ?_
          refine q_iconst (v := nI 1) G (pc := 68) dX11_readsStrip_68 (by decide) ?_
          refine q_iaddN G (pc := 69) dX11_readsStrip_69 ?_
          refine q_iald (j := (pq b N q (l + 1)) + 1) (v := nI (b ((pq b N q (l + 1)) + 1))) G (pc := 70) dX11_readsStrip_70 rfl rfl (by omega) (by simp [va_up]; exact hT2.2.2.1 _ hr1.1) ?_
          refine q_iast (j := 6 * pS P + 2 * l + 1) G (pc := 71) dX11_readsStrip_71 rfl rfl (by omega) ?_
          refine q_aload_n G (pc := 72) dX11_readsStrip_72 rfl ?_
          refine q_dup G (pc := 73) dX11_readsStrip_73 rfl ?_
          refine q_getI (v := nI ((pq b N q (l + 1)))) G (pc := 74) dX11_readsStrip_74 fl_X11_81_10 (by decide) rfl (by simp [va_up]; exact x1) ?_
          refine q_iconst (v := nI 2) G (pc := 77) dX11_readsStrip_77 (by decide) ?_
          refine q_iaddN G (pc := 78) dX11_readsStrip_78 ?_
          refine q_putI G (pc := 79) dX11_readsStrip_79 fl_X11_81_10 rfl ?_
          refine q_iincN G (pc := 82) dX11_readsStrip_82 rfl (inc1 _) (by decide) ?_
          show X _ [_, _] _ _ _ _
          refine q_goto (tgt := 2) G (pc := 85) dX11_readsStrip_85 (by decide) ?_
          have hn6 : tke b N (pq b N q (l + 1)) = (pq b N q (l + 1)) + 2 := hok.2
          have htN := tke_le (b := b) hle
          refine ih2 (l + 1) (mm_up2 (mm_up2 (mm_up2 hk2 114 (6 * pS P + 2 * l + 0) (nI (b (pq b N q (l + 1))))) 114 (6 * pS P + 2 * l + 1) (nI (b ((pq b N q (l + 1)) + 1)))) 106 15 (nI ((pq b N q (l + 1)) + 2))) (by omega) (by omega) (fun j hj => ?_) (fun z hz i hi2 => ?_) ?_ (((g6.trans x2.sc).trans ((msc.arr (by omega)).trans (msc.arr (by omega)))).trans (msc.fld (by omega) (by omega)))
          · by_cases e : j = l
            · subst e; exact hok
            · exact g3 j (by omega)
          · by_cases e : z = l
            · subst e
              have : i = 0 ∨ i = 1 := by omega
              rcases this with rfl | rfl <;> simp [va_up]
            · simp [va_up, show ¬ 6 * pS P + 2 * z + i = 6 * pS P + 2 * l + 1 by omega, show ¬ 6 * pS P + 2 * z + i = 6 * pS P + 2 * l by omega]
              rw [x2.1 114 (by omega)]
              exact g4 z (by omega) i hi2
          · obtain ⟨a1, a2, a3, a4, a5, a6, a7, a8, a9⟩ := gR2
            refine ⟨by simp [va_up, hn6], by omega, by simp [va_up]; exact a3, by simp [va_up]; exact a4, by simp [va_up]; exact a5, by simp [va_up]; exact a6, fun s hs z hz i hi2 => ?_, by simp [va_up]; exact a8, a9⟩
            simp [va_up, show ¬ 6 * s + 2 * z + i = 6 * pS P + 2 * l + 1 by omega, show ¬ 6 * s + 2 * z + i = 6 * pS P + 2 * l by omega]
            exact a7 s hs z hz i hi2
        · refine q_iconst (v := nI 0) G (pc := 22) dX11_readsStrip_22 (by decide) ?_
          refine q_iret G (pc := 23) dX11_readsStrip_23 (Or.inr ⟨rfl, by decide⟩) ?_
          exact ⟨rfl, _, rfl, g6.trans x2.sc, Or.inl ⟨_, by rw [badS_some (by omega) g3 (fun z => c19 ((row_is hle (by omega)).mpr z))], rfl, x1, hle⟩⟩
  exact L2 _ 0 hi (Nat.lt_succ_self _) (by omega) (fun j hj => absurd hj (Nat.not_lt_zero _)) (fun z hz => absurd hz (Nat.not_lt_zero _)) (by rw [hpq] at hR; exact hR) msc.rf
set_option maxHeartbeats 2000000 in
theorem m_readsWord {d : Nat} (hd : 4 ≤ d) {hi : mm_HI} {τ : mm_T} {sw : Bool} (hτ : τ.1 = mm_hr sw) {b : Nat → Nat} {N p k : Nat} {P : PG} (hT : txM hi b N) (hR : rdM hi b N P k p) (hW8 : (pW P).length < 8) : wI d yX11_readsWord [.ref 106] hi τ (rsM (if okW b N (skp b N p) then stpM b N (tke b N (skp b N p)) (pL P, pS P, pG P, pW P ++ [uw b (skp b N p) (tke b N (skp b N p) - (skp b N p))]) else .inl (skp b N p)) b N k hi) := by
  refine w_intro (by omega) M_X11_readsWord (Nat.le_of_ble_eq_true rfl) rfl ?_
  intro e X he G
  show X 0 [some (.ref (106)), none, none, none] [] hi τ 125
  have hN150 := hT.2.1
  have hpN := hR.2.1
  obtain ⟨o1, o2, o3, o4, o5, o6⟩ := id hR.2.2.2.2.2.2.2.2
  refine q_aload_n G (pc := 0) dX11_readsWord_0 rfl ?_
  refine q_cV0V G (pc := 1) dX11_readsWord_1 cv_X11_92 rfl (m_skip (by omega) hτ hT hR.1 hpN) (Nat.le_of_ble_eq_true rfl) ?_
  intro hk hx
  obtain ⟨x1, x2⟩ := hx
  have hsl := skp_le (b := b) (N := N) hpN
  have hTk := hT.a x2
  refine q_aload_n G (pc := 4) dX11_readsWord_4 rfl ?_
  refine q_cV0E G (pc := 5) dX11_readsWord_5 cv_X11_102 rfl (m_rowSize (by omega) hτ hTk x1 hsl.2) (Nat.le_of_ble_eq_true rfl) ?_
  obtain ⟨nw, hnw⟩ : ∃ nw, nw = ren b N 1 (skp b N p) - (skp b N p) := ⟨_, rfl⟩
  rw [← hnw]
  have hrl := ren_le (b := b) (k := 1) hsl.2
  have htn : 1 ≤ nw → tkn b N (skp b N p) = 1 ∧ tke b N (skp b N p) = (skp b N p) + nw := fun z => (row_is hsl.2 z).mp hnw.symm
  refine q_istore_n G (pc := 8) dX11_readsWord_8 (by decide) ?_
  show X _ [_, _, _, _] _ _ _ _
  refine q_iload_n G (pc := 9) dX11_readsWord_9 rfl ?_
  refine q_iconst (v := nI 1) G (pc := 10) dX11_readsWord_10 (by decide) ?_
  refine q_bipush (v := nI 6) G (pc := 11) dX11_readsWord_11 (by decide) ?_
  refine q_cS3B G (pc := 13) dX11_readsWord_13 cs_X11_71 (m_in (by omega)) (Nat.le_of_ble_eq_true rfl) (fun c13 => ?_) (fun c13 => ?_)
  · have hn1 := (nI_leI (by omega) (by omega)).mp c13.1
    have hn2 := (nI_leI (by omega) (by omega)).mp c13.2
    refine q_istore_n G (pc := 16) dX11_readsWord_16 (by decide) ?_
    show X _ [_, _, _, _] _ _ _ _
    refine q_iconst (v := nI 0) G (pc := 17) dX11_readsWord_17 (by decide) ?_
    refine q_istore_n G (pc := 18) dX11_readsWord_18 (by decide) ?_
    show X _ [_, _, _, _] _ _ _ _
    have L19 : ∀ (zz : Nat) (j iv : Nat), nw - j < zz → j ≤ nw → iv < 2 → (iv = 1 → (1 ≤ nw ∧ nw ≤ 6) ∧ ∀ y, y < j → cod (b ((skp b N p) + y)) ≠ 26) → (iv = 0 → ¬ okW b N (skp b N p)) → X 19 [some (.ref (106)), some (.int (nI (nw))), some (.int (nI (iv))), some (.int (nI (j)))] [] hk τ 125 := by
      intro zz
      induction zz with
      | zero => intro j iv hm; exact absurd hm (Nat.not_lt_zero _)
      | succ zz ih19 =>
        intro j iv hm h0 h1 g2 g3
        refine q_iload_n G (pc := 19) dX11_readsWord_19 rfl ?_
        refine q_iload_n G (pc := 20) dX11_readsWord_20 rfl ?_
        refine q_icmp_geN (tgt := 49) G (pc := 21) dX11_readsWord_21 (by decide) (by omega) (by omega) (fun c21 => ?_) (fun c21 => ?_)
        · refine q_iload_n G (pc := 49) dX11_readsWord_49 rfl ?_
          refine q_if_neN (tgt := 55) G (pc := 50) dX11_readsWord_50 (by decide) (by omega) (fun c50 => ?_) (fun c50 => ?_)
          · have hiv : iv = 1 := by omega
            obtain ⟨⟨hm1, hm2⟩, hm3⟩ := g2 hiv
            obtain ⟨ht1, ht2⟩ := htn hm1
            have hok : okW b N (skp b N p) := ⟨ht1, by omega, fun y hy => hm3 y (by omega)⟩
            refine q_iconst (v := nI 0) G (pc := 55) dX11_readsWord_55 (by decide) ?_
            refine q_istore_n G (pc := 56) dX11_readsWord_56 (by decide) ?_
            show X _ [_, _, _, _] _ _ _ _
            have L57 : ∀ (zz : Nat) (i : Nat) (hk2 : mm_HI), nw - i < zz → i ≤ nw → rdM hk2 b N P k (skp b N p) → (∀ y, y < i → hk2 115 (6 * (pW P).length + y) = nI (b ((skp b N p) + y))) → msc hi hk2 → X 57 [some (.ref (106)), some (.int (nI (nw))), some (.int (nI (iv))), some (.int (nI (i)))] [] hk2 τ 125 := by
              intro zz
              induction zz with
              | zero => intro i hk2 hm; exact absurd hm (Nat.not_lt_zero _)
              | succ zz ih57 =>
                intro i hk2 hm h2 gR g4 g6
                refine q_iload_n G (pc := 57) dX11_readsWord_57 rfl ?_
                refine q_iload_n G (pc := 58) dX11_readsWord_58 rfl ?_
                refine q_icmp_geN (tgt := 93) G (pc := 59) dX11_readsWord_59 (by decide) (by omega) (by omega) (fun c59 => ?_) (fun c59 => ?_)
                · refine q_aload_n G (pc := 93) dX11_readsWord_93 rfl ?_
                  refine q_getR (x := 116) G (pc := 94) dX11_readsWord_94 fl_X11_41_10 rfl (hg hτ (hf_10_22 rfl)) ?_
                  refine q_aload_n G (pc := 97) dX11_readsWord_97 rfl ?_
                  refine q_getI (v := nI ((pW P).length)) G (pc := 98) dX11_readsWord_98 fl_X11_112_10 (by decide) rfl gR.2.2.2.2.1 ?_
                  refine q_iload_n G (pc := 101) dX11_readsWord_101 rfl ?_
                  refine q_iast (j := (pW P).length) G (pc := 102) dX11_readsWord_102 rfl rfl (by omega) ?_
                  refine q_aload_n G (pc := 103) dX11_readsWord_103 rfl ?_
                  refine q_dup G (pc := 104) dX11_readsWord_104 rfl ?_
                  refine q_getI (v := nI ((pW P).length)) G (pc := 105) dX11_readsWord_105 fl_X11_112_10 (by decide) rfl (by simp [va_up]; exact gR.2.2.2.2.1) ?_
                  refine q_iconst (v := nI 1) G (pc := 108) dX11_readsWord_108 (by decide) ?_
                  refine q_iaddN G (pc := 109) dX11_readsWord_109 ?_
                  refine q_putI G (pc := 110) dX11_readsWord_110 fl_X11_112_10 rfl ?_
                  refine q_aload_n G (pc := 113) dX11_readsWord_113 rfl ?_
                  refine q_dup G (pc := 114) dX11_readsWord_114 rfl ?_
                  refine q_getI (v := nI ((skp b N p))) G (pc := 115) dX11_readsWord_115 fl_X11_81_10 (by decide) rfl (by simp [va_up]; exact gR.1) ?_
                  refine q_iload_n G (pc := 118) dX11_readsWord_118 rfl ?_
                  refine q_iaddN G (pc := 119) dX11_readsWord_119 ?_
                  refine q_putI G (pc := 120) dX11_readsWord_120 fl_X11_81_10 rfl ?_
                  refine q_aload_n G (pc := 123) dX11_readsWord_123 rfl ?_
                  have hs2 : msc hk2 (mm_up2 (mm_up2 (mm_up2 hk2 116 (pW P).length (nI nw)) 106 18 (nI ((pW P).length + 1))) 106 15 (nI ((skp b N p) + nw))) := ((msc.arr (by omega)).trans (msc.fld (by omega) (by omega))).trans (msc.fld (by omega) (by omega))
                  have htN := tke_le (b := b) hsl.2
                  have hR2 : rdM (mm_up2 (mm_up2 (mm_up2 hk2 116 (pW P).length (nI nw)) 106 18 (nI ((pW P).length + 1))) 106 15 (nI ((skp b N p) + nw))) b N (pL P, pS P, pG P, pW P ++ [uw b (skp b N p) (tke b N (skp b N p) - (skp b N p))]) k (tke b N (skp b N p)) := by
                    obtain ⟨a1, a2, a3, a4, a5, a6, a7, a8, a9⟩ := gR
                    have hul : (uw b (skp b N p) (tke b N (skp b N p) - (skp b N p))).length = nw := by rw [uw_len, ht2]; omega
                    refine ⟨by simp [va_up, ht2], by omega, by simp [va_up]; exact a3, by simp [va_up]; exact a4, by show _ = nI (pW P ++ [_]).length; simp [va_up], by simp [va_up]; exact a6, by simp [va_up]; exact a7, fun w hw => ?_, ⟨o1, o2, o3, o4, by show (pW P ++ [_]).length ≤ 8; simp; omega, fun u hu => ?_⟩⟩
                    · have hw2 : w < (pW P).length + 1 := by have : w < (pW P ++ [uw b (skp b N p) (tke b N (skp b N p) - (skp b N p))]).length := hw; simpa using this
                      show _ = nI ((pW P ++ [uw b (skp b N p) (tke b N (skp b N p) - (skp b N p))]).getD w []).length ∧ ∀ i, i < ((pW P ++ [uw b (skp b N p) (tke b N (skp b N p) - (skp b N p))]).getD w []).length → _ = nI (bytN (((pW P ++ [uw b (skp b N p) (tke b N (skp b N p) - (skp b N p))]).getD w []).getD i 0))
                      by_cases e : w = (pW P).length
                      · subst e
                        rw [show (pW P ++ [uw b (skp b N p) (tke b N (skp b N p) - (skp b N p))]).getD (pW P).length [] = uw b (skp b N p) (tke b N (skp b N p) - (skp b N p)) by simp [List.getD_eq_getElem?_getD], hul]
                        refine ⟨by simp [va_up], fun i hi2 => ?_⟩
                        have e3 : (mm_up2 (mm_up2 (mm_up2 hk2 116 (pW P).length (nI nw)) 106 18 (nI ((pW P).length + 1))) 106 15 (nI ((skp b N p) + nw))) 115 (6 * (pW P).length + i) = hk2 115 (6 * (pW P).length + i) := by simp [va_up]
                        rw [e3, g4 i (by omega), uw_get (by omega), bytN_cod (tke_row (j := (skp b N p) + i) ht1 (by omega) (by omega)).2]
                      · rw [show (pW P ++ [uw b (skp b N p) (tke b N (skp b N p) - (skp b N p))]).getD w [] = (pW P).getD w [] by rw [List.getD_eq_getElem?_getD, List.getD_eq_getElem?_getD, List.getElem?_append_left (by omega)]]
                        obtain ⟨w1, w2⟩ := a8 w (by omega)
                        exact ⟨by simp [va_up, e]; exact w1, fun i hi2 => by simp [va_up]; exact w2 i hi2⟩
                    · rcases List.mem_append.mp hu with q | q
                      · exact o6 u q
                      · rw [List.mem_singleton.mp q]
                        exact ⟨by omega, by omega, uw_26 ht1 hok.2.2⟩
                  refine q_cV0I G (pc := 124) dX11_readsWord_124 cv_X11_98 rfl (m_ends (by omega) hτ (hT.sc (g6.trans hs2)) hR2.1 hR2.2.1) (Nat.le_of_ble_eq_true rfl) ?_
                  intro xe hk3 hy
                  have hz := (ends_rs hR2 hy).pre (g6.trans hs2)
                  refine q_iret G (pc := 127) dX11_readsWord_127 (Or.inr ⟨rfl, by rcases hz.2 with ⟨_, _, e, _⟩ | ⟨_, _, _, e, _⟩ <;> rw [e] <;> decide⟩) ?_
                  exact ⟨rfl, _, rfl, by rw [if_pos hok]; exact hz⟩
                · refine q_aload_n G (pc := 62) dX11_readsWord_62 rfl ?_
                  refine q_getR (x := 115) G (pc := 63) dX11_readsWord_63 fl_X11_38_10 rfl (hg hτ (hf_10_21 rfl)) ?_
                  refine q_bipush (v := nI 6) G (pc := 66) dX11_readsWord_66 (by decide) ?_
                  refine q_aload_n G (pc := 68) dX11_readsWord_68 rfl ?_
                  refine q_getI (v := nI ((pW P).length)) G (pc := 69) dX11_readsWord_69 fl_X11_112_10 (by decide) rfl gR.2.2.2.2.1 ?_
                  refine q_imulN G (pc := 72) dX11_readsWord_72 ?_
                  refine q_iload_n G (pc := 73) dX11_readsWord_73 rfl ?_
                  refine q_iaddN G (pc := 74) dX11_readsWord_74 ?_
                  refine q_aload_n G (pc := 75) dX11_readsWord_75 rfl ?_
                  refine q_getR (x := 113) G (pc := 76) dX11_readsWord_76 fl_X11_32_10 rfl (hg hτ (hf_10_13 rfl)) ?_
                  refine q_aload_n G (pc := 79) dX11_readsWord_79 rfl ?_
                  refine q_getI (v := nI ((skp b N p))) G (pc := 80) dX11_readsWord_80 fl_X11_81_10 (by decide) rfl gR.1 ?_
                  refine q_iload_n G (pc := 83) dX11_readsWord_83 rfl ?_
                  refine q_iaddN G (pc := 84) dX11_readsWord_84 ?_
                  refine q_iald (j := (skp b N p) + i) (v := nI (b ((skp b N p) + i))) G (pc := 85) dX11_readsWord_85 rfl rfl (by omega) ((hT.sc g6).2.2.1 _ (tke_row (j := (skp b N p) + i) ht1 (by omega) (by omega)).1) ?_
                  refine q_iast (j := 6 * ((pW P).length) + i) G (pc := 86) dX11_readsWord_86 rfl rfl (by omega) ?_
                  refine q_iincN G (pc := 87) dX11_readsWord_87 rfl (inc1 _) (by decide) ?_
                  show X _ [_, _, _, _] _ _ _ _
                  refine q_goto (tgt := 57) G (pc := 90) dX11_readsWord_90 (by decide) ?_
                  refine ih57 (i + 1) _ (by omega) (by omega) ?_ (fun y hy => ?_) (g6.trans (msc.arr (by omega)))
                  · obtain ⟨a1, a2, a3, a4, a5, a6, a7, a8, a9⟩ := gR
                    refine ⟨by simp [va_up]; exact a1, a2, by simp [va_up]; exact a3, by simp [va_up]; exact a4, by simp [va_up]; exact a5, by simp [va_up]; exact a6, by simp [va_up]; exact a7, fun w hw => ?_, a9⟩
                    obtain ⟨w1, w2⟩ := a8 w hw
                    have hl : ((pW P).getD w []).length ≤ 6 := (o6 _ (by rw [List.getD_eq_getElem?_getD, List.getElem?_eq_getElem hw]; exact List.getElem_mem _)).2.1
                    exact ⟨by simp [va_up]; exact w1, fun z hz => by simp [va_up, show ¬ 6 * w + z = 6 * (pW P).length + i by omega]; exact w2 z hz⟩
                  · by_cases e : y = i
                    · subst e; simp [va_up]
                    · simp [va_up, e]; exact g4 y (by omega)
            exact L57 _ 0 hk (Nat.lt_succ_self _) (by omega) (hR.a x2 x1 hsl.2) (fun y hy => absurd hy (Nat.not_lt_zero _)) x2.sc
          · refine q_iconst (v := nI 0) G (pc := 53) dX11_readsWord_53 (by decide) ?_
            refine q_iret G (pc := 54) dX11_readsWord_54 (Or.inr ⟨rfl, by decide⟩) ?_
            exact ⟨rfl, _, rfl, x2.sc, Or.inl ⟨_, if_neg (g3 (by omega)), rfl, x1, hsl.2⟩⟩
        · have hnw1 : 1 ≤ nw := by omega
          obtain ⟨ht1, ht2⟩ := htn hnw1
          have hrj := (tke_row (j := (skp b N p) + j) ht1 (by omega) (by omega)).2
          have hjN := (tke_row (j := (skp b N p) + j) ht1 (by omega) (by omega)).1
          refine q_iload_n G (pc := 24) dX11_readsWord_24 rfl ?_
          refine q_if_eqN (tgt := 49) G (pc := 25) dX11_readsWord_25 (by decide) (by omega) (fun c25 => ?_) (fun c25 => ?_)
          · refine q_iload_n G (pc := 49) dX11_readsWord_49 rfl ?_
            refine q_if_neN (tgt := 55) G (pc := 50) dX11_readsWord_50 (by decide) (by omega) (fun c50 => ?_) (fun c50 => ?_)
            · have hiv : iv = 1 := by omega
              obtain ⟨⟨hm1, hm2⟩, hm3⟩ := g2 hiv
              obtain ⟨ht1, ht2⟩ := htn hm1
              have hok : okW b N (skp b N p) := ⟨ht1, by omega, fun y hy => hm3 y (by omega)⟩
              refine q_iconst (v := nI 0) G (pc := 55) dX11_readsWord_55 (by decide) ?_
              refine q_istore_n G (pc := 56) dX11_readsWord_56 (by decide) ?_
              show X _ [_, _, _, _] _ _ _ _
              have L57 : ∀ (zz : Nat) (i : Nat) (hk2 : mm_HI), nw - i < zz → i ≤ nw → rdM hk2 b N P k (skp b N p) → (∀ y, y < i → hk2 115 (6 * (pW P).length + y) = nI (b ((skp b N p) + y))) → msc hi hk2 → X 57 [some (.ref (106)), some (.int (nI (nw))), some (.int (nI (iv))), some (.int (nI (i)))] [] hk2 τ 125 := by
                intro zz
                induction zz with
                | zero => intro i hk2 hm; exact absurd hm (Nat.not_lt_zero _)
                | succ zz ih57 =>
                  intro i hk2 hm h2 gR g4 g6
                  refine q_iload_n G (pc := 57) dX11_readsWord_57 rfl ?_
                  refine q_iload_n G (pc := 58) dX11_readsWord_58 rfl ?_
                  refine q_icmp_geN (tgt := 93) G (pc := 59) dX11_readsWord_59 (by decide) (by omega) (by omega) (fun c59 => ?_) (fun c59 => ?_)
                  · refine q_aload_n G (pc := 93) dX11_readsWord_93 rfl ?_
                    refine q_getR (x := 116) G (pc := 94) dX11_readsWord_94 fl_X11_41_10 rfl (hg hτ (hf_10_22 rfl)) ?_
                    refine q_aload_n G (pc := 97) dX11_readsWord_97 rfl ?_
                    refine q_getI (v := nI ((pW P).length)) G (pc := 98) dX11_readsWord_98 fl_X11_112_10 (by decide) rfl gR.2.2.2.2.1 ?_
                    refine q_iload_n G (pc := 101) dX11_readsWord_101 rfl ?_
                    refine q_iast (j := (pW P).length) G (pc := 102) dX11_readsWord_102 rfl rfl (by omega) ?_
                    refine q_aload_n G (pc := 103) dX11_readsWord_103 rfl ?_
                    refine q_dup G (pc := 104) dX11_readsWord_104 rfl ?_
                    refine q_getI (v := nI ((pW P).length)) G (pc := 105) dX11_readsWord_105 fl_X11_112_10 (by decide) rfl (by simp [va_up]; exact gR.2.2.2.2.1) ?_
                    refine q_iconst (v := nI 1) G (pc := 108) dX11_readsWord_108 (by decide) ?_
                    refine q_iaddN G (pc := 109) dX11_readsWord_109 ?_
                    refine q_putI G (pc := 110) dX11_readsWord_110 fl_X11_112_10 rfl ?_
                    refine q_aload_n G (pc := 113) dX11_readsWord_113 rfl ?_
                    refine q_dup G (pc := 114) dX11_readsWord_114 rfl ?_
                    refine q_getI (v := nI ((skp b N p))) G (pc := 115) dX11_readsWord_115 fl_X11_81_10 (by decide) rfl (by simp [va_up]; exact gR.1) ?_
                    refine q_iload_n G (pc := 118) dX11_readsWord_118 rfl ?_
                    refine q_iaddN G (pc := 119) dX11_readsWord_119 ?_
                    refine q_putI G (pc := 120) dX11_readsWord_120 fl_X11_81_10 rfl ?_
                    refine q_aload_n G (pc := 123) dX11_readsWord_123 rfl ?_
                    have hs2 : msc hk2 (mm_up2 (mm_up2 (mm_up2 hk2 116 (pW P).length (nI nw)) 106 18 (nI ((pW P).length + 1))) 106 15 (nI ((skp b N p) + nw))) := ((msc.arr (by omega)).trans (msc.fld (by omega) (by omega))).trans (msc.fld (by omega) (by omega))
                    have htN := tke_le (b := b) hsl.2
                    have hR2 : rdM (mm_up2 (mm_up2 (mm_up2 hk2 116 (pW P).length (nI nw)) 106 18 (nI ((pW P).length + 1))) 106 15 (nI ((skp b N p) + nw))) b N (pL P, pS P, pG P, pW P ++ [uw b (skp b N p) (tke b N (skp b N p) - (skp b N p))]) k (tke b N (skp b N p)) := by
                      obtain ⟨a1, a2, a3, a4, a5, a6, a7, a8, a9⟩ := gR
                      have hul : (uw b (skp b N p) (tke b N (skp b N p) - (skp b N p))).length = nw := by rw [uw_len, ht2]; omega
                      refine ⟨by simp [va_up, ht2], by omega, by simp [va_up]; exact a3, by simp [va_up]; exact a4, by show _ = nI (pW P ++ [_]).length; simp [va_up], by simp [va_up]; exact a6, by simp [va_up]; exact a7, fun w hw => ?_, ⟨o1, o2, o3, o4, by show (pW P ++ [_]).length ≤ 8; simp; omega, fun u hu => ?_⟩⟩
                      · have hw2 : w < (pW P).length + 1 := by have : w < (pW P ++ [uw b (skp b N p) (tke b N (skp b N p) - (skp b N p))]).length := hw; simpa using this
                        show _ = nI ((pW P ++ [uw b (skp b N p) (tke b N (skp b N p) - (skp b N p))]).getD w []).length ∧ ∀ i, i < ((pW P ++ [uw b (skp b N p) (tke b N (skp b N p) - (skp b N p))]).getD w []).length → _ = nI (bytN (((pW P ++ [uw b (skp b N p) (tke b N (skp b N p) - (skp b N p))]).getD w []).getD i 0))
                        by_cases e : w = (pW P).length
                        · subst e
                          rw [show (pW P ++ [uw b (skp b N p) (tke b N (skp b N p) - (skp b N p))]).getD (pW P).length [] = uw b (skp b N p) (tke b N (skp b N p) - (skp b N p)) by simp [List.getD_eq_getElem?_getD], hul]
                          refine ⟨by simp [va_up], fun i hi2 => ?_⟩
                          have e3 : (mm_up2 (mm_up2 (mm_up2 hk2 116 (pW P).length (nI nw)) 106 18 (nI ((pW P).length + 1))) 106 15 (nI ((skp b N p) + nw))) 115 (6 * (pW P).length + i) = hk2 115 (6 * (pW P).length + i) := by simp [va_up]
                          rw [e3, g4 i (by omega), uw_get (by omega), bytN_cod (tke_row (j := (skp b N p) + i) ht1 (by omega) (by omega)).2]
                        · rw [show (pW P ++ [uw b (skp b N p) (tke b N (skp b N p) - (skp b N p))]).getD w [] = (pW P).getD w [] by rw [List.getD_eq_getElem?_getD, List.getD_eq_getElem?_getD, List.getElem?_append_left (by omega)]]
                          obtain ⟨w1, w2⟩ := a8 w (by omega)
                          exact ⟨by simp [va_up, e]; exact w1, fun i hi2 => by simp [va_up]; exact w2 i hi2⟩
                      · rcases List.mem_append.mp hu with q | q
                        · exact o6 u q
                        · rw [List.mem_singleton.mp q]
                          exact ⟨by omega, by omega, uw_26 ht1 hok.2.2⟩
                    refine q_cV0I G (pc := 124) dX11_readsWord_124 cv_X11_98 rfl (m_ends (by omega) hτ (hT.sc (g6.trans hs2)) hR2.1 hR2.2.1) (Nat.le_of_ble_eq_true rfl) ?_
                    intro xe hk3 hy
                    have hz := (ends_rs hR2 hy).pre (g6.trans hs2)
                    refine q_iret G (pc := 127) dX11_readsWord_127 (Or.inr ⟨rfl, by rcases hz.2 with ⟨_, _, e, _⟩ | ⟨_, _, _, e, _⟩ <;> rw [e] <;> decide⟩) ?_
                    exact ⟨rfl, _, rfl, by rw [if_pos hok]; exact hz⟩
                  · refine q_aload_n G (pc := 62) dX11_readsWord_62 rfl ?_
                    refine q_getR (x := 115) G (pc := 63) dX11_readsWord_63 fl_X11_38_10 rfl (hg hτ (hf_10_21 rfl)) ?_
                    refine q_bipush (v := nI 6) G (pc := 66) dX11_readsWord_66 (by decide) ?_
                    refine q_aload_n G (pc := 68) dX11_readsWord_68 rfl ?_
                    refine q_getI (v := nI ((pW P).length)) G (pc := 69) dX11_readsWord_69 fl_X11_112_10 (by decide) rfl gR.2.2.2.2.1 ?_
                    refine q_imulN G (pc := 72) dX11_readsWord_72 ?_
                    refine q_iload_n G (pc := 73) dX11_readsWord_73 rfl ?_
                    refine q_iaddN G (pc := 74) dX11_readsWord_74 ?_
                    refine q_aload_n G (pc := 75) dX11_readsWord_75 rfl ?_
                    refine q_getR (x := 113) G (pc := 76) dX11_readsWord_76 fl_X11_32_10 rfl (hg hτ (hf_10_13 rfl)) ?_
                    refine q_aload_n G (pc := 79) dX11_readsWord_79 rfl ?_
                    refine q_getI (v := nI ((skp b N p))) G (pc := 80) dX11_readsWord_80 fl_X11_81_10 (by decide) rfl gR.1 ?_
                    refine q_iload_n G (pc := 83) dX11_readsWord_83 rfl ?_
                    refine q_iaddN G (pc := 84) dX11_readsWord_84 ?_
                    refine q_iald (j := (skp b N p) + i) (v := nI (b ((skp b N p) + i))) G (pc := 85) dX11_readsWord_85 rfl rfl (by omega) ((hT.sc g6).2.2.1 _ (tke_row (j := (skp b N p) + i) ht1 (by omega) (by omega)).1) ?_
                    refine q_iast (j := 6 * ((pW P).length) + i) G (pc := 86) dX11_readsWord_86 rfl rfl (by omega) ?_
                    refine q_iincN G (pc := 87) dX11_readsWord_87 rfl (inc1 _) (by decide) ?_
                    show X _ [_, _, _, _] _ _ _ _
                    refine q_goto (tgt := 57) G (pc := 90) dX11_readsWord_90 (by decide) ?_
                    refine ih57 (i + 1) _ (by omega) (by omega) ?_ (fun y hy => ?_) (g6.trans (msc.arr (by omega)))
                    · obtain ⟨a1, a2, a3, a4, a5, a6, a7, a8, a9⟩ := gR
                      refine ⟨by simp [va_up]; exact a1, a2, by simp [va_up]; exact a3, by simp [va_up]; exact a4, by simp [va_up]; exact a5, by simp [va_up]; exact a6, by simp [va_up]; exact a7, fun w hw => ?_, a9⟩
                      obtain ⟨w1, w2⟩ := a8 w hw
                      have hl : ((pW P).getD w []).length ≤ 6 := (o6 _ (by rw [List.getD_eq_getElem?_getD, List.getElem?_eq_getElem hw]; exact List.getElem_mem _)).2.1
                      exact ⟨by simp [va_up]; exact w1, fun z hz => by simp [va_up, show ¬ 6 * w + z = 6 * (pW P).length + i by omega]; exact w2 z hz⟩
                    · by_cases e : y = i
                      · subst e; simp [va_up]
                      · simp [va_up, e]; exact g4 y (by omega)
              exact L57 _ 0 hk (Nat.lt_succ_self _) (by omega) (hR.a x2 x1 hsl.2) (fun y hy => absurd hy (Nat.not_lt_zero _)) x2.sc
            · refine q_iconst (v := nI 0) G (pc := 53) dX11_readsWord_53 (by decide) ?_
              refine q_iret G (pc := 54) dX11_readsWord_54 (Or.inr ⟨rfl, by decide⟩) ?_
              exact ⟨rfl, _, rfl, x2.sc, Or.inl ⟨_, if_neg (g3 (by omega)), rfl, x1, hsl.2⟩⟩
          · have hiv : iv = 1 := by omega
            refine q_aload_n G (pc := 28) dX11_readsWord_28 rfl ?_
            refine q_getR (x := 113) G (pc := 29) dX11_readsWord_29 fl_X11_32_10 rfl (hg hτ (hf_10_13 rfl)) ?_
            refine q_aload_n G (pc := 32) dX11_readsWord_32 rfl ?_
            refine q_getI (v := nI ((skp b N p))) G (pc := 33) dX11_readsWord_33 fl_X11_81_10 (by decide) rfl x1 ?_
            refine q_iload_n G (pc := 36) dX11_readsWord_36 rfl ?_
            refine q_iaddN G (pc := 37) dX11_readsWord_37 ?_
            refine q_iald (j := (skp b N p) + j) (v := nI (b ((skp b N p) + j))) G (pc := 38) dX11_readsWord_38 rfl rfl (by omega) (hTk.2.2.1 _ hjN) ?_
            have hb255 := hT.2.2.2 ((skp b N p) + j)
            refine q_cS1B G (pc := 39) dX11_readsWord_39 cs_X11_88 (m_isLetter (by omega) (by omega)) (Nat.le_of_ble_eq_true rfl) (fun c39 => ?_) (fun c39 => ?_)
            · refine q_istore_n G (pc := 42) dX11_readsWord_42 (by decide) ?_
              show X _ [_, _, _, _] _ _ _ _
              refine q_iincN G (pc := 43) dX11_readsWord_43 rfl (inc1 _) (by decide) ?_
              show X _ [_, _, _, _] _ _ _ _
              refine q_goto (tgt := 19) G (pc := 46) dX11_readsWord_46 (by decide) ?_
              refine ih19 (j + 1) 1 (by omega) (by omega) (by omega) (fun _ => ⟨(g2 hiv).1, fun y hy => ?_⟩) (fun z => absurd z (by decide))
              by_cases e : y = j
              · subst e; exact (cod_let hrj).mpr c39
              · exact (g2 hiv).2 y (by omega)
            · refine q_istore_n G (pc := 42) dX11_readsWord_42 (by decide) ?_
              show X _ [_, _, _, _] _ _ _ _
              refine q_iincN G (pc := 43) dX11_readsWord_43 rfl (inc1 _) (by decide) ?_
              show X _ [_, _, _, _] _ _ _ _
              refine q_goto (tgt := 19) G (pc := 46) dX11_readsWord_46 (by decide) ?_
              refine ih19 (j + 1) 0 (by omega) (by omega) (by omega) (fun z => absurd z (by decide)) (fun _ hw => ?_)
              exact (fun z => c39 ((cod_let hrj).mp z)) (hw.2.2 j (by rw [← ren_tke hw.1]; omega))
    exact L19 _ 0 1 (Nat.lt_succ_self _) (by omega) (by omega) (fun _ => ⟨⟨hn1, hn2⟩, fun y hy => absurd hy (Nat.not_lt_zero _)⟩) (fun z => absurd z (by decide))
  · refine q_istore_n G (pc := 16) dX11_readsWord_16 (by decide) ?_
    show X _ [_, _, _, _] _ _ _ _
    refine q_iconst (v := nI 0) G (pc := 17) dX11_readsWord_17 (by decide) ?_
    refine q_istore_n G (pc := 18) dX11_readsWord_18 (by decide) ?_
    show X _ [_, _, _, _] _ _ _ _
    have L19 : ∀ (zz : Nat) (j iv : Nat), nw - j < zz → j ≤ nw → iv < 2 → (iv = 1 → (1 ≤ nw ∧ nw ≤ 6) ∧ ∀ y, y < j → cod (b ((skp b N p) + y)) ≠ 26) → (iv = 0 → ¬ okW b N (skp b N p)) → X 19 [some (.ref (106)), some (.int (nI (nw))), some (.int (nI (iv))), some (.int (nI (j)))] [] hk τ 125 := by
      intro zz
      induction zz with
      | zero => intro j iv hm; exact absurd hm (Nat.not_lt_zero _)
      | succ zz ih19 =>
        intro j iv hm h0 h1 g2 g3
        refine q_iload_n G (pc := 19) dX11_readsWord_19 rfl ?_
        refine q_iload_n G (pc := 20) dX11_readsWord_20 rfl ?_
        refine q_icmp_geN (tgt := 49) G (pc := 21) dX11_readsWord_21 (by decide) (by omega) (by omega) (fun c21 => ?_) (fun c21 => ?_)
        · refine q_iload_n G (pc := 49) dX11_readsWord_49 rfl ?_
          refine q_if_neN (tgt := 55) G (pc := 50) dX11_readsWord_50 (by decide) (by omega) (fun c50 => ?_) (fun c50 => ?_)
          · have hiv : iv = 1 := by omega
            obtain ⟨⟨hm1, hm2⟩, hm3⟩ := g2 hiv
            obtain ⟨ht1, ht2⟩ := htn hm1
            have hok : okW b N (skp b N p) := ⟨ht1, by omega, fun y hy => hm3 y (by omega)⟩
            refine q_iconst (v := nI 0) G (pc := 55) dX11_readsWord_55 (by decide) ?_
            refine q_istore_n G (pc := 56) dX11_readsWord_56 (by decide) ?_
            show X _ [_, _, _, _] _ _ _ _
            have L57 : ∀ (zz : Nat) (i : Nat) (hk2 : mm_HI), nw - i < zz → i ≤ nw → rdM hk2 b N P k (skp b N p) → (∀ y, y < i → hk2 115 (6 * (pW P).length + y) = nI (b ((skp b N p) + y))) → msc hi hk2 → X 57 [some (.ref (106)), some (.int (nI (nw))), some (.int (nI (iv))), some (.int (nI (i)))] [] hk2 τ 125 := by
              intro zz
              induction zz with
              | zero => intro i hk2 hm; exact absurd hm (Nat.not_lt_zero _)
              | succ zz ih57 =>
                intro i hk2 hm h2 gR g4 g6
                refine q_iload_n G (pc := 57) dX11_readsWord_57 rfl ?_
                refine q_iload_n G (pc := 58) dX11_readsWord_58 rfl ?_
                refine q_icmp_geN (tgt := 93) G (pc := 59) dX11_readsWord_59 (by decide) (by omega) (by omega) (fun c59 => ?_) (fun c59 => ?_)
                · refine q_aload_n G (pc := 93) dX11_readsWord_93 rfl ?_
                  refine q_getR (x := 116) G (pc := 94) dX11_readsWord_94 fl_X11_41_10 rfl (hg hτ (hf_10_22 rfl)) ?_
                  refine q_aload_n G (pc := 97) dX11_readsWord_97 rfl ?_
                  refine q_getI (v := nI ((pW P).length)) G (pc := 98) dX11_readsWord_98 fl_X11_112_10 (by decide) rfl gR.2.2.2.2.1 ?_
                  refine q_iload_n G (pc := 101) dX11_readsWord_101 rfl ?_
                  refine q_iast (j := (pW P).length) G (pc := 102) dX11_readsWord_102 rfl rfl (by omega) ?_
                  refine q_aload_n G (pc := 103) dX11_readsWord_103 rfl ?_
                  refine q_dup G (pc := 104) dX11_readsWord_104 rfl ?_
                  refine q_getI (v := nI ((pW P).length)) G (pc := 105) dX11_readsWord_105 fl_X11_112_10 (by decide) rfl (by simp [va_up]; exact gR.2.2.2.2.1) ?_
                  refine q_iconst (v := nI 1) G (pc := 108) dX11_readsWord_108 (by decide) ?_
                  refine q_iaddN G (pc := 109) dX11_readsWord_109 ?_
                  refine q_putI G (pc := 110) dX11_readsWord_110 fl_X11_112_10 rfl ?_
                  refine q_aload_n G (pc := 113) dX11_readsWord_113 rfl ?_
                  refine q_dup G (pc := 114) dX11_readsWord_114 rfl ?_
                  refine q_getI (v := nI ((skp b N p))) G (pc := 115) dX11_readsWord_115 fl_X11_81_10 (by decide) rfl (by simp [va_up]; exact gR.1) ?_
                  refine q_iload_n G (pc := 118) dX11_readsWord_118 rfl ?_
                  refine q_iaddN G (pc := 119) dX11_readsWord_119 ?_
                  refine q_putI G (pc := 120) dX11_readsWord_120 fl_X11_81_10 rfl ?_
                  refine q_aload_n G (pc := 123) dX11_readsWord_123 rfl ?_
                  have hs2 : msc hk2 (mm_up2 (mm_up2 (mm_up2 hk2 116 (pW P).length (nI nw)) 106 18 (nI ((pW P).length + 1))) 106 15 (nI ((skp b N p) + nw))) := ((msc.arr (by omega)).trans (msc.fld (by omega) (by omega))).trans (msc.fld (by omega) (by omega))
                  have htN := tke_le (b := b) hsl.2
                  have hR2 : rdM (mm_up2 (mm_up2 (mm_up2 hk2 116 (pW P).length (nI nw)) 106 18 (nI ((pW P).length + 1))) 106 15 (nI ((skp b N p) + nw))) b N (pL P, pS P, pG P, pW P ++ [uw b (skp b N p) (tke b N (skp b N p) - (skp b N p))]) k (tke b N (skp b N p)) := by
                    obtain ⟨a1, a2, a3, a4, a5, a6, a7, a8, a9⟩ := gR
                    have hul : (uw b (skp b N p) (tke b N (skp b N p) - (skp b N p))).length = nw := by rw [uw_len, ht2]; omega
                    refine ⟨by simp [va_up, ht2], by omega, by simp [va_up]; exact a3, by simp [va_up]; exact a4, by show _ = nI (pW P ++ [_]).length; simp [va_up], by simp [va_up]; exact a6, by simp [va_up]; exact a7, fun w hw => ?_, ⟨o1, o2, o3, o4, by show (pW P ++ [_]).length ≤ 8; simp; omega, fun u hu => ?_⟩⟩
                    · have hw2 : w < (pW P).length + 1 := by have : w < (pW P ++ [uw b (skp b N p) (tke b N (skp b N p) - (skp b N p))]).length := hw; simpa using this
                      show _ = nI ((pW P ++ [uw b (skp b N p) (tke b N (skp b N p) - (skp b N p))]).getD w []).length ∧ ∀ i, i < ((pW P ++ [uw b (skp b N p) (tke b N (skp b N p) - (skp b N p))]).getD w []).length → _ = nI (bytN (((pW P ++ [uw b (skp b N p) (tke b N (skp b N p) - (skp b N p))]).getD w []).getD i 0))
                      by_cases e : w = (pW P).length
                      · subst e
                        rw [show (pW P ++ [uw b (skp b N p) (tke b N (skp b N p) - (skp b N p))]).getD (pW P).length [] = uw b (skp b N p) (tke b N (skp b N p) - (skp b N p)) by simp [List.getD_eq_getElem?_getD], hul]
                        refine ⟨by simp [va_up], fun i hi2 => ?_⟩
                        have e3 : (mm_up2 (mm_up2 (mm_up2 hk2 116 (pW P).length (nI nw)) 106 18 (nI ((pW P).length + 1))) 106 15 (nI ((skp b N p) + nw))) 115 (6 * (pW P).length + i) = hk2 115 (6 * (pW P).length + i) := by simp [va_up]
                        rw [e3, g4 i (by omega), uw_get (by omega), bytN_cod (tke_row (j := (skp b N p) + i) ht1 (by omega) (by omega)).2]
                      · rw [show (pW P ++ [uw b (skp b N p) (tke b N (skp b N p) - (skp b N p))]).getD w [] = (pW P).getD w [] by rw [List.getD_eq_getElem?_getD, List.getD_eq_getElem?_getD, List.getElem?_append_left (by omega)]]
                        obtain ⟨w1, w2⟩ := a8 w (by omega)
                        exact ⟨by simp [va_up, e]; exact w1, fun i hi2 => by simp [va_up]; exact w2 i hi2⟩
                    · rcases List.mem_append.mp hu with q | q
                      · exact o6 u q
                      · rw [List.mem_singleton.mp q]
                        exact ⟨by omega, by omega, uw_26 ht1 hok.2.2⟩
                  refine q_cV0I G (pc := 124) dX11_readsWord_124 cv_X11_98 rfl (m_ends (by omega) hτ (hT.sc (g6.trans hs2)) hR2.1 hR2.2.1) (Nat.le_of_ble_eq_true rfl) ?_
                  intro xe hk3 hy
                  have hz := (ends_rs hR2 hy).pre (g6.trans hs2)
                  refine q_iret G (pc := 127) dX11_readsWord_127 (Or.inr ⟨rfl, by rcases hz.2 with ⟨_, _, e, _⟩ | ⟨_, _, _, e, _⟩ <;> rw [e] <;> decide⟩) ?_
                  exact ⟨rfl, _, rfl, by rw [if_pos hok]; exact hz⟩
                · refine q_aload_n G (pc := 62) dX11_readsWord_62 rfl ?_
                  refine q_getR (x := 115) G (pc := 63) dX11_readsWord_63 fl_X11_38_10 rfl (hg hτ (hf_10_21 rfl)) ?_
                  refine q_bipush (v := nI 6) G (pc := 66) dX11_readsWord_66 (by decide) ?_
                  refine q_aload_n G (pc := 68) dX11_readsWord_68 rfl ?_
                  refine q_getI (v := nI ((pW P).length)) G (pc := 69) dX11_readsWord_69 fl_X11_112_10 (by decide) rfl gR.2.2.2.2.1 ?_
                  refine q_imulN G (pc := 72) dX11_readsWord_72 ?_
                  refine q_iload_n G (pc := 73) dX11_readsWord_73 rfl ?_
                  refine q_iaddN G (pc := 74) dX11_readsWord_74 ?_
                  refine q_aload_n G (pc := 75) dX11_readsWord_75 rfl ?_
                  refine q_getR (x := 113) G (pc := 76) dX11_readsWord_76 fl_X11_32_10 rfl (hg hτ (hf_10_13 rfl)) ?_
                  refine q_aload_n G (pc := 79) dX11_readsWord_79 rfl ?_
                  refine q_getI (v := nI ((skp b N p))) G (pc := 80) dX11_readsWord_80 fl_X11_81_10 (by decide) rfl gR.1 ?_
                  refine q_iload_n G (pc := 83) dX11_readsWord_83 rfl ?_
                  refine q_iaddN G (pc := 84) dX11_readsWord_84 ?_
                  refine q_iald (j := (skp b N p) + i) (v := nI (b ((skp b N p) + i))) G (pc := 85) dX11_readsWord_85 rfl rfl (by omega) ((hT.sc g6).2.2.1 _ (tke_row (j := (skp b N p) + i) ht1 (by omega) (by omega)).1) ?_
                  refine q_iast (j := 6 * ((pW P).length) + i) G (pc := 86) dX11_readsWord_86 rfl rfl (by omega) ?_
                  refine q_iincN G (pc := 87) dX11_readsWord_87 rfl (inc1 _) (by decide) ?_
                  show X _ [_, _, _, _] _ _ _ _
                  refine q_goto (tgt := 57) G (pc := 90) dX11_readsWord_90 (by decide) ?_
                  refine ih57 (i + 1) _ (by omega) (by omega) ?_ (fun y hy => ?_) (g6.trans (msc.arr (by omega)))
                  · obtain ⟨a1, a2, a3, a4, a5, a6, a7, a8, a9⟩ := gR
                    refine ⟨by simp [va_up]; exact a1, a2, by simp [va_up]; exact a3, by simp [va_up]; exact a4, by simp [va_up]; exact a5, by simp [va_up]; exact a6, by simp [va_up]; exact a7, fun w hw => ?_, a9⟩
                    obtain ⟨w1, w2⟩ := a8 w hw
                    have hl : ((pW P).getD w []).length ≤ 6 := (o6 _ (by rw [List.getD_eq_getElem?_getD, List.getElem?_eq_getElem hw]; exact List.getElem_mem _)).2.1
                    exact ⟨by simp [va_up]; exact w1, fun z hz => by simp [va_up, show ¬ 6 * w + z = 6 * (pW P).length + i by omega]; exact w2 z hz⟩
                  · by_cases e : y = i
                    · subst e; simp [va_up]
                    · simp [va_up, e]; exact g4 y (by omega)
            exact L57 _ 0 hk (Nat.lt_succ_self _) (by omega) (hR.a x2 x1 hsl.2) (fun y hy => absurd hy (Nat.not_lt_zero _)) x2.sc
          · refine q_iconst (v := nI 0) G (pc := 53) dX11_readsWord_53 (by decide) ?_
            refine q_iret G (pc := 54) dX11_readsWord_54 (Or.inr ⟨rfl, by decide⟩) ?_
            exact ⟨rfl, _, rfl, x2.sc, Or.inl ⟨_, if_neg (g3 (by omega)), rfl, x1, hsl.2⟩⟩
        · have hnw1 : 1 ≤ nw := by omega
          obtain ⟨ht1, ht2⟩ := htn hnw1
          have hrj := (tke_row (j := (skp b N p) + j) ht1 (by omega) (by omega)).2
          have hjN := (tke_row (j := (skp b N p) + j) ht1 (by omega) (by omega)).1
          refine q_iload_n G (pc := 24) dX11_readsWord_24 rfl ?_
          refine q_if_eqN (tgt := 49) G (pc := 25) dX11_readsWord_25 (by decide) (by omega) (fun c25 => ?_) (fun c25 => ?_)
          · refine q_iload_n G (pc := 49) dX11_readsWord_49 rfl ?_
            refine q_if_neN (tgt := 55) G (pc := 50) dX11_readsWord_50 (by decide) (by omega) (fun c50 => ?_) (fun c50 => ?_)
            · have hiv : iv = 1 := by omega
              obtain ⟨⟨hm1, hm2⟩, hm3⟩ := g2 hiv
              obtain ⟨ht1, ht2⟩ := htn hm1
              have hok : okW b N (skp b N p) := ⟨ht1, by omega, fun y hy => hm3 y (by omega)⟩
              refine q_iconst (v := nI 0) G (pc := 55) dX11_readsWord_55 (by decide) ?_
              refine q_istore_n G (pc := 56) dX11_readsWord_56 (by decide) ?_
              show X _ [_, _, _, _] _ _ _ _
              have L57 : ∀ (zz : Nat) (i : Nat) (hk2 : mm_HI), nw - i < zz → i ≤ nw → rdM hk2 b N P k (skp b N p) → (∀ y, y < i → hk2 115 (6 * (pW P).length + y) = nI (b ((skp b N p) + y))) → msc hi hk2 → X 57 [some (.ref (106)), some (.int (nI (nw))), some (.int (nI (iv))), some (.int (nI (i)))] [] hk2 τ 125 := by
                intro zz
                induction zz with
                | zero => intro i hk2 hm; exact absurd hm (Nat.not_lt_zero _)
                | succ zz ih57 =>
                  intro i hk2 hm h2 gR g4 g6
                  refine q_iload_n G (pc := 57) dX11_readsWord_57 rfl ?_
                  refine q_iload_n G (pc := 58) dX11_readsWord_58 rfl ?_
                  refine q_icmp_geN (tgt := 93) G (pc := 59) dX11_readsWord_59 (by decide) (by omega) (by omega) (fun c59 => ?_) (fun c59 => ?_)
                  · refine q_aload_n G (pc := 93) dX11_readsWord_93 rfl ?_
                    refine q_getR (x := 116) G (pc := 94) dX11_readsWord_94 fl_X11_41_10 rfl (hg hτ (hf_10_22 rfl)) ?_
                    refine q_aload_n G (pc := 97) dX11_readsWord_97 rfl ?_
                    refine q_getI (v := nI ((pW P).length)) G (pc := 98) dX11_readsWord_98 fl_X11_112_10 (by decide) rfl gR.2.2.2.2.1 ?_
                    refine q_iload_n G (pc := 101) dX11_readsWord_101 rfl ?_
                    refine q_iast (j := (pW P).length) G (pc := 102) dX11_readsWord_102 rfl rfl (by omega) ?_
                    refine q_aload_n G (pc := 103) dX11_readsWord_103 rfl ?_
                    refine q_dup G (pc := 104) dX11_readsWord_104 rfl ?_
                    refine q_getI (v := nI ((pW P).length)) G (pc := 105) dX11_readsWord_105 fl_X11_112_10 (by decide) rfl (by simp [va_up]; exact gR.2.2.2.2.1) ?_
                    refine q_iconst (v := nI 1) G (pc := 108) dX11_readsWord_108 (by decide) ?_
                    refine q_iaddN G (pc := 109) dX11_readsWord_109 ?_
                    refine q_putI G (pc := 110) dX11_readsWord_110 fl_X11_112_10 rfl ?_
                    refine q_aload_n G (pc := 113) dX11_readsWord_113 rfl ?_
                    refine q_dup G (pc := 114) dX11_readsWord_114 rfl ?_
                    refine q_getI (v := nI ((skp b N p))) G (pc := 115) dX11_readsWord_115 fl_X11_81_10 (by decide) rfl (by simp [va_up]; exact gR.1) ?_
                    refine q_iload_n G (pc := 118) dX11_readsWord_118 rfl ?_
                    refine q_iaddN G (pc := 119) dX11_readsWord_119 ?_
                    refine q_putI G (pc := 120) dX11_readsWord_120 fl_X11_81_10 rfl ?_
                    refine q_aload_n G (pc := 123) dX11_readsWord_123 rfl ?_
                    have hs2 : msc hk2 (mm_up2 (mm_up2 (mm_up2 hk2 116 (pW P).length (nI nw)) 106 18 (nI ((pW P).length + 1))) 106 15 (nI ((skp b N p) + nw))) := ((msc.arr (by omega)).trans (msc.fld (by omega) (by omega))).trans (msc.fld (by omega) (by omega))
                    have htN := tke_le (b := b) hsl.2
                    have hR2 : rdM (mm_up2 (mm_up2 (mm_up2 hk2 116 (pW P).length (nI nw)) 106 18 (nI ((pW P).length + 1))) 106 15 (nI ((skp b N p) + nw))) b N (pL P, pS P, pG P, pW P ++ [uw b (skp b N p) (tke b N (skp b N p) - (skp b N p))]) k (tke b N (skp b N p)) := by
                      obtain ⟨a1, a2, a3, a4, a5, a6, a7, a8, a9⟩ := gR
                      have hul : (uw b (skp b N p) (tke b N (skp b N p) - (skp b N p))).length = nw := by rw [uw_len, ht2]; omega
                      refine ⟨by simp [va_up, ht2], by omega, by simp [va_up]; exact a3, by simp [va_up]; exact a4, by show _ = nI (pW P ++ [_]).length; simp [va_up], by simp [va_up]; exact a6, by simp [va_up]; exact a7, fun w hw => ?_, ⟨o1, o2, o3, o4, by show (pW P ++ [_]).length ≤ 8; simp; omega, fun u hu => ?_⟩⟩
                      · have hw2 : w < (pW P).length + 1 := by have : w < (pW P ++ [uw b (skp b N p) (tke b N (skp b N p) - (skp b N p))]).length := hw; simpa using this
                        show _ = nI ((pW P ++ [uw b (skp b N p) (tke b N (skp b N p) - (skp b N p))]).getD w []).length ∧ ∀ i, i < ((pW P ++ [uw b (skp b N p) (tke b N (skp b N p) - (skp b N p))]).getD w []).length → _ = nI (bytN (((pW P ++ [uw b (skp b N p) (tke b N (skp b N p) - (skp b N p))]).getD w []).getD i 0))
                        by_cases e : w = (pW P).length
                        · subst e
                          rw [show (pW P ++ [uw b (skp b N p) (tke b N (skp b N p) - (skp b N p))]).getD (pW P).length [] = uw b (skp b N p) (tke b N (skp b N p) - (skp b N p)) by simp [List.getD_eq_getElem?_getD], hul]
                          refine ⟨by simp [va_up], fun i hi2 => ?_⟩
                          have e3 : (mm_up2 (mm_up2 (mm_up2 hk2 116 (pW P).length (nI nw)) 106 18 (nI ((pW P).length + 1))) 106 15 (nI ((skp b N p) + nw))) 115 (6 * (pW P).length + i) = hk2 115 (6 * (pW P).length + i) := by simp [va_up]
                          rw [e3, g4 i (by omega), uw_get (by omega), bytN_cod (tke_row (j := (skp b N p) + i) ht1 (by omega) (by omega)).2]
                        · rw [show (pW P ++ [uw b (skp b N p) (tke b N (skp b N p) - (skp b N p))]).getD w [] = (pW P).getD w [] by rw [List.getD_eq_getElem?_getD, List.getD_eq_getElem?_getD, List.getElem?_append_left (by omega)]]
                          obtain ⟨w1, w2⟩ := a8 w (by omega)
                          exact ⟨by simp [va_up, e]; exact w1, fun i hi2 => by simp [va_up]; exact w2 i hi2⟩
                      · rcases List.mem_append.mp hu with q | q
                        · exact o6 u q
                        · rw [List.mem_singleton.mp q]
                          exact ⟨by omega, by omega, uw_26 ht1 hok.2.2⟩
                    refine q_cV0I G (pc := 124) dX11_readsWord_124 cv_X11_98 rfl (m_ends (by omega) hτ (hT.sc (g6.trans hs2)) hR2.1 hR2.2.1) (Nat.le_of_ble_eq_true rfl) ?_
                    intro xe hk3 hy
                    have hz := (ends_rs hR2 hy).pre (g6.trans hs2)
                    refine q_iret G (pc := 127) dX11_readsWord_127 (Or.inr ⟨rfl, by rcases hz.2 with ⟨_, _, e, _⟩ | ⟨_, _, _, e, _⟩ <;> rw [e] <;> decide⟩) ?_
                    exact ⟨rfl, _, rfl, by rw [if_pos hok]; exact hz⟩
                  · refine q_aload_n G (pc := 62) dX11_readsWord_62 rfl ?_
                    refine q_getR (x := 115) G (pc := 63) dX11_readsWord_63 fl_X11_38_10 rfl (hg hτ (hf_10_21 rfl)) ?_
                    refine q_bipush (v := nI 6) G (pc := 66) dX11_readsWord_66 (by decide) ?_
                    refine q_aload_n G (pc := 68) dX11_readsWord_68 rfl ?_
                    refine q_getI (v := nI ((pW P).length)) G (pc := 69) dX11_readsWord_69 fl_X11_112_10 (by decide) rfl gR.2.2.2.2.1 ?_
                    refine q_imulN G (pc := 72) dX11_readsWord_72 ?_
                    refine q_iload_n G (pc := 73) dX11_readsWord_73 rfl ?_
                    refine q_iaddN G (pc := 74) dX11_readsWord_74 ?_
                    refine q_aload_n G (pc := 75) dX11_readsWord_75 rfl ?_
                    refine q_getR (x := 113) G (pc := 76) dX11_readsWord_76 fl_X11_32_10 rfl (hg hτ (hf_10_13 rfl)) ?_
                    refine q_aload_n G (pc := 79) dX11_readsWord_79 rfl ?_
                    refine q_getI (v := nI ((skp b N p))) G (pc := 80) dX11_readsWord_80 fl_X11_81_10 (by decide) rfl gR.1 ?_
                    refine q_iload_n G (pc := 83) dX11_readsWord_83 rfl ?_
                    refine q_iaddN G (pc := 84) dX11_readsWord_84 ?_
                    refine q_iald (j := (skp b N p) + i) (v := nI (b ((skp b N p) + i))) G (pc := 85) dX11_readsWord_85 rfl rfl (by omega) ((hT.sc g6).2.2.1 _ (tke_row (j := (skp b N p) + i) ht1 (by omega) (by omega)).1) ?_
                    refine q_iast (j := 6 * ((pW P).length) + i) G (pc := 86) dX11_readsWord_86 rfl rfl (by omega) ?_
                    refine q_iincN G (pc := 87) dX11_readsWord_87 rfl (inc1 _) (by decide) ?_
                    show X _ [_, _, _, _] _ _ _ _
                    refine q_goto (tgt := 57) G (pc := 90) dX11_readsWord_90 (by decide) ?_
                    refine ih57 (i + 1) _ (by omega) (by omega) ?_ (fun y hy => ?_) (g6.trans (msc.arr (by omega)))
                    · obtain ⟨a1, a2, a3, a4, a5, a6, a7, a8, a9⟩ := gR
                      refine ⟨by simp [va_up]; exact a1, a2, by simp [va_up]; exact a3, by simp [va_up]; exact a4, by simp [va_up]; exact a5, by simp [va_up]; exact a6, by simp [va_up]; exact a7, fun w hw => ?_, a9⟩
                      obtain ⟨w1, w2⟩ := a8 w hw
                      have hl : ((pW P).getD w []).length ≤ 6 := (o6 _ (by rw [List.getD_eq_getElem?_getD, List.getElem?_eq_getElem hw]; exact List.getElem_mem _)).2.1
                      exact ⟨by simp [va_up]; exact w1, fun z hz => by simp [va_up, show ¬ 6 * w + z = 6 * (pW P).length + i by omega]; exact w2 z hz⟩
                    · by_cases e : y = i
                      · subst e; simp [va_up]
                      · simp [va_up, e]; exact g4 y (by omega)
              exact L57 _ 0 hk (Nat.lt_succ_self _) (by omega) (hR.a x2 x1 hsl.2) (fun y hy => absurd hy (Nat.not_lt_zero _)) x2.sc
            · refine q_iconst (v := nI 0) G (pc := 53) dX11_readsWord_53 (by decide) ?_
              refine q_iret G (pc := 54) dX11_readsWord_54 (Or.inr ⟨rfl, by decide⟩) ?_
              exact ⟨rfl, _, rfl, x2.sc, Or.inl ⟨_, if_neg (g3 (by omega)), rfl, x1, hsl.2⟩⟩
          · have hiv : iv = 1 := by omega
            refine q_aload_n G (pc := 28) dX11_readsWord_28 rfl ?_
            refine q_getR (x := 113) G (pc := 29) dX11_readsWord_29 fl_X11_32_10 rfl (hg hτ (hf_10_13 rfl)) ?_
            refine q_aload_n G (pc := 32) dX11_readsWord_32 rfl ?_
            refine q_getI (v := nI ((skp b N p))) G (pc := 33) dX11_readsWord_33 fl_X11_81_10 (by decide) rfl x1 ?_
            refine q_iload_n G (pc := 36) dX11_readsWord_36 rfl ?_
            refine q_iaddN G (pc := 37) dX11_readsWord_37 ?_
            refine q_iald (j := (skp b N p) + j) (v := nI (b ((skp b N p) + j))) G (pc := 38) dX11_readsWord_38 rfl rfl (by omega) (hTk.2.2.1 _ hjN) ?_
            have hb255 := hT.2.2.2 ((skp b N p) + j)
            refine q_cS1B G (pc := 39) dX11_readsWord_39 cs_X11_88 (m_isLetter (by omega) (by omega)) (Nat.le_of_ble_eq_true rfl) (fun c39 => ?_) (fun c39 => ?_)
            · refine q_istore_n G (pc := 42) dX11_readsWord_42 (by decide) ?_
              show X _ [_, _, _, _] _ _ _ _
              refine q_iincN G (pc := 43) dX11_readsWord_43 rfl (inc1 _) (by decide) ?_
              show X _ [_, _, _, _] _ _ _ _
              refine q_goto (tgt := 19) G (pc := 46) dX11_readsWord_46 (by decide) ?_
              refine ih19 (j + 1) 1 (by omega) (by omega) (by omega) (fun _ => ⟨(g2 hiv).1, fun y hy => ?_⟩) (fun z => absurd z (by decide))
              by_cases e : y = j
              · subst e; exact (cod_let hrj).mpr c39
              · exact (g2 hiv).2 y (by omega)
            · refine q_istore_n G (pc := 42) dX11_readsWord_42 (by decide) ?_
              show X _ [_, _, _, _] _ _ _ _
              refine q_iincN G (pc := 43) dX11_readsWord_43 rfl (inc1 _) (by decide) ?_
              show X _ [_, _, _, _] _ _ _ _
              refine q_goto (tgt := 19) G (pc := 46) dX11_readsWord_46 (by decide) ?_
              refine ih19 (j + 1) 0 (by omega) (by omega) (by omega) (fun z => absurd z (by decide)) (fun _ hw => ?_)
              exact (fun z => c39 ((cod_let hrj).mp z)) (hw.2.2 j (by rw [← ren_tke hw.1]; omega))
    refine L19 _ 0 0 (Nat.lt_succ_self _) (by omega) (by omega) (fun z => absurd z (by decide)) (fun _ hw => c13 ?_)
    have h1 := ren_tke hw.1
    have h2 := tke_le (b := b) hsl.2
    have h3 := h2.2.2 (tkn_lt hw.1).1
    exact ⟨nI_le (by omega) (by omega), nI_le (by have := hw.2.1; omega) (by omega)⟩
