set_option maxHeartbeats 2000000 in
theorem c_sees {d : Nat} (hd : 1 ≤ d) {hi : mm_HI} {τ : mm_T} {P : PG} {n : Nat} {f : Nat → Nat} {t K : Nat} {pn : Nat → Nat} {pf : Nat → Nat → Nat} {pt : Nat → Nat} {im : Nat → Option DK} {sl : List (Nat × Nat)} {N : Nat} {b : Nat → Nat} {tr : Int64} (hC : cS P n f t K pn pf pt im sl N b tr hi τ) {x : Int32} {y : Int32} : wR d yX10_sees [.ref 0, .int x, .int y] hi τ (CQ (zSees (mkT P n f t K pn pf pt im sl N b tr) (ix x 26) (ix y 2)) hi τ) := by
  refine w_intro (by omega) M_X10_sees (Nat.le_of_ble_eq_true rfl) rfl ?_
  intro e X he G
  show X 0 [some (.ref (0)), some (.int (x)), some (.int (y))] [] hi τ 125
  obtain ⟨sw, nx, nd, hτ, hS, hD, hV, hI, hIV, hN, hNO, hT, hFl, hE, hTr⟩ := id hC
  have hS6 := hS.2.2.2.1.2.2.1
  have hL3 : pL P ≤ 3 := hS.2.2.2.1.2.1
  have hn6 := hD.1.2.2.2.1
  have hRw : rowF hi 16 n f t := hD.1
  have hfs : ∀ j, j < n → f j < pS P := hV.1.1
  have hsl := hNO.1
  refine q_iload_n G (pc := 0) dX10_sees_0 rfl ?_
  refine q_if_lt (tgt := 19) G (pc := 1) dX10_sees_1 (by decide) (fun c1 => ?_) (fun c1 => ?_)
  · refine q_iconst (v := -1) G (pc := 19) dX10_sees_19 (by decide) ?_
    refine q_iret G (pc := 20) dX10_sees_20 (Or.inl rfl) ?_
    exact CQ.of (by rw [ix_none (ix_n0 (by decide) c1)]; rfl) (hC.post scr.rf _)
  · refine q_iload_n G (pc := 4) dX10_sees_4 rfl ?_
    refine q_bipush (v := nI 26) G (pc := 5) dX10_sees_5 (by decide) ?_
    refine q_icmp_ge (tgt := 19) G (pc := 7) dX10_sees_7 (by decide) (fun c7 => ?_) (fun c7 => ?_)
    · refine q_iconst (v := -1) G (pc := 19) dX10_sees_19 (by decide) ?_
      refine q_iret G (pc := 20) dX10_sees_20 (Or.inl rfl) ?_
      exact CQ.of (by rw [ix_none (ix_nn (by decide) c7)]; rfl) (hC.post scr.rf _)
    · obtain ⟨c, hc, rfl⟩ := ix_lt (n := 26) (by decide) c1 c7
      refine q_iload_n G (pc := 10) dX10_sees_10 rfl ?_
      refine q_if_lt (tgt := 19) G (pc := 11) dX10_sees_11 (by decide) (fun c11 => ?_) (fun c11 => ?_)
      · refine q_iconst (v := -1) G (pc := 19) dX10_sees_19 (by decide) ?_
        refine q_iret G (pc := 20) dX10_sees_20 (Or.inl rfl) ?_
        exact CQ.of (by rw [ix_some hc (by decide), ix_none (ix_n0 (by decide) c11)]; rfl) (hC.post scr.rf _)
      · refine q_iload_n G (pc := 14) dX10_sees_14 rfl ?_
        refine q_iconst (v := nI 1) G (pc := 15) dX10_sees_15 (by decide) ?_
        refine q_icmp_le (tgt := 21) G (pc := 16) dX10_sees_16 (by decide) (fun c16 => ?_) (fun c16 => ?_)
        · obtain ⟨w, hw0, rfl⟩ := ix_lt (n := 2) (by decide) c11 (nle_1 (by decide) c16)
          refine q_aload_n G (pc := 21) dX10_sees_21 rfl ?_
          refine q_getI (v := nI (sl.length)) G (pc := 22) dX10_sees_22 fl_X10_245_9 (by decide) rfl hN.1 ?_
          refine q_bipush (v := nI 6) G (pc := 25) dX10_sees_25 (by decide) ?_
          refine q_icmp_ltN (tgt := 33) G (pc := 27) dX10_sees_27 (by decide) (by omega) (by omega) (fun c27 => ?_) (fun c27 => ?_)
          · refine q_iload_n G (pc := 33) dX10_sees_33 rfl ?_
            refine q_iconst (v := nI 1) G (pc := 34) dX10_sees_34 (by decide) ?_
            refine q_icmp_neN (tgt := 53) G (pc := 35) dX10_sees_35 (by decide) (by omega) (by omega) (fun c35 => ?_) (fun c35 => ?_)
            · refine q_aload_n G (pc := 53) dX10_sees_53 rfl ?_
              refine q_dup G (pc := 54) dX10_sees_54 rfl ?_
              refine q_getI (v := nI (mkS 0 sl)) G (pc := 55) dX10_sees_55 fl_X10_251_9 (by decide) rfl hN.2.2 ?_
              refine q_iconst (v := 1) G (pc := 58) dX10_sees_58 (by decide) ?_
              refine q_iload_n G (pc := 59) dX10_sees_59 rfl ?_
              refine q_ishl G (pc := 60) dX10_sees_60 ?_
              rw [bit26 c (by omega)]
              refine q_ior G (pc := 61) dX10_sees_61 ?_
              rw [or_nI]
              refine q_putI G (pc := 62) dX10_sees_62 fl_X10_251_9 rfl ?_
              refine q_aload_n G (pc := 65) dX10_sees_65 rfl ?_
              refine q_dup G (pc := 66) dX10_sees_66 rfl ?_
              refine q_getI (v := nI (sl.length)) G (pc := 67) dX10_sees_67 fl_X10_245_9 (by decide) rfl (by simp [va_up]; exact hN.1) ?_
              refine q_iconst (v := nI 1) G (pc := 70) dX10_sees_70 (by decide) ?_
              refine q_iaddN G (pc := 71) dX10_sees_71 ?_
              refine q_putI G (pc := 72) dX10_sees_72 fl_X10_245_9 rfl ?_
              refine q_aload_n G (pc := 75) dX10_sees_75 rfl ?_
              refine q_getI (v := nI (sl.length + 1)) G (pc := 76) dX10_sees_76 fl_X10_245_9 (by decide) rfl (by simp [va_up]) ?_
              refine q_iret G (pc := 79) dX10_sees_79 (Or.inl rfl) ?_
              have hw1 : w = 0 := by omega
              subst hw1
              have e : zSees (mkT P n f t K pn pf pt im sl N b tr) (ix (nI c) 26) (ix (nI 0) 2) = (mkT P n f t K pn pf pt im (sl ++ [(c, 0)]) N b tr, nI (sl.length + 1)) := by rw [ix_some hc (by decide), ix_some hw0 (by decide)]; exact if_neg (show ¬ sl.length = 6 by omega)
              refine CQ.mk e (hC.sn (fun z hz => by simp at hz; simp [va_up, hz]) (by simp [va_up]) ⟨by simp [va_up], ?_, ?_⟩ ⟨by simp; omega, fun q hq => ?_⟩) (fun z hz => by simp [va_up, show z ≠ 0 by omega]) rfl
              · rw [mkS_app]; simp [va_up]; exact hN.2.1
              · rw [mkS_app]; simp [va_up]
              · rcases List.mem_append.mp hq with q1 | q1
                · exact hNO.2 q q1
                · rw [List.mem_singleton.mp q1]; exact ⟨hc, by show (0 : Nat) < 2; decide⟩
            · refine q_aload_n G (pc := 38) dX10_sees_38 rfl ?_
              refine q_dup G (pc := 39) dX10_sees_39 rfl ?_
              refine q_getI (v := nI (mkS 1 sl)) G (pc := 40) dX10_sees_40 fl_X10_248_9 (by decide) rfl hN.2.1 ?_
              refine q_iconst (v := 1) G (pc := 43) dX10_sees_43 (by decide) ?_
              refine q_iload_n G (pc := 44) dX10_sees_44 rfl ?_
              refine q_ishl G (pc := 45) dX10_sees_45 ?_
              rw [bit26 c (by omega)]
              refine q_ior G (pc := 46) dX10_sees_46 ?_
              rw [or_nI]
              refine q_putI G (pc := 47) dX10_sees_47 fl_X10_248_9 rfl ?_
              refine q_goto (tgt := 65) G (pc := 50) dX10_sees_50 (by decide) ?_
              refine q_aload_n G (pc := 65) dX10_sees_65 rfl ?_
              refine q_dup G (pc := 66) dX10_sees_66 rfl ?_
              refine q_getI (v := nI (sl.length)) G (pc := 67) dX10_sees_67 fl_X10_245_9 (by decide) rfl (by simp [va_up]; exact hN.1) ?_
              refine q_iconst (v := nI 1) G (pc := 70) dX10_sees_70 (by decide) ?_
              refine q_iaddN G (pc := 71) dX10_sees_71 ?_
              refine q_putI G (pc := 72) dX10_sees_72 fl_X10_245_9 rfl ?_
              refine q_aload_n G (pc := 75) dX10_sees_75 rfl ?_
              refine q_getI (v := nI (sl.length + 1)) G (pc := 76) dX10_sees_76 fl_X10_245_9 (by decide) rfl (by simp [va_up]) ?_
              refine q_iret G (pc := 79) dX10_sees_79 (Or.inl rfl) ?_
              have hw1 : w = 1 := by omega
              subst hw1
              have e : zSees (mkT P n f t K pn pf pt im sl N b tr) (ix (nI c) 26) (ix (nI 1) 2) = (mkT P n f t K pn pf pt im (sl ++ [(c, 1)]) N b tr, nI (sl.length + 1)) := by rw [ix_some hc (by decide), ix_some hw0 (by decide)]; exact if_neg (show ¬ sl.length = 6 by omega)
              refine CQ.mk e (hC.sn (fun z hz => by simp at hz; simp [va_up, hz]) (by simp [va_up]) ⟨by simp [va_up], ?_, ?_⟩ ⟨by simp; omega, fun q hq => ?_⟩) (fun z hz => by simp [va_up, show z ≠ 0 by omega]) rfl
              · rw [mkS_app]; simp [va_up]
              · rw [mkS_app]; simp [va_up]; exact hN.2.2
              · rcases List.mem_append.mp hq with q1 | q1
                · exact hNO.2 q q1
                · rw [List.mem_singleton.mp q1]; exact ⟨hc, by show (1 : Nat) < 2; decide⟩
          · refine q_bipush (v := -3) G (pc := 30) dX10_sees_30 (by decide) ?_
            refine q_iret G (pc := 32) dX10_sees_32 (Or.inl rfl) ?_
            exact CQ.of (by rw [ix_some hc (by decide), ix_some hw0 (by decide)]; exact if_pos (show sl.length = 6 by omega)) (hC.post scr.rf _)
        · refine q_iconst (v := -1) G (pc := 19) dX10_sees_19 (by decide) ?_
          refine q_iret G (pc := 20) dX10_sees_20 (Or.inl rfl) ?_
          exact CQ.of (by rw [ix_some hc (by decide), ix_none (ix_nn (by decide) (nle_2 (by decide) c16))]; rfl) (hC.post scr.rf _)
set_option maxHeartbeats 2000000 in
theorem c_forget {d : Nat} (hd : 1 ≤ d) {hi : mm_HI} {τ : mm_T} {P : PG} {n : Nat} {f : Nat → Nat} {t K : Nat} {pn : Nat → Nat} {pf : Nat → Nat → Nat} {pt : Nat → Nat} {im : Nat → Option DK} {sl : List (Nat × Nat)} {N : Nat} {b : Nat → Nat} {tr : Int64} (hC : cS P n f t K pn pf pt im sl N b tr hi τ)  : wR d yX10_forget [.ref 0] hi τ (CQ (zForget (mkT P n f t K pn pf pt im sl N b tr)) hi τ) := by
  refine w_intro (by omega) M_X10_forget (Nat.le_of_ble_eq_true rfl) rfl ?_
  intro e X he G
  show X 0 [some (.ref (0)), none] [] hi τ 125
  obtain ⟨sw, nx, nd, hτ, hS, hD, hV, hI, hIV, hN, hNO, hT, hFl, hE, hTr⟩ := id hC
  have hS6 := hS.2.2.2.1.2.2.1
  have hL3 : pL P ≤ 3 := hS.2.2.2.1.2.1
  have hn6 := hD.1.2.2.2.1
  have hRw : rowF hi 16 n f t := hD.1
  have hfs : ∀ j, j < n → f j < pS P := hV.1.1
  refine q_aload_n G (pc := 0) dX10_forget_0 rfl ?_
  refine q_getI (v := nI (sl.length)) G (pc := 1) dX10_forget_1 fl_X10_245_9 (by decide) rfl hN.1 ?_
  refine q_istore_n G (pc := 4) dX10_forget_4 (by decide) ?_
  show X _ [_, _] _ _ _ _
  refine q_aload_n G (pc := 5) dX10_forget_5 rfl ?_
  refine q_iconst (v := nI 0) G (pc := 6) dX10_forget_6 (by decide) ?_
  refine q_putI G (pc := 7) dX10_forget_7 fl_X10_245_9 rfl ?_
  refine q_aload_n G (pc := 10) dX10_forget_10 rfl ?_
  refine q_iconst (v := nI 0) G (pc := 11) dX10_forget_11 (by decide) ?_
  refine q_putI G (pc := 12) dX10_forget_12 fl_X10_248_9 rfl ?_
  refine q_aload_n G (pc := 15) dX10_forget_15 rfl ?_
  refine q_iconst (v := nI 0) G (pc := 16) dX10_forget_16 (by decide) ?_
  refine q_putI G (pc := 17) dX10_forget_17 fl_X10_251_9 rfl ?_
  refine q_iload_n G (pc := 20) dX10_forget_20 rfl ?_
  refine q_iret G (pc := 21) dX10_forget_21 (Or.inl rfl) ?_
  exact CQ.mk rfl (hC.sn (fun z hz => by simp at hz; simp [va_up, hz]) (by simp [va_up]) ⟨by simp [va_up], by simp [va_up, mkS], by simp [va_up, mkS]⟩ ⟨by simp, fun q hq => absurd hq List.not_mem_nil⟩) (fun z hz => by simp [va_up, show z ≠ 0 by omega]) rfl
set_option maxHeartbeats 2000000 in
theorem c_which0 {d : Nat} (hd : 3 ≤ d) {hi : mm_HI} {τ : mm_T} {P : PG} {n : Nat} {f : Nat → Nat} {t K : Nat} {pn : Nat → Nat} {pf : Nat → Nat → Nat} {pt : Nat → Nat} {im : Nat → Option DK} {sl : List (Nat × Nat)} {N : Nat} {b : Nat → Nat} {tr : Int64} (hC : cS P n f t K pn pf pt im sl N b tr hi τ) : wE d yX10_which [.ref 0] hi τ (nI (whM P sl (pS P))) := by
  refine w_intro (by omega) M_X10_which (Nat.le_of_ble_eq_true rfl) rfl ?_
  intro e X he G
  show X 0 [some (.ref (0)), none, none, none] [] hi τ 125
  obtain ⟨sw, nx, nd, hτ, hS, hD, hV, hI, hIV, hN, hNO, hT, hFl, hE, hTr⟩ := id hC
  have hS6 := hS.2.2.2.1.2.2.1
  have hL3 : pL P ≤ 3 := hS.2.2.2.1.2.1
  have hn6 := hD.1.2.2.2.1
  have hRw : rowF hi 16 n f t := hD.1
  have hfs : ∀ j, j < n → f j < pS P := hV.1.1
  have hm1 := mkS_lt (w := 1) hNO.2
  have hm0 := mkS_lt (w := 0) hNO.2
  refine q_iconst (v := nI 0) G (pc := 0) dX10_which_0 (by decide) ?_
  refine q_istore_n G (pc := 1) dX10_which_1 (by decide) ?_
  show X _ [_, _, _, _] _ _ _ _
  refine q_iconst (v := nI 0) G (pc := 2) dX10_which_2 (by decide) ?_
  refine q_istore_n G (pc := 3) dX10_which_3 (by decide) ?_
  show X _ [_, _, _, _] _ _ _ _
  have L4 : ∀ (zz : Nat) (s : Nat) (v3 : Option Value), pS P - s < zz → s ≤ pS P → X 4 [some (.ref (0)), some (.int (nI (whM P sl s))), some (.int (nI (s))), v3] [] hi τ 125 := by
    intro zz
    induction zz with
    | zero => intro s v3 hm; exact absurd hm (Nat.not_lt_zero _)
    | succ zz ih4 =>
      intro s v3 hm h0
      refine q_iload_n G (pc := 4) dX10_which_4 rfl ?_
      refine q_aload_n G (pc := 5) dX10_which_5 rfl ?_
      refine q_getR (x := mm_sh sw) G (pc := 6) dX10_which_6 fl_X10_19_9 rfl (hg hτ (hf_sh sw)) ?_
      refine q_getI (v := nI (pS P)) G (pc := 9) dX10_which_9 fl_X10_90_7 (by decide) (ly_sh sw) hS.2.1 ?_
      refine q_icmp_geN (tgt := 58) G (pc := 12) dX10_which_12 (by decide) (by omega) (by omega) (fun c12 => ?_) (fun c12 => ?_)
      · refine q_iload_n G (pc := 58) dX10_which_58 rfl ?_
        refine q_iret G (pc := 59) dX10_which_59 (Or.inl rfl) ?_
        exact ⟨rfl, rfl, by rw [show s = pS P by omega]⟩
      · refine q_aload_n G (pc := 15) dX10_which_15 rfl ?_
        refine q_getR (x := mm_sh sw) G (pc := 16) dX10_which_16 fl_X10_19_9 rfl (hg hτ (hf_sh sw)) ?_
        refine q_iload_n G (pc := 19) dX10_which_19 rfl ?_
        refine q_cV1E G (pc := 20) dX10_which_20 cv_X10_119 (ly_sh sw) (s_X7_lettersOn (by omega) hτ (ly_sh sw) hS (s := s) (by omega)) (Nat.le_of_ble_eq_true rfl) ?_
        have hl0 := letO_lt hS.2.2.2.1 s
        have hl1 : letO P s &&& mkS 1 sl ≤ letO P s := Nat.and_le_left
        have hl2 : letO P s &&& mkS 0 sl ≤ letO P s := Nat.and_le_left
        show X 23 _ (.int (nI (letO P s)) :: _) _ _ _
        refine q_istore_n G (pc := 23) dX10_which_23 (by decide) ?_
        show X _ [_, _, _, _] _ _ _ _
        refine q_iload_n G (pc := 24) dX10_which_24 rfl ?_
        refine q_aload_n G (pc := 25) dX10_which_25 rfl ?_
        refine q_getI (v := nI (mkS 1 sl)) G (pc := 26) dX10_which_26 fl_X10_248_9 (by decide) rfl hN.2.1 ?_
        refine q_iand G (pc := 29) dX10_which_29 ?_
        rw [and_nI]
        refine q_aload_n G (pc := 30) dX10_which_30 rfl ?_
        refine q_getI (v := nI (mkS 1 sl)) G (pc := 31) dX10_which_31 fl_X10_248_9 (by decide) rfl hN.2.1 ?_
        refine q_icmp_neN (tgt := 52) G (pc := 34) dX10_which_34 (by decide) (by omega) (by omega) (fun c34 => ?_) (fun c34 => ?_)
        · refine q_iincN G (pc := 52) dX10_which_52 rfl (inc1 _) (by decide) ?_
          show X _ [_, _, _, _] _ _ _ _
          refine q_goto (tgt := 4) G (pc := 55) dX10_which_55 (by decide) ?_
          have e1 : whM P sl (s + 1) = whM P sl s := by show _ ||| _ = _; rw [if_neg (fun z => c34 z.1), Nat.or_zero]
          rw [← e1]
          exact ih4 (s + 1) _ (by omega) (by omega)
        · refine q_iload_n G (pc := 37) dX10_which_37 rfl ?_
          refine q_aload_n G (pc := 38) dX10_which_38 rfl ?_
          refine q_getI (v := nI (mkS 0 sl)) G (pc := 39) dX10_which_39 fl_X10_251_9 (by decide) rfl hN.2.2 ?_
          refine q_iand G (pc := 42) dX10_which_42 ?_
          rw [and_nI]
          refine q_if_neN (tgt := 52) G (pc := 43) dX10_which_43 (by decide) (by omega) (fun c43 => ?_) (fun c43 => ?_)
          · refine q_iincN G (pc := 52) dX10_which_52 rfl (inc1 _) (by decide) ?_
            show X _ [_, _, _, _] _ _ _ _
            refine q_goto (tgt := 4) G (pc := 55) dX10_which_55 (by decide) ?_
            have e1 : whM P sl (s + 1) = whM P sl s := by show _ ||| _ = _; rw [if_neg (fun z => c43 z.2), Nat.or_zero]
            rw [← e1]
            exact ih4 (s + 1) _ (by omega) (by omega)
          · refine q_iload_n G (pc := 46) dX10_which_46 rfl ?_
            refine q_iconst (v := 1) G (pc := 47) dX10_which_47 (by decide) ?_
            refine q_iload_n G (pc := 48) dX10_which_48 rfl ?_
            refine q_ishl G (pc := 49) dX10_which_49 ?_
            rw [bit_one _ (by omega)]
            refine q_ior G (pc := 50) dX10_which_50 ?_
            rw [or_nI]
            refine q_istore_n G (pc := 51) dX10_which_51 (by decide) ?_
            show X _ [_, _, _, _] _ _ _ _
            refine q_iincN G (pc := 52) dX10_which_52 rfl (inc1 _) (by decide) ?_
            show X _ [_, _, _, _] _ _ _ _
            refine q_goto (tgt := 4) G (pc := 55) dX10_which_55 (by decide) ?_
            have e1 : whM P sl (s + 1) = whM P sl s ||| 2 ^ s := by show _ ||| _ = _; rw [if_pos ⟨c34, c43⟩]
            rw [← e1]
            exact ih4 (s + 1) _ (by omega) (by omega)
  exact L4 _ 0 _ (Nat.lt_succ_self _) (by omega)
theorem c_which {d : Nat} (hd : 3 ≤ d) {hi : mm_HI} {τ : mm_T} {P : PG} {n : Nat} {f : Nat → Nat} {t K : Nat} {pn : Nat → Nat} {pf : Nat → Nat → Nat} {pt : Nat → Nat} {im : Nat → Option DK} {sl : List (Nat × Nat)} {N : Nat} {b : Nat → Nat} {tr : Int64} (hC : cS P n f t K pn pf pt im sl N b tr hi τ) : wR d yX10_which [.ref 0] hi τ (CQ (zWhich (mkT P n f t K pn pf pt im sl N b tr)) hi τ) := w_post (c_which0 hd hC) (by
  rintro v h t2 ⟨rfl, rfl, rfl⟩
  exact hC.post scr.rf _)
set_option maxHeartbeats 2000000 in
theorem c_greaterPart {d : Nat} (hd : 3 ≤ d) {hi : mm_HI} {τ : mm_T} {P : PG} {n : Nat} {f : Nat → Nat} {t K : Nat} {pn : Nat → Nat} {pf : Nat → Nat → Nat} {pt : Nat → Nat} {im : Nat → Option DK} {sl : List (Nat × Nat)} {N : Nat} {b : Nat → Nat} {tr : Int64} (hC : cS P n f t K pn pf pt im sl N b tr hi τ) {W c : Nat} (hW : W < 64) (hc : c < 26) : wE d yX10_greaterPart [.ref 0, .int (nI W), .int (nI c)] hi τ (nI (gpt P W c)) := by
  refine w_intro (by omega) M_X10_greaterPart (Nat.le_of_ble_eq_true rfl) rfl ?_
  intro e X he G
  show X 0 [some (.ref (0)), some (.int (nI (W))), some (.int (nI (c))), none, none] [] hi τ 125
  obtain ⟨sw, nx, nd, hτ, hS, hD, hV, hI, hIV, hN, hNO, hT, hFl, hE, hTr⟩ := id hC
  have hS6 := hS.2.2.2.1.2.2.1
  have hL3 : pL P ≤ 3 := hS.2.2.2.1.2.1
  have hn6 := hD.1.2.2.2.1
  have hRw : rowF hi 16 n f t := hD.1
  have hfs : ∀ j, j < n → f j < pS P := hV.1.1
  refine q_iconst (v := nI 0) G (pc := 0) dX10_greaterPart_0 (by decide) ?_
  refine q_istore_n G (pc := 1) dX10_greaterPart_1 (by decide) ?_
  show X _ [_, _, _, _, _] _ _ _ _
  refine q_iconst (v := nI 0) G (pc := 2) dX10_greaterPart_2 (by decide) ?_
  refine q_istore G (pc := 3) dX10_greaterPart_3 (by decide) ?_
  show X _ [_, _, _, _, _] _ _ _ _
  have L5 : ∀ (zz : Nat) (s : Nat), pS P - s < zz → s ≤ pS P → X 5 [some (.ref (0)), some (.int (nI (W))), some (.int (nI (c))), some (.int (nI (hvM P W c s))), some (.int (nI (s)))] [] hi τ 125 := by
    intro zz
    induction zz with
    | zero => intro s hm; exact absurd hm (Nat.not_lt_zero _)
    | succ zz ih5 =>
      intro s hm h0
      refine q_iload G (pc := 5) dX10_greaterPart_5 rfl ?_
      refine q_aload_n G (pc := 7) dX10_greaterPart_7 rfl ?_
      refine q_getR (x := mm_sh sw) G (pc := 8) dX10_greaterPart_8 fl_X10_19_9 rfl (hg hτ (hf_sh sw)) ?_
      refine q_getI (v := nI (pS P)) G (pc := 11) dX10_greaterPart_11 fl_X10_90_7 (by decide) (ly_sh sw) hS.2.1 ?_
      refine q_icmp_geN (tgt := 44) G (pc := 14) dX10_greaterPart_14 (by decide) (by omega) (by omega) (fun c14 => ?_) (fun c14 => ?_)
      · refine q_iload_n G (pc := 44) dX10_greaterPart_44 rfl ?_
        refine q_iload_n G (pc := 45) dX10_greaterPart_45 rfl ?_
        refine q_cS1E G (pc := 46) dX10_greaterPart_46 cs_X10_164 (s_bitCount (by omega) hW) (Nat.le_of_ble_eq_true rfl) ?_
        have hq1 : s = pS P := by omega
        subst hq1
        have hq2 := hvM_le P W c (pS P)
        have hq3 := pcs_le W (pS P) hS6
        have hq4 := pcn_6 W
        refine q_iload_n G (pc := 49) dX10_greaterPart_49 rfl ?_
        refine q_isubN G (pc := 50) dX10_greaterPart_50 (by omega) ?_
        refine q_mmax G (pc := 51) dX10_greaterPart_51 mx_X10_298 (Nat.le_refl _) (Nat.le_of_ble_eq_true rfl) ?_
        rw [max_n (by omega) (by omega)]
        refine q_iret G (pc := 54) dX10_greaterPart_54 (Or.inl rfl) ?_
        exact ⟨rfl, rfl, rfl⟩
      · refine q_iload_n G (pc := 17) dX10_greaterPart_17 rfl ?_
        refine q_iload_n G (pc := 18) dX10_greaterPart_18 rfl ?_
        refine q_iload G (pc := 19) dX10_greaterPart_19 rfl ?_
        refine q_ishr G (pc := 21) dX10_greaterPart_21 ?_
        rw [shr_nI (by omega) (by omega)]
        refine q_aload_n G (pc := 22) dX10_greaterPart_22 rfl ?_
        refine q_getR (x := mm_sh sw) G (pc := 23) dX10_greaterPart_23 fl_X10_19_9 rfl (hg hτ (hf_sh sw)) ?_
        refine q_iload G (pc := 26) dX10_greaterPart_26 rfl ?_
        refine q_cV1E G (pc := 28) dX10_greaterPart_28 cv_X10_119 (ly_sh sw) (s_X7_lettersOn (by omega) hτ (ly_sh sw) hS (s := s) (by omega)) (Nat.le_of_ble_eq_true rfl) ?_
        have hl0 := letO_lt hS.2.2.2.1 s
        show X 31 _ (.int (nI (letO P s)) :: _) _ _ _
        refine q_iload_n G (pc := 31) dX10_greaterPart_31 rfl ?_
        refine q_ishr G (pc := 32) dX10_greaterPart_32 ?_
        rw [shr_nI (by omega) (by omega)]
        refine q_iand G (pc := 33) dX10_greaterPart_33 ?_
        rw [and_nI]
        refine q_iconst (v := nI 1) G (pc := 34) dX10_greaterPart_34 (by decide) ?_
        refine q_iand G (pc := 35) dX10_greaterPart_35 ?_
        rw [bitmul]
        refine q_iaddN G (pc := 36) dX10_greaterPart_36 ?_
        refine q_istore_n G (pc := 37) dX10_greaterPart_37 (by decide) ?_
        show X _ [_, _, _, _, _] _ _ _ _
        refine q_iincN G (pc := 38) dX10_greaterPart_38 rfl (inc1 _) (by decide) ?_
        show X _ [_, _, _, _, _] _ _ _ _
        refine q_goto (tgt := 5) G (pc := 41) dX10_greaterPart_41 (by decide) ?_
        exact ih5 (s + 1) (by omega) (by omega)
  exact L5 _ 0 (Nat.lt_succ_self _) (by omega)
theorem gpt_le (P : PG) (W c : Nat) (hS : pS P ≤ 6) : gpt P W c ≤ 6 := by
  unfold gpt
  have hq2 := hvM_le P W c (pS P)
  have hq3 := pcs_le W (pS P) hS
  have hq4 := pcn_6 W
  omega
theorem lkF_le (P : PG) (W : Nat) : ∀ c, (lkF P W c).1 ≤ 6
  | 0 => pcn_6 W
  | c + 1 => by
    unfold lkF
    have := lkF_le P W c
    split
    · show gpt P W c ≤ 6; omega
    · exact this
set_option maxHeartbeats 2000000 in
theorem c_look {d : Nat} (hd : 4 ≤ d) {hi : mm_HI} {τ : mm_T} {P : PG} {n : Nat} {f : Nat → Nat} {t K : Nat} {pn : Nat → Nat} {pf : Nat → Nat → Nat} {pt : Nat → Nat} {im : Nat → Option DK} {sl : List (Nat × Nat)} {N : Nat} {b : Nat → Nat} {tr : Int64} (hC : cS P n f t K pn pf pt im sl N b tr hi τ)  : wR d yX10_look [.ref 0] hi τ (CQ (zLook (mkT P n f t K pn pf pt im sl N b tr)) hi τ) := by
  refine w_intro (by omega) M_X10_look (Nat.le_of_ble_eq_true rfl) rfl ?_
  intro e X he G
  show X 0 [some (.ref (0)), none, none, none, none, none] [] hi τ 125
  obtain ⟨sw, nx, nd, hτ, hS, hD, hV, hI, hIV, hN, hNO, hT, hFl, hE, hTr⟩ := id hC
  have hS6 := hS.2.2.2.1.2.2.1
  have hL3 : pL P ≤ 3 := hS.2.2.2.1.2.1
  have hn6 := hD.1.2.2.2.1
  have hRw : rowF hi 16 n f t := hD.1
  have hfs : ∀ j, j < n → f j < pS P := hV.1.1
  have hW := whM_lt P sl (pS P) hS6
  refine q_aload_n G (pc := 0) dX10_look_0 rfl ?_
  refine q_cV0E G (pc := 1) dX10_look_1 cv_X10_254 rfl (c_which0 (by omega) hC) (Nat.le_of_ble_eq_true rfl) ?_
  refine q_istore_n G (pc := 4) dX10_look_4 (by decide) ?_
  show X _ [_, _, _, _, _, _] _ _ _ _
  refine q_iload_n G (pc := 5) dX10_look_5 rfl ?_
  refine q_cS1E G (pc := 6) dX10_look_6 cs_X10_164 (s_bitCount (by omega) hW) (Nat.le_of_ble_eq_true rfl) ?_
  refine q_istore_n G (pc := 9) dX10_look_9 (by decide) ?_
  show X _ [_, _, _, _, _, _] _ _ _ _
  refine q_bipush (v := -9) G (pc := 10) dX10_look_10 (by decide) ?_
  refine q_istore_n G (pc := 12) dX10_look_12 (by decide) ?_
  show X _ [_, _, _, _, _, _] _ _ _ _
  refine q_iconst (v := nI 0) G (pc := 13) dX10_look_13 (by decide) ?_
  refine q_istore G (pc := 14) dX10_look_14 (by decide) ?_
  show X _ [_, _, _, _, _, _] _ _ _ _
  have L16 : ∀ (zz : Nat) (c : Nat) (v5 : Option Value), 26 - c < zz → c ≤ 26 → X 16 [some (.ref (0)), some (.int (nI ((whM P sl (pS P))))), some (.int (nI ((lkF P (whM P sl (pS P)) c).1))), some (.int ((lkF P (whM P sl (pS P)) c).2)), some (.int (nI (c))), v5] [] hi τ 125 := by
    intro zz
    induction zz with
    | zero => intro c v5 hm; exact absurd hm (Nat.not_lt_zero _)
    | succ zz ih16 =>
      intro c v5 hm h0
      refine q_iload G (pc := 16) dX10_look_16 rfl ?_
      refine q_bipush (v := nI 26) G (pc := 18) dX10_look_18 (by decide) ?_
      refine q_icmp_geN (tgt := 50) G (pc := 20) dX10_look_20 (by decide) (by omega) (by omega) (fun c20 => ?_) (fun c20 => ?_)
      · refine q_iload_n G (pc := 50) dX10_look_50 rfl ?_
        refine q_iret G (pc := 51) dX10_look_51 (Or.inl rfl) ?_
        exact CQ.of (by show (_, _) = (_, _); rw [show c = 26 by omega]) (hC.post scr.rf _)
      · refine q_aload_n G (pc := 23) dX10_look_23 rfl ?_
        refine q_iload_n G (pc := 24) dX10_look_24 rfl ?_
        refine q_iload G (pc := 25) dX10_look_25 rfl ?_
        refine q_cV2E G (pc := 27) dX10_look_27 cv_X10_257 rfl (c_greaterPart (by omega) hC hW (c := c) (by omega)) (Nat.le_of_ble_eq_true rfl) ?_
        have hg := gpt_le P (whM P sl (pS P)) c hS6
        have hl2 := lkF_le P (whM P sl (pS P)) c
        refine q_istore G (pc := 30) dX10_look_30 (by decide) ?_
        show X _ [_, _, _, _, _, _] _ _ _ _
        refine q_iload G (pc := 32) dX10_look_32 rfl ?_
        refine q_iload_n G (pc := 34) dX10_look_34 rfl ?_
        refine q_icmp_geN (tgt := 44) G (pc := 35) dX10_look_35 (by decide) (by omega) (by omega) (fun c35 => ?_) (fun c35 => ?_)
        · refine q_iincN G (pc := 44) dX10_look_44 rfl (inc1 _) (by decide) ?_
          show X _ [_, _, _, _, _, _] _ _ _ _
          refine q_goto (tgt := 16) G (pc := 47) dX10_look_47 (by decide) ?_
          have e1 : lkF P (whM P sl (pS P)) (c + 1) = lkF P (whM P sl (pS P)) c := if_neg (by omega)
          have z := fun v5 => ih16 (c + 1) v5 (by omega) (by omega)
          simp only [e1] at z
          exact z _
        · refine q_iload G (pc := 38) dX10_look_38 rfl ?_
          refine q_istore_n G (pc := 40) dX10_look_40 (by decide) ?_
          show X _ [_, _, _, _, _, _] _ _ _ _
          refine q_iload G (pc := 41) dX10_look_41 rfl ?_
          refine q_istore_n G (pc := 43) dX10_look_43 (by decide) ?_
          show X _ [_, _, _, _, _, _] _ _ _ _
          refine q_iincN G (pc := 44) dX10_look_44 rfl (inc1 _) (by decide) ?_
          show X _ [_, _, _, _, _, _] _ _ _ _
          refine q_goto (tgt := 16) G (pc := 47) dX10_look_47 (by decide) ?_
          have e1 : lkF P (whM P sl (pS P)) (c + 1) = (gpt P (whM P sl (pS P)) c, nI c) := if_pos (by omega)
          have z := fun v5 => ih16 (c + 1) v5 (by omega) (by omega)
          simp only [e1] at z
          exact z _
  exact L16 _ 0 _ (Nat.lt_succ_self _) (by omega)
set_option maxHeartbeats 2000000 in
theorem c_plainMark {d : Nat} (hd : 3 ≤ d) {hi : mm_HI} {τ : mm_T} {P : PG} {n : Nat} {f : Nat → Nat} {t K : Nat} {pn : Nat → Nat} {pf : Nat → Nat → Nat} {pt : Nat → Nat} {im : Nat → Option DK} {sl : List (Nat × Nat)} {N : Nat} {b : Nat → Nat} {tr : Int64} (hC : cS P n f t K pn pf pt im sl N b tr hi τ) {s : Nat} (hs : s < pS P) : wR d yX10_plainMark [.ref 0, .int (nI s)] hi τ (fun v h t2 => v = some (.int (nI (blkO P s))) ∧ h = hi ∧ t2 = tU τ 1) := by
  refine w_intro (by omega) M_X10_plainMark (Nat.le_of_ble_eq_true rfl) rfl ?_
  intro e X he G
  show X 0 [some (.ref (0)), some (.int (nI (s)))] [] hi τ 125
  obtain ⟨sw, nx, nd, hτ, hS, hD, hV, hI, hIV, hN, hNO, hT, hFl, hE, hTr⟩ := id hC
  have hS6 := hS.2.2.2.1.2.2.1
  have hL3 : pL P ≤ 3 := hS.2.2.2.1.2.1
  have hn6 := hD.1.2.2.2.1
  have hRw : rowF hi 16 n f t := hD.1
  have hfs : ∀ j, j < n → f j < pS P := hV.1.1
  refine q_aload_n G (pc := 0) dX10_plainMark_0 rfl ?_
  refine q_dup G (pc := 1) dX10_plainMark_1 rfl ?_
  refine q_getL G (pc := 2) dX10_plainMark_2 fl_X10_291_9 rfl ?_
  refine q_lconst G (pc := 5) dX10_plainMark_5 rfl ?_
  refine q_ladd G (pc := 6) dX10_plainMark_6 ?_
  refine q_putL G (pc := 7) dX10_plainMark_7 fl_X10_291_9 rfl ?_
  show X 10 _ _ _ (tU τ 1) _
  have hτ1 : (tU τ 1).1 = mm_hr sw := hτ
  have hτ2 : (tU (tU τ 1) 1).1 = mm_hr sw := hτ
  refine q_aload_n G (pc := 10) dX10_plainMark_10 rfl ?_
  refine q_getR (x := mm_sh sw) G (pc := 11) dX10_plainMark_11 fl_X10_19_9 rfl (hg hτ (hf_sh sw)) ?_
  refine q_iload_n G (pc := 14) dX10_plainMark_14 rfl ?_
  refine q_cV1E G (pc := 15) dX10_plainMark_15 cv_X10_303 (ly_sh sw) (s_X7_blanksOn (by omega) hτ1 (ly_sh sw) hS hs) (Nat.le_of_ble_eq_true rfl) ?_
  refine q_iret G (pc := 18) dX10_plainMark_18 (Or.inl rfl) ?_
  exact ⟨rfl, rfl, rfl⟩
set_option maxHeartbeats 2000000 in
theorem c_creasedMark {d : Nat} (hd : 4 ≤ d) {hi : mm_HI} {τ : mm_T} {P : PG} {n : Nat} {f : Nat → Nat} {t K : Nat} {pn : Nat → Nat} {pf : Nat → Nat → Nat} {pt : Nat → Nat} {im : Nat → Option DK} {sl : List (Nat × Nat)} {N : Nat} {b : Nat → Nat} {tr : Int64} (hC : cS P n f t K pn pf pt im sl N b tr hi τ) {s : Nat} (hs : s < pS P) : wR d yX10_creasedMark [.ref 0, .int (nI s)] hi τ (fun v h t2 => v = some (.int (nI (blkO P s + 10 * (t / 2 ^ s % 2)))) ∧ h = hi ∧ t2 = tU τ 11) := by
  refine w_intro (by omega) M_X10_creasedMark (Nat.le_of_ble_eq_true rfl) rfl ?_
  intro e X he G
  show X 0 [some (.ref (0)), some (.int (nI (s)))] [] hi τ 125
  obtain ⟨sw, nx, nd, hτ, hS, hD, hV, hI, hIV, hN, hNO, hT, hFl, hE, hTr⟩ := id hC
  have hS6 := hS.2.2.2.1.2.2.1
  have hL3 : pL P ≤ 3 := hS.2.2.2.1.2.1
  have hn6 := hD.1.2.2.2.1
  have hRw : rowF hi 16 n f t := hD.1
  have hfs : ∀ j, j < n → f j < pS P := hV.1.1
  refine q_aload_n G (pc := 0) dX10_creasedMark_0 rfl ?_
  refine q_dup G (pc := 1) dX10_creasedMark_1 rfl ?_
  refine q_getL G (pc := 2) dX10_creasedMark_2 fl_X10_291_9 rfl ?_
  refine q_ldc2 G (pc := 5) dX10_creasedMark_5 kc_X10_306 ?_
  refine q_ladd G (pc := 8) dX10_creasedMark_8 ?_
  refine q_putL G (pc := 9) dX10_creasedMark_9 fl_X10_291_9 rfl ?_
  show X 12 _ _ _ (tU τ 10) _
  have hτ1 : (tU τ 10).1 = mm_hr sw := hτ
  have hτ2 : (tU (tU τ 10) 1).1 = mm_hr sw := hτ
  refine q_aload_n G (pc := 12) dX10_creasedMark_12 rfl ?_
  refine q_iload_n G (pc := 13) dX10_creasedMark_13 rfl ?_
  refine q_cV1R G (pc := 14) dX10_creasedMark_14 cv_X10_277 rfl (c_plainMark (by omega) (hC.tr 10) hs) (Nat.le_of_ble_eq_true rfl) ?_
  rintro v h t2 ⟨rfl, rfl, rfl⟩
  refine q_bipush (v := nI 10) G (pc := 17) dX10_creasedMark_17 (by decide) ?_
  refine q_aload_n G (pc := 19) dX10_creasedMark_19 rfl ?_
  refine q_getR (x := 15) G (pc := 20) dX10_creasedMark_20 fl_X10_29_9 rfl (hg hτ (hf_9_3 rfl)) ?_
  refine q_getR (x := 16) G (pc := 23) dX10_creasedMark_23 fl_X10_109_1 rfl (hg hτ (hf_1_0 rfl)) ?_
  refine q_iload_n G (pc := 26) dX10_creasedMark_26 rfl ?_
  refine q_cV1E G (pc := 27) dX10_creasedMark_27 cv_X10_116 rfl (s_X6_wayOf (by omega) hτ2 (r := 16) rfl hRw (s := s) (by omega)) (Nat.le_of_ble_eq_true rfl) ?_
  refine q_imulN G (pc := 30) dX10_creasedMark_30 ?_
  refine q_iaddN G (pc := 31) dX10_creasedMark_31 ?_
  refine q_iret G (pc := 32) dX10_creasedMark_32 (Or.inl rfl) ?_
  exact ⟨rfl, rfl, tU_add τ 10 1⟩
set_option maxHeartbeats 2000000 in
theorem c_smudgedMark {d : Nat} (hd : 4 ≤ d) {hi : mm_HI} {τ : mm_T} {P : PG} {n : Nat} {f : Nat → Nat} {t K : Nat} {pn : Nat → Nat} {pf : Nat → Nat → Nat} {pt : Nat → Nat} {im : Nat → Option DK} {sl : List (Nat × Nat)} {N : Nat} {b : Nat → Nat} {tr : Int64} (hC : cS P n f t K pn pf pt im sl N b tr hi τ) {s : Nat} (hs : s < pS P) : wR d yX10_smudgedMark [.ref 0, .int (nI s)] hi τ (fun v h t2 => v = some (.int (nI (blkO P s) - nI n)) ∧ h = hi ∧ t2 = tU τ 101) := by
  refine w_intro (by omega) M_X10_smudgedMark (Nat.le_of_ble_eq_true rfl) rfl ?_
  intro e X he G
  show X 0 [some (.ref (0)), some (.int (nI (s)))] [] hi τ 125
  obtain ⟨sw, nx, nd, hτ, hS, hD, hV, hI, hIV, hN, hNO, hT, hFl, hE, hTr⟩ := id hC
  have hS6 := hS.2.2.2.1.2.2.1
  have hL3 : pL P ≤ 3 := hS.2.2.2.1.2.1
  have hn6 := hD.1.2.2.2.1
  have hRw : rowF hi 16 n f t := hD.1
  have hfs : ∀ j, j < n → f j < pS P := hV.1.1
  refine q_aload_n G (pc := 0) dX10_smudgedMark_0 rfl ?_
  refine q_dup G (pc := 1) dX10_smudgedMark_1 rfl ?_
  refine q_getL G (pc := 2) dX10_smudgedMark_2 fl_X10_291_9 rfl ?_
  refine q_ldc2 G (pc := 5) dX10_smudgedMark_5 kc_X10_308 ?_
  refine q_ladd G (pc := 8) dX10_smudgedMark_8 ?_
  refine q_putL G (pc := 9) dX10_smudgedMark_9 fl_X10_291_9 rfl ?_
  show X 12 _ _ _ (tU τ 100) _
  have hτ1 : (tU τ 100).1 = mm_hr sw := hτ
  have hτ2 : (tU (tU τ 100) 1).1 = mm_hr sw := hτ
  refine q_aload_n G (pc := 12) dX10_smudgedMark_12 rfl ?_
  refine q_iload_n G (pc := 13) dX10_smudgedMark_13 rfl ?_
  refine q_cV1R G (pc := 14) dX10_smudgedMark_14 cv_X10_277 rfl (c_plainMark (by omega) (hC.tr 100) hs) (Nat.le_of_ble_eq_true rfl) ?_
  rintro v h t2 ⟨rfl, rfl, rfl⟩
  refine q_aload_n G (pc := 17) dX10_smudgedMark_17 rfl ?_
  refine q_getR (x := 15) G (pc := 18) dX10_smudgedMark_18 fl_X10_29_9 rfl (hg hτ (hf_9_3 rfl)) ?_
  refine q_getR (x := 16) G (pc := 21) dX10_smudgedMark_21 fl_X10_109_1 rfl (hg hτ (hf_1_0 rfl)) ?_
  refine q_getI (v := nI (n)) G (pc := 24) dX10_smudgedMark_24 fl_X10_182_6 (by decide) rfl hRw.1 ?_
  refine q_isub G (pc := 27) dX10_smudgedMark_27 ?_
  refine q_iret G (pc := 28) dX10_smudgedMark_28 (Or.inl rfl) ?_
  exact ⟨rfl, rfl, tU_add τ 100 1⟩
set_option maxHeartbeats 2000000 in
theorem c_tornMark {d : Nat} (hd : 5 ≤ d) {hi : mm_HI} {τ : mm_T} {P : PG} {n : Nat} {f : Nat → Nat} {t K : Nat} {pn : Nat → Nat} {pf : Nat → Nat → Nat} {pt : Nat → Nat} {im : Nat → Option DK} {sl : List (Nat × Nat)} {N : Nat} {b : Nat → Nat} {tr : Int64} (hC : cS P n f t K pn pf pt im sl N b tr hi τ) {s : Nat} (hs : s < pS P) : wR d yX10_tornMark [.ref 0, .int (nI s)] hi τ (fun v h t2 => v = some (.int (nI ((blkO P s + 10 * (t / 2 ^ s % 2)) * 2))) ∧ h = hi ∧ t2 = tU τ 1011) := by
  refine w_intro (by omega) M_X10_tornMark (Nat.le_of_ble_eq_true rfl) rfl ?_
  intro e X he G
  show X 0 [some (.ref (0)), some (.int (nI (s)))] [] hi τ 125
  obtain ⟨sw, nx, nd, hτ, hS, hD, hV, hI, hIV, hN, hNO, hT, hFl, hE, hTr⟩ := id hC
  have hS6 := hS.2.2.2.1.2.2.1
  have hL3 : pL P ≤ 3 := hS.2.2.2.1.2.1
  have hn6 := hD.1.2.2.2.1
  have hRw : rowF hi 16 n f t := hD.1
  have hfs : ∀ j, j < n → f j < pS P := hV.1.1
  refine q_aload_n G (pc := 0) dX10_tornMark_0 rfl ?_
  refine q_dup G (pc := 1) dX10_tornMark_1 rfl ?_
  refine q_getL G (pc := 2) dX10_tornMark_2 fl_X10_291_9 rfl ?_
  refine q_ldc2 G (pc := 5) dX10_tornMark_5 kc_X10_310 ?_
  refine q_ladd G (pc := 8) dX10_tornMark_8 ?_
  refine q_putL G (pc := 9) dX10_tornMark_9 fl_X10_291_9 rfl ?_
  show X 12 _ _ _ (tU τ 1000) _
  have hτ1 : (tU τ 1000).1 = mm_hr sw := hτ
  have hτ2 : (tU (tU τ 1000) 1).1 = mm_hr sw := hτ
  refine q_aload_n G (pc := 12) dX10_tornMark_12 rfl ?_
  refine q_iload_n G (pc := 13) dX10_tornMark_13 rfl ?_
  refine q_cV1R G (pc := 14) dX10_tornMark_14 cv_X10_262 rfl (c_creasedMark (by omega) (hC.tr 1000) hs) (Nat.le_of_ble_eq_true rfl) ?_
  rintro v h t2 ⟨rfl, rfl, rfl⟩
  refine q_iconst (v := nI 2) G (pc := 17) dX10_tornMark_17 (by decide) ?_
  refine q_imulN G (pc := 18) dX10_tornMark_18 ?_
  refine q_iret G (pc := 19) dX10_tornMark_19 (Or.inl rfl) ?_
  exact ⟨rfl, rfl, tU_add τ 1000 11⟩
set_option maxHeartbeats 2000000 in
theorem c_greasyMark {d : Nat} (hd : 5 ≤ d) {hi : mm_HI} {τ : mm_T} {P : PG} {n : Nat} {f : Nat → Nat} {t K : Nat} {pn : Nat → Nat} {pf : Nat → Nat → Nat} {pt : Nat → Nat} {im : Nat → Option DK} {sl : List (Nat × Nat)} {N : Nat} {b : Nat → Nat} {tr : Int64} (hC : cS P n f t K pn pf pt im sl N b tr hi τ) {s : Nat} (hs : s < pS P) : wR d yX10_greasyMark [.ref 0, .int (nI s)] hi τ (fun v h t2 => v = some (.int (nI (blkO P s) - nI n + nI s)) ∧ h = hi ∧ t2 = tU τ 10101) := by
  refine w_intro (by omega) M_X10_greasyMark (Nat.le_of_ble_eq_true rfl) rfl ?_
  intro e X he G
  show X 0 [some (.ref (0)), some (.int (nI (s)))] [] hi τ 125
  obtain ⟨sw, nx, nd, hτ, hS, hD, hV, hI, hIV, hN, hNO, hT, hFl, hE, hTr⟩ := id hC
  have hS6 := hS.2.2.2.1.2.2.1
  have hL3 : pL P ≤ 3 := hS.2.2.2.1.2.1
  have hn6 := hD.1.2.2.2.1
  have hRw : rowF hi 16 n f t := hD.1
  have hfs : ∀ j, j < n → f j < pS P := hV.1.1
  refine q_aload_n G (pc := 0) dX10_greasyMark_0 rfl ?_
  refine q_dup G (pc := 1) dX10_greasyMark_1 rfl ?_
  refine q_getL G (pc := 2) dX10_greasyMark_2 fl_X10_291_9 rfl ?_
  refine q_ldc2 G (pc := 5) dX10_greasyMark_5 kc_X10_312 ?_
  refine q_ladd G (pc := 8) dX10_greasyMark_8 ?_
  refine q_putL G (pc := 9) dX10_greasyMark_9 fl_X10_291_9 rfl ?_
  show X 12 _ _ _ (tU τ 10000) _
  have hτ1 : (tU τ 10000).1 = mm_hr sw := hτ
  have hτ2 : (tU (tU τ 10000) 1).1 = mm_hr sw := hτ
  refine q_aload_n G (pc := 12) dX10_greasyMark_12 rfl ?_
  refine q_iload_n G (pc := 13) dX10_greasyMark_13 rfl ?_
  refine q_cV1R G (pc := 14) dX10_greasyMark_14 cv_X10_265 rfl (c_smudgedMark (by omega) (hC.tr 10000) hs) (Nat.le_of_ble_eq_true rfl) ?_
  rintro v h t2 ⟨rfl, rfl, rfl⟩
  refine q_iload_n G (pc := 17) dX10_greasyMark_17 rfl ?_
  refine q_iadd G (pc := 18) dX10_greasyMark_18 ?_
  refine q_iret G (pc := 19) dX10_greasyMark_19 (Or.inl rfl) ?_
  exact ⟨rfl, rfl, tU_add τ 10000 101⟩
set_option maxHeartbeats 2000000 in
theorem c_singedMark {d : Nat} (hd : 5 ≤ d) {hi : mm_HI} {τ : mm_T} {P : PG} {n : Nat} {f : Nat → Nat} {t K : Nat} {pn : Nat → Nat} {pf : Nat → Nat → Nat} {pt : Nat → Nat} {im : Nat → Option DK} {sl : List (Nat × Nat)} {N : Nat} {b : Nat → Nat} {tr : Int64} (hC : cS P n f t K pn pf pt im sl N b tr hi τ) {s : Nat} (hs : s < pS P) : wR d yX10_singedMark [.ref 0, .int (nI s)] hi τ (fun v h t2 => v = some (.int (nI (blkO P s + rrM P n f t (pL P)))) ∧ scr hi h ∧ t2 = tU τ 100001) := by
  refine w_intro (by omega) M_X10_singedMark (Nat.le_of_ble_eq_true rfl) rfl ?_
  intro e X he G
  show X 0 [some (.ref (0)), some (.int (nI (s)))] [] hi τ 125
  obtain ⟨sw, nx, nd, hτ, hS, hD, hV, hI, hIV, hN, hNO, hT, hFl, hE, hTr⟩ := id hC
  have hS6 := hS.2.2.2.1.2.2.1
  have hL3 : pL P ≤ 3 := hS.2.2.2.1.2.1
  have hn6 := hD.1.2.2.2.1
  have hRw : rowF hi 16 n f t := hD.1
  have hfs : ∀ j, j < n → f j < pS P := hV.1.1
  refine q_aload_n G (pc := 0) dX10_singedMark_0 rfl ?_
  refine q_dup G (pc := 1) dX10_singedMark_1 rfl ?_
  refine q_getL G (pc := 2) dX10_singedMark_2 fl_X10_291_9 rfl ?_
  refine q_ldc2 G (pc := 5) dX10_singedMark_5 kc_X10_314 ?_
  refine q_ladd G (pc := 8) dX10_singedMark_8 ?_
  refine q_putL G (pc := 9) dX10_singedMark_9 fl_X10_291_9 rfl ?_
  show X 12 _ _ _ (tU τ 100000) _
  have hτ1 : (tU τ 100000).1 = mm_hr sw := hτ
  have hτ2 : (tU (tU τ 100000) 1).1 = mm_hr sw := hτ
  refine q_aload_n G (pc := 12) dX10_singedMark_12 rfl ?_
  refine q_iload_n G (pc := 13) dX10_singedMark_13 rfl ?_
  refine q_cV1R G (pc := 14) dX10_singedMark_14 cv_X10_277 rfl (c_plainMark (by omega) (hC.tr 100000) hs) (Nat.le_of_ble_eq_true rfl) ?_
  rintro v h t2 ⟨rfl, rfl, rfl⟩
  refine q_aload_n G (pc := 17) dX10_singedMark_17 rfl ?_
  refine q_cV0I G (pc := 18) dX10_singedMark_18 cv_X10_194 rfl (c_rightRuns (by omega) ((hC.tr 100000).tr 1)) (Nat.le_of_ble_eq_true rfl) ?_
  intro xa hk hx
  obtain ⟨rfl, x5⟩ := hx
  refine q_iaddN G (pc := 21) dX10_singedMark_21 ?_
  refine q_iret G (pc := 22) dX10_singedMark_22 (Or.inl rfl) ?_
  exact ⟨rfl, x5, tU_add τ 100000 1⟩
set_option maxHeartbeats 2000000 in
theorem c_mark {d : Nat} (hd : 7 ≤ d) {hi : mm_HI} {τ : mm_T} {P : PG} {n : Nat} {f : Nat → Nat} {t K : Nat} {pn : Nat → Nat} {pf : Nat → Nat → Nat} {pt : Nat → Nat} {im : Nat → Option DK} {sl : List (Nat × Nat)} {N : Nat} {b : Nat → Nat} {tr : Int64} (hC : cS P n f t K pn pf pt im sl N b tr hi τ) {x : Int32} {y : Int32} : wR d yX10_mark [.ref 0, .int x, .int y] hi τ (CQ (zMark (mkT P n f t K pn pf pt im sl N b tr) (ix x 6) (ix y (pS P))) hi τ) := by
  refine w_intro (by omega) M_X10_mark (Nat.le_of_ble_eq_true rfl) rfl ?_
  intro e X he G
  show X 0 [some (.ref (0)), some (.int (x)), some (.int (y))] [] hi τ 125
  obtain ⟨sw, nx, nd, hτ, hS, hD, hV, hI, hIV, hN, hNO, hT, hFl, hE, hTr⟩ := id hC
  have hS6 := hS.2.2.2.1.2.2.1
  have hL3 : pL P ≤ 3 := hS.2.2.2.1.2.1
  have hn6 := hD.1.2.2.2.1
  have hRw : rowF hi 16 n f t := hD.1
  have hfs : ∀ j, j < n → f j < pS P := hV.1.1
  refine q_iload_n G (pc := 0) dX10_mark_0 rfl ?_
  refine q_if_lt (tgt := 18) G (pc := 1) dX10_mark_1 (by decide) (fun c1 => ?_) (fun c1 => ?_)
  · refine q_ldcw G (pc := 18) dX10_mark_18 kc_X10_261 ?_
    refine q_iret G (pc := 21) dX10_mark_21 (Or.inl rfl) ?_
    exact CQ.of (by rw [ix_none (ix_n0 (by decide) c1)]; rfl) (hC.post scr.rf _)
  · refine q_iload_n G (pc := 4) dX10_mark_4 rfl ?_
    refine q_bipush (v := nI 6) G (pc := 5) dX10_mark_5 (by decide) ?_
    refine q_icmp_ge (tgt := 18) G (pc := 7) dX10_mark_7 (by decide) (fun c7 => ?_) (fun c7 => ?_)
    · refine q_ldcw G (pc := 18) dX10_mark_18 kc_X10_261 ?_
      refine q_iret G (pc := 21) dX10_mark_21 (Or.inl rfl) ?_
      exact CQ.of (by rw [ix_none (ix_nn (by decide) c7)]; rfl) (hC.post scr.rf _)
    · obtain ⟨k, hk0, rfl⟩ := ix_lt (n := 6) (by decide) c1 c7
      refine q_aload_n G (pc := 10) dX10_mark_10 rfl ?_
      refine q_iload_n G (pc := 11) dX10_mark_11 rfl ?_
      refine q_cV1B G (pc := 12) dX10_mark_12 cv_X10_106 rfl (c_isStrip (by omega) hC) (Nat.le_of_ble_eq_true rfl) (fun c12 => ?_) (fun c12 => ?_)
      · obtain ⟨s, hs, rfl⟩ := c12
        refine q_if_neN (tgt := 22) G (pc := 15) dX10_mark_15 (by decide) (by omega) (fun _ => ?_) (fun c15 => absurd c15 (by decide))
        refine q_iload_n G (pc := 22) dX10_mark_22 rfl ?_
        have hk23 : k = 0 ∨ k = 1 ∨ k = 2 ∨ k = 3 ∨ k = 4 ∨ k = 5 := by omega
        rcases hk23 with k23 | k23 | k23 | k23 | k23 | k23
        · subst k23
          refine q_tableOut (tgt := 86) G (pc := 23) dX10_mark_23 (by decide) (by decide) ?_
          refine q_aload_n G (pc := 86) dX10_mark_86 rfl ?_
          refine q_iload_n G (pc := 87) dX10_mark_87 rfl ?_
          refine q_cV1R G (pc := 88) dX10_mark_88 cv_X10_277 rfl (c_plainMark (by omega) hC hs) (Nat.le_of_ble_eq_true rfl) ?_
          rintro v h t2 ⟨rfl, rfl, rfl⟩
          refine q_iret G (pc := 91) dX10_mark_91 (Or.inl rfl) ?_
          have e : zMark (mkT P n f t K pn pf pt im sl N b tr) (ix (nI 0) 6) (ix (nI s) (pS P)) = (mkT P n f t K pn pf pt im sl N b (tr + 1), nI (blkO P s)) := by rw [ix_some (s := 0) (n := 6) (by decide) (by decide), ix_some hs (by omega)]; rfl
          exact CQ.mk e (hC.tr 1) frr.rf (by simp [tU, va_up])
        · subst k23
          refine q_tableIn (off := 33) (tgt := 56) G (pc := 23) dX10_mark_23 (by decide) (by decide) (by decide) (by decide) ?_
          refine q_aload_n G (pc := 56) dX10_mark_56 rfl ?_
          refine q_iload_n G (pc := 57) dX10_mark_57 rfl ?_
          refine q_cV1R G (pc := 58) dX10_mark_58 cv_X10_262 rfl (c_creasedMark (by omega) hC hs) (Nat.le_of_ble_eq_true rfl) ?_
          rintro v h t2 ⟨rfl, rfl, rfl⟩
          refine q_iret G (pc := 61) dX10_mark_61 (Or.inl rfl) ?_
          have e : zMark (mkT P n f t K pn pf pt im sl N b tr) (ix (nI 1) 6) (ix (nI s) (pS P)) = (mkT P n f t K pn pf pt im sl N b (tr + 11), nI (blkO P s + 10 * (t / 2 ^ s % 2))) := by rw [ix_some (s := 1) (n := 6) (by decide) (by decide), ix_some hs (by omega)]; rfl
          exact CQ.mk e (hC.tr 11) frr.rf (by simp [tU, va_up])
        · subst k23
          refine q_tableIn (off := 39) (tgt := 62) G (pc := 23) dX10_mark_23 (by decide) (by decide) (by decide) (by decide) ?_
          refine q_aload_n G (pc := 62) dX10_mark_62 rfl ?_
          refine q_iload_n G (pc := 63) dX10_mark_63 rfl ?_
          refine q_cV1R G (pc := 64) dX10_mark_64 cv_X10_265 rfl (c_smudgedMark (by omega) hC hs) (Nat.le_of_ble_eq_true rfl) ?_
          rintro v h t2 ⟨rfl, rfl, rfl⟩
          refine q_iret G (pc := 67) dX10_mark_67 (Or.inl rfl) ?_
          have e : zMark (mkT P n f t K pn pf pt im sl N b tr) (ix (nI 2) 6) (ix (nI s) (pS P)) = (mkT P n f t K pn pf pt im sl N b (tr + 101), nI (blkO P s) - nI n) := by rw [ix_some (s := 2) (n := 6) (by decide) (by decide), ix_some hs (by omega)]; rfl
          exact CQ.mk e (hC.tr 101) frr.rf (by simp [tU, va_up])
        · subst k23
          refine q_tableIn (off := 45) (tgt := 68) G (pc := 23) dX10_mark_23 (by decide) (by decide) (by decide) (by decide) ?_
          refine q_aload_n G (pc := 68) dX10_mark_68 rfl ?_
          refine q_iload_n G (pc := 69) dX10_mark_69 rfl ?_
          refine q_cV1R G (pc := 70) dX10_mark_70 cv_X10_268 rfl (c_tornMark (by omega) hC hs) (Nat.le_of_ble_eq_true rfl) ?_
          rintro v h t2 ⟨rfl, rfl, rfl⟩
          refine q_iret G (pc := 73) dX10_mark_73 (Or.inl rfl) ?_
          have e : zMark (mkT P n f t K pn pf pt im sl N b tr) (ix (nI 3) 6) (ix (nI s) (pS P)) = (mkT P n f t K pn pf pt im sl N b (tr + 1011), nI ((blkO P s + 10 * (t / 2 ^ s % 2)) * 2)) := by rw [ix_some (s := 3) (n := 6) (by decide) (by decide), ix_some hs (by omega)]; rfl
          exact CQ.mk e (hC.tr 1011) frr.rf (by simp [tU, va_up])
        · subst k23
          refine q_tableIn (off := 51) (tgt := 74) G (pc := 23) dX10_mark_23 (by decide) (by decide) (by decide) (by decide) ?_
          refine q_aload_n G (pc := 74) dX10_mark_74 rfl ?_
          refine q_iload_n G (pc := 75) dX10_mark_75 rfl ?_
          refine q_cV1R G (pc := 76) dX10_mark_76 cv_X10_271 rfl (c_greasyMark (by omega) hC hs) (Nat.le_of_ble_eq_true rfl) ?_
          rintro v h t2 ⟨rfl, rfl, rfl⟩
          refine q_iret G (pc := 79) dX10_mark_79 (Or.inl rfl) ?_
          have e : zMark (mkT P n f t K pn pf pt im sl N b tr) (ix (nI 4) 6) (ix (nI s) (pS P)) = (mkT P n f t K pn pf pt im sl N b (tr + 10101), nI (blkO P s) - nI n + nI s) := by rw [ix_some (s := 4) (n := 6) (by decide) (by decide), ix_some hs (by omega)]; rfl
          exact CQ.mk e (hC.tr 10101) frr.rf (by simp [tU, va_up])
        · subst k23
          refine q_tableIn (off := 57) (tgt := 80) G (pc := 23) dX10_mark_23 (by decide) (by decide) (by decide) (by decide) ?_
          refine q_aload_n G (pc := 80) dX10_mark_80 rfl ?_
          refine q_iload_n G (pc := 81) dX10_mark_81 rfl ?_
          refine q_cV1R G (pc := 82) dX10_mark_82 cv_X10_274 rfl (c_singedMark (by omega) hC hs) (Nat.le_of_ble_eq_true rfl) ?_
          rintro v h t2 ⟨rfl, x5, rfl⟩
          refine q_iret G (pc := 85) dX10_mark_85 (Or.inl rfl) ?_
          have e : zMark (mkT P n f t K pn pf pt im sl N b tr) (ix (nI 5) 6) (ix (nI s) (pS P)) = (mkT P n f t K pn pf pt im sl N b (tr + 100001), nI (blkO P s + rrM P n f t (pL P))) := by rw [ix_some (s := 5) (n := 6) (by decide) (by decide), ix_some hs (by omega)]; rfl
          exact CQ.mk e ((hC.sc0 x5).tr 100001) x5.fr (by simp [tU, va_up])
      · refine q_if_neN (tgt := 22) G (pc := 15) dX10_mark_15 (by decide) (by omega) (fun c15 => absurd c15 (by decide)) (fun _ => ?_)
        refine q_ldcw G (pc := 18) dX10_mark_18 kc_X10_261 ?_
        refine q_iret G (pc := 21) dX10_mark_21 (Or.inl rfl) ?_
        exact CQ.of (by rw [ix_some hk0 (by decide), ix_none c12]; rfl) (hC.post scr.rf _)
