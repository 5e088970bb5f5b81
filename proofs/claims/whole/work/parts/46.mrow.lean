/-! the model goes through rows -/
def fR (hi h : mm_HI) : Prop := (∀ c, c ≠ 106 → c ≠ 121 → h c = hi c) ∧ ∀ k, k ≠ 30 → h 106 k = hi 106 k
theorem fR.rf {x : mm_HI} : fR x x := ⟨fun _ _ _ => rfl, fun _ _ => rfl⟩
theorem fR.trans {x y z : mm_HI} (h : fR x y) (g : fR y z) : fR x z := ⟨fun c h1 h2 => (g.1 c h1 h2).trans (h.1 c h1 h2), fun k hk => (g.2 k hk).trans (h.2 k hk)⟩
theorem fR.sc {x y : mm_HI} (h : fR x y) : msc x y := ⟨fun c hc => h.1 c (by omega) (by omega), fun k hk => h.2 k (by omega)⟩
theorem srtN_s (lf s : Nat) : srtN lf (s + 1) = srtN lf s ++ (if lf / 2 ^ s % 2 = 1 then [s] else []) := by
  unfold srtN
  rw [List.range_succ, List.filter_append]
  congr 1
  by_cases h : lf / 2 ^ s % 2 = 1
  · rw [if_pos h, List.filter_cons, if_pos (by rw [h]; rfl)]; rfl
  · rw [if_neg h, List.filter_cons, if_neg (by simpa using h)]; rfl
theorem srtN_le (lf s : Nat) : (srtN lf s).length ≤ s := by
  unfold srtN
  exact Nat.le_trans (List.length_filter_le _ _) (by rw [List.length_range]; exact Nat.le_refl _)
theorem oF_a {o : List Nat} {s j : Nat} (h : j < o.length) : oF (o ++ [s]) j = oF o j := by
  unfold oF
  rw [List.getD_eq_getElem?_getD, List.getD_eq_getElem?_getD, List.getElem?_append_left h]
theorem oF_l {o : List Nat} {s : Nat} : oF (o ++ [s]) o.length = s := by simp [oF, List.getD_eq_getElem?_getD]
theorem kdec : ∀ k, k < 7 → nI k + Int32.ofInt (-1) = nI (k + 1) - nI 2 := by decide +kernel
theorem kval : ∀ k, k < 7 → nI (k + 1 + 1) - nI 2 = nI k := by decide +kernel
theorem jS_d {f : Nat → Nat} {a j : Nat} (hj : 0 < j) (h : f j < a) : jS f a j = jS f a (j - 1) := by
  cases j with
  | zero => omega
  | succ j => exact if_pos h
theorem jS_u {f : Nat → Nat} {a j : Nat} (h : ¬ f j < a) : jS f a j = j := by
  cases j with
  | zero => rfl
  | succ j => exact if_neg h
set_option maxHeartbeats 2000000 in
theorem m_firstRow {d : Nat} (hd : 2 ≤ d) {hi : mm_HI} {τ : mm_T} {P : PG} {n : Nat} {f : Nat → Nat} {t K : Nat} {pn : Nat → Nat} {pf : Nat → Nat → Nat} {pt : Nat → Nat} {im : Nat → Option DK} {sl : List (Nat × Nat)} {N : Nat} {b : Nat → Nat} {tr : Int64} (hM : mS P n f t K pn pf pt im sl N b tr hi τ) {x : Int32} {lf : Nat} (hlf : ∀ s, s < pS P → (lf / 2 ^ s % 2 = 1 ↔ ¬ nI s = x ∧ ¬ fnd f s n = none)) : wV d yX11_firstRow [.ref 106, .int x] hi τ (fun h => h 106 30 = nI (srtN lf (pS P)).length ∧ (∀ j, j < (srtN lf (pS P)).length → h 121 j = nI (oF (srtN lf (pS P)) j)) ∧ fR hi h) := by
  refine w_intro (by omega) M_X11_firstRow (Nat.le_of_ble_eq_true rfl) rfl ?_
  intro e X he G
  show X 0 [some (.ref (106)), some (.int (x)), none] [] hi τ 125
  obtain ⟨sw, hτ, hP, hRw, hV, hU, hI, hIV, hN, hNO, hT, hTr⟩ := id hM
  have hS6 : pS P ≤ 6 := hP.2.2.2.2.2.2.2.1
  have hL3 : pL P ≤ 3 := hP.2.2.2.2.2.2.1
  have hL1 : 1 ≤ pL P := hP.2.2.2.2.2.1
  have hW8 : (pW P).length ≤ 8 := hP.2.2.2.2.2.2.2.2.2.1
  have hn6 : n ≤ 6 := hRw.2.2.2.1
  have hfs : ∀ j, j < n → f j < pS P := hV.1.1
  have hV1 : rowV P n f := hV.1
  refine q_aload_n G (pc := 0) dX11_firstRow_0 rfl ?_
  refine q_iconst (v := nI 0) G (pc := 1) dX11_firstRow_1 (by decide) ?_
  refine q_putI G (pc := 2) dX11_firstRow_2 fl_X11_212_10 rfl ?_
  refine q_iconst (v := nI 0) G (pc := 5) dX11_firstRow_5 (by decide) ?_
  refine q_istore_n G (pc := 6) dX11_firstRow_6 (by decide) ?_
  show X _ [_, _, _] _ _ _ _
  have L7 : ∀ (zz : Nat) (s : Nat) (hk : mm_HI), pS P - s < zz → s ≤ pS P → hk 106 30 = nI (srtN lf s).length → (∀ j, j < (srtN lf s).length → hk 121 j = nI (oF (srtN lf s) j)) → fR hi hk → X 7 [some (.ref (106)), some (.int (x)), some (.int (nI (s)))] [] hk τ 125 := by
    intro zz
    induction zz with
    | zero => intro s hk hm; exact absurd hm (Nat.not_lt_zero _)
    | succ zz ih7 =>
      intro s hk hm h0 g1 g2 g3
      have hle := srtN_le lf s
      refine q_iload_n G (pc := 7) dX11_firstRow_7 rfl ?_
      refine q_aload_n G (pc := 8) dX11_firstRow_8 rfl ?_
      refine q_getI (v := nI (pS P)) G (pc := 9) dX11_firstRow_9 fl_X11_68_10 (by decide) rfl (hP.sc g3.sc).2.1 ?_
      refine q_icmp_geN (tgt := 56) G (pc := 12) dX11_firstRow_12 (by decide) (by omega) (by omega) (fun c12 => ?_) (fun c12 => ?_)
      · refine q_vret G (pc := 56) dX11_firstRow_56 rfl ?_
        have e : s = pS P := by omega
        subst e
        exact ⟨rfl, rfl, g1, g2, g3⟩
      · refine q_iload_n G (pc := 15) dX11_firstRow_15 rfl ?_
        refine q_iload_n G (pc := 16) dX11_firstRow_16 rfl ?_
        refine q_icmp_eq (tgt := 50) G (pc := 17) dX11_firstRow_17 (by decide) (fun c17 => ?_) (fun c17 => ?_)
        · refine q_iincN G (pc := 50) dX11_firstRow_50 rfl (inc1 _) (by decide) ?_
          show X _ [_, _, _] _ _ _ _
          refine q_goto (tgt := 7) G (pc := 53) dX11_firstRow_53 (by decide) ?_
          have e := srtN_s lf s
          rw [if_neg (fun q => ((hlf s (by omega)).mp q).1 c17), List.append_nil] at e
          exact ih7 (s + 1) hk (by omega) (by omega) (by rw [e]; exact g1) (by rw [e]; exact g2) g3
        · refine q_aload_n G (pc := 20) dX11_firstRow_20 rfl ?_
          refine q_iload_n G (pc := 21) dX11_firstRow_21 rfl ?_
          refine q_cV1E G (pc := 22) dX11_firstRow_22 cv_X11_179 rfl (m_placeOf (by omega) (hM.sc g3.sc) (s := s) (by omega)) (Nat.le_of_ble_eq_true rfl) ?_
          refine q_bipush (v := -9) G (pc := 25) dX11_firstRow_25 (by decide) ?_
          refine q_icmp_eq (tgt := 50) G (pc := 27) dX11_firstRow_27 (by decide) (fun c27 => ?_) (fun c27 => ?_)
          · refine q_iincN G (pc := 50) dX11_firstRow_50 rfl (inc1 _) (by decide) ?_
            show X _ [_, _, _] _ _ _ _
            refine q_goto (tgt := 7) G (pc := 53) dX11_firstRow_53 (by decide) ?_
            have e := srtN_s lf s
            rw [if_neg (fun q => ((hlf s (by omega)).mp q).2 ((plI_ne hn6).mp c27)), List.append_nil] at e
            exact ih7 (s + 1) hk (by omega) (by omega) (by rw [e]; exact g1) (by rw [e]; exact g2) g3
          · refine q_aload_n G (pc := 30) dX11_firstRow_30 rfl ?_
            refine q_getR (x := 121) G (pc := 31) dX11_firstRow_31 fl_X11_56_10 rfl (hg hτ (hf_10_29 rfl)) ?_
            refine q_aload_n G (pc := 34) dX11_firstRow_34 rfl ?_
            refine q_getI (v := nI ((srtN lf s).length)) G (pc := 35) dX11_firstRow_35 fl_X11_212_10 (by decide) rfl g1 ?_
            refine q_iload_n G (pc := 38) dX11_firstRow_38 rfl ?_
            refine q_iast (j := (srtN lf s).length) G (pc := 39) dX11_firstRow_39 rfl rfl (by omega) ?_
            refine q_aload_n G (pc := 40) dX11_firstRow_40 rfl ?_
            refine q_dup G (pc := 41) dX11_firstRow_41 rfl ?_
            refine q_getI (v := nI ((srtN lf s).length)) G (pc := 42) dX11_firstRow_42 fl_X11_212_10 (by decide) rfl (by simp [va_up]; exact g1) ?_
            refine q_iconst (v := nI 1) G (pc := 45) dX11_firstRow_45 (by decide) ?_
            refine q_iaddN G (pc := 46) dX11_firstRow_46 ?_
            refine q_putI G (pc := 47) dX11_firstRow_47 fl_X11_212_10 rfl ?_
            refine q_iincN G (pc := 50) dX11_firstRow_50 rfl (inc1 _) (by decide) ?_
            show X _ [_, _, _] _ _ _ _
            refine q_goto (tgt := 7) G (pc := 53) dX11_firstRow_53 (by decide) ?_
            have e := srtN_s lf s
            rw [if_pos ((hlf s (by omega)).mpr ⟨c17, fun q => c27 ((plI_ne hn6).mpr q)⟩)] at e
            refine ih7 (s + 1) _ (by omega) (by omega) (by rw [e, List.length_append, List.length_singleton]; simp [va_up]) (fun j hj => ?_) (g3.trans ⟨fun c h1 h2 => by simp [va_up, h1, h2], fun k hk => by simp [va_up, hk]⟩)
            rw [e] at hj ⊢
            rw [List.length_append, List.length_singleton] at hj
            by_cases q : j = (srtN lf s).length
            · subst q; rw [oF_l]; simp [va_up]
            · rw [oF_a (by omega)]; simp [va_up, q]; exact g2 j (by omega)
  exact L7 _ 0 _ (Nat.lt_succ_self _) (by omega) (by rw [show (srtN lf 0).length = 0 from rfl]; simp [va_up]) (fun j hj => absurd hj (Nat.not_lt_zero _)) ⟨fun c h1 h2 => by simp [va_up, h1], fun k hk => by simp [va_up, hk]⟩
set_option maxHeartbeats 2000000 in
theorem m_nextRow {d : Nat} (hd : 1 ≤ d) {hi : mm_HI} {τ : mm_T} {sw : Bool} (hτ : τ.1 = mm_hr sw) {m : Nat} {g : Nat → Nat} (h30 : hi 106 30 = nI m) (hg0 : ∀ j, j < m → hi 121 j = nI (g j)) (hm6 : m ≤ 6) (hg6 : ∀ j, j < m → g j < 6) : wI d yX11_nextRow [.ref 106] hi τ (fun x h => ((x = nI 0 ∧ nxF g m = none ∧ h = hi) ∨ (x = nI 1 ∧ ∃ g2, nxF g m = some g2 ∧ ∀ j, j < m → h 121 j = nI (g2 j))) ∧ fr [121] hi h) := by
  refine w_intro (by omega) M_X11_nextRow (Nat.le_of_ble_eq_true rfl) rfl ?_
  intro e X he G
  show X 0 [some (.ref (106)), none, none, none, none, none, none] [] hi τ 125
  refine q_aload_n G (pc := 0) dX11_nextRow_0 rfl ?_
  refine q_getI (v := nI (m)) G (pc := 1) dX11_nextRow_1 fl_X11_212_10 (by decide) rfl h30 ?_
  refine q_iconst (v := nI 2) G (pc := 4) dX11_nextRow_4 (by decide) ?_
  refine q_isub G (pc := 5) dX11_nextRow_5 ?_
  refine q_istore_n G (pc := 6) dX11_nextRow_6 (by decide) ?_
  show X _ [_, _, _, _, _, _, _] _ _ _ _
  have L7 : ∀ (zz : Nat) (k1 : Nat), k1 < zz → k1 ≤ m → kS g (k1 - 1) = kS g (m - 1) → X 7 [some (.ref (106)), some (.int (nI k1 - nI 2)), none, none, none, none, none] [] hi τ 125 := by
    intro zz
    induction zz with
    | zero => intro k1 hm; exact absurd hm (Nat.not_lt_zero _)
    | succ zz ih7 =>
      intro k1 hm h0 hks
      rcases k1 with _ | _ | k
      · refine q_iload_n G (pc := 7) dX11_nextRow_7 rfl ?_
        refine q_if_lt (tgt := 34) G (pc := 8) dX11_nextRow_8 (by decide) (fun _ => ?_) (fun c8 => absurd (by decide +kernel) c8)
        refine q_iload_n G (pc := 34) dX11_nextRow_34 rfl ?_
        refine q_if_ge (tgt := 40) G (pc := 35) dX11_nextRow_35 (by decide) (fun c35 => absurd c35 (by decide +kernel)) (fun _ => ?_)
        refine q_iconst (v := nI 0) G (pc := 38) dX11_nextRow_38 (by decide) ?_
        refine q_iret G (pc := 39) dX11_nextRow_39 (Or.inr ⟨rfl, by decide⟩) ?_
        exact ⟨rfl, _, rfl, Or.inl ⟨rfl, (by unfold nxF; rw [show kS g (m - 1) = none from hks.symm]), rfl⟩, fr.rf⟩
      · refine q_iload_n G (pc := 7) dX11_nextRow_7 rfl ?_
        refine q_if_lt (tgt := 34) G (pc := 8) dX11_nextRow_8 (by decide) (fun _ => ?_) (fun c8 => absurd (by decide +kernel) c8)
        refine q_iload_n G (pc := 34) dX11_nextRow_34 rfl ?_
        refine q_if_ge (tgt := 40) G (pc := 35) dX11_nextRow_35 (by decide) (fun c35 => absurd c35 (by decide +kernel)) (fun _ => ?_)
        refine q_iconst (v := nI 0) G (pc := 38) dX11_nextRow_38 (by decide) ?_
        refine q_iret G (pc := 39) dX11_nextRow_39 (Or.inr ⟨rfl, by decide⟩) ?_
        exact ⟨rfl, _, rfl, Or.inl ⟨rfl, (by unfold nxF; rw [show kS g (m - 1) = none from hks.symm]), rfl⟩, fr.rf⟩
      · rw [kval k (by omega)]
        have hgk := hg6 k (by omega)
        have hgk1 := hg6 (k + 1) (by omega)
        refine q_iload_n G (pc := 7) dX11_nextRow_7 rfl ?_
        refine q_if_lt (tgt := 34) G (pc := 8) dX11_nextRow_8 (by decide) (fun c8 => absurd c8 (nI_pos (by omega))) (fun _ => ?_)
        refine q_aload_n G (pc := 11) dX11_nextRow_11 rfl ?_
        refine q_getR (x := 121) G (pc := 12) dX11_nextRow_12 fl_X11_56_10 rfl (hg hτ (hf_10_29 rfl)) ?_
        refine q_iload_n G (pc := 15) dX11_nextRow_15 rfl ?_
        refine q_iald (j := k) (v := nI (g k)) G (pc := 16) dX11_nextRow_16 rfl rfl (by omega) (hg0 k (by omega)) ?_
        refine q_aload_n G (pc := 17) dX11_nextRow_17 rfl ?_
        refine q_getR (x := 121) G (pc := 18) dX11_nextRow_18 fl_X11_56_10 rfl (hg hτ (hf_10_29 rfl)) ?_
        refine q_iload_n G (pc := 21) dX11_nextRow_21 rfl ?_
        refine q_iconst (v := nI 1) G (pc := 22) dX11_nextRow_22 (by decide) ?_
        refine q_iaddN G (pc := 23) dX11_nextRow_23 ?_
        refine q_iald (j := k + 1) (v := nI (g (k + 1))) G (pc := 24) dX11_nextRow_24 rfl rfl (by omega) (hg0 (k + 1) (by omega)) ?_
        refine q_icmp_leN (tgt := 34) G (pc := 25) dX11_nextRow_25 (by decide) (by omega) (by omega) (fun c25 => ?_) (fun c25 => ?_)
        · refine q_iload_n G (pc := 34) dX11_nextRow_34 rfl ?_
          refine q_if_ge (tgt := 40) G (pc := 35) dX11_nextRow_35 (by decide) (fun _ => ?_) (fun c35 => absurd (nI_pos' (by omega)) c35)
          refine q_aload_n G (pc := 40) dX11_nextRow_40 rfl ?_
          refine q_getI (v := nI (m)) G (pc := 41) dX11_nextRow_41 fl_X11_212_10 (by decide) rfl h30 ?_
          refine q_iconst (v := nI 1) G (pc := 44) dX11_nextRow_44 (by decide) ?_
          refine q_isubN G (pc := 45) dX11_nextRow_45 (by omega) ?_
          refine q_istore_n G (pc := 46) dX11_nextRow_46 (by decide) ?_
          show X _ [_, _, _, _, _, _, _] _ _ _ _
          have L47 : ∀ (zz : Nat) (j : Nat), j < zz → k + 1 ≤ j → j ≤ m - 1 → jS g (g k) j = jS g (g k) (m - 1) → X 47 [some (.ref (106)), some (.int (nI (k))), some (.int (nI (j))), none, none, none, none] [] hi τ 125 := by
            intro zz
            induction zz with
            | zero => intro j hm; exact absurd hm (Nat.not_lt_zero _)
            | succ zz ih47 =>
              intro j hm j0 j1 hjs
              refine q_aload_n G (pc := 47) dX11_nextRow_47 rfl ?_
              refine q_getR (x := 121) G (pc := 48) dX11_nextRow_48 fl_X11_56_10 rfl (hg hτ (hf_10_29 rfl)) ?_
              refine q_iload_n G (pc := 51) dX11_nextRow_51 rfl ?_
              refine q_iald (j := j) (v := nI (g j)) G (pc := 52) dX11_nextRow_52 rfl rfl (by omega) (hg0 j (by omega)) ?_
              have hgj := hg6 j (by omega)
              refine q_aload_n G (pc := 53) dX11_nextRow_53 rfl ?_
              refine q_getR (x := 121) G (pc := 54) dX11_nextRow_54 fl_X11_56_10 rfl (hg hτ (hf_10_29 rfl)) ?_
              refine q_iload_n G (pc := 57) dX11_nextRow_57 rfl ?_
              refine q_iald (j := k) (v := nI (g k)) G (pc := 58) dX11_nextRow_58 rfl rfl (by omega) (hg0 k (by omega)) ?_
              refine q_icmp_geN (tgt := 68) G (pc := 59) dX11_nextRow_59 (by decide) (by omega) (by omega) (fun c59 => ?_) (fun c59 => ?_)
              · refine q_aload_n G (pc := 68) dX11_nextRow_68 rfl ?_
                refine q_getR (x := 121) G (pc := 69) dX11_nextRow_69 fl_X11_56_10 rfl (hg hτ (hf_10_29 rfl)) ?_
                refine q_iload_n G (pc := 72) dX11_nextRow_72 rfl ?_
                skip
                refine q_iald (j := k) (v := nI (g k)) G (pc := 73) dX11_nextRow_73 rfl rfl (by omega) (hg0 k (by omega)) ?_
                refine q_istore_n G (pc := 74) dX11_nextRow_74 (by decide) ?_
                show X _ [_, _, _, _, _, _, _] _ _ _ _
                refine q_aload_n G (pc := 75) dX11_nextRow_75 rfl ?_
                refine q_getR (x := 121) G (pc := 76) dX11_nextRow_76 fl_X11_56_10 rfl (hg hτ (hf_10_29 rfl)) ?_
                refine q_iload_n G (pc := 79) dX11_nextRow_79 rfl ?_
                refine q_aload_n G (pc := 80) dX11_nextRow_80 rfl ?_
                refine q_getR (x := 121) G (pc := 81) dX11_nextRow_81 fl_X11_56_10 rfl (hg hτ (hf_10_29 rfl)) ?_
                refine q_iload_n G (pc := 84) dX11_nextRow_84 rfl ?_
                refine q_iald (j := j) (v := nI (g j)) G (pc := 85) dX11_nextRow_85 rfl rfl (by omega) (hg0 j (by omega)) ?_
                refine q_iast (j := k) G (pc := 86) dX11_nextRow_86 rfl rfl (by omega) ?_
                refine q_aload_n G (pc := 87) dX11_nextRow_87 rfl ?_
                refine q_getR (x := 121) G (pc := 88) dX11_nextRow_88 fl_X11_56_10 rfl (hg hτ (hf_10_29 rfl)) ?_
                refine q_iload_n G (pc := 91) dX11_nextRow_91 rfl ?_
                refine q_iload_n G (pc := 92) dX11_nextRow_92 rfl ?_
                refine q_iast (j := j) G (pc := 93) dX11_nextRow_93 rfl rfl (by omega) ?_
                refine q_aload_n G (pc := 94) dX11_nextRow_94 rfl ?_
                refine q_getI (v := nI (m)) G (pc := 95) dX11_nextRow_95 fl_X11_212_10 (by decide) rfl (by simp [va_up]; exact h30) ?_
                refine q_iconst (v := nI 1) G (pc := 98) dX11_nextRow_98 (by decide) ?_
                refine q_isubN G (pc := 99) dX11_nextRow_99 (by omega) ?_
                refine q_istore G (pc := 100) dX11_nextRow_100 (by decide) ?_
                show X _ [_, _, _, _, _, _, _] _ _ _ _
                refine q_iload_n G (pc := 102) dX11_nextRow_102 rfl ?_
                refine q_iconst (v := nI 1) G (pc := 103) dX11_nextRow_103 (by decide) ?_
                refine q_iaddN G (pc := 104) dX11_nextRow_104 ?_
                refine q_istore G (pc := 105) dX11_nextRow_105 (by decide) ?_
                show X _ [_, _, _, _, _, _, _] _ _ _ _
                have L107 : ∀ (zz : Nat) (a e2 : Nat) (hk : mm_HI) (v6 : Option Value), e2 - a < zz → a + e2 = k + m → k + 1 ≤ a → a ≤ e2 + 1 → (∀ i, i < m → hk 121 i = nI (if (k + 1 ≤ i ∧ i < a) ∨ (e2 < i ∧ i ≤ m - 1) then (swpF g k j) (k + m - i) else (swpF g k j) i)) → (∀ c, c ≠ 121 → hk c = hi c) → X 107 [some (.ref (106)), some (.int (nI (k))), some (.int (nI (j))), some (.int (nI (g k))), some (.int (nI (e2))), some (.int (nI (a))), v6] [] hk τ 125 := by
                  intro zz
                  induction zz with
                  | zero => intro a e2 hk v6 hm; exact absurd hm (Nat.not_lt_zero _)
                  | succ zz ih107 =>
                    intro a e2 hk v6 hm a0 a1 a2 g3 g4
                    refine q_iload G (pc := 107) dX11_nextRow_107 rfl ?_
                    refine q_iload G (pc := 109) dX11_nextRow_109 rfl ?_
                    refine q_icmp_geN (tgt := 155) G (pc := 111) dX11_nextRow_111 (by decide) (by omega) (by omega) (fun c111 => ?_) (fun c111 => ?_)
                    · refine q_iconst (v := nI 1) G (pc := 155) dX11_nextRow_155 (by decide) ?_
                      refine q_iret G (pc := 156) dX11_nextRow_156 (Or.inr ⟨rfl, by decide⟩) ?_
                      have hks2 : kS g (m - 1) = some k := hks.symm.trans (if_neg (by omega))
                      have hjs2 : jS g (g k) (m - 1) = j := hjs.symm.trans (jS_u (by omega))
                      have hnx : nxF g m = some (rv (swpF g k j) (k + 1) (m - 1)) := by
                        unfold nxF
                        rw [show kS g (m - 1) = some k from hks2]
                        show some (rv (swpF g k (jS g (g k) (m - 1))) _ _) = _
                        rw [show jS g (g k) (m - 1) = j from hjs2]
                      refine ⟨rfl, _, rfl, Or.inr ⟨rfl, _, hnx, fun i hi3 => ?_⟩, fun c hc => g4 c (by simpa using hc)⟩
                      rw [g3 i hi3]
                      unfold rv
                      by_cases q1 : k + 1 ≤ i ∧ i ≤ m - 1
                      · rw [if_pos q1, show k + 1 + (m - 1) - i = k + m - i by omega]
                        by_cases q2 : (k + 1 ≤ i ∧ i < a) ∨ (e2 < i ∧ i ≤ m - 1)
                        · rw [if_pos q2]
                        · rw [if_neg q2, show k + m - i = i by omega]
                      · rw [if_neg q1, if_neg (by omega)]
                    · refine q_aload_n G (pc := 114) dX11_nextRow_114 rfl ?_
                      refine q_getR (x := 121) G (pc := 115) dX11_nextRow_115 fl_X11_56_10 rfl (hg hτ (hf_10_29 rfl)) ?_
                      refine q_iload G (pc := 118) dX11_nextRow_118 rfl ?_
                      refine q_iald (j := a) (v := nI (swpF g k j a)) G (pc := 120) dX11_nextRow_120 rfl rfl (by omega) ((g3 a (by omega)).trans (by rw [if_neg (by omega)])) ?_
                      refine q_istore G (pc := 121) dX11_nextRow_121 (by decide) ?_
                      show X _ [_, _, _, _, _, _, _] _ _ _ _
                      refine q_aload_n G (pc := 123) dX11_nextRow_123 rfl ?_
                      refine q_getR (x := 121) G (pc := 124) dX11_nextRow_124 fl_X11_56_10 rfl (hg hτ (hf_10_29 rfl)) ?_
                      refine q_iload G (pc := 127) dX11_nextRow_127 rfl ?_
                      refine q_aload_n G (pc := 129) dX11_nextRow_129 rfl ?_
                      refine q_getR (x := 121) G (pc := 130) dX11_nextRow_130 fl_X11_56_10 rfl (hg hτ (hf_10_29 rfl)) ?_
                      refine q_iload G (pc := 133) dX11_nextRow_133 rfl ?_
                      refine q_iald (j := e2) (v := nI (swpF g k j e2)) G (pc := 135) dX11_nextRow_135 rfl rfl (by omega) ((g3 e2 (by omega)).trans (by rw [if_neg (by omega)])) ?_
                      refine q_iast (j := a) G (pc := 136) dX11_nextRow_136 rfl rfl (by omega) ?_
                      refine q_aload_n G (pc := 137) dX11_nextRow_137 rfl ?_
                      refine q_getR (x := 121) G (pc := 138) dX11_nextRow_138 fl_X11_56_10 rfl (hg hτ (hf_10_29 rfl)) ?_
                      refine q_iload G (pc := 141) dX11_nextRow_141 rfl ?_
                      refine q_iload G (pc := 143) dX11_nextRow_143 rfl ?_
                      refine q_iast (j := e2) G (pc := 145) dX11_nextRow_145 rfl rfl (by omega) ?_
                      refine q_iincN G (pc := 146) dX11_nextRow_146 rfl (dec1 (by omega)) (by decide) ?_
                      show X _ [_, _, _, _, _, _, _] _ _ _ _
                      refine q_iincN G (pc := 149) dX11_nextRow_149 rfl (inc1 _) (by decide) ?_
                      show X _ [_, _, _, _, _, _, _] _ _ _ _
                      refine q_goto (tgt := 107) G (pc := 152) dX11_nextRow_152 (by decide) ?_
                      refine ih107 (a + 1) (e2 - 1) _ _ (by omega) (by omega) (by omega) (by omega) (fun i hi3 => ?_) (fun c hc => by simp [va_up, hc]; exact g4 c hc)
                      by_cases q1 : i = e2
                      · subst q1
                        rw [if_pos (by omega), show k + m - i = a by omega]
                        simp [va_up]
                      · by_cases q2 : i = a
                        · subst q2
                          rw [if_pos (by omega), show k + m - i = e2 by omega]
                          simp [va_up, q1]
                        · have e3 : ((k + 1 ≤ i ∧ i < a + 1) ∨ (e2 - 1 < i ∧ i ≤ m - 1)) ↔ ((k + 1 ≤ i ∧ i < a) ∨ (e2 < i ∧ i ≤ m - 1)) := by omega
                          simp only [e3]
                          simp [va_up, q1, q2]
                          have := g3 i hi3
                          simpa using this
                refine L107 _ (k + 1) (m - 1) _ _ (Nat.lt_succ_self _) (by omega) (by omega) (by omega) (fun i hi3 => ?_) (fun c hc => by simp [va_up, hc])
                rw [if_neg (by omega)]
                unfold swpF
                by_cases q1 : i = j
                · subst q1; simp [va_up]
                · by_cases q2 : i = k
                  · subst q2; simp [va_up, q1]
                  · simp [va_up, q1, q2]; exact hg0 i hi3
              · refine q_iincN G (pc := 62) dX11_nextRow_62 rfl (dec1 (by omega)) (by decide) ?_
                show X _ [_, _, _, _, _, _, _] _ _ _ _
                refine q_goto (tgt := 47) G (pc := 65) dX11_nextRow_65 (by decide) ?_
                have hne : j ≠ k + 1 := by intro q; subst q; omega
                exact ih47 (j - 1) (by omega) (by omega) (by omega) ((jS_d (by omega) c59).symm.trans hjs)
          exact L47 _ (m - 1) (Nat.lt_succ_self _) (by omega) (by omega) rfl
        · refine q_iinc G (pc := 28) dX11_nextRow_28 rfl rfl (by decide) ?_
          show X _ [_, _, _, _, _, _, _] _ _ _ _
          refine q_goto (tgt := 7) G (pc := 31) dX11_nextRow_31 (by decide) ?_
          rw [kdec k (by omega)]
          have e1 : kS g (k + 1) = kS g k := if_pos c25
          exact ih7 (k + 1) (by omega) (by omega) (e1.symm.trans hks)
  exact L7 _ m (Nat.lt_succ_self _) (Nat.le_refl _) rfl
set_option maxHeartbeats 2000000 in
theorem m_longestStay {d : Nat} (hd : 2 ≤ d) {hi : mm_HI} {τ : mm_T} {P : PG} {n : Nat} {f : Nat → Nat} {t K : Nat} {pn : Nat → Nat} {pf : Nat → Nat → Nat} {pt : Nat → Nat} {im : Nat → Option DK} {sl : List (Nat × Nat)} {N : Nat} {b : Nat → Nat} {tr : Int64} (hM : mS P n f t K pn pf pt im sl N b tr hi τ) {m : Nat} {g : Nat → Nat} (h30 : hi 106 30 = nI m) (hg0 : ∀ j, j < m → hi 121 j = nI (g j)) (hm6 : m ≤ 6) (hg6 : ∀ j, j < m → g j < 6) : wI d yX11_longestStay [.ref 106] hi τ (fun x h => x = nI (stF (pvO f n) g m) ∧ fr [123] hi h) := by
  refine w_intro (by omega) M_X11_longestStay (Nat.le_of_ble_eq_true rfl) rfl ?_
  intro e X he G
  show X 0 [some (.ref (106)), none, none, none] [] hi τ 125
  obtain ⟨sw, hτ, hP, hRw, hV, hU, hI, hIV, hN, hNO, hT, hTr⟩ := id hM
  have hS6 : pS P ≤ 6 := hP.2.2.2.2.2.2.2.1
  have hL3 : pL P ≤ 3 := hP.2.2.2.2.2.2.1
  have hL1 : 1 ≤ pL P := hP.2.2.2.2.2.1
  have hW8 : (pW P).length ≤ 8 := hP.2.2.2.2.2.2.2.2.2.1
  have hn6 : n ≤ 6 := hRw.2.2.2.1
  have hfs : ∀ j, j < n → f j < pS P := hV.1.1
  have hV1 : rowV P n f := hV.1
  refine q_iconst (v := nI 0) G (pc := 0) dX11_longestStay_0 (by decide) ?_
  refine q_istore_n G (pc := 1) dX11_longestStay_1 (by decide) ?_
  show X _ [_, _, _, _] _ _ _ _
  refine q_iconst (v := nI 0) G (pc := 2) dX11_longestStay_2 (by decide) ?_
  refine q_istore_n G (pc := 3) dX11_longestStay_3 (by decide) ?_
  show X _ [_, _, _, _] _ _ _ _
  have L4 : ∀ (zz : Nat) (p : Nat) (hk : mm_HI) (v3 : Option Value), m - p < zz → p ≤ m → (∀ j, j < p → hk 123 j = nI (chs (pvO f n) g p j)) → (∀ c, c ≠ 123 → hk c = hi c) → X 4 [some (.ref (106)), some (.int (nI (stF (pvO f n) g p))), some (.int (nI (p))), v3] [] hk τ 125 := by
    intro zz
    induction zz with
    | zero => intro p hk v3 hm; exact absurd hm (Nat.not_lt_zero _)
    | succ zz ih4 =>
      intro p hk v3 hm h0 g1 g3
      refine q_iload_n G (pc := 4) dX11_longestStay_4 rfl ?_
      refine q_aload_n G (pc := 5) dX11_longestStay_5 rfl ?_
      refine q_getI (v := nI (m)) G (pc := 6) dX11_longestStay_6 fl_X11_212_10 (by decide) rfl (by rw [g3 106 (by omega)]; exact h30) ?_
      refine q_icmp_geN (tgt := 111) G (pc := 9) dX11_longestStay_9 (by decide) (by omega) (by omega) (fun c9 => ?_) (fun c9 => ?_)
      · refine q_iload_n G (pc := 111) dX11_longestStay_111 rfl ?_
        refine q_iret G (pc := 112) dX11_longestStay_112 (Or.inl rfl) ?_
        have e : p = m := by omega
        subst e
        exact ⟨rfl, _, rfl, rfl, fun c hc => g3 c (by simpa using hc)⟩
      · refine q_aload_n G (pc := 12) dX11_longestStay_12 rfl ?_
        refine q_getR (x := 123) G (pc := 13) dX11_longestStay_13 fl_X11_62_10 rfl (hg hτ (hf_10_35 rfl)) ?_
        refine q_iload_n G (pc := 16) dX11_longestStay_16 rfl ?_
        refine q_iconst (v := nI 1) G (pc := 17) dX11_longestStay_17 (by decide) ?_
        refine q_iast (j := p) G (pc := 18) dX11_longestStay_18 rfl rfl (by omega) ?_
        refine q_iconst (v := nI 0) G (pc := 19) dX11_longestStay_19 (by decide) ?_
        refine q_istore_n G (pc := 20) dX11_longestStay_20 (by decide) ?_
        show X _ [_, _, _, _] _ _ _ _
        have L21 : ∀ (zz : Nat) (q : Nat) (hj : mm_HI), p - q < zz → q ≤ p → hj 123 p = nI (chq (pvO f n) g (chs (pvO f n) g p) p q) → (∀ j, j < p → hj 123 j = nI (chs (pvO f n) g p j)) → (∀ c, c ≠ 123 → hj c = hi c) → X 21 [some (.ref (106)), some (.int (nI (stF (pvO f n) g p))), some (.int (nI (p))), some (.int (nI (q)))] [] hj τ 125 := by
          intro zz
          induction zz with
          | zero => intro q hj hm; exact absurd hm (Nat.not_lt_zero _)
          | succ zz ih21 =>
            intro q hj hm i0 k1 k2 k3
            refine q_iload_n G (pc := 21) dX11_longestStay_21 rfl ?_
            refine q_iload_n G (pc := 22) dX11_longestStay_22 rfl ?_
            refine q_icmp_geN (tgt := 84) G (pc := 23) dX11_longestStay_23 (by decide) (by omega) (by omega) (fun c23 => ?_) (fun c23 => ?_)
            · refine q_aload_n G (pc := 84) dX11_longestStay_84 rfl ?_
              refine q_getR (x := 123) G (pc := 85) dX11_longestStay_85 fl_X11_62_10 rfl (hg hτ (hf_10_35 rfl)) ?_
              refine q_iload_n G (pc := 88) dX11_longestStay_88 rfl ?_
              have hqp : p = q := by omega
              subst hqp
              have e1 : chs (pvO f n) g (p + 1) p = chq (pvO f n) g (chs (pvO f n) g p) p p := by show va_up _ p _ p = _; simp [va_up]
              have hb3 := chs_le (pvO f n) g (p + 1) p (by omega)
              have hb4 := stF_le (pvO f n) g p
              rw [← e1] at k1
              have e2 : stF (pvO f n) g (p + 1) = max (stF (pvO f n) g p) (chs (pvO f n) g (p + 1) p) := rfl
              refine q_iald (j := p) (v := nI (chs (pvO f n) g (p + 1) p)) G (pc := 89) dX11_longestStay_89 rfl rfl (by omega) k1 ?_
              refine q_iload_n G (pc := 90) dX11_longestStay_90 rfl ?_
              refine q_icmp_leN (tgt := 103) G (pc := 91) dX11_longestStay_91 (by decide) (by omega) (by omega) (fun c91 => ?_) (fun c91 => ?_)
              · refine q_iload_n G (pc := 103) dX11_longestStay_103 rfl ?_
                refine q_istore_n G (pc := 104) dX11_longestStay_104 (by decide) ?_
                show X _ [_, _, _, _] _ _ _ _
                refine q_iincN G (pc := 105) dX11_longestStay_105 rfl (inc1 _) (by decide) ?_
                show X _ [_, _, _, _] _ _ _ _
                refine q_goto (tgt := 4) G (pc := 108) dX11_longestStay_108 (by decide) ?_
                have z := fun v3 => ih4 (p + 1) hj v3 (by omega) (by omega) (fun j hq => ?_) k3
                · rw [e2, Nat.max_eq_left (by omega)] at z
                  exact z _
                · show hj 123 j = nI (va_up _ p _ j)
                  by_cases q1 : j = p
                  · subst q1; rw [k1, e1]; simp [va_up]
                  · rw [k2 j (by omega)]; simp [va_up, q1]
              · refine q_aload_n G (pc := 94) dX11_longestStay_94 rfl ?_
                refine q_getR (x := 123) G (pc := 95) dX11_longestStay_95 fl_X11_62_10 rfl (hg hτ (hf_10_35 rfl)) ?_
                refine q_iload_n G (pc := 98) dX11_longestStay_98 rfl ?_
                refine q_iald (j := p) (v := nI (chs (pvO f n) g (p + 1) p)) G (pc := 99) dX11_longestStay_99 rfl rfl (by omega) k1 ?_
                refine q_goto (tgt := 104) G (pc := 100) dX11_longestStay_100 (by decide) ?_
                refine q_istore_n G (pc := 104) dX11_longestStay_104 (by decide) ?_
                show X _ [_, _, _, _] _ _ _ _
                refine q_iincN G (pc := 105) dX11_longestStay_105 rfl (inc1 _) (by decide) ?_
                show X _ [_, _, _, _] _ _ _ _
                refine q_goto (tgt := 4) G (pc := 108) dX11_longestStay_108 (by decide) ?_
                have z := fun v3 => ih4 (p + 1) hj v3 (by omega) (by omega) (fun j hq => ?_) k3
                · rw [e2, Nat.max_eq_right (by omega)] at z
                  exact z _
                · show hj 123 j = nI (va_up _ p _ j)
                  by_cases q1 : j = p
                  · subst q1; rw [k1, e1]; simp [va_up]
                  · rw [k2 j (by omega)]; simp [va_up, q1]
            · refine q_aload_n G (pc := 26) dX11_longestStay_26 rfl ?_
              refine q_aload_n G (pc := 27) dX11_longestStay_27 rfl ?_
              refine q_getR (x := 121) G (pc := 28) dX11_longestStay_28 fl_X11_56_10 rfl (hg hτ (hf_10_29 rfl)) ?_
              refine q_iload_n G (pc := 31) dX11_longestStay_31 rfl ?_
              refine q_iald (j := q) (v := nI (g q)) G (pc := 32) dX11_longestStay_32 rfl rfl (by omega) (by rw [k3 121 (by omega)]; exact hg0 q (by omega)) ?_
              refine q_cV1E G (pc := 33) dX11_longestStay_33 cv_X11_179 rfl (m_placeOf (by omega) (hM.sc (⟨fun c hc => k3 c (by omega), fun k _ => by rw [k3 106 (by omega)]⟩ : msc hi hj)) (s := g q) (hg6 q (by omega))) (Nat.le_of_ble_eq_true rfl) ?_
              refine q_aload_n G (pc := 36) dX11_longestStay_36 rfl ?_
              refine q_aload_n G (pc := 37) dX11_longestStay_37 rfl ?_
              refine q_getR (x := 121) G (pc := 38) dX11_longestStay_38 fl_X11_56_10 rfl (hg hτ (hf_10_29 rfl)) ?_
              refine q_iload_n G (pc := 41) dX11_longestStay_41 rfl ?_
              refine q_iald (j := p) (v := nI (g p)) G (pc := 42) dX11_longestStay_42 rfl rfl (by omega) (by rw [k3 121 (by omega)]; exact hg0 p (by omega)) ?_
              refine q_cV1E G (pc := 43) dX11_longestStay_43 cv_X11_179 rfl (m_placeOf (by omega) (hM.sc (⟨fun c hc => k3 c (by omega), fun k _ => by rw [k3 106 (by omega)]⟩ : msc hi hj)) (s := g p) (hg6 p (by omega))) (Nat.le_of_ble_eq_true rfl) ?_
              refine q_icmp_ge (tgt := 78) G (pc := 46) dX11_longestStay_46 (by decide) (fun c46 => ?_) (fun c46 => ?_)
              · refine q_iincN G (pc := 78) dX11_longestStay_78 rfl (inc1 _) (by decide) ?_
                show X _ [_, _, _, _] _ _ _ _
                refine q_goto (tgt := 21) G (pc := 81) dX11_longestStay_81 (by decide) ?_
                have e1 : chq (pvO f n) g (chs (pvO f n) g p) p (q + 1) = chq (pvO f n) g (chs (pvO f n) g p) p q := if_neg (fun z => (i_lt z) c46)
                exact ih21 (q + 1) hj (by omega) (by omega) (by rw [e1]; exact k1) k2 k3
              · refine q_aload_n G (pc := 49) dX11_longestStay_49 rfl ?_
                refine q_getR (x := 123) G (pc := 50) dX11_longestStay_50 fl_X11_62_10 rfl (hg hτ (hf_10_35 rfl)) ?_
                refine q_iload_n G (pc := 53) dX11_longestStay_53 rfl ?_
                refine q_iald (j := q) (v := nI (chs (pvO f n) g p q)) G (pc := 54) dX11_longestStay_54 rfl rfl (by omega) (k2 q (by omega)) ?_
                refine q_aload_n G (pc := 55) dX11_longestStay_55 rfl ?_
                refine q_getR (x := 123) G (pc := 56) dX11_longestStay_56 fl_X11_62_10 rfl (hg hτ (hf_10_35 rfl)) ?_
                refine q_iload_n G (pc := 59) dX11_longestStay_59 rfl ?_
                refine q_iald (j := p) (v := nI (chq (pvO f n) g (chs (pvO f n) g p) p q)) G (pc := 60) dX11_longestStay_60 rfl rfl (by omega) k1 ?_
                have hb1 := chs_le (pvO f n) g p q (by omega)
                have hb2 := chq_le (pv := (pvO f n)) (o := g) (c := chs (pvO f n) g p) (p := p) (chs_le (pvO f n) g p) q (by omega)
                refine q_icmp_ltN (tgt := 78) G (pc := 61) dX11_longestStay_61 (by decide) (by omega) (by omega) (fun c61 => ?_) (fun c61 => ?_)
                · refine q_iincN G (pc := 78) dX11_longestStay_78 rfl (inc1 _) (by decide) ?_
                  show X _ [_, _, _, _] _ _ _ _
                  refine q_goto (tgt := 21) G (pc := 81) dX11_longestStay_81 (by decide) ?_
                  have e0 : pvO f n (g q) < pvO f n (g p) := Classical.byContradiction (fun z => c46 (i_nlt z))
                  have e1 : chq (pvO f n) g (chs (pvO f n) g p) p (q + 1) = chq (pvO f n) g (chs (pvO f n) g p) p q := (if_pos e0).trans (Nat.max_eq_left (by omega))
                  exact ih21 (q + 1) hj (by omega) (by omega) (by rw [e1]; exact k1) k2 k3
                · refine q_aload_n G (pc := 64) dX11_longestStay_64 rfl ?_
                  refine q_getR (x := 123) G (pc := 65) dX11_longestStay_65 fl_X11_62_10 rfl (hg hτ (hf_10_35 rfl)) ?_
                  refine q_iload_n G (pc := 68) dX11_longestStay_68 rfl ?_
                  refine q_aload_n G (pc := 69) dX11_longestStay_69 rfl ?_
                  refine q_getR (x := 123) G (pc := 70) dX11_longestStay_70 fl_X11_62_10 rfl (hg hτ (hf_10_35 rfl)) ?_
                  refine q_iload_n G (pc := 73) dX11_longestStay_73 rfl ?_
                  refine q_iald (j := q) (v := nI (chs (pvO f n) g p q)) G (pc := 74) dX11_longestStay_74 rfl rfl (by omega) (k2 q (by omega)) ?_
                  refine q_iconst (v := nI 1) G (pc := 75) dX11_longestStay_75 (by decide) ?_
                  refine q_iaddN G (pc := 76) dX11_longestStay_76 ?_
                  refine q_iast (j := p) G (pc := 77) dX11_longestStay_77 rfl rfl (by omega) ?_
                  refine q_iincN G (pc := 78) dX11_longestStay_78 rfl (inc1 _) (by decide) ?_
                  show X _ [_, _, _, _] _ _ _ _
                  refine q_goto (tgt := 21) G (pc := 81) dX11_longestStay_81 (by decide) ?_
                  have e0 : pvO f n (g q) < pvO f n (g p) := Classical.byContradiction (fun z => c46 (i_nlt z))
                  have e1 : chq (pvO f n) g (chs (pvO f n) g p) p (q + 1) = chs (pvO f n) g p q + 1 := (if_pos e0).trans (Nat.max_eq_right (by omega))
                  exact ih21 (q + 1) _ (by omega) (by omega) (by rw [e1]; simp [va_up]) (fun j hq => by simp [va_up, show j ≠ p by omega]; exact k2 j hq) (fun c hc => by simp [va_up, hc]; exact k3 c hc)
        exact L21 _ 0 _ (Nat.lt_succ_self _) (by omega) (by simp [va_up]; rfl) (fun j hq => by simp [va_up, show j ≠ p by omega]; exact g1 j hq) (fun c hc => by simp [va_up, hc]; exact g3 c hc)
  exact L4 _ 0 hi _ (Nat.lt_succ_self _) (by omega) (fun j hj => absurd hj (Nat.not_lt_zero _)) (fun _ _ => rfl)
