/-! images, what was seen, marks -/
theorem mS.img {P : PG} {n : Nat} {f : Nat → Nat} {t K : Nat} {pn : Nat → Nat} {pf : Nat → Nat → Nat} {pt : Nat → Nat} {im : Nat → Option DK} {sl : List (Nat × Nat)} {N : Nat} {b : Nat → Nat} {tr : Int64} {x y : mm_HI} {τ : mm_T} (hM : mS P n f t K pn pf pt im sl N b tr x τ) {i : Nat} (hi2 : i < 2) (hf : ∀ c, c ≠ 124 → y c = x c) (ho : ∀ j, j < 90 * i ∨ 90 * i + 90 ≤ j → y 124 j = x 124 j) (h1 : y 124 (90 * i) = nI 1) (h2 : y 124 (90 * i + 1) = nI K) (h3 : ntF y 124 (90 * i + 2) n f t) (h4 : ∀ j, j < 80 → y 124 (90 * i + 10 + j) = x 120 j) : mS P n f t K pn pf pt (fun j => if j = i then some (n, f, t, K, pn, pf, pt) else im j) sl N b tr y τ := by
  obtain ⟨sw, hτ, hP, hRw, hV, hU, hI, hIV, hN, hNO, hT, hTr⟩ := hM
  have a : ∀ c, c ≠ 124 → y c = x c := hf
  refine ⟨sw, hτ, hP.keep (by rw [a 106 (by omega)]) (by rw [a 106 (by omega)]) (by rw [a 106 (by omega)]) (a _ (by omega)) (a _ (by omega)) (a _ (by omega)), hRw.keep (by rw [a 106 (by omega)]) (by rw [a 106 (by omega)]) (a _ (by omega)), hV, hU.keep (by rw [a 106 (by omega)]) (a _ (by omega)), fun j hj => ?_, fun j D hD => ?_, hN.keep (by rw [a 106 (by omega)]) (a _ (by omega)) (a _ (by omega)), hNO, hT.keep (by rw [a 106 (by omega)]) (a _ (by omega)), hTr⟩
  · by_cases e : j = i
    · subst e
      refine Or.inr ⟨n, f, t, K, pn, pf, pt, if_pos rfl, h1, h2, hU.2.1, h3, fun k hk => ntF_cp (hU.2.2 k hk) (fun q hq => ?_)⟩
      have := hU.2.1
      rw [show 90 * j + 10 + 8 * k + q = 90 * j + 10 + (8 * k + q) by omega]
      exact h4 _ (by omega)
    · rw [show (fun j => if j = i then some (n, f, t, K, pn, pf, pt) else im j) j = im j from if_neg e]
      rcases hI j hj with ⟨q1, q2⟩ | ⟨n2, f2, t2, K2, pn2, pf2, pt2, q1, q2, q3, q4, q5, q6⟩
      · exact Or.inl ⟨q1, by rw [ho _ (by omega)]; exact q2⟩
      · exact Or.inr ⟨n2, f2, t2, K2, pn2, pf2, pt2, q1, by rw [ho _ (by omega)]; exact q2, by rw [ho _ (by omega)]; exact q3, q4, ntF_cp q5 (fun q hq => ho _ (by omega)), fun k hk => ntF_cp (q6 k hk) (fun q hq => ho _ (by omega))⟩
  · by_cases e : j = i
    · rw [show (fun j => if j = i then some (n, f, t, K, pn, pf, pt) else im j) j = some (n, f, t, K, pn, pf, pt) from if_pos e] at hD
      cases hD
      exact hV
    · rw [show (fun j => if j = i then some (n, f, t, K, pn, pf, pt) else im j) j = im j from if_neg e] at hD
      exact hIV j D hD
theorem mS.sn {P : PG} {n : Nat} {f : Nat → Nat} {t K : Nat} {pn : Nat → Nat} {pf : Nat → Nat → Nat} {pt : Nat → Nat} {im : Nat → Option DK} {sl : List (Nat × Nat)} {N : Nat} {b : Nat → Nat} {tr : Int64} {x y : mm_HI} {τ : mm_T} (hM : mS P n f t K pn pf pt im sl N b tr x τ) {sl2 : List (Nat × Nat)} (hf : ∀ c, c ≠ 106 → c ≠ 111 → c ≠ 112 → y c = x c) (h0 : ∀ k, k ≠ 9 → y 106 k = x 106 k) (hs : snM y sl2) (ho : snOK sl2) : mS P n f t K pn pf pt im sl2 N b tr y τ := by
  obtain ⟨sw, hτ, hP, hRw, hV, hU, hI, hIV, hN, hNO, hT, hTr⟩ := hM
  have a : ∀ c, c = 107 ∨ c = 108 ∨ c = 109 ∨ c = 110 ∨ c = 113 ∨ c = 120 ∨ c = 124 → y c = x c := fun c hc => hf c (by omega) (by omega) (by omega)
  exact ⟨sw, hτ, hP.keep (h0 _ (by omega)) (h0 _ (by omega)) (h0 _ (by omega)) (a _ (by omega)) (a _ (by omega)) (a _ (by omega)), hRw.keep (h0 _ (by omega)) (h0 _ (by omega)) (a _ (by omega)), hV, hU.keep (h0 _ (by omega)) (a _ (by omega)), hI.keep (a _ (by omega)), hIV, hs, ho, hT.keep (h0 _ (by omega)) (a _ (by omega)), hTr⟩
def tM (τ : mm_T) (k : Int64) : mm_T := (τ.1, va_up τ.2 106 (va_up (τ.2 106) 12 (τ.2 106 12 + k)))
theorem tM_add (τ : mm_T) (a c : Int64) : tM (tM τ a) c = tM τ (a + c) := by
  unfold tM
  refine Prod.ext rfl ?_
  funext z k
  by_cases hz : z = 106
  · subst hz
    by_cases hk : k = 12
    · subst hk; simp [va_up, Int64.add_assoc]
    · simp [va_up, hk]
  · simp [va_up, hz]
theorem mS.tr {P : PG} {n : Nat} {f : Nat → Nat} {t K : Nat} {pn : Nat → Nat} {pf : Nat → Nat → Nat} {pt : Nat → Nat} {im : Nat → Option DK} {sl : List (Nat × Nat)} {N : Nat} {b : Nat → Nat} {tr : Int64} {x : mm_HI} {τ : mm_T} (hM : mS P n f t K pn pf pt im sl N b tr x τ) (k : Int64) : mS P n f t K pn pf pt im sl N b (tr + k) x (tM τ k) := by
  obtain ⟨sw, hτ, hP, hRw, hV, hU, hI, hIV, hN, hNO, hT, hTr⟩ := hM
  exact ⟨sw, hτ, hP, hRw, hV, hU, hI, hIV, hN, hNO, hT, by rw [← hTr]; simp [tM, va_up]⟩
theorem mkS_bit {w c : Nat} : ∀ {sl : List (Nat × Nat)}, (mkS w sl).testBit c = sl.any (fun q => q.2 == w && q.1 == c)
  | [] => by simp [mkS]
  | q :: sl => by
    unfold mkS
    rw [Nat.testBit_or, mkS_bit, List.any_cons]
    congr 1
    by_cases h : q.2 = w
    · rw [if_pos h]
      simp [h, Nat.testBit_two_pow]
      rfl
    · rw [if_neg h]
      simp [h]
theorem fit_iff {L : Nat} {sl : List (Nat × Nat)} (h : ∀ q ∈ sl, q.1 < 26 ∧ q.2 < 2) : (∀ q ∈ sl, L / 2 ^ q.1 % 2 = q.2) ↔ L &&& mkS 1 sl = mkS 1 sl ∧ L &&& mkS 0 sl = 0 := by
  constructor
  · intro g
    constructor
    · apply Nat.eq_of_testBit_eq
      intro c
      rw [Nat.testBit_and, mkS_bit]
      cases e : sl.any (fun q => q.2 == 1 && q.1 == c) with
      | false => simp
      | true =>
        obtain ⟨q, q1, q2⟩ := List.any_eq_true.mp e
        simp at q2
        have := g q q1
        rw [q2.1, q2.2] at this
        rw [tb_of, this]
        rfl
    · apply Nat.eq_of_testBit_eq
      intro c
      rw [Nat.testBit_and, mkS_bit, Nat.zero_testBit]
      cases e : sl.any (fun q => q.2 == 0 && q.1 == c) with
      | false => simp
      | true =>
        obtain ⟨q, q1, q2⟩ := List.any_eq_true.mp e
        simp at q2
        have := g q q1
        rw [q2.1, q2.2] at this
        rw [tb_of, this]
        rfl
  · rintro ⟨g1, g0⟩ q hq
    obtain ⟨h1, h2⟩ := h q hq
    have hb := bit_lt2 L q.1
    have : q.2 = 0 ∨ q.2 = 1 := by omega
    rcases this with e | e
    · have := congrArg (fun z => z.testBit q.1) g0
      simp only [Nat.testBit_and, mkS_bit, Nat.zero_testBit] at this
      have hm : sl.any (fun z => z.2 == 0 && z.1 == q.1) = true := List.any_eq_true.mpr ⟨q, hq, by simp [e]⟩
      rw [hm, Bool.and_true, tb_of] at this
      have : ¬ L / 2 ^ q.1 % 2 = 1 := of_decide_eq_false this
      omega
    · have := congrArg (fun z => z.testBit q.1) g1
      simp only [Nat.testBit_and, mkS_bit] at this
      have hm : sl.any (fun z => z.2 == 1 && z.1 == q.1) = true := List.any_eq_true.mpr ⟨q, hq, by simp [e]⟩
      rw [hm, Bool.and_true, tb_of] at this
      have : L / 2 ^ q.1 % 2 = 1 := of_decide_eq_true this
      omega
theorem sl_get {sl : List (Nat × Nat)} {k : Nat} (h : k < sl.length) : sl.getD k (0, 0) ∈ sl := by rw [List.getD_eq_getElem?_getD, List.getElem?_eq_getElem h]; exact List.getElem_mem _
theorem sl_all {sl : List (Nat × Nat)} {p : Nat × Nat → Prop} : (∀ k, k < sl.length → p (sl.getD k (0, 0))) ↔ ∀ q ∈ sl, p q := by
  constructor
  · intro h q hq
    obtain ⟨k, hk, e⟩ := List.getElem_of_mem hq
    have := h k hk
    rw [List.getD_eq_getElem?_getD, List.getElem?_eq_getElem hk] at this
    rw [← e]
    exact this
  · intro h k hk
    exact h _ (sl_get hk)
theorem whM_lt2 (P : PG) (sl : List (Nat × Nat)) : ∀ s, whM P sl s < 2 ^ s
  | 0 => by show (0 : Nat) < 1; decide
  | s + 1 => by
    unfold whM
    refine Nat.or_lt_two_pow (Nat.lt_of_lt_of_le (whM_lt2 P sl s) (Nat.pow_le_pow_right (by decide) (by omega))) ?_
    split
    · exact Nat.pow_lt_pow_right (by decide) (by omega)
    · exact Nat.two_pow_pos _
theorem pcs_full : ∀ s, s < 7 → ∀ W, W < 64 → W < 2 ^ s → pcs W s = pcn W := by decide +kernel
set_option maxHeartbeats 2000000 in
theorem m_keep {d : Nat} (hd : 3 ≤ d) {hi : mm_HI} {τ : mm_T} {P : PG} {n : Nat} {f : Nat → Nat} {t K : Nat} {pn : Nat → Nat} {pf : Nat → Nat → Nat} {pt : Nat → Nat} {im : Nat → Option DK} {sl : List (Nat × Nat)} {N : Nat} {b : Nat → Nat} {tr : Int64} (hM : mS P n f t K pn pf pt im sl N b tr hi τ) {x : Int32} : wR d yX11_keep [.ref 106, .int x] hi τ (RQ (zKeep (mkT P n f t K pn pf pt im sl N b tr) (ix x 2)) hi τ) := by
  refine w_intro (by omega) M_X11_keep (Nat.le_of_ble_eq_true rfl) rfl ?_
  intro e X he G
  show X 0 [some (.ref (106)), some (.int (x)), none, none] [] hi τ 125
  obtain ⟨sw, hτ, hP, hRw, hV, hU, hI, hIV, hN, hNO, hT, hTr⟩ := id hM
  have hS6 : pS P ≤ 6 := hP.2.2.2.2.2.2.2.1
  have hL3 : pL P ≤ 3 := hP.2.2.2.2.2.2.1
  have hL1 : 1 ≤ pL P := hP.2.2.2.2.2.1
  have hW8 : (pW P).length ≤ 8 := hP.2.2.2.2.2.2.2.2.2.1
  have hn6 : n ≤ 6 := hRw.2.2.2.1
  have hfs : ∀ j, j < n → f j < pS P := hV.1.1
  have hV1 : rowV P n f := hV.1
  have hK10 := hU.2.1
  refine q_iload_n G (pc := 0) dX11_keep_0 rfl ?_
  refine q_iconst (v := nI 0) G (pc := 1) dX11_keep_1 (by decide) ?_
  refine q_iconst (v := nI 1) G (pc := 2) dX11_keep_2 (by decide) ?_
  refine q_cS3B G (pc := 3) dX11_keep_3 cs_X11_71 (w_iff (m_in (by omega)) (in0 (m := 1) (by decide))) (Nat.le_of_ble_eq_true rfl) (fun c3 => ?_) (fun c3 => ?_)
  · obtain ⟨i, hi2, rfl⟩ := c3
    refine q_if_neN (tgt := 11) G (pc := 6) dX11_keep_6 (by decide) (by omega) (fun _ => ?_) (fun c6 => absurd c6 (by decide))
    refine q_bipush (v := nI 90) G (pc := 11) dX11_keep_11 (by decide) ?_
    refine q_iload_n G (pc := 13) dX11_keep_13 rfl ?_
    refine q_imulN G (pc := 14) dX11_keep_14 ?_
    refine q_istore_n G (pc := 15) dX11_keep_15 (by decide) ?_
    show X _ [_, _, _, _] _ _ _ _
    refine q_aload_n G (pc := 16) dX11_keep_16 rfl ?_
    refine q_getR (x := 124) G (pc := 17) dX11_keep_17 fl_X11_65_10 rfl (hg hτ (hf_10_36 rfl)) ?_
    refine q_iload_n G (pc := 20) dX11_keep_20 rfl ?_
    refine q_iconst (v := nI 1) G (pc := 21) dX11_keep_21 (by decide) ?_
    refine q_iast (j := 90 * i) G (pc := 22) dX11_keep_22 rfl rfl (by omega) ?_
    refine q_aload_n G (pc := 23) dX11_keep_23 rfl ?_
    refine q_getR (x := 124) G (pc := 24) dX11_keep_24 fl_X11_65_10 rfl (hg hτ (hf_10_36 rfl)) ?_
    refine q_iload_n G (pc := 27) dX11_keep_27 rfl ?_
    refine q_iconst (v := nI 1) G (pc := 28) dX11_keep_28 (by decide) ?_
    refine q_iaddN G (pc := 29) dX11_keep_29 ?_
    refine q_aload_n G (pc := 30) dX11_keep_30 rfl ?_
    refine q_getI (v := nI (K)) G (pc := 31) dX11_keep_31 fl_X11_139_10 (by decide) rfl (by simp [va_up]; exact hU.1) ?_
    refine q_iast (j := 90 * i + 1) G (pc := 34) dX11_keep_34 rfl rfl (by omega) ?_
    refine q_aload_n G (pc := 35) dX11_keep_35 rfl ?_
    refine q_aload_n G (pc := 36) dX11_keep_36 rfl ?_
    refine q_getR (x := 124) G (pc := 37) dX11_keep_37 fl_X11_65_10 rfl (hg hτ (hf_10_36 rfl)) ?_
    refine q_iload_n G (pc := 40) dX11_keep_40 rfl ?_
    refine q_iconst (v := nI 2) G (pc := 41) dX11_keep_41 (by decide) ?_
    refine q_iaddN G (pc := 42) dX11_keep_42 ?_
    refine q_cV2V G (pc := 43) dX11_keep_43 cv_X11_195 rfl (m_writes (by omega) hτ (hRw.keep (by simp [va_up]) (by simp [va_up]) (by simp [va_up])) (c := 124) (Nn := 180) rfl (Or.inr rfl) (o := 90 * i + 2) (by omega) (by omega)) (Nat.le_of_ble_eq_true rfl) ?_
    intro hk hx
    obtain ⟨x1, x2, x3⟩ := hx
    refine q_iconst (v := nI 0) G (pc := 46) dX11_keep_46 (by decide) ?_
    refine q_istore_n G (pc := 47) dX11_keep_47 (by decide) ?_
    show X _ [_, _, _, _] _ _ _ _
    have L48 : ∀ (zz : Nat) (k : Nat) (hj : mm_HI), 80 - k < zz → k ≤ 80 → (∀ z, z ≠ 124 → hj z = hi z) → (∀ j, j < k → hj 124 (90 * i + 10 + j) = hi 120 j) → (∀ j, j < 90 * i + 10 ∨ 90 * i + 10 + k ≤ j → hj 124 j = hk 124 j) → X 48 [some (.ref (106)), some (.int (nI (i))), some (.int (nI (90 * i))), some (.int (nI (k)))] [] hj τ 125 := by
      intro zz
      induction zz with
      | zero => intro k hj hm; exact absurd hm (Nat.not_lt_zero _)
      | succ zz ih48 =>
        intro k hj hm h0 g1 g2 g3
        refine q_iload_n G (pc := 48) dX11_keep_48 rfl ?_
        refine q_bipush (v := nI 80) G (pc := 49) dX11_keep_49 (by decide) ?_
        refine q_icmp_geN (tgt := 77) G (pc := 51) dX11_keep_51 (by decide) (by omega) (by omega) (fun c51 => ?_) (fun c51 => ?_)
        · refine q_aload_n G (pc := 77) dX11_keep_77 rfl ?_
          refine q_getI (v := nI (n)) G (pc := 78) dX11_keep_78 fl_X11_75_10 (by decide) rfl (by rw [g1 106 (by decide)]; exact hRw.1) ?_
          refine q_iret G (pc := 81) dX11_keep_81 (Or.inl rfl) ?_
          have e : zKeep (mkT P n f t K pn pf pt im sl N b tr) (ix (nI i) 2) = (mkT P n f t K pn pf pt (fun j => if j = i then some (n, f, t, K, pn, pf, pt) else im j) sl N b tr, nI n) := by rw [ix_some hi2 (by decide)]; rfl
          exact RQ.mk e (hM.img hi2 g1 (fun j hj => by rw [g3 j (by omega), x3 j (by omega)]; simp [va_up, show j ≠ 90 * i by omega, show j ≠ 90 * i + 1 by omega]) (by rw [g3 _ (by omega), x3 _ (by omega)]; simp [va_up]) (by rw [g3 _ (by omega), x3 _ (by omega)]; simp [va_up]) (ntF_cp x1 (fun j hj => g3 _ (by omega))) (fun j hj => g2 j (by omega))) (fun c hc => g1 c (by omega)) rfl rfl
        · refine q_aload_n G (pc := 54) dX11_keep_54 rfl ?_
          refine q_getR (x := 124) G (pc := 55) dX11_keep_55 fl_X11_65_10 rfl (hg hτ (hf_10_36 rfl)) ?_
          refine q_iload_n G (pc := 58) dX11_keep_58 rfl ?_
          refine q_bipush (v := nI 10) G (pc := 59) dX11_keep_59 (by decide) ?_
          refine q_iaddN G (pc := 61) dX11_keep_61 ?_
          refine q_iload_n G (pc := 62) dX11_keep_62 rfl ?_
          refine q_iaddN G (pc := 63) dX11_keep_63 ?_
          refine q_aload_n G (pc := 64) dX11_keep_64 rfl ?_
          refine q_getR (x := 120) G (pc := 65) dX11_keep_65 fl_X11_53_10 rfl (hg hτ (hf_10_27 rfl)) ?_
          refine q_iload_n G (pc := 68) dX11_keep_68 rfl ?_
          refine q_iald (j := k) (v := hj 120 k) G (pc := 69) dX11_keep_69 rfl rfl (by omega) rfl ?_
          refine q_iast (j := 90 * i + 10 + k) G (pc := 70) dX11_keep_70 rfl rfl (by omega) ?_
          refine q_iincN G (pc := 71) dX11_keep_71 rfl (inc1 _) (by decide) ?_
          show X _ [_, _, _, _] _ _ _ _
          refine q_goto (tgt := 48) G (pc := 74) dX11_keep_74 (by decide) ?_
          have e0 : ∀ j, j ≠ 90 * i + 10 + k → (mm_up2 hj 124 (90 * i + 10 + k) (hj 120 k)) 124 j = hj 124 j := fun j hj => by simp [va_up, hj]
          refine ih48 (k + 1) _ (by omega) (by omega) (fun z hz => by simp [va_up, hz]; exact g1 z hz) (fun j hq => ?_) (fun j hq => (e0 j (by omega)).trans (g3 j (by omega)))
          by_cases e : j = k
          · subst e; simp [va_up]; rw [g1 120 (by decide)]
          · exact (e0 _ (by omega)).trans (g2 j (by omega))
    exact L48 _ 0 hk (Nat.lt_succ_self _) (by omega) (fun z hz => by rw [x2 z hz]; simp [va_up, hz]) (fun j hj => absurd hj (Nat.not_lt_zero _)) (fun _ _ => rfl)
  · refine q_if_neN (tgt := 11) G (pc := 6) dX11_keep_6 (by decide) (by omega) (fun c6 => absurd c6 (by decide)) (fun _ => ?_)
    refine q_iconst (v := -1) G (pc := 9) dX11_keep_9 (by decide) ?_
    refine q_iret G (pc := 10) dX11_keep_10 (Or.inl rfl) ?_
    exact hM.post msc.rf (by rw [ix_none c3]; rfl)
set_option maxHeartbeats 2000000 in
theorem m_back {d : Nat} (hd : 3 ≤ d) {hi : mm_HI} {τ : mm_T} {P : PG} {n : Nat} {f : Nat → Nat} {t K : Nat} {pn : Nat → Nat} {pf : Nat → Nat → Nat} {pt : Nat → Nat} {im : Nat → Option DK} {sl : List (Nat × Nat)} {N : Nat} {b : Nat → Nat} {tr : Int64} (hM : mS P n f t K pn pf pt im sl N b tr hi τ) {x : Int32} : wR d yX11_back [.ref 106, .int x] hi τ (RQ (zBack (mkT P n f t K pn pf pt im sl N b tr) (ix x 2)) hi τ) := by
  refine w_intro (by omega) M_X11_back (Nat.le_of_ble_eq_true rfl) rfl ?_
  intro e X he G
  show X 0 [some (.ref (106)), some (.int (x)), none, none] [] hi τ 125
  obtain ⟨sw, hτ, hP, hRw, hV, hU, hI, hIV, hN, hNO, hT, hTr⟩ := id hM
  have hS6 : pS P ≤ 6 := hP.2.2.2.2.2.2.2.1
  have hL3 : pL P ≤ 3 := hP.2.2.2.2.2.2.1
  have hL1 : 1 ≤ pL P := hP.2.2.2.2.2.1
  have hW8 : (pW P).length ≤ 8 := hP.2.2.2.2.2.2.2.2.2.1
  have hn6 : n ≤ 6 := hRw.2.2.2.1
  have hfs : ∀ j, j < n → f j < pS P := hV.1.1
  have hV1 : rowV P n f := hV.1
  refine q_iload_n G (pc := 0) dX11_back_0 rfl ?_
  refine q_iconst (v := nI 0) G (pc := 1) dX11_back_1 (by decide) ?_
  refine q_iconst (v := nI 1) G (pc := 2) dX11_back_2 (by decide) ?_
  refine q_cS3B G (pc := 3) dX11_back_3 cs_X11_71 (w_iff (m_in (by omega)) (in0 (m := 1) (by decide))) (Nat.le_of_ble_eq_true rfl) (fun c3 => ?_) (fun c3 => ?_)
  · obtain ⟨i, hi2, rfl⟩ := c3
    refine q_if_neN (tgt := 11) G (pc := 6) dX11_back_6 (by decide) (by omega) (fun _ => ?_) (fun c6 => absurd c6 (by decide))
    refine q_bipush (v := nI 90) G (pc := 11) dX11_back_11 (by decide) ?_
    refine q_iload_n G (pc := 13) dX11_back_13 rfl ?_
    refine q_imulN G (pc := 14) dX11_back_14 ?_
    refine q_istore_n G (pc := 15) dX11_back_15 (by decide) ?_
    show X _ [_, _, _, _] _ _ _ _
    rcases hI i hi2 with ⟨z1, z2⟩ | ⟨n2, f2, t2, K2, pn2, pf2, pt2, z1, z2, z3, z4, z5, z6⟩
    · refine q_aload_n G (pc := 16) dX11_back_16 rfl ?_
      refine q_getR (x := 124) G (pc := 17) dX11_back_17 fl_X11_65_10 rfl (hg hτ (hf_10_36 rfl)) ?_
      refine q_iload_n G (pc := 20) dX11_back_20 rfl ?_
      refine q_iald (j := 90 * i) (v := nI (0)) G (pc := 21) dX11_back_21 rfl rfl (by omega) z2 ?_
      refine q_if_neN (tgt := 28) G (pc := 22) dX11_back_22 (by decide) (by omega) (fun c22 => absurd c22 (by decide)) (fun _ => ?_)
      refine q_bipush (v := -2) G (pc := 25) dX11_back_25 (by decide) ?_
      refine q_iret G (pc := 27) dX11_back_27 (Or.inl rfl) ?_
      exact hM.post msc.rf (by rw [ix_some hi2 (by decide)]; simp only [zBack]; rw [show gI (mkT P n f t K pn pf pt im sl N b tr) i = none from z1])
    · refine q_aload_n G (pc := 16) dX11_back_16 rfl ?_
      refine q_getR (x := 124) G (pc := 17) dX11_back_17 fl_X11_65_10 rfl (hg hτ (hf_10_36 rfl)) ?_
      refine q_iload_n G (pc := 20) dX11_back_20 rfl ?_
      refine q_iald (j := 90 * i) (v := nI (1)) G (pc := 21) dX11_back_21 rfl rfl (by omega) z2 ?_
      refine q_if_neN (tgt := 28) G (pc := 22) dX11_back_22 (by decide) (by omega) (fun _ => ?_) (fun c22 => absurd c22 (by decide))
      refine q_aload_n G (pc := 28) dX11_back_28 rfl ?_
      refine q_aload_n G (pc := 29) dX11_back_29 rfl ?_
      refine q_getR (x := 124) G (pc := 30) dX11_back_30 fl_X11_65_10 rfl (hg hτ (hf_10_36 rfl)) ?_
      refine q_iload_n G (pc := 33) dX11_back_33 rfl ?_
      refine q_iconst (v := nI 1) G (pc := 34) dX11_back_34 (by decide) ?_
      refine q_iaddN G (pc := 35) dX11_back_35 ?_
      refine q_iald (j := 90 * i + 1) (v := nI (K2)) G (pc := 36) dX11_back_36 rfl rfl (by omega) z3 ?_
      refine q_putI G (pc := 37) dX11_back_37 fl_X11_139_10 rfl ?_
      refine q_aload_n G (pc := 40) dX11_back_40 rfl ?_
      refine q_aload_n G (pc := 41) dX11_back_41 rfl ?_
      refine q_getR (x := 124) G (pc := 42) dX11_back_42 fl_X11_65_10 rfl (hg hτ (hf_10_36 rfl)) ?_
      refine q_iload_n G (pc := 45) dX11_back_45 rfl ?_
      refine q_iconst (v := nI 2) G (pc := 46) dX11_back_46 (by decide) ?_
      refine q_iaddN G (pc := 47) dX11_back_47 ?_
      refine q_cV2V G (pc := 48) dX11_back_48 cv_X11_209 rfl (m_readsBack (by omega) hτ (c := 124) (o := 90 * i + 2) (Nn := 180) (z5.keep (by simp [va_up])) rfl (Or.inr rfl) (by omega) (by omega)) (Nat.le_of_ble_eq_true rfl) ?_
      intro hk hx
      obtain ⟨x1, x2, x3⟩ := hx
      refine q_iconst (v := nI 0) G (pc := 51) dX11_back_51 (by decide) ?_
      refine q_istore_n G (pc := 52) dX11_back_52 (by decide) ?_
      show X _ [_, _, _, _] _ _ _ _
      have L53 : ∀ (zz : Nat) (k : Nat) (hj : mm_HI), 80 - k < zz → k ≤ 80 → (∀ z, z ≠ 120 → hj z = hk z) → (∀ j, j < k → hj 120 j = hk 124 (90 * i + 10 + j)) → X 53 [some (.ref (106)), some (.int (nI (i))), some (.int (nI (90 * i))), some (.int (nI (k)))] [] hj τ 125 := by
        intro zz
        induction zz with
        | zero => intro k hj hm; exact absurd hm (Nat.not_lt_zero _)
        | succ zz ih53 =>
          intro k hj hm h0 g1 g2
          refine q_iload_n G (pc := 53) dX11_back_53 rfl ?_
          refine q_bipush (v := nI 80) G (pc := 54) dX11_back_54 (by decide) ?_
          refine q_icmp_geN (tgt := 82) G (pc := 56) dX11_back_56 (by decide) (by omega) (by omega) (fun c56 => ?_) (fun c56 => ?_)
          · refine q_aload_n G (pc := 82) dX11_back_82 rfl ?_
            refine q_getI (v := nI (n2)) G (pc := 83) dX11_back_83 fl_X11_75_10 (by decide) rfl (by rw [g1 106 (by decide)]; exact x1.1) ?_
            refine q_iret G (pc := 86) dX11_back_86 (Or.inl rfl) ?_
            have e : zBack (mkT P n f t K pn pf pt im sl N b tr) (ix (nI i) 2) = (mkT P n2 f2 t2 K2 pn2 pf2 pt2 im sl N b tr, nI n2) := by
              rw [ix_some hi2 (by decide)]
              simp only [zBack]
              rw [show gI (mkT P n f t K pn pf pt im sl N b tr) i = _ from z1]
            refine RQ.mk e (hM.dsk (fun c h1 h2 h3 => by rw [g1 c h3, x2 c h1 h2]; simp [va_up, h1]) (fun k h1 h2 h3 => by rw [g1 106 (by decide), x3 k h1 h2]; simp [va_up, h3]) (x1.keep (by rw [g1 106 (by decide)]) (by rw [g1 106 (by decide)]) (g1 110 (by decide))) ⟨by rw [g1 106 (by decide), x3 28 (by decide) (by decide)]; simp [va_up], z4, fun q hq => ntF_cp (z6 q hq) (fun j hj => ?_)⟩ (hIV i _ z1)) (fun c hc => by rw [g1 c (by omega), x2 c (by omega) (by omega)]; simp [va_up, show c ≠ 106 by omega]) rfl rfl
            rw [g2 _ (by omega), show 90 * i + 10 + (8 * q + j) = 90 * i + 10 + 8 * q + j by omega, x2 124 (by decide) (by decide)]
            simp [va_up]
          · refine q_aload_n G (pc := 59) dX11_back_59 rfl ?_
            refine q_getR (x := 120) G (pc := 60) dX11_back_60 fl_X11_53_10 rfl (hg hτ (hf_10_27 rfl)) ?_
            refine q_iload_n G (pc := 63) dX11_back_63 rfl ?_
            refine q_aload_n G (pc := 64) dX11_back_64 rfl ?_
            refine q_getR (x := 124) G (pc := 65) dX11_back_65 fl_X11_65_10 rfl (hg hτ (hf_10_36 rfl)) ?_
            refine q_iload_n G (pc := 68) dX11_back_68 rfl ?_
            refine q_bipush (v := nI 10) G (pc := 69) dX11_back_69 (by decide) ?_
            refine q_iaddN G (pc := 71) dX11_back_71 ?_
            refine q_iload_n G (pc := 72) dX11_back_72 rfl ?_
            refine q_iaddN G (pc := 73) dX11_back_73 ?_
            refine q_iald (j := 90 * i + 10 + k) (v := hj 124 (90 * i + 10 + k)) G (pc := 74) dX11_back_74 rfl rfl (by omega) rfl ?_
            refine q_iast (j := k) G (pc := 75) dX11_back_75 rfl rfl (by omega) ?_
            refine q_iincN G (pc := 76) dX11_back_76 rfl (inc1 _) (by decide) ?_
            show X _ [_, _, _, _] _ _ _ _
            refine q_goto (tgt := 53) G (pc := 79) dX11_back_79 (by decide) ?_
            refine ih53 (k + 1) _ (by omega) (by omega) (fun z hz => by simp [va_up, hz]; exact g1 z hz) (fun j hq => ?_)
            by_cases e : j = k
            · subst e; simp [va_up]; rw [g1 124 (by decide)]
            · simp [va_up, e]; exact g2 j (by omega)
      exact L53 _ 0 hk (Nat.lt_succ_self _) (by omega) (fun _ _ => rfl) (fun j hj => absurd hj (Nat.not_lt_zero _))
  · refine q_if_neN (tgt := 11) G (pc := 6) dX11_back_6 (by decide) (by omega) (fun c6 => absurd c6 (by decide)) (fun _ => ?_)
    refine q_iconst (v := -1) G (pc := 9) dX11_back_9 (by decide) ?_
    refine q_iret G (pc := 10) dX11_back_10 (Or.inl rfl) ?_
    exact hM.post msc.rf (by rw [ix_none c3]; rfl)
set_option maxHeartbeats 2000000 in
theorem m_sees {d : Nat} (hd : 2 ≤ d) {hi : mm_HI} {τ : mm_T} {P : PG} {n : Nat} {f : Nat → Nat} {t K : Nat} {pn : Nat → Nat} {pf : Nat → Nat → Nat} {pt : Nat → Nat} {im : Nat → Option DK} {sl : List (Nat × Nat)} {N : Nat} {b : Nat → Nat} {tr : Int64} (hM : mS P n f t K pn pf pt im sl N b tr hi τ) {x : Int32} {y : Int32} : wR d yX11_sees [.ref 106, .int x, .int y] hi τ (RQ (zSees (mkT P n f t K pn pf pt im sl N b tr) (ix x 26) (ix y 2)) hi τ) := by
  refine w_intro (by omega) M_X11_sees (Nat.le_of_ble_eq_true rfl) rfl ?_
  intro e X he G
  show X 0 [some (.ref (106)), some (.int (x)), some (.int (y))] [] hi τ 125
  obtain ⟨sw, hτ, hP, hRw, hV, hU, hI, hIV, hN, hNO, hT, hTr⟩ := id hM
  have hS6 : pS P ≤ 6 := hP.2.2.2.2.2.2.2.1
  have hL3 : pL P ≤ 3 := hP.2.2.2.2.2.2.1
  have hL1 : 1 ≤ pL P := hP.2.2.2.2.2.1
  have hW8 : (pW P).length ≤ 8 := hP.2.2.2.2.2.2.2.2.2.1
  have hn6 : n ≤ 6 := hRw.2.2.2.1
  have hfs : ∀ j, j < n → f j < pS P := hV.1.1
  have hV1 : rowV P n f := hV.1
  have hsl := hNO.1
  refine q_iload_n G (pc := 0) dX11_sees_0 rfl ?_
  refine q_iconst (v := nI 0) G (pc := 1) dX11_sees_1 (by decide) ?_
  refine q_bipush (v := nI 25) G (pc := 2) dX11_sees_2 (by decide) ?_
  refine q_cS3B G (pc := 4) dX11_sees_4 cs_X11_71 (w_iff (m_in (by omega)) (in0 (m := 25) (by decide))) (Nat.le_of_ble_eq_true rfl) (fun c4 => ?_) (fun c4 => ?_)
  · obtain ⟨c, hc, rfl⟩ := c4
    refine q_if_eqN (tgt := 19) G (pc := 7) dX11_sees_7 (by decide) (by omega) (fun c7 => absurd c7 (by decide)) (fun _ => ?_)
    refine q_iload_n G (pc := 10) dX11_sees_10 rfl ?_
    refine q_iconst (v := nI 0) G (pc := 11) dX11_sees_11 (by decide) ?_
    refine q_iconst (v := nI 1) G (pc := 12) dX11_sees_12 (by decide) ?_
    refine q_cS3B G (pc := 13) dX11_sees_13 cs_X11_71 (w_iff (m_in (by omega)) (in0 (m := 1) (by decide))) (Nat.le_of_ble_eq_true rfl) (fun c13 => ?_) (fun c13 => ?_)
    · obtain ⟨w, hw0, rfl⟩ := c13
      refine q_if_neN (tgt := 21) G (pc := 16) dX11_sees_16 (by decide) (by omega) (fun _ => ?_) (fun c16 => absurd c16 (by decide))
      refine q_aload_n G (pc := 21) dX11_sees_21 rfl ?_
      refine q_getI (v := nI (sl.length)) G (pc := 22) dX11_sees_22 fl_X11_136_10 (by decide) rfl hN.1 ?_
      refine q_bipush (v := nI 6) G (pc := 25) dX11_sees_25 (by decide) ?_
      refine q_icmp_neN (tgt := 33) G (pc := 27) dX11_sees_27 (by decide) (by omega) (by omega) (fun c27 => ?_) (fun c27 => ?_)
      · refine q_aload_n G (pc := 33) dX11_sees_33 rfl ?_
        refine q_getR (x := 111) G (pc := 34) dX11_sees_34 fl_X11_26_10 rfl (hg hτ (hf_10_10 rfl)) ?_
        refine q_aload_n G (pc := 37) dX11_sees_37 rfl ?_
        refine q_getI (v := nI (sl.length)) G (pc := 38) dX11_sees_38 fl_X11_136_10 (by decide) rfl hN.1 ?_
        refine q_iload_n G (pc := 41) dX11_sees_41 rfl ?_
        refine q_iast (j := sl.length) G (pc := 42) dX11_sees_42 rfl rfl (by omega) ?_
        refine q_aload_n G (pc := 43) dX11_sees_43 rfl ?_
        refine q_getR (x := 112) G (pc := 44) dX11_sees_44 fl_X11_29_10 rfl (hg hτ (hf_10_11 rfl)) ?_
        refine q_aload_n G (pc := 47) dX11_sees_47 rfl ?_
        refine q_getI (v := nI (sl.length)) G (pc := 48) dX11_sees_48 fl_X11_136_10 (by decide) rfl (by simp [va_up]; exact hN.1) ?_
        refine q_iload_n G (pc := 51) dX11_sees_51 rfl ?_
        refine q_iast (j := sl.length) G (pc := 52) dX11_sees_52 rfl rfl (by omega) ?_
        refine q_aload_n G (pc := 53) dX11_sees_53 rfl ?_
        refine q_dup G (pc := 54) dX11_sees_54 rfl ?_
        refine q_getI (v := nI (sl.length)) G (pc := 55) dX11_sees_55 fl_X11_136_10 (by decide) rfl (by simp [va_up]; exact hN.1) ?_
        refine q_iconst (v := nI 1) G (pc := 58) dX11_sees_58 (by decide) ?_
        refine q_iaddN G (pc := 59) dX11_sees_59 ?_
        refine q_putI G (pc := 60) dX11_sees_60 fl_X11_136_10 rfl ?_
        refine q_aload_n G (pc := 63) dX11_sees_63 rfl ?_
        refine q_getI (v := nI (sl.length + 1)) G (pc := 64) dX11_sees_64 fl_X11_136_10 (by decide) rfl (by simp [va_up]) ?_
        refine q_iret G (pc := 67) dX11_sees_67 (Or.inl rfl) ?_
        have e : zSees (mkT P n f t K pn pf pt im sl N b tr) (ix (nI c) 26) (ix (nI w) 2) = (mkT P n f t K pn pf pt im (sl ++ [(c, w)]) N b tr, nI (sl.length + 1)) := by rw [ix_some hc (by decide), ix_some hw0 (by decide)]; exact if_neg c27
        refine RQ.mk e (hM.sn (fun z h1 h2 h3 => by simp [va_up, h1, h2, h3]) (fun k hk => by simp [va_up, hk]) ⟨by simp [va_up], fun k hk => ?_⟩ ⟨by simp; omega, fun q hq => ?_⟩) (fun z hz => by simp [va_up, show z ≠ 106 by omega, show z ≠ 111 by omega, show z ≠ 112 by omega]) rfl rfl
        · have hk2 : k < sl.length + 1 := by simpa using hk
          by_cases e1 : k = sl.length
          · subst e1
            rw [getD_last]
            exact ⟨by simp [va_up], by simp [va_up]⟩
          · rw [getD_app (by omega)]
            obtain ⟨q1, q2⟩ := hN.2 k (by omega)
            exact ⟨by simp [va_up, e1]; exact q1, by simp [va_up, e1]; exact q2⟩
        · rcases List.mem_append.mp hq with q1 | q1
          · exact hNO.2 q q1
          · rw [List.mem_singleton.mp q1]; exact ⟨hc, hw0⟩
      · refine q_bipush (v := -3) G (pc := 30) dX11_sees_30 (by decide) ?_
        refine q_iret G (pc := 32) dX11_sees_32 (Or.inl rfl) ?_
        exact hM.post msc.rf (by rw [ix_some hc (by decide), ix_some hw0 (by decide)]; exact if_pos c27)
    · refine q_if_neN (tgt := 21) G (pc := 16) dX11_sees_16 (by decide) (by omega) (fun c16 => absurd c16 (by decide)) (fun _ => ?_)
      refine q_iconst (v := -1) G (pc := 19) dX11_sees_19 (by decide) ?_
      refine q_iret G (pc := 20) dX11_sees_20 (Or.inl rfl) ?_
      exact hM.post msc.rf (by rw [ix_some hc (by decide), ix_none c13]; rfl)
  · refine q_if_eqN (tgt := 19) G (pc := 7) dX11_sees_7 (by decide) (by omega) (fun _ => ?_) (fun c7 => absurd c7 (by decide))
    refine q_iconst (v := -1) G (pc := 19) dX11_sees_19 (by decide) ?_
    refine q_iret G (pc := 20) dX11_sees_20 (Or.inl rfl) ?_
    exact hM.post msc.rf (by rw [ix_none c4]; rfl)
set_option maxHeartbeats 2000000 in
theorem m_forget {d : Nat} (hd : 1 ≤ d) {hi : mm_HI} {τ : mm_T} {P : PG} {n : Nat} {f : Nat → Nat} {t K : Nat} {pn : Nat → Nat} {pf : Nat → Nat → Nat} {pt : Nat → Nat} {im : Nat → Option DK} {sl : List (Nat × Nat)} {N : Nat} {b : Nat → Nat} {tr : Int64} (hM : mS P n f t K pn pf pt im sl N b tr hi τ)  : wR d yX11_forget [.ref 106] hi τ (RQ (zForget (mkT P n f t K pn pf pt im sl N b tr)) hi τ) := by
  refine w_intro (by omega) M_X11_forget (Nat.le_of_ble_eq_true rfl) rfl ?_
  intro e X he G
  show X 0 [some (.ref (106)), none] [] hi τ 125
  obtain ⟨sw, hτ, hP, hRw, hV, hU, hI, hIV, hN, hNO, hT, hTr⟩ := id hM
  have hS6 : pS P ≤ 6 := hP.2.2.2.2.2.2.2.1
  have hL3 : pL P ≤ 3 := hP.2.2.2.2.2.2.1
  have hL1 : 1 ≤ pL P := hP.2.2.2.2.2.1
  have hW8 : (pW P).length ≤ 8 := hP.2.2.2.2.2.2.2.2.2.1
  have hn6 : n ≤ 6 := hRw.2.2.2.1
  have hfs : ∀ j, j < n → f j < pS P := hV.1.1
  have hV1 : rowV P n f := hV.1
  refine q_aload_n G (pc := 0) dX11_forget_0 rfl ?_
  refine q_getI (v := nI (sl.length)) G (pc := 1) dX11_forget_1 fl_X11_136_10 (by decide) rfl hN.1 ?_
  refine q_istore_n G (pc := 4) dX11_forget_4 (by decide) ?_
  show X _ [_, _] _ _ _ _
  refine q_aload_n G (pc := 5) dX11_forget_5 rfl ?_
  refine q_iconst (v := nI 0) G (pc := 6) dX11_forget_6 (by decide) ?_
  refine q_putI G (pc := 7) dX11_forget_7 fl_X11_136_10 rfl ?_
  refine q_iload_n G (pc := 10) dX11_forget_10 rfl ?_
  refine q_iret G (pc := 11) dX11_forget_11 (Or.inl rfl) ?_
  exact RQ.mk rfl (hM.sn (fun z h1 h2 h3 => by simp [va_up, h1]) (fun k hk => by simp [va_up, hk]) ⟨by simp [va_up], fun k hk => absurd hk (Nat.not_lt_zero _)⟩ ⟨by simp, fun q hq => absurd hq List.not_mem_nil⟩) (fun z hz => by simp [va_up, show z ≠ 106 by omega]) rfl rfl
set_option maxHeartbeats 2000000 in
theorem m_which0 {d : Nat} (hd : 2 ≤ d) {hi : mm_HI} {τ : mm_T} {P : PG} {n : Nat} {f : Nat → Nat} {t K : Nat} {pn : Nat → Nat} {pf : Nat → Nat → Nat} {pt : Nat → Nat} {im : Nat → Option DK} {sl : List (Nat × Nat)} {N : Nat} {b : Nat → Nat} {tr : Int64} (hM : mS P n f t K pn pf pt im sl N b tr hi τ) : wE d yX11_which [.ref 106] hi τ (nI (whM P sl (pS P))) := by
  refine w_intro (by omega) M_X11_which (Nat.le_of_ble_eq_true rfl) rfl ?_
  intro e X he G
  show X 0 [some (.ref (106)), none, none, none, none] [] hi τ 125
  obtain ⟨sw, hτ, hP, hRw, hV, hU, hI, hIV, hN, hNO, hT, hTr⟩ := id hM
  have hS6 : pS P ≤ 6 := hP.2.2.2.2.2.2.2.1
  have hL3 : pL P ≤ 3 := hP.2.2.2.2.2.2.1
  have hL1 : 1 ≤ pL P := hP.2.2.2.2.2.1
  have hW8 : (pW P).length ≤ 8 := hP.2.2.2.2.2.2.2.2.2.1
  have hn6 : n ≤ 6 := hRw.2.2.2.1
  have hfs : ∀ j, j < n → f j < pS P := hV.1.1
  have hV1 : rowV P n f := hV.1
  have hsl := hNO.1
  refine q_iconst (v := nI 0) G (pc := 0) dX11_which_0 (by decide) ?_
  refine q_istore_n G (pc := 1) dX11_which_1 (by decide) ?_
  show X _ [_, _, _, _, _] _ _ _ _
  refine q_iconst (v := nI 0) G (pc := 2) dX11_which_2 (by decide) ?_
  refine q_istore_n G (pc := 3) dX11_which_3 (by decide) ?_
  show X _ [_, _, _, _, _] _ _ _ _
  have L4 : ∀ (zz : Nat) (s : Nat) (v3 v4 : Option Value), pS P - s < zz → s ≤ pS P → X 4 [some (.ref (106)), some (.int (nI (whM P sl s))), some (.int (nI (s))), v3, v4] [] hi τ 125 := by
    intro zz
    induction zz with
    | zero => intro s v3 v4 hm; exact absurd hm (Nat.not_lt_zero _)
    | succ zz ih4 =>
      intro s v3 v4 hm h0
      refine q_iload_n G (pc := 4) dX11_which_4 rfl ?_
      refine q_aload_n G (pc := 5) dX11_which_5 rfl ?_
      refine q_getI (v := nI (pS P)) G (pc := 6) dX11_which_6 fl_X11_68_10 (by decide) rfl hP.2.1 ?_
      refine q_icmp_geN (tgt := 96) G (pc := 9) dX11_which_9 (by decide) (by omega) (by omega) (fun c9 => ?_) (fun c9 => ?_)
      · refine q_iload_n G (pc := 96) dX11_which_96 rfl ?_
        refine q_iret G (pc := 97) dX11_which_97 (Or.inl rfl) ?_
        exact ⟨rfl, rfl, by rw [show s = pS P by omega]⟩
      · refine q_iconst (v := nI 1) G (pc := 12) dX11_which_12 (by decide) ?_
        refine q_istore_n G (pc := 13) dX11_which_13 (by decide) ?_
        show X _ [_, _, _, _, _] _ _ _ _
        refine q_iconst (v := nI 0) G (pc := 14) dX11_which_14 (by decide) ?_
        refine q_istore G (pc := 15) dX11_which_15 (by decide) ?_
        show X _ [_, _, _, _, _] _ _ _ _
        have L17 : ∀ (zz : Nat) (k iv : Nat), sl.length - k < zz → k ≤ sl.length → iv < 2 → (iv = 1 ↔ ∀ k2, k2 < k → letO P s / 2 ^ (sl.getD k2 (0, 0)).1 % 2 = (sl.getD k2 (0, 0)).2) → X 17 [some (.ref (106)), some (.int (nI (whM P sl s))), some (.int (nI (s))), some (.int (nI (iv))), some (.int (nI (k)))] [] hi τ 125 := by
          intro zz
          induction zz with
          | zero => intro k iv hm; exact absurd hm (Nat.not_lt_zero _)
          | succ zz ih17 =>
            intro k iv hm i0 i1 g2
            refine q_iload G (pc := 17) dX11_which_17 rfl ?_
            refine q_aload_n G (pc := 19) dX11_which_19 rfl ?_
            refine q_getI (v := nI (sl.length)) G (pc := 20) dX11_which_20 fl_X11_136_10 (by decide) rfl hN.1 ?_
            refine q_icmp_geN (tgt := 76) G (pc := 23) dX11_which_23 (by decide) (by omega) (by omega) (fun c23 => ?_) (fun c23 => ?_)
            · refine q_iload_n G (pc := 76) dX11_which_76 rfl ?_
              refine q_iload_n G (pc := 77) dX11_which_77 rfl ?_
              refine q_if_eqN (tgt := 87) G (pc := 78) dX11_which_78 (by decide) (by omega) (fun c78 => ?_) (fun c78 => ?_)
              · have c78z : ¬ iv = 1 := by omega
                refine q_iconst (v := nI 0) G (pc := 87) dX11_which_87 (by decide) ?_
                refine q_ior G (pc := 88) dX11_which_88 ?_
                rw [or_nI]
                refine q_istore_n G (pc := 89) dX11_which_89 (by decide) ?_
                show X _ [_, _, _, _, _] _ _ _ _
                refine q_iincN G (pc := 90) dX11_which_90 rfl (inc1 _) (by decide) ?_
                show X _ [_, _, _, _, _] _ _ _ _
                refine q_goto (tgt := 4) G (pc := 93) dX11_which_93 (by decide) ?_
                have hkl : k = sl.length := by rcases Nat.lt_or_ge k sl.length with q | q; (exact absurd c23 (by omega)); omega
                have e1 : whM P sl (s + 1) = whM P sl s ||| 0 := by
                  show _ ||| _ = _
                  rw [if_neg (fun z => c78z (g2.mpr (fun y hy => sl_all (p := fun q => letO P s / 2 ^ q.1 % 2 = q.2) |>.mpr ((fit_iff hNO.2).mpr z) y (by omega))))]
                have z := fun v3 v4 => ih4 (s + 1) v3 v4 (by omega) (by omega)
                rw [e1] at z
                exact z _ _
              · have c78z : iv = 1 := by omega
                refine q_iconst (v := 1) G (pc := 81) dX11_which_81 (by decide) ?_
                refine q_iload_n G (pc := 82) dX11_which_82 rfl ?_
                refine q_ishl G (pc := 83) dX11_which_83 ?_
                rw [bit_one _ (by omega)]
                refine q_goto (tgt := 88) G (pc := 84) dX11_which_84 (by decide) ?_
                refine q_ior G (pc := 88) dX11_which_88 ?_
                rw [or_nI]
                refine q_istore_n G (pc := 89) dX11_which_89 (by decide) ?_
                show X _ [_, _, _, _, _] _ _ _ _
                refine q_iincN G (pc := 90) dX11_which_90 rfl (inc1 _) (by decide) ?_
                show X _ [_, _, _, _, _] _ _ _ _
                refine q_goto (tgt := 4) G (pc := 93) dX11_which_93 (by decide) ?_
                have hkl : k = sl.length := by rcases Nat.lt_or_ge k sl.length with q | q; (exact absurd c23 (by omega)); omega
                have e1 : whM P sl (s + 1) = whM P sl s ||| 2 ^ s := by
                  show _ ||| _ = _
                  rw [if_pos ((fit_iff hNO.2).mp (sl_all (p := fun q => letO P s / 2 ^ q.1 % 2 = q.2) |>.mp (fun y hy => g2.mp (by omega) y (by omega))))]
                have z := fun v3 v4 => ih4 (s + 1) v3 v4 (by omega) (by omega)
                rw [e1] at z
                exact z _ _
            · refine q_iload_n G (pc := 26) dX11_which_26 rfl ?_
              refine q_if_eqN (tgt := 68) G (pc := 27) dX11_which_27 (by decide) (by omega) (fun c27 => ?_) (fun c27 => ?_)
              · refine q_iconst (v := nI 0) G (pc := 68) dX11_which_68 (by decide) ?_
                refine q_istore_n G (pc := 69) dX11_which_69 (by decide) ?_
                show X _ [_, _, _, _, _] _ _ _ _
                refine q_iincN G (pc := 70) dX11_which_70 rfl (inc1 _) (by decide) ?_
                show X _ [_, _, _, _, _] _ _ _ _
                refine q_goto (tgt := 17) G (pc := 73) dX11_which_73 (by decide) ?_
                refine ih17 (k + 1) 0 (by omega) (by omega) (by omega) ⟨fun z => absurd z (by decide), fun z => ?_⟩
                have := g2.mpr (fun y hy => z y (by omega))
                omega
              · refine q_aload_n G (pc := 30) dX11_which_30 rfl ?_
                refine q_iload_n G (pc := 31) dX11_which_31 rfl ?_
                refine q_cV1E G (pc := 32) dX11_which_32 cv_X11_183 rfl (m_lettersOn (by omega) hM (s := s) (by omega)) (Nat.le_of_ble_eq_true rfl) ?_
                have hl0 := letO_lt hP.2.2.2.2.2 s
                obtain ⟨hq1, hq2⟩ := hN.2 k (by omega)
                obtain ⟨hq3, hq4⟩ := hNO.2 _ (sl_get (k := k) (by omega))
                have hb2 := bit_lt2 (letO P s) (sl.getD k (0, 0)).1
                refine q_aload_n G (pc := 35) dX11_which_35 rfl ?_
                refine q_getR (x := 111) G (pc := 36) dX11_which_36 fl_X11_26_10 rfl (hg hτ (hf_10_10 rfl)) ?_
                refine q_iload G (pc := 39) dX11_which_39 rfl ?_
                refine q_iald (j := k) (v := nI ((sl.getD k (0, 0)).1)) G (pc := 41) dX11_which_41 rfl rfl (by omega) hq1 ?_
                refine q_cS2B G (pc := 42) dX11_which_42 cs_X11_142 (m_has (by omega) (by omega) (by omega)) (Nat.le_of_ble_eq_true rfl) (fun c42 => ?_) (fun c42 => ?_)
                · refine q_aload_n G (pc := 45) dX11_which_45 rfl ?_
                  refine q_getR (x := 112) G (pc := 46) dX11_which_46 fl_X11_29_10 rfl (hg hτ (hf_10_11 rfl)) ?_
                  refine q_iload G (pc := 49) dX11_which_49 rfl ?_
                  refine q_iald (j := k) (v := nI ((sl.getD k (0, 0)).2)) G (pc := 51) dX11_which_51 rfl rfl (by omega) hq2 ?_
                  refine q_iconst (v := nI 1) G (pc := 52) dX11_which_52 (by decide) ?_
                  refine q_icmp_neN (tgt := 60) G (pc := 53) dX11_which_53 (by decide) (by omega) (by omega) (fun c53 => ?_) (fun c53 => ?_)
                  · refine q_iconst (v := nI 0) G (pc := 60) dX11_which_60 (by decide) ?_
                    refine q_icmp_neN (tgt := 68) G (pc := 61) dX11_which_61 (by decide) (by omega) (by omega) (fun _ => ?_) (fun c61 => absurd c61 (by decide))
                    refine q_iconst (v := nI 0) G (pc := 68) dX11_which_68 (by decide) ?_
                    refine q_istore_n G (pc := 69) dX11_which_69 (by decide) ?_
                    show X _ [_, _, _, _, _] _ _ _ _
                    refine q_iincN G (pc := 70) dX11_which_70 rfl (inc1 _) (by decide) ?_
                    show X _ [_, _, _, _, _] _ _ _ _
                    refine q_goto (tgt := 17) G (pc := 73) dX11_which_73 (by decide) ?_
                    refine ih17 (k + 1) 0 (by omega) (by omega) (by omega) ⟨fun z => absurd z (by decide), fun z => ?_⟩
                    have := z k (by omega)
                    omega
                  · refine q_iconst (v := nI 1) G (pc := 56) dX11_which_56 (by decide) ?_
                    refine q_goto (tgt := 61) G (pc := 57) dX11_which_57 (by decide) ?_
                    refine q_icmp_neN (tgt := 68) G (pc := 61) dX11_which_61 (by decide) (by omega) (by omega) (fun c61 => absurd c61 (by decide)) (fun _ => ?_)
                    refine q_iconst (v := nI 1) G (pc := 64) dX11_which_64 (by decide) ?_
                    refine q_goto (tgt := 69) G (pc := 65) dX11_which_65 (by decide) ?_
                    refine q_istore_n G (pc := 69) dX11_which_69 (by decide) ?_
                    show X _ [_, _, _, _, _] _ _ _ _
                    refine q_iincN G (pc := 70) dX11_which_70 rfl (inc1 _) (by decide) ?_
                    show X _ [_, _, _, _, _] _ _ _ _
                    refine q_goto (tgt := 17) G (pc := 73) dX11_which_73 (by decide) ?_
                    refine ih17 (k + 1) 1 (by omega) (by omega) (by omega) ⟨fun _ y hy => ?_, fun _ => rfl⟩
                    by_cases e : y = k
                    · subst e; omega
                    · exact g2.mp (by omega) y (by omega)
                · refine q_aload_n G (pc := 45) dX11_which_45 rfl ?_
                  refine q_getR (x := 112) G (pc := 46) dX11_which_46 fl_X11_29_10 rfl (hg hτ (hf_10_11 rfl)) ?_
                  refine q_iload G (pc := 49) dX11_which_49 rfl ?_
                  refine q_iald (j := k) (v := nI ((sl.getD k (0, 0)).2)) G (pc := 51) dX11_which_51 rfl rfl (by omega) hq2 ?_
                  refine q_iconst (v := nI 1) G (pc := 52) dX11_which_52 (by decide) ?_
                  refine q_icmp_neN (tgt := 60) G (pc := 53) dX11_which_53 (by decide) (by omega) (by omega) (fun c53 => ?_) (fun c53 => ?_)
                  · refine q_iconst (v := nI 0) G (pc := 60) dX11_which_60 (by decide) ?_
                    refine q_icmp_neN (tgt := 68) G (pc := 61) dX11_which_61 (by decide) (by omega) (by omega) (fun c61 => absurd c61 (by decide)) (fun _ => ?_)
                    refine q_iconst (v := nI 1) G (pc := 64) dX11_which_64 (by decide) ?_
                    refine q_goto (tgt := 69) G (pc := 65) dX11_which_65 (by decide) ?_
                    refine q_istore_n G (pc := 69) dX11_which_69 (by decide) ?_
                    show X _ [_, _, _, _, _] _ _ _ _
                    refine q_iincN G (pc := 70) dX11_which_70 rfl (inc1 _) (by decide) ?_
                    show X _ [_, _, _, _, _] _ _ _ _
                    refine q_goto (tgt := 17) G (pc := 73) dX11_which_73 (by decide) ?_
                    refine ih17 (k + 1) 1 (by omega) (by omega) (by omega) ⟨fun _ y hy => ?_, fun _ => rfl⟩
                    by_cases e : y = k
                    · subst e; omega
                    · exact g2.mp (by omega) y (by omega)
                  · refine q_iconst (v := nI 1) G (pc := 56) dX11_which_56 (by decide) ?_
                    refine q_goto (tgt := 61) G (pc := 57) dX11_which_57 (by decide) ?_
                    refine q_icmp_neN (tgt := 68) G (pc := 61) dX11_which_61 (by decide) (by omega) (by omega) (fun _ => ?_) (fun c61 => absurd c61 (by decide))
                    refine q_iconst (v := nI 0) G (pc := 68) dX11_which_68 (by decide) ?_
                    refine q_istore_n G (pc := 69) dX11_which_69 (by decide) ?_
                    show X _ [_, _, _, _, _] _ _ _ _
                    refine q_iincN G (pc := 70) dX11_which_70 rfl (inc1 _) (by decide) ?_
                    show X _ [_, _, _, _, _] _ _ _ _
                    refine q_goto (tgt := 17) G (pc := 73) dX11_which_73 (by decide) ?_
                    refine ih17 (k + 1) 0 (by omega) (by omega) (by omega) ⟨fun z => absurd z (by decide), fun z => ?_⟩
                    have := z k (by omega)
                    omega
        exact L17 _ 0 1 (Nat.lt_succ_self _) (by omega) (by omega) ⟨fun _ y hy => absurd hy (Nat.not_lt_zero _), fun _ => rfl⟩
  exact L4 _ 0 _ _ (Nat.lt_succ_self _) (by omega)
theorem m_which {d : Nat} (hd : 2 ≤ d) {hi : mm_HI} {τ : mm_T} {P : PG} {n : Nat} {f : Nat → Nat} {t K : Nat} {pn : Nat → Nat} {pf : Nat → Nat → Nat} {pt : Nat → Nat} {im : Nat → Option DK} {sl : List (Nat × Nat)} {N : Nat} {b : Nat → Nat} {tr : Int64} (hM : mS P n f t K pn pf pt im sl N b tr hi τ) : wR d yX11_which [.ref 106] hi τ (RQ (zWhich (mkT P n f t K pn pf pt im sl N b tr)) hi τ) := w_post (m_which0 hd hM) (by
  rintro v h t2 ⟨rfl, rfl, rfl⟩
  exact hM.post msc.rf rfl)
set_option maxHeartbeats 2000000 in
theorem m_look {d : Nat} (hd : 3 ≤ d) {hi : mm_HI} {τ : mm_T} {P : PG} {n : Nat} {f : Nat → Nat} {t K : Nat} {pn : Nat → Nat} {pf : Nat → Nat → Nat} {pt : Nat → Nat} {im : Nat → Option DK} {sl : List (Nat × Nat)} {N : Nat} {b : Nat → Nat} {tr : Int64} (hM : mS P n f t K pn pf pt im sl N b tr hi τ)  : wR d yX11_look [.ref 106] hi τ (RQ (zLook (mkT P n f t K pn pf pt im sl N b tr)) hi τ) := by
  refine w_intro (by omega) M_X11_look (Nat.le_of_ble_eq_true rfl) rfl ?_
  intro e X he G
  show X 0 [some (.ref (106)), none, none, none, none, none, none, none] [] hi τ 125
  obtain ⟨sw, hτ, hP, hRw, hV, hU, hI, hIV, hN, hNO, hT, hTr⟩ := id hM
  have hS6 : pS P ≤ 6 := hP.2.2.2.2.2.2.2.1
  have hL3 : pL P ≤ 3 := hP.2.2.2.2.2.2.1
  have hL1 : 1 ≤ pL P := hP.2.2.2.2.2.1
  have hW8 : (pW P).length ≤ 8 := hP.2.2.2.2.2.2.2.2.2.1
  have hn6 : n ≤ 6 := hRw.2.2.2.1
  have hfs : ∀ j, j < n → f j < pS P := hV.1.1
  have hV1 : rowV P n f := hV.1
  have hW := whM_lt P sl (pS P) hS6
  have hW2 := whM_lt2 P sl (pS P)
  refine q_aload_n G (pc := 0) dX11_look_0 rfl ?_
  refine q_cV0E G (pc := 1) dX11_look_1 cv_X11_268 rfl (m_which0 (by omega) hM) (Nat.le_of_ble_eq_true rfl) ?_
  refine q_istore_n G (pc := 4) dX11_look_4 (by decide) ?_
  show X _ [_, _, _, _, _, _, _, _] _ _ _ _
  refine q_iconst (v := nI 0) G (pc := 5) dX11_look_5 (by decide) ?_
  refine q_istore_n G (pc := 6) dX11_look_6 (by decide) ?_
  show X _ [_, _, _, _, _, _, _, _] _ _ _ _
  refine q_iconst (v := nI 0) G (pc := 7) dX11_look_7 (by decide) ?_
  refine q_istore_n G (pc := 8) dX11_look_8 (by decide) ?_
  show X _ [_, _, _, _, _, _, _, _] _ _ _ _
  have L9 : ∀ (zz : Nat) (s : Nat), pS P - s < zz → s ≤ pS P → X 9 [some (.ref (106)), some (.int (nI ((whM P sl (pS P))))), some (.int (nI (pcs (whM P sl (pS P)) s))), some (.int (nI (s))), none, none, none, none] [] hi τ 125 := by
    intro zz
    induction zz with
    | zero => intro s hm; exact absurd hm (Nat.not_lt_zero _)
    | succ zz ih9 =>
      intro s hm h0
      refine q_iload_n G (pc := 9) dX11_look_9 rfl ?_
      refine q_aload_n G (pc := 10) dX11_look_10 rfl ?_
      refine q_getI (v := nI (pS P)) G (pc := 11) dX11_look_11 fl_X11_68_10 (by decide) rfl hP.2.1 ?_
      refine q_icmp_geN (tgt := 31) G (pc := 14) dX11_look_14 (by decide) (by omega) (by omega) (fun c14 => ?_) (fun c14 => ?_)
      · refine q_bipush (v := -9) G (pc := 31) dX11_look_31 (by decide) ?_
        refine q_istore_n G (pc := 33) dX11_look_33 (by decide) ?_
        show X _ [_, _, _, _, _, _, _, _] _ _ _ _
        refine q_iload_n G (pc := 34) dX11_look_34 rfl ?_
        refine q_istore G (pc := 35) dX11_look_35 (by decide) ?_
        show X _ [_, _, _, _, _, _, _, _] _ _ _ _
        refine q_iconst (v := nI 0) G (pc := 37) dX11_look_37 (by decide) ?_
        refine q_istore G (pc := 38) dX11_look_38 (by decide) ?_
        show X _ [_, _, _, _, _, _, _, _] _ _ _ _
        have L40 : ∀ (zz : Nat) (c : Nat) (v6 v7 : Option Value), 26 - c < zz → c ≤ 26 → X 40 [some (.ref (106)), some (.int (nI ((whM P sl (pS P))))), some (.int (nI (pcn (whM P sl (pS P))))), some (.int ((lkF P (whM P sl (pS P)) c).2)), some (.int (nI ((lkF P (whM P sl (pS P)) c).1))), some (.int (nI (c))), v6, v7] [] hi τ 125 := by
          intro zz
          induction zz with
          | zero => intro c v6 v7 hm; exact absurd hm (Nat.not_lt_zero _)
          | succ zz ih40 =>
            intro c v6 v7 hm h0
            refine q_iload G (pc := 40) dX11_look_40 rfl ?_
            refine q_bipush (v := nI 26) G (pc := 42) dX11_look_42 (by decide) ?_
            refine q_icmp_geN (tgt := 157) G (pc := 44) dX11_look_44 (by decide) (by omega) (by omega) (fun c44 => ?_) (fun c44 => ?_)
            · refine q_iload_n G (pc := 157) dX11_look_157 rfl ?_
              refine q_iret G (pc := 158) dX11_look_158 (Or.inl rfl) ?_
              exact hM.post msc.rf (by show (_, _) = (_, _); rw [show c = 26 by omega])
            · refine q_iconst (v := nI 0) G (pc := 47) dX11_look_47 (by decide) ?_
              refine q_istore G (pc := 48) dX11_look_48 (by decide) ?_
              show X _ [_, _, _, _, _, _, _, _] _ _ _ _
              refine q_iconst (v := nI 0) G (pc := 50) dX11_look_50 (by decide) ?_
              refine q_istore G (pc := 51) dX11_look_51 (by decide) ?_
              show X _ [_, _, _, _, _, _, _, _] _ _ _ _
              have L53 : ∀ (zz : Nat) (s : Nat), pS P - s < zz → s ≤ pS P → X 53 [some (.ref (106)), some (.int (nI ((whM P sl (pS P))))), some (.int (nI (pcn (whM P sl (pS P))))), some (.int ((lkF P (whM P sl (pS P)) c).2)), some (.int (nI ((lkF P (whM P sl (pS P)) c).1))), some (.int (nI (c))), some (.int (nI (hvM P (whM P sl (pS P)) c s))), some (.int (nI (s)))] [] hi τ 125 := by
                intro zz
                induction zz with
                | zero => intro s hm; exact absurd hm (Nat.not_lt_zero _)
                | succ zz ih53 =>
                  intro s hm i0
                  refine q_iload G (pc := 53) dX11_look_53 rfl ?_
                  refine q_aload_n G (pc := 55) dX11_look_55 rfl ?_
                  refine q_getI (v := nI (pS P)) G (pc := 56) dX11_look_56 fl_X11_68_10 (by decide) rfl hP.2.1 ?_
                  refine q_icmp_geN (tgt := 101) G (pc := 59) dX11_look_59 (by decide) (by omega) (by omega) (fun c59 => ?_) (fun c59 => ?_)
                  · have hsS : s = pS P := by omega
                    subst hsS
                    have hq2 := hvM_le P (whM P sl (pS P)) c (pS P)
                    have hq3 := pcs_le (whM P sl (pS P)) (pS P) hS6
                    have hq4 := pcn_6 (whM P sl (pS P))
                    have hg : gpt P (whM P sl (pS P)) c = max (hvM P (whM P sl (pS P)) c (pS P)) (pcn (whM P sl (pS P)) - hvM P (whM P sl (pS P)) c (pS P)) := rfl
                    have hl2 := lkF_le P (whM P sl (pS P)) c
                    refine q_iload G (pc := 101) dX11_look_101 rfl ?_
                    refine q_iload_n G (pc := 103) dX11_look_103 rfl ?_
                    refine q_iload G (pc := 104) dX11_look_104 rfl ?_
                    refine q_isubN G (pc := 106) dX11_look_106 (by omega) ?_
                    refine q_icmp_leN (tgt := 115) G (pc := 107) dX11_look_107 (by decide) (by omega) (by omega) (fun c107 => ?_) (fun c107 => ?_)
                    · refine q_iload_n G (pc := 115) dX11_look_115 rfl ?_
                      refine q_iload G (pc := 116) dX11_look_116 rfl ?_
                      refine q_isubN G (pc := 118) dX11_look_118 (by omega) ?_
                      rw [show pcn (whM P sl (pS P)) - (hvM P (whM P sl (pS P)) c (pS P)) = gpt P (whM P sl (pS P)) c by rw [hg]; omega]
                      refine q_istore G (pc := 119) dX11_look_119 (by decide) ?_
                      show X _ [_, _, _, _, _, _, _, _] _ _ _ _
                      refine q_iload G (pc := 121) dX11_look_121 rfl ?_
                      refine q_iload G (pc := 123) dX11_look_123 rfl ?_
                      refine q_icmp_geN (tgt := 133) G (pc := 125) dX11_look_125 (by decide) (by omega) (by omega) (fun c125 => ?_) (fun c125 => ?_)
                      · refine q_iload_n G (pc := 133) dX11_look_133 rfl ?_
                        refine q_istore_n G (pc := 134) dX11_look_134 (by decide) ?_
                        show X _ [_, _, _, _, _, _, _, _] _ _ _ _
                        refine q_iload G (pc := 135) dX11_look_135 rfl ?_
                        refine q_iload G (pc := 137) dX11_look_137 rfl ?_
                        refine q_icmp_geN (tgt := 147) G (pc := 139) dX11_look_139 (by decide) (by omega) (by omega) (fun _ => ?_) (fun c139 => absurd c139 (by omega))
                        refine q_iload G (pc := 147) dX11_look_147 rfl ?_
                        refine q_istore G (pc := 149) dX11_look_149 (by decide) ?_
                        show X _ [_, _, _, _, _, _, _, _] _ _ _ _
                        refine q_iincN G (pc := 151) dX11_look_151 rfl (inc1 _) (by decide) ?_
                        show X _ [_, _, _, _, _, _, _, _] _ _ _ _
                        refine q_goto (tgt := 40) G (pc := 154) dX11_look_154 (by decide) ?_
                        have e1 : lkF P (whM P sl (pS P)) (c + 1) = lkF P (whM P sl (pS P)) c := if_neg (by omega)
                        have z := fun v6 v7 => ih40 (c + 1) v6 v7 (by omega) (by omega)
                        simp only [e1] at z
                        exact z _ _
                      · refine q_iload G (pc := 128) dX11_look_128 rfl ?_
                        refine q_goto (tgt := 134) G (pc := 130) dX11_look_130 (by decide) ?_
                        refine q_istore_n G (pc := 134) dX11_look_134 (by decide) ?_
                        show X _ [_, _, _, _, _, _, _, _] _ _ _ _
                        refine q_iload G (pc := 135) dX11_look_135 rfl ?_
                        refine q_iload G (pc := 137) dX11_look_137 rfl ?_
                        refine q_icmp_geN (tgt := 147) G (pc := 139) dX11_look_139 (by decide) (by omega) (by omega) (fun c139 => absurd c139 (by omega)) (fun _ => ?_)
                        refine q_iload G (pc := 142) dX11_look_142 rfl ?_
                        refine q_goto (tgt := 149) G (pc := 144) dX11_look_144 (by decide) ?_
                        refine q_istore G (pc := 149) dX11_look_149 (by decide) ?_
                        show X _ [_, _, _, _, _, _, _, _] _ _ _ _
                        refine q_iincN G (pc := 151) dX11_look_151 rfl (inc1 _) (by decide) ?_
                        show X _ [_, _, _, _, _, _, _, _] _ _ _ _
                        refine q_goto (tgt := 40) G (pc := 154) dX11_look_154 (by decide) ?_
                        have e1 : lkF P (whM P sl (pS P)) (c + 1) = (gpt P (whM P sl (pS P)) c, nI c) := if_pos (by omega)
                        have z := fun v6 v7 => ih40 (c + 1) v6 v7 (by omega) (by omega)
                        simp only [e1] at z
                        exact z _ _
                    · refine q_iload G (pc := 110) dX11_look_110 rfl ?_
                      refine q_goto (tgt := 119) G (pc := 112) dX11_look_112 (by decide) ?_
                      rw [show hvM P (whM P sl (pS P)) c (pS P) = gpt P (whM P sl (pS P)) c by rw [hg]; omega]
                      refine q_istore G (pc := 119) dX11_look_119 (by decide) ?_
                      show X _ [_, _, _, _, _, _, _, _] _ _ _ _
                      refine q_iload G (pc := 121) dX11_look_121 rfl ?_
                      refine q_iload G (pc := 123) dX11_look_123 rfl ?_
                      refine q_icmp_geN (tgt := 133) G (pc := 125) dX11_look_125 (by decide) (by omega) (by omega) (fun c125 => ?_) (fun c125 => ?_)
                      · refine q_iload_n G (pc := 133) dX11_look_133 rfl ?_
                        refine q_istore_n G (pc := 134) dX11_look_134 (by decide) ?_
                        show X _ [_, _, _, _, _, _, _, _] _ _ _ _
                        refine q_iload G (pc := 135) dX11_look_135 rfl ?_
                        refine q_iload G (pc := 137) dX11_look_137 rfl ?_
                        refine q_icmp_geN (tgt := 147) G (pc := 139) dX11_look_139 (by decide) (by omega) (by omega) (fun _ => ?_) (fun c139 => absurd c139 (by omega))
                        refine q_iload G (pc := 147) dX11_look_147 rfl ?_
                        refine q_istore G (pc := 149) dX11_look_149 (by decide) ?_
                        show X _ [_, _, _, _, _, _, _, _] _ _ _ _
                        refine q_iincN G (pc := 151) dX11_look_151 rfl (inc1 _) (by decide) ?_
                        show X _ [_, _, _, _, _, _, _, _] _ _ _ _
                        refine q_goto (tgt := 40) G (pc := 154) dX11_look_154 (by decide) ?_
                        have e1 : lkF P (whM P sl (pS P)) (c + 1) = lkF P (whM P sl (pS P)) c := if_neg (by omega)
                        have z := fun v6 v7 => ih40 (c + 1) v6 v7 (by omega) (by omega)
                        simp only [e1] at z
                        exact z _ _
                      · refine q_iload G (pc := 128) dX11_look_128 rfl ?_
                        refine q_goto (tgt := 134) G (pc := 130) dX11_look_130 (by decide) ?_
                        refine q_istore_n G (pc := 134) dX11_look_134 (by decide) ?_
                        show X _ [_, _, _, _, _, _, _, _] _ _ _ _
                        refine q_iload G (pc := 135) dX11_look_135 rfl ?_
                        refine q_iload G (pc := 137) dX11_look_137 rfl ?_
                        refine q_icmp_geN (tgt := 147) G (pc := 139) dX11_look_139 (by decide) (by omega) (by omega) (fun c139 => absurd c139 (by omega)) (fun _ => ?_)
                        refine q_iload G (pc := 142) dX11_look_142 rfl ?_
                        refine q_goto (tgt := 149) G (pc := 144) dX11_look_144 (by decide) ?_
                        refine q_istore G (pc := 149) dX11_look_149 (by decide) ?_
                        show X _ [_, _, _, _, _, _, _, _] _ _ _ _
                        refine q_iincN G (pc := 151) dX11_look_151 rfl (inc1 _) (by decide) ?_
                        show X _ [_, _, _, _, _, _, _, _] _ _ _ _
                        refine q_goto (tgt := 40) G (pc := 154) dX11_look_154 (by decide) ?_
                        have e1 : lkF P (whM P sl (pS P)) (c + 1) = (gpt P (whM P sl (pS P)) c, nI c) := if_pos (by omega)
                        have z := fun v6 v7 => ih40 (c + 1) v6 v7 (by omega) (by omega)
                        simp only [e1] at z
                        exact z _ _
                  · refine q_iload G (pc := 62) dX11_look_62 rfl ?_
                    refine q_iload_n G (pc := 64) dX11_look_64 rfl ?_
                    refine q_iload G (pc := 65) dX11_look_65 rfl ?_
                    refine q_cS2B G (pc := 67) dX11_look_67 cs_X11_142 (m_has (by omega) (by omega) (by omega)) (Nat.le_of_ble_eq_true rfl) (fun c67 => ?_) (fun c67 => ?_)
                    · refine q_if_eqN (tgt := 91) G (pc := 70) dX11_look_70 (by decide) (by omega) (fun c70 => absurd c70 (by decide)) (fun _ => ?_)
                      refine q_aload_n G (pc := 73) dX11_look_73 rfl ?_
                      refine q_iload G (pc := 74) dX11_look_74 rfl ?_
                      refine q_cV1E G (pc := 76) dX11_look_76 cv_X11_183 rfl (m_lettersOn (by omega) hM (s := s) (by omega)) (Nat.le_of_ble_eq_true rfl) ?_
                      have hl0 := letO_lt hP.2.2.2.2.2 s
                      refine q_iload G (pc := 79) dX11_look_79 rfl ?_
                      refine q_cS2B G (pc := 81) dX11_look_81 cs_X11_142 (m_has (by omega) (by omega) (by omega)) (Nat.le_of_ble_eq_true rfl) (fun c81 => ?_) (fun c81 => ?_)
                      · refine q_if_eqN (tgt := 91) G (pc := 84) dX11_look_84 (by decide) (by omega) (fun c84 => absurd c84 (by decide)) (fun _ => ?_)
                        refine q_iconst (v := nI 1) G (pc := 87) dX11_look_87 (by decide) ?_
                        refine q_goto (tgt := 92) G (pc := 88) dX11_look_88 (by decide) ?_
                        refine q_iaddN G (pc := 92) dX11_look_92 ?_
                        refine q_istore G (pc := 93) dX11_look_93 (by decide) ?_
                        show X _ [_, _, _, _, _, _, _, _] _ _ _ _
                        refine q_iincN G (pc := 95) dX11_look_95 rfl (inc1 _) (by decide) ?_
                        show X _ [_, _, _, _, _, _, _, _] _ _ _ _
                        refine q_goto (tgt := 53) G (pc := 98) dX11_look_98 (by decide) ?_
                        have e1 : hvM P (whM P sl (pS P)) c (s + 1) = hvM P (whM P sl (pS P)) c s + 1 := by
                          show _ + _ = _
                          rw [c67, c81]
                        have z := ih53 (s + 1) (by omega) (by omega)
                        rw [e1] at z
                        exact z
                      · have hbL := bit_lt2 (letO P s) c
                        refine q_if_eqN (tgt := 91) G (pc := 84) dX11_look_84 (by decide) (by omega) (fun _ => ?_) (fun c84 => absurd c84 (by decide))
                        refine q_iconst (v := nI 0) G (pc := 91) dX11_look_91 (by decide) ?_
                        refine q_iaddN G (pc := 92) dX11_look_92 ?_
                        refine q_istore G (pc := 93) dX11_look_93 (by decide) ?_
                        show X _ [_, _, _, _, _, _, _, _] _ _ _ _
                        refine q_iincN G (pc := 95) dX11_look_95 rfl (inc1 _) (by decide) ?_
                        show X _ [_, _, _, _, _, _, _, _] _ _ _ _
                        refine q_goto (tgt := 53) G (pc := 98) dX11_look_98 (by decide) ?_
                        have e1 : hvM P (whM P sl (pS P)) c (s + 1) = hvM P (whM P sl (pS P)) c s + 0 := by
                          show _ + _ = _
                          rw [show letO P s / 2 ^ c % 2 = 0 by omega, Nat.mul_zero]
                        have z := ih53 (s + 1) (by omega) (by omega)
                        rw [e1] at z
                        exact z
                    · have hbW := bit_lt2 (whM P sl (pS P)) s
                      refine q_if_eqN (tgt := 91) G (pc := 70) dX11_look_70 (by decide) (by omega) (fun _ => ?_) (fun c70 => absurd c70 (by decide))
                      refine q_iconst (v := nI 0) G (pc := 91) dX11_look_91 (by decide) ?_
                      refine q_iaddN G (pc := 92) dX11_look_92 ?_
                      refine q_istore G (pc := 93) dX11_look_93 (by decide) ?_
                      show X _ [_, _, _, _, _, _, _, _] _ _ _ _
                      refine q_iincN G (pc := 95) dX11_look_95 rfl (inc1 _) (by decide) ?_
                      show X _ [_, _, _, _, _, _, _, _] _ _ _ _
                      refine q_goto (tgt := 53) G (pc := 98) dX11_look_98 (by decide) ?_
                      have e1 : hvM P (whM P sl (pS P)) c (s + 1) = hvM P (whM P sl (pS P)) c s + 0 := by
                        show _ + _ = _
                        rw [show (whM P sl (pS P)) / 2 ^ s % 2 = 0 by omega, Nat.zero_mul]
                      have z := ih53 (s + 1) (by omega) (by omega)
                      rw [e1] at z
                      exact z
              exact L53 _ 0 (Nat.lt_succ_self _) (by omega)
        have hsS : s = pS P := by omega
        subst hsS
        rw [pcs_full (pS P) (by omega) _ (by omega) hW2]
        exact L40 _ 0 _ _ (Nat.lt_succ_self _) (by omega)
      · refine q_iload_n G (pc := 17) dX11_look_17 rfl ?_
        refine q_iload_n G (pc := 18) dX11_look_18 rfl ?_
        refine q_iload_n G (pc := 19) dX11_look_19 rfl ?_
        refine q_ishr G (pc := 20) dX11_look_20 ?_
        rw [shr_nI (by omega) (by omega)]
        refine q_iconst (v := nI 1) G (pc := 21) dX11_look_21 (by decide) ?_
        refine q_iand G (pc := 22) dX11_look_22 ?_
        rw [(show nI ((whM P sl (pS P)) / 2 ^ s) &&& nI 1 = nI ((whM P sl (pS P)) / 2 ^ s % 2) by rw [and_nI, Nat.and_one_is_mod])]
        refine q_iaddN G (pc := 23) dX11_look_23 ?_
        refine q_istore_n G (pc := 24) dX11_look_24 (by decide) ?_
        show X _ [_, _, _, _, _, _, _, _] _ _ _ _
        refine q_iincN G (pc := 25) dX11_look_25 rfl (inc1 _) (by decide) ?_
        show X _ [_, _, _, _, _, _, _, _] _ _ _ _
        refine q_goto (tgt := 9) G (pc := 28) dX11_look_28 (by decide) ?_
        exact ih9 (s + 1) (by omega) (by omega)
  exact L9 _ 0 (Nat.lt_succ_self _) (by omega)
set_option maxHeartbeats 2000000 in
theorem m_marked {d : Nat} (hd : 9 ≤ d) {hi : mm_HI} {τ : mm_T} {P : PG} {n : Nat} {f : Nat → Nat} {t K : Nat} {pn : Nat → Nat} {pf : Nat → Nat → Nat} {pt : Nat → Nat} {im : Nat → Option DK} {sl : List (Nat × Nat)} {N : Nat} {b : Nat → Nat} {tr : Int64} (hM : mS P n f t K pn pf pt im sl N b tr hi τ) {k s : Nat} (hk : k < 6) (hs : s < pS P) : wR d yX11_marked [.ref 106, .int (nI k), .int (nI s)] hi τ (fun v h t2 => v = some (.int (mkV P n f t s k).1) ∧ msc hi h ∧ t2 = tM τ (mkV P n f t s k).2) := by
  refine w_intro (by omega) M_X11_marked (Nat.le_of_ble_eq_true rfl) rfl ?_
  intro e X he G
  show X 0 [some (.ref (106)), some (.int (nI (k))), some (.int (nI (s))), none] [] hi τ 125
  obtain ⟨sw, hτ, hP, hRw, hV, hU, hI, hIV, hN, hNO, hT, hTr⟩ := id hM
  have hS6 : pS P ≤ 6 := hP.2.2.2.2.2.2.2.1
  have hL3 : pL P ≤ 3 := hP.2.2.2.2.2.2.1
  have hL1 : 1 ≤ pL P := hP.2.2.2.2.2.1
  have hW8 : (pW P).length ≤ 8 := hP.2.2.2.2.2.2.2.2.2.1
  have hn6 : n ≤ 6 := hRw.2.2.2.1
  have hfs : ∀ j, j < n → f j < pS P := hV.1.1
  have hV1 : rowV P n f := hV.1
  have ht6 := hRw.2.2.2.2.2
  have hk6 : k = 0 ∨ k = 1 ∨ k = 2 ∨ k = 3 ∨ k = 4 ∨ k = 5 := by omega
  rcases hk6 with rfl | rfl | rfl | rfl | rfl | rfl
  · refine q_aload_n G (pc := 0) dX11_marked_0 rfl ?_
    refine q_iload_n G (pc := 1) dX11_marked_1 rfl ?_
    refine q_cV1E G (pc := 2) dX11_marked_2 cv_X11_271 rfl (m_blanksOn (by omega) hM hs) (Nat.le_of_ble_eq_true rfl) ?_
    refine q_istore_n G (pc := 5) dX11_marked_5 (by decide) ?_
    show X _ [_, _, _, _] _ _ _ _
    refine q_aload_n G (pc := 6) dX11_marked_6 rfl ?_
    refine q_dup G (pc := 7) dX11_marked_7 rfl ?_
    refine q_getL G (pc := 8) dX11_marked_8 fl_X11_274_10 rfl ?_
    refine q_lconst G (pc := 11) dX11_marked_11 rfl ?_
    refine q_ladd G (pc := 12) dX11_marked_12 ?_
    refine q_putL G (pc := 13) dX11_marked_13 fl_X11_274_10 rfl ?_
    show X 16 _ _ _ (tM τ 1) _
    refine q_iload_n G (pc := 16) dX11_marked_16 rfl ?_
    refine q_iconst (v := nI 1) G (pc := 17) dX11_marked_17 (by decide) ?_
    refine q_icmp_eqN (tgt := 26) G (pc := 18) dX11_marked_18 (by decide) (by omega) (by omega) (fun c18 => absurd c18 (by decide)) (fun _ => ?_)
    refine q_iload_n G (pc := 21) dX11_marked_21 rfl ?_
    refine q_iconst (v := nI 3) G (pc := 22) dX11_marked_22 (by decide) ?_
    refine q_icmp_neN (tgt := 58) G (pc := 23) dX11_marked_23 (by decide) (by omega) (by omega) (fun _ => ?_) (fun c23 => absurd c23 (by decide))
    refine q_iload_n G (pc := 58) dX11_marked_58 rfl ?_
    refine q_iconst (v := nI 2) G (pc := 59) dX11_marked_59 (by decide) ?_
    refine q_icmp_eqN (tgt := 68) G (pc := 60) dX11_marked_60 (by decide) (by omega) (by omega) (fun c60 => absurd c60 (by decide)) (fun _ => ?_)
    refine q_iload_n G (pc := 63) dX11_marked_63 rfl ?_
    refine q_iconst (v := nI 4) G (pc := 64) dX11_marked_64 (by decide) ?_
    refine q_icmp_neN (tgt := 87) G (pc := 65) dX11_marked_65 (by decide) (by omega) (by omega) (fun _ => ?_) (fun c65 => absurd c65 (by decide))
    refine q_iload_n G (pc := 87) dX11_marked_87 rfl ?_
    refine q_iconst (v := nI 3) G (pc := 88) dX11_marked_88 (by decide) ?_
    refine q_icmp_neN (tgt := 108) G (pc := 89) dX11_marked_89 (by decide) (by omega) (by omega) (fun _ => ?_) (fun c89 => absurd c89 (by decide))
    refine q_iload_n G (pc := 108) dX11_marked_108 rfl ?_
    refine q_iconst (v := nI 4) G (pc := 109) dX11_marked_109 (by decide) ?_
    refine q_icmp_neN (tgt := 129) G (pc := 110) dX11_marked_110 (by decide) (by omega) (by omega) (fun _ => ?_) (fun c110 => absurd c110 (by decide))
    refine q_iload_n G (pc := 129) dX11_marked_129 rfl ?_
    refine q_iconst (v := nI 5) G (pc := 130) dX11_marked_130 (by decide) ?_
    refine q_icmp_neN (tgt := 153) G (pc := 131) dX11_marked_131 (by decide) (by omega) (by omega) (fun _ => ?_) (fun c131 => absurd c131 (by decide))
    refine q_iload_n G (pc := 153) dX11_marked_153 rfl ?_
    refine q_iret G (pc := 154) dX11_marked_154 (Or.inl rfl) ?_
    have et : (tM τ 1) = tM τ 1 := rfl
    exact ⟨rfl, msc.rf, et⟩
  · refine q_aload_n G (pc := 0) dX11_marked_0 rfl ?_
    refine q_iload_n G (pc := 1) dX11_marked_1 rfl ?_
    refine q_cV1E G (pc := 2) dX11_marked_2 cv_X11_271 rfl (m_blanksOn (by omega) hM hs) (Nat.le_of_ble_eq_true rfl) ?_
    refine q_istore_n G (pc := 5) dX11_marked_5 (by decide) ?_
    show X _ [_, _, _, _] _ _ _ _
    refine q_aload_n G (pc := 6) dX11_marked_6 rfl ?_
    refine q_dup G (pc := 7) dX11_marked_7 rfl ?_
    refine q_getL G (pc := 8) dX11_marked_8 fl_X11_274_10 rfl ?_
    refine q_lconst G (pc := 11) dX11_marked_11 rfl ?_
    refine q_ladd G (pc := 12) dX11_marked_12 ?_
    refine q_putL G (pc := 13) dX11_marked_13 fl_X11_274_10 rfl ?_
    show X 16 _ _ _ (tM τ 1) _
    refine q_iload_n G (pc := 16) dX11_marked_16 rfl ?_
    refine q_iconst (v := nI 1) G (pc := 17) dX11_marked_17 (by decide) ?_
    refine q_icmp_eqN (tgt := 26) G (pc := 18) dX11_marked_18 (by decide) (by omega) (by omega) (fun _ => ?_) (fun c18 => absurd c18 (by decide))
    refine q_iload_n G (pc := 26) dX11_marked_26 rfl ?_
    refine q_aload_n G (pc := 27) dX11_marked_27 rfl ?_
    refine q_getI (v := nI (t)) G (pc := 28) dX11_marked_28 fl_X11_133_10 (by decide) rfl hRw.2.1 ?_
    refine q_iload_n G (pc := 31) dX11_marked_31 rfl ?_
    refine q_cS2B G (pc := 32) dX11_marked_32 cs_X11_142 (m_has (by omega) (by omega) (by omega)) (Nat.le_of_ble_eq_true rfl) (fun c32 => ?_) (fun c32 => ?_)
    · refine q_if_eqN (tgt := 43) G (pc := 35) dX11_marked_35 (by decide) (by omega) (fun c35 => absurd c35 (by decide)) (fun _ => ?_)
      refine q_bipush (v := nI 10) G (pc := 38) dX11_marked_38 (by decide) ?_
      refine q_goto (tgt := 44) G (pc := 40) dX11_marked_40 (by decide) ?_
      refine q_iaddN G (pc := 44) dX11_marked_44 ?_
      refine q_istore_n G (pc := 45) dX11_marked_45 (by decide) ?_
      show X _ [_, _, _, _] _ _ _ _
      refine q_aload_n G (pc := 46) dX11_marked_46 rfl ?_
      refine q_dup G (pc := 47) dX11_marked_47 rfl ?_
      refine q_getL G (pc := 48) dX11_marked_48 fl_X11_274_10 rfl ?_
      refine q_ldc2 G (pc := 51) dX11_marked_51 kc_X11_278 ?_
      refine q_ladd G (pc := 54) dX11_marked_54 ?_
      refine q_putL G (pc := 55) dX11_marked_55 fl_X11_274_10 rfl ?_
      show X 58 _ _ _ (tM (tM τ 1) 10) _
      refine q_iload_n G (pc := 58) dX11_marked_58 rfl ?_
      refine q_iconst (v := nI 2) G (pc := 59) dX11_marked_59 (by decide) ?_
      refine q_icmp_eqN (tgt := 68) G (pc := 60) dX11_marked_60 (by decide) (by omega) (by omega) (fun c60 => absurd c60 (by decide)) (fun _ => ?_)
      refine q_iload_n G (pc := 63) dX11_marked_63 rfl ?_
      refine q_iconst (v := nI 4) G (pc := 64) dX11_marked_64 (by decide) ?_
      refine q_icmp_neN (tgt := 87) G (pc := 65) dX11_marked_65 (by decide) (by omega) (by omega) (fun _ => ?_) (fun c65 => absurd c65 (by decide))
      refine q_iload_n G (pc := 87) dX11_marked_87 rfl ?_
      refine q_iconst (v := nI 3) G (pc := 88) dX11_marked_88 (by decide) ?_
      refine q_icmp_neN (tgt := 108) G (pc := 89) dX11_marked_89 (by decide) (by omega) (by omega) (fun _ => ?_) (fun c89 => absurd c89 (by decide))
      refine q_iload_n G (pc := 108) dX11_marked_108 rfl ?_
      refine q_iconst (v := nI 4) G (pc := 109) dX11_marked_109 (by decide) ?_
      refine q_icmp_neN (tgt := 129) G (pc := 110) dX11_marked_110 (by decide) (by omega) (by omega) (fun _ => ?_) (fun c110 => absurd c110 (by decide))
      refine q_iload_n G (pc := 129) dX11_marked_129 rfl ?_
      refine q_iconst (v := nI 5) G (pc := 130) dX11_marked_130 (by decide) ?_
      refine q_icmp_neN (tgt := 153) G (pc := 131) dX11_marked_131 (by decide) (by omega) (by omega) (fun _ => ?_) (fun c131 => absurd c131 (by decide))
      refine q_iload_n G (pc := 153) dX11_marked_153 rfl ?_
      refine q_iret G (pc := 154) dX11_marked_154 (Or.inl rfl) ?_
      have et : (tM (tM τ 1) 10) = tM τ 11 := by
        rw [show tM (tM τ 1) 10 = tM τ 11 from tM_add τ 1 10]
      refine ⟨?_, msc.rf, et⟩
      show some (Value.int (nI _)) = some (Value.int (nI _))
      rw [c32]
    · refine q_if_eqN (tgt := 43) G (pc := 35) dX11_marked_35 (by decide) (by omega) (fun _ => ?_) (fun c35 => absurd c35 (by decide))
      refine q_iconst (v := nI 0) G (pc := 43) dX11_marked_43 (by decide) ?_
      refine q_iaddN G (pc := 44) dX11_marked_44 ?_
      refine q_istore_n G (pc := 45) dX11_marked_45 (by decide) ?_
      show X _ [_, _, _, _] _ _ _ _
      refine q_aload_n G (pc := 46) dX11_marked_46 rfl ?_
      refine q_dup G (pc := 47) dX11_marked_47 rfl ?_
      refine q_getL G (pc := 48) dX11_marked_48 fl_X11_274_10 rfl ?_
      refine q_ldc2 G (pc := 51) dX11_marked_51 kc_X11_278 ?_
      refine q_ladd G (pc := 54) dX11_marked_54 ?_
      refine q_putL G (pc := 55) dX11_marked_55 fl_X11_274_10 rfl ?_
      show X 58 _ _ _ (tM (tM τ 1) 10) _
      refine q_iload_n G (pc := 58) dX11_marked_58 rfl ?_
      refine q_iconst (v := nI 2) G (pc := 59) dX11_marked_59 (by decide) ?_
      refine q_icmp_eqN (tgt := 68) G (pc := 60) dX11_marked_60 (by decide) (by omega) (by omega) (fun c60 => absurd c60 (by decide)) (fun _ => ?_)
      refine q_iload_n G (pc := 63) dX11_marked_63 rfl ?_
      refine q_iconst (v := nI 4) G (pc := 64) dX11_marked_64 (by decide) ?_
      refine q_icmp_neN (tgt := 87) G (pc := 65) dX11_marked_65 (by decide) (by omega) (by omega) (fun _ => ?_) (fun c65 => absurd c65 (by decide))
      refine q_iload_n G (pc := 87) dX11_marked_87 rfl ?_
      refine q_iconst (v := nI 3) G (pc := 88) dX11_marked_88 (by decide) ?_
      refine q_icmp_neN (tgt := 108) G (pc := 89) dX11_marked_89 (by decide) (by omega) (by omega) (fun _ => ?_) (fun c89 => absurd c89 (by decide))
      refine q_iload_n G (pc := 108) dX11_marked_108 rfl ?_
      refine q_iconst (v := nI 4) G (pc := 109) dX11_marked_109 (by decide) ?_
      refine q_icmp_neN (tgt := 129) G (pc := 110) dX11_marked_110 (by decide) (by omega) (by omega) (fun _ => ?_) (fun c110 => absurd c110 (by decide))
      refine q_iload_n G (pc := 129) dX11_marked_129 rfl ?_
      refine q_iconst (v := nI 5) G (pc := 130) dX11_marked_130 (by decide) ?_
      refine q_icmp_neN (tgt := 153) G (pc := 131) dX11_marked_131 (by decide) (by omega) (by omega) (fun _ => ?_) (fun c131 => absurd c131 (by decide))
      refine q_iload_n G (pc := 153) dX11_marked_153 rfl ?_
      refine q_iret G (pc := 154) dX11_marked_154 (Or.inl rfl) ?_
      have et : (tM (tM τ 1) 10) = tM τ 11 := by
        rw [show tM (tM τ 1) 10 = tM τ 11 from tM_add τ 1 10]
      refine ⟨?_, msc.rf, et⟩
      show some (Value.int (nI _)) = some (Value.int (nI _))
      rw [show t / 2 ^ s % 2 = 0 by have := bit_lt2 t s; omega]
  · refine q_aload_n G (pc := 0) dX11_marked_0 rfl ?_
    refine q_iload_n G (pc := 1) dX11_marked_1 rfl ?_
    refine q_cV1E G (pc := 2) dX11_marked_2 cv_X11_271 rfl (m_blanksOn (by omega) hM hs) (Nat.le_of_ble_eq_true rfl) ?_
    refine q_istore_n G (pc := 5) dX11_marked_5 (by decide) ?_
    show X _ [_, _, _, _] _ _ _ _
    refine q_aload_n G (pc := 6) dX11_marked_6 rfl ?_
    refine q_dup G (pc := 7) dX11_marked_7 rfl ?_
    refine q_getL G (pc := 8) dX11_marked_8 fl_X11_274_10 rfl ?_
    refine q_lconst G (pc := 11) dX11_marked_11 rfl ?_
    refine q_ladd G (pc := 12) dX11_marked_12 ?_
    refine q_putL G (pc := 13) dX11_marked_13 fl_X11_274_10 rfl ?_
    show X 16 _ _ _ (tM τ 1) _
    refine q_iload_n G (pc := 16) dX11_marked_16 rfl ?_
    refine q_iconst (v := nI 1) G (pc := 17) dX11_marked_17 (by decide) ?_
    refine q_icmp_eqN (tgt := 26) G (pc := 18) dX11_marked_18 (by decide) (by omega) (by omega) (fun c18 => absurd c18 (by decide)) (fun _ => ?_)
    refine q_iload_n G (pc := 21) dX11_marked_21 rfl ?_
    refine q_iconst (v := nI 3) G (pc := 22) dX11_marked_22 (by decide) ?_
    refine q_icmp_neN (tgt := 58) G (pc := 23) dX11_marked_23 (by decide) (by omega) (by omega) (fun _ => ?_) (fun c23 => absurd c23 (by decide))
    refine q_iload_n G (pc := 58) dX11_marked_58 rfl ?_
    refine q_iconst (v := nI 2) G (pc := 59) dX11_marked_59 (by decide) ?_
    refine q_icmp_eqN (tgt := 68) G (pc := 60) dX11_marked_60 (by decide) (by omega) (by omega) (fun _ => ?_) (fun c60 => absurd c60 (by decide))
    refine q_iload_n G (pc := 68) dX11_marked_68 rfl ?_
    refine q_aload_n G (pc := 69) dX11_marked_69 rfl ?_
    refine q_getI (v := nI (n)) G (pc := 70) dX11_marked_70 fl_X11_75_10 (by decide) rfl hRw.1 ?_
    refine q_isub G (pc := 73) dX11_marked_73 ?_
    refine q_istore_n G (pc := 74) dX11_marked_74 (by decide) ?_
    show X _ [_, _, _, _] _ _ _ _
    refine q_aload_n G (pc := 75) dX11_marked_75 rfl ?_
    refine q_dup G (pc := 76) dX11_marked_76 rfl ?_
    refine q_getL G (pc := 77) dX11_marked_77 fl_X11_274_10 rfl ?_
    refine q_ldc2 G (pc := 80) dX11_marked_80 kc_X11_280 ?_
    refine q_ladd G (pc := 83) dX11_marked_83 ?_
    refine q_putL G (pc := 84) dX11_marked_84 fl_X11_274_10 rfl ?_
    show X 87 _ _ _ (tM (tM τ 1) 100) _
    refine q_iload_n G (pc := 87) dX11_marked_87 rfl ?_
    refine q_iconst (v := nI 3) G (pc := 88) dX11_marked_88 (by decide) ?_
    refine q_icmp_neN (tgt := 108) G (pc := 89) dX11_marked_89 (by decide) (by omega) (by omega) (fun _ => ?_) (fun c89 => absurd c89 (by decide))
    refine q_iload_n G (pc := 108) dX11_marked_108 rfl ?_
    refine q_iconst (v := nI 4) G (pc := 109) dX11_marked_109 (by decide) ?_
    refine q_icmp_neN (tgt := 129) G (pc := 110) dX11_marked_110 (by decide) (by omega) (by omega) (fun _ => ?_) (fun c110 => absurd c110 (by decide))
    refine q_iload_n G (pc := 129) dX11_marked_129 rfl ?_
    refine q_iconst (v := nI 5) G (pc := 130) dX11_marked_130 (by decide) ?_
    refine q_icmp_neN (tgt := 153) G (pc := 131) dX11_marked_131 (by decide) (by omega) (by omega) (fun _ => ?_) (fun c131 => absurd c131 (by decide))
    refine q_iload_n G (pc := 153) dX11_marked_153 rfl ?_
    refine q_iret G (pc := 154) dX11_marked_154 (Or.inl rfl) ?_
    have et : (tM (tM τ 1) 100) = tM τ 101 := by
      rw [show tM (tM τ 1) 100 = tM τ 101 from tM_add τ 1 100]
    exact ⟨rfl, msc.rf, et⟩
  · refine q_aload_n G (pc := 0) dX11_marked_0 rfl ?_
    refine q_iload_n G (pc := 1) dX11_marked_1 rfl ?_
    refine q_cV1E G (pc := 2) dX11_marked_2 cv_X11_271 rfl (m_blanksOn (by omega) hM hs) (Nat.le_of_ble_eq_true rfl) ?_
    refine q_istore_n G (pc := 5) dX11_marked_5 (by decide) ?_
    show X _ [_, _, _, _] _ _ _ _
    refine q_aload_n G (pc := 6) dX11_marked_6 rfl ?_
    refine q_dup G (pc := 7) dX11_marked_7 rfl ?_
    refine q_getL G (pc := 8) dX11_marked_8 fl_X11_274_10 rfl ?_
    refine q_lconst G (pc := 11) dX11_marked_11 rfl ?_
    refine q_ladd G (pc := 12) dX11_marked_12 ?_
    refine q_putL G (pc := 13) dX11_marked_13 fl_X11_274_10 rfl ?_
    show X 16 _ _ _ (tM τ 1) _
    refine q_iload_n G (pc := 16) dX11_marked_16 rfl ?_
    refine q_iconst (v := nI 1) G (pc := 17) dX11_marked_17 (by decide) ?_
    refine q_icmp_eqN (tgt := 26) G (pc := 18) dX11_marked_18 (by decide) (by omega) (by omega) (fun c18 => absurd c18 (by decide)) (fun _ => ?_)
    refine q_iload_n G (pc := 21) dX11_marked_21 rfl ?_
    refine q_iconst (v := nI 3) G (pc := 22) dX11_marked_22 (by decide) ?_
    refine q_icmp_neN (tgt := 58) G (pc := 23) dX11_marked_23 (by decide) (by omega) (by omega) (fun c23 => absurd c23 (by decide)) (fun _ => ?_)
    refine q_iload_n G (pc := 26) dX11_marked_26 rfl ?_
    refine q_aload_n G (pc := 27) dX11_marked_27 rfl ?_
    refine q_getI (v := nI (t)) G (pc := 28) dX11_marked_28 fl_X11_133_10 (by decide) rfl hRw.2.1 ?_
    refine q_iload_n G (pc := 31) dX11_marked_31 rfl ?_
    refine q_cS2B G (pc := 32) dX11_marked_32 cs_X11_142 (m_has (by omega) (by omega) (by omega)) (Nat.le_of_ble_eq_true rfl) (fun c32 => ?_) (fun c32 => ?_)
    · refine q_if_eqN (tgt := 43) G (pc := 35) dX11_marked_35 (by decide) (by omega) (fun c35 => absurd c35 (by decide)) (fun _ => ?_)
      refine q_bipush (v := nI 10) G (pc := 38) dX11_marked_38 (by decide) ?_
      refine q_goto (tgt := 44) G (pc := 40) dX11_marked_40 (by decide) ?_
      refine q_iaddN G (pc := 44) dX11_marked_44 ?_
      refine q_istore_n G (pc := 45) dX11_marked_45 (by decide) ?_
      show X _ [_, _, _, _] _ _ _ _
      refine q_aload_n G (pc := 46) dX11_marked_46 rfl ?_
      refine q_dup G (pc := 47) dX11_marked_47 rfl ?_
      refine q_getL G (pc := 48) dX11_marked_48 fl_X11_274_10 rfl ?_
      refine q_ldc2 G (pc := 51) dX11_marked_51 kc_X11_278 ?_
      refine q_ladd G (pc := 54) dX11_marked_54 ?_
      refine q_putL G (pc := 55) dX11_marked_55 fl_X11_274_10 rfl ?_
      show X 58 _ _ _ (tM (tM τ 1) 10) _
      refine q_iload_n G (pc := 58) dX11_marked_58 rfl ?_
      refine q_iconst (v := nI 2) G (pc := 59) dX11_marked_59 (by decide) ?_
      refine q_icmp_eqN (tgt := 68) G (pc := 60) dX11_marked_60 (by decide) (by omega) (by omega) (fun c60 => absurd c60 (by decide)) (fun _ => ?_)
      refine q_iload_n G (pc := 63) dX11_marked_63 rfl ?_
      refine q_iconst (v := nI 4) G (pc := 64) dX11_marked_64 (by decide) ?_
      refine q_icmp_neN (tgt := 87) G (pc := 65) dX11_marked_65 (by decide) (by omega) (by omega) (fun _ => ?_) (fun c65 => absurd c65 (by decide))
      refine q_iload_n G (pc := 87) dX11_marked_87 rfl ?_
      refine q_iconst (v := nI 3) G (pc := 88) dX11_marked_88 (by decide) ?_
      refine q_icmp_neN (tgt := 108) G (pc := 89) dX11_marked_89 (by decide) (by omega) (by omega) (fun c89 => absurd c89 (by decide)) (fun _ => ?_)
      refine q_iload_n G (pc := 92) dX11_marked_92 rfl ?_
      refine q_iconst (v := nI 2) G (pc := 93) dX11_marked_93 (by decide) ?_
      refine q_imulN G (pc := 94) dX11_marked_94 ?_
      refine q_istore_n G (pc := 95) dX11_marked_95 (by decide) ?_
      show X _ [_, _, _, _] _ _ _ _
      refine q_aload_n G (pc := 96) dX11_marked_96 rfl ?_
      refine q_dup G (pc := 97) dX11_marked_97 rfl ?_
      refine q_getL G (pc := 98) dX11_marked_98 fl_X11_274_10 rfl ?_
      refine q_ldc2 G (pc := 101) dX11_marked_101 kc_X11_282 ?_
      refine q_ladd G (pc := 104) dX11_marked_104 ?_
      refine q_putL G (pc := 105) dX11_marked_105 fl_X11_274_10 rfl ?_
      show X 108 _ _ _ (tM (tM (tM τ 1) 10) 1000) _
      refine q_iload_n G (pc := 108) dX11_marked_108 rfl ?_
      refine q_iconst (v := nI 4) G (pc := 109) dX11_marked_109 (by decide) ?_
      refine q_icmp_neN (tgt := 129) G (pc := 110) dX11_marked_110 (by decide) (by omega) (by omega) (fun _ => ?_) (fun c110 => absurd c110 (by decide))
      refine q_iload_n G (pc := 129) dX11_marked_129 rfl ?_
      refine q_iconst (v := nI 5) G (pc := 130) dX11_marked_130 (by decide) ?_
      refine q_icmp_neN (tgt := 153) G (pc := 131) dX11_marked_131 (by decide) (by omega) (by omega) (fun _ => ?_) (fun c131 => absurd c131 (by decide))
      refine q_iload_n G (pc := 153) dX11_marked_153 rfl ?_
      refine q_iret G (pc := 154) dX11_marked_154 (Or.inl rfl) ?_
      have et : (tM (tM (tM τ 1) 10) 1000) = tM τ 1011 := by
        rw [show tM (tM τ 1) 10 = tM τ 11 from tM_add τ 1 10]
        rw [show tM (tM τ 11) 1000 = tM τ 1011 from tM_add τ 11 1000]
      refine ⟨?_, msc.rf, et⟩
      show some (Value.int (nI _)) = some (Value.int (nI _))
      rw [c32]
    · refine q_if_eqN (tgt := 43) G (pc := 35) dX11_marked_35 (by decide) (by omega) (fun _ => ?_) (fun c35 => absurd c35 (by decide))
      refine q_iconst (v := nI 0) G (pc := 43) dX11_marked_43 (by decide) ?_
      refine q_iaddN G (pc := 44) dX11_marked_44 ?_
      refine q_istore_n G (pc := 45) dX11_marked_45 (by decide) ?_
      show X _ [_, _, _, _] _ _ _ _
      refine q_aload_n G (pc := 46) dX11_marked_46 rfl ?_
      refine q_dup G (pc := 47) dX11_marked_47 rfl ?_
      refine q_getL G (pc := 48) dX11_marked_48 fl_X11_274_10 rfl ?_
      refine q_ldc2 G (pc := 51) dX11_marked_51 kc_X11_278 ?_
      refine q_ladd G (pc := 54) dX11_marked_54 ?_
      refine q_putL G (pc := 55) dX11_marked_55 fl_X11_274_10 rfl ?_
      show X 58 _ _ _ (tM (tM τ 1) 10) _
      refine q_iload_n G (pc := 58) dX11_marked_58 rfl ?_
      refine q_iconst (v := nI 2) G (pc := 59) dX11_marked_59 (by decide) ?_
      refine q_icmp_eqN (tgt := 68) G (pc := 60) dX11_marked_60 (by decide) (by omega) (by omega) (fun c60 => absurd c60 (by decide)) (fun _ => ?_)
      refine q_iload_n G (pc := 63) dX11_marked_63 rfl ?_
      refine q_iconst (v := nI 4) G (pc := 64) dX11_marked_64 (by decide) ?_
      refine q_icmp_neN (tgt := 87) G (pc := 65) dX11_marked_65 (by decide) (by omega) (by omega) (fun _ => ?_) (fun c65 => absurd c65 (by decide))
      refine q_iload_n G (pc := 87) dX11_marked_87 rfl ?_
      refine q_iconst (v := nI 3) G (pc := 88) dX11_marked_88 (by decide) ?_
      refine q_icmp_neN (tgt := 108) G (pc := 89) dX11_marked_89 (by decide) (by omega) (by omega) (fun c89 => absurd c89 (by decide)) (fun _ => ?_)
      refine q_iload_n G (pc := 92) dX11_marked_92 rfl ?_
      refine q_iconst (v := nI 2) G (pc := 93) dX11_marked_93 (by decide) ?_
      refine q_imulN G (pc := 94) dX11_marked_94 ?_
      refine q_istore_n G (pc := 95) dX11_marked_95 (by decide) ?_
      show X _ [_, _, _, _] _ _ _ _
      refine q_aload_n G (pc := 96) dX11_marked_96 rfl ?_
      refine q_dup G (pc := 97) dX11_marked_97 rfl ?_
      refine q_getL G (pc := 98) dX11_marked_98 fl_X11_274_10 rfl ?_
      refine q_ldc2 G (pc := 101) dX11_marked_101 kc_X11_282 ?_
      refine q_ladd G (pc := 104) dX11_marked_104 ?_
      refine q_putL G (pc := 105) dX11_marked_105 fl_X11_274_10 rfl ?_
      show X 108 _ _ _ (tM (tM (tM τ 1) 10) 1000) _
      refine q_iload_n G (pc := 108) dX11_marked_108 rfl ?_
      refine q_iconst (v := nI 4) G (pc := 109) dX11_marked_109 (by decide) ?_
      refine q_icmp_neN (tgt := 129) G (pc := 110) dX11_marked_110 (by decide) (by omega) (by omega) (fun _ => ?_) (fun c110 => absurd c110 (by decide))
      refine q_iload_n G (pc := 129) dX11_marked_129 rfl ?_
      refine q_iconst (v := nI 5) G (pc := 130) dX11_marked_130 (by decide) ?_
      refine q_icmp_neN (tgt := 153) G (pc := 131) dX11_marked_131 (by decide) (by omega) (by omega) (fun _ => ?_) (fun c131 => absurd c131 (by decide))
      refine q_iload_n G (pc := 153) dX11_marked_153 rfl ?_
      refine q_iret G (pc := 154) dX11_marked_154 (Or.inl rfl) ?_
      have et : (tM (tM (tM τ 1) 10) 1000) = tM τ 1011 := by
        rw [show tM (tM τ 1) 10 = tM τ 11 from tM_add τ 1 10]
        rw [show tM (tM τ 11) 1000 = tM τ 1011 from tM_add τ 11 1000]
      refine ⟨?_, msc.rf, et⟩
      show some (Value.int (nI _)) = some (Value.int (nI _))
      rw [show t / 2 ^ s % 2 = 0 by have := bit_lt2 t s; omega]
  · refine q_aload_n G (pc := 0) dX11_marked_0 rfl ?_
    refine q_iload_n G (pc := 1) dX11_marked_1 rfl ?_
    refine q_cV1E G (pc := 2) dX11_marked_2 cv_X11_271 rfl (m_blanksOn (by omega) hM hs) (Nat.le_of_ble_eq_true rfl) ?_
    refine q_istore_n G (pc := 5) dX11_marked_5 (by decide) ?_
    show X _ [_, _, _, _] _ _ _ _
    refine q_aload_n G (pc := 6) dX11_marked_6 rfl ?_
    refine q_dup G (pc := 7) dX11_marked_7 rfl ?_
    refine q_getL G (pc := 8) dX11_marked_8 fl_X11_274_10 rfl ?_
    refine q_lconst G (pc := 11) dX11_marked_11 rfl ?_
    refine q_ladd G (pc := 12) dX11_marked_12 ?_
    refine q_putL G (pc := 13) dX11_marked_13 fl_X11_274_10 rfl ?_
    show X 16 _ _ _ (tM τ 1) _
    refine q_iload_n G (pc := 16) dX11_marked_16 rfl ?_
    refine q_iconst (v := nI 1) G (pc := 17) dX11_marked_17 (by decide) ?_
    refine q_icmp_eqN (tgt := 26) G (pc := 18) dX11_marked_18 (by decide) (by omega) (by omega) (fun c18 => absurd c18 (by decide)) (fun _ => ?_)
    refine q_iload_n G (pc := 21) dX11_marked_21 rfl ?_
    refine q_iconst (v := nI 3) G (pc := 22) dX11_marked_22 (by decide) ?_
    refine q_icmp_neN (tgt := 58) G (pc := 23) dX11_marked_23 (by decide) (by omega) (by omega) (fun _ => ?_) (fun c23 => absurd c23 (by decide))
    refine q_iload_n G (pc := 58) dX11_marked_58 rfl ?_
    refine q_iconst (v := nI 2) G (pc := 59) dX11_marked_59 (by decide) ?_
    refine q_icmp_eqN (tgt := 68) G (pc := 60) dX11_marked_60 (by decide) (by omega) (by omega) (fun c60 => absurd c60 (by decide)) (fun _ => ?_)
    refine q_iload_n G (pc := 63) dX11_marked_63 rfl ?_
    refine q_iconst (v := nI 4) G (pc := 64) dX11_marked_64 (by decide) ?_
    refine q_icmp_neN (tgt := 87) G (pc := 65) dX11_marked_65 (by decide) (by omega) (by omega) (fun c65 => absurd c65 (by decide)) (fun _ => ?_)
    refine q_iload_n G (pc := 68) dX11_marked_68 rfl ?_
    refine q_aload_n G (pc := 69) dX11_marked_69 rfl ?_
    refine q_getI (v := nI (n)) G (pc := 70) dX11_marked_70 fl_X11_75_10 (by decide) rfl hRw.1 ?_
    refine q_isub G (pc := 73) dX11_marked_73 ?_
    refine q_istore_n G (pc := 74) dX11_marked_74 (by decide) ?_
    show X _ [_, _, _, _] _ _ _ _
    refine q_aload_n G (pc := 75) dX11_marked_75 rfl ?_
    refine q_dup G (pc := 76) dX11_marked_76 rfl ?_
    refine q_getL G (pc := 77) dX11_marked_77 fl_X11_274_10 rfl ?_
    refine q_ldc2 G (pc := 80) dX11_marked_80 kc_X11_280 ?_
    refine q_ladd G (pc := 83) dX11_marked_83 ?_
    refine q_putL G (pc := 84) dX11_marked_84 fl_X11_274_10 rfl ?_
    show X 87 _ _ _ (tM (tM τ 1) 100) _
    refine q_iload_n G (pc := 87) dX11_marked_87 rfl ?_
    refine q_iconst (v := nI 3) G (pc := 88) dX11_marked_88 (by decide) ?_
    refine q_icmp_neN (tgt := 108) G (pc := 89) dX11_marked_89 (by decide) (by omega) (by omega) (fun _ => ?_) (fun c89 => absurd c89 (by decide))
    refine q_iload_n G (pc := 108) dX11_marked_108 rfl ?_
    refine q_iconst (v := nI 4) G (pc := 109) dX11_marked_109 (by decide) ?_
    refine q_icmp_neN (tgt := 129) G (pc := 110) dX11_marked_110 (by decide) (by omega) (by omega) (fun c110 => absurd c110 (by decide)) (fun _ => ?_)
    refine q_iload_n G (pc := 113) dX11_marked_113 rfl ?_
    refine q_iload_n G (pc := 114) dX11_marked_114 rfl ?_
    refine q_iadd G (pc := 115) dX11_marked_115 ?_
    refine q_istore_n G (pc := 116) dX11_marked_116 (by decide) ?_
    show X _ [_, _, _, _] _ _ _ _
    refine q_aload_n G (pc := 117) dX11_marked_117 rfl ?_
    refine q_dup G (pc := 118) dX11_marked_118 rfl ?_
    refine q_getL G (pc := 119) dX11_marked_119 fl_X11_274_10 rfl ?_
    refine q_ldc2 G (pc := 122) dX11_marked_122 kc_X11_284 ?_
    refine q_ladd G (pc := 125) dX11_marked_125 ?_
    refine q_putL G (pc := 126) dX11_marked_126 fl_X11_274_10 rfl ?_
    show X 129 _ _ _ (tM (tM (tM τ 1) 100) 10000) _
    refine q_iload_n G (pc := 129) dX11_marked_129 rfl ?_
    refine q_iconst (v := nI 5) G (pc := 130) dX11_marked_130 (by decide) ?_
    refine q_icmp_neN (tgt := 153) G (pc := 131) dX11_marked_131 (by decide) (by omega) (by omega) (fun _ => ?_) (fun c131 => absurd c131 (by decide))
    refine q_iload_n G (pc := 153) dX11_marked_153 rfl ?_
    refine q_iret G (pc := 154) dX11_marked_154 (Or.inl rfl) ?_
    have et : (tM (tM (tM τ 1) 100) 10000) = tM τ 10101 := by
      rw [show tM (tM τ 1) 100 = tM τ 101 from tM_add τ 1 100]
      rw [show tM (tM τ 101) 10000 = tM τ 10101 from tM_add τ 101 10000]
    exact ⟨rfl, msc.rf, et⟩
  · refine q_aload_n G (pc := 0) dX11_marked_0 rfl ?_
    refine q_iload_n G (pc := 1) dX11_marked_1 rfl ?_
    refine q_cV1E G (pc := 2) dX11_marked_2 cv_X11_271 rfl (m_blanksOn (by omega) hM hs) (Nat.le_of_ble_eq_true rfl) ?_
    refine q_istore_n G (pc := 5) dX11_marked_5 (by decide) ?_
    show X _ [_, _, _, _] _ _ _ _
    refine q_aload_n G (pc := 6) dX11_marked_6 rfl ?_
    refine q_dup G (pc := 7) dX11_marked_7 rfl ?_
    refine q_getL G (pc := 8) dX11_marked_8 fl_X11_274_10 rfl ?_
    refine q_lconst G (pc := 11) dX11_marked_11 rfl ?_
    refine q_ladd G (pc := 12) dX11_marked_12 ?_
    refine q_putL G (pc := 13) dX11_marked_13 fl_X11_274_10 rfl ?_
    show X 16 _ _ _ (tM τ 1) _
    refine q_iload_n G (pc := 16) dX11_marked_16 rfl ?_
    refine q_iconst (v := nI 1) G (pc := 17) dX11_marked_17 (by decide) ?_
    refine q_icmp_eqN (tgt := 26) G (pc := 18) dX11_marked_18 (by decide) (by omega) (by omega) (fun c18 => absurd c18 (by decide)) (fun _ => ?_)
    refine q_iload_n G (pc := 21) dX11_marked_21 rfl ?_
    refine q_iconst (v := nI 3) G (pc := 22) dX11_marked_22 (by decide) ?_
    refine q_icmp_neN (tgt := 58) G (pc := 23) dX11_marked_23 (by decide) (by omega) (by omega) (fun _ => ?_) (fun c23 => absurd c23 (by decide))
    refine q_iload_n G (pc := 58) dX11_marked_58 rfl ?_
    refine q_iconst (v := nI 2) G (pc := 59) dX11_marked_59 (by decide) ?_
    refine q_icmp_eqN (tgt := 68) G (pc := 60) dX11_marked_60 (by decide) (by omega) (by omega) (fun c60 => absurd c60 (by decide)) (fun _ => ?_)
    refine q_iload_n G (pc := 63) dX11_marked_63 rfl ?_
    refine q_iconst (v := nI 4) G (pc := 64) dX11_marked_64 (by decide) ?_
    refine q_icmp_neN (tgt := 87) G (pc := 65) dX11_marked_65 (by decide) (by omega) (by omega) (fun _ => ?_) (fun c65 => absurd c65 (by decide))
    refine q_iload_n G (pc := 87) dX11_marked_87 rfl ?_
    refine q_iconst (v := nI 3) G (pc := 88) dX11_marked_88 (by decide) ?_
    refine q_icmp_neN (tgt := 108) G (pc := 89) dX11_marked_89 (by decide) (by omega) (by omega) (fun _ => ?_) (fun c89 => absurd c89 (by decide))
    refine q_iload_n G (pc := 108) dX11_marked_108 rfl ?_
    refine q_iconst (v := nI 4) G (pc := 109) dX11_marked_109 (by decide) ?_
    refine q_icmp_neN (tgt := 129) G (pc := 110) dX11_marked_110 (by decide) (by omega) (by omega) (fun _ => ?_) (fun c110 => absurd c110 (by decide))
    refine q_iload_n G (pc := 129) dX11_marked_129 rfl ?_
    refine q_iconst (v := nI 5) G (pc := 130) dX11_marked_130 (by decide) ?_
    refine q_icmp_neN (tgt := 153) G (pc := 131) dX11_marked_131 (by decide) (by omega) (by omega) (fun c131 => absurd c131 (by decide)) (fun _ => ?_)
    refine q_iload_n G (pc := 134) dX11_marked_134 rfl ?_
    refine q_aload_n G (pc := 135) dX11_marked_135 rfl ?_
    refine q_cV0I G (pc := 136) dX11_marked_136 cv_X11_252 rfl (m_rightRunsNow (by omega) (hM.tr 1)) (Nat.le_of_ble_eq_true rfl) ?_
    intro xa hk hx
    obtain ⟨rfl, x5⟩ := hx
    refine q_iaddN G (pc := 139) dX11_marked_139 ?_
    refine q_istore_n G (pc := 140) dX11_marked_140 (by decide) ?_
    show X _ [_, _, _, _] _ _ _ _
    refine q_aload_n G (pc := 141) dX11_marked_141 rfl ?_
    refine q_dup G (pc := 142) dX11_marked_142 rfl ?_
    refine q_getL G (pc := 143) dX11_marked_143 fl_X11_274_10 rfl ?_
    refine q_ldc2 G (pc := 146) dX11_marked_146 kc_X11_286 ?_
    refine q_ladd G (pc := 149) dX11_marked_149 ?_
    refine q_putL G (pc := 150) dX11_marked_150 fl_X11_274_10 rfl ?_
    show X 153 _ _ _ (tM (tM τ 1) 100000) _
    refine q_iload_n G (pc := 153) dX11_marked_153 rfl ?_
    refine q_iret G (pc := 154) dX11_marked_154 (Or.inl rfl) ?_
    have et : (tM (tM τ 1) 100000) = tM τ 100001 := by
      rw [show tM (tM τ 1) 100000 = tM τ 100001 from tM_add τ 1 100000]
    exact ⟨rfl, x5, et⟩
set_option maxHeartbeats 2000000 in
theorem m_mark {d : Nat} (hd : 10 ≤ d) {hi : mm_HI} {τ : mm_T} {P : PG} {n : Nat} {f : Nat → Nat} {t K : Nat} {pn : Nat → Nat} {pf : Nat → Nat → Nat} {pt : Nat → Nat} {im : Nat → Option DK} {sl : List (Nat × Nat)} {N : Nat} {b : Nat → Nat} {tr : Int64} (hM : mS P n f t K pn pf pt im sl N b tr hi τ) {x : Int32} {y : Int32} : wR d yX11_mark [.ref 106, .int x, .int y] hi τ (RQ (zMark (mkT P n f t K pn pf pt im sl N b tr) (ix x 6) (ix y (pS P))) hi τ) := by
  refine w_intro (by omega) M_X11_mark (Nat.le_of_ble_eq_true rfl) rfl ?_
  intro e X he G
  show X 0 [some (.ref (106)), some (.int (x)), some (.int (y))] [] hi τ 125
  obtain ⟨sw, hτ, hP, hRw, hV, hU, hI, hIV, hN, hNO, hT, hTr⟩ := id hM
  have hS6 : pS P ≤ 6 := hP.2.2.2.2.2.2.2.1
  have hL3 : pL P ≤ 3 := hP.2.2.2.2.2.2.1
  have hL1 : 1 ≤ pL P := hP.2.2.2.2.2.1
  have hW8 : (pW P).length ≤ 8 := hP.2.2.2.2.2.2.2.2.2.1
  have hn6 : n ≤ 6 := hRw.2.2.2.1
  have hfs : ∀ j, j < n → f j < pS P := hV.1.1
  have hV1 : rowV P n f := hV.1
  refine q_iload_n G (pc := 0) dX11_mark_0 rfl ?_
  refine q_iconst (v := nI 0) G (pc := 1) dX11_mark_1 (by decide) ?_
  refine q_iconst (v := nI 5) G (pc := 2) dX11_mark_2 (by decide) ?_
  refine q_cS3B G (pc := 3) dX11_mark_3 cs_X11_71 (w_iff (m_in (by omega)) (in0 (m := 5) (by decide))) (Nat.le_of_ble_eq_true rfl) (fun c3 => ?_) (fun c3 => ?_)
  · obtain ⟨k, hk0, rfl⟩ := c3
    refine q_if_eqN (tgt := 26) G (pc := 6) dX11_mark_6 (by decide) (by omega) (fun c6 => absurd c6 (by decide)) (fun _ => ?_)
    refine q_aload_n G (pc := 9) dX11_mark_9 rfl ?_
    refine q_iload_n G (pc := 10) dX11_mark_10 rfl ?_
    refine q_cV1B G (pc := 11) dX11_mark_11 cv_X11_176 rfl (m_isStrip (by omega) hM) (Nat.le_of_ble_eq_true rfl) (fun c11 => ?_) (fun c11 => ?_)
    · obtain ⟨s, hs, rfl⟩ := c11
      refine q_if_eqN (tgt := 26) G (pc := 14) dX11_mark_14 (by decide) (by omega) (fun c14 => absurd c14 (by decide)) (fun _ => ?_)
      refine q_aload_n G (pc := 17) dX11_mark_17 rfl ?_
      refine q_iload_n G (pc := 18) dX11_mark_18 rfl ?_
      refine q_iload_n G (pc := 19) dX11_mark_19 rfl ?_
      refine q_cV2R G (pc := 20) dX11_mark_20 cv_X11_288 rfl (m_marked (by omega) hM hk0 hs) (Nat.le_of_ble_eq_true rfl) ?_
      rintro v h t2 ⟨rfl, x5, rfl⟩
      refine q_goto (tgt := 29) G (pc := 23) dX11_mark_23 (by decide) ?_
      refine q_iret G (pc := 29) dX11_mark_29 (Or.inl rfl) ?_
      have e : zMark (mkT P n f t K pn pf pt im sl N b tr) (ix (nI k) 6) (ix (nI s) (pS P)) = (mkT P n f t K pn pf pt im sl N b (tr + (mkV P n f t s k).2), (mkV P n f t s k).1) := by rw [ix_some hk0 (by decide), ix_some hs (by omega)]; rfl
      exact RQ.mk e ((hM.sc x5).tr _) x5.frr rfl (by simp [tM, va_up])
    · refine q_if_eqN (tgt := 26) G (pc := 14) dX11_mark_14 (by decide) (by omega) (fun _ => ?_) (fun c14 => absurd c14 (by decide))
      refine q_ldcw G (pc := 26) dX11_mark_26 kc_X11_291 ?_
      refine q_iret G (pc := 29) dX11_mark_29 (Or.inl rfl) ?_
      exact hM.post msc.rf (by rw [ix_some hk0 (by decide), ix_none c11]; rfl)
  · refine q_if_eqN (tgt := 26) G (pc := 6) dX11_mark_6 (by decide) (by omega) (fun _ => ?_) (fun c6 => absurd c6 (by decide))
    refine q_ldcw G (pc := 26) dX11_mark_26 kc_X11_291 ?_
    refine q_iret G (pc := 29) dX11_mark_29 (Or.inl rfl) ?_
    exact hM.post msc.rf (by rw [ix_none c3]; rfl)
