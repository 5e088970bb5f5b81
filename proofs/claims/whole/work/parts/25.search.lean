/-! either way; the best order -/
abbrev EWS : Type := Int32 × Int32 × Int32
def wmk (pr : List (Nat × Nat)) : Nat := pr.foldl (fun a q => a ||| q.2 * 2 ^ q.1) 0
def ewStep (x : EWS) (num tu : Int32) : EWS := if x.1 = 0 ∨ num < x.2.1 ∨ (num = x.2.1 ∧ tu < x.2.2) then (x.1 + nI 1, num, tu) else (x.1 + nI 1, x.2.1, x.2.2)
def ewF (acc : List (List (Nat × Nat))) : EWS := acc.foldl (fun x pr => ewStep x (nI (numP pr)) (nI (wmk pr))) (0, -9, -9)
theorem ewF_s (acc : List (List (Nat × Nat))) (pr : List (Nat × Nat)) : ewF (acc ++ [pr]) = ewStep (ewF acc) (nI (numP pr)) (nI (wmk pr)) := by unfold ewF; rw [List.foldl_append]; rfl
def ewI (wk lf0 : Nat) (_ : Nat → Int32) (acc : List (List (Nat × Nat))) (hi : mm_HI) : Prop := hi wk 4 = (ewF acc).1 ∧ hi wk 5 = (ewF acc).2.1 ∧ hi wk 6 = (ewF acc).2.2 ∧ hi wk 7 = nI lf0
theorem and6 : ∀ a, a < 64 → ∀ b, b < 64 → nI a &&& nI b = nI (a &&& b) := by
  intro a _ b _
  apply Int32.toBitVec_inj.mp
  simp [nI, Int32.toBitVec_and, Int32.toBitVec_ofNat, BitVec.ofNat_and]
theorem wmk_bit : ∀ (pr : List (Nat × Nat)) (a : Nat), (∀ q ∈ pr, q.2 < 2) → ∀ s, (pr.foldl (fun a q => a ||| q.2 * 2 ^ q.1) a).testBit s = (a.testBit s || pr.any (fun q => q.1 == s && q.2 == 1))
  | [], a, _, s => by simp
  | q :: pr, a, h, s => by
    rw [List.foldl_cons, wmk_bit pr _ (fun z hz => h z (List.mem_cons_of_mem _ hz)), Nat.testBit_or, List.any_cons]
    have h2 := h q List.mem_cons_self
    have e : (q.2 * 2 ^ q.1).testBit s = (q.1 == s && q.2 == 1) := by
      rcases Nat.lt_or_ge q.2 1 with z | z
      · rw [show q.2 = 0 by omega]; simp
      · rw [show q.2 = 1 by omega, Nat.one_mul, Nat.testBit_two_pow]
        rw [Bool.eq_iff_iff]
        simp
    rw [e, Bool.or_assoc]
theorem tb_of (a s : Nat) : a.testBit s = decide (a / 2 ^ s % 2 = 1) := Nat.testBit_eq_decide_div_mod_eq
theorem wmk_eq {t lf0 : Nat} {pr : List (Nat × Nat)} (ht : t < 64) (hl : lf0 < 64) (hb : ∀ q ∈ pr, t / 2 ^ q.1 % 2 = q.2) (hin : ∀ q ∈ pr, q.1 < 6 ∧ lf0 / 2 ^ q.1 % 2 = 1) (hc : ∀ s, s < 6 → lf0 / 2 ^ s % 2 = 1 → ∃ q ∈ pr, q.1 = s) : t &&& lf0 = wmk pr := by
  apply Nat.eq_of_testBit_eq
  intro s
  rw [Nat.testBit_and]
  unfold wmk
  rw [wmk_bit pr 0 (fun q hq => by rw [← hb q hq]; exact Nat.mod_lt _ (by decide))]
  simp only [Nat.zero_testBit, Bool.false_or]
  rw [tb_of, tb_of]
  by_cases h1 : lf0 / 2 ^ s % 2 = 1
  · have hs : s < 6 := by
      rcases Nat.lt_or_ge s 6 with q | q
      · exact q
      · have : lf0 / 2 ^ s = 0 := Nat.div_eq_of_lt (Nat.lt_of_lt_of_le hl (show 2 ^ 6 ≤ 2 ^ s from Nat.pow_le_pow_right (by decide) q))
        rw [this] at h1; simp at h1
    obtain ⟨q, q1, q2⟩ := hc s hs h1
    have e := hb q q1
    rw [q2] at e
    by_cases h2 : t / 2 ^ s % 2 = 1
    · have : pr.any (fun q => q.1 == s && q.2 == 1) = true := List.any_eq_true.mpr ⟨q, q1, by simp [q2]; omega⟩
      rw [this]; simp [h1, h2]
    · have : pr.any (fun q => q.1 == s && q.2 == 1) = false := by
        rw [List.any_eq_false]
        intro z hz
        have e2 := hb z hz
        simp
        intro z1 z2
        rw [z1] at e2
        omega
      rw [this]; simp [h2]
  · have : pr.any (fun q => q.1 == s && q.2 == 1) = false := by
      rw [List.any_eq_false]
      intro z hz
      simp
      intro z1
      have := (hin z hz).2
      rw [z1] at this
      exact absurd this h1
    rw [this]; simp [h1]
abbrev BOS : Type := Int32 × Int32
def sqP (P : PG) (pr : List (Nat × Nat)) (l i : Nat) : Nat := shW P (pr.getD (i / 2) (0, 0)).2 (pr.getD (i / 2) (0, 0)).1 l (i % 2)
def sumR (WL : List (List Nat)) (sq : Nat → Nat → Nat) (k : Nat) : Nat → Nat
  | 0 => 0
  | l + 1 => sumR WL sq k l + (rdE WL (sq l) k).2.2.2.1
def boStep (P : PG) (m : Nat) (x : BOS) (pr : List (Nat × Nat)) : BOS := if nI (sumR (pW P) (sqP P pr) (2 * m) (pL P)) ≤ x.1 then x else (nI (sumR (pW P) (sqP P pr) (2 * m) (pL P)), nI (numP pr))
def boF (P : PG) (m : Nat) (acc : List (List (Nat × Nat))) : BOS := acc.foldl (boStep P m) (-1, -9)
theorem boF_s (P : PG) (m : Nat) (acc : List (List (Nat × Nat))) (pr : List (Nat × Nat)) : boF P m (acc ++ [pr]) = boStep P m (boF P m acc) pr := by unfold boF; rw [List.foldl_append]; rfl
def boI (wk m : Nat) (P : PG) (_ : Nat → Int32) (acc : List (List (Nat × Nat))) (hi : mm_HI) : Prop := hi wk 4 = (boF P m acc).1 ∧ hi wk 5 = (boF P m acc).2
theorem rdS_cong {WL : List (List Nat)} {a b : Nat → Nat} : ∀ {k : Nat}, (∀ i, i < k → a i = b i) → rdS WL a k = rdS WL b k
  | 0, _ => rfl
  | k + 1, h => by
    unfold rdS
    rw [rdS_cong (fun i hi => h i (by omega)), h k (by omega)]
theorem rdE_cong {WL : List (List Nat)} {a b : Nat → Nat} {k : Nat} (h : ∀ i, i < k → a i = b i) : rdE WL a k = rdE WL b k := by unfold rdE; rw [rdS_cong h]
theorem sumR_cong {WL : List (List Nat)} {a b : Nat → Nat → Nat} {k : Nat} : ∀ {L : Nat}, (∀ l i, l < L → i < k → a l i = b l i) → sumR WL a k L = sumR WL b k L
  | 0, _ => rfl
  | l + 1, h => by
    unfold sumR
    rw [sumR_cong (fun x i hx hi => h x i (by omega) hi), rdE_cong (fun i hi => h l i (by omega) hi)]
theorem sqP_eq {P : PG} {pr : List (Nat × Nat)} {f : Nat → Nat} {t m l i : Nat} (hlen : pr.length = m) (ho : ∀ j, j < m → f j = (pr.getD j (0, 0)).1) (hb : ∀ q ∈ pr, t / 2 ^ q.1 % 2 = q.2) (hi : i < 2 * m) : sqF P f t l i = sqP P pr l i := by
  unfold sqF sqP shw
  have hj : i / 2 < m := by omega
  rw [ho _ hj, hb _ (by rw [List.getD_eq_getElem?_getD, List.getElem?_eq_getElem (by omega)]; exact List.getElem_mem _)]
set_option maxHeartbeats 2000000 in
theorem s_X5_begin {d : Nat} (hd : 2 ≤ d) {hi : mm_HI} {τ : mm_T} {sw : Bool} (hτ : τ.1 = mm_hr sw) {wk : Nat} (hwk : mm_lay wk = (0, 5)) {r n6 t6 : Nat} {f6 : Nat → Nat} (hr : mm_lay r = (0, 6)) (hR : rowF hi r n6 f6 t6) (hrw : r + 2 ≤ wk ∨ wk + 7 ≤ r) (hinj : ∀ i j, i < n6 → j < n6 → f6 i = f6 j → i = j) : wV d yX5_begin [.ref wk, .ref r] hi τ (fun h => ∃ pv : Nat → Int32, (∀ j, j < n6 → pv (f6 j) = nI j) ∧ roI wk n6 pv [] h ∧ h wk 1 = hi wk 1 ∧ h wk 2 = hi wk 2 ∧ frr wk (wen wk) hi h) := by
  refine w_intro (by omega) M_X5_begin (Nat.le_of_ble_eq_true rfl) rfl ?_
  intro e X he G
  show X 0 [some (.ref (wk)), some (.ref (r)), none] [] hi τ 125
  have hwe := wen_5 hwk
  refine q_aload_n G (pc := 0) dX5_begin_0 rfl ?_
  refine q_iconst (v := nI 0) G (pc := 1) dX5_begin_1 (by decide) ?_
  refine q_putI G (pc := 2) dX5_begin_2 fl_X5_21_5 hwk ?_
  refine q_aload_n G (pc := 5) dX5_begin_5 rfl ?_
  refine q_bipush (v := -9) G (pc := 6) dX5_begin_6 (by decide) ?_
  refine q_putI G (pc := 8) dX5_begin_8 fl_X5_25_5 hwk ?_
  refine q_aload_n G (pc := 11) dX5_begin_11 rfl ?_
  refine q_bipush (v := -9) G (pc := 12) dX5_begin_12 (by decide) ?_
  refine q_putI G (pc := 14) dX5_begin_14 fl_X5_28_5 hwk ?_
  refine q_aload_n G (pc := 17) dX5_begin_17 rfl ?_
  refine q_getR (x := wk + 4) G (pc := 18) dX5_begin_18 fl_X5_9_5 hwk (hg hτ (hf_5_7 hwk)) ?_
  refine q_bipush (v := -9) G (pc := 21) dX5_begin_21 (by decide) ?_
  refine q_cS2R G (pc := 23) dX5_begin_23 cs_X5_31 (k_fill (by omega) (ly_5_7 hwk) (ly_lt (ly_5_7 hwk) (by decide))) (Nat.le_of_ble_eq_true rfl) ?_
  intro v1 h1 t1 hq
  obtain ⟨ht1, rfl, rfl⟩ := hq
  rw [ht1]
  show X _ _ [] _ _ _
  refine q_iconst (v := nI 0) G (pc := 26) dX5_begin_26 (by decide) ?_
  refine q_istore_n G (pc := 27) dX5_begin_27 (by decide) ?_
  show X _ [_, _, _] _ _ _ _
  have L28 : ∀ (zz : Nat) (i : Nat) (hk : mm_HI), n6 - i < zz → i ≤ n6 → (∀ j, j < i → hk (wk + 5) (f6 j) = nI j) → frr wk (wen wk) hi hk → fr [wk + 5] (fillF (mm_up2 (mm_up2 (mm_up2 hi wk 4 (nI 0)) wk 5 (-9)) wk 6 (-9)) (wk + 4) 6 (-9)) hk → rowF hk r n6 f6 t6 → X 28 [some (.ref (wk)), some (.ref (r)), some (.int (nI (i)))] [] hk τ 125 := by
    intro zz
    induction zz with
    | zero => intro i hk hm; exact absurd hm (Nat.not_lt_zero _)
    | succ zz ih28 =>
      intro i hk hm h0 g1 g2 g3 hRk
      obtain ⟨r1, r2, r3, r4, r5, r6⟩ := id hRk
      refine q_iload_n G (pc := 28) dX5_begin_28 rfl ?_
      refine q_aload_n G (pc := 29) dX5_begin_29 rfl ?_
      refine q_getI (v := nI (n6)) G (pc := 30) dX5_begin_30 fl_X5_37_6 (by decide) hr r1 ?_
      refine q_icmp_geN (tgt := 54) G (pc := 33) dX5_begin_33 (by decide) (by omega) (by omega) (fun c33 => ?_) (fun c33 => ?_)
      · refine q_vret G (pc := 54) dX5_begin_54 rfl ?_
        refine ⟨rfl, rfl, fun z => hk (wk + 5) z, fun j hj => g1 j (by omega), ⟨?_, ?_, ?_, fun z hz => ?_, fun z hz => rfl⟩, ?_, ?_, g2⟩
        · rw [g3 wk (by simp)]; simp [va_up, fillF, roF, nI_0]
        · rw [g3 wk (by simp)]; simp [va_up, fillF, roF, nI_0]
        · rw [g3 wk (by simp)]; simp [va_up, fillF, roF, nI_0]
        · rw [g3 (wk + 4) (by simp)]; simp [va_up, fillF, roF, hz]
        · rw [g3 wk (by simp)]; simp [va_up, fillF]
        · rw [g3 wk (by simp)]; simp [va_up, fillF]
      · refine q_aload_n G (pc := 36) dX5_begin_36 rfl ?_
        refine q_getR (x := wk + 5) G (pc := 37) dX5_begin_37 fl_X5_15_5 hwk (hg hτ (hf_5_8 hwk)) ?_
        refine q_aload_n G (pc := 40) dX5_begin_40 rfl ?_
        refine q_getR (x := r + 1) G (pc := 41) dX5_begin_41 fl_X5_42_6 hr (hg hτ (hf_6_0 hr)) ?_
        refine q_iload_n G (pc := 44) dX5_begin_44 rfl ?_
        refine q_iald (j := i) (v := nI (f6 i)) G (pc := 45) dX5_begin_45 (ly_6_0 hr) rfl (by omega) (r3 i (by omega)) ?_
        have hfi := r5 i (by omega)
        refine q_iload_n G (pc := 46) dX5_begin_46 rfl ?_
        refine q_iast (j := f6 i) G (pc := 47) dX5_begin_47 (ly_5_8 hwk) rfl (by omega) ?_
        refine q_iincN G (pc := 48) dX5_begin_48 rfl (inc1 _) (by decide) ?_
        show X _ [_, _, _] _ _ _ _
        refine q_goto (tgt := 28) G (pc := 51) dX5_begin_51 (by decide) ?_
        have x2 : fr [wk + 5] hk (mm_up2 hk (wk + 5) (f6 i) (nI i)) := fun c hc => by simp at hc; simp [va_up, hc]
        refine ih28 (i + 1) _ (by omega) (by omega) (fun j hj => ?_) (g2.trans (fun c hc => x2 c (by simp; omega))) (g3.trans x2) (hRk.keep (x2 _ (by simp; omega)) (x2 _ (by simp; omega)))
        by_cases q : j = i
        · subst q; simp [va_up]
        · have : f6 j ≠ f6 i := fun z => q (hinj j i (by omega) (by omega) z)
          simp [va_up, this]; exact g1 j (by omega)
  have x0 : frr wk (wen wk) hi (fillF (mm_up2 (mm_up2 (mm_up2 hi wk 4 (nI 0)) wk 5 (-9)) wk 6 (-9)) (wk + 4) 6 (-9)) := fun c hc => by simp [va_up, fillF, show c ≠ wk by omega, show c ≠ wk + 4 by omega]
  exact L28 _ 0 _ (Nat.lt_succ_self _) (by omega) (fun j hj => absurd hj (Nat.not_lt_zero _)) x0 fr.rf (hR.frr x0 (by omega))
set_option maxHeartbeats 2000000 in
theorem s_X3_begin {d : Nat} (hd : 2 ≤ d) {hi : mm_HI} {τ : mm_T} {sw : Bool} (hτ : τ.1 = mm_hr sw) {wk : Nat} (hwk : mm_lay wk = (0, 3)) {r n6 t6 : Nat} {f6 : Nat → Nat} (hr : mm_lay r = (0, 6)) (hR : rowF hi r n6 f6 t6) (hrw : r + 2 ≤ wk ∨ wk + 7 ≤ r) : wV d yX3_begin [.ref wk, .ref r] hi τ (fun h => ∃ pv : Nat → Int32, True ∧ ewI wk (mskF f6 n6) pv [] h ∧ h wk 1 = hi wk 1 ∧ h wk 2 = hi wk 2 ∧ frr wk (wen wk) hi h) := by
  refine w_intro (by omega) M_X3_begin (Nat.le_of_ble_eq_true rfl) rfl ?_
  intro e X he G
  show X 0 [some (.ref (wk)), some (.ref (r))] [] hi τ 125
  have hwe := wen_bd wk
  refine q_aload_n G (pc := 0) dX3_begin_0 rfl ?_
  refine q_aload_n G (pc := 1) dX3_begin_1 rfl ?_
  refine q_cV0E G (pc := 2) dX3_begin_2 cv_X3_15 hr (s_X6_set (by omega) hτ hr hR) (Nat.le_of_ble_eq_true rfl) ?_
  refine q_putI G (pc := 5) dX3_begin_5 fl_X3_11_3 hwk ?_
  refine q_aload_n G (pc := 8) dX3_begin_8 rfl ?_
  refine q_iconst (v := nI 0) G (pc := 9) dX3_begin_9 (by decide) ?_
  refine q_putI G (pc := 10) dX3_begin_10 fl_X3_21_3 hwk ?_
  refine q_aload_n G (pc := 13) dX3_begin_13 rfl ?_
  refine q_bipush (v := -9) G (pc := 14) dX3_begin_14 (by decide) ?_
  refine q_putI G (pc := 16) dX3_begin_16 fl_X3_24_3 hwk ?_
  refine q_aload_n G (pc := 19) dX3_begin_19 rfl ?_
  refine q_bipush (v := -9) G (pc := 20) dX3_begin_20 (by decide) ?_
  refine q_putI G (pc := 22) dX3_begin_22 fl_X3_27_3 hwk ?_
  refine q_vret G (pc := 25) dX3_begin_25 rfl ?_
  exact ⟨rfl, rfl, fun _ => 0, trivial, ⟨by simp [va_up, ewF, nI_0], by simp [va_up, ewF], by simp [va_up, ewF], by simp [va_up]⟩, by simp [va_up], by simp [va_up], fun c hc => by simp [va_up, show c ≠ wk by omega]⟩
set_option maxHeartbeats 2000000 in
theorem s_X3_drop {d : Nat} (hd : 1 ≤ d) {hi : mm_HI} {τ : mm_T} {sw : Bool} (hτ : τ.1 = mm_hr sw) {wk : Nat} (hwk : mm_lay wk = (0, 3)) : wV d yX3_drop [.ref wk] hi τ (fun h => h = mm_up2 hi wk 7 (-1)) := by
  refine w_intro (by omega) M_X3_drop (Nat.le_of_ble_eq_true rfl) rfl ?_
  intro e X he G
  show X 0 [some (.ref (wk))] [] hi τ 125
  refine q_aload_n G (pc := 0) dX3_drop_0 rfl ?_
  refine q_iconst (v := -1) G (pc := 1) dX3_drop_1 (by decide) ?_
  refine q_putI G (pc := 2) dX3_drop_2 fl_X3_11_3 hwk ?_
  refine q_vret G (pc := 5) dX3_drop_5 rfl ?_
  exact ⟨rfl, rfl, rfl⟩
set_option maxHeartbeats 2000000 in
theorem s_X3_knows {d : Nat} (hd : 2 ≤ d) {hi : mm_HI} {τ : mm_T} {sw : Bool} (hτ : τ.1 = mm_hr sw) {wk : Nat} (hwk : mm_lay wk = (0, 3)) {r n6 t6 : Nat} {f6 : Nat → Nat} (hr : mm_lay r = (0, 6)) (hR : rowF hi r n6 f6 t6) : wB d yX3_knows [.ref wk, .ref r] hi τ (nI (mskF f6 n6) = hi wk 7) := by
  refine w_intro (by omega) M_X3_knows (Nat.le_of_ble_eq_true rfl) rfl ?_
  intro e X he G
  show X 0 [some (.ref (wk)), some (.ref (r))] [] hi τ 125
  have hwe := wen_bd wk
  refine q_aload_n G (pc := 0) dX3_knows_0 rfl ?_
  refine q_cV0E G (pc := 1) dX3_knows_1 cv_X3_15 hr (s_X6_set (by omega) hτ hr hR) (Nat.le_of_ble_eq_true rfl) ?_
  refine q_aload_n G (pc := 4) dX3_knows_4 rfl ?_
  refine q_getI (v := hi wk 7) G (pc := 5) dX3_knows_5 fl_X3_11_3 (by decide) hwk rfl ?_
  refine q_icmp_ne (tgt := 15) G (pc := 8) dX3_knows_8 (by decide) (fun c8 => ?_) (fun c8 => ?_)
  · refine q_iconst (v := nI 0) G (pc := 15) dX3_knows_15 (by decide) ?_
    refine q_iret G (pc := 16) dX3_knows_16 (Or.inr ⟨rfl, by decide⟩) ?_
    exact ⟨rfl, rfl, Or.inr ⟨c8, rfl⟩⟩
  · refine q_iconst (v := nI 1) G (pc := 11) dX3_knows_11 (by decide) ?_
    refine q_goto (tgt := 16) G (pc := 12) dX3_knows_12 (by decide) ?_
    refine q_iret G (pc := 16) dX3_knows_16 (Or.inr ⟨rfl, by decide⟩) ?_
    exact ⟨rfl, rfl, Or.inl ⟨c8, rfl⟩⟩
theorem s_X3_meet {τ : mm_T} {sw : Bool} (hτ : τ.1 = mm_hr sw) {wk : Nat} (hwk : mm_lay wk = (0, 3)) {sh m lf0 nd : Nat} {P : PG} {nx : Nat → Nat → Nat} (hsh : mm_lay sh = (0, 7)) (hl0 : lf0 < 64) (pv : Nat → Int32) : hMeet 1 yX3_meet τ wk sh m lf0 P nx nd (ewI wk lf0 pv) := by
  intro d hd hi acc pr f t hI hr hfs hlen ho hbits hS hin hcov
  obtain ⟨i1, i2, i3, i4⟩ := id hI
  have hwe := wen_bd wk
  refine w_intro (by omega) M_X3_meet (Nat.le_of_ble_eq_true rfl) rfl ?_
  intro e X he G
  show X 0 [some (.ref wk), some (.ref sh), some (.int (nI (numP pr))), none] [] hi τ 125
  refine q_aload_n G (pc := 0) dX3_meet_0 rfl ?_
  refine q_getR (x := wk + 1) G (pc := 1) dX3_meet_1 fl_X3_30_3 hwk (hg hτ (hf_3_0 hwk)) ?_
  refine q_getI (v := nI (t)) G (pc := 4) dX3_meet_4 fl_X3_34_6 (by decide) (ly_3_0 hwk) hr.2.1 ?_
  refine q_aload_n G (pc := 7) dX3_meet_7 rfl ?_
  refine q_getI (v := nI (lf0)) G (pc := 8) dX3_meet_8 fl_X3_11_3 (by decide) hwk i4 ?_
  refine q_iand G (pc := 11) dX3_meet_11 ?_
  rw [(and6 _ hr.2.2.2.2.2 _ hl0).trans (congrArg nI (wmk_eq hr.2.2.2.2.2 hl0 hbits hin hcov))]
  refine q_istore_n G (pc := 12) dX3_meet_12 (by decide) ?_
  show X _ [_, _, _, _] _ _ _ _
  refine q_aload_n G (pc := 13) dX3_meet_13 rfl ?_
  refine q_getI (v := (ewF acc).1) G (pc := 14) dX3_meet_14 fl_X3_21_3 (by decide) hwk i1 ?_
  refine q_if_eq (tgt := 44) G (pc := 17) dX3_meet_17 (by decide) (fun c17 => ?_) (fun c17 => ?_)
  · refine q_aload_n G (pc := 44) dX3_meet_44 rfl ?_
    refine q_iload_n G (pc := 45) dX3_meet_45 rfl ?_
    refine q_putI G (pc := 46) dX3_meet_46 fl_X3_24_3 hwk ?_
    refine q_aload_n G (pc := 49) dX3_meet_49 rfl ?_
    refine q_iload_n G (pc := 50) dX3_meet_50 rfl ?_
    refine q_putI G (pc := 51) dX3_meet_51 fl_X3_27_3 hwk ?_
    refine q_aload_n G (pc := 54) dX3_meet_54 rfl ?_
    refine q_dup G (pc := 55) dX3_meet_55 rfl ?_
    refine q_getI (v := (ewF acc).1) G (pc := 56) dX3_meet_56 fl_X3_21_3 (by decide) hwk (by simp [va_up, i1]) ?_
    refine q_iconst (v := nI 1) G (pc := 59) dX3_meet_59 (by decide) ?_
    refine q_iadd G (pc := 60) dX3_meet_60 ?_
    refine q_putI G (pc := 61) dX3_meet_61 fl_X3_21_3 hwk ?_
    refine q_vret G (pc := 64) dX3_meet_64 rfl ?_
    refine ⟨rfl, rfl, ?_, ?_, ?_, ?_, ?_, ?_, fun c hc => ?_⟩
    · have e9 : ewF (acc ++ [pr]) = ((ewF acc).1 + nI 1, nI (numP pr), nI (wmk pr)) := by rw [ewF_s]; unfold ewStep; rw [if_pos (Or.inl c17)]
      exact ⟨by rw [e9]; simp [va_up], by rw [e9]; simp [va_up], by rw [e9]; simp [va_up], by simp [va_up, i4]⟩
    · simp [va_up]
    · simp [va_up]
    · simp [va_up]
    · simp [va_up]
    · simp [va_up]
    · simp [va_up, show c ≠ wk by omega]
  · refine q_iload_n G (pc := 20) dX3_meet_20 rfl ?_
    refine q_aload_n G (pc := 21) dX3_meet_21 rfl ?_
    refine q_getI (v := (ewF acc).2.1) G (pc := 22) dX3_meet_22 fl_X3_24_3 (by decide) hwk i2 ?_
    refine q_icmp_lt (tgt := 44) G (pc := 25) dX3_meet_25 (by decide) (fun c25 => ?_) (fun c25 => ?_)
    · refine q_aload_n G (pc := 44) dX3_meet_44 rfl ?_
      refine q_iload_n G (pc := 45) dX3_meet_45 rfl ?_
      refine q_putI G (pc := 46) dX3_meet_46 fl_X3_24_3 hwk ?_
      refine q_aload_n G (pc := 49) dX3_meet_49 rfl ?_
      refine q_iload_n G (pc := 50) dX3_meet_50 rfl ?_
      refine q_putI G (pc := 51) dX3_meet_51 fl_X3_27_3 hwk ?_
      refine q_aload_n G (pc := 54) dX3_meet_54 rfl ?_
      refine q_dup G (pc := 55) dX3_meet_55 rfl ?_
      refine q_getI (v := (ewF acc).1) G (pc := 56) dX3_meet_56 fl_X3_21_3 (by decide) hwk (by simp [va_up, i1]) ?_
      refine q_iconst (v := nI 1) G (pc := 59) dX3_meet_59 (by decide) ?_
      refine q_iadd G (pc := 60) dX3_meet_60 ?_
      refine q_putI G (pc := 61) dX3_meet_61 fl_X3_21_3 hwk ?_
      refine q_vret G (pc := 64) dX3_meet_64 rfl ?_
      refine ⟨rfl, rfl, ?_, ?_, ?_, ?_, ?_, ?_, fun c hc => ?_⟩
      · have e9 : ewF (acc ++ [pr]) = ((ewF acc).1 + nI 1, nI (numP pr), nI (wmk pr)) := by rw [ewF_s]; unfold ewStep; rw [if_pos (Or.inr (Or.inl c25))]
        exact ⟨by rw [e9]; simp [va_up], by rw [e9]; simp [va_up], by rw [e9]; simp [va_up], by simp [va_up, i4]⟩
      · simp [va_up]
      · simp [va_up]
      · simp [va_up]
      · simp [va_up]
      · simp [va_up]
      · simp [va_up, show c ≠ wk by omega]
    · refine q_iload_n G (pc := 28) dX3_meet_28 rfl ?_
      refine q_aload_n G (pc := 29) dX3_meet_29 rfl ?_
      refine q_getI (v := (ewF acc).2.1) G (pc := 30) dX3_meet_30 fl_X3_24_3 (by decide) hwk i2 ?_
      refine q_icmp_ne (tgt := 54) G (pc := 33) dX3_meet_33 (by decide) (fun c33 => ?_) (fun c33 => ?_)
      · refine q_aload_n G (pc := 54) dX3_meet_54 rfl ?_
        refine q_dup G (pc := 55) dX3_meet_55 rfl ?_
        refine q_getI (v := (ewF acc).1) G (pc := 56) dX3_meet_56 fl_X3_21_3 (by decide) hwk (by simp [va_up, i1]) ?_
        refine q_iconst (v := nI 1) G (pc := 59) dX3_meet_59 (by decide) ?_
        refine q_iadd G (pc := 60) dX3_meet_60 ?_
        refine q_putI G (pc := 61) dX3_meet_61 fl_X3_21_3 hwk ?_
        refine q_vret G (pc := 64) dX3_meet_64 rfl ?_
        refine ⟨rfl, rfl, ?_, ?_, ?_, ?_, ?_, ?_, fun c hc => ?_⟩
        · have e9 : ewF (acc ++ [pr]) = ((ewF acc).1 + nI 1, (ewF acc).2.1, (ewF acc).2.2) := by rw [ewF_s]; unfold ewStep; rw [if_neg (fun q => by rcases q with q | q | q; exact c17 q; exact c25 q; exact c33 q.1)]
          exact ⟨by rw [e9]; simp [va_up], by rw [e9]; simp [va_up, i2], by rw [e9]; simp [va_up, i3], by simp [va_up, i4]⟩
        · simp [va_up]
        · simp [va_up]
        · simp [va_up]
        · simp [va_up]
        · simp [va_up]
        · simp [va_up, show c ≠ wk by omega]
      · refine q_iload_n G (pc := 36) dX3_meet_36 rfl ?_
        refine q_aload_n G (pc := 37) dX3_meet_37 rfl ?_
        refine q_getI (v := (ewF acc).2.2) G (pc := 38) dX3_meet_38 fl_X3_27_3 (by decide) hwk i3 ?_
        refine q_icmp_ge (tgt := 54) G (pc := 41) dX3_meet_41 (by decide) (fun c41 => ?_) (fun c41 => ?_)
        · refine q_aload_n G (pc := 54) dX3_meet_54 rfl ?_
          refine q_dup G (pc := 55) dX3_meet_55 rfl ?_
          refine q_getI (v := (ewF acc).1) G (pc := 56) dX3_meet_56 fl_X3_21_3 (by decide) hwk (by simp [va_up, i1]) ?_
          refine q_iconst (v := nI 1) G (pc := 59) dX3_meet_59 (by decide) ?_
          refine q_iadd G (pc := 60) dX3_meet_60 ?_
          refine q_putI G (pc := 61) dX3_meet_61 fl_X3_21_3 hwk ?_
          refine q_vret G (pc := 64) dX3_meet_64 rfl ?_
          refine ⟨rfl, rfl, ?_, ?_, ?_, ?_, ?_, ?_, fun c hc => ?_⟩
          · have e9 : ewF (acc ++ [pr]) = ((ewF acc).1 + nI 1, (ewF acc).2.1, (ewF acc).2.2) := by rw [ewF_s]; unfold ewStep; rw [if_neg (fun q => by rcases q with q | q | q; exact c17 q; exact c25 q; exact absurd (Int32.not_le.mpr q.2) (fun y => y c41))]
            exact ⟨by rw [e9]; simp [va_up], by rw [e9]; simp [va_up, i2], by rw [e9]; simp [va_up, i3], by simp [va_up, i4]⟩
          · simp [va_up]
          · simp [va_up]
          · simp [va_up]
          · simp [va_up]
          · simp [va_up]
          · simp [va_up, show c ≠ wk by omega]
        · refine q_aload_n G (pc := 44) dX3_meet_44 rfl ?_
          refine q_iload_n G (pc := 45) dX3_meet_45 rfl ?_
          refine q_putI G (pc := 46) dX3_meet_46 fl_X3_24_3 hwk ?_
          refine q_aload_n G (pc := 49) dX3_meet_49 rfl ?_
          refine q_iload_n G (pc := 50) dX3_meet_50 rfl ?_
          refine q_putI G (pc := 51) dX3_meet_51 fl_X3_27_3 hwk ?_
          refine q_aload_n G (pc := 54) dX3_meet_54 rfl ?_
          refine q_dup G (pc := 55) dX3_meet_55 rfl ?_
          refine q_getI (v := (ewF acc).1) G (pc := 56) dX3_meet_56 fl_X3_21_3 (by decide) hwk (by simp [va_up, i1]) ?_
          refine q_iconst (v := nI 1) G (pc := 59) dX3_meet_59 (by decide) ?_
          refine q_iadd G (pc := 60) dX3_meet_60 ?_
          refine q_putI G (pc := 61) dX3_meet_61 fl_X3_21_3 hwk ?_
          refine q_vret G (pc := 64) dX3_meet_64 rfl ?_
          refine ⟨rfl, rfl, ?_, ?_, ?_, ?_, ?_, ?_, fun c hc => ?_⟩
          · have e9 : ewF (acc ++ [pr]) = ((ewF acc).1 + nI 1, nI (numP pr), nI (wmk pr)) := by rw [ewF_s]; unfold ewStep; rw [if_pos (Or.inr (Or.inr ⟨c33, Int32.not_le.mp c41⟩))]
            exact ⟨by rw [e9]; simp [va_up], by rw [e9]; simp [va_up], by rw [e9]; simp [va_up], by simp [va_up, i4]⟩
          · simp [va_up]
          · simp [va_up]
          · simp [va_up]
          · simp [va_up]
          · simp [va_up]
          · simp [va_up, show c ≠ wk by omega]
theorem ewI_stab (wk lf0 : Nat) (pv : Nat → Int32) : hStab wk (ewI wk lf0 pv) := by
  intro acc x y h hf
  obtain ⟨i1, i2, i3, i4⟩ := h
  exact ⟨by rw [hf wk (by simp)]; exact i1, by rw [hf wk (by simp)]; exact i2, by rw [hf wk (by simp)]; exact i3, by rw [hf wk (by simp)]; exact i4⟩
set_option maxHeartbeats 2000000 in
theorem s_X0_begin {d : Nat} (hd : 1 ≤ d) {hi : mm_HI} {τ : mm_T} {sw : Bool} (hτ : τ.1 = mm_hr sw) {wk : Nat} (hwk : mm_lay wk = (0, 0)) {r n6 t6 : Nat} {f6 : Nat → Nat} (hr : mm_lay r = (0, 6)) (hR : rowF hi r n6 f6 t6) (hrw : r + 2 ≤ wk ∨ wk + 7 ≤ r) {P : PG} : wV d yX0_begin [.ref wk, .ref r] hi τ (fun h => ∃ pv : Nat → Int32, True ∧ boI wk n6 P pv [] h ∧ h wk 1 = hi wk 1 ∧ h wk 2 = hi wk 2 ∧ frr wk (wen wk) hi h) := by
  refine w_intro (by omega) M_X0_begin (Nat.le_of_ble_eq_true rfl) rfl ?_
  intro e X he G
  show X 0 [some (.ref (wk)), some (.ref (r))] [] hi τ 125
  have hwe := wen_0 hwk
  refine q_aload_n G (pc := 0) dX0_begin_0 rfl ?_
  refine q_iconst (v := -1) G (pc := 1) dX0_begin_1 (by decide) ?_
  refine q_putI G (pc := 2) dX0_begin_2 fl_X0_20_0 hwk ?_
  refine q_aload_n G (pc := 5) dX0_begin_5 rfl ?_
  refine q_bipush (v := -9) G (pc := 6) dX0_begin_6 (by decide) ?_
  refine q_putI G (pc := 8) dX0_begin_8 fl_X0_24_0 hwk ?_
  refine q_vret G (pc := 11) dX0_begin_11 rfl ?_
  exact ⟨rfl, rfl, fun _ => 0, trivial, ⟨by simp [va_up, boF], by simp [va_up, boF]⟩, by simp [va_up], by simp [va_up], fun c hc => by simp [va_up, show c ≠ wk by omega]⟩
theorem s_X0_meet {τ : mm_T} {sw : Bool} (hτ : τ.1 = mm_hr sw) {wk : Nat} (hwk : mm_lay wk = (0, 0)) {sh m lf0 nd : Nat} {P : PG} {nx : Nat → Nat → Nat} (hsh : mm_lay sh = (0, 7)) (pv : Nat → Int32) : hMeet 4 yX0_meet τ wk sh m lf0 P nx nd (boI wk m P pv) := by
  intro d hd hi acc pr f t hI hr hfs hlen ho hbits hS hin hcov
  obtain ⟨i1, i2⟩ := id hI
  have hL3 := hS.2.2.2.1.2.1
  have hwe := wen_0 hwk
  refine w_intro (by omega) M_X0_meet (Nat.le_of_ble_eq_true rfl) rfl ?_
  intro e X he G
  show X 0 [some (.ref wk), some (.ref sh), some (.int (nI (numP pr))), none, none] [] hi τ 125
  refine q_iconst (v := nI 0) G (pc := 0) dX0_meet_0 (by decide) ?_
  refine q_istore_n G (pc := 1) dX0_meet_1 (by decide) ?_
  show X _ [_, _, _, _, _] _ _ _ _
  refine q_iconst (v := nI 0) G (pc := 2) dX0_meet_2 (by decide) ?_
  refine q_istore G (pc := 3) dX0_meet_3 (by decide) ?_
  show X _ [_, _, _, _, _] _ _ _ _
  have L5 : ∀ (zz : Nat) (l : Nat) (hk : mm_HI), pL P - l < zz → l ≤ pL P → fr [wk + 4] hi hk → shF hk sh P nx nd → rowF hk (wk + 1) m f t → X 5 [some (.ref (wk)), some (.ref (sh)), some (.int (nI (numP pr))), some (.int (nI (sumR (pW P) (sqF P f t) (2 * m) l))), some (.int (nI (l)))] [] hk τ 125 := by
    intro zz
    induction zz with
    | zero => intro l hk hm; exact absurd hm (Nat.not_lt_zero _)
    | succ zz ih5 =>
      intro l hk hm h0 g2 gS gR
      refine q_iload G (pc := 5) dX0_meet_5 rfl ?_
      refine q_aload_n G (pc := 7) dX0_meet_7 rfl ?_
      refine q_getI (v := nI (pL P)) G (pc := 8) dX0_meet_8 fl_X0_27_7 (by decide) hsh gS.1 ?_
      refine q_icmp_geN (tgt := 44) G (pc := 11) dX0_meet_11 (by decide) (by omega) (by omega) (fun c11 => ?_) (fun c11 => ?_)
      · refine q_iload_n G (pc := 44) dX0_meet_44 rfl ?_
        refine q_aload_n G (pc := 45) dX0_meet_45 rfl ?_
        refine q_getI (v := (boF P m acc).1) G (pc := 46) dX0_meet_46 fl_X0_20_0 (by decide) hwk (by rw [g2 wk (by simp)]; exact i1) ?_
        refine q_icmp_le (tgt := 62) G (pc := 49) dX0_meet_49 (by decide) (fun c49 => ?_) (fun c49 => ?_)
        · refine q_vret G (pc := 62) dX0_meet_62 rfl ?_
          have e8 : sumR (pW P) (sqF P f t) (2 * m) (pL P) = sumR (pW P) (sqP P pr) (2 * m) (pL P) := sumR_cong (fun l i hl hi2 => sqP_eq hlen ho hbits hi2)
          rw [show l = pL P by omega, e8] at c49
          have e9 : boF P m (acc ++ [pr]) = boF P m acc := by rw [boF_s]; unfold boStep; rw [if_pos c49]
          refine ⟨rfl, rfl, ⟨?_, ?_⟩, ?_, ?_, ?_, ?_, ?_, fun c hc => ?_⟩
          · rw [e9, g2 wk (by simp)]; exact i1
          · rw [e9, g2 wk (by simp)]; exact i2
          · exact g2 (wk + 1) (by simp)
          · exact g2 (wk + 2) (by simp)
          · exact g2 (wk + 3) (by simp)
          · rw [g2 wk (by simp)]
          · rw [g2 wk (by simp)]
          · exact g2 c (by simp; omega)
        · refine q_aload_n G (pc := 52) dX0_meet_52 rfl ?_
          refine q_iload_n G (pc := 53) dX0_meet_53 rfl ?_
          refine q_putI G (pc := 54) dX0_meet_54 fl_X0_20_0 hwk ?_
          refine q_aload_n G (pc := 57) dX0_meet_57 rfl ?_
          refine q_iload_n G (pc := 58) dX0_meet_58 rfl ?_
          refine q_putI G (pc := 59) dX0_meet_59 fl_X0_24_0 hwk ?_
          refine q_vret G (pc := 62) dX0_meet_62 rfl ?_
          have e8 : sumR (pW P) (sqF P f t) (2 * m) (pL P) = sumR (pW P) (sqP P pr) (2 * m) (pL P) := sumR_cong (fun l i hl hi2 => sqP_eq hlen ho hbits hi2)
          rw [show l = pL P by omega, e8] at c49
          have e9 : boF P m (acc ++ [pr]) = (nI (sumR (pW P) (sqP P pr) (2 * m) (pL P)), nI (numP pr)) := by rw [boF_s]; unfold boStep; rw [if_neg c49]
          refine ⟨rfl, rfl, ⟨?_, ?_⟩, ?_, ?_, ?_, ?_, ?_, fun c hc => ?_⟩
          · rw [e9]; simp [va_up]; rw [show l = pL P by omega, e8]
          · rw [e9]; simp [va_up]
          · simp [va_up]; exact g2 (wk + 1) (by simp)
          · simp [va_up]; exact g2 (wk + 2) (by simp)
          · simp [va_up]; exact g2 (wk + 3) (by simp)
          · simp [va_up]; rw [g2 wk (by simp)]
          · simp [va_up]; rw [g2 wk (by simp)]
          · simp [va_up, show c ≠ wk by omega]; exact g2 c (by simp; omega)
      · refine q_aload_n G (pc := 14) dX0_meet_14 rfl ?_
        refine q_getR (x := wk + 4) G (pc := 15) dX0_meet_15 fl_X0_14_0 hwk (hg hτ (hf_0_6 hwk)) ?_
        refine q_aload_n G (pc := 18) dX0_meet_18 rfl ?_
        refine q_aload_n G (pc := 19) dX0_meet_19 rfl ?_
        refine q_getR (x := wk + 1) G (pc := 20) dX0_meet_20 fl_X0_32_0 hwk (hg hτ (hf_0_0 hwk)) ?_
        refine q_iload G (pc := 23) dX0_meet_23 rfl ?_
        refine q_cV3V G (pc := 25) dX0_meet_25 cv_X0_36 (ly_0_6 hwk) (s_X4_read (by omega) hτ (ly_0_6 hwk) hsh gS (ly_0_0 hwk) gR hfs (l := l) (by omega)) (Nat.le_of_ble_eq_true rfl) ?_
        intro hk2 hx
        obtain ⟨x1, x2⟩ := hx
        refine q_iload_n G (pc := 28) dX0_meet_28 rfl ?_
        refine q_aload_n G (pc := 29) dX0_meet_29 rfl ?_
        refine q_getR (x := wk + 4) G (pc := 30) dX0_meet_30 fl_X0_14_0 hwk (hg hτ (hf_0_6 hwk)) ?_
        refine q_getI (v := nI ((rdE (pW P) (sqF P f t l) (2 * m)).2.2.2.1)) G (pc := 33) dX0_meet_33 fl_X0_40_4 (by decide) (ly_0_6 hwk) x1.2.2.2.1 ?_
        refine q_iaddN G (pc := 36) dX0_meet_36 ?_
        refine q_istore_n G (pc := 37) dX0_meet_37 (by decide) ?_
        show X _ [_, _, _, _, _] _ _ _ _
        refine q_iincN G (pc := 38) dX0_meet_38 rfl (inc1 _) (by decide) ?_
        show X _ [_, _, _, _, _] _ _ _ _
        refine q_goto (tgt := 5) G (pc := 41) dX0_meet_41 (by decide) ?_
        exact ih5 (l + 1) hk2 (by omega) (by omega) (g2.trans x2) (gS.rd hsh (ly_0_6 hwk) x2) (gR.rd (ly_0_0 hwk) (ly_0_6 hwk) x2)
  exact L5 _ 0 hi (Nat.lt_succ_self _) (by omega) fr.rf hS hr
theorem boI_stab (wk m : Nat) (P : PG) (pv : Nat → Int32) : hStab wk (boI wk m P pv) := by
  intro acc x y h hf
  obtain ⟨i1, i2⟩ := h
  exact ⟨by rw [hf wk (by simp)]; exact i1, by rw [hf wk (by simp)]; exact i2⟩
theorem msk_bit : ∀ t, t < 64 → ∀ s, s < 6 → ∀ q, q < 6 → (t ||| 2 ^ s) / 2 ^ q % 2 = if q = s then 1 else t / 2 ^ q % 2 := by decide +kernel
theorem pcn_or : ∀ t, t < 64 → ∀ s, s < 6 → t / 2 ^ s % 2 = 0 → pcn (t ||| 2 ^ s) = pcn t + 1 := by decide +kernel
theorem mskF_bit {f : Nat → Nat} {s : Nat} (hs : s < 6) : ∀ {n : Nat}, (∀ j, j < n → f j < 6) → (mskF f n / 2 ^ s % 2 = 1 ↔ ∃ j, j < n ∧ f j = s)
  | 0, _ => by simp [mskF]
  | n + 1, h => by
    have ih := mskF_bit (f := f) hs (n := n) (fun j hj => h j (by omega))
    unfold mskF
    rw [msk_bit _ (mskF_lt fun j hj => h j (by omega)) _ (h n (by omega)) s hs]
    by_cases e : s = f n
    · rw [if_pos e]; exact ⟨fun _ => ⟨n, by omega, e.symm⟩, fun _ => rfl⟩
    · rw [if_neg e, ih]
      constructor
      · rintro ⟨j, h1, h2⟩; exact ⟨j, by omega, h2⟩
      · rintro ⟨j, h1, h2⟩
        by_cases q : j = n
        · subst q; exact absurd h2.symm e
        · exact ⟨j, by omega, h2⟩
theorem mskF_pcn {f : Nat → Nat} : ∀ {n : Nat}, (∀ j, j < n → f j < 6) → (∀ i j, i < n → j < n → f i = f j → i = j) → pcn (mskF f n) = n
  | 0, _, _ => by simp [mskF, pcn]
  | n + 1, h, hi => by
    have ih := mskF_pcn (f := f) (n := n) (fun j hj => h j (by omega)) (fun i j h1 h2 h3 => hi i j (by omega) (by omega) h3)
    unfold mskF
    rw [pcn_or _ (mskF_lt fun j hj => h j (by omega)) _ (h n (by omega)), ih]
    have hn : ¬ (mskF f n / 2 ^ f n % 2 = 1) := by
      rw [mskF_bit (h n (by omega)) (fun j hj => h j (by omega))]
      rintro ⟨j, h1, h2⟩
      have := hi j n (by omega) (by omega) h2
      omega
    have := Nat.mod_lt (mskF f n / 2 ^ f n) (show 0 < 2 by decide)
    omega
set_option maxHeartbeats 2000000 in
theorem s_X9_search {d : Nat} (hd : 3 ≤ d) {hi : mm_HI} {τ : mm_T} {sw : Bool} (hτ : τ.1 = mm_hr sw) {wk cw : Nat} (hwk : mm_lay wk = (0, cw)) (hcw : isW cw) {r n6 t6 sh nd dm bw ro : Nat} {f6 : Nat → Nat} {P : PG} {nx : Nat → Nat → Nat} {yb ym : MethodName} {Qb : (Nat → Int32) → Prop} {Iv : (Nat → Int32) → List (List (Nat × Nat)) → mm_HI → Prop} (hr : mm_lay r = (0, 6)) (hR : rowF hi r n6 f6 t6) (hrw : r + 2 ≤ wk ∨ wk + 7 ≤ r) (hsh : mm_lay sh = (0, 7)) (hS : shF hi sh P nx nd) (hfs : ∀ j, j < n6 → f6 j < pS P) (hinj : ∀ i j, i < n6 → j < n6 → f6 i = f6 j → i = j) (hb2 : bw < 2) (hr2 : ro < 2) (hbw : hi wk 1 = nI bw) (hrw2 : hi wk 2 = nI ro) (hcb : mm_CU RX9 29 yb 1 cw) (hcm : mm_CU RX9 54 ym 2 cw) (hdm : dm + 12 ≤ d)
    (hB : ∀ e : Nat, 2 ≤ e → wV e yb [.ref wk, .ref r] hi τ (fun h => ∃ pv : Nat → Int32, Qb pv ∧ Iv pv [] h ∧ h wk 1 = hi wk 1 ∧ h wk 2 = hi wk 2 ∧ frr wk (wen wk) hi h)) (hM : ∀ pv, hMeet dm ym τ wk sh n6 (mskF f6 n6) P nx nd (Iv pv)) (hSt : ∀ pv, hStab wk (Iv pv)) : wV d yX9_search [.ref wk, .ref sh, .ref r] hi τ (fun h => ∃ pv : Nat → Int32, Qb pv ∧ Iv pv (lvs bw ro nx P t6 n6 [] (mskF f6 n6)) h ∧ shF h sh P nx nd ∧ frr wk (wen wk) hi h ∧ h wk 1 = nI bw ∧ h wk 2 = nI ro) := by
  refine w_intro (by omega) M_X9_search (Nat.le_of_ble_eq_true rfl) rfl ?_
  intro e X he G
  show X 0 [some (.ref (wk)), some (.ref (sh)), some (.ref (r)), none] [] hi τ 125
  have hw7 := lyW hwk hcw
  have hwe := wen_bd wk
  have hs7 := ly7 hsh
  have hn6 := hR.2.2.2.1
  have hf6 := hR.2.2.2.2.1
  have hL3 : pL P ≤ 3 := hS.2.2.2.1.2.1
  refine q_aload_n G (pc := 0) dX9_search_0 rfl ?_
  refine q_aload_n G (pc := 1) dX9_search_1 rfl ?_
  refine q_cU1V G (pc := 2) dX9_search_2 hcb hwk (hB e (by omega)) (Nat.le_of_ble_eq_true rfl) ?_
  intro hk hx
  obtain ⟨pv, x0, x1, x2, x3, x4⟩ := hx
  have hRk := hR.frr x4 (by omega)
  refine q_aload_n G (pc := 5) dX9_search_5 rfl ?_
  refine q_getR (x := wk + 1) G (pc := 6) dX9_search_6 (flw_12 hcw) hwk (hg hτ (hf_w_0 hwk hcw)) ?_
  refine q_aload_n G (pc := 9) dX9_search_9 rfl ?_
  refine q_cV1V G (pc := 10) dX9_search_10 cv_X9_33 (ly_w_0 hwk hcw) (s_X6_copy (by omega) hτ (ly_w_0 hwk hcw) hr (by omega) hRk) (Nat.le_of_ble_eq_true rfl) ?_
  intro hk2 hy
  obtain ⟨y1, y2⟩ := hy
  refine q_iconst (v := nI 0) G (pc := 13) dX9_search_13 (by decide) ?_
  refine q_istore_n G (pc := 14) dX9_search_14 (by decide) ?_
  show X _ [_, _, _, _] _ _ _ _
  have L15 : ∀ (zz : Nat) (i : Nat) (hk3 : mm_HI), 3 - i < zz → i ≤ 3 → (∀ j, j < i → hk3 (wk + 3) j = nI 1) → fr [wk + 3] hk2 hk3 → X 15 [some (.ref (wk)), some (.ref (sh)), some (.ref (r)), some (.int (nI (i)))] [] hk3 τ 125 := by
    intro zz
    induction zz with
    | zero => intro i hk3 hm; exact absurd hm (Nat.not_lt_zero _)
    | succ zz ih15 =>
      intro i hk3 hm h0 g3 g4
      have gR : rowF hk3 r n6 f6 t6 := (hRk.oth y2 (by omega)).keep (g4 _ (by simp; omega)) (g4 _ (by simp; omega))
      have gW : rowF hk3 (wk + 1) n6 f6 t6 := y1.keep (g4 _ (by simp)) (g4 _ (by simp))
      have gS : shF hk3 sh P nx nd := ((hS.frr hsh x4 (by omega)).frr hsh (frr.row y2 (a := wk) (b := wen wk) (by omega) (by omega)) (by omega)).frr hsh (a := wk) (b := wen wk) (fun c hc => g4 c (by simp; omega)) (by omega)
      have gI : Iv pv [] hk3 := hSt pv _ _ _ (hSt pv _ _ _ x1 (fun c hc => y2 c (by simp at hc ⊢; omega))) (fun c hc => g4 c (by simp at hc ⊢; omega))
      refine q_iload_n G (pc := 15) dX9_search_15 rfl ?_
      refine q_iconst (v := nI 3) G (pc := 16) dX9_search_16 (by decide) ?_
      refine q_icmp_geN (tgt := 33) G (pc := 17) dX9_search_17 (by decide) (by omega) (by omega) (fun c17 => ?_) (fun c17 => ?_)
      · refine q_aload_n G (pc := 33) dX9_search_33 rfl ?_
        refine q_aload_n G (pc := 34) dX9_search_34 rfl ?_
        refine q_iconst (v := nI 0) G (pc := 35) dX9_search_35 (by decide) ?_
        refine q_aload_n G (pc := 36) dX9_search_36 rfl ?_
        refine q_cV0E G (pc := 37) dX9_search_37 cv_X9_38 hr (s_X6_set (by omega) hτ hr gR) (Nat.le_of_ble_eq_true rfl) ?_
        refine q_iconst (v := nI 0) G (pc := 40) dX9_search_40 (by decide) ?_
        have hnod : ro = 1 → ∀ j l, j ≤ ([] : List (Nat × Nat)).length → l < pL P → hk3 (wk + 3) (j * 3 + l) = nI (nod nx P (([] : List (Nat × Nat)).take j) l) := by
          intro hro j l hj hl
          have e0 : j = 0 := by simpa using hj
          subst e0
          rw [show 0 * 3 + l = l by omega, g3 l (by omega)]
          rfl
        refine q_cU4V G (pc := 41) dX9_search_41 (cuw_42 hcw) hwk (s_X9_lengthen hτ hwk hcw (lf0 := mskF f6 n6) (Iv := Iv pv) (m := n6) (t0 := t6) (bw := bw) (ro := ro) (P := P) (nx := nx) (nd := nd) hsh hb2 hr2 hn6 hcm (hM pv) (hSt pv) n6 e hk3 [] [] (mskF f6 n6) (by omega) (by simp) ⟨⟨f6, t6, gW, hfs, fun j hj => absurd hj (Nat.not_lt_zero _), fun q hq => absurd hq List.not_mem_nil, fun _ => rfl⟩, hnod, by rw [g4 wk (by simp), y2 wk (by simp <;> omega), x2]; exact hbw, by rw [g4 wk (by simp), y2 wk (by simp <;> omega), x3]; exact hrw2⟩ gS gI (mskF_lt hf6) (mskF_pcn hf6 hinj) (fun q hq => absurd hq List.not_mem_nil) (fun s hs h1 => h1) (fun s hs h1 => Or.inl h1)) (Nat.le_of_ble_eq_true rfl) ?_
        intro hk4 hz
        obtain ⟨z1, z2, z3, z4⟩ := hz
        refine q_vret G (pc := 44) dX9_search_44 rfl ?_
        exact ⟨rfl, rfl, pv, x0, by simpa using z1, z3, (((x4.trans (frr.row y2 (by omega) (by omega))).trans (fun c hc => g4 c (by simp; omega))).trans z4), z2.2.2.1, z2.2.2.2⟩
      · refine q_aload_n G (pc := 20) dX9_search_20 rfl ?_
        refine q_getR (x := wk + 3) G (pc := 21) dX9_search_21 (flw_18 hcw) hwk (hg hτ (hf_w_3 hwk hcw)) ?_
        refine q_iload_n G (pc := 24) dX9_search_24 rfl ?_
        refine q_iconst (v := nI 1) G (pc := 25) dX9_search_25 (by decide) ?_
        refine q_iast (j := i) G (pc := 26) dX9_search_26 (ly_w_3 hwk hcw) rfl (by omega) ?_
        refine q_iincN G (pc := 27) dX9_search_27 rfl (inc1 _) (by decide) ?_
        show X _ [_, _, _, _] _ _ _ _
        refine q_goto (tgt := 15) G (pc := 30) dX9_search_30 (by decide) ?_
        refine ih15 (i + 1) _ (by omega) (by omega) (fun j hj => ?_) (g4.trans (fun c hc => by simp at hc; simp [va_up, hc]))
        by_cases q : j = i
        · subst q; simp [va_up]
        · simp [va_up, q]; exact g3 j (by omega)
  exact L15 _ 0 hk2 (Nat.lt_succ_self _) (by omega) (fun j hj => absurd hj (Nat.not_lt_zero _)) fr.rf
