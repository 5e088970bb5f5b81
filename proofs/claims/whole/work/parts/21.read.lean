/-! what a line reads: runs, right runs, letters, letters of right runs, and the run that has begun -/
abbrev RS : Type := Nat × Nat × Nat × Nat × List Nat
def endR (WL : List (List Nat)) (x : RS) : RS := if x.2.2.2.2 = [] then (x.1, x.2.1, x.2.2.1, x.2.2.2.1, []) else if x.2.2.2.2 ∈ WL then (x.1 + 1, x.2.1 + 1, x.2.2.1 + x.2.2.2.2.length, x.2.2.2.1 + x.2.2.2.2.length, []) else (x.1 + 1, x.2.1, x.2.2.1 + x.2.2.2.2.length, x.2.2.2.1, [])
def rdS (WL : List (List Nat)) (sq : Nat → Nat) : Nat → RS
  | 0 => (0, 0, 0, 0, [])
  | i + 1 => if sq i = 26 then endR WL (rdS WL sq i) else ((rdS WL sq i).1, (rdS WL sq i).2.1, (rdS WL sq i).2.2.1, (rdS WL sq i).2.2.2.1, (rdS WL sq i).2.2.2.2 ++ [sq i])
def rdE (WL : List (List Nat)) (sq : Nat → Nat) (m : Nat) : RS := endR WL (rdS WL sq m)
/-- the signs of a line of a row of strips -/
def sqF (P : PG) (f : Nat → Nat) (t l i : Nat) : Nat := shw P t (f (i / 2)) l (i % 2)
def rdF (hi : mm_HI) (rd : Nat) (x : RS) (nd : Nat) : Prop := hi rd 0 = nI x.1 ∧ hi rd 1 = nI x.2.1 ∧ hi rd 2 = nI x.2.2.1 ∧ hi rd 3 = nI x.2.2.2.1 ∧ hi rd 4 = nI nd ∧ hi rd 5 = nI x.2.2.2.2.length
theorem endR_nil (WL : List (List Nat)) (x : RS) : (endR WL x).2.2.2.2 = [] := by unfold endR; repeat' split
                                                                                  all_goals rfl
theorem rdS_cur {WL : List (List Nat)} {sq : Nat → Nat} (h : ∀ i, sq i ≤ 26) : ∀ i, (rdS WL sq i).2.2.2.2.length ≤ i ∧ ∀ c ∈ (rdS WL sq i).2.2.2.2, c < 26
  | 0 => ⟨Nat.le_refl 0, fun c hc => absurd hc List.not_mem_nil⟩
  | i + 1 => by
    have ih := rdS_cur (WL := WL) h i
    unfold rdS
    by_cases h2 : sq i = 26
    · rw [if_pos h2, endR_nil]
      exact ⟨Nat.zero_le _, fun c hc => absurd hc List.not_mem_nil⟩
    · rw [if_neg h2]
      refine ⟨by simp; omega, fun c hc => ?_⟩
      rcases List.mem_append.mp hc with q | q
      · exact ih.2 c q
      · rw [List.mem_singleton.mp q]; have := h i; omega
theorem rdS_bd {WL : List (List Nat)} {sq : Nat → Nat} : ∀ i, (rdS WL sq i).2.1 ≤ (rdS WL sq i).1 ∧ (rdS WL sq i).1 + (rdS WL sq i).2.2.2.2.length ≤ i ∧ (rdS WL sq i).2.2.1 + (rdS WL sq i).2.2.2.2.length ≤ i ∧ (rdS WL sq i).2.2.2.1 ≤ (rdS WL sq i).2.2.1
  | 0 => ⟨Nat.le_refl 0, Nat.le_refl 0, Nat.le_refl 0, Nat.le_refl 0⟩
  | i + 1 => by
    obtain ⟨a, b, c, d⟩ := rdS_bd (WL := WL) (sq := sq) i
    unfold rdS
    by_cases h2 : sq i = 26
    · rw [if_pos h2]
      unfold endR
      by_cases h3 : (rdS WL sq i).2.2.2.2 = []
      · rw [if_pos h3]
        refine ⟨a, ?_, ?_, d⟩ <;> simp <;> omega
      · have : 1 ≤ (rdS WL sq i).2.2.2.2.length := by
          rcases Nat.eq_zero_or_pos (rdS WL sq i).2.2.2.2.length with q | q
          · exact absurd (List.length_eq_zero_iff.mp q) h3
          · exact q
        rw [if_neg h3]
        split <;> refine ⟨?_, ?_, ?_, ?_⟩ <;> simp <;> omega
    · rw [if_neg h2]
      refine ⟨a, ?_, ?_, d⟩ <;> simp <;> omega
theorem rdE_bd {WL : List (List Nat)} {sq : Nat → Nat} (m : Nat) : (rdE WL sq m).2.1 ≤ (rdE WL sq m).1 ∧ (rdE WL sq m).1 ≤ m ∧ (rdE WL sq m).2.2.1 ≤ m ∧ (rdE WL sq m).2.2.2.1 ≤ (rdE WL sq m).2.2.1 := by
  have h := rdS_bd (WL := WL) (sq := fun i => if i = m then 26 else sq i) (m + 1)
  have e : ∀ i, i ≤ m → rdS WL (fun i => if i = m then 26 else sq i) i = rdS WL sq i := by
    intro i
    induction i with
    | zero => intro _; rfl
    | succ i ih =>
      intro hi
      unfold rdS
      rw [ih (by omega), if_neg (show ¬ i = m by omega)]
  have b := rdS_bd (WL := WL) (sq := sq) m
  unfold rdE endR
  by_cases h3 : (rdS WL sq m).2.2.2.2 = []
  · rw [if_pos h3]
    exact ⟨b.1, by show (rdS WL sq m).1 ≤ m; omega, by show (rdS WL sq m).2.2.1 ≤ m; omega, b.2.2.2⟩
  · have : 1 ≤ (rdS WL sq m).2.2.2.2.length := by
      rcases Nat.eq_zero_or_pos (rdS WL sq m).2.2.2.2.length with q | q
      · exact absurd (List.length_eq_zero_iff.mp q) h3
      · exact q
    rw [if_neg h3]
    split <;> refine ⟨?_, ?_, ?_, ?_⟩ <;> simp <;> omega
set_option maxHeartbeats 2000000 in
theorem s_X4_endRun {d : Nat} (hd : 2 ≤ d) {hi : mm_HI} {τ : mm_T} {sw : Bool} (hτ : τ.1 = mm_hr sw) {rd : Nat} (hrd : mm_lay rd = (0, 4)) {dc nd : Nat} {nx : Nat → Nat → Nat} {WL : List (List Nat)} {x : RS} (hdc : mm_lay dc = (0, 2)) (hD : dicF hi dc nx nd) (hT : trOK nx nd WL) (h1 : rd ≠ dc ∧ rd ≠ dc + 1) (hF : rdF hi rd x (wlk nx x.2.2.2.2)) (hx : ∀ c ∈ x.2.2.2.2, c < 26) (hb : x.2.2.2.2.length ≤ 100) : wV d yX4_endRun [.ref rd, .ref dc] hi τ (fun h => rdF h rd (endR WL x) 1 ∧ fr [rd] hi h) := by
  refine w_intro (by omega) M_X4_endRun (Nat.le_of_ble_eq_true rfl) rfl ?_
  intro e X he G
  show X 0 [some (.ref (rd)), some (.ref (dc))] [] hi τ 125
  obtain ⟨f0, f1, f2, f3, f4, f5⟩ := id hF
  have hd50 := hD.2.1
  have hwl : wlk nx x.2.2.2.2 < 50 := by
    by_cases hz : wlk nx x.2.2.2.2 = 0
    · omega
    · obtain ⟨lab, hl⟩ := hT.2.2.2.1
      have := (hl.lab hT.2.1 (fun b => hT.2.2.1 0 b (Or.inl rfl)) _ 1 (by omega) (by have := hT.1; omega) hx hz).2.1
      unfold wlk
      omega
  have h1a : dc ≠ rd := fun q => h1.1 q.symm
  have h1b : dc + 1 ≠ rd := fun q => h1.2 q.symm
  refine q_aload_n G (pc := 0) dX4_endRun_0 rfl ?_
  refine q_getI (v := nI (x.2.2.2.2.length)) G (pc := 1) dX4_endRun_1 fl_X4_29_4 (by decide) hrd f5 ?_
  refine q_if_leN (tgt := 64) G (pc := 4) dX4_endRun_4 (by decide) (by omega) (fun c4 => ?_) (fun c4 => ?_)
  · have c4n : x.2.2.2.2 = [] := List.length_eq_zero_iff.mp c4
    refine q_aload_n G (pc := 64) dX4_endRun_64 rfl ?_
    refine q_iconst (v := nI 1) G (pc := 65) dX4_endRun_65 (by decide) ?_
    refine q_putI G (pc := 66) dX4_endRun_66 fl_X4_26_4 hrd ?_
    refine q_aload_n G (pc := 69) dX4_endRun_69 rfl ?_
    refine q_iconst (v := nI 0) G (pc := 70) dX4_endRun_70 (by decide) ?_
    refine q_putI G (pc := 71) dX4_endRun_71 fl_X4_29_4 hrd ?_
    refine q_vret G (pc := 74) dX4_endRun_74 rfl ?_
    refine ⟨rfl, rfl, ?_, fun c hc => by simp at hc; simp [va_up, hc]⟩
    unfold endR
    rw [if_pos c4n]
    exact ⟨by simp [va_up, f0], by simp [va_up, f1], by simp [va_up, f2], by simp [va_up, f3], by simp [va_up], by simp [va_up]⟩
  · have c4n : x.2.2.2.2 ≠ [] := fun q => by rw [q] at c4; exact absurd c4 (by decide)
    refine q_aload_n G (pc := 7) dX4_endRun_7 rfl ?_
    refine q_dup G (pc := 8) dX4_endRun_8 rfl ?_
    refine q_getI (v := nI (x.1)) G (pc := 9) dX4_endRun_9 fl_X4_9_4 (by decide) hrd f0 ?_
    refine q_iconst (v := nI 1) G (pc := 12) dX4_endRun_12 (by decide) ?_
    refine q_iaddN G (pc := 13) dX4_endRun_13 ?_
    refine q_putI G (pc := 14) dX4_endRun_14 fl_X4_9_4 hrd ?_
    refine q_aload_n G (pc := 17) dX4_endRun_17 rfl ?_
    refine q_dup G (pc := 18) dX4_endRun_18 rfl ?_
    refine q_getI (v := nI (x.2.2.1)) G (pc := 19) dX4_endRun_19 fl_X4_18_4 (by decide) hrd (by simp [va_up, f2]) ?_
    refine q_aload_n G (pc := 22) dX4_endRun_22 rfl ?_
    refine q_getI (v := nI (x.2.2.2.2.length)) G (pc := 23) dX4_endRun_23 fl_X4_29_4 (by decide) hrd (by simp [va_up, f5]) ?_
    refine q_iaddN G (pc := 26) dX4_endRun_26 ?_
    refine q_putI G (pc := 27) dX4_endRun_27 fl_X4_18_4 hrd ?_
    refine q_aload_n G (pc := 30) dX4_endRun_30 rfl ?_
    refine q_aload_n G (pc := 31) dX4_endRun_31 rfl ?_
    refine q_getI (v := nI (wlk nx x.2.2.2.2)) G (pc := 32) dX4_endRun_32 fl_X4_26_4 (by decide) hrd (by simp [va_up, f4]) ?_
    refine q_cV1B G (pc := 35) dX4_endRun_35 cv_X4_63 hdc (s_X2_endsAt (by omega) hτ hdc (hD.keep (by simp [va_up, h1a]) (by simp [va_up, h1b])) (a := wlk nx x.2.2.2.2) (by omega) (by have := hT.2.1 (wlk nx x.2.2.2.2) 26; omega)) (Nat.le_of_ble_eq_true rfl) (fun c35 => ?_) (fun c35 => ?_)
    · have hm := (hT.word hx c4n).mp c35
      refine q_if_eqN (tgt := 64) G (pc := 38) dX4_endRun_38 (by decide) (by omega) (fun c38 => absurd c38 (by decide)) (fun _ => ?_)
      refine q_aload_n G (pc := 41) dX4_endRun_41 rfl ?_
      refine q_dup G (pc := 42) dX4_endRun_42 rfl ?_
      refine q_getI (v := nI (x.2.1)) G (pc := 43) dX4_endRun_43 fl_X4_15_4 (by decide) hrd (by simp [va_up, f1]) ?_
      refine q_iconst (v := nI 1) G (pc := 46) dX4_endRun_46 (by decide) ?_
      refine q_iaddN G (pc := 47) dX4_endRun_47 ?_
      refine q_putI G (pc := 48) dX4_endRun_48 fl_X4_15_4 hrd ?_
      refine q_aload_n G (pc := 51) dX4_endRun_51 rfl ?_
      refine q_dup G (pc := 52) dX4_endRun_52 rfl ?_
      refine q_getI (v := nI (x.2.2.2.1)) G (pc := 53) dX4_endRun_53 fl_X4_21_4 (by decide) hrd (by simp [va_up, f3]) ?_
      refine q_aload_n G (pc := 56) dX4_endRun_56 rfl ?_
      refine q_getI (v := nI (x.2.2.2.2.length)) G (pc := 57) dX4_endRun_57 fl_X4_29_4 (by decide) hrd (by simp [va_up, f5]) ?_
      refine q_iaddN G (pc := 60) dX4_endRun_60 ?_
      refine q_putI G (pc := 61) dX4_endRun_61 fl_X4_21_4 hrd ?_
      refine q_aload_n G (pc := 64) dX4_endRun_64 rfl ?_
      refine q_iconst (v := nI 1) G (pc := 65) dX4_endRun_65 (by decide) ?_
      refine q_putI G (pc := 66) dX4_endRun_66 fl_X4_26_4 hrd ?_
      refine q_aload_n G (pc := 69) dX4_endRun_69 rfl ?_
      refine q_iconst (v := nI 0) G (pc := 70) dX4_endRun_70 (by decide) ?_
      refine q_putI G (pc := 71) dX4_endRun_71 fl_X4_29_4 hrd ?_
      refine q_vret G (pc := 74) dX4_endRun_74 rfl ?_
      refine ⟨rfl, rfl, ?_, fun c hc => by simp at hc; simp [va_up, hc]⟩
      unfold endR
      rw [if_neg c4n, if_pos hm]
      exact ⟨by simp [va_up, f0], by simp [va_up, f1], by simp [va_up, f2], by simp [va_up, f3], by simp [va_up], by simp [va_up]⟩
    · have hm := fun q => c35 ((hT.word hx c4n).mpr q)
      refine q_if_eqN (tgt := 64) G (pc := 38) dX4_endRun_38 (by decide) (by omega) (fun _ => ?_) (fun c38 => absurd c38 (by decide))
      refine q_aload_n G (pc := 64) dX4_endRun_64 rfl ?_
      refine q_iconst (v := nI 1) G (pc := 65) dX4_endRun_65 (by decide) ?_
      refine q_putI G (pc := 66) dX4_endRun_66 fl_X4_26_4 hrd ?_
      refine q_aload_n G (pc := 69) dX4_endRun_69 rfl ?_
      refine q_iconst (v := nI 0) G (pc := 70) dX4_endRun_70 (by decide) ?_
      refine q_putI G (pc := 71) dX4_endRun_71 fl_X4_29_4 hrd ?_
      refine q_vret G (pc := 74) dX4_endRun_74 rfl ?_
      refine ⟨rfl, rfl, ?_, fun c hc => by simp at hc; simp [va_up, hc]⟩
      unfold endR
      rw [if_neg c4n, if_neg hm]
      exact ⟨by simp [va_up, f0], by simp [va_up, f1], by simp [va_up, f2], by simp [va_up, f3], by simp [va_up], by simp [va_up]⟩
set_option maxHeartbeats 2000000 in
theorem s_X4_read {d : Nat} (hd : 3 ≤ d) {hi : mm_HI} {τ : mm_T} {sw : Bool} (hτ : τ.1 = mm_hr sw) {rd : Nat} (hrd : mm_lay rd = (0, 4)) {sh nd r n6 t6 l : Nat} {P : PG} {nx : Nat → Nat → Nat} {f6 : Nat → Nat} (hsh : mm_lay sh = (0, 7)) (hF : shF hi sh P nx nd) (hr : mm_lay r = (0, 6)) (hR : rowF hi r n6 f6 t6) (hfs : ∀ j, j < n6 → f6 j < pS P) (hl : l < pL P) : wV d yX4_read [.ref rd, .ref sh, .ref r, .int (nI l)] hi τ (fun h => rdF h rd (rdE (pW P) (sqF P f6 t6 l) (2 * n6)) 1 ∧ fr [rd] hi h) := by
  refine w_intro (by omega) M_X4_read (Nat.le_of_ble_eq_true rfl) rfl ?_
  intro e X he G
  show X 0 [some (.ref (rd)), some (.ref (sh)), some (.ref (r)), some (.int (nI (l))), none, none, none] [] hi τ 125
  obtain ⟨f1, f2, f3, f4, f5, f6b, f7, f8, f9⟩ := id hF
  have hn6 := hR.2.2.2.1
  have hd50 := f7.2.1
  refine q_aload_n G (pc := 0) dX4_read_0 rfl ?_
  refine q_iconst (v := nI 0) G (pc := 1) dX4_read_1 (by decide) ?_
  refine q_putI G (pc := 2) dX4_read_2 fl_X4_9_4 hrd ?_
  refine q_aload_n G (pc := 5) dX4_read_5 rfl ?_
  refine q_iconst (v := nI 0) G (pc := 6) dX4_read_6 (by decide) ?_
  refine q_putI G (pc := 7) dX4_read_7 fl_X4_15_4 hrd ?_
  refine q_aload_n G (pc := 10) dX4_read_10 rfl ?_
  refine q_iconst (v := nI 0) G (pc := 11) dX4_read_11 (by decide) ?_
  refine q_putI G (pc := 12) dX4_read_12 fl_X4_18_4 hrd ?_
  refine q_aload_n G (pc := 15) dX4_read_15 rfl ?_
  refine q_iconst (v := nI 0) G (pc := 16) dX4_read_16 (by decide) ?_
  refine q_putI G (pc := 17) dX4_read_17 fl_X4_21_4 hrd ?_
  refine q_aload_n G (pc := 20) dX4_read_20 rfl ?_
  refine q_iconst (v := nI 1) G (pc := 21) dX4_read_21 (by decide) ?_
  refine q_putI G (pc := 22) dX4_read_22 fl_X4_26_4 hrd ?_
  refine q_aload_n G (pc := 25) dX4_read_25 rfl ?_
  refine q_iconst (v := nI 0) G (pc := 26) dX4_read_26 (by decide) ?_
  refine q_putI G (pc := 27) dX4_read_27 fl_X4_29_4 hrd ?_
  refine q_iconst (v := nI 0) G (pc := 30) dX4_read_30 (by decide) ?_
  refine q_istore G (pc := 31) dX4_read_31 (by decide) ?_
  show X _ [_, _, _, _, _, _, _] _ _ _ _
  have L33 : ∀ (m : Nat) (i : Nat) (hk : mm_HI) (v5 v6 : Option Value), 2 * n6 - i < m → i ≤ 2 * n6 → rdF hk rd (rdS (pW P) (sqF P f6 t6 l) i) (wlk nx (rdS (pW P) (sqF P f6 t6 l) i).2.2.2.2) → shF hk sh P nx nd → rowF hk r n6 f6 t6 → fr [rd] hi hk → X 33 [some (.ref (rd)), some (.ref (sh)), some (.ref (r)), some (.int (nI (l))), some (.int (nI (i))), v5, v6] [] hk τ 125 := by
    intro m
    induction m with
    | zero => intro i hk v5 v6 hm; exact absurd hm (Nat.not_lt_zero _)
    | succ m ih33 =>
      intro i hk v5 v6 hm h0 g1 g2 g3 g4
      obtain ⟨r1, r2, r3, r4, r5, r6⟩ := id g3
      have g2d := g2.2.2.2.2.2.2.1
      have hcur := rdS_cur (WL := pW P) (sq := sqF P f6 t6 l) (fun i => shW_le f4 _ _ _ _) i
      have hne3 : sh + 3 ≠ rd := by have := ly7 hsh; have := ly4 hrd; omega
      have hne4 : sh + 3 + 1 ≠ rd := by have := ly7 hsh; have := ly4 hrd; omega
      have hwl : wlk nx (rdS (pW P) (sqF P f6 t6 l) i).2.2.2.2 < 50 := by
        by_cases hz : wlk nx (rdS (pW P) (sqF P f6 t6 l) i).2.2.2.2 = 0
        · omega
        · obtain ⟨lab, hlb⟩ := f8.2.2.2.1
          have := (hlb.lab f8.2.1 (fun b => f8.2.2.1 0 b (Or.inl rfl)) _ 1 (by omega) (by have := f8.1; omega) hcur.2 hz).2.1
          unfold wlk
          omega
      refine q_iload G (pc := 33) dX4_read_33 rfl ?_
      refine q_iconst (v := nI 2) G (pc := 35) dX4_read_35 (by decide) ?_
      refine q_aload_n G (pc := 36) dX4_read_36 rfl ?_
      refine q_getI (v := nI (n6)) G (pc := 37) dX4_read_37 fl_X4_32_6 (by decide) hr r1 ?_
      refine q_imulN G (pc := 40) dX4_read_40 ?_
      refine q_icmp_geN (tgt := 125) G (pc := 41) dX4_read_41 (by decide) (by omega) (by omega) (fun c41 => ?_) (fun c41 => ?_)
      · refine q_aload_n G (pc := 125) dX4_read_125 rfl ?_
        refine q_aload_n G (pc := 126) dX4_read_126 rfl ?_
        refine q_getR (x := sh + 3) G (pc := 127) dX4_read_127 fl_X4_51_7 hsh (hg hτ (hf_7_5 hsh)) ?_
        refine q_cV1V G (pc := 130) dX4_read_130 cv_X4_55 hrd (s_X4_endRun (by omega) hτ hrd (ly_7_5 hsh) g2d f8 (by have := ly7 hsh; have := ly4 hrd; omega) g1 (hcur.2) (by omega)) (Nat.le_of_ble_eq_true rfl) ?_
        intro hk2 hx
        obtain ⟨x1, x2⟩ := hx
        refine q_vret G (pc := 133) dX4_read_133 rfl ?_
        rw [show i = 2 * n6 by omega] at x1
        exact ⟨rfl, rfl, x1, g4.trans x2⟩
      · refine q_aload_n G (pc := 44) dX4_read_44 rfl ?_
        refine q_getR (x := r + 1) G (pc := 45) dX4_read_45 fl_X4_37_6 hr (hg hτ (hf_6_0 hr)) ?_
        refine q_iload G (pc := 48) dX4_read_48 rfl ?_
        refine q_iconst (v := nI 2) G (pc := 50) dX4_read_50 (by decide) ?_
        refine q_idivN G (pc := 51) dX4_read_51 (by omega) (by omega) (by omega) ?_
        refine q_iald (j := i / 2) (v := nI (f6 (i / 2))) G (pc := 52) dX4_read_52 (ly_6_0 hr) rfl (by omega) (r3 _ (by omega)) ?_
        refine q_istore G (pc := 53) dX4_read_53 (by decide) ?_
        show X _ [_, _, _, _, _, _, _] _ _ _ _
        refine q_aload_n G (pc := 55) dX4_read_55 rfl ?_
        refine q_iload G (pc := 56) dX4_read_56 rfl ?_
        refine q_aload_n G (pc := 58) dX4_read_58 rfl ?_
        refine q_iload G (pc := 59) dX4_read_59 rfl ?_
        refine q_cV1E G (pc := 61) dX4_read_61 cv_X4_41 hr (s_X6_wayOf (by omega) hτ hr g3 (s := f6 (i / 2)) (r5 _ (by omega))) (Nat.le_of_ble_eq_true rfl) ?_
        refine q_iload_n G (pc := 64) dX4_read_64 rfl ?_
        refine q_iload G (pc := 65) dX4_read_65 rfl ?_
        refine q_iconst (v := nI 2) G (pc := 67) dX4_read_67 (by decide) ?_
        refine q_iremN G (pc := 68) dX4_read_68 (by omega) (by omega) (by omega) ?_
        refine q_cV4E G (pc := 69) dX4_read_69 cv_X4_45 hsh (s_X7_shown (by omega) hτ hsh g2 (s := f6 (i / 2)) (w := t6 / 2 ^ f6 (i / 2) % 2) (l := l) (i := i % 2) (hfs _ (by omega)) (by omega) hl (by omega)) (Nat.le_of_ble_eq_true rfl) ?_
        have hle := shW_le f4 (t6 / 2 ^ f6 (i / 2) % 2) (f6 (i / 2)) l (i % 2)
        have hle2 : sqF P f6 t6 l i ≤ 26 := hle
        change X _ _ (.int (nI (sqF P f6 t6 l i)) :: _) _ _ _
        refine q_istore G (pc := 72) dX4_read_72 (by decide) ?_
        show X _ [_, _, _, _, _, _, _] _ _ _ _
        refine q_iload G (pc := 74) dX4_read_74 rfl ?_
        refine q_bipush (v := nI 26) G (pc := 76) dX4_read_76 (by decide) ?_
        refine q_icmp_neN (tgt := 92) G (pc := 78) dX4_read_78 (by decide) (by omega) (by omega) (fun c78 => ?_) (fun c78 => ?_)
        · refine q_aload_n G (pc := 92) dX4_read_92 rfl ?_
          refine q_dup G (pc := 93) dX4_read_93 rfl ?_
          refine q_getI (v := nI ((rdS (pW P) (sqF P f6 t6 l) i).2.2.2.2.length)) G (pc := 94) dX4_read_94 fl_X4_29_4 (by decide) hrd g1.2.2.2.2.2 ?_
          refine q_iconst (v := nI 1) G (pc := 97) dX4_read_97 (by decide) ?_
          refine q_iaddN G (pc := 98) dX4_read_98 ?_
          refine q_putI G (pc := 99) dX4_read_99 fl_X4_29_4 hrd ?_
          refine q_aload_n G (pc := 102) dX4_read_102 rfl ?_
          refine q_aload_n G (pc := 103) dX4_read_103 rfl ?_
          refine q_getR (x := sh + 3) G (pc := 104) dX4_read_104 fl_X4_51_7 hsh (hg hτ (hf_7_5 hsh)) ?_
          refine q_aload_n G (pc := 107) dX4_read_107 rfl ?_
          refine q_getI (v := nI (wlk nx (rdS (pW P) (sqF P f6 t6 l) i).2.2.2.2)) G (pc := 108) dX4_read_108 fl_X4_26_4 (by decide) hrd (by simp [va_up, g1.2.2.2.2.1]) ?_
          refine q_iload G (pc := 111) dX4_read_111 rfl ?_
          refine q_cV2E G (pc := 113) dX4_read_113 cv_X4_59 (ly_7_5 hsh) (s_X2_step (by omega) hτ (ly_7_5 hsh) (g2d.keep (by simp [va_up, hne3]) (by simp [va_up, hne4])) (a := wlk nx (rdS (pW P) (sqF P f6 t6 l) i).2.2.2.2) (b := sqF P f6 t6 l i) hwl (by omega)) (Nat.le_of_ble_eq_true rfl) ?_
          refine q_putI G (pc := 116) dX4_read_116 fl_X4_26_4 hrd ?_
          refine q_iincN G (pc := 119) dX4_read_119 rfl (inc1 _) (by decide) ?_
          show X _ [_, _, _, _, _, _, _] _ _ _ _
          refine q_goto (tgt := 33) G (pc := 122) dX4_read_122 (by decide) ?_
          have x2 : fr [rd] hk (mm_up2 (mm_up2 hk rd 5 (nI ((rdS (pW P) (sqF P f6 t6 l) i).2.2.2.2.length + 1))) rd 4 (nI (nx (wlk nx (rdS (pW P) (sqF P f6 t6 l) i).2.2.2.2) (sqF P f6 t6 l i)))) := fun c hc => by simp at hc; simp [va_up, hc]
          refine ih33 (i + 1) _ _ _ (by omega) (by omega) ?_ (g2.rd hsh hrd x2) (g3.rd hr hrd x2) (g4.trans x2)
          have e : rdS (pW P) (sqF P f6 t6 l) (i + 1) = ((rdS (pW P) (sqF P f6 t6 l) i).1, (rdS (pW P) (sqF P f6 t6 l) i).2.1, (rdS (pW P) (sqF P f6 t6 l) i).2.2.1, (rdS (pW P) (sqF P f6 t6 l) i).2.2.2.1, (rdS (pW P) (sqF P f6 t6 l) i).2.2.2.2 ++ [sqF P f6 t6 l i]) := by show (if _ = 26 then _ else _) = _; rw [if_neg c78]
          rw [e]
          refine ⟨by simp [va_up, g1.1], by simp [va_up, g1.2.1], by simp [va_up, g1.2.2.1], by simp [va_up, g1.2.2.2.1], ?_, by simp [va_up]⟩
          have e2 : wlk nx ((rdS (pW P) (sqF P f6 t6 l) i).2.2.2.2 ++ [sqF P f6 t6 l i]) = nx (wlk nx (rdS (pW P) (sqF P f6 t6 l) i).2.2.2.2) (sqF P f6 t6 l i) := by unfold wlk; rw [List.foldl_append]; rfl
          show _ = nI (wlk nx ((rdS (pW P) (sqF P f6 t6 l) i).2.2.2.2 ++ [sqF P f6 t6 l i]))
          rw [e2]
          simp [va_up]
        · refine q_aload_n G (pc := 81) dX4_read_81 rfl ?_
          refine q_aload_n G (pc := 82) dX4_read_82 rfl ?_
          refine q_getR (x := sh + 3) G (pc := 83) dX4_read_83 fl_X4_51_7 hsh (hg hτ (hf_7_5 hsh)) ?_
          refine q_cV1V G (pc := 86) dX4_read_86 cv_X4_55 hrd (s_X4_endRun (by omega) hτ hrd (ly_7_5 hsh) g2d f8 (by have := ly7 hsh; have := ly4 hrd; omega) g1 (hcur.2) (by omega)) (Nat.le_of_ble_eq_true rfl) ?_
          intro hk2 hx
          obtain ⟨x1, x2⟩ := hx
          refine q_goto (tgt := 119) G (pc := 89) dX4_read_89 (by decide) ?_
          refine q_iincN G (pc := 119) dX4_read_119 rfl (inc1 _) (by decide) ?_
          show X _ [_, _, _, _, _, _, _] _ _ _ _
          refine q_goto (tgt := 33) G (pc := 122) dX4_read_122 (by decide) ?_
          refine ih33 (i + 1) hk2 _ _ (by omega) (by omega) ?_ (g2.rd hsh hrd x2) (g3.rd hr hrd x2) (g4.trans x2)
          have e : rdS (pW P) (sqF P f6 t6 l) (i + 1) = endR (pW P) (rdS (pW P) (sqF P f6 t6 l) i) := by show (if _ = 26 then _ else _) = _; rw [if_pos c78]
          rw [e, endR_nil]
          exact x1
  have x0 : fr [rd] hi (mm_up2 (mm_up2 (mm_up2 (mm_up2 (mm_up2 (mm_up2 hi rd 0 (nI 0)) rd 1 (nI 0)) rd 2 (nI 0)) rd 3 (nI 0)) rd 4 (nI 1)) rd 5 (nI 0)) := fun c hc => by simp at hc; simp [va_up, hc]
  exact L33 _ 0 _ _ _ (Nat.lt_succ_self _) (by omega) ⟨by simp [va_up, rdS], by simp [va_up, rdS], by simp [va_up, rdS], by simp [va_up, rdS], by simp [va_up, rdS, wlk], by simp [va_up, rdS]⟩ (hF.rd hsh hrd x0) (hR.rd hr hrd x0) x0
