/-! a page: lines, strips, signs as told (26: blank), words -/
abbrev PG : Type := Nat × Nat × (Nat → Nat → Nat → Nat) × List (List Nat)
abbrev pL (P : PG) : Nat := P.1
abbrev pS (P : PG) : Nat := P.2.1
abbrev pG (P : PG) : Nat → Nat → Nat → Nat := P.2.2.1
abbrev pW (P : PG) : List (List Nat) := P.2.2.2
def pOK (P : PG) : Prop := 1 ≤ pL P ∧ pL P ≤ 3 ∧ pS P ≤ 6 ∧ (∀ s l i, pG P s l i ≤ 26) ∧ (pW P).length ≤ 8 ∧ ∀ u ∈ pW P, 1 ≤ u.length ∧ u.length ≤ 6 ∧ ∀ c ∈ u, c < 26
def shW (P : PG) (w s l i : Nat) : Nat := if w = 1 then pG P s (pL P - 1 - l) (1 - i) else pG P s l i
def shw (P : PG) (t s l i : Nat) : Nat := shW P (t / 2 ^ s % 2) s l i
def sgF (hi : mm_HI) (sh : Nat) (P : PG) : Prop := ∀ s, s < pS P → ∀ w, w < 2 → ∀ l, l < pL P → ∀ i, i < 2 → hi (sh + 5) (((s * 2 + w) * 3 + l) * 2 + i) = nI (shW P w s l i)
def wdF (hi : mm_HI) (sh : Nat) (P : PG) : Prop := ∀ w, w < (pW P).length → hi (sh + 2) w = nI ((pW P).getD w []).length ∧ ∀ i, i < ((pW P).getD w []).length → hi (sh + 1) (w * 6 + i) = nI (((pW P).getD w []).getD i 0)
def shF (hi : mm_HI) (sh : Nat) (P : PG) (nx : Nat → Nat → Nat) (nd : Nat) : Prop := hi sh 0 = nI (pL P) ∧ hi sh 1 = nI (pS P) ∧ hi sh 2 = nI (pW P).length ∧ pOK P ∧ sgF hi sh P ∧ wdF hi sh P ∧ dicF hi (sh + 3) nx nd ∧ trOK nx nd (pW P) ∧ nd ≤ 2 + 6 * (pW P).length
theorem shW_le {P : PG} (h : pOK P) (w s l i : Nat) : shW P w s l i ≤ 26 := by unfold shW; split <;> exact h.2.2.2.1 _ _ _
theorem shF.keep {x y : mm_HI} {sh nd : Nat} {P : PG} {nx : Nat → Nat → Nat} (h : shF x sh P nx nd) (hk : ∀ c, sh ≤ c → c < sh + 6 → y c = x c) : shF y sh P nx nd := by
  obtain ⟨a1, a2, a3, a4, a5, a6, a7, a8, a9⟩ := h
  refine ⟨by rw [hk sh (by omega) (by omega)]; exact a1, by rw [hk sh (by omega) (by omega)]; exact a2, by rw [hk sh (by omega) (by omega)]; exact a3, a4, fun s hs w hw l hl i hi => by rw [hk (sh + 5) (by omega) (by omega)]; exact a5 s hs w hw l hl i hi, fun w hw => ?_, a7.keep (hk _ (by omega) (by omega)) (hk _ (by omega) (by omega)), a8, a9⟩
  rw [hk (sh + 2) (by omega) (by omega), hk (sh + 1) (by omega) (by omega)]
  exact a6 w hw
theorem ly7 {x : Nat} (h : mm_lay x = (0, 7)) : x = 3 ∨ x = 9 := by
  have a : ∀ x, x < 125 → mm_lay x = (0, 7) → x = 3 ∨ x = 9 := by decide +kernel
  exact a x (ly_lt h (by decide)) h
theorem ly4 {x : Nat} (h : mm_lay x = (0, 4)) : x = 87 ∨ x = 103 := by
  have a : ∀ x, x < 125 → mm_lay x = (0, 4) → x = 87 ∨ x = 103 := by decide +kernel
  exact a x (ly_lt h (by decide)) h
theorem ly6 {x : Nat} (h : mm_lay x = (0, 6)) : 16 ≤ x ∧ x < 105 ∧ x ≠ 87 ∧ x ≠ 103 ∧ x ≠ 86 ∧ x ≠ 102 := by
  have a : ∀ x, x < 125 → mm_lay x = (0, 6) → 16 ≤ x ∧ x < 105 ∧ x ≠ 87 ∧ x ≠ 103 ∧ x ≠ 86 ∧ x ≠ 102 := by decide +kernel
  exact a x (ly_lt h (by decide)) h
theorem shF.rd {x y : mm_HI} {sh nd rd : Nat} {P : PG} {nx : Nat → Nat → Nat} (h : shF x sh P nx nd) (hsh : mm_lay sh = (0, 7)) (hrd : mm_lay rd = (0, 4)) (hf : fr [rd] x y) : shF y sh P nx nd := h.keep (fun c h1 h2 => hf c (by have := ly7 hsh; have := ly4 hrd; simp; omega))
theorem rowF.rd {x y : mm_HI} {r n t rd : Nat} {f : Nat → Nat} (h : rowF x r n f t) (hr : mm_lay r = (0, 6)) (hrd : mm_lay rd = (0, 4)) (hf : fr [rd] x y) : rowF y r n f t := h.keep (hf _ (by have := ly6 hr; have := ly4 hrd; simp; omega)) (hf _ (by have := ly6 hr; have := ly4 hrd; simp; omega))
def letM (g : Nat → Nat) : Nat → Nat
  | 0 => 0
  | k + 1 => if g k = 26 then letM g k else letM g k ||| 2 ^ g k
def blkM (g : Nat → Nat) : Nat → Nat
  | 0 => 0
  | k + 1 => if g k = 26 then blkM g k + 1 else blkM g k
theorem blkM_le (g : Nat → Nat) : ∀ k, blkM g k ≤ k
  | 0 => Nat.le_refl 0
  | k + 1 => by have := blkM_le g k; unfold blkM; split <;> omega
theorem or_nI (a b : Nat) : nI a ||| nI b = nI (a ||| b) := by
  apply Int32.toBitVec_inj.mp
  simp [nI, Int32.toBitVec_or, Int32.toBitVec_ofNat, BitVec.ofNat_or]
theorem bit26 : ∀ c, c < 27 → (1 : Int32) <<< (nI c &&& 31) = nI (2 ^ c) := by decide +kernel
set_option maxHeartbeats 2000000 in
theorem s_X7_spotOf {d : Nat} (hd : 1 ≤ d) {hi : mm_HI} {τ : mm_T} {s w l : Nat} : wE d yX7_spotOf [.int (nI s), .int (nI w), .int (nI l)] hi τ (nI (((s * 2 + w) * 3 + l) * 2)) := by
  refine w_intro (by omega) M_X7_spotOf (Nat.le_of_ble_eq_true rfl) rfl ?_
  intro e X he G
  show X 0 [some (.int (nI (s))), some (.int (nI (w))), some (.int (nI (l)))] [] hi τ 125
  refine q_iload_n G (pc := 0) dX7_spotOf_0 rfl ?_
  refine q_iconst (v := nI 2) G (pc := 1) dX7_spotOf_1 (by decide) ?_
  refine q_imulN G (pc := 2) dX7_spotOf_2 ?_
  refine q_iload_n G (pc := 3) dX7_spotOf_3 rfl ?_
  refine q_iaddN G (pc := 4) dX7_spotOf_4 ?_
  refine q_iconst (v := nI 3) G (pc := 5) dX7_spotOf_5 (by decide) ?_
  refine q_imulN G (pc := 6) dX7_spotOf_6 ?_
  refine q_iload_n G (pc := 7) dX7_spotOf_7 rfl ?_
  refine q_iaddN G (pc := 8) dX7_spotOf_8 ?_
  refine q_iconst (v := nI 2) G (pc := 9) dX7_spotOf_9 (by decide) ?_
  refine q_imulN G (pc := 10) dX7_spotOf_10 ?_
  refine q_iret G (pc := 11) dX7_spotOf_11 (Or.inl rfl) ?_
  exact ⟨rfl, rfl, rfl⟩
set_option maxHeartbeats 2000000 in
theorem s_X7_shown {d : Nat} (hd : 2 ≤ d) {hi : mm_HI} {τ : mm_T} {sw : Bool} (hτ : τ.1 = mm_hr sw) {sh nd : Nat} {P : PG} {nx : Nat → Nat → Nat} (hsh : mm_lay sh = (0, 7)) (hF : shF hi sh P nx nd) {s w l i : Nat} (hs : s < pS P) (hw : w < 2) (hl : l < pL P) (hi2 : i < 2) : wE d yX7_shown [.ref sh, .int (nI s), .int (nI w), .int (nI l), .int (nI i)] hi τ (nI (shW P w s l i)) := by
  refine w_intro (by omega) M_X7_shown (Nat.le_of_ble_eq_true rfl) rfl ?_
  intro e X he G
  show X 0 [some (.ref (sh)), some (.int (nI (s))), some (.int (nI (w))), some (.int (nI (l))), some (.int (nI (i)))] [] hi τ 125
  obtain ⟨f1, f2, f3, f4, f5, f6, f7, f8, f9⟩ := id hF
  obtain ⟨o1, o2, o3, o4, o5, o6⟩ := id f4
  refine q_aload_n G (pc := 0) dX7_shown_0 rfl ?_
  refine q_getR (x := sh + 5) G (pc := 1) dX7_shown_1 fl_X7_29_7 hsh (hg hτ (hf_7_6 hsh)) ?_
  refine q_iload_n G (pc := 4) dX7_shown_4 rfl ?_
  refine q_iload_n G (pc := 5) dX7_shown_5 rfl ?_
  refine q_iload_n G (pc := 6) dX7_shown_6 rfl ?_
  refine q_cS3E G (pc := 7) dX7_shown_7 cs_X7_41 (s_X7_spotOf (by omega)) (Nat.le_of_ble_eq_true rfl) ?_
  refine q_iload G (pc := 10) dX7_shown_10 rfl ?_
  refine q_iaddN G (pc := 12) dX7_shown_12 ?_
  refine q_iald (j := ((s * 2 + w) * 3 + l) * 2 + i) (v := nI (shW P w s l i)) G (pc := 13) dX7_shown_13 (ly_7_6 hsh) rfl (by omega) (f5 s hs w hw l hl i hi2) ?_
  refine q_iret G (pc := 14) dX7_shown_14 (Or.inl rfl) ?_
  exact ⟨rfl, rfl, rfl⟩
set_option maxHeartbeats 2000000 in
theorem s_X7_pass {d : Nat} (hd : 2 ≤ d) {hi : mm_HI} {τ : mm_T} {sw : Bool} (hτ : τ.1 = mm_hr sw) {sh nd : Nat} {P : PG} {nx : Nat → Nat → Nat} (hsh : mm_lay sh = (0, 7)) (hF : shF hi sh P nx nd) {a s w l : Nat} (ha : a < 50) (hs : s < pS P) (hw : w < 2) (hl : l < pL P) : wE d yX7_pass [.ref sh, .int (nI a), .int (nI s), .int (nI w), .int (nI l)] hi τ (nI (nx (nx a (shW P w s l 0)) (shW P w s l 1))) := by
  refine w_intro (by omega) M_X7_pass (Nat.le_of_ble_eq_true rfl) rfl ?_
  intro e X he G
  show X 0 [some (.ref (sh)), some (.int (nI (a))), some (.int (nI (s))), some (.int (nI (w))), some (.int (nI (l))), none] [] hi τ 125
  obtain ⟨f1, f2, f3, f4, f5, f6, f7, f8, f9⟩ := id hF
  obtain ⟨o1, o2, o3, o4, o5, o6⟩ := id f4
  have f7b := f7.2.1
  refine q_iload_n G (pc := 0) dX7_pass_0 rfl ?_
  refine q_iload_n G (pc := 1) dX7_pass_1 rfl ?_
  refine q_iload G (pc := 2) dX7_pass_2 rfl ?_
  refine q_cS3E G (pc := 4) dX7_pass_4 cs_X7_41 (s_X7_spotOf (by omega)) (Nat.le_of_ble_eq_true rfl) ?_
  refine q_istore G (pc := 7) dX7_pass_7 (by decide) ?_
  show X _ [_, _, _, _, _, _] _ _ _ _
  refine q_aload_n G (pc := 9) dX7_pass_9 rfl ?_
  refine q_getR (x := sh + 3) G (pc := 10) dX7_pass_10 fl_X7_25_7 hsh (hg hτ (hf_7_5 hsh)) ?_
  refine q_aload_n G (pc := 13) dX7_pass_13 rfl ?_
  refine q_getR (x := sh + 3) G (pc := 14) dX7_pass_14 fl_X7_25_7 hsh (hg hτ (hf_7_5 hsh)) ?_
  refine q_iload_n G (pc := 17) dX7_pass_17 rfl ?_
  refine q_aload_n G (pc := 18) dX7_pass_18 rfl ?_
  refine q_getR (x := sh + 5) G (pc := 19) dX7_pass_19 fl_X7_29_7 hsh (hg hτ (hf_7_6 hsh)) ?_
  refine q_iload G (pc := 22) dX7_pass_22 rfl ?_
  refine q_iald (j := ((s * 2 + w) * 3 + l) * 2 + 0) (v := nI (shW P w s l 0)) G (pc := 24) dX7_pass_24 (ly_7_6 hsh) rfl (by omega) (f5 s hs w hw l hl 0 (by omega)) ?_
  refine q_cV2E G (pc := 25) dX7_pass_25 cv_X7_49 (ly_7_5 hsh) (s_X2_step (by omega) hτ (ly_7_5 hsh) f7 (a := a) (b := shW P w s l 0) ha (by have := shW_le f4 w s l 0; omega)) (Nat.le_of_ble_eq_true rfl) ?_
  refine q_aload_n G (pc := 28) dX7_pass_28 rfl ?_
  refine q_getR (x := sh + 5) G (pc := 29) dX7_pass_29 fl_X7_29_7 hsh (hg hτ (hf_7_6 hsh)) ?_
  refine q_iload G (pc := 32) dX7_pass_32 rfl ?_
  refine q_iconst (v := nI 1) G (pc := 34) dX7_pass_34 (by decide) ?_
  refine q_iaddN G (pc := 35) dX7_pass_35 ?_
  refine q_iald (j := ((s * 2 + w) * 3 + l) * 2 + 1) (v := nI (shW P w s l 1)) G (pc := 36) dX7_pass_36 (ly_7_6 hsh) rfl (by omega) (f5 s hs w hw l hl 1 (by omega)) ?_
  refine q_cV2E G (pc := 37) dX7_pass_37 cv_X7_49 (ly_7_5 hsh) (s_X2_step (by omega) hτ (ly_7_5 hsh) f7 (a := nx a (shW P w s l 0)) (b := shW P w s l 1) (by have := f8.2.1 a (shW P w s l 0); omega) (by have := shW_le f4 w s l 1; omega)) (Nat.le_of_ble_eq_true rfl) ?_
  refine q_iret G (pc := 40) dX7_pass_40 (Or.inl rfl) ?_
  exact ⟨rfl, rfl, rfl⟩
set_option maxHeartbeats 2000000 in
theorem s_X7_lettersOn {d : Nat} (hd : 2 ≤ d) {hi : mm_HI} {τ : mm_T} {sw : Bool} (hτ : τ.1 = mm_hr sw) {sh nd : Nat} {P : PG} {nx : Nat → Nat → Nat} (hsh : mm_lay sh = (0, 7)) (hF : shF hi sh P nx nd) {s : Nat} (hs : s < pS P) : wE d yX7_lettersOn [.ref sh, .int (nI s)] hi τ (nI (letM (fun k => pG P s (k / 2) (k % 2)) (2 * pL P))) := by
  refine w_intro (by omega) M_X7_lettersOn (Nat.le_of_ble_eq_true rfl) rfl ?_
  intro e X he G
  show X 0 [some (.ref (sh)), some (.int (nI (s))), none, none, none] [] hi τ 125
  obtain ⟨f1, f2, f3, f4, f5, f6, f7, f8, f9⟩ := id hF
  obtain ⟨o1, o2, o3, o4, o5, o6⟩ := id f4
  refine q_iconst (v := nI 0) G (pc := 0) dX7_lettersOn_0 (by decide) ?_
  refine q_istore_n G (pc := 1) dX7_lettersOn_1 (by decide) ?_
  show X _ [_, _, _, _, _] _ _ _ _
  refine q_iload_n G (pc := 2) dX7_lettersOn_2 rfl ?_
  refine q_iconst (v := nI 0) G (pc := 3) dX7_lettersOn_3 (by decide) ?_
  refine q_iconst (v := nI 0) G (pc := 4) dX7_lettersOn_4 (by decide) ?_
  refine q_cS3E G (pc := 5) dX7_lettersOn_5 cs_X7_41 (s_X7_spotOf (by omega)) (Nat.le_of_ble_eq_true rfl) ?_
  refine q_istore_n G (pc := 8) dX7_lettersOn_8 (by decide) ?_
  show X _ [_, _, _, _, _] _ _ _ _
  refine q_iload_n G (pc := 9) dX7_lettersOn_9 rfl ?_
  refine q_istore G (pc := 10) dX7_lettersOn_10 (by decide) ?_
  show X _ [_, _, _, _, _] _ _ _ _
  have L12 : ∀ (m : Nat) (k : Nat), 2 * pL P - k < m → k ≤ 2 * pL P → X 12 [some (.ref (sh)), some (.int (nI (s))), some (.int (nI (letM (fun k => pG P s (k / 2) (k % 2)) k))), some (.int (nI (((s * 2 + 0) * 3 + 0) * 2))), some (.int (nI (((s * 2 + 0) * 3 + 0) * 2 + k)))] [] hi τ 125 := by
    intro m
    induction m with
    | zero => intro k hm; exact absurd hm (Nat.not_lt_zero _)
    | succ m ih12 =>
      intro k hm h0
      refine q_iload G (pc := 12) dX7_lettersOn_12 rfl ?_
      refine q_iload_n G (pc := 14) dX7_lettersOn_14 rfl ?_
      refine q_iconst (v := nI 2) G (pc := 15) dX7_lettersOn_15 (by decide) ?_
      refine q_aload_n G (pc := 16) dX7_lettersOn_16 rfl ?_
      refine q_getI (v := nI (pL P)) G (pc := 17) dX7_lettersOn_17 fl_X7_9_7 (by decide) hsh f1 ?_
      refine q_imulN G (pc := 20) dX7_lettersOn_20 ?_
      refine q_iaddN G (pc := 21) dX7_lettersOn_21 ?_
      refine q_icmp_geN (tgt := 55) G (pc := 22) dX7_lettersOn_22 (by decide) (by omega) (by omega) (fun c22 => ?_) (fun c22 => ?_)
      · refine q_iload_n G (pc := 55) dX7_lettersOn_55 rfl ?_
        refine q_iret G (pc := 56) dX7_lettersOn_56 (Or.inl rfl) ?_
        exact ⟨rfl, rfl, by rw [show k = 2 * pL P by omega]⟩
      · refine q_aload_n G (pc := 25) dX7_lettersOn_25 rfl ?_
        refine q_getR (x := sh + 5) G (pc := 26) dX7_lettersOn_26 fl_X7_29_7 hsh (hg hτ (hf_7_6 hsh)) ?_
        refine q_iload G (pc := 29) dX7_lettersOn_29 rfl ?_
        have hle := o4 s (k / 2) (k % 2)
        refine q_iald (j := ((s * 2 + 0) * 3 + k / 2) * 2 + k % 2) (v := nI (pG P s (k / 2) (k % 2))) G (pc := 31) dX7_lettersOn_31 (ly_7_6 hsh) (congrArg nI (by omega)) (by omega) (f5 s hs 0 (by omega) (k / 2) (by omega) (k % 2) (by omega)) ?_
        refine q_bipush (v := nI 26) G (pc := 32) dX7_lettersOn_32 (by decide) ?_
        refine q_icmp_eqN (tgt := 49) G (pc := 34) dX7_lettersOn_34 (by decide) (by omega) (by omega) (fun c34 => ?_) (fun c34 => ?_)
        · refine q_iincN G (pc := 49) dX7_lettersOn_49 rfl (inc1 _) (by decide) ?_
          show X _ [_, _, _, _, _] _ _ _ _
          refine q_goto (tgt := 12) G (pc := 52) dX7_lettersOn_52 (by decide) ?_
          have e : letM (fun k => pG P s (k / 2) (k % 2)) (k + 1) = letM (fun k => pG P s (k / 2) (k % 2)) k := by show (if _ = 26 then _ else _) = _; rw [if_pos c34]
          have z := ih12 (k + 1) (by omega) (by omega)
          rw [e] at z
          exact z
        · refine q_iload_n G (pc := 37) dX7_lettersOn_37 rfl ?_
          refine q_iconst (v := 1) G (pc := 38) dX7_lettersOn_38 (by decide) ?_
          refine q_aload_n G (pc := 39) dX7_lettersOn_39 rfl ?_
          refine q_getR (x := sh + 5) G (pc := 40) dX7_lettersOn_40 fl_X7_29_7 hsh (hg hτ (hf_7_6 hsh)) ?_
          refine q_iload G (pc := 43) dX7_lettersOn_43 rfl ?_
          refine q_iald (j := ((s * 2 + 0) * 3 + k / 2) * 2 + k % 2) (v := nI (pG P s (k / 2) (k % 2))) G (pc := 45) dX7_lettersOn_45 (ly_7_6 hsh) (congrArg nI (by omega)) (by omega) (f5 s hs 0 (by omega) (k / 2) (by omega) (k % 2) (by omega)) ?_
          refine q_ishl G (pc := 46) dX7_lettersOn_46 ?_
          rw [bit26 _ (by omega)]
          refine q_ior G (pc := 47) dX7_lettersOn_47 ?_
          rw [or_nI]
          refine q_istore_n G (pc := 48) dX7_lettersOn_48 (by decide) ?_
          show X _ [_, _, _, _, _] _ _ _ _
          refine q_iincN G (pc := 49) dX7_lettersOn_49 rfl (inc1 _) (by decide) ?_
          show X _ [_, _, _, _, _] _ _ _ _
          refine q_goto (tgt := 12) G (pc := 52) dX7_lettersOn_52 (by decide) ?_
          have e : letM (fun k => pG P s (k / 2) (k % 2)) (k + 1) = letM (fun k => pG P s (k / 2) (k % 2)) k ||| 2 ^ pG P s (k / 2) (k % 2) := by show (if _ = 26 then _ else _) = _; rw [if_neg c34]
          have z := ih12 (k + 1) (by omega) (by omega)
          rw [e] at z
          exact z
  exact L12 _ 0 (Nat.lt_succ_self _) (by omega)
set_option maxHeartbeats 2000000 in
theorem s_X7_blanksOn {d : Nat} (hd : 2 ≤ d) {hi : mm_HI} {τ : mm_T} {sw : Bool} (hτ : τ.1 = mm_hr sw) {sh nd : Nat} {P : PG} {nx : Nat → Nat → Nat} (hsh : mm_lay sh = (0, 7)) (hF : shF hi sh P nx nd) {s : Nat} (hs : s < pS P) : wE d yX7_blanksOn [.ref sh, .int (nI s)] hi τ (nI (blkM (fun k => pG P s (k / 2) (k % 2)) (2 * pL P))) := by
  refine w_intro (by omega) M_X7_blanksOn (Nat.le_of_ble_eq_true rfl) rfl ?_
  intro e X he G
  show X 0 [some (.ref (sh)), some (.int (nI (s))), none, none, none] [] hi τ 125
  obtain ⟨f1, f2, f3, f4, f5, f6, f7, f8, f9⟩ := id hF
  obtain ⟨o1, o2, o3, o4, o5, o6⟩ := id f4
  refine q_iconst (v := nI 0) G (pc := 0) dX7_blanksOn_0 (by decide) ?_
  refine q_istore_n G (pc := 1) dX7_blanksOn_1 (by decide) ?_
  show X _ [_, _, _, _, _] _ _ _ _
  refine q_iload_n G (pc := 2) dX7_blanksOn_2 rfl ?_
  refine q_iconst (v := nI 0) G (pc := 3) dX7_blanksOn_3 (by decide) ?_
  refine q_iconst (v := nI 0) G (pc := 4) dX7_blanksOn_4 (by decide) ?_
  refine q_cS3E G (pc := 5) dX7_blanksOn_5 cs_X7_41 (s_X7_spotOf (by omega)) (Nat.le_of_ble_eq_true rfl) ?_
  refine q_istore_n G (pc := 8) dX7_blanksOn_8 (by decide) ?_
  show X _ [_, _, _, _, _] _ _ _ _
  refine q_iload_n G (pc := 9) dX7_blanksOn_9 rfl ?_
  refine q_istore G (pc := 10) dX7_blanksOn_10 (by decide) ?_
  show X _ [_, _, _, _, _] _ _ _ _
  have L12 : ∀ (m : Nat) (k : Nat), 2 * pL P - k < m → k ≤ 2 * pL P → X 12 [some (.ref (sh)), some (.int (nI (s))), some (.int (nI (blkM (fun k => pG P s (k / 2) (k % 2)) k))), some (.int (nI (((s * 2 + 0) * 3 + 0) * 2))), some (.int (nI (((s * 2 + 0) * 3 + 0) * 2 + k)))] [] hi τ 125 := by
    intro m
    induction m with
    | zero => intro k hm; exact absurd hm (Nat.not_lt_zero _)
    | succ m ih12 =>
      intro k hm h0
      refine q_iload G (pc := 12) dX7_blanksOn_12 rfl ?_
      refine q_iload_n G (pc := 14) dX7_blanksOn_14 rfl ?_
      refine q_iconst (v := nI 2) G (pc := 15) dX7_blanksOn_15 (by decide) ?_
      refine q_aload_n G (pc := 16) dX7_blanksOn_16 rfl ?_
      refine q_getI (v := nI (pL P)) G (pc := 17) dX7_blanksOn_17 fl_X7_9_7 (by decide) hsh f1 ?_
      refine q_imulN G (pc := 20) dX7_blanksOn_20 ?_
      refine q_iaddN G (pc := 21) dX7_blanksOn_21 ?_
      refine q_icmp_geN (tgt := 46) G (pc := 22) dX7_blanksOn_22 (by decide) (by omega) (by omega) (fun c22 => ?_) (fun c22 => ?_)
      · refine q_iload_n G (pc := 46) dX7_blanksOn_46 rfl ?_
        refine q_iret G (pc := 47) dX7_blanksOn_47 (Or.inl rfl) ?_
        exact ⟨rfl, rfl, by rw [show k = 2 * pL P by omega]⟩
      · refine q_aload_n G (pc := 25) dX7_blanksOn_25 rfl ?_
        refine q_getR (x := sh + 5) G (pc := 26) dX7_blanksOn_26 fl_X7_29_7 hsh (hg hτ (hf_7_6 hsh)) ?_
        refine q_iload G (pc := 29) dX7_blanksOn_29 rfl ?_
        have hle := o4 s (k / 2) (k % 2)
        refine q_iald (j := ((s * 2 + 0) * 3 + k / 2) * 2 + k % 2) (v := nI (pG P s (k / 2) (k % 2))) G (pc := 31) dX7_blanksOn_31 (ly_7_6 hsh) (congrArg nI (by omega)) (by omega) (f5 s hs 0 (by omega) (k / 2) (by omega) (k % 2) (by omega)) ?_
        refine q_bipush (v := nI 26) G (pc := 32) dX7_blanksOn_32 (by decide) ?_
        refine q_icmp_neN (tgt := 40) G (pc := 34) dX7_blanksOn_34 (by decide) (by omega) (by omega) (fun c34 => ?_) (fun c34 => ?_)
        · refine q_iincN G (pc := 40) dX7_blanksOn_40 rfl (inc1 _) (by decide) ?_
          show X _ [_, _, _, _, _] _ _ _ _
          refine q_goto (tgt := 12) G (pc := 43) dX7_blanksOn_43 (by decide) ?_
          have e : blkM (fun k => pG P s (k / 2) (k % 2)) (k + 1) = blkM (fun k => pG P s (k / 2) (k % 2)) k := by show (if _ = 26 then _ else _) = _; rw [if_neg c34]
          have z := ih12 (k + 1) (by omega) (by omega)
          rw [e] at z
          exact z
        · refine q_iincN G (pc := 37) dX7_blanksOn_37 rfl (inc1 _) (by decide) ?_
          show X _ [_, _, _, _, _] _ _ _ _
          refine q_iincN G (pc := 40) dX7_blanksOn_40 rfl (inc1 _) (by decide) ?_
          show X _ [_, _, _, _, _] _ _ _ _
          refine q_goto (tgt := 12) G (pc := 43) dX7_blanksOn_43 (by decide) ?_
          have e : blkM (fun k => pG P s (k / 2) (k % 2)) (k + 1) = blkM (fun k => pG P s (k / 2) (k % 2)) k + 1 := by show (if _ = 26 then _ else _) = _; rw [if_pos c34]
          have z := ih12 (k + 1) (by omega) (by omega)
          rw [e] at z
          exact z
  exact L12 _ 0 (Nat.lt_succ_self _) (by omega)
set_option maxHeartbeats 2000000 in
theorem s_X7_empty {d : Nat} (hd : 3 ≤ d) {hi : mm_HI} {τ : mm_T} {sw : Bool} (hτ : τ.1 = mm_hr sw) {sh : Nat} (hsh : mm_lay sh = (0, 7)) : wV d yX7_empty [.ref sh] hi τ (fun h => shF h sh (2, 0, fun _ _ _ => 26, []) nx0 2 ∧ fr [sh, sh + 3, sh + 4] hi h) := by
  refine w_intro (by omega) M_X7_empty (Nat.le_of_ble_eq_true rfl) rfl ?_
  intro e X he G
  show X 0 [some (.ref (sh))] [] hi τ 125
  refine q_aload_n G (pc := 0) dX7_empty_0 rfl ?_
  refine q_iconst (v := nI 2) G (pc := 1) dX7_empty_1 (by decide) ?_
  refine q_putI G (pc := 2) dX7_empty_2 fl_X7_9_7 hsh ?_
  refine q_aload_n G (pc := 5) dX7_empty_5 rfl ?_
  refine q_iconst (v := nI 0) G (pc := 6) dX7_empty_6 (by decide) ?_
  refine q_putI G (pc := 7) dX7_empty_7 fl_X7_32_7 hsh ?_
  refine q_aload_n G (pc := 10) dX7_empty_10 rfl ?_
  refine q_iconst (v := nI 0) G (pc := 11) dX7_empty_11 (by decide) ?_
  refine q_putI G (pc := 12) dX7_empty_12 fl_X7_35_7 hsh ?_
  refine q_aload_n G (pc := 15) dX7_empty_15 rfl ?_
  refine q_getR (x := sh + 3) G (pc := 16) dX7_empty_16 fl_X7_25_7 hsh (hg hτ (hf_7_5 hsh)) ?_
  refine q_cV0V G (pc := 19) dX7_empty_19 cv_X7_38 (ly_7_5 hsh) (s_X2_empty (by omega) hτ (ly_7_5 hsh)) (Nat.le_of_ble_eq_true rfl) ?_
  intro hk hx
  obtain ⟨x1, x2⟩ := hx
  refine q_vret G (pc := 22) dX7_empty_22 rfl ?_
  have hz := ly7 hsh
  have e : hk sh = mm_up2 (mm_up2 (mm_up2 hi sh 0 (nI 2)) sh 1 (nI 0)) sh 2 (nI 0) sh := x2 sh (by simp <;> omega)
  refine ⟨rfl, rfl, ⟨by rw [e]; simp [va_up], by rw [e]; simp [va_up, pS], by rw [e]; simp [va_up, pW], ⟨by decide, by decide, by decide, fun _ _ _ => Nat.le_refl 26, by decide, fun u hu => absurd hu List.not_mem_nil⟩, fun s hs => absurd hs (Nat.not_lt_zero _), fun w hw => absurd hw (Nat.not_lt_zero _), x1, trOK_0, by decide⟩, fun c hc => ?_⟩
  rw [x2 c (by simp at hc ⊢; omega)]
  simp at hc
  simp [va_up, hc]
set_option maxHeartbeats 2000000 in
theorem s_X7_tellPair {d : Nat} (hd : 2 ≤ d) {hi : mm_HI} {τ : mm_T} {sw : Bool} (hτ : τ.1 = mm_hr sw) {sh : Nat} (hsh : mm_lay sh = (0, 7)) {S L l : Nat} {x y : Int32} (hS : hi sh 1 = nI S) (hL : hi sh 0 = nI L) (hs : S < 6) (hl : l < L) (hL3 : L ≤ 3) : wV d yX7_tellPair [.ref sh, .int (nI l), .int x, .int y] hi τ (fun h => h = mm_up2 (mm_up2 (mm_up2 (mm_up2 hi (sh + 5) (((S * 2 + 0) * 3 + l) * 2) x) (sh + 5) (((S * 2 + 0) * 3 + l) * 2 + 1) y) (sh + 5) (((S * 2 + 1) * 3 + (L - 1 - l)) * 2) y) (sh + 5) (((S * 2 + 1) * 3 + (L - 1 - l)) * 2 + 1) x) := by
  refine w_intro (by omega) M_X7_tellPair (Nat.le_of_ble_eq_true rfl) rfl ?_
  intro e X he G
  show X 0 [some (.ref (sh)), some (.int (nI (l))), some (.int (x)), some (.int (y)), none, none] [] hi τ 125
  refine q_aload_n G (pc := 0) dX7_tellPair_0 rfl ?_
  refine q_getI (v := nI (S)) G (pc := 1) dX7_tellPair_1 fl_X7_32_7 (by decide) hsh hS ?_
  refine q_iconst (v := nI 0) G (pc := 4) dX7_tellPair_4 (by decide) ?_
  refine q_iload_n G (pc := 5) dX7_tellPair_5 rfl ?_
  refine q_cS3E G (pc := 6) dX7_tellPair_6 cs_X7_41 (s_X7_spotOf (by omega)) (Nat.le_of_ble_eq_true rfl) ?_
  refine q_istore G (pc := 9) dX7_tellPair_9 (by decide) ?_
  show X _ [_, _, _, _, _, _] _ _ _ _
  refine q_aload_n G (pc := 11) dX7_tellPair_11 rfl ?_
  refine q_getR (x := sh + 5) G (pc := 12) dX7_tellPair_12 fl_X7_29_7 hsh (hg hτ (hf_7_6 hsh)) ?_
  refine q_iload G (pc := 15) dX7_tellPair_15 rfl ?_
  refine q_iload_n G (pc := 17) dX7_tellPair_17 rfl ?_
  refine q_iast (j := ((S * 2 + 0) * 3 + l) * 2) G (pc := 18) dX7_tellPair_18 (ly_7_6 hsh) rfl (by omega) ?_
  refine q_aload_n G (pc := 19) dX7_tellPair_19 rfl ?_
  refine q_getR (x := sh + 5) G (pc := 20) dX7_tellPair_20 fl_X7_29_7 hsh (hg hτ (hf_7_6 hsh)) ?_
  refine q_iload G (pc := 23) dX7_tellPair_23 rfl ?_
  refine q_iconst (v := nI 1) G (pc := 25) dX7_tellPair_25 (by decide) ?_
  refine q_iaddN G (pc := 26) dX7_tellPair_26 ?_
  refine q_iload_n G (pc := 27) dX7_tellPair_27 rfl ?_
  refine q_iast (j := ((S * 2 + 0) * 3 + l) * 2 + 1) G (pc := 28) dX7_tellPair_28 (ly_7_6 hsh) rfl (by omega) ?_
  refine q_aload_n G (pc := 29) dX7_tellPair_29 rfl ?_
  refine q_getI (v := nI (S)) G (pc := 30) dX7_tellPair_30 fl_X7_32_7 (by decide) hsh (by simp [va_up, hS]) ?_
  refine q_iconst (v := nI 1) G (pc := 33) dX7_tellPair_33 (by decide) ?_
  refine q_aload_n G (pc := 34) dX7_tellPair_34 rfl ?_
  refine q_getI (v := nI (L)) G (pc := 35) dX7_tellPair_35 fl_X7_9_7 (by decide) hsh (by simp [va_up, hL]) ?_
  refine q_iconst (v := nI 1) G (pc := 38) dX7_tellPair_38 (by decide) ?_
  refine q_isubN G (pc := 39) dX7_tellPair_39 (by omega) ?_
  refine q_iload_n G (pc := 40) dX7_tellPair_40 rfl ?_
  refine q_isubN G (pc := 41) dX7_tellPair_41 (by omega) ?_
  refine q_cS3E G (pc := 42) dX7_tellPair_42 cs_X7_41 (s_X7_spotOf (by omega)) (Nat.le_of_ble_eq_true rfl) ?_
  refine q_istore G (pc := 45) dX7_tellPair_45 (by decide) ?_
  show X _ [_, _, _, _, _, _] _ _ _ _
  refine q_aload_n G (pc := 47) dX7_tellPair_47 rfl ?_
  refine q_getR (x := sh + 5) G (pc := 48) dX7_tellPair_48 fl_X7_29_7 hsh (hg hτ (hf_7_6 hsh)) ?_
  refine q_iload G (pc := 51) dX7_tellPair_51 rfl ?_
  refine q_iload_n G (pc := 53) dX7_tellPair_53 rfl ?_
  refine q_iast (j := ((S * 2 + 1) * 3 + (L - 1 - l)) * 2) G (pc := 54) dX7_tellPair_54 (ly_7_6 hsh) rfl (by omega) ?_
  refine q_aload_n G (pc := 55) dX7_tellPair_55 rfl ?_
  refine q_getR (x := sh + 5) G (pc := 56) dX7_tellPair_56 fl_X7_29_7 hsh (hg hτ (hf_7_6 hsh)) ?_
  refine q_iload G (pc := 59) dX7_tellPair_59 rfl ?_
  refine q_iconst (v := nI 1) G (pc := 61) dX7_tellPair_61 (by decide) ?_
  refine q_iaddN G (pc := 62) dX7_tellPair_62 ?_
  refine q_iload_n G (pc := 63) dX7_tellPair_63 rfl ?_
  refine q_iast (j := ((S * 2 + 1) * 3 + (L - 1 - l)) * 2 + 1) G (pc := 64) dX7_tellPair_64 (ly_7_6 hsh) rfl (by omega) ?_
  refine q_vret G (pc := 65) dX7_tellPair_65 rfl ?_
  exact ⟨rfl, rfl, rfl⟩
set_option maxHeartbeats 2000000 in
theorem s_X7_tellLetter {d : Nat} (hd : 1 ≤ d) {hi : mm_HI} {τ : mm_T} {sw : Bool} (hτ : τ.1 = mm_hr sw) {sh : Nat} (hsh : mm_lay sh = (0, 7)) {W i : Nat} {x : Int32} (hW : hi sh 2 = nI W) (hw : W < 8) (hi6 : i < 6) : wV d yX7_tellLetter [.ref sh, .int (nI i), .int x] hi τ (fun h => h = mm_up2 hi (sh + 1) (W * 6 + i) x) := by
  refine w_intro (by omega) M_X7_tellLetter (Nat.le_of_ble_eq_true rfl) rfl ?_
  intro e X he G
  show X 0 [some (.ref (sh)), some (.int (nI (i))), some (.int (x))] [] hi τ 125
  refine q_aload_n G (pc := 0) dX7_tellLetter_0 rfl ?_
  refine q_getR (x := sh + 1) G (pc := 1) dX7_tellLetter_1 fl_X7_15_7 hsh (hg hτ (hf_7_3 hsh)) ?_
  refine q_aload_n G (pc := 4) dX7_tellLetter_4 rfl ?_
  refine q_getI (v := nI (W)) G (pc := 5) dX7_tellLetter_5 fl_X7_35_7 (by decide) hsh hW ?_
  refine q_bipush (v := nI 6) G (pc := 8) dX7_tellLetter_8 (by decide) ?_
  refine q_imulN G (pc := 10) dX7_tellLetter_10 ?_
  refine q_iload_n G (pc := 11) dX7_tellLetter_11 rfl ?_
  refine q_iaddN G (pc := 12) dX7_tellLetter_12 ?_
  refine q_iload_n G (pc := 13) dX7_tellLetter_13 rfl ?_
  refine q_iast (j := W * 6 + i) G (pc := 14) dX7_tellLetter_14 (ly_7_3 hsh) rfl (by omega) ?_
  refine q_vret G (pc := 15) dX7_tellLetter_15 rfl ?_
  exact ⟨rfl, rfl, rfl⟩
set_option maxHeartbeats 2000000 in
theorem s_X7_endWord {d : Nat} (hd : 3 ≤ d) {hi : mm_HI} {τ : mm_T} {sw : Bool} (hτ : τ.1 = mm_hr sw) {sh nd : Nat} {P : PG} {nx : Nat → Nat → Nat} (hsh : mm_lay sh = (0, 7)) (hF : shF hi sh P nx nd) {u : List Nat} (hW8 : (pW P).length < 8) (hu1 : 1 ≤ u.length) (hu2 : u.length ≤ 6) (hu3 : ∀ c ∈ u, c < 26) (hw : ∀ i, i < u.length → hi (sh + 1) ((pW P).length * 6 + i) = nI (u.getD i 0)) : wV d yX7_endWord [.ref sh, .int (nI u.length)] hi τ (fun h => ∃ (nx2 : Nat → Nat → Nat) (nd2 : Nat), shF h sh (pL P, pS P, pG P, pW P ++ [u]) nx2 nd2 ∧ frr sh (sh + 6) hi h) := by
  refine w_intro (by omega) M_X7_endWord (Nat.le_of_ble_eq_true rfl) rfl ?_
  intro e X he G
  show X 0 [some (.ref (sh)), some (.int (nI (u.length)))] [] hi τ 125
  obtain ⟨f1, f2, f3, f4, f5, f6, f7, f8, f9⟩ := id hF
  obtain ⟨o1, o2, o3, o4, o5, o6⟩ := id f4
  refine q_aload_n G (pc := 0) dX7_endWord_0 rfl ?_
  refine q_getR (x := sh + 2) G (pc := 1) dX7_endWord_1 fl_X7_19_7 hsh (hg hτ (hf_7_4 hsh)) ?_
  refine q_aload_n G (pc := 4) dX7_endWord_4 rfl ?_
  refine q_getI (v := nI ((pW P).length)) G (pc := 5) dX7_endWord_5 fl_X7_35_7 (by decide) hsh f3 ?_
  refine q_iload_n G (pc := 8) dX7_endWord_8 rfl ?_
  refine q_iast (j := (pW P).length) G (pc := 9) dX7_endWord_9 (ly_7_4 hsh) rfl (by omega) ?_
  refine q_aload_n G (pc := 10) dX7_endWord_10 rfl ?_
  refine q_getR (x := sh + 3) G (pc := 11) dX7_endWord_11 fl_X7_25_7 hsh (hg hτ (hf_7_5 hsh)) ?_
  refine q_aload_n G (pc := 14) dX7_endWord_14 rfl ?_
  refine q_getR (x := sh + 1) G (pc := 15) dX7_endWord_15 fl_X7_15_7 hsh (hg hτ (hf_7_3 hsh)) ?_
  refine q_aload_n G (pc := 18) dX7_endWord_18 rfl ?_
  refine q_getI (v := nI ((pW P).length)) G (pc := 19) dX7_endWord_19 fl_X7_35_7 (by decide) hsh (by simp [va_up, f3]) ?_
  refine q_bipush (v := nI 6) G (pc := 22) dX7_endWord_22 (by decide) ?_
  refine q_imulN G (pc := 24) dX7_endWord_24 ?_
  refine q_iload_n G (pc := 25) dX7_endWord_25 rfl ?_
  refine q_cV3V G (pc := 26) dX7_endWord_26 cv_X7_45 (ly_7_5 hsh) (s_X2_add (by omega) hτ (ly_7_5 hsh) (f7.keep (by simp [va_up]) (by simp [va_up])) f8 (u := u) (ly_7_3 hsh) (by omega) (by omega) (fun i hi2 => by rw [← hw i hi2]; simp [va_up]) (fun c hc => hu3 c hc) (by omega)) (Nat.le_of_ble_eq_true rfl) ?_
  intro hk hx
  obtain ⟨nx2, nd2, x1, x2, x3, x4⟩ := hx
  refine q_aload_n G (pc := 29) dX7_endWord_29 rfl ?_
  refine q_dup G (pc := 30) dX7_endWord_30 rfl ?_
  refine q_getI (v := nI ((pW P).length)) G (pc := 31) dX7_endWord_31 fl_X7_35_7 (by decide) hsh (by rw [x4 sh (by simp <;> omega)]; simp [va_up, f3]) ?_
  refine q_iconst (v := nI 1) G (pc := 34) dX7_endWord_34 (by decide) ?_
  refine q_iaddN G (pc := 35) dX7_endWord_35 ?_
  refine q_putI G (pc := 36) dX7_endWord_36 fl_X7_35_7 hsh ?_
  refine q_vret G (pc := 39) dX7_endWord_39 rfl ?_
  have e0 : hk sh = mm_up2 hi (sh + 2) (pW P).length (nI u.length) sh := x4 sh (by simp <;> omega)
  have e1 : hk (sh + 1) = mm_up2 hi (sh + 2) (pW P).length (nI u.length) (sh + 1) := x4 (sh + 1) (by simp <;> omega)
  have e2 : hk (sh + 2) = mm_up2 hi (sh + 2) (pW P).length (nI u.length) (sh + 2) := x4 (sh + 2) (by simp <;> omega)
  have e5 : hk (sh + 5) = mm_up2 hi (sh + 2) (pW P).length (nI u.length) (sh + 5) := x4 (sh + 5) (by simp <;> omega)
  have hlen : (pW P ++ [u]).length = (pW P).length + 1 := by simp
  refine ⟨rfl, rfl, nx2, nd2, ⟨by simp [va_up, e0, f1], by simp [va_up, e0, f2], by simp [va_up, pW], ⟨o1, o2, o3, o4, by show (pW P ++ [u]).length ≤ 8; omega, fun z hz => ?_⟩, fun s hs w hw2 l hl i hi2 => ?_, fun w hw2 => ?_, x1.keep (by simp [va_up]) (by simp [va_up, show sh + 3 + 1 ≠ sh by omega]), x2, by show nd2 ≤ 2 + 6 * (pW P ++ [u]).length; omega⟩, fun c hc => ?_⟩
  · rcases List.mem_append.mp hz with q | q
    · exact o6 z q
    · rw [List.mem_singleton.mp q]; exact ⟨hu1, hu2, hu3⟩
  · simp [va_up, e5]; exact f5 s hs w hw2 l hl i hi2
  · have hw3 : w < (pW P).length + 1 := by have : w < (pW P ++ [u]).length := hw2; omega
    by_cases q : w = (pW P).length
    · subst q
      have e6 : (pW P ++ [u]).getD (pW P).length [] = u := by simp [List.getD_eq_getElem?_getD]
      show _ = nI ((pW P ++ [u]).getD (pW P).length []).length ∧ ∀ i, i < ((pW P ++ [u]).getD (pW P).length []).length → _ = nI (((pW P ++ [u]).getD (pW P).length []).getD i 0)
      rw [e6]
      refine ⟨by simp [va_up, e2], fun i hi2 => ?_⟩
      rw [← hw i hi2]
      simp [va_up, e1]
    · have e6 : (pW P ++ [u]).getD w [] = (pW P).getD w [] := by rw [List.getD_eq_getElem?_getD, List.getD_eq_getElem?_getD, List.getElem?_append_left (by omega)]
      show _ = nI ((pW P ++ [u]).getD w []).length ∧ ∀ i, i < ((pW P ++ [u]).getD w []).length → _ = nI (((pW P ++ [u]).getD w []).getD i 0)
      rw [e6]
      obtain ⟨g1, g2⟩ := f6 w (by omega)
      refine ⟨by simp [va_up, e2, q, g1], fun i hi2 => by simp [va_up, e1]; exact g2 i hi2⟩
  · have e7 := x4 c (by simp; omega)
    simp [va_up, show c ≠ sh by omega, e7, show c ≠ sh + 2 by omega]
