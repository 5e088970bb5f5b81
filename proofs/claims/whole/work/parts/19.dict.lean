theorem mm_G0_post {CALL : mm_call} {own : String} {cc : ByteArray} {nL : Nat} {ret : Option FieldType} {ini : Bool} {n1 : Nat} {Post Post2 : mm_Q} {X : mm_X} (h : mm_G0 CALL own cc nL ret ini n1 Post X) : mm_G0 CALL own cc nL ret ini n1 Post2 X := h
theorem w_post {d n n1 : Nat} {y : MethodName} {as : List Value} {hi : mm_HI} {τ : mm_T} {Q Q2 : mm_Q} (h : mm_wp d y as hi τ n n1 Q) (hq : ∀ v h t, Q v h t → Q2 v h t) : mm_wp d y as hi τ n n1 Q2 := by
  cases d with
  | zero => exact h.elim
  | succ d =>
    obtain ⟨b, m, r, h1, h2, h3, h4, h5⟩ := h
    refine ⟨b, m, r, h1, h2, h3, h4, fun X G => h5 X ⟨?_, ?_⟩⟩
    · exact mm_G0_post G.1
    · obtain ⟨-, g1, g2, g3, g4⟩ := G
      exact ⟨fun pc ls st hi τ n x a b c d => g1 pc ls st hi τ n x a b c (hq _ _ _ d), fun pc ls st hi τ n x a b c d => g2 pc ls st hi τ n x a b c (hq _ _ _ d), fun pc ls st hi τ n x C a b c d => g3 pc ls st hi τ n x C a b c (hq _ _ _ d), fun pc ls st hi τ n a b c d => g4 pc ls st hi τ n a b c (hq _ _ _ d)⟩
def fillF (hi : mm_HI) (c i : Nat) (v : Int32) : mm_HI := va_up hi c (fun j => if j < i then v else hi c j)
theorem fill_0 (hi : mm_HI) (c : Nat) (v : Int32) : fillF hi c 0 v = hi := by
  funext x
  by_cases h : x = c
  · subst h; funext j; simp [fillF, va_up]
  · simp [fillF, va_up, h]
theorem fill_s (hi : mm_HI) (c i : Nat) (v : Int32) : mm_up2 (fillF hi c i v) c i v = fillF hi c (i + 1) v := by
  funext x
  by_cases h : x = c
  · subst h
    funext j
    by_cases h2 : j = i
    · subst h2; simp [fillF, va_up]
    · simp [fillF, va_up, h2]
      by_cases h3 : j < i
      · rw [if_pos h3, if_pos (by omega)]
      · rw [if_neg h3, if_neg (by omega)]
  · simp [fillF, va_up, h]
/-- the tree in its cells -/
def dicF (hi : mm_HI) (dc : Nat) (nx : Nat → Nat → Nat) (nd : Nat) : Prop := hi dc 1 = nI nd ∧ nd ≤ 50 ∧ ∀ a b, a < 50 → b < 27 → hi (dc + 1) (a * 27 + b) = nI (nx a b)
theorem dicF.keep {x y : mm_HI} {dc nd : Nat} {nx : Nat → Nat → Nat} (h : dicF x dc nx nd) (h1 : y dc = x dc) (h2 : y (dc + 1) = x (dc + 1)) : dicF y dc nx nd := ⟨by rw [h1]; exact h.1, h.2.1, fun a b ha hb => by rw [h2]; exact h.2.2 a b ha hb⟩
theorem dicF.set {x : mm_HI} {dc nd a b v : Nat} {nx : Nat → Nat → Nat} (h : dicF x dc nx nd) (ha : a < 50) (hb : b < 27) : dicF (mm_up2 x (dc + 1) (a * 27 + b) (nI v)) dc (up2n nx a b v) nd := by
  refine ⟨by simp [va_up, h.1], h.2.1, fun i j hi hj => ?_⟩
  by_cases e : i = a ∧ j = b
  · obtain ⟨rfl, rfl⟩ := e
    simp [va_up, up2n]
  · have : i * 27 + j ≠ a * 27 + b := by
      intro q
      exact e (by omega)
    simp [va_up, this, up2n, e, h.2.2 i j hi hj]
set_option maxHeartbeats 2000000 in
theorem k_fill {d : Nat} (hd : 1 ≤ d) {hi : mm_HI} {τ : mm_T} {n c N : Nat} {v : Int32} (hc : mm_lay c = (1, N)) (hn : c < n) : mm_wp d yJ7_fill_53178 [.ref c, .int v] hi τ n n (fun x h t => t = τ ∧ x = none ∧ h = fillF hi c N v) := by
  refine k_intro (by omega) M_J7_fill_53178 (Nat.le_refl _) (Nat.le_of_ble_eq_true rfl) rfl ?_
  intro e X he G
  show X 0 [some (.ref (c)), some (.int (v)), none, none] [] hi τ n
  have hb := ly_bd hc
  refine k_iconst (v := nI 0) G (pc := 0) dJ7_fill_53178_0 (by decide) ?_
  refine k_istore_n G (pc := 1) dJ7_fill_53178_1 (by decide) ?_
  show X _ [_, _, _, _] _ _ _ _
  refine k_aload_n G (pc := 2) dJ7_fill_53178_2 rfl ?_
  refine k_alen G (pc := 3) dJ7_fill_53178_3 hc hn ?_
  refine k_istore_n G (pc := 4) dJ7_fill_53178_4 (by decide) ?_
  show X _ [_, _, _, _] _ _ _ _
  have L5 : ∀ (m : Nat) (i : Nat), N - i < m → i ≤ N → X 5 [some (.ref (c)), some (.int (v)), some (.int (nI (i))), some (.int (nI (N)))] [] (fillF hi c i v) τ n := by
    intro m
    induction m with
    | zero => intro i hm; exact absurd hm (Nat.not_lt_zero _)
    | succ m ih5 =>
      intro i hm h0
      refine k_iload_n G (pc := 5) dJ7_fill_53178_5 rfl ?_
      refine k_iload_n G (pc := 6) dJ7_fill_53178_6 rfl ?_
      refine k_icmp_geN (tgt := 20) G (pc := 7) dJ7_fill_53178_7 (by decide) (by omega) (by omega) (fun c7 => ?_) (fun c7 => ?_)
      · refine k_vret G (pc := 20) dJ7_fill_53178_20 rfl rfl ?_
        exact ⟨rfl, rfl, by rw [show i = N by omega]⟩
      · refine k_aload_n G (pc := 10) dJ7_fill_53178_10 rfl ?_
        refine k_iload_n G (pc := 11) dJ7_fill_53178_11 rfl ?_
        refine k_iload_n G (pc := 12) dJ7_fill_53178_12 rfl ?_
        refine k_iast (j := i) G (pc := 13) dJ7_fill_53178_13 hc hn rfl (by omega) ?_
        refine k_iincN G (pc := 14) dJ7_fill_53178_14 rfl (inc1 _) (by decide) ?_
        show X _ [_, _, _, _] _ _ _ _
        refine k_goto (tgt := 5) G (pc := 17) dJ7_fill_53178_17 (by decide) ?_
        rw [fill_s]
        exact ih5 (i + 1) (by omega) (by omega)
  have e0 := L5 _ 0 (Nat.lt_succ_self _) (by omega)
  rw [fill_0] at e0
  exact e0
set_option maxHeartbeats 2000000 in
theorem k_mayEndAt {d : Nat} (hd : 1 ≤ d) {hi : mm_HI} {τ : mm_T} {n dc a : Nat} (hdc : mm_lay dc = (0, 2)) (hn : dc + 1 < n) (hr0 : τ.1 dc 0 = some (dc + 1)) (ha : a < 50) : mm_wp d yX2_mayEndAt [.ref dc, .int (nI a)] hi τ n n (fun x h t => t = τ ∧ x = none ∧ h = mm_up2 hi (dc + 1) (a * 27 + 26) (nI 1)) := by
  refine k_intro (by omega) M_X2_mayEndAt (Nat.le_refl _) (Nat.le_of_ble_eq_true rfl) rfl ?_
  intro e X he G
  show X 0 [some (.ref (dc)), some (.int (nI (a)))] [] hi τ n
  refine k_aload_n G (pc := 0) dX2_mayEndAt_0 rfl ?_
  refine k_getR (x := dc + 1) G (pc := 1) dX2_mayEndAt_1 fl_X2_11_2 hdc (by omega) hr0 ?_
  refine k_iload_n G (pc := 4) dX2_mayEndAt_4 rfl ?_
  refine k_bipush (v := nI 27) G (pc := 5) dX2_mayEndAt_5 (by decide) ?_
  refine k_imulN G (pc := 7) dX2_mayEndAt_7 ?_
  refine k_bipush (v := nI 26) G (pc := 8) dX2_mayEndAt_8 (by decide) ?_
  refine k_iaddN G (pc := 10) dX2_mayEndAt_10 ?_
  refine k_iconst (v := nI 1) G (pc := 11) dX2_mayEndAt_11 (by decide) ?_
  refine k_iast (j := a * 27 + 26) G (pc := 12) dX2_mayEndAt_12 (ly_2_0 hdc) (by omega) rfl (by omega) ?_
  refine k_vret G (pc := 13) dX2_mayEndAt_13 rfl rfl ?_
  exact ⟨rfl, rfl, rfl⟩
set_option maxHeartbeats 2000000 in
theorem k_empty {d : Nat} (hd : 2 ≤ d) {hi : mm_HI} {τ : mm_T} {n dc : Nat} (hdc : mm_lay dc = (0, 2)) (hn : dc + 1 < n) (hr0 : τ.1 dc 0 = some (dc + 1)) : mm_wp d yX2_empty [.ref dc] hi τ n n (fun x h t => t = τ ∧ x = none ∧ dicF h dc nx0 2 ∧ fr [dc, dc + 1] hi h) := by
  refine k_intro (by omega) M_X2_empty (Nat.le_refl _) (Nat.le_of_ble_eq_true rfl) rfl ?_
  intro e X he G
  show X 0 [some (.ref (dc))] [] hi τ n
  refine k_aload_n G (pc := 0) dX2_empty_0 rfl ?_
  refine k_getR (x := dc + 1) G (pc := 1) dX2_empty_1 fl_X2_11_2 hdc (by omega) hr0 ?_
  refine k_iconst (v := nI 0) G (pc := 4) dX2_empty_4 (by decide) ?_
  refine k_cS2 G (pc := 5) dX2_empty_5 cs_X2_18 (k_fill (by omega) (ly_2_0 hdc) (by omega)) (by omega) (Nat.le_of_ble_eq_true rfl) ?_
  intro v1 h1 t1 hq
  obtain ⟨rfl, rfl, rfl⟩ := hq
  refine k_aload_n G (pc := 8) dX2_empty_8 rfl ?_
  refine k_iconst (v := nI 1) G (pc := 9) dX2_empty_9 (by decide) ?_
  refine k_cV1 G (pc := 10) dX2_empty_10 cv_X2_24 hdc (by omega) (k_mayEndAt (by omega) hdc (by omega) hr0 (by omega)) (by omega) (Nat.le_of_ble_eq_true rfl) ?_
  intro v1 h1 t1 hq
  obtain ⟨rfl, rfl, rfl⟩ := hq
  refine k_aload_n G (pc := 13) dX2_empty_13 rfl ?_
  refine k_iconst (v := nI 2) G (pc := 14) dX2_empty_14 (by decide) ?_
  refine k_putIF G (pc := 15) dX2_empty_15 fl_X2_28_2 (Or.inl rfl) (Or.inl rfl) hdc (by omega) ?_
  refine k_vret G (pc := 18) dX2_empty_18 rfl rfl ?_
  refine ⟨rfl, rfl, ⟨by simp [va_up], by omega, fun a b ha hb => ?_⟩, fun c hc => ?_⟩
  · have e : (mm_up2 (mm_up2 (fillF hi (dc + 1) 1350 (nI 0)) (dc + 1) (1 * 27 + 26) (nI 1)) dc 1 (nI 2)) (dc + 1) (a * 27 + b) = if a * 27 + b = 53 then nI 1 else nI 0 := by
      simp [va_up, fillF]
      by_cases h : a * 27 + b = 53
      · rw [if_pos h, if_pos h]
      · rw [if_neg h, if_neg h, if_pos (by omega)]
    rw [e]
    unfold nx0
    by_cases h : a = 1 ∧ b = 26
    · rw [if_pos (by omega), if_pos h]
    · rw [if_neg (by omega), if_neg h]
  · simp at hc
    simp [va_up, fillF, hc]
set_option maxHeartbeats 2000000 in
theorem s_X2_step {d : Nat} (hd : 1 ≤ d) {hi : mm_HI} {τ : mm_T} {sw : Bool} (hτ : τ.1 = mm_hr sw) {dc nd : Nat} {nx : Nat → Nat → Nat} (hdc : mm_lay dc = (0, 2)) (hF : dicF hi dc nx nd) {a b : Nat} (ha : a < 50) (hb : b < 27) : wE d yX2_step [.ref dc, .int (nI a), .int (nI b)] hi τ (nI (nx a b)) := by
  refine w_intro (by omega) M_X2_step (Nat.le_of_ble_eq_true rfl) rfl ?_
  intro e X he G
  show X 0 [some (.ref (dc)), some (.int (nI (a))), some (.int (nI (b)))] [] hi τ 125
  obtain ⟨f1, f2, f3⟩ := id hF
  refine q_aload_n G (pc := 0) dX2_step_0 rfl ?_
  refine q_getR (x := dc + 1) G (pc := 1) dX2_step_1 fl_X2_11_2 hdc (hg hτ (hf_2_0 hdc)) ?_
  refine q_iload_n G (pc := 4) dX2_step_4 rfl ?_
  refine q_bipush (v := nI 27) G (pc := 5) dX2_step_5 (by decide) ?_
  refine q_imulN G (pc := 7) dX2_step_7 ?_
  refine q_iload_n G (pc := 8) dX2_step_8 rfl ?_
  refine q_iaddN G (pc := 9) dX2_step_9 ?_
  refine q_iald (j := a * 27 + b) (v := nI (nx a b)) G (pc := 10) dX2_step_10 (ly_2_0 hdc) rfl (by omega) (f3 a b ha hb) ?_
  refine q_iret G (pc := 11) dX2_step_11 (Or.inl rfl) ?_
  exact ⟨rfl, rfl, rfl⟩
set_option maxHeartbeats 2000000 in
theorem s_X2_endsAt {d : Nat} (hd : 1 ≤ d) {hi : mm_HI} {τ : mm_T} {sw : Bool} (hτ : τ.1 = mm_hr sw) {dc nd : Nat} {nx : Nat → Nat → Nat} (hdc : mm_lay dc = (0, 2)) (hF : dicF hi dc nx nd) {a : Nat} (ha : a < 50) (hx : nx a 26 < 50) : wB d yX2_endsAt [.ref dc, .int (nI a)] hi τ (nx a 26 = 1) := by
  refine w_intro (by omega) M_X2_endsAt (Nat.le_of_ble_eq_true rfl) rfl ?_
  intro e X he G
  show X 0 [some (.ref (dc)), some (.int (nI (a)))] [] hi τ 125
  obtain ⟨f1, f2, f3⟩ := id hF
  refine q_aload_n G (pc := 0) dX2_endsAt_0 rfl ?_
  refine q_getR (x := dc + 1) G (pc := 1) dX2_endsAt_1 fl_X2_11_2 hdc (hg hτ (hf_2_0 hdc)) ?_
  refine q_iload_n G (pc := 4) dX2_endsAt_4 rfl ?_
  refine q_bipush (v := nI 27) G (pc := 5) dX2_endsAt_5 (by decide) ?_
  refine q_imulN G (pc := 7) dX2_endsAt_7 ?_
  refine q_bipush (v := nI 26) G (pc := 8) dX2_endsAt_8 (by decide) ?_
  refine q_iaddN G (pc := 10) dX2_endsAt_10 ?_
  refine q_iald (j := a * 27 + 26) (v := nI (nx a 26)) G (pc := 11) dX2_endsAt_11 (ly_2_0 hdc) rfl (by omega) (f3 a 26 ha (by omega)) ?_
  refine q_iconst (v := nI 1) G (pc := 12) dX2_endsAt_12 (by decide) ?_
  refine q_icmp_neN (tgt := 20) G (pc := 13) dX2_endsAt_13 (by decide) (by omega) (by omega) (fun c13 => ?_) (fun c13 => ?_)
  · refine q_iconst (v := nI 0) G (pc := 20) dX2_endsAt_20 (by decide) ?_
    refine q_iret G (pc := 21) dX2_endsAt_21 (Or.inr ⟨rfl, by decide⟩) ?_
    exact ⟨rfl, rfl, Or.inr ⟨c13, rfl⟩⟩
  · refine q_iconst (v := nI 1) G (pc := 16) dX2_endsAt_16 (by decide) ?_
    refine q_goto (tgt := 21) G (pc := 17) dX2_endsAt_17 (by decide) ?_
    refine q_iret G (pc := 21) dX2_endsAt_21 (Or.inr ⟨rfl, by decide⟩) ?_
    exact ⟨rfl, rfl, Or.inl ⟨c13, rfl⟩⟩
theorem s_X2_mayEndAt {d : Nat} (hd : 1 ≤ d) {hi : mm_HI} {τ : mm_T} {sw : Bool} (hτ : τ.1 = mm_hr sw) {dc nd : Nat} {nx : Nat → Nat → Nat} (hdc : mm_lay dc = (0, 2)) (hF : dicF hi dc nx nd) {a : Nat} (ha : a < 50) : wV d yX2_mayEndAt [.ref dc, .int (nI a)] hi τ (fun h => dicF h dc (up2n nx a 26 1) nd ∧ fr [dc + 1] hi h) := by
  have h := k_mayEndAt (hi := hi) (a := a) hd hdc (ly_lt (ly_2_0 hdc) (by decide)) (hg hτ (hf_2_0 hdc)) ha
  exact w_post h (fun v h2 t hq => by
    obtain ⟨rfl, rfl, rfl⟩ := hq
    exact ⟨rfl, rfl, hF.set ha (by omega), fun c hc => by simp at hc; simp [va_up, hc]⟩)
theorem s_X2_empty {d : Nat} (hd : 2 ≤ d) {hi : mm_HI} {τ : mm_T} {sw : Bool} (hτ : τ.1 = mm_hr sw) {dc : Nat} (hdc : mm_lay dc = (0, 2)) : wV d yX2_empty [.ref dc] hi τ (fun h => dicF h dc nx0 2 ∧ fr [dc, dc + 1] hi h) := k_empty hd hdc (ly_lt (ly_2_0 hdc) (by decide)) (hg hτ (hf_2_0 hdc))
set_option maxHeartbeats 2000000 in
theorem s_X2_grow {d : Nat} (hd : 1 ≤ d) {hi : mm_HI} {τ : mm_T} {sw : Bool} (hτ : τ.1 = mm_hr sw) {dc nd : Nat} {nx : Nat → Nat → Nat} (hdc : mm_lay dc = (0, 2)) (hF : dicF hi dc nx nd) {a b : Nat} (ha : a < 50) (hb : b < 27) (hx : nx a b < 50) (h50 : nd < 50) : wI d yX2_grow [.ref dc, .int (nI a), .int (nI b)] hi τ (fun x h => (nx a b = 0 ∧ x = nI nd ∧ dicF h dc (up2n nx a b nd) (nd + 1) ∧ fr [dc, dc + 1] hi h) ∨ (nx a b ≠ 0 ∧ x = nI (nx a b) ∧ h = hi)) := by
  refine w_intro (by omega) M_X2_grow (Nat.le_of_ble_eq_true rfl) rfl ?_
  intro e X he G
  show X 0 [some (.ref (dc)), some (.int (nI (a))), some (.int (nI (b))), none] [] hi τ 125
  obtain ⟨f1, f2, f3⟩ := id hF
  refine q_iload_n G (pc := 0) dX2_grow_0 rfl ?_
  refine q_bipush (v := nI 27) G (pc := 1) dX2_grow_1 (by decide) ?_
  refine q_imulN G (pc := 3) dX2_grow_3 ?_
  refine q_iload_n G (pc := 4) dX2_grow_4 rfl ?_
  refine q_iaddN G (pc := 5) dX2_grow_5 ?_
  refine q_istore_n G (pc := 6) dX2_grow_6 (by decide) ?_
  show X _ [_, _, _, _] _ _ _ _
  refine q_aload_n G (pc := 7) dX2_grow_7 rfl ?_
  refine q_getR (x := dc + 1) G (pc := 8) dX2_grow_8 fl_X2_11_2 hdc (hg hτ (hf_2_0 hdc)) ?_
  refine q_iload_n G (pc := 11) dX2_grow_11 rfl ?_
  refine q_iald (j := a * 27 + b) (v := nI (nx a b)) G (pc := 12) dX2_grow_12 (ly_2_0 hdc) rfl (by omega) (f3 a b ha hb) ?_
  refine q_if_neN (tgt := 45) G (pc := 13) dX2_grow_13 (by decide) (by omega) (fun c13 => ?_) (fun c13 => ?_)
  · refine q_aload_n G (pc := 45) dX2_grow_45 rfl ?_
    refine q_getR (x := dc + 1) G (pc := 46) dX2_grow_46 fl_X2_11_2 hdc (hg hτ (hf_2_0 hdc)) ?_
    refine q_iload_n G (pc := 49) dX2_grow_49 rfl ?_
    refine q_iald (j := a * 27 + b) (v := nI (nx a b)) G (pc := 50) dX2_grow_50 (ly_2_0 hdc) rfl (by omega) (f3 a b ha hb) ?_
    refine q_iret G (pc := 51) dX2_grow_51 (Or.inl rfl) ?_
    exact ⟨rfl, _, rfl, Or.inr ⟨c13, rfl, rfl⟩⟩
  · refine q_aload_n G (pc := 16) dX2_grow_16 rfl ?_
    refine q_getI (v := nI (nd)) G (pc := 17) dX2_grow_17 fl_X2_28_2 (by decide) hdc f1 ?_
    refine q_bipush (v := nI 50) G (pc := 20) dX2_grow_20 (by decide) ?_
    refine q_icmp_geN (tgt := 45) G (pc := 22) dX2_grow_22 (by decide) (by omega) (by omega) (fun c22 => ?_) (fun c22 => ?_)
    · exact absurd c22 (by omega)
    · refine q_aload_n G (pc := 25) dX2_grow_25 rfl ?_
      refine q_getR (x := dc + 1) G (pc := 26) dX2_grow_26 fl_X2_11_2 hdc (hg hτ (hf_2_0 hdc)) ?_
      refine q_iload_n G (pc := 29) dX2_grow_29 rfl ?_
      refine q_aload_n G (pc := 30) dX2_grow_30 rfl ?_
      refine q_getI (v := nI (nd)) G (pc := 31) dX2_grow_31 fl_X2_28_2 (by decide) hdc f1 ?_
      refine q_iast (j := a * 27 + b) G (pc := 34) dX2_grow_34 (ly_2_0 hdc) rfl (by omega) ?_
      refine q_aload_n G (pc := 35) dX2_grow_35 rfl ?_
      refine q_dup G (pc := 36) dX2_grow_36 rfl ?_
      refine q_getI (v := nI (nd)) G (pc := 37) dX2_grow_37 fl_X2_28_2 (by decide) hdc (by simp [va_up, f1]) ?_
      refine q_iconst (v := nI 1) G (pc := 40) dX2_grow_40 (by decide) ?_
      refine q_iaddN G (pc := 41) dX2_grow_41 ?_
      refine q_putI G (pc := 42) dX2_grow_42 fl_X2_28_2 hdc ?_
      refine q_aload_n G (pc := 45) dX2_grow_45 rfl ?_
      refine q_getR (x := dc + 1) G (pc := 46) dX2_grow_46 fl_X2_11_2 hdc (hg hτ (hf_2_0 hdc)) ?_
      refine q_iload_n G (pc := 49) dX2_grow_49 rfl ?_
      refine q_iald (j := a * 27 + b) (v := nI (nd)) G (pc := 50) dX2_grow_50 (ly_2_0 hdc) rfl (by omega) (by simp [va_up]) ?_
      refine q_iret G (pc := 51) dX2_grow_51 (Or.inl rfl) ?_
      refine ⟨rfl, _, rfl, Or.inl ⟨c13, rfl, ?_, fun c hc => by simp at hc; simp [va_up, hc]⟩⟩
      have h1 := hF.set (v := nd) ha hb
      exact ⟨by simp [va_up], by omega, fun i j hi hj => by have e := h1.2.2 i j hi hj; simp [va_up] at e ⊢; exact e⟩
theorem getD_mem {u : List Nat} {i : Nat} (h : i < u.length) : u.getD i 0 ∈ u := by
  rw [List.getD_eq_getElem?_getD, List.getElem?_eq_getElem h]
  exact List.getElem_mem h
theorem take_s {u : List Nat} {i : Nat} (h : i < u.length) : u.take (i + 1) = u.take i ++ [u.getD i 0] := by
  rw [List.take_succ, List.getD_eq_getElem?_getD, List.getElem?_eq_getElem h]
  rfl
theorem wlk_s {nx : Nat → Nat → Nat} {u : List Nat} {i : Nat} (h : i < u.length) : wlk nx (u.take (i + 1)) = nx (wlk nx (u.take i)) (u.getD i 0) := by
  rw [take_s h]
  unfold wlk
  rw [List.foldl_append]
  rfl
theorem add_step {nx : Nat → Nat → Nat} {nd : Nat} {WL : List (List Nat)} {hi h : mm_HI} {dc : Nat} {x : Int32} (hT : trOK nx nd WL) {u : List Nat} {i : Nat} (hp : 1 ≤ wlk nx (u.take i) ∧ wlk nx (u.take i) < nd) (hi0 : i < u.length) (hu : ∀ c ∈ u, c < 26)
    (hx : (nx (wlk nx (u.take i)) (u.getD i 0) = 0 ∧ x = nI nd ∧ dicF h dc (up2n nx (wlk nx (u.take i)) (u.getD i 0) nd) (nd + 1) ∧ fr [dc, dc + 1] hi h) ∨ (nx (wlk nx (u.take i)) (u.getD i 0) ≠ 0 ∧ x = nI (nx (wlk nx (u.take i)) (u.getD i 0)) ∧ h = hi)) (hdc : mm_lay dc = (0, 2)) (hF : dicF hi dc nx nd) :
    ∃ (nx2 : Nat → Nat → Nat) (nd2 : Nat), dicF h dc nx2 nd2 ∧ trOK nx2 nd2 WL ∧ nd2 ≤ nd + 1 ∧ (1 ≤ wlk nx2 (u.take (i + 1)) ∧ wlk nx2 (u.take (i + 1)) < nd2) ∧ fr [dc, dc + 1] hi h ∧ x = nI (wlk nx2 (u.take (i + 1))) := by
  have hc := hu _ (getD_mem hi0)
  rcases hx with ⟨h1, h2, h3, h4⟩ | ⟨h1, h2, h3⟩
  · have hT2 := hT.grow hp.1 hp.2 hc h1
    have e : wlk (up2n nx (wlk nx (u.take i)) (u.getD i 0) nd) (u.take (i + 1)) = nd := by
      rw [wlk_s hi0]
      have e1 : wlk (up2n nx (wlk nx (u.take i)) (u.getD i 0) nd) (u.take i) = wlk nx (u.take i) := fold_grow (fun b => hT.2.2.1 0 b (Or.inl rfl)) h1 _ 1 (by have := hp.1; unfold wlk at this; omega)
      rw [e1, up2n_s]
    have := hT.1
    exact ⟨_, _, h3, hT2, by omega, by rw [e]; omega, h4, by rw [e]; exact h2⟩
  · have e := wlk_s (nx := nx) hi0
    subst h3
    exact ⟨nx, nd, hF, hT, by omega, by rw [e]; have := hT.2.1 (wlk nx (u.take i)) (u.getD i 0); omega, fr.rf, by rw [e]; exact h2⟩
set_option maxHeartbeats 2000000 in
theorem s_X2_add {d : Nat} (hd : 2 ≤ d) {hi : mm_HI} {τ : mm_T} {sw : Bool} (hτ : τ.1 = mm_hr sw) {dc nd : Nat} {nx : Nat → Nat → Nat} (hdc : mm_lay dc = (0, 2)) (hF : dicF hi dc nx nd) {WL : List (List Nat)} {u : List Nat} {lc fm : Nat} (hT : trOK nx nd WL) (hlc : mm_lay lc = (1, 48)) (hl1 : lc ≠ dc ∧ lc ≠ dc + 1) (hfm : fm + u.length ≤ 48) (hw : ∀ i, i < u.length → hi lc (fm + i) = nI (u.getD i 0)) (hu : ∀ c ∈ u, c < 26) (h50 : nd + u.length ≤ 50) : wV d yX2_add [.ref dc, .ref lc, .int (nI fm), .int (nI u.length)] hi τ (fun h => ∃ (nx2 : Nat → Nat → Nat) (nd2 : Nat), dicF h dc nx2 nd2 ∧ trOK nx2 nd2 (WL ++ [u]) ∧ nd2 ≤ nd + u.length ∧ fr [dc, dc + 1] hi h) := by
  refine w_intro (by omega) M_X2_add (Nat.le_of_ble_eq_true rfl) rfl ?_
  intro e X he G
  show X 0 [some (.ref (dc)), some (.ref (lc)), some (.int (nI (fm))), some (.int (nI (u.length))), none, none] [] hi τ 125
  obtain ⟨f1, f2, f3⟩ := id hF
  refine q_iconst (v := nI 1) G (pc := 0) dX2_add_0 (by decide) ?_
  refine q_istore G (pc := 1) dX2_add_1 (by decide) ?_
  show X _ [_, _, _, _, _, _] _ _ _ _
  refine q_iload_n G (pc := 3) dX2_add_3 rfl ?_
  refine q_istore G (pc := 4) dX2_add_4 (by decide) ?_
  show X _ [_, _, _, _, _, _] _ _ _ _
  have L6 : ∀ (m : Nat) (i ndk : Nat) (nxk : Nat → Nat → Nat) (hk : mm_HI), u.length - i < m → i ≤ u.length → dicF hk dc nxk ndk → trOK nxk ndk WL → ndk ≤ nd + i → (1 ≤ wlk nxk (u.take i) ∧ wlk nxk (u.take i) < ndk) → fr [dc, dc + 1] hi hk → X 6 [some (.ref (dc)), some (.ref (lc)), some (.int (nI (fm))), some (.int (nI (u.length))), some (.int (nI (wlk nxk (u.take i)))), some (.int (nI (fm + i)))] [] hk τ 125 := by
    intro m
    induction m with
    | zero => intro i ndk nxk hk hm; exact absurd hm (Nat.not_lt_zero _)
    | succ m ih6 =>
      intro i ndk nxk hk hm h0 g1 g2 g3 g4 g5
      have hlet : ∀ j, j < u.length → hk lc (fm + j) = nI (u.getD j 0) := fun j hj => by rw [g5 lc (by simp; omega)]; exact hw j hj
      refine q_iload G (pc := 6) dX2_add_6 rfl ?_
      refine q_iload_n G (pc := 8) dX2_add_8 rfl ?_
      refine q_iload_n G (pc := 9) dX2_add_9 rfl ?_
      refine q_iaddN G (pc := 10) dX2_add_10 ?_
      refine q_icmp_geN (tgt := 32) G (pc := 11) dX2_add_11 (by decide) (by omega) (by omega) (fun c11 => ?_) (fun c11 => ?_)
      · refine q_aload_n G (pc := 32) dX2_add_32 rfl ?_
        refine q_iload G (pc := 33) dX2_add_33 rfl ?_
        refine q_cV1V G (pc := 35) dX2_add_35 cv_X2_24 hdc (s_X2_mayEndAt (by omega) hτ hdc g1 (a := wlk nxk (u.take i)) (by omega)) (Nat.le_of_ble_eq_true rfl) ?_
        intro hk2 hx
        obtain ⟨x1, x2⟩ := hx
        refine q_vret G (pc := 38) dX2_add_38 rfl ?_
        refine ⟨rfl, rfl, _, ndk, x1, ?_, by omega, fun c hc => ?_⟩
        · rw [show i = u.length by omega, List.take_length] at g4 ⊢
          exact g2.fin hu (by omega)
        · rw [x2 c (by simp at hc ⊢; omega)]
          exact g5 c hc
      · refine q_aload_n G (pc := 14) dX2_add_14 rfl ?_
        refine q_iload G (pc := 15) dX2_add_15 rfl ?_
        refine q_aload_n G (pc := 17) dX2_add_17 rfl ?_
        refine q_iload G (pc := 18) dX2_add_18 rfl ?_
        refine q_iald (j := fm + i) (v := nI (u.getD i 0)) G (pc := 20) dX2_add_20 hlc rfl (by omega) (hlet i (by omega)) ?_
        refine q_cV2I G (pc := 21) dX2_add_21 cv_X2_32 hdc (s_X2_grow (by omega) hτ hdc g1 (a := wlk nxk (u.take i)) (b := u.getD i 0) (by have := g2.2.1; omega) (by have := hu (u.getD i 0) (getD_mem (by omega)); omega) (by have := g2.2.1 (wlk nxk (u.take i)) (u.getD i 0); omega) (by omega)) (Nat.le_of_ble_eq_true rfl) ?_
        intro x hk2 hx
        obtain ⟨nx2, nd2, j1, j2, j3, j4, j5, j6⟩ := add_step g2 g4 (u := u) (i := i) (by omega) hu hx hdc g1
        subst j6
        refine q_istore G (pc := 24) dX2_add_24 (by decide) ?_
        show X _ [_, _, _, _, _, _] _ _ _ _
        refine q_iincN G (pc := 26) dX2_add_26 rfl (inc1 _) (by decide) ?_
        show X _ [_, _, _, _, _, _] _ _ _ _
        refine q_goto (tgt := 6) G (pc := 29) dX2_add_29 (by decide) ?_
        exact ih6 (i + 1) nd2 nx2 hk2 (by omega) (by omega) j1 j2 (by omega) j4 (g5.trans j5)
  exact L6 _ 0 nd nx hi (Nat.lt_succ_self _) (by omega) hF hT (by omega) (by have := hT.1; exact ⟨Nat.le_refl 1, by show 1 < nd; omega⟩) fr.rf
