set_option maxHeartbeats 2000000 in
theorem s_X6_wayOf {d : Nat} (hd : 1 ≤ d) {hi : mm_HI} {τ : mm_T} {sw : Bool} (hτ : τ.1 = mm_hr sw) {r n6 t6 : Nat} {f6 : Nat → Nat} (hr : mm_lay r = (0, 6)) (hF : rowF hi r n6 f6 t6) {s : Nat} (hs : s < 6) : wE d yX6_wayOf [.ref r, .int (nI s)] hi τ (nI (t6 / 2 ^ s % 2)) := by
  refine w_intro (by omega) M_X6_wayOf (Nat.le_of_ble_eq_true rfl) rfl ?_
  intro e X he G
  show X 0 [some (.ref (r)), some (.int (nI (s)))] [] hi τ 125
  obtain ⟨f1, f2, f3, f4, f5, f6b⟩ := id hF
  refine q_aload_n G (pc := 0) dX6_wayOf_0 rfl ?_
  refine q_getI (v := nI (t6)) G (pc := 1) dX6_wayOf_1 fl_X6_25_6 (by decide) hr f2 ?_
  refine q_iload_n G (pc := 4) dX6_wayOf_4 rfl ?_
  refine q_ishr G (pc := 5) dX6_wayOf_5 ?_
  refine q_iconst (v := 1) G (pc := 6) dX6_wayOf_6 (by decide) ?_
  refine q_iand G (pc := 7) dX6_wayOf_7 ?_
  rw [bit_at _ f6b _ hs]
  refine q_iret G (pc := 8) dX6_wayOf_8 (Or.inl rfl) ?_
  exact ⟨rfl, rfl, rfl⟩
set_option maxHeartbeats 2000000 in
theorem s_X6_placeOf {d : Nat} (hd : 1 ≤ d) {hi : mm_HI} {τ : mm_T} {sw : Bool} (hτ : τ.1 = mm_hr sw) {r n6 t6 : Nat} {f6 : Nat → Nat} (hr : mm_lay r = (0, 6)) (hF : rowF hi r n6 f6 t6) {s : Nat} (hs : s < 6) : wE d yX6_placeOf [.ref r, .int (nI s)] hi τ (plI (fnd f6 s n6)) := by
  refine w_intro (by omega) M_X6_placeOf (Nat.le_of_ble_eq_true rfl) rfl ?_
  intro e X he G
  show X 0 [some (.ref (r)), some (.int (nI (s))), none] [] hi τ 125
  obtain ⟨f1, f2, f3, f4, f5, f6b⟩ := id hF
  refine q_iconst (v := nI 0) G (pc := 0) dX6_placeOf_0 (by decide) ?_
  refine q_istore_n G (pc := 1) dX6_placeOf_1 (by decide) ?_
  show X _ [_, _, _] _ _ _ _
  have L2 : ∀ (m : Nat) (i : Nat), n6 - i < m → i ≤ n6 → (∀ j, j < i → f6 j ≠ s) → X 2 [some (.ref (r)), some (.int (nI (s))), some (.int (nI (i)))] [] hi τ 125 := by
    intro m
    induction m with
    | zero => intro i hm; exact absurd hm (Nat.not_lt_zero _)
    | succ m ih2 =>
      intro i hm hi6 hnot
      refine q_iload_n G (pc := 2) dX6_placeOf_2 rfl ?_
      refine q_aload_n G (pc := 3) dX6_placeOf_3 rfl ?_
      refine q_getI (v := nI (n6)) G (pc := 4) dX6_placeOf_4 fl_X6_21_6 (by decide) hr f1 ?_
      refine q_icmp_geN (tgt := 28) G (pc := 7) dX6_placeOf_7 (by decide) (by omega) (by omega) (fun c7 => ?_) (fun c7 => ?_)
      · refine q_bipush (v := -9) G (pc := 28) dX6_placeOf_28 (by decide) ?_
        refine q_iret G (pc := 30) dX6_placeOf_30 (Or.inl rfl) ?_
        exact ⟨rfl, rfl, by rw [fnd_no (fun j hj => hnot j (by omega))]; rfl⟩
      · refine q_aload_n G (pc := 10) dX6_placeOf_10 rfl ?_
        refine q_getR (x := r + 1) G (pc := 11) dX6_placeOf_11 fl_X6_9_6 hr (hg hτ (hf_6_0 hr)) ?_
        refine q_iload_n G (pc := 14) dX6_placeOf_14 rfl ?_
        have fb := f5 i (by omega)
        refine q_iald (j := i) (v := nI (f6 i)) G (pc := 15) dX6_placeOf_15 (ly_6_0 hr) rfl (by omega) (f3 _ (by omega)) ?_
        refine q_iload_n G (pc := 16) dX6_placeOf_16 rfl ?_
        refine q_icmp_neN (tgt := 22) G (pc := 17) dX6_placeOf_17 (by decide) (by omega) (by omega) (fun c17 => ?_) (fun c17 => ?_)
        · refine q_iincN G (pc := 22) dX6_placeOf_22 rfl (inc1 _) (by decide) ?_
          show X _ [_, _, _] _ _ _ _
          refine q_goto (tgt := 2) G (pc := 25) dX6_placeOf_25 (by decide) ?_
          exact ih2 (i + 1) (by omega) (by omega) (fun j hj => by rcases Nat.lt_succ_iff_lt_or_eq.mp hj with q | q; exact hnot j q; subst q; exact c17)
        · refine q_iload_n G (pc := 20) dX6_placeOf_20 rfl ?_
          refine q_iret G (pc := 21) dX6_placeOf_21 (Or.inl rfl) ?_
          exact ⟨rfl, rfl, by rw [fnd_of (j := i) (by omega) c17 hnot]; rfl⟩
  exact L2 _ 0 (Nat.lt_succ_self _) (by omega) (fun j hj => absurd hj (Nat.not_lt_zero _))
set_option maxHeartbeats 2000000 in
theorem s_X6_number {d : Nat} (hd : 1 ≤ d) {hi : mm_HI} {τ : mm_T} {sw : Bool} (hτ : τ.1 = mm_hr sw) {r n6 t6 : Nat} {f6 : Nat → Nat} (hr : mm_lay r = (0, 6)) (hF : rowF hi r n6 f6 t6) : wE d yX6_number [.ref r] hi τ (nI (numF f6 n6)) := by
  refine w_intro (by omega) M_X6_number (Nat.le_of_ble_eq_true rfl) rfl ?_
  intro e X he G
  show X 0 [some (.ref (r)), none, none] [] hi τ 125
  obtain ⟨f1, f2, f3, f4, f5, f6b⟩ := id hF
  refine q_iconst (v := nI 0) G (pc := 0) dX6_number_0 (by decide) ?_
  refine q_istore_n G (pc := 1) dX6_number_1 (by decide) ?_
  show X _ [_, _, _] _ _ _ _
  refine q_iconst (v := nI 0) G (pc := 2) dX6_number_2 (by decide) ?_
  refine q_istore_n G (pc := 3) dX6_number_3 (by decide) ?_
  show X _ [_, _, _] _ _ _ _
  have L4 : ∀ (m : Nat) (i : Nat), n6 - i < m → i ≤ n6 → X 4 [some (.ref (r)), some (.int (nI (numF f6 i))), some (.int (nI (i)))] [] hi τ 125 := by
    intro m
    induction m with
    | zero => intro i hm; exact absurd hm (Nat.not_lt_zero _)
    | succ m ih4 =>
      intro i hm hi6
      refine q_iload_n G (pc := 4) dX6_number_4 rfl ?_
      refine q_aload_n G (pc := 5) dX6_number_5 rfl ?_
      refine q_getI (v := nI (n6)) G (pc := 6) dX6_number_6 fl_X6_21_6 (by decide) hr f1 ?_
      refine q_icmp_geN (tgt := 32) G (pc := 9) dX6_number_9 (by decide) (by omega) (by omega) (fun c9 => ?_) (fun c9 => ?_)
      · refine q_iload_n G (pc := 32) dX6_number_32 rfl ?_
        refine q_iret G (pc := 33) dX6_number_33 (Or.inl rfl) ?_
        exact ⟨rfl, rfl, by rw [show i = n6 by omega]⟩
      · refine q_iload_n G (pc := 12) dX6_number_12 rfl ?_
        refine q_bipush (v := nI 10) G (pc := 13) dX6_number_13 (by decide) ?_
        refine q_imulN G (pc := 15) dX6_number_15 ?_
        refine q_aload_n G (pc := 16) dX6_number_16 rfl ?_
        refine q_getR (x := r + 1) G (pc := 17) dX6_number_17 fl_X6_9_6 hr (hg hτ (hf_6_0 hr)) ?_
        refine q_iload_n G (pc := 20) dX6_number_20 rfl ?_
        refine q_iald (j := i) (v := nI (f6 i)) G (pc := 21) dX6_number_21 (ly_6_0 hr) rfl (by omega) (f3 _ (by omega)) ?_
        refine q_iaddN G (pc := 22) dX6_number_22 ?_
        refine q_iconst (v := nI 1) G (pc := 23) dX6_number_23 (by decide) ?_
        refine q_iaddN G (pc := 24) dX6_number_24 ?_
        refine q_istore_n G (pc := 25) dX6_number_25 (by decide) ?_
        show X _ [_, _, _] _ _ _ _
        refine q_iincN G (pc := 26) dX6_number_26 rfl (inc1 _) (by decide) ?_
        show X _ [_, _, _] _ _ _ _
        refine q_goto (tgt := 4) G (pc := 29) dX6_number_29 (by decide) ?_
        exact ih4 (i + 1) (by omega) (by omega)
  exact L4 _ 0 (Nat.lt_succ_self _) (by omega)
set_option maxHeartbeats 2000000 in
theorem s_X6_set {d : Nat} (hd : 1 ≤ d) {hi : mm_HI} {τ : mm_T} {sw : Bool} (hτ : τ.1 = mm_hr sw) {r n6 t6 : Nat} {f6 : Nat → Nat} (hr : mm_lay r = (0, 6)) (hF : rowF hi r n6 f6 t6) : wE d yX6_set [.ref r] hi τ (nI (mskF f6 n6)) := by
  refine w_intro (by omega) M_X6_set (Nat.le_of_ble_eq_true rfl) rfl ?_
  intro e X he G
  show X 0 [some (.ref (r)), none, none] [] hi τ 125
  obtain ⟨f1, f2, f3, f4, f5, f6b⟩ := id hF
  refine q_iconst (v := nI 0) G (pc := 0) dX6_set_0 (by decide) ?_
  refine q_istore_n G (pc := 1) dX6_set_1 (by decide) ?_
  show X _ [_, _, _] _ _ _ _
  refine q_iconst (v := nI 0) G (pc := 2) dX6_set_2 (by decide) ?_
  refine q_istore_n G (pc := 3) dX6_set_3 (by decide) ?_
  show X _ [_, _, _] _ _ _ _
  have L4 : ∀ (m : Nat) (i : Nat), n6 - i < m → i ≤ n6 → X 4 [some (.ref (r)), some (.int (nI (mskF f6 i))), some (.int (nI (i)))] [] hi τ 125 := by
    intro m
    induction m with
    | zero => intro i hm; exact absurd hm (Nat.not_lt_zero _)
    | succ m ih4 =>
      intro i hm hi6
      refine q_iload_n G (pc := 4) dX6_set_4 rfl ?_
      refine q_aload_n G (pc := 5) dX6_set_5 rfl ?_
      refine q_getI (v := nI (n6)) G (pc := 6) dX6_set_6 fl_X6_21_6 (by decide) hr f1 ?_
      refine q_icmp_geN (tgt := 29) G (pc := 9) dX6_set_9 (by decide) (by omega) (by omega) (fun c9 => ?_) (fun c9 => ?_)
      · refine q_iload_n G (pc := 29) dX6_set_29 rfl ?_
        refine q_iret G (pc := 30) dX6_set_30 (Or.inl rfl) ?_
        exact ⟨rfl, rfl, by rw [show i = n6 by omega]⟩
      · refine q_iload_n G (pc := 12) dX6_set_12 rfl ?_
        refine q_iconst (v := 1) G (pc := 13) dX6_set_13 (by decide) ?_
        refine q_aload_n G (pc := 14) dX6_set_14 rfl ?_
        refine q_getR (x := r + 1) G (pc := 15) dX6_set_15 fl_X6_9_6 hr (hg hτ (hf_6_0 hr)) ?_
        refine q_iload_n G (pc := 18) dX6_set_18 rfl ?_
        refine q_iald (j := i) (v := nI (f6 i)) G (pc := 19) dX6_set_19 (ly_6_0 hr) rfl (by omega) (f3 _ (by omega)) ?_
        refine q_ishl G (pc := 20) dX6_set_20 ?_
        rw [bit_one _ (f5 i (by omega))]
        refine q_ior G (pc := 21) dX6_set_21 ?_
        rw [bit_or _ (mskF_lt (fun j hj => f5 j (by omega))) _ (f5 i (by omega))]
        refine q_istore_n G (pc := 22) dX6_set_22 (by decide) ?_
        show X _ [_, _, _] _ _ _ _
        refine q_iincN G (pc := 23) dX6_set_23 rfl (inc1 _) (by decide) ?_
        show X _ [_, _, _] _ _ _ _
        refine q_goto (tgt := 4) G (pc := 26) dX6_set_26 (by decide) ?_
        exact ih4 (i + 1) (by omega) (by omega)
  exact L4 _ 0 (Nat.lt_succ_self _) (by omega)
set_option maxHeartbeats 2000000 in
theorem s_X6_put {d : Nat} (hd : 1 ≤ d) {hi : mm_HI} {τ : mm_T} {sw : Bool} (hτ : τ.1 = mm_hr sw) {r n6 t6 : Nat} {f6 : Nat → Nat} (hr : mm_lay r = (0, 6)) (hF : rowF hi r n6 f6 t6) {p s w : Nat} (hp : p < n6) (hs : s < 6) (hw : w < 2) : wV d yX6_put [.ref r, .int (nI p), .int (nI s), .int (nI w)] hi τ (fun hi2 => rowF hi2 r n6 (va_up f6 p s) (stb t6 s w) ∧ fr [r, r + 1] hi hi2) := by
  refine w_intro (by omega) M_X6_put (Nat.le_of_ble_eq_true rfl) rfl ?_
  intro e X he G
  show X 0 [some (.ref (r)), some (.int (nI (p))), some (.int (nI (s))), some (.int (nI (w)))] [] hi τ 125
  obtain ⟨f1, f2, f3, f4, f5, f6b⟩ := id hF
  refine q_aload_n G (pc := 0) dX6_put_0 rfl ?_
  refine q_getR (x := r + 1) G (pc := 1) dX6_put_1 fl_X6_9_6 hr (hg hτ (hf_6_0 hr)) ?_
  refine q_iload_n G (pc := 4) dX6_put_4 rfl ?_
  refine q_iload_n G (pc := 5) dX6_put_5 rfl ?_
  refine q_iast (j := p) G (pc := 6) dX6_put_6 (ly_6_0 hr) rfl (by omega) ?_
  refine q_aload_n G (pc := 7) dX6_put_7 rfl ?_
  refine q_aload_n G (pc := 8) dX6_put_8 rfl ?_
  refine q_getI (v := nI (t6)) G (pc := 9) dX6_put_9 fl_X6_25_6 (by decide) hr (by simp [va_up, f2]) ?_
  refine q_iconst (v := 1) G (pc := 12) dX6_put_12 (by decide) ?_
  refine q_iload_n G (pc := 13) dX6_put_13 rfl ?_
  refine q_ishl G (pc := 14) dX6_put_14 ?_
  refine q_iconst (v := -1) G (pc := 15) dX6_put_15 (by decide) ?_
  refine q_ixor G (pc := 16) dX6_put_16 ?_
  refine q_iand G (pc := 17) dX6_put_17 ?_
  refine q_iload_n G (pc := 18) dX6_put_18 rfl ?_
  refine q_iload_n G (pc := 19) dX6_put_19 rfl ?_
  refine q_ishl G (pc := 20) dX6_put_20 ?_
  refine q_ior G (pc := 21) dX6_put_21 ?_
  rw [(stb_put _ f6b _ hs _ hw).1]
  refine q_putI G (pc := 22) dX6_put_22 fl_X6_25_6 hr ?_
  refine q_vret G (pc := 25) dX6_put_25 rfl ?_
  refine ⟨rfl, rfl, ⟨by simp [va_up, f1], by simp [va_up], fun j hj => ?_, f4, fun j hj => ?_, (stb_put _ f6b _ hs _ hw).2⟩, fun c hc => ?_⟩
  · by_cases h : j = p
    · subst h; simp [va_up]
    · simp [va_up, h, f3 j hj]
  · by_cases h : j = p
    · subst h; simp [va_up, hs]
    · simp [va_up, h, f5 j hj]
  · simp at hc
    simp [va_up, hc]
set_option maxHeartbeats 2000000 in
theorem s_X6_exchange {d : Nat} (hd : 1 ≤ d) {hi : mm_HI} {τ : mm_T} {sw : Bool} (hτ : τ.1 = mm_hr sw) {r n6 t6 : Nat} {f6 : Nat → Nat} (hr : mm_lay r = (0, 6)) (hF : rowF hi r n6 f6 t6) {p q : Nat} (hp : p < n6) (hq : q < n6) : wV d yX6_exchange [.ref r, .int (nI p), .int (nI q)] hi τ (fun hi2 => rowF hi2 r n6 (swpF f6 p q) t6 ∧ fr [r, r + 1] hi hi2) := by
  refine w_intro (by omega) M_X6_exchange (Nat.le_of_ble_eq_true rfl) rfl ?_
  intro e X he G
  show X 0 [some (.ref (r)), some (.int (nI (p))), some (.int (nI (q))), none] [] hi τ 125
  obtain ⟨f1, f2, f3, f4, f5, f6b⟩ := id hF
  refine q_aload_n G (pc := 0) dX6_exchange_0 rfl ?_
  refine q_getR (x := r + 1) G (pc := 1) dX6_exchange_1 fl_X6_9_6 hr (hg hτ (hf_6_0 hr)) ?_
  refine q_iload_n G (pc := 4) dX6_exchange_4 rfl ?_
  refine q_iald (j := p) (v := nI (f6 p)) G (pc := 5) dX6_exchange_5 (ly_6_0 hr) rfl (by omega) (f3 _ hp) ?_
  refine q_istore_n G (pc := 6) dX6_exchange_6 (by decide) ?_
  show X _ [_, _, _, _] _ _ _ _
  refine q_aload_n G (pc := 7) dX6_exchange_7 rfl ?_
  refine q_getR (x := r + 1) G (pc := 8) dX6_exchange_8 fl_X6_9_6 hr (hg hτ (hf_6_0 hr)) ?_
  refine q_iload_n G (pc := 11) dX6_exchange_11 rfl ?_
  refine q_aload_n G (pc := 12) dX6_exchange_12 rfl ?_
  refine q_getR (x := r + 1) G (pc := 13) dX6_exchange_13 fl_X6_9_6 hr (hg hτ (hf_6_0 hr)) ?_
  refine q_iload_n G (pc := 16) dX6_exchange_16 rfl ?_
  refine q_iald (j := q) (v := nI (f6 q)) G (pc := 17) dX6_exchange_17 (ly_6_0 hr) rfl (by omega) (f3 _ hq) ?_
  refine q_iast (j := p) G (pc := 18) dX6_exchange_18 (ly_6_0 hr) rfl (by omega) ?_
  refine q_aload_n G (pc := 19) dX6_exchange_19 rfl ?_
  refine q_getR (x := r + 1) G (pc := 20) dX6_exchange_20 fl_X6_9_6 hr (hg hτ (hf_6_0 hr)) ?_
  refine q_iload_n G (pc := 23) dX6_exchange_23 rfl ?_
  refine q_iload_n G (pc := 24) dX6_exchange_24 rfl ?_
  refine q_iast (j := q) G (pc := 25) dX6_exchange_25 (ly_6_0 hr) rfl (by omega) ?_
  refine q_vret G (pc := 26) dX6_exchange_26 rfl ?_
  refine ⟨rfl, rfl, ⟨by simp [va_up, f1], by simp [va_up, f2], fun j hj => ?_, f4, fun j hj => ?_, f6b⟩, fun c hc => ?_⟩
  · by_cases h : j = q
    · subst h; simp [va_up, swpF]
    · by_cases h2 : j = p
      · subst h2; simp [va_up, swpF, h]
      · simp [va_up, swpF, h, h2, f3 j hj]
  · unfold swpF
    repeat' split
    · exact f5 _ hp
    · exact f5 _ hq
    · exact f5 _ hj
  · simp at hc
    simp [va_up, hc]
set_option maxHeartbeats 2000000 in
theorem s_X6_carry {d : Nat} (hd : 2 ≤ d) {hi : mm_HI} {τ : mm_T} {sw : Bool} (hτ : τ.1 = mm_hr sw) {r n6 t6 : Nat} {f6 : Nat → Nat} (hr : mm_lay r = (0, 6)) (hF : rowF hi r n6 f6 t6) {p q : Nat} (hp : p < n6) (hq : q < n6) : wV d yX6_carry [.ref r, .int (nI p), .int (nI q)] hi τ (fun hi2 => rowF hi2 r n6 (fun j => f6 (crr p q j)) t6 ∧ fr [r, r + 1] hi hi2) := by
  refine w_intro (by omega) M_X6_carry (Nat.le_of_ble_eq_true rfl) rfl ?_
  intro e X he G
  show X 0 [some (.ref (r)), some (.int (nI (p))), some (.int (nI (q))), none, none, none] [] hi τ 125
  obtain ⟨f1, f2, f3, f4, f5, f6b⟩ := id hF
  refine q_iload_n G (pc := 0) dX6_carry_0 rfl ?_
  refine q_iload_n G (pc := 1) dX6_carry_1 rfl ?_
  refine q_icmp_geN (tgt := 9) G (pc := 2) dX6_carry_2 (by decide) (by omega) (by omega) (fun c2 => ?_) (fun c2 => ?_)
  · refine q_iconst (v := -1) G (pc := 9) dX6_carry_9 (by decide) ?_
    refine q_istore_n G (pc := 10) dX6_carry_10 (by decide) ?_
    show X _ [_, _, _, _, _, _] _ _ _ _
    refine q_iload_n G (pc := 11) dX6_carry_11 rfl ?_
    refine q_iload_n G (pc := 12) dX6_carry_12 rfl ?_
    refine q_isub G (pc := 13) dX6_carry_13 ?_
    refine q_mabs G (pc := 14) dX6_carry_14 mx_X6_28 (Nat.le_refl _) (Nat.le_of_ble_eq_true rfl) ?_
    rw [abs_s p (by omega) q (by omega) c2]
    refine q_istore G (pc := 17) dX6_carry_17 (by decide) ?_
    show X _ [_, _, _, _, _, _] _ _ _ _
    refine q_iconst (v := nI 0) G (pc := 19) dX6_carry_19 (by decide) ?_
    refine q_istore G (pc := 20) dX6_carry_20 (by decide) ?_
    show X _ [_, _, _, _, _, _] _ _ _ _
    have L22 : ∀ (m : Nat) (k : Nat) (hk : mm_HI), p - q - k < m → k ≤ p - q → rowF hk r n6 (fun j => f6 (crr p (p - k) j)) t6 → fr [r, r + 1] hi hk → X 22 [some (.ref (r)), some (.int (nI (p))), some (.int (nI (q))), some (.int (-1)), some (.int (nI (p - q))), some (.int (nI (k)))] [] hk τ 125 := by
      intro m
      induction m with
      | zero => intro k hk hm; exact absurd hm (Nat.not_lt_zero _)
      | succ m ih22 =>
        intro k hk hm hk0 hk1 hk3
        refine q_iload G (pc := 22) dX6_carry_22 rfl ?_
        refine q_iload G (pc := 24) dX6_carry_24 rfl ?_
        refine q_icmp_geN (tgt := 53) G (pc := 26) dX6_carry_26 (by decide) (by omega) (by omega) (fun c26 => ?_) (fun c26 => ?_)
        · refine q_vret G (pc := 53) dX6_carry_53 rfl ?_
          rw [show p - k = q by omega] at hk1
          exact ⟨rfl, rfl, hk1, hk3⟩
        · refine q_aload_n G (pc := 29) dX6_carry_29 rfl ?_
          refine q_iload_n G (pc := 30) dX6_carry_30 rfl ?_
          refine q_iload G (pc := 31) dX6_carry_31 rfl ?_
          refine q_iload_n G (pc := 33) dX6_carry_33 rfl ?_
          refine q_imul G (pc := 34) dX6_carry_34 ?_
          refine q_iadd G (pc := 35) dX6_carry_35 ?_
          rw [mul_m p (by omega) k (by omega) (by omega)]
          refine q_iload_n G (pc := 36) dX6_carry_36 rfl ?_
          refine q_iload G (pc := 37) dX6_carry_37 rfl ?_
          refine q_iconst (v := nI 1) G (pc := 39) dX6_carry_39 (by decide) ?_
          refine q_iaddN G (pc := 40) dX6_carry_40 ?_
          refine q_iload_n G (pc := 41) dX6_carry_41 rfl ?_
          refine q_imul G (pc := 42) dX6_carry_42 ?_
          refine q_iadd G (pc := 43) dX6_carry_43 ?_
          rw [mul_m p (by omega) (k + 1) (by omega) (by omega)]
          refine q_cV2V G (pc := 44) dX6_carry_44 cv_X6_34 hr (s_X6_exchange (by omega) hτ hr hk1 (p := p - k) (q := p - (k + 1)) (by omega) (by omega)) (Nat.le_of_ble_eq_true rfl) ?_
          intro hk2 hx
          rw [crr_dn f6 (by omega)] at hx
          refine q_iincN G (pc := 47) dX6_carry_47 rfl (inc1 _) (by decide) ?_
          show X _ [_, _, _, _, _, _] _ _ _ _
          refine q_goto (tgt := 22) G (pc := 50) dX6_carry_50 (by decide) ?_
          exact ih22 (k + 1) hk2 (by omega) (by omega) hx.1 (hk3.trans hx.2)
    exact L22 _ 0 hi (Nat.lt_succ_self _) (by omega) (by rw [Nat.sub_zero, crr_0]; exact hF) fr.rf
  · refine q_iconst (v := nI 1) G (pc := 5) dX6_carry_5 (by decide) ?_
    refine q_goto (tgt := 10) G (pc := 6) dX6_carry_6 (by decide) ?_
    refine q_istore_n G (pc := 10) dX6_carry_10 (by decide) ?_
    show X _ [_, _, _, _, _, _] _ _ _ _
    refine q_iload_n G (pc := 11) dX6_carry_11 rfl ?_
    refine q_iload_n G (pc := 12) dX6_carry_12 rfl ?_
    refine q_isubN G (pc := 13) dX6_carry_13 (by omega) ?_
    refine q_mabs G (pc := 14) dX6_carry_14 mx_X6_28 (Nat.le_refl _) (Nat.le_of_ble_eq_true rfl) ?_
    rw [abs_n (a := q - p) (by omega)]
    refine q_istore G (pc := 17) dX6_carry_17 (by decide) ?_
    show X _ [_, _, _, _, _, _] _ _ _ _
    refine q_iconst (v := nI 0) G (pc := 19) dX6_carry_19 (by decide) ?_
    refine q_istore G (pc := 20) dX6_carry_20 (by decide) ?_
    show X _ [_, _, _, _, _, _] _ _ _ _
    have L22 : ∀ (m : Nat) (k : Nat) (hk : mm_HI), q - p - k < m → k ≤ q - p → rowF hk r n6 (fun j => f6 (crr p (p + k) j)) t6 → fr [r, r + 1] hi hk → X 22 [some (.ref (r)), some (.int (nI (p))), some (.int (nI (q))), some (.int (nI (1))), some (.int (nI (q - p))), some (.int (nI (k)))] [] hk τ 125 := by
      intro m
      induction m with
      | zero => intro k hk hm; exact absurd hm (Nat.not_lt_zero _)
      | succ m ih22 =>
        intro k hk hm hk0 hk1 hk3
        refine q_iload G (pc := 22) dX6_carry_22 rfl ?_
        refine q_iload G (pc := 24) dX6_carry_24 rfl ?_
        refine q_icmp_geN (tgt := 53) G (pc := 26) dX6_carry_26 (by decide) (by omega) (by omega) (fun c26 => ?_) (fun c26 => ?_)
        · refine q_vret G (pc := 53) dX6_carry_53 rfl ?_
          rw [show p + k = q by omega] at hk1
          exact ⟨rfl, rfl, hk1, hk3⟩
        · refine q_aload_n G (pc := 29) dX6_carry_29 rfl ?_
          refine q_iload_n G (pc := 30) dX6_carry_30 rfl ?_
          refine q_iload G (pc := 31) dX6_carry_31 rfl ?_
          refine q_iload_n G (pc := 33) dX6_carry_33 rfl ?_
          refine q_imulN G (pc := 34) dX6_carry_34 ?_
          refine q_iaddN G (pc := 35) dX6_carry_35 ?_
          refine q_iload_n G (pc := 36) dX6_carry_36 rfl ?_
          refine q_iload G (pc := 37) dX6_carry_37 rfl ?_
          refine q_iconst (v := nI 1) G (pc := 39) dX6_carry_39 (by decide) ?_
          refine q_iaddN G (pc := 40) dX6_carry_40 ?_
          refine q_iload_n G (pc := 41) dX6_carry_41 rfl ?_
          refine q_imulN G (pc := 42) dX6_carry_42 ?_
          refine q_iaddN G (pc := 43) dX6_carry_43 ?_
          refine q_cV2V G (pc := 44) dX6_carry_44 cv_X6_34 hr (s_X6_exchange (by omega) hτ hr hk1 (p := p + k * 1) (q := p + (k + 1) * 1) (by omega) (by omega)) (Nat.le_of_ble_eq_true rfl) ?_
          intro hk2 hx
          rw [Nat.mul_one, Nat.mul_one, ← Nat.add_assoc, crr_up] at hx
          refine q_iincN G (pc := 47) dX6_carry_47 rfl (inc1 _) (by decide) ?_
          show X _ [_, _, _, _, _, _] _ _ _ _
          refine q_goto (tgt := 22) G (pc := 50) dX6_carry_50 (by decide) ?_
          exact ih22 (k + 1) hk2 (by omega) (by omega) hx.1 (hk3.trans hx.2)
    exact L22 _ 0 hi (Nat.lt_succ_self _) (by omega) (by rw [Nat.add_zero, crr_0]; exact hF) fr.rf
set_option maxHeartbeats 2000000 in
theorem s_X6_append {d : Nat} (hd : 1 ≤ d) {hi : mm_HI} {τ : mm_T} {sw : Bool} (hτ : τ.1 = mm_hr sw) {r n6 t6 : Nat} {f6 : Nat → Nat} (hr : mm_lay r = (0, 6)) (hF : rowF hi r n6 f6 t6) {s : Nat} (hn : n6 < 6) (hs : s < 6) : wV d yX6_append [.ref r, .int (nI s)] hi τ (fun hi2 => rowF hi2 r (n6 + 1) (va_up f6 n6 s) t6 ∧ fr [r, r + 1] hi hi2) := by
  refine w_intro (by omega) M_X6_append (Nat.le_of_ble_eq_true rfl) rfl ?_
  intro e X he G
  show X 0 [some (.ref (r)), some (.int (nI (s)))] [] hi τ 125
  obtain ⟨f1, f2, f3, f4, f5, f6b⟩ := id hF
  refine q_aload_n G (pc := 0) dX6_append_0 rfl ?_
  refine q_getI (v := nI (n6)) G (pc := 1) dX6_append_1 fl_X6_21_6 (by decide) hr f1 ?_
  refine q_bipush (v := nI 6) G (pc := 4) dX6_append_4 (by decide) ?_
  refine q_icmp_geN (tgt := 29) G (pc := 6) dX6_append_6 (by decide) (by omega) (by omega) (fun c6 => ?_) (fun c6 => ?_)
  · exact absurd c6 (by omega)
  · refine q_aload_n G (pc := 9) dX6_append_9 rfl ?_
    refine q_getR (x := r + 1) G (pc := 10) dX6_append_10 fl_X6_9_6 hr (hg hτ (hf_6_0 hr)) ?_
    refine q_aload_n G (pc := 13) dX6_append_13 rfl ?_
    refine q_getI (v := nI (n6)) G (pc := 14) dX6_append_14 fl_X6_21_6 (by decide) hr f1 ?_
    refine q_iload_n G (pc := 17) dX6_append_17 rfl ?_
    refine q_iast (j := n6) G (pc := 18) dX6_append_18 (ly_6_0 hr) rfl (by omega) ?_
    refine q_aload_n G (pc := 19) dX6_append_19 rfl ?_
    refine q_dup G (pc := 20) dX6_append_20 rfl ?_
    refine q_getI (v := nI (n6)) G (pc := 21) dX6_append_21 fl_X6_21_6 (by decide) hr (by simp [va_up, f1]) ?_
    refine q_iconst (v := nI 1) G (pc := 24) dX6_append_24 (by decide) ?_
    refine q_iaddN G (pc := 25) dX6_append_25 ?_
    refine q_putI G (pc := 26) dX6_append_26 fl_X6_21_6 hr ?_
    refine q_vret G (pc := 29) dX6_append_29 rfl ?_
    refine ⟨rfl, rfl, ⟨by simp [va_up], by simp [va_up, f2], fun j hj => ?_, by omega, fun j hj => ?_, f6b⟩, fun c hc => ?_⟩
    · by_cases h : j = n6
      · subst h; simp [va_up]
      · simp [va_up, h, f3 j (by omega)]
    · by_cases h : j = n6
      · subst h; simp [va_up, hs]
      · simp [va_up, h, f5 j (by omega)]
    · simp at hc
      simp [va_up, hc]
set_option maxHeartbeats 2000000 in
theorem s_X6_remove {d : Nat} (hd : 3 ≤ d) {hi : mm_HI} {τ : mm_T} {sw : Bool} (hτ : τ.1 = mm_hr sw) {r n6 t6 : Nat} {f6 : Nat → Nat} (hr : mm_lay r = (0, 6)) (hF : rowF hi r n6 f6 t6) {s p : Nat} (hs : s < 6) (hp : fnd f6 s n6 = some p) : wV d yX6_remove [.ref r, .int (nI s)] hi τ (fun hi2 => rowF hi2 r (n6 - 1) (fun j => f6 (crr p (n6 - 1) j)) t6 ∧ fr [r, r + 1] hi hi2) := by
  refine w_intro (by omega) M_X6_remove (Nat.le_of_ble_eq_true rfl) rfl ?_
  intro e X he G
  show X 0 [some (.ref (r)), some (.int (nI (s))), none] [] hi τ 125
  obtain ⟨f1, f2, f3, f4, f5, f6b⟩ := id hF
  have hpn := (fnd_some hp).1
  refine q_aload_n G (pc := 0) dX6_remove_0 rfl ?_
  refine q_iload_n G (pc := 1) dX6_remove_1 rfl ?_
  refine q_cV1E G (pc := 2) dX6_remove_2 cv_X6_38 hr (s_X6_placeOf (by omega) hτ hr hF hs) (Nat.le_of_ble_eq_true rfl) ?_
  rw [show plI (fnd f6 s n6) = nI p by rw [hp]; rfl]
  refine q_istore_n G (pc := 5) dX6_remove_5 (by decide) ?_
  show X _ [_, _, _] _ _ _ _
  refine q_iload_n G (pc := 6) dX6_remove_6 rfl ?_
  refine q_bipush (v := -9) G (pc := 7) dX6_remove_7 (by decide) ?_
  refine q_icmp_ne (tgt := 13) G (pc := 9) dX6_remove_9 (by decide) (fun _ => ?_) (fun c9 => absurd c9 (nI_ne9 (by omega)))
  refine q_aload_n G (pc := 13) dX6_remove_13 rfl ?_
  refine q_iload_n G (pc := 14) dX6_remove_14 rfl ?_
  refine q_aload_n G (pc := 15) dX6_remove_15 rfl ?_
  refine q_getI (v := nI (n6)) G (pc := 16) dX6_remove_16 fl_X6_21_6 (by decide) hr f1 ?_
  refine q_iconst (v := nI 1) G (pc := 19) dX6_remove_19 (by decide) ?_
  refine q_isubN G (pc := 20) dX6_remove_20 (by omega) ?_
  refine q_cV2V G (pc := 21) dX6_remove_21 cv_X6_41 hr (s_X6_carry (by omega) hτ hr hF (p := p) (q := n6 - 1) (by omega) (by omega)) (Nat.le_of_ble_eq_true rfl) ?_
  intro hk hx
  obtain ⟨⟨g1, g2, g3, g4, g5, g6⟩, g7⟩ := hx
  refine q_aload_n G (pc := 24) dX6_remove_24 rfl ?_
  refine q_dup G (pc := 25) dX6_remove_25 rfl ?_
  refine q_getI (v := nI (n6)) G (pc := 26) dX6_remove_26 fl_X6_21_6 (by decide) hr g1 ?_
  refine q_iconst (v := nI 1) G (pc := 29) dX6_remove_29 (by decide) ?_
  refine q_isubN G (pc := 30) dX6_remove_30 (by omega) ?_
  refine q_putI G (pc := 31) dX6_remove_31 fl_X6_21_6 hr ?_
  refine q_vret G (pc := 34) dX6_remove_34 rfl ?_
  refine ⟨rfl, rfl, ⟨by simp [va_up], by simp [va_up, g2], fun j hj => ?_, by omega, fun j hj => g5 j (by omega), g6⟩, fun c hc => ?_⟩
  · simp [va_up, g3 j (by omega)]
  · have h1 := g7 c hc
    simp at hc
    simp [va_up, hc, h1]
set_option maxHeartbeats 2000000 in
theorem s_X6_copy {d : Nat} (hd : 1 ≤ d) {hi : mm_HI} {τ : mm_T} {sw : Bool} (hτ : τ.1 = mm_hr sw) {r q n6 t6 : Nat} {f6 : Nat → Nat} (hr : mm_lay r = (0, 6)) (hq : mm_lay q = (0, 6)) (hne : q ≠ r) (hF : rowF hi q n6 f6 t6) : wV d yX6_copy [.ref r, .ref q] hi τ (fun hi2 => rowF hi2 r n6 f6 t6 ∧ fr [r, r + 1] hi hi2) := by
  refine w_intro (by omega) M_X6_copy (Nat.le_of_ble_eq_true rfl) rfl ?_
  intro e X he G
  show X 0 [some (.ref (r)), some (.ref (q))] [] hi τ 125
  obtain ⟨f1, f2, f3, f4, f5, f6b⟩ := id hF
  refine q_aload_n G (pc := 0) dX6_copy_0 rfl ?_
  refine q_getR (x := q + 1) G (pc := 1) dX6_copy_1 fl_X6_9_6 hq (hg hτ (hf_6_0 hq)) ?_
  refine q_iconst (v := nI 0) G (pc := 4) dX6_copy_4 (by decide) ?_
  refine q_aload_n G (pc := 5) dX6_copy_5 rfl ?_
  refine q_getR (x := r + 1) G (pc := 6) dX6_copy_6 fl_X6_9_6 hr (hg hτ (hf_6_0 hr)) ?_
  refine q_iconst (v := nI 0) G (pc := 9) dX6_copy_9 (by decide) ?_
  refine q_bipush (v := nI 6) G (pc := 10) dX6_copy_10 (by decide) ?_
  refine q_copy6 G (pc := 12) dX6_copy_12 ac_X6_15 (ly_6_0 hq) (ly_6_0 hr) (Nat.le_of_ble_eq_true rfl) ?_
  refine q_aload_n G (pc := 15) dX6_copy_15 rfl ?_
  refine q_aload_n G (pc := 16) dX6_copy_16 rfl ?_
  refine q_getI (v := nI (n6)) G (pc := 17) dX6_copy_17 fl_X6_21_6 (by decide) hq (by simp [va_up, (row_ne hq hr).1, f1]) ?_
  refine q_putI G (pc := 20) dX6_copy_20 fl_X6_21_6 hr ?_
  refine q_aload_n G (pc := 23) dX6_copy_23 rfl ?_
  refine q_aload_n G (pc := 24) dX6_copy_24 rfl ?_
  refine q_getI (v := nI (t6)) G (pc := 25) dX6_copy_25 fl_X6_25_6 (by decide) hq (by simp [va_up, (row_ne hq hr).1, hne, f2]) ?_
  refine q_putI G (pc := 28) dX6_copy_28 fl_X6_25_6 hr ?_
  refine q_vret G (pc := 31) dX6_copy_31 rfl ?_
  refine ⟨rfl, rfl, ⟨by simp [va_up], by simp [va_up], fun j hj => ?_, f4, f5, f6b⟩, fun c hc => ?_⟩
  · simp [va_up, va_cpy, f3 j hj, show j < 6 by omega]
  · simp at hc
    simp [va_up, hc]
