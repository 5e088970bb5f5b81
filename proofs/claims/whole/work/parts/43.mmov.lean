/-! the model moves strips -/
theorem ntF_cp {x y : mm_HI} {c c2 o o2 n t : Nat} {f : Nat → Nat} (h : ntF x c o n f t) (hc : ∀ j, j < 8 → y c2 (o2 + j) = x c (o + j)) : ntF y c2 o2 n f t := by
  obtain ⟨h1, h2, h3, h4, h5, h6⟩ := h
  refine ⟨?_, ?_, fun j hj => ?_, h4, h5, h6⟩
  · have := hc 0 (by omega); rw [Nat.add_zero, Nat.add_zero] at this; rw [this]; exact h1
  · rw [hc 1 (by omega)]; exact h2
  · have := hc (2 + j) (by omega)
    rw [show o2 + (2 + j) = o2 + 2 + j by omega, show o + (2 + j) = o + 2 + j by omega] at this
    rw [this]
    exact h3 j hj
theorem pu_1 {α : Type} {p : Nat → α} {x : α} {K k : Nat} (h : K < 10) (e : k = K) : pu K p x k = x := by unfold pu; rw [if_pos h, if_pos e]
theorem pu_2 {α : Type} {p : Nat → α} {x : α} {K k : Nat} (h : K < 10) (e : k ≠ K) : pu K p x k = p k := by unfold pu; rw [if_pos h, if_neg e]
theorem pu_3 {α : Type} {p : Nat → α} {x : α} {K k : Nat} (h : ¬ K < 10) (e : k = 9) : pu K p x k = x := by unfold pu; rw [if_neg h, if_pos e]
theorem pu_4 {α : Type} {p : Nat → α} {x : α} {K k : Nat} (h : ¬ K < 10) (e : k ≠ 9) : pu K p x k = p (k + 1) := by unfold pu; rw [if_neg h, if_neg e]
theorem addm1 {a : Nat} (h : 0 < a) : nI a + (-1) = nI (a - 1) := dec1 h
theorem mS.dsk {P : PG} {n : Nat} {f : Nat → Nat} {t K : Nat} {pn : Nat → Nat} {pf : Nat → Nat → Nat} {pt : Nat → Nat} {im : Nat → Option DK} {sl : List (Nat × Nat)} {N : Nat} {b : Nat → Nat} {tr : Int64} {x y : mm_HI} {τ : mm_T} (hM : mS P n f t K pn pf pt im sl N b tr x τ) {n2 : Nat} {f2 : Nat → Nat} {t2 K2 : Nat} {pn2 : Nat → Nat} {pf2 : Nat → Nat → Nat} {pt2 : Nat → Nat} (hf : ∀ c, c ≠ 106 → c ≠ 110 → c ≠ 120 → y c = x c) (h0 : ∀ k, k ≠ 6 → k ≠ 7 → k ≠ 28 → y 106 k = x 106 k) (hr : rowM y n2 f2 t2) (hu : unM y K2 pn2 pf2 pt2) (hv : dOK P (n2, f2, t2, K2, pn2, pf2, pt2)) : mS P n2 f2 t2 K2 pn2 pf2 pt2 im sl N b tr y τ := by
  obtain ⟨sw, hτ, hP, hRw, hV, hU, hI, hIV, hN, hNO, hT, hTr⟩ := hM
  have a : ∀ c, c = 107 ∨ c = 108 ∨ c = 109 ∨ c = 111 ∨ c = 112 ∨ c = 113 ∨ c = 124 → y c = x c := fun c hc => hf c (by omega) (by omega) (by omega)
  have b : ∀ k, k = 0 ∨ k = 1 ∨ k = 2 ∨ k = 9 ∨ k = 14 → y 106 k = x 106 k := fun k hk => h0 k (by omega) (by omega) (by omega)
  exact ⟨sw, hτ, hP.keep (b _ (by omega)) (b _ (by omega)) (b _ (by omega)) (a _ (by omega)) (a _ (by omega)) (a _ (by omega)), hr, hv, hu, hI.keep (a _ (by omega)), hIV, hN.keep (b _ (by omega)) (a _ (by omega)) (a _ (by omega)), hNO, hT.keep (b _ (by omega)) (a _ (by omega)), hTr⟩
set_option maxHeartbeats 2000000 in
theorem m_writes {d : Nat} (hd : 1 ≤ d) {hi : mm_HI} {τ : mm_T} {sw : Bool} (hτ : τ.1 = mm_hr sw) {n t c o Nn : Nat} {f : Nat → Nat} (hRw : rowM hi n f t) (hc : mm_lay c = (1, Nn)) (hc2 : c = 120 ∨ c = 124) (ho : o + 8 ≤ Nn) (hNn : Nn ≤ 180) : wV d yX11_writes [.ref 106, .ref c, .int (nI o)] hi τ (fun h => ntF h c o n f t ∧ (∀ z, z ≠ c → h z = hi z) ∧ ∀ j, j < o ∨ o + 8 ≤ j → h c j = hi c j) := by
  refine w_intro (by omega) M_X11_writes (Nat.le_of_ble_eq_true rfl) rfl ?_
  intro e X he G
  show X 0 [some (.ref (106)), some (.ref (c)), some (.int (nI (o))), none] [] hi τ 125
  have hn6 := hRw.2.2.2.1
  refine q_aload_n G (pc := 0) dX11_writes_0 rfl ?_
  refine q_iload_n G (pc := 1) dX11_writes_1 rfl ?_
  refine q_aload_n G (pc := 2) dX11_writes_2 rfl ?_
  refine q_getI (v := nI (n)) G (pc := 3) dX11_writes_3 fl_X11_75_10 (by decide) rfl hRw.1 ?_
  refine q_iast (j := o) G (pc := 6) dX11_writes_6 hc rfl (by omega) ?_
  refine q_aload_n G (pc := 7) dX11_writes_7 rfl ?_
  refine q_iload_n G (pc := 8) dX11_writes_8 rfl ?_
  refine q_iconst (v := nI 1) G (pc := 9) dX11_writes_9 (by decide) ?_
  refine q_iaddN G (pc := 10) dX11_writes_10 ?_
  refine q_aload_n G (pc := 11) dX11_writes_11 rfl ?_
  refine q_getI (v := nI (t)) G (pc := 12) dX11_writes_12 fl_X11_133_10 (by decide) rfl (by simp [va_up, show (106 : Nat) ≠ c by omega]; exact hRw.2.1) ?_
  refine q_iast (j := o + 1) G (pc := 15) dX11_writes_15 hc rfl (by omega) ?_
  refine q_iconst (v := nI 0) G (pc := 16) dX11_writes_16 (by decide) ?_
  refine q_istore_n G (pc := 17) dX11_writes_17 (by decide) ?_
  show X _ [_, _, _, _] _ _ _ _
  have L18 : ∀ (zz : Nat) (k : Nat) (hk : mm_HI), 6 - k < zz → k ≤ 6 → (∀ z, z ≠ c → hk z = hi z) → (∀ j, j < k → hk c (o + 2 + j) = hi 110 j) → (∀ j, j < o + 2 ∨ o + 2 + k ≤ j → hk c j = mm_up2 (mm_up2 hi c o (nI n)) c (o + 1) (nI t) c j) → X 18 [some (.ref (106)), some (.ref (c)), some (.int (nI (o))), some (.int (nI (k)))] [] hk τ 125 := by
    intro zz
    induction zz with
    | zero => intro k hk hm; exact absurd hm (Nat.not_lt_zero _)
    | succ zz ih18 =>
      intro k hk hm h0 g1 g2 g3
      refine q_iload_n G (pc := 18) dX11_writes_18 rfl ?_
      refine q_bipush (v := nI 6) G (pc := 19) dX11_writes_19 (by decide) ?_
      refine q_icmp_geN (tgt := 43) G (pc := 21) dX11_writes_21 (by decide) (by omega) (by omega) (fun c21 => ?_) (fun c21 => ?_)
      · refine q_vret G (pc := 43) dX11_writes_43 rfl ?_
        exact ⟨rfl, rfl, ⟨by rw [g3 o (by omega)]; simp [va_up], by rw [g3 (o + 1) (by omega)]; simp [va_up], fun j hj => by rw [g2 j (by omega)]; exact hRw.2.2.1 j hj, hRw.2.2.2⟩, g1, fun j hj => by rw [g3 j (by omega)]; simp [va_up, show j ≠ o by omega, show j ≠ o + 1 by omega]⟩
      · refine q_aload_n G (pc := 24) dX11_writes_24 rfl ?_
        refine q_iload_n G (pc := 25) dX11_writes_25 rfl ?_
        refine q_iconst (v := nI 2) G (pc := 26) dX11_writes_26 (by decide) ?_
        refine q_iaddN G (pc := 27) dX11_writes_27 ?_
        refine q_iload_n G (pc := 28) dX11_writes_28 rfl ?_
        refine q_iaddN G (pc := 29) dX11_writes_29 ?_
        refine q_aload_n G (pc := 30) dX11_writes_30 rfl ?_
        refine q_getR (x := 110) G (pc := 31) dX11_writes_31 fl_X11_23_10 rfl (hg hτ (hf_10_8 rfl)) ?_
        refine q_iload_n G (pc := 34) dX11_writes_34 rfl ?_
        refine q_iald (j := k) (v := hk 110 k) G (pc := 35) dX11_writes_35 rfl rfl (by omega) rfl ?_
        refine q_iast (j := o + 2 + k) G (pc := 36) dX11_writes_36 hc rfl (by omega) ?_
        refine q_iincN G (pc := 37) dX11_writes_37 rfl (inc1 _) (by decide) ?_
        show X _ [_, _, _, _] _ _ _ _
        refine q_goto (tgt := 18) G (pc := 40) dX11_writes_40 (by decide) ?_
        have e0 : ∀ j, j ≠ o + 2 + k → (mm_up2 hk c (o + 2 + k) (hk 110 k)) c j = hk c j := fun j hj => by simp [va_up, hj]
        refine ih18 (k + 1) _ (by omega) (by omega) (fun z hz => by simp [va_up, hz]; exact g1 z hz) (fun j hj => ?_) (fun j hj => (e0 j (by omega)).trans (g3 j (by omega)))
        by_cases e : j = k
        · subst e; simp [va_up]; rw [g1 110 (by omega)]
        · exact (e0 _ (by omega)).trans (g2 j (by omega))
  exact L18 _ 0 _ (Nat.lt_succ_self _) (by omega) (fun z hz => by simp [va_up, hz]) (fun j hj => absurd hj (Nat.not_lt_zero _)) (fun j hj => rfl)
set_option maxHeartbeats 2000000 in
theorem m_readsBack {d : Nat} (hd : 1 ≤ d) {hi : mm_HI} {τ : mm_T} {sw : Bool} (hτ : τ.1 = mm_hr sw) {n t c o Nn : Nat} {f : Nat → Nat} (hF : ntF hi c o n f t) (hc : mm_lay c = (1, Nn)) (hc2 : c = 120 ∨ c = 124) (ho : o + 8 ≤ Nn) (hNn : Nn ≤ 180) : wV d yX11_readsBack [.ref 106, .ref c, .int (nI o)] hi τ (fun h => rowM h n f t ∧ (∀ z, z ≠ 106 → z ≠ 110 → h z = hi z) ∧ ∀ k, k ≠ 6 → k ≠ 7 → h 106 k = hi 106 k) := by
  refine w_intro (by omega) M_X11_readsBack (Nat.le_of_ble_eq_true rfl) rfl ?_
  intro e X he G
  show X 0 [some (.ref (106)), some (.ref (c)), some (.int (nI (o))), none] [] hi τ 125
  have hn6 := hF.2.2.2.1
  refine q_aload_n G (pc := 0) dX11_readsBack_0 rfl ?_
  refine q_aload_n G (pc := 1) dX11_readsBack_1 rfl ?_
  refine q_iload_n G (pc := 2) dX11_readsBack_2 rfl ?_
  refine q_iald (j := o) (v := nI (n)) G (pc := 3) dX11_readsBack_3 hc rfl (by omega) hF.1 ?_
  refine q_putI G (pc := 4) dX11_readsBack_4 fl_X11_75_10 rfl ?_
  refine q_aload_n G (pc := 7) dX11_readsBack_7 rfl ?_
  refine q_aload_n G (pc := 8) dX11_readsBack_8 rfl ?_
  refine q_iload_n G (pc := 9) dX11_readsBack_9 rfl ?_
  refine q_iconst (v := nI 1) G (pc := 10) dX11_readsBack_10 (by decide) ?_
  refine q_iaddN G (pc := 11) dX11_readsBack_11 ?_
  refine q_iald (j := o + 1) (v := nI (t)) G (pc := 12) dX11_readsBack_12 hc rfl (by omega) (by simp [va_up, show c ≠ 106 by omega]; exact hF.2.1) ?_
  refine q_putI G (pc := 13) dX11_readsBack_13 fl_X11_133_10 rfl ?_
  refine q_iconst (v := nI 0) G (pc := 16) dX11_readsBack_16 (by decide) ?_
  refine q_istore_n G (pc := 17) dX11_readsBack_17 (by decide) ?_
  show X _ [_, _, _, _] _ _ _ _
  have L18 : ∀ (zz : Nat) (k : Nat) (hk : mm_HI), 6 - k < zz → k ≤ 6 → (∀ z, z ≠ 106 → z ≠ 110 → hk z = hi z) → (∀ j, j < k → hk 110 j = hi c (o + 2 + j)) → hk 106 = mm_up2 (mm_up2 hi 106 6 (nI n)) 106 7 (nI t) 106 → X 18 [some (.ref (106)), some (.ref (c)), some (.int (nI (o))), some (.int (nI (k)))] [] hk τ 125 := by
    intro zz
    induction zz with
    | zero => intro k hk hm; exact absurd hm (Nat.not_lt_zero _)
    | succ zz ih18 =>
      intro k hk hm h0 g1 g2 g3
      refine q_iload_n G (pc := 18) dX11_readsBack_18 rfl ?_
      refine q_bipush (v := nI 6) G (pc := 19) dX11_readsBack_19 (by decide) ?_
      refine q_icmp_geN (tgt := 43) G (pc := 21) dX11_readsBack_21 (by decide) (by omega) (by omega) (fun c21 => ?_) (fun c21 => ?_)
      · refine q_vret G (pc := 43) dX11_readsBack_43 rfl ?_
        exact ⟨rfl, rfl, ⟨by rw [g3]; simp [va_up], by rw [g3]; simp [va_up], fun j hj => by rw [g2 j (by omega)]; exact hF.2.2.1 j hj, hF.2.2.2⟩, fun z h1 h2 => g1 z h1 h2, fun k h1 h2 => by rw [g3]; simp [va_up, h1, h2]⟩
      · refine q_aload_n G (pc := 24) dX11_readsBack_24 rfl ?_
        refine q_getR (x := 110) G (pc := 25) dX11_readsBack_25 fl_X11_23_10 rfl (hg hτ (hf_10_8 rfl)) ?_
        refine q_iload_n G (pc := 28) dX11_readsBack_28 rfl ?_
        refine q_aload_n G (pc := 29) dX11_readsBack_29 rfl ?_
        refine q_iload_n G (pc := 30) dX11_readsBack_30 rfl ?_
        refine q_iconst (v := nI 2) G (pc := 31) dX11_readsBack_31 (by decide) ?_
        refine q_iaddN G (pc := 32) dX11_readsBack_32 ?_
        refine q_iload_n G (pc := 33) dX11_readsBack_33 rfl ?_
        refine q_iaddN G (pc := 34) dX11_readsBack_34 ?_
        refine q_iald (j := o + 2 + k) (v := hk c (o + 2 + k)) G (pc := 35) dX11_readsBack_35 hc rfl (by omega) rfl ?_
        refine q_iast (j := k) G (pc := 36) dX11_readsBack_36 rfl rfl (by omega) ?_
        refine q_iincN G (pc := 37) dX11_readsBack_37 rfl (inc1 _) (by decide) ?_
        show X _ [_, _, _, _] _ _ _ _
        refine q_goto (tgt := 18) G (pc := 40) dX11_readsBack_40 (by decide) ?_
        refine ih18 (k + 1) _ (by omega) (by omega) (fun z h1 h2 => by simp [va_up, h2]; exact g1 z h1 h2) (fun j hj => ?_) (by rw [← g3]; simp [va_up])
        by_cases e : j = k
        · subst e; simp [va_up]; rw [g1 c (by omega) (by omega)]
        · simp [va_up, e]; exact g2 j (by omega)
  exact L18 _ 0 _ (Nat.lt_succ_self _) (by omega) (fun z h1 h2 => by simp [va_up, h1]) (fun j hj => absurd hj (Nat.not_lt_zero _)) rfl
set_option maxHeartbeats 2000000 in
theorem m_notes {d : Nat} (hd : 2 ≤ d) {hi : mm_HI} {τ : mm_T} {P : PG} {n : Nat} {f : Nat → Nat} {t K : Nat} {pn : Nat → Nat} {pf : Nat → Nat → Nat} {pt : Nat → Nat} {im : Nat → Option DK} {sl : List (Nat × Nat)} {N : Nat} {b : Nat → Nat} {tr : Int64} (hM : mS P n f t K pn pf pt im sl N b tr hi τ) : wV d yX11_notes [.ref 106] hi τ (fun h => unM h (if K < 10 then K + 1 else 10) (pu K pn n) (pu K pf f) (pu K pt t) ∧ (∀ z, z ≠ 106 → z ≠ 120 → h z = hi z) ∧ ∀ k, k ≠ 28 → h 106 k = hi 106 k) := by
  refine w_intro (by omega) M_X11_notes (Nat.le_of_ble_eq_true rfl) rfl ?_
  intro e X he G
  show X 0 [some (.ref (106)), none] [] hi τ 125
  obtain ⟨sw, hτ, hP, hRw, hV, hU, hI, hIV, hN, hNO, hT, hTr⟩ := id hM
  have hS6 : pS P ≤ 6 := hP.2.2.2.2.2.2.2.1
  have hL3 : pL P ≤ 3 := hP.2.2.2.2.2.2.1
  have hL1 : 1 ≤ pL P := hP.2.2.2.2.2.1
  have hW8 : (pW P).length ≤ 8 := hP.2.2.2.2.2.2.2.2.2.1
  have hn6 : n ≤ 6 := hRw.2.2.2.1
  have hfs : ∀ j, j < n → f j < pS P := hV.1.1
  have hV1 : rowV P n f := hV.1
  have hK10 := hU.2.1
  refine q_aload_n G (pc := 0) dX11_notes_0 rfl ?_
  refine q_getI (v := nI (K)) G (pc := 1) dX11_notes_1 fl_X11_139_10 (by decide) rfl hU.1 ?_
  refine q_bipush (v := nI 10) G (pc := 4) dX11_notes_4 (by decide) ?_
  refine q_icmp_neN (tgt := 48) G (pc := 6) dX11_notes_6 (by decide) (by omega) (by omega) (fun c6 => ?_) (fun c6 => ?_)
  · refine q_aload_n G (pc := 48) dX11_notes_48 rfl ?_
    refine q_aload_n G (pc := 49) dX11_notes_49 rfl ?_
    refine q_getR (x := 120) G (pc := 50) dX11_notes_50 fl_X11_53_10 rfl (hg hτ (hf_10_27 rfl)) ?_
    refine q_bipush (v := nI 8) G (pc := 53) dX11_notes_53 (by decide) ?_
    refine q_aload_n G (pc := 55) dX11_notes_55 rfl ?_
    refine q_getI (v := nI (K)) G (pc := 56) dX11_notes_56 fl_X11_139_10 (by decide) rfl hU.1 ?_
    refine q_imulN G (pc := 59) dX11_notes_59 ?_
    refine q_cV2V G (pc := 60) dX11_notes_60 cv_X11_195 rfl (m_writes (by omega) hτ hRw (c := 120) (Nn := 80) rfl (Or.inl rfl) (o := 8 * K) (by omega) (by omega)) (Nat.le_of_ble_eq_true rfl) ?_
    intro hk2 hx
    obtain ⟨x1, x2, x3⟩ := hx
    refine q_aload_n G (pc := 63) dX11_notes_63 rfl ?_
    refine q_dup G (pc := 64) dX11_notes_64 rfl ?_
    refine q_getI (v := nI (K)) G (pc := 65) dX11_notes_65 fl_X11_139_10 (by decide) rfl (by rw [x2 106 (by omega)]; exact hU.1) ?_
    refine q_iconst (v := nI 1) G (pc := 68) dX11_notes_68 (by decide) ?_
    refine q_iaddN G (pc := 69) dX11_notes_69 ?_
    refine q_putI G (pc := 70) dX11_notes_70 fl_X11_139_10 rfl ?_
    refine q_vret G (pc := 73) dX11_notes_73 rfl ?_
    refine ⟨rfl, rfl, ⟨by simp [va_up]; rw [if_pos (by omega)], by rw [if_pos (by omega)]; omega, fun k hk => ?_⟩, fun z h1 h2 => by simp [va_up, h1]; exact x2 z h2, fun k hk => by simp [va_up, hk]; rw [x2 106 (by omega)]⟩
    rw [if_pos (by omega)] at hk
    refine ntF.keep (x := hk2) ?_ (by simp [va_up])
    by_cases e : k = K
    · rw [pu_1 (by omega) e, pu_1 (by omega) e, pu_1 (by omega) e, e]; exact x1
    · rw [pu_2 (by omega) e, pu_2 (by omega) e, pu_2 (by omega) e]
      exact ntF_cp (hU.2.2 k (by omega)) (fun j hj => x3 _ (by omega))
  · refine q_iconst (v := nI 0) G (pc := 9) dX11_notes_9 (by decide) ?_
    refine q_istore_n G (pc := 10) dX11_notes_10 (by decide) ?_
    show X _ [_, _] _ _ _ _
    have L11 : ∀ (zz : Nat) (i : Nat) (hk : mm_HI), 72 - i < zz → i ≤ 72 → (∀ z, z ≠ 120 → hk z = hi z) → (∀ j, j < i → hk 120 j = hi 120 (j + 8)) → (∀ j, i ≤ j → hk 120 j = hi 120 j) → X 11 [some (.ref (106)), some (.int (nI (i)))] [] hk τ 125 := by
      intro zz
      induction zz with
      | zero => intro i hk hm; exact absurd hm (Nat.not_lt_zero _)
      | succ zz ih11 =>
        intro i hk hm h0 g1 g2 g3
        refine q_iload_n G (pc := 11) dX11_notes_11 rfl ?_
        refine q_bipush (v := nI 72) G (pc := 12) dX11_notes_12 (by decide) ?_
        refine q_icmp_geN (tgt := 38) G (pc := 14) dX11_notes_14 (by decide) (by omega) (by omega) (fun c14 => ?_) (fun c14 => ?_)
        · refine q_aload_n G (pc := 38) dX11_notes_38 rfl ?_
          refine q_dup G (pc := 39) dX11_notes_39 rfl ?_
          refine q_getI (v := nI (10)) G (pc := 40) dX11_notes_40 fl_X11_139_10 (by decide) rfl (by rw [g1 106 (by omega), hU.1, c6]) ?_
          refine q_iconst (v := nI 1) G (pc := 43) dX11_notes_43 (by decide) ?_
          refine q_isubN G (pc := 44) dX11_notes_44 (by omega) ?_
          refine q_putI G (pc := 45) dX11_notes_45 fl_X11_139_10 rfl ?_
          refine q_aload_n G (pc := 48) dX11_notes_48 rfl ?_
          refine q_aload_n G (pc := 49) dX11_notes_49 rfl ?_
          refine q_getR (x := 120) G (pc := 50) dX11_notes_50 fl_X11_53_10 rfl (hg hτ (hf_10_27 rfl)) ?_
          refine q_bipush (v := nI 8) G (pc := 53) dX11_notes_53 (by decide) ?_
          refine q_aload_n G (pc := 55) dX11_notes_55 rfl ?_
          refine q_getI (v := nI (9)) G (pc := 56) dX11_notes_56 fl_X11_139_10 (by decide) rfl (by simp [va_up]) ?_
          refine q_imulN G (pc := 59) dX11_notes_59 ?_
          refine q_cV2V G (pc := 60) dX11_notes_60 cv_X11_195 rfl (m_writes (by omega) hτ (hRw.keep (by simp [va_up]; rw [g1 106 (by omega)]) (by simp [va_up]; rw [g1 106 (by omega)]) (by simp [va_up]; rw [g1 110 (by omega)])) (c := 120) (Nn := 80) rfl (Or.inl rfl) (o := 8 * 9) (by omega) (by omega)) (Nat.le_of_ble_eq_true rfl) ?_
          intro hk2 hx
          obtain ⟨x1, x2, x3⟩ := hx
          refine q_aload_n G (pc := 63) dX11_notes_63 rfl ?_
          refine q_dup G (pc := 64) dX11_notes_64 rfl ?_
          refine q_getI (v := nI (9)) G (pc := 65) dX11_notes_65 fl_X11_139_10 (by decide) rfl (by rw [x2 106 (by omega)]; simp [va_up]) ?_
          refine q_iconst (v := nI 1) G (pc := 68) dX11_notes_68 (by decide) ?_
          refine q_iaddN G (pc := 69) dX11_notes_69 ?_
          refine q_putI G (pc := 70) dX11_notes_70 fl_X11_139_10 rfl ?_
          refine q_vret G (pc := 73) dX11_notes_73 rfl ?_
          refine ⟨rfl, rfl, ⟨by simp [va_up]; rw [if_neg (by omega)], by rw [if_neg (by omega)]; omega, fun k hk => ?_⟩, fun z h1 h2 => by simp [va_up, h1]; rw [x2 z h2]; simp [va_up, h1]; exact g1 z h2, fun k hk => by simp [va_up, hk]; rw [x2 106 (by omega)]; simp [va_up, hk]; rw [g1 106 (by omega)]⟩
          rw [if_neg (by omega)] at hk
          refine ntF.keep (x := hk2) ?_ (by simp [va_up])
          by_cases e : k = 9
          · rw [pu_3 (by omega) e, pu_3 (by omega) e, pu_3 (by omega) e, e]; exact x1
          · rw [pu_4 (by omega) e, pu_4 (by omega) e, pu_4 (by omega) e]
            refine ntF_cp (hU.2.2 (k + 1) (by omega)) (fun j hj => ?_)
            rw [x3 _ (by omega)]
            simp [va_up]
            rw [g2 _ (by omega)]
            congr 1
            omega
        · refine q_aload_n G (pc := 17) dX11_notes_17 rfl ?_
          refine q_getR (x := 120) G (pc := 18) dX11_notes_18 fl_X11_53_10 rfl (hg hτ (hf_10_27 rfl)) ?_
          refine q_iload_n G (pc := 21) dX11_notes_21 rfl ?_
          refine q_aload_n G (pc := 22) dX11_notes_22 rfl ?_
          refine q_getR (x := 120) G (pc := 23) dX11_notes_23 fl_X11_53_10 rfl (hg hτ (hf_10_27 rfl)) ?_
          refine q_iload_n G (pc := 26) dX11_notes_26 rfl ?_
          refine q_bipush (v := nI 8) G (pc := 27) dX11_notes_27 (by decide) ?_
          refine q_iaddN G (pc := 29) dX11_notes_29 ?_
          refine q_iald (j := i + 8) (v := hk 120 (i + 8)) G (pc := 30) dX11_notes_30 rfl rfl (by omega) rfl ?_
          refine q_iast (j := i) G (pc := 31) dX11_notes_31 rfl rfl (by omega) ?_
          refine q_iincN G (pc := 32) dX11_notes_32 rfl (inc1 _) (by decide) ?_
          show X _ [_, _] _ _ _ _
          refine q_goto (tgt := 11) G (pc := 35) dX11_notes_35 (by decide) ?_
          refine ih11 (i + 1) _ (by omega) (by omega) (fun z hz => by simp [va_up, hz]; exact g1 z hz) (fun j hj => ?_) (fun j hj => by simp [va_up, show j ≠ i by omega]; exact g3 j (by omega))
          by_cases e : j = i
          · subst e; simp [va_up]; exact g3 _ (by omega)
          · simp [va_up, e]; exact g2 j (by omega)
    exact L11 _ 0 hi (Nat.lt_succ_self _) (by omega) (fun _ _ => rfl) (fun j hj => absurd hj (Nat.not_lt_zero _)) (fun _ _ => rfl)
set_option maxHeartbeats 2000000 in
theorem m_comesTo_up {d : Nat} (hd : 1 ≤ d) {hi : mm_HI} {τ : mm_T} {sw : Bool} (hτ : τ.1 = mm_hr sw) {n p q : Nat} {f : Nat → Nat} (hn : n ≤ 6) (hd : ∀ j, j < n → hi 110 j = nI (f j)) (hp : p < n) (hq : q < n) (hpq : p < q) : wV d yX11_comesTo [.ref 106, .int (nI p), .int (nI q)] hi τ (fun h => (∀ j, j < n → h 110 j = nI (f (crr p q j))) ∧ ∀ z, z ≠ 110 → h z = hi z) := by
  refine w_intro (by omega) M_X11_comesTo (Nat.le_of_ble_eq_true rfl) rfl ?_
  intro e X he G
  show X 0 [some (.ref (106)), some (.int (nI (p))), some (.int (nI (q))), none, none, none] [] hi τ 125
  refine q_aload_n G (pc := 0) dX11_comesTo_0 rfl ?_
  refine q_getR (x := 110) G (pc := 1) dX11_comesTo_1 fl_X11_23_10 rfl (hg hτ (hf_10_8 rfl)) ?_
  refine q_iload_n G (pc := 4) dX11_comesTo_4 rfl ?_
  refine q_iald (j := p) (v := nI (f p)) G (pc := 5) dX11_comesTo_5 rfl rfl (by omega) (hd p (by omega)) ?_
  refine q_istore_n G (pc := 6) dX11_comesTo_6 (by decide) ?_
  show X _ [_, _, _, _, _, _] _ _ _ _
  refine q_iload_n G (pc := 7) dX11_comesTo_7 rfl ?_
  refine q_iload_n G (pc := 8) dX11_comesTo_8 rfl ?_
  refine q_icmp_geN (tgt := 16) G (pc := 9) dX11_comesTo_9 (by decide) (by omega) (by omega) (fun c9 => absurd c9 (by omega)) (fun _ => ?_)
  refine q_iconst (v := nI 1) G (pc := 12) dX11_comesTo_12 (by decide) ?_
  refine q_goto (tgt := 17) G (pc := 13) dX11_comesTo_13 (by decide) ?_
  refine q_istore G (pc := 17) dX11_comesTo_17 (by decide) ?_
  show X _ [_, _, _, _, _, _] _ _ _ _
  refine q_iload_n G (pc := 19) dX11_comesTo_19 rfl ?_
  refine q_istore G (pc := 20) dX11_comesTo_20 (by decide) ?_
  show X _ [_, _, _, _, _, _] _ _ _ _
  have L22 : ∀ (zz : Nat) (k : Nat) (hk : mm_HI), q - k < zz → p ≤ k ∧ k ≤ q → (∀ z, z ≠ 110 → hk z = hi z) → (∀ j, j < n → hk 110 j = nI (if p ≤ j ∧ j < k then f (j + 1) else f j)) → X 22 [some (.ref (106)), some (.int (nI (p))), some (.int (nI (q))), some (.int (nI (f p))), some (.int (nI (1))), some (.int (nI (k)))] [] hk τ 125 := by
    intro zz
    induction zz with
    | zero => intro k hk hm; exact absurd hm (Nat.not_lt_zero _)
    | succ zz ih22 =>
      intro k hk hm h0 g1 g2
      refine q_iload G (pc := 22) dX11_comesTo_22 rfl ?_
      refine q_iload_n G (pc := 24) dX11_comesTo_24 rfl ?_
      refine q_icmp_eqN (tgt := 55) G (pc := 25) dX11_comesTo_25 (by decide) (by omega) (by omega) (fun c25 => ?_) (fun c25 => ?_)
      · refine q_aload_n G (pc := 55) dX11_comesTo_55 rfl ?_
        refine q_getR (x := 110) G (pc := 56) dX11_comesTo_56 fl_X11_23_10 rfl (hg hτ (hf_10_8 rfl)) ?_
        refine q_iload_n G (pc := 59) dX11_comesTo_59 rfl ?_
        refine q_iload_n G (pc := 60) dX11_comesTo_60 rfl ?_
        refine q_iast (j := q) G (pc := 61) dX11_comesTo_61 rfl rfl (by omega) ?_
        refine q_vret G (pc := 62) dX11_comesTo_62 rfl ?_
        refine ⟨rfl, rfl, fun j hj => ?_, fun z hz => by simp [va_up, hz]; exact g1 z hz⟩
        have hkq : k = q := by omega
        subst hkq
        unfold crr
        by_cases e : j = k
        · subst e; simp [va_up]
        · simp [va_up, e]
          rw [g2 j hj]
          by_cases e2 : p ≤ j ∧ j < k
          · rw [if_pos e2, if_pos e2]
          · rw [if_neg e2, if_neg e2, if_neg (by omega)]
      · refine q_aload_n G (pc := 28) dX11_comesTo_28 rfl ?_
        refine q_getR (x := 110) G (pc := 29) dX11_comesTo_29 fl_X11_23_10 rfl (hg hτ (hf_10_8 rfl)) ?_
        refine q_iload G (pc := 32) dX11_comesTo_32 rfl ?_
        refine q_aload_n G (pc := 34) dX11_comesTo_34 rfl ?_
        refine q_getR (x := 110) G (pc := 35) dX11_comesTo_35 fl_X11_23_10 rfl (hg hτ (hf_10_8 rfl)) ?_
        refine q_iload G (pc := 38) dX11_comesTo_38 rfl ?_
        refine q_iload G (pc := 40) dX11_comesTo_40 rfl ?_
        refine q_iaddN G (pc := 42) dX11_comesTo_42 ?_
        refine q_iald (j := k + 1) (v := nI (f (k + 1))) G (pc := 43) dX11_comesTo_43 rfl rfl (by omega) ((g2 (k + 1) (by omega)).trans (by rw [if_neg (by omega)])) ?_
        refine q_iast (j := k) G (pc := 44) dX11_comesTo_44 rfl rfl (by omega) ?_
        refine q_iload G (pc := 45) dX11_comesTo_45 rfl ?_
        refine q_iload G (pc := 47) dX11_comesTo_47 rfl ?_
        refine q_iaddN G (pc := 49) dX11_comesTo_49 ?_
        refine q_istore G (pc := 50) dX11_comesTo_50 (by decide) ?_
        show X _ [_, _, _, _, _, _] _ _ _ _
        refine q_goto (tgt := 22) G (pc := 52) dX11_comesTo_52 (by decide) ?_
        refine ih22 (k + 1) _ (by omega) (by omega) (fun z hz => by simp [va_up, hz]; exact g1 z hz) (fun j hj => ?_)
        by_cases e : j = k
        · subst e; simp [va_up]; rw [if_pos (by omega)]
        · simp [va_up, e]
          rw [g2 j hj]
          by_cases e2 : p ≤ j ∧ j < k
          · rw [if_pos e2, if_pos (by omega)]
          · rw [if_neg e2, if_neg (by omega)]
  exact L22 _ p hi (Nat.lt_succ_self _) (by omega) (fun _ _ => rfl) (fun j hj => by rw [if_neg (by omega)]; exact hd j hj)
set_option maxHeartbeats 2000000 in
theorem m_comesTo_dn {d : Nat} (hd : 1 ≤ d) {hi : mm_HI} {τ : mm_T} {sw : Bool} (hτ : τ.1 = mm_hr sw) {n p q : Nat} {f : Nat → Nat} (hn : n ≤ 6) (hd : ∀ j, j < n → hi 110 j = nI (f j)) (hp : p < n) (hq : q < n) (hpq : q ≤ p) : wV d yX11_comesTo [.ref 106, .int (nI p), .int (nI q)] hi τ (fun h => (∀ j, j < n → h 110 j = nI (f (crr p q j))) ∧ ∀ z, z ≠ 110 → h z = hi z) := by
  refine w_intro (by omega) M_X11_comesTo (Nat.le_of_ble_eq_true rfl) rfl ?_
  intro e X he G
  show X 0 [some (.ref (106)), some (.int (nI (p))), some (.int (nI (q))), none, none, none] [] hi τ 125
  refine q_aload_n G (pc := 0) dX11_comesTo_0 rfl ?_
  refine q_getR (x := 110) G (pc := 1) dX11_comesTo_1 fl_X11_23_10 rfl (hg hτ (hf_10_8 rfl)) ?_
  refine q_iload_n G (pc := 4) dX11_comesTo_4 rfl ?_
  refine q_iald (j := p) (v := nI (f p)) G (pc := 5) dX11_comesTo_5 rfl rfl (by omega) (hd p (by omega)) ?_
  refine q_istore_n G (pc := 6) dX11_comesTo_6 (by decide) ?_
  show X _ [_, _, _, _, _, _] _ _ _ _
  refine q_iload_n G (pc := 7) dX11_comesTo_7 rfl ?_
  refine q_iload_n G (pc := 8) dX11_comesTo_8 rfl ?_
  refine q_icmp_geN (tgt := 16) G (pc := 9) dX11_comesTo_9 (by decide) (by omega) (by omega) (fun _ => ?_) (fun c9 => absurd c9 (by omega))
  refine q_iconst (v := -1) G (pc := 16) dX11_comesTo_16 (by decide) ?_
  refine q_istore G (pc := 17) dX11_comesTo_17 (by decide) ?_
  show X _ [_, _, _, _, _, _] _ _ _ _
  refine q_iload_n G (pc := 19) dX11_comesTo_19 rfl ?_
  refine q_istore G (pc := 20) dX11_comesTo_20 (by decide) ?_
  show X _ [_, _, _, _, _, _] _ _ _ _
  have L22 : ∀ (zz : Nat) (k : Nat) (hk : mm_HI), k - q < zz → q ≤ k ∧ k ≤ p → (∀ z, z ≠ 110 → hk z = hi z) → (∀ j, j < n → hk 110 j = nI (if k < j ∧ j ≤ p then f (j - 1) else f j)) → X 22 [some (.ref (106)), some (.int (nI (p))), some (.int (nI (q))), some (.int (nI (f p))), some (.int (-1)), some (.int (nI (k)))] [] hk τ 125 := by
    intro zz
    induction zz with
    | zero => intro k hk hm; exact absurd hm (Nat.not_lt_zero _)
    | succ zz ih22 =>
      intro k hk hm h0 g1 g2
      refine q_iload G (pc := 22) dX11_comesTo_22 rfl ?_
      refine q_iload_n G (pc := 24) dX11_comesTo_24 rfl ?_
      refine q_icmp_eqN (tgt := 55) G (pc := 25) dX11_comesTo_25 (by decide) (by omega) (by omega) (fun c25 => ?_) (fun c25 => ?_)
      · refine q_aload_n G (pc := 55) dX11_comesTo_55 rfl ?_
        refine q_getR (x := 110) G (pc := 56) dX11_comesTo_56 fl_X11_23_10 rfl (hg hτ (hf_10_8 rfl)) ?_
        refine q_iload_n G (pc := 59) dX11_comesTo_59 rfl ?_
        refine q_iload_n G (pc := 60) dX11_comesTo_60 rfl ?_
        refine q_iast (j := q) G (pc := 61) dX11_comesTo_61 rfl rfl (by omega) ?_
        refine q_vret G (pc := 62) dX11_comesTo_62 rfl ?_
        refine ⟨rfl, rfl, fun j hj => ?_, fun z hz => by simp [va_up, hz]; exact g1 z hz⟩
        have hkq : k = q := by omega
        subst hkq
        unfold crr
        by_cases e : j = k
        · subst e; simp [va_up]
        · simp [va_up, e]
          rw [g2 j hj, if_neg (show ¬ (p ≤ j ∧ j < k) by omega)]
          by_cases e2 : k < j ∧ j ≤ p
          · rw [if_pos e2, if_pos e2]
          · rw [if_neg e2, if_neg e2]
      · refine q_aload_n G (pc := 28) dX11_comesTo_28 rfl ?_
        refine q_getR (x := 110) G (pc := 29) dX11_comesTo_29 fl_X11_23_10 rfl (hg hτ (hf_10_8 rfl)) ?_
        refine q_iload G (pc := 32) dX11_comesTo_32 rfl ?_
        refine q_aload_n G (pc := 34) dX11_comesTo_34 rfl ?_
        refine q_getR (x := 110) G (pc := 35) dX11_comesTo_35 fl_X11_23_10 rfl (hg hτ (hf_10_8 rfl)) ?_
        refine q_iload G (pc := 38) dX11_comesTo_38 rfl ?_
        refine q_iload G (pc := 40) dX11_comesTo_40 rfl ?_
        refine q_iadd G (pc := 42) dX11_comesTo_42 ?_
        rw [addm1 (by omega)]
        refine q_iald (j := k - 1) (v := nI (f (k - 1))) G (pc := 43) dX11_comesTo_43 rfl rfl (by omega) ((g2 (k - 1) (by omega)).trans (by rw [if_neg (by omega)])) ?_
        refine q_iast (j := k) G (pc := 44) dX11_comesTo_44 rfl rfl (by omega) ?_
        refine q_iload G (pc := 45) dX11_comesTo_45 rfl ?_
        refine q_iload G (pc := 47) dX11_comesTo_47 rfl ?_
        refine q_iadd G (pc := 49) dX11_comesTo_49 ?_
        rw [addm1 (by omega)]
        refine q_istore G (pc := 50) dX11_comesTo_50 (by decide) ?_
        show X _ [_, _, _, _, _, _] _ _ _ _
        refine q_goto (tgt := 22) G (pc := 52) dX11_comesTo_52 (by decide) ?_
        refine ih22 (k - 1) _ (by omega) (by omega) (fun z hz => by simp [va_up, hz]; exact g1 z hz) (fun j hj => ?_)
        by_cases e : j = k
        · subst e; simp [va_up]; rw [if_pos (by omega)]
        · simp [va_up, e]
          rw [g2 j hj]
          by_cases e2 : k < j ∧ j ≤ p
          · rw [if_pos e2, if_pos (by omega)]
          · rw [if_neg e2, if_neg (by omega)]
  exact L22 _ p hi (Nat.lt_succ_self _) (by omega) (fun _ _ => rfl) (fun j hj => by rw [if_neg (by omega)]; exact hd j hj)
theorem m_comesTo {d : Nat} (hd1 : 1 ≤ d) {hi : mm_HI} {τ : mm_T} {sw : Bool} (hτ : τ.1 = mm_hr sw) {n p q : Nat} {f : Nat → Nat} (hn : n ≤ 6) (hd : ∀ j, j < n → hi 110 j = nI (f j)) (hp : p < n) (hq : q < n) : wV d yX11_comesTo [.ref 106, .int (nI p), .int (nI q)] hi τ (fun h => (∀ j, j < n → h 110 j = nI (f (crr p q j))) ∧ ∀ z, z ≠ 110 → h z = hi z) := by
  rcases Nat.lt_or_ge p q with h | h
  · exact m_comesTo_up hd1 hτ hn hd hp hq h
  · exact m_comesTo_dn hd1 hτ hn hd hp hq h
set_option maxHeartbeats 2000000 in
theorem m_swaps {d : Nat} (hd : 9 ≤ d) {hi : mm_HI} {τ : mm_T} {P : PG} {n : Nat} {f : Nat → Nat} {t K : Nat} {pn : Nat → Nat} {pf : Nat → Nat → Nat} {pt : Nat → Nat} {im : Nat → Option DK} {sl : List (Nat × Nat)} {N : Nat} {b : Nat → Nat} {tr : Int64} (hM : mS P n f t K pn pf pt im sl N b tr hi τ) {x : Int32} {y : Int32} : wR d yX11_swaps [.ref 106, .int x, .int y] hi τ (RQ (zSwaps (mkT P n f t K pn pf pt im sl N b tr) (ix x n) (ix y n)) hi τ) := by
  refine w_intro (by omega) M_X11_swaps (Nat.le_of_ble_eq_true rfl) rfl ?_
  intro e X he G
  show X 0 [some (.ref (106)), some (.int (x)), some (.int (y)), none] [] hi τ 125
  obtain ⟨sw, hτ, hP, hRw, hV, hU, hI, hIV, hN, hNO, hT, hTr⟩ := id hM
  have hS6 : pS P ≤ 6 := hP.2.2.2.2.2.2.2.1
  have hL3 : pL P ≤ 3 := hP.2.2.2.2.2.2.1
  have hL1 : 1 ≤ pL P := hP.2.2.2.2.2.1
  have hW8 : (pW P).length ≤ 8 := hP.2.2.2.2.2.2.2.2.2.1
  have hn6 : n ≤ 6 := hRw.2.2.2.1
  have hfs : ∀ j, j < n → f j < pS P := hV.1.1
  have hV1 : rowV P n f := hV.1
  refine q_aload_n G (pc := 0) dX11_swaps_0 rfl ?_
  refine q_iload_n G (pc := 1) dX11_swaps_1 rfl ?_
  refine q_cV1B G (pc := 2) dX11_swaps_2 cv_X11_192 rfl (m_isPlace (by omega) hM) (Nat.le_of_ble_eq_true rfl) (fun c2 => ?_) (fun c2 => ?_)
  · obtain ⟨p, hp, rfl⟩ := c2
    refine q_if_eqN (tgt := 21) G (pc := 5) dX11_swaps_5 (by decide) (by omega) (fun c5 => absurd c5 (by decide)) (fun _ => ?_)
    refine q_aload_n G (pc := 8) dX11_swaps_8 rfl ?_
    refine q_iload_n G (pc := 9) dX11_swaps_9 rfl ?_
    refine q_cV1B G (pc := 10) dX11_swaps_10 cv_X11_192 rfl (m_isPlace (by omega) hM) (Nat.le_of_ble_eq_true rfl) (fun c10 => ?_) (fun c10 => ?_)
    · obtain ⟨q, hq, rfl⟩ := c10
      refine q_if_eqN (tgt := 21) G (pc := 13) dX11_swaps_13 (by decide) (by omega) (fun c13 => absurd c13 (by decide)) (fun _ => ?_)
      refine q_iload_n G (pc := 16) dX11_swaps_16 rfl ?_
      refine q_iload_n G (pc := 17) dX11_swaps_17 rfl ?_
      refine q_icmp_neN (tgt := 23) G (pc := 18) dX11_swaps_18 (by decide) (by omega) (by omega) (fun c18 => ?_) (fun c18 => ?_)
      · refine q_aload_n G (pc := 23) dX11_swaps_23 rfl ?_
        refine q_cV0V G (pc := 24) dX11_swaps_24 cv_X11_199 rfl (m_notes (by omega) hM) (Nat.le_of_ble_eq_true rfl) ?_
        intro hk hx
        obtain ⟨x1, x2, x3⟩ := hx
        refine q_aload_n G (pc := 27) dX11_swaps_27 rfl ?_
        refine q_getR (x := 110) G (pc := 28) dX11_swaps_28 fl_X11_23_10 rfl (hg hτ (hf_10_8 rfl)) ?_
        refine q_iload_n G (pc := 31) dX11_swaps_31 rfl ?_
        refine q_iald (j := p) (v := nI (f p)) G (pc := 32) dX11_swaps_32 rfl rfl (by omega) (by rw [x2 110 (by omega) (by omega)]; exact hRw.2.2.1 p hp) ?_
        refine q_istore_n G (pc := 33) dX11_swaps_33 (by decide) ?_
        show X _ [_, _, _, _] _ _ _ _
        refine q_aload_n G (pc := 34) dX11_swaps_34 rfl ?_
        refine q_getR (x := 110) G (pc := 35) dX11_swaps_35 fl_X11_23_10 rfl (hg hτ (hf_10_8 rfl)) ?_
        refine q_iload_n G (pc := 38) dX11_swaps_38 rfl ?_
        refine q_aload_n G (pc := 39) dX11_swaps_39 rfl ?_
        refine q_getR (x := 110) G (pc := 40) dX11_swaps_40 fl_X11_23_10 rfl (hg hτ (hf_10_8 rfl)) ?_
        refine q_iload_n G (pc := 43) dX11_swaps_43 rfl ?_
        refine q_iald (j := q) (v := nI (f q)) G (pc := 44) dX11_swaps_44 rfl rfl (by omega) (by rw [x2 110 (by omega) (by omega)]; exact hRw.2.2.1 q hq) ?_
        refine q_iast (j := p) G (pc := 45) dX11_swaps_45 rfl rfl (by omega) ?_
        refine q_aload_n G (pc := 46) dX11_swaps_46 rfl ?_
        refine q_getR (x := 110) G (pc := 47) dX11_swaps_47 fl_X11_23_10 rfl (hg hτ (hf_10_8 rfl)) ?_
        refine q_iload_n G (pc := 50) dX11_swaps_50 rfl ?_
        refine q_iload_n G (pc := 51) dX11_swaps_51 rfl ?_
        refine q_iast (j := q) G (pc := 52) dX11_swaps_52 rfl rfl (by omega) ?_
        refine q_aload_n G (pc := 53) dX11_swaps_53 rfl ?_
        have hM2 : mS P n (swpF f p q) t (if K < 10 then K + 1 else 10) (pu K pn n) (pu K pf f) (pu K pt t) im sl N b tr (mm_up2 (mm_up2 hk 110 p (nI (f q))) 110 q (nI (f p))) τ := by
          refine hM.dsk (fun c h1 h2 h3 => by simp [va_up, h2]; exact x2 c h1 h3) (fun k h1 h2 h3 => by simp [va_up]; exact x3 k h3) ⟨by simp [va_up]; rw [x3 6 (by decide)]; exact hRw.1, by simp [va_up]; rw [x3 7 (by decide)]; exact hRw.2.1, fun j hj => ?_, hn6, fun j hj => ?_, hRw.2.2.2.2.2⟩ (x1.keep (by simp [va_up]) (by simp [va_up])) (rem_dOK hV (rowV_swp hV1 hp hq) hU.2.1)
          · unfold swpF
            by_cases e1 : j = q
            · subst e1; simp [va_up]
            · by_cases e2 : j = p
              · subst e2; simp [va_up, e1]
              · simp [va_up, e1, e2]; rw [x2 110 (by omega) (by omega)]; exact hRw.2.2.1 j hj
          · have := (rowV_swp hV1 hp hq).1 j hj; omega
        refine q_cV0I G (pc := 54) dX11_swaps_54 cv_X11_202 rfl (m_rightMany (by omega) hM2) (Nat.le_of_ble_eq_true rfl) ?_
        intro xr hk3 hz
        obtain ⟨rfl, z1⟩ := hz
        refine q_iret G (pc := 57) dX11_swaps_57 (Or.inl rfl) ?_
        have e : zSwaps (mkT P n f t K pn pf pt im sl N b tr) (ix (nI p) n) (ix (nI q) n) = (mkT P n (swpF f p q) t (if K < 10 then K + 1 else 10) (pu K pn n) (pu K pf f) (pu K pt t) im sl N b tr, rlN P n (swpF f p q) t) := by rw [ix_some hp (by omega), ix_some hq (by omega)]; exact if_neg c18
        exact RQ.mk e (hM2.sc z1) (fun c hc => (z1.1 c (by omega)).trans (by simp [va_up, show c ≠ 110 by omega]; exact x2 c (by omega) (by omega))) rfl rfl
      · refine q_iconst (v := -1) G (pc := 21) dX11_swaps_21 (by decide) ?_
        refine q_iret G (pc := 22) dX11_swaps_22 (Or.inl rfl) ?_
        exact hM.post msc.rf (by rw [ix_some hp (by omega), ix_some hq (by omega)]; exact if_pos c18)
    · refine q_if_eqN (tgt := 21) G (pc := 13) dX11_swaps_13 (by decide) (by omega) (fun _ => ?_) (fun c13 => absurd c13 (by decide))
      refine q_iconst (v := -1) G (pc := 21) dX11_swaps_21 (by decide) ?_
      refine q_iret G (pc := 22) dX11_swaps_22 (Or.inl rfl) ?_
      exact hM.post msc.rf (by rw [ix_some hp (by omega), ix_none c10]; rfl)
  · refine q_if_eqN (tgt := 21) G (pc := 5) dX11_swaps_5 (by decide) (by omega) (fun _ => ?_) (fun c5 => absurd c5 (by decide))
    refine q_iconst (v := -1) G (pc := 21) dX11_swaps_21 (by decide) ?_
    refine q_iret G (pc := 22) dX11_swaps_22 (Or.inl rfl) ?_
    exact hM.post msc.rf (by rw [ix_none c2]; rfl)
set_option maxHeartbeats 2000000 in
theorem m_moves {d : Nat} (hd : 9 ≤ d) {hi : mm_HI} {τ : mm_T} {P : PG} {n : Nat} {f : Nat → Nat} {t K : Nat} {pn : Nat → Nat} {pf : Nat → Nat → Nat} {pt : Nat → Nat} {im : Nat → Option DK} {sl : List (Nat × Nat)} {N : Nat} {b : Nat → Nat} {tr : Int64} (hM : mS P n f t K pn pf pt im sl N b tr hi τ) {x : Int32} {y : Int32} : wR d yX11_moves [.ref 106, .int x, .int y] hi τ (RQ (zMoves (mkT P n f t K pn pf pt im sl N b tr) (ix x n) (ix y n)) hi τ) := by
  refine w_intro (by omega) M_X11_moves (Nat.le_of_ble_eq_true rfl) rfl ?_
  intro e X he G
  show X 0 [some (.ref (106)), some (.int (x)), some (.int (y))] [] hi τ 125
  obtain ⟨sw, hτ, hP, hRw, hV, hU, hI, hIV, hN, hNO, hT, hTr⟩ := id hM
  have hS6 : pS P ≤ 6 := hP.2.2.2.2.2.2.2.1
  have hL3 : pL P ≤ 3 := hP.2.2.2.2.2.2.1
  have hL1 : 1 ≤ pL P := hP.2.2.2.2.2.1
  have hW8 : (pW P).length ≤ 8 := hP.2.2.2.2.2.2.2.2.2.1
  have hn6 : n ≤ 6 := hRw.2.2.2.1
  have hfs : ∀ j, j < n → f j < pS P := hV.1.1
  have hV1 : rowV P n f := hV.1
  refine q_aload_n G (pc := 0) dX11_moves_0 rfl ?_
  refine q_iload_n G (pc := 1) dX11_moves_1 rfl ?_
  refine q_cV1B G (pc := 2) dX11_moves_2 cv_X11_192 rfl (m_isPlace (by omega) hM) (Nat.le_of_ble_eq_true rfl) (fun c2 => ?_) (fun c2 => ?_)
  · obtain ⟨p, hp, rfl⟩ := c2
    refine q_if_eqN (tgt := 21) G (pc := 5) dX11_moves_5 (by decide) (by omega) (fun c5 => absurd c5 (by decide)) (fun _ => ?_)
    refine q_aload_n G (pc := 8) dX11_moves_8 rfl ?_
    refine q_iload_n G (pc := 9) dX11_moves_9 rfl ?_
    refine q_cV1B G (pc := 10) dX11_moves_10 cv_X11_192 rfl (m_isPlace (by omega) hM) (Nat.le_of_ble_eq_true rfl) (fun c10 => ?_) (fun c10 => ?_)
    · obtain ⟨q, hq, rfl⟩ := c10
      refine q_if_eqN (tgt := 21) G (pc := 13) dX11_moves_13 (by decide) (by omega) (fun c13 => absurd c13 (by decide)) (fun _ => ?_)
      refine q_iload_n G (pc := 16) dX11_moves_16 rfl ?_
      refine q_iload_n G (pc := 17) dX11_moves_17 rfl ?_
      refine q_icmp_neN (tgt := 23) G (pc := 18) dX11_moves_18 (by decide) (by omega) (by omega) (fun c18 => ?_) (fun c18 => ?_)
      · refine q_aload_n G (pc := 23) dX11_moves_23 rfl ?_
        refine q_cV0V G (pc := 24) dX11_moves_24 cv_X11_199 rfl (m_notes (by omega) hM) (Nat.le_of_ble_eq_true rfl) ?_
        intro hk hx
        obtain ⟨x1, x2, x3⟩ := hx
        refine q_aload_n G (pc := 27) dX11_moves_27 rfl ?_
        refine q_iload_n G (pc := 28) dX11_moves_28 rfl ?_
        refine q_iload_n G (pc := 29) dX11_moves_29 rfl ?_
        refine q_cV2V G (pc := 30) dX11_moves_30 cv_X11_205 rfl (m_comesTo (by omega) hτ hn6 (f := f) (fun j hj => by rw [x2 110 (by omega) (by omega)]; exact hRw.2.2.1 j hj) hp hq) (Nat.le_of_ble_eq_true rfl) ?_
        intro hk2 hy
        obtain ⟨y1, y2⟩ := hy
        have hM2 : mS P n (fun j => f (crr p q j)) t (if K < 10 then K + 1 else 10) (pu K pn n) (pu K pf f) (pu K pt t) im sl N b tr hk2 τ := hM.dsk (fun c h1 h2 h3 => (y2 c h2).trans (x2 c h1 h3)) (fun k h1 h2 h3 => by rw [y2 106 (by omega)]; exact x3 k h3) ⟨by rw [y2 106 (by omega), x3 6 (by decide)]; exact hRw.1, by rw [y2 106 (by omega), x3 7 (by decide)]; exact hRw.2.1, y1, hn6, fun j hj => by have := (rowV_crr hV1 hp hq).1 j hj; omega, hRw.2.2.2.2.2⟩ (x1.keep (by rw [y2 106 (by omega)]) (y2 120 (by omega))) (rem_dOK hV (rowV_crr hV1 hp hq) hU.2.1)
        refine q_aload_n G (pc := 33) dX11_moves_33 rfl ?_
        refine q_cV0I G (pc := 34) dX11_moves_34 cv_X11_202 rfl (m_rightMany (by omega) hM2) (Nat.le_of_ble_eq_true rfl) ?_
        intro xr hk3 hz
        obtain ⟨rfl, z1⟩ := hz
        refine q_iret G (pc := 37) dX11_moves_37 (Or.inl rfl) ?_
        have e : zMoves (mkT P n f t K pn pf pt im sl N b tr) (ix (nI p) n) (ix (nI q) n) = (mkT P n (fun j => f (crr p q j)) t (if K < 10 then K + 1 else 10) (pu K pn n) (pu K pf f) (pu K pt t) im sl N b tr, rlN P n (fun j => f (crr p q j)) t) := by rw [ix_some hp (by omega), ix_some hq (by omega)]; exact if_neg c18
        exact RQ.mk e (hM2.sc z1) (fun c hc => (z1.1 c (by omega)).trans ((y2 c (by omega)).trans (x2 c (by omega) (by omega)))) rfl rfl
      · refine q_iconst (v := -1) G (pc := 21) dX11_moves_21 (by decide) ?_
        refine q_iret G (pc := 22) dX11_moves_22 (Or.inl rfl) ?_
        exact hM.post msc.rf (by rw [ix_some hp (by omega), ix_some hq (by omega)]; exact if_pos c18)
    · refine q_if_eqN (tgt := 21) G (pc := 13) dX11_moves_13 (by decide) (by omega) (fun _ => ?_) (fun c13 => absurd c13 (by decide))
      refine q_iconst (v := -1) G (pc := 21) dX11_moves_21 (by decide) ?_
      refine q_iret G (pc := 22) dX11_moves_22 (Or.inl rfl) ?_
      exact hM.post msc.rf (by rw [ix_some hp (by omega), ix_none c10]; rfl)
  · refine q_if_eqN (tgt := 21) G (pc := 5) dX11_moves_5 (by decide) (by omega) (fun _ => ?_) (fun c5 => absurd c5 (by decide))
    refine q_iconst (v := -1) G (pc := 21) dX11_moves_21 (by decide) ?_
    refine q_iret G (pc := 22) dX11_moves_22 (Or.inl rfl) ?_
    exact hM.post msc.rf (by rw [ix_none c2]; rfl)
set_option maxHeartbeats 2000000 in
theorem m_turn {d : Nat} (hd : 4 ≤ d) {hi : mm_HI} {τ : mm_T} {P : PG} {n : Nat} {f : Nat → Nat} {t K : Nat} {pn : Nat → Nat} {pf : Nat → Nat → Nat} {pt : Nat → Nat} {im : Nat → Option DK} {sl : List (Nat × Nat)} {N : Nat} {b : Nat → Nat} {tr : Int64} (hM : mS P n f t K pn pf pt im sl N b tr hi τ) {x : Int32} : wR d yX11_turn [.ref 106, .int x] hi τ (RQ (zTurn (mkT P n f t K pn pf pt im sl N b tr) (ix x (pS P))) hi τ) := by
  refine w_intro (by omega) M_X11_turn (Nat.le_of_ble_eq_true rfl) rfl ?_
  intro e X he G
  show X 0 [some (.ref (106)), some (.int (x))] [] hi τ 125
  obtain ⟨sw, hτ, hP, hRw, hV, hU, hI, hIV, hN, hNO, hT, hTr⟩ := id hM
  have hS6 : pS P ≤ 6 := hP.2.2.2.2.2.2.2.1
  have hL3 : pL P ≤ 3 := hP.2.2.2.2.2.2.1
  have hL1 : 1 ≤ pL P := hP.2.2.2.2.2.1
  have hW8 : (pW P).length ≤ 8 := hP.2.2.2.2.2.2.2.2.2.1
  have hn6 : n ≤ 6 := hRw.2.2.2.1
  have hfs : ∀ j, j < n → f j < pS P := hV.1.1
  have hV1 : rowV P n f := hV.1
  refine q_aload_n G (pc := 0) dX11_turn_0 rfl ?_
  refine q_iload_n G (pc := 1) dX11_turn_1 rfl ?_
  refine q_cV1B G (pc := 2) dX11_turn_2 cv_X11_176 rfl (m_isStrip (by omega) hM) (Nat.le_of_ble_eq_true rfl) (fun c2 => ?_) (fun c2 => ?_)
  · obtain ⟨s, hs, rfl⟩ := c2
    refine q_if_neN (tgt := 10) G (pc := 5) dX11_turn_5 (by decide) (by omega) (fun _ => ?_) (fun c5 => absurd c5 (by decide))
    rcases hf : fnd f s n with _ | p
    · refine q_aload_n G (pc := 10) dX11_turn_10 rfl ?_
      refine q_iload_n G (pc := 11) dX11_turn_11 rfl ?_
      refine q_cV1E G (pc := 12) dX11_turn_12 cv_X11_179 rfl (m_placeOf (by omega) hM (s := s) (by omega)) (Nat.le_of_ble_eq_true rfl) ?_
      rw [show plI (fnd f s n) = -9 from (by rw [hf]; rfl)]
      refine q_bipush (v := -9) G (pc := 15) dX11_turn_15 (by decide) ?_
      refine q_icmp_ne (tgt := 23) G (pc := 17) dX11_turn_17 (by decide) (fun c17 => absurd rfl c17) (fun _ => ?_)
      refine q_bipush (v := -2) G (pc := 20) dX11_turn_20 (by decide) ?_
      refine q_iret G (pc := 22) dX11_turn_22 (Or.inl rfl) ?_
      exact hM.post msc.rf (by rw [ix_some hs (by omega)]; simp only [zTurn]; rw [show fnd (gf (mkT P n f t K pn pf pt im sl N b tr)) s (gn (mkT P n f t K pn pf pt im sl N b tr)) = _ from hf])
    · refine q_aload_n G (pc := 10) dX11_turn_10 rfl ?_
      refine q_iload_n G (pc := 11) dX11_turn_11 rfl ?_
      refine q_cV1E G (pc := 12) dX11_turn_12 cv_X11_179 rfl (m_placeOf (by omega) hM (s := s) (by omega)) (Nat.le_of_ble_eq_true rfl) ?_
      rw [show plI (fnd f s n) = nI p from (by rw [hf]; rfl)]
      have hpn := fnd_some hf
      refine q_bipush (v := -9) G (pc := 15) dX11_turn_15 (by decide) ?_
      refine q_icmp_ne (tgt := 23) G (pc := 17) dX11_turn_17 (by decide) (fun _ => ?_) (fun c17 => absurd c17 (nI_ne9 (by omega)))
      refine q_aload_n G (pc := 23) dX11_turn_23 rfl ?_
      refine q_cV0V G (pc := 24) dX11_turn_24 cv_X11_199 rfl (m_notes (by omega) hM) (Nat.le_of_ble_eq_true rfl) ?_
      intro hk hx
      obtain ⟨x1, x2, x3⟩ := hx
      refine q_aload_n G (pc := 27) dX11_turn_27 rfl ?_
      refine q_dup G (pc := 28) dX11_turn_28 rfl ?_
      refine q_getI (v := nI (t)) G (pc := 29) dX11_turn_29 fl_X11_133_10 (by decide) rfl (by rw [x3 7 (by decide)]; exact hRw.2.1) ?_
      refine q_iconst (v := 1) G (pc := 32) dX11_turn_32 (by decide) ?_
      refine q_iload_n G (pc := 33) dX11_turn_33 rfl ?_
      refine q_ishl G (pc := 34) dX11_turn_34 ?_
      refine q_ixor G (pc := 35) dX11_turn_35 ?_
      rw [(xor_t t hRw.2.2.2.2.2 s (by omega)).1]
      have hx6 := xor_t t hRw.2.2.2.2.2 s (by omega)
      refine q_putI G (pc := 36) dX11_turn_36 fl_X11_133_10 rfl ?_
      refine q_aload_n G (pc := 39) dX11_turn_39 rfl ?_
      refine q_getI (v := nI (stb t s (1 - t / 2 ^ s % 2))) G (pc := 40) dX11_turn_40 fl_X11_133_10 (by decide) rfl (by simp [va_up]) ?_
      refine q_iload_n G (pc := 43) dX11_turn_43 rfl ?_
      refine q_ishr G (pc := 44) dX11_turn_44 ?_
      rw [shr_nI (by omega) (by omega)]
      refine q_iconst (v := nI 1) G (pc := 45) dX11_turn_45 (by decide) ?_
      refine q_iand G (pc := 46) dX11_turn_46 ?_
      rw [show nI (stb t s (1 - t / 2 ^ s % 2) / 2 ^ s) &&& nI 1 = nI (1 - t / 2 ^ s % 2) from (by rw [and_nI, Nat.and_one_is_mod, hx6.2.2])]
      refine q_iret G (pc := 47) dX11_turn_47 (Or.inl rfl) ?_
      have e : zTurn (mkT P n f t K pn pf pt im sl N b tr) (ix (nI s) (pS P)) = (mkT P n f (stb t s (1 - t / 2 ^ s % 2)) (if K < 10 then K + 1 else 10) (pu K pn n) (pu K pf f) (pu K pt t) im sl N b tr, nI (1 - t / 2 ^ s % 2)) := by rw [ix_some hs (by omega)]; simp only [zTurn]; rw [show fnd (gf (mkT P n f t K pn pf pt im sl N b tr)) s (gn (mkT P n f t K pn pf pt im sl N b tr)) = _ from hf]; rfl
      exact RQ.mk e (hM.dsk (fun c h1 h2 h3 => by simp [va_up, h1]; exact x2 c h1 h3) (fun k h1 h2 h3 => by simp [va_up, h2]; exact x3 k h3) ⟨by simp [va_up]; rw [x3 6 (by decide)]; exact hRw.1, by simp [va_up], fun j hj => by simp [va_up]; rw [x2 110 (by omega) (by omega)]; exact hRw.2.2.1 j hj, hn6, hRw.2.2.2.2.1, hx6.2.1⟩ (x1.keep (by simp [va_up]) (by simp [va_up])) (rem_dOK hV hV.1 hU.2.1)) (fun c hc => by simp [va_up, show c ≠ 106 by omega]; exact x2 c (by omega) (by omega)) rfl rfl
  · refine q_if_neN (tgt := 10) G (pc := 5) dX11_turn_5 (by decide) (by omega) (fun c5 => absurd c5 (by decide)) (fun _ => ?_)
    refine q_iconst (v := -1) G (pc := 8) dX11_turn_8 (by decide) ?_
    refine q_iret G (pc := 9) dX11_turn_9 (Or.inl rfl) ?_
    exact hM.post msc.rf (by rw [ix_none c2]; rfl)
set_option maxHeartbeats 2000000 in
theorem m_takes {d : Nat} (hd : 4 ≤ d) {hi : mm_HI} {τ : mm_T} {P : PG} {n : Nat} {f : Nat → Nat} {t K : Nat} {pn : Nat → Nat} {pf : Nat → Nat → Nat} {pt : Nat → Nat} {im : Nat → Option DK} {sl : List (Nat × Nat)} {N : Nat} {b : Nat → Nat} {tr : Int64} (hM : mS P n f t K pn pf pt im sl N b tr hi τ) {x : Int32} : wR d yX11_takes [.ref 106, .int x] hi τ (RQ (zTakes (mkT P n f t K pn pf pt im sl N b tr) (ix x (pS P))) hi τ) := by
  refine w_intro (by omega) M_X11_takes (Nat.le_of_ble_eq_true rfl) rfl ?_
  intro e X he G
  show X 0 [some (.ref (106)), some (.int (x)), none] [] hi τ 125
  obtain ⟨sw, hτ, hP, hRw, hV, hU, hI, hIV, hN, hNO, hT, hTr⟩ := id hM
  have hS6 : pS P ≤ 6 := hP.2.2.2.2.2.2.2.1
  have hL3 : pL P ≤ 3 := hP.2.2.2.2.2.2.1
  have hL1 : 1 ≤ pL P := hP.2.2.2.2.2.1
  have hW8 : (pW P).length ≤ 8 := hP.2.2.2.2.2.2.2.2.2.1
  have hn6 : n ≤ 6 := hRw.2.2.2.1
  have hfs : ∀ j, j < n → f j < pS P := hV.1.1
  have hV1 : rowV P n f := hV.1
  refine q_aload_n G (pc := 0) dX11_takes_0 rfl ?_
  refine q_iload_n G (pc := 1) dX11_takes_1 rfl ?_
  refine q_cV1B G (pc := 2) dX11_takes_2 cv_X11_176 rfl (m_isStrip (by omega) hM) (Nat.le_of_ble_eq_true rfl) (fun c2 => ?_) (fun c2 => ?_)
  · obtain ⟨s, hs, rfl⟩ := c2
    refine q_if_neN (tgt := 10) G (pc := 5) dX11_takes_5 (by decide) (by omega) (fun _ => ?_) (fun c5 => absurd c5 (by decide))
    rcases hf : fnd f s n with _ | p
    · refine q_aload_n G (pc := 10) dX11_takes_10 rfl ?_
      refine q_iload_n G (pc := 11) dX11_takes_11 rfl ?_
      refine q_cV1E G (pc := 12) dX11_takes_12 cv_X11_179 rfl (m_placeOf (by omega) hM (s := s) (by omega)) (Nat.le_of_ble_eq_true rfl) ?_
      rw [show plI (fnd f s n) = -9 from (by rw [hf]; rfl)]
      refine q_istore_n G (pc := 15) dX11_takes_15 (by decide) ?_
      show X _ [_, _, _] _ _ _ _
      refine q_iload_n G (pc := 16) dX11_takes_16 rfl ?_
      refine q_bipush (v := -9) G (pc := 17) dX11_takes_17 (by decide) ?_
      refine q_icmp_ne (tgt := 25) G (pc := 19) dX11_takes_19 (by decide) (fun c19 => absurd rfl c19) (fun _ => ?_)
      refine q_bipush (v := -2) G (pc := 22) dX11_takes_22 (by decide) ?_
      refine q_iret G (pc := 24) dX11_takes_24 (Or.inl rfl) ?_
      exact hM.post msc.rf (by rw [ix_some hs (by omega)]; simp only [zTakes]; rw [show fnd (gf (mkT P n f t K pn pf pt im sl N b tr)) s (gn (mkT P n f t K pn pf pt im sl N b tr)) = _ from hf])
    · refine q_aload_n G (pc := 10) dX11_takes_10 rfl ?_
      refine q_iload_n G (pc := 11) dX11_takes_11 rfl ?_
      refine q_cV1E G (pc := 12) dX11_takes_12 cv_X11_179 rfl (m_placeOf (by omega) hM (s := s) (by omega)) (Nat.le_of_ble_eq_true rfl) ?_
      rw [show plI (fnd f s n) = nI p from (by rw [hf]; rfl)]
      have hpn := fnd_some hf
      refine q_istore_n G (pc := 15) dX11_takes_15 (by decide) ?_
      show X _ [_, _, _] _ _ _ _
      refine q_iload_n G (pc := 16) dX11_takes_16 rfl ?_
      refine q_bipush (v := -9) G (pc := 17) dX11_takes_17 (by decide) ?_
      refine q_icmp_ne (tgt := 25) G (pc := 19) dX11_takes_19 (by decide) (fun _ => ?_) (fun c19 => absurd c19 (nI_ne9 (by omega)))
      refine q_aload_n G (pc := 25) dX11_takes_25 rfl ?_
      refine q_cV0V G (pc := 26) dX11_takes_26 cv_X11_199 rfl (m_notes (by omega) hM) (Nat.le_of_ble_eq_true rfl) ?_
      intro hk hx
      obtain ⟨x1, x2, x3⟩ := hx
      refine q_aload_n G (pc := 29) dX11_takes_29 rfl ?_
      refine q_iload_n G (pc := 30) dX11_takes_30 rfl ?_
      refine q_aload_n G (pc := 31) dX11_takes_31 rfl ?_
      refine q_getI (v := nI (n)) G (pc := 32) dX11_takes_32 fl_X11_75_10 (by decide) rfl (by rw [x3 6 (by decide)]; exact hRw.1) ?_
      refine q_iconst (v := nI 1) G (pc := 35) dX11_takes_35 (by decide) ?_
      refine q_isubN G (pc := 36) dX11_takes_36 (by omega) ?_
      refine q_cV2V G (pc := 37) dX11_takes_37 cv_X11_205 rfl (m_comesTo (by omega) hτ hn6 (f := f) (p := p) (q := n - 1) (fun j hj => by rw [x2 110 (by omega) (by omega)]; exact hRw.2.2.1 j hj) (by omega) (by omega)) (Nat.le_of_ble_eq_true rfl) ?_
      intro hk2 hy
      obtain ⟨y1, y2⟩ := hy
      refine q_aload_n G (pc := 40) dX11_takes_40 rfl ?_
      refine q_dup G (pc := 41) dX11_takes_41 rfl ?_
      refine q_getI (v := nI (n)) G (pc := 42) dX11_takes_42 fl_X11_75_10 (by decide) rfl (by rw [y2 106 (by omega), x3 6 (by decide)]; exact hRw.1) ?_
      refine q_iconst (v := nI 1) G (pc := 45) dX11_takes_45 (by decide) ?_
      refine q_isubN G (pc := 46) dX11_takes_46 (by omega) ?_
      refine q_putI G (pc := 47) dX11_takes_47 fl_X11_75_10 rfl ?_
      refine q_aload_n G (pc := 50) dX11_takes_50 rfl ?_
      refine q_getI (v := nI (n - 1)) G (pc := 51) dX11_takes_51 fl_X11_75_10 (by decide) rfl (by simp [va_up]) ?_
      refine q_iret G (pc := 54) dX11_takes_54 (Or.inl rfl) ?_
      have e : zTakes (mkT P n f t K pn pf pt im sl N b tr) (ix (nI s) (pS P)) = (mkT P (n - 1) (fun j => f (crr p (n - 1) j)) t (if K < 10 then K + 1 else 10) (pu K pn n) (pu K pf f) (pu K pt t) im sl N b tr, nI (n - 1)) := by rw [ix_some hs (by omega)]; simp only [zTakes]; rw [show fnd (gf (mkT P n f t K pn pf pt im sl N b tr)) s (gn (mkT P n f t K pn pf pt im sl N b tr)) = _ from hf]; rfl
      have hvr : rowV P (n - 1) (fun j => f (crr p (n - 1) j)) := rowV_lt (rowV_crr hV.1 hpn.1 (by show n - 1 < n; omega)) (by show n - 1 ≤ n; omega)
      exact RQ.mk e (hM.dsk (fun c h1 h2 h3 => by simp [va_up, h1]; exact (y2 c h2).trans (x2 c h1 h3)) (fun k h1 h2 h3 => by simp [va_up, h1]; rw [y2 106 (by omega)]; exact x3 k h3) ⟨by simp [va_up], by simp [va_up]; rw [y2 106 (by omega), x3 7 (by decide)]; exact hRw.2.1, fun j hj => by simp [va_up]; exact y1 j (by omega), by omega, fun j hj => by have := hvr.1 j hj; omega, hRw.2.2.2.2.2⟩ (x1.keep (by simp [va_up]; rw [y2 106 (by omega)]) (by simp [va_up]; exact y2 120 (by omega))) (rem_dOK hV hvr hU.2.1)) (fun c hc => by simp [va_up, show c ≠ 106 by omega]; exact (y2 c (by omega)).trans (x2 c (by omega) (by omega))) rfl rfl
  · refine q_if_neN (tgt := 10) G (pc := 5) dX11_takes_5 (by decide) (by omega) (fun c5 => absurd c5 (by decide)) (fun _ => ?_)
    refine q_iconst (v := -1) G (pc := 8) dX11_takes_8 (by decide) ?_
    refine q_iret G (pc := 9) dX11_takes_9 (Or.inl rfl) ?_
    exact hM.post msc.rf (by rw [ix_none c2]; rfl)
set_option maxHeartbeats 2000000 in
theorem m_lays {d : Nat} (hd : 4 ≤ d) {hi : mm_HI} {τ : mm_T} {P : PG} {n : Nat} {f : Nat → Nat} {t K : Nat} {pn : Nat → Nat} {pf : Nat → Nat → Nat} {pt : Nat → Nat} {im : Nat → Option DK} {sl : List (Nat × Nat)} {N : Nat} {b : Nat → Nat} {tr : Int64} (hM : mS P n f t K pn pf pt im sl N b tr hi τ) {x : Int32} : wR d yX11_lays [.ref 106, .int x] hi τ (RQ (zLays (mkT P n f t K pn pf pt im sl N b tr) (ix x (pS P))) hi τ) := by
  refine w_intro (by omega) M_X11_lays (Nat.le_of_ble_eq_true rfl) rfl ?_
  intro e X he G
  show X 0 [some (.ref (106)), some (.int (x))] [] hi τ 125
  obtain ⟨sw, hτ, hP, hRw, hV, hU, hI, hIV, hN, hNO, hT, hTr⟩ := id hM
  have hS6 : pS P ≤ 6 := hP.2.2.2.2.2.2.2.1
  have hL3 : pL P ≤ 3 := hP.2.2.2.2.2.2.1
  have hL1 : 1 ≤ pL P := hP.2.2.2.2.2.1
  have hW8 : (pW P).length ≤ 8 := hP.2.2.2.2.2.2.2.2.2.1
  have hn6 : n ≤ 6 := hRw.2.2.2.1
  have hfs : ∀ j, j < n → f j < pS P := hV.1.1
  have hV1 : rowV P n f := hV.1
  refine q_aload_n G (pc := 0) dX11_lays_0 rfl ?_
  refine q_iload_n G (pc := 1) dX11_lays_1 rfl ?_
  refine q_cV1B G (pc := 2) dX11_lays_2 cv_X11_176 rfl (m_isStrip (by omega) hM) (Nat.le_of_ble_eq_true rfl) (fun c2 => ?_) (fun c2 => ?_)
  · obtain ⟨s, hs, rfl⟩ := c2
    refine q_if_neN (tgt := 10) G (pc := 5) dX11_lays_5 (by decide) (by omega) (fun _ => ?_) (fun c5 => absurd c5 (by decide))
    rcases hf : fnd f s n with _ | p
    · refine q_aload_n G (pc := 10) dX11_lays_10 rfl ?_
      refine q_iload_n G (pc := 11) dX11_lays_11 rfl ?_
      refine q_cV1E G (pc := 12) dX11_lays_12 cv_X11_179 rfl (m_placeOf (by omega) hM (s := s) (by omega)) (Nat.le_of_ble_eq_true rfl) ?_
      rw [show plI (fnd f s n) = -9 from (by rw [hf]; rfl)]
      refine q_bipush (v := -9) G (pc := 15) dX11_lays_15 (by decide) ?_
      refine q_icmp_eq (tgt := 23) G (pc := 17) dX11_lays_17 (by decide) (fun _ => ?_) (fun c17 => absurd rfl c17)
      refine q_aload_n G (pc := 23) dX11_lays_23 rfl ?_
      have hn5 := n_lt6 hV.1 hS6 (by omega) (fnd_none hf)
      refine q_cV0V G (pc := 24) dX11_lays_24 cv_X11_199 rfl (m_notes (by omega) hM) (Nat.le_of_ble_eq_true rfl) ?_
      intro hk hx
      obtain ⟨x1, x2, x3⟩ := hx
      refine q_aload_n G (pc := 27) dX11_lays_27 rfl ?_
      refine q_getR (x := 110) G (pc := 28) dX11_lays_28 fl_X11_23_10 rfl (hg hτ (hf_10_8 rfl)) ?_
      refine q_aload_n G (pc := 31) dX11_lays_31 rfl ?_
      refine q_getI (v := nI (n)) G (pc := 32) dX11_lays_32 fl_X11_75_10 (by decide) rfl (by rw [x3 6 (by decide)]; exact hRw.1) ?_
      refine q_iload_n G (pc := 35) dX11_lays_35 rfl ?_
      refine q_iast (j := n) G (pc := 36) dX11_lays_36 rfl rfl (by omega) ?_
      refine q_aload_n G (pc := 37) dX11_lays_37 rfl ?_
      refine q_dup G (pc := 38) dX11_lays_38 rfl ?_
      refine q_getI (v := nI (n)) G (pc := 39) dX11_lays_39 fl_X11_75_10 (by decide) rfl (by simp [va_up]; rw [x3 6 (by decide)]; exact hRw.1) ?_
      refine q_iconst (v := nI 1) G (pc := 42) dX11_lays_42 (by decide) ?_
      refine q_iaddN G (pc := 43) dX11_lays_43 ?_
      refine q_putI G (pc := 44) dX11_lays_44 fl_X11_75_10 rfl ?_
      refine q_aload_n G (pc := 47) dX11_lays_47 rfl ?_
      refine q_getI (v := nI (n + 1)) G (pc := 48) dX11_lays_48 fl_X11_75_10 (by decide) rfl (by simp [va_up]) ?_
      refine q_iret G (pc := 51) dX11_lays_51 (Or.inl rfl) ?_
      have e : zLays (mkT P n f t K pn pf pt im sl N b tr) (ix (nI s) (pS P)) = (mkT P (n + 1) (va_up f n s) t (if K < 10 then K + 1 else 10) (pu K pn n) (pu K pf f) (pu K pt t) im sl N b tr, nI (n + 1)) := by rw [ix_some hs (by omega)]; simp only [zLays]; rw [show fnd (gf (mkT P n f t K pn pf pt im sl N b tr)) s (gn (mkT P n f t K pn pf pt im sl N b tr)) = _ from hf]; rfl
      have hvr := rowV_app hV1 hs (fnd_none hf)
      refine RQ.mk e (hM.dsk (fun c h1 h2 h3 => by simp [va_up, h1, h2]; exact x2 c h1 h3) (fun k h1 h2 h3 => by simp [va_up, h1]; exact x3 k h3) ⟨by simp [va_up], by simp [va_up]; rw [x3 7 (by decide)]; exact hRw.2.1, fun j hj => ?_, by omega, fun j hj => by have := hvr.1 j hj; omega, hRw.2.2.2.2.2⟩ (x1.keep (by simp [va_up]) (by simp [va_up])) (rem_dOK hV hvr hU.2.1)) (fun c hc => by simp [va_up, show c ≠ 106 by omega, show c ≠ 110 by omega]; exact x2 c (by omega) (by omega)) rfl rfl
      by_cases e1 : j = n
      · subst e1; simp [va_up]
      · simp [va_up, e1]; rw [x2 110 (by omega) (by omega)]; exact hRw.2.2.1 j (by omega)
    · refine q_aload_n G (pc := 10) dX11_lays_10 rfl ?_
      refine q_iload_n G (pc := 11) dX11_lays_11 rfl ?_
      refine q_cV1E G (pc := 12) dX11_lays_12 cv_X11_179 rfl (m_placeOf (by omega) hM (s := s) (by omega)) (Nat.le_of_ble_eq_true rfl) ?_
      rw [show plI (fnd f s n) = nI p from (by rw [hf]; rfl)]
      have hpn := fnd_some hf
      refine q_bipush (v := -9) G (pc := 15) dX11_lays_15 (by decide) ?_
      refine q_icmp_eq (tgt := 23) G (pc := 17) dX11_lays_17 (by decide) (fun c17 => absurd c17 (nI_ne9 (by omega))) (fun _ => ?_)
      refine q_bipush (v := -2) G (pc := 20) dX11_lays_20 (by decide) ?_
      refine q_iret G (pc := 22) dX11_lays_22 (Or.inl rfl) ?_
      exact hM.post msc.rf (by rw [ix_some hs (by omega)]; simp only [zLays]; rw [show fnd (gf (mkT P n f t K pn pf pt im sl N b tr)) s (gn (mkT P n f t K pn pf pt im sl N b tr)) = _ from hf])
  · refine q_if_neN (tgt := 10) G (pc := 5) dX11_lays_5 (by decide) (by omega) (fun c5 => absurd c5 (by decide)) (fun _ => ?_)
    refine q_iconst (v := -1) G (pc := 8) dX11_lays_8 (by decide) ?_
    refine q_iret G (pc := 9) dX11_lays_9 (Or.inl rfl) ?_
    exact hM.post msc.rf (by rw [ix_none c2]; rfl)
set_option maxHeartbeats 2000000 in
theorem m_undo {d : Nat} (hd : 2 ≤ d) {hi : mm_HI} {τ : mm_T} {P : PG} {n : Nat} {f : Nat → Nat} {t K : Nat} {pn : Nat → Nat} {pf : Nat → Nat → Nat} {pt : Nat → Nat} {im : Nat → Option DK} {sl : List (Nat × Nat)} {N : Nat} {b : Nat → Nat} {tr : Int64} (hM : mS P n f t K pn pf pt im sl N b tr hi τ)  : wR d yX11_undo [.ref 106] hi τ (RQ (zUndo (mkT P n f t K pn pf pt im sl N b tr)) hi τ) := by
  refine w_intro (by omega) M_X11_undo (Nat.le_of_ble_eq_true rfl) rfl ?_
  intro e X he G
  show X 0 [some (.ref (106))] [] hi τ 125
  obtain ⟨sw, hτ, hP, hRw, hV, hU, hI, hIV, hN, hNO, hT, hTr⟩ := id hM
  have hS6 : pS P ≤ 6 := hP.2.2.2.2.2.2.2.1
  have hL3 : pL P ≤ 3 := hP.2.2.2.2.2.2.1
  have hL1 : 1 ≤ pL P := hP.2.2.2.2.2.1
  have hW8 : (pW P).length ≤ 8 := hP.2.2.2.2.2.2.2.2.2.1
  have hn6 : n ≤ 6 := hRw.2.2.2.1
  have hfs : ∀ j, j < n → f j < pS P := hV.1.1
  have hV1 : rowV P n f := hV.1
  have hK10 := hU.2.1
  refine q_aload_n G (pc := 0) dX11_undo_0 rfl ?_
  refine q_getI (v := nI (K)) G (pc := 1) dX11_undo_1 fl_X11_139_10 (by decide) rfl hU.1 ?_
  refine q_if_neN (tgt := 10) G (pc := 4) dX11_undo_4 (by decide) (by omega) (fun c4 => ?_) (fun c4 => ?_)
  · refine q_aload_n G (pc := 10) dX11_undo_10 rfl ?_
    refine q_dup G (pc := 11) dX11_undo_11 rfl ?_
    refine q_getI (v := nI (K)) G (pc := 12) dX11_undo_12 fl_X11_139_10 (by decide) rfl hU.1 ?_
    refine q_iconst (v := nI 1) G (pc := 15) dX11_undo_15 (by decide) ?_
    refine q_isubN G (pc := 16) dX11_undo_16 (by omega) ?_
    refine q_putI G (pc := 17) dX11_undo_17 fl_X11_139_10 rfl ?_
    refine q_aload_n G (pc := 20) dX11_undo_20 rfl ?_
    refine q_aload_n G (pc := 21) dX11_undo_21 rfl ?_
    refine q_getR (x := 120) G (pc := 22) dX11_undo_22 fl_X11_53_10 rfl (hg hτ (hf_10_27 rfl)) ?_
    refine q_bipush (v := nI 8) G (pc := 25) dX11_undo_25 (by decide) ?_
    refine q_aload_n G (pc := 27) dX11_undo_27 rfl ?_
    refine q_getI (v := nI (K - 1)) G (pc := 28) dX11_undo_28 fl_X11_139_10 (by decide) rfl (by simp [va_up]) ?_
    refine q_imulN G (pc := 31) dX11_undo_31 ?_
    refine q_cV2V G (pc := 32) dX11_undo_32 cv_X11_209 rfl (m_readsBack (by omega) hτ (c := 120) (o := 8 * (K - 1)) (Nn := 80) ((hU.2.2 (K - 1) (by omega)).keep (by simp [va_up])) rfl (Or.inl rfl) (by omega) (by omega)) (Nat.le_of_ble_eq_true rfl) ?_
    intro hk hx
    obtain ⟨x1, x2, x3⟩ := hx
    refine q_aload_n G (pc := 35) dX11_undo_35 rfl ?_
    refine q_getI (v := nI (K - 1)) G (pc := 36) dX11_undo_36 fl_X11_139_10 (by decide) rfl (by rw [x3 28 (by decide) (by decide)]; simp [va_up]) ?_
    refine q_iret G (pc := 39) dX11_undo_39 (Or.inl rfl) ?_
    have e : zUndo (mkT P n f t K pn pf pt im sl N b tr) = (mkT P (pn (K - 1)) (pf (K - 1)) (pt (K - 1)) (K - 1) pn pf pt im sl N b tr, nI (K - 1)) := if_neg (show ¬ K = 0 by omega)
    exact RQ.mk e (hM.dsk (fun c h1 h2 h3 => by rw [x2 c h1 h2]; simp [va_up, h1]) (fun k h1 h2 h3 => by rw [x3 k h1 h2]; simp [va_up, h3]) x1 ⟨by rw [x3 28 (by decide) (by decide)]; simp [va_up], by omega, fun k hk => (hU.2.2 k (by omega)).keep (by rw [x2 120 (by decide) (by decide)]; simp [va_up])⟩ ⟨hV.2 (K - 1) (by show K - 1 < K; omega), fun k hk => hV.2 k (by have : k < K - 1 := hk; show k < K; omega)⟩) (fun c hc => by rw [x2 c (by omega) (by omega)]; simp [va_up, show c ≠ 106 by omega]) rfl rfl
  · refine q_bipush (v := -2) G (pc := 7) dX11_undo_7 (by decide) ?_
    refine q_iret G (pc := 9) dX11_undo_9 (Or.inl rfl) ?_
    exact hM.post msc.rf (if_pos c4)
