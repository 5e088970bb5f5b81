/-! the model's reader -/
def at15 (hi h : mm_HI) : Prop := (∀ c, c ≠ 106 → h c = hi c) ∧ ∀ k, k ≠ 15 → h 106 k = hi 106 k
theorem at15.rf {x : mm_HI} : at15 x x := ⟨fun _ _ => rfl, fun _ _ => rfl⟩
theorem at15.trans {x y z : mm_HI} (h : at15 x y) (g : at15 y z) : at15 x z := ⟨fun c hc => (g.1 c hc).trans (h.1 c hc), fun k hk => (g.2 k hk).trans (h.2 k hk)⟩
theorem at15.up {x : mm_HI} {v : Int32} : at15 x (mm_up2 x 106 15 v) := ⟨fun c hc => by simp [va_up, hc], fun k hk => by simp [va_up, hk]⟩
theorem at15.sc {x y : mm_HI} (h : at15 x y) : msc x y := ⟨fun c hc => h.1 c (by omega), fun k hk => h.2 k (by omega)⟩
theorem txM.a {x y : mm_HI} {b : Nat → Nat} {N : Nat} (h : txM x b N) (g : at15 x y) : txM y b N := h.sc g.sc
theorem skp_le {b : Nat → Nat} {N p : Nat} (h : p ≤ N) : p ≤ skp b N p ∧ skp b N p ≤ N := scn_le h
theorem ren_le {b : Nat → Nat} {N k p : Nat} (h : p ≤ N) : p ≤ ren b N k p ∧ ren b N k p ≤ N := scn_le h
theorem tok1 {c : Nat} : tok c = 1 ↔ (97 ≤ c ∧ c ≤ 122) ∨ c = 46 := by
  unfold tok
  constructor
  · intro h
    split at h
    · assumption
    · split at h
      · cases h
      · split at h <;> cases h
  · intro h; exact if_pos h
theorem tok2 {c : Nat} : tok c = 2 ↔ 48 ≤ c ∧ c ≤ 57 := by
  unfold tok
  constructor
  · intro h
    split at h
    · cases h
    · split at h
      · assumption
      · split at h <;> cases h
  · intro h; rw [if_neg (by omega), if_pos h]
theorem tok3 {c : Nat} : tok c = 3 ↔ c = 59 := by
  unfold tok
  constructor
  · intro h
    split at h
    · cases h
    · split at h
      · cases h
      · split at h
        · assumption
        · cases h
  · intro h; subst h; rfl
theorem tkn_lt {b : Nat → Nat} {N q k : Nat} (h : tkn b N q = k + 1) : q < N ∧ tok (b q) = k + 1 := by
  unfold tkn at h
  split at h
  · exact ⟨by assumption, h⟩
  · cases h
theorem tkn_of {b : Nat → Nat} {N q : Nat} (h : q < N) : tkn b N q = tok (b q) := if_pos h
theorem ren_tke {b : Nat → Nat} {N q : Nat} (h : tkn b N q = 1) : ren b N 1 q = tke b N q := by
  obtain ⟨h1, h2, h3⟩ := tke_tok h
  rw [h3]
  exact scn_t h1 (by simp [h2])
theorem ren_no {b : Nat → Nat} {N q : Nat} (h : tkn b N q ≠ 1) : ren b N 1 q = q := scn_f (fun z => h (by rw [tkn_of z.1]; simpa using z.2))
/-- the row of letters and points at q is as long as n -/
theorem row_is {b : Nat → Nat} {N q n : Nat} (hq : q ≤ N) (hn : 1 ≤ n) : ren b N 1 q - q = n ↔ tkn b N q = 1 ∧ tke b N q = q + n := by
  have h1 := ren_le (b := b) (k := 1) hq
  by_cases h : tkn b N q = 1
  · rw [ren_tke h]
    rw [ren_tke h] at h1
    constructor
    · intro e; exact ⟨h, by omega⟩
    · intro e; omega
  · rw [ren_no h]
    constructor
    · intro e; omega
    · intro e; exact absurd e.1 h
def stpM (b : Nat → Nat) (N p : Nat) (P : PG) : Nat ⊕ (Nat × PG) := if tkn b N (skp b N p) = 3 then .inr (skp b N p + 1, P) else .inl (skp b N p)
def itM (b : Nat → Nat) (N q : Nat) (first : Bool) (P : PG) : Nat ⊕ (Nat × PG) :=
  if tkn b N q = 1 ∧ tke b N q = q + 1 then
    (if b q = 110 then (if first = true then (if okL b N (skp b N (q + 1)) then stpM b N (skp b N (q + 1) + 1) (b (skp b N (q + 1)) - 48, pS P, pG P, pW P) else .inl (skp b N (q + 1))) else .inl q)
    else if b q = 115 then (if pS P < 6 then (match badS b N q (pL P) with
      | some l => .inl (pq b N q (l + 1))
      | none => stpM b N (tke b N (pq b N q (pL P))) (addS b N q P)) else .inl q)
    else if b q = 119 then (if (pW P).length < 8 then (if okW b N (skp b N (q + 1)) then stpM b N (tke b N (skp b N (q + 1))) (pL P, pS P, pG P, pW P ++ [uw b (skp b N (q + 1)) (tke b N (skp b N (q + 1)) - skp b N (q + 1))]) else .inl (skp b N (q + 1))) else .inl q)
    else .inl q)
  else .inl q
def skR (b : Nat → Nat) (N : Nat) (x : Nat ⊕ (Nat × PG)) : Nat ⊕ (Nat × PG) := match x with
  | .inl f => .inl f
  | .inr (r, P) => .inr (skp b N r, P)
theorem stp_sk (b : Nat → Nat) (N q : Nat) (P : PG) : stpS b N q P = skR b N (stpM b N (tke b N q) P) := by
  unfold stpS stpM
  split <;> rfl
theorem itm_sk (b : Nat → Nat) (N q : Nat) (first : Bool) (P : PG) : itm b N q first P = skR b N (itM b N q first P) := by
  unfold itm itM
  by_cases h : tkn b N q = 1 ∧ tke b N q = q + 1
  · rw [if_pos h, if_pos h, h.2]
    by_cases h1 : b q = 110
    · rw [if_pos h1, if_pos h1]
      by_cases h2 : first = true
      · rw [if_pos h2, if_pos h2]
        by_cases h3 : okL b N (skp b N (q + 1))
        · rw [if_pos h3, if_pos h3, stp_sk, h3.2.1]
        · rw [if_neg h3, if_neg h3]; rfl
      · rw [if_neg h2, if_neg h2]; rfl
    · rw [if_neg h1, if_neg h1]
      by_cases h2 : b q = 115
      · rw [if_pos h2, if_pos h2]
        by_cases h3 : pS P < 6
        · rw [if_pos h3, if_pos h3]
          cases badS b N q (pL P) with
          | some l => rfl
          | none => exact stp_sk _ _ _ _
        · rw [if_neg h3, if_neg h3]; rfl
      · rw [if_neg h2, if_neg h2]
        by_cases h3 : b q = 119
        · rw [if_pos h3, if_pos h3]
          by_cases h4 : (pW P).length < 8
          · rw [if_pos h4, if_pos h4]
            by_cases h5 : okW b N (skp b N (q + 1))
            · rw [if_pos h5, if_pos h5, stp_sk]
            · rw [if_neg h5, if_neg h5]; rfl
          · rw [if_neg h4, if_neg h4]; rfl
        · rw [if_neg h3, if_neg h3]; rfl
  · rw [if_neg h, if_neg h]; rfl
theorem stpM_adv {b : Nat → Nat} {N p r : Nat} {P P2 : PG} (hp : p ≤ N) (h : stpM b N p P = .inr (r, P2)) : p + 1 ≤ r ∧ r ≤ N := by
  unfold stpM at h
  have := skp_le (b := b) (N := N) hp
  split at h
  · rename_i c
    have := (tkn_lt c).1
    cases h
    show p + 1 ≤ skp b N p + 1 ∧ skp b N p + 1 ≤ N
    omega
  · cases h
theorem itM_adv {b : Nat → Nat} {N q r : Nat} {first : Bool} {P P2 : PG} (hq : q < N) (hL : 1 ≤ pL P) (h : itM b N q first P = .inr (r, P2)) : q + 2 ≤ r ∧ r ≤ N := by
  unfold itM at h
  have hs := skp_le (b := b) (N := N) (p := q + 1) (by omega)
  split at h
  · rename_i h0
    split at h
    · split at h
      · split at h
        · rename_i h3
          have := (tkn_lt h3.1).1
          have := stpM_adv (by omega) h
          have : q + 1 ≤ skp b N (q + 1) := hs.1
          omega
        · cases h
      · cases h
    · split at h
      · split at h
        · split at h
          · cases h
          · have e : ∀ l, pq b N q l ≤ N ∧ q + 1 ≤ tke b N (pq b N q l) := by
              intro l
              induction l with
              | zero => exact ⟨by show q ≤ N; omega, by show q + 1 ≤ tke b N q; omega⟩
              | succ l ih =>
                have a := pq_le (b := b) (N := N) (q := q) (by omega) (l + 1)
                refine ⟨a, ?_⟩
                have c1 := tke_le (b := b) ih.1
                have c2 : tke b N (pq b N q l) ≤ pq b N q (l + 1) := (scn_le c1.2.1).1
                have c3 := tke_le (b := b) a
                omega
            have := e (pL P)
            have c3 := tke_le (b := b) this.1
            have := stpM_adv c3.2.1 h
            omega
        · cases h
      · split at h
        · split at h
          · split at h
            · have c3 := tke_le (b := b) hs.2
              have := stpM_adv c3.2.1 h
              have : q + 1 ≤ skp b N (q + 1) := hs.1
              omega
            · cases h
          · cases h
        · cases h
  · cases h
def rdM (hi : mm_HI) (b : Nat → Nat) (N : Nat) (P : PG) (k q : Nat) : Prop := hi 106 15 = nI q ∧ q ≤ N ∧ hi 106 16 = nI (pL P) ∧ hi 106 17 = nI (pS P) ∧ hi 106 18 = nI (pW P).length ∧ hi 106 19 = nI k ∧ (∀ s, s < pS P → ∀ l, l < pL P → ∀ i, i < 2 → hi 114 (6 * s + 2 * l + i) = nI (bytN (pG P s l i))) ∧ (∀ w, w < (pW P).length → hi 116 w = nI ((pW P).getD w []).length ∧ ∀ i, i < ((pW P).getD w []).length → hi 115 (6 * w + i) = nI (bytN (((pW P).getD w []).getD i 0))) ∧ pOK P
theorem rdM.a {x y : mm_HI} {b : Nat → Nat} {N : Nat} {P : PG} {k q r : Nat} (h : rdM x b N P k q) (g : at15 x y) (hr : y 106 15 = nI r) (hr2 : r ≤ N) : rdM y b N P k r := by
  obtain ⟨a1, a2, a3, a4, a5, a6, a7, a8, a9⟩ := h
  exact ⟨hr, hr2, by rw [g.2 16 (by omega)]; exact a3, by rw [g.2 17 (by omega)]; exact a4, by rw [g.2 18 (by omega)]; exact a5, by rw [g.2 19 (by omega)]; exact a6, by rw [g.1 114 (by omega)]; exact a7, by rw [g.1 116 (by omega), g.1 115 (by omega)]; exact a8, a9⟩
def rsM (res : Nat ⊕ (Nat × PG)) (b : Nat → Nat) (N k : Nat) (hi : mm_HI) (x : Int32) (h : mm_HI) : Prop := msc hi h ∧ ((∃ f, res = .inl f ∧ x = nI 0 ∧ h 106 15 = nI f ∧ f ≤ N) ∨ (∃ (r : Nat) (P2 : PG), res = .inr (r, P2) ∧ x = nI 1 ∧ rdM h b N P2 k r))
theorem rsM.pre {res : Nat ⊕ (Nat × PG)} {b : Nat → Nat} {N k : Nat} {x y z : mm_HI} {v : Int32} (h : rsM res b N k y v z) (g : msc x y) : rsM res b N k x v z := ⟨g.trans h.1, h.2⟩
set_option maxHeartbeats 2000000 in
theorem m_here {d : Nat} (hd : 1 ≤ d) {hi : mm_HI} {τ : mm_T} {sw : Bool} (hτ : τ.1 = mm_hr sw) {b : Nat → Nat} {N q : Nat} (hT : txM hi b N) (hq : hi 106 15 = nI q) (hqN : q ≤ N) : wE d yX11_here [.ref 106] hi τ (if q < N then nI (b q) else -9) := by
  refine w_intro (by omega) M_X11_here (Nat.le_of_ble_eq_true rfl) rfl ?_
  intro e X he G
  show X 0 [some (.ref (106))] [] hi τ 125
  have hN150 := hT.2.1
  refine q_aload_n G (pc := 0) dX11_here_0 rfl ?_
  refine q_getI (v := nI (q)) G (pc := 1) dX11_here_1 fl_X11_81_10 (by decide) rfl hq ?_
  refine q_aload_n G (pc := 4) dX11_here_4 rfl ?_
  refine q_getI (v := nI (N)) G (pc := 5) dX11_here_5 fl_X11_78_10 (by decide) rfl hT.1 ?_
  refine q_icmp_geN (tgt := 23) G (pc := 8) dX11_here_8 (by decide) (by omega) (by omega) (fun c8 => ?_) (fun c8 => ?_)
  · refine q_bipush (v := -9) G (pc := 23) dX11_here_23 (by decide) ?_
    refine q_iret G (pc := 25) dX11_here_25 (Or.inl rfl) ?_
    exact ⟨rfl, rfl, by rw [if_neg (by omega)]⟩
  · refine q_aload_n G (pc := 11) dX11_here_11 rfl ?_
    refine q_getR (x := 113) G (pc := 12) dX11_here_12 fl_X11_32_10 rfl (hg hτ (hf_10_13 rfl)) ?_
    refine q_aload_n G (pc := 15) dX11_here_15 rfl ?_
    refine q_getI (v := nI (q)) G (pc := 16) dX11_here_16 fl_X11_81_10 (by decide) rfl hq ?_
    refine q_iald (j := q) (v := nI (b q)) G (pc := 19) dX11_here_19 rfl rfl (by omega) (hT.2.2.1 q (by omega)) ?_
    refine q_goto (tgt := 25) G (pc := 20) dX11_here_20 (by decide) ?_
    refine q_iret G (pc := 25) dX11_here_25 (Or.inl rfl) ?_
    exact ⟨rfl, rfl, by rw [if_pos (by omega)]⟩
set_option maxHeartbeats 2000000 in
theorem m_skip {d : Nat} (hd : 2 ≤ d) {hi : mm_HI} {τ : mm_T} {sw : Bool} (hτ : τ.1 = mm_hr sw) {b : Nat → Nat} {N q : Nat} (hT : txM hi b N) (hq : hi 106 15 = nI q) (hqN : q ≤ N) : wV d yX11_skip [.ref 106] hi τ (fun h => h 106 15 = nI (skp b N q) ∧ at15 hi h) := by
  refine w_intro (by omega) M_X11_skip (Nat.le_of_ble_eq_true rfl) rfl ?_
  intro e X he G
  show X 0 [some (.ref (106))] [] hi τ 125
  have hN150 := hT.2.1
  have L0 : ∀ (zz : Nat) (p : Nat) (hk : mm_HI), N - p < zz → p ≤ N → hk 106 15 = nI p → at15 hi hk → skp b N p = skp b N q → X 0 [some (.ref (106))] [] hk τ 125 := by
    intro zz
    induction zz with
    | zero => intro p hk hm; exact absurd hm (Nat.not_lt_zero _)
    | succ zz ih0 =>
      intro p hk hm g0 g1 g2 g3
      by_cases hp : p < N
      · refine q_aload_n G (pc := 0) dX11_skip_0 rfl ?_
        refine q_cV0E G (pc := 1) dX11_skip_1 cv_X11_84 rfl (m_here (by omega) hτ (hT.a g2) g1 g0) (Nat.le_of_ble_eq_true rfl) ?_
        rw [if_pos hp]
        have hb255 := hT.2.2.2 p
        refine q_bipush (v := nI 32) G (pc := 4) dX11_skip_4 (by decide) ?_
        refine q_icmp_neN (tgt := 22) G (pc := 6) dX11_skip_6 (by decide) (by omega) (by omega) (fun c6 => ?_) (fun c6 => ?_)
        · refine q_vret G (pc := 22) dX11_skip_22 rfl ?_
          refine ⟨rfl, rfl, ?_, g2⟩
          rw [g1, ← g3]
          congr 1
          symm
          exact scn_f (fun z => c6 (by simpa using z.2))
        · refine q_aload_n G (pc := 9) dX11_skip_9 rfl ?_
          refine q_dup G (pc := 10) dX11_skip_10 rfl ?_
          refine q_getI (v := nI (p)) G (pc := 11) dX11_skip_11 fl_X11_81_10 (by decide) rfl g1 ?_
          refine q_iconst (v := nI 1) G (pc := 14) dX11_skip_14 (by decide) ?_
          refine q_iaddN G (pc := 15) dX11_skip_15 ?_
          refine q_putI G (pc := 16) dX11_skip_16 fl_X11_81_10 rfl ?_
          refine q_goto (tgt := 0) G (pc := 19) dX11_skip_19 (by decide) ?_
          exact ih0 (p + 1) _ (by omega) (by omega) (by simp [va_up]) (g2.trans at15.up) (by rw [← g3]; exact (scn_t hp (by simp [c6])).symm)
      · refine q_aload_n G (pc := 0) dX11_skip_0 rfl ?_
        refine q_cV0E G (pc := 1) dX11_skip_1 cv_X11_84 rfl (m_here (by omega) hτ (hT.a g2) g1 g0) (Nat.le_of_ble_eq_true rfl) ?_
        rw [if_neg hp]
        skip
        refine q_bipush (v := nI 32) G (pc := 4) dX11_skip_4 (by decide) ?_
        refine q_icmp_ne (tgt := 22) G (pc := 6) dX11_skip_6 (by decide) (fun c6 => ?_) (fun c6 => ?_)
        · refine q_vret G (pc := 22) dX11_skip_22 rfl ?_
          refine ⟨rfl, rfl, ?_, g2⟩
          rw [g1, ← g3]
          congr 1
          symm
          exact scn_f (fun z => hp z.1)
        · exact absurd c6 (by decide)
  exact L0 _ q hi (Nat.lt_succ_self _) hqN hq at15.rf rfl
set_option maxHeartbeats 2000000 in
theorem m_rowSize {d : Nat} (hd : 3 ≤ d) {hi : mm_HI} {τ : mm_T} {sw : Bool} (hτ : τ.1 = mm_hr sw) {b : Nat → Nat} {N q : Nat} (hT : txM hi b N) (hq : hi 106 15 = nI q) (hqN : q ≤ N) : wE d yX11_rowSize [.ref 106] hi τ (nI (ren b N 1 q - q)) := by
  refine w_intro (by omega) M_X11_rowSize (Nat.le_of_ble_eq_true rfl) rfl ?_
  intro e X he G
  show X 0 [some (.ref (106)), none] [] hi τ 125
  have hN150 := hT.2.1
  refine q_iconst (v := nI 0) G (pc := 0) dX11_rowSize_0 (by decide) ?_
  refine q_istore_n G (pc := 1) dX11_rowSize_1 (by decide) ?_
  show X _ [_, _] _ _ _ _
  have L2 : ∀ (zz : Nat) (n : Nat), N - n < zz → q + n ≤ N → ren b N 1 (q + n) = ren b N 1 q → X 2 [some (.ref (106)), some (.int (nI (n)))] [] hi τ 125 := by
    intro zz
    induction zz with
    | zero => intro n hm; exact absurd hm (Nat.not_lt_zero _)
    | succ zz ih2 =>
      intro n hm g0 g2
      refine q_aload_n G (pc := 2) dX11_rowSize_2 rfl ?_
      refine q_getI (v := nI (q)) G (pc := 3) dX11_rowSize_3 fl_X11_81_10 (by decide) rfl hq ?_
      refine q_iload_n G (pc := 6) dX11_rowSize_6 rfl ?_
      refine q_iaddN G (pc := 7) dX11_rowSize_7 ?_
      refine q_aload_n G (pc := 8) dX11_rowSize_8 rfl ?_
      refine q_getI (v := nI (N)) G (pc := 9) dX11_rowSize_9 fl_X11_78_10 (by decide) rfl hT.1 ?_
      refine q_icmp_geN (tgt := 54) G (pc := 12) dX11_rowSize_12 (by decide) (by omega) (by omega) (fun c12 => ?_) (fun c12 => ?_)
      · refine q_iload_n G (pc := 54) dX11_rowSize_54 rfl ?_
        refine q_iret G (pc := 55) dX11_rowSize_55 (Or.inl rfl) ?_
        refine ⟨rfl, rfl, ?_⟩
        have e1 : ren b N 1 (q + n) = q + n := scn_f (fun z => by omega)
        rw [← g2, e1, Nat.add_sub_cancel_left]
      · refine q_aload_n G (pc := 15) dX11_rowSize_15 rfl ?_
        refine q_getR (x := 113) G (pc := 16) dX11_rowSize_16 fl_X11_32_10 rfl (hg hτ (hf_10_13 rfl)) ?_
        refine q_aload_n G (pc := 19) dX11_rowSize_19 rfl ?_
        refine q_getI (v := nI (q)) G (pc := 20) dX11_rowSize_20 fl_X11_81_10 (by decide) rfl hq ?_
        refine q_iload_n G (pc := 23) dX11_rowSize_23 rfl ?_
        refine q_iaddN G (pc := 24) dX11_rowSize_24 ?_
        refine q_iald (j := q + n) (v := nI (b (q + n))) G (pc := 25) dX11_rowSize_25 rfl rfl (by omega) (hT.2.2.1 (q + n) (by omega)) ?_
        have hb255 := hT.2.2.2 (q + n)
        refine q_cS1B G (pc := 26) dX11_rowSize_26 cs_X11_88 (m_isLetter (by omega) (by omega)) (Nat.le_of_ble_eq_true rfl) (fun c26 => ?_) (fun c26 => ?_)
        · refine q_if_neN (tgt := 48) G (pc := 29) dX11_rowSize_29 (by decide) (by omega) (fun _ => ?_) (fun c29 => absurd c29 (by decide))
          refine q_iincN G (pc := 48) dX11_rowSize_48 rfl (inc1 _) (by decide) ?_
          show X _ [_, _] _ _ _ _
          refine q_goto (tgt := 2) G (pc := 51) dX11_rowSize_51 (by decide) ?_
          have ht : tok (b (q + n)) = 1 := tok1.mpr (Or.inl c26)
          exact ih2 (n + 1) (by omega) (by omega) (by rw [← g2]; exact (scn_t (by omega) (by simp [ht])).symm)
        · refine q_if_neN (tgt := 48) G (pc := 29) dX11_rowSize_29 (by decide) (by omega) (fun c29 => absurd c29 (by decide)) (fun _ => ?_)
          refine q_aload_n G (pc := 32) dX11_rowSize_32 rfl ?_
          refine q_getR (x := 113) G (pc := 33) dX11_rowSize_33 fl_X11_32_10 rfl (hg hτ (hf_10_13 rfl)) ?_
          refine q_aload_n G (pc := 36) dX11_rowSize_36 rfl ?_
          refine q_getI (v := nI (q)) G (pc := 37) dX11_rowSize_37 fl_X11_81_10 (by decide) rfl hq ?_
          refine q_iload_n G (pc := 40) dX11_rowSize_40 rfl ?_
          refine q_iaddN G (pc := 41) dX11_rowSize_41 ?_
          refine q_iald (j := q + n) (v := nI (b (q + n))) G (pc := 42) dX11_rowSize_42 rfl rfl (by omega) (hT.2.2.1 (q + n) (by omega)) ?_
          refine q_bipush (v := nI 46) G (pc := 43) dX11_rowSize_43 (by decide) ?_
          refine q_icmp_neN (tgt := 54) G (pc := 45) dX11_rowSize_45 (by decide) (by omega) (by omega) (fun c45 => ?_) (fun c45 => ?_)
          · refine q_iload_n G (pc := 54) dX11_rowSize_54 rfl ?_
            refine q_iret G (pc := 55) dX11_rowSize_55 (Or.inl rfl) ?_
            refine ⟨rfl, rfl, ?_⟩
            have e1 : ren b N 1 (q + n) = q + n := scn_f (fun z => by
                have := tok1.mp (by simpa using z.2 : tok (b (q + n)) = 1)
                omega)
            rw [← g2, e1, Nat.add_sub_cancel_left]
          · refine q_iincN G (pc := 48) dX11_rowSize_48 rfl (inc1 _) (by decide) ?_
            show X _ [_, _] _ _ _ _
            refine q_goto (tgt := 2) G (pc := 51) dX11_rowSize_51 (by decide) ?_
            have ht : tok (b (q + n)) = 1 := tok1.mpr (Or.inr c45)
            exact ih2 (n + 1) (by omega) (by omega) (by rw [← g2]; exact (scn_t (by omega) (by simp [ht])).symm)
  exact L2 _ 0 (Nat.lt_succ_self _) (by omega) rfl
set_option maxHeartbeats 2000000 in
theorem m_ends {d : Nat} (hd : 3 ≤ d) {hi : mm_HI} {τ : mm_T} {sw : Bool} (hτ : τ.1 = mm_hr sw) {b : Nat → Nat} {N q : Nat} (hT : txM hi b N) (hq : hi 106 15 = nI q) (hqN : q ≤ N) : wI d yX11_ends [.ref 106] hi τ (fun x h => (x = nI 0 ∧ tkn b N (skp b N q) ≠ 3 ∧ h 106 15 = nI (skp b N q) ∧ at15 hi h) ∨ (x = nI 1 ∧ tkn b N (skp b N q) = 3 ∧ h 106 15 = nI (skp b N q + 1) ∧ at15 hi h)) := by
  refine w_intro (by omega) M_X11_ends (Nat.le_of_ble_eq_true rfl) rfl ?_
  intro e X he G
  show X 0 [some (.ref (106))] [] hi τ 125
  have hN150 := hT.2.1
  have hsl := skp_le (b := b) (N := N) hqN
  refine q_aload_n G (pc := 0) dX11_ends_0 rfl ?_
  refine q_cV0V G (pc := 1) dX11_ends_1 cv_X11_92 rfl (m_skip (by omega) hτ hT hq hqN) (Nat.le_of_ble_eq_true rfl) ?_
  intro hk hx
  obtain ⟨x1, x2⟩ := hx
  by_cases hp : skp b N q < N
  · refine q_aload_n G (pc := 4) dX11_ends_4 rfl ?_
    refine q_cV0E G (pc := 5) dX11_ends_5 cv_X11_84 rfl (m_here (by omega) hτ (hT.a x2) x1 hsl.2) (Nat.le_of_ble_eq_true rfl) ?_
    rw [if_pos hp]
    have hb255 := hT.2.2.2 (skp b N q)
    refine q_bipush (v := nI 59) G (pc := 8) dX11_ends_8 (by decide) ?_
    refine q_icmp_eqN (tgt := 15) G (pc := 10) dX11_ends_10 (by decide) (by omega) (by omega) (fun c10 => ?_) (fun c10 => ?_)
    · refine q_aload_n G (pc := 15) dX11_ends_15 rfl ?_
      refine q_dup G (pc := 16) dX11_ends_16 rfl ?_
      refine q_getI (v := nI (skp b N q)) G (pc := 17) dX11_ends_17 fl_X11_81_10 (by decide) rfl x1 ?_
      refine q_iconst (v := nI 1) G (pc := 20) dX11_ends_20 (by decide) ?_
      refine q_iaddN G (pc := 21) dX11_ends_21 ?_
      refine q_putI G (pc := 22) dX11_ends_22 fl_X11_81_10 rfl ?_
      refine q_iconst (v := nI 1) G (pc := 25) dX11_ends_25 (by decide) ?_
      refine q_iret G (pc := 26) dX11_ends_26 (Or.inr ⟨rfl, by decide⟩) ?_
      exact ⟨rfl, _, rfl, Or.inr ⟨rfl, by rw [tkn_of hp]; exact tok3.mpr c10, by simp [va_up], x2.trans at15.up⟩⟩
    · refine q_iconst (v := nI 0) G (pc := 13) dX11_ends_13 (by decide) ?_
      refine q_iret G (pc := 14) dX11_ends_14 (Or.inr ⟨rfl, by decide⟩) ?_
      exact ⟨rfl, _, rfl, Or.inl ⟨rfl, fun z => c10 (tok3.mp (tkn_lt z).2), x1, x2⟩⟩
  · refine q_aload_n G (pc := 4) dX11_ends_4 rfl ?_
    refine q_cV0E G (pc := 5) dX11_ends_5 cv_X11_84 rfl (m_here (by omega) hτ (hT.a x2) x1 hsl.2) (Nat.le_of_ble_eq_true rfl) ?_
    rw [if_neg hp]
    skip
    refine q_bipush (v := nI 59) G (pc := 8) dX11_ends_8 (by decide) ?_
    refine q_icmp_eq (tgt := 15) G (pc := 10) dX11_ends_10 (by decide) (fun c10 => ?_) (fun c10 => ?_)
    · exact absurd c10 (by decide)
    · refine q_iconst (v := nI 0) G (pc := 13) dX11_ends_13 (by decide) ?_
      refine q_iret G (pc := 14) dX11_ends_14 (Or.inr ⟨rfl, by decide⟩) ?_
      exact ⟨rfl, _, rfl, Or.inl ⟨rfl, fun z => hp (tkn_lt z).1, x1, x2⟩⟩
theorem ends_rs {b : Nat → Nat} {N k p : Nat} {P : PG} {hi h : mm_HI} {x : Int32} (hR : rdM hi b N P k p) (h0 : (x = nI 0 ∧ tkn b N (skp b N p) ≠ 3 ∧ h 106 15 = nI (skp b N p) ∧ at15 hi h) ∨ (x = nI 1 ∧ tkn b N (skp b N p) = 3 ∧ h 106 15 = nI (skp b N p + 1) ∧ at15 hi h)) : rsM (stpM b N p P) b N k hi x h := by
  have hs := skp_le (b := b) (N := N) hR.2.1
  rcases h0 with ⟨rfl, a1, a2, a3⟩ | ⟨rfl, a1, a2, a3⟩
  · exact ⟨a3.sc, Or.inl ⟨_, if_neg a1, rfl, a2, hs.2⟩⟩
  · have := (tkn_lt a1).1
    exact ⟨a3.sc, Or.inr ⟨_, _, if_pos a1, rfl, hR.a a3 a2 (by omega)⟩⟩
set_option maxHeartbeats 2000000 in
theorem m_readsLines {d : Nat} (hd : 4 ≤ d) {hi : mm_HI} {τ : mm_T} {sw : Bool} (hτ : τ.1 = mm_hr sw) {b : Nat → Nat} {N p k : Nat} {P : PG} (hT : txM hi b N) (hR : rdM hi b N P k p) (hP0 : pS P = 0) : wI d yX11_readsLines [.ref 106] hi τ (rsM (if okL b N (skp b N p) then stpM b N ((skp b N p) + 1) (b (skp b N p) - 48, pS P, pG P, pW P) else .inl (skp b N p)) b N k hi) := by
  refine w_intro (by omega) M_X11_readsLines (Nat.le_of_ble_eq_true rfl) rfl ?_
  intro e X he G
  show X 0 [some (.ref (106)), none] [] hi τ 125
  have hN150 := hT.2.1
  have hpN := hR.2.1
  obtain ⟨o1, o2, o3, o4, o5, o6⟩ := id hR.2.2.2.2.2.2.2.2
  refine q_aload_n G (pc := 0) dX11_readsLines_0 rfl ?_
  refine q_cV0V G (pc := 1) dX11_readsLines_1 cv_X11_92 rfl (m_skip (by omega) hτ hT hR.1 hpN) (Nat.le_of_ble_eq_true rfl) ?_
  intro hk hx
  obtain ⟨x1, x2⟩ := hx
  have hsl := skp_le (b := b) (N := N) hpN
  have hTk := hT.a x2
  refine q_aload_n G (pc := 4) dX11_readsLines_4 rfl ?_
  refine q_getI (v := nI ((skp b N p))) G (pc := 5) dX11_readsLines_5 fl_X11_81_10 (by decide) rfl x1 ?_
  refine q_iconst (v := nI 1) G (pc := 8) dX11_readsLines_8 (by decide) ?_
  refine q_iaddN G (pc := 9) dX11_readsLines_9 ?_
  refine q_aload_n G (pc := 10) dX11_readsLines_10 rfl ?_
  refine q_getI (v := nI (N)) G (pc := 11) dX11_readsLines_11 fl_X11_78_10 (by decide) rfl hTk.1 ?_
  refine q_icmp_geN (tgt := 42) G (pc := 14) dX11_readsLines_14 (by decide) (by omega) (by omega) (fun c14 => ?_) (fun c14 => ?_)
  · refine q_iconst (v := nI 0) G (pc := 42) dX11_readsLines_42 (by decide) ?_
    refine q_istore_n G (pc := 43) dX11_readsLines_43 (by decide) ?_
    show X _ [_, _] _ _ _ _
    refine q_iload_n G (pc := 44) dX11_readsLines_44 rfl ?_
    refine q_if_neN (tgt := 62) G (pc := 45) dX11_readsLines_45 (by decide) (by omega) (fun c45 => absurd c45 (by decide)) (fun _ => ?_)
    by_cases hp : (skp b N p) < N
    · refine q_aload_n G (pc := 48) dX11_readsLines_48 rfl ?_
      refine q_cV0E G (pc := 49) dX11_readsLines_49 cv_X11_84 rfl (m_here (by omega) hτ hTk x1 hsl.2) (Nat.le_of_ble_eq_true rfl) ?_
      rw [if_pos hp]
      have hb255 := hT.2.2.2 (skp b N p)
      refine q_bipush (v := nI 49) G (pc := 52) dX11_readsLines_52 (by decide) ?_
      refine q_bipush (v := nI 51) G (pc := 54) dX11_readsLines_54 (by decide) ?_
      refine q_cS3B G (pc := 56) dX11_readsLines_56 cs_X11_71 (m_in (by omega)) (Nat.le_of_ble_eq_true rfl) (fun c56 => ?_) (fun c56 => ?_)
      · refine q_if_neN (tgt := 64) G (pc := 59) dX11_readsLines_59 (by decide) (by omega) (fun _ => ?_) (fun c59 => absurd c59 (by decide))
        refine q_aload_n G (pc := 64) dX11_readsLines_64 rfl ?_
        refine q_aload_n G (pc := 65) dX11_readsLines_65 rfl ?_
        refine q_cV0E G (pc := 66) dX11_readsLines_66 cv_X11_84 rfl (m_here (by omega) hτ hTk x1 hsl.2) (Nat.le_of_ble_eq_true rfl) ?_
        rw [if_pos hp]
        refine q_bipush (v := nI 48) G (pc := 69) dX11_readsLines_69 (by decide) ?_
        refine q_isubN G (pc := 71) dX11_readsLines_71 (by have := (nI_leI (by omega) (by omega)).mp c56.1; omega) ?_
        refine q_putI G (pc := 72) dX11_readsLines_72 fl_X11_95_10 rfl ?_
        refine q_aload_n G (pc := 75) dX11_readsLines_75 rfl ?_
        refine q_dup G (pc := 76) dX11_readsLines_76 rfl ?_
        refine q_getI (v := nI ((skp b N p))) G (pc := 77) dX11_readsLines_77 fl_X11_81_10 (by decide) rfl (by simp [va_up]; exact x1) ?_
        refine q_iconst (v := nI 1) G (pc := 80) dX11_readsLines_80 (by decide) ?_
        refine q_iaddN G (pc := 81) dX11_readsLines_81 ?_
        refine q_putI G (pc := 82) dX11_readsLines_82 fl_X11_81_10 rfl ?_
        refine q_aload_n G (pc := 85) dX11_readsLines_85 rfl ?_
        have hok : okL b N (skp b N p) := by
          have h1 := (nI_leI (by omega) (by omega)).mp c56.1
          have h2 := (nI_leI (by omega) (by omega)).mp c56.2
          have ht : tok (b (skp b N p)) = 2 := tok2.mpr ⟨by omega, by omega⟩
          refine ⟨by rw [tkn_of hp]; exact ht, ?_, h1, h2⟩
          unfold tke
          rw [if_pos hp, if_pos (Or.inr ht), ht]
          refine scn_f (fun zz => ?_)
          obtain ⟨z, z2⟩ := zz
          have z2 : tok (b ((skp b N p) + 1)) = 2 := by simpa using z2
          exact absurd z (by omega)
        have hR2 : rdM (mm_up2 (mm_up2 hk 106 16 (nI (b (skp b N p) - 48))) 106 15 (nI ((skp b N p) + 1))) b N (b (skp b N p) - 48, pS P, pG P, pW P) k ((skp b N p) + 1) := by
          obtain ⟨a1, a2, a3, a4, a5, a6, a7, a8, a9⟩ := hR.a x2 x1 hsl.2
          have hz := hok.2.2
          refine ⟨by simp [va_up], by omega, by simp [va_up], by simp [va_up]; exact a4, by simp [va_up]; exact a5, by simp [va_up]; exact a6, fun s hs => by rw [show pS (b (skp b N p) - 48, pS P, pG P, pW P) = 0 from hP0] at hs; omega, by simp [va_up]; exact a8, ⟨by show 1 ≤ b (skp b N p) - 48; omega, by show b (skp b N p) - 48 ≤ 3; omega, o3, o4, o5, o6⟩⟩
        have hs2 : msc hi (mm_up2 (mm_up2 hk 106 16 (nI (b (skp b N p) - 48))) 106 15 (nI ((skp b N p) + 1))) := (x2.sc.trans (msc.fld (by omega) (by omega))).trans (msc.fld (by omega) (by omega))
        refine q_cV0I G (pc := 86) dX11_readsLines_86 cv_X11_98 rfl (m_ends (by omega) hτ (hT.sc hs2) hR2.1 hR2.2.1) (Nat.le_of_ble_eq_true rfl) ?_
        intro xe hk3 hy
        have hz := (ends_rs hR2 hy).pre hs2
        refine q_iret G (pc := 89) dX11_readsLines_89 (Or.inr ⟨rfl, by rcases hz.2 with ⟨_, _, e, _⟩ | ⟨_, _, _, e, _⟩ <;> rw [e] <;> decide⟩) ?_
        exact ⟨rfl, _, rfl, by rw [if_pos hok]; exact hz⟩
      · refine q_if_neN (tgt := 64) G (pc := 59) dX11_readsLines_59 (by decide) (by omega) (fun c59 => absurd c59 (by decide)) (fun _ => ?_)
        refine q_iconst (v := nI 0) G (pc := 62) dX11_readsLines_62 (by decide) ?_
        refine q_iret G (pc := 63) dX11_readsLines_63 (Or.inr ⟨rfl, by decide⟩) ?_
        exact ⟨rfl, _, rfl, x2.sc, Or.inl ⟨_, if_neg (fun z => c56 ⟨nI_le z.2.2.1 (by omega), nI_le z.2.2.2 (by omega)⟩), rfl, x1, hsl.2⟩⟩
    · refine q_aload_n G (pc := 48) dX11_readsLines_48 rfl ?_
      refine q_cV0E G (pc := 49) dX11_readsLines_49 cv_X11_84 rfl (m_here (by omega) hτ hTk x1 hsl.2) (Nat.le_of_ble_eq_true rfl) ?_
      rw [if_neg hp]
      skip
      refine q_bipush (v := nI 49) G (pc := 52) dX11_readsLines_52 (by decide) ?_
      refine q_bipush (v := nI 51) G (pc := 54) dX11_readsLines_54 (by decide) ?_
      refine q_cS3B G (pc := 56) dX11_readsLines_56 cs_X11_71 (m_in (by omega)) (Nat.le_of_ble_eq_true rfl) (fun c56 => ?_) (fun c56 => ?_)
      · exact absurd c56.1 (by decide)
      · refine q_if_neN (tgt := 64) G (pc := 59) dX11_readsLines_59 (by decide) (by omega) (fun c59 => absurd c59 (by decide)) (fun _ => ?_)
        refine q_iconst (v := nI 0) G (pc := 62) dX11_readsLines_62 (by decide) ?_
        refine q_iret G (pc := 63) dX11_readsLines_63 (Or.inr ⟨rfl, by decide⟩) ?_
        exact ⟨rfl, _, rfl, x2.sc, Or.inl ⟨_, if_neg (fun z => hp (tkn_lt z.1).1), rfl, x1, hsl.2⟩⟩
  · refine q_aload_n G (pc := 17) dX11_readsLines_17 rfl ?_
    refine q_getR (x := 113) G (pc := 18) dX11_readsLines_18 fl_X11_32_10 rfl (hg hτ (hf_10_13 rfl)) ?_
    refine q_aload_n G (pc := 21) dX11_readsLines_21 rfl ?_
    refine q_getI (v := nI ((skp b N p))) G (pc := 22) dX11_readsLines_22 fl_X11_81_10 (by decide) rfl x1 ?_
    refine q_iconst (v := nI 1) G (pc := 25) dX11_readsLines_25 (by decide) ?_
    refine q_iaddN G (pc := 26) dX11_readsLines_26 ?_
    refine q_iald (j := (skp b N p) + 1) (v := nI (b ((skp b N p) + 1))) G (pc := 27) dX11_readsLines_27 rfl rfl (by omega) (hTk.2.2.1 _ (by omega)) ?_
    have hb1 := hT.2.2.2 ((skp b N p) + 1)
    refine q_bipush (v := nI 48) G (pc := 28) dX11_readsLines_28 (by decide) ?_
    refine q_bipush (v := nI 57) G (pc := 30) dX11_readsLines_30 (by decide) ?_
    refine q_cS3B G (pc := 32) dX11_readsLines_32 cs_X11_71 (m_in (by omega)) (Nat.le_of_ble_eq_true rfl) (fun c32 => ?_) (fun c32 => ?_)
    · refine q_if_eqN (tgt := 42) G (pc := 35) dX11_readsLines_35 (by decide) (by omega) (fun c35 => absurd c35 (by decide)) (fun _ => ?_)
      refine q_iconst (v := nI 1) G (pc := 38) dX11_readsLines_38 (by decide) ?_
      refine q_goto (tgt := 43) G (pc := 39) dX11_readsLines_39 (by decide) ?_
      refine q_istore_n G (pc := 43) dX11_readsLines_43 (by decide) ?_
      show X _ [_, _] _ _ _ _
      refine q_iload_n G (pc := 44) dX11_readsLines_44 rfl ?_
      refine q_if_neN (tgt := 62) G (pc := 45) dX11_readsLines_45 (by decide) (by omega) (fun _ => ?_) (fun c45 => absurd c45 (by decide))
      refine q_iconst (v := nI 0) G (pc := 62) dX11_readsLines_62 (by decide) ?_
      refine q_iret G (pc := 63) dX11_readsLines_63 (Or.inr ⟨rfl, by decide⟩) ?_
      exact ⟨rfl, _, rfl, x2.sc, Or.inl ⟨_, if_neg (fun z => by
        have hlt := (tkn_lt z.1).1
        have e1 : tke b N (skp b N p) = ren b N 2 ((skp b N p) + 1) := by
          unfold tke
          rw [if_pos hlt, if_pos (Or.inr (tkn_lt z.1).2), (tkn_lt z.1).2]
        have e2 : ren b N 2 ((skp b N p) + 1) = ren b N 2 ((skp b N p) + 1 + 1) := scn_t (by omega) (by simp [tok2.mpr ⟨(nI_leI (by omega) (by omega)).mp c32.1, (nI_leI (by omega) (by omega)).mp c32.2⟩])
        have e3 := ren_le (b := b) (k := 2) (N := N) (p := (skp b N p) + 1 + 1) (by omega)
        have e4 := z.2.1
        rw [e1, e2] at e4
        omega), rfl, x1, hsl.2⟩⟩
    · refine q_if_eqN (tgt := 42) G (pc := 35) dX11_readsLines_35 (by decide) (by omega) (fun _ => ?_) (fun c35 => absurd c35 (by decide))
      refine q_iconst (v := nI 0) G (pc := 42) dX11_readsLines_42 (by decide) ?_
      refine q_istore_n G (pc := 43) dX11_readsLines_43 (by decide) ?_
      show X _ [_, _] _ _ _ _
      refine q_iload_n G (pc := 44) dX11_readsLines_44 rfl ?_
      refine q_if_neN (tgt := 62) G (pc := 45) dX11_readsLines_45 (by decide) (by omega) (fun c45 => absurd c45 (by decide)) (fun _ => ?_)
      by_cases hp : (skp b N p) < N
      · refine q_aload_n G (pc := 48) dX11_readsLines_48 rfl ?_
        refine q_cV0E G (pc := 49) dX11_readsLines_49 cv_X11_84 rfl (m_here (by omega) hτ hTk x1 hsl.2) (Nat.le_of_ble_eq_true rfl) ?_
        rw [if_pos hp]
        have hb255 := hT.2.2.2 (skp b N p)
        refine q_bipush (v := nI 49) G (pc := 52) dX11_readsLines_52 (by decide) ?_
        refine q_bipush (v := nI 51) G (pc := 54) dX11_readsLines_54 (by decide) ?_
        refine q_cS3B G (pc := 56) dX11_readsLines_56 cs_X11_71 (m_in (by omega)) (Nat.le_of_ble_eq_true rfl) (fun c56 => ?_) (fun c56 => ?_)
        · refine q_if_neN (tgt := 64) G (pc := 59) dX11_readsLines_59 (by decide) (by omega) (fun _ => ?_) (fun c59 => absurd c59 (by decide))
          refine q_aload_n G (pc := 64) dX11_readsLines_64 rfl ?_
          refine q_aload_n G (pc := 65) dX11_readsLines_65 rfl ?_
          refine q_cV0E G (pc := 66) dX11_readsLines_66 cv_X11_84 rfl (m_here (by omega) hτ hTk x1 hsl.2) (Nat.le_of_ble_eq_true rfl) ?_
          rw [if_pos hp]
          refine q_bipush (v := nI 48) G (pc := 69) dX11_readsLines_69 (by decide) ?_
          refine q_isubN G (pc := 71) dX11_readsLines_71 (by have := (nI_leI (by omega) (by omega)).mp c56.1; omega) ?_
          refine q_putI G (pc := 72) dX11_readsLines_72 fl_X11_95_10 rfl ?_
          refine q_aload_n G (pc := 75) dX11_readsLines_75 rfl ?_
          refine q_dup G (pc := 76) dX11_readsLines_76 rfl ?_
          refine q_getI (v := nI ((skp b N p))) G (pc := 77) dX11_readsLines_77 fl_X11_81_10 (by decide) rfl (by simp [va_up]; exact x1) ?_
          refine q_iconst (v := nI 1) G (pc := 80) dX11_readsLines_80 (by decide) ?_
          refine q_iaddN G (pc := 81) dX11_readsLines_81 ?_
          refine q_putI G (pc := 82) dX11_readsLines_82 fl_X11_81_10 rfl ?_
          refine q_aload_n G (pc := 85) dX11_readsLines_85 rfl ?_
          have hok : okL b N (skp b N p) := by
            have h1 := (nI_leI (by omega) (by omega)).mp c56.1
            have h2 := (nI_leI (by omega) (by omega)).mp c56.2
            have ht : tok (b (skp b N p)) = 2 := tok2.mpr ⟨by omega, by omega⟩
            refine ⟨by rw [tkn_of hp]; exact ht, ?_, h1, h2⟩
            unfold tke
            rw [if_pos hp, if_pos (Or.inr ht), ht]
            refine scn_f (fun zz => ?_)
            obtain ⟨z, z2⟩ := zz
            have z2 : tok (b ((skp b N p) + 1)) = 2 := by simpa using z2
            exact c32 ⟨nI_le (tok2.mp z2).1 (by omega), nI_le (tok2.mp z2).2 (by omega)⟩
          have hR2 : rdM (mm_up2 (mm_up2 hk 106 16 (nI (b (skp b N p) - 48))) 106 15 (nI ((skp b N p) + 1))) b N (b (skp b N p) - 48, pS P, pG P, pW P) k ((skp b N p) + 1) := by
            obtain ⟨a1, a2, a3, a4, a5, a6, a7, a8, a9⟩ := hR.a x2 x1 hsl.2
            have hz := hok.2.2
            refine ⟨by simp [va_up], by omega, by simp [va_up], by simp [va_up]; exact a4, by simp [va_up]; exact a5, by simp [va_up]; exact a6, fun s hs => by rw [show pS (b (skp b N p) - 48, pS P, pG P, pW P) = 0 from hP0] at hs; omega, by simp [va_up]; exact a8, ⟨by show 1 ≤ b (skp b N p) - 48; omega, by show b (skp b N p) - 48 ≤ 3; omega, o3, o4, o5, o6⟩⟩
          have hs2 : msc hi (mm_up2 (mm_up2 hk 106 16 (nI (b (skp b N p) - 48))) 106 15 (nI ((skp b N p) + 1))) := (x2.sc.trans (msc.fld (by omega) (by omega))).trans (msc.fld (by omega) (by omega))
          refine q_cV0I G (pc := 86) dX11_readsLines_86 cv_X11_98 rfl (m_ends (by omega) hτ (hT.sc hs2) hR2.1 hR2.2.1) (Nat.le_of_ble_eq_true rfl) ?_
          intro xe hk3 hy
          have hz := (ends_rs hR2 hy).pre hs2
          refine q_iret G (pc := 89) dX11_readsLines_89 (Or.inr ⟨rfl, by rcases hz.2 with ⟨_, _, e, _⟩ | ⟨_, _, _, e, _⟩ <;> rw [e] <;> decide⟩) ?_
          exact ⟨rfl, _, rfl, by rw [if_pos hok]; exact hz⟩
        · refine q_if_neN (tgt := 64) G (pc := 59) dX11_readsLines_59 (by decide) (by omega) (fun c59 => absurd c59 (by decide)) (fun _ => ?_)
          refine q_iconst (v := nI 0) G (pc := 62) dX11_readsLines_62 (by decide) ?_
          refine q_iret G (pc := 63) dX11_readsLines_63 (Or.inr ⟨rfl, by decide⟩) ?_
          exact ⟨rfl, _, rfl, x2.sc, Or.inl ⟨_, if_neg (fun z => c56 ⟨nI_le z.2.2.1 (by omega), nI_le z.2.2.2 (by omega)⟩), rfl, x1, hsl.2⟩⟩
      · refine q_aload_n G (pc := 48) dX11_readsLines_48 rfl ?_
        refine q_cV0E G (pc := 49) dX11_readsLines_49 cv_X11_84 rfl (m_here (by omega) hτ hTk x1 hsl.2) (Nat.le_of_ble_eq_true rfl) ?_
        rw [if_neg hp]
        skip
        refine q_bipush (v := nI 49) G (pc := 52) dX11_readsLines_52 (by decide) ?_
        refine q_bipush (v := nI 51) G (pc := 54) dX11_readsLines_54 (by decide) ?_
        refine q_cS3B G (pc := 56) dX11_readsLines_56 cs_X11_71 (m_in (by omega)) (Nat.le_of_ble_eq_true rfl) (fun c56 => ?_) (fun c56 => ?_)
        · exact absurd c56.1 (by decide)
        · refine q_if_neN (tgt := 64) G (pc := 59) dX11_readsLines_59 (by decide) (by omega) (fun c59 => absurd c59 (by decide)) (fun _ => ?_)
          refine q_iconst (v := nI 0) G (pc := 62) dX11_readsLines_62 (by decide) ?_
          refine q_iret G (pc := 63) dX11_readsLines_63 (Or.inr ⟨rfl, by decide⟩) ?_
          exact ⟨rfl, _, rfl, x2.sc, Or.inl ⟨_, if_neg (fun z => hp (tkn_lt z.1).1), rfl, x1, hsl.2⟩⟩
