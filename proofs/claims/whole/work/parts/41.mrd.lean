/-! the model reads -/
def rwA (hi : mm_HI) (P : PG) (rc m : Nat) (g : Nat → Nat) (T : Nat) : Prop := (rc = 110 ∨ rc = 121) ∧ (∀ j, j < m → hi rc j = nI (g j)) ∧ (∀ j, j < m → g j < pS P) ∧ m ≤ 6 ∧ T < 64
theorem rwA.lay {hi : mm_HI} {P : PG} {rc m T : Nat} {g : Nat → Nat} (h : rwA hi P rc m g T) : mm_lay rc = (1, 6) := by rcases h.1 with rfl | rfl <;> rfl
def rA (hi h : mm_HI) : Prop := (∀ c, c ≠ 106 → c ≠ 117 → c ≠ 118 → c ≠ 119 → h c = hi c) ∧ ∀ k, k ≠ 26 → h 106 k = hi 106 k
theorem rA.rf {x : mm_HI} : rA x x := ⟨fun _ _ _ _ _ => rfl, fun _ _ => rfl⟩
theorem rA.trans {x y z : mm_HI} (h : rA x y) (g : rA y z) : rA x z := ⟨fun c h1 h2 h3 h4 => (g.1 c h1 h2 h3 h4).trans (h.1 c h1 h2 h3 h4), fun k hk => (g.2 k hk).trans (h.2 k hk)⟩
theorem rA.sc {x y : mm_HI} (h : rA x y) : msc x y := ⟨fun c hc => h.1 c (by omega) (by omega) (by omega) (by omega), fun k hk => h.2 k (by omega)⟩
theorem rwA.r {x y : mm_HI} {P : PG} {rc m T : Nat} {g : Nat → Nat} (h : rwA x P rc m g T) (hr : rA x y) : rwA y P rc m g T := by
  refine ⟨h.1, fun j hj => ?_, h.2.2⟩
  have := h.1
  rw [hr.1 rc (by omega) (by omega) (by omega) (by omega)]
  exact h.2.1 j hj
def runL (sq : Nat → Nat) (fm n : Nat) : List Nat := (List.range n).map (fun j => sq (fm + j))
theorem runL_len (sq : Nat → Nat) (fm n : Nat) : (runL sq fm n).length = n := by simp [runL]
theorem runL_get {sq : Nat → Nat} {fm n j : Nat} (h : j < n) : (runL sq fm n).getD j 0 = sq (fm + j) := by simp [runL, List.getD_eq_getElem?_getD, h]
theorem run_eq {u : List Nat} {sq : Nat → Nat} {fm n : Nat} : u = runL sq fm n ↔ u.length = n ∧ ∀ k, k < u.length → sq (fm + k) = u.getD k 0 := by
  constructor
  · intro h
    subst h
    rw [runL_len]
    exact ⟨rfl, fun k hk => (runL_get hk).symm⟩
  · rintro ⟨h1, h2⟩
    apply List.ext_getElem
    · rw [runL_len]; exact h1
    · intro k hk1 hk2
      have := h2 k hk1
      rw [List.getD_eq_getElem?_getD, List.getElem?_eq_getElem hk1] at this
      simp [runL]
      exact this.symm
theorem rdS_run {WL : List (List Nat)} {sq : Nat → Nat} : ∀ i, (rdS WL sq i).2.2.2.2 = runL sq (i - (rdS WL sq i).2.2.2.2.length) (rdS WL sq i).2.2.2.2.length
  | 0 => rfl
  | i + 1 => by
    by_cases h : sq i = 26
    · have e : rdS WL sq (i + 1) = endR WL (rdS WL sq i) := if_pos h
      rw [e, endR_nil]
      rfl
    · have e : rdS WL sq (i + 1) = ((rdS WL sq i).1, (rdS WL sq i).2.1, (rdS WL sq i).2.2.1, (rdS WL sq i).2.2.2.1, (rdS WL sq i).2.2.2.2 ++ [sq i]) := if_neg h
      have ih := rdS_run (WL := WL) (sq := sq) i
      have hb := (rdS_bd (WL := WL) (sq := sq) i).2.1
      rw [e]
      show (rdS WL sq i).2.2.2.2 ++ [sq i] = runL sq (i + 1 - ((rdS WL sq i).2.2.2.2 ++ [sq i]).length) ((rdS WL sq i).2.2.2.2 ++ [sq i]).length
      rw [List.length_append, List.length_singleton]
      generalize hn : (rdS WL sq i).2.2.2.2.length = n at ih hb
      rw [ih]
      unfold runL
      rw [List.range_succ, List.map_append]
      rw [show i + 1 - (n + 1) = i - n by omega]
      simp [show i - n + n = i by omega]
def mk2 (a c : Nat → Nat) : Nat → Nat
  | 0 => 0
  | l + 1 => mk2 a c l ||| (if c l = a l then 2 ^ l else 0)
theorem rlM_mk (P : PG) (n : Nat) (f : Nat → Nat) (t : Nat) : ∀ l, mk2 (fun l => (rdA P n f t l).1) (fun l => (rdA P n f t l).2.1) l = rlM P n f t l
  | 0 => rfl
  | l + 1 => by
    unfold mk2 rlM
    rw [rlM_mk P n f t l]
theorem mk2_all (a c : Nat → Nat) (L : Nat) (h1 : 1 ≤ L) (h3 : L ≤ 3) : mk2 a c L = 2 ^ L - 1 ↔ ∀ l, l < L → a l = c l := by
  have hL : L = 1 ∨ L = 2 ∨ L = 3 := by omega
  have key : ∀ L, (∀ l, l < L → a l = c l) ↔ ∀ l, l < L → c l = a l := fun L => ⟨fun h l hl => (h l hl).symm, fun h l hl => (h l hl).symm⟩
  rw [key]
  by_cases e0 : c 0 = a 0 <;> by_cases e1 : c 1 = a 1 <;> by_cases e2 : c 2 = a 2 <;> rcases hL with rfl | rfl | rfl <;> simp [mk2, e0, e1, e2]
  all_goals first
    | (intro l hl; have : l = 0 ∨ l = 1 ∨ l = 2 := by omega
       rcases this with rfl | rfl | rfl <;> first | assumption | omega)
    | exact ⟨0, by omega, e0⟩
    | exact ⟨1, by omega, e1⟩
    | exact ⟨2, by omega, e2⟩
theorem mk2_lt (a c : Nat → Nat) : ∀ l, mk2 a c l < 2 ^ l
  | 0 => by show (0 : Nat) < 1; decide
  | l + 1 => by
    unfold mk2
    refine Nat.or_lt_two_pow (Nat.lt_of_lt_of_le (mk2_lt a c l) (Nat.pow_le_pow_right (by decide) (by omega))) ?_
    split
    · exact Nat.pow_lt_pow_right (by decide) (by omega)
    · exact Nat.two_pow_pos _
theorem pcs_pcn : ∀ L, L < 4 → ∀ M, M < 8 → M < 2 ^ L → pcs M L = pcn M := by decide +kernel
set_option maxHeartbeats 2000000 in
theorem m_signBy {d : Nat} (hd : 2 ≤ d) {hi : mm_HI} {τ : mm_T} {sw : Bool} (hτ : τ.1 = mm_hr sw) {P : PG} (hP : pgM hi P) {s l i T : Nat} (hs : s < pS P) (hl : l < pL P) (hi2 : i < 2) (hT6 : T < 64) : wE d yX11_signBy [.ref 106, .int (nI s), .int (nI l), .int (nI i), .int (nI T)] hi τ (nI (bytN (shw P T s l i))) := by
  refine w_intro (by omega) M_X11_signBy (Nat.le_of_ble_eq_true rfl) rfl ?_
  intro e X he G
  show X 0 [some (.ref (106)), some (.int (nI (s))), some (.int (nI (l))), some (.int (nI (i))), some (.int (nI (T)))] [] hi τ 125
  have hS6 : pS P ≤ 6 := hP.2.2.2.2.2.2.2.1
  have hL3 : pL P ≤ 3 := hP.2.2.2.2.2.2.1
  have hL1 : 1 ≤ pL P := hP.2.2.2.2.2.1
  have hW8 : (pW P).length ≤ 8 := hP.2.2.2.2.2.2.2.2.2.1
  refine q_iload G (pc := 0) dX11_signBy_0 rfl ?_
  refine q_iload_n G (pc := 2) dX11_signBy_2 rfl ?_
  refine q_cS2B G (pc := 3) dX11_signBy_3 cs_X11_142 (m_has (by omega) (by omega) (by omega)) (Nat.le_of_ble_eq_true rfl) (fun c3 => ?_) (fun c3 => ?_)
  · refine q_if_eqN (tgt := 32) G (pc := 6) dX11_signBy_6 (by decide) (by omega) (fun c6 => absurd c6 (by decide)) (fun _ => ?_)
    refine q_aload_n G (pc := 9) dX11_signBy_9 rfl ?_
    refine q_getR (x := 107) G (pc := 10) dX11_signBy_10 fl_X11_13_10 rfl (hg hτ (hf_10_3 rfl)) ?_
    refine q_iload_n G (pc := 13) dX11_signBy_13 rfl ?_
    refine q_aload_n G (pc := 14) dX11_signBy_14 rfl ?_
    refine q_getI (v := nI (pL P)) G (pc := 15) dX11_signBy_15 fl_X11_7_10 (by decide) rfl hP.1 ?_
    refine q_iconst (v := nI 1) G (pc := 18) dX11_signBy_18 (by decide) ?_
    refine q_isubN G (pc := 19) dX11_signBy_19 (by omega) ?_
    refine q_iload_n G (pc := 20) dX11_signBy_20 rfl ?_
    refine q_isubN G (pc := 21) dX11_signBy_21 (by omega) ?_
    refine q_iconst (v := nI 1) G (pc := 22) dX11_signBy_22 (by decide) ?_
    refine q_iload_n G (pc := 23) dX11_signBy_23 rfl ?_
    refine q_isubN G (pc := 24) dX11_signBy_24 (by omega) ?_
    refine q_cS3E G (pc := 25) dX11_signBy_25 cs_X11_108 (m_at (by omega)) (Nat.le_of_ble_eq_true rfl) ?_
    refine q_iald (j := 6 * s + 2 * (pL P - 1 - l) + (1 - i)) (v := nI (bytN (pG P s (pL P - 1 - l) (1 - i)))) G (pc := 28) dX11_signBy_28 rfl rfl (by omega) (hP.2.2.2.1 s hs _ (by omega) _ (by omega)) ?_
    refine q_goto (tgt := 43) G (pc := 29) dX11_signBy_29 (by decide) ?_
    refine q_iret G (pc := 43) dX11_signBy_43 (Or.inl rfl) ?_
    exact ⟨rfl, rfl, by unfold shw shW; rw [if_pos c3]⟩
  · refine q_if_eqN (tgt := 32) G (pc := 6) dX11_signBy_6 (by decide) (by omega) (fun _ => ?_) (fun c6 => absurd c6 (by decide))
    refine q_aload_n G (pc := 32) dX11_signBy_32 rfl ?_
    refine q_getR (x := 107) G (pc := 33) dX11_signBy_33 fl_X11_13_10 rfl (hg hτ (hf_10_3 rfl)) ?_
    refine q_iload_n G (pc := 36) dX11_signBy_36 rfl ?_
    refine q_iload_n G (pc := 37) dX11_signBy_37 rfl ?_
    refine q_iload_n G (pc := 38) dX11_signBy_38 rfl ?_
    refine q_cS3E G (pc := 39) dX11_signBy_39 cs_X11_108 (m_at (by omega)) (Nat.le_of_ble_eq_true rfl) ?_
    refine q_iald (j := 6 * s + 2 * l + i) (v := nI (bytN (pG P s l i))) G (pc := 42) dX11_signBy_42 rfl rfl (by omega) (hP.2.2.2.1 s hs l hl i hi2) ?_
    refine q_iret G (pc := 43) dX11_signBy_43 (Or.inl rfl) ?_
    exact ⟨rfl, rfl, by unfold shw shW; rw [if_neg c3]⟩
set_option maxHeartbeats 2000000 in
theorem m_readBy {d : Nat} (hd : 3 ≤ d) {hi : mm_HI} {τ : mm_T} {sw : Bool} (hτ : τ.1 = mm_hr sw) {P : PG} (hP : pgM hi P) {rc m T l : Nat} {g : Nat → Nat} (hA : rwA hi P rc m g T) (hl : l < pL P) {i : Nat} (hi2 : i < 2 * m) : wE d yX11_readBy [.ref 106, .ref rc, .int (nI l), .int (nI i), .int (nI T)] hi τ (nI (bytN (sqF P g T l i))) := by
  refine w_intro (by omega) M_X11_readBy (Nat.le_of_ble_eq_true rfl) rfl ?_
  intro e X he G
  show X 0 [some (.ref (106)), some (.ref (rc)), some (.int (nI (l))), some (.int (nI (i))), some (.int (nI (T)))] [] hi τ 125
  have hS6 : pS P ≤ 6 := hP.2.2.2.2.2.2.2.1
  have hL3 : pL P ≤ 3 := hP.2.2.2.2.2.2.1
  have hL1 : 1 ≤ pL P := hP.2.2.2.2.2.1
  have hW8 : (pW P).length ≤ 8 := hP.2.2.2.2.2.2.2.2.2.1
  have hm6 := hA.2.2.2.1
  refine q_aload_n G (pc := 0) dX11_readBy_0 rfl ?_
  refine q_aload_n G (pc := 1) dX11_readBy_1 rfl ?_
  refine q_iload_n G (pc := 2) dX11_readBy_2 rfl ?_
  refine q_iconst (v := nI 2) G (pc := 3) dX11_readBy_3 (by decide) ?_
  refine q_idivN G (pc := 4) dX11_readBy_4 (by omega) (by omega) (by omega) ?_
  refine q_iald (j := i / 2) (v := nI (g (i / 2))) G (pc := 5) dX11_readBy_5 hA.lay rfl (by omega) (hA.2.1 _ (by omega)) ?_
  refine q_iload_n G (pc := 6) dX11_readBy_6 rfl ?_
  refine q_iload_n G (pc := 7) dX11_readBy_7 rfl ?_
  refine q_iconst (v := nI 2) G (pc := 8) dX11_readBy_8 (by decide) ?_
  refine q_iremN G (pc := 9) dX11_readBy_9 (by omega) (by omega) (by omega) ?_
  refine q_iload G (pc := 10) dX11_readBy_10 rfl ?_
  refine q_cV4E G (pc := 12) dX11_readBy_12 cv_X11_146 rfl (m_signBy (by omega) hτ hP (hA.2.2.1 _ (by omega)) hl (by omega) hA.2.2.2.2) (Nat.le_of_ble_eq_true rfl) ?_
  refine q_iret G (pc := 15) dX11_readBy_15 (Or.inl rfl) ?_
  exact ⟨rfl, rfl, rfl⟩
set_option maxHeartbeats 2000000 in
theorem m_isSpelled {d : Nat} (hd : 4 ≤ d) {hi : mm_HI} {τ : mm_T} {sw : Bool} (hτ : τ.1 = mm_hr sw) {P : PG} (hP : pgM hi P) {rc m T l : Nat} {g : Nat → Nat} (hA : rwA hi P rc m g T) (hl : l < pL P) {w fm : Nat} (hw : w < (pW P).length) (hf : fm + ((pW P).getD w []).length ≤ 2 * m) : wB d yX11_isSpelled [.ref 106, .int (nI w), .ref rc, .int (nI l), .int (nI fm), .int (nI T)] hi τ (∀ y, y < ((pW P).getD w []).length → sqF P g T l (fm + y) = ((pW P).getD w []).getD y 0) := by
  refine w_intro (by omega) M_X11_isSpelled (Nat.le_of_ble_eq_true rfl) rfl ?_
  intro e X he G
  show X 0 [some (.ref (106)), some (.int (nI (w))), some (.ref (rc)), some (.int (nI (l))), some (.int (nI (fm))), some (.int (nI (T))), none, none] [] hi τ 125
  have hS6 : pS P ≤ 6 := hP.2.2.2.2.2.2.2.1
  have hL3 : pL P ≤ 3 := hP.2.2.2.2.2.2.1
  have hL1 : 1 ≤ pL P := hP.2.2.2.2.2.1
  have hW8 : (pW P).length ≤ 8 := hP.2.2.2.2.2.2.2.2.2.1
  have hm6 := hA.2.2.2.1
  obtain ⟨w1, w2⟩ := hP.2.2.2.2.1 w hw
  have hwl : ((pW P).getD w []).length ≤ 6 ∧ ∀ c ∈ ((pW P).getD w []), c < 26 := ⟨(hP.2.2.2.2.2.2.2.2.2.2 _ (by rw [List.getD_eq_getElem?_getD, List.getElem?_eq_getElem hw]; exact List.getElem_mem _)).2.1, (hP.2.2.2.2.2.2.2.2.2.2 _ (by rw [List.getD_eq_getElem?_getD, List.getElem?_eq_getElem hw]; exact List.getElem_mem _)).2.2⟩
  have hsq : ∀ z, bytN (sqF P g T l z) < 256 := fun z => bytN_lt (shW_le hP.2.2.2.2.2 _ _ _ _)
  refine q_iconst (v := nI 1) G (pc := 0) dX11_isSpelled_0 (by decide) ?_
  refine q_istore G (pc := 1) dX11_isSpelled_1 (by decide) ?_
  show X _ [_, _, _, _, _, _, _, _] _ _ _ _
  refine q_iconst (v := nI 0) G (pc := 3) dX11_isSpelled_3 (by decide) ?_
  refine q_istore G (pc := 4) dX11_isSpelled_4 (by decide) ?_
  show X _ [_, _, _, _, _, _, _, _] _ _ _ _
  have L6 : ∀ (zz : Nat) (k iv : Nat), ((pW P).getD w []).length - k < zz → k ≤ ((pW P).getD w []).length → iv < 2 → (iv = 1 ↔ ∀ y, y < k → sqF P g T l (fm + y) = ((pW P).getD w []).getD y 0) → X 6 [some (.ref (106)), some (.int (nI (w))), some (.ref (rc)), some (.int (nI (l))), some (.int (nI (fm))), some (.int (nI (T))), some (.int (nI (iv))), some (.int (nI (k)))] [] hi τ 125 := by
    intro zz
    induction zz with
    | zero => intro k iv hm; exact absurd hm (Nat.not_lt_zero _)
    | succ zz ih6 =>
      intro k iv hm h0 h1 g2
      refine q_iload G (pc := 6) dX11_isSpelled_6 rfl ?_
      refine q_aload_n G (pc := 8) dX11_isSpelled_8 rfl ?_
      refine q_getR (x := 109) G (pc := 9) dX11_isSpelled_9 fl_X11_20_10 rfl (hg hτ (hf_10_5 rfl)) ?_
      refine q_iload_n G (pc := 12) dX11_isSpelled_12 rfl ?_
      refine q_iald (j := w) (v := nI (((pW P).getD w []).length)) G (pc := 13) dX11_isSpelled_13 rfl rfl (by omega) w1 ?_
      refine q_icmp_geN (tgt := 63) G (pc := 14) dX11_isSpelled_14 (by decide) (by omega) (by omega) (fun c14 => ?_) (fun c14 => ?_)
      · refine q_iload G (pc := 63) dX11_isSpelled_63 rfl ?_
        refine q_iret G (pc := 65) dX11_isSpelled_65 (Or.inr ⟨rfl, by rcases (show iv = 0 ∨ iv = 1 by omega) with rfl | rfl <;> decide⟩) ?_
        rcases (show iv = 0 ∨ iv = 1 by omega) with rfl | rfl
        · exact ⟨rfl, rfl, Or.inr ⟨fun z => absurd (g2.mpr (fun y hy => z y (by omega))) (by decide), rfl⟩⟩
        · exact ⟨rfl, rfl, Or.inl ⟨fun y hy => g2.mp rfl y (by omega), rfl⟩⟩
      · refine q_iload G (pc := 17) dX11_isSpelled_17 rfl ?_
        refine q_if_eqN (tgt := 54) G (pc := 19) dX11_isSpelled_19 (by decide) (by omega) (fun c19 => ?_) (fun c19 => ?_)
        · refine q_iconst (v := nI 0) G (pc := 54) dX11_isSpelled_54 (by decide) ?_
          refine q_istore G (pc := 55) dX11_isSpelled_55 (by decide) ?_
          show X _ [_, _, _, _, _, _, _, _] _ _ _ _
          refine q_iincN G (pc := 57) dX11_isSpelled_57 rfl (inc1 _) (by decide) ?_
          show X _ [_, _, _, _, _, _, _, _] _ _ _ _
          refine q_goto (tgt := 6) G (pc := 60) dX11_isSpelled_60 (by decide) ?_
          refine ih6 (k + 1) 0 (by omega) (by omega) (by omega) ⟨fun z => absurd z (by decide), fun z => ?_⟩
          have := g2.mpr (fun y hy => z y (by omega))
          omega
        · refine q_aload_n G (pc := 22) dX11_isSpelled_22 rfl ?_
          refine q_aload_n G (pc := 23) dX11_isSpelled_23 rfl ?_
          refine q_iload_n G (pc := 24) dX11_isSpelled_24 rfl ?_
          refine q_iload G (pc := 25) dX11_isSpelled_25 rfl ?_
          refine q_iload G (pc := 27) dX11_isSpelled_27 rfl ?_
          refine q_iaddN G (pc := 29) dX11_isSpelled_29 ?_
          refine q_iload G (pc := 30) dX11_isSpelled_30 rfl ?_
          refine q_cV4E G (pc := 32) dX11_isSpelled_32 cv_X11_150 rfl (m_readBy (by omega) hτ hP hA hl (i := fm + k) (by omega)) (Nat.le_of_ble_eq_true rfl) ?_
          have hq1 := hsq (fm + k)
          have hq2 : bytN (((pW P).getD w []).getD k 0) < 256 := bytN_lt (by have := hwl.2 _ (getD_mem (u := ((pW P).getD w [])) (i := k) (by omega)); omega)
          refine q_aload_n G (pc := 35) dX11_isSpelled_35 rfl ?_
          refine q_getR (x := 108) G (pc := 36) dX11_isSpelled_36 fl_X11_17_10 rfl (hg hτ (hf_10_4 rfl)) ?_
          refine q_bipush (v := nI 6) G (pc := 39) dX11_isSpelled_39 (by decide) ?_
          refine q_iload_n G (pc := 41) dX11_isSpelled_41 rfl ?_
          refine q_imulN G (pc := 42) dX11_isSpelled_42 ?_
          refine q_iload G (pc := 43) dX11_isSpelled_43 rfl ?_
          refine q_iaddN G (pc := 45) dX11_isSpelled_45 ?_
          refine q_iald (j := 6 * w + k) (v := nI (bytN (((pW P).getD w []).getD k 0))) G (pc := 46) dX11_isSpelled_46 rfl rfl (by omega) (w2 k (by omega)) ?_
          refine q_icmp_neN (tgt := 54) G (pc := 47) dX11_isSpelled_47 (by decide) (by omega) (by omega) (fun c47 => ?_) (fun c47 => ?_)
          · refine q_iconst (v := nI 0) G (pc := 54) dX11_isSpelled_54 (by decide) ?_
            refine q_istore G (pc := 55) dX11_isSpelled_55 (by decide) ?_
            show X _ [_, _, _, _, _, _, _, _] _ _ _ _
            refine q_iincN G (pc := 57) dX11_isSpelled_57 rfl (inc1 _) (by decide) ?_
            show X _ [_, _, _, _, _, _, _, _] _ _ _ _
            refine q_goto (tgt := 6) G (pc := 60) dX11_isSpelled_60 (by decide) ?_
            exact ih6 (k + 1) 0 (by omega) (by omega) (by omega) ⟨fun z => absurd z (by decide), fun z => absurd (congrArg bytN (z k (by omega))) c47⟩
          · refine q_iconst (v := nI 1) G (pc := 50) dX11_isSpelled_50 (by decide) ?_
            refine q_goto (tgt := 55) G (pc := 51) dX11_isSpelled_51 (by decide) ?_
            refine q_istore G (pc := 55) dX11_isSpelled_55 (by decide) ?_
            show X _ [_, _, _, _, _, _, _, _] _ _ _ _
            refine q_iincN G (pc := 57) dX11_isSpelled_57 rfl (inc1 _) (by decide) ?_
            show X _ [_, _, _, _, _, _, _, _] _ _ _ _
            refine q_goto (tgt := 6) G (pc := 60) dX11_isSpelled_60 (by decide) ?_
            refine ih6 (k + 1) 1 (by omega) (by omega) (by omega) ⟨fun _ y hy => ?_, fun _ => rfl⟩
            by_cases e : y = k
            · subst e; exact bytN_inj c47
            · exact g2.mp (by omega) y (by omega)
  exact L6 _ 0 1 (Nat.lt_succ_self _) (by omega) (by omega) ⟨fun _ y hy => absurd hy (Nat.not_lt_zero _), fun _ => rfl⟩
set_option maxHeartbeats 2000000 in
theorem m_isWord {d : Nat} (hd : 5 ≤ d) {hi : mm_HI} {τ : mm_T} {sw : Bool} (hτ : τ.1 = mm_hr sw) {P : PG} (hP : pgM hi P) {rc m T l : Nat} {g : Nat → Nat} (hA : rwA hi P rc m g T) (hl : l < pL P) {fm n : Nat} (hf : fm + n ≤ 2 * m) : wB d yX11_isWord [.ref 106, .ref rc, .int (nI l), .int (nI fm), .int (nI n), .int (nI T)] hi τ (runL (sqF P g T l) fm n ∈ pW P) := by
  refine w_intro (by omega) M_X11_isWord (Nat.le_of_ble_eq_true rfl) rfl ?_
  intro e X he G
  show X 0 [some (.ref (106)), some (.ref (rc)), some (.int (nI (l))), some (.int (nI (fm))), some (.int (nI (n))), some (.int (nI (T))), none, none] [] hi τ 125
  have hS6 : pS P ≤ 6 := hP.2.2.2.2.2.2.2.1
  have hL3 : pL P ≤ 3 := hP.2.2.2.2.2.2.1
  have hL1 : 1 ≤ pL P := hP.2.2.2.2.2.1
  have hW8 : (pW P).length ≤ 8 := hP.2.2.2.2.2.2.2.2.2.1
  have hm6 := hA.2.2.2.1
  refine q_iconst (v := nI 0) G (pc := 0) dX11_isWord_0 (by decide) ?_
  refine q_istore G (pc := 1) dX11_isWord_1 (by decide) ?_
  show X _ [_, _, _, _, _, _, _, _] _ _ _ _
  refine q_iconst (v := nI 0) G (pc := 3) dX11_isWord_3 (by decide) ?_
  refine q_istore G (pc := 4) dX11_isWord_4 (by decide) ?_
  show X _ [_, _, _, _, _, _, _, _] _ _ _ _
  have L6 : ∀ (zz : Nat) (w iv : Nat), (pW P).length - w < zz → w ≤ (pW P).length → iv < 2 → (iv = 1 ↔ ∃ v, v < w ∧ (pW P).getD v [] = runL (sqF P g T l) fm n) → X 6 [some (.ref (106)), some (.ref (rc)), some (.int (nI (l))), some (.int (nI (fm))), some (.int (nI (n))), some (.int (nI (T))), some (.int (nI (iv))), some (.int (nI (w)))] [] hi τ 125 := by
    intro zz
    induction zz with
    | zero => intro w iv hm; exact absurd hm (Nat.not_lt_zero _)
    | succ zz ih6 =>
      intro w iv hm h0 h1 g2
      refine q_iload G (pc := 6) dX11_isWord_6 rfl ?_
      refine q_aload_n G (pc := 8) dX11_isWord_8 rfl ?_
      refine q_getI (v := nI ((pW P).length)) G (pc := 9) dX11_isWord_9 fl_X11_130_10 (by decide) rfl hP.2.2.1 ?_
      refine q_icmp_geN (tgt := 59) G (pc := 12) dX11_isWord_12 (by decide) (by omega) (by omega) (fun c12 => ?_) (fun c12 => ?_)
      · refine q_iload G (pc := 59) dX11_isWord_59 rfl ?_
        refine q_iret G (pc := 61) dX11_isWord_61 (Or.inr ⟨rfl, by rcases (show iv = 0 ∨ iv = 1 by omega) with rfl | rfl <;> decide⟩) ?_
        have hme : (∃ v, v < w ∧ (pW P).getD v [] = runL (sqF P g T l) fm n) ↔ runL (sqF P g T l) fm n ∈ pW P := by
          constructor
          · rintro ⟨v, hv, e⟩
            rw [← e, List.getD_eq_getElem?_getD, List.getElem?_eq_getElem (by omega)]
            exact List.getElem_mem _
          · intro h
            obtain ⟨v, hv, e⟩ := List.getElem_of_mem h
            exact ⟨v, by omega, by rw [List.getD_eq_getElem?_getD, List.getElem?_eq_getElem hv]; exact e⟩
        rcases (show iv = 0 ∨ iv = 1 by omega) with rfl | rfl
        · exact ⟨rfl, rfl, Or.inr ⟨fun z => absurd (g2.mpr (hme.mpr z)) (by decide), rfl⟩⟩
        · exact ⟨rfl, rfl, Or.inl ⟨hme.mp (g2.mp rfl), rfl⟩⟩
      · refine q_iload G (pc := 15) dX11_isWord_15 rfl ?_
        refine q_if_neN (tgt := 46) G (pc := 17) dX11_isWord_17 (by decide) (by omega) (fun c17 => ?_) (fun c17 => ?_)
        · refine q_iconst (v := nI 1) G (pc := 46) dX11_isWord_46 (by decide) ?_
          refine q_goto (tgt := 51) G (pc := 47) dX11_isWord_47 (by decide) ?_
          refine q_istore G (pc := 51) dX11_isWord_51 (by decide) ?_
          show X _ [_, _, _, _, _, _, _, _] _ _ _ _
          refine q_iincN G (pc := 53) dX11_isWord_53 rfl (inc1 _) (by decide) ?_
          show X _ [_, _, _, _, _, _, _, _] _ _ _ _
          refine q_goto (tgt := 6) G (pc := 56) dX11_isWord_56 (by decide) ?_
          refine ih6 (w + 1) 1 (by omega) (by omega) (by omega) ⟨fun _ => ?_, fun _ => rfl⟩
          obtain ⟨v, hv, e⟩ := g2.mp (by omega)
          exact ⟨v, by omega, e⟩
        · refine q_aload_n G (pc := 20) dX11_isWord_20 rfl ?_
          refine q_getR (x := 109) G (pc := 21) dX11_isWord_21 fl_X11_20_10 rfl (hg hτ (hf_10_5 rfl)) ?_
          refine q_iload G (pc := 24) dX11_isWord_24 rfl ?_
          refine q_iald (j := w) (v := nI (((pW P).getD w []).length)) G (pc := 26) dX11_isWord_26 rfl rfl (by omega) (hP.2.2.2.2.1 w (by omega)).1 ?_
          have hwl : ((pW P).getD w []).length ≤ 6 := (hP.2.2.2.2.2.2.2.2.2.2 _ (by rw [List.getD_eq_getElem?_getD, List.getElem?_eq_getElem (by omega)]; exact List.getElem_mem _)).2.1
          refine q_iload G (pc := 27) dX11_isWord_27 rfl ?_
          refine q_icmp_neN (tgt := 50) G (pc := 29) dX11_isWord_29 (by decide) (by omega) (by omega) (fun c29 => ?_) (fun c29 => ?_)
          · refine q_iconst (v := nI 0) G (pc := 50) dX11_isWord_50 (by decide) ?_
            refine q_istore G (pc := 51) dX11_isWord_51 (by decide) ?_
            show X _ [_, _, _, _, _, _, _, _] _ _ _ _
            refine q_iincN G (pc := 53) dX11_isWord_53 rfl (inc1 _) (by decide) ?_
            show X _ [_, _, _, _, _, _, _, _] _ _ _ _
            refine q_goto (tgt := 6) G (pc := 56) dX11_isWord_56 (by decide) ?_
            refine ih6 (w + 1) 0 (by omega) (by omega) (by omega) ⟨fun z => absurd z (by decide), fun ⟨v, hv, e⟩ => ?_⟩
            by_cases q : v = w
            · subst q
              exact absurd (run_eq.mp e) (fun z => c29 z.1)
            · have := g2.mpr ⟨v, by omega, e⟩
              omega
          · refine q_aload_n G (pc := 32) dX11_isWord_32 rfl ?_
            refine q_iload G (pc := 33) dX11_isWord_33 rfl ?_
            refine q_aload_n G (pc := 35) dX11_isWord_35 rfl ?_
            refine q_iload_n G (pc := 36) dX11_isWord_36 rfl ?_
            refine q_iload_n G (pc := 37) dX11_isWord_37 rfl ?_
            refine q_iload G (pc := 38) dX11_isWord_38 rfl ?_
            refine q_cV5B G (pc := 40) dX11_isWord_40 cv_X11_154 rfl (m_isSpelled (by omega) hτ hP hA hl (w := w) (fm := fm) (by omega) (by omega)) (Nat.le_of_ble_eq_true rfl) (fun c40 => ?_) (fun c40 => ?_)
            · refine q_if_eqN (tgt := 50) G (pc := 43) dX11_isWord_43 (by decide) (by omega) (fun c43 => absurd c43 (by decide)) (fun _ => ?_)
              refine q_iconst (v := nI 1) G (pc := 46) dX11_isWord_46 (by decide) ?_
              refine q_goto (tgt := 51) G (pc := 47) dX11_isWord_47 (by decide) ?_
              refine q_istore G (pc := 51) dX11_isWord_51 (by decide) ?_
              show X _ [_, _, _, _, _, _, _, _] _ _ _ _
              refine q_iincN G (pc := 53) dX11_isWord_53 rfl (inc1 _) (by decide) ?_
              show X _ [_, _, _, _, _, _, _, _] _ _ _ _
              refine q_goto (tgt := 6) G (pc := 56) dX11_isWord_56 (by decide) ?_
              exact ih6 (w + 1) 1 (by omega) (by omega) (by omega) ⟨fun _ => ⟨w, by omega, run_eq.mpr ⟨c29, c40⟩⟩, fun _ => rfl⟩
            · refine q_if_eqN (tgt := 50) G (pc := 43) dX11_isWord_43 (by decide) (by omega) (fun _ => ?_) (fun c43 => absurd c43 (by decide))
              refine q_iconst (v := nI 0) G (pc := 50) dX11_isWord_50 (by decide) ?_
              refine q_istore G (pc := 51) dX11_isWord_51 (by decide) ?_
              show X _ [_, _, _, _, _, _, _, _] _ _ _ _
              refine q_iincN G (pc := 53) dX11_isWord_53 rfl (inc1 _) (by decide) ?_
              show X _ [_, _, _, _, _, _, _, _] _ _ _ _
              refine q_goto (tgt := 6) G (pc := 56) dX11_isWord_56 (by decide) ?_
              refine ih6 (w + 1) 0 (by omega) (by omega) (by omega) ⟨fun z => absurd z (by decide), fun ⟨v, hv, e⟩ => ?_⟩
              by_cases q : v = w
              · subst q
                exact absurd (run_eq.mp e) (fun z => c40 z.2)
              · have := g2.mpr ⟨v, by omega, e⟩
                omega
  exact L6 _ 0 0 (Nat.lt_succ_self _) (by omega) (by omega) ⟨fun z => absurd z (by decide), fun ⟨v, hv, _⟩ => absurd hv (Nat.not_lt_zero _)⟩
