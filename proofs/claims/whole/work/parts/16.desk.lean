/-- a desk: its row, and K rows that may come back -/
def deskF (hi : mm_HI) (dk n : Nat) (f : Nat → Nat) (t K : Nat) (pn : Nat → Nat) (pf : Nat → Nat → Nat) (pt : Nat → Nat) : Prop := rowF hi (dk + 1) n f t ∧ hi dk 1 = nI K ∧ K ≤ 10 ∧ ∀ k, k < K → rowF hi (dk + 3 + 1 + 2 * k) (pn k) (pf k) (pt k)
def frr (a b : Nat) (hi hi2 : mm_HI) : Prop := ∀ c, c < a ∨ b ≤ c → hi2 c = hi c
theorem frr.trans {a b : Nat} {x y z : mm_HI} (h : frr a b x y) (g : frr a b y z) : frr a b x z := fun c hc => (g c hc).trans (h c hc)
theorem frr.rf {a b : Nat} {x : mm_HI} : frr a b x x := fun _ _ => rfl
theorem frr.of {a b : Nat} {S : List Nat} {x y : mm_HI} (h : fr S x y) (hS : ∀ c ∈ S, a ≤ c ∧ c < b) : frr a b x y := fun c hc => h c (fun q => by have := hS c q; omega)
theorem frr.row {a b r : Nat} {x y : mm_HI} (h : fr [r, r + 1] x y) (h1 : a ≤ r) (h2 : r + 2 ≤ b) : frr a b x y := fun c hc => h c (by simp; omega)
theorem rowF.keep {x y : mm_HI} {r n t : Nat} {f : Nat → Nat} (h : rowF x r n f t) (h1 : y r = x r) (h2 : y (r + 1) = x (r + 1)) : rowF y r n f t := by
  obtain ⟨a1, a2, a3, a4, a5, a6⟩ := h
  exact ⟨by rw [h1]; exact a1, by rw [h1]; exact a2, fun j hj => by rw [h2]; exact a3 j hj, a4, a5, a6⟩
theorem rowF.frr {x y : mm_HI} {r n t a b : Nat} {f : Nat → Nat} (h : rowF x r n f t) (hf : frr a b x y) (h1 : r + 2 ≤ a ∨ b ≤ r) : rowF y r n f t := h.keep (hf r (by omega)) (hf (r + 1) (by omega))
theorem rowF.oth {x y : mm_HI} {r q n t : Nat} {f : Nat → Nat} (h : rowF x r n f t) (hf : fr [q, q + 1] x y) (h1 : r + 2 ≤ q ∨ q + 2 ≤ r) : rowF y r n f t := h.keep (hf r (by simp; omega)) (hf (r + 1) (by simp; omega))
theorem rowF.fld {x : mm_HI} {r n t c k : Nat} {f : Nat → Nat} {v : Int32} (h : rowF x r n f t) (h1 : c ≠ r ∧ c ≠ r + 1) : rowF (mm_up2 x c k v) r n f t := h.keep (by simp [va_up, h1.1.symm]) (by simp [va_up, h1.2.symm])
theorem rowF.cong {x : mm_HI} {r n t : Nat} {f g : Nat → Nat} (h : rowF x r n f t) (hg : ∀ j, j < n → g j = f j) : rowF x r n g t := by
  obtain ⟨a1, a2, a3, a4, a5, a6⟩ := h
  exact ⟨a1, a2, fun j hj => by rw [hg j hj]; exact a3 j hj, a4, fun j hj => by rw [hg j hj]; exact a5 j hj, a6⟩
theorem frr.fld {a b c k : Nat} {x : mm_HI} {v : Int32} (h : a ≤ c ∧ c < b) : frr a b x (mm_up2 x c k v) := fun z hz => by
  have : z ≠ c := by omega
  simp [va_up, this]
theorem deskF.frr {x y : mm_HI} {dk n t K a b : Nat} {f : Nat → Nat} {pn : Nat → Nat} {pf : Nat → Nat → Nat} {pt : Nat → Nat} (h : deskF x dk n f t K pn pf pt) (hf : frr a b x y) (h1 : dk + 24 ≤ a ∨ b ≤ dk) : deskF y dk n f t K pn pf pt := by
  obtain ⟨a1, a2, a3, a4⟩ := h
  exact ⟨a1.frr hf (by omega), by rw [hf dk (by omega)]; exact a2, a3, fun k hk => (a4 k hk).frr hf (by omega)⟩
theorem rowF_fresh {x : mm_HI} {r : Nat} {v w : Nat} : rowF (mm_up2 (mm_up2 x r 1 (nI 0)) r 2 (nI 0)) r 0 (fun j => j) 0 := ⟨by simp [va_up], by simp [va_up], fun j hj => absurd hj (Nat.not_lt_zero _), by omega, fun j hj => absurd hj (Nat.not_lt_zero _), by omega⟩
set_option maxHeartbeats 2000000 in
theorem s_X1_layAll {d : Nat} (hd : 2 ≤ d) {hi : mm_HI} {τ : mm_T} {sw : Bool} (hτ : τ.1 = mm_hr sw) {dk z : Nat} (hdk : mm_lay dk = (0, 1)) (hz : z ≤ 6) : wV d yX1_layAll [.ref dk, .int (nI z)] hi τ (fun hi2 => deskF hi2 dk z (fun j => j) 0 0 (fun _ => 0) (fun _ _ => 0) (fun _ => 0) ∧ frr dk (dk + 24) hi hi2) := by
  refine w_intro (by omega) M_X1_layAll (Nat.le_of_ble_eq_true rfl) rfl ?_
  intro e X he G
  show X 0 [some (.ref (dk)), some (.int (nI (z))), none] [] hi τ 125
  refine q_aload_n G (pc := 0) dX1_layAll_0 rfl ?_
  refine q_getR (x := dk + 1) G (pc := 1) dX1_layAll_1 fl_X1_12_1 hdk (hg hτ (hf_1_0 hdk)) ?_
  refine q_iconst (v := nI 0) G (pc := 4) dX1_layAll_4 (by decide) ?_
  refine q_putI G (pc := 5) dX1_layAll_5 fl_X1_22_6 (ly_1_0 hdk) ?_
  refine q_aload_n G (pc := 8) dX1_layAll_8 rfl ?_
  refine q_getR (x := dk + 1) G (pc := 9) dX1_layAll_9 fl_X1_12_1 hdk (hg hτ (hf_1_0 hdk)) ?_
  refine q_iconst (v := nI 0) G (pc := 12) dX1_layAll_12 (by decide) ?_
  refine q_putI G (pc := 13) dX1_layAll_13 fl_X1_26_6 (ly_1_0 hdk) ?_
  refine q_iconst (v := nI 0) G (pc := 16) dX1_layAll_16 (by decide) ?_
  refine q_istore_n G (pc := 17) dX1_layAll_17 (by decide) ?_
  show X _ [_, _, _] _ _ _ _
  have L18 : ∀ (m : Nat) (i : Nat) (hk : mm_HI), z - i < m → i ≤ z → rowF hk (dk + 1) i (fun j => j) 0 → frr dk (dk + 24) hi hk → X 18 [some (.ref (dk)), some (.int (nI (z))), some (.int (nI (i)))] [] hk τ 125 := by
    intro m
    induction m with
    | zero => intro i hk hm; exact absurd hm (Nat.not_lt_zero _)
    | succ m ih18 =>
      intro i hk hm h0 g1 g2
      refine q_iload_n G (pc := 18) dX1_layAll_18 rfl ?_
      refine q_iload_n G (pc := 19) dX1_layAll_19 rfl ?_
      refine q_icmp_geN (tgt := 37) G (pc := 20) dX1_layAll_20 (by decide) (by omega) (by omega) (fun c20 => ?_) (fun c20 => ?_)
      · refine q_aload_n G (pc := 37) dX1_layAll_37 rfl ?_
        refine q_iconst (v := nI 0) G (pc := 38) dX1_layAll_38 (by decide) ?_
        refine q_putI G (pc := 39) dX1_layAll_39 fl_X1_33_1 hdk ?_
        refine q_vret G (pc := 42) dX1_layAll_42 rfl ?_
        refine ⟨rfl, rfl, ⟨?_, by simp [va_up], by omega, fun k hk => absurd hk (Nat.not_lt_zero _)⟩, fun c hc => ?_⟩
        · rw [show z = i by omega]
          exact rowF.fld (g1.cong (fun _ _ => rfl)) (by omega)
        · have h1 := g2 c (by omega)
          simp [va_up, show c ≠ dk by omega, h1]
      · refine q_aload_n G (pc := 23) dX1_layAll_23 rfl ?_
        refine q_getR (x := dk + 1) G (pc := 24) dX1_layAll_24 fl_X1_12_1 hdk (hg hτ (hf_1_0 hdk)) ?_
        refine q_iload_n G (pc := 27) dX1_layAll_27 rfl ?_
        refine q_cV1V G (pc := 28) dX1_layAll_28 cv_X1_29 (ly_1_0 hdk) (s_X6_append (by omega) hτ (ly_1_0 hdk) g1 (s := i) (by omega) (by omega)) (Nat.le_of_ble_eq_true rfl) ?_
        intro hk2 hx
        refine q_iincN G (pc := 31) dX1_layAll_31 rfl (inc1 _) (by decide) ?_
        show X _ [_, _, _] _ _ _ _
        refine q_goto (tgt := 18) G (pc := 34) dX1_layAll_34 (by decide) ?_
        exact ih18 (i + 1) hk2 (by omega) (by omega) (hx.1.cong (fun j hj => by by_cases h : j = i <;> simp [va_up, h])) (g2.trans (frr.row hx.2 (by omega) (by omega)))
  exact L18 _ 0 _ (Nat.lt_succ_self _) (by omega) (rowF_fresh (v := 0) (w := 0)) ((frr.fld (by omega)).trans (frr.fld (by omega)))
set_option maxHeartbeats 2000000 in
theorem s_X1_loseOldest {d : Nat} (hd : 2 ≤ d) {hi : mm_HI} {τ : mm_T} {sw : Bool} (hτ : τ.1 = mm_hr sw) {dk n6 t6 K : Nat} {f6 : Nat → Nat} {pn : Nat → Nat} {pf : Nat → Nat → Nat} {pt : Nat → Nat} (hdk : mm_lay dk = (0, 1)) (hF : deskF hi dk n6 f6 t6 K pn pf pt) (hK : K = 10) : wV d yX1_loseOldest [.ref dk] hi τ (fun hi2 => deskF hi2 dk n6 f6 t6 9 (fun k => pn (k + 1)) (fun k => pf (k + 1)) (fun k => pt (k + 1)) ∧ frr dk (dk + 24) hi hi2) := by
  refine w_intro (by omega) M_X1_loseOldest (Nat.le_of_ble_eq_true rfl) rfl ?_
  intro e X he G
  show X 0 [some (.ref (dk)), none] [] hi τ 125
  obtain ⟨f1, f2, f3, f4⟩ := id hF
  subst hK
  refine q_iconst (v := nI 1) G (pc := 0) dX1_loseOldest_0 (by decide) ?_
  refine q_istore_n G (pc := 1) dX1_loseOldest_1 (by decide) ?_
  show X _ [_, _] _ _ _ _
  have L2 : ∀ (m : Nat) (k : Nat) (hk : mm_HI), 10 - k < m → 1 ≤ k ∧ k ≤ 10 → rowF hk (dk + 1) n6 f6 t6 → (∀ j, j < 10 → rowF hk (dk + 3 + 1 + 2 * j) (pn (if j + 1 < k then j + 1 else j)) (pf (if j + 1 < k then j + 1 else j)) (pt (if j + 1 < k then j + 1 else j))) → frr dk (dk + 24) hi hk → X 2 [some (.ref (dk)), some (.int (nI (k)))] [] hk τ 125 := by
    intro m
    induction m with
    | zero => intro k hk hm; exact absurd hm (Nat.not_lt_zero _)
    | succ m ih2 =>
      intro k hk hm h0 g1 g2 g3
      refine q_iload_n G (pc := 2) dX1_loseOldest_2 rfl ?_
      refine q_bipush (v := nI 10) G (pc := 3) dX1_loseOldest_3 (by decide) ?_
      refine q_icmp_geN (tgt := 31) G (pc := 5) dX1_loseOldest_5 (by decide) (by omega) (by omega) (fun c5 => ?_) (fun c5 => ?_)
      · refine q_aload_n G (pc := 31) dX1_loseOldest_31 rfl ?_
        refine q_bipush (v := nI 9) G (pc := 32) dX1_loseOldest_32 (by decide) ?_
        refine q_putI G (pc := 34) dX1_loseOldest_34 fl_X1_33_1 hdk ?_
        refine q_vret G (pc := 37) dX1_loseOldest_37 rfl ?_
        refine ⟨rfl, rfl, ⟨g1.fld (by omega), by simp [va_up], by omega, fun j hj => ?_⟩, fun c hc => ?_⟩
        · have h1 := g2 j (by omega)
          rw [show (if j + 1 < k then j + 1 else j) = j + 1 by rw [if_pos (by omega)]] at h1
          exact h1.fld (by omega)
        · have h1 := g3 c (by omega)
          simp [va_up, show c ≠ dk by omega, h1]
      · refine q_aload_n G (pc := 8) dX1_loseOldest_8 rfl ?_
        refine q_getR (x := dk + 3) G (pc := 9) dX1_loseOldest_9 fl_X1_18_1 hdk (hg hτ (hf_1_2 hdk)) ?_
        refine q_iload_n G (pc := 12) dX1_loseOldest_12 rfl ?_
        refine q_iconst (v := nI 1) G (pc := 13) dX1_loseOldest_13 (by decide) ?_
        refine q_isubN G (pc := 14) dX1_loseOldest_14 (by omega) ?_
        refine q_aald (j := k - 1) (x := dk + 3 + 1 + 2 * (k - 1)) G (pc := 15) dX1_loseOldest_15 (ly_1_2 hdk) rfl (by omega) (by decide) (hg hτ (hf_past (ly_1_2 hdk) (by omega))) ?_
        refine q_aload_n G (pc := 16) dX1_loseOldest_16 rfl ?_
        refine q_getR (x := dk + 3) G (pc := 17) dX1_loseOldest_17 fl_X1_18_1 hdk (hg hτ (hf_1_2 hdk)) ?_
        refine q_iload_n G (pc := 20) dX1_loseOldest_20 rfl ?_
        refine q_aald (j := k) (x := dk + 3 + 1 + 2 * k) G (pc := 21) dX1_loseOldest_21 (ly_1_2 hdk) rfl (by omega) (by decide) (hg hτ (hf_past (ly_1_2 hdk) (by omega))) ?_
        refine q_cV1V G (pc := 22) dX1_loseOldest_22 cv_X1_39 (ly_past (ly_1_2 hdk) (by omega)) (s_X6_copy (by omega) hτ (ly_past (ly_1_2 hdk) (by omega)) (ly_past (ly_1_2 hdk) (by omega)) (by omega) (g2 k (by omega))) (Nat.le_of_ble_eq_true rfl) ?_
        intro hk2 hx
        refine q_iincN G (pc := 25) dX1_loseOldest_25 rfl (inc1 _) (by decide) ?_
        show X _ [_, _] _ _ _ _
        refine q_goto (tgt := 2) G (pc := 28) dX1_loseOldest_28 (by decide) ?_
        refine ih2 (k + 1) hk2 (by omega) (by omega) (g1.oth hx.2 (by omega)) (fun j hj => ?_) (g3.trans (frr.row hx.2 (by omega) (by omega)))
        by_cases h : j = k - 1
        · subst h
          have h1 := hx.1
          rw [if_neg (by omega)] at h1
          rw [if_pos (by omega), show k - 1 + 1 = k by omega]
          exact h1
        · have h1 := (g2 j hj).oth hx.2 (by omega)
          by_cases h3 : j + 1 < k
          · rw [if_pos h3] at h1; rw [if_pos (by omega)]; exact h1
          · rw [if_neg h3] at h1; rw [if_neg (by omega)]; exact h1
  exact L2 _ 1 hi (Nat.lt_succ_self _) (by omega) f1 (fun j hj => by rw [if_neg (by omega)]; exact f4 j (by omega)) frr.rf
/-- what may come back, one more -/
def pu (K : Nat) {α : Type} (p : Nat → α) (x : α) : Nat → α := fun k => if K < 10 then (if k = K then x else p k) else (if k = 9 then x else p (k + 1))
set_option maxHeartbeats 2000000 in
theorem s_X1_remember {d : Nat} (hd : 3 ≤ d) {hi : mm_HI} {τ : mm_T} {sw : Bool} (hτ : τ.1 = mm_hr sw) {dk n6 t6 K : Nat} {f6 : Nat → Nat} {pn : Nat → Nat} {pf : Nat → Nat → Nat} {pt : Nat → Nat} (hdk : mm_lay dk = (0, 1)) (hF : deskF hi dk n6 f6 t6 K pn pf pt) : wV d yX1_remember [.ref dk] hi τ (fun hi2 => deskF hi2 dk n6 f6 t6 (if K < 10 then K + 1 else 10) (pu K pn n6) (pu K pf f6) (pu K pt t6) ∧ frr dk (dk + 24) hi hi2) := by
  refine w_intro (by omega) M_X1_remember (Nat.le_of_ble_eq_true rfl) rfl ?_
  intro e X he G
  show X 0 [some (.ref (dk))] [] hi τ 125
  obtain ⟨f1, f2, f3, f4⟩ := id hF
  refine q_aload_n G (pc := 0) dX1_remember_0 rfl ?_
  refine q_getI (v := nI (K)) G (pc := 1) dX1_remember_1 fl_X1_33_1 (by decide) hdk f2 ?_
  refine q_bipush (v := nI 10) G (pc := 4) dX1_remember_4 (by decide) ?_
  refine q_icmp_ltN (tgt := 13) G (pc := 6) dX1_remember_6 (by decide) (by omega) (by omega) (fun c6 => ?_) (fun c6 => ?_)
  · refine q_aload_n G (pc := 13) dX1_remember_13 rfl ?_
    refine q_getR (x := dk + 3) G (pc := 14) dX1_remember_14 fl_X1_18_1 hdk (hg hτ (hf_1_2 hdk)) ?_
    refine q_aload_n G (pc := 17) dX1_remember_17 rfl ?_
    refine q_getI (v := nI (K)) G (pc := 18) dX1_remember_18 fl_X1_33_1 (by decide) hdk f2 ?_
    refine q_aald (j := K) (x := dk + 3 + 1 + 2 * K) G (pc := 21) dX1_remember_21 (ly_1_2 hdk) rfl (by omega) (by decide) (hg hτ (hf_past (ly_1_2 hdk) (by omega))) ?_
    refine q_aload_n G (pc := 22) dX1_remember_22 rfl ?_
    refine q_getR (x := dk + 1) G (pc := 23) dX1_remember_23 fl_X1_12_1 hdk (hg hτ (hf_1_0 hdk)) ?_
    refine q_cV1V G (pc := 26) dX1_remember_26 cv_X1_39 (ly_past (ly_1_2 hdk) (by omega)) (s_X6_copy (by omega) hτ (ly_past (ly_1_2 hdk) (by omega)) (ly_1_0 hdk) (by omega) f1) (Nat.le_of_ble_eq_true rfl) ?_
    intro hk2 hx
    obtain ⟨hx1, hx2⟩ := hx
    refine q_aload_n G (pc := 29) dX1_remember_29 rfl ?_
    refine q_dup G (pc := 30) dX1_remember_30 rfl ?_
    refine q_getI (v := nI (K)) G (pc := 31) dX1_remember_31 fl_X1_33_1 (by decide) hdk (by rw [hx2 dk (by simp; omega)]; exact f2) ?_
    refine q_iconst (v := nI 1) G (pc := 34) dX1_remember_34 (by decide) ?_
    refine q_iaddN G (pc := 35) dX1_remember_35 ?_
    refine q_putI G (pc := 36) dX1_remember_36 fl_X1_33_1 hdk ?_
    refine q_vret G (pc := 39) dX1_remember_39 rfl ?_
    refine ⟨rfl, rfl, ⟨?_, ?_, by split <;> omega, fun k hk => ?_⟩, fun c hc => ?_⟩
    · exact (f1.oth hx2 (by omega)).fld (by omega)
    · rw [if_pos c6]; simp [va_up]
    · unfold pu
      rw [if_pos c6] at hk
      rw [if_pos c6, if_pos c6, if_pos c6]
      by_cases h : k = K
      · subst h; simp only [if_true]; exact hx1.fld (by omega)
      · simp only [if_neg h]; exact ((f4 k (by omega)).oth hx2 (by omega)).fld (by omega)
    · have e1 := hx2 c (by simp; omega)
      simp [va_up, show c ≠ dk by omega, e1]
  · have hK : K = 10 := by omega
    refine q_aload_n G (pc := 9) dX1_remember_9 rfl ?_
    refine q_cV0V G (pc := 10) dX1_remember_10 cv_X1_36 hdk (s_X1_loseOldest (by omega) hτ hdk hF hK) (Nat.le_of_ble_eq_true rfl) ?_
    intro hi1 hx
    obtain ⟨⟨h1, h2, h3, h4⟩, h5⟩ := hx
    refine q_aload_n G (pc := 13) dX1_remember_13 rfl ?_
    refine q_getR (x := dk + 3) G (pc := 14) dX1_remember_14 fl_X1_18_1 hdk (hg hτ (hf_1_2 hdk)) ?_
    refine q_aload_n G (pc := 17) dX1_remember_17 rfl ?_
    refine q_getI (v := nI (9)) G (pc := 18) dX1_remember_18 fl_X1_33_1 (by decide) hdk h2 ?_
    refine q_aald (j := 9) (x := dk + 3 + 1 + 2 * 9) G (pc := 21) dX1_remember_21 (ly_1_2 hdk) rfl (by omega) (by decide) (hg hτ (hf_past (ly_1_2 hdk) (by omega))) ?_
    refine q_aload_n G (pc := 22) dX1_remember_22 rfl ?_
    refine q_getR (x := dk + 1) G (pc := 23) dX1_remember_23 fl_X1_12_1 hdk (hg hτ (hf_1_0 hdk)) ?_
    refine q_cV1V G (pc := 26) dX1_remember_26 cv_X1_39 (ly_past (ly_1_2 hdk) (by omega)) (s_X6_copy (by omega) hτ (ly_past (ly_1_2 hdk) (by omega)) (ly_1_0 hdk) (by omega) h1) (Nat.le_of_ble_eq_true rfl) ?_
    intro hk2 hx
    obtain ⟨hx1, hx2⟩ := hx
    refine q_aload_n G (pc := 29) dX1_remember_29 rfl ?_
    refine q_dup G (pc := 30) dX1_remember_30 rfl ?_
    refine q_getI (v := nI (9)) G (pc := 31) dX1_remember_31 fl_X1_33_1 (by decide) hdk (by rw [hx2 dk (by simp; omega)]; exact h2) ?_
    refine q_iconst (v := nI 1) G (pc := 34) dX1_remember_34 (by decide) ?_
    refine q_iaddN G (pc := 35) dX1_remember_35 ?_
    refine q_putI G (pc := 36) dX1_remember_36 fl_X1_33_1 hdk ?_
    refine q_vret G (pc := 39) dX1_remember_39 rfl ?_
    have hK9 : ¬ K < 10 := by omega
    refine ⟨rfl, rfl, ⟨?_, ?_, by split <;> omega, fun k hk => ?_⟩, fun c hc => ?_⟩
    · exact (h1.oth hx2 (by omega)).fld (by omega)
    · rw [if_neg hK9]; simp [va_up]
    · unfold pu
      rw [if_neg hK9] at hk
      rw [if_neg hK9, if_neg hK9, if_neg hK9]
      by_cases h : k = 9
      · subst h; simp only [if_true]; exact hx1.fld (by omega)
      · simp only [if_neg h]; exact ((h4 k (by omega)).oth hx2 (by omega)).fld (by omega)
    · have e1 := hx2 c (by simp; omega)
      have e2 := h5 c (by omega)
      simp [va_up, show c ≠ dk by omega, e1, e2]
set_option maxHeartbeats 2000000 in
theorem s_X1_goBack {d : Nat} (hd : 2 ≤ d) {hi : mm_HI} {τ : mm_T} {sw : Bool} (hτ : τ.1 = mm_hr sw) {dk n6 t6 K : Nat} {f6 : Nat → Nat} {pn : Nat → Nat} {pf : Nat → Nat → Nat} {pt : Nat → Nat} (hdk : mm_lay dk = (0, 1)) (hF : deskF hi dk n6 f6 t6 K pn pf pt) : wI d yX1_goBack [.ref dk] hi τ (fun x hi2 => (x = nI 0 ∧ K = 0 ∧ hi2 = hi) ∨ (x = nI 1 ∧ 0 < K ∧ deskF hi2 dk (pn (K - 1)) (pf (K - 1)) (pt (K - 1)) (K - 1) pn pf pt ∧ frr dk (dk + 24) hi hi2)) := by
  refine w_intro (by omega) M_X1_goBack (Nat.le_of_ble_eq_true rfl) rfl ?_
  intro e X he G
  show X 0 [some (.ref (dk))] [] hi τ 125
  obtain ⟨f1, f2, f3, f4⟩ := id hF
  refine q_aload_n G (pc := 0) dX1_goBack_0 rfl ?_
  refine q_getI (v := nI (K)) G (pc := 1) dX1_goBack_1 fl_X1_33_1 (by decide) hdk f2 ?_
  refine q_if_gtN (tgt := 9) G (pc := 4) dX1_goBack_4 (by decide) (by omega) (fun c4 => ?_) (fun c4 => ?_)
  · refine q_aload_n G (pc := 9) dX1_goBack_9 rfl ?_
    refine q_dup G (pc := 10) dX1_goBack_10 rfl ?_
    refine q_getI (v := nI (K)) G (pc := 11) dX1_goBack_11 fl_X1_33_1 (by decide) hdk f2 ?_
    refine q_iconst (v := nI 1) G (pc := 14) dX1_goBack_14 (by decide) ?_
    refine q_isubN G (pc := 15) dX1_goBack_15 (by omega) ?_
    refine q_putI G (pc := 16) dX1_goBack_16 fl_X1_33_1 hdk ?_
    refine q_aload_n G (pc := 19) dX1_goBack_19 rfl ?_
    refine q_getR (x := dk + 1) G (pc := 20) dX1_goBack_20 fl_X1_12_1 hdk (hg hτ (hf_1_0 hdk)) ?_
    refine q_aload_n G (pc := 23) dX1_goBack_23 rfl ?_
    refine q_getR (x := dk + 3) G (pc := 24) dX1_goBack_24 fl_X1_18_1 hdk (hg hτ (hf_1_2 hdk)) ?_
    refine q_aload_n G (pc := 27) dX1_goBack_27 rfl ?_
    refine q_getI (v := nI (K - 1)) G (pc := 28) dX1_goBack_28 fl_X1_33_1 (by decide) hdk (by simp [va_up]) ?_
    refine q_aald (j := K - 1) (x := dk + 3 + 1 + 2 * (K - 1)) G (pc := 31) dX1_goBack_31 (ly_1_2 hdk) rfl (by omega) (by decide) (hg hτ (hf_past (ly_1_2 hdk) (by omega))) ?_
    refine q_cV1V G (pc := 32) dX1_goBack_32 cv_X1_39 (ly_1_0 hdk) (s_X6_copy (by omega) hτ (ly_1_0 hdk) (ly_past (ly_1_2 hdk) (by omega)) (by omega) ((f4 (K - 1) (by omega)).fld (by omega))) (Nat.le_of_ble_eq_true rfl) ?_
    intro hk2 hx
    obtain ⟨hx1, hx2⟩ := hx
    refine q_iconst (v := nI 1) G (pc := 35) dX1_goBack_35 (by decide) ?_
    refine q_iret G (pc := 36) dX1_goBack_36 (Or.inr ⟨rfl, by decide⟩) ?_
    refine ⟨rfl, _, rfl, Or.inr ⟨rfl, c4, ⟨hx1, ?_, by omega, fun k hk => ?_⟩, fun c hc => ?_⟩⟩
    · rw [hx2 dk (by simp; omega)]; simp [va_up]
    · exact ((f4 k (by omega)).fld (by omega)).oth hx2 (by omega)
    · have e1 := hx2 c (by simp; omega)
      rw [e1]; simp [va_up, show c ≠ dk by omega]
  · refine q_iconst (v := nI 0) G (pc := 7) dX1_goBack_7 (by decide) ?_
    refine q_iret G (pc := 8) dX1_goBack_8 (Or.inr ⟨rfl, by decide⟩) ?_
    exact ⟨rfl, _, rfl, Or.inl ⟨rfl, c4, rfl⟩⟩
set_option maxHeartbeats 2000000 in
theorem s_X1_copy {d : Nat} (hd : 2 ≤ d) {hi : mm_HI} {τ : mm_T} {sw : Bool} (hτ : τ.1 = mm_hr sw) {dk q n6 t6 K : Nat} {f6 : Nat → Nat} {pn : Nat → Nat} {pf : Nat → Nat → Nat} {pt : Nat → Nat} (hdk : mm_lay dk = (0, 1)) (hq : mm_lay q = (0, 1)) (hne : dk + 24 ≤ q ∨ q + 24 ≤ dk) (hF : deskF hi q n6 f6 t6 K pn pf pt) : wV d yX1_copy [.ref dk, .ref q] hi τ (fun hi2 => deskF hi2 dk n6 f6 t6 K pn pf pt ∧ frr dk (dk + 24) hi hi2) := by
  refine w_intro (by omega) M_X1_copy (Nat.le_of_ble_eq_true rfl) rfl ?_
  intro e X he G
  show X 0 [some (.ref (dk)), some (.ref (q)), none] [] hi τ 125
  obtain ⟨f1, f2, f3, f4⟩ := id hF
  refine q_aload_n G (pc := 0) dX1_copy_0 rfl ?_
  refine q_getR (x := dk + 1) G (pc := 1) dX1_copy_1 fl_X1_12_1 hdk (hg hτ (hf_1_0 hdk)) ?_
  refine q_aload_n G (pc := 4) dX1_copy_4 rfl ?_
  refine q_getR (x := q + 1) G (pc := 5) dX1_copy_5 fl_X1_12_1 hq (hg hτ (hf_1_0 hq)) ?_
  refine q_cV1V G (pc := 8) dX1_copy_8 cv_X1_39 (ly_1_0 hdk) (s_X6_copy (by omega) hτ (ly_1_0 hdk) (ly_1_0 hq) (by omega) f1) (Nat.le_of_ble_eq_true rfl) ?_
  intro hk2 hx
  obtain ⟨hx1, hx2⟩ := hx
  refine q_aload_n G (pc := 11) dX1_copy_11 rfl ?_
  refine q_aload_n G (pc := 12) dX1_copy_12 rfl ?_
  refine q_getI (v := nI (K)) G (pc := 13) dX1_copy_13 fl_X1_33_1 (by decide) hq (by rw [hx2 q (by simp; omega)]; exact f2) ?_
  refine q_putI G (pc := 16) dX1_copy_16 fl_X1_33_1 hdk ?_
  refine q_iconst (v := nI 0) G (pc := 19) dX1_copy_19 (by decide) ?_
  refine q_istore_n G (pc := 20) dX1_copy_20 (by decide) ?_
  show X _ [_, _, _] _ _ _ _
  have L21 : ∀ (m : Nat) (k : Nat) (hk : mm_HI), K - k < m → k ≤ K → hk dk 1 = nI K → rowF hk (dk + 1) n6 f6 t6 → (∀ j, j < k → rowF hk (dk + 3 + 1 + 2 * j) (pn j) (pf j) (pt j)) → frr dk (dk + 24) hi hk → X 21 [some (.ref (dk)), some (.ref (q)), some (.int (nI (k)))] [] hk τ 125 := by
    intro m
    induction m with
    | zero => intro k hk hm; exact absurd hm (Nat.not_lt_zero _)
    | succ m ih21 =>
      intro k hk hm h0 g1 g2 g3 g4
      refine q_iload_n G (pc := 21) dX1_copy_21 rfl ?_
      refine q_aload_n G (pc := 22) dX1_copy_22 rfl ?_
      refine q_getI (v := nI (K)) G (pc := 23) dX1_copy_23 fl_X1_33_1 (by decide) hdk g1 ?_
      refine q_icmp_geN (tgt := 50) G (pc := 26) dX1_copy_26 (by decide) (by omega) (by omega) (fun c26 => ?_) (fun c26 => ?_)
      · refine q_vret G (pc := 50) dX1_copy_50 rfl ?_
        exact ⟨rfl, rfl, ⟨g2, g1, f3, fun j hj => g3 j (by omega)⟩, g4⟩
      · refine q_aload_n G (pc := 29) dX1_copy_29 rfl ?_
        refine q_getR (x := dk + 3) G (pc := 30) dX1_copy_30 fl_X1_18_1 hdk (hg hτ (hf_1_2 hdk)) ?_
        refine q_iload_n G (pc := 33) dX1_copy_33 rfl ?_
        refine q_aald (j := k) (x := dk + 3 + 1 + 2 * k) G (pc := 34) dX1_copy_34 (ly_1_2 hdk) rfl (by omega) (by decide) (hg hτ (hf_past (ly_1_2 hdk) (by omega))) ?_
        refine q_aload_n G (pc := 35) dX1_copy_35 rfl ?_
        refine q_getR (x := q + 3) G (pc := 36) dX1_copy_36 fl_X1_18_1 hq (hg hτ (hf_1_2 hq)) ?_
        refine q_iload_n G (pc := 39) dX1_copy_39 rfl ?_
        refine q_aald (j := k) (x := q + 3 + 1 + 2 * k) G (pc := 40) dX1_copy_40 (ly_1_2 hq) rfl (by omega) (by decide) (hg hτ (hf_past (ly_1_2 hq) (by omega))) ?_
        refine q_cV1V G (pc := 41) dX1_copy_41 cv_X1_39 (ly_past (ly_1_2 hdk) (by omega)) (s_X6_copy (by omega) hτ (ly_past (ly_1_2 hdk) (by omega)) (ly_past (ly_1_2 hq) (by omega)) (by omega) ((f4 k (by omega)).frr g4 (by omega))) (Nat.le_of_ble_eq_true rfl) ?_
        intro hk3 hy
        obtain ⟨hy1, hy2⟩ := hy
        refine q_iincN G (pc := 44) dX1_copy_44 rfl (inc1 _) (by decide) ?_
        show X _ [_, _, _] _ _ _ _
        refine q_goto (tgt := 21) G (pc := 47) dX1_copy_47 (by decide) ?_
        refine ih21 (k + 1) hk3 (by omega) (by omega) (by rw [hy2 dk (by simp; omega)]; exact g1) (g2.oth hy2 (by omega)) (fun j hj => ?_) (g4.trans (frr.row hy2 (by omega) (by omega)))
        by_cases h : j = k
        · subst h; exact hy1
        · exact (g3 j (by omega)).oth hy2 (by omega)
  exact L21 _ 0 _ (Nat.lt_succ_self _) (by omega) (by simp [va_up]) (hx1.fld (by omega)) (fun j hj => absurd hj (Nat.not_lt_zero _)) ((frr.row hx2 (by omega) (by omega)).trans (frr.fld (by omega)))
