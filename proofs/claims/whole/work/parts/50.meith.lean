/-! the model: either way, the best order -/
theorem cn_s (S : Nat) (o : List Nat) (k : Nat) : cnd S o (k + 1) = cnd S o k ++ [(o, k)] := by
  unfold cnd
  rw [List.range_succ, List.map_append]
  rfl
theorem cnL_s (S : Nat) (D : List (List Nat)) (a : List Nat) : cnL S (D ++ [a]) = cnL S D ++ cnd S a (2 ^ S) := by
  unfold cnL
  rw [List.flatMap_append, List.flatMap_cons, List.flatMap_nil, List.append_nil]
def acE (P : PG) (lf : Nat) (D : List (List Nat)) (a : List Nat) (T : Nat) : List (List Nat × Nat) := (cnL (pS P) D ++ cnd (pS P) a T).filter (prB P lf)
theorem acE_0 (P : PG) (lf : Nat) (D : List (List Nat)) (a : List Nat) : acE P lf D a 0 = (cnL (pS P) D).filter (prB P lf) := by
  unfold acE cnd
  rw [List.range_zero, List.map_nil, List.append_nil]
theorem acE_e (P : PG) (lf : Nat) (D : List (List Nat)) (a : List Nat) : acE P lf D a (2 ^ pS P) = (cnL (pS P) (D ++ [a])).filter (prB P lf) := by
  unfold acE
  rw [cnL_s]
theorem acE_y {P : PG} {lf : Nat} {D : List (List Nat)} {a : List Nat} {T : Nat} (h : prB P lf (a, T) = true) : acE P lf D a (T + 1) = acE P lf D a T ++ [(a, T)] := by
  unfold acE
  rw [cn_s, ← List.append_assoc, List.filter_append (_ ++ _), List.filter_cons, if_pos h, List.filter_nil]
theorem acE_n {P : PG} {lf : Nat} {D : List (List Nat)} {a : List Nat} {T : Nat} (h : ¬ prB P lf (a, T) = true) : acE P lf D a (T + 1) = acE P lf D a T := by
  unfold acE
  rw [cn_s, ← List.append_assoc, List.filter_append (_ ++ _), List.filter_cons, if_neg h, List.filter_nil, List.append_nil]
theorem acE_len {P : PG} {lf : Nat} (hl : lf < 64) (hS : pS P ≤ 6) {D R : List (List Nat)} {a : List Nat} {T : Nat} (hp : pmL lf = D ++ R) (hT : T ≤ 64) : (acE P lf D a T).length ≤ 60000 := by
  have h2 : 2 ^ pS P ≤ 2 ^ 6 := Nat.pow_le_pow_right (by decide) hS
  have h1 := pm_len lf hl
  rw [hp, List.length_append] at h1
  have h3 := List.length_filter_le (prB P lf) (cnL (pS P) D ++ cnd (pS P) a T)
  rw [List.length_append] at h3
  have h4 : (cnL (pS P) D).length ≤ D.length * 64 := fm_len D (fun o _ => by
    unfold cnd
    rw [List.length_map, List.length_range]
    omega)
  have h5 : (cnd (pS P) a T).length = T := by unfold cnd; rw [List.length_map, List.length_range]
  have h6 : D.length * 64 ≤ 720 * 64 := Nat.mul_le_mul_right _ (by omega)
  unfold acE
  omega
theorem prB_iff {P : PG} {lf : Nat} {a : List Nat} {T : Nat} : prB P lf (a, T) = true ↔ T &&& lf = T ∧ rgB P (a.map (wy T)) = true := by
  unfold prB sbB
  rw [Bool.and_eq_true_iff, beq_iff_eq]
theorem sum_wy {P : PG} {t m : Nat} {a : List Nat} (hal : a.length = m) : sumR (pW P) (sqF P (oF a) t) (2 * m) (pL P) = sumR (pW P) (sqP P (a.map (wy t))) (2 * m) (pL P) := by
  refine sumR_cong (fun l i _ hi => sqP_eq (m := m) (by rw [List.length_map, hal]) (fun j hj => (ord_wy a t (by omega)).symm) (fun q hq => ?_) hi)
  obtain ⟨s, _, rfl⟩ := List.mem_map.mp hq
  rfl
theorem bo_y {P : PG} {t m : Nat} {L : List (List (Nat × Nat))} {a : List Nat} (hal : a.length = m) : boF P m (L ++ [a.map (wy t)]) = if nI (sumR (pW P) (sqF P (oF a) t) (2 * m) (pL P)) ≤ (boF P m L).1 then boF P m L else (nI (sumR (pW P) (sqF P (oF a) t) (2 * m) (pL P)), nI (numF (oF a) m)) := by
  rw [boF_s]
  unfold boStep
  rw [← sum_wy hal, numP_wy, hal]
theorem sumR_bd {WL : List (List Nat)} {sq : Nat → Nat → Nat} {k : Nat} : ∀ L, sumR WL sq k L ≤ L * k
  | 0 => by unfold sumR; omega
  | L + 1 => by
    have ih := sumR_bd (WL := WL) (sq := sq) (k := k) L
    have hb := rdE_bd (WL := WL) (sq := sq L) k
    unfold sumR
    rw [Nat.succ_mul]
    omega
set_option maxHeartbeats 2000000 in
theorem m_lieSet {d : Nat} (hd : 1 ≤ d) {hi : mm_HI} {τ : mm_T} {P : PG} {n : Nat} {f : Nat → Nat} {t K : Nat} {pn : Nat → Nat} {pf : Nat → Nat → Nat} {pt : Nat → Nat} {im : Nat → Option DK} {sl : List (Nat × Nat)} {N : Nat} {b : Nat → Nat} {tr : Int64} (hM : mS P n f t K pn pf pt im sl N b tr hi τ) : wE d yX11_lieSet [.ref 106] hi τ (nI (mskF f n)) := by
  refine w_intro (by omega) M_X11_lieSet (Nat.le_of_ble_eq_true rfl) rfl ?_
  intro e X he G
  show X 0 [some (.ref (106)), none, none] [] hi τ 125
  obtain ⟨sw, hτ, hP, hRw, hV, hU, hI, hIV, hN, hNO, hT, hTr⟩ := id hM
  have hS6 : pS P ≤ 6 := hP.2.2.2.2.2.2.2.1
  have hL3 : pL P ≤ 3 := hP.2.2.2.2.2.2.1
  have hL1 : 1 ≤ pL P := hP.2.2.2.2.2.1
  have hW8 : (pW P).length ≤ 8 := hP.2.2.2.2.2.2.2.2.2.1
  have hn6 : n ≤ 6 := hRw.2.2.2.1
  have hfs : ∀ j, j < n → f j < pS P := hV.1.1
  have hV1 : rowV P n f := hV.1
  have hf6 : ∀ j, j < n → f j < 6 := hRw.2.2.2.2.1
  have hl6 : mskF f n < 64 := mskF_lt hf6
  have hlS : ∀ s, s < 6 → mskF f n / 2 ^ s % 2 = 1 → s < pS P := desk_S hV1 hf6
  have hpc0 : pcn (mskF f n) = n := mskF_pcn hf6 hV1.2
  refine q_iconst (v := nI 0) G (pc := 0) dX11_lieSet_0 (by decide) ?_
  refine q_istore_n G (pc := 1) dX11_lieSet_1 (by decide) ?_
  show X _ [_, _, _] _ _ _ _
  refine q_iconst (v := nI 0) G (pc := 2) dX11_lieSet_2 (by decide) ?_
  refine q_istore_n G (pc := 3) dX11_lieSet_3 (by decide) ?_
  show X _ [_, _, _] _ _ _ _
  have L4 : ∀ (zz : Nat) (k : Nat), n - k < zz → k ≤ n → X 4 [some (.ref (106)), some (.int (nI (mskF f k))), some (.int (nI (k)))] [] hi τ 125 := by
    intro zz
    induction zz with
    | zero => intro k hm; exact absurd hm (Nat.not_lt_zero _)
    | succ zz ih4 =>
      intro k hm h0
      refine q_iload_n G (pc := 4) dX11_lieSet_4 rfl ?_
      refine q_aload_n G (pc := 5) dX11_lieSet_5 rfl ?_
      refine q_getI (v := nI (n)) G (pc := 6) dX11_lieSet_6 fl_X11_75_10 (by decide) rfl hRw.1 ?_
      refine q_icmp_geN (tgt := 29) G (pc := 9) dX11_lieSet_9 (by decide) (by omega) (by omega) (fun c9 => ?_) (fun c9 => ?_)
      · refine q_iload_n G (pc := 29) dX11_lieSet_29 rfl ?_
        refine q_iret G (pc := 30) dX11_lieSet_30 (Or.inl rfl) ?_
        exact ⟨rfl, rfl, by rw [show k = n by omega]⟩
      · refine q_iload_n G (pc := 12) dX11_lieSet_12 rfl ?_
        refine q_iconst (v := 1) G (pc := 13) dX11_lieSet_13 (by decide) ?_
        refine q_aload_n G (pc := 14) dX11_lieSet_14 rfl ?_
        refine q_getR (x := 110) G (pc := 15) dX11_lieSet_15 fl_X11_23_10 rfl (hg hτ (hf_10_8 rfl)) ?_
        refine q_iload_n G (pc := 18) dX11_lieSet_18 rfl ?_
        refine q_iald (j := k) (v := nI (f k)) G (pc := 19) dX11_lieSet_19 rfl rfl (by omega) (hRw.2.2.1 k (by omega)) ?_
        have hfk := hf6 k (by omega)
        refine q_ishl G (pc := 20) dX11_lieSet_20 ?_
        rw [bit_one _ (by omega)]
        refine q_ior G (pc := 21) dX11_lieSet_21 ?_
        rw [or_nI]
        refine q_istore_n G (pc := 22) dX11_lieSet_22 (by decide) ?_
        show X _ [_, _, _] _ _ _ _
        refine q_iincN G (pc := 23) dX11_lieSet_23 rfl (inc1 _) (by decide) ?_
        show X _ [_, _, _] _ _ _ _
        refine q_goto (tgt := 4) G (pc := 26) dX11_lieSet_26 (by decide) ?_
        exact ih4 (k + 1) (by omega) (by omega)
  exact L4 _ 0 (Nat.lt_succ_self _) (by omega)
set_option maxHeartbeats 2000000 in
theorem m_either {d : Nat} (hd : 10 ≤ d) {hi : mm_HI} {τ : mm_T} {P : PG} {n : Nat} {f : Nat → Nat} {t K : Nat} {pn : Nat → Nat} {pf : Nat → Nat → Nat} {pt : Nat → Nat} {im : Nat → Option DK} {sl : List (Nat × Nat)} {N : Nat} {b : Nat → Nat} {tr : Int64} (hM : mS P n f t K pn pf pt im sl N b tr hi τ) {x : Int32} : wR d yX11_either [.ref 106, .int x] hi τ (RQ (zEither (mkT P n f t K pn pf pt im sl N b tr) (ix x 3)) hi τ) := by
  refine w_intro (by omega) M_X11_either (Nat.le_of_ble_eq_true rfl) rfl ?_
  intro e X he G
  show X 0 [some (.ref (106)), some (.int (x)), none, none, none, none, none, none] [] hi τ 125
  obtain ⟨sw, hτ, hP, hRw, hV, hU, hI, hIV, hN, hNO, hT, hTr⟩ := id hM
  have hS6 : pS P ≤ 6 := hP.2.2.2.2.2.2.2.1
  have hL3 : pL P ≤ 3 := hP.2.2.2.2.2.2.1
  have hL1 : 1 ≤ pL P := hP.2.2.2.2.2.1
  have hW8 : (pW P).length ≤ 8 := hP.2.2.2.2.2.2.2.2.2.1
  have hn6 : n ≤ 6 := hRw.2.2.2.1
  have hfs : ∀ j, j < n → f j < pS P := hV.1.1
  have hV1 : rowV P n f := hV.1
  have hf6 : ∀ j, j < n → f j < 6 := hRw.2.2.2.2.1
  have hl6 : mskF f n < 64 := mskF_lt hf6
  have hlS : ∀ s, s < 6 → mskF f n / 2 ^ s % 2 = 1 → s < pS P := desk_S hV1 hf6
  have hpc0 : pcn (mskF f n) = n := mskF_pcn hf6 hV1.2
  have h2S : 2 ^ pS P ≤ 2 ^ 6 := Nat.pow_le_pow_right (by decide) hS6
  have h2P : 1 ≤ 2 ^ pS P := Nat.one_le_two_pow
  refine q_iload_n G (pc := 0) dX11_either_0 rfl ?_
  refine q_iconst (v := nI 0) G (pc := 1) dX11_either_1 (by decide) ?_
  refine q_iconst (v := nI 2) G (pc := 2) dX11_either_2 (by decide) ?_
  refine q_cS3B G (pc := 3) dX11_either_3 cs_X11_71 (w_iff (m_in (by omega)) (in0 (m := 2) (by decide))) (Nat.le_of_ble_eq_true rfl) (fun c3 => ?_) (fun c3 => ?_)
  · obtain ⟨k, hk0, rfl⟩ := c3
    refine q_if_neN (tgt := 11) G (pc := 6) dX11_either_6 (by decide) (by omega) (fun _ => ?_) (fun c6 => absurd c6 (by decide))
    refine q_aload_n G (pc := 11) dX11_either_11 rfl ?_
    refine q_cV0E G (pc := 12) dX11_either_12 cv_X11_261 rfl (m_lieSet (by omega) hM) (Nat.le_of_ble_eq_true rfl) ?_
    refine q_istore_n G (pc := 15) dX11_either_15 (by decide) ?_
    show X _ [_, _, _, _, _, _, _, _] _ _ _ _
    refine q_iconst (v := nI 0) G (pc := 16) dX11_either_16 (by decide) ?_
    refine q_istore_n G (pc := 17) dX11_either_17 (by decide) ?_
    show X _ [_, _, _, _, _, _, _, _] _ _ _ _
    refine q_bipush (v := -9) G (pc := 18) dX11_either_18 (by decide) ?_
    refine q_istore G (pc := 20) dX11_either_20 (by decide) ?_
    show X _ [_, _, _, _, _, _, _, _] _ _ _ _
    refine q_bipush (v := -9) G (pc := 22) dX11_either_22 (by decide) ?_
    refine q_istore G (pc := 24) dX11_either_24 (by decide) ?_
    show X _ [_, _, _, _, _, _, _, _] _ _ _ _
    refine q_aload_n G (pc := 26) dX11_either_26 rfl ?_
    refine q_bipush (v := -9) G (pc := 27) dX11_either_27 (by decide) ?_
    refine q_cV1V G (pc := 29) dX11_either_29 cv_X11_232 rfl (m_firstRow (by omega) hM (desk_lf hS6 hf6)) (Nat.le_of_ble_eq_true rfl) ?_
    intro hj hx
    obtain ⟨y1, y2, y3⟩ := hx
    refine q_iconst (v := nI 1) G (pc := 32) dX11_either_32 (by decide) ?_
    refine q_istore G (pc := 33) dX11_either_33 (by decide) ?_
    show X _ [_, _, _, _, _, _, _, _] _ _ _ _
    have L35 : ∀ (zz : Nat) (D R : List (List Nat)) (mo : Nat) (hk : mm_HI) (v7 : Option Value), R.length < zz → pmL (mskF f n) = D ++ R → hk 106 30 = nI n → ((mo = 1 ∧ ∃ a R2, R = a :: R2 ∧ ∀ j, j < n → hk 121 j = nI (oF a j)) ∨ (mo = 0 ∧ R = [])) → msc hi hk → X 35 [some (.ref (106)), some (.int (nI (k))), some (.int (nI (mskF f n))), some (.int (nI (((cnL (pS P) D).filter (prB P (mskF f n))).length))), some (.int ((emF ((cnL (pS P) D).filter (prB P (mskF f n)))).2.1)), some (.int ((emF ((cnL (pS P) D).filter (prB P (mskF f n)))).2.2)), some (.int (nI (mo))), v7] [] hk τ 125 := by
      intro zz
      induction zz with
      | zero => intro D R mo hk v7 hm; exact absurd hm (Nat.not_lt_zero _)
      | succ zz ih35 =>
        intro D R mo hk v7 hm i1 i2 i3 i5
        have hm2 := hm
        rcases i3 with ⟨rfl, a, R2, rfl, ha⟩ | ⟨rfl, rfl⟩
        · have hmem : a ∈ pmL (mskF f n) := by rw [i1]; simp
          obtain ⟨hal, hab, hcov, hinj⟩ := pm_row hl6 hpc0 hmem
          have ha6 : ∀ j, j < n → oF a j < 6 := fun j hj => (hab j hj).1
          have haS : ∀ j, j < n → oF a j < pS P := fun j hj => hlS _ (hab j hj).1 (hab j hj).2
          refine q_iload G (pc := 35) dX11_either_35 rfl ?_
          refine q_if_eqN (tgt := 133) G (pc := 37) dX11_either_37 (by decide) (by omega) (fun c37 => absurd c37 (by decide)) (fun _ => ?_)
          refine q_iconst (v := nI 0) G (pc := 40) dX11_either_40 (by decide) ?_
          refine q_istore G (pc := 41) dX11_either_41 (by decide) ?_
          show X _ [_, _, _, _, _, _, _, _] _ _ _ _
          have L43 : ∀ (zz : Nat) (T : Nat) (hj : mm_HI), 2 ^ pS P - T < zz → T ≤ 2 ^ pS P → hj 106 30 = nI n → (∀ j, j < n → hj 121 j = nI (oF a j)) → msc hk hj → X 43 [some (.ref (106)), some (.int (nI (k))), some (.int (nI (mskF f n))), some (.int (nI ((acE P (mskF f n) D a T).length))), some (.int ((emF (acE P (mskF f n) D a T)).2.1)), some (.int ((emF (acE P (mskF f n) D a T)).2.2)), some (.int (nI (1))), some (.int (nI (T)))] [] hj τ 125 := by
            intro zz
            induction zz with
            | zero => intro T hj hm; exact absurd hm (Nat.not_lt_zero _)
            | succ zz ih43 =>
              intro T hj hm k0 k2 k3 k4
              have hln := acE_len (a := a) (T := T) hl6 hS6 i1 (by omega)
              refine q_iload G (pc := 43) dX11_either_43 rfl ?_
              refine q_iconst (v := 1) G (pc := 45) dX11_either_45 (by decide) ?_
              refine q_aload_n G (pc := 46) dX11_either_46 rfl ?_
              refine q_getI (v := nI (pS P)) G (pc := 47) dX11_either_47 fl_X11_68_10 (by decide) rfl (hP.sc (i5.trans k4)).2.1 ?_
              refine q_ishl G (pc := 50) dX11_either_50 ?_
              rw [bit26 _ (by omega)]
              refine q_icmp_geN (tgt := 124) G (pc := 51) dX11_either_51 (by decide) (by omega) (by omega) (fun c51 => ?_) (fun c51 => ?_)
              · refine q_aload_n G (pc := 124) dX11_either_124 rfl ?_
                refine q_cV0I G (pc := 125) dX11_either_125 cv_X11_243 rfl (m_nextRow (by omega) hτ (m := n) (g := oF a) k2 k3 hn6 ha6) (Nat.le_of_ble_eq_true rfl) ?_
                intro xn hj3 hn3
                obtain ⟨hn3, f3⟩ := hn3
                rcases hn3 with ⟨rfl, hn3, -⟩ | ⟨rfl, g2, hn3, hn4⟩
                · have hR := nx_none hl6 i1 hal hn3
                  refine q_istore G (pc := 128) dX11_either_128 (by decide) ?_
                  show X _ [_, _, _, _, _, _, _, _] _ _ _ _
                  refine q_goto (tgt := 35) G (pc := 130) dX11_either_130 (by decide) ?_
                  have hT2 : T = 2 ^ pS P := by omega
                  have z := fun v7 => ih35 (D ++ [a]) R2 0 hj3 v7 (by have hq9 := hm2; rw [List.length_cons] at hq9; omega) (by rw [i1]; simp) (by rw [(f3 106 (by simp))]; exact k2) (Or.inr ⟨rfl, hR⟩) ((i5.trans k4).trans ⟨fun c hc => f3 c (by simp; omega), fun k _ => by rw [f3 106 (by simp)]⟩)
                  rw [← acE_e, ← hT2] at z
                  exact z _
                · obtain ⟨ac, R3, hR, hn5⟩ := nx_some hl6 i1 hal hn3
                  refine q_istore G (pc := 128) dX11_either_128 (by decide) ?_
                  show X _ [_, _, _, _, _, _, _, _] _ _ _ _
                  refine q_goto (tgt := 35) G (pc := 130) dX11_either_130 (by decide) ?_
                  have hT2 : T = 2 ^ pS P := by omega
                  have z := fun v7 => ih35 (D ++ [a]) R2 1 hj3 v7 (by have hq9 := hm2; rw [List.length_cons] at hq9; omega) (by rw [i1]; simp) (by rw [(f3 106 (by simp))]; exact k2) (Or.inl ⟨rfl, ac, R3, hR, fun j hq => (hn4 j hq).trans (by rw [hn5 j hq])⟩) ((i5.trans k4).trans ⟨fun c hc => f3 c (by simp; omega), fun k _ => by rw [f3 106 (by simp)]⟩)
                  rw [← acE_e, ← hT2] at z
                  exact z _
              · refine q_iload G (pc := 54) dX11_either_54 rfl ?_
                refine q_iload_n G (pc := 56) dX11_either_56 rfl ?_
                refine q_iconst (v := -1) G (pc := 57) dX11_either_57 (by decide) ?_
                refine q_ixor G (pc := 58) dX11_either_58 ?_
                refine q_iand G (pc := 59) dX11_either_59 ?_
                refine q_if_ne (tgt := 118) G (pc := 60) dX11_either_60 (by decide) (fun c60 => ?_) (fun c60 => ?_)
                · refine q_iincN G (pc := 118) dX11_either_118 rfl (inc1 _) (by decide) ?_
                  show X _ [_, _, _, _, _, _, _, _] _ _ _ _
                  refine q_goto (tgt := 43) G (pc := 121) dX11_either_121 (by decide) ?_
                  have e1 := acE_n (P := P) (lf := mskF f n) (D := D) (a := a) (T := T) (fun q => c60 ((sub_iff T (by omega) _ hl6).mpr (prB_iff.mp q).1))
                  have z := ih43 (T + 1) hj (by omega) (by omega) k2 k3 k4
                  rw [e1] at z
                  exact z
                · have hrg := rg_iff (P := P) (o := a) (g := oF a) (t := T) hal (fun j _ => rfl)
                  refine q_aload_n G (pc := 63) dX11_either_63 rfl ?_
                  refine q_aload_n G (pc := 64) dX11_either_64 rfl ?_
                  refine q_getR (x := 121) G (pc := 65) dX11_either_65 fl_X11_56_10 rfl (hg hτ (hf_10_29 rfl)) ?_
                  refine q_aload_n G (pc := 68) dX11_either_68 rfl ?_
                  refine q_getI (v := nI (n)) G (pc := 69) dX11_either_69 fl_X11_212_10 (by decide) rfl k2 ?_
                  refine q_iload G (pc := 72) dX11_either_72 rfl ?_
                  refine q_cV3I G (pc := 74) dX11_either_74 cv_X11_236 rfl (m_isRight (by omega) hτ (hP.sc (i5.trans k4)) (rc := 121) (m := n) (g := oF a) (T := T) ⟨Or.inr rfl, k3, haS, hn6, by omega⟩) (Nat.le_of_ble_eq_true rfl) ?_
                  intro xr hj2 hz
                  obtain ⟨hz, z1⟩ := hz
                  rcases hz with ⟨rfl, hz⟩ | ⟨rfl, hz⟩
                  · refine q_if_eqN (tgt := 118) G (pc := 77) dX11_either_77 (by decide) (by omega) (fun c77 => absurd c77 (by decide)) (fun _ => ?_)
                    refine q_iload_n G (pc := 80) dX11_either_80 rfl ?_
                    refine q_if_neN (tgt := 89) G (pc := 81) dX11_either_81 (by decide) (by omega) (fun c81 => ?_) (fun c81 => ?_)
                    · refine q_iload G (pc := 89) dX11_either_89 rfl ?_
                      refine q_istore G (pc := 91) dX11_either_91 (by decide) ?_
                      show X _ [_, _, _, _, _, _, _, _] _ _ _ _
                      refine q_iload_n G (pc := 93) dX11_either_93 rfl ?_
                      refine q_if_neN (tgt := 111) G (pc := 94) dX11_either_94 (by decide) (by omega) (fun _ => ?_) (fun c94 => absurd c94 c81)
                      refine q_iload G (pc := 111) dX11_either_111 rfl ?_
                      refine q_istore G (pc := 113) dX11_either_113 (by decide) ?_
                      show X _ [_, _, _, _, _, _, _, _] _ _ _ _
                      refine q_iincN G (pc := 115) dX11_either_115 rfl (inc1 _) (by decide) ?_
                      show X _ [_, _, _, _, _, _, _, _] _ _ _ _
                      refine q_iincN G (pc := 118) dX11_either_118 rfl (inc1 _) (by decide) ?_
                      show X _ [_, _, _, _, _, _, _, _] _ _ _ _
                      refine q_goto (tgt := 43) G (pc := 121) dX11_either_121 (by decide) ?_
                      have e1 := acE_y (P := P) (lf := mskF f n) (D := D) (a := a) (T := T) (prB_iff.mpr ⟨(sub_iff T (by omega) _ hl6).mp c60, hrg.mpr hz⟩)
                      have z := ih43 (T + 1) hj2 (by omega) (by omega) (by rw [z1.2 30 (by decide)]; exact k2) (fun j hq => by rw [z1.1 121 (by decide) (by decide) (by decide) (by decide)]; exact k3 j hq) (k4.trans z1.sc)
                      rw [e1, emF_s] at z
                      rw [if_neg c81, if_neg c81, List.length_append, List.length_singleton] at z
                      exact z
                    · refine q_iload G (pc := 84) dX11_either_84 rfl ?_
                      refine q_goto (tgt := 91) G (pc := 86) dX11_either_86 (by decide) ?_
                      refine q_istore G (pc := 91) dX11_either_91 (by decide) ?_
                      show X _ [_, _, _, _, _, _, _, _] _ _ _ _
                      refine q_iload_n G (pc := 93) dX11_either_93 rfl ?_
                      refine q_if_neN (tgt := 111) G (pc := 94) dX11_either_94 (by decide) (by omega) (fun c94 => absurd c81 c94) (fun _ => ?_)
                      refine q_aload_n G (pc := 97) dX11_either_97 rfl ?_
                      refine q_getR (x := 121) G (pc := 98) dX11_either_98 fl_X11_56_10 rfl (hg hτ (hf_10_29 rfl)) ?_
                      refine q_aload_n G (pc := 101) dX11_either_101 rfl ?_
                      refine q_getI (v := nI (n)) G (pc := 102) dX11_either_102 fl_X11_212_10 (by decide) rfl (by rw [z1.2 30 (by decide)]; exact k2) ?_
                      refine q_cS2E G (pc := 105) dX11_either_105 cs_X11_218 (m_numberOf (by omega) (c := 121) rfl hn6 (f := oF a) (fun j hq => by rw [z1.1 121 (by decide) (by decide) (by decide) (by decide)]; exact k3 j hq)) (Nat.le_of_ble_eq_true rfl) ?_
                      refine q_goto (tgt := 113) G (pc := 108) dX11_either_108 (by decide) ?_
                      refine q_istore G (pc := 113) dX11_either_113 (by decide) ?_
                      show X _ [_, _, _, _, _, _, _, _] _ _ _ _
                      refine q_iincN G (pc := 115) dX11_either_115 rfl (inc1 _) (by decide) ?_
                      show X _ [_, _, _, _, _, _, _, _] _ _ _ _
                      refine q_iincN G (pc := 118) dX11_either_118 rfl (inc1 _) (by decide) ?_
                      show X _ [_, _, _, _, _, _, _, _] _ _ _ _
                      refine q_goto (tgt := 43) G (pc := 121) dX11_either_121 (by decide) ?_
                      have e1 := acE_y (P := P) (lf := mskF f n) (D := D) (a := a) (T := T) (prB_iff.mpr ⟨(sub_iff T (by omega) _ hl6).mp c60, hrg.mpr hz⟩)
                      have z := ih43 (T + 1) hj2 (by omega) (by omega) (by rw [z1.2 30 (by decide)]; exact k2) (fun j hq => by rw [z1.1 121 (by decide) (by decide) (by decide) (by decide)]; exact k3 j hq) (k4.trans z1.sc)
                      rw [e1, emF_s] at z
                      rw [if_pos c81, if_pos c81, hal, List.length_append, List.length_singleton] at z
                      exact z
                  · refine q_if_eqN (tgt := 118) G (pc := 77) dX11_either_77 (by decide) (by omega) (fun _ => ?_) (fun c77 => absurd c77 (by decide))
                    refine q_iincN G (pc := 118) dX11_either_118 rfl (inc1 _) (by decide) ?_
                    show X _ [_, _, _, _, _, _, _, _] _ _ _ _
                    refine q_goto (tgt := 43) G (pc := 121) dX11_either_121 (by decide) ?_
                    have e1 := acE_n (P := P) (lf := mskF f n) (D := D) (a := a) (T := T) (fun q => hz (hrg.mp (prB_iff.mp q).2))
                    have z := ih43 (T + 1) hj2 (by omega) (by omega) (by rw [z1.2 30 (by decide)]; exact k2) (fun j hq => by rw [z1.1 121 (by decide) (by decide) (by decide) (by decide)]; exact k3 j hq) (k4.trans z1.sc)
                    rw [e1] at z
                    exact z
          have z := L43 _ 0 hk (Nat.lt_succ_self _) (by omega) i2 ha msc.rf
          rw [acE_0] at z
          exact z
        · refine q_iload G (pc := 35) dX11_either_35 rfl ?_
          refine q_if_eqN (tgt := 133) G (pc := 37) dX11_either_37 (by decide) (by omega) (fun _ => ?_) (fun c37 => absurd c37 (by decide))
          refine q_iload_n G (pc := 133) dX11_either_133 rfl ?_
          refine q_if_neN (tgt := 141) G (pc := 134) dX11_either_134 (by decide) (by omega) (fun c134 => ?_) (fun c134 => ?_)
          · refine q_iload_n G (pc := 141) dX11_either_141 rfl ?_
            refine q_iconst (v := nI 1) G (pc := 142) dX11_either_142 (by decide) ?_
            refine q_icmp_neN (tgt := 151) G (pc := 143) dX11_either_143 (by decide) (by omega) (by omega) (fun c143 => ?_) (fun c143 => ?_)
            · refine q_iload G (pc := 151) dX11_either_151 rfl ?_
              refine q_iret G (pc := 153) dX11_either_153 (Or.inl rfl) ?_
              rw [List.append_nil] at i1
              have e9 : ewA P n f = (emF ((cnL (pS P) D).filter (prB P (mskF f n)))) := by rw [← i1]; exact ew_em hS6 hn6 hl6 hlS hpc0
              have e8 : (ewA P n f).2.2 = (emF ((cnL (pS P) D).filter (prB P (mskF f n)))).2.2 := by rw [e9]
              have hk1 : k = 2 := by omega
              subst hk1
              exact hM.post i5 (by rw [ix_some (s := 2) (n := 3) (by decide) (by decide)]; exact congrArg (fun z => (mkT P n f t K pn pf pt im sl N b tr, z)) e8)
            · refine q_iload G (pc := 146) dX11_either_146 rfl ?_
              refine q_goto (tgt := 153) G (pc := 148) dX11_either_148 (by decide) ?_
              refine q_iret G (pc := 153) dX11_either_153 (Or.inl rfl) ?_
              rw [List.append_nil] at i1
              have e9 : ewA P n f = (emF ((cnL (pS P) D).filter (prB P (mskF f n)))) := by rw [← i1]; exact ew_em hS6 hn6 hl6 hlS hpc0
              have e8 : (ewA P n f).2.1 = (emF ((cnL (pS P) D).filter (prB P (mskF f n)))).2.1 := by rw [e9]
              have hk1 : k = 1 := by omega
              subst hk1
              exact hM.post i5 (by rw [ix_some (s := 1) (n := 3) (by decide) (by decide)]; exact congrArg (fun z => (mkT P n f t K pn pf pt im sl N b tr, z)) e8)
          · refine q_iload_n G (pc := 137) dX11_either_137 rfl ?_
            refine q_goto (tgt := 153) G (pc := 138) dX11_either_138 (by decide) ?_
            refine q_iret G (pc := 153) dX11_either_153 (Or.inl rfl) ?_
            rw [List.append_nil] at i1
            have e9 : ewA P n f = (emF ((cnL (pS P) D).filter (prB P (mskF f n)))) := by rw [← i1]; exact ew_em hS6 hn6 hl6 hlS hpc0
            have e8 : (ewA P n f).1 = (emF ((cnL (pS P) D).filter (prB P (mskF f n)))).1 := by rw [e9]
            have hk1 : k = 0 := by omega
            subst hk1
            exact hM.post i5 (by rw [ix_some (s := 0) (n := 3) (by decide) (by decide)]; exact congrArg (fun z => (mkT P n f t K pn pf pt im sl N b tr, z)) e8)
    obtain ⟨R, hpd⟩ := pm_hd hl6 hS6 hlS
    have hpl : (srtN (mskF f n) (pS P)).length = n := (pm_row hl6 hpc0 (a := srtN (mskF f n) (pS P)) (by rw [hpd]; simp)).1
    rw [hpl] at y1 y2
    exact L35 _ [] (srtN (mskF f n) (pS P) :: R) 1 hj _ (Nat.lt_succ_self _) hpd y1 (Or.inl ⟨rfl, _, _, rfl, y2⟩) y3.sc
  · refine q_if_neN (tgt := 11) G (pc := 6) dX11_either_6 (by decide) (by omega) (fun c6 => absurd c6 (by decide)) (fun _ => ?_)
    refine q_iconst (v := -1) G (pc := 9) dX11_either_9 (by decide) ?_
    refine q_iret G (pc := 10) dX11_either_10 (Or.inl rfl) ?_
    exact hM.post msc.rf (by rw [ix_none c3]; rfl)
theorem n_m1 {k : Nat} (h : k < 2 ^ 31) : ¬ nI k ≤ (-1 : Int32) := by
  intro q
  have h1 := nI_pos' h
  have h2 : (0 : Int32) ≤ -1 := Int32.le_trans h1 q
  exact absurd h2 (by decide)
set_option maxHeartbeats 2000000 in
theorem m_best {d : Nat} (hd : 9 ≤ d) {hi : mm_HI} {τ : mm_T} {P : PG} {n : Nat} {f : Nat → Nat} {t K : Nat} {pn : Nat → Nat} {pf : Nat → Nat → Nat} {pt : Nat → Nat} {im : Nat → Option DK} {sl : List (Nat × Nat)} {N : Nat} {b : Nat → Nat} {tr : Int64} (hM : mS P n f t K pn pf pt im sl N b tr hi τ) {x : Int32} : wR d yX11_best [.ref 106, .int x] hi τ (RQ (zBest (mkT P n f t K pn pf pt im sl N b tr) (ix x 2)) hi τ) := by
  refine w_intro (by omega) M_X11_best (Nat.le_of_ble_eq_true rfl) rfl ?_
  intro e X he G
  show X 0 [some (.ref (106)), some (.int (x)), none, none, none] [] hi τ 125
  obtain ⟨sw, hτ, hP, hRw, hV, hU, hI, hIV, hN, hNO, hT, hTr⟩ := id hM
  have hS6 : pS P ≤ 6 := hP.2.2.2.2.2.2.2.1
  have hL3 : pL P ≤ 3 := hP.2.2.2.2.2.2.1
  have hL1 : 1 ≤ pL P := hP.2.2.2.2.2.1
  have hW8 : (pW P).length ≤ 8 := hP.2.2.2.2.2.2.2.2.2.1
  have hn6 : n ≤ 6 := hRw.2.2.2.1
  have hfs : ∀ j, j < n → f j < pS P := hV.1.1
  have hV1 : rowV P n f := hV.1
  have hf6 : ∀ j, j < n → f j < 6 := hRw.2.2.2.2.1
  have hl6 : mskF f n < 64 := mskF_lt hf6
  have hlS : ∀ s, s < 6 → mskF f n / 2 ^ s % 2 = 1 → s < pS P := desk_S hV1 hf6
  have hpc0 : pcn (mskF f n) = n := mskF_pcn hf6 hV1.2
  refine q_iload_n G (pc := 0) dX11_best_0 rfl ?_
  refine q_iconst (v := nI 0) G (pc := 1) dX11_best_1 (by decide) ?_
  refine q_iconst (v := nI 1) G (pc := 2) dX11_best_2 (by decide) ?_
  refine q_cS3B G (pc := 3) dX11_best_3 cs_X11_71 (w_iff (m_in (by omega)) (in0 (m := 1) (by decide))) (Nat.le_of_ble_eq_true rfl) (fun c3 => ?_) (fun c3 => ?_)
  · obtain ⟨k, hk0, rfl⟩ := c3
    refine q_if_neN (tgt := 11) G (pc := 6) dX11_best_6 (by decide) (by omega) (fun _ => ?_) (fun c6 => absurd c6 (by decide))
    refine q_iconst (v := -1) G (pc := 11) dX11_best_11 (by decide) ?_
    refine q_istore_n G (pc := 12) dX11_best_12 (by decide) ?_
    show X _ [_, _, _, _, _] _ _ _ _
    refine q_iconst (v := nI 0) G (pc := 13) dX11_best_13 (by decide) ?_
    refine q_istore_n G (pc := 14) dX11_best_14 (by decide) ?_
    show X _ [_, _, _, _, _] _ _ _ _
    refine q_aload_n G (pc := 15) dX11_best_15 rfl ?_
    refine q_bipush (v := -9) G (pc := 16) dX11_best_16 (by decide) ?_
    refine q_cV1V G (pc := 18) dX11_best_18 cv_X11_232 rfl (m_firstRow (by omega) hM (desk_lf hS6 hf6)) (Nat.le_of_ble_eq_true rfl) ?_
    intro hj hx
    obtain ⟨y1, y2, y3⟩ := hx
    refine q_iconst (v := nI 1) G (pc := 21) dX11_best_21 (by decide) ?_
    refine q_istore G (pc := 22) dX11_best_22 (by decide) ?_
    show X _ [_, _, _, _, _] _ _ _ _
    have L24 : ∀ (zz : Nat) (D R : List (List Nat)) (mo : Nat) (hk : mm_HI) (b3 : Int32), R.length < zz → pmL (mskF f n) = D ++ R → hk 106 30 = nI n → ((mo = 1 ∧ ∃ a R2, R = a :: R2 ∧ ∀ j, j < n → hk 121 j = nI (oF a j)) ∨ (mo = 0 ∧ R = [])) → msc hi hk → ((D = [] ∧ b3 = nI 0) ∨ b3 = (boF P n (D.map (List.map (wy t)))).2) → X 24 [some (.ref (106)), some (.int (nI (k))), some (.int ((boF P n (D.map (List.map (wy t)))).1)), some (.int (b3)), some (.int (nI (mo)))] [] hk τ 125 := by
      intro zz
      induction zz with
      | zero => intro D R mo hk b3 hm; exact absurd hm (Nat.not_lt_zero _)
      | succ zz ih24 =>
        intro D R mo hk b3 hm i1 i2 i3 i5 i4
        rcases i3 with ⟨rfl, a, R2, rfl, ha⟩ | ⟨rfl, rfl⟩
        · have hmem : a ∈ pmL (mskF f n) := by rw [i1]; simp
          obtain ⟨hal, hab, hcov, hinj⟩ := pm_row hl6 hpc0 hmem
          have ha6 : ∀ j, j < n → oF a j < 6 := fun j hj => (hab j hj).1
          have haS : ∀ j, j < n → oF a j < pS P := fun j hj => hlS _ (hab j hj).1 (hab j hj).2
          refine q_iload G (pc := 24) dX11_best_24 rfl ?_
          refine q_if_eqN (tgt := 79) G (pc := 26) dX11_best_26 (by decide) (by omega) (fun c26 => absurd c26 (by decide)) (fun _ => ?_)
          refine q_aload_n G (pc := 29) dX11_best_29 rfl ?_
          refine q_aload_n G (pc := 30) dX11_best_30 rfl ?_
          refine q_getR (x := 121) G (pc := 31) dX11_best_31 fl_X11_56_10 rfl (hg hτ (hf_10_29 rfl)) ?_
          refine q_aload_n G (pc := 34) dX11_best_34 rfl ?_
          refine q_getI (v := nI (n)) G (pc := 35) dX11_best_35 fl_X11_212_10 (by decide) rfl i2 ?_
          refine q_aload_n G (pc := 38) dX11_best_38 rfl ?_
          refine q_getI (v := nI (t)) G (pc := 39) dX11_best_39 fl_X11_133_10 (by decide) rfl (hRw.sc i5).2.1 ?_
          refine q_cV3V G (pc := 42) dX11_best_42 cv_X11_169 rfl (m_readsAll (by omega) hτ (hP.sc i5) (rc := 121) (m := n) (g := oF a) (T := t) ⟨Or.inr rfl, ha, haS, hn6, hRw.2.2.2.2.2⟩) (Nat.le_of_ble_eq_true rfl) ?_
          intro hj hx
          obtain ⟨x1, x2, x3⟩ := hx
          have hsb := sumR_bd (WL := pW P) (sq := sqF P (oF a) t) (k := 2 * n) (pL P)
          have hsb2 : pL P * (2 * n) ≤ 3 * 12 := Nat.mul_le_mul hL3 (by omega)
          refine q_aload_n G (pc := 45) dX11_best_45 rfl ?_
          refine q_getI (v := nI (sumR (pW P) (sqF P (oF a) t) (2 * n) (pL P))) G (pc := 46) dX11_best_46 fl_X11_162_10 (by decide) rfl x2 ?_
          refine q_iload_n G (pc := 49) dX11_best_49 rfl ?_
          refine q_icmp_le (tgt := 70) G (pc := 50) dX11_best_50 (by decide) (fun c50 => ?_) (fun c50 => ?_)
          · refine q_aload_n G (pc := 70) dX11_best_70 rfl ?_
            refine q_cV0I G (pc := 71) dX11_best_71 cv_X11_243 rfl (m_nextRow (by omega) hτ (m := n) (g := oF a) (by rw [x3.2 30 (by decide)]; exact i2) (fun j hq => by rw [x3.1 121 (by decide) (by decide) (by decide) (by decide)]; exact ha j hq) hn6 ha6) (Nat.le_of_ble_eq_true rfl) ?_
            intro xn hj3 hn3
            obtain ⟨hn3, f3⟩ := hn3
            rcases hn3 with ⟨rfl, hn3, -⟩ | ⟨rfl, g2, hn3, hn4⟩
            · have hR := nx_none hl6 i1 hal hn3
              refine q_istore G (pc := 74) dX11_best_74 (by decide) ?_
              show X _ [_, _, _, _, _] _ _ _ _
              refine q_goto (tgt := 24) G (pc := 76) dX11_best_76 (by decide) ?_
              have e1 : boF P n ((D ++ [a]).map (List.map (wy t))) = (boF P n (D.map (List.map (wy t)))) := by
                rw [List.map_append, List.map_cons, List.map_nil, bo_y hal]
                exact if_pos c50
              have hb3 : b3 = (boF P n ((D ++ [a]).map (List.map (wy t)))).2 := by
                rw [e1]
                rcases i4 with ⟨q1, q2⟩ | q1
                · subst q1
                  exact absurd c50 (n_m1 (by omega))
                · exact q1
              have z := ih24 (D ++ [a]) R2 0 hj3 b3 (by have hq9 := hm; rw [List.length_cons] at hq9; omega) (by rw [i1]; simp) (by rw [(f3 106 (by simp)), x3.2 30 (by decide)]; exact i2) (Or.inr ⟨rfl, hR⟩) ((i5.trans x3.sc).trans ⟨fun c hc => f3 c (by simp; omega), fun k _ => by rw [f3 106 (by simp)]⟩) (Or.inr hb3)
              rw [e1] at z
              exact z
            · obtain ⟨ac, R3, hR, hn5⟩ := nx_some hl6 i1 hal hn3
              refine q_istore G (pc := 74) dX11_best_74 (by decide) ?_
              show X _ [_, _, _, _, _] _ _ _ _
              refine q_goto (tgt := 24) G (pc := 76) dX11_best_76 (by decide) ?_
              have e1 : boF P n ((D ++ [a]).map (List.map (wy t))) = (boF P n (D.map (List.map (wy t)))) := by
                rw [List.map_append, List.map_cons, List.map_nil, bo_y hal]
                exact if_pos c50
              have hb3 : b3 = (boF P n ((D ++ [a]).map (List.map (wy t)))).2 := by
                rw [e1]
                rcases i4 with ⟨q1, q2⟩ | q1
                · subst q1
                  exact absurd c50 (n_m1 (by omega))
                · exact q1
              have z := ih24 (D ++ [a]) R2 1 hj3 b3 (by have hq9 := hm; rw [List.length_cons] at hq9; omega) (by rw [i1]; simp) (by rw [(f3 106 (by simp)), x3.2 30 (by decide)]; exact i2) (Or.inl ⟨rfl, ac, R3, hR, fun j hq => (hn4 j hq).trans (by rw [hn5 j hq])⟩) ((i5.trans x3.sc).trans ⟨fun c hc => f3 c (by simp; omega), fun k _ => by rw [f3 106 (by simp)]⟩) (Or.inr hb3)
              rw [e1] at z
              exact z
          · refine q_aload_n G (pc := 53) dX11_best_53 rfl ?_
            refine q_getI (v := nI (sumR (pW P) (sqF P (oF a) t) (2 * n) (pL P))) G (pc := 54) dX11_best_54 fl_X11_162_10 (by decide) rfl x2 ?_
            refine q_istore_n G (pc := 57) dX11_best_57 (by decide) ?_
            show X _ [_, _, _, _, _] _ _ _ _
            refine q_aload_n G (pc := 58) dX11_best_58 rfl ?_
            refine q_getR (x := 121) G (pc := 59) dX11_best_59 fl_X11_56_10 rfl (hg hτ (hf_10_29 rfl)) ?_
            refine q_aload_n G (pc := 62) dX11_best_62 rfl ?_
            refine q_getI (v := nI (n)) G (pc := 63) dX11_best_63 fl_X11_212_10 (by decide) rfl (by rw [x3.2 30 (by decide)]; exact i2) ?_
            refine q_cS2E G (pc := 66) dX11_best_66 cs_X11_218 (m_numberOf (by omega) (c := 121) rfl hn6 (f := oF a) (fun j hq => by rw [x3.1 121 (by decide) (by decide) (by decide) (by decide)]; exact ha j hq)) (Nat.le_of_ble_eq_true rfl) ?_
            refine q_istore_n G (pc := 69) dX11_best_69 (by decide) ?_
            show X _ [_, _, _, _, _] _ _ _ _
            refine q_aload_n G (pc := 70) dX11_best_70 rfl ?_
            refine q_cV0I G (pc := 71) dX11_best_71 cv_X11_243 rfl (m_nextRow (by omega) hτ (m := n) (g := oF a) (by rw [x3.2 30 (by decide)]; exact i2) (fun j hq => by rw [x3.1 121 (by decide) (by decide) (by decide) (by decide)]; exact ha j hq) hn6 ha6) (Nat.le_of_ble_eq_true rfl) ?_
            intro xn hj3 hn3
            obtain ⟨hn3, f3⟩ := hn3
            rcases hn3 with ⟨rfl, hn3, -⟩ | ⟨rfl, g2, hn3, hn4⟩
            · have hR := nx_none hl6 i1 hal hn3
              refine q_istore G (pc := 74) dX11_best_74 (by decide) ?_
              show X _ [_, _, _, _, _] _ _ _ _
              refine q_goto (tgt := 24) G (pc := 76) dX11_best_76 (by decide) ?_
              have e1 : boF P n ((D ++ [a]).map (List.map (wy t))) = (nI (sumR (pW P) (sqF P (oF a) t) (2 * n) (pL P)), nI (numF (oF a) n)) := by
                rw [List.map_append, List.map_cons, List.map_nil, bo_y hal]
                exact if_neg c50
              have z := ih24 (D ++ [a]) R2 0 hj3 (nI (numF (oF a) n)) (by have hq9 := hm; rw [List.length_cons] at hq9; omega) (by rw [i1]; simp) (by rw [(f3 106 (by simp)), x3.2 30 (by decide)]; exact i2) (Or.inr ⟨rfl, hR⟩) ((i5.trans x3.sc).trans ⟨fun c hc => f3 c (by simp; omega), fun k _ => by rw [f3 106 (by simp)]⟩) (Or.inr (by rw [e1]))
              rw [e1] at z
              exact z
            · obtain ⟨ac, R3, hR, hn5⟩ := nx_some hl6 i1 hal hn3
              refine q_istore G (pc := 74) dX11_best_74 (by decide) ?_
              show X _ [_, _, _, _, _] _ _ _ _
              refine q_goto (tgt := 24) G (pc := 76) dX11_best_76 (by decide) ?_
              have e1 : boF P n ((D ++ [a]).map (List.map (wy t))) = (nI (sumR (pW P) (sqF P (oF a) t) (2 * n) (pL P)), nI (numF (oF a) n)) := by
                rw [List.map_append, List.map_cons, List.map_nil, bo_y hal]
                exact if_neg c50
              have z := ih24 (D ++ [a]) R2 1 hj3 (nI (numF (oF a) n)) (by have hq9 := hm; rw [List.length_cons] at hq9; omega) (by rw [i1]; simp) (by rw [(f3 106 (by simp)), x3.2 30 (by decide)]; exact i2) (Or.inl ⟨rfl, ac, R3, hR, fun j hq => (hn4 j hq).trans (by rw [hn5 j hq])⟩) ((i5.trans x3.sc).trans ⟨fun c hc => f3 c (by simp; omega), fun k _ => by rw [f3 106 (by simp)]⟩) (Or.inr (by rw [e1]))
              rw [e1] at z
              exact z
        · refine q_iload G (pc := 24) dX11_best_24 rfl ?_
          refine q_if_eqN (tgt := 79) G (pc := 26) dX11_best_26 (by decide) (by omega) (fun _ => ?_) (fun c26 => absurd c26 (by decide))
          refine q_iload_n G (pc := 79) dX11_best_79 rfl ?_
          refine q_if_neN (tgt := 87) G (pc := 80) dX11_best_80 (by decide) (by omega) (fun c80 => ?_) (fun c80 => ?_)
          · refine q_iload_n G (pc := 87) dX11_best_87 rfl ?_
            refine q_iret G (pc := 88) dX11_best_88 (Or.inl rfl) ?_
            rw [List.append_nil] at i1
            have hne : D ≠ [] := by
              intro q
              obtain ⟨R, hpd⟩ := pm_hd hl6 hS6 hlS
              rw [hpd, q] at i1
              cases i1
            have e9 : boA P n f t = (boF P n (D.map (List.map (wy t)))) := by
              unfold boA
              rw [bL_pm hS6 hl6 hlS hpc0, i1]
            have e8 : (boA P n f t).2 = b3 := by
              rw [e9]
              rcases i4 with ⟨q1, q2⟩ | q1
              · exact absurd q1 hne
              · exact q1.symm
            have hk1 : k = 1 := by omega
            subst hk1
            exact hM.post i5 (by rw [ix_some (s := 1) (n := 2) (by decide) (by decide)]; exact congrArg (fun z => (mkT P n f t K pn pf pt im sl N b tr, z)) e8)
          · refine q_iload_n G (pc := 83) dX11_best_83 rfl ?_
            refine q_goto (tgt := 88) G (pc := 84) dX11_best_84 (by decide) ?_
            refine q_iret G (pc := 88) dX11_best_88 (Or.inl rfl) ?_
            rw [List.append_nil] at i1
            have hne : D ≠ [] := by
              intro q
              obtain ⟨R, hpd⟩ := pm_hd hl6 hS6 hlS
              rw [hpd, q] at i1
              cases i1
            have e9 : boA P n f t = (boF P n (D.map (List.map (wy t)))) := by
              unfold boA
              rw [bL_pm hS6 hl6 hlS hpc0, i1]
            have e8 : (boA P n f t).1 = (boF P n (D.map (List.map (wy t)))).1 := by rw [e9]
            have hk1 : k = 0 := by omega
            subst hk1
            exact hM.post i5 (by rw [ix_some (s := 0) (n := 2) (by decide) (by decide)]; exact congrArg (fun z => (mkT P n f t K pn pf pt im sl N b tr, z)) e8)
    obtain ⟨R, hpd⟩ := pm_hd hl6 hS6 hlS
    have hpl : (srtN (mskF f n) (pS P)).length = n := (pm_row hl6 hpc0 (a := srtN (mskF f n) (pS P)) (by rw [hpd]; simp)).1
    rw [hpl] at y1 y2
    exact L24 _ [] (srtN (mskF f n) (pS P) :: R) 1 hj (nI 0) (Nat.lt_succ_self _) hpd y1 (Or.inl ⟨rfl, _, _, rfl, y2⟩) y3.sc (Or.inl ⟨rfl, rfl⟩)
  · refine q_if_neN (tgt := 11) G (pc := 6) dX11_best_6 (by decide) (by omega) (fun c6 => absurd c6 (by decide)) (fun _ => ?_)
    refine q_iconst (v := -1) G (pc := 9) dX11_best_9 (by decide) ?_
    refine q_iret G (pc := 10) dX11_best_10 (Or.inl rfl) ?_
    exact hM.post msc.rf (by rw [ix_none c3]; rfl)
