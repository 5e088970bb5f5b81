/-! the model sets all right orders -/
theorem tab4 (x : Int32) : (x.toInt < 0 ∨ (4 : Int) < x.toInt) ∨ x = nI 0 ∨ x = nI 1 ∨ x = nI 2 ∨ x = nI 3 ∨ x = nI 4 := by
  by_cases h : x.toInt < 0 ∨ (4 : Int) < x.toInt
  · exact Or.inl h
  · right
    obtain ⟨s, hs, rfl⟩ := tabX (x := x) (n := 4) (by omega) (by omega)
    have : s = 0 ∨ s = 1 ∨ s = 2 ∨ s = 3 ∨ s = 4 := by omega
    rcases this with rfl | rfl | rfl | rfl | rfl <;> simp
theorem moI_0 {lf m : Nat} {pv : Nat → Int32} {hk : mm_HI} (h1 : hk 106 31 = nI 0) (h2 : hk 106 32 = -9) (h3 : hk 106 33 = 1048576) (h4 : ∀ s, s < 6 → hk 122 s = -1) : moI lf (roF m pv []) hk := ⟨by rw [h1, nI_0]; rfl, h2, by rw [h3]; exact (if_pos rfl).symm, fun s hs => by rw [h4 s hs]; exact (if_pos (Or.inl rfl)).symm⟩
theorem acc_len {P : PG} {t lf : Nat} (hl : lf < 64) {D R : List (List Nat)} (h : pmL lf = D ++ R) : ((D.map (List.map (wy t))).filter (rgB P)).length ≤ 720 := by
  have h1 := pm_len lf hl
  have h2 := List.length_filter_le (rgB P) (D.map (List.map (wy t)))
  rw [List.length_map] at h2
  rw [h, List.length_append] at h1
  omega
theorem nI_s0 {c : Nat} (h : c ≤ 720) : ¬ nI c + nI 1 = 0 := by
  rw [nI_add]
  exact fun q => by have := (nI_z (by omega)).mp q; omega
set_option maxHeartbeats 2000000 in
theorem m_setOrders {d : Nat} (hd : 9 ≤ d) {hi : mm_HI} {τ : mm_T} {P : PG} {n : Nat} {f : Nat → Nat} {t K : Nat} {pn : Nat → Nat} {pf : Nat → Nat → Nat} {pt : Nat → Nat} {im : Nat → Option DK} {sl : List (Nat × Nat)} {N : Nat} {b : Nat → Nat} {tr : Int64} (hM : mS P n f t K pn pf pt im sl N b tr hi τ) {x : Int32} {lf m : Nat} (hlf : ∀ s, s < pS P → (lf / 2 ^ s % 2 = 1 ↔ ¬ nI s = x ∧ ¬ fnd f s n = none)) (hl6 : lf < 64) (hlS : ∀ s, s < 6 → lf / 2 ^ s % 2 = 1 → s < pS P) (hpc0 : pcn lf = m) : wV d yX11_setOrders [.ref 106, .int x] hi τ (fun h => moI lf (roF m (pvO f n) (oL P t m lf)) h ∧ okR lf (roF m (pvO f n) (oL P t m lf)) ∧ msc hi h) := by
  refine w_intro (by omega) M_X11_setOrders (Nat.le_of_ble_eq_true rfl) rfl ?_
  intro e X he G
  show X 0 [some (.ref (106)), some (.int (x)), none] [] hi τ 125
  obtain ⟨sw, hτ, hP, hRw, hV, hU, hI, hIV, hN, hNO, hT, hTr⟩ := id hM
  have hS6 : pS P ≤ 6 := hP.2.2.2.2.2.2.2.1
  have hL3 : pL P ≤ 3 := hP.2.2.2.2.2.2.1
  have hL1 : 1 ≤ pL P := hP.2.2.2.2.2.1
  have hW8 : (pW P).length ≤ 8 := hP.2.2.2.2.2.2.2.2.2.1
  have hn6 : n ≤ 6 := hRw.2.2.2.1
  have hfs : ∀ j, j < n → f j < pS P := hV.1.1
  have hV1 : rowV P n f := hV.1
  have hm6 : m ≤ 6 := by rw [← hpc0]; exact pcn_6 lf
  refine q_aload_n G (pc := 0) dX11_setOrders_0 rfl ?_
  refine q_iconst (v := nI 0) G (pc := 1) dX11_setOrders_1 (by decide) ?_
  refine q_putI G (pc := 2) dX11_setOrders_2 fl_X11_215_10 rfl ?_
  refine q_aload_n G (pc := 5) dX11_setOrders_5 rfl ?_
  refine q_bipush (v := -9) G (pc := 6) dX11_setOrders_6 (by decide) ?_
  refine q_putI G (pc := 8) dX11_setOrders_8 fl_X11_222_10 rfl ?_
  refine q_aload_n G (pc := 11) dX11_setOrders_11 rfl ?_
  refine q_ldc G (pc := 12) dX11_setOrders_12 kc_X11_231 ?_
  refine q_putI G (pc := 14) dX11_setOrders_14 fl_X11_228_10 rfl ?_
  refine q_iconst (v := nI 0) G (pc := 17) dX11_setOrders_17 (by decide) ?_
  refine q_istore_n G (pc := 18) dX11_setOrders_18 (by decide) ?_
  show X _ [_, _, _] _ _ _ _
  have L19 : ∀ (zz : Nat) (s : Nat) (hk : mm_HI), 6 - s < zz → s ≤ 6 → (∀ j, j < s → hk 122 j = -1) → (∀ c, c ≠ 122 → hk c = (mm_up2 (mm_up2 (mm_up2 hi 106 31 (nI 0)) 106 32 (-9)) 106 33 1048576) c) → X 19 [some (.ref (106)), some (.int (x)), some (.int (nI (s)))] [] hk τ 125 := by
    intro zz
    induction zz with
    | zero => intro s hk hm; exact absurd hm (Nat.not_lt_zero _)
    | succ zz ih19 =>
      intro s hk hm h0 g1 g2
      have sc0 : msc hi hk := by
        refine ⟨fun c hc => ?_, fun k hk2 => ?_⟩
        · rw [g2 c (by omega)]; simp [va_up, show c ≠ 106 by omega]
        · rw [g2 106 (by decide)]; simp [va_up, show k ≠ 31 by omega, show k ≠ 32 by omega, show k ≠ 33 by omega]
      refine q_iload_n G (pc := 19) dX11_setOrders_19 rfl ?_
      refine q_bipush (v := nI 6) G (pc := 20) dX11_setOrders_20 (by decide) ?_
      refine q_icmp_geN (tgt := 38) G (pc := 22) dX11_setOrders_22 (by decide) (by omega) (by omega) (fun c22 => ?_) (fun c22 => ?_)
      · refine q_aload_n G (pc := 38) dX11_setOrders_38 rfl ?_
        refine q_iload_n G (pc := 39) dX11_setOrders_39 rfl ?_
        refine q_cV1V G (pc := 40) dX11_setOrders_40 cv_X11_232 rfl (m_firstRow (by omega) (hM.sc sc0) hlf) (Nat.le_of_ble_eq_true rfl) ?_
        intro hj hx
        obtain ⟨y1, y2, y3⟩ := hx
        refine q_iconst (v := nI 1) G (pc := 43) dX11_setOrders_43 (by decide) ?_
        refine q_istore_n G (pc := 44) dX11_setOrders_44 (by decide) ?_
        show X _ [_, _, _] _ _ _ _
        have L45 : ∀ (zz : Nat) (D R : List (List Nat)) (mo : Nat) (hk : mm_HI), R.length < zz → pmL lf = D ++ R → hk 106 30 = nI m → ((mo = 1 ∧ ∃ a R2, R = a :: R2 ∧ ∀ j, j < m → hk 121 j = nI (oF a j)) ∨ (mo = 0 ∧ R = [])) → moI lf (roF m (pvO f n) ((D.map (List.map (wy t))).filter (rgB P))) hk → msc hi hk → okR lf (roF m (pvO f n) ((D.map (List.map (wy t))).filter (rgB P))) → X 45 [some (.ref (106)), some (.int (x)), some (.int (nI (mo)))] [] hk τ 125 := by
          intro zz
          induction zz with
          | zero => intro D R mo hk hm; exact absurd hm (Nat.not_lt_zero _)
          | succ zz ih45 =>
            intro D R mo hk hm i1 i2 i3 i4 i5 i6
            rcases i3 with ⟨rfl, a, R2, rfl, ha⟩ | ⟨rfl, rfl⟩
            · have hmem : a ∈ pmL lf := by rw [i1]; simp
              obtain ⟨hal, hab, hcov, hinj⟩ := pm_row hl6 hpc0 hmem
              have ha6 : ∀ j, j < m → oF a j < 6 := fun j hj => (hab j hj).1
              have haS : ∀ j, j < m → oF a j < pS P := fun j hj => hlS _ (hab j hj).1 (hab j hj).2
              have hrg := rg_iff (P := P) (o := a) (g := oF a) (t := t) hal (fun j _ => rfl)
              have hlen : ¬ (roF m (pvO f n) ((D.map (List.map (wy t))).filter (rgB P))).1 + nI 1 = 0 := by rw [roF_len]; exact nI_s0 (acc_len hl6 i1)
              refine q_iload_n G (pc := 45) dX11_setOrders_45 rfl ?_
              refine q_if_eqN (tgt := 80) G (pc := 46) dX11_setOrders_46 (by decide) (by omega) (fun c46 => absurd c46 (by decide)) (fun _ => ?_)
              refine q_aload_n G (pc := 49) dX11_setOrders_49 rfl ?_
              refine q_aload_n G (pc := 50) dX11_setOrders_50 rfl ?_
              refine q_getR (x := 121) G (pc := 51) dX11_setOrders_51 fl_X11_56_10 rfl (hg hτ (hf_10_29 rfl)) ?_
              refine q_aload_n G (pc := 54) dX11_setOrders_54 rfl ?_
              refine q_getI (v := nI (m)) G (pc := 55) dX11_setOrders_55 fl_X11_212_10 (by decide) rfl i2 ?_
              refine q_aload_n G (pc := 58) dX11_setOrders_58 rfl ?_
              refine q_getI (v := nI (t)) G (pc := 59) dX11_setOrders_59 fl_X11_133_10 (by decide) rfl (hRw.sc i5).2.1 ?_
              refine q_cV3I G (pc := 62) dX11_setOrders_62 cv_X11_236 rfl (m_isRight (by omega) hτ (hP.sc i5) (rc := 121) (m := m) (g := oF a) (T := t) ⟨Or.inr rfl, ha, haS, hm6, hRw.2.2.2.2.2⟩) (Nat.le_of_ble_eq_true rfl) ?_
              intro xr hj hz
              obtain ⟨hz, z1⟩ := hz
              rcases hz with ⟨rfl, hz⟩ | ⟨rfl, hz⟩
              · refine q_if_eqN (tgt := 72) G (pc := 65) dX11_setOrders_65 (by decide) (by omega) (fun c65 => absurd c65 (by decide)) (fun _ => ?_)
                refine q_aload_n G (pc := 68) dX11_setOrders_68 rfl ?_
                refine q_cV0V G (pc := 69) dX11_setOrders_69 cv_X11_240 rfl (m_comesRight (by omega) (hM.sc (i5.trans z1.sc)) (m := m) (g := oF a) (by rw [z1.2 30 (by decide)]; exact i2) (fun j hq => by rw [z1.1 121 (by decide) (by decide) (by decide) (by decide)]; exact ha j hq) hm6 ha6 (lf := lf) (x := (roF m (pvO f n) ((D.map (List.map (wy t))).filter (rgB P)))) (i4.keep (fun k hk2 => by rw [z1.2 k (by omega)]) (by rw [z1.1 122 (by decide) (by decide) (by decide) (by decide)])) i6 hlen hcov hinj) (Nat.le_of_ble_eq_true rfl) ?_
                intro hj2 hc2
                obtain ⟨c1, c2⟩ := hc2
                refine q_aload_n G (pc := 72) dX11_setOrders_72 rfl ?_
                refine q_cV0I G (pc := 73) dX11_setOrders_73 cv_X11_243 rfl (m_nextRow (by omega) hτ (m := m) (g := oF a) (by rw [c2.2 30 (by decide) (by decide) (by decide), z1.2 30 (by decide)]; exact i2) (fun j hq => by rw [c2.1 121 (by decide) (by decide) (by decide), z1.1 121 (by decide) (by decide) (by decide) (by decide)]; exact ha j hq) hm6 ha6) (Nat.le_of_ble_eq_true rfl) ?_
                intro xn hj3 hn3
                obtain ⟨hn3, f3⟩ := hn3
                rcases hn3 with ⟨rfl, hn3, -⟩ | ⟨rfl, g2, hn3, hn4⟩
                · have hR := nx_none hl6 i1 hal hn3
                  refine q_istore_n G (pc := 76) dX11_setOrders_76 (by decide) ?_
                  show X _ [_, _, _] _ _ _ _
                  refine q_goto (tgt := 45) G (pc := 77) dX11_setOrders_77 (by decide) ?_
                  exact ih45 (D ++ [a]) R2 0 hj3 (by have hq9 := hm; rw [List.length_cons] at hq9; omega) (by rw [i1]; simp) (by rw [(f3 106 (by simp)), c2.2 30 (by decide) (by decide) (by decide), z1.2 30 (by decide)]; exact i2) (Or.inr ⟨rfl, hR⟩) (by rw [acc_y (hrg.mpr hz), ro_y hal]; exact c1.keep (fun k _ => by rw [(f3 106 (by simp))]) (f3 122 (by simp))) (((i5.trans z1.sc).trans c2.sc).trans ⟨fun c hc => f3 c (by simp; omega), fun k _ => by rw [(f3 106 (by simp))]⟩) (by rw [acc_y (hrg.mpr hz), ro_y hal]; exact okR_s i6 hcov hinj ha6)
                · obtain ⟨ac, R3, hR, hn5⟩ := nx_some hl6 i1 hal hn3
                  refine q_istore_n G (pc := 76) dX11_setOrders_76 (by decide) ?_
                  show X _ [_, _, _] _ _ _ _
                  refine q_goto (tgt := 45) G (pc := 77) dX11_setOrders_77 (by decide) ?_
                  exact ih45 (D ++ [a]) R2 1 hj3 (by have hq9 := hm; rw [List.length_cons] at hq9; omega) (by rw [i1]; simp) (by rw [(f3 106 (by simp)), c2.2 30 (by decide) (by decide) (by decide), z1.2 30 (by decide)]; exact i2) (Or.inl ⟨rfl, ac, R3, hR, fun j hq => (hn4 j hq).trans (by rw [hn5 j hq])⟩) (by rw [acc_y (hrg.mpr hz), ro_y hal]; exact c1.keep (fun k _ => by rw [(f3 106 (by simp))]) (f3 122 (by simp))) (((i5.trans z1.sc).trans c2.sc).trans ⟨fun c hc => f3 c (by simp; omega), fun k _ => by rw [(f3 106 (by simp))]⟩) (by rw [acc_y (hrg.mpr hz), ro_y hal]; exact okR_s i6 hcov hinj ha6)
              · refine q_if_eqN (tgt := 72) G (pc := 65) dX11_setOrders_65 (by decide) (by omega) (fun _ => ?_) (fun c65 => absurd c65 (by decide))
                refine q_aload_n G (pc := 72) dX11_setOrders_72 rfl ?_
                refine q_cV0I G (pc := 73) dX11_setOrders_73 cv_X11_243 rfl (m_nextRow (by omega) hτ (m := m) (g := oF a) (by rw [z1.2 30 (by decide)]; exact i2) (fun j hq => by rw [z1.1 121 (by decide) (by decide) (by decide) (by decide)]; exact ha j hq) hm6 ha6) (Nat.le_of_ble_eq_true rfl) ?_
                intro xn hj3 hn3
                obtain ⟨hn3, f3⟩ := hn3
                rcases hn3 with ⟨rfl, hn3, -⟩ | ⟨rfl, g2, hn3, hn4⟩
                · have hR := nx_none hl6 i1 hal hn3
                  refine q_istore_n G (pc := 76) dX11_setOrders_76 (by decide) ?_
                  show X _ [_, _, _] _ _ _ _
                  refine q_goto (tgt := 45) G (pc := 77) dX11_setOrders_77 (by decide) ?_
                  exact ih45 (D ++ [a]) R2 0 hj3 (by have hq9 := hm; rw [List.length_cons] at hq9; omega) (by rw [i1]; simp) (by rw [(f3 106 (by simp)), z1.2 30 (by decide)]; exact i2) (Or.inr ⟨rfl, hR⟩) (by rw [acc_n (fun q => hz (hrg.mp q))]; exact i4.keep (fun k hk2 => by rw [(f3 106 (by simp)), z1.2 k (by omega)]) (by rw [f3 122 (by simp), z1.1 122 (by decide) (by decide) (by decide) (by decide)])) ((i5.trans z1.sc).trans ⟨fun c hc => f3 c (by simp; omega), fun k _ => by rw [(f3 106 (by simp))]⟩) (by rw [acc_n (fun q => hz (hrg.mp q))]; exact i6)
                · obtain ⟨ac, R3, hR, hn5⟩ := nx_some hl6 i1 hal hn3
                  refine q_istore_n G (pc := 76) dX11_setOrders_76 (by decide) ?_
                  show X _ [_, _, _] _ _ _ _
                  refine q_goto (tgt := 45) G (pc := 77) dX11_setOrders_77 (by decide) ?_
                  exact ih45 (D ++ [a]) R2 1 hj3 (by have hq9 := hm; rw [List.length_cons] at hq9; omega) (by rw [i1]; simp) (by rw [(f3 106 (by simp)), z1.2 30 (by decide)]; exact i2) (Or.inl ⟨rfl, ac, R3, hR, fun j hq => (hn4 j hq).trans (by rw [hn5 j hq])⟩) (by rw [acc_n (fun q => hz (hrg.mp q))]; exact i4.keep (fun k hk2 => by rw [(f3 106 (by simp)), z1.2 k (by omega)]) (by rw [f3 122 (by simp), z1.1 122 (by decide) (by decide) (by decide) (by decide)])) ((i5.trans z1.sc).trans ⟨fun c hc => f3 c (by simp; omega), fun k _ => by rw [(f3 106 (by simp))]⟩) (by rw [acc_n (fun q => hz (hrg.mp q))]; exact i6)
            · refine q_iload_n G (pc := 45) dX11_setOrders_45 rfl ?_
              refine q_if_eqN (tgt := 80) G (pc := 46) dX11_setOrders_46 (by decide) (by omega) (fun _ => ?_) (fun c46 => absurd c46 (by decide))
              refine q_vret G (pc := 80) dX11_setOrders_80 rfl ?_
              rw [List.append_nil] at i1
              subst i1
              rw [oL_pm hS6 hl6 hlS hpc0]
              exact ⟨rfl, rfl, i4, i6, i5⟩
        obtain ⟨R, hpd⟩ := pm_hd hl6 hS6 hlS
        have hpl : (srtN lf (pS P)).length = m := (pm_row hl6 hpc0 (a := srtN lf (pS P)) (by rw [hpd]; simp)).1
        rw [hpl] at y1 y2
        exact L45 _ [] (srtN lf (pS P) :: R) 1 hj (Nat.lt_succ_self _) hpd y1 (Or.inl ⟨rfl, _, _, rfl, y2⟩) (moI_0 (by rw [y3.2 31 (by decide), g2 106 (by decide)]; simp [va_up]) (by rw [y3.2 32 (by decide), g2 106 (by decide)]; simp [va_up]) (by rw [y3.2 33 (by decide), g2 106 (by decide)]; simp [va_up]) (fun j hq => by rw [y3.1 122 (by decide) (by decide)]; exact g1 j (by omega))) (sc0.trans y3.sc) (fun q => absurd rfl q)
      · refine q_aload_n G (pc := 25) dX11_setOrders_25 rfl ?_
        refine q_getR (x := 122) G (pc := 26) dX11_setOrders_26 fl_X11_59_10 rfl (hg hτ (hf_10_34 rfl)) ?_
        refine q_iload_n G (pc := 29) dX11_setOrders_29 rfl ?_
        refine q_iconst (v := -1) G (pc := 30) dX11_setOrders_30 (by decide) ?_
        refine q_iast (j := s) G (pc := 31) dX11_setOrders_31 rfl rfl (by omega) ?_
        refine q_iincN G (pc := 32) dX11_setOrders_32 rfl (inc1 _) (by decide) ?_
        show X _ [_, _, _] _ _ _ _
        refine q_goto (tgt := 19) G (pc := 35) dX11_setOrders_35 (by decide) ?_
        refine ih19 (s + 1) _ (by omega) (by omega) (fun j hq => ?_) (fun c hc => by simp [va_up, hc]; exact g2 c hc)
        by_cases q : j = s
        · rw [q]; simp [va_up]
        · simp [va_up, q]; exact g1 j (by omega)
  exact L19 _ 0 _ (Nat.lt_succ_self _) (by omega) (fun j hj => absurd hj (Nat.not_lt_zero _)) (fun _ _ => rfl)
theorem ro_out {P : PG} {n : Nat} {f : Nat → Nat} {t s : Nat} (hS : pS P ≤ 6) (hn : n ≤ 6) (hv : rowV P n f) (hs : s < 6) (h : (roA P n f t).1 = 0 ∨ mskF f n / 2 ^ s % 2 = 0) : (roA P n f t).2.2.2 s = -9 := by
  have hf : ∀ j, j < n → f j < 6 := fun j hj => by have := hv.1 j hj; omega
  rcases h with h | h
  · rw [roA_len] at h
    have hlt := oC_lt (P := P) (n := n) (lf := mskF f n) (t := t) hS hn
    have h0 : (oL P t n (mskF f n)).length = 0 := (nI_z (by unfold oC at h; omega)).mp h
    unfold roA
    rw [List.length_eq_zero_iff.mp h0]
    rfl
  · refine roF_un _ _ rfl (fun pr hpr j hj => ?_)
    rw [oL_pm hS (mskF_lt hf) (desk_S hv hf) (mskF_pcn hf hv.2)] at hpr
    obtain ⟨a, ha, rfl⟩ := List.mem_map.mp (List.mem_filter.mp hpr).1
    obtain ⟨hal, hab, -, -⟩ := pm_row (mskF_lt hf) (mskF_pcn hf hv.2) ha
    rw [ord_wy a t (by omega)]
    intro q
    have := (hab j hj).2
    rw [show oF a j = s from q] at this
    omega
theorem ro_few {P : PG} {n : Nat} {f : Nat → Nat} {t : Nat} (hS : pS P ≤ 6) (hn : n ≤ 6) (h : (roA P n f t).1 = 0) : (roA P n f t).2.2.1 = -9 := by
  rw [roA_len] at h
  have hlt := oC_lt (P := P) (n := n) (lf := mskF f n) (t := t) hS hn
  have h0 : (oL P t n (mskF f n)).length = 0 := (nI_z (by unfold oC at h; omega)).mp h
  unfold roA
  rw [List.length_eq_zero_iff.mp h0]
  rfl
def amM (P : PG) (n : Nat) (f : Nat → Nat) (t : Nat) : Nat → Nat
  | 0 => 0
  | s + 1 => amM P n f t s ||| (if fnd f s n = none then 0 else if (oL P t (n - 1) (stb (mskF f n) s 0)).length = 0 then 0 else 2 ^ s)
theorem amM_bit {P : PG} {n : Nat} {f : Nat → Nat} {t : Nat} : ∀ S, S ≤ 6 → amM P n f t S < 64 ∧ ∀ s, s < 6 → (amM P n f t S / 2 ^ s % 2 = 1 ↔ s < S ∧ fnd f s n ≠ none ∧ (oL P t (n - 1) (stb (mskF f n) s 0)).length ≠ 0)
  | 0, _ => by
    refine ⟨by show (0 : Nat) < 64; decide, fun s _ => ?_⟩
    have e : amM P n f t 0 = 0 := rfl
    rw [e, Nat.zero_div]
    exact ⟨fun h => absurd h (by decide), fun h => absurd h.1 (Nat.not_lt_zero _)⟩
  | S + 1, hS => by
    obtain ⟨ih1, ih2⟩ := amM_bit (P := P) (n := n) (f := f) (t := t) S (by omega)
    have e : amM P n f t (S + 1) = amM P n f t S ||| (if fnd f S n = none then 0 else if (oL P t (n - 1) (stb (mskF f n) S 0)).length = 0 then 0 else 2 ^ S) := rfl
    by_cases h : fnd f S n ≠ none ∧ (oL P t (n - 1) (stb (mskF f n) S 0)).length ≠ 0
    · rw [if_neg h.1, if_neg h.2] at e
      rw [e]
      refine ⟨bit_or_lt _ ih1 _ (by omega), fun s hs => ?_⟩
      rw [msk_bit _ ih1 S (by omega) s hs]
      by_cases q : s = S
      · rw [if_pos q]
        subst q
        exact ⟨fun _ => ⟨by omega, h⟩, fun _ => rfl⟩
      · rw [if_neg q, ih2 s hs]
        exact ⟨fun z => ⟨by omega, z.2⟩, fun z => ⟨by omega, z.2⟩⟩
    · have e2 : amM P n f t (S + 1) = amM P n f t S := by
        rw [e]
        by_cases h1 : fnd f S n = none
        · rw [if_pos h1, Nat.or_zero]
        · rw [if_neg h1, if_pos (Classical.byContradiction (fun z => h ⟨h1, z⟩)), Nat.or_zero]
      rw [e2]
      refine ⟨ih1, fun s hs => ?_⟩
      rw [ih2 s hs]
      refine ⟨fun z => ⟨by omega, z.2⟩, fun z => ⟨?_, z.2⟩⟩
      rcases Nat.lt_or_ge s S with q | q
      · exact q
      · have e3 : s = S := by omega
        subst e3
        exact absurd z.2 h
theorem alM_bit {P : PG} {n : Nat} {f : Nat → Nat} {t : Nat} (hf : ∀ j, j < n → f j < 6) : ∀ p, p ≤ n → alM P n f t p < 64 ∧ ∀ s, s < 6 → (alM P n f t p / 2 ^ s % 2 = 1 ↔ (∃ j, j < p ∧ f j = s) ∧ (oL P t (n - 1) (stb (mskF f n) s 0)).length ≠ 0)
  | 0, _ => by
    refine ⟨by show (0 : Nat) < 64; decide, fun s _ => ?_⟩
    have e : alM P n f t 0 = 0 := rfl
    rw [e, Nat.zero_div]
    exact ⟨fun h => absurd h (by decide), fun h => absurd h.1.choose_spec.1 (Nat.not_lt_zero _)⟩
  | p + 1, hp => by
    obtain ⟨ih1, ih2⟩ := alM_bit (P := P) (t := t) hf p (by omega)
    have hfp := hf p (by omega)
    have e : alM P n f t (p + 1) = alM P n f t p ||| (if (oL P t (n - 1) (stb (mskF f n) (f p) 0)).length = 0 then 0 else 2 ^ f p) := rfl
    by_cases h : (oL P t (n - 1) (stb (mskF f n) (f p) 0)).length = 0
    · rw [if_pos h, Nat.or_zero] at e
      rw [e]
      refine ⟨ih1, fun s hs => ?_⟩
      rw [ih2 s hs]
      constructor
      · rintro ⟨⟨j, hj, e1⟩, h2⟩
        exact ⟨⟨j, by omega, e1⟩, h2⟩
      · rintro ⟨⟨j, hj, e1⟩, h2⟩
        by_cases q : j = p
        · subst q; rw [← e1] at h2; exact absurd h h2
        · exact ⟨⟨j, by omega, e1⟩, h2⟩
    · rw [if_neg h] at e
      rw [e]
      refine ⟨bit_or_lt _ ih1 _ hfp, fun s hs => ?_⟩
      rw [msk_bit _ ih1 (f p) hfp s hs]
      by_cases q : s = f p
      · rw [if_pos q]
        subst q
        exact ⟨fun _ => ⟨⟨p, by omega, rfl⟩, h⟩, fun _ => rfl⟩
      · rw [if_neg q, ih2 s hs]
        constructor
        · rintro ⟨⟨j, hj, e1⟩, h2⟩
          exact ⟨⟨j, by omega, e1⟩, h2⟩
        · rintro ⟨⟨j, hj, e1⟩, h2⟩
          by_cases q2 : j = p
          · subst q2; exact absurd e1.symm q
          · exact ⟨⟨j, by omega, e1⟩, h2⟩
theorem am_al {P : PG} {n : Nat} {f : Nat → Nat} {t : Nat} (hS : pS P ≤ 6) (hv : rowV P n f) : amM P n f t (pS P) = alM P n f t n := by
  have hf : ∀ j, j < n → f j < 6 := fun j hj => by have := hv.1 j hj; omega
  obtain ⟨a1, a2⟩ := amM_bit (P := P) (n := n) (f := f) (t := t) (pS P) hS
  obtain ⟨b1, b2⟩ := alM_bit (P := P) (t := t) hf n (Nat.le_refl _)
  refine ext6 _ a1 _ b1 (fun s hs => ?_)
  have h1 := a2 s hs
  have h2 := b2 s hs
  have hl1 := bit_lt2 (amM P n f t (pS P)) s
  have hl2 := bit_lt2 (alM P n f t n) s
  have e : (s < pS P ∧ fnd f s n ≠ none ∧ (oL P t (n - 1) (stb (mskF f n) s 0)).length ≠ 0) ↔ ((∃ j, j < n ∧ f j = s) ∧ (oL P t (n - 1) (stb (mskF f n) s 0)).length ≠ 0) := by
    constructor
    · rintro ⟨z1, z2, z3⟩
      exact ⟨Classical.byContradiction (fun q => z2 (fnd_no (fun i hi2 e => q ⟨i, hi2, e⟩))), z3⟩
    · rintro ⟨⟨j, hj, rfl⟩, z3⟩
      exact ⟨hv.1 j hj, fun q => fnd_none q j hj rfl, z3⟩
  have h3 := h1.trans (e.trans h2.symm)
  by_cases q : amM P n f t (pS P) / 2 ^ s % 2 = 1
  · have := h3.mp q; omega
  · have : ¬ alM P n f t n / 2 ^ s % 2 = 1 := fun z => q (h3.mpr z)
    omega
set_option maxHeartbeats 2000000 in
theorem m_nextOf {d : Nat} (hd : 10 ≤ d) {hi : mm_HI} {τ : mm_T} {P : PG} {n : Nat} {f : Nat → Nat} {t K : Nat} {pn : Nat → Nat} {pf : Nat → Nat → Nat} {pt : Nat → Nat} {im : Nat → Option DK} {sl : List (Nat × Nat)} {N : Nat} {b : Nat → Nat} {tr : Int64} (hM : mS P n f t K pn pf pt im sl N b tr hi τ) {s : Nat} (hs : s < pS P) : wI d yX11_nextOf [.ref 106, .int (nI s)] hi τ (fun x h => x = (roA P n f t).2.2.2 s ∧ msc hi h) := by
  refine w_intro (by omega) M_X11_nextOf (Nat.le_of_ble_eq_true rfl) rfl ?_
  intro e X he G
  show X 0 [some (.ref (106)), some (.int (nI (s)))] [] hi τ 125
  obtain ⟨sw, hτ, hP, hRw, hV, hU, hI, hIV, hN, hNO, hT, hTr⟩ := id hM
  have hS6 : pS P ≤ 6 := hP.2.2.2.2.2.2.2.1
  have hL3 : pL P ≤ 3 := hP.2.2.2.2.2.2.1
  have hL1 : 1 ≤ pL P := hP.2.2.2.2.2.1
  have hW8 : (pW P).length ≤ 8 := hP.2.2.2.2.2.2.2.2.2.1
  have hn6 : n ≤ 6 := hRw.2.2.2.1
  have hfs : ∀ j, j < n → f j < pS P := hV.1.1
  have hV1 : rowV P n f := hV.1
  have hf6 : ∀ j, j < n → f j < 6 := hRw.2.2.2.2.1
  refine q_aload_n G (pc := 0) dX11_nextOf_0 rfl ?_
  refine q_bipush (v := -9) G (pc := 1) dX11_nextOf_1 (by decide) ?_
  refine q_cV1V G (pc := 3) dX11_nextOf_3 cv_X11_246 rfl (m_setOrders (by omega) hM (desk_lf hS6 hf6) (mskF_lt hf6) (desk_S hV1 hf6) (mskF_pcn hf6 hV1.2)) (Nat.le_of_ble_eq_true rfl) ?_
  intro hk hx
  have hx2 : moI (mskF f n) (roA P n f t) hk ∧ okR (mskF f n) (roA P n f t) ∧ msc hi hk := hx
  obtain ⟨⟨o1, o2, o3, o4⟩, o6, o5⟩ := hx2
  refine q_aload_n G (pc := 6) dX11_nextOf_6 rfl ?_
  refine q_getR (x := 122) G (pc := 7) dX11_nextOf_7 fl_X11_59_10 rfl (hg hτ (hf_10_34 rfl)) ?_
  refine q_iload_n G (pc := 10) dX11_nextOf_10 rfl ?_
  refine q_iald (j := s) (v := afM (mskF f n) (roA P n f t) s) G (pc := 11) dX11_nextOf_11 rfl rfl (by omega) (o4 s (by omega)) ?_
  refine q_iconst (v := -1) G (pc := 12) dX11_nextOf_12 (by decide) ?_
  refine q_icmp_ne (tgt := 21) G (pc := 13) dX11_nextOf_13 (by decide) (fun c13 => ?_) (fun c13 => ?_)
  · refine q_aload_n G (pc := 21) dX11_nextOf_21 rfl ?_
    refine q_getR (x := 122) G (pc := 22) dX11_nextOf_22 fl_X11_59_10 rfl (hg hτ (hf_10_34 rfl)) ?_
    refine q_iload_n G (pc := 25) dX11_nextOf_25 rfl ?_
    refine q_iald (j := s) (v := afM (mskF f n) (roA P n f t) s) G (pc := 26) dX11_nextOf_26 rfl rfl (by omega) (o4 s (by omega)) ?_
    refine q_iret G (pc := 27) dX11_nextOf_27 (Or.inl rfl) ?_
    refine ⟨rfl, _, rfl, ?_, o5⟩
    unfold afM at c13 ⊢
    by_cases q : (roA P n f t).1 = 0 ∨ mskF f n / 2 ^ s % 2 = 0
    · rw [if_pos q] at c13; exact absurd rfl c13
    · rw [if_neg q]
  · refine q_bipush (v := -9) G (pc := 16) dX11_nextOf_16 (by decide) ?_
    refine q_goto (tgt := 27) G (pc := 18) dX11_nextOf_18 (by decide) ?_
    refine q_iret G (pc := 27) dX11_nextOf_27 (Or.inl rfl) ?_
    refine ⟨rfl, _, rfl, ?_, o5⟩
    unfold afM at c13
    by_cases q : (roA P n f t).1 = 0 ∨ mskF f n / 2 ^ s % 2 = 0
    · exact (ro_out hS6 hn6 hV1 (by omega) q).symm
    · rw [if_neg q] at c13
      have hb2 := bit_lt2 (mskF f n) s
      exact absurd c13 (o6 (fun z => q (Or.inl z)) s (by omega) (by rcases Nat.eq_zero_or_pos (mskF f n / 2 ^ s % 2) with z | z; exact absurd (Or.inr z) q; omega))
set_option maxHeartbeats 2000000 in
theorem m_fewest {d : Nat} (hd : 10 ≤ d) {hi : mm_HI} {τ : mm_T} {P : PG} {n : Nat} {f : Nat → Nat} {t K : Nat} {pn : Nat → Nat} {pf : Nat → Nat → Nat} {pt : Nat → Nat} {im : Nat → Option DK} {sl : List (Nat × Nat)} {N : Nat} {b : Nat → Nat} {tr : Int64} (hM : mS P n f t K pn pf pt im sl N b tr hi τ) : wI d yX11_fewest [.ref 106] hi τ (fun x h => x = (roA P n f t).2.2.1 ∧ msc hi h) := by
  refine w_intro (by omega) M_X11_fewest (Nat.le_of_ble_eq_true rfl) rfl ?_
  intro e X he G
  show X 0 [some (.ref (106))] [] hi τ 125
  obtain ⟨sw, hτ, hP, hRw, hV, hU, hI, hIV, hN, hNO, hT, hTr⟩ := id hM
  have hS6 : pS P ≤ 6 := hP.2.2.2.2.2.2.2.1
  have hL3 : pL P ≤ 3 := hP.2.2.2.2.2.2.1
  have hL1 : 1 ≤ pL P := hP.2.2.2.2.2.1
  have hW8 : (pW P).length ≤ 8 := hP.2.2.2.2.2.2.2.2.2.1
  have hn6 : n ≤ 6 := hRw.2.2.2.1
  have hfs : ∀ j, j < n → f j < pS P := hV.1.1
  have hV1 : rowV P n f := hV.1
  have hf6 : ∀ j, j < n → f j < 6 := hRw.2.2.2.2.1
  refine q_aload_n G (pc := 0) dX11_fewest_0 rfl ?_
  refine q_bipush (v := -9) G (pc := 1) dX11_fewest_1 (by decide) ?_
  refine q_cV1V G (pc := 3) dX11_fewest_3 cv_X11_246 rfl (m_setOrders (by omega) hM (desk_lf hS6 hf6) (mskF_lt hf6) (desk_S hV1 hf6) (mskF_pcn hf6 hV1.2)) (Nat.le_of_ble_eq_true rfl) ?_
  intro hk hx
  have hx2 : moI (mskF f n) (roA P n f t) hk ∧ okR (mskF f n) (roA P n f t) ∧ msc hi hk := hx
  obtain ⟨⟨o1, o2, o3, o4⟩, o6, o5⟩ := hx2
  refine q_aload_n G (pc := 6) dX11_fewest_6 rfl ?_
  refine q_getI (v := (roA P n f t).1) G (pc := 7) dX11_fewest_7 fl_X11_215_10 (by decide) rfl o1 ?_
  refine q_if_ne (tgt := 18) G (pc := 10) dX11_fewest_10 (by decide) (fun c10 => ?_) (fun c10 => ?_)
  · refine q_aload_n G (pc := 18) dX11_fewest_18 rfl ?_
    refine q_getI (v := fwM (roA P n f t)) G (pc := 19) dX11_fewest_19 fl_X11_228_10 (by decide) rfl o3 ?_
    refine q_iret G (pc := 22) dX11_fewest_22 (Or.inl rfl) ?_
    exact ⟨rfl, _, rfl, if_neg c10, o5⟩
  · refine q_bipush (v := -9) G (pc := 13) dX11_fewest_13 (by decide) ?_
    refine q_goto (tgt := 22) G (pc := 15) dX11_fewest_15 (by decide) ?_
    refine q_iret G (pc := 22) dX11_fewest_22 (Or.inl rfl) ?_
    exact ⟨rfl, _, rfl, (ro_few hS6 hn6 c10).symm, o5⟩
set_option maxHeartbeats 2000000 in
theorem m_alienSet {d : Nat} (hd : 10 ≤ d) {hi : mm_HI} {τ : mm_T} {P : PG} {n : Nat} {f : Nat → Nat} {t K : Nat} {pn : Nat → Nat} {pf : Nat → Nat → Nat} {pt : Nat → Nat} {im : Nat → Option DK} {sl : List (Nat × Nat)} {N : Nat} {b : Nat → Nat} {tr : Int64} (hM : mS P n f t K pn pf pt im sl N b tr hi τ) : wI d yX11_alienSet [.ref 106] hi τ (fun x h => x = nI (alM P n f t n) ∧ msc hi h) := by
  refine w_intro (by omega) M_X11_alienSet (Nat.le_of_ble_eq_true rfl) rfl ?_
  intro e X he G
  show X 0 [some (.ref (106)), none, none] [] hi τ 125
  obtain ⟨sw, hτ, hP, hRw, hV, hU, hI, hIV, hN, hNO, hT, hTr⟩ := id hM
  have hS6 : pS P ≤ 6 := hP.2.2.2.2.2.2.2.1
  have hL3 : pL P ≤ 3 := hP.2.2.2.2.2.2.1
  have hL1 : 1 ≤ pL P := hP.2.2.2.2.2.1
  have hW8 : (pW P).length ≤ 8 := hP.2.2.2.2.2.2.2.2.2.1
  have hn6 : n ≤ 6 := hRw.2.2.2.1
  have hfs : ∀ j, j < n → f j < pS P := hV.1.1
  have hV1 : rowV P n f := hV.1
  have hf6 : ∀ j, j < n → f j < 6 := hRw.2.2.2.2.1
  refine q_iconst (v := nI 0) G (pc := 0) dX11_alienSet_0 (by decide) ?_
  refine q_istore_n G (pc := 1) dX11_alienSet_1 (by decide) ?_
  show X _ [_, _, _] _ _ _ _
  refine q_iconst (v := nI 0) G (pc := 2) dX11_alienSet_2 (by decide) ?_
  refine q_istore_n G (pc := 3) dX11_alienSet_3 (by decide) ?_
  show X _ [_, _, _] _ _ _ _
  have L4 : ∀ (zz : Nat) (s : Nat) (hk : mm_HI), pS P - s < zz → s ≤ pS P → msc hi hk → X 4 [some (.ref (106)), some (.int (nI (amM P n f t s))), some (.int (nI (s)))] [] hk τ 125 := by
    intro zz
    induction zz with
    | zero => intro s hk hm; exact absurd hm (Nat.not_lt_zero _)
    | succ zz ih4 =>
      intro s hk hm h0 g1
      refine q_iload_n G (pc := 4) dX11_alienSet_4 rfl ?_
      refine q_aload_n G (pc := 5) dX11_alienSet_5 rfl ?_
      refine q_getI (v := nI (pS P)) G (pc := 6) dX11_alienSet_6 fl_X11_68_10 (by decide) rfl (hP.sc g1).2.1 ?_
      refine q_icmp_geN (tgt := 50) G (pc := 9) dX11_alienSet_9 (by decide) (by omega) (by omega) (fun c9 => ?_) (fun c9 => ?_)
      · refine q_iload_n G (pc := 50) dX11_alienSet_50 rfl ?_
        refine q_iret G (pc := 51) dX11_alienSet_51 (Or.inl rfl) ?_
        have e : s = pS P := by omega
        subst e
        exact ⟨rfl, _, rfl, by rw [am_al hS6 hV1], g1⟩
      · rcases hf : fnd f s n with _ | p
        · refine q_aload_n G (pc := 12) dX11_alienSet_12 rfl ?_
          refine q_iload_n G (pc := 13) dX11_alienSet_13 rfl ?_
          refine q_cV1E G (pc := 14) dX11_alienSet_14 cv_X11_179 rfl (m_placeOf (by omega) (hM.sc g1) (s := s) (by omega)) (Nat.le_of_ble_eq_true rfl) ?_
          rw [show plI (fnd f s n) = -9 from (by rw [hf]; rfl)]
          refine q_bipush (v := -9) G (pc := 17) dX11_alienSet_17 (by decide) ?_
          refine q_icmp_eq (tgt := 44) G (pc := 19) dX11_alienSet_19 (by decide) (fun _ => ?_) (fun c19 => absurd rfl c19)
          refine q_iincN G (pc := 44) dX11_alienSet_44 rfl (inc1 _) (by decide) ?_
          show X _ [_, _, _] _ _ _ _
          refine q_goto (tgt := 4) G (pc := 47) dX11_alienSet_47 (by decide) ?_
          have e1 : amM P n f t (s + 1) = amM P n f t s := by show _ ||| _ = _; rw [if_pos hf, Nat.or_zero]
          have z := ih4 (s + 1) hk (by omega) (by omega) g1
          rw [e1] at z
          exact z
        · refine q_aload_n G (pc := 12) dX11_alienSet_12 rfl ?_
          refine q_iload_n G (pc := 13) dX11_alienSet_13 rfl ?_
          refine q_cV1E G (pc := 14) dX11_alienSet_14 cv_X11_179 rfl (m_placeOf (by omega) (hM.sc g1) (s := s) (by omega)) (Nat.le_of_ble_eq_true rfl) ?_
          rw [show plI (fnd f s n) = nI p from (by rw [hf]; rfl)]
          have hpn := fnd_some hf
          have hbs : mskF f n / 2 ^ s % 2 = 1 := (mskF_bit (by omega) hf6).mpr ⟨p, hpn.1, hpn.2.1⟩
          have hpc := pcn_clr (mskF f n) (mskF_lt hf6) s (by omega) hbs
          have hpm := mskF_pcn hf6 hV1.2
          refine q_bipush (v := -9) G (pc := 17) dX11_alienSet_17 (by decide) ?_
          refine q_icmp_eq (tgt := 44) G (pc := 19) dX11_alienSet_19 (by decide) (fun c19 => absurd c19 (nI_ne9 (by omega))) (fun _ => ?_)
          refine q_aload_n G (pc := 22) dX11_alienSet_22 rfl ?_
          refine q_iload_n G (pc := 23) dX11_alienSet_23 rfl ?_
          refine q_cV1V G (pc := 24) dX11_alienSet_24 cv_X11_246 rfl (m_setOrders (by omega) (hM.sc g1) (lf := stb (mskF f n) s 0) (m := n - 1) (wo_lf hS6 (by omega) hf6) (bit_clr _ (mskF_lt hf6) s (by omega)).2 (fun q hq hb => by rw [stb_bit _ (mskF_lt hf6) s (by omega) 0 (by omega) q hq] at hb; split at hb; cases hb; exact desk_S hV1 hf6 q hq hb) (by omega)) (Nat.le_of_ble_eq_true rfl) ?_
          intro hj hx
          obtain ⟨⟨o1, o2, o3, o4⟩, o6, o5⟩ := hx
          have hlt := oC_lt (P := P) (n := n - 1) (lf := stb (mskF f n) s 0) (t := t) hS6 (by omega)
          refine q_iload_n G (pc := 27) dX11_alienSet_27 rfl ?_
          refine q_aload_n G (pc := 28) dX11_alienSet_28 rfl ?_
          refine q_getI (v := nI ((oL P t (n - 1) (stb (mskF f n) s 0)).length)) G (pc := 29) dX11_alienSet_29 fl_X11_215_10 (by decide) rfl (o1.trans (roF_len _ _ _)) ?_
          refine q_if_leN (tgt := 41) G (pc := 32) dX11_alienSet_32 (by decide) (by omega) (fun c32 => ?_) (fun c32 => ?_)
          · refine q_iconst (v := nI 0) G (pc := 41) dX11_alienSet_41 (by decide) ?_
            refine q_ior G (pc := 42) dX11_alienSet_42 ?_
            rw [or_nI]
            refine q_istore_n G (pc := 43) dX11_alienSet_43 (by decide) ?_
            show X _ [_, _, _] _ _ _ _
            refine q_iincN G (pc := 44) dX11_alienSet_44 rfl (inc1 _) (by decide) ?_
            show X _ [_, _, _] _ _ _ _
            refine q_goto (tgt := 4) G (pc := 47) dX11_alienSet_47 (by decide) ?_
            have e1 : amM P n f t (s + 1) = amM P n f t s ||| 0 := by show _ ||| _ = _; rw [if_neg (by rw [hf]; simp), if_pos c32]
            have z := ih4 (s + 1) hj (by omega) (by omega) (g1.trans o5)
            rw [e1] at z
            exact z
          · refine q_iconst (v := 1) G (pc := 35) dX11_alienSet_35 (by decide) ?_
            refine q_iload_n G (pc := 36) dX11_alienSet_36 rfl ?_
            refine q_ishl G (pc := 37) dX11_alienSet_37 ?_
            rw [bit_one _ (by omega)]
            refine q_goto (tgt := 42) G (pc := 38) dX11_alienSet_38 (by decide) ?_
            refine q_ior G (pc := 42) dX11_alienSet_42 ?_
            rw [or_nI]
            refine q_istore_n G (pc := 43) dX11_alienSet_43 (by decide) ?_
            show X _ [_, _, _] _ _ _ _
            refine q_iincN G (pc := 44) dX11_alienSet_44 rfl (inc1 _) (by decide) ?_
            show X _ [_, _, _] _ _ _ _
            refine q_goto (tgt := 4) G (pc := 47) dX11_alienSet_47 (by decide) ?_
            have e1 : amM P n f t (s + 1) = amM P n f t s ||| 2 ^ s := by show _ ||| _ = _; rw [if_neg (by rw [hf]; simp), if_neg (by omega)]
            have z := ih4 (s + 1) hj (by omega) (by omega) (g1.trans o5)
            rw [e1] at z
            exact z
  exact L4 _ 0 hi (Nat.lt_succ_self _) (by omega) msc.rf
set_option maxHeartbeats 2000000 in
theorem m_strip {d : Nat} (hd : 11 ≤ d) {hi : mm_HI} {τ : mm_T} {P : PG} {n : Nat} {f : Nat → Nat} {t K : Nat} {pn : Nat → Nat} {pf : Nat → Nat → Nat} {pt : Nat → Nat} {im : Nat → Option DK} {sl : List (Nat × Nat)} {N : Nat} {b : Nat → Nat} {tr : Int64} (hM : mS P n f t K pn pf pt im sl N b tr hi τ) {x : Int32} {y : Int32} : wR d yX11_strip [.ref 106, .int x, .int y] hi τ (RQ (zStrip (mkT P n f t K pn pf pt im sl N b tr) (ix x (pS P)) (ix y 4)) hi τ) := by
  refine w_intro (by omega) M_X11_strip (Nat.le_of_ble_eq_true rfl) rfl ?_
  intro e X he G
  show X 0 [some (.ref (106)), some (.int (x)), some (.int (y))] [] hi τ 125
  obtain ⟨sw, hτ, hP, hRw, hV, hU, hI, hIV, hN, hNO, hT, hTr⟩ := id hM
  have hS6 : pS P ≤ 6 := hP.2.2.2.2.2.2.2.1
  have hL3 : pL P ≤ 3 := hP.2.2.2.2.2.2.1
  have hL1 : 1 ≤ pL P := hP.2.2.2.2.2.1
  have hW8 : (pW P).length ≤ 8 := hP.2.2.2.2.2.2.2.2.2.1
  have hn6 : n ≤ 6 := hRw.2.2.2.1
  have hfs : ∀ j, j < n → f j < pS P := hV.1.1
  have hV1 : rowV P n f := hV.1
  have ht6 := hRw.2.2.2.2.2
  refine q_aload_n G (pc := 0) dX11_strip_0 rfl ?_
  refine q_iload_n G (pc := 1) dX11_strip_1 rfl ?_
  refine q_cV1B G (pc := 2) dX11_strip_2 cv_X11_176 rfl (m_isStrip (by omega) hM) (Nat.le_of_ble_eq_true rfl) (fun c2 => ?_) (fun c2 => ?_)
  · obtain ⟨s, hs, rfl⟩ := c2
    refine q_if_eqN (tgt := 17) G (pc := 5) dX11_strip_5 (by decide) (by omega) (fun c5 => absurd c5 (by decide)) (fun _ => ?_)
    refine q_iload_n G (pc := 8) dX11_strip_8 rfl ?_
    refine q_iconst (v := nI 0) G (pc := 9) dX11_strip_9 (by decide) ?_
    refine q_iconst (v := nI 3) G (pc := 10) dX11_strip_10 (by decide) ?_
    refine q_cS3B G (pc := 11) dX11_strip_11 cs_X11_71 (w_iff (m_in (by omega)) (in0 (m := 3) (by decide))) (Nat.le_of_ble_eq_true rfl) (fun c11 => ?_) (fun c11 => ?_)
    · obtain ⟨k, hk0, rfl⟩ := c11
      refine q_if_neN (tgt := 19) G (pc := 14) dX11_strip_14 (by decide) (by omega) (fun _ => ?_) (fun c14 => absurd c14 (by decide))
      refine q_iload_n G (pc := 19) dX11_strip_19 rfl ?_
      refine q_if_neN (tgt := 31) G (pc := 20) dX11_strip_20 (by decide) (by omega) (fun c20 => ?_) (fun c20 => ?_)
      · refine q_iload_n G (pc := 31) dX11_strip_31 rfl ?_
        refine q_iconst (v := nI 1) G (pc := 32) dX11_strip_32 (by decide) ?_
        refine q_icmp_neN (tgt := 47) G (pc := 33) dX11_strip_33 (by decide) (by omega) (by omega) (fun c33 => ?_) (fun c33 => ?_)
        · refine q_iload_n G (pc := 47) dX11_strip_47 rfl ?_
          refine q_iconst (v := nI 2) G (pc := 48) dX11_strip_48 (by decide) ?_
          refine q_icmp_neN (tgt := 60) G (pc := 49) dX11_strip_49 (by decide) (by omega) (by omega) (fun c49 => ?_) (fun c49 => ?_)
          · refine q_aload_n G (pc := 60) dX11_strip_60 rfl ?_
            refine q_iload_n G (pc := 61) dX11_strip_61 rfl ?_
            refine q_cV1I G (pc := 62) dX11_strip_62 cv_X11_186 rfl (m_nextOf (by omega) hM hs) (Nat.le_of_ble_eq_true rfl) ?_
            intro xr hk3 hz
            obtain ⟨rfl, x5⟩ := hz
            refine q_iret G (pc := 65) dX11_strip_65 (Or.inl rfl) ?_
            have hk1 : k = 3 := by omega
            subst hk1
            exact hM.post x5 (by rw [ix_some hs (by omega), ix_some (s := 3) (n := 4) (by decide) (by decide)]; rfl)
          · refine q_aload_n G (pc := 52) dX11_strip_52 rfl ?_
            refine q_iload_n G (pc := 53) dX11_strip_53 rfl ?_
            refine q_cV1E G (pc := 54) dX11_strip_54 cv_X11_183 rfl (m_lettersOn (by omega) hM hs) (Nat.le_of_ble_eq_true rfl) ?_
            refine q_goto (tgt := 65) G (pc := 57) dX11_strip_57 (by decide) ?_
            refine q_iret G (pc := 65) dX11_strip_65 (Or.inl rfl) ?_
            have hk1 : k = 2 := by omega
            subst hk1
            exact hM.post msc.rf (by rw [ix_some hs (by omega), ix_some (s := 2) (n := 4) (by decide) (by decide)]; rfl)
        · refine q_aload_n G (pc := 36) dX11_strip_36 rfl ?_
          refine q_getI (v := nI (t)) G (pc := 37) dX11_strip_37 fl_X11_133_10 (by decide) rfl hRw.2.1 ?_
          refine q_iload_n G (pc := 40) dX11_strip_40 rfl ?_
          refine q_ishr G (pc := 41) dX11_strip_41 ?_
          rw [shr_nI (by omega) (by omega)]
          refine q_iconst (v := nI 1) G (pc := 42) dX11_strip_42 (by decide) ?_
          refine q_iand G (pc := 43) dX11_strip_43 ?_
          rw [(show nI (t / 2 ^ s) &&& nI 1 = nI (t / 2 ^ s % 2) by rw [and_nI, Nat.and_one_is_mod])]
          refine q_goto (tgt := 65) G (pc := 44) dX11_strip_44 (by decide) ?_
          refine q_iret G (pc := 65) dX11_strip_65 (Or.inl rfl) ?_
          have hk1 : k = 1 := by omega
          subst hk1
          exact hM.post msc.rf (by rw [ix_some hs (by omega), ix_some (s := 1) (n := 4) (by decide) (by decide)]; rfl)
      · refine q_aload_n G (pc := 23) dX11_strip_23 rfl ?_
        refine q_iload_n G (pc := 24) dX11_strip_24 rfl ?_
        refine q_cV1E G (pc := 25) dX11_strip_25 cv_X11_179 rfl (m_placeOf (by omega) hM (s := s) (by omega)) (Nat.le_of_ble_eq_true rfl) ?_
        refine q_goto (tgt := 65) G (pc := 28) dX11_strip_28 (by decide) ?_
        refine q_iret G (pc := 65) dX11_strip_65 (Or.inl rfl) ?_
        have hk1 : k = 0 := by omega
        subst hk1
        exact hM.post msc.rf (by rw [ix_some hs (by omega), ix_some (s := 0) (n := 4) (by decide) (by decide)]; rfl)
    · refine q_if_neN (tgt := 19) G (pc := 14) dX11_strip_14 (by decide) (by omega) (fun c14 => absurd c14 (by decide)) (fun _ => ?_)
      refine q_iconst (v := -1) G (pc := 17) dX11_strip_17 (by decide) ?_
      refine q_iret G (pc := 18) dX11_strip_18 (Or.inl rfl) ?_
      exact hM.post msc.rf (by rw [ix_some hs (by omega), ix_none c11]; rfl)
  · refine q_if_eqN (tgt := 17) G (pc := 5) dX11_strip_5 (by decide) (by omega) (fun _ => ?_) (fun c5 => absurd c5 (by decide))
    refine q_iconst (v := -1) G (pc := 17) dX11_strip_17 (by decide) ?_
    refine q_iret G (pc := 18) dX11_strip_18 (Or.inl rfl) ?_
    exact hM.post msc.rf (by rw [ix_none c2]; rfl)
set_option maxHeartbeats 2000000 in
theorem m_orders {d : Nat} (hd : 11 ≤ d) {hi : mm_HI} {τ : mm_T} {P : PG} {n : Nat} {f : Nat → Nat} {t K : Nat} {pn : Nat → Nat} {pf : Nat → Nat → Nat} {pt : Nat → Nat} {im : Nat → Option DK} {sl : List (Nat × Nat)} {N : Nat} {b : Nat → Nat} {tr : Int64} (hM : mS P n f t K pn pf pt im sl N b tr hi τ) {x : Int32} : wR d yX11_orders [.ref 106, .int x] hi τ (RQ (zOrders (mkT P n f t K pn pf pt im sl N b tr) (ix x 2)) hi τ) := by
  refine w_intro (by omega) M_X11_orders (Nat.le_of_ble_eq_true rfl) rfl ?_
  intro e X he G
  show X 0 [some (.ref (106)), some (.int (x))] [] hi τ 125
  obtain ⟨sw, hτ, hP, hRw, hV, hU, hI, hIV, hN, hNO, hT, hTr⟩ := id hM
  have hS6 : pS P ≤ 6 := hP.2.2.2.2.2.2.2.1
  have hL3 : pL P ≤ 3 := hP.2.2.2.2.2.2.1
  have hL1 : 1 ≤ pL P := hP.2.2.2.2.2.1
  have hW8 : (pW P).length ≤ 8 := hP.2.2.2.2.2.2.2.2.2.1
  have hn6 : n ≤ 6 := hRw.2.2.2.1
  have hfs : ∀ j, j < n → f j < pS P := hV.1.1
  have hV1 : rowV P n f := hV.1
  have hf6 : ∀ j, j < n → f j < 6 := hRw.2.2.2.2.1
  refine q_iload_n G (pc := 0) dX11_orders_0 rfl ?_
  refine q_iconst (v := nI 0) G (pc := 1) dX11_orders_1 (by decide) ?_
  refine q_iconst (v := nI 1) G (pc := 2) dX11_orders_2 (by decide) ?_
  refine q_cS3B G (pc := 3) dX11_orders_3 cs_X11_71 (w_iff (m_in (by omega)) (in0 (m := 1) (by decide))) (Nat.le_of_ble_eq_true rfl) (fun c3 => ?_) (fun c3 => ?_)
  · obtain ⟨k, hk0, rfl⟩ := c3
    refine q_if_neN (tgt := 11) G (pc := 6) dX11_orders_6 (by decide) (by omega) (fun _ => ?_) (fun c6 => absurd c6 (by decide))
    refine q_aload_n G (pc := 11) dX11_orders_11 rfl ?_
    refine q_bipush (v := -9) G (pc := 12) dX11_orders_12 (by decide) ?_
    refine q_cV1V G (pc := 14) dX11_orders_14 cv_X11_246 rfl (m_setOrders (by omega) hM (desk_lf hS6 hf6) (mskF_lt hf6) (desk_S hV1 hf6) (mskF_pcn hf6 hV1.2)) (Nat.le_of_ble_eq_true rfl) ?_
    intro hk hx
    have hx2 : moI (mskF f n) (roA P n f t) hk ∧ okR (mskF f n) (roA P n f t) ∧ msc hi hk := hx
    obtain ⟨⟨o1, o2, o3, o4⟩, o6, o5⟩ := hx2
    refine q_iload_n G (pc := 17) dX11_orders_17 rfl ?_
    refine q_if_neN (tgt := 28) G (pc := 18) dX11_orders_18 (by decide) (by omega) (fun c18 => ?_) (fun c18 => ?_)
    · refine q_aload_n G (pc := 28) dX11_orders_28 rfl ?_
      refine q_getI (v := (roA P n f t).2.1) G (pc := 29) dX11_orders_29 fl_X11_222_10 (by decide) rfl o2 ?_
      refine q_iret G (pc := 32) dX11_orders_32 (Or.inl rfl) ?_
      have hk1 : k = 1 := by omega
      subst hk1
      exact hM.post o5 (by rw [ix_some (s := 1) (n := 2) (by decide) (by decide)]; rfl)
    · refine q_aload_n G (pc := 21) dX11_orders_21 rfl ?_
      refine q_getI (v := (roA P n f t).1) G (pc := 22) dX11_orders_22 fl_X11_215_10 (by decide) rfl o1 ?_
      refine q_goto (tgt := 32) G (pc := 25) dX11_orders_25 (by decide) ?_
      refine q_iret G (pc := 32) dX11_orders_32 (Or.inl rfl) ?_
      have hk1 : k = 0 := by omega
      subst hk1
      exact hM.post o5 (by rw [ix_some (s := 0) (n := 2) (by decide) (by decide)]; rfl)
  · refine q_if_neN (tgt := 11) G (pc := 6) dX11_orders_6 (by decide) (by omega) (fun c6 => absurd c6 (by decide)) (fun _ => ?_)
    refine q_iconst (v := -1) G (pc := 9) dX11_orders_9 (by decide) ?_
    refine q_iret G (pc := 10) dX11_orders_10 (Or.inl rfl) ?_
    exact hM.post msc.rf (by rw [ix_none c3]; rfl)
set_option maxHeartbeats 2000000 in
theorem m_now {d : Nat} (hd : 11 ≤ d) {hi : mm_HI} {τ : mm_T} {P : PG} {n : Nat} {f : Nat → Nat} {t K : Nat} {pn : Nat → Nat} {pf : Nat → Nat → Nat} {pt : Nat → Nat} {im : Nat → Option DK} {sl : List (Nat × Nat)} {N : Nat} {b : Nat → Nat} {tr : Int64} (hM : mS P n f t K pn pf pt im sl N b tr hi τ) {x : Int32} : wR d yX11_now [.ref 106, .int x] hi τ (RQ (zNow (mkT P n f t K pn pf pt im sl N b tr) (ix x 6)) hi τ) := by
  refine w_intro (by omega) M_X11_now (Nat.le_of_ble_eq_true rfl) rfl ?_
  intro e X he G
  show X 0 [some (.ref (106)), some (.int (x))] [] hi τ 125
  obtain ⟨sw, hτ, hP, hRw, hV, hU, hI, hIV, hN, hNO, hT, hTr⟩ := id hM
  have hS6 : pS P ≤ 6 := hP.2.2.2.2.2.2.2.1
  have hL3 : pL P ≤ 3 := hP.2.2.2.2.2.2.1
  have hL1 : 1 ≤ pL P := hP.2.2.2.2.2.1
  have hW8 : (pW P).length ≤ 8 := hP.2.2.2.2.2.2.2.2.2.1
  have hn6 : n ≤ 6 := hRw.2.2.2.1
  have hfs : ∀ j, j < n → f j < pS P := hV.1.1
  have hV1 : rowV P n f := hV.1
  refine q_iload_n G (pc := 0) dX11_now_0 rfl ?_
  refine q_iconst (v := nI 0) G (pc := 1) dX11_now_1 (by decide) ?_
  refine q_iconst (v := nI 5) G (pc := 2) dX11_now_2 (by decide) ?_
  refine q_cS3B G (pc := 3) dX11_now_3 cs_X11_71 (w_iff (m_in (by omega)) (in0 (m := 5) (by decide))) (Nat.le_of_ble_eq_true rfl) (fun c3 => ?_) (fun c3 => ?_)
  · refine q_if_neN (tgt := 11) G (pc := 6) dX11_now_6 (by decide) (by omega) (fun _ => ?_) (fun c6 => absurd c6 (by decide))
    refine q_iload_n G (pc := 11) dX11_now_11 rfl ?_
    rcases tab4 (x) with k12 | k12 | k12 | k12 | k12 | k12
    · refine q_tableOut (tgt := 80) G (pc := 12) dX11_now_12 (k12) (by decide) ?_
      refine q_aload_n G (pc := 80) dX11_now_80 rfl ?_
      refine q_cV0I G (pc := 81) dX11_now_81 cv_X11_258 rfl (m_fewest (by omega) hM) (Nat.le_of_ble_eq_true rfl) ?_
      intro xr hk3 hz
      obtain ⟨rfl, x5⟩ := hz
      refine q_iret G (pc := 84) dX11_now_84 (Or.inl rfl) ?_
      have hx5 : x = nI 5 := by
        rcases tab5 x with q | q | q | q | q | q | q
        · exact absurd c3 (tab_n (n := 5) (by decide) q)
        · subst q; exact absurd k12 (by decide +kernel)
        · subst q; exact absurd k12 (by decide +kernel)
        · subst q; exact absurd k12 (by decide +kernel)
        · subst q; exact absurd k12 (by decide +kernel)
        · subst q; exact absurd k12 (by decide +kernel)
        · exact q
      subst hx5
      exact hM.post x5 (by rw [ix_some (s := 5) (n := 6) (by decide) (by decide)]; rfl)
    · subst k12
      refine q_tableIn (off := 36) (tgt := 48) G (pc := 12) dX11_now_12 (by decide) (by decide) (by decide) (by decide) ?_
      refine q_aload_n G (pc := 48) dX11_now_48 rfl ?_
      refine q_getI (v := nI (n)) G (pc := 49) dX11_now_49 fl_X11_75_10 (by decide) rfl hRw.1 ?_
      refine q_iret G (pc := 52) dX11_now_52 (Or.inl rfl) ?_
      exact hM.post msc.rf (by rw [ix_some (s := 0) (n := 6) (by decide) (by decide)]; rfl)
    · subst k12
      refine q_tableIn (off := 41) (tgt := 53) G (pc := 12) dX11_now_12 (by decide) (by decide) (by decide) (by decide) ?_
      refine q_aload_n G (pc := 53) dX11_now_53 rfl ?_
      refine q_cV0I G (pc := 54) dX11_now_54 cv_X11_249 rfl (m_rightSetNow (by omega) hM) (Nat.le_of_ble_eq_true rfl) ?_
      intro xr hk3 hz
      obtain ⟨rfl, x5⟩ := hz
      refine q_iret G (pc := 57) dX11_now_57 (Or.inl rfl) ?_
      exact hM.post x5 (by rw [ix_some (s := 1) (n := 6) (by decide) (by decide)]; rfl)
    · subst k12
      refine q_tableIn (off := 46) (tgt := 58) G (pc := 12) dX11_now_12 (by decide) (by decide) (by decide) (by decide) ?_
      refine q_aload_n G (pc := 58) dX11_now_58 rfl ?_
      refine q_cV0I G (pc := 59) dX11_now_59 cv_X11_252 rfl (m_rightRunsNow (by omega) hM) (Nat.le_of_ble_eq_true rfl) ?_
      intro xr hk3 hz
      obtain ⟨rfl, x5⟩ := hz
      refine q_iret G (pc := 62) dX11_now_62 (Or.inl rfl) ?_
      exact hM.post x5 (by rw [ix_some (s := 2) (n := 6) (by decide) (by decide)]; rfl)
    · subst k12
      refine q_tableIn (off := 51) (tgt := 63) G (pc := 12) dX11_now_12 (by decide) (by decide) (by decide) (by decide) ?_
      refine q_aload_n G (pc := 63) dX11_now_63 rfl ?_
      refine q_getR (x := 110) G (pc := 64) dX11_now_64 fl_X11_23_10 rfl (hg hτ (hf_10_8 rfl)) ?_
      refine q_aload_n G (pc := 67) dX11_now_67 rfl ?_
      refine q_getI (v := nI (n)) G (pc := 68) dX11_now_68 fl_X11_75_10 (by decide) rfl hRw.1 ?_
      refine q_cS2E G (pc := 71) dX11_now_71 cs_X11_218 (m_numberOf (by omega) (c := 110) rfl hn6 hRw.2.2.1) (Nat.le_of_ble_eq_true rfl) ?_
      refine q_iret G (pc := 74) dX11_now_74 (Or.inl rfl) ?_
      exact hM.post msc.rf (by rw [ix_some (s := 3) (n := 6) (by decide) (by decide)]; rfl)
    · subst k12
      refine q_tableIn (off := 63) (tgt := 75) G (pc := 12) dX11_now_12 (by decide) (by decide) (by decide) (by decide) ?_
      refine q_aload_n G (pc := 75) dX11_now_75 rfl ?_
      refine q_cV0I G (pc := 76) dX11_now_76 cv_X11_255 rfl (m_alienSet (by omega) hM) (Nat.le_of_ble_eq_true rfl) ?_
      intro xr hk3 hz
      obtain ⟨rfl, x5⟩ := hz
      refine q_iret G (pc := 79) dX11_now_79 (Or.inl rfl) ?_
      exact hM.post x5 (by rw [ix_some (s := 4) (n := 6) (by decide) (by decide)]; rfl)
  · refine q_if_neN (tgt := 11) G (pc := 6) dX11_now_6 (by decide) (by omega) (fun c6 => absurd c6 (by decide)) (fun _ => ?_)
    refine q_iconst (v := -1) G (pc := 9) dX11_now_9 (by decide) ?_
    refine q_iret G (pc := 10) dX11_now_10 (Or.inl rfl) ?_
    exact hM.post msc.rf (by rw [ix_none c3]; rfl)
set_option maxHeartbeats 2000000 in
theorem m_common {d : Nat} (hd : 1 ≤ d) {hi : mm_HI} {τ : mm_T} {a c : Nat} (ha : a < 2 ^ 31) (hc : c < 2 ^ 31) : wE d yX11_common [.int (nI a), .int (nI c)] hi τ (nI (Nat.gcd a c)) := by
  refine w_intro (by omega) M_X11_common (Nat.le_of_ble_eq_true rfl) rfl ?_
  intro e X he G
  show X 0 [some (.int (nI (a))), some (.int (nI (c))), none, none, none] [] hi τ 125
  refine q_iload_n G (pc := 0) dX11_common_0 rfl ?_
  refine q_istore_n G (pc := 1) dX11_common_1 (by decide) ?_
  show X _ [_, _, _, _, _] _ _ _ _
  refine q_iload_n G (pc := 2) dX11_common_2 rfl ?_
  refine q_istore_n G (pc := 3) dX11_common_3 (by decide) ?_
  show X _ [_, _, _, _, _] _ _ _ _
  have L4 : ∀ (zz : Nat) (x y : Nat) (v4 : Option Value), y < zz → Nat.gcd x y = Nat.gcd a c → x < 2 ^ 31 → y < 2 ^ 31 → X 4 [some (.int (nI (a))), some (.int (nI (c))), some (.int (nI (x))), some (.int (nI (y))), v4] [] hi τ 125 := by
    intro zz
    induction zz with
    | zero => intro x y v4 hm; exact absurd hm (Nat.not_lt_zero _)
    | succ zz ih4 =>
      intro x y v4 hm g1 g2 g3
      refine q_iload_n G (pc := 4) dX11_common_4 rfl ?_
      refine q_if_eqN (tgt := 21) G (pc := 5) dX11_common_5 (by decide) (by omega) (fun c5 => ?_) (fun c5 => ?_)
      · refine q_iload_n G (pc := 21) dX11_common_21 rfl ?_
        refine q_iret G (pc := 22) dX11_common_22 (Or.inl rfl) ?_
        exact ⟨rfl, rfl, by rw [← g1, c5, Nat.gcd_zero_right]⟩
      · refine q_iload_n G (pc := 8) dX11_common_8 rfl ?_
        refine q_iload_n G (pc := 9) dX11_common_9 rfl ?_
        refine q_iremN G (pc := 10) dX11_common_10 (by omega) (by omega) (by omega) ?_
        refine q_istore G (pc := 11) dX11_common_11 (by decide) ?_
        show X _ [_, _, _, _, _] _ _ _ _
        refine q_iload_n G (pc := 13) dX11_common_13 rfl ?_
        refine q_istore_n G (pc := 14) dX11_common_14 (by decide) ?_
        show X _ [_, _, _, _, _] _ _ _ _
        refine q_iload G (pc := 15) dX11_common_15 rfl ?_
        refine q_istore_n G (pc := 17) dX11_common_17 (by decide) ?_
        show X _ [_, _, _, _, _] _ _ _ _
        refine q_goto (tgt := 4) G (pc := 18) dX11_common_18 (by decide) ?_
        have hlt := Nat.mod_lt x (show y > 0 by omega)
        exact ih4 y (x % y) _ (by omega) (by rw [← g1, Nat.gcd_comm x y, Nat.gcd_rec y x, Nat.gcd_comm]) g3 (by omega)
  exact L4 _ a c _ (Nat.lt_succ_self _) rfl ha hc
set_option maxHeartbeats 2000000 in
theorem m_odds {d : Nat} (hd : 11 ≤ d) {hi : mm_HI} {τ : mm_T} {P : PG} {n : Nat} {f : Nat → Nat} {t K : Nat} {pn : Nat → Nat} {pf : Nat → Nat → Nat} {pt : Nat → Nat} {im : Nat → Option DK} {sl : List (Nat × Nat)} {N : Nat} {b : Nat → Nat} {tr : Int64} (hM : mS P n f t K pn pf pt im sl N b tr hi τ) {x : Int32} : wR d yX11_odds [.ref 106, .int x] hi τ (RQ (zOdds (mkT P n f t K pn pf pt im sl N b tr) (ix x 2)) hi τ) := by
  refine w_intro (by omega) M_X11_odds (Nat.le_of_ble_eq_true rfl) rfl ?_
  intro e X he G
  show X 0 [some (.ref (106)), some (.int (x)), none, none] [] hi τ 125
  obtain ⟨sw, hτ, hP, hRw, hV, hU, hI, hIV, hN, hNO, hT, hTr⟩ := id hM
  have hS6 : pS P ≤ 6 := hP.2.2.2.2.2.2.2.1
  have hL3 : pL P ≤ 3 := hP.2.2.2.2.2.2.1
  have hL1 : 1 ≤ pL P := hP.2.2.2.2.2.1
  have hW8 : (pW P).length ≤ 8 := hP.2.2.2.2.2.2.2.2.2.1
  have hn6 : n ≤ 6 := hRw.2.2.2.1
  have hfs : ∀ j, j < n → f j < pS P := hV.1.1
  have hV1 : rowV P n f := hV.1
  have hf6 : ∀ j, j < n → f j < 6 := hRw.2.2.2.2.1
  refine q_iload_n G (pc := 0) dX11_odds_0 rfl ?_
  refine q_iconst (v := nI 0) G (pc := 1) dX11_odds_1 (by decide) ?_
  refine q_iconst (v := nI 1) G (pc := 2) dX11_odds_2 (by decide) ?_
  refine q_cS3B G (pc := 3) dX11_odds_3 cs_X11_71 (w_iff (m_in (by omega)) (in0 (m := 1) (by decide))) (Nat.le_of_ble_eq_true rfl) (fun c3 => ?_) (fun c3 => ?_)
  · obtain ⟨k, hk0, rfl⟩ := c3
    refine q_if_neN (tgt := 11) G (pc := 6) dX11_odds_6 (by decide) (by omega) (fun _ => ?_) (fun c6 => absurd c6 (by decide))
    refine q_aload_n G (pc := 11) dX11_odds_11 rfl ?_
    refine q_bipush (v := -9) G (pc := 12) dX11_odds_12 (by decide) ?_
    refine q_cV1V G (pc := 14) dX11_odds_14 cv_X11_246 rfl (m_setOrders (by omega) hM (desk_lf hS6 hf6) (mskF_lt hf6) (desk_S hV1 hf6) (mskF_pcn hf6 hV1.2)) (Nat.le_of_ble_eq_true rfl) ?_
    intro hk hx
    have hx2 : moI (mskF f n) (roA P n f t) hk ∧ okR (mskF f n) (roA P n f t) ∧ msc hi hk := hx
    obtain ⟨⟨o1, o2, o3, o4⟩, o6, o5⟩ := hx2
    refine q_iconst (v := nI 1) G (pc := 17) dX11_odds_17 (by decide) ?_
    refine q_istore_n G (pc := 18) dX11_odds_18 (by decide) ?_
    show X _ [_, _, _, _] _ _ _ _
    refine q_iconst (v := nI 2) G (pc := 19) dX11_odds_19 (by decide) ?_
    refine q_istore_n G (pc := 20) dX11_odds_20 (by decide) ?_
    show X _ [_, _, _, _] _ _ _ _
    have L21 : ∀ (zz : Nat) (q : Nat), n + 2 - q < zz → (q = n + 1 ∨ q = 2 ∨ q ≤ n) → 2 ≤ q → X 21 [some (.ref (106)), some (.int (nI (k))), some (.int (nI (fct (q - 1)))), some (.int (nI (q)))] [] hk τ 125 := by
      intro zz
      induction zz with
      | zero => intro q hm; exact absurd hm (Nat.not_lt_zero _)
      | succ zz ih21 =>
        intro q hm h00 h2
        skip
        refine q_iload_n G (pc := 21) dX11_odds_21 rfl ?_
        refine q_aload_n G (pc := 22) dX11_odds_22 rfl ?_
        refine q_getI (v := nI (n)) G (pc := 23) dX11_odds_23 fl_X11_75_10 (by decide) rfl (hRw.sc o5).1 ?_
        refine q_icmp_gtN (tgt := 39) G (pc := 26) dX11_odds_26 (by decide) (by omega) (by omega) (fun c26 => ?_) (fun c26 => ?_)
        · have hfn : fct (q - 1) = fct n := by
            rcases h00 with z | z | z
            · rw [show q - 1 = n by omega]
            · have h01 : n = 0 ∨ n = 1 := by omega
              rcases h01 with h01 | h01 <;> rw [z, h01] <;> rfl
            · omega
          rw [hfn]
          have hf8 := fct_6 n (by omega)
          have hlt := oC_lt (P := P) (n := n) (lf := mskF f n) (t := t) hS6 hn6
          have hlt2 : oC P n f t < 3000000 := hlt
          have hgp : 0 < Nat.gcd (oC P n f t) (fct n) := Nat.gcd_pos_of_pos_right _ (by omega)
          have hgl : Nat.gcd (oC P n f t) (fct n) ≤ fct n := Nat.gcd_le_right _ (by omega)
          refine q_aload_n G (pc := 39) dX11_odds_39 rfl ?_
          refine q_getI (v := nI (oC P n f t)) G (pc := 40) dX11_odds_40 fl_X11_215_10 (by decide) rfl (o1.trans (roA_len _ _ _ _)) ?_
          refine q_iload_n G (pc := 43) dX11_odds_43 rfl ?_
          refine q_cS2E G (pc := 44) dX11_odds_44 cs_X11_264 (m_common (by omega) (by omega) (by omega)) (Nat.le_of_ble_eq_true rfl) ?_
          refine q_istore_n G (pc := 47) dX11_odds_47 (by decide) ?_
          show X _ [_, _, _, _] _ _ _ _
          refine q_iload_n G (pc := 48) dX11_odds_48 rfl ?_
          refine q_if_neN (tgt := 61) G (pc := 49) dX11_odds_49 (by decide) (by omega) (fun c49 => ?_) (fun c49 => ?_)
          · refine q_iload_n G (pc := 61) dX11_odds_61 rfl ?_
            refine q_iload_n G (pc := 62) dX11_odds_62 rfl ?_
            refine q_idivN G (pc := 63) dX11_odds_63 (by omega) (by omega) (by omega) ?_
            refine q_iret G (pc := 64) dX11_odds_64 (Or.inl rfl) ?_
            have hk1 : k = 1 := by omega
            subst hk1
            exact hM.post o5 (by rw [ix_some (s := 1) (n := 2) (by decide) (by decide)]; rfl)
          · refine q_aload_n G (pc := 52) dX11_odds_52 rfl ?_
            refine q_getI (v := nI (oC P n f t)) G (pc := 53) dX11_odds_53 fl_X11_215_10 (by decide) rfl (o1.trans (roA_len _ _ _ _)) ?_
            refine q_iload_n G (pc := 56) dX11_odds_56 rfl ?_
            refine q_idivN G (pc := 57) dX11_odds_57 (by omega) (by omega) (by omega) ?_
            refine q_goto (tgt := 64) G (pc := 58) dX11_odds_58 (by decide) ?_
            refine q_iret G (pc := 64) dX11_odds_64 (Or.inl rfl) ?_
            have hk1 : k = 0 := by omega
            subst hk1
            exact hM.post o5 (by rw [ix_some (s := 0) (n := 2) (by decide) (by decide)]; rfl)
        · refine q_iload_n G (pc := 29) dX11_odds_29 rfl ?_
          refine q_iload_n G (pc := 30) dX11_odds_30 rfl ?_
          refine q_imulN G (pc := 31) dX11_odds_31 ?_
          refine q_istore_n G (pc := 32) dX11_odds_32 (by decide) ?_
          show X _ [_, _, _, _] _ _ _ _
          refine q_iincN G (pc := 33) dX11_odds_33 rfl (inc1 _) (by decide) ?_
          show X _ [_, _, _, _] _ _ _ _
          refine q_goto (tgt := 21) G (pc := 36) dX11_odds_36 (by decide) ?_
          have e1 : fct (q - 1) * q = fct (q + 1 - 1) := by
            obtain ⟨z, rfl⟩ : ∃ z, q = z + 1 := ⟨q - 1, by omega⟩
            rw [Nat.add_sub_cancel, Nat.add_sub_cancel]
            rfl
          rw [e1]
          exact ih21 (q + 1) (by omega) (by omega) (by omega)
    exact L21 _ 2 (Nat.lt_succ_self _) (by omega) (by omega)
  · refine q_if_neN (tgt := 11) G (pc := 6) dX11_odds_6 (by decide) (by omega) (fun c6 => absurd c6 (by decide)) (fun _ => ?_)
    refine q_iconst (v := -1) G (pc := 9) dX11_odds_9 (by decide) ?_
    refine q_iret G (pc := 10) dX11_odds_10 (Or.inl rfl) ?_
    exact hM.post msc.rf (by rw [ix_none c3]; rfl)
