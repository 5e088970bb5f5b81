/-- what a walk's meeting does, and its beginning; Iv: what the walk tells of the orders that it has met -/
def hMeet (dm : Nat) (ym : MethodName) (τ : mm_T) (wk sh m lf0 : Nat) (P : PG) (nx : Nat → Nat → Nat) (nd : Nat) (Iv : List (List (Nat × Nat)) → mm_HI → Prop) : Prop := ∀ (e : Nat), dm ≤ e → ∀ (hi : mm_HI) (acc : List (List (Nat × Nat))) (pr : List (Nat × Nat)) (f : Nat → Nat) (t : Nat), Iv acc hi → rowF hi (wk + 1) m f t → (∀ j, j < m → f j < pS P) → pr.length = m → (∀ j, j < m → f j = (pr.getD j (0, 0)).1) → (∀ q ∈ pr, t / 2 ^ q.1 % 2 = q.2) → shF hi sh P nx nd → (∀ q ∈ pr, q.1 < 6 ∧ lf0 / 2 ^ q.1 % 2 = 1) → (∀ s, s < 6 → lf0 / 2 ^ s % 2 = 1 → ∃ q ∈ pr, q.1 = s) → wV e ym [.ref wk, .ref sh, .int (nI (numP pr))] hi τ (fun h => Iv (acc ++ [pr]) h ∧ h (wk + 1) = hi (wk + 1) ∧ h (wk + 2) = hi (wk + 2) ∧ h (wk + 3) = hi (wk + 3) ∧ h wk 1 = hi wk 1 ∧ h wk 2 = hi wk 2 ∧ frr wk (wen wk) hi h)
def hStab (wk : Nat) (Iv : List (List (Nat × Nat)) → mm_HI → Prop) : Prop := ∀ (acc : List (List (Nat × Nat))) (x y : mm_HI), Iv acc x → fr [wk + 1, wk + 2, wk + 3] x y → Iv acc y
theorem getD_app {pr : List (Nat × Nat)} {q : Nat × Nat} {j : Nat} (h : j < pr.length) : (pr ++ [q]).getD j (0, 0) = pr.getD j (0, 0) := by rw [List.getD_eq_getElem?_getD, List.getD_eq_getElem?_getD, List.getElem?_append_left h]
theorem getD_last {pr : List (Nat × Nat)} {q : Nat × Nat} : (pr ++ [q]).getD pr.length (0, 0) = q := by simp [List.getD_eq_getElem?_getD]
theorem wkF.put {x y : mm_HI} {wk m t0 bw ro s w t : Nat} {f : Nat → Nat} {pr : List (Nat × Nat)} {P : PG} {nx : Nat → Nat → Nat} (hS6 : pS P ≤ 6) (hb : bw = 0 ∨ bw = 1) (h7 : x wk 1 = nI bw) (h8 : x wk 2 = nI ro) (a1 : rowF x (wk + 1) m f t) (a2 : ∀ j, j < m → f j < pS P) (a3 : ∀ j, j < pr.length → f j = (pr.getD j (0, 0)).1) (a4 : ∀ q ∈ pr, t / 2 ^ q.1 % 2 = q.2) (a5 : bw = 0 → t = t0)
    (hp6 : ∀ q ∈ pr, q.1 < 6 ∧ q.1 ≠ s) (hs : s < pS P) (hw : w < 2) (hm : pr.length < m) (hmay : bw = 1 ∨ t / 2 ^ s % 2 = w) (hr : rowF y (wk + 1) m (va_up f pr.length s) (stb t s w)) (hf : fr [wk + 1, wk + 1 + 1] x y) (hn : ro = 1 → ∀ j l, j ≤ pr.length + 1 → l < pL P → x (wk + 3) (j * 3 + l) = nI (nod nx P ((pr ++ [(s, w)]).take j) l)) : wkF y wk m (pr ++ [(s, w)]) t0 bw ro P nx := by
  have ht := a1.2.2.2.2.2
  refine ⟨⟨_, _, hr, fun j hj => ?_, fun j hj => ?_, fun q hq => ?_, fun hb0 => ?_⟩, fun hro j l hj hl => ?_, by rw [hf wk (by simp <;> omega)]; exact h7, by rw [hf wk (by simp <;> omega)]; exact h8⟩
  · by_cases e : j = pr.length
    · simp [va_up, e, hs]
    · simp [va_up, e, a2 j hj]
  · by_cases e : j = pr.length
    · subst e; rw [getD_last]; simp [va_up]
    · have : j < pr.length := by simp at hj; omega
      rw [getD_app this, ← a3 j this]; simp [va_up, e]
  · rcases List.mem_append.mp hq with q1 | q1
    · obtain ⟨z1, z2⟩ := hp6 q q1
      rw [stb_bit t ht s (by omega) w hw q.1 z1, if_neg z2]
      exact a4 q q1
    · rw [List.mem_singleton.mp q1, stb_bit t ht s (by omega) w hw s (by omega), if_pos rfl]
  · rcases hmay with h1 | h1
    · omega
    · rw [← h1, stb_id t ht s (by omega)]; exact a5 hb0
  · rw [hf (wk + 3) (by simp <;> omega)]
    exact hn hro j l (by simp at hj; omega) hl
def pcn (t : Nat) : Nat := t / 2 ^ 0 % 2 + t / 2 ^ 1 % 2 + t / 2 ^ 2 % 2 + t / 2 ^ 3 % 2 + t / 2 ^ 4 % 2 + t / 2 ^ 5 % 2
theorem pcn_clr : ∀ t, t < 64 → ∀ s, s < 6 → t / 2 ^ s % 2 = 1 → pcn (stb t s 0) + 1 = pcn t := by decide +kernel
theorem pcn_0 : ∀ t, t < 64 → pcn t = 0 → t = 0 := by decide +kernel
theorem bit_lt2 (a b : Nat) : a / 2 ^ b % 2 < 2 := Nat.mod_lt _ (by decide)
set_option maxHeartbeats 4000000 in
theorem s_X9_lengthen {τ : mm_T} {sw : Bool} (hτ : τ.1 = mm_hr sw) {wk cw : Nat} (hwk : mm_lay wk = (0, cw)) (hcw : isW cw) {m t0 bw ro sh nd dm lf0 : Nat} {P : PG} {nx : Nat → Nat → Nat} {ym : MethodName} {Iv : List (List (Nat × Nat)) → mm_HI → Prop} (hsh : mm_lay sh = (0, 7)) (hb2 : bw < 2) (hr2 : ro < 2) (hm6 : m ≤ 6) (hcu : mm_CU RX9 54 ym 2 cw) (hM : hMeet dm ym τ wk sh m lf0 P nx nd Iv) (hSt : hStab wk Iv) :
    ∀ (r d : Nat) (hi : mm_HI) (acc : List (List (Nat × Nat))) (pr : List (Nat × Nat)) (lf : Nat), dm + r + 5 ≤ d → pr.length + r = m → wkF hi wk m pr t0 bw ro P nx → shF hi sh P nx nd → Iv acc hi → lf < 64 → pcn lf = r → (∀ q ∈ pr, q.1 < 6 ∧ lf / 2 ^ q.1 % 2 = 0 ∧ lf0 / 2 ^ q.1 % 2 = 1) → (∀ s, s < 6 → lf / 2 ^ s % 2 = 1 → lf0 / 2 ^ s % 2 = 1) → (∀ s, s < 6 → lf0 / 2 ^ s % 2 = 1 → lf / 2 ^ s % 2 = 1 ∨ ∃ q ∈ pr, q.1 = s) → wV d yX9_lengthen [.ref wk, .ref sh, .int (nI pr.length), .int (nI lf), .int (nI (numP pr))] hi τ (fun h => Iv (acc ++ lvs bw ro nx P t0 r pr lf) h ∧ wkF h wk m pr t0 bw ro P nx ∧ shF h sh P nx nd ∧ frr wk (wen wk) hi h) := by
  have hw7 := lyW hwk hcw
  have hwe := wen_bd wk
  have hs7 := ly7 hsh
  intro r
  induction r with
  | zero =>
    intro d hi acc pr lf hd hk hW hS hI hlf hpc hpr hsub hcov
    obtain ⟨⟨f, t, a1, a2, a3, a4, a5⟩, a6, a7, a8⟩ := id hW
    have hcov0 : ∀ s, s < 6 → lf0 / 2 ^ s % 2 = 1 → ∃ q ∈ pr, q.1 = s := by
      intro s hs h1
      rcases hcov s hs h1 with q | q
      · rw [pcn_0 lf hlf hpc] at q; simp at q
      · exact q
    refine w_intro (by omega) M_X9_lengthen (Nat.le_of_ble_eq_true rfl) rfl ?_
    intro e X he G
    show X 0 [some (.ref (wk)), some (.ref (sh)), some (.int (nI (pr.length))), some (.int (nI (lf))), some (.int (nI (numP pr))), none, none] [] hi τ 125
    refine q_iload_n G (pc := 0) dX9_lengthen_0 rfl ?_
    refine q_aload_n G (pc := 1) dX9_lengthen_1 rfl ?_
    refine q_getR (x := wk + 1) G (pc := 2) dX9_lengthen_2 (flw_12 hcw) hwk (hg hτ (hf_w_0 hwk hcw)) ?_
    refine q_getI (v := nI (m)) G (pc := 5) dX9_lengthen_5 fl_X9_46_6 (by decide) (ly_w_0 hwk hcw) a1.1 ?_
    refine q_icmp_ltN (tgt := 35) G (pc := 8) dX9_lengthen_8 (by decide) (by omega) (by omega) (fun c8 => absurd c8 (by omega)) (fun _ => ?_)
    refine q_aload_n G (pc := 11) dX9_lengthen_11 rfl ?_
    refine q_getI (v := nI (ro)) G (pc := 12) dX9_lengthen_12 (flw_26 hcw) (by decide) hwk a8 ?_
    refine q_if_eqN (tgt := 27) G (pc := 15) dX9_lengthen_15 (by decide) (by omega) (fun c15 => ?_) (fun c15 => ?_)
    · refine q_aload_n G (pc := 27) dX9_lengthen_27 rfl ?_
      refine q_aload_n G (pc := 28) dX9_lengthen_28 rfl ?_
      refine q_iload G (pc := 29) dX9_lengthen_29 rfl ?_
      refine q_cU2V G (pc := 31) dX9_lengthen_31 hcu hwk (hM e (by omega) hi acc pr f t hI a1 a2 (by omega) (fun j hj => a3 j (by omega)) a4 hS (fun q hq => ⟨(hpr q hq).1, (hpr q hq).2.2⟩) hcov0) (Nat.le_of_ble_eq_true rfl) ?_
      intro hk2 hx
      obtain ⟨x1, x2, x3, x4, x5, x6, x7⟩ := hx
      refine q_vret G (pc := 34) dX9_lengthen_34 rfl ?_
      refine ⟨rfl, rfl, ?_, hW.keep x2 x3 x4 x5 x6, hS.frr hsh x7 (by omega), x7⟩
      have e1 : lvs bw ro nx P t0 0 pr lf = [pr] := if_pos (Or.inl c15)
      rw [e1]
      exact x1
    · refine q_aload_n G (pc := 18) dX9_lengthen_18 rfl ?_
      refine q_aload_n G (pc := 19) dX9_lengthen_19 rfl ?_
      refine q_iload_n G (pc := 20) dX9_lengthen_20 rfl ?_
      refine q_cU2B G (pc := 21) dX9_lengthen_21 (cuw_50 hcw) hwk (s_X9_endsRight (by omega) hτ hwk hcw (pr := pr) hsh hS (by omega) (fun l hl => by have e1 := a6 (by omega) pr.length l (Nat.le_refl _) hl; rw [List.take_length] at e1; exact e1)) (Nat.le_of_ble_eq_true rfl) (fun c21 => ?_) (fun c21 => ?_)
      · refine q_if_eqN (tgt := 34) G (pc := 24) dX9_lengthen_24 (by decide) (by omega) (fun c24 => absurd c24 (by decide)) (fun _ => ?_)
        refine q_aload_n G (pc := 27) dX9_lengthen_27 rfl ?_
        refine q_aload_n G (pc := 28) dX9_lengthen_28 rfl ?_
        refine q_iload G (pc := 29) dX9_lengthen_29 rfl ?_
        refine q_cU2V G (pc := 31) dX9_lengthen_31 hcu hwk (hM e (by omega) hi acc pr f t hI a1 a2 (by omega) (fun j hj => a3 j (by omega)) a4 hS (fun q hq => ⟨(hpr q hq).1, (hpr q hq).2.2⟩) hcov0) (Nat.le_of_ble_eq_true rfl) ?_
        intro hk2 hx
        obtain ⟨x1, x2, x3, x4, x5, x6, x7⟩ := hx
        refine q_vret G (pc := 34) dX9_lengthen_34 rfl ?_
        refine ⟨rfl, rfl, ?_, hW.keep x2 x3 x4 x5 x6, hS.frr hsh x7 (by omega), x7⟩
        have e1 : lvs bw ro nx P t0 0 pr lf = [pr] := if_pos (Or.inr c21)
        rw [e1]
        exact x1
      · refine q_if_eqN (tgt := 34) G (pc := 24) dX9_lengthen_24 (by decide) (by omega) (fun _ => ?_) (fun c24 => absurd c24 (by decide))
        refine q_vret G (pc := 34) dX9_lengthen_34 rfl ?_
        refine ⟨rfl, rfl, ?_, hW, hS, frr.rf⟩
        have e1 : lvs bw ro nx P t0 0 pr lf = [] := if_neg (fun q => by rcases q with q | q; omega; exact c21 q)
        rw [e1, List.append_nil]
        exact hI
  | succ r ih =>
    intro d hi acc pr lf hd hk hW hS hI hlf hpc hpr hsub hcov
    have hm0 : ∃ (f : Nat → Nat) (t : Nat), rowF hi (wk + 1) m f t := by obtain ⟨⟨f, t, a1, -⟩, -⟩ := id hW; exact ⟨f, t, a1⟩
    obtain ⟨f0, t00, a0⟩ := hm0
    obtain ⟨f1, f2, f3, f4, f5, f6, f7, f8, f9⟩ := id hS
    obtain ⟨o1, o2, o3, o4, o5, o6⟩ := id f4
    refine w_intro (by omega) M_X9_lengthen (Nat.le_of_ble_eq_true rfl) rfl ?_
    intro e X he G
    show X 0 [some (.ref (wk)), some (.ref (sh)), some (.int (nI (pr.length))), some (.int (nI (lf))), some (.int (nI (numP pr))), none, none] [] hi τ 125
    refine q_iload_n G (pc := 0) dX9_lengthen_0 rfl ?_
    refine q_aload_n G (pc := 1) dX9_lengthen_1 rfl ?_
    refine q_getR (x := wk + 1) G (pc := 2) dX9_lengthen_2 (flw_12 hcw) hwk (hg hτ (hf_w_0 hwk hcw)) ?_
    refine q_getI (v := nI (m)) G (pc := 5) dX9_lengthen_5 fl_X9_46_6 (by decide) (ly_w_0 hwk hcw) a0.1 ?_
    refine q_icmp_ltN (tgt := 35) G (pc := 8) dX9_lengthen_8 (by decide) (by omega) (by omega) (fun _ => ?_) (fun c8 => absurd c8 (by omega))
    refine q_iconst (v := nI 0) G (pc := 35) dX9_lengthen_35 (by decide) ?_
    refine q_istore G (pc := 36) dX9_lengthen_36 (by decide) ?_
    show X _ [_, _, _, _, _, _, _] _ _ _ _
    have L38 : ∀ (zz : Nat) (s : Nat) (hk : mm_HI) (v6 : Option Value), pS P - s < zz → s ≤ pS P → Iv (acc ++ lvt bw ro nx P t0 r pr lf s) hk → wkF hk wk m (pr) t0 bw ro P nx → shF hk sh P nx nd → frr wk (wen wk) hi hk → X 38 [some (.ref (wk)), some (.ref (sh)), some (.int (nI (pr.length))), some (.int (nI (lf))), some (.int (nI (numP pr))), some (.int (nI (s))), v6] [] hk τ 125 := by
      intro zz
      induction zz with
      | zero => intro s hk v6 hm; exact absurd hm (Nat.not_lt_zero _)
      | succ zz ih38 =>
        intro s hk v6 hm h0 g1 g2 g3 g4
        refine q_iload G (pc := 38) dX9_lengthen_38 rfl ?_
        refine q_aload_n G (pc := 40) dX9_lengthen_40 rfl ?_
        refine q_getI (v := nI (pS P)) G (pc := 41) dX9_lengthen_41 fl_X9_58_7 (by decide) hsh g3.2.1 ?_
        refine q_icmp_geN (tgt := 140) G (pc := 44) dX9_lengthen_44 (by decide) (by omega) (by omega) (fun c44 => ?_) (fun c44 => ?_)
        · refine q_vret G (pc := 140) dX9_lengthen_140 rfl ?_
          rw [show s = pS P by omega, ← lvs_eq] at g1
          exact ⟨rfl, rfl, g1, g2, g3, g4⟩
        · refine q_iconst (v := nI 0) G (pc := 47) dX9_lengthen_47 (by decide) ?_
          refine q_istore G (pc := 48) dX9_lengthen_48 (by decide) ?_
          show X _ [_, _, _, _, _, _, _] _ _ _ _
          have L50 : ∀ (zz : Nat) (w : Nat) (hk : mm_HI), 2 - w < zz → w ≤ 2 → Iv (acc ++ (lvt bw ro nx P t0 r pr lf s ++ lvw bw ro nx P t0 r pr lf s w)) hk → wkF hk wk m (pr) t0 bw ro P nx → shF hk sh P nx nd → frr wk (wen wk) hi hk → X 50 [some (.ref (wk)), some (.ref (sh)), some (.int (nI (pr.length))), some (.int (nI (lf))), some (.int (nI (numP pr))), some (.int (nI (s))), some (.int (nI (w)))] [] hk τ 125 := by
            intro zz
            induction zz with
            | zero => intro w hk hm; exact absurd hm (Nat.not_lt_zero _)
            | succ zz ih50 =>
              intro w hk hm h1 g1 g2 g3 g4
              refine q_iload G (pc := 50) dX9_lengthen_50 rfl ?_
              refine q_iconst (v := nI 2) G (pc := 52) dX9_lengthen_52 (by decide) ?_
              refine q_icmp_geN (tgt := 134) G (pc := 53) dX9_lengthen_53 (by decide) (by omega) (by omega) (fun c53 => ?_) (fun c53 => ?_)
              · refine q_iincN G (pc := 134) dX9_lengthen_134 rfl (inc1 _) (by decide) ?_
                show X _ [_, _, _, _, _, _, _] _ _ _ _
                refine q_goto (tgt := 38) G (pc := 137) dX9_lengthen_137 (by decide) ?_
                have g1b : Iv (acc ++ lvt bw ro nx P t0 r pr lf (s + 1)) hk := by rw [lvt_s]; rw [show w = 2 by omega] at g1; exact g1
                exact ih38 (s + 1) hk _ (by omega) (by omega) g1b g2 g3 g4
              · refine q_iload_n G (pc := 56) dX9_lengthen_56 rfl ?_
                refine q_iload G (pc := 57) dX9_lengthen_57 rfl ?_
                refine q_ishr G (pc := 59) dX9_lengthen_59 ?_
                refine q_iconst (v := 1) G (pc := 60) dX9_lengthen_60 (by decide) ?_
                refine q_iand G (pc := 61) dX9_lengthen_61 ?_
                rw [bit_at _ hlf _ (by omega)]
                refine q_iconst (v := nI 1) G (pc := 62) dX9_lengthen_62 (by decide) ?_
                have hbl := bit_lt2 lf s
                obtain ⟨⟨f, t, a1, a2, a3, a4, a5⟩, a6, a7, a8⟩ := id g2
                refine q_icmp_neN (tgt := 128) G (pc := 63) dX9_lengthen_63 (by decide) (by omega) (by omega) (fun c63 => ?_) (fun c63 => ?_)
                · refine q_iincN G (pc := 128) dX9_lengthen_128 rfl (inc1 _) (by decide) ?_
                  show X _ [_, _, _, _, _, _, _] _ _ _ _
                  refine q_goto (tgt := 50) G (pc := 131) dX9_lengthen_131 (by decide) ?_
                  have e1 : lvb bw ro nx P t0 r pr lf s w = [] := if_neg (fun q => c63 q.1)
                  have g1b : Iv (acc ++ (lvt bw ro nx P t0 r pr lf s ++ lvw bw ro nx P t0 r pr lf s (w + 1))) hk := by rw [lvw_s, e1, List.append_nil]; exact g1
                  exact ih50 (w + 1) hk (by omega) (by omega) g1b g2 g3 g4
                · refine q_aload_n G (pc := 66) dX9_lengthen_66 rfl ?_
                  refine q_iload G (pc := 67) dX9_lengthen_67 rfl ?_
                  refine q_iload G (pc := 69) dX9_lengthen_69 rfl ?_
                  refine q_cU2B G (pc := 71) dX9_lengthen_71 (cuw_63 hcw) hwk (s_X9_mayLie (by omega) hτ hwk hcw a1 a7 hb2 (s := s) (w := w) (by omega) (by omega)) (Nat.le_of_ble_eq_true rfl) (fun c71 => ?_) (fun c71 => ?_)
                  · have hmay : bw = 1 ∨ t0 / 2 ^ s % 2 = w := by
                      rcases c71 with q | q
                      · exact Or.inl q
                      · by_cases hb0 : bw = 0
                        · rw [a5 hb0] at q; exact Or.inr q
                        · exact Or.inl (by omega)
                    refine q_if_eqN (tgt := 128) G (pc := 74) dX9_lengthen_74 (by decide) (by omega) (fun c74 => absurd c74 (by decide)) (fun _ => ?_)
                    refine q_aload_n G (pc := 77) dX9_lengthen_77 rfl ?_
                    refine q_aload_n G (pc := 78) dX9_lengthen_78 rfl ?_
                    refine q_iload_n G (pc := 79) dX9_lengthen_79 rfl ?_
                    refine q_iload G (pc := 80) dX9_lengthen_80 rfl ?_
                    refine q_iload G (pc := 82) dX9_lengthen_82 rfl ?_
                    refine q_cU4I G (pc := 84) dX9_lengthen_84 (cuw_67 hcw) hwk (s_X9_goesOn (by omega) hτ hwk hcw (pr := pr) (s := s) (w := w) hsh g3 a8 hr2 (by omega) (by omega) (by omega) (fun hro l hl => by have e1 := a6 hro pr.length l (Nat.le_refl _) hl; rw [List.take_length] at e1; exact e1)) (Nat.le_of_ble_eq_true rfl) ?_
                    intro xg hk2 hx
                    rcases hx with ⟨rfl, hx⟩ | ⟨rfl, hro, x3, x4, x5⟩
                    · have hliv : ro = 0 ∨ livB nx P (pr ++ [(s, w)]) = true := by
                        rcases hx with ⟨q1, q2⟩ | ⟨q1, q2, -⟩
                        · exact Or.inl q1
                        · exact Or.inr q2
                      have x4c : fr [wk + 1, wk + 2, wk + 3] hk hk2 := by
                        rcases hx with ⟨q1, rfl⟩ | ⟨q1, q2, q3, q4, q5⟩
                        · exact fr.rf
                        · exact fun c hc => q4 c (by simp at hc ⊢; omega)
                      have x4d : fr [wk + 3] hk hk2 := by
                        rcases hx with ⟨q1, rfl⟩ | ⟨q1, q2, q3, q4, q5⟩
                        · exact fr.rf
                        · exact q4
                      have x4b : frr wk (wen wk) hk hk2 := fun c hc => x4d c (by simp; omega)
                      have x4w : hk2 wk = hk wk := x4d wk (by simp)
                      have b1 : rowF hk2 (wk + 1) m f t := a1.keep (x4d _ (by simp)) (x4d _ (by simp))
                      have b2 : ro = 1 → ∀ j l, j ≤ pr.length + 1 → l < pL P → hk2 (wk + 3) (j * 3 + l) = nI (nod nx P ((pr ++ [(s, w)]).take j) l) := by
                        intro hro j l hj hl
                        rcases hx with ⟨q1, q2⟩ | ⟨q1, q2, q3, q4, q5⟩
                        · omega
                        · by_cases e1 : j = pr.length + 1
                          · subst e1
                            rw [List.take_of_length_le (by simp), show (pr.length + 1) * 3 + l = pr.length * 3 + 3 + l by omega]
                            exact q3 l hl
                          · rw [q5 (j * 3 + l) (by omega), List.take_append_of_le_length (by omega)]
                            exact a6 hro j l (by omega) hl
                      refine q_if_eqN (tgt := 128) G (pc := 87) dX9_lengthen_87 (by decide) (by omega) (fun c87 => absurd c87 (by decide)) (fun _ => ?_)
                      refine q_aload_n G (pc := 90) dX9_lengthen_90 rfl ?_
                      refine q_getR (x := wk + 1) G (pc := 91) dX9_lengthen_91 (flw_12 hcw) hwk (hg hτ (hf_w_0 hwk hcw)) ?_
                      refine q_iload_n G (pc := 94) dX9_lengthen_94 rfl ?_
                      refine q_iload G (pc := 95) dX9_lengthen_95 rfl ?_
                      refine q_iload G (pc := 97) dX9_lengthen_97 rfl ?_
                      refine q_cV3V G (pc := 99) dX9_lengthen_99 cv_X9_71 (ly_w_0 hwk hcw) (s_X6_put (by omega) hτ (ly_w_0 hwk hcw) (p := pr.length) (s := s) (w := w) b1 (by omega) (by omega) (by omega)) (Nat.le_of_ble_eq_true rfl) ?_
                      intro hk3 hz
                      obtain ⟨z1, z2⟩ := hz
                      refine q_aload_n G (pc := 102) dX9_lengthen_102 rfl ?_
                      refine q_aload_n G (pc := 103) dX9_lengthen_103 rfl ?_
                      refine q_iload_n G (pc := 104) dX9_lengthen_104 rfl ?_
                      refine q_iconst (v := nI 1) G (pc := 105) dX9_lengthen_105 (by decide) ?_
                      refine q_iaddN G (pc := 106) dX9_lengthen_106 ?_
                      refine q_iload_n G (pc := 107) dX9_lengthen_107 rfl ?_
                      refine q_iconst (v := 1) G (pc := 108) dX9_lengthen_108 (by decide) ?_
                      refine q_iload G (pc := 109) dX9_lengthen_109 rfl ?_
                      refine q_ishl G (pc := 111) dX9_lengthen_111 ?_
                      refine q_iconst (v := -1) G (pc := 112) dX9_lengthen_112 (by decide) ?_
                      refine q_ixor G (pc := 113) dX9_lengthen_113 ?_
                      refine q_iand G (pc := 114) dX9_lengthen_114 ?_
                      rw [(bit_clr _ hlf _ (by omega)).1]
                      refine q_iload G (pc := 115) dX9_lengthen_115 rfl ?_
                      refine q_bipush (v := nI 10) G (pc := 117) dX9_lengthen_117 (by decide) ?_
                      refine q_imulN G (pc := 119) dX9_lengthen_119 ?_
                      refine q_iload G (pc := 120) dX9_lengthen_120 rfl ?_
                      refine q_iaddN G (pc := 122) dX9_lengthen_122 ?_
                      refine q_iconst (v := nI 1) G (pc := 123) dX9_lengthen_123 (by decide) ?_
                      refine q_iaddN G (pc := 124) dX9_lengthen_124 ?_
                      rw [← numP_s pr s w]
                      have hlen : (pr ++ [(s, w)]).length = pr.length + 1 := by simp
                      rw [← hlen]
                      have hbm : bw = 0 ∨ bw = 1 := by omega
                      have hwk2 : wkF hk3 wk m (pr ++ [(s, w)]) t0 bw ro P nx := wkF.put o3 hbm (by rw [x4w]; exact a7) (by rw [x4w]; exact a8) b1 a2 a3 a4 a5 (fun q hq => ⟨(hpr q hq).1, fun hz => by have := (hpr q hq).2.1; rw [hz] at this; omega⟩) (by omega) (by omega) (by omega) c71 z1 z2 b2
                      have hsh3 := (g3.frr hsh x4b (by omega)).frr hsh (frr.row z2 (a := wk) (b := wen wk) (by omega) (by omega)) (by omega)
                      have hI3 : Iv (acc ++ (lvt bw ro nx P t0 r pr lf s ++ lvw bw ro nx P t0 r pr lf s w)) hk3 := hSt _ _ _ (hSt _ _ _ g1 x4c) (fun c hc => z2 c (by simp at hc ⊢; omega))
                      have hpr2 : ∀ q ∈ pr ++ [(s, w)], q.1 < 6 ∧ stb lf s 0 / 2 ^ q.1 % 2 = 0 ∧ lf0 / 2 ^ q.1 % 2 = 1 := by
                        intro q hq
                        rcases List.mem_append.mp hq with q1 | q1
                        · obtain ⟨z5, z6, z7⟩ := hpr q q1
                          refine ⟨z5, ?_, z7⟩
                          rw [stb_bit lf hlf s (by omega) 0 (by omega) q.1 z5]
                          split
                          · rfl
                          · exact z6
                        · rw [List.mem_singleton.mp q1]
                          exact ⟨by show s < 6; omega, by rw [stb_bit lf hlf s (by omega) 0 (by omega) s (by omega), if_pos rfl], hsub s (by omega) c63⟩
                      have hsub2 : ∀ z, z < 6 → stb lf s 0 / 2 ^ z % 2 = 1 → lf0 / 2 ^ z % 2 = 1 := by
                        intro z hz h1
                        rw [stb_bit lf hlf s (by omega) 0 (by omega) z hz] at h1
                        split at h1
                        · cases h1
                        · exact hsub z hz h1
                      have hcov2 : ∀ z, z < 6 → lf0 / 2 ^ z % 2 = 1 → stb lf s 0 / 2 ^ z % 2 = 1 ∨ ∃ q ∈ pr ++ [(s, w)], q.1 = z := by
                        intro z hz h1
                        by_cases hzs : z = s
                        · exact Or.inr ⟨(s, w), by simp, hzs.symm⟩
                        · rcases hcov z hz h1 with q | ⟨q, q1, q2⟩
                          · left; rw [stb_bit lf hlf s (by omega) 0 (by omega) z hz, if_neg hzs]; exact q
                          · exact Or.inr ⟨q, List.mem_append_left _ q1, q2⟩
                      refine q_cU4V G (pc := 125) dX9_lengthen_125 (cuw_42 hcw) hwk (ih e hk3 (acc ++ (lvt bw ro nx P t0 r pr lf s ++ lvw bw ro nx P t0 r pr lf s w)) (pr ++ [(s, w)]) (stb lf s 0) (by omega) (by rw [hlen]; omega) hwk2 hsh3 hI3 (bit_clr _ hlf _ (by omega)).2 (by have := pcn_clr lf hlf s (by omega) c63; omega) hpr2 hsub2 hcov2) (Nat.le_of_ble_eq_true rfl) ?_
                      intro hk4 hy
                      obtain ⟨y1, y2, y3, y4⟩ := hy
                      refine q_iincN G (pc := 128) dX9_lengthen_128 rfl (inc1 _) (by decide) ?_
                      show X _ [_, _, _, _, _, _, _] _ _ _ _
                      refine q_goto (tgt := 50) G (pc := 131) dX9_lengthen_131 (by decide) ?_
                      have e1 : lvb bw ro nx P t0 r pr lf s w = lvs bw ro nx P t0 r (pr ++ [(s, w)]) (stb lf s 0) := if_pos ⟨c63, hmay, hliv⟩
                      have g1b : Iv (acc ++ (lvt bw ro nx P t0 r pr lf s ++ lvw bw ro nx P t0 r pr lf s (w + 1))) hk4 := by rw [lvw_s, e1, ← List.append_assoc, ← List.append_assoc]; rw [← List.append_assoc] at y1; exact y1
                      exact ih50 (w + 1) hk4 (by omega) (by omega) g1b y2.drop y3 (((g4.trans x4b).trans (frr.row z2 (by omega) (by omega))).trans y4)
                    · refine q_if_eqN (tgt := 128) G (pc := 87) dX9_lengthen_87 (by decide) (by omega) (fun _ => ?_) (fun c87 => absurd c87 (by decide))
                      refine q_iincN G (pc := 128) dX9_lengthen_128 rfl (inc1 _) (by decide) ?_
                      show X _ [_, _, _, _, _, _, _] _ _ _ _
                      refine q_goto (tgt := 50) G (pc := 131) dX9_lengthen_131 (by decide) ?_
                      have x4b : frr wk (wen wk) hk hk2 := fun c hc => x4 c (by simp; omega)
                      have g2b : wkF hk2 wk m pr t0 bw ro P nx := ⟨⟨f, t, a1.keep (x4 _ (by simp)) (x4 _ (by simp)), a2, a3, a4, a5⟩, fun hro j l hj hl => by rw [x5 (j * 3 + l) (by omega)]; exact a6 hro j l hj hl, by rw [x4 wk (by simp)]; exact a7, by rw [x4 wk (by simp)]; exact a8⟩
                      have e1 : lvb bw ro nx P t0 r pr lf s w = [] := if_neg (fun q => by rcases q.2.2 with q1 | q1; omega; rw [x3] at q1; cases q1)
                      have g1b : Iv (acc ++ (lvt bw ro nx P t0 r pr lf s ++ lvw bw ro nx P t0 r pr lf s (w + 1))) hk2 := by rw [lvw_s, e1, List.append_nil]; exact (hSt _ _ _ g1 (fun c hc => x4 c (by simp at hc ⊢; omega)))
                      exact ih50 (w + 1) hk2 (by omega) (by omega) g1b g2b (g3.frr hsh x4b (by omega)) (g4.trans x4b)
                  · refine q_if_eqN (tgt := 128) G (pc := 74) dX9_lengthen_74 (by decide) (by omega) (fun _ => ?_) (fun c74 => absurd c74 (by decide))
                    refine q_iincN G (pc := 128) dX9_lengthen_128 rfl (inc1 _) (by decide) ?_
                    show X _ [_, _, _, _, _, _, _] _ _ _ _
                    refine q_goto (tgt := 50) G (pc := 131) dX9_lengthen_131 (by decide) ?_
                    have e1 : lvb bw ro nx P t0 r pr lf s w = [] := if_neg (fun q => c71 (by rcases q.2.1 with q1 | q1; exact Or.inl q1; by_cases hb0 : bw = 0; rw [a5 hb0]; exact Or.inr q1; exact Or.inl (by omega)))
                    have g1b : Iv (acc ++ (lvt bw ro nx P t0 r pr lf s ++ lvw bw ro nx P t0 r pr lf s (w + 1))) hk := by rw [lvw_s, e1, List.append_nil]; exact g1
                    exact ih50 (w + 1) hk (by omega) (by omega) g1b g2 g3 g4
          exact L50 _ 0 hk (Nat.lt_succ_self _) (by omega) (by unfold lvw; simpa using g1) g2 g3 g4
    exact L38 _ 0 hi _ (Nat.lt_succ_self _) (by omega) (by unfold lvt; simpa using hI) hW hS frr.rf
