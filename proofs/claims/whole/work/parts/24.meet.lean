/-! the right orders: how many, the first, the fewest moved, who follows whom -/
abbrev ROS : Type := Int32 × Int32 × Int32 × (Nat → Int32)
def bhd (m : Nat) (o : Nat → Nat) (p : Nat) : Int32 := if p + 1 < m then nI (o (p + 1)) else -9
def folP (fd : Int32) (m : Nat) (o : Nat → Nat) (g : Nat → Int32) : Nat → (Nat → Int32)
  | 0 => g
  | p + 1 => if fd = 0 then va_up (folP fd m o g p) (o p) (bhd m o p) else if folP fd m o g p (o p) = bhd m o p then folP fd m o g p else va_up (folP fd m o g p) (o p) (-9)
def chq (pv : Nat → Int32) (o : Nat → Nat) (c : Nat → Nat) (p : Nat) : Nat → Nat
  | 0 => 1
  | q + 1 => if pv (o q) < pv (o p) then max (chq pv o c p q) (c q + 1) else chq pv o c p q
def chs (pv : Nat → Int32) (o : Nat → Nat) : Nat → (Nat → Nat)
  | 0 => fun _ => 0
  | p + 1 => va_up (chs pv o p) p (chq pv o (chs pv o p) p p)
def stF (pv : Nat → Int32) (o : Nat → Nat) : Nat → Nat
  | 0 => 0
  | p + 1 => max (stF pv o p) (chs pv o (p + 1) p)
theorem chq_le {pv : Nat → Int32} {o : Nat → Nat} {c : Nat → Nat} {p : Nat} (h : ∀ j, j < p → c j ≤ j + 1) : ∀ q, q ≤ p → chq pv o c p q ≤ p + 1
  | 0, _ => by unfold chq; omega
  | q + 1, hq => by
    have ih := chq_le (pv := pv) (o := o) h q (by omega)
    have := h q (by omega)
    unfold chq
    split
    · exact Nat.max_le.mpr ⟨ih, by omega⟩
    · exact ih
theorem chs_le (pv : Nat → Int32) (o : Nat → Nat) : ∀ p j, j < p → chs pv o p j ≤ j + 1
  | 0, j, h => absurd h (Nat.not_lt_zero _)
  | p + 1, j, h => by
    unfold chs
    by_cases e : j = p
    · subst e; simp [va_up]; exact chq_le (chs_le pv o j) j (Nat.le_refl _)
    · simp [va_up, e]; exact chs_le pv o p j (by omega)
theorem stF_le (pv : Nat → Int32) (o : Nat → Nat) : ∀ p, stF pv o p ≤ p
  | 0 => Nat.le_refl 0
  | p + 1 => by
    unfold stF
    have := chs_le pv o (p + 1) p (by omega)
    exact Nat.max_le.mpr ⟨Nat.le_succ_of_le (stF_le pv o p), this⟩
theorem max_n {a b : Nat} (ha : a < 2 ^ 31) (hb : b < 2 ^ 31) : (if nI a < nI b then nI b else nI a) = nI (max a b) := by
  by_cases h : a < b
  · rw [if_pos ((nI_ltI ha hb).mpr h), Nat.max_eq_right (by omega)]
  · rw [if_neg (fun q => h ((nI_ltI ha hb).mp q)), Nat.max_eq_left (by omega)]
def roStep (m : Nat) (pv : Nat → Int32) (x : ROS) (o : Nat → Nat) (num : Nat) : ROS := (x.1 + nI 1, if x.1 = 0 then nI num else x.2.1, if x.1 = 0 ∨ nI (m - stF pv o m) < x.2.2.1 then nI (m - stF pv o m) else x.2.2.1, folP x.1 m o x.2.2.2 m)
def ord (pr : List (Nat × Nat)) : Nat → Nat := fun j => (pr.getD j (0, 0)).1
def roF (m : Nat) (pv : Nat → Int32) (acc : List (List (Nat × Nat))) : ROS := acc.foldl (fun x pr => roStep m pv x (ord pr) (numP pr)) (0, -9, -9, fun _ => -9)
theorem roF_s (m : Nat) (pv : Nat → Int32) (acc : List (List (Nat × Nat))) (pr : List (Nat × Nat)) : roF m pv (acc ++ [pr]) = roStep m pv (roF m pv acc) (ord pr) (numP pr) := by unfold roF; rw [List.foldl_append]; rfl
def roI (wk m : Nat) (pv : Nat → Int32) (acc : List (List (Nat × Nat))) (hi : mm_HI) : Prop := hi wk 4 = (roF m pv acc).1 ∧ hi wk 5 = (roF m pv acc).2.1 ∧ hi wk 6 = (roF m pv acc).2.2.1 ∧ (∀ s, s < 6 → hi (wk + 4) s = (roF m pv acc).2.2.2 s) ∧ ∀ s, s < 6 → hi (wk + 5) s = pv s
theorem folP_cong {fd : Int32} {m : Nat} {o o2 : Nat → Nat} {g : Nat → Int32} (h : ∀ j, j < m → o j = o2 j) : ∀ p, p ≤ m → folP fd m o g p = folP fd m o2 g p
  | 0, _ => rfl
  | p + 1, hp => by
    have ih := folP_cong (fd := fd) (g := g) h p (by omega)
    have e : bhd m o p = bhd m o2 p := by
      unfold bhd
      by_cases q : p + 1 < m
      · rw [if_pos q, if_pos q, h (p + 1) q]
      · rw [if_neg q, if_neg q]
    unfold folP
    rw [ih, e, h p (by omega)]
theorem chq_cong {pv : Nat → Int32} {o o2 : Nat → Nat} {c : Nat → Nat} {p m : Nat} (h : ∀ j, j < m → o j = o2 j) (hp : p < m) : ∀ q, q ≤ p → chq pv o c p q = chq pv o2 c p q
  | 0, _ => rfl
  | q + 1, hq => by
    unfold chq
    rw [chq_cong h hp q (by omega), h q (by omega), h p hp]
theorem chs_cong {pv : Nat → Int32} {o o2 : Nat → Nat} {m : Nat} (h : ∀ j, j < m → o j = o2 j) : ∀ p, p ≤ m → chs pv o p = chs pv o2 p
  | 0, _ => rfl
  | p + 1, hp => by
    unfold chs
    rw [chs_cong h p (by omega), chq_cong h (by omega) p (Nat.le_refl _)]
theorem stF_cong {pv : Nat → Int32} {o o2 : Nat → Nat} {m : Nat} (h : ∀ j, j < m → o j = o2 j) : ∀ p, p ≤ m → stF pv o p = stF pv o2 p
  | 0, _ => rfl
  | p + 1, hp => by
    unfold stF
    rw [stF_cong h p (by omega), chs_cong h (p + 1) hp]
set_option maxHeartbeats 2000000 in
theorem s_X5_noteFollowers {d : Nat} (hd : 1 ≤ d) {hi : mm_HI} {τ : mm_T} {sw : Bool} (hτ : τ.1 = mm_hr sw) {wk : Nat} (hwk : mm_lay wk = (0, 5)) {m t : Nat} {o : Nat → Nat} (hr : rowF hi (wk + 1) m o t) {fd : Int32} {g : Nat → Int32} (hfd : hi wk 4 = fd) (hg0 : ∀ z, z < 6 → hi (wk + 4) z = g z) : wV d yX5_noteFollowers [.ref wk] hi τ (fun h => (∀ z, z < 6 → h (wk + 4) z = folP fd m o g m z) ∧ fr [wk + 4] hi h) := by
  refine w_intro (by omega) M_X5_noteFollowers (Nat.le_of_ble_eq_true rfl) rfl ?_
  intro e X he G
  show X 0 [some (.ref (wk)), none, none, none] [] hi τ 125
  refine q_iconst (v := nI 0) G (pc := 0) dX5_noteFollowers_0 (by decide) ?_
  refine q_istore_n G (pc := 1) dX5_noteFollowers_1 (by decide) ?_
  show X _ [_, _, _, _] _ _ _ _
  have L2 : ∀ (zz : Nat) (p : Nat) (hk : mm_HI) (v2 v3 : Option Value), m - p < zz → p ≤ m → (∀ z, z < 6 → hk (wk + 4) z = folP fd m o g p z) → fr [wk + 4] hi hk → rowF hk (wk + 1) m o t → X 2 [some (.ref (wk)), some (.int (nI (p))), v2, v3] [] hk τ 125 := by
    intro zz
    induction zz with
    | zero => intro p hk v2 v3 hm; exact absurd hm (Nat.not_lt_zero _)
    | succ zz ih2 =>
      intro p hk v2 v3 hm h0 g1 g2 hR
      obtain ⟨r1, r2, r3, r4, r5, r6⟩ := id hR
      refine q_iload_n G (pc := 2) dX5_noteFollowers_2 rfl ?_
      refine q_aload_n G (pc := 3) dX5_noteFollowers_3 rfl ?_
      refine q_getR (x := wk + 1) G (pc := 4) dX5_noteFollowers_4 fl_X5_49_5 hwk (hg hτ (hf_5_0 hwk)) ?_
      refine q_getI (v := nI (m)) G (pc := 7) dX5_noteFollowers_7 fl_X5_37_6 (by decide) (ly_5_0 hwk) r1 ?_
      refine q_icmp_geN (tgt := 94) G (pc := 10) dX5_noteFollowers_10 (by decide) (by omega) (by omega) (fun c10 => ?_) (fun c10 => ?_)
      · refine q_vret G (pc := 94) dX5_noteFollowers_94 rfl ?_
        rw [show p = m by omega] at g1
        exact ⟨rfl, rfl, g1, g2⟩
      · refine q_aload_n G (pc := 13) dX5_noteFollowers_13 rfl ?_
        refine q_getR (x := wk + 1) G (pc := 14) dX5_noteFollowers_14 fl_X5_49_5 hwk (hg hτ (hf_5_0 hwk)) ?_
        refine q_getR (x := wk + 1 + 1) G (pc := 17) dX5_noteFollowers_17 fl_X5_42_6 (ly_5_0 hwk) (hg hτ (hf_6_0 (ly_5_0 hwk))) ?_
        refine q_iload_n G (pc := 20) dX5_noteFollowers_20 rfl ?_
        refine q_iald (j := p) (v := nI (o p)) G (pc := 21) dX5_noteFollowers_21 (ly_6_0 (ly_5_0 hwk)) rfl (by omega) (r3 p (by omega)) ?_
        have hop := r5 p (by omega)
        refine q_istore_n G (pc := 22) dX5_noteFollowers_22 (by decide) ?_
        show X _ [_, _, _, _] _ _ _ _
        refine q_iload_n G (pc := 23) dX5_noteFollowers_23 rfl ?_
        refine q_iconst (v := nI 1) G (pc := 24) dX5_noteFollowers_24 (by decide) ?_
        refine q_iaddN G (pc := 25) dX5_noteFollowers_25 ?_
        refine q_aload_n G (pc := 26) dX5_noteFollowers_26 rfl ?_
        refine q_getR (x := wk + 1) G (pc := 27) dX5_noteFollowers_27 fl_X5_49_5 hwk (hg hτ (hf_5_0 hwk)) ?_
        refine q_getI (v := nI (m)) G (pc := 30) dX5_noteFollowers_30 fl_X5_37_6 (by decide) (ly_5_0 hwk) r1 ?_
        refine q_icmp_geN (tgt := 50) G (pc := 33) dX5_noteFollowers_33 (by decide) (by omega) (by omega) (fun c33 => ?_) (fun c33 => ?_)
        · have hbh : bhd m o p = -9 := if_neg (by omega)
          refine q_bipush (v := -9) G (pc := 50) dX5_noteFollowers_50 (by decide) ?_
          refine q_istore_n G (pc := 52) dX5_noteFollowers_52 (by decide) ?_
          show X _ [_, _, _, _] _ _ _ _
          refine q_aload_n G (pc := 53) dX5_noteFollowers_53 rfl ?_
          refine q_getI (v := fd) G (pc := 54) dX5_noteFollowers_54 fl_X5_21_5 (by decide) hwk (by rw [g2 wk (by simp)]; exact hfd) ?_
          refine q_if_ne (tgt := 70) G (pc := 57) dX5_noteFollowers_57 (by decide) (fun c57 => ?_) (fun c57 => ?_)
          · refine q_aload_n G (pc := 70) dX5_noteFollowers_70 rfl ?_
            refine q_getR (x := wk + 4) G (pc := 71) dX5_noteFollowers_71 fl_X5_9_5 hwk (hg hτ (hf_5_7 hwk)) ?_
            refine q_iload_n G (pc := 74) dX5_noteFollowers_74 rfl ?_
            refine q_iald (j := o p) (v := folP fd m o g p (o p)) G (pc := 75) dX5_noteFollowers_75 (ly_5_7 hwk) rfl (by omega) (g1 (o p) hop) ?_
            refine q_iload_n G (pc := 76) dX5_noteFollowers_76 rfl ?_
            refine q_icmp_eq (tgt := 88) G (pc := 77) dX5_noteFollowers_77 (by decide) (fun c77 => ?_) (fun c77 => ?_)
            · refine q_iincN G (pc := 88) dX5_noteFollowers_88 rfl (inc1 _) (by decide) ?_
              show X _ [_, _, _, _] _ _ _ _
              refine q_goto (tgt := 2) G (pc := 91) dX5_noteFollowers_91 (by decide) ?_
              have x2 : fr [wk + 4] hk hk := fr.rf
              refine ih2 (p + 1) _ _ _ (by omega) (by omega) (fun z hz => ?_) (g2.trans x2) (hR.keep (x2 _ (by simp)) (x2 _ (by simp)))
              show _ = folP fd m o g (p + 1) z
              unfold folP
              rw [if_neg c57, if_pos (by rw [hbh]; exact c77)]
              exact g1 z hz
            · refine q_aload_n G (pc := 80) dX5_noteFollowers_80 rfl ?_
              refine q_getR (x := wk + 4) G (pc := 81) dX5_noteFollowers_81 fl_X5_9_5 hwk (hg hτ (hf_5_7 hwk)) ?_
              refine q_iload_n G (pc := 84) dX5_noteFollowers_84 rfl ?_
              refine q_bipush (v := -9) G (pc := 85) dX5_noteFollowers_85 (by decide) ?_
              refine q_iast (j := o p) G (pc := 87) dX5_noteFollowers_87 (ly_5_7 hwk) rfl (by omega) ?_
              refine q_iincN G (pc := 88) dX5_noteFollowers_88 rfl (inc1 _) (by decide) ?_
              show X _ [_, _, _, _] _ _ _ _
              refine q_goto (tgt := 2) G (pc := 91) dX5_noteFollowers_91 (by decide) ?_
              have x2 : fr [wk + 4] hk (mm_up2 hk (wk + 4) (o p) (-9)) := fun c hc => by simp at hc; simp [va_up, hc]
              refine ih2 (p + 1) _ _ _ (by omega) (by omega) (fun z hz => ?_) (g2.trans x2) (hR.keep (x2 _ (by simp)) (x2 _ (by simp)))
              show _ = folP fd m o g (p + 1) z
              unfold folP
              rw [if_neg c57, if_neg (by rw [hbh]; exact c77)]
              by_cases q : z = o p
              · subst q; simp [va_up]
              · simp [va_up, q]; exact g1 z hz
          · refine q_aload_n G (pc := 60) dX5_noteFollowers_60 rfl ?_
            refine q_getR (x := wk + 4) G (pc := 61) dX5_noteFollowers_61 fl_X5_9_5 hwk (hg hτ (hf_5_7 hwk)) ?_
            refine q_iload_n G (pc := 64) dX5_noteFollowers_64 rfl ?_
            refine q_iload_n G (pc := 65) dX5_noteFollowers_65 rfl ?_
            refine q_iast (j := o p) G (pc := 66) dX5_noteFollowers_66 (ly_5_7 hwk) rfl (by omega) ?_
            refine q_goto (tgt := 88) G (pc := 67) dX5_noteFollowers_67 (by decide) ?_
            refine q_iincN G (pc := 88) dX5_noteFollowers_88 rfl (inc1 _) (by decide) ?_
            show X _ [_, _, _, _] _ _ _ _
            refine q_goto (tgt := 2) G (pc := 91) dX5_noteFollowers_91 (by decide) ?_
            have x2 : fr [wk + 4] hk (mm_up2 hk (wk + 4) (o p) (-9)) := fun c hc => by simp at hc; simp [va_up, hc]
            refine ih2 (p + 1) _ _ _ (by omega) (by omega) (fun z hz => ?_) (g2.trans x2) (hR.keep (x2 _ (by simp)) (x2 _ (by simp)))
            show _ = folP fd m o g (p + 1) z
            unfold folP
            rw [if_pos c57, hbh]
            by_cases q : z = o p
            · subst q; simp [va_up]
            · simp [va_up, q]; exact g1 z hz
        · have hbh : bhd m o p = nI (o (p + 1)) := if_pos (by omega)
          refine q_aload_n G (pc := 36) dX5_noteFollowers_36 rfl ?_
          refine q_getR (x := wk + 1) G (pc := 37) dX5_noteFollowers_37 fl_X5_49_5 hwk (hg hτ (hf_5_0 hwk)) ?_
          refine q_getR (x := wk + 1 + 1) G (pc := 40) dX5_noteFollowers_40 fl_X5_42_6 (ly_5_0 hwk) (hg hτ (hf_6_0 (ly_5_0 hwk))) ?_
          refine q_iload_n G (pc := 43) dX5_noteFollowers_43 rfl ?_
          refine q_iconst (v := nI 1) G (pc := 44) dX5_noteFollowers_44 (by decide) ?_
          refine q_iaddN G (pc := 45) dX5_noteFollowers_45 ?_
          refine q_iald (j := p + 1) (v := nI (o (p + 1))) G (pc := 46) dX5_noteFollowers_46 (ly_6_0 (ly_5_0 hwk)) rfl (by omega) (r3 (p + 1) (by omega)) ?_
          refine q_goto (tgt := 52) G (pc := 47) dX5_noteFollowers_47 (by decide) ?_
          refine q_istore_n G (pc := 52) dX5_noteFollowers_52 (by decide) ?_
          show X _ [_, _, _, _] _ _ _ _
          refine q_aload_n G (pc := 53) dX5_noteFollowers_53 rfl ?_
          refine q_getI (v := fd) G (pc := 54) dX5_noteFollowers_54 fl_X5_21_5 (by decide) hwk (by rw [g2 wk (by simp)]; exact hfd) ?_
          refine q_if_ne (tgt := 70) G (pc := 57) dX5_noteFollowers_57 (by decide) (fun c57 => ?_) (fun c57 => ?_)
          · refine q_aload_n G (pc := 70) dX5_noteFollowers_70 rfl ?_
            refine q_getR (x := wk + 4) G (pc := 71) dX5_noteFollowers_71 fl_X5_9_5 hwk (hg hτ (hf_5_7 hwk)) ?_
            refine q_iload_n G (pc := 74) dX5_noteFollowers_74 rfl ?_
            refine q_iald (j := o p) (v := folP fd m o g p (o p)) G (pc := 75) dX5_noteFollowers_75 (ly_5_7 hwk) rfl (by omega) (g1 (o p) hop) ?_
            refine q_iload_n G (pc := 76) dX5_noteFollowers_76 rfl ?_
            refine q_icmp_eq (tgt := 88) G (pc := 77) dX5_noteFollowers_77 (by decide) (fun c77 => ?_) (fun c77 => ?_)
            · refine q_iincN G (pc := 88) dX5_noteFollowers_88 rfl (inc1 _) (by decide) ?_
              show X _ [_, _, _, _] _ _ _ _
              refine q_goto (tgt := 2) G (pc := 91) dX5_noteFollowers_91 (by decide) ?_
              have x2 : fr [wk + 4] hk hk := fr.rf
              refine ih2 (p + 1) _ _ _ (by omega) (by omega) (fun z hz => ?_) (g2.trans x2) (hR.keep (x2 _ (by simp)) (x2 _ (by simp)))
              show _ = folP fd m o g (p + 1) z
              unfold folP
              rw [if_neg c57, if_pos (by rw [hbh]; exact c77)]
              exact g1 z hz
            · refine q_aload_n G (pc := 80) dX5_noteFollowers_80 rfl ?_
              refine q_getR (x := wk + 4) G (pc := 81) dX5_noteFollowers_81 fl_X5_9_5 hwk (hg hτ (hf_5_7 hwk)) ?_
              refine q_iload_n G (pc := 84) dX5_noteFollowers_84 rfl ?_
              refine q_bipush (v := -9) G (pc := 85) dX5_noteFollowers_85 (by decide) ?_
              refine q_iast (j := o p) G (pc := 87) dX5_noteFollowers_87 (ly_5_7 hwk) rfl (by omega) ?_
              refine q_iincN G (pc := 88) dX5_noteFollowers_88 rfl (inc1 _) (by decide) ?_
              show X _ [_, _, _, _] _ _ _ _
              refine q_goto (tgt := 2) G (pc := 91) dX5_noteFollowers_91 (by decide) ?_
              have x2 : fr [wk + 4] hk (mm_up2 hk (wk + 4) (o p) (-9)) := fun c hc => by simp at hc; simp [va_up, hc]
              refine ih2 (p + 1) _ _ _ (by omega) (by omega) (fun z hz => ?_) (g2.trans x2) (hR.keep (x2 _ (by simp)) (x2 _ (by simp)))
              show _ = folP fd m o g (p + 1) z
              unfold folP
              rw [if_neg c57, if_neg (by rw [hbh]; exact c77)]
              by_cases q : z = o p
              · subst q; simp [va_up]
              · simp [va_up, q]; exact g1 z hz
          · refine q_aload_n G (pc := 60) dX5_noteFollowers_60 rfl ?_
            refine q_getR (x := wk + 4) G (pc := 61) dX5_noteFollowers_61 fl_X5_9_5 hwk (hg hτ (hf_5_7 hwk)) ?_
            refine q_iload_n G (pc := 64) dX5_noteFollowers_64 rfl ?_
            refine q_iload_n G (pc := 65) dX5_noteFollowers_65 rfl ?_
            refine q_iast (j := o p) G (pc := 66) dX5_noteFollowers_66 (ly_5_7 hwk) rfl (by omega) ?_
            refine q_goto (tgt := 88) G (pc := 67) dX5_noteFollowers_67 (by decide) ?_
            refine q_iincN G (pc := 88) dX5_noteFollowers_88 rfl (inc1 _) (by decide) ?_
            show X _ [_, _, _, _] _ _ _ _
            refine q_goto (tgt := 2) G (pc := 91) dX5_noteFollowers_91 (by decide) ?_
            have x2 : fr [wk + 4] hk (mm_up2 hk (wk + 4) (o p) (nI (o (p + 1)))) := fun c hc => by simp at hc; simp [va_up, hc]
            refine ih2 (p + 1) _ _ _ (by omega) (by omega) (fun z hz => ?_) (g2.trans x2) (hR.keep (x2 _ (by simp)) (x2 _ (by simp)))
            show _ = folP fd m o g (p + 1) z
            unfold folP
            rw [if_pos c57, hbh]
            by_cases q : z = o p
            · subst q; simp [va_up]
            · simp [va_up, q]; exact g1 z hz
  exact L2 _ 0 hi _ _ (Nat.lt_succ_self _) (by omega) hg0 fr.rf hr
set_option maxHeartbeats 2000000 in
theorem s_X5_mostThatStay {d : Nat} (hd : 1 ≤ d) {hi : mm_HI} {τ : mm_T} {sw : Bool} (hτ : τ.1 = mm_hr sw) {wk : Nat} (hwk : mm_lay wk = (0, 5)) {m t : Nat} {o : Nat → Nat} (hr : rowF hi (wk + 1) m o t) {pv : Nat → Int32} (hpv : ∀ z, z < 6 → hi (wk + 5) z = pv z) : wI d yX5_mostThatStay [.ref wk] hi τ (fun x h => x = nI (stF pv o m) ∧ fr [wk + 6] hi h) := by
  refine w_intro (by omega) M_X5_mostThatStay (Nat.le_of_ble_eq_true rfl) rfl ?_
  intro e X he G
  show X 0 [some (.ref (wk)), none, none, none] [] hi τ 125
  have hm6 := hr.2.2.2.1
  refine q_iconst (v := nI 0) G (pc := 0) dX5_mostThatStay_0 (by decide) ?_
  refine q_istore_n G (pc := 1) dX5_mostThatStay_1 (by decide) ?_
  show X _ [_, _, _, _] _ _ _ _
  refine q_iconst (v := nI 0) G (pc := 2) dX5_mostThatStay_2 (by decide) ?_
  refine q_istore_n G (pc := 3) dX5_mostThatStay_3 (by decide) ?_
  show X _ [_, _, _, _] _ _ _ _
  have L4 : ∀ (zz : Nat) (p : Nat) (hk : mm_HI) (v3 : Option Value), m - p < zz → p ≤ m → (∀ j, j < p → hk (wk + 6) j = nI (chs pv o p j)) → fr [wk + 6] hi hk → rowF hk (wk + 1) m o t → X 4 [some (.ref (wk)), some (.int (nI (stF pv o p))), some (.int (nI (p))), v3] [] hk τ 125 := by
    intro zz
    induction zz with
    | zero => intro p hk v3 hm; exact absurd hm (Nat.not_lt_zero _)
    | succ zz ih4 =>
      intro p hk v3 hm h0 g1 g2 hR
      obtain ⟨r1, r2, r3, r4, r5, r6⟩ := id hR
      refine q_iload_n G (pc := 4) dX5_mostThatStay_4 rfl ?_
      refine q_aload_n G (pc := 5) dX5_mostThatStay_5 rfl ?_
      refine q_getR (x := wk + 1) G (pc := 6) dX5_mostThatStay_6 fl_X5_49_5 hwk (hg hτ (hf_5_0 hwk)) ?_
      refine q_getI (v := nI (m)) G (pc := 9) dX5_mostThatStay_9 fl_X5_37_6 (by decide) (ly_5_0 hwk) r1 ?_
      refine q_icmp_geN (tgt := 106) G (pc := 12) dX5_mostThatStay_12 (by decide) (by omega) (by omega) (fun c12 => ?_) (fun c12 => ?_)
      · refine q_iload_n G (pc := 106) dX5_mostThatStay_106 rfl ?_
        refine q_iret G (pc := 107) dX5_mostThatStay_107 (Or.inl rfl) ?_
        rw [show p = m by omega]
        exact ⟨rfl, _, rfl, rfl, g2⟩
      · refine q_aload_n G (pc := 15) dX5_mostThatStay_15 rfl ?_
        refine q_getR (x := wk + 6) G (pc := 16) dX5_mostThatStay_16 fl_X5_18_5 hwk (hg hτ (hf_5_9 hwk)) ?_
        refine q_iload_n G (pc := 19) dX5_mostThatStay_19 rfl ?_
        refine q_iconst (v := nI 1) G (pc := 20) dX5_mostThatStay_20 (by decide) ?_
        refine q_iast (j := p) G (pc := 21) dX5_mostThatStay_21 (ly_5_9 hwk) rfl (by omega) ?_
        refine q_iconst (v := nI 0) G (pc := 22) dX5_mostThatStay_22 (by decide) ?_
        refine q_istore_n G (pc := 23) dX5_mostThatStay_23 (by decide) ?_
        show X _ [_, _, _, _] _ _ _ _
        have L24 : ∀ (zz : Nat) (q : Nat) (hk : mm_HI), p - q < zz → q ≤ p → (∀ j, j < p → hk (wk + 6) j = nI (chs pv o p j)) → hk (wk + 6) p = nI (chq pv o (chs pv o p) p q) → fr [wk + 6] hi hk → rowF hk (wk + 1) m o t → X 24 [some (.ref (wk)), some (.int (nI (stF pv o p))), some (.int (nI (p))), some (.int (nI (q)))] [] hk τ 125 := by
          intro zz
          induction zz with
          | zero => intro q hk hm; exact absurd hm (Nat.not_lt_zero _)
          | succ zz ih24 =>
            intro q hk hm h1 g4 g5 g6 g7
            obtain ⟨r1, r2, r3, r4, r5, r6⟩ := id g7
            refine q_iload_n G (pc := 24) dX5_mostThatStay_24 rfl ?_
            refine q_iload_n G (pc := 25) dX5_mostThatStay_25 rfl ?_
            refine q_icmp_geN (tgt := 89) G (pc := 26) dX5_mostThatStay_26 (by decide) (by omega) (by omega) (fun c26 => ?_) (fun c26 => ?_)
            · refine q_iload_n G (pc := 89) dX5_mostThatStay_89 rfl ?_
              refine q_aload_n G (pc := 90) dX5_mostThatStay_90 rfl ?_
              refine q_getR (x := wk + 6) G (pc := 91) dX5_mostThatStay_91 fl_X5_18_5 hwk (hg hτ (hf_5_9 hwk)) ?_
              refine q_iload_n G (pc := 94) dX5_mostThatStay_94 rfl ?_
              have e95 : q = p := by omega
              rw [e95] at g5
              refine q_iald (j := p) (v := nI (chq pv o (chs pv o p) p p)) G (pc := 95) dX5_mostThatStay_95 (ly_5_9 hwk) rfl (by omega) g5 ?_
              refine q_mmax G (pc := 96) dX5_mostThatStay_96 mx_X5_57 (Nat.le_refl _) (Nat.le_of_ble_eq_true rfl) ?_
              rw [max_n (by have := stF_le pv o p; omega) (by have := chq_le (pv := pv) (o := o) (chs_le pv o p) p (by omega); omega)]
              refine q_istore_n G (pc := 99) dX5_mostThatStay_99 (by decide) ?_
              show X _ [_, _, _, _] _ _ _ _
              refine q_iincN G (pc := 100) dX5_mostThatStay_100 rfl (inc1 _) (by decide) ?_
              show X _ [_, _, _, _] _ _ _ _
              refine q_goto (tgt := 4) G (pc := 103) dX5_mostThatStay_103 (by decide) ?_
              have e1 : stF pv o (p + 1) = max (stF pv o p) (chq pv o (chs pv o p) p p) := by show max _ (chs pv o (p + 1) p) = _; congr 1; simp [chs, va_up]
              have z := ih4 (p + 1) hk (some (.int (nI q))) (by omega) (by omega) (fun j hj => by
                by_cases e2 : j = p
                · subst e2; simp [chs, va_up]; exact g5
                · simp [chs, va_up, e2]; exact g4 j (by omega)) g6 g7
              rw [e1] at z
              exact z
            · refine q_aload_n G (pc := 29) dX5_mostThatStay_29 rfl ?_
              refine q_getR (x := wk + 5) G (pc := 30) dX5_mostThatStay_30 fl_X5_15_5 hwk (hg hτ (hf_5_8 hwk)) ?_
              refine q_aload_n G (pc := 33) dX5_mostThatStay_33 rfl ?_
              refine q_getR (x := wk + 1) G (pc := 34) dX5_mostThatStay_34 fl_X5_49_5 hwk (hg hτ (hf_5_0 hwk)) ?_
              refine q_getR (x := wk + 1 + 1) G (pc := 37) dX5_mostThatStay_37 fl_X5_42_6 (ly_5_0 hwk) (hg hτ (hf_6_0 (ly_5_0 hwk))) ?_
              refine q_iload_n G (pc := 40) dX5_mostThatStay_40 rfl ?_
              refine q_iald (j := q) (v := nI (o q)) G (pc := 41) dX5_mostThatStay_41 (ly_6_0 (ly_5_0 hwk)) rfl (by omega) (r3 q (by omega)) ?_
              have hoq := r5 q (by omega)
              refine q_iald (j := o q) (v := pv (o q)) G (pc := 42) dX5_mostThatStay_42 (ly_5_8 hwk) rfl (by omega) (by rw [g6 (wk + 5) (by simp)]; exact hpv _ hoq) ?_
              refine q_aload_n G (pc := 43) dX5_mostThatStay_43 rfl ?_
              refine q_getR (x := wk + 5) G (pc := 44) dX5_mostThatStay_44 fl_X5_15_5 hwk (hg hτ (hf_5_8 hwk)) ?_
              refine q_aload_n G (pc := 47) dX5_mostThatStay_47 rfl ?_
              refine q_getR (x := wk + 1) G (pc := 48) dX5_mostThatStay_48 fl_X5_49_5 hwk (hg hτ (hf_5_0 hwk)) ?_
              refine q_getR (x := wk + 1 + 1) G (pc := 51) dX5_mostThatStay_51 fl_X5_42_6 (ly_5_0 hwk) (hg hτ (hf_6_0 (ly_5_0 hwk))) ?_
              refine q_iload_n G (pc := 54) dX5_mostThatStay_54 rfl ?_
              refine q_iald (j := p) (v := nI (o p)) G (pc := 55) dX5_mostThatStay_55 (ly_6_0 (ly_5_0 hwk)) rfl (by omega) (r3 p (by omega)) ?_
              have hop := r5 p (by omega)
              refine q_iald (j := o p) (v := pv (o p)) G (pc := 56) dX5_mostThatStay_56 (ly_5_8 hwk) rfl (by omega) (by rw [g6 (wk + 5) (by simp)]; exact hpv _ hop) ?_
              refine q_icmp_ge (tgt := 83) G (pc := 57) dX5_mostThatStay_57 (by decide) (fun c57 => ?_) (fun c57 => ?_)
              · refine q_iincN G (pc := 83) dX5_mostThatStay_83 rfl (inc1 _) (by decide) ?_
                show X _ [_, _, _, _] _ _ _ _
                refine q_goto (tgt := 24) G (pc := 86) dX5_mostThatStay_86 (by decide) ?_
                exact ih24 (q + 1) hk (by omega) (by omega) g4 (by rw [g5]; exact congrArg nI (if_neg (fun z => by exact absurd (Int32.not_le.mpr z) (fun y => y c57))).symm) g6 g7
              · refine q_aload_n G (pc := 60) dX5_mostThatStay_60 rfl ?_
                refine q_getR (x := wk + 6) G (pc := 61) dX5_mostThatStay_61 fl_X5_18_5 hwk (hg hτ (hf_5_9 hwk)) ?_
                refine q_iload_n G (pc := 64) dX5_mostThatStay_64 rfl ?_
                refine q_aload_n G (pc := 65) dX5_mostThatStay_65 rfl ?_
                refine q_getR (x := wk + 6) G (pc := 66) dX5_mostThatStay_66 fl_X5_18_5 hwk (hg hτ (hf_5_9 hwk)) ?_
                refine q_iload_n G (pc := 69) dX5_mostThatStay_69 rfl ?_
                refine q_iald (j := p) (v := nI (chq pv o (chs pv o p) p q)) G (pc := 70) dX5_mostThatStay_70 (ly_5_9 hwk) rfl (by omega) g5 ?_
                refine q_aload_n G (pc := 71) dX5_mostThatStay_71 rfl ?_
                refine q_getR (x := wk + 6) G (pc := 72) dX5_mostThatStay_72 fl_X5_18_5 hwk (hg hτ (hf_5_9 hwk)) ?_
                refine q_iload_n G (pc := 75) dX5_mostThatStay_75 rfl ?_
                refine q_iald (j := q) (v := nI (chs pv o p q)) G (pc := 76) dX5_mostThatStay_76 (ly_5_9 hwk) rfl (by omega) (g4 q (by omega)) ?_
                refine q_iconst (v := nI 1) G (pc := 77) dX5_mostThatStay_77 (by decide) ?_
                refine q_iaddN G (pc := 78) dX5_mostThatStay_78 ?_
                refine q_mmax G (pc := 79) dX5_mostThatStay_79 mx_X5_57 (Nat.le_refl _) (Nat.le_of_ble_eq_true rfl) ?_
                rw [max_n (by have := chq_le (pv := pv) (o := o) (chs_le pv o p) q (by omega); omega) (by have := chs_le pv o p q (by omega); omega)]
                refine q_iast (j := p) G (pc := 82) dX5_mostThatStay_82 (ly_5_9 hwk) rfl (by omega) ?_
                refine q_iincN G (pc := 83) dX5_mostThatStay_83 rfl (inc1 _) (by decide) ?_
                show X _ [_, _, _, _] _ _ _ _
                refine q_goto (tgt := 24) G (pc := 86) dX5_mostThatStay_86 (by decide) ?_
                have x2 : fr [wk + 6] hk (mm_up2 hk (wk + 6) p (nI (max (chq pv o (chs pv o p) p q) (chs pv o p q + 1)))) := fun c hc => by simp at hc; simp [va_up, hc]
                refine ih24 (q + 1) _ (by omega) (by omega) (fun j hj => ?_) ?_ (g6.trans x2) (g7.keep (x2 _ (by simp)) (x2 _ (by simp)))
                · simp [va_up, show j ≠ p by omega]; exact g4 j hj
                · simp [va_up]
                  exact congrArg nI (if_pos (Int32.not_le.mp c57)).symm
        have x2 : fr [wk + 6] hk (mm_up2 hk (wk + 6) p (nI 1)) := fun c hc => by simp at hc; simp [va_up, hc]
        exact L24 _ 0 _ (Nat.lt_succ_self _) (by omega) (fun j hj => by simp [va_up, show j ≠ p by omega]; exact g1 j hj) (by simp [va_up, chq]) (g2.trans x2) (hR.keep (x2 _ (by simp)) (x2 _ (by simp)))
  exact L4 _ 0 hi _ (Nat.lt_succ_self _) (by omega) (fun j hj => absurd hj (Nat.not_lt_zero _)) fr.rf hr
theorem s_X5_meet {τ : mm_T} {sw : Bool} (hτ : τ.1 = mm_hr sw) {wk : Nat} (hwk : mm_lay wk = (0, 5)) {sh m lf0 nd : Nat} {P : PG} {nx : Nat → Nat → Nat} (hsh : mm_lay sh = (0, 7)) (pv : Nat → Int32) : hMeet 2 yX5_meet τ wk sh m lf0 P nx nd (roI wk m pv) := by
  intro d hd hi acc pr f t hI hr hfs hlen ho hbits hS hin hcov
  obtain ⟨i1, i2, i3, i4, i5⟩ := id hI
  have hm6 := hr.2.2.2.1
  refine w_intro (by omega) M_X5_meet (Nat.le_of_ble_eq_true rfl) rfl ?_
  intro e X he G
  have hw5 := wen_5 hwk
  show X 0 [some (.ref wk), some (.ref sh), some (.int (nI (numP pr))), none] [] hi τ 125
  refine q_aload_n G (pc := 0) dX5_meet_0 rfl ?_
  refine q_getI (v := (roF m pv acc).1) G (pc := 1) dX5_meet_1 fl_X5_21_5 (by decide) hwk i1 ?_
  refine q_if_ne (tgt := 12) G (pc := 4) dX5_meet_4 (by decide) (fun c4 => ?_) (fun c4 => ?_)
  · refine q_aload_n G (pc := 12) dX5_meet_12 rfl ?_
    refine q_cV0V G (pc := 13) dX5_meet_13 cv_X5_45 hwk (s_X5_noteFollowers (by omega) hτ hwk (fd := (roF m pv acc).1) (g := (roF m pv acc).2.2.2) (hr) i1 i4) (Nat.le_of_ble_eq_true rfl) ?_
    intro hk hx
    obtain ⟨x1, x2⟩ := hx
    refine q_aload_n G (pc := 16) dX5_meet_16 rfl ?_
    refine q_getR (x := wk + 1) G (pc := 17) dX5_meet_17 fl_X5_49_5 hwk (hg hτ (hf_5_0 hwk)) ?_
    refine q_getI (v := nI (m)) G (pc := 20) dX5_meet_20 fl_X5_37_6 (by decide) (ly_5_0 hwk) (by rw [x2 _ (by simp)]; exact hr.1) ?_
    refine q_aload_n G (pc := 23) dX5_meet_23 rfl ?_
    refine q_cV0I G (pc := 24) dX5_meet_24 cv_X5_53 hwk (s_X5_mostThatStay (by omega) hτ hwk (pv := pv) (o := f) (m := m) (t := t) ((hr).keep (x2 _ (by simp)) (x2 _ (by simp))) (fun z hz => by rw [x2 _ (by simp)]; exact i5 z hz)) (Nat.le_of_ble_eq_true rfl) ?_
    intro xs hk2 hy
    obtain ⟨rfl, y2⟩ := hy
    have hle := stF_le pv f m
    refine q_isubN G (pc := 27) dX5_meet_27 (by omega) ?_
    refine q_istore_n G (pc := 28) dX5_meet_28 (by decide) ?_
    show X _ [_, _, _, _] _ _ _ _
    refine q_aload_n G (pc := 29) dX5_meet_29 rfl ?_
    refine q_getI (v := (roF m pv acc).1) G (pc := 30) dX5_meet_30 fl_X5_21_5 (by decide) hwk (by rw [y2 wk (by simp), x2 wk (by simp)]; simp [va_up, i1]) ?_
    refine q_if_eq (tgt := 44) G (pc := 33) dX5_meet_33 (by decide) (fun c33 => ?_) (fun c33 => ?_)
    · exact absurd c33 c4
    · refine q_iload_n G (pc := 36) dX5_meet_36 rfl ?_
      refine q_aload_n G (pc := 37) dX5_meet_37 rfl ?_
      refine q_getI (v := (roF m pv acc).2.2.1) G (pc := 38) dX5_meet_38 fl_X5_28_5 (by decide) hwk (by rw [y2 wk (by simp), x2 wk (by simp)]; simp [va_up, i3]) ?_
      refine q_icmp_ge (tgt := 49) G (pc := 41) dX5_meet_41 (by decide) (fun c41 => ?_) (fun c41 => ?_)
      · refine q_aload_n G (pc := 49) dX5_meet_49 rfl ?_
        refine q_dup G (pc := 50) dX5_meet_50 rfl ?_
        refine q_getI (v := (roF m pv acc).1) G (pc := 51) dX5_meet_51 fl_X5_21_5 (by decide) hwk (by simp [va_up, y2 wk (by simp), x2 wk (by simp), i1]) ?_
        refine q_iconst (v := nI 1) G (pc := 54) dX5_meet_54 (by decide) ?_
        refine q_iadd G (pc := 55) dX5_meet_55 ?_
        refine q_putI G (pc := 56) dX5_meet_56 fl_X5_21_5 hwk ?_
        refine q_vret G (pc := 59) dX5_meet_59 rfl ?_
        have e4 : folP (roF m pv acc).1 m f (roF m pv acc).2.2.2 m = folP (roF m pv acc).1 m (ord pr) (roF m pv acc).2.2.2 m := folP_cong ho m (Nat.le_refl _)
        have e5 : stF pv f m = stF pv (ord pr) m := stF_cong ho m (Nat.le_refl _)
        rw [e5] at c41
        have hc3 : ¬ ((roF m pv acc).1 = 0 ∨ nI (m - stF pv (ord pr) m) < (roF m pv acc).2.2.1) := fun q => by rcases q with q | q; exact c4 q; exact absurd (Int32.not_le.mpr q) (fun y => y c41)
        have k2 : hk2 wk = hk wk := y2 wk (by simp)
        have k1 : hk wk = hi wk := x2 wk (by simp)
        refine ⟨rfl, rfl, ⟨?_, ?_, ?_, fun z hz => ?_, fun z hz => ?_⟩, ?_, ?_, ?_, ?_, ?_, fun c hc => ?_⟩
        · rw [roF_s]; simp [va_up, roStep]
        · rw [roF_s]; unfold roStep; rw [if_neg c4]; simp [va_up, k2, k1, i2]
        · rw [roF_s]; unfold roStep; rw [if_neg hc3]; simp [va_up, k2, k1, i3]
        · rw [roF_s]; unfold roStep; simp [va_up, y2 (wk + 4) (by simp)]; rw [x1 z hz, e4]
        · simp [va_up, y2 (wk + 5) (by simp), x2 (wk + 5) (by simp)]; exact i5 z hz
        · simp [va_up, y2 (wk + 1) (by simp), x2 (wk + 1) (by simp)]
        · simp [va_up, y2 (wk + 2) (by simp), x2 (wk + 2) (by simp)]
        · simp [va_up, y2 (wk + 3) (by simp), x2 (wk + 3) (by simp)]
        · simp [va_up, k2, k1]
        · simp [va_up, k2, k1]
        · simp [va_up, y2 c (by simp; omega), x2 c (by simp; omega), show c ≠ wk by omega]
      · refine q_aload_n G (pc := 44) dX5_meet_44 rfl ?_
        refine q_iload_n G (pc := 45) dX5_meet_45 rfl ?_
        refine q_putI G (pc := 46) dX5_meet_46 fl_X5_28_5 hwk ?_
        refine q_aload_n G (pc := 49) dX5_meet_49 rfl ?_
        refine q_dup G (pc := 50) dX5_meet_50 rfl ?_
        refine q_getI (v := (roF m pv acc).1) G (pc := 51) dX5_meet_51 fl_X5_21_5 (by decide) hwk (by simp [va_up, y2 wk (by simp), x2 wk (by simp), i1]) ?_
        refine q_iconst (v := nI 1) G (pc := 54) dX5_meet_54 (by decide) ?_
        refine q_iadd G (pc := 55) dX5_meet_55 ?_
        refine q_putI G (pc := 56) dX5_meet_56 fl_X5_21_5 hwk ?_
        refine q_vret G (pc := 59) dX5_meet_59 rfl ?_
        have e4 : folP (roF m pv acc).1 m f (roF m pv acc).2.2.2 m = folP (roF m pv acc).1 m (ord pr) (roF m pv acc).2.2.2 m := folP_cong ho m (Nat.le_refl _)
        have e5 : stF pv f m = stF pv (ord pr) m := stF_cong ho m (Nat.le_refl _)
        rw [e5] at c41 ⊢
        have hc3 : ((roF m pv acc).1 = 0 ∨ nI (m - stF pv (ord pr) m) < (roF m pv acc).2.2.1) := Or.inr (Int32.not_le.mp c41)
        have k2 : hk2 wk = hk wk := y2 wk (by simp)
        have k1 : hk wk = hi wk := x2 wk (by simp)
        refine ⟨rfl, rfl, ⟨?_, ?_, ?_, fun z hz => ?_, fun z hz => ?_⟩, ?_, ?_, ?_, ?_, ?_, fun c hc => ?_⟩
        · rw [roF_s]; simp [va_up, roStep]
        · rw [roF_s]; unfold roStep; rw [if_neg c4]; simp [va_up, k2, k1, i2]
        · rw [roF_s]; unfold roStep; rw [if_pos hc3]; simp [va_up, k2, k1]
        · rw [roF_s]; unfold roStep; simp [va_up, y2 (wk + 4) (by simp)]; rw [x1 z hz, e4]
        · simp [va_up, y2 (wk + 5) (by simp), x2 (wk + 5) (by simp)]; exact i5 z hz
        · simp [va_up, y2 (wk + 1) (by simp), x2 (wk + 1) (by simp)]
        · simp [va_up, y2 (wk + 2) (by simp), x2 (wk + 2) (by simp)]
        · simp [va_up, y2 (wk + 3) (by simp), x2 (wk + 3) (by simp)]
        · simp [va_up, k2, k1]
        · simp [va_up, k2, k1]
        · simp [va_up, y2 c (by simp; omega), x2 c (by simp; omega), show c ≠ wk by omega]
  · refine q_aload_n G (pc := 7) dX5_meet_7 rfl ?_
    refine q_iload_n G (pc := 8) dX5_meet_8 rfl ?_
    refine q_putI G (pc := 9) dX5_meet_9 fl_X5_25_5 hwk ?_
    refine q_aload_n G (pc := 12) dX5_meet_12 rfl ?_
    refine q_cV0V G (pc := 13) dX5_meet_13 cv_X5_45 hwk (s_X5_noteFollowers (by omega) hτ hwk (fd := (roF m pv acc).1) (g := (roF m pv acc).2.2.2) (hr.keep (by simp [va_up]) (by simp [va_up, show wk + 1 + 1 ≠ wk by omega])) (by simp [va_up, i1]) (fun z hz => by simp [va_up]; exact i4 z hz)) (Nat.le_of_ble_eq_true rfl) ?_
    intro hk hx
    obtain ⟨x1, x2⟩ := hx
    refine q_aload_n G (pc := 16) dX5_meet_16 rfl ?_
    refine q_getR (x := wk + 1) G (pc := 17) dX5_meet_17 fl_X5_49_5 hwk (hg hτ (hf_5_0 hwk)) ?_
    refine q_getI (v := nI (m)) G (pc := 20) dX5_meet_20 fl_X5_37_6 (by decide) (ly_5_0 hwk) (by rw [x2 _ (by simp)]; simp [va_up]; exact hr.1) ?_
    refine q_aload_n G (pc := 23) dX5_meet_23 rfl ?_
    refine q_cV0I G (pc := 24) dX5_meet_24 cv_X5_53 hwk (s_X5_mostThatStay (by omega) hτ hwk (pv := pv) (o := f) (m := m) (t := t) ((hr.keep (by simp [va_up]) (by simp [va_up, show wk + 1 + 1 ≠ wk by omega])).keep (x2 _ (by simp)) (x2 _ (by simp))) (fun z hz => by rw [x2 _ (by simp)]; simp [va_up]; exact i5 z hz)) (Nat.le_of_ble_eq_true rfl) ?_
    intro xs hk2 hy
    obtain ⟨rfl, y2⟩ := hy
    have hle := stF_le pv f m
    refine q_isubN G (pc := 27) dX5_meet_27 (by omega) ?_
    refine q_istore_n G (pc := 28) dX5_meet_28 (by decide) ?_
    show X _ [_, _, _, _] _ _ _ _
    refine q_aload_n G (pc := 29) dX5_meet_29 rfl ?_
    refine q_getI (v := (roF m pv acc).1) G (pc := 30) dX5_meet_30 fl_X5_21_5 (by decide) hwk (by rw [y2 wk (by simp), x2 wk (by simp)]; simp [va_up, i1]) ?_
    refine q_if_eq (tgt := 44) G (pc := 33) dX5_meet_33 (by decide) (fun c33 => ?_) (fun c33 => ?_)
    · refine q_aload_n G (pc := 44) dX5_meet_44 rfl ?_
      refine q_iload_n G (pc := 45) dX5_meet_45 rfl ?_
      refine q_putI G (pc := 46) dX5_meet_46 fl_X5_28_5 hwk ?_
      refine q_aload_n G (pc := 49) dX5_meet_49 rfl ?_
      refine q_dup G (pc := 50) dX5_meet_50 rfl ?_
      refine q_getI (v := (roF m pv acc).1) G (pc := 51) dX5_meet_51 fl_X5_21_5 (by decide) hwk (by simp [va_up, y2 wk (by simp), x2 wk (by simp), i1]) ?_
      refine q_iconst (v := nI 1) G (pc := 54) dX5_meet_54 (by decide) ?_
      refine q_iadd G (pc := 55) dX5_meet_55 ?_
      refine q_putI G (pc := 56) dX5_meet_56 fl_X5_21_5 hwk ?_
      refine q_vret G (pc := 59) dX5_meet_59 rfl ?_
      have e4 : folP (roF m pv acc).1 m f (roF m pv acc).2.2.2 m = folP (roF m pv acc).1 m (ord pr) (roF m pv acc).2.2.2 m := folP_cong ho m (Nat.le_refl _)
      have e5 : stF pv f m = stF pv (ord pr) m := stF_cong ho m (Nat.le_refl _)
      rw [e5]
      have hc3 : ((roF m pv acc).1 = 0 ∨ nI (m - stF pv (ord pr) m) < (roF m pv acc).2.2.1) := Or.inl c4
      have k2 : hk2 wk = hk wk := y2 wk (by simp)
      have k1 : hk wk = (mm_up2 hi wk 5 (nI (numP pr))) wk := x2 wk (by simp)
      refine ⟨rfl, rfl, ⟨?_, ?_, ?_, fun z hz => ?_, fun z hz => ?_⟩, ?_, ?_, ?_, ?_, ?_, fun c hc => ?_⟩
      · rw [roF_s]; simp [va_up, roStep]
      · rw [roF_s]; unfold roStep; rw [if_pos c4]; simp [va_up, k2, k1]
      · rw [roF_s]; unfold roStep; rw [if_pos hc3]; simp [va_up, k2, k1]
      · rw [roF_s]; unfold roStep; simp [va_up, y2 (wk + 4) (by simp)]; rw [x1 z hz, e4]
      · simp [va_up, y2 (wk + 5) (by simp), x2 (wk + 5) (by simp)]; exact i5 z hz
      · simp [va_up, y2 (wk + 1) (by simp), x2 (wk + 1) (by simp)]
      · simp [va_up, y2 (wk + 2) (by simp), x2 (wk + 2) (by simp)]
      · simp [va_up, y2 (wk + 3) (by simp), x2 (wk + 3) (by simp)]
      · simp [va_up, k2, k1]
      · simp [va_up, k2, k1]
      · simp [va_up, y2 c (by simp; omega), x2 c (by simp; omega), show c ≠ wk by omega]
    · exact absurd c4 c33
theorem roI_stab (wk m : Nat) (pv : Nat → Int32) : hStab wk (roI wk m pv) := by
  intro acc x y h hf
  obtain ⟨i1, i2, i3, i4, i5⟩ := h
  exact ⟨by rw [hf wk (by simp)]; exact i1, by rw [hf wk (by simp)]; exact i2, by rw [hf wk (by simp)]; exact i3, fun s hs => by rw [hf (wk + 4) (by simp)]; exact i4 s hs, fun s hs => by rw [hf (wk + 5) (by simp)]; exact i5 s hs⟩
