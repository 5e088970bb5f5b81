theorem endR_0 {WL : List (List Nat)} {a c e z : Nat} {u : List Nat} (h : u = []) : endR WL (a, c, e, z, u) = (a, c, e, z, []) := if_pos h
theorem endR_y {WL : List (List Nat)} {a c e z : Nat} {u : List Nat} (h : u ≠ []) (hw : u ∈ WL) : endR WL (a, c, e, z, u) = (a + 1, c + 1, e + u.length, z + u.length, []) := by
  unfold endR
  rw [if_neg h, if_pos hw]
theorem endR_n {WL : List (List Nat)} {a c e z : Nat} {u : List Nat} (h : u ≠ []) (hw : u ∉ WL) : endR WL (a, c, e, z, u) = (a + 1, c, e + u.length, z, []) := by
  unfold endR
  rw [if_neg h, if_neg hw]
set_option maxHeartbeats 2000000 in
theorem m_comesRun {d : Nat} (hd : 6 ≤ d) {hi : mm_HI} {τ : mm_T} {sw : Bool} (hτ : τ.1 = mm_hr sw) {P : PG} (hP : pgM hi P) {rc m T l : Nat} {g : Nat → Nat} (hA : rwA hi P rc m g T) (hl : l < pL P) {fm n a c e1 z B : Nat} (hf : fm + n ≤ 2 * m) (ha : hi 117 l = nI a) (hc : hi 118 l = nI c) (he1 : hi 119 l = nI e1) (hr : hi 106 26 = nI (B + z)) : wV d yX11_comesRun [.ref 106, .ref rc, .int (nI l), .int (nI fm), .int (nI n), .int (nI T)] hi τ (fun h => h 117 l = nI (endR (pW P) (a, c, e1, z, runL (sqF P g T l) fm n)).1 ∧ h 118 l = nI (endR (pW P) (a, c, e1, z, runL (sqF P g T l) fm n)).2.1 ∧ h 119 l = nI (endR (pW P) (a, c, e1, z, runL (sqF P g T l) fm n)).2.2.1 ∧ h 106 26 = nI (B + (endR (pW P) (a, c, e1, z, runL (sqF P g T l) fm n)).2.2.2.1) ∧ rA hi h ∧ ∀ j, j ≠ l → h 117 j = hi 117 j ∧ h 118 j = hi 118 j ∧ h 119 j = hi 119 j) := by
  refine w_intro (by omega) M_X11_comesRun (Nat.le_of_ble_eq_true rfl) rfl ?_
  intro e X he G
  show X 0 [some (.ref (106)), some (.ref (rc)), some (.int (nI (l))), some (.int (nI (fm))), some (.int (nI (n))), some (.int (nI (T))), none] [] hi τ 125
  have hS6 : pS P ≤ 6 := hP.2.2.2.2.2.2.2.1
  have hL3 : pL P ≤ 3 := hP.2.2.2.2.2.2.1
  have hL1 : 1 ≤ pL P := hP.2.2.2.2.2.1
  have hW8 : (pW P).length ≤ 8 := hP.2.2.2.2.2.2.2.2.2.1
  have hm6 := hA.2.2.2.1
  refine q_iload G (pc := 0) dX11_comesRun_0 rfl ?_
  refine q_if_leN (tgt := 78) G (pc := 2) dX11_comesRun_2 (by decide) (by omega) (fun c2 => ?_) (fun c2 => ?_)
  · refine q_vret G (pc := 78) dX11_comesRun_78 rfl ?_
    rw [endR_0 (by rw [c2]; rfl)]
    exact ⟨rfl, rfl, ha, hc, he1, hr, rA.rf, fun j hj => ⟨rfl, rfl, rfl⟩⟩
  · refine q_aload_n G (pc := 5) dX11_comesRun_5 rfl ?_
    refine q_aload_n G (pc := 6) dX11_comesRun_6 rfl ?_
    refine q_iload_n G (pc := 7) dX11_comesRun_7 rfl ?_
    refine q_iload_n G (pc := 8) dX11_comesRun_8 rfl ?_
    refine q_iload G (pc := 9) dX11_comesRun_9 rfl ?_
    refine q_iload G (pc := 11) dX11_comesRun_11 rfl ?_
    refine q_cV5B G (pc := 13) dX11_comesRun_13 cv_X11_158 rfl (m_isWord (by omega) hτ hP hA hl (fm := fm) (n := n) hf) (Nat.le_of_ble_eq_true rfl) (fun c13 => ?_) (fun c13 => ?_)
    · refine q_istore G (pc := 16) dX11_comesRun_16 (by decide) ?_
      show X _ [_, _, _, _, _, _, _] _ _ _ _
      refine q_aload_n G (pc := 18) dX11_comesRun_18 rfl ?_
      refine q_getR (x := 117) G (pc := 19) dX11_comesRun_19 fl_X11_44_10 rfl (hg hτ (hf_10_23 rfl)) ?_
      refine q_iload_n G (pc := 22) dX11_comesRun_22 rfl ?_
      refine q_dup2 G (pc := 23) dX11_comesRun_23 rfl rfl ?_
      refine q_iald (j := l) (v := nI (a)) G (pc := 24) dX11_comesRun_24 rfl rfl (by omega) ha ?_
      refine q_iconst (v := nI 1) G (pc := 25) dX11_comesRun_25 (by decide) ?_
      refine q_iaddN G (pc := 26) dX11_comesRun_26 ?_
      refine q_iast (j := l) G (pc := 27) dX11_comesRun_27 rfl rfl (by omega) ?_
      refine q_aload_n G (pc := 28) dX11_comesRun_28 rfl ?_
      refine q_getR (x := 118) G (pc := 29) dX11_comesRun_29 fl_X11_47_10 rfl (hg hτ (hf_10_24 rfl)) ?_
      refine q_iload_n G (pc := 32) dX11_comesRun_32 rfl ?_
      refine q_dup2 G (pc := 33) dX11_comesRun_33 rfl rfl ?_
      refine q_iald (j := l) (v := nI (c)) G (pc := 34) dX11_comesRun_34 rfl rfl (by omega) (by simp [va_up]; exact hc) ?_
      refine q_iload G (pc := 35) dX11_comesRun_35 rfl ?_
      refine q_if_eqN (tgt := 44) G (pc := 37) dX11_comesRun_37 (by decide) (by omega) (fun c37 => absurd c37 (by decide)) (fun _ => ?_)
      refine q_iconst (v := nI 1) G (pc := 40) dX11_comesRun_40 (by decide) ?_
      refine q_goto (tgt := 45) G (pc := 41) dX11_comesRun_41 (by decide) ?_
      refine q_iaddN G (pc := 45) dX11_comesRun_45 ?_
      refine q_iast (j := l) G (pc := 46) dX11_comesRun_46 rfl rfl (by omega) ?_
      refine q_aload_n G (pc := 47) dX11_comesRun_47 rfl ?_
      refine q_getR (x := 119) G (pc := 48) dX11_comesRun_48 fl_X11_50_10 rfl (hg hτ (hf_10_25 rfl)) ?_
      refine q_iload_n G (pc := 51) dX11_comesRun_51 rfl ?_
      refine q_dup2 G (pc := 52) dX11_comesRun_52 rfl rfl ?_
      refine q_iald (j := l) (v := nI (e1)) G (pc := 53) dX11_comesRun_53 rfl rfl (by omega) (by simp [va_up]; exact he1) ?_
      refine q_iload G (pc := 54) dX11_comesRun_54 rfl ?_
      refine q_iaddN G (pc := 56) dX11_comesRun_56 ?_
      refine q_iast (j := l) G (pc := 57) dX11_comesRun_57 rfl rfl (by omega) ?_
      refine q_aload_n G (pc := 58) dX11_comesRun_58 rfl ?_
      refine q_dup G (pc := 59) dX11_comesRun_59 rfl ?_
      refine q_getI (v := nI (B + z)) G (pc := 60) dX11_comesRun_60 fl_X11_162_10 (by decide) rfl (by simp [va_up]; exact hr) ?_
      refine q_iload G (pc := 63) dX11_comesRun_63 rfl ?_
      refine q_if_eqN (tgt := 73) G (pc := 65) dX11_comesRun_65 (by decide) (by omega) (fun c65 => absurd c65 (by decide)) (fun _ => ?_)
      refine q_iload G (pc := 68) dX11_comesRun_68 rfl ?_
      refine q_goto (tgt := 74) G (pc := 70) dX11_comesRun_70 (by decide) ?_
      refine q_iaddN G (pc := 74) dX11_comesRun_74 ?_
      refine q_putI G (pc := 75) dX11_comesRun_75 fl_X11_162_10 rfl ?_
      refine q_vret G (pc := 78) dX11_comesRun_78 rfl ?_
      rw [endR_y (fun q => by have := congrArg List.length q; rw [runL_len] at this; simp at this; omega) c13]
      rw [runL_len]
      refine ⟨rfl, rfl, by simp [va_up], by simp [va_up], by simp [va_up], ?_, ⟨fun q h1 h2 h3 h4 => by simp [va_up, h1, h2, h3, h4], fun k hk => by simp [va_up, hk]⟩, fun j hj => ⟨by simp [va_up, hj], by simp [va_up, hj], by simp [va_up, hj]⟩⟩
      simp [va_up]; congr 1; omega
    · refine q_istore G (pc := 16) dX11_comesRun_16 (by decide) ?_
      show X _ [_, _, _, _, _, _, _] _ _ _ _
      refine q_aload_n G (pc := 18) dX11_comesRun_18 rfl ?_
      refine q_getR (x := 117) G (pc := 19) dX11_comesRun_19 fl_X11_44_10 rfl (hg hτ (hf_10_23 rfl)) ?_
      refine q_iload_n G (pc := 22) dX11_comesRun_22 rfl ?_
      refine q_dup2 G (pc := 23) dX11_comesRun_23 rfl rfl ?_
      refine q_iald (j := l) (v := nI (a)) G (pc := 24) dX11_comesRun_24 rfl rfl (by omega) ha ?_
      refine q_iconst (v := nI 1) G (pc := 25) dX11_comesRun_25 (by decide) ?_
      refine q_iaddN G (pc := 26) dX11_comesRun_26 ?_
      refine q_iast (j := l) G (pc := 27) dX11_comesRun_27 rfl rfl (by omega) ?_
      refine q_aload_n G (pc := 28) dX11_comesRun_28 rfl ?_
      refine q_getR (x := 118) G (pc := 29) dX11_comesRun_29 fl_X11_47_10 rfl (hg hτ (hf_10_24 rfl)) ?_
      refine q_iload_n G (pc := 32) dX11_comesRun_32 rfl ?_
      refine q_dup2 G (pc := 33) dX11_comesRun_33 rfl rfl ?_
      refine q_iald (j := l) (v := nI (c)) G (pc := 34) dX11_comesRun_34 rfl rfl (by omega) (by simp [va_up]; exact hc) ?_
      refine q_iload G (pc := 35) dX11_comesRun_35 rfl ?_
      refine q_if_eqN (tgt := 44) G (pc := 37) dX11_comesRun_37 (by decide) (by omega) (fun _ => ?_) (fun c37 => absurd c37 (by decide))
      refine q_iconst (v := nI 0) G (pc := 44) dX11_comesRun_44 (by decide) ?_
      refine q_iaddN G (pc := 45) dX11_comesRun_45 ?_
      refine q_iast (j := l) G (pc := 46) dX11_comesRun_46 rfl rfl (by omega) ?_
      refine q_aload_n G (pc := 47) dX11_comesRun_47 rfl ?_
      refine q_getR (x := 119) G (pc := 48) dX11_comesRun_48 fl_X11_50_10 rfl (hg hτ (hf_10_25 rfl)) ?_
      refine q_iload_n G (pc := 51) dX11_comesRun_51 rfl ?_
      refine q_dup2 G (pc := 52) dX11_comesRun_52 rfl rfl ?_
      refine q_iald (j := l) (v := nI (e1)) G (pc := 53) dX11_comesRun_53 rfl rfl (by omega) (by simp [va_up]; exact he1) ?_
      refine q_iload G (pc := 54) dX11_comesRun_54 rfl ?_
      refine q_iaddN G (pc := 56) dX11_comesRun_56 ?_
      refine q_iast (j := l) G (pc := 57) dX11_comesRun_57 rfl rfl (by omega) ?_
      refine q_aload_n G (pc := 58) dX11_comesRun_58 rfl ?_
      refine q_dup G (pc := 59) dX11_comesRun_59 rfl ?_
      refine q_getI (v := nI (B + z)) G (pc := 60) dX11_comesRun_60 fl_X11_162_10 (by decide) rfl (by simp [va_up]; exact hr) ?_
      refine q_iload G (pc := 63) dX11_comesRun_63 rfl ?_
      refine q_if_eqN (tgt := 73) G (pc := 65) dX11_comesRun_65 (by decide) (by omega) (fun _ => ?_) (fun c65 => absurd c65 (by decide))
      refine q_iconst (v := nI 0) G (pc := 73) dX11_comesRun_73 (by decide) ?_
      refine q_iaddN G (pc := 74) dX11_comesRun_74 ?_
      refine q_putI G (pc := 75) dX11_comesRun_75 fl_X11_162_10 rfl ?_
      refine q_vret G (pc := 78) dX11_comesRun_78 rfl ?_
      rw [endR_n (fun q => by have := congrArg List.length q; rw [runL_len] at this; simp at this; omega) c13]
      rw [runL_len]
      refine ⟨rfl, rfl, by simp [va_up], by simp [va_up], by simp [va_up], ?_, ⟨fun q h1 h2 h3 h4 => by simp [va_up, h1, h2, h3, h4], fun k hk => by simp [va_up, hk]⟩, fun j hj => ⟨by simp [va_up, hj], by simp [va_up, hj], by simp [va_up, hj]⟩⟩
      simp [va_up]
set_option maxHeartbeats 2000000 in
theorem m_readsAll {d : Nat} (hd : 7 ≤ d) {hi : mm_HI} {τ : mm_T} {sw : Bool} (hτ : τ.1 = mm_hr sw) {P : PG} (hP : pgM hi P) {rc m T : Nat} {g : Nat → Nat} (hA : rwA hi P rc m g T) : wV d yX11_readsAll [.ref 106, .ref rc, .int (nI m), .int (nI T)] hi τ (fun h => (∀ l, l < pL P → h 117 l = nI (rdE (pW P) (sqF P g T l) (2 * m)).1 ∧ h 118 l = nI (rdE (pW P) (sqF P g T l) (2 * m)).2.1 ∧ h 119 l = nI (rdE (pW P) (sqF P g T l) (2 * m)).2.2.1) ∧ h 106 26 = nI (sumR (pW P) (sqF P g T) (2 * m) (pL P)) ∧ rA hi h) := by
  refine w_intro (by omega) M_X11_readsAll (Nat.le_of_ble_eq_true rfl) rfl ?_
  intro e X he G
  show X 0 [some (.ref (106)), some (.ref (rc)), some (.int (nI (m))), some (.int (nI (T))), none, none, none] [] hi τ 125
  have hS6 : pS P ≤ 6 := hP.2.2.2.2.2.2.2.1
  have hL3 : pL P ≤ 3 := hP.2.2.2.2.2.2.1
  have hL1 : 1 ≤ pL P := hP.2.2.2.2.2.1
  have hW8 : (pW P).length ≤ 8 := hP.2.2.2.2.2.2.2.2.2.1
  have hm6 := hA.2.2.2.1
  refine q_aload_n G (pc := 0) dX11_readsAll_0 rfl ?_
  refine q_iconst (v := nI 0) G (pc := 1) dX11_readsAll_1 (by decide) ?_
  refine q_putI G (pc := 2) dX11_readsAll_2 fl_X11_162_10 rfl ?_
  refine q_iconst (v := nI 0) G (pc := 5) dX11_readsAll_5 (by decide) ?_
  refine q_istore G (pc := 6) dX11_readsAll_6 (by decide) ?_
  show X _ [_, _, _, _, _, _, _] _ _ _ _
  have L8 : ∀ (zz : Nat) (l : Nat) (hk : mm_HI) (v5 v6 : Option Value), pL P - l < zz → l ≤ pL P → (∀ j, j < l → hk 117 j = nI (rdE (pW P) (sqF P g T j) (2 * m)).1 ∧ hk 118 j = nI (rdE (pW P) (sqF P g T j) (2 * m)).2.1 ∧ hk 119 j = nI (rdE (pW P) (sqF P g T j) (2 * m)).2.2.1) → hk 106 26 = nI (sumR (pW P) (sqF P g T) (2 * m) l) → rA hi hk → X 8 [some (.ref (106)), some (.ref (rc)), some (.int (nI (m))), some (.int (nI (T))), some (.int (nI (l))), v5, v6] [] hk τ 125 := by
    intro zz
    induction zz with
    | zero => intro l hk v5 v6 hm; exact absurd hm (Nat.not_lt_zero _)
    | succ zz ih8 =>
      intro l hk v5 v6 hm h0 g1 g4 g6
      refine q_iload G (pc := 8) dX11_readsAll_8 rfl ?_
      refine q_aload_n G (pc := 10) dX11_readsAll_10 rfl ?_
      refine q_getI (v := nI (pL P)) G (pc := 11) dX11_readsAll_11 fl_X11_7_10 (by decide) rfl (hP.sc g6.sc).1 ?_
      refine q_icmp_geN (tgt := 119) G (pc := 14) dX11_readsAll_14 (by decide) (by omega) (by omega) (fun c14 => ?_) (fun c14 => ?_)
      · refine q_vret G (pc := 119) dX11_readsAll_119 rfl ?_
        have hlL : l = pL P := by omega
        subst hlL
        exact ⟨rfl, rfl, g1, g4, g6⟩
      · refine q_aload_n G (pc := 17) dX11_readsAll_17 rfl ?_
        refine q_getR (x := 117) G (pc := 18) dX11_readsAll_18 fl_X11_44_10 rfl (hg hτ (hf_10_23 rfl)) ?_
        refine q_iload G (pc := 21) dX11_readsAll_21 rfl ?_
        refine q_iconst (v := nI 0) G (pc := 23) dX11_readsAll_23 (by decide) ?_
        refine q_iast (j := l) G (pc := 24) dX11_readsAll_24 rfl rfl (by omega) ?_
        refine q_aload_n G (pc := 25) dX11_readsAll_25 rfl ?_
        refine q_getR (x := 118) G (pc := 26) dX11_readsAll_26 fl_X11_47_10 rfl (hg hτ (hf_10_24 rfl)) ?_
        refine q_iload G (pc := 29) dX11_readsAll_29 rfl ?_
        refine q_iconst (v := nI 0) G (pc := 31) dX11_readsAll_31 (by decide) ?_
        refine q_iast (j := l) G (pc := 32) dX11_readsAll_32 rfl rfl (by omega) ?_
        refine q_aload_n G (pc := 33) dX11_readsAll_33 rfl ?_
        refine q_getR (x := 119) G (pc := 34) dX11_readsAll_34 fl_X11_50_10 rfl (hg hτ (hf_10_25 rfl)) ?_
        refine q_iload G (pc := 37) dX11_readsAll_37 rfl ?_
        refine q_iconst (v := nI 0) G (pc := 39) dX11_readsAll_39 (by decide) ?_
        refine q_iast (j := l) G (pc := 40) dX11_readsAll_40 rfl rfl (by omega) ?_
        refine q_iconst (v := nI 0) G (pc := 41) dX11_readsAll_41 (by decide) ?_
        refine q_istore G (pc := 42) dX11_readsAll_42 (by decide) ?_
        show X _ [_, _, _, _, _, _, _] _ _ _ _
        refine q_iconst (v := nI 0) G (pc := 44) dX11_readsAll_44 (by decide) ?_
        refine q_istore G (pc := 45) dX11_readsAll_45 (by decide) ?_
        show X _ [_, _, _, _, _, _, _] _ _ _ _
        have L47 : ∀ (zz : Nat) (i : Nat) (hj : mm_HI), 2 * m - i < zz → i ≤ 2 * m → hj 117 l = nI (rdS (pW P) (sqF P g T l) i).1 → hj 118 l = nI (rdS (pW P) (sqF P g T l) i).2.1 → hj 119 l = nI (rdS (pW P) (sqF P g T l) i).2.2.1 → hj 106 26 = nI (sumR (pW P) (sqF P g T) (2 * m) l + (rdS (pW P) (sqF P g T l) i).2.2.2.1) → (∀ j, j < l → hj 117 j = nI (rdE (pW P) (sqF P g T j) (2 * m)).1 ∧ hj 118 j = nI (rdE (pW P) (sqF P g T j) (2 * m)).2.1 ∧ hj 119 j = nI (rdE (pW P) (sqF P g T j) (2 * m)).2.2.1) → rA hi hj → X 47 [some (.ref (106)), some (.ref (rc)), some (.int (nI (m))), some (.int (nI (T))), some (.int (nI (l))), some (.int (nI (i - (rdS (pW P) (sqF P g T l) i).2.2.2.2.length))), some (.int (nI (i)))] [] hj τ 125 := by
          intro zz
          induction zz with
          | zero => intro i hj hm; exact absurd hm (Nat.not_lt_zero _)
          | succ zz ih47 =>
            intro i hj hm i0 k1 k2 k3 k4 k5 k6
            have hbd := rdS_bd (WL := pW P) (sq := (sqF P g T l)) i
            have hll : l < pL P := by omega
            refine q_iload G (pc := 47) dX11_readsAll_47 rfl ?_
            refine q_iconst (v := nI 2) G (pc := 49) dX11_readsAll_49 (by decide) ?_
            refine q_iload_n G (pc := 50) dX11_readsAll_50 rfl ?_
            refine q_imulN G (pc := 51) dX11_readsAll_51 ?_
            refine q_icmp_geN (tgt := 97) G (pc := 52) dX11_readsAll_52 (by decide) (by omega) (by omega) (fun c52 => ?_) (fun c52 => ?_)
            · refine q_aload_n G (pc := 97) dX11_readsAll_97 rfl ?_
              refine q_aload_n G (pc := 98) dX11_readsAll_98 rfl ?_
              refine q_iload G (pc := 99) dX11_readsAll_99 rfl ?_
              refine q_iload G (pc := 101) dX11_readsAll_101 rfl ?_
              refine q_iconst (v := nI 2) G (pc := 103) dX11_readsAll_103 (by decide) ?_
              refine q_iload_n G (pc := 104) dX11_readsAll_104 rfl ?_
              refine q_imulN G (pc := 105) dX11_readsAll_105 ?_
              refine q_iload G (pc := 106) dX11_readsAll_106 rfl ?_
              refine q_isubN G (pc := 108) dX11_readsAll_108 (by omega) ?_
              rw [show 2 * m - (i - (rdS (pW P) (sqF P g T l) i).2.2.2.2.length) = (rdS (pW P) (sqF P g T l) i).2.2.2.2.length by omega]
              refine q_iload_n G (pc := 109) dX11_readsAll_109 rfl ?_
              refine q_cV5V G (pc := 110) dX11_readsAll_110 cv_X11_165 rfl (m_comesRun (by omega) hτ (hP.sc k6.sc) (hA.r k6) hll (fm := i - (rdS (pW P) (sqF P g T l) i).2.2.2.2.length) (n := (rdS (pW P) (sqF P g T l) i).2.2.2.2.length) (by omega) k1 k2 k3 k4) (Nat.le_of_ble_eq_true rfl) ?_
              intro hj2 hy
              obtain ⟨y1, y2, y3, y4, y5, y6⟩ := hy
              have hi2m : i = 2 * m := by omega
              have e : rdE (pW P) (sqF P g T l) (2 * m) = endR (pW P) ((rdS (pW P) (sqF P g T l) i).1, (rdS (pW P) (sqF P g T l) i).2.1, (rdS (pW P) (sqF P g T l) i).2.2.1, (rdS (pW P) (sqF P g T l) i).2.2.2.1, runL (sqF P g T l) (i - (rdS (pW P) (sqF P g T l) i).2.2.2.2.length) (rdS (pW P) (sqF P g T l) i).2.2.2.2.length) := by
                rw [← rdS_run, ← hi2m]
                rfl
              rw [← e] at y1 y2 y3 y4
              refine q_iincN G (pc := 113) dX11_readsAll_113 rfl (inc1 _) (by decide) ?_
              show X _ [_, _, _, _, _, _, _] _ _ _ _
              refine q_goto (tgt := 8) G (pc := 116) dX11_readsAll_116 (by decide) ?_
              refine ih8 (l + 1) hj2 _ _ (by omega) (by omega) (fun j hq => ?_) y4 (k6.trans y5)
              by_cases q : j = l
              · subst q; exact ⟨y1, y2, y3⟩
              · obtain ⟨q1, q2, q3⟩ := y6 j q
                rw [q1, q2, q3]
                exact k5 j (by omega)
            · refine q_aload_n G (pc := 55) dX11_readsAll_55 rfl ?_
              refine q_aload_n G (pc := 56) dX11_readsAll_56 rfl ?_
              refine q_iload G (pc := 57) dX11_readsAll_57 rfl ?_
              refine q_iload G (pc := 59) dX11_readsAll_59 rfl ?_
              refine q_iload_n G (pc := 61) dX11_readsAll_61 rfl ?_
              refine q_cV4E G (pc := 62) dX11_readsAll_62 cv_X11_150 rfl (m_readBy (by omega) hτ (hP.sc k6.sc) (hA.r k6) hll (i := i) (by omega)) (Nat.le_of_ble_eq_true rfl) ?_
              have hq1 : bytN (sqF P g T l i) < 256 := bytN_lt (shW_le hP.2.2.2.2.2 _ _ _ _)
              refine q_bipush (v := nI 46) G (pc := 65) dX11_readsAll_65 (by decide) ?_
              refine q_icmp_neN (tgt := 91) G (pc := 67) dX11_readsAll_67 (by decide) (by omega) (by omega) (fun c67 => ?_) (fun c67 => ?_)
              · refine q_iincN G (pc := 91) dX11_readsAll_91 rfl (inc1 _) (by decide) ?_
                show X _ [_, _, _, _, _, _, _] _ _ _ _
                refine q_goto (tgt := 47) G (pc := 94) dX11_readsAll_94 (by decide) ?_
                have h26 : sqF P g T l i ≠ 26 := fun q => c67 (bytN_46.mpr q)
                have e : rdS (pW P) (sqF P g T l) (i + 1) = ((rdS (pW P) (sqF P g T l) i).1, (rdS (pW P) (sqF P g T l) i).2.1, (rdS (pW P) (sqF P g T l) i).2.2.1, (rdS (pW P) (sqF P g T l) i).2.2.2.1, (rdS (pW P) (sqF P g T l) i).2.2.2.2 ++ [sqF P g T l i]) := if_neg h26
                have z := ih47 (i + 1) hj (by omega) (by omega)
                rw [e] at z
                have z2 := z k1 k2 k3 k4 k5 k6
                rw [show i + 1 - ((rdS (pW P) (sqF P g T l) i).2.2.2.2 ++ [sqF P g T l i]).length = i - (rdS (pW P) (sqF P g T l) i).2.2.2.2.length by rw [List.length_append, List.length_singleton]; omega] at z2
                exact z2
              · refine q_aload_n G (pc := 70) dX11_readsAll_70 rfl ?_
                refine q_aload_n G (pc := 71) dX11_readsAll_71 rfl ?_
                refine q_iload G (pc := 72) dX11_readsAll_72 rfl ?_
                refine q_iload G (pc := 74) dX11_readsAll_74 rfl ?_
                refine q_iload G (pc := 76) dX11_readsAll_76 rfl ?_
                refine q_iload G (pc := 78) dX11_readsAll_78 rfl ?_
                refine q_isubN G (pc := 80) dX11_readsAll_80 (by omega) ?_
                rw [show i - (i - (rdS (pW P) (sqF P g T l) i).2.2.2.2.length) = (rdS (pW P) (sqF P g T l) i).2.2.2.2.length by omega]
                refine q_iload_n G (pc := 81) dX11_readsAll_81 rfl ?_
                refine q_cV5V G (pc := 82) dX11_readsAll_82 cv_X11_165 rfl (m_comesRun (by omega) hτ (hP.sc k6.sc) (hA.r k6) hll (fm := i - (rdS (pW P) (sqF P g T l) i).2.2.2.2.length) (n := (rdS (pW P) (sqF P g T l) i).2.2.2.2.length) (by omega) k1 k2 k3 k4) (Nat.le_of_ble_eq_true rfl) ?_
                intro hj2 hy
                obtain ⟨y1, y2, y3, y4, y5, y6⟩ := hy
                refine q_iload G (pc := 85) dX11_readsAll_85 rfl ?_
                refine q_iconst (v := nI 1) G (pc := 87) dX11_readsAll_87 (by decide) ?_
                refine q_iaddN G (pc := 88) dX11_readsAll_88 ?_
                refine q_istore G (pc := 89) dX11_readsAll_89 (by decide) ?_
                show X _ [_, _, _, _, _, _, _] _ _ _ _
                refine q_iincN G (pc := 91) dX11_readsAll_91 rfl (inc1 _) (by decide) ?_
                show X _ [_, _, _, _, _, _, _] _ _ _ _
                refine q_goto (tgt := 47) G (pc := 94) dX11_readsAll_94 (by decide) ?_
                have h26 : sqF P g T l i = 26 := bytN_46.mp c67
                have e : rdS (pW P) (sqF P g T l) (i + 1) = endR (pW P) ((rdS (pW P) (sqF P g T l) i).1, (rdS (pW P) (sqF P g T l) i).2.1, (rdS (pW P) (sqF P g T l) i).2.2.1, (rdS (pW P) (sqF P g T l) i).2.2.2.1, runL (sqF P g T l) (i - (rdS (pW P) (sqF P g T l) i).2.2.2.2.length) (rdS (pW P) (sqF P g T l) i).2.2.2.2.length) := by
                  rw [← rdS_run]
                  exact if_pos h26
                have z := ih47 (i + 1) hj2 (by omega) (by omega)
                rw [e] at z
                have z2 := z y1 y2 y3 y4 (fun j hq => by obtain ⟨q1, q2, q3⟩ := y6 j (by omega); rw [q1, q2, q3]; exact k5 j hq) (k6.trans y5)
                rw [endR_nil] at z2
                exact z2
        refine L47 _ 0 _ (Nat.lt_succ_self _) (by omega) (by simp [va_up]; rfl) (by simp [va_up]; rfl) (by simp [va_up]; rfl) (by simp [va_up]; exact g4) (fun j hq => ?_) (g6.trans ⟨fun c h1 h2 h3 h4 => by simp [va_up, h2, h3, h4], fun k hk => by simp [va_up]⟩)
        obtain ⟨q1, q2, q3⟩ := g1 j hq
        exact ⟨by simp [va_up, show j ≠ l by omega]; exact q1, by simp [va_up, show j ≠ l by omega]; exact q2, by simp [va_up, show j ≠ l by omega]; exact q3⟩
  exact L8 _ 0 _ _ _ (Nat.lt_succ_self _) (by omega) (fun j hj => absurd hj (Nat.not_lt_zero _)) (by simp [va_up]; rfl) ⟨fun c h1 h2 h3 h4 => by simp [va_up, h1], fun k hk => by simp [va_up, hk]⟩
set_option maxHeartbeats 2000000 in
theorem m_rightLines {d : Nat} (hd : 1 ≤ d) {hi : mm_HI} {τ : mm_T} {sw : Bool} (hτ : τ.1 = mm_hr sw) {P : PG} (hP : pgM hi P) {a c : Nat → Nat} (hac : ∀ l, l < pL P → hi 117 l = nI (a l) ∧ hi 118 l = nI (c l) ∧ a l < 2 ^ 31 ∧ c l < 2 ^ 31) : wE d yX11_rightLines [.ref 106] hi τ (nI (mk2 a c (pL P))) := by
  refine w_intro (by omega) M_X11_rightLines (Nat.le_of_ble_eq_true rfl) rfl ?_
  intro e X he G
  show X 0 [some (.ref (106)), none, none] [] hi τ 125
  have hS6 : pS P ≤ 6 := hP.2.2.2.2.2.2.2.1
  have hL3 : pL P ≤ 3 := hP.2.2.2.2.2.2.1
  have hL1 : 1 ≤ pL P := hP.2.2.2.2.2.1
  have hW8 : (pW P).length ≤ 8 := hP.2.2.2.2.2.2.2.2.2.1
  refine q_iconst (v := nI 0) G (pc := 0) dX11_rightLines_0 (by decide) ?_
  refine q_istore_n G (pc := 1) dX11_rightLines_1 (by decide) ?_
  show X _ [_, _, _] _ _ _ _
  refine q_iconst (v := nI 0) G (pc := 2) dX11_rightLines_2 (by decide) ?_
  refine q_istore_n G (pc := 3) dX11_rightLines_3 (by decide) ?_
  show X _ [_, _, _] _ _ _ _
  have L4 : ∀ (zz : Nat) (l : Nat), pL P - l < zz → l ≤ pL P → X 4 [some (.ref (106)), some (.int (nI (mk2 a c l))), some (.int (nI (l)))] [] hi τ 125 := by
    intro zz
    induction zz with
    | zero => intro l hm; exact absurd hm (Nat.not_lt_zero _)
    | succ zz ih4 =>
      intro l hm h0
      refine q_iload_n G (pc := 4) dX11_rightLines_4 rfl ?_
      refine q_aload_n G (pc := 5) dX11_rightLines_5 rfl ?_
      refine q_getI (v := nI (pL P)) G (pc := 6) dX11_rightLines_6 fl_X11_7_10 (by decide) rfl hP.1 ?_
      refine q_icmp_geN (tgt := 43) G (pc := 9) dX11_rightLines_9 (by decide) (by omega) (by omega) (fun c9 => ?_) (fun c9 => ?_)
      · refine q_iload_n G (pc := 43) dX11_rightLines_43 rfl ?_
        refine q_iret G (pc := 44) dX11_rightLines_44 (Or.inl rfl) ?_
        exact ⟨rfl, rfl, by rw [show l = pL P by omega]⟩
      · refine q_iload_n G (pc := 12) dX11_rightLines_12 rfl ?_
        refine q_aload_n G (pc := 13) dX11_rightLines_13 rfl ?_
        refine q_getR (x := 117) G (pc := 14) dX11_rightLines_14 fl_X11_44_10 rfl (hg hτ (hf_10_23 rfl)) ?_
        refine q_iload_n G (pc := 17) dX11_rightLines_17 rfl ?_
        refine q_iald (j := l) (v := nI (a l)) G (pc := 18) dX11_rightLines_18 rfl rfl (by omega) (hac l (by omega)).1 ?_
        obtain ⟨-, -, hb1, hb2⟩ := hac l (by omega)
        refine q_aload_n G (pc := 19) dX11_rightLines_19 rfl ?_
        refine q_getR (x := 118) G (pc := 20) dX11_rightLines_20 fl_X11_47_10 rfl (hg hτ (hf_10_24 rfl)) ?_
        refine q_iload_n G (pc := 23) dX11_rightLines_23 rfl ?_
        refine q_iald (j := l) (v := nI (c l)) G (pc := 24) dX11_rightLines_24 rfl rfl (by omega) (hac l (by omega)).2.1 ?_
        refine q_icmp_neN (tgt := 34) G (pc := 25) dX11_rightLines_25 (by decide) (by omega) (by omega) (fun c25 => ?_) (fun c25 => ?_)
        · refine q_iconst (v := nI 0) G (pc := 34) dX11_rightLines_34 (by decide) ?_
          refine q_ior G (pc := 35) dX11_rightLines_35 ?_
          rw [or_nI]
          refine q_istore_n G (pc := 36) dX11_rightLines_36 (by decide) ?_
          show X _ [_, _, _] _ _ _ _
          refine q_iincN G (pc := 37) dX11_rightLines_37 rfl (inc1 _) (by decide) ?_
          show X _ [_, _, _] _ _ _ _
          refine q_goto (tgt := 4) G (pc := 40) dX11_rightLines_40 (by decide) ?_
          have e1 : mk2 a c (l + 1) = mk2 a c l ||| 0 := by show _ ||| _ = _; rw [if_neg (fun q => c25 q.symm)]
          rw [← e1]
          exact ih4 (l + 1) (by omega) (by omega)
        · refine q_iconst (v := 1) G (pc := 28) dX11_rightLines_28 (by decide) ?_
          refine q_iload_n G (pc := 29) dX11_rightLines_29 rfl ?_
          refine q_ishl G (pc := 30) dX11_rightLines_30 ?_
          rw [bit_one _ (by omega)]
          refine q_goto (tgt := 35) G (pc := 31) dX11_rightLines_31 (by decide) ?_
          refine q_ior G (pc := 35) dX11_rightLines_35 ?_
          rw [or_nI]
          refine q_istore_n G (pc := 36) dX11_rightLines_36 (by decide) ?_
          show X _ [_, _, _] _ _ _ _
          refine q_iincN G (pc := 37) dX11_rightLines_37 rfl (inc1 _) (by decide) ?_
          show X _ [_, _, _] _ _ _ _
          refine q_goto (tgt := 4) G (pc := 40) dX11_rightLines_40 (by decide) ?_
          have e1 : mk2 a c (l + 1) = mk2 a c l ||| 2 ^ l := by show _ ||| _ = _; rw [if_pos c25.symm]
          rw [← e1]
          exact ih4 (l + 1) (by omega) (by omega)
  exact L4 _ 0 (Nat.lt_succ_self _) (by omega)
set_option maxHeartbeats 2000000 in
theorem m_isRight {d : Nat} (hd : 8 ≤ d) {hi : mm_HI} {τ : mm_T} {sw : Bool} (hτ : τ.1 = mm_hr sw) {P : PG} (hP : pgM hi P) {rc m T : Nat} {g : Nat → Nat} (hA : rwA hi P rc m g T) : wI d yX11_isRight [.ref 106, .ref rc, .int (nI m), .int (nI T)] hi τ (fun x h => ((x = nI 1 ∧ (∀ l, l < pL P → (rdE (pW P) (sqF P g T l) (2 * m)).1 = (rdE (pW P) (sqF P g T l) (2 * m)).2.1)) ∨ (x = nI 0 ∧ ¬ (∀ l, l < pL P → (rdE (pW P) (sqF P g T l) (2 * m)).1 = (rdE (pW P) (sqF P g T l) (2 * m)).2.1))) ∧ rA hi h) := by
  refine w_intro (by omega) M_X11_isRight (Nat.le_of_ble_eq_true rfl) rfl ?_
  intro e X he G
  show X 0 [some (.ref (106)), some (.ref (rc)), some (.int (nI (m))), some (.int (nI (T)))] [] hi τ 125
  have hS6 : pS P ≤ 6 := hP.2.2.2.2.2.2.2.1
  have hL3 : pL P ≤ 3 := hP.2.2.2.2.2.2.1
  have hL1 : 1 ≤ pL P := hP.2.2.2.2.2.1
  have hW8 : (pW P).length ≤ 8 := hP.2.2.2.2.2.2.2.2.2.1
  have hm6 := hA.2.2.2.1
  refine q_aload_n G (pc := 0) dX11_isRight_0 rfl ?_
  refine q_aload_n G (pc := 1) dX11_isRight_1 rfl ?_
  refine q_iload_n G (pc := 2) dX11_isRight_2 rfl ?_
  refine q_iload_n G (pc := 3) dX11_isRight_3 rfl ?_
  refine q_cV3V G (pc := 4) dX11_isRight_4 cv_X11_169 rfl (m_readsAll (by omega) hτ hP hA) (Nat.le_of_ble_eq_true rfl) ?_
  intro hk hx
  obtain ⟨x1, x2, x3⟩ := hx
  refine q_aload_n G (pc := 7) dX11_isRight_7 rfl ?_
  refine q_cV0E G (pc := 8) dX11_isRight_8 cv_X11_173 rfl (m_rightLines (by omega) hτ (hP.sc x3.sc) (a := fun l => (rdE (pW P) (sqF P g T l) (2 * m)).1) (c := fun l => (rdE (pW P) (sqF P g T l) (2 * m)).2.1) (fun l hl => by obtain ⟨q1, q2, q3⟩ := x1 l hl; have hb := rdE_bd (WL := pW P) (sq := sqF P g T l) (2 * m); exact ⟨q1, q2, by omega, by omega⟩)) (Nat.le_of_ble_eq_true rfl) ?_
  refine q_iconst (v := 1) G (pc := 11) dX11_isRight_11 (by decide) ?_
  refine q_aload_n G (pc := 12) dX11_isRight_12 rfl ?_
  refine q_getI (v := nI (pL P)) G (pc := 13) dX11_isRight_13 fl_X11_7_10 (by decide) rfl (hP.sc x3.sc).1 ?_
  refine q_ishl G (pc := 16) dX11_isRight_16 ?_
  rw [bit_one _ (by omega)]
  have h2L : 2 ^ pL P ≤ 2 ^ 3 := Nat.pow_le_pow_right (by decide) hL3
  have h2P : 1 ≤ 2 ^ pL P := Nat.one_le_two_pow
  have hM2 := mk2_lt (fun l => (rdE (pW P) (sqF P g T l) (2 * m)).1) (fun l => (rdE (pW P) (sqF P g T l) (2 * m)).2.1) (pL P)
  have hall := mk2_all (fun l => (rdE (pW P) (sqF P g T l) (2 * m)).1) (fun l => (rdE (pW P) (sqF P g T l) (2 * m)).2.1) (pL P) hL1 hL3
  refine q_iconst (v := nI 1) G (pc := 17) dX11_isRight_17 (by decide) ?_
  refine q_isubN G (pc := 18) dX11_isRight_18 (by omega) ?_
  refine q_icmp_neN (tgt := 26) G (pc := 19) dX11_isRight_19 (by decide) (by omega) (by omega) (fun c19 => ?_) (fun c19 => ?_)
  · refine q_iconst (v := nI 0) G (pc := 26) dX11_isRight_26 (by decide) ?_
    refine q_iret G (pc := 27) dX11_isRight_27 (Or.inr ⟨rfl, by decide⟩) ?_
    exact ⟨rfl, _, rfl, Or.inr ⟨rfl, fun z => c19 (hall.mpr z)⟩, x3⟩
  · refine q_iconst (v := nI 1) G (pc := 22) dX11_isRight_22 (by decide) ?_
    refine q_goto (tgt := 27) G (pc := 23) dX11_isRight_23 (by decide) ?_
    refine q_iret G (pc := 27) dX11_isRight_27 (Or.inr ⟨rfl, by decide⟩) ?_
    exact ⟨rfl, _, rfl, Or.inl ⟨rfl, hall.mp c19⟩, x3⟩
set_option maxHeartbeats 2000000 in
theorem m_rightMany {d : Nat} (hd : 8 ≤ d) {hi : mm_HI} {τ : mm_T} {P : PG} {n : Nat} {f : Nat → Nat} {t K : Nat} {pn : Nat → Nat} {pf : Nat → Nat → Nat} {pt : Nat → Nat} {im : Nat → Option DK} {sl : List (Nat × Nat)} {N : Nat} {b : Nat → Nat} {tr : Int64} (hM : mS P n f t K pn pf pt im sl N b tr hi τ) : wI d yX11_rightMany [.ref 106] hi τ (fun x h => x = rlN P n f t ∧ msc hi h) := by
  refine w_intro (by omega) M_X11_rightMany (Nat.le_of_ble_eq_true rfl) rfl ?_
  intro e X he G
  show X 0 [some (.ref (106)), none, none, none] [] hi τ 125
  obtain ⟨sw, hτ, hP, hRw, hV, hU, hI, hIV, hN, hNO, hT, hTr⟩ := id hM
  have hS6 : pS P ≤ 6 := hP.2.2.2.2.2.2.2.1
  have hL3 : pL P ≤ 3 := hP.2.2.2.2.2.2.1
  have hL1 : 1 ≤ pL P := hP.2.2.2.2.2.1
  have hW8 : (pW P).length ≤ 8 := hP.2.2.2.2.2.2.2.2.2.1
  have hn6 : n ≤ 6 := hRw.2.2.2.1
  have hfs : ∀ j, j < n → f j < pS P := hV.1.1
  have hV1 : rowV P n f := hV.1
  refine q_aload_n G (pc := 0) dX11_rightMany_0 rfl ?_
  refine q_aload_n G (pc := 1) dX11_rightMany_1 rfl ?_
  refine q_getR (x := 110) G (pc := 2) dX11_rightMany_2 fl_X11_23_10 rfl (hg hτ (hf_10_8 rfl)) ?_
  refine q_aload_n G (pc := 5) dX11_rightMany_5 rfl ?_
  refine q_getI (v := nI (n)) G (pc := 6) dX11_rightMany_6 fl_X11_75_10 (by decide) rfl hRw.1 ?_
  refine q_aload_n G (pc := 9) dX11_rightMany_9 rfl ?_
  refine q_getI (v := nI (t)) G (pc := 10) dX11_rightMany_10 fl_X11_133_10 (by decide) rfl hRw.2.1 ?_
  refine q_cV3V G (pc := 13) dX11_rightMany_13 cv_X11_169 rfl (m_readsAll (by omega) hτ hP (rc := 110) (m := n) (g := f) (T := t) ⟨Or.inl rfl, hRw.2.2.1, hfs, hn6, hRw.2.2.2.2.2⟩) (Nat.le_of_ble_eq_true rfl) ?_
  intro hk hx
  obtain ⟨x1, x2, x3⟩ := hx
  refine q_aload_n G (pc := 16) dX11_rightMany_16 rfl ?_
  refine q_cV0E G (pc := 17) dX11_rightMany_17 cv_X11_173 rfl (m_rightLines (by omega) hτ (hP.sc x3.sc) (a := fun l => (rdA P n f t l).1) (c := fun l => (rdA P n f t l).2.1) (fun l hl => by obtain ⟨q1, q2, q3⟩ := x1 l hl; have hb : (rdA P n f t l).2.1 ≤ (rdA P n f t l).1 ∧ (rdA P n f t l).1 ≤ 2 * n := ⟨(rdE_bd _).1, (rdE_bd _).2.1⟩; exact ⟨q1, q2, by show (rdA P n f t l).1 < _; omega, by show (rdA P n f t l).2.1 < _; omega⟩)) (Nat.le_of_ble_eq_true rfl) ?_
  rw [rlM_mk]
  have hM8 : (rlM P n f t (pL P)) < 2 ^ pL P := by rw [← rlM_mk]; exact mk2_lt _ _ _
  have h2L : 2 ^ pL P ≤ 2 ^ 3 := Nat.pow_le_pow_right (by decide) hL3
  refine q_istore_n G (pc := 20) dX11_rightMany_20 (by decide) ?_
  show X _ [_, _, _, _] _ _ _ _
  refine q_iconst (v := nI 0) G (pc := 21) dX11_rightMany_21 (by decide) ?_
  refine q_istore_n G (pc := 22) dX11_rightMany_22 (by decide) ?_
  show X _ [_, _, _, _] _ _ _ _
  refine q_iconst (v := nI 0) G (pc := 23) dX11_rightMany_23 (by decide) ?_
  refine q_istore_n G (pc := 24) dX11_rightMany_24 (by decide) ?_
  show X _ [_, _, _, _] _ _ _ _
  have L25 : ∀ (zz : Nat) (l : Nat), pL P - l < zz → l ≤ pL P → X 25 [some (.ref (106)), some (.int (nI (rlM P n f t (pL P)))), some (.int (nI (pcs (rlM P n f t (pL P)) l))), some (.int (nI (l)))] [] hk τ 125 := by
    intro zz
    induction zz with
    | zero => intro l hm; exact absurd hm (Nat.not_lt_zero _)
    | succ zz ih25 =>
      intro l hm h0
      refine q_iload_n G (pc := 25) dX11_rightMany_25 rfl ?_
      refine q_aload_n G (pc := 26) dX11_rightMany_26 rfl ?_
      refine q_getI (v := nI (pL P)) G (pc := 27) dX11_rightMany_27 fl_X11_7_10 (by decide) rfl (hP.sc x3.sc).1 ?_
      refine q_icmp_geN (tgt := 47) G (pc := 30) dX11_rightMany_30 (by decide) (by omega) (by omega) (fun c30 => ?_) (fun c30 => ?_)
      · refine q_iload_n G (pc := 47) dX11_rightMany_47 rfl ?_
        refine q_iret G (pc := 48) dX11_rightMany_48 (Or.inl rfl) ?_
        exact ⟨rfl, _, rfl, by rw [show l = pL P by omega, pcs_pcn _ (by omega) _ (by omega) hM8]; rfl, x3.sc⟩
      · refine q_iload_n G (pc := 33) dX11_rightMany_33 rfl ?_
        refine q_iload_n G (pc := 34) dX11_rightMany_34 rfl ?_
        refine q_iload_n G (pc := 35) dX11_rightMany_35 rfl ?_
        refine q_ishr G (pc := 36) dX11_rightMany_36 ?_
        rw [shr_nI (by omega) (by omega)]
        refine q_iconst (v := nI 1) G (pc := 37) dX11_rightMany_37 (by decide) ?_
        refine q_iand G (pc := 38) dX11_rightMany_38 ?_
        rw [(show nI ((rlM P n f t (pL P)) / 2 ^ l) &&& nI 1 = nI ((rlM P n f t (pL P)) / 2 ^ l % 2) by rw [and_nI, Nat.and_one_is_mod])]
        refine q_iaddN G (pc := 39) dX11_rightMany_39 ?_
        refine q_istore_n G (pc := 40) dX11_rightMany_40 (by decide) ?_
        show X _ [_, _, _, _] _ _ _ _
        refine q_iincN G (pc := 41) dX11_rightMany_41 rfl (inc1 _) (by decide) ?_
        show X _ [_, _, _, _] _ _ _ _
        refine q_goto (tgt := 25) G (pc := 44) dX11_rightMany_44 (by decide) ?_
        exact ih25 (l + 1) (by omega) (by omega)
  exact L25 _ 0 (Nat.lt_succ_self _) (by omega)
set_option maxHeartbeats 2000000 in
theorem m_rightRunsNow {d : Nat} (hd : 8 ≤ d) {hi : mm_HI} {τ : mm_T} {P : PG} {n : Nat} {f : Nat → Nat} {t K : Nat} {pn : Nat → Nat} {pf : Nat → Nat → Nat} {pt : Nat → Nat} {im : Nat → Option DK} {sl : List (Nat × Nat)} {N : Nat} {b : Nat → Nat} {tr : Int64} (hM : mS P n f t K pn pf pt im sl N b tr hi τ) : wI d yX11_rightRunsNow [.ref 106] hi τ (fun x h => x = nI (rrM P n f t (pL P)) ∧ msc hi h) := by
  refine w_intro (by omega) M_X11_rightRunsNow (Nat.le_of_ble_eq_true rfl) rfl ?_
  intro e X he G
  show X 0 [some (.ref (106)), none, none] [] hi τ 125
  obtain ⟨sw, hτ, hP, hRw, hV, hU, hI, hIV, hN, hNO, hT, hTr⟩ := id hM
  have hS6 : pS P ≤ 6 := hP.2.2.2.2.2.2.2.1
  have hL3 : pL P ≤ 3 := hP.2.2.2.2.2.2.1
  have hL1 : 1 ≤ pL P := hP.2.2.2.2.2.1
  have hW8 : (pW P).length ≤ 8 := hP.2.2.2.2.2.2.2.2.2.1
  have hn6 : n ≤ 6 := hRw.2.2.2.1
  have hfs : ∀ j, j < n → f j < pS P := hV.1.1
  have hV1 : rowV P n f := hV.1
  refine q_aload_n G (pc := 0) dX11_rightRunsNow_0 rfl ?_
  refine q_aload_n G (pc := 1) dX11_rightRunsNow_1 rfl ?_
  refine q_getR (x := 110) G (pc := 2) dX11_rightRunsNow_2 fl_X11_23_10 rfl (hg hτ (hf_10_8 rfl)) ?_
  refine q_aload_n G (pc := 5) dX11_rightRunsNow_5 rfl ?_
  refine q_getI (v := nI (n)) G (pc := 6) dX11_rightRunsNow_6 fl_X11_75_10 (by decide) rfl hRw.1 ?_
  refine q_aload_n G (pc := 9) dX11_rightRunsNow_9 rfl ?_
  refine q_getI (v := nI (t)) G (pc := 10) dX11_rightRunsNow_10 fl_X11_133_10 (by decide) rfl hRw.2.1 ?_
  refine q_cV3V G (pc := 13) dX11_rightRunsNow_13 cv_X11_169 rfl (m_readsAll (by omega) hτ hP (rc := 110) (m := n) (g := f) (T := t) ⟨Or.inl rfl, hRw.2.2.1, hfs, hn6, hRw.2.2.2.2.2⟩) (Nat.le_of_ble_eq_true rfl) ?_
  intro hk hx
  obtain ⟨x1, x2, x3⟩ := hx
  refine q_iconst (v := nI 0) G (pc := 16) dX11_rightRunsNow_16 (by decide) ?_
  refine q_istore_n G (pc := 17) dX11_rightRunsNow_17 (by decide) ?_
  show X _ [_, _, _] _ _ _ _
  refine q_iconst (v := nI 0) G (pc := 18) dX11_rightRunsNow_18 (by decide) ?_
  refine q_istore_n G (pc := 19) dX11_rightRunsNow_19 (by decide) ?_
  show X _ [_, _, _] _ _ _ _
  have L20 : ∀ (zz : Nat) (l : Nat), pL P - l < zz → l ≤ pL P → X 20 [some (.ref (106)), some (.int (nI (rrM P n f t l))), some (.int (nI (l)))] [] hk τ 125 := by
    intro zz
    induction zz with
    | zero => intro l hm; exact absurd hm (Nat.not_lt_zero _)
    | succ zz ih20 =>
      intro l hm h0
      refine q_iload_n G (pc := 20) dX11_rightRunsNow_20 rfl ?_
      refine q_aload_n G (pc := 21) dX11_rightRunsNow_21 rfl ?_
      refine q_getI (v := nI (pL P)) G (pc := 22) dX11_rightRunsNow_22 fl_X11_7_10 (by decide) rfl (hP.sc x3.sc).1 ?_
      refine q_icmp_geN (tgt := 43) G (pc := 25) dX11_rightRunsNow_25 (by decide) (by omega) (by omega) (fun c25 => ?_) (fun c25 => ?_)
      · refine q_iload_n G (pc := 43) dX11_rightRunsNow_43 rfl ?_
        refine q_iret G (pc := 44) dX11_rightRunsNow_44 (Or.inl rfl) ?_
        exact ⟨rfl, _, rfl, by rw [show l = pL P by omega], x3.sc⟩
      · refine q_iload_n G (pc := 28) dX11_rightRunsNow_28 rfl ?_
        refine q_aload_n G (pc := 29) dX11_rightRunsNow_29 rfl ?_
        refine q_getR (x := 118) G (pc := 30) dX11_rightRunsNow_30 fl_X11_47_10 rfl (hg hτ (hf_10_24 rfl)) ?_
        refine q_iload_n G (pc := 33) dX11_rightRunsNow_33 rfl ?_
        refine q_iald (j := l) (v := nI ((rdA P n f t l).2.1)) G (pc := 34) dX11_rightRunsNow_34 rfl rfl (by omega) (x1 l (by omega)).2.1 ?_
        refine q_iaddN G (pc := 35) dX11_rightRunsNow_35 ?_
        refine q_istore_n G (pc := 36) dX11_rightRunsNow_36 (by decide) ?_
        show X _ [_, _, _] _ _ _ _
        refine q_iincN G (pc := 37) dX11_rightRunsNow_37 rfl (inc1 _) (by decide) ?_
        show X _ [_, _, _] _ _ _ _
        refine q_goto (tgt := 20) G (pc := 40) dX11_rightRunsNow_40 (by decide) ?_
        exact ih20 (l + 1) (by omega) (by omega)
  exact L20 _ 0 (Nat.lt_succ_self _) (by omega)
set_option maxHeartbeats 2000000 in
theorem m_rightSetNow {d : Nat} (hd : 8 ≤ d) {hi : mm_HI} {τ : mm_T} {P : PG} {n : Nat} {f : Nat → Nat} {t K : Nat} {pn : Nat → Nat} {pf : Nat → Nat → Nat} {pt : Nat → Nat} {im : Nat → Option DK} {sl : List (Nat × Nat)} {N : Nat} {b : Nat → Nat} {tr : Int64} (hM : mS P n f t K pn pf pt im sl N b tr hi τ) : wI d yX11_rightSetNow [.ref 106] hi τ (fun x h => x = nI (rlM P n f t (pL P)) ∧ msc hi h) := by
  refine w_intro (by omega) M_X11_rightSetNow (Nat.le_of_ble_eq_true rfl) rfl ?_
  intro e X he G
  show X 0 [some (.ref (106))] [] hi τ 125
  obtain ⟨sw, hτ, hP, hRw, hV, hU, hI, hIV, hN, hNO, hT, hTr⟩ := id hM
  have hS6 : pS P ≤ 6 := hP.2.2.2.2.2.2.2.1
  have hL3 : pL P ≤ 3 := hP.2.2.2.2.2.2.1
  have hL1 : 1 ≤ pL P := hP.2.2.2.2.2.1
  have hW8 : (pW P).length ≤ 8 := hP.2.2.2.2.2.2.2.2.2.1
  have hn6 : n ≤ 6 := hRw.2.2.2.1
  have hfs : ∀ j, j < n → f j < pS P := hV.1.1
  have hV1 : rowV P n f := hV.1
  refine q_aload_n G (pc := 0) dX11_rightSetNow_0 rfl ?_
  refine q_aload_n G (pc := 1) dX11_rightSetNow_1 rfl ?_
  refine q_getR (x := 110) G (pc := 2) dX11_rightSetNow_2 fl_X11_23_10 rfl (hg hτ (hf_10_8 rfl)) ?_
  refine q_aload_n G (pc := 5) dX11_rightSetNow_5 rfl ?_
  refine q_getI (v := nI (n)) G (pc := 6) dX11_rightSetNow_6 fl_X11_75_10 (by decide) rfl hRw.1 ?_
  refine q_aload_n G (pc := 9) dX11_rightSetNow_9 rfl ?_
  refine q_getI (v := nI (t)) G (pc := 10) dX11_rightSetNow_10 fl_X11_133_10 (by decide) rfl hRw.2.1 ?_
  refine q_cV3V G (pc := 13) dX11_rightSetNow_13 cv_X11_169 rfl (m_readsAll (by omega) hτ hP (rc := 110) (m := n) (g := f) (T := t) ⟨Or.inl rfl, hRw.2.2.1, hfs, hn6, hRw.2.2.2.2.2⟩) (Nat.le_of_ble_eq_true rfl) ?_
  intro hk hx
  obtain ⟨x1, x2, x3⟩ := hx
  refine q_aload_n G (pc := 16) dX11_rightSetNow_16 rfl ?_
  refine q_cV0E G (pc := 17) dX11_rightSetNow_17 cv_X11_173 rfl (m_rightLines (by omega) hτ (hP.sc x3.sc) (a := fun l => (rdA P n f t l).1) (c := fun l => (rdA P n f t l).2.1) (fun l hl => by obtain ⟨q1, q2, q3⟩ := x1 l hl; have hb : (rdA P n f t l).2.1 ≤ (rdA P n f t l).1 ∧ (rdA P n f t l).1 ≤ 2 * n := ⟨(rdE_bd _).1, (rdE_bd _).2.1⟩; exact ⟨q1, q2, by show (rdA P n f t l).1 < _; omega, by show (rdA P n f t l).2.1 < _; omega⟩)) (Nat.le_of_ble_eq_true rfl) ?_
  rw [rlM_mk]
  refine q_iret G (pc := 20) dX11_rightSetNow_20 (Or.inl rfl) ?_
  exact ⟨rfl, _, rfl, rfl, x3.sc⟩
set_option maxHeartbeats 2000000 in
theorem m_line {d : Nat} (hd : 8 ≤ d) {hi : mm_HI} {τ : mm_T} {P : PG} {n : Nat} {f : Nat → Nat} {t K : Nat} {pn : Nat → Nat} {pf : Nat → Nat → Nat} {pt : Nat → Nat} {im : Nat → Option DK} {sl : List (Nat × Nat)} {N : Nat} {b : Nat → Nat} {tr : Int64} (hM : mS P n f t K pn pf pt im sl N b tr hi τ) {x : Int32} {y : Int32} : wR d yX11_line [.ref 106, .int x, .int y] hi τ (RQ (zLine (mkT P n f t K pn pf pt im sl N b tr) (ix x (pL P)) (ix y 3)) hi τ) := by
  refine w_intro (by omega) M_X11_line (Nat.le_of_ble_eq_true rfl) rfl ?_
  intro e X he G
  show X 0 [some (.ref (106)), some (.int (x)), some (.int (y))] [] hi τ 125
  obtain ⟨sw, hτ, hP, hRw, hV, hU, hI, hIV, hN, hNO, hT, hTr⟩ := id hM
  have hS6 : pS P ≤ 6 := hP.2.2.2.2.2.2.2.1
  have hL3 : pL P ≤ 3 := hP.2.2.2.2.2.2.1
  have hL1 : 1 ≤ pL P := hP.2.2.2.2.2.1
  have hW8 : (pW P).length ≤ 8 := hP.2.2.2.2.2.2.2.2.2.1
  have hn6 : n ≤ 6 := hRw.2.2.2.1
  have hfs : ∀ j, j < n → f j < pS P := hV.1.1
  have hV1 : rowV P n f := hV.1
  refine q_aload_n G (pc := 0) dX11_line_0 rfl ?_
  refine q_iload_n G (pc := 1) dX11_line_1 rfl ?_
  refine q_cV1B G (pc := 2) dX11_line_2 cv_X11_189 rfl (m_isLine (by omega) hM) (Nat.le_of_ble_eq_true rfl) (fun c2 => ?_) (fun c2 => ?_)
  · obtain ⟨l, hl, rfl⟩ := c2
    refine q_if_eqN (tgt := 17) G (pc := 5) dX11_line_5 (by decide) (by omega) (fun c5 => absurd c5 (by decide)) (fun _ => ?_)
    refine q_iload_n G (pc := 8) dX11_line_8 rfl ?_
    refine q_iconst (v := nI 0) G (pc := 9) dX11_line_9 (by decide) ?_
    refine q_iconst (v := nI 2) G (pc := 10) dX11_line_10 (by decide) ?_
    refine q_cS3B G (pc := 11) dX11_line_11 cs_X11_71 (w_iff (m_in (by omega)) (in0 (m := 2) (by decide))) (Nat.le_of_ble_eq_true rfl) (fun c11 => ?_) (fun c11 => ?_)
    · obtain ⟨k, hk0, rfl⟩ := c11
      refine q_if_neN (tgt := 19) G (pc := 14) dX11_line_14 (by decide) (by omega) (fun _ => ?_) (fun c14 => absurd c14 (by decide))
      refine q_aload_n G (pc := 19) dX11_line_19 rfl ?_
      refine q_aload_n G (pc := 20) dX11_line_20 rfl ?_
      refine q_getR (x := 110) G (pc := 21) dX11_line_21 fl_X11_23_10 rfl (hg hτ (hf_10_8 rfl)) ?_
      refine q_aload_n G (pc := 24) dX11_line_24 rfl ?_
      refine q_getI (v := nI (n)) G (pc := 25) dX11_line_25 fl_X11_75_10 (by decide) rfl hRw.1 ?_
      refine q_aload_n G (pc := 28) dX11_line_28 rfl ?_
      refine q_getI (v := nI (t)) G (pc := 29) dX11_line_29 fl_X11_133_10 (by decide) rfl hRw.2.1 ?_
      refine q_cV3V G (pc := 32) dX11_line_32 cv_X11_169 rfl (m_readsAll (by omega) hτ hP (rc := 110) (m := n) (g := f) (T := t) ⟨Or.inl rfl, hRw.2.2.1, hfs, hn6, hRw.2.2.2.2.2⟩) (Nat.le_of_ble_eq_true rfl) ?_
      intro hk hx
      obtain ⟨x1, x2, x3⟩ := hx
      refine q_iload_n G (pc := 35) dX11_line_35 rfl ?_
      refine q_if_neN (tgt := 48) G (pc := 36) dX11_line_36 (by decide) (by omega) (fun c36 => ?_) (fun c36 => ?_)
      · refine q_iload_n G (pc := 48) dX11_line_48 rfl ?_
        refine q_iconst (v := nI 1) G (pc := 49) dX11_line_49 (by decide) ?_
        refine q_icmp_neN (tgt := 62) G (pc := 50) dX11_line_50 (by decide) (by omega) (by omega) (fun c50 => ?_) (fun c50 => ?_)
        · refine q_aload_n G (pc := 62) dX11_line_62 rfl ?_
          refine q_getR (x := 119) G (pc := 63) dX11_line_63 fl_X11_50_10 rfl (hg hτ (hf_10_25 rfl)) ?_
          refine q_iload_n G (pc := 66) dX11_line_66 rfl ?_
          refine q_iald (j := l) (v := nI ((rdA P n f t l).2.2.1)) G (pc := 67) dX11_line_67 rfl rfl (by omega) (x1 l hl).2.2 ?_
          refine q_iret G (pc := 68) dX11_line_68 (Or.inl rfl) ?_
          have hk1 : k = 2 := by omega
          subst hk1
          exact hM.post x3.sc (by rw [ix_some hl (by omega), ix_some (s := 2) (n := 3) (by decide) (by decide)]; rfl)
        · refine q_aload_n G (pc := 53) dX11_line_53 rfl ?_
          refine q_getR (x := 118) G (pc := 54) dX11_line_54 fl_X11_47_10 rfl (hg hτ (hf_10_24 rfl)) ?_
          refine q_iload_n G (pc := 57) dX11_line_57 rfl ?_
          refine q_iald (j := l) (v := nI ((rdA P n f t l).2.1)) G (pc := 58) dX11_line_58 rfl rfl (by omega) (x1 l hl).2.1 ?_
          refine q_goto (tgt := 68) G (pc := 59) dX11_line_59 (by decide) ?_
          refine q_iret G (pc := 68) dX11_line_68 (Or.inl rfl) ?_
          have hk1 : k = 1 := by omega
          subst hk1
          exact hM.post x3.sc (by rw [ix_some hl (by omega), ix_some (s := 1) (n := 3) (by decide) (by decide)]; rfl)
      · refine q_aload_n G (pc := 39) dX11_line_39 rfl ?_
        refine q_getR (x := 117) G (pc := 40) dX11_line_40 fl_X11_44_10 rfl (hg hτ (hf_10_23 rfl)) ?_
        refine q_iload_n G (pc := 43) dX11_line_43 rfl ?_
        refine q_iald (j := l) (v := nI ((rdA P n f t l).1)) G (pc := 44) dX11_line_44 rfl rfl (by omega) (x1 l hl).1 ?_
        refine q_goto (tgt := 68) G (pc := 45) dX11_line_45 (by decide) ?_
        refine q_iret G (pc := 68) dX11_line_68 (Or.inl rfl) ?_
        have hk1 : k = 0 := by omega
        subst hk1
        exact hM.post x3.sc (by rw [ix_some hl (by omega), ix_some (s := 0) (n := 3) (by decide) (by decide)]; rfl)
    · refine q_if_neN (tgt := 19) G (pc := 14) dX11_line_14 (by decide) (by omega) (fun c14 => absurd c14 (by decide)) (fun _ => ?_)
      refine q_iconst (v := -1) G (pc := 17) dX11_line_17 (by decide) ?_
      refine q_iret G (pc := 18) dX11_line_18 (Or.inl rfl) ?_
      exact hM.post msc.rf (by rw [ix_some hl (by omega), ix_none c11]; rfl)
  · refine q_if_eqN (tgt := 17) G (pc := 5) dX11_line_5 (by decide) (by omega) (fun _ => ?_) (fun c5 => absurd c5 (by decide))
    refine q_iconst (v := -1) G (pc := 17) dX11_line_17 (by decide) ?_
    refine q_iret G (pc := 18) dX11_line_18 (Or.inl rfl) ?_
    exact hM.post msc.rf (by rw [ix_none c2]; rfl)
set_option maxHeartbeats 2000000 in
theorem m_reads {d : Nat} (hd : 4 ≤ d) {hi : mm_HI} {τ : mm_T} {P : PG} {n : Nat} {f : Nat → Nat} {t K : Nat} {pn : Nat → Nat} {pf : Nat → Nat → Nat} {pt : Nat → Nat} {im : Nat → Option DK} {sl : List (Nat × Nat)} {N : Nat} {b : Nat → Nat} {tr : Int64} (hM : mS P n f t K pn pf pt im sl N b tr hi τ) {x : Int32} {y : Int32} : wR d yX11_reads [.ref 106, .int x, .int y] hi τ (RQ (zReads (mkT P n f t K pn pf pt im sl N b tr) (ix x (pL P)) (ix y (2 * n))) hi τ) := by
  refine w_intro (by omega) M_X11_reads (Nat.le_of_ble_eq_true rfl) rfl ?_
  intro e X he G
  show X 0 [some (.ref (106)), some (.int (x)), some (.int (y))] [] hi τ 125
  obtain ⟨sw, hτ, hP, hRw, hV, hU, hI, hIV, hN, hNO, hT, hTr⟩ := id hM
  have hS6 : pS P ≤ 6 := hP.2.2.2.2.2.2.2.1
  have hL3 : pL P ≤ 3 := hP.2.2.2.2.2.2.1
  have hL1 : 1 ≤ pL P := hP.2.2.2.2.2.1
  have hW8 : (pW P).length ≤ 8 := hP.2.2.2.2.2.2.2.2.2.1
  have hn6 : n ≤ 6 := hRw.2.2.2.1
  have hfs : ∀ j, j < n → f j < pS P := hV.1.1
  have hV1 : rowV P n f := hV.1
  refine q_aload_n G (pc := 0) dX11_reads_0 rfl ?_
  refine q_iload_n G (pc := 1) dX11_reads_1 rfl ?_
  refine q_cV1B G (pc := 2) dX11_reads_2 cv_X11_189 rfl (m_isLine (by omega) hM) (Nat.le_of_ble_eq_true rfl) (fun c2 => ?_) (fun c2 => ?_)
  · obtain ⟨l, hl, rfl⟩ := c2
    refine q_if_eqN (tgt := 41) G (pc := 5) dX11_reads_5 (by decide) (by omega) (fun c5 => absurd c5 (by decide)) (fun _ => ?_)
    refine q_iload_n G (pc := 8) dX11_reads_8 rfl ?_
    refine q_iconst (v := nI 0) G (pc := 9) dX11_reads_9 (by decide) ?_
    refine q_iconst (v := nI 2) G (pc := 10) dX11_reads_10 (by decide) ?_
    refine q_aload_n G (pc := 11) dX11_reads_11 rfl ?_
    refine q_getI (v := nI (n)) G (pc := 12) dX11_reads_12 fl_X11_75_10 (by decide) rfl hRw.1 ?_
    refine q_imulN G (pc := 15) dX11_reads_15 ?_
    refine q_iconst (v := nI 1) G (pc := 16) dX11_reads_16 (by decide) ?_
    refine q_isub G (pc := 17) dX11_reads_17 ?_
    refine q_cS3B G (pc := 18) dX11_reads_18 cs_X11_71 (w_iff (m_in (by omega)) (in1 (m := 2 * n) (by omega))) (Nat.le_of_ble_eq_true rfl) (fun c18 => ?_) (fun c18 => ?_)
    · obtain ⟨i, hi2, rfl⟩ := c18
      refine q_if_eqN (tgt := 41) G (pc := 21) dX11_reads_21 (by decide) (by omega) (fun c21 => absurd c21 (by decide)) (fun _ => ?_)
      refine q_aload_n G (pc := 24) dX11_reads_24 rfl ?_
      refine q_aload_n G (pc := 25) dX11_reads_25 rfl ?_
      refine q_getR (x := 110) G (pc := 26) dX11_reads_26 fl_X11_23_10 rfl (hg hτ (hf_10_8 rfl)) ?_
      refine q_iload_n G (pc := 29) dX11_reads_29 rfl ?_
      refine q_iload_n G (pc := 30) dX11_reads_30 rfl ?_
      refine q_aload_n G (pc := 31) dX11_reads_31 rfl ?_
      refine q_getI (v := nI (t)) G (pc := 32) dX11_reads_32 fl_X11_133_10 (by decide) rfl hRw.2.1 ?_
      refine q_cV4E G (pc := 35) dX11_reads_35 cv_X11_150 rfl (m_readBy (by omega) hτ hP (rc := 110) (m := n) (g := f) (T := t) ⟨Or.inl rfl, hRw.2.2.1, hfs, hn6, hRw.2.2.2.2.2⟩ hl hi2) (Nat.le_of_ble_eq_true rfl) ?_
      refine q_goto (tgt := 42) G (pc := 38) dX11_reads_38 (by decide) ?_
      refine q_iret G (pc := 42) dX11_reads_42 (Or.inl rfl) ?_
      exact hM.post msc.rf (by rw [ix_some hl (by omega), ix_some hi2 (by omega)]; exact congrArg (fun z => (mkT P n f t K pn pf pt im sl N b tr, z)) (byt_n _))
    · refine q_if_eqN (tgt := 41) G (pc := 21) dX11_reads_21 (by decide) (by omega) (fun _ => ?_) (fun c21 => absurd c21 (by decide))
      refine q_iconst (v := -1) G (pc := 41) dX11_reads_41 (by decide) ?_
      refine q_iret G (pc := 42) dX11_reads_42 (Or.inl rfl) ?_
      exact hM.post msc.rf (by rw [ix_some hl (by omega), ix_none c18]; rfl)
  · refine q_if_eqN (tgt := 41) G (pc := 5) dX11_reads_5 (by decide) (by omega) (fun _ => ?_) (fun c5 => absurd c5 (by decide))
    refine q_iconst (v := -1) G (pc := 41) dX11_reads_41 (by decide) ?_
    refine q_iret G (pc := 42) dX11_reads_42 (Or.inl rfl) ?_
    exact hM.post msc.rf (by rw [ix_none c2]; rfl)
