set_option maxHeartbeats 2000000 in
theorem m_readsItem {d : Nat} (hd : 5 ≤ d) {hi : mm_HI} {τ : mm_T} {sw : Bool} (hτ : τ.1 = mm_hr sw) {b : Nat → Nat} {N q k : Nat} {P : PG} (hT : txM hi b N) (hR : rdM hi b N P k q) (hlt : q < N) (hk9 : k < 151) (hk0 : k = 0 → pS P = 0) : wI d yX11_readsItem [.ref 106] hi τ (rsM (itM b N q (decide (k = 0)) P) b N (k + 1) hi) := by
  refine w_intro (by omega) M_X11_readsItem (Nat.le_of_ble_eq_true rfl) rfl ?_
  intro e X he G
  show X 0 [some (.ref (106)), none, none] [] hi τ 125
  have hN150 := hT.2.1
  have hqN := hR.2.1
  obtain ⟨o1, o2, o3, o4, o5, o6⟩ := id hR.2.2.2.2.2.2.2.2
  by_cases hh : tkn b N q = 1 ∧ tke b N q = q + 1
  · refine q_aload_n G (pc := 0) dX11_readsItem_0 rfl ?_
    refine q_cV0E G (pc := 1) dX11_readsItem_1 cv_X11_102 rfl (m_rowSize (by omega) hτ hT hR.1 hqN) (Nat.le_of_ble_eq_true rfl) ?_
    rw [(row_is hqN (by omega)).mpr hh]
    refine q_iconst (v := nI 1) G (pc := 4) dX11_readsItem_4 (by decide) ?_
    refine q_icmp_neN (tgt := 15) G (pc := 5) dX11_readsItem_5 (by decide) (by omega) (by omega) (fun c5 => absurd c5 (by decide)) (fun _ => ?_)
    refine q_aload_n G (pc := 8) dX11_readsItem_8 rfl ?_
    refine q_cV0E G (pc := 9) dX11_readsItem_9 cv_X11_84 rfl (m_here (by omega) hτ hT hR.1 hqN) (Nat.le_of_ble_eq_true rfl) ?_
    rw [if_pos hlt]
    have hb255 := hT.2.2.2 q
    refine q_goto (tgt := 17) G (pc := 12) dX11_readsItem_12 (by decide) ?_
    refine q_istore_n G (pc := 17) dX11_readsItem_17 (by decide) ?_
    show X _ [_, _, _] _ _ _ _
    refine q_iload_n G (pc := 18) dX11_readsItem_18 rfl ?_
    refine q_bipush (v := nI 110) G (pc := 19) dX11_readsItem_19 (by decide) ?_
    refine q_icmp_neN (tgt := 39) G (pc := 21) dX11_readsItem_21 (by decide) (by omega) (by omega) (fun c21 => ?_) (fun c21 => ?_)
    · refine q_iload_n G (pc := 39) dX11_readsItem_39 rfl ?_
      refine q_bipush (v := nI 115) G (pc := 40) dX11_readsItem_40 (by decide) ?_
      refine q_icmp_neN (tgt := 62) G (pc := 42) dX11_readsItem_42 (by decide) (by omega) (by omega) (fun c42 => ?_) (fun c42 => ?_)
      · refine q_iload_n G (pc := 62) dX11_readsItem_62 rfl ?_
        refine q_bipush (v := nI 119) G (pc := 63) dX11_readsItem_63 (by decide) ?_
        refine q_icmp_neN (tgt := 81) G (pc := 65) dX11_readsItem_65 (by decide) (by omega) (by omega) (fun c65 => ?_) (fun c65 => ?_)
        · refine q_iconst (v := nI 0) G (pc := 81) dX11_readsItem_81 (by decide) ?_
          refine q_istore_n G (pc := 82) dX11_readsItem_82 (by decide) ?_
          show X _ [_, _, _] _ _ _ _
          refine q_iload_n G (pc := 83) dX11_readsItem_83 rfl ?_
          refine q_if_neN (tgt := 89) G (pc := 84) dX11_readsItem_84 (by decide) (by omega) (fun c84 => absurd c84 (by decide)) (fun _ => ?_)
          refine q_iconst (v := nI 0) G (pc := 87) dX11_readsItem_87 (by decide) ?_
          refine q_iret G (pc := 88) dX11_readsItem_88 (Or.inr ⟨rfl, by decide⟩) ?_
          exact ⟨rfl, _, rfl, msc.rf, Or.inl ⟨q, by unfold itM; rw [if_pos hh, if_neg c21, if_neg c42, if_neg c65], rfl, hR.1, hqN⟩⟩
        · refine q_aload_n G (pc := 68) dX11_readsItem_68 rfl ?_
          refine q_getI (v := nI ((pW P).length)) G (pc := 69) dX11_readsItem_69 fl_X11_112_10 (by decide) rfl hR.2.2.2.2.1 ?_
          refine q_bipush (v := nI 8) G (pc := 72) dX11_readsItem_72 (by decide) ?_
          refine q_icmp_geN (tgt := 81) G (pc := 74) dX11_readsItem_74 (by decide) (by omega) (by omega) (fun c74 => ?_) (fun c74 => ?_)
          · refine q_iconst (v := nI 0) G (pc := 81) dX11_readsItem_81 (by decide) ?_
            refine q_istore_n G (pc := 82) dX11_readsItem_82 (by decide) ?_
            show X _ [_, _, _] _ _ _ _
            refine q_iload_n G (pc := 83) dX11_readsItem_83 rfl ?_
            refine q_if_neN (tgt := 89) G (pc := 84) dX11_readsItem_84 (by decide) (by omega) (fun c84 => absurd c84 (by decide)) (fun _ => ?_)
            refine q_iconst (v := nI 0) G (pc := 87) dX11_readsItem_87 (by decide) ?_
            refine q_iret G (pc := 88) dX11_readsItem_88 (Or.inr ⟨rfl, by decide⟩) ?_
            exact ⟨rfl, _, rfl, msc.rf, Or.inl ⟨q, by unfold itM; rw [if_pos hh, if_neg c21, if_neg c42, if_pos c65, if_neg (by omega)], rfl, hR.1, hqN⟩⟩
          · refine q_iconst (v := nI 1) G (pc := 77) dX11_readsItem_77 (by decide) ?_
            refine q_goto (tgt := 82) G (pc := 78) dX11_readsItem_78 (by decide) ?_
            refine q_istore_n G (pc := 82) dX11_readsItem_82 (by decide) ?_
            show X _ [_, _, _] _ _ _ _
            refine q_iload_n G (pc := 83) dX11_readsItem_83 rfl ?_
            refine q_if_neN (tgt := 89) G (pc := 84) dX11_readsItem_84 (by decide) (by omega) (fun _ => ?_) (fun c84 => absurd c84 (by decide))
            refine q_aload_n G (pc := 89) dX11_readsItem_89 rfl ?_
            refine q_dup G (pc := 90) dX11_readsItem_90 rfl ?_
            refine q_getI (v := nI (q)) G (pc := 91) dX11_readsItem_91 fl_X11_81_10 (by decide) rfl hR.1 ?_
            refine q_iconst (v := nI 1) G (pc := 94) dX11_readsItem_94 (by decide) ?_
            refine q_iaddN G (pc := 95) dX11_readsItem_95 ?_
            refine q_putI G (pc := 96) dX11_readsItem_96 fl_X11_81_10 rfl ?_
            refine q_aload_n G (pc := 99) dX11_readsItem_99 rfl ?_
            refine q_dup G (pc := 100) dX11_readsItem_100 rfl ?_
            refine q_getI (v := nI (k)) G (pc := 101) dX11_readsItem_101 fl_X11_115_10 (by decide) rfl (by simp [va_up]; exact hR.2.2.2.2.2.1) ?_
            refine q_iconst (v := nI 1) G (pc := 104) dX11_readsItem_104 (by decide) ?_
            refine q_iaddN G (pc := 105) dX11_readsItem_105 ?_
            refine q_putI G (pc := 106) dX11_readsItem_106 fl_X11_115_10 rfl ?_
            refine q_iload_n G (pc := 109) dX11_readsItem_109 rfl ?_
            refine q_bipush (v := nI 110) G (pc := 110) dX11_readsItem_110 (by decide) ?_
            refine q_icmp_neN (tgt := 122) G (pc := 112) dX11_readsItem_112 (by decide) (by omega) (by omega) (fun _ => ?_) (fun c112 => absurd c112 c21)
            refine q_iload_n G (pc := 122) dX11_readsItem_122 rfl ?_
            refine q_bipush (v := nI 115) G (pc := 123) dX11_readsItem_123 (by decide) ?_
            refine q_icmp_neN (tgt := 135) G (pc := 125) dX11_readsItem_125 (by decide) (by omega) (by omega) (fun _ => ?_) (fun c125 => absurd c125 c42)
            refine q_aload_n G (pc := 135) dX11_readsItem_135 rfl ?_
            have hs2 : msc hi (mm_up2 (mm_up2 hi 106 15 (nI (q + 1))) 106 19 (nI (k + 1))) := (msc.fld (by omega) (by omega)).trans (msc.fld (by omega) (by omega))
            have hR2 : rdM (mm_up2 (mm_up2 hi 106 15 (nI (q + 1))) 106 19 (nI (k + 1))) b N P (k + 1) (q + 1) := by
              obtain ⟨a1, a2, a3, a4, a5, a6, a7, a8, a9⟩ := hR
              exact ⟨by simp [va_up], by omega, by simp [va_up]; exact a3, by simp [va_up]; exact a4, by simp [va_up]; exact a5, by simp [va_up], by simp [va_up]; exact a7, by simp [va_up]; exact a8, a9⟩
            refine q_cV0I G (pc := 136) dX11_readsItem_136 cv_X11_124 rfl (m_readsWord (by omega) hτ (hT.sc hs2) hR2 (by omega)) (Nat.le_of_ble_eq_true rfl) ?_
            intro xl hk3 hy
            refine q_iret G (pc := 139) dX11_readsItem_139 (Or.inr ⟨rfl, by rcases hy.2 with ⟨_, _, e, _⟩ | ⟨_, _, _, e, _⟩ <;> rw [e] <;> decide⟩) ?_
            refine ⟨rfl, _, rfl, ?_⟩
            unfold itM
            rw [if_pos hh, if_neg c21, if_neg c42, if_pos c65, if_pos (by omega)]
            exact hy.pre hs2
      · refine q_aload_n G (pc := 45) dX11_readsItem_45 rfl ?_
        refine q_getI (v := nI (pS P)) G (pc := 46) dX11_readsItem_46 fl_X11_105_10 (by decide) rfl hR.2.2.2.1 ?_
        refine q_bipush (v := nI 6) G (pc := 49) dX11_readsItem_49 (by decide) ?_
        refine q_icmp_geN (tgt := 58) G (pc := 51) dX11_readsItem_51 (by decide) (by omega) (by omega) (fun c51 => ?_) (fun c51 => ?_)
        · refine q_iconst (v := nI 0) G (pc := 58) dX11_readsItem_58 (by decide) ?_
          refine q_goto (tgt := 82) G (pc := 59) dX11_readsItem_59 (by decide) ?_
          refine q_istore_n G (pc := 82) dX11_readsItem_82 (by decide) ?_
          show X _ [_, _, _] _ _ _ _
          refine q_iload_n G (pc := 83) dX11_readsItem_83 rfl ?_
          refine q_if_neN (tgt := 89) G (pc := 84) dX11_readsItem_84 (by decide) (by omega) (fun c84 => absurd c84 (by decide)) (fun _ => ?_)
          refine q_iconst (v := nI 0) G (pc := 87) dX11_readsItem_87 (by decide) ?_
          refine q_iret G (pc := 88) dX11_readsItem_88 (Or.inr ⟨rfl, by decide⟩) ?_
          exact ⟨rfl, _, rfl, msc.rf, Or.inl ⟨q, by unfold itM; rw [if_pos hh, if_neg c21, if_pos c42, if_neg (by omega)], rfl, hR.1, hqN⟩⟩
        · refine q_iconst (v := nI 1) G (pc := 54) dX11_readsItem_54 (by decide) ?_
          refine q_goto (tgt := 82) G (pc := 55) dX11_readsItem_55 (by decide) ?_
          refine q_istore_n G (pc := 82) dX11_readsItem_82 (by decide) ?_
          show X _ [_, _, _] _ _ _ _
          refine q_iload_n G (pc := 83) dX11_readsItem_83 rfl ?_
          refine q_if_neN (tgt := 89) G (pc := 84) dX11_readsItem_84 (by decide) (by omega) (fun _ => ?_) (fun c84 => absurd c84 (by decide))
          refine q_aload_n G (pc := 89) dX11_readsItem_89 rfl ?_
          refine q_dup G (pc := 90) dX11_readsItem_90 rfl ?_
          refine q_getI (v := nI (q)) G (pc := 91) dX11_readsItem_91 fl_X11_81_10 (by decide) rfl hR.1 ?_
          refine q_iconst (v := nI 1) G (pc := 94) dX11_readsItem_94 (by decide) ?_
          refine q_iaddN G (pc := 95) dX11_readsItem_95 ?_
          refine q_putI G (pc := 96) dX11_readsItem_96 fl_X11_81_10 rfl ?_
          refine q_aload_n G (pc := 99) dX11_readsItem_99 rfl ?_
          refine q_dup G (pc := 100) dX11_readsItem_100 rfl ?_
          refine q_getI (v := nI (k)) G (pc := 101) dX11_readsItem_101 fl_X11_115_10 (by decide) rfl (by simp [va_up]; exact hR.2.2.2.2.2.1) ?_
          refine q_iconst (v := nI 1) G (pc := 104) dX11_readsItem_104 (by decide) ?_
          refine q_iaddN G (pc := 105) dX11_readsItem_105 ?_
          refine q_putI G (pc := 106) dX11_readsItem_106 fl_X11_115_10 rfl ?_
          refine q_iload_n G (pc := 109) dX11_readsItem_109 rfl ?_
          refine q_bipush (v := nI 110) G (pc := 110) dX11_readsItem_110 (by decide) ?_
          refine q_icmp_neN (tgt := 122) G (pc := 112) dX11_readsItem_112 (by decide) (by omega) (by omega) (fun _ => ?_) (fun c112 => absurd c112 c21)
          refine q_iload_n G (pc := 122) dX11_readsItem_122 rfl ?_
          refine q_bipush (v := nI 115) G (pc := 123) dX11_readsItem_123 (by decide) ?_
          refine q_icmp_neN (tgt := 135) G (pc := 125) dX11_readsItem_125 (by decide) (by omega) (by omega) (fun c125 => absurd c42 c125) (fun _ => ?_)
          refine q_aload_n G (pc := 128) dX11_readsItem_128 rfl ?_
          have hs2 : msc hi (mm_up2 (mm_up2 hi 106 15 (nI (q + 1))) 106 19 (nI (k + 1))) := (msc.fld (by omega) (by omega)).trans (msc.fld (by omega) (by omega))
          have hR2 : rdM (mm_up2 (mm_up2 hi 106 15 (nI (q + 1))) 106 19 (nI (k + 1))) b N P (k + 1) (q + 1) := by
            obtain ⟨a1, a2, a3, a4, a5, a6, a7, a8, a9⟩ := hR
            exact ⟨by simp [va_up], by omega, by simp [va_up]; exact a3, by simp [va_up]; exact a4, by simp [va_up]; exact a5, by simp [va_up], by simp [va_up]; exact a7, by simp [va_up]; exact a8, a9⟩
          refine q_cV0I G (pc := 129) dX11_readsItem_129 cv_X11_121 rfl (m_readsStrip (by omega) hτ (hT.sc hs2) hR2 (q := q) hh.2.symm (by omega)) (Nat.le_of_ble_eq_true rfl) ?_
          intro xl hk3 hy
          refine q_goto (tgt := 139) G (pc := 132) dX11_readsItem_132 (by decide) ?_
          refine q_iret G (pc := 139) dX11_readsItem_139 (Or.inr ⟨rfl, by rcases hy.2 with ⟨_, _, e, _⟩ | ⟨_, _, _, e, _⟩ <;> rw [e] <;> decide⟩) ?_
          refine ⟨rfl, _, rfl, ?_⟩
          unfold itM
          rw [if_pos hh, if_neg c21, if_pos c42, if_pos (by omega)]
          exact hy.pre hs2
    · refine q_aload_n G (pc := 24) dX11_readsItem_24 rfl ?_
      refine q_getI (v := nI (k)) G (pc := 25) dX11_readsItem_25 fl_X11_115_10 (by decide) rfl hR.2.2.2.2.2.1 ?_
      refine q_if_neN (tgt := 35) G (pc := 28) dX11_readsItem_28 (by decide) (by omega) (fun c28 => ?_) (fun c28 => ?_)
      · refine q_iconst (v := nI 0) G (pc := 35) dX11_readsItem_35 (by decide) ?_
        refine q_goto (tgt := 82) G (pc := 36) dX11_readsItem_36 (by decide) ?_
        refine q_istore_n G (pc := 82) dX11_readsItem_82 (by decide) ?_
        show X _ [_, _, _] _ _ _ _
        refine q_iload_n G (pc := 83) dX11_readsItem_83 rfl ?_
        refine q_if_neN (tgt := 89) G (pc := 84) dX11_readsItem_84 (by decide) (by omega) (fun c84 => absurd c84 (by decide)) (fun _ => ?_)
        refine q_iconst (v := nI 0) G (pc := 87) dX11_readsItem_87 (by decide) ?_
        refine q_iret G (pc := 88) dX11_readsItem_88 (Or.inr ⟨rfl, by decide⟩) ?_
        exact ⟨rfl, _, rfl, msc.rf, Or.inl ⟨q, by unfold itM; rw [if_pos hh, if_pos c21, if_neg (by simp; exact c28)], rfl, hR.1, hqN⟩⟩
      · refine q_iconst (v := nI 1) G (pc := 31) dX11_readsItem_31 (by decide) ?_
        refine q_goto (tgt := 82) G (pc := 32) dX11_readsItem_32 (by decide) ?_
        refine q_istore_n G (pc := 82) dX11_readsItem_82 (by decide) ?_
        show X _ [_, _, _] _ _ _ _
        refine q_iload_n G (pc := 83) dX11_readsItem_83 rfl ?_
        refine q_if_neN (tgt := 89) G (pc := 84) dX11_readsItem_84 (by decide) (by omega) (fun _ => ?_) (fun c84 => absurd c84 (by decide))
        refine q_aload_n G (pc := 89) dX11_readsItem_89 rfl ?_
        refine q_dup G (pc := 90) dX11_readsItem_90 rfl ?_
        refine q_getI (v := nI (q)) G (pc := 91) dX11_readsItem_91 fl_X11_81_10 (by decide) rfl hR.1 ?_
        refine q_iconst (v := nI 1) G (pc := 94) dX11_readsItem_94 (by decide) ?_
        refine q_iaddN G (pc := 95) dX11_readsItem_95 ?_
        refine q_putI G (pc := 96) dX11_readsItem_96 fl_X11_81_10 rfl ?_
        refine q_aload_n G (pc := 99) dX11_readsItem_99 rfl ?_
        refine q_dup G (pc := 100) dX11_readsItem_100 rfl ?_
        refine q_getI (v := nI (k)) G (pc := 101) dX11_readsItem_101 fl_X11_115_10 (by decide) rfl (by simp [va_up]; exact hR.2.2.2.2.2.1) ?_
        refine q_iconst (v := nI 1) G (pc := 104) dX11_readsItem_104 (by decide) ?_
        refine q_iaddN G (pc := 105) dX11_readsItem_105 ?_
        refine q_putI G (pc := 106) dX11_readsItem_106 fl_X11_115_10 rfl ?_
        refine q_iload_n G (pc := 109) dX11_readsItem_109 rfl ?_
        refine q_bipush (v := nI 110) G (pc := 110) dX11_readsItem_110 (by decide) ?_
        refine q_icmp_neN (tgt := 122) G (pc := 112) dX11_readsItem_112 (by decide) (by omega) (by omega) (fun c112 => absurd c21 c112) (fun _ => ?_)
        refine q_aload_n G (pc := 115) dX11_readsItem_115 rfl ?_
        have hs2 : msc hi (mm_up2 (mm_up2 hi 106 15 (nI (q + 1))) 106 19 (nI (k + 1))) := (msc.fld (by omega) (by omega)).trans (msc.fld (by omega) (by omega))
        have hR2 : rdM (mm_up2 (mm_up2 hi 106 15 (nI (q + 1))) 106 19 (nI (k + 1))) b N P (k + 1) (q + 1) := by
          obtain ⟨a1, a2, a3, a4, a5, a6, a7, a8, a9⟩ := hR
          exact ⟨by simp [va_up], by omega, by simp [va_up]; exact a3, by simp [va_up]; exact a4, by simp [va_up]; exact a5, by simp [va_up], by simp [va_up]; exact a7, by simp [va_up]; exact a8, a9⟩
        refine q_cV0I G (pc := 116) dX11_readsItem_116 cv_X11_118 rfl (m_readsLines (by omega) hτ (hT.sc hs2) hR2 (hk0 c28)) (Nat.le_of_ble_eq_true rfl) ?_
        intro xl hk3 hy
        refine q_goto (tgt := 139) G (pc := 119) dX11_readsItem_119 (by decide) ?_
        refine q_iret G (pc := 139) dX11_readsItem_139 (Or.inr ⟨rfl, by rcases hy.2 with ⟨_, _, e, _⟩ | ⟨_, _, _, e, _⟩ <;> rw [e] <;> decide⟩) ?_
        refine ⟨rfl, _, rfl, ?_⟩
        unfold itM
        rw [if_pos hh, if_pos c21, if_pos (by simp; exact c28)]
        exact hy.pre hs2
  · refine q_aload_n G (pc := 0) dX11_readsItem_0 rfl ?_
    refine q_cV0E G (pc := 1) dX11_readsItem_1 cv_X11_102 rfl (m_rowSize (by omega) hτ hT hR.1 hqN) (Nat.le_of_ble_eq_true rfl) ?_
    have hrl := ren_le (b := b) (k := 1) hqN
    refine q_iconst (v := nI 1) G (pc := 4) dX11_readsItem_4 (by decide) ?_
    refine q_icmp_neN (tgt := 15) G (pc := 5) dX11_readsItem_5 (by decide) (by omega) (by omega) (fun c5 => ?_) (fun c5 => ?_)
    · refine q_bipush (v := -9) G (pc := 15) dX11_readsItem_15 (by decide) ?_
      refine q_istore_n G (pc := 17) dX11_readsItem_17 (by decide) ?_
      show X _ [_, _, _] _ _ _ _
      refine q_iload_n G (pc := 18) dX11_readsItem_18 rfl ?_
      refine q_bipush (v := nI 110) G (pc := 19) dX11_readsItem_19 (by decide) ?_
      refine q_icmp_ne (tgt := 39) G (pc := 21) dX11_readsItem_21 (by decide) (fun c21 => ?_) (fun c21 => ?_)
      · refine q_iload_n G (pc := 39) dX11_readsItem_39 rfl ?_
        refine q_bipush (v := nI 115) G (pc := 40) dX11_readsItem_40 (by decide) ?_
        refine q_icmp_ne (tgt := 62) G (pc := 42) dX11_readsItem_42 (by decide) (fun c42 => ?_) (fun c42 => ?_)
        · refine q_iload_n G (pc := 62) dX11_readsItem_62 rfl ?_
          refine q_bipush (v := nI 119) G (pc := 63) dX11_readsItem_63 (by decide) ?_
          refine q_icmp_ne (tgt := 81) G (pc := 65) dX11_readsItem_65 (by decide) (fun c65 => ?_) (fun c65 => ?_)
          · refine q_iconst (v := nI 0) G (pc := 81) dX11_readsItem_81 (by decide) ?_
            refine q_istore_n G (pc := 82) dX11_readsItem_82 (by decide) ?_
            show X _ [_, _, _] _ _ _ _
            refine q_iload_n G (pc := 83) dX11_readsItem_83 rfl ?_
            refine q_if_neN (tgt := 89) G (pc := 84) dX11_readsItem_84 (by decide) (by omega) (fun c84 => absurd c84 (by decide)) (fun _ => ?_)
            refine q_iconst (v := nI 0) G (pc := 87) dX11_readsItem_87 (by decide) ?_
            refine q_iret G (pc := 88) dX11_readsItem_88 (Or.inr ⟨rfl, by decide⟩) ?_
            exact ⟨rfl, _, rfl, msc.rf, Or.inl ⟨_, if_neg hh, rfl, hR.1, hqN⟩⟩
          · exact absurd c65 (by decide)
        · exact absurd c42 (by decide)
      · exact absurd c21 (by decide)
    · exact absurd ((row_is hqN (by omega)).mp c5) hh
set_option maxHeartbeats 2000000 in
theorem m_page {d : Nat} (hd : 6 ≤ d) {hi : mm_HI} {τ : mm_T} {P : PG} {n : Nat} {f : Nat → Nat} {t K : Nat} {pn : Nat → Nat} {pf : Nat → Nat → Nat} {pt : Nat → Nat} {im : Nat → Option DK} {sl : List (Nat × Nat)} {N : Nat} {b : Nat → Nat} {tr : Int64} (hM : mS P n f t K pn pf pt im sl N b tr hi τ)  : wR d yX11_page [.ref 106] hi τ (RQ (zPage (mkT P n f t K pn pf pt im sl N b tr)) hi τ) := by
  refine w_intro (by omega) M_X11_page (Nat.le_of_ble_eq_true rfl) rfl ?_
  intro e X he G
  show X 0 [some (.ref (106)), none] [] hi τ 125
  obtain ⟨sw, hτ, hP, hRw, hV, hU, hI, hIV, hN, hNO, hT, hTr⟩ := id hM
  have hS6 : pS P ≤ 6 := hP.2.2.2.2.2.2.2.1
  have hL3 : pL P ≤ 3 := hP.2.2.2.2.2.2.1
  have hL1 : 1 ≤ pL P := hP.2.2.2.2.2.1
  have hW8 : (pW P).length ≤ 8 := hP.2.2.2.2.2.2.2.2.2.1
  have hn6 : n ≤ 6 := hRw.2.2.2.1
  have hfs : ∀ j, j < n → f j < pS P := hV.1.1
  have hV1 : rowV P n f := hV.1
  have hN150 := hT.2.1
  refine q_aload_n G (pc := 0) dX11_page_0 rfl ?_
  refine q_iconst (v := nI 0) G (pc := 1) dX11_page_1 (by decide) ?_
  refine q_putI G (pc := 2) dX11_page_2 fl_X11_81_10 rfl ?_
  refine q_aload_n G (pc := 5) dX11_page_5 rfl ?_
  refine q_iconst (v := nI 2) G (pc := 6) dX11_page_6 (by decide) ?_
  refine q_putI G (pc := 7) dX11_page_7 fl_X11_95_10 rfl ?_
  refine q_aload_n G (pc := 10) dX11_page_10 rfl ?_
  refine q_iconst (v := nI 0) G (pc := 11) dX11_page_11 (by decide) ?_
  refine q_putI G (pc := 12) dX11_page_12 fl_X11_105_10 rfl ?_
  refine q_aload_n G (pc := 15) dX11_page_15 rfl ?_
  refine q_iconst (v := nI 0) G (pc := 16) dX11_page_16 (by decide) ?_
  refine q_putI G (pc := 17) dX11_page_17 fl_X11_112_10 rfl ?_
  refine q_aload_n G (pc := 20) dX11_page_20 rfl ?_
  refine q_iconst (v := nI 0) G (pc := 21) dX11_page_21 (by decide) ?_
  refine q_putI G (pc := 22) dX11_page_22 fl_X11_115_10 rfl ?_
  refine q_aload_n G (pc := 25) dX11_page_25 rfl ?_
  have hs5 : msc hi (mm_up2 (mm_up2 (mm_up2 (mm_up2 (mm_up2 hi 106 15 (nI 0)) 106 16 (nI 2)) 106 17 (nI 0)) 106 18 (nI 0)) 106 19 (nI 0)) := ((((msc.fld (by omega) (by omega)).trans (msc.fld (by omega) (by omega))).trans (msc.fld (by omega) (by omega))).trans (msc.fld (by omega) (by omega))).trans (msc.fld (by omega) (by omega))
  refine q_cV0V G (pc := 26) dX11_page_26 cv_X11_92 rfl (m_skip (by omega) hτ (hT.sc hs5) (q := 0) (by simp [va_up]) (by omega)) (Nat.le_of_ble_eq_true rfl) ?_
  intro hk0 hx
  obtain ⟨x1, x2⟩ := hx
  have L29 : ∀ (zz : Nat) (k q : Nat) (Q : PG) (hk : mm_HI), N - q < zz → rdM hk b N Q k q → (k = 0 → pS Q = 0) → prs b N 150 0 (skp b N 0) P00 = prs b N (150 - k) k q Q → 2 * k ≤ q → msc hi hk → X 29 [some (.ref (106)), none] [] hk τ 125 := by
    intro zz
    induction zz with
    | zero => intro k q Q hk hm; exact absurd hm (Nat.not_lt_zero _)
    | succ zz ih29 =>
      intro k q Q hk hm gR g0 g3 g5 g6
      have hqN := gR.2.1
      have hk75 : 2 * k ≤ 150 := by omega
      have hLq : 1 ≤ pL Q := gR.2.2.2.2.2.2.2.2.1
      refine q_aload_n G (pc := 29) dX11_page_29 rfl ?_
      refine q_getI (v := nI (q)) G (pc := 30) dX11_page_30 fl_X11_81_10 (by decide) rfl gR.1 ?_
      refine q_aload_n G (pc := 33) dX11_page_33 rfl ?_
      refine q_getI (v := nI (N)) G (pc := 34) dX11_page_34 fl_X11_78_10 (by decide) rfl (hT.sc g6).1 ?_
      refine q_icmp_geN (tgt := 62) G (pc := 37) dX11_page_37 (by decide) (by omega) (by omega) (fun c37 => ?_) (fun c37 => ?_)
      · have hres : prs b N 150 0 (skp b N 0) P00 = .inr (k, Q) := by
          rw [g3]
          cases hm2 : 150 - k with
          | zero => rfl
          | succ m => exact if_neg (by omega)
        obtain ⟨a1, a2, a3, a4, a5, a6, a7, a8, a9⟩ := id gR
        obtain ⟨o1, o2, o3, o4, o5, o6⟩ := id a9
        refine q_aload_n G (pc := 62) dX11_page_62 rfl ?_
        refine q_iconst (v := nI 0) G (pc := 63) dX11_page_63 (by decide) ?_
        refine q_putI G (pc := 64) dX11_page_64 fl_X11_78_10 rfl ?_
        refine q_aload_n G (pc := 67) dX11_page_67 rfl ?_
        refine q_aload_n G (pc := 68) dX11_page_68 rfl ?_
        refine q_getI (v := nI (pL Q)) G (pc := 69) dX11_page_69 fl_X11_95_10 (by decide) rfl (by simp [va_up]; exact gR.2.2.1) ?_
        refine q_putI G (pc := 72) dX11_page_72 fl_X11_7_10 rfl ?_
        refine q_aload_n G (pc := 75) dX11_page_75 rfl ?_
        refine q_aload_n G (pc := 76) dX11_page_76 rfl ?_
        refine q_getI (v := nI (pS Q)) G (pc := 77) dX11_page_77 fl_X11_105_10 (by decide) rfl (by simp [va_up]; exact gR.2.2.2.1) ?_
        refine q_putI G (pc := 80) dX11_page_80 fl_X11_68_10 rfl ?_
        refine q_aload_n G (pc := 83) dX11_page_83 rfl ?_
        refine q_aload_n G (pc := 84) dX11_page_84 rfl ?_
        refine q_getI (v := nI ((pW Q).length)) G (pc := 85) dX11_page_85 fl_X11_112_10 (by decide) rfl (by simp [va_up]; exact gR.2.2.2.2.1) ?_
        refine q_putI G (pc := 88) dX11_page_88 fl_X11_130_10 rfl ?_
        refine q_iconst (v := nI 0) G (pc := 91) dX11_page_91 (by decide) ?_
        refine q_istore_n G (pc := 92) dX11_page_92 (by decide) ?_
        show X _ [_, _] _ _ _ _
        have L93 : ∀ (zz : Nat) (i : Nat) (hk4 : mm_HI), 36 - i < zz → i ≤ 36 → (∀ c, c ≠ 107 → hk4 c = (mm_up2 (mm_up2 (mm_up2 (mm_up2 hk 106 14 (nI 0)) 106 0 (nI (pL Q))) 106 1 (nI (pS Q))) 106 2 (nI (pW Q).length)) c) → (∀ j, j < i → hk4 107 j = hk 114 j) → X 93 [some (.ref (106)), some (.int (nI (i)))] [] hk4 τ 125 := by
          intro zz
          induction zz with
          | zero => intro i hk4 hm; exact absurd hm (Nat.not_lt_zero _)
          | succ zz ih93 =>
            intro i hk4 hm i0 v7 v2
            refine q_iload_n G (pc := 93) dX11_page_93 rfl ?_
            refine q_bipush (v := nI 36) G (pc := 94) dX11_page_94 (by decide) ?_
            refine q_icmp_geN (tgt := 117) G (pc := 96) dX11_page_96 (by decide) (by omega) (by omega) (fun c96 => ?_) (fun c96 => ?_)
            · refine q_iconst (v := nI 0) G (pc := 117) dX11_page_117 (by decide) ?_
              refine q_istore_n G (pc := 118) dX11_page_118 (by decide) ?_
              show X _ [_, _] _ _ _ _
              have L119 : ∀ (zz : Nat) (i : Nat) (hk5 : mm_HI), 48 - i < zz → i ≤ 48 → (∀ c, c ≠ 108 → hk5 c = hk4 c) → (∀ j, j < i → hk5 108 j = hk 115 j) → X 119 [some (.ref (106)), some (.int (nI (i)))] [] hk5 τ 125 := by
                intro zz
                induction zz with
                | zero => intro i hk5 hm; exact absurd hm (Nat.not_lt_zero _)
                | succ zz ih119 =>
                  intro i hk5 hm i1 w7 w8
                  refine q_iload_n G (pc := 119) dX11_page_119 rfl ?_
                  refine q_bipush (v := nI 48) G (pc := 120) dX11_page_120 (by decide) ?_
                  refine q_icmp_geN (tgt := 143) G (pc := 122) dX11_page_122 (by decide) (by omega) (by omega) (fun c122 => ?_) (fun c122 => ?_)
                  · refine q_iconst (v := nI 0) G (pc := 143) dX11_page_143 (by decide) ?_
                    refine q_istore_n G (pc := 144) dX11_page_144 (by decide) ?_
                    show X _ [_, _] _ _ _ _
                    have L145 : ∀ (zz : Nat) (i : Nat) (hk6 : mm_HI), (pW Q).length - i < zz → i ≤ (pW Q).length → (∀ c, c ≠ 109 → hk6 c = hk5 c) → (∀ j, j < i → hk6 109 j = hk 116 j) → X 145 [some (.ref (106)), some (.int (nI (i)))] [] hk6 τ 125 := by
                      intro zz
                      induction zz with
                      | zero => intro i hk6 hm; exact absurd hm (Nat.not_lt_zero _)
                      | succ zz ih145 =>
                        intro i hk6 hm i2 x7 x8
                        have x6 : ∀ c, c = 106 → hk6 c = (mm_up2 (mm_up2 (mm_up2 (mm_up2 hk 106 14 (nI 0)) 106 0 (nI (pL Q))) 106 1 (nI (pS Q))) 106 2 (nI (pW Q).length)) 106 := fun c hc => by subst hc; rw [x7 106 (by decide), w7 106 (by decide), v7 106 (by decide)]
                        have f0 : (mm_up2 (mm_up2 (mm_up2 (mm_up2 hk 106 14 (nI 0)) 106 0 (nI (pL Q))) 106 1 (nI (pS Q))) 106 2 (nI (pW Q).length)) 106 0 = nI (pL Q) := by simp [va_up]
                        have f1 : (mm_up2 (mm_up2 (mm_up2 (mm_up2 hk 106 14 (nI 0)) 106 0 (nI (pL Q))) 106 1 (nI (pS Q))) 106 2 (nI (pW Q).length)) 106 1 = nI (pS Q) := by simp [va_up]
                        have f2 : (mm_up2 (mm_up2 (mm_up2 (mm_up2 hk 106 14 (nI 0)) 106 0 (nI (pL Q))) 106 1 (nI (pS Q))) 106 2 (nI (pW Q).length)) 106 2 = nI (pW Q).length := by simp [va_up]
                        have f14 : (mm_up2 (mm_up2 (mm_up2 (mm_up2 hk 106 14 (nI 0)) 106 0 (nI (pL Q))) 106 1 (nI (pS Q))) 106 2 (nI (pW Q).length)) 106 14 = nI 0 := by simp [va_up]
                        have f19 : (mm_up2 (mm_up2 (mm_up2 (mm_up2 hk 106 14 (nI 0)) 106 0 (nI (pL Q))) 106 1 (nI (pS Q))) 106 2 (nI (pW Q).length)) 106 19 = nI k := by simp [va_up]; exact gR.2.2.2.2.2.1
                        refine q_iload_n G (pc := 145) dX11_page_145 rfl ?_
                        refine q_aload_n G (pc := 146) dX11_page_146 rfl ?_
                        refine q_getI (v := nI ((pW Q).length)) G (pc := 147) dX11_page_147 fl_X11_130_10 (by decide) rfl (by rw [x6 106 (by omega)]; exact f2) ?_
                        refine q_icmp_geN (tgt := 171) G (pc := 150) dX11_page_150 (by decide) (by omega) (by omega) (fun c150 => ?_) (fun c150 => ?_)
                        · refine q_aload_n G (pc := 171) dX11_page_171 rfl ?_
                          refine q_aload_n G (pc := 172) dX11_page_172 rfl ?_
                          refine q_getI (v := nI (pS Q)) G (pc := 173) dX11_page_173 fl_X11_68_10 (by decide) rfl (by rw [x6 106 (by omega)]; exact f1) ?_
                          refine q_putI G (pc := 176) dX11_page_176 fl_X11_75_10 rfl ?_
                          refine q_iconst (v := nI 0) G (pc := 179) dX11_page_179 (by decide) ?_
                          refine q_istore_n G (pc := 180) dX11_page_180 (by decide) ?_
                          show X _ [_, _] _ _ _ _
                          have L181 : ∀ (zz : Nat) (i : Nat) (hk7 : mm_HI), 6 - i < zz → i ≤ 6 → (∀ c, c ≠ 110 → c ≠ 106 → hk7 c = hk6 c) → hk7 106 = va_up (hk6 106) 6 (nI (pS Q)) → (∀ j, j < i → hk7 110 j = nI j) → X 181 [some (.ref (106)), some (.int (nI (i)))] [] hk7 τ 125 := by
                            intro zz
                            induction zz with
                            | zero => intro i hk7 hm; exact absurd hm (Nat.not_lt_zero _)
                            | succ zz ih181 =>
                              intro i hk7 hm i3 y7 y6 y8
                              rw [x6 106 rfl] at y6
                              refine q_iload_n G (pc := 181) dX11_page_181 rfl ?_
                              refine q_bipush (v := nI 6) G (pc := 182) dX11_page_182 (by decide) ?_
                              refine q_icmp_geN (tgt := 200) G (pc := 184) dX11_page_184 (by decide) (by omega) (by omega) (fun c184 => ?_) (fun c184 => ?_)
                              · refine q_aload_n G (pc := 200) dX11_page_200 rfl ?_
                                refine q_iconst (v := nI 0) G (pc := 201) dX11_page_201 (by decide) ?_
                                refine q_putI G (pc := 202) dX11_page_202 fl_X11_133_10 rfl ?_
                                refine q_aload_n G (pc := 205) dX11_page_205 rfl ?_
                                refine q_iconst (v := nI 0) G (pc := 206) dX11_page_206 (by decide) ?_
                                refine q_putI G (pc := 207) dX11_page_207 fl_X11_136_10 rfl ?_
                                refine q_aload_n G (pc := 210) dX11_page_210 rfl ?_
                                refine q_iconst (v := nI 0) G (pc := 211) dX11_page_211 (by decide) ?_
                                refine q_putI G (pc := 212) dX11_page_212 fl_X11_139_10 rfl ?_
                                refine q_aload_n G (pc := 215) dX11_page_215 rfl ?_
                                refine q_getR (x := 124) G (pc := 216) dX11_page_216 fl_X11_65_10 rfl (hg hτ (hf_10_36 rfl)) ?_
                                refine q_iconst (v := nI 0) G (pc := 219) dX11_page_219 (by decide) ?_
                                refine q_iconst (v := nI 0) G (pc := 220) dX11_page_220 (by decide) ?_
                                refine q_iast (j := 0) G (pc := 221) dX11_page_221 rfl rfl (by omega) ?_
                                refine q_aload_n G (pc := 222) dX11_page_222 rfl ?_
                                refine q_getR (x := 124) G (pc := 223) dX11_page_223 fl_X11_65_10 rfl (hg hτ (hf_10_36 rfl)) ?_
                                refine q_bipush (v := nI 90) G (pc := 226) dX11_page_226 (by decide) ?_
                                refine q_iconst (v := nI 0) G (pc := 228) dX11_page_228 (by decide) ?_
                                refine q_iast (j := 90) G (pc := 229) dX11_page_229 rfl rfl (by omega) ?_
                                refine q_aload_n G (pc := 230) dX11_page_230 rfl ?_
                                refine q_getI (v := nI (k)) G (pc := 231) dX11_page_231 fl_X11_115_10 (by decide) rfl (by simp [va_up, y6]; exact f19) ?_
                                refine q_iret G (pc := 234) dX11_page_234 (Or.inl rfl) ?_
                                have e : zPage (mkT P n f t K pn pf pt im sl N b tr) = (mkT Q (pS Q) (fun j => j) 0 0 (fun _ => 0) (fun _ _ => 0) (fun _ => 0) (fun _ => none) [] 0 b tr, nI k) := by
                                  unfold zPage
                                  rw [show prs (gB (mkT P n f t K pn pf pt im sl N b tr)) (gN (mkT P n f t K pn pf pt im sl N b tr)) 150 0 (skp (gB (mkT P n f t K pn pf pt im sl N b tr)) (gN (mkT P n f t K pn pf pt im sl N b tr)) 0) P00 = .inr (k, Q) from hres]
                                refine RQ.mk e ⟨sw, hτ, ⟨by simp [va_up, y6], by simp [va_up, y6], by simp [va_up, y6], fun s hs l hl i hi2 => by simp [va_up]; rw [y7 107 (by omega) (by omega), x7 107 (by omega), w7 107 (by omega)]; exact (v2 _ (by omega)).trans (a7 s hs l hl i hi2), fun w hw => ?_, a9⟩, ⟨by simp [va_up, y6], by simp [va_up], fun j hj => by simp [va_up]; exact y8 j (by omega), by omega, fun j hj => by show j < 6; omega, by decide⟩, ⟨⟨fun j hj => hj, fun i j _ _ e => e⟩, fun k hk => absurd hk (Nat.not_lt_zero _)⟩, ⟨by simp [va_up], by omega, fun k hk => absurd hk (Nat.not_lt_zero _)⟩, fun i hi2 => Or.inl ⟨rfl, ?_⟩, fun i D hD => (by cases hD), ⟨by simp [va_up], fun k hk => absurd hk (Nat.not_lt_zero _)⟩, ⟨by simp, fun q hq => absurd hq List.not_mem_nil⟩, ⟨by simp [va_up, y6], by omega, fun j hj => absurd hj (Nat.not_lt_zero _), hT.2.2.2⟩, hTr⟩ ?_ rfl rfl
                                · have hwl : ((pW Q).getD w []).length ≤ 6 := (o6 _ (by rw [List.getD_eq_getElem?_getD, List.getElem?_eq_getElem hw]; exact List.getElem_mem _)).2.1
                                  obtain ⟨w1, w2⟩ := a8 w hw
                                  refine ⟨?_, fun i hi2 => ?_⟩
                                  · simp [va_up]; rw [y7 109 (by omega) (by omega)]; exact (x8 w (by omega)).trans w1
                                  · simp [va_up]; rw [y7 108 (by omega) (by omega), x7 108 (by omega)]; exact (w8 (6 * w + i) (by omega)).trans (w2 i hi2)
                                · have : i = 0 ∨ i = 1 := by omega
                                  rcases this with rfl | rfl <;> simp [va_up]
                                · intro c hc
                                  simp [va_up, show c ≠ 106 by omega, show c ≠ 124 by omega]
                                  rw [y7 c (by omega) (by omega), x7 c (by omega), w7 c (by omega), v7 c (by omega)]
                                  simp [va_up, show c ≠ 106 by omega]
                                  exact g6.1 c (by omega)
                              · refine q_aload_n G (pc := 187) dX11_page_187 rfl ?_
                                refine q_getR (x := 110) G (pc := 188) dX11_page_188 fl_X11_23_10 rfl (hg hτ (hf_10_8 rfl)) ?_
                                refine q_iload_n G (pc := 191) dX11_page_191 rfl ?_
                                refine q_iload_n G (pc := 192) dX11_page_192 rfl ?_
                                refine q_iast (j := i) G (pc := 193) dX11_page_193 rfl rfl (by omega) ?_
                                refine q_iincN G (pc := 194) dX11_page_194 rfl (inc1 _) (by decide) ?_
                                show X _ [_, _] _ _ _ _
                                refine q_goto (tgt := 181) G (pc := 197) dX11_page_197 (by decide) ?_
                                refine ih181 (i + 1) _ (by omega) (by omega) (fun c h1 h2 => by simp [va_up, h1]; exact y7 c h1 h2) (by simp [va_up, x6]; rw [y6]; simp [va_up]) (fun j hj => ?_)
                                by_cases e : j = i
                                · subst e; simp [va_up]
                                · simp [va_up, e]; exact y8 j (by omega)
                          have hil : i = (pW Q).length := by omega
                          subst hil
                          exact L181 _ 0 _ (Nat.lt_succ_self _) (by omega) (fun c h1 h2 => by simp [va_up, h2]) (by simp [va_up]) (fun j hj => absurd hj (Nat.not_lt_zero _))
                        · refine q_aload_n G (pc := 153) dX11_page_153 rfl ?_
                          refine q_getR (x := 109) G (pc := 154) dX11_page_154 fl_X11_20_10 rfl (hg hτ (hf_10_5 rfl)) ?_
                          refine q_iload_n G (pc := 157) dX11_page_157 rfl ?_
                          refine q_aload_n G (pc := 158) dX11_page_158 rfl ?_
                          refine q_getR (x := 116) G (pc := 159) dX11_page_159 fl_X11_41_10 rfl (hg hτ (hf_10_22 rfl)) ?_
                          refine q_iload_n G (pc := 162) dX11_page_162 rfl ?_
                          refine q_iald (j := i) (v := hk6 116 i) G (pc := 163) dX11_page_163 rfl rfl (by omega) rfl ?_
                          refine q_iast (j := i) G (pc := 164) dX11_page_164 rfl rfl (by omega) ?_
                          refine q_iincN G (pc := 165) dX11_page_165 rfl (inc1 _) (by decide) ?_
                          show X _ [_, _] _ _ _ _
                          refine q_goto (tgt := 145) G (pc := 168) dX11_page_168 (by decide) ?_
                          refine ih145 (i + 1) _ (by omega) (by omega) (fun c hc => by simp [va_up, hc]; exact x7 c hc) (fun j hj => ?_)
                          by_cases e : j = i
                          · subst e; simp [va_up]; rw [x7 116 (by decide), w7 116 (by decide), v7 116 (by decide)]; simp [va_up]
                          · simp [va_up, e]; exact x8 j (by omega)
                    have hi48 : i = 48 := by omega
                    subst hi48
                    exact L145 _ 0 hk5 (Nat.lt_succ_self _) (by omega) (fun _ _ => rfl) (fun j hj => absurd hj (Nat.not_lt_zero _))
                  · refine q_aload_n G (pc := 125) dX11_page_125 rfl ?_
                    refine q_getR (x := 108) G (pc := 126) dX11_page_126 fl_X11_17_10 rfl (hg hτ (hf_10_4 rfl)) ?_
                    refine q_iload_n G (pc := 129) dX11_page_129 rfl ?_
                    refine q_aload_n G (pc := 130) dX11_page_130 rfl ?_
                    refine q_getR (x := 115) G (pc := 131) dX11_page_131 fl_X11_38_10 rfl (hg hτ (hf_10_21 rfl)) ?_
                    refine q_iload_n G (pc := 134) dX11_page_134 rfl ?_
                    refine q_iald (j := i) (v := hk5 115 i) G (pc := 135) dX11_page_135 rfl rfl (by omega) rfl ?_
                    refine q_iast (j := i) G (pc := 136) dX11_page_136 rfl rfl (by omega) ?_
                    refine q_iincN G (pc := 137) dX11_page_137 rfl (inc1 _) (by decide) ?_
                    show X _ [_, _] _ _ _ _
                    refine q_goto (tgt := 119) G (pc := 140) dX11_page_140 (by decide) ?_
                    refine ih119 (i + 1) _ (by omega) (by omega) (fun c hc => by simp [va_up, hc]; exact w7 c hc) (fun j hj => ?_)
                    by_cases e : j = i
                    · subst e; simp [va_up]; rw [w7 115 (by decide), v7 115 (by decide)]; simp [va_up]
                    · simp [va_up, e]; exact w8 j (by omega)
              have hi36 : i = 36 := by omega
              subst hi36
              exact L119 _ 0 hk4 (Nat.lt_succ_self _) (by omega) (fun _ _ => rfl) (fun j hj => absurd hj (Nat.not_lt_zero _))
            · refine q_aload_n G (pc := 99) dX11_page_99 rfl ?_
              refine q_getR (x := 107) G (pc := 100) dX11_page_100 fl_X11_13_10 rfl (hg hτ (hf_10_3 rfl)) ?_
              refine q_iload_n G (pc := 103) dX11_page_103 rfl ?_
              refine q_aload_n G (pc := 104) dX11_page_104 rfl ?_
              refine q_getR (x := 114) G (pc := 105) dX11_page_105 fl_X11_35_10 rfl (hg hτ (hf_10_20 rfl)) ?_
              refine q_iload_n G (pc := 108) dX11_page_108 rfl ?_
              refine q_iald (j := i) (v := hk4 114 i) G (pc := 109) dX11_page_109 rfl rfl (by omega) rfl ?_
              refine q_iast (j := i) G (pc := 110) dX11_page_110 rfl rfl (by omega) ?_
              refine q_iincN G (pc := 111) dX11_page_111 rfl (inc1 _) (by decide) ?_
              show X _ [_, _] _ _ _ _
              refine q_goto (tgt := 93) G (pc := 114) dX11_page_114 (by decide) ?_
              refine ih93 (i + 1) _ (by omega) (by omega) (fun c hc => by simp [va_up, hc]; exact v7 c hc) (fun j hj => ?_)
              by_cases e : j = i
              · subst e; simp [va_up]; rw [v7 114 (by decide)]; simp [va_up]
              · simp [va_up, e]; exact v2 j (by omega)
        exact L93 _ 0 _ (Nat.lt_succ_self _) (by omega) (fun _ _ => rfl) (fun j hj => absurd hj (Nat.not_lt_zero _))
      · refine q_aload_n G (pc := 40) dX11_page_40 rfl ?_
        refine q_cV0I G (pc := 41) dX11_page_41 cv_X11_127 rfl (m_readsItem (by omega) hτ (hT.sc g6) gR (by omega) (by omega) g0) (Nat.le_of_ble_eq_true rfl) ?_
        intro xi hk2 hy
        obtain ⟨y1, hy⟩ := hy
        rcases hy with ⟨fz, m1, rfl, m2, m3⟩ | ⟨r, P2, m1, rfl, m2⟩
        · refine q_if_neN (tgt := 55) G (pc := 44) dX11_page_44 (by decide) (by omega) (fun c44 => absurd c44 (by decide)) (fun _ => ?_)
          refine q_bipush (v := -10) G (pc := 47) dX11_page_47 (by decide) ?_
          refine q_aload_n G (pc := 49) dX11_page_49 rfl ?_
          refine q_getI (v := nI (fz)) G (pc := 50) dX11_page_50 fl_X11_81_10 (by decide) rfl m2 ?_
          refine q_isub G (pc := 53) dX11_page_53 ?_
          refine q_iret G (pc := 54) dX11_page_54 (Or.inl rfl) ?_
          have hres : prs b N 150 0 (skp b N 0) P00 = .inl fz := by
            rw [g3, show 150 - k = (150 - (k + 1)) + 1 by omega]
            show (if q < N then _ else _) = _
            rw [if_pos (by omega), itm_sk, m1]
            rfl
          refine hM.post (g6.trans y1) ?_
          unfold zPage
          rw [show prs (gB (mkT P n f t K pn pf pt im sl N b tr)) (gN (mkT P n f t K pn pf pt im sl N b tr)) 150 0 (skp (gB (mkT P n f t K pn pf pt im sl N b tr)) (gN (mkT P n f t K pn pf pt im sl N b tr)) 0) P00 = .inl fz from hres]
        · refine q_if_neN (tgt := 55) G (pc := 44) dX11_page_44 (by decide) (by omega) (fun _ => ?_) (fun c44 => absurd c44 (by decide))
          refine q_aload_n G (pc := 55) dX11_page_55 rfl ?_
          refine q_cV0V G (pc := 56) dX11_page_56 cv_X11_92 rfl (m_skip (by omega) hτ (hT.sc (g6.trans y1)) m2.1 m2.2.1) (Nat.le_of_ble_eq_true rfl) ?_
          intro hk3 hz
          obtain ⟨z1, z2⟩ := hz
          refine q_goto (tgt := 29) G (pc := 59) dX11_page_59 (by decide) ?_
          have hadv := itM_adv (by omega) hLq m1
          have hsk := skp_le (b := b) hadv.2
          refine ih29 (k + 1) (skp b N r) P2 hk3 (by omega) (m2.a z2 z1 hsk.2) (fun z => absurd z (Nat.succ_ne_zero _)) ?_ (by omega) ((g6.trans y1).trans z2.sc)
          rw [g3, show 150 - k = (150 - (k + 1)) + 1 by omega]
          show (if q < N then _ else _) = _
          rw [if_pos (by omega), itm_sk, m1]
          rfl
  have hsk := skp_le (b := b) (N := N) (p := 0) (by omega)
  refine L29 _ 0 (skp b N 0) P00 hk0 (Nat.lt_succ_self _) ?_ (fun _ => rfl) rfl (by omega) (hs5.trans x2.sc)
  refine ⟨x1, hsk.2, by rw [x2.2 16 (by omega)]; simp [va_up], by rw [x2.2 17 (by omega)]; simp [va_up], by rw [x2.2 18 (by omega)]; simp [va_up]; rfl, by rw [x2.2 19 (by omega)]; simp [va_up], fun s hs => absurd hs (Nat.not_lt_zero _), fun w hw => absurd hw (Nat.not_lt_zero _), ⟨by decide, by decide, by decide, fun _ _ _ => Nat.le_refl _, by decide, fun u hu => absurd hu List.not_mem_nil⟩⟩
