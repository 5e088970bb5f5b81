/-! one item, and all of them -/
theorem lkI : ∀ c, c < 256 → c ≠ 110 → c ≠ 115 → c ≠ 119 → Op.lookupswitch.offset (#[(110, 36), (115, 61), (119, 91)] : Array (Int × Int)).toList 121 (nI c).toInt = 121 := by decide +kernel
abbrev P00 : PG := (2, 0, fun _ _ _ => 26, [])
abbrev shCs (sh : Nat) : List Nat := [1, sh, sh + 1, sh + 2, sh + 3, sh + 4, sh + 5]
theorem stp_bad {b : Nat → Nat} {N q : Nat} {P : PG} (h : tkn b N (skp b N (tke b N q)) ≠ 3) : stpS b N q P = .inl (skp b N (tke b N q)) := if_neg h
theorem stp_ok {b : Nat → Nat} {N q : Nat} {P : PG} (h : tkn b N (skp b N (tke b N q)) = 3) : stpS b N q P = .inr (skp b N (skp b N (tke b N q) + 1), P) := if_pos h
set_option maxHeartbeats 2000000 in
theorem s_X8_readItem {d : Nat} (hd : 5 ≤ d) {hi : mm_HI} {τ : mm_T} {sw : Bool} (hτ : τ.1 = mm_hr sw) {b : Nat → Nat} {N q sh nd fi : Nat} {P : PG} {nx : Nat → Nat → Nat} (hR : rdr hi b N q) (hsh : mm_lay sh = (0, 7)) (hS : shF hi sh P nx nd) (hfi : fi < 2) (hf0 : fi = 1 → pS P = 0) : wI d yX8_readItem [.ref 1, .ref sh, .int (nI fi)] hi τ (fun x h => (x = nI 0 ∧ ∃ f, itm b N q (decide (fi = 1)) P = .inl f ∧ rdr h b N f ∧ fr (shCs sh) hi h) ∨ (x = nI 1 ∧ ∃ (q2 : Nat) (P2 : PG), itm b N q (decide (fi = 1)) P = .inr (q2, P2) ∧ rdr h b N q2 ∧ (∃ (nx2 : Nat → Nat → Nat) (nd2 : Nat), shF h sh P2 nx2 nd2) ∧ fr (shCs sh) hi h)) := by
  refine w_intro (by omega) M_X8_readItem (Nat.le_of_ble_eq_true rfl) rfl ?_
  intro e X he G
  show X 0 [some (.ref (1)), some (.ref (sh)), some (.int (nI (fi)))] [] hi τ 125
  have htl := tke_le (b := b) hR.2.2.2.2
  have hN150 := hR.1.2.1
  have hs7 := ly7 hsh
  have htb : tkn b N q ≤ 4 := by
    unfold tkn
    split
    · exact (tok_bd _).2
    · omega
  have hS6b := hS.2.2.2.1.2.2.1
  have hW8b := hS.2.2.2.1.2.2.2.2.1
  refine q_aload_n G (pc := 0) dX8_readItem_0 rfl ?_
  refine q_getI (v := nI (tkn b N q)) G (pc := 1) dX8_readItem_1 fl_X8_30_8 (by decide) rfl hR.2.2.2.1 ?_
  refine q_iconst (v := nI 1) G (pc := 4) dX8_readItem_4 (by decide) ?_
  refine q_icmp_neN (tgt := 21) G (pc := 5) dX8_readItem_5 (by decide) (by omega) (by omega) (fun c5 => ?_) (fun c5 => ?_)
  · refine q_iconst (v := nI 0) G (pc := 21) dX8_readItem_21 (by decide) ?_
    refine q_iret G (pc := 22) dX8_readItem_22 (Or.inr ⟨rfl, by decide⟩) ?_
    exact ⟨rfl, _, rfl, Or.inl ⟨rfl, q, if_neg (fun z => c5 z.1), hR, fr.rf⟩⟩
  · have hlt := (tke_tok c5).1
    refine q_aload_n G (pc := 8) dX8_readItem_8 rfl ?_
    refine q_getI (v := nI (tke b N q)) G (pc := 9) dX8_readItem_9 fl_X8_24_8 (by decide) rfl hR.2.2.1 ?_
    refine q_aload_n G (pc := 12) dX8_readItem_12 rfl ?_
    refine q_getI (v := nI (q)) G (pc := 13) dX8_readItem_13 fl_X8_37_8 (by decide) rfl hR.2.1 ?_
    refine q_isubN G (pc := 16) dX8_readItem_16 (by omega) ?_
    refine q_iconst (v := nI 1) G (pc := 17) dX8_readItem_17 (by decide) ?_
    refine q_icmp_eqN (tgt := 23) G (pc := 18) dX8_readItem_18 (by decide) (by omega) (by omega) (fun c18 => ?_) (fun c18 => ?_)
    · have hh : tkn b N q = 1 ∧ tke b N q = q + 1 := ⟨c5, by omega⟩
      have hbq := hR.1.2.2.2 q
      refine q_aload_n G (pc := 23) dX8_readItem_23 rfl ?_
      refine q_getR (x := 2) G (pc := 24) dX8_readItem_24 fl_X8_9_8 rfl (hg hτ (hf_8_1 rfl)) ?_
      refine q_aload_n G (pc := 27) dX8_readItem_27 rfl ?_
      refine q_getI (v := nI (q)) G (pc := 28) dX8_readItem_28 fl_X8_37_8 (by decide) rfl hR.2.1 ?_
      refine q_iald (j := q) (v := nI (b q)) G (pc := 31) dX8_readItem_31 rfl rfl (by omega) (hR.1.2.2.1 _ hlt) ?_
      by_cases k32 : b q = 110
      · refine q_lookup (off := 36) (tgt := 68) G (pc := 32) dX8_readItem_32 (by decide) (by rw [k32]; decide) (by decide) ?_
        refine q_iload_n G (pc := 68) dX8_readItem_68 rfl ?_
        refine q_if_eqN (tgt := 91) G (pc := 69) dX8_readItem_69 (by decide) (by omega) (fun c69 => ?_) (fun c69 => ?_)
        · refine q_iconst (v := nI 0) G (pc := 91) dX8_readItem_91 (by decide) ?_
          refine q_iret G (pc := 92) dX8_readItem_92 (Or.inr ⟨rfl, by decide⟩) ?_
          exact ⟨rfl, _, rfl, Or.inl ⟨rfl, q, by unfold itm; rw [if_pos hh, if_pos k32, if_neg (by simp; omega)], hR, fr.rf⟩⟩
        · refine q_aload_n G (pc := 72) dX8_readItem_72 rfl ?_
          refine q_aload_n G (pc := 73) dX8_readItem_73 rfl ?_
          refine q_cV1I G (pc := 74) dX8_readItem_74 cv_X8_40 rfl (s_X8_readLines (by omega) hτ hR hsh hS (hf0 (by omega))) (Nat.le_of_ble_eq_true rfl) ?_
          intro xl hk hx
          rcases hx with ⟨rfl, n1, n2, n3⟩ | ⟨rfl, o1, o2, o3, o4⟩
          · refine q_if_eqN (tgt := 91) G (pc := 77) dX8_readItem_77 (by decide) (by omega) (fun _ => ?_) (fun c77 => absurd c77 (by decide))
            refine q_iconst (v := nI 0) G (pc := 91) dX8_readItem_91 (by decide) ?_
            refine q_iret G (pc := 92) dX8_readItem_92 (Or.inr ⟨rfl, by decide⟩) ?_
            exact ⟨rfl, _, rfl, Or.inl ⟨rfl, (skp b N (tke b N q)), by unfold itm; rw [if_pos hh, if_pos k32, if_pos (by simp; omega), if_neg n1], n2, fun c hc => n3 c (by simp at hc ⊢; omega)⟩⟩
          · refine q_if_eqN (tgt := 91) G (pc := 77) dX8_readItem_77 (by decide) (by omega) (fun c77 => absurd c77 (by decide)) (fun _ => ?_)
            refine q_aload_n G (pc := 80) dX8_readItem_80 rfl ?_
            refine q_cV0I G (pc := 81) dX8_readItem_81 cv_X8_44 rfl (s_X8_readStop (by omega) hτ o2) (Nat.le_of_ble_eq_true rfl) ?_
            intro xs hk2 hy
            rcases hy with ⟨rfl, p1, p2, p3⟩ | ⟨rfl, p1, p2, p3⟩
            · refine q_if_eqN (tgt := 91) G (pc := 84) dX8_readItem_84 (by decide) (by omega) (fun _ => ?_) (fun c84 => absurd c84 (by decide))
              refine q_iconst (v := nI 0) G (pc := 91) dX8_readItem_91 (by decide) ?_
              refine q_iret G (pc := 92) dX8_readItem_92 (Or.inr ⟨rfl, by decide⟩) ?_
              exact ⟨rfl, _, rfl, Or.inl ⟨rfl, _, by unfold itm; rw [if_pos hh, if_pos k32, if_pos (by simp; omega), if_pos o1, stp_bad p1], p2, fun c hc => (p3 c (by simp at hc ⊢; omega)).trans (o4 c (by simp at hc ⊢; omega))⟩⟩
            · refine q_if_eqN (tgt := 91) G (pc := 84) dX8_readItem_84 (by decide) (by omega) (fun c84 => absurd c84 (by decide)) (fun _ => ?_)
              refine q_iconst (v := nI 1) G (pc := 87) dX8_readItem_87 (by decide) ?_
              refine q_goto (tgt := 92) G (pc := 88) dX8_readItem_88 (by decide) ?_
              refine q_iret G (pc := 92) dX8_readItem_92 (Or.inr ⟨rfl, by decide⟩) ?_
              exact ⟨rfl, _, rfl, Or.inr ⟨rfl, _, _, by unfold itm; rw [if_pos hh, if_pos k32, if_pos (by simp; omega), if_pos o1, stp_ok p1], p2, ⟨nx, nd, o3.keep (fun c h1 h2 => p3 c (by simp; omega))⟩, fun c hc => (p3 c (by simp at hc ⊢; omega)).trans (o4 c (by simp at hc ⊢; omega))⟩⟩
      · have n32_110 := k32
        by_cases k32 : b q = 115
        · refine q_lookup (off := 61) (tgt := 93) G (pc := 32) dX8_readItem_32 (by decide) (by rw [k32]; decide) (by decide) ?_
          refine q_aload_n G (pc := 93) dX8_readItem_93 rfl ?_
          refine q_getI (v := nI (pS P)) G (pc := 94) dX8_readItem_94 fl_X8_48_7 (by decide) hsh hS.2.1 ?_
          refine q_bipush (v := nI 6) G (pc := 97) dX8_readItem_97 (by decide) ?_
          refine q_icmp_geN (tgt := 121) G (pc := 99) dX8_readItem_99 (by decide) (by omega) (by omega) (fun c99 => ?_) (fun c99 => ?_)
          · refine q_iconst (v := nI 0) G (pc := 121) dX8_readItem_121 (by decide) ?_
            refine q_iret G (pc := 122) dX8_readItem_122 (Or.inr ⟨rfl, by decide⟩) ?_
            exact ⟨rfl, _, rfl, Or.inl ⟨rfl, q, by unfold itm; rw [if_pos hh, if_neg n32_110, if_pos k32, if_neg (by omega)], hR, fr.rf⟩⟩
          · refine q_aload_n G (pc := 102) dX8_readItem_102 rfl ?_
            refine q_aload_n G (pc := 103) dX8_readItem_103 rfl ?_
            refine q_cV1I G (pc := 104) dX8_readItem_104 cv_X8_51 rfl (s_X8_readStrip (by omega) hτ hR hsh hS (by omega)) (Nat.le_of_ble_eq_true rfl) ?_
            intro xl hk hx
            rcases hx with ⟨rfl, lz, m1, m2, m3, n2, n3⟩ | ⟨rfl, o1, o2, o3, o4⟩
            · refine q_if_eqN (tgt := 121) G (pc := 107) dX8_readItem_107 (by decide) (by omega) (fun _ => ?_) (fun c107 => absurd c107 (by decide))
              refine q_iconst (v := nI 0) G (pc := 121) dX8_readItem_121 (by decide) ?_
              refine q_iret G (pc := 122) dX8_readItem_122 (Or.inr ⟨rfl, by decide⟩) ?_
              exact ⟨rfl, _, rfl, Or.inl ⟨rfl, _, by unfold itm; rw [if_pos hh, if_neg n32_110, if_pos k32, if_pos (by omega), badS_some m1 m2 m3], n2, fun c hc => n3 c (by simp at hc ⊢; omega)⟩⟩
            · refine q_if_eqN (tgt := 121) G (pc := 107) dX8_readItem_107 (by decide) (by omega) (fun c107 => absurd c107 (by decide)) (fun _ => ?_)
              refine q_aload_n G (pc := 110) dX8_readItem_110 rfl ?_
              refine q_cV0I G (pc := 111) dX8_readItem_111 cv_X8_44 rfl (s_X8_readStop (by omega) hτ o2) (Nat.le_of_ble_eq_true rfl) ?_
              intro xs hk2 hy
              rcases hy with ⟨rfl, p1, p2, p3⟩ | ⟨rfl, p1, p2, p3⟩
              · refine q_if_eqN (tgt := 121) G (pc := 114) dX8_readItem_114 (by decide) (by omega) (fun _ => ?_) (fun c114 => absurd c114 (by decide))
                refine q_iconst (v := nI 0) G (pc := 121) dX8_readItem_121 (by decide) ?_
                refine q_iret G (pc := 122) dX8_readItem_122 (Or.inr ⟨rfl, by decide⟩) ?_
                exact ⟨rfl, _, rfl, Or.inl ⟨rfl, _, by unfold itm; rw [if_pos hh, if_neg n32_110, if_pos k32, if_pos (by omega), badS_none o1]; exact stp_bad p1, p2, fun c hc => (p3 c (by simp at hc ⊢; omega)).trans (o4 c (by simp at hc ⊢; omega))⟩⟩
              · refine q_if_eqN (tgt := 121) G (pc := 114) dX8_readItem_114 (by decide) (by omega) (fun c114 => absurd c114 (by decide)) (fun _ => ?_)
                refine q_iconst (v := nI 1) G (pc := 117) dX8_readItem_117 (by decide) ?_
                refine q_goto (tgt := 122) G (pc := 118) dX8_readItem_118 (by decide) ?_
                refine q_iret G (pc := 122) dX8_readItem_122 (Or.inr ⟨rfl, by decide⟩) ?_
                exact ⟨rfl, _, rfl, Or.inr ⟨rfl, _, _, by unfold itm; rw [if_pos hh, if_neg n32_110, if_pos k32, if_pos (by omega), badS_none o1]; exact stp_ok p1, p2, ⟨nx, nd, o3.keep (fun c h1 h2 => p3 c (by simp; omega))⟩, fun c hc => (p3 c (by simp at hc ⊢; omega)).trans (o4 c (by simp at hc ⊢; omega))⟩⟩
        · have n32_115 := k32
          by_cases k32 : b q = 119
          · refine q_lookup (off := 91) (tgt := 123) G (pc := 32) dX8_readItem_32 (by decide) (by rw [k32]; decide) (by decide) ?_
            refine q_aload_n G (pc := 123) dX8_readItem_123 rfl ?_
            refine q_getI (v := nI ((pW P).length)) G (pc := 124) dX8_readItem_124 fl_X8_54_7 (by decide) hsh hS.2.2.1 ?_
            refine q_bipush (v := nI 8) G (pc := 127) dX8_readItem_127 (by decide) ?_
            refine q_icmp_geN (tgt := 151) G (pc := 129) dX8_readItem_129 (by decide) (by omega) (by omega) (fun c129 => ?_) (fun c129 => ?_)
            · refine q_iconst (v := nI 0) G (pc := 151) dX8_readItem_151 (by decide) ?_
              refine q_iret G (pc := 152) dX8_readItem_152 (Or.inr ⟨rfl, by decide⟩) ?_
              exact ⟨rfl, _, rfl, Or.inl ⟨rfl, q, by unfold itm; rw [if_pos hh, if_neg n32_110, if_neg n32_115, if_pos k32, if_neg (by omega)], hR, fr.rf⟩⟩
            · refine q_aload_n G (pc := 132) dX8_readItem_132 rfl ?_
              refine q_aload_n G (pc := 133) dX8_readItem_133 rfl ?_
              refine q_cV1I G (pc := 134) dX8_readItem_134 cv_X8_57 rfl (s_X8_readWord (by omega) hτ hR hsh hS (by omega)) (Nat.le_of_ble_eq_true rfl) ?_
              intro xl hk hx
              rcases hx with ⟨rfl, n1, n2, n3⟩ | ⟨rfl, o1, o2, ⟨nx2, nd2, o3⟩, o4⟩
              · refine q_if_eqN (tgt := 151) G (pc := 137) dX8_readItem_137 (by decide) (by omega) (fun _ => ?_) (fun c137 => absurd c137 (by decide))
                refine q_iconst (v := nI 0) G (pc := 151) dX8_readItem_151 (by decide) ?_
                refine q_iret G (pc := 152) dX8_readItem_152 (Or.inr ⟨rfl, by decide⟩) ?_
                exact ⟨rfl, _, rfl, Or.inl ⟨rfl, _, by unfold itm; rw [if_pos hh, if_neg n32_110, if_neg n32_115, if_pos k32, if_pos (by omega), if_neg n1], n2, fun c hc => n3 c (by simp at hc ⊢; omega)⟩⟩
              · refine q_if_eqN (tgt := 151) G (pc := 137) dX8_readItem_137 (by decide) (by omega) (fun c137 => absurd c137 (by decide)) (fun _ => ?_)
                refine q_aload_n G (pc := 140) dX8_readItem_140 rfl ?_
                refine q_cV0I G (pc := 141) dX8_readItem_141 cv_X8_44 rfl (s_X8_readStop (by omega) hτ o2) (Nat.le_of_ble_eq_true rfl) ?_
                intro xs hk2 hy
                rcases hy with ⟨rfl, p1, p2, p3⟩ | ⟨rfl, p1, p2, p3⟩
                · refine q_if_eqN (tgt := 151) G (pc := 144) dX8_readItem_144 (by decide) (by omega) (fun _ => ?_) (fun c144 => absurd c144 (by decide))
                  refine q_iconst (v := nI 0) G (pc := 151) dX8_readItem_151 (by decide) ?_
                  refine q_iret G (pc := 152) dX8_readItem_152 (Or.inr ⟨rfl, by decide⟩) ?_
                  exact ⟨rfl, _, rfl, Or.inl ⟨rfl, _, by unfold itm; rw [if_pos hh, if_neg n32_110, if_neg n32_115, if_pos k32, if_pos (by omega), if_pos o1, stp_bad p1], p2, fun c hc => (p3 c (by simp at hc ⊢; omega)).trans (o4 c hc)⟩⟩
                · refine q_if_eqN (tgt := 151) G (pc := 144) dX8_readItem_144 (by decide) (by omega) (fun c144 => absurd c144 (by decide)) (fun _ => ?_)
                  refine q_iconst (v := nI 1) G (pc := 147) dX8_readItem_147 (by decide) ?_
                  refine q_goto (tgt := 152) G (pc := 148) dX8_readItem_148 (by decide) ?_
                  refine q_iret G (pc := 152) dX8_readItem_152 (Or.inr ⟨rfl, by decide⟩) ?_
                  exact ⟨rfl, _, rfl, Or.inr ⟨rfl, _, _, by unfold itm; rw [if_pos hh, if_neg n32_110, if_neg n32_115, if_pos k32, if_pos (by omega), if_pos o1, stp_ok p1], p2, ⟨nx2, nd2, o3.keep (fun c h1 h2 => p3 c (by simp; omega))⟩, fun c hc => (p3 c (by simp at hc ⊢; omega)).trans (o4 c hc)⟩⟩
          · have n32_119 := k32
            refine q_lookup (off := 121) (tgt := 153) G (pc := 32) dX8_readItem_32 (by decide) (lkI _ (by omega) n32_110 n32_115 n32_119) (by decide) ?_
            refine q_iconst (v := nI 0) G (pc := 153) dX8_readItem_153 (by decide) ?_
            refine q_iret G (pc := 154) dX8_readItem_154 (Or.inr ⟨rfl, by decide⟩) ?_
            exact ⟨rfl, _, rfl, Or.inl ⟨rfl, q, by unfold itm; rw [if_pos hh, if_neg n32_110, if_neg n32_115, if_neg n32_119], hR, fr.rf⟩⟩
    · refine q_iconst (v := nI 0) G (pc := 21) dX8_readItem_21 (by decide) ?_
      refine q_iret G (pc := 22) dX8_readItem_22 (Or.inr ⟨rfl, by decide⟩) ?_
      exact ⟨rfl, _, rfl, Or.inl ⟨rfl, q, if_neg (fun z => c18 (by omega)), hR, fr.rf⟩⟩
set_option maxHeartbeats 2000000 in
theorem s_X8_readInto {d : Nat} (hd : 6 ≤ d) {hi : mm_HI} {τ : mm_T} {sw : Bool} (hτ : τ.1 = mm_hr sw) {b : Nat → Nat} {N sh : Nat} (hT : txF hi b N) (hsh : mm_lay sh = (0, 7)) : wI d yX8_readInto [.ref 1, .ref sh] hi τ (fun x h => (∃ f, prs b N 150 0 (skp b N 0) P00 = .inl f ∧ x = -10 - nI f ∧ f ≤ N ∧ txF h b N ∧ fr (shCs sh) hi h) ∨ (∃ (k : Nat) (P2 : PG), prs b N 150 0 (skp b N 0) P00 = .inr (k, P2) ∧ x = nI k ∧ k ≤ 150 ∧ (∃ (nx2 : Nat → Nat → Nat) (nd2 : Nat), shF h sh P2 nx2 nd2) ∧ txF h b N ∧ fr (shCs sh) hi h)) := by
  refine w_intro (by omega) M_X8_readInto (Nat.le_of_ble_eq_true rfl) rfl ?_
  intro e X he G
  show X 0 [some (.ref (1)), some (.ref (sh)), none] [] hi τ 125
  have hN150 := hT.2.1
  have hs7 := ly7 hsh
  refine q_aload_n G (pc := 0) dX8_readInto_0 rfl ?_
  refine q_cV0V G (pc := 1) dX8_readInto_1 cv_X8_19 hsh (s_X7_empty (by omega) hτ hsh) (Nat.le_of_ble_eq_true rfl) ?_
  intro hk0 hx
  obtain ⟨x1, x2⟩ := hx
  refine q_aload_n G (pc := 4) dX8_readInto_4 rfl ?_
  refine q_iconst (v := nI 0) G (pc := 5) dX8_readInto_5 (by decide) ?_
  refine q_putI G (pc := 6) dX8_readInto_6 fl_X8_24_8 rfl ?_
  refine q_aload_n G (pc := 9) dX8_readInto_9 rfl ?_
  refine q_cV0V G (pc := 10) dX8_readInto_10 cv_X8_27 rfl (s_X8_advance (p := 0) (by omega) hτ (hT.keep (by simp [va_up]; rw [x2 1 (by simp; omega)]) (by simp [va_up]; rw [x2 2 (by simp; omega)])) (by simp [va_up]) (by omega)) (Nat.le_of_ble_eq_true rfl) ?_
  intro hk1 hy
  obtain ⟨y1, y2⟩ := hy
  refine q_iconst (v := nI 0) G (pc := 13) dX8_readInto_13 (by decide) ?_
  refine q_istore_n G (pc := 14) dX8_readInto_14 (by decide) ?_
  show X _ [_, _, _] _ _ _ _
  have L15 : ∀ (zz : Nat) (k q : Nat) (P : PG) (nx : Nat → Nat → Nat) (nd : Nat) (hk : mm_HI), 150 - k < zz → k ≤ 150 → rdr hk b N q → shF hk sh P nx nd → (k = 0 → pS P = 0) → prs b N 150 0 (skp b N 0) P00 = prs b N (150 - k) k q P → fr (shCs sh) hi hk → X 15 [some (.ref (1)), some (.ref (sh)), some (.int (nI (k)))] [] hk τ 125 := by
    intro zz
    induction zz with
    | zero => intro k q P nx nd hk hm; exact absurd hm (Nat.not_lt_zero _)
    | succ zz ih15 =>
      intro k q P nx nd hk hm h0 gR gS g1 g3 g4
      refine q_aload_n G (pc := 15) dX8_readInto_15 rfl ?_
      refine q_getI (v := nI (tkn b N q)) G (pc := 16) dX8_readInto_16 fl_X8_30_8 (by decide) rfl gR.2.2.2.1 ?_
      have htb : tkn b N q ≤ 4 := by
        unfold tkn
        split
        · exact (tok_bd _).2
        · omega
      refine q_if_eqN (tgt := 60) G (pc := 19) dX8_readInto_19 (by decide) (by omega) (fun c19 => ?_) (fun c19 => ?_)
      · have hqN : ¬ q < N := fun z => by
          unfold tkn at c19; rw [if_pos z] at c19
          have := (tok_bd (b q)).1; omega
        refine q_iload_n G (pc := 60) dX8_readInto_60 rfl ?_
        refine q_iret G (pc := 61) dX8_readInto_61 (Or.inl rfl) ?_
        refine ⟨rfl, _, rfl, Or.inr ⟨k, P, ?_, rfl, by omega, ⟨nx, nd, gS⟩, gR.1, g4⟩⟩
        rw [g3]
        cases hm : 150 - k with
        | zero => rfl
        | succ m => exact if_neg hqN
      · have hqN : q < N := by
          rcases Nat.lt_or_ge q N with z | z
          · exact z
          · exact absurd (if_neg (by omega)) c19
        refine q_iload_n G (pc := 22) dX8_readInto_22 rfl ?_
        refine q_sipush (v := nI 150) G (pc := 23) dX8_readInto_23 (by decide) ?_
        refine q_icmp_geN (tgt := 60) G (pc := 26) dX8_readInto_26 (by decide) (by omega) (by omega) (fun c26 => ?_) (fun c26 => ?_)
        · refine q_iload_n G (pc := 60) dX8_readInto_60 rfl ?_
          refine q_iret G (pc := 61) dX8_readInto_61 (Or.inl rfl) ?_
          refine ⟨rfl, _, rfl, Or.inr ⟨k, P, ?_, rfl, by omega, ⟨nx, nd, gS⟩, gR.1, g4⟩⟩
          rw [g3]
          rw [show 150 - k = 0 by omega]; rfl
        · refine q_aload_n G (pc := 29) dX8_readInto_29 rfl ?_
          refine q_aload_n G (pc := 30) dX8_readInto_30 rfl ?_
          refine q_iload_n G (pc := 31) dX8_readInto_31 rfl ?_
          refine q_if_neN (tgt := 39) G (pc := 32) dX8_readInto_32 (by decide) (by omega) (fun c32 => ?_) (fun c32 => ?_)
          · refine q_iconst (v := nI 0) G (pc := 39) dX8_readInto_39 (by decide) ?_
            have e1 : decide ((0 : Nat) = 1) = decide (k = 0) := by simp [c32]
            refine q_cV2I G (pc := 40) dX8_readInto_40 cv_X8_33 rfl (s_X8_readItem (by omega) hτ gR hsh gS (fi := 0) (by omega) (fun z => absurd z (by decide))) (Nat.le_of_ble_eq_true rfl) ?_
            intro xl hk2 hz
            rcases hz with ⟨rfl, f, m1, m2, m3⟩ | ⟨rfl, q2, P2, m1, m2, ⟨nx2, nd2, m3⟩, m4⟩
            · rw [e1] at m1
              refine q_if_neN (tgt := 54) G (pc := 43) dX8_readInto_43 (by decide) (by omega) (fun c43 => absurd c43 (by decide)) (fun _ => ?_)
              refine q_bipush (v := -10) G (pc := 46) dX8_readInto_46 (by decide) ?_
              refine q_aload_n G (pc := 48) dX8_readInto_48 rfl ?_
              refine q_getI (v := nI (f)) G (pc := 49) dX8_readInto_49 fl_X8_37_8 (by decide) rfl m2.2.1 ?_
              refine q_isub G (pc := 52) dX8_readInto_52 ?_
              refine q_iret G (pc := 53) dX8_readInto_53 (Or.inl rfl) ?_
              refine ⟨rfl, _, rfl, Or.inl ⟨f, ?_, rfl, m2.2.2.2.2, m2.1, g4.trans m3⟩⟩
              rw [g3, show 150 - k = (150 - (k + 1)) + 1 by omega]
              show (if q < N then _ else _) = _
              rw [if_pos hqN, m1]
            · rw [e1] at m1
              refine q_if_neN (tgt := 54) G (pc := 43) dX8_readInto_43 (by decide) (by omega) (fun _ => ?_) (fun c43 => absurd c43 (by decide))
              refine q_iincN G (pc := 54) dX8_readInto_54 rfl (inc1 _) (by decide) ?_
              show X _ [_, _, _] _ _ _ _
              refine q_goto (tgt := 15) G (pc := 57) dX8_readInto_57 (by decide) ?_
              refine ih15 (k + 1) q2 P2 nx2 nd2 hk2 (by omega) (by omega) m2 m3 (fun z => absurd z (Nat.succ_ne_zero _)) ?_ (g4.trans m4)
              rw [g3, show 150 - k = (150 - (k + 1)) + 1 by omega]
              show (if q < N then _ else _) = _
              rw [if_pos hqN, m1]
          · refine q_iconst (v := nI 1) G (pc := 35) dX8_readInto_35 (by decide) ?_
            refine q_goto (tgt := 40) G (pc := 36) dX8_readInto_36 (by decide) ?_
            have e1 : decide ((1 : Nat) = 1) = decide (k = 0) := by simp [c32]
            refine q_cV2I G (pc := 40) dX8_readInto_40 cv_X8_33 rfl (s_X8_readItem (by omega) hτ gR hsh gS (fi := 1) (by omega) (fun z => g1 c32)) (Nat.le_of_ble_eq_true rfl) ?_
            intro xl hk2 hz
            rcases hz with ⟨rfl, f, m1, m2, m3⟩ | ⟨rfl, q2, P2, m1, m2, ⟨nx2, nd2, m3⟩, m4⟩
            · rw [e1] at m1
              refine q_if_neN (tgt := 54) G (pc := 43) dX8_readInto_43 (by decide) (by omega) (fun c43 => absurd c43 (by decide)) (fun _ => ?_)
              refine q_bipush (v := -10) G (pc := 46) dX8_readInto_46 (by decide) ?_
              refine q_aload_n G (pc := 48) dX8_readInto_48 rfl ?_
              refine q_getI (v := nI (f)) G (pc := 49) dX8_readInto_49 fl_X8_37_8 (by decide) rfl m2.2.1 ?_
              refine q_isub G (pc := 52) dX8_readInto_52 ?_
              refine q_iret G (pc := 53) dX8_readInto_53 (Or.inl rfl) ?_
              refine ⟨rfl, _, rfl, Or.inl ⟨f, ?_, rfl, m2.2.2.2.2, m2.1, g4.trans m3⟩⟩
              rw [g3, show 150 - k = (150 - (k + 1)) + 1 by omega]
              show (if q < N then _ else _) = _
              rw [if_pos hqN, m1]
            · rw [e1] at m1
              refine q_if_neN (tgt := 54) G (pc := 43) dX8_readInto_43 (by decide) (by omega) (fun _ => ?_) (fun c43 => absurd c43 (by decide))
              refine q_iincN G (pc := 54) dX8_readInto_54 rfl (inc1 _) (by decide) ?_
              show X _ [_, _, _] _ _ _ _
              refine q_goto (tgt := 15) G (pc := 57) dX8_readInto_57 (by decide) ?_
              refine ih15 (k + 1) q2 P2 nx2 nd2 hk2 (by omega) (by omega) m2 m3 (fun z => absurd z (Nat.succ_ne_zero _)) ?_ (g4.trans m4)
              rw [g3, show 150 - k = (150 - (k + 1)) + 1 by omega]
              show (if q < N then _ else _) = _
              rw [if_pos hqN, m1]
  exact L15 _ 0 _ P00 nx0 2 hk1 (Nat.lt_succ_self _) (by omega) y1 (x1.keep (fun c h1 h2 => by rw [y2 c (by simp; omega)]; simp [va_up, show c ≠ 1 by omega])) (fun _ => rfl) rfl (fun c hc => by rw [y2 c (by simp at hc ⊢; omega)]; simp [va_up, show c ≠ 1 by simp at hc; omega]; exact x2 c (by simp at hc ⊢; omega))
