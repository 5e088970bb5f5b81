/-! what a text tells -/
abbrev okL (b : Nat → Nat) (N q : Nat) : Prop := tkn b N q = 2 ∧ tke b N q = q + 1 ∧ 49 ≤ b q ∧ b q ≤ 51
def pq (b : Nat → Nat) (N q : Nat) : Nat → Nat
  | 0 => q
  | l + 1 => skp b N (tke b N (pq b N q l))
abbrev okP (b : Nat → Nat) (N z : Nat) : Prop := tkn b N z = 1 ∧ tke b N z = z + 2
def badS (b : Nat → Nat) (N q L : Nat) : Option Nat := (List.range L).find? (fun l => !decide (okP b N (pq b N q (l + 1))))
def uw (b : Nat → Nat) (q n : Nat) : List Nat := (List.range n).map (fun j => cod (b (q + j)))
abbrev okW (b : Nat → Nat) (N z : Nat) : Prop := tkn b N z = 1 ∧ tke b N z - z ≤ 6 ∧ ∀ j, j < tke b N z - z → cod (b (z + j)) ≠ 26
def addS (b : Nat → Nat) (N q : Nat) (P : PG) : PG := (pL P, pS P + 1, fun s l i => if s = pS P ∧ l < pL P ∧ i < 2 then cod (b (pq b N q (l + 1) + i)) else pG P s l i, pW P)
def stpS (b : Nat → Nat) (N q : Nat) (P : PG) : Nat ⊕ (Nat × PG) := if tkn b N (skp b N (tke b N q)) = 3 then .inr (skp b N (skp b N (tke b N q) + 1), P) else .inl (skp b N (tke b N q))
def itm (b : Nat → Nat) (N q : Nat) (first : Bool) (P : PG) : Nat ⊕ (Nat × PG) :=
  if tkn b N q = 1 ∧ tke b N q = q + 1 then
    (if b q = 110 then (if first = true then (if okL b N (skp b N (tke b N q)) then stpS b N (skp b N (tke b N q)) (b (skp b N (tke b N q)) - 48, pS P, pG P, pW P) else .inl (skp b N (tke b N q))) else .inl q)
    else if b q = 115 then (if pS P < 6 then (match badS b N q (pL P) with
      | some l => .inl (pq b N q (l + 1))
      | none => stpS b N (pq b N q (pL P)) (addS b N q P)) else .inl q)
    else if b q = 119 then (if (pW P).length < 8 then (if okW b N (skp b N (tke b N q)) then stpS b N (skp b N (tke b N q)) (pL P, pS P, pG P, pW P ++ [uw b (skp b N (tke b N q)) (tke b N (skp b N (tke b N q)) - skp b N (tke b N q))]) else .inl (skp b N (tke b N q))) else .inl q)
    else .inl q)
  else .inl q
def prs (b : Nat → Nat) (N : Nat) : Nat → Nat → Nat → PG → Nat ⊕ (Nat × PG)
  | 0, k, q, P => .inr (k, P)
  | m + 1, k, q, P => if q < N then (match itm b N q (decide (k = 0)) P with
    | .inl f => .inl f
    | .inr (q2, P2) => prs b N m (k + 1) q2 P2) else .inr (k, P)
theorem pq_le {b : Nat → Nat} {N q : Nat} (h : q ≤ N) : ∀ l, pq b N q l ≤ N
  | 0 => h
  | l + 1 => (scn_le (tke_le (pq_le h l)).2.1).2
theorem cod_26 {c : Nat} (h : tok c = 1) : cod c ≤ 26 := by
  have hc2 : (97 ≤ c ∧ c ≤ 122) ∨ c = 46 := by
    unfold tok at h
    split at h
    · assumption
    · split at h
      · cases h
      · split at h <;> cases h
  unfold cod
  split <;> omega
theorem tke_tok {b : Nat → Nat} {N z : Nat} (h : tkn b N z = 1) : z < N ∧ tok (b z) = 1 ∧ tke b N z = ren b N 1 (z + 1) := by
  unfold tkn at h
  by_cases h9 : z < N
  · rw [if_pos h9] at h
    refine ⟨h9, h, ?_⟩
    unfold tke
    rw [if_pos h9, if_pos (Or.inl h), h]
  · rw [if_neg h9] at h; cases h
theorem tke_row {b : Nat → Nat} {N z j : Nat} (h : tkn b N z = 1) (h1 : z ≤ j) (h2 : j < tke b N z) : j < N ∧ tok (b j) = 1 := by
  obtain ⟨a1, a2, a3⟩ := tke_tok h
  have hz := scn_spec (fun j => tok (b j) == 1) N _ (z + 1) rfl (by omega)
  have hl := (tke_le (b := b) (Nat.le_of_lt a1)).2.1
  refine ⟨by omega, ?_⟩
  by_cases q : j = z
  · rw [q]; exact a2
  · rw [a3] at h2
    have := hz.2.2.2 j (by omega) h2
    simpa using this
theorem uw_len (b : Nat → Nat) (q n : Nat) : (uw b q n).length = n := by simp [uw]
theorem uw_get {b : Nat → Nat} {q n j : Nat} (h : j < n) : (uw b q n).getD j 0 = cod (b (q + j)) := by
  simp [uw, List.getD_eq_getElem?_getD, h]
theorem badS_some {b : Nat → Nat} {N q L l : Nat} (h : l < L) (h1 : ∀ j, j < l → okP b N (pq b N q (j + 1))) (h2 : ¬ okP b N (pq b N q (l + 1))) : badS b N q L = some l := by
  unfold badS
  rw [List.find?_range_eq_some]
  refine ⟨by rw [decide_eq_false h2]; rfl, List.mem_range.mpr h, fun j hj => ?_⟩
  rw [decide_eq_true (h1 j hj)]
  rfl
theorem badS_none {b : Nat → Nat} {N q L : Nat} (h1 : ∀ j, j < L → okP b N (pq b N q (j + 1))) : badS b N q L = none := by
  unfold badS
  rw [List.find?_eq_none]
  intro x hx
  have := h1 x (List.mem_range.mp hx)
  simp [this]
theorem tok_dig {b : Nat → Nat} {N z : Nat} (h : tkn b N z = 2) (h1 : z < N) : 48 ≤ b z ∧ b z ≤ 57 := by
  unfold tkn at h
  rw [if_pos h1] at h
  unfold tok at h
  split at h
  · cases h
  · split at h
    · assumption
    · split at h <;> cases h
set_option maxHeartbeats 2000000 in
theorem s_X8_readLines {d : Nat} (hd : 3 ≤ d) {hi : mm_HI} {τ : mm_T} {sw : Bool} (hτ : τ.1 = mm_hr sw) {b : Nat → Nat} {N q sh nd : Nat} {P : PG} {nx : Nat → Nat → Nat} (hR : rdr hi b N q) (hsh : mm_lay sh = (0, 7)) (hS : shF hi sh P nx nd) (hP0 : pS P = 0) : wI d yX8_readLines [.ref 1, .ref sh] hi τ (fun x h => (x = nI 0 ∧ ¬ okL b N (skp b N (tke b N q)) ∧ rdr h b N (skp b N (tke b N q)) ∧ fr [1] hi h) ∨ (x = nI 1 ∧ okL b N (skp b N (tke b N q)) ∧ rdr h b N (skp b N (tke b N q)) ∧ shF h sh (b (skp b N (tke b N q)) - 48, pS P, pG P, pW P) nx nd ∧ fr [1, sh] hi h)) := by
  refine w_intro (by omega) M_X8_readLines (Nat.le_of_ble_eq_true rfl) rfl ?_
  intro e X he G
  show X 0 [some (.ref (1)), some (.ref (sh)), none] [] hi τ 125
  have htl := tke_le (b := b) hR.2.2.2.2
  have hN150 := hR.1.2.1
  have hs7 := ly7 hsh
  refine q_aload_n G (pc := 0) dX8_readLines_0 rfl ?_
  refine q_cV0V G (pc := 1) dX8_readLines_1 cv_X8_27 rfl (s_X8_advance (by omega) hτ hR.1 hR.2.2.1 htl.2.1) (Nat.le_of_ble_eq_true rfl) ?_
  intro hk hx
  obtain ⟨x1, x2⟩ := hx
  have hsN : shF hk sh P nx nd := hS.keep (fun c h1 h2 => x2 c (by simp; omega))
  have hq1 := tke_le (b := b) x1.2.2.2.2
  have hq1N := x1.2.2.2.2
  have htb : tkn b N (skp b N (tke b N q)) ≤ 4 := by
    unfold tkn
    split
    · exact (tok_bd _).2
    · omega
  refine q_aload_n G (pc := 4) dX8_readLines_4 rfl ?_
  refine q_getI (v := nI (tkn b N (skp b N (tke b N q)))) G (pc := 5) dX8_readLines_5 fl_X8_30_8 (by decide) rfl x1.2.2.2.1 ?_
  refine q_iconst (v := nI 2) G (pc := 8) dX8_readLines_8 (by decide) ?_
  refine q_icmp_neN (tgt := 25) G (pc := 9) dX8_readLines_9 (by decide) (by omega) (by omega) (fun c9 => ?_) (fun c9 => ?_)
  · refine q_iconst (v := nI 0) G (pc := 25) dX8_readLines_25 (by decide) ?_
    refine q_iret G (pc := 26) dX8_readLines_26 (Or.inr ⟨rfl, by decide⟩) ?_
    exact ⟨rfl, _, rfl, Or.inl ⟨rfl, fun z => c9 z.1, x1, x2⟩⟩
  · have hlt : (skp b N (tke b N q)) < N := by
      rcases Nat.lt_or_ge (skp b N (tke b N q)) N with z | z
      · exact z
      · unfold tkn at c9; rw [if_neg (by omega)] at c9; cases c9
    refine q_aload_n G (pc := 12) dX8_readLines_12 rfl ?_
    refine q_getI (v := nI (tke b N (skp b N (tke b N q)))) G (pc := 13) dX8_readLines_13 fl_X8_24_8 (by decide) rfl x1.2.2.1 ?_
    refine q_aload_n G (pc := 16) dX8_readLines_16 rfl ?_
    refine q_getI (v := nI ((skp b N (tke b N q)))) G (pc := 17) dX8_readLines_17 fl_X8_37_8 (by decide) rfl x1.2.1 ?_
    refine q_isubN G (pc := 20) dX8_readLines_20 (by omega) ?_
    refine q_iconst (v := nI 1) G (pc := 21) dX8_readLines_21 (by decide) ?_
    refine q_icmp_eqN (tgt := 27) G (pc := 22) dX8_readLines_22 (by decide) (by omega) (by omega) (fun c22 => ?_) (fun c22 => ?_)
    · refine q_aload_n G (pc := 27) dX8_readLines_27 rfl ?_
      refine q_getR (x := 2) G (pc := 28) dX8_readLines_28 fl_X8_9_8 rfl (hg hτ (hf_8_1 rfl)) ?_
      refine q_aload_n G (pc := 31) dX8_readLines_31 rfl ?_
      refine q_getI (v := nI ((skp b N (tke b N q)))) G (pc := 32) dX8_readLines_32 fl_X8_37_8 (by decide) rfl x1.2.1 ?_
      refine q_iald (j := (skp b N (tke b N q))) (v := nI (b (skp b N (tke b N q)))) G (pc := 35) dX8_readLines_35 rfl rfl (by omega) (x1.1.2.2.1 _ hlt) ?_
      have hbq := tok_dig c9 hlt
      refine q_bipush (v := nI 48) G (pc := 36) dX8_readLines_36 (by decide) ?_
      refine q_isubN G (pc := 38) dX8_readLines_38 (by omega) ?_
      refine q_istore_n G (pc := 39) dX8_readLines_39 (by decide) ?_
      show X _ [_, _, _] _ _ _ _
      refine q_iload_n G (pc := 40) dX8_readLines_40 rfl ?_
      refine q_iconst (v := nI 1) G (pc := 41) dX8_readLines_41 (by decide) ?_
      refine q_icmp_ltN (tgt := 50) G (pc := 42) dX8_readLines_42 (by decide) (by omega) (by omega) (fun c42 => ?_) (fun c42 => ?_)
      · refine q_iconst (v := nI 0) G (pc := 50) dX8_readLines_50 (by decide) ?_
        refine q_iret G (pc := 51) dX8_readLines_51 (Or.inr ⟨rfl, by decide⟩) ?_
        exact ⟨rfl, _, rfl, Or.inl ⟨rfl, fun z => by have := z.2.2; omega, x1, x2⟩⟩
      · refine q_iload_n G (pc := 45) dX8_readLines_45 rfl ?_
        refine q_iconst (v := nI 3) G (pc := 46) dX8_readLines_46 (by decide) ?_
        refine q_icmp_leN (tgt := 52) G (pc := 47) dX8_readLines_47 (by decide) (by omega) (by omega) (fun c47 => ?_) (fun c47 => ?_)
        · refine q_aload_n G (pc := 52) dX8_readLines_52 rfl ?_
          refine q_iload_n G (pc := 53) dX8_readLines_53 rfl ?_
          refine q_putI G (pc := 54) dX8_readLines_54 fl_X8_60_7 hsh ?_
          refine q_iconst (v := nI 1) G (pc := 57) dX8_readLines_57 (by decide) ?_
          refine q_iret G (pc := 58) dX8_readLines_58 (Or.inr ⟨rfl, by decide⟩) ?_
          refine ⟨rfl, _, rfl, Or.inr ⟨rfl, ⟨c9, by omega, by omega, by omega⟩, x1.keep (by simp [va_up, show (1 : Nat) ≠ sh by omega]) (by simp [va_up, show (2 : Nat) ≠ sh by omega]), ?_, ?_⟩⟩
          · obtain ⟨f1, f2, f3, f4, f5, f6, f7, f8, f9⟩ := hsN
            obtain ⟨o1, o2, o3, o4, o5, o6⟩ := f4
            refine ⟨by simp [va_up], by simp [va_up]; exact f2, by simp [va_up]; exact f3, ⟨by show 1 ≤ b _ - 48; omega, by show b _ - 48 ≤ 3; omega, o3, o4, o5, o6⟩, fun s hs => by rw [show pS P = 0 from hP0] at hs; exact absurd hs (Nat.not_lt_zero _), fun w hw => ?_, f7.keep (by simp [va_up]) (by simp [va_up, show sh + 3 + 1 ≠ sh by omega]), f8, f9⟩
            obtain ⟨w1, w2⟩ := f6 w hw
            exact ⟨by simp [va_up]; exact w1, fun i hi2 => by simp [va_up]; exact w2 i hi2⟩
          · intro c hc
            rw [← x2 c (by simp at hc ⊢; omega)]
            simp at hc
            simp [va_up, hc]
        · refine q_iconst (v := nI 0) G (pc := 50) dX8_readLines_50 (by decide) ?_
          refine q_iret G (pc := 51) dX8_readLines_51 (Or.inr ⟨rfl, by decide⟩) ?_
          exact ⟨rfl, _, rfl, Or.inl ⟨rfl, fun z => by have := z.2.2; omega, x1, x2⟩⟩
    · refine q_iconst (v := nI 0) G (pc := 25) dX8_readLines_25 (by decide) ?_
      refine q_iret G (pc := 26) dX8_readLines_26 (Or.inr ⟨rfl, by decide⟩) ?_
      exact ⟨rfl, _, rfl, Or.inl ⟨rfl, fun z => c22 (by have := z.2.1; omega), x1, x2⟩⟩
theorem sh_pair {x : mm_HI} {sh nd l : Nat} {P : PG} {nx : Nat → Nat → Nat} {u v : Int32} (h : shF x sh P nx nd) (hl : l < pL P) (hs : pS P < 6) : shF (mm_up2 (mm_up2 (mm_up2 (mm_up2 x (sh + 5) (((pS P * 2 + 0) * 3 + l) * 2) u) (sh + 5) (((pS P * 2 + 0) * 3 + l) * 2 + 1) v) (sh + 5) (((pS P * 2 + 1) * 3 + (pL P - 1 - l)) * 2) v) (sh + 5) (((pS P * 2 + 1) * 3 + (pL P - 1 - l)) * 2 + 1) u) sh P nx nd := by
  obtain ⟨f1, f2, f3, f4, f5, f6, f7, f8, f9⟩ := h
  obtain ⟨o1, o2, o3, o4, o5, o6⟩ := id f4
  refine ⟨by simp [va_up]; exact f1, by simp [va_up]; exact f2, by simp [va_up]; exact f3, f4, fun s hs2 w hw z hz i hi2 => ?_, fun w hw => ?_, f7.keep (by simp [va_up]) (by simp [va_up]), f8, f9⟩
  · simp only [va_up, if_true]
    rw [if_neg (by omega), if_neg (by omega), if_neg (by omega), if_neg (by omega)]
    exact f5 s hs2 w hw z hz i hi2
  · obtain ⟨w1, w2⟩ := f6 w hw
    exact ⟨by simp [va_up]; exact w1, fun i hi2 => by simp [va_up]; exact w2 i hi2⟩
set_option maxHeartbeats 2000000 in
theorem s_X8_readStrip {d : Nat} (hd : 3 ≤ d) {hi : mm_HI} {τ : mm_T} {sw : Bool} (hτ : τ.1 = mm_hr sw) {b : Nat → Nat} {N q sh nd : Nat} {P : PG} {nx : Nat → Nat → Nat} (hR : rdr hi b N q) (hsh : mm_lay sh = (0, 7)) (hS : shF hi sh P nx nd) (hS6 : pS P < 6) : wI d yX8_readStrip [.ref 1, .ref sh] hi τ (fun x h => (x = nI 0 ∧ ∃ l, l < pL P ∧ (∀ j, j < l → okP b N (pq b N q (j + 1))) ∧ ¬ okP b N (pq b N q (l + 1)) ∧ rdr h b N (pq b N q (l + 1)) ∧ fr [1, sh + 5] hi h) ∨ (x = nI 1 ∧ (∀ j, j < pL P → okP b N (pq b N q (j + 1))) ∧ rdr h b N (pq b N q (pL P)) ∧ shF h sh (addS b N q P) nx nd ∧ fr [1, sh, sh + 5] hi h)) := by
  refine w_intro (by omega) M_X8_readStrip (Nat.le_of_ble_eq_true rfl) rfl ?_
  intro e X he G
  show X 0 [some (.ref (1)), some (.ref (sh)), none] [] hi τ 125
  have htl := tke_le (b := b) hR.2.2.2.2
  have hN150 := hR.1.2.1
  have hs7 := ly7 hsh
  have hL3 := hS.2.2.2.1.2.1
  refine q_iconst (v := nI 0) G (pc := 0) dX8_readStrip_0 (by decide) ?_
  refine q_istore_n G (pc := 1) dX8_readStrip_1 (by decide) ?_
  show X _ [_, _, _] _ _ _ _
  have L2 : ∀ (zz : Nat) (l : Nat) (hk : mm_HI), pL P - l < zz → l ≤ pL P → rdr hk b N (pq b N q l) → shF hk sh P nx nd → (∀ j, j < l → okP b N (pq b N q (j + 1))) → (∀ z, z < l → ∀ i, i < 2 → hk (sh + 5) (((pS P * 2 + 0) * 3 + z) * 2 + i) = nI (cod (b (pq b N q (z + 1) + i))) ∧ hk (sh + 5) (((pS P * 2 + 1) * 3 + (pL P - 1 - z)) * 2 + (1 - i)) = nI (cod (b (pq b N q (z + 1) + i)))) → fr [1, sh + 5] hi hk → X 2 [some (.ref (1)), some (.ref (sh)), some (.int (nI (l)))] [] hk τ 125 := by
    intro zz
    induction zz with
    | zero => intro l hk hm; exact absurd hm (Nat.not_lt_zero _)
    | succ zz ih2 =>
      intro l hk hm h0 gR gS g3 g4 g5
      refine q_iload_n G (pc := 2) dX8_readStrip_2 rfl ?_
      refine q_aload_n G (pc := 3) dX8_readStrip_3 rfl ?_
      refine q_getI (v := nI (pL P)) G (pc := 4) dX8_readStrip_4 fl_X8_60_7 (by decide) hsh gS.1 ?_
      refine q_icmp_geN (tgt := 74) G (pc := 7) dX8_readStrip_7 (by decide) (by omega) (by omega) (fun c7 => ?_) (fun c7 => ?_)
      · refine q_aload_n G (pc := 74) dX8_readStrip_74 rfl ?_
        refine q_dup G (pc := 75) dX8_readStrip_75 rfl ?_
        refine q_getI (v := nI (pS P)) G (pc := 76) dX8_readStrip_76 fl_X8_48_7 (by decide) hsh gS.2.1 ?_
        refine q_iconst (v := nI 1) G (pc := 79) dX8_readStrip_79 (by decide) ?_
        refine q_iaddN G (pc := 80) dX8_readStrip_80 ?_
        refine q_putI G (pc := 81) dX8_readStrip_81 fl_X8_48_7 hsh ?_
        refine q_iconst (v := nI 1) G (pc := 84) dX8_readStrip_84 (by decide) ?_
        refine q_iret G (pc := 85) dX8_readStrip_85 (Or.inr ⟨rfl, by decide⟩) ?_
        refine ⟨rfl, _, rfl, Or.inr ⟨rfl, fun j hj => g3 j (by omega), ?_, ?_, ?_⟩⟩
        · rw [show pL P = l by omega]
          exact gR.keep (by simp [va_up, show (1 : Nat) ≠ sh by omega]) (by simp [va_up, show (2 : Nat) ≠ sh by omega])
        · obtain ⟨f1, f2, f3, f4, f5, f6, f7, f8, f9⟩ := gS
          obtain ⟨o1, o2, o3, o4, o5, o6⟩ := f4
          refine ⟨by simp [va_up]; exact f1, by simp [va_up, addS], by simp [va_up]; exact f3, ⟨o1, o2, by show pS P + 1 ≤ 6; omega, fun s z i => ?_, o5, o6⟩, fun s hs w hw z hz i hi2 => ?_, fun w hw => ?_, f7.keep (by simp [va_up]) (by simp [va_up, show sh + 3 + 1 ≠ sh by omega]), f8, f9⟩
          · show (if _ then _ else _) ≤ 26
            split
            · rename_i hc
              have hk := g3 z (by omega)
              exact cod_26 (tke_row hk.1 (Nat.le_add_right _ _) (by omega)).2
            · exact o4 s z i
          · simp only [va_up]
            rw [if_neg (show sh + 5 ≠ sh by omega)]
            have hz2 : z < pL P := hz
            by_cases e : s = pS P
            · subst e
              obtain ⟨k1, k2⟩ := g4 z (by omega) i hi2
              by_cases e2 : w = 0
              · subst e2
                rw [k1]
                show nI _ = nI (if _ then _ else if _ then _ else _)
                rw [if_neg (by decide), if_pos ⟨rfl, hz2, hi2⟩]
              · have e3 : w = 1 := by omega
                subst e3
                obtain ⟨k3, k4⟩ := g4 (pL P - 1 - z) (by omega) (1 - i) (by omega)
                rw [show pL P - 1 - (pL P - 1 - z) = z by omega, show 1 - (1 - i) = i by omega] at k4
                rw [k4]
                show nI _ = nI (if _ then (if _ then _ else _) else _)
                rw [if_pos rfl, if_pos ⟨rfl, by show pL P - 1 - z < pL P; omega, by omega⟩]
                rfl
            · have hs2 : s < pS P := by have : s < pS P + 1 := hs; omega
              rw [f5 s hs2 w hw z hz2 i hi2]
              have q1 : ∀ y i, pG (addS b N q P) s y i = pG P s y i := fun y i => by show (if _ then _ else _) = _; rw [if_neg (fun h => e h.1)]
              unfold shW
              rw [q1, q1]
              rfl
          · obtain ⟨w1, w2⟩ := f6 w hw
            exact ⟨by simp [va_up]; exact w1, fun i hi2 => by simp [va_up]; exact w2 i hi2⟩
        · intro c hc
          rw [← g5 c (by simp at hc ⊢; omega)]
          simp at hc
          simp [va_up, hc]
      · refine q_aload_n G (pc := 10) dX8_readStrip_10 rfl ?_
        refine q_cV0V G (pc := 11) dX8_readStrip_11 cv_X8_27 rfl (s_X8_advance (by omega) hτ gR.1 gR.2.2.1 (tke_le gR.2.2.2.2).2.1) (Nat.le_of_ble_eq_true rfl) ?_
        intro hk2 hx
        obtain ⟨x1, x2⟩ := hx
        have x1 : rdr hk2 b N (pq b N q (l + 1)) := x1
        have hsN : shF hk2 sh P nx nd := gS.keep (fun c h1 h2 => x2 c (by simp; omega))
        have hq1 := tke_le (b := b) x1.2.2.2.2
        have hq1N := x1.2.2.2.2
        have htb : tkn b N (pq b N q (l + 1)) ≤ 4 := by
          unfold tkn
          split
          · exact (tok_bd _).2
          · omega
        refine q_aload_n G (pc := 14) dX8_readStrip_14 rfl ?_
        refine q_getI (v := nI (tkn b N (pq b N q (l + 1)))) G (pc := 15) dX8_readStrip_15 fl_X8_30_8 (by decide) rfl x1.2.2.2.1 ?_
        refine q_iconst (v := nI 1) G (pc := 18) dX8_readStrip_18 (by decide) ?_
        refine q_icmp_neN (tgt := 35) G (pc := 19) dX8_readStrip_19 (by decide) (by omega) (by omega) (fun c19 => ?_) (fun c19 => ?_)
        · refine q_iconst (v := nI 0) G (pc := 35) dX8_readStrip_35 (by decide) ?_
          refine q_iret G (pc := 36) dX8_readStrip_36 (Or.inr ⟨rfl, by decide⟩) ?_
          exact ⟨rfl, _, rfl, Or.inl ⟨rfl, l, by omega, g3, fun z => c19 z.1, x1, g5.trans (fun c hc => x2 c (by simp at hc ⊢; omega))⟩⟩
        · refine q_aload_n G (pc := 22) dX8_readStrip_22 rfl ?_
          refine q_getI (v := nI (tke b N (pq b N q (l + 1)))) G (pc := 23) dX8_readStrip_23 fl_X8_24_8 (by decide) rfl x1.2.2.1 ?_
          refine q_aload_n G (pc := 26) dX8_readStrip_26 rfl ?_
          refine q_getI (v := nI ((pq b N q (l + 1)))) G (pc := 27) dX8_readStrip_27 fl_X8_37_8 (by decide) rfl x1.2.1 ?_
          refine q_isubN G (pc := 30) dX8_readStrip_30 (by omega) ?_
          refine q_iconst (v := nI 2) G (pc := 31) dX8_readStrip_31 (by decide) ?_
          refine q_icmp_eqN (tgt := 37) G (pc := 32) dX8_readStrip_32 (by decide) (by omega) (by omega) (fun c32 => ?_) (fun c32 => ?_)
          · have hok : okP b N (pq b N q (l + 1)) := ⟨c19, by omega⟩
            have hr0 := tke_row c19 (Nat.le_refl _) (by omega)
            have hr1 := tke_row (j := (pq b N q (l + 1)) + 1) c19 (by omega) (by omega)
            refine q_aload_n G (pc := 37) dX8_readStrip_37 rfl ?_
            refine q_iload_n G (pc := 38) dX8_readStrip_38 rfl ?_
            refine q_aload_n G (pc := 39) dX8_readStrip_39 rfl ?_
            refine q_getR (x := 2) G (pc := 40) dX8_readStrip_40 fl_X8_9_8 rfl (hg hτ (hf_8_1 rfl)) ?_
            refine q_aload_n G (pc := 43) dX8_readStrip_43 rfl ?_
            refine q_getI (v := nI ((pq b N q (l + 1)))) G (pc := 44) dX8_readStrip_44 fl_X8_37_8 (by decide) rfl x1.2.1 ?_
            refine q_iald (j := (pq b N q (l + 1))) (v := nI (b (pq b N q (l + 1)))) G (pc := 47) dX8_readStrip_47 rfl rfl (by omega) (x1.1.2.2.1 _ hr0.1) ?_
            refine q_cS1E G (pc := 48) dX8_readStrip_48 cs_X8_63 (s_X8_signOf (by omega) hr0.2) (Nat.le_of_ble_eq_true rfl) ?_
            refine q_aload_n G (pc := 51) dX8_readStrip_51 rfl ?_
            refine q_getR (x := 2) G (pc := 52) dX8_readStrip_52 fl_X8_9_8 rfl (hg hτ (hf_8_1 rfl)) ?_
            refine q_aload_n G (pc := 55) dX8_readStrip_55 rfl ?_
            refine q_getI (v := nI ((pq b N q (l + 1)))) G (pc := 56) dX8_readStrip_56 fl_X8_37_8 (by decide) rfl x1.2.1 ?_
            refine q_iconst (v := nI 1) G (pc := 59) dX8_readStrip_59 (by decide) ?_
            refine q_iaddN G (pc := 60) dX8_readStrip_60 ?_
            refine q_iald (j := (pq b N q (l + 1)) + 1) (v := nI (b ((pq b N q (l + 1)) + 1))) G (pc := 61) dX8_readStrip_61 rfl rfl (by omega) (x1.1.2.2.1 _ hr1.1) ?_
            refine q_cS1E G (pc := 62) dX8_readStrip_62 cs_X8_63 (s_X8_signOf (by omega) hr1.2) (Nat.le_of_ble_eq_true rfl) ?_
            refine q_cV3V G (pc := 65) dX8_readStrip_65 cv_X8_67 hsh (s_X7_tellPair (by omega) hτ hsh (S := pS P) (L := pL P) (l := l) hsN.2.1 hsN.1 hS6 (by omega) hL3) (Nat.le_of_ble_eq_true rfl) ?_
            intro hk3 hy
            subst hy
            refine q_iincN G (pc := 68) dX8_readStrip_68 rfl (inc1 _) (by decide) ?_
            show X _ [_, _, _] _ _ _ _
            refine q_goto (tgt := 2) G (pc := 71) dX8_readStrip_71 (by decide) ?_
            have x3 : fr [sh + 5] hk2 (mm_up2 (mm_up2 (mm_up2 (mm_up2 hk2 (sh + 5) (((pS P * 2 + 0) * 3 + l) * 2) (nI (cod (b (pq b N q (l + 1)))))) (sh + 5) (((pS P * 2 + 0) * 3 + l) * 2 + 1) (nI (cod (b ((pq b N q (l + 1)) + 1))))) (sh + 5) (((pS P * 2 + 1) * 3 + (pL P - 1 - l)) * 2) (nI (cod (b ((pq b N q (l + 1)) + 1))))) (sh + 5) (((pS P * 2 + 1) * 3 + (pL P - 1 - l)) * 2 + 1) (nI (cod (b (pq b N q (l + 1)))))) := fun c hc => by simp at hc; simp [va_up, hc]
            refine ih2 (l + 1) _ (by omega) (by omega) (x1.keep (x3 1 (by simp <;> omega)) (x3 2 (by simp <;> omega))) (sh_pair hsN (by omega) (by omega)) (fun j hj => ?_) (fun z hz i hi2 => ?_) ((g5.trans (fun c hc => x2 c (by simp at hc ⊢; omega))).trans (fun c hc => x3 c (by simp at hc ⊢; omega)))
            · by_cases e : j = l
              · subst e; exact hok
              · exact g3 j (by omega)
            · have e5 : hk2 (sh + 5) = hk (sh + 5) := x2 _ (by simp)
              by_cases e : z = l
              · subst e
                have : i = 0 ∨ i = 1 := by omega
                rcases this with rfl | rfl
                · refine ⟨?_, ?_⟩
                  · simp only [va_up, if_true]
                    rw [if_neg (by omega), if_neg (by omega), if_neg (by omega), if_pos (by omega)]
                    rfl
                  · simp [va_up]
                · refine ⟨?_, ?_⟩
                  · simp only [va_up, if_true]
                    rw [if_neg (by omega), if_neg (by omega)]
                  · simp only [va_up, if_true]
                    rw [if_neg (by omega), if_pos (by omega)]
              · obtain ⟨k1, k2⟩ := g4 z (by omega) i hi2
                rw [← e5] at k1 k2
                refine ⟨?_, ?_⟩
                · simp only [va_up, if_true]
                  rw [if_neg (by omega), if_neg (by omega), if_neg (by omega), if_neg (by omega)]
                  exact k1
                · simp only [va_up, if_true]
                  rw [if_neg (by omega), if_neg (by omega), if_neg (by omega), if_neg (by omega)]
                  exact k2
          · refine q_iconst (v := nI 0) G (pc := 35) dX8_readStrip_35 (by decide) ?_
            refine q_iret G (pc := 36) dX8_readStrip_36 (Or.inr ⟨rfl, by decide⟩) ?_
            exact ⟨rfl, _, rfl, Or.inl ⟨rfl, l, by omega, g3, fun z => c32 (by have := z.2; omega), x1, g5.trans (fun c hc => x2 c (by simp at hc ⊢; omega))⟩⟩
  exact L2 _ 0 hi (Nat.lt_succ_self _) (by omega) hR hS (fun j hj => absurd hj (Nat.not_lt_zero _)) (fun z hz => absurd hz (Nat.not_lt_zero _)) fr.rf
theorem sh_let {x : mm_HI} {sh nd i : Nat} {P : PG} {nx : Nat → Nat → Nat} {u : Int32} (h : shF x sh P nx nd) : shF (mm_up2 x (sh + 1) ((pW P).length * 6 + i) u) sh P nx nd := by
  obtain ⟨f1, f2, f3, f4, f5, f6, f7, f8, f9⟩ := h
  obtain ⟨o1, o2, o3, o4, o5, o6⟩ := id f4
  refine ⟨by simp [va_up]; exact f1, by simp [va_up]; exact f2, by simp [va_up]; exact f3, f4, fun s hs2 w hw z hz i hi2 => by simp [va_up]; exact f5 s hs2 w hw z hz i hi2, fun w hw => ?_, f7.keep (by simp [va_up]) (by simp [va_up]), f8, f9⟩
  obtain ⟨w1, w2⟩ := f6 w hw
  refine ⟨by simp [va_up]; exact w1, fun j hj => ?_⟩
  have hl : ((pW P).getD w []).length ≤ 6 := (o6 _ (by rw [List.getD_eq_getElem?_getD, List.getElem?_eq_getElem hw]; exact List.getElem_mem _)).2.1
  simp [va_up, show w * 6 + j ≠ (pW P).length * 6 + i by omega]
  exact w2 j hj
theorem uw_26 {b : Nat → Nat} {N z : Nat} (h : tkn b N z = 1) (h2 : ∀ j, j < tke b N z - z → cod (b (z + j)) ≠ 26) : ∀ c ∈ uw b z (tke b N z - z), c < 26 := by
  intro c hc
  unfold uw at hc
  obtain ⟨j, hj, rfl⟩ := List.mem_map.mp hc
  have hj := List.mem_range.mp hj
  have h3 := cod_26 (tke_row (j := z + j) h (by omega) (by omega)).2
  have := h2 j hj
  omega
set_option maxHeartbeats 2000000 in
theorem s_X8_readWord {d : Nat} (hd : 4 ≤ d) {hi : mm_HI} {τ : mm_T} {sw : Bool} (hτ : τ.1 = mm_hr sw) {b : Nat → Nat} {N q sh nd : Nat} {P : PG} {nx : Nat → Nat → Nat} (hR : rdr hi b N q) (hsh : mm_lay sh = (0, 7)) (hS : shF hi sh P nx nd) (hW8 : (pW P).length < 8) : wI d yX8_readWord [.ref 1, .ref sh] hi τ (fun x h => (x = nI 0 ∧ ¬ okW b N (skp b N (tke b N q)) ∧ rdr h b N (skp b N (tke b N q)) ∧ fr [1, sh + 1] hi h) ∨ (x = nI 1 ∧ okW b N (skp b N (tke b N q)) ∧ rdr h b N (skp b N (tke b N q)) ∧ (∃ (nx2 : Nat → Nat → Nat) (nd2 : Nat), shF h sh (pL P, pS P, pG P, pW P ++ [uw b (skp b N (tke b N q)) (tke b N (skp b N (tke b N q)) - (skp b N (tke b N q)))]) nx2 nd2) ∧ fr [1, sh, sh + 1, sh + 2, sh + 3, sh + 4, sh + 5] hi h)) := by
  refine w_intro (by omega) M_X8_readWord (Nat.le_of_ble_eq_true rfl) rfl ?_
  intro e X he G
  show X 0 [some (.ref (1)), some (.ref (sh)), none, none] [] hi τ 125
  have htl := tke_le (b := b) hR.2.2.2.2
  have hN150 := hR.1.2.1
  have hs7 := ly7 hsh
  refine q_aload_n G (pc := 0) dX8_readWord_0 rfl ?_
  refine q_cV0V G (pc := 1) dX8_readWord_1 cv_X8_27 rfl (s_X8_advance (by omega) hτ hR.1 hR.2.2.1 htl.2.1) (Nat.le_of_ble_eq_true rfl) ?_
  intro hk hx
  obtain ⟨x1, x2⟩ := hx
  have hsN : shF hk sh P nx nd := hS.keep (fun c h1 h2 => x2 c (by simp; omega))
  have hq1 := tke_le (b := b) x1.2.2.2.2
  have hq1N := x1.2.2.2.2
  have htb : tkn b N (skp b N (tke b N q)) ≤ 4 := by
    unfold tkn
    split
    · exact (tok_bd _).2
    · omega
  refine q_aload_n G (pc := 4) dX8_readWord_4 rfl ?_
  refine q_getI (v := nI (tkn b N (skp b N (tke b N q)))) G (pc := 5) dX8_readWord_5 fl_X8_30_8 (by decide) rfl x1.2.2.2.1 ?_
  refine q_iconst (v := nI 1) G (pc := 8) dX8_readWord_8 (by decide) ?_
  refine q_icmp_neN (tgt := 26) G (pc := 9) dX8_readWord_9 (by decide) (by omega) (by omega) (fun c9 => ?_) (fun c9 => ?_)
  · refine q_iconst (v := nI 0) G (pc := 26) dX8_readWord_26 (by decide) ?_
    refine q_iret G (pc := 27) dX8_readWord_27 (Or.inr ⟨rfl, by decide⟩) ?_
    exact ⟨rfl, _, rfl, Or.inl ⟨rfl, fun z => c9 z.1, x1, fun c hc => x2 c (by simp at hc ⊢; omega)⟩⟩
  · have hlt : (skp b N (tke b N q)) < N := (tke_tok c9).1
    refine q_aload_n G (pc := 12) dX8_readWord_12 rfl ?_
    refine q_getI (v := nI (tke b N (skp b N (tke b N q)))) G (pc := 13) dX8_readWord_13 fl_X8_24_8 (by decide) rfl x1.2.2.1 ?_
    refine q_aload_n G (pc := 16) dX8_readWord_16 rfl ?_
    refine q_getI (v := nI ((skp b N (tke b N q)))) G (pc := 17) dX8_readWord_17 fl_X8_37_8 (by decide) rfl x1.2.1 ?_
    refine q_isubN G (pc := 20) dX8_readWord_20 (by omega) ?_
    refine q_bipush (v := nI 6) G (pc := 21) dX8_readWord_21 (by decide) ?_
    refine q_icmp_leN (tgt := 28) G (pc := 23) dX8_readWord_23 (by decide) (by omega) (by omega) (fun c23 => ?_) (fun c23 => ?_)
    · refine q_iconst (v := nI 0) G (pc := 28) dX8_readWord_28 (by decide) ?_
      refine q_istore_n G (pc := 29) dX8_readWord_29 (by decide) ?_
      show X _ [_, _, _, _] _ _ _ _
      have L30 : ∀ (zz : Nat) (i : Nat) (hk : mm_HI) (v3 : Option Value), tke b N (skp b N (tke b N q)) - (skp b N (tke b N q)) - i < zz → i ≤ tke b N (skp b N (tke b N q)) - (skp b N (tke b N q)) → rdr hk b N (skp b N (tke b N q)) → shF hk sh P nx nd → (∀ j, j < i → hk (sh + 1) ((pW P).length * 6 + j) = nI (cod (b ((skp b N (tke b N q)) + j)))) → (∀ j, j < i → cod (b ((skp b N (tke b N q)) + j)) ≠ 26) → fr [1, sh + 1] hi hk → X 30 [some (.ref (1)), some (.ref (sh)), some (.int (nI (i))), v3] [] hk τ 125 := by
        intro zz
        induction zz with
        | zero => intro i hk v3 hm; exact absurd hm (Nat.not_lt_zero _)
        | succ zz ih30 =>
          intro i hk v3 hm h0 gR gS g4 g6 g5
          refine q_iload_n G (pc := 30) dX8_readWord_30 rfl ?_
          refine q_aload_n G (pc := 31) dX8_readWord_31 rfl ?_
          refine q_getI (v := nI (tke b N (skp b N (tke b N q)))) G (pc := 32) dX8_readWord_32 fl_X8_24_8 (by decide) rfl gR.2.2.1 ?_
          refine q_aload_n G (pc := 35) dX8_readWord_35 rfl ?_
          refine q_getI (v := nI ((skp b N (tke b N q)))) G (pc := 36) dX8_readWord_36 fl_X8_37_8 (by decide) rfl gR.2.1 ?_
          refine q_isubN G (pc := 39) dX8_readWord_39 (by omega) ?_
          refine q_icmp_geN (tgt := 78) G (pc := 40) dX8_readWord_40 (by decide) (by omega) (by omega) (fun c40 => ?_) (fun c40 => ?_)
          · have g6all : ∀ j, j < tke b N (skp b N (tke b N q)) - (skp b N (tke b N q)) → cod (b ((skp b N (tke b N q)) + j)) ≠ 26 := fun j hj => g6 j (by omega)
            refine q_aload_n G (pc := 78) dX8_readWord_78 rfl ?_
            refine q_aload_n G (pc := 79) dX8_readWord_79 rfl ?_
            refine q_getI (v := nI (tke b N (skp b N (tke b N q)))) G (pc := 80) dX8_readWord_80 fl_X8_24_8 (by decide) rfl gR.2.2.1 ?_
            refine q_aload_n G (pc := 83) dX8_readWord_83 rfl ?_
            refine q_getI (v := nI ((skp b N (tke b N q)))) G (pc := 84) dX8_readWord_84 fl_X8_37_8 (by decide) rfl gR.2.1 ?_
            refine q_isubN G (pc := 87) dX8_readWord_87 (by omega) ?_
            have hlen : (uw b (skp b N (tke b N q)) (tke b N (skp b N (tke b N q)) - (skp b N (tke b N q)))).length = tke b N (skp b N (tke b N q)) - (skp b N (tke b N q)) := uw_len _ _ _
            rw [← hlen]
            refine q_cV1V G (pc := 88) dX8_readWord_88 cv_X8_75 hsh (s_X7_endWord (by omega) hτ hsh gS (u := uw b (skp b N (tke b N q)) (tke b N (skp b N (tke b N q)) - (skp b N (tke b N q)))) hW8 (by rw [hlen]; have := hq1.2.2 hlt; omega) (by rw [hlen]; omega) (uw_26 c9 g6all) (fun j hj => by rw [hlen] at hj; rw [uw_get hj]; exact g4 j (by omega))) (Nat.le_of_ble_eq_true rfl) ?_
            intro hk3 hy
            obtain ⟨nx2, nd2, y1, y2⟩ := hy
            refine q_iconst (v := nI 1) G (pc := 91) dX8_readWord_91 (by decide) ?_
            refine q_iret G (pc := 92) dX8_readWord_92 (Or.inr ⟨rfl, by decide⟩) ?_
            refine ⟨rfl, _, rfl, Or.inr ⟨rfl, ⟨c9, by omega, g6all⟩, gR.keep (y2 1 (by omega)) (y2 2 (by omega)), ⟨nx2, nd2, y1⟩, fun c hc => ?_⟩⟩
            rw [y2 c (by simp at hc; omega)]
            exact g5 c (by simp at hc ⊢; omega)
          · refine q_aload_n G (pc := 43) dX8_readWord_43 rfl ?_
            refine q_getR (x := 2) G (pc := 44) dX8_readWord_44 fl_X8_9_8 rfl (hg hτ (hf_8_1 rfl)) ?_
            refine q_aload_n G (pc := 47) dX8_readWord_47 rfl ?_
            refine q_getI (v := nI ((skp b N (tke b N q)))) G (pc := 48) dX8_readWord_48 fl_X8_37_8 (by decide) rfl gR.2.1 ?_
            refine q_iload_n G (pc := 51) dX8_readWord_51 rfl ?_
            refine q_iaddN G (pc := 52) dX8_readWord_52 ?_
            have hri := tke_row (j := (skp b N (tke b N q)) + i) c9 (by omega) (by omega)
            refine q_iald (j := (skp b N (tke b N q)) + i) (v := nI (b ((skp b N (tke b N q)) + i))) G (pc := 53) dX8_readWord_53 rfl rfl (by omega) (gR.1.2.2.1 _ hri.1) ?_
            refine q_cS1E G (pc := 54) dX8_readWord_54 cs_X8_63 (s_X8_signOf (by omega) hri.2) (Nat.le_of_ble_eq_true rfl) ?_
            have hc26 := cod_26 hri.2
            refine q_istore_n G (pc := 57) dX8_readWord_57 (by decide) ?_
            show X _ [_, _, _, _] _ _ _ _
            refine q_iload_n G (pc := 58) dX8_readWord_58 rfl ?_
            refine q_bipush (v := nI 26) G (pc := 59) dX8_readWord_59 (by decide) ?_
            refine q_icmp_neN (tgt := 66) G (pc := 61) dX8_readWord_61 (by decide) (by omega) (by omega) (fun c61 => ?_) (fun c61 => ?_)
            · refine q_aload_n G (pc := 66) dX8_readWord_66 rfl ?_
              refine q_iload_n G (pc := 67) dX8_readWord_67 rfl ?_
              refine q_iload_n G (pc := 68) dX8_readWord_68 rfl ?_
              refine q_cV2V G (pc := 69) dX8_readWord_69 cv_X8_71 hsh (s_X7_tellLetter (by omega) hτ hsh (W := (pW P).length) (i := i) gS.2.2.1 hW8 (by omega)) (Nat.le_of_ble_eq_true rfl) ?_
              intro hk3 hy
              subst hy
              refine q_iincN G (pc := 72) dX8_readWord_72 rfl (inc1 _) (by decide) ?_
              show X _ [_, _, _, _] _ _ _ _
              refine q_goto (tgt := 30) G (pc := 75) dX8_readWord_75 (by decide) ?_
              have x3 : fr [sh + 1] hk (mm_up2 hk (sh + 1) ((pW P).length * 6 + i) (nI (cod (b ((skp b N (tke b N q)) + i))))) := fun c hc => by simp at hc; simp [va_up, hc]
              refine ih30 (i + 1) _ _ (by omega) (by omega) (gR.keep (x3 1 (by simp <;> omega)) (x3 2 (by simp <;> omega))) (sh_let gS) (fun j hj => ?_) (fun j hj => ?_) (g5.trans (fun c hc => x3 c (by simp at hc ⊢; omega)))
              · by_cases e : j = i
                · subst e; simp [va_up]
                · simp [va_up, e]; exact g4 j (by omega)
              · by_cases e : j = i
                · subst e; exact c61
                · exact g6 j (by omega)
            · refine q_iconst (v := nI 0) G (pc := 64) dX8_readWord_64 (by decide) ?_
              refine q_iret G (pc := 65) dX8_readWord_65 (Or.inr ⟨rfl, by decide⟩) ?_
              exact ⟨rfl, _, rfl, Or.inl ⟨rfl, fun z => z.2.2 i (by omega) c61, gR, g5⟩⟩
      exact L30 _ 0 hk _ (Nat.lt_succ_self _) (by omega) x1 hsN (fun j hj => absurd hj (Nat.not_lt_zero _)) (fun j hj => absurd hj (Nat.not_lt_zero _)) (fun c hc => x2 c (by simp at hc ⊢; omega))
    · refine q_iconst (v := nI 0) G (pc := 26) dX8_readWord_26 (by decide) ?_
      refine q_iret G (pc := 27) dX8_readWord_27 (Or.inr ⟨rfl, by decide⟩) ?_
      exact ⟨rfl, _, rfl, Or.inl ⟨rfl, fun z => absurd z.2.1 (by omega), x1, fun c hc => x2 c (by simp at hc ⊢; omega)⟩⟩
