/-! the walks through orders -/
def isW (cw : Nat) : Prop := cw = 0 ∨ cw = 3 ∨ cw = 5
theorem ly_w_0 {c cw : Nat} (h : mm_lay c = (0, cw)) (hcw : isW cw) : mm_lay (c + 1) = (0, 6) := by rcases hcw with rfl | rfl | rfl; exact ly_0_0 h; exact ly_3_0 h; exact ly_5_0 h
theorem hf_w_0 {sw : Bool} {c cw : Nat} (h : mm_lay c = (0, cw)) (hcw : isW cw) : mm_hr sw c 0 = some (c + 1) := by rcases hcw with rfl | rfl | rfl; exact hf_0_0 h; exact hf_3_0 h; exact hf_5_0 h
theorem ly_w_3 {c cw : Nat} (h : mm_lay c = (0, cw)) (hcw : isW cw) : mm_lay (c + 3) = (1, 21) := by rcases hcw with rfl | rfl | rfl; exact ly_0_3 h; exact ly_3_3 h; exact ly_5_3 h
theorem hf_w_3 {sw : Bool} {c cw : Nat} (h : mm_lay c = (0, cw)) (hcw : isW cw) : mm_hr sw c 3 = some (c + 3) := by rcases hcw with rfl | rfl | rfl; exact hf_0_3 h; exact hf_3_3 h; exact hf_5_3 h
theorem flw_12 {cw : Nat} (hcw : isW cw) : mm_FL RX9 12 cw 0 1 true true := by rcases hcw with rfl | rfl | rfl; exact fl_X9_12_0; exact fl_X9_12_3; exact fl_X9_12_5
theorem flw_22 {cw : Nat} (hcw : isW cw) : mm_FL RX9 22 cw 1 3 true true := by rcases hcw with rfl | rfl | rfl; exact fl_X9_22_0; exact fl_X9_22_3; exact fl_X9_22_5
theorem flw_26 {cw : Nat} (hcw : isW cw) : mm_FL RX9 26 cw 2 3 true true := by rcases hcw with rfl | rfl | rfl; exact fl_X9_26_0; exact fl_X9_26_3; exact fl_X9_26_5
theorem flw_18 {cw : Nat} (hcw : isW cw) : mm_FL RX9 18 cw 3 1 true true := by rcases hcw with rfl | rfl | rfl; exact fl_X9_18_0; exact fl_X9_18_3; exact fl_X9_18_5
theorem cuw_42 {cw : Nat} (hcw : isW cw) : mm_CU RX9 42 yX9_lengthen 4 cw := by rcases hcw with rfl | rfl | rfl; exact cu_X9_42_0; exact cu_X9_42_3; exact cu_X9_42_5
theorem cuw_50 {cw : Nat} (hcw : isW cw) : mm_CU RX9 50 yX9_endsRight 2 cw := by rcases hcw with rfl | rfl | rfl; exact cu_X9_50_0; exact cu_X9_50_3; exact cu_X9_50_5
theorem cuw_63 {cw : Nat} (hcw : isW cw) : mm_CU RX9 63 yX9_mayLie 2 cw := by rcases hcw with rfl | rfl | rfl; exact cu_X9_63_0; exact cu_X9_63_3; exact cu_X9_63_5
theorem cuw_67 {cw : Nat} (hcw : isW cw) : mm_CU RX9 67 yX9_goesOn 4 cw := by rcases hcw with rfl | rfl | rfl; exact cu_X9_67_0; exact cu_X9_67_3; exact cu_X9_67_5
def nod (nx : Nat → Nat → Nat) (P : PG) (pr : List (Nat × Nat)) (l : Nat) : Nat := pr.foldl (fun a q => nx (nx a (shW P q.2 q.1 l 0)) (shW P q.2 q.1 l 1)) 1
def numP (pr : List (Nat × Nat)) : Nat := pr.foldl (fun a q => a * 10 + q.1 + 1) 0
def endB (nx : Nat → Nat → Nat) (P : PG) (pr : List (Nat × Nat)) : Bool := (List.range (pL P)).all (fun l => nx (nod nx P pr l) 26 == 1)
def livB (nx : Nat → Nat → Nat) (P : PG) (pr : List (Nat × Nat)) : Bool := (List.range (pL P)).all (fun l => nod nx P pr l != 0)
def lvs (bw ro : Nat) (nx : Nat → Nat → Nat) (P : PG) (t0 : Nat) : Nat → List (Nat × Nat) → Nat → List (List (Nat × Nat))
  | 0, pr, _ => if ro = 0 ∨ endB nx P pr = true then [pr] else []
  | r + 1, pr, lf => (List.range (pS P)).flatMap (fun s => (List.range 2).flatMap (fun w => if lf / 2 ^ s % 2 = 1 ∧ (bw = 1 ∨ t0 / 2 ^ s % 2 = w) ∧ (ro = 0 ∨ livB nx P (pr ++ [(s, w)]) = true) then lvs bw ro nx P t0 r (pr ++ [(s, w)]) (stb lf s 0) else []))
/-- the branch of strip s, way w; those of all ways below w; those of all strips below s -/
def lvb (bw ro : Nat) (nx : Nat → Nat → Nat) (P : PG) (t0 r : Nat) (pr : List (Nat × Nat)) (lf s w : Nat) : List (List (Nat × Nat)) := if lf / 2 ^ s % 2 = 1 ∧ (bw = 1 ∨ t0 / 2 ^ s % 2 = w) ∧ (ro = 0 ∨ livB nx P (pr ++ [(s, w)]) = true) then lvs bw ro nx P t0 r (pr ++ [(s, w)]) (stb lf s 0) else []
def lvw (bw ro : Nat) (nx : Nat → Nat → Nat) (P : PG) (t0 r : Nat) (pr : List (Nat × Nat)) (lf s w : Nat) : List (List (Nat × Nat)) := (List.range w).flatMap (lvb bw ro nx P t0 r pr lf s)
def lvt (bw ro : Nat) (nx : Nat → Nat → Nat) (P : PG) (t0 r : Nat) (pr : List (Nat × Nat)) (lf s : Nat) : List (List (Nat × Nat)) := (List.range s).flatMap (fun s => lvw bw ro nx P t0 r pr lf s 2)
theorem lvw_s (bw ro : Nat) (nx : Nat → Nat → Nat) (P : PG) (t0 r : Nat) (pr : List (Nat × Nat)) (lf s w : Nat) : lvw bw ro nx P t0 r pr lf s (w + 1) = lvw bw ro nx P t0 r pr lf s w ++ lvb bw ro nx P t0 r pr lf s w := by
  unfold lvw
  rw [List.range_succ, List.flatMap_append]
  simp
theorem lvt_s (bw ro : Nat) (nx : Nat → Nat → Nat) (P : PG) (t0 r : Nat) (pr : List (Nat × Nat)) (lf s : Nat) : lvt bw ro nx P t0 r pr lf (s + 1) = lvt bw ro nx P t0 r pr lf s ++ lvw bw ro nx P t0 r pr lf s 2 := by
  unfold lvt
  rw [List.range_succ, List.flatMap_append]
  simp
theorem lvs_eq (bw ro : Nat) (nx : Nat → Nat → Nat) (P : PG) (t0 r : Nat) (pr : List (Nat × Nat)) (lf : Nat) : lvs bw ro nx P t0 (r + 1) pr lf = lvt bw ro nx P t0 r pr lf (pS P) := rfl
theorem nod_s (nx : Nat → Nat → Nat) (P : PG) (pr : List (Nat × Nat)) (s w l : Nat) : nod nx P (pr ++ [(s, w)]) l = nx (nx (nod nx P pr l) (shW P w s l 0)) (shW P w s l 1) := by
  unfold nod
  rw [List.foldl_append]
  rfl
theorem numP_s (pr : List (Nat × Nat)) (s w : Nat) : numP (pr ++ [(s, w)]) = numP pr * 10 + s + 1 := by
  unfold numP
  rw [List.foldl_append]
  rfl
theorem nod_lt {nx : Nat → Nat → Nat} {nd : Nat} {WL : List (List Nat)} (h : trOK nx nd WL) (P : PG) (pr : List (Nat × Nat)) (l : Nat) : nod nx P pr l < nd := by
  rcases List.eq_nil_or_concat pr with rfl | ⟨q, ⟨s, w⟩, rfl⟩
  · have := h.1; show 1 < nd; omega
  · rw [List.concat_eq_append, nod_s]; exact h.2.1 _ _
theorem bit_clr : ∀ t, t < 64 → ∀ s, s < 6 → nI t &&& ((1 : Int32) <<< (nI s &&& 31) ^^^ (-1)) = nI (stb t s 0) ∧ stb t s 0 < 64 := by decide +kernel
theorem stb_bit : ∀ t, t < 64 → ∀ s, s < 6 → ∀ w, w < 2 → ∀ q, q < 6 → stb t s w / 2 ^ q % 2 = if q = s then w else t / 2 ^ q % 2 := by decide +kernel
theorem stb_id : ∀ t, t < 64 → ∀ s, s < 6 → stb t s (t / 2 ^ s % 2) = t := by decide +kernel
/-- where a walk stands: behind the prefix pr of an order of m strips -/
def wkF (hi : mm_HI) (wk m : Nat) (pr : List (Nat × Nat)) (t0 bw ro : Nat) (P : PG) (nx : Nat → Nat → Nat) : Prop :=
  (∃ (f : Nat → Nat) (t : Nat), rowF hi (wk + 1) m f t ∧ (∀ j, j < m → f j < pS P) ∧ (∀ j, j < pr.length → f j = (pr.getD j (0, 0)).1) ∧ (∀ q ∈ pr, t / 2 ^ q.1 % 2 = q.2) ∧ (bw = 0 → t = t0)) ∧ (ro = 1 → ∀ j l, j ≤ pr.length → l < pL P → hi (wk + 3) (j * 3 + l) = nI (nod nx P (pr.take j) l)) ∧ hi wk 1 = nI bw ∧ hi wk 2 = nI ro
theorem wkF.drop {hi : mm_HI} {wk m t0 bw ro : Nat} {pr : List (Nat × Nat)} {q : Nat × Nat} {P : PG} {nx : Nat → Nat → Nat} (h : wkF hi wk m (pr ++ [q]) t0 bw ro P nx) : wkF hi wk m pr t0 bw ro P nx := by
  obtain ⟨⟨f, t, a1, a2, a3, a4, a5⟩, a6, a7, a8⟩ := h
  refine ⟨⟨f, t, a1, a2, fun j hj => ?_, fun z hz => a4 z (List.mem_append_left _ hz), a5⟩, fun hr j l hj hl => ?_, a7, a8⟩
  · rw [a3 j (by simp; omega), List.getD_eq_getElem?_getD, List.getD_eq_getElem?_getD, List.getElem?_append_left hj]
  · rw [a6 hr j l (by simp; omega) hl, List.take_append_of_le_length hj]
theorem wkF.keep {x y : mm_HI} {wk m t0 bw ro : Nat} {pr : List (Nat × Nat)} {P : PG} {nx : Nat → Nat → Nat} (h : wkF x wk m pr t0 bw ro P nx) (h1 : y (wk + 1) = x (wk + 1)) (h2 : y (wk + 2) = x (wk + 2)) (h3 : y (wk + 3) = x (wk + 3)) (h4 : y wk 1 = x wk 1) (h5 : y wk 2 = x wk 2) : wkF y wk m pr t0 bw ro P nx := by
  obtain ⟨⟨f, t, a1, a2⟩, a6, a7, a8⟩ := h
  exact ⟨⟨f, t, a1.keep h1 h2, a2⟩, fun hr j l hj hl => by rw [h3]; exact a6 hr j l hj hl, by rw [h4]; exact a7, by rw [h5]; exact a8⟩
def wen (wk : Nat) : Nat := if wk = 95 then 99 else wk + 7
theorem wen_bd (wk : Nat) : wk + 4 ≤ wen wk ∧ wen wk ≤ wk + 7 := by unfold wen; split <;> omega
theorem wen_5 {x : Nat} (h : mm_lay x = (0, 5)) : wen x = x + 7 := by
  refine if_neg (fun q => ?_)
  subst q
  cases h
theorem wen_0 {x : Nat} (h : mm_lay x = (0, 0)) : wen x = x + 7 := by
  refine if_neg (fun q => ?_)
  subst q
  cases h
theorem lyW {x cw : Nat} (h : mm_lay x = (0, cw)) (hcw : isW cw) : x = 88 ∨ x = 95 ∨ x = 99 := by
  have a : ∀ x, x < 125 → (mm_lay x = (0, 0) ∨ mm_lay x = (0, 3) ∨ mm_lay x = (0, 5)) → x = 88 ∨ x = 95 ∨ x = 99 := by decide +kernel
  refine a x (ly_lt h (by decide)) ?_
  rcases hcw with rfl | rfl | rfl
  · exact Or.inl h
  · exact Or.inr (Or.inl h)
  · exact Or.inr (Or.inr h)
theorem shF.frr {x y : mm_HI} {sh nd a b : Nat} {P : PG} {nx : Nat → Nat → Nat} (h : shF x sh P nx nd) (hsh : mm_lay sh = (0, 7)) (hf : frr a b x y) (ha : 15 ≤ a) : shF y sh P nx nd := h.keep (fun c h1 h2 => hf c (by have := ly7 hsh; omega))
set_option maxHeartbeats 2000000 in
theorem s_X9_mayLie {d : Nat} (hd : 2 ≤ d) {hi : mm_HI} {τ : mm_T} {sw : Bool} (hτ : τ.1 = mm_hr sw) {wk cw : Nat} (hwk : mm_lay wk = (0, cw)) (hcw : isW cw) {bw m t s w : Nat} {f : Nat → Nat} (hr : rowF hi (wk + 1) m f t) (w2 : hi wk 1 = nI bw) (hb2 : bw < 2) (hs : s < 6) (hw : w < 2) : wB d yX9_mayLie [.ref wk, .int (nI s), .int (nI w)] hi τ (bw = 1 ∨ t / 2 ^ s % 2 = w) := by
  refine w_intro (by omega) M_X9_mayLie (Nat.le_of_ble_eq_true rfl) rfl ?_
  intro e X he G
  show X 0 [some (.ref (wk)), some (.int (nI (s))), some (.int (nI (w)))] [] hi τ 125
  refine q_aload_n G (pc := 0) dX9_mayLie_0 rfl ?_
  refine q_getI (v := nI (bw)) G (pc := 1) dX9_mayLie_1 (flw_22 hcw) (by decide) hwk w2 ?_
  refine q_if_neN (tgt := 19) G (pc := 4) dX9_mayLie_4 (by decide) (by omega) (fun c4 => ?_) (fun c4 => ?_)
  · have hb : bw = 1 := by omega
    refine q_iconst (v := nI 1) G (pc := 19) dX9_mayLie_19 (by decide) ?_
    refine q_goto (tgt := 24) G (pc := 20) dX9_mayLie_20 (by decide) ?_
    refine q_iret G (pc := 24) dX9_mayLie_24 (Or.inr ⟨rfl, by decide⟩) ?_
    exact ⟨rfl, rfl, Or.inl ⟨Or.inl hb, rfl⟩⟩
  · have hb : bw = 0 := by omega
    refine q_aload_n G (pc := 7) dX9_mayLie_7 rfl ?_
    refine q_getR (x := wk + 1) G (pc := 8) dX9_mayLie_8 (flw_12 hcw) hwk (hg hτ (hf_w_0 hwk hcw)) ?_
    refine q_iload_n G (pc := 11) dX9_mayLie_11 rfl ?_
    refine q_cV1E G (pc := 12) dX9_mayLie_12 cv_X9_75 (ly_w_0 hwk hcw) (s_X6_wayOf (by omega) hτ (ly_w_0 hwk hcw) hr (s := s) (by omega)) (Nat.le_of_ble_eq_true rfl) ?_
    refine q_iload_n G (pc := 15) dX9_mayLie_15 rfl ?_
    refine q_icmp_neN (tgt := 23) G (pc := 16) dX9_mayLie_16 (by decide) (by omega) (by omega) (fun c16 => ?_) (fun c16 => ?_)
    · refine q_iconst (v := nI 0) G (pc := 23) dX9_mayLie_23 (by decide) ?_
      refine q_iret G (pc := 24) dX9_mayLie_24 (Or.inr ⟨rfl, by decide⟩) ?_
      exact ⟨rfl, rfl, Or.inr ⟨fun q => by rcases q with q | q; omega; exact c16 q, rfl⟩⟩
    · refine q_iconst (v := nI 1) G (pc := 19) dX9_mayLie_19 (by decide) ?_
      refine q_goto (tgt := 24) G (pc := 20) dX9_mayLie_20 (by decide) ?_
      refine q_iret G (pc := 24) dX9_mayLie_24 (Or.inr ⟨rfl, by decide⟩) ?_
      exact ⟨rfl, rfl, Or.inl ⟨Or.inr c16, rfl⟩⟩
set_option maxHeartbeats 2000000 in
theorem s_X9_goesOn {d : Nat} (hd : 3 ≤ d) {hi : mm_HI} {τ : mm_T} {sw : Bool} (hτ : τ.1 = mm_hr sw) {wk cw : Nat} (hwk : mm_lay wk = (0, cw)) (hcw : isW cw) {ro s w : Nat} {pr : List (Nat × Nat)} {P : PG} {nx : Nat → Nat → Nat} {sh nd : Nat} (hsh : mm_lay sh = (0, 7)) (hS : shF hi sh P nx nd) (w3 : hi wk 2 = nI ro) (hro2 : ro < 2) (hp : pr.length < 6) (hs : s < pS P) (hw : w < 2) (hnd : ro = 1 → ∀ l, l < pL P → hi (wk + 3) (pr.length * 3 + l) = nI (nod nx P pr l)) : wI d yX9_goesOn [.ref wk, .ref sh, .int (nI pr.length), .int (nI s), .int (nI w)] hi τ (fun x h => (x = nI 1 ∧ ((ro = 0 ∧ h = hi) ∨ (ro = 1 ∧ livB nx P (pr ++ [(s, w)]) = true ∧ (∀ l, l < pL P → h (wk + 3) (pr.length * 3 + 3 + l) = nI (nod nx P (pr ++ [(s, w)]) l)) ∧ fr [wk + 3] hi h ∧ ∀ j, j < pr.length * 3 + 3 → h (wk + 3) j = hi (wk + 3) j))) ∨ (x = nI 0 ∧ ro = 1 ∧ livB nx P (pr ++ [(s, w)]) = false ∧ fr [wk + 3] hi h ∧ ∀ j, j < pr.length * 3 + 3 → h (wk + 3) j = hi (wk + 3) j)) := by
  refine w_intro (by omega) M_X9_goesOn (Nat.le_of_ble_eq_true rfl) rfl ?_
  intro e X he G
  show X 0 [some (.ref (wk)), some (.ref (sh)), some (.int (nI (pr.length))), some (.int (nI (s))), some (.int (nI (w))), none, none, none] [] hi τ 125
  obtain ⟨f1, f2, f3, f4, f5, f6, f7, f8, f9⟩ := id hS
  obtain ⟨o1, o2, o3, o4, o5, o6⟩ := id f4
  have hd50 := f7.2.1
  have hw7 := lyW hwk hcw
  have hs7 := ly7 hsh
  refine q_aload_n G (pc := 0) dX9_goesOn_0 rfl ?_
  refine q_getI (v := nI (ro)) G (pc := 1) dX9_goesOn_1 (flw_26 hcw) (by decide) hwk w3 ?_
  refine q_if_neN (tgt := 9) G (pc := 4) dX9_goesOn_4 (by decide) (by omega) (fun c4 => ?_) (fun c4 => ?_)
  · have hro : ro = 1 := by omega
    refine q_iload_n G (pc := 9) dX9_goesOn_9 rfl ?_
    refine q_iconst (v := nI 3) G (pc := 10) dX9_goesOn_10 (by decide) ?_
    refine q_imulN G (pc := 11) dX9_goesOn_11 ?_
    refine q_istore G (pc := 12) dX9_goesOn_12 (by decide) ?_
    show X _ [_, _, _, _, _, _, _, _] _ _ _ _
    refine q_iconst (v := nI 0) G (pc := 14) dX9_goesOn_14 (by decide) ?_
    refine q_istore G (pc := 15) dX9_goesOn_15 (by decide) ?_
    show X _ [_, _, _, _, _, _, _, _] _ _ _ _
    have L17 : ∀ (zz : Nat) (l : Nat) (hk : mm_HI) (v7 : Option Value), pL P - l < zz → l ≤ pL P → shF hk sh P nx nd → (∀ z, z < pL P → hk (wk + 3) (pr.length * 3 + z) = nI (nod nx P pr z)) → fr [wk + 3] hi hk → (∀ j, j < pr.length * 3 + 3 → hk (wk + 3) j = hi (wk + 3) j) → (∀ z, z < l → hk (wk + 3) (pr.length * 3 + 3 + z) = nI (nod nx P (pr ++ [(s, w)]) z) ∧ nod nx P (pr ++ [(s, w)]) z ≠ 0) → X 17 [some (.ref (wk)), some (.ref (sh)), some (.int (nI (pr.length))), some (.int (nI (s))), some (.int (nI (w))), some (.int (nI (pr.length * 3))), some (.int (nI (l))), v7] [] hk τ 125 := by
      intro zz
      induction zz with
      | zero => intro l hk v7 hm; exact absurd hm (Nat.not_lt_zero _)
      | succ zz ih17 =>
        intro l hk v7 hm h0 g2 g3 g4 g5 g6
        refine q_iload G (pc := 17) dX9_goesOn_17 rfl ?_
        refine q_aload_n G (pc := 19) dX9_goesOn_19 rfl ?_
        refine q_getI (v := nI (pL P)) G (pc := 20) dX9_goesOn_20 fl_X9_79_7 (by decide) hsh g2.1 ?_
        refine q_icmp_geN (tgt := 74) G (pc := 23) dX9_goesOn_23 (by decide) (by omega) (by omega) (fun c23 => ?_) (fun c23 => ?_)
        · refine q_iconst (v := nI 1) G (pc := 74) dX9_goesOn_74 (by decide) ?_
          refine q_iret G (pc := 75) dX9_goesOn_75 (Or.inr ⟨rfl, by decide⟩) ?_
          exact ⟨rfl, _, rfl, Or.inl ⟨rfl, Or.inr ⟨hro, (by unfold livB; rw [List.all_eq_true]; intro z hz; have := g6 z (by have := List.mem_range.mp hz; omega); simp [this.2]), fun z hz => (g6 z (by omega)).1, g4, fun j hj => g5 j (by omega)⟩⟩⟩
        · refine q_aload_n G (pc := 26) dX9_goesOn_26 rfl ?_
          refine q_aload_n G (pc := 27) dX9_goesOn_27 rfl ?_
          refine q_getR (x := wk + 3) G (pc := 28) dX9_goesOn_28 (flw_18 hcw) hwk (hg hτ (hf_w_3 hwk hcw)) ?_
          refine q_iload G (pc := 31) dX9_goesOn_31 rfl ?_
          refine q_iload G (pc := 33) dX9_goesOn_33 rfl ?_
          refine q_iaddN G (pc := 35) dX9_goesOn_35 ?_
          refine q_iald (j := pr.length * 3 + l) (v := nI (nod nx P pr l)) G (pc := 36) dX9_goesOn_36 (ly_w_3 hwk hcw) rfl (by omega) (g3 l (by omega)) ?_
          refine q_iload_n G (pc := 37) dX9_goesOn_37 rfl ?_
          refine q_iload G (pc := 38) dX9_goesOn_38 rfl ?_
          refine q_iload G (pc := 40) dX9_goesOn_40 rfl ?_
          refine q_cV4E G (pc := 42) dX9_goesOn_42 cv_X9_82 hsh (s_X7_pass (by omega) hτ hsh g2 (a := nod nx P pr l) (s := s) (w := w) (l := l) (by have := nod_lt f8 P pr l; omega) hs hw (by omega)) (Nat.le_of_ble_eq_true rfl) ?_
          rw [← nod_s nx P pr s w l]
          have hnl := nod_lt f8 P (pr ++ [(s, w)]) l
          refine q_istore G (pc := 45) dX9_goesOn_45 (by decide) ?_
          show X _ [_, _, _, _, _, _, _, _] _ _ _ _
          refine q_iload G (pc := 47) dX9_goesOn_47 rfl ?_
          refine q_if_neN (tgt := 54) G (pc := 49) dX9_goesOn_49 (by decide) (by omega) (fun c49 => ?_) (fun c49 => ?_)
          · refine q_aload_n G (pc := 54) dX9_goesOn_54 rfl ?_
            refine q_getR (x := wk + 3) G (pc := 55) dX9_goesOn_55 (flw_18 hcw) hwk (hg hτ (hf_w_3 hwk hcw)) ?_
            refine q_iload G (pc := 58) dX9_goesOn_58 rfl ?_
            refine q_iconst (v := nI 3) G (pc := 60) dX9_goesOn_60 (by decide) ?_
            refine q_iaddN G (pc := 61) dX9_goesOn_61 ?_
            refine q_iload G (pc := 62) dX9_goesOn_62 rfl ?_
            refine q_iaddN G (pc := 64) dX9_goesOn_64 ?_
            refine q_iload G (pc := 65) dX9_goesOn_65 rfl ?_
            refine q_iast (j := pr.length * 3 + 3 + l) G (pc := 67) dX9_goesOn_67 (ly_w_3 hwk hcw) rfl (by omega) ?_
            refine q_iincN G (pc := 68) dX9_goesOn_68 rfl (inc1 _) (by decide) ?_
            show X _ [_, _, _, _, _, _, _, _] _ _ _ _
            refine q_goto (tgt := 17) G (pc := 71) dX9_goesOn_71 (by decide) ?_
            have x2 : fr [wk + 3] hk (mm_up2 hk (wk + 3) (pr.length * 3 + 3 + l) (nI (nod nx P (pr ++ [(s, w)]) l))) := fun c hc => by simp at hc; simp [va_up, hc]
            refine ih17 (l + 1) _ _ (by omega) (by omega) (g2.keep (fun c h1 h2 => x2 c (by simp; omega))) (fun z hz => ?_) (g4.trans x2) (fun j hj => ?_) (fun z hz => ?_)
            · simp [va_up, show pr.length * 3 + z ≠ pr.length * 3 + 3 + l by omega]; exact g3 z hz
            · simp [va_up, show j ≠ pr.length * 3 + 3 + l by omega]; exact g5 j hj
            · by_cases q : z = l
              · subst q; exact ⟨by simp [va_up], c49⟩
              · simp [va_up, q]; exact g6 z (by omega)
          · refine q_iconst (v := nI 0) G (pc := 52) dX9_goesOn_52 (by decide) ?_
            refine q_iret G (pc := 53) dX9_goesOn_53 (Or.inr ⟨rfl, by decide⟩) ?_
            exact ⟨rfl, _, rfl, Or.inr ⟨rfl, hro, by unfold livB; rw [List.all_eq_false]; exact ⟨l, List.mem_range.mpr (by omega), by simp [c49]⟩, g4, fun j hj => g5 j (by omega)⟩⟩
    exact L17 _ 0 hi _ (Nat.lt_succ_self _) (by omega) hS (fun z hz => by have e := hnd hro z hz; exact e) fr.rf (fun j hj => rfl) (fun z hz => absurd hz (Nat.not_lt_zero _))
  · have hro : ro = 0 := by omega
    refine q_iconst (v := nI 1) G (pc := 7) dX9_goesOn_7 (by decide) ?_
    refine q_iret G (pc := 8) dX9_goesOn_8 (Or.inr ⟨rfl, by decide⟩) ?_
    exact ⟨rfl, _, rfl, Or.inl ⟨rfl, Or.inl ⟨hro, rfl⟩⟩⟩
theorem endB_at {nx : Nat → Nat → Nat} {P : PG} {pr : List (Nat × Nat)} {l : Nat} (h : endB nx P pr = true) (hl : l < pL P) : nx (nod nx P pr l) 26 = 1 := by
  unfold endB at h
  have := List.all_eq_true.mp h l (List.mem_range.mpr hl)
  simpa using this
theorem endB_of {nx : Nat → Nat → Nat} {P : PG} {pr : List (Nat × Nat)} (h : ∀ l, l < pL P → nx (nod nx P pr l) 26 = 1) : endB nx P pr = true := by
  unfold endB
  rw [List.all_eq_true]
  intro l hl
  simpa using h l (List.mem_range.mp hl)
set_option maxHeartbeats 2000000 in
theorem s_X9_endsRight {d : Nat} (hd : 2 ≤ d) {hi : mm_HI} {τ : mm_T} {sw : Bool} (hτ : τ.1 = mm_hr sw) {wk cw : Nat} (hwk : mm_lay wk = (0, cw)) (hcw : isW cw) {pr : List (Nat × Nat)} {P : PG} {nx : Nat → Nat → Nat} {sh nd : Nat} (hsh : mm_lay sh = (0, 7)) (hS : shF hi sh P nx nd) (hp : pr.length ≤ 6) (hnd : ∀ l, l < pL P → hi (wk + 3) (pr.length * 3 + l) = nI (nod nx P pr l)) : wB d yX9_endsRight [.ref wk, .ref sh, .int (nI pr.length)] hi τ (endB nx P pr = true) := by
  refine w_intro (by omega) M_X9_endsRight (Nat.le_of_ble_eq_true rfl) rfl ?_
  intro e X he G
  show X 0 [some (.ref (wk)), some (.ref (sh)), some (.int (nI (pr.length))), none, none] [] hi τ 125
  obtain ⟨f1, f2, f3, f4, f5, f6, f7, f8, f9⟩ := id hS
  obtain ⟨o1, o2, o3, o4, o5, o6⟩ := id f4
  have hd50 := f7.2.1
  refine q_iload_n G (pc := 0) dX9_endsRight_0 rfl ?_
  refine q_iconst (v := nI 3) G (pc := 1) dX9_endsRight_1 (by decide) ?_
  refine q_imulN G (pc := 2) dX9_endsRight_2 ?_
  refine q_istore_n G (pc := 3) dX9_endsRight_3 (by decide) ?_
  show X _ [_, _, _, _, _] _ _ _ _
  refine q_iconst (v := nI 0) G (pc := 4) dX9_endsRight_4 (by decide) ?_
  refine q_istore G (pc := 5) dX9_endsRight_5 (by decide) ?_
  show X _ [_, _, _, _, _] _ _ _ _
  have L7 : ∀ (zz : Nat) (l : Nat), pL P - l < zz → l ≤ pL P → (∀ z, z < l → nx (nod nx P pr z) 26 = 1) → X 7 [some (.ref (wk)), some (.ref (sh)), some (.int (nI (pr.length))), some (.int (nI (pr.length * 3))), some (.int (nI (l)))] [] hi τ 125 := by
    intro zz
    induction zz with
    | zero => intro l hm; exact absurd hm (Nat.not_lt_zero _)
    | succ zz ih7 =>
      intro l hm h0 g1
      refine q_iload G (pc := 7) dX9_endsRight_7 rfl ?_
      refine q_aload_n G (pc := 9) dX9_endsRight_9 rfl ?_
      refine q_getI (v := nI (pL P)) G (pc := 10) dX9_endsRight_10 fl_X9_79_7 (by decide) hsh f1 ?_
      refine q_icmp_geN (tgt := 43) G (pc := 13) dX9_endsRight_13 (by decide) (by omega) (by omega) (fun c13 => ?_) (fun c13 => ?_)
      · refine q_iconst (v := nI 1) G (pc := 43) dX9_endsRight_43 (by decide) ?_
        refine q_iret G (pc := 44) dX9_endsRight_44 (Or.inr ⟨rfl, by decide⟩) ?_
        exact ⟨rfl, rfl, Or.inl ⟨endB_of (fun z hz => g1 z (by omega)), rfl⟩⟩
      · refine q_aload_n G (pc := 16) dX9_endsRight_16 rfl ?_
        refine q_getR (x := sh + 3) G (pc := 17) dX9_endsRight_17 fl_X9_86_7 hsh (hg hτ (hf_7_5 hsh)) ?_
        refine q_aload_n G (pc := 20) dX9_endsRight_20 rfl ?_
        refine q_getR (x := wk + 3) G (pc := 21) dX9_endsRight_21 (flw_18 hcw) hwk (hg hτ (hf_w_3 hwk hcw)) ?_
        refine q_iload_n G (pc := 24) dX9_endsRight_24 rfl ?_
        refine q_iload G (pc := 25) dX9_endsRight_25 rfl ?_
        refine q_iaddN G (pc := 27) dX9_endsRight_27 ?_
        refine q_iald (j := pr.length * 3 + l) (v := nI (nod nx P pr l)) G (pc := 28) dX9_endsRight_28 (ly_w_3 hwk hcw) rfl (by omega) (hnd l (by omega)) ?_
        refine q_cV1B G (pc := 29) dX9_endsRight_29 cv_X9_90 (ly_7_5 hsh) (s_X2_endsAt (by omega) hτ (ly_7_5 hsh) f7 (a := nod nx P pr l) (by have := nod_lt f8 P pr l; omega) (by have := f8.2.1 (nod nx P pr l) 26; omega)) (Nat.le_of_ble_eq_true rfl) (fun c29 => ?_) (fun c29 => ?_)
        · refine q_if_neN (tgt := 37) G (pc := 32) dX9_endsRight_32 (by decide) (by omega) (fun _ => ?_) (fun c32 => absurd c32 (by decide))
          refine q_iincN G (pc := 37) dX9_endsRight_37 rfl (inc1 _) (by decide) ?_
          show X _ [_, _, _, _, _] _ _ _ _
          refine q_goto (tgt := 7) G (pc := 40) dX9_endsRight_40 (by decide) ?_
          exact ih7 (l + 1) (by omega) (by omega) (fun z hz => by by_cases q : z = l; subst q; exact c29; exact g1 z (by omega))
        · refine q_if_neN (tgt := 37) G (pc := 32) dX9_endsRight_32 (by decide) (by omega) (fun c32 => absurd c32 (by decide)) (fun _ => ?_)
          refine q_iconst (v := nI 0) G (pc := 35) dX9_endsRight_35 (by decide) ?_
          refine q_iret G (pc := 36) dX9_endsRight_36 (Or.inr ⟨rfl, by decide⟩) ?_
          exact ⟨rfl, rfl, Or.inr ⟨fun q => c29 (endB_at q (by omega)), rfl⟩⟩
  exact L7 _ 0 (Nat.lt_succ_self _) (by omega) (fun z hz => absurd hz (Nat.not_lt_zero _))
