/-! what the calls share -/
def byt (c : Nat) : Int32 := if c = 26 then nI 46 else nI (97 + c)
def pvO (f : Nat → Nat) (n s : Nat) : Int32 := plI (fnd f s n)
def roA (P : PG) (n : Nat) (f : Nat → Nat) (t : Nat) : ROS := roF n (pvO f n) (oL P t n (mskF f n))
def ewA (P : PG) (n : Nat) (f : Nat → Nat) : EWS := ewF (eL P n (mskF f n))
def boA (P : PG) (n : Nat) (f : Nat → Nat) (t : Nat) : BOS := boF P n (bL P t n (mskF f n))
abbrev rdA (P : PG) (n : Nat) (f : Nat → Nat) (t l : Nat) : RS := rdE (pW P) (sqF P f t l) (2 * n)
def rlM (P : PG) (n : Nat) (f : Nat → Nat) (t : Nat) : Nat → Nat
  | 0 => 0
  | l + 1 => rlM P n f t l ||| (if (rdA P n f t l).2.1 = (rdA P n f t l).1 then 2 ^ l else 0)
def rrM (P : PG) (n : Nat) (f : Nat → Nat) (t : Nat) : Nat → Nat
  | 0 => 0
  | l + 1 => rrM P n f t l + (rdA P n f t l).2.1
def b1 (x : Int32) : Int32 := x - ((x.toUInt32 >>> ((1 : Int32).toUInt32 &&& Int32.toUInt32 31)).toInt32 &&& 1431655765)
def b2 (x : Int32) : Int32 := (x &&& 858993459) + ((x.toUInt32 >>> ((2 : Int32).toUInt32 &&& Int32.toUInt32 31)).toInt32 &&& 858993459)
def b3 (x : Int32) : Int32 := (x + (x.toUInt32 >>> ((4 : Int32).toUInt32 &&& Int32.toUInt32 31)).toInt32) &&& 252645135
def b4 (x : Int32) : Int32 := x + (x.toUInt32 >>> ((8 : Int32).toUInt32 &&& Int32.toUInt32 31)).toInt32
def b5 (x : Int32) : Int32 := x + (x.toUInt32 >>> ((16 : Int32).toUInt32 &&& Int32.toUInt32 31)).toInt32
theorem bc_lem : ∀ m, m < 64 → b5 (b4 (b3 (b2 (b1 (nI m))))) &&& 63 = nI (pcn m) := by decide +kernel
theorem rlM_lt (P : PG) (n : Nat) (f : Nat → Nat) (t : Nat) : ∀ l, l ≤ 6 → rlM P n f t l < 64
  | 0, _ => by show (0 : Nat) < 64; decide
  | l + 1, hl => by
    have ih := rlM_lt P n f t l (by omega)
    unfold rlM
    split
    · exact bit_or_lt _ ih _ (by omega)
    · rw [Nat.or_zero]; exact ih
set_option maxHeartbeats 2000000 in
theorem s_bitCount {d : Nat} (hd : 1 ≤ d) {hi : mm_HI} {τ : mm_T} {m : Nat} (hm : m < 64) : wE d yJ6_bitCount_0f7a4 [.int (nI m)] hi τ (nI (pcn m)) := by
  refine w_intro (by omega) M_J6_bitCount_0f7a4 (Nat.le_of_ble_eq_true rfl) rfl ?_
  intro e X he G
  show X 0 [some (.int (nI (m)))] [] hi τ 125
  refine q_iload_n G (pc := 0) dJ6_bitCount_0f7a4_0 rfl ?_
  refine q_iload_n G (pc := 1) dJ6_bitCount_0f7a4_1 rfl ?_
  refine q_iconst (v := 1) G (pc := 2) dJ6_bitCount_0f7a4_2 (by decide) ?_
  refine q_iushr G (pc := 3) dJ6_bitCount_0f7a4_3 rfl ?_
  refine q_ldcw G (pc := 4) dJ6_bitCount_0f7a4_4 kc_J6_265 ?_
  refine q_iand G (pc := 7) dJ6_bitCount_0f7a4_7 ?_
  refine q_isub G (pc := 8) dJ6_bitCount_0f7a4_8 ?_
  refine q_istore_n G (pc := 9) dJ6_bitCount_0f7a4_9 (by decide) ?_
  show X _ [_] _ _ _ _
  refine q_iload_n G (pc := 10) dJ6_bitCount_0f7a4_10 rfl ?_
  refine q_ldcw G (pc := 11) dJ6_bitCount_0f7a4_11 kc_J6_266 ?_
  refine q_iand G (pc := 14) dJ6_bitCount_0f7a4_14 ?_
  refine q_iload_n G (pc := 15) dJ6_bitCount_0f7a4_15 rfl ?_
  refine q_iconst (v := 2) G (pc := 16) dJ6_bitCount_0f7a4_16 (by decide) ?_
  refine q_iushr G (pc := 17) dJ6_bitCount_0f7a4_17 rfl ?_
  refine q_ldcw G (pc := 18) dJ6_bitCount_0f7a4_18 kc_J6_266 ?_
  refine q_iand G (pc := 21) dJ6_bitCount_0f7a4_21 ?_
  refine q_iadd G (pc := 22) dJ6_bitCount_0f7a4_22 ?_
  refine q_istore_n G (pc := 23) dJ6_bitCount_0f7a4_23 (by decide) ?_
  show X _ [_] _ _ _ _
  refine q_iload_n G (pc := 24) dJ6_bitCount_0f7a4_24 rfl ?_
  refine q_iload_n G (pc := 25) dJ6_bitCount_0f7a4_25 rfl ?_
  refine q_iconst (v := 4) G (pc := 26) dJ6_bitCount_0f7a4_26 (by decide) ?_
  refine q_iushr G (pc := 27) dJ6_bitCount_0f7a4_27 rfl ?_
  refine q_iadd G (pc := 28) dJ6_bitCount_0f7a4_28 ?_
  refine q_ldcw G (pc := 29) dJ6_bitCount_0f7a4_29 kc_J6_267 ?_
  refine q_iand G (pc := 32) dJ6_bitCount_0f7a4_32 ?_
  refine q_istore_n G (pc := 33) dJ6_bitCount_0f7a4_33 (by decide) ?_
  show X _ [_] _ _ _ _
  refine q_iload_n G (pc := 34) dJ6_bitCount_0f7a4_34 rfl ?_
  refine q_iload_n G (pc := 35) dJ6_bitCount_0f7a4_35 rfl ?_
  refine q_bipush (v := 8) G (pc := 36) dJ6_bitCount_0f7a4_36 (by decide) ?_
  refine q_iushr G (pc := 38) dJ6_bitCount_0f7a4_38 rfl ?_
  refine q_iadd G (pc := 39) dJ6_bitCount_0f7a4_39 ?_
  refine q_istore_n G (pc := 40) dJ6_bitCount_0f7a4_40 (by decide) ?_
  show X _ [_] _ _ _ _
  refine q_iload_n G (pc := 41) dJ6_bitCount_0f7a4_41 rfl ?_
  refine q_iload_n G (pc := 42) dJ6_bitCount_0f7a4_42 rfl ?_
  refine q_bipush (v := 16) G (pc := 43) dJ6_bitCount_0f7a4_43 (by decide) ?_
  refine q_iushr G (pc := 45) dJ6_bitCount_0f7a4_45 rfl ?_
  refine q_iadd G (pc := 46) dJ6_bitCount_0f7a4_46 ?_
  refine q_istore_n G (pc := 47) dJ6_bitCount_0f7a4_47 (by decide) ?_
  show X _ [_] _ _ _ _
  refine q_iload_n G (pc := 48) dJ6_bitCount_0f7a4_48 rfl ?_
  refine q_bipush (v := 63) G (pc := 49) dJ6_bitCount_0f7a4_49 (by decide) ?_
  refine q_iand G (pc := 51) dJ6_bitCount_0f7a4_51 ?_
  refine q_iret G (pc := 52) dJ6_bitCount_0f7a4_52 (Or.inl rfl) ?_
  exact ⟨rfl, rfl, congrArg (fun z => some (Value.int z)) (bc_lem m hm)⟩
set_option maxHeartbeats 2000000 in
theorem c_isStrip {d : Nat} (hd : 1 ≤ d) {hi : mm_HI} {τ : mm_T} {P : PG} {n : Nat} {f : Nat → Nat} {t K : Nat} {pn : Nat → Nat} {pf : Nat → Nat → Nat} {pt : Nat → Nat} {im : Nat → Option DK} {sl : List (Nat × Nat)} {N : Nat} {b : Nat → Nat} {tr : Int64} (hC : cS P n f t K pn pf pt im sl N b tr hi τ) {x : Int32} : wB d yX10_isStrip [.ref 0, .int x] hi τ (isI x (pS P)) := by
  refine w_intro (by omega) M_X10_isStrip (Nat.le_of_ble_eq_true rfl) rfl ?_
  intro e X he G
  show X 0 [some (.ref (0)), some (.int (x))] [] hi τ 125
  obtain ⟨sw, nx, nd, hτ, hS, hD, hV, hI, hIV, hN, hNO, hT, hFl, hE, hTr⟩ := id hC
  have hS6 := hS.2.2.2.1.2.2.1
  have hL3 : pL P ≤ 3 := hS.2.2.2.1.2.1
  have hn6 := hD.1.2.2.2.1
  have hRw : rowF hi 16 n f t := hD.1
  have hfs : ∀ j, j < n → f j < pS P := hV.1.1
  refine q_iload_n G (pc := 0) dX10_isStrip_0 rfl ?_
  refine q_if_lt (tgt := 19) G (pc := 1) dX10_isStrip_1 (by decide) (fun c1 => ?_) (fun c1 => ?_)
  · refine q_iconst (v := nI 0) G (pc := 19) dX10_isStrip_19 (by decide) ?_
    refine q_iret G (pc := 20) dX10_isStrip_20 (Or.inr ⟨rfl, by decide⟩) ?_
    exact ⟨rfl, rfl, Or.inr ⟨ix_n0 (by omega) c1, rfl⟩⟩
  · refine q_iload_n G (pc := 4) dX10_isStrip_4 rfl ?_
    refine q_aload_n G (pc := 5) dX10_isStrip_5 rfl ?_
    refine q_getR (x := mm_sh sw) G (pc := 6) dX10_isStrip_6 fl_X10_19_9 rfl (hg hτ (hf_sh sw)) ?_
    refine q_getI (v := nI (pS P)) G (pc := 9) dX10_isStrip_9 fl_X10_90_7 (by decide) (ly_sh sw) hS.2.1 ?_
    refine q_icmp_ge (tgt := 19) G (pc := 12) dX10_isStrip_12 (by decide) (fun c12 => ?_) (fun c12 => ?_)
    · refine q_iconst (v := nI 0) G (pc := 19) dX10_isStrip_19 (by decide) ?_
      refine q_iret G (pc := 20) dX10_isStrip_20 (Or.inr ⟨rfl, by decide⟩) ?_
      exact ⟨rfl, rfl, Or.inr ⟨ix_nn (by omega) c12, rfl⟩⟩
    · refine q_iconst (v := nI 1) G (pc := 15) dX10_isStrip_15 (by decide) ?_
      refine q_goto (tgt := 20) G (pc := 16) dX10_isStrip_16 (by decide) ?_
      refine q_iret G (pc := 20) dX10_isStrip_20 (Or.inr ⟨rfl, by decide⟩) ?_
      exact ⟨rfl, rfl, Or.inl ⟨ix_lt (by omega) c1 c12, rfl⟩⟩
set_option maxHeartbeats 2000000 in
theorem c_isLine {d : Nat} (hd : 1 ≤ d) {hi : mm_HI} {τ : mm_T} {P : PG} {n : Nat} {f : Nat → Nat} {t K : Nat} {pn : Nat → Nat} {pf : Nat → Nat → Nat} {pt : Nat → Nat} {im : Nat → Option DK} {sl : List (Nat × Nat)} {N : Nat} {b : Nat → Nat} {tr : Int64} (hC : cS P n f t K pn pf pt im sl N b tr hi τ) {x : Int32} : wB d yX10_isLine [.ref 0, .int x] hi τ (isI x (pL P)) := by
  refine w_intro (by omega) M_X10_isLine (Nat.le_of_ble_eq_true rfl) rfl ?_
  intro e X he G
  show X 0 [some (.ref (0)), some (.int (x))] [] hi τ 125
  obtain ⟨sw, nx, nd, hτ, hS, hD, hV, hI, hIV, hN, hNO, hT, hFl, hE, hTr⟩ := id hC
  have hS6 := hS.2.2.2.1.2.2.1
  have hL3 : pL P ≤ 3 := hS.2.2.2.1.2.1
  have hn6 := hD.1.2.2.2.1
  have hRw : rowF hi 16 n f t := hD.1
  have hfs : ∀ j, j < n → f j < pS P := hV.1.1
  refine q_iload_n G (pc := 0) dX10_isLine_0 rfl ?_
  refine q_if_lt (tgt := 19) G (pc := 1) dX10_isLine_1 (by decide) (fun c1 => ?_) (fun c1 => ?_)
  · refine q_iconst (v := nI 0) G (pc := 19) dX10_isLine_19 (by decide) ?_
    refine q_iret G (pc := 20) dX10_isLine_20 (Or.inr ⟨rfl, by decide⟩) ?_
    exact ⟨rfl, rfl, Or.inr ⟨ix_n0 (by omega) c1, rfl⟩⟩
  · refine q_iload_n G (pc := 4) dX10_isLine_4 rfl ?_
    refine q_aload_n G (pc := 5) dX10_isLine_5 rfl ?_
    refine q_getR (x := mm_sh sw) G (pc := 6) dX10_isLine_6 fl_X10_19_9 rfl (hg hτ (hf_sh sw)) ?_
    refine q_getI (v := nI (pL P)) G (pc := 9) dX10_isLine_9 fl_X10_288_7 (by decide) (ly_sh sw) hS.1 ?_
    refine q_icmp_ge (tgt := 19) G (pc := 12) dX10_isLine_12 (by decide) (fun c12 => ?_) (fun c12 => ?_)
    · refine q_iconst (v := nI 0) G (pc := 19) dX10_isLine_19 (by decide) ?_
      refine q_iret G (pc := 20) dX10_isLine_20 (Or.inr ⟨rfl, by decide⟩) ?_
      exact ⟨rfl, rfl, Or.inr ⟨ix_nn (by omega) c12, rfl⟩⟩
    · refine q_iconst (v := nI 1) G (pc := 15) dX10_isLine_15 (by decide) ?_
      refine q_goto (tgt := 20) G (pc := 16) dX10_isLine_16 (by decide) ?_
      refine q_iret G (pc := 20) dX10_isLine_20 (Or.inr ⟨rfl, by decide⟩) ?_
      exact ⟨rfl, rfl, Or.inl ⟨ix_lt (by omega) c1 c12, rfl⟩⟩
set_option maxHeartbeats 2000000 in
theorem c_isPlace {d : Nat} (hd : 1 ≤ d) {hi : mm_HI} {τ : mm_T} {P : PG} {n : Nat} {f : Nat → Nat} {t K : Nat} {pn : Nat → Nat} {pf : Nat → Nat → Nat} {pt : Nat → Nat} {im : Nat → Option DK} {sl : List (Nat × Nat)} {N : Nat} {b : Nat → Nat} {tr : Int64} (hC : cS P n f t K pn pf pt im sl N b tr hi τ) {x : Int32} : wB d yX10_isPlace [.ref 0, .int x] hi τ (isI x (n)) := by
  refine w_intro (by omega) M_X10_isPlace (Nat.le_of_ble_eq_true rfl) rfl ?_
  intro e X he G
  show X 0 [some (.ref (0)), some (.int (x))] [] hi τ 125
  obtain ⟨sw, nx, nd, hτ, hS, hD, hV, hI, hIV, hN, hNO, hT, hFl, hE, hTr⟩ := id hC
  have hS6 := hS.2.2.2.1.2.2.1
  have hL3 : pL P ≤ 3 := hS.2.2.2.1.2.1
  have hn6 := hD.1.2.2.2.1
  have hRw : rowF hi 16 n f t := hD.1
  have hfs : ∀ j, j < n → f j < pS P := hV.1.1
  refine q_iload_n G (pc := 0) dX10_isPlace_0 rfl ?_
  refine q_if_lt (tgt := 22) G (pc := 1) dX10_isPlace_1 (by decide) (fun c1 => ?_) (fun c1 => ?_)
  · refine q_iconst (v := nI 0) G (pc := 22) dX10_isPlace_22 (by decide) ?_
    refine q_iret G (pc := 23) dX10_isPlace_23 (Or.inr ⟨rfl, by decide⟩) ?_
    exact ⟨rfl, rfl, Or.inr ⟨ix_n0 (by omega) c1, rfl⟩⟩
  · refine q_iload_n G (pc := 4) dX10_isPlace_4 rfl ?_
    refine q_aload_n G (pc := 5) dX10_isPlace_5 rfl ?_
    refine q_getR (x := 15) G (pc := 6) dX10_isPlace_6 fl_X10_29_9 rfl (hg hτ (hf_9_3 rfl)) ?_
    refine q_getR (x := 16) G (pc := 9) dX10_isPlace_9 fl_X10_109_1 rfl (hg hτ (hf_1_0 rfl)) ?_
    refine q_getI (v := nI (n)) G (pc := 12) dX10_isPlace_12 fl_X10_182_6 (by decide) rfl hRw.1 ?_
    refine q_icmp_ge (tgt := 22) G (pc := 15) dX10_isPlace_15 (by decide) (fun c15 => ?_) (fun c15 => ?_)
    · refine q_iconst (v := nI 0) G (pc := 22) dX10_isPlace_22 (by decide) ?_
      refine q_iret G (pc := 23) dX10_isPlace_23 (Or.inr ⟨rfl, by decide⟩) ?_
      exact ⟨rfl, rfl, Or.inr ⟨ix_nn (by omega) c15, rfl⟩⟩
    · refine q_iconst (v := nI 1) G (pc := 18) dX10_isPlace_18 (by decide) ?_
      refine q_goto (tgt := 23) G (pc := 19) dX10_isPlace_19 (by decide) ?_
      refine q_iret G (pc := 23) dX10_isPlace_23 (Or.inr ⟨rfl, by decide⟩) ?_
      exact ⟨rfl, rfl, Or.inl ⟨ix_lt (by omega) c1 c15, rfl⟩⟩
set_option maxHeartbeats 2000000 in
theorem c_byteOf {d : Nat} (hd : 1 ≤ d) {hi : mm_HI} {τ : mm_T} {c : Nat} (hc : c ≤ 26) : wE d yX10_byteOf [.int (nI c)] hi τ (byt c) := by
  refine w_intro (by omega) M_X10_byteOf (Nat.le_of_ble_eq_true rfl) rfl ?_
  intro e X he G
  show X 0 [some (.int (nI (c)))] [] hi τ 125
  refine q_iload_n G (pc := 0) dX10_byteOf_0 rfl ?_
  refine q_bipush (v := nI 26) G (pc := 1) dX10_byteOf_1 (by decide) ?_
  refine q_icmp_neN (tgt := 11) G (pc := 3) dX10_byteOf_3 (by decide) (by omega) (by omega) (fun c3 => ?_) (fun c3 => ?_)
  · refine q_bipush (v := nI 97) G (pc := 11) dX10_byteOf_11 (by decide) ?_
    refine q_iload_n G (pc := 13) dX10_byteOf_13 rfl ?_
    refine q_iaddN G (pc := 14) dX10_byteOf_14 ?_
    refine q_iret G (pc := 15) dX10_byteOf_15 (Or.inl rfl) ?_
    exact ⟨rfl, rfl, by unfold byt; rw [if_neg c3]⟩
  · refine q_bipush (v := nI 46) G (pc := 6) dX10_byteOf_6 (by decide) ?_
    refine q_goto (tgt := 15) G (pc := 8) dX10_byteOf_8 (by decide) ?_
    refine q_iret G (pc := 15) dX10_byteOf_15 (Or.inl rfl) ?_
    exact ⟨rfl, rfl, by unfold byt; rw [if_pos c3]⟩
set_option maxHeartbeats 2000000 in
theorem c_rightLines {d : Nat} (hd : 4 ≤ d) {hi : mm_HI} {τ : mm_T} {P : PG} {n : Nat} {f : Nat → Nat} {t K : Nat} {pn : Nat → Nat} {pf : Nat → Nat → Nat} {pt : Nat → Nat} {im : Nat → Option DK} {sl : List (Nat × Nat)} {N : Nat} {b : Nat → Nat} {tr : Int64} (hC : cS P n f t K pn pf pt im sl N b tr hi τ) : wI d yX10_rightLines [.ref 0] hi τ (fun x h => x = nI (rlM P n f t (pL P)) ∧ scr hi h) := by
  refine w_intro (by omega) M_X10_rightLines (Nat.le_of_ble_eq_true rfl) rfl ?_
  intro e X he G
  show X 0 [some (.ref (0)), none, none] [] hi τ 125
  obtain ⟨sw, nx, nd, hτ, hS, hD, hV, hI, hIV, hN, hNO, hT, hFl, hE, hTr⟩ := id hC
  have hS6 := hS.2.2.2.1.2.2.1
  have hL3 : pL P ≤ 3 := hS.2.2.2.1.2.1
  have hn6 := hD.1.2.2.2.1
  have hRw : rowF hi 16 n f t := hD.1
  have hfs : ∀ j, j < n → f j < pS P := hV.1.1
  refine q_iconst (v := nI 0) G (pc := 0) dX10_rightLines_0 (by decide) ?_
  refine q_istore_n G (pc := 1) dX10_rightLines_1 (by decide) ?_
  show X _ [_, _, _] _ _ _ _
  refine q_iconst (v := nI 0) G (pc := 2) dX10_rightLines_2 (by decide) ?_
  refine q_istore_n G (pc := 3) dX10_rightLines_3 (by decide) ?_
  show X _ [_, _, _] _ _ _ _
  have L4 : ∀ (zz : Nat) (l : Nat) (hk : mm_HI), pL P - l < zz → l ≤ pL P → scr hi hk → X 4 [some (.ref (0)), some (.int (nI (rlM P n f t l))), some (.int (nI (l)))] [] hk τ 125 := by
    intro zz
    induction zz with
    | zero => intro l hk hm; exact absurd hm (Nat.not_lt_zero _)
    | succ zz ih4 =>
      intro l hk hm h0 g1
      refine q_iload_n G (pc := 4) dX10_rightLines_4 rfl ?_
      refine q_aload_n G (pc := 5) dX10_rightLines_5 rfl ?_
      refine q_getR (x := mm_sh sw) G (pc := 6) dX10_rightLines_6 fl_X10_19_9 rfl (hg hτ (hf_sh sw)) ?_
      refine q_getI (v := nI (pL P)) G (pc := 9) dX10_rightLines_9 fl_X10_288_7 (by decide) (ly_sh sw) (hS.scr g1).1 ?_
      refine q_icmp_geN (tgt := 63) G (pc := 12) dX10_rightLines_12 (by decide) (by omega) (by omega) (fun c12 => ?_) (fun c12 => ?_)
      · refine q_iload_n G (pc := 63) dX10_rightLines_63 rfl ?_
        refine q_iret G (pc := 64) dX10_rightLines_64 (Or.inl rfl) ?_
        exact ⟨rfl, _, rfl, by rw [show l = pL P by omega], g1⟩
      · refine q_aload_n G (pc := 15) dX10_rightLines_15 rfl ?_
        refine q_getR (x := 87) G (pc := 16) dX10_rightLines_16 fl_X10_42_9 rfl (hg hτ (hf_9_11 rfl)) ?_
        refine q_aload_n G (pc := 19) dX10_rightLines_19 rfl ?_
        refine q_getR (x := mm_sh sw) G (pc := 20) dX10_rightLines_20 fl_X10_19_9 rfl (hg hτ (hf_sh sw)) ?_
        refine q_aload_n G (pc := 23) dX10_rightLines_23 rfl ?_
        refine q_getR (x := 15) G (pc := 24) dX10_rightLines_24 fl_X10_29_9 rfl (hg hτ (hf_9_3 rfl)) ?_
        refine q_getR (x := 16) G (pc := 27) dX10_rightLines_27 fl_X10_109_1 rfl (hg hτ (hf_1_0 rfl)) ?_
        refine q_iload_n G (pc := 30) dX10_rightLines_30 rfl ?_
        refine q_cV3V G (pc := 31) dX10_rightLines_31 cv_X10_206 rfl (s_X4_read (by omega) hτ (rd := 87) rfl (ly_sh sw) (hS.scr g1) (r := 16) rfl (hRw.scr g1) hfs (by omega)) (Nat.le_of_ble_eq_true rfl) ?_
        intro hk2 hx
        obtain ⟨x1, x2⟩ := hx
        refine q_aload_n G (pc := 34) dX10_rightLines_34 rfl ?_
        refine q_getR (x := 87) G (pc := 35) dX10_rightLines_35 fl_X10_42_9 rfl (hg hτ (hf_9_11 rfl)) ?_
        refine q_getI (v := nI ((rdA P n f t l).2.1)) G (pc := 38) dX10_rightLines_38 fl_X10_213_4 (by decide) rfl x1.2.1 ?_
        have hbd : (rdA P n f t l).2.1 ≤ (rdA P n f t l).1 ∧ (rdA P n f t l).1 ≤ 2 * n := ⟨(rdE_bd _).1, (rdE_bd _).2.1⟩
        refine q_aload_n G (pc := 41) dX10_rightLines_41 rfl ?_
        refine q_getR (x := 87) G (pc := 42) dX10_rightLines_42 fl_X10_42_9 rfl (hg hτ (hf_9_11 rfl)) ?_
        refine q_getI (v := nI ((rdA P n f t l).1)) G (pc := 45) dX10_rightLines_45 fl_X10_210_4 (by decide) rfl x1.1 ?_
        refine q_icmp_neN (tgt := 57) G (pc := 48) dX10_rightLines_48 (by decide) (by omega) (by omega) (fun c48 => ?_) (fun c48 => ?_)
        · refine q_iincN G (pc := 57) dX10_rightLines_57 rfl (inc1 _) (by decide) ?_
          show X _ [_, _, _] _ _ _ _
          refine q_goto (tgt := 4) G (pc := 60) dX10_rightLines_60 (by decide) ?_
          have e : rlM P n f t (l + 1) = rlM P n f t l := by show _ ||| _ = _; rw [if_neg c48, Nat.or_zero]
          rw [← e]
          exact ih4 (l + 1) _ (by omega) (by omega) (g1.trans (scr.rd x2))
        · refine q_iload_n G (pc := 51) dX10_rightLines_51 rfl ?_
          refine q_iconst (v := 1) G (pc := 52) dX10_rightLines_52 (by decide) ?_
          refine q_iload_n G (pc := 53) dX10_rightLines_53 rfl ?_
          refine q_ishl G (pc := 54) dX10_rightLines_54 ?_
          rw [bit_one _ (by omega)]
          refine q_ior G (pc := 55) dX10_rightLines_55 ?_
          rw [or_nI]
          refine q_istore_n G (pc := 56) dX10_rightLines_56 (by decide) ?_
          show X _ [_, _, _] _ _ _ _
          refine q_iincN G (pc := 57) dX10_rightLines_57 rfl (inc1 _) (by decide) ?_
          show X _ [_, _, _] _ _ _ _
          refine q_goto (tgt := 4) G (pc := 60) dX10_rightLines_60 (by decide) ?_
          have e : rlM P n f t (l + 1) = rlM P n f t l ||| 2 ^ l := by show _ ||| _ = _; rw [if_pos c48]
          rw [← e]
          exact ih4 (l + 1) _ (by omega) (by omega) (g1.trans (scr.rd x2))
  exact L4 _ 0 hi (Nat.lt_succ_self _) (by omega) scr.rf
set_option maxHeartbeats 2000000 in
theorem c_rightRuns {d : Nat} (hd : 4 ≤ d) {hi : mm_HI} {τ : mm_T} {P : PG} {n : Nat} {f : Nat → Nat} {t K : Nat} {pn : Nat → Nat} {pf : Nat → Nat → Nat} {pt : Nat → Nat} {im : Nat → Option DK} {sl : List (Nat × Nat)} {N : Nat} {b : Nat → Nat} {tr : Int64} (hC : cS P n f t K pn pf pt im sl N b tr hi τ) : wI d yX10_rightRuns [.ref 0] hi τ (fun x h => x = nI (rrM P n f t (pL P)) ∧ scr hi h) := by
  refine w_intro (by omega) M_X10_rightRuns (Nat.le_of_ble_eq_true rfl) rfl ?_
  intro e X he G
  show X 0 [some (.ref (0)), none, none] [] hi τ 125
  obtain ⟨sw, nx, nd, hτ, hS, hD, hV, hI, hIV, hN, hNO, hT, hFl, hE, hTr⟩ := id hC
  have hS6 := hS.2.2.2.1.2.2.1
  have hL3 : pL P ≤ 3 := hS.2.2.2.1.2.1
  have hn6 := hD.1.2.2.2.1
  have hRw : rowF hi 16 n f t := hD.1
  have hfs : ∀ j, j < n → f j < pS P := hV.1.1
  refine q_iconst (v := nI 0) G (pc := 0) dX10_rightRuns_0 (by decide) ?_
  refine q_istore_n G (pc := 1) dX10_rightRuns_1 (by decide) ?_
  show X _ [_, _, _] _ _ _ _
  refine q_iconst (v := nI 0) G (pc := 2) dX10_rightRuns_2 (by decide) ?_
  refine q_istore_n G (pc := 3) dX10_rightRuns_3 (by decide) ?_
  show X _ [_, _, _] _ _ _ _
  have L4 : ∀ (zz : Nat) (l : Nat) (hk : mm_HI), pL P - l < zz → l ≤ pL P → scr hi hk → X 4 [some (.ref (0)), some (.int (nI (rrM P n f t l))), some (.int (nI (l)))] [] hk τ 125 := by
    intro zz
    induction zz with
    | zero => intro l hk hm; exact absurd hm (Nat.not_lt_zero _)
    | succ zz ih4 =>
      intro l hk hm h0 g1
      refine q_iload_n G (pc := 4) dX10_rightRuns_4 rfl ?_
      refine q_aload_n G (pc := 5) dX10_rightRuns_5 rfl ?_
      refine q_getR (x := mm_sh sw) G (pc := 6) dX10_rightRuns_6 fl_X10_19_9 rfl (hg hτ (hf_sh sw)) ?_
      refine q_getI (v := nI (pL P)) G (pc := 9) dX10_rightRuns_9 fl_X10_288_7 (by decide) (ly_sh sw) (hS.scr g1).1 ?_
      refine q_icmp_geN (tgt := 50) G (pc := 12) dX10_rightRuns_12 (by decide) (by omega) (by omega) (fun c12 => ?_) (fun c12 => ?_)
      · refine q_iload_n G (pc := 50) dX10_rightRuns_50 rfl ?_
        refine q_iret G (pc := 51) dX10_rightRuns_51 (Or.inl rfl) ?_
        exact ⟨rfl, _, rfl, by rw [show l = pL P by omega], g1⟩
      · refine q_aload_n G (pc := 15) dX10_rightRuns_15 rfl ?_
        refine q_getR (x := 87) G (pc := 16) dX10_rightRuns_16 fl_X10_42_9 rfl (hg hτ (hf_9_11 rfl)) ?_
        refine q_aload_n G (pc := 19) dX10_rightRuns_19 rfl ?_
        refine q_getR (x := mm_sh sw) G (pc := 20) dX10_rightRuns_20 fl_X10_19_9 rfl (hg hτ (hf_sh sw)) ?_
        refine q_aload_n G (pc := 23) dX10_rightRuns_23 rfl ?_
        refine q_getR (x := 15) G (pc := 24) dX10_rightRuns_24 fl_X10_29_9 rfl (hg hτ (hf_9_3 rfl)) ?_
        refine q_getR (x := 16) G (pc := 27) dX10_rightRuns_27 fl_X10_109_1 rfl (hg hτ (hf_1_0 rfl)) ?_
        refine q_iload_n G (pc := 30) dX10_rightRuns_30 rfl ?_
        refine q_cV3V G (pc := 31) dX10_rightRuns_31 cv_X10_206 rfl (s_X4_read (by omega) hτ (rd := 87) rfl (ly_sh sw) (hS.scr g1) (r := 16) rfl (hRw.scr g1) hfs (by omega)) (Nat.le_of_ble_eq_true rfl) ?_
        intro hk2 hx
        obtain ⟨x1, x2⟩ := hx
        refine q_iload_n G (pc := 34) dX10_rightRuns_34 rfl ?_
        refine q_aload_n G (pc := 35) dX10_rightRuns_35 rfl ?_
        refine q_getR (x := 87) G (pc := 36) dX10_rightRuns_36 fl_X10_42_9 rfl (hg hτ (hf_9_11 rfl)) ?_
        refine q_getI (v := nI ((rdA P n f t l).2.1)) G (pc := 39) dX10_rightRuns_39 fl_X10_213_4 (by decide) rfl x1.2.1 ?_
        refine q_iaddN G (pc := 42) dX10_rightRuns_42 ?_
        refine q_istore_n G (pc := 43) dX10_rightRuns_43 (by decide) ?_
        show X _ [_, _, _] _ _ _ _
        refine q_iincN G (pc := 44) dX10_rightRuns_44 rfl (inc1 _) (by decide) ?_
        show X _ [_, _, _] _ _ _ _
        refine q_goto (tgt := 4) G (pc := 47) dX10_rightRuns_47 (by decide) ?_
        exact ih4 (l + 1) _ (by omega) (by omega) (g1.trans (scr.rd x2))
  exact L4 _ 0 hi (Nat.lt_succ_self _) (by omega) scr.rf
theorem pv_ok {P : PG} {n : Nat} {f : Nat → Nat} {t : Nat} (hS : pS P ≤ 6) (hv : rowV P n f) {pv : Nat → Int32} (hp : ∀ j, j < n → pv (f j) = nI j) : ∀ pr ∈ oL P t n (mskF f n), ∀ j, j < n → pv (ord pr j) = pvO f n (ord pr j) := by
  intro pr hpr j hj
  have hf6 : ∀ j, j < n → f j < 6 := fun j hj => by have := hv.1 j hj; omega
  obtain ⟨h1, h2⟩ := lv0_mem hS n [] _ (mskF_lt hf6) pr (List.mem_filter.mp hpr).1
  have hlen : j < pr.length := by simp at h1; omega
  have hm : pr.getD j (0, 0) ∈ pr := by rw [List.getD_eq_getElem?_getD, List.getElem?_eq_getElem hlen]; exact List.getElem_mem _
  rcases h2 _ hm with q | ⟨q1, q2, q3⟩
  · cases q
  · obtain ⟨i, hi, e⟩ := (mskF_bit (by omega) hf6).mp q2
    show pv (pr.getD j (0, 0)).1 = plI (fnd f (pr.getD j (0, 0)).1 n)
    rw [← e, hp i hi, fnd_of hi rfl (fun k hk q => by have := hv.2 k i (by omega) hi q; omega)]
    rfl
theorem c_search5 {d : Nat} (hd : 14 ≤ d) {hi : mm_HI} {τ : mm_T} {sw : Bool} (hτ : τ.1 = mm_hr sw) {P : PG} {nx : Nat → Nat → Nat} {nd n t r : Nat} {f : Nat → Nat} (hS : shF hi (mm_sh sw) P nx nd) (hFl : flF hi) (hr : r = 16 ∨ r = 104) (hR : rowF hi r n f t) (hv : rowV P n f) : wV d yX9_search [.ref 88, .ref (mm_sh sw), .ref r] hi τ (fun h => h 88 4 = (roA P n f t).1 ∧ h 88 5 = (roA P n f t).2.1 ∧ h 88 6 = (roA P n f t).2.2.1 ∧ (∀ s, s < 6 → h 92 s = (roA P n f t).2.2.2 s) ∧ scr hi h ∧ frr 88 95 hi h) := by
  have hrl : mm_lay r = (0, 6) := by rcases hr with rfl | rfl <;> rfl
  have hb := s_X9_search (d := d) (by omega) hτ (wk := 88) (cw := 5) rfl (Or.inr (Or.inr rfl)) (bw := 0) (ro := 1) (dm := 2) (yb := yX5_begin) (ym := yX5_meet) (Qb := fun pv => ∀ j, j < n → pv (f j) = nI j) (Iv := fun pv => roI 88 n pv) hrl hR (by omega) (ly_sh sw) hS hv.1 hv.2 (by decide) (by decide) hFl.1 hFl.2.1 cu_X9_29_5 cu_X9_54_5 hd
    (fun e he => w_post (s_X5_begin he hτ rfl hrl hR (by omega) hv.2) (fun v h t q => q)) (fun pv => s_X5_meet hτ rfl (ly_sh sw) pv) (fun pv => roI_stab 88 n pv)
  refine w_post hb ?_
  rintro v h t2 ⟨h1, h2, pv, p1, p2, p3, p4, p5, p6⟩
  have hS6 := hS.2.2.2.1.2.2.1
  have e : roF n pv (lvs 0 1 nx P t n [] (mskF f n)) = roA P n f t := by
    rw [lvs_1 hS.2.2.2.1 hS.2.2.2.2.2.2.2.1]
    exact roF_pv (pv_ok hS6 hv p1)
  obtain ⟨i1, i2, i3, i4, i5⟩ := p2
  rw [e] at i1 i2 i3 i4
  have p4b : frr 88 95 hi h := p4
  exact ⟨h1, h2, i1, i2, i3, i4, ⟨fun c hc => p4b c (by omega), by rw [p5, hFl.1], by rw [p6, hFl.2.1], by rw [p4b 99 (by omega)], by rw [p4b 99 (by omega)], p4b 95 (by omega)⟩, p4b⟩
theorem c_search0 {d : Nat} (hd : 16 ≤ d) {hi : mm_HI} {τ : mm_T} {sw : Bool} (hτ : τ.1 = mm_hr sw) {P : PG} {nx : Nat → Nat → Nat} {nd n t : Nat} {f : Nat → Nat} (hS : shF hi (mm_sh sw) P nx nd) (hFl : flF hi) (hR : rowF hi 16 n f t) (hv : rowV P n f) : wV d yX9_search [.ref 99, .ref (mm_sh sw), .ref 16] hi τ (fun h => h 99 4 = (boA P n f t).1 ∧ h 99 5 = (boA P n f t).2 ∧ scr hi h) := by
  have hb := s_X9_search (d := d) (by omega) hτ (wk := 99) (cw := 0) rfl (Or.inl rfl) (bw := 0) (ro := 0) (dm := 4) (yb := yX0_begin) (ym := yX0_meet) (Qb := fun pv => True) (Iv := fun pv => boI 99 n P pv) (r := 16) rfl hR (by omega) (ly_sh sw) hS hv.1 hv.2 (by decide) (by decide) hFl.2.2.2.2.1 hFl.2.2.2.2.2 cu_X9_29_0 cu_X9_54_0 hd
    (fun e he => w_post (s_X0_begin (by omega) hτ rfl rfl hR (by omega)) (fun v h t q => q)) (fun pv => s_X0_meet hτ rfl (ly_sh sw) pv) (fun pv => boI_stab 99 n P pv)
  refine w_post hb ?_
  rintro v h t2 ⟨h1, h2, pv, p1, p2, p3, p4, p5, p6⟩
  have e : boF P n (lvs 0 0 nx P t n [] (mskF f n)) = boA P n f t := by
    rw [lvs_0]; rfl
  obtain ⟨i1, i2⟩ := p2
  rw [e] at i1 i2
  have p4b : frr 99 106 hi h := p4
  exact ⟨h1, h2, i1, i2, ⟨fun c hc => p4b c (by omega), by rw [p4b 88 (by omega)], by rw [p4b 88 (by omega)], by rw [p5, hFl.2.2.2.2.1], by rw [p6, hFl.2.2.2.2.2], p4b 95 (by omega)⟩⟩
theorem c_search3 {d : Nat} (hd : 13 ≤ d) {hi : mm_HI} {τ : mm_T} {sw : Bool} (hτ : τ.1 = mm_hr sw) {P : PG} {nx : Nat → Nat → Nat} {nd n t : Nat} {f : Nat → Nat} (hS : shF hi (mm_sh sw) P nx nd) (hFl : flF hi) (hR : rowF hi 16 n f t) (hv : rowV P n f) : wV d yX9_search [.ref 95, .ref (mm_sh sw), .ref 16] hi τ (fun h => ewI 95 (mskF f n) (fun _ => 0) (eL P n (mskF f n)) h ∧ frr 95 99 hi h ∧ flF h) := by
  have hf6 : ∀ j, j < n → f j < 6 := fun j hj => by have := hv.1 j hj; have := hS.2.2.2.1.2.2.1; omega
  have hb := s_X9_search (d := d) (by omega) hτ (wk := 95) (cw := 3) rfl (Or.inr (Or.inl rfl)) (bw := 1) (ro := 1) (dm := 1) (yb := yX3_begin) (ym := yX3_meet) (Qb := fun pv => True) (Iv := fun pv => ewI 95 (mskF f n) pv) (r := 16) rfl hR (by omega) (ly_sh sw) hS hv.1 hv.2 (by decide) (by decide) hFl.2.2.1 hFl.2.2.2.1 cu_X9_29_3 cu_X9_54_3 hd
    (fun e he => w_post (s_X3_begin he hτ rfl rfl hR (by omega)) (fun v h t q => q)) (fun pv => s_X3_meet hτ rfl (ly_sh sw) (mskF_lt hf6) pv) (fun pv => ewI_stab 95 (mskF f n) pv)
  refine w_post hb ?_
  rintro v h t2 ⟨h1, h2, pv, p1, p2, p3, p4, p5, p6⟩
  rw [lvs_1 hS.2.2.2.1 hS.2.2.2.2.2.2.2.1, lv0_t P t 0] at p2
  have p4b : frr 95 99 hi h := p4
  obtain ⟨f1, f2, f3, f4, f5, f6⟩ := hFl
  exact ⟨h1, h2, p2, p4b, by rw [p4b 88 (by omega)]; exact f1, by rw [p4b 88 (by omega)]; exact f2, p5, p6, by rw [p4b 99 (by omega)]; exact f5, by rw [p4b 99 (by omega)]; exact f6⟩
