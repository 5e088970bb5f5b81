/-! the law's loop, its start -/
theorem tab28 (x : Int32) : (x.toInt < 0 ∨ (28 : Int) < x.toInt) ∨ ∃ k, k ≤ 28 ∧ x = nI k := by
  by_cases h : x.toInt < 0 ∨ (28 : Int) < x.toInt
  · exact Or.inl h
  · exact Or.inr (tabX (x := x) (n := 28) (by omega) (by omega))
section LL
variable {p : Program} {l : Launch} {e : Env} {s : State} {m : MethodId} {below : List Frame} {meth : Method} {c0 : Code} {D : va_G} {cI cR : ClassId} {bS L : Nat} {xs : Nat → Int32}
set_option maxHeartbeats 4000000 in
theorem law_loop (C : LC p s m meth c0 D cI cR bS L xs) : ∀ (zz i : Nat) (σ : ST) (hi : mm_HI) (τ : mm_T), 2100 - i < zz → i < 2100 → CS σ hi τ → MS σ hi τ → LW p l e s m below meth c0 D cI cR bS 18 i [] hi τ := by
  intro zz
  induction zz with
  | zero => intro i σ hi τ hm; exact absurd hm (Nat.not_lt_zero _)
  | succ zz ih =>
    intro i σ hi τ hm hi2 hC hM
    have KK : i + 3 < L → ∀ (σ2 : ST) (h2 : mm_HI) (t2 : mm_T), CS σ2 h2 t2 → MS σ2 h2 t2 → LW p l e s m below meth c0 D cI cR bS 862 i [] h2 t2 := fun hL3 σ2 h2 t2 g1 g2 => l_inc C (ih (i + 4) σ2 h2 t2 (by omega) (by have := C.2.2.2.2.2.2.2.2.2.1; omega) g1 g2)
    have hL : L ≤ 2048 := C.2.2.2.2.2.2.2.2.2.1
    intro H locs ls g1 g2 g3 g4
    refine lv_iload_n C.1 C.2.1 dL_law_18 (i := 3) rfl (lv_at g4 0 rfl) ?_
    refine lv_aload_n C.1 C.2.1 dL_law_19 (i := 0) rfl (lv_at g4 3 rfl) ?_
    refine va_slen (A := fun q : Nat => s.heap.size ≤ q) C.1 C.2.1 C.2.2.2.2.2.2.2.1 C.2.2.2.2.2.2.2.2.1 (Nat.not_le.mpr C.2.2.2.2.2.2.2.2.1) (l_VS g1 g3) dL_law_20 ?_
    refine lv_iconst (v := nI 4) C.1 C.2.1 dL_law_21 (by decide) ?_
    refine lv_isub C.1 C.2.1 dL_law_22 ?_
    refine lv_icmp_gt (tgt := 868) C.1 C.2.1 dL_law_23 (by decide) (fun _ => l_end C H locs ls g1 g2 g3 g4) (fun hng => ?_)
    have hL3 : i + 3 < L := by
      have h9 : ¬ nI L - nI 4 < nI i := hng
      rw [l_gt (by omega) hL] at h9
      omega
    refine lv_aload_n C.1 C.2.1 dL_law_26 (i := 0) rfl (lv_at g4 3 rfl) ?_
    refine lv_iload_n C.1 C.2.1 dL_law_27 (i := 3) rfl (lv_at g4 0 rfl) ?_
    refine l_ld C dL_law_28 (by omega) ?_ H locs ls g1 g2 g3 g4
    clear g1 g2 g3 g4 H locs ls
    intro H locs ls g1 g2 g3 g4
    refine lv_bipush (v := nI 31) C.1 C.2.1 dL_law_29 (by decide) ?_
    refine lv_iand C.1 C.2.1 dL_law_31 ?_
    generalize xs i &&& nI 31 = x
    rcases tab28 x with hx | ⟨k, hk, rfl⟩
    · exact lv_tableOut (tgt := 862) C.1 C.2.1 dL_law_32 hx (by decide) (KK hL3 σ hi τ hC hM H locs ls g1 g2 g3 g4)
    · have hk2 : k = 0 ∨ k = 1 ∨ k = 2 ∨ k = 3 ∨ k = 4 ∨ k = 5 ∨ k = 6 ∨ k = 7 ∨ k = 8 ∨ k = 9 ∨ k = 10 ∨ k = 11 ∨ k = 12 ∨ k = 13 ∨ k = 14 ∨ k = 15 ∨ k = 16 ∨ k = 17 ∨ k = 18 ∨ k = 19 ∨ k = 20 ∨ k = 21 ∨ k = 22 ∨ k = 23 ∨ k = 24 ∨ k = 25 ∨ k = 26 ∨ k = 27 ∨ k = 28 := by omega
      rcases hk2 with rfl | rfl | rfl | rfl | rfl | rfl | rfl | rfl | rfl | rfl | rfl | rfl | rfl | rfl | rfl | rfl | rfl | rfl | rfl | rfl | rfl | rfl | rfl | rfl | rfl | rfl | rfl | rfl | rfl
      · exact lv_tableIn (off := 132) (tgt := 164) C.1 C.2.1 dL_law_32 (by decide) (by decide) (by decide) (by decide) (arm_0 C hL3 hC hM (KK hL3) H locs ls g1 g2 g3 g4)
      · exact lv_tableIn (off := 155) (tgt := 187) C.1 C.2.1 dL_law_32 (by decide) (by decide) (by decide) (by decide) (arm_1 C hL3 hC hM (KK hL3) H locs ls g1 g2 g3 g4)
      · exact lv_tableIn (off := 168) (tgt := 200) C.1 C.2.1 dL_law_32 (by decide) (by decide) (by decide) (by decide) (arm_2 C hL3 hC hM (KK hL3) H locs ls g1 g2 g3 g4)
      · exact lv_tableIn (off := 181) (tgt := 213) C.1 C.2.1 dL_law_32 (by decide) (by decide) (by decide) (by decide) (arm_3 C hL3 hC hM (KK hL3) H locs ls g1 g2 g3 g4)
      · exact lv_tableIn (off := 214) (tgt := 246) C.1 C.2.1 dL_law_32 (by decide) (by decide) (by decide) (by decide) (arm_4 C hL3 hC hM (KK hL3) H locs ls g1 g2 g3 g4)
      · exact lv_tableIn (off := 257) (tgt := 289) C.1 C.2.1 dL_law_32 (by decide) (by decide) (by decide) (by decide) (arm_5 C hL3 hC hM (KK hL3) H locs ls g1 g2 g3 g4)
      · exact lv_tableIn (off := 280) (tgt := 312) C.1 C.2.1 dL_law_32 (by decide) (by decide) (by decide) (by decide) (arm_6 C hL3 hC hM (KK hL3) H locs ls g1 g2 g3 g4)
      · exact lv_tableIn (off := 313) (tgt := 345) C.1 C.2.1 dL_law_32 (by decide) (by decide) (by decide) (by decide) (arm_7 C hL3 hC hM (KK hL3) H locs ls g1 g2 g3 g4)
      · exact lv_tableIn (off := 346) (tgt := 378) C.1 C.2.1 dL_law_32 (by decide) (by decide) (by decide) (by decide) (arm_8 C hL3 hC hM (KK hL3) H locs ls g1 g2 g3 g4)
      · exact lv_tableIn (off := 379) (tgt := 411) C.1 C.2.1 dL_law_32 (by decide) (by decide) (by decide) (by decide) (arm_9 C hL3 hC hM (KK hL3) H locs ls g1 g2 g3 g4)
      · exact lv_tableIn (off := 402) (tgt := 434) C.1 C.2.1 dL_law_32 (by decide) (by decide) (by decide) (by decide) (arm_10 C hL3 hC hM (KK hL3) H locs ls g1 g2 g3 g4)
      · exact lv_tableIn (off := 425) (tgt := 457) C.1 C.2.1 dL_law_32 (by decide) (by decide) (by decide) (by decide) (arm_11 C hL3 hC hM (KK hL3) H locs ls g1 g2 g3 g4)
      · exact lv_tableIn (off := 448) (tgt := 480) C.1 C.2.1 dL_law_32 (by decide) (by decide) (by decide) (by decide) (arm_12 C hL3 hC hM (KK hL3) H locs ls g1 g2 g3 g4)
      · exact lv_tableIn (off := 461) (tgt := 493) C.1 C.2.1 dL_law_32 (by decide) (by decide) (by decide) (by decide) (arm_13 C hL3 hC hM (KK hL3) H locs ls g1 g2 g3 g4)
      · exact lv_tableIn (off := 484) (tgt := 516) C.1 C.2.1 dL_law_32 (by decide) (by decide) (by decide) (by decide) (arm_14 C hL3 hC hM (KK hL3) H locs ls g1 g2 g3 g4)
      · exact lv_tableIn (off := 517) (tgt := 549) C.1 C.2.1 dL_law_32 (by decide) (by decide) (by decide) (by decide) (arm_15 C hL3 hC hM (KK hL3) H locs ls g1 g2 g3 g4)
      · exact lv_tableIn (off := 550) (tgt := 582) C.1 C.2.1 dL_law_32 (by decide) (by decide) (by decide) (by decide) (arm_16 C hL3 hC hM (KK hL3) H locs ls g1 g2 g3 g4)
      · exact lv_tableIn (off := 573) (tgt := 605) C.1 C.2.1 dL_law_32 (by decide) (by decide) (by decide) (by decide) (arm_17 C hL3 hC hM (KK hL3) H locs ls g1 g2 g3 g4)
      · exact lv_tableIn (off := 596) (tgt := 628) C.1 C.2.1 dL_law_32 (by decide) (by decide) (by decide) (by decide) (arm_18 C hL3 hC hM (KK hL3) H locs ls g1 g2 g3 g4)
      · exact lv_tableIn (off := 619) (tgt := 651) C.1 C.2.1 dL_law_32 (by decide) (by decide) (by decide) (by decide) (arm_19 C hL3 hC hM (KK hL3) H locs ls g1 g2 g3 g4)
      · exact lv_tableIn (off := 642) (tgt := 674) C.1 C.2.1 dL_law_32 (by decide) (by decide) (by decide) (by decide) (arm_20 C hL3 hC hM (KK hL3) H locs ls g1 g2 g3 g4)
      · exact lv_tableIn (off := 675) (tgt := 707) C.1 C.2.1 dL_law_32 (by decide) (by decide) (by decide) (by decide) (arm_21 C hL3 hC hM (KK hL3) H locs ls g1 g2 g3 g4)
      · exact lv_tableIn (off := 688) (tgt := 720) C.1 C.2.1 dL_law_32 (by decide) (by decide) (by decide) (by decide) (arm_22 C hL3 hC hM (KK hL3) H locs ls g1 g2 g3 g4)
      · exact lv_tableIn (off := 701) (tgt := 733) C.1 C.2.1 dL_law_32 (by decide) (by decide) (by decide) (by decide) (arm_23 C hL3 hC hM (KK hL3) H locs ls g1 g2 g3 g4)
      · exact lv_tableIn (off := 714) (tgt := 746) C.1 C.2.1 dL_law_32 (by decide) (by decide) (by decide) (by decide) (arm_24 C hL3 hC hM (KK hL3) H locs ls g1 g2 g3 g4)
      · exact lv_tableIn (off := 747) (tgt := 779) C.1 C.2.1 dL_law_32 (by decide) (by decide) (by decide) (by decide) (arm_25 C hL3 hC hM (KK hL3) H locs ls g1 g2 g3 g4)
      · exact lv_tableIn (off := 770) (tgt := 802) C.1 C.2.1 dL_law_32 (by decide) (by decide) (by decide) (by decide) (arm_26 C hL3 hC hM (KK hL3) H locs ls g1 g2 g3 g4)
      · exact lv_tableIn (off := 793) (tgt := 825) C.1 C.2.1 dL_law_32 (by decide) (by decide) (by decide) (by decide) (arm_27 C hL3 hC hM (KK hL3) H locs ls g1 g2 g3 g4)
      · exact lv_tableIn (off := 816) (tgt := 848) C.1 C.2.1 dL_law_32 (by decide) (by decide) (by decide) (by decide) (arm_28 C hL3 hC hM (KK hL3) H locs ls g1 g2 g3 g4)
end LL
set_option maxHeartbeats 4000000 in
/-- from the entry, for every script of at most 2048 ints, the law comes to its end with true -/
theorem whole_start {p : Program} {e : Env} {s : State} {m : MethodId} {below : List Frame} {meth : Method} {c : Code} (l : Launch) (hflags : l.flags = flags0) {b L : Nat} {xs : Nat → Int32} (hL : L ≤ 2048) (C0 : lw_At p s m meth c b L xs) : W p l e room_1 s m #[Value.ref b] below meth c s.heap [] 0 0 (lw_Z below #[Value.ref b] s) (entryFrame m ([Value.ref b] : List Value).toArray 4) := by
  obtain ⟨hx, hb, hr, hml, hown, hts0, hX, hbl, hlocks, hgv⟩ := id C0
  obtain ⟨D, cI, cR, hK⟩ := mm_K_ok hts0
  have hts := all_ok hts0
  have hE := mm_E_ok hts0
  have C : LC p s m meth c D cI cR b L xs := ⟨hx, hb, hml, hts, hown, hK, hE, hX, hbl, hL, hr, hlocks⟩
  have hl := lv_entry ([.ref b]) (n := 4) (Nat.le_of_ble_eq_true rfl)
  rw [lg_entry_eq]
  generalize (lg_sl ([.ref b]) ++ List.replicate (4 - (lg_sl ([.ref b])).length) Slot.unset).toArray = ls at hl ⊢
  have hl : lv_has ls 4 [(0, .ref b)] := hl
  have hP0 : mm_P D cI cR s.heap.size (fun _ _ => 0) (fun _ _ => none, fun _ _ => 0) 0 s.heap := fun c hc => absurd hc (Nat.not_lt_zero _)
  have hS0 : mm_S s.heap.size s.heap s.heap [] := ⟨fun _ _ => rfl, fun _ h => absurd h List.not_mem_nil⟩
  refine mm_new (cc := cL_law) hx hb hts hown hK hP0 hS0 (by omega) dL_law_0 nw_L_7 rfl (by decide +kernel) (by decide +kernel) (fun H1 e1 hP1 hS1 => ?_)
  refine W.widen (k := 1 - 0) (n := mm_sl 1 - mm_sl 0) (by decide +kernel) (by decide +kernel) ?_
  refine lv_dup hx hb dL_law_3 rfl ?_
  have f0 : fsh 0 (va_up (fun _ _ => 0) 0 (fun _ => 0)) (va_up (fun _ _ => none) 0 (fun _ => none), va_up (fun _ _ => 0) 0 (fun _ => 0)) := fsh_new (u := (fun _ _ => none, fun _ _ => 0)) (fun _ _ => rfl) rfl
  refine mm_callI (cc := cL_law) (n := 1) (n0 := 0) (n1 := 125) (n2 := 106) (d := 20) (c := 0) (as1 := []) (st := [.ref 0]) hx hb hml hts hown hK hE hP1 hS1 (Nat.zero_le _) e1 (by decide +kernel) (by decide +kernel) (by decide +kernel) l_sl dL_law_4 cn_L_9 rfl (mm_sound l D cI cR s.heap.size 20 _ _ _ _ _ _ _ (n_X10 (d := 20) (by decide) f0)) (by decide) (by decide) hl.1 (fun v h2 t2 H2 locs2 hq e2 hP2 hS2 => ?_)
  obtain ⟨rfl, q1, q2, q3⟩ := hq
  refine lv_astore_n (lv' := [(1, .ref (s.heap.size + 0)), (0, .ref b)]) hx hb dL_law_7 (i := 1) rfl hl (by decide) rfl (fun ls hl => ?_)
  refine mm_new (cc := cL_law) hx hb hts hown hK hP2 hS2 e2 dL_law_8 nw_L_10 rfl (by decide +kernel) (by decide +kernel) (fun H3 e3 hP3 hS3 => ?_)
  refine W.widen (k := 107 - 0) (n := mm_sl 107 - mm_sl 0) (by decide +kernel) (by decide +kernel) ?_
  refine lv_dup hx hb dL_law_11 rfl ?_
  refine mm_callI (cc := cL_law) (n := 107) (n0 := 0) (n1 := 125) (n2 := 125) (d := 20) (c := 106) (as1 := []) (st := [.ref 106]) hx hb hml hts hown hK hE hP3 hS3 (Nat.zero_le _) e3 (by decide +kernel) (by decide +kernel) (by decide +kernel) l_sl dL_law_12 cn_L_12 rfl (mm_sound l D cI cR s.heap.size 20 _ _ _ _ _ _ _ (n_X11 (d := 20) (by decide) q2.nobj)) (by decide) (by decide) hl.1 (fun v h4 t4 H4 locs4 hq e4 hP4 hS4 => ?_)
  obtain ⟨rfl, r1, r2, r3⟩ := hq
  have hpk : pk 0 125 T09 _ t4 := pk.obj q2 (by decide) r2 (hr_10 rfl)
  obtain ⟨z1, z2⟩ := start_hr hpk
  have hiC : iC h4 := iC.keep q3 (fun z hz => (r1 z hz).trans (va_up_ne _ _ (by omega)))
  have hCS : CS S00 h4 t4 := start_C hiC z1 z2
  have hMS : MS S00 h4 t4 := start_M r3.1 r3.2 z1 z2
  refine lv_astore_n (lv' := [(2, .ref (s.heap.size + 106)), (1, .ref (s.heap.size + 0)), (0, .ref b)]) hx hb dL_law_15 (i := 2) rfl hl (by decide) rfl (fun ls hl => ?_)
  refine lv_iconst (v := nI 0) hx hb dL_law_16 (by decide) ?_
  refine lv_istore_n (lv' := LV s b 0) hx hb dL_law_17 (i := 3) rfl hl (by decide) rfl (fun ls hl => ?_)
  exact law_loop C 2101 0 S00 h4 t4 (by omega) (by omega) hCS hMS H4 locs4 ls e4 hP4 hS4 hl
set_option maxHeartbeats 4000000 in
theorem lw_walk (l : Launch) (hflags : l.flags = flags0) (b : Addr) (xs : List Int32) : MetFree l x (headSpec (Jvm.Cond.code x code maxLocals ret :: tables_1) room_1) (lw_P b xs) (fun _ _ _ _ _ => True) lw_Q := by
  refine MetFree.of_bodyS (code := code) (maxLocals := maxLocals) (ret := ret) (by decide) ?_ ?_
  · intro args s m h hn
    obtain ⟨meth, c, h1, h2, h3, h4, h5, h6, -, -⟩ := Cond.code_spec hn (atoms_spec (ws := Jvm.Cond.code x code maxLocals ret :: tables_1) h _ List.mem_cons_self)
    exact ⟨meth, c, h1, h2, h3, h4, h5, h6⟩
  · intro p e s m args below meth c s₁ B hml0 hP _
    obtain ⟨rfl, hx, hbd, hgv⟩ := hP
    obtain ⟨scr, harrAt, hlist, hof, hsmall⟩ := hx
    obtain ⟨hcb, hkn, -, -⟩ := State.arrayAt?_spec harrAt
    have hown : s.vm.findClass R_law = some m.cls := findClass_of_methodNamed B.named
    have hts0 : ∀ c ∈ (Jvm.Cond.code x code maxLocals ret :: tables_1), c.before #[Value.ref b] s = true := atoms_spec (ws := Jvm.Cond.code x code maxLocals ret :: tables_1) B.pre
    have hts : ∀ w ∈ lw_tbl, w.before #[Value.ref b] s = true := k2_hts_sels lw_privs (fun w hw => hts0 w (List.mem_cons_of_mem _ hw)) lw_privs_ok
    have hml : c.maxLocals = 4 := B.maxLocals_eq (hts0 _ List.mem_cons_self)
    have X₀ : Stand p l e room_1 s m #[Value.ref b] below meth c s₁ [] 0 0 := Stand.of_body B
    have hh0 : s₁.heap = s.heap := by rw [B.state]; rfl
    have hsz : scr.slots.size = xs.length := by rw [← Array.length_toList, hlist, List.length_map]
    have hval : ∀ j : Nat, j < xs.length → scr.slots[j]? = some (.int (xs.getD j 0)) := fun j hj => by
      rw [← Array.getElem?_toList, hlist]
      simp [hj]
    have hbl : b < s.heap.size := (Array.getElem?_eq_some_iff.mp hcb).1
    have hX : va_X b xs.length (fun j => xs.getD j 0) s s.heap := ⟨scr, hcb, hof, hkn, hsz, hval⟩
    have K : W p l e room_1 s m #[Value.ref b] below meth c s₁.heap [] 0 0 (lw_Z below #[Value.ref b] s) (entryFrame m ([Value.ref b] : List Value).toArray 4) := by
      rw [hh0]
      exact whole_start l hflags hbd ⟨B.exec, B.bytes, B.returns, hml, hown, hts, hX, hbl, B.notSynchronized, hgv⟩
    obtain ⟨t, a1, o, b1, b2, b3⟩ := K s₁ rfl X₀
    exact ⟨t, o, a1, b1, b2, b3⟩
theorem lw_pre_spec {args : Array Value} {s : State} (h : (Jvm.Cond.and given_1 narrow_1).before args s = true) (hr : rest_1_c.before args s = true) : ∃ (b : Addr) (xs : List Int32), lw_P b xs args s := by
  have hs := flat_of_before _ h
  have hq := flat_of_before _ hr
  have hc : (Cond.count 1).before args s = true := hs _ (by decide +kernel)
  have harr : (Cond.arrayOf (.arg 0) .int).before args s = true := hs _ (by decide +kernel)
  have hle : (Cond.le (.length (.arg 0)) (.int 2048)).before args s = true := hs _ (by decide +kernel)
  have hlen : (Cond.isInt (.length (.arg 0))).before args s = true := hq _ (by decide +kernel)
  have hall : (Cond.all (.arg 0) (.isInt (.elem (.arg 0) (.index 0)))).before args s = true := hq _ (by decide +kernel)
  obtain ⟨b, xs, hb, hx⟩ := State.ints_of_pre rfl harr hlen hall
  have hsm : xs.length < 2 ^ 31 := hx.choose_spec.2.2.2
  have hev : (Term.length (.arg 0)).eval args s none [] s = some (.int xs.length.toInt32) := hx.length_eval hb
  have hv := Cond.le_ints hev (show (Term.int 2048).eval args s none [] s = some (.int 2048) from rfl)
  have hd : xs.length.toInt32 ≤ 2048 := by
    simpa [Cond.before, Cond.holds, hv] using hle
  have hN : xs.length ≤ 2048 := (Int32.ofNat_le_ofNat hsm (by decide)).mp (show Int32.ofNat xs.length ≤ Int32.ofNat 2048 from hd)
  exact ⟨b, xs, Cond.one_arg hc (show args[0]? = some (.ref b) from hb), hx, hN, h⟩
theorem lw_comes (l : Launch) (hflags : l.flags = flags0) : Comes l x (Jvm.Cond.code x code maxLocals ret :: tables_1) room_1 (fun tb e args s => Calls_1 tb e args s ∧ rest_1 tb e args s ∧ Pre_1 tb e args s)
    (fun _ _ args s o t => lw_Q args s o t) := by
  intro p e ha hc hk s m args below hf hfit hheap happ hpre
  obtain ⟨b, xs, hP⟩ := lw_pre_spec hpre.2.2 hpre.2.1
  obtain ⟨k, o, h1, h2, h3, hQ⟩ := lw_walk l hflags b xs p e ha hc hk s m args below hf ((Spec.applies_iff_loose hf).mp happ).1 hP trivial
  exact ⟨k, o, h1, h2, h3, hQ⟩
theorem lw_frame {s t : State} {o : Outcome} {args : Array Value} (h : Framed s o t [] 600000 7302250) :
    Framed s o t (fieldLocs frame_1_writes args s ++ arrayLocs frame_1_arrays args s ++ staticLocs frame_1_statics s) 600000 7302250 := h
theorem lw_limb (L : Cond) (hL : ∀ (args : Array Value) (s t : State), L.after args s (.returned (some (.int 1))) t = true) :
    ArmFor flags0 classFile x code maxLocals ret World_1 tables_1 room_1 Calls_1 rest_1 Pre_1
      (fun tb e a s o t => postC L tb e a s o t ∧ Framed s o t (fieldLocs frame_1_writes a s ++ arrayLocs frame_1_arrays a s ++ staticLocs frame_1_statics s) 600000 7302250) := by
  intro l hflags _ _ p e ha hc hk s m args below hf hfit hheap happ hpre
  obtain ⟨k, o, h1, h2, h3, rfl, hF⟩ := lw_comes l hflags p e ha hc hk s m args below hf hfit hheap happ hpre
  exact ⟨k, _, h1, h2, h3, hL args s _, lw_frame hF⟩
theorem i_vc : Claimed_1_1 ∧ Claimed_1_2 := ⟨lw_limb limb_1_1 (fun args s t => by simp [limb_1_1, Cond.after, Cond.holds, Cond.value]), lw_limb limb_1_2 (fun args s t => Cond.after_iff.mpr (by
  first | (rw [show limb_1_2 = Cond.eq .result (.int 1) from rfl, Cond.eq_ints (x := 1) (y := 1) rfl rfl]; simp; done) | (simp [limb_1_2, Cond.value, Term.eval]; done)))⟩
