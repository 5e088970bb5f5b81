/-! THE CLAIM OUT OF ONE WALK OF THE LAW'S BODY. Your part is whole_start (and what it stands on); all else here is the same for every law, but numbers. -/
def R_law : String := "StripPageLaw"
def lw_P (b : Addr) (xs : List Int32) (args : Array Value) (s : State) : Prop := args = #[.ref b] ∧ s.IntsAt b xs ∧ xs.length ≤ 2048 ∧ (Jvm.Cond.and given_1 narrow_1).before args s = true
def lw_Q (_ : Array Value) (s : State) (o : Outcome) (t : State) : Prop := o = .returned (some (.int 1)) ∧ Framed s o t [] 600000 7302250
def lw_Z (below : List Frame) (a : Array Value) (s : State) : State → Prop := fun t => ∃ o, t.status = .running ∧ Ended t below o ∧ lw_Q a s o t
/-- the law's own end, with 1 on the stack, nothing written that was there before, its room as the claim has it -/
theorem lw_ret {p : Program} {l : Launch} {e : Env} {s : State} {m : MethodId} {below : List Frame} {meth : Method} {c : Code} {b : Nat} (hx : p.tables.exec = Jvm.exec) (hb : c.code = code) (hr : meth.sig.returnType = ret) (hlocks : meth.locks = false) {pc : Nat} {H : Heap} {ls : Array Slot} (hdg : decode code pc = .ok (.ireturn, 1)) : W p l e room_1 s m #[Value.ref b] below meth c H [] 600000 7302250 (lw_Z below #[Value.ref b] s) (F0 m pc ls [.int 1]) := by
  intro T hT X
  obtain ⟨fs, hret, hrun, hended, hW, hframe⟩ := X.leave (v := some (.int 1)) (hlocks := hlocks) (fun h => by rw [hr] at h; cases h)
  have hmeth' : T.vm.method? m = some meth := X.method'
  refine ⟨T.setFrames fs, ?_, .returned (some (.int 1)), hrun, hended, rfl, ⟨_, rfl⟩, hW, hframe⟩
  jvm_step X.here [X.here.top, hx, hb, hdg, hmeth', hr, ret, narrow_b1]
  (try refine ⟨rfl, ?_⟩); (try refine ⟨rfl, ?_⟩)
  first | (intro acts; rw [hret _ acts rfl rfl rfl]) | rw [hret _ _ rfl rfl rfl]
  exact Steps.refl _
/-- what holds at the law's entry: the machine, the code, the tables' words (any of lw_tbl by 'hts w (by decide +kernel)'), the script of L ints xs at the cell b, what the Statement gives of the start (any of its parts by flat_of_before) -/
def lw_At (p : Program) (s : State) (m : MethodId) (meth : Method) (c : Code) (b L : Nat) (xs : Nat → Int32) : Prop :=
  p.tables.exec = Jvm.exec ∧ c.code = code ∧ meth.sig.returnType = ret ∧ c.maxLocals = 4 ∧ s.vm.findClass R_law = some m.cls ∧ (∀ w ∈ lw_tbl, w.before #[Value.ref b] s = true) ∧ va_X b L xs s s.heap ∧ b < s.heap.size ∧ meth.locks = false ∧ (Jvm.Cond.and given_1 narrow_1).before #[Value.ref b] s = true
/-- a private method that is declared above the receiver's class is itself what is called -/
theorem sel_up {C : String} {x1 y1 y : MethodName} {s : State} {args : Array Value} {n : Nat} (hy : y.cls ≠ "java/lang/invoke/MethodHandle" ∧ y.cls ≠ "java/lang/invoke/VarHandle") (hins : (Cond.instantiable C n).before args s = true) (hpriv : (Cond.privateMethod y).before args s = true) (hinst : (Cond.instanceMethod y).before args s = true) (hup : (Cond.selects C x1 y1).before args s = true) (hcl : y1.cls = y.cls) : (Cond.selects C y y).before args s = true := by
  obtain ⟨c, r, m2, hc, -, hn2, -, k2, hk2, hni⟩ := Cond.selects_spec hup
  obtain ⟨mk, methM, hnamed, hmethM, -, -⟩ := Cond.instanceMethod_spec hinst
  have hfound : s.methodFound? y.cls y.name y.desc = some mk := State.methodFound?_of_named hnamed hy
  have hcls : m2.cls = mk.cls := by
    have h1 := findClass_of_methodNamed hn2
    have h2 := findClass_of_methodNamed hnamed
    rw [hcl] at h1
    exact Option.some.inj (h1.symm.trans h2)
  rw [hcls] at hk2
  have hsel : selectMethod {} s.vm c mk = .method mk := selectMethod_private hmethM (Cond.privateMethod_at hpriv mk methM hnamed hmethM)
  simp only [Cond.before, Cond.holds, Cond.value, hc, hfound, hnamed, hsel, hk2]
  simp
  exact hni
theorem ext_ok {s : State} {args : Array Value} (hts : ∀ w ∈ lw_tbl, w.before args s = true) : ∀ w ∈ lw_ext, w.before args s = true := by
  have h : ∀ w, w ∈ lw_tbl → w.before args s = true := hts
  have a0 := h (.instantiable RX0 7) (by decide +kernel)
  have a3 := h (.instantiable RX3 8) (by decide +kernel)
  have a5 := h (.instantiable RX5 10) (by decide +kernel)
  have u0 := h (.selects RX0 ⟨RX0, "search", "(LStripPage$Sheet;LStripPage$Row;)V"⟩ yX9_search) (by decide +kernel)
  have u3 := h (.selects RX3 ⟨RX3, "search", "(LStripPage$Sheet;LStripPage$Row;)V"⟩ yX9_search) (by decide +kernel)
  have u5 := h (.selects RX5 ⟨RX5, "search", "(LStripPage$Sheet;LStripPage$Row;)V"⟩ yX9_search) (by decide +kernel)
  have key : ∀ y : MethodName, y.cls = RX9 → Cond.privateMethod y ∈ lw_tbl → Cond.instanceMethod y ∈ lw_tbl → (Cond.selects RX0 y y).before args s = true ∧ (Cond.selects RX3 y y).before args s = true ∧ (Cond.selects RX5 y y).before args s = true := by
    intro y hy h1 h2
    have hq : y.cls ≠ "java/lang/invoke/MethodHandle" ∧ y.cls ≠ "java/lang/invoke/VarHandle" := by rw [hy]; decide +kernel
    exact ⟨sel_up hq a0 (h _ h1) (h _ h2) u0 hy.symm, sel_up hq a3 (h _ h1) (h _ h2) u3 hy.symm, sel_up hq a5 (h _ h1) (h _ h2) u5 hy.symm⟩
  obtain ⟨b1, b2, b3⟩ := key yX9_lengthen rfl (by decide +kernel) (by decide +kernel)
  obtain ⟨c1, c2, c3⟩ := key yX9_mayLie rfl (by decide +kernel) (by decide +kernel)
  obtain ⟨d1, d2, d3⟩ := key yX9_goesOn rfl (by decide +kernel) (by decide +kernel)
  obtain ⟨e1, e2, e3⟩ := key yX9_endsRight rfl (by decide +kernel) (by decide +kernel)
  intro w hw
  simp only [lw_ext, List.mem_cons, List.not_mem_nil, or_false] at hw
  rcases hw with rfl | rfl | rfl | rfl | rfl | rfl | rfl | rfl | rfl | rfl | rfl | rfl
  · exact b1
  · exact b2
  · exact b3
  · exact c1
  · exact c2
  · exact c3
  · exact d1
  · exact d2
  · exact d3
  · exact e1
  · exact e2
  · exact e3
theorem all_ok {s : State} {args : Array Value} (hts : ∀ w ∈ lw_tbl, w.before args s = true) : ∀ w, mm_in w → w.before args s = true := by
  intro w hw
  rcases List.mem_append.mp hw.1 with h | h
  · exact ext_ok hts w h
  · exact hts w h
theorem mm_E_ok {s : State} {args : Array Value} (hts : ∀ w ∈ lw_tbl, w.before args s = true) : mm_E s := ⟨fun o i y ho hw => hts _ hw, fun x hw => hts _ hw, va_AO.of (hts (.arrayOver (.object RX6)) (by decide +kernel))⟩
theorem mm_K_ok {s : State} {args : Array Value} (hts : ∀ w ∈ lw_tbl, w.before args s = true) : ∃ (D : va_G) (cI cR : ClassId), va_K D vwCl (mm_tys cI cR) s := by
  have hg : ∀ w ∈ mm_g, w.before args s = true := mm_gts (all_ok hts)
  obtain ⟨c0, i0, k0⟩ := u_known (C := RX0) (T := TX0) (N := 7) (n := 7) hg mm_w0 (hts (.instantiable RX0 7) (by decide +kernel))
  obtain ⟨c1, i1, k1⟩ := u_known (C := RX1) (T := TX1) (N := 3) (n := 3) hg mm_w1 (hts (.instantiable RX1 3) (by decide +kernel))
  obtain ⟨c2, i2, k2⟩ := u_known (C := RX2) (T := TX2) (N := 2) (n := 2) hg mm_w2 (hts (.instantiable RX2 2) (by decide +kernel))
  obtain ⟨c3, i3, k3⟩ := u_known (C := RX3) (T := TX3) (N := 8) (n := 8) hg mm_w3 (hts (.instantiable RX3 8) (by decide +kernel))
  obtain ⟨c4, i4, k4⟩ := u_known (C := RX4) (T := TX4) (N := 6) (n := 6) hg mm_w4 (hts (.instantiable RX4 6) (by decide +kernel))
  obtain ⟨c5, i5, k5⟩ := u_known (C := RX5) (T := TX5) (N := 10) (n := 10) hg mm_w5 (hts (.instantiable RX5 10) (by decide +kernel))
  obtain ⟨c6, i6, k6⟩ := u_known (C := RX6) (T := TX6) (N := 3) (n := 3) hg mm_w6 (hts (.instantiable RX6 3) (by decide +kernel))
  obtain ⟨c7, i7, k7⟩ := u_known (C := RX7) (T := TX7) (N := 7) (n := 7) hg mm_w7 (hts (.instantiable RX7 7) (by decide +kernel))
  obtain ⟨c8, i8, k8⟩ := u_known (C := RX8) (T := TX8) (N := 5) (n := 5) hg mm_w8 (hts (.instantiable RX8 5) (by decide +kernel))
  obtain ⟨c9, i9, k9⟩ := u_known (C := RX10) (T := TX10) (N := 16) (n := 16) hg mm_w9 (hts (.instantiable RX10 16) (by decide +kernel))
  obtain ⟨ca, ia, ka⟩ := u_known (C := RX11) (T := TX11) (N := 37) (n := 37) hg mm_w10 (hts (.instantiable RX11 37) (by decide +kernel))
  obtain ⟨cI, kI, compI, z1, z2, z3⟩ := Cond.arrayClass_spec (hts (.arrayClass .int) (by decide +kernel))
  obtain ⟨comp, cR, kR, y1, y2, y3, y4, y5⟩ := Cond.arrayOver_spec (hts (.arrayOver (.object RX6)) (by decide +kernel))
  refine ⟨(fun k => match k with | 0 => c0 | 1 => c1 | 2 => c2 | 3 => c3 | 4 => c4 | 5 => c5 | 6 => c6 | 7 => c7 | 8 => c8 | 9 => c9 | _ => ca, fun k => match k with | 0 => i0 | 1 => i1 | 2 => i2 | 3 => i3 | 4 => i4 | 5 => i5 | 6 => i6 | 7 => i7 | 8 => i8 | 9 => i9 | _ => ia), cI, cR, fun k q hq => ?_, fun k q hq => ?_⟩
  · match k, hq with
    | 0, hq => cases hq; exact k0
    | 1, hq => cases hq; exact k1
    | 2, hq => cases hq; exact k2
    | 3, hq => cases hq; exact k3
    | 4, hq => cases hq; exact k4
    | 5, hq => cases hq; exact k5
    | 6, hq => cases hq; exact k6
    | 7, hq => cases hq; exact k7
    | 8, hq => cases hq; exact k8
    | 9, hq => cases hq; exact k9
    | 10, hq => cases hq; exact ka
    | k + 11, hq => simp [vwCl] at hq
  · match k, hq with
    | 0, hq => cases hq; exact ⟨fun n z => ⟨fun k h => (by cases h), kI, z2, compI, z3⟩, z1⟩
    | 1, hq => cases hq; exact ⟨fun n z => ⟨fun k h => (by cases h), kR, y3, comp, y4⟩, kR, comp, y3, y4, y1, y5⟩
    | k + 2, hq => simp at hq
/-- the law between its calls: both objects, its place i in the script -/
def LC (p : Program) (s : State) (m : MethodId) (meth : Method) (c0 : Code) (D : va_G) (cI cR : ClassId) (bS L : Nat) (xs : Nat → Int32) : Prop := p.tables.exec = Jvm.exec ∧ c0.code = cL_law ∧ c0.maxLocals = 4 ∧ (∀ w, mm_in w → w.before #[Value.ref bS] s = true) ∧ s.vm.findClass RL = some m.cls ∧ va_K D vwCl (mm_tys cI cR) s ∧ mm_E s ∧ va_X bS L xs s s.heap ∧ bS < s.heap.size ∧ L ≤ 2048 ∧ meth.sig.returnType = ret ∧ meth.locks = false
abbrev LV (s : State) (bS i : Nat) : List (Nat × Value) := [(3, .int (nI i)), (2, .ref (s.heap.size + 106)), (1, .ref (s.heap.size + 0)), (0, .ref bS)]
def LW (p : Program) (l : Launch) (e : Env) (s : State) (m : MethodId) (below : List Frame) (meth : Method) (c0 : Code) (D : va_G) (cI cR : ClassId) (bS : Nat) (pc i : Nat) (st : List Value) (hi : mm_HI) (τ : mm_T) : Prop := ∀ (H : Heap) (locs : List Loc) (ls : Array Slot), H.size = s.heap.size + 125 → mm_P D cI cR s.heap.size hi τ 125 H → mm_S s.heap.size s.heap H locs → lv_has ls 4 (LV s bS i) → W p l e room_1 s m #[Value.ref bS] below meth c0 H locs (125 - 0) (mm_sl 125 - mm_sl 0) (lw_Z below #[Value.ref bS] s) (F0 m pc ls st)
section LR
variable {p : Program} {l : Launch} {e : Env} {s : State} {m : MethodId} {below : List Frame} {meth : Method} {c0 : Code} {D : va_G} {cI cR : ClassId} {bS L : Nat} {xs : Nat → Int32} {pc i : Nat} {st : List Value} {hi : mm_HI} {τ : mm_T}
theorem l_a1 (C : LC p s m meth c0 D cI cR bS L xs) (hd : decode cL_law pc = .ok (.aload_n 1, 1)) (K : LW p l e s m below meth c0 D cI cR bS (pc + 1) i (.ref (s.heap.size + 0) :: st) hi τ) : LW p l e s m below meth c0 D cI cR bS pc i st hi τ := fun H locs ls h1 h2 h3 h4 => lv_aload_n C.1 C.2.1 hd (i := 1) rfl (lv_at h4 2 rfl) (K H locs ls h1 h2 h3 h4)
theorem l_a2 (C : LC p s m meth c0 D cI cR bS L xs) (hd : decode cL_law pc = .ok (.aload_n 2, 1)) (K : LW p l e s m below meth c0 D cI cR bS (pc + 1) i (.ref (s.heap.size + 106) :: st) hi τ) : LW p l e s m below meth c0 D cI cR bS pc i st hi τ := fun H locs ls h1 h2 h3 h4 => lv_aload_n C.1 C.2.1 hd (i := 2) rfl (lv_at h4 1 rfl) (K H locs ls h1 h2 h3 h4)
theorem l_VS {H : Heap} {locs : List Loc} (h1 : H.size = s.heap.size + 125) (h3 : mm_S s.heap.size s.heap H locs) : va_S (fun q : Nat => s.heap.size ≤ q) s.heap H locs := ⟨by omega, fun q hq _ => h3.1 q hq, h3.2⟩
theorem l_ld (C : LC p s m meth c0 D cI cR bS L xs) {j : Nat} (hd : decode cL_law pc = .ok (.iaload, 1)) (hj : j < L) (K : LW p l e s m below meth c0 D cI cR bS (pc + 1) i (.int (xs j) :: st) hi τ) : LW p l e s m below meth c0 D cI cR bS pc i (.int (nI j) :: .ref bS :: st) hi τ := by
  intro H locs ls h1 h2 h3 h4
  obtain ⟨hx, hb, -, -, -, -, -, hX, hbl, hL, -, -⟩ := C
  refine va_sld (A := fun q : Nat => s.heap.size ≤ q) hx hb hX hbl (Nat.not_le.mpr hbl) (l_VS h1 h3) (vp_in_nI hj (by omega)) hd ?_
  rw [nI_clamp (by omega)]
  exact K H locs ls h1 h2 h3 h4
theorem l_scr (C : LC p s m meth c0 D cI cR bS L xs) {k : Nat} {z : Int} (h0 : decode cL_law pc = .ok (.aload_n 0, 1)) (h1 : decode cL_law (pc + 1) = .ok (.iload_n 3, 1)) (h2 : decode cL_law (pc + 1 + 1) = .ok (.iconst z, 1)) (h3 : decode cL_law (pc + 1 + 1 + 1) = .ok (.iadd, 1)) (h4 : decode cL_law (pc + 1 + 1 + 1 + 1) = .ok (.iaload, 1)) (hz : Int32.ofInt z = nI k) (hk : i + k < L) (K : LW p l e s m below meth c0 D cI cR bS (pc + 1 + 1 + 1 + 1 + 1) i (.int (xs (i + k)) :: st) hi τ) : LW p l e s m below meth c0 D cI cR bS pc i st hi τ := by
  intro H locs ls g1 g2 g3 g4
  refine lv_aload_n C.1 C.2.1 h0 (i := 0) rfl (lv_at g4 3 rfl) ?_
  refine lv_iload_n C.1 C.2.1 h1 (i := 3) rfl (lv_at g4 0 rfl) ?_
  refine lv_iconst (v := nI k) C.1 C.2.1 h2 hz ?_
  refine lv_iadd C.1 C.2.1 h3 ?_
  rw [nI_add]
  exact l_ld C h4 hk K H locs ls g1 g2 g3 g4
theorem l_sl : mm_sl 125 - mm_sl 0 ≤ room_1.slots := by decide +kernel
theorem l_cV (C : LC p s m meth c0 D cI cR bS L xs) {ix na ci c : Nat} {y : MethodName} {as1 : List Value} {Pq : mm_Q} (hd : decode cL_law pc = .ok (.invokevirtual ix, 3)) (hv : mm_CV RL ix y na ci) (hna : as1.length = na) (hlay : mm_lay c = (0, ci)) (hcn : c < 125) (hw : wR 20 y (.ref c :: as1) hi τ Pq) (hsm : (st.map fun v => v.category).sum ≤ 8) (K : ∀ (v : Option Value) (hi2 : mm_HI) (τ2 : mm_T), Pq v hi2 τ2 → LW p l e s m below meth c0 D cI cR bS (pc + 3) i ((v.toList ++ st).map (mm_rl s.heap.size)) hi2 τ2) : LW p l e s m below meth c0 D cI cR bS pc i (((.ref c :: as1).reverse ++ st).map (mm_rl s.heap.size)) hi τ := by
  intro H locs ls g1 g2 g3 g4
  obtain ⟨hx, hb, hml, hts, hown, hK, hE, -⟩ := C
  exact mm_callV (n0 := 0) (n1 := 125) (n2 := 125) (d := 20) hx hb hml hts hown hK hE g2 g3 (Nat.zero_le _) g1 (by decide +kernel) (by decide +kernel) (by decide +kernel) l_sl hd hv hna hlay hcn (mm_sound l D cI cR s.heap.size 20 y _ hi τ 125 125 Pq hw) (Nat.le_refl _) hsm g4.1 (fun v hi2 τ2 H1 locs1 hq e1 hP1 hS1 => K v hi2 τ2 hq H1 locs1 ls e1 hP1 hS1 g4)
theorem l_eq (C : LC p s m meth c0 D cI cR bS L xs) {x : Int32} {off : Int} {tgt : Nat} (hd : decode cL_law pc = .ok (.if_icmp .eq off, 3)) (ht : (pc : Int) + off = (tgt : Int)) (K : LW p l e s m below meth c0 D cI cR bS tgt i st hi τ) : LW p l e s m below meth c0 D cI cR bS pc i (.int x :: .int x :: st) hi τ := fun H locs ls h1 h2 h3 h4 => lv_icmp_eq C.1 C.2.1 hd ht (fun _ => K H locs ls h1 h2 h3 h4) (fun q => absurd rfl q)
theorem l_leq (C : LC p s m meth c0 D cI cR bS L xs) {x : Int64} {off : Int} {tgt : Nat} (h0 : decode cL_law pc = .ok (.lcmp, 1)) (hd : decode cL_law (pc + 1) = .ok (.ifCond .eq off, 3)) (ht : ((pc + 1 : Nat) : Int) + off = (tgt : Int)) (K : LW p l e s m below meth c0 D cI cR bS tgt i st hi τ) : LW p l e s m below meth c0 D cI cR bS pc i (.long x :: .long x :: st) hi τ := fun H locs ls h1 h2 h3 h4 => W.lcmp C.1 C.2.1 h0 (lv_if_eq C.1 C.2.1 hd ht (fun _ => K H locs ls h1 h2 h3 h4) (fun q => absurd (by simp [lg_cmp]) q))
theorem l_inc (C : LC p s m meth c0 D cI cR bS L xs) (K : LW p l e s m below meth c0 D cI cR bS 18 (i + 4) [] hi τ) : LW p l e s m below meth c0 D cI cR bS 862 i [] hi τ := fun H locs ls h1 h2 h3 h4 => lv_iinc (v := nI (i + 4)) (lv' := LV s bS (i + 4)) (k := 0) C.1 C.2.1 dL_law_862 h4 rfl (inc4 i) (by decide) rfl (fun ls2 g => lv_goto (tgt := 18) C.1 C.2.1 dL_law_865 (by decide) (K H locs ls2 h1 h2 h3 g))
theorem l_end (C : LC p s m meth c0 D cI cR bS L xs) : LW p l e s m below meth c0 D cI cR bS 868 i [] hi τ := by
  intro H locs ls h1 h2 h3 h4
  refine lv_iconst (v := 1) C.1 C.2.1 dL_law_868 (by decide) ?_
  exact va_forget h3.2 (W.widen (k := 600000) (n := 7302250) (by decide +kernel) l_sl (lw_ret C.1 C.2.1 C.2.2.2.2.2.2.2.2.2.2.1 C.2.2.2.2.2.2.2.2.2.2.2 dL_law_869))
end LR
theorem l_gt {i L : Nat} (hi : i < 5000) (hL : L ≤ 2048) : nI L - nI 4 < nI i ↔ L < i + 4 := by
  rcases Nat.lt_or_ge L 4 with q | q
  · have h0 : nI L - nI 4 < 0 := by
      have h4 : ∀ z, z < 4 → nI z - nI 4 < 0 := by decide +kernel
      exact h4 L q
    exact ⟨fun _ => by omega, fun _ => Int32.lt_of_lt_of_le h0 (nI_pos' (by omega))⟩
  · rw [pk_sub q, nI_ltI (by omega) (by omega)]
    omega
