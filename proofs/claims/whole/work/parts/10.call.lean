def mm_Pc (D : va_G) (cI cR : ClassId) (b : Nat) (as : List Value) (hi : mm_HI) (τ : mm_T) (n : Nat) : Array Value → State → Prop := va_Pc (as.map (mm_rl b)) (fun U => U.heap.size = b + n ∧ mm_P D cI cR b hi τ n U.heap ∧ va_K D vwCl (mm_tys cI cR) U ∧ mm_E U)
def mm_Qc (D : va_G) (cI cR : ClassId) (b n1 : Nat) (Post : mm_Q) : Array Value → State → Outcome → State → Prop := fun _ st oc t => (∃ (v : Option Value) (hi : mm_HI) (τ : mm_T), oc = .returned (v.map (mm_rl b)) ∧ Post v hi τ ∧ t.heap.size = b + n1 ∧ mm_P D cI cR b hi τ n1 t.heap) ∧ ∀ q : Nat, q < b → t.heap[q]? = st.heap[q]?
abbrev mm_rm (d n n1 : Nat) : Room := { frames := d, cells := n1 - n, slots := mm_sl n1 - mm_sl n, locals := 64 * d }
def mm_Met (l : Launch) (D : va_G) (cI cR : ClassId) (b d : Nat) : mm_call := fun y as hi τ n n1 Post => ∃ (bytes : ByteArray) (maxL : Nat) (ret : Option FieldType), mm_M y bytes maxL ret ∧ n ≤ n1 ∧ Met l y (Cond.code y bytes maxL ret :: mm_g) (mm_rm d n n1) (mm_Pc D cI cR b as hi τ n) (mm_Qc D cI cR b n1 Post) (n1 - n) (mm_sl n1 - mm_sl n) (fun q => b ≤ q)
section MC
variable {p : Program} {l : Launch} {e : Env} {R : Room} {s : State} {m : MethodId} {args : Array Value} {below : List Frame} {meth : Method} {c0 : Code} {H : Heap} {locs : List Loc} {cells slots : Nat} {Q : State → Prop}
variable {cc : ByteArray} {pc nL ix na d n0 n1 n2 ci c : Nat} {ls : Array Slot} {st as as1 rest : List Value} {D : va_G} {cI cR : ClassId} {b n : Nat} {hi hi2 : mm_HI} {τ τ2 : mm_T} {own : String} {y : MethodName} {Pq : mm_Q}
theorem mm_blind : FrameBlind (mm_Pc D cI cR b as hi τ n) := fun a U g mk q => by
  obtain ⟨q0, q1, q2, q3, q4⟩ := q
  exact ⟨q0, q1, q2, va_K.moved (u := U) (U := U.calling g mk a) (Vm.Alike.refl U.vm) q3, mm_E.same (s := U) rfl q4⟩
theorem mm_pre (hn : H.size = b + n) (hP : mm_P D cI cR b hi τ n H) (hK : va_K D vwCl (mm_tys cI cR) s) (hE : mm_E s) : ∀ U : State, U.heap = H → s.WarmedH U.vm → mm_Pc D cI cR b as hi τ n (as.map (mm_rl b)).toArray U := fun U hU hW =>
  ⟨rfl, by rw [hU]; exact hn, by rw [hU]; exact hP, va_K.moved hW.alike hK, hE.warm hW⟩
theorem mm_goodM {bytes : ByteArray} {maxL : Nat} {ret : Option FieldType} (h : mm_M y bytes maxL ret) : GoodIn mm_g (Cond.code y bytes maxL ret :: mm_g) := fun w hw => by
  rcases List.mem_cons.mp hw with rfl | hw
  · exact mm_g_good _ (mm_in_g h.1)
  · exact mm_g_good _ hw
theorem mm_run {mc ms : Nat} {st0 : List Value} {as0 : Array Value} (hr : va_Run p l e R s m args below meth c0 H locs cells slots mc ms (F0 m pc ls st0) rest (mm_Qc D cI cR b n2 Pq as0) (fun q => b ≤ q)) (hS : mm_S b s.heap H locs)
    (kk : ∀ (v : Option Value) (hi2 : mm_HI) (τ2 : mm_T) (H1 : Heap) (locs1 : List Loc), Pq v hi2 τ2 → H1.size = b + n2 → mm_P D cI cR b hi2 τ2 n2 H1 → mm_S b s.heap H1 locs1 → W p l e R s m args below meth c0 H1 locs1 (cells + mc) (slots + ms) Q (F0 m (pc + 3) ls ((v.map (mm_rl b)).toList ++ rest))) : W p l e R s m args below meth c0 H locs cells slots Q (F0 m pc ls st0) := by
  intro T hT X
  obtain ⟨v, st₀, t, T', L, h0, X', hL, e1, e2, ⟨⟨v1, hi1, τ1, hv, hq, hz, hP1⟩, hk⟩, stp⟩ := hr T hT X
  cases hv
  rw [h0] at hk
  obtain ⟨t2, a1, b1⟩ := kk v1 hi1 τ1 T'.heap (locs ++ L) hq (by rw [e1]; exact hz) (by rw [e1]; exact hP1) ⟨fun q hq => by rw [e1, hk q hq]; exact hS.1 q hq, fun q hq => by
      rcases List.mem_append.mp hq with h | h
      · exact hS.2 q h
      · exact hL q h⟩ T' rfl X'
  exact ⟨t2, stp t2 a1, b1⟩
theorem mm_room2 (hnn : n0 ≤ n) (h1 : n ≤ n2) (h2 : n2 ≤ n1) : (n - n0) + (n2 - n) = n2 - n0 ∧ (mm_sl n - mm_sl n0) + (mm_sl n2 - mm_sl n) = mm_sl n2 - mm_sl n0 ∧ n2 - n0 ≤ n1 - n0 ∧ mm_sl n2 - mm_sl n0 ≤ mm_sl n1 - mm_sl n0 := by
  have a1 := mm_sl_mono hnn
  have a2 := mm_sl_mono h1
  have a3 := mm_sl_mono h2
  omega
theorem mm_tl (v : Option Value) : (v.toList ++ st).map (mm_rl b) = (v.map (mm_rl b)).toList ++ st.map (mm_rl b) := by cases v <;> rfl
theorem mm_callS (hx : p.tables.exec = Jvm.exec) (hb : c0.code = cc) (hml : c0.maxLocals = nL) (hts : ∀ w, mm_in w → w.before args s = true) (hown : s.vm.findClass own = some m.cls) (hK : va_K D vwCl (mm_tys cI cR) s) (hE : mm_E s) (hP : mm_P D cI cR b hi τ n H) (hS : mm_S b s.heap H locs) (hnn : n0 ≤ n) (hn : H.size = b + n) (hR1 : d + 1 ≤ R.frames) (hR2 : 64 * (d + 1) ≤ R.locals) (hR3 : n1 - n0 ≤ R.cells) (hR4 : mm_sl n1 - mm_sl n0 ≤ R.slots)
    (hd : decode cc pc = .ok (.invokestatic ix, 3)) (hv : mm_CS own ix y na) (hna : as.length = na) (hM : mm_Met l D cI cR b d y as hi τ n n2 Pq) (hn2 : n2 ≤ n1) (hsm : (st.map fun v => v.category).sum ≤ 8) (hsz : ls.size = nL)
    (kk : ∀ (v : Option Value) (hi2 : mm_HI) (τ2 : mm_T) (H1 : Heap) (locs1 : List Loc), Pq v hi2 τ2 → H1.size = b + n2 → mm_P D cI cR b hi2 τ2 n2 H1 → mm_S b s.heap H1 locs1 → W p l e R s m args below meth c0 H1 locs1 (n2 - n0) (mm_sl n2 - mm_sl n0) Q (F0 m (pc + 3) ls ((v.toList ++ st).map (mm_rl b)))) :
    W p l e R s m args below meth c0 H locs (n - n0) (mm_sl n - mm_sl n0) Q (F0 m pc ls ((as.reverse ++ st).map (mm_rl b))) := by
  obtain ⟨bytes, maxL, ret, hm, hle, hMet⟩ := hM
  obtain ⟨r1, r2, r3, r4⟩ := mm_room2 hnn hle hn2
  have hcb : CallB R s args own ix y bytes maxL ret (Cond.code y bytes maxL ret :: mm_g) (mm_rm d n n2) (n2 - n) (mm_sl n2 - mm_sl n) na := callB_of na (mm_gts hts) (mm_goodM hm) rfl rfl rfl (hts _ hm.2.2.2.1) (hts _ hv.1) ⟨hm.2.2.2.2.1.1, hm.2.2.2.2.1.2, hv.2.2⟩ ⟨hR1, by have := hm.2.2.1; show 8 + (maxL + 11) + 64 * d ≤ _; omega⟩
  have hr := va_runS (e := e) (below := below) (meth := meth) (locs := locs) (cells := n - n0) (slots := mm_sl n - mm_sl n0) (As := as.map (mm_rl b)) (rest := st.map (mm_rl b)) (g := F0 m pc ls ((as.reverse ++ st).map (mm_rl b))) (H := H) ⟨hx, hb, hml, hown, mm_gts hts⟩ hMet ⟨hcb, hts _ hv.2.1⟩ ⟨mm_blind, mm_pre hn hP hK hE⟩ rfl (by rw [List.length_map]; exact hna) hsz (by show List.map _ _ = _; rw [List.map_append, List.map_reverse]) (lv_room (by rw [mm_rlm]; exact hsm)) hd ⟨by omega, by omega⟩
  refine mm_run hr hS (fun v hi2 τ2 H1 locs1 hq e1 hP1 hS1 => ?_)
  have h9 := kk v hi2 τ2 H1 locs1 hq e1 hP1 hS1
  rw [mm_tl, ← r1, ← r2] at h9
  exact h9
theorem mm_recv (hK : va_K D vwCl (mm_tys cI cR) s) (hP : mm_P D cI cR b hi τ n H) (hlay : mm_lay c = (0, ci)) (hcn : c < n) {C : String} {T : u_T} {N : Nat} (hc : vwCl[ci]? = some (C, T, N)) : ∃ cell : Cell, H[b + c]? = some cell ∧ cell.vm.isStatics = false ∧ s.vm.findClass C = some cell.cls := by
  obtain ⟨q, f1, cell, q1, q2, q3, -⟩ := (mm_at_o hlay).mp (hP c hcn)
  exact ⟨cell, q1, by rw [q3]; rfl, by rw [q2]; exact (hK.1 ci _ hc).2.1⟩
theorem mm_stk : ((((.ref c :: as1) : List Value).reverse ++ st).map (mm_rl b)) = (as1.map (mm_rl b)).reverse ++ .ref (b + c) :: st.map (mm_rl b) := by
  simp [mm_rl]
theorem mm_callV (hx : p.tables.exec = Jvm.exec) (hb : c0.code = cc) (hml : c0.maxLocals = nL) (hts : ∀ w, mm_in w → w.before args s = true) (hown : s.vm.findClass own = some m.cls) (hK : va_K D vwCl (mm_tys cI cR) s) (hE : mm_E s) (hP : mm_P D cI cR b hi τ n H) (hS : mm_S b s.heap H locs) (hnn : n0 ≤ n) (hn : H.size = b + n) (hR1 : d + 1 ≤ R.frames) (hR2 : 64 * (d + 1) ≤ R.locals) (hR3 : n1 - n0 ≤ R.cells) (hR4 : mm_sl n1 - mm_sl n0 ≤ R.slots)
    (hd : decode cc pc = .ok (.invokevirtual ix, 3)) (hv : mm_CV own ix y na ci) (hna : as1.length = na) (hlay : mm_lay c = (0, ci)) (hcn : c < n) (hM : mm_Met l D cI cR b d y (.ref c :: as1) hi τ n n2 Pq) (hn2 : n2 ≤ n1) (hsm : (st.map fun v => v.category).sum ≤ 8) (hsz : ls.size = nL)
    (kk : ∀ (v : Option Value) (hi2 : mm_HI) (τ2 : mm_T) (H1 : Heap) (locs1 : List Loc), Pq v hi2 τ2 → H1.size = b + n2 → mm_P D cI cR b hi2 τ2 n2 H1 → mm_S b s.heap H1 locs1 → W p l e R s m args below meth c0 H1 locs1 (n2 - n0) (mm_sl n2 - mm_sl n0) Q (F0 m (pc + 3) ls ((v.toList ++ st).map (mm_rl b)))) :
    W p l e R s m args below meth c0 H locs (n - n0) (mm_sl n - mm_sl n0) Q (F0 m pc ls (((.ref c :: as1).reverse ++ st).map (mm_rl b))) := by
  obtain ⟨bytes, maxL, ret, hm, hle, hMet⟩ := hM
  obtain ⟨r1, r2, r3, r4⟩ := mm_room2 hnn hle hn2
  obtain ⟨v1, v2, v3, v4, T, N, v5⟩ := hv
  have hcb : CallB R s args own ix y bytes maxL ret (Cond.code y bytes maxL ret :: mm_g) (mm_rm d n n2) (n2 - n) (mm_sl n2 - mm_sl n) na := callB_of na (mm_gts hts) (mm_goodM hm) rfl rfl rfl (hts _ hm.2.2.2.1) (hts _ v1) ⟨hm.2.2.2.2.1.1, hm.2.2.2.2.1.2, v4⟩ ⟨hR1, by have := hm.2.2.1; show 8 + (maxL + 11) + 64 * d ≤ _; omega⟩
  have hr := va_runV (e := e) (below := below) (meth := meth) (locs := locs) (cells := n - n0) (slots := mm_sl n - mm_sl n0) (C := y.cls) (b := b + c) (As := as1.map (mm_rl b)) (rest := st.map (mm_rl b)) (g := F0 m pc ls (((.ref c :: as1).reverse ++ st).map (mm_rl b))) (H := H) ⟨hx, hb, hml, hown, mm_gts hts⟩ hMet ⟨hcb, hts _ v2, hts _ v3⟩ ⟨mm_blind, mm_recv hK hP hlay hcn v5, mm_pre hn hP hK hE⟩ rfl (by rw [List.length_map]; exact hna) hsz mm_stk (lv_room (by rw [mm_rlm]; exact hsm)) hd ⟨by omega, by omega⟩
  refine mm_run hr hS (fun v hi2 τ2 H1 locs1 hq e1 hP1 hS1 => ?_)
  have h9 := kk v hi2 τ2 H1 locs1 hq e1 hP1 hS1
  rw [mm_tl, ← r1, ← r2] at h9
  exact h9
theorem mm_callU (hx : p.tables.exec = Jvm.exec) (hb : c0.code = cc) (hml : c0.maxLocals = nL) (hts : ∀ w, mm_in w → w.before args s = true) (hown : s.vm.findClass own = some m.cls) (hK : va_K D vwCl (mm_tys cI cR) s) (hE : mm_E s) (hP : mm_P D cI cR b hi τ n H) (hS : mm_S b s.heap H locs) (hnn : n0 ≤ n) (hn : H.size = b + n) (hR1 : d + 1 ≤ R.frames) (hR2 : 64 * (d + 1) ≤ R.locals) (hR3 : n1 - n0 ≤ R.cells) (hR4 : mm_sl n1 - mm_sl n0 ≤ R.slots)
    (hd : decode cc pc = .ok (.invokevirtual ix, 3)) (hv : mm_CU own ix y na ci) (hna : as1.length = na) (hlay : mm_lay c = (0, ci)) (hcn : c < n) (hM : mm_Met l D cI cR b d y (.ref c :: as1) hi τ n n2 Pq) (hn2 : n2 ≤ n1) (hsm : (st.map fun v => v.category).sum ≤ 8) (hsz : ls.size = nL)
    (kk : ∀ (v : Option Value) (hi2 : mm_HI) (τ2 : mm_T) (H1 : Heap) (locs1 : List Loc), Pq v hi2 τ2 → H1.size = b + n2 → mm_P D cI cR b hi2 τ2 n2 H1 → mm_S b s.heap H1 locs1 → W p l e R s m args below meth c0 H1 locs1 (n2 - n0) (mm_sl n2 - mm_sl n0) Q (F0 m (pc + 3) ls ((v.toList ++ st).map (mm_rl b)))) :
    W p l e R s m args below meth c0 H locs (n - n0) (mm_sl n - mm_sl n0) Q (F0 m pc ls (((.ref c :: as1).reverse ++ st).map (mm_rl b))) := by
  obtain ⟨bytes, maxL, ret, hm, hle, hMet⟩ := hM
  obtain ⟨r1, r2, r3, r4⟩ := mm_room2 hnn hle hn2
  obtain ⟨x, C, owner, T, N, v1, v2, v3, v4, v5, v6, v7, v8⟩ := hv
  have hdecl : va_Decl s ⟨owner, x.name, x.desc⟩ := by
    rcases v5 with h | ⟨b0, m0, r0, h1, h2⟩
    · exact va_Decl.abs (hE.2.1 _ h)
    · exact va_Decl.of (hts _ h1) (hts _ h2)
  have hcb : va_CU R s args own C owner ix x y bytes maxL ret (Cond.code y bytes maxL ret :: mm_g) (mm_rm d n n2) (n2 - n) (mm_sl n2 - mm_sl n) na := by
    refine ⟨⟨rfl, rfl, hR1, by have := hm.2.2.1; show 8 + (maxL + 11) + 64 * d ≤ _; omega, pay_in (mm_gts hts) (mm_goodM hm), List.mem_cons_self⟩, hts _ hm.1, hts _ hm.2.2.2.1, v6, fun sig h => ?_, hts _ v1, hts _ v2, hdecl, hts _ v3, hts _ v4⟩
    have h2 := v7
    unfold mm_par at h2
    rw [h] at h2
    exact (Option.some.inj h2).symm
  have hr := va_runU (e := e) (below := below) (meth := meth) (locs := locs) (cells := n - n0) (slots := mm_sl n - mm_sl n0) (C := C) (b := b + c) (As := as1.map (mm_rl b)) (rest := st.map (mm_rl b)) (g := F0 m pc ls (((.ref c :: as1).reverse ++ st).map (mm_rl b))) (H := H) ⟨hx, hb, hml, hown, mm_gts hts⟩ hMet hcb ⟨mm_blind, mm_recv hK hP hlay hcn v8, mm_pre hn hP hK hE⟩ rfl (by rw [List.length_map]; exact hna) hsz mm_stk (lv_room (by rw [mm_rlm]; exact hsm)) hd ⟨by omega, by omega⟩
  refine mm_run hr hS (fun v hi2 τ2 H1 locs1 hq e1 hP1 hS1 => ?_)
  have h9 := kk v hi2 τ2 H1 locs1 hq e1 hP1 hS1
  rw [mm_tl, ← r1, ← r2] at h9
  exact h9
theorem mm_callI (hx : p.tables.exec = Jvm.exec) (hb : c0.code = cc) (hml : c0.maxLocals = nL) (hts : ∀ w, mm_in w → w.before args s = true) (hown : s.vm.findClass own = some m.cls) (hK : va_K D vwCl (mm_tys cI cR) s) (hE : mm_E s) (hP : mm_P D cI cR b hi τ n H) (hS : mm_S b s.heap H locs) (hnn : n0 ≤ n) (hn : H.size = b + n) (hR1 : d + 1 ≤ R.frames) (hR2 : 64 * (d + 1) ≤ R.locals) (hR3 : n1 - n0 ≤ R.cells) (hR4 : mm_sl n1 - mm_sl n0 ≤ R.slots)
    (hd : decode cc pc = .ok (.invokespecial ix, 3)) (hv : mm_CI own ix y na) (hna : as1.length = na) (hM : mm_Met l D cI cR b d y (.ref c :: as1) hi τ n n2 Pq) (hn2 : n2 ≤ n1) (hsm : (st.map fun v => v.category).sum ≤ 8) (hsz : ls.size = nL)
    (kk : ∀ (v : Option Value) (hi2 : mm_HI) (τ2 : mm_T) (H1 : Heap) (locs1 : List Loc), Pq v hi2 τ2 → H1.size = b + n2 → mm_P D cI cR b hi2 τ2 n2 H1 → mm_S b s.heap H1 locs1 → W p l e R s m args below meth c0 H1 locs1 (n2 - n0) (mm_sl n2 - mm_sl n0) Q (F0 m (pc + 3) ls ((v.toList ++ st).map (mm_rl b)))) :
    W p l e R s m args below meth c0 H locs (n - n0) (mm_sl n - mm_sl n0) Q (F0 m pc ls (((.ref c :: as1).reverse ++ st).map (mm_rl b))) := by
  obtain ⟨bytes, maxL, ret, hm, hle, hMet⟩ := hM
  obtain ⟨r1, r2, r3, r4⟩ := mm_room2 hnn hle hn2
  obtain ⟨v1, v2, v3, v4⟩ := hv
  have hret := hm.2.2.2.2.2 v1
  subst hret
  have hroom : d + 1 ≤ R.frames ∧ 8 + (maxL + 11) + (mm_rm d n n2).locals ≤ R.locals := ⟨hR1, by have := hm.2.2.1; show 8 + (maxL + 11) + 64 * d ≤ _; omega⟩
  have hr : va_Run p l e R s m args below meth c0 H locs (n - n0) (mm_sl n - mm_sl n0) (n2 - n) (mm_sl n2 - mm_sl n) (F0 m pc ls (((.ref c :: as1).reverse ++ st).map (mm_rl b))) (st.map (mm_rl b)) (mm_Qc D cI cR b n2 Pq (Value.ref (b + c) :: as1.map (mm_rl b)).toArray) (fun q => b ≤ q) := by
    rcases v4 with h | ⟨host, h⟩
    · exact va_runI (b := b + c) (As := as1.map (mm_rl b)) ⟨hx, hb, hml, hown, mm_gts hts⟩ hMet (cwI na (mm_gts hts) (mm_goodM hm) rfl rfl rfl (hts _ hm.2.2.2.1) (hts _ h) (hts _ v2) v1 ⟨hm.2.2.2.2.1.1, hm.2.2.2.2.1.2, v3⟩ hroom) ⟨mm_blind, mm_pre hn hP hK hE⟩ rfl (by rw [List.length_map]; exact hna) hsz mm_stk (lv_room (by rw [mm_rlm]; exact hsm)) hd ⟨by omega, by omega⟩
    · exact va_runIN (b := b + c) (As := as1.map (mm_rl b)) ⟨hx, hb, hml, hown, mm_gts hts⟩ hMet ⟨va_cnB na (mm_gts hts) (mm_goodM hm) rfl rfl rfl (hE.1 _ _ _ _ h) (hts _ hm.2.2.2.1) ⟨hm.2.2.2.2.1.1, hm.2.2.2.2.1.2, v3⟩ hroom, v1, hts _ v2⟩ ⟨mm_blind, mm_pre hn hP hK hE⟩ rfl (by rw [List.length_map]; exact hna) hsz mm_stk (lv_room (by rw [mm_rlm]; exact hsm)) hd ⟨by omega, by omega⟩
  refine mm_run hr hS (fun v hi2 τ2 H1 locs1 hq e1 hP1 hS1 => ?_)
  have h9 := kk v hi2 τ2 H1 locs1 hq e1 hP1 hS1
  rw [mm_tl, ← r1, ← r2] at h9
  exact h9
end MC
