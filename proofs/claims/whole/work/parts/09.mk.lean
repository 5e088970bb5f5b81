section MK
variable {p : Program} {l : Launch} {e : Env} {R : Room} {s : State} {m : MethodId} {args : Array Value} {below : List Frame} {meth : Method} {c0 : Code} {H : Heap} {locs : List Loc} {cells slots : Nat} {Q : State → Prop}
variable {cc : ByteArray} {pc : Nat} {ls : Array Slot} {rest : List Value} {D : va_G} {cI cR : ClassId} {b n : Nat} {hi hi2 : mm_HI} {τ τ2 : mm_T} {own : String}
theorem mm_S.keep {H0 H2 : Heap} (h : mm_S b H0 H locs) (hq : ∀ q : Nat, q < b → H2[q]? = H[q]?) : mm_S b H0 H2 locs := ⟨fun q hl => by rw [hq q hl]; exact h.1 q hl, h.2⟩
theorem mm_dv {ty : FieldType} {c k t : Nat} (h : mm_tc ty = t) (ht : t = 0 ∨ t = 1 ∨ t = 2 ∨ t = 3) : defaultValue ty = mm_fv b (va_up hi c (fun _ => 0)) (va_up τ.1 c (fun _ => none), va_up τ.2 c (fun _ => 0)) c k t := by
  subst h
  cases ty <;> simp [mm_tc] at ht <;> simp [mm_fv, mm_tc, va_up, defaultValue, va_rf]
theorem mm_ft4 : ∀ ci k, mm_ft ci k = 0 ∨ mm_ft ci k = 1 ∨ mm_ft ci k = 2 ∨ mm_ft ci k = 3 := by
  have h : ∀ r ∈ mm_ftL, ∀ x ∈ r, x = 0 ∨ x = 1 ∨ x = 2 ∨ x = 3 := by decide +kernel
  intro ci k
  unfold mm_ft
  rw [List.getD_eq_getElem?_getD, List.getD_eq_getElem?_getD]
  cases h1 : mm_ftL[ci]? with
  | none => simp
  | some r =>
    simp only [Option.getD_some]
    cases h2 : r[k]? with
    | none => simp
    | some x => exact h r (List.mem_of_getElem? h1) x (List.mem_of_getElem? h2)
theorem mm_new {ix ci : Nat} (hx : p.tables.exec = Jvm.exec) (hb : c0.code = cc) (hts : ∀ w, mm_in w → w.before args s = true) (hown : s.vm.findClass own = some m.cls) (hK : va_K D vwCl (mm_tys cI cR) s) (hP : mm_P D cI cR b hi τ n H) (hS : mm_S b s.heap H locs) (hn : H.size = b + n) (hd : decode cc pc = .ok (.new ix, 3)) (h0 : mm_NW own ix ci) (h1 : mm_lay n = (0, ci)) (hc : cells + 1 ≤ R.cells) (hsl : slots + mm_sz n ≤ R.slots)
    (kk : ∀ H1 : Heap, H1.size = b + (n + 1) → mm_P D cI cR b (va_up hi n (fun _ => 0)) (va_up τ.1 n (fun _ => none), va_up τ.2 n (fun _ => 0)) (n + 1) H1 → mm_S b s.heap H1 locs → W p l e R s m args below meth c0 H1 locs (cells + 1) (slots + mm_sz n) Q (F0 m (pc + 3) ls (.ref (b + n) :: rest))) : W p l e R s m args below meth c0 H locs cells slots Q (F0 m pc ls rest) := by
  obtain ⟨C, T, N, e1, e2, e3, e4⟩ := h0
  obtain ⟨o1, o2, o3, ty, o4, o5⟩ := mm_cls e1
  have hz : mm_sz n = N := by unfold mm_sz; rw [h1]; exact o3.symm
  rw [hz] at kk hsl
  have hKn := hK.1 ci _ e1
  refine W.newcK hx hb hown (hts _ e2) (hts _ e3) (hts _ e4) rfl hd hc hsl hKn.2.1 hn fun H1 kC hkC f1 f2 f3 => ?_
  refine kk H1 (by omega) (hP.push ((mm_at_o h1).mpr ⟨_, e1, ?_⟩) (fun c1 hc1 => ⟨by simp [va_up, hc1], by simp [va_up, hc1], by simp [va_up, hc1]⟩) f3) (hS.keep (fun q hq => f3 q (by omega)))
  exact (u_born ty (mm_gts hts) o1 hKn hkC f1 o4).to (fun k hk => mm_dv (o5 k hk) (mm_ft4 ci k))
theorem mm_newa {N : Nat} {i : Int32} (hx : p.tables.exec = Jvm.exec) (hb : c0.code = cc) (hts : ∀ w, mm_in w → w.before args s = true) (hK : va_K D vwCl (mm_tys cI cR) s) (hP : mm_P D cI cR b hi τ n H) (hS : mm_S b s.heap H locs) (hn : H.size = b + n) (hd : decode cc pc = .ok (.newarray .int, 2)) (h0 : mm_lay n = (1, N)) (h1 : i = nI N) (h2 : N < 100000) (hc : cells + 1 ≤ R.cells) (hsl : slots + mm_sz n ≤ R.slots)
    (kk : ∀ H1 : Heap, H1.size = b + (n + 1) → mm_P D cI cR b (va_up hi n (fun _ => 0)) τ (n + 1) H1 → mm_S b s.heap H1 locs → W p l e R s m args below meth c0 H1 locs (cells + 1) (slots + mm_sz n) Q (F0 m (pc + 2) ls (.ref (b + n) :: rest))) : W p l e R s m args below meth c0 H locs cells slots Q (F0 m pc ls (.int i :: rest)) := by
  subst h1
  have hz : mm_sz n = N := by unfold mm_sz; rw [h0]; rfl
  rw [hz] at kk hsl
  refine va_newaK (atype := .int) hx hb (hts _ mm_arc) rfl hd rfl (nI_pos (by omega)) (nI_clamp (by omega)) (by show N * 4 ≤ _; omega) hc hsl hn fun H1 cA f1 f2 f3 f4 f5 => ?_
  have hcA : cA = cI := Option.some.inj (f5.symm.trans (hK.2 0 _ rfl).2)
  subst hcA
  refine kk H1 (by omega) (hP.push ((mm_at_a h0).mpr ?_) (fun c1 hc1 => ⟨by simp [va_up, hc1], rfl, rfl⟩) f3) (hS.keep (fun q hq => f3 q (by omega)))
  rw [f1]
  congr 2
  funext q
  simp [va_up]
  rfl
theorem mm_anew {ix N : Nat} {i : Int32} (hx : p.tables.exec = Jvm.exec) (hb : c0.code = cc) (hts : ∀ w, mm_in w → w.before args s = true) (hown : s.vm.findClass own = some m.cls) (hE : mm_E s) (hK : va_K D vwCl (mm_tys cI cR) s) (hP : mm_P D cI cR b hi τ n H) (hS : mm_S b s.heap H locs) (hn : H.size = b + n) (hd : decode cc pc = .ok (.anewarray ix, 3)) (hcl : mm_in (Cond.classLink own ix RX6)) (h0 : mm_lay n = (2, N)) (h1 : i = nI N) (h2 : N < 100000) (hc : cells + 1 ≤ R.cells) (hsl : slots + mm_sz n ≤ R.slots)
    (kk : ∀ H1 : Heap, H1.size = b + (n + 1) → mm_P D cI cR b hi (va_up τ.1 n (fun _ => none), τ.2) (n + 1) H1 → mm_S b s.heap H1 locs → W p l e R s m args below meth c0 H1 locs (cells + 1) (slots + mm_sz n) Q (F0 m (pc + 3) ls (.ref (b + n) :: rest))) : W p l e R s m args below meth c0 H locs cells slots Q (F0 m pc ls (.int i :: rest)) := by
  subst h1
  have hz : mm_sz n = N := by unfold mm_sz; rw [h0]; rfl
  rw [hz] at kk hsl
  have hcl2 := nI_clamp (n := N) (by omega)
  refine W.anew hx hb hown (hts _ hcl) (va_AO.use hE.2.2) rfl hd rfl (nI_pos (by omega)) (by rw [hcl2]; omega) hc (by rw [hcl2]; exact hsl) fun cA kA comp f1 f2 f3 f4 => ?_
  have hcA : cA = cR := by
    obtain ⟨_, _, _, _, _, g⟩ := (hK.2 1 _ rfl).2
    exact Option.some.inj (f1.symm.trans g)
  subst hcA
  rw [hcl2, arrV_new, hn]
  refine kk _ (by rw [Array.size_push, hn]; omega) (hP.push ((mm_at_q h0).mpr ?_) (fun c1 hc1 => ⟨rfl, by simp [va_up, hc1], rfl⟩) (fun q hq => by rw [Array.getElem?_push, if_neg (by omega)])) (hS.keep (fun q hq => by rw [Array.getElem?_push, if_neg (by omega)]))
  rw [← hn, Array.getElem?_push_size]
  congr 2
  funext q
  simp [va_up, va_rf]
theorem mm_nn {z : Int32} (hz : ¬ z < 0) : z.toInt = (z.toNatClampNeg : Int) := by
  have hz0 : (0 : Int) ≤ z.toInt := by
    have := Int32.not_lt.mp hz
    simpa using Int32.le_iff_toInt_le.mp this
  show z.toInt = ((z.toInt.toNat : Nat) : Int)
  omega
theorem mm_copy {ix c c1 N N1 : Nat} {sp dp z : Int32} (hx : p.tables.exec = Jvm.exec) (hb : c0.code = cc) (hml : c0.maxLocals = ls.size) (hts : ∀ w, mm_in w → w.before args s = true) (hown : s.vm.findClass own = some m.cls) (hK : va_K D vwCl (mm_tys cI cR) s) (hP : mm_P D cI cR b hi τ n H) (hS : mm_S b s.heap H locs) (hd : decode cc pc = .ok (.invokestatic ix, 3)) (hl : mm_in (Cond.methodLink own ix arraycopyName)) (h1 : mm_lay c = (1, N)) (h2 : c < n) (h3 : mm_lay c1 = (1, N1)) (h4 : c1 < n) (h5 : ¬ sp < 0) (h6 : ¬ dp < 0) (h7 : ¬ z < 0) (h8 : sp.toNatClampNeg + z.toNatClampNeg ≤ N) (h9 : dp.toNatClampNeg + z.toNatClampNeg ≤ N1) (hfr : 1 ≤ R.frames) (hlo : (rest.map fun v => v.category).sum + 18 ≤ R.locals)
    (kk : ∀ (H1 : Heap) (locs1 : List Loc), H1.size = H.size → mm_P D cI cR b (va_up hi c1 (va_cpy (hi c) (hi c1) sp.toNatClampNeg dp.toNatClampNeg z.toNatClampNeg)) τ n H1 → mm_S b s.heap H1 locs1 → W p l e R s m args below meth c0 H1 locs1 cells slots Q (F0 m (pc + 3) ls rest)) : W p l e R s m args below meth c0 H locs cells slots Q (F0 m pc ls (.int z :: .int dp :: .ref (b + c1) :: .int sp :: .ref (b + c) :: rest)) := by
  intro T hT X
  have g0 := (mm_at_a h1).mp (hP c h2)
  have g1 := (mm_at_a h3).mp (hP c1 h4)
  obtain ⟨-, k0, hk0, cm0, hkk0⟩ := (hK.2 0 _ rfl).1 N (fun j => .int (hi c j))
  obtain ⟨-, k1, hk1, cm1, hkk1⟩ := (hK.2 0 _ rfl).1 N1 (fun j => .int (hi c1 j))
  obtain ⟨vm', X', step⟩ := X.arraycopy hx hown (hts _ hl) (hts _ mm_acn) (hts _ mm_acs) (hts _ mm_aci) (src := b + c) (dst := b + c1) (srcPos := sp) (destPos := dp) (n := z) (by rw [hT]; exact g0) (by rw [hT]; exact g1)
    (fun _ h => by cases h) (fun _ h => by cases h) (fun h => by cases h) (fun h => by cases h) hk0 hk1 hkk0 hkk1 (by simp [refKind]) h5 h6 h7
    (by rw [mm_nn h5, mm_nn h7, arrV_size]; omega)
    (by rw [mm_nn h6, mm_nn h7, arrV_size]; omega)
    (fun vm₁ _ i hi' => by
      have e1 : (arrV cI N (fun j => .int (hi c j))).slots.getD (sp.toNatClampNeg + i) .null = .int (hi c (sp.toNatClampNeg + i)) := by
        rw [Array.getD_eq_getD_getElem?, arrV_read _ _ (by omega)]
        rfl
      refine ⟨?_, ?_⟩
      · rw [e1]; rfl
      · rw [e1]; exact trivial)
    (g := F0 m pc ls (.int z :: .int dp :: .ref (b + c1) :: .int sp :: .ref (b + c) :: rest)) rfl (by rw [hml]) (rest := rest) rfl (by rw [hb]; exact hd) hfr (by show 2 * 0 + _ + (7 + 11) ≤ _; omega)
  have e1 : copied (arrV cI N (fun j => .int (hi c j))) (arrV cI N1 (fun j => .int (hi c1 j))) sp dp z = arrV cI N1 (fun j => .int (va_cpy (hi c) (hi c1) sp.toNatClampNeg dp.toNatClampNeg z.toNatClampNeg j)) := va_copied (fun q => .int q) cI cI (hi c) (hi c1) h8
  rw [e1] at X' step
  have hlt : b + c1 < H.size := (Array.getElem?_eq_some_iff.mp g1).1
  have oq : ∀ (x : Cell) (q : Nat), q ≠ b + c1 → (H.setIfInBounds (b + c1) x)[q]? = H[q]? := fun x q hq => by simp [Array.getElem?_setIfInBounds, Ne.symm hq]
  obtain ⟨t, a1, b1⟩ := kk (H.setIfInBounds (b + c1) (arrV cI N1 (fun j => .int (va_cpy (hi c) (hi c1) sp.toNatClampNeg dp.toNatClampNeg z.toNatClampNeg j)))) _ (by simp) (hP.put ((mm_at_a h3).mpr (by simp [va_up, Array.getElem?_setIfInBounds, hlt])) (fun c2 hc2 => ⟨by simp [va_up, hc2], rfl, rfl⟩) (oq _))
    ⟨fun q hq => by rw [oq _ q (by omega)]; exact hS.1 q hq, fun q hq => by
      rcases List.mem_append.mp hq with h | h
      · exact hS.2 q h
      · obtain ⟨w, -, hw⟩ := List.mem_map.mp h
        rw [← hw]
        exact Nat.le_add_right _ _⟩ _ (by rw [← hT]; rfl) X'
  exact ⟨t, step t a1, b1⟩
end MK
