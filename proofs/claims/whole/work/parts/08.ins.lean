theorem mm_oi1 : mm_in (Cond.instanceMethod objectInit) := mi_t 89 (by decide +kernel) (by decide +kernel)
theorem mm_oi2 : mm_in (Cond.code objectInit ⟨#[0xb1]⟩ 1 none) := mi_t 90 (by decide +kernel) (by decide +kernel)
theorem mm_acn : mm_in (Cond.native arraycopyName) := mi_t 555 (by decide +kernel) (by decide +kernel)
theorem mm_acs : mm_in (Cond.static arraycopyName) := mi_t 554 (by decide +kernel) (by decide +kernel)
theorem mm_aci : mm_in (Cond.initialized "java/lang/System") := mi_t 80 (by decide +kernel) (by decide +kernel)
theorem mm_arc : mm_in (Cond.arrayClass .int) := mi_t 114 (by decide +kernel) (by decide +kernel)
theorem mm_mi : mm_in (Cond.initialized "java/lang/Math") := mi_t 81 (by decide +kernel) (by decide +kernel)
theorem mm_mx1 : mm_in (Cond.static Lib.Math.max.name) := mi_t 608 (by decide +kernel) (by decide +kernel)
theorem mm_mx2 : mm_in (Cond.code Lib.Math.max.name Lib.Math.max.code 2 (some .int)) := mi_t 609 (by decide +kernel) (by decide +kernel)
theorem mm_ab1 : mm_in (Cond.static Lib.Math.abs.name) := mi_t 689 (by decide +kernel) (by decide +kernel)
theorem mm_ab2 : mm_in (Cond.code Lib.Math.abs.name Lib.Math.abs.code 1 (some .int)) := mi_t 690 (by decide +kernel) (by decide +kernel)
section MI
variable {p : Program} {l : Launch} {e : Env} {R : Room} {s : State} {m : MethodId} {args : Array Value} {below : List Frame} {meth : Method} {c0 : Code} {H : Heap} {locs : List Loc} {cells slots : Nat} {Q : State → Prop}
variable {cc : ByteArray} {pc : Nat} {ls : Array Slot} {rest : List Value} {D : va_G} {cI cR : ClassId} {b n : Nat} {hi hi2 : mm_HI} {τ τ2 : mm_T} {own : String}
theorem mm_gts (hts : ∀ w, mm_in w → w.before args s = true) : ∀ w ∈ mm_g, w.before args s = true := fun w h => hts w (List.mem_filter.mp h)
theorem mm_same (hts : ∀ w, mm_in w → w.before args s = true) {T : u_T} {k : Nat} {ref : String} (h : (T k).1 = ref ∨ mm_in (Cond.sameField ref (T k).1 (T k).2.1 (T k).2.2.1)) (x : ClassId × Class × Nat × Field) (hx : s.fieldFound? (T k).1 (T k).2.1 (T k).2.2.1 = some x) : s.fieldFound? ref (T k).2.1 (T k).2.2.1 = some x := by
  rcases h with h | h
  · rw [← h]; exact hx
  · exact u_same (hts _ h) x hx
theorem mm_getf {ix ci k tc c : Nat} {fin ow : Bool} (hx : p.tables.exec = Jvm.exec) (hb : c0.code = cc) (hts : ∀ w, mm_in w → w.before args s = true) (hown : s.vm.findClass own = some m.cls) (hK : va_K D vwCl (mm_tys cI cR) s) (hP : mm_P D cI cR b hi τ n H) (hd : decode cc pc = .ok (.getfield ix, 3)) (h0 : mm_FL own ix ci k tc fin ow) (h2 : mm_lay c = (0, ci)) (h3 : c < n) {v : Value} (hv : mm_fv b hi τ c k tc = v)
    (kk : W p l e R s m args below meth c0 H locs cells slots Q (F0 m (pc + 3) ls (v :: rest))) : W p l e R s m args below meth c0 H locs cells slots Q (F0 m pc ls (.ref (b + c) :: rest)) := by
  obtain ⟨C, T, N, ref, ty, e1, e2, e3, e4, e5, e6, e7, e8, e9, -⟩ := h0
  obtain ⟨q, f1, cell, q1, q2, q3, q4⟩ := (mm_at_o h2).mp (hP c h3)
  have hr : q = (C, T, N) := Option.some.inj (f1.symm.trans e1)
  subst hr
  obtain ⟨hS, hfc, kC, hkC, hkind⟩ := hK.1 ci _ e1
  obtain ⟨cf, kf, fi, f, hi', hsl⟩ := hS k e3
  refine W.getf hx hb hown (hts _ e4) (mm_same hts e5 _ hi') (u_facts hfc hkC (u_lays (mm_gts hts) (mm_cls e1).1 e3) hi').1 q1 (by rw [q3]; exact fun h => by cases h) (v := v) ?_ rfl rfl hd kk
  rw [hsl, q4 k e3]
  show some (mm_fv b hi τ c k (mm_ft ci k)) = some v
  rw [e8, hv]
theorem mm_putf {ix ci k tc c : Nat} {fin ow ini : Bool} (hx : p.tables.exec = Jvm.exec) (hb : c0.code = cc) (hts : ∀ w, mm_in w → w.before args s = true) (hown : s.vm.findClass own = some m.cls) (hK : va_K D vwCl (mm_tys cI cR) s) (hP : mm_P D cI cR b hi τ n H) (hS : mm_S b s.heap H locs) (hini : ini = true → meth.name = "<init>") (hd : decode cc pc = .ok (.putfield ix, 3)) (h0 : mm_FL own ix ci k tc fin ow) (hf : fin = false ∨ (ini = true ∧ ow = true)) (h2 : mm_lay c = (0, ci)) (h3 : c < n) {v : Value} (hok : ∀ ty : FieldType, mm_tc ty = tc → narrow ty v = v ∧ fits ty v = true)
    (hnew : ∀ ft : Nat → Nat, ft k = tc → ∀ j, updV (fun k => mm_fv b hi τ c k (ft k)) k v j = mm_fv b hi2 τ2 c j (ft j)) (hoth : ∀ c1, c1 ≠ c → hi2 c1 = hi c1 ∧ τ2.1 c1 = τ.1 c1 ∧ τ2.2 c1 = τ.2 c1)
    (kk : ∀ (H1 : Heap) (locs1 : List Loc), H1.size = H.size → mm_P D cI cR b hi2 τ2 n H1 → mm_S b s.heap H1 locs1 → W p l e R s m args below meth c0 H1 locs1 cells slots Q (F0 m (pc + 3) ls rest)) : W p l e R s m args below meth c0 H locs cells slots Q (F0 m pc ls (v :: .ref (b + c) :: rest)) := by
  obtain ⟨C, T, N, ref, ty, e1, e2, e3, e4, e5, e6, e7, e8, e9, e10⟩ := h0
  obtain ⟨q, f1, cell, q1, q2, q3, q4⟩ := (mm_at_o h2).mp (hP c h3)
  have hr : q = (C, T, N) := Option.some.inj (f1.symm.trans e1)
  subst hr
  obtain ⟨o1, o2, o3, ty0, o4, o5⟩ := mm_cls e1
  have hap := va_apart (own := own) (mm_gts hts) o1 ty0 o4 o2 hK e1
  obtain ⟨hSl, hfc, kC, hkC, hkind⟩ := hK.1 ci _ e1
  obtain ⟨cf, kf, fi, f, hi', hsl⟩ := hSl k e3
  have hl := u_lays (mm_gts hts) o1 e3
  have hst := (u_facts hfc hkC hl hi').1
  obtain ⟨hn, hfit⟩ := hok ty e7
  have key : ∀ H1 : Heap, H1[b + c]? = some (cell.setSlot f.slot v) → H1.size = H.size → (∀ q : Nat, q ≠ b + c → H1[q]? = H[q]?) → W p l e R s m args below meth c0 H1 (locs ++ [⟨b + c, f.slot⟩]) cells slots Q (F0 m (pc + 3) ls rest) := by
    intro H1 g1 g2 g3
    refine kk H1 _ g2 (hP.put ((mm_at_o h2).mpr ⟨_, e1, ?_⟩) hoth g3) (hS.put g3)
    rw [hsl] at g1
    exact t_OB.to ⟨_, g1, q2, q3, t_set q4 hap e3 v⟩ (fun j _ => hnew _ e8 j)
  have hlt : f.slot < cell.slots.size := by rw [hsl]; exact k2_hasslot (q4 k e3)
  have hlay := mm_gts hts _ (o1 _ (u_in_lay e3))
  unfold u_lay at hlay
  cases fin with
  | false =>
    rw [if_neg (by rw [e9]; decide)] at hlay
    have h6 := u_store hfc hkC hkind hlay hi' e6 hn hfit
    exact W.putK hx hb (f := f) ⟨hown, hts _ e4, ⟨_, _, _, mm_same hts e5 _ hi'⟩, hst⟩ (by rw [q2]; exact h6) q1 q3 hlt rfl rfl hd key
  | true =>
    rw [if_pos e9] at hlay
    obtain ⟨i1, i2⟩ : ini = true ∧ ow = true := by
      rcases hf with hf | hf
      · cases hf
      · exact hf
    have hdecl := e10 i2
    have hcf : m.cls = cf := by
      obtain ⟨_, _, c', _, _, _, -, -, hf', -, -, -, hown2, -⟩ := Cond.laysFinal_spec hlay
      have z1 : c' = cf := by have := hi'.symm.trans hf'; simp at this; exact this.1.symm
      rw [hdecl] at hown2
      rw [← z1]; exact Option.some.inj (hown.symm.trans hown2)
    have h6 := u_fits hfc hkC hkind (Or.inr hlay) hi' e6 hn hfit
    exact W.putFinK hx hb hown (hts _ e4) (mm_same hts e5 _ hi') hst hcf (hini i1) (by rw [q2]; exact h6) q1 q3 hlt rfl rfl hd key
theorem mm_okI {tc : Nat} {x : Int32} (h : tc = 0 ∨ (tc = 3 ∧ (x = 0 ∨ x = 1))) (ty : FieldType) (ht : mm_tc ty = tc) : narrow ty (mm_rl b (.int x)) = mm_rl b (.int x) ∧ fits ty (mm_rl b (.int x)) = true := by
  rcases h with h | ⟨h, h1⟩
  · subst h
    cases ty <;> simp [mm_tc] at ht
    exact ⟨rfl, rfl⟩
  · subst h
    cases ty <;> simp [mm_tc] at ht
    rcases h1 with rfl | rfl <;> exact ⟨rfl, rfl⟩
theorem mm_okR {tc x : Nat} (h : tc = 1) (ty : FieldType) (ht : mm_tc ty = tc) : narrow ty (mm_rl b (.ref x)) = mm_rl b (.ref x) ∧ fits ty (mm_rl b (.ref x)) = true := by
  subst h
  cases ty <;> simp [mm_tc] at ht <;> exact ⟨rfl, rfl⟩
theorem mm_okL {tc : Nat} {x : Int64} (h : tc = 2) (ty : FieldType) (ht : mm_tc ty = tc) : narrow ty (mm_rl b (.long x)) = mm_rl b (.long x) ∧ fits ty (mm_rl b (.long x)) = true := by
  subst h
  cases ty <;> simp [mm_tc] at ht
  exact ⟨rfl, rfl⟩
theorem mm_newI {tc c k : Nat} {x : Int32} (h : tc = 0 ∨ (tc = 3 ∧ (x = 0 ∨ x = 1))) (ft : Nat → Nat) (hf : ft k = tc) (j : Nat) : updV (fun k => mm_fv b hi τ c k (ft k)) k (mm_rl b (.int x)) j = mm_fv b (mm_up2 hi c k x) τ c j (ft j) := by
  have ht : tc ≠ 1 ∧ tc ≠ 2 := by rcases h with rfl | ⟨rfl, -⟩ <;> decide
  by_cases hj : j = k
  · subst hj
    simp [updV, mm_fv, hf, ht, va_up, mm_rl]
  · simp [updV, mm_fv, hj, va_up]
theorem mm_newR {tc c k x : Nat} (h : tc = 1) (ft : Nat → Nat) (hf : ft k = tc) (j : Nat) : updV (fun k => mm_fv b hi τ c k (ft k)) k (mm_rl b (.ref x)) j = mm_fv b hi (va_up τ.1 c (va_up (τ.1 c) k (some x)), τ.2) c j (ft j) := by
  subst h
  by_cases hj : j = k
  · subst hj
    simp [updV, mm_fv, hf, va_up, mm_rl, va_rf]
  · simp [updV, mm_fv, hj, va_up]
theorem mm_newL {tc c k : Nat} {x : Int64} (h : tc = 2) (ft : Nat → Nat) (hf : ft k = tc) (j : Nat) : updV (fun k => mm_fv b hi τ c k (ft k)) k (mm_rl b (.long x)) j = mm_fv b hi (τ.1, va_up τ.2 c (va_up (τ.2 c) k x)) c j (ft j) := by
  subst h
  by_cases hj : j = k
  · subst hj
    simp [updV, mm_fv, hf, va_up, mm_rl]
  · simp [updV, mm_fv, hj, va_up]
theorem mm_iald {c N : Nat} {i : Int32} (hx : p.tables.exec = Jvm.exec) (hb : c0.code = cc) (hK : va_K D vwCl (mm_tys cI cR) s) (hP : mm_P D cI cR b hi τ n H) (hd : decode cc pc = .ok (.iaload, 1)) (h0 : mm_lay c = (1, N)) (h1 : c < n) (hin : vp_in i N)
    (kk : W p l e R s m args below meth c0 H locs cells slots Q (F0 m (pc + 1) ls (.int (hi c i.toNatClampNeg) :: rest))) : W p l e R s m args below meth c0 H locs cells slots Q (F0 m pc ls (.int i :: .ref (b + c) :: rest)) := by
  have hlt : i.toNatClampNeg < N := Nat.not_le.mp fun q => hin (Or.inr q)
  exact W.iald (v := .int (hi c i.toNatClampNeg)) hx hb ((mm_at_a h0).mp (hP c h1)) ((hK.2 0 _ rfl).1 N (fun j => .int (hi c j))) (fun q => by cases q) (by rw [arrV_size]; exact hin) (by rw [arrV_read _ _ hlt]) rfl rfl hd kk
theorem mm_iast {c N : Nat} {i x : Int32} (hx : p.tables.exec = Jvm.exec) (hb : c0.code = cc) (hK : va_K D vwCl (mm_tys cI cR) s) (hP : mm_P D cI cR b hi τ n H) (hS : mm_S b s.heap H locs) (hd : decode cc pc = .ok (.iastore, 1)) (h0 : mm_lay c = (1, N)) (h1 : c < n) (hin : vp_in i N)
    (kk : ∀ (H1 : Heap) (locs1 : List Loc), H1.size = H.size → mm_P D cI cR b (mm_up2 hi c i.toNatClampNeg x) τ n H1 → mm_S b s.heap H1 locs1 → W p l e R s m args below meth c0 H1 locs1 cells slots Q (F0 m (pc + 1) ls rest)) : W p l e R s m args below meth c0 H locs cells slots Q (F0 m pc ls (.int x :: .int i :: .ref (b + c) :: rest)) := by
  refine W.iast hx hb ((mm_at_a h0).mp (hP c h1)) ((hK.2 0 _ rfl).1 N (fun j => .int (hi c j))) (fun q => by cases q) (by rw [arrV_size]; exact hin) rfl rfl hd fun H1 g1 g2 g3 => ?_
  refine kk H1 _ g2 (hP.put ((mm_at_a h0).mpr ?_) (fun c1 hc1 => ⟨by simp [va_up, hc1], rfl, rfl⟩) g3) (hS.put g3)
  rw [g1, arrV_store]
  congr 2
  funext q
  by_cases hq : q = i.toNatClampNeg
  · subst hq; simp [updV, va_up]
  · simp [updV, va_up, hq]
theorem mm_alen {c N : Nat} (hx : p.tables.exec = Jvm.exec) (hb : c0.code = cc) (hK : va_K D vwCl (mm_tys cI cR) s) (hP : mm_P D cI cR b hi τ n H) (hd : decode cc pc = .ok (.arraylength, 1)) (h0 : mm_lay c = (1, N)) (h1 : c < n)
    (kk : W p l e R s m args below meth c0 H locs cells slots Q (F0 m (pc + 1) ls (.int (nI N) :: rest))) : W p l e R s m args below meth c0 H locs cells slots Q (F0 m pc ls (.ref (b + c) :: rest)) :=
  W.alen (n := nI N) hx hb ((mm_at_a h0).mp (hP c h1)) ((hK.2 0 _ rfl).1 N (fun j => .int (hi c j))) (by rw [arrV_size]; rfl) rfl rfl hd kk
theorem mm_aald {c N : Nat} {i : Int32} (hx : p.tables.exec = Jvm.exec) (hb : c0.code = cc) (hK : va_K D vwCl (mm_tys cI cR) s) (hP : mm_P D cI cR b hi τ n H) (hd : decode cc pc = .ok (.aaload, 1)) (h0 : mm_lay c = (2, N)) (h1 : c < n) (hin : vp_in i N)
    (kk : W p l e R s m args below meth c0 H locs cells slots Q (F0 m (pc + 1) ls (va_rf ((τ.1 c i.toNatClampNeg).map (b + ·)) :: rest))) : W p l e R s m args below meth c0 H locs cells slots Q (F0 m pc ls (.int i :: .ref (b + c) :: rest)) := by
  have hlt : i.toNatClampNeg < N := Nat.not_le.mp fun q => hin (Or.inr q)
  exact W.aald (v := va_rf ((τ.1 c i.toNatClampNeg).map (b + ·))) (ty := .object RX6) hx hb ((mm_at_q h0).mp (hP c h1)) ((hK.2 1 _ rfl).1 N _) rfl (fun q => by cases q) (by rw [arrV_size]; exact hin) (by rw [arrV_read _ _ hlt]) rfl rfl hd kk
theorem mm_aast {c N x : Nat} {i : Int32} (hx : p.tables.exec = Jvm.exec) (hb : c0.code = cc) (hK : va_K D vwCl (mm_tys cI cR) s) (hP : mm_P D cI cR b hi τ n H) (hS : mm_S b s.heap H locs) (hd : decode cc pc = .ok (.aastore, 1)) (h0 : mm_lay c = (2, N)) (h1 : c < n) (hin : vp_in i N) (h3 : mm_lay x = (0, 6)) (h4 : x < n)
    (kk : ∀ (H1 : Heap) (locs1 : List Loc), H1.size = H.size → mm_P D cI cR b hi (va_up τ.1 c (va_up (τ.1 c) i.toNatClampNeg (some x)), τ.2) n H1 → mm_S b s.heap H1 locs1 → W p l e R s m args below meth c0 H1 locs1 cells slots Q (F0 m (pc + 1) ls rest)) : W p l e R s m args below meth c0 H locs cells slots Q (F0 m pc ls (.ref (b + x) :: .int i :: .ref (b + c) :: rest)) := by
  have hlt : i.toNatClampNeg < N := Nat.not_le.mp fun q => hin (Or.inr q)
  have hp0 : ¬ i < 0 := fun q => hin (Or.inl q)
  obtain ⟨r', hr', cellV, g1, g2, g3, -⟩ := (mm_at_o h3).mp (hP x h4)
  have hcls := (hK.1 6 (RX6, TX6, 3) rfl).2
  obtain ⟨kA, comp, k1, k2, k3, -⟩ := (hK.2 1 _ rfl).2
  have hcomp : comp = D.1 6 := Option.some.inj (k3.symm.trans hcls.1)
  subst hcomp
  obtain ⟨kC, hkC, -⟩ := hcls.2
  refine W.aast hx hb ((mm_at_q h0).mp (hP c h1)) (fun q h => by cases h) (fun h => by cases h) k1 k2 rfl hkC ⟨hp0, by rw [arrV_size]; exact hlt⟩ g1 (fun q h => by rw [g3] at h; cases h) (by rw [g2]; exact hkC) (by rw [g2]; exact va_assign hcls) rfl rfl hd fun H1 e1 e2 e3 => ?_
  refine kk H1 _ e2 (hP.put ((mm_at_q h0).mpr ?_) (fun c1 hc1 => ⟨rfl, by simp [va_up, hc1], rfl⟩) e3) (hS.put e3)
  rw [e1, arrV_store]
  congr 2
  funext q
  by_cases hq : q = i.toNatClampNeg
  · subst hq; simp [updV, va_up, va_rf]
  · simp [updV, va_up, hq]
end MI
