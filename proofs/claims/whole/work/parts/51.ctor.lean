/-! making the objects -/
theorem off_big (ci k : Nat) (h : 40 ≤ k) : mm_off ci k = none := by
  unfold mm_off
  split <;> first | omega | rfl
theorem hr_a {sw : Bool} {c N : Nat} (h : mm_lay c = (1, N)) : mm_hr sw c = fun _ => none := by
  funext k
  unfold mm_hr
  rw [h]
  simp
theorem hr_q {sw : Bool} {c : Nat} (h : mm_lay c = (2, 10)) : mm_hr sw c = fun k => if k < 10 then some (c + 1 + 2 * k) else none := by
  funext k
  unfold mm_hr
  rw [h]
  simp
theorem hr_o {sw : Bool} {c ci : Nat} (h : mm_lay c = (0, ci)) (h0 : c ≠ 0) : mm_hr sw c = fun k => (mm_off ci k).map (c + ·) := by
  funext k
  unfold mm_hr
  rw [h]
  simp [h0]
theorem offE {ci : Nat} {V : Nat → Option Nat} (h : ∀ k, k < 40 → mm_off ci k = V k) (h2 : ∀ k, 40 ≤ k → V k = none) : mm_off ci = V := by
  funext k
  rcases Nat.lt_or_ge k 40 with q | q
  · exact h k q
  · rw [off_big ci k q, h2 k q]
theorem mpU (f : Nat → Option Nat) (k o : Nat) (g : Nat → Nat) : (fun j => (va_up f k (some o) j).map g) = va_up (fun j => (f j).map g) k (some (g o)) := by
  funext j
  unfold va_up
  split <;> rfl
def pk (c cur : Nat) (T : Nat → Option Nat) (τ0 u : mm_T) : Prop := u.1 c = T ∧ (∀ z, c < z → z < cur → u.1 z = mm_hr false z) ∧ (∀ z, cur ≤ z → u.1 z = fun _ => none) ∧ u.2 = (fun _ _ => 0) ∧ ∀ z, z < c → u.1 z = τ0.1 z
def fsh (c : Nat) (hi : mm_HI) (τ : mm_T) : Prop := hi c = (fun _ => 0) ∧ (∀ z, c ≤ z → τ.1 z = fun _ => none) ∧ τ.2 = fun _ _ => 0
theorem fsh.go {c : Nat} {hi : mm_HI} {τ : mm_T} (h : fsh c hi τ) : pk c (c + 1) (fun _ => none) τ τ := ⟨h.2.1 c (Nat.le_refl _), fun z h1 h2 => by omega, fun z hz => h.2.1 z (by omega), h.2.2, fun _ _ => rfl⟩
theorem pk.nobj {c cur : Nat} {T : Nat → Option Nat} {τ0 u : mm_T} {hi : mm_HI} (h : pk c cur T τ0 u) : fsh cur (va_up hi cur (fun _ => 0)) (va_up u.1 cur (fun _ => none), va_up u.2 cur (fun _ => 0)) := by
  refine ⟨va_up_self _ _ _, fun z hz => ?_, ?_⟩
  · by_cases q : z = cur
    · rw [q]; exact va_up_self _ _ _
    · exact (va_up_ne _ _ q).trans (h.2.2.1 z hz)
  · show va_up u.2 cur (fun _ => 0) = _
    rw [h.2.2.2.1]
    funext z
    by_cases q : z = cur
    · rw [q]; exact va_up_self _ _ _
    · exact va_up_ne _ _ q
theorem pk.obj {c cur n1 : Nat} {T T2 : Nat → Option Nat} {τ0 u t : mm_T} (h : pk c cur T τ0 u) (hlt : c < cur) (ht : pk cur n1 T2 (va_up u.1 cur (fun _ => none), va_up u.2 cur (fun _ => 0)) t) (h2 : mm_hr false cur = T2) : pk c n1 T τ0 t := by
  have e : ∀ z, z < cur → t.1 z = u.1 z := fun z hz => (ht.2.2.2.2 z hz).trans (va_up_ne _ _ (by omega))
  refine ⟨(e c hlt).trans h.1, fun z h3 h4 => ?_, ht.2.2.1, ht.2.2.2.1, fun z hz => (e z (by omega)).trans (h.2.2.2.2 z hz)⟩
  rcases Nat.lt_trichotomy z cur with q | q | q
  · exact (e z q).trans (h.2.1 z h3 q)
  · rw [q, ht.1, h2]
  · exact ht.2.1 z q h4
theorem pk.put {c cur k : Nat} {x : Option Nat} {T : Nat → Option Nat} {τ0 u : mm_T} (h : pk c cur T τ0 u) (hlt : c < cur) : pk c cur (va_up T k x) τ0 (va_up u.1 c (va_up (u.1 c) k x), u.2) := by
  refine ⟨?_, fun z h1 h2 => (va_up_ne _ _ (by omega)).trans (h.2.1 z h1 h2), fun z hz => (va_up_ne _ _ (by omega)).trans (h.2.2.1 z hz), h.2.2.2.1, fun z hz => (va_up_ne _ _ (by omega)).trans (h.2.2.2.2 z hz)⟩
  show va_up u.1 c _ c = _
  rw [va_up_self, h.1]
theorem pk.arr {c cur N : Nat} {T : Nat → Option Nat} {τ0 u : mm_T} (h : pk c cur T τ0 u) (hl : mm_lay cur = (1, N)) : pk c (cur + 1) T τ0 u := by
  refine ⟨h.1, fun z h1 h2 => ?_, fun z hz => h.2.2.1 z (by omega), h.2.2.2⟩
  by_cases q : z = cur
  · rw [q, hr_a hl]; exact h.2.2.1 cur (Nat.le_refl _)
  · exact h.2.1 z h1 (by omega)
def ctr (c n1 : Nat) (hi : mm_HI) (τ : mm_T) (T : Nat → Option Nat) (I : mm_HI → Prop) : mm_Q := fun v h t => v = none ∧ (∀ z, z < c → h z = hi z) ∧ pk c n1 T τ t ∧ I h
theorem hr_0 {sw : Bool} {c : Nat} (h : mm_lay c = (0, 0)) : mm_hr sw c = (va_up (va_up (va_up (fun _ => none) 0 (some (c + 1))) 3 (some (c + 3))) 6 (some (c + 4))) := by
  rw [hr_o h (fun q => by subst q; exact absurd h (by decide +kernel))]
  rw [show mm_off 0 = (va_up (va_up (va_up (fun _ => none) 0 (some 1)) 3 (some 3)) 6 (some 4)) from offE (by decide +kernel) (fun k hk => by rw [va_up_ne _ _ (by omega), va_up_ne _ _ (by omega), va_up_ne _ _ (by omega)])]
  rw [mpU, mpU, mpU]
  all_goals rfl
theorem hr_1 {sw : Bool} {c : Nat} (h : mm_lay c = (0, 1)) : mm_hr sw c = (va_up (va_up (fun _ => none) 0 (some (c + 1))) 2 (some (c + 3))) := by
  rw [hr_o h (fun q => by subst q; exact absurd h (by decide +kernel))]
  rw [show mm_off 1 = (va_up (va_up (fun _ => none) 0 (some 1)) 2 (some 3)) from offE (by decide +kernel) (fun k hk => by rw [va_up_ne _ _ (by omega), va_up_ne _ _ (by omega)])]
  rw [mpU, mpU]
  all_goals rfl
theorem hr_2 {sw : Bool} {c : Nat} (h : mm_lay c = (0, 2)) : mm_hr sw c = (va_up (fun _ => none) 0 (some (c + 1))) := by
  rw [hr_o h (fun q => by subst q; exact absurd h (by decide +kernel))]
  rw [show mm_off 2 = (va_up (fun _ => none) 0 (some 1)) from offE (by decide +kernel) (fun k hk => by rw [va_up_ne _ _ (by omega)])]
  rw [mpU]
  all_goals rfl
theorem hr_3 {sw : Bool} {c : Nat} (h : mm_lay c = (0, 3)) : mm_hr sw c = (va_up (va_up (fun _ => none) 0 (some (c + 1))) 3 (some (c + 3))) := by
  rw [hr_o h (fun q => by subst q; exact absurd h (by decide +kernel))]
  rw [show mm_off 3 = (va_up (va_up (fun _ => none) 0 (some 1)) 3 (some 3)) from offE (by decide +kernel) (fun k hk => by rw [va_up_ne _ _ (by omega), va_up_ne _ _ (by omega)])]
  rw [mpU, mpU]
  all_goals rfl
theorem hr_4 {sw : Bool} {c : Nat} (h : mm_lay c = (0, 4)) : mm_hr sw c = (fun _ => none) := by
  rw [hr_o h (fun q => by subst q; exact absurd h (by decide +kernel))]
  rw [show mm_off 4 = (fun _ => none) from offE (by decide +kernel) (fun k hk => rfl)]
  all_goals rfl
theorem hr_5 {sw : Bool} {c : Nat} (h : mm_lay c = (0, 5)) : mm_hr sw c = (va_up (va_up (va_up (va_up (va_up (fun _ => none) 0 (some (c + 1))) 3 (some (c + 3))) 7 (some (c + 4))) 8 (some (c + 5))) 9 (some (c + 6))) := by
  rw [hr_o h (fun q => by subst q; exact absurd h (by decide +kernel))]
  rw [show mm_off 5 = (va_up (va_up (va_up (va_up (va_up (fun _ => none) 0 (some 1)) 3 (some 3)) 7 (some 4)) 8 (some 5)) 9 (some 6)) from offE (by decide +kernel) (fun k hk => by rw [va_up_ne _ _ (by omega), va_up_ne _ _ (by omega), va_up_ne _ _ (by omega), va_up_ne _ _ (by omega), va_up_ne _ _ (by omega)])]
  rw [mpU, mpU, mpU, mpU, mpU]
  all_goals rfl
theorem hr_6 {sw : Bool} {c : Nat} (h : mm_lay c = (0, 6)) : mm_hr sw c = (va_up (fun _ => none) 0 (some (c + 1))) := by
  rw [hr_o h (fun q => by subst q; exact absurd h (by decide +kernel))]
  rw [show mm_off 6 = (va_up (fun _ => none) 0 (some 1)) from offE (by decide +kernel) (fun k hk => by rw [va_up_ne _ _ (by omega)])]
  rw [mpU]
  all_goals rfl
theorem hr_7 {sw : Bool} {c : Nat} (h : mm_lay c = (0, 7)) : mm_hr sw c = (va_up (va_up (va_up (va_up (fun _ => none) 3 (some (c + 1))) 4 (some (c + 2))) 5 (some (c + 3))) 6 (some (c + 5))) := by
  rw [hr_o h (fun q => by subst q; exact absurd h (by decide +kernel))]
  rw [show mm_off 7 = (va_up (va_up (va_up (va_up (fun _ => none) 3 (some 1)) 4 (some 2)) 5 (some 3)) 6 (some 5)) from offE (by decide +kernel) (fun k hk => by rw [va_up_ne _ _ (by omega), va_up_ne _ _ (by omega), va_up_ne _ _ (by omega), va_up_ne _ _ (by omega)])]
  rw [mpU, mpU, mpU, mpU]
  all_goals rfl
theorem hr_8 {sw : Bool} {c : Nat} (h : mm_lay c = (0, 8)) : mm_hr sw c = (va_up (fun _ => none) 1 (some (c + 1))) := by
  rw [hr_o h (fun q => by subst q; exact absurd h (by decide +kernel))]
  rw [show mm_off 8 = (va_up (fun _ => none) 1 (some 1)) from offE (by decide +kernel) (fun k hk => by rw [va_up_ne _ _ (by omega)])]
  rw [mpU]
  all_goals rfl
theorem hr_10 {sw : Bool} {c : Nat} (h : mm_lay c = (0, 10)) : mm_hr sw c = (va_up (va_up (va_up (va_up (va_up (va_up (va_up (va_up (va_up (va_up (va_up (va_up (va_up (va_up (va_up (va_up (va_up (va_up (fun _ => none) 3 (some (c + 1))) 4 (some (c + 2))) 5 (some (c + 3))) 8 (some (c + 4))) 10 (some (c + 5))) 11 (some (c + 6))) 13 (some (c + 7))) 20 (some (c + 8))) 21 (some (c + 9))) 22 (some (c + 10))) 23 (some (c + 11))) 24 (some (c + 12))) 25 (some (c + 13))) 27 (some (c + 14))) 29 (some (c + 15))) 34 (some (c + 16))) 35 (some (c + 17))) 36 (some (c + 18))) := by
  rw [hr_o h (fun q => by subst q; exact absurd h (by decide +kernel))]
  rw [show mm_off 10 = (va_up (va_up (va_up (va_up (va_up (va_up (va_up (va_up (va_up (va_up (va_up (va_up (va_up (va_up (va_up (va_up (va_up (va_up (fun _ => none) 3 (some 1)) 4 (some 2)) 5 (some 3)) 8 (some 4)) 10 (some 5)) 11 (some 6)) 13 (some 7)) 20 (some 8)) 21 (some 9)) 22 (some 10)) 23 (some 11)) 24 (some 12)) 25 (some 13)) 27 (some 14)) 29 (some 15)) 34 (some 16)) 35 (some 17)) 36 (some 18)) from offE (by decide +kernel) (fun k hk => by rw [va_up_ne _ _ (by omega), va_up_ne _ _ (by omega), va_up_ne _ _ (by omega), va_up_ne _ _ (by omega), va_up_ne _ _ (by omega), va_up_ne _ _ (by omega), va_up_ne _ _ (by omega), va_up_ne _ _ (by omega), va_up_ne _ _ (by omega), va_up_ne _ _ (by omega), va_up_ne _ _ (by omega), va_up_ne _ _ (by omega), va_up_ne _ _ (by omega), va_up_ne _ _ (by omega), va_up_ne _ _ (by omega), va_up_ne _ _ (by omega), va_up_ne _ _ (by omega), va_up_ne _ _ (by omega)])]
  rw [mpU, mpU, mpU, mpU, mpU, mpU, mpU, mpU, mpU, mpU, mpU, mpU, mpU, mpU, mpU, mpU, mpU, mpU]
  all_goals rfl
set_option maxHeartbeats 2000000 in
theorem n_X6 {d : Nat} (hd : 1 ≤ d) {hi : mm_HI} {τ : mm_T} {c : Nat} (hc : mm_lay c = (0, 6)) (hf : fsh c hi τ) : mm_wp d yX6_init [.ref c] hi τ (c + 1) (c + 2) (ctr c (c + 2) hi τ (va_up (fun _ => none) 0 (some (c + 1))) (fun h => h c = (fun _ => 0) ∧ h (c + 1) = fun _ => 0)) := by
  refine k_intro (by omega) M_X6_init (by omega) (Nat.le_of_ble_eq_true rfl) rfl ?_
  intro e X he G
  show X 0 [some (.ref (c))] [] hi τ (c + 1)
  refine k_aload_n G (pc := 0) dX6_init_0 rfl ?_
  refine k_objInit G (pc := 1) dX6_init_1 oi_X6_3 (Nat.le_of_ble_eq_true rfl) ?_
  have b0 := hf.go
  refine k_aload_n G (pc := 4) dX6_init_4 rfl ?_
  refine k_bipush (v := nI 6) G (pc := 5) dX6_init_5 (by decide) ?_
  refine k_newa G (pc := 7) dX6_init_7 (ly_6_0 hc) rfl (by decide) (by omega) ?_
  have b1 := b0.arr (ly_6_0 hc)
  refine k_putRF G (pc := 9) dX6_init_9 fl_X6_9_6 (Or.inr ⟨rfl, rfl⟩) hc (by omega) ?_
  have b2 := b1.put (k := 0) (x := some (c + 1)) (by omega)
  refine k_vret G (pc := 12) dX6_init_12 rfl rfl ?_
  exact ⟨rfl, fun z hz => (va_up_ne _ _ (by omega)), b2, ⟨((va_up_ne _ _ (by omega))).trans hf.1, va_up_self _ _ _⟩⟩
set_option maxHeartbeats 2000000 in
theorem n_X8 {d : Nat} (hd : 1 ≤ d) {hi : mm_HI} {τ : mm_T} {c : Nat} (hc : mm_lay c = (0, 8)) (hf : fsh c hi τ) : mm_wp d yX8_init [.ref c] hi τ (c + 1) (c + 2) (ctr c (c + 2) hi τ (va_up (fun _ => none) 1 (some (c + 1))) (fun h => h c = (fun _ => 0) ∧ h (c + 1) = fun _ => 0)) := by
  refine k_intro (by omega) M_X8_init (by omega) (Nat.le_of_ble_eq_true rfl) rfl ?_
  intro e X he G
  show X 0 [some (.ref (c))] [] hi τ (c + 1)
  refine k_aload_n G (pc := 0) dX8_init_0 rfl ?_
  refine k_objInit G (pc := 1) dX8_init_1 oi_X8_3 (Nat.le_of_ble_eq_true rfl) ?_
  have b0 := hf.go
  refine k_aload_n G (pc := 4) dX8_init_4 rfl ?_
  refine k_sipush (v := nI 150) G (pc := 5) dX8_init_5 (by decide) ?_
  refine k_newa G (pc := 8) dX8_init_8 (ly_8_1 hc) rfl (by decide) (by omega) ?_
  have b1 := b0.arr (ly_8_1 hc)
  refine k_putRF G (pc := 10) dX8_init_10 fl_X8_9_8 (Or.inr ⟨rfl, rfl⟩) hc (by omega) ?_
  have b2 := b1.put (k := 1) (x := some (c + 1)) (by omega)
  refine k_vret G (pc := 13) dX8_init_13 rfl rfl ?_
  exact ⟨rfl, fun z hz => (va_up_ne _ _ (by omega)), b2, ⟨((va_up_ne _ _ (by omega))).trans hf.1, va_up_self _ _ _⟩⟩
set_option maxHeartbeats 2000000 in
theorem n_X4 {d : Nat} (hd : 1 ≤ d) {hi : mm_HI} {τ : mm_T} {c : Nat} (hc : mm_lay c = (0, 4)) (hf : fsh c hi τ) : mm_wp d yX4_init [.ref c] hi τ (c + 1) (c + 1) (ctr c (c + 1) hi τ (fun _ => none) (fun h => h c = (fun _ => 0))) := by
  refine k_intro (by omega) M_X4_init (by omega) (Nat.le_of_ble_eq_true rfl) rfl ?_
  intro e X he G
  show X 0 [some (.ref (c))] [] hi τ (c + 1)
  refine k_aload_n G (pc := 0) dX4_init_0 rfl ?_
  refine k_objInit G (pc := 1) dX4_init_1 oi_X4_3 (Nat.le_of_ble_eq_true rfl) ?_
  have b0 := hf.go
  refine k_vret G (pc := 4) dX4_init_4 rfl rfl ?_
  exact ⟨rfl, fun _ _ => rfl, b0, hf.1⟩
set_option maxHeartbeats 2000000 in
theorem n_X2 {d : Nat} (hd : 3 ≤ d) {hi : mm_HI} {τ : mm_T} {c : Nat} (hc : mm_lay c = (0, 2)) (hf : fsh c hi τ) : mm_wp d yX2_init [.ref c] hi τ (c + 1) (c + 2) (ctr c (c + 2) hi τ (va_up (fun _ => none) 0 (some (c + 1))) (fun h => dicF h c nx0 2)) := by
  refine k_intro (by omega) M_X2_init (by omega) (Nat.le_of_ble_eq_true rfl) rfl ?_
  intro e X he G
  show X 0 [some (.ref (c))] [] hi τ (c + 1)
  refine k_aload_n G (pc := 0) dX2_init_0 rfl ?_
  refine k_objInit G (pc := 1) dX2_init_1 oi_X2_3 (Nat.le_of_ble_eq_true rfl) ?_
  have b0 := hf.go
  refine k_aload_n G (pc := 4) dX2_init_4 rfl ?_
  refine k_sipush (v := nI 1350) G (pc := 5) dX2_init_5 (by decide) ?_
  refine k_newa G (pc := 8) dX2_init_8 (ly_2_0 hc) rfl (by decide) (by omega) ?_
  have b1 := b0.arr (ly_2_0 hc)
  refine k_putRF G (pc := 10) dX2_init_10 fl_X2_11_2 (Or.inr ⟨rfl, rfl⟩) hc (by omega) ?_
  have b2 := b1.put (k := 0) (x := some (c + 1)) (by omega)
  refine k_aload_n G (pc := 13) dX2_init_13 rfl ?_
  refine k_cV0 G (pc := 14) dX2_init_14 cv_X2_15 hc (by omega) (k_empty (by omega) hc (n := c + 1 + 1) (by omega) (by show va_up τ.1 c _ c 0 = _; rw [va_up_self]; exact va_up_self _ _ _)) (by omega) (Nat.le_of_ble_eq_true rfl) ?_
  rintro v1 h1 t1 ⟨rfl, rfl, j1, g1⟩
  have f1 : ∀ z, z < c → h1 z = (va_up hi (c + 1) (fun _ => 0)) z := fun z hz => g1 z (by simp; omega)
  refine k_vret G (pc := 17) dX2_init_17 rfl rfl ?_
  exact ⟨rfl, fun z hz => (Eq.trans (f1 z (by omega)) (va_up_ne _ _ (by omega))), b2, j1⟩
theorem sheet_I {h hi : mm_HI} {c : Nat} (e : h c = mm_up2 hi c 0 (nI 2) c) (h0 : hi c = fun _ => 0) (d : dicF h (c + 3) nx0 2) : shF h c P00 nx0 2 := by
  have e2 : h c = va_up (fun _ => 0) 0 (nI 2) := by rw [e, ← h0]; exact va_up_self _ _ _
  exact ⟨by rw [e2]; rfl, by rw [e2]; exact nI_0.symm, by rw [e2]; exact nI_0.symm, ⟨by decide, by decide, by decide, fun _ _ _ => Nat.le_refl 26, by decide, fun u hu => absurd hu List.not_mem_nil⟩, fun s hs => absurd hs (Nat.not_lt_zero _), fun w hw => absurd hw (Nat.not_lt_zero _), d, trOK_0, by decide⟩
theorem up2_2 {H : mm_HI} {c : Nat} {a b : Int32} (e : H c = fun _ => 0) : mm_up2 (mm_up2 H c 1 a) c 2 b c = va_up (va_up (fun _ => 0) 1 a) 2 b := by
  show va_up _ c _ c = _
  rw [va_up_self]
  show va_up (va_up H c (va_up (H c) 1 a) c) 2 b = _
  rw [va_up_self, e]
theorem cf1 {f : Nat → Int32} {bw ro : Nat} (h : f = va_up (va_up (fun _ => 0) 1 (nI bw)) 2 (nI ro)) : f 1 = nI bw ∧ f 2 = nI ro := by
  subst h
  exact ⟨rfl, rfl⟩
set_option maxHeartbeats 2000000 in
theorem n_X7 {d : Nat} (hd : 4 ≤ d) {hi : mm_HI} {τ : mm_T} {c : Nat} (hc : mm_lay c = (0, 7)) (hf : fsh c hi τ) : mm_wp d yX7_init [.ref c] hi τ (c + 1) (c + 6) (ctr c (c + 6) hi τ (va_up (va_up (va_up (va_up (fun _ => none) 3 (some (c + 1))) 4 (some (c + 2))) 5 (some (c + 3))) 6 (some (c + 5))) (fun h => shF h c P00 nx0 2)) := by
  refine k_intro (by omega) M_X7_init (by omega) (Nat.le_of_ble_eq_true rfl) rfl ?_
  intro e X he G
  show X 0 [some (.ref (c))] [] hi τ (c + 1)
  refine k_aload_n G (pc := 0) dX7_init_0 rfl ?_
  refine k_objInit G (pc := 1) dX7_init_1 oi_X7_3 (Nat.le_of_ble_eq_true rfl) ?_
  have b0 := hf.go
  refine k_aload_n G (pc := 4) dX7_init_4 rfl ?_
  refine k_iconst (v := nI 2) G (pc := 5) dX7_init_5 (by decide) ?_
  refine k_putIF G (pc := 6) dX7_init_6 fl_X7_9_7 (Or.inl rfl) (Or.inl rfl) hc (by omega) ?_
  refine k_aload_n G (pc := 9) dX7_init_9 rfl ?_
  refine k_bipush (v := nI 48) G (pc := 10) dX7_init_10 (by decide) ?_
  refine k_newa G (pc := 12) dX7_init_12 (ly_7_3 hc) rfl (by decide) (by omega) ?_
  have b1 := b0.arr (ly_7_3 hc)
  refine k_putRF G (pc := 14) dX7_init_14 fl_X7_15_7 (Or.inr ⟨rfl, rfl⟩) hc (by omega) ?_
  have b2 := b1.put (k := 3) (x := some (c + 1)) (by omega)
  refine k_aload_n G (pc := 17) dX7_init_17 rfl ?_
  refine k_bipush (v := nI 8) G (pc := 18) dX7_init_18 (by decide) ?_
  refine k_newa G (pc := 20) dX7_init_20 (ly_7_4 hc) rfl (by decide) (by omega) ?_
  have b3 := b2.arr (ly_7_4 hc)
  refine k_putRF G (pc := 22) dX7_init_22 fl_X7_19_7 (Or.inr ⟨rfl, rfl⟩) hc (by omega) ?_
  have b4 := b3.put (k := 4) (x := some (c + 2)) (by omega)
  refine k_aload_n G (pc := 25) dX7_init_25 rfl ?_
  refine k_new G (pc := 26) dX7_init_26 nw_X7_22 (ly_7_5 hc) (by omega) ?_
  refine k_dup G (pc := 29) dX7_init_29 rfl ?_
  refine k_cN0 G (pc := 30) dX7_init_30 cn_X7_24 (n_X2 (by omega) (c := c + 3) (ly_7_5 hc) (b4.nobj)) (by omega) (Nat.le_of_ble_eq_true rfl) ?_
  rintro v1 h1 t1 ⟨rfl, f1, p1, j1⟩
  have b5 := b4.obj (by omega) p1 (hr_2 (ly_7_5 hc))
  show X 33 _ _ h1 t1 (c + 5)
  refine k_putRF G (pc := 33) dX7_init_33 fl_X7_25_7 (Or.inr ⟨rfl, rfl⟩) hc (by omega) ?_
  have b6 := b5.put (k := 5) (x := some (c + 3)) (by omega)
  refine k_aload_n G (pc := 36) dX7_init_36 rfl ?_
  refine k_bipush (v := nI 72) G (pc := 37) dX7_init_37 (by decide) ?_
  refine k_newa G (pc := 39) dX7_init_39 (ly_7_6 hc) rfl (by decide) (by omega) ?_
  have b7 := b6.arr (ly_7_6 hc)
  refine k_putRF G (pc := 41) dX7_init_41 fl_X7_29_7 (Or.inr ⟨rfl, rfl⟩) hc (by omega) ?_
  have b8 := b7.put (k := 6) (x := some (c + 5)) (by omega)
  refine k_vret G (pc := 44) dX7_init_44 rfl rfl ?_
  exact ⟨rfl, fun z hz => (Eq.trans (va_up_ne _ _ (by omega)) (Eq.trans (f1 z (by omega)) (Eq.trans (va_up_ne _ _ (by omega)) (Eq.trans (va_up_ne _ _ (by omega)) (Eq.trans (va_up_ne _ _ (by omega)) (va_up_ne _ _ (by omega))))))), b8, sheet_I (hi := hi) (Eq.trans (va_up_ne _ _ (by omega)) (Eq.trans (f1 c (by omega)) (Eq.trans (va_up_ne _ _ (by omega)) (Eq.trans (va_up_ne _ _ (by omega)) (va_up_ne _ _ (by omega)))))) hf.1 (dicF.keep j1 (va_up_ne _ _ (by omega)) (va_up_ne _ _ (by omega)))⟩
set_option maxHeartbeats 2000000 in
theorem n_W0 {d : Nat} (hd : 2 ≤ d) {hi : mm_HI} {τ : mm_T} {c : Nat} (hc : mm_lay c = (0, 0)) (hf : fsh c hi τ) {bw ro : Nat} (hb1 : nI bw = 0 ∨ nI bw = 1) (hb2 : nI ro = 0 ∨ nI ro = 1) : mm_wp d yX9_init [.ref c, .int (nI (bw)), .int (nI (ro))] hi τ (c + 1) (c + 4) (ctr c (c + 4) hi τ (va_up (va_up (fun _ => none) 0 (some (c + 1))) 3 (some (c + 3))) (fun h => h c = va_up (va_up (fun _ => 0) 1 (nI bw)) 2 (nI ro))) := by
  refine k_intro (by omega) M_X9_init (by omega) (Nat.le_of_ble_eq_true rfl) rfl ?_
  intro e X he G
  show X 0 [some (.ref (c)), some (.int (nI (bw))), some (.int (nI (ro)))] [] hi τ (c + 1)
  refine k_aload_n G (pc := 0) dX9_init_0 rfl ?_
  refine k_objInit G (pc := 1) dX9_init_1 oi_X9_3 (Nat.le_of_ble_eq_true rfl) ?_
  have b0 := hf.go
  refine k_aload_n G (pc := 4) dX9_init_4 rfl ?_
  refine k_new G (pc := 5) dX9_init_5 nw_X9_9 (ly_0_0 hc) (by omega) ?_
  refine k_dup G (pc := 8) dX9_init_8 rfl ?_
  refine k_cN0 G (pc := 9) dX9_init_9 cn_X9_11 (n_X6 (by omega) (c := c + 1) (ly_0_0 hc) (b0.nobj)) (by omega) (Nat.le_of_ble_eq_true rfl) ?_
  rintro v1 h1 t1 ⟨rfl, f1, p1, j1⟩
  have b1 := b0.obj (by omega) p1 (hr_6 (ly_0_0 hc))
  show X 12 _ _ h1 t1 (c + 3)
  refine k_putRF G (pc := 12) dX9_init_12 fl_X9_12_0 (Or.inr ⟨rfl, rfl⟩) hc (by omega) ?_
  have b2 := b1.put (k := 0) (x := some (c + 1)) (by omega)
  refine k_aload_n G (pc := 15) dX9_init_15 rfl ?_
  refine k_bipush (v := nI 21) G (pc := 16) dX9_init_16 (by decide) ?_
  refine k_newa G (pc := 18) dX9_init_18 (ly_0_3 hc) rfl (by decide) (by omega) ?_
  have b3 := b2.arr (ly_0_3 hc)
  refine k_putRF G (pc := 20) dX9_init_20 fl_X9_18_0 (Or.inr ⟨rfl, rfl⟩) hc (by omega) ?_
  have b4 := b3.put (k := 3) (x := some (c + 3)) (by omega)
  refine k_aload_n G (pc := 23) dX9_init_23 rfl ?_
  refine k_iload_n G (pc := 24) dX9_init_24 rfl ?_
  refine k_putIF G (pc := 25) dX9_init_25 fl_X9_22_0 (Or.inr ⟨rfl, rfl⟩) (Or.inr ⟨rfl, hb1⟩) hc (by omega) ?_
  refine k_aload_n G (pc := 28) dX9_init_28 rfl ?_
  refine k_iload_n G (pc := 29) dX9_init_29 rfl ?_
  refine k_putIF G (pc := 30) dX9_init_30 fl_X9_26_0 (Or.inr ⟨rfl, rfl⟩) (Or.inr ⟨rfl, hb2⟩) hc (by omega) ?_
  refine k_vret G (pc := 33) dX9_init_33 rfl rfl ?_
  exact ⟨rfl, fun z hz => (Eq.trans (va_up_ne _ _ (by omega)) (Eq.trans (va_up_ne _ _ (by omega)) (Eq.trans (va_up_ne _ _ (by omega)) (Eq.trans (f1 z (by omega)) (va_up_ne _ _ (by omega)))))), b4, up2_2 (Eq.trans (Eq.trans (va_up_ne _ _ (by omega)) (Eq.trans (f1 c (by omega)) (va_up_ne _ _ (by omega)))) hf.1)⟩
set_option maxHeartbeats 2000000 in
theorem n_W3 {d : Nat} (hd : 2 ≤ d) {hi : mm_HI} {τ : mm_T} {c : Nat} (hc : mm_lay c = (0, 3)) (hf : fsh c hi τ) {bw ro : Nat} (hb1 : nI bw = 0 ∨ nI bw = 1) (hb2 : nI ro = 0 ∨ nI ro = 1) : mm_wp d yX9_init [.ref c, .int (nI (bw)), .int (nI (ro))] hi τ (c + 1) (c + 4) (ctr c (c + 4) hi τ (va_up (va_up (fun _ => none) 0 (some (c + 1))) 3 (some (c + 3))) (fun h => h c = va_up (va_up (fun _ => 0) 1 (nI bw)) 2 (nI ro))) := by
  refine k_intro (by omega) M_X9_init (by omega) (Nat.le_of_ble_eq_true rfl) rfl ?_
  intro e X he G
  show X 0 [some (.ref (c)), some (.int (nI (bw))), some (.int (nI (ro)))] [] hi τ (c + 1)
  refine k_aload_n G (pc := 0) dX9_init_0 rfl ?_
  refine k_objInit G (pc := 1) dX9_init_1 oi_X9_3 (Nat.le_of_ble_eq_true rfl) ?_
  have b0 := hf.go
  refine k_aload_n G (pc := 4) dX9_init_4 rfl ?_
  refine k_new G (pc := 5) dX9_init_5 nw_X9_9 (ly_3_0 hc) (by omega) ?_
  refine k_dup G (pc := 8) dX9_init_8 rfl ?_
  refine k_cN0 G (pc := 9) dX9_init_9 cn_X9_11 (n_X6 (by omega) (c := c + 1) (ly_3_0 hc) (b0.nobj)) (by omega) (Nat.le_of_ble_eq_true rfl) ?_
  rintro v1 h1 t1 ⟨rfl, f1, p1, j1⟩
  have b1 := b0.obj (by omega) p1 (hr_6 (ly_3_0 hc))
  show X 12 _ _ h1 t1 (c + 3)
  refine k_putRF G (pc := 12) dX9_init_12 fl_X9_12_3 (Or.inr ⟨rfl, rfl⟩) hc (by omega) ?_
  have b2 := b1.put (k := 0) (x := some (c + 1)) (by omega)
  refine k_aload_n G (pc := 15) dX9_init_15 rfl ?_
  refine k_bipush (v := nI 21) G (pc := 16) dX9_init_16 (by decide) ?_
  refine k_newa G (pc := 18) dX9_init_18 (ly_3_3 hc) rfl (by decide) (by omega) ?_
  have b3 := b2.arr (ly_3_3 hc)
  refine k_putRF G (pc := 20) dX9_init_20 fl_X9_18_3 (Or.inr ⟨rfl, rfl⟩) hc (by omega) ?_
  have b4 := b3.put (k := 3) (x := some (c + 3)) (by omega)
  refine k_aload_n G (pc := 23) dX9_init_23 rfl ?_
  refine k_iload_n G (pc := 24) dX9_init_24 rfl ?_
  refine k_putIF G (pc := 25) dX9_init_25 fl_X9_22_3 (Or.inr ⟨rfl, rfl⟩) (Or.inr ⟨rfl, hb1⟩) hc (by omega) ?_
  refine k_aload_n G (pc := 28) dX9_init_28 rfl ?_
  refine k_iload_n G (pc := 29) dX9_init_29 rfl ?_
  refine k_putIF G (pc := 30) dX9_init_30 fl_X9_26_3 (Or.inr ⟨rfl, rfl⟩) (Or.inr ⟨rfl, hb2⟩) hc (by omega) ?_
  refine k_vret G (pc := 33) dX9_init_33 rfl rfl ?_
  exact ⟨rfl, fun z hz => (Eq.trans (va_up_ne _ _ (by omega)) (Eq.trans (va_up_ne _ _ (by omega)) (Eq.trans (va_up_ne _ _ (by omega)) (Eq.trans (f1 z (by omega)) (va_up_ne _ _ (by omega)))))), b4, up2_2 (Eq.trans (Eq.trans (va_up_ne _ _ (by omega)) (Eq.trans (f1 c (by omega)) (va_up_ne _ _ (by omega)))) hf.1)⟩
set_option maxHeartbeats 2000000 in
theorem n_W5 {d : Nat} (hd : 2 ≤ d) {hi : mm_HI} {τ : mm_T} {c : Nat} (hc : mm_lay c = (0, 5)) (hf : fsh c hi τ) {bw ro : Nat} (hb1 : nI bw = 0 ∨ nI bw = 1) (hb2 : nI ro = 0 ∨ nI ro = 1) : mm_wp d yX9_init [.ref c, .int (nI (bw)), .int (nI (ro))] hi τ (c + 1) (c + 4) (ctr c (c + 4) hi τ (va_up (va_up (fun _ => none) 0 (some (c + 1))) 3 (some (c + 3))) (fun h => h c = va_up (va_up (fun _ => 0) 1 (nI bw)) 2 (nI ro))) := by
  refine k_intro (by omega) M_X9_init (by omega) (Nat.le_of_ble_eq_true rfl) rfl ?_
  intro e X he G
  show X 0 [some (.ref (c)), some (.int (nI (bw))), some (.int (nI (ro)))] [] hi τ (c + 1)
  refine k_aload_n G (pc := 0) dX9_init_0 rfl ?_
  refine k_objInit G (pc := 1) dX9_init_1 oi_X9_3 (Nat.le_of_ble_eq_true rfl) ?_
  have b0 := hf.go
  refine k_aload_n G (pc := 4) dX9_init_4 rfl ?_
  refine k_new G (pc := 5) dX9_init_5 nw_X9_9 (ly_5_0 hc) (by omega) ?_
  refine k_dup G (pc := 8) dX9_init_8 rfl ?_
  refine k_cN0 G (pc := 9) dX9_init_9 cn_X9_11 (n_X6 (by omega) (c := c + 1) (ly_5_0 hc) (b0.nobj)) (by omega) (Nat.le_of_ble_eq_true rfl) ?_
  rintro v1 h1 t1 ⟨rfl, f1, p1, j1⟩
  have b1 := b0.obj (by omega) p1 (hr_6 (ly_5_0 hc))
  show X 12 _ _ h1 t1 (c + 3)
  refine k_putRF G (pc := 12) dX9_init_12 fl_X9_12_5 (Or.inr ⟨rfl, rfl⟩) hc (by omega) ?_
  have b2 := b1.put (k := 0) (x := some (c + 1)) (by omega)
  refine k_aload_n G (pc := 15) dX9_init_15 rfl ?_
  refine k_bipush (v := nI 21) G (pc := 16) dX9_init_16 (by decide) ?_
  refine k_newa G (pc := 18) dX9_init_18 (ly_5_3 hc) rfl (by decide) (by omega) ?_
  have b3 := b2.arr (ly_5_3 hc)
  refine k_putRF G (pc := 20) dX9_init_20 fl_X9_18_5 (Or.inr ⟨rfl, rfl⟩) hc (by omega) ?_
  have b4 := b3.put (k := 3) (x := some (c + 3)) (by omega)
  refine k_aload_n G (pc := 23) dX9_init_23 rfl ?_
  refine k_iload_n G (pc := 24) dX9_init_24 rfl ?_
  refine k_putIF G (pc := 25) dX9_init_25 fl_X9_22_5 (Or.inr ⟨rfl, rfl⟩) (Or.inr ⟨rfl, hb1⟩) hc (by omega) ?_
  refine k_aload_n G (pc := 28) dX9_init_28 rfl ?_
  refine k_iload_n G (pc := 29) dX9_init_29 rfl ?_
  refine k_putIF G (pc := 30) dX9_init_30 fl_X9_26_5 (Or.inr ⟨rfl, rfl⟩) (Or.inr ⟨rfl, hb2⟩) hc (by omega) ?_
  refine k_vret G (pc := 33) dX9_init_33 rfl rfl ?_
  exact ⟨rfl, fun z hz => (Eq.trans (va_up_ne _ _ (by omega)) (Eq.trans (va_up_ne _ _ (by omega)) (Eq.trans (va_up_ne _ _ (by omega)) (Eq.trans (f1 z (by omega)) (va_up_ne _ _ (by omega)))))), b4, up2_2 (Eq.trans (Eq.trans (va_up_ne _ _ (by omega)) (Eq.trans (f1 c (by omega)) (va_up_ne _ _ (by omega)))) hf.1)⟩
set_option maxHeartbeats 2000000 in
theorem n_X5 {d : Nat} (hd : 3 ≤ d) {hi : mm_HI} {τ : mm_T} {c : Nat} (hc : mm_lay c = (0, 5)) (hf : fsh c hi τ) : mm_wp d yX5_init [.ref c] hi τ (c + 1) (c + 7) (ctr c (c + 7) hi τ (va_up (va_up (va_up (va_up (va_up (fun _ => none) 0 (some (c + 1))) 3 (some (c + 3))) 7 (some (c + 4))) 8 (some (c + 5))) 9 (some (c + 6))) (fun h => h c 1 = nI 0 ∧ h c 2 = nI 1)) := by
  refine k_intro (by omega) M_X5_init (by omega) (Nat.le_of_ble_eq_true rfl) rfl ?_
  intro e X he G
  show X 0 [some (.ref (c))] [] hi τ (c + 1)
  refine k_aload_n G (pc := 0) dX5_init_0 rfl ?_
  refine k_iconst (v := nI 0) G (pc := 1) dX5_init_1 (by decide) ?_
  refine k_iconst (v := nI 1) G (pc := 2) dX5_init_2 (by decide) ?_
  refine k_cN2 G (pc := 3) dX5_init_3 cn_X5_3 (n_W5 (by omega) (c := c) hc hf (bw := 0) (ro := 1) (by decide +kernel) (by decide +kernel)) (by omega) (Nat.le_of_ble_eq_true rfl) ?_
  rintro v1 h1 t1 ⟨rfl, f1, b0, j1⟩
  show X 6 _ _ h1 t1 (c + 4)
  refine k_aload_n G (pc := 6) dX5_init_6 rfl ?_
  refine k_bipush (v := nI 6) G (pc := 7) dX5_init_7 (by decide) ?_
  refine k_newa G (pc := 9) dX5_init_9 (ly_5_7 hc) rfl (by decide) (by omega) ?_
  have b1 := b0.arr (ly_5_7 hc)
  refine k_putRF G (pc := 11) dX5_init_11 fl_X5_9_5 (Or.inr ⟨rfl, rfl⟩) hc (by omega) ?_
  have b2 := b1.put (k := 7) (x := some (c + 4)) (by omega)
  refine k_aload_n G (pc := 14) dX5_init_14 rfl ?_
  refine k_bipush (v := nI 6) G (pc := 15) dX5_init_15 (by decide) ?_
  refine k_newa G (pc := 17) dX5_init_17 (ly_5_8 hc) rfl (by decide) (by omega) ?_
  have b3 := b2.arr (ly_5_8 hc)
  refine k_putRF G (pc := 19) dX5_init_19 fl_X5_15_5 (Or.inr ⟨rfl, rfl⟩) hc (by omega) ?_
  have b4 := b3.put (k := 8) (x := some (c + 5)) (by omega)
  refine k_aload_n G (pc := 22) dX5_init_22 rfl ?_
  refine k_bipush (v := nI 6) G (pc := 23) dX5_init_23 (by decide) ?_
  refine k_newa G (pc := 25) dX5_init_25 (ly_5_9 hc) rfl (by decide) (by omega) ?_
  have b5 := b4.arr (ly_5_9 hc)
  refine k_putRF G (pc := 27) dX5_init_27 fl_X5_18_5 (Or.inr ⟨rfl, rfl⟩) hc (by omega) ?_
  have b6 := b5.put (k := 9) (x := some (c + 6)) (by omega)
  refine k_vret G (pc := 30) dX5_init_30 rfl rfl ?_
  exact ⟨rfl, fun z hz => (Eq.trans (va_up_ne _ _ (by omega)) (Eq.trans (va_up_ne _ _ (by omega)) (Eq.trans (va_up_ne _ _ (by omega)) (f1 z (by omega))))), b6, cf1 (Eq.trans (Eq.trans (va_up_ne _ _ (by omega)) (Eq.trans (va_up_ne _ _ (by omega)) (va_up_ne _ _ (by omega)))) j1)⟩
set_option maxHeartbeats 2000000 in
theorem n_X3 {d : Nat} (hd : 3 ≤ d) {hi : mm_HI} {τ : mm_T} {c : Nat} (hc : mm_lay c = (0, 3)) (hf : fsh c hi τ) : mm_wp d yX3_init [.ref c] hi τ (c + 1) (c + 4) (ctr c (c + 4) hi τ (va_up (va_up (fun _ => none) 0 (some (c + 1))) 3 (some (c + 3))) (fun h => h c 1 = nI 1 ∧ h c 2 = nI 1 ∧ h c 7 = -1)) := by
  refine k_intro (by omega) M_X3_init (by omega) (Nat.le_of_ble_eq_true rfl) rfl ?_
  intro e X he G
  show X 0 [some (.ref (c))] [] hi τ (c + 1)
  refine k_aload_n G (pc := 0) dX3_init_0 rfl ?_
  refine k_iconst (v := nI 1) G (pc := 1) dX3_init_1 (by decide) ?_
  refine k_iconst (v := nI 1) G (pc := 2) dX3_init_2 (by decide) ?_
  refine k_cN2 G (pc := 3) dX3_init_3 cn_X3_3 (n_W3 (by omega) (c := c) hc hf (bw := 1) (ro := 1) (by decide +kernel) (by decide +kernel)) (by omega) (Nat.le_of_ble_eq_true rfl) ?_
  rintro v1 h1 t1 ⟨rfl, f1, b0, j1⟩
  show X 6 _ _ h1 t1 (c + 4)
  refine k_aload_n G (pc := 6) dX3_init_6 rfl ?_
  refine k_iconst (v := -1) G (pc := 7) dX3_init_7 (by decide) ?_
  refine k_putIF G (pc := 8) dX3_init_8 fl_X3_11_3 (Or.inl rfl) (Or.inl rfl) hc (by omega) ?_
  refine k_vret G (pc := 11) dX3_init_11 rfl rfl ?_
  exact ⟨rfl, fun z hz => (Eq.trans (va_up_ne _ _ (by omega)) (f1 z (by omega))), b0, by
    refine ⟨?_, ?_, ?_⟩
    · show va_up h1 c _ c 1 = _
      rw [va_up_self, va_up_ne _ _ (by decide), j1]; rfl
    · show va_up h1 c _ c 2 = _
      rw [va_up_self, va_up_ne _ _ (by decide), j1]; rfl
    · show va_up h1 c _ c 7 = _
      rw [va_up_self, va_up_self]⟩
set_option maxHeartbeats 2000000 in
theorem n_X0 {d : Nat} (hd : 3 ≤ d) {hi : mm_HI} {τ : mm_T} {c : Nat} (hc : mm_lay c = (0, 0)) (hf : fsh c hi τ) : mm_wp d yX0_init [.ref c] hi τ (c + 1) (c + 5) (ctr c (c + 5) hi τ (va_up (va_up (va_up (fun _ => none) 0 (some (c + 1))) 3 (some (c + 3))) 6 (some (c + 4))) (fun h => h c 1 = nI 0 ∧ h c 2 = nI 0)) := by
  refine k_intro (by omega) M_X0_init (by omega) (Nat.le_of_ble_eq_true rfl) rfl ?_
  intro e X he G
  show X 0 [some (.ref (c))] [] hi τ (c + 1)
  refine k_aload_n G (pc := 0) dX0_init_0 rfl ?_
  refine k_iconst (v := nI 0) G (pc := 1) dX0_init_1 (by decide) ?_
  refine k_iconst (v := nI 0) G (pc := 2) dX0_init_2 (by decide) ?_
  refine k_cN2 G (pc := 3) dX0_init_3 cn_X0_3 (n_W0 (by omega) (c := c) hc hf (bw := 0) (ro := 0) (by decide +kernel) (by decide +kernel)) (by omega) (Nat.le_of_ble_eq_true rfl) ?_
  rintro v1 h1 t1 ⟨rfl, f1, b0, j1⟩
  show X 6 _ _ h1 t1 (c + 4)
  refine k_aload_n G (pc := 6) dX0_init_6 rfl ?_
  refine k_new G (pc := 7) dX0_init_7 nw_X0_9 (ly_0_6 hc) (by omega) ?_
  refine k_dup G (pc := 10) dX0_init_10 rfl ?_
  refine k_cN0 G (pc := 11) dX0_init_11 cn_X0_11 (n_X4 (by omega) (c := c + 4) (ly_0_6 hc) (b0.nobj)) (by omega) (Nat.le_of_ble_eq_true rfl) ?_
  rintro v2 h2 t2 ⟨rfl, f2, p2, j2⟩
  have b1 := b0.obj (by omega) p2 (hr_4 (ly_0_6 hc))
  show X 14 _ _ h2 t2 (c + 5)
  refine k_putRF G (pc := 14) dX0_init_14 fl_X0_14_0 (Or.inr ⟨rfl, rfl⟩) hc (by omega) ?_
  have b2 := b1.put (k := 6) (x := some (c + 4)) (by omega)
  refine k_vret G (pc := 17) dX0_init_17 rfl rfl ?_
  exact ⟨rfl, fun z hz => (Eq.trans (f2 z (by omega)) (Eq.trans (va_up_ne _ _ (by omega)) (f1 z (by omega)))), b2, cf1 (Eq.trans (Eq.trans (f2 c (by omega)) (va_up_ne _ _ (by omega))) j1)⟩
theorem fsh_new {cur : Nat} {u : mm_T} {hi : mm_HI} (h1 : ∀ z, cur ≤ z → u.1 z = fun _ => none) (h2 : u.2 = fun _ _ => 0) : fsh cur (va_up hi cur (fun _ => 0)) (va_up u.1 cur (fun _ => none), va_up u.2 cur (fun _ => 0)) := by
  refine ⟨va_up_self _ _ _, fun z hz => ?_, ?_⟩
  · by_cases q : z = cur
    · rw [q]; exact va_up_self _ _ _
    · exact (va_up_ne _ _ q).trans (h1 z hz)
  · show va_up u.2 cur (fun _ => 0) = _
    rw [h2]
    funext z
    by_cases q : z = cur
    · rw [q]; exact va_up_self _ _ _
    · exact va_up_ne _ _ q
def qk (c k : Nat) (τ0 u : mm_T) : Prop := u.1 c = va_up (va_up (fun _ => none) 0 (some (c + 1))) 2 (some (c + 3)) ∧ (∀ z, c < z → z < c + 3 + 1 + 2 * k → z ≠ c + 3 → u.1 z = mm_hr false z) ∧ u.1 (c + 3) = (fun j => if j < k then some (c + 3 + 1 + 2 * j) else none) ∧ (∀ z, c + 3 + 1 + 2 * k ≤ z → u.1 z = fun _ => none) ∧ u.2 = (fun _ _ => 0) ∧ ∀ z, z < c → u.1 z = τ0.1 z
theorem qk.step {c k : Nat} {τ0 u t : mm_T} {T2 : Nat → Option Nat} (h : qk c k τ0 u) (ht : pk (c + 3 + 1 + 2 * k) (c + 3 + 1 + 2 * k + 2) T2 (va_up u.1 (c + 3 + 1 + 2 * k) (fun _ => none), va_up u.2 (c + 3 + 1 + 2 * k) (fun _ => 0)) t) (h2 : mm_hr false (c + 3 + 1 + 2 * k) = T2) : qk c (k + 1) τ0 (va_up t.1 (c + 3) (va_up (t.1 (c + 3)) k (some (c + 3 + 1 + 2 * k))), t.2) := by
  have e : ∀ z, z < c + 3 + 1 + 2 * k → t.1 z = u.1 z := fun z hz => (ht.2.2.2.2 z hz).trans (va_up_ne _ _ (by omega))
  refine ⟨(va_up_ne _ _ (by omega)).trans ((e c (by omega)).trans h.1), fun z h3 h4 h5 => (va_up_ne _ _ h5).trans ?_, ?_, fun z hz => (va_up_ne _ _ (by omega)).trans (ht.2.2.1 z (by omega)), ht.2.2.2.1, fun z hz => (va_up_ne _ _ (by omega)).trans ((e z (by omega)).trans (h.2.2.2.2.2 z hz))⟩
  · rcases Nat.lt_trichotomy z (c + 3 + 1 + 2 * k) with q | q | q
    · exact (e z q).trans (h.2.1 z h3 q h5)
    · rw [q, ht.1, h2]
    · exact ht.2.1 z q (by omega)
  · show va_up t.1 (c + 3) _ (c + 3) = _
    rw [va_up_self, e (c + 3) (by omega), h.2.2.1]
    funext j
    by_cases q : j = k
    · rw [q, va_up_self, if_pos (by omega)]
    · rw [va_up_ne _ _ q]
      by_cases q2 : j < k
      · rw [if_pos q2, if_pos (by omega)]
      · rw [if_neg q2, if_neg (by omega)]
set_option maxHeartbeats 2000000 in
theorem n_X1 {d : Nat} (hd : 2 ≤ d) {hi : mm_HI} {τ : mm_T} {c : Nat} (hc : mm_lay c = (0, 1)) (hf : fsh c hi τ) : mm_wp d yX1_init [.ref c] hi τ (c + 1) (c + 24) (ctr c (c + 24) hi τ (va_up (va_up (fun _ => none) 0 (some (c + 1))) 2 (some (c + 3))) (fun h => h c 1 = nI 0 ∧ h (c + 1) 1 = nI 0 ∧ h (c + 1) 2 = nI 0)) := by
  refine k_intro (by omega) M_X1_init (by omega) (Nat.le_of_ble_eq_true rfl) rfl ?_
  intro e X he G
  show X 0 [some (.ref (c)), none] [] hi τ (c + 1)
  refine k_aload_n G (pc := 0) dX1_init_0 rfl ?_
  refine k_objInit G (pc := 1) dX1_init_1 oi_X1_3 (Nat.le_of_ble_eq_true rfl) ?_
  have b0 := hf.go
  refine k_aload_n G (pc := 4) dX1_init_4 rfl ?_
  refine k_new G (pc := 5) dX1_init_5 nw_X1_9 (ly_1_0 hc) (by omega) ?_
  refine k_dup G (pc := 8) dX1_init_8 rfl ?_
  refine k_cN0 G (pc := 9) dX1_init_9 cn_X1_11 (n_X6 (by omega) (c := c + 1) (ly_1_0 hc) (b0.nobj)) (by omega) (Nat.le_of_ble_eq_true rfl) ?_
  rintro v1 h1 t1 ⟨rfl, f1, p1, j1⟩
  have b1 := b0.obj (by omega) p1 (hr_6 (ly_1_0 hc))
  show X 12 _ _ h1 t1 (c + 3)
  refine k_putRF G (pc := 12) dX1_init_12 fl_X1_12_1 (Or.inr ⟨rfl, rfl⟩) hc (by omega) ?_
  have b2 := b1.put (k := 0) (x := some (c + 1)) (by omega)
  refine k_aload_n G (pc := 15) dX1_init_15 rfl ?_
  refine k_bipush (v := nI 10) G (pc := 16) dX1_init_16 (by decide) ?_
  refine k_anew G (pc := 18) dX1_init_18 nr_X1_9 (ly_1_2 hc) rfl (by decide) (by omega) ?_
  refine k_putRF G (pc := 21) dX1_init_21 fl_X1_18_1 (Or.inr ⟨rfl, rfl⟩) hc (by omega) ?_
  refine k_iconst (v := nI 0) G (pc := 24) dX1_init_24 (by decide) ?_
  refine k_istore_n G (pc := 25) dX1_init_25 (by decide) ?_
  show X _ [_, _] _ _ _ _
  have L26 : ∀ (zz : Nat) (k : Nat) (hk : mm_HI) (tk : mm_T), 10 - k < zz → k ≤ 10 → qk c k τ tk → (∀ z, z < c → hk z = hi z) → hk c = (fun _ => 0) → hk (c + 1) = (fun _ => 0) → X 26 [some (.ref (c)), some (.int (nI (k)))] [] hk tk (c + 3 + 1 + 2 * k) := by
    intro zz
    induction zz with
    | zero => intro k hk tk hm; exact absurd hm (Nat.not_lt_zero _)
    | succ zz ih26 =>
      intro k hk tk hm i0 i1 i2 i3 i4
      skip
      refine k_iload_n G (pc := 26) dX1_init_26 rfl ?_
      refine k_bipush (v := nI 10) G (pc := 27) dX1_init_27 (by decide) ?_
      refine k_icmp_geN (tgt := 51) G (pc := 29) dX1_init_29 (by decide) (by omega) (by omega) (fun c29 => ?_) (fun c29 => ?_)
      · refine k_vret G (pc := 51) dX1_init_51 rfl (by omega) ?_
        have hk10 : k = 10 := by omega
        subst hk10
        refine ⟨rfl, i2, ⟨i1.1, fun z h3 h4 => ?_, i1.2.2.2.1, i1.2.2.2.2.1, i1.2.2.2.2.2⟩, ?_, ?_, ?_⟩
        · by_cases q : z = c + 3
          · rw [q, i1.2.2.1, hr_q (ly_1_2 hc)]
          · exact i1.2.1 z h3 (by omega) q
        · rw [i3, nI_0]
        · rw [i4, nI_0]
        · rw [i4, nI_0]
      · refine k_aload_n G (pc := 32) dX1_init_32 rfl ?_
        refine k_getR (x := c + 3) G (pc := 33) dX1_init_33 fl_X1_18_1 hc (by omega) (by rw [i1.1]; exact va_up_self _ _ _) ?_
        refine k_iload_n G (pc := 36) dX1_init_36 rfl ?_
        refine k_new G (pc := 37) dX1_init_37 nw_X1_9 (ly_past (ly_1_2 hc) (by omega)) (by omega) ?_
        refine k_dup G (pc := 40) dX1_init_40 rfl ?_
        refine k_cN0 G (pc := 41) dX1_init_41 cn_X1_11 (n_X6 (by omega) (c := c + 3 + 1 + 2 * k) (ly_past (ly_1_2 hc) (by omega)) (fsh_new i1.2.2.2.1 i1.2.2.2.2.1)) (by omega) (Nat.le_of_ble_eq_true rfl) ?_
        rintro v2 h2 t2 ⟨rfl, f2, p2, j2⟩
        show X 44 _ _ h2 t2 (c + 3 + 1 + 2 * k + 2)
        refine k_aast (j := k) G (pc := 44) dX1_init_44 (ly_1_2 hc) (by omega) rfl (by omega) (by decide) (ly_past (ly_1_2 hc) (by omega)) (by omega) ?_
        refine k_iincN G (pc := 45) dX1_init_45 rfl (inc1 _) (by decide) ?_
        show X _ [_, _] _ _ _ _
        refine k_goto (tgt := 26) G (pc := 48) dX1_init_48 (by decide) ?_
        rw [show c + 3 + 1 + 2 * k + 2 = c + 3 + 1 + 2 * (k + 1) by omega]
        refine ih26 (k + 1) h2 _ (by omega) (by omega) (i1.step p2 (hr_6 (ly_past (ly_1_2 hc) (by omega)))) (fun z hz => (f2 z (by omega)).trans ((va_up_ne _ _ (by omega)).trans (i2 z hz))) ((f2 c (by omega)).trans ((va_up_ne _ _ (by omega)).trans i3)) ((f2 (c + 1) (by omega)).trans ((va_up_ne _ _ (by omega)).trans i4))
  refine L26 _ 0 _ _ (Nat.lt_succ_self _) (by omega) ?_ (fun z hz => (f1 z (by omega)).trans (va_up_ne _ _ (by omega))) ((f1 c (by omega)).trans ((va_up_ne _ _ (by omega)).trans hf.1)) j1.1
  have e5 : ∀ z, z ≠ c → z ≠ c + 3 → (va_up (va_up (va_up t1.1 c (va_up (t1.1 c) 0 (some (c + 1)))) (c + 3) (fun _ => none)) c (va_up (va_up (va_up t1.1 c (va_up (t1.1 c) 0 (some (c + 1)))) (c + 3) (fun _ => none) c) 2 (some (c + 3)))) z = t1.1 z := fun z h5 h6 => (va_up_ne _ _ h5).trans ((va_up_ne _ _ h6).trans (va_up_ne _ _ h5))
  refine ⟨?_, fun z h3 h4 h5 => (e5 z (by omega) h5).trans (b1.2.1 z h3 (by omega)), ?_, fun z hz => (e5 z (by omega) (by omega)).trans (b1.2.2.1 z (by omega)), b1.2.2.2.1, fun z hz => (e5 z (by omega) (by omega)).trans (b1.2.2.2.2 z hz)⟩
  · exact Eq.trans (va_up_self _ _ _) (congrArg (fun y => va_up y 2 (some (c + 3))) (Eq.trans (va_up_ne _ _ (show c ≠ c + 3 by omega)) (Eq.trans (va_up_self _ _ _) (congrArg (fun y => va_up y 0 (some (c + 1))) b1.1))))
  · refine Eq.trans (va_up_ne _ _ (show c + 3 ≠ c by omega)) (Eq.trans (va_up_self _ _ _) ?_)
    funext j
    rw [if_neg (by omega)]
set_option maxHeartbeats 2000000 in
theorem n_X10 {d : Nat} (hd : 5 ≤ d) {hi : mm_HI} {τ : mm_T} (hf : fsh 0 hi τ) : mm_wp d yX10_init [.ref 0] hi τ (1) (106) (ctr 0 (106) hi τ (va_up (va_up (va_up (va_up (va_up (va_up (va_up (va_up (va_up (va_up (va_up (fun _ => none) 0 (some 1)) 1 (some 3)) 2 (some 9)) 3 (some 15)) 4 (some 39)) 5 (some 63)) 11 (some 87)) 12 (some 88)) 13 (some 95)) 14 (some 99)) 15 (some 104)) (fun h => h 0 = (fun _ => 0) ∧ h 1 = (fun _ => 0) ∧ shF h 3 P00 nx0 2 ∧ (h 15 1 = nI 0 ∧ h 16 1 = nI 0 ∧ h 16 2 = nI 0) ∧ (h 88 1 = nI 0 ∧ h 88 2 = nI 1) ∧ (h 95 1 = nI 1 ∧ h 95 2 = nI 1 ∧ h 95 7 = -1) ∧ (h 99 1 = nI 0 ∧ h 99 2 = nI 0))) := by
  refine k_intro (by omega) M_X10_init (by omega) (Nat.le_of_ble_eq_true rfl) rfl ?_
  intro e X he G
  show X 0 [some (.ref (0))] [] hi τ 1
  refine k_aload_n G (pc := 0) dX10_init_0 rfl ?_
  refine k_objInit G (pc := 1) dX10_init_1 oi_X10_1 (Nat.le_of_ble_eq_true rfl) ?_
  have b0 := hf.go
  refine k_aload_n G (pc := 4) dX10_init_4 rfl ?_
  refine k_new G (pc := 5) dX10_init_5 nw_X10_7 rfl (by omega) ?_
  refine k_dup G (pc := 8) dX10_init_8 rfl ?_
  refine k_cN0 G (pc := 9) dX10_init_9 cn_X10_9 (n_X8 (by omega) (c := 1) rfl (b0.nobj)) (by omega) (Nat.le_of_ble_eq_true rfl) ?_
  rintro v1 h1 t1 ⟨rfl, f1, p1, j1⟩
  have b1 := b0.obj (by omega) p1 (hr_8 rfl)
  show X 12 _ _ h1 t1 (3)
  refine k_putRF G (pc := 12) dX10_init_12 fl_X10_10_9 (Or.inr ⟨rfl, rfl⟩) rfl (by omega) ?_
  have b2 := b1.put (k := 0) (x := some (1)) (by omega)
  refine k_aload_n G (pc := 15) dX10_init_15 rfl ?_
  refine k_new G (pc := 16) dX10_init_16 nw_X10_16 rfl (by omega) ?_
  refine k_dup G (pc := 19) dX10_init_19 rfl ?_
  refine k_cN0 G (pc := 20) dX10_init_20 cn_X10_18 (n_X7 (by omega) (c := 3) rfl (b2.nobj)) (by omega) (Nat.le_of_ble_eq_true rfl) ?_
  rintro v2 h2 t2 ⟨rfl, f2, p2, j2⟩
  have b3 := b2.obj (by omega) p2 (hr_7 rfl)
  show X 23 _ _ h2 t2 (9)
  refine k_putRF G (pc := 23) dX10_init_23 fl_X10_19_9 (Or.inl rfl) rfl (by omega) ?_
  have b4 := b3.put (k := 1) (x := some (3)) (by omega)
  refine k_aload_n G (pc := 26) dX10_init_26 rfl ?_
  refine k_new G (pc := 27) dX10_init_27 nw_X10_16 rfl (by omega) ?_
  refine k_dup G (pc := 30) dX10_init_30 rfl ?_
  refine k_cN0 G (pc := 31) dX10_init_31 cn_X10_18 (n_X7 (by omega) (c := 9) rfl (b4.nobj)) (by omega) (Nat.le_of_ble_eq_true rfl) ?_
  rintro v3 h3 t3 ⟨rfl, f3, p3, j3⟩
  have b5 := b4.obj (by omega) p3 (hr_7 rfl)
  show X 34 _ _ h3 t3 (15)
  refine k_putRF G (pc := 34) dX10_init_34 fl_X10_23_9 (Or.inl rfl) rfl (by omega) ?_
  have b6 := b5.put (k := 2) (x := some (9)) (by omega)
  refine k_aload_n G (pc := 37) dX10_init_37 rfl ?_
  refine k_new G (pc := 38) dX10_init_38 nw_X10_26 rfl (by omega) ?_
  refine k_dup G (pc := 41) dX10_init_41 rfl ?_
  refine k_cN0 G (pc := 42) dX10_init_42 cn_X10_28 (n_X1 (by omega) (c := 15) rfl (b6.nobj)) (by omega) (Nat.le_of_ble_eq_true rfl) ?_
  rintro v4 h4 t4 ⟨rfl, f4, p4, j4⟩
  have b7 := b6.obj (by omega) p4 (hr_1 rfl)
  show X 45 _ _ h4 t4 (39)
  refine k_putRF G (pc := 45) dX10_init_45 fl_X10_29_9 (Or.inr ⟨rfl, rfl⟩) rfl (by omega) ?_
  have b8 := b7.put (k := 3) (x := some (15)) (by omega)
  refine k_aload_n G (pc := 48) dX10_init_48 rfl ?_
  refine k_new G (pc := 49) dX10_init_49 nw_X10_26 rfl (by omega) ?_
  refine k_dup G (pc := 52) dX10_init_52 rfl ?_
  refine k_cN0 G (pc := 53) dX10_init_53 cn_X10_28 (n_X1 (by omega) (c := 39) rfl (b8.nobj)) (by omega) (Nat.le_of_ble_eq_true rfl) ?_
  rintro v5 h5 t5 ⟨rfl, f5, p5, j5⟩
  have b9 := b8.obj (by omega) p5 (hr_1 rfl)
  show X 56 _ _ h5 t5 (63)
  refine k_putRF G (pc := 56) dX10_init_56 fl_X10_33_9 (Or.inr ⟨rfl, rfl⟩) rfl (by omega) ?_
  have b10 := b9.put (k := 4) (x := some (39)) (by omega)
  refine k_aload_n G (pc := 59) dX10_init_59 rfl ?_
  refine k_new G (pc := 60) dX10_init_60 nw_X10_26 rfl (by omega) ?_
  refine k_dup G (pc := 63) dX10_init_63 rfl ?_
  refine k_cN0 G (pc := 64) dX10_init_64 cn_X10_28 (n_X1 (by omega) (c := 63) rfl (b10.nobj)) (by omega) (Nat.le_of_ble_eq_true rfl) ?_
  rintro v6 h6 t6 ⟨rfl, f6, p6, j6⟩
  have b11 := b10.obj (by omega) p6 (hr_1 rfl)
  show X 67 _ _ h6 t6 (87)
  refine k_putRF G (pc := 67) dX10_init_67 fl_X10_36_9 (Or.inr ⟨rfl, rfl⟩) rfl (by omega) ?_
  have b12 := b11.put (k := 5) (x := some (63)) (by omega)
  refine k_aload_n G (pc := 70) dX10_init_70 rfl ?_
  refine k_new G (pc := 71) dX10_init_71 nw_X10_39 rfl (by omega) ?_
  refine k_dup G (pc := 74) dX10_init_74 rfl ?_
  refine k_cN0 G (pc := 75) dX10_init_75 cn_X10_41 (n_X4 (by omega) (c := 87) rfl (b12.nobj)) (by omega) (Nat.le_of_ble_eq_true rfl) ?_
  rintro v7 h7 t7 ⟨rfl, f7, p7, j7⟩
  have b13 := b12.obj (by omega) p7 (hr_4 rfl)
  show X 78 _ _ h7 t7 (88)
  refine k_putRF G (pc := 78) dX10_init_78 fl_X10_42_9 (Or.inr ⟨rfl, rfl⟩) rfl (by omega) ?_
  have b14 := b13.put (k := 11) (x := some (87)) (by omega)
  refine k_aload_n G (pc := 81) dX10_init_81 rfl ?_
  refine k_new G (pc := 82) dX10_init_82 nw_X10_46 rfl (by omega) ?_
  refine k_dup G (pc := 85) dX10_init_85 rfl ?_
  refine k_cN0 G (pc := 86) dX10_init_86 cn_X10_48 (n_X5 (by omega) (c := 88) rfl (b14.nobj)) (by omega) (Nat.le_of_ble_eq_true rfl) ?_
  rintro v8 h8 t8 ⟨rfl, f8, p8, j8⟩
  have b15 := b14.obj (by omega) p8 (hr_5 rfl)
  show X 89 _ _ h8 t8 (95)
  refine k_putRF G (pc := 89) dX10_init_89 fl_X10_49_9 (Or.inr ⟨rfl, rfl⟩) rfl (by omega) ?_
  have b16 := b15.put (k := 12) (x := some (88)) (by omega)
  refine k_aload_n G (pc := 92) dX10_init_92 rfl ?_
  refine k_new G (pc := 93) dX10_init_93 nw_X10_53 rfl (by omega) ?_
  refine k_dup G (pc := 96) dX10_init_96 rfl ?_
  refine k_cN0 G (pc := 97) dX10_init_97 cn_X10_55 (n_X3 (by omega) (c := 95) rfl (b16.nobj)) (by omega) (Nat.le_of_ble_eq_true rfl) ?_
  rintro v9 h9 t9 ⟨rfl, f9, p9, j9⟩
  have b17 := b16.obj (by omega) p9 (hr_3 rfl)
  show X 100 _ _ h9 t9 (99)
  refine k_putRF G (pc := 100) dX10_init_100 fl_X10_56_9 (Or.inr ⟨rfl, rfl⟩) rfl (by omega) ?_
  have b18 := b17.put (k := 13) (x := some (95)) (by omega)
  refine k_aload_n G (pc := 103) dX10_init_103 rfl ?_
  refine k_new G (pc := 104) dX10_init_104 nw_X10_60 rfl (by omega) ?_
  refine k_dup G (pc := 107) dX10_init_107 rfl ?_
  refine k_cN0 G (pc := 108) dX10_init_108 cn_X10_62 (n_X0 (by omega) (c := 99) rfl (b18.nobj)) (by omega) (Nat.le_of_ble_eq_true rfl) ?_
  rintro v10 h10 t10 ⟨rfl, f10, p10, j10⟩
  have b19 := b18.obj (by omega) p10 (hr_0 rfl)
  show X 111 _ _ h10 t10 (104)
  refine k_putRF G (pc := 111) dX10_init_111 fl_X10_63_9 (Or.inr ⟨rfl, rfl⟩) rfl (by omega) ?_
  have b20 := b19.put (k := 14) (x := some (99)) (by omega)
  refine k_aload_n G (pc := 114) dX10_init_114 rfl ?_
  refine k_new G (pc := 115) dX10_init_115 nw_X10_67 rfl (by omega) ?_
  refine k_dup G (pc := 118) dX10_init_118 rfl ?_
  refine k_cN0 G (pc := 119) dX10_init_119 cn_X10_69 (n_X6 (by omega) (c := 104) rfl (b20.nobj)) (by omega) (Nat.le_of_ble_eq_true rfl) ?_
  rintro v11 h11 t11 ⟨rfl, f11, p11, j11⟩
  have b21 := b20.obj (by omega) p11 (hr_6 rfl)
  show X 122 _ _ h11 t11 (106)
  refine k_putRF G (pc := 122) dX10_init_122 fl_X10_70_9 (Or.inr ⟨rfl, rfl⟩) rfl (by omega) ?_
  have b22 := b21.put (k := 15) (x := some (104)) (by omega)
  refine k_vret G (pc := 125) dX10_init_125 rfl rfl ?_
  exact ⟨rfl, fun z hz => (Eq.trans (f11 z (by omega)) (Eq.trans (va_up_ne _ _ (by omega)) (Eq.trans (f10 z (by omega)) (Eq.trans (va_up_ne _ _ (by omega)) (Eq.trans (f9 z (by omega)) (Eq.trans (va_up_ne _ _ (by omega)) (Eq.trans (f8 z (by omega)) (Eq.trans (va_up_ne _ _ (by omega)) (Eq.trans (f7 z (by omega)) (Eq.trans (va_up_ne _ _ (by omega)) (Eq.trans (f6 z (by omega)) (Eq.trans (va_up_ne _ _ (by omega)) (Eq.trans (f5 z (by omega)) (Eq.trans (va_up_ne _ _ (by omega)) (Eq.trans (f4 z (by omega)) (Eq.trans (va_up_ne _ _ (by omega)) (Eq.trans (f3 z (by omega)) (Eq.trans (va_up_ne _ _ (by omega)) (Eq.trans (f2 z (by omega)) (Eq.trans (va_up_ne _ _ (by omega)) (Eq.trans (f1 z (by omega)) (va_up_ne _ _ (by omega))))))))))))))))))))))), b22, ⟨Eq.trans (Eq.trans (f11 0 (by omega)) (Eq.trans (va_up_ne _ _ (by omega)) (Eq.trans (f10 0 (by omega)) (Eq.trans (va_up_ne _ _ (by omega)) (Eq.trans (f9 0 (by omega)) (Eq.trans (va_up_ne _ _ (by omega)) (Eq.trans (f8 0 (by omega)) (Eq.trans (va_up_ne _ _ (by omega)) (Eq.trans (f7 0 (by omega)) (Eq.trans (va_up_ne _ _ (by omega)) (Eq.trans (f6 0 (by omega)) (Eq.trans (va_up_ne _ _ (by omega)) (Eq.trans (f5 0 (by omega)) (Eq.trans (va_up_ne _ _ (by omega)) (Eq.trans (f4 0 (by omega)) (Eq.trans (va_up_ne _ _ (by omega)) (Eq.trans (f3 0 (by omega)) (Eq.trans (va_up_ne _ _ (by omega)) (Eq.trans (f2 0 (by omega)) (Eq.trans (va_up_ne _ _ (by omega)) (Eq.trans (f1 0 (by omega)) (va_up_ne _ _ (by omega))))))))))))))))))))))) hf.1, Eq.trans (Eq.trans (f11 1 (by omega)) (Eq.trans (va_up_ne _ _ (by omega)) (Eq.trans (f10 1 (by omega)) (Eq.trans (va_up_ne _ _ (by omega)) (Eq.trans (f9 1 (by omega)) (Eq.trans (va_up_ne _ _ (by omega)) (Eq.trans (f8 1 (by omega)) (Eq.trans (va_up_ne _ _ (by omega)) (Eq.trans (f7 1 (by omega)) (Eq.trans (va_up_ne _ _ (by omega)) (Eq.trans (f6 1 (by omega)) (Eq.trans (va_up_ne _ _ (by omega)) (Eq.trans (f5 1 (by omega)) (Eq.trans (va_up_ne _ _ (by omega)) (Eq.trans (f4 1 (by omega)) (Eq.trans (va_up_ne _ _ (by omega)) (Eq.trans (f3 1 (by omega)) (Eq.trans (va_up_ne _ _ (by omega)) (Eq.trans (f2 1 (by omega)) (va_up_ne _ _ (by omega))))))))))))))))))))) j1.1, shF.keep j2 (fun c q1 q2 => (Eq.trans (f11 c (by omega)) (Eq.trans (va_up_ne _ _ (by omega)) (Eq.trans (f10 c (by omega)) (Eq.trans (va_up_ne _ _ (by omega)) (Eq.trans (f9 c (by omega)) (Eq.trans (va_up_ne _ _ (by omega)) (Eq.trans (f8 c (by omega)) (Eq.trans (va_up_ne _ _ (by omega)) (Eq.trans (f7 c (by omega)) (Eq.trans (va_up_ne _ _ (by omega)) (Eq.trans (f6 c (by omega)) (Eq.trans (va_up_ne _ _ (by omega)) (Eq.trans (f5 c (by omega)) (Eq.trans (va_up_ne _ _ (by omega)) (Eq.trans (f4 c (by omega)) (Eq.trans (va_up_ne _ _ (by omega)) (Eq.trans (f3 c (by omega)) (va_up_ne _ _ (by omega)))))))))))))))))))), ⟨(Eq.trans (congrFun (Eq.trans (f11 15 (by omega)) (Eq.trans (va_up_ne _ _ (by omega)) (Eq.trans (f10 15 (by omega)) (Eq.trans (va_up_ne _ _ (by omega)) (Eq.trans (f9 15 (by omega)) (Eq.trans (va_up_ne _ _ (by omega)) (Eq.trans (f8 15 (by omega)) (Eq.trans (va_up_ne _ _ (by omega)) (Eq.trans (f7 15 (by omega)) (Eq.trans (va_up_ne _ _ (by omega)) (Eq.trans (f6 15 (by omega)) (Eq.trans (va_up_ne _ _ (by omega)) (Eq.trans (f5 15 (by omega)) (va_up_ne _ _ (by omega))))))))))))))) 1) j4.1), (Eq.trans (congrFun (Eq.trans (f11 16 (by omega)) (Eq.trans (va_up_ne _ _ (by omega)) (Eq.trans (f10 16 (by omega)) (Eq.trans (va_up_ne _ _ (by omega)) (Eq.trans (f9 16 (by omega)) (Eq.trans (va_up_ne _ _ (by omega)) (Eq.trans (f8 16 (by omega)) (Eq.trans (va_up_ne _ _ (by omega)) (Eq.trans (f7 16 (by omega)) (Eq.trans (va_up_ne _ _ (by omega)) (Eq.trans (f6 16 (by omega)) (Eq.trans (va_up_ne _ _ (by omega)) (Eq.trans (f5 16 (by omega)) (va_up_ne _ _ (by omega))))))))))))))) 1) j4.2.1), (Eq.trans (congrFun (Eq.trans (f11 16 (by omega)) (Eq.trans (va_up_ne _ _ (by omega)) (Eq.trans (f10 16 (by omega)) (Eq.trans (va_up_ne _ _ (by omega)) (Eq.trans (f9 16 (by omega)) (Eq.trans (va_up_ne _ _ (by omega)) (Eq.trans (f8 16 (by omega)) (Eq.trans (va_up_ne _ _ (by omega)) (Eq.trans (f7 16 (by omega)) (Eq.trans (va_up_ne _ _ (by omega)) (Eq.trans (f6 16 (by omega)) (Eq.trans (va_up_ne _ _ (by omega)) (Eq.trans (f5 16 (by omega)) (va_up_ne _ _ (by omega))))))))))))))) 2) j4.2.2)⟩, ⟨(Eq.trans (congrFun (Eq.trans (f11 88 (by omega)) (Eq.trans (va_up_ne _ _ (by omega)) (Eq.trans (f10 88 (by omega)) (Eq.trans (va_up_ne _ _ (by omega)) (Eq.trans (f9 88 (by omega)) (va_up_ne _ _ (by omega))))))) 1) j8.1), (Eq.trans (congrFun (Eq.trans (f11 88 (by omega)) (Eq.trans (va_up_ne _ _ (by omega)) (Eq.trans (f10 88 (by omega)) (Eq.trans (va_up_ne _ _ (by omega)) (Eq.trans (f9 88 (by omega)) (va_up_ne _ _ (by omega))))))) 2) j8.2)⟩, ⟨(Eq.trans (congrFun (Eq.trans (f11 95 (by omega)) (Eq.trans (va_up_ne _ _ (by omega)) (Eq.trans (f10 95 (by omega)) (va_up_ne _ _ (by omega))))) 1) j9.1), (Eq.trans (congrFun (Eq.trans (f11 95 (by omega)) (Eq.trans (va_up_ne _ _ (by omega)) (Eq.trans (f10 95 (by omega)) (va_up_ne _ _ (by omega))))) 2) j9.2.1), (Eq.trans (congrFun (Eq.trans (f11 95 (by omega)) (Eq.trans (va_up_ne _ _ (by omega)) (Eq.trans (f10 95 (by omega)) (va_up_ne _ _ (by omega))))) 7) j9.2.2)⟩, ⟨(Eq.trans (congrFun (Eq.trans (f11 99 (by omega)) (va_up_ne _ _ (by omega))) 1) j10.1), (Eq.trans (congrFun (Eq.trans (f11 99 (by omega)) (va_up_ne _ _ (by omega))) 2) j10.2)⟩⟩⟩
set_option maxHeartbeats 2000000 in
theorem n_X11 {d : Nat} (hd : 1 ≤ d) {hi : mm_HI} {τ : mm_T} (hf : fsh 106 hi τ) : mm_wp d yX11_init [.ref 106] hi τ (107) (125) (ctr 106 (125) hi τ (va_up (va_up (va_up (va_up (va_up (va_up (va_up (va_up (va_up (va_up (va_up (va_up (va_up (va_up (va_up (va_up (va_up (va_up (fun _ => none) 3 (some (107))) 4 (some (108))) 5 (some (109))) 8 (some (110))) 10 (some (111))) 11 (some (112))) 13 (some (113))) 20 (some (114))) 21 (some (115))) 22 (some (116))) 23 (some (117))) 24 (some (118))) 25 (some (119))) 27 (some (120))) 29 (some (121))) 34 (some (122))) 35 (some (123))) 36 (some (124))) (fun h => h 106 = va_up (fun _ => 0) 0 (nI 2) ∧ h 124 = fun _ => 0)) := by
  refine k_intro (by omega) M_X11_init (by omega) (Nat.le_of_ble_eq_true rfl) rfl ?_
  intro e X he G
  show X 0 [some (.ref (106))] [] hi τ 107
  refine k_aload_n G (pc := 0) dX11_init_0 rfl ?_
  refine k_objInit G (pc := 1) dX11_init_1 oi_X11_1 (Nat.le_of_ble_eq_true rfl) ?_
  have b0 := hf.go
  refine k_aload_n G (pc := 4) dX11_init_4 rfl ?_
  refine k_iconst (v := nI 2) G (pc := 5) dX11_init_5 (by decide) ?_
  refine k_putIF G (pc := 6) dX11_init_6 fl_X11_7_10 (Or.inl rfl) (Or.inl rfl) rfl (by omega) ?_
  refine k_aload_n G (pc := 9) dX11_init_9 rfl ?_
  refine k_bipush (v := nI 36) G (pc := 10) dX11_init_10 (by decide) ?_
  refine k_newa G (pc := 12) dX11_init_12 rfl rfl (by decide) (by omega) ?_
  have b1 := b0.arr (show mm_lay 107 = _ from rfl)
  refine k_putRF G (pc := 14) dX11_init_14 fl_X11_13_10 (Or.inr ⟨rfl, rfl⟩) rfl (by omega) ?_
  have b2 := b1.put (k := 3) (x := some (107)) (by omega)
  refine k_aload_n G (pc := 17) dX11_init_17 rfl ?_
  refine k_bipush (v := nI 48) G (pc := 18) dX11_init_18 (by decide) ?_
  refine k_newa G (pc := 20) dX11_init_20 rfl rfl (by decide) (by omega) ?_
  have b3 := b2.arr (show mm_lay 108 = _ from rfl)
  refine k_putRF G (pc := 22) dX11_init_22 fl_X11_17_10 (Or.inr ⟨rfl, rfl⟩) rfl (by omega) ?_
  have b4 := b3.put (k := 4) (x := some (108)) (by omega)
  refine k_aload_n G (pc := 25) dX11_init_25 rfl ?_
  refine k_bipush (v := nI 8) G (pc := 26) dX11_init_26 (by decide) ?_
  refine k_newa G (pc := 28) dX11_init_28 rfl rfl (by decide) (by omega) ?_
  have b5 := b4.arr (show mm_lay 109 = _ from rfl)
  refine k_putRF G (pc := 30) dX11_init_30 fl_X11_20_10 (Or.inr ⟨rfl, rfl⟩) rfl (by omega) ?_
  have b6 := b5.put (k := 5) (x := some (109)) (by omega)
  refine k_aload_n G (pc := 33) dX11_init_33 rfl ?_
  refine k_bipush (v := nI 6) G (pc := 34) dX11_init_34 (by decide) ?_
  refine k_newa G (pc := 36) dX11_init_36 rfl rfl (by decide) (by omega) ?_
  have b7 := b6.arr (show mm_lay 110 = _ from rfl)
  refine k_putRF G (pc := 38) dX11_init_38 fl_X11_23_10 (Or.inr ⟨rfl, rfl⟩) rfl (by omega) ?_
  have b8 := b7.put (k := 8) (x := some (110)) (by omega)
  refine k_aload_n G (pc := 41) dX11_init_41 rfl ?_
  refine k_bipush (v := nI 6) G (pc := 42) dX11_init_42 (by decide) ?_
  refine k_newa G (pc := 44) dX11_init_44 rfl rfl (by decide) (by omega) ?_
  have b9 := b8.arr (show mm_lay 111 = _ from rfl)
  refine k_putRF G (pc := 46) dX11_init_46 fl_X11_26_10 (Or.inr ⟨rfl, rfl⟩) rfl (by omega) ?_
  have b10 := b9.put (k := 10) (x := some (111)) (by omega)
  refine k_aload_n G (pc := 49) dX11_init_49 rfl ?_
  refine k_bipush (v := nI 6) G (pc := 50) dX11_init_50 (by decide) ?_
  refine k_newa G (pc := 52) dX11_init_52 rfl rfl (by decide) (by omega) ?_
  have b11 := b10.arr (show mm_lay 112 = _ from rfl)
  refine k_putRF G (pc := 54) dX11_init_54 fl_X11_29_10 (Or.inr ⟨rfl, rfl⟩) rfl (by omega) ?_
  have b12 := b11.put (k := 11) (x := some (112)) (by omega)
  refine k_aload_n G (pc := 57) dX11_init_57 rfl ?_
  refine k_sipush (v := nI 150) G (pc := 58) dX11_init_58 (by decide) ?_
  refine k_newa G (pc := 61) dX11_init_61 rfl rfl (by decide) (by omega) ?_
  have b13 := b12.arr (show mm_lay 113 = _ from rfl)
  refine k_putRF G (pc := 63) dX11_init_63 fl_X11_32_10 (Or.inr ⟨rfl, rfl⟩) rfl (by omega) ?_
  have b14 := b13.put (k := 13) (x := some (113)) (by omega)
  refine k_aload_n G (pc := 66) dX11_init_66 rfl ?_
  refine k_bipush (v := nI 36) G (pc := 67) dX11_init_67 (by decide) ?_
  refine k_newa G (pc := 69) dX11_init_69 rfl rfl (by decide) (by omega) ?_
  have b15 := b14.arr (show mm_lay 114 = _ from rfl)
  refine k_putRF G (pc := 71) dX11_init_71 fl_X11_35_10 (Or.inr ⟨rfl, rfl⟩) rfl (by omega) ?_
  have b16 := b15.put (k := 20) (x := some (114)) (by omega)
  refine k_aload_n G (pc := 74) dX11_init_74 rfl ?_
  refine k_bipush (v := nI 48) G (pc := 75) dX11_init_75 (by decide) ?_
  refine k_newa G (pc := 77) dX11_init_77 rfl rfl (by decide) (by omega) ?_
  have b17 := b16.arr (show mm_lay 115 = _ from rfl)
  refine k_putRF G (pc := 79) dX11_init_79 fl_X11_38_10 (Or.inr ⟨rfl, rfl⟩) rfl (by omega) ?_
  have b18 := b17.put (k := 21) (x := some (115)) (by omega)
  refine k_aload_n G (pc := 82) dX11_init_82 rfl ?_
  refine k_bipush (v := nI 8) G (pc := 83) dX11_init_83 (by decide) ?_
  refine k_newa G (pc := 85) dX11_init_85 rfl rfl (by decide) (by omega) ?_
  have b19 := b18.arr (show mm_lay 116 = _ from rfl)
  refine k_putRF G (pc := 87) dX11_init_87 fl_X11_41_10 (Or.inr ⟨rfl, rfl⟩) rfl (by omega) ?_
  have b20 := b19.put (k := 22) (x := some (116)) (by omega)
  refine k_aload_n G (pc := 90) dX11_init_90 rfl ?_
  refine k_iconst (v := nI 3) G (pc := 91) dX11_init_91 (by decide) ?_
  refine k_newa G (pc := 92) dX11_init_92 rfl rfl (by decide) (by omega) ?_
  have b21 := b20.arr (show mm_lay 117 = _ from rfl)
  refine k_putRF G (pc := 94) dX11_init_94 fl_X11_44_10 (Or.inr ⟨rfl, rfl⟩) rfl (by omega) ?_
  have b22 := b21.put (k := 23) (x := some (117)) (by omega)
  refine k_aload_n G (pc := 97) dX11_init_97 rfl ?_
  refine k_iconst (v := nI 3) G (pc := 98) dX11_init_98 (by decide) ?_
  refine k_newa G (pc := 99) dX11_init_99 rfl rfl (by decide) (by omega) ?_
  have b23 := b22.arr (show mm_lay 118 = _ from rfl)
  refine k_putRF G (pc := 101) dX11_init_101 fl_X11_47_10 (Or.inr ⟨rfl, rfl⟩) rfl (by omega) ?_
  have b24 := b23.put (k := 24) (x := some (118)) (by omega)
  refine k_aload_n G (pc := 104) dX11_init_104 rfl ?_
  refine k_iconst (v := nI 3) G (pc := 105) dX11_init_105 (by decide) ?_
  refine k_newa G (pc := 106) dX11_init_106 rfl rfl (by decide) (by omega) ?_
  have b25 := b24.arr (show mm_lay 119 = _ from rfl)
  refine k_putRF G (pc := 108) dX11_init_108 fl_X11_50_10 (Or.inr ⟨rfl, rfl⟩) rfl (by omega) ?_
  have b26 := b25.put (k := 25) (x := some (119)) (by omega)
  refine k_aload_n G (pc := 111) dX11_init_111 rfl ?_
  refine k_bipush (v := nI 80) G (pc := 112) dX11_init_112 (by decide) ?_
  refine k_newa G (pc := 114) dX11_init_114 rfl rfl (by decide) (by omega) ?_
  have b27 := b26.arr (show mm_lay 120 = _ from rfl)
  refine k_putRF G (pc := 116) dX11_init_116 fl_X11_53_10 (Or.inr ⟨rfl, rfl⟩) rfl (by omega) ?_
  have b28 := b27.put (k := 27) (x := some (120)) (by omega)
  refine k_aload_n G (pc := 119) dX11_init_119 rfl ?_
  refine k_bipush (v := nI 6) G (pc := 120) dX11_init_120 (by decide) ?_
  refine k_newa G (pc := 122) dX11_init_122 rfl rfl (by decide) (by omega) ?_
  have b29 := b28.arr (show mm_lay 121 = _ from rfl)
  refine k_putRF G (pc := 124) dX11_init_124 fl_X11_56_10 (Or.inr ⟨rfl, rfl⟩) rfl (by omega) ?_
  have b30 := b29.put (k := 29) (x := some (121)) (by omega)
  refine k_aload_n G (pc := 127) dX11_init_127 rfl ?_
  refine k_bipush (v := nI 6) G (pc := 128) dX11_init_128 (by decide) ?_
  refine k_newa G (pc := 130) dX11_init_130 rfl rfl (by decide) (by omega) ?_
  have b31 := b30.arr (show mm_lay 122 = _ from rfl)
  refine k_putRF G (pc := 132) dX11_init_132 fl_X11_59_10 (Or.inr ⟨rfl, rfl⟩) rfl (by omega) ?_
  have b32 := b31.put (k := 34) (x := some (122)) (by omega)
  refine k_aload_n G (pc := 135) dX11_init_135 rfl ?_
  refine k_bipush (v := nI 6) G (pc := 136) dX11_init_136 (by decide) ?_
  refine k_newa G (pc := 138) dX11_init_138 rfl rfl (by decide) (by omega) ?_
  have b33 := b32.arr (show mm_lay 123 = _ from rfl)
  refine k_putRF G (pc := 140) dX11_init_140 fl_X11_62_10 (Or.inr ⟨rfl, rfl⟩) rfl (by omega) ?_
  have b34 := b33.put (k := 35) (x := some (123)) (by omega)
  refine k_aload_n G (pc := 143) dX11_init_143 rfl ?_
  refine k_sipush (v := nI 180) G (pc := 144) dX11_init_144 (by decide) ?_
  refine k_newa G (pc := 147) dX11_init_147 rfl rfl (by decide) (by omega) ?_
  have b35 := b34.arr (show mm_lay 124 = _ from rfl)
  refine k_putRF G (pc := 149) dX11_init_149 fl_X11_65_10 (Or.inr ⟨rfl, rfl⟩) rfl (by omega) ?_
  have b36 := b35.put (k := 36) (x := some (124)) (by omega)
  refine k_vret G (pc := 152) dX11_init_152 rfl rfl ?_
  exact ⟨rfl, fun z hz => (Eq.trans (va_up_ne _ _ (by omega)) (Eq.trans (va_up_ne _ _ (by omega)) (Eq.trans (va_up_ne _ _ (by omega)) (Eq.trans (va_up_ne _ _ (by omega)) (Eq.trans (va_up_ne _ _ (by omega)) (Eq.trans (va_up_ne _ _ (by omega)) (Eq.trans (va_up_ne _ _ (by omega)) (Eq.trans (va_up_ne _ _ (by omega)) (Eq.trans (va_up_ne _ _ (by omega)) (Eq.trans (va_up_ne _ _ (by omega)) (Eq.trans (va_up_ne _ _ (by omega)) (Eq.trans (va_up_ne _ _ (by omega)) (Eq.trans (va_up_ne _ _ (by omega)) (Eq.trans (va_up_ne _ _ (by omega)) (Eq.trans (va_up_ne _ _ (by omega)) (Eq.trans (va_up_ne _ _ (by omega)) (Eq.trans (va_up_ne _ _ (by omega)) (Eq.trans (va_up_ne _ _ (by omega)) (va_up_ne _ _ (by omega)))))))))))))))))))), b36, ⟨Eq.trans (Eq.trans (va_up_ne _ _ (by omega)) (Eq.trans (va_up_ne _ _ (by omega)) (Eq.trans (va_up_ne _ _ (by omega)) (Eq.trans (va_up_ne _ _ (by omega)) (Eq.trans (va_up_ne _ _ (by omega)) (Eq.trans (va_up_ne _ _ (by omega)) (Eq.trans (va_up_ne _ _ (by omega)) (Eq.trans (va_up_ne _ _ (by omega)) (Eq.trans (va_up_ne _ _ (by omega)) (Eq.trans (va_up_ne _ _ (by omega)) (Eq.trans (va_up_ne _ _ (by omega)) (Eq.trans (va_up_ne _ _ (by omega)) (Eq.trans (va_up_ne _ _ (by omega)) (Eq.trans (va_up_ne _ _ (by omega)) (Eq.trans (va_up_ne _ _ (by omega)) (Eq.trans (va_up_ne _ _ (by omega)) (Eq.trans (va_up_ne _ _ (by omega)) (va_up_ne _ _ (by omega))))))))))))))))))) (Eq.trans (va_up_self _ _ _) (congrArg (fun y => va_up y 0 (nI 2)) hf.1)), va_up_self _ _ _⟩⟩
