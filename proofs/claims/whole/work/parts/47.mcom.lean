/-! the model's orders -/
theorem folP_un {fd : Int32} {m : Nat} {o : Nat → Nat} {g : Nat → Int32} {s : Nat} : ∀ {p : Nat}, (∀ j, j < p → o j ≠ s) → folP fd m o g p s = g s
  | 0, _ => rfl
  | p + 1, h => by
    have ih := folP_un (fd := fd) (m := m) (g := g) (p := p) (fun j hj => h j (by omega))
    have hp : s ≠ o p := fun q => h p (by omega) q.symm
    unfold folP
    split
    · rw [va_up_ne _ _ hp]; exact ih
    · split
      · exact ih
      · rw [va_up_ne _ _ hp]; exact ih
theorem folP_o {fd : Int32} {m : Nat} {o : Nat → Nat} {g : Nat → Int32} {s p : Nat} (hp : s ≠ o p) : folP fd m o g (p + 1) s = folP fd m o g p s := by
  show (if fd = 0 then va_up (folP fd m o g p) (o p) (bhd m o p) else if folP fd m o g p (o p) = bhd m o p then folP fd m o g p else va_up (folP fd m o g p) (o p) (-9)) s = _
  split
  · rw [va_up_ne _ _ hp]
  · split
    · rfl
    · rw [va_up_ne _ _ hp]
theorem bhd_ne {m : Nat} {o : Nat → Nat} {p : Nat} (h : ∀ j, j < m → o j < 6) : bhd m o p ≠ -1 := by
  unfold bhd
  split
  · rename_i hp
    exact nI_m1 _ (by have := h _ hp; omega)
  · decide
theorem folP_n1 {fd : Int32} {m : Nat} {o : Nat → Nat} {g : Nat → Int32} {s : Nat} (hf : fd ≠ 0) (hg : g s ≠ -1) : ∀ p, folP fd m o g p s ≠ -1
  | 0 => hg
  | p + 1 => by
    have ih := folP_n1 (m := m) (o := o) hf hg p
    show (if fd = 0 then va_up (folP fd m o g p) (o p) (bhd m o p) else if folP fd m o g p (o p) = bhd m o p then folP fd m o g p else va_up (folP fd m o g p) (o p) (-9)) s ≠ -1
    rw [if_neg hf]
    split
    · exact ih
    · by_cases q : s = o p
      · rw [q, va_up_self]; decide
      · rw [va_up_ne _ _ q]; exact ih
theorem folP_0 {m : Nat} {o : Nat → Nat} {g : Nat → Int32} (hd : ∀ i j, i < m → j < m → o i = o j → i = j) : ∀ p, p ≤ m → ∀ j, j < p → folP 0 m o g p (o j) = bhd m o j
  | 0, _, j, hj => absurd hj (Nat.not_lt_zero _)
  | p + 1, hp, j, hj => by
    show (if (0 : Int32) = 0 then va_up (folP 0 m o g p) (o p) (bhd m o p) else _) (o j) = _
    rw [if_pos rfl]
    by_cases q : j = p
    · rw [q, va_up_self]
    · rw [va_up_ne _ _ (fun z => q (hd _ _ (by omega) (by omega) z))]; exact folP_0 hd p (by omega) j (by omega)
theorem fol_st {m p : Nat} {o : Nat → Nat} {fd : Int32} {g : Nat → Int32} (hin : ∀ j, j < p → o j ≠ o p) (h1 : fd ≠ 0 → g (o p) ≠ -1) : folP fd m o g (p + 1) (o p) = if (if fd = 0 then -1 else g (o p)) = -1 ∨ (if fd = 0 then -1 else g (o p)) = bhd m o p then bhd m o p else -9 := by
  have e0 := folP_un (fd := fd) (m := m) (g := g) hin
  show (if fd = 0 then va_up (folP fd m o g p) (o p) (bhd m o p) else if folP fd m o g p (o p) = bhd m o p then folP fd m o g p else va_up (folP fd m o g p) (o p) (-9)) (o p) = _
  by_cases h : fd = 0
  · rw [if_pos h, if_pos h, va_up_self, if_pos (Or.inl rfl)]
  · rw [if_neg h, if_neg h, e0]
    by_cases q : g (o p) = bhd m o p
    · rw [if_pos q, if_pos (Or.inr q), e0, q]
    · rw [if_neg q, va_up_self, if_neg (fun z => z.elim (h1 h) q)]
def fwM (x : ROS) : Int32 := if x.1 = 0 then 1048576 else x.2.2.1
theorem few_T {x : ROS} {k : Nat} (hk : k ≤ 6) (h : fwM x ≤ nI k) : fwM x = (if x.1 = 0 ∨ nI k < x.2.2.1 then nI k else x.2.2.1) := by
  unfold fwM at h ⊢
  by_cases h0 : x.1 = 0
  · rw [if_pos h0] at h
    have e : (1048576 : Int32) = nI 1048576 := by decide +kernel
    rw [e] at h
    have := (nI_leI (by decide) (by omega)).mp h
    omega
  · rw [if_neg h0] at h ⊢
    rw [if_neg (fun z => z.elim h0 (fun z => i_lt z h))]
theorem few_F {x : ROS} {k : Nat} (h : ¬ fwM x ≤ nI k) : nI k = (if x.1 = 0 ∨ nI k < x.2.2.1 then nI k else x.2.2.1) := by
  unfold fwM at h
  by_cases h0 : x.1 = 0
  · rw [if_pos (Or.inl h0)]
  · rw [if_neg h0] at h
    rw [if_pos (Or.inr (Classical.byContradiction (fun z => h (i_nlt z))))]
def afM (lf : Nat) (x : ROS) (s : Nat) : Int32 := if x.1 = 0 ∨ lf / 2 ^ s % 2 = 0 then -1 else x.2.2.2 s
def moI (lf : Nat) (x : ROS) (hi : mm_HI) : Prop := hi 106 31 = x.1 ∧ hi 106 32 = x.2.1 ∧ hi 106 33 = fwM x ∧ ∀ s, s < 6 → hi 122 s = afM lf x s
def okR (lf : Nat) (x : ROS) : Prop := x.1 ≠ 0 → ∀ s, s < 6 → lf / 2 ^ s % 2 = 1 → x.2.2.2 s ≠ -1
theorem moI.keep {lf : Nat} {x : ROS} {a c : mm_HI} (h : moI lf x a) (h1 : ∀ k, k = 31 ∨ k = 32 ∨ k = 33 → c 106 k = a 106 k) (h2 : c 122 = a 122) : moI lf x c := by
  unfold moI
  rw [h1 31 (by omega), h1 32 (by omega), h1 33 (by omega), h2]
  exact h
def cR (hi h : mm_HI) : Prop := (∀ c, c ≠ 106 → c ≠ 122 → c ≠ 123 → h c = hi c) ∧ ∀ k, k ≠ 31 → k ≠ 32 → k ≠ 33 → h 106 k = hi 106 k
theorem cR.sc {x y : mm_HI} (h : cR x y) : msc x y := ⟨fun c hc => h.1 c (by omega) (by omega) (by omega), fun k hk => h.2 k (by omega) (by omega) (by omega)⟩
theorem okR_s {lf m : Nat} {pv : Nat → Int32} {x : ROS} {o : Nat → Nat} {num : Nat} (h : okR lf x) (hcov : ∀ s, s < 6 → (lf / 2 ^ s % 2 = 1 ↔ ∃ j, j < m ∧ o j = s)) (hinj : ∀ i j, i < m → j < m → o i = o j → i = j) (ho : ∀ j, j < m → o j < 6) : okR lf (roStep m pv x o num) := by
  intro _ s hs hb
  show folP x.1 m o x.2.2.2 m s ≠ -1
  by_cases h0 : x.1 = 0
  · obtain ⟨j, hj, rfl⟩ := (hcov s hs).mp hb
    rw [h0, folP_0 hinj m (Nat.le_refl _) j hj]
    exact bhd_ne ho
  · exact folP_n1 h0 (h h0 s hs hb) m
theorem roStep_o {m : Nat} {pv : Nat → Int32} {x : ROS} {o o2 : Nat → Nat} {num : Nat} (h : ∀ j, j < m → o j = o2 j) : roStep m pv x o num = roStep m pv x o2 num := by
  unfold roStep
  rw [stF_cong h m (Nat.le_refl _), folP_cong h m (Nat.le_refl _)]
theorem roF_len (m : Nat) (pv : Nat → Int32) (L : List (List (Nat × Nat))) : (roF m pv L).1 = nI L.length := by
  have := roS_len m pv L (0, -9, -9, fun _ => -9)
  unfold roF
  rw [this, ← nI_0, nI_add, Nat.zero_add]
theorem roF_un {m : Nat} {pv : Nat → Int32} {s : Nat} : ∀ (L : List (List (Nat × Nat))) (x : ROS), x.2.2.2 s = -9 → (∀ pr ∈ L, ∀ j, j < m → ord pr j ≠ s) → (L.foldl (fun x pr => roStep m pv x (ord pr) (numP pr)) x).2.2.2 s = -9
  | [], _, h, _ => h
  | pr :: L, x, h, g => by
    rw [List.foldl_cons]
    refine roF_un L _ ?_ (fun q hq => g q (List.mem_cons_of_mem _ hq))
    show folP x.1 m (ord pr) x.2.2.2 m s = -9
    rw [folP_un (fun j hj => g pr List.mem_cons_self j hj)]
    exact h
set_option maxRecDepth 100000 in
theorem pm_cov : ∀ lf, lf < 64 → ∀ o ∈ pmL lf, ∀ s, s < 6 → lf / 2 ^ s % 2 = 1 → s ∈ o := by decide +kernel
set_option maxRecDepth 100000 in
theorem pm_len : ∀ lf, lf < 64 → (pmL lf).length ≤ 720 := by decide +kernel
theorem oF_mem {o : List Nat} {j : Nat} (h : j < o.length) : oF o j ∈ o := by
  unfold oF
  rw [List.getD_eq_getElem?_getD, List.getElem?_eq_getElem h]
  exact List.getElem_mem _
theorem oF_get {o : List Nat} {j : Nat} (h : j < o.length) : oF o j = o[j] := by
  unfold oF
  rw [List.getD_eq_getElem?_getD, List.getElem?_eq_getElem h]
  rfl
/-- what a row of the list is like -/
theorem pm_row {lf m : Nat} (hl : lf < 64) (hm : pcn lf = m) {a : List Nat} (ha : a ∈ pmL lf) : a.length = m ∧ (∀ j, j < m → oF a j < 6 ∧ lf / 2 ^ oF a j % 2 = 1) ∧ (∀ s, s < 6 → (lf / 2 ^ s % 2 = 1 ↔ ∃ j, j < m ∧ oF a j = s)) ∧ ∀ i j, i < m → j < m → oF a i = oF a j → i = j := by
  obtain ⟨h1, h2⟩ := pm_mem lf hl a ha
  rw [hm] at h1
  refine ⟨h1, fun j hj => h2 _ (oF_mem (by omega)), fun s hs => ⟨fun hb => ?_, ?_⟩, fun i j hi hj e => ?_⟩
  · obtain ⟨j, hj, e⟩ := List.getElem_of_mem (pm_cov lf hl a ha s hs hb)
    exact ⟨j, by omega, by rw [oF_get hj]; exact e⟩
  · rintro ⟨j, hj, rfl⟩
    exact (h2 _ (oF_mem (by omega))).2
  · exact (List.getD_inj (fallback := 0) (by omega) (by omega) (pm_nd lf hl a ha)).mp e
theorem acc_y {P : PG} {t : Nat} {D : List (List Nat)} {a : List Nat} (h : rgB P (a.map (wy t)) = true) : ((D ++ [a]).map (List.map (wy t))).filter (rgB P) = (D.map (List.map (wy t))).filter (rgB P) ++ [a.map (wy t)] := by
  rw [List.map_append, List.filter_append, List.map_cons, List.map_nil, List.filter_cons, if_pos h, List.filter_nil]
theorem acc_n {P : PG} {t : Nat} {D : List (List Nat)} {a : List Nat} (h : ¬ rgB P (a.map (wy t)) = true) : ((D ++ [a]).map (List.map (wy t))).filter (rgB P) = (D.map (List.map (wy t))).filter (rgB P) := by
  rw [List.map_append, List.filter_append, List.map_cons, List.map_nil, List.filter_cons, if_neg h, List.filter_nil, List.append_nil]
theorem ro_y {m t : Nat} {pv : Nat → Int32} {L : List (List (Nat × Nat))} {a : List Nat} (hal : a.length = m) : roF m pv (L ++ [a.map (wy t)]) = roStep m pv (roF m pv L) (oF a) (numF (oF a) m) := by
  rw [roF_s, numP_wy, hal]
  exact roStep_o (fun j hj => ord_wy a t (by omega))
theorem nx_none {lf m : Nat} (hl : lf < 64) {D R : List (List Nat)} {a : List Nat} (hpm : pmL lf = D ++ a :: R) (hal : a.length = m) (h : nxF (oF a) m = none) : R = [] := by
  have e := chk_mid D (hpm ▸ (pm_chk lf hl).1)
  unfold nxL at e
  rw [hal, h] at e
  cases R with
  | nil => rfl
  | cons c R => cases e
theorem nx_some {lf m : Nat} (hl : lf < 64) {D R : List (List Nat)} {a : List Nat} {g2 : Nat → Nat} (hpm : pmL lf = D ++ a :: R) (hal : a.length = m) (h : nxF (oF a) m = some g2) : ∃ c R3, R = c :: R3 ∧ ∀ j, j < m → oF c j = g2 j := by
  have e := chk_mid D (hpm ▸ (pm_chk lf hl).1)
  unfold nxL at e
  rw [hal, h] at e
  cases R with
  | nil => cases e
  | cons c R =>
    have e2 : (List.range m).map g2 = c := Option.some.inj e
    refine ⟨c, R, rfl, fun j hj => ?_⟩
    rw [← e2]
    unfold oF
    rw [List.getD_eq_getElem?_getD, List.getElem?_map, List.getElem?_range hj]
    rfl
theorem srtN_S {lf S : Nat} (h : ∀ s, s < 6 → lf / 2 ^ s % 2 = 1 → s < S) : ∀ k, S + k ≤ 6 → srtN lf (S + k) = srtN lf S
  | 0, _ => rfl
  | k + 1, hk => by
    rw [← Nat.add_assoc, srtN_s, if_neg (fun q => by have := h (S + k) (by omega) q; omega), List.append_nil]
    exact srtN_S h k (by omega)
theorem pm_hd {lf S : Nat} (hl : lf < 64) (hS : S ≤ 6) (h : ∀ s, s < 6 → lf / 2 ^ s % 2 = 1 → s < S) : ∃ R, pmL lf = srtN lf S :: R := by
  have e := (pm_chk lf hl).2
  have e2 := srtN_S h (6 - S) (by omega)
  rw [show S + (6 - S) = 6 by omega] at e2
  rw [e2] at e
  cases hp : pmL lf with
  | nil => rw [hp] at e; cases e
  | cons a R => rw [hp] at e; exact ⟨R, by rw [Option.some.inj e]⟩
theorem oL_pm {P : PG} {t n lf : Nat} (hS : pS P ≤ 6) (hl : lf < 64) (hb : ∀ s, s < 6 → lf / 2 ^ s % 2 = 1 → s < pS P) (hn : pcn lf = n) : oL P t n lf = ((pmL lf).map (List.map (wy t))).filter (rgB P) := by
  rw [← bL_pm hS hl hb hn]
  rfl
theorem desk_lf {f : Nat → Nat} {n S : Nat} (hS : S ≤ 6) (hf : ∀ j, j < n → f j < 6) : ∀ s, s < S → (mskF f n / 2 ^ s % 2 = 1 ↔ ¬ nI s = -9 ∧ ¬ fnd f s n = none) := by
  intro s hs
  rw [mskF_bit (by omega) hf]
  constructor
  · rintro ⟨j, hj, e⟩
    exact ⟨nI_ne9 (by omega), fun q => fnd_none q j hj e⟩
  · rintro ⟨-, h⟩
    refine Classical.byContradiction (fun q => h (fnd_no (fun i hi e => q ⟨i, hi, e⟩)))
theorem wo_lf {f : Nat → Nat} {n S s0 : Nat} (hS : S ≤ 6) (hs0 : s0 < 6) (hf : ∀ j, j < n → f j < 6) : ∀ s, s < S → (stb (mskF f n) s0 0 / 2 ^ s % 2 = 1 ↔ ¬ nI s = nI s0 ∧ ¬ fnd f s n = none) := by
  intro s hs
  rw [stb_bit _ (mskF_lt hf) s0 hs0 0 (by omega) s (by omega)]
  by_cases q : s = s0
  · rw [if_pos q]
    exact ⟨fun z => absurd z (by decide), fun z => absurd (by rw [q]) z.1⟩
  · rw [if_neg q, desk_lf hS hf s hs]
    exact ⟨fun z => ⟨fun w => q ((nI_eq (by omega) (by omega)).mp w), z.2⟩, fun z => ⟨nI_ne9 (by omega), z.2⟩⟩
theorem desk_S {P : PG} {f : Nat → Nat} {n : Nat} (hv : rowV P n f) (hf : ∀ j, j < n → f j < 6) : ∀ s, s < 6 → mskF f n / 2 ^ s % 2 = 1 → s < pS P := by
  intro s hs h
  obtain ⟨j, hj, rfl⟩ := (mskF_bit hs hf).mp h
  exact hv.1 j hj
set_option maxHeartbeats 2000000 in
theorem m_comesRight {d : Nat} (hd : 3 ≤ d) {hi : mm_HI} {τ : mm_T} {P : PG} {n : Nat} {f : Nat → Nat} {t K : Nat} {pn : Nat → Nat} {pf : Nat → Nat → Nat} {pt : Nat → Nat} {im : Nat → Option DK} {sl : List (Nat × Nat)} {N : Nat} {b : Nat → Nat} {tr : Int64} (hM : mS P n f t K pn pf pt im sl N b tr hi τ) {m : Nat} {g : Nat → Nat} (h30 : hi 106 30 = nI m) (hg0 : ∀ j, j < m → hi 121 j = nI (g j)) (hm6 : m ≤ 6) (hg6 : ∀ j, j < m → g j < 6) {lf : Nat} {x : ROS} (hx : moI lf x hi) (hok : okR lf x) (hne0 : ¬ x.1 + nI 1 = 0) (hcov : ∀ s, s < 6 → (lf / 2 ^ s % 2 = 1 ↔ ∃ j, j < m ∧ g j = s)) (hinj : ∀ i j, i < m → j < m → g i = g j → i = j) : wV d yX11_comesRight [.ref 106] hi τ (fun h => moI lf (roStep m (pvO f n) x g (numF g m)) h ∧ cR hi h) := by
  refine w_intro (by omega) M_X11_comesRight (Nat.le_of_ble_eq_true rfl) rfl ?_
  intro e X he G
  show X 0 [some (.ref (106)), none, none, none, none] [] hi τ 125
  obtain ⟨sw, hτ, hP, hRw, hV, hU, hI, hIV, hN, hNO, hT, hTr⟩ := id hM
  have hS6 : pS P ≤ 6 := hP.2.2.2.2.2.2.2.1
  have hL3 : pL P ≤ 3 := hP.2.2.2.2.2.2.1
  have hL1 : 1 ≤ pL P := hP.2.2.2.2.2.1
  have hW8 : (pW P).length ≤ 8 := hP.2.2.2.2.2.2.2.2.2.1
  have hn6 : n ≤ 6 := hRw.2.2.2.1
  have hfs : ∀ j, j < n → f j < pS P := hV.1.1
  have hV1 : rowV P n f := hV.1
  refine q_aload_n G (pc := 0) dX11_comesRight_0 rfl ?_
  refine q_aload_n G (pc := 1) dX11_comesRight_1 rfl ?_
  refine q_getI (v := x.1) G (pc := 2) dX11_comesRight_2 fl_X11_215_10 (by decide) rfl hx.1 ?_
  refine q_if_ne (tgt := 22) G (pc := 5) dX11_comesRight_5 (by decide) (fun c5 => ?_) (fun c5 => ?_)
  · refine q_aload_n G (pc := 22) dX11_comesRight_22 rfl ?_
    refine q_getI (v := x.2.1) G (pc := 23) dX11_comesRight_23 fl_X11_222_10 (by decide) rfl hx.2.1 ?_
    refine q_putI G (pc := 26) dX11_comesRight_26 fl_X11_222_10 rfl ?_
    refine q_aload_n G (pc := 29) dX11_comesRight_29 rfl ?_
    refine q_dup G (pc := 30) dX11_comesRight_30 rfl ?_
    refine q_getI (v := x.1) G (pc := 31) dX11_comesRight_31 fl_X11_215_10 (by decide) rfl (by simp [va_up]; exact hx.1) ?_
    refine q_iconst (v := nI 1) G (pc := 34) dX11_comesRight_34 (by decide) ?_
    refine q_iadd G (pc := 35) dX11_comesRight_35 ?_
    refine q_putI G (pc := 36) dX11_comesRight_36 fl_X11_215_10 rfl ?_
    refine q_aload_n G (pc := 39) dX11_comesRight_39 rfl ?_
    refine q_getI (v := nI (m)) G (pc := 40) dX11_comesRight_40 fl_X11_212_10 (by decide) rfl (by simp [va_up]; exact h30) ?_
    refine q_aload_n G (pc := 43) dX11_comesRight_43 rfl ?_
    have hm1 : msc hi (mm_up2 (mm_up2 hi 106 32 (x.2.1)) 106 31 (x.1 + nI 1)) := (msc.fld (by omega) (by omega)).trans (msc.fld (by omega) (by omega))
    refine q_cV0I G (pc := 44) dX11_comesRight_44 cv_X11_225 rfl (m_longestStay (by omega) (hM.sc hm1) (m := m) (g := g) (by simp [va_up]; exact h30) (fun j hj => by simp [va_up]; exact hg0 j hj) hm6 hg6) (Nat.le_of_ble_eq_true rfl) ?_
    intro xs hk hx2
    obtain ⟨rfl, y1⟩ := hx2
    have hst := stF_le (pvO f n) g m
    refine q_isubN G (pc := 47) dX11_comesRight_47 (by omega) ?_
    refine q_istore_n G (pc := 48) dX11_comesRight_48 (by decide) ?_
    show X _ [_, _, _, _, _] _ _ _ _
    refine q_aload_n G (pc := 49) dX11_comesRight_49 rfl ?_
    refine q_iload_n G (pc := 50) dX11_comesRight_50 rfl ?_
    refine q_aload_n G (pc := 51) dX11_comesRight_51 rfl ?_
    refine q_getI (v := fwM x) G (pc := 52) dX11_comesRight_52 fl_X11_228_10 (by decide) rfl (by rw [y1 106 (by simp)]; simp [va_up]; exact hx.2.2.1) ?_
    refine q_icmp_ge (tgt := 62) G (pc := 55) dX11_comesRight_55 (by decide) (fun c55 => ?_) (fun c55 => ?_)
    · refine q_aload_n G (pc := 62) dX11_comesRight_62 rfl ?_
      refine q_getI (v := fwM x) G (pc := 63) dX11_comesRight_63 fl_X11_228_10 (by decide) rfl (by rw [y1 106 (by simp)]; simp [va_up]; exact hx.2.2.1) ?_
      refine q_putI G (pc := 66) dX11_comesRight_66 fl_X11_228_10 rfl ?_
      refine q_iconst (v := nI 0) G (pc := 69) dX11_comesRight_69 (by decide) ?_
      refine q_istore_n G (pc := 70) dX11_comesRight_70 (by decide) ?_
      show X _ [_, _, _, _, _] _ _ _ _
      have L71 : ∀ (zz : Nat) (p : Nat) (hj : mm_HI) (v3 v4 : Option Value), m - p < zz → p ≤ m → (∀ s, s < 6 → lf / 2 ^ s % 2 = 0 → hj 122 s = -1) → (∀ j, j < p → hj 122 (g j) = folP x.1 m g x.2.2.2 p (g j)) → (∀ j, p ≤ j → j < m → hj 122 (g j) = if x.1 = 0 then -1 else x.2.2.2 (g j)) → hj 106 31 = x.1 + nI 1 → hj 106 32 = (if x.1 = 0 then nI (numF g m) else x.2.1) → hj 106 33 = (if x.1 = 0 ∨ nI (m - stF (pvO f n) g m) < x.2.2.1 then nI (m - stF (pvO f n) g m) else x.2.2.1) → (∀ c, c ≠ 106 → c ≠ 122 → c ≠ 123 → hj c = hi c) → (∀ k, k ≠ 31 → k ≠ 32 → k ≠ 33 → hj 106 k = hi 106 k) → X 71 [some (.ref (106)), some (.int (nI (m - (stF (pvO f n) g m)))), some (.int (nI (p))), v3, v4] [] hj τ 125 := by
        intro zz
        induction zz with
        | zero => intro p hj v3 v4 hm; exact absurd hm (Nat.not_lt_zero _)
        | succ zz ih71 =>
          intro p hj v3 v4 hm h0 a1 a2 a3 a4 a5 a6 a7 a8
          refine q_iload_n G (pc := 71) dX11_comesRight_71 rfl ?_
          refine q_aload_n G (pc := 72) dX11_comesRight_72 rfl ?_
          refine q_getI (v := nI (m)) G (pc := 73) dX11_comesRight_73 fl_X11_212_10 (by decide) rfl (by rw [a8 30 (by decide) (by decide) (by decide)]; exact h30) ?_
          refine q_icmp_geN (tgt := 152) G (pc := 76) dX11_comesRight_76 (by decide) (by omega) (by omega) (fun c76 => ?_) (fun c76 => ?_)
          · refine q_vret G (pc := 152) dX11_comesRight_152 rfl ?_
            have hpm : m = p := by omega
            subst hpm
            refine ⟨rfl, rfl, ⟨a4, a5, ?_, fun s hs => ?_⟩, a7, a8⟩
            · rw [a6]; exact (if_neg hne0).symm
            · show hj 122 s = (if x.1 + nI 1 = 0 ∨ lf / 2 ^ s % 2 = 0 then -1 else folP x.1 m g x.2.2.2 m s)
              have hb2 := bit_lt2 lf s
              by_cases hb : lf / 2 ^ s % 2 = 1
              · rw [if_neg (fun z => z.elim hne0 (fun z => by omega))]
                obtain ⟨j, hj2, rfl⟩ := (hcov s hs).mp hb
                exact a2 j hj2
              · rw [if_pos (Or.inr (by omega))]
                exact a1 s hs (by omega)
          · refine q_iload_n G (pc := 79) dX11_comesRight_79 rfl ?_
            refine q_iconst (v := nI 1) G (pc := 80) dX11_comesRight_80 (by decide) ?_
            refine q_iaddN G (pc := 81) dX11_comesRight_81 ?_
            refine q_aload_n G (pc := 82) dX11_comesRight_82 rfl ?_
            refine q_getI (v := nI (m)) G (pc := 83) dX11_comesRight_83 fl_X11_212_10 (by decide) rfl (by rw [a8 30 (by decide) (by decide) (by decide)]; exact h30) ?_
            refine q_icmp_geN (tgt := 100) G (pc := 86) dX11_comesRight_86 (by decide) (by omega) (by omega) (fun c86 => ?_) (fun c86 => ?_)
            · refine q_bipush (v := -9) G (pc := 100) dX11_comesRight_100 (by decide) ?_
              refine q_istore_n G (pc := 102) dX11_comesRight_102 (by decide) ?_
              show X _ [_, _, _, _, _] _ _ _ _
              refine q_aload_n G (pc := 103) dX11_comesRight_103 rfl ?_
              refine q_getR (x := 121) G (pc := 104) dX11_comesRight_104 fl_X11_56_10 rfl (hg hτ (hf_10_29 rfl)) ?_
              refine q_iload_n G (pc := 107) dX11_comesRight_107 rfl ?_
              refine q_iald (j := p) (v := nI (g p)) G (pc := 108) dX11_comesRight_108 rfl rfl (by omega) (by rw [a7 121 (by decide) (by decide) (by decide)]; exact hg0 p (by omega)) ?_
              have hgp := hg6 p (by omega)
              refine q_istore G (pc := 109) dX11_comesRight_109 (by decide) ?_
              show X _ [_, _, _, _, _] _ _ _ _
              refine q_aload_n G (pc := 111) dX11_comesRight_111 rfl ?_
              refine q_getR (x := 122) G (pc := 112) dX11_comesRight_112 fl_X11_59_10 rfl (hg hτ (hf_10_34 rfl)) ?_
              refine q_iload G (pc := 115) dX11_comesRight_115 rfl ?_
              refine q_aload_n G (pc := 117) dX11_comesRight_117 rfl ?_
              refine q_getR (x := 122) G (pc := 118) dX11_comesRight_118 fl_X11_59_10 rfl (hg hτ (hf_10_34 rfl)) ?_
              refine q_iload G (pc := 121) dX11_comesRight_121 rfl ?_
              refine q_iald (j := g p) (v := if x.1 = 0 then -1 else x.2.2.2 (g p)) G (pc := 123) dX11_comesRight_123 rfl rfl (by omega) (a3 p (Nat.le_refl _) (by omega)) ?_
              refine q_iconst (v := -1) G (pc := 124) dX11_comesRight_124 (by decide) ?_
              refine q_icmp_eq (tgt := 139) G (pc := 125) dX11_comesRight_125 (by decide) (fun c125 => ?_) (fun c125 => ?_)
              · refine q_iload_n G (pc := 139) dX11_comesRight_139 rfl ?_
                refine q_goto (tgt := 145) G (pc := 140) dX11_comesRight_140 (by decide) ?_
                refine q_iast (j := g p) G (pc := 145) dX11_comesRight_145 rfl rfl (by omega) ?_
                refine q_iincN G (pc := 146) dX11_comesRight_146 rfl (inc1 _) (by decide) ?_
                show X _ [_, _, _, _, _] _ _ _ _
                refine q_goto (tgt := 71) G (pc := 149) dX11_comesRight_149 (by decide) ?_
                have eb : bhd m g p = -9 := if_neg (by omega)
                have e1 := fol_st (m := m) (p := p) (o := g) (fd := x.1) (g := x.2.2.2) (fun j hj2 q => by have := hinj j p (by omega) (by omega) q; omega) (fun q => hok q _ (hg6 p (by omega)) ((hcov _ (hg6 p (by omega))).mpr ⟨p, by omega, rfl⟩))
                rw [if_pos (Or.inl c125), eb] at e1
                refine ih71 (p + 1) _ _ _ (by omega) (by omega) (fun s hs hb => ?_) (fun j hq => ?_) (fun j hq1 hq2 => ?_) (by simp [va_up]; exact a4) (by simp [va_up]; exact a5) (by simp [va_up]; exact a6) (fun c q1 q2 q3 => by simp [va_up, q2]; exact a7 c q1 q2 q3) (fun k q1 q2 q3 => by simp [va_up]; exact a8 k q1 q2 q3)
                · have hne : s ≠ g p := fun q => by have := (hcov s hs).mpr ⟨p, by omega, q.symm⟩; omega
                  simp [va_up, hne]; exact a1 s hs hb
                · by_cases q1 : j = p
                  · rw [q1, e1]; simp [va_up]
                  · have hne : g j ≠ g p := fun q => q1 (hinj j p (by omega) (by omega) q)
                    rw [folP_o hne, ← a2 j (by omega)]; simp [va_up, hne]
                · have hne : g j ≠ g p := fun q => by have := hinj j p (by omega) (by omega) q; omega
                  rw [← a3 j (by omega) hq2]; simp [va_up, hne]
              · refine q_aload_n G (pc := 128) dX11_comesRight_128 rfl ?_
                refine q_getR (x := 122) G (pc := 129) dX11_comesRight_129 fl_X11_59_10 rfl (hg hτ (hf_10_34 rfl)) ?_
                refine q_iload G (pc := 132) dX11_comesRight_132 rfl ?_
                refine q_iald (j := g p) (v := if x.1 = 0 then -1 else x.2.2.2 (g p)) G (pc := 134) dX11_comesRight_134 rfl rfl (by omega) (a3 p (Nat.le_refl _) (by omega)) ?_
                refine q_iload_n G (pc := 135) dX11_comesRight_135 rfl ?_
                refine q_icmp_ne (tgt := 143) G (pc := 136) dX11_comesRight_136 (by decide) (fun c136 => ?_) (fun c136 => ?_)
                · refine q_bipush (v := -9) G (pc := 143) dX11_comesRight_143 (by decide) ?_
                  refine q_iast (j := g p) G (pc := 145) dX11_comesRight_145 rfl rfl (by omega) ?_
                  refine q_iincN G (pc := 146) dX11_comesRight_146 rfl (inc1 _) (by decide) ?_
                  show X _ [_, _, _, _, _] _ _ _ _
                  refine q_goto (tgt := 71) G (pc := 149) dX11_comesRight_149 (by decide) ?_
                  have eb : bhd m g p = -9 := if_neg (by omega)
                  have e1 := fol_st (m := m) (p := p) (o := g) (fd := x.1) (g := x.2.2.2) (fun j hj2 q => by have := hinj j p (by omega) (by omega) q; omega) (fun q => hok q _ (hg6 p (by omega)) ((hcov _ (hg6 p (by omega))).mpr ⟨p, by omega, rfl⟩))
                  rw [if_neg (fun z => z.elim c125 (fun z => c136 (z.trans eb)))] at e1
                  refine ih71 (p + 1) _ _ _ (by omega) (by omega) (fun s hs hb => ?_) (fun j hq => ?_) (fun j hq1 hq2 => ?_) (by simp [va_up]; exact a4) (by simp [va_up]; exact a5) (by simp [va_up]; exact a6) (fun c q1 q2 q3 => by simp [va_up, q2]; exact a7 c q1 q2 q3) (fun k q1 q2 q3 => by simp [va_up]; exact a8 k q1 q2 q3)
                  · have hne : s ≠ g p := fun q => by have := (hcov s hs).mpr ⟨p, by omega, q.symm⟩; omega
                    simp [va_up, hne]; exact a1 s hs hb
                  · by_cases q1 : j = p
                    · rw [q1, e1]; simp [va_up]
                    · have hne : g j ≠ g p := fun q => q1 (hinj j p (by omega) (by omega) q)
                      rw [folP_o hne, ← a2 j (by omega)]; simp [va_up, hne]
                  · have hne : g j ≠ g p := fun q => by have := hinj j p (by omega) (by omega) q; omega
                    rw [← a3 j (by omega) hq2]; simp [va_up, hne]
                · refine q_iload_n G (pc := 139) dX11_comesRight_139 rfl ?_
                  refine q_goto (tgt := 145) G (pc := 140) dX11_comesRight_140 (by decide) ?_
                  refine q_iast (j := g p) G (pc := 145) dX11_comesRight_145 rfl rfl (by omega) ?_
                  refine q_iincN G (pc := 146) dX11_comesRight_146 rfl (inc1 _) (by decide) ?_
                  show X _ [_, _, _, _, _] _ _ _ _
                  refine q_goto (tgt := 71) G (pc := 149) dX11_comesRight_149 (by decide) ?_
                  have eb : bhd m g p = -9 := if_neg (by omega)
                  have e1 := fol_st (m := m) (p := p) (o := g) (fd := x.1) (g := x.2.2.2) (fun j hj2 q => by have := hinj j p (by omega) (by omega) q; omega) (fun q => hok q _ (hg6 p (by omega)) ((hcov _ (hg6 p (by omega))).mpr ⟨p, by omega, rfl⟩))
                  rw [if_pos (Or.inr (c136.trans eb.symm)), eb] at e1
                  refine ih71 (p + 1) _ _ _ (by omega) (by omega) (fun s hs hb => ?_) (fun j hq => ?_) (fun j hq1 hq2 => ?_) (by simp [va_up]; exact a4) (by simp [va_up]; exact a5) (by simp [va_up]; exact a6) (fun c q1 q2 q3 => by simp [va_up, q2]; exact a7 c q1 q2 q3) (fun k q1 q2 q3 => by simp [va_up]; exact a8 k q1 q2 q3)
                  · have hne : s ≠ g p := fun q => by have := (hcov s hs).mpr ⟨p, by omega, q.symm⟩; omega
                    simp [va_up, hne]; exact a1 s hs hb
                  · by_cases q1 : j = p
                    · rw [q1, e1]; simp [va_up]
                    · have hne : g j ≠ g p := fun q => q1 (hinj j p (by omega) (by omega) q)
                      rw [folP_o hne, ← a2 j (by omega)]; simp [va_up, hne]
                  · have hne : g j ≠ g p := fun q => by have := hinj j p (by omega) (by omega) q; omega
                    rw [← a3 j (by omega) hq2]; simp [va_up, hne]
            · refine q_aload_n G (pc := 89) dX11_comesRight_89 rfl ?_
              refine q_getR (x := 121) G (pc := 90) dX11_comesRight_90 fl_X11_56_10 rfl (hg hτ (hf_10_29 rfl)) ?_
              refine q_iload_n G (pc := 93) dX11_comesRight_93 rfl ?_
              refine q_iconst (v := nI 1) G (pc := 94) dX11_comesRight_94 (by decide) ?_
              refine q_iaddN G (pc := 95) dX11_comesRight_95 ?_
              refine q_iald (j := p + 1) (v := nI (g (p + 1))) G (pc := 96) dX11_comesRight_96 rfl rfl (by omega) (by rw [a7 121 (by decide) (by decide) (by decide)]; exact hg0 (p + 1) (by omega)) ?_
              refine q_goto (tgt := 102) G (pc := 97) dX11_comesRight_97 (by decide) ?_
              refine q_istore_n G (pc := 102) dX11_comesRight_102 (by decide) ?_
              show X _ [_, _, _, _, _] _ _ _ _
              refine q_aload_n G (pc := 103) dX11_comesRight_103 rfl ?_
              refine q_getR (x := 121) G (pc := 104) dX11_comesRight_104 fl_X11_56_10 rfl (hg hτ (hf_10_29 rfl)) ?_
              refine q_iload_n G (pc := 107) dX11_comesRight_107 rfl ?_
              refine q_iald (j := p) (v := nI (g p)) G (pc := 108) dX11_comesRight_108 rfl rfl (by omega) (by rw [a7 121 (by decide) (by decide) (by decide)]; exact hg0 p (by omega)) ?_
              have hgp := hg6 p (by omega)
              refine q_istore G (pc := 109) dX11_comesRight_109 (by decide) ?_
              show X _ [_, _, _, _, _] _ _ _ _
              refine q_aload_n G (pc := 111) dX11_comesRight_111 rfl ?_
              refine q_getR (x := 122) G (pc := 112) dX11_comesRight_112 fl_X11_59_10 rfl (hg hτ (hf_10_34 rfl)) ?_
              refine q_iload G (pc := 115) dX11_comesRight_115 rfl ?_
              refine q_aload_n G (pc := 117) dX11_comesRight_117 rfl ?_
              refine q_getR (x := 122) G (pc := 118) dX11_comesRight_118 fl_X11_59_10 rfl (hg hτ (hf_10_34 rfl)) ?_
              refine q_iload G (pc := 121) dX11_comesRight_121 rfl ?_
              refine q_iald (j := g p) (v := if x.1 = 0 then -1 else x.2.2.2 (g p)) G (pc := 123) dX11_comesRight_123 rfl rfl (by omega) (a3 p (Nat.le_refl _) (by omega)) ?_
              refine q_iconst (v := -1) G (pc := 124) dX11_comesRight_124 (by decide) ?_
              refine q_icmp_eq (tgt := 139) G (pc := 125) dX11_comesRight_125 (by decide) (fun c125 => ?_) (fun c125 => ?_)
              · refine q_iload_n G (pc := 139) dX11_comesRight_139 rfl ?_
                refine q_goto (tgt := 145) G (pc := 140) dX11_comesRight_140 (by decide) ?_
                refine q_iast (j := g p) G (pc := 145) dX11_comesRight_145 rfl rfl (by omega) ?_
                refine q_iincN G (pc := 146) dX11_comesRight_146 rfl (inc1 _) (by decide) ?_
                show X _ [_, _, _, _, _] _ _ _ _
                refine q_goto (tgt := 71) G (pc := 149) dX11_comesRight_149 (by decide) ?_
                have eb : bhd m g p = nI (g (p + 1)) := if_pos (by omega)
                have e1 := fol_st (m := m) (p := p) (o := g) (fd := x.1) (g := x.2.2.2) (fun j hj2 q => by have := hinj j p (by omega) (by omega) q; omega) (fun q => hok q _ (hg6 p (by omega)) ((hcov _ (hg6 p (by omega))).mpr ⟨p, by omega, rfl⟩))
                rw [if_pos (Or.inl c125), eb] at e1
                refine ih71 (p + 1) _ _ _ (by omega) (by omega) (fun s hs hb => ?_) (fun j hq => ?_) (fun j hq1 hq2 => ?_) (by simp [va_up]; exact a4) (by simp [va_up]; exact a5) (by simp [va_up]; exact a6) (fun c q1 q2 q3 => by simp [va_up, q2]; exact a7 c q1 q2 q3) (fun k q1 q2 q3 => by simp [va_up]; exact a8 k q1 q2 q3)
                · have hne : s ≠ g p := fun q => by have := (hcov s hs).mpr ⟨p, by omega, q.symm⟩; omega
                  simp [va_up, hne]; exact a1 s hs hb
                · by_cases q1 : j = p
                  · rw [q1, e1]; simp [va_up]
                  · have hne : g j ≠ g p := fun q => q1 (hinj j p (by omega) (by omega) q)
                    rw [folP_o hne, ← a2 j (by omega)]; simp [va_up, hne]
                · have hne : g j ≠ g p := fun q => by have := hinj j p (by omega) (by omega) q; omega
                  rw [← a3 j (by omega) hq2]; simp [va_up, hne]
              · refine q_aload_n G (pc := 128) dX11_comesRight_128 rfl ?_
                refine q_getR (x := 122) G (pc := 129) dX11_comesRight_129 fl_X11_59_10 rfl (hg hτ (hf_10_34 rfl)) ?_
                refine q_iload G (pc := 132) dX11_comesRight_132 rfl ?_
                refine q_iald (j := g p) (v := if x.1 = 0 then -1 else x.2.2.2 (g p)) G (pc := 134) dX11_comesRight_134 rfl rfl (by omega) (a3 p (Nat.le_refl _) (by omega)) ?_
                refine q_iload_n G (pc := 135) dX11_comesRight_135 rfl ?_
                refine q_icmp_ne (tgt := 143) G (pc := 136) dX11_comesRight_136 (by decide) (fun c136 => ?_) (fun c136 => ?_)
                · refine q_bipush (v := -9) G (pc := 143) dX11_comesRight_143 (by decide) ?_
                  refine q_iast (j := g p) G (pc := 145) dX11_comesRight_145 rfl rfl (by omega) ?_
                  refine q_iincN G (pc := 146) dX11_comesRight_146 rfl (inc1 _) (by decide) ?_
                  show X _ [_, _, _, _, _] _ _ _ _
                  refine q_goto (tgt := 71) G (pc := 149) dX11_comesRight_149 (by decide) ?_
                  have eb : bhd m g p = nI (g (p + 1)) := if_pos (by omega)
                  have e1 := fol_st (m := m) (p := p) (o := g) (fd := x.1) (g := x.2.2.2) (fun j hj2 q => by have := hinj j p (by omega) (by omega) q; omega) (fun q => hok q _ (hg6 p (by omega)) ((hcov _ (hg6 p (by omega))).mpr ⟨p, by omega, rfl⟩))
                  rw [if_neg (fun z => z.elim c125 (fun z => c136 (z.trans eb)))] at e1
                  refine ih71 (p + 1) _ _ _ (by omega) (by omega) (fun s hs hb => ?_) (fun j hq => ?_) (fun j hq1 hq2 => ?_) (by simp [va_up]; exact a4) (by simp [va_up]; exact a5) (by simp [va_up]; exact a6) (fun c q1 q2 q3 => by simp [va_up, q2]; exact a7 c q1 q2 q3) (fun k q1 q2 q3 => by simp [va_up]; exact a8 k q1 q2 q3)
                  · have hne : s ≠ g p := fun q => by have := (hcov s hs).mpr ⟨p, by omega, q.symm⟩; omega
                    simp [va_up, hne]; exact a1 s hs hb
                  · by_cases q1 : j = p
                    · rw [q1, e1]; simp [va_up]
                    · have hne : g j ≠ g p := fun q => q1 (hinj j p (by omega) (by omega) q)
                      rw [folP_o hne, ← a2 j (by omega)]; simp [va_up, hne]
                  · have hne : g j ≠ g p := fun q => by have := hinj j p (by omega) (by omega) q; omega
                    rw [← a3 j (by omega) hq2]; simp [va_up, hne]
                · refine q_iload_n G (pc := 139) dX11_comesRight_139 rfl ?_
                  refine q_goto (tgt := 145) G (pc := 140) dX11_comesRight_140 (by decide) ?_
                  refine q_iast (j := g p) G (pc := 145) dX11_comesRight_145 rfl rfl (by omega) ?_
                  refine q_iincN G (pc := 146) dX11_comesRight_146 rfl (inc1 _) (by decide) ?_
                  show X _ [_, _, _, _, _] _ _ _ _
                  refine q_goto (tgt := 71) G (pc := 149) dX11_comesRight_149 (by decide) ?_
                  have eb : bhd m g p = nI (g (p + 1)) := if_pos (by omega)
                  have e1 := fol_st (m := m) (p := p) (o := g) (fd := x.1) (g := x.2.2.2) (fun j hj2 q => by have := hinj j p (by omega) (by omega) q; omega) (fun q => hok q _ (hg6 p (by omega)) ((hcov _ (hg6 p (by omega))).mpr ⟨p, by omega, rfl⟩))
                  rw [if_pos (Or.inr (c136.trans eb.symm)), eb] at e1
                  refine ih71 (p + 1) _ _ _ (by omega) (by omega) (fun s hs hb => ?_) (fun j hq => ?_) (fun j hq1 hq2 => ?_) (by simp [va_up]; exact a4) (by simp [va_up]; exact a5) (by simp [va_up]; exact a6) (fun c q1 q2 q3 => by simp [va_up, q2]; exact a7 c q1 q2 q3) (fun k q1 q2 q3 => by simp [va_up]; exact a8 k q1 q2 q3)
                  · have hne : s ≠ g p := fun q => by have := (hcov s hs).mpr ⟨p, by omega, q.symm⟩; omega
                    simp [va_up, hne]; exact a1 s hs hb
                  · by_cases q1 : j = p
                    · rw [q1, e1]; simp [va_up]
                    · have hne : g j ≠ g p := fun q => q1 (hinj j p (by omega) (by omega) q)
                      rw [folP_o hne, ← a2 j (by omega)]; simp [va_up, hne]
                  · have hne : g j ≠ g p := fun q => by have := hinj j p (by omega) (by omega) q; omega
                    rw [← a3 j (by omega) hq2]; simp [va_up, hne]
      refine L71 _ 0 _ _ _ (Nat.lt_succ_self _) (by omega) (fun s hs hb => ?_) (fun j hj => absurd hj (Nat.not_lt_zero _)) (fun j _ hj => ?_) (by simp [va_up]; rw [y1 106 (by simp)]; simp [va_up]) (by rw [if_neg c5]; simp [va_up]; rw [y1 106 (by simp)]; simp [va_up]) (by simp [va_up]; exact few_T (by omega) c55) (fun c q1 q2 q3 => by simp [va_up, q1]; rw [y1 c (by simpa using q3)]; simp [va_up, q1]) (fun k q1 q2 q3 => by simp [va_up, q3]; rw [y1 106 (by simp)]; simp [va_up, q1, q2])
      · simp [va_up]; rw [y1 122 (by simp)]; simp [va_up]; rw [hx.2.2.2 s hs]; exact if_pos (Or.inr hb)
      · simp [va_up]; rw [y1 122 (by simp)]; simp [va_up]; rw [hx.2.2.2 _ (hg6 j hj)]
        have hb := (hcov _ (hg6 j hj)).mpr ⟨j, hj, rfl⟩
        unfold afM
        by_cases h0 : x.1 = 0
        · rw [if_pos h0, if_pos (Or.inl h0)]
        · rw [if_neg h0, if_neg (fun z => z.elim h0 (fun z => by omega))]
    · refine q_iload_n G (pc := 58) dX11_comesRight_58 rfl ?_
      refine q_goto (tgt := 66) G (pc := 59) dX11_comesRight_59 (by decide) ?_
      refine q_putI G (pc := 66) dX11_comesRight_66 fl_X11_228_10 rfl ?_
      refine q_iconst (v := nI 0) G (pc := 69) dX11_comesRight_69 (by decide) ?_
      refine q_istore_n G (pc := 70) dX11_comesRight_70 (by decide) ?_
      show X _ [_, _, _, _, _] _ _ _ _
      have L71 : ∀ (zz : Nat) (p : Nat) (hj : mm_HI) (v3 v4 : Option Value), m - p < zz → p ≤ m → (∀ s, s < 6 → lf / 2 ^ s % 2 = 0 → hj 122 s = -1) → (∀ j, j < p → hj 122 (g j) = folP x.1 m g x.2.2.2 p (g j)) → (∀ j, p ≤ j → j < m → hj 122 (g j) = if x.1 = 0 then -1 else x.2.2.2 (g j)) → hj 106 31 = x.1 + nI 1 → hj 106 32 = (if x.1 = 0 then nI (numF g m) else x.2.1) → hj 106 33 = (if x.1 = 0 ∨ nI (m - stF (pvO f n) g m) < x.2.2.1 then nI (m - stF (pvO f n) g m) else x.2.2.1) → (∀ c, c ≠ 106 → c ≠ 122 → c ≠ 123 → hj c = hi c) → (∀ k, k ≠ 31 → k ≠ 32 → k ≠ 33 → hj 106 k = hi 106 k) → X 71 [some (.ref (106)), some (.int (nI (m - (stF (pvO f n) g m)))), some (.int (nI (p))), v3, v4] [] hj τ 125 := by
        intro zz
        induction zz with
        | zero => intro p hj v3 v4 hm; exact absurd hm (Nat.not_lt_zero _)
        | succ zz ih71 =>
          intro p hj v3 v4 hm h0 a1 a2 a3 a4 a5 a6 a7 a8
          refine q_iload_n G (pc := 71) dX11_comesRight_71 rfl ?_
          refine q_aload_n G (pc := 72) dX11_comesRight_72 rfl ?_
          refine q_getI (v := nI (m)) G (pc := 73) dX11_comesRight_73 fl_X11_212_10 (by decide) rfl (by rw [a8 30 (by decide) (by decide) (by decide)]; exact h30) ?_
          refine q_icmp_geN (tgt := 152) G (pc := 76) dX11_comesRight_76 (by decide) (by omega) (by omega) (fun c76 => ?_) (fun c76 => ?_)
          · refine q_vret G (pc := 152) dX11_comesRight_152 rfl ?_
            have hpm : m = p := by omega
            subst hpm
            refine ⟨rfl, rfl, ⟨a4, a5, ?_, fun s hs => ?_⟩, a7, a8⟩
            · rw [a6]; exact (if_neg hne0).symm
            · show hj 122 s = (if x.1 + nI 1 = 0 ∨ lf / 2 ^ s % 2 = 0 then -1 else folP x.1 m g x.2.2.2 m s)
              have hb2 := bit_lt2 lf s
              by_cases hb : lf / 2 ^ s % 2 = 1
              · rw [if_neg (fun z => z.elim hne0 (fun z => by omega))]
                obtain ⟨j, hj2, rfl⟩ := (hcov s hs).mp hb
                exact a2 j hj2
              · rw [if_pos (Or.inr (by omega))]
                exact a1 s hs (by omega)
          · refine q_iload_n G (pc := 79) dX11_comesRight_79 rfl ?_
            refine q_iconst (v := nI 1) G (pc := 80) dX11_comesRight_80 (by decide) ?_
            refine q_iaddN G (pc := 81) dX11_comesRight_81 ?_
            refine q_aload_n G (pc := 82) dX11_comesRight_82 rfl ?_
            refine q_getI (v := nI (m)) G (pc := 83) dX11_comesRight_83 fl_X11_212_10 (by decide) rfl (by rw [a8 30 (by decide) (by decide) (by decide)]; exact h30) ?_
            refine q_icmp_geN (tgt := 100) G (pc := 86) dX11_comesRight_86 (by decide) (by omega) (by omega) (fun c86 => ?_) (fun c86 => ?_)
            · refine q_bipush (v := -9) G (pc := 100) dX11_comesRight_100 (by decide) ?_
              refine q_istore_n G (pc := 102) dX11_comesRight_102 (by decide) ?_
              show X _ [_, _, _, _, _] _ _ _ _
              refine q_aload_n G (pc := 103) dX11_comesRight_103 rfl ?_
              refine q_getR (x := 121) G (pc := 104) dX11_comesRight_104 fl_X11_56_10 rfl (hg hτ (hf_10_29 rfl)) ?_
              refine q_iload_n G (pc := 107) dX11_comesRight_107 rfl ?_
              refine q_iald (j := p) (v := nI (g p)) G (pc := 108) dX11_comesRight_108 rfl rfl (by omega) (by rw [a7 121 (by decide) (by decide) (by decide)]; exact hg0 p (by omega)) ?_
              have hgp := hg6 p (by omega)
              refine q_istore G (pc := 109) dX11_comesRight_109 (by decide) ?_
              show X _ [_, _, _, _, _] _ _ _ _
              refine q_aload_n G (pc := 111) dX11_comesRight_111 rfl ?_
              refine q_getR (x := 122) G (pc := 112) dX11_comesRight_112 fl_X11_59_10 rfl (hg hτ (hf_10_34 rfl)) ?_
              refine q_iload G (pc := 115) dX11_comesRight_115 rfl ?_
              refine q_aload_n G (pc := 117) dX11_comesRight_117 rfl ?_
              refine q_getR (x := 122) G (pc := 118) dX11_comesRight_118 fl_X11_59_10 rfl (hg hτ (hf_10_34 rfl)) ?_
              refine q_iload G (pc := 121) dX11_comesRight_121 rfl ?_
              refine q_iald (j := g p) (v := if x.1 = 0 then -1 else x.2.2.2 (g p)) G (pc := 123) dX11_comesRight_123 rfl rfl (by omega) (a3 p (Nat.le_refl _) (by omega)) ?_
              refine q_iconst (v := -1) G (pc := 124) dX11_comesRight_124 (by decide) ?_
              refine q_icmp_eq (tgt := 139) G (pc := 125) dX11_comesRight_125 (by decide) (fun c125 => ?_) (fun c125 => ?_)
              · refine q_iload_n G (pc := 139) dX11_comesRight_139 rfl ?_
                refine q_goto (tgt := 145) G (pc := 140) dX11_comesRight_140 (by decide) ?_
                refine q_iast (j := g p) G (pc := 145) dX11_comesRight_145 rfl rfl (by omega) ?_
                refine q_iincN G (pc := 146) dX11_comesRight_146 rfl (inc1 _) (by decide) ?_
                show X _ [_, _, _, _, _] _ _ _ _
                refine q_goto (tgt := 71) G (pc := 149) dX11_comesRight_149 (by decide) ?_
                have eb : bhd m g p = -9 := if_neg (by omega)
                have e1 := fol_st (m := m) (p := p) (o := g) (fd := x.1) (g := x.2.2.2) (fun j hj2 q => by have := hinj j p (by omega) (by omega) q; omega) (fun q => hok q _ (hg6 p (by omega)) ((hcov _ (hg6 p (by omega))).mpr ⟨p, by omega, rfl⟩))
                rw [if_pos (Or.inl c125), eb] at e1
                refine ih71 (p + 1) _ _ _ (by omega) (by omega) (fun s hs hb => ?_) (fun j hq => ?_) (fun j hq1 hq2 => ?_) (by simp [va_up]; exact a4) (by simp [va_up]; exact a5) (by simp [va_up]; exact a6) (fun c q1 q2 q3 => by simp [va_up, q2]; exact a7 c q1 q2 q3) (fun k q1 q2 q3 => by simp [va_up]; exact a8 k q1 q2 q3)
                · have hne : s ≠ g p := fun q => by have := (hcov s hs).mpr ⟨p, by omega, q.symm⟩; omega
                  simp [va_up, hne]; exact a1 s hs hb
                · by_cases q1 : j = p
                  · rw [q1, e1]; simp [va_up]
                  · have hne : g j ≠ g p := fun q => q1 (hinj j p (by omega) (by omega) q)
                    rw [folP_o hne, ← a2 j (by omega)]; simp [va_up, hne]
                · have hne : g j ≠ g p := fun q => by have := hinj j p (by omega) (by omega) q; omega
                  rw [← a3 j (by omega) hq2]; simp [va_up, hne]
              · refine q_aload_n G (pc := 128) dX11_comesRight_128 rfl ?_
                refine q_getR (x := 122) G (pc := 129) dX11_comesRight_129 fl_X11_59_10 rfl (hg hτ (hf_10_34 rfl)) ?_
                refine q_iload G (pc := 132) dX11_comesRight_132 rfl ?_
                refine q_iald (j := g p) (v := if x.1 = 0 then -1 else x.2.2.2 (g p)) G (pc := 134) dX11_comesRight_134 rfl rfl (by omega) (a3 p (Nat.le_refl _) (by omega)) ?_
                refine q_iload_n G (pc := 135) dX11_comesRight_135 rfl ?_
                refine q_icmp_ne (tgt := 143) G (pc := 136) dX11_comesRight_136 (by decide) (fun c136 => ?_) (fun c136 => ?_)
                · refine q_bipush (v := -9) G (pc := 143) dX11_comesRight_143 (by decide) ?_
                  refine q_iast (j := g p) G (pc := 145) dX11_comesRight_145 rfl rfl (by omega) ?_
                  refine q_iincN G (pc := 146) dX11_comesRight_146 rfl (inc1 _) (by decide) ?_
                  show X _ [_, _, _, _, _] _ _ _ _
                  refine q_goto (tgt := 71) G (pc := 149) dX11_comesRight_149 (by decide) ?_
                  have eb : bhd m g p = -9 := if_neg (by omega)
                  have e1 := fol_st (m := m) (p := p) (o := g) (fd := x.1) (g := x.2.2.2) (fun j hj2 q => by have := hinj j p (by omega) (by omega) q; omega) (fun q => hok q _ (hg6 p (by omega)) ((hcov _ (hg6 p (by omega))).mpr ⟨p, by omega, rfl⟩))
                  rw [if_neg (fun z => z.elim c125 (fun z => c136 (z.trans eb)))] at e1
                  refine ih71 (p + 1) _ _ _ (by omega) (by omega) (fun s hs hb => ?_) (fun j hq => ?_) (fun j hq1 hq2 => ?_) (by simp [va_up]; exact a4) (by simp [va_up]; exact a5) (by simp [va_up]; exact a6) (fun c q1 q2 q3 => by simp [va_up, q2]; exact a7 c q1 q2 q3) (fun k q1 q2 q3 => by simp [va_up]; exact a8 k q1 q2 q3)
                  · have hne : s ≠ g p := fun q => by have := (hcov s hs).mpr ⟨p, by omega, q.symm⟩; omega
                    simp [va_up, hne]; exact a1 s hs hb
                  · by_cases q1 : j = p
                    · rw [q1, e1]; simp [va_up]
                    · have hne : g j ≠ g p := fun q => q1 (hinj j p (by omega) (by omega) q)
                      rw [folP_o hne, ← a2 j (by omega)]; simp [va_up, hne]
                  · have hne : g j ≠ g p := fun q => by have := hinj j p (by omega) (by omega) q; omega
                    rw [← a3 j (by omega) hq2]; simp [va_up, hne]
                · refine q_iload_n G (pc := 139) dX11_comesRight_139 rfl ?_
                  refine q_goto (tgt := 145) G (pc := 140) dX11_comesRight_140 (by decide) ?_
                  refine q_iast (j := g p) G (pc := 145) dX11_comesRight_145 rfl rfl (by omega) ?_
                  refine q_iincN G (pc := 146) dX11_comesRight_146 rfl (inc1 _) (by decide) ?_
                  show X _ [_, _, _, _, _] _ _ _ _
                  refine q_goto (tgt := 71) G (pc := 149) dX11_comesRight_149 (by decide) ?_
                  have eb : bhd m g p = -9 := if_neg (by omega)
                  have e1 := fol_st (m := m) (p := p) (o := g) (fd := x.1) (g := x.2.2.2) (fun j hj2 q => by have := hinj j p (by omega) (by omega) q; omega) (fun q => hok q _ (hg6 p (by omega)) ((hcov _ (hg6 p (by omega))).mpr ⟨p, by omega, rfl⟩))
                  rw [if_pos (Or.inr (c136.trans eb.symm)), eb] at e1
                  refine ih71 (p + 1) _ _ _ (by omega) (by omega) (fun s hs hb => ?_) (fun j hq => ?_) (fun j hq1 hq2 => ?_) (by simp [va_up]; exact a4) (by simp [va_up]; exact a5) (by simp [va_up]; exact a6) (fun c q1 q2 q3 => by simp [va_up, q2]; exact a7 c q1 q2 q3) (fun k q1 q2 q3 => by simp [va_up]; exact a8 k q1 q2 q3)
                  · have hne : s ≠ g p := fun q => by have := (hcov s hs).mpr ⟨p, by omega, q.symm⟩; omega
                    simp [va_up, hne]; exact a1 s hs hb
                  · by_cases q1 : j = p
                    · rw [q1, e1]; simp [va_up]
                    · have hne : g j ≠ g p := fun q => q1 (hinj j p (by omega) (by omega) q)
                      rw [folP_o hne, ← a2 j (by omega)]; simp [va_up, hne]
                  · have hne : g j ≠ g p := fun q => by have := hinj j p (by omega) (by omega) q; omega
                    rw [← a3 j (by omega) hq2]; simp [va_up, hne]
            · refine q_aload_n G (pc := 89) dX11_comesRight_89 rfl ?_
              refine q_getR (x := 121) G (pc := 90) dX11_comesRight_90 fl_X11_56_10 rfl (hg hτ (hf_10_29 rfl)) ?_
              refine q_iload_n G (pc := 93) dX11_comesRight_93 rfl ?_
              refine q_iconst (v := nI 1) G (pc := 94) dX11_comesRight_94 (by decide) ?_
              refine q_iaddN G (pc := 95) dX11_comesRight_95 ?_
              refine q_iald (j := p + 1) (v := nI (g (p + 1))) G (pc := 96) dX11_comesRight_96 rfl rfl (by omega) (by rw [a7 121 (by decide) (by decide) (by decide)]; exact hg0 (p + 1) (by omega)) ?_
              refine q_goto (tgt := 102) G (pc := 97) dX11_comesRight_97 (by decide) ?_
              refine q_istore_n G (pc := 102) dX11_comesRight_102 (by decide) ?_
              show X _ [_, _, _, _, _] _ _ _ _
              refine q_aload_n G (pc := 103) dX11_comesRight_103 rfl ?_
              refine q_getR (x := 121) G (pc := 104) dX11_comesRight_104 fl_X11_56_10 rfl (hg hτ (hf_10_29 rfl)) ?_
              refine q_iload_n G (pc := 107) dX11_comesRight_107 rfl ?_
              refine q_iald (j := p) (v := nI (g p)) G (pc := 108) dX11_comesRight_108 rfl rfl (by omega) (by rw [a7 121 (by decide) (by decide) (by decide)]; exact hg0 p (by omega)) ?_
              have hgp := hg6 p (by omega)
              refine q_istore G (pc := 109) dX11_comesRight_109 (by decide) ?_
              show X _ [_, _, _, _, _] _ _ _ _
              refine q_aload_n G (pc := 111) dX11_comesRight_111 rfl ?_
              refine q_getR (x := 122) G (pc := 112) dX11_comesRight_112 fl_X11_59_10 rfl (hg hτ (hf_10_34 rfl)) ?_
              refine q_iload G (pc := 115) dX11_comesRight_115 rfl ?_
              refine q_aload_n G (pc := 117) dX11_comesRight_117 rfl ?_
              refine q_getR (x := 122) G (pc := 118) dX11_comesRight_118 fl_X11_59_10 rfl (hg hτ (hf_10_34 rfl)) ?_
              refine q_iload G (pc := 121) dX11_comesRight_121 rfl ?_
              refine q_iald (j := g p) (v := if x.1 = 0 then -1 else x.2.2.2 (g p)) G (pc := 123) dX11_comesRight_123 rfl rfl (by omega) (a3 p (Nat.le_refl _) (by omega)) ?_
              refine q_iconst (v := -1) G (pc := 124) dX11_comesRight_124 (by decide) ?_
              refine q_icmp_eq (tgt := 139) G (pc := 125) dX11_comesRight_125 (by decide) (fun c125 => ?_) (fun c125 => ?_)
              · refine q_iload_n G (pc := 139) dX11_comesRight_139 rfl ?_
                refine q_goto (tgt := 145) G (pc := 140) dX11_comesRight_140 (by decide) ?_
                refine q_iast (j := g p) G (pc := 145) dX11_comesRight_145 rfl rfl (by omega) ?_
                refine q_iincN G (pc := 146) dX11_comesRight_146 rfl (inc1 _) (by decide) ?_
                show X _ [_, _, _, _, _] _ _ _ _
                refine q_goto (tgt := 71) G (pc := 149) dX11_comesRight_149 (by decide) ?_
                have eb : bhd m g p = nI (g (p + 1)) := if_pos (by omega)
                have e1 := fol_st (m := m) (p := p) (o := g) (fd := x.1) (g := x.2.2.2) (fun j hj2 q => by have := hinj j p (by omega) (by omega) q; omega) (fun q => hok q _ (hg6 p (by omega)) ((hcov _ (hg6 p (by omega))).mpr ⟨p, by omega, rfl⟩))
                rw [if_pos (Or.inl c125), eb] at e1
                refine ih71 (p + 1) _ _ _ (by omega) (by omega) (fun s hs hb => ?_) (fun j hq => ?_) (fun j hq1 hq2 => ?_) (by simp [va_up]; exact a4) (by simp [va_up]; exact a5) (by simp [va_up]; exact a6) (fun c q1 q2 q3 => by simp [va_up, q2]; exact a7 c q1 q2 q3) (fun k q1 q2 q3 => by simp [va_up]; exact a8 k q1 q2 q3)
                · have hne : s ≠ g p := fun q => by have := (hcov s hs).mpr ⟨p, by omega, q.symm⟩; omega
                  simp [va_up, hne]; exact a1 s hs hb
                · by_cases q1 : j = p
                  · rw [q1, e1]; simp [va_up]
                  · have hne : g j ≠ g p := fun q => q1 (hinj j p (by omega) (by omega) q)
                    rw [folP_o hne, ← a2 j (by omega)]; simp [va_up, hne]
                · have hne : g j ≠ g p := fun q => by have := hinj j p (by omega) (by omega) q; omega
                  rw [← a3 j (by omega) hq2]; simp [va_up, hne]
              · refine q_aload_n G (pc := 128) dX11_comesRight_128 rfl ?_
                refine q_getR (x := 122) G (pc := 129) dX11_comesRight_129 fl_X11_59_10 rfl (hg hτ (hf_10_34 rfl)) ?_
                refine q_iload G (pc := 132) dX11_comesRight_132 rfl ?_
                refine q_iald (j := g p) (v := if x.1 = 0 then -1 else x.2.2.2 (g p)) G (pc := 134) dX11_comesRight_134 rfl rfl (by omega) (a3 p (Nat.le_refl _) (by omega)) ?_
                refine q_iload_n G (pc := 135) dX11_comesRight_135 rfl ?_
                refine q_icmp_ne (tgt := 143) G (pc := 136) dX11_comesRight_136 (by decide) (fun c136 => ?_) (fun c136 => ?_)
                · refine q_bipush (v := -9) G (pc := 143) dX11_comesRight_143 (by decide) ?_
                  refine q_iast (j := g p) G (pc := 145) dX11_comesRight_145 rfl rfl (by omega) ?_
                  refine q_iincN G (pc := 146) dX11_comesRight_146 rfl (inc1 _) (by decide) ?_
                  show X _ [_, _, _, _, _] _ _ _ _
                  refine q_goto (tgt := 71) G (pc := 149) dX11_comesRight_149 (by decide) ?_
                  have eb : bhd m g p = nI (g (p + 1)) := if_pos (by omega)
                  have e1 := fol_st (m := m) (p := p) (o := g) (fd := x.1) (g := x.2.2.2) (fun j hj2 q => by have := hinj j p (by omega) (by omega) q; omega) (fun q => hok q _ (hg6 p (by omega)) ((hcov _ (hg6 p (by omega))).mpr ⟨p, by omega, rfl⟩))
                  rw [if_neg (fun z => z.elim c125 (fun z => c136 (z.trans eb)))] at e1
                  refine ih71 (p + 1) _ _ _ (by omega) (by omega) (fun s hs hb => ?_) (fun j hq => ?_) (fun j hq1 hq2 => ?_) (by simp [va_up]; exact a4) (by simp [va_up]; exact a5) (by simp [va_up]; exact a6) (fun c q1 q2 q3 => by simp [va_up, q2]; exact a7 c q1 q2 q3) (fun k q1 q2 q3 => by simp [va_up]; exact a8 k q1 q2 q3)
                  · have hne : s ≠ g p := fun q => by have := (hcov s hs).mpr ⟨p, by omega, q.symm⟩; omega
                    simp [va_up, hne]; exact a1 s hs hb
                  · by_cases q1 : j = p
                    · rw [q1, e1]; simp [va_up]
                    · have hne : g j ≠ g p := fun q => q1 (hinj j p (by omega) (by omega) q)
                      rw [folP_o hne, ← a2 j (by omega)]; simp [va_up, hne]
                  · have hne : g j ≠ g p := fun q => by have := hinj j p (by omega) (by omega) q; omega
                    rw [← a3 j (by omega) hq2]; simp [va_up, hne]
                · refine q_iload_n G (pc := 139) dX11_comesRight_139 rfl ?_
                  refine q_goto (tgt := 145) G (pc := 140) dX11_comesRight_140 (by decide) ?_
                  refine q_iast (j := g p) G (pc := 145) dX11_comesRight_145 rfl rfl (by omega) ?_
                  refine q_iincN G (pc := 146) dX11_comesRight_146 rfl (inc1 _) (by decide) ?_
                  show X _ [_, _, _, _, _] _ _ _ _
                  refine q_goto (tgt := 71) G (pc := 149) dX11_comesRight_149 (by decide) ?_
                  have eb : bhd m g p = nI (g (p + 1)) := if_pos (by omega)
                  have e1 := fol_st (m := m) (p := p) (o := g) (fd := x.1) (g := x.2.2.2) (fun j hj2 q => by have := hinj j p (by omega) (by omega) q; omega) (fun q => hok q _ (hg6 p (by omega)) ((hcov _ (hg6 p (by omega))).mpr ⟨p, by omega, rfl⟩))
                  rw [if_pos (Or.inr (c136.trans eb.symm)), eb] at e1
                  refine ih71 (p + 1) _ _ _ (by omega) (by omega) (fun s hs hb => ?_) (fun j hq => ?_) (fun j hq1 hq2 => ?_) (by simp [va_up]; exact a4) (by simp [va_up]; exact a5) (by simp [va_up]; exact a6) (fun c q1 q2 q3 => by simp [va_up, q2]; exact a7 c q1 q2 q3) (fun k q1 q2 q3 => by simp [va_up]; exact a8 k q1 q2 q3)
                  · have hne : s ≠ g p := fun q => by have := (hcov s hs).mpr ⟨p, by omega, q.symm⟩; omega
                    simp [va_up, hne]; exact a1 s hs hb
                  · by_cases q1 : j = p
                    · rw [q1, e1]; simp [va_up]
                    · have hne : g j ≠ g p := fun q => q1 (hinj j p (by omega) (by omega) q)
                      rw [folP_o hne, ← a2 j (by omega)]; simp [va_up, hne]
                  · have hne : g j ≠ g p := fun q => by have := hinj j p (by omega) (by omega) q; omega
                    rw [← a3 j (by omega) hq2]; simp [va_up, hne]
      refine L71 _ 0 _ _ _ (Nat.lt_succ_self _) (by omega) (fun s hs hb => ?_) (fun j hj => absurd hj (Nat.not_lt_zero _)) (fun j _ hj => ?_) (by simp [va_up]; rw [y1 106 (by simp)]; simp [va_up]) (by rw [if_neg c5]; simp [va_up]; rw [y1 106 (by simp)]; simp [va_up]) (by rw [← few_F c55]; simp [va_up]) (fun c q1 q2 q3 => by simp [va_up, q1]; rw [y1 c (by simpa using q3)]; simp [va_up, q1]) (fun k q1 q2 q3 => by simp [va_up, q3]; rw [y1 106 (by simp)]; simp [va_up, q1, q2])
      · simp [va_up]; rw [y1 122 (by simp)]; simp [va_up]; rw [hx.2.2.2 s hs]; exact if_pos (Or.inr hb)
      · simp [va_up]; rw [y1 122 (by simp)]; simp [va_up]; rw [hx.2.2.2 _ (hg6 j hj)]
        have hb := (hcov _ (hg6 j hj)).mpr ⟨j, hj, rfl⟩
        unfold afM
        by_cases h0 : x.1 = 0
        · rw [if_pos h0, if_pos (Or.inl h0)]
        · rw [if_neg h0, if_neg (fun z => z.elim h0 (fun z => by omega))]
  · refine q_aload_n G (pc := 8) dX11_comesRight_8 rfl ?_
    refine q_getR (x := 121) G (pc := 9) dX11_comesRight_9 fl_X11_56_10 rfl (hg hτ (hf_10_29 rfl)) ?_
    refine q_aload_n G (pc := 12) dX11_comesRight_12 rfl ?_
    refine q_getI (v := nI (m)) G (pc := 13) dX11_comesRight_13 fl_X11_212_10 (by decide) rfl h30 ?_
    refine q_cS2E G (pc := 16) dX11_comesRight_16 cs_X11_218 (m_numberOf (by omega) (c := 121) rfl hm6 hg0) (Nat.le_of_ble_eq_true rfl) ?_
    refine q_goto (tgt := 26) G (pc := 19) dX11_comesRight_19 (by decide) ?_
    refine q_putI G (pc := 26) dX11_comesRight_26 fl_X11_222_10 rfl ?_
    refine q_aload_n G (pc := 29) dX11_comesRight_29 rfl ?_
    refine q_dup G (pc := 30) dX11_comesRight_30 rfl ?_
    refine q_getI (v := x.1) G (pc := 31) dX11_comesRight_31 fl_X11_215_10 (by decide) rfl (by simp [va_up]; exact hx.1) ?_
    refine q_iconst (v := nI 1) G (pc := 34) dX11_comesRight_34 (by decide) ?_
    refine q_iadd G (pc := 35) dX11_comesRight_35 ?_
    refine q_putI G (pc := 36) dX11_comesRight_36 fl_X11_215_10 rfl ?_
    refine q_aload_n G (pc := 39) dX11_comesRight_39 rfl ?_
    refine q_getI (v := nI (m)) G (pc := 40) dX11_comesRight_40 fl_X11_212_10 (by decide) rfl (by simp [va_up]; exact h30) ?_
    refine q_aload_n G (pc := 43) dX11_comesRight_43 rfl ?_
    have hm1 : msc hi (mm_up2 (mm_up2 hi 106 32 (nI (numF g m))) 106 31 (x.1 + nI 1)) := (msc.fld (by omega) (by omega)).trans (msc.fld (by omega) (by omega))
    refine q_cV0I G (pc := 44) dX11_comesRight_44 cv_X11_225 rfl (m_longestStay (by omega) (hM.sc hm1) (m := m) (g := g) (by simp [va_up]; exact h30) (fun j hj => by simp [va_up]; exact hg0 j hj) hm6 hg6) (Nat.le_of_ble_eq_true rfl) ?_
    intro xs hk hx2
    obtain ⟨rfl, y1⟩ := hx2
    have hst := stF_le (pvO f n) g m
    refine q_isubN G (pc := 47) dX11_comesRight_47 (by omega) ?_
    refine q_istore_n G (pc := 48) dX11_comesRight_48 (by decide) ?_
    show X _ [_, _, _, _, _] _ _ _ _
    refine q_aload_n G (pc := 49) dX11_comesRight_49 rfl ?_
    refine q_iload_n G (pc := 50) dX11_comesRight_50 rfl ?_
    refine q_aload_n G (pc := 51) dX11_comesRight_51 rfl ?_
    refine q_getI (v := fwM x) G (pc := 52) dX11_comesRight_52 fl_X11_228_10 (by decide) rfl (by rw [y1 106 (by simp)]; simp [va_up]; exact hx.2.2.1) ?_
    refine q_icmp_ge (tgt := 62) G (pc := 55) dX11_comesRight_55 (by decide) (fun c55 => ?_) (fun c55 => ?_)
    · refine q_aload_n G (pc := 62) dX11_comesRight_62 rfl ?_
      refine q_getI (v := fwM x) G (pc := 63) dX11_comesRight_63 fl_X11_228_10 (by decide) rfl (by rw [y1 106 (by simp)]; simp [va_up]; exact hx.2.2.1) ?_
      refine q_putI G (pc := 66) dX11_comesRight_66 fl_X11_228_10 rfl ?_
      refine q_iconst (v := nI 0) G (pc := 69) dX11_comesRight_69 (by decide) ?_
      refine q_istore_n G (pc := 70) dX11_comesRight_70 (by decide) ?_
      show X _ [_, _, _, _, _] _ _ _ _
      have L71 : ∀ (zz : Nat) (p : Nat) (hj : mm_HI) (v3 v4 : Option Value), m - p < zz → p ≤ m → (∀ s, s < 6 → lf / 2 ^ s % 2 = 0 → hj 122 s = -1) → (∀ j, j < p → hj 122 (g j) = folP x.1 m g x.2.2.2 p (g j)) → (∀ j, p ≤ j → j < m → hj 122 (g j) = if x.1 = 0 then -1 else x.2.2.2 (g j)) → hj 106 31 = x.1 + nI 1 → hj 106 32 = (if x.1 = 0 then nI (numF g m) else x.2.1) → hj 106 33 = (if x.1 = 0 ∨ nI (m - stF (pvO f n) g m) < x.2.2.1 then nI (m - stF (pvO f n) g m) else x.2.2.1) → (∀ c, c ≠ 106 → c ≠ 122 → c ≠ 123 → hj c = hi c) → (∀ k, k ≠ 31 → k ≠ 32 → k ≠ 33 → hj 106 k = hi 106 k) → X 71 [some (.ref (106)), some (.int (nI (m - (stF (pvO f n) g m)))), some (.int (nI (p))), v3, v4] [] hj τ 125 := by
        intro zz
        induction zz with
        | zero => intro p hj v3 v4 hm; exact absurd hm (Nat.not_lt_zero _)
        | succ zz ih71 =>
          intro p hj v3 v4 hm h0 a1 a2 a3 a4 a5 a6 a7 a8
          refine q_iload_n G (pc := 71) dX11_comesRight_71 rfl ?_
          refine q_aload_n G (pc := 72) dX11_comesRight_72 rfl ?_
          refine q_getI (v := nI (m)) G (pc := 73) dX11_comesRight_73 fl_X11_212_10 (by decide) rfl (by rw [a8 30 (by decide) (by decide) (by decide)]; exact h30) ?_
          refine q_icmp_geN (tgt := 152) G (pc := 76) dX11_comesRight_76 (by decide) (by omega) (by omega) (fun c76 => ?_) (fun c76 => ?_)
          · refine q_vret G (pc := 152) dX11_comesRight_152 rfl ?_
            have hpm : m = p := by omega
            subst hpm
            refine ⟨rfl, rfl, ⟨a4, a5, ?_, fun s hs => ?_⟩, a7, a8⟩
            · rw [a6]; exact (if_neg hne0).symm
            · show hj 122 s = (if x.1 + nI 1 = 0 ∨ lf / 2 ^ s % 2 = 0 then -1 else folP x.1 m g x.2.2.2 m s)
              have hb2 := bit_lt2 lf s
              by_cases hb : lf / 2 ^ s % 2 = 1
              · rw [if_neg (fun z => z.elim hne0 (fun z => by omega))]
                obtain ⟨j, hj2, rfl⟩ := (hcov s hs).mp hb
                exact a2 j hj2
              · rw [if_pos (Or.inr (by omega))]
                exact a1 s hs (by omega)
          · refine q_iload_n G (pc := 79) dX11_comesRight_79 rfl ?_
            refine q_iconst (v := nI 1) G (pc := 80) dX11_comesRight_80 (by decide) ?_
            refine q_iaddN G (pc := 81) dX11_comesRight_81 ?_
            refine q_aload_n G (pc := 82) dX11_comesRight_82 rfl ?_
            refine q_getI (v := nI (m)) G (pc := 83) dX11_comesRight_83 fl_X11_212_10 (by decide) rfl (by rw [a8 30 (by decide) (by decide) (by decide)]; exact h30) ?_
            refine q_icmp_geN (tgt := 100) G (pc := 86) dX11_comesRight_86 (by decide) (by omega) (by omega) (fun c86 => ?_) (fun c86 => ?_)
            · refine q_bipush (v := -9) G (pc := 100) dX11_comesRight_100 (by decide) ?_
              refine q_istore_n G (pc := 102) dX11_comesRight_102 (by decide) ?_
              show X _ [_, _, _, _, _] _ _ _ _
              refine q_aload_n G (pc := 103) dX11_comesRight_103 rfl ?_
              refine q_getR (x := 121) G (pc := 104) dX11_comesRight_104 fl_X11_56_10 rfl (hg hτ (hf_10_29 rfl)) ?_
              refine q_iload_n G (pc := 107) dX11_comesRight_107 rfl ?_
              refine q_iald (j := p) (v := nI (g p)) G (pc := 108) dX11_comesRight_108 rfl rfl (by omega) (by rw [a7 121 (by decide) (by decide) (by decide)]; exact hg0 p (by omega)) ?_
              have hgp := hg6 p (by omega)
              refine q_istore G (pc := 109) dX11_comesRight_109 (by decide) ?_
              show X _ [_, _, _, _, _] _ _ _ _
              refine q_aload_n G (pc := 111) dX11_comesRight_111 rfl ?_
              refine q_getR (x := 122) G (pc := 112) dX11_comesRight_112 fl_X11_59_10 rfl (hg hτ (hf_10_34 rfl)) ?_
              refine q_iload G (pc := 115) dX11_comesRight_115 rfl ?_
              refine q_aload_n G (pc := 117) dX11_comesRight_117 rfl ?_
              refine q_getR (x := 122) G (pc := 118) dX11_comesRight_118 fl_X11_59_10 rfl (hg hτ (hf_10_34 rfl)) ?_
              refine q_iload G (pc := 121) dX11_comesRight_121 rfl ?_
              refine q_iald (j := g p) (v := if x.1 = 0 then -1 else x.2.2.2 (g p)) G (pc := 123) dX11_comesRight_123 rfl rfl (by omega) (a3 p (Nat.le_refl _) (by omega)) ?_
              refine q_iconst (v := -1) G (pc := 124) dX11_comesRight_124 (by decide) ?_
              refine q_icmp_eq (tgt := 139) G (pc := 125) dX11_comesRight_125 (by decide) (fun c125 => ?_) (fun c125 => ?_)
              · refine q_iload_n G (pc := 139) dX11_comesRight_139 rfl ?_
                refine q_goto (tgt := 145) G (pc := 140) dX11_comesRight_140 (by decide) ?_
                refine q_iast (j := g p) G (pc := 145) dX11_comesRight_145 rfl rfl (by omega) ?_
                refine q_iincN G (pc := 146) dX11_comesRight_146 rfl (inc1 _) (by decide) ?_
                show X _ [_, _, _, _, _] _ _ _ _
                refine q_goto (tgt := 71) G (pc := 149) dX11_comesRight_149 (by decide) ?_
                have eb : bhd m g p = -9 := if_neg (by omega)
                have e1 := fol_st (m := m) (p := p) (o := g) (fd := x.1) (g := x.2.2.2) (fun j hj2 q => by have := hinj j p (by omega) (by omega) q; omega) (fun q => hok q _ (hg6 p (by omega)) ((hcov _ (hg6 p (by omega))).mpr ⟨p, by omega, rfl⟩))
                rw [if_pos (Or.inl c125), eb] at e1
                refine ih71 (p + 1) _ _ _ (by omega) (by omega) (fun s hs hb => ?_) (fun j hq => ?_) (fun j hq1 hq2 => ?_) (by simp [va_up]; exact a4) (by simp [va_up]; exact a5) (by simp [va_up]; exact a6) (fun c q1 q2 q3 => by simp [va_up, q2]; exact a7 c q1 q2 q3) (fun k q1 q2 q3 => by simp [va_up]; exact a8 k q1 q2 q3)
                · have hne : s ≠ g p := fun q => by have := (hcov s hs).mpr ⟨p, by omega, q.symm⟩; omega
                  simp [va_up, hne]; exact a1 s hs hb
                · by_cases q1 : j = p
                  · rw [q1, e1]; simp [va_up]
                  · have hne : g j ≠ g p := fun q => q1 (hinj j p (by omega) (by omega) q)
                    rw [folP_o hne, ← a2 j (by omega)]; simp [va_up, hne]
                · have hne : g j ≠ g p := fun q => by have := hinj j p (by omega) (by omega) q; omega
                  rw [← a3 j (by omega) hq2]; simp [va_up, hne]
              · refine q_aload_n G (pc := 128) dX11_comesRight_128 rfl ?_
                refine q_getR (x := 122) G (pc := 129) dX11_comesRight_129 fl_X11_59_10 rfl (hg hτ (hf_10_34 rfl)) ?_
                refine q_iload G (pc := 132) dX11_comesRight_132 rfl ?_
                refine q_iald (j := g p) (v := if x.1 = 0 then -1 else x.2.2.2 (g p)) G (pc := 134) dX11_comesRight_134 rfl rfl (by omega) (a3 p (Nat.le_refl _) (by omega)) ?_
                refine q_iload_n G (pc := 135) dX11_comesRight_135 rfl ?_
                refine q_icmp_ne (tgt := 143) G (pc := 136) dX11_comesRight_136 (by decide) (fun c136 => ?_) (fun c136 => ?_)
                · refine q_bipush (v := -9) G (pc := 143) dX11_comesRight_143 (by decide) ?_
                  refine q_iast (j := g p) G (pc := 145) dX11_comesRight_145 rfl rfl (by omega) ?_
                  refine q_iincN G (pc := 146) dX11_comesRight_146 rfl (inc1 _) (by decide) ?_
                  show X _ [_, _, _, _, _] _ _ _ _
                  refine q_goto (tgt := 71) G (pc := 149) dX11_comesRight_149 (by decide) ?_
                  have eb : bhd m g p = -9 := if_neg (by omega)
                  have e1 := fol_st (m := m) (p := p) (o := g) (fd := x.1) (g := x.2.2.2) (fun j hj2 q => by have := hinj j p (by omega) (by omega) q; omega) (fun q => hok q _ (hg6 p (by omega)) ((hcov _ (hg6 p (by omega))).mpr ⟨p, by omega, rfl⟩))
                  rw [if_neg (fun z => z.elim c125 (fun z => c136 (z.trans eb)))] at e1
                  refine ih71 (p + 1) _ _ _ (by omega) (by omega) (fun s hs hb => ?_) (fun j hq => ?_) (fun j hq1 hq2 => ?_) (by simp [va_up]; exact a4) (by simp [va_up]; exact a5) (by simp [va_up]; exact a6) (fun c q1 q2 q3 => by simp [va_up, q2]; exact a7 c q1 q2 q3) (fun k q1 q2 q3 => by simp [va_up]; exact a8 k q1 q2 q3)
                  · have hne : s ≠ g p := fun q => by have := (hcov s hs).mpr ⟨p, by omega, q.symm⟩; omega
                    simp [va_up, hne]; exact a1 s hs hb
                  · by_cases q1 : j = p
                    · rw [q1, e1]; simp [va_up]
                    · have hne : g j ≠ g p := fun q => q1 (hinj j p (by omega) (by omega) q)
                      rw [folP_o hne, ← a2 j (by omega)]; simp [va_up, hne]
                  · have hne : g j ≠ g p := fun q => by have := hinj j p (by omega) (by omega) q; omega
                    rw [← a3 j (by omega) hq2]; simp [va_up, hne]
                · refine q_iload_n G (pc := 139) dX11_comesRight_139 rfl ?_
                  refine q_goto (tgt := 145) G (pc := 140) dX11_comesRight_140 (by decide) ?_
                  refine q_iast (j := g p) G (pc := 145) dX11_comesRight_145 rfl rfl (by omega) ?_
                  refine q_iincN G (pc := 146) dX11_comesRight_146 rfl (inc1 _) (by decide) ?_
                  show X _ [_, _, _, _, _] _ _ _ _
                  refine q_goto (tgt := 71) G (pc := 149) dX11_comesRight_149 (by decide) ?_
                  have eb : bhd m g p = -9 := if_neg (by omega)
                  have e1 := fol_st (m := m) (p := p) (o := g) (fd := x.1) (g := x.2.2.2) (fun j hj2 q => by have := hinj j p (by omega) (by omega) q; omega) (fun q => hok q _ (hg6 p (by omega)) ((hcov _ (hg6 p (by omega))).mpr ⟨p, by omega, rfl⟩))
                  rw [if_pos (Or.inr (c136.trans eb.symm)), eb] at e1
                  refine ih71 (p + 1) _ _ _ (by omega) (by omega) (fun s hs hb => ?_) (fun j hq => ?_) (fun j hq1 hq2 => ?_) (by simp [va_up]; exact a4) (by simp [va_up]; exact a5) (by simp [va_up]; exact a6) (fun c q1 q2 q3 => by simp [va_up, q2]; exact a7 c q1 q2 q3) (fun k q1 q2 q3 => by simp [va_up]; exact a8 k q1 q2 q3)
                  · have hne : s ≠ g p := fun q => by have := (hcov s hs).mpr ⟨p, by omega, q.symm⟩; omega
                    simp [va_up, hne]; exact a1 s hs hb
                  · by_cases q1 : j = p
                    · rw [q1, e1]; simp [va_up]
                    · have hne : g j ≠ g p := fun q => q1 (hinj j p (by omega) (by omega) q)
                      rw [folP_o hne, ← a2 j (by omega)]; simp [va_up, hne]
                  · have hne : g j ≠ g p := fun q => by have := hinj j p (by omega) (by omega) q; omega
                    rw [← a3 j (by omega) hq2]; simp [va_up, hne]
            · refine q_aload_n G (pc := 89) dX11_comesRight_89 rfl ?_
              refine q_getR (x := 121) G (pc := 90) dX11_comesRight_90 fl_X11_56_10 rfl (hg hτ (hf_10_29 rfl)) ?_
              refine q_iload_n G (pc := 93) dX11_comesRight_93 rfl ?_
              refine q_iconst (v := nI 1) G (pc := 94) dX11_comesRight_94 (by decide) ?_
              refine q_iaddN G (pc := 95) dX11_comesRight_95 ?_
              refine q_iald (j := p + 1) (v := nI (g (p + 1))) G (pc := 96) dX11_comesRight_96 rfl rfl (by omega) (by rw [a7 121 (by decide) (by decide) (by decide)]; exact hg0 (p + 1) (by omega)) ?_
              refine q_goto (tgt := 102) G (pc := 97) dX11_comesRight_97 (by decide) ?_
              refine q_istore_n G (pc := 102) dX11_comesRight_102 (by decide) ?_
              show X _ [_, _, _, _, _] _ _ _ _
              refine q_aload_n G (pc := 103) dX11_comesRight_103 rfl ?_
              refine q_getR (x := 121) G (pc := 104) dX11_comesRight_104 fl_X11_56_10 rfl (hg hτ (hf_10_29 rfl)) ?_
              refine q_iload_n G (pc := 107) dX11_comesRight_107 rfl ?_
              refine q_iald (j := p) (v := nI (g p)) G (pc := 108) dX11_comesRight_108 rfl rfl (by omega) (by rw [a7 121 (by decide) (by decide) (by decide)]; exact hg0 p (by omega)) ?_
              have hgp := hg6 p (by omega)
              refine q_istore G (pc := 109) dX11_comesRight_109 (by decide) ?_
              show X _ [_, _, _, _, _] _ _ _ _
              refine q_aload_n G (pc := 111) dX11_comesRight_111 rfl ?_
              refine q_getR (x := 122) G (pc := 112) dX11_comesRight_112 fl_X11_59_10 rfl (hg hτ (hf_10_34 rfl)) ?_
              refine q_iload G (pc := 115) dX11_comesRight_115 rfl ?_
              refine q_aload_n G (pc := 117) dX11_comesRight_117 rfl ?_
              refine q_getR (x := 122) G (pc := 118) dX11_comesRight_118 fl_X11_59_10 rfl (hg hτ (hf_10_34 rfl)) ?_
              refine q_iload G (pc := 121) dX11_comesRight_121 rfl ?_
              refine q_iald (j := g p) (v := if x.1 = 0 then -1 else x.2.2.2 (g p)) G (pc := 123) dX11_comesRight_123 rfl rfl (by omega) (a3 p (Nat.le_refl _) (by omega)) ?_
              refine q_iconst (v := -1) G (pc := 124) dX11_comesRight_124 (by decide) ?_
              refine q_icmp_eq (tgt := 139) G (pc := 125) dX11_comesRight_125 (by decide) (fun c125 => ?_) (fun c125 => ?_)
              · refine q_iload_n G (pc := 139) dX11_comesRight_139 rfl ?_
                refine q_goto (tgt := 145) G (pc := 140) dX11_comesRight_140 (by decide) ?_
                refine q_iast (j := g p) G (pc := 145) dX11_comesRight_145 rfl rfl (by omega) ?_
                refine q_iincN G (pc := 146) dX11_comesRight_146 rfl (inc1 _) (by decide) ?_
                show X _ [_, _, _, _, _] _ _ _ _
                refine q_goto (tgt := 71) G (pc := 149) dX11_comesRight_149 (by decide) ?_
                have eb : bhd m g p = nI (g (p + 1)) := if_pos (by omega)
                have e1 := fol_st (m := m) (p := p) (o := g) (fd := x.1) (g := x.2.2.2) (fun j hj2 q => by have := hinj j p (by omega) (by omega) q; omega) (fun q => hok q _ (hg6 p (by omega)) ((hcov _ (hg6 p (by omega))).mpr ⟨p, by omega, rfl⟩))
                rw [if_pos (Or.inl c125), eb] at e1
                refine ih71 (p + 1) _ _ _ (by omega) (by omega) (fun s hs hb => ?_) (fun j hq => ?_) (fun j hq1 hq2 => ?_) (by simp [va_up]; exact a4) (by simp [va_up]; exact a5) (by simp [va_up]; exact a6) (fun c q1 q2 q3 => by simp [va_up, q2]; exact a7 c q1 q2 q3) (fun k q1 q2 q3 => by simp [va_up]; exact a8 k q1 q2 q3)
                · have hne : s ≠ g p := fun q => by have := (hcov s hs).mpr ⟨p, by omega, q.symm⟩; omega
                  simp [va_up, hne]; exact a1 s hs hb
                · by_cases q1 : j = p
                  · rw [q1, e1]; simp [va_up]
                  · have hne : g j ≠ g p := fun q => q1 (hinj j p (by omega) (by omega) q)
                    rw [folP_o hne, ← a2 j (by omega)]; simp [va_up, hne]
                · have hne : g j ≠ g p := fun q => by have := hinj j p (by omega) (by omega) q; omega
                  rw [← a3 j (by omega) hq2]; simp [va_up, hne]
              · refine q_aload_n G (pc := 128) dX11_comesRight_128 rfl ?_
                refine q_getR (x := 122) G (pc := 129) dX11_comesRight_129 fl_X11_59_10 rfl (hg hτ (hf_10_34 rfl)) ?_
                refine q_iload G (pc := 132) dX11_comesRight_132 rfl ?_
                refine q_iald (j := g p) (v := if x.1 = 0 then -1 else x.2.2.2 (g p)) G (pc := 134) dX11_comesRight_134 rfl rfl (by omega) (a3 p (Nat.le_refl _) (by omega)) ?_
                refine q_iload_n G (pc := 135) dX11_comesRight_135 rfl ?_
                refine q_icmp_ne (tgt := 143) G (pc := 136) dX11_comesRight_136 (by decide) (fun c136 => ?_) (fun c136 => ?_)
                · refine q_bipush (v := -9) G (pc := 143) dX11_comesRight_143 (by decide) ?_
                  refine q_iast (j := g p) G (pc := 145) dX11_comesRight_145 rfl rfl (by omega) ?_
                  refine q_iincN G (pc := 146) dX11_comesRight_146 rfl (inc1 _) (by decide) ?_
                  show X _ [_, _, _, _, _] _ _ _ _
                  refine q_goto (tgt := 71) G (pc := 149) dX11_comesRight_149 (by decide) ?_
                  have eb : bhd m g p = nI (g (p + 1)) := if_pos (by omega)
                  have e1 := fol_st (m := m) (p := p) (o := g) (fd := x.1) (g := x.2.2.2) (fun j hj2 q => by have := hinj j p (by omega) (by omega) q; omega) (fun q => hok q _ (hg6 p (by omega)) ((hcov _ (hg6 p (by omega))).mpr ⟨p, by omega, rfl⟩))
                  rw [if_neg (fun z => z.elim c125 (fun z => c136 (z.trans eb)))] at e1
                  refine ih71 (p + 1) _ _ _ (by omega) (by omega) (fun s hs hb => ?_) (fun j hq => ?_) (fun j hq1 hq2 => ?_) (by simp [va_up]; exact a4) (by simp [va_up]; exact a5) (by simp [va_up]; exact a6) (fun c q1 q2 q3 => by simp [va_up, q2]; exact a7 c q1 q2 q3) (fun k q1 q2 q3 => by simp [va_up]; exact a8 k q1 q2 q3)
                  · have hne : s ≠ g p := fun q => by have := (hcov s hs).mpr ⟨p, by omega, q.symm⟩; omega
                    simp [va_up, hne]; exact a1 s hs hb
                  · by_cases q1 : j = p
                    · rw [q1, e1]; simp [va_up]
                    · have hne : g j ≠ g p := fun q => q1 (hinj j p (by omega) (by omega) q)
                      rw [folP_o hne, ← a2 j (by omega)]; simp [va_up, hne]
                  · have hne : g j ≠ g p := fun q => by have := hinj j p (by omega) (by omega) q; omega
                    rw [← a3 j (by omega) hq2]; simp [va_up, hne]
                · refine q_iload_n G (pc := 139) dX11_comesRight_139 rfl ?_
                  refine q_goto (tgt := 145) G (pc := 140) dX11_comesRight_140 (by decide) ?_
                  refine q_iast (j := g p) G (pc := 145) dX11_comesRight_145 rfl rfl (by omega) ?_
                  refine q_iincN G (pc := 146) dX11_comesRight_146 rfl (inc1 _) (by decide) ?_
                  show X _ [_, _, _, _, _] _ _ _ _
                  refine q_goto (tgt := 71) G (pc := 149) dX11_comesRight_149 (by decide) ?_
                  have eb : bhd m g p = nI (g (p + 1)) := if_pos (by omega)
                  have e1 := fol_st (m := m) (p := p) (o := g) (fd := x.1) (g := x.2.2.2) (fun j hj2 q => by have := hinj j p (by omega) (by omega) q; omega) (fun q => hok q _ (hg6 p (by omega)) ((hcov _ (hg6 p (by omega))).mpr ⟨p, by omega, rfl⟩))
                  rw [if_pos (Or.inr (c136.trans eb.symm)), eb] at e1
                  refine ih71 (p + 1) _ _ _ (by omega) (by omega) (fun s hs hb => ?_) (fun j hq => ?_) (fun j hq1 hq2 => ?_) (by simp [va_up]; exact a4) (by simp [va_up]; exact a5) (by simp [va_up]; exact a6) (fun c q1 q2 q3 => by simp [va_up, q2]; exact a7 c q1 q2 q3) (fun k q1 q2 q3 => by simp [va_up]; exact a8 k q1 q2 q3)
                  · have hne : s ≠ g p := fun q => by have := (hcov s hs).mpr ⟨p, by omega, q.symm⟩; omega
                    simp [va_up, hne]; exact a1 s hs hb
                  · by_cases q1 : j = p
                    · rw [q1, e1]; simp [va_up]
                    · have hne : g j ≠ g p := fun q => q1 (hinj j p (by omega) (by omega) q)
                      rw [folP_o hne, ← a2 j (by omega)]; simp [va_up, hne]
                  · have hne : g j ≠ g p := fun q => by have := hinj j p (by omega) (by omega) q; omega
                    rw [← a3 j (by omega) hq2]; simp [va_up, hne]
      refine L71 _ 0 _ _ _ (Nat.lt_succ_self _) (by omega) (fun s hs hb => ?_) (fun j hj => absurd hj (Nat.not_lt_zero _)) (fun j _ hj => ?_) (by simp [va_up]; rw [y1 106 (by simp)]; simp [va_up]) (by rw [if_pos c5]; simp [va_up]; rw [y1 106 (by simp)]; simp [va_up]) (by simp [va_up]; exact few_T (by omega) c55) (fun c q1 q2 q3 => by simp [va_up, q1]; rw [y1 c (by simpa using q3)]; simp [va_up, q1]) (fun k q1 q2 q3 => by simp [va_up, q3]; rw [y1 106 (by simp)]; simp [va_up, q1, q2])
      · simp [va_up]; rw [y1 122 (by simp)]; simp [va_up]; rw [hx.2.2.2 s hs]; exact if_pos (Or.inr hb)
      · simp [va_up]; rw [y1 122 (by simp)]; simp [va_up]; rw [hx.2.2.2 _ (hg6 j hj)]
        have hb := (hcov _ (hg6 j hj)).mpr ⟨j, hj, rfl⟩
        unfold afM
        by_cases h0 : x.1 = 0
        · rw [if_pos h0, if_pos (Or.inl h0)]
        · rw [if_neg h0, if_neg (fun z => z.elim h0 (fun z => by omega))]
    · refine q_iload_n G (pc := 58) dX11_comesRight_58 rfl ?_
      refine q_goto (tgt := 66) G (pc := 59) dX11_comesRight_59 (by decide) ?_
      refine q_putI G (pc := 66) dX11_comesRight_66 fl_X11_228_10 rfl ?_
      refine q_iconst (v := nI 0) G (pc := 69) dX11_comesRight_69 (by decide) ?_
      refine q_istore_n G (pc := 70) dX11_comesRight_70 (by decide) ?_
      show X _ [_, _, _, _, _] _ _ _ _
      have L71 : ∀ (zz : Nat) (p : Nat) (hj : mm_HI) (v3 v4 : Option Value), m - p < zz → p ≤ m → (∀ s, s < 6 → lf / 2 ^ s % 2 = 0 → hj 122 s = -1) → (∀ j, j < p → hj 122 (g j) = folP x.1 m g x.2.2.2 p (g j)) → (∀ j, p ≤ j → j < m → hj 122 (g j) = if x.1 = 0 then -1 else x.2.2.2 (g j)) → hj 106 31 = x.1 + nI 1 → hj 106 32 = (if x.1 = 0 then nI (numF g m) else x.2.1) → hj 106 33 = (if x.1 = 0 ∨ nI (m - stF (pvO f n) g m) < x.2.2.1 then nI (m - stF (pvO f n) g m) else x.2.2.1) → (∀ c, c ≠ 106 → c ≠ 122 → c ≠ 123 → hj c = hi c) → (∀ k, k ≠ 31 → k ≠ 32 → k ≠ 33 → hj 106 k = hi 106 k) → X 71 [some (.ref (106)), some (.int (nI (m - (stF (pvO f n) g m)))), some (.int (nI (p))), v3, v4] [] hj τ 125 := by
        intro zz
        induction zz with
        | zero => intro p hj v3 v4 hm; exact absurd hm (Nat.not_lt_zero _)
        | succ zz ih71 =>
          intro p hj v3 v4 hm h0 a1 a2 a3 a4 a5 a6 a7 a8
          refine q_iload_n G (pc := 71) dX11_comesRight_71 rfl ?_
          refine q_aload_n G (pc := 72) dX11_comesRight_72 rfl ?_
          refine q_getI (v := nI (m)) G (pc := 73) dX11_comesRight_73 fl_X11_212_10 (by decide) rfl (by rw [a8 30 (by decide) (by decide) (by decide)]; exact h30) ?_
          refine q_icmp_geN (tgt := 152) G (pc := 76) dX11_comesRight_76 (by decide) (by omega) (by omega) (fun c76 => ?_) (fun c76 => ?_)
          · refine q_vret G (pc := 152) dX11_comesRight_152 rfl ?_
            have hpm : m = p := by omega
            subst hpm
            refine ⟨rfl, rfl, ⟨a4, a5, ?_, fun s hs => ?_⟩, a7, a8⟩
            · rw [a6]; exact (if_neg hne0).symm
            · show hj 122 s = (if x.1 + nI 1 = 0 ∨ lf / 2 ^ s % 2 = 0 then -1 else folP x.1 m g x.2.2.2 m s)
              have hb2 := bit_lt2 lf s
              by_cases hb : lf / 2 ^ s % 2 = 1
              · rw [if_neg (fun z => z.elim hne0 (fun z => by omega))]
                obtain ⟨j, hj2, rfl⟩ := (hcov s hs).mp hb
                exact a2 j hj2
              · rw [if_pos (Or.inr (by omega))]
                exact a1 s hs (by omega)
          · refine q_iload_n G (pc := 79) dX11_comesRight_79 rfl ?_
            refine q_iconst (v := nI 1) G (pc := 80) dX11_comesRight_80 (by decide) ?_
            refine q_iaddN G (pc := 81) dX11_comesRight_81 ?_
            refine q_aload_n G (pc := 82) dX11_comesRight_82 rfl ?_
            refine q_getI (v := nI (m)) G (pc := 83) dX11_comesRight_83 fl_X11_212_10 (by decide) rfl (by rw [a8 30 (by decide) (by decide) (by decide)]; exact h30) ?_
            refine q_icmp_geN (tgt := 100) G (pc := 86) dX11_comesRight_86 (by decide) (by omega) (by omega) (fun c86 => ?_) (fun c86 => ?_)
            · refine q_bipush (v := -9) G (pc := 100) dX11_comesRight_100 (by decide) ?_
              refine q_istore_n G (pc := 102) dX11_comesRight_102 (by decide) ?_
              show X _ [_, _, _, _, _] _ _ _ _
              refine q_aload_n G (pc := 103) dX11_comesRight_103 rfl ?_
              refine q_getR (x := 121) G (pc := 104) dX11_comesRight_104 fl_X11_56_10 rfl (hg hτ (hf_10_29 rfl)) ?_
              refine q_iload_n G (pc := 107) dX11_comesRight_107 rfl ?_
              refine q_iald (j := p) (v := nI (g p)) G (pc := 108) dX11_comesRight_108 rfl rfl (by omega) (by rw [a7 121 (by decide) (by decide) (by decide)]; exact hg0 p (by omega)) ?_
              have hgp := hg6 p (by omega)
              refine q_istore G (pc := 109) dX11_comesRight_109 (by decide) ?_
              show X _ [_, _, _, _, _] _ _ _ _
              refine q_aload_n G (pc := 111) dX11_comesRight_111 rfl ?_
              refine q_getR (x := 122) G (pc := 112) dX11_comesRight_112 fl_X11_59_10 rfl (hg hτ (hf_10_34 rfl)) ?_
              refine q_iload G (pc := 115) dX11_comesRight_115 rfl ?_
              refine q_aload_n G (pc := 117) dX11_comesRight_117 rfl ?_
              refine q_getR (x := 122) G (pc := 118) dX11_comesRight_118 fl_X11_59_10 rfl (hg hτ (hf_10_34 rfl)) ?_
              refine q_iload G (pc := 121) dX11_comesRight_121 rfl ?_
              refine q_iald (j := g p) (v := if x.1 = 0 then -1 else x.2.2.2 (g p)) G (pc := 123) dX11_comesRight_123 rfl rfl (by omega) (a3 p (Nat.le_refl _) (by omega)) ?_
              refine q_iconst (v := -1) G (pc := 124) dX11_comesRight_124 (by decide) ?_
              refine q_icmp_eq (tgt := 139) G (pc := 125) dX11_comesRight_125 (by decide) (fun c125 => ?_) (fun c125 => ?_)
              · refine q_iload_n G (pc := 139) dX11_comesRight_139 rfl ?_
                refine q_goto (tgt := 145) G (pc := 140) dX11_comesRight_140 (by decide) ?_
                refine q_iast (j := g p) G (pc := 145) dX11_comesRight_145 rfl rfl (by omega) ?_
                refine q_iincN G (pc := 146) dX11_comesRight_146 rfl (inc1 _) (by decide) ?_
                show X _ [_, _, _, _, _] _ _ _ _
                refine q_goto (tgt := 71) G (pc := 149) dX11_comesRight_149 (by decide) ?_
                have eb : bhd m g p = -9 := if_neg (by omega)
                have e1 := fol_st (m := m) (p := p) (o := g) (fd := x.1) (g := x.2.2.2) (fun j hj2 q => by have := hinj j p (by omega) (by omega) q; omega) (fun q => hok q _ (hg6 p (by omega)) ((hcov _ (hg6 p (by omega))).mpr ⟨p, by omega, rfl⟩))
                rw [if_pos (Or.inl c125), eb] at e1
                refine ih71 (p + 1) _ _ _ (by omega) (by omega) (fun s hs hb => ?_) (fun j hq => ?_) (fun j hq1 hq2 => ?_) (by simp [va_up]; exact a4) (by simp [va_up]; exact a5) (by simp [va_up]; exact a6) (fun c q1 q2 q3 => by simp [va_up, q2]; exact a7 c q1 q2 q3) (fun k q1 q2 q3 => by simp [va_up]; exact a8 k q1 q2 q3)
                · have hne : s ≠ g p := fun q => by have := (hcov s hs).mpr ⟨p, by omega, q.symm⟩; omega
                  simp [va_up, hne]; exact a1 s hs hb
                · by_cases q1 : j = p
                  · rw [q1, e1]; simp [va_up]
                  · have hne : g j ≠ g p := fun q => q1 (hinj j p (by omega) (by omega) q)
                    rw [folP_o hne, ← a2 j (by omega)]; simp [va_up, hne]
                · have hne : g j ≠ g p := fun q => by have := hinj j p (by omega) (by omega) q; omega
                  rw [← a3 j (by omega) hq2]; simp [va_up, hne]
              · refine q_aload_n G (pc := 128) dX11_comesRight_128 rfl ?_
                refine q_getR (x := 122) G (pc := 129) dX11_comesRight_129 fl_X11_59_10 rfl (hg hτ (hf_10_34 rfl)) ?_
                refine q_iload G (pc := 132) dX11_comesRight_132 rfl ?_
                refine q_iald (j := g p) (v := if x.1 = 0 then -1 else x.2.2.2 (g p)) G (pc := 134) dX11_comesRight_134 rfl rfl (by omega) (a3 p (Nat.le_refl _) (by omega)) ?_
                refine q_iload_n G (pc := 135) dX11_comesRight_135 rfl ?_
                refine q_icmp_ne (tgt := 143) G (pc := 136) dX11_comesRight_136 (by decide) (fun c136 => ?_) (fun c136 => ?_)
                · refine q_bipush (v := -9) G (pc := 143) dX11_comesRight_143 (by decide) ?_
                  refine q_iast (j := g p) G (pc := 145) dX11_comesRight_145 rfl rfl (by omega) ?_
                  refine q_iincN G (pc := 146) dX11_comesRight_146 rfl (inc1 _) (by decide) ?_
                  show X _ [_, _, _, _, _] _ _ _ _
                  refine q_goto (tgt := 71) G (pc := 149) dX11_comesRight_149 (by decide) ?_
                  have eb : bhd m g p = -9 := if_neg (by omega)
                  have e1 := fol_st (m := m) (p := p) (o := g) (fd := x.1) (g := x.2.2.2) (fun j hj2 q => by have := hinj j p (by omega) (by omega) q; omega) (fun q => hok q _ (hg6 p (by omega)) ((hcov _ (hg6 p (by omega))).mpr ⟨p, by omega, rfl⟩))
                  rw [if_neg (fun z => z.elim c125 (fun z => c136 (z.trans eb)))] at e1
                  refine ih71 (p + 1) _ _ _ (by omega) (by omega) (fun s hs hb => ?_) (fun j hq => ?_) (fun j hq1 hq2 => ?_) (by simp [va_up]; exact a4) (by simp [va_up]; exact a5) (by simp [va_up]; exact a6) (fun c q1 q2 q3 => by simp [va_up, q2]; exact a7 c q1 q2 q3) (fun k q1 q2 q3 => by simp [va_up]; exact a8 k q1 q2 q3)
                  · have hne : s ≠ g p := fun q => by have := (hcov s hs).mpr ⟨p, by omega, q.symm⟩; omega
                    simp [va_up, hne]; exact a1 s hs hb
                  · by_cases q1 : j = p
                    · rw [q1, e1]; simp [va_up]
                    · have hne : g j ≠ g p := fun q => q1 (hinj j p (by omega) (by omega) q)
                      rw [folP_o hne, ← a2 j (by omega)]; simp [va_up, hne]
                  · have hne : g j ≠ g p := fun q => by have := hinj j p (by omega) (by omega) q; omega
                    rw [← a3 j (by omega) hq2]; simp [va_up, hne]
                · refine q_iload_n G (pc := 139) dX11_comesRight_139 rfl ?_
                  refine q_goto (tgt := 145) G (pc := 140) dX11_comesRight_140 (by decide) ?_
                  refine q_iast (j := g p) G (pc := 145) dX11_comesRight_145 rfl rfl (by omega) ?_
                  refine q_iincN G (pc := 146) dX11_comesRight_146 rfl (inc1 _) (by decide) ?_
                  show X _ [_, _, _, _, _] _ _ _ _
                  refine q_goto (tgt := 71) G (pc := 149) dX11_comesRight_149 (by decide) ?_
                  have eb : bhd m g p = -9 := if_neg (by omega)
                  have e1 := fol_st (m := m) (p := p) (o := g) (fd := x.1) (g := x.2.2.2) (fun j hj2 q => by have := hinj j p (by omega) (by omega) q; omega) (fun q => hok q _ (hg6 p (by omega)) ((hcov _ (hg6 p (by omega))).mpr ⟨p, by omega, rfl⟩))
                  rw [if_pos (Or.inr (c136.trans eb.symm)), eb] at e1
                  refine ih71 (p + 1) _ _ _ (by omega) (by omega) (fun s hs hb => ?_) (fun j hq => ?_) (fun j hq1 hq2 => ?_) (by simp [va_up]; exact a4) (by simp [va_up]; exact a5) (by simp [va_up]; exact a6) (fun c q1 q2 q3 => by simp [va_up, q2]; exact a7 c q1 q2 q3) (fun k q1 q2 q3 => by simp [va_up]; exact a8 k q1 q2 q3)
                  · have hne : s ≠ g p := fun q => by have := (hcov s hs).mpr ⟨p, by omega, q.symm⟩; omega
                    simp [va_up, hne]; exact a1 s hs hb
                  · by_cases q1 : j = p
                    · rw [q1, e1]; simp [va_up]
                    · have hne : g j ≠ g p := fun q => q1 (hinj j p (by omega) (by omega) q)
                      rw [folP_o hne, ← a2 j (by omega)]; simp [va_up, hne]
                  · have hne : g j ≠ g p := fun q => by have := hinj j p (by omega) (by omega) q; omega
                    rw [← a3 j (by omega) hq2]; simp [va_up, hne]
            · refine q_aload_n G (pc := 89) dX11_comesRight_89 rfl ?_
              refine q_getR (x := 121) G (pc := 90) dX11_comesRight_90 fl_X11_56_10 rfl (hg hτ (hf_10_29 rfl)) ?_
              refine q_iload_n G (pc := 93) dX11_comesRight_93 rfl ?_
              refine q_iconst (v := nI 1) G (pc := 94) dX11_comesRight_94 (by decide) ?_
              refine q_iaddN G (pc := 95) dX11_comesRight_95 ?_
              refine q_iald (j := p + 1) (v := nI (g (p + 1))) G (pc := 96) dX11_comesRight_96 rfl rfl (by omega) (by rw [a7 121 (by decide) (by decide) (by decide)]; exact hg0 (p + 1) (by omega)) ?_
              refine q_goto (tgt := 102) G (pc := 97) dX11_comesRight_97 (by decide) ?_
              refine q_istore_n G (pc := 102) dX11_comesRight_102 (by decide) ?_
              show X _ [_, _, _, _, _] _ _ _ _
              refine q_aload_n G (pc := 103) dX11_comesRight_103 rfl ?_
              refine q_getR (x := 121) G (pc := 104) dX11_comesRight_104 fl_X11_56_10 rfl (hg hτ (hf_10_29 rfl)) ?_
              refine q_iload_n G (pc := 107) dX11_comesRight_107 rfl ?_
              refine q_iald (j := p) (v := nI (g p)) G (pc := 108) dX11_comesRight_108 rfl rfl (by omega) (by rw [a7 121 (by decide) (by decide) (by decide)]; exact hg0 p (by omega)) ?_
              have hgp := hg6 p (by omega)
              refine q_istore G (pc := 109) dX11_comesRight_109 (by decide) ?_
              show X _ [_, _, _, _, _] _ _ _ _
              refine q_aload_n G (pc := 111) dX11_comesRight_111 rfl ?_
              refine q_getR (x := 122) G (pc := 112) dX11_comesRight_112 fl_X11_59_10 rfl (hg hτ (hf_10_34 rfl)) ?_
              refine q_iload G (pc := 115) dX11_comesRight_115 rfl ?_
              refine q_aload_n G (pc := 117) dX11_comesRight_117 rfl ?_
              refine q_getR (x := 122) G (pc := 118) dX11_comesRight_118 fl_X11_59_10 rfl (hg hτ (hf_10_34 rfl)) ?_
              refine q_iload G (pc := 121) dX11_comesRight_121 rfl ?_
              refine q_iald (j := g p) (v := if x.1 = 0 then -1 else x.2.2.2 (g p)) G (pc := 123) dX11_comesRight_123 rfl rfl (by omega) (a3 p (Nat.le_refl _) (by omega)) ?_
              refine q_iconst (v := -1) G (pc := 124) dX11_comesRight_124 (by decide) ?_
              refine q_icmp_eq (tgt := 139) G (pc := 125) dX11_comesRight_125 (by decide) (fun c125 => ?_) (fun c125 => ?_)
              · refine q_iload_n G (pc := 139) dX11_comesRight_139 rfl ?_
                refine q_goto (tgt := 145) G (pc := 140) dX11_comesRight_140 (by decide) ?_
                refine q_iast (j := g p) G (pc := 145) dX11_comesRight_145 rfl rfl (by omega) ?_
                refine q_iincN G (pc := 146) dX11_comesRight_146 rfl (inc1 _) (by decide) ?_
                show X _ [_, _, _, _, _] _ _ _ _
                refine q_goto (tgt := 71) G (pc := 149) dX11_comesRight_149 (by decide) ?_
                have eb : bhd m g p = nI (g (p + 1)) := if_pos (by omega)
                have e1 := fol_st (m := m) (p := p) (o := g) (fd := x.1) (g := x.2.2.2) (fun j hj2 q => by have := hinj j p (by omega) (by omega) q; omega) (fun q => hok q _ (hg6 p (by omega)) ((hcov _ (hg6 p (by omega))).mpr ⟨p, by omega, rfl⟩))
                rw [if_pos (Or.inl c125), eb] at e1
                refine ih71 (p + 1) _ _ _ (by omega) (by omega) (fun s hs hb => ?_) (fun j hq => ?_) (fun j hq1 hq2 => ?_) (by simp [va_up]; exact a4) (by simp [va_up]; exact a5) (by simp [va_up]; exact a6) (fun c q1 q2 q3 => by simp [va_up, q2]; exact a7 c q1 q2 q3) (fun k q1 q2 q3 => by simp [va_up]; exact a8 k q1 q2 q3)
                · have hne : s ≠ g p := fun q => by have := (hcov s hs).mpr ⟨p, by omega, q.symm⟩; omega
                  simp [va_up, hne]; exact a1 s hs hb
                · by_cases q1 : j = p
                  · rw [q1, e1]; simp [va_up]
                  · have hne : g j ≠ g p := fun q => q1 (hinj j p (by omega) (by omega) q)
                    rw [folP_o hne, ← a2 j (by omega)]; simp [va_up, hne]
                · have hne : g j ≠ g p := fun q => by have := hinj j p (by omega) (by omega) q; omega
                  rw [← a3 j (by omega) hq2]; simp [va_up, hne]
              · refine q_aload_n G (pc := 128) dX11_comesRight_128 rfl ?_
                refine q_getR (x := 122) G (pc := 129) dX11_comesRight_129 fl_X11_59_10 rfl (hg hτ (hf_10_34 rfl)) ?_
                refine q_iload G (pc := 132) dX11_comesRight_132 rfl ?_
                refine q_iald (j := g p) (v := if x.1 = 0 then -1 else x.2.2.2 (g p)) G (pc := 134) dX11_comesRight_134 rfl rfl (by omega) (a3 p (Nat.le_refl _) (by omega)) ?_
                refine q_iload_n G (pc := 135) dX11_comesRight_135 rfl ?_
                refine q_icmp_ne (tgt := 143) G (pc := 136) dX11_comesRight_136 (by decide) (fun c136 => ?_) (fun c136 => ?_)
                · refine q_bipush (v := -9) G (pc := 143) dX11_comesRight_143 (by decide) ?_
                  refine q_iast (j := g p) G (pc := 145) dX11_comesRight_145 rfl rfl (by omega) ?_
                  refine q_iincN G (pc := 146) dX11_comesRight_146 rfl (inc1 _) (by decide) ?_
                  show X _ [_, _, _, _, _] _ _ _ _
                  refine q_goto (tgt := 71) G (pc := 149) dX11_comesRight_149 (by decide) ?_
                  have eb : bhd m g p = nI (g (p + 1)) := if_pos (by omega)
                  have e1 := fol_st (m := m) (p := p) (o := g) (fd := x.1) (g := x.2.2.2) (fun j hj2 q => by have := hinj j p (by omega) (by omega) q; omega) (fun q => hok q _ (hg6 p (by omega)) ((hcov _ (hg6 p (by omega))).mpr ⟨p, by omega, rfl⟩))
                  rw [if_neg (fun z => z.elim c125 (fun z => c136 (z.trans eb)))] at e1
                  refine ih71 (p + 1) _ _ _ (by omega) (by omega) (fun s hs hb => ?_) (fun j hq => ?_) (fun j hq1 hq2 => ?_) (by simp [va_up]; exact a4) (by simp [va_up]; exact a5) (by simp [va_up]; exact a6) (fun c q1 q2 q3 => by simp [va_up, q2]; exact a7 c q1 q2 q3) (fun k q1 q2 q3 => by simp [va_up]; exact a8 k q1 q2 q3)
                  · have hne : s ≠ g p := fun q => by have := (hcov s hs).mpr ⟨p, by omega, q.symm⟩; omega
                    simp [va_up, hne]; exact a1 s hs hb
                  · by_cases q1 : j = p
                    · rw [q1, e1]; simp [va_up]
                    · have hne : g j ≠ g p := fun q => q1 (hinj j p (by omega) (by omega) q)
                      rw [folP_o hne, ← a2 j (by omega)]; simp [va_up, hne]
                  · have hne : g j ≠ g p := fun q => by have := hinj j p (by omega) (by omega) q; omega
                    rw [← a3 j (by omega) hq2]; simp [va_up, hne]
                · refine q_iload_n G (pc := 139) dX11_comesRight_139 rfl ?_
                  refine q_goto (tgt := 145) G (pc := 140) dX11_comesRight_140 (by decide) ?_
                  refine q_iast (j := g p) G (pc := 145) dX11_comesRight_145 rfl rfl (by omega) ?_
                  refine q_iincN G (pc := 146) dX11_comesRight_146 rfl (inc1 _) (by decide) ?_
                  show X _ [_, _, _, _, _] _ _ _ _
                  refine q_goto (tgt := 71) G (pc := 149) dX11_comesRight_149 (by decide) ?_
                  have eb : bhd m g p = nI (g (p + 1)) := if_pos (by omega)
                  have e1 := fol_st (m := m) (p := p) (o := g) (fd := x.1) (g := x.2.2.2) (fun j hj2 q => by have := hinj j p (by omega) (by omega) q; omega) (fun q => hok q _ (hg6 p (by omega)) ((hcov _ (hg6 p (by omega))).mpr ⟨p, by omega, rfl⟩))
                  rw [if_pos (Or.inr (c136.trans eb.symm)), eb] at e1
                  refine ih71 (p + 1) _ _ _ (by omega) (by omega) (fun s hs hb => ?_) (fun j hq => ?_) (fun j hq1 hq2 => ?_) (by simp [va_up]; exact a4) (by simp [va_up]; exact a5) (by simp [va_up]; exact a6) (fun c q1 q2 q3 => by simp [va_up, q2]; exact a7 c q1 q2 q3) (fun k q1 q2 q3 => by simp [va_up]; exact a8 k q1 q2 q3)
                  · have hne : s ≠ g p := fun q => by have := (hcov s hs).mpr ⟨p, by omega, q.symm⟩; omega
                    simp [va_up, hne]; exact a1 s hs hb
                  · by_cases q1 : j = p
                    · rw [q1, e1]; simp [va_up]
                    · have hne : g j ≠ g p := fun q => q1 (hinj j p (by omega) (by omega) q)
                      rw [folP_o hne, ← a2 j (by omega)]; simp [va_up, hne]
                  · have hne : g j ≠ g p := fun q => by have := hinj j p (by omega) (by omega) q; omega
                    rw [← a3 j (by omega) hq2]; simp [va_up, hne]
      refine L71 _ 0 _ _ _ (Nat.lt_succ_self _) (by omega) (fun s hs hb => ?_) (fun j hj => absurd hj (Nat.not_lt_zero _)) (fun j _ hj => ?_) (by simp [va_up]; rw [y1 106 (by simp)]; simp [va_up]) (by rw [if_pos c5]; simp [va_up]; rw [y1 106 (by simp)]; simp [va_up]) (by rw [← few_F c55]; simp [va_up]) (fun c q1 q2 q3 => by simp [va_up, q1]; rw [y1 c (by simpa using q3)]; simp [va_up, q1]) (fun k q1 q2 q3 => by simp [va_up, q3]; rw [y1 106 (by simp)]; simp [va_up, q1, q2])
      · simp [va_up]; rw [y1 122 (by simp)]; simp [va_up]; rw [hx.2.2.2 s hs]; exact if_pos (Or.inr hb)
      · simp [va_up]; rw [y1 122 (by simp)]; simp [va_up]; rw [hx.2.2.2 _ (hg6 j hj)]
        have hb := (hcov _ (hg6 j hj)).mpr ⟨j, hj, rfl⟩
        unfold afM
        by_cases h0 : x.1 = 0
        · rw [if_pos h0, if_pos (Or.inl h0)]
        · rw [if_neg h0, if_neg (fun z => z.elim h0 (fun z => by omega))]
