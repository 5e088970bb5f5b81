theorem mm_rlc (b : Nat) (v : Value) : (mm_rl b v).category = v.category := by cases v <;> rfl
theorem mm_rlm (b : Nat) (st : List Value) : ((st.map (mm_rl b)).map fun v => v.category) = st.map fun v => v.category := by
  rw [List.map_map]
  exact List.map_congr_left fun v _ => mm_rlc b v
theorem mm_rl_rf (b : Nat) (o : Option Nat) : mm_rl b (va_rf o) = va_rf (o.map (b + ·)) := by cases o <;> rfl
theorem mm_sl_mono {a c : Nat} (h : a ≤ c) : mm_sl a ≤ mm_sl c := by
  induction h with
  | refl => exact Nat.le_refl _
  | step _ ih => exact Nat.le_trans ih (Nat.le_add_right _ _)
theorem mm_room {n0 n n1 : Nat} (h : n0 ≤ n) (h2 : n + 1 ≤ n1) : (n + 1) - n0 = (n - n0) + 1 ∧ mm_sl (n + 1) - mm_sl n0 = (mm_sl n - mm_sl n0) + mm_sz n ∧ (n - n0) + 1 ≤ n1 - n0 ∧ (mm_sl n - mm_sl n0) + mm_sz n ≤ mm_sl n1 - mm_sl n0 := by
  have e : mm_sl (n + 1) = mm_sl n + mm_sz n := rfl
  have a := mm_sl_mono h
  have c := mm_sl_mono h2
  omega
/-- the tables of the classes -/
theorem mm_w0 : ∀ w ∈ u_ws RX0 TX0 7, w ∈ mm_g := by decide +kernel
theorem mm_w1 : ∀ w ∈ u_ws RX1 TX1 3, w ∈ mm_g := by decide +kernel
theorem mm_w2 : ∀ w ∈ u_ws RX2 TX2 2, w ∈ mm_g := by decide +kernel
theorem mm_w3 : ∀ w ∈ u_ws RX3 TX3 8, w ∈ mm_g := by decide +kernel
theorem mm_w4 : ∀ w ∈ u_ws RX4 TX4 6, w ∈ mm_g := by decide +kernel
theorem mm_w5 : ∀ w ∈ u_ws RX5 TX5 10, w ∈ mm_g := by decide +kernel
theorem mm_w6 : ∀ w ∈ u_ws RX6 TX6 3, w ∈ mm_g := by decide +kernel
theorem mm_w7 : ∀ w ∈ u_ws RX7 TX7 7, w ∈ mm_g := by decide +kernel
theorem mm_w8 : ∀ w ∈ u_ws RX8 TX8 5, w ∈ mm_g := by decide +kernel
theorem mm_w9 : ∀ w ∈ u_ws RX10 TX10 16, w ∈ mm_g := by decide +kernel
theorem mm_w10 : ∀ w ∈ u_ws RX11 TX11 37, w ∈ mm_g := by decide +kernel
def mm_ok (ci : Nat) (q : vw_C) : Prop := (∀ w ∈ u_ws q.1 q.2.1 q.2.2, w ∈ mm_g) ∧ (∀ a, a < q.2.2 → ∀ b, b < q.2.2 → a ≠ b → (q.2.1 a).2.1 ≠ (q.2.1 b).2.1) ∧ q.2.2 = mm_nf ci ∧ ∃ ty : Nat → FieldType, (∀ k, k < q.2.2 → parseFieldDescriptor (q.2.1 k).2.2.1 = some (ty k)) ∧ ∀ k, k < q.2.2 → mm_tc (ty k) = mm_ft ci k
theorem mm_cls {ci : Nat} {q : vw_C} (h : vwCl[ci]? = some q) : mm_ok ci q := by
  match ci, h with
  | 0, h => cases h; exact ⟨mm_w0, nmX0, by decide +kernel, tyX0, tyX0_ok, by decide +kernel⟩
  | 1, h => cases h; exact ⟨mm_w1, nmX1, by decide +kernel, tyX1, tyX1_ok, by decide +kernel⟩
  | 2, h => cases h; exact ⟨mm_w2, nmX2, by decide +kernel, tyX2, tyX2_ok, by decide +kernel⟩
  | 3, h => cases h; exact ⟨mm_w3, nmX3, by decide +kernel, tyX3, tyX3_ok, by decide +kernel⟩
  | 4, h => cases h; exact ⟨mm_w4, nmX4, by decide +kernel, tyX4, tyX4_ok, by decide +kernel⟩
  | 5, h => cases h; exact ⟨mm_w5, nmX5, by decide +kernel, tyX5, tyX5_ok, by decide +kernel⟩
  | 6, h => cases h; exact ⟨mm_w6, nmX6, by decide +kernel, tyX6, tyX6_ok, by decide +kernel⟩
  | 7, h => cases h; exact ⟨mm_w7, nmX7, by decide +kernel, tyX7, tyX7_ok, by decide +kernel⟩
  | 8, h => cases h; exact ⟨mm_w8, nmX8, by decide +kernel, tyX8, tyX8_ok, by decide +kernel⟩
  | 9, h => cases h; exact ⟨mm_w9, nmX10, by decide +kernel, tyX10, tyX10_ok, by decide +kernel⟩
  | 10, h => cases h; exact ⟨mm_w10, nmX11, by decide +kernel, tyX11, tyX11_ok, by decide +kernel⟩
  | k + 11, h => simp [vwCl] at h
/-- the heap holds the cells -/
def mm_at (D : va_G) (cI cR : ClassId) (b : Nat) (hi : mm_HI) (τ : mm_T) (c : Nat) (H : Heap) : Prop :=
  if (mm_lay c).1 = 0 then ∃ q : vw_C, vwCl[(mm_lay c).2]? = some q ∧ t_OB (b + c) (D.1 (mm_lay c).2) q.2.2 (D.2 (mm_lay c).2) H (fun k => mm_fv b hi τ c k (mm_ft (mm_lay c).2 k))
  else if (mm_lay c).1 = 1 then H[b + c]? = some (arrV cI (mm_lay c).2 (fun j => .int (hi c j)))
  else H[b + c]? = some (arrV cR (mm_lay c).2 (fun j => va_rf ((τ.1 c j).map (b + ·))))
def mm_P (D : va_G) (cI cR : ClassId) (b : Nat) (hi : mm_HI) (τ : mm_T) (n : Nat) (H : Heap) : Prop := ∀ c, c < n → mm_at D cI cR b hi τ c H
def mm_S (b : Nat) (H0 H : Heap) (locs : List Loc) : Prop := (∀ q : Nat, q < b → H[q]? = H0[q]?) ∧ ∀ l ∈ locs, b ≤ l.base
theorem mm_fv_cong {b : Nat} {hi hi2 : mm_HI} {τ τ2 : mm_T} {c k t : Nat} (h1 : hi2 c = hi c) (h2 : τ2.1 c = τ.1 c) (h3 : τ2.2 c = τ.2 c) : mm_fv b hi2 τ2 c k t = mm_fv b hi τ c k t := by
  simp [mm_fv, h1, h2, h3]
theorem mm_at_cong {D : va_G} {cI cR : ClassId} {b : Nat} {hi hi2 : mm_HI} {τ τ2 : mm_T} {c : Nat} {H H2 : Heap} (h : mm_at D cI cR b hi τ c H) (h1 : hi2 c = hi c) (h2 : τ2.1 c = τ.1 c) (h3 : τ2.2 c = τ.2 c) (h4 : H2[b + c]? = H[b + c]?) : mm_at D cI cR b hi2 τ2 c H2 := by
  unfold mm_at at h ⊢
  split at h
  · rename_i hc
    rw [if_pos hc]
    obtain ⟨q, e1, e2⟩ := h
    exact ⟨q, e1, (e2.kept h4).to (fun k _ => (mm_fv_cong h1 h2 h3).symm)⟩
  · rename_i hc
    rw [if_neg hc]
    split at h
    · rename_i hc1
      rw [if_pos hc1, h4, h, h1]
    · rename_i hc1
      rw [if_neg hc1, h4, h, h2]
theorem mm_at_o {D : va_G} {cI cR : ClassId} {b : Nat} {hi : mm_HI} {τ : mm_T} {c ci : Nat} {H : Heap} (h2 : mm_lay c = (0, ci)) : mm_at D cI cR b hi τ c H ↔ ∃ q : vw_C, vwCl[ci]? = some q ∧ t_OB (b + c) (D.1 ci) q.2.2 (D.2 ci) H (fun k => mm_fv b hi τ c k (mm_ft ci k)) := by
  unfold mm_at
  rw [h2]
  simp
theorem mm_at_a {D : va_G} {cI cR : ClassId} {b : Nat} {hi : mm_HI} {τ : mm_T} {c N : Nat} {H : Heap} (h2 : mm_lay c = (1, N)) : mm_at D cI cR b hi τ c H ↔ H[b + c]? = some (arrV cI N (fun j => .int (hi c j))) := by
  unfold mm_at
  rw [h2]
  simp
theorem mm_at_q {D : va_G} {cI cR : ClassId} {b : Nat} {hi : mm_HI} {τ : mm_T} {c N : Nat} {H : Heap} (h2 : mm_lay c = (2, N)) : mm_at D cI cR b hi τ c H ↔ H[b + c]? = some (arrV cR N (fun j => va_rf ((τ.1 c j).map (b + ·)))) := by
  unfold mm_at
  rw [h2]
  simp
theorem mm_P.put {D : va_G} {cI cR : ClassId} {b n c : Nat} {hi hi2 : mm_HI} {τ τ2 : mm_T} {H H2 : Heap} (hP : mm_P D cI cR b hi τ n H) (hat : mm_at D cI cR b hi2 τ2 c H2) (ho : ∀ c1, c1 ≠ c → hi2 c1 = hi c1 ∧ τ2.1 c1 = τ.1 c1 ∧ τ2.2 c1 = τ.2 c1) (hq : ∀ q : Nat, q ≠ b + c → H2[q]? = H[q]?) : mm_P D cI cR b hi2 τ2 n H2 := by
  intro c1 h1
  by_cases h : c1 = c
  · subst h; exact hat
  · obtain ⟨a1, a2, a3⟩ := ho c1 h
    exact mm_at_cong (hP c1 h1) a1 a2 a3 (hq _ (by omega))
theorem mm_P.push {D : va_G} {cI cR : ClassId} {b n : Nat} {hi hi2 : mm_HI} {τ τ2 : mm_T} {H H2 : Heap} (hP : mm_P D cI cR b hi τ n H) (hat : mm_at D cI cR b hi2 τ2 n H2) (ho : ∀ c1, c1 ≠ n → hi2 c1 = hi c1 ∧ τ2.1 c1 = τ.1 c1 ∧ τ2.2 c1 = τ.2 c1) (hq : ∀ q : Nat, q < b + n → H2[q]? = H[q]?) : mm_P D cI cR b hi2 τ2 (n + 1) H2 := by
  intro c1 h1
  by_cases h : c1 = n
  · subst h; exact hat
  · obtain ⟨a1, a2, a3⟩ := ho c1 h
    exact mm_at_cong (hP c1 (by omega)) a1 a2 a3 (hq _ (by omega))
theorem mm_S.put {b : Nat} {H0 H H2 : Heap} {locs : List Loc} {c : Nat} {k : Nat} (h : mm_S b H0 H locs) (hq : ∀ q : Nat, q ≠ b + c → H2[q]? = H[q]?) : mm_S b H0 H2 (locs ++ [⟨b + c, k⟩]) := by
  refine ⟨fun q hl => by rw [hq q (by omega)]; exact h.1 q hl, fun q h1 => ?_⟩
  rcases List.mem_append.mp h1 with h2 | h2
  · exact h.2 q h2
  · rw [List.mem_singleton.mp h2]; exact Nat.le_add_right _ _
/-- the locals -/
def mm_LV (b nL : Nat) (ls : List (Option Value)) (lsA : Array Slot) : Prop := lv_has lsA nL [] ∧ ∀ (i : Nat) (v : Value), ls[i]? = some (some v) → lsA[i]? = some (.val (mm_rl b v)) ∧ v.category = 1
def mm_lst (b : Nat) (ls : List (Option Value)) : List (Nat × Value) := (List.range ls.length).filterMap (fun i => match ls[i]? with
  | some (some v) => some (i, mm_rl b v)
  | _ => none)
theorem mm_lst_mem {b : Nat} {ls : List (Option Value)} {q : Nat × Value} : q ∈ mm_lst b ls ↔ ∃ v, ls[q.1]? = some (some v) ∧ q.2 = mm_rl b v := by
  unfold mm_lst
  rw [List.mem_filterMap]
  constructor
  · rintro ⟨i, -, h⟩
    split at h
    · rename_i v hv
      cases h
      exact ⟨v, hv, rfl⟩
    · cases h
  · rintro ⟨v, h1, h2⟩
    refine ⟨q.1, List.mem_range.mpr (List.getElem?_eq_some_iff.mp h1).1, ?_⟩
    rw [h1]
    show some (q.1, mm_rl b v) = some q
    rw [← h2]
theorem mm_lvl {b nL : Nat} {ls : List (Option Value)} {lsA : Array Slot} (h : mm_LV b nL ls lsA) : lv_has lsA nL (mm_lst b ls) := by
  refine ⟨h.1.1, h.1.2.1, fun q hq => ?_⟩
  obtain ⟨v, h1, h2⟩ := mm_lst_mem.mp hq
  rw [h2]
  exact (h.2 _ _ h1).1
theorem mm_lvk (b : Nat) {ls : List (Option Value)} {j : Nat} {x : Int32} (h : ls[j]? = some (some (.int x))) : ∃ q : Nat, (mm_lst b ls)[q]? = some (j, .int x) :=
  List.getElem?_of_mem (mm_lst_mem.mpr ⟨_, h, rfl⟩)
theorem mm_lvs {b nL i : Nat} {ls : List (Option Value)} {lsA lsB : Array Slot} (h : mm_LV b nL ls lsA) {v : Value} (hv : v.category = 1) (h1 : lv_has lsB nL ((i, mm_rl b v) :: (mm_lst b ls).filter (fun q => !(q.1 == i) && !(q.1 + 1 == i && q.2.category == 2)))) : mm_LV b nL (ls.set i (some v)) lsB := by
  refine ⟨⟨h1.1, h1.2.1, fun q hq => absurd hq List.not_mem_nil⟩, fun j w hj => ?_⟩
  by_cases hij : i = j
  · subst hij
    rw [List.getElem?_set_self'] at hj
    cases hl : ls[i]? with
    | none => rw [hl] at hj; cases hj
    | some z =>
      rw [hl] at hj
      have e : v = w := by
        have := Option.some.inj (Option.some.inj hj)
        exact this
      subst e
      exact ⟨h1.2.2 _ List.mem_cons_self, hv⟩
  · rw [List.getElem?_set_ne hij] at hj
    obtain ⟨a1, a2⟩ := h.2 j w hj
    refine ⟨h1.2.2 (j, mm_rl b w) (List.mem_cons_of_mem _ (List.mem_filter.mpr ⟨mm_lst_mem.mpr ⟨w, hj, rfl⟩, ?_⟩)), a2⟩
    have e1 : ¬ j = i := fun q => hij q.symm
    simp [e1, mm_rlc, a2]
