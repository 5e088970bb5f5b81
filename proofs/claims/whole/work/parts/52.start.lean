/-! the start, and both states side by side -/
theorem hr_big {sw : Bool} {c k : Nat} (h : 40 ≤ k) (hl : ¬ (mm_lay c).1 = 2) : mm_hr sw c k = none := by
  unfold mm_hr
  rw [if_neg hl]
  split
  · rw [if_neg (by omega), if_neg (by omega), off_big _ _ h]
    rfl
  · rfl
def T09 : Nat → Option Nat := va_up (va_up (va_up (va_up (va_up (va_up (va_up (va_up (va_up (va_up (va_up (fun _ => none) 0 (some 1)) 1 (some 3)) 2 (some 9)) 3 (some 15)) 4 (some 39)) 5 (some 63)) 11 (some 87)) 12 (some 88)) 13 (some 95)) 14 (some 99)) 15 (some 104)
theorem hr_9a : ∀ k, k < 40 → mm_hr false 0 k = T09 k := by decide +kernel
theorem hr_9 : mm_hr false 0 = T09 := by
  funext k
  rcases Nat.lt_or_ge k 40 with q | q
  · exact hr_9a k q
  · rw [hr_big q (by decide)]
    unfold T09
    rw [va_up_ne _ _ (by omega), va_up_ne _ _ (by omega), va_up_ne _ _ (by omega), va_up_ne _ _ (by omega), va_up_ne _ _ (by omega), va_up_ne _ _ (by omega), va_up_ne _ _ (by omega), va_up_ne _ _ (by omega), va_up_ne _ _ (by omega), va_up_ne _ _ (by omega), va_up_ne _ _ (by omega)]
theorem hr_out {sw : Bool} {z : Nat} (h : 125 ≤ z) : mm_hr sw z = fun _ => none := by
  have e : mm_lay z = (3, 0) := by
    unfold mm_lay
    rw [List.getD_eq_getElem?_getD, List.getElem?_eq_none (by show 125 ≤ z; exact h)]
    rfl
  funext k
  unfold mm_hr
  rw [e]
  simp
theorem start_hr {τ0 u : mm_T} (h : pk 0 125 T09 τ0 u) : u.1 = mm_hr false ∧ u.2 = fun _ _ => 0 := by
  refine ⟨?_, h.2.2.2.1⟩
  funext z
  rcases Nat.eq_zero_or_pos z with q | q
  · rw [q, h.1, hr_9]
  · rcases Nat.lt_or_ge z 125 with q2 | q2
    · rw [h.2.1 z q q2]
    · rw [h.2.2.1 z q2, hr_out q2]
abbrev S00 : ST := mkT P00 0 (fun j => j) 0 0 (fun _ => 0) (fun _ _ => 0) (fun _ => 0) (fun _ => none) [] 0 (fun _ => 0) 0
def iC (h : mm_HI) : Prop := h 0 = (fun _ => 0) ∧ h 1 = (fun _ => 0) ∧ shF h 3 P00 nx0 2 ∧ (h 15 1 = nI 0 ∧ h 16 1 = nI 0 ∧ h 16 2 = nI 0) ∧ (h 88 1 = nI 0 ∧ h 88 2 = nI 1) ∧ (h 95 1 = nI 1 ∧ h 95 2 = nI 1 ∧ h 95 7 = -1) ∧ (h 99 1 = nI 0 ∧ h 99 2 = nI 0)
theorem iC.keep {x y : mm_HI} (h : iC x) (e : ∀ z, z < 106 → y z = x z) : iC y := by
  obtain ⟨h1, h2, h3, h4, h5, h6, h7⟩ := h
  unfold iC
  rw [e 0 (by omega), e 1 (by omega), e 15 (by omega), e 16 (by omega), e 88 (by omega), e 95 (by omega), e 99 (by omega)]
  exact ⟨h1, h2, h3.keep (fun c _ q => e c (by omega)), h4, h5, h6, h7⟩
theorem dOK_0 : dOK P00 (0, (fun j => j), 0, 0, (fun _ => 0), (fun _ _ => 0), (fun _ => 0)) := ⟨⟨fun j hj => absurd hj (Nat.not_lt_zero _), fun i j hi _ _ => absurd hi (Nat.not_lt_zero _)⟩, fun k hk => absurd hk (Nat.not_lt_zero _)⟩
theorem start_C {h : mm_HI} {t : mm_T} (hC : iC h) (h1 : t.1 = mm_hr false) (h2 : t.2 = fun _ _ => 0) : CS S00 h t := by
  obtain ⟨a1, a2, a3, ⟨a4, a5, a6⟩, ⟨a7, a8⟩, ⟨a9, a10, a11⟩, a12, a13⟩ := hC
  refine ⟨false, nx0, 2, h1, a3, ⟨⟨a5, a6, fun j hj => absurd hj (Nat.not_lt_zero _), by decide, fun j hj => absurd hj (Nat.not_lt_zero _), by decide⟩, a4, by decide, fun k hk => absurd hk (Nat.not_lt_zero _)⟩, dOK_0, ⟨0, by decide, by rw [a1]; exact nI_0.symm, fun i _ => Or.inl ⟨rfl, by rw [Nat.zero_div]⟩⟩, (fun i D hD => by cases hD), ⟨by rw [a1]; exact nI_0.symm, by rw [a1]; exact nI_0.symm, by rw [a1]; exact nI_0.symm⟩, ⟨by decide, fun q hq => absurd hq List.not_mem_nil⟩, ⟨by rw [a2]; exact nI_0.symm, by decide, fun j hj => absurd hj (Nat.not_lt_zero _), fun j => by show (0 : Nat) ≤ 255; decide⟩, ⟨a7, a8, a9, a10, a12, a13⟩, Or.inl a11, by rw [h2]⟩
theorem start_M {h : mm_HI} {t : mm_T} (e : h 106 = va_up (fun _ => 0) 0 (nI 2)) (e2 : h 124 = fun _ => 0) (h1 : t.1 = mm_hr false) (h2 : t.2 = fun _ _ => 0) : MS S00 h t := by
  have z : ∀ k, k ≠ 0 → h 106 k = nI 0 := fun k hk => by rw [e, va_up_ne _ _ hk, nI_0]
  refine ⟨false, h1, ⟨by rw [e]; exact va_up_self _ _ _, z 1 (by decide), z 2 (by decide), fun s hs => absurd hs (Nat.not_lt_zero _), fun w hw => absurd hw (Nat.not_lt_zero _), ⟨by decide, by decide, by decide, fun _ _ _ => Nat.le_refl 26, by decide, fun u hu => absurd hu List.not_mem_nil⟩⟩, ⟨z 6 (by decide), z 7 (by decide), fun j hj => absurd hj (Nat.not_lt_zero _), by decide, fun j hj => absurd hj (Nat.not_lt_zero _), by decide⟩, dOK_0, ⟨z 28 (by decide), by decide, fun k hk => absurd hk (Nat.not_lt_zero _)⟩, fun i _ => Or.inl ⟨rfl, by rw [e2]; exact nI_0.symm⟩, (fun i D hD => by cases hD), ⟨z 9 (by decide), fun k hk => absurd hk (Nat.not_lt_zero _)⟩, ⟨by decide, fun q hq => absurd hq List.not_mem_nil⟩, ⟨z 14 (by decide), by decide, fun j hj => absurd hj (Nat.not_lt_zero _), fun j => by show (0 : Nat) ≤ 255; decide⟩, by rw [h2]⟩
theorem CS.hr {σ : ST} {h : mm_HI} {t : mm_T} (hC : CS σ h t) : ∃ sw, t.1 = mm_hr sw := by
  obtain ⟨sw, _, _, h1, _⟩ := hC
  exact ⟨sw, h1⟩
theorem MS.mv {σ : ST} {x y : mm_HI} {τ t : mm_T} (hM : MS σ x τ) (hf : frr 0 106 x y) (h1 : ∃ sw, t.1 = mm_hr sw) (h2 : t.2 106 = τ.2 106) : MS σ y t := by
  obtain ⟨sw, -, hP, hRw, hV, hU, hI, hIV, hN, hNO, hT, hTr⟩ := hM
  obtain ⟨sw2, hτ⟩ := h1
  have a : ∀ c, 106 ≤ c → y c = x c := fun c hc => hf c (Or.inr hc)
  exact ⟨sw2, hτ, hP.keep (by rw [a 106 (by omega)]) (by rw [a 106 (by omega)]) (by rw [a 106 (by omega)]) (a _ (by omega)) (a _ (by omega)) (a _ (by omega)), hRw.keep (by rw [a 106 (by omega)]) (by rw [a 106 (by omega)]) (a _ (by omega)), hV, hU.keep (by rw [a 106 (by omega)]) (a _ (by omega)), hI.keep (a _ (by omega)), hIV, hN.keep (by rw [a 106 (by omega)]) (a _ (by omega)) (a _ (by omega)), hNO, hT.keep (by rw [a 106 (by omega)]) (a _ (by omega)), by rw [h2]; exact hTr⟩
theorem CS.mv {σ : ST} {x y : mm_HI} {τ t : mm_T} (hC : CS σ x τ) (hf : frr 106 125 x y) (h1 : t.1 = τ.1) (h2 : t.2 0 = τ.2 0) : CS σ y t := by
  obtain ⟨sw, nx, nd, hτ, hS, hD, hV, hI, hIV, hN, hNO, hT, hFl, hEw, hTr⟩ := hC
  have a : ∀ c, c < 106 → y c = x c := fun c hc => hf c (Or.inl hc)
  have hl := ly7 (ly_sh sw)
  refine ⟨sw, nx, nd, h1.trans hτ, hS.keep (fun c _ q => a c (by omega)), hD.keep (fun c _ q => a c (by omega)), hV, hI.keep (by rw [a 0 (by omega)]) (fun c _ q => a c (by omega)), hIV, ?_, hNO, hT.keep (by rw [a 1 (by omega)]) (a _ (by omega)), ?_, hEw.keep (a _ (by omega)), by rw [h2]; exact hTr⟩
  · unfold snF
    rw [a 0 (by omega)]
    exact hN
  · unfold flF
    rw [a 88 (by omega), a 95 (by omega), a 99 (by omega)]
    exact hFl
