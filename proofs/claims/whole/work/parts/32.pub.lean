/-! the answers -/
abbrev gP (σ : ST) : PG := σ.1
abbrev gD (σ : ST) : DK := σ.2.1
abbrev gn (σ : ST) : Nat := σ.2.1.1
abbrev gf (σ : ST) : Nat → Nat := σ.2.1.2.1
abbrev gt (σ : ST) : Nat := σ.2.1.2.2.1
abbrev gK (σ : ST) : Nat := σ.2.1.2.2.2.1
abbrev gI (σ : ST) : Nat → Option DK := σ.2.2.1
abbrev gL (σ : ST) : List (Nat × Nat) := σ.2.2.2.1
abbrev gN (σ : ST) : Nat := σ.2.2.2.2.1
abbrev gB (σ : ST) : Nat → Nat := σ.2.2.2.2.2.1
abbrev gR (σ : ST) : Int64 := σ.2.2.2.2.2.2
def zType (σ : ST) (c : Option Nat) : ST × Int32 := match c with
  | none => (σ, -1)
  | some c => if gN σ = 150 then (σ, -3) else ((gP σ, gD σ, gI σ, gL σ, gN σ + 1, va_up (gB σ) (gN σ) c, gR σ), nI (gN σ + 1))
def zClear (σ : ST) : ST × Int32 := ((gP σ, gD σ, gI σ, gL σ, 0, gB σ, gR σ), nI (gN σ))
def zPage (σ : ST) : ST × Int32 := match prs (gB σ) (gN σ) 150 0 (skp (gB σ) (gN σ) 0) P00 with
  | .inl f => (σ, -10 - nI f)
  | .inr (k, P) => ((P, (pS P, fun j => j, 0, 0, fun _ => 0, fun _ _ => 0, fun _ => 0), fun _ => none, [], 0, gB σ, gR σ), nI k)
def letO (P : PG) (s : Nat) : Nat := letM (fun k => pG P s (k / 2) (k % 2)) (2 * pL P)
def blkO (P : PG) (s : Nat) : Nat := blkM (fun k => pG P s (k / 2) (k % 2)) (2 * pL P)
def zStrip (σ : ST) (s w : Option Nat) : ST × Int32 := (σ, match s, w with
  | some s, some 0 => plI (fnd (gf σ) s (gn σ))
  | some s, some 1 => nI (gt σ / 2 ^ s % 2)
  | some s, some 2 => nI (letO (gP σ) s)
  | some s, some 3 => (roA (gP σ) (gn σ) (gf σ) (gt σ)).2.2.2 s
  | _, _ => -1)
def zSign (σ : ST) (s l i : Option Nat) : ST × Int32 := (σ, match s, l, i with
  | some s, some l, some i => byt (pG (gP σ) s l i)
  | _, _, _ => -1)
def zPlace (σ : ST) (p : Option Nat) : ST × Int32 := (σ, match p with
  | some p => nI (gf σ p)
  | none => -1)
def zWord (σ : ST) (w i : Option Nat) : ST × Int32 := (σ, match w, i with
  | some w, some i => if i < ((pW (gP σ)).getD w []).length then byt (((pW (gP σ)).getD w []).getD i 0) else -9
  | _, _ => -1)
/-- the desk as it was is remembered, then it is another -/
def nDesk (σ : ST) (n : Nat) (f : Nat → Nat) (t : Nat) : ST := (gP σ, (n, f, t, if gK σ < 10 then gK σ + 1 else 10, pu (gK σ) σ.2.1.2.2.2.2.1 (gn σ), pu (gK σ) σ.2.1.2.2.2.2.2.1 (gf σ), pu (gK σ) σ.2.1.2.2.2.2.2.2 (gt σ)), gI σ, gL σ, gN σ, gB σ, gR σ)
def rlN (P : PG) (n : Nat) (f : Nat → Nat) (t : Nat) : Int32 := nI (pcn (rlM P n f t (pL P)))
def zSwaps (σ : ST) (p q : Option Nat) : ST × Int32 := match p, q with
  | some p, some q => if p = q then (σ, -1) else (nDesk σ (gn σ) (swpF (gf σ) p q) (gt σ), rlN (gP σ) (gn σ) (swpF (gf σ) p q) (gt σ))
  | _, _ => (σ, -1)
def zMoves (σ : ST) (p q : Option Nat) : ST × Int32 := match p, q with
  | some p, some q => if p = q then (σ, -1) else (nDesk σ (gn σ) (fun j => gf σ (crr p q j)) (gt σ), rlN (gP σ) (gn σ) (fun j => gf σ (crr p q j)) (gt σ))
  | _, _ => (σ, -1)
def zTurn (σ : ST) (s : Option Nat) : ST × Int32 := match s with
  | some s => (match fnd (gf σ) s (gn σ) with
    | some _ => (nDesk σ (gn σ) (gf σ) (stb (gt σ) s (1 - gt σ / 2 ^ s % 2)), nI (1 - gt σ / 2 ^ s % 2))
    | none => (σ, -2))
  | none => (σ, -1)
def zTakes (σ : ST) (s : Option Nat) : ST × Int32 := match s with
  | some s => (match fnd (gf σ) s (gn σ) with
    | some p => (nDesk σ (gn σ - 1) (fun j => gf σ (crr p (gn σ - 1) j)) (gt σ), nI (gn σ - 1))
    | none => (σ, -2))
  | none => (σ, -1)
def zLays (σ : ST) (s : Option Nat) : ST × Int32 := match s with
  | some s => (match fnd (gf σ) s (gn σ) with
    | some _ => (σ, -2)
    | none => (nDesk σ (gn σ + 1) (va_up (gf σ) (gn σ) s) (gt σ), nI (gn σ + 1)))
  | none => (σ, -1)
def zUndo (σ : ST) : ST × Int32 := if gK σ = 0 then (σ, -2) else ((gP σ, (σ.2.1.2.2.2.2.1 (gK σ - 1), σ.2.1.2.2.2.2.2.1 (gK σ - 1), σ.2.1.2.2.2.2.2.2 (gK σ - 1), gK σ - 1, σ.2.1.2.2.2.2.1, σ.2.1.2.2.2.2.2.1, σ.2.1.2.2.2.2.2.2), gI σ, gL σ, gN σ, gB σ, gR σ), nI (gK σ - 1))
theorem CQ.of {z z2 : ST × Int32} {hi h : mm_HI} {τ t : mm_T} {v : Option Value} (e : z = z2) (q : CQ z2 hi τ v h t) : CQ z hi τ v h t := e ▸ q
theorem CQ.mk {z : ST × Int32} {P : PG} {n : Nat} {f : Nat → Nat} {t K : Nat} {pn : Nat → Nat} {pf : Nat → Nat → Nat} {pt : Nat → Nat} {im : Nat → Option DK} {sl : List (Nat × Nat)} {N : Nat} {b : Nat → Nat} {tr : Int64} {r : Int32} {hi h : mm_HI} {τ t2 : mm_T} (e : z = (mkT P n f t K pn pf pt im sl N b tr, r)) (hc : cS P n f t K pn pf pt im sl N b tr h t2) (hf : frr 0 106 hi h) (ht : t2.2 106 = τ.2 106) : CQ z hi τ (some (.int r)) h t2 := by
  rw [e]
  exact ⟨rfl, hc, hf, ht⟩
theorem cS.txt {P : PG} {n : Nat} {f : Nat → Nat} {t K : Nat} {pn : Nat → Nat} {pf : Nat → Nat → Nat} {pt : Nat → Nat} {im : Nat → Option DK} {sl : List (Nat × Nat)} {N : Nat} {b : Nat → Nat} {tr : Int64} {x y : mm_HI} {τ : mm_T} (hC : cS P n f t K pn pf pt im sl N b tr x τ) {N2 : Nat} {c2 : Nat → Nat} (hf : fr [1, 2] x y) (ht : txF y c2 N2) : cS P n f t K pn pf pt im sl N2 c2 tr y τ := by
  obtain ⟨sw, nx, nd, hτ, hS, hD, hV, hI, hIV, hN, hNO, hT, hFl, hE, hTr⟩ := hC
  have h7 := ly7 (ly_sh sw)
  have h0 : y 0 = x 0 := hf 0 (by simp)
  refine ⟨sw, nx, nd, hτ, hS.keep (fun c h1 h2 => hf c (by simp; omega)), hD.keep (fun c h1 h2 => hf c (by simp; omega)), hV, hI.keep (by rw [h0]) (fun c h1 h2 => hf c (by simp; omega)), hIV, ⟨by rw [h0]; exact hN.1, by rw [h0]; exact hN.2.1, by rw [h0]; exact hN.2.2⟩, hNO, ht, ?_, hE.keep (hf 95 (by simp)), hTr⟩
  obtain ⟨f1, f2, f3, f4, f5, f6⟩ := hFl
  exact ⟨by rw [hf 88 (by simp)]; exact f1, by rw [hf 88 (by simp)]; exact f2, by rw [hf 95 (by simp)]; exact f3, by rw [hf 95 (by simp)]; exact f4, by rw [hf 99 (by simp)]; exact f5, by rw [hf 99 (by simp)]; exact f6⟩
theorem cS.dsk {P : PG} {n : Nat} {f : Nat → Nat} {t K : Nat} {pn : Nat → Nat} {pf : Nat → Nat → Nat} {pt : Nat → Nat} {im : Nat → Option DK} {sl : List (Nat × Nat)} {N : Nat} {b : Nat → Nat} {tr : Int64} {x y : mm_HI} {τ : mm_T} (hC : cS P n f t K pn pf pt im sl N b tr x τ) {n2 : Nat} {f2 : Nat → Nat} {t2 K2 : Nat} {pn2 : Nat → Nat} {pf2 : Nat → Nat → Nat} {pt2 : Nat → Nat} (hf : frr 15 39 x y) (hd : deskF y 15 n2 f2 t2 K2 pn2 pf2 pt2) (hv : dOK P (n2, f2, t2, K2, pn2, pf2, pt2)) : cS P n2 f2 t2 K2 pn2 pf2 pt2 im sl N b tr y τ := by
  obtain ⟨sw, nx, nd, hτ, hS, hD, hV, hI, hIV, hN, hNO, hT, hFl, hE, hTr⟩ := hC
  have h7 := ly7 (ly_sh sw)
  have h0 : y 0 = x 0 := hf 0 (by omega)
  refine ⟨sw, nx, nd, hτ, hS.keep (fun c h1 h2 => hf c (by omega)), hd, hv, hI.keep (by rw [h0]) (fun c h1 h2 => hf c (by omega)), hIV, ⟨by rw [h0]; exact hN.1, by rw [h0]; exact hN.2.1, by rw [h0]; exact hN.2.2⟩, hNO, hT.keep (by rw [hf 1 (by omega)]) (hf 2 (by omega)), ?_, hE.keep (hf 95 (by omega)), hTr⟩
  obtain ⟨f1, f2, f3, f4, f5, f6⟩ := hFl
  exact ⟨by rw [hf 88 (by omega)]; exact f1, by rw [hf 88 (by omega)]; exact f2, by rw [hf 95 (by omega)]; exact f3, by rw [hf 95 (by omega)]; exact f4, by rw [hf 99 (by omega)]; exact f5, by rw [hf 99 (by omega)]; exact f6⟩
theorem rem_dOK {P : PG} {n n2 : Nat} {f f2 : Nat → Nat} {t t2 K : Nat} {pn : Nat → Nat} {pf : Nat → Nat → Nat} {pt : Nat → Nat} (h : dOK P (n, f, t, K, pn, pf, pt)) (h2 : rowV P n2 f2) (hK : K ≤ 10) : dOK P (n2, f2, t2, if K < 10 then K + 1 else 10, pu K pn n, pu K pf f, pu K pt t) := by
  refine ⟨h2, fun k hk => ?_⟩
  have hk : k < if K < 10 then K + 1 else 10 := hk
  show rowV P (pu K pn n k) (pu K pf f k)
  unfold pu
  by_cases c : K < 10
  · rw [if_pos c] at hk
    rw [if_pos c, if_pos c]
    by_cases e : k = K
    · rw [if_pos e, if_pos e]; exact h.1
    · rw [if_neg e, if_neg e]; exact h.2 k (by show k < K; omega)
  · rw [if_neg c] at hk
    rw [if_neg c, if_neg c]
    by_cases e : k = 9
    · rw [if_pos e, if_pos e]; exact h.1
    · rw [if_neg e, if_neg e]; exact h.2 (k + 1) (by show k + 1 < K; omega)
theorem rowV_swp {P : PG} {n : Nat} {f : Nat → Nat} (h : rowV P n f) {p q : Nat} (hp : p < n) (hq : q < n) : rowV P n (swpF f p q) := by
  refine ⟨fun j hj => ?_, fun i j hi hj e => ?_⟩
  · rw [swp_ix]; refine h.1 _ ?_; repeat' split
    all_goals omega
  · rw [swp_ix, swp_ix] at e
    have := h.2 _ _ (by repeat' split
                        all_goals omega) (by repeat' split
                                             all_goals omega) e
    repeat' split at this
    all_goals omega
theorem crr_inj {p q i j : Nat} (h : crr p q i = crr p q j) : i = j := by
  unfold crr at h
  repeat' split at h
  all_goals omega
theorem rowV_crr {P : PG} {n : Nat} {f : Nat → Nat} (h : rowV P n f) {p q : Nat} (hp : p < n) (hq : q < n) : rowV P n (fun j => f (crr p q j)) := ⟨fun j hj => h.1 _ (crr_lt hp hq hj), fun i j hi hj e => crr_inj (h.2 _ _ (crr_lt hp hq hi) (crr_lt hp hq hj) e)⟩
theorem rowV_lt {P : PG} {n m : Nat} {f : Nat → Nat} (h : rowV P n f) (hm : m ≤ n) : rowV P m f := ⟨fun j hj => h.1 j (by omega), fun i j hi hj e => h.2 i j (by omega) (by omega) e⟩
theorem rowV_app {P : PG} {n s : Nat} {f : Nat → Nat} (h : rowV P n f) (hs : s < pS P) (hf : ∀ j, j < n → f j ≠ s) : rowV P (n + 1) (va_up f n s) := by
  refine ⟨fun j hj => ?_, fun i j hi hj e => ?_⟩
  · unfold va_up; split
    · exact hs
    · exact h.1 j (by omega)
  · unfold va_up at e
    split at e <;> split at e
    · omega
    · exact absurd e.symm (hf j (by omega))
    · exact absurd e (hf i (by omega))
    · exact h.2 i j (by omega) (by omega) e
theorem pcn_5 : ∀ t, t < 64 → ∀ s, s < 6 → t / 2 ^ s % 2 ≠ 1 → pcn t < 6 := by decide +kernel
theorem n_lt6 {P : PG} {n s : Nat} {f : Nat → Nat} (h : rowV P n f) (hS : pS P ≤ 6) (hs : s < 6) (hf : ∀ j, j < n → f j ≠ s) : n < 6 := by
  have hf6 : ∀ j, j < n → f j < 6 := fun j hj => by have := h.1 j hj; omega
  have := pcn_5 _ (mskF_lt hf6) s hs (fun q => by
    obtain ⟨j, h1, h2⟩ := (mskF_bit hs hf6).mp q
    exact hf j h1 h2)
  rw [mskF_pcn hf6 h.2] at this
  exact this
theorem xor_t : ∀ t, t < 64 → ∀ s, s < 6 → nI t ^^^ ((1 : Int32) <<< (nI s &&& 31)) = nI (stb t s (1 - t / 2 ^ s % 2)) ∧ stb t s (1 - t / 2 ^ s % 2) < 64 ∧ stb t s (1 - t / 2 ^ s % 2) / 2 ^ s % 2 = 1 - t / 2 ^ s % 2 := by decide +kernel
theorem neg10 : ∀ f, f < 151 → ¬ (0 : Int32) ≤ -10 - nI f := by decide +kernel
theorem plI_ne {f : Nat → Nat} {n s : Nat} (hn : n ≤ 6) : plI (fnd f s n) = -9 ↔ fnd f s n = none := by
  cases e : fnd f s n with
  | none => simp [plI]
  | some j =>
    have := (fnd_some e).1
    simp only [plI]
    constructor
    · intro q; exact absurd q (nI_ne9 (by omega))
    · intro q; cases q
theorem swp_hr {τ : mm_T} {sw : Bool} (hτ : τ.1 = mm_hr sw) : va_up (va_up τ.1 0 (va_up (τ.1 0) 1 (some (mm_dr sw)))) 0 (va_up ((va_up τ.1 0 (va_up (τ.1 0) 1 (some (mm_dr sw)))) 0) 2 (some (mm_sh sw))) = mm_hr (!sw) := by
  funext c
  by_cases hc : c = 0
  · subst hc
    funext k
    by_cases h2 : k = 2
    · subst h2; simp [va_up]; cases sw <;> rfl
    · by_cases h1 : k = 1
      · subst h1; simp [va_up]; cases sw <;> rfl
      · simp [va_up, h1, h2, hτ]
        unfold mm_hr
        simp [h1, h2]
  · simp [va_up, hc, hτ]
    funext k
    unfold mm_hr
    simp [hc]
set_option maxHeartbeats 2000000 in
theorem c_type {d : Nat} (hd : 2 ≤ d) {hi : mm_HI} {τ : mm_T} {P : PG} {n : Nat} {f : Nat → Nat} {t K : Nat} {pn : Nat → Nat} {pf : Nat → Nat → Nat} {pt : Nat → Nat} {im : Nat → Option DK} {sl : List (Nat × Nat)} {N : Nat} {b : Nat → Nat} {tr : Int64} (hC : cS P n f t K pn pf pt im sl N b tr hi τ) {x : Int32} : wR d yX10_type [.ref 0, .int x] hi τ (CQ (zType (mkT P n f t K pn pf pt im sl N b tr) (ix x 256)) hi τ) := by
  refine w_intro (by omega) M_X10_type (Nat.le_of_ble_eq_true rfl) rfl ?_
  intro e X he G
  show X 0 [some (.ref (0)), some (.int (x))] [] hi τ 125
  obtain ⟨sw, nx, nd, hτ, hS, hD, hV, hI, hIV, hN, hNO, hT, hFl, hE, hTr⟩ := id hC
  have hS6 := hS.2.2.2.1.2.2.1
  have hL3 : pL P ≤ 3 := hS.2.2.2.1.2.1
  have hn6 := hD.1.2.2.2.1
  have hRw : rowF hi 16 n f t := hD.1
  have hfs : ∀ j, j < n → f j < pS P := hV.1.1
  refine q_iload_n G (pc := 0) dX10_type_0 rfl ?_
  refine q_if_lt (tgt := 11) G (pc := 1) dX10_type_1 (by decide) (fun c1 => ?_) (fun c1 => ?_)
  · refine q_iconst (v := -1) G (pc := 11) dX10_type_11 (by decide) ?_
    refine q_iret G (pc := 12) dX10_type_12 (Or.inl rfl) ?_
    exact CQ.of (by rw [ix_none (ix_n0 (by decide) c1)]; rfl) (hC.post scr.rf _)
  · refine q_iload_n G (pc := 4) dX10_type_4 rfl ?_
    refine q_sipush (v := nI 255) G (pc := 5) dX10_type_5 (by decide) ?_
    refine q_icmp_le (tgt := 13) G (pc := 8) dX10_type_8 (by decide) (fun c8 => ?_) (fun c8 => ?_)
    · obtain ⟨c, hc, rfl⟩ := ix_lt (n := 256) (by decide) c1 (nle_1 (by decide) c8)
      refine q_aload_n G (pc := 13) dX10_type_13 rfl ?_
      refine q_getR (x := 1) G (pc := 14) dX10_type_14 fl_X10_10_9 rfl (hg hτ (hf_9_0 rfl)) ?_
      refine q_iload_n G (pc := 17) dX10_type_17 rfl ?_
      refine q_cV1I G (pc := 18) dX10_type_18 cv_X10_74 rfl (s_X8_append (by omega) hτ hT (c := c) (by omega)) (Nat.le_of_ble_eq_true rfl) ?_
      intro xa hk hx
      rcases hx with ⟨rfl, a1, a2⟩ | ⟨rfl, a1, a2, a3, a4⟩
      · subst a2
        refine q_if_eqN (tgt := 34) G (pc := 21) dX10_type_21 (by decide) (by omega) (fun _ => ?_) (fun c21 => absurd c21 (by decide))
        refine q_bipush (v := -3) G (pc := 34) dX10_type_34 (by decide) ?_
        refine q_iret G (pc := 36) dX10_type_36 (Or.inl rfl) ?_
        exact CQ.of (by rw [ix_some hc (by decide)]; exact if_pos a1) (hC.post scr.rf _)
      · refine q_if_eqN (tgt := 34) G (pc := 21) dX10_type_21 (by decide) (by omega) (fun c21 => absurd c21 (by decide)) (fun _ => ?_)
        refine q_aload_n G (pc := 24) dX10_type_24 rfl ?_
        refine q_getR (x := 1) G (pc := 25) dX10_type_25 fl_X10_10_9 rfl (hg hτ (hf_9_0 rfl)) ?_
        refine q_getI (v := nI (N + 1)) G (pc := 28) dX10_type_28 fl_X10_78_8 (by decide) rfl a2.1 ?_
        refine q_goto (tgt := 36) G (pc := 31) dX10_type_31 (by decide) ?_
        refine q_iret G (pc := 36) dX10_type_36 (Or.inl rfl) ?_
        have e : zType (mkT P n f t K pn pf pt im sl N b tr) (ix (nI c) 256) = (mkT P n f t K pn pf pt im sl (N + 1) (va_up b N c) tr, nI (N + 1)) := by rw [ix_some hc (by decide)]; exact if_neg (show ¬ N = 150 by omega)
        exact CQ.mk e (hC.txt a3 a2) (fun c hc => a3 c (by simp; omega)) rfl
    · refine q_iconst (v := -1) G (pc := 11) dX10_type_11 (by decide) ?_
      refine q_iret G (pc := 12) dX10_type_12 (Or.inl rfl) ?_
      exact CQ.of (by rw [ix_none (ix_nn (by decide) (nle_2 (by decide) c8))]; rfl) (hC.post scr.rf _)
set_option maxHeartbeats 2000000 in
theorem c_clear {d : Nat} (hd : 2 ≤ d) {hi : mm_HI} {τ : mm_T} {P : PG} {n : Nat} {f : Nat → Nat} {t K : Nat} {pn : Nat → Nat} {pf : Nat → Nat → Nat} {pt : Nat → Nat} {im : Nat → Option DK} {sl : List (Nat × Nat)} {N : Nat} {b : Nat → Nat} {tr : Int64} (hC : cS P n f t K pn pf pt im sl N b tr hi τ)  : wR d yX10_clear [.ref 0] hi τ (CQ (zClear (mkT P n f t K pn pf pt im sl N b tr)) hi τ) := by
  refine w_intro (by omega) M_X10_clear (Nat.le_of_ble_eq_true rfl) rfl ?_
  intro e X he G
  show X 0 [some (.ref (0))] [] hi τ 125
  obtain ⟨sw, nx, nd, hτ, hS, hD, hV, hI, hIV, hN, hNO, hT, hFl, hE, hTr⟩ := id hC
  have hS6 := hS.2.2.2.1.2.2.1
  have hL3 : pL P ≤ 3 := hS.2.2.2.1.2.1
  have hn6 := hD.1.2.2.2.1
  have hRw : rowF hi 16 n f t := hD.1
  have hfs : ∀ j, j < n → f j < pS P := hV.1.1
  refine q_aload_n G (pc := 0) dX10_clear_0 rfl ?_
  refine q_getR (x := 1) G (pc := 1) dX10_clear_1 fl_X10_10_9 rfl (hg hτ (hf_9_0 rfl)) ?_
  refine q_cV0I G (pc := 4) dX10_clear_4 cv_X10_82 rfl (s_X8_wipe (by omega) hT.1) (Nat.le_of_ble_eq_true rfl) ?_
  intro xa hk hx
  obtain ⟨rfl, rfl⟩ := hx
  refine q_iret G (pc := 7) dX10_clear_7 (Or.inl rfl) ?_
  have ht : txF (mm_up2 hi 1 0 (nI 0)) b 0 := ⟨by simp [va_up], by omega, fun j hj => absurd hj (Nat.not_lt_zero _), hT.2.2.2⟩
  exact CQ.mk rfl (hC.txt (fun c hc => by simp at hc; simp [va_up, hc.1]) ht) (fun c hc => by simp [va_up, show c ≠ 1 by omega]) rfl
set_option maxHeartbeats 2000000 in
theorem c_forget0 {d : Nat} (hd : 1 ≤ d) {hi : mm_HI} {τ : mm_T}  : wI d yX10_forget [.ref 0] hi τ (fun x h => x = hi 0 7 ∧ h = mm_up2 (mm_up2 (mm_up2 hi 0 7 (nI 0)) 0 8 (nI 0)) 0 9 (nI 0)) := by
  refine w_intro (by omega) M_X10_forget (Nat.le_of_ble_eq_true rfl) rfl ?_
  intro e X he G
  show X 0 [some (.ref (0)), none] [] hi τ 125
  refine q_aload_n G (pc := 0) dX10_forget_0 rfl ?_
  refine q_getI G (pc := 1) dX10_forget_1 fl_X10_245_9 (by decide) rfl rfl ?_
  refine q_istore_n G (pc := 4) dX10_forget_4 (by decide) ?_
  show X _ [_, _] _ _ _ _
  refine q_aload_n G (pc := 5) dX10_forget_5 rfl ?_
  refine q_iconst (v := nI 0) G (pc := 6) dX10_forget_6 (by decide) ?_
  refine q_putI G (pc := 7) dX10_forget_7 fl_X10_245_9 rfl ?_
  refine q_aload_n G (pc := 10) dX10_forget_10 rfl ?_
  refine q_iconst (v := nI 0) G (pc := 11) dX10_forget_11 (by decide) ?_
  refine q_putI G (pc := 12) dX10_forget_12 fl_X10_248_9 rfl ?_
  refine q_aload_n G (pc := 15) dX10_forget_15 rfl ?_
  refine q_iconst (v := nI 0) G (pc := 16) dX10_forget_16 (by decide) ?_
  refine q_putI G (pc := 17) dX10_forget_17 fl_X10_251_9 rfl ?_
  refine q_iload_n G (pc := 20) dX10_forget_20 rfl ?_
  refine q_iret G (pc := 21) dX10_forget_21 (Or.inl rfl) ?_
  exact ⟨rfl, _, rfl, rfl, rfl⟩
set_option maxHeartbeats 2000000 in
theorem c_page {d : Nat} (hd : 7 ≤ d) {hi : mm_HI} {τ : mm_T} {P : PG} {n : Nat} {f : Nat → Nat} {t K : Nat} {pn : Nat → Nat} {pf : Nat → Nat → Nat} {pt : Nat → Nat} {im : Nat → Option DK} {sl : List (Nat × Nat)} {N : Nat} {b : Nat → Nat} {tr : Int64} (hC : cS P n f t K pn pf pt im sl N b tr hi τ)  : wR d yX10_page [.ref 0] hi τ (CQ (zPage (mkT P n f t K pn pf pt im sl N b tr)) hi τ) := by
  refine w_intro (by omega) M_X10_page (Nat.le_of_ble_eq_true rfl) rfl ?_
  intro e X he G
  show X 0 [some (.ref (0)), none, none] [] hi τ 125
  obtain ⟨sw, nx, nd, hτ, hS, hD, hV, hI, hIV, hN, hNO, hT, hFl, hE, hTr⟩ := id hC
  have hS6 := hS.2.2.2.1.2.2.1
  have hL3 : pL P ≤ 3 := hS.2.2.2.1.2.1
  have hn6 := hD.1.2.2.2.1
  have hRw : rowF hi 16 n f t := hD.1
  have hfs : ∀ j, j < n → f j < pS P := hV.1.1
  refine q_aload_n G (pc := 0) dX10_page_0 rfl ?_
  refine q_getR (x := 1) G (pc := 1) dX10_page_1 fl_X10_10_9 rfl (hg hτ (hf_9_0 rfl)) ?_
  refine q_aload_n G (pc := 4) dX10_page_4 rfl ?_
  refine q_getR (x := mm_dr sw) G (pc := 5) dX10_page_5 fl_X10_23_9 rfl (hg hτ (hf_dr sw)) ?_
  refine q_cV1I G (pc := 8) dX10_page_8 cv_X10_86 rfl (s_X8_readInto (by omega) hτ hT (ly_dr sw)) (Nat.le_of_ble_eq_true rfl) ?_
  intro xa hk hx
  rcases hx with ⟨fz, a1, rfl, a2, a3, a4⟩ | ⟨k, P2, a1, rfl, a2, ⟨nx2, nd2, a3⟩, a4, a5⟩
  · have hN150 := hT.2.1
    refine q_istore_n G (pc := 11) dX10_page_11 (by decide) ?_
    show X _ [_, _, _] _ _ _ _
    refine q_iload_n G (pc := 12) dX10_page_12 rfl ?_
    refine q_if_ge (tgt := 18) G (pc := 13) dX10_page_13 (by decide) (fun c13 => ?_) (fun c13 => ?_)
    · exact absurd c13 (neg10 fz (by omega))
    · refine q_iload_n G (pc := 16) dX10_page_16 rfl ?_
      refine q_iret G (pc := 17) dX10_page_17 (Or.inl rfl) ?_
      have hdr := ly7 (ly_dr sw)
      have hsh7 := ly7 (ly_sh sw)
      have hsd : mm_sh sw + 6 ≤ mm_dr sw ∨ mm_dr sw + 6 ≤ mm_sh sw := by cases sw <;> decide
      have e : zPage (mkT P n f t K pn pf pt im sl N b tr) = (mkT P n f t K pn pf pt im sl N b tr, -10 - nI fz) := by
        unfold zPage
        rw [a1]
      refine CQ.mk e ⟨sw, nx, nd, hτ, hS.keep (fun c h1 h2 => a4 c (by simp; omega)), hD.keep (fun c h1 h2 => a4 c (by simp; omega)), hV, hI.keep (by rw [a4 0 (by simp; omega)]) (fun c h1 h2 => a4 c (by simp; omega)), hIV, ⟨by rw [a4 0 (by simp; omega)]; exact hN.1, by rw [a4 0 (by simp; omega)]; exact hN.2.1, by rw [a4 0 (by simp; omega)]; exact hN.2.2⟩, hNO, a3, ?_, hE.keep (a4 95 (by simp; omega)), hTr⟩ (fun c hc => a4 c (by simp; omega)) rfl
      obtain ⟨f1, f2, f3, f4, f5, f6⟩ := hFl
      exact ⟨by rw [a4 88 (by simp; omega)]; exact f1, by rw [a4 88 (by simp; omega)]; exact f2, by rw [a4 95 (by simp; omega)]; exact f3, by rw [a4 95 (by simp; omega)]; exact f4, by rw [a4 99 (by simp; omega)]; exact f5, by rw [a4 99 (by simp; omega)]; exact f6⟩
  · have hdr := ly7 (ly_dr sw)
    have hP2 := a3.2.2.2.1.2.2.1
    have hsd : mm_sh sw + 6 ≤ mm_dr sw ∨ mm_dr sw + 6 ≤ mm_sh sw := by cases sw <;> decide
    have hsh7 := ly7 (ly_sh sw)
    refine q_istore_n G (pc := 11) dX10_page_11 (by decide) ?_
    show X _ [_, _, _] _ _ _ _
    refine q_iload_n G (pc := 12) dX10_page_12 rfl ?_
    refine q_if_ge (tgt := 18) G (pc := 13) dX10_page_13 (by decide) (fun c13 => ?_) (fun c13 => ?_)
    · refine q_aload_n G (pc := 18) dX10_page_18 rfl ?_
      refine q_getR (x := mm_sh sw) G (pc := 19) dX10_page_19 fl_X10_19_9 rfl (hg hτ (hf_sh sw)) ?_
      refine q_astore_n G (pc := 22) dX10_page_22 (by decide) ?_
      show X _ [_, _, _] _ _ _ _
      refine q_aload_n G (pc := 23) dX10_page_23 rfl ?_
      refine q_aload_n G (pc := 24) dX10_page_24 rfl ?_
      refine q_getR (x := mm_dr sw) G (pc := 25) dX10_page_25 fl_X10_23_9 rfl (hg hτ (hf_dr sw)) ?_
      refine q_putR G (pc := 28) dX10_page_28 fl_X10_19_9 rfl ?_
      refine q_aload_n G (pc := 31) dX10_page_31 rfl ?_
      refine q_aload_n G (pc := 32) dX10_page_32 rfl ?_
      refine q_putR G (pc := 33) dX10_page_33 fl_X10_23_9 rfl ?_
      suffices hT2 : ∀ τ2 : mm_T, τ2.1 = mm_hr (!sw) → τ2.2 = τ.2 → X 36 [some (.ref 0), some (.int (nI k)), some (.ref (mm_sh sw))] [] hk τ2 125 by exact hT2 _ (swp_hr hτ) rfl
      intro τ2 hτ2 hτl
      have esw : mm_sh (!sw) = mm_dr sw := by cases sw <;> rfl
      rw [← esw] at a3
      refine q_aload_n G (pc := 36) dX10_page_36 rfl ?_
      refine q_getR (x := 1) G (pc := 37) dX10_page_37 fl_X10_10_9 rfl (hg hτ2 (hf_9_0 rfl)) ?_
      refine q_cV0I G (pc := 40) dX10_page_40 cv_X10_82 rfl (s_X8_wipe (by omega) a4.1) (Nat.le_of_ble_eq_true rfl) ?_
      intro xw hk2 hy
      obtain ⟨rfl, rfl⟩ := hy
      refine q_pop G (pc := 43) dX10_page_43 rfl ?_
      refine q_aload_n G (pc := 44) dX10_page_44 rfl ?_
      refine q_getR (x := 15) G (pc := 45) dX10_page_45 fl_X10_29_9 rfl (hg hτ2 (hf_9_3 rfl)) ?_
      refine q_aload_n G (pc := 48) dX10_page_48 rfl ?_
      refine q_getR (x := mm_sh (!sw)) G (pc := 49) dX10_page_49 fl_X10_19_9 rfl (hg hτ2 (hf_sh (!sw))) ?_
      refine q_getI (v := nI (pS P2)) G (pc := 52) dX10_page_52 fl_X10_90_7 (by decide) (ly_sh (!sw)) (by simp [va_up, show mm_sh (!sw) ≠ 1 by rw [esw]; omega]; exact a3.2.1) ?_
      refine q_cV1V G (pc := 55) dX10_page_55 cv_X10_93 rfl (s_X1_layAll (by omega) hτ2 (dk := 15) rfl (z := pS P2) hP2) (Nat.le_of_ble_eq_true rfl) ?_
      intro hk3 hy
      obtain ⟨y1, y2⟩ := hy
      refine q_aload_n G (pc := 58) dX10_page_58 rfl ?_
      refine q_getR (x := 95) G (pc := 59) dX10_page_59 fl_X10_56_9 rfl (hg hτ2 (hf_9_13 rfl)) ?_
      refine q_cV0V G (pc := 62) dX10_page_62 cv_X10_97 rfl (s_X3_drop (by omega) hτ2 (wk := 95) rfl) (Nat.le_of_ble_eq_true rfl) ?_
      intro hk4 hy
      subst hy
      refine q_aload_n G (pc := 65) dX10_page_65 rfl ?_
      refine q_cV0I G (pc := 66) dX10_page_66 cv_X10_100 rfl (c_forget0 (by omega)) (Nat.le_of_ble_eq_true rfl) ?_
      intro xf hk5 hy
      obtain ⟨-, rfl⟩ := hy
      refine q_pop G (pc := 69) dX10_page_69 rfl ?_
      refine q_aload_n G (pc := 70) dX10_page_70 rfl ?_
      refine q_iconst (v := nI 0) G (pc := 71) dX10_page_71 (by decide) ?_
      refine q_putI G (pc := 72) dX10_page_72 fl_X10_103_9 rfl ?_
      refine q_iload_n G (pc := 75) dX10_page_75 rfl ?_
      refine q_iret G (pc := 76) dX10_page_76 (Or.inl rfl) ?_
      have e : zPage (mkT P n f t K pn pf pt im sl N b tr) = (mkT P2 (pS P2) (fun j => j) 0 0 (fun _ => 0) (fun _ _ => 0) (fun _ => 0) (fun _ => none) [] 0 b tr, nI k) := by
        unfold zPage
        rw [a1]
      refine CQ.mk e ⟨!sw, nx2, nd2, hτ2, ?_, ?_, ⟨⟨fun j hj => hj, fun i j _ _ e => e⟩, fun k hk => absurd hk (Nat.not_lt_zero _)⟩, ⟨0, by decide, by simp [va_up], fun i hi => Or.inl ⟨rfl, by simp⟩⟩, fun i D hD => (by cases hD), ⟨by simp [va_up], by simp [va_up]; rfl, by simp [va_up]; rfl⟩, ⟨by simp, fun q hq => absurd hq List.not_mem_nil⟩, ?_, ?_, Or.inl (by simp [va_up]), by rw [hτl]; exact hTr⟩ ?_ (by rw [hτl])
      · exact a3.keep (fun c h1 h2 => by simp [va_up, show c ≠ 0 by omega, show c ≠ 95 by omega]; rw [y2 c (by omega)]; simp [va_up, show c ≠ 1 by omega])
      · exact y1.keep (fun c h1 h2 => by simp [va_up, show c ≠ 0 by omega, show c ≠ 95 by omega])
      · refine ⟨?_, by omega, fun j hj => absurd hj (Nat.not_lt_zero _), hT.2.2.2⟩
        simp [va_up]; rw [y2 1 (by omega)]; simp [va_up]
      · obtain ⟨f1, f2, f3, f4, f5, f6⟩ := hFl
        have fz : ∀ c, 88 ≤ c → hk3 c = hi c := fun c hc => by rw [y2 c (by omega)]; simp [va_up, show c ≠ 1 by omega]; exact a5 c (by simp; omega)
        refine ⟨by simp [va_up, fz]; exact f1, by simp [va_up, fz]; exact f2, by simp [va_up, fz]; exact f3, by simp [va_up, fz]; exact f4, by simp [va_up, fz]; exact f5, by simp [va_up, fz]; exact f6⟩
      · intro c hc
        simp [va_up, show c ≠ 0 by omega, show c ≠ 95 by omega]
        rw [y2 c (by omega)]
        simp [va_up, show c ≠ 1 by omega]
        exact a5 c (by simp; omega)
    · exact absurd (nI_pos' (by omega)) c13
