/-! numbers in a range -/
abbrev isI (x : Int32) (n : Nat) : Prop := ∃ s, s < n ∧ x = nI s
def ix (x : Int32) (n : Nat) : Option Nat := if 0 ≤ x.toInt ∧ x.toInt < (n : Int) then some x.toInt.toNat else none
theorem nI_back {x : Int32} (h : 0 ≤ x.toInt) : nI x.toInt.toNat = x := by
  apply Int32.toInt_inj.mp
  have hb : x.toInt < 2 ^ 31 := Int32.toInt_lt x
  rw [nI_toInt (by omega)]
  omega
theorem ix_some {s n : Nat} (h : s < n) (hn : n < 2 ^ 31) : ix (nI s) n = some s := by
  unfold ix
  rw [nI_toInt (by omega), if_pos ⟨by omega, by omega⟩]
  simp
theorem ix_none {x : Int32} {n : Nat} (h : ¬ isI x n) : ix x n = none := by
  unfold ix
  refine if_neg (fun q => h ⟨x.toInt.toNat, by omega, (nI_back q.1).symm⟩)
theorem ix_lt {x : Int32} {n : Nat} (hn : n < 2 ^ 31) (h0 : ¬ x < 0) (h1 : ¬ nI n ≤ x) : isI x n := by
  rw [Int32.lt_iff_toInt_lt] at h0
  rw [Int32.le_iff_toInt_le, nI_toInt hn] at h1
  have e : (0 : Int32).toInt = 0 := rfl
  exact ⟨x.toInt.toNat, by omega, (nI_back (by omega)).symm⟩
theorem ix_n0 {x : Int32} {n : Nat} (hn : n < 2 ^ 31) (h0 : x < 0) : ¬ isI x n := by
  rintro ⟨s, h1, rfl⟩
  exact nI_pos (by omega) h0
theorem ix_nn {x : Int32} {n : Nat} (hn : n < 2 ^ 31) (h0 : nI n ≤ x) : ¬ isI x n := by
  rintro ⟨s, h1, rfl⟩
  have := (nI_leI hn (by omega)).mp h0
  omega
theorem nle_1 {x : Int32} {n : Nat} (hn : n + 1 < 2 ^ 31) (h : x ≤ nI n) : ¬ nI (n + 1) ≤ x := by
  rw [Int32.le_iff_toInt_le, nI_toInt (by omega)] at h
  rw [Int32.le_iff_toInt_le, nI_toInt (by omega)]
  omega
theorem nle_2 {x : Int32} {n : Nat} (hn : n + 1 < 2 ^ 31) (h : ¬ x ≤ nI n) : nI (n + 1) ≤ x := by
  rw [Int32.le_iff_toInt_le, nI_toInt (by omega)] at h
  rw [Int32.le_iff_toInt_le, nI_toInt (by omega)]
  omega
theorem nlt_1 {x : Int32} {n : Nat} (hn : n < 2 ^ 31) (h : x < nI n) : ¬ nI n ≤ x := by
  rw [Int32.lt_iff_toInt_lt] at h
  rw [Int32.le_iff_toInt_le]
  omega
theorem nlt_2 {x : Int32} {n : Nat} (hn : n < 2 ^ 31) (h : ¬ x < nI n) : nI n ≤ x := by
  rw [Int32.lt_iff_toInt_lt] at h
  rw [Int32.le_iff_toInt_le]
  omega
theorem tabX {x : Int32} {n : Nat} (h0 : ¬ x.toInt < 0) (h1 : ¬ (n : Int) < x.toInt) : ∃ s, s ≤ n ∧ x = nI s := ⟨x.toInt.toNat, by omega, (nI_back (by omega)).symm⟩
theorem tab_n {x : Int32} {n : Nat} (hn : n + 1 < 2 ^ 31) (h : x.toInt < 0 ∨ (n : Int) < x.toInt) : ¬ isI x (n + 1) := by
  rintro ⟨s, h1, rfl⟩
  rw [nI_toInt (by omega)] at h
  omega
theorem tab2 (x : Int32) : (x.toInt < 0 ∨ (2 : Int) < x.toInt) ∨ x = nI 0 ∨ x = nI 1 ∨ x = nI 2 := by
  by_cases h : x.toInt < 0 ∨ (2 : Int) < x.toInt
  · exact Or.inl h
  · right
    obtain ⟨s, h1, rfl⟩ := tabX (x := x) (n := 2) (fun z => h (Or.inl z)) (fun z => h (Or.inr z))
    have : s = 0 ∨ s = 1 ∨ s = 2 := by omega
    rcases this with rfl | rfl | rfl <;> simp
theorem tab3 (x : Int32) : (x.toInt < 0 ∨ (3 : Int) < x.toInt) ∨ x = nI 0 ∨ x = nI 1 ∨ x = nI 2 ∨ x = nI 3 := by
  by_cases h : x.toInt < 0 ∨ (3 : Int) < x.toInt
  · exact Or.inl h
  · right
    obtain ⟨s, h1, rfl⟩ := tabX (x := x) (n := 3) (fun z => h (Or.inl z)) (fun z => h (Or.inr z))
    have : s = 0 ∨ s = 1 ∨ s = 2 ∨ s = 3 := by omega
    rcases this with rfl | rfl | rfl | rfl <;> simp
theorem tab5 (x : Int32) : (x.toInt < 0 ∨ (5 : Int) < x.toInt) ∨ x = nI 0 ∨ x = nI 1 ∨ x = nI 2 ∨ x = nI 3 ∨ x = nI 4 ∨ x = nI 5 := by
  by_cases h : x.toInt < 0 ∨ (5 : Int) < x.toInt
  · exact Or.inl h
  · right
    obtain ⟨s, h1, rfl⟩ := tabX (x := x) (n := 5) (fun z => h (Or.inl z)) (fun z => h (Or.inr z))
    have : s = 0 ∨ s = 1 ∨ s = 2 ∨ s = 3 ∨ s = 4 ∨ s = 5 := by omega
    rcases this with rfl | rfl | rfl | rfl | rfl | rfl <;> simp
/-! the state of a page: what is told, the desk, images, what was seen, the text, the trace -/
abbrev DK : Type := Nat × (Nat → Nat) × Nat × Nat × (Nat → Nat) × (Nat → Nat → Nat) × (Nat → Nat)
abbrev ST : Type := PG × DK × (Nat → Option DK) × List (Nat × Nat) × Nat × (Nat → Nat) × Int64
def rowV (P : PG) (n : Nat) (f : Nat → Nat) : Prop := (∀ j, j < n → f j < pS P) ∧ ∀ i j, i < n → j < n → f i = f j → i = j
def dOK (P : PG) (D : DK) : Prop := rowV P D.1 D.2.1 ∧ ∀ k, k < D.2.2.2.1 → rowV P (D.2.2.2.2.1 k) (D.2.2.2.2.2.1 k)
def dskF (hi : mm_HI) (dk : Nat) (D : DK) : Prop := deskF hi dk D.1 D.2.1 D.2.2.1 D.2.2.2.1 D.2.2.2.2.1 D.2.2.2.2.2.1 D.2.2.2.2.2.2
def mkS (w : Nat) : List (Nat × Nat) → Nat
  | [] => 0
  | q :: sl => (if q.2 = w then 2 ^ q.1 else 0) ||| mkS w sl
/-- in the class: images, what was seen, the three walks -/
def imF (hi : mm_HI) (im : Nat → Option DK) : Prop := ∃ kp, kp < 4 ∧ hi 0 6 = nI kp ∧ ∀ i, i < 2 → (im i = none ∧ kp / 2 ^ i % 2 = 0) ∨ ∃ D, im i = some D ∧ kp / 2 ^ i % 2 = 1 ∧ dskF hi (39 + 24 * i) D
def snF (hi : mm_HI) (sl : List (Nat × Nat)) : Prop := hi 0 7 = nI sl.length ∧ hi 0 8 = nI (mkS 1 sl) ∧ hi 0 9 = nI (mkS 0 sl)
def snOK (sl : List (Nat × Nat)) : Prop := sl.length ≤ 6 ∧ ∀ q ∈ sl, q.1 < 26 ∧ q.2 < 2
def flF (hi : mm_HI) : Prop := hi 88 1 = nI 0 ∧ hi 88 2 = nI 1 ∧ hi 95 1 = nI 1 ∧ hi 95 2 = nI 1 ∧ hi 99 1 = nI 0 ∧ hi 99 2 = nI 0
def ewC (hi : mm_HI) (P : PG) : Prop := hi 95 7 = -1 ∨ ∃ lf, lf < 64 ∧ ewI 95 lf (fun _ => 0) (eL P (pcn lf) lf) hi
def cS (P : PG) (n : Nat) (f : Nat → Nat) (t K : Nat) (pn : Nat → Nat) (pf : Nat → Nat → Nat) (pt : Nat → Nat) (im : Nat → Option DK) (sl : List (Nat × Nat)) (N : Nat) (b : Nat → Nat) (tr : Int64) (hi : mm_HI) (τ : mm_T) : Prop :=
  ∃ (sw : Bool) (nx : Nat → Nat → Nat) (nd : Nat), τ.1 = mm_hr sw ∧ shF hi (mm_sh sw) P nx nd ∧ deskF hi 15 n f t K pn pf pt ∧ dOK P (n, f, t, K, pn, pf, pt) ∧ imF hi im ∧ (∀ i D, im i = some D → dOK P D) ∧ snF hi sl ∧ snOK sl ∧ txF hi b N ∧ flF hi ∧ ewC hi P ∧ τ.2 0 10 = tr
abbrev mkT (P : PG) (n : Nat) (f : Nat → Nat) (t K : Nat) (pn : Nat → Nat) (pf : Nat → Nat → Nat) (pt : Nat → Nat) (im : Nat → Option DK) (sl : List (Nat × Nat)) (N : Nat) (b : Nat → Nat) (tr : Int64) : ST := (P, (n, f, t, K, pn, pf, pt), im, sl, N, b, tr)
def CS (σ : ST) (hi : mm_HI) (τ : mm_T) : Prop := cS σ.1 σ.2.1.1 σ.2.1.2.1 σ.2.1.2.2.1 σ.2.1.2.2.2.1 σ.2.1.2.2.2.2.1 σ.2.1.2.2.2.2.2.1 σ.2.1.2.2.2.2.2.2 σ.2.2.1 σ.2.2.2.1 σ.2.2.2.2.1 σ.2.2.2.2.2.1 σ.2.2.2.2.2.2 hi τ
def CQ (z : ST × Int32) (hi : mm_HI) (τ : mm_T) : mm_Q := fun v h t => v = some (.int z.2) ∧ CS z.1 h t ∧ frr 0 106 hi h ∧ t.2 106 = τ.2 106
/-- what only readings and walks use -/
def scr (hi h : mm_HI) : Prop := frr 87 106 hi h ∧ h 88 1 = hi 88 1 ∧ h 88 2 = hi 88 2 ∧ h 99 1 = hi 99 1 ∧ h 99 2 = hi 99 2 ∧ h 95 = hi 95
theorem scr.rf {x : mm_HI} : scr x x := ⟨frr.rf, rfl, rfl, rfl, rfl, rfl⟩
theorem scr.trans {x y z : mm_HI} (h : scr x y) (g : scr y z) : scr x z := ⟨h.1.trans g.1, g.2.1.trans h.2.1, g.2.2.1.trans h.2.2.1, g.2.2.2.1.trans h.2.2.2.1, g.2.2.2.2.1.trans h.2.2.2.2.1, g.2.2.2.2.2.trans h.2.2.2.2.2⟩
theorem scr.rd {x y : mm_HI} (h : fr [87] x y) : scr x y := ⟨fun c hc => h c (by simp; omega), by rw [h 88 (by simp)], by rw [h 88 (by simp)], by rw [h 99 (by simp)], by rw [h 99 (by simp)], h 95 (by simp)⟩
theorem scr.lo {x y : mm_HI} (h : scr x y) {c : Nat} (hc : c < 87) : y c = x c := h.1 c (Or.inl hc)
theorem scr.fr {x y : mm_HI} (h : scr x y) : frr 0 106 x y := fun c hc => h.1 c (by omega)
theorem shF.scr {x y : mm_HI} {sw : Bool} {nd : Nat} {P : PG} {nx : Nat → Nat → Nat} (h : shF x (mm_sh sw) P nx nd) (hs : scr x y) : shF y (mm_sh sw) P nx nd := h.keep (fun c h1 h2 => hs.lo (by have := ly7 (ly_sh sw); omega))
theorem rowF.scr {x y : mm_HI} {n t : Nat} {f : Nat → Nat} (h : rowF x 16 n f t) (hs : scr x y) : rowF y 16 n f t := h.keep (hs.lo (by omega)) (hs.lo (by omega))
theorem imF.keep {x y : mm_HI} {im : Nat → Option DK} (h : imF x im) (h0 : y 0 6 = x 0 6) (hc : ∀ c, 39 ≤ c → c < 87 → y c = x c) : imF y im := by
  obtain ⟨kp, k1, k2, k3⟩ := h
  refine ⟨kp, k1, by rw [h0]; exact k2, fun i hi => ?_⟩
  rcases k3 i hi with q | ⟨D, q1, q2, q3⟩
  · exact Or.inl q
  · refine Or.inr ⟨D, q1, q2, ?_⟩
    obtain ⟨d1, d2, d3, d4⟩ := q3
    exact ⟨d1.keep (hc _ (by omega) (by omega)) (hc _ (by omega) (by omega)), by rw [hc _ (by omega) (by omega)]; exact d2, d3, fun k hk => (d4 k hk).keep (hc _ (by omega) (by omega)) (hc _ (by omega) (by omega))⟩
theorem deskF.keep {x y : mm_HI} {dk n t K : Nat} {f : Nat → Nat} {pn : Nat → Nat} {pf : Nat → Nat → Nat} {pt : Nat → Nat} (h : deskF x dk n f t K pn pf pt) (hc : ∀ c, dk ≤ c → c < dk + 24 → y c = x c) : deskF y dk n f t K pn pf pt := by
  obtain ⟨d1, d2, d3, d4⟩ := h
  exact ⟨d1.keep (hc _ (by omega) (by omega)) (hc _ (by omega) (by omega)), by rw [hc _ (by omega) (by omega)]; exact d2, d3, fun k hk => (d4 k hk).keep (hc _ (by omega) (by omega)) (hc _ (by omega) (by omega))⟩
theorem ewC.keep {x y : mm_HI} {P : PG} (h : ewC x P) (h0 : y 95 = x 95) : ewC y P := by
  rcases h with q | ⟨lf, h1, h2, h3, h4, h5⟩
  · exact Or.inl (by rw [h0]; exact q)
  · exact Or.inr ⟨lf, h1, by rw [h0]; exact h2, by rw [h0]; exact h3, by rw [h0]; exact h4, by rw [h0]; exact h5⟩
theorem cS.sc0 {P : PG} {n : Nat} {f : Nat → Nat} {t K : Nat} {pn : Nat → Nat} {pf : Nat → Nat → Nat} {pt : Nat → Nat} {im : Nat → Option DK} {sl : List (Nat × Nat)} {N : Nat} {b : Nat → Nat} {tr : Int64} {x y : mm_HI} {τ : mm_T} (h : cS P n f t K pn pf pt im sl N b tr x τ) (hs : scr x y) : cS P n f t K pn pf pt im sl N b tr y τ := by
  obtain ⟨sw, nx, nd, e1, e2, e3, e4, e5, e6, e7, e8, e9, e10, e11, e12⟩ := h
  have h0 : y 0 = x 0 := hs.lo (by omega)
  refine ⟨sw, nx, nd, e1, e2.scr hs, e3.keep (fun c h1 h2 => hs.lo (by omega)), e4, e5.keep (by rw [h0]) (fun c h1 h2 => hs.lo (by omega)), e6, ⟨by rw [h0]; exact e7.1, by rw [h0]; exact e7.2.1, by rw [h0]; exact e7.2.2⟩, e8, e9.keep (by rw [hs.lo (by omega)]) (hs.lo (by omega)), ?_, e11.keep hs.2.2.2.2.2, e12⟩
  obtain ⟨f1, f2, f3, f4, f5, f6⟩ := e10
  exact ⟨hs.2.1.trans f1, hs.2.2.1.trans f2, by rw [hs.2.2.2.2.2]; exact f3, by rw [hs.2.2.2.2.2]; exact f4, hs.2.2.2.1.trans f5, hs.2.2.2.2.1.trans f6⟩
theorem cS.post {P : PG} {n : Nat} {f : Nat → Nat} {t K : Nat} {pn : Nat → Nat} {pf : Nat → Nat → Nat} {pt : Nat → Nat} {im : Nat → Option DK} {sl : List (Nat × Nat)} {N : Nat} {b : Nat → Nat} {tr : Int64} {x y : mm_HI} {τ : mm_T} (h : cS P n f t K pn pf pt im sl N b tr x τ) (hs : scr x y) (r : Int32) : CQ (mkT P n f t K pn pf pt im sl N b tr, r) x τ (some (.int r)) y τ := ⟨rfl, h.sc0 hs, hs.fr, rfl⟩
