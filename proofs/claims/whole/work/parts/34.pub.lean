def alM (P : PG) (n : Nat) (f : Nat → Nat) (t : Nat) : Nat → Nat
  | 0 => 0
  | p + 1 => alM P n f t p ||| (if (oL P t (n - 1) (stb (mskF f n) (f p) 0)).length = 0 then 0 else 2 ^ f p)
def zNow (σ : ST) (w : Option Nat) : ST × Int32 := (σ, match w with
  | some 0 => nI (gn σ)
  | some 1 => nI (rlM (gP σ) (gn σ) (gf σ) (gt σ) (pL (gP σ)))
  | some 2 => nI (rrM (gP σ) (gn σ) (gf σ) (gt σ) (pL (gP σ)))
  | some 3 => nI (numF (gf σ) (gn σ))
  | some 4 => nI (alM (gP σ) (gn σ) (gf σ) (gt σ) (gn σ))
  | some 5 => (roA (gP σ) (gn σ) (gf σ) (gt σ)).2.2.1
  | _ => -1)
def zLine (σ : ST) (l w : Option Nat) : ST × Int32 := (σ, match l, w with
  | some l, some 0 => nI (rdA (gP σ) (gn σ) (gf σ) (gt σ) l).1
  | some l, some 1 => nI (rdA (gP σ) (gn σ) (gf σ) (gt σ) l).2.1
  | some l, some 2 => nI (rdA (gP σ) (gn σ) (gf σ) (gt σ) l).2.2.1
  | _, _ => -1)
def zReads (σ : ST) (l i : Option Nat) : ST × Int32 := (σ, match l, i with
  | some l, some i => byt (sqF (gP σ) (gf σ) (gt σ) l i)
  | _, _ => -1)
def zOrders (σ : ST) (w : Option Nat) : ST × Int32 := (σ, match w with
  | some 0 => (roA (gP σ) (gn σ) (gf σ) (gt σ)).1
  | some 1 => (roA (gP σ) (gn σ) (gf σ) (gt σ)).2.1
  | _ => -1)
def zEither (σ : ST) (w : Option Nat) : ST × Int32 := (σ, match w with
  | some 0 => (ewA (gP σ) (gn σ) (gf σ)).1
  | some 1 => (ewA (gP σ) (gn σ) (gf σ)).2.1
  | some 2 => (ewA (gP σ) (gn σ) (gf σ)).2.2
  | _ => -1)
def zBest (σ : ST) (w : Option Nat) : ST × Int32 := (σ, match w with
  | some 0 => (boA (gP σ) (gn σ) (gf σ) (gt σ)).1
  | some 1 => (boA (gP σ) (gn σ) (gf σ) (gt σ)).2
  | _ => -1)
def fct : Nat → Nat
  | 0 => 1
  | n + 1 => fct n * (n + 1)
def oC (P : PG) (n : Nat) (f : Nat → Nat) (t : Nat) : Nat := (oL P t n (mskF f n)).length
def zOdds (σ : ST) (w : Option Nat) : ST × Int32 := (σ, match w with
  | some 0 => nI (oC (gP σ) (gn σ) (gf σ) (gt σ) / Nat.gcd (oC (gP σ) (gn σ) (gf σ) (gt σ)) (fct (gn σ)))
  | some 1 => nI (fct (gn σ) / Nat.gcd (oC (gP σ) (gn σ) (gf σ) (gt σ)) (fct (gn σ)))
  | _ => -1)
def zSees (σ : ST) (c w : Option Nat) : ST × Int32 := match c, w with
  | some c, some w => if (gL σ).length = 6 then (σ, -3) else ((gP σ, gD σ, gI σ, gL σ ++ [(c, w)], gN σ, gB σ, gR σ), nI ((gL σ).length + 1))
  | _, _ => (σ, -1)
def zForget (σ : ST) : ST × Int32 := ((gP σ, gD σ, gI σ, [], gN σ, gB σ, gR σ), nI (gL σ).length)
def whM (P : PG) (sl : List (Nat × Nat)) : Nat → Nat
  | 0 => 0
  | s + 1 => whM P sl s ||| (if letO P s &&& mkS 1 sl = mkS 1 sl ∧ letO P s &&& mkS 0 sl = 0 then 2 ^ s else 0)
def zWhich (σ : ST) : ST × Int32 := (σ, nI (whM (gP σ) (gL σ) (pS (gP σ))))
def hvM (P : PG) (W c : Nat) : Nat → Nat
  | 0 => 0
  | s + 1 => hvM P W c s + W / 2 ^ s % 2 * (letO P s / 2 ^ c % 2)
def gpt (P : PG) (W c : Nat) : Nat := max (hvM P W c (pS P)) (pcn W - hvM P W c (pS P))
def lkF (P : PG) (W : Nat) : Nat → Nat × Int32
  | 0 => (pcn W, -9)
  | c + 1 => if gpt P W c < (lkF P W c).1 then (gpt P W c, nI c) else lkF P W c
def zLook (σ : ST) : ST × Int32 := (σ, (lkF (gP σ) (whM (gP σ) (gL σ) (pS (gP σ))) 26).2)
def mkV (P : PG) (n : Nat) (f : Nat → Nat) (t s : Nat) : Nat → Int32 × Int64
  | 0 => (nI (blkO P s), 1)
  | 1 => (nI (blkO P s + 10 * (t / 2 ^ s % 2)), 11)
  | 2 => (nI (blkO P s) - nI n, 101)
  | 3 => (nI ((blkO P s + 10 * (t / 2 ^ s % 2)) * 2), 1011)
  | 4 => (nI (blkO P s) - nI n + nI s, 10101)
  | _ => (nI (blkO P s + rrM P n f t (pL P)), 100001)
def zMark (σ : ST) (k s : Option Nat) : ST × Int32 := match k, s with
  | some k, some s => ((gP σ, gD σ, gI σ, gL σ, gN σ, gB σ, gR σ + (mkV (gP σ) (gn σ) (gf σ) (gt σ) s k).2), (mkV (gP σ) (gn σ) (gf σ) (gt σ) s k).1)
  | _, _ => (σ, -1000000)
def zKeep (σ : ST) (i : Option Nat) : ST × Int32 := match i with
  | some i => ((gP σ, gD σ, fun j => if j = i then some (gD σ) else gI σ j, gL σ, gN σ, gB σ, gR σ), nI (gn σ))
  | none => (σ, -1)
def zBack (σ : ST) (i : Option Nat) : ST × Int32 := match i with
  | some i => (match gI σ i with
    | some D => ((gP σ, D, gI σ, gL σ, gN σ, gB σ, gR σ), nI D.1)
    | none => (σ, -2))
  | none => (σ, -1)
def zCount (σ : ST) (w : Option Nat) : ST × Int32 := (σ, match w with
  | some 0 => nI (pL (gP σ))
  | some 1 => nI (pS (gP σ))
  | some 2 => nI (pW (gP σ)).length
  | some 3 => nI (gL σ).length
  | some 4 => nI (gK σ)
  | some 5 => nI (gN σ)
  | _ => -1)
theorem roS_len (m : Nat) (pv : Nat → Int32) : ∀ (L : List (List (Nat × Nat))) (x : ROS), (L.foldl (fun x pr => roStep m pv x (ord pr) (numP pr)) x).1 = x.1 + nI L.length
  | [], x => by simp [nI_0]
  | a :: L, x => by
    rw [List.foldl_cons, roS_len m pv L]
    show x.1 + nI 1 + nI L.length = x.1 + nI (L.length + 1)
    rw [Int32.add_assoc, nI_add, Nat.add_comm 1]
theorem roA_len (P : PG) (n : Nat) (f : Nat → Nat) (t : Nat) : (roA P n f t).1 = nI (oC P n f t) := by
  unfold roA roF
  rw [roS_len]
  show 0 + nI _ = _
  rw [Int32.zero_add]
  rfl
theorem fm_len {α β : Type} {f : α → List β} {B : Nat} : ∀ (l : List α), (∀ a ∈ l, (f a).length ≤ B) → (l.flatMap f).length ≤ l.length * B
  | [], _ => by simp
  | a :: l, h => by
    rw [List.flatMap_cons, List.length_append, List.length_cons, Nat.add_mul]
    have h1 := h a List.mem_cons_self
    have h2 := fm_len l (fun b hb => h b (List.mem_cons_of_mem _ hb))
    omega
theorem lv0_len {bw : Nat} {P : PG} {t0 : Nat} (hS : pS P ≤ 6) : ∀ (r : Nat) (pr : List (Nat × Nat)) (lf : Nat), (lv0 bw P t0 r pr lf).length ≤ 12 ^ r
  | 0, pr, lf => by simp [lv0]
  | r + 1, pr, lf => by
    unfold lv0
    have h1 : ∀ s ∈ List.range (pS P), ((List.range 2).flatMap (fun w => if lf / 2 ^ s % 2 = 1 ∧ (bw = 1 ∨ t0 / 2 ^ s % 2 = w) then lv0 bw P t0 r (pr ++ [(s, w)]) (stb lf s 0) else [])).length ≤ 2 * 12 ^ r := by
      intro s _
      have := fm_len (f := fun w => if lf / 2 ^ s % 2 = 1 ∧ (bw = 1 ∨ t0 / 2 ^ s % 2 = w) then lv0 bw P t0 r (pr ++ [(s, w)]) (stb lf s 0) else []) (B := 12 ^ r) (List.range 2) (fun w _ => by
        show (if _ then _ else _ : List _).length ≤ _
        split
        · exact lv0_len hS r _ _
        · exact Nat.zero_le _)
      simpa using this
    have h2 := fm_len (List.range (pS P)) h1
    rw [List.length_range] at h2
    have h3 : pS P * (2 * 12 ^ r) ≤ 6 * (2 * 12 ^ r) := Nat.mul_le_mul_right _ hS
    rw [Nat.pow_succ]
    omega
theorem oC_lt {P : PG} {n lf : Nat} {t : Nat} (hS : pS P ≤ 6) (hn : n ≤ 6) : (oL P t n lf).length < 3000000 := by
  have h1 : (oL P t n lf).length ≤ 12 ^ n := Nat.le_trans (List.length_filter_le _ _) (lv0_len hS n [] lf)
  have h2 : 12 ^ n ≤ 12 ^ 6 := Nat.pow_le_pow_right (by decide) hn
  omega
theorem fct_6 : ∀ n, n < 7 → 1 ≤ fct n ∧ fct n ≤ 720 := by decide
theorem ext6 : ∀ a, a < 64 → ∀ b, b < 64 → (∀ s, s < 6 → a / 2 ^ s % 2 = b / 2 ^ s % 2) → a = b := by decide +kernel
theorem msk_rem {P : PG} {n p : Nat} {f : Nat → Nat} (h : rowV P n f) (hS : pS P ≤ 6) (hp : p < n) : mskF (fun j => f (crr p (n - 1) j)) (n - 1) = stb (mskF f n) (f p) 0 := by
  have hf6 : ∀ j, j < n → f j < 6 := fun j hj => by have := h.1 j hj; omega
  have hg6 : ∀ j, j < n - 1 → f (crr p (n - 1) j) < 6 := fun j hj => hf6 _ (crr_lt hp (by omega) (by omega))
  refine ext6 _ (mskF_lt hg6) _ (bit_clr _ (mskF_lt hf6) _ (hf6 p hp)).2 (fun s hs => ?_)
  rw [stb_bit _ (mskF_lt hf6) _ (hf6 p hp) 0 (by omega) s hs]
  have e1 := mskF_bit (f := fun j => f (crr p (n - 1) j)) hs hg6
  have e2 := mskF_bit (f := f) hs hf6
  have b1 := bit_lt2 (mskF (fun j => f (crr p (n - 1) j)) (n - 1)) s
  have b2 := bit_lt2 (mskF f n) s
  by_cases c : s = f p
  · rw [if_pos c]
    have : ¬ mskF (fun j => f (crr p (n - 1) j)) (n - 1) / 2 ^ s % 2 = 1 := by
      rw [e1]
      rintro ⟨j, h1, h2⟩
      rw [c] at h2
      have := h.2 _ _ (crr_lt hp (by omega) (by omega)) hp h2
      unfold crr at this
      repeat' split at this
      all_goals omega
    omega
  · rw [if_neg c]
    have : mskF (fun j => f (crr p (n - 1) j)) (n - 1) / 2 ^ s % 2 = 1 ↔ mskF f n / 2 ^ s % 2 = 1 := by
      rw [e1, e2]
      constructor
      · rintro ⟨j, h1, h2⟩
        exact ⟨_, crr_lt hp (by omega) (by omega), h2⟩
      · rintro ⟨j, h1, h2⟩
        have hjp : j ≠ p := fun q => c (by rw [← h2, q])
        refine ⟨if j < p then j else j - 1, by split <;> omega, ?_⟩
        show f (crr p (n - 1) _) = s
        rw [← h2]
        congr 1
        unfold crr
        repeat' split
        all_goals omega
    omega
theorem scr_sc {x y : mm_HI} (h : fr [104, 104 + 1] x y) : scr x y := ⟨fun c hc => h c (by simp; omega), by rw [h 88 (by simp)], by rw [h 88 (by simp)], by rw [h 99 (by simp)], by rw [h 99 (by simp)], h 95 (by simp)⟩
theorem flF.scr {x y : mm_HI} (h : flF x) (hs : scr x y) : flF y := by
  obtain ⟨f1, f2, f3, f4, f5, f6⟩ := h
  exact ⟨hs.2.1.trans f1, hs.2.2.1.trans f2, by rw [hs.2.2.2.2.2]; exact f3, by rw [hs.2.2.2.2.2]; exact f4, hs.2.2.2.1.trans f5, hs.2.2.2.2.1.trans f6⟩
theorem nI_m1 : ∀ m, m < 64 → nI m ≠ -1 := by decide +kernel
theorem and_nI (a b : Nat) : nI a &&& nI b = nI (a &&& b) := by
  apply Int32.toBitVec_inj.mp
  simp [nI, Int32.toBitVec_and, Int32.toBitVec_ofNat, BitVec.ofNat_and]
theorem sl_31 : ∀ n, n < 32 → ((nI n &&& 31).toBitVec.smod 32).toNat = n := by decide +kernel
theorem shr_nI {a s : Nat} (ha : a < 2 ^ 31) (hs : s < 32) : nI a >>> (nI s &&& 31) = nI (a / 2 ^ s) := pk_shrN ha _ s (sl_31 s hs)
theorem and_mod2 (a b : Nat) : (a &&& b) % 2 = a % 2 * (b % 2) := by
  have h := Nat.and_mod_two_pow (a := a) (b := b) (n := 1)
  rw [Nat.pow_one] at h
  rw [h]
  rcases Nat.mod_two_eq_zero_or_one a with x | x <;> rcases Nat.mod_two_eq_zero_or_one b with y | y <;> rw [x, y] <;> rfl
theorem bitmul (a b : Nat) : nI (a &&& b) &&& nI 1 = nI (a % 2 * (b % 2)) := by
  rw [and_nI, Nat.and_one_is_mod, and_mod2]
theorem letM_lt {g : Nat → Nat} (h : ∀ k, g k ≤ 26) : ∀ k, letM g k < 2 ^ 26
  | 0 => by show (0 : Nat) < 2 ^ 26; decide
  | k + 1 => by
    unfold letM
    split
    · exact letM_lt h k
    · rename_i c
      refine Nat.or_lt_two_pow (letM_lt h k) ?_
      exact Nat.pow_lt_pow_right (by decide) (by have := h k; omega)
theorem letO_lt {P : PG} (h : pOK P) (s : Nat) : letO P s < 67108864 := letM_lt (fun k => h.2.2.2.1 _ _ _) _
theorem mkS_lt {w : Nat} : ∀ {sl : List (Nat × Nat)}, (∀ q ∈ sl, q.1 < 26 ∧ q.2 < 2) → mkS w sl < 67108864
  | [], _ => by show (0 : Nat) < _; decide
  | q :: sl, h => by
    unfold mkS
    refine Nat.or_lt_two_pow (n := 26) ?_ (mkS_lt (fun q hq => h q (List.mem_cons_of_mem _ hq)))
    split
    · exact Nat.pow_lt_pow_right (by decide) (h q List.mem_cons_self).1
    · decide
theorem mkS_app (w : Nat) (q : Nat × Nat) : ∀ (sl : List (Nat × Nat)), mkS w (sl ++ [q]) = mkS w sl ||| (if q.2 = w then 2 ^ q.1 else 0)
  | [] => by simp [mkS]
  | a :: sl => by
    rw [List.cons_append]
    unfold mkS
    rw [mkS_app w q sl, Nat.or_assoc]
theorem whM_lt (P : PG) (sl : List (Nat × Nat)) : ∀ s, s ≤ 6 → whM P sl s < 64
  | 0, _ => by show (0 : Nat) < 64; decide
  | s + 1, hs => by
    unfold whM
    split
    · exact bit_or_lt _ (whM_lt P sl s (by omega)) _ (by omega)
    · rw [Nat.or_zero]; exact whM_lt P sl s (by omega)
def pcs (W : Nat) : Nat → Nat
  | 0 => 0
  | s + 1 => pcs W s + W / 2 ^ s % 2
theorem hvM_le (P : PG) (W c : Nat) : ∀ s, hvM P W c s ≤ pcs W s
  | 0 => Nat.le_refl _
  | s + 1 => by
    unfold hvM pcs
    have := hvM_le P W c s
    have h2 := bit_lt2 (letO P s) c
    have h3 : W / 2 ^ s % 2 * (letO P s / 2 ^ c % 2) ≤ W / 2 ^ s % 2 * 1 := Nat.mul_le_mul_left _ (by omega)
    omega
theorem pcs_le (W : Nat) : ∀ s, s ≤ 6 → pcs W s ≤ pcn W := by
  have e : pcn W = pcs W 6 := by simp [pcn, pcs]
  have m : ∀ k s, pcs W s ≤ pcs W (s + k) := by
    intro k
    induction k with
    | zero => intro s; exact Nat.le_refl _
    | succ k ih => intro s; exact Nat.le_trans (ih s) (Nat.le_add_right _ _)
  intro s hs
  rw [e]
  have := m (6 - s) s
  rwa [show s + (6 - s) = 6 by omega] at this
theorem pcn_6 (W : Nat) : pcn W ≤ 6 := by
  unfold pcn
  have h0 := bit_lt2 W 0
  have h1 := bit_lt2 W 1
  have h2 := bit_lt2 W 2
  have h3 := bit_lt2 W 3
  have h4 := bit_lt2 W 4
  have h5 := bit_lt2 W 5
  omega
theorem gcd_top {u l e : Nat} (hl : 0 < l) (he : e ≤ l) (h1 : e ∣ u) (h2 : e ∣ l) (h : ∀ z, e < z → z ≤ l → ¬ (z ∣ u ∧ z ∣ l)) : Nat.gcd u l = e := by
  have a := Nat.dvd_gcd h1 h2
  have b := Nat.le_of_dvd (Nat.gcd_pos_of_pos_right u hl) a
  have c := Nat.le_of_dvd hl (Nat.gcd_dvd_right u l)
  rcases Nat.lt_or_ge e (Nat.gcd u l) with q | q
  · exact absurd ⟨Nat.gcd_dvd_left u l, Nat.gcd_dvd_right u l⟩ (h _ q c)
  · omega
/-- the trace goes on -/
def tU (τ : mm_T) (k : Int64) : mm_T := (τ.1, va_up τ.2 0 (va_up (τ.2 0) 10 (τ.2 0 10 + k)))
theorem tU_add (τ : mm_T) (a c : Int64) : tU (tU τ a) c = tU τ (a + c) := by
  unfold tU
  refine Prod.ext rfl ?_
  funext z k
  by_cases hz : z = 0
  · subst hz
    by_cases hk : k = 10
    · subst hk; simp [va_up, Int64.add_assoc]
    · simp [va_up, hk]
  · simp [va_up, hz]
theorem cS.tr {P : PG} {n : Nat} {f : Nat → Nat} {t K : Nat} {pn : Nat → Nat} {pf : Nat → Nat → Nat} {pt : Nat → Nat} {im : Nat → Option DK} {sl : List (Nat × Nat)} {N : Nat} {b : Nat → Nat} {tr : Int64} {x : mm_HI} {τ : mm_T} (hC : cS P n f t K pn pf pt im sl N b tr x τ) (k : Int64) : cS P n f t K pn pf pt im sl N b (tr + k) x (tU τ k) := by
  obtain ⟨sw, nx, nd, hτ, hS, hD, hV, hI, hIV, hN, hNO, hT, hFl, hE, hTr⟩ := hC
  exact ⟨sw, nx, nd, hτ, hS, hD, hV, hI, hIV, hN, hNO, hT, hFl, hE, by rw [← hTr]; simp [tU, va_up]⟩
theorem cS.sn {P : PG} {n : Nat} {f : Nat → Nat} {t K : Nat} {pn : Nat → Nat} {pf : Nat → Nat → Nat} {pt : Nat → Nat} {im : Nat → Option DK} {sl : List (Nat × Nat)} {N : Nat} {b : Nat → Nat} {tr : Int64} {x y : mm_HI} {τ : mm_T} (hC : cS P n f t K pn pf pt im sl N b tr x τ) {sl2 : List (Nat × Nat)} (hf : fr [0] x y) (h6 : y 0 6 = x 0 6) (hs : snF y sl2) (ho : snOK sl2) : cS P n f t K pn pf pt im sl2 N b tr y τ := by
  obtain ⟨sw, nx, nd, hτ, hS, hD, hV, hI, hIV, hN, hNO, hT, hFl, hE, hTr⟩ := hC
  have h7 := ly7 (ly_sh sw)
  refine ⟨sw, nx, nd, hτ, hS.keep (fun c h1 h2 => hf c (by simp; omega)), hD.keep (fun c h1 h2 => hf c (by simp; omega)), hV, hI.keep h6 (fun c h1 h2 => hf c (by simp; omega)), hIV, hs, ho, hT.keep (by rw [hf 1 (by simp)]) (hf 2 (by simp)), ?_, hE.keep (hf 95 (by simp)), hTr⟩
  obtain ⟨f1, f2, f3, f4, f5, f6⟩ := hFl
  exact ⟨by rw [hf 88 (by simp)]; exact f1, by rw [hf 88 (by simp)]; exact f2, by rw [hf 95 (by simp)]; exact f3, by rw [hf 95 (by simp)]; exact f4, by rw [hf 99 (by simp)]; exact f5, by rw [hf 99 (by simp)]; exact f6⟩
theorem cS.ew {P : PG} {n : Nat} {f : Nat → Nat} {t K : Nat} {pn : Nat → Nat} {pf : Nat → Nat → Nat} {pt : Nat → Nat} {im : Nat → Option DK} {sl : List (Nat × Nat)} {N : Nat} {b : Nat → Nat} {tr : Int64} {x y : mm_HI} {τ : mm_T} (hC : cS P n f t K pn pf pt im sl N b tr x τ) (hf : frr 95 99 x y) (hl : flF y) (he : ewC y P) : cS P n f t K pn pf pt im sl N b tr y τ := by
  obtain ⟨sw, nx, nd, hτ, hS, hD, hV, hI, hIV, hN, hNO, hT, hFl, hE, hTr⟩ := hC
  have h7 := ly7 (ly_sh sw)
  have h0 : y 0 = x 0 := hf 0 (by omega)
  exact ⟨sw, nx, nd, hτ, hS.keep (fun c h1 h2 => hf c (by omega)), hD.keep (fun c h1 h2 => hf c (by omega)), hV, hI.keep (by rw [h0]) (fun c h1 h2 => hf c (by omega)), hIV, ⟨by rw [h0]; exact hN.1, by rw [h0]; exact hN.2.1, by rw [h0]; exact hN.2.2⟩, hNO, hT.keep (by rw [hf 1 (by omega)]) (hf 2 (by omega)), hl, he, hTr⟩
set_option maxHeartbeats 2000000 in
theorem c_aliens {d : Nat} (hd : 15 ≤ d) {hi : mm_HI} {τ : mm_T} {P : PG} {n : Nat} {f : Nat → Nat} {t K : Nat} {pn : Nat → Nat} {pf : Nat → Nat → Nat} {pt : Nat → Nat} {im : Nat → Option DK} {sl : List (Nat × Nat)} {N : Nat} {b : Nat → Nat} {tr : Int64} (hC : cS P n f t K pn pf pt im sl N b tr hi τ) : wI d yX10_aliens [.ref 0] hi τ (fun x h => x = nI (alM P n f t n) ∧ scr hi h) := by
  refine w_intro (by omega) M_X10_aliens (Nat.le_of_ble_eq_true rfl) rfl ?_
  intro e X he G
  show X 0 [some (.ref (0)), none, none, none] [] hi τ 125
  obtain ⟨sw, nx, nd, hτ, hS, hD, hV, hI, hIV, hN, hNO, hT, hFl, hE, hTr⟩ := id hC
  have hS6 := hS.2.2.2.1.2.2.1
  have hL3 : pL P ≤ 3 := hS.2.2.2.1.2.1
  have hn6 := hD.1.2.2.2.1
  have hRw : rowF hi 16 n f t := hD.1
  have hfs : ∀ j, j < n → f j < pS P := hV.1.1
  refine q_iconst (v := nI 0) G (pc := 0) dX10_aliens_0 (by decide) ?_
  refine q_istore_n G (pc := 1) dX10_aliens_1 (by decide) ?_
  show X _ [_, _, _, _] _ _ _ _
  refine q_iconst (v := nI 0) G (pc := 2) dX10_aliens_2 (by decide) ?_
  refine q_istore_n G (pc := 3) dX10_aliens_3 (by decide) ?_
  show X _ [_, _, _, _] _ _ _ _
  have L4 : ∀ (zz : Nat) (p : Nat) (hk : mm_HI) (v3 : Option Value), n - p < zz → p ≤ n → scr hi hk → X 4 [some (.ref (0)), some (.int (nI (alM P n f t p))), some (.int (nI (p))), v3] [] hk τ 125 := by
    intro zz
    induction zz with
    | zero => intro p hk v3 hm; exact absurd hm (Nat.not_lt_zero _)
    | succ zz ih4 =>
      intro p hk v3 hm h0 g1
      refine q_iload_n G (pc := 4) dX10_aliens_4 rfl ?_
      refine q_aload_n G (pc := 5) dX10_aliens_5 rfl ?_
      refine q_getR (x := 15) G (pc := 6) dX10_aliens_6 fl_X10_29_9 rfl (hg hτ (hf_9_3 rfl)) ?_
      refine q_getR (x := 16) G (pc := 9) dX10_aliens_9 fl_X10_109_1 rfl (hg hτ (hf_1_0 rfl)) ?_
      refine q_getI (v := nI (n)) G (pc := 12) dX10_aliens_12 fl_X10_182_6 (by decide) rfl (hRw.scr g1).1 ?_
      refine q_icmp_geN (tgt := 90) G (pc := 15) dX10_aliens_15 (by decide) (by omega) (by omega) (fun c15 => ?_) (fun c15 => ?_)
      · refine q_iload_n G (pc := 90) dX10_aliens_90 rfl ?_
        refine q_iret G (pc := 91) dX10_aliens_91 (Or.inl rfl) ?_
        exact ⟨rfl, _, rfl, by rw [show p = n by omega], g1⟩
      · refine q_aload_n G (pc := 18) dX10_aliens_18 rfl ?_
        refine q_getR (x := 15) G (pc := 19) dX10_aliens_19 fl_X10_29_9 rfl (hg hτ (hf_9_3 rfl)) ?_
        refine q_getR (x := 16) G (pc := 22) dX10_aliens_22 fl_X10_109_1 rfl (hg hτ (hf_1_0 rfl)) ?_
        refine q_getR (x := 17) G (pc := 25) dX10_aliens_25 fl_X10_143_6 rfl (hg hτ (hf_6_0 rfl)) ?_
        refine q_iload_n G (pc := 28) dX10_aliens_28 rfl ?_
        refine q_iald (j := p) (v := nI (f p)) G (pc := 29) dX10_aliens_29 rfl rfl (by omega) ((hRw.scr g1).2.2.1 p (by omega)) ?_
        have hpf : f p < pS P := hfs p (by show p < n; omega)
        have hfp : fnd f (f p) n = some p := fnd_of (by omega) rfl (fun i hi2 q => by have := hV.1.2 i p (by show i < n; omega) (by show p < n; omega) q; omega)
        refine q_istore_n G (pc := 30) dX10_aliens_30 (by decide) ?_
        show X _ [_, _, _, _] _ _ _ _
        refine q_aload_n G (pc := 31) dX10_aliens_31 rfl ?_
        refine q_getR (x := 104) G (pc := 32) dX10_aliens_32 fl_X10_70_9 rfl (hg hτ (hf_9_15 rfl)) ?_
        refine q_aload_n G (pc := 35) dX10_aliens_35 rfl ?_
        refine q_getR (x := 15) G (pc := 36) dX10_aliens_36 fl_X10_29_9 rfl (hg hτ (hf_9_3 rfl)) ?_
        refine q_getR (x := 16) G (pc := 39) dX10_aliens_39 fl_X10_109_1 rfl (hg hτ (hf_1_0 rfl)) ?_
        refine q_cV1V G (pc := 42) dX10_aliens_42 cv_X10_295 rfl (s_X6_copy (by omega) hτ (r := 104) (q := 16) rfl rfl (by decide) (hRw.scr g1)) (Nat.le_of_ble_eq_true rfl) ?_
        intro hk2 hx
        obtain ⟨x1, x2⟩ := hx
        refine q_aload_n G (pc := 45) dX10_aliens_45 rfl ?_
        refine q_getR (x := 104) G (pc := 46) dX10_aliens_46 fl_X10_70_9 rfl (hg hτ (hf_9_15 rfl)) ?_
        refine q_iload_n G (pc := 49) dX10_aliens_49 rfl ?_
        refine q_cV1V G (pc := 50) dX10_aliens_50 cv_X10_179 rfl (s_X6_remove (by omega) hτ (r := 104) rfl x1 (s := f p) (by omega) hfp) (Nat.le_of_ble_eq_true rfl) ?_
        intro hk3 hy
        obtain ⟨y1, y2⟩ := hy
        have g3 : scr hi hk3 := (g1.trans (scr_sc x2)).trans (scr_sc y2)
        have hvr : rowV P (n - 1) (fun j => f (crr p (n - 1) j)) := rowV_lt (rowV_crr hV.1 (by show p < n; omega) (by show n - 1 < n; omega)) (by show n - 1 ≤ n; omega)
        refine q_aload_n G (pc := 53) dX10_aliens_53 rfl ?_
        refine q_getR (x := 88) G (pc := 54) dX10_aliens_54 fl_X10_49_9 rfl (hg hτ (hf_9_12 rfl)) ?_
        refine q_aload_n G (pc := 57) dX10_aliens_57 rfl ?_
        refine q_getR (x := mm_sh sw) G (pc := 58) dX10_aliens_58 fl_X10_19_9 rfl (hg hτ (hf_sh sw)) ?_
        refine q_aload_n G (pc := 61) dX10_aliens_61 rfl ?_
        refine q_getR (x := 104) G (pc := 62) dX10_aliens_62 fl_X10_70_9 rfl (hg hτ (hf_9_15 rfl)) ?_
        refine q_cU2V G (pc := 65) dX10_aliens_65 cu_X10_122_5 rfl (c_search5 (by omega) hτ (hS.scr g3) (hFl.scr g3) (Or.inr rfl) y1 hvr) (Nat.le_of_ble_eq_true rfl) ?_
        intro hk4 hz
        obtain ⟨z1, z2, z3, z4, z5, z6⟩ := hz
        have hlt := oC_lt (P := P) (t := t) (n := n - 1) (lf := stb (mskF f n) (f p) 0) hS6 (by omega)
        refine q_aload_n G (pc := 68) dX10_aliens_68 rfl ?_
        refine q_getR (x := 88) G (pc := 69) dX10_aliens_69 fl_X10_49_9 rfl (hg hτ (hf_9_12 rfl)) ?_
        refine q_getI (v := nI ((oL P t (n - 1) (stb (mskF f n) (f p) 0)).length)) G (pc := 72) dX10_aliens_72 fl_X10_217_5 (by decide) rfl (by rw [z1, roA_len]; unfold oC; rw [msk_rem hV.1 hS6 (by show p < n; omega)]) ?_
        refine q_if_leN (tgt := 84) G (pc := 75) dX10_aliens_75 (by decide) (by omega) (fun c75 => ?_) (fun c75 => ?_)
        · refine q_iincN G (pc := 84) dX10_aliens_84 rfl (inc1 _) (by decide) ?_
          show X _ [_, _, _, _] _ _ _ _
          refine q_goto (tgt := 4) G (pc := 87) dX10_aliens_87 (by decide) ?_
          have e1 : alM P n f t (p + 1) = alM P n f t p := by show _ ||| _ = _; rw [if_pos c75, Nat.or_zero]
          rw [← e1]
          exact ih4 (p + 1) _ _ (by omega) (by omega) (g3.trans z5)
        · refine q_iload_n G (pc := 78) dX10_aliens_78 rfl ?_
          refine q_iconst (v := 1) G (pc := 79) dX10_aliens_79 (by decide) ?_
          refine q_iload_n G (pc := 80) dX10_aliens_80 rfl ?_
          refine q_ishl G (pc := 81) dX10_aliens_81 ?_
          rw [bit_one _ (by omega)]
          refine q_ior G (pc := 82) dX10_aliens_82 ?_
          rw [or_nI]
          refine q_istore_n G (pc := 83) dX10_aliens_83 (by decide) ?_
          show X _ [_, _, _, _] _ _ _ _
          refine q_iincN G (pc := 84) dX10_aliens_84 rfl (inc1 _) (by decide) ?_
          show X _ [_, _, _, _] _ _ _ _
          refine q_goto (tgt := 4) G (pc := 87) dX10_aliens_87 (by decide) ?_
          have e1 : alM P n f t (p + 1) = alM P n f t p ||| 2 ^ f p := by show _ ||| _ = _; rw [if_neg (by omega)]
          rw [← e1]
          exact ih4 (p + 1) _ _ (by omega) (by omega) (g3.trans z5)
  exact L4 _ 0 hi _ (Nat.lt_succ_self _) (by omega) scr.rf
set_option maxHeartbeats 2000000 in
theorem c_now {d : Nat} (hd : 16 ≤ d) {hi : mm_HI} {τ : mm_T} {P : PG} {n : Nat} {f : Nat → Nat} {t K : Nat} {pn : Nat → Nat} {pf : Nat → Nat → Nat} {pt : Nat → Nat} {im : Nat → Option DK} {sl : List (Nat × Nat)} {N : Nat} {b : Nat → Nat} {tr : Int64} (hC : cS P n f t K pn pf pt im sl N b tr hi τ) {x : Int32} : wR d yX10_now [.ref 0, .int x] hi τ (CQ (zNow (mkT P n f t K pn pf pt im sl N b tr) (ix x 6)) hi τ) := by
  refine w_intro (by omega) M_X10_now (Nat.le_of_ble_eq_true rfl) rfl ?_
  intro e X he G
  show X 0 [some (.ref (0)), some (.int (x))] [] hi τ 125
  obtain ⟨sw, nx, nd, hτ, hS, hD, hV, hI, hIV, hN, hNO, hT, hFl, hE, hTr⟩ := id hC
  have hS6 := hS.2.2.2.1.2.2.1
  have hL3 : pL P ≤ 3 := hS.2.2.2.1.2.1
  have hn6 := hD.1.2.2.2.1
  have hRw : rowF hi 16 n f t := hD.1
  have hfs : ∀ j, j < n → f j < pS P := hV.1.1
  refine q_iload_n G (pc := 0) dX10_now_0 rfl ?_
  rcases tab5 (x) with k1 | k1 | k1 | k1 | k1 | k1 | k1
  · refine q_tableOut (tgt := 103) G (pc := 1) dX10_now_1 (k1) (by decide) ?_
    refine q_iconst (v := -1) G (pc := 103) dX10_now_103 (by decide) ?_
    refine q_iret G (pc := 104) dX10_now_104 (Or.inl rfl) ?_
    exact CQ.of (by rw [ix_none (tab_n (n := 5) (by decide) k1)]; rfl) (hC.post scr.rf _)
  · subst k1
    refine q_tableIn (off := 39) (tgt := 40) G (pc := 1) dX10_now_1 (by decide) (by decide) (by decide) (by decide) ?_
    refine q_aload_n G (pc := 40) dX10_now_40 rfl ?_
    refine q_getR (x := 15) G (pc := 41) dX10_now_41 fl_X10_29_9 rfl (hg hτ (hf_9_3 rfl)) ?_
    refine q_getR (x := 16) G (pc := 44) dX10_now_44 fl_X10_109_1 rfl (hg hτ (hf_1_0 rfl)) ?_
    refine q_getI (v := nI (n)) G (pc := 47) dX10_now_47 fl_X10_182_6 (by decide) rfl hRw.1 ?_
    refine q_iret G (pc := 50) dX10_now_50 (Or.inl rfl) ?_
    exact CQ.of (by rw [ix_some (s := 0) (n := 6) (by decide) (by decide)]; rfl) (hC.post scr.rf _)
  · subst k1
    refine q_tableIn (off := 50) (tgt := 51) G (pc := 1) dX10_now_1 (by decide) (by decide) (by decide) (by decide) ?_
    refine q_aload_n G (pc := 51) dX10_now_51 rfl ?_
    refine q_cV0I G (pc := 52) dX10_now_52 cv_X10_161 rfl (c_rightLines (by omega) hC) (Nat.le_of_ble_eq_true rfl) ?_
    intro xa hk hx
    obtain ⟨rfl, x5⟩ := hx
    refine q_iret G (pc := 55) dX10_now_55 (Or.inl rfl) ?_
    exact CQ.of (by rw [ix_some (s := 1) (n := 6) (by decide) (by decide)]; rfl) (hC.post x5 _)
  · subst k1
    refine q_tableIn (off := 55) (tgt := 56) G (pc := 1) dX10_now_1 (by decide) (by decide) (by decide) (by decide) ?_
    refine q_aload_n G (pc := 56) dX10_now_56 rfl ?_
    refine q_cV0I G (pc := 57) dX10_now_57 cv_X10_194 rfl (c_rightRuns (by omega) hC) (Nat.le_of_ble_eq_true rfl) ?_
    intro xa hk hx
    obtain ⟨rfl, x5⟩ := hx
    refine q_iret G (pc := 60) dX10_now_60 (Or.inl rfl) ?_
    exact CQ.of (by rw [ix_some (s := 2) (n := 6) (by decide) (by decide)]; rfl) (hC.post x5 _)
  · subst k1
    refine q_tableIn (off := 60) (tgt := 61) G (pc := 1) dX10_now_1 (by decide) (by decide) (by decide) (by decide) ?_
    refine q_aload_n G (pc := 61) dX10_now_61 rfl ?_
    refine q_getR (x := 15) G (pc := 62) dX10_now_62 fl_X10_29_9 rfl (hg hτ (hf_9_3 rfl)) ?_
    refine q_getR (x := 16) G (pc := 65) dX10_now_65 fl_X10_109_1 rfl (hg hτ (hf_1_0 rfl)) ?_
    refine q_cV0E G (pc := 68) dX10_now_68 cv_X10_197 rfl (s_X6_number (by omega) hτ (r := 16) rfl hRw) (Nat.le_of_ble_eq_true rfl) ?_
    refine q_iret G (pc := 71) dX10_now_71 (Or.inl rfl) ?_
    exact CQ.of (by rw [ix_some (s := 3) (n := 6) (by decide) (by decide)]; rfl) (hC.post scr.rf _)
  · subst k1
    refine q_tableIn (off := 71) (tgt := 72) G (pc := 1) dX10_now_1 (by decide) (by decide) (by decide) (by decide) ?_
    refine q_aload_n G (pc := 72) dX10_now_72 rfl ?_
    refine q_cV0I G (pc := 73) dX10_now_73 cv_X10_200 rfl (c_aliens (by omega) hC) (Nat.le_of_ble_eq_true rfl) ?_
    intro xa hk hx
    obtain ⟨rfl, x5⟩ := hx
    refine q_iret G (pc := 76) dX10_now_76 (Or.inl rfl) ?_
    exact CQ.of (by rw [ix_some (s := 4) (n := 6) (by decide) (by decide)]; rfl) (hC.post x5 _)
  · subst k1
    refine q_tableIn (off := 76) (tgt := 77) G (pc := 1) dX10_now_1 (by decide) (by decide) (by decide) (by decide) ?_
    refine q_aload_n G (pc := 77) dX10_now_77 rfl ?_
    refine q_getR (x := 88) G (pc := 78) dX10_now_78 fl_X10_49_9 rfl (hg hτ (hf_9_12 rfl)) ?_
    refine q_aload_n G (pc := 81) dX10_now_81 rfl ?_
    refine q_getR (x := mm_sh sw) G (pc := 82) dX10_now_82 fl_X10_19_9 rfl (hg hτ (hf_sh sw)) ?_
    refine q_aload_n G (pc := 85) dX10_now_85 rfl ?_
    refine q_getR (x := 15) G (pc := 86) dX10_now_86 fl_X10_29_9 rfl (hg hτ (hf_9_3 rfl)) ?_
    refine q_getR (x := 16) G (pc := 89) dX10_now_89 fl_X10_109_1 rfl (hg hτ (hf_1_0 rfl)) ?_
    refine q_cU2V G (pc := 92) dX10_now_92 cu_X10_122_5 rfl (c_search5 (by omega) hτ hS hFl (Or.inl rfl) hRw hV.1) (Nat.le_of_ble_eq_true rfl) ?_
    intro hk hx
    obtain ⟨x1, x2, x3, x4, x5, x6⟩ := hx
    refine q_aload_n G (pc := 95) dX10_now_95 rfl ?_
    refine q_getR (x := 88) G (pc := 96) dX10_now_96 fl_X10_49_9 rfl (hg hτ (hf_9_12 rfl)) ?_
    refine q_getI (v := (roA P n f t).2.2.1) G (pc := 99) dX10_now_99 fl_X10_203_5 (by decide) rfl x3 ?_
    refine q_iret G (pc := 102) dX10_now_102 (Or.inl rfl) ?_
    exact CQ.of (by rw [ix_some (s := 5) (n := 6) (by decide) (by decide)]; rfl) (hC.post x5 _)
set_option maxHeartbeats 2000000 in
theorem c_line {d : Nat} (hd : 4 ≤ d) {hi : mm_HI} {τ : mm_T} {P : PG} {n : Nat} {f : Nat → Nat} {t K : Nat} {pn : Nat → Nat} {pf : Nat → Nat → Nat} {pt : Nat → Nat} {im : Nat → Option DK} {sl : List (Nat × Nat)} {N : Nat} {b : Nat → Nat} {tr : Int64} (hC : cS P n f t K pn pf pt im sl N b tr hi τ) {x : Int32} {y : Int32} : wR d yX10_line [.ref 0, .int x, .int y] hi τ (CQ (zLine (mkT P n f t K pn pf pt im sl N b tr) (ix x (pL P)) (ix y 3)) hi τ) := by
  refine w_intro (by omega) M_X10_line (Nat.le_of_ble_eq_true rfl) rfl ?_
  intro e X he G
  show X 0 [some (.ref (0)), some (.int (x)), some (.int (y))] [] hi τ 125
  obtain ⟨sw, nx, nd, hτ, hS, hD, hV, hI, hIV, hN, hNO, hT, hFl, hE, hTr⟩ := id hC
  have hS6 := hS.2.2.2.1.2.2.1
  have hL3 : pL P ≤ 3 := hS.2.2.2.1.2.1
  have hn6 := hD.1.2.2.2.1
  have hRw : rowF hi 16 n f t := hD.1
  have hfs : ∀ j, j < n → f j < pS P := hV.1.1
  refine q_aload_n G (pc := 0) dX10_line_0 rfl ?_
  refine q_iload_n G (pc := 1) dX10_line_1 rfl ?_
  refine q_cV1B G (pc := 2) dX10_line_2 cv_X10_130 rfl (c_isLine (by omega) hC) (Nat.le_of_ble_eq_true rfl) (fun c2 => ?_) (fun c2 => ?_)
  · obtain ⟨l, hl, rfl⟩ := c2
    refine q_if_neN (tgt := 10) G (pc := 5) dX10_line_5 (by decide) (by omega) (fun _ => ?_) (fun c5 => absurd c5 (by decide))
    refine q_aload_n G (pc := 10) dX10_line_10 rfl ?_
    refine q_getR (x := 87) G (pc := 11) dX10_line_11 fl_X10_42_9 rfl (hg hτ (hf_9_11 rfl)) ?_
    refine q_aload_n G (pc := 14) dX10_line_14 rfl ?_
    refine q_getR (x := mm_sh sw) G (pc := 15) dX10_line_15 fl_X10_19_9 rfl (hg hτ (hf_sh sw)) ?_
    refine q_aload_n G (pc := 18) dX10_line_18 rfl ?_
    refine q_getR (x := 15) G (pc := 19) dX10_line_19 fl_X10_29_9 rfl (hg hτ (hf_9_3 rfl)) ?_
    refine q_getR (x := 16) G (pc := 22) dX10_line_22 fl_X10_109_1 rfl (hg hτ (hf_1_0 rfl)) ?_
    refine q_iload_n G (pc := 25) dX10_line_25 rfl ?_
    refine q_cV3V G (pc := 26) dX10_line_26 cv_X10_206 rfl (s_X4_read (by omega) hτ (rd := 87) rfl (ly_sh sw) hS (r := 16) rfl hRw hfs hl) (Nat.le_of_ble_eq_true rfl) ?_
    intro hk hx
    obtain ⟨x1, x2⟩ := hx
    have x5 : scr hi hk := scr.rd x2
    refine q_iload_n G (pc := 29) dX10_line_29 rfl ?_
    rcases tab2 (y) with k30 | k30 | k30 | k30
    · refine q_tableOut (tgt := 80) G (pc := 30) dX10_line_30 (k30) (by decide) ?_
      refine q_iconst (v := -1) G (pc := 80) dX10_line_80 (by decide) ?_
      refine q_iret G (pc := 81) dX10_line_81 (Or.inl rfl) ?_
      exact CQ.of (by rw [ix_some hl (by omega), ix_none (tab_n (n := 2) (by decide) k30)]; rfl) (hC.post x5 _)
    · subst k30
      refine q_tableIn (off := 26) (tgt := 56) G (pc := 30) dX10_line_30 (by decide) (by decide) (by decide) (by decide) ?_
      refine q_aload_n G (pc := 56) dX10_line_56 rfl ?_
      refine q_getR (x := 87) G (pc := 57) dX10_line_57 fl_X10_42_9 rfl (hg hτ (hf_9_11 rfl)) ?_
      refine q_getI (v := nI ((rdA P n f t l).1)) G (pc := 60) dX10_line_60 fl_X10_210_4 (by decide) rfl x1.1 ?_
      refine q_iret G (pc := 63) dX10_line_63 (Or.inl rfl) ?_
      exact CQ.of (by rw [ix_some hl (by omega), ix_some (s := 0) (n := 3) (by decide) (by decide)]; rfl) (hC.post x5 _)
    · subst k30
      refine q_tableIn (off := 34) (tgt := 64) G (pc := 30) dX10_line_30 (by decide) (by decide) (by decide) (by decide) ?_
      refine q_aload_n G (pc := 64) dX10_line_64 rfl ?_
      refine q_getR (x := 87) G (pc := 65) dX10_line_65 fl_X10_42_9 rfl (hg hτ (hf_9_11 rfl)) ?_
      refine q_getI (v := nI ((rdA P n f t l).2.1)) G (pc := 68) dX10_line_68 fl_X10_213_4 (by decide) rfl x1.2.1 ?_
      refine q_iret G (pc := 71) dX10_line_71 (Or.inl rfl) ?_
      exact CQ.of (by rw [ix_some hl (by omega), ix_some (s := 1) (n := 3) (by decide) (by decide)]; rfl) (hC.post x5 _)
    · subst k30
      refine q_tableIn (off := 42) (tgt := 72) G (pc := 30) dX10_line_30 (by decide) (by decide) (by decide) (by decide) ?_
      refine q_aload_n G (pc := 72) dX10_line_72 rfl ?_
      refine q_getR (x := 87) G (pc := 73) dX10_line_73 fl_X10_42_9 rfl (hg hτ (hf_9_11 rfl)) ?_
      refine q_getI (v := nI ((rdA P n f t l).2.2.1)) G (pc := 76) dX10_line_76 fl_X10_215_4 (by decide) rfl x1.2.2.1 ?_
      refine q_iret G (pc := 79) dX10_line_79 (Or.inl rfl) ?_
      exact CQ.of (by rw [ix_some hl (by omega), ix_some (s := 2) (n := 3) (by decide) (by decide)]; rfl) (hC.post x5 _)
  · refine q_if_neN (tgt := 10) G (pc := 5) dX10_line_5 (by decide) (by omega) (fun c5 => absurd c5 (by decide)) (fun _ => ?_)
    refine q_iconst (v := -1) G (pc := 8) dX10_line_8 (by decide) ?_
    refine q_iret G (pc := 9) dX10_line_9 (Or.inl rfl) ?_
    exact CQ.of (by rw [ix_none c2]; rfl) (hC.post scr.rf _)
set_option maxHeartbeats 2000000 in
theorem c_reads {d : Nat} (hd : 4 ≤ d) {hi : mm_HI} {τ : mm_T} {P : PG} {n : Nat} {f : Nat → Nat} {t K : Nat} {pn : Nat → Nat} {pf : Nat → Nat → Nat} {pt : Nat → Nat} {im : Nat → Option DK} {sl : List (Nat × Nat)} {N : Nat} {b : Nat → Nat} {tr : Int64} (hC : cS P n f t K pn pf pt im sl N b tr hi τ) {x : Int32} {y : Int32} : wR d yX10_reads [.ref 0, .int x, .int y] hi τ (CQ (zReads (mkT P n f t K pn pf pt im sl N b tr) (ix x (pL P)) (ix y (2 * n))) hi τ) := by
  refine w_intro (by omega) M_X10_reads (Nat.le_of_ble_eq_true rfl) rfl ?_
  intro e X he G
  show X 0 [some (.ref (0)), some (.int (x)), some (.int (y)), none] [] hi τ 125
  obtain ⟨sw, nx, nd, hτ, hS, hD, hV, hI, hIV, hN, hNO, hT, hFl, hE, hTr⟩ := id hC
  have hS6 := hS.2.2.2.1.2.2.1
  have hL3 : pL P ≤ 3 := hS.2.2.2.1.2.1
  have hn6 := hD.1.2.2.2.1
  have hRw : rowF hi 16 n f t := hD.1
  have hfs : ∀ j, j < n → f j < pS P := hV.1.1
  refine q_aload_n G (pc := 0) dX10_reads_0 rfl ?_
  refine q_iload_n G (pc := 1) dX10_reads_1 rfl ?_
  refine q_cV1B G (pc := 2) dX10_reads_2 cv_X10_130 rfl (c_isLine (by omega) hC) (Nat.le_of_ble_eq_true rfl) (fun c2 => ?_) (fun c2 => ?_)
  · obtain ⟨l, hl, rfl⟩ := c2
    refine q_if_eqN (tgt := 28) G (pc := 5) dX10_reads_5 (by decide) (by omega) (fun c5 => absurd c5 (by decide)) (fun _ => ?_)
    refine q_iload_n G (pc := 8) dX10_reads_8 rfl ?_
    refine q_if_lt (tgt := 28) G (pc := 9) dX10_reads_9 (by decide) (fun c9 => ?_) (fun c9 => ?_)
    · refine q_iconst (v := -1) G (pc := 28) dX10_reads_28 (by decide) ?_
      refine q_iret G (pc := 29) dX10_reads_29 (Or.inl rfl) ?_
      exact CQ.of (by rw [ix_some hl (by omega), ix_none (ix_n0 (by omega) c9)]; rfl) (hC.post scr.rf _)
    · refine q_iload_n G (pc := 12) dX10_reads_12 rfl ?_
      refine q_iconst (v := nI 2) G (pc := 13) dX10_reads_13 (by decide) ?_
      refine q_aload_n G (pc := 14) dX10_reads_14 rfl ?_
      refine q_getR (x := 15) G (pc := 15) dX10_reads_15 fl_X10_29_9 rfl (hg hτ (hf_9_3 rfl)) ?_
      refine q_getR (x := 16) G (pc := 18) dX10_reads_18 fl_X10_109_1 rfl (hg hτ (hf_1_0 rfl)) ?_
      refine q_getI (v := nI (n)) G (pc := 21) dX10_reads_21 fl_X10_182_6 (by decide) rfl hRw.1 ?_
      refine q_imulN G (pc := 24) dX10_reads_24 ?_
      refine q_icmp_lt (tgt := 30) G (pc := 25) dX10_reads_25 (by decide) (fun c25 => ?_) (fun c25 => ?_)
      · obtain ⟨i, hi2, rfl⟩ := ix_lt (n := 2 * n) (by omega) c9 (nlt_1 (by omega) c25)
        have hfi : f (i / 2) < pS P := hfs (i / 2) (by show i / 2 < n; omega)
        refine q_aload_n G (pc := 30) dX10_reads_30 rfl ?_
        refine q_getR (x := 15) G (pc := 31) dX10_reads_31 fl_X10_29_9 rfl (hg hτ (hf_9_3 rfl)) ?_
        refine q_getR (x := 16) G (pc := 34) dX10_reads_34 fl_X10_109_1 rfl (hg hτ (hf_1_0 rfl)) ?_
        refine q_getR (x := 17) G (pc := 37) dX10_reads_37 fl_X10_143_6 rfl (hg hτ (hf_6_0 rfl)) ?_
        refine q_iload_n G (pc := 40) dX10_reads_40 rfl ?_
        refine q_iconst (v := nI 2) G (pc := 41) dX10_reads_41 (by decide) ?_
        refine q_idivN G (pc := 42) dX10_reads_42 (by omega) (by omega) (by omega) ?_
        refine q_iald (j := i / 2) (v := nI (f (i / 2))) G (pc := 43) dX10_reads_43 rfl rfl (by omega) (hRw.2.2.1 (i / 2) (by omega)) ?_
        refine q_istore_n G (pc := 44) dX10_reads_44 (by decide) ?_
        show X _ [_, _, _, _] _ _ _ _
        refine q_aload_n G (pc := 45) dX10_reads_45 rfl ?_
        refine q_getR (x := mm_sh sw) G (pc := 46) dX10_reads_46 fl_X10_19_9 rfl (hg hτ (hf_sh sw)) ?_
        refine q_iload_n G (pc := 49) dX10_reads_49 rfl ?_
        refine q_aload_n G (pc := 50) dX10_reads_50 rfl ?_
        refine q_getR (x := 15) G (pc := 51) dX10_reads_51 fl_X10_29_9 rfl (hg hτ (hf_9_3 rfl)) ?_
        refine q_getR (x := 16) G (pc := 54) dX10_reads_54 fl_X10_109_1 rfl (hg hτ (hf_1_0 rfl)) ?_
        refine q_iload_n G (pc := 57) dX10_reads_57 rfl ?_
        refine q_cV1E G (pc := 58) dX10_reads_58 cv_X10_116 rfl (s_X6_wayOf (by omega) hτ (r := 16) rfl hRw (s := f (i / 2)) (by omega)) (Nat.le_of_ble_eq_true rfl) ?_
        refine q_iload_n G (pc := 61) dX10_reads_61 rfl ?_
        refine q_iload_n G (pc := 62) dX10_reads_62 rfl ?_
        refine q_iconst (v := nI 2) G (pc := 63) dX10_reads_63 (by decide) ?_
        refine q_iremN G (pc := 64) dX10_reads_64 (by omega) (by omega) (by omega) ?_
        refine q_cV4E G (pc := 65) dX10_reads_65 cv_X10_133 (ly_sh sw) (s_X7_shown (by omega) hτ (ly_sh sw) hS (s := f (i / 2)) (w := t / 2 ^ f (i / 2) % 2) (l := l) (i := i % 2) hfi (bit_lt2 _ _) hl (by omega)) (Nat.le_of_ble_eq_true rfl) ?_
        refine q_cS1E G (pc := 68) dX10_reads_68 cs_X10_137 (c_byteOf (by omega) (shW_le hS.2.2.2.1 _ _ _ _)) (Nat.le_of_ble_eq_true rfl) ?_
        refine q_iret G (pc := 71) dX10_reads_71 (Or.inl rfl) ?_
        exact CQ.of (by rw [ix_some hl (by omega), ix_some hi2 (by omega)]; rfl) (hC.post scr.rf _)
      · refine q_iconst (v := -1) G (pc := 28) dX10_reads_28 (by decide) ?_
        refine q_iret G (pc := 29) dX10_reads_29 (Or.inl rfl) ?_
        exact CQ.of (by rw [ix_some hl (by omega), ix_none (ix_nn (by omega) (nlt_2 (by omega) c25))]; rfl) (hC.post scr.rf _)
  · refine q_if_eqN (tgt := 28) G (pc := 5) dX10_reads_5 (by decide) (by omega) (fun _ => ?_) (fun c5 => absurd c5 (by decide))
    refine q_iconst (v := -1) G (pc := 28) dX10_reads_28 (by decide) ?_
    refine q_iret G (pc := 29) dX10_reads_29 (Or.inl rfl) ?_
    exact CQ.of (by rw [ix_none c2]; rfl) (hC.post scr.rf _)
set_option maxHeartbeats 2000000 in
theorem c_orders {d : Nat} (hd : 15 ≤ d) {hi : mm_HI} {τ : mm_T} {P : PG} {n : Nat} {f : Nat → Nat} {t K : Nat} {pn : Nat → Nat} {pf : Nat → Nat → Nat} {pt : Nat → Nat} {im : Nat → Option DK} {sl : List (Nat × Nat)} {N : Nat} {b : Nat → Nat} {tr : Int64} (hC : cS P n f t K pn pf pt im sl N b tr hi τ) {x : Int32} : wR d yX10_orders [.ref 0, .int x] hi τ (CQ (zOrders (mkT P n f t K pn pf pt im sl N b tr) (ix x 2)) hi τ) := by
  refine w_intro (by omega) M_X10_orders (Nat.le_of_ble_eq_true rfl) rfl ?_
  intro e X he G
  show X 0 [some (.ref (0)), some (.int (x))] [] hi τ 125
  obtain ⟨sw, nx, nd, hτ, hS, hD, hV, hI, hIV, hN, hNO, hT, hFl, hE, hTr⟩ := id hC
  have hS6 := hS.2.2.2.1.2.2.1
  have hL3 : pL P ≤ 3 := hS.2.2.2.1.2.1
  have hn6 := hD.1.2.2.2.1
  have hRw : rowF hi 16 n f t := hD.1
  have hfs : ∀ j, j < n → f j < pS P := hV.1.1
  refine q_iload_n G (pc := 0) dX10_orders_0 rfl ?_
  refine q_if_lt (tgt := 9) G (pc := 1) dX10_orders_1 (by decide) (fun c1 => ?_) (fun c1 => ?_)
  · refine q_iconst (v := -1) G (pc := 9) dX10_orders_9 (by decide) ?_
    refine q_iret G (pc := 10) dX10_orders_10 (Or.inl rfl) ?_
    exact CQ.of (by rw [ix_none (ix_n0 (by decide) c1)]; rfl) (hC.post scr.rf _)
  · refine q_iload_n G (pc := 4) dX10_orders_4 rfl ?_
    refine q_iconst (v := nI 1) G (pc := 5) dX10_orders_5 (by decide) ?_
    refine q_icmp_le (tgt := 11) G (pc := 6) dX10_orders_6 (by decide) (fun c6 => ?_) (fun c6 => ?_)
    · obtain ⟨k, hk0, rfl⟩ := ix_lt (n := 2) (by decide) c1 (nle_1 (by decide) c6)
      refine q_aload_n G (pc := 11) dX10_orders_11 rfl ?_
      refine q_getR (x := 88) G (pc := 12) dX10_orders_12 fl_X10_49_9 rfl (hg hτ (hf_9_12 rfl)) ?_
      refine q_aload_n G (pc := 15) dX10_orders_15 rfl ?_
      refine q_getR (x := mm_sh sw) G (pc := 16) dX10_orders_16 fl_X10_19_9 rfl (hg hτ (hf_sh sw)) ?_
      refine q_aload_n G (pc := 19) dX10_orders_19 rfl ?_
      refine q_getR (x := 15) G (pc := 20) dX10_orders_20 fl_X10_29_9 rfl (hg hτ (hf_9_3 rfl)) ?_
      refine q_getR (x := 16) G (pc := 23) dX10_orders_23 fl_X10_109_1 rfl (hg hτ (hf_1_0 rfl)) ?_
      refine q_cU2V G (pc := 26) dX10_orders_26 cu_X10_122_5 rfl (c_search5 (by omega) hτ hS hFl (Or.inl rfl) hRw hV.1) (Nat.le_of_ble_eq_true rfl) ?_
      intro hk hx
      obtain ⟨x1, x2, x3, x4, x5, x6⟩ := hx
      refine q_iload_n G (pc := 29) dX10_orders_29 rfl ?_
      refine q_if_neN (tgt := 43) G (pc := 30) dX10_orders_30 (by decide) (by omega) (fun c30 => ?_) (fun c30 => ?_)
      · refine q_aload_n G (pc := 43) dX10_orders_43 rfl ?_
        refine q_getR (x := 88) G (pc := 44) dX10_orders_44 fl_X10_49_9 rfl (hg hτ (hf_9_12 rfl)) ?_
        refine q_getI (v := (roA P n f t).2.1) G (pc := 47) dX10_orders_47 fl_X10_220_5 (by decide) rfl x2 ?_
        refine q_iret G (pc := 50) dX10_orders_50 (Or.inl rfl) ?_
        have hk1 : k = 1 := by omega
        subst hk1
        exact CQ.of (by rw [ix_some (s := 1) (n := 2) (by decide) (by decide)]; rfl) (hC.post x5 _)
      · refine q_aload_n G (pc := 33) dX10_orders_33 rfl ?_
        refine q_getR (x := 88) G (pc := 34) dX10_orders_34 fl_X10_49_9 rfl (hg hτ (hf_9_12 rfl)) ?_
        refine q_getI (v := (roA P n f t).1) G (pc := 37) dX10_orders_37 fl_X10_217_5 (by decide) rfl x1 ?_
        refine q_goto (tgt := 50) G (pc := 40) dX10_orders_40 (by decide) ?_
        refine q_iret G (pc := 50) dX10_orders_50 (Or.inl rfl) ?_
        have hk1 : k = 0 := c30
        subst hk1
        exact CQ.of (by rw [ix_some (s := 0) (n := 2) (by decide) (by decide)]; rfl) (hC.post x5 _)
    · refine q_iconst (v := -1) G (pc := 9) dX10_orders_9 (by decide) ?_
      refine q_iret G (pc := 10) dX10_orders_10 (Or.inl rfl) ?_
      exact CQ.of (by rw [ix_none (ix_nn (by decide) (nle_2 (by decide) c6))]; rfl) (hC.post scr.rf _)
set_option maxHeartbeats 2000000 in
theorem c_best {d : Nat} (hd : 17 ≤ d) {hi : mm_HI} {τ : mm_T} {P : PG} {n : Nat} {f : Nat → Nat} {t K : Nat} {pn : Nat → Nat} {pf : Nat → Nat → Nat} {pt : Nat → Nat} {im : Nat → Option DK} {sl : List (Nat × Nat)} {N : Nat} {b : Nat → Nat} {tr : Int64} (hC : cS P n f t K pn pf pt im sl N b tr hi τ) {x : Int32} : wR d yX10_best [.ref 0, .int x] hi τ (CQ (zBest (mkT P n f t K pn pf pt im sl N b tr) (ix x 2)) hi τ) := by
  refine w_intro (by omega) M_X10_best (Nat.le_of_ble_eq_true rfl) rfl ?_
  intro e X he G
  show X 0 [some (.ref (0)), some (.int (x))] [] hi τ 125
  obtain ⟨sw, nx, nd, hτ, hS, hD, hV, hI, hIV, hN, hNO, hT, hFl, hE, hTr⟩ := id hC
  have hS6 := hS.2.2.2.1.2.2.1
  have hL3 : pL P ≤ 3 := hS.2.2.2.1.2.1
  have hn6 := hD.1.2.2.2.1
  have hRw : rowF hi 16 n f t := hD.1
  have hfs : ∀ j, j < n → f j < pS P := hV.1.1
  refine q_iload_n G (pc := 0) dX10_best_0 rfl ?_
  refine q_if_lt (tgt := 9) G (pc := 1) dX10_best_1 (by decide) (fun c1 => ?_) (fun c1 => ?_)
  · refine q_iconst (v := -1) G (pc := 9) dX10_best_9 (by decide) ?_
    refine q_iret G (pc := 10) dX10_best_10 (Or.inl rfl) ?_
    exact CQ.of (by rw [ix_none (ix_n0 (by decide) c1)]; rfl) (hC.post scr.rf _)
  · refine q_iload_n G (pc := 4) dX10_best_4 rfl ?_
    refine q_iconst (v := nI 1) G (pc := 5) dX10_best_5 (by decide) ?_
    refine q_icmp_le (tgt := 11) G (pc := 6) dX10_best_6 (by decide) (fun c6 => ?_) (fun c6 => ?_)
    · obtain ⟨k, hk0, rfl⟩ := ix_lt (n := 2) (by decide) c1 (nle_1 (by decide) c6)
      refine q_aload_n G (pc := 11) dX10_best_11 rfl ?_
      refine q_getR (x := 99) G (pc := 12) dX10_best_12 fl_X10_63_9 rfl (hg hτ (hf_9_14 rfl)) ?_
      refine q_aload_n G (pc := 15) dX10_best_15 rfl ?_
      refine q_getR (x := mm_sh sw) G (pc := 16) dX10_best_16 fl_X10_19_9 rfl (hg hτ (hf_sh sw)) ?_
      refine q_aload_n G (pc := 19) dX10_best_19 rfl ?_
      refine q_getR (x := 15) G (pc := 20) dX10_best_20 fl_X10_29_9 rfl (hg hτ (hf_9_3 rfl)) ?_
      refine q_getR (x := 16) G (pc := 23) dX10_best_23 fl_X10_109_1 rfl (hg hτ (hf_1_0 rfl)) ?_
      refine q_cU2V G (pc := 26) dX10_best_26 cu_X10_233_0 rfl (c_search0 (by omega) hτ hS hFl hRw hV.1) (Nat.le_of_ble_eq_true rfl) ?_
      intro hk hx
      obtain ⟨x1, x2, x5⟩ := hx
      refine q_iload_n G (pc := 29) dX10_best_29 rfl ?_
      refine q_if_neN (tgt := 43) G (pc := 30) dX10_best_30 (by decide) (by omega) (fun c30 => ?_) (fun c30 => ?_)
      · refine q_aload_n G (pc := 43) dX10_best_43 rfl ?_
        refine q_getR (x := 99) G (pc := 44) dX10_best_44 fl_X10_63_9 rfl (hg hτ (hf_9_14 rfl)) ?_
        refine q_getI (v := (boA P n f t).2) G (pc := 47) dX10_best_47 fl_X10_237_0 (by decide) rfl x2 ?_
        refine q_iret G (pc := 50) dX10_best_50 (Or.inl rfl) ?_
        have hk1 : k = 1 := by omega
        subst hk1
        exact CQ.of (by rw [ix_some (s := 1) (n := 2) (by decide) (by decide)]; rfl) (hC.post x5 _)
      · refine q_aload_n G (pc := 33) dX10_best_33 rfl ?_
        refine q_getR (x := 99) G (pc := 34) dX10_best_34 fl_X10_63_9 rfl (hg hτ (hf_9_14 rfl)) ?_
        refine q_getI (v := (boA P n f t).1) G (pc := 37) dX10_best_37 fl_X10_234_0 (by decide) rfl x1 ?_
        refine q_goto (tgt := 50) G (pc := 40) dX10_best_40 (by decide) ?_
        refine q_iret G (pc := 50) dX10_best_50 (Or.inl rfl) ?_
        have hk1 : k = 0 := c30
        subst hk1
        exact CQ.of (by rw [ix_some (s := 0) (n := 2) (by decide) (by decide)]; rfl) (hC.post x5 _)
    · refine q_iconst (v := -1) G (pc := 9) dX10_best_9 (by decide) ?_
      refine q_iret G (pc := 10) dX10_best_10 (Or.inl rfl) ?_
      exact CQ.of (by rw [ix_none (ix_nn (by decide) (nle_2 (by decide) c6))]; rfl) (hC.post scr.rf _)
set_option maxHeartbeats 2000000 in
theorem c_either {d : Nat} (hd : 15 ≤ d) {hi : mm_HI} {τ : mm_T} {P : PG} {n : Nat} {f : Nat → Nat} {t K : Nat} {pn : Nat → Nat} {pf : Nat → Nat → Nat} {pt : Nat → Nat} {im : Nat → Option DK} {sl : List (Nat × Nat)} {N : Nat} {b : Nat → Nat} {tr : Int64} (hC : cS P n f t K pn pf pt im sl N b tr hi τ) {x : Int32} : wR d yX10_either [.ref 0, .int x] hi τ (CQ (zEither (mkT P n f t K pn pf pt im sl N b tr) (ix x 3)) hi τ) := by
  refine w_intro (by omega) M_X10_either (Nat.le_of_ble_eq_true rfl) rfl ?_
  intro e X he G
  show X 0 [some (.ref (0)), some (.int (x))] [] hi τ 125
  obtain ⟨sw, nx, nd, hτ, hS, hD, hV, hI, hIV, hN, hNO, hT, hFl, hE, hTr⟩ := id hC
  have hS6 := hS.2.2.2.1.2.2.1
  have hL3 : pL P ≤ 3 := hS.2.2.2.1.2.1
  have hn6 := hD.1.2.2.2.1
  have hRw : rowF hi 16 n f t := hD.1
  have hfs : ∀ j, j < n → f j < pS P := hV.1.1
  refine q_iload_n G (pc := 0) dX10_either_0 rfl ?_
  refine q_if_lt (tgt := 9) G (pc := 1) dX10_either_1 (by decide) (fun c1 => ?_) (fun c1 => ?_)
  · refine q_iconst (v := -1) G (pc := 9) dX10_either_9 (by decide) ?_
    refine q_iret G (pc := 10) dX10_either_10 (Or.inl rfl) ?_
    exact CQ.of (by rw [ix_none (ix_n0 (by decide) c1)]; rfl) (hC.post scr.rf _)
  · refine q_iload_n G (pc := 4) dX10_either_4 rfl ?_
    refine q_iconst (v := nI 2) G (pc := 5) dX10_either_5 (by decide) ?_
    refine q_icmp_le (tgt := 11) G (pc := 6) dX10_either_6 (by decide) (fun c6 => ?_) (fun c6 => ?_)
    · obtain ⟨k, hk0, rfl⟩ := ix_lt (n := 3) (by decide) c1 (nle_1 (by decide) c6)
      have hm6 : mskF f n < 64 := mskF_lt (fun j hj => by have := hfs j hj; omega)
      have hpc : pcn (mskF f n) = n := mskF_pcn (fun j hj => by have := hfs j hj; omega) hV.1.2
      refine q_aload_n G (pc := 11) dX10_either_11 rfl ?_
      refine q_getR (x := 95) G (pc := 12) dX10_either_12 fl_X10_56_9 rfl (hg hτ (hf_9_13 rfl)) ?_
      refine q_aload_n G (pc := 15) dX10_either_15 rfl ?_
      refine q_getR (x := 15) G (pc := 16) dX10_either_16 fl_X10_29_9 rfl (hg hτ (hf_9_3 rfl)) ?_
      refine q_getR (x := 16) G (pc := 19) dX10_either_19 fl_X10_109_1 rfl (hg hτ (hf_1_0 rfl)) ?_
      refine q_cV1B G (pc := 22) dX10_either_22 cv_X10_223 rfl (s_X3_knows (by omega) hτ (wk := 95) rfl (r := 16) rfl hRw) (Nat.le_of_ble_eq_true rfl) (fun c22 => ?_) (fun c22 => ?_)
      · have hv : hi 95 4 = (ewA P n f).1 ∧ hi 95 5 = (ewA P n f).2.1 ∧ hi 95 6 = (ewA P n f).2.2 := by
          rcases hE with q | ⟨lf, q1, q2, q3, q4, q5⟩
          · rw [q] at c22
            exact absurd c22 (nI_m1 _ hm6)
          · rw [q5] at c22
            have e1 := (nI_eq (by omega) (by omega)).mp c22
            rw [← e1, hpc] at q2 q3 q4
            exact ⟨q2, q3, q4⟩
        obtain ⟨v4, v5, v6⟩ := hv
        refine q_if_neN (tgt := 46) G (pc := 25) dX10_either_25 (by decide) (by omega) (fun _ => ?_) (fun c25 => absurd c25 (by decide))
        refine q_iload_n G (pc := 46) dX10_either_46 rfl ?_
        refine q_if_neN (tgt := 58) G (pc := 47) dX10_either_47 (by decide) (by omega) (fun c47 => ?_) (fun c47 => ?_)
        · refine q_iload_n G (pc := 58) dX10_either_58 rfl ?_
          refine q_iconst (v := nI 1) G (pc := 59) dX10_either_59 (by decide) ?_
          refine q_icmp_neN (tgt := 73) G (pc := 60) dX10_either_60 (by decide) (by omega) (by omega) (fun c60 => ?_) (fun c60 => ?_)
          · refine q_aload_n G (pc := 73) dX10_either_73 rfl ?_
            refine q_getR (x := 95) G (pc := 74) dX10_either_74 fl_X10_56_9 rfl (hg hτ (hf_9_13 rfl)) ?_
            refine q_getI (v := (ewA P n f).2.2) G (pc := 77) dX10_either_77 fl_X10_230_3 (by decide) rfl v6 ?_
            refine q_iret G (pc := 80) dX10_either_80 (Or.inl rfl) ?_
            have hk1 : k = 2 := by omega
            subst hk1
            exact CQ.of (by rw [ix_some (s := 2) (n := 3) (by decide) (by decide)]; rfl) (hC.post scr.rf _)
          · refine q_aload_n G (pc := 63) dX10_either_63 rfl ?_
            refine q_getR (x := 95) G (pc := 64) dX10_either_64 fl_X10_56_9 rfl (hg hτ (hf_9_13 rfl)) ?_
            refine q_getI (v := (ewA P n f).2.1) G (pc := 67) dX10_either_67 fl_X10_229_3 (by decide) rfl v5 ?_
            refine q_goto (tgt := 80) G (pc := 70) dX10_either_70 (by decide) ?_
            refine q_iret G (pc := 80) dX10_either_80 (Or.inl rfl) ?_
            have hk1 : k = 1 := c60
            subst hk1
            exact CQ.of (by rw [ix_some (s := 1) (n := 3) (by decide) (by decide)]; rfl) (hC.post scr.rf _)
        · refine q_aload_n G (pc := 50) dX10_either_50 rfl ?_
          refine q_getR (x := 95) G (pc := 51) dX10_either_51 fl_X10_56_9 rfl (hg hτ (hf_9_13 rfl)) ?_
          refine q_getI (v := (ewA P n f).1) G (pc := 54) dX10_either_54 fl_X10_228_3 (by decide) rfl v4 ?_
          refine q_iret G (pc := 57) dX10_either_57 (Or.inl rfl) ?_
          have hk1 : k = 0 := c47
          subst hk1
          exact CQ.of (by rw [ix_some (s := 0) (n := 3) (by decide) (by decide)]; rfl) (hC.post scr.rf _)
      · refine q_if_neN (tgt := 46) G (pc := 25) dX10_either_25 (by decide) (by omega) (fun c25 => absurd c25 (by decide)) (fun _ => ?_)
        refine q_aload_n G (pc := 28) dX10_either_28 rfl ?_
        refine q_getR (x := 95) G (pc := 29) dX10_either_29 fl_X10_56_9 rfl (hg hτ (hf_9_13 rfl)) ?_
        refine q_aload_n G (pc := 32) dX10_either_32 rfl ?_
        refine q_getR (x := mm_sh sw) G (pc := 33) dX10_either_33 fl_X10_19_9 rfl (hg hτ (hf_sh sw)) ?_
        refine q_aload_n G (pc := 36) dX10_either_36 rfl ?_
        refine q_getR (x := 15) G (pc := 37) dX10_either_37 fl_X10_29_9 rfl (hg hτ (hf_9_3 rfl)) ?_
        refine q_getR (x := 16) G (pc := 40) dX10_either_40 fl_X10_109_1 rfl (hg hτ (hf_1_0 rfl)) ?_
        refine q_cU2V G (pc := 43) dX10_either_43 cu_X10_227_3 rfl (c_search3 (by omega) hτ hS hFl hRw hV.1) (Nat.le_of_ble_eq_true rfl) ?_
        intro hk hx
        obtain ⟨y1, y2, y3⟩ := hx
        have hC2 := hC.ew y2 y3 (Or.inr ⟨mskF f n, hm6, by rw [hpc]; exact y1⟩)
        obtain ⟨v4, v5, v6, v7⟩ := y1
        refine q_iload_n G (pc := 46) dX10_either_46 rfl ?_
        refine q_if_neN (tgt := 58) G (pc := 47) dX10_either_47 (by decide) (by omega) (fun c47 => ?_) (fun c47 => ?_)
        · refine q_iload_n G (pc := 58) dX10_either_58 rfl ?_
          refine q_iconst (v := nI 1) G (pc := 59) dX10_either_59 (by decide) ?_
          refine q_icmp_neN (tgt := 73) G (pc := 60) dX10_either_60 (by decide) (by omega) (by omega) (fun c60 => ?_) (fun c60 => ?_)
          · refine q_aload_n G (pc := 73) dX10_either_73 rfl ?_
            refine q_getR (x := 95) G (pc := 74) dX10_either_74 fl_X10_56_9 rfl (hg hτ (hf_9_13 rfl)) ?_
            refine q_getI (v := (ewA P n f).2.2) G (pc := 77) dX10_either_77 fl_X10_230_3 (by decide) rfl v6 ?_
            refine q_iret G (pc := 80) dX10_either_80 (Or.inl rfl) ?_
            have hk1 : k = 2 := by omega
            subst hk1
            exact CQ.mk (by rw [ix_some (s := 2) (n := 3) (by decide) (by decide)]; rfl) hC2 (fun c hc => y2 c (by omega)) rfl
          · refine q_aload_n G (pc := 63) dX10_either_63 rfl ?_
            refine q_getR (x := 95) G (pc := 64) dX10_either_64 fl_X10_56_9 rfl (hg hτ (hf_9_13 rfl)) ?_
            refine q_getI (v := (ewA P n f).2.1) G (pc := 67) dX10_either_67 fl_X10_229_3 (by decide) rfl v5 ?_
            refine q_goto (tgt := 80) G (pc := 70) dX10_either_70 (by decide) ?_
            refine q_iret G (pc := 80) dX10_either_80 (Or.inl rfl) ?_
            have hk1 : k = 1 := c60
            subst hk1
            exact CQ.mk (by rw [ix_some (s := 1) (n := 3) (by decide) (by decide)]; rfl) hC2 (fun c hc => y2 c (by omega)) rfl
        · refine q_aload_n G (pc := 50) dX10_either_50 rfl ?_
          refine q_getR (x := 95) G (pc := 51) dX10_either_51 fl_X10_56_9 rfl (hg hτ (hf_9_13 rfl)) ?_
          refine q_getI (v := (ewA P n f).1) G (pc := 54) dX10_either_54 fl_X10_228_3 (by decide) rfl v4 ?_
          refine q_iret G (pc := 57) dX10_either_57 (Or.inl rfl) ?_
          have hk1 : k = 0 := c47
          subst hk1
          exact CQ.mk (by rw [ix_some (s := 0) (n := 3) (by decide) (by decide)]; rfl) hC2 (fun c hc => y2 c (by omega)) rfl
    · refine q_iconst (v := -1) G (pc := 9) dX10_either_9 (by decide) ?_
      refine q_iret G (pc := 10) dX10_either_10 (Or.inl rfl) ?_
      exact CQ.of (by rw [ix_none (ix_nn (by decide) (nle_2 (by decide) c6))]; rfl) (hC.post scr.rf _)
set_option maxHeartbeats 2000000 in
theorem c_ordersOf {d : Nat} (hd : 1 ≤ d) {hi : mm_HI} {τ : mm_T} {n : Nat} (hn : n ≤ 6) : wE d yX10_ordersOf [.int (nI n)] hi τ (nI (fct n)) := by
  refine w_intro (by omega) M_X10_ordersOf (Nat.le_of_ble_eq_true rfl) rfl ?_
  intro e X he G
  show X 0 [some (.int (nI (n))), none, none] [] hi τ 125
  refine q_iconst (v := nI 1) G (pc := 0) dX10_ordersOf_0 (by decide) ?_
  refine q_istore_n G (pc := 1) dX10_ordersOf_1 (by decide) ?_
  show X _ [_, _, _] _ _ _ _
  refine q_iconst (v := nI 2) G (pc := 2) dX10_ordersOf_2 (by decide) ?_
  refine q_istore_n G (pc := 3) dX10_ordersOf_3 (by decide) ?_
  show X _ [_, _, _] _ _ _ _
  have L4 : ∀ (zz : Nat) (j : Nat), 7 - j < zz → (j + 1 ≤ n ∨ j = 0) → X 4 [some (.int (nI (n))), some (.int (nI (fct (j + 1)))), some (.int (nI (j + 2)))] [] hi τ 125 := by
    intro zz
    induction zz with
    | zero => intro j hm; exact absurd hm (Nat.not_lt_zero _)
    | succ zz ih4 =>
      intro j hm h0
      refine q_iload_n G (pc := 4) dX10_ordersOf_4 rfl ?_
      refine q_iload_n G (pc := 5) dX10_ordersOf_5 rfl ?_
      refine q_icmp_gtN (tgt := 19) G (pc := 6) dX10_ordersOf_6 (by decide) (by omega) (by omega) (fun c6 => ?_) (fun c6 => ?_)
      · refine q_iload_n G (pc := 19) dX10_ordersOf_19 rfl ?_
        refine q_iret G (pc := 20) dX10_ordersOf_20 (Or.inl rfl) ?_
        refine ⟨rfl, rfl, ?_⟩
        rcases h0 with q | q
        · rw [show n = j + 1 by omega]
        · subst q
          have : n = 0 ∨ n = 1 := by omega
          rcases this with rfl | rfl <;> rfl
      · refine q_iload_n G (pc := 9) dX10_ordersOf_9 rfl ?_
        refine q_iload_n G (pc := 10) dX10_ordersOf_10 rfl ?_
        refine q_imulN G (pc := 11) dX10_ordersOf_11 ?_
        refine q_istore_n G (pc := 12) dX10_ordersOf_12 (by decide) ?_
        show X _ [_, _, _] _ _ _ _
        refine q_iincN G (pc := 13) dX10_ordersOf_13 rfl (inc1 _) (by decide) ?_
        show X _ [_, _, _] _ _ _ _
        refine q_goto (tgt := 4) G (pc := 16) dX10_ordersOf_16 (by decide) ?_
        exact ih4 (j + 1) (by omega) (by omega)
  exact L4 _ 0 (Nat.lt_succ_self _) (Or.inr rfl)
set_option maxHeartbeats 2000000 in
theorem c_inLeastTerms {d : Nat} (hd : 1 ≤ d) {hi : mm_HI} {τ : mm_T} {m u l : Nat} (hm : m < 2 ^ 31) (hu : u < 2 ^ 31) (hl : 0 < l) (hl2 : l < 2 ^ 31) : wE d yX10_inLeastTerms [.int (nI m), .int (nI u), .int (nI l)] hi τ (nI (m / Nat.gcd u l)) := by
  refine w_intro (by omega) M_X10_inLeastTerms (Nat.le_of_ble_eq_true rfl) rfl ?_
  intro e X he G
  show X 0 [some (.int (nI (m))), some (.int (nI (u))), some (.int (nI (l))), none] [] hi τ 125
  refine q_iload_n G (pc := 0) dX10_inLeastTerms_0 rfl ?_
  refine q_istore_n G (pc := 1) dX10_inLeastTerms_1 (by decide) ?_
  show X _ [_, _, _, _] _ _ _ _
  have L2 : ∀ (zz : Nat) (dd : Nat), dd < zz → dd ≤ l → (∀ z, dd < z → z ≤ l → ¬ (z ∣ u ∧ z ∣ l)) → X 2 [some (.int (nI (m))), some (.int (nI (u))), some (.int (nI (l))), some (.int (nI (dd)))] [] hi τ 125 := by
    intro zz
    induction zz with
    | zero => intro dd hm; exact absurd hm (Nat.not_lt_zero _)
    | succ zz ih2 =>
      intro dd hm h0 h1
      refine q_iload_n G (pc := 2) dX10_inLeastTerms_2 rfl ?_
      refine q_iconst (v := nI 1) G (pc := 3) dX10_inLeastTerms_3 (by decide) ?_
      refine q_icmp_leN (tgt := 29) G (pc := 4) dX10_inLeastTerms_4 (by decide) (by omega) (by omega) (fun c4 => ?_) (fun c4 => ?_)
      · refine q_iload_n G (pc := 29) dX10_inLeastTerms_29 rfl ?_
        refine q_iret G (pc := 30) dX10_inLeastTerms_30 (Or.inl rfl) ?_
        refine ⟨rfl, rfl, ?_⟩
        have hg : Nat.gcd u l = 1 := by
          have a := Nat.gcd_pos_of_pos_right u hl
          have c := Nat.le_of_dvd hl (Nat.gcd_dvd_right u l)
          rcases Nat.lt_or_ge dd (Nat.gcd u l) with q | q
          · exact absurd ⟨Nat.gcd_dvd_left u l, Nat.gcd_dvd_right u l⟩ (h1 _ q c)
          · omega
        rw [hg, Nat.div_one]
      · refine q_iload_n G (pc := 7) dX10_inLeastTerms_7 rfl ?_
        refine q_iload_n G (pc := 8) dX10_inLeastTerms_8 rfl ?_
        refine q_iremN G (pc := 9) dX10_inLeastTerms_9 (by omega) (by omega) (by omega) ?_
        have hu1 := Nat.mod_le u dd
        refine q_if_neN (tgt := 23) G (pc := 10) dX10_inLeastTerms_10 (by decide) (by omega) (fun c10 => ?_) (fun c10 => ?_)
        · refine q_iincN G (pc := 23) dX10_inLeastTerms_23 rfl (dec1 (by omega)) (by decide) ?_
          show X _ [_, _, _, _] _ _ _ _
          refine q_goto (tgt := 2) G (pc := 26) dX10_inLeastTerms_26 (by decide) ?_
          refine ih2 (dd - 1) (by omega) (by omega) (fun z z1 z2 => ?_)
          by_cases q : z = dd
          · subst q
            intro h
            exact c10 (Nat.mod_eq_zero_of_dvd h.1)
          · exact h1 z (by omega) z2
        · refine q_iload_n G (pc := 13) dX10_inLeastTerms_13 rfl ?_
          refine q_iload_n G (pc := 14) dX10_inLeastTerms_14 rfl ?_
          refine q_iremN G (pc := 15) dX10_inLeastTerms_15 (by omega) (by omega) (by omega) ?_
          have hl1 := Nat.mod_le l dd
          refine q_if_neN (tgt := 23) G (pc := 16) dX10_inLeastTerms_16 (by decide) (by omega) (fun c16 => ?_) (fun c16 => ?_)
          · refine q_iincN G (pc := 23) dX10_inLeastTerms_23 rfl (dec1 (by omega)) (by decide) ?_
            show X _ [_, _, _, _] _ _ _ _
            refine q_goto (tgt := 2) G (pc := 26) dX10_inLeastTerms_26 (by decide) ?_
            refine ih2 (dd - 1) (by omega) (by omega) (fun z z1 z2 => ?_)
            by_cases q : z = dd
            · subst q
              intro h
              exact c16 (Nat.mod_eq_zero_of_dvd h.2)
            · exact h1 z (by omega) z2
          · refine q_iload_n G (pc := 19) dX10_inLeastTerms_19 rfl ?_
            refine q_iload_n G (pc := 20) dX10_inLeastTerms_20 rfl ?_
            refine q_idivN G (pc := 21) dX10_inLeastTerms_21 (by omega) (by omega) (by omega) ?_
            refine q_iret G (pc := 22) dX10_inLeastTerms_22 (Or.inl rfl) ?_
            exact ⟨rfl, rfl, by rw [gcd_top hl (by omega) (Nat.dvd_of_mod_eq_zero c10) (Nat.dvd_of_mod_eq_zero c16) h1]⟩
  exact L2 _ l (Nat.lt_succ_self _) (Nat.le_refl _) (fun z h1 h2 => absurd h1 (by omega))
set_option maxHeartbeats 2000000 in
theorem c_odds {d : Nat} (hd : 15 ≤ d) {hi : mm_HI} {τ : mm_T} {P : PG} {n : Nat} {f : Nat → Nat} {t K : Nat} {pn : Nat → Nat} {pf : Nat → Nat → Nat} {pt : Nat → Nat} {im : Nat → Option DK} {sl : List (Nat × Nat)} {N : Nat} {b : Nat → Nat} {tr : Int64} (hC : cS P n f t K pn pf pt im sl N b tr hi τ) {x : Int32} : wR d yX10_odds [.ref 0, .int x] hi τ (CQ (zOdds (mkT P n f t K pn pf pt im sl N b tr) (ix x 2)) hi τ) := by
  refine w_intro (by omega) M_X10_odds (Nat.le_of_ble_eq_true rfl) rfl ?_
  intro e X he G
  show X 0 [some (.ref (0)), some (.int (x)), none, none] [] hi τ 125
  obtain ⟨sw, nx, nd, hτ, hS, hD, hV, hI, hIV, hN, hNO, hT, hFl, hE, hTr⟩ := id hC
  have hS6 := hS.2.2.2.1.2.2.1
  have hL3 : pL P ≤ 3 := hS.2.2.2.1.2.1
  have hn6 := hD.1.2.2.2.1
  have hRw : rowF hi 16 n f t := hD.1
  have hfs : ∀ j, j < n → f j < pS P := hV.1.1
  refine q_iload_n G (pc := 0) dX10_odds_0 rfl ?_
  refine q_if_lt (tgt := 9) G (pc := 1) dX10_odds_1 (by decide) (fun c1 => ?_) (fun c1 => ?_)
  · refine q_iconst (v := -1) G (pc := 9) dX10_odds_9 (by decide) ?_
    refine q_iret G (pc := 10) dX10_odds_10 (Or.inl rfl) ?_
    exact CQ.of (by rw [ix_none (ix_n0 (by decide) c1)]; rfl) (hC.post scr.rf _)
  · refine q_iload_n G (pc := 4) dX10_odds_4 rfl ?_
    refine q_iconst (v := nI 1) G (pc := 5) dX10_odds_5 (by decide) ?_
    refine q_icmp_le (tgt := 11) G (pc := 6) dX10_odds_6 (by decide) (fun c6 => ?_) (fun c6 => ?_)
    · obtain ⟨k, hk0, rfl⟩ := ix_lt (n := 2) (by decide) c1 (nle_1 (by decide) c6)
      have hoc : oC P n f t < 3000000 := oC_lt hS6 hn6
      have hfc := fct_6 n (by omega)
      refine q_aload_n G (pc := 11) dX10_odds_11 rfl ?_
      refine q_getR (x := 88) G (pc := 12) dX10_odds_12 fl_X10_49_9 rfl (hg hτ (hf_9_12 rfl)) ?_
      refine q_aload_n G (pc := 15) dX10_odds_15 rfl ?_
      refine q_getR (x := mm_sh sw) G (pc := 16) dX10_odds_16 fl_X10_19_9 rfl (hg hτ (hf_sh sw)) ?_
      refine q_aload_n G (pc := 19) dX10_odds_19 rfl ?_
      refine q_getR (x := 15) G (pc := 20) dX10_odds_20 fl_X10_29_9 rfl (hg hτ (hf_9_3 rfl)) ?_
      refine q_getR (x := 16) G (pc := 23) dX10_odds_23 fl_X10_109_1 rfl (hg hτ (hf_1_0 rfl)) ?_
      refine q_cU2V G (pc := 26) dX10_odds_26 cu_X10_122_5 rfl (c_search5 (by omega) hτ hS hFl (Or.inl rfl) hRw hV.1) (Nat.le_of_ble_eq_true rfl) ?_
      intro hk hx
      obtain ⟨x1, x2, x3, x4, x5, x6⟩ := hx
      refine q_aload_n G (pc := 29) dX10_odds_29 rfl ?_
      refine q_getR (x := 88) G (pc := 30) dX10_odds_30 fl_X10_49_9 rfl (hg hτ (hf_9_12 rfl)) ?_
      refine q_getI (v := nI (oC P n f t)) G (pc := 33) dX10_odds_33 fl_X10_217_5 (by decide) rfl (x1.trans (roA_len P n f t)) ?_
      refine q_istore_n G (pc := 36) dX10_odds_36 (by decide) ?_
      show X _ [_, _, _, _] _ _ _ _
      refine q_aload_n G (pc := 37) dX10_odds_37 rfl ?_
      refine q_getR (x := 15) G (pc := 38) dX10_odds_38 fl_X10_29_9 rfl (hg hτ (hf_9_3 rfl)) ?_
      refine q_getR (x := 16) G (pc := 41) dX10_odds_41 fl_X10_109_1 rfl (hg hτ (hf_1_0 rfl)) ?_
      refine q_getI (v := nI (n)) G (pc := 44) dX10_odds_44 fl_X10_182_6 (by decide) rfl (hRw.scr x5).1 ?_
      refine q_cS1E G (pc := 47) dX10_odds_47 cs_X10_238 (c_ordersOf (by omega) hn6) (Nat.le_of_ble_eq_true rfl) ?_
      refine q_istore_n G (pc := 50) dX10_odds_50 (by decide) ?_
      show X _ [_, _, _, _] _ _ _ _
      refine q_iload_n G (pc := 51) dX10_odds_51 rfl ?_
      refine q_if_neN (tgt := 59) G (pc := 52) dX10_odds_52 (by decide) (by omega) (fun c52 => ?_) (fun c52 => ?_)
      · refine q_iload_n G (pc := 59) dX10_odds_59 rfl ?_
        refine q_iload_n G (pc := 60) dX10_odds_60 rfl ?_
        refine q_iload_n G (pc := 61) dX10_odds_61 rfl ?_
        refine q_cS3E G (pc := 62) dX10_odds_62 cs_X10_241 (c_inLeastTerms (m := fct n) (u := oC P n f t) (l := fct n) (by omega) (by omega) (by omega) (by omega) (by omega)) (Nat.le_of_ble_eq_true rfl) ?_
        refine q_iret G (pc := 65) dX10_odds_65 (Or.inl rfl) ?_
        have hk1 : k = 1 := by omega
        subst hk1
        exact CQ.of (by rw [ix_some (s := 1) (n := 2) (by decide) (by decide)]; rfl) (hC.post x5 _)
      · refine q_iload_n G (pc := 55) dX10_odds_55 rfl ?_
        refine q_goto (tgt := 60) G (pc := 56) dX10_odds_56 (by decide) ?_
        refine q_iload_n G (pc := 60) dX10_odds_60 rfl ?_
        refine q_iload_n G (pc := 61) dX10_odds_61 rfl ?_
        refine q_cS3E G (pc := 62) dX10_odds_62 cs_X10_241 (c_inLeastTerms (m := oC P n f t) (u := oC P n f t) (l := fct n) (by omega) (by omega) (by omega) (by omega) (by omega)) (Nat.le_of_ble_eq_true rfl) ?_
        refine q_iret G (pc := 65) dX10_odds_65 (Or.inl rfl) ?_
        have hk1 : k = 0 := c52
        subst hk1
        exact CQ.of (by rw [ix_some (s := 0) (n := 2) (by decide) (by decide)]; rfl) (hC.post x5 _)
    · refine q_iconst (v := -1) G (pc := 9) dX10_odds_9 (by decide) ?_
      refine q_iret G (pc := 10) dX10_odds_10 (Or.inl rfl) ?_
      exact CQ.of (by rw [ix_none (ix_nn (by decide) (nle_2 (by decide) c6))]; rfl) (hC.post scr.rf _)
