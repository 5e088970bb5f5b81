/-! the model's state -/
def bytN (c : Nat) : Nat := if c = 26 then 46 else 97 + c
theorem byt_n (c : Nat) : byt c = nI (bytN c) := by unfold byt bytN; split <;> rfl
theorem bytN_lt {c : Nat} (h : c ≤ 26) : bytN c < 256 := by unfold bytN; split <;> omega
theorem bytN_46 {c : Nat} : bytN c = 46 ↔ c = 26 := by unfold bytN; split <;> omega
theorem bytN_inj {c e : Nat} (h : bytN c = bytN e) : c = e := by unfold bytN at h; repeat' split at h
                                                                 all_goals omega
def pgM (hi : mm_HI) (P : PG) : Prop := hi 106 0 = nI (pL P) ∧ hi 106 1 = nI (pS P) ∧ hi 106 2 = nI (pW P).length ∧ (∀ s, s < pS P → ∀ l, l < pL P → ∀ i, i < 2 → hi 107 (6 * s + 2 * l + i) = nI (bytN (pG P s l i))) ∧ (∀ w, w < (pW P).length → hi 109 w = nI ((pW P).getD w []).length ∧ ∀ i, i < ((pW P).getD w []).length → hi 108 (6 * w + i) = nI (bytN (((pW P).getD w []).getD i 0))) ∧ pOK P
def rowM (hi : mm_HI) (n : Nat) (f : Nat → Nat) (t : Nat) : Prop := hi 106 6 = nI n ∧ hi 106 7 = nI t ∧ (∀ j, j < n → hi 110 j = nI (f j)) ∧ n ≤ 6 ∧ (∀ j, j < n → f j < 6) ∧ t < 64
def ntF (hi : mm_HI) (c o n : Nat) (f : Nat → Nat) (t : Nat) : Prop := hi c o = nI n ∧ hi c (o + 1) = nI t ∧ (∀ j, j < n → hi c (o + 2 + j) = nI (f j)) ∧ n ≤ 6 ∧ (∀ j, j < n → f j < 6) ∧ t < 64
def unM (hi : mm_HI) (K : Nat) (pn : Nat → Nat) (pf : Nat → Nat → Nat) (pt : Nat → Nat) : Prop := hi 106 28 = nI K ∧ K ≤ 10 ∧ ∀ k, k < K → ntF hi 120 (8 * k) (pn k) (pf k) (pt k)
def imM (hi : mm_HI) (im : Nat → Option DK) : Prop := ∀ i, i < 2 → (im i = none ∧ hi 124 (90 * i) = nI 0) ∨ ∃ (n : Nat) (f : Nat → Nat) (t K : Nat) (pn : Nat → Nat) (pf : Nat → Nat → Nat) (pt : Nat → Nat), im i = some (n, f, t, K, pn, pf, pt) ∧ hi 124 (90 * i) = nI 1 ∧ hi 124 (90 * i + 1) = nI K ∧ K ≤ 10 ∧ ntF hi 124 (90 * i + 2) n f t ∧ ∀ k, k < K → ntF hi 124 (90 * i + 10 + 8 * k) (pn k) (pf k) (pt k)
def snM (hi : mm_HI) (sl : List (Nat × Nat)) : Prop := hi 106 9 = nI sl.length ∧ ∀ k, k < sl.length → hi 111 k = nI (sl.getD k (0, 0)).1 ∧ hi 112 k = nI (sl.getD k (0, 0)).2
def txM (hi : mm_HI) (b : Nat → Nat) (N : Nat) : Prop := hi 106 14 = nI N ∧ N ≤ 150 ∧ (∀ j, j < N → hi 113 j = nI (b j)) ∧ ∀ j, b j ≤ 255
def mS (P : PG) (n : Nat) (f : Nat → Nat) (t K : Nat) (pn : Nat → Nat) (pf : Nat → Nat → Nat) (pt : Nat → Nat) (im : Nat → Option DK) (sl : List (Nat × Nat)) (N : Nat) (b : Nat → Nat) (tr : Int64) (hi : mm_HI) (τ : mm_T) : Prop :=
  ∃ sw : Bool, τ.1 = mm_hr sw ∧ pgM hi P ∧ rowM hi n f t ∧ dOK P (n, f, t, K, pn, pf, pt) ∧ unM hi K pn pf pt ∧ imM hi im ∧ (∀ i D, im i = some D → dOK P D) ∧ snM hi sl ∧ snOK sl ∧ txM hi b N ∧ τ.2 106 12 = tr
def MS (σ : ST) (hi : mm_HI) (τ : mm_T) : Prop := mS σ.1 σ.2.1.1 σ.2.1.2.1 σ.2.1.2.2.1 σ.2.1.2.2.2.1 σ.2.1.2.2.2.2.1 σ.2.1.2.2.2.2.2.1 σ.2.1.2.2.2.2.2.2 σ.2.2.1 σ.2.2.2.1 σ.2.2.2.2.1 σ.2.2.2.2.2.1 σ.2.2.2.2.2.2 hi τ
def RQ (z : ST × Int32) (hi : mm_HI) (τ : mm_T) : mm_Q := fun v h t => v = some (.int z.2) ∧ MS z.1 h t ∧ frr 106 125 hi h ∧ t.1 = τ.1 ∧ t.2 0 = τ.2 0
/-- what only readings use -/
def msc (hi h : mm_HI) : Prop := (∀ c, (c < 106 ∨ (107 ≤ c ∧ c < 114) ∨ c = 120 ∨ 124 ≤ c) → h c = hi c) ∧ ∀ k, k < 15 ∨ k = 28 → h 106 k = hi 106 k
theorem msc.rf {x : mm_HI} : msc x x := ⟨fun _ _ => rfl, fun _ _ => rfl⟩
theorem msc.trans {x y z : mm_HI} (h : msc x y) (g : msc y z) : msc x z := ⟨fun c hc => (g.1 c hc).trans (h.1 c hc), fun k hk => (g.2 k hk).trans (h.2 k hk)⟩
theorem msc.fld {x : mm_HI} {k : Nat} {v : Int32} (hk : 15 ≤ k) (h28 : k ≠ 28) : msc x (mm_up2 x 106 k v) := ⟨fun c hc => by simp [va_up, show c ≠ 106 by omega], fun j hj => by simp [va_up, show j ≠ k by omega]⟩
theorem msc.arr {x : mm_HI} {c k : Nat} {v : Int32} (hc : c = 114 ∨ c = 115 ∨ c = 116 ∨ c = 117 ∨ c = 118 ∨ c = 119 ∨ c = 121 ∨ c = 122 ∨ c = 123) : msc x (mm_up2 x c k v) := ⟨fun z hz => by simp [va_up, show z ≠ c by omega], fun j hj => by simp [va_up, show 106 ≠ c by omega]⟩
theorem msc.frr {x y : mm_HI} (h : msc x y) : frr 106 125 x y := fun c hc => h.1 c (by omega)
theorem ntF.keep {x y : mm_HI} {c o n t : Nat} {f : Nat → Nat} (h : ntF x c o n f t) (hc : y c = x c) : ntF y c o n f t := by
  unfold ntF
  rw [hc]
  exact h
theorem pgM.keep {x y : mm_HI} {P : PG} (h : pgM x P) (h0 : y 106 0 = x 106 0) (h1 : y 106 1 = x 106 1) (h2 : y 106 2 = x 106 2) (h3 : y 107 = x 107) (h4 : y 108 = x 108) (h5 : y 109 = x 109) : pgM y P := by
  unfold pgM
  rw [h0, h1, h2, h3, h4, h5]
  exact h
theorem rowM.keep {x y : mm_HI} {n t : Nat} {f : Nat → Nat} (h : rowM x n f t) (h0 : y 106 6 = x 106 6) (h1 : y 106 7 = x 106 7) (h2 : y 110 = x 110) : rowM y n f t := by
  unfold rowM
  rw [h0, h1, h2]
  exact h
theorem unM.keep {x y : mm_HI} {K : Nat} {pn : Nat → Nat} {pf : Nat → Nat → Nat} {pt : Nat → Nat} (h : unM x K pn pf pt) (h0 : y 106 28 = x 106 28) (h1 : y 120 = x 120) : unM y K pn pf pt := ⟨by rw [h0]; exact h.1, h.2.1, fun k hk => (h.2.2 k hk).keep h1⟩
theorem imM.keep {x y : mm_HI} {im : Nat → Option DK} (h : imM x im) (h0 : y 124 = x 124) : imM y im := by
  intro i hi
  rcases h i hi with ⟨q1, q2⟩ | ⟨n, f, t, K, pn, pf, pt, q1, q2, q3, q4, q5, q6⟩
  · exact Or.inl ⟨q1, by rw [h0]; exact q2⟩
  · exact Or.inr ⟨n, f, t, K, pn, pf, pt, q1, by rw [h0]; exact q2, by rw [h0]; exact q3, q4, q5.keep h0, fun k hk => (q6 k hk).keep h0⟩
theorem snM.keep {x y : mm_HI} {sl : List (Nat × Nat)} (h : snM x sl) (h0 : y 106 9 = x 106 9) (h1 : y 111 = x 111) (h2 : y 112 = x 112) : snM y sl := by
  unfold snM
  rw [h0, h1, h2]
  exact h
theorem txM.keep {x y : mm_HI} {b : Nat → Nat} {N : Nat} (h : txM x b N) (h0 : y 106 14 = x 106 14) (h1 : y 113 = x 113) : txM y b N := by
  unfold txM
  rw [h0, h1]
  exact h
theorem pgM.sc {x y : mm_HI} {P : PG} (h : pgM x P) (hs : msc x y) : pgM y P := h.keep (hs.2 0 (by omega)) (hs.2 1 (by omega)) (hs.2 2 (by omega)) (hs.1 _ (by omega)) (hs.1 _ (by omega)) (hs.1 _ (by omega))
theorem rowM.sc {x y : mm_HI} {n t : Nat} {f : Nat → Nat} (h : rowM x n f t) (hs : msc x y) : rowM y n f t := h.keep (hs.2 6 (by omega)) (hs.2 7 (by omega)) (hs.1 _ (by omega))
theorem txM.sc {x y : mm_HI} {b : Nat → Nat} {N : Nat} (h : txM x b N) (hs : msc x y) : txM y b N := h.keep (hs.2 14 (by omega)) (hs.1 _ (by omega))
theorem mS.sc {P : PG} {n : Nat} {f : Nat → Nat} {t K : Nat} {pn : Nat → Nat} {pf : Nat → Nat → Nat} {pt : Nat → Nat} {im : Nat → Option DK} {sl : List (Nat × Nat)} {N : Nat} {b : Nat → Nat} {tr : Int64} {x y : mm_HI} {τ : mm_T} (hM : mS P n f t K pn pf pt im sl N b tr x τ) (hs : msc x y) : mS P n f t K pn pf pt im sl N b tr y τ := by
  obtain ⟨sw, hτ, hP, hRw, hV, hU, hI, hIV, hN, hNO, hT, hTr⟩ := hM
  exact ⟨sw, hτ, hP.sc hs, hRw.sc hs, hV, hU.keep (hs.2 28 (by omega)) (hs.1 _ (by omega)), hI.keep (hs.1 _ (by omega)), hIV, hN.keep (hs.2 9 (by omega)) (hs.1 _ (by omega)) (hs.1 _ (by omega)), hNO, hT.sc hs, hTr⟩
theorem RQ.mk {z : ST × Int32} {P : PG} {n : Nat} {f : Nat → Nat} {t K : Nat} {pn : Nat → Nat} {pf : Nat → Nat → Nat} {pt : Nat → Nat} {im : Nat → Option DK} {sl : List (Nat × Nat)} {N : Nat} {b : Nat → Nat} {tr : Int64} {r : Int32} {hi h : mm_HI} {τ t2 : mm_T} (e : z = (mkT P n f t K pn pf pt im sl N b tr, r)) (hc : mS P n f t K pn pf pt im sl N b tr h t2) (hf : frr 106 125 hi h) (h1 : t2.1 = τ.1) (h2 : t2.2 0 = τ.2 0) : RQ z hi τ (some (.int r)) h t2 := by
  rw [e]
  exact ⟨rfl, hc, hf, h1, h2⟩
theorem mS.post {P : PG} {n : Nat} {f : Nat → Nat} {t K : Nat} {pn : Nat → Nat} {pf : Nat → Nat → Nat} {pt : Nat → Nat} {im : Nat → Option DK} {sl : List (Nat × Nat)} {N : Nat} {b : Nat → Nat} {tr : Int64} {x y : mm_HI} {τ : mm_T} {z : ST × Int32} {r : Int32} (hM : mS P n f t K pn pf pt im sl N b tr x τ) (hs : msc x y) (e : z = (mkT P n f t K pn pf pt im sl N b tr, r)) : RQ z x τ (some (.int r)) y τ := RQ.mk e (hM.sc hs) hs.frr rfl rfl
theorem i_nlt {x y : Int32} (h : ¬ x < y) : y ≤ x := by
  rw [Int32.lt_iff_toInt_lt] at h
  rw [Int32.le_iff_toInt_le]
  omega
theorem i_lt {x y : Int32} (h : x < y) : ¬ y ≤ x := by
  rw [Int32.lt_iff_toInt_lt] at h
  rw [Int32.le_iff_toInt_le]
  omega
theorem in0 {x : Int32} {m : Nat} (hm : m + 1 < 2 ^ 31) : (nI 0 ≤ x ∧ x ≤ nI m) ↔ isI x (m + 1) := by
  constructor
  · rintro ⟨h1, h2⟩
    rw [Int32.le_iff_toInt_le, nI_toInt (by omega)] at h1 h2
    exact ⟨x.toInt.toNat, by omega, (nI_back (by omega)).symm⟩
  · rintro ⟨s, hs, rfl⟩
    exact ⟨nI_le (by omega) (by omega), nI_le (by omega) (by omega)⟩
theorem in1 {x : Int32} {m : Nat} (hm : m < 2 ^ 31) : (nI 0 ≤ x ∧ x ≤ nI m - nI 1) ↔ isI x m := by
  rcases Nat.eq_zero_or_pos m with rfl | q
  · constructor
    · rintro ⟨h1, h2⟩
      have e : nI 0 - nI 1 = -1 := by decide
      rw [e] at h2
      rw [Int32.le_iff_toInt_le] at h1 h2
      have e1 : (nI 0).toInt = 0 := by decide
      have e2 : (-1 : Int32).toInt = -1 := by decide
      omega
    · rintro ⟨s, hs, rfl⟩; omega
  · obtain ⟨k, rfl⟩ : ∃ k, m = k + 1 := ⟨m - 1, by omega⟩
    have e : nI (k + 1) - nI 1 = nI k := by rw [pk_sub (by omega)]; rfl
    rw [e]
    exact in0 hm
theorem w_iff {d : Nat} {y : MethodName} {as : List Value} {hi : mm_HI} {τ : mm_T} {p q : Prop} (h : wB d y as hi τ p) (e : p ↔ q) : wB d y as hi τ q := by
  rw [← propext e]
  exact h
set_option maxHeartbeats 2000000 in
theorem m_in {d : Nat} (hd : 1 ≤ d) {hi : mm_HI} {τ : mm_T} {x lo up : Int32} : wB d yX11_in [.int x, .int lo, .int up] hi τ (lo ≤ x ∧ x ≤ up) := by
  refine w_intro (by omega) M_X11_in (Nat.le_of_ble_eq_true rfl) rfl ?_
  intro e X he G
  show X 0 [some (.int (x)), some (.int (lo)), some (.int (up))] [] hi τ 125
  refine q_iload_n G (pc := 0) dX11_in_0 rfl ?_
  refine q_iload_n G (pc := 1) dX11_in_1 rfl ?_
  refine q_icmp_lt (tgt := 14) G (pc := 2) dX11_in_2 (by decide) (fun c2 => ?_) (fun c2 => ?_)
  · refine q_iconst (v := nI 0) G (pc := 14) dX11_in_14 (by decide) ?_
    refine q_iret G (pc := 15) dX11_in_15 (Or.inr ⟨rfl, by decide⟩) ?_
    exact ⟨rfl, rfl, Or.inr ⟨fun z => i_lt c2 z.1, rfl⟩⟩
  · refine q_iload_n G (pc := 5) dX11_in_5 rfl ?_
    refine q_iload_n G (pc := 6) dX11_in_6 rfl ?_
    refine q_icmp_gt (tgt := 14) G (pc := 7) dX11_in_7 (by decide) (fun c7 => ?_) (fun c7 => ?_)
    · refine q_iconst (v := nI 0) G (pc := 14) dX11_in_14 (by decide) ?_
      refine q_iret G (pc := 15) dX11_in_15 (Or.inr ⟨rfl, by decide⟩) ?_
      exact ⟨rfl, rfl, Or.inr ⟨fun z => i_lt c7 z.2, rfl⟩⟩
    · refine q_iconst (v := nI 1) G (pc := 10) dX11_in_10 (by decide) ?_
      refine q_goto (tgt := 15) G (pc := 11) dX11_in_11 (by decide) ?_
      refine q_iret G (pc := 15) dX11_in_15 (Or.inr ⟨rfl, by decide⟩) ?_
      exact ⟨rfl, rfl, Or.inl ⟨⟨i_nlt c2, i_nlt c7⟩, rfl⟩⟩
set_option maxHeartbeats 2000000 in
theorem m_has {d : Nat} (hd : 1 ≤ d) {hi : mm_HI} {τ : mm_T} {a k : Nat} (ha : a < 2 ^ 31) (hk : k < 32) : wB d yX11_has [.int (nI a), .int (nI k)] hi τ (a / 2 ^ k % 2 = 1) := by
  refine w_intro (by omega) M_X11_has (Nat.le_of_ble_eq_true rfl) rfl ?_
  intro e X he G
  show X 0 [some (.int (nI (a))), some (.int (nI (k)))] [] hi τ 125
  refine q_iload_n G (pc := 0) dX11_has_0 rfl ?_
  refine q_iload_n G (pc := 1) dX11_has_1 rfl ?_
  refine q_ishr G (pc := 2) dX11_has_2 ?_
  rw [shr_nI ha hk]
  refine q_iconst (v := nI 1) G (pc := 3) dX11_has_3 (by decide) ?_
  refine q_iand G (pc := 4) dX11_has_4 ?_
  rw [(show nI (a / 2 ^ k) &&& nI 1 = nI (a / 2 ^ k % 2) by rw [and_nI, Nat.and_one_is_mod])]
  have hb2 := bit_lt2 a k
  refine q_iconst (v := nI 1) G (pc := 5) dX11_has_5 (by decide) ?_
  refine q_icmp_neN (tgt := 13) G (pc := 6) dX11_has_6 (by decide) (by omega) (by omega) (fun c6 => ?_) (fun c6 => ?_)
  · refine q_iconst (v := nI 0) G (pc := 13) dX11_has_13 (by decide) ?_
    refine q_iret G (pc := 14) dX11_has_14 (Or.inr ⟨rfl, by decide⟩) ?_
    exact ⟨rfl, rfl, Or.inr ⟨c6, rfl⟩⟩
  · refine q_iconst (v := nI 1) G (pc := 9) dX11_has_9 (by decide) ?_
    refine q_goto (tgt := 14) G (pc := 10) dX11_has_10 (by decide) ?_
    refine q_iret G (pc := 14) dX11_has_14 (Or.inr ⟨rfl, by decide⟩) ?_
    exact ⟨rfl, rfl, Or.inl ⟨c6, rfl⟩⟩
set_option maxHeartbeats 2000000 in
theorem m_at {d : Nat} (hd : 1 ≤ d) {hi : mm_HI} {τ : mm_T} {s l i : Nat} : wE d yX11_at [.int (nI s), .int (nI l), .int (nI i)] hi τ (nI (6 * s + 2 * l + i)) := by
  refine w_intro (by omega) M_X11_at (Nat.le_of_ble_eq_true rfl) rfl ?_
  intro e X he G
  show X 0 [some (.int (nI (s))), some (.int (nI (l))), some (.int (nI (i)))] [] hi τ 125
  refine q_bipush (v := nI 6) G (pc := 0) dX11_at_0 (by decide) ?_
  refine q_iload_n G (pc := 2) dX11_at_2 rfl ?_
  refine q_imulN G (pc := 3) dX11_at_3 ?_
  refine q_iconst (v := nI 2) G (pc := 4) dX11_at_4 (by decide) ?_
  refine q_iload_n G (pc := 5) dX11_at_5 rfl ?_
  refine q_imulN G (pc := 6) dX11_at_6 ?_
  refine q_iaddN G (pc := 7) dX11_at_7 ?_
  refine q_iload_n G (pc := 8) dX11_at_8 rfl ?_
  refine q_iaddN G (pc := 9) dX11_at_9 ?_
  refine q_iret G (pc := 10) dX11_at_10 (Or.inl rfl) ?_
  exact ⟨rfl, rfl, rfl⟩
set_option maxHeartbeats 2000000 in
theorem m_isLetter {d : Nat} (hd : 2 ≤ d) {hi : mm_HI} {τ : mm_T} {c : Nat} (hc : c < 256) : wB d yX11_isLetter [.int (nI c)] hi τ (97 ≤ c ∧ c ≤ 122) := by
  refine w_intro (by omega) M_X11_isLetter (Nat.le_of_ble_eq_true rfl) rfl ?_
  intro e X he G
  show X 0 [some (.int (nI (c)))] [] hi τ 125
  refine q_iload_n G (pc := 0) dX11_isLetter_0 rfl ?_
  refine q_bipush (v := nI 97) G (pc := 1) dX11_isLetter_1 (by decide) ?_
  refine q_bipush (v := nI 122) G (pc := 3) dX11_isLetter_3 (by decide) ?_
  refine q_cS3B G (pc := 5) dX11_isLetter_5 cs_X11_71 (m_in (by omega)) (Nat.le_of_ble_eq_true rfl) (fun c5 => ?_) (fun c5 => ?_)
  · refine q_iret G (pc := 8) dX11_isLetter_8 (Or.inr ⟨rfl, by decide⟩) ?_
    exact ⟨rfl, rfl, Or.inl ⟨⟨(nI_leI (by omega) (by omega)).mp c5.1, (nI_leI (by omega) (by omega)).mp c5.2⟩, rfl⟩⟩
  · refine q_iret G (pc := 8) dX11_isLetter_8 (Or.inr ⟨rfl, by decide⟩) ?_
    exact ⟨rfl, rfl, Or.inr ⟨fun z => c5 ⟨nI_le z.1 (by omega), nI_le z.2 (by omega)⟩, rfl⟩⟩
set_option maxHeartbeats 2000000 in
theorem m_isStrip {d : Nat} (hd : 2 ≤ d) {hi : mm_HI} {τ : mm_T} {P : PG} {n : Nat} {f : Nat → Nat} {t K : Nat} {pn : Nat → Nat} {pf : Nat → Nat → Nat} {pt : Nat → Nat} {im : Nat → Option DK} {sl : List (Nat × Nat)} {N : Nat} {b : Nat → Nat} {tr : Int64} (hM : mS P n f t K pn pf pt im sl N b tr hi τ) {x : Int32} : wB d yX11_isStrip [.ref 106, .int x] hi τ (isI x (pS P)) := by
  refine w_intro (by omega) M_X11_isStrip (Nat.le_of_ble_eq_true rfl) rfl ?_
  intro e X he G
  show X 0 [some (.ref (106)), some (.int (x))] [] hi τ 125
  obtain ⟨sw, hτ, hP, hRw, hV, hU, hI, hIV, hN, hNO, hT, hTr⟩ := id hM
  have hS6 : pS P ≤ 6 := hP.2.2.2.2.2.2.2.1
  have hL3 : pL P ≤ 3 := hP.2.2.2.2.2.2.1
  have hL1 : 1 ≤ pL P := hP.2.2.2.2.2.1
  have hW8 : (pW P).length ≤ 8 := hP.2.2.2.2.2.2.2.2.2.1
  have hn6 : n ≤ 6 := hRw.2.2.2.1
  have hfs : ∀ j, j < n → f j < pS P := hV.1.1
  have hV1 : rowV P n f := hV.1
  refine q_iload_n G (pc := 0) dX11_isStrip_0 rfl ?_
  refine q_iconst (v := nI 0) G (pc := 1) dX11_isStrip_1 (by decide) ?_
  refine q_aload_n G (pc := 2) dX11_isStrip_2 rfl ?_
  refine q_getI (v := nI (pS P)) G (pc := 3) dX11_isStrip_3 fl_X11_68_10 (by decide) rfl hP.2.1 ?_
  refine q_iconst (v := nI 1) G (pc := 6) dX11_isStrip_6 (by decide) ?_
  refine q_isub G (pc := 7) dX11_isStrip_7 ?_
  refine q_cS3B G (pc := 8) dX11_isStrip_8 cs_X11_71 (w_iff (m_in (by omega)) (in1 (m := pS P) (by omega))) (Nat.le_of_ble_eq_true rfl) (fun c8 => ?_) (fun c8 => ?_)
  · refine q_iret G (pc := 11) dX11_isStrip_11 (Or.inr ⟨rfl, by decide⟩) ?_
    exact ⟨rfl, rfl, Or.inl ⟨c8, rfl⟩⟩
  · refine q_iret G (pc := 11) dX11_isStrip_11 (Or.inr ⟨rfl, by decide⟩) ?_
    exact ⟨rfl, rfl, Or.inr ⟨c8, rfl⟩⟩
set_option maxHeartbeats 2000000 in
theorem m_isPlace {d : Nat} (hd : 2 ≤ d) {hi : mm_HI} {τ : mm_T} {P : PG} {n : Nat} {f : Nat → Nat} {t K : Nat} {pn : Nat → Nat} {pf : Nat → Nat → Nat} {pt : Nat → Nat} {im : Nat → Option DK} {sl : List (Nat × Nat)} {N : Nat} {b : Nat → Nat} {tr : Int64} (hM : mS P n f t K pn pf pt im sl N b tr hi τ) {x : Int32} : wB d yX11_isPlace [.ref 106, .int x] hi τ (isI x (n)) := by
  refine w_intro (by omega) M_X11_isPlace (Nat.le_of_ble_eq_true rfl) rfl ?_
  intro e X he G
  show X 0 [some (.ref (106)), some (.int (x))] [] hi τ 125
  obtain ⟨sw, hτ, hP, hRw, hV, hU, hI, hIV, hN, hNO, hT, hTr⟩ := id hM
  have hS6 : pS P ≤ 6 := hP.2.2.2.2.2.2.2.1
  have hL3 : pL P ≤ 3 := hP.2.2.2.2.2.2.1
  have hL1 : 1 ≤ pL P := hP.2.2.2.2.2.1
  have hW8 : (pW P).length ≤ 8 := hP.2.2.2.2.2.2.2.2.2.1
  have hn6 : n ≤ 6 := hRw.2.2.2.1
  have hfs : ∀ j, j < n → f j < pS P := hV.1.1
  have hV1 : rowV P n f := hV.1
  refine q_iload_n G (pc := 0) dX11_isPlace_0 rfl ?_
  refine q_iconst (v := nI 0) G (pc := 1) dX11_isPlace_1 (by decide) ?_
  refine q_aload_n G (pc := 2) dX11_isPlace_2 rfl ?_
  refine q_getI (v := nI (n)) G (pc := 3) dX11_isPlace_3 fl_X11_75_10 (by decide) rfl hRw.1 ?_
  refine q_iconst (v := nI 1) G (pc := 6) dX11_isPlace_6 (by decide) ?_
  refine q_isub G (pc := 7) dX11_isPlace_7 ?_
  refine q_cS3B G (pc := 8) dX11_isPlace_8 cs_X11_71 (w_iff (m_in (by omega)) (in1 (m := n) (by omega))) (Nat.le_of_ble_eq_true rfl) (fun c8 => ?_) (fun c8 => ?_)
  · refine q_iret G (pc := 11) dX11_isPlace_11 (Or.inr ⟨rfl, by decide⟩) ?_
    exact ⟨rfl, rfl, Or.inl ⟨c8, rfl⟩⟩
  · refine q_iret G (pc := 11) dX11_isPlace_11 (Or.inr ⟨rfl, by decide⟩) ?_
    exact ⟨rfl, rfl, Or.inr ⟨c8, rfl⟩⟩
set_option maxHeartbeats 2000000 in
theorem m_isLine {d : Nat} (hd : 2 ≤ d) {hi : mm_HI} {τ : mm_T} {P : PG} {n : Nat} {f : Nat → Nat} {t K : Nat} {pn : Nat → Nat} {pf : Nat → Nat → Nat} {pt : Nat → Nat} {im : Nat → Option DK} {sl : List (Nat × Nat)} {N : Nat} {b : Nat → Nat} {tr : Int64} (hM : mS P n f t K pn pf pt im sl N b tr hi τ) {x : Int32} : wB d yX11_isLine [.ref 106, .int x] hi τ (isI x (pL P)) := by
  refine w_intro (by omega) M_X11_isLine (Nat.le_of_ble_eq_true rfl) rfl ?_
  intro e X he G
  show X 0 [some (.ref (106)), some (.int (x))] [] hi τ 125
  obtain ⟨sw, hτ, hP, hRw, hV, hU, hI, hIV, hN, hNO, hT, hTr⟩ := id hM
  have hS6 : pS P ≤ 6 := hP.2.2.2.2.2.2.2.1
  have hL3 : pL P ≤ 3 := hP.2.2.2.2.2.2.1
  have hL1 : 1 ≤ pL P := hP.2.2.2.2.2.1
  have hW8 : (pW P).length ≤ 8 := hP.2.2.2.2.2.2.2.2.2.1
  have hn6 : n ≤ 6 := hRw.2.2.2.1
  have hfs : ∀ j, j < n → f j < pS P := hV.1.1
  have hV1 : rowV P n f := hV.1
  refine q_iload_n G (pc := 0) dX11_isLine_0 rfl ?_
  refine q_iconst (v := nI 0) G (pc := 1) dX11_isLine_1 (by decide) ?_
  refine q_aload_n G (pc := 2) dX11_isLine_2 rfl ?_
  refine q_getI (v := nI (pL P)) G (pc := 3) dX11_isLine_3 fl_X11_7_10 (by decide) rfl hP.1 ?_
  refine q_iconst (v := nI 1) G (pc := 6) dX11_isLine_6 (by decide) ?_
  refine q_isub G (pc := 7) dX11_isLine_7 ?_
  refine q_cS3B G (pc := 8) dX11_isLine_8 cs_X11_71 (w_iff (m_in (by omega)) (in1 (m := pL P) (by omega))) (Nat.le_of_ble_eq_true rfl) (fun c8 => ?_) (fun c8 => ?_)
  · refine q_iret G (pc := 11) dX11_isLine_11 (Or.inr ⟨rfl, by decide⟩) ?_
    exact ⟨rfl, rfl, Or.inl ⟨c8, rfl⟩⟩
  · refine q_iret G (pc := 11) dX11_isLine_11 (Or.inr ⟨rfl, by decide⟩) ?_
    exact ⟨rfl, rfl, Or.inr ⟨c8, rfl⟩⟩
theorem mS.txt {P : PG} {n : Nat} {f : Nat → Nat} {t K : Nat} {pn : Nat → Nat} {pf : Nat → Nat → Nat} {pt : Nat → Nat} {im : Nat → Option DK} {sl : List (Nat × Nat)} {N : Nat} {b : Nat → Nat} {tr : Int64} {x y : mm_HI} {τ : mm_T} (hM : mS P n f t K pn pf pt im sl N b tr x τ) {N2 : Nat} {c2 : Nat → Nat} (hf : ∀ c, c ≠ 106 → c ≠ 113 → y c = x c) (h0 : ∀ k, k ≠ 14 → y 106 k = x 106 k) (ht : txM y c2 N2) : mS P n f t K pn pf pt im sl N2 c2 tr y τ := by
  obtain ⟨sw, hτ, hP, hRw, hV, hU, hI, hIV, hN, hNO, hT, hTr⟩ := hM
  exact ⟨sw, hτ, hP.keep (h0 _ (by omega)) (h0 _ (by omega)) (h0 _ (by omega)) (hf _ (by omega) (by omega)) (hf _ (by omega) (by omega)) (hf _ (by omega) (by omega)), hRw.keep (h0 _ (by omega)) (h0 _ (by omega)) (hf _ (by omega) (by omega)), hV, hU.keep (h0 _ (by omega)) (hf _ (by omega) (by omega)), hI.keep (hf _ (by omega) (by omega)), hIV, hN.keep (h0 _ (by omega)) (hf _ (by omega) (by omega)) (hf _ (by omega) (by omega)), hNO, ht, hTr⟩
set_option maxHeartbeats 2000000 in
theorem m_type {d : Nat} (hd : 2 ≤ d) {hi : mm_HI} {τ : mm_T} {P : PG} {n : Nat} {f : Nat → Nat} {t K : Nat} {pn : Nat → Nat} {pf : Nat → Nat → Nat} {pt : Nat → Nat} {im : Nat → Option DK} {sl : List (Nat × Nat)} {N : Nat} {b : Nat → Nat} {tr : Int64} (hM : mS P n f t K pn pf pt im sl N b tr hi τ) {x : Int32} : wR d yX11_type [.ref 106, .int x] hi τ (RQ (zType (mkT P n f t K pn pf pt im sl N b tr) (ix x 256)) hi τ) := by
  refine w_intro (by omega) M_X11_type (Nat.le_of_ble_eq_true rfl) rfl ?_
  intro e X he G
  show X 0 [some (.ref (106)), some (.int (x))] [] hi τ 125
  obtain ⟨sw, hτ, hP, hRw, hV, hU, hI, hIV, hN, hNO, hT, hTr⟩ := id hM
  have hS6 : pS P ≤ 6 := hP.2.2.2.2.2.2.2.1
  have hL3 : pL P ≤ 3 := hP.2.2.2.2.2.2.1
  have hL1 : 1 ≤ pL P := hP.2.2.2.2.2.1
  have hW8 : (pW P).length ≤ 8 := hP.2.2.2.2.2.2.2.2.2.1
  have hn6 : n ≤ 6 := hRw.2.2.2.1
  have hfs : ∀ j, j < n → f j < pS P := hV.1.1
  have hV1 : rowV P n f := hV.1
  have hN150 := hT.2.1
  refine q_iload_n G (pc := 0) dX11_type_0 rfl ?_
  refine q_iconst (v := nI 0) G (pc := 1) dX11_type_1 (by decide) ?_
  refine q_sipush (v := nI 255) G (pc := 2) dX11_type_2 (by decide) ?_
  refine q_cS3B G (pc := 5) dX11_type_5 cs_X11_71 (w_iff (m_in (by omega)) (in0 (m := 255) (by decide))) (Nat.le_of_ble_eq_true rfl) (fun c5 => ?_) (fun c5 => ?_)
  · obtain ⟨c, hc, rfl⟩ := c5
    refine q_if_neN (tgt := 13) G (pc := 8) dX11_type_8 (by decide) (by omega) (fun _ => ?_) (fun c8 => absurd c8 (by decide))
    refine q_aload_n G (pc := 13) dX11_type_13 rfl ?_
    refine q_getI (v := nI (N)) G (pc := 14) dX11_type_14 fl_X11_78_10 (by decide) rfl hT.1 ?_
    refine q_sipush (v := nI 150) G (pc := 17) dX11_type_17 (by decide) ?_
    refine q_icmp_neN (tgt := 26) G (pc := 20) dX11_type_20 (by decide) (by omega) (by omega) (fun c20 => ?_) (fun c20 => ?_)
    · refine q_aload_n G (pc := 26) dX11_type_26 rfl ?_
      refine q_getR (x := 113) G (pc := 27) dX11_type_27 fl_X11_32_10 rfl (hg hτ (hf_10_13 rfl)) ?_
      refine q_aload_n G (pc := 30) dX11_type_30 rfl ?_
      refine q_getI (v := nI (N)) G (pc := 31) dX11_type_31 fl_X11_78_10 (by decide) rfl hT.1 ?_
      refine q_iload_n G (pc := 34) dX11_type_34 rfl ?_
      refine q_iast (j := N) G (pc := 35) dX11_type_35 rfl rfl (by omega) ?_
      refine q_aload_n G (pc := 36) dX11_type_36 rfl ?_
      refine q_dup G (pc := 37) dX11_type_37 rfl ?_
      refine q_getI (v := nI (N)) G (pc := 38) dX11_type_38 fl_X11_78_10 (by decide) rfl (by simp [va_up]; exact hT.1) ?_
      refine q_iconst (v := nI 1) G (pc := 41) dX11_type_41 (by decide) ?_
      refine q_iaddN G (pc := 42) dX11_type_42 ?_
      refine q_putI G (pc := 43) dX11_type_43 fl_X11_78_10 rfl ?_
      refine q_aload_n G (pc := 46) dX11_type_46 rfl ?_
      refine q_getI (v := nI (N + 1)) G (pc := 47) dX11_type_47 fl_X11_78_10 (by decide) rfl (by simp [va_up]) ?_
      refine q_iret G (pc := 50) dX11_type_50 (Or.inl rfl) ?_
      have e : zType (mkT P n f t K pn pf pt im sl N b tr) (ix (nI c) 256) = (mkT P n f t K pn pf pt im sl (N + 1) (va_up b N c) tr, nI (N + 1)) := by rw [ix_some hc (by decide)]; exact if_neg c20
      refine RQ.mk e (hM.txt (fun z h1 h2 => by simp [va_up, h1, h2]) (fun k hk => by simp [va_up, hk]) ⟨by simp [va_up], by omega, fun j hj => ?_, fun j => ?_⟩) (fun z hz => by simp [va_up, show z ≠ 106 by omega, show z ≠ 113 by omega]) rfl rfl
      · by_cases q : j = N
        · subst q; simp [va_up]
        · simp [va_up, q]; exact hT.2.2.1 j (by omega)
      · unfold va_up
        split
        · omega
        · exact hT.2.2.2 j
    · refine q_bipush (v := -3) G (pc := 23) dX11_type_23 (by decide) ?_
      refine q_iret G (pc := 25) dX11_type_25 (Or.inl rfl) ?_
      exact hM.post msc.rf (by rw [ix_some hc (by decide)]; exact if_pos c20)
  · refine q_if_neN (tgt := 13) G (pc := 8) dX11_type_8 (by decide) (by omega) (fun c8 => absurd c8 (by decide)) (fun _ => ?_)
    refine q_iconst (v := -1) G (pc := 11) dX11_type_11 (by decide) ?_
    refine q_iret G (pc := 12) dX11_type_12 (Or.inl rfl) ?_
    exact hM.post msc.rf (by rw [ix_none c5]; rfl)
set_option maxHeartbeats 2000000 in
theorem m_clear {d : Nat} (hd : 1 ≤ d) {hi : mm_HI} {τ : mm_T} {P : PG} {n : Nat} {f : Nat → Nat} {t K : Nat} {pn : Nat → Nat} {pf : Nat → Nat → Nat} {pt : Nat → Nat} {im : Nat → Option DK} {sl : List (Nat × Nat)} {N : Nat} {b : Nat → Nat} {tr : Int64} (hM : mS P n f t K pn pf pt im sl N b tr hi τ)  : wR d yX11_clear [.ref 106] hi τ (RQ (zClear (mkT P n f t K pn pf pt im sl N b tr)) hi τ) := by
  refine w_intro (by omega) M_X11_clear (Nat.le_of_ble_eq_true rfl) rfl ?_
  intro e X he G
  show X 0 [some (.ref (106)), none] [] hi τ 125
  obtain ⟨sw, hτ, hP, hRw, hV, hU, hI, hIV, hN, hNO, hT, hTr⟩ := id hM
  have hS6 : pS P ≤ 6 := hP.2.2.2.2.2.2.2.1
  have hL3 : pL P ≤ 3 := hP.2.2.2.2.2.2.1
  have hL1 : 1 ≤ pL P := hP.2.2.2.2.2.1
  have hW8 : (pW P).length ≤ 8 := hP.2.2.2.2.2.2.2.2.2.1
  have hn6 : n ≤ 6 := hRw.2.2.2.1
  have hfs : ∀ j, j < n → f j < pS P := hV.1.1
  have hV1 : rowV P n f := hV.1
  refine q_aload_n G (pc := 0) dX11_clear_0 rfl ?_
  refine q_getI (v := nI (N)) G (pc := 1) dX11_clear_1 fl_X11_78_10 (by decide) rfl hT.1 ?_
  refine q_istore_n G (pc := 4) dX11_clear_4 (by decide) ?_
  show X _ [_, _] _ _ _ _
  refine q_aload_n G (pc := 5) dX11_clear_5 rfl ?_
  refine q_iconst (v := nI 0) G (pc := 6) dX11_clear_6 (by decide) ?_
  refine q_putI G (pc := 7) dX11_clear_7 fl_X11_78_10 rfl ?_
  refine q_iload_n G (pc := 10) dX11_clear_10 rfl ?_
  refine q_iret G (pc := 11) dX11_clear_11 (Or.inl rfl) ?_
  exact RQ.mk rfl (hM.txt (fun z h1 h2 => by simp [va_up, h1]) (fun k hk => by simp [va_up, hk]) ⟨by simp [va_up], by omega, fun j hj => absurd hj (Nat.not_lt_zero _), hT.2.2.2⟩) (fun z hz => by simp [va_up, show z ≠ 106 by omega]) rfl rfl
set_option maxHeartbeats 2000000 in
theorem m_count {d : Nat} (hd : 2 ≤ d) {hi : mm_HI} {τ : mm_T} {P : PG} {n : Nat} {f : Nat → Nat} {t K : Nat} {pn : Nat → Nat} {pf : Nat → Nat → Nat} {pt : Nat → Nat} {im : Nat → Option DK} {sl : List (Nat × Nat)} {N : Nat} {b : Nat → Nat} {tr : Int64} (hM : mS P n f t K pn pf pt im sl N b tr hi τ) {x : Int32} : wR d yX11_count [.ref 106, .int x] hi τ (RQ (zCount (mkT P n f t K pn pf pt im sl N b tr) (ix x 6)) hi τ) := by
  refine w_intro (by omega) M_X11_count (Nat.le_of_ble_eq_true rfl) rfl ?_
  intro e X he G
  show X 0 [some (.ref (106)), some (.int (x))] [] hi τ 125
  obtain ⟨sw, hτ, hP, hRw, hV, hU, hI, hIV, hN, hNO, hT, hTr⟩ := id hM
  have hS6 : pS P ≤ 6 := hP.2.2.2.2.2.2.2.1
  have hL3 : pL P ≤ 3 := hP.2.2.2.2.2.2.1
  have hL1 : 1 ≤ pL P := hP.2.2.2.2.2.1
  have hW8 : (pW P).length ≤ 8 := hP.2.2.2.2.2.2.2.2.2.1
  have hn6 : n ≤ 6 := hRw.2.2.2.1
  have hfs : ∀ j, j < n → f j < pS P := hV.1.1
  have hV1 : rowV P n f := hV.1
  refine q_iload_n G (pc := 0) dX11_count_0 rfl ?_
  refine q_iconst (v := nI 0) G (pc := 1) dX11_count_1 (by decide) ?_
  refine q_iconst (v := nI 5) G (pc := 2) dX11_count_2 (by decide) ?_
  refine q_cS3B G (pc := 3) dX11_count_3 cs_X11_71 (w_iff (m_in (by omega)) (in0 (m := 5) (by decide))) (Nat.le_of_ble_eq_true rfl) (fun c3 => ?_) (fun c3 => ?_)
  · obtain ⟨k, hk0, rfl⟩ := c3
    refine q_if_neN (tgt := 11) G (pc := 6) dX11_count_6 (by decide) (by omega) (fun _ => ?_) (fun c6 => absurd c6 (by decide))
    refine q_iload_n G (pc := 11) dX11_count_11 rfl ?_
    refine q_if_neN (tgt := 22) G (pc := 12) dX11_count_12 (by decide) (by omega) (fun c12 => ?_) (fun c12 => ?_)
    · refine q_iload_n G (pc := 22) dX11_count_22 rfl ?_
      refine q_iconst (v := nI 1) G (pc := 23) dX11_count_23 (by decide) ?_
      refine q_icmp_neN (tgt := 34) G (pc := 24) dX11_count_24 (by decide) (by omega) (by omega) (fun c24 => ?_) (fun c24 => ?_)
      · refine q_iload_n G (pc := 34) dX11_count_34 rfl ?_
        refine q_iconst (v := nI 2) G (pc := 35) dX11_count_35 (by decide) ?_
        refine q_icmp_neN (tgt := 46) G (pc := 36) dX11_count_36 (by decide) (by omega) (by omega) (fun c36 => ?_) (fun c36 => ?_)
        · refine q_iload_n G (pc := 46) dX11_count_46 rfl ?_
          refine q_iconst (v := nI 3) G (pc := 47) dX11_count_47 (by decide) ?_
          refine q_icmp_neN (tgt := 58) G (pc := 48) dX11_count_48 (by decide) (by omega) (by omega) (fun c48 => ?_) (fun c48 => ?_)
          · refine q_iload_n G (pc := 58) dX11_count_58 rfl ?_
            refine q_iconst (v := nI 4) G (pc := 59) dX11_count_59 (by decide) ?_
            refine q_icmp_neN (tgt := 70) G (pc := 60) dX11_count_60 (by decide) (by omega) (by omega) (fun c60 => ?_) (fun c60 => ?_)
            · refine q_aload_n G (pc := 70) dX11_count_70 rfl ?_
              refine q_getI (v := nI (N)) G (pc := 71) dX11_count_71 fl_X11_78_10 (by decide) rfl hT.1 ?_
              refine q_iret G (pc := 74) dX11_count_74 (Or.inl rfl) ?_
              have hk1 : k = 5 := by omega
              subst hk1
              exact hM.post msc.rf (by rw [ix_some (s := 5) (n := 6) (by decide) (by decide)]; rfl)
            · refine q_aload_n G (pc := 63) dX11_count_63 rfl ?_
              refine q_getI (v := nI (K)) G (pc := 64) dX11_count_64 fl_X11_139_10 (by decide) rfl hU.1 ?_
              refine q_goto (tgt := 74) G (pc := 67) dX11_count_67 (by decide) ?_
              refine q_iret G (pc := 74) dX11_count_74 (Or.inl rfl) ?_
              have hk1 : k = 4 := by omega
              subst hk1
              exact hM.post msc.rf (by rw [ix_some (s := 4) (n := 6) (by decide) (by decide)]; rfl)
          · refine q_aload_n G (pc := 51) dX11_count_51 rfl ?_
            refine q_getI (v := nI (sl.length)) G (pc := 52) dX11_count_52 fl_X11_136_10 (by decide) rfl hN.1 ?_
            refine q_goto (tgt := 74) G (pc := 55) dX11_count_55 (by decide) ?_
            refine q_iret G (pc := 74) dX11_count_74 (Or.inl rfl) ?_
            have hk1 : k = 3 := by omega
            subst hk1
            exact hM.post msc.rf (by rw [ix_some (s := 3) (n := 6) (by decide) (by decide)]; rfl)
        · refine q_aload_n G (pc := 39) dX11_count_39 rfl ?_
          refine q_getI (v := nI ((pW P).length)) G (pc := 40) dX11_count_40 fl_X11_130_10 (by decide) rfl hP.2.2.1 ?_
          refine q_goto (tgt := 74) G (pc := 43) dX11_count_43 (by decide) ?_
          refine q_iret G (pc := 74) dX11_count_74 (Or.inl rfl) ?_
          have hk1 : k = 2 := by omega
          subst hk1
          exact hM.post msc.rf (by rw [ix_some (s := 2) (n := 6) (by decide) (by decide)]; rfl)
      · refine q_aload_n G (pc := 27) dX11_count_27 rfl ?_
        refine q_getI (v := nI (pS P)) G (pc := 28) dX11_count_28 fl_X11_68_10 (by decide) rfl hP.2.1 ?_
        refine q_goto (tgt := 74) G (pc := 31) dX11_count_31 (by decide) ?_
        refine q_iret G (pc := 74) dX11_count_74 (Or.inl rfl) ?_
        have hk1 : k = 1 := by omega
        subst hk1
        exact hM.post msc.rf (by rw [ix_some (s := 1) (n := 6) (by decide) (by decide)]; rfl)
    · refine q_aload_n G (pc := 15) dX11_count_15 rfl ?_
      refine q_getI (v := nI (pL P)) G (pc := 16) dX11_count_16 fl_X11_7_10 (by decide) rfl hP.1 ?_
      refine q_goto (tgt := 74) G (pc := 19) dX11_count_19 (by decide) ?_
      refine q_iret G (pc := 74) dX11_count_74 (Or.inl rfl) ?_
      have hk1 : k = 0 := by omega
      subst hk1
      exact hM.post msc.rf (by rw [ix_some (s := 0) (n := 6) (by decide) (by decide)]; rfl)
  · refine q_if_neN (tgt := 11) G (pc := 6) dX11_count_6 (by decide) (by omega) (fun c6 => absurd c6 (by decide)) (fun _ => ?_)
    refine q_iconst (v := -1) G (pc := 9) dX11_count_9 (by decide) ?_
    refine q_iret G (pc := 10) dX11_count_10 (Or.inl rfl) ?_
    exact hM.post msc.rf (by rw [ix_none c3]; rfl)
set_option maxHeartbeats 2000000 in
theorem m_trace {d : Nat} (hd : 1 ≤ d) {hi : mm_HI} {τ : mm_T} {P : PG} {n : Nat} {f : Nat → Nat} {t K : Nat} {pn : Nat → Nat} {pf : Nat → Nat → Nat} {pt : Nat → Nat} {im : Nat → Option DK} {sl : List (Nat × Nat)} {N : Nat} {b : Nat → Nat} {tr : Int64} (hM : mS P n f t K pn pf pt im sl N b tr hi τ) : wR d yX11_trace [.ref 106] hi τ (fun v h t2 => v = some (.long tr) ∧ h = hi ∧ t2 = τ) := by
  refine w_intro (by omega) M_X11_trace (Nat.le_of_ble_eq_true rfl) rfl ?_
  intro e X he G
  show X 0 [some (.ref (106))] [] hi τ 125
  obtain ⟨sw, hτ, hP, hRw, hV, hU, hI, hIV, hN, hNO, hT, hTr⟩ := id hM
  have hS6 : pS P ≤ 6 := hP.2.2.2.2.2.2.2.1
  have hL3 : pL P ≤ 3 := hP.2.2.2.2.2.2.1
  have hL1 : 1 ≤ pL P := hP.2.2.2.2.2.1
  have hW8 : (pW P).length ≤ 8 := hP.2.2.2.2.2.2.2.2.2.1
  have hn6 : n ≤ 6 := hRw.2.2.2.1
  have hfs : ∀ j, j < n → f j < pS P := hV.1.1
  have hV1 : rowV P n f := hV.1
  refine q_aload_n G (pc := 0) dX11_trace_0 rfl ?_
  refine q_getL G (pc := 1) dX11_trace_1 fl_X11_274_10 rfl ?_
  refine q_lret G (pc := 4) dX11_trace_4 rfl ?_
  exact ⟨by rw [hTr], rfl, rfl⟩
set_option maxHeartbeats 2000000 in
theorem m_place {d : Nat} (hd : 3 ≤ d) {hi : mm_HI} {τ : mm_T} {P : PG} {n : Nat} {f : Nat → Nat} {t K : Nat} {pn : Nat → Nat} {pf : Nat → Nat → Nat} {pt : Nat → Nat} {im : Nat → Option DK} {sl : List (Nat × Nat)} {N : Nat} {b : Nat → Nat} {tr : Int64} (hM : mS P n f t K pn pf pt im sl N b tr hi τ) {x : Int32} : wR d yX11_place [.ref 106, .int x] hi τ (RQ (zPlace (mkT P n f t K pn pf pt im sl N b tr) (ix x n)) hi τ) := by
  refine w_intro (by omega) M_X11_place (Nat.le_of_ble_eq_true rfl) rfl ?_
  intro e X he G
  show X 0 [some (.ref (106)), some (.int (x))] [] hi τ 125
  obtain ⟨sw, hτ, hP, hRw, hV, hU, hI, hIV, hN, hNO, hT, hTr⟩ := id hM
  have hS6 : pS P ≤ 6 := hP.2.2.2.2.2.2.2.1
  have hL3 : pL P ≤ 3 := hP.2.2.2.2.2.2.1
  have hL1 : 1 ≤ pL P := hP.2.2.2.2.2.1
  have hW8 : (pW P).length ≤ 8 := hP.2.2.2.2.2.2.2.2.2.1
  have hn6 : n ≤ 6 := hRw.2.2.2.1
  have hfs : ∀ j, j < n → f j < pS P := hV.1.1
  have hV1 : rowV P n f := hV.1
  refine q_aload_n G (pc := 0) dX11_place_0 rfl ?_
  refine q_iload_n G (pc := 1) dX11_place_1 rfl ?_
  refine q_cV1B G (pc := 2) dX11_place_2 cv_X11_192 rfl (m_isPlace (by omega) hM) (Nat.le_of_ble_eq_true rfl) (fun c2 => ?_) (fun c2 => ?_)
  · obtain ⟨p, hp, rfl⟩ := c2
    refine q_if_eqN (tgt := 17) G (pc := 5) dX11_place_5 (by decide) (by omega) (fun c5 => absurd c5 (by decide)) (fun _ => ?_)
    refine q_aload_n G (pc := 8) dX11_place_8 rfl ?_
    refine q_getR (x := 110) G (pc := 9) dX11_place_9 fl_X11_23_10 rfl (hg hτ (hf_10_8 rfl)) ?_
    refine q_iload_n G (pc := 12) dX11_place_12 rfl ?_
    refine q_iald (j := p) (v := nI (f p)) G (pc := 13) dX11_place_13 rfl rfl (by omega) (hRw.2.2.1 p hp) ?_
    refine q_goto (tgt := 18) G (pc := 14) dX11_place_14 (by decide) ?_
    refine q_iret G (pc := 18) dX11_place_18 (Or.inl rfl) ?_
    exact hM.post msc.rf (by rw [ix_some hp (by omega)]; rfl)
  · refine q_if_eqN (tgt := 17) G (pc := 5) dX11_place_5 (by decide) (by omega) (fun _ => ?_) (fun c5 => absurd c5 (by decide))
    refine q_iconst (v := -1) G (pc := 17) dX11_place_17 (by decide) ?_
    refine q_iret G (pc := 18) dX11_place_18 (Or.inl rfl) ?_
    exact hM.post msc.rf (by rw [ix_none c2]; rfl)
set_option maxHeartbeats 2000000 in
theorem m_sign {d : Nat} (hd : 3 ≤ d) {hi : mm_HI} {τ : mm_T} {P : PG} {n : Nat} {f : Nat → Nat} {t K : Nat} {pn : Nat → Nat} {pf : Nat → Nat → Nat} {pt : Nat → Nat} {im : Nat → Option DK} {sl : List (Nat × Nat)} {N : Nat} {b : Nat → Nat} {tr : Int64} (hM : mS P n f t K pn pf pt im sl N b tr hi τ) {x : Int32} {y : Int32} {z : Int32} : wR d yX11_sign [.ref 106, .int x, .int y, .int z] hi τ (RQ (zSign (mkT P n f t K pn pf pt im sl N b tr) (ix x (pS P)) (ix y (pL P)) (ix z 2)) hi τ) := by
  refine w_intro (by omega) M_X11_sign (Nat.le_of_ble_eq_true rfl) rfl ?_
  intro e X he G
  show X 0 [some (.ref (106)), some (.int (x)), some (.int (y)), some (.int (z))] [] hi τ 125
  obtain ⟨sw, hτ, hP, hRw, hV, hU, hI, hIV, hN, hNO, hT, hTr⟩ := id hM
  have hS6 : pS P ≤ 6 := hP.2.2.2.2.2.2.2.1
  have hL3 : pL P ≤ 3 := hP.2.2.2.2.2.2.1
  have hL1 : 1 ≤ pL P := hP.2.2.2.2.2.1
  have hW8 : (pW P).length ≤ 8 := hP.2.2.2.2.2.2.2.2.2.1
  have hn6 : n ≤ 6 := hRw.2.2.2.1
  have hfs : ∀ j, j < n → f j < pS P := hV.1.1
  have hV1 : rowV P n f := hV.1
  refine q_aload_n G (pc := 0) dX11_sign_0 rfl ?_
  refine q_iload_n G (pc := 1) dX11_sign_1 rfl ?_
  refine q_cV1B G (pc := 2) dX11_sign_2 cv_X11_176 rfl (m_isStrip (by omega) hM) (Nat.le_of_ble_eq_true rfl) (fun c2 => ?_) (fun c2 => ?_)
  · obtain ⟨s, hs, rfl⟩ := c2
    refine q_if_eqN (tgt := 39) G (pc := 5) dX11_sign_5 (by decide) (by omega) (fun c5 => absurd c5 (by decide)) (fun _ => ?_)
    refine q_aload_n G (pc := 8) dX11_sign_8 rfl ?_
    refine q_iload_n G (pc := 9) dX11_sign_9 rfl ?_
    refine q_cV1B G (pc := 10) dX11_sign_10 cv_X11_189 rfl (m_isLine (by omega) hM) (Nat.le_of_ble_eq_true rfl) (fun c10 => ?_) (fun c10 => ?_)
    · obtain ⟨l, hl, rfl⟩ := c10
      refine q_if_eqN (tgt := 39) G (pc := 13) dX11_sign_13 (by decide) (by omega) (fun c13 => absurd c13 (by decide)) (fun _ => ?_)
      refine q_iload_n G (pc := 16) dX11_sign_16 rfl ?_
      refine q_iconst (v := nI 0) G (pc := 17) dX11_sign_17 (by decide) ?_
      refine q_iconst (v := nI 1) G (pc := 18) dX11_sign_18 (by decide) ?_
      refine q_cS3B G (pc := 19) dX11_sign_19 cs_X11_71 (w_iff (m_in (by omega)) (in0 (m := 1) (by decide))) (Nat.le_of_ble_eq_true rfl) (fun c19 => ?_) (fun c19 => ?_)
      · obtain ⟨i, hi2, rfl⟩ := c19
        refine q_if_eqN (tgt := 39) G (pc := 22) dX11_sign_22 (by decide) (by omega) (fun c22 => absurd c22 (by decide)) (fun _ => ?_)
        refine q_aload_n G (pc := 25) dX11_sign_25 rfl ?_
        refine q_getR (x := 107) G (pc := 26) dX11_sign_26 fl_X11_13_10 rfl (hg hτ (hf_10_3 rfl)) ?_
        refine q_iload_n G (pc := 29) dX11_sign_29 rfl ?_
        refine q_iload_n G (pc := 30) dX11_sign_30 rfl ?_
        refine q_iload_n G (pc := 31) dX11_sign_31 rfl ?_
        refine q_cS3E G (pc := 32) dX11_sign_32 cs_X11_108 (m_at (by omega)) (Nat.le_of_ble_eq_true rfl) ?_
        refine q_iald (j := 6 * s + 2 * l + i) (v := nI (bytN (pG P s l i))) G (pc := 35) dX11_sign_35 rfl rfl (by omega) (hP.2.2.2.1 s hs l hl i hi2) ?_
        refine q_goto (tgt := 40) G (pc := 36) dX11_sign_36 (by decide) ?_
        refine q_iret G (pc := 40) dX11_sign_40 (Or.inl rfl) ?_
        exact hM.post msc.rf (by rw [ix_some hs (by omega), ix_some hl (by omega), ix_some hi2 (by decide)]; exact congrArg (fun z => (mkT P n f t K pn pf pt im sl N b tr, z)) (byt_n _))
      · refine q_if_eqN (tgt := 39) G (pc := 22) dX11_sign_22 (by decide) (by omega) (fun _ => ?_) (fun c22 => absurd c22 (by decide))
        refine q_iconst (v := -1) G (pc := 39) dX11_sign_39 (by decide) ?_
        refine q_iret G (pc := 40) dX11_sign_40 (Or.inl rfl) ?_
        exact hM.post msc.rf (by rw [ix_some hs (by omega), ix_some hl (by omega), ix_none c19]; rfl)
    · refine q_if_eqN (tgt := 39) G (pc := 13) dX11_sign_13 (by decide) (by omega) (fun _ => ?_) (fun c13 => absurd c13 (by decide))
      refine q_iconst (v := -1) G (pc := 39) dX11_sign_39 (by decide) ?_
      refine q_iret G (pc := 40) dX11_sign_40 (Or.inl rfl) ?_
      exact hM.post msc.rf (by rw [ix_some hs (by omega), ix_none c10]; rfl)
  · refine q_if_eqN (tgt := 39) G (pc := 5) dX11_sign_5 (by decide) (by omega) (fun _ => ?_) (fun c5 => absurd c5 (by decide))
    refine q_iconst (v := -1) G (pc := 39) dX11_sign_39 (by decide) ?_
    refine q_iret G (pc := 40) dX11_sign_40 (Or.inl rfl) ?_
    exact hM.post msc.rf (by rw [ix_none c2]; rfl)
set_option maxHeartbeats 2000000 in
theorem m_word {d : Nat} (hd : 2 ≤ d) {hi : mm_HI} {τ : mm_T} {P : PG} {n : Nat} {f : Nat → Nat} {t K : Nat} {pn : Nat → Nat} {pf : Nat → Nat → Nat} {pt : Nat → Nat} {im : Nat → Option DK} {sl : List (Nat × Nat)} {N : Nat} {b : Nat → Nat} {tr : Int64} (hM : mS P n f t K pn pf pt im sl N b tr hi τ) {x : Int32} {y : Int32} : wR d yX11_word [.ref 106, .int x, .int y] hi τ (RQ (zWord (mkT P n f t K pn pf pt im sl N b tr) (ix x (pW P).length) (ix y 6)) hi τ) := by
  refine w_intro (by omega) M_X11_word (Nat.le_of_ble_eq_true rfl) rfl ?_
  intro e X he G
  show X 0 [some (.ref (106)), some (.int (x)), some (.int (y))] [] hi τ 125
  obtain ⟨sw, hτ, hP, hRw, hV, hU, hI, hIV, hN, hNO, hT, hTr⟩ := id hM
  have hS6 : pS P ≤ 6 := hP.2.2.2.2.2.2.2.1
  have hL3 : pL P ≤ 3 := hP.2.2.2.2.2.2.1
  have hL1 : 1 ≤ pL P := hP.2.2.2.2.2.1
  have hW8 : (pW P).length ≤ 8 := hP.2.2.2.2.2.2.2.2.2.1
  have hn6 : n ≤ 6 := hRw.2.2.2.1
  have hfs : ∀ j, j < n → f j < pS P := hV.1.1
  have hV1 : rowV P n f := hV.1
  refine q_iload_n G (pc := 0) dX11_word_0 rfl ?_
  refine q_iconst (v := nI 0) G (pc := 1) dX11_word_1 (by decide) ?_
  refine q_aload_n G (pc := 2) dX11_word_2 rfl ?_
  refine q_getI (v := nI ((pW P).length)) G (pc := 3) dX11_word_3 fl_X11_130_10 (by decide) rfl hP.2.2.1 ?_
  refine q_iconst (v := nI 1) G (pc := 6) dX11_word_6 (by decide) ?_
  refine q_isub G (pc := 7) dX11_word_7 ?_
  refine q_cS3B G (pc := 8) dX11_word_8 cs_X11_71 (w_iff (m_in (by omega)) (in1 (m := (pW P).length) (by omega))) (Nat.le_of_ble_eq_true rfl) (fun c8 => ?_) (fun c8 => ?_)
  · obtain ⟨w, hw, rfl⟩ := c8
    obtain ⟨w1, w2⟩ := hP.2.2.2.2.1 w hw
    have hwl : ((pW P).getD w []).length ≤ 6 := (hP.2.2.2.2.2.2.2.2.2.2 _ (by rw [List.getD_eq_getElem?_getD, List.getElem?_eq_getElem hw]; exact List.getElem_mem _)).2.1
    refine q_if_eqN (tgt := 23) G (pc := 11) dX11_word_11 (by decide) (by omega) (fun c11 => absurd c11 (by decide)) (fun _ => ?_)
    refine q_iload_n G (pc := 14) dX11_word_14 rfl ?_
    refine q_iconst (v := nI 0) G (pc := 15) dX11_word_15 (by decide) ?_
    refine q_iconst (v := nI 5) G (pc := 16) dX11_word_16 (by decide) ?_
    refine q_cS3B G (pc := 17) dX11_word_17 cs_X11_71 (w_iff (m_in (by omega)) (in0 (m := 5) (by decide))) (Nat.le_of_ble_eq_true rfl) (fun c17 => ?_) (fun c17 => ?_)
    · obtain ⟨i, hi2, rfl⟩ := c17
      refine q_if_neN (tgt := 25) G (pc := 20) dX11_word_20 (by decide) (by omega) (fun _ => ?_) (fun c20 => absurd c20 (by decide))
      refine q_iload_n G (pc := 25) dX11_word_25 rfl ?_
      refine q_aload_n G (pc := 26) dX11_word_26 rfl ?_
      refine q_getR (x := 109) G (pc := 27) dX11_word_27 fl_X11_20_10 rfl (hg hτ (hf_10_5 rfl)) ?_
      refine q_iload_n G (pc := 30) dX11_word_30 rfl ?_
      refine q_iald (j := w) (v := nI (((pW P).getD w []).length)) G (pc := 31) dX11_word_31 rfl rfl (by omega) w1 ?_
      refine q_icmp_geN (tgt := 49) G (pc := 32) dX11_word_32 (by decide) (by omega) (by omega) (fun c32 => ?_) (fun c32 => ?_)
      · refine q_bipush (v := -9) G (pc := 49) dX11_word_49 (by decide) ?_
        refine q_iret G (pc := 51) dX11_word_51 (Or.inl rfl) ?_
        exact hM.post msc.rf (by rw [ix_some hw (by omega), ix_some hi2 (by decide)]; unfold zWord; simp only []; rw [if_neg (show ¬ i < ((pW P).getD w []).length by omega)])
      · refine q_aload_n G (pc := 35) dX11_word_35 rfl ?_
        refine q_getR (x := 108) G (pc := 36) dX11_word_36 fl_X11_17_10 rfl (hg hτ (hf_10_4 rfl)) ?_
        refine q_bipush (v := nI 6) G (pc := 39) dX11_word_39 (by decide) ?_
        refine q_iload_n G (pc := 41) dX11_word_41 rfl ?_
        refine q_imulN G (pc := 42) dX11_word_42 ?_
        refine q_iload_n G (pc := 43) dX11_word_43 rfl ?_
        refine q_iaddN G (pc := 44) dX11_word_44 ?_
        refine q_iald (j := 6 * w + i) (v := nI (bytN (((pW P).getD w []).getD i 0))) G (pc := 45) dX11_word_45 rfl rfl (by omega) (w2 i (by omega)) ?_
        refine q_goto (tgt := 51) G (pc := 46) dX11_word_46 (by decide) ?_
        refine q_iret G (pc := 51) dX11_word_51 (Or.inl rfl) ?_
        exact hM.post msc.rf (by rw [ix_some hw (by omega), ix_some hi2 (by decide)]; unfold zWord; simp only []; rw [if_pos (show i < ((pW P).getD w []).length by omega)]; exact congrArg (fun z => (mkT P n f t K pn pf pt im sl N b tr, z)) (byt_n _))
    · refine q_if_neN (tgt := 25) G (pc := 20) dX11_word_20 (by decide) (by omega) (fun c20 => absurd c20 (by decide)) (fun _ => ?_)
      refine q_iconst (v := -1) G (pc := 23) dX11_word_23 (by decide) ?_
      refine q_iret G (pc := 24) dX11_word_24 (Or.inl rfl) ?_
      exact hM.post msc.rf (by rw [ix_some hw (by omega), ix_none c17]; rfl)
  · refine q_if_eqN (tgt := 23) G (pc := 11) dX11_word_11 (by decide) (by omega) (fun _ => ?_) (fun c11 => absurd c11 (by decide))
    refine q_iconst (v := -1) G (pc := 23) dX11_word_23 (by decide) ?_
    refine q_iret G (pc := 24) dX11_word_24 (Or.inl rfl) ?_
    exact hM.post msc.rf (by rw [ix_none c8]; rfl)
theorem fnd_last {f : Nat → Nat} {n : Nat} (hi : ∀ i j, i < n → j < n → f i = f j → i = j) (s k : Nat) (hk : k < n) : plI (fnd f s (k + 1)) = if f k = s then nI k else plI (fnd f s k) := by
  show plI (match fnd f s k with | some j => some j | none => if f k = s then some k else none) = _
  cases e : fnd f s k with
  | none =>
    by_cases q : f k = s
    · simp only [if_pos q]; rfl
    · simp only [if_neg q]
  | some j =>
    show plI (some j) = _
    have h1 := fnd_some e
    have : f k ≠ s := fun q => by have := hi k j hk (by omega) (by rw [q, h1.2.1]); omega
    rw [if_neg this]
set_option maxHeartbeats 2000000 in
theorem m_placeOf {d : Nat} (hd : 1 ≤ d) {hi : mm_HI} {τ : mm_T} {P : PG} {n : Nat} {f : Nat → Nat} {t K : Nat} {pn : Nat → Nat} {pf : Nat → Nat → Nat} {pt : Nat → Nat} {im : Nat → Option DK} {sl : List (Nat × Nat)} {N : Nat} {b : Nat → Nat} {tr : Int64} (hM : mS P n f t K pn pf pt im sl N b tr hi τ) {s : Nat} (hs : s < 6) : wE d yX11_placeOf [.ref 106, .int (nI s)] hi τ (plI (fnd f s n)) := by
  refine w_intro (by omega) M_X11_placeOf (Nat.le_of_ble_eq_true rfl) rfl ?_
  intro e X he G
  show X 0 [some (.ref (106)), some (.int (nI (s))), none, none] [] hi τ 125
  obtain ⟨sw, hτ, hP, hRw, hV, hU, hI, hIV, hN, hNO, hT, hTr⟩ := id hM
  have hS6 : pS P ≤ 6 := hP.2.2.2.2.2.2.2.1
  have hL3 : pL P ≤ 3 := hP.2.2.2.2.2.2.1
  have hL1 : 1 ≤ pL P := hP.2.2.2.2.2.1
  have hW8 : (pW P).length ≤ 8 := hP.2.2.2.2.2.2.2.2.2.1
  have hn6 : n ≤ 6 := hRw.2.2.2.1
  have hfs : ∀ j, j < n → f j < pS P := hV.1.1
  have hV1 : rowV P n f := hV.1
  refine q_bipush (v := -9) G (pc := 0) dX11_placeOf_0 (by decide) ?_
  refine q_istore_n G (pc := 2) dX11_placeOf_2 (by decide) ?_
  show X _ [_, _, _, _] _ _ _ _
  refine q_iconst (v := nI 0) G (pc := 3) dX11_placeOf_3 (by decide) ?_
  refine q_istore_n G (pc := 4) dX11_placeOf_4 (by decide) ?_
  show X _ [_, _, _, _] _ _ _ _
  have L5 : ∀ (zz : Nat) (k : Nat), n - k < zz → k ≤ n → X 5 [some (.ref (106)), some (.int (nI (s))), some (.int (plI (fnd f s k))), some (.int (nI (k)))] [] hi τ 125 := by
    intro zz
    induction zz with
    | zero => intro k hm; exact absurd hm (Nat.not_lt_zero _)
    | succ zz ih5 =>
      intro k hm h0
      refine q_iload_n G (pc := 5) dX11_placeOf_5 rfl ?_
      refine q_aload_n G (pc := 6) dX11_placeOf_6 rfl ?_
      refine q_getI (v := nI (n)) G (pc := 7) dX11_placeOf_7 fl_X11_75_10 (by decide) rfl hRw.1 ?_
      refine q_icmp_geN (tgt := 35) G (pc := 10) dX11_placeOf_10 (by decide) (by omega) (by omega) (fun c10 => ?_) (fun c10 => ?_)
      · refine q_iload_n G (pc := 35) dX11_placeOf_35 rfl ?_
        refine q_iret G (pc := 36) dX11_placeOf_36 (Or.inl rfl) ?_
        exact ⟨rfl, rfl, by rw [show k = n by omega]⟩
      · refine q_aload_n G (pc := 13) dX11_placeOf_13 rfl ?_
        refine q_getR (x := 110) G (pc := 14) dX11_placeOf_14 fl_X11_23_10 rfl (hg hτ (hf_10_8 rfl)) ?_
        refine q_iload_n G (pc := 17) dX11_placeOf_17 rfl ?_
        refine q_iald (j := k) (v := nI (f k)) G (pc := 18) dX11_placeOf_18 rfl rfl (by omega) (hRw.2.2.1 k (by omega)) ?_
        have hfk := hfs k (by omega)
        refine q_iload_n G (pc := 19) dX11_placeOf_19 rfl ?_
        refine q_icmp_neN (tgt := 27) G (pc := 20) dX11_placeOf_20 (by decide) (by omega) (by omega) (fun c20 => ?_) (fun c20 => ?_)
        · refine q_iload_n G (pc := 27) dX11_placeOf_27 rfl ?_
          refine q_istore_n G (pc := 28) dX11_placeOf_28 (by decide) ?_
          show X _ [_, _, _, _] _ _ _ _
          refine q_iincN G (pc := 29) dX11_placeOf_29 rfl (inc1 _) (by decide) ?_
          show X _ [_, _, _, _] _ _ _ _
          refine q_goto (tgt := 5) G (pc := 32) dX11_placeOf_32 (by decide) ?_
          have e1 := fnd_last hV.1.2 s k (by show k < n; omega)
          rw [if_neg c20] at e1
          have z := ih5 (k + 1) (by omega) (by omega)
          rw [e1] at z
          exact z
        · refine q_iload_n G (pc := 23) dX11_placeOf_23 rfl ?_
          refine q_goto (tgt := 28) G (pc := 24) dX11_placeOf_24 (by decide) ?_
          refine q_istore_n G (pc := 28) dX11_placeOf_28 (by decide) ?_
          show X _ [_, _, _, _] _ _ _ _
          refine q_iincN G (pc := 29) dX11_placeOf_29 rfl (inc1 _) (by decide) ?_
          show X _ [_, _, _, _] _ _ _ _
          refine q_goto (tgt := 5) G (pc := 32) dX11_placeOf_32 (by decide) ?_
          have e1 := fnd_last hV.1.2 s k (by show k < n; omega)
          rw [if_pos c20] at e1
          have z := ih5 (k + 1) (by omega) (by omega)
          rw [e1] at z
          exact z
  exact L5 _ 0 (Nat.lt_succ_self _) (by omega)
set_option maxHeartbeats 2000000 in
theorem m_lettersOn {d : Nat} (hd : 1 ≤ d) {hi : mm_HI} {τ : mm_T} {P : PG} {n : Nat} {f : Nat → Nat} {t K : Nat} {pn : Nat → Nat} {pf : Nat → Nat → Nat} {pt : Nat → Nat} {im : Nat → Option DK} {sl : List (Nat × Nat)} {N : Nat} {b : Nat → Nat} {tr : Int64} (hM : mS P n f t K pn pf pt im sl N b tr hi τ) {s : Nat} (hs : s < pS P) : wE d yX11_lettersOn [.ref 106, .int (nI s)] hi τ (nI (letO P s)) := by
  refine w_intro (by omega) M_X11_lettersOn (Nat.le_of_ble_eq_true rfl) rfl ?_
  intro e X he G
  show X 0 [some (.ref (106)), some (.int (nI (s))), none, none, none] [] hi τ 125
  obtain ⟨sw, hτ, hP, hRw, hV, hU, hI, hIV, hN, hNO, hT, hTr⟩ := id hM
  have hS6 : pS P ≤ 6 := hP.2.2.2.2.2.2.2.1
  have hL3 : pL P ≤ 3 := hP.2.2.2.2.2.2.1
  have hL1 : 1 ≤ pL P := hP.2.2.2.2.2.1
  have hW8 : (pW P).length ≤ 8 := hP.2.2.2.2.2.2.2.2.2.1
  have hn6 : n ≤ 6 := hRw.2.2.2.1
  have hfs : ∀ j, j < n → f j < pS P := hV.1.1
  have hV1 : rowV P n f := hV.1
  refine q_iconst (v := nI 0) G (pc := 0) dX11_lettersOn_0 (by decide) ?_
  refine q_istore_n G (pc := 1) dX11_lettersOn_1 (by decide) ?_
  show X _ [_, _, _, _, _] _ _ _ _
  refine q_iconst (v := nI 0) G (pc := 2) dX11_lettersOn_2 (by decide) ?_
  refine q_istore_n G (pc := 3) dX11_lettersOn_3 (by decide) ?_
  show X _ [_, _, _, _, _] _ _ _ _
  have L4 : ∀ (zz : Nat) (k : Nat) (v4 : Option Value), 2 * pL P - k < zz → k ≤ 2 * pL P → X 4 [some (.ref (106)), some (.int (nI (s))), some (.int (nI (letM (fun k => pG P s (k / 2) (k % 2)) k))), some (.int (nI (k))), v4] [] hi τ 125 := by
    intro zz
    induction zz with
    | zero => intro k v4 hm; exact absurd hm (Nat.not_lt_zero _)
    | succ zz ih4 =>
      intro k v4 hm h0
      refine q_iload_n G (pc := 4) dX11_lettersOn_4 rfl ?_
      refine q_iconst (v := nI 2) G (pc := 5) dX11_lettersOn_5 (by decide) ?_
      refine q_aload_n G (pc := 6) dX11_lettersOn_6 rfl ?_
      refine q_getI (v := nI (pL P)) G (pc := 7) dX11_lettersOn_7 fl_X11_7_10 (by decide) rfl hP.1 ?_
      refine q_imulN G (pc := 10) dX11_lettersOn_10 ?_
      refine q_icmp_geN (tgt := 54) G (pc := 11) dX11_lettersOn_11 (by decide) (by omega) (by omega) (fun c11 => ?_) (fun c11 => ?_)
      · refine q_iload_n G (pc := 54) dX11_lettersOn_54 rfl ?_
        refine q_iret G (pc := 55) dX11_lettersOn_55 (Or.inl rfl) ?_
        exact ⟨rfl, rfl, by rw [show k = 2 * pL P by omega]; rfl⟩
      · refine q_aload_n G (pc := 14) dX11_lettersOn_14 rfl ?_
        refine q_getR (x := 107) G (pc := 15) dX11_lettersOn_15 fl_X11_13_10 rfl (hg hτ (hf_10_3 rfl)) ?_
        refine q_bipush (v := nI 6) G (pc := 18) dX11_lettersOn_18 (by decide) ?_
        refine q_iload_n G (pc := 20) dX11_lettersOn_20 rfl ?_
        refine q_imulN G (pc := 21) dX11_lettersOn_21 ?_
        refine q_iload_n G (pc := 22) dX11_lettersOn_22 rfl ?_
        refine q_iaddN G (pc := 23) dX11_lettersOn_23 ?_
        refine q_iald (j := 6 * s + k) (v := nI (bytN (pG P s (k / 2) (k % 2)))) G (pc := 24) dX11_lettersOn_24 rfl rfl (by omega) (by have := hP.2.2.2.1 s hs (k / 2) (by omega) (k % 2) (by omega); rwa [show 6 * s + 2 * (k / 2) + k % 2 = 6 * s + k by omega] at this) ?_
        have hg26 : pG P s (k / 2) (k % 2) ≤ 26 := hP.2.2.2.2.2.2.2.2.1 _ _ _
        have hby := bytN_lt hg26
        refine q_istore G (pc := 25) dX11_lettersOn_25 (by decide) ?_
        show X _ [_, _, _, _, _] _ _ _ _
        refine q_iload_n G (pc := 27) dX11_lettersOn_27 rfl ?_
        refine q_iload G (pc := 28) dX11_lettersOn_28 rfl ?_
        refine q_bipush (v := nI 46) G (pc := 30) dX11_lettersOn_30 (by decide) ?_
        refine q_icmp_neN (tgt := 39) G (pc := 32) dX11_lettersOn_32 (by decide) (by omega) (by omega) (fun c32 => ?_) (fun c32 => ?_)
        · refine q_iconst (v := 1) G (pc := 39) dX11_lettersOn_39 (by decide) ?_
          refine q_iload G (pc := 40) dX11_lettersOn_40 rfl ?_
          refine q_bipush (v := nI 97) G (pc := 42) dX11_lettersOn_42 (by decide) ?_
          have hne : pG P s (k / 2) (k % 2) ≠ 26 := fun z => c32 (bytN_46.mpr z)
          have hb97 : bytN (pG P s (k / 2) (k % 2)) = 97 + pG P s (k / 2) (k % 2) := if_neg hne
          refine q_isubN G (pc := 44) dX11_lettersOn_44 (by omega) ?_
          refine q_ishl G (pc := 45) dX11_lettersOn_45 ?_
          rw [show (1 : Int32) <<< (nI (bytN (pG P s (k / 2) (k % 2)) - 97) &&& 31) = nI (2 ^ pG P s (k / 2) (k % 2)) from (by rw [hb97, Nat.add_sub_cancel_left]; exact bit26 _ (by omega))]
          refine q_ior G (pc := 46) dX11_lettersOn_46 ?_
          rw [or_nI]
          refine q_istore_n G (pc := 47) dX11_lettersOn_47 (by decide) ?_
          show X _ [_, _, _, _, _] _ _ _ _
          refine q_iincN G (pc := 48) dX11_lettersOn_48 rfl (inc1 _) (by decide) ?_
          show X _ [_, _, _, _, _] _ _ _ _
          refine q_goto (tgt := 4) G (pc := 51) dX11_lettersOn_51 (by decide) ?_
          have e1 : letM (fun k => pG P s (k / 2) (k % 2)) (k + 1) = letM (fun k => pG P s (k / 2) (k % 2)) k ||| 2 ^ pG P s (k / 2) (k % 2) := by
            show (if pG P s (k / 2) (k % 2) = 26 then _ else _) = _
            rw [if_neg hne]
          have z := fun v4 => ih4 (k + 1) v4 (by omega) (by omega)
          rw [e1] at z
          exact z _
        · refine q_iconst (v := nI 0) G (pc := 35) dX11_lettersOn_35 (by decide) ?_
          refine q_goto (tgt := 46) G (pc := 36) dX11_lettersOn_36 (by decide) ?_
          refine q_ior G (pc := 46) dX11_lettersOn_46 ?_
          rw [or_nI]
          refine q_istore_n G (pc := 47) dX11_lettersOn_47 (by decide) ?_
          show X _ [_, _, _, _, _] _ _ _ _
          refine q_iincN G (pc := 48) dX11_lettersOn_48 rfl (inc1 _) (by decide) ?_
          show X _ [_, _, _, _, _] _ _ _ _
          refine q_goto (tgt := 4) G (pc := 51) dX11_lettersOn_51 (by decide) ?_
          have e1 : letM (fun k => pG P s (k / 2) (k % 2)) (k + 1) = letM (fun k => pG P s (k / 2) (k % 2)) k ||| 0 := by
            show (if pG P s (k / 2) (k % 2) = 26 then _ else _) = _
            rw [if_pos (bytN_46.mp c32), Nat.or_zero]
          have z := fun v4 => ih4 (k + 1) v4 (by omega) (by omega)
          rw [e1] at z
          exact z _
  exact L4 _ 0 _ (Nat.lt_succ_self _) (by omega)
set_option maxHeartbeats 2000000 in
theorem m_blanksOn {d : Nat} (hd : 1 ≤ d) {hi : mm_HI} {τ : mm_T} {P : PG} {n : Nat} {f : Nat → Nat} {t K : Nat} {pn : Nat → Nat} {pf : Nat → Nat → Nat} {pt : Nat → Nat} {im : Nat → Option DK} {sl : List (Nat × Nat)} {N : Nat} {b : Nat → Nat} {tr : Int64} (hM : mS P n f t K pn pf pt im sl N b tr hi τ) {s : Nat} (hs : s < pS P) : wE d yX11_blanksOn [.ref 106, .int (nI s)] hi τ (nI (blkO P s)) := by
  refine w_intro (by omega) M_X11_blanksOn (Nat.le_of_ble_eq_true rfl) rfl ?_
  intro e X he G
  show X 0 [some (.ref (106)), some (.int (nI (s))), none, none] [] hi τ 125
  obtain ⟨sw, hτ, hP, hRw, hV, hU, hI, hIV, hN, hNO, hT, hTr⟩ := id hM
  have hS6 : pS P ≤ 6 := hP.2.2.2.2.2.2.2.1
  have hL3 : pL P ≤ 3 := hP.2.2.2.2.2.2.1
  have hL1 : 1 ≤ pL P := hP.2.2.2.2.2.1
  have hW8 : (pW P).length ≤ 8 := hP.2.2.2.2.2.2.2.2.2.1
  have hn6 : n ≤ 6 := hRw.2.2.2.1
  have hfs : ∀ j, j < n → f j < pS P := hV.1.1
  have hV1 : rowV P n f := hV.1
  refine q_iconst (v := nI 0) G (pc := 0) dX11_blanksOn_0 (by decide) ?_
  refine q_istore_n G (pc := 1) dX11_blanksOn_1 (by decide) ?_
  show X _ [_, _, _, _] _ _ _ _
  refine q_iconst (v := nI 0) G (pc := 2) dX11_blanksOn_2 (by decide) ?_
  refine q_istore_n G (pc := 3) dX11_blanksOn_3 (by decide) ?_
  show X _ [_, _, _, _] _ _ _ _
  have L4 : ∀ (zz : Nat) (k : Nat), 2 * pL P - k < zz → k ≤ 2 * pL P → X 4 [some (.ref (106)), some (.int (nI (s))), some (.int (nI (blkM (fun k => pG P s (k / 2) (k % 2)) k))), some (.int (nI (k)))] [] hi τ 125 := by
    intro zz
    induction zz with
    | zero => intro k hm; exact absurd hm (Nat.not_lt_zero _)
    | succ zz ih4 =>
      intro k hm h0
      refine q_iload_n G (pc := 4) dX11_blanksOn_4 rfl ?_
      refine q_iconst (v := nI 2) G (pc := 5) dX11_blanksOn_5 (by decide) ?_
      refine q_aload_n G (pc := 6) dX11_blanksOn_6 rfl ?_
      refine q_getI (v := nI (pL P)) G (pc := 7) dX11_blanksOn_7 fl_X11_7_10 (by decide) rfl hP.1 ?_
      refine q_imulN G (pc := 10) dX11_blanksOn_10 ?_
      refine q_icmp_geN (tgt := 44) G (pc := 11) dX11_blanksOn_11 (by decide) (by omega) (by omega) (fun c11 => ?_) (fun c11 => ?_)
      · refine q_iload_n G (pc := 44) dX11_blanksOn_44 rfl ?_
        refine q_iret G (pc := 45) dX11_blanksOn_45 (Or.inl rfl) ?_
        exact ⟨rfl, rfl, by rw [show k = 2 * pL P by omega]; rfl⟩
      · refine q_iload_n G (pc := 14) dX11_blanksOn_14 rfl ?_
        refine q_aload_n G (pc := 15) dX11_blanksOn_15 rfl ?_
        refine q_getR (x := 107) G (pc := 16) dX11_blanksOn_16 fl_X11_13_10 rfl (hg hτ (hf_10_3 rfl)) ?_
        refine q_bipush (v := nI 6) G (pc := 19) dX11_blanksOn_19 (by decide) ?_
        refine q_iload_n G (pc := 21) dX11_blanksOn_21 rfl ?_
        refine q_imulN G (pc := 22) dX11_blanksOn_22 ?_
        refine q_iload_n G (pc := 23) dX11_blanksOn_23 rfl ?_
        refine q_iaddN G (pc := 24) dX11_blanksOn_24 ?_
        refine q_iald (j := 6 * s + k) (v := nI (bytN (pG P s (k / 2) (k % 2)))) G (pc := 25) dX11_blanksOn_25 rfl rfl (by omega) (by have := hP.2.2.2.1 s hs (k / 2) (by omega) (k % 2) (by omega); rwa [show 6 * s + 2 * (k / 2) + k % 2 = 6 * s + k by omega] at this) ?_
        have hg26 : pG P s (k / 2) (k % 2) ≤ 26 := hP.2.2.2.2.2.2.2.2.1 _ _ _
        have hby := bytN_lt hg26
        refine q_bipush (v := nI 46) G (pc := 26) dX11_blanksOn_26 (by decide) ?_
        refine q_icmp_neN (tgt := 35) G (pc := 28) dX11_blanksOn_28 (by decide) (by omega) (by omega) (fun c28 => ?_) (fun c28 => ?_)
        · refine q_iconst (v := nI 0) G (pc := 35) dX11_blanksOn_35 (by decide) ?_
          refine q_iaddN G (pc := 36) dX11_blanksOn_36 ?_
          refine q_istore_n G (pc := 37) dX11_blanksOn_37 (by decide) ?_
          show X _ [_, _, _, _] _ _ _ _
          refine q_iincN G (pc := 38) dX11_blanksOn_38 rfl (inc1 _) (by decide) ?_
          show X _ [_, _, _, _] _ _ _ _
          refine q_goto (tgt := 4) G (pc := 41) dX11_blanksOn_41 (by decide) ?_
          have e1 : blkM (fun k => pG P s (k / 2) (k % 2)) (k + 1) = blkM (fun k => pG P s (k / 2) (k % 2)) k + 0 := by
            simp [blkM]
            exact fun z => c28 (bytN_46.mpr z)
          have z := ih4 (k + 1) (by omega) (by omega)
          rw [e1] at z
          exact z
        · refine q_iconst (v := nI 1) G (pc := 31) dX11_blanksOn_31 (by decide) ?_
          refine q_goto (tgt := 36) G (pc := 32) dX11_blanksOn_32 (by decide) ?_
          refine q_iaddN G (pc := 36) dX11_blanksOn_36 ?_
          refine q_istore_n G (pc := 37) dX11_blanksOn_37 (by decide) ?_
          show X _ [_, _, _, _] _ _ _ _
          refine q_iincN G (pc := 38) dX11_blanksOn_38 rfl (inc1 _) (by decide) ?_
          show X _ [_, _, _, _] _ _ _ _
          refine q_goto (tgt := 4) G (pc := 41) dX11_blanksOn_41 (by decide) ?_
          have e1 : blkM (fun k => pG P s (k / 2) (k % 2)) (k + 1) = blkM (fun k => pG P s (k / 2) (k % 2)) k + 1 := by
            simp [blkM]
            exact bytN_46.mp c28
          have z := ih4 (k + 1) (by omega) (by omega)
          rw [e1] at z
          exact z
  exact L4 _ 0 (Nat.lt_succ_self _) (by omega)
set_option maxHeartbeats 2000000 in
theorem m_numberOf {d : Nat} (hd : 1 ≤ d) {hi : mm_HI} {τ : mm_T} {c n : Nat} {f : Nat → Nat} (hc : mm_lay c = (1, 6)) (hn : n ≤ 6) (ha : ∀ j, j < n → hi c j = nI (f j)) : wE d yX11_numberOf [.ref c, .int (nI n)] hi τ (nI (numF f n)) := by
  refine w_intro (by omega) M_X11_numberOf (Nat.le_of_ble_eq_true rfl) rfl ?_
  intro e X he G
  show X 0 [some (.ref (c)), some (.int (nI (n))), none, none] [] hi τ 125
  refine q_iconst (v := nI 0) G (pc := 0) dX11_numberOf_0 (by decide) ?_
  refine q_istore_n G (pc := 1) dX11_numberOf_1 (by decide) ?_
  show X _ [_, _, _, _] _ _ _ _
  refine q_iconst (v := nI 0) G (pc := 2) dX11_numberOf_2 (by decide) ?_
  refine q_istore_n G (pc := 3) dX11_numberOf_3 (by decide) ?_
  show X _ [_, _, _, _] _ _ _ _
  have L4 : ∀ (zz : Nat) (k : Nat), n - k < zz → k ≤ n → X 4 [some (.ref (c)), some (.int (nI (n))), some (.int (nI (numF f k))), some (.int (nI (k)))] [] hi τ 125 := by
    intro zz
    induction zz with
    | zero => intro k hm; exact absurd hm (Nat.not_lt_zero _)
    | succ zz ih4 =>
      intro k hm h0
      refine q_iload_n G (pc := 4) dX11_numberOf_4 rfl ?_
      refine q_iload_n G (pc := 5) dX11_numberOf_5 rfl ?_
      refine q_icmp_geN (tgt := 26) G (pc := 6) dX11_numberOf_6 (by decide) (by omega) (by omega) (fun c6 => ?_) (fun c6 => ?_)
      · refine q_iload_n G (pc := 26) dX11_numberOf_26 rfl ?_
        refine q_iret G (pc := 27) dX11_numberOf_27 (Or.inl rfl) ?_
        exact ⟨rfl, rfl, by rw [show k = n by omega]⟩
      · refine q_bipush (v := nI 10) G (pc := 9) dX11_numberOf_9 (by decide) ?_
        refine q_iload_n G (pc := 11) dX11_numberOf_11 rfl ?_
        refine q_imulN G (pc := 12) dX11_numberOf_12 ?_
        refine q_aload_n G (pc := 13) dX11_numberOf_13 rfl ?_
        refine q_iload_n G (pc := 14) dX11_numberOf_14 rfl ?_
        refine q_iald (j := k) (v := nI (f k)) G (pc := 15) dX11_numberOf_15 hc rfl (by omega) (ha k (by omega)) ?_
        refine q_iaddN G (pc := 16) dX11_numberOf_16 ?_
        refine q_iconst (v := nI 1) G (pc := 17) dX11_numberOf_17 (by decide) ?_
        refine q_iaddN G (pc := 18) dX11_numberOf_18 ?_
        refine q_istore_n G (pc := 19) dX11_numberOf_19 (by decide) ?_
        show X _ [_, _, _, _] _ _ _ _
        refine q_iincN G (pc := 20) dX11_numberOf_20 rfl (inc1 _) (by decide) ?_
        show X _ [_, _, _, _] _ _ _ _
        refine q_goto (tgt := 4) G (pc := 23) dX11_numberOf_23 (by decide) ?_
        have e1 : numF f (k + 1) = 10 * numF f k + f k + 1 := by show numF f k * 10 + f k + 1 = _; omega
        have z := ih4 (k + 1) (by omega) (by omega)
        rw [e1] at z
        exact z
  exact L4 _ 0 (Nat.lt_succ_self _) (by omega)
