/-! either way: both lists of orders and ways hold the same -/
def ky (pr : List (Nat × Nat)) : Nat := numP pr * 64 + wmk pr
theorem ew_fold : ∀ (L : List (List (Nat × Nat))) (c k : Nat), 0 < c → c + L.length < 2 ^ 31 → k / 64 < 2 ^ 31 → (∀ pr ∈ L, wmk pr < 64 ∧ numP pr < 2 ^ 31) → ∃ k2, (k2 = k ∨ k2 ∈ L.map ky) ∧ k2 ≤ k ∧ (∀ z ∈ L.map ky, k2 ≤ z) ∧ L.foldl (fun x pr => ewStep x (nI (numP pr)) (nI (wmk pr))) (nI c, nI (k / 64), nI (k % 64)) = (nI (c + L.length), nI (k2 / 64), nI (k2 % 64))
  | [], c, k, _, _, _, _ => ⟨k, Or.inl rfl, Nat.le_refl _, fun z hz => absurd hz List.not_mem_nil, rfl⟩
  | pr :: L, c, k, hc, hl, hk, hb => by
    obtain ⟨hw, hn⟩ := hb pr List.mem_cons_self
    rw [List.length_cons] at hl
    rw [List.foldl_cons]
    have e1 : ky pr / 64 = numP pr := by unfold ky; omega
    have e2 : ky pr % 64 = wmk pr := by unfold ky; omega
    have e0 : ¬ nI c = 0 := fun q => by have := (nI_z (by omega)).mp q; omega
    by_cases h : ky pr < k
    · have es : ewStep (nI c, nI (k / 64), nI (k % 64)) (nI (numP pr)) (nI (wmk pr)) = (nI (c + 1), nI (ky pr / 64), nI (ky pr % 64)) := by
        unfold ewStep
        rw [if_pos, e1, e2, nI_add]
        right
        rcases Nat.lt_or_ge (numP pr) (k / 64) with q | q
        · exact Or.inl ((nI_ltI (by omega) (by omega)).mpr q)
        · have q2 : numP pr = k / 64 := by unfold ky at h; omega
          refine Or.inr ⟨by rw [q2], (nI_ltI (by omega) (by omega)).mpr ?_⟩
          unfold ky at h
          omega
      rw [es]
      obtain ⟨k2, a1, a2, a3, a4⟩ := ew_fold L (c + 1) (ky pr) (by omega) (by omega) (by omega) (fun q hq => hb q (List.mem_cons_of_mem _ hq))
      refine ⟨k2, Or.inr ?_, by omega, fun z hz => ?_, ?_⟩
      · rw [List.map_cons]
        rcases a1 with q | q
        · rw [q]; exact List.mem_cons_self
        · exact List.mem_cons_of_mem _ q
      · rw [List.map_cons] at hz
        rcases List.mem_cons.mp hz with q | q
        · rw [q]; exact a2
        · exact a3 z q
      · rw [a4, List.length_cons, show c + 1 + L.length = c + (L.length + 1) by omega]
    · have es : ewStep (nI c, nI (k / 64), nI (k % 64)) (nI (numP pr)) (nI (wmk pr)) = (nI (c + 1), nI (k / 64), nI (k % 64)) := by
        unfold ewStep
        rw [if_neg, nI_add]
        rintro (q | q | ⟨q, q2⟩)
        · exact e0 q
        · have := (nI_ltI (by omega) (by omega)).mp q
          unfold ky at h
          omega
        · have h1 := (nI_eq (by omega) (by omega)).mp q
          have h2 := (nI_ltI (by omega) (by omega)).mp q2
          unfold ky at h
          omega
      rw [es]
      obtain ⟨k2, a1, a2, a3, a4⟩ := ew_fold L (c + 1) k (by omega) (by omega) hk (fun q hq => hb q (List.mem_cons_of_mem _ hq))
      refine ⟨k2, ?_, a2, fun z hz => ?_, ?_⟩
      · rw [List.map_cons]
        rcases a1 with q | q
        · exact Or.inl q
        · exact Or.inr (List.mem_cons_of_mem _ q)
      · rw [List.map_cons] at hz
        rcases List.mem_cons.mp hz with q | q
        · rw [q]; omega
        · exact a3 z q
      · rw [a4, List.length_cons, show c + 1 + L.length = c + (L.length + 1) by omega]
theorem ew_min {L : List (List (Nat × Nat))} (hne : L ≠ []) (hl : L.length < 2 ^ 31) (hb : ∀ pr ∈ L, wmk pr < 64 ∧ numP pr < 2 ^ 31) : ∃ k2, k2 ∈ L.map ky ∧ (∀ z ∈ L.map ky, k2 ≤ z) ∧ ewF L = (nI L.length, nI (k2 / 64), nI (k2 % 64)) := by
  cases L with
  | nil => exact absurd rfl hne
  | cons pr L =>
    obtain ⟨hw, hn⟩ := hb pr List.mem_cons_self
    rw [List.length_cons] at hl
    have e1 : ky pr / 64 = numP pr := by unfold ky; omega
    have e2 : ky pr % 64 = wmk pr := by unfold ky; omega
    obtain ⟨k2, a1, a2, a3, a4⟩ := ew_fold L 1 (ky pr) (by omega) (by omega) (by omega) (fun q hq => hb q (List.mem_cons_of_mem _ hq))
    refine ⟨k2, ?_, fun z hz => ?_, ?_⟩
    · rw [List.map_cons]
      rcases a1 with q | q
      · rw [q]; exact List.mem_cons_self
      · exact List.mem_cons_of_mem _ q
    · rw [List.map_cons] at hz
      rcases List.mem_cons.mp hz with q | q
      · rw [q]; exact a2
      · exact a3 z q
    · unfold ewF
      rw [List.foldl_cons]
      have es : ewStep (0, -9, -9) (nI (numP pr)) (nI (wmk pr)) = (nI 1, nI (ky pr / 64), nI (ky pr % 64)) := by
        unfold ewStep
        rw [if_pos (Or.inl rfl), e1, e2]
        rw [show (0 : Int32) + nI 1 = nI 1 by rw [← nI_0, nI_add]]
      rw [es, a4, List.length_cons, Nat.add_comm]
/-- the model's pairs of a row and a way -/
def cnd (S : Nat) (o : List Nat) (k : Nat) : List (List Nat × Nat) := (List.range k).map (fun T => (o, T))
def cnL (S : Nat) (D : List (List Nat)) : List (List Nat × Nat) := D.flatMap (fun o => cnd S o (2 ^ S))
def sbB (lf : Nat) (q : List Nat × Nat) : Bool := q.2 &&& lf == q.2
def prB (P : PG) (lf : Nat) (q : List Nat × Nat) : Bool := sbB lf q && rgB P (q.1.map (wy q.2))
def emF (acc : List (List Nat × Nat)) : EWS := (nI acc.length, match acc with
  | [] => (-9, -9)
  | q :: _ => (nI (numF (oF q.1) q.1.length), nI q.2))
theorem emF_s (acc : List (List Nat × Nat)) (q : List Nat × Nat) : emF (acc ++ [q]) = (nI (acc.length + 1), if acc.length = 0 then nI (numF (oF q.1) q.1.length) else (emF acc).2.1, if acc.length = 0 then nI q.2 else (emF acc).2.2) := by
  cases acc with
  | nil => rfl
  | cons a l =>
    rw [if_neg (by simp), if_neg (by simp)]
    unfold emF
    rw [List.length_append, List.length_singleton]
    rfl
def srtB : List Nat → Bool
  | [] => true
  | [_] => true
  | a :: c :: l => decide (a < c) && srtB (c :: l)
theorem srtB_p : ∀ {l : List Nat}, srtB l = true → l.Pairwise (· < ·)
  | [], _ => List.Pairwise.nil
  | [a], _ => List.pairwise_singleton _ _
  | a :: c :: l, h => by
    unfold srtB at h
    rw [Bool.and_eq_true, decide_eq_true_iff] at h
    have ih := srtB_p h.2
    refine List.pairwise_cons.mpr ⟨fun z hz => ?_, ih⟩
    rcases List.mem_cons.mp hz with q | q
    · rw [q]; exact h.1
    · exact Nat.lt_trans h.1 ((List.pairwise_cons.mp ih).1 z q)
def nmO (o : List Nat) : Nat := numF (oF o) o.length
set_option maxRecDepth 100000 in
theorem pm_srt : ∀ lf, lf < 64 → srtB ((pmL lf).map nmO) = true := by decide +kernel
def kyM (q : List Nat × Nat) : Nat := nmO q.1 * 64 + q.2
theorem cnL_srt {lf S : Nat} (hl : lf < 64) (hS : S ≤ 6) : (cnL S (pmL lf)).Pairwise (fun a c => kyM a < kyM c) := by
  have h2 : 2 ^ S ≤ 2 ^ 6 := Nat.pow_le_pow_right (by decide) hS
  unfold cnL
  rw [List.pairwise_flatMap]
  constructor
  · intro o _
    unfold cnd
    rw [List.pairwise_map]
    refine List.Pairwise.imp (fun {a c} h => ?_) List.pairwise_lt_range
    unfold kyM
    show nmO o * 64 + a < nmO o * 64 + c
    omega
  · have := List.pairwise_map.mp (srtB_p (pm_srt lf hl))
    refine List.Pairwise.imp (fun {a c} h x hx y hy => ?_) this
    unfold cnd at hx hy
    obtain ⟨T, hT, rfl⟩ := List.mem_map.mp hx
    obtain ⟨U, hU, rfl⟩ := List.mem_map.mp hy
    have hT := List.mem_range.mp hT
    unfold kyM
    show nmO a * 64 + T < nmO c * 64 + U
    have : nmO a < nmO c := h
    omega
/-- every way of the class is a way of one mask, and the other way round -/
theorem lv1_T {P : PG} {t : Nat} (hS : pS P ≤ 6) : ∀ (r : Nat) (pr : List (Nat × Nat)) (lf T0 : Nat), lf < 64 → T0 < 64 → (∀ q ∈ pr, q.1 < 6 ∧ T0 / 2 ^ q.1 % 2 = q.2 ∧ lf / 2 ^ q.1 % 2 = 0) → ∀ x ∈ lv0 1 P t r pr lf, ∃ T, T < 64 ∧ (∀ q ∈ x, T / 2 ^ q.1 % 2 = q.2) ∧ (∀ s, s < 6 → lf / 2 ^ s % 2 = 0 → T / 2 ^ s % 2 = T0 / 2 ^ s % 2) ∧ x ∈ lv0 0 P T r pr lf
  | 0, pr, lf, T0, _, hT, hp, x, hx => by
    have e : x = pr := by
      have : x ∈ [pr] := hx
      simpa using this
    subst e
    exact ⟨T0, hT, fun q hq => (hp q hq).2.1, fun _ _ _ => rfl, List.mem_singleton.mpr rfl⟩
  | r + 1, pr, lf, T0, hl, hT, hp, x, hx => by
    have hx2 : x ∈ (List.range (pS P)).flatMap (fun s => (List.range 2).flatMap (fun w => if lf / 2 ^ s % 2 = 1 ∧ (1 = 1 ∨ t / 2 ^ s % 2 = w) then lv0 1 P t r (pr ++ [(s, w)]) (stb lf s 0) else [])) := hx
    obtain ⟨s, hs, hx3⟩ := List.mem_flatMap.mp hx2
    obtain ⟨w, hw, hx4⟩ := List.mem_flatMap.mp hx3
    have hs := List.mem_range.mp hs
    have hw := List.mem_range.mp hw
    by_cases hc : lf / 2 ^ s % 2 = 1 ∧ (1 = 1 ∨ t / 2 ^ s % 2 = w)
    · rw [if_pos hc] at hx4
      have hb := (stb_put T0 hT s (by omega) w hw).2
      obtain ⟨T, a1, a2, a3, a4⟩ := lv1_T (t := t) hS r (pr ++ [(s, w)]) (stb lf s 0) (stb T0 s w) (bit_clr lf hl s (by omega)).2 hb (fun q hq => by
        rcases List.mem_append.mp hq with z | z
        · obtain ⟨z1, z2, z3⟩ := hp q z
          have hne : q.1 ≠ s := fun e => by rw [e] at z3; omega
          refine ⟨z1, ?_, ?_⟩
          · rw [stb_bit T0 hT s (by omega) w hw q.1 z1, if_neg hne]; exact z2
          · rw [stb_bit lf hl s (by omega) 0 (by omega) q.1 z1, if_neg hne]; exact z3
        · rw [List.mem_singleton.mp z]
          refine ⟨by show s < 6; omega, ?_, ?_⟩
          · show stb T0 s w / 2 ^ s % 2 = w
            rw [stb_bit T0 hT s (by omega) w hw s (by omega), if_pos rfl]
          · show stb lf s 0 / 2 ^ s % 2 = 0
            rw [stb_bit lf hl s (by omega) 0 (by omega) s (by omega), if_pos rfl]) x hx4
      have hTs : T / 2 ^ s % 2 = w := by
        rw [a3 s (by omega) (by rw [stb_bit lf hl s (by omega) 0 (by omega) s (by omega), if_pos rfl]), stb_bit T0 hT s (by omega) w hw s (by omega), if_pos rfl]
      refine ⟨T, a1, a2, fun z hz h0 => ?_, ?_⟩
      · have hne : z ≠ s := fun e => by rw [e] at h0; omega
        rw [a3 z hz (by rw [stb_bit lf hl s (by omega) 0 (by omega) z hz, if_neg hne]; exact h0), stb_bit T0 hT s (by omega) w hw z hz, if_neg hne]
      · show x ∈ (List.range (pS P)).flatMap (fun s => (List.range 2).flatMap (fun w => if lf / 2 ^ s % 2 = 1 ∧ (0 = 1 ∨ T / 2 ^ s % 2 = w) then lv0 0 P T r (pr ++ [(s, w)]) (stb lf s 0) else []))
        refine List.mem_flatMap.mpr ⟨s, List.mem_range.mpr hs, List.mem_flatMap.mpr ⟨w, List.mem_range.mpr hw, ?_⟩⟩
        rw [if_pos ⟨hc.1, Or.inr hTs⟩]
        exact a4
    · rw [if_neg hc] at hx4
      exact absurd hx4 List.not_mem_nil
theorem lv0_1 {P : PG} {t T : Nat} : ∀ (r : Nat) (pr : List (Nat × Nat)) (lf : Nat), ∀ x ∈ lv0 0 P T r pr lf, x ∈ lv0 1 P t r pr lf
  | 0, _, _, _, hx => hx
  | r + 1, pr, lf, x, hx => by
    have hx2 : x ∈ (List.range (pS P)).flatMap (fun s => (List.range 2).flatMap (fun w => if lf / 2 ^ s % 2 = 1 ∧ (0 = 1 ∨ T / 2 ^ s % 2 = w) then lv0 0 P T r (pr ++ [(s, w)]) (stb lf s 0) else [])) := hx
    obtain ⟨s, hs, hx3⟩ := List.mem_flatMap.mp hx2
    obtain ⟨w, hw, hx4⟩ := List.mem_flatMap.mp hx3
    by_cases hc : lf / 2 ^ s % 2 = 1 ∧ (0 = 1 ∨ T / 2 ^ s % 2 = w)
    · rw [if_pos hc] at hx4
      show x ∈ (List.range (pS P)).flatMap (fun s => (List.range 2).flatMap (fun w => if lf / 2 ^ s % 2 = 1 ∧ (1 = 1 ∨ t / 2 ^ s % 2 = w) then lv0 1 P t r (pr ++ [(s, w)]) (stb lf s 0) else []))
      refine List.mem_flatMap.mpr ⟨s, hs, List.mem_flatMap.mpr ⟨w, hw, ?_⟩⟩
      rw [if_pos ⟨hc.1, Or.inl rfl⟩]
      exact lv0_1 r _ _ x hx4
    · rw [if_neg hc] at hx4
      exact absurd hx4 List.not_mem_nil
theorem lv0_pre {bw : Nat} {P : PG} {t : Nat} : ∀ (r : Nat) (pr : List (Nat × Nat)) (lf : Nat), ∀ x ∈ lv0 bw P t r pr lf, ∃ y, x = pr ++ y
  | 0, pr, _, x, hx => by
    have : x ∈ [pr] := hx
    exact ⟨[], by rw [List.append_nil]; simpa using this⟩
  | r + 1, pr, lf, x, hx => by
    have hx2 : x ∈ (List.range (pS P)).flatMap (fun s => (List.range 2).flatMap (fun w => if lf / 2 ^ s % 2 = 1 ∧ (bw = 1 ∨ t / 2 ^ s % 2 = w) then lv0 bw P t r (pr ++ [(s, w)]) (stb lf s 0) else [])) := hx
    obtain ⟨s, hs, hx3⟩ := List.mem_flatMap.mp hx2
    obtain ⟨w, hw, hx4⟩ := List.mem_flatMap.mp hx3
    by_cases hc : lf / 2 ^ s % 2 = 1 ∧ (bw = 1 ∨ t / 2 ^ s % 2 = w)
    · rw [if_pos hc] at hx4
      obtain ⟨y, e⟩ := lv0_pre r _ _ x hx4
      exact ⟨(s, w) :: y, by rw [e, List.append_assoc]; rfl⟩
    · rw [if_neg hc] at hx4
      exact absurd hx4 List.not_mem_nil
theorem lv0_nd {bw : Nat} {P : PG} {t : Nat} : ∀ (r : Nat) (pr : List (Nat × Nat)) (lf : Nat), (lv0 bw P t r pr lf).Nodup
  | 0, pr, _ => List.pairwise_singleton _ _
  | r + 1, pr, lf => by
    show ((List.range (pS P)).flatMap (fun s => (List.range 2).flatMap (fun w => if lf / 2 ^ s % 2 = 1 ∧ (bw = 1 ∨ t / 2 ^ s % 2 = w) then lv0 bw P t r (pr ++ [(s, w)]) (stb lf s 0) else []))).Nodup
    have key : ∀ s w s2 w2 x y, x ∈ (if lf / 2 ^ s % 2 = 1 ∧ (bw = 1 ∨ t / 2 ^ s % 2 = w) then lv0 bw P t r (pr ++ [(s, w)]) (stb lf s 0) else []) → y ∈ (if lf / 2 ^ s2 % 2 = 1 ∧ (bw = 1 ∨ t / 2 ^ s2 % 2 = w2) then lv0 bw P t r (pr ++ [(s2, w2)]) (stb lf s2 0) else []) → x = y → (s, w) = (s2, w2) := by
      intro s w s2 w2 x y hx hy e
      split at hx
      · split at hy
        · obtain ⟨y1, e1⟩ := lv0_pre r _ _ x hx
          obtain ⟨y2, e2⟩ := lv0_pre r _ _ y hy
          rw [e1, e2, List.append_assoc, List.append_assoc] at e
          have := List.append_cancel_left e
          exact (List.cons.inj this).1
        · exact absurd hy List.not_mem_nil
      · exact absurd hx List.not_mem_nil
    unfold List.Nodup
    rw [List.pairwise_flatMap]
    constructor
    · intro s _
      rw [List.pairwise_flatMap]
      constructor
      · intro w _
        split
        · exact lv0_nd r _ _
        · exact List.Pairwise.nil
      · refine List.Pairwise.imp (fun {a c} h x hx y hy e => ?_) (List.pairwise_lt_range (n := 2))
        have := key s a s c x y hx hy e
        have := (Prod.mk.inj this).2
        omega
    · refine List.Pairwise.imp (fun {a c} h x hx y hy e => ?_) (List.pairwise_lt_range (n := pS P))
      obtain ⟨w, _, hx⟩ := List.mem_flatMap.mp hx
      obtain ⟨w2, _, hy⟩ := List.mem_flatMap.mp hy
      have := key a w c w2 x y hx hy e
      have := (Prod.mk.inj this).1
      omega
theorem wy_mk {lf m T : Nat} {o : List Nat} (hl : lf < 64) (hm : pcn lf = m) (ho : o ∈ pmL lf) (hT : T < 64) (hs : T &&& lf = T) : wmk (o.map (wy T)) = T := by
  obtain ⟨h1, h2, h3, -⟩ := pm_row hl hm ho
  have hm2 := pm_mem lf hl o ho
  rw [← wmk_eq (t := T) (lf0 := lf) hT hl ?_ ?_ ?_]
  · exact hs
  · intro q hq
    obtain ⟨s, _, rfl⟩ := List.mem_map.mp hq
    rfl
  · intro q hq
    obtain ⟨s, hs2, rfl⟩ := List.mem_map.mp hq
    exact hm2.2 s hs2
  · intro s hs2 hb
    exact ⟨wy T s, List.mem_map.mpr ⟨s, pm_cov lf hl o ho s hs2 hb, rfl⟩, rfl⟩
theorem and_bits : ∀ T, T < 64 → ∀ lf, lf < 64 → (∀ s, s < 6 → lf / 2 ^ s % 2 = 0 → T / 2 ^ s % 2 = 0) → T &&& lf = T := by decide +kernel
def sbK (S lf T : Nat) : Bool := !((List.range 6).all (fun s => lf / 2 ^ s % 2 == 0 || decide (s < S)) && (T &&& lf == T)) || decide (T < 2 ^ S)
theorem sbK_all : ∀ S, S < 7 → ∀ lf, lf < 64 → ∀ T, T < 64 → sbK S lf T = true := by decide +kernel
theorem sub_pow (S : Nat) (hS : S < 7) (lf : Nat) (hl : lf < 64) (T : Nat) (hT : T < 64) (h : (∀ s, s < 6 → lf / 2 ^ s % 2 = 1 → s < S) ∧ T &&& lf = T) : T < 2 ^ S := by
  have k := sbK_all S hS lf hl T hT
  unfold sbK at k
  have e1 : (List.range 6).all (fun s => lf / 2 ^ s % 2 == 0 || decide (s < S)) = true := by
    rw [List.all_eq_true]
    intro s hs
    have hs := List.mem_range.mp hs
    rcases Nat.eq_zero_or_pos (lf / 2 ^ s % 2) with q | q
    · rw [q]; rfl
    · have hb := bit_lt2 lf s
      rw [decide_eq_true (h.1 s hs (by omega)), Bool.or_true]
  have e2 : (T &&& lf == T) = true := by rw [h.2]; exact beq_self_eq_true T
  rw [e1, e2] at k
  simpa using k
theorem sub_iff : ∀ T, T < 64 → ∀ lf, lf < 64 → (nI T &&& (nI lf ^^^ (-1)) = 0 ↔ T &&& lf = T) := by decide +kernel
def wyP (q : List Nat × Nat) : List (Nat × Nat) := q.1.map (wy q.2)
theorem ky_wy {lf m : Nat} {q : List Nat × Nat} (hl : lf < 64) (hm : pcn lf = m) (ho : q.1 ∈ pmL lf) (hT : q.2 < 64) (hs : sbB lf q = true) : ky (wyP q) = kyM q := by
  have e1 := wy_mk hl hm ho hT (by simpa [sbB] using hs)
  unfold ky wyP kyM nmO
  rw [e1, numP_wy]
theorem cnL_mem {S : Nat} {D : List (List Nat)} {q : List Nat × Nat} : q ∈ cnL S D ↔ q.1 ∈ D ∧ q.2 < 2 ^ S := by
  unfold cnL cnd
  rw [List.mem_flatMap]
  constructor
  · rintro ⟨o, ho, h⟩
    obtain ⟨T, hT, rfl⟩ := List.mem_map.mp h
    exact ⟨ho, List.mem_range.mp hT⟩
  · rintro ⟨h1, h2⟩
    exact ⟨q.1, h1, List.mem_map.mpr ⟨q.2, List.mem_range.mpr h2, rfl⟩⟩
theorem ew_perm {P : PG} {n lf : Nat} (hS : pS P ≤ 6) (hl : lf < 64) (hb : ∀ s, s < 6 → lf / 2 ^ s % 2 = 1 → s < pS P) (hn : pcn lf = n) : (lv0 1 P 0 n [] lf).Perm (((cnL (pS P) (pmL lf)).filter (sbB lf)).map wyP) := by
  have h2 : 2 ^ pS P ≤ 2 ^ 6 := Nat.pow_le_pow_right (by decide) hS
  refine (List.perm_ext_iff_of_nodup (lv0_nd n [] lf) ?_).mpr (fun x => ?_)
  · unfold List.Nodup
    rw [List.pairwise_map]
    refine List.Pairwise.imp_of_mem (fun {a c} ha hc h e => ?_) (List.Pairwise.filter (sbB lf) (cnL_srt (S := pS P) hl hS))
    obtain ⟨ha1, ha2⟩ := List.mem_filter.mp ha
    obtain ⟨hc1, hc2⟩ := List.mem_filter.mp hc
    have ha3 := cnL_mem.mp ha1
    have hc3 := cnL_mem.mp hc1
    have e1 := ky_wy hl hn ha3.1 (by omega) ha2
    have e2 := ky_wy hl hn hc3.1 (by omega) hc2
    rw [e] at e1
    omega
  · constructor
    · intro hx
      obtain ⟨T, a1, a2, a3, a4⟩ := lv1_T (P := P) (t := 0) hS n [] lf 0 hl (by decide) (fun q hq => absurd hq List.not_mem_nil) x hx
      have hsub : T &&& lf = T := and_bits T a1 lf hl (fun s hs h0 => by rw [a3 s hs h0, Nat.zero_div])
      have hm : x ∈ bL P T n lf := a4
      rw [bL_pm hS hl hb hn] at hm
      obtain ⟨o, ho, rfl⟩ := List.mem_map.mp hm
      refine List.mem_map.mpr ⟨(o, T), List.mem_filter.mpr ⟨cnL_mem.mpr ⟨ho, sub_pow (pS P) (by omega) lf hl T a1 ⟨hb, hsub⟩⟩, ?_⟩, rfl⟩
      unfold sbB
      simpa using hsub
    · intro hx
      obtain ⟨q, hq, rfl⟩ := List.mem_map.mp hx
      obtain ⟨h3, h4⟩ := List.mem_filter.mp hq
      have h5 := cnL_mem.mp h3
      have hm : wyP q ∈ bL P q.2 n lf := by
        rw [bL_pm hS hl hb hn]
        exact List.mem_map.mpr ⟨q.1, h5.1, rfl⟩
      exact lv0_1 n [] lf _ hm
/-- the class's answer is the model's -/
theorem ew_em {P : PG} {n lf : Nat} (hS : pS P ≤ 6) (hn6 : n ≤ 6) (hl : lf < 64) (hb : ∀ s, s < 6 → lf / 2 ^ s % 2 = 1 → s < pS P) (hn : pcn lf = n) : ewF (eL P n lf) = emF ((cnL (pS P) (pmL lf)).filter (prB P lf)) := by
  have h2 : 2 ^ pS P ≤ 2 ^ 6 := Nat.pow_le_pow_right (by decide) hS
  have hpm := (ew_perm (P := P) hS hl hb hn).filter (rgB P)
  have e1 : (((cnL (pS P) (pmL lf)).filter (sbB lf)).map wyP).filter (rgB P) = ((cnL (pS P) (pmL lf)).filter (prB P lf)).map wyP := by
    rw [List.filter_map, List.filter_filter]
    congr 1
    refine List.filter_congr (fun q _ => ?_)
    unfold prB
    rw [Bool.and_comm]
    rfl
  rw [e1] at hpm
  have hpm2 : (eL P n lf).Perm (((cnL (pS P) (pmL lf)).filter (prB P lf)).map wyP) := hpm
  generalize hM : (cnL (pS P) (pmL lf)).filter (prB P lf) = M at hpm2
  have hMm : ∀ q ∈ M, q.1 ∈ pmL lf ∧ q.2 < 64 ∧ sbB lf q = true := by
    intro q hq
    rw [← hM] at hq
    obtain ⟨h3, h4⟩ := List.mem_filter.mp hq
    have h5 := cnL_mem.mp h3
    unfold prB at h4
    exact ⟨h5.1, by omega, (Bool.and_eq_true_iff.mp h4).1⟩
  have hMs : M.Pairwise (fun a c => kyM a < kyM c) := by rw [← hM]; exact List.Pairwise.filter _ (cnL_srt hl hS)
  have hlen : (eL P n lf).length = M.length := by rw [hpm2.length_eq, List.length_map]
  have hL31 : (eL P n lf).length < 2 ^ 31 := by
    have q1 := List.length_filter_le (rgB P) (lv0 1 P 0 n [] lf)
    have q2 := lv0_len (bw := 1) (P := P) (t0 := 0) hS n [] lf
    have q3 : 12 ^ n ≤ 12 ^ 6 := Nat.pow_le_pow_right (by decide) hn6
    have q4 : (eL P n lf).length ≤ (lv0 1 P 0 n [] lf).length := q1
    omega
  cases M with
  | nil =>
    rw [List.length_eq_zero_iff.mp hlen]
    show ((0 : Int32), ((-9 : Int32), (-9 : Int32))) = (nI 0, (-9, -9))
    rw [nI_0]
  | cons q M =>
    have hky : ∀ z ∈ q :: M, ky (wyP z) = kyM z := fun z hz => by
      obtain ⟨a1, a2, a3⟩ := hMm z hz
      exact ky_wy hl hn a1 a2 a3
    have hbd : ∀ pr ∈ eL P n lf, wmk pr < 64 ∧ numP pr < 2 ^ 31 := by
      intro pr hpr
      obtain ⟨z, hz, rfl⟩ := List.mem_map.mp ((hpm2.mem_iff).mp hpr)
      obtain ⟨a1, a2, a3⟩ := hMm z hz
      constructor
      · have := wy_mk hl hn a1 a2 (by simpa [sbB] using a3)
        unfold wyP
        omega
      · obtain ⟨b1, b2, -, -⟩ := pm_row hl hn a1
        unfold wyP
        rw [numP_wy, b1]
        have := numF_small (f := oF z.1) (n := n) (fun j hj => (b2 j hj).1) hn6
        omega
    obtain ⟨k2, a1, a2, a3⟩ := ew_min (L := eL P n lf) (fun e => by rw [e] at hlen; cases hlen) hL31 hbd
    have hk : k2 = kyM q := by
      have h6 : k2 ∈ ((q :: M).map wyP).map ky := ((hpm2.map ky).mem_iff).mp a1
      have h7 : kyM q ∈ (eL P n lf).map ky := ((hpm2.map ky).mem_iff).mpr (by rw [List.map_cons, List.map_cons, hky q List.mem_cons_self]; exact List.mem_cons_self)
      have h8 := a2 _ h7
      rw [List.map_map] at h6
      obtain ⟨z, hz, e⟩ := List.mem_map.mp h6
      have e2 : kyM z = k2 := (hky z hz).symm.trans e
      rcases List.mem_cons.mp hz with w | w
      · rw [← e2, w]
      · have := (List.pairwise_cons.mp hMs).1 z w
        omega
    obtain ⟨c1, c2, c3⟩ := hMm q List.mem_cons_self
    rw [a3, hlen, hk]
    show (nI _, nI (kyM q / 64), nI (kyM q % 64)) = (nI _, nI (nmO q.1), nI q.2)
    have e3 : kyM q / 64 = nmO q.1 := by unfold kyM; omega
    have e4 : kyM q % 64 = q.2 := by unfold kyM; omega
    rw [e3, e4]
