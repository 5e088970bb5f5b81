/-! the leaves of the walk, without the tree of letters -/
def nds (nx : Nat → Nat → Nat) (sq : Nat → Nat) : Nat → Nat
  | 0 => 1
  | i + 1 => nx (nds nx sq i) (sq i)
theorem st26 {nx : Nat → Nat → Nat} {nd : Nat} {WL : List (List Nat)} (h : trOK nx nd WL) (x : RS) (hc : ∀ c ∈ x.2.2.2.2, c < 26) (hb : x.2.1 ≤ x.1) : nx (if x.1 = x.2.1 then wlk nx x.2.2.2.2 else 0) 26 = if (endR WL x).1 = (endR WL x).2.1 then 1 else 0 := by
  have hz : nx 0 26 = 0 := h.2.2.1 0 26 (Or.inl rfl)
  unfold endR
  by_cases h1 : x.1 = x.2.1
  · rw [if_pos h1]
    by_cases h2 : x.2.2.2.2 = []
    · rw [if_pos h2, h2]
      show nx 1 26 = if x.1 = x.2.1 then 1 else 0
      rw [h.root, if_pos h1]
    · rw [if_neg h2]
      have hw := h.word hc h2
      by_cases h3 : x.2.2.2.2 ∈ WL
      · rw [if_pos h3, hw.mpr h3]
        show 1 = if x.1 + 1 = x.2.1 + 1 then 1 else 0
        rw [if_pos (by omega)]
      · rw [if_neg h3]
        show _ = if x.1 + 1 = x.2.1 then 1 else 0
        rw [if_neg (by omega)]
        rcases h.blank (wlk nx x.2.2.2.2) with q | q
        · exact q
        · exact absurd (hw.mp q) h3
  · rw [if_neg h1, hz]
    by_cases h2 : x.2.2.2.2 = []
    · rw [if_pos h2]
      show 0 = if x.1 = x.2.1 then 1 else 0
      rw [if_neg h1]
    · rw [if_neg h2]
      by_cases h3 : x.2.2.2.2 ∈ WL
      · rw [if_pos h3]
        show 0 = if x.1 + 1 = x.2.1 + 1 then 1 else 0
        rw [if_neg (by omega)]
      · rw [if_neg h3]
        show 0 = if x.1 + 1 = x.2.1 then 1 else 0
        rw [if_neg (by omega)]
theorem nds_eq {nx : Nat → Nat → Nat} {nd : Nat} {WL : List (List Nat)} (h : trOK nx nd WL) {sq : Nat → Nat} (hs : ∀ i, sq i ≤ 26) : ∀ i, nds nx sq i = if (rdS WL sq i).1 = (rdS WL sq i).2.1 then wlk nx (rdS WL sq i).2.2.2.2 else 0
  | 0 => rfl
  | i + 1 => by
    have ih := nds_eq h hs i
    have hc := rdS_cur (WL := WL) hs i
    have hb := rdS_bd (WL := WL) (sq := sq) i
    show nx (nds nx sq i) (sq i) = _
    rw [ih]
    by_cases h2 : sq i = 26
    · have e : rdS WL sq (i + 1) = endR WL (rdS WL sq i) := if_pos h2
      rw [h2, st26 h _ hc.2 hb.1, e, endR_nil]
      rfl
    · have e : rdS WL sq (i + 1) = ((rdS WL sq i).1, (rdS WL sq i).2.1, (rdS WL sq i).2.2.1, (rdS WL sq i).2.2.2.1, (rdS WL sq i).2.2.2.2 ++ [sq i]) := if_neg h2
      rw [e]
      show _ = if (rdS WL sq i).1 = (rdS WL sq i).2.1 then wlk nx ((rdS WL sq i).2.2.2.2 ++ [sq i]) else 0
      by_cases h3 : (rdS WL sq i).1 = (rdS WL sq i).2.1
      · rw [if_pos h3, if_pos h3]
        unfold wlk
        rw [List.foldl_append]
        rfl
      · rw [if_neg h3, if_neg h3]
        exact h.2.2.1 0 _ (Or.inl rfl)
theorem nds_cong {nx : Nat → Nat → Nat} {a b : Nat → Nat} : ∀ {k : Nat}, (∀ i, i < k → a i = b i) → nds nx a k = nds nx b k
  | 0, _ => rfl
  | k + 1, h => by
    show nx (nds nx a k) (a k) = nx (nds nx b k) (b k)
    rw [nds_cong (fun i hi => h i (by omega)), h k (by omega)]
theorem sqP_app {P : PG} {pr : List (Nat × Nat)} {q : Nat × Nat} {l i : Nat} (h : i < 2 * pr.length) : sqP P (pr ++ [q]) l i = sqP P pr l i := by
  unfold sqP
  rw [getD_app (by omega)]
theorem nod_nds (nx : Nat → Nat → Nat) (P : PG) (l : Nat) (pr : List (Nat × Nat)) : nod nx P pr l = nds nx (sqP P pr l) (2 * pr.length) := by
  have key : ∀ (n : Nat) (pr : List (Nat × Nat)), pr.length = n → nod nx P pr l = nds nx (sqP P pr l) (2 * n) := by
    intro n
    induction n with
    | zero =>
      intro pr h
      rw [List.length_eq_zero_iff.mp h]
      rfl
    | succ n ih =>
      intro pr h
      have hne : pr ≠ [] := by intro q; rw [q] at h; cases h
      obtain ⟨p2, q, rfl⟩ : ∃ p2 q, pr = p2 ++ [q] := ⟨pr.dropLast, pr.getLast hne, (List.dropLast_concat_getLast hne).symm⟩
      have hl : p2.length = n := by simp at h; exact h
      have := nod_s nx P p2 q.1 q.2 l
      rw [show (q.1, q.2) = q from rfl] at this
      rw [this, ih p2 hl]
      show _ = nx (nx (nds nx _ (2 * n)) (sqP P (p2 ++ [q]) l (2 * n))) (sqP P (p2 ++ [q]) l (2 * n + 1))
      have e0 : nds nx (sqP P p2 l) (2 * n) = nds nx (sqP P (p2 ++ [q]) l) (2 * n) := nds_cong (fun i hi => (sqP_app (q := q) (by omega)).symm)
      have e1 : sqP P (p2 ++ [q]) l (2 * n) = shW P q.2 q.1 l 0 := by
        unfold sqP
        rw [show 2 * n / 2 = p2.length by omega, show 2 * n % 2 = 0 by omega, getD_last]
      have e2 : sqP P (p2 ++ [q]) l (2 * n + 1) = shW P q.2 q.1 l 1 := by
        unfold sqP
        rw [show (2 * n + 1) / 2 = p2.length by omega, show (2 * n + 1) % 2 = 1 by omega, getD_last]
      rw [e0, e1, e2]
  exact key _ pr rfl
/-- all lines read right -/
def rgB (P : PG) (pr : List (Nat × Nat)) : Bool := (List.range (pL P)).all (fun l => (rdE (pW P) (sqP P pr l) (2 * pr.length)).1 == (rdE (pW P) (sqP P pr l) (2 * pr.length)).2.1)
theorem sqP_le {P : PG} (h : pOK P) (pr : List (Nat × Nat)) (l i : Nat) : sqP P pr l i ≤ 26 := shW_le h _ _ _ _
theorem endB_rg {nx : Nat → Nat → Nat} {nd : Nat} {P : PG} (hP : pOK P) (h : trOK nx nd (pW P)) (pr : List (Nat × Nat)) : endB nx P pr = rgB P pr := by
  unfold endB rgB
  congr 1
  funext l
  rw [nod_nds, nds_eq h (sqP_le hP pr l), st26 h _ (rdS_cur (sqP_le hP pr l) _).2 (rdS_bd _).1]
  show ((if (rdE (pW P) (sqP P pr l) (2 * pr.length)).1 = (rdE (pW P) (sqP P pr l) (2 * pr.length)).2.1 then 1 else 0) == 1) = _
  by_cases q : (rdE (pW P) (sqP P pr l) (2 * pr.length)).1 = (rdE (pW P) (sqP P pr l) (2 * pr.length)).2.1
  · rw [if_pos q, q]; simp
  · rw [if_neg q]; simp [q]
def lv0 (bw : Nat) (P : PG) (t0 : Nat) : Nat → List (Nat × Nat) → Nat → List (List (Nat × Nat))
  | 0, pr, _ => [pr]
  | r + 1, pr, lf => (List.range (pS P)).flatMap (fun s => (List.range 2).flatMap (fun w => if lf / 2 ^ s % 2 = 1 ∧ (bw = 1 ∨ t0 / 2 ^ s % 2 = w) then lv0 bw P t0 r (pr ++ [(s, w)]) (stb lf s 0) else []))
theorem flatMap_cg {α β : Type} {l : List α} {f g : α → List β} (h : ∀ a ∈ l, f a = g a) : l.flatMap f = l.flatMap g := by
  induction l with
  | nil => rfl
  | cons a l ih => rw [List.flatMap_cons, List.flatMap_cons, h a List.mem_cons_self, ih (fun b hb => h b (List.mem_cons_of_mem _ hb))]
theorem lv_dead {bw : Nat} {nx : Nat → Nat → Nat} {nd : Nat} {P : PG} {t0 : Nat} (h : trOK nx nd (pW P)) : ∀ (r : Nat) (pr : List (Nat × Nat)) (lf : Nat), livB nx P pr = false → ∀ x ∈ lv0 bw P t0 r pr lf, endB nx P x = false
  | 0, pr, lf, hl, x, hx => by
    have hx : x = pr := by simpa [lv0] using hx
    subst hx
    unfold livB at hl
    unfold endB
    rw [List.all_eq_false] at hl ⊢
    obtain ⟨l, h1, h2⟩ := hl
    refine ⟨l, h1, ?_⟩
    have : nod nx P x l = 0 := by simpa using h2
    rw [this, h.2.2.1 0 26 (Or.inl rfl)]
    decide
  | r + 1, pr, lf, hl, x, hx => by
    unfold lv0 at hx
    obtain ⟨s, hs, hx⟩ := List.mem_flatMap.mp hx
    obtain ⟨w, hw, hx⟩ := List.mem_flatMap.mp hx
    split at hx
    · refine lv_dead h r _ _ ?_ x hx
      unfold livB at hl ⊢
      rw [List.all_eq_false] at hl ⊢
      obtain ⟨l, h1, h2⟩ := hl
      refine ⟨l, h1, ?_⟩
      have : nod nx P pr l = 0 := by simpa using h2
      rw [nod_s, this, h.2.2.1 0 _ (Or.inl rfl), h.2.2.1 0 _ (Or.inl rfl)]
      decide
    · cases hx
theorem lvs_1 {bw : Nat} {nx : Nat → Nat → Nat} {nd : Nat} {P : PG} {t0 : Nat} (hP : pOK P) (h : trOK nx nd (pW P)) : ∀ (r : Nat) (pr : List (Nat × Nat)) (lf : Nat), lvs bw 1 nx P t0 r pr lf = (lv0 bw P t0 r pr lf).filter (rgB P)
  | 0, pr, lf => by
    show (if 1 = 0 ∨ endB nx P pr = true then [pr] else []) = [pr].filter (rgB P)
    rw [endB_rg hP h, List.filter_cons]
    by_cases q : rgB P pr = true
    · rw [if_pos (Or.inr q), if_pos q]; rfl
    · rw [if_neg (fun z => by rcases z with z | z; cases z; exact q z), if_neg q]; rfl
  | r + 1, pr, lf => by
    unfold lv0
    rw [List.filter_flatMap]
    show (List.range (pS P)).flatMap _ = _
    refine flatMap_cg (fun s hs => ?_)
    rw [List.filter_flatMap]
    refine flatMap_cg (fun w hw => ?_)
    by_cases c : lf / 2 ^ s % 2 = 1 ∧ (bw = 1 ∨ t0 / 2 ^ s % 2 = w)
    · rw [if_pos c]
      by_cases q : livB nx P (pr ++ [(s, w)]) = true
      · rw [if_pos ⟨c.1, c.2, Or.inr q⟩]
        exact lvs_1 hP h r _ _
      · rw [if_neg (fun z => by rcases z.2.2 with z | z; cases z; exact q z)]
        symm
        rw [List.filter_eq_nil_iff]
        intro x hx
        have := lv_dead h r _ _ (by simpa using q) x hx
        rw [endB_rg hP h] at this
        rw [this]; decide
    · rw [if_neg c, if_neg (fun z => c ⟨z.1, z.2.1⟩)]
      rfl
theorem lvs_0 {bw : Nat} {nx : Nat → Nat → Nat} {P : PG} {t0 : Nat} : ∀ (r : Nat) (pr : List (Nat × Nat)) (lf : Nat), lvs bw 0 nx P t0 r pr lf = lv0 bw P t0 r pr lf
  | 0, pr, lf => if_pos (Or.inl rfl)
  | r + 1, pr, lf => by
    unfold lv0
    show (List.range (pS P)).flatMap _ = _
    refine flatMap_cg (fun s hs => flatMap_cg (fun w hw => ?_))
    by_cases c : lf / 2 ^ s % 2 = 1 ∧ (bw = 1 ∨ t0 / 2 ^ s % 2 = w)
    · rw [if_pos c, if_pos ⟨c.1, c.2, Or.inl rfl⟩]
      exact lvs_0 r _ _
    · rw [if_neg c, if_neg (fun z => c ⟨z.1, z.2.1⟩)]
theorem lv0_t (P : PG) (t0 t1 : Nat) : ∀ (r : Nat) (pr : List (Nat × Nat)) (lf : Nat), lv0 1 P t0 r pr lf = lv0 1 P t1 r pr lf
  | 0, pr, lf => rfl
  | r + 1, pr, lf => by
    unfold lv0
    refine flatMap_cg (fun s hs => flatMap_cg (fun w hw => ?_))
    by_cases c : lf / 2 ^ s % 2 = 1
    · rw [if_pos ⟨c, Or.inl rfl⟩, if_pos ⟨c, Or.inl rfl⟩, lv0_t P t0 t1 r]
    · rw [if_neg (fun z => c z.1), if_neg (fun z => c z.1)]
/-- the right orders: as they lie, and turned either way -/
def oL (P : PG) (t n lf : Nat) : List (List (Nat × Nat)) := (lv0 0 P t n [] lf).filter (rgB P)
def eL (P : PG) (n lf : Nat) : List (List (Nat × Nat)) := (lv0 1 P 0 n [] lf).filter (rgB P)
def bL (P : PG) (t n lf : Nat) : List (List (Nat × Nat)) := lv0 0 P t n [] lf
theorem chq_pv {pv pw : Nat → Int32} {o : Nat → Nat} {c : Nat → Nat} {p m : Nat} (h : ∀ j, j < m → pv (o j) = pw (o j)) (hp : p < m) : ∀ q, q ≤ p → chq pv o c p q = chq pw o c p q
  | 0, _ => rfl
  | q + 1, hq => by
    unfold chq
    rw [chq_pv h hp q (by omega), h q (by omega), h p hp]
theorem chs_pv {pv pw : Nat → Int32} {o : Nat → Nat} {m : Nat} (h : ∀ j, j < m → pv (o j) = pw (o j)) : ∀ p, p ≤ m → chs pv o p = chs pw o p
  | 0, _ => rfl
  | p + 1, hp => by
    unfold chs
    rw [chs_pv h p (by omega), chq_pv h (by omega) p (Nat.le_refl _)]
theorem stF_pv {pv pw : Nat → Int32} {o : Nat → Nat} {m : Nat} (h : ∀ j, j < m → pv (o j) = pw (o j)) : ∀ p, p ≤ m → stF pv o p = stF pw o p
  | 0, _ => rfl
  | p + 1, hp => by
    unfold stF
    rw [stF_pv h p (by omega), chs_pv h (p + 1) hp]
def rsX (m k : Nat) (x : ROS) (o : Nat → Nat) (num : Nat) : ROS := (x.1 + nI 1, if x.1 = 0 then nI num else x.2.1, if x.1 = 0 ∨ nI (m - k) < x.2.2.1 then nI (m - k) else x.2.2.1, folP x.1 m o x.2.2.2 m)
theorem roStep_x (m : Nat) (pv : Nat → Int32) (x : ROS) (o : Nat → Nat) (num : Nat) : roStep m pv x o num = rsX m (stF pv o m) x o num := by unfold roStep rsX; rfl
theorem roStep_pv {pv pw : Nat → Int32} {m : Nat} {o : Nat → Nat} (h : ∀ j, j < m → pv (o j) = pw (o j)) (x : ROS) (num : Nat) : roStep m pv x o num = roStep m pw x o num := by
  rw [roStep_x, roStep_x, stF_pv h m (Nat.le_refl _)]
theorem foldl_cg {α β : Type} {f g : β → α → β} : ∀ (l : List α) (x : β), (∀ a ∈ l, ∀ x, f x a = g x a) → l.foldl f x = l.foldl g x
  | [], _, _ => rfl
  | a :: l, x, h => by
    rw [List.foldl_cons, List.foldl_cons, h a List.mem_cons_self x]
    exact foldl_cg l _ (fun b hb => h b (List.mem_cons_of_mem _ hb))
theorem roF_pv {pv pw : Nat → Int32} {m : Nat} {acc : List (List (Nat × Nat))} (h : ∀ pr ∈ acc, ∀ j, j < m → pv (ord pr j) = pw (ord pr j)) : roF m pv acc = roF m pw acc := by
  unfold roF
  exact foldl_cg acc _ (fun pr hp x => roStep_pv (h pr hp) x (numP pr))
/-- leaves are as long as they must be, of strips in the set -/
theorem lv0_mem {bw : Nat} {P : PG} {t0 : Nat} (hS : pS P ≤ 6) : ∀ (r : Nat) (pr : List (Nat × Nat)) (lf : Nat), lf < 64 → ∀ x ∈ lv0 bw P t0 r pr lf, x.length = pr.length + r ∧ ∀ q ∈ x, q ∈ pr ∨ (q.1 < pS P ∧ lf / 2 ^ q.1 % 2 = 1 ∧ q.2 < 2)
  | 0, pr, lf, _, x, hx => by
    have hx : x = pr := by simpa [lv0] using hx
    subst hx
    exact ⟨rfl, fun q hq => Or.inl hq⟩
  | r + 1, pr, lf, hl, x, hx => by
    unfold lv0 at hx
    obtain ⟨s, hs, hx⟩ := List.mem_flatMap.mp hx
    obtain ⟨w, hw, hx⟩ := List.mem_flatMap.mp hx
    have hs := List.mem_range.mp hs
    have hw := List.mem_range.mp hw
    split at hx
    · rename_i c
      obtain ⟨h1, h2⟩ := lv0_mem hS r _ _ (bit_clr lf hl s (by omega)).2 x hx
      refine ⟨by rw [h1]; simp; omega, fun q hq => ?_⟩
      rcases h2 q hq with z | ⟨z1, z2, z3⟩
      · rcases List.mem_append.mp z with z | z
        · exact Or.inl z
        · rw [List.mem_singleton.mp z]
          exact Or.inr ⟨hs, c.1, hw⟩
      · refine Or.inr ⟨z1, ?_, z3⟩
        rw [stb_bit lf hl s (by omega) 0 (by omega) q.1 (by omega)] at z2
        split at z2
        · cases z2
        · exact z2
    · cases hx
