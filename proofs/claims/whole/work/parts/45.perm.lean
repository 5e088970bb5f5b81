/-! orders of a set of strips, the least number first -/
def pm : Nat → List Nat → Nat → List (List Nat)
  | 0, o, _ => [o]
  | r + 1, o, lf => (List.range 6).flatMap (fun s => if lf / 2 ^ s % 2 = 1 then pm r (o ++ [s]) (stb lf s 0) else [])
def srtN (lf s : Nat) : List Nat := (List.range s).filter (fun z => lf / 2 ^ z % 2 == 1)
def kS (f : Nat → Nat) : Nat → Option Nat
  | 0 => none
  | k + 1 => if f k > f (k + 1) then kS f k else some k
def jS (f : Nat → Nat) (a : Nat) : Nat → Nat
  | 0 => 0
  | j + 1 => if f (j + 1) < a then jS f a j else j + 1
def rv (g : Nat → Nat) (a b i : Nat) : Nat := if a ≤ i ∧ i ≤ b then g (a + b - i) else g i
def nxF (f : Nat → Nat) (m : Nat) : Option (Nat → Nat) := match kS f (m - 1) with
  | none => none
  | some k => some (rv (swpF f k (jS f (f k) (m - 1))) (k + 1) (m - 1))
def oF (o : List Nat) : Nat → Nat := fun j => o.getD j 0
def nxL (o : List Nat) : Option (List Nat) := (nxF (oF o) o.length).map (fun g => (List.range o.length).map g)
def chk : List (List Nat) → Bool
  | [] => false
  | [a] => nxL a == none
  | a :: c :: l => (nxL a == some c) && chk (c :: l)
def pmL (lf : Nat) : List (List Nat) := pm (pcn lf) [] lf
set_option maxRecDepth 100000 in
theorem pm_chk : ∀ lf, lf < 64 → chk (pmL lf) = true ∧ (pmL lf).head? = some (srtN lf 6) := by decide +kernel
set_option maxRecDepth 100000 in
theorem pm_mem : ∀ lf, lf < 64 → ∀ o ∈ pmL lf, o.length = pcn lf ∧ ∀ s ∈ o, s < 6 ∧ lf / 2 ^ s % 2 = 1 := by decide +kernel
set_option maxRecDepth 100000 in
theorem pm_nd : ∀ lf, lf < 64 → ∀ o ∈ pmL lf, o.Nodup := by decide +kernel
theorem chk_mid : ∀ (D : List (List Nat)) {a : List Nat} {R : List (List Nat)}, chk (D ++ a :: R) = true → nxL a = R.head?
  | [], a, [], h => by simpa [chk] using h
  | [], a, c :: R, h => by
    simp only [List.nil_append, chk, Bool.and_eq_true, beq_iff_eq] at h
    exact h.1
  | d :: D, a, R, h => by
    have : chk (D ++ a :: R) = true := by
      cases D with
      | nil => simp only [List.cons_append, List.nil_append, chk, Bool.and_eq_true] at h; exact h.2
      | cons e D => simp only [List.cons_append, chk, Bool.and_eq_true] at h ⊢; exact h.2
    exact chk_mid D this
def wy (t s : Nat) : Nat × Nat := (s, t / 2 ^ s % 2)
theorem fm_nil {α β : Type} {l : List α} {f : α → List β} (h : ∀ a ∈ l, f a = []) : l.flatMap f = [] := by
  induction l with
  | nil => rfl
  | cons a l ih => rw [List.flatMap_cons, h a List.mem_cons_self, ih (fun b hb => h b (List.mem_cons_of_mem _ hb))]; rfl
theorem fm_range {β : Type} {f : Nat → List β} {n : Nat} : ∀ k, (∀ s, n ≤ s → s < n + k → f s = []) → (List.range (n + k)).flatMap f = (List.range n).flatMap f
  | 0, _ => rfl
  | k + 1, h => by
    rw [← Nat.add_assoc, List.range_succ, List.flatMap_append, fm_range k (fun s h1 h2 => h s h1 (by omega))]
    rw [List.flatMap_cons, h (n + k) (by omega) (by omega)]
    simp
theorem fm_two {β : Type} (c : Prop) [Decidable c] {b : Nat} (hb : b < 2) (x : List β) : (List.range 2).flatMap (fun w => if c ∧ (0 = 1 ∨ b = w) then x else []) = if c then x else [] := by
  have : b = 0 ∨ b = 1 := by omega
  by_cases h : c
  · rcases this with rfl | rfl <;> simp [h, List.range_succ]
  · simp [h]
theorem lv0_pm {P : PG} {t : Nat} (hS : pS P ≤ 6) : ∀ (r : Nat) (o : List Nat) (lf : Nat), lf < 64 → (∀ s, s < 6 → lf / 2 ^ s % 2 = 1 → s < pS P) → lv0 0 P t r (o.map (wy t)) lf = (pm r o lf).map (List.map (wy t))
  | 0, o, lf, _, _ => rfl
  | r + 1, o, lf, hl, hb => by
    have e1 : lv0 0 P t (r + 1) (o.map (wy t)) lf = (List.range (pS P)).flatMap (fun s => if lf / 2 ^ s % 2 = 1 then (pm r (o ++ [s]) (stb lf s 0)).map (List.map (wy t)) else []) := by
      show (List.range (pS P)).flatMap _ = _
      refine flatMap_cg (fun s hs => ?_)
      have hs := List.mem_range.mp hs
      have e2 : ∀ w ∈ List.range 2, (if lf / 2 ^ s % 2 = 1 ∧ (0 = 1 ∨ t / 2 ^ s % 2 = w) then lv0 0 P t r (o.map (wy t) ++ [(s, w)]) (stb lf s 0) else []) = if lf / 2 ^ s % 2 = 1 ∧ (0 = 1 ∨ t / 2 ^ s % 2 = w) then (pm r (o ++ [s]) (stb lf s 0)).map (List.map (wy t)) else [] := by
        intro w hw
        by_cases c : lf / 2 ^ s % 2 = 1 ∧ (0 = 1 ∨ t / 2 ^ s % 2 = w)
        · rw [if_pos c, if_pos c]
          have hw2 : t / 2 ^ s % 2 = w := by rcases c.2 with q | q; cases q; exact q
          have := lv0_pm (P := P) (t := t) hS r (o ++ [s]) (stb lf s 0) (bit_clr lf hl s (by omega)).2 (fun z hz h1 => by
            rw [stb_bit lf hl s (by omega) 0 (by omega) z hz] at h1
            split at h1
            · cases h1
            · exact hb z hz h1)
          rw [← this, List.map_append]
          show _ = lv0 0 P t r (o.map (wy t) ++ [(s, t / 2 ^ s % 2)]) _
          rw [hw2]
        · rw [if_neg c, if_neg c]
      rw [flatMap_cg e2]
      exact fm_two _ (bit_lt2 _ _) _
    rw [e1]
    show _ = ((List.range 6).flatMap _).map _
    rw [List.map_flatMap]
    have e3 := fm_range (n := pS P) (f := fun s => if lf / 2 ^ s % 2 = 1 then (pm r (o ++ [s]) (stb lf s 0)).map (List.map (wy t)) else []) (6 - pS P) (fun s h1 h2 => if_neg (fun q => by have := hb s (by omega) q; omega))
    rw [show pS P + (6 - pS P) = 6 by omega] at e3
    rw [← e3]
    refine flatMap_cg (fun s _ => ?_)
    split <;> rfl
theorem bL_pm {P : PG} {t n lf : Nat} (hS : pS P ≤ 6) (hl : lf < 64) (hb : ∀ s, s < 6 → lf / 2 ^ s % 2 = 1 → s < pS P) (hn : pcn lf = n) : bL P t n lf = (pmL lf).map (List.map (wy t)) := by
  have := lv0_pm (t := t) hS n [] lf hl hb
  rw [List.map_nil] at this
  unfold bL pmL
  rw [this, hn]
/-- right, told by the row as it lies in an array -/
theorem rg_iff {P : PG} {o : List Nat} {g : Nat → Nat} {t m : Nat} (hm : o.length = m) (hg : ∀ j, j < m → g j = o.getD j 0) : rgB P (o.map (wy t)) = true ↔ ∀ l, l < pL P → (rdE (pW P) (sqF P g t l) (2 * m)).1 = (rdE (pW P) (sqF P g t l) (2 * m)).2.1 := by
  have e : ∀ l, rdE (pW P) (sqP P (o.map (wy t)) l) (2 * (o.map (wy t)).length) = rdE (pW P) (sqF P g t l) (2 * m) := by
    intro l
    rw [List.length_map, hm]
    refine rdE_cong (fun i hi => (sqP_eq (f := g) (t := t) (m := m) (by rw [List.length_map, hm]) (fun j hj => ?_) (fun q hq => ?_) hi).symm)
    · rw [hg j hj, List.getD_eq_getElem?_getD, List.getD_eq_getElem?_getD, List.getElem?_map, List.getElem?_eq_getElem (by omega)]
      rfl
    · obtain ⟨s, _, rfl⟩ := List.mem_map.mp hq
      rfl
  unfold rgB
  rw [List.all_eq_true]
  constructor
  · intro h l hl
    have := h l (List.mem_range.mpr hl)
    rw [e l] at this
    simpa using this
  · intro h l hl
    rw [e l]
    simpa using h l (List.mem_range.mp hl)
theorem ord_wy (o : List Nat) (t : Nat) {j : Nat} (h : j < o.length) : ord (o.map (wy t)) j = o.getD j 0 := by
  unfold ord
  rw [List.getD_eq_getElem?_getD, List.getD_eq_getElem?_getD, List.getElem?_map, List.getElem?_eq_getElem h]
  rfl
theorem numP_wy (t : Nat) : ∀ (o : List Nat), numP (o.map (wy t)) = numF (oF o) o.length := by
  have key : ∀ (n : Nat) (o : List Nat), o.length = n → numP (o.map (wy t)) = numF (oF o) n := by
    intro n
    induction n with
    | zero => intro o h; rw [List.length_eq_zero_iff.mp h]; rfl
    | succ n ih =>
      intro o h
      have hne : o ≠ [] := by intro q; rw [q] at h; cases h
      obtain ⟨p2, q, rfl⟩ : ∃ p2 q, o = p2 ++ [q] := ⟨o.dropLast, o.getLast hne, (List.dropLast_concat_getLast hne).symm⟩
      have hl : p2.length = n := by simp at h; exact h
      rw [List.map_append]
      have := numP_s (p2.map (wy t)) q (t / 2 ^ q % 2)
      rw [show (p2.map (wy t) ++ [q].map (wy t)) = p2.map (wy t) ++ [(q, t / 2 ^ q % 2)] from rfl, this, ih p2 hl]
      show _ = numF (oF (p2 ++ [q])) n * 10 + oF (p2 ++ [q]) n + 1
      have e1 : oF (p2 ++ [q]) n = q := by unfold oF; rw [List.getD_eq_getElem?_getD, ← hl]; simp
      have e2 : ∀ m, m ≤ n → numF (oF (p2 ++ [q])) m = numF (oF p2) m := by
        intro m
        induction m with
        | zero => intro _; rfl
        | succ m ih2 =>
          intro hm
          show numF _ m * 10 + oF (p2 ++ [q]) m + 1 = numF _ m * 10 + oF p2 m + 1
          rw [ih2 (by omega)]
          unfold oF
          rw [List.getD_eq_getElem?_getD, List.getD_eq_getElem?_getD, List.getElem?_append_left (by omega)]
      rw [e1, e2 n (Nat.le_refl _)]
  exact fun o => key _ o rfl
