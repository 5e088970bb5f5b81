/-! the tree of letters, as numbers -/
def wlk (nx : Nat → Nat → Nat) (u : List Nat) : Nat := u.foldl nx 1
def up2n (nx : Nat → Nat → Nat) (a b x : Nat) : Nat → Nat → Nat := fun i j => if i = a ∧ j = b then x else nx i j
def trL (nx : Nat → Nat → Nat) (nd : Nat) (WL : List (List Nat)) (lab : Nat → List Nat) : Prop :=
  lab 1 = [] ∧ (∀ a, 1 ≤ a → a < nd → ∀ c, c < 26 → nx a c ≠ 0 → lab (nx a c) = lab a ++ [c]) ∧ (∀ b, 2 ≤ b → b < nd → ∃ a c, 1 ≤ a ∧ a < nd ∧ c < 26 ∧ nx a c = b) ∧ (∀ a b, 1 ≤ a → a < nd → 1 ≤ b → b < nd → lab a = lab b → a = b) ∧ (∀ a, 1 ≤ a → a < nd → nx a 26 = if lab a = [] ∨ lab a ∈ WL then 1 else 0)
def trOK (nx : Nat → Nat → Nat) (nd : Nat) (WL : List (List Nat)) : Prop :=
  2 ≤ nd ∧ (∀ a b, nx a b < nd) ∧ (∀ a b, a = 0 ∨ nd ≤ a → nx a b = 0) ∧ (∃ lab : Nat → List Nat, trL nx nd WL lab) ∧ (∀ u ∈ WL, wlk nx u ≠ 0) ∧ ∀ u ∈ WL, ∀ c ∈ u, c < 26
theorem fold0 {nx : Nat → Nat → Nat} (h : ∀ b, nx 0 b = 0) : ∀ u : List Nat, u.foldl nx 0 = 0
  | [] => rfl
  | c :: u => by rw [List.foldl_cons, h]; exact fold0 h u
theorem trL.lab {nx : Nat → Nat → Nat} {nd : Nat} {WL : List (List Nat)} {lab : Nat → List Nat} (h : trL nx nd WL lab) (hlt : ∀ a b, nx a b < nd) (h0 : ∀ b, nx 0 b = 0) : ∀ (u : List Nat) (a : Nat), 1 ≤ a → a < nd → (∀ c ∈ u, c < 26) → u.foldl nx a ≠ 0 → 1 ≤ u.foldl nx a ∧ u.foldl nx a < nd ∧ lab (u.foldl nx a) = lab a ++ u
  | [], a, h1, h2, _, _ => ⟨h1, h2, by simp⟩
  | c :: u, a, h1, h2, h3, h4 => by
    rw [List.foldl_cons] at h4 ⊢
    have hn : nx a c ≠ 0 := by
      intro q
      rw [q, fold0 h0] at h4
      exact h4 rfl
    obtain ⟨q1, q2, q3⟩ := trL.lab h hlt h0 u (nx a c) (by omega) (hlt a c) (fun x hx => h3 x (List.mem_cons_of_mem _ hx)) h4
    exact ⟨q1, q2, by rw [q3, h.2.1 a h1 h2 c (h3 c List.mem_cons_self) hn]; simp⟩
theorem trOK.word {nx : Nat → Nat → Nat} {nd : Nat} {WL : List (List Nat)} (h : trOK nx nd WL) {u : List Nat} (hu : ∀ c ∈ u, c < 26) (hne : u ≠ []) : nx (wlk nx u) 26 = 1 ↔ u ∈ WL := by
  obtain ⟨h1, h2, h3, ⟨lab, hl⟩, h5, h6⟩ := h
  by_cases hz : wlk nx u = 0
  · rw [hz, h3 0 26 (Or.inl rfl)]
    constructor
    · intro q; cases q
    · intro q; exact absurd hz (h5 u q)
  · obtain ⟨q1, q2, q3⟩ := hl.lab h2 (fun b => h3 0 b (Or.inl rfl)) u 1 (by omega) (by omega) hu hz
    rw [hl.1, List.nil_append] at q3
    have e := hl.2.2.2.2 (wlk nx u) q1 q2
    rw [show lab (wlk nx u) = u from q3] at e
    rw [e]
    by_cases hm : u ∈ WL
    · simp [hm]
    · simp [hm, hne]
theorem trOK.blank {nx : Nat → Nat → Nat} {nd : Nat} {WL : List (List Nat)} (h : trOK nx nd WL) (a : Nat) : nx a 26 = 0 ∨ nx a 26 = 1 := by
  obtain ⟨h1, h2, h3, ⟨lab, hl⟩, h5, h6⟩ := h
  by_cases q : a = 0 ∨ nd ≤ a
  · exact Or.inl (h3 a 26 q)
  · rw [hl.2.2.2.2 a (by omega) (by omega)]
    split
    · exact Or.inr rfl
    · exact Or.inl rfl
theorem trOK.root {nx : Nat → Nat → Nat} {nd : Nat} {WL : List (List Nat)} (h : trOK nx nd WL) : nx 1 26 = 1 := by
  obtain ⟨h1, h2, h3, ⟨lab, hl⟩, h5, h6⟩ := h
  rw [hl.2.2.2.2 1 (by omega) (by omega), hl.1]
  simp
theorem up2n_s {nx : Nat → Nat → Nat} {a b x : Nat} : up2n nx a b x a b = x := by simp [up2n]
theorem up2n_n {nx : Nat → Nat → Nat} {a b x i j : Nat} (h : ¬ (i = a ∧ j = b)) : up2n nx a b x i j = nx i j := by simp [up2n, h]
theorem fold_grow {nx : Nat → Nat → Nat} {a0 c0 x : Nat} (h0 : ∀ b, nx 0 b = 0) (hz : nx a0 c0 = 0) : ∀ (u : List Nat) (a : Nat), u.foldl nx a ≠ 0 → u.foldl (up2n nx a0 c0 x) a = u.foldl nx a
  | [], _, _ => rfl
  | c :: u, a, h => by
    rw [List.foldl_cons] at h ⊢
    rw [List.foldl_cons]
    have hn : nx a c ≠ 0 := by
      intro q
      rw [q, fold0 h0] at h
      exact h rfl
    rw [up2n_n (by rintro ⟨rfl, rfl⟩; exact hn hz)]
    exact fold_grow h0 hz u (nx a c) h
/-- a new letter at the end of a node -/
theorem trOK.grow {nx : Nat → Nat → Nat} {nd : Nat} {WL : List (List Nat)} (h : trOK nx nd WL) {a c : Nat} (ha : 1 ≤ a) (ha2 : a < nd) (hc : c < 26) (hz : nx a c = 0) : trOK (up2n nx a c nd) (nd + 1) WL := by
  obtain ⟨h1, h2, h3, ⟨lab, l1, l2, l3, l4, l5⟩, h5, h6⟩ := h
  have h0 : ∀ b, nx 0 b = 0 := fun b => h3 0 b (Or.inl rfl)
  refine ⟨by omega, fun i j => ?_, fun i j hij => ?_, ⟨va_up lab nd (lab a ++ [c]), ?_, ?_, ?_, ?_, ?_⟩, fun u hu => ?_, h6⟩
  · unfold up2n
    split
    · omega
    · have := h2 i j; omega
  · rw [up2n_n (by omega)]
    exact h3 i j (by omega)
  · simp [va_up, show (1 : Nat) ≠ nd by omega, l1]
  · intro i hi1 hi2 j hj hne
    by_cases hij : i = a ∧ j = c
    · obtain ⟨rfl, rfl⟩ := hij
      rw [up2n_s]
      simp [va_up, show i ≠ nd by omega]
    · rw [up2n_n hij] at hne ⊢
      have hlt : i < nd := by
        rcases Nat.lt_or_ge i nd with q | q
        · exact q
        · exact absurd (h3 i j (Or.inr q)) hne
      have hb := h2 i j
      simp [va_up, show nx i j ≠ nd by omega, show i ≠ nd by omega]
      exact l2 i hi1 hlt j hj hne
  · intro b hb1 hb2
    by_cases hb : b = nd
    · exact ⟨a, c, ha, by omega, hc, by rw [up2n_s, hb]⟩
    · obtain ⟨i, j, q1, q2, q3, q4⟩ := l3 b hb1 (by omega)
      refine ⟨i, j, q1, by omega, q3, ?_⟩
      rw [up2n_n (by rintro ⟨rfl, rfl⟩; omega)]
      exact q4
  · have key : ∀ i, 1 ≤ i → i < nd → lab i ≠ lab a ++ [c] := by
      intro i hi1 hi2 q
      by_cases h11 : i = 1
      · rw [h11, l1] at q; simp at q
      · obtain ⟨x, y, q1, q2, q3, q4⟩ := l3 i (by omega) hi2
        have e := l2 x q1 q2 y q3 (by omega)
        rw [q4, q] at e
        have e2 := List.append_inj' e rfl
        have e3 : y = c := by have := e2.2; simp at this; exact this.symm
        have e4 := l4 a x ha ha2 q1 q2 e2.1
        subst e3; subst e4
        omega
    intro i j hi1 hi2 hj1 hj2 q
    by_cases e1 : i = nd
    · by_cases e2 : j = nd
      · omega
      · simp [va_up, e1, e2] at q
        exact absurd q.symm (key j hj1 (by omega))
    · by_cases e2 : j = nd
      · simp [va_up, e1, e2] at q
        exact absurd q (key i hi1 (by omega))
      · simp [va_up, e1, e2] at q
        exact l4 i j hi1 (by omega) hj1 (by omega) q
  · intro i hi1 hi2
    rw [up2n_n (by omega)]
    by_cases e1 : i = nd
    · rw [h3 i 26 (Or.inr (by omega))]
      simp only [va_up, e1, if_true]
      rw [if_neg]
      rintro (q | q)
      · simp at q
      · have e := h5 _ q
        unfold wlk at e
        rw [List.foldl_append] at e
        simp only [List.foldl_cons, List.foldl_nil] at e
        have hne : (lab a).foldl nx 1 ≠ 0 := by
          intro z; rw [z, h0] at e; exact e rfl
        have hm : ∀ x ∈ lab a, x < 26 := fun x hx => h6 _ q x (by simp [hx])
        obtain ⟨p1, p2, p3⟩ := trL.lab (lab := lab) ⟨l1, l2, l3, l4, l5⟩ h2 h0 (lab a) 1 (by omega) (by omega) hm hne
        rw [l1, List.nil_append] at p3
        have := l4 _ _ p1 p2 ha ha2 p3
        rw [this] at e
        exact e hz
    · simp only [va_up, if_neg e1]
      exact l5 i hi1 (by omega)
  · have := h5 u hu
    unfold wlk at this ⊢
    rw [fold_grow h0 hz u 1 this]
    exact this
theorem fold_end {nx : Nat → Nat → Nat} {a0 x : Nat} : ∀ (u : List Nat) (a : Nat), (∀ c ∈ u, c < 26) → u.foldl (up2n nx a0 26 x) a = u.foldl nx a
  | [], _, _ => rfl
  | c :: u, a, h => by
    rw [List.foldl_cons, List.foldl_cons, up2n_n (by have := h c List.mem_cons_self; omega)]
    exact fold_end u (nx a c) (fun y hy => h y (List.mem_cons_of_mem _ hy))
/-- a word ends -/
theorem trOK.fin {nx : Nat → Nat → Nat} {nd : Nat} {WL : List (List Nat)} (h : trOK nx nd WL) {u : List Nat} (hu : ∀ c ∈ u, c < 26) (hz : wlk nx u ≠ 0) : trOK (up2n nx (wlk nx u) 26 1) nd (WL ++ [u]) := by
  obtain ⟨h1, h2, h3, ⟨lab, l1, l2, l3, l4, l5⟩, h5, h6⟩ := h
  have h0 : ∀ b, nx 0 b = 0 := fun b => h3 0 b (Or.inl rfl)
  obtain ⟨p1, p2, p3⟩ := trL.lab (lab := lab) ⟨l1, l2, l3, l4, l5⟩ h2 h0 u 1 (by omega) (by omega) hu hz
  rw [l1, List.nil_append] at p3
  refine ⟨h1, fun i j => ?_, fun i j hij => ?_, ⟨lab, l1, ?_, ?_, l4, ?_⟩, fun w hw => ?_, fun w hw => ?_⟩
  · unfold up2n
    split
    · omega
    · exact h2 i j
  · rw [up2n_n (by show ¬ (i = wlk nx u ∧ j = 26); have : wlk nx u = u.foldl nx 1 := rfl; omega)]
    exact h3 i j hij
  · intro a ha1 ha2 c hc hne
    rw [up2n_n (by omega)] at hne ⊢
    exact l2 a ha1 ha2 c hc hne
  · intro b hb1 hb2
    obtain ⟨i, j, q1, q2, q3, q4⟩ := l3 b hb1 hb2
    exact ⟨i, j, q1, q2, q3, by rw [up2n_n (by omega)]; exact q4⟩
  · intro a ha1 ha2
    by_cases e : a = wlk nx u
    · rw [e, up2n_s, show lab (wlk nx u) = u from p3, if_pos (Or.inr (by simp))]
    · rw [up2n_n (by rintro ⟨q, -⟩; exact e q), l5 a ha1 ha2]
      have hn : lab a ≠ u := fun q => e (l4 a _ ha1 ha2 p1 p2 (q.trans p3.symm))
      simp [hn]
  · have hw26 : ∀ c ∈ w, c < 26 := by
      rcases List.mem_append.mp hw with q | q
      · exact h6 w q
      · rw [List.mem_singleton.mp q]; exact hu
    unfold wlk
    rw [fold_end w 1 hw26]
    rcases List.mem_append.mp hw with q | q
    · exact h5 w q
    · rw [List.mem_singleton.mp q]; exact hz
  · rcases List.mem_append.mp hw with q | q
    · exact h6 w q
    · rw [List.mem_singleton.mp q]; exact hu
def nx0 : Nat → Nat → Nat := fun a b => if a = 1 ∧ b = 26 then 1 else 0
theorem trOK_0 : trOK nx0 2 [] := by
  refine ⟨by omega, fun a b => ?_, fun a b h => ?_, ⟨fun _ => [], rfl, fun a h1 h2 c hc hn => ?_, fun b h1 h2 => by omega, fun a b h1 h2 h3 h4 _ => by omega, fun a h1 h2 => ?_⟩, fun u hu => absurd hu List.not_mem_nil, fun u hu => absurd hu List.not_mem_nil⟩
  · unfold nx0; split <;> omega
  · unfold nx0; rw [if_neg (by omega)]
  · exact absurd (by unfold nx0; rw [if_neg (by omega)]) hn
  · have : a = 1 := by omega
    subst this
    simp [nx0]
