/-! rows of strips: n strips lie, f tells which, t who is turned -/
def rowF (hi : mm_HI) (r n : Nat) (f : Nat → Nat) (t : Nat) : Prop := hi r 1 = nI n ∧ hi r 2 = nI t ∧ (∀ j, j < n → hi (r + 1) j = nI (f j)) ∧ n ≤ 6 ∧ (∀ j, j < n → f j < 6) ∧ t < 64
/-- nothing else changes -/
def fr (S : List Nat) (hi hi2 : mm_HI) : Prop := ∀ c, c ∉ S → hi2 c = hi c
def fnd (f : Nat → Nat) (s : Nat) : Nat → Option Nat
  | 0 => none
  | n + 1 => match fnd f s n with
    | some j => some j
    | none => if f n = s then some n else none
def plI (o : Option Nat) : Int32 := match o with
  | some j => nI j
  | none => -9
def numF (f : Nat → Nat) : Nat → Nat
  | 0 => 0
  | n + 1 => numF f n * 10 + f n + 1
def mskF (f : Nat → Nat) : Nat → Nat
  | 0 => 0
  | n + 1 => mskF f n ||| 2 ^ f n
def crr (p q j : Nat) : Nat := if j = q then p else if p ≤ j ∧ j < q then j + 1 else if q < j ∧ j ≤ p then j - 1 else j
def swpF (f : Nat → Nat) (p q : Nat) : Nat → Nat := fun j => if j = q then f p else if j = p then f q else f j
def stb (t s w : Nat) : Nat := if w = 0 then t - t / 2 ^ s % 2 * 2 ^ s else t - t / 2 ^ s % 2 * 2 ^ s + 2 ^ s
theorem bit_at : ∀ t, t < 64 → ∀ s, s < 6 → (nI t >>> (nI s &&& 31)) &&& 1 = nI (t / 2 ^ s % 2) := by decide +kernel
theorem bit_one : ∀ s, s < 6 → (1 : Int32) <<< (nI s &&& 31) = nI (2 ^ s) := by decide +kernel
theorem bit_or : ∀ t, t < 64 → ∀ s, s < 6 → nI t ||| nI (2 ^ s) = nI (t ||| 2 ^ s) := by decide +kernel
theorem bit_or_lt : ∀ t, t < 64 → ∀ s, s < 6 → t ||| 2 ^ s < 64 := by decide +kernel
theorem fnd_some {f : Nat → Nat} {s : Nat} : ∀ {n j : Nat}, fnd f s n = some j → j < n ∧ f j = s ∧ ∀ i, i < j → f i ≠ s
  | 0, _, h => by cases h
  | n + 1, j, h => by
    unfold fnd at h
    cases h1 : fnd f s n with
    | some k =>
      rw [h1] at h
      cases h
      obtain ⟨a, b, c⟩ := fnd_some h1
      exact ⟨by omega, b, c⟩
    | none =>
      rw [h1] at h
      by_cases h2 : f n = s
      · simp only [if_pos h2] at h
        cases h
        refine ⟨by omega, h2, fun i hi q => ?_⟩
        exact absurd h1 (by
          have : ∀ m, i < m → fnd f s m ≠ none := by
            intro m
            induction m with
            | zero => intro z; omega
            | succ m ih =>
              intro z
              unfold fnd
              cases h3 : fnd f s m with
              | some k => simp
              | none =>
                rcases Nat.lt_or_ge i m with w | w
                · exact absurd h3 (ih w)
                · have : i = m := by omega
                  subst this
                  simp [q]
          exact this n hi)
      · simp only [if_neg h2] at h
        cases h
theorem fnd_none {f : Nat → Nat} {s : Nat} : ∀ {n : Nat}, fnd f s n = none → ∀ i, i < n → f i ≠ s
  | 0, _, i, h => absurd h (Nat.not_lt_zero i)
  | n + 1, h, i, hi => by
    unfold fnd at h
    cases h1 : fnd f s n with
    | some k => rw [h1] at h; cases h
    | none =>
      rw [h1] at h
      by_cases h2 : f n = s
      · simp only [if_pos h2] at h; cases h
      · rcases Nat.lt_or_ge i n with w | w
        · exact fnd_none h1 i w
        · have : i = n := by omega
          subst this; exact h2
theorem fnd_of {f : Nat → Nat} {s : Nat} {n j : Nat} (hj : j < n) (h : f j = s) (hb : ∀ i, i < j → f i ≠ s) : fnd f s n = some j := by
  cases h1 : fnd f s n with
  | none => exact absurd h (fnd_none h1 j hj)
  | some k =>
    obtain ⟨a, b, c⟩ := fnd_some h1
    rcases Nat.lt_trichotomy j k with q | q | q
    · exact absurd h (c j q)
    · rw [q]
    · exact absurd b (hb k q)
theorem fnd_no {f : Nat → Nat} {s : Nat} {n : Nat} (h : ∀ i, i < n → f i ≠ s) : fnd f s n = none := by
  cases h1 : fnd f s n with
  | none => rfl
  | some k =>
    obtain ⟨a, b, c⟩ := fnd_some h1
    exact absurd b (h k a)
theorem numF_lt {f : Nat → Nat} : ∀ {n : Nat}, (∀ j, j < n → f j < 6) → n ≤ 6 → numF f n < 10 ^ n
  | 0, _, _ => by simp [numF]
  | n + 1, h, hn => by
    have ih := numF_lt (f := f) (n := n) (fun j hj => h j (by omega)) (by omega)
    have := h n (by omega)
    unfold numF
    rw [Nat.pow_succ]
    omega
theorem numF_small {f : Nat → Nat} {n : Nat} (h : ∀ j, j < n → f j < 6) (hn : n ≤ 6) : numF f n < 1000000 := by
  have a := numF_lt h hn
  have b : 10 ^ n ≤ 10 ^ 6 := Nat.pow_le_pow_right (by decide) hn
  omega
theorem mskF_lt {f : Nat → Nat} : ∀ {n : Nat}, (∀ j, j < n → f j < 6) → mskF f n < 64
  | 0, _ => by simp [mskF]
  | n + 1, h => bit_or_lt _ (mskF_lt fun j hj => h j (by omega)) _ (h n (by omega))
theorem row_ne {r q : Nat} (hr : mm_lay r = (0, 6)) (hq : mm_lay q = (0, 6)) : r ≠ q + 1 ∧ r + 1 ≠ q := by
  have a := ly_6_0 hr
  have b := ly_6_0 hq
  constructor
  · intro e; rw [e, b] at hr; cases hr
  · intro e; rw [e, hq] at a; cases a
theorem stb_put : ∀ t, t < 64 → ∀ s, s < 6 → ∀ w, w < 2 → (nI t &&& ((1 : Int32) <<< (nI s &&& 31) ^^^ (-1))) ||| (nI w <<< (nI s &&& 31)) = nI (stb t s w) ∧ stb t s w < 64 := by decide +kernel
theorem nI_ne9 {p : Nat} (h : p < 2 ^ 31) : nI p ≠ -9 := by
  intro q
  have := congrArg Int32.toInt q
  rw [nI_toInt h] at this
  have e : (-9 : Int32).toInt = -9 := by decide
  omega
theorem abs_n {a : Nat} (h : a < 2 ^ 31) : (if 0 ≤ nI a then nI a else 0 - nI a) = nI a := if_pos (nI_pos' h)
theorem abs_s : ∀ p, p < 6 → ∀ q, q < 6 → q ≤ p → (if 0 ≤ nI q - nI p then nI q - nI p else 0 - (nI q - nI p)) = nI (p - q) := by decide +kernel
theorem mul_m : ∀ p, p < 6 → ∀ k, k < 7 → k ≤ p → nI p + nI k * (-1) = nI (p - k) := by decide +kernel
theorem swp_ix (g : Nat → Nat) (a b j : Nat) : swpF g a b j = g (if j = b then a else if j = a then b else j) := by
  unfold swpF
  repeat' split
  all_goals rfl
theorem crr_up (f : Nat → Nat) {p k : Nat} : swpF (fun j => f (crr p (p + k) j)) (p + k) (p + k + 1) = fun j => f (crr p (p + k + 1) j) := by
  funext j
  rw [swp_ix]
  show f _ = f _
  congr 1
  by_cases h1 : j = p + k + 1
  · rw [if_pos h1]; unfold crr; repeat' split
    all_goals omega
  · rw [if_neg h1]
    by_cases h2 : j = p + k
    · rw [if_pos h2]; unfold crr; repeat' split
      all_goals omega
    · rw [if_neg h2]; unfold crr; repeat' split
      all_goals omega
theorem crr_dn (f : Nat → Nat) {p k : Nat} (h : k + 1 ≤ p) : swpF (fun j => f (crr p (p - k) j)) (p - k) (p - (k + 1)) = fun j => f (crr p (p - (k + 1)) j) := by
  funext j
  rw [swp_ix]
  show f _ = f _
  congr 1
  by_cases h1 : j = p - (k + 1)
  · rw [if_pos h1]; unfold crr; repeat' split
    all_goals omega
  · rw [if_neg h1]
    by_cases h2 : j = p - k
    · rw [if_pos h2]; unfold crr; repeat' split
      all_goals omega
    · rw [if_neg h2]; unfold crr; repeat' split
      all_goals omega
theorem crr_0 (f : Nat → Nat) (p : Nat) : (fun j => f (crr p p j)) = f := by
  funext j
  simp only [crr]
  repeat' split
  all_goals first | rfl | (exfalso; omega) | (congr 1; omega)
theorem crr_lt {p q n j : Nat} (hp : p < n) (hq : q < n) (hj : j < n) : crr p q j < n := by
  unfold crr
  repeat' split
  all_goals omega
theorem fr.trans {S : List Nat} {a b c : mm_HI} (h : fr S a b) (g : fr S b c) : fr S a c := fun x hx => (g x hx).trans (h x hx)
theorem fr.rf {S : List Nat} {a : mm_HI} : fr S a a := fun _ _ => rfl
