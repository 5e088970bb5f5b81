/-! the text, its tokens -/
def tok (c : Nat) : Nat := if (97 ≤ c ∧ c ≤ 122) ∨ c = 46 then 1 else if 48 ≤ c ∧ c ≤ 57 then 2 else if c = 59 then 3 else 4
def cod (c : Nat) : Nat := if c = 46 then 26 else c - 97
def scq (c : Nat → Bool) (N : Nat) : Nat → Nat → Nat
  | 0, p => p
  | m + 1, p => if p < N ∧ c p = true then scq c N m (p + 1) else p
/-- the first place from p on, below N, where c fails (N: none) -/
def scn (c : Nat → Bool) (N p : Nat) : Nat := scq c N (N - p) p
theorem scn_t {c : Nat → Bool} {N p : Nat} (h : p < N) (h2 : c p = true) : scn c N p = scn c N (p + 1) := by
  unfold scn
  rw [show N - p = (N - (p + 1)) + 1 by omega]
  show (if p < N ∧ c p = true then _ else _) = _
  rw [if_pos ⟨h, h2⟩]
theorem scn_f {c : Nat → Bool} {N p : Nat} (h : ¬ (p < N ∧ c p = true)) : scn c N p = p := by
  unfold scn
  cases hm : N - p with
  | zero => rfl
  | succ m => exact if_neg h
theorem scn_spec (c : Nat → Bool) (N : Nat) : ∀ (m p : Nat), N - p = m → p ≤ N → p ≤ scn c N p ∧ scn c N p ≤ N ∧ (scn c N p < N → c (scn c N p) = false) ∧ ∀ j, p ≤ j → j < scn c N p → c j = true
  | 0, p, hm, hp => by
    have : p = N := by omega
    subst this
    rw [scn_f (by omega)]
    exact ⟨Nat.le_refl _, Nat.le_refl _, fun h => by omega, fun j h1 h2 => by omega⟩
  | m + 1, p, hm, hp => by
    by_cases h : c p = true
    · obtain ⟨a1, a2, a3, a4⟩ := scn_spec c N m (p + 1) (by omega) (by omega)
      rw [scn_t (by omega) h]
      refine ⟨by omega, a2, a3, fun j h1 h2 => ?_⟩
      by_cases q : j = p
      · subst q; exact h
      · exact a4 j (by omega) h2
    · rw [scn_f (by rintro ⟨-, q⟩; exact h q)]
      exact ⟨Nat.le_refl _, hp, fun _ => by simpa using h, fun j h1 h2 => by omega⟩
theorem scn_le {c : Nat → Bool} {N p : Nat} (h : p ≤ N) : p ≤ scn c N p ∧ scn c N p ≤ N := ⟨(scn_spec c N _ p rfl h).1, (scn_spec c N _ p rfl h).2.1⟩
abbrev skp (b : Nat → Nat) (N p : Nat) : Nat := scn (fun j => b j == 32) N p
abbrev ren (b : Nat → Nat) (N k p : Nat) : Nat := scn (fun j => tok (b j) == k) N p
def tkn (b : Nat → Nat) (N q : Nat) : Nat := if q < N then tok (b q) else 0
def tke (b : Nat → Nat) (N q : Nat) : Nat := if q < N then (if tok (b q) = 1 ∨ tok (b q) = 2 then ren b N (tok (b q)) (q + 1) else q + 1) else q
def txF (hi : mm_HI) (b : Nat → Nat) (N : Nat) : Prop := hi 1 0 = nI N ∧ N ≤ 150 ∧ (∀ j, j < N → hi 2 j = nI (b j)) ∧ ∀ j, b j ≤ 255
theorem txF.keep {x y : mm_HI} {b : Nat → Nat} {N : Nat} (h : txF x b N) (h1 : y 1 0 = x 1 0) (h2 : y 2 = x 2) : txF y b N := ⟨by rw [h1]; exact h.1, h.2.1, fun j hj => by rw [h2]; exact h.2.2.1 j hj, h.2.2.2⟩
/-- the reader stands at the token that begins at q -/
def rdr (hi : mm_HI) (b : Nat → Nat) (N q : Nat) : Prop := txF hi b N ∧ hi 1 2 = nI q ∧ hi 1 3 = nI (tke b N q) ∧ hi 1 4 = nI (tkn b N q) ∧ q ≤ N
theorem rdr.keep {x y : mm_HI} {b : Nat → Nat} {N q : Nat} (h : rdr x b N q) (h1 : y 1 = x 1) (h2 : y 2 = x 2) : rdr y b N q := ⟨h.1.keep (by rw [h1]) h2, by rw [h1]; exact h.2.1, by rw [h1]; exact h.2.2.1, by rw [h1]; exact h.2.2.2.1, h.2.2.2.2⟩
theorem tok_bd (c : Nat) : 1 ≤ tok c ∧ tok c ≤ 4 := by
  unfold tok
  repeat' split
  all_goals omega
theorem tke_le {b : Nat → Nat} {N q : Nat} (h : q ≤ N) : q ≤ tke b N q ∧ tke b N q ≤ N ∧ (q < N → q < tke b N q) := by
  unfold tke
  by_cases h1 : q < N
  · rw [if_pos h1]
    split
    · obtain ⟨z1, z2⟩ := scn_le (c := fun j => tok (b j) == tok (b q)) (N := N) (p := q + 1) (by omega)
      refine ⟨?_, z2, fun _ => ?_⟩
      · show q ≤ scn (fun j => tok (b j) == tok (b q)) N (q + 1); omega
      · show q < scn (fun j => tok (b j) == tok (b q)) N (q + 1); omega
    · exact ⟨by omega, by omega, fun _ => by omega⟩
  · rw [if_neg h1]
    exact ⟨by omega, h, fun q => absurd q h1⟩
theorem tke_3 {b : Nat → Nat} {N z : Nat} (h : tkn b N z = 3) : tke b N z = z + 1 := by
  unfold tkn at h
  by_cases h9 : z < N
  · rw [if_pos h9] at h
    unfold tke
    rw [if_pos h9, if_neg (by omega)]
  · rw [if_neg h9] at h
    cases h
theorem skp_n {b : Nat → Nat} {N p : Nat} (h : p ≤ N) (h2 : skp b N p < N) : b (skp b N p) ≠ 32 := by
  have := (scn_spec (fun j => b j == 32) N _ p rfl h).2.2.1 h2
  simpa using this
set_option maxHeartbeats 2000000 in
theorem s_X8_tokenOf {d : Nat} (hd : 1 ≤ d) {hi : mm_HI} {τ : mm_T} {c : Nat} (hc : c ≤ 255) : wE d yX8_tokenOf [.int (nI c)] hi τ (nI (tok c)) := by
  refine w_intro (by omega) M_X8_tokenOf (Nat.le_of_ble_eq_true rfl) rfl ?_
  intro e X he G
  show X 0 [some (.int (nI (c)))] [] hi τ 125
  refine q_iload_n G (pc := 0) dX8_tokenOf_0 rfl ?_
  refine q_bipush (v := nI 97) G (pc := 1) dX8_tokenOf_1 (by decide) ?_
  refine q_icmp_ltN (tgt := 12) G (pc := 3) dX8_tokenOf_3 (by decide) (by omega) (by omega) (fun c3 => ?_) (fun c3 => ?_)
  · refine q_iload_n G (pc := 12) dX8_tokenOf_12 rfl ?_
    refine q_bipush (v := nI 46) G (pc := 13) dX8_tokenOf_13 (by decide) ?_
    refine q_icmp_neN (tgt := 20) G (pc := 15) dX8_tokenOf_15 (by decide) (by omega) (by omega) (fun c15 => ?_) (fun c15 => ?_)
    · refine q_iload_n G (pc := 20) dX8_tokenOf_20 rfl ?_
      refine q_bipush (v := nI 48) G (pc := 21) dX8_tokenOf_21 (by decide) ?_
      refine q_icmp_ltN (tgt := 34) G (pc := 23) dX8_tokenOf_23 (by decide) (by omega) (by omega) (fun c23 => ?_) (fun c23 => ?_)
      · refine q_iload_n G (pc := 34) dX8_tokenOf_34 rfl ?_
        refine q_bipush (v := nI 59) G (pc := 35) dX8_tokenOf_35 (by decide) ?_
        refine q_icmp_neN (tgt := 44) G (pc := 37) dX8_tokenOf_37 (by decide) (by omega) (by omega) (fun c37 => ?_) (fun c37 => ?_)
        · refine q_iconst (v := nI 4) G (pc := 44) dX8_tokenOf_44 (by decide) ?_
          refine q_iret G (pc := 45) dX8_tokenOf_45 (Or.inl rfl) ?_
          have e1 : tok c = 4 := by
            unfold tok
            repeat' split
            all_goals omega
          exact ⟨rfl, rfl, by rw [e1]⟩
        · refine q_iconst (v := nI 3) G (pc := 40) dX8_tokenOf_40 (by decide) ?_
          refine q_goto (tgt := 45) G (pc := 41) dX8_tokenOf_41 (by decide) ?_
          refine q_iret G (pc := 45) dX8_tokenOf_45 (Or.inl rfl) ?_
          have e1 : tok c = 3 := by
            unfold tok
            repeat' split
            all_goals omega
          exact ⟨rfl, rfl, by rw [e1]⟩
      · refine q_iload_n G (pc := 26) dX8_tokenOf_26 rfl ?_
        refine q_bipush (v := nI 57) G (pc := 27) dX8_tokenOf_27 (by decide) ?_
        refine q_icmp_gtN (tgt := 34) G (pc := 29) dX8_tokenOf_29 (by decide) (by omega) (by omega) (fun c29 => ?_) (fun c29 => ?_)
        · refine q_iload_n G (pc := 34) dX8_tokenOf_34 rfl ?_
          refine q_bipush (v := nI 59) G (pc := 35) dX8_tokenOf_35 (by decide) ?_
          refine q_icmp_neN (tgt := 44) G (pc := 37) dX8_tokenOf_37 (by decide) (by omega) (by omega) (fun c37 => ?_) (fun c37 => ?_)
          · refine q_iconst (v := nI 4) G (pc := 44) dX8_tokenOf_44 (by decide) ?_
            refine q_iret G (pc := 45) dX8_tokenOf_45 (Or.inl rfl) ?_
            have e1 : tok c = 4 := by
              unfold tok
              repeat' split
              all_goals omega
            exact ⟨rfl, rfl, by rw [e1]⟩
          · refine q_iconst (v := nI 3) G (pc := 40) dX8_tokenOf_40 (by decide) ?_
            refine q_goto (tgt := 45) G (pc := 41) dX8_tokenOf_41 (by decide) ?_
            refine q_iret G (pc := 45) dX8_tokenOf_45 (Or.inl rfl) ?_
            have e1 : tok c = 3 := by
              unfold tok
              repeat' split
              all_goals omega
            exact ⟨rfl, rfl, by rw [e1]⟩
        · refine q_iconst (v := nI 2) G (pc := 32) dX8_tokenOf_32 (by decide) ?_
          refine q_iret G (pc := 33) dX8_tokenOf_33 (Or.inl rfl) ?_
          have e1 : tok c = 2 := by
            unfold tok
            repeat' split
            all_goals omega
          exact ⟨rfl, rfl, by rw [e1]⟩
    · refine q_iconst (v := nI 1) G (pc := 18) dX8_tokenOf_18 (by decide) ?_
      refine q_iret G (pc := 19) dX8_tokenOf_19 (Or.inl rfl) ?_
      have e1 : tok c = 1 := by
        unfold tok
        repeat' split
        all_goals omega
      exact ⟨rfl, rfl, by rw [e1]⟩
  · refine q_iload_n G (pc := 6) dX8_tokenOf_6 rfl ?_
    refine q_bipush (v := nI 122) G (pc := 7) dX8_tokenOf_7 (by decide) ?_
    refine q_icmp_leN (tgt := 18) G (pc := 9) dX8_tokenOf_9 (by decide) (by omega) (by omega) (fun c9 => ?_) (fun c9 => ?_)
    · refine q_iconst (v := nI 1) G (pc := 18) dX8_tokenOf_18 (by decide) ?_
      refine q_iret G (pc := 19) dX8_tokenOf_19 (Or.inl rfl) ?_
      have e1 : tok c = 1 := by
        unfold tok
        repeat' split
        all_goals omega
      exact ⟨rfl, rfl, by rw [e1]⟩
    · refine q_iload_n G (pc := 12) dX8_tokenOf_12 rfl ?_
      refine q_bipush (v := nI 46) G (pc := 13) dX8_tokenOf_13 (by decide) ?_
      refine q_icmp_neN (tgt := 20) G (pc := 15) dX8_tokenOf_15 (by decide) (by omega) (by omega) (fun c15 => ?_) (fun c15 => ?_)
      · refine q_iload_n G (pc := 20) dX8_tokenOf_20 rfl ?_
        refine q_bipush (v := nI 48) G (pc := 21) dX8_tokenOf_21 (by decide) ?_
        refine q_icmp_ltN (tgt := 34) G (pc := 23) dX8_tokenOf_23 (by decide) (by omega) (by omega) (fun c23 => ?_) (fun c23 => ?_)
        · refine q_iload_n G (pc := 34) dX8_tokenOf_34 rfl ?_
          refine q_bipush (v := nI 59) G (pc := 35) dX8_tokenOf_35 (by decide) ?_
          refine q_icmp_neN (tgt := 44) G (pc := 37) dX8_tokenOf_37 (by decide) (by omega) (by omega) (fun c37 => ?_) (fun c37 => ?_)
          · refine q_iconst (v := nI 4) G (pc := 44) dX8_tokenOf_44 (by decide) ?_
            refine q_iret G (pc := 45) dX8_tokenOf_45 (Or.inl rfl) ?_
            have e1 : tok c = 4 := by
              unfold tok
              repeat' split
              all_goals omega
            exact ⟨rfl, rfl, by rw [e1]⟩
          · refine q_iconst (v := nI 3) G (pc := 40) dX8_tokenOf_40 (by decide) ?_
            refine q_goto (tgt := 45) G (pc := 41) dX8_tokenOf_41 (by decide) ?_
            refine q_iret G (pc := 45) dX8_tokenOf_45 (Or.inl rfl) ?_
            have e1 : tok c = 3 := by
              unfold tok
              repeat' split
              all_goals omega
            exact ⟨rfl, rfl, by rw [e1]⟩
        · refine q_iload_n G (pc := 26) dX8_tokenOf_26 rfl ?_
          refine q_bipush (v := nI 57) G (pc := 27) dX8_tokenOf_27 (by decide) ?_
          refine q_icmp_gtN (tgt := 34) G (pc := 29) dX8_tokenOf_29 (by decide) (by omega) (by omega) (fun c29 => ?_) (fun c29 => ?_)
          · refine q_iload_n G (pc := 34) dX8_tokenOf_34 rfl ?_
            refine q_bipush (v := nI 59) G (pc := 35) dX8_tokenOf_35 (by decide) ?_
            refine q_icmp_neN (tgt := 44) G (pc := 37) dX8_tokenOf_37 (by decide) (by omega) (by omega) (fun c37 => ?_) (fun c37 => ?_)
            · refine q_iconst (v := nI 4) G (pc := 44) dX8_tokenOf_44 (by decide) ?_
              refine q_iret G (pc := 45) dX8_tokenOf_45 (Or.inl rfl) ?_
              have e1 : tok c = 4 := by
                unfold tok
                repeat' split
                all_goals omega
              exact ⟨rfl, rfl, by rw [e1]⟩
            · refine q_iconst (v := nI 3) G (pc := 40) dX8_tokenOf_40 (by decide) ?_
              refine q_goto (tgt := 45) G (pc := 41) dX8_tokenOf_41 (by decide) ?_
              refine q_iret G (pc := 45) dX8_tokenOf_45 (Or.inl rfl) ?_
              have e1 : tok c = 3 := by
                unfold tok
                repeat' split
                all_goals omega
              exact ⟨rfl, rfl, by rw [e1]⟩
          · refine q_iconst (v := nI 2) G (pc := 32) dX8_tokenOf_32 (by decide) ?_
            refine q_iret G (pc := 33) dX8_tokenOf_33 (Or.inl rfl) ?_
            have e1 : tok c = 2 := by
              unfold tok
              repeat' split
              all_goals omega
            exact ⟨rfl, rfl, by rw [e1]⟩
      · refine q_iconst (v := nI 1) G (pc := 18) dX8_tokenOf_18 (by decide) ?_
        refine q_iret G (pc := 19) dX8_tokenOf_19 (Or.inl rfl) ?_
        have e1 : tok c = 1 := by
          unfold tok
          repeat' split
          all_goals omega
        exact ⟨rfl, rfl, by rw [e1]⟩
set_option maxHeartbeats 2000000 in
theorem s_X8_signOf {d : Nat} (hd : 1 ≤ d) {hi : mm_HI} {τ : mm_T} {c : Nat} (hc : tok c = 1) : wE d yX8_signOf [.int (nI c)] hi τ (nI (cod c)) := by
  refine w_intro (by omega) M_X8_signOf (Nat.le_of_ble_eq_true rfl) rfl ?_
  intro e X he G
  show X 0 [some (.int (nI (c)))] [] hi τ 125
  have hc2 : (97 ≤ c ∧ c ≤ 122) ∨ c = 46 := by
    unfold tok at hc
    split at hc
    · assumption
    · split at hc
      · cases hc
      · split at hc <;> cases hc
  have hc3 : c ≤ 255 := by omega
  refine q_iload_n G (pc := 0) dX8_signOf_0 rfl ?_
  refine q_bipush (v := nI 46) G (pc := 1) dX8_signOf_1 (by decide) ?_
  refine q_icmp_neN (tgt := 11) G (pc := 3) dX8_signOf_3 (by decide) (by omega) (by omega) (fun c3 => ?_) (fun c3 => ?_)
  · refine q_iload_n G (pc := 11) dX8_signOf_11 rfl ?_
    refine q_bipush (v := nI 97) G (pc := 12) dX8_signOf_12 (by decide) ?_
    refine q_isubN G (pc := 14) dX8_signOf_14 (by omega) ?_
    refine q_iret G (pc := 15) dX8_signOf_15 (Or.inl rfl) ?_
    exact ⟨rfl, rfl, by unfold cod; rw [if_neg c3]⟩
  · refine q_bipush (v := nI 26) G (pc := 6) dX8_signOf_6 (by decide) ?_
    refine q_goto (tgt := 15) G (pc := 8) dX8_signOf_8 (by decide) ?_
    refine q_iret G (pc := 15) dX8_signOf_15 (Or.inl rfl) ?_
    exact ⟨rfl, rfl, by unfold cod; rw [if_pos c3]⟩
set_option maxHeartbeats 2000000 in
theorem s_X8_append {d : Nat} (hd : 1 ≤ d) {hi : mm_HI} {τ : mm_T} {sw : Bool} (hτ : τ.1 = mm_hr sw) {b : Nat → Nat} {N c : Nat} (hF : txF hi b N) (hc : c ≤ 255) : wI d yX8_append [.ref 1, .int (nI c)] hi τ (fun x h => (x = nI 0 ∧ N = 150 ∧ h = hi) ∨ (x = nI 1 ∧ N < 150 ∧ txF h (va_up b N c) (N + 1) ∧ fr [1, 2] hi h ∧ ∀ k, k ≠ 0 → h 1 k = hi 1 k)) := by
  refine w_intro (by omega) M_X8_append (Nat.le_of_ble_eq_true rfl) rfl ?_
  intro e X he G
  show X 0 [some (.ref (1)), some (.int (nI (c)))] [] hi τ 125
  obtain ⟨f1, f2, f3, f4⟩ := id hF
  refine q_aload_n G (pc := 0) dX8_append_0 rfl ?_
  refine q_getI (v := nI (N)) G (pc := 1) dX8_append_1 fl_X8_15_8 (by decide) rfl f1 ?_
  refine q_sipush (v := nI 150) G (pc := 4) dX8_append_4 (by decide) ?_
  refine q_icmp_ltN (tgt := 12) G (pc := 7) dX8_append_7 (by decide) (by omega) (by omega) (fun c7 => ?_) (fun c7 => ?_)
  · refine q_aload_n G (pc := 12) dX8_append_12 rfl ?_
    refine q_getR (x := 2) G (pc := 13) dX8_append_13 fl_X8_9_8 rfl (hg hτ (hf_8_1 rfl)) ?_
    refine q_aload_n G (pc := 16) dX8_append_16 rfl ?_
    refine q_getI (v := nI (N)) G (pc := 17) dX8_append_17 fl_X8_15_8 (by decide) rfl f1 ?_
    refine q_iload_n G (pc := 20) dX8_append_20 rfl ?_
    refine q_iast (j := N) G (pc := 21) dX8_append_21 rfl rfl (by omega) ?_
    refine q_aload_n G (pc := 22) dX8_append_22 rfl ?_
    refine q_dup G (pc := 23) dX8_append_23 rfl ?_
    refine q_getI (v := nI (N)) G (pc := 24) dX8_append_24 fl_X8_15_8 (by decide) rfl (by simp [va_up, f1]) ?_
    refine q_iconst (v := nI 1) G (pc := 27) dX8_append_27 (by decide) ?_
    refine q_iaddN G (pc := 28) dX8_append_28 ?_
    refine q_putI G (pc := 29) dX8_append_29 fl_X8_15_8 rfl ?_
    refine q_iconst (v := nI 1) G (pc := 32) dX8_append_32 (by decide) ?_
    refine q_iret G (pc := 33) dX8_append_33 (Or.inr ⟨rfl, by decide⟩) ?_
    refine ⟨rfl, _, rfl, Or.inr ⟨rfl, c7, ⟨by simp [va_up], by omega, fun j hj => ?_, fun j => ?_⟩, fun z hz => by simp at hz; simp [va_up, hz], fun k hk => by simp [va_up, hk]⟩⟩
    · by_cases q : j = N
      · subst q; simp [va_up]
      · simp [va_up, q]; exact f3 j (by omega)
    · by_cases q : j = N
      · subst q; simp [va_up]; exact hc
      · simp [va_up, q]; exact f4 j
  · refine q_iconst (v := nI 0) G (pc := 10) dX8_append_10 (by decide) ?_
    refine q_iret G (pc := 11) dX8_append_11 (Or.inr ⟨rfl, by decide⟩) ?_
    exact ⟨rfl, _, rfl, Or.inl ⟨rfl, by omega, rfl⟩⟩
set_option maxHeartbeats 2000000 in
theorem s_X8_wipe {d : Nat} (hd : 1 ≤ d) {hi : mm_HI} {τ : mm_T} {N : Nat} (hN : hi 1 0 = nI N) : wI d yX8_wipe [.ref 1] hi τ (fun x h => x = nI N ∧ h = mm_up2 hi 1 0 (nI 0)) := by
  refine w_intro (by omega) M_X8_wipe (Nat.le_of_ble_eq_true rfl) rfl ?_
  intro e X he G
  show X 0 [some (.ref (1)), none] [] hi τ 125
  refine q_aload_n G (pc := 0) dX8_wipe_0 rfl ?_
  refine q_getI (v := nI (N)) G (pc := 1) dX8_wipe_1 fl_X8_15_8 (by decide) rfl hN ?_
  refine q_istore_n G (pc := 4) dX8_wipe_4 (by decide) ?_
  show X _ [_, _] _ _ _ _
  refine q_aload_n G (pc := 5) dX8_wipe_5 rfl ?_
  refine q_iconst (v := nI 0) G (pc := 6) dX8_wipe_6 (by decide) ?_
  refine q_putI G (pc := 7) dX8_wipe_7 fl_X8_15_8 rfl ?_
  refine q_iload_n G (pc := 10) dX8_wipe_10 rfl ?_
  refine q_iret G (pc := 11) dX8_wipe_11 (Or.inl rfl) ?_
  exact ⟨rfl, _, rfl, rfl, rfl⟩
set_option maxHeartbeats 2000000 in
theorem s_X8_advance {d : Nat} (hd : 2 ≤ d) {hi : mm_HI} {τ : mm_T} {sw : Bool} (hτ : τ.1 = mm_hr sw) {b : Nat → Nat} {N p : Nat} (hF : txF hi b N) (hto : hi 1 3 = nI p) (hp : p ≤ N) : wV d yX8_advance [.ref 1] hi τ (fun h => rdr h b N (skp b N p) ∧ fr [1] hi h) := by
  refine w_intro (by omega) M_X8_advance (Nat.le_of_ble_eq_true rfl) rfl ?_
  intro e X he G
  show X 0 [some (.ref (1)), none] [] hi τ 125
  have hN := hF.2.1
  refine q_aload_n G (pc := 0) dX8_advance_0 rfl ?_
  refine q_aload_n G (pc := 1) dX8_advance_1 rfl ?_
  refine q_getI (v := nI (p)) G (pc := 2) dX8_advance_2 fl_X8_24_8 (by decide) rfl hto ?_
  refine q_putI G (pc := 5) dX8_advance_5 fl_X8_37_8 rfl ?_
  have L8 : ∀ (zz : Nat) (i : Nat) (hk : mm_HI) (v1 : Option Value), N - i < zz → i ≤ N → skp b N p = skp b N i → txF hk b N → hk 1 2 = nI i → fr [1] hi hk → X 8 [some (.ref (1)), v1] [] hk τ 125 := by
    intro zz
    induction zz with
    | zero => intro i hk v1 hm; exact absurd hm (Nat.not_lt_zero _)
    | succ zz ih8 =>
      intro i hk v1 hm h0 h1s g1 g2 g3
      refine q_aload_n G (pc := 8) dX8_advance_8 rfl ?_
      refine q_getI (v := nI (i)) G (pc := 9) dX8_advance_9 fl_X8_37_8 (by decide) rfl g2 ?_
      refine q_aload_n G (pc := 12) dX8_advance_12 rfl ?_
      refine q_getI (v := nI (N)) G (pc := 13) dX8_advance_13 fl_X8_15_8 (by decide) rfl g1.1 ?_
      refine q_icmp_geN (tgt := 46) G (pc := 16) dX8_advance_16 (by decide) (by omega) (by omega) (fun c16 => ?_) (fun c16 => ?_)
      · have hsk : skp b N p = i := by rw [h1s]; exact scn_f (by omega)
        refine q_aload_n G (pc := 46) dX8_advance_46 rfl ?_
        refine q_aload_n G (pc := 47) dX8_advance_47 rfl ?_
        refine q_getI (v := nI (i)) G (pc := 48) dX8_advance_48 fl_X8_37_8 (by decide) rfl g2 ?_
        refine q_putI G (pc := 51) dX8_advance_51 fl_X8_24_8 rfl ?_
        refine q_aload_n G (pc := 54) dX8_advance_54 rfl ?_
        refine q_getI (v := nI (i)) G (pc := 55) dX8_advance_55 fl_X8_37_8 (by decide) rfl (by simp [va_up, g2]) ?_
        refine q_aload_n G (pc := 58) dX8_advance_58 rfl ?_
        refine q_getI (v := nI (N)) G (pc := 59) dX8_advance_59 fl_X8_15_8 (by decide) rfl (by simp [va_up, g1.1]) ?_
        refine q_icmp_ltN (tgt := 71) G (pc := 62) dX8_advance_62 (by decide) (by omega) (by omega) (fun c62 => ?_) (fun c62 => ?_)
        · refine q_aload_n G (pc := 71) dX8_advance_71 rfl ?_
          refine q_aload_n G (pc := 72) dX8_advance_72 rfl ?_
          refine q_getR (x := 2) G (pc := 73) dX8_advance_73 fl_X8_9_8 rfl (hg hτ (hf_8_1 rfl)) ?_
          refine q_aload_n G (pc := 76) dX8_advance_76 rfl ?_
          refine q_getI (v := nI (i)) G (pc := 77) dX8_advance_77 fl_X8_37_8 (by decide) rfl (by simp [va_up, g2]) ?_
          refine q_iald (j := i) (v := nI (b i)) G (pc := 80) dX8_advance_80 rfl rfl (by omega) (by simp [va_up]; exact g1.2.2.1 i (by omega)) ?_
          have hb := g1.2.2.2 i
          have htb := tok_bd (b i)
          refine q_cS1E G (pc := 81) dX8_advance_81 cs_X8_79 (s_X8_tokenOf (by omega) (g1.2.2.2 i)) (Nat.le_of_ble_eq_true rfl) ?_
          refine q_putI G (pc := 84) dX8_advance_84 fl_X8_30_8 rfl ?_
          refine q_aload_n G (pc := 87) dX8_advance_87 rfl ?_
          refine q_aload_n G (pc := 88) dX8_advance_88 rfl ?_
          refine q_getI (v := nI (i)) G (pc := 89) dX8_advance_89 fl_X8_37_8 (by decide) rfl (by simp [va_up, g2]) ?_
          refine q_iconst (v := nI 1) G (pc := 92) dX8_advance_92 (by decide) ?_
          refine q_iaddN G (pc := 93) dX8_advance_93 ?_
          refine q_putI G (pc := 94) dX8_advance_94 fl_X8_24_8 rfl ?_
          refine q_aload_n G (pc := 97) dX8_advance_97 rfl ?_
          refine q_getI (v := nI (tok (b i))) G (pc := 98) dX8_advance_98 fl_X8_30_8 (by decide) rfl (by simp [va_up]) ?_
          refine q_iconst (v := nI 1) G (pc := 101) dX8_advance_101 (by decide) ?_
          refine q_icmp_eqN (tgt := 113) G (pc := 102) dX8_advance_102 (by decide) (by omega) (by omega) (fun c102 => ?_) (fun c102 => ?_)
          · refine q_iconst (v := nI 1) G (pc := 113) dX8_advance_113 (by decide) ?_
            refine q_goto (tgt := 118) G (pc := 114) dX8_advance_114 (by decide) ?_
            refine q_istore_n G (pc := 118) dX8_advance_118 (by decide) ?_
            show X _ [_, _] _ _ _ _
            have L119 : ∀ (zz : Nat) (j : Nat) (hj : mm_HI), N - j < zz → j ≤ N → txF hj b N → hj 1 2 = nI i → hj 1 3 = nI j → hj 1 4 = nI (tok (b i)) → fr [1] hi hj → ren b N (tok (b i)) (i + 1) = ren b N (tok (b i)) j → X 119 [some (.ref (1)), some (.int (nI (1)))] [] hj τ 125 := by
              intro zz
              induction zz with
              | zero => intro j hj hm; exact absurd hm (Nat.not_lt_zero _)
              | succ zz ih119 =>
                intro j hj hm h9 k1 k2 k3 k4 k5 k6
                refine q_iload_n G (pc := 119) dX8_advance_119 rfl ?_
                refine q_if_eqN (tgt := 166) G (pc := 120) dX8_advance_120 (by decide) (by omega) (fun c120 => absurd c120 (by decide)) (fun _ => ?_)
                refine q_aload_n G (pc := 123) dX8_advance_123 rfl ?_
                refine q_getI (v := nI (j)) G (pc := 124) dX8_advance_124 fl_X8_24_8 (by decide) rfl k3 ?_
                refine q_aload_n G (pc := 127) dX8_advance_127 rfl ?_
                refine q_getI (v := nI (N)) G (pc := 128) dX8_advance_128 fl_X8_15_8 (by decide) rfl k1.1 ?_
                refine q_icmp_geN (tgt := 166) G (pc := 131) dX8_advance_131 (by decide) (by omega) (by omega) (fun c131 => ?_) (fun c131 => ?_)
                · have hre : ren b N (tok (b i)) (i + 1) = j := by rw [k6]; exact scn_f (by omega)
                  refine q_vret G (pc := 166) dX8_advance_166 rfl ?_
                  refine ⟨rfl, rfl, ?_, k5⟩
                  rw [hsk]
                  have e1 : tkn b N i = tok (b i) := if_pos (by omega)
                  have e2 : tke b N i = j := by unfold tke; rw [if_pos (by omega), if_pos (by omega)]; exact hre
                  exact ⟨k1, k2, by rw [e2]; exact k3, by rw [e1]; exact k4, by omega⟩
                · refine q_aload_n G (pc := 134) dX8_advance_134 rfl ?_
                  refine q_getR (x := 2) G (pc := 135) dX8_advance_135 fl_X8_9_8 rfl (hg hτ (hf_8_1 rfl)) ?_
                  refine q_aload_n G (pc := 138) dX8_advance_138 rfl ?_
                  refine q_getI (v := nI (j)) G (pc := 139) dX8_advance_139 fl_X8_24_8 (by decide) rfl k3 ?_
                  refine q_iald (j := j) (v := nI (b j)) G (pc := 142) dX8_advance_142 rfl rfl (by omega) (k1.2.2.1 j (by omega)) ?_
                  have hbj := tok_bd (b j)
                  refine q_cS1E G (pc := 143) dX8_advance_143 cs_X8_79 (s_X8_tokenOf (by omega) (k1.2.2.2 j)) (Nat.le_of_ble_eq_true rfl) ?_
                  refine q_aload_n G (pc := 146) dX8_advance_146 rfl ?_
                  refine q_getI (v := nI (tok (b i))) G (pc := 147) dX8_advance_147 fl_X8_30_8 (by decide) rfl k4 ?_
                  refine q_icmp_neN (tgt := 166) G (pc := 150) dX8_advance_150 (by decide) (by omega) (by omega) (fun c150 => ?_) (fun c150 => ?_)
                  · have hre : ren b N (tok (b i)) (i + 1) = j := by rw [k6]; exact scn_f (by rintro ⟨-, q⟩; exact c150 (by simpa using q))
                    refine q_vret G (pc := 166) dX8_advance_166 rfl ?_
                    refine ⟨rfl, rfl, ?_, k5⟩
                    rw [hsk]
                    have e1 : tkn b N i = tok (b i) := if_pos (by omega)
                    have e2 : tke b N i = j := by unfold tke; rw [if_pos (by omega), if_pos (by omega)]; exact hre
                    exact ⟨k1, k2, by rw [e2]; exact k3, by rw [e1]; exact k4, by omega⟩
                  · refine q_aload_n G (pc := 153) dX8_advance_153 rfl ?_
                    refine q_dup G (pc := 154) dX8_advance_154 rfl ?_
                    refine q_getI (v := nI (j)) G (pc := 155) dX8_advance_155 fl_X8_24_8 (by decide) rfl k3 ?_
                    refine q_iconst (v := nI 1) G (pc := 158) dX8_advance_158 (by decide) ?_
                    refine q_iaddN G (pc := 159) dX8_advance_159 ?_
                    refine q_putI G (pc := 160) dX8_advance_160 fl_X8_24_8 rfl ?_
                    refine q_goto (tgt := 119) G (pc := 163) dX8_advance_163 (by decide) ?_
                    exact ih119 (j + 1) _ (by omega) (by omega) (k1.keep (by simp [va_up]) (by simp [va_up])) (by simp [va_up, k2]) (by simp [va_up]) (by simp [va_up, k4]) (k5.trans (fun z hz => by simp at hz; simp [va_up, hz])) (k6.trans (scn_t (by omega) (by simpa using c150)))
            exact L119 _ (i + 1) _ (Nat.lt_succ_self _) (by omega) (g1.keep (by simp [va_up]) (by simp [va_up])) (by simp [va_up, g2]) (by simp [va_up]) (by simp [va_up]) (g3.trans (fun z hz => by simp at hz; simp [va_up, hz])) rfl
          · refine q_aload_n G (pc := 105) dX8_advance_105 rfl ?_
            refine q_getI (v := nI (tok (b i))) G (pc := 106) dX8_advance_106 fl_X8_30_8 (by decide) rfl (by simp [va_up]) ?_
            refine q_iconst (v := nI 2) G (pc := 109) dX8_advance_109 (by decide) ?_
            refine q_icmp_neN (tgt := 117) G (pc := 110) dX8_advance_110 (by decide) (by omega) (by omega) (fun c110 => ?_) (fun c110 => ?_)
            · refine q_iconst (v := nI 0) G (pc := 117) dX8_advance_117 (by decide) ?_
              refine q_istore_n G (pc := 118) dX8_advance_118 (by decide) ?_
              show X _ [_, _] _ _ _ _
              refine q_iload_n G (pc := 119) dX8_advance_119 rfl ?_
              refine q_if_eqN (tgt := 166) G (pc := 120) dX8_advance_120 (by decide) (by omega) (fun _ => ?_) (fun c120 => absurd c120 (by decide))
              refine q_vret G (pc := 166) dX8_advance_166 rfl ?_
              refine ⟨rfl, rfl, ?_, fun z hz => ?_⟩
              · rw [hsk]
                have e1 : tkn b N i = tok (b i) := if_pos (by omega)
                have e2 : tke b N i = i + 1 := by unfold tke; rw [if_pos (by omega), if_neg (by omega)]
                exact ⟨g1.keep (by simp [va_up]) (by simp [va_up]), by simp [va_up, g2], by rw [e2]; simp [va_up], by rw [e1]; simp [va_up], by omega⟩
              · have := g3 z (by simpa using hz)
                simp at hz
                simp [va_up, hz, this]
            · refine q_iconst (v := nI 1) G (pc := 113) dX8_advance_113 (by decide) ?_
              refine q_goto (tgt := 118) G (pc := 114) dX8_advance_114 (by decide) ?_
              refine q_istore_n G (pc := 118) dX8_advance_118 (by decide) ?_
              show X _ [_, _] _ _ _ _
              have L119 : ∀ (zz : Nat) (j : Nat) (hj : mm_HI), N - j < zz → j ≤ N → txF hj b N → hj 1 2 = nI i → hj 1 3 = nI j → hj 1 4 = nI (tok (b i)) → fr [1] hi hj → ren b N (tok (b i)) (i + 1) = ren b N (tok (b i)) j → X 119 [some (.ref (1)), some (.int (nI (1)))] [] hj τ 125 := by
                intro zz
                induction zz with
                | zero => intro j hj hm; exact absurd hm (Nat.not_lt_zero _)
                | succ zz ih119 =>
                  intro j hj hm h9 k1 k2 k3 k4 k5 k6
                  refine q_iload_n G (pc := 119) dX8_advance_119 rfl ?_
                  refine q_if_eqN (tgt := 166) G (pc := 120) dX8_advance_120 (by decide) (by omega) (fun c120 => absurd c120 (by decide)) (fun _ => ?_)
                  refine q_aload_n G (pc := 123) dX8_advance_123 rfl ?_
                  refine q_getI (v := nI (j)) G (pc := 124) dX8_advance_124 fl_X8_24_8 (by decide) rfl k3 ?_
                  refine q_aload_n G (pc := 127) dX8_advance_127 rfl ?_
                  refine q_getI (v := nI (N)) G (pc := 128) dX8_advance_128 fl_X8_15_8 (by decide) rfl k1.1 ?_
                  refine q_icmp_geN (tgt := 166) G (pc := 131) dX8_advance_131 (by decide) (by omega) (by omega) (fun c131 => ?_) (fun c131 => ?_)
                  · have hre : ren b N (tok (b i)) (i + 1) = j := by rw [k6]; exact scn_f (by omega)
                    refine q_vret G (pc := 166) dX8_advance_166 rfl ?_
                    refine ⟨rfl, rfl, ?_, k5⟩
                    rw [hsk]
                    have e1 : tkn b N i = tok (b i) := if_pos (by omega)
                    have e2 : tke b N i = j := by unfold tke; rw [if_pos (by omega), if_pos (by omega)]; exact hre
                    exact ⟨k1, k2, by rw [e2]; exact k3, by rw [e1]; exact k4, by omega⟩
                  · refine q_aload_n G (pc := 134) dX8_advance_134 rfl ?_
                    refine q_getR (x := 2) G (pc := 135) dX8_advance_135 fl_X8_9_8 rfl (hg hτ (hf_8_1 rfl)) ?_
                    refine q_aload_n G (pc := 138) dX8_advance_138 rfl ?_
                    refine q_getI (v := nI (j)) G (pc := 139) dX8_advance_139 fl_X8_24_8 (by decide) rfl k3 ?_
                    refine q_iald (j := j) (v := nI (b j)) G (pc := 142) dX8_advance_142 rfl rfl (by omega) (k1.2.2.1 j (by omega)) ?_
                    have hbj := tok_bd (b j)
                    refine q_cS1E G (pc := 143) dX8_advance_143 cs_X8_79 (s_X8_tokenOf (by omega) (k1.2.2.2 j)) (Nat.le_of_ble_eq_true rfl) ?_
                    refine q_aload_n G (pc := 146) dX8_advance_146 rfl ?_
                    refine q_getI (v := nI (tok (b i))) G (pc := 147) dX8_advance_147 fl_X8_30_8 (by decide) rfl k4 ?_
                    refine q_icmp_neN (tgt := 166) G (pc := 150) dX8_advance_150 (by decide) (by omega) (by omega) (fun c150 => ?_) (fun c150 => ?_)
                    · have hre : ren b N (tok (b i)) (i + 1) = j := by rw [k6]; exact scn_f (by rintro ⟨-, q⟩; exact c150 (by simpa using q))
                      refine q_vret G (pc := 166) dX8_advance_166 rfl ?_
                      refine ⟨rfl, rfl, ?_, k5⟩
                      rw [hsk]
                      have e1 : tkn b N i = tok (b i) := if_pos (by omega)
                      have e2 : tke b N i = j := by unfold tke; rw [if_pos (by omega), if_pos (by omega)]; exact hre
                      exact ⟨k1, k2, by rw [e2]; exact k3, by rw [e1]; exact k4, by omega⟩
                    · refine q_aload_n G (pc := 153) dX8_advance_153 rfl ?_
                      refine q_dup G (pc := 154) dX8_advance_154 rfl ?_
                      refine q_getI (v := nI (j)) G (pc := 155) dX8_advance_155 fl_X8_24_8 (by decide) rfl k3 ?_
                      refine q_iconst (v := nI 1) G (pc := 158) dX8_advance_158 (by decide) ?_
                      refine q_iaddN G (pc := 159) dX8_advance_159 ?_
                      refine q_putI G (pc := 160) dX8_advance_160 fl_X8_24_8 rfl ?_
                      refine q_goto (tgt := 119) G (pc := 163) dX8_advance_163 (by decide) ?_
                      exact ih119 (j + 1) _ (by omega) (by omega) (k1.keep (by simp [va_up]) (by simp [va_up])) (by simp [va_up, k2]) (by simp [va_up]) (by simp [va_up, k4]) (k5.trans (fun z hz => by simp at hz; simp [va_up, hz])) (k6.trans (scn_t (by omega) (by simpa using c150)))
              exact L119 _ (i + 1) _ (Nat.lt_succ_self _) (by omega) (g1.keep (by simp [va_up]) (by simp [va_up])) (by simp [va_up, g2]) (by simp [va_up]) (by simp [va_up]) (g3.trans (fun z hz => by simp at hz; simp [va_up, hz])) rfl
        · refine q_aload_n G (pc := 65) dX8_advance_65 rfl ?_
          refine q_iconst (v := nI 0) G (pc := 66) dX8_advance_66 (by decide) ?_
          refine q_putI G (pc := 67) dX8_advance_67 fl_X8_30_8 rfl ?_
          refine q_vret G (pc := 70) dX8_advance_70 rfl ?_
          refine ⟨rfl, rfl, ?_, fun z hz => ?_⟩
          · rw [hsk]
            have e1 : tkn b N i = 0 := if_neg (by omega)
            have e2 : tke b N i = i := if_neg (by omega)
            exact ⟨g1.keep (by simp [va_up]) (by simp [va_up]), by simp [va_up, g2], by rw [e2]; simp [va_up], by rw [e1]; simp [va_up], by omega⟩
          · have := g3 z (by simpa using hz)
            simp at hz
            simp [va_up, hz, this]
      · refine q_aload_n G (pc := 19) dX8_advance_19 rfl ?_
        refine q_getR (x := 2) G (pc := 20) dX8_advance_20 fl_X8_9_8 rfl (hg hτ (hf_8_1 rfl)) ?_
        refine q_aload_n G (pc := 23) dX8_advance_23 rfl ?_
        refine q_getI (v := nI (i)) G (pc := 24) dX8_advance_24 fl_X8_37_8 (by decide) rfl g2 ?_
        refine q_iald (j := i) (v := nI (b i)) G (pc := 27) dX8_advance_27 rfl rfl (by omega) (g1.2.2.1 i (by omega)) ?_
        have hb := g1.2.2.2 i
        refine q_bipush (v := nI 32) G (pc := 28) dX8_advance_28 (by decide) ?_
        refine q_icmp_neN (tgt := 46) G (pc := 30) dX8_advance_30 (by decide) (by omega) (by omega) (fun c30 => ?_) (fun c30 => ?_)
        · have hsk : skp b N p = i := by rw [h1s]; exact scn_f (by rintro ⟨-, q⟩; exact c30 (by simpa using q))
          refine q_aload_n G (pc := 46) dX8_advance_46 rfl ?_
          refine q_aload_n G (pc := 47) dX8_advance_47 rfl ?_
          refine q_getI (v := nI (i)) G (pc := 48) dX8_advance_48 fl_X8_37_8 (by decide) rfl g2 ?_
          refine q_putI G (pc := 51) dX8_advance_51 fl_X8_24_8 rfl ?_
          refine q_aload_n G (pc := 54) dX8_advance_54 rfl ?_
          refine q_getI (v := nI (i)) G (pc := 55) dX8_advance_55 fl_X8_37_8 (by decide) rfl (by simp [va_up, g2]) ?_
          refine q_aload_n G (pc := 58) dX8_advance_58 rfl ?_
          refine q_getI (v := nI (N)) G (pc := 59) dX8_advance_59 fl_X8_15_8 (by decide) rfl (by simp [va_up, g1.1]) ?_
          refine q_icmp_ltN (tgt := 71) G (pc := 62) dX8_advance_62 (by decide) (by omega) (by omega) (fun c62 => ?_) (fun c62 => ?_)
          · refine q_aload_n G (pc := 71) dX8_advance_71 rfl ?_
            refine q_aload_n G (pc := 72) dX8_advance_72 rfl ?_
            refine q_getR (x := 2) G (pc := 73) dX8_advance_73 fl_X8_9_8 rfl (hg hτ (hf_8_1 rfl)) ?_
            refine q_aload_n G (pc := 76) dX8_advance_76 rfl ?_
            refine q_getI (v := nI (i)) G (pc := 77) dX8_advance_77 fl_X8_37_8 (by decide) rfl (by simp [va_up, g2]) ?_
            refine q_iald (j := i) (v := nI (b i)) G (pc := 80) dX8_advance_80 rfl rfl (by omega) (by simp [va_up]; exact g1.2.2.1 i (by omega)) ?_
            have hb := g1.2.2.2 i
            have htb := tok_bd (b i)
            refine q_cS1E G (pc := 81) dX8_advance_81 cs_X8_79 (s_X8_tokenOf (by omega) (g1.2.2.2 i)) (Nat.le_of_ble_eq_true rfl) ?_
            refine q_putI G (pc := 84) dX8_advance_84 fl_X8_30_8 rfl ?_
            refine q_aload_n G (pc := 87) dX8_advance_87 rfl ?_
            refine q_aload_n G (pc := 88) dX8_advance_88 rfl ?_
            refine q_getI (v := nI (i)) G (pc := 89) dX8_advance_89 fl_X8_37_8 (by decide) rfl (by simp [va_up, g2]) ?_
            refine q_iconst (v := nI 1) G (pc := 92) dX8_advance_92 (by decide) ?_
            refine q_iaddN G (pc := 93) dX8_advance_93 ?_
            refine q_putI G (pc := 94) dX8_advance_94 fl_X8_24_8 rfl ?_
            refine q_aload_n G (pc := 97) dX8_advance_97 rfl ?_
            refine q_getI (v := nI (tok (b i))) G (pc := 98) dX8_advance_98 fl_X8_30_8 (by decide) rfl (by simp [va_up]) ?_
            refine q_iconst (v := nI 1) G (pc := 101) dX8_advance_101 (by decide) ?_
            refine q_icmp_eqN (tgt := 113) G (pc := 102) dX8_advance_102 (by decide) (by omega) (by omega) (fun c102 => ?_) (fun c102 => ?_)
            · refine q_iconst (v := nI 1) G (pc := 113) dX8_advance_113 (by decide) ?_
              refine q_goto (tgt := 118) G (pc := 114) dX8_advance_114 (by decide) ?_
              refine q_istore_n G (pc := 118) dX8_advance_118 (by decide) ?_
              show X _ [_, _] _ _ _ _
              have L119 : ∀ (zz : Nat) (j : Nat) (hj : mm_HI), N - j < zz → j ≤ N → txF hj b N → hj 1 2 = nI i → hj 1 3 = nI j → hj 1 4 = nI (tok (b i)) → fr [1] hi hj → ren b N (tok (b i)) (i + 1) = ren b N (tok (b i)) j → X 119 [some (.ref (1)), some (.int (nI (1)))] [] hj τ 125 := by
                intro zz
                induction zz with
                | zero => intro j hj hm; exact absurd hm (Nat.not_lt_zero _)
                | succ zz ih119 =>
                  intro j hj hm h9 k1 k2 k3 k4 k5 k6
                  refine q_iload_n G (pc := 119) dX8_advance_119 rfl ?_
                  refine q_if_eqN (tgt := 166) G (pc := 120) dX8_advance_120 (by decide) (by omega) (fun c120 => absurd c120 (by decide)) (fun _ => ?_)
                  refine q_aload_n G (pc := 123) dX8_advance_123 rfl ?_
                  refine q_getI (v := nI (j)) G (pc := 124) dX8_advance_124 fl_X8_24_8 (by decide) rfl k3 ?_
                  refine q_aload_n G (pc := 127) dX8_advance_127 rfl ?_
                  refine q_getI (v := nI (N)) G (pc := 128) dX8_advance_128 fl_X8_15_8 (by decide) rfl k1.1 ?_
                  refine q_icmp_geN (tgt := 166) G (pc := 131) dX8_advance_131 (by decide) (by omega) (by omega) (fun c131 => ?_) (fun c131 => ?_)
                  · have hre : ren b N (tok (b i)) (i + 1) = j := by rw [k6]; exact scn_f (by omega)
                    refine q_vret G (pc := 166) dX8_advance_166 rfl ?_
                    refine ⟨rfl, rfl, ?_, k5⟩
                    rw [hsk]
                    have e1 : tkn b N i = tok (b i) := if_pos (by omega)
                    have e2 : tke b N i = j := by unfold tke; rw [if_pos (by omega), if_pos (by omega)]; exact hre
                    exact ⟨k1, k2, by rw [e2]; exact k3, by rw [e1]; exact k4, by omega⟩
                  · refine q_aload_n G (pc := 134) dX8_advance_134 rfl ?_
                    refine q_getR (x := 2) G (pc := 135) dX8_advance_135 fl_X8_9_8 rfl (hg hτ (hf_8_1 rfl)) ?_
                    refine q_aload_n G (pc := 138) dX8_advance_138 rfl ?_
                    refine q_getI (v := nI (j)) G (pc := 139) dX8_advance_139 fl_X8_24_8 (by decide) rfl k3 ?_
                    refine q_iald (j := j) (v := nI (b j)) G (pc := 142) dX8_advance_142 rfl rfl (by omega) (k1.2.2.1 j (by omega)) ?_
                    have hbj := tok_bd (b j)
                    refine q_cS1E G (pc := 143) dX8_advance_143 cs_X8_79 (s_X8_tokenOf (by omega) (k1.2.2.2 j)) (Nat.le_of_ble_eq_true rfl) ?_
                    refine q_aload_n G (pc := 146) dX8_advance_146 rfl ?_
                    refine q_getI (v := nI (tok (b i))) G (pc := 147) dX8_advance_147 fl_X8_30_8 (by decide) rfl k4 ?_
                    refine q_icmp_neN (tgt := 166) G (pc := 150) dX8_advance_150 (by decide) (by omega) (by omega) (fun c150 => ?_) (fun c150 => ?_)
                    · have hre : ren b N (tok (b i)) (i + 1) = j := by rw [k6]; exact scn_f (by rintro ⟨-, q⟩; exact c150 (by simpa using q))
                      refine q_vret G (pc := 166) dX8_advance_166 rfl ?_
                      refine ⟨rfl, rfl, ?_, k5⟩
                      rw [hsk]
                      have e1 : tkn b N i = tok (b i) := if_pos (by omega)
                      have e2 : tke b N i = j := by unfold tke; rw [if_pos (by omega), if_pos (by omega)]; exact hre
                      exact ⟨k1, k2, by rw [e2]; exact k3, by rw [e1]; exact k4, by omega⟩
                    · refine q_aload_n G (pc := 153) dX8_advance_153 rfl ?_
                      refine q_dup G (pc := 154) dX8_advance_154 rfl ?_
                      refine q_getI (v := nI (j)) G (pc := 155) dX8_advance_155 fl_X8_24_8 (by decide) rfl k3 ?_
                      refine q_iconst (v := nI 1) G (pc := 158) dX8_advance_158 (by decide) ?_
                      refine q_iaddN G (pc := 159) dX8_advance_159 ?_
                      refine q_putI G (pc := 160) dX8_advance_160 fl_X8_24_8 rfl ?_
                      refine q_goto (tgt := 119) G (pc := 163) dX8_advance_163 (by decide) ?_
                      exact ih119 (j + 1) _ (by omega) (by omega) (k1.keep (by simp [va_up]) (by simp [va_up])) (by simp [va_up, k2]) (by simp [va_up]) (by simp [va_up, k4]) (k5.trans (fun z hz => by simp at hz; simp [va_up, hz])) (k6.trans (scn_t (by omega) (by simpa using c150)))
              exact L119 _ (i + 1) _ (Nat.lt_succ_self _) (by omega) (g1.keep (by simp [va_up]) (by simp [va_up])) (by simp [va_up, g2]) (by simp [va_up]) (by simp [va_up]) (g3.trans (fun z hz => by simp at hz; simp [va_up, hz])) rfl
            · refine q_aload_n G (pc := 105) dX8_advance_105 rfl ?_
              refine q_getI (v := nI (tok (b i))) G (pc := 106) dX8_advance_106 fl_X8_30_8 (by decide) rfl (by simp [va_up]) ?_
              refine q_iconst (v := nI 2) G (pc := 109) dX8_advance_109 (by decide) ?_
              refine q_icmp_neN (tgt := 117) G (pc := 110) dX8_advance_110 (by decide) (by omega) (by omega) (fun c110 => ?_) (fun c110 => ?_)
              · refine q_iconst (v := nI 0) G (pc := 117) dX8_advance_117 (by decide) ?_
                refine q_istore_n G (pc := 118) dX8_advance_118 (by decide) ?_
                show X _ [_, _] _ _ _ _
                refine q_iload_n G (pc := 119) dX8_advance_119 rfl ?_
                refine q_if_eqN (tgt := 166) G (pc := 120) dX8_advance_120 (by decide) (by omega) (fun _ => ?_) (fun c120 => absurd c120 (by decide))
                refine q_vret G (pc := 166) dX8_advance_166 rfl ?_
                refine ⟨rfl, rfl, ?_, fun z hz => ?_⟩
                · rw [hsk]
                  have e1 : tkn b N i = tok (b i) := if_pos (by omega)
                  have e2 : tke b N i = i + 1 := by unfold tke; rw [if_pos (by omega), if_neg (by omega)]
                  exact ⟨g1.keep (by simp [va_up]) (by simp [va_up]), by simp [va_up, g2], by rw [e2]; simp [va_up], by rw [e1]; simp [va_up], by omega⟩
                · have := g3 z (by simpa using hz)
                  simp at hz
                  simp [va_up, hz, this]
              · refine q_iconst (v := nI 1) G (pc := 113) dX8_advance_113 (by decide) ?_
                refine q_goto (tgt := 118) G (pc := 114) dX8_advance_114 (by decide) ?_
                refine q_istore_n G (pc := 118) dX8_advance_118 (by decide) ?_
                show X _ [_, _] _ _ _ _
                have L119 : ∀ (zz : Nat) (j : Nat) (hj : mm_HI), N - j < zz → j ≤ N → txF hj b N → hj 1 2 = nI i → hj 1 3 = nI j → hj 1 4 = nI (tok (b i)) → fr [1] hi hj → ren b N (tok (b i)) (i + 1) = ren b N (tok (b i)) j → X 119 [some (.ref (1)), some (.int (nI (1)))] [] hj τ 125 := by
                  intro zz
                  induction zz with
                  | zero => intro j hj hm; exact absurd hm (Nat.not_lt_zero _)
                  | succ zz ih119 =>
                    intro j hj hm h9 k1 k2 k3 k4 k5 k6
                    refine q_iload_n G (pc := 119) dX8_advance_119 rfl ?_
                    refine q_if_eqN (tgt := 166) G (pc := 120) dX8_advance_120 (by decide) (by omega) (fun c120 => absurd c120 (by decide)) (fun _ => ?_)
                    refine q_aload_n G (pc := 123) dX8_advance_123 rfl ?_
                    refine q_getI (v := nI (j)) G (pc := 124) dX8_advance_124 fl_X8_24_8 (by decide) rfl k3 ?_
                    refine q_aload_n G (pc := 127) dX8_advance_127 rfl ?_
                    refine q_getI (v := nI (N)) G (pc := 128) dX8_advance_128 fl_X8_15_8 (by decide) rfl k1.1 ?_
                    refine q_icmp_geN (tgt := 166) G (pc := 131) dX8_advance_131 (by decide) (by omega) (by omega) (fun c131 => ?_) (fun c131 => ?_)
                    · have hre : ren b N (tok (b i)) (i + 1) = j := by rw [k6]; exact scn_f (by omega)
                      refine q_vret G (pc := 166) dX8_advance_166 rfl ?_
                      refine ⟨rfl, rfl, ?_, k5⟩
                      rw [hsk]
                      have e1 : tkn b N i = tok (b i) := if_pos (by omega)
                      have e2 : tke b N i = j := by unfold tke; rw [if_pos (by omega), if_pos (by omega)]; exact hre
                      exact ⟨k1, k2, by rw [e2]; exact k3, by rw [e1]; exact k4, by omega⟩
                    · refine q_aload_n G (pc := 134) dX8_advance_134 rfl ?_
                      refine q_getR (x := 2) G (pc := 135) dX8_advance_135 fl_X8_9_8 rfl (hg hτ (hf_8_1 rfl)) ?_
                      refine q_aload_n G (pc := 138) dX8_advance_138 rfl ?_
                      refine q_getI (v := nI (j)) G (pc := 139) dX8_advance_139 fl_X8_24_8 (by decide) rfl k3 ?_
                      refine q_iald (j := j) (v := nI (b j)) G (pc := 142) dX8_advance_142 rfl rfl (by omega) (k1.2.2.1 j (by omega)) ?_
                      have hbj := tok_bd (b j)
                      refine q_cS1E G (pc := 143) dX8_advance_143 cs_X8_79 (s_X8_tokenOf (by omega) (k1.2.2.2 j)) (Nat.le_of_ble_eq_true rfl) ?_
                      refine q_aload_n G (pc := 146) dX8_advance_146 rfl ?_
                      refine q_getI (v := nI (tok (b i))) G (pc := 147) dX8_advance_147 fl_X8_30_8 (by decide) rfl k4 ?_
                      refine q_icmp_neN (tgt := 166) G (pc := 150) dX8_advance_150 (by decide) (by omega) (by omega) (fun c150 => ?_) (fun c150 => ?_)
                      · have hre : ren b N (tok (b i)) (i + 1) = j := by rw [k6]; exact scn_f (by rintro ⟨-, q⟩; exact c150 (by simpa using q))
                        refine q_vret G (pc := 166) dX8_advance_166 rfl ?_
                        refine ⟨rfl, rfl, ?_, k5⟩
                        rw [hsk]
                        have e1 : tkn b N i = tok (b i) := if_pos (by omega)
                        have e2 : tke b N i = j := by unfold tke; rw [if_pos (by omega), if_pos (by omega)]; exact hre
                        exact ⟨k1, k2, by rw [e2]; exact k3, by rw [e1]; exact k4, by omega⟩
                      · refine q_aload_n G (pc := 153) dX8_advance_153 rfl ?_
                        refine q_dup G (pc := 154) dX8_advance_154 rfl ?_
                        refine q_getI (v := nI (j)) G (pc := 155) dX8_advance_155 fl_X8_24_8 (by decide) rfl k3 ?_
                        refine q_iconst (v := nI 1) G (pc := 158) dX8_advance_158 (by decide) ?_
                        refine q_iaddN G (pc := 159) dX8_advance_159 ?_
                        refine q_putI G (pc := 160) dX8_advance_160 fl_X8_24_8 rfl ?_
                        refine q_goto (tgt := 119) G (pc := 163) dX8_advance_163 (by decide) ?_
                        exact ih119 (j + 1) _ (by omega) (by omega) (k1.keep (by simp [va_up]) (by simp [va_up])) (by simp [va_up, k2]) (by simp [va_up]) (by simp [va_up, k4]) (k5.trans (fun z hz => by simp at hz; simp [va_up, hz])) (k6.trans (scn_t (by omega) (by simpa using c150)))
                exact L119 _ (i + 1) _ (Nat.lt_succ_self _) (by omega) (g1.keep (by simp [va_up]) (by simp [va_up])) (by simp [va_up, g2]) (by simp [va_up]) (by simp [va_up]) (g3.trans (fun z hz => by simp at hz; simp [va_up, hz])) rfl
          · refine q_aload_n G (pc := 65) dX8_advance_65 rfl ?_
            refine q_iconst (v := nI 0) G (pc := 66) dX8_advance_66 (by decide) ?_
            refine q_putI G (pc := 67) dX8_advance_67 fl_X8_30_8 rfl ?_
            refine q_vret G (pc := 70) dX8_advance_70 rfl ?_
            refine ⟨rfl, rfl, ?_, fun z hz => ?_⟩
            · rw [hsk]
              have e1 : tkn b N i = 0 := if_neg (by omega)
              have e2 : tke b N i = i := if_neg (by omega)
              exact ⟨g1.keep (by simp [va_up]) (by simp [va_up]), by simp [va_up, g2], by rw [e2]; simp [va_up], by rw [e1]; simp [va_up], by omega⟩
            · have := g3 z (by simpa using hz)
              simp at hz
              simp [va_up, hz, this]
        · have hst : skp b N i = skp b N (i + 1) := scn_t (by omega) (by simpa using c30)
          refine q_aload_n G (pc := 33) dX8_advance_33 rfl ?_
          refine q_dup G (pc := 34) dX8_advance_34 rfl ?_
          refine q_getI (v := nI (i)) G (pc := 35) dX8_advance_35 fl_X8_37_8 (by decide) rfl g2 ?_
          refine q_iconst (v := nI 1) G (pc := 38) dX8_advance_38 (by decide) ?_
          refine q_iaddN G (pc := 39) dX8_advance_39 ?_
          refine q_putI G (pc := 40) dX8_advance_40 fl_X8_37_8 rfl ?_
          refine q_goto (tgt := 8) G (pc := 43) dX8_advance_43 (by decide) ?_
          exact ih8 (i + 1) _ _ (by omega) (by omega) (h1s.trans hst) (g1.keep (by simp [va_up]) (by simp [va_up])) (by simp [va_up]) (g3.trans (fun z hz => by simp at hz; simp [va_up, hz]))
  exact L8 _ p _ _ (Nat.lt_succ_self _) hp rfl (hF.keep (by simp [va_up]) (by simp [va_up])) (by simp [va_up]) (fun z hz => by simp at hz; simp [va_up, hz])
set_option maxHeartbeats 2000000 in
theorem s_X8_readStop {d : Nat} (hd : 3 ≤ d) {hi : mm_HI} {τ : mm_T} {sw : Bool} (hτ : τ.1 = mm_hr sw) {b : Nat → Nat} {N q : Nat} (hR : rdr hi b N q) : wI d yX8_readStop [.ref 1] hi τ (fun x h => (x = nI 0 ∧ tkn b N (skp b N (tke b N q)) ≠ 3 ∧ rdr h b N (skp b N (tke b N q)) ∧ fr [1] hi h) ∨ (x = nI 1 ∧ tkn b N (skp b N (tke b N q)) = 3 ∧ rdr h b N (skp b N (skp b N (tke b N q) + 1)) ∧ fr [1] hi h)) := by
  refine w_intro (by omega) M_X8_readStop (Nat.le_of_ble_eq_true rfl) rfl ?_
  intro e X he G
  show X 0 [some (.ref (1))] [] hi τ 125
  have htl := tke_le (b := b) hR.2.2.2.2
  refine q_aload_n G (pc := 0) dX8_readStop_0 rfl ?_
  refine q_cV0V G (pc := 1) dX8_readStop_1 cv_X8_27 rfl (s_X8_advance (by omega) hτ hR.1 hR.2.2.1 htl.2.1) (Nat.le_of_ble_eq_true rfl) ?_
  intro hk hx
  obtain ⟨x1, x2⟩ := hx
  have htb : tkn b N (skp b N (tke b N q)) ≤ 4 := by
    unfold tkn
    split
    · exact (tok_bd _).2
    · omega
  refine q_aload_n G (pc := 4) dX8_readStop_4 rfl ?_
  refine q_getI (v := nI (tkn b N (skp b N (tke b N q)))) G (pc := 5) dX8_readStop_5 fl_X8_30_8 (by decide) rfl x1.2.2.2.1 ?_
  refine q_iconst (v := nI 3) G (pc := 8) dX8_readStop_8 (by decide) ?_
  refine q_icmp_eqN (tgt := 14) G (pc := 9) dX8_readStop_9 (by decide) (by omega) (by omega) (fun c9 => ?_) (fun c9 => ?_)
  · refine q_aload_n G (pc := 14) dX8_readStop_14 rfl ?_
    refine q_cV0V G (pc := 15) dX8_readStop_15 cv_X8_27 rfl (s_X8_advance (by omega) hτ x1.1 x1.2.2.1 (tke_le x1.2.2.2.2).2.1) (Nat.le_of_ble_eq_true rfl) ?_
    intro hk2 hy
    obtain ⟨y1, y2⟩ := hy
    refine q_iconst (v := nI 1) G (pc := 18) dX8_readStop_18 (by decide) ?_
    refine q_iret G (pc := 19) dX8_readStop_19 (Or.inr ⟨rfl, by decide⟩) ?_
    refine ⟨rfl, _, rfl, Or.inr ⟨rfl, c9, ?_, x2.trans y2⟩⟩
    have e1 : tke b N (skp b N (tke b N q)) = skp b N (tke b N q) + 1 := tke_3 c9
    rw [e1] at y1
    exact y1
  · refine q_iconst (v := nI 0) G (pc := 12) dX8_readStop_12 (by decide) ?_
    refine q_iret G (pc := 13) dX8_readStop_13 (Or.inr ⟨rfl, by decide⟩) ?_
    exact ⟨rfl, _, rfl, Or.inl ⟨rfl, c9, x1, x2⟩⟩
