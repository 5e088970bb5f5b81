def mm_W (p : Program) (l : Launch) (e : Env) (R : Room) (s : State) (m : MethodId) (args : Array Value) (below : List Frame) (meth : Method) (c0 : Code) (Q : State → Prop) (D : va_G) (cI cR : ClassId) (b nL n0 : Nat) : mm_X := fun pc ls st hi τ n => ∀ (H : Heap) (locs : List Loc) (lsA : Array Slot), n0 ≤ n → H.size = b + n → mm_P D cI cR b hi τ n H → mm_S b s.heap H locs → mm_LV b nL ls lsA → W p l e R s m args below meth c0 H locs (n - n0) (mm_sl n - mm_sl n0) Q (F0 m pc lsA (st.map (mm_rl b)))
def mm_Z (p : Program) (l : Launch) (R : Room) (s : State) (m : MethodId) (args : Array Value) (meth : Method) (c0 : Code) (D : va_G) (cI cR : ClassId) (b : Nat) (own : String) (cc : ByteArray) (nL : Nat) (ini : Bool) (n0 n1 d : Nat) (CALL : mm_call) : Prop := p.tables.exec = Jvm.exec ∧ c0.code = cc ∧ c0.maxLocals = nL ∧ (∀ w, mm_in w → w.before args s = true) ∧ s.vm.findClass own = some m.cls ∧ va_K D vwCl (mm_tys cI cR) s ∧ mm_E s ∧ (ini = true → meth.name = "<init>") ∧ d + 1 ≤ R.frames ∧ 64 * (d + 1) ≤ R.locals ∧ n1 - n0 ≤ R.cells ∧ mm_sl n1 - mm_sl n0 ≤ R.slots ∧ ∀ y as hi τ n n2 Pq, CALL y as hi τ n n2 Pq → mm_Met l D cI cR b d y as hi τ n n2 Pq
section MS
variable {p : Program} {l : Launch} {e : Env} {R : Room} {s : State} {m : MethodId} {args : Array Value} {below : List Frame} {meth : Method} {c0 : Code} {Q : State → Prop} {D : va_G} {cI cR : ClassId} {b : Nat} {own : String} {cc : ByteArray} {nL : Nat} {ini : Bool} {n0 n1 d : Nat} {CALL : mm_call} {ret : Option FieldType} {Post : mm_Q}
theorem ms_iconst (Z : mm_Z p l R s m args meth c0 D cI cR b own cc nL ini n0 n1 d CALL) : mg_iconst CALL own cc nL ret ini n1 Post (mm_W p l e R s m args below meth c0 Q D cI cR b nL n0) := by
    obtain ⟨hx, hb, hml, hts, hown, hK, hE, hini, hR1, hR2, hR3, hR4, hcall⟩ := Z
    intro pc ls st hi τ n z v hd h0 k H locs lsA hnn hn hP hS hL
    exact lv_iconst hx hb hd h0 (k H locs lsA hnn hn hP hS hL)
theorem ms_bipush (Z : mm_Z p l R s m args meth c0 D cI cR b own cc nL ini n0 n1 d CALL) : mg_bipush CALL own cc nL ret ini n1 Post (mm_W p l e R s m args below meth c0 Q D cI cR b nL n0) := by
    obtain ⟨hx, hb, hml, hts, hown, hK, hE, hini, hR1, hR2, hR3, hR4, hcall⟩ := Z
    intro pc ls st hi τ n z v hd h0 k H locs lsA hnn hn hP hS hL
    exact lv_bipush hx hb hd h0 (k H locs lsA hnn hn hP hS hL)
theorem ms_sipush (Z : mm_Z p l R s m args meth c0 D cI cR b own cc nL ini n0 n1 d CALL) : mg_sipush CALL own cc nL ret ini n1 Post (mm_W p l e R s m args below meth c0 Q D cI cR b nL n0) := by
    obtain ⟨hx, hb, hml, hts, hown, hK, hE, hini, hR1, hR2, hR3, hR4, hcall⟩ := Z
    intro pc ls st hi τ n z v hd h0 k H locs lsA hnn hn hP hS hL
    exact lv_sipush hx hb hd h0 (k H locs lsA hnn hn hP hS hL)
theorem ms_ldc (Z : mm_Z p l R s m args meth c0 D cI cR b own cc nL ini n0 n1 d CALL) : mg_ldc CALL own cc nL ret ini n1 Post (mm_W p l e R s m args below meth c0 Q D cI cR b nL n0) := by
    obtain ⟨hx, hb, hml, hts, hown, hK, hE, hini, hR1, hR2, hR3, hR4, hcall⟩ := Z
    intro pc ls st hi τ n z v hd h0 k H locs lsA hnn hn hP hS hL
    exact lv_ldc hx hb hown (hts _ h0) hd (k H locs lsA hnn hn hP hS hL)
theorem ms_ldcw (Z : mm_Z p l R s m args meth c0 D cI cR b own cc nL ini n0 n1 d CALL) : mg_ldcw CALL own cc nL ret ini n1 Post (mm_W p l e R s m args below meth c0 Q D cI cR b nL n0) := by
    obtain ⟨hx, hb, hml, hts, hown, hK, hE, hini, hR1, hR2, hR3, hR4, hcall⟩ := Z
    intro pc ls st hi τ n z v hd h0 k H locs lsA hnn hn hP hS hL
    exact lv_ldcw hx hb hown (hts _ h0) hd (k H locs lsA hnn hn hP hS hL)
theorem ms_lconst (Z : mm_Z p l R s m args meth c0 D cI cR b own cc nL ini n0 n1 d CALL) : mg_lconst CALL own cc nL ret ini n1 Post (mm_W p l e R s m args below meth c0 Q D cI cR b nL n0) := by
    obtain ⟨hx, hb, hml, hts, hown, hK, hE, hini, hR1, hR2, hR3, hR4, hcall⟩ := Z
    intro pc ls st hi τ n z v hd h0 k H locs lsA hnn hn hP hS hL
    exact lv_lconst hx hb hd h0 (k H locs lsA hnn hn hP hS hL)
theorem ms_ldc2 (Z : mm_Z p l R s m args meth c0 D cI cR b own cc nL ini n0 n1 d CALL) : mg_ldc2 CALL own cc nL ret ini n1 Post (mm_W p l e R s m args below meth c0 Q D cI cR b nL n0) := by
    obtain ⟨hx, hb, hml, hts, hown, hK, hE, hini, hR1, hR2, hR3, hR4, hcall⟩ := Z
    intro pc ls st hi τ n z v hd h0 k H locs lsA hnn hn hP hS hL
    exact lv_ldc2 hx hb hown (hts _ h0) hd (k H locs lsA hnn hn hP hS hL)
theorem ms_iload_n (Z : mm_Z p l R s m args meth c0 D cI cR b own cc nL ini n0 n1 d CALL) : mg_iload_n CALL own cc nL ret ini n1 Post (mm_W p l e R s m args below meth c0 Q D cI cR b nL n0) := by
    obtain ⟨hx, hb, hml, hts, hown, hK, hE, hini, hR1, hR2, hR3, hR4, hcall⟩ := Z
    intro pc ls st hi τ n j x hd h0 k H locs lsA hnn hn hP hS hL
    exact lv_iload_n hx hb hd rfl (hL.2 _ _ h0).1 (k H locs lsA hnn hn hP hS hL)
theorem ms_iload (Z : mm_Z p l R s m args meth c0 D cI cR b own cc nL ini n0 n1 d CALL) : mg_iload CALL own cc nL ret ini n1 Post (mm_W p l e R s m args below meth c0 Q D cI cR b nL n0) := by
    obtain ⟨hx, hb, hml, hts, hown, hK, hE, hini, hR1, hR2, hR3, hR4, hcall⟩ := Z
    intro pc ls st hi τ n j x hd h0 k H locs lsA hnn hn hP hS hL
    exact lv_iload hx hb hd (hL.2 _ _ h0).1 (k H locs lsA hnn hn hP hS hL)
theorem ms_aload_n (Z : mm_Z p l R s m args meth c0 D cI cR b own cc nL ini n0 n1 d CALL) : mg_aload_n CALL own cc nL ret ini n1 Post (mm_W p l e R s m args below meth c0 Q D cI cR b nL n0) := by
    obtain ⟨hx, hb, hml, hts, hown, hK, hE, hini, hR1, hR2, hR3, hR4, hcall⟩ := Z
    intro pc ls st hi τ n j x hd h0 k H locs lsA hnn hn hP hS hL
    exact lv_aload_n hx hb hd rfl (hL.2 _ _ h0).1 (k H locs lsA hnn hn hP hS hL)
theorem ms_aload (Z : mm_Z p l R s m args meth c0 D cI cR b own cc nL ini n0 n1 d CALL) : mg_aload CALL own cc nL ret ini n1 Post (mm_W p l e R s m args below meth c0 Q D cI cR b nL n0) := by
    obtain ⟨hx, hb, hml, hts, hown, hK, hE, hini, hR1, hR2, hR3, hR4, hcall⟩ := Z
    intro pc ls st hi τ n j x hd h0 k H locs lsA hnn hn hP hS hL
    exact lv_aload hx hb hd (hL.2 _ _ h0).1 (k H locs lsA hnn hn hP hS hL)
theorem ms_istore_n (Z : mm_Z p l R s m args meth c0 D cI cR b own cc nL ini n0 n1 d CALL) : mg_istore_n CALL own cc nL ret ini n1 Post (mm_W p l e R s m args below meth c0 Q D cI cR b nL n0) := by
    obtain ⟨hx, hb, hml, hts, hown, hK, hE, hini, hR1, hR2, hR3, hR4, hcall⟩ := Z
    intro pc ls st hi τ n j x hd h0 k H locs lsA hnn hn hP hS hL
    exact lv_istore_n hx hb hd rfl (mm_lvl hL) h0 rfl (fun ls1 h1 => k H locs ls1 hnn hn hP hS (mm_lvs hL (v := .int x) rfl h1))
theorem ms_istore (Z : mm_Z p l R s m args meth c0 D cI cR b own cc nL ini n0 n1 d CALL) : mg_istore CALL own cc nL ret ini n1 Post (mm_W p l e R s m args below meth c0 Q D cI cR b nL n0) := by
    obtain ⟨hx, hb, hml, hts, hown, hK, hE, hini, hR1, hR2, hR3, hR4, hcall⟩ := Z
    intro pc ls st hi τ n j x hd h0 k H locs lsA hnn hn hP hS hL
    exact lv_istore hx hb hd (mm_lvl hL) h0 rfl (fun ls1 h1 => k H locs ls1 hnn hn hP hS (mm_lvs hL (v := .int x) rfl h1))
theorem ms_astore_n (Z : mm_Z p l R s m args meth c0 D cI cR b own cc nL ini n0 n1 d CALL) : mg_astore_n CALL own cc nL ret ini n1 Post (mm_W p l e R s m args below meth c0 Q D cI cR b nL n0) := by
    obtain ⟨hx, hb, hml, hts, hown, hK, hE, hini, hR1, hR2, hR3, hR4, hcall⟩ := Z
    intro pc ls st hi τ n j x hd h0 k H locs lsA hnn hn hP hS hL
    exact lv_astore_n hx hb hd rfl (mm_lvl hL) h0 rfl (fun ls1 h1 => k H locs ls1 hnn hn hP hS (mm_lvs hL (v := .ref x) rfl h1))
theorem ms_astore (Z : mm_Z p l R s m args meth c0 D cI cR b own cc nL ini n0 n1 d CALL) : mg_astore CALL own cc nL ret ini n1 Post (mm_W p l e R s m args below meth c0 Q D cI cR b nL n0) := by
    obtain ⟨hx, hb, hml, hts, hown, hK, hE, hini, hR1, hR2, hR3, hR4, hcall⟩ := Z
    intro pc ls st hi τ n j x hd h0 k H locs lsA hnn hn hP hS hL
    exact lv_astore hx hb hd (mm_lvl hL) h0 rfl (fun ls1 h1 => k H locs ls1 hnn hn hP hS (mm_lvs hL (v := .ref x) rfl h1))
theorem ms_iinc (Z : mm_Z p l R s m args meth c0 D cI cR b own cc nL ini n0 n1 d CALL) : mg_iinc CALL own cc nL ret ini n1 Post (mm_W p l e R s m args below meth c0 Q D cI cR b nL n0) := by
    obtain ⟨hx, hb, hml, hts, hown, hK, hE, hini, hR1, hR2, hR3, hR4, hcall⟩ := Z
    intro pc ls st hi τ n j z x v hd h0 h1 h2 k H locs lsA hnn hn hP hS hL
    obtain ⟨q, hq⟩ := mm_lvk b h0
    exact lv_iinc hx hb hd (mm_lvl hL) hq h1 h2 rfl (fun ls1 h1 => k H locs ls1 hnn hn hP hS (mm_lvs hL (v := .int v) rfl h1))
theorem ms_iadd (Z : mm_Z p l R s m args meth c0 D cI cR b own cc nL ini n0 n1 d CALL) : mg_iadd CALL own cc nL ret ini n1 Post (mm_W p l e R s m args below meth c0 Q D cI cR b nL n0) := by
    obtain ⟨hx, hb, hml, hts, hown, hK, hE, hini, hR1, hR2, hR3, hR4, hcall⟩ := Z
    intro pc ls st hi τ n x y hd  k H locs lsA hnn hn hP hS hL
    exact lv_iadd hx hb hd (k H locs lsA hnn hn hP hS hL)
theorem ms_isub (Z : mm_Z p l R s m args meth c0 D cI cR b own cc nL ini n0 n1 d CALL) : mg_isub CALL own cc nL ret ini n1 Post (mm_W p l e R s m args below meth c0 Q D cI cR b nL n0) := by
    obtain ⟨hx, hb, hml, hts, hown, hK, hE, hini, hR1, hR2, hR3, hR4, hcall⟩ := Z
    intro pc ls st hi τ n x y hd  k H locs lsA hnn hn hP hS hL
    exact lv_isub hx hb hd (k H locs lsA hnn hn hP hS hL)
theorem ms_imul (Z : mm_Z p l R s m args meth c0 D cI cR b own cc nL ini n0 n1 d CALL) : mg_imul CALL own cc nL ret ini n1 Post (mm_W p l e R s m args below meth c0 Q D cI cR b nL n0) := by
    obtain ⟨hx, hb, hml, hts, hown, hK, hE, hini, hR1, hR2, hR3, hR4, hcall⟩ := Z
    intro pc ls st hi τ n x y hd  k H locs lsA hnn hn hP hS hL
    exact lv_imul hx hb hd (k H locs lsA hnn hn hP hS hL)
theorem ms_iand (Z : mm_Z p l R s m args meth c0 D cI cR b own cc nL ini n0 n1 d CALL) : mg_iand CALL own cc nL ret ini n1 Post (mm_W p l e R s m args below meth c0 Q D cI cR b nL n0) := by
    obtain ⟨hx, hb, hml, hts, hown, hK, hE, hini, hR1, hR2, hR3, hR4, hcall⟩ := Z
    intro pc ls st hi τ n x y hd  k H locs lsA hnn hn hP hS hL
    exact lv_iand hx hb hd (k H locs lsA hnn hn hP hS hL)
theorem ms_ior (Z : mm_Z p l R s m args meth c0 D cI cR b own cc nL ini n0 n1 d CALL) : mg_ior CALL own cc nL ret ini n1 Post (mm_W p l e R s m args below meth c0 Q D cI cR b nL n0) := by
    obtain ⟨hx, hb, hml, hts, hown, hK, hE, hini, hR1, hR2, hR3, hR4, hcall⟩ := Z
    intro pc ls st hi τ n x y hd  k H locs lsA hnn hn hP hS hL
    exact lv_ior hx hb hd (k H locs lsA hnn hn hP hS hL)
theorem ms_ixor (Z : mm_Z p l R s m args meth c0 D cI cR b own cc nL ini n0 n1 d CALL) : mg_ixor CALL own cc nL ret ini n1 Post (mm_W p l e R s m args below meth c0 Q D cI cR b nL n0) := by
    obtain ⟨hx, hb, hml, hts, hown, hK, hE, hini, hR1, hR2, hR3, hR4, hcall⟩ := Z
    intro pc ls st hi τ n x y hd  k H locs lsA hnn hn hP hS hL
    exact lv_ixor hx hb hd (k H locs lsA hnn hn hP hS hL)
theorem ms_ishl (Z : mm_Z p l R s m args meth c0 D cI cR b own cc nL ini n0 n1 d CALL) : mg_ishl CALL own cc nL ret ini n1 Post (mm_W p l e R s m args below meth c0 Q D cI cR b nL n0) := by
    obtain ⟨hx, hb, hml, hts, hown, hK, hE, hini, hR1, hR2, hR3, hR4, hcall⟩ := Z
    intro pc ls st hi τ n x y hd  k H locs lsA hnn hn hP hS hL
    exact lv_ishl hx hb hd (k H locs lsA hnn hn hP hS hL)
theorem ms_ishr (Z : mm_Z p l R s m args meth c0 D cI cR b own cc nL ini n0 n1 d CALL) : mg_ishr CALL own cc nL ret ini n1 Post (mm_W p l e R s m args below meth c0 Q D cI cR b nL n0) := by
    obtain ⟨hx, hb, hml, hts, hown, hK, hE, hini, hR1, hR2, hR3, hR4, hcall⟩ := Z
    intro pc ls st hi τ n x y hd  k H locs lsA hnn hn hP hS hL
    exact lv_ishr hx hb hd (k H locs lsA hnn hn hP hS hL)
theorem ms_iushr (Z : mm_Z p l R s m args meth c0 D cI cR b own cc nL ini n0 n1 d CALL) : mg_iushr CALL own cc nL ret ini n1 Post (mm_W p l e R s m args below meth c0 Q D cI cR b nL n0) := by
    obtain ⟨hx, hb, hml, hts, hown, hK, hE, hini, hR1, hR2, hR3, hR4, hcall⟩ := Z
    intro pc ls st hi τ n x y v hd h0 k H locs lsA hnn hn hP hS hL
    exact lv_iushr hx hb hd h0 (k H locs lsA hnn hn hP hS hL)
theorem ms_idiv (Z : mm_Z p l R s m args meth c0 D cI cR b own cc nL ini n0 n1 d CALL) : mg_idiv CALL own cc nL ret ini n1 Post (mm_W p l e R s m args below meth c0 Q D cI cR b nL n0) := by
    obtain ⟨hx, hb, hml, hts, hown, hK, hE, hini, hR1, hR2, hR3, hR4, hcall⟩ := Z
    intro pc ls st hi τ n x y hd h0 k H locs lsA hnn hn hP hS hL
    exact lv_idiv hx hb hd h0 (k H locs lsA hnn hn hP hS hL)
theorem ms_irem (Z : mm_Z p l R s m args meth c0 D cI cR b own cc nL ini n0 n1 d CALL) : mg_irem CALL own cc nL ret ini n1 Post (mm_W p l e R s m args below meth c0 Q D cI cR b nL n0) := by
    obtain ⟨hx, hb, hml, hts, hown, hK, hE, hini, hR1, hR2, hR3, hR4, hcall⟩ := Z
    intro pc ls st hi τ n x y hd h0 k H locs lsA hnn hn hP hS hL
    exact lv_irem hx hb hd h0 (k H locs lsA hnn hn hP hS hL)
theorem ms_ineg (Z : mm_Z p l R s m args meth c0 D cI cR b own cc nL ini n0 n1 d CALL) : mg_ineg CALL own cc nL ret ini n1 Post (mm_W p l e R s m args below meth c0 Q D cI cR b nL n0) := by
    obtain ⟨hx, hb, hml, hts, hown, hK, hE, hini, hR1, hR2, hR3, hR4, hcall⟩ := Z
    intro pc ls st hi τ n x hd  k H locs lsA hnn hn hP hS hL
    exact lv_ineg hx hb hd (k H locs lsA hnn hn hP hS hL)
theorem ms_ladd (Z : mm_Z p l R s m args meth c0 D cI cR b own cc nL ini n0 n1 d CALL) : mg_ladd CALL own cc nL ret ini n1 Post (mm_W p l e R s m args below meth c0 Q D cI cR b nL n0) := by
    obtain ⟨hx, hb, hml, hts, hown, hK, hE, hini, hR1, hR2, hR3, hR4, hcall⟩ := Z
    intro pc ls st hi τ n x y hd  k H locs lsA hnn hn hP hS hL
    exact lv_ladd hx hb hd (k H locs lsA hnn hn hP hS hL)
theorem ms_lcmp (Z : mm_Z p l R s m args meth c0 D cI cR b own cc nL ini n0 n1 d CALL) : mg_lcmp CALL own cc nL ret ini n1 Post (mm_W p l e R s m args below meth c0 Q D cI cR b nL n0) := by
    obtain ⟨hx, hb, hml, hts, hown, hK, hE, hini, hR1, hR2, hR3, hR4, hcall⟩ := Z
    intro pc ls st hi τ n x y hd  k H locs lsA hnn hn hP hS hL
    exact W.lcmp hx hb hd (k H locs lsA hnn hn hP hS hL)
theorem ms_dup (Z : mm_Z p l R s m args meth c0 D cI cR b own cc nL ini n0 n1 d CALL) : mg_dup CALL own cc nL ret ini n1 Post (mm_W p l e R s m args below meth c0 Q D cI cR b nL n0) := by
    obtain ⟨hx, hb, hml, hts, hown, hK, hE, hini, hR1, hR2, hR3, hR4, hcall⟩ := Z
    intro pc ls st hi τ n v hd h0 k H locs lsA hnn hn hP hS hL
    exact lv_dup hx hb hd ((mm_rlc b v).trans h0) (k H locs lsA hnn hn hP hS hL)
theorem ms_pop (Z : mm_Z p l R s m args meth c0 D cI cR b own cc nL ini n0 n1 d CALL) : mg_pop CALL own cc nL ret ini n1 Post (mm_W p l e R s m args below meth c0 Q D cI cR b nL n0) := by
    obtain ⟨hx, hb, hml, hts, hown, hK, hE, hini, hR1, hR2, hR3, hR4, hcall⟩ := Z
    intro pc ls st hi τ n v hd h0 k H locs lsA hnn hn hP hS hL
    exact lv_pop hx hb hd ((mm_rlc b v).trans h0) (k H locs lsA hnn hn hP hS hL)
theorem ms_dup_x1 (Z : mm_Z p l R s m args meth c0 D cI cR b own cc nL ini n0 n1 d CALL) : mg_dup_x1 CALL own cc nL ret ini n1 Post (mm_W p l e R s m args below meth c0 Q D cI cR b nL n0) := by
    obtain ⟨hx, hb, hml, hts, hown, hK, hE, hini, hR1, hR2, hR3, hR4, hcall⟩ := Z
    intro pc ls st hi τ n v w hd h0 h1 k H locs lsA hnn hn hP hS hL
    exact lv_dup_x1 hx hb hd ((mm_rlc b v).trans h0) ((mm_rlc b w).trans h1) (k H locs lsA hnn hn hP hS hL)
theorem ms_dup2 (Z : mm_Z p l R s m args meth c0 D cI cR b own cc nL ini n0 n1 d CALL) : mg_dup2 CALL own cc nL ret ini n1 Post (mm_W p l e R s m args below meth c0 Q D cI cR b nL n0) := by
    obtain ⟨hx, hb, hml, hts, hown, hK, hE, hini, hR1, hR2, hR3, hR4, hcall⟩ := Z
    intro pc ls st hi τ n v w hd h0 h1 k H locs lsA hnn hn hP hS hL
    exact lv_dup2_11 hx hb hd ((mm_rlc b v).trans h0) ((mm_rlc b w).trans h1) (k H locs lsA hnn hn hP hS hL)
theorem ms_if_eq (Z : mm_Z p l R s m args meth c0 D cI cR b own cc nL ini n0 n1 d CALL) : mg_if_eq CALL own cc nL ret ini n1 Post (mm_W p l e R s m args below meth c0 Q D cI cR b nL n0) := by
    obtain ⟨hx, hb, hml, hts, hown, hK, hE, hini, hR1, hR2, hR3, hR4, hcall⟩ := Z
    intro pc ls st hi τ n x off tgt hd ht kt kf H locs lsA hnn hn hP hS hL
    exact lv_if_eq hx hb hd ht (fun q => kt q H locs lsA hnn hn hP hS hL) (fun q => kf q H locs lsA hnn hn hP hS hL)
theorem ms_icmp_eq (Z : mm_Z p l R s m args meth c0 D cI cR b own cc nL ini n0 n1 d CALL) : mg_icmp_eq CALL own cc nL ret ini n1 Post (mm_W p l e R s m args below meth c0 Q D cI cR b nL n0) := by
    obtain ⟨hx, hb, hml, hts, hown, hK, hE, hini, hR1, hR2, hR3, hR4, hcall⟩ := Z
    intro pc ls st hi τ n x y off tgt hd ht kt kf H locs lsA hnn hn hP hS hL
    exact lv_icmp_eq hx hb hd ht (fun q => kt q H locs lsA hnn hn hP hS hL) (fun q => kf q H locs lsA hnn hn hP hS hL)
theorem ms_if_ne (Z : mm_Z p l R s m args meth c0 D cI cR b own cc nL ini n0 n1 d CALL) : mg_if_ne CALL own cc nL ret ini n1 Post (mm_W p l e R s m args below meth c0 Q D cI cR b nL n0) := by
    obtain ⟨hx, hb, hml, hts, hown, hK, hE, hini, hR1, hR2, hR3, hR4, hcall⟩ := Z
    intro pc ls st hi τ n x off tgt hd ht kt kf H locs lsA hnn hn hP hS hL
    exact lv_if_ne hx hb hd ht (fun q => kt q H locs lsA hnn hn hP hS hL) (fun q => kf q H locs lsA hnn hn hP hS hL)
theorem ms_icmp_ne (Z : mm_Z p l R s m args meth c0 D cI cR b own cc nL ini n0 n1 d CALL) : mg_icmp_ne CALL own cc nL ret ini n1 Post (mm_W p l e R s m args below meth c0 Q D cI cR b nL n0) := by
    obtain ⟨hx, hb, hml, hts, hown, hK, hE, hini, hR1, hR2, hR3, hR4, hcall⟩ := Z
    intro pc ls st hi τ n x y off tgt hd ht kt kf H locs lsA hnn hn hP hS hL
    exact lv_icmp_ne hx hb hd ht (fun q => kt q H locs lsA hnn hn hP hS hL) (fun q => kf q H locs lsA hnn hn hP hS hL)
theorem ms_if_lt (Z : mm_Z p l R s m args meth c0 D cI cR b own cc nL ini n0 n1 d CALL) : mg_if_lt CALL own cc nL ret ini n1 Post (mm_W p l e R s m args below meth c0 Q D cI cR b nL n0) := by
    obtain ⟨hx, hb, hml, hts, hown, hK, hE, hini, hR1, hR2, hR3, hR4, hcall⟩ := Z
    intro pc ls st hi τ n x off tgt hd ht kt kf H locs lsA hnn hn hP hS hL
    exact lv_if_lt hx hb hd ht (fun q => kt q H locs lsA hnn hn hP hS hL) (fun q => kf q H locs lsA hnn hn hP hS hL)
theorem ms_icmp_lt (Z : mm_Z p l R s m args meth c0 D cI cR b own cc nL ini n0 n1 d CALL) : mg_icmp_lt CALL own cc nL ret ini n1 Post (mm_W p l e R s m args below meth c0 Q D cI cR b nL n0) := by
    obtain ⟨hx, hb, hml, hts, hown, hK, hE, hini, hR1, hR2, hR3, hR4, hcall⟩ := Z
    intro pc ls st hi τ n x y off tgt hd ht kt kf H locs lsA hnn hn hP hS hL
    exact lv_icmp_lt hx hb hd ht (fun q => kt q H locs lsA hnn hn hP hS hL) (fun q => kf q H locs lsA hnn hn hP hS hL)
theorem ms_if_ge (Z : mm_Z p l R s m args meth c0 D cI cR b own cc nL ini n0 n1 d CALL) : mg_if_ge CALL own cc nL ret ini n1 Post (mm_W p l e R s m args below meth c0 Q D cI cR b nL n0) := by
    obtain ⟨hx, hb, hml, hts, hown, hK, hE, hini, hR1, hR2, hR3, hR4, hcall⟩ := Z
    intro pc ls st hi τ n x off tgt hd ht kt kf H locs lsA hnn hn hP hS hL
    exact lv_if_ge hx hb hd ht (fun q => kt q H locs lsA hnn hn hP hS hL) (fun q => kf q H locs lsA hnn hn hP hS hL)
theorem ms_icmp_ge (Z : mm_Z p l R s m args meth c0 D cI cR b own cc nL ini n0 n1 d CALL) : mg_icmp_ge CALL own cc nL ret ini n1 Post (mm_W p l e R s m args below meth c0 Q D cI cR b nL n0) := by
    obtain ⟨hx, hb, hml, hts, hown, hK, hE, hini, hR1, hR2, hR3, hR4, hcall⟩ := Z
    intro pc ls st hi τ n x y off tgt hd ht kt kf H locs lsA hnn hn hP hS hL
    exact lv_icmp_ge hx hb hd ht (fun q => kt q H locs lsA hnn hn hP hS hL) (fun q => kf q H locs lsA hnn hn hP hS hL)
theorem ms_if_gt (Z : mm_Z p l R s m args meth c0 D cI cR b own cc nL ini n0 n1 d CALL) : mg_if_gt CALL own cc nL ret ini n1 Post (mm_W p l e R s m args below meth c0 Q D cI cR b nL n0) := by
    obtain ⟨hx, hb, hml, hts, hown, hK, hE, hini, hR1, hR2, hR3, hR4, hcall⟩ := Z
    intro pc ls st hi τ n x off tgt hd ht kt kf H locs lsA hnn hn hP hS hL
    exact lv_if_gt hx hb hd ht (fun q => kt q H locs lsA hnn hn hP hS hL) (fun q => kf q H locs lsA hnn hn hP hS hL)
theorem ms_icmp_gt (Z : mm_Z p l R s m args meth c0 D cI cR b own cc nL ini n0 n1 d CALL) : mg_icmp_gt CALL own cc nL ret ini n1 Post (mm_W p l e R s m args below meth c0 Q D cI cR b nL n0) := by
    obtain ⟨hx, hb, hml, hts, hown, hK, hE, hini, hR1, hR2, hR3, hR4, hcall⟩ := Z
    intro pc ls st hi τ n x y off tgt hd ht kt kf H locs lsA hnn hn hP hS hL
    exact lv_icmp_gt hx hb hd ht (fun q => kt q H locs lsA hnn hn hP hS hL) (fun q => kf q H locs lsA hnn hn hP hS hL)
theorem ms_if_le (Z : mm_Z p l R s m args meth c0 D cI cR b own cc nL ini n0 n1 d CALL) : mg_if_le CALL own cc nL ret ini n1 Post (mm_W p l e R s m args below meth c0 Q D cI cR b nL n0) := by
    obtain ⟨hx, hb, hml, hts, hown, hK, hE, hini, hR1, hR2, hR3, hR4, hcall⟩ := Z
    intro pc ls st hi τ n x off tgt hd ht kt kf H locs lsA hnn hn hP hS hL
    exact lv_if_le hx hb hd ht (fun q => kt q H locs lsA hnn hn hP hS hL) (fun q => kf q H locs lsA hnn hn hP hS hL)
theorem ms_icmp_le (Z : mm_Z p l R s m args meth c0 D cI cR b own cc nL ini n0 n1 d CALL) : mg_icmp_le CALL own cc nL ret ini n1 Post (mm_W p l e R s m args below meth c0 Q D cI cR b nL n0) := by
    obtain ⟨hx, hb, hml, hts, hown, hK, hE, hini, hR1, hR2, hR3, hR4, hcall⟩ := Z
    intro pc ls st hi τ n x y off tgt hd ht kt kf H locs lsA hnn hn hP hS hL
    exact lv_icmp_le hx hb hd ht (fun q => kt q H locs lsA hnn hn hP hS hL) (fun q => kf q H locs lsA hnn hn hP hS hL)
theorem ms_goto (Z : mm_Z p l R s m args meth c0 D cI cR b own cc nL ini n0 n1 d CALL) : mg_goto CALL own cc nL ret ini n1 Post (mm_W p l e R s m args below meth c0 Q D cI cR b nL n0) := by
    obtain ⟨hx, hb, hml, hts, hown, hK, hE, hini, hR1, hR2, hR3, hR4, hcall⟩ := Z
    intro pc ls st hi τ n off tgt hd ht k H locs lsA hnn hn hP hS hL
    exact lv_goto hx hb hd ht (k H locs lsA hnn hn hP hS hL)
theorem ms_tableOut (Z : mm_Z p l R s m args meth c0 D cI cR b own cc nL ini n0 n1 d CALL) : mg_tableOut CALL own cc nL ret ini n1 Post (mm_W p l e R s m args below meth c0 Q D cI cR b nL n0) := by
    obtain ⟨hx, hb, hml, hts, hown, hK, hE, hini, hR1, hR2, hR3, hR4, hcall⟩ := Z
    intro pc ls st hi τ n dflt lo hh offs len x tgt hd h0 ht k H locs lsA hnn hn hP hS hL
    exact lv_tableOut hx hb hd h0 ht (k H locs lsA hnn hn hP hS hL)
theorem ms_tableIn (Z : mm_Z p l R s m args meth c0 D cI cR b own cc nL ini n0 n1 d CALL) : mg_tableIn CALL own cc nL ret ini n1 Post (mm_W p l e R s m args below meth c0 Q D cI cR b nL n0) := by
    obtain ⟨hx, hb, hml, hts, hown, hK, hE, hini, hR1, hR2, hR3, hR4, hcall⟩ := Z
    intro pc ls st hi τ n dflt lo hh offs len x off tgt hd h0 h1 h2 ht k H locs lsA hnn hn hP hS hL
    exact lv_tableIn hx hb hd h0 h1 h2 ht (k H locs lsA hnn hn hP hS hL)
theorem ms_lookup (Z : mm_Z p l R s m args meth c0 D cI cR b own cc nL ini n0 n1 d CALL) : mg_lookup CALL own cc nL ret ini n1 Post (mm_W p l e R s m args below meth c0 Q D cI cR b nL n0) := by
    obtain ⟨hx, hb, hml, hts, hown, hK, hE, hini, hR1, hR2, hR3, hR4, hcall⟩ := Z
    intro pc ls st hi τ n dflt ps len x off tgt hd h0 h1 ht k H locs lsA hnn hn hP hS hL
    exact lv_lookup hx hb hd h0 h1 ht (k H locs lsA hnn hn hP hS hL)
theorem ms_getI (Z : mm_Z p l R s m args meth c0 D cI cR b own cc nL ini n0 n1 d CALL) : mg_getI CALL own cc nL ret ini n1 Post (mm_W p l e R s m args below meth c0 Q D cI cR b nL n0) := by
    obtain ⟨hx, hb, hml, hts, hown, hK, hE, hini, hR1, hR2, hR3, hR4, hcall⟩ := Z
    intro pc ls st hi τ n ix ci k tc c fin ow hd h0 h1 h2 h3 kk H locs lsA hnn hn hP hS hL
    exact mm_getf hx hb hts hown hK hP hd h0 h2 h3 (v := mm_rl b (.int (hi c k))) (by rcases h1 with rfl | rfl <;> rfl) (kk H locs lsA hnn hn hP hS hL)
theorem ms_getR (Z : mm_Z p l R s m args meth c0 D cI cR b own cc nL ini n0 n1 d CALL) : mg_getR CALL own cc nL ret ini n1 Post (mm_W p l e R s m args below meth c0 Q D cI cR b nL n0) := by
    obtain ⟨hx, hb, hml, hts, hown, hK, hE, hini, hR1, hR2, hR3, hR4, hcall⟩ := Z
    intro pc ls st hi τ n ix ci k tc c fin ow hd h0 h1 h2 h3 kk H locs lsA hnn hn hP hS hL
    exact mm_getf hx hb hts hown hK hP hd h0 h2 h3 (v := mm_rl b (va_rf (τ.1 c k))) (by subst h1; exact (mm_rl_rf b _).symm) (kk H locs lsA hnn hn hP hS hL)
theorem ms_getL (Z : mm_Z p l R s m args meth c0 D cI cR b own cc nL ini n0 n1 d CALL) : mg_getL CALL own cc nL ret ini n1 Post (mm_W p l e R s m args below meth c0 Q D cI cR b nL n0) := by
    obtain ⟨hx, hb, hml, hts, hown, hK, hE, hini, hR1, hR2, hR3, hR4, hcall⟩ := Z
    intro pc ls st hi τ n ix ci k tc c fin ow hd h0 h1 h2 h3 kk H locs lsA hnn hn hP hS hL
    exact mm_getf hx hb hts hown hK hP hd h0 h2 h3 (v := mm_rl b (.long (τ.2 c k))) (by subst h1; rfl) (kk H locs lsA hnn hn hP hS hL)
theorem ms_putI (Z : mm_Z p l R s m args meth c0 D cI cR b own cc nL ini n0 n1 d CALL) : mg_putI CALL own cc nL ret ini n1 Post (mm_W p l e R s m args below meth c0 Q D cI cR b nL n0) := by
    obtain ⟨hx, hb, hml, hts, hown, hK, hE, hini, hR1, hR2, hR3, hR4, hcall⟩ := Z
    intro pc ls st hi τ n ix ci k tc c fin ow x hd h0 hf h1 h2 h3 kk H locs lsA hnn hn hP hS hL
    exact mm_putf hx hb hts hown hK hP hS hini hd h0 hf h2 h3 (v := mm_rl b (.int x)) (mm_okI h1) (mm_newI h1) (fun c1 hc1 => ⟨by simp [va_up, hc1], by simp [va_up, hc1], by simp [va_up, hc1]⟩) (fun H1 locs1 e1 hP1 hS1 => kk H1 locs1 lsA hnn (e1.trans hn) hP1 hS1 hL)
theorem ms_putR (Z : mm_Z p l R s m args meth c0 D cI cR b own cc nL ini n0 n1 d CALL) : mg_putR CALL own cc nL ret ini n1 Post (mm_W p l e R s m args below meth c0 Q D cI cR b nL n0) := by
    obtain ⟨hx, hb, hml, hts, hown, hK, hE, hini, hR1, hR2, hR3, hR4, hcall⟩ := Z
    intro pc ls st hi τ n ix ci k tc c fin ow x hd h0 hf h1 h2 h3 kk H locs lsA hnn hn hP hS hL
    exact mm_putf hx hb hts hown hK hP hS hini hd h0 hf h2 h3 (v := mm_rl b (.ref x)) (mm_okR h1) (mm_newR h1) (fun c1 hc1 => ⟨by simp [va_up, hc1], by simp [va_up, hc1], by simp [va_up, hc1]⟩) (fun H1 locs1 e1 hP1 hS1 => kk H1 locs1 lsA hnn (e1.trans hn) hP1 hS1 hL)
theorem ms_putL (Z : mm_Z p l R s m args meth c0 D cI cR b own cc nL ini n0 n1 d CALL) : mg_putL CALL own cc nL ret ini n1 Post (mm_W p l e R s m args below meth c0 Q D cI cR b nL n0) := by
    obtain ⟨hx, hb, hml, hts, hown, hK, hE, hini, hR1, hR2, hR3, hR4, hcall⟩ := Z
    intro pc ls st hi τ n ix ci k tc c fin ow x hd h0 hf h1 h2 h3 kk H locs lsA hnn hn hP hS hL
    exact mm_putf hx hb hts hown hK hP hS hini hd h0 hf h2 h3 (v := mm_rl b (.long x)) (mm_okL h1) (mm_newL h1) (fun c1 hc1 => ⟨by simp [va_up, hc1], by simp [va_up, hc1], by simp [va_up, hc1]⟩) (fun H1 locs1 e1 hP1 hS1 => kk H1 locs1 lsA hnn (e1.trans hn) hP1 hS1 hL)
theorem ms_iald (Z : mm_Z p l R s m args meth c0 D cI cR b own cc nL ini n0 n1 d CALL) : mg_iald CALL own cc nL ret ini n1 Post (mm_W p l e R s m args below meth c0 Q D cI cR b nL n0) := by
    obtain ⟨hx, hb, hml, hts, hown, hK, hE, hini, hR1, hR2, hR3, hR4, hcall⟩ := Z
    intro pc ls st hi τ n c N i hd h0 h1 h2 k H locs lsA hnn hn hP hS hL
    exact mm_iald hx hb hK hP hd h0 h1 h2 (k H locs lsA hnn hn hP hS hL)
theorem ms_iast (Z : mm_Z p l R s m args meth c0 D cI cR b own cc nL ini n0 n1 d CALL) : mg_iast CALL own cc nL ret ini n1 Post (mm_W p l e R s m args below meth c0 Q D cI cR b nL n0) := by
    obtain ⟨hx, hb, hml, hts, hown, hK, hE, hini, hR1, hR2, hR3, hR4, hcall⟩ := Z
    intro pc ls st hi τ n c N i x hd h0 h1 h2 k H locs lsA hnn hn hP hS hL
    exact mm_iast hx hb hK hP hS hd h0 h1 h2 (fun H1 locs1 e1 hP1 hS1 => k H1 locs1 lsA hnn (e1.trans hn) hP1 hS1 hL)
theorem ms_alen (Z : mm_Z p l R s m args meth c0 D cI cR b own cc nL ini n0 n1 d CALL) : mg_alen CALL own cc nL ret ini n1 Post (mm_W p l e R s m args below meth c0 Q D cI cR b nL n0) := by
    obtain ⟨hx, hb, hml, hts, hown, hK, hE, hini, hR1, hR2, hR3, hR4, hcall⟩ := Z
    intro pc ls st hi τ n c N hd h0 h1 k H locs lsA hnn hn hP hS hL
    exact mm_alen hx hb hK hP hd h0 h1 (k H locs lsA hnn hn hP hS hL)
theorem ms_aald (Z : mm_Z p l R s m args meth c0 D cI cR b own cc nL ini n0 n1 d CALL) : mg_aald CALL own cc nL ret ini n1 Post (mm_W p l e R s m args below meth c0 Q D cI cR b nL n0) := by
    obtain ⟨hx, hb, hml, hts, hown, hK, hE, hini, hR1, hR2, hR3, hR4, hcall⟩ := Z
    intro pc ls st hi τ n c N i hd h0 h1 h2 k H locs lsA hnn hn hP hS hL
    refine mm_aald hx hb hK hP hd h0 h1 h2 ?_
    rw [← mm_rl_rf]
    exact k H locs lsA hnn hn hP hS hL
theorem ms_aast (Z : mm_Z p l R s m args meth c0 D cI cR b own cc nL ini n0 n1 d CALL) : mg_aast CALL own cc nL ret ini n1 Post (mm_W p l e R s m args below meth c0 Q D cI cR b nL n0) := by
    obtain ⟨hx, hb, hml, hts, hown, hK, hE, hini, hR1, hR2, hR3, hR4, hcall⟩ := Z
    intro pc ls st hi τ n c N x i hd h0 h1 h2 h3 h4 k H locs lsA hnn hn hP hS hL
    exact mm_aast hx hb hK hP hS hd h0 h1 h2 h3 h4 (fun H1 locs1 e1 hP1 hS1 => k H1 locs1 lsA hnn (e1.trans hn) hP1 hS1 hL)
theorem ms_new (Z : mm_Z p l R s m args meth c0 D cI cR b own cc nL ini n0 n1 d CALL) : mg_new CALL own cc nL ret ini n1 Post (mm_W p l e R s m args below meth c0 Q D cI cR b nL n0) := by
    obtain ⟨hx, hb, hml, hts, hown, hK, hE, hini, hR1, hR2, hR3, hR4, hcall⟩ := Z
    intro pc ls st hi τ n ix ci hd h0 h1 h2 k H locs lsA hnn hn hP hS hL
    have er := mm_room (n0 := n0) hnn h2
    exact mm_new hx hb hts hown hK hP hS hn hd h0 h1 (by omega) (by omega) (fun H1 e1 hP1 hS1 => by
      have h9 := k H1 locs lsA (by omega) e1 hP1 hS1 hL
      rw [er.1, er.2.1] at h9
      exact h9)
theorem ms_newa (Z : mm_Z p l R s m args meth c0 D cI cR b own cc nL ini n0 n1 d CALL) : mg_newa CALL own cc nL ret ini n1 Post (mm_W p l e R s m args below meth c0 Q D cI cR b nL n0) := by
    obtain ⟨hx, hb, hml, hts, hown, hK, hE, hini, hR1, hR2, hR3, hR4, hcall⟩ := Z
    intro pc ls st hi τ n N i hd h0 h1 h2 h3 k H locs lsA hnn hn hP hS hL
    have er := mm_room (n0 := n0) hnn h3
    exact mm_newa hx hb hts hK hP hS hn hd h0 h1 h2 (by omega) (by omega) (fun H1 e1 hP1 hS1 => by
      have h9 := k H1 locs lsA (by omega) e1 hP1 hS1 hL
      rw [er.1, er.2.1] at h9
      exact h9)
theorem ms_anew (Z : mm_Z p l R s m args meth c0 D cI cR b own cc nL ini n0 n1 d CALL) : mg_anew CALL own cc nL ret ini n1 Post (mm_W p l e R s m args below meth c0 Q D cI cR b nL n0) := by
    obtain ⟨hx, hb, hml, hts, hown, hK, hE, hini, hR1, hR2, hR3, hR4, hcall⟩ := Z
    intro pc ls st hi τ n ix N i hd hc h0 h1 h2 h3 k H locs lsA hnn hn hP hS hL
    have er := mm_room (n0 := n0) hnn h3
    exact mm_anew hx hb hts hown hE hK hP hS hn hd hc h0 h1 h2 (by omega) (by omega) (fun H1 e1 hP1 hS1 => by
      have h9 := k H1 locs lsA (by omega) e1 hP1 hS1 hL
      rw [er.1, er.2.1] at h9
      exact h9)
theorem ms_objInit (Z : mm_Z p l R s m args meth c0 D cI cR b own cc nL ini n0 n1 d CALL) : mg_objInit CALL own cc nL ret ini n1 Post (mm_W p l e R s m args below meth c0 Q D cI cR b nL n0) := by
    obtain ⟨hx, hb, hml, hts, hown, hK, hE, hini, hR1, hR2, hR3, hR4, hcall⟩ := Z
    intro pc ls st hi τ n ix c hd h0 h1 k H locs lsA hnn hn hP hS hL
    exact W.objInit hx hb hown (hts _ h0) (hts _ mm_oi1) (hts _ mm_oi2) rfl (hL.1.1.trans hml.symm) rfl hd (by omega) (by rw [mm_rlm]; show 2 * 0 + _ + 12 ≤ R.locals; omega) (k H locs lsA hnn hn hP hS hL)
theorem ms_copy (Z : mm_Z p l R s m args meth c0 D cI cR b own cc nL ini n0 n1 d CALL) : mg_copy CALL own cc nL ret ini n1 Post (mm_W p l e R s m args below meth c0 Q D cI cR b nL n0) := by
    obtain ⟨hx, hb, hml, hts, hown, hK, hE, hini, hR1, hR2, hR3, hR4, hcall⟩ := Z
    intro pc ls st hi τ n ix c c1 N N1 sp dp z hd h0 h1 h2 h3 h4 h5 h6 h7 h8 h9 h10 k H locs lsA hnn hn hP hS hL
    exact mm_copy hx hb (hml.trans hL.1.1.symm) hts hown hK hP hS hd h0 h1 h2 h3 h4 h5 h6 h7 h8 h9 (by omega) (by rw [mm_rlm]; omega) (fun H1 locs1 e1 hP1 hS1 => k H1 locs1 lsA hnn (e1.trans hn) hP1 hS1 hL)
theorem ms_mmax (Z : mm_Z p l R s m args meth c0 D cI cR b own cc nL ini n0 n1 d CALL) : mg_mmax CALL own cc nL ret ini n1 Post (mm_W p l e R s m args below meth c0 Q D cI cR b nL n0) := by
    obtain ⟨hx, hb, hml, hts, hown, hK, hE, hini, hR1, hR2, hR3, hR4, hcall⟩ := Z
    intro pc ls st hi τ n ix x y hd h0 h1 h2 k H locs lsA hnn hn hP hS hL
    have er := mm_sl_mono h1
    exact va_mmax hx hb (hml.trans hL.1.1.symm) hown (hts _ h0) (hts _ mm_mx1) (hts _ mm_mi) (hts _ mm_mx2) (by omega) (by rw [mm_rlm]; omega) (by omega) (by omega) hd (k H locs lsA hnn hn hP hS hL)
theorem ms_mabs (Z : mm_Z p l R s m args meth c0 D cI cR b own cc nL ini n0 n1 d CALL) : mg_mabs CALL own cc nL ret ini n1 Post (mm_W p l e R s m args below meth c0 Q D cI cR b nL n0) := by
    obtain ⟨hx, hb, hml, hts, hown, hK, hE, hini, hR1, hR2, hR3, hR4, hcall⟩ := Z
    intro pc ls st hi τ n ix x hd h0 h1 h2 k H locs lsA hnn hn hP hS hL
    have er := mm_sl_mono h1
    exact va_mabs hx hb (hml.trans hL.1.1.symm) hown (hts _ h0) (hts _ mm_ab1) (hts _ mm_mi) (hts _ mm_ab2) (by omega) (by rw [mm_rlm]; omega) (by omega) (by omega) hd (k H locs lsA hnn hn hP hS hL)
theorem ms_callS (Z : mm_Z p l R s m args meth c0 D cI cR b own cc nL ini n0 n1 d CALL) : mg_callS CALL own cc nL ret ini n1 Post (mm_W p l e R s m args below meth c0 Q D cI cR b nL n0) := by
    obtain ⟨hx, hb, hml, hts, hown, hK, hE, hini, hR1, hR2, hR3, hR4, hcall⟩ := Z
    intro pc ls st hi τ n ix y as stk n2 na Pq hd hv hna hc hn2 hstk hsm k H locs lsA hnn hn hP hS hL
    subst hstk
    exact mm_callS hx hb hml hts hown hK hE hP hS hnn hn hR1 hR2 hR3 hR4 hd hv hna (hcall _ _ _ _ _ _ _ hc) hn2 hsm hL.1.1 (fun v hi2 τ2 H1 locs1 hq e1 hP1 hS1 => k v hi2 τ2 hq H1 locs1 lsA (by have := (hcall _ _ _ _ _ _ _ hc).choose_spec.choose_spec.choose_spec.2.1; omega) e1 hP1 hS1 hL)
theorem ms_callV (Z : mm_Z p l R s m args meth c0 D cI cR b own cc nL ini n0 n1 d CALL) : mg_callV CALL own cc nL ret ini n1 Post (mm_W p l e R s m args below meth c0 Q D cI cR b nL n0) := by
    obtain ⟨hx, hb, hml, hts, hown, hK, hE, hini, hR1, hR2, hR3, hR4, hcall⟩ := Z
    intro pc ls st hi τ n ix y as stk n2 na Pq ci c as1 hd hv has hna hlay hcn hc hn2 hstk hsm k H locs lsA hnn hn hP hS hL
    subst hstk
    subst has
    exact mm_callV hx hb hml hts hown hK hE hP hS hnn hn hR1 hR2 hR3 hR4 hd hv hna hlay hcn (hcall _ _ _ _ _ _ _ hc) hn2 hsm hL.1.1 (fun v hi2 τ2 H1 locs1 hq e1 hP1 hS1 => k v hi2 τ2 hq H1 locs1 lsA (by have := (hcall _ _ _ _ _ _ _ hc).choose_spec.choose_spec.choose_spec.2.1; omega) e1 hP1 hS1 hL)
theorem ms_callU (Z : mm_Z p l R s m args meth c0 D cI cR b own cc nL ini n0 n1 d CALL) : mg_callU CALL own cc nL ret ini n1 Post (mm_W p l e R s m args below meth c0 Q D cI cR b nL n0) := by
    obtain ⟨hx, hb, hml, hts, hown, hK, hE, hini, hR1, hR2, hR3, hR4, hcall⟩ := Z
    intro pc ls st hi τ n ix y as stk n2 na Pq ci c as1 hd hv has hna hlay hcn hc hn2 hstk hsm k H locs lsA hnn hn hP hS hL
    subst hstk
    subst has
    exact mm_callU hx hb hml hts hown hK hE hP hS hnn hn hR1 hR2 hR3 hR4 hd hv hna hlay hcn (hcall _ _ _ _ _ _ _ hc) hn2 hsm hL.1.1 (fun v hi2 τ2 H1 locs1 hq e1 hP1 hS1 => k v hi2 τ2 hq H1 locs1 lsA (by have := (hcall _ _ _ _ _ _ _ hc).choose_spec.choose_spec.choose_spec.2.1; omega) e1 hP1 hS1 hL)
theorem ms_callI (Z : mm_Z p l R s m args meth c0 D cI cR b own cc nL ini n0 n1 d CALL) : mg_callI CALL own cc nL ret ini n1 Post (mm_W p l e R s m args below meth c0 Q D cI cR b nL n0) := by
    obtain ⟨hx, hb, hml, hts, hown, hK, hE, hini, hR1, hR2, hR3, hR4, hcall⟩ := Z
    intro pc ls st hi τ n ix y as stk n2 na Pq c as1 hd hv has hna hc hn2 hstk hsm k H locs lsA hnn hn hP hS hL
    subst hstk
    subst has
    exact mm_callI hx hb hml hts hown hK hE hP hS hnn hn hR1 hR2 hR3 hR4 hd hv hna (hcall _ _ _ _ _ _ _ hc) hn2 hsm hL.1.1 (fun v hi2 τ2 H1 locs1 hq e1 hP1 hS1 => k v hi2 τ2 hq H1 locs1 lsA (by have := (hcall _ _ _ _ _ _ _ hc).choose_spec.choose_spec.choose_spec.2.1; omega) e1 hP1 hS1 hL)
theorem ms_G0 (Z : mm_Z p l R s m args meth c0 D cI cR b own cc nL ini n0 n1 d CALL) : mg_G0 CALL own cc nL ret ini n1 Post (mm_W p l e R s m args below meth c0 Q D cI cR b nL n0) := ⟨ms_iconst Z, ms_bipush Z, ms_sipush Z, ms_ldc Z, ms_ldcw Z, ms_lconst Z, ms_ldc2 Z, ms_iload_n Z⟩
theorem ms_G1 (Z : mm_Z p l R s m args meth c0 D cI cR b own cc nL ini n0 n1 d CALL) : mg_G1 CALL own cc nL ret ini n1 Post (mm_W p l e R s m args below meth c0 Q D cI cR b nL n0) := ⟨ms_iload Z, ms_aload_n Z, ms_aload Z, ms_istore_n Z, ms_istore Z, ms_astore_n Z, ms_astore Z, ms_iinc Z⟩
theorem ms_G2 (Z : mm_Z p l R s m args meth c0 D cI cR b own cc nL ini n0 n1 d CALL) : mg_G2 CALL own cc nL ret ini n1 Post (mm_W p l e R s m args below meth c0 Q D cI cR b nL n0) := ⟨ms_iadd Z, ms_isub Z, ms_imul Z, ms_iand Z, ms_ior Z, ms_ixor Z, ms_ishl Z, ms_ishr Z⟩
theorem ms_G3 (Z : mm_Z p l R s m args meth c0 D cI cR b own cc nL ini n0 n1 d CALL) : mg_G3 CALL own cc nL ret ini n1 Post (mm_W p l e R s m args below meth c0 Q D cI cR b nL n0) := ⟨ms_iushr Z, ms_idiv Z, ms_irem Z, ms_ineg Z, ms_ladd Z, ms_lcmp Z, ms_dup Z, ms_pop Z⟩
theorem ms_G4 (Z : mm_Z p l R s m args meth c0 D cI cR b own cc nL ini n0 n1 d CALL) : mg_G4 CALL own cc nL ret ini n1 Post (mm_W p l e R s m args below meth c0 Q D cI cR b nL n0) := ⟨ms_dup_x1 Z, ms_dup2 Z, ms_if_eq Z, ms_icmp_eq Z, ms_if_ne Z, ms_icmp_ne Z, ms_if_lt Z, ms_icmp_lt Z⟩
theorem ms_G5 (Z : mm_Z p l R s m args meth c0 D cI cR b own cc nL ini n0 n1 d CALL) : mg_G5 CALL own cc nL ret ini n1 Post (mm_W p l e R s m args below meth c0 Q D cI cR b nL n0) := ⟨ms_if_ge Z, ms_icmp_ge Z, ms_if_gt Z, ms_icmp_gt Z, ms_if_le Z, ms_icmp_le Z, ms_goto Z, ms_tableOut Z⟩
theorem ms_G6 (Z : mm_Z p l R s m args meth c0 D cI cR b own cc nL ini n0 n1 d CALL) : mg_G6 CALL own cc nL ret ini n1 Post (mm_W p l e R s m args below meth c0 Q D cI cR b nL n0) := ⟨ms_tableIn Z, ms_lookup Z, ms_getI Z, ms_getR Z, ms_getL Z, ms_putI Z, ms_putR Z, ms_putL Z⟩
theorem ms_G7 (Z : mm_Z p l R s m args meth c0 D cI cR b own cc nL ini n0 n1 d CALL) : mg_G7 CALL own cc nL ret ini n1 Post (mm_W p l e R s m args below meth c0 Q D cI cR b nL n0) := ⟨ms_iald Z, ms_iast Z, ms_alen Z, ms_aald Z, ms_aast Z, ms_new Z, ms_newa Z, ms_anew Z⟩
theorem ms_G8 (Z : mm_Z p l R s m args meth c0 D cI cR b own cc nL ini n0 n1 d CALL) : mg_G8 CALL own cc nL ret ini n1 Post (mm_W p l e R s m args below meth c0 Q D cI cR b nL n0) := ⟨ms_objInit Z, ms_copy Z, ms_mmax Z, ms_mabs Z, ms_callS Z, ms_callV Z, ms_callU Z, ms_callI Z⟩
theorem ms_G (Z : mm_Z p l R s m args meth c0 D cI cR b own cc nL ini n0 n1 d CALL) : mm_G0 CALL own cc nL ret ini n1 Post (mm_W p l e R s m args below meth c0 Q D cI cR b nL n0) := ⟨ms_G0 Z, ms_G1 Z, ms_G2 Z, ms_G3 Z, ms_G4 Z, ms_G5 Z, ms_G6 Z, ms_G7 Z, ms_G8 Z⟩
theorem ms_qc {H : Heap} {locs : List Loc} {v : Option Value} {hi : mm_HI} {τ : mm_T} (hq : Post v hi τ) (hn : H.size = b + n1) (hP : mm_P D cI cR b hi τ n1 H) (hS : mm_S b s.heap H locs) : ∀ t : State, t.heap = H → s.WarmedH t.vm → mm_Qc D cI cR b n1 Post args s (.returned (v.map (mm_rl b))) t := fun t ht _ => ⟨⟨v, hi, τ, rfl, hq, by rw [ht]; exact hn, by rw [ht]; exact hP⟩, fun q h => by rw [ht]; exact hS.1 q h⟩
theorem ms_iret (Z : mm_Z p l R s m args meth c0 D cI cR b own cc nL ini n0 n1 d CALL) (hr : meth.sig.returnType = ret) (hlocks : meth.locks = false) : mg_iret CALL own cc nL ret ini n1 Post (mm_W p l e R s m args below meth c0 (MQ below (mm_Qc D cI cR b n1 Post) args s (n1 - n0) (mm_sl n1 - mm_sl n0) (fun q => b ≤ q)) D cI cR b nL n0) := by
    intro pc ls st hi τ n x hd h0 h1 hq H locs lsA hnn hn hP hS hL
    subst h1
    rcases h0 with h0 | ⟨h0, h2⟩
    · subst h0
      exact W.zret Z.1 Z.2.1 hr rfl (ms_qc hq hn hP hS) hS.2 hd hlocks
    · subst h0
      exact W.zret Z.1 Z.2.1 hr (by rcases h2 with rfl | rfl <;> rfl) (ms_qc hq hn hP hS) hS.2 hd hlocks
theorem ms_lret (Z : mm_Z p l R s m args meth c0 D cI cR b own cc nL ini n0 n1 d CALL) (hr : meth.sig.returnType = ret) (hlocks : meth.locks = false) : mg_lret CALL own cc nL ret ini n1 Post (mm_W p l e R s m args below meth c0 (MQ below (mm_Qc D cI cR b n1 Post) args s (n1 - n0) (mm_sl n1 - mm_sl n0) (fun q => b ≤ q)) D cI cR b nL n0) := by
    intro pc ls st hi τ n x hd h0 h1 hq H locs lsA hnn hn hP hS hL
    subst h1; subst h0
    exact W.lret Z.1 Z.2.1 hr (ms_qc hq hn hP hS) hS.2 hd hlocks
theorem ms_aret (Z : mm_Z p l R s m args meth c0 D cI cR b own cc nL ini n0 n1 d CALL) (hr : meth.sig.returnType = ret) (hlocks : meth.locks = false) : mg_aret CALL own cc nL ret ini n1 Post (mm_W p l e R s m args below meth c0 (MQ below (mm_Qc D cI cR b n1 Post) args s (n1 - n0) (mm_sl n1 - mm_sl n0) (fun q => b ≤ q)) D cI cR b nL n0) := by
    intro pc ls st hi τ n x C hd h0 h1 hq H locs lsA hnn hn hP hS hL
    subst h1; subst h0
    exact W.aret Z.1 Z.2.1 hr (Or.inl ⟨_, rfl⟩) (Or.inr ⟨_, rfl⟩) (ms_qc hq hn hP hS) hS.2 hd hlocks
theorem ms_vret (Z : mm_Z p l R s m args meth c0 D cI cR b own cc nL ini n0 n1 d CALL) (hr : meth.sig.returnType = ret) (hlocks : meth.locks = false) : mg_vret CALL own cc nL ret ini n1 Post (mm_W p l e R s m args below meth c0 (MQ below (mm_Qc D cI cR b n1 Post) args s (n1 - n0) (mm_sl n1 - mm_sl n0) (fun q => b ≤ q)) D cI cR b nL n0) := by
    intro pc ls st hi τ n hd h0 h1 hq H locs lsA hnn hn hP hS hL
    subst h1; subst h0
    exact W.vret Z.1 Z.2.1 hr (ms_qc hq hn hP hS) hS.2 hd hlocks
end MS
theorem mm_sl_l {b : Nat} : ∀ {as : List Value}, (∀ v ∈ as, v.category = 1) → lg_sl (as.map (mm_rl b)) = as.map (fun v => Slot.val (mm_rl b v))
  | [], _ => rfl
  | v :: as, h => by
    have h1 : (mm_rl b v).category = 1 := (mm_rlc b v).trans (h v List.mem_cons_self)
    have ih := mm_sl_l (b := b) (as := as) (fun w hw => h w (List.mem_cons_of_mem _ hw))
    unfold lg_sl at ih ⊢
    rw [List.map_cons, List.flatMap_cons, ih, h1]
    rfl
theorem mm_entry {b maxL : Nat} {as : List Value} (h : as.length ≤ maxL) (hc : ∀ v ∈ as, v.category = 1) : mm_LV b maxL (as.map some ++ List.replicate (maxL - as.length) none) ((lg_sl (as.map (mm_rl b)) ++ List.replicate (maxL - (lg_sl (as.map (mm_rl b))).length) Slot.unset).toArray) := by
  have e := mm_sl_l (b := b) hc
  have hl := lv_entry (as.map (mm_rl b)) (n := maxL) (by rw [e, List.length_map]; exact h)
  refine ⟨⟨hl.1, hl.2.1, fun q hq => absurd hq List.not_mem_nil⟩, fun i v hi => ?_⟩
  by_cases hlt : i < as.length
  · rw [List.getElem?_append_left (by rw [List.length_map]; exact hlt), List.getElem?_map] at hi
    cases ha : as[i]? with
    | none => rw [ha] at hi; cases hi
    | some w =>
      rw [ha] at hi
      have hw : w = v := by
        have := Option.some.inj (Option.some.inj hi)
        exact this
      subst hw
      refine ⟨?_, hc w (List.mem_of_getElem? ha)⟩
      rw [e, List.getElem?_toArray, List.getElem?_append_left (by rw [List.length_map]; exact hlt), List.getElem?_map, ha]
      rfl
  · rw [List.getElem?_append_right (by rw [List.length_map]; omega), List.getElem?_replicate] at hi
    split at hi <;> cases hi
theorem mm_sound (l : Launch) (D : va_G) (cI cR : ClassId) (b : Nat) : ∀ (d : Nat) (y : MethodName) (as : List Value) (hi : mm_HI) (τ : mm_T) (n n1 : Nat) (Post : mm_Q), mm_wp d y as hi τ n n1 Post → mm_Met l D cI cR b d y as hi τ n n1 Post
  | 0, _, _, _, _, _, _, _, h => h.elim
  | d + 1, y, as, hi, τ, n, n1, Post, h => by
    obtain ⟨bytes, maxL, ret, hM, hle, hlen, hcat, hX⟩ := h
    refine ⟨bytes, maxL, ret, hM, hle, Met.ofW (cc := bytes) (maxL := maxL) (ret := ret) hM.2.1 rfl ?_⟩
    intro p e s m args below meth c s₁ B hml hv
    obtain ⟨rfl, hsz, hP, hK, hE⟩ := hv
    have hts0 := atoms_spec (ws := Cond.code y bytes maxL ret :: mm_g) B.pre
    have hts : ∀ w, mm_in w → w.before (as.map (mm_rl b)).toArray s = true := fun w hw => hts0 w (List.mem_cons_of_mem _ (mm_in_g hw))
    have hown : s.vm.findClass y.cls = some m.cls := findClass_of_methodNamed B.named
    have hnm : meth.name = y.name := (name_of_methodNamed B.named B.method).1
    have Z : mm_Z p l (mm_rm (d + 1) n n1) s m (as.map (mm_rl b)).toArray meth c D cI cR b y.cls bytes maxL (decide (y.name = "<init>")) n n1 d (mm_wp d) :=
      ⟨B.exec, B.bytes, hml, hts, hown, hK, hE, fun h => by rw [hnm]; exact of_decide_eq_true h, Nat.le_refl _, Nat.le_refl _, Nat.le_refl _, Nat.le_refl _, fun y as hi τ n n2 Pq h => mm_sound l D cI cR b d y as hi τ n n2 Pq h⟩
    rw [lg_entry_eq]
    have key := hX (mm_W p l e (mm_rm (d + 1) n n1) s m (as.map (mm_rl b)).toArray below meth c (MQ below (mm_Qc D cI cR b n1 Post) (as.map (mm_rl b)).toArray s (n1 - n) (mm_sl n1 - mm_sl n) (fun q => b ≤ q)) D cI cR b maxL n)
      ⟨ms_G Z, ms_iret Z B.returns B.notSynchronized, ms_lret Z B.returns B.notSynchronized, ms_aret Z B.returns B.notSynchronized, ms_vret Z B.returns B.notSynchronized⟩ s.heap [] _ (Nat.le_refl n) hsz hP ⟨fun _ _ => rfl, fun _ h => absurd h List.not_mem_nil⟩ (mm_entry hlen hcat)
    rw [Nat.sub_self, Nat.sub_self] at key
    exact key
