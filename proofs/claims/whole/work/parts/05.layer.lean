/-! ===== the constants: texts by their places, the table of levels ===== -/
abbrev kz_Z : Type := Nat × (Nat → Nat) × (Nat → Nat)
def lenK : List Nat := [44, 101, 86, 61, 5, 9, 46, 232, 45, 146, 10, 5]
def bytK : List (List Int32) := [[84, 82, 85, 69, 32, 70, 65, 76, 83, 69, 32, 66, 82, 69, 65, 75, 32, 76, 79, 79, 80, 32, 69, 78, 68, 67, 65, 83, 69, 32, 82, 69, 84, 85, 82, 78, 32, 70, 73, 78, 73, 83, 72, 32],
  [86, 65, 76, 79, 70, 32, 84, 65, 66, 76, 69, 32, 73, 70, 32, 85, 78, 76, 69, 83, 83, 32, 84, 69, 83, 84, 32, 87, 72, 73, 76, 69, 32, 85, 78, 84, 73, 76, 32, 70, 79, 82, 32, 83, 87, 73, 84, 67, 72, 79, 78, 32, 67, 65, 83, 69, 32, 68, 69, 70, 65, 85, 76, 84, 32, 82, 69, 83, 85, 76, 84, 73, 83, 32, 76, 69, 84, 32, 71, 76, 79, 66, 65, 76, 32, 77, 65, 78, 73, 70, 69, 83, 84, 32, 83, 84, 65, 84, 73, 67, 32],
  [82, 69, 77, 32, 69, 81, 86, 32, 78, 69, 81, 86, 32, 78, 79, 84, 32, 65, 78, 68, 32, 66, 69, 32, 86, 69, 67, 32, 68, 79, 32, 84, 72, 69, 78, 32, 79, 82, 32, 69, 76, 83, 69, 32, 84, 79, 32, 66, 89, 32, 73, 78, 84, 79, 32, 82, 69, 80, 69, 65, 84, 32, 82, 69, 80, 69, 65, 84, 87, 72, 73, 76, 69, 32, 82, 69, 80, 69, 65, 84, 85, 78, 84, 73, 76, 32],
  [36, 40, 32, 36, 41, 32, 40, 32, 41, 32, 44, 32, 59, 32, 58, 61, 32, 58, 32, 33, 32, 64, 32, 43, 32, 45, 32, 42, 32, 47, 32, 61, 32, 126, 61, 32, 60, 32, 60, 61, 32, 62, 32, 62, 61, 32, 60, 60, 32, 62, 62, 32, 126, 32, 38, 32, 124, 32, 45, 62, 32],
  [36, 41, 32, 41, 32],
  [40, 32, 33, 32, 64, 32, 36, 40, 32],
  [69, 81, 86, 32, 78, 69, 81, 86, 32, 124, 32, 38, 32, 60, 60, 32, 62, 62, 32, 61, 32, 126, 61, 32, 60, 32, 60, 61, 32, 62, 32, 62, 61, 32, 43, 32, 45, 32, 42, 32, 47, 32, 82, 69, 77, 32],
  [32, 84, 82, 85, 69, 32, 70, 65, 76, 83, 69, 32, 82, 69, 77, 32, 69, 81, 86, 32, 78, 69, 81, 86, 32, 78, 79, 84, 32, 86, 65, 76, 79, 70, 32, 84, 65, 66, 76, 69, 32, 73, 70, 32, 85, 78, 76, 69, 83, 83, 32, 84, 69, 83, 84, 32, 87, 72, 73, 76, 69, 32, 85, 78, 84, 73, 76, 32, 70, 79, 82, 32, 83, 87, 73, 84, 67, 72, 79, 78, 32, 67, 65, 83, 69, 32, 68, 69, 70, 65, 85, 76, 84, 32, 66, 82, 69, 65, 75, 32, 76, 79, 79, 80, 32, 69, 78, 68, 67, 65, 83, 69, 32, 82, 69, 84, 85, 82, 78, 32, 82, 69, 83, 85, 76, 84, 73, 83, 32, 70, 73, 78, 73, 83, 72, 32, 76, 69, 84, 32, 65, 78, 68, 32, 66, 69, 32, 71, 76, 79, 66, 65, 76, 32, 77, 65, 78, 73, 70, 69, 83, 84, 32, 83, 84, 65, 84, 73, 67, 32, 86, 69, 67, 32, 68, 79, 32, 84, 72, 69, 78, 32, 79, 82, 32, 69, 76, 83, 69, 32, 84, 79, 32, 66, 89, 32, 73, 78, 84, 79, 32, 82, 69, 80, 69, 65, 84, 32, 82, 69, 80, 69, 65, 84, 87, 72, 73, 76, 69, 32, 82, 69, 80, 69, 65, 84, 85, 78, 84, 73, 76, 32],
  [32, 84, 82, 85, 69, 32, 70, 65, 76, 83, 69, 32, 66, 82, 69, 65, 75, 32, 76, 79, 79, 80, 32, 69, 78, 68, 67, 65, 83, 69, 32, 82, 69, 84, 85, 82, 78, 32, 70, 73, 78, 73, 83, 72, 32],
  [32, 84, 82, 85, 69, 32, 70, 65, 76, 83, 69, 32, 86, 65, 76, 79, 70, 32, 84, 65, 66, 76, 69, 32, 73, 70, 32, 85, 78, 76, 69, 83, 83, 32, 84, 69, 83, 84, 32, 87, 72, 73, 76, 69, 32, 85, 78, 84, 73, 76, 32, 70, 79, 82, 32, 83, 87, 73, 84, 67, 72, 79, 78, 32, 67, 65, 83, 69, 32, 68, 69, 70, 65, 85, 76, 84, 32, 66, 82, 69, 65, 75, 32, 76, 79, 79, 80, 32, 69, 78, 68, 67, 65, 83, 69, 32, 82, 69, 84, 85, 82, 78, 32, 82, 69, 83, 85, 76, 84, 73, 83, 32, 70, 73, 78, 73, 83, 72, 32, 76, 69, 84, 32, 71, 76, 79, 66, 65, 76, 32, 77, 65, 78, 73, 70, 69, 83, 84, 32, 83, 84, 65, 84, 73, 67, 32],
  [32, 69, 81, 86, 32, 78, 69, 81, 86, 32],
  [32, 82, 69, 77, 32]]
def strK : List (String × Nat × String) := [("TokenRow", 159, "TRUE FALSE BREAK LOOP ENDCASE RETURN FINISH "),
  ("TokenRow", 161, "VALOF TABLE IF UNLESS TEST WHILE UNTIL FOR SWITCHON CASE DEFAULT RESULTIS LET GLOBAL MANIFEST STATIC "),
  ("TokenRow", 163, "REM EQV NEQV NOT AND BE VEC DO THEN OR ELSE TO BY INTO REPEAT REPEATWHILE REPEATUNTIL "),
  ("TokenRow", 137, "$( $) ( ) , ; := : ! @ + - * / = ~= < <= > >= << >> ~ & | -> "),
  ("TokenRow", 183, "$) ) "),
  ("TokenRow", 185, "( ! @ $( "),
  ("TokenRow", 71, "EQV NEQV | & << >> = ~= < <= > >= + - * / REM "),
  ("TokenRowModel", 34, " TRUE FALSE REM EQV NEQV NOT VALOF TABLE IF UNLESS TEST WHILE UNTIL FOR SWITCHON CASE DEFAULT BREAK LOOP ENDCASE RETURN RESULTIS FINISH LET AND BE GLOBAL MANIFEST STATIC VEC DO THEN OR ELSE TO BY INTO REPEAT REPEATWHILE REPEATUNTIL "),
  ("TokenRowModel", 40, " TRUE FALSE BREAK LOOP ENDCASE RETURN FINISH "),
  ("TokenRowModel", 45, " TRUE FALSE VALOF TABLE IF UNLESS TEST WHILE UNTIL FOR SWITCHON CASE DEFAULT BREAK LOOP ENDCASE RETURN RESULTIS FINISH LET GLOBAL MANIFEST STATIC "),
  ("TokenRowModel", 178, " EQV NEQV "),
  ("TokenRowModel", 180, " REM ")]
def levK : List Int32 := [0, 0, 1, 2, 3, 3, 4, 4, 4, 4, 4, 4, 5, 5, 6, 6, 6]
/-- statics that nobody writes: LEVELS, COMPACT_STRINGS, a formatter that is only carried, the texts -/
def tkS (z : kz_Z) (A : Nat → Prop) (U : State) (H : Heap) : Prop :=
  va_Z "TokenRow" "LEVELS" "[I" (.ref z.1) A U H ∧ va_T .int z.1 17 (fun j => .int (levK.getD j 0)) A U H ∧ va_Z "java/lang/String" "COMPACT_STRINGS" "Z" (.int 1) A U H ∧ va_Zq "jdk/internal/util/Preconditions" "SIOOBE_FORMATTER" "Ljava/util/function/BiFunction;" A U H ∧ vk_S 12 lenK bytK z.2.1 z.2.2 A U H
def tkR (z : kz_Z) (U : State) : Prop := ∀ (i : Nat) (r : String × Nat × String), strK[i]? = some r → vk_R r.1 r.2.1 r.2.2 (z.2.1 i) U
theorem tkS.moved {z : kz_Z} {A : Nat → Prop} {u U : State} {H : Heap} (hvm : u.vm.Alike U.vm) (h : tkS z A u H) : tkS z A U H := ⟨va_Z.moved hvm h.1, va_T.moved hvm h.2.1, va_Z.moved hvm h.2.2.1, va_Zq.moved hvm h.2.2.2.1, vk_S.moved hvm h.2.2.2.2⟩
theorem tkS.kept {z : kz_Z} {A : Nat → Prop} {U : State} {H H1 : Heap} (h : tkS z A U H) (hq : ∀ a : Nat, a < H.size → ¬ A a → H1[a]? = H[a]?) : tkS z A U H1 := ⟨h.1.kept hq, h.2.1.kept hq, h.2.2.1.kept hq, h.2.2.2.1.kept hq, h.2.2.2.2.kept hq⟩
theorem tkS.narrow {z : kz_Z} {A B : Nat → Prop} {U : State} {H : Heap} (h : tkS z A U H) (hAB : ∀ q, B q → A q) : tkS z B U H := ⟨h.1.narrow hAB, h.2.1.narrow hAB, h.2.2.1.narrow hAB, h.2.2.2.1.narrow hAB, h.2.2.2.2.narrow hAB⟩
theorem tkR.warm {z : kz_Z} {s U : State} (hW : s.WarmedH U.vm) (h : tkR z s) : tkR z U := fun i r hr => (h i r hr).warm hW
theorem tkR.same {z : kz_Z} {u U : State} (hv : U.vm = u.vm) (h : tkR z u) : tkR z U := fun i r hr => (h i r hr).same hv
/-- the same addresses: the same apartness -/
theorem kz_addr {A B : Nat → Prop} {ws ws' : va_W} (h : va_D A ws) (e : ws'.map Prod.fst = ws.map Prod.fst) (hB : ∀ q ∈ ws.map Prod.fst, B q) : va_D B ws' := by
  have key : ∀ (i : Nat) (p : Nat × va_E), ws'[i]? = some p → ∃ p0, ws[i]? = some p0 ∧ p0.1 = p.1 := by
    intro i p hp
    have h1 : (ws'.map Prod.fst)[i]? = some p.1 := by rw [List.getElem?_map, hp]; rfl
    rw [e, List.getElem?_map] at h1
    cases hq : ws[i]? with
    | none => rw [hq] at h1; cases h1
    | some p0 => rw [hq] at h1; exact ⟨p0, rfl, Option.some.inj h1⟩
  refine ⟨fun i j p q hi hj hpq => ?_, fun k q hk => ?_⟩
  · obtain ⟨p0, a1, a2⟩ := key i p hi
    obtain ⟨q0, b1, b2⟩ := key j q hj
    exact h.1 i j p0 q0 a1 b1 (a2.trans (hpq.trans b2.symm))
  · obtain ⟨p0, a1, a2⟩ := key k q hk
    rw [← a2]; exact hB _ (List.mem_map.mpr ⟨p0, List.mem_of_getElem? a1, rfl⟩)
/-- what a call needs of the tables -/
def lkV (own : String) (ix : Nat) (y : MethodName) (cc : ByteArray) (n : Nat) (ret : Option FieldType) (k : Nat) : Prop := Cond.methodLink own ix y ∈ TT ∧ Cond.instanceMethod y ∈ TT ∧ Cond.selects y.cls y y ∈ TT ∧ Cond.initialized y.cls ∈ TT ∧ Cond.code y cc n ret ∈ TT ∧ (y.cls ≠ "java/lang/invoke/MethodHandle" ∧ y.cls ≠ "java/lang/invoke/VarHandle" ∧ (parseMethodDescriptor y.desc).map (fun d => d.parameters.length) = some k)
def lkS (own : String) (ix : Nat) (y : MethodName) (cc : ByteArray) (n : Nat) (ret : Option FieldType) (k : Nat) : Prop := Cond.methodLink own ix y ∈ TT ∧ Cond.static y ∈ TT ∧ Cond.initialized y.cls ∈ TT ∧ Cond.code y cc n ret ∈ TT ∧ (y.cls ≠ "java/lang/invoke/MethodHandle" ∧ y.cls ≠ "java/lang/invoke/VarHandle" ∧ (parseMethodDescriptor y.desc).map (fun d => d.parameters.length) = some k)
section KZ
variable {p : Program} {l : Launch} {e : Env} {R : Room} {s : State} {m : MethodId} {args : Array Value} {below : List Frame} {meth : Method} {c : Code} {H : Heap} {locs : List Loc} {cells slots : Nat} {Q : State → Prop}
variable {cc : ByteArray} {pc nL : Nat} {ls : Array Slot} {rest : List Value} {D : va_G} {cA : ClassId} {A : Nat → Prop} {z : kz_Z} {w0 : Cond} {own : String}
/-- a call that makes nothing -/
theorem kz_call {Qa : State → Outcome → State → Prop} {free : Addr → Prop} {st0 : List Value} (hr : va_Run p l e R s m args below meth c H locs cells slots 0 0 (F0 m pc ls st0) rest Qa free) (hS : va_S A s.heap H locs) (hf : ∀ q, free q → A q)
    (kk : ∀ (v : Option Value) (st t : State) (H1 : Heap) (locs1 : List Loc), st.heap = H → t.heap = H1 → Qa st (.returned v) t → (∀ q ∈ locs1, A q.base) → W p l e R s m args below meth c H1 locs1 cells slots Q (F0 m (pc + 3) ls (v.toList ++ rest))) : W p l e R s m args below meth c H locs cells slots Q (F0 m pc ls st0) := by
  intro T hT X
  obtain ⟨v, st₀, t, T', L, h0, X', hL, e1, e2, hq, st⟩ := hr T hT X
  obtain ⟨t2, a1, b1⟩ := kk v st₀ t T'.heap (locs ++ L) h0 e1.symm hq (fun q hq => by
    rcases List.mem_append.mp hq with h | h
    · exact hS.2.2 q h
    · exact hf _ (hL q h)) T' rfl X'
  exact ⟨t2, st t2 a1, b1⟩
/-- a number on the stack by another name -/
theorem kz_top {x y : Int32} (h : x = y) (k : W p l e R s m args below meth c H locs cells slots Q (F0 m pc ls (.int y :: rest))) : W p l e R s m args below meth c H locs cells slots Q (F0 m pc ls (.int x :: rest)) := h ▸ k
theorem kz_topl {x y : Int64} (h : x = y) (k : W p l e R s m args below meth c H locs cells slots Q (F0 m pc ls (.long y :: rest))) : W p l e R s m args below meth c H locs cells slots Q (F0 m pc ls (.long x :: rest)) := h ▸ k
theorem kz_vm (U : State) (g : JFrame) (mk : MethodId) (a : Array Value) : (U.calling g mk a).vm = U.vm := rfl
theorem kz_heap (U : State) (g : JFrame) (mk : MethodId) (a : Array Value) : (U.calling g mk a).heap = U.heap := rfl
theorem kz_cwV {R : Room} {ix n k : Nat} {y : MethodName} {cy : ByteArray} {ret : Option FieldType} {rm : Room} (S : CallFix p m c cc nL s args (w0 :: TT) own) (hk : lkV own ix y cy n ret k) (hrc : rm.cells = 0) (hrs : rm.slots = 0) (hR : rm.frames + 1 ≤ R.frames ∧ 8 + (n + 11) + rm.locals ≤ R.locals) : CallW R s args own y.cls ix y cy n ret (Cond.code y cy n ret :: TT) rm 0 0 k := by
  obtain ⟨h1, h2, h3, h4, h5, h6⟩ := hk
  have hts := S.2.2.2.2
  have up : ∀ {w : Cond}, w ∈ TT → w.before args s = true := fun h => hts _ (List.mem_cons_of_mem _ h)
  exact ⟨callB_of k hts (tt_cc h5) rfl hrc hrs (up h4) (up h1) h6 hR, up h2, up h3⟩
theorem kz_cwS {R : Room} {ix n k : Nat} {y : MethodName} {cy : ByteArray} {ret : Option FieldType} {rm : Room} (S : CallFix p m c cc nL s args (w0 :: TT) own) (hk : lkS own ix y cy n ret k) (hrc : rm.cells = 0) (hrs : rm.slots = 0) (hR : rm.frames + 1 ≤ R.frames ∧ 8 + (n + 11) + rm.locals ≤ R.locals) : CallB R s args own ix y cy n ret (Cond.code y cy n ret :: TT) rm 0 0 k ∧ (Cond.static y).before args s = true := by
  obtain ⟨h1, h2, h4, h5, h6⟩ := hk
  have hts := S.2.2.2.2
  have up : ∀ {w : Cond}, w ∈ TT → w.before args s = true := fun h => hts _ (List.mem_cons_of_mem _ h)
  exact ⟨callB_of k hts (tt_cc h5) rfl hrc hrs (up h4) (up h1) h6 hR, up h2⟩
end KZ
/-! ===== static methods, and methods of constant texts: they change nothing; an int array may be handed in ===== -/
abbrev kz_O : Type := Option (Nat × Nat × (Nat → Int32))
def arS (o : kz_O) (sz : Nat) (U : State) (H : Heap) : Prop := ∀ (q N : Nat) (f : Nat → Int32), o = some (q, N, f) → va_T .int q N (fun j => .int (f j)) (fun x => sz ≤ x) U H
def preS (z : kz_Z) (o : kz_O) (sz : Nat) (U : State) : Prop := U.heap.size = sz ∧ tkS z (fun x => sz ≤ x) U U.heap ∧ tkR z U ∧ arS o sz U U.heap
def QS (sz : Nat) (post : Option Value → Prop) : Array Value → State → Outcome → State → Prop := fun _ st oc t => (∃ v, oc = .returned v ∧ post v) ∧ va_F (fun x => sz ≤ x) st t
def MS (l : Launch) (y : MethodName) (cy : ByteArray) (n : Nat) (ret : Option FieldType) (rm : Room) (As : List Value) (z : kz_Z) (o : kz_O) (post : Option Value → Prop) : Prop :=
  ∀ sz : Nat, Met l y (Cond.code y cy n ret :: TT) rm (va_Pc As (preS z o sz)) (QS sz post) 0 0 (fun x => sz ≤ x)
def sS (z : kz_Z) (o : kz_O) (s : State) (H : Heap) (locs : List Loc) : Prop := va_S (fun x => s.heap.size ≤ x) s.heap H locs ∧ tkS z (fun x => s.heap.size ≤ x) s s.heap ∧ tkR z s ∧ arS o s.heap.size s s.heap
theorem MS.mk {l : Launch} {y : MethodName} {cy : ByteArray} {n : Nat} {ret : Option FieldType} {rm : Room} {As : List Value} {z : kz_Z} {o : kz_O} {post : Option Value → Prop} (hy : plainName y.cls = true) (hn : (lg_sl As).length ≤ n)
    (body : ∀ (p : Program) (e : Env) (s : State) (m : MethodId) (below : List Frame) (meth : Method) (c : Code) (ls : Array Slot), CallFix p m c cy n s As.toArray (Cond.code y cy n ret :: TT) y.cls → meth.sig.returnType = ret → meth.locks = false → sS z o s s.heap [] → lv_has ls n (lv_args 0 As) →
      W p l e rm s m As.toArray below meth c s.heap [] 0 0 (MQ below (QS s.heap.size post) As.toArray s 0 0 (fun x => s.heap.size ≤ x)) (F0 m 0 ls [])) : MS l y cy n ret rm As z o post := by
  intro sz
  refine Met.ofW (cc := cy) (maxL := n) (ret := ret) hy rfl ?_
  intro p e s m args below meth c s₁ B hml hv
  obtain ⟨rfl, hsz, h1, h2, h3⟩ := hv
  subst hsz
  rw [lg_entry_eq]
  exact body p e s m below meth c _ ⟨B.exec, B.bytes, hml, findClass_of_methodNamed B.named, atoms_spec (ws := Cond.code y cy n ret :: TT) B.pre⟩ B.returns B.notSynchronized ⟨va_S.rf, h1, h2, h3⟩ (lv_entry As hn)
section KS
variable {p : Program} {l : Launch} {e : Env} {R : Room} {s : State} {m : MethodId} {args : Array Value} {below : List Frame} {meth : Method} {c : Code} {H : Heap} {locs : List Loc} {cells slots : Nat} {Q : State → Prop}
variable {cc : ByteArray} {pc nL : Nat} {ls : Array Slot} {rest : List Value} {D : va_G} {cA : ClassId} {A : Nat → Prop} {z : kz_Z} {w0 : Cond} {own : String}
theorem MS.iret {ty : FieldType} {o : kz_O} {post : Option Value → Prop} {v : Int32} (S : CallFix p m c cc nL s args (w0 :: TT) own) (hr : meth.sig.returnType = some ty) (hl : meth.locks = false) (hw : sS z o s H locs) (hdg : decode cc pc = .ok (.ireturn, 1)) (hn : narrow ty (.int v) = .int v) (hp : post (some (.int v))) :
    W p l e R s m args below meth c H locs cells slots (MQ below (QS s.heap.size post) args s cells slots (fun x => s.heap.size ≤ x)) (F0 m pc ls [.int v]) :=
  W.zret S.1 S.2.1 hr hn (fun t ht _ => ⟨⟨_, rfl, hp⟩, hw.1.F ht⟩) hw.1.2.2 hdg hl
theorem MS.vret {o : kz_O} {post : Option Value → Prop} (S : CallFix p m c cc nL s args (w0 :: TT) own) (hr : meth.sig.returnType = none) (hl : meth.locks = false) (hw : sS z o s H locs) (hdg : decode cc pc = .ok (.return_, 1)) (hp : post none) :
    W p l e R s m args below meth c H locs cells slots (MQ below (QS s.heap.size post) args s cells slots (fun x => s.heap.size ≤ x)) (F0 m pc ls []) :=
  W.vret S.1 S.2.1 hr (fun t ht _ => ⟨⟨_, rfl, hp⟩, hw.1.F ht⟩) hw.1.2.2 hdg hl
/-- what a static callee needs, out of any context -/
theorem preS.of {o : kz_O} (hS : va_S A s.heap H locs) (hA : ∀ q, s.heap.size ≤ q → A q) (tk : tkS z A s s.heap) (tr : tkR z s) (ar : arS o H.size s H) {U : State} (hU : U.heap = H) (hW : s.WarmedH U.vm) : preS z o H.size U := by
  refine ⟨by rw [hU], ?_, tr.warm hW, ?_⟩
  · rw [hU]
    exact ((tk.kept hS.2.1).narrow (fun q hq => hA q (Nat.le_trans hS.1 hq))).moved hW.alike
  · intro q N f h
    rw [hU]
    exact (ar q N f h).moved hW.alike
theorem preS.blind {o : kz_O} {sz : Nat} {As : List Value} : FrameBlind (va_Pc As (preS z o sz)) := by
  intro a U g mk q
  obtain ⟨q0, q1, q2, q3, q4⟩ := q
  exact ⟨q0, q1, q2.moved (Vm.Alike.refl U.vm), q3.same rfl, fun x N f h => (q4 x N f h).moved (Vm.Alike.refl U.vm)⟩
/-- a static call out of any context -/
theorem kz_cS {ix n k : Nat} {y : MethodName} {cy : ByteArray} {ret : Option FieldType} {rm : Room} {As : List Value} {o : kz_O} {post : Option Value → Prop} (S : CallFix p m c cc nL s args (w0 :: TT) own) (hk : lkS own ix y cy n ret k) (hM : MS l y cy n ret rm As z o post) (hS : va_S A s.heap H locs) (hA : ∀ q, s.heap.size ≤ q → A q) (tk : tkS z A s s.heap) (tr : tkR z s) (ar : arS o H.size s H)
    (hR : rm.frames + 1 ≤ R.frames ∧ 8 + (n + 11) + rm.locals ≤ R.locals) (hrc : rm.cells = 0) (hrs : rm.slots = 0) (hf : cells ≤ R.cells ∧ slots ≤ R.slots) (hn : As.length = k) (hls : ls.size = nL) (hW : (rest.map fun v => v.category).sum ≤ 8) (hdg : decode cc pc = .ok (.invokestatic ix, 3))
    (kk : ∀ (v : Option Value) (H1 : Heap) (locs1 : List Loc), post v → H.size ≤ H1.size → (∀ q : Nat, q < H.size → H1[q]? = H[q]?) → va_S A s.heap H1 locs1 → W p l e R s m args below meth c H1 locs1 cells slots Q (F0 m (pc + 3) ls (v.toList ++ rest))) : W p l e R s m args below meth c H locs cells slots Q (F0 m pc ls (As.reverse ++ rest)) := by
  refine kz_call (va_runS (As := As) (rest := rest) S (hM H.size) (kz_cwS S hk hrc hrs hR) ⟨preS.blind, fun U hU hW => ⟨rfl, preS.of hS hA tk tr ar hU hW⟩⟩ rfl hn hls rfl (lv_room hW) hdg hf) hS (fun q hq => hA q (Nat.le_trans hS.1 hq)) (fun v st t H1 locs1 h0 h1 hq hL => ?_)
  obtain ⟨⟨v', hv, hp⟩, hz, hkp⟩ := hq
  cases hv
  rw [h0] at hz hkp
  rw [h1] at hz hkp
  have hk' : ∀ q : Nat, q < H.size → H1[q]? = H[q]? := fun q h => hkp q h (Nat.not_le.mpr h)
  exact kk v H1 locs1 hp hz hk' ⟨Nat.le_trans hS.1 hz, fun q g1 g2 => (hk' q (Nat.lt_of_lt_of_le g1 hS.1)).trans (hS.2.1 q g1 g2), hL⟩
/-- a call of a constant text's own method out of any context -/
theorem kz_cT {ix n k i : Nat} {y : MethodName} {cy : ByteArray} {ret : Option FieldType} {rm : Room} {As : List Value} {o : kz_O} {post : Option Value → Prop} (S : CallFix p m c cc nL s args (w0 :: TT) own) (hk : lkV own ix y cy n ret k) (hyc : y.cls = "java/lang/String") (hi : i < 12) (hM : MS l y cy n ret rm (.ref (z.2.1 i) :: As) z o post) (hS : va_S A s.heap H locs) (hA : ∀ q, s.heap.size ≤ q → A q) (tk : tkS z A s s.heap) (tr : tkR z s) (ar : arS o H.size s H)
    (hR : rm.frames + 1 ≤ R.frames ∧ 8 + (n + 11) + rm.locals ≤ R.locals) (hrc : rm.cells = 0) (hrs : rm.slots = 0) (hf : cells ≤ R.cells ∧ slots ≤ R.slots) (hn : As.length = k) (hls : ls.size = nL) (hW : (rest.map fun v => v.category).sum ≤ 8) (hdg : decode cc pc = .ok (.invokevirtual ix, 3))
    (kk : ∀ (v : Option Value) (H1 : Heap) (locs1 : List Loc), post v → H.size ≤ H1.size → (∀ q : Nat, q < H.size → H1[q]? = H[q]?) → va_S A s.heap H1 locs1 → W p l e R s m args below meth c H1 locs1 cells slots Q (F0 m (pc + 3) ls (v.toList ++ rest))) : W p l e R s m args below meth c H locs cells slots Q (F0 m pc ls (As.reverse ++ .ref (z.2.1 i) :: rest)) := by
  refine kz_call (va_runV (As := As) (rest := rest) (b := z.2.1 i) S (hM H.size) (kz_cwV S hk hrc hrs hR) ⟨preS.blind, by rw [hyc]; exact vk_recv tk.2.2.2.2 hi hS, fun U hU hW => ⟨rfl, preS.of hS hA tk tr ar hU hW⟩⟩ rfl hn hls rfl (lv_room hW) hdg hf) hS (fun q hq => hA q (Nat.le_trans hS.1 hq)) (fun v st t H1 locs1 h0 h1 hq hL => ?_)
  obtain ⟨⟨v', hv, hp⟩, hz, hkp⟩ := hq
  cases hv
  rw [h0] at hz hkp
  rw [h1] at hz hkp
  have hk' : ∀ q : Nat, q < H.size → H1[q]? = H[q]? := fun q h => hkp q h (Nat.not_le.mpr h)
  exact kk v H1 locs1 hp hz hk' ⟨Nat.le_trans hS.1 hz, fun q g1 g2 => (hk' q (Nat.lt_of_lt_of_le g1 hS.1)).trans (hS.2.1 q g1 g2), hL⟩
end KS
/-! ===== the class TokenRow: its world, contracts and steps ===== -/
def wX (z : kz_Z) (cA : ClassId) (h : Nat) (a : Nat → Nat) (I : Nat → Int32) (F : Nat → Nat → Int32) : va_W := [(h, .inr (0, [.ref (a 0), .int (I 1), .ref (a 2), .ref (a 3), .ref (a 4), .ref (a 5), .ref (a 6), .ref (a 7), .int (I 8), .ref (a 9), .int (I 10), .int (I 11), .int (I 12), .int (I 13)])), (a 0, .inl (cA, 1000, .inl (F 0))), (a 2, .inl (cA, 1001, .inl (F 2))), (a 3, .inl (cA, 1001, .inl (F 3))), (a 4, .inl (cA, 1001, .inl (F 4))), (a 5, .inl (cA, 1001, .inl (F 5))), (a 6, .inl (cA, 1001, .inl (F 6))), (a 7, .inl (cA, 1001, .inl (F 7))), (a 9, .inl (cA, 1000, .inl (F 9)))]
def adX (h : Nat) (a : Nat → Nat) : List Nat := [h, a 0, a 2, a 3, a 4, a 5, a 6, a 7, a 9]
def AX (h : Nat) (a : Nat → Nat) (sz : Nat) : Nat → Prop := fun q => q ∈ adX h a ∨ sz ≤ q
def sX (z : kz_Z) (D : va_G) (cA : ClassId) (h : Nat) (a : Nat → Nat) (A : Nat → Prop) (s : State) (H : Heap) (locs : List Loc) (I : Nat → Int32) (F : Nat → Nat → Int32) : Prop :=
  va_K D clT [(cA, .int)] s ∧ va_P D clT (wX z cA h a I F) H ∧ va_D A (wX z cA h a I F) ∧ va_S A s.heap H locs ∧ tkS z A s s.heap ∧ tkR z s
def preX (z : kz_Z) (D : va_G) (cA : ClassId) (h : Nat) (a : Nat → Nat) (sz : Nat) (I : Nat → Int32) (F : Nat → Nat → Int32) (U : State) : Prop :=
  U.heap.size = sz ∧ va_K D clT [(cA, .int)] U ∧ va_P D clT (wX z cA h a I F) U.heap ∧ va_D (AX h a sz) (wX z cA h a I F) ∧ tkS z (AX h a sz) U U.heap ∧ tkR z U
def QX (z : kz_Z) (D : va_G) (cA : ClassId) (h : Nat) (a : Nat → Nat) (sz : Nat) (post : Option Value → (Nat → Int32) → (Nat → Nat → Int32) → Prop) : Array Value → State → Outcome → State → Prop := fun _ st oc t =>
  (∃ (v : Option Value) (I' : Nat → Int32) (F' : Nat → Nat → Int32), oc = .returned v ∧ post v I' F' ∧ va_P D clT (wX z cA h a I' F') t.heap) ∧ va_F (AX h a sz) st t
def MX (l : Launch) (y : MethodName) (cy : ByteArray) (n : Nat) (ret : Option FieldType) (rm : Room) (As : List Value) (I : Nat → Int32) (F : Nat → Nat → Int32) (post : Option Value → (Nat → Int32) → (Nat → Nat → Int32) → Prop) : Prop :=
  ∀ (z : kz_Z) (D : va_G) (cA : ClassId) (h : Nat) (a : Nat → Nat) (sz : Nat), Met l y (Cond.code y cy n ret :: TT) rm (va_Pc (.ref h :: As) (preX z D cA h a sz I F)) (QX z D cA h a sz post) 0 0 (AX h a sz)
/-- an answer that is a number; no answer -/
def iR (post : Int32 → (Nat → Int32) → (Nat → Nat → Int32) → Prop) : Option Value → (Nat → Int32) → (Nat → Nat → Int32) → Prop := fun v I F => ∃ r, v = some (.int r) ∧ post r I F
def vR (post : (Nat → Int32) → (Nat → Nat → Int32) → Prop) : Option Value → (Nat → Int32) → (Nat → Nat → Int32) → Prop := fun v I F => v = none ∧ post I F
theorem MX.mk {l : Launch} {y : MethodName} {cy : ByteArray} {n : Nat} {ret : Option FieldType} {rm : Room} {As : List Value} {I : Nat → Int32} {F : Nat → Nat → Int32} {post : Option Value → (Nat → Int32) → (Nat → Nat → Int32) → Prop} (hy : plainName y.cls = true) (hn : ∀ h : Nat, (lg_sl (.ref h :: As)).length ≤ n)
    (body : ∀ (z : kz_Z) (D : va_G) (cA : ClassId) (h : Nat) (a : Nat → Nat) (p : Program) (e : Env) (s : State) (m : MethodId) (below : List Frame) (meth : Method) (c : Code) (ls : Array Slot), CallFix p m c cy n s (Value.ref h :: As).toArray (Cond.code y cy n ret :: TT) y.cls → meth.sig.returnType = ret → meth.locks = false → (∀ q, s.heap.size ≤ q → AX h a s.heap.size q) → sX z D cA h a (AX h a s.heap.size) s s.heap [] I F → lv_has ls n (lv_args 0 (.ref h :: As)) →
      W p l e rm s m (Value.ref h :: As).toArray below meth c s.heap [] 0 0 (MQ below (QX z D cA h a s.heap.size post) (Value.ref h :: As).toArray s 0 0 (AX h a s.heap.size)) (F0 m 0 ls [])) : MX l y cy n ret rm As I F post := by
  intro z D cA h a sz
  refine Met.ofW (cc := cy) (maxL := n) (ret := ret) hy rfl ?_
  intro p e s m args below meth c s₁ B hml hv
  obtain ⟨rfl, hsz, h1, h2, h3, h4, h5⟩ := hv
  subst hsz
  rw [lg_entry_eq]
  exact body z D cA h a p e s m below meth c _ ⟨B.exec, B.bytes, hml, findClass_of_methodNamed B.named, atoms_spec (ws := Cond.code y cy n ret :: TT) B.pre⟩ B.returns B.notSynchronized (fun q hq => Or.inr hq) ⟨h1, h2, h3, va_S.rf, h4, h5⟩ (lv_entry _ (hn h))
theorem AX.sub {z : kz_Z} {cA : ClassId} {h : Nat} {a : Nat → Nat} {I : Nat → Int32} {F : Nat → Nat → Int32} {A : Nat → Prop} {H0 H : Heap} {locs : List Loc} (hD : va_D A (wX z cA h a I F)) (hS : va_S A H0 H locs) (hA : ∀ q, H0.size ≤ q → A q) : ∀ q, AX h a H.size q → A q := by
  intro q hq
  rcases hq with hq | hq
  · obtain ⟨i, hi⟩ := List.getElem?_of_mem (show q ∈ (wX z cA h a I F).map Prod.fst from hq)
    rw [List.getElem?_map] at hi
    cases hx : (wX z cA h a I F)[i]? with
    | none => rw [hx] at hi; cases hi
    | some x => rw [hx] at hi; cases hi; exact hD.2 i x hx
  · exact hA q (Nat.le_trans hS.1 hq)
theorem DX.any {z : kz_Z} {cA : ClassId} {h : Nat} {a : Nat → Nat} {I I' : Nat → Int32} {F F' : Nat → Nat → Int32} {A B : Nat → Prop} (hD : va_D A (wX z cA h a I F)) (hB : ∀ q ∈ adX h a, B q) : va_D B (wX z cA h a I' F') := kz_addr hD rfl hB
theorem DX.keep {z : kz_Z} {cA : ClassId} {h : Nat} {a : Nat → Nat} {I I' : Nat → Int32} {F F' : Nat → Nat → Int32} {A : Nat → Prop} (hD : va_D A (wX z cA h a I F)) : va_D A (wX z cA h a I' F') := by
  refine DX.any hD (fun q hq => ?_)
  obtain ⟨i, hi⟩ := List.getElem?_of_mem (show q ∈ (wX z cA h a I F).map Prod.fst from hq)
  rw [List.getElem?_map] at hi
  cases hx : (wX z cA h a I F)[i]? with
  | none => rw [hx] at hi; cases hi
  | some x => rw [hx] at hi; cases hi; exact hD.2 i x hx
section KX
variable {p : Program} {l : Launch} {e : Env} {R : Room} {s : State} {m : MethodId} {args : Array Value} {below : List Frame} {meth : Method} {c : Code} {H : Heap} {locs : List Loc} {cells slots : Nat} {Q : State → Prop}
variable {cc : ByteArray} {pc nL : Nat} {ls : Array Slot} {rest : List Value} {D : va_G} {cA : ClassId} {A : Nat → Prop} {z : kz_Z} {w0 : Cond} {own : String}
variable {h : Nat} {a : Nat → Nat} {I : Nat → Int32} {F : Nat → Nat → Int32} {post : Option Value → (Nat → Int32) → (Nat → Nat → Int32) → Prop}
theorem MX.iret {ty : FieldType} {v : Int32} (S : CallFix p m c cc nL s args (w0 :: TT) own) (hr : meth.sig.returnType = some ty) (hl : meth.locks = false) (hw : sX z D cA h a (AX h a s.heap.size) s H locs I F) (hdg : decode cc pc = .ok (.ireturn, 1)) (hn : narrow ty (.int v) = .int v) (hp : post (some (.int v)) I F) :
    W p l e R s m args below meth c H locs cells slots (MQ below (QX z D cA h a s.heap.size post) args s cells slots (AX h a s.heap.size)) (F0 m pc ls [.int v]) :=
  W.zret S.1 S.2.1 hr hn (fun t ht _ => ⟨⟨_, I, F, rfl, hp, by rw [ht]; exact hw.2.1⟩, hw.2.2.2.1.F ht⟩) hw.2.2.2.1.2.2 hdg hl
theorem MX.vret (S : CallFix p m c cc nL s args (w0 :: TT) own) (hr : meth.sig.returnType = none) (hl : meth.locks = false) (hw : sX z D cA h a (AX h a s.heap.size) s H locs I F) (hdg : decode cc pc = .ok (.return_, 1)) (hp : post none I F) :
    W p l e R s m args below meth c H locs cells slots (MQ below (QX z D cA h a s.heap.size post) args s cells slots (AX h a s.heap.size)) (F0 m pc ls []) :=
  W.vret S.1 S.2.1 hr (fun t ht _ => ⟨⟨_, I, F, rfl, hp, by rw [ht]; exact hw.2.1⟩, hw.2.2.2.1.F ht⟩) hw.2.2.2.1.2.2 hdg hl
theorem sX.kept {H1 : Heap} {locs1 : List Loc} (hw : sX z D cA h a A s H locs I F) (hk : ∀ q : Nat, q < H.size → H1[q]? = H[q]?) (hS : va_S A s.heap H1 locs1) : sX z D cA h a A s H1 locs1 I F :=
  ⟨hw.1, hw.2.1.kept (fun k q hq => hk q.1 (hw.2.1 k q hq).lt), hw.2.2.1, hS, hw.2.2.2.2.1, hw.2.2.2.2.2⟩
theorem kcX {ix n k : Nat} {y : MethodName} {cy : ByteArray} {ret : Option FieldType} {rm : Room} {As : List Value} (S : CallFix p m c cc nL s args (w0 :: TT) own) (hk : lkV own ix y cy n ret k) (hyc : y.cls = RX) (hM : MX l y cy n ret rm As I F post) (hw : sX z D cA h a A s H locs I F) (hA : ∀ q, s.heap.size ≤ q → A q)
    (hR : rm.frames + 1 ≤ R.frames ∧ 8 + (n + 11) + rm.locals ≤ R.locals) (hrc : rm.cells = 0) (hrs : rm.slots = 0) (hf : cells ≤ R.cells ∧ slots ≤ R.slots) (hn : As.length = k) (hls : ls.size = nL) (hW : (rest.map fun v => v.category).sum ≤ 8) (hdg : decode cc pc = .ok (.invokevirtual ix, 3))
    (kk : ∀ (v : Option Value) (I' : Nat → Int32) (F' : Nat → Nat → Int32) (H1 : Heap) (locs1 : List Loc), post v I' F' → sX z D cA h a A s H1 locs1 I' F' → W p l e R s m args below meth c H1 locs1 cells slots Q (F0 m (pc + 3) ls (v.toList ++ rest))) : W p l e R s m args below meth c H locs cells slots Q (F0 m pc ls (As.reverse ++ .ref h :: rest)) := by
  obtain ⟨w1, w2, w3, w4, w5, w6⟩ := hw
  have hsub := AX.sub w3 w4 hA
  refine kz_call (va_runV (As := As) (rest := rest) (b := h) S (hM z D cA h a H.size) (kz_cwV S hk hrc hrs hR) ⟨?_, by rw [hyc]; exact va_recv w1 w2 (ci := 0) (q0 := 0) rfl rfl, fun U hU hW => ⟨rfl, by rw [hU], va_K.moved hW.alike w1, by rw [hU]; exact w2, DX.any w3 (fun q hq => Or.inl hq), ?_, w6.warm hW⟩⟩ rfl hn hls rfl (lv_room hW) hdg hf) w4 hsub (fun v st t H1 locs1 h0 h1 hq hL => ?_)
  · intro a1 U g mk q
    obtain ⟨q0, q1, q2, q3, q4, q5, q6⟩ := q
    exact ⟨q0, q1, va_K.moved (Vm.Alike.refl U.vm) q2, q3, q4, q5.moved (Vm.Alike.refl U.vm), q6.same rfl⟩
  · rw [hU]
    exact ((w5.kept w4.2.1).narrow hsub).moved hW.alike
  · obtain ⟨⟨v', I', F', hv, hp, hP⟩, hz, hkp⟩ := hq
    cases hv
    rw [h0] at hz hkp
    rw [h1] at hz hkp hP
    exact kk v I' F' H1 locs1 hp ⟨w1, hP, DX.keep w3, ⟨Nat.le_trans w4.1 hz, fun q g1 g2 => (hkp q (Nat.lt_of_lt_of_le g1 w4.1) (fun x => g2 (hsub q x))).trans (w4.2.1 q g1 g2), hL⟩, w5, w6⟩
theorem kcXi {ix n k : Nat} {y : MethodName} {cy : ByteArray} {ret : Option FieldType} {rm : Room} {As : List Value} {posti : Int32 → (Nat → Int32) → (Nat → Nat → Int32) → Prop} (S : CallFix p m c cc nL s args (w0 :: TT) own) (hk : lkV own ix y cy n ret k) (hyc : y.cls = RX) (hM : MX l y cy n ret rm As I F (iR posti)) (hw : sX z D cA h a A s H locs I F) (hA : ∀ q, s.heap.size ≤ q → A q)
    (hR : rm.frames + 1 ≤ R.frames ∧ 8 + (n + 11) + rm.locals ≤ R.locals) (hrc : rm.cells = 0) (hrs : rm.slots = 0) (hf : cells ≤ R.cells ∧ slots ≤ R.slots) (hn : As.length = k) (hls : ls.size = nL) (hW : (rest.map fun v => v.category).sum ≤ 8) (hdg : decode cc pc = .ok (.invokevirtual ix, 3))
    (kk : ∀ (r : Int32) (I' : Nat → Int32) (F' : Nat → Nat → Int32) (H1 : Heap) (locs1 : List Loc), posti r I' F' → sX z D cA h a A s H1 locs1 I' F' → W p l e R s m args below meth c H1 locs1 cells slots Q (F0 m (pc + 3) ls (.int r :: rest))) : W p l e R s m args below meth c H locs cells slots Q (F0 m pc ls (As.reverse ++ .ref h :: rest)) := by
  refine kcX S hk hyc hM hw hA hR hrc hrs hf hn hls hW hdg (fun v I' F' H1 locs1 hp hw => ?_)
  obtain ⟨r, rfl, hp⟩ := hp
  exact kk r I' F' H1 locs1 hp hw
theorem kcXv {ix n k : Nat} {y : MethodName} {cy : ByteArray} {ret : Option FieldType} {rm : Room} {As : List Value} {postv : (Nat → Int32) → (Nat → Nat → Int32) → Prop} (S : CallFix p m c cc nL s args (w0 :: TT) own) (hk : lkV own ix y cy n ret k) (hyc : y.cls = RX) (hM : MX l y cy n ret rm As I F (vR postv)) (hw : sX z D cA h a A s H locs I F) (hA : ∀ q, s.heap.size ≤ q → A q)
    (hR : rm.frames + 1 ≤ R.frames ∧ 8 + (n + 11) + rm.locals ≤ R.locals) (hrc : rm.cells = 0) (hrs : rm.slots = 0) (hf : cells ≤ R.cells ∧ slots ≤ R.slots) (hn : As.length = k) (hls : ls.size = nL) (hW : (rest.map fun v => v.category).sum ≤ 8) (hdg : decode cc pc = .ok (.invokevirtual ix, 3))
    (kk : ∀ (I' : Nat → Int32) (F' : Nat → Nat → Int32) (H1 : Heap) (locs1 : List Loc), postv I' F' → sX z D cA h a A s H1 locs1 I' F' → W p l e R s m args below meth c H1 locs1 cells slots Q (F0 m (pc + 3) ls rest)) : W p l e R s m args below meth c H locs cells slots Q (F0 m pc ls (As.reverse ++ .ref h :: rest)) := by
  refine kcX S hk hyc hM hw hA hR hrc hrs hf hn hls hW hdg (fun v I' F' H1 locs1 hp hw => ?_)
  obtain ⟨rfl, hp⟩ := hp
  exact kk I' F' H1 locs1 hp hw
/-- a static call out of a method of this class -/
theorem kcXS {ix n k : Nat} {y : MethodName} {cy : ByteArray} {ret : Option FieldType} {rm : Room} {As : List Value} {o : kz_O} {posts : Int32 → Prop} (S : CallFix p m c cc nL s args (w0 :: TT) own) (hk : lkS own ix y cy n ret k) (hM : MS l y cy n ret rm As z o (fun v => ∃ r, v = some (.int r) ∧ posts r)) (hw : sX z D cA h a A s H locs I F) (hA : ∀ q, s.heap.size ≤ q → A q) (ar : arS o H.size s H)
    (hR : rm.frames + 1 ≤ R.frames ∧ 8 + (n + 11) + rm.locals ≤ R.locals) (hrc : rm.cells = 0) (hrs : rm.slots = 0) (hf : cells ≤ R.cells ∧ slots ≤ R.slots) (hn : As.length = k) (hls : ls.size = nL) (hW : (rest.map fun v => v.category).sum ≤ 8) (hdg : decode cc pc = .ok (.invokestatic ix, 3))
    (kk : ∀ (r : Int32) (H1 : Heap) (locs1 : List Loc), posts r → sX z D cA h a A s H1 locs1 I F → W p l e R s m args below meth c H1 locs1 cells slots Q (F0 m (pc + 3) ls (.int r :: rest))) : W p l e R s m args below meth c H locs cells slots Q (F0 m pc ls (As.reverse ++ rest)) := by
  refine kz_cS S hk hM hw.2.2.2.1 hA hw.2.2.2.2.1 hw.2.2.2.2.2 ar hR hrc hrs hf hn hls hW hdg (fun v H1 locs1 hp hz hkp hS => ?_)
  obtain ⟨r, rfl, hp⟩ := hp
  exact kk r H1 locs1 hp (hw.kept hkp hS)
theorem kcXT {ix n k i : Nat} {y : MethodName} {cy : ByteArray} {ret : Option FieldType} {rm : Room} {As : List Value} {o : kz_O} {posts : Int32 → Prop} (S : CallFix p m c cc nL s args (w0 :: TT) own) (hk : lkV own ix y cy n ret k) (hyc : y.cls = "java/lang/String") (hi : i < 12) (hM : MS l y cy n ret rm (.ref (z.2.1 i) :: As) z o (fun v => ∃ r, v = some (.int r) ∧ posts r)) (hw : sX z D cA h a A s H locs I F) (hA : ∀ q, s.heap.size ≤ q → A q) (ar : arS o H.size s H)
    (hR : rm.frames + 1 ≤ R.frames ∧ 8 + (n + 11) + rm.locals ≤ R.locals) (hrc : rm.cells = 0) (hrs : rm.slots = 0) (hf : cells ≤ R.cells ∧ slots ≤ R.slots) (hn : As.length = k) (hls : ls.size = nL) (hW : (rest.map fun v => v.category).sum ≤ 8) (hdg : decode cc pc = .ok (.invokevirtual ix, 3))
    (kk : ∀ (r : Int32) (H1 : Heap) (locs1 : List Loc), posts r → sX z D cA h a A s H1 locs1 I F → W p l e R s m args below meth c H1 locs1 cells slots Q (F0 m (pc + 3) ls (.int r :: rest))) : W p l e R s m args below meth c H locs cells slots Q (F0 m pc ls (As.reverse ++ .ref (z.2.1 i) :: rest)) := by
  refine kz_cT S hk hyc hi hM hw.2.2.2.1 hA hw.2.2.2.2.1 hw.2.2.2.2.2 ar hR hrc hrs hf hn hls hW hdg (fun v H1 locs1 hp hz hkp hS => ?_)
  obtain ⟨r, rfl, hp⟩ := hp
  exact kk r H1 locs1 hp (hw.kept hkp hS)
theorem arNone {sz : Nat} {U : State} : arS none sz U H := fun _ _ _ h => by cases h
theorem gX0 (S : CallFix p m c cc nL s args (w0 :: TT) RX) (hw : sX z D cA h a A s H locs I F) (hdg : decode cc pc = .ok (.getfield 9, 3)) (kk : W p l e R s m args below meth c H locs cells slots Q (F0 m (pc + 3) ls (.ref (a 0) :: rest))) : W p l e R s m args below meth c H locs cells slots Q (F0 m pc ls (.ref h :: rest)) :=
  va_get (D := D) (ci := 0) (v := .ref (a 0)) (C := RX) (T := TX) (N := 14) S.1 S.2.1 S.2.2.2.2 (fun w hw => List.mem_cons_of_mem _ (inX w hw)) S.2.2.2.1 hw.1 hw.2.1 0 rfl rfl 0 (by decide) (S.2.2.2.2 _ (List.mem_cons_of_mem _ wfX_9)) (fun _ h9 => h9) rfl hdg kk
theorem gX1 (S : CallFix p m c cc nL s args (w0 :: TT) RX) (hw : sX z D cA h a A s H locs I F) (hdg : decode cc pc = .ok (.getfield 34, 3)) (kk : W p l e R s m args below meth c H locs cells slots Q (F0 m (pc + 3) ls (.int (I 1) :: rest))) : W p l e R s m args below meth c H locs cells slots Q (F0 m pc ls (.ref h :: rest)) :=
  va_get (D := D) (ci := 0) (v := .int (I 1)) (C := RX) (T := TX) (N := 14) S.1 S.2.1 S.2.2.2.2 (fun w hw => List.mem_cons_of_mem _ (inX w hw)) S.2.2.2.1 hw.1 hw.2.1 0 rfl rfl 1 (by decide) (S.2.2.2.2 _ (List.mem_cons_of_mem _ wfX_34)) (fun _ h9 => h9) rfl hdg kk
theorem pX1 {x : Int32} (S : CallFix p m c cc nL s args (w0 :: TT) RX) (hw : sX z D cA h a A s H locs I F) (hdg : decode cc pc = .ok (.putfield 34, 3)) (kk : ∀ (H1 : Heap) (locs1 : List Loc), sX z D cA h a A s H1 locs1 (upd I 1 x) F → W p l e R s m args below meth c H1 locs1 cells slots Q (F0 m (pc + 3) ls rest)) : W p l e R s m args below meth c H locs cells slots Q (F0 m pc ls (.int x :: .ref h :: rest)) :=
  va_put (D := D) (ci := 0) (v := .int x) (ty := .int) (C := RX) (T := TX) (N := 14) S.1 S.2.1 S.2.2.2.2 (fun w hw => List.mem_cons_of_mem _ (inX w hw)) tyX tyX_ok nmX S.2.2.2.1 hw.1 hw.2.1 hw.2.2.1 hw.2.2.2.1 0 rfl rfl 1 (by decide) (S.2.2.2.2 _ (List.mem_cons_of_mem _ wfX_34)) (fun _ h9 => h9) rfl (by decide +kernel) rfl rfl (Nat.le_of_ble_eq_true rfl) hdg (fun H1 locs1 hP hD hS => kk H1 locs1 ⟨hw.1, hP, hD, hS, hw.2.2.2.2.1, hw.2.2.2.2.2⟩)
theorem gX2 (S : CallFix p m c cc nL s args (w0 :: TT) RX) (hw : sX z D cA h a A s H locs I F) (hdg : decode cc pc = .ok (.getfield 13, 3)) (kk : W p l e R s m args below meth c H locs cells slots Q (F0 m (pc + 3) ls (.ref (a 2) :: rest))) : W p l e R s m args below meth c H locs cells slots Q (F0 m pc ls (.ref h :: rest)) :=
  va_get (D := D) (ci := 0) (v := .ref (a 2)) (C := RX) (T := TX) (N := 14) S.1 S.2.1 S.2.2.2.2 (fun w hw => List.mem_cons_of_mem _ (inX w hw)) S.2.2.2.1 hw.1 hw.2.1 0 rfl rfl 2 (by decide) (S.2.2.2.2 _ (List.mem_cons_of_mem _ wfX_13)) (fun _ h9 => h9) rfl hdg kk
theorem gX3 (S : CallFix p m c cc nL s args (w0 :: TT) RX) (hw : sX z D cA h a A s H locs I F) (hdg : decode cc pc = .ok (.getfield 16, 3)) (kk : W p l e R s m args below meth c H locs cells slots Q (F0 m (pc + 3) ls (.ref (a 3) :: rest))) : W p l e R s m args below meth c H locs cells slots Q (F0 m pc ls (.ref h :: rest)) :=
  va_get (D := D) (ci := 0) (v := .ref (a 3)) (C := RX) (T := TX) (N := 14) S.1 S.2.1 S.2.2.2.2 (fun w hw => List.mem_cons_of_mem _ (inX w hw)) S.2.2.2.1 hw.1 hw.2.1 0 rfl rfl 3 (by decide) (S.2.2.2.2 _ (List.mem_cons_of_mem _ wfX_16)) (fun _ h9 => h9) rfl hdg kk
theorem gX4 (S : CallFix p m c cc nL s args (w0 :: TT) RX) (hw : sX z D cA h a A s H locs I F) (hdg : decode cc pc = .ok (.getfield 19, 3)) (kk : W p l e R s m args below meth c H locs cells slots Q (F0 m (pc + 3) ls (.ref (a 4) :: rest))) : W p l e R s m args below meth c H locs cells slots Q (F0 m pc ls (.ref h :: rest)) :=
  va_get (D := D) (ci := 0) (v := .ref (a 4)) (C := RX) (T := TX) (N := 14) S.1 S.2.1 S.2.2.2.2 (fun w hw => List.mem_cons_of_mem _ (inX w hw)) S.2.2.2.1 hw.1 hw.2.1 0 rfl rfl 4 (by decide) (S.2.2.2.2 _ (List.mem_cons_of_mem _ wfX_19)) (fun _ h9 => h9) rfl hdg kk
theorem gX5 (S : CallFix p m c cc nL s args (w0 :: TT) RX) (hw : sX z D cA h a A s H locs I F) (hdg : decode cc pc = .ok (.getfield 22, 3)) (kk : W p l e R s m args below meth c H locs cells slots Q (F0 m (pc + 3) ls (.ref (a 5) :: rest))) : W p l e R s m args below meth c H locs cells slots Q (F0 m pc ls (.ref h :: rest)) :=
  va_get (D := D) (ci := 0) (v := .ref (a 5)) (C := RX) (T := TX) (N := 14) S.1 S.2.1 S.2.2.2.2 (fun w hw => List.mem_cons_of_mem _ (inX w hw)) S.2.2.2.1 hw.1 hw.2.1 0 rfl rfl 5 (by decide) (S.2.2.2.2 _ (List.mem_cons_of_mem _ wfX_22)) (fun _ h9 => h9) rfl hdg kk
theorem gX6 (S : CallFix p m c cc nL s args (w0 :: TT) RX) (hw : sX z D cA h a A s H locs I F) (hdg : decode cc pc = .ok (.getfield 25, 3)) (kk : W p l e R s m args below meth c H locs cells slots Q (F0 m (pc + 3) ls (.ref (a 6) :: rest))) : W p l e R s m args below meth c H locs cells slots Q (F0 m pc ls (.ref h :: rest)) :=
  va_get (D := D) (ci := 0) (v := .ref (a 6)) (C := RX) (T := TX) (N := 14) S.1 S.2.1 S.2.2.2.2 (fun w hw => List.mem_cons_of_mem _ (inX w hw)) S.2.2.2.1 hw.1 hw.2.1 0 rfl rfl 6 (by decide) (S.2.2.2.2 _ (List.mem_cons_of_mem _ wfX_25)) (fun _ h9 => h9) rfl hdg kk
theorem gX7 (S : CallFix p m c cc nL s args (w0 :: TT) RX) (hw : sX z D cA h a A s H locs I F) (hdg : decode cc pc = .ok (.getfield 28, 3)) (kk : W p l e R s m args below meth c H locs cells slots Q (F0 m (pc + 3) ls (.ref (a 7) :: rest))) : W p l e R s m args below meth c H locs cells slots Q (F0 m pc ls (.ref h :: rest)) :=
  va_get (D := D) (ci := 0) (v := .ref (a 7)) (C := RX) (T := TX) (N := 14) S.1 S.2.1 S.2.2.2.2 (fun w hw => List.mem_cons_of_mem _ (inX w hw)) S.2.2.2.1 hw.1 hw.2.1 0 rfl rfl 7 (by decide) (S.2.2.2.2 _ (List.mem_cons_of_mem _ wfX_28)) (fun _ h9 => h9) rfl hdg kk
theorem gX8 (S : CallFix p m c cc nL s args (w0 :: TT) RX) (hw : sX z D cA h a A s H locs I F) (hdg : decode cc pc = .ok (.getfield 42, 3)) (kk : W p l e R s m args below meth c H locs cells slots Q (F0 m (pc + 3) ls (.int (I 8) :: rest))) : W p l e R s m args below meth c H locs cells slots Q (F0 m pc ls (.ref h :: rest)) :=
  va_get (D := D) (ci := 0) (v := .int (I 8)) (C := RX) (T := TX) (N := 14) S.1 S.2.1 S.2.2.2.2 (fun w hw => List.mem_cons_of_mem _ (inX w hw)) S.2.2.2.1 hw.1 hw.2.1 0 rfl rfl 8 (by decide) (S.2.2.2.2 _ (List.mem_cons_of_mem _ wfX_42)) (fun _ h9 => h9) rfl hdg kk
theorem pX8 {x : Int32} (S : CallFix p m c cc nL s args (w0 :: TT) RX) (hw : sX z D cA h a A s H locs I F) (hdg : decode cc pc = .ok (.putfield 42, 3)) (kk : ∀ (H1 : Heap) (locs1 : List Loc), sX z D cA h a A s H1 locs1 (upd I 8 x) F → W p l e R s m args below meth c H1 locs1 cells slots Q (F0 m (pc + 3) ls rest)) : W p l e R s m args below meth c H locs cells slots Q (F0 m pc ls (.int x :: .ref h :: rest)) :=
  va_put (D := D) (ci := 0) (v := .int x) (ty := .int) (C := RX) (T := TX) (N := 14) S.1 S.2.1 S.2.2.2.2 (fun w hw => List.mem_cons_of_mem _ (inX w hw)) tyX tyX_ok nmX S.2.2.2.1 hw.1 hw.2.1 hw.2.2.1 hw.2.2.2.1 0 rfl rfl 8 (by decide) (S.2.2.2.2 _ (List.mem_cons_of_mem _ wfX_42)) (fun _ h9 => h9) rfl (by decide +kernel) rfl rfl (Nat.le_of_ble_eq_true rfl) hdg (fun H1 locs1 hP hD hS => kk H1 locs1 ⟨hw.1, hP, hD, hS, hw.2.2.2.2.1, hw.2.2.2.2.2⟩)
theorem gX9 (S : CallFix p m c cc nL s args (w0 :: TT) RX) (hw : sX z D cA h a A s H locs I F) (hdg : decode cc pc = .ok (.getfield 31, 3)) (kk : W p l e R s m args below meth c H locs cells slots Q (F0 m (pc + 3) ls (.ref (a 9) :: rest))) : W p l e R s m args below meth c H locs cells slots Q (F0 m pc ls (.ref h :: rest)) :=
  va_get (D := D) (ci := 0) (v := .ref (a 9)) (C := RX) (T := TX) (N := 14) S.1 S.2.1 S.2.2.2.2 (fun w hw => List.mem_cons_of_mem _ (inX w hw)) S.2.2.2.1 hw.1 hw.2.1 0 rfl rfl 9 (by decide) (S.2.2.2.2 _ (List.mem_cons_of_mem _ wfX_31)) (fun _ h9 => h9) rfl hdg kk
theorem gX10 (S : CallFix p m c cc nL s args (w0 :: TT) RX) (hw : sX z D cA h a A s H locs I F) (hdg : decode cc pc = .ok (.getfield 45, 3)) (kk : W p l e R s m args below meth c H locs cells slots Q (F0 m (pc + 3) ls (.int (I 10) :: rest))) : W p l e R s m args below meth c H locs cells slots Q (F0 m pc ls (.ref h :: rest)) :=
  va_get (D := D) (ci := 0) (v := .int (I 10)) (C := RX) (T := TX) (N := 14) S.1 S.2.1 S.2.2.2.2 (fun w hw => List.mem_cons_of_mem _ (inX w hw)) S.2.2.2.1 hw.1 hw.2.1 0 rfl rfl 10 (by decide) (S.2.2.2.2 _ (List.mem_cons_of_mem _ wfX_45)) (fun _ h9 => h9) rfl hdg kk
theorem pX10 {x : Int32} (S : CallFix p m c cc nL s args (w0 :: TT) RX) (hw : sX z D cA h a A s H locs I F) (hdg : decode cc pc = .ok (.putfield 45, 3)) (kk : ∀ (H1 : Heap) (locs1 : List Loc), sX z D cA h a A s H1 locs1 (upd I 10 x) F → W p l e R s m args below meth c H1 locs1 cells slots Q (F0 m (pc + 3) ls rest)) : W p l e R s m args below meth c H locs cells slots Q (F0 m pc ls (.int x :: .ref h :: rest)) :=
  va_put (D := D) (ci := 0) (v := .int x) (ty := .int) (C := RX) (T := TX) (N := 14) S.1 S.2.1 S.2.2.2.2 (fun w hw => List.mem_cons_of_mem _ (inX w hw)) tyX tyX_ok nmX S.2.2.2.1 hw.1 hw.2.1 hw.2.2.1 hw.2.2.2.1 0 rfl rfl 10 (by decide) (S.2.2.2.2 _ (List.mem_cons_of_mem _ wfX_45)) (fun _ h9 => h9) rfl (by decide +kernel) rfl rfl (Nat.le_of_ble_eq_true rfl) hdg (fun H1 locs1 hP hD hS => kk H1 locs1 ⟨hw.1, hP, hD, hS, hw.2.2.2.2.1, hw.2.2.2.2.2⟩)
theorem gX11 (S : CallFix p m c cc nL s args (w0 :: TT) RX) (hw : sX z D cA h a A s H locs I F) (hdg : decode cc pc = .ok (.getfield 48, 3)) (kk : W p l e R s m args below meth c H locs cells slots Q (F0 m (pc + 3) ls (.int (I 11) :: rest))) : W p l e R s m args below meth c H locs cells slots Q (F0 m pc ls (.ref h :: rest)) :=
  va_get (D := D) (ci := 0) (v := .int (I 11)) (C := RX) (T := TX) (N := 14) S.1 S.2.1 S.2.2.2.2 (fun w hw => List.mem_cons_of_mem _ (inX w hw)) S.2.2.2.1 hw.1 hw.2.1 0 rfl rfl 11 (by decide) (S.2.2.2.2 _ (List.mem_cons_of_mem _ wfX_48)) (fun _ h9 => h9) rfl hdg kk
theorem pX11 {x : Int32} (S : CallFix p m c cc nL s args (w0 :: TT) RX) (hw : sX z D cA h a A s H locs I F) (hdg : decode cc pc = .ok (.putfield 48, 3)) (kk : ∀ (H1 : Heap) (locs1 : List Loc), sX z D cA h a A s H1 locs1 (upd I 11 x) F → W p l e R s m args below meth c H1 locs1 cells slots Q (F0 m (pc + 3) ls rest)) : W p l e R s m args below meth c H locs cells slots Q (F0 m pc ls (.int x :: .ref h :: rest)) :=
  va_put (D := D) (ci := 0) (v := .int x) (ty := .int) (C := RX) (T := TX) (N := 14) S.1 S.2.1 S.2.2.2.2 (fun w hw => List.mem_cons_of_mem _ (inX w hw)) tyX tyX_ok nmX S.2.2.2.1 hw.1 hw.2.1 hw.2.2.1 hw.2.2.2.1 0 rfl rfl 11 (by decide) (S.2.2.2.2 _ (List.mem_cons_of_mem _ wfX_48)) (fun _ h9 => h9) rfl (by decide +kernel) rfl rfl (Nat.le_of_ble_eq_true rfl) hdg (fun H1 locs1 hP hD hS => kk H1 locs1 ⟨hw.1, hP, hD, hS, hw.2.2.2.2.1, hw.2.2.2.2.2⟩)
theorem gX12 (S : CallFix p m c cc nL s args (w0 :: TT) RX) (hw : sX z D cA h a A s H locs I F) (hdg : decode cc pc = .ok (.getfield 51, 3)) (kk : W p l e R s m args below meth c H locs cells slots Q (F0 m (pc + 3) ls (.int (I 12) :: rest))) : W p l e R s m args below meth c H locs cells slots Q (F0 m pc ls (.ref h :: rest)) :=
  va_get (D := D) (ci := 0) (v := .int (I 12)) (C := RX) (T := TX) (N := 14) S.1 S.2.1 S.2.2.2.2 (fun w hw => List.mem_cons_of_mem _ (inX w hw)) S.2.2.2.1 hw.1 hw.2.1 0 rfl rfl 12 (by decide) (S.2.2.2.2 _ (List.mem_cons_of_mem _ wfX_51)) (fun _ h9 => h9) rfl hdg kk
theorem pX12 {x : Int32} (S : CallFix p m c cc nL s args (w0 :: TT) RX) (hw : sX z D cA h a A s H locs I F) (hdg : decode cc pc = .ok (.putfield 51, 3)) (kk : ∀ (H1 : Heap) (locs1 : List Loc), sX z D cA h a A s H1 locs1 (upd I 12 x) F → W p l e R s m args below meth c H1 locs1 cells slots Q (F0 m (pc + 3) ls rest)) : W p l e R s m args below meth c H locs cells slots Q (F0 m pc ls (.int x :: .ref h :: rest)) :=
  va_put (D := D) (ci := 0) (v := .int x) (ty := .int) (C := RX) (T := TX) (N := 14) S.1 S.2.1 S.2.2.2.2 (fun w hw => List.mem_cons_of_mem _ (inX w hw)) tyX tyX_ok nmX S.2.2.2.1 hw.1 hw.2.1 hw.2.2.1 hw.2.2.2.1 0 rfl rfl 12 (by decide) (S.2.2.2.2 _ (List.mem_cons_of_mem _ wfX_51)) (fun _ h9 => h9) rfl (by decide +kernel) rfl rfl (Nat.le_of_ble_eq_true rfl) hdg (fun H1 locs1 hP hD hS => kk H1 locs1 ⟨hw.1, hP, hD, hS, hw.2.2.2.2.1, hw.2.2.2.2.2⟩)
theorem gX13 (S : CallFix p m c cc nL s args (w0 :: TT) RX) (hw : sX z D cA h a A s H locs I F) (hdg : decode cc pc = .ok (.getfield 85, 3)) (kk : W p l e R s m args below meth c H locs cells slots Q (F0 m (pc + 3) ls (.int (I 13) :: rest))) : W p l e R s m args below meth c H locs cells slots Q (F0 m pc ls (.ref h :: rest)) :=
  va_get (D := D) (ci := 0) (v := .int (I 13)) (C := RX) (T := TX) (N := 14) S.1 S.2.1 S.2.2.2.2 (fun w hw => List.mem_cons_of_mem _ (inX w hw)) S.2.2.2.1 hw.1 hw.2.1 0 rfl rfl 13 (by decide) (S.2.2.2.2 _ (List.mem_cons_of_mem _ wfX_85)) (fun _ h9 => h9) rfl hdg kk
theorem pX13 {x : Int32} (S : CallFix p m c cc nL s args (w0 :: TT) RX) (hw : sX z D cA h a A s H locs I F) (hdg : decode cc pc = .ok (.putfield 85, 3)) (kk : ∀ (H1 : Heap) (locs1 : List Loc), sX z D cA h a A s H1 locs1 (upd I 13 x) F → W p l e R s m args below meth c H1 locs1 cells slots Q (F0 m (pc + 3) ls rest)) : W p l e R s m args below meth c H locs cells slots Q (F0 m pc ls (.int x :: .ref h :: rest)) :=
  va_put (D := D) (ci := 0) (v := .int x) (ty := .int) (C := RX) (T := TX) (N := 14) S.1 S.2.1 S.2.2.2.2 (fun w hw => List.mem_cons_of_mem _ (inX w hw)) tyX tyX_ok nmX S.2.2.2.1 hw.1 hw.2.1 hw.2.2.1 hw.2.2.2.1 0 rfl rfl 13 (by decide) (S.2.2.2.2 _ (List.mem_cons_of_mem _ wfX_85)) (fun _ h9 => h9) rfl (by decide +kernel) rfl rfl (Nat.le_of_ble_eq_true rfl) hdg (fun H1 locs1 hP hD hS => kk H1 locs1 ⟨hw.1, hP, hD, hS, hw.2.2.2.2.1, hw.2.2.2.2.2⟩)
theorem ldX0 {i : Int32} (S : CallFix p m c cc nL s args (w0 :: TT) own) (hw : sX z D cA h a A s H locs I F) (hin : vp_in i 1000) (hdg : decode cc pc = .ok (.iaload, 1)) (kk : W p l e R s m args below meth c H locs cells slots Q (F0 m (pc + 1) ls (.int (F 0 i.toNatClampNeg) :: rest))) : W p l e R s m args below meth c H locs cells slots Q (F0 m pc ls (.int i :: .ref (a 0) :: rest)) :=
  va_iald S.1 S.2.1 hw.1 hw.2.1 1 0 rfl rfl hin hdg kk
theorem stX0 {i x : Int32} (S : CallFix p m c cc nL s args (w0 :: TT) own) (hw : sX z D cA h a A s H locs I F) (hin : vp_in i 1000) (hdg : decode cc pc = .ok (.iastore, 1)) (kk : ∀ (H1 : Heap) (locs1 : List Loc), sX z D cA h a A s H1 locs1 I (va_up F 0 (upd (F 0) i.toNatClampNeg x)) → W p l e R s m args below meth c H1 locs1 cells slots Q (F0 m (pc + 1) ls rest)) : W p l e R s m args below meth c H locs cells slots Q (F0 m pc ls (.int x :: .int i :: .ref (a 0) :: rest)) :=
  va_iast S.1 S.2.1 hw.1 hw.2.1 hw.2.2.1 hw.2.2.2.1 1 0 rfl rfl hin hdg (fun H1 locs1 hP hD hS => kk H1 locs1 ⟨hw.1, hP, hD, hS, hw.2.2.2.2.1, hw.2.2.2.2.2⟩)
theorem lnX0 (S : CallFix p m c cc nL s args (w0 :: TT) own) (hw : sX z D cA h a A s H locs I F) (hdg : decode cc pc = .ok (.arraylength, 1)) (kk : W p l e R s m args below meth c H locs cells slots Q (F0 m (pc + 1) ls (.int (nI 1000) :: rest))) : W p l e R s m args below meth c H locs cells slots Q (F0 m pc ls (.ref (a 0) :: rest)) :=
  va_alen S.1 S.2.1 hw.1 hw.2.1 1 0 rfl rfl rfl hdg kk
theorem arX0 (hw : sX z D cA h a A s H locs I F) : arS (some (a 0, 1000, F 0)) H.size s H := by
  intro q N f e
  cases e
  have hc : H[a 0]? = some (vp_cell cA (1000, .inl (F 0))) := hw.2.1 1 _ rfl
  refine ⟨_, hc, (hw.1.2 0 _ rfl).1 1000 (fun j => .int (F 0 j)), (fun q => by cases q), ?_, ?_, fun j hj => ?_, Nat.not_le.mpr (Array.getElem?_eq_some_iff.mp hc).1⟩
  · rw [vp_cell_i, arrV_size]; exact Nat.le_refl _
  · rw [vp_cell_i, arrV_size] <;> rfl
  · rw [vp_cell_i, arrV_read _ _ hj]
theorem ldX2 {i : Int32} (S : CallFix p m c cc nL s args (w0 :: TT) own) (hw : sX z D cA h a A s H locs I F) (hin : vp_in i 1001) (hdg : decode cc pc = .ok (.iaload, 1)) (kk : W p l e R s m args below meth c H locs cells slots Q (F0 m (pc + 1) ls (.int (F 2 i.toNatClampNeg) :: rest))) : W p l e R s m args below meth c H locs cells slots Q (F0 m pc ls (.int i :: .ref (a 2) :: rest)) :=
  va_iald S.1 S.2.1 hw.1 hw.2.1 2 0 rfl rfl hin hdg kk
theorem stX2 {i x : Int32} (S : CallFix p m c cc nL s args (w0 :: TT) own) (hw : sX z D cA h a A s H locs I F) (hin : vp_in i 1001) (hdg : decode cc pc = .ok (.iastore, 1)) (kk : ∀ (H1 : Heap) (locs1 : List Loc), sX z D cA h a A s H1 locs1 I (va_up F 2 (upd (F 2) i.toNatClampNeg x)) → W p l e R s m args below meth c H1 locs1 cells slots Q (F0 m (pc + 1) ls rest)) : W p l e R s m args below meth c H locs cells slots Q (F0 m pc ls (.int x :: .int i :: .ref (a 2) :: rest)) :=
  va_iast S.1 S.2.1 hw.1 hw.2.1 hw.2.2.1 hw.2.2.2.1 2 0 rfl rfl hin hdg (fun H1 locs1 hP hD hS => kk H1 locs1 ⟨hw.1, hP, hD, hS, hw.2.2.2.2.1, hw.2.2.2.2.2⟩)
theorem lnX2 (S : CallFix p m c cc nL s args (w0 :: TT) own) (hw : sX z D cA h a A s H locs I F) (hdg : decode cc pc = .ok (.arraylength, 1)) (kk : W p l e R s m args below meth c H locs cells slots Q (F0 m (pc + 1) ls (.int (nI 1001) :: rest))) : W p l e R s m args below meth c H locs cells slots Q (F0 m pc ls (.ref (a 2) :: rest)) :=
  va_alen S.1 S.2.1 hw.1 hw.2.1 2 0 rfl rfl rfl hdg kk
theorem arX2 (hw : sX z D cA h a A s H locs I F) : arS (some (a 2, 1001, F 2)) H.size s H := by
  intro q N f e
  cases e
  have hc : H[a 2]? = some (vp_cell cA (1001, .inl (F 2))) := hw.2.1 2 _ rfl
  refine ⟨_, hc, (hw.1.2 0 _ rfl).1 1001 (fun j => .int (F 2 j)), (fun q => by cases q), ?_, ?_, fun j hj => ?_, Nat.not_le.mpr (Array.getElem?_eq_some_iff.mp hc).1⟩
  · rw [vp_cell_i, arrV_size]; exact Nat.le_refl _
  · rw [vp_cell_i, arrV_size] <;> rfl
  · rw [vp_cell_i, arrV_read _ _ hj]
theorem ldX3 {i : Int32} (S : CallFix p m c cc nL s args (w0 :: TT) own) (hw : sX z D cA h a A s H locs I F) (hin : vp_in i 1001) (hdg : decode cc pc = .ok (.iaload, 1)) (kk : W p l e R s m args below meth c H locs cells slots Q (F0 m (pc + 1) ls (.int (F 3 i.toNatClampNeg) :: rest))) : W p l e R s m args below meth c H locs cells slots Q (F0 m pc ls (.int i :: .ref (a 3) :: rest)) :=
  va_iald S.1 S.2.1 hw.1 hw.2.1 3 0 rfl rfl hin hdg kk
theorem stX3 {i x : Int32} (S : CallFix p m c cc nL s args (w0 :: TT) own) (hw : sX z D cA h a A s H locs I F) (hin : vp_in i 1001) (hdg : decode cc pc = .ok (.iastore, 1)) (kk : ∀ (H1 : Heap) (locs1 : List Loc), sX z D cA h a A s H1 locs1 I (va_up F 3 (upd (F 3) i.toNatClampNeg x)) → W p l e R s m args below meth c H1 locs1 cells slots Q (F0 m (pc + 1) ls rest)) : W p l e R s m args below meth c H locs cells slots Q (F0 m pc ls (.int x :: .int i :: .ref (a 3) :: rest)) :=
  va_iast S.1 S.2.1 hw.1 hw.2.1 hw.2.2.1 hw.2.2.2.1 3 0 rfl rfl hin hdg (fun H1 locs1 hP hD hS => kk H1 locs1 ⟨hw.1, hP, hD, hS, hw.2.2.2.2.1, hw.2.2.2.2.2⟩)
theorem lnX3 (S : CallFix p m c cc nL s args (w0 :: TT) own) (hw : sX z D cA h a A s H locs I F) (hdg : decode cc pc = .ok (.arraylength, 1)) (kk : W p l e R s m args below meth c H locs cells slots Q (F0 m (pc + 1) ls (.int (nI 1001) :: rest))) : W p l e R s m args below meth c H locs cells slots Q (F0 m pc ls (.ref (a 3) :: rest)) :=
  va_alen S.1 S.2.1 hw.1 hw.2.1 3 0 rfl rfl rfl hdg kk
theorem arX3 (hw : sX z D cA h a A s H locs I F) : arS (some (a 3, 1001, F 3)) H.size s H := by
  intro q N f e
  cases e
  have hc : H[a 3]? = some (vp_cell cA (1001, .inl (F 3))) := hw.2.1 3 _ rfl
  refine ⟨_, hc, (hw.1.2 0 _ rfl).1 1001 (fun j => .int (F 3 j)), (fun q => by cases q), ?_, ?_, fun j hj => ?_, Nat.not_le.mpr (Array.getElem?_eq_some_iff.mp hc).1⟩
  · rw [vp_cell_i, arrV_size]; exact Nat.le_refl _
  · rw [vp_cell_i, arrV_size] <;> rfl
  · rw [vp_cell_i, arrV_read _ _ hj]
theorem ldX4 {i : Int32} (S : CallFix p m c cc nL s args (w0 :: TT) own) (hw : sX z D cA h a A s H locs I F) (hin : vp_in i 1001) (hdg : decode cc pc = .ok (.iaload, 1)) (kk : W p l e R s m args below meth c H locs cells slots Q (F0 m (pc + 1) ls (.int (F 4 i.toNatClampNeg) :: rest))) : W p l e R s m args below meth c H locs cells slots Q (F0 m pc ls (.int i :: .ref (a 4) :: rest)) :=
  va_iald S.1 S.2.1 hw.1 hw.2.1 4 0 rfl rfl hin hdg kk
theorem stX4 {i x : Int32} (S : CallFix p m c cc nL s args (w0 :: TT) own) (hw : sX z D cA h a A s H locs I F) (hin : vp_in i 1001) (hdg : decode cc pc = .ok (.iastore, 1)) (kk : ∀ (H1 : Heap) (locs1 : List Loc), sX z D cA h a A s H1 locs1 I (va_up F 4 (upd (F 4) i.toNatClampNeg x)) → W p l e R s m args below meth c H1 locs1 cells slots Q (F0 m (pc + 1) ls rest)) : W p l e R s m args below meth c H locs cells slots Q (F0 m pc ls (.int x :: .int i :: .ref (a 4) :: rest)) :=
  va_iast S.1 S.2.1 hw.1 hw.2.1 hw.2.2.1 hw.2.2.2.1 4 0 rfl rfl hin hdg (fun H1 locs1 hP hD hS => kk H1 locs1 ⟨hw.1, hP, hD, hS, hw.2.2.2.2.1, hw.2.2.2.2.2⟩)
theorem lnX4 (S : CallFix p m c cc nL s args (w0 :: TT) own) (hw : sX z D cA h a A s H locs I F) (hdg : decode cc pc = .ok (.arraylength, 1)) (kk : W p l e R s m args below meth c H locs cells slots Q (F0 m (pc + 1) ls (.int (nI 1001) :: rest))) : W p l e R s m args below meth c H locs cells slots Q (F0 m pc ls (.ref (a 4) :: rest)) :=
  va_alen S.1 S.2.1 hw.1 hw.2.1 4 0 rfl rfl rfl hdg kk
theorem arX4 (hw : sX z D cA h a A s H locs I F) : arS (some (a 4, 1001, F 4)) H.size s H := by
  intro q N f e
  cases e
  have hc : H[a 4]? = some (vp_cell cA (1001, .inl (F 4))) := hw.2.1 4 _ rfl
  refine ⟨_, hc, (hw.1.2 0 _ rfl).1 1001 (fun j => .int (F 4 j)), (fun q => by cases q), ?_, ?_, fun j hj => ?_, Nat.not_le.mpr (Array.getElem?_eq_some_iff.mp hc).1⟩
  · rw [vp_cell_i, arrV_size]; exact Nat.le_refl _
  · rw [vp_cell_i, arrV_size] <;> rfl
  · rw [vp_cell_i, arrV_read _ _ hj]
theorem ldX5 {i : Int32} (S : CallFix p m c cc nL s args (w0 :: TT) own) (hw : sX z D cA h a A s H locs I F) (hin : vp_in i 1001) (hdg : decode cc pc = .ok (.iaload, 1)) (kk : W p l e R s m args below meth c H locs cells slots Q (F0 m (pc + 1) ls (.int (F 5 i.toNatClampNeg) :: rest))) : W p l e R s m args below meth c H locs cells slots Q (F0 m pc ls (.int i :: .ref (a 5) :: rest)) :=
  va_iald S.1 S.2.1 hw.1 hw.2.1 5 0 rfl rfl hin hdg kk
theorem stX5 {i x : Int32} (S : CallFix p m c cc nL s args (w0 :: TT) own) (hw : sX z D cA h a A s H locs I F) (hin : vp_in i 1001) (hdg : decode cc pc = .ok (.iastore, 1)) (kk : ∀ (H1 : Heap) (locs1 : List Loc), sX z D cA h a A s H1 locs1 I (va_up F 5 (upd (F 5) i.toNatClampNeg x)) → W p l e R s m args below meth c H1 locs1 cells slots Q (F0 m (pc + 1) ls rest)) : W p l e R s m args below meth c H locs cells slots Q (F0 m pc ls (.int x :: .int i :: .ref (a 5) :: rest)) :=
  va_iast S.1 S.2.1 hw.1 hw.2.1 hw.2.2.1 hw.2.2.2.1 5 0 rfl rfl hin hdg (fun H1 locs1 hP hD hS => kk H1 locs1 ⟨hw.1, hP, hD, hS, hw.2.2.2.2.1, hw.2.2.2.2.2⟩)
theorem lnX5 (S : CallFix p m c cc nL s args (w0 :: TT) own) (hw : sX z D cA h a A s H locs I F) (hdg : decode cc pc = .ok (.arraylength, 1)) (kk : W p l e R s m args below meth c H locs cells slots Q (F0 m (pc + 1) ls (.int (nI 1001) :: rest))) : W p l e R s m args below meth c H locs cells slots Q (F0 m pc ls (.ref (a 5) :: rest)) :=
  va_alen S.1 S.2.1 hw.1 hw.2.1 5 0 rfl rfl rfl hdg kk
theorem arX5 (hw : sX z D cA h a A s H locs I F) : arS (some (a 5, 1001, F 5)) H.size s H := by
  intro q N f e
  cases e
  have hc : H[a 5]? = some (vp_cell cA (1001, .inl (F 5))) := hw.2.1 5 _ rfl
  refine ⟨_, hc, (hw.1.2 0 _ rfl).1 1001 (fun j => .int (F 5 j)), (fun q => by cases q), ?_, ?_, fun j hj => ?_, Nat.not_le.mpr (Array.getElem?_eq_some_iff.mp hc).1⟩
  · rw [vp_cell_i, arrV_size]; exact Nat.le_refl _
  · rw [vp_cell_i, arrV_size] <;> rfl
  · rw [vp_cell_i, arrV_read _ _ hj]
theorem ldX6 {i : Int32} (S : CallFix p m c cc nL s args (w0 :: TT) own) (hw : sX z D cA h a A s H locs I F) (hin : vp_in i 1001) (hdg : decode cc pc = .ok (.iaload, 1)) (kk : W p l e R s m args below meth c H locs cells slots Q (F0 m (pc + 1) ls (.int (F 6 i.toNatClampNeg) :: rest))) : W p l e R s m args below meth c H locs cells slots Q (F0 m pc ls (.int i :: .ref (a 6) :: rest)) :=
  va_iald S.1 S.2.1 hw.1 hw.2.1 6 0 rfl rfl hin hdg kk
theorem stX6 {i x : Int32} (S : CallFix p m c cc nL s args (w0 :: TT) own) (hw : sX z D cA h a A s H locs I F) (hin : vp_in i 1001) (hdg : decode cc pc = .ok (.iastore, 1)) (kk : ∀ (H1 : Heap) (locs1 : List Loc), sX z D cA h a A s H1 locs1 I (va_up F 6 (upd (F 6) i.toNatClampNeg x)) → W p l e R s m args below meth c H1 locs1 cells slots Q (F0 m (pc + 1) ls rest)) : W p l e R s m args below meth c H locs cells slots Q (F0 m pc ls (.int x :: .int i :: .ref (a 6) :: rest)) :=
  va_iast S.1 S.2.1 hw.1 hw.2.1 hw.2.2.1 hw.2.2.2.1 6 0 rfl rfl hin hdg (fun H1 locs1 hP hD hS => kk H1 locs1 ⟨hw.1, hP, hD, hS, hw.2.2.2.2.1, hw.2.2.2.2.2⟩)
theorem lnX6 (S : CallFix p m c cc nL s args (w0 :: TT) own) (hw : sX z D cA h a A s H locs I F) (hdg : decode cc pc = .ok (.arraylength, 1)) (kk : W p l e R s m args below meth c H locs cells slots Q (F0 m (pc + 1) ls (.int (nI 1001) :: rest))) : W p l e R s m args below meth c H locs cells slots Q (F0 m pc ls (.ref (a 6) :: rest)) :=
  va_alen S.1 S.2.1 hw.1 hw.2.1 6 0 rfl rfl rfl hdg kk
theorem arX6 (hw : sX z D cA h a A s H locs I F) : arS (some (a 6, 1001, F 6)) H.size s H := by
  intro q N f e
  cases e
  have hc : H[a 6]? = some (vp_cell cA (1001, .inl (F 6))) := hw.2.1 6 _ rfl
  refine ⟨_, hc, (hw.1.2 0 _ rfl).1 1001 (fun j => .int (F 6 j)), (fun q => by cases q), ?_, ?_, fun j hj => ?_, Nat.not_le.mpr (Array.getElem?_eq_some_iff.mp hc).1⟩
  · rw [vp_cell_i, arrV_size]; exact Nat.le_refl _
  · rw [vp_cell_i, arrV_size] <;> rfl
  · rw [vp_cell_i, arrV_read _ _ hj]
theorem ldX7 {i : Int32} (S : CallFix p m c cc nL s args (w0 :: TT) own) (hw : sX z D cA h a A s H locs I F) (hin : vp_in i 1001) (hdg : decode cc pc = .ok (.iaload, 1)) (kk : W p l e R s m args below meth c H locs cells slots Q (F0 m (pc + 1) ls (.int (F 7 i.toNatClampNeg) :: rest))) : W p l e R s m args below meth c H locs cells slots Q (F0 m pc ls (.int i :: .ref (a 7) :: rest)) :=
  va_iald S.1 S.2.1 hw.1 hw.2.1 7 0 rfl rfl hin hdg kk
theorem stX7 {i x : Int32} (S : CallFix p m c cc nL s args (w0 :: TT) own) (hw : sX z D cA h a A s H locs I F) (hin : vp_in i 1001) (hdg : decode cc pc = .ok (.iastore, 1)) (kk : ∀ (H1 : Heap) (locs1 : List Loc), sX z D cA h a A s H1 locs1 I (va_up F 7 (upd (F 7) i.toNatClampNeg x)) → W p l e R s m args below meth c H1 locs1 cells slots Q (F0 m (pc + 1) ls rest)) : W p l e R s m args below meth c H locs cells slots Q (F0 m pc ls (.int x :: .int i :: .ref (a 7) :: rest)) :=
  va_iast S.1 S.2.1 hw.1 hw.2.1 hw.2.2.1 hw.2.2.2.1 7 0 rfl rfl hin hdg (fun H1 locs1 hP hD hS => kk H1 locs1 ⟨hw.1, hP, hD, hS, hw.2.2.2.2.1, hw.2.2.2.2.2⟩)
theorem lnX7 (S : CallFix p m c cc nL s args (w0 :: TT) own) (hw : sX z D cA h a A s H locs I F) (hdg : decode cc pc = .ok (.arraylength, 1)) (kk : W p l e R s m args below meth c H locs cells slots Q (F0 m (pc + 1) ls (.int (nI 1001) :: rest))) : W p l e R s m args below meth c H locs cells slots Q (F0 m pc ls (.ref (a 7) :: rest)) :=
  va_alen S.1 S.2.1 hw.1 hw.2.1 7 0 rfl rfl rfl hdg kk
theorem arX7 (hw : sX z D cA h a A s H locs I F) : arS (some (a 7, 1001, F 7)) H.size s H := by
  intro q N f e
  cases e
  have hc : H[a 7]? = some (vp_cell cA (1001, .inl (F 7))) := hw.2.1 7 _ rfl
  refine ⟨_, hc, (hw.1.2 0 _ rfl).1 1001 (fun j => .int (F 7 j)), (fun q => by cases q), ?_, ?_, fun j hj => ?_, Nat.not_le.mpr (Array.getElem?_eq_some_iff.mp hc).1⟩
  · rw [vp_cell_i, arrV_size]; exact Nat.le_refl _
  · rw [vp_cell_i, arrV_size] <;> rfl
  · rw [vp_cell_i, arrV_read _ _ hj]
theorem ldX9 {i : Int32} (S : CallFix p m c cc nL s args (w0 :: TT) own) (hw : sX z D cA h a A s H locs I F) (hin : vp_in i 1000) (hdg : decode cc pc = .ok (.iaload, 1)) (kk : W p l e R s m args below meth c H locs cells slots Q (F0 m (pc + 1) ls (.int (F 9 i.toNatClampNeg) :: rest))) : W p l e R s m args below meth c H locs cells slots Q (F0 m pc ls (.int i :: .ref (a 9) :: rest)) :=
  va_iald S.1 S.2.1 hw.1 hw.2.1 8 0 rfl rfl hin hdg kk
theorem stX9 {i x : Int32} (S : CallFix p m c cc nL s args (w0 :: TT) own) (hw : sX z D cA h a A s H locs I F) (hin : vp_in i 1000) (hdg : decode cc pc = .ok (.iastore, 1)) (kk : ∀ (H1 : Heap) (locs1 : List Loc), sX z D cA h a A s H1 locs1 I (va_up F 9 (upd (F 9) i.toNatClampNeg x)) → W p l e R s m args below meth c H1 locs1 cells slots Q (F0 m (pc + 1) ls rest)) : W p l e R s m args below meth c H locs cells slots Q (F0 m pc ls (.int x :: .int i :: .ref (a 9) :: rest)) :=
  va_iast S.1 S.2.1 hw.1 hw.2.1 hw.2.2.1 hw.2.2.2.1 8 0 rfl rfl hin hdg (fun H1 locs1 hP hD hS => kk H1 locs1 ⟨hw.1, hP, hD, hS, hw.2.2.2.2.1, hw.2.2.2.2.2⟩)
theorem lnX9 (S : CallFix p m c cc nL s args (w0 :: TT) own) (hw : sX z D cA h a A s H locs I F) (hdg : decode cc pc = .ok (.arraylength, 1)) (kk : W p l e R s m args below meth c H locs cells slots Q (F0 m (pc + 1) ls (.int (nI 1000) :: rest))) : W p l e R s m args below meth c H locs cells slots Q (F0 m pc ls (.ref (a 9) :: rest)) :=
  va_alen S.1 S.2.1 hw.1 hw.2.1 8 0 rfl rfl rfl hdg kk
theorem arX9 (hw : sX z D cA h a A s H locs I F) : arS (some (a 9, 1000, F 9)) H.size s H := by
  intro q N f e
  cases e
  have hc : H[a 9]? = some (vp_cell cA (1000, .inl (F 9))) := hw.2.1 8 _ rfl
  refine ⟨_, hc, (hw.1.2 0 _ rfl).1 1000 (fun j => .int (F 9 j)), (fun q => by cases q), ?_, ?_, fun j hj => ?_, Nat.not_le.mpr (Array.getElem?_eq_some_iff.mp hc).1⟩
  · rw [vp_cell_i, arrV_size]; exact Nat.le_refl _
  · rw [vp_cell_i, arrV_size] <;> rfl
  · rw [vp_cell_i, arrV_read _ _ hj]
end KX
/-! ===== the class TokenRowModel: its world, contracts and steps ===== -/
def wM (z : kz_Z) (cA : ClassId) (h : Nat) (a : Nat → Nat) (I : Nat → Int32) (F : Nat → Nat → Int32) : va_W := [(h, .inr (1, [.int (I 0), .ref (a 1), .int (I 2), .int (I 3), .ref (a 4), .ref (a 5), .ref (a 6), .ref (a 7), .ref (a 8), .ref (a 9), .ref (a 10), .int (I 11), .ref (z.2.1 7), .ref (z.2.1 8), .ref (z.2.1 9), .int (I 15), .int (I 16), .int (I 17), .int (I 18), .int (I 19)])), (a 1, .inl (cA, 1000, .inl (F 1))), (a 4, .inl (cA, 2100, .inl (F 4))), (a 5, .inl (cA, 2100, .inl (F 5))), (a 6, .inl (cA, 2100, .inl (F 6))), (a 7, .inl (cA, 2100, .inl (F 7))), (a 8, .inl (cA, 2100, .inl (F 8))), (a 9, .inl (cA, 2100, .inl (F 9))), (a 10, .inl (cA, 2100, .inl (F 10)))]
def adM (h : Nat) (a : Nat → Nat) : List Nat := [h, a 1, a 4, a 5, a 6, a 7, a 8, a 9, a 10]
def AM (h : Nat) (a : Nat → Nat) (sz : Nat) : Nat → Prop := fun q => q ∈ adM h a ∨ sz ≤ q
def sM (z : kz_Z) (D : va_G) (cA : ClassId) (h : Nat) (a : Nat → Nat) (A : Nat → Prop) (s : State) (H : Heap) (locs : List Loc) (I : Nat → Int32) (F : Nat → Nat → Int32) : Prop :=
  va_K D clT [(cA, .int)] s ∧ va_P D clT (wM z cA h a I F) H ∧ va_D A (wM z cA h a I F) ∧ va_S A s.heap H locs ∧ tkS z A s s.heap ∧ tkR z s
def preM (z : kz_Z) (D : va_G) (cA : ClassId) (h : Nat) (a : Nat → Nat) (sz : Nat) (I : Nat → Int32) (F : Nat → Nat → Int32) (U : State) : Prop :=
  U.heap.size = sz ∧ va_K D clT [(cA, .int)] U ∧ va_P D clT (wM z cA h a I F) U.heap ∧ va_D (AM h a sz) (wM z cA h a I F) ∧ tkS z (AM h a sz) U U.heap ∧ tkR z U
def QM (z : kz_Z) (D : va_G) (cA : ClassId) (h : Nat) (a : Nat → Nat) (sz : Nat) (post : Option Value → (Nat → Int32) → (Nat → Nat → Int32) → Prop) : Array Value → State → Outcome → State → Prop := fun _ st oc t =>
  (∃ (v : Option Value) (I' : Nat → Int32) (F' : Nat → Nat → Int32), oc = .returned v ∧ post v I' F' ∧ va_P D clT (wM z cA h a I' F') t.heap) ∧ va_F (AM h a sz) st t
def MM (l : Launch) (y : MethodName) (cy : ByteArray) (n : Nat) (ret : Option FieldType) (rm : Room) (As : List Value) (I : Nat → Int32) (F : Nat → Nat → Int32) (post : Option Value → (Nat → Int32) → (Nat → Nat → Int32) → Prop) : Prop :=
  ∀ (z : kz_Z) (D : va_G) (cA : ClassId) (h : Nat) (a : Nat → Nat) (sz : Nat), Met l y (Cond.code y cy n ret :: TT) rm (va_Pc (.ref h :: As) (preM z D cA h a sz I F)) (QM z D cA h a sz post) 0 0 (AM h a sz)
theorem MM.mk {l : Launch} {y : MethodName} {cy : ByteArray} {n : Nat} {ret : Option FieldType} {rm : Room} {As : List Value} {I : Nat → Int32} {F : Nat → Nat → Int32} {post : Option Value → (Nat → Int32) → (Nat → Nat → Int32) → Prop} (hy : plainName y.cls = true) (hn : ∀ h : Nat, (lg_sl (.ref h :: As)).length ≤ n)
    (body : ∀ (z : kz_Z) (D : va_G) (cA : ClassId) (h : Nat) (a : Nat → Nat) (p : Program) (e : Env) (s : State) (m : MethodId) (below : List Frame) (meth : Method) (c : Code) (ls : Array Slot), CallFix p m c cy n s (Value.ref h :: As).toArray (Cond.code y cy n ret :: TT) y.cls → meth.sig.returnType = ret → meth.locks = false → (∀ q, s.heap.size ≤ q → AM h a s.heap.size q) → sM z D cA h a (AM h a s.heap.size) s s.heap [] I F → lv_has ls n (lv_args 0 (.ref h :: As)) →
      W p l e rm s m (Value.ref h :: As).toArray below meth c s.heap [] 0 0 (MQ below (QM z D cA h a s.heap.size post) (Value.ref h :: As).toArray s 0 0 (AM h a s.heap.size)) (F0 m 0 ls [])) : MM l y cy n ret rm As I F post := by
  intro z D cA h a sz
  refine Met.ofW (cc := cy) (maxL := n) (ret := ret) hy rfl ?_
  intro p e s m args below meth c s₁ B hml hv
  obtain ⟨rfl, hsz, h1, h2, h3, h4, h5⟩ := hv
  subst hsz
  rw [lg_entry_eq]
  exact body z D cA h a p e s m below meth c _ ⟨B.exec, B.bytes, hml, findClass_of_methodNamed B.named, atoms_spec (ws := Cond.code y cy n ret :: TT) B.pre⟩ B.returns B.notSynchronized (fun q hq => Or.inr hq) ⟨h1, h2, h3, va_S.rf, h4, h5⟩ (lv_entry _ (hn h))
theorem AM.sub {z : kz_Z} {cA : ClassId} {h : Nat} {a : Nat → Nat} {I : Nat → Int32} {F : Nat → Nat → Int32} {A : Nat → Prop} {H0 H : Heap} {locs : List Loc} (hD : va_D A (wM z cA h a I F)) (hS : va_S A H0 H locs) (hA : ∀ q, H0.size ≤ q → A q) : ∀ q, AM h a H.size q → A q := by
  intro q hq
  rcases hq with hq | hq
  · obtain ⟨i, hi⟩ := List.getElem?_of_mem (show q ∈ (wM z cA h a I F).map Prod.fst from hq)
    rw [List.getElem?_map] at hi
    cases hx : (wM z cA h a I F)[i]? with
    | none => rw [hx] at hi; cases hi
    | some x => rw [hx] at hi; cases hi; exact hD.2 i x hx
  · exact hA q (Nat.le_trans hS.1 hq)
theorem DM.any {z : kz_Z} {cA : ClassId} {h : Nat} {a : Nat → Nat} {I I' : Nat → Int32} {F F' : Nat → Nat → Int32} {A B : Nat → Prop} (hD : va_D A (wM z cA h a I F)) (hB : ∀ q ∈ adM h a, B q) : va_D B (wM z cA h a I' F') := kz_addr hD rfl hB
theorem DM.keep {z : kz_Z} {cA : ClassId} {h : Nat} {a : Nat → Nat} {I I' : Nat → Int32} {F F' : Nat → Nat → Int32} {A : Nat → Prop} (hD : va_D A (wM z cA h a I F)) : va_D A (wM z cA h a I' F') := by
  refine DM.any hD (fun q hq => ?_)
  obtain ⟨i, hi⟩ := List.getElem?_of_mem (show q ∈ (wM z cA h a I F).map Prod.fst from hq)
  rw [List.getElem?_map] at hi
  cases hx : (wM z cA h a I F)[i]? with
  | none => rw [hx] at hi; cases hi
  | some x => rw [hx] at hi; cases hi; exact hD.2 i x hx
section KM
variable {p : Program} {l : Launch} {e : Env} {R : Room} {s : State} {m : MethodId} {args : Array Value} {below : List Frame} {meth : Method} {c : Code} {H : Heap} {locs : List Loc} {cells slots : Nat} {Q : State → Prop}
variable {cc : ByteArray} {pc nL : Nat} {ls : Array Slot} {rest : List Value} {D : va_G} {cA : ClassId} {A : Nat → Prop} {z : kz_Z} {w0 : Cond} {own : String}
variable {h : Nat} {a : Nat → Nat} {I : Nat → Int32} {F : Nat → Nat → Int32} {post : Option Value → (Nat → Int32) → (Nat → Nat → Int32) → Prop}
theorem MM.iret {ty : FieldType} {v : Int32} (S : CallFix p m c cc nL s args (w0 :: TT) own) (hr : meth.sig.returnType = some ty) (hl : meth.locks = false) (hw : sM z D cA h a (AM h a s.heap.size) s H locs I F) (hdg : decode cc pc = .ok (.ireturn, 1)) (hn : narrow ty (.int v) = .int v) (hp : post (some (.int v)) I F) :
    W p l e R s m args below meth c H locs cells slots (MQ below (QM z D cA h a s.heap.size post) args s cells slots (AM h a s.heap.size)) (F0 m pc ls [.int v]) :=
  W.zret S.1 S.2.1 hr hn (fun t ht _ => ⟨⟨_, I, F, rfl, hp, by rw [ht]; exact hw.2.1⟩, hw.2.2.2.1.F ht⟩) hw.2.2.2.1.2.2 hdg hl
theorem MM.vret (S : CallFix p m c cc nL s args (w0 :: TT) own) (hr : meth.sig.returnType = none) (hl : meth.locks = false) (hw : sM z D cA h a (AM h a s.heap.size) s H locs I F) (hdg : decode cc pc = .ok (.return_, 1)) (hp : post none I F) :
    W p l e R s m args below meth c H locs cells slots (MQ below (QM z D cA h a s.heap.size post) args s cells slots (AM h a s.heap.size)) (F0 m pc ls []) :=
  W.vret S.1 S.2.1 hr (fun t ht _ => ⟨⟨_, I, F, rfl, hp, by rw [ht]; exact hw.2.1⟩, hw.2.2.2.1.F ht⟩) hw.2.2.2.1.2.2 hdg hl
theorem sM.kept {H1 : Heap} {locs1 : List Loc} (hw : sM z D cA h a A s H locs I F) (hk : ∀ q : Nat, q < H.size → H1[q]? = H[q]?) (hS : va_S A s.heap H1 locs1) : sM z D cA h a A s H1 locs1 I F :=
  ⟨hw.1, hw.2.1.kept (fun k q hq => hk q.1 (hw.2.1 k q hq).lt), hw.2.2.1, hS, hw.2.2.2.2.1, hw.2.2.2.2.2⟩
theorem kcM {ix n k : Nat} {y : MethodName} {cy : ByteArray} {ret : Option FieldType} {rm : Room} {As : List Value} (S : CallFix p m c cc nL s args (w0 :: TT) own) (hk : lkV own ix y cy n ret k) (hyc : y.cls = RM) (hM : MM l y cy n ret rm As I F post) (hw : sM z D cA h a A s H locs I F) (hA : ∀ q, s.heap.size ≤ q → A q)
    (hR : rm.frames + 1 ≤ R.frames ∧ 8 + (n + 11) + rm.locals ≤ R.locals) (hrc : rm.cells = 0) (hrs : rm.slots = 0) (hf : cells ≤ R.cells ∧ slots ≤ R.slots) (hn : As.length = k) (hls : ls.size = nL) (hW : (rest.map fun v => v.category).sum ≤ 8) (hdg : decode cc pc = .ok (.invokevirtual ix, 3))
    (kk : ∀ (v : Option Value) (I' : Nat → Int32) (F' : Nat → Nat → Int32) (H1 : Heap) (locs1 : List Loc), post v I' F' → sM z D cA h a A s H1 locs1 I' F' → W p l e R s m args below meth c H1 locs1 cells slots Q (F0 m (pc + 3) ls (v.toList ++ rest))) : W p l e R s m args below meth c H locs cells slots Q (F0 m pc ls (As.reverse ++ .ref h :: rest)) := by
  obtain ⟨w1, w2, w3, w4, w5, w6⟩ := hw
  have hsub := AM.sub w3 w4 hA
  refine kz_call (va_runV (As := As) (rest := rest) (b := h) S (hM z D cA h a H.size) (kz_cwV S hk hrc hrs hR) ⟨?_, by rw [hyc]; exact va_recv w1 w2 (ci := 1) (q0 := 0) rfl rfl, fun U hU hW => ⟨rfl, by rw [hU], va_K.moved hW.alike w1, by rw [hU]; exact w2, DM.any w3 (fun q hq => Or.inl hq), ?_, w6.warm hW⟩⟩ rfl hn hls rfl (lv_room hW) hdg hf) w4 hsub (fun v st t H1 locs1 h0 h1 hq hL => ?_)
  · intro a1 U g mk q
    obtain ⟨q0, q1, q2, q3, q4, q5, q6⟩ := q
    exact ⟨q0, q1, va_K.moved (Vm.Alike.refl U.vm) q2, q3, q4, q5.moved (Vm.Alike.refl U.vm), q6.same rfl⟩
  · rw [hU]
    exact ((w5.kept w4.2.1).narrow hsub).moved hW.alike
  · obtain ⟨⟨v', I', F', hv, hp, hP⟩, hz, hkp⟩ := hq
    cases hv
    rw [h0] at hz hkp
    rw [h1] at hz hkp hP
    exact kk v I' F' H1 locs1 hp ⟨w1, hP, DM.keep w3, ⟨Nat.le_trans w4.1 hz, fun q g1 g2 => (hkp q (Nat.lt_of_lt_of_le g1 w4.1) (fun x => g2 (hsub q x))).trans (w4.2.1 q g1 g2), hL⟩, w5, w6⟩
theorem kcMi {ix n k : Nat} {y : MethodName} {cy : ByteArray} {ret : Option FieldType} {rm : Room} {As : List Value} {posti : Int32 → (Nat → Int32) → (Nat → Nat → Int32) → Prop} (S : CallFix p m c cc nL s args (w0 :: TT) own) (hk : lkV own ix y cy n ret k) (hyc : y.cls = RM) (hM : MM l y cy n ret rm As I F (iR posti)) (hw : sM z D cA h a A s H locs I F) (hA : ∀ q, s.heap.size ≤ q → A q)
    (hR : rm.frames + 1 ≤ R.frames ∧ 8 + (n + 11) + rm.locals ≤ R.locals) (hrc : rm.cells = 0) (hrs : rm.slots = 0) (hf : cells ≤ R.cells ∧ slots ≤ R.slots) (hn : As.length = k) (hls : ls.size = nL) (hW : (rest.map fun v => v.category).sum ≤ 8) (hdg : decode cc pc = .ok (.invokevirtual ix, 3))
    (kk : ∀ (r : Int32) (I' : Nat → Int32) (F' : Nat → Nat → Int32) (H1 : Heap) (locs1 : List Loc), posti r I' F' → sM z D cA h a A s H1 locs1 I' F' → W p l e R s m args below meth c H1 locs1 cells slots Q (F0 m (pc + 3) ls (.int r :: rest))) : W p l e R s m args below meth c H locs cells slots Q (F0 m pc ls (As.reverse ++ .ref h :: rest)) := by
  refine kcM S hk hyc hM hw hA hR hrc hrs hf hn hls hW hdg (fun v I' F' H1 locs1 hp hw => ?_)
  obtain ⟨r, rfl, hp⟩ := hp
  exact kk r I' F' H1 locs1 hp hw
theorem kcMv {ix n k : Nat} {y : MethodName} {cy : ByteArray} {ret : Option FieldType} {rm : Room} {As : List Value} {postv : (Nat → Int32) → (Nat → Nat → Int32) → Prop} (S : CallFix p m c cc nL s args (w0 :: TT) own) (hk : lkV own ix y cy n ret k) (hyc : y.cls = RM) (hM : MM l y cy n ret rm As I F (vR postv)) (hw : sM z D cA h a A s H locs I F) (hA : ∀ q, s.heap.size ≤ q → A q)
    (hR : rm.frames + 1 ≤ R.frames ∧ 8 + (n + 11) + rm.locals ≤ R.locals) (hrc : rm.cells = 0) (hrs : rm.slots = 0) (hf : cells ≤ R.cells ∧ slots ≤ R.slots) (hn : As.length = k) (hls : ls.size = nL) (hW : (rest.map fun v => v.category).sum ≤ 8) (hdg : decode cc pc = .ok (.invokevirtual ix, 3))
    (kk : ∀ (I' : Nat → Int32) (F' : Nat → Nat → Int32) (H1 : Heap) (locs1 : List Loc), postv I' F' → sM z D cA h a A s H1 locs1 I' F' → W p l e R s m args below meth c H1 locs1 cells slots Q (F0 m (pc + 3) ls rest)) : W p l e R s m args below meth c H locs cells slots Q (F0 m pc ls (As.reverse ++ .ref h :: rest)) := by
  refine kcM S hk hyc hM hw hA hR hrc hrs hf hn hls hW hdg (fun v I' F' H1 locs1 hp hw => ?_)
  obtain ⟨rfl, hp⟩ := hp
  exact kk I' F' H1 locs1 hp hw
/-- a static call out of a method of this class -/
theorem kcMS {ix n k : Nat} {y : MethodName} {cy : ByteArray} {ret : Option FieldType} {rm : Room} {As : List Value} {o : kz_O} {posts : Int32 → Prop} (S : CallFix p m c cc nL s args (w0 :: TT) own) (hk : lkS own ix y cy n ret k) (hM : MS l y cy n ret rm As z o (fun v => ∃ r, v = some (.int r) ∧ posts r)) (hw : sM z D cA h a A s H locs I F) (hA : ∀ q, s.heap.size ≤ q → A q) (ar : arS o H.size s H)
    (hR : rm.frames + 1 ≤ R.frames ∧ 8 + (n + 11) + rm.locals ≤ R.locals) (hrc : rm.cells = 0) (hrs : rm.slots = 0) (hf : cells ≤ R.cells ∧ slots ≤ R.slots) (hn : As.length = k) (hls : ls.size = nL) (hW : (rest.map fun v => v.category).sum ≤ 8) (hdg : decode cc pc = .ok (.invokestatic ix, 3))
    (kk : ∀ (r : Int32) (H1 : Heap) (locs1 : List Loc), posts r → sM z D cA h a A s H1 locs1 I F → W p l e R s m args below meth c H1 locs1 cells slots Q (F0 m (pc + 3) ls (.int r :: rest))) : W p l e R s m args below meth c H locs cells slots Q (F0 m pc ls (As.reverse ++ rest)) := by
  refine kz_cS S hk hM hw.2.2.2.1 hA hw.2.2.2.2.1 hw.2.2.2.2.2 ar hR hrc hrs hf hn hls hW hdg (fun v H1 locs1 hp hz hkp hS => ?_)
  obtain ⟨r, rfl, hp⟩ := hp
  exact kk r H1 locs1 hp (hw.kept hkp hS)
theorem kcMT {ix n k i : Nat} {y : MethodName} {cy : ByteArray} {ret : Option FieldType} {rm : Room} {As : List Value} {o : kz_O} {posts : Int32 → Prop} (S : CallFix p m c cc nL s args (w0 :: TT) own) (hk : lkV own ix y cy n ret k) (hyc : y.cls = "java/lang/String") (hi : i < 12) (hM : MS l y cy n ret rm (.ref (z.2.1 i) :: As) z o (fun v => ∃ r, v = some (.int r) ∧ posts r)) (hw : sM z D cA h a A s H locs I F) (hA : ∀ q, s.heap.size ≤ q → A q) (ar : arS o H.size s H)
    (hR : rm.frames + 1 ≤ R.frames ∧ 8 + (n + 11) + rm.locals ≤ R.locals) (hrc : rm.cells = 0) (hrs : rm.slots = 0) (hf : cells ≤ R.cells ∧ slots ≤ R.slots) (hn : As.length = k) (hls : ls.size = nL) (hW : (rest.map fun v => v.category).sum ≤ 8) (hdg : decode cc pc = .ok (.invokevirtual ix, 3))
    (kk : ∀ (r : Int32) (H1 : Heap) (locs1 : List Loc), posts r → sM z D cA h a A s H1 locs1 I F → W p l e R s m args below meth c H1 locs1 cells slots Q (F0 m (pc + 3) ls (.int r :: rest))) : W p l e R s m args below meth c H locs cells slots Q (F0 m pc ls (As.reverse ++ .ref (z.2.1 i) :: rest)) := by
  refine kz_cT S hk hyc hi hM hw.2.2.2.1 hA hw.2.2.2.2.1 hw.2.2.2.2.2 ar hR hrc hrs hf hn hls hW hdg (fun v H1 locs1 hp hz hkp hS => ?_)
  obtain ⟨r, rfl, hp⟩ := hp
  exact kk r H1 locs1 hp (hw.kept hkp hS)
theorem gM1 (S : CallFix p m c cc nL s args (w0 :: TT) RM) (hw : sM z D cA h a A s H locs I F) (hdg : decode cc pc = .ok (.getfield 7, 3)) (kk : W p l e R s m args below meth c H locs cells slots Q (F0 m (pc + 3) ls (.ref (a 1) :: rest))) : W p l e R s m args below meth c H locs cells slots Q (F0 m pc ls (.ref h :: rest)) :=
  va_get (D := D) (ci := 1) (v := .ref (a 1)) (C := RM) (T := TM) (N := 20) S.1 S.2.1 S.2.2.2.2 (fun w hw => List.mem_cons_of_mem _ (inM w hw)) S.2.2.2.1 hw.1 hw.2.1 0 rfl rfl 1 (by decide) (S.2.2.2.2 _ (List.mem_cons_of_mem _ wfM_7)) (fun _ h9 => h9) rfl hdg kk
theorem gM2 (S : CallFix p m c cc nL s args (w0 :: TT) RM) (hw : sM z D cA h a A s H locs I F) (hdg : decode cc pc = .ok (.getfield 54, 3)) (kk : W p l e R s m args below meth c H locs cells slots Q (F0 m (pc + 3) ls (.int (I 2) :: rest))) : W p l e R s m args below meth c H locs cells slots Q (F0 m pc ls (.ref h :: rest)) :=
  va_get (D := D) (ci := 1) (v := .int (I 2)) (C := RM) (T := TM) (N := 20) S.1 S.2.1 S.2.2.2.2 (fun w hw => List.mem_cons_of_mem _ (inM w hw)) S.2.2.2.1 hw.1 hw.2.1 0 rfl rfl 2 (by decide) (S.2.2.2.2 _ (List.mem_cons_of_mem _ wfM_54)) (fun _ h9 => h9) rfl hdg kk
theorem pM2 {x : Int32} (S : CallFix p m c cc nL s args (w0 :: TT) RM) (hw : sM z D cA h a A s H locs I F) (hdg : decode cc pc = .ok (.putfield 54, 3)) (kk : ∀ (H1 : Heap) (locs1 : List Loc), sM z D cA h a A s H1 locs1 (upd I 2 x) F → W p l e R s m args below meth c H1 locs1 cells slots Q (F0 m (pc + 3) ls rest)) : W p l e R s m args below meth c H locs cells slots Q (F0 m pc ls (.int x :: .ref h :: rest)) :=
  va_put (D := D) (ci := 1) (v := .int x) (ty := .int) (C := RM) (T := TM) (N := 20) S.1 S.2.1 S.2.2.2.2 (fun w hw => List.mem_cons_of_mem _ (inM w hw)) tyM tyM_ok nmM S.2.2.2.1 hw.1 hw.2.1 hw.2.2.1 hw.2.2.2.1 0 rfl rfl 2 (by decide) (S.2.2.2.2 _ (List.mem_cons_of_mem _ wfM_54)) (fun _ h9 => h9) rfl (by decide +kernel) rfl rfl (Nat.le_of_ble_eq_true rfl) hdg (fun H1 locs1 hP hD hS => kk H1 locs1 ⟨hw.1, hP, hD, hS, hw.2.2.2.2.1, hw.2.2.2.2.2⟩)
theorem gM3 (S : CallFix p m c cc nL s args (w0 :: TT) RM) (hw : sM z D cA h a A s H locs I F) (hdg : decode cc pc = .ok (.getfield 81, 3)) (kk : W p l e R s m args below meth c H locs cells slots Q (F0 m (pc + 3) ls (.int (I 3) :: rest))) : W p l e R s m args below meth c H locs cells slots Q (F0 m pc ls (.ref h :: rest)) :=
  va_get (D := D) (ci := 1) (v := .int (I 3)) (C := RM) (T := TM) (N := 20) S.1 S.2.1 S.2.2.2.2 (fun w hw => List.mem_cons_of_mem _ (inM w hw)) S.2.2.2.1 hw.1 hw.2.1 0 rfl rfl 3 (by decide) (S.2.2.2.2 _ (List.mem_cons_of_mem _ wfM_81)) (fun _ h9 => h9) rfl hdg kk
theorem pM3 {x : Int32} (S : CallFix p m c cc nL s args (w0 :: TT) RM) (hw : sM z D cA h a A s H locs I F) (hdg : decode cc pc = .ok (.putfield 81, 3)) (kk : ∀ (H1 : Heap) (locs1 : List Loc), sM z D cA h a A s H1 locs1 (upd I 3 x) F → W p l e R s m args below meth c H1 locs1 cells slots Q (F0 m (pc + 3) ls rest)) : W p l e R s m args below meth c H locs cells slots Q (F0 m pc ls (.int x :: .ref h :: rest)) :=
  va_put (D := D) (ci := 1) (v := .int x) (ty := .int) (C := RM) (T := TM) (N := 20) S.1 S.2.1 S.2.2.2.2 (fun w hw => List.mem_cons_of_mem _ (inM w hw)) tyM tyM_ok nmM S.2.2.2.1 hw.1 hw.2.1 hw.2.2.1 hw.2.2.2.1 0 rfl rfl 3 (by decide) (S.2.2.2.2 _ (List.mem_cons_of_mem _ wfM_81)) (fun _ h9 => h9) rfl (by decide +kernel) rfl rfl (Nat.le_of_ble_eq_true rfl) hdg (fun H1 locs1 hP hD hS => kk H1 locs1 ⟨hw.1, hP, hD, hS, hw.2.2.2.2.1, hw.2.2.2.2.2⟩)
theorem gM4 (S : CallFix p m c cc nL s args (w0 :: TT) RM) (hw : sM z D cA h a A s H locs I F) (hdg : decode cc pc = .ok (.getfield 13, 3)) (kk : W p l e R s m args below meth c H locs cells slots Q (F0 m (pc + 3) ls (.ref (a 4) :: rest))) : W p l e R s m args below meth c H locs cells slots Q (F0 m pc ls (.ref h :: rest)) :=
  va_get (D := D) (ci := 1) (v := .ref (a 4)) (C := RM) (T := TM) (N := 20) S.1 S.2.1 S.2.2.2.2 (fun w hw => List.mem_cons_of_mem _ (inM w hw)) S.2.2.2.1 hw.1 hw.2.1 0 rfl rfl 4 (by decide) (S.2.2.2.2 _ (List.mem_cons_of_mem _ wfM_13)) (fun _ h9 => h9) rfl hdg kk
theorem gM5 (S : CallFix p m c cc nL s args (w0 :: TT) RM) (hw : sM z D cA h a A s H locs I F) (hdg : decode cc pc = .ok (.getfield 16, 3)) (kk : W p l e R s m args below meth c H locs cells slots Q (F0 m (pc + 3) ls (.ref (a 5) :: rest))) : W p l e R s m args below meth c H locs cells slots Q (F0 m pc ls (.ref h :: rest)) :=
  va_get (D := D) (ci := 1) (v := .ref (a 5)) (C := RM) (T := TM) (N := 20) S.1 S.2.1 S.2.2.2.2 (fun w hw => List.mem_cons_of_mem _ (inM w hw)) S.2.2.2.1 hw.1 hw.2.1 0 rfl rfl 5 (by decide) (S.2.2.2.2 _ (List.mem_cons_of_mem _ wfM_16)) (fun _ h9 => h9) rfl hdg kk
theorem gM6 (S : CallFix p m c cc nL s args (w0 :: TT) RM) (hw : sM z D cA h a A s H locs I F) (hdg : decode cc pc = .ok (.getfield 19, 3)) (kk : W p l e R s m args below meth c H locs cells slots Q (F0 m (pc + 3) ls (.ref (a 6) :: rest))) : W p l e R s m args below meth c H locs cells slots Q (F0 m pc ls (.ref h :: rest)) :=
  va_get (D := D) (ci := 1) (v := .ref (a 6)) (C := RM) (T := TM) (N := 20) S.1 S.2.1 S.2.2.2.2 (fun w hw => List.mem_cons_of_mem _ (inM w hw)) S.2.2.2.1 hw.1 hw.2.1 0 rfl rfl 6 (by decide) (S.2.2.2.2 _ (List.mem_cons_of_mem _ wfM_19)) (fun _ h9 => h9) rfl hdg kk
theorem gM7 (S : CallFix p m c cc nL s args (w0 :: TT) RM) (hw : sM z D cA h a A s H locs I F) (hdg : decode cc pc = .ok (.getfield 22, 3)) (kk : W p l e R s m args below meth c H locs cells slots Q (F0 m (pc + 3) ls (.ref (a 7) :: rest))) : W p l e R s m args below meth c H locs cells slots Q (F0 m pc ls (.ref h :: rest)) :=
  va_get (D := D) (ci := 1) (v := .ref (a 7)) (C := RM) (T := TM) (N := 20) S.1 S.2.1 S.2.2.2.2 (fun w hw => List.mem_cons_of_mem _ (inM w hw)) S.2.2.2.1 hw.1 hw.2.1 0 rfl rfl 7 (by decide) (S.2.2.2.2 _ (List.mem_cons_of_mem _ wfM_22)) (fun _ h9 => h9) rfl hdg kk
theorem gM8 (S : CallFix p m c cc nL s args (w0 :: TT) RM) (hw : sM z D cA h a A s H locs I F) (hdg : decode cc pc = .ok (.getfield 25, 3)) (kk : W p l e R s m args below meth c H locs cells slots Q (F0 m (pc + 3) ls (.ref (a 8) :: rest))) : W p l e R s m args below meth c H locs cells slots Q (F0 m pc ls (.ref h :: rest)) :=
  va_get (D := D) (ci := 1) (v := .ref (a 8)) (C := RM) (T := TM) (N := 20) S.1 S.2.1 S.2.2.2.2 (fun w hw => List.mem_cons_of_mem _ (inM w hw)) S.2.2.2.1 hw.1 hw.2.1 0 rfl rfl 8 (by decide) (S.2.2.2.2 _ (List.mem_cons_of_mem _ wfM_25)) (fun _ h9 => h9) rfl hdg kk
theorem gM9 (S : CallFix p m c cc nL s args (w0 :: TT) RM) (hw : sM z D cA h a A s H locs I F) (hdg : decode cc pc = .ok (.getfield 28, 3)) (kk : W p l e R s m args below meth c H locs cells slots Q (F0 m (pc + 3) ls (.ref (a 9) :: rest))) : W p l e R s m args below meth c H locs cells slots Q (F0 m pc ls (.ref h :: rest)) :=
  va_get (D := D) (ci := 1) (v := .ref (a 9)) (C := RM) (T := TM) (N := 20) S.1 S.2.1 S.2.2.2.2 (fun w hw => List.mem_cons_of_mem _ (inM w hw)) S.2.2.2.1 hw.1 hw.2.1 0 rfl rfl 9 (by decide) (S.2.2.2.2 _ (List.mem_cons_of_mem _ wfM_28)) (fun _ h9 => h9) rfl hdg kk
theorem gM10 (S : CallFix p m c cc nL s args (w0 :: TT) RM) (hw : sM z D cA h a A s H locs I F) (hdg : decode cc pc = .ok (.getfield 31, 3)) (kk : W p l e R s m args below meth c H locs cells slots Q (F0 m (pc + 3) ls (.ref (a 10) :: rest))) : W p l e R s m args below meth c H locs cells slots Q (F0 m pc ls (.ref h :: rest)) :=
  va_get (D := D) (ci := 1) (v := .ref (a 10)) (C := RM) (T := TM) (N := 20) S.1 S.2.1 S.2.2.2.2 (fun w hw => List.mem_cons_of_mem _ (inM w hw)) S.2.2.2.1 hw.1 hw.2.1 0 rfl rfl 10 (by decide) (S.2.2.2.2 _ (List.mem_cons_of_mem _ wfM_31)) (fun _ h9 => h9) rfl hdg kk
theorem gM11 (S : CallFix p m c cc nL s args (w0 :: TT) RM) (hw : sM z D cA h a A s H locs I F) (hdg : decode cc pc = .ok (.getfield 84, 3)) (kk : W p l e R s m args below meth c H locs cells slots Q (F0 m (pc + 3) ls (.int (I 11) :: rest))) : W p l e R s m args below meth c H locs cells slots Q (F0 m pc ls (.ref h :: rest)) :=
  va_get (D := D) (ci := 1) (v := .int (I 11)) (C := RM) (T := TM) (N := 20) S.1 S.2.1 S.2.2.2.2 (fun w hw => List.mem_cons_of_mem _ (inM w hw)) S.2.2.2.1 hw.1 hw.2.1 0 rfl rfl 11 (by decide) (S.2.2.2.2 _ (List.mem_cons_of_mem _ wfM_84)) (fun _ h9 => h9) rfl hdg kk
theorem pM11 {x : Int32} (S : CallFix p m c cc nL s args (w0 :: TT) RM) (hw : sM z D cA h a A s H locs I F) (hdg : decode cc pc = .ok (.putfield 84, 3)) (kk : ∀ (H1 : Heap) (locs1 : List Loc), sM z D cA h a A s H1 locs1 (upd I 11 x) F → W p l e R s m args below meth c H1 locs1 cells slots Q (F0 m (pc + 3) ls rest)) : W p l e R s m args below meth c H locs cells slots Q (F0 m pc ls (.int x :: .ref h :: rest)) :=
  va_put (D := D) (ci := 1) (v := .int x) (ty := .int) (C := RM) (T := TM) (N := 20) S.1 S.2.1 S.2.2.2.2 (fun w hw => List.mem_cons_of_mem _ (inM w hw)) tyM tyM_ok nmM S.2.2.2.1 hw.1 hw.2.1 hw.2.2.1 hw.2.2.2.1 0 rfl rfl 11 (by decide) (S.2.2.2.2 _ (List.mem_cons_of_mem _ wfM_84)) (fun _ h9 => h9) rfl (by decide +kernel) rfl rfl (Nat.le_of_ble_eq_true rfl) hdg (fun H1 locs1 hP hD hS => kk H1 locs1 ⟨hw.1, hP, hD, hS, hw.2.2.2.2.1, hw.2.2.2.2.2⟩)
theorem gM12 (S : CallFix p m c cc nL s args (w0 :: TT) RM) (hw : sM z D cA h a A s H locs I F) (hdg : decode cc pc = .ok (.getfield 36, 3)) (kk : W p l e R s m args below meth c H locs cells slots Q (F0 m (pc + 3) ls (.ref (z.2.1 7) :: rest))) : W p l e R s m args below meth c H locs cells slots Q (F0 m pc ls (.ref h :: rest)) :=
  va_get (D := D) (ci := 1) (v := .ref (z.2.1 7)) (C := RM) (T := TM) (N := 20) S.1 S.2.1 S.2.2.2.2 (fun w hw => List.mem_cons_of_mem _ (inM w hw)) S.2.2.2.1 hw.1 hw.2.1 0 rfl rfl 12 (by decide) (S.2.2.2.2 _ (List.mem_cons_of_mem _ wfM_36)) (fun _ h9 => h9) rfl hdg kk
theorem gM13 (S : CallFix p m c cc nL s args (w0 :: TT) RM) (hw : sM z D cA h a A s H locs I F) (hdg : decode cc pc = .ok (.getfield 42, 3)) (kk : W p l e R s m args below meth c H locs cells slots Q (F0 m (pc + 3) ls (.ref (z.2.1 8) :: rest))) : W p l e R s m args below meth c H locs cells slots Q (F0 m pc ls (.ref h :: rest)) :=
  va_get (D := D) (ci := 1) (v := .ref (z.2.1 8)) (C := RM) (T := TM) (N := 20) S.1 S.2.1 S.2.2.2.2 (fun w hw => List.mem_cons_of_mem _ (inM w hw)) S.2.2.2.1 hw.1 hw.2.1 0 rfl rfl 13 (by decide) (S.2.2.2.2 _ (List.mem_cons_of_mem _ wfM_42)) (fun _ h9 => h9) rfl hdg kk
theorem gM14 (S : CallFix p m c cc nL s args (w0 :: TT) RM) (hw : sM z D cA h a A s H locs I F) (hdg : decode cc pc = .ok (.getfield 47, 3)) (kk : W p l e R s m args below meth c H locs cells slots Q (F0 m (pc + 3) ls (.ref (z.2.1 9) :: rest))) : W p l e R s m args below meth c H locs cells slots Q (F0 m pc ls (.ref h :: rest)) :=
  va_get (D := D) (ci := 1) (v := .ref (z.2.1 9)) (C := RM) (T := TM) (N := 20) S.1 S.2.1 S.2.2.2.2 (fun w hw => List.mem_cons_of_mem _ (inM w hw)) S.2.2.2.1 hw.1 hw.2.1 0 rfl rfl 14 (by decide) (S.2.2.2.2 _ (List.mem_cons_of_mem _ wfM_47)) (fun _ h9 => h9) rfl hdg kk
theorem gM15 (S : CallFix p m c cc nL s args (w0 :: TT) RM) (hw : sM z D cA h a A s H locs I F) (hdg : decode cc pc = .ok (.getfield 71, 3)) (kk : W p l e R s m args below meth c H locs cells slots Q (F0 m (pc + 3) ls (.int (I 15) :: rest))) : W p l e R s m args below meth c H locs cells slots Q (F0 m pc ls (.ref h :: rest)) :=
  va_get (D := D) (ci := 1) (v := .int (I 15)) (C := RM) (T := TM) (N := 20) S.1 S.2.1 S.2.2.2.2 (fun w hw => List.mem_cons_of_mem _ (inM w hw)) S.2.2.2.1 hw.1 hw.2.1 0 rfl rfl 15 (by decide) (S.2.2.2.2 _ (List.mem_cons_of_mem _ wfM_71)) (fun _ h9 => h9) rfl hdg kk
theorem pM15 {x : Int32} (S : CallFix p m c cc nL s args (w0 :: TT) RM) (hw : sM z D cA h a A s H locs I F) (hdg : decode cc pc = .ok (.putfield 71, 3)) (kk : ∀ (H1 : Heap) (locs1 : List Loc), sM z D cA h a A s H1 locs1 (upd I 15 x) F → W p l e R s m args below meth c H1 locs1 cells slots Q (F0 m (pc + 3) ls rest)) : W p l e R s m args below meth c H locs cells slots Q (F0 m pc ls (.int x :: .ref h :: rest)) :=
  va_put (D := D) (ci := 1) (v := .int x) (ty := .int) (C := RM) (T := TM) (N := 20) S.1 S.2.1 S.2.2.2.2 (fun w hw => List.mem_cons_of_mem _ (inM w hw)) tyM tyM_ok nmM S.2.2.2.1 hw.1 hw.2.1 hw.2.2.1 hw.2.2.2.1 0 rfl rfl 15 (by decide) (S.2.2.2.2 _ (List.mem_cons_of_mem _ wfM_71)) (fun _ h9 => h9) rfl (by decide +kernel) rfl rfl (Nat.le_of_ble_eq_true rfl) hdg (fun H1 locs1 hP hD hS => kk H1 locs1 ⟨hw.1, hP, hD, hS, hw.2.2.2.2.1, hw.2.2.2.2.2⟩)
theorem gM16 (S : CallFix p m c cc nL s args (w0 :: TT) RM) (hw : sM z D cA h a A s H locs I F) (hdg : decode cc pc = .ok (.getfield 78, 3)) (kk : W p l e R s m args below meth c H locs cells slots Q (F0 m (pc + 3) ls (.int (I 16) :: rest))) : W p l e R s m args below meth c H locs cells slots Q (F0 m pc ls (.ref h :: rest)) :=
  va_get (D := D) (ci := 1) (v := .int (I 16)) (C := RM) (T := TM) (N := 20) S.1 S.2.1 S.2.2.2.2 (fun w hw => List.mem_cons_of_mem _ (inM w hw)) S.2.2.2.1 hw.1 hw.2.1 0 rfl rfl 16 (by decide) (S.2.2.2.2 _ (List.mem_cons_of_mem _ wfM_78)) (fun _ h9 => h9) rfl hdg kk
theorem pM16 {x : Int32} (S : CallFix p m c cc nL s args (w0 :: TT) RM) (hw : sM z D cA h a A s H locs I F) (hdg : decode cc pc = .ok (.putfield 78, 3)) (kk : ∀ (H1 : Heap) (locs1 : List Loc), sM z D cA h a A s H1 locs1 (upd I 16 x) F → W p l e R s m args below meth c H1 locs1 cells slots Q (F0 m (pc + 3) ls rest)) : W p l e R s m args below meth c H locs cells slots Q (F0 m pc ls (.int x :: .ref h :: rest)) :=
  va_put (D := D) (ci := 1) (v := .int x) (ty := .int) (C := RM) (T := TM) (N := 20) S.1 S.2.1 S.2.2.2.2 (fun w hw => List.mem_cons_of_mem _ (inM w hw)) tyM tyM_ok nmM S.2.2.2.1 hw.1 hw.2.1 hw.2.2.1 hw.2.2.2.1 0 rfl rfl 16 (by decide) (S.2.2.2.2 _ (List.mem_cons_of_mem _ wfM_78)) (fun _ h9 => h9) rfl (by decide +kernel) rfl rfl (Nat.le_of_ble_eq_true rfl) hdg (fun H1 locs1 hP hD hS => kk H1 locs1 ⟨hw.1, hP, hD, hS, hw.2.2.2.2.1, hw.2.2.2.2.2⟩)
theorem gM17 (S : CallFix p m c cc nL s args (w0 :: TT) RM) (hw : sM z D cA h a A s H locs I F) (hdg : decode cc pc = .ok (.getfield 123, 3)) (kk : W p l e R s m args below meth c H locs cells slots Q (F0 m (pc + 3) ls (.int (I 17) :: rest))) : W p l e R s m args below meth c H locs cells slots Q (F0 m pc ls (.ref h :: rest)) :=
  va_get (D := D) (ci := 1) (v := .int (I 17)) (C := RM) (T := TM) (N := 20) S.1 S.2.1 S.2.2.2.2 (fun w hw => List.mem_cons_of_mem _ (inM w hw)) S.2.2.2.1 hw.1 hw.2.1 0 rfl rfl 17 (by decide) (S.2.2.2.2 _ (List.mem_cons_of_mem _ wfM_123)) (fun _ h9 => h9) rfl hdg kk
theorem pM17 {x : Int32} (S : CallFix p m c cc nL s args (w0 :: TT) RM) (hw : sM z D cA h a A s H locs I F) (hdg : decode cc pc = .ok (.putfield 123, 3)) (kk : ∀ (H1 : Heap) (locs1 : List Loc), sM z D cA h a A s H1 locs1 (upd I 17 x) F → W p l e R s m args below meth c H1 locs1 cells slots Q (F0 m (pc + 3) ls rest)) : W p l e R s m args below meth c H locs cells slots Q (F0 m pc ls (.int x :: .ref h :: rest)) :=
  va_put (D := D) (ci := 1) (v := .int x) (ty := .int) (C := RM) (T := TM) (N := 20) S.1 S.2.1 S.2.2.2.2 (fun w hw => List.mem_cons_of_mem _ (inM w hw)) tyM tyM_ok nmM S.2.2.2.1 hw.1 hw.2.1 hw.2.2.1 hw.2.2.2.1 0 rfl rfl 17 (by decide) (S.2.2.2.2 _ (List.mem_cons_of_mem _ wfM_123)) (fun _ h9 => h9) rfl (by decide +kernel) rfl rfl (Nat.le_of_ble_eq_true rfl) hdg (fun H1 locs1 hP hD hS => kk H1 locs1 ⟨hw.1, hP, hD, hS, hw.2.2.2.2.1, hw.2.2.2.2.2⟩)
theorem gM18 (S : CallFix p m c cc nL s args (w0 :: TT) RM) (hw : sM z D cA h a A s H locs I F) (hdg : decode cc pc = .ok (.getfield 131, 3)) (kk : W p l e R s m args below meth c H locs cells slots Q (F0 m (pc + 3) ls (.int (I 18) :: rest))) : W p l e R s m args below meth c H locs cells slots Q (F0 m pc ls (.ref h :: rest)) :=
  va_get (D := D) (ci := 1) (v := .int (I 18)) (C := RM) (T := TM) (N := 20) S.1 S.2.1 S.2.2.2.2 (fun w hw => List.mem_cons_of_mem _ (inM w hw)) S.2.2.2.1 hw.1 hw.2.1 0 rfl rfl 18 (by decide) (S.2.2.2.2 _ (List.mem_cons_of_mem _ wfM_131)) (fun _ h9 => h9) rfl hdg kk
theorem pM18 {x : Int32} (S : CallFix p m c cc nL s args (w0 :: TT) RM) (hw : sM z D cA h a A s H locs I F) (hdg : decode cc pc = .ok (.putfield 131, 3)) (kk : ∀ (H1 : Heap) (locs1 : List Loc), sM z D cA h a A s H1 locs1 (upd I 18 x) F → W p l e R s m args below meth c H1 locs1 cells slots Q (F0 m (pc + 3) ls rest)) : W p l e R s m args below meth c H locs cells slots Q (F0 m pc ls (.int x :: .ref h :: rest)) :=
  va_put (D := D) (ci := 1) (v := .int x) (ty := .int) (C := RM) (T := TM) (N := 20) S.1 S.2.1 S.2.2.2.2 (fun w hw => List.mem_cons_of_mem _ (inM w hw)) tyM tyM_ok nmM S.2.2.2.1 hw.1 hw.2.1 hw.2.2.1 hw.2.2.2.1 0 rfl rfl 18 (by decide) (S.2.2.2.2 _ (List.mem_cons_of_mem _ wfM_131)) (fun _ h9 => h9) rfl (by decide +kernel) rfl rfl (Nat.le_of_ble_eq_true rfl) hdg (fun H1 locs1 hP hD hS => kk H1 locs1 ⟨hw.1, hP, hD, hS, hw.2.2.2.2.1, hw.2.2.2.2.2⟩)
theorem gM19 (S : CallFix p m c cc nL s args (w0 :: TT) RM) (hw : sM z D cA h a A s H locs I F) (hdg : decode cc pc = .ok (.getfield 120, 3)) (kk : W p l e R s m args below meth c H locs cells slots Q (F0 m (pc + 3) ls (.int (I 19) :: rest))) : W p l e R s m args below meth c H locs cells slots Q (F0 m pc ls (.ref h :: rest)) :=
  va_get (D := D) (ci := 1) (v := .int (I 19)) (C := RM) (T := TM) (N := 20) S.1 S.2.1 S.2.2.2.2 (fun w hw => List.mem_cons_of_mem _ (inM w hw)) S.2.2.2.1 hw.1 hw.2.1 0 rfl rfl 19 (by decide) (S.2.2.2.2 _ (List.mem_cons_of_mem _ wfM_120)) (fun _ h9 => h9) rfl hdg kk
theorem pM19 {x : Int32} (S : CallFix p m c cc nL s args (w0 :: TT) RM) (hw : sM z D cA h a A s H locs I F) (hdg : decode cc pc = .ok (.putfield 120, 3)) (kk : ∀ (H1 : Heap) (locs1 : List Loc), sM z D cA h a A s H1 locs1 (upd I 19 x) F → W p l e R s m args below meth c H1 locs1 cells slots Q (F0 m (pc + 3) ls rest)) : W p l e R s m args below meth c H locs cells slots Q (F0 m pc ls (.int x :: .ref h :: rest)) :=
  va_put (D := D) (ci := 1) (v := .int x) (ty := .int) (C := RM) (T := TM) (N := 20) S.1 S.2.1 S.2.2.2.2 (fun w hw => List.mem_cons_of_mem _ (inM w hw)) tyM tyM_ok nmM S.2.2.2.1 hw.1 hw.2.1 hw.2.2.1 hw.2.2.2.1 0 rfl rfl 19 (by decide) (S.2.2.2.2 _ (List.mem_cons_of_mem _ wfM_120)) (fun _ h9 => h9) rfl (by decide +kernel) rfl rfl (Nat.le_of_ble_eq_true rfl) hdg (fun H1 locs1 hP hD hS => kk H1 locs1 ⟨hw.1, hP, hD, hS, hw.2.2.2.2.1, hw.2.2.2.2.2⟩)
theorem ldM1 {i : Int32} (S : CallFix p m c cc nL s args (w0 :: TT) own) (hw : sM z D cA h a A s H locs I F) (hin : vp_in i 1000) (hdg : decode cc pc = .ok (.iaload, 1)) (kk : W p l e R s m args below meth c H locs cells slots Q (F0 m (pc + 1) ls (.int (F 1 i.toNatClampNeg) :: rest))) : W p l e R s m args below meth c H locs cells slots Q (F0 m pc ls (.int i :: .ref (a 1) :: rest)) :=
  va_iald S.1 S.2.1 hw.1 hw.2.1 1 0 rfl rfl hin hdg kk
theorem stM1 {i x : Int32} (S : CallFix p m c cc nL s args (w0 :: TT) own) (hw : sM z D cA h a A s H locs I F) (hin : vp_in i 1000) (hdg : decode cc pc = .ok (.iastore, 1)) (kk : ∀ (H1 : Heap) (locs1 : List Loc), sM z D cA h a A s H1 locs1 I (va_up F 1 (upd (F 1) i.toNatClampNeg x)) → W p l e R s m args below meth c H1 locs1 cells slots Q (F0 m (pc + 1) ls rest)) : W p l e R s m args below meth c H locs cells slots Q (F0 m pc ls (.int x :: .int i :: .ref (a 1) :: rest)) :=
  va_iast S.1 S.2.1 hw.1 hw.2.1 hw.2.2.1 hw.2.2.2.1 1 0 rfl rfl hin hdg (fun H1 locs1 hP hD hS => kk H1 locs1 ⟨hw.1, hP, hD, hS, hw.2.2.2.2.1, hw.2.2.2.2.2⟩)
theorem lnM1 (S : CallFix p m c cc nL s args (w0 :: TT) own) (hw : sM z D cA h a A s H locs I F) (hdg : decode cc pc = .ok (.arraylength, 1)) (kk : W p l e R s m args below meth c H locs cells slots Q (F0 m (pc + 1) ls (.int (nI 1000) :: rest))) : W p l e R s m args below meth c H locs cells slots Q (F0 m pc ls (.ref (a 1) :: rest)) :=
  va_alen S.1 S.2.1 hw.1 hw.2.1 1 0 rfl rfl rfl hdg kk
theorem arM1 (hw : sM z D cA h a A s H locs I F) : arS (some (a 1, 1000, F 1)) H.size s H := by
  intro q N f e
  cases e
  have hc : H[a 1]? = some (vp_cell cA (1000, .inl (F 1))) := hw.2.1 1 _ rfl
  refine ⟨_, hc, (hw.1.2 0 _ rfl).1 1000 (fun j => .int (F 1 j)), (fun q => by cases q), ?_, ?_, fun j hj => ?_, Nat.not_le.mpr (Array.getElem?_eq_some_iff.mp hc).1⟩
  · rw [vp_cell_i, arrV_size]; exact Nat.le_refl _
  · rw [vp_cell_i, arrV_size] <;> rfl
  · rw [vp_cell_i, arrV_read _ _ hj]
theorem ldM4 {i : Int32} (S : CallFix p m c cc nL s args (w0 :: TT) own) (hw : sM z D cA h a A s H locs I F) (hin : vp_in i 2100) (hdg : decode cc pc = .ok (.iaload, 1)) (kk : W p l e R s m args below meth c H locs cells slots Q (F0 m (pc + 1) ls (.int (F 4 i.toNatClampNeg) :: rest))) : W p l e R s m args below meth c H locs cells slots Q (F0 m pc ls (.int i :: .ref (a 4) :: rest)) :=
  va_iald S.1 S.2.1 hw.1 hw.2.1 2 0 rfl rfl hin hdg kk
theorem stM4 {i x : Int32} (S : CallFix p m c cc nL s args (w0 :: TT) own) (hw : sM z D cA h a A s H locs I F) (hin : vp_in i 2100) (hdg : decode cc pc = .ok (.iastore, 1)) (kk : ∀ (H1 : Heap) (locs1 : List Loc), sM z D cA h a A s H1 locs1 I (va_up F 4 (upd (F 4) i.toNatClampNeg x)) → W p l e R s m args below meth c H1 locs1 cells slots Q (F0 m (pc + 1) ls rest)) : W p l e R s m args below meth c H locs cells slots Q (F0 m pc ls (.int x :: .int i :: .ref (a 4) :: rest)) :=
  va_iast S.1 S.2.1 hw.1 hw.2.1 hw.2.2.1 hw.2.2.2.1 2 0 rfl rfl hin hdg (fun H1 locs1 hP hD hS => kk H1 locs1 ⟨hw.1, hP, hD, hS, hw.2.2.2.2.1, hw.2.2.2.2.2⟩)
theorem lnM4 (S : CallFix p m c cc nL s args (w0 :: TT) own) (hw : sM z D cA h a A s H locs I F) (hdg : decode cc pc = .ok (.arraylength, 1)) (kk : W p l e R s m args below meth c H locs cells slots Q (F0 m (pc + 1) ls (.int (nI 2100) :: rest))) : W p l e R s m args below meth c H locs cells slots Q (F0 m pc ls (.ref (a 4) :: rest)) :=
  va_alen S.1 S.2.1 hw.1 hw.2.1 2 0 rfl rfl rfl hdg kk
theorem arM4 (hw : sM z D cA h a A s H locs I F) : arS (some (a 4, 2100, F 4)) H.size s H := by
  intro q N f e
  cases e
  have hc : H[a 4]? = some (vp_cell cA (2100, .inl (F 4))) := hw.2.1 2 _ rfl
  refine ⟨_, hc, (hw.1.2 0 _ rfl).1 2100 (fun j => .int (F 4 j)), (fun q => by cases q), ?_, ?_, fun j hj => ?_, Nat.not_le.mpr (Array.getElem?_eq_some_iff.mp hc).1⟩
  · rw [vp_cell_i, arrV_size]; exact Nat.le_refl _
  · rw [vp_cell_i, arrV_size] <;> rfl
  · rw [vp_cell_i, arrV_read _ _ hj]
theorem ldM5 {i : Int32} (S : CallFix p m c cc nL s args (w0 :: TT) own) (hw : sM z D cA h a A s H locs I F) (hin : vp_in i 2100) (hdg : decode cc pc = .ok (.iaload, 1)) (kk : W p l e R s m args below meth c H locs cells slots Q (F0 m (pc + 1) ls (.int (F 5 i.toNatClampNeg) :: rest))) : W p l e R s m args below meth c H locs cells slots Q (F0 m pc ls (.int i :: .ref (a 5) :: rest)) :=
  va_iald S.1 S.2.1 hw.1 hw.2.1 3 0 rfl rfl hin hdg kk
theorem stM5 {i x : Int32} (S : CallFix p m c cc nL s args (w0 :: TT) own) (hw : sM z D cA h a A s H locs I F) (hin : vp_in i 2100) (hdg : decode cc pc = .ok (.iastore, 1)) (kk : ∀ (H1 : Heap) (locs1 : List Loc), sM z D cA h a A s H1 locs1 I (va_up F 5 (upd (F 5) i.toNatClampNeg x)) → W p l e R s m args below meth c H1 locs1 cells slots Q (F0 m (pc + 1) ls rest)) : W p l e R s m args below meth c H locs cells slots Q (F0 m pc ls (.int x :: .int i :: .ref (a 5) :: rest)) :=
  va_iast S.1 S.2.1 hw.1 hw.2.1 hw.2.2.1 hw.2.2.2.1 3 0 rfl rfl hin hdg (fun H1 locs1 hP hD hS => kk H1 locs1 ⟨hw.1, hP, hD, hS, hw.2.2.2.2.1, hw.2.2.2.2.2⟩)
theorem lnM5 (S : CallFix p m c cc nL s args (w0 :: TT) own) (hw : sM z D cA h a A s H locs I F) (hdg : decode cc pc = .ok (.arraylength, 1)) (kk : W p l e R s m args below meth c H locs cells slots Q (F0 m (pc + 1) ls (.int (nI 2100) :: rest))) : W p l e R s m args below meth c H locs cells slots Q (F0 m pc ls (.ref (a 5) :: rest)) :=
  va_alen S.1 S.2.1 hw.1 hw.2.1 3 0 rfl rfl rfl hdg kk
theorem arM5 (hw : sM z D cA h a A s H locs I F) : arS (some (a 5, 2100, F 5)) H.size s H := by
  intro q N f e
  cases e
  have hc : H[a 5]? = some (vp_cell cA (2100, .inl (F 5))) := hw.2.1 3 _ rfl
  refine ⟨_, hc, (hw.1.2 0 _ rfl).1 2100 (fun j => .int (F 5 j)), (fun q => by cases q), ?_, ?_, fun j hj => ?_, Nat.not_le.mpr (Array.getElem?_eq_some_iff.mp hc).1⟩
  · rw [vp_cell_i, arrV_size]; exact Nat.le_refl _
  · rw [vp_cell_i, arrV_size] <;> rfl
  · rw [vp_cell_i, arrV_read _ _ hj]
theorem ldM6 {i : Int32} (S : CallFix p m c cc nL s args (w0 :: TT) own) (hw : sM z D cA h a A s H locs I F) (hin : vp_in i 2100) (hdg : decode cc pc = .ok (.iaload, 1)) (kk : W p l e R s m args below meth c H locs cells slots Q (F0 m (pc + 1) ls (.int (F 6 i.toNatClampNeg) :: rest))) : W p l e R s m args below meth c H locs cells slots Q (F0 m pc ls (.int i :: .ref (a 6) :: rest)) :=
  va_iald S.1 S.2.1 hw.1 hw.2.1 4 0 rfl rfl hin hdg kk
theorem stM6 {i x : Int32} (S : CallFix p m c cc nL s args (w0 :: TT) own) (hw : sM z D cA h a A s H locs I F) (hin : vp_in i 2100) (hdg : decode cc pc = .ok (.iastore, 1)) (kk : ∀ (H1 : Heap) (locs1 : List Loc), sM z D cA h a A s H1 locs1 I (va_up F 6 (upd (F 6) i.toNatClampNeg x)) → W p l e R s m args below meth c H1 locs1 cells slots Q (F0 m (pc + 1) ls rest)) : W p l e R s m args below meth c H locs cells slots Q (F0 m pc ls (.int x :: .int i :: .ref (a 6) :: rest)) :=
  va_iast S.1 S.2.1 hw.1 hw.2.1 hw.2.2.1 hw.2.2.2.1 4 0 rfl rfl hin hdg (fun H1 locs1 hP hD hS => kk H1 locs1 ⟨hw.1, hP, hD, hS, hw.2.2.2.2.1, hw.2.2.2.2.2⟩)
theorem lnM6 (S : CallFix p m c cc nL s args (w0 :: TT) own) (hw : sM z D cA h a A s H locs I F) (hdg : decode cc pc = .ok (.arraylength, 1)) (kk : W p l e R s m args below meth c H locs cells slots Q (F0 m (pc + 1) ls (.int (nI 2100) :: rest))) : W p l e R s m args below meth c H locs cells slots Q (F0 m pc ls (.ref (a 6) :: rest)) :=
  va_alen S.1 S.2.1 hw.1 hw.2.1 4 0 rfl rfl rfl hdg kk
theorem arM6 (hw : sM z D cA h a A s H locs I F) : arS (some (a 6, 2100, F 6)) H.size s H := by
  intro q N f e
  cases e
  have hc : H[a 6]? = some (vp_cell cA (2100, .inl (F 6))) := hw.2.1 4 _ rfl
  refine ⟨_, hc, (hw.1.2 0 _ rfl).1 2100 (fun j => .int (F 6 j)), (fun q => by cases q), ?_, ?_, fun j hj => ?_, Nat.not_le.mpr (Array.getElem?_eq_some_iff.mp hc).1⟩
  · rw [vp_cell_i, arrV_size]; exact Nat.le_refl _
  · rw [vp_cell_i, arrV_size] <;> rfl
  · rw [vp_cell_i, arrV_read _ _ hj]
theorem ldM7 {i : Int32} (S : CallFix p m c cc nL s args (w0 :: TT) own) (hw : sM z D cA h a A s H locs I F) (hin : vp_in i 2100) (hdg : decode cc pc = .ok (.iaload, 1)) (kk : W p l e R s m args below meth c H locs cells slots Q (F0 m (pc + 1) ls (.int (F 7 i.toNatClampNeg) :: rest))) : W p l e R s m args below meth c H locs cells slots Q (F0 m pc ls (.int i :: .ref (a 7) :: rest)) :=
  va_iald S.1 S.2.1 hw.1 hw.2.1 5 0 rfl rfl hin hdg kk
theorem stM7 {i x : Int32} (S : CallFix p m c cc nL s args (w0 :: TT) own) (hw : sM z D cA h a A s H locs I F) (hin : vp_in i 2100) (hdg : decode cc pc = .ok (.iastore, 1)) (kk : ∀ (H1 : Heap) (locs1 : List Loc), sM z D cA h a A s H1 locs1 I (va_up F 7 (upd (F 7) i.toNatClampNeg x)) → W p l e R s m args below meth c H1 locs1 cells slots Q (F0 m (pc + 1) ls rest)) : W p l e R s m args below meth c H locs cells slots Q (F0 m pc ls (.int x :: .int i :: .ref (a 7) :: rest)) :=
  va_iast S.1 S.2.1 hw.1 hw.2.1 hw.2.2.1 hw.2.2.2.1 5 0 rfl rfl hin hdg (fun H1 locs1 hP hD hS => kk H1 locs1 ⟨hw.1, hP, hD, hS, hw.2.2.2.2.1, hw.2.2.2.2.2⟩)
theorem lnM7 (S : CallFix p m c cc nL s args (w0 :: TT) own) (hw : sM z D cA h a A s H locs I F) (hdg : decode cc pc = .ok (.arraylength, 1)) (kk : W p l e R s m args below meth c H locs cells slots Q (F0 m (pc + 1) ls (.int (nI 2100) :: rest))) : W p l e R s m args below meth c H locs cells slots Q (F0 m pc ls (.ref (a 7) :: rest)) :=
  va_alen S.1 S.2.1 hw.1 hw.2.1 5 0 rfl rfl rfl hdg kk
theorem arM7 (hw : sM z D cA h a A s H locs I F) : arS (some (a 7, 2100, F 7)) H.size s H := by
  intro q N f e
  cases e
  have hc : H[a 7]? = some (vp_cell cA (2100, .inl (F 7))) := hw.2.1 5 _ rfl
  refine ⟨_, hc, (hw.1.2 0 _ rfl).1 2100 (fun j => .int (F 7 j)), (fun q => by cases q), ?_, ?_, fun j hj => ?_, Nat.not_le.mpr (Array.getElem?_eq_some_iff.mp hc).1⟩
  · rw [vp_cell_i, arrV_size]; exact Nat.le_refl _
  · rw [vp_cell_i, arrV_size] <;> rfl
  · rw [vp_cell_i, arrV_read _ _ hj]
theorem ldM8 {i : Int32} (S : CallFix p m c cc nL s args (w0 :: TT) own) (hw : sM z D cA h a A s H locs I F) (hin : vp_in i 2100) (hdg : decode cc pc = .ok (.iaload, 1)) (kk : W p l e R s m args below meth c H locs cells slots Q (F0 m (pc + 1) ls (.int (F 8 i.toNatClampNeg) :: rest))) : W p l e R s m args below meth c H locs cells slots Q (F0 m pc ls (.int i :: .ref (a 8) :: rest)) :=
  va_iald S.1 S.2.1 hw.1 hw.2.1 6 0 rfl rfl hin hdg kk
theorem stM8 {i x : Int32} (S : CallFix p m c cc nL s args (w0 :: TT) own) (hw : sM z D cA h a A s H locs I F) (hin : vp_in i 2100) (hdg : decode cc pc = .ok (.iastore, 1)) (kk : ∀ (H1 : Heap) (locs1 : List Loc), sM z D cA h a A s H1 locs1 I (va_up F 8 (upd (F 8) i.toNatClampNeg x)) → W p l e R s m args below meth c H1 locs1 cells slots Q (F0 m (pc + 1) ls rest)) : W p l e R s m args below meth c H locs cells slots Q (F0 m pc ls (.int x :: .int i :: .ref (a 8) :: rest)) :=
  va_iast S.1 S.2.1 hw.1 hw.2.1 hw.2.2.1 hw.2.2.2.1 6 0 rfl rfl hin hdg (fun H1 locs1 hP hD hS => kk H1 locs1 ⟨hw.1, hP, hD, hS, hw.2.2.2.2.1, hw.2.2.2.2.2⟩)
theorem lnM8 (S : CallFix p m c cc nL s args (w0 :: TT) own) (hw : sM z D cA h a A s H locs I F) (hdg : decode cc pc = .ok (.arraylength, 1)) (kk : W p l e R s m args below meth c H locs cells slots Q (F0 m (pc + 1) ls (.int (nI 2100) :: rest))) : W p l e R s m args below meth c H locs cells slots Q (F0 m pc ls (.ref (a 8) :: rest)) :=
  va_alen S.1 S.2.1 hw.1 hw.2.1 6 0 rfl rfl rfl hdg kk
theorem arM8 (hw : sM z D cA h a A s H locs I F) : arS (some (a 8, 2100, F 8)) H.size s H := by
  intro q N f e
  cases e
  have hc : H[a 8]? = some (vp_cell cA (2100, .inl (F 8))) := hw.2.1 6 _ rfl
  refine ⟨_, hc, (hw.1.2 0 _ rfl).1 2100 (fun j => .int (F 8 j)), (fun q => by cases q), ?_, ?_, fun j hj => ?_, Nat.not_le.mpr (Array.getElem?_eq_some_iff.mp hc).1⟩
  · rw [vp_cell_i, arrV_size]; exact Nat.le_refl _
  · rw [vp_cell_i, arrV_size] <;> rfl
  · rw [vp_cell_i, arrV_read _ _ hj]
theorem ldM9 {i : Int32} (S : CallFix p m c cc nL s args (w0 :: TT) own) (hw : sM z D cA h a A s H locs I F) (hin : vp_in i 2100) (hdg : decode cc pc = .ok (.iaload, 1)) (kk : W p l e R s m args below meth c H locs cells slots Q (F0 m (pc + 1) ls (.int (F 9 i.toNatClampNeg) :: rest))) : W p l e R s m args below meth c H locs cells slots Q (F0 m pc ls (.int i :: .ref (a 9) :: rest)) :=
  va_iald S.1 S.2.1 hw.1 hw.2.1 7 0 rfl rfl hin hdg kk
theorem stM9 {i x : Int32} (S : CallFix p m c cc nL s args (w0 :: TT) own) (hw : sM z D cA h a A s H locs I F) (hin : vp_in i 2100) (hdg : decode cc pc = .ok (.iastore, 1)) (kk : ∀ (H1 : Heap) (locs1 : List Loc), sM z D cA h a A s H1 locs1 I (va_up F 9 (upd (F 9) i.toNatClampNeg x)) → W p l e R s m args below meth c H1 locs1 cells slots Q (F0 m (pc + 1) ls rest)) : W p l e R s m args below meth c H locs cells slots Q (F0 m pc ls (.int x :: .int i :: .ref (a 9) :: rest)) :=
  va_iast S.1 S.2.1 hw.1 hw.2.1 hw.2.2.1 hw.2.2.2.1 7 0 rfl rfl hin hdg (fun H1 locs1 hP hD hS => kk H1 locs1 ⟨hw.1, hP, hD, hS, hw.2.2.2.2.1, hw.2.2.2.2.2⟩)
theorem lnM9 (S : CallFix p m c cc nL s args (w0 :: TT) own) (hw : sM z D cA h a A s H locs I F) (hdg : decode cc pc = .ok (.arraylength, 1)) (kk : W p l e R s m args below meth c H locs cells slots Q (F0 m (pc + 1) ls (.int (nI 2100) :: rest))) : W p l e R s m args below meth c H locs cells slots Q (F0 m pc ls (.ref (a 9) :: rest)) :=
  va_alen S.1 S.2.1 hw.1 hw.2.1 7 0 rfl rfl rfl hdg kk
theorem arM9 (hw : sM z D cA h a A s H locs I F) : arS (some (a 9, 2100, F 9)) H.size s H := by
  intro q N f e
  cases e
  have hc : H[a 9]? = some (vp_cell cA (2100, .inl (F 9))) := hw.2.1 7 _ rfl
  refine ⟨_, hc, (hw.1.2 0 _ rfl).1 2100 (fun j => .int (F 9 j)), (fun q => by cases q), ?_, ?_, fun j hj => ?_, Nat.not_le.mpr (Array.getElem?_eq_some_iff.mp hc).1⟩
  · rw [vp_cell_i, arrV_size]; exact Nat.le_refl _
  · rw [vp_cell_i, arrV_size] <;> rfl
  · rw [vp_cell_i, arrV_read _ _ hj]
theorem ldM10 {i : Int32} (S : CallFix p m c cc nL s args (w0 :: TT) own) (hw : sM z D cA h a A s H locs I F) (hin : vp_in i 2100) (hdg : decode cc pc = .ok (.iaload, 1)) (kk : W p l e R s m args below meth c H locs cells slots Q (F0 m (pc + 1) ls (.int (F 10 i.toNatClampNeg) :: rest))) : W p l e R s m args below meth c H locs cells slots Q (F0 m pc ls (.int i :: .ref (a 10) :: rest)) :=
  va_iald S.1 S.2.1 hw.1 hw.2.1 8 0 rfl rfl hin hdg kk
theorem stM10 {i x : Int32} (S : CallFix p m c cc nL s args (w0 :: TT) own) (hw : sM z D cA h a A s H locs I F) (hin : vp_in i 2100) (hdg : decode cc pc = .ok (.iastore, 1)) (kk : ∀ (H1 : Heap) (locs1 : List Loc), sM z D cA h a A s H1 locs1 I (va_up F 10 (upd (F 10) i.toNatClampNeg x)) → W p l e R s m args below meth c H1 locs1 cells slots Q (F0 m (pc + 1) ls rest)) : W p l e R s m args below meth c H locs cells slots Q (F0 m pc ls (.int x :: .int i :: .ref (a 10) :: rest)) :=
  va_iast S.1 S.2.1 hw.1 hw.2.1 hw.2.2.1 hw.2.2.2.1 8 0 rfl rfl hin hdg (fun H1 locs1 hP hD hS => kk H1 locs1 ⟨hw.1, hP, hD, hS, hw.2.2.2.2.1, hw.2.2.2.2.2⟩)
theorem lnM10 (S : CallFix p m c cc nL s args (w0 :: TT) own) (hw : sM z D cA h a A s H locs I F) (hdg : decode cc pc = .ok (.arraylength, 1)) (kk : W p l e R s m args below meth c H locs cells slots Q (F0 m (pc + 1) ls (.int (nI 2100) :: rest))) : W p l e R s m args below meth c H locs cells slots Q (F0 m pc ls (.ref (a 10) :: rest)) :=
  va_alen S.1 S.2.1 hw.1 hw.2.1 8 0 rfl rfl rfl hdg kk
theorem arM10 (hw : sM z D cA h a A s H locs I F) : arS (some (a 10, 2100, F 10)) H.size s H := by
  intro q N f e
  cases e
  have hc : H[a 10]? = some (vp_cell cA (2100, .inl (F 10))) := hw.2.1 8 _ rfl
  refine ⟨_, hc, (hw.1.2 0 _ rfl).1 2100 (fun j => .int (F 10 j)), (fun q => by cases q), ?_, ?_, fun j hj => ?_, Nat.not_le.mpr (Array.getElem?_eq_some_iff.mp hc).1⟩
  · rw [vp_cell_i, arrV_size]; exact Nat.le_refl _
  · rw [vp_cell_i, arrV_size] <;> rfl
  · rw [vp_cell_i, arrV_read _ _ hj]
end KM
theorem kX_38 : lkV "TokenRow" 38 yX_appendBytes cX_appendBytes 3 none 1 := ⟨wlX_38, wiX_appendBytes, weX_appendBytes, wnX, wcX_appendBytes, by decide +kernel⟩
theorem kX_54 : lkV "TokenRow" 54 yX_skipGap cX_skipGap 3 none 0 := ⟨wlX_54, wiX_skipGap, weX_skipGap, wnX, wcX_skipGap, by decide +kernel⟩
theorem kX_57 : lkV "TokenRow" 57 yX_readToken cX_readToken 5 (some .boolean) 0 := ⟨wlX_57, wiX_readToken, weX_readToken, wnX, wcX_readToken, by decide +kernel⟩
theorem kX_61 : lkV "TokenRow" 61 yX_isToken cX_isToken 2 (some .boolean) 1 := ⟨wlX_61, wiX_isToken, weX_isToken, wnX, wcX_isToken, by decide +kernel⟩
theorem kX_65 : lkS "TokenRow" 65 yX_isSignOrKeyword cX_isSignOrKeyword 1 (some .boolean) 1 := ⟨wlX_65, wsX_isSignOrKeyword, wnX, wcX_isSignOrKeyword, by decide +kernel⟩
theorem kX_73 : lkS "TokenRow" 73 yX_numberInList cX_numberInList 8 (some .int) 4 := ⟨wlX_73, wsX_numberInList, wnX, wcX_numberInList, by decide +kernel⟩
theorem kX_77 : lkS "TokenRow" 77 yX_elementAt cX_elementAt 2 (some .int) 2 := ⟨wlX_77, wsX_elementAt, wnX, wcX_elementAt, by decide +kernel⟩
theorem kX_81 : lkV "TokenRow" 81 yX_tapeByte cX_tapeByte 2 (some .int) 1 := ⟨wlX_81, wiX_tapeByte, weX_tapeByte, wnX, wcX_tapeByte, by decide +kernel⟩
theorem kX_88 : lkV "TokenRow" 88 yX_takeToken cX_takeToken 2 (some .int) 0 := ⟨wlX_88, wiX_takeToken, weX_takeToken, wnX, wcX_takeToken, by decide +kernel⟩
theorem kX_92 : lkV "TokenRow" 92 yX_isSemicolonDue cX_isSemicolonDue 5 (some .boolean) 3 := ⟨wlX_92, wiX_isSemicolonDue, weX_isSemicolonDue, wnX, wcX_isSemicolonDue, by decide +kernel⟩
theorem kX_96 : lkV "TokenRow" 96 yX_addSemicolon cX_addSemicolon 3 none 1 := ⟨wlX_96, wiX_addSemicolon, weX_addSemicolon, wnX, wcX_addSemicolon, by decide +kernel⟩
theorem kX_99 : lkV "TokenRow" 99 yX_addToken cX_addToken 6 none 5 := ⟨wlX_99, wiX_addToken, weX_addToken, wnX, wcX_addToken, by decide +kernel⟩
theorem kX_103 : lkS "TokenRow" 103 yX_isLetter cX_isLetter 1 (some .boolean) 1 := ⟨wlX_103, wsX_isLetter, wnX, wcX_isLetter, by decide +kernel⟩
theorem kX_106 : lkV "TokenRow" 106 yX_takeWord cX_takeWord 4 (some .int) 0 := ⟨wlX_106, wiX_takeWord, weX_takeWord, wnX, wcX_takeWord, by decide +kernel⟩
theorem kX_109 : lkS "TokenRow" 109 yX_isDecimalDigit cX_isDecimalDigit 1 (some .boolean) 1 := ⟨wlX_109, wsX_isDecimalDigit, wnX, wcX_isDecimalDigit, by decide +kernel⟩
theorem kX_112 : lkV "TokenRow" 112 yX_takeDigits cX_takeDigits 6 (some .int) 1 := ⟨wlX_112, wiX_takeDigits, weX_takeDigits, wnX, wcX_takeDigits, by decide +kernel⟩
theorem kX_115 : lkV "TokenRow" 115 yX_takeNumberInBase cX_takeNumberInBase 1 (some .int) 0 := ⟨wlX_115, wiX_takeNumberInBase, weX_takeNumberInBase, wnX, wcX_takeNumberInBase, by decide +kernel⟩
theorem kX_118 : lkV "TokenRow" 118 yX_takeCharacter cX_takeCharacter 2 (some .int) 0 := ⟨wlX_118, wiX_takeCharacter, weX_takeCharacter, wnX, wcX_takeCharacter, by decide +kernel⟩
theorem kX_121 : lkV "TokenRow" 121 yX_takeString cX_takeString 3 (some .int) 0 := ⟨wlX_121, wiX_takeString, weX_takeString, wnX, wcX_takeString, by decide +kernel⟩
theorem kX_124 : lkV "TokenRow" 124 yX_takeSign cX_takeSign 2 (some .int) 0 := ⟨wlX_124, wiX_takeSign, weX_takeSign, wnX, wcX_takeSign, by decide +kernel⟩
theorem kX_127 : lkS "TokenRow" 127 yX_isNameByte cX_isNameByte 1 (some .boolean) 1 := ⟨wlX_127, wsX_isNameByte, wnX, wcX_isNameByte, by decide +kernel⟩
theorem kX_130 : lkV "TokenRow" 130 yX_isKeyword cX_isKeyword 3 (some .boolean) 2 := ⟨wlX_130, wiX_isKeyword, weX_isKeyword, wnX, wcX_isKeyword, by decide +kernel⟩
theorem kX_134 : lkV "TokenRow" 134 yX_takeText cX_takeText 3 none 1 := ⟨wlX_134, wiX_takeText, weX_takeText, wnX, wcX_takeText, by decide +kernel⟩
theorem kX_139 : lkS "TokenRow" 139 yX_digitOf cX_digitOf 1 (some .int) 1 := ⟨wlX_139, wsX_digitOf, wnX, wcX_digitOf, by decide +kernel⟩
theorem kX_150 : lkV "TokenRow" 150 yX_takeMeantByte cX_takeMeantByte 4 (some .int) 1 := ⟨wlX_150, wiX_takeMeantByte, weX_takeMeantByte, wnX, wcX_takeMeantByte, by decide +kernel⟩
theorem kX_153 : lkV "TokenRow" 153 yX_appendText cX_appendText 2 none 1 := ⟨wlX_153, wiX_appendText, weX_appendText, wnX, wcX_appendText, by decide +kernel⟩
theorem kX_156 : lkS "TokenRow" 156 yX_meaningBehindStar cX_meaningBehindStar 1 (some .int) 1 := ⟨wlX_156, wsX_meaningBehindStar, wnX, wcX_meaningBehindStar, by decide +kernel⟩
theorem kX_165 : lkV "TokenRow" 165 yS_length cS_length 1 (some .int) 0 := ⟨wlX_165, wiS_length, weS_length, wnS, wcS_length, by decide +kernel⟩
theorem kX_170 : lkV "TokenRow" 170 yS_charAt cS_charAt 2 (some .char) 1 := ⟨wlX_170, wiS_charAt, weS_charAt, wnS, wcS_charAt, by decide +kernel⟩
theorem kX_174 : lkV "TokenRow" 174 yX_mayEndStatement cX_mayEndStatement 4 (some .boolean) 3 := ⟨wlX_174, wiX_mayEndStatement, weX_mayEndStatement, wnX, wcX_mayEndStatement, by decide +kernel⟩
theorem kX_177 : lkV "TokenRow" 177 yX_mayBeginStatement cX_mayBeginStatement 4 (some .boolean) 3 := ⟨wlX_177, wiX_mayBeginStatement, weX_mayBeginStatement, wnX, wcX_mayBeginStatement, by decide +kernel⟩
theorem kX_180 : lkS "TokenRow" 180 yX_isOperand cX_isOperand 1 (some .boolean) 1 := ⟨wlX_180, wsX_isOperand, wnX, wcX_isOperand, by decide +kernel⟩
theorem kL_13 : lkV "TokenRowLaw" 13 yX_feed cX_feed 6 (some .boolean) 5 := ⟨wlL_13, wiX_feed, weX_feed, wnX, wcX_feed, by decide +kernel⟩
theorem kL_17 : lkV "TokenRowLaw" 17 yM_feed cM_feed 6 (some .boolean) 5 := ⟨wlL_17, wiM_feed, weM_feed, wnM, wcM_feed, by decide +kernel⟩
theorem kL_18 : lkV "TokenRowLaw" 18 yX_end cX_end 2 (some .boolean) 1 := ⟨wlL_18, wiX_end, weX_end, wnX, wcX_end, by decide +kernel⟩
theorem kL_22 : lkV "TokenRowLaw" 22 yM_end cM_end 2 (some .boolean) 1 := ⟨wlL_22, wiM_end, weM_end, wnM, wcM_end, by decide +kernel⟩
theorem kL_23 : lkV "TokenRowLaw" 23 yX_read cX_read 3 (some .int) 0 := ⟨wlL_23, wiX_read, weX_read, wnX, wcX_read, by decide +kernel⟩
theorem kL_27 : lkV "TokenRowLaw" 27 yM_read cM_read 2 (some .int) 0 := ⟨wlL_27, wiM_read, weM_read, wnM, wcM_read, by decide +kernel⟩
theorem kL_28 : lkV "TokenRowLaw" 28 yX_kind cX_kind 2 (some .int) 1 := ⟨wlL_28, wiX_kind, weX_kind, wnX, wcX_kind, by decide +kernel⟩
theorem kL_32 : lkV "TokenRowLaw" 32 yM_kind cM_kind 2 (some .int) 1 := ⟨wlL_32, wiM_kind, weM_kind, wnM, wcM_kind, by decide +kernel⟩
theorem kL_33 : lkV "TokenRowLaw" 33 yX_place cX_place 2 (some .int) 1 := ⟨wlL_33, wiX_place, weX_place, wnX, wcX_place, by decide +kernel⟩
theorem kL_36 : lkV "TokenRowLaw" 36 yM_place cM_place 2 (some .int) 1 := ⟨wlL_36, wiM_place, weM_place, wnM, wcM_place, by decide +kernel⟩
theorem kL_37 : lkV "TokenRowLaw" 37 yX_line cX_line 2 (some .int) 1 := ⟨wlL_37, wiX_line, weX_line, wnX, wcX_line, by decide +kernel⟩
theorem kL_40 : lkV "TokenRowLaw" 40 yM_line cM_line 2 (some .int) 1 := ⟨wlL_40, wiM_line, weM_line, wnM, wcM_line, by decide +kernel⟩
theorem kL_41 : lkV "TokenRowLaw" 41 yX_value cX_value 2 (some .int) 1 := ⟨wlL_41, wiX_value, weX_value, wnX, wcX_value, by decide +kernel⟩
theorem kL_44 : lkV "TokenRowLaw" 44 yM_value cM_value 2 (some .int) 1 := ⟨wlL_44, wiM_value, weM_value, wnM, wcM_value, by decide +kernel⟩
theorem kL_45 : lkV "TokenRowLaw" 45 yX_level cX_level 2 (some .int) 1 := ⟨wlL_45, wiX_level, weX_level, wnX, wcX_level, by decide +kernel⟩
theorem kL_48 : lkV "TokenRowLaw" 48 yM_level cM_level 2 (some .int) 1 := ⟨wlL_48, wiM_level, weM_level, wnM, wcM_level, by decide +kernel⟩
theorem kL_49 : lkV "TokenRowLaw" 49 yX_size cX_size 2 (some .int) 1 := ⟨wlL_49, wiX_size, weX_size, wnX, wcX_size, by decide +kernel⟩
theorem kL_52 : lkV "TokenRowLaw" 52 yM_size cM_size 2 (some .int) 1 := ⟨wlL_52, wiM_size, weM_size, wnM, wcM_size, by decide +kernel⟩
theorem kL_53 : lkV "TokenRowLaw" 53 yX_textAt cX_textAt 3 (some .int) 2 := ⟨wlL_53, wiX_textAt, weX_textAt, wnX, wcX_textAt, by decide +kernel⟩
theorem kL_57 : lkV "TokenRowLaw" 57 yM_textAt cM_textAt 3 (some .int) 2 := ⟨wlL_57, wiM_textAt, weM_textAt, wnM, wcM_textAt, by decide +kernel⟩
theorem kM_57 : lkV "TokenRowModel" 57 yM_put cM_put 3 none 1 := ⟨wlM_57, wiM_put, weM_put, wnM, wcM_put, by decide +kernel⟩
theorem kM_61 : lkS "TokenRowModel" 61 yM_isGreat cM_isGreat 1 (some .boolean) 1 := ⟨wlM_61, wsM_isGreat, wnM, wcM_isGreat, by decide +kernel⟩
theorem kM_65 : lkS "TokenRowModel" 65 yM_isLetter cM_isLetter 1 (some .boolean) 1 := ⟨wlM_65, wsM_isLetter, wnM, wcM_isLetter, by decide +kernel⟩
theorem kM_68 : lkS "TokenRowModel" 68 yM_isDigit cM_isDigit 1 (some .boolean) 1 := ⟨wlM_68, wsM_isDigit, wnM, wcM_isDigit, by decide +kernel⟩
theorem kM_74 : lkV "TokenRowModel" 74 yM_see cM_see 2 (some .int) 1 := ⟨wlM_74, wiM_see, weM_see, wnM, wcM_see, by decide +kernel⟩
theorem kM_87 : lkV "TokenRowModel" 87 yS_length cS_length 1 (some .int) 0 := ⟨wlM_87, wiS_length, weS_length, wnS, wcS_length, by decide +kernel⟩
theorem kM_93 : lkV "TokenRowModel" 93 yS_charAt cS_charAt 2 (some .char) 1 := ⟨wlM_93, wiS_charAt, weS_charAt, wnS, wcS_charAt, by decide +kernel⟩
theorem kM_97 : lkV "TokenRowModel" 97 yM_standsAt cM_standsAt 7 (some .boolean) 3 := ⟨wlM_97, wiM_standsAt, weM_standsAt, wnM, wcM_standsAt, by decide +kernel⟩
theorem kM_101 : lkS "TokenRowModel" 101 yM_isPlain cM_isPlain 1 (some .boolean) 1 := ⟨wlM_101, wsM_isPlain, wnM, wcM_isPlain, by decide +kernel⟩
theorem kM_104 : lkV "TokenRowModel" 104 yM_is cM_is 4 (some .boolean) 3 := ⟨wlM_104, wiM_is, weM_is, wnM, wcM_is, by decide +kernel⟩
theorem kM_108 : lkV "TokenRowModel" 108 yM_isIn cM_isIn 4 (some .boolean) 2 := ⟨wlM_108, wiM_isIn, weM_isIn, wnM, wcM_isIn, by decide +kernel⟩
theorem kM_112 : lkV "TokenRowModel" 112 yM_ends cM_ends 2 (some .boolean) 1 := ⟨wlM_112, wiM_ends, weM_ends, wnM, wcM_ends, by decide +kernel⟩
theorem kM_115 : lkV "TokenRowModel" 115 yM_begins cM_begins 2 (some .boolean) 1 := ⟨wlM_115, wiM_begins, weM_begins, wnM, wcM_begins, by decide +kernel⟩
theorem kM_117 : lkS "TokenRowModel" 117 yM_isNamed cM_isNamed 1 (some .boolean) 1 := ⟨wlM_117, wsM_isNamed, wnM, wcM_isNamed, by decide +kernel⟩
theorem kM_126 : lkS "TokenRowModel" 126 yM_digit cM_digit 1 (some .int) 1 := ⟨wlM_126, wsM_digit, wnM, wcM_digit, by decide +kernel⟩
theorem kM_134 : lkV "TokenRowModel" 134 yM_meaning cM_meaning 5 (some .int) 2 := ⟨wlM_134, wiM_meaning, weM_meaning, wnM, wcM_meaning, by decide +kernel⟩
theorem kM_138 : lkV "TokenRowModel" 138 yM_next cM_next 2 (some .int) 1 := ⟨wlM_138, wiM_next, weM_next, wnM, wcM_next, by decide +kernel⟩
theorem kM_141 : lkV "TokenRowModel" 141 yM_readName cM_readName 2 none 0 := ⟨wlM_141, wiM_readName, weM_readName, wnM, wcM_readName, by decide +kernel⟩
theorem kM_144 : lkV "TokenRowModel" 144 yM_readDigits cM_readDigits 7 none 2 := ⟨wlM_144, wiM_readDigits, weM_readDigits, wnM, wcM_readDigits, by decide +kernel⟩
theorem kM_148 : lkV "TokenRowModel" 148 yM_readByte cM_readByte 1 none 0 := ⟨wlM_148, wiM_readByte, weM_readByte, wnM, wcM_readByte, by decide +kernel⟩
theorem kM_151 : lkV "TokenRowModel" 151 yM_readString cM_readString 3 none 0 := ⟨wlM_151, wiM_readString, weM_readString, wnM, wcM_readString, by decide +kernel⟩
theorem kM_154 : lkV "TokenRowModel" 154 yM_readSign cM_readSign 5 none 0 := ⟨wlM_154, wiM_readSign, weM_readSign, wnM, wcM_readSign, by decide +kernel⟩
theorem kM_157 : lkV "TokenRowModel" 157 yM_add cM_add 3 none 2 := ⟨wlM_157, wiM_add, weM_add, wnM, wcM_add, by decide +kernel⟩
theorem kM_160 : lkV "TokenRowModel" 160 yM_say cM_say 2 none 1 := ⟨wlM_160, wiM_say, weM_say, wnM, wcM_say, by decide +kernel⟩
theorem kM_163 : lkV "TokenRowModel" 163 yM_understand cM_understand 2 none 0 := ⟨wlM_163, wiM_understand, weM_understand, wnM, wcM_understand, by decide +kernel⟩
theorem kM_166 : lkV "TokenRowModel" 166 yM_skip cM_skip 4 none 0 := ⟨wlM_166, wiM_skip, weM_skip, wnM, wcM_skip, by decide +kernel⟩
theorem kM_169 : lkV "TokenRowModel" 169 yM_readToken cM_readToken 2 none 0 := ⟨wlM_169, wiM_readToken, weM_readToken, wnM, wcM_readToken, by decide +kernel⟩
theorem kM_172 : lkV "TokenRowModel" 172 yM_keep cM_keep 2 none 0 := ⟨wlM_172, wiM_keep, weM_keep, wnM, wcM_keep, by decide +kernel⟩
theorem kM_175 : lkV "TokenRowModel" 175 yM_isToken cM_isToken 2 (some .boolean) 1 := ⟨wlM_175, wiM_isToken, weM_isToken, wnM, wcM_isToken, by decide +kernel⟩
theorem kS_335 : lkV "java/lang/String" 335 yS_coder cS_coder 1 (some .byte) 0 := ⟨wlS_335, wiS_coder, weS_coder, wnS, wcS_coder, by decide +kernel⟩
theorem kS_492 : lkV "java/lang/String" 492 yS_isLatin1 cS_isLatin1 1 (some .boolean) 0 := ⟨wlS_492, wiS_isLatin1, weS_isLatin1, wnS, wcS_isLatin1, by decide +kernel⟩
theorem kS_495 : lkS "java/lang/String" 495 yL1_charAt cL1_charAt 2 (some .char) 2 := ⟨wlS_495, wsL1_charAt, wnL1, wcL1_charAt, by decide +kernel⟩
theorem kS_1059 : lkS "java/lang/String" 1059 yP_checkIndex cP_checkIndex 3 (some .int) 3 := ⟨wlS_1059, wsP_checkIndex, wnP, wcP_checkIndex, by decide +kernel⟩
theorem kL1_9 : lkS "java/lang/StringLatin1" 9 yS_checkIndex cS_checkIndex 2 none 2 := ⟨wlL1_9, wsS_checkIndex, wnS, wcS_checkIndex, by decide +kernel⟩
