/-! ===== leaves: what a byte is ===== -/
abbrev iGreat (c : Int32) : Prop := ¬ c < 65 ∧ ¬ 90 < c
abbrev iLet (c : Int32) : Prop := (¬ c < 97 ∧ ¬ 122 < c) ∨ iGreat c
abbrev iDig (c : Int32) : Prop := ¬ c < 48 ∧ ¬ 57 < c
abbrev iNam (c : Int32) : Prop := iLet c ∨ iDig c ∨ c = 46 ∨ c = 95
/-- a digit's number, -1 for others (the class), 99 (the reference) -/
def dgX (c : Int32) : Int32 := if iDig c then c - 48 else if ¬ c < 65 ∧ ¬ 70 < c then c - 65 + 10 else -1
def dgM (c : Int32) : Int32 := if iDig c then c - 48 else if ¬ c < 65 ∧ ¬ 70 < c then c - 65 + 10 else 99
/-- what a byte behind a star means -/
def starB (c : Int32) : Int32 := if c = 34 ∨ c = 39 ∨ c = 42 then c else if c = 78 then 10 else if c = 83 then 32 else if c = 84 then 9 else -1
abbrev iOpd (k : Int32) : Prop := k = 0 ∨ k = 1 ∨ k = 2
abbrev iSok (k : Int32) : Prop := k = 3 ∨ k = 4
def elA (f : Nat → Int32) (N : Nat) (i : Int32) : Int32 := if i < 0 then -1 else if nI N ≤ i then -1 else f i.toNatClampNeg
section KSS
variable {p : Program} {l : Launch} {e : Env} {R : Room} {s : State} {m : MethodId} {args : Array Value} {below : List Frame} {meth : Method} {c : Code} {H : Heap} {locs : List Loc} {cells slots : Nat} {Q : State → Prop}
variable {cc : ByteArray} {pc nL : Nat} {ls : Array Slot} {rest : List Value} {D : va_G} {cA : ClassId} {A : Nat → Prop} {z : kz_Z} {w0 : Cond} {own : String}
theorem sS.ar {o : kz_O} (hw : sS z o s H locs) : arS o H.size s H := by
  intro q N f e
  have h1 := hw.2.2.2 q N f e
  exact (h1.kept hw.1.2.1).narrow (fun x hx => Nat.le_trans hw.1.1 hx)
theorem kcSS {ix n k : Nat} {y : MethodName} {cy : ByteArray} {ret : Option FieldType} {rm : Room} {As : List Value} {o o' : kz_O} {posts : Int32 → Prop} (S : CallFix p m c cc nL s args (w0 :: TT) own) (hk : lkS own ix y cy n ret k) (hM : MS l y cy n ret rm As z o (fun v => ∃ r, v = some (.int r) ∧ posts r)) (hw : sS z o' s H locs) (hA : ∀ q, s.heap.size ≤ q → (fun x => s.heap.size ≤ x) q) (ar : arS o H.size s H)
    (hR : rm.frames + 1 ≤ R.frames ∧ 8 + (n + 11) + rm.locals ≤ R.locals) (hrc : rm.cells = 0) (hrs : rm.slots = 0) (hf : cells ≤ R.cells ∧ slots ≤ R.slots) (hn : As.length = k) (hls : ls.size = nL) (hW : (rest.map fun v => v.category).sum ≤ 8) (hdg : decode cc pc = .ok (.invokestatic ix, 3))
    (kk : ∀ (r : Int32) (H1 : Heap) (locs1 : List Loc), posts r → sS z o' s H1 locs1 → W p l e R s m args below meth c H1 locs1 cells slots Q (F0 m (pc + 3) ls (.int r :: rest))) : W p l e R s m args below meth c H locs cells slots Q (F0 m pc ls (As.reverse ++ rest)) := by
  refine kz_cS S hk hM hw.1 hA hw.2.1 hw.2.2.1 ar hR hrc hrs hf hn hls hW hdg (fun v H1 locs1 hp hz hkp hS => ?_)
  obtain ⟨r, rfl, hp⟩ := hp
  exact kk r H1 locs1 hp ⟨hS, hw.2⟩
theorem kcSv {ix n k : Nat} {y : MethodName} {cy : ByteArray} {ret : Option FieldType} {rm : Room} {As : List Value} {o o' : kz_O} (S : CallFix p m c cc nL s args (w0 :: TT) own) (hk : lkS own ix y cy n ret k) (hM : MS l y cy n ret rm As z o (fun v => v = none)) (hw : sS z o' s H locs) (hA : ∀ q, s.heap.size ≤ q → (fun x => s.heap.size ≤ x) q) (ar : arS o H.size s H)
    (hR : rm.frames + 1 ≤ R.frames ∧ 8 + (n + 11) + rm.locals ≤ R.locals) (hrc : rm.cells = 0) (hrs : rm.slots = 0) (hf : cells ≤ R.cells ∧ slots ≤ R.slots) (hn : As.length = k) (hls : ls.size = nL) (hW : (rest.map fun v => v.category).sum ≤ 8) (hdg : decode cc pc = .ok (.invokestatic ix, 3))
    (kk : ∀ (H1 : Heap) (locs1 : List Loc), sS z o' s H1 locs1 → W p l e R s m args below meth c H1 locs1 cells slots Q (F0 m (pc + 3) ls rest)) : W p l e R s m args below meth c H locs cells slots Q (F0 m pc ls (As.reverse ++ rest)) := by
  refine kz_cS S hk hM hw.1 hA hw.2.1 hw.2.2.1 ar hR hrc hrs hf hn hls hW hdg (fun v H1 locs1 hp hz hkp hS => ?_)
  cases hp
  exact kk H1 locs1 ⟨hS, hw.2⟩
theorem kcST {ix n k i : Nat} {y : MethodName} {cy : ByteArray} {ret : Option FieldType} {rm : Room} {As : List Value} {o o' : kz_O} {posts : Int32 → Prop} (S : CallFix p m c cc nL s args (w0 :: TT) own) (hk : lkV own ix y cy n ret k) (hyc : y.cls = "java/lang/String") (hi : i < 12) (hM : MS l y cy n ret rm (.ref (z.2.1 i) :: As) z o (fun v => ∃ r, v = some (.int r) ∧ posts r)) (hw : sS z o' s H locs) (hA : ∀ q, s.heap.size ≤ q → (fun x => s.heap.size ≤ x) q) (ar : arS o H.size s H)
    (hR : rm.frames + 1 ≤ R.frames ∧ 8 + (n + 11) + rm.locals ≤ R.locals) (hrc : rm.cells = 0) (hrs : rm.slots = 0) (hf : cells ≤ R.cells ∧ slots ≤ R.slots) (hn : As.length = k) (hls : ls.size = nL) (hW : (rest.map fun v => v.category).sum ≤ 8) (hdg : decode cc pc = .ok (.invokevirtual ix, 3))
    (kk : ∀ (r : Int32) (H1 : Heap) (locs1 : List Loc), posts r → sS z o' s H1 locs1 → W p l e R s m args below meth c H1 locs1 cells slots Q (F0 m (pc + 3) ls (.int r :: rest))) : W p l e R s m args below meth c H locs cells slots Q (F0 m pc ls (As.reverse ++ .ref (z.2.1 i) :: rest)) := by
  refine kz_cT S hk hyc hi hM hw.1 hA hw.2.1 hw.2.2.1 ar hR hrc hrs hf hn hls hW hdg (fun v H1 locs1 hp hz hkp hS => ?_)
  obtain ⟨r, rfl, hp⟩ := hp
  exact kk r H1 locs1 hp ⟨hS, hw.2⟩
end KSS
set_option maxHeartbeats 4000000 in
set_option maxRecDepth 100000 in
theorem tX_isLetter (l : Launch) (z : kz_Z) (o : kz_O) (x : Int32) : MS l yX_isLetter cX_isLetter 1 (some .boolean) ({ frames := 0, cells := 0, slots := 0, locals := 0 }) [.int x] z o (fun v => ∃ r, v = some (.int r) ∧ r = if iLet x then 1 else 0) := by
  refine MS.mk (by decide) (Nat.le_of_ble_eq_true rfl) ?_
  intro pg en s m below meth c ls S hr hlk hw hl
  have hA : ∀ q, s.heap.size ≤ q → (fun x => s.heap.size ≤ x) q := fun _ h => h
  have hx := S.1
  have hb := S.2.1
  have hl : lv_has ls 1 [(0, .int x)] := hl
  refine lv_iload_n hx hb dX_isLetter_0 rfl (lv_at hl 0 rfl) ?_
  refine lv_bipush (v := 97) hx hb dX_isLetter_1 (by decide) ?_
  refine lv_icmp_lt (tgt := 12) hx hb dX_isLetter_3 (by decide) (fun c3 => ?_) (fun c3 => ?_)
  · skip
    refine lv_iload_n hx hb dX_isLetter_12 rfl (lv_at hl 0 rfl) ?_
    refine lv_bipush (v := 65) hx hb dX_isLetter_13 (by decide) ?_
    refine lv_icmp_lt (tgt := 28) hx hb dX_isLetter_15 (by decide) (fun c15 => ?_) (fun c15 => ?_)
    · skip
      refine lv_iconst (v := 0) hx hb dX_isLetter_28 (by decide) ?_
      exact MS.iret S hr hlk hw dX_isLetter_29 (by first | rfl | decide) ⟨_, rfl, by simp [iLet, iGreat, c3, c15]⟩
    · skip
      refine lv_iload_n hx hb dX_isLetter_18 rfl (lv_at hl 0 rfl) ?_
      refine lv_bipush (v := 90) hx hb dX_isLetter_19 (by decide) ?_
      refine lv_icmp_gt (tgt := 28) hx hb dX_isLetter_21 (by decide) (fun c21 => ?_) (fun c21 => ?_)
      · skip
        refine lv_iconst (v := 0) hx hb dX_isLetter_28 (by decide) ?_
        exact MS.iret S hr hlk hw dX_isLetter_29 (by first | rfl | decide) ⟨_, rfl, by simp [iLet, iGreat, c3, c15, c21]⟩
      · skip
        refine lv_iconst (v := 1) hx hb dX_isLetter_24 (by decide) ?_
        refine lv_goto (tgt := 29) hx hb dX_isLetter_25 (by decide) ?_
        exact MS.iret S hr hlk hw dX_isLetter_29 (by first | rfl | decide) ⟨_, rfl, by simp [iLet, iGreat, c3, c15, c21]⟩
  · skip
    refine lv_iload_n hx hb dX_isLetter_6 rfl (lv_at hl 0 rfl) ?_
    refine lv_bipush (v := 122) hx hb dX_isLetter_7 (by decide) ?_
    refine lv_icmp_le (tgt := 24) hx hb dX_isLetter_9 (by decide) (fun c9 => ?_) (fun c9 => ?_)
    · skip
      refine lv_iconst (v := 1) hx hb dX_isLetter_24 (by decide) ?_
      refine lv_goto (tgt := 29) hx hb dX_isLetter_25 (by decide) ?_
      exact MS.iret S hr hlk hw dX_isLetter_29 (by first | rfl | decide) ⟨_, rfl, by simp [iLet, iGreat, c3, c9]⟩
    · skip
      refine lv_iload_n hx hb dX_isLetter_12 rfl (lv_at hl 0 rfl) ?_
      refine lv_bipush (v := 65) hx hb dX_isLetter_13 (by decide) ?_
      refine lv_icmp_lt (tgt := 28) hx hb dX_isLetter_15 (by decide) (fun c15 => ?_) (fun c15 => ?_)
      · skip
        refine lv_iconst (v := 0) hx hb dX_isLetter_28 (by decide) ?_
        exact MS.iret S hr hlk hw dX_isLetter_29 (by first | rfl | decide) ⟨_, rfl, by simp [iLet, iGreat, c3, c9, c15]⟩
      · skip
        refine lv_iload_n hx hb dX_isLetter_18 rfl (lv_at hl 0 rfl) ?_
        refine lv_bipush (v := 90) hx hb dX_isLetter_19 (by decide) ?_
        refine lv_icmp_gt (tgt := 28) hx hb dX_isLetter_21 (by decide) (fun c21 => ?_) (fun c21 => ?_)
        · skip
          refine lv_iconst (v := 0) hx hb dX_isLetter_28 (by decide) ?_
          exact MS.iret S hr hlk hw dX_isLetter_29 (by first | rfl | decide) ⟨_, rfl, by simp [iLet, iGreat, c3, c9, c15, c21]⟩
        · skip
          refine lv_iconst (v := 1) hx hb dX_isLetter_24 (by decide) ?_
          refine lv_goto (tgt := 29) hx hb dX_isLetter_25 (by decide) ?_
          exact MS.iret S hr hlk hw dX_isLetter_29 (by first | rfl | decide) ⟨_, rfl, by simp [iLet, iGreat, c3, c9, c15, c21]⟩
set_option maxHeartbeats 4000000 in
set_option maxRecDepth 100000 in
theorem tX_isDecimalDigit (l : Launch) (z : kz_Z) (o : kz_O) (x : Int32) : MS l yX_isDecimalDigit cX_isDecimalDigit 1 (some .boolean) ({ frames := 0, cells := 0, slots := 0, locals := 0 }) [.int x] z o (fun v => ∃ r, v = some (.int r) ∧ r = if iDig x then 1 else 0) := by
  refine MS.mk (by decide) (Nat.le_of_ble_eq_true rfl) ?_
  intro pg en s m below meth c ls S hr hlk hw hl
  have hA : ∀ q, s.heap.size ≤ q → (fun x => s.heap.size ≤ x) q := fun _ h => h
  have hx := S.1
  have hb := S.2.1
  have hl : lv_has ls 1 [(0, .int x)] := hl
  refine lv_iload_n hx hb dX_isDecimalDigit_0 rfl (lv_at hl 0 rfl) ?_
  refine lv_bipush (v := 48) hx hb dX_isDecimalDigit_1 (by decide) ?_
  refine lv_icmp_lt (tgt := 16) hx hb dX_isDecimalDigit_3 (by decide) (fun c3 => ?_) (fun c3 => ?_)
  · skip
    refine lv_iconst (v := 0) hx hb dX_isDecimalDigit_16 (by decide) ?_
    exact MS.iret S hr hlk hw dX_isDecimalDigit_17 (by first | rfl | decide) ⟨_, rfl, by simp [iDig, c3]⟩
  · skip
    refine lv_iload_n hx hb dX_isDecimalDigit_6 rfl (lv_at hl 0 rfl) ?_
    refine lv_bipush (v := 57) hx hb dX_isDecimalDigit_7 (by decide) ?_
    refine lv_icmp_gt (tgt := 16) hx hb dX_isDecimalDigit_9 (by decide) (fun c9 => ?_) (fun c9 => ?_)
    · skip
      refine lv_iconst (v := 0) hx hb dX_isDecimalDigit_16 (by decide) ?_
      exact MS.iret S hr hlk hw dX_isDecimalDigit_17 (by first | rfl | decide) ⟨_, rfl, by simp [iDig, c3, c9]⟩
    · skip
      refine lv_iconst (v := 1) hx hb dX_isDecimalDigit_12 (by decide) ?_
      refine lv_goto (tgt := 17) hx hb dX_isDecimalDigit_13 (by decide) ?_
      exact MS.iret S hr hlk hw dX_isDecimalDigit_17 (by first | rfl | decide) ⟨_, rfl, by simp [iDig, c3, c9]⟩
set_option maxHeartbeats 4000000 in
set_option maxRecDepth 100000 in
theorem tX_isOperand (l : Launch) (z : kz_Z) (o : kz_O) (x : Int32) : MS l yX_isOperand cX_isOperand 1 (some .boolean) ({ frames := 0, cells := 0, slots := 0, locals := 0 }) [.int x] z o (fun v => ∃ r, v = some (.int r) ∧ r = if iOpd x then 1 else 0) := by
  refine MS.mk (by decide) (Nat.le_of_ble_eq_true rfl) ?_
  intro pg en s m below meth c ls S hr hlk hw hl
  have hA : ∀ q, s.heap.size ≤ q → (fun x => s.heap.size ≤ x) q := fun _ h => h
  have hx := S.1
  have hb := S.2.1
  have hl : lv_has ls 1 [(0, .int x)] := hl
  refine lv_iload_n hx hb dX_isOperand_0 rfl (lv_at hl 0 rfl) ?_
  refine lv_if_eq (tgt := 14) hx hb dX_isOperand_1 (by decide) (fun c1 => ?_) (fun c1 => ?_)
  · skip
    refine lv_iconst (v := 1) hx hb dX_isOperand_14 (by decide) ?_
    refine lv_goto (tgt := 19) hx hb dX_isOperand_15 (by decide) ?_
    exact MS.iret S hr hlk hw dX_isOperand_19 (by first | rfl | decide) ⟨_, rfl, by simp [iOpd, c1]⟩
  · skip
    refine lv_iload_n hx hb dX_isOperand_4 rfl (lv_at hl 0 rfl) ?_
    refine lv_iconst (v := 1) hx hb dX_isOperand_5 (by decide) ?_
    refine lv_icmp_eq (tgt := 14) hx hb dX_isOperand_6 (by decide) (fun c6 => ?_) (fun c6 => ?_)
    · skip
      refine lv_iconst (v := 1) hx hb dX_isOperand_14 (by decide) ?_
      refine lv_goto (tgt := 19) hx hb dX_isOperand_15 (by decide) ?_
      exact MS.iret S hr hlk hw dX_isOperand_19 (by first | rfl | decide) ⟨_, rfl, by simp [iOpd, c1, c6]⟩
    · skip
      refine lv_iload_n hx hb dX_isOperand_9 rfl (lv_at hl 0 rfl) ?_
      refine lv_iconst (v := 2) hx hb dX_isOperand_10 (by decide) ?_
      refine lv_icmp_ne (tgt := 18) hx hb dX_isOperand_11 (by decide) (fun c11 => ?_) (fun c11 => ?_)
      · skip
        refine lv_iconst (v := 0) hx hb dX_isOperand_18 (by decide) ?_
        exact MS.iret S hr hlk hw dX_isOperand_19 (by first | rfl | decide) ⟨_, rfl, by simp [iOpd, c1, c6, c11]⟩
      · skip
        refine lv_iconst (v := 1) hx hb dX_isOperand_14 (by decide) ?_
        refine lv_goto (tgt := 19) hx hb dX_isOperand_15 (by decide) ?_
        exact MS.iret S hr hlk hw dX_isOperand_19 (by first | rfl | decide) ⟨_, rfl, by simp [iOpd, c1, c6, c11]⟩
set_option maxHeartbeats 4000000 in
set_option maxRecDepth 100000 in
theorem tX_isSignOrKeyword (l : Launch) (z : kz_Z) (o : kz_O) (x : Int32) : MS l yX_isSignOrKeyword cX_isSignOrKeyword 1 (some .boolean) ({ frames := 0, cells := 0, slots := 0, locals := 0 }) [.int x] z o (fun v => ∃ r, v = some (.int r) ∧ r = if iSok x then 1 else 0) := by
  refine MS.mk (by decide) (Nat.le_of_ble_eq_true rfl) ?_
  intro pg en s m below meth c ls S hr hlk hw hl
  have hA : ∀ q, s.heap.size ≤ q → (fun x => s.heap.size ≤ x) q := fun _ h => h
  have hx := S.1
  have hb := S.2.1
  have hl : lv_has ls 1 [(0, .int x)] := hl
  refine lv_iload_n hx hb dX_isSignOrKeyword_0 rfl (lv_at hl 0 rfl) ?_
  refine lv_iconst (v := 3) hx hb dX_isSignOrKeyword_1 (by decide) ?_
  refine lv_icmp_eq (tgt := 10) hx hb dX_isSignOrKeyword_2 (by decide) (fun c2 => ?_) (fun c2 => ?_)
  · skip
    refine lv_iconst (v := 1) hx hb dX_isSignOrKeyword_10 (by decide) ?_
    refine lv_goto (tgt := 15) hx hb dX_isSignOrKeyword_11 (by decide) ?_
    exact MS.iret S hr hlk hw dX_isSignOrKeyword_15 (by first | rfl | decide) ⟨_, rfl, by simp [iSok, c2]⟩
  · skip
    refine lv_iload_n hx hb dX_isSignOrKeyword_5 rfl (lv_at hl 0 rfl) ?_
    refine lv_iconst (v := 4) hx hb dX_isSignOrKeyword_6 (by decide) ?_
    refine lv_icmp_ne (tgt := 14) hx hb dX_isSignOrKeyword_7 (by decide) (fun c7 => ?_) (fun c7 => ?_)
    · skip
      refine lv_iconst (v := 0) hx hb dX_isSignOrKeyword_14 (by decide) ?_
      exact MS.iret S hr hlk hw dX_isSignOrKeyword_15 (by first | rfl | decide) ⟨_, rfl, by simp [iSok, c2, c7]⟩
    · skip
      refine lv_iconst (v := 1) hx hb dX_isSignOrKeyword_10 (by decide) ?_
      refine lv_goto (tgt := 15) hx hb dX_isSignOrKeyword_11 (by decide) ?_
      exact MS.iret S hr hlk hw dX_isSignOrKeyword_15 (by first | rfl | decide) ⟨_, rfl, by simp [iSok, c2, c7]⟩
set_option maxHeartbeats 4000000 in
set_option maxRecDepth 100000 in
theorem tM_isGreat (l : Launch) (z : kz_Z) (o : kz_O) (x : Int32) : MS l yM_isGreat cM_isGreat 1 (some .boolean) ({ frames := 0, cells := 0, slots := 0, locals := 0 }) [.int x] z o (fun v => ∃ r, v = some (.int r) ∧ r = if iGreat x then 1 else 0) := by
  refine MS.mk (by decide) (Nat.le_of_ble_eq_true rfl) ?_
  intro pg en s m below meth c ls S hr hlk hw hl
  have hA : ∀ q, s.heap.size ≤ q → (fun x => s.heap.size ≤ x) q := fun _ h => h
  have hx := S.1
  have hb := S.2.1
  have hl : lv_has ls 1 [(0, .int x)] := hl
  refine lv_iload_n hx hb dM_isGreat_0 rfl (lv_at hl 0 rfl) ?_
  refine lv_bipush (v := 65) hx hb dM_isGreat_1 (by decide) ?_
  refine lv_icmp_lt (tgt := 16) hx hb dM_isGreat_3 (by decide) (fun c3 => ?_) (fun c3 => ?_)
  · skip
    refine lv_iconst (v := 0) hx hb dM_isGreat_16 (by decide) ?_
    exact MS.iret S hr hlk hw dM_isGreat_17 (by first | rfl | decide) ⟨_, rfl, by simp [iGreat, c3]⟩
  · skip
    refine lv_iload_n hx hb dM_isGreat_6 rfl (lv_at hl 0 rfl) ?_
    refine lv_bipush (v := 90) hx hb dM_isGreat_7 (by decide) ?_
    refine lv_icmp_gt (tgt := 16) hx hb dM_isGreat_9 (by decide) (fun c9 => ?_) (fun c9 => ?_)
    · skip
      refine lv_iconst (v := 0) hx hb dM_isGreat_16 (by decide) ?_
      exact MS.iret S hr hlk hw dM_isGreat_17 (by first | rfl | decide) ⟨_, rfl, by simp [iGreat, c3, c9]⟩
    · skip
      refine lv_iconst (v := 1) hx hb dM_isGreat_12 (by decide) ?_
      refine lv_goto (tgt := 17) hx hb dM_isGreat_13 (by decide) ?_
      exact MS.iret S hr hlk hw dM_isGreat_17 (by first | rfl | decide) ⟨_, rfl, by simp [iGreat, c3, c9]⟩
set_option maxHeartbeats 4000000 in
set_option maxRecDepth 100000 in
theorem tM_isDigit (l : Launch) (z : kz_Z) (o : kz_O) (x : Int32) : MS l yM_isDigit cM_isDigit 1 (some .boolean) ({ frames := 0, cells := 0, slots := 0, locals := 0 }) [.int x] z o (fun v => ∃ r, v = some (.int r) ∧ r = if iDig x then 1 else 0) := by
  refine MS.mk (by decide) (Nat.le_of_ble_eq_true rfl) ?_
  intro pg en s m below meth c ls S hr hlk hw hl
  have hA : ∀ q, s.heap.size ≤ q → (fun x => s.heap.size ≤ x) q := fun _ h => h
  have hx := S.1
  have hb := S.2.1
  have hl : lv_has ls 1 [(0, .int x)] := hl
  refine lv_iload_n hx hb dM_isDigit_0 rfl (lv_at hl 0 rfl) ?_
  refine lv_bipush (v := 48) hx hb dM_isDigit_1 (by decide) ?_
  refine lv_icmp_lt (tgt := 16) hx hb dM_isDigit_3 (by decide) (fun c3 => ?_) (fun c3 => ?_)
  · skip
    refine lv_iconst (v := 0) hx hb dM_isDigit_16 (by decide) ?_
    exact MS.iret S hr hlk hw dM_isDigit_17 (by first | rfl | decide) ⟨_, rfl, by simp [iDig, c3]⟩
  · skip
    refine lv_iload_n hx hb dM_isDigit_6 rfl (lv_at hl 0 rfl) ?_
    refine lv_bipush (v := 57) hx hb dM_isDigit_7 (by decide) ?_
    refine lv_icmp_gt (tgt := 16) hx hb dM_isDigit_9 (by decide) (fun c9 => ?_) (fun c9 => ?_)
    · skip
      refine lv_iconst (v := 0) hx hb dM_isDigit_16 (by decide) ?_
      exact MS.iret S hr hlk hw dM_isDigit_17 (by first | rfl | decide) ⟨_, rfl, by simp [iDig, c3, c9]⟩
    · skip
      refine lv_iconst (v := 1) hx hb dM_isDigit_12 (by decide) ?_
      refine lv_goto (tgt := 17) hx hb dM_isDigit_13 (by decide) ?_
      exact MS.iret S hr hlk hw dM_isDigit_17 (by first | rfl | decide) ⟨_, rfl, by simp [iDig, c3, c9]⟩
set_option maxHeartbeats 4000000 in
set_option maxRecDepth 100000 in
theorem tM_isPlain (l : Launch) (z : kz_Z) (o : kz_O) (x : Int32) : MS l yM_isPlain cM_isPlain 1 (some .boolean) ({ frames := 0, cells := 0, slots := 0, locals := 0 }) [.int x] z o (fun v => ∃ r, v = some (.int r) ∧ r = if iOpd x then 1 else 0) := by
  refine MS.mk (by decide) (Nat.le_of_ble_eq_true rfl) ?_
  intro pg en s m below meth c ls S hr hlk hw hl
  have hA : ∀ q, s.heap.size ≤ q → (fun x => s.heap.size ≤ x) q := fun _ h => h
  have hx := S.1
  have hb := S.2.1
  have hl : lv_has ls 1 [(0, .int x)] := hl
  refine lv_iload_n hx hb dM_isPlain_0 rfl (lv_at hl 0 rfl) ?_
  refine lv_if_eq (tgt := 14) hx hb dM_isPlain_1 (by decide) (fun c1 => ?_) (fun c1 => ?_)
  · skip
    refine lv_iconst (v := 1) hx hb dM_isPlain_14 (by decide) ?_
    refine lv_goto (tgt := 19) hx hb dM_isPlain_15 (by decide) ?_
    exact MS.iret S hr hlk hw dM_isPlain_19 (by first | rfl | decide) ⟨_, rfl, by simp [iOpd, c1]⟩
  · skip
    refine lv_iload_n hx hb dM_isPlain_4 rfl (lv_at hl 0 rfl) ?_
    refine lv_iconst (v := 1) hx hb dM_isPlain_5 (by decide) ?_
    refine lv_icmp_eq (tgt := 14) hx hb dM_isPlain_6 (by decide) (fun c6 => ?_) (fun c6 => ?_)
    · skip
      refine lv_iconst (v := 1) hx hb dM_isPlain_14 (by decide) ?_
      refine lv_goto (tgt := 19) hx hb dM_isPlain_15 (by decide) ?_
      exact MS.iret S hr hlk hw dM_isPlain_19 (by first | rfl | decide) ⟨_, rfl, by simp [iOpd, c1, c6]⟩
    · skip
      refine lv_iload_n hx hb dM_isPlain_9 rfl (lv_at hl 0 rfl) ?_
      refine lv_iconst (v := 2) hx hb dM_isPlain_10 (by decide) ?_
      refine lv_icmp_ne (tgt := 18) hx hb dM_isPlain_11 (by decide) (fun c11 => ?_) (fun c11 => ?_)
      · skip
        refine lv_iconst (v := 0) hx hb dM_isPlain_18 (by decide) ?_
        exact MS.iret S hr hlk hw dM_isPlain_19 (by first | rfl | decide) ⟨_, rfl, by simp [iOpd, c1, c6, c11]⟩
      · skip
        refine lv_iconst (v := 1) hx hb dM_isPlain_14 (by decide) ?_
        refine lv_goto (tgt := 19) hx hb dM_isPlain_15 (by decide) ?_
        exact MS.iret S hr hlk hw dM_isPlain_19 (by first | rfl | decide) ⟨_, rfl, by simp [iOpd, c1, c6, c11]⟩
theorem bI {P : Prop} [Decidable P] {r : Int32} (h : r = if P then 1 else 0) : (P ∧ r = 1) ∨ (¬ P ∧ r = 0) := by
  by_cases hp : P
  · rw [if_pos hp] at h; exact Or.inl ⟨hp, h⟩
  · rw [if_neg hp] at h; exact Or.inr ⟨hp, h⟩
theorem vin_of {i : Int32} {N : Nat} (h1 : ¬ i < 0) (h2 : ¬ nI N ≤ i) (hN : N < 2 ^ 31) : vp_in i N := by
  obtain ⟨j, hj, rfl⟩ := nI_of h1
  refine vp_in_nI ?_ hN
  rcases Nat.lt_or_ge j N with q | q
  · exact q
  · exact absurd (nI_le q hj) h2
set_option maxHeartbeats 4000000 in
set_option maxRecDepth 100000 in
theorem tX_isNameByte (l : Launch) (z : kz_Z) (o : kz_O) (x : Int32) : MS l yX_isNameByte cX_isNameByte 1 (some .boolean) ({ frames := 1, cells := 0, slots := 0, locals := 20 }) [.int x] z o (fun v => ∃ r, v = some (.int r) ∧ r = if iNam x then 1 else 0) := by
  refine MS.mk (by decide) (Nat.le_of_ble_eq_true rfl) ?_
  intro pg en s m below meth c ls S hr hlk hw hl
  have hA : ∀ q, s.heap.size ≤ q → (fun x => s.heap.size ≤ x) q := fun _ h => h
  have hx := S.1
  have hb := S.2.1
  have hl : lv_has ls 1 [(0, .int x)] := hl
  refine lv_iload_n hx hb dX_isNameByte_0 rfl (lv_at hl 0 rfl) ?_
  refine kcSS (rest := []) S kX_103 (tX_isLetter l z none x) hw hA arNone ⟨Nat.le_of_ble_eq_true rfl, Nat.le_of_ble_eq_true rfl⟩ rfl rfl ⟨Nat.zero_le _, Nat.zero_le _⟩ rfl hl.1 (Nat.le_of_ble_eq_true rfl) dX_isNameByte_1 (fun r H locs hq hw => ?_)
  rcases bI hq with ⟨hB1, rfl⟩ | ⟨hB1, rfl⟩
  · skip
    refine lv_if_ne (tgt := 26) hx hb dX_isNameByte_4 (by decide) (fun c4 => ?_) (fun c4 => absurd c4 (by decide))
    refine lv_iconst (v := 1) hx hb dX_isNameByte_26 (by decide) ?_
    refine lv_goto (tgt := 31) hx hb dX_isNameByte_27 (by decide) ?_
    exact MS.iret S hr hlk hw dX_isNameByte_31 (by first | rfl | decide) ⟨_, rfl, by simp [iNam, hB1]⟩
  · skip
    refine lv_if_ne (tgt := 26) hx hb dX_isNameByte_4 (by decide) (fun c4 => absurd c4 (by decide)) (fun c4 => ?_)
    refine lv_iload_n hx hb dX_isNameByte_7 rfl (lv_at hl 0 rfl) ?_
    refine kcSS (rest := []) S kX_109 (tX_isDecimalDigit l z none x) hw hA arNone ⟨Nat.le_of_ble_eq_true rfl, Nat.le_of_ble_eq_true rfl⟩ rfl rfl ⟨Nat.zero_le _, Nat.zero_le _⟩ rfl hl.1 (Nat.le_of_ble_eq_true rfl) dX_isNameByte_8 (fun r H locs hq hw => ?_)
    rcases bI hq with ⟨hB2, rfl⟩ | ⟨hB2, rfl⟩
    · skip
      refine lv_if_ne (tgt := 26) hx hb dX_isNameByte_11 (by decide) (fun c11 => ?_) (fun c11 => absurd c11 (by decide))
      refine lv_iconst (v := 1) hx hb dX_isNameByte_26 (by decide) ?_
      refine lv_goto (tgt := 31) hx hb dX_isNameByte_27 (by decide) ?_
      exact MS.iret S hr hlk hw dX_isNameByte_31 (by first | rfl | decide) ⟨_, rfl, by simp [iNam, hB1, hB2]⟩
    · skip
      refine lv_if_ne (tgt := 26) hx hb dX_isNameByte_11 (by decide) (fun c11 => absurd c11 (by decide)) (fun c11 => ?_)
      refine lv_iload_n hx hb dX_isNameByte_14 rfl (lv_at hl 0 rfl) ?_
      refine lv_bipush (v := 46) hx hb dX_isNameByte_15 (by decide) ?_
      refine lv_icmp_eq (tgt := 26) hx hb dX_isNameByte_17 (by decide) (fun c17 => ?_) (fun c17 => ?_)
      · skip
        refine lv_iconst (v := 1) hx hb dX_isNameByte_26 (by decide) ?_
        refine lv_goto (tgt := 31) hx hb dX_isNameByte_27 (by decide) ?_
        exact MS.iret S hr hlk hw dX_isNameByte_31 (by first | rfl | decide) ⟨_, rfl, by simp [iNam, hB1, hB2, c17]⟩
      · skip
        refine lv_iload_n hx hb dX_isNameByte_20 rfl (lv_at hl 0 rfl) ?_
        refine lv_bipush (v := 95) hx hb dX_isNameByte_21 (by decide) ?_
        refine lv_icmp_ne (tgt := 30) hx hb dX_isNameByte_23 (by decide) (fun c23 => ?_) (fun c23 => ?_)
        · skip
          refine lv_iconst (v := 0) hx hb dX_isNameByte_30 (by decide) ?_
          exact MS.iret S hr hlk hw dX_isNameByte_31 (by first | rfl | decide) ⟨_, rfl, by simp [iNam, hB1, hB2, c17, c23]⟩
        · skip
          refine lv_iconst (v := 1) hx hb dX_isNameByte_26 (by decide) ?_
          refine lv_goto (tgt := 31) hx hb dX_isNameByte_27 (by decide) ?_
          exact MS.iret S hr hlk hw dX_isNameByte_31 (by first | rfl | decide) ⟨_, rfl, by simp [iNam, hB1, hB2, c17, c23]⟩
set_option maxHeartbeats 4000000 in
set_option maxRecDepth 100000 in
theorem tM_isLetter (l : Launch) (z : kz_Z) (o : kz_O) (x : Int32) : MS l yM_isLetter cM_isLetter 1 (some .boolean) ({ frames := 1, cells := 0, slots := 0, locals := 20 }) [.int x] z o (fun v => ∃ r, v = some (.int r) ∧ r = if iLet x then 1 else 0) := by
  refine MS.mk (by decide) (Nat.le_of_ble_eq_true rfl) ?_
  intro pg en s m below meth c ls S hr hlk hw hl
  have hA : ∀ q, s.heap.size ≤ q → (fun x => s.heap.size ≤ x) q := fun _ h => h
  have hx := S.1
  have hb := S.2.1
  have hl : lv_has ls 1 [(0, .int x)] := hl
  refine lv_iload_n hx hb dM_isLetter_0 rfl (lv_at hl 0 rfl) ?_
  refine kcSS (rest := []) S kM_61 (tM_isGreat l z none x) hw hA arNone ⟨Nat.le_of_ble_eq_true rfl, Nat.le_of_ble_eq_true rfl⟩ rfl rfl ⟨Nat.zero_le _, Nat.zero_le _⟩ rfl hl.1 (Nat.le_of_ble_eq_true rfl) dM_isLetter_1 (fun r H locs hq hw => ?_)
  rcases bI hq with ⟨hB1, rfl⟩ | ⟨hB1, rfl⟩
  · skip
    refine lv_if_ne (tgt := 19) hx hb dM_isLetter_4 (by decide) (fun c4 => ?_) (fun c4 => absurd c4 (by decide))
    refine lv_iconst (v := 1) hx hb dM_isLetter_19 (by decide) ?_
    refine lv_goto (tgt := 24) hx hb dM_isLetter_20 (by decide) ?_
    exact MS.iret S hr hlk hw dM_isLetter_24 (by first | rfl | decide) ⟨_, rfl, by simp [iLet, hB1]⟩
  · skip
    refine lv_if_ne (tgt := 19) hx hb dM_isLetter_4 (by decide) (fun c4 => absurd c4 (by decide)) (fun c4 => ?_)
    refine lv_iload_n hx hb dM_isLetter_7 rfl (lv_at hl 0 rfl) ?_
    refine lv_bipush (v := 97) hx hb dM_isLetter_8 (by decide) ?_
    refine lv_icmp_lt (tgt := 23) hx hb dM_isLetter_10 (by decide) (fun c10 => ?_) (fun c10 => ?_)
    · skip
      refine lv_iconst (v := 0) hx hb dM_isLetter_23 (by decide) ?_
      exact MS.iret S hr hlk hw dM_isLetter_24 (by first | rfl | decide) ⟨_, rfl, by simp [iLet, hB1, c10]⟩
    · skip
      refine lv_iload_n hx hb dM_isLetter_13 rfl (lv_at hl 0 rfl) ?_
      refine lv_bipush (v := 122) hx hb dM_isLetter_14 (by decide) ?_
      refine lv_icmp_gt (tgt := 23) hx hb dM_isLetter_16 (by decide) (fun c16 => ?_) (fun c16 => ?_)
      · skip
        refine lv_iconst (v := 0) hx hb dM_isLetter_23 (by decide) ?_
        exact MS.iret S hr hlk hw dM_isLetter_24 (by first | rfl | decide) ⟨_, rfl, by simp [iLet, hB1, c10, c16]⟩
      · skip
        refine lv_iconst (v := 1) hx hb dM_isLetter_19 (by decide) ?_
        refine lv_goto (tgt := 24) hx hb dM_isLetter_20 (by decide) ?_
        exact MS.iret S hr hlk hw dM_isLetter_24 (by first | rfl | decide) ⟨_, rfl, by simp [iLet, hB1, c10, c16]⟩
set_option maxHeartbeats 4000000 in
set_option maxRecDepth 100000 in
theorem tM_isNamed (l : Launch) (z : kz_Z) (o : kz_O) (x : Int32) : MS l yM_isNamed cM_isNamed 1 (some .boolean) ({ frames := 2, cells := 0, slots := 0, locals := 40 }) [.int x] z o (fun v => ∃ r, v = some (.int r) ∧ r = if iNam x then 1 else 0) := by
  refine MS.mk (by decide) (Nat.le_of_ble_eq_true rfl) ?_
  intro pg en s m below meth c ls S hr hlk hw hl
  have hA : ∀ q, s.heap.size ≤ q → (fun x => s.heap.size ≤ x) q := fun _ h => h
  have hx := S.1
  have hb := S.2.1
  have hl : lv_has ls 1 [(0, .int x)] := hl
  refine lv_iload_n hx hb dM_isNamed_0 rfl (lv_at hl 0 rfl) ?_
  refine kcSS (rest := []) S kM_65 (tM_isLetter l z none x) hw hA arNone ⟨Nat.le_of_ble_eq_true rfl, Nat.le_of_ble_eq_true rfl⟩ rfl rfl ⟨Nat.zero_le _, Nat.zero_le _⟩ rfl hl.1 (Nat.le_of_ble_eq_true rfl) dM_isNamed_1 (fun r H locs hq hw => ?_)
  rcases bI hq with ⟨hB1, rfl⟩ | ⟨hB1, rfl⟩
  · skip
    refine lv_if_ne (tgt := 26) hx hb dM_isNamed_4 (by decide) (fun c4 => ?_) (fun c4 => absurd c4 (by decide))
    refine lv_iconst (v := 1) hx hb dM_isNamed_26 (by decide) ?_
    refine lv_goto (tgt := 31) hx hb dM_isNamed_27 (by decide) ?_
    exact MS.iret S hr hlk hw dM_isNamed_31 (by first | rfl | decide) ⟨_, rfl, by simp [iNam, hB1]⟩
  · skip
    refine lv_if_ne (tgt := 26) hx hb dM_isNamed_4 (by decide) (fun c4 => absurd c4 (by decide)) (fun c4 => ?_)
    refine lv_iload_n hx hb dM_isNamed_7 rfl (lv_at hl 0 rfl) ?_
    refine kcSS (rest := []) S kM_68 (tM_isDigit l z none x) hw hA arNone ⟨Nat.le_of_ble_eq_true rfl, Nat.le_of_ble_eq_true rfl⟩ rfl rfl ⟨Nat.zero_le _, Nat.zero_le _⟩ rfl hl.1 (Nat.le_of_ble_eq_true rfl) dM_isNamed_8 (fun r H locs hq hw => ?_)
    rcases bI hq with ⟨hB2, rfl⟩ | ⟨hB2, rfl⟩
    · skip
      refine lv_if_ne (tgt := 26) hx hb dM_isNamed_11 (by decide) (fun c11 => ?_) (fun c11 => absurd c11 (by decide))
      refine lv_iconst (v := 1) hx hb dM_isNamed_26 (by decide) ?_
      refine lv_goto (tgt := 31) hx hb dM_isNamed_27 (by decide) ?_
      exact MS.iret S hr hlk hw dM_isNamed_31 (by first | rfl | decide) ⟨_, rfl, by simp [iNam, hB1, hB2]⟩
    · skip
      refine lv_if_ne (tgt := 26) hx hb dM_isNamed_11 (by decide) (fun c11 => absurd c11 (by decide)) (fun c11 => ?_)
      refine lv_iload_n hx hb dM_isNamed_14 rfl (lv_at hl 0 rfl) ?_
      refine lv_bipush (v := 46) hx hb dM_isNamed_15 (by decide) ?_
      refine lv_icmp_eq (tgt := 26) hx hb dM_isNamed_17 (by decide) (fun c17 => ?_) (fun c17 => ?_)
      · skip
        refine lv_iconst (v := 1) hx hb dM_isNamed_26 (by decide) ?_
        refine lv_goto (tgt := 31) hx hb dM_isNamed_27 (by decide) ?_
        exact MS.iret S hr hlk hw dM_isNamed_31 (by first | rfl | decide) ⟨_, rfl, by simp [iNam, hB1, hB2, c17]⟩
      · skip
        refine lv_iload_n hx hb dM_isNamed_20 rfl (lv_at hl 0 rfl) ?_
        refine lv_bipush (v := 95) hx hb dM_isNamed_21 (by decide) ?_
        refine lv_icmp_ne (tgt := 30) hx hb dM_isNamed_23 (by decide) (fun c23 => ?_) (fun c23 => ?_)
        · skip
          refine lv_iconst (v := 0) hx hb dM_isNamed_30 (by decide) ?_
          exact MS.iret S hr hlk hw dM_isNamed_31 (by first | rfl | decide) ⟨_, rfl, by simp [iNam, hB1, hB2, c17, c23]⟩
        · skip
          refine lv_iconst (v := 1) hx hb dM_isNamed_26 (by decide) ?_
          refine lv_goto (tgt := 31) hx hb dM_isNamed_27 (by decide) ?_
          exact MS.iret S hr hlk hw dM_isNamed_31 (by first | rfl | decide) ⟨_, rfl, by simp [iNam, hB1, hB2, c17, c23]⟩
set_option maxHeartbeats 4000000 in
set_option maxRecDepth 100000 in
theorem tX_digitOf (l : Launch) (z : kz_Z) (o : kz_O) (x : Int32) : MS l yX_digitOf cX_digitOf 1 (some .int) ({ frames := 1, cells := 0, slots := 0, locals := 20 }) [.int x] z o (fun v => ∃ r, v = some (.int r) ∧ r = dgX x) := by
  refine MS.mk (by decide) (Nat.le_of_ble_eq_true rfl) ?_
  intro pg en s m below meth c ls S hr hlk hw hl
  have hA : ∀ q, s.heap.size ≤ q → (fun x => s.heap.size ≤ x) q := fun _ h => h
  have hx := S.1
  have hb := S.2.1
  have hl : lv_has ls 1 [(0, .int x)] := hl
  refine lv_iload_n hx hb dX_digitOf_0 rfl (lv_at hl 0 rfl) ?_
  refine kcSS (rest := []) S kX_109 (tX_isDecimalDigit l z none x) hw hA arNone ⟨Nat.le_of_ble_eq_true rfl, Nat.le_of_ble_eq_true rfl⟩ rfl rfl ⟨Nat.zero_le _, Nat.zero_le _⟩ rfl hl.1 (Nat.le_of_ble_eq_true rfl) dX_digitOf_1 (fun r H locs hq hw => ?_)
  rcases bI hq with ⟨hB1, rfl⟩ | ⟨hB1, rfl⟩
  · skip
    refine lv_if_eq (tgt := 12) hx hb dX_digitOf_4 (by decide) (fun c4 => absurd c4 (by decide)) (fun c4 => ?_)
    refine lv_iload_n hx hb dX_digitOf_7 rfl (lv_at hl 0 rfl) ?_
    refine lv_bipush (v := 48) hx hb dX_digitOf_8 (by decide) ?_
    refine lv_isub hx hb dX_digitOf_10 ?_
    exact MS.iret S hr hlk hw dX_digitOf_11 rfl ⟨_, rfl, by simp [dgX, hB1]⟩
  · skip
    refine lv_if_eq (tgt := 12) hx hb dX_digitOf_4 (by decide) (fun c4 => ?_) (fun c4 => absurd c4 (by decide))
    refine lv_iload_n hx hb dX_digitOf_12 rfl (lv_at hl 0 rfl) ?_
    refine lv_bipush (v := 65) hx hb dX_digitOf_13 (by decide) ?_
    refine lv_icmp_lt (tgt := 34) hx hb dX_digitOf_15 (by decide) (fun c15 => ?_) (fun c15 => ?_)
    · skip
      refine lv_iconst (v := (-1)) hx hb dX_digitOf_34 (by decide) ?_
      exact MS.iret S hr hlk hw dX_digitOf_35 rfl ⟨_, rfl, by simp [dgX, hB1, c15]⟩
    · skip
      refine lv_iload_n hx hb dX_digitOf_18 rfl (lv_at hl 0 rfl) ?_
      refine lv_bipush (v := 70) hx hb dX_digitOf_19 (by decide) ?_
      refine lv_icmp_gt (tgt := 34) hx hb dX_digitOf_21 (by decide) (fun c21 => ?_) (fun c21 => ?_)
      · skip
        refine lv_iconst (v := (-1)) hx hb dX_digitOf_34 (by decide) ?_
        exact MS.iret S hr hlk hw dX_digitOf_35 rfl ⟨_, rfl, by simp [dgX, hB1, c15, c21]⟩
      · skip
        refine lv_iload_n hx hb dX_digitOf_24 rfl (lv_at hl 0 rfl) ?_
        refine lv_bipush (v := 65) hx hb dX_digitOf_25 (by decide) ?_
        refine lv_isub hx hb dX_digitOf_27 ?_
        refine lv_bipush (v := 10) hx hb dX_digitOf_28 (by decide) ?_
        refine lv_iadd hx hb dX_digitOf_30 ?_
        refine lv_goto (tgt := 35) hx hb dX_digitOf_31 (by decide) ?_
        exact MS.iret S hr hlk hw dX_digitOf_35 rfl ⟨_, rfl, by simp [dgX, hB1, c15, c21]⟩
set_option maxHeartbeats 4000000 in
set_option maxRecDepth 100000 in
theorem tM_digit (l : Launch) (z : kz_Z) (o : kz_O) (x : Int32) : MS l yM_digit cM_digit 1 (some .int) ({ frames := 1, cells := 0, slots := 0, locals := 20 }) [.int x] z o (fun v => ∃ r, v = some (.int r) ∧ r = dgM x) := by
  refine MS.mk (by decide) (Nat.le_of_ble_eq_true rfl) ?_
  intro pg en s m below meth c ls S hr hlk hw hl
  have hA : ∀ q, s.heap.size ≤ q → (fun x => s.heap.size ≤ x) q := fun _ h => h
  have hx := S.1
  have hb := S.2.1
  have hl : lv_has ls 1 [(0, .int x)] := hl
  refine lv_iload_n hx hb dM_digit_0 rfl (lv_at hl 0 rfl) ?_
  refine kcSS (rest := []) S kM_68 (tM_isDigit l z none x) hw hA arNone ⟨Nat.le_of_ble_eq_true rfl, Nat.le_of_ble_eq_true rfl⟩ rfl rfl ⟨Nat.zero_le _, Nat.zero_le _⟩ rfl hl.1 (Nat.le_of_ble_eq_true rfl) dM_digit_1 (fun r H locs hq hw => ?_)
  rcases bI hq with ⟨hB1, rfl⟩ | ⟨hB1, rfl⟩
  · skip
    refine lv_if_eq (tgt := 14) hx hb dM_digit_4 (by decide) (fun c4 => absurd c4 (by decide)) (fun c4 => ?_)
    refine lv_iload_n hx hb dM_digit_7 rfl (lv_at hl 0 rfl) ?_
    refine lv_bipush (v := 48) hx hb dM_digit_8 (by decide) ?_
    refine lv_isub hx hb dM_digit_10 ?_
    refine lv_goto (tgt := 38) hx hb dM_digit_11 (by decide) ?_
    exact MS.iret S hr hlk hw dM_digit_38 rfl ⟨_, rfl, by simp [dgM, hB1]⟩
  · skip
    refine lv_if_eq (tgt := 14) hx hb dM_digit_4 (by decide) (fun c4 => ?_) (fun c4 => absurd c4 (by decide))
    refine lv_iload_n hx hb dM_digit_14 rfl (lv_at hl 0 rfl) ?_
    refine lv_bipush (v := 65) hx hb dM_digit_15 (by decide) ?_
    refine lv_icmp_lt (tgt := 36) hx hb dM_digit_17 (by decide) (fun c17 => ?_) (fun c17 => ?_)
    · skip
      refine lv_bipush (v := 99) hx hb dM_digit_36 (by decide) ?_
      exact MS.iret S hr hlk hw dM_digit_38 rfl ⟨_, rfl, by simp [dgM, hB1, c17]⟩
    · skip
      refine lv_iload_n hx hb dM_digit_20 rfl (lv_at hl 0 rfl) ?_
      refine lv_bipush (v := 70) hx hb dM_digit_21 (by decide) ?_
      refine lv_icmp_gt (tgt := 36) hx hb dM_digit_23 (by decide) (fun c23 => ?_) (fun c23 => ?_)
      · skip
        refine lv_bipush (v := 99) hx hb dM_digit_36 (by decide) ?_
        exact MS.iret S hr hlk hw dM_digit_38 rfl ⟨_, rfl, by simp [dgM, hB1, c17, c23]⟩
      · skip
        refine lv_iload_n hx hb dM_digit_26 rfl (lv_at hl 0 rfl) ?_
        refine lv_bipush (v := 65) hx hb dM_digit_27 (by decide) ?_
        refine lv_isub hx hb dM_digit_29 ?_
        refine lv_bipush (v := 10) hx hb dM_digit_30 (by decide) ?_
        refine lv_iadd hx hb dM_digit_32 ?_
        refine lv_goto (tgt := 38) hx hb dM_digit_33 (by decide) ?_
        exact MS.iret S hr hlk hw dM_digit_38 rfl ⟨_, rfl, by simp [dgM, hB1, c17, c23]⟩
theorem star_cases (x : Int32) : x = 34 ∨ x = 39 ∨ x = 42 ∨ x = 78 ∨ x = 83 ∨ x = 84 ∨ (Op.lookupswitch.offset [(34, 68), (39, 68), (42, 68), (78, 59), (83, 62), (84, 65)] 70 x.toInt = 70 ∧ starB x = -1) := by
  have q : ∀ n : Int32, x.toInt = n.toInt → x = n := fun n h => Int32.toInt_inj.mp h
  by_cases h1 : x = 34
  · exact Or.inl h1
  by_cases h2 : x = 39
  · exact Or.inr (Or.inl h2)
  by_cases h3 : x = 42
  · exact Or.inr (Or.inr (Or.inl h3))
  by_cases h4 : x = 78
  · exact Or.inr (Or.inr (Or.inr (Or.inl h4)))
  by_cases h5 : x = 83
  · exact Or.inr (Or.inr (Or.inr (Or.inr (Or.inl h5))))
  by_cases h6 : x = 84
  · exact Or.inr (Or.inr (Or.inr (Or.inr (Or.inr (Or.inl h6)))))
  refine Or.inr (Or.inr (Or.inr (Or.inr (Or.inr (Or.inr ⟨?_, by simp [starB, h1, h2, h3, h4, h5, h6]⟩)))))
  have g1 : ¬ x.toInt = 34 := fun h => h1 (q 34 h)
  have g2 : ¬ x.toInt = 39 := fun h => h2 (q 39 h)
  have g3 : ¬ x.toInt = 42 := fun h => h3 (q 42 h)
  have g4 : ¬ x.toInt = 78 := fun h => h4 (q 78 h)
  have g5 : ¬ x.toInt = 83 := fun h => h5 (q 83 h)
  have g6 : ¬ x.toInt = 84 := fun h => h6 (q 84 h)
  simp [Op.lookupswitch.offset, g1, g2, g3, g4, g5, g6]
  try omega
set_option maxHeartbeats 4000000 in
set_option maxRecDepth 100000 in
theorem tX_meaningBehindStar (l : Launch) (z : kz_Z) (o : kz_O) (x : Int32) : MS l yX_meaningBehindStar cX_meaningBehindStar 1 (some .int) ({ frames := 0, cells := 0, slots := 0, locals := 0 }) [.int x] z o (fun v => ∃ r, v = some (.int r) ∧ r = starB x) := by
  refine MS.mk (by decide) (Nat.le_of_ble_eq_true rfl) ?_
  intro pg en s m below meth c ls S hr hlk hw hl
  have hA : ∀ q, s.heap.size ≤ q → (fun x => s.heap.size ≤ x) q := fun _ h => h
  have hx := S.1
  have hb := S.2.1
  have hl : lv_has ls 1 [(0, .int x)] := hl
  refine lv_iload_n hx hb dX_meaningBehindStar_0 rfl (lv_at hl 0 rfl) ?_
  rcases star_cases x with rfl | rfl | rfl | rfl | rfl | rfl | ⟨hs1, hs2⟩
  · skip
    refine lv_lookup (off := 68) (tgt := 69) hx hb dX_meaningBehindStar_1 (by decide) (by decide) (by decide) ?_
    refine lv_iload_n hx hb dX_meaningBehindStar_69 rfl (lv_at hl 0 rfl) ?_
    exact MS.iret S hr hlk hw dX_meaningBehindStar_70 rfl ⟨_, rfl, by simp [starB]⟩
  · skip
    refine lv_lookup (off := 68) (tgt := 69) hx hb dX_meaningBehindStar_1 (by decide) (by decide) (by decide) ?_
    refine lv_iload_n hx hb dX_meaningBehindStar_69 rfl (lv_at hl 0 rfl) ?_
    exact MS.iret S hr hlk hw dX_meaningBehindStar_70 rfl ⟨_, rfl, by simp [starB]⟩
  · skip
    refine lv_lookup (off := 68) (tgt := 69) hx hb dX_meaningBehindStar_1 (by decide) (by decide) (by decide) ?_
    refine lv_iload_n hx hb dX_meaningBehindStar_69 rfl (lv_at hl 0 rfl) ?_
    exact MS.iret S hr hlk hw dX_meaningBehindStar_70 rfl ⟨_, rfl, by simp [starB]⟩
  · skip
    refine lv_lookup (off := 59) (tgt := 60) hx hb dX_meaningBehindStar_1 (by decide) (by decide) (by decide) ?_
    refine lv_bipush (v := 10) hx hb dX_meaningBehindStar_60 (by decide) ?_
    exact MS.iret S hr hlk hw dX_meaningBehindStar_62 rfl ⟨_, rfl, by simp [starB]⟩
  · skip
    refine lv_lookup (off := 62) (tgt := 63) hx hb dX_meaningBehindStar_1 (by decide) (by decide) (by decide) ?_
    refine lv_bipush (v := 32) hx hb dX_meaningBehindStar_63 (by decide) ?_
    exact MS.iret S hr hlk hw dX_meaningBehindStar_65 rfl ⟨_, rfl, by simp [starB]⟩
  · skip
    refine lv_lookup (off := 65) (tgt := 66) hx hb dX_meaningBehindStar_1 (by decide) (by decide) (by decide) ?_
    refine lv_bipush (v := 9) hx hb dX_meaningBehindStar_66 (by decide) ?_
    exact MS.iret S hr hlk hw dX_meaningBehindStar_68 rfl ⟨_, rfl, by simp [starB]⟩
  · skip
    refine lv_lookup (off := 70) (tgt := 71) hx hb dX_meaningBehindStar_1 (by decide) hs1 (by decide) ?_
    refine lv_iconst (v := (-1)) hx hb dX_meaningBehindStar_71 (by decide) ?_
    exact MS.iret S hr hlk hw dX_meaningBehindStar_72 rfl ⟨_, rfl, hs2.symm⟩
set_option maxHeartbeats 4000000 in
set_option maxRecDepth 100000 in
theorem tX_elementAt (l : Launch) (z : kz_Z) (q N : Nat) (f : Nat → Int32) (hN : N < 2 ^ 31) (i : Int32) : MS l yX_elementAt cX_elementAt 2 (some .int) ({ frames := 0, cells := 0, slots := 0, locals := 0 }) [.ref q, .int i] z (some (q, N, f)) (fun v => ∃ r, v = some (.int r) ∧ r = elA f N i) := by
  refine MS.mk (by decide) (Nat.le_of_ble_eq_true rfl) ?_
  intro pg en s m below meth c ls S hr hlk hw hl
  have hA : ∀ q, s.heap.size ≤ q → (fun x => s.heap.size ≤ x) q := fun _ h => h
  have hx := S.1
  have hb := S.2.1
  have hl : lv_has ls 2 [(0, .ref q), (1, .int i)] := hl
  refine lv_iload_n hx hb dX_elementAt_0 rfl (lv_at hl 1 rfl) ?_
  refine lv_if_lt (tgt := 16) hx hb dX_elementAt_1 (by decide) (fun c1 => ?_) (fun c1 => ?_)
  · skip
    refine lv_iconst (v := (-1)) hx hb dX_elementAt_16 (by decide) ?_
    exact MS.iret S hr hlk hw dX_elementAt_17 rfl ⟨_, rfl, by simp [elA, c1]⟩
  · skip
    refine lv_iload_n hx hb dX_elementAt_4 rfl (lv_at hl 1 rfl) ?_
    refine lv_aload_n hx hb dX_elementAt_5 rfl (lv_at hl 0 rfl) ?_
    refine va_tlen hx hb (hw.2.2.2 _ _ _ rfl) hw.1 (v := nI N) rfl dX_elementAt_6 ?_
    refine lv_icmp_ge (tgt := 16) hx hb dX_elementAt_7 (by decide) (fun c7 => ?_) (fun c7 => ?_)
    · skip
      refine lv_iconst (v := (-1)) hx hb dX_elementAt_16 (by decide) ?_
      exact MS.iret S hr hlk hw dX_elementAt_17 rfl ⟨_, rfl, by simp [elA, c1, c7]⟩
    · skip
      refine lv_aload_n hx hb dX_elementAt_10 rfl (lv_at hl 0 rfl) ?_
      refine lv_iload_n hx hb dX_elementAt_11 rfl (lv_at hl 1 rfl) ?_
      refine va_ti hx hb (hw.2.2.2 _ _ _ rfl) hw.1 (vin_of c1 c7 hN) (v := .int (f (i).toNatClampNeg)) rfl dX_elementAt_12 ?_
      refine lv_goto (tgt := 17) hx hb dX_elementAt_13 (by decide) ?_
      exact MS.iret S hr hlk hw dX_elementAt_17 rfl ⟨_, rfl, by simp [elA, c1, c7]⟩
