/-! THE CLAIM OUT OF ONE WALK OF THE LAW'S BODY. Your part is whole_start (and what it stands on); all else here is the same for every law, but numbers. -/
def R_law : String := "TokenRowLaw"
def lw_P (b : Addr) (xs : List Int32) (args : Array Value) (s : State) : Prop := args = #[.ref b] ∧ s.IntsAt b xs ∧ xs.length ≤ 3072 ∧ (Jvm.Cond.and given_1 narrow_1).before args s = true
def lw_Q (_ : Array Value) (s : State) (o : Outcome) (t : State) : Prop := o = .returned (some (.int 1)) ∧ Framed s o t [] 18 23740
def lw_Z (below : List Frame) (a : Array Value) (s : State) : State → Prop := fun t => ∃ o, t.status = .running ∧ Ended t below o ∧ lw_Q a s o t
/-- the law's own end, with 1 on the stack, nothing written that was there before, its room as the claim has it -/
theorem lw_ret {p : Program} {l : Launch} {e : Env} {s : State} {m : MethodId} {below : List Frame} {meth : Method} {c : Code} {b : Nat} (hx : p.tables.exec = Jvm.exec) (hb : c.code = code) (hr : meth.sig.returnType = ret) (hlocks : meth.locks = false) {pc : Nat} {H : Heap} {ls : Array Slot} (hdg : decode code pc = .ok (.ireturn, 1)) : W p l e room_1 s m #[Value.ref b] below meth c H [] 18 23740 (lw_Z below #[Value.ref b] s) (F0 m pc ls [.int 1]) := by
  intro T hT X
  obtain ⟨fs, hret, hrun, hended, hW, hframe⟩ := X.leave (v := some (.int 1)) (hlocks := hlocks) (fun h => by rw [hr] at h; cases h)
  have hmeth' : T.vm.method? m = some meth := X.method'
  refine ⟨T.setFrames fs, ?_, .returned (some (.int 1)), hrun, hended, rfl, ⟨_, rfl⟩, hW, hframe⟩
  jvm_step X.here [X.here.top, hx, hb, hdg, hmeth', hr, ret, narrow_b1]
  (try refine ⟨rfl, ?_⟩); (try refine ⟨rfl, ?_⟩)
  first | (intro acts; rw [hret _ acts rfl rfl rfl]) | rw [hret _ _ rfl rfl rfl]
  exact Steps.refl _
/-- what holds at the law's entry: the machine, the code, the tables' words (any of lw_tbl by 'hts w (by decide +kernel)'), the script of L ints xs at the cell b, what the Statement gives of the start (any of its parts by flat_of_before) -/
def lw_At (p : Program) (s : State) (m : MethodId) (meth : Method) (c : Code) (b L : Nat) (xs : Nat → Int32) : Prop :=
  p.tables.exec = Jvm.exec ∧ c.code = code ∧ meth.sig.returnType = ret ∧ c.maxLocals = 4 ∧ s.vm.findClass R_law = some m.cls ∧ (∀ w ∈ lw_tbl, w.before #[Value.ref b] s = true) ∧ va_X b L xs s s.heap ∧ b < s.heap.size ∧ meth.locks = false ∧ (Jvm.Cond.and given_1 narrow_1).before #[Value.ref b] s = true
/-! ===== calls out of the law: the other object stays ===== -/
theorem kz_dis {A : Nat → Prop} {w1 w2 : va_W} (h : va_D A (w1 ++ w2)) : ∀ q ∈ w1.map Prod.fst, q ∉ w2.map Prod.fst := by
  intro q h1 h2
  obtain ⟨i, hi⟩ := List.getElem?_of_mem h1
  obtain ⟨j, hj⟩ := List.getElem?_of_mem h2
  rw [List.getElem?_map] at hi hj
  cases hx : w1[i]? with
  | none => rw [hx] at hi; cases hi
  | some x =>
    cases hy : w2[j]? with
    | none => rw [hy] at hj; cases hj
    | some y =>
      rw [hx] at hi; rw [hy] at hj
      have hil := (List.getElem?_eq_some_iff.mp hx).1
      have e := h.1 i (w1.length + j) x y (by rw [List.getElem?_append_left hil]; exact hx) (by rw [List.getElem?_append_right (by omega), Nat.add_sub_cancel_left]; exact hy) ((Option.some.inj hi).trans (Option.some.inj hj).symm)
      omega
section KL
variable {p : Program} {l : Launch} {e : Env} {R : Room} {s : State} {m : MethodId} {args : Array Value} {below : List Frame} {meth : Method} {c : Code} {H : Heap} {locs : List Loc} {cells slots : Nat} {Q : State → Prop}
variable {cc : ByteArray} {pc nL : Nat} {ls : Array Slot} {rest : List Value} {D : va_G} {cA : ClassId} {A : Nat → Prop} {z : kz_Z} {w0 : Cond} {own : String}
variable {h h2 : Nat} {a a2 : Nat → Nat} {cA2 : ClassId} {I I2 : Nat → Int32} {F F2 : Nat → Nat → Int32}
theorem kcXL {ix n k : Nat} {y : MethodName} {cy : ByteArray} {ret : Option FieldType} {rm : Room} {As : List Value} {posti : Int32 → (Nat → Int32) → (Nat → Nat → Int32) → Prop} (S : CallFix p m c cc nL s args (w0 :: TT) own) (hk : lkV own ix y cy n ret k) (hyc : y.cls = RX) (hM : MX l y cy n ret rm As I F (iR posti)) (hw : sX z D cA h a A s H locs I F) (hm : sM z D cA2 h2 a2 A s H locs I2 F2) (hd : ∀ x ∈ adM h2 a2, x ∉ adX h a) (hA : ∀ q, s.heap.size ≤ q → A q)
    (hR : rm.frames + 1 ≤ R.frames ∧ 8 + (n + 11) + rm.locals ≤ R.locals) (hrc : rm.cells = 0) (hrs : rm.slots = 0) (hf : cells ≤ R.cells ∧ slots ≤ R.slots) (hn : As.length = k) (hls : ls.size = nL) (hW : (rest.map fun v => v.category).sum ≤ 8) (hdg : decode cc pc = .ok (.invokevirtual ix, 3))
    (kk : ∀ (r : Int32) (I' : Nat → Int32) (F' : Nat → Nat → Int32) (H1 : Heap) (locs1 : List Loc), posti r I' F' → sX z D cA h a A s H1 locs1 I' F' → sM z D cA2 h2 a2 A s H1 locs1 I2 F2 → W p l e R s m args below meth c H1 locs1 cells slots Q (F0 m (pc + 3) ls (.int r :: rest))) : W p l e R s m args below meth c H locs cells slots Q (F0 m pc ls (As.reverse ++ .ref h :: rest)) := by
  obtain ⟨w1, w2, w3, w4, w5, w6⟩ := hw
  have hsub := AX.sub w3 w4 hA
  refine kz_call (va_runV (As := As) (rest := rest) (b := h) S (hM z D cA h a H.size) (kz_cwV S hk hrc hrs hR) ⟨?_, by rw [hyc]; exact va_recv w1 w2 (ci := 0) (q0 := 0) rfl rfl, fun U hU hW => ⟨rfl, by rw [hU], va_K.moved hW.alike w1, by rw [hU]; exact w2, DX.any w3 (fun q hq => Or.inl hq), ?_, w6.warm hW⟩⟩ rfl hn hls rfl (lv_room hW) hdg hf) w4 hsub (fun v st t H1 locs1 h0 h1 hq hL => ?_)
  · intro a1 U g mk q
    obtain ⟨q0, q1, q2, q3, q4, q5, q6⟩ := q
    exact ⟨q0, q1, va_K.moved (Vm.Alike.refl U.vm) q2, q3, q4, q5.moved (Vm.Alike.refl U.vm), q6.same rfl⟩
  · rw [hU]
    exact ((w5.kept w4.2.1).narrow hsub).moved hW.alike
  · obtain ⟨⟨v', I', F', hv, hp, hP⟩, hz, hkp⟩ := hq
    cases hv
    obtain ⟨r, rfl, hp⟩ := hp
    rw [h0] at hz hkp
    rw [h1] at hz hkp hP
    have hS1 : va_S A s.heap H1 locs1 := ⟨Nat.le_trans w4.1 hz, fun q g1 g2 => (hkp q (Nat.lt_of_lt_of_le g1 w4.1) (fun x => g2 (hsub q x))).trans (w4.2.1 q g1 g2), hL⟩
    refine kk r I' F' H1 locs1 hp ⟨w1, hP, DX.keep w3, hS1, w5, w6⟩ ⟨hm.1, hm.2.1.kept (fun k x hx => hkp x.1 (hm.2.1 k x hx).lt (fun g => ?_)), hm.2.2.1, hS1, hm.2.2.2.2⟩
    rcases g with g | g
    · exact hd x.1 (List.mem_map.mpr ⟨x, List.mem_of_getElem? hx, rfl⟩) g
    · exact absurd (hm.2.1 k x hx).lt (Nat.not_lt.mpr g)
theorem kcML {ix n k : Nat} {y : MethodName} {cy : ByteArray} {ret : Option FieldType} {rm : Room} {As : List Value} {posti : Int32 → (Nat → Int32) → (Nat → Nat → Int32) → Prop} (S : CallFix p m c cc nL s args (w0 :: TT) own) (hk : lkV own ix y cy n ret k) (hyc : y.cls = RM) (hM : MM l y cy n ret rm As I F (iR posti)) (hw : sM z D cA h a A s H locs I F) (hm : sX z D cA2 h2 a2 A s H locs I2 F2) (hd : ∀ x ∈ adX h2 a2, x ∉ adM h a) (hA : ∀ q, s.heap.size ≤ q → A q)
    (hR : rm.frames + 1 ≤ R.frames ∧ 8 + (n + 11) + rm.locals ≤ R.locals) (hrc : rm.cells = 0) (hrs : rm.slots = 0) (hf : cells ≤ R.cells ∧ slots ≤ R.slots) (hn : As.length = k) (hls : ls.size = nL) (hW : (rest.map fun v => v.category).sum ≤ 8) (hdg : decode cc pc = .ok (.invokevirtual ix, 3))
    (kk : ∀ (r : Int32) (I' : Nat → Int32) (F' : Nat → Nat → Int32) (H1 : Heap) (locs1 : List Loc), posti r I' F' → sM z D cA h a A s H1 locs1 I' F' → sX z D cA2 h2 a2 A s H1 locs1 I2 F2 → W p l e R s m args below meth c H1 locs1 cells slots Q (F0 m (pc + 3) ls (.int r :: rest))) : W p l e R s m args below meth c H locs cells slots Q (F0 m pc ls (As.reverse ++ .ref h :: rest)) := by
  obtain ⟨w1, w2, w3, w4, w5, w6⟩ := hw
  have hsub := AM.sub w3 w4 hA
  refine kz_call (va_runV (As := As) (rest := rest) (b := h) S (hM z D cA h a H.size) (kz_cwV S hk hrc hrs hR) ⟨?_, by rw [hyc]; exact va_recv w1 w2 (ci := 1) (q0 := 0) rfl rfl, fun U hU hW => ⟨rfl, by rw [hU], va_K.moved hW.alike w1, by rw [hU]; exact w2, DM.any w3 (fun q hq => Or.inl hq), ?_, w6.warm hW⟩⟩ rfl hn hls rfl (lv_room hW) hdg hf) w4 hsub (fun v st t H1 locs1 h0 h1 hq hL => ?_)
  · intro a1 U g mk q
    obtain ⟨q0, q1, q2, q3, q4, q5, q6⟩ := q
    exact ⟨q0, q1, va_K.moved (Vm.Alike.refl U.vm) q2, q3, q4, q5.moved (Vm.Alike.refl U.vm), q6.same rfl⟩
  · rw [hU]
    exact ((w5.kept w4.2.1).narrow hsub).moved hW.alike
  · obtain ⟨⟨v', I', F', hv, hp, hP⟩, hz, hkp⟩ := hq
    cases hv
    obtain ⟨r, rfl, hp⟩ := hp
    rw [h0] at hz hkp
    rw [h1] at hz hkp hP
    have hS1 : va_S A s.heap H1 locs1 := ⟨Nat.le_trans w4.1 hz, fun q g1 g2 => (hkp q (Nat.lt_of_lt_of_le g1 w4.1) (fun x => g2 (hsub q x))).trans (w4.2.1 q g1 g2), hL⟩
    refine kk r I' F' H1 locs1 hp ⟨w1, hP, DM.keep w3, hS1, w5, w6⟩ ⟨hm.1, hm.2.1.kept (fun k x hx => hkp x.1 (hm.2.1 k x hx).lt (fun g => ?_)), hm.2.2.1, hS1, hm.2.2.2.2⟩
    rcases g with g | g
    · exact hd x.1 (List.mem_map.mpr ⟨x, List.mem_of_getElem? hx, rfl⟩) g
    · exact absurd (hm.2.1 k x hx).lt (Nat.not_lt.mpr g)
end KL
theorem tokF_ok (T : Nat → Int32) (n : Nat) : ∀ (m p L : Nat) (ts : List kz_T), allOK ts → allOK (tokF T n m p L ts) := by
  intro m
  induction m with
  | zero => intro p L ts h; exact h
  | succ m ih =>
    intro p L ts h
    have h1 : ∀ t : kz_T, tokOK t.1 t.2.2.2.2 → allOK (ts ++ [t]) := fun t ht u hu => by
      rcases List.mem_append.mp hu with hu | hu
      · exact h u hu
      · rw [List.mem_singleton.mp hu]; exact ht
    rw [tokF]
    split
    · rename_i hp
      split
      · exact h1 _ ⟨fun q => absurd (show (6 : Int32) = 3 from q) (by decide), fun q => absurd (show (6 : Int32) = 4 from q) (by decide)⟩
      · rename_i h6
        exact ih _ _ _ (addT_ok h (scT_ok (T := T) hp h6).2.2.2.1)
    · exact h1 _ ⟨fun q => absurd (show (5 : Int32) = 3 from q) (by decide), fun q => absurd (show (5 : Int32) = 4 from q) (by decide)⟩
theorem allT_ok (T : Nat → Int32) (n : Nat) : allOK (allT T n) := tokF_ok T n _ _ _ _ (fun t ht => by cases ht)
theorem law_in {i L : Nat} (hL : L ≤ 3072) (hi : i ≤ 4000) (h : ¬ (Int32.ofNat L - 6 < nI i)) : i + 6 ≤ L := by
  have e1 : (nI L - nI 6).toInt = (L : Int) - 6 := pk_sub_toInt (by omega) (by decide)
  have h2 : ¬ ((nI L - nI 6).toInt < (nI i).toInt) := fun q => h (Int32.lt_iff_toInt_lt.mpr q)
  rw [e1, nI_toInt (by omega)] at h2
  omega
