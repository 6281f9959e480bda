/-! contracts of methods that are handed a constant text: z is named -/
def MMz (z : kz_Z) (l : Launch) (y : MethodName) (cy : ByteArray) (n : Nat) (ret : Option FieldType) (rm : Room) (As : List Value) (I : Nat → Int32) (F : Nat → Nat → Int32) (post : Option Value → (Nat → Int32) → (Nat → Nat → Int32) → Prop) : Prop :=
  ∀ (D : va_G) (cA : ClassId) (h : Nat) (a : Nat → Nat) (sz : Nat), Met l y (Cond.code y cy n ret :: TT) rm (va_Pc (.ref h :: As) (preM z D cA h a sz I F)) (QM z D cA h a sz post) 0 0 (AM h a sz)
theorem MMz.mk {z : kz_Z} {l : Launch} {y : MethodName} {cy : ByteArray} {n : Nat} {ret : Option FieldType} {rm : Room} {As : List Value} {I : Nat → Int32} {F : Nat → Nat → Int32} {post : Option Value → (Nat → Int32) → (Nat → Nat → Int32) → Prop} (hy : plainName y.cls = true) (hn : ∀ h : Nat, (lg_sl (.ref h :: As)).length ≤ n)
    (body : ∀ (D : va_G) (cA : ClassId) (h : Nat) (a : Nat → Nat) (p : Program) (e : Env) (s : State) (m : MethodId) (below : List Frame) (meth : Method) (c : Code) (ls : Array Slot), CallFix p m c cy n s (Value.ref h :: As).toArray (Cond.code y cy n ret :: TT) y.cls → meth.sig.returnType = ret → meth.locks = false → (∀ q, s.heap.size ≤ q → AM h a s.heap.size q) → sM z D cA h a (AM h a s.heap.size) s s.heap [] I F → lv_has ls n (lv_args 0 (.ref h :: As)) →
      W p l e rm s m (Value.ref h :: As).toArray below meth c s.heap [] 0 0 (MQ below (QM z D cA h a s.heap.size post) (Value.ref h :: As).toArray s 0 0 (AM h a s.heap.size)) (F0 m 0 ls [])) : MMz z l y cy n ret rm As I F post := by
  intro D cA h a sz
  refine Met.ofW (cc := cy) (maxL := n) (ret := ret) hy rfl ?_
  intro p e s m args below meth c s₁ B hml hv
  obtain ⟨rfl, hsz, h1, h2, h3, h4, h5⟩ := hv
  subst hsz
  rw [lg_entry_eq]
  exact body D cA h a p e s m below meth c _ ⟨B.exec, B.bytes, hml, findClass_of_methodNamed B.named, atoms_spec (ws := Cond.code y cy n ret :: TT) B.pre⟩ B.returns B.notSynchronized (fun q hq => Or.inr hq) ⟨h1, h2, h3, va_S.rf, h4, h5⟩ (lv_entry _ (hn h))
section KMz
variable {p : Program} {l : Launch} {e : Env} {R : Room} {s : State} {m : MethodId} {args : Array Value} {below : List Frame} {meth : Method} {c : Code} {H : Heap} {locs : List Loc} {cells slots : Nat} {Q : State → Prop}
variable {cc : ByteArray} {pc nL : Nat} {ls : Array Slot} {rest : List Value} {D : va_G} {cA : ClassId} {A : Nat → Prop} {z : kz_Z} {w0 : Cond} {own : String}
variable {h : Nat} {a : Nat → Nat} {I : Nat → Int32} {F : Nat → Nat → Int32} {post : Option Value → (Nat → Int32) → (Nat → Nat → Int32) → Prop}
theorem kcMz {ix n k : Nat} {y : MethodName} {cy : ByteArray} {ret : Option FieldType} {rm : Room} {As : List Value} (S : CallFix p m c cc nL s args (w0 :: TT) own) (hk : lkV own ix y cy n ret k) (hyc : y.cls = RM) (hM : MMz z l y cy n ret rm As I F post) (hw : sM z D cA h a A s H locs I F) (hA : ∀ q, s.heap.size ≤ q → A q)
    (hR : rm.frames + 1 ≤ R.frames ∧ 8 + (n + 11) + rm.locals ≤ R.locals) (hrc : rm.cells = 0) (hrs : rm.slots = 0) (hf : cells ≤ R.cells ∧ slots ≤ R.slots) (hn : As.length = k) (hls : ls.size = nL) (hW : (rest.map fun v => v.category).sum ≤ 8) (hdg : decode cc pc = .ok (.invokevirtual ix, 3))
    (kk : ∀ (v : Option Value) (I' : Nat → Int32) (F' : Nat → Nat → Int32) (H1 : Heap) (locs1 : List Loc), post v I' F' → sM z D cA h a A s H1 locs1 I' F' → W p l e R s m args below meth c H1 locs1 cells slots Q (F0 m (pc + 3) ls (v.toList ++ rest))) : W p l e R s m args below meth c H locs cells slots Q (F0 m pc ls (As.reverse ++ .ref h :: rest)) := by
  obtain ⟨w1, w2, w3, w4, w5, w6⟩ := hw
  have hsub := AM.sub w3 w4 hA
  refine kz_call (va_runV (As := As) (rest := rest) (b := h) S (hM D cA h a H.size) (kz_cwV S hk hrc hrs hR) ⟨?_, by rw [hyc]; exact va_recv w1 w2 (ci := 1) (q0 := 0) rfl rfl, fun U hU hW => ⟨rfl, by rw [hU], va_K.moved hW.alike w1, by rw [hU]; exact w2, DM.any w3 (fun q hq => Or.inl hq), ?_, w6.warm hW⟩⟩ rfl hn hls rfl (lv_room hW) hdg hf) w4 hsub (fun v st t H1 locs1 h0 h1 hq hL => ?_)
  · intro a1 U g mk q
    obtain ⟨q0, q1, q2, q3, q4, q5, q6⟩ := q
    exact ⟨q0, q1, va_K.moved (Vm.Alike.refl U.vm) q2, q3, q4, q5.moved (Vm.Alike.refl U.vm), q6.same rfl⟩
  · rw [hU]
    exact ((w5.kept w4.2.1).narrow hsub).moved hW.alike
  · obtain ⟨⟨v', I', F', hv, hp, hP⟩, hz, hkp⟩ := hq
    cases hv
    rw [h0] at hz hkp
    rw [h1] at hz hkp hP
    exact kk v I' F' H1 locs1 hp ⟨w1, hP, DM.keep w3, ⟨Nat.le_trans w4.1 hz, fun q g1 g2 => (hkp q (Nat.lt_of_lt_of_le g1 w4.1) (fun x => g2 (hsub q x))).trans (w4.2.1 q g1 g2), hL⟩, w5, w6⟩
theorem kcMzi {ix n k : Nat} {y : MethodName} {cy : ByteArray} {ret : Option FieldType} {rm : Room} {As : List Value} {posti : Int32 → (Nat → Int32) → (Nat → Nat → Int32) → Prop} (S : CallFix p m c cc nL s args (w0 :: TT) own) (hk : lkV own ix y cy n ret k) (hyc : y.cls = RM) (hM : MMz z l y cy n ret rm As I F (iR posti)) (hw : sM z D cA h a A s H locs I F) (hA : ∀ q, s.heap.size ≤ q → A q)
    (hR : rm.frames + 1 ≤ R.frames ∧ 8 + (n + 11) + rm.locals ≤ R.locals) (hrc : rm.cells = 0) (hrs : rm.slots = 0) (hf : cells ≤ R.cells ∧ slots ≤ R.slots) (hn : As.length = k) (hls : ls.size = nL) (hW : (rest.map fun v => v.category).sum ≤ 8) (hdg : decode cc pc = .ok (.invokevirtual ix, 3))
    (kk : ∀ (r : Int32) (I' : Nat → Int32) (F' : Nat → Nat → Int32) (H1 : Heap) (locs1 : List Loc), posti r I' F' → sM z D cA h a A s H1 locs1 I' F' → W p l e R s m args below meth c H1 locs1 cells slots Q (F0 m (pc + 3) ls (.int r :: rest))) : W p l e R s m args below meth c H locs cells slots Q (F0 m pc ls (As.reverse ++ .ref h :: rest)) := by
  refine kcMz S hk hyc hM hw hA hR hrc hrs hf hn hls hW hdg (fun v I' F' H1 locs1 hp hw => ?_)
  obtain ⟨r, rfl, hp⟩ := hp
  exact kk r I' F' H1 locs1 hp hw
end KMz
theorem yn.of1 {P : Prop} {r : Int32} (h : yn P r) (hr : r = 1) : P := by
  rcases h with ⟨a, _⟩ | ⟨_, b⟩
  · exact a
  · rw [hr] at b; exact absurd b (by decide)
theorem yn.if_ {P : Prop} [Decidable P] {r : Int32} (h : yn P r) : r = if P then 1 else 0 := by
  rcases h with ⟨a, b⟩ | ⟨a, b⟩
  · rw [if_pos a]; exact b
  · rw [if_neg a]; exact b
set_option maxHeartbeats 4000000 in
set_option maxRecDepth 100000 in
theorem tM_standsAt (l : Launch) (z : kz_Z) (I : Nat → Int32) (F : Nat → Nat → Int32) (k e : Nat) (t : kz_T) (ht : tokM F e k t) (hk : k < 2100) (he : e ≤ 2000) (i f : Nat) (hi : i < 12) (hf : f < 2000) : MMz z l yM_standsAt cM_standsAt 7 (some .boolean) ({ frames := 4, cells := 0, slots := 0, locals := 85 }) [.int (nI k), .ref (z.2.1 i), .int (nI f)] I F (iR (fun r I' F' => yn (stP i f t.2.2.2.2) r ∧ I' = I ∧ F' = F)) := by
  refine MMz.mk (by decide) (fun _ => Nat.le_of_ble_eq_true rfl) ?_
  intro D cA h a pg en s m below meth c ls S hr hlk hA hw hl
  have hx := S.1
  have hb := S.2.1
  have hl : lv_has ls 7 [(0, .ref h), (1, .int (nI k)), (2, .ref (z.2.1 i)), (3, .int (nI f))] := hl
  obtain ⟨f4, f5, f6, f7, fl, b0, f8, f9, fe, fx⟩ := ht
  have hkc : (nI k).toNatClampNeg = k := nI_clamp (by omega)
  have hLK := lenK_ok i hi
  have loop : ∀ (fu j : Nat) (sm : Int32) (H : Heap) (locs : List Loc) (ls : Array Slot), j ≤ t.2.2.2.2.length → t.2.2.2.2.length + 1 ≤ j + fu → 0 < t.2.2.2.2.length → f + t.2.2.2.2.length < lenK.getD i 0 → chK i (f + t.2.2.2.2.length) = 32 → ((sm = 1 ∧ ∀ j' x, j' < j → t.2.2.2.2[j']? = some x → chK i (f + j') = x) ∨ (sm = 0 ∧ ¬ ∀ j x, t.2.2.2.2[j]? = some x → chK i (f + j) = x)) → sM z D cA h a (AM h a s.heap.size) s H locs I F → lv_has ls 7 [(0, .ref h), (1, .int (nI k)), (2, .ref (z.2.1 i)), (3, .int (nI f)), (4, .int (nI t.2.2.2.2.length)), (5, .int sm), (6, .int (nI j))] → W pg l en ({ frames := 4, cells := 0, slots := 0, locals := 85 }) s m ([.ref h, .int (nI k), .ref (z.2.1 i), .int (nI f)] : List Value).toArray below meth c H locs 0 0 (MQ below (QM z D cA h a s.heap.size (iR (fun r I' F' => yn (stP i f t.2.2.2.2) r ∧ I' = I ∧ F' = F))) ([.ref h, .int (nI k), .ref (z.2.1 i), .int (nI f)] : List Value).toArray s 0 0 (AM h a s.heap.size)) (F0 m 49 ls []) := by
    intro fu
    induction fu with
    | zero => intro j sm H locs ls h1 h2; omega
    | succ fu ih =>
      intro j sm H locs ls h1 h2 g1 g2 g3 hsm hw hl
      rcases hsm with ⟨rfl, hsm⟩ | ⟨rfl, hsm⟩
      · skip
        refine lv_iload hx hb dM_standsAt_49 (lv_at hl 6 rfl) ?_
        refine lv_iload hx hb dM_standsAt_51 (lv_at hl 4 rfl) ?_
        refine lv_icmp_ge (tgt := 99) hx hb dM_standsAt_53 (by decide) (fun c53 => ?_) (fun c53 => ?_)
        · skip
          refine lv_iload hx hb dM_standsAt_99 (lv_at hl 5 rfl) ?_
          exact MM.iret S hr hlk hw dM_standsAt_101 (by first | rfl | decide) ⟨_, rfl, Or.inl ⟨⟨g1, g2, g3, fun j' x hx => hsm j' x (by have h9 := (nI_leI (by omega) (by omega)).mp c53; have := (List.getElem?_eq_some_iff.mp hx).1; omega) hx⟩, rfl⟩, rfl, rfl⟩
        · skip
          refine lv_iload hx hb dM_standsAt_56 (lv_at hl 5 rfl) ?_
          refine lv_if_eq (tgt := 99) hx hb dM_standsAt_58 (by decide) (fun c58 => absurd c58 (by decide)) (fun c58 => ?_)
          have hjl : j < t.2.2.2.2.length := Nat.lt_of_not_le (fun q => c53 (nI_le q (by omega)))
          obtain ⟨xj, hjx⟩ : ∃ x, t.2.2.2.2[j]? = some x := ⟨_, List.getElem?_eq_getElem hjl⟩
          refine lv_aload_n hx hb dM_standsAt_61 rfl (lv_at hl 0 rfl) ?_
          refine gM10 S hw dM_standsAt_62 ?_
          refine lv_aload_n hx hb dM_standsAt_65 rfl (lv_at hl 0 rfl) ?_
          refine gM8 S hw dM_standsAt_66 ?_
          refine lv_iload_n hx hb dM_standsAt_69 rfl (lv_at hl 1 rfl) ?_
          refine ldM8 S hw (vp_in_nI (by omega) (by decide)) dM_standsAt_70 ?_
          refine kz_top (y := nI b0) (by rw [hkc]; exact f8) ?_
          refine lv_iload hx hb dM_standsAt_71 (lv_at hl 6 rfl) ?_
          refine lv_iadd hx hb dM_standsAt_73 ?_
          refine kz_top (y := nI (b0 + j)) (nI_add b0 j) ?_
          refine ldM10 S hw (vp_in_nI (by omega) (by decide)) dM_standsAt_74 ?_
          refine kz_top (y := xj) (by rw [nI_clamp (by omega)]; exact fx j xj hjx) ?_
          refine lv_aload_n hx hb dM_standsAt_75 rfl (lv_at hl 2 rfl) ?_
          refine lv_iload_n hx hb dM_standsAt_76 rfl (lv_at hl 3 rfl) ?_
          refine lv_iload hx hb dM_standsAt_77 (lv_at hl 6 rfl) ?_
          refine lv_iadd hx hb dM_standsAt_79 ?_
          refine kz_top (y := nI (f + j)) (nI_add f j) ?_
          refine kcMT (rest := [.int xj]) S kM_93 rfl hi (tS_charAt l z none i hi (f + j) (by omega)) hw hA arNone ⟨Nat.le_of_ble_eq_true rfl, Nat.le_of_ble_eq_true rfl⟩ rfl rfl ⟨Nat.zero_le _, Nat.zero_le _⟩ rfl hl.1 (Nat.le_of_ble_eq_true rfl) dM_standsAt_80 (fun r H locs hq hw => ?_)
          subst hq
          refine lv_icmp_ne (tgt := 90) hx hb dM_standsAt_83 (by decide) (fun c83 => ?_) (fun c83 => ?_)
          · skip
            refine lv_iconst (v := 0) hx hb dM_standsAt_90 (by decide) ?_
            refine lv_istore (lv' := [(5, .int 0), (0, .ref h), (1, .int (nI k)), (2, .ref (z.2.1 i)), (3, .int (nI f)), (4, .int (nI t.2.2.2.2.length)), (6, .int (nI j))]) hx hb dM_standsAt_91 hl (by decide) rfl (fun ls hl => ?_)
            refine lv_iinc (v := nI (j + 1)) (lv' := [(6, .int (nI (j + 1))), (5, .int 0), (0, .ref h), (1, .int (nI k)), (2, .ref (z.2.1 i)), (3, .int (nI f)), (4, .int (nI t.2.2.2.2.length))]) hx hb dM_standsAt_93 hl (k := 6) rfl (nI_1 j) (by decide) rfl (fun ls hl => ?_)
            refine lv_goto (tgt := 49) hx hb dM_standsAt_96 (by decide) ?_
            exact ih (j + 1) 0 H locs ls (by omega) (by omega) g1 g2 g3 (Or.inr ⟨rfl, fun q => c83 (by rw [q j _ hjx])⟩) hw (lv_sub hl [2, 3, 4, 5, 6, 1, 0] rfl)
          · skip
            refine lv_iconst (v := 1) hx hb dM_standsAt_86 (by decide) ?_
            refine lv_goto (tgt := 91) hx hb dM_standsAt_87 (by decide) ?_
            refine lv_istore (lv' := [(5, .int 1), (0, .ref h), (1, .int (nI k)), (2, .ref (z.2.1 i)), (3, .int (nI f)), (4, .int (nI t.2.2.2.2.length)), (6, .int (nI j))]) hx hb dM_standsAt_91 hl (by decide) rfl (fun ls hl => ?_)
            refine lv_iinc (v := nI (j + 1)) (lv' := [(6, .int (nI (j + 1))), (5, .int 1), (0, .ref h), (1, .int (nI k)), (2, .ref (z.2.1 i)), (3, .int (nI f)), (4, .int (nI t.2.2.2.2.length))]) hx hb dM_standsAt_93 hl (k := 6) rfl (nI_1 j) (by decide) rfl (fun ls hl => ?_)
            refine lv_goto (tgt := 49) hx hb dM_standsAt_96 (by decide) ?_
            exact ih (j + 1) 1 H locs ls (by omega) (by omega) g1 g2 g3 (Or.inl ⟨rfl, fun j' x hj hx => by
              rcases Nat.lt_or_ge j' j with q | q
              · exact hsm j' x q hx
              · have e1 : j' = j := by omega
                subst e1
                rw [hjx] at hx
                cases hx
                exact c83.symm⟩) hw (lv_sub hl [2, 3, 4, 5, 6, 1, 0] rfl)
      · skip
        refine lv_iload hx hb dM_standsAt_49 (lv_at hl 6 rfl) ?_
        refine lv_iload hx hb dM_standsAt_51 (lv_at hl 4 rfl) ?_
        refine lv_icmp_ge (tgt := 99) hx hb dM_standsAt_53 (by decide) (fun c53 => ?_) (fun c53 => ?_)
        · skip
          refine lv_iload hx hb dM_standsAt_99 (lv_at hl 5 rfl) ?_
          exact MM.iret S hr hlk hw dM_standsAt_101 (by first | rfl | decide) ⟨_, rfl, Or.inr ⟨fun q => hsm q.2.2.2, rfl⟩, rfl, rfl⟩
        · skip
          refine lv_iload hx hb dM_standsAt_56 (lv_at hl 5 rfl) ?_
          refine lv_if_eq (tgt := 99) hx hb dM_standsAt_58 (by decide) (fun c58 => ?_) (fun c58 => absurd c58 (by decide))
          refine lv_iload hx hb dM_standsAt_99 (lv_at hl 5 rfl) ?_
          exact MM.iret S hr hlk hw dM_standsAt_101 (by first | rfl | decide) ⟨_, rfl, Or.inr ⟨fun q => hsm q.2.2.2, rfl⟩, rfl, rfl⟩
  refine lv_aload_n hx hb dM_standsAt_0 rfl (lv_at hl 0 rfl) ?_
  refine gM9 S hw dM_standsAt_1 ?_
  refine lv_iload_n hx hb dM_standsAt_4 rfl (lv_at hl 1 rfl) ?_
  refine ldM9 S hw (vp_in_nI (by omega) (by decide)) dM_standsAt_5 ?_
  refine kz_top (y := nI t.2.2.2.2.length) (by rw [hkc]; exact f9) ?_
  refine lv_istore (lv' := [(4, .int (nI t.2.2.2.2.length)), (0, .ref h), (1, .int (nI k)), (2, .ref (z.2.1 i)), (3, .int (nI f))]) hx hb dM_standsAt_6 hl (by decide) rfl (fun ls hl => ?_)
  refine lv_iload_n hx hb dM_standsAt_8 rfl (lv_at hl 4 rfl) ?_
  refine lv_iload hx hb dM_standsAt_9 (lv_at hl 0 rfl) ?_
  refine lv_iadd hx hb dM_standsAt_11 ?_
  refine kz_top (y := nI (f + t.2.2.2.2.length)) (nI_add f t.2.2.2.2.length) ?_
  refine lv_aload_n hx hb dM_standsAt_12 rfl (lv_at hl 3 rfl) ?_
  refine kcMT (rest := [.int (nI (f + t.2.2.2.2.length))]) S kM_87 rfl hi (tS_length l z none i hi) hw hA arNone ⟨Nat.le_of_ble_eq_true rfl, Nat.le_of_ble_eq_true rfl⟩ rfl rfl ⟨Nat.zero_le _, Nat.zero_le _⟩ rfl hl.1 (Nat.le_of_ble_eq_true rfl) dM_standsAt_13 (fun r H locs hq hw => ?_)
  subst hq
  refine lv_icmp_ge (tgt := 32) hx hb dM_standsAt_16 (by decide) (fun c16 => ?_) (fun c16 => ?_)
  · skip
    refine lv_iconst (v := 0) hx hb dM_standsAt_32 (by decide) ?_
    exact MM.iret S hr hlk hw dM_standsAt_33 (by first | rfl | decide) ⟨_, rfl, Or.inr ⟨fun q => absurd ((nI_leI (by omega) (by omega)).mp c16) (by have := q.2.1; omega), rfl⟩, rfl, rfl⟩
  · skip
    refine lv_aload_n hx hb dM_standsAt_19 rfl (lv_at hl 3 rfl) ?_
    refine lv_iload_n hx hb dM_standsAt_20 rfl (lv_at hl 4 rfl) ?_
    refine lv_iload hx hb dM_standsAt_21 (lv_at hl 0 rfl) ?_
    refine lv_iadd hx hb dM_standsAt_23 ?_
    refine kz_top (y := nI (f + t.2.2.2.2.length)) (nI_add f t.2.2.2.2.length) ?_
    refine kcMT (rest := []) S kM_93 rfl hi (tS_charAt l z none i hi (f + t.2.2.2.2.length) (Nat.lt_of_not_le (fun q => c16 (nI_le q (by omega))))) hw hA arNone ⟨Nat.le_of_ble_eq_true rfl, Nat.le_of_ble_eq_true rfl⟩ rfl rfl ⟨Nat.zero_le _, Nat.zero_le _⟩ rfl hl.1 (Nat.le_of_ble_eq_true rfl) dM_standsAt_24 (fun r H locs hq hw => ?_)
    subst hq
    refine lv_bipush (v := 32) hx hb dM_standsAt_27 (by decide) ?_
    refine lv_icmp_eq (tgt := 34) hx hb dM_standsAt_29 (by decide) (fun c29 => ?_) (fun c29 => ?_)
    · skip
      refine lv_iload hx hb dM_standsAt_34 (lv_at hl 0 rfl) ?_
      refine lv_if_le (tgt := 43) hx hb dM_standsAt_36 (by decide) (fun c36 => ?_) (fun c36 => ?_)
      · skip
        refine lv_iconst (v := 0) hx hb dM_standsAt_43 (by decide) ?_
        refine lv_istore (lv' := [(5, .int 0), (4, .int (nI t.2.2.2.2.length)), (0, .ref h), (1, .int (nI k)), (2, .ref (z.2.1 i)), (3, .int (nI f))]) hx hb dM_standsAt_44 hl (by decide) rfl (fun ls hl => ?_)
        refine lv_iconst (v := 0) hx hb dM_standsAt_46 (by decide) ?_
        refine lv_istore (lv' := [(6, .int 0), (5, .int 0), (4, .int (nI t.2.2.2.2.length)), (0, .ref h), (1, .int (nI k)), (2, .ref (z.2.1 i)), (3, .int (nI f))]) hx hb dM_standsAt_47 hl (by decide) rfl (fun ls hl => ?_)
        have hlt : f + t.2.2.2.2.length < lenK.getD i 0 := Nat.lt_of_not_le (fun q => c16 (nI_le q (by omega)))
        refine lv_iload hx hb dM_standsAt_49 (lv_at hl 0 rfl) ?_
        refine lv_iload hx hb dM_standsAt_51 (lv_at hl 2 rfl) ?_
        refine lv_icmp_ge (tgt := 99) hx hb dM_standsAt_53 (by decide) (fun c53 => ?_) (fun c53 => ?_)
        · skip
          refine lv_iload hx hb dM_standsAt_99 (lv_at hl 1 rfl) ?_
          exact MM.iret S hr hlk hw dM_standsAt_101 (by first | rfl | decide) ⟨_, rfl, Or.inr ⟨fun q => absurd c36 (nI_nle q.1 (by omega)), rfl⟩, rfl, rfl⟩
        · skip
          refine lv_iload hx hb dM_standsAt_56 (lv_at hl 1 rfl) ?_
          refine lv_if_eq (tgt := 99) hx hb dM_standsAt_58 (by decide) (fun c58 => ?_) (fun c58 => absurd c58 (by decide))
          refine lv_iload hx hb dM_standsAt_99 (lv_at hl 1 rfl) ?_
          exact MM.iret S hr hlk hw dM_standsAt_101 (by first | rfl | decide) ⟨_, rfl, Or.inr ⟨fun q => absurd c36 (nI_nle q.1 (by omega)), rfl⟩, rfl, rfl⟩
      · skip
        refine lv_iconst (v := 1) hx hb dM_standsAt_39 (by decide) ?_
        refine lv_goto (tgt := 44) hx hb dM_standsAt_40 (by decide) ?_
        refine lv_istore (lv' := [(5, .int 1), (4, .int (nI t.2.2.2.2.length)), (0, .ref h), (1, .int (nI k)), (2, .ref (z.2.1 i)), (3, .int (nI f))]) hx hb dM_standsAt_44 hl (by decide) rfl (fun ls hl => ?_)
        refine lv_iconst (v := 0) hx hb dM_standsAt_46 (by decide) ?_
        refine lv_istore (lv' := [(6, .int 0), (5, .int 1), (4, .int (nI t.2.2.2.2.length)), (0, .ref h), (1, .int (nI k)), (2, .ref (z.2.1 i)), (3, .int (nI f))]) hx hb dM_standsAt_47 hl (by decide) rfl (fun ls hl => ?_)
        have hlt : f + t.2.2.2.2.length < lenK.getD i 0 := Nat.lt_of_not_le (fun q => c16 (nI_le q (by omega)))
        exact loop (t.2.2.2.2.length + 1) 0 1 H locs ls (Nat.zero_le _) (by omega) (Nat.pos_of_ne_zero (fun q => c36 (by rw [q]; decide))) hlt c29 (Or.inl ⟨rfl, fun j' x hj => absurd hj (Nat.not_lt_zero _)⟩) hw (lv_sub hl [3, 4, 5, 6, 2, 1, 0] rfl)
    · skip
      refine lv_iconst (v := 0) hx hb dM_standsAt_32 (by decide) ?_
      exact MM.iret S hr hlk hw dM_standsAt_33 (by first | rfl | decide) ⟨_, rfl, Or.inr ⟨fun q => c29 q.2.2.1, rfl⟩, rfl, rfl⟩
set_option maxHeartbeats 4000000 in
set_option maxRecDepth 100000 in
theorem tM_isIn (l : Launch) (z : kz_Z) (I : Nat → Int32) (F : Nat → Nat → Int32) (k e : Nat) (t : kz_T) (ht : tokM F e k t) (hk : k < 2100) (he : e ≤ 2000) (i : Nat) (hi : i < 12) : MMz z l yM_isIn cM_isIn 4 (some .boolean) ({ frames := 5, cells := 0, slots := 0, locals := 111 }) [.int (nI k), .ref (z.2.1 i)] I F (iR (fun r I' F' => yn (inP i t.2.2.2.2) r ∧ I' = I ∧ F' = F)) := by
  refine MMz.mk (by decide) (fun _ => Nat.le_of_ble_eq_true rfl) ?_
  intro D cA h a pg en s m below meth c ls S hr hlk hA hw hl
  have hx := S.1
  have hb := S.2.1
  have hl : lv_has ls 4 [(0, .ref h), (1, .int (nI k)), (2, .ref (z.2.1 i))] := hl
  have hLK := lenK_ok i hi
  have loop2 : ∀ (fu : Nat) (j : Nat) (H : Heap) (locs : List Loc) (ls : Array Slot), j ≤ lenK.getD i 0 → lenK.getD i 0 + 1 ≤ j + fu → (∀ q, q < j → ¬ (chK i q = 32 ∧ stP i (q + 1) t.2.2.2.2)) → sM z D cA h a (AM h a s.heap.size) s H locs I F → lv_has ls 4 [(0, .ref h), (1, .int (nI k)), (2, .ref (z.2.1 i)), (3, .int (nI j))] → W pg l en ({ frames := 5, cells := 0, slots := 0, locals := 111 }) s m ([.ref h, .int (nI k), .ref (z.2.1 i)] : List Value).toArray below meth c H locs 0 0 (MQ below (QM z D cA h a s.heap.size (iR (fun r I' F' => yn (inP i t.2.2.2.2) r ∧ I' = I ∧ F' = F))) ([.ref h, .int (nI k), .ref (z.2.1 i)] : List Value).toArray s 0 0 (AM h a s.heap.size)) (F0 m 2 ls []) := by
    intro fu
    induction fu with
    | zero => intro j  H locs ls h1 h2 h3 hw hl; omega
    | succ fu ih =>
      intro j  H locs ls h1 h2 h3 hw hl
      refine lv_iload_n hx hb dM_isIn_2 rfl (lv_at hl 3 rfl) ?_
      refine lv_aload_n hx hb dM_isIn_3 rfl (lv_at hl 2 rfl) ?_
      refine kcMT (rest := [.int (nI j)]) S kM_87 rfl hi (tS_length l z none i hi) hw hA arNone ⟨Nat.le_of_ble_eq_true rfl, Nat.le_of_ble_eq_true rfl⟩ rfl rfl ⟨Nat.zero_le _, Nat.zero_le _⟩ rfl hl.1 (Nat.le_of_ble_eq_true rfl) dM_isIn_4 (fun r H locs hq hw => ?_)
      subst hq
      refine lv_icmp_ge (tgt := 40) hx hb dM_isIn_7 (by decide) (fun c7 => ?_) (fun c7 => ?_)
      · skip
        refine lv_iconst (v := 0) hx hb dM_isIn_40 (by decide) ?_
        exact MM.iret S hr hlk hw dM_isIn_41 (by first | rfl | decide) ⟨_, rfl, Or.inr ⟨fun ⟨q, a, b⟩ => h3 q (by have := (nI_leI (by omega) (by omega)).mp c7; omega) b, rfl⟩, rfl, rfl⟩
      · skip
        refine lv_aload_n hx hb dM_isIn_10 rfl (lv_at hl 2 rfl) ?_
        refine lv_iload_n hx hb dM_isIn_11 rfl (lv_at hl 3 rfl) ?_
        have hj : j < lenK.getD i 0 := Nat.lt_of_not_le (fun q => c7 (nI_le q (by omega)))
        refine kcMT (rest := []) S kM_93 rfl hi (tS_charAt l z none i hi j hj) hw hA arNone ⟨Nat.le_of_ble_eq_true rfl, Nat.le_of_ble_eq_true rfl⟩ rfl rfl ⟨Nat.zero_le _, Nat.zero_le _⟩ rfl hl.1 (Nat.le_of_ble_eq_true rfl) dM_isIn_12 (fun r H locs hq hw => ?_)
        subst hq
        refine lv_bipush (v := 32) hx hb dM_isIn_15 (by decide) ?_
        refine lv_icmp_ne (tgt := 34) hx hb dM_isIn_17 (by decide) (fun c17 => ?_) (fun c17 => ?_)
        · skip
          refine lv_iinc (v := nI (j + 1)) (lv' := [(3, .int (nI (j + 1))), (0, .ref h), (1, .int (nI k)), (2, .ref (z.2.1 i))]) hx hb dM_isIn_34 hl (k := 3) rfl (nI_1 j) (by decide) rfl (fun ls hl => ?_)
          refine lv_goto (tgt := 2) hx hb dM_isIn_37 (by decide) ?_
          exact ih (j + 1) H locs ls (by omega) (by omega) (fun q' hq' q => by
            rcases Nat.lt_or_ge q' j with a | a
            · exact h3 q' a q
            · have e1 : q' = j := by omega
              subst e1
              exact c17 q.1) hw (lv_sub hl [1, 2, 3, 0] rfl)
        · skip
          refine lv_aload_n hx hb dM_isIn_20 rfl (lv_at hl 0 rfl) ?_
          refine lv_iload_n hx hb dM_isIn_21 rfl (lv_at hl 1 rfl) ?_
          refine lv_aload_n hx hb dM_isIn_22 rfl (lv_at hl 2 rfl) ?_
          refine lv_iload_n hx hb dM_isIn_23 rfl (lv_at hl 3 rfl) ?_
          refine lv_iconst (v := 1) hx hb dM_isIn_24 (by decide) ?_
          refine lv_iadd hx hb dM_isIn_25 ?_
          refine kz_top (y := nI (j + 1)) (nI_add j 1) ?_
          refine kcMzi (rest := []) S kM_97 rfl (tM_standsAt l z I F k e t ht hk he i (j + 1) hi (by omega)) hw hA ⟨Nat.le_of_ble_eq_true rfl, Nat.le_of_ble_eq_true rfl⟩ rfl rfl ⟨Nat.zero_le _, Nat.zero_le _⟩ rfl hl.1 (Nat.le_of_ble_eq_true rfl) dM_isIn_26 (fun r I' F' H locs hq hw => ?_)
          obtain ⟨hr1, hr2, hr3⟩ := hq
          rw [hr2, hr3] at hw
          rcases hr1 with ⟨hB1, rfl⟩ | ⟨hB1, rfl⟩
          · skip
            refine lv_if_eq (tgt := 34) hx hb dM_isIn_29 (by decide) (fun c29 => absurd c29 (by decide)) (fun c29 => ?_)
            refine lv_iconst (v := 1) hx hb dM_isIn_32 (by decide) ?_
            exact MM.iret S hr hlk hw dM_isIn_33 (by first | rfl | decide) ⟨_, rfl, Or.inl ⟨⟨j, hj, c17, hB1⟩, rfl⟩, rfl, rfl⟩
          · skip
            refine lv_if_eq (tgt := 34) hx hb dM_isIn_29 (by decide) (fun c29 => ?_) (fun c29 => absurd c29 (by decide))
            refine lv_iinc (v := nI (j + 1)) (lv' := [(3, .int (nI (j + 1))), (0, .ref h), (1, .int (nI k)), (2, .ref (z.2.1 i))]) hx hb dM_isIn_34 hl (k := 3) rfl (nI_1 j) (by decide) rfl (fun ls hl => ?_)
            refine lv_goto (tgt := 2) hx hb dM_isIn_37 (by decide) ?_
            exact ih (j + 1) H locs ls (by omega) (by omega) (fun q' hq' q => by
              rcases Nat.lt_or_ge q' j with a | a
              · exact h3 q' a q
              · have e1 : q' = j := by omega
                subst e1
                exact hB1 q.2) hw (lv_sub hl [1, 2, 3, 0] rfl)
  refine lv_iconst (v := 0) hx hb dM_isIn_0 (by decide) ?_
  refine lv_istore_n (lv' := [(3, .int 0), (0, .ref h), (1, .int (nI k)), (2, .ref (z.2.1 i))]) hx hb dM_isIn_1 rfl hl (by decide) rfl (fun ls hl => ?_)
  exact loop2 (lenK.getD i 0 + 1) 0 s.heap [] ls (Nat.zero_le _) (by omega) (fun q hq => absurd hq (Nat.not_lt_zero _)) hw (lv_sub hl [1, 2, 3, 0] rfl)
theorem len1 {tx : List Int32} {f : Nat → Int32} {b : Nat} {x : Int32} (h : nI tx.length = 1) (fx : ∀ j y, tx[j]? = some y → f (b + j) = y) (hx : f b = x) (hl : tx.length < 2 ^ 31) : tx = [x] := by
  have e : tx.length = 1 := (nI_eq (b := 1) hl (by decide)).mp h
  match tx, e, fx with
  | [y], _, fx => rw [← fx 0 y rfl]; exact congrArg (fun z => [z]) hx
theorem len2 {tx : List Int32} {f : Nat → Int32} {b : Nat} {x y : Int32} (h : nI tx.length = 2) (fx : ∀ j y, tx[j]? = some y → f (b + j) = y) (hx : f b = x) (hy : f (b + 1) = y) (hl : tx.length < 2 ^ 31) : tx = [x, y] := by
  have e : tx.length = 2 := (nI_eq (b := 2) hl (by decide)).mp h
  match tx, e, fx with
  | [u, v], _, fx => rw [← fx 0 u rfl, ← fx 1 v rfl, hy]; exact congrArg (fun z => [z, y]) hx
abbrev isT (t : kz_T) (one two : Int32) : Prop := t.1 = 3 ∧ t.2.2.2.2 = if two = 0 then [one] else [one, two]
set_option maxHeartbeats 4000000 in
set_option maxRecDepth 100000 in
theorem tM_is (l : Launch) (I : Nat → Int32) (F : Nat → Nat → Int32) (k e : Nat) (t : kz_T) (ht : tokM F e k t) (hk : k < 2100) (he : e ≤ 2000) (one two : Int32) : MM l yM_is cM_is 4 (some .boolean) ({ frames := 0, cells := 0, slots := 0, locals := 0 }) [.int (nI k), .int one, .int two] I F (iR (fun r I' F' => yn (isT t one two) r ∧ I' = I ∧ F' = F)) := by
  refine MM.mk (by decide) (fun _ => Nat.le_of_ble_eq_true rfl) ?_
  intro z D cA h a pg en s m below meth c ls S hr hlk hA hw hl
  have hx := S.1
  have hb := S.2.1
  have hl : lv_has ls 4 [(0, .ref h), (1, .int (nI k)), (2, .int one), (3, .int two)] := hl
  obtain ⟨f4, f5, f6, f7, fl, b0, f8, f9, fe, fx⟩ := ht
  have hkc : (nI k).toNatClampNeg = k := nI_clamp (by omega)
  refine lv_aload_n hx hb dM_is_0 rfl (lv_at hl 0 rfl) ?_
  refine gM4 S hw dM_is_1 ?_
  refine lv_iload_n hx hb dM_is_4 rfl (lv_at hl 1 rfl) ?_
  refine ldM4 S hw (vp_in_nI (by omega) (by decide)) dM_is_5 ?_
  refine kz_top (y := t.1) (by rw [hkc]; exact f4) ?_
  refine lv_iconst (v := 3) hx hb dM_is_6 (by decide) ?_
  refine lv_icmp_ne (tgt := 68) hx hb dM_is_7 (by decide) (fun c7 => ?_) (fun c7 => ?_)
  · skip
    refine lv_iconst (v := 0) hx hb dM_is_68 (by decide) ?_
    exact MM.iret S hr hlk hw dM_is_69 (by first | rfl | decide) ⟨_, rfl, Or.inr ⟨fun q => c7 q.1, rfl⟩, rfl, rfl⟩
  · skip
    refine lv_aload_n hx hb dM_is_10 rfl (lv_at hl 0 rfl) ?_
    refine gM10 S hw dM_is_11 ?_
    refine lv_aload_n hx hb dM_is_14 rfl (lv_at hl 0 rfl) ?_
    refine gM8 S hw dM_is_15 ?_
    refine lv_iload_n hx hb dM_is_18 rfl (lv_at hl 1 rfl) ?_
    refine ldM8 S hw (vp_in_nI (by omega) (by decide)) dM_is_19 ?_
    refine kz_top (y := nI b0) (by rw [hkc]; exact f8) ?_
    refine ldM10 S hw (vp_in_nI (by omega) (by decide)) dM_is_20 ?_
    refine kz_top (y := F 10 b0) (by rw [nI_clamp (by omega)]) ?_
    refine lv_iload_n hx hb dM_is_21 rfl (lv_at hl 2 rfl) ?_
    refine lv_icmp_ne (tgt := 68) hx hb dM_is_22 (by decide) (fun c22 => ?_) (fun c22 => ?_)
    · skip
      refine lv_iconst (v := 0) hx hb dM_is_68 (by decide) ?_
      exact MM.iret S hr hlk hw dM_is_69 (by first | rfl | decide) ⟨_, rfl, Or.inr ⟨fun q => c22 (by have q := q.2; split at q <;> exact fx 0 _ (by rw [q]; rfl)), rfl⟩, rfl, rfl⟩
    · skip
      refine lv_aload_n hx hb dM_is_25 rfl (lv_at hl 0 rfl) ?_
      refine gM9 S hw dM_is_26 ?_
      refine lv_iload_n hx hb dM_is_29 rfl (lv_at hl 1 rfl) ?_
      refine ldM9 S hw (vp_in_nI (by omega) (by decide)) dM_is_30 ?_
      refine kz_top (y := nI t.2.2.2.2.length) (by rw [hkc]; exact f9) ?_
      refine lv_iload_n hx hb dM_is_31 rfl (lv_at hl 3 rfl) ?_
      refine lv_if_ne (tgt := 39) hx hb dM_is_32 (by decide) (fun c32 => ?_) (fun c32 => ?_)
      · skip
        refine lv_iconst (v := 2) hx hb dM_is_39 (by decide) ?_
        refine lv_icmp_ne (tgt := 68) hx hb dM_is_40 (by decide) (fun c40 => ?_) (fun c40 => ?_)
        · skip
          refine lv_iconst (v := 0) hx hb dM_is_68 (by decide) ?_
          exact MM.iret S hr hlk hw dM_is_69 (by first | rfl | decide) ⟨_, rfl, Or.inr ⟨fun q => c40 (by rw [q.2, if_neg c32]; rfl), rfl⟩, rfl, rfl⟩
        · skip
          refine lv_iload_n hx hb dM_is_43 rfl (lv_at hl 3 rfl) ?_
          refine lv_if_eq (tgt := 64) hx hb dM_is_44 (by decide) (fun c44 => absurd c44 c32) (fun c44 => ?_)
          refine lv_aload_n hx hb dM_is_47 rfl (lv_at hl 0 rfl) ?_
          refine gM10 S hw dM_is_48 ?_
          refine lv_aload_n hx hb dM_is_51 rfl (lv_at hl 0 rfl) ?_
          refine gM8 S hw dM_is_52 ?_
          refine lv_iload_n hx hb dM_is_55 rfl (lv_at hl 1 rfl) ?_
          refine ldM8 S hw (vp_in_nI (by omega) (by decide)) dM_is_56 ?_
          refine kz_top (y := nI b0) (by rw [hkc]; exact f8) ?_
          refine lv_iconst (v := 1) hx hb dM_is_57 (by decide) ?_
          refine lv_iadd hx hb dM_is_58 ?_
          refine kz_top (y := nI (b0 + 1)) (nI_add b0 1) ?_
          refine ldM10 S hw (vp_in_nI (by omega) (by decide)) dM_is_59 ?_
          refine kz_top (y := F 10 (b0 + 1)) (by rw [nI_clamp (by omega)]) ?_
          refine lv_iload_n hx hb dM_is_60 rfl (lv_at hl 3 rfl) ?_
          refine lv_icmp_ne (tgt := 68) hx hb dM_is_61 (by decide) (fun c61 => ?_) (fun c61 => ?_)
          · skip
            refine lv_iconst (v := 0) hx hb dM_is_68 (by decide) ?_
            exact MM.iret S hr hlk hw dM_is_69 (by first | rfl | decide) ⟨_, rfl, Or.inr ⟨fun q => c61 (by have q := q.2; rw [if_neg c32] at q; exact fx 1 _ (by rw [q]; rfl)), rfl⟩, rfl, rfl⟩
          · skip
            refine lv_iconst (v := 1) hx hb dM_is_64 (by decide) ?_
            refine lv_goto (tgt := 69) hx hb dM_is_65 (by decide) ?_
            exact MM.iret S hr hlk hw dM_is_69 (by first | rfl | decide) ⟨_, rfl, Or.inl ⟨⟨c7, by rw [if_neg c32]; exact len2 c40 fx c22 c61 (by omega)⟩, rfl⟩, rfl, rfl⟩
      · skip
        refine lv_iconst (v := 1) hx hb dM_is_35 (by decide) ?_
        refine lv_goto (tgt := 40) hx hb dM_is_36 (by decide) ?_
        refine lv_icmp_ne (tgt := 68) hx hb dM_is_40 (by decide) (fun c40 => ?_) (fun c40 => ?_)
        · skip
          refine lv_iconst (v := 0) hx hb dM_is_68 (by decide) ?_
          exact MM.iret S hr hlk hw dM_is_69 (by first | rfl | decide) ⟨_, rfl, Or.inr ⟨fun q => c40 (by rw [q.2, if_pos c32]; rfl), rfl⟩, rfl, rfl⟩
        · skip
          refine lv_iload_n hx hb dM_is_43 rfl (lv_at hl 3 rfl) ?_
          refine lv_if_eq (tgt := 64) hx hb dM_is_44 (by decide) (fun c44 => ?_) (fun c44 => absurd c32 c44)
          refine lv_iconst (v := 1) hx hb dM_is_64 (by decide) ?_
          refine lv_goto (tgt := 69) hx hb dM_is_65 (by decide) ?_
          exact MM.iret S hr hlk hw dM_is_69 (by first | rfl | decide) ⟨_, rfl, Or.inl ⟨⟨c7, by rw [if_pos c32]; exact len1 c40 fx c22 (by omega)⟩, rfl⟩, rfl, rfl⟩
