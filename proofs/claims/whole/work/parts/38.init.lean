/-! ===== the constructors ===== -/
theorem kz_same {D : va_G} {cl : List vw_C} {tys : List (ClassId × FieldType)} {U : State} (h : va_K D cl tys U) (i j : Nat) {c1 c2 : ClassId} (h1 : tys[i]? = some (c1, .int)) (h2 : tys[j]? = some (c2, .int)) : c1 = c2 := by
  have e1 : U.vm.findClass ("[" ++ FieldType.int.toString) = some c1 := (h.2 i _ h1).2
  have e2 : U.vm.findClass ("[" ++ FieldType.int.toString) = some c2 := (h.2 j _ h2).2
  exact Option.some.inj (e1.symm.trans e2)
theorem woX_l : Cond.methodLink "TokenRow" 3 objectInit ∈ TT := tt_k 13 rfl rfl
theorem woM_l : Cond.methodLink "TokenRowModel" 1 objectInit ∈ TT := tt_k 278 rfl rfl
theorem wo_i : Cond.instanceMethod objectInit ∈ TT := tt_k 14 rfl rfl
theorem wo_c : Cond.code objectInit ⟨#[0xb1]⟩ 1 none ∈ TT := tt_k 15 rfl rfl
set_option maxHeartbeats 4000000 in
set_option maxRecDepth 100000 in
theorem tX_init (l : Launch) (z : kz_Z) (D : va_G) (h sz : Nat) : Met l yX_init (Cond.code yX_init cX_init 1 none :: TT) ({ frames := 1, cells := 8, slots := 8006, locals := 12 }) (va_Pc [.ref h] (fun U => U.heap.size = sz ∧ va_P D clT [(h, .inr (0, [.null, .int 0, .null, .null, .null, .null, .null, .null, .int 0, .null, .int 0, .int 0, .int 0, .int 0]))] U.heap ∧ va_K D clT [] U ∧ va_D (fun _ => True) [(h, .inr (0, [.null, .int 0, .null, .null, .null, .null, .null, .null, .int 0, .null, .int 0, .int 0, .int 0, .int 0]))] ∧ tkR z U)) (va_Qv (fun _ : ClassId × (Nat → Nat) => True) (fun u t => va_K D clT [(u.1, .int)] t ∧ va_P D clT (wX z u.1 h u.2 (fun _ => 0) (fun _ _ => 0)) t.heap ∧ va_D (va_A [(h, .inr (0, [.null, .int 0, .null, .null, .null, .null, .null, .null, .int 0, .null, .int 0, .int 0, .int 0, .int 0]))] sz) (wX z u.1 h u.2 (fun _ => 0) (fun _ _ => 0))) (va_A [(h, .inr (0, [.null, .int 0, .null, .null, .null, .null, .null, .null, .int 0, .null, .int 0, .int 0, .int 0, .int 0]))] sz)) 8 8006 (va_A [(h, .inr (0, [.null, .int 0, .null, .null, .null, .null, .null, .null, .int 0, .null, .int 0, .int 0, .int 0, .int 0]))] sz) := by
  refine Met.ofW (cc := cX_init) (maxL := 1) (ret := none) (by decide) rfl ?_
  intro p e s m args below meth c s₁ B hml hv
  obtain ⟨rfl, hsz, hP, hK, hD0, htr⟩ := hv
  have hx := B.exec
  have hb := B.bytes
  have hr := B.returns
  have hts := atoms_spec (ws := Cond.code yX_init cX_init 1 none :: TT) B.pre
  have up : ∀ {w : Cond}, w ∈ TT → w.before ([Value.ref h] : List Value).toArray s = true := fun h => hts _ (List.mem_cons_of_mem _ h)
  have hown : s.vm.findClass RX = some m.cls := findClass_of_methodNamed B.named
  have hlocks := B.notSynchronized
  have hin : meth.name = "<init>" := (name_of_methodNamed B.named B.method).1
  subst hsz
  have hD := hD0.self (sz := s.heap.size)
  generalize hAe : va_A [(h, .inr (0, [.null, .int 0, .null, .null, .null, .null, .null, .null, .int 0, .null, .int 0, .int 0, .int 0, .int 0]))] s.heap.size = A at hD ⊢
  have hA : ∀ q : Nat, s.heap.size ≤ q → A q := fun q h => by rw [← hAe]; exact Or.inr h
  have hS : va_S A s.heap s.heap [] := va_S.rf
  have hl := lv_entry ([.ref h]) (n := 1) (Nat.le_of_ble_eq_true rfl)
  rw [lg_entry_eq]
  generalize (lg_sl ([.ref h]) ++ List.replicate (1 - (lg_sl ([.ref h])).length) Slot.unset).toArray = ls at hl ⊢
  have hl : lv_has ls 1 [(0, .ref h)] := hl
  have hinw : ∀ w ∈ u_ws RX TX 14, w ∈ (Cond.code yX_init cX_init 1 none :: TT) := fun w hw => List.mem_cons_of_mem _ (inX w hw)
  refine lv_aload_n hx hb dX_init_0 rfl (lv_at hl 0 rfl) ?_
  refine W.objInit hx hb hown (up woX_l) (up wo_i) (up wo_c) rfl (by rw [hml]; exact hl.1) rfl dX_init_1 (Nat.le_of_ble_eq_true rfl) (Nat.le_of_ble_eq_true rfl) ?_
  refine W.eq (g2 := F0 m 4 ls []) rfl ?_
  refine lv_aload_n hx hb dX_init_4 rfl (lv_at hl 0 rfl) ?_
  refine lv_sipush (v := 1000) hx hb dX_init_5 (by decide) ?_
  refine va_newa (atype := .int) (N' := 1000) (a0 := (1000, .inl (fun _ => 0))) (ty := .int) hx hb (up wa_int) rfl hK hP hD hS hA (fun _ => rfl) (by decide) (by decide) (by decide) (Nat.le_of_ble_eq_true rfl) (Nat.le_of_ble_eq_true rfl) dX_init_8 (fun q0 cA H hK hP hD hS => ?_)
  have hK : va_K D clT [(cA, .int)] s := hK
  have hP : va_P D clT [(h, .inr (0, [.null, .int 0, .null, .null, .null, .null, .null, .null, .int 0, .null, .int 0, .int 0, .int 0, .int 0])), (q0, .inl (cA, (1000, .inl (fun _ => 0))))] H := hP
  have hD : va_D A [(h, .inr (0, [.null, .int 0, .null, .null, .null, .null, .null, .null, .int 0, .null, .int 0, .int 0, .int 0, .int 0])), (q0, .inl (cA, (1000, .inl (fun _ => 0))))] := hD
  refine va_putF (D := D) (ci := 0) (v := .ref q0) (ty := .array .int) (C := RX) (T := TX) (N := 14) hx hb hts hinw tyX tyX_ok nmX hown hK hP hD hS 0 rfl rfl 0 (by decide) (up wfX_9) (fun _ h9 => h9) rfl hin rfl (by decide +kernel) rfl rfl (Nat.le_of_ble_eq_true rfl) dX_init_10 (fun H locs hP hD hS => ?_)
  have hP : va_P D clT [(h, .inr (0, [.ref q0, .int 0, .null, .null, .null, .null, .null, .null, .int 0, .null, .int 0, .int 0, .int 0, .int 0])), (q0, .inl (cA, (1000, .inl (fun _ => 0))))] H := hP
  have hD : va_D A [(h, .inr (0, [.ref q0, .int 0, .null, .null, .null, .null, .null, .null, .int 0, .null, .int 0, .int 0, .int 0, .int 0])), (q0, .inl (cA, (1000, .inl (fun _ => 0))))] := hD
  refine lv_aload_n hx hb dX_init_13 rfl (lv_at hl 0 rfl) ?_
  refine lv_sipush (v := 1001) hx hb dX_init_14 (by decide) ?_
  refine va_newa (atype := .int) (N' := 1001) (a0 := (1001, .inl (fun _ => 0))) (ty := .int) hx hb (up wa_int) rfl hK hP hD hS hA (fun _ => rfl) (by decide) (by decide) (by decide) (Nat.le_of_ble_eq_true rfl) (Nat.le_of_ble_eq_true rfl) dX_init_17 (fun q1 cB H hK hP hD hS => ?_)
  have eAB := kz_same hK 0 1 rfl rfl
  subst eAB
  have hK : va_K D clT [(cA, .int)] s := hK.sub [0] rfl
  have hP : va_P D clT [(h, .inr (0, [.ref q0, .int 0, .null, .null, .null, .null, .null, .null, .int 0, .null, .int 0, .int 0, .int 0, .int 0])), (q0, .inl (cA, (1000, .inl (fun _ => 0)))), (q1, .inl (cA, (1001, .inl (fun _ => 0))))] H := hP
  have hD : va_D A [(h, .inr (0, [.ref q0, .int 0, .null, .null, .null, .null, .null, .null, .int 0, .null, .int 0, .int 0, .int 0, .int 0])), (q0, .inl (cA, (1000, .inl (fun _ => 0)))), (q1, .inl (cA, (1001, .inl (fun _ => 0))))] := hD
  refine va_putF (D := D) (ci := 0) (v := .ref q1) (ty := .array .int) (C := RX) (T := TX) (N := 14) hx hb hts hinw tyX tyX_ok nmX hown hK hP hD hS 0 rfl rfl 2 (by decide) (up wfX_13) (fun _ h9 => h9) rfl hin rfl (by decide +kernel) rfl rfl (Nat.le_of_ble_eq_true rfl) dX_init_19 (fun H locs hP hD hS => ?_)
  have hP : va_P D clT [(h, .inr (0, [.ref q0, .int 0, .ref q1, .null, .null, .null, .null, .null, .int 0, .null, .int 0, .int 0, .int 0, .int 0])), (q0, .inl (cA, (1000, .inl (fun _ => 0)))), (q1, .inl (cA, (1001, .inl (fun _ => 0))))] H := hP
  have hD : va_D A [(h, .inr (0, [.ref q0, .int 0, .ref q1, .null, .null, .null, .null, .null, .int 0, .null, .int 0, .int 0, .int 0, .int 0])), (q0, .inl (cA, (1000, .inl (fun _ => 0)))), (q1, .inl (cA, (1001, .inl (fun _ => 0))))] := hD
  refine lv_aload_n hx hb dX_init_22 rfl (lv_at hl 0 rfl) ?_
  refine lv_sipush (v := 1001) hx hb dX_init_23 (by decide) ?_
  refine va_newa (atype := .int) (N' := 1001) (a0 := (1001, .inl (fun _ => 0))) (ty := .int) hx hb (up wa_int) rfl hK hP hD hS hA (fun _ => rfl) (by decide) (by decide) (by decide) (Nat.le_of_ble_eq_true rfl) (Nat.le_of_ble_eq_true rfl) dX_init_26 (fun q2 cB H hK hP hD hS => ?_)
  have eAB := kz_same hK 0 1 rfl rfl
  subst eAB
  have hK : va_K D clT [(cA, .int)] s := hK.sub [0] rfl
  have hP : va_P D clT [(h, .inr (0, [.ref q0, .int 0, .ref q1, .null, .null, .null, .null, .null, .int 0, .null, .int 0, .int 0, .int 0, .int 0])), (q0, .inl (cA, (1000, .inl (fun _ => 0)))), (q1, .inl (cA, (1001, .inl (fun _ => 0)))), (q2, .inl (cA, (1001, .inl (fun _ => 0))))] H := hP
  have hD : va_D A [(h, .inr (0, [.ref q0, .int 0, .ref q1, .null, .null, .null, .null, .null, .int 0, .null, .int 0, .int 0, .int 0, .int 0])), (q0, .inl (cA, (1000, .inl (fun _ => 0)))), (q1, .inl (cA, (1001, .inl (fun _ => 0)))), (q2, .inl (cA, (1001, .inl (fun _ => 0))))] := hD
  refine va_putF (D := D) (ci := 0) (v := .ref q2) (ty := .array .int) (C := RX) (T := TX) (N := 14) hx hb hts hinw tyX tyX_ok nmX hown hK hP hD hS 0 rfl rfl 3 (by decide) (up wfX_16) (fun _ h9 => h9) rfl hin rfl (by decide +kernel) rfl rfl (Nat.le_of_ble_eq_true rfl) dX_init_28 (fun H locs hP hD hS => ?_)
  have hP : va_P D clT [(h, .inr (0, [.ref q0, .int 0, .ref q1, .ref q2, .null, .null, .null, .null, .int 0, .null, .int 0, .int 0, .int 0, .int 0])), (q0, .inl (cA, (1000, .inl (fun _ => 0)))), (q1, .inl (cA, (1001, .inl (fun _ => 0)))), (q2, .inl (cA, (1001, .inl (fun _ => 0))))] H := hP
  have hD : va_D A [(h, .inr (0, [.ref q0, .int 0, .ref q1, .ref q2, .null, .null, .null, .null, .int 0, .null, .int 0, .int 0, .int 0, .int 0])), (q0, .inl (cA, (1000, .inl (fun _ => 0)))), (q1, .inl (cA, (1001, .inl (fun _ => 0)))), (q2, .inl (cA, (1001, .inl (fun _ => 0))))] := hD
  refine lv_aload_n hx hb dX_init_31 rfl (lv_at hl 0 rfl) ?_
  refine lv_sipush (v := 1001) hx hb dX_init_32 (by decide) ?_
  refine va_newa (atype := .int) (N' := 1001) (a0 := (1001, .inl (fun _ => 0))) (ty := .int) hx hb (up wa_int) rfl hK hP hD hS hA (fun _ => rfl) (by decide) (by decide) (by decide) (Nat.le_of_ble_eq_true rfl) (Nat.le_of_ble_eq_true rfl) dX_init_35 (fun q3 cB H hK hP hD hS => ?_)
  have eAB := kz_same hK 0 1 rfl rfl
  subst eAB
  have hK : va_K D clT [(cA, .int)] s := hK.sub [0] rfl
  have hP : va_P D clT [(h, .inr (0, [.ref q0, .int 0, .ref q1, .ref q2, .null, .null, .null, .null, .int 0, .null, .int 0, .int 0, .int 0, .int 0])), (q0, .inl (cA, (1000, .inl (fun _ => 0)))), (q1, .inl (cA, (1001, .inl (fun _ => 0)))), (q2, .inl (cA, (1001, .inl (fun _ => 0)))), (q3, .inl (cA, (1001, .inl (fun _ => 0))))] H := hP
  have hD : va_D A [(h, .inr (0, [.ref q0, .int 0, .ref q1, .ref q2, .null, .null, .null, .null, .int 0, .null, .int 0, .int 0, .int 0, .int 0])), (q0, .inl (cA, (1000, .inl (fun _ => 0)))), (q1, .inl (cA, (1001, .inl (fun _ => 0)))), (q2, .inl (cA, (1001, .inl (fun _ => 0)))), (q3, .inl (cA, (1001, .inl (fun _ => 0))))] := hD
  refine va_putF (D := D) (ci := 0) (v := .ref q3) (ty := .array .int) (C := RX) (T := TX) (N := 14) hx hb hts hinw tyX tyX_ok nmX hown hK hP hD hS 0 rfl rfl 4 (by decide) (up wfX_19) (fun _ h9 => h9) rfl hin rfl (by decide +kernel) rfl rfl (Nat.le_of_ble_eq_true rfl) dX_init_37 (fun H locs hP hD hS => ?_)
  have hP : va_P D clT [(h, .inr (0, [.ref q0, .int 0, .ref q1, .ref q2, .ref q3, .null, .null, .null, .int 0, .null, .int 0, .int 0, .int 0, .int 0])), (q0, .inl (cA, (1000, .inl (fun _ => 0)))), (q1, .inl (cA, (1001, .inl (fun _ => 0)))), (q2, .inl (cA, (1001, .inl (fun _ => 0)))), (q3, .inl (cA, (1001, .inl (fun _ => 0))))] H := hP
  have hD : va_D A [(h, .inr (0, [.ref q0, .int 0, .ref q1, .ref q2, .ref q3, .null, .null, .null, .int 0, .null, .int 0, .int 0, .int 0, .int 0])), (q0, .inl (cA, (1000, .inl (fun _ => 0)))), (q1, .inl (cA, (1001, .inl (fun _ => 0)))), (q2, .inl (cA, (1001, .inl (fun _ => 0)))), (q3, .inl (cA, (1001, .inl (fun _ => 0))))] := hD
  refine lv_aload_n hx hb dX_init_40 rfl (lv_at hl 0 rfl) ?_
  refine lv_sipush (v := 1001) hx hb dX_init_41 (by decide) ?_
  refine va_newa (atype := .int) (N' := 1001) (a0 := (1001, .inl (fun _ => 0))) (ty := .int) hx hb (up wa_int) rfl hK hP hD hS hA (fun _ => rfl) (by decide) (by decide) (by decide) (Nat.le_of_ble_eq_true rfl) (Nat.le_of_ble_eq_true rfl) dX_init_44 (fun q4 cB H hK hP hD hS => ?_)
  have eAB := kz_same hK 0 1 rfl rfl
  subst eAB
  have hK : va_K D clT [(cA, .int)] s := hK.sub [0] rfl
  have hP : va_P D clT [(h, .inr (0, [.ref q0, .int 0, .ref q1, .ref q2, .ref q3, .null, .null, .null, .int 0, .null, .int 0, .int 0, .int 0, .int 0])), (q0, .inl (cA, (1000, .inl (fun _ => 0)))), (q1, .inl (cA, (1001, .inl (fun _ => 0)))), (q2, .inl (cA, (1001, .inl (fun _ => 0)))), (q3, .inl (cA, (1001, .inl (fun _ => 0)))), (q4, .inl (cA, (1001, .inl (fun _ => 0))))] H := hP
  have hD : va_D A [(h, .inr (0, [.ref q0, .int 0, .ref q1, .ref q2, .ref q3, .null, .null, .null, .int 0, .null, .int 0, .int 0, .int 0, .int 0])), (q0, .inl (cA, (1000, .inl (fun _ => 0)))), (q1, .inl (cA, (1001, .inl (fun _ => 0)))), (q2, .inl (cA, (1001, .inl (fun _ => 0)))), (q3, .inl (cA, (1001, .inl (fun _ => 0)))), (q4, .inl (cA, (1001, .inl (fun _ => 0))))] := hD
  refine va_putF (D := D) (ci := 0) (v := .ref q4) (ty := .array .int) (C := RX) (T := TX) (N := 14) hx hb hts hinw tyX tyX_ok nmX hown hK hP hD hS 0 rfl rfl 5 (by decide) (up wfX_22) (fun _ h9 => h9) rfl hin rfl (by decide +kernel) rfl rfl (Nat.le_of_ble_eq_true rfl) dX_init_46 (fun H locs hP hD hS => ?_)
  have hP : va_P D clT [(h, .inr (0, [.ref q0, .int 0, .ref q1, .ref q2, .ref q3, .ref q4, .null, .null, .int 0, .null, .int 0, .int 0, .int 0, .int 0])), (q0, .inl (cA, (1000, .inl (fun _ => 0)))), (q1, .inl (cA, (1001, .inl (fun _ => 0)))), (q2, .inl (cA, (1001, .inl (fun _ => 0)))), (q3, .inl (cA, (1001, .inl (fun _ => 0)))), (q4, .inl (cA, (1001, .inl (fun _ => 0))))] H := hP
  have hD : va_D A [(h, .inr (0, [.ref q0, .int 0, .ref q1, .ref q2, .ref q3, .ref q4, .null, .null, .int 0, .null, .int 0, .int 0, .int 0, .int 0])), (q0, .inl (cA, (1000, .inl (fun _ => 0)))), (q1, .inl (cA, (1001, .inl (fun _ => 0)))), (q2, .inl (cA, (1001, .inl (fun _ => 0)))), (q3, .inl (cA, (1001, .inl (fun _ => 0)))), (q4, .inl (cA, (1001, .inl (fun _ => 0))))] := hD
  refine lv_aload_n hx hb dX_init_49 rfl (lv_at hl 0 rfl) ?_
  refine lv_sipush (v := 1001) hx hb dX_init_50 (by decide) ?_
  refine va_newa (atype := .int) (N' := 1001) (a0 := (1001, .inl (fun _ => 0))) (ty := .int) hx hb (up wa_int) rfl hK hP hD hS hA (fun _ => rfl) (by decide) (by decide) (by decide) (Nat.le_of_ble_eq_true rfl) (Nat.le_of_ble_eq_true rfl) dX_init_53 (fun q5 cB H hK hP hD hS => ?_)
  have eAB := kz_same hK 0 1 rfl rfl
  subst eAB
  have hK : va_K D clT [(cA, .int)] s := hK.sub [0] rfl
  have hP : va_P D clT [(h, .inr (0, [.ref q0, .int 0, .ref q1, .ref q2, .ref q3, .ref q4, .null, .null, .int 0, .null, .int 0, .int 0, .int 0, .int 0])), (q0, .inl (cA, (1000, .inl (fun _ => 0)))), (q1, .inl (cA, (1001, .inl (fun _ => 0)))), (q2, .inl (cA, (1001, .inl (fun _ => 0)))), (q3, .inl (cA, (1001, .inl (fun _ => 0)))), (q4, .inl (cA, (1001, .inl (fun _ => 0)))), (q5, .inl (cA, (1001, .inl (fun _ => 0))))] H := hP
  have hD : va_D A [(h, .inr (0, [.ref q0, .int 0, .ref q1, .ref q2, .ref q3, .ref q4, .null, .null, .int 0, .null, .int 0, .int 0, .int 0, .int 0])), (q0, .inl (cA, (1000, .inl (fun _ => 0)))), (q1, .inl (cA, (1001, .inl (fun _ => 0)))), (q2, .inl (cA, (1001, .inl (fun _ => 0)))), (q3, .inl (cA, (1001, .inl (fun _ => 0)))), (q4, .inl (cA, (1001, .inl (fun _ => 0)))), (q5, .inl (cA, (1001, .inl (fun _ => 0))))] := hD
  refine va_putF (D := D) (ci := 0) (v := .ref q5) (ty := .array .int) (C := RX) (T := TX) (N := 14) hx hb hts hinw tyX tyX_ok nmX hown hK hP hD hS 0 rfl rfl 6 (by decide) (up wfX_25) (fun _ h9 => h9) rfl hin rfl (by decide +kernel) rfl rfl (Nat.le_of_ble_eq_true rfl) dX_init_55 (fun H locs hP hD hS => ?_)
  have hP : va_P D clT [(h, .inr (0, [.ref q0, .int 0, .ref q1, .ref q2, .ref q3, .ref q4, .ref q5, .null, .int 0, .null, .int 0, .int 0, .int 0, .int 0])), (q0, .inl (cA, (1000, .inl (fun _ => 0)))), (q1, .inl (cA, (1001, .inl (fun _ => 0)))), (q2, .inl (cA, (1001, .inl (fun _ => 0)))), (q3, .inl (cA, (1001, .inl (fun _ => 0)))), (q4, .inl (cA, (1001, .inl (fun _ => 0)))), (q5, .inl (cA, (1001, .inl (fun _ => 0))))] H := hP
  have hD : va_D A [(h, .inr (0, [.ref q0, .int 0, .ref q1, .ref q2, .ref q3, .ref q4, .ref q5, .null, .int 0, .null, .int 0, .int 0, .int 0, .int 0])), (q0, .inl (cA, (1000, .inl (fun _ => 0)))), (q1, .inl (cA, (1001, .inl (fun _ => 0)))), (q2, .inl (cA, (1001, .inl (fun _ => 0)))), (q3, .inl (cA, (1001, .inl (fun _ => 0)))), (q4, .inl (cA, (1001, .inl (fun _ => 0)))), (q5, .inl (cA, (1001, .inl (fun _ => 0))))] := hD
  refine lv_aload_n hx hb dX_init_58 rfl (lv_at hl 0 rfl) ?_
  refine lv_sipush (v := 1001) hx hb dX_init_59 (by decide) ?_
  refine va_newa (atype := .int) (N' := 1001) (a0 := (1001, .inl (fun _ => 0))) (ty := .int) hx hb (up wa_int) rfl hK hP hD hS hA (fun _ => rfl) (by decide) (by decide) (by decide) (Nat.le_of_ble_eq_true rfl) (Nat.le_of_ble_eq_true rfl) dX_init_62 (fun q6 cB H hK hP hD hS => ?_)
  have eAB := kz_same hK 0 1 rfl rfl
  subst eAB
  have hK : va_K D clT [(cA, .int)] s := hK.sub [0] rfl
  have hP : va_P D clT [(h, .inr (0, [.ref q0, .int 0, .ref q1, .ref q2, .ref q3, .ref q4, .ref q5, .null, .int 0, .null, .int 0, .int 0, .int 0, .int 0])), (q0, .inl (cA, (1000, .inl (fun _ => 0)))), (q1, .inl (cA, (1001, .inl (fun _ => 0)))), (q2, .inl (cA, (1001, .inl (fun _ => 0)))), (q3, .inl (cA, (1001, .inl (fun _ => 0)))), (q4, .inl (cA, (1001, .inl (fun _ => 0)))), (q5, .inl (cA, (1001, .inl (fun _ => 0)))), (q6, .inl (cA, (1001, .inl (fun _ => 0))))] H := hP
  have hD : va_D A [(h, .inr (0, [.ref q0, .int 0, .ref q1, .ref q2, .ref q3, .ref q4, .ref q5, .null, .int 0, .null, .int 0, .int 0, .int 0, .int 0])), (q0, .inl (cA, (1000, .inl (fun _ => 0)))), (q1, .inl (cA, (1001, .inl (fun _ => 0)))), (q2, .inl (cA, (1001, .inl (fun _ => 0)))), (q3, .inl (cA, (1001, .inl (fun _ => 0)))), (q4, .inl (cA, (1001, .inl (fun _ => 0)))), (q5, .inl (cA, (1001, .inl (fun _ => 0)))), (q6, .inl (cA, (1001, .inl (fun _ => 0))))] := hD
  refine va_putF (D := D) (ci := 0) (v := .ref q6) (ty := .array .int) (C := RX) (T := TX) (N := 14) hx hb hts hinw tyX tyX_ok nmX hown hK hP hD hS 0 rfl rfl 7 (by decide) (up wfX_28) (fun _ h9 => h9) rfl hin rfl (by decide +kernel) rfl rfl (Nat.le_of_ble_eq_true rfl) dX_init_64 (fun H locs hP hD hS => ?_)
  have hP : va_P D clT [(h, .inr (0, [.ref q0, .int 0, .ref q1, .ref q2, .ref q3, .ref q4, .ref q5, .ref q6, .int 0, .null, .int 0, .int 0, .int 0, .int 0])), (q0, .inl (cA, (1000, .inl (fun _ => 0)))), (q1, .inl (cA, (1001, .inl (fun _ => 0)))), (q2, .inl (cA, (1001, .inl (fun _ => 0)))), (q3, .inl (cA, (1001, .inl (fun _ => 0)))), (q4, .inl (cA, (1001, .inl (fun _ => 0)))), (q5, .inl (cA, (1001, .inl (fun _ => 0)))), (q6, .inl (cA, (1001, .inl (fun _ => 0))))] H := hP
  have hD : va_D A [(h, .inr (0, [.ref q0, .int 0, .ref q1, .ref q2, .ref q3, .ref q4, .ref q5, .ref q6, .int 0, .null, .int 0, .int 0, .int 0, .int 0])), (q0, .inl (cA, (1000, .inl (fun _ => 0)))), (q1, .inl (cA, (1001, .inl (fun _ => 0)))), (q2, .inl (cA, (1001, .inl (fun _ => 0)))), (q3, .inl (cA, (1001, .inl (fun _ => 0)))), (q4, .inl (cA, (1001, .inl (fun _ => 0)))), (q5, .inl (cA, (1001, .inl (fun _ => 0)))), (q6, .inl (cA, (1001, .inl (fun _ => 0))))] := hD
  refine lv_aload_n hx hb dX_init_67 rfl (lv_at hl 0 rfl) ?_
  refine lv_sipush (v := 1000) hx hb dX_init_68 (by decide) ?_
  refine va_newa (atype := .int) (N' := 1000) (a0 := (1000, .inl (fun _ => 0))) (ty := .int) hx hb (up wa_int) rfl hK hP hD hS hA (fun _ => rfl) (by decide) (by decide) (by decide) (Nat.le_of_ble_eq_true rfl) (Nat.le_of_ble_eq_true rfl) dX_init_71 (fun q7 cB H hK hP hD hS => ?_)
  have eAB := kz_same hK 0 1 rfl rfl
  subst eAB
  have hK : va_K D clT [(cA, .int)] s := hK.sub [0] rfl
  have hP : va_P D clT [(h, .inr (0, [.ref q0, .int 0, .ref q1, .ref q2, .ref q3, .ref q4, .ref q5, .ref q6, .int 0, .null, .int 0, .int 0, .int 0, .int 0])), (q0, .inl (cA, (1000, .inl (fun _ => 0)))), (q1, .inl (cA, (1001, .inl (fun _ => 0)))), (q2, .inl (cA, (1001, .inl (fun _ => 0)))), (q3, .inl (cA, (1001, .inl (fun _ => 0)))), (q4, .inl (cA, (1001, .inl (fun _ => 0)))), (q5, .inl (cA, (1001, .inl (fun _ => 0)))), (q6, .inl (cA, (1001, .inl (fun _ => 0)))), (q7, .inl (cA, (1000, .inl (fun _ => 0))))] H := hP
  have hD : va_D A [(h, .inr (0, [.ref q0, .int 0, .ref q1, .ref q2, .ref q3, .ref q4, .ref q5, .ref q6, .int 0, .null, .int 0, .int 0, .int 0, .int 0])), (q0, .inl (cA, (1000, .inl (fun _ => 0)))), (q1, .inl (cA, (1001, .inl (fun _ => 0)))), (q2, .inl (cA, (1001, .inl (fun _ => 0)))), (q3, .inl (cA, (1001, .inl (fun _ => 0)))), (q4, .inl (cA, (1001, .inl (fun _ => 0)))), (q5, .inl (cA, (1001, .inl (fun _ => 0)))), (q6, .inl (cA, (1001, .inl (fun _ => 0)))), (q7, .inl (cA, (1000, .inl (fun _ => 0))))] := hD
  refine va_putF (D := D) (ci := 0) (v := .ref q7) (ty := .array .int) (C := RX) (T := TX) (N := 14) hx hb hts hinw tyX tyX_ok nmX hown hK hP hD hS 0 rfl rfl 9 (by decide) (up wfX_31) (fun _ h9 => h9) rfl hin rfl (by decide +kernel) rfl rfl (Nat.le_of_ble_eq_true rfl) dX_init_73 (fun H locs hP hD hS => ?_)
  have hP : va_P D clT [(h, .inr (0, [.ref q0, .int 0, .ref q1, .ref q2, .ref q3, .ref q4, .ref q5, .ref q6, .int 0, .ref q7, .int 0, .int 0, .int 0, .int 0])), (q0, .inl (cA, (1000, .inl (fun _ => 0)))), (q1, .inl (cA, (1001, .inl (fun _ => 0)))), (q2, .inl (cA, (1001, .inl (fun _ => 0)))), (q3, .inl (cA, (1001, .inl (fun _ => 0)))), (q4, .inl (cA, (1001, .inl (fun _ => 0)))), (q5, .inl (cA, (1001, .inl (fun _ => 0)))), (q6, .inl (cA, (1001, .inl (fun _ => 0)))), (q7, .inl (cA, (1000, .inl (fun _ => 0))))] H := hP
  have hD : va_D A [(h, .inr (0, [.ref q0, .int 0, .ref q1, .ref q2, .ref q3, .ref q4, .ref q5, .ref q6, .int 0, .ref q7, .int 0, .int 0, .int 0, .int 0])), (q0, .inl (cA, (1000, .inl (fun _ => 0)))), (q1, .inl (cA, (1001, .inl (fun _ => 0)))), (q2, .inl (cA, (1001, .inl (fun _ => 0)))), (q3, .inl (cA, (1001, .inl (fun _ => 0)))), (q4, .inl (cA, (1001, .inl (fun _ => 0)))), (q5, .inl (cA, (1001, .inl (fun _ => 0)))), (q6, .inl (cA, (1001, .inl (fun _ => 0)))), (q7, .inl (cA, (1000, .inl (fun _ => 0))))] := hD
  refine W.widen (k := 8) (n := 8006) (Nat.le_of_ble_eq_true rfl) (Nat.le_of_ble_eq_true rfl) ?_
  exact W.vret hx hb hr (fun t ht hW => ⟨⟨(cA, fun k => match k with | 0 => q0 | 2 => q1 | 3 => q2 | 4 => q3 | 5 => q4 | 6 => q5 | 7 => q6 | 9 => q7 | _ => q0), rfl, trivial, va_K.moved hW.alike hK, by rw [ht]; exact hP, hD⟩, hS.F ht⟩) hS.2.2 dX_init_76
set_option maxHeartbeats 4000000 in
set_option maxRecDepth 100000 in
theorem tM_init (l : Launch) (z : kz_Z) (D : va_G) (h sz : Nat) : Met l yM_init (Cond.code yM_init cM_init 1 none :: TT) ({ frames := 1, cells := 8, slots := 15700, locals := 12 }) (va_Pc [.ref h] (fun U => U.heap.size = sz ∧ va_P D clT [(h, .inr (1, [.int 0, .null, .int 0, .int 0, .null, .null, .null, .null, .null, .null, .null, .int 0, .null, .null, .null, .int 0, .int 0, .int 0, .int 0, .int 0]))] U.heap ∧ va_K D clT [] U ∧ va_D (fun _ => True) [(h, .inr (1, [.int 0, .null, .int 0, .int 0, .null, .null, .null, .null, .null, .null, .null, .int 0, .null, .null, .null, .int 0, .int 0, .int 0, .int 0, .int 0]))] ∧ tkR z U)) (va_Qv (fun _ : ClassId × (Nat → Nat) => True) (fun u t => va_K D clT [(u.1, .int)] t ∧ va_P D clT (wM z u.1 h u.2 (fun _ => 0) (fun _ _ => 0)) t.heap ∧ va_D (va_A [(h, .inr (1, [.int 0, .null, .int 0, .int 0, .null, .null, .null, .null, .null, .null, .null, .int 0, .null, .null, .null, .int 0, .int 0, .int 0, .int 0, .int 0]))] sz) (wM z u.1 h u.2 (fun _ => 0) (fun _ _ => 0))) (va_A [(h, .inr (1, [.int 0, .null, .int 0, .int 0, .null, .null, .null, .null, .null, .null, .null, .int 0, .null, .null, .null, .int 0, .int 0, .int 0, .int 0, .int 0]))] sz)) 8 15700 (va_A [(h, .inr (1, [.int 0, .null, .int 0, .int 0, .null, .null, .null, .null, .null, .null, .null, .int 0, .null, .null, .null, .int 0, .int 0, .int 0, .int 0, .int 0]))] sz) := by
  refine Met.ofW (cc := cM_init) (maxL := 1) (ret := none) (by decide) rfl ?_
  intro p e s m args below meth c s₁ B hml hv
  obtain ⟨rfl, hsz, hP, hK, hD0, htr⟩ := hv
  have hx := B.exec
  have hb := B.bytes
  have hr := B.returns
  have hts := atoms_spec (ws := Cond.code yM_init cM_init 1 none :: TT) B.pre
  have up : ∀ {w : Cond}, w ∈ TT → w.before ([Value.ref h] : List Value).toArray s = true := fun h => hts _ (List.mem_cons_of_mem _ h)
  have hown : s.vm.findClass RM = some m.cls := findClass_of_methodNamed B.named
  have hlocks := B.notSynchronized
  have hin : meth.name = "<init>" := (name_of_methodNamed B.named B.method).1
  subst hsz
  have hD := hD0.self (sz := s.heap.size)
  generalize hAe : va_A [(h, .inr (1, [.int 0, .null, .int 0, .int 0, .null, .null, .null, .null, .null, .null, .null, .int 0, .null, .null, .null, .int 0, .int 0, .int 0, .int 0, .int 0]))] s.heap.size = A at hD ⊢
  have hA : ∀ q : Nat, s.heap.size ≤ q → A q := fun q h => by rw [← hAe]; exact Or.inr h
  have hS : va_S A s.heap s.heap [] := va_S.rf
  have hl := lv_entry ([.ref h]) (n := 1) (Nat.le_of_ble_eq_true rfl)
  rw [lg_entry_eq]
  generalize (lg_sl ([.ref h]) ++ List.replicate (1 - (lg_sl ([.ref h])).length) Slot.unset).toArray = ls at hl ⊢
  have hl : lv_has ls 1 [(0, .ref h)] := hl
  have hinw : ∀ w ∈ u_ws RM TM 20, w ∈ (Cond.code yM_init cM_init 1 none :: TT) := fun w hw => List.mem_cons_of_mem _ (inM w hw)
  refine lv_aload_n hx hb dM_init_0 rfl (lv_at hl 0 rfl) ?_
  refine W.objInit hx hb hown (up woM_l) (up wo_i) (up wo_c) rfl (by rw [hml]; exact hl.1) rfl dM_init_1 (Nat.le_of_ble_eq_true rfl) (Nat.le_of_ble_eq_true rfl) ?_
  refine W.eq (g2 := F0 m 4 ls []) rfl ?_
  refine lv_aload_n hx hb dM_init_4 rfl (lv_at hl 0 rfl) ?_
  refine lv_sipush (v := 1000) hx hb dM_init_5 (by decide) ?_
  refine va_newa (atype := .int) (N' := 1000) (a0 := (1000, .inl (fun _ => 0))) (ty := .int) hx hb (up wa_int) rfl hK hP hD hS hA (fun _ => rfl) (by decide) (by decide) (by decide) (Nat.le_of_ble_eq_true rfl) (Nat.le_of_ble_eq_true rfl) dM_init_8 (fun q0 cA H hK hP hD hS => ?_)
  have hK : va_K D clT [(cA, .int)] s := hK
  have hP : va_P D clT [(h, .inr (1, [.int 0, .null, .int 0, .int 0, .null, .null, .null, .null, .null, .null, .null, .int 0, .null, .null, .null, .int 0, .int 0, .int 0, .int 0, .int 0])), (q0, .inl (cA, (1000, .inl (fun _ => 0))))] H := hP
  have hD : va_D A [(h, .inr (1, [.int 0, .null, .int 0, .int 0, .null, .null, .null, .null, .null, .null, .null, .int 0, .null, .null, .null, .int 0, .int 0, .int 0, .int 0, .int 0])), (q0, .inl (cA, (1000, .inl (fun _ => 0))))] := hD
  refine va_putF (D := D) (ci := 1) (v := .ref q0) (ty := .array .int) (C := RM) (T := TM) (N := 20) hx hb hts hinw tyM tyM_ok nmM hown hK hP hD hS 0 rfl rfl 1 (by decide) (up wfM_7) (fun _ h9 => h9) rfl hin rfl (by decide +kernel) rfl rfl (Nat.le_of_ble_eq_true rfl) dM_init_10 (fun H locs hP hD hS => ?_)
  have hP : va_P D clT [(h, .inr (1, [.int 0, .ref q0, .int 0, .int 0, .null, .null, .null, .null, .null, .null, .null, .int 0, .null, .null, .null, .int 0, .int 0, .int 0, .int 0, .int 0])), (q0, .inl (cA, (1000, .inl (fun _ => 0))))] H := hP
  have hD : va_D A [(h, .inr (1, [.int 0, .ref q0, .int 0, .int 0, .null, .null, .null, .null, .null, .null, .null, .int 0, .null, .null, .null, .int 0, .int 0, .int 0, .int 0, .int 0])), (q0, .inl (cA, (1000, .inl (fun _ => 0))))] := hD
  refine lv_aload_n hx hb dM_init_13 rfl (lv_at hl 0 rfl) ?_
  refine lv_sipush (v := 2100) hx hb dM_init_14 (by decide) ?_
  refine va_newa (atype := .int) (N' := 2100) (a0 := (2100, .inl (fun _ => 0))) (ty := .int) hx hb (up wa_int) rfl hK hP hD hS hA (fun _ => rfl) (by decide) (by decide) (by decide) (Nat.le_of_ble_eq_true rfl) (Nat.le_of_ble_eq_true rfl) dM_init_17 (fun q1 cB H hK hP hD hS => ?_)
  have eAB := kz_same hK 0 1 rfl rfl
  subst eAB
  have hK : va_K D clT [(cA, .int)] s := hK.sub [0] rfl
  have hP : va_P D clT [(h, .inr (1, [.int 0, .ref q0, .int 0, .int 0, .null, .null, .null, .null, .null, .null, .null, .int 0, .null, .null, .null, .int 0, .int 0, .int 0, .int 0, .int 0])), (q0, .inl (cA, (1000, .inl (fun _ => 0)))), (q1, .inl (cA, (2100, .inl (fun _ => 0))))] H := hP
  have hD : va_D A [(h, .inr (1, [.int 0, .ref q0, .int 0, .int 0, .null, .null, .null, .null, .null, .null, .null, .int 0, .null, .null, .null, .int 0, .int 0, .int 0, .int 0, .int 0])), (q0, .inl (cA, (1000, .inl (fun _ => 0)))), (q1, .inl (cA, (2100, .inl (fun _ => 0))))] := hD
  refine va_putF (D := D) (ci := 1) (v := .ref q1) (ty := .array .int) (C := RM) (T := TM) (N := 20) hx hb hts hinw tyM tyM_ok nmM hown hK hP hD hS 0 rfl rfl 4 (by decide) (up wfM_13) (fun _ h9 => h9) rfl hin rfl (by decide +kernel) rfl rfl (Nat.le_of_ble_eq_true rfl) dM_init_19 (fun H locs hP hD hS => ?_)
  have hP : va_P D clT [(h, .inr (1, [.int 0, .ref q0, .int 0, .int 0, .ref q1, .null, .null, .null, .null, .null, .null, .int 0, .null, .null, .null, .int 0, .int 0, .int 0, .int 0, .int 0])), (q0, .inl (cA, (1000, .inl (fun _ => 0)))), (q1, .inl (cA, (2100, .inl (fun _ => 0))))] H := hP
  have hD : va_D A [(h, .inr (1, [.int 0, .ref q0, .int 0, .int 0, .ref q1, .null, .null, .null, .null, .null, .null, .int 0, .null, .null, .null, .int 0, .int 0, .int 0, .int 0, .int 0])), (q0, .inl (cA, (1000, .inl (fun _ => 0)))), (q1, .inl (cA, (2100, .inl (fun _ => 0))))] := hD
  refine lv_aload_n hx hb dM_init_22 rfl (lv_at hl 0 rfl) ?_
  refine lv_sipush (v := 2100) hx hb dM_init_23 (by decide) ?_
  refine va_newa (atype := .int) (N' := 2100) (a0 := (2100, .inl (fun _ => 0))) (ty := .int) hx hb (up wa_int) rfl hK hP hD hS hA (fun _ => rfl) (by decide) (by decide) (by decide) (Nat.le_of_ble_eq_true rfl) (Nat.le_of_ble_eq_true rfl) dM_init_26 (fun q2 cB H hK hP hD hS => ?_)
  have eAB := kz_same hK 0 1 rfl rfl
  subst eAB
  have hK : va_K D clT [(cA, .int)] s := hK.sub [0] rfl
  have hP : va_P D clT [(h, .inr (1, [.int 0, .ref q0, .int 0, .int 0, .ref q1, .null, .null, .null, .null, .null, .null, .int 0, .null, .null, .null, .int 0, .int 0, .int 0, .int 0, .int 0])), (q0, .inl (cA, (1000, .inl (fun _ => 0)))), (q1, .inl (cA, (2100, .inl (fun _ => 0)))), (q2, .inl (cA, (2100, .inl (fun _ => 0))))] H := hP
  have hD : va_D A [(h, .inr (1, [.int 0, .ref q0, .int 0, .int 0, .ref q1, .null, .null, .null, .null, .null, .null, .int 0, .null, .null, .null, .int 0, .int 0, .int 0, .int 0, .int 0])), (q0, .inl (cA, (1000, .inl (fun _ => 0)))), (q1, .inl (cA, (2100, .inl (fun _ => 0)))), (q2, .inl (cA, (2100, .inl (fun _ => 0))))] := hD
  refine va_putF (D := D) (ci := 1) (v := .ref q2) (ty := .array .int) (C := RM) (T := TM) (N := 20) hx hb hts hinw tyM tyM_ok nmM hown hK hP hD hS 0 rfl rfl 5 (by decide) (up wfM_16) (fun _ h9 => h9) rfl hin rfl (by decide +kernel) rfl rfl (Nat.le_of_ble_eq_true rfl) dM_init_28 (fun H locs hP hD hS => ?_)
  have hP : va_P D clT [(h, .inr (1, [.int 0, .ref q0, .int 0, .int 0, .ref q1, .ref q2, .null, .null, .null, .null, .null, .int 0, .null, .null, .null, .int 0, .int 0, .int 0, .int 0, .int 0])), (q0, .inl (cA, (1000, .inl (fun _ => 0)))), (q1, .inl (cA, (2100, .inl (fun _ => 0)))), (q2, .inl (cA, (2100, .inl (fun _ => 0))))] H := hP
  have hD : va_D A [(h, .inr (1, [.int 0, .ref q0, .int 0, .int 0, .ref q1, .ref q2, .null, .null, .null, .null, .null, .int 0, .null, .null, .null, .int 0, .int 0, .int 0, .int 0, .int 0])), (q0, .inl (cA, (1000, .inl (fun _ => 0)))), (q1, .inl (cA, (2100, .inl (fun _ => 0)))), (q2, .inl (cA, (2100, .inl (fun _ => 0))))] := hD
  refine lv_aload_n hx hb dM_init_31 rfl (lv_at hl 0 rfl) ?_
  refine lv_sipush (v := 2100) hx hb dM_init_32 (by decide) ?_
  refine va_newa (atype := .int) (N' := 2100) (a0 := (2100, .inl (fun _ => 0))) (ty := .int) hx hb (up wa_int) rfl hK hP hD hS hA (fun _ => rfl) (by decide) (by decide) (by decide) (Nat.le_of_ble_eq_true rfl) (Nat.le_of_ble_eq_true rfl) dM_init_35 (fun q3 cB H hK hP hD hS => ?_)
  have eAB := kz_same hK 0 1 rfl rfl
  subst eAB
  have hK : va_K D clT [(cA, .int)] s := hK.sub [0] rfl
  have hP : va_P D clT [(h, .inr (1, [.int 0, .ref q0, .int 0, .int 0, .ref q1, .ref q2, .null, .null, .null, .null, .null, .int 0, .null, .null, .null, .int 0, .int 0, .int 0, .int 0, .int 0])), (q0, .inl (cA, (1000, .inl (fun _ => 0)))), (q1, .inl (cA, (2100, .inl (fun _ => 0)))), (q2, .inl (cA, (2100, .inl (fun _ => 0)))), (q3, .inl (cA, (2100, .inl (fun _ => 0))))] H := hP
  have hD : va_D A [(h, .inr (1, [.int 0, .ref q0, .int 0, .int 0, .ref q1, .ref q2, .null, .null, .null, .null, .null, .int 0, .null, .null, .null, .int 0, .int 0, .int 0, .int 0, .int 0])), (q0, .inl (cA, (1000, .inl (fun _ => 0)))), (q1, .inl (cA, (2100, .inl (fun _ => 0)))), (q2, .inl (cA, (2100, .inl (fun _ => 0)))), (q3, .inl (cA, (2100, .inl (fun _ => 0))))] := hD
  refine va_putF (D := D) (ci := 1) (v := .ref q3) (ty := .array .int) (C := RM) (T := TM) (N := 20) hx hb hts hinw tyM tyM_ok nmM hown hK hP hD hS 0 rfl rfl 6 (by decide) (up wfM_19) (fun _ h9 => h9) rfl hin rfl (by decide +kernel) rfl rfl (Nat.le_of_ble_eq_true rfl) dM_init_37 (fun H locs hP hD hS => ?_)
  have hP : va_P D clT [(h, .inr (1, [.int 0, .ref q0, .int 0, .int 0, .ref q1, .ref q2, .ref q3, .null, .null, .null, .null, .int 0, .null, .null, .null, .int 0, .int 0, .int 0, .int 0, .int 0])), (q0, .inl (cA, (1000, .inl (fun _ => 0)))), (q1, .inl (cA, (2100, .inl (fun _ => 0)))), (q2, .inl (cA, (2100, .inl (fun _ => 0)))), (q3, .inl (cA, (2100, .inl (fun _ => 0))))] H := hP
  have hD : va_D A [(h, .inr (1, [.int 0, .ref q0, .int 0, .int 0, .ref q1, .ref q2, .ref q3, .null, .null, .null, .null, .int 0, .null, .null, .null, .int 0, .int 0, .int 0, .int 0, .int 0])), (q0, .inl (cA, (1000, .inl (fun _ => 0)))), (q1, .inl (cA, (2100, .inl (fun _ => 0)))), (q2, .inl (cA, (2100, .inl (fun _ => 0)))), (q3, .inl (cA, (2100, .inl (fun _ => 0))))] := hD
  refine lv_aload_n hx hb dM_init_40 rfl (lv_at hl 0 rfl) ?_
  refine lv_sipush (v := 2100) hx hb dM_init_41 (by decide) ?_
  refine va_newa (atype := .int) (N' := 2100) (a0 := (2100, .inl (fun _ => 0))) (ty := .int) hx hb (up wa_int) rfl hK hP hD hS hA (fun _ => rfl) (by decide) (by decide) (by decide) (Nat.le_of_ble_eq_true rfl) (Nat.le_of_ble_eq_true rfl) dM_init_44 (fun q4 cB H hK hP hD hS => ?_)
  have eAB := kz_same hK 0 1 rfl rfl
  subst eAB
  have hK : va_K D clT [(cA, .int)] s := hK.sub [0] rfl
  have hP : va_P D clT [(h, .inr (1, [.int 0, .ref q0, .int 0, .int 0, .ref q1, .ref q2, .ref q3, .null, .null, .null, .null, .int 0, .null, .null, .null, .int 0, .int 0, .int 0, .int 0, .int 0])), (q0, .inl (cA, (1000, .inl (fun _ => 0)))), (q1, .inl (cA, (2100, .inl (fun _ => 0)))), (q2, .inl (cA, (2100, .inl (fun _ => 0)))), (q3, .inl (cA, (2100, .inl (fun _ => 0)))), (q4, .inl (cA, (2100, .inl (fun _ => 0))))] H := hP
  have hD : va_D A [(h, .inr (1, [.int 0, .ref q0, .int 0, .int 0, .ref q1, .ref q2, .ref q3, .null, .null, .null, .null, .int 0, .null, .null, .null, .int 0, .int 0, .int 0, .int 0, .int 0])), (q0, .inl (cA, (1000, .inl (fun _ => 0)))), (q1, .inl (cA, (2100, .inl (fun _ => 0)))), (q2, .inl (cA, (2100, .inl (fun _ => 0)))), (q3, .inl (cA, (2100, .inl (fun _ => 0)))), (q4, .inl (cA, (2100, .inl (fun _ => 0))))] := hD
  refine va_putF (D := D) (ci := 1) (v := .ref q4) (ty := .array .int) (C := RM) (T := TM) (N := 20) hx hb hts hinw tyM tyM_ok nmM hown hK hP hD hS 0 rfl rfl 7 (by decide) (up wfM_22) (fun _ h9 => h9) rfl hin rfl (by decide +kernel) rfl rfl (Nat.le_of_ble_eq_true rfl) dM_init_46 (fun H locs hP hD hS => ?_)
  have hP : va_P D clT [(h, .inr (1, [.int 0, .ref q0, .int 0, .int 0, .ref q1, .ref q2, .ref q3, .ref q4, .null, .null, .null, .int 0, .null, .null, .null, .int 0, .int 0, .int 0, .int 0, .int 0])), (q0, .inl (cA, (1000, .inl (fun _ => 0)))), (q1, .inl (cA, (2100, .inl (fun _ => 0)))), (q2, .inl (cA, (2100, .inl (fun _ => 0)))), (q3, .inl (cA, (2100, .inl (fun _ => 0)))), (q4, .inl (cA, (2100, .inl (fun _ => 0))))] H := hP
  have hD : va_D A [(h, .inr (1, [.int 0, .ref q0, .int 0, .int 0, .ref q1, .ref q2, .ref q3, .ref q4, .null, .null, .null, .int 0, .null, .null, .null, .int 0, .int 0, .int 0, .int 0, .int 0])), (q0, .inl (cA, (1000, .inl (fun _ => 0)))), (q1, .inl (cA, (2100, .inl (fun _ => 0)))), (q2, .inl (cA, (2100, .inl (fun _ => 0)))), (q3, .inl (cA, (2100, .inl (fun _ => 0)))), (q4, .inl (cA, (2100, .inl (fun _ => 0))))] := hD
  refine lv_aload_n hx hb dM_init_49 rfl (lv_at hl 0 rfl) ?_
  refine lv_sipush (v := 2100) hx hb dM_init_50 (by decide) ?_
  refine va_newa (atype := .int) (N' := 2100) (a0 := (2100, .inl (fun _ => 0))) (ty := .int) hx hb (up wa_int) rfl hK hP hD hS hA (fun _ => rfl) (by decide) (by decide) (by decide) (Nat.le_of_ble_eq_true rfl) (Nat.le_of_ble_eq_true rfl) dM_init_53 (fun q5 cB H hK hP hD hS => ?_)
  have eAB := kz_same hK 0 1 rfl rfl
  subst eAB
  have hK : va_K D clT [(cA, .int)] s := hK.sub [0] rfl
  have hP : va_P D clT [(h, .inr (1, [.int 0, .ref q0, .int 0, .int 0, .ref q1, .ref q2, .ref q3, .ref q4, .null, .null, .null, .int 0, .null, .null, .null, .int 0, .int 0, .int 0, .int 0, .int 0])), (q0, .inl (cA, (1000, .inl (fun _ => 0)))), (q1, .inl (cA, (2100, .inl (fun _ => 0)))), (q2, .inl (cA, (2100, .inl (fun _ => 0)))), (q3, .inl (cA, (2100, .inl (fun _ => 0)))), (q4, .inl (cA, (2100, .inl (fun _ => 0)))), (q5, .inl (cA, (2100, .inl (fun _ => 0))))] H := hP
  have hD : va_D A [(h, .inr (1, [.int 0, .ref q0, .int 0, .int 0, .ref q1, .ref q2, .ref q3, .ref q4, .null, .null, .null, .int 0, .null, .null, .null, .int 0, .int 0, .int 0, .int 0, .int 0])), (q0, .inl (cA, (1000, .inl (fun _ => 0)))), (q1, .inl (cA, (2100, .inl (fun _ => 0)))), (q2, .inl (cA, (2100, .inl (fun _ => 0)))), (q3, .inl (cA, (2100, .inl (fun _ => 0)))), (q4, .inl (cA, (2100, .inl (fun _ => 0)))), (q5, .inl (cA, (2100, .inl (fun _ => 0))))] := hD
  refine va_putF (D := D) (ci := 1) (v := .ref q5) (ty := .array .int) (C := RM) (T := TM) (N := 20) hx hb hts hinw tyM tyM_ok nmM hown hK hP hD hS 0 rfl rfl 8 (by decide) (up wfM_25) (fun _ h9 => h9) rfl hin rfl (by decide +kernel) rfl rfl (Nat.le_of_ble_eq_true rfl) dM_init_55 (fun H locs hP hD hS => ?_)
  have hP : va_P D clT [(h, .inr (1, [.int 0, .ref q0, .int 0, .int 0, .ref q1, .ref q2, .ref q3, .ref q4, .ref q5, .null, .null, .int 0, .null, .null, .null, .int 0, .int 0, .int 0, .int 0, .int 0])), (q0, .inl (cA, (1000, .inl (fun _ => 0)))), (q1, .inl (cA, (2100, .inl (fun _ => 0)))), (q2, .inl (cA, (2100, .inl (fun _ => 0)))), (q3, .inl (cA, (2100, .inl (fun _ => 0)))), (q4, .inl (cA, (2100, .inl (fun _ => 0)))), (q5, .inl (cA, (2100, .inl (fun _ => 0))))] H := hP
  have hD : va_D A [(h, .inr (1, [.int 0, .ref q0, .int 0, .int 0, .ref q1, .ref q2, .ref q3, .ref q4, .ref q5, .null, .null, .int 0, .null, .null, .null, .int 0, .int 0, .int 0, .int 0, .int 0])), (q0, .inl (cA, (1000, .inl (fun _ => 0)))), (q1, .inl (cA, (2100, .inl (fun _ => 0)))), (q2, .inl (cA, (2100, .inl (fun _ => 0)))), (q3, .inl (cA, (2100, .inl (fun _ => 0)))), (q4, .inl (cA, (2100, .inl (fun _ => 0)))), (q5, .inl (cA, (2100, .inl (fun _ => 0))))] := hD
  refine lv_aload_n hx hb dM_init_58 rfl (lv_at hl 0 rfl) ?_
  refine lv_sipush (v := 2100) hx hb dM_init_59 (by decide) ?_
  refine va_newa (atype := .int) (N' := 2100) (a0 := (2100, .inl (fun _ => 0))) (ty := .int) hx hb (up wa_int) rfl hK hP hD hS hA (fun _ => rfl) (by decide) (by decide) (by decide) (Nat.le_of_ble_eq_true rfl) (Nat.le_of_ble_eq_true rfl) dM_init_62 (fun q6 cB H hK hP hD hS => ?_)
  have eAB := kz_same hK 0 1 rfl rfl
  subst eAB
  have hK : va_K D clT [(cA, .int)] s := hK.sub [0] rfl
  have hP : va_P D clT [(h, .inr (1, [.int 0, .ref q0, .int 0, .int 0, .ref q1, .ref q2, .ref q3, .ref q4, .ref q5, .null, .null, .int 0, .null, .null, .null, .int 0, .int 0, .int 0, .int 0, .int 0])), (q0, .inl (cA, (1000, .inl (fun _ => 0)))), (q1, .inl (cA, (2100, .inl (fun _ => 0)))), (q2, .inl (cA, (2100, .inl (fun _ => 0)))), (q3, .inl (cA, (2100, .inl (fun _ => 0)))), (q4, .inl (cA, (2100, .inl (fun _ => 0)))), (q5, .inl (cA, (2100, .inl (fun _ => 0)))), (q6, .inl (cA, (2100, .inl (fun _ => 0))))] H := hP
  have hD : va_D A [(h, .inr (1, [.int 0, .ref q0, .int 0, .int 0, .ref q1, .ref q2, .ref q3, .ref q4, .ref q5, .null, .null, .int 0, .null, .null, .null, .int 0, .int 0, .int 0, .int 0, .int 0])), (q0, .inl (cA, (1000, .inl (fun _ => 0)))), (q1, .inl (cA, (2100, .inl (fun _ => 0)))), (q2, .inl (cA, (2100, .inl (fun _ => 0)))), (q3, .inl (cA, (2100, .inl (fun _ => 0)))), (q4, .inl (cA, (2100, .inl (fun _ => 0)))), (q5, .inl (cA, (2100, .inl (fun _ => 0)))), (q6, .inl (cA, (2100, .inl (fun _ => 0))))] := hD
  refine va_putF (D := D) (ci := 1) (v := .ref q6) (ty := .array .int) (C := RM) (T := TM) (N := 20) hx hb hts hinw tyM tyM_ok nmM hown hK hP hD hS 0 rfl rfl 9 (by decide) (up wfM_28) (fun _ h9 => h9) rfl hin rfl (by decide +kernel) rfl rfl (Nat.le_of_ble_eq_true rfl) dM_init_64 (fun H locs hP hD hS => ?_)
  have hP : va_P D clT [(h, .inr (1, [.int 0, .ref q0, .int 0, .int 0, .ref q1, .ref q2, .ref q3, .ref q4, .ref q5, .ref q6, .null, .int 0, .null, .null, .null, .int 0, .int 0, .int 0, .int 0, .int 0])), (q0, .inl (cA, (1000, .inl (fun _ => 0)))), (q1, .inl (cA, (2100, .inl (fun _ => 0)))), (q2, .inl (cA, (2100, .inl (fun _ => 0)))), (q3, .inl (cA, (2100, .inl (fun _ => 0)))), (q4, .inl (cA, (2100, .inl (fun _ => 0)))), (q5, .inl (cA, (2100, .inl (fun _ => 0)))), (q6, .inl (cA, (2100, .inl (fun _ => 0))))] H := hP
  have hD : va_D A [(h, .inr (1, [.int 0, .ref q0, .int 0, .int 0, .ref q1, .ref q2, .ref q3, .ref q4, .ref q5, .ref q6, .null, .int 0, .null, .null, .null, .int 0, .int 0, .int 0, .int 0, .int 0])), (q0, .inl (cA, (1000, .inl (fun _ => 0)))), (q1, .inl (cA, (2100, .inl (fun _ => 0)))), (q2, .inl (cA, (2100, .inl (fun _ => 0)))), (q3, .inl (cA, (2100, .inl (fun _ => 0)))), (q4, .inl (cA, (2100, .inl (fun _ => 0)))), (q5, .inl (cA, (2100, .inl (fun _ => 0)))), (q6, .inl (cA, (2100, .inl (fun _ => 0))))] := hD
  refine lv_aload_n hx hb dM_init_67 rfl (lv_at hl 0 rfl) ?_
  refine lv_sipush (v := 2100) hx hb dM_init_68 (by decide) ?_
  refine va_newa (atype := .int) (N' := 2100) (a0 := (2100, .inl (fun _ => 0))) (ty := .int) hx hb (up wa_int) rfl hK hP hD hS hA (fun _ => rfl) (by decide) (by decide) (by decide) (Nat.le_of_ble_eq_true rfl) (Nat.le_of_ble_eq_true rfl) dM_init_71 (fun q7 cB H hK hP hD hS => ?_)
  have eAB := kz_same hK 0 1 rfl rfl
  subst eAB
  have hK : va_K D clT [(cA, .int)] s := hK.sub [0] rfl
  have hP : va_P D clT [(h, .inr (1, [.int 0, .ref q0, .int 0, .int 0, .ref q1, .ref q2, .ref q3, .ref q4, .ref q5, .ref q6, .null, .int 0, .null, .null, .null, .int 0, .int 0, .int 0, .int 0, .int 0])), (q0, .inl (cA, (1000, .inl (fun _ => 0)))), (q1, .inl (cA, (2100, .inl (fun _ => 0)))), (q2, .inl (cA, (2100, .inl (fun _ => 0)))), (q3, .inl (cA, (2100, .inl (fun _ => 0)))), (q4, .inl (cA, (2100, .inl (fun _ => 0)))), (q5, .inl (cA, (2100, .inl (fun _ => 0)))), (q6, .inl (cA, (2100, .inl (fun _ => 0)))), (q7, .inl (cA, (2100, .inl (fun _ => 0))))] H := hP
  have hD : va_D A [(h, .inr (1, [.int 0, .ref q0, .int 0, .int 0, .ref q1, .ref q2, .ref q3, .ref q4, .ref q5, .ref q6, .null, .int 0, .null, .null, .null, .int 0, .int 0, .int 0, .int 0, .int 0])), (q0, .inl (cA, (1000, .inl (fun _ => 0)))), (q1, .inl (cA, (2100, .inl (fun _ => 0)))), (q2, .inl (cA, (2100, .inl (fun _ => 0)))), (q3, .inl (cA, (2100, .inl (fun _ => 0)))), (q4, .inl (cA, (2100, .inl (fun _ => 0)))), (q5, .inl (cA, (2100, .inl (fun _ => 0)))), (q6, .inl (cA, (2100, .inl (fun _ => 0)))), (q7, .inl (cA, (2100, .inl (fun _ => 0))))] := hD
  refine va_putF (D := D) (ci := 1) (v := .ref q7) (ty := .array .int) (C := RM) (T := TM) (N := 20) hx hb hts hinw tyM tyM_ok nmM hown hK hP hD hS 0 rfl rfl 10 (by decide) (up wfM_31) (fun _ h9 => h9) rfl hin rfl (by decide +kernel) rfl rfl (Nat.le_of_ble_eq_true rfl) dM_init_73 (fun H locs hP hD hS => ?_)
  have hP : va_P D clT [(h, .inr (1, [.int 0, .ref q0, .int 0, .int 0, .ref q1, .ref q2, .ref q3, .ref q4, .ref q5, .ref q6, .ref q7, .int 0, .null, .null, .null, .int 0, .int 0, .int 0, .int 0, .int 0])), (q0, .inl (cA, (1000, .inl (fun _ => 0)))), (q1, .inl (cA, (2100, .inl (fun _ => 0)))), (q2, .inl (cA, (2100, .inl (fun _ => 0)))), (q3, .inl (cA, (2100, .inl (fun _ => 0)))), (q4, .inl (cA, (2100, .inl (fun _ => 0)))), (q5, .inl (cA, (2100, .inl (fun _ => 0)))), (q6, .inl (cA, (2100, .inl (fun _ => 0)))), (q7, .inl (cA, (2100, .inl (fun _ => 0))))] H := hP
  have hD : va_D A [(h, .inr (1, [.int 0, .ref q0, .int 0, .int 0, .ref q1, .ref q2, .ref q3, .ref q4, .ref q5, .ref q6, .ref q7, .int 0, .null, .null, .null, .int 0, .int 0, .int 0, .int 0, .int 0])), (q0, .inl (cA, (1000, .inl (fun _ => 0)))), (q1, .inl (cA, (2100, .inl (fun _ => 0)))), (q2, .inl (cA, (2100, .inl (fun _ => 0)))), (q3, .inl (cA, (2100, .inl (fun _ => 0)))), (q4, .inl (cA, (2100, .inl (fun _ => 0)))), (q5, .inl (cA, (2100, .inl (fun _ => 0)))), (q6, .inl (cA, (2100, .inl (fun _ => 0)))), (q7, .inl (cA, (2100, .inl (fun _ => 0))))] := hD
  refine lv_aload_n hx hb dM_init_76 rfl (lv_at hl 0 rfl) ?_
  refine va_ldcS hx hb hown (rK_7 htr) dM_init_77 ?_
  refine va_putF (D := D) (ci := 1) (v := .ref (z.2.1 7)) (ty := .object "java/lang/String") (C := RM) (T := TM) (N := 20) hx hb hts hinw tyM tyM_ok nmM hown hK hP hD hS 0 rfl rfl 12 (by decide) (up wfM_36) (fun _ h9 => h9) rfl hin rfl (by decide +kernel) rfl rfl (Nat.le_of_ble_eq_true rfl) dM_init_79 (fun H locs hP hD hS => ?_)
  have hP : va_P D clT [(h, .inr (1, [.int 0, .ref q0, .int 0, .int 0, .ref q1, .ref q2, .ref q3, .ref q4, .ref q5, .ref q6, .ref q7, .int 0, .ref (z.2.1 7), .null, .null, .int 0, .int 0, .int 0, .int 0, .int 0])), (q0, .inl (cA, (1000, .inl (fun _ => 0)))), (q1, .inl (cA, (2100, .inl (fun _ => 0)))), (q2, .inl (cA, (2100, .inl (fun _ => 0)))), (q3, .inl (cA, (2100, .inl (fun _ => 0)))), (q4, .inl (cA, (2100, .inl (fun _ => 0)))), (q5, .inl (cA, (2100, .inl (fun _ => 0)))), (q6, .inl (cA, (2100, .inl (fun _ => 0)))), (q7, .inl (cA, (2100, .inl (fun _ => 0))))] H := hP
  have hD : va_D A [(h, .inr (1, [.int 0, .ref q0, .int 0, .int 0, .ref q1, .ref q2, .ref q3, .ref q4, .ref q5, .ref q6, .ref q7, .int 0, .ref (z.2.1 7), .null, .null, .int 0, .int 0, .int 0, .int 0, .int 0])), (q0, .inl (cA, (1000, .inl (fun _ => 0)))), (q1, .inl (cA, (2100, .inl (fun _ => 0)))), (q2, .inl (cA, (2100, .inl (fun _ => 0)))), (q3, .inl (cA, (2100, .inl (fun _ => 0)))), (q4, .inl (cA, (2100, .inl (fun _ => 0)))), (q5, .inl (cA, (2100, .inl (fun _ => 0)))), (q6, .inl (cA, (2100, .inl (fun _ => 0)))), (q7, .inl (cA, (2100, .inl (fun _ => 0))))] := hD
  refine lv_aload_n hx hb dM_init_82 rfl (lv_at hl 0 rfl) ?_
  refine va_ldcS hx hb hown (rK_8 htr) dM_init_83 ?_
  refine va_putF (D := D) (ci := 1) (v := .ref (z.2.1 8)) (ty := .object "java/lang/String") (C := RM) (T := TM) (N := 20) hx hb hts hinw tyM tyM_ok nmM hown hK hP hD hS 0 rfl rfl 13 (by decide) (up wfM_42) (fun _ h9 => h9) rfl hin rfl (by decide +kernel) rfl rfl (Nat.le_of_ble_eq_true rfl) dM_init_85 (fun H locs hP hD hS => ?_)
  have hP : va_P D clT [(h, .inr (1, [.int 0, .ref q0, .int 0, .int 0, .ref q1, .ref q2, .ref q3, .ref q4, .ref q5, .ref q6, .ref q7, .int 0, .ref (z.2.1 7), .ref (z.2.1 8), .null, .int 0, .int 0, .int 0, .int 0, .int 0])), (q0, .inl (cA, (1000, .inl (fun _ => 0)))), (q1, .inl (cA, (2100, .inl (fun _ => 0)))), (q2, .inl (cA, (2100, .inl (fun _ => 0)))), (q3, .inl (cA, (2100, .inl (fun _ => 0)))), (q4, .inl (cA, (2100, .inl (fun _ => 0)))), (q5, .inl (cA, (2100, .inl (fun _ => 0)))), (q6, .inl (cA, (2100, .inl (fun _ => 0)))), (q7, .inl (cA, (2100, .inl (fun _ => 0))))] H := hP
  have hD : va_D A [(h, .inr (1, [.int 0, .ref q0, .int 0, .int 0, .ref q1, .ref q2, .ref q3, .ref q4, .ref q5, .ref q6, .ref q7, .int 0, .ref (z.2.1 7), .ref (z.2.1 8), .null, .int 0, .int 0, .int 0, .int 0, .int 0])), (q0, .inl (cA, (1000, .inl (fun _ => 0)))), (q1, .inl (cA, (2100, .inl (fun _ => 0)))), (q2, .inl (cA, (2100, .inl (fun _ => 0)))), (q3, .inl (cA, (2100, .inl (fun _ => 0)))), (q4, .inl (cA, (2100, .inl (fun _ => 0)))), (q5, .inl (cA, (2100, .inl (fun _ => 0)))), (q6, .inl (cA, (2100, .inl (fun _ => 0)))), (q7, .inl (cA, (2100, .inl (fun _ => 0))))] := hD
  refine lv_aload_n hx hb dM_init_88 rfl (lv_at hl 0 rfl) ?_
  refine va_ldcS hx hb hown (rK_9 htr) dM_init_89 ?_
  refine va_putF (D := D) (ci := 1) (v := .ref (z.2.1 9)) (ty := .object "java/lang/String") (C := RM) (T := TM) (N := 20) hx hb hts hinw tyM tyM_ok nmM hown hK hP hD hS 0 rfl rfl 14 (by decide) (up wfM_47) (fun _ h9 => h9) rfl hin rfl (by decide +kernel) rfl rfl (Nat.le_of_ble_eq_true rfl) dM_init_91 (fun H locs hP hD hS => ?_)
  have hP : va_P D clT [(h, .inr (1, [.int 0, .ref q0, .int 0, .int 0, .ref q1, .ref q2, .ref q3, .ref q4, .ref q5, .ref q6, .ref q7, .int 0, .ref (z.2.1 7), .ref (z.2.1 8), .ref (z.2.1 9), .int 0, .int 0, .int 0, .int 0, .int 0])), (q0, .inl (cA, (1000, .inl (fun _ => 0)))), (q1, .inl (cA, (2100, .inl (fun _ => 0)))), (q2, .inl (cA, (2100, .inl (fun _ => 0)))), (q3, .inl (cA, (2100, .inl (fun _ => 0)))), (q4, .inl (cA, (2100, .inl (fun _ => 0)))), (q5, .inl (cA, (2100, .inl (fun _ => 0)))), (q6, .inl (cA, (2100, .inl (fun _ => 0)))), (q7, .inl (cA, (2100, .inl (fun _ => 0))))] H := hP
  have hD : va_D A [(h, .inr (1, [.int 0, .ref q0, .int 0, .int 0, .ref q1, .ref q2, .ref q3, .ref q4, .ref q5, .ref q6, .ref q7, .int 0, .ref (z.2.1 7), .ref (z.2.1 8), .ref (z.2.1 9), .int 0, .int 0, .int 0, .int 0, .int 0])), (q0, .inl (cA, (1000, .inl (fun _ => 0)))), (q1, .inl (cA, (2100, .inl (fun _ => 0)))), (q2, .inl (cA, (2100, .inl (fun _ => 0)))), (q3, .inl (cA, (2100, .inl (fun _ => 0)))), (q4, .inl (cA, (2100, .inl (fun _ => 0)))), (q5, .inl (cA, (2100, .inl (fun _ => 0)))), (q6, .inl (cA, (2100, .inl (fun _ => 0)))), (q7, .inl (cA, (2100, .inl (fun _ => 0))))] := hD
  refine W.widen (k := 8) (n := 15700) (Nat.le_of_ble_eq_true rfl) (Nat.le_of_ble_eq_true rfl) ?_
  exact W.vret hx hb hr (fun t ht hW => ⟨⟨(cA, fun k => match k with | 1 => q0 | 4 => q1 | 5 => q2 | 6 => q3 | 7 => q4 | 8 => q5 | 9 => q6 | 10 => q7 | _ => q0), rfl, trivial, va_K.moved hW.alike hK, by rw [ht]; exact hP, hD⟩, hS.F ht⟩) hS.2.2 dM_init_94
