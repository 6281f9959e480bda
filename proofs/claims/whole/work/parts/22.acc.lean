/-! ===== the class: what it tells of its tokens ===== -/
def accT (x : Int32) (ts : List kz_T) (g : kz_T → Int32) (d : Int32) : Int32 := if x < 0 then d else if nI ts.length ≤ x then d else (ts[x.toNatClampNeg]?.map g).getD d
theorem vin_le {x : Int32} {c N : Nat} (h : vp_in x c) (hN : c ≤ N) : vp_in x N := fun q => h (q.elim Or.inl (fun q => Or.inr (Nat.le_trans hN q)))
theorem acc_in {x : Int32} {ts : List kz_T} (g : kz_T → Int32) (d : Int32) (h : tokI x ts.length) (hl : ts.length < 2 ^ 31) : ∃ t, ts[x.toNatClampNeg]? = some t ∧ accT x ts g d = g t := by
  have hv := vin_of h.1 h.2 hl
  have hlt : x.toNatClampNeg < ts.length := Nat.lt_of_not_le (fun q => hv (Or.inr q))
  refine ⟨_, List.getElem?_eq_getElem hlt, ?_⟩
  unfold accT
  rw [if_neg h.1, if_neg h.2, List.getElem?_eq_getElem hlt]
  rfl
theorem acc_out {x : Int32} {ts : List kz_T} (g : kz_T → Int32) (d : Int32) (h : ¬ tokI x ts.length) : accT x ts g d = d := by
  unfold accT
  by_cases h1 : x < 0
  · rw [if_pos h1]
  · rw [if_neg h1]
    by_cases h2 : nI ts.length ≤ x
    · rw [if_pos h2]
    · exact absurd ⟨h1, h2⟩ h
def levX (t : kz_T) : Int32 := if iSok t.1 then elA (fun j => levK.getD j 0) 17 (wixF (wK 6) t.2.2.2.2 0) else -1
def txtT (y : Int32) (t : kz_T) : Int32 := if y < 0 then -1 else if nI t.2.2.2.2.length ≤ y then -1 else t.2.2.2.2.getD y.toNatClampNeg 0
theorem arLev {z : kz_Z} {D : va_G} {cA : ClassId} {h : Nat} {a : Nat → Nat} {A : Nat → Prop} {s : State} {H : Heap} {locs : List Loc} {I : Nat → Int32} {F : Nat → Nat → Int32} (hw : sX z D cA h a A s H locs I F) (hA : ∀ q, s.heap.size ≤ q → A q) : arS (some (z.1, 17, fun j => levK.getD j 0)) H.size s H := by
  intro q N f e
  cases e
  exact (hw.2.2.2.2.1.2.1.kept hw.2.2.2.1.2.1).narrow (fun q hq => hA q (Nat.le_trans hw.2.2.2.1.1 hq))
set_option maxHeartbeats 4000000 in
set_option maxRecDepth 100000 in
theorem tX_kind (l : Launch) (I : Nat → Int32) (F : Nat → Nat → Int32) (ts : List kz_T) (e0 : Nat) (he0 : e0 ≤ 1000) (hrp : repX ts e0 I F) (x : Int32) : MX l yX_kind cX_kind 2 (some .int) ({ frames := 1, cells := 0, slots := 0, locals := 21 }) [.int x] I F (iR (fun r I' F' => r = accT x ts (fun t => t.1) (-1) ∧ I' = I ∧ F' = F)) := by
  refine MX.mk (by decide) (fun _ => Nat.le_of_ble_eq_true rfl) ?_
  intro z D cA h a pg en s m below meth c ls S hr hlk hA hw hl
  have hx := S.1
  have hb := S.2.1
  have hl : lv_has ls 2 [(0, .ref h), (1, .int x)] := hl
  refine lv_aload_n hx hb dX_kind_0 rfl (lv_at hl 0 rfl) ?_
  refine lv_iload_n hx hb dX_kind_1 rfl (lv_at hl 1 rfl) ?_
  refine kcXi (rest := []) S kX_61 rfl (tX_isToken l I F ts.length hrp.1 hrp.2.1 x) hw hA ⟨Nat.le_of_ble_eq_true rfl, Nat.le_of_ble_eq_true rfl⟩ rfl rfl ⟨Nat.zero_le _, Nat.zero_le _⟩ rfl hl.1 (Nat.le_of_ble_eq_true rfl) dX_kind_2 (fun r I' F' H locs hq hw => ?_)
  obtain ⟨hr1, hr2, hr3⟩ := hq
  rw [hr2, hr3] at hw
  rcases bI hr1 with ⟨hB1, rfl⟩ | ⟨hB1, rfl⟩
  · skip
    refine lv_if_eq (tgt := 17) hx hb dX_kind_5 (by decide) (fun c5 => absurd c5 (by decide)) (fun c5 => ?_)
    refine lv_aload_n hx hb dX_kind_8 rfl (lv_at hl 0 rfl) ?_
    refine gX2 S hw dX_kind_9 ?_
    refine lv_iload_n hx hb dX_kind_12 rfl (lv_at hl 1 rfl) ?_
    refine ldX2 S hw (vin_le (vin_of hB1.1 hB1.2 (by have := hrp.2.1; omega)) hrp.2.1) dX_kind_13 ?_
    refine lv_goto (tgt := 18) hx hb dX_kind_14 (by decide) ?_
    exact MX.iret S hr hlk hw dX_kind_18 rfl ⟨_, rfl, by obtain ⟨t, ht, e⟩ := acc_in (fun t => t.1) (-1) hB1 (by have := hrp.2.1; omega); rw [e]; exact (hrp.2.2 _ t ht).1, rfl, rfl⟩
  · skip
    refine lv_if_eq (tgt := 17) hx hb dX_kind_5 (by decide) (fun c5 => ?_) (fun c5 => absurd c5 (by decide))
    refine lv_iconst (v := (-1)) hx hb dX_kind_17 (by decide) ?_
    exact MX.iret S hr hlk hw dX_kind_18 rfl ⟨_, rfl, (acc_out _ _ hB1).symm, rfl, rfl⟩
set_option maxHeartbeats 4000000 in
set_option maxRecDepth 100000 in
theorem tX_place (l : Launch) (I : Nat → Int32) (F : Nat → Nat → Int32) (ts : List kz_T) (e0 : Nat) (he0 : e0 ≤ 1000) (hrp : repX ts e0 I F) (x : Int32) : MX l yX_place cX_place 2 (some .int) ({ frames := 1, cells := 0, slots := 0, locals := 21 }) [.int x] I F (iR (fun r I' F' => r = accT x ts (fun t => nI t.2.1) (-1) ∧ I' = I ∧ F' = F)) := by
  refine MX.mk (by decide) (fun _ => Nat.le_of_ble_eq_true rfl) ?_
  intro z D cA h a pg en s m below meth c ls S hr hlk hA hw hl
  have hx := S.1
  have hb := S.2.1
  have hl : lv_has ls 2 [(0, .ref h), (1, .int x)] := hl
  refine lv_aload_n hx hb dX_place_0 rfl (lv_at hl 0 rfl) ?_
  refine lv_iload_n hx hb dX_place_1 rfl (lv_at hl 1 rfl) ?_
  refine kcXi (rest := []) S kX_61 rfl (tX_isToken l I F ts.length hrp.1 hrp.2.1 x) hw hA ⟨Nat.le_of_ble_eq_true rfl, Nat.le_of_ble_eq_true rfl⟩ rfl rfl ⟨Nat.zero_le _, Nat.zero_le _⟩ rfl hl.1 (Nat.le_of_ble_eq_true rfl) dX_place_2 (fun r I' F' H locs hq hw => ?_)
  obtain ⟨hr1, hr2, hr3⟩ := hq
  rw [hr2, hr3] at hw
  rcases bI hr1 with ⟨hB1, rfl⟩ | ⟨hB1, rfl⟩
  · skip
    refine lv_if_eq (tgt := 17) hx hb dX_place_5 (by decide) (fun c5 => absurd c5 (by decide)) (fun c5 => ?_)
    refine lv_aload_n hx hb dX_place_8 rfl (lv_at hl 0 rfl) ?_
    refine gX3 S hw dX_place_9 ?_
    refine lv_iload_n hx hb dX_place_12 rfl (lv_at hl 1 rfl) ?_
    refine ldX3 S hw (vin_le (vin_of hB1.1 hB1.2 (by have := hrp.2.1; omega)) hrp.2.1) dX_place_13 ?_
    refine lv_goto (tgt := 18) hx hb dX_place_14 (by decide) ?_
    exact MX.iret S hr hlk hw dX_place_18 rfl ⟨_, rfl, by obtain ⟨t, ht, e⟩ := acc_in (fun t => nI t.2.1) (-1) hB1 (by have := hrp.2.1; omega); rw [e]; exact (hrp.2.2 _ t ht).2.1, rfl, rfl⟩
  · skip
    refine lv_if_eq (tgt := 17) hx hb dX_place_5 (by decide) (fun c5 => ?_) (fun c5 => absurd c5 (by decide))
    refine lv_iconst (v := (-1)) hx hb dX_place_17 (by decide) ?_
    exact MX.iret S hr hlk hw dX_place_18 rfl ⟨_, rfl, (acc_out _ _ hB1).symm, rfl, rfl⟩
set_option maxHeartbeats 4000000 in
set_option maxRecDepth 100000 in
theorem tX_line (l : Launch) (I : Nat → Int32) (F : Nat → Nat → Int32) (ts : List kz_T) (e0 : Nat) (he0 : e0 ≤ 1000) (hrp : repX ts e0 I F) (x : Int32) : MX l yX_line cX_line 2 (some .int) ({ frames := 1, cells := 0, slots := 0, locals := 21 }) [.int x] I F (iR (fun r I' F' => r = accT x ts (fun t => nI t.2.2.1) (-1) ∧ I' = I ∧ F' = F)) := by
  refine MX.mk (by decide) (fun _ => Nat.le_of_ble_eq_true rfl) ?_
  intro z D cA h a pg en s m below meth c ls S hr hlk hA hw hl
  have hx := S.1
  have hb := S.2.1
  have hl : lv_has ls 2 [(0, .ref h), (1, .int x)] := hl
  refine lv_aload_n hx hb dX_line_0 rfl (lv_at hl 0 rfl) ?_
  refine lv_iload_n hx hb dX_line_1 rfl (lv_at hl 1 rfl) ?_
  refine kcXi (rest := []) S kX_61 rfl (tX_isToken l I F ts.length hrp.1 hrp.2.1 x) hw hA ⟨Nat.le_of_ble_eq_true rfl, Nat.le_of_ble_eq_true rfl⟩ rfl rfl ⟨Nat.zero_le _, Nat.zero_le _⟩ rfl hl.1 (Nat.le_of_ble_eq_true rfl) dX_line_2 (fun r I' F' H locs hq hw => ?_)
  obtain ⟨hr1, hr2, hr3⟩ := hq
  rw [hr2, hr3] at hw
  rcases bI hr1 with ⟨hB1, rfl⟩ | ⟨hB1, rfl⟩
  · skip
    refine lv_if_eq (tgt := 17) hx hb dX_line_5 (by decide) (fun c5 => absurd c5 (by decide)) (fun c5 => ?_)
    refine lv_aload_n hx hb dX_line_8 rfl (lv_at hl 0 rfl) ?_
    refine gX4 S hw dX_line_9 ?_
    refine lv_iload_n hx hb dX_line_12 rfl (lv_at hl 1 rfl) ?_
    refine ldX4 S hw (vin_le (vin_of hB1.1 hB1.2 (by have := hrp.2.1; omega)) hrp.2.1) dX_line_13 ?_
    refine lv_goto (tgt := 18) hx hb dX_line_14 (by decide) ?_
    exact MX.iret S hr hlk hw dX_line_18 rfl ⟨_, rfl, by obtain ⟨t, ht, e⟩ := acc_in (fun t => nI t.2.2.1) (-1) hB1 (by have := hrp.2.1; omega); rw [e]; exact (hrp.2.2 _ t ht).2.2.1, rfl, rfl⟩
  · skip
    refine lv_if_eq (tgt := 17) hx hb dX_line_5 (by decide) (fun c5 => ?_) (fun c5 => absurd c5 (by decide))
    refine lv_iconst (v := (-1)) hx hb dX_line_17 (by decide) ?_
    exact MX.iret S hr hlk hw dX_line_18 rfl ⟨_, rfl, (acc_out _ _ hB1).symm, rfl, rfl⟩
set_option maxHeartbeats 4000000 in
set_option maxRecDepth 100000 in
theorem tX_value (l : Launch) (I : Nat → Int32) (F : Nat → Nat → Int32) (ts : List kz_T) (e0 : Nat) (he0 : e0 ≤ 1000) (hrp : repX ts e0 I F) (x : Int32) : MX l yX_value cX_value 2 (some .int) ({ frames := 1, cells := 0, slots := 0, locals := 21 }) [.int x] I F (iR (fun r I' F' => r = accT x ts (fun t => t.2.2.2.1) (0) ∧ I' = I ∧ F' = F)) := by
  refine MX.mk (by decide) (fun _ => Nat.le_of_ble_eq_true rfl) ?_
  intro z D cA h a pg en s m below meth c ls S hr hlk hA hw hl
  have hx := S.1
  have hb := S.2.1
  have hl : lv_has ls 2 [(0, .ref h), (1, .int x)] := hl
  refine lv_aload_n hx hb dX_value_0 rfl (lv_at hl 0 rfl) ?_
  refine lv_iload_n hx hb dX_value_1 rfl (lv_at hl 1 rfl) ?_
  refine kcXi (rest := []) S kX_61 rfl (tX_isToken l I F ts.length hrp.1 hrp.2.1 x) hw hA ⟨Nat.le_of_ble_eq_true rfl, Nat.le_of_ble_eq_true rfl⟩ rfl rfl ⟨Nat.zero_le _, Nat.zero_le _⟩ rfl hl.1 (Nat.le_of_ble_eq_true rfl) dX_value_2 (fun r I' F' H locs hq hw => ?_)
  obtain ⟨hr1, hr2, hr3⟩ := hq
  rw [hr2, hr3] at hw
  rcases bI hr1 with ⟨hB1, rfl⟩ | ⟨hB1, rfl⟩
  · skip
    refine lv_if_eq (tgt := 17) hx hb dX_value_5 (by decide) (fun c5 => absurd c5 (by decide)) (fun c5 => ?_)
    refine lv_aload_n hx hb dX_value_8 rfl (lv_at hl 0 rfl) ?_
    refine gX5 S hw dX_value_9 ?_
    refine lv_iload_n hx hb dX_value_12 rfl (lv_at hl 1 rfl) ?_
    refine ldX5 S hw (vin_le (vin_of hB1.1 hB1.2 (by have := hrp.2.1; omega)) hrp.2.1) dX_value_13 ?_
    refine lv_goto (tgt := 18) hx hb dX_value_14 (by decide) ?_
    exact MX.iret S hr hlk hw dX_value_18 rfl ⟨_, rfl, by obtain ⟨t, ht, e⟩ := acc_in (fun t => t.2.2.2.1) (0) hB1 (by have := hrp.2.1; omega); rw [e]; exact (hrp.2.2 _ t ht).2.2.2.1, rfl, rfl⟩
  · skip
    refine lv_if_eq (tgt := 17) hx hb dX_value_5 (by decide) (fun c5 => ?_) (fun c5 => absurd c5 (by decide))
    refine lv_iconst (v := 0) hx hb dX_value_17 (by decide) ?_
    exact MX.iret S hr hlk hw dX_value_18 rfl ⟨_, rfl, (acc_out _ _ hB1).symm, rfl, rfl⟩
set_option maxHeartbeats 4000000 in
set_option maxRecDepth 100000 in
theorem tX_size (l : Launch) (I : Nat → Int32) (F : Nat → Nat → Int32) (ts : List kz_T) (e0 : Nat) (he0 : e0 ≤ 1000) (hrp : repX ts e0 I F) (x : Int32) : MX l yX_size cX_size 2 (some .int) ({ frames := 1, cells := 0, slots := 0, locals := 21 }) [.int x] I F (iR (fun r I' F' => r = accT x ts (fun t => nI t.2.2.2.2.length) (-1) ∧ I' = I ∧ F' = F)) := by
  refine MX.mk (by decide) (fun _ => Nat.le_of_ble_eq_true rfl) ?_
  intro z D cA h a pg en s m below meth c ls S hr hlk hA hw hl
  have hx := S.1
  have hb := S.2.1
  have hl : lv_has ls 2 [(0, .ref h), (1, .int x)] := hl
  refine lv_aload_n hx hb dX_size_0 rfl (lv_at hl 0 rfl) ?_
  refine lv_iload_n hx hb dX_size_1 rfl (lv_at hl 1 rfl) ?_
  refine kcXi (rest := []) S kX_61 rfl (tX_isToken l I F ts.length hrp.1 hrp.2.1 x) hw hA ⟨Nat.le_of_ble_eq_true rfl, Nat.le_of_ble_eq_true rfl⟩ rfl rfl ⟨Nat.zero_le _, Nat.zero_le _⟩ rfl hl.1 (Nat.le_of_ble_eq_true rfl) dX_size_2 (fun r I' F' H locs hq hw => ?_)
  obtain ⟨hr1, hr2, hr3⟩ := hq
  rw [hr2, hr3] at hw
  rcases bI hr1 with ⟨hB1, rfl⟩ | ⟨hB1, rfl⟩
  · skip
    refine lv_if_eq (tgt := 17) hx hb dX_size_5 (by decide) (fun c5 => absurd c5 (by decide)) (fun c5 => ?_)
    refine lv_aload_n hx hb dX_size_8 rfl (lv_at hl 0 rfl) ?_
    refine gX7 S hw dX_size_9 ?_
    refine lv_iload_n hx hb dX_size_12 rfl (lv_at hl 1 rfl) ?_
    refine ldX7 S hw (vin_le (vin_of hB1.1 hB1.2 (by have := hrp.2.1; omega)) hrp.2.1) dX_size_13 ?_
    refine lv_goto (tgt := 18) hx hb dX_size_14 (by decide) ?_
    exact MX.iret S hr hlk hw dX_size_18 rfl ⟨_, rfl, by obtain ⟨t, ht, e⟩ := acc_in (fun t => nI t.2.2.2.2.length) (-1) hB1 (by have := hrp.2.1; omega); rw [e]; obtain ⟨b, _, f7, _⟩ := (hrp.2.2 _ t ht).2.2.2.2.2; exact f7, rfl, rfl⟩
  · skip
    refine lv_if_eq (tgt := 17) hx hb dX_size_5 (by decide) (fun c5 => ?_) (fun c5 => absurd c5 (by decide))
    refine lv_iconst (v := (-1)) hx hb dX_size_17 (by decide) ?_
    exact MX.iret S hr hlk hw dX_size_18 rfl ⟨_, rfl, (acc_out _ _ hB1).symm, rfl, rfl⟩
set_option maxHeartbeats 4000000 in
set_option maxRecDepth 100000 in
theorem tX_level (l : Launch) (I : Nat → Int32) (F : Nat → Nat → Int32) (ts : List kz_T) (e0 : Nat) (he0 : e0 ≤ 1000) (hrp : repX ts e0 I F) (x : Int32) : MX l yX_level cX_level 2 (some .int) ({ frames := 5, cells := 0, slots := 0, locals := 112 }) [.int x] I F (iR (fun r I' F' => r = accT x ts levX (-1) ∧ I' = I ∧ F' = F)) := by
  refine MX.mk (by decide) (fun _ => Nat.le_of_ble_eq_true rfl) ?_
  intro z D cA h a pg en s m below meth c ls S hr hlk hA hw hl
  have hx := S.1
  have hb := S.2.1
  have hl : lv_has ls 2 [(0, .ref h), (1, .int x)] := hl
  refine lv_aload_n hx hb dX_level_0 rfl (lv_at hl 0 rfl) ?_
  refine lv_iload_n hx hb dX_level_1 rfl (lv_at hl 1 rfl) ?_
  refine kcXi (rest := []) S kX_61 rfl (tX_isToken l I F ts.length hrp.1 hrp.2.1 x) hw hA ⟨Nat.le_of_ble_eq_true rfl, Nat.le_of_ble_eq_true rfl⟩ rfl rfl ⟨Nat.zero_le _, Nat.zero_le _⟩ rfl hl.1 (Nat.le_of_ble_eq_true rfl) dX_level_2 (fun r I' F' H locs hq hw => ?_)
  obtain ⟨hr1, hr2, hr3⟩ := hq
  rw [hr2, hr3] at hw
  rcases bI hr1 with ⟨hB1, rfl⟩ | ⟨hB1, rfl⟩
  · skip
    have hlen := hrp.2.1
    obtain ⟨t, ht, ea⟩ := acc_in levX (-1) hB1 (by omega)
    obtain ⟨f2, f3, f4, f5, fl, b0, f6, f7, f8, f9⟩ := hrp.2.2 _ t ht
    refine lv_if_eq (tgt := 20) hx hb dX_level_5 (by decide) (fun c5 => absurd c5 (by decide)) (fun c5 => ?_)
    refine lv_aload_n hx hb dX_level_8 rfl (lv_at hl 0 rfl) ?_
    refine gX2 S hw dX_level_9 ?_
    refine lv_iload_n hx hb dX_level_12 rfl (lv_at hl 1 rfl) ?_
    refine ldX2 S hw (vin_le (vin_of hB1.1 hB1.2 (by have := hrp.2.1; omega)) hrp.2.1) dX_level_13 ?_
    refine kz_top (y := t.1) f2 ?_
    refine kcXS (rest := []) S kX_65 (tX_isSignOrKeyword l z none t.1) hw hA arNone ⟨Nat.le_of_ble_eq_true rfl, Nat.le_of_ble_eq_true rfl⟩ rfl rfl ⟨Nat.zero_le _, Nat.zero_le _⟩ rfl hl.1 (Nat.le_of_ble_eq_true rfl) dX_level_14 (fun r H locs hq hw => ?_)
    rcases bI hq with ⟨hB2, rfl⟩ | ⟨hB2, rfl⟩
    · skip
      refine lv_if_ne (tgt := 22) hx hb dX_level_17 (by decide) (fun c17 => ?_) (fun c17 => absurd c17 (by decide))
      refine va_gets hx hb hw.2.2.2.2.1.1 hw.2.2.2.1 S.2.2.2.1 (S.2.2.2.2 _ (List.mem_cons_of_mem _ wfX_68)) (fun _ h9 => h9) dX_level_22 ?_
      refine va_ldcS hx hb S.2.2.2.1 (rK_6 hw.2.2.2.2.2) dX_level_25 ?_
      refine lv_aload_n hx hb dX_level_27 rfl (lv_at hl 0 rfl) ?_
      refine gX9 S hw dX_level_28 ?_
      refine lv_aload_n hx hb dX_level_31 rfl (lv_at hl 0 rfl) ?_
      refine gX6 S hw dX_level_32 ?_
      refine lv_iload_n hx hb dX_level_35 rfl (lv_at hl 1 rfl) ?_
      refine ldX6 S hw (vin_le (vin_of hB1.1 hB1.2 (by have := hrp.2.1; omega)) hrp.2.1) dX_level_36 ?_
      refine kz_top (y := nI b0) f6 ?_
      refine lv_aload_n hx hb dX_level_37 rfl (lv_at hl 0 rfl) ?_
      refine gX7 S hw dX_level_38 ?_
      refine lv_iload_n hx hb dX_level_41 rfl (lv_at hl 1 rfl) ?_
      refine ldX7 S hw (vin_le (vin_of hB1.1 hB1.2 (by have := hrp.2.1; omega)) hrp.2.1) dX_level_42 ?_
      refine kz_top (y := nI t.2.2.2.2.length) f7 ?_
      refine kcXS (rest := [.ref z.1]) S kX_73 (tX_numberInList l z 6 (by decide) (a 9) 1000 (F 9) (by decide) b0 t.2.2.2.2.length (by omega)) hw hA (arX9 hw) ⟨Nat.le_of_ble_eq_true rfl, Nat.le_of_ble_eq_true rfl⟩ rfl rfl ⟨Nat.zero_le _, Nat.zero_le _⟩ rfl hl.1 (Nat.le_of_ble_eq_true rfl) dX_level_43 (fun r H locs hq hw => ?_)
      rw [nil_wK (by decide), key_text f9] at hq
      subst hq
      refine kcXS (rest := []) S kX_77 (tX_elementAt l z z.1 17 (fun j => levK.getD j 0) (by decide) (wixF (wK 6) t.2.2.2.2 0)) hw hA (arLev hw hA) ⟨Nat.le_of_ble_eq_true rfl, Nat.le_of_ble_eq_true rfl⟩ rfl rfl ⟨Nat.zero_le _, Nat.zero_le _⟩ rfl hl.1 (Nat.le_of_ble_eq_true rfl) dX_level_46 (fun r H locs hq hw => ?_)
      subst hq
      exact MX.iret S hr hlk hw dX_level_49 rfl ⟨_, rfl, by rw [ea]; unfold levX; rw [if_pos hB2], rfl, rfl⟩
    · skip
      refine lv_if_ne (tgt := 22) hx hb dX_level_17 (by decide) (fun c17 => absurd c17 (by decide)) (fun c17 => ?_)
      refine lv_iconst (v := (-1)) hx hb dX_level_20 (by decide) ?_
      exact MX.iret S hr hlk hw dX_level_21 rfl ⟨_, rfl, by rw [ea]; unfold levX; rw [if_neg hB2], rfl, rfl⟩
  · skip
    refine lv_if_eq (tgt := 20) hx hb dX_level_5 (by decide) (fun c5 => ?_) (fun c5 => absurd c5 (by decide))
    refine lv_iconst (v := (-1)) hx hb dX_level_20 (by decide) ?_
    exact MX.iret S hr hlk hw dX_level_21 rfl ⟨_, rfl, (acc_out _ _ hB1).symm, rfl, rfl⟩
set_option maxHeartbeats 4000000 in
set_option maxRecDepth 100000 in
theorem tX_textAt (l : Launch) (I : Nat → Int32) (F : Nat → Nat → Int32) (ts : List kz_T) (e0 : Nat) (he0 : e0 ≤ 1000) (hrp : repX ts e0 I F) (x y : Int32) : MX l yX_textAt cX_textAt 3 (some .int) ({ frames := 1, cells := 0, slots := 0, locals := 21 }) [.int x, .int y] I F (iR (fun r I' F' => r = accT x ts (txtT y) (-1) ∧ I' = I ∧ F' = F)) := by
  refine MX.mk (by decide) (fun _ => Nat.le_of_ble_eq_true rfl) ?_
  intro z D cA h a pg en s m below meth c ls S hr hlk hA hw hl
  have hx := S.1
  have hb := S.2.1
  have hl : lv_has ls 3 [(0, .ref h), (1, .int x), (2, .int y)] := hl
  refine lv_aload_n hx hb dX_textAt_0 rfl (lv_at hl 0 rfl) ?_
  refine lv_iload_n hx hb dX_textAt_1 rfl (lv_at hl 1 rfl) ?_
  refine kcXi (rest := []) S kX_61 rfl (tX_isToken l I F ts.length hrp.1 hrp.2.1 x) hw hA ⟨Nat.le_of_ble_eq_true rfl, Nat.le_of_ble_eq_true rfl⟩ rfl rfl ⟨Nat.zero_le _, Nat.zero_le _⟩ rfl hl.1 (Nat.le_of_ble_eq_true rfl) dX_textAt_2 (fun r I' F' H locs hq hw => ?_)
  obtain ⟨hr1, hr2, hr3⟩ := hq
  rw [hr2, hr3] at hw
  rcases bI hr1 with ⟨hB1, rfl⟩ | ⟨hB1, rfl⟩
  · skip
    have hlen := hrp.2.1
    obtain ⟨t, ht, ea⟩ := acc_in (txtT y) (-1) hB1 (by omega)
    obtain ⟨f2, f3, f4, f5, fl, b0, f6, f7, f8, f9⟩ := hrp.2.2 _ t ht
    refine lv_if_eq (tgt := 22) hx hb dX_textAt_5 (by decide) (fun c5 => absurd c5 (by decide)) (fun c5 => ?_)
    refine lv_iload_n hx hb dX_textAt_8 rfl (lv_at hl 2 rfl) ?_
    refine lv_if_lt (tgt := 22) hx hb dX_textAt_9 (by decide) (fun c9 => ?_) (fun c9 => ?_)
    · skip
      refine lv_iconst (v := (-1)) hx hb dX_textAt_22 (by decide) ?_
      exact MX.iret S hr hlk hw dX_textAt_23 rfl ⟨_, rfl, by rw [ea]; unfold txtT; rw [if_pos c9], rfl, rfl⟩
    · skip
      refine lv_iload_n hx hb dX_textAt_12 rfl (lv_at hl 2 rfl) ?_
      refine lv_aload_n hx hb dX_textAt_13 rfl (lv_at hl 0 rfl) ?_
      refine gX7 S hw dX_textAt_14 ?_
      refine lv_iload_n hx hb dX_textAt_17 rfl (lv_at hl 1 rfl) ?_
      refine ldX7 S hw (vin_le (vin_of hB1.1 hB1.2 (by have := hrp.2.1; omega)) hrp.2.1) dX_textAt_18 ?_
      refine kz_top (y := nI t.2.2.2.2.length) f7 ?_
      refine lv_icmp_lt (tgt := 24) hx hb dX_textAt_19 (by decide) (fun c19 => ?_) (fun c19 => ?_)
      · skip
        refine lv_aload_n hx hb dX_textAt_24 rfl (lv_at hl 0 rfl) ?_
        refine gX9 S hw dX_textAt_25 ?_
        refine lv_aload_n hx hb dX_textAt_28 rfl (lv_at hl 0 rfl) ?_
        refine gX6 S hw dX_textAt_29 ?_
        refine lv_iload_n hx hb dX_textAt_32 rfl (lv_at hl 1 rfl) ?_
        refine ldX6 S hw (vin_le (vin_of hB1.1 hB1.2 (by have := hrp.2.1; omega)) hrp.2.1) dX_textAt_33 ?_
        refine kz_top (y := nI b0) f6 ?_
        refine lv_iload_n hx hb dX_textAt_34 rfl (lv_at hl 2 rfl) ?_
        have hy : vp_in y t.2.2.2.2.length := vin_of c9 (fun q => Int32.not_lt.mpr q c19) (by omega)
        obtain ⟨jj, hjj, rfl⟩ := vp_in_of hy (by omega)
        refine lv_iadd hx hb dX_textAt_35 ?_
        refine kz_top (nI_add b0 jj) ?_
        refine kcXS (rest := []) S kX_77 (tX_elementAt l z (a 9) 1000 (F 9) (by decide) (nI (b0 + jj))) hw hA (arX9 hw) ⟨Nat.le_of_ble_eq_true rfl, Nat.le_of_ble_eq_true rfl⟩ rfl rfl ⟨Nat.zero_le _, Nat.zero_le _⟩ rfl hl.1 (Nat.le_of_ble_eq_true rfl) dX_textAt_36 (fun r H locs hq hw => ?_)
        rw [elA_in (by omega) (by decide)] at hq
        subst hq
        exact MX.iret S hr hlk hw dX_textAt_39 rfl ⟨_, rfl, by rw [ea]; unfold txtT; rw [if_neg c9, if_neg (fun q => Int32.not_lt.mpr q c19), nI_clamp (by omega), List.getD_eq_getElem?_getD, List.getElem?_eq_getElem hjj]; exact f9 jj _ (List.getElem?_eq_getElem hjj), rfl, rfl⟩
      · skip
        refine lv_iconst (v := (-1)) hx hb dX_textAt_22 (by decide) ?_
        exact MX.iret S hr hlk hw dX_textAt_23 rfl ⟨_, rfl, by rw [ea]; unfold txtT; rw [if_neg c9, if_pos (Int32.not_lt.mp c19)], rfl, rfl⟩
  · skip
    refine lv_if_eq (tgt := 22) hx hb dX_textAt_5 (by decide) (fun c5 => ?_) (fun c5 => absurd c5 (by decide))
    refine lv_iconst (v := (-1)) hx hb dX_textAt_22 (by decide) ?_
    exact MX.iret S hr hlk hw dX_textAt_23 rfl ⟨_, rfl, (acc_out _ _ hB1).symm, rfl, rfl⟩
