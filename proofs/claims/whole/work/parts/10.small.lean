/-! ===== the class: its small methods ===== -/
/-- the tape: n bytes, T -/
def tpX (T : Nat → Int32) (n : Nat) (I : Nat → Int32) (F : Nat → Nat → Int32) : Prop := I 1 = nI n ∧ n ≤ 1000 ∧ (∀ j, j < n → F 0 j = T j) ∧ ∀ j, j < n → ¬ T j < 0
theorem tpX.of {T : Nat → Int32} {n : Nat} {I I' : Nat → Int32} {F F' : Nat → Nat → Int32} (h : tpX T n I F) (e1 : I' 1 = I 1) (e2 : F' 0 = F 0) : tpX T n I' F' := ⟨e1.trans h.1, h.2.1, fun j hj => by rw [e2]; exact h.2.2.1 j hj, h.2.2.2⟩
theorem see_in {T : Nat → Int32} {n p : Nat} (h : p < n) : seeT T n p = T p := if_pos h
theorem see_out {T : Nat → Int32} {n p : Nat} (h : n ≤ p) : seeT T n p = -1 := if_neg (Nat.not_lt.mpr h)
set_option maxHeartbeats 4000000 in
set_option maxRecDepth 100000 in
theorem tX_tapeByte (l : Launch) (I : Nat → Int32) (F : Nat → Nat → Int32) (T : Nat → Int32) (n : Nat) (hT : tpX T n I F) (p : Nat) (hp : p < 2 ^ 30) : MX l yX_tapeByte cX_tapeByte 2 (some .int) ({ frames := 1, cells := 0, slots := 0, locals := 21 }) [.int (nI p)] I F (iR (fun r I' F' => r = seeT T n p ∧ I' = I ∧ F' = F)) := by
  refine MX.mk (by decide) (fun _ => Nat.le_of_ble_eq_true rfl) ?_
  intro z D cA h a pg en s m below meth c ls S hr hlk hA hw hl
  have hx := S.1
  have hb := S.2.1
  have hl : lv_has ls 2 [(0, .ref h), (1, .int (nI p))] := hl
  refine lv_iload_n hx hb dX_tapeByte_0 rfl (lv_at hl 1 rfl) ?_
  refine lv_aload_n hx hb dX_tapeByte_1 rfl (lv_at hl 0 rfl) ?_
  refine gX1 S hw dX_tapeByte_2 ?_
  refine kz_top (y := nI n) hT.1 ?_
  refine lv_icmp_ge (tgt := 19) hx hb dX_tapeByte_5 (by decide) (fun c5 => ?_) (fun c5 => ?_)
  · skip
    refine lv_iconst (v := (-1)) hx hb dX_tapeByte_19 (by decide) ?_
    exact MX.iret S hr hlk hw dX_tapeByte_20 rfl ⟨_, rfl, by rw [see_out ((nI_leI (by have := hT.2.1; omega) (by omega)).mp c5)], rfl, rfl⟩
  · skip
    refine lv_aload_n hx hb dX_tapeByte_8 rfl (lv_at hl 0 rfl) ?_
    refine gX0 S hw dX_tapeByte_9 ?_
    refine lv_iload_n hx hb dX_tapeByte_12 rfl (lv_at hl 1 rfl) ?_
    refine kcXS (rest := []) S kX_77 (tX_elementAt l z (a 0) 1000 (F 0) (by decide) (nI p)) hw hA (arX0 hw) ⟨Nat.le_of_ble_eq_true rfl, Nat.le_of_ble_eq_true rfl⟩ rfl rfl ⟨Nat.zero_le _, Nat.zero_le _⟩ rfl hl.1 (Nat.le_of_ble_eq_true rfl) dX_tapeByte_13 (fun r H locs hq hw => ?_)
    subst hq
    refine lv_goto (tgt := 20) hx hb dX_tapeByte_16 (by decide) ?_
    exact MX.iret S hr hlk hw dX_tapeByte_20 rfl ⟨_, rfl, by have hlt : p < n := Nat.lt_of_not_le (fun q => c5 (nI_le q (by omega))); have := hT.2.1; rw [see_in hlt, elA_in (by omega) (by decide)]; exact hT.2.2.1 p hlt, rfl, rfl⟩
set_option maxHeartbeats 4000000 in
set_option maxRecDepth 100000 in
theorem tX_appendText (l : Launch) (I : Nat → Int32) (F : Nat → Nat → Int32) (e : Nat) (h10 : I 10 = nI e) (he : e < 1000) (x : Int32) : MX l yX_appendText cX_appendText 2 none ({ frames := 0, cells := 0, slots := 0, locals := 0 }) [.int x] I F (vR (fun I' F' => I' = upd I 10 (nI (e + 1)) ∧ F' = va_up F 9 (upd (F 9) e x))) := by
  refine MX.mk (by decide) (fun _ => Nat.le_of_ble_eq_true rfl) ?_
  intro z D cA h a pg en s m below meth c ls S hr hlk hA hw hl
  have hx := S.1
  have hb := S.2.1
  have hl : lv_has ls 2 [(0, .ref h), (1, .int x)] := hl
  refine lv_aload_n hx hb dX_appendText_0 rfl (lv_at hl 0 rfl) ?_
  refine gX10 S hw dX_appendText_1 ?_
  refine kz_top (y := nI e) h10 ?_
  refine lv_if_lt (tgt := 39) hx hb dX_appendText_4 (by decide) (fun c4 => absurd c4 (nI_pos (by omega))) (fun c4 => ?_)
  refine lv_aload_n hx hb dX_appendText_7 rfl (lv_at hl 0 rfl) ?_
  refine gX10 S hw dX_appendText_8 ?_
  refine kz_top (y := nI e) h10 ?_
  refine lv_aload_n hx hb dX_appendText_11 rfl (lv_at hl 0 rfl) ?_
  refine gX9 S hw dX_appendText_12 ?_
  refine lnX9 S hw dX_appendText_15 ?_
  refine lv_icmp_ge (tgt := 39) hx hb dX_appendText_16 (by decide) (fun c16 => absurd c16 (nI_ge he (by omega))) (fun c16 => ?_)
  refine lv_aload_n hx hb dX_appendText_19 rfl (lv_at hl 0 rfl) ?_
  refine gX9 S hw dX_appendText_20 ?_
  refine lv_aload_n hx hb dX_appendText_23 rfl (lv_at hl 0 rfl) ?_
  refine gX10 S hw dX_appendText_24 ?_
  refine kz_top (y := nI e) h10 ?_
  refine lv_iload_n hx hb dX_appendText_27 rfl (lv_at hl 1 rfl) ?_
  refine stX9 S hw (vp_in_nI he (by decide)) dX_appendText_28 (fun H locs hw => ?_)
  refine lv_aload_n hx hb dX_appendText_29 rfl (lv_at hl 0 rfl) ?_
  refine lv_dup hx hb dX_appendText_30 rfl ?_
  refine gX10 S hw dX_appendText_31 ?_
  refine kz_top (y := nI e) h10 ?_
  refine lv_iconst (v := 1) hx hb dX_appendText_34 (by decide) ?_
  refine lv_iadd hx hb dX_appendText_35 ?_
  refine kz_top (y := nI (e + 1)) (nI_add e 1) ?_
  refine pX10 S hw dX_appendText_36 (fun H locs hw => ?_)
  exact MX.vret S hr hlk hw dX_appendText_39 ⟨rfl, rfl, by rw [nI_clamp (by omega)]⟩
