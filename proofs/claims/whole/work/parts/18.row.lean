/-! ===== the row of tokens ===== -/
/-- the tokens ts lie in the class's arrays, their texts below e -/
def repX (ts : List kz_T) (e : Nat) (I : Nat → Int32) (F : Nat → Nat → Int32) : Prop := I 8 = nI ts.length ∧ ts.length ≤ 1001 ∧ ∀ (k : Nat) (t : kz_T), ts[k]? = some t → F 2 k = t.1 ∧ F 3 k = nI t.2.1 ∧ F 4 k = nI t.2.2.1 ∧ F 5 k = t.2.2.2.1 ∧ t.2.2.1 ≤ 1000 ∧ ∃ b : Nat, F 6 k = nI b ∧ F 7 k = nI t.2.2.2.2.length ∧ b + t.2.2.2.2.length ≤ e ∧ ∀ j x, t.2.2.2.2[j]? = some x → F 9 (b + j) = x
abbrev tokI (x : Int32) (c : Nat) : Prop := ¬ x < 0 ∧ ¬ nI c ≤ x
abbrev endX (k : Int32) (tx : List Int32) : Prop := (¬ iSok k ∧ iOpd k) ∨ (iSok k ∧ (tx ∈ wK 4 ∨ tx ∈ wK 0))
abbrev begX (k : Int32) (tx : List Int32) : Prop := (¬ iSok k ∧ iOpd k) ∨ (iSok k ∧ (tx ∈ wK 5 ∨ tx ∈ wK 0 ∨ tx ∈ wK 1))
def semX (ts : List kz_T) (L : Nat) (k : Int32) (tx : List Int32) : Bool := match ts.getLast? with
  | none => false
  | some t => decide (t.2.2.1 < L ∧ endX t.1 t.2.2.2.2 ∧ begX k tx)
theorem semX_c (ts0 : List kz_T) (t : kz_T) (L : Nat) (k : Int32) (tx : List Int32) : semX (ts0.concat t) L k tx = true ↔ (t.2.2.1 < L ∧ endX t.1 t.2.2.2.2 ∧ begX k tx) := by
  unfold semX
  rw [List.concat_eq_append, List.getLast?_concat]
  exact decide_eq_true_iff
theorem key_text {f : Nat → Int32} {b : Nat} {tx : List Int32} (h : ∀ j x, tx[j]? = some x → f (b + j) = x) : keyL (fun k => f (b + k)) tx.length = tx := by
  unfold keyL
  apply List.ext_getElem?
  intro j
  rw [List.getElem?_map]
  by_cases hj : j < tx.length
  · rw [List.getElem?_range hj, List.getElem?_eq_getElem hj]
    exact congrArg some (h j _ (List.getElem?_eq_getElem hj))
  · rw [List.getElem?_eq_none (by simp; omega), List.getElem?_eq_none (by omega)]
    rfl
set_option maxHeartbeats 4000000 in
set_option maxRecDepth 100000 in
theorem tX_isToken (l : Launch) (I : Nat → Int32) (F : Nat → Nat → Int32) (c0 : Nat) (h8 : I 8 = nI c0) (hc0 : c0 ≤ 1001) (x : Int32) : MX l yX_isToken cX_isToken 2 (some .boolean) ({ frames := 0, cells := 0, slots := 0, locals := 0 }) [.int x] I F (iR (fun r I' F' => r = (if tokI x c0 then 1 else 0) ∧ I' = I ∧ F' = F)) := by
  refine MX.mk (by decide) (fun _ => Nat.le_of_ble_eq_true rfl) ?_
  intro z D cA h a pg en s m below meth c ls S hr hlk hA hw hl
  have hx := S.1
  have hb := S.2.1
  have hl : lv_has ls 2 [(0, .ref h), (1, .int x)] := hl
  refine lv_iload_n hx hb dX_isToken_0 rfl (lv_at hl 1 rfl) ?_
  refine lv_if_lt (tgt := 23) hx hb dX_isToken_1 (by decide) (fun c1 => ?_) (fun c1 => ?_)
  · skip
    refine lv_iconst (v := 0) hx hb dX_isToken_23 (by decide) ?_
    exact MX.iret S hr hlk hw dX_isToken_24 (by first | rfl | decide) ⟨_, rfl, by simp [tokI, c1], rfl, rfl⟩
  · skip
    refine lv_iload_n hx hb dX_isToken_4 rfl (lv_at hl 1 rfl) ?_
    refine lv_aload_n hx hb dX_isToken_5 rfl (lv_at hl 0 rfl) ?_
    refine gX8 S hw dX_isToken_6 ?_
    refine kz_top (y := nI c0) h8 ?_
    refine lv_icmp_ge (tgt := 23) hx hb dX_isToken_9 (by decide) (fun c9 => ?_) (fun c9 => ?_)
    · skip
      refine lv_iconst (v := 0) hx hb dX_isToken_23 (by decide) ?_
      exact MX.iret S hr hlk hw dX_isToken_24 (by first | rfl | decide) ⟨_, rfl, by simp [tokI, c1, c9], rfl, rfl⟩
    · skip
      refine lv_iload_n hx hb dX_isToken_12 rfl (lv_at hl 1 rfl) ?_
      refine lv_sipush (v := 1001) hx hb dX_isToken_13 (by decide) ?_
      refine lv_icmp_ge (tgt := 23) hx hb dX_isToken_16 (by decide) (fun c16 => absurd c16 (fun q => c9 (Int32.le_trans (nI_le hc0 (by decide)) q))) (fun c16 => ?_)
      refine lv_iconst (v := 1) hx hb dX_isToken_19 (by decide) ?_
      refine lv_goto (tgt := 24) hx hb dX_isToken_20 (by decide) ?_
      exact MX.iret S hr hlk hw dX_isToken_24 (by first | rfl | decide) ⟨_, rfl, by simp [tokI, c1, c9], rfl, rfl⟩
set_option maxHeartbeats 4000000 in
set_option maxRecDepth 100000 in
theorem tX_mayEndStatement (l : Launch) (I : Nat → Int32) (F : Nat → Nat → Int32) (k : Int32) (b : Nat) (tx : List Int32) (hb1 : b + tx.length ≤ 1000) (hb2 : ∀ j x, tx[j]? = some x → F 9 (b + j) = x) : MX l yX_mayEndStatement cX_mayEndStatement 4 (some .boolean) ({ frames := 5, cells := 0, slots := 0, locals := 112 }) [.int k, .int (nI b), .int (nI tx.length)] I F (iR (fun r I' F' => r = (if endX k tx then 1 else 0) ∧ I' = I ∧ F' = F)) := by
  refine MX.mk (by decide) (fun _ => Nat.le_of_ble_eq_true rfl) ?_
  intro z D cA h a pg en s m below meth c ls S hr hlk hA hw hl
  have hx := S.1
  have hb := S.2.1
  have hl : lv_has ls 4 [(0, .ref h), (1, .int k), (2, .int (nI b)), (3, .int (nI tx.length))] := hl
  refine lv_iload_n hx hb dX_mayEndStatement_0 rfl (lv_at hl 1 rfl) ?_
  refine kcXS (rest := []) S kX_65 (tX_isSignOrKeyword l z none k) hw hA arNone ⟨Nat.le_of_ble_eq_true rfl, Nat.le_of_ble_eq_true rfl⟩ rfl rfl ⟨Nat.zero_le _, Nat.zero_le _⟩ rfl hl.1 (Nat.le_of_ble_eq_true rfl) dX_mayEndStatement_1 (fun r H locs hq hw => ?_)
  rcases bI hq with ⟨hB1, rfl⟩ | ⟨hB1, rfl⟩
  · skip
    refine lv_if_ne (tgt := 12) hx hb dX_mayEndStatement_4 (by decide) (fun c4 => ?_) (fun c4 => absurd c4 (by decide))
    refine va_ldcS hx hb S.2.2.2.1 (rK_4 hw.2.2.2.2.2) dX_mayEndStatement_12 ?_
    refine lv_aload_n hx hb dX_mayEndStatement_14 rfl (lv_at hl 0 rfl) ?_
    refine gX9 S hw dX_mayEndStatement_15 ?_
    refine lv_iload_n hx hb dX_mayEndStatement_18 rfl (lv_at hl 2 rfl) ?_
    refine lv_iload_n hx hb dX_mayEndStatement_19 rfl (lv_at hl 3 rfl) ?_
    refine kcXS (rest := []) S kX_73 (tX_numberInList l z 4 (by decide) (a 9) 1000 (F 9) (by decide) b tx.length hb1) hw hA (arX9 hw) ⟨Nat.le_of_ble_eq_true rfl, Nat.le_of_ble_eq_true rfl⟩ rfl rfl ⟨Nat.zero_le _, Nat.zero_le _⟩ rfl hl.1 (Nat.le_of_ble_eq_true rfl) dX_mayEndStatement_20 (fun r H locs hq hw => ?_)
    rw [nil_wK (by decide), key_text hb2] at hq
    subst hq
    refine lv_iconst (v := (-1)) hx hb dX_mayEndStatement_23 (by decide) ?_
    refine lv_icmp_ne (tgt := 42) hx hb dX_mayEndStatement_24 (by decide) (fun c24 => ?_) (fun c24 => ?_)
    · skip
      refine lv_iconst (v := 1) hx hb dX_mayEndStatement_42 (by decide) ?_
      refine lv_goto (tgt := 47) hx hb dX_mayEndStatement_43 (by decide) ?_
      exact MX.iret S hr hlk hw dX_mayEndStatement_47 (by first | rfl | decide | (rw [hq]; split <;> rfl)) ⟨_, rfl, by have hmc24 := (wixK_mem (i := 4) (by decide) tx).mp c24; simp [endX, hB1, hmc24], rfl, rfl⟩
    · skip
      refine va_ldcS hx hb S.2.2.2.1 (rK_0 hw.2.2.2.2.2) dX_mayEndStatement_27 ?_
      refine lv_aload_n hx hb dX_mayEndStatement_29 rfl (lv_at hl 0 rfl) ?_
      refine gX9 S hw dX_mayEndStatement_30 ?_
      refine lv_iload_n hx hb dX_mayEndStatement_33 rfl (lv_at hl 2 rfl) ?_
      refine lv_iload_n hx hb dX_mayEndStatement_34 rfl (lv_at hl 3 rfl) ?_
      refine kcXS (rest := []) S kX_73 (tX_numberInList l z 0 (by decide) (a 9) 1000 (F 9) (by decide) b tx.length hb1) hw hA (arX9 hw) ⟨Nat.le_of_ble_eq_true rfl, Nat.le_of_ble_eq_true rfl⟩ rfl rfl ⟨Nat.zero_le _, Nat.zero_le _⟩ rfl hl.1 (Nat.le_of_ble_eq_true rfl) dX_mayEndStatement_35 (fun r H locs hq hw => ?_)
      rw [nil_wK (by decide), key_text hb2] at hq
      subst hq
      refine lv_iconst (v := (-1)) hx hb dX_mayEndStatement_38 (by decide) ?_
      refine lv_icmp_eq (tgt := 46) hx hb dX_mayEndStatement_39 (by decide) (fun c39 => ?_) (fun c39 => ?_)
      · skip
        refine lv_iconst (v := 0) hx hb dX_mayEndStatement_46 (by decide) ?_
        exact MX.iret S hr hlk hw dX_mayEndStatement_47 (by first | rfl | decide | (rw [hq]; split <;> rfl)) ⟨_, rfl, by have hmc24 := (show ¬ tx ∈ wK 4 from fun q => (wixK_mem (by decide) tx).mpr q c24); have hmc39 := (show ¬ tx ∈ wK 0 from fun q => (wixK_mem (by decide) tx).mpr q c39); simp [endX, hB1, hmc24, hmc39], rfl, rfl⟩
      · skip
        refine lv_iconst (v := 1) hx hb dX_mayEndStatement_42 (by decide) ?_
        refine lv_goto (tgt := 47) hx hb dX_mayEndStatement_43 (by decide) ?_
        exact MX.iret S hr hlk hw dX_mayEndStatement_47 (by first | rfl | decide | (rw [hq]; split <;> rfl)) ⟨_, rfl, by have hmc24 := (show ¬ tx ∈ wK 4 from fun q => (wixK_mem (by decide) tx).mpr q c24); have hmc39 := (wixK_mem (i := 0) (by decide) tx).mp c39; simp [endX, hB1, hmc24, hmc39], rfl, rfl⟩
  · skip
    refine lv_if_ne (tgt := 12) hx hb dX_mayEndStatement_4 (by decide) (fun c4 => absurd c4 (by decide)) (fun c4 => ?_)
    refine lv_iload_n hx hb dX_mayEndStatement_7 rfl (lv_at hl 1 rfl) ?_
    refine kcXS (rest := []) S kX_180 (tX_isOperand l z none k) hw hA arNone ⟨Nat.le_of_ble_eq_true rfl, Nat.le_of_ble_eq_true rfl⟩ rfl rfl ⟨Nat.zero_le _, Nat.zero_le _⟩ rfl hl.1 (Nat.le_of_ble_eq_true rfl) dX_mayEndStatement_8 (fun r H locs hq hw => ?_)
    exact MX.iret S hr hlk hw dX_mayEndStatement_11 (by first | rfl | decide | (rw [hq]; split <;> rfl)) ⟨_, rfl, by rw [hq]; simp [endX, hB1], rfl, rfl⟩
set_option maxHeartbeats 4000000 in
set_option maxRecDepth 100000 in
theorem tX_mayBeginStatement (l : Launch) (I : Nat → Int32) (F : Nat → Nat → Int32) (k : Int32) (b : Nat) (tx : List Int32) (hb1 : b + tx.length ≤ 1000) (hb2 : ∀ j x, tx[j]? = some x → F 9 (b + j) = x) : MX l yX_mayBeginStatement cX_mayBeginStatement 4 (some .boolean) ({ frames := 5, cells := 0, slots := 0, locals := 112 }) [.int k, .int (nI b), .int (nI tx.length)] I F (iR (fun r I' F' => r = (if begX k tx then 1 else 0) ∧ I' = I ∧ F' = F)) := by
  refine MX.mk (by decide) (fun _ => Nat.le_of_ble_eq_true rfl) ?_
  intro z D cA h a pg en s m below meth c ls S hr hlk hA hw hl
  have hx := S.1
  have hb := S.2.1
  have hl : lv_has ls 4 [(0, .ref h), (1, .int k), (2, .int (nI b)), (3, .int (nI tx.length))] := hl
  refine lv_iload_n hx hb dX_mayBeginStatement_0 rfl (lv_at hl 1 rfl) ?_
  refine kcXS (rest := []) S kX_65 (tX_isSignOrKeyword l z none k) hw hA arNone ⟨Nat.le_of_ble_eq_true rfl, Nat.le_of_ble_eq_true rfl⟩ rfl rfl ⟨Nat.zero_le _, Nat.zero_le _⟩ rfl hl.1 (Nat.le_of_ble_eq_true rfl) dX_mayBeginStatement_1 (fun r H locs hq hw => ?_)
  rcases bI hq with ⟨hB1, rfl⟩ | ⟨hB1, rfl⟩
  · skip
    refine lv_if_ne (tgt := 12) hx hb dX_mayBeginStatement_4 (by decide) (fun c4 => ?_) (fun c4 => absurd c4 (by decide))
    refine va_ldcS hx hb S.2.2.2.1 (rK_5 hw.2.2.2.2.2) dX_mayBeginStatement_12 ?_
    refine lv_aload_n hx hb dX_mayBeginStatement_14 rfl (lv_at hl 0 rfl) ?_
    refine gX9 S hw dX_mayBeginStatement_15 ?_
    refine lv_iload_n hx hb dX_mayBeginStatement_18 rfl (lv_at hl 2 rfl) ?_
    refine lv_iload_n hx hb dX_mayBeginStatement_19 rfl (lv_at hl 3 rfl) ?_
    refine kcXS (rest := []) S kX_73 (tX_numberInList l z 5 (by decide) (a 9) 1000 (F 9) (by decide) b tx.length hb1) hw hA (arX9 hw) ⟨Nat.le_of_ble_eq_true rfl, Nat.le_of_ble_eq_true rfl⟩ rfl rfl ⟨Nat.zero_le _, Nat.zero_le _⟩ rfl hl.1 (Nat.le_of_ble_eq_true rfl) dX_mayBeginStatement_20 (fun r H locs hq hw => ?_)
    rw [nil_wK (by decide), key_text hb2] at hq
    subst hq
    refine lv_iconst (v := (-1)) hx hb dX_mayBeginStatement_23 (by decide) ?_
    refine lv_icmp_ne (tgt := 57) hx hb dX_mayBeginStatement_24 (by decide) (fun c24 => ?_) (fun c24 => ?_)
    · skip
      refine lv_iconst (v := 1) hx hb dX_mayBeginStatement_57 (by decide) ?_
      refine lv_goto (tgt := 62) hx hb dX_mayBeginStatement_58 (by decide) ?_
      exact MX.iret S hr hlk hw dX_mayBeginStatement_62 (by first | rfl | decide | (rw [hq]; split <;> rfl)) ⟨_, rfl, by have hmc24 := (wixK_mem (i := 5) (by decide) tx).mp c24; simp [begX, hB1, hmc24], rfl, rfl⟩
    · skip
      refine va_ldcS hx hb S.2.2.2.1 (rK_0 hw.2.2.2.2.2) dX_mayBeginStatement_27 ?_
      refine lv_aload_n hx hb dX_mayBeginStatement_29 rfl (lv_at hl 0 rfl) ?_
      refine gX9 S hw dX_mayBeginStatement_30 ?_
      refine lv_iload_n hx hb dX_mayBeginStatement_33 rfl (lv_at hl 2 rfl) ?_
      refine lv_iload_n hx hb dX_mayBeginStatement_34 rfl (lv_at hl 3 rfl) ?_
      refine kcXS (rest := []) S kX_73 (tX_numberInList l z 0 (by decide) (a 9) 1000 (F 9) (by decide) b tx.length hb1) hw hA (arX9 hw) ⟨Nat.le_of_ble_eq_true rfl, Nat.le_of_ble_eq_true rfl⟩ rfl rfl ⟨Nat.zero_le _, Nat.zero_le _⟩ rfl hl.1 (Nat.le_of_ble_eq_true rfl) dX_mayBeginStatement_35 (fun r H locs hq hw => ?_)
      rw [nil_wK (by decide), key_text hb2] at hq
      subst hq
      refine lv_iconst (v := (-1)) hx hb dX_mayBeginStatement_38 (by decide) ?_
      refine lv_icmp_ne (tgt := 57) hx hb dX_mayBeginStatement_39 (by decide) (fun c39 => ?_) (fun c39 => ?_)
      · skip
        refine lv_iconst (v := 1) hx hb dX_mayBeginStatement_57 (by decide) ?_
        refine lv_goto (tgt := 62) hx hb dX_mayBeginStatement_58 (by decide) ?_
        exact MX.iret S hr hlk hw dX_mayBeginStatement_62 (by first | rfl | decide | (rw [hq]; split <;> rfl)) ⟨_, rfl, by have hmc24 := (show ¬ tx ∈ wK 5 from fun q => (wixK_mem (by decide) tx).mpr q c24); have hmc39 := (wixK_mem (i := 0) (by decide) tx).mp c39; simp [begX, hB1, hmc24, hmc39], rfl, rfl⟩
      · skip
        refine va_ldcS hx hb S.2.2.2.1 (rK_1 hw.2.2.2.2.2) dX_mayBeginStatement_42 ?_
        refine lv_aload_n hx hb dX_mayBeginStatement_44 rfl (lv_at hl 0 rfl) ?_
        refine gX9 S hw dX_mayBeginStatement_45 ?_
        refine lv_iload_n hx hb dX_mayBeginStatement_48 rfl (lv_at hl 2 rfl) ?_
        refine lv_iload_n hx hb dX_mayBeginStatement_49 rfl (lv_at hl 3 rfl) ?_
        refine kcXS (rest := []) S kX_73 (tX_numberInList l z 1 (by decide) (a 9) 1000 (F 9) (by decide) b tx.length hb1) hw hA (arX9 hw) ⟨Nat.le_of_ble_eq_true rfl, Nat.le_of_ble_eq_true rfl⟩ rfl rfl ⟨Nat.zero_le _, Nat.zero_le _⟩ rfl hl.1 (Nat.le_of_ble_eq_true rfl) dX_mayBeginStatement_50 (fun r H locs hq hw => ?_)
        rw [nil_wK (by decide), key_text hb2] at hq
        subst hq
        refine lv_iconst (v := (-1)) hx hb dX_mayBeginStatement_53 (by decide) ?_
        refine lv_icmp_eq (tgt := 61) hx hb dX_mayBeginStatement_54 (by decide) (fun c54 => ?_) (fun c54 => ?_)
        · skip
          refine lv_iconst (v := 0) hx hb dX_mayBeginStatement_61 (by decide) ?_
          exact MX.iret S hr hlk hw dX_mayBeginStatement_62 (by first | rfl | decide | (rw [hq]; split <;> rfl)) ⟨_, rfl, by have hmc24 := (show ¬ tx ∈ wK 5 from fun q => (wixK_mem (by decide) tx).mpr q c24); have hmc39 := (show ¬ tx ∈ wK 0 from fun q => (wixK_mem (by decide) tx).mpr q c39); have hmc54 := (show ¬ tx ∈ wK 1 from fun q => (wixK_mem (by decide) tx).mpr q c54); simp [begX, hB1, hmc24, hmc39, hmc54], rfl, rfl⟩
        · skip
          refine lv_iconst (v := 1) hx hb dX_mayBeginStatement_57 (by decide) ?_
          refine lv_goto (tgt := 62) hx hb dX_mayBeginStatement_58 (by decide) ?_
          exact MX.iret S hr hlk hw dX_mayBeginStatement_62 (by first | rfl | decide | (rw [hq]; split <;> rfl)) ⟨_, rfl, by have hmc24 := (show ¬ tx ∈ wK 5 from fun q => (wixK_mem (by decide) tx).mpr q c24); have hmc39 := (show ¬ tx ∈ wK 0 from fun q => (wixK_mem (by decide) tx).mpr q c39); have hmc54 := (wixK_mem (i := 1) (by decide) tx).mp c54; simp [begX, hB1, hmc24, hmc39, hmc54], rfl, rfl⟩
  · skip
    refine lv_if_ne (tgt := 12) hx hb dX_mayBeginStatement_4 (by decide) (fun c4 => absurd c4 (by decide)) (fun c4 => ?_)
    refine lv_iload_n hx hb dX_mayBeginStatement_7 rfl (lv_at hl 1 rfl) ?_
    refine kcXS (rest := []) S kX_180 (tX_isOperand l z none k) hw hA arNone ⟨Nat.le_of_ble_eq_true rfl, Nat.le_of_ble_eq_true rfl⟩ rfl rfl ⟨Nat.zero_le _, Nat.zero_le _⟩ rfl hl.1 (Nat.le_of_ble_eq_true rfl) dX_mayBeginStatement_8 (fun r H locs hq hw => ?_)
    exact MX.iret S hr hlk hw dX_mayBeginStatement_11 (by first | rfl | decide | (rw [hq]; split <;> rfl)) ⟨_, rfl, by rw [hq]; simp [begX, hB1], rfl, rfl⟩
set_option maxHeartbeats 4000000 in
set_option maxRecDepth 100000 in
theorem tX_isSemicolonDue (l : Launch) (I : Nat → Int32) (F : Nat → Nat → Int32) (ts : List kz_T) (e0 L : Nat) (hrp : repX ts e0 I F) (he0 : e0 ≤ 1000) (h12 : I 12 = nI L) (hL : L ≤ 1000) (k : Int32) (b : Nat) (tx : List Int32) (hb1 : b + tx.length ≤ 1000) (hb2 : ∀ j x, tx[j]? = some x → F 9 (b + j) = x) : MX l yX_isSemicolonDue cX_isSemicolonDue 5 (some .boolean) ({ frames := 6, cells := 0, slots := 0, locals := 135 }) [.int k, .int (nI b), .int (nI tx.length)] I F (iR (fun r I' F' => r = (if semX ts L k tx = true then 1 else 0) ∧ I' = I ∧ F' = F)) := by
  refine MX.mk (by decide) (fun _ => Nat.le_of_ble_eq_true rfl) ?_
  intro z D cA h a pg en s m below meth c ls S hr hlk hA hw hl
  have hx := S.1
  have hb := S.2.1
  have hl : lv_has ls 5 [(0, .ref h), (1, .int k), (2, .int (nI b)), (3, .int (nI tx.length))] := hl
  rcases List.eq_nil_or_concat ts with rfl | ⟨ts0, t, rfl⟩
  · skip
    refine lv_aload_n hx hb dX_isSemicolonDue_0 rfl (lv_at hl 0 rfl) ?_
    refine gX8 S hw dX_isSemicolonDue_1 ?_
    refine kz_top (y := nI 0) hrp.1 ?_
    refine lv_iconst (v := 1) hx hb dX_isSemicolonDue_4 (by decide) ?_
    refine lv_isub hx hb dX_isSemicolonDue_5 ?_
    refine kz_top (y := -1) (by decide) ?_
    refine lv_istore (lv' := [(4, .int (-1)), (0, .ref h), (1, .int k), (2, .int (nI b)), (3, .int (nI tx.length))]) hx hb dX_isSemicolonDue_6 hl (by decide) rfl (fun ls hl => ?_)
    refine lv_aload_n hx hb dX_isSemicolonDue_8 rfl (lv_at hl 1 rfl) ?_
    refine lv_iload hx hb dX_isSemicolonDue_9 (lv_at hl 0 rfl) ?_
    refine kcXi (rest := []) S kX_61 rfl (tX_isToken l I F ([] : List kz_T).length hrp.1 hrp.2.1  (-1)) hw hA ⟨Nat.le_of_ble_eq_true rfl, Nat.le_of_ble_eq_true rfl⟩ rfl rfl ⟨Nat.zero_le _, Nat.zero_le _⟩ rfl hl.1 (Nat.le_of_ble_eq_true rfl) dX_isSemicolonDue_11 (fun r I' F' H locs hq hw => ?_)
    obtain ⟨hr1, hr2, hr3⟩ := hq
    rw [hr2, hr3] at hw
    rw [if_neg (fun q => q.1 (by decide))] at hr1
    subst hr1
    refine lv_if_eq (tgt := 73) hx hb dX_isSemicolonDue_14 (by decide) (fun c14 => ?_) (fun c14 => absurd c14 (by decide))
    refine lv_iconst (v := 0) hx hb dX_isSemicolonDue_73 (by decide) ?_
    exact MX.iret S hr hlk hw dX_isSemicolonDue_74 (by first | rfl | decide) ⟨_, rfl, by simp [semX], rfl, rfl⟩
  · skip
    obtain ⟨h8, hlen, hall⟩ := id hrp
    have hlen1 : (ts0.concat t).length = ts0.length + 1 := by simp
    rw [hlen1] at hlen
    obtain ⟨f2, f3, f4, f5, fl, b0, f6, f7, f8, f9⟩ := hall ts0.length t (by simp)
    have hcl : (nI ts0.length).toNatClampNeg = ts0.length := nI_clamp (by omega)
    refine lv_aload_n hx hb dX_isSemicolonDue_0 rfl (lv_at hl 0 rfl) ?_
    refine gX8 S hw dX_isSemicolonDue_1 ?_
    refine kz_top (y := nI (ts0.concat t).length) hrp.1 ?_
    refine lv_iconst (v := 1) hx hb dX_isSemicolonDue_4 (by decide) ?_
    refine lv_isub hx hb dX_isSemicolonDue_5 ?_
    refine kz_top (y := nI ts0.length) (by rw [hlen1]; exact nI_pred _) ?_
    refine lv_istore (lv' := [(4, .int (nI ts0.length)), (0, .ref h), (1, .int k), (2, .int (nI b)), (3, .int (nI tx.length))]) hx hb dX_isSemicolonDue_6 hl (by decide) rfl (fun ls hl => ?_)
    refine lv_aload_n hx hb dX_isSemicolonDue_8 rfl (lv_at hl 1 rfl) ?_
    refine lv_iload hx hb dX_isSemicolonDue_9 (lv_at hl 0 rfl) ?_
    refine kcXi (rest := []) S kX_61 rfl (tX_isToken l I F (ts0.concat t).length hrp.1 hrp.2.1  (nI ts0.length)) hw hA ⟨Nat.le_of_ble_eq_true rfl, Nat.le_of_ble_eq_true rfl⟩ rfl rfl ⟨Nat.zero_le _, Nat.zero_le _⟩ rfl hl.1 (Nat.le_of_ble_eq_true rfl) dX_isSemicolonDue_11 (fun r I' F' H locs hq hw => ?_)
    obtain ⟨hr1, hr2, hr3⟩ := hq
    rw [hr2, hr3] at hw
    rw [if_pos ⟨nI_pos (by omega), by rw [hlen1]; exact nI_ge (Nat.lt_succ_self _) (by omega)⟩] at hr1
    subst hr1
    refine lv_if_eq (tgt := 73) hx hb dX_isSemicolonDue_14 (by decide) (fun c14 => absurd c14 (by decide)) (fun c14 => ?_)
    refine lv_aload_n hx hb dX_isSemicolonDue_17 rfl (lv_at hl 1 rfl) ?_
    refine gX4 S hw dX_isSemicolonDue_18 ?_
    refine lv_iload hx hb dX_isSemicolonDue_21 (lv_at hl 0 rfl) ?_
    refine ldX4 S hw (vp_in_nI (by omega) (by decide)) dX_isSemicolonDue_23 ?_
    refine kz_top (y := nI t.2.2.1) (by rw [hcl]; exact f4) ?_
    refine lv_aload_n hx hb dX_isSemicolonDue_24 rfl (lv_at hl 1 rfl) ?_
    refine gX12 S hw dX_isSemicolonDue_25 ?_
    refine kz_top (y := nI L) h12 ?_
    refine lv_icmp_ge (tgt := 73) hx hb dX_isSemicolonDue_28 (by decide) (fun c28 => ?_) (fun c28 => ?_)
    · skip
      refine lv_iconst (v := 0) hx hb dX_isSemicolonDue_73 (by decide) ?_
      exact MX.iret S hr hlk hw dX_isSemicolonDue_74 (by first | rfl | decide) ⟨_, rfl, by rw [if_neg (fun q0 => by have q := (semX_c _ _ _ _ _).mp q0; exact absurd ((nI_leI (by omega) (by omega)).mp c28) (by have := q.1; omega))], rfl, rfl⟩
    · skip
      refine lv_aload_n hx hb dX_isSemicolonDue_31 rfl (lv_at hl 1 rfl) ?_
      refine lv_aload_n hx hb dX_isSemicolonDue_32 rfl (lv_at hl 1 rfl) ?_
      refine gX2 S hw dX_isSemicolonDue_33 ?_
      refine lv_iload hx hb dX_isSemicolonDue_36 (lv_at hl 0 rfl) ?_
      refine ldX2 S hw (vp_in_nI (by omega) (by decide)) dX_isSemicolonDue_38 ?_
      refine kz_top (y := t.1) (by rw [hcl]; exact f2) ?_
      refine lv_aload_n hx hb dX_isSemicolonDue_39 rfl (lv_at hl 1 rfl) ?_
      refine gX6 S hw dX_isSemicolonDue_40 ?_
      refine lv_iload hx hb dX_isSemicolonDue_43 (lv_at hl 0 rfl) ?_
      refine ldX6 S hw (vp_in_nI (by omega) (by decide)) dX_isSemicolonDue_45 ?_
      refine kz_top (y := nI b0) (by rw [hcl]; exact f6) ?_
      refine lv_aload_n hx hb dX_isSemicolonDue_46 rfl (lv_at hl 1 rfl) ?_
      refine gX7 S hw dX_isSemicolonDue_47 ?_
      refine lv_iload hx hb dX_isSemicolonDue_50 (lv_at hl 0 rfl) ?_
      refine ldX7 S hw (vp_in_nI (by omega) (by decide)) dX_isSemicolonDue_52 ?_
      refine kz_top (y := nI t.2.2.2.2.length) (by rw [hcl]; exact f7) ?_
      refine kcXi (rest := []) S kX_174 rfl (tX_mayEndStatement l I F t.1 b0 t.2.2.2.2 (by omega) f9) hw hA ⟨Nat.le_of_ble_eq_true rfl, Nat.le_of_ble_eq_true rfl⟩ rfl rfl ⟨Nat.zero_le _, Nat.zero_le _⟩ rfl hl.1 (Nat.le_of_ble_eq_true rfl) dX_isSemicolonDue_53 (fun r I' F' H locs hq hw => ?_)
      obtain ⟨hr1, hr2, hr3⟩ := hq
      rw [hr2, hr3] at hw
      rcases bI hr1 with ⟨hB1, rfl⟩ | ⟨hB1, rfl⟩
      · skip
        refine lv_if_eq (tgt := 73) hx hb dX_isSemicolonDue_56 (by decide) (fun c56 => absurd c56 (by decide)) (fun c56 => ?_)
        refine lv_aload_n hx hb dX_isSemicolonDue_59 rfl (lv_at hl 1 rfl) ?_
        refine lv_iload_n hx hb dX_isSemicolonDue_60 rfl (lv_at hl 2 rfl) ?_
        refine lv_iload_n hx hb dX_isSemicolonDue_61 rfl (lv_at hl 3 rfl) ?_
        refine lv_iload_n hx hb dX_isSemicolonDue_62 rfl (lv_at hl 4 rfl) ?_
        refine kcXi (rest := []) S kX_177 rfl (tX_mayBeginStatement l I F k b tx hb1 hb2) hw hA ⟨Nat.le_of_ble_eq_true rfl, Nat.le_of_ble_eq_true rfl⟩ rfl rfl ⟨Nat.zero_le _, Nat.zero_le _⟩ rfl hl.1 (Nat.le_of_ble_eq_true rfl) dX_isSemicolonDue_63 (fun r I' F' H locs hq hw => ?_)
        obtain ⟨hr1, hr2, hr3⟩ := hq
        rw [hr2, hr3] at hw
        rcases bI hr1 with ⟨hB2, rfl⟩ | ⟨hB2, rfl⟩
        · skip
          refine lv_if_eq (tgt := 73) hx hb dX_isSemicolonDue_66 (by decide) (fun c66 => absurd c66 (by decide)) (fun c66 => ?_)
          refine lv_iconst (v := 1) hx hb dX_isSemicolonDue_69 (by decide) ?_
          refine lv_goto (tgt := 74) hx hb dX_isSemicolonDue_70 (by decide) ?_
          exact MX.iret S hr hlk hw dX_isSemicolonDue_74 (by first | rfl | decide) ⟨_, rfl, by rw [if_pos ((semX_c _ _ _ _ _).mpr ⟨Nat.lt_of_not_le (fun q => c28 (nI_le q (by omega))), hB1, hB2⟩)], rfl, rfl⟩
        · skip
          refine lv_if_eq (tgt := 73) hx hb dX_isSemicolonDue_66 (by decide) (fun c66 => ?_) (fun c66 => absurd c66 (by decide))
          refine lv_iconst (v := 0) hx hb dX_isSemicolonDue_73 (by decide) ?_
          exact MX.iret S hr hlk hw dX_isSemicolonDue_74 (by first | rfl | decide) ⟨_, rfl, by rw [if_neg (fun q0 => by have q := (semX_c _ _ _ _ _).mp q0; exact hB2 q.2.2)], rfl, rfl⟩
      · skip
        refine lv_if_eq (tgt := 73) hx hb dX_isSemicolonDue_56 (by decide) (fun c56 => ?_) (fun c56 => absurd c56 (by decide))
        refine lv_iconst (v := 0) hx hb dX_isSemicolonDue_73 (by decide) ?_
        exact MX.iret S hr hlk hw dX_isSemicolonDue_74 (by first | rfl | decide) ⟨_, rfl, by rw [if_neg (fun q0 => by have q := (semX_c _ _ _ _ _).mp q0; exact hB1 q.2.1)], rfl, rfl⟩
/-- a token is laid at place c of the arrays -/
def addXP (F : Nat → Nat → Int32) (c : Nat) (k p L v b z : Int32) (F' : Nat → Nat → Int32) : Prop := F' 2 = upd (F 2) c k ∧ F' 3 = upd (F 3) c p ∧ F' 4 = upd (F 4) c L ∧ F' 5 = upd (F 5) c v ∧ F' 6 = upd (F 6) c b ∧ F' 7 = upd (F 7) c z ∧ F' 0 = F 0 ∧ F' 9 = F 9
set_option maxHeartbeats 4000000 in
set_option maxRecDepth 100000 in
theorem tX_addToken (l : Launch) (I : Nat → Int32) (F : Nat → Nat → Int32) (c0 : Nat) (h8 : I 8 = nI c0) (hc0 : c0 < 1001) (L : Int32) (h12 : I 12 = L) (k p v b z0 : Int32) : MX l yX_addToken cX_addToken 6 none ({ frames := 0, cells := 0, slots := 0, locals := 0 }) [.int k, .int p, .int v, .int b, .int z0] I F (vR (fun I' F' => I' = upd I 8 (nI (c0 + 1)) ∧ addXP F c0 k p L v b z0 F')) := by
  refine MX.mk (by decide) (fun _ => Nat.le_of_ble_eq_true rfl) ?_
  intro z D cA h a pg en s m below meth c ls S hr hlk hA hw hl
  have hx := S.1
  have hb := S.2.1
  have hl : lv_has ls 6 [(0, .ref h), (1, .int k), (2, .int p), (3, .int v), (4, .int b), (5, .int z0)] := hl
  have hcl : (nI c0).toNatClampNeg = c0 := nI_clamp (by omega)
  refine lv_aload_n hx hb dX_addToken_0 rfl (lv_at hl 0 rfl) ?_
  refine gX8 S hw dX_addToken_1 ?_
  refine kz_top (y := nI c0) h8 ?_
  refine lv_if_lt (tgt := 17) hx hb dX_addToken_4 (by decide) (fun c4 => absurd c4 (nI_pos (by omega))) (fun c4 => ?_)
  refine lv_aload_n hx hb dX_addToken_7 rfl (lv_at hl 0 rfl) ?_
  refine gX8 S hw dX_addToken_8 ?_
  refine kz_top (y := nI c0) h8 ?_
  refine lv_sipush (v := 1001) hx hb dX_addToken_11 (by decide) ?_
  refine lv_icmp_lt (tgt := 18) hx hb dX_addToken_14 (by decide) (fun c14 => ?_) (fun c14 => absurd (nI_lt (b := 1001) hc0 (by decide)) c14)
  refine lv_aload_n hx hb dX_addToken_18 rfl (lv_at hl 0 rfl) ?_
  refine gX2 S hw dX_addToken_19 ?_
  refine lv_aload_n hx hb dX_addToken_22 rfl (lv_at hl 0 rfl) ?_
  refine gX8 S hw dX_addToken_23 ?_
  refine kz_top (y := nI c0) h8 ?_
  refine lv_iload_n hx hb dX_addToken_26 rfl (lv_at hl 1 rfl) ?_
  refine stX2 S hw (vp_in_nI hc0 (by decide)) dX_addToken_27 (fun H locs hw => ?_)
  refine lv_aload_n hx hb dX_addToken_28 rfl (lv_at hl 0 rfl) ?_
  refine gX3 S hw dX_addToken_29 ?_
  refine lv_aload_n hx hb dX_addToken_32 rfl (lv_at hl 0 rfl) ?_
  refine gX8 S hw dX_addToken_33 ?_
  refine kz_top (y := nI c0) h8 ?_
  refine lv_iload_n hx hb dX_addToken_36 rfl (lv_at hl 2 rfl) ?_
  refine stX3 S hw (vp_in_nI hc0 (by decide)) dX_addToken_37 (fun H locs hw => ?_)
  refine lv_aload_n hx hb dX_addToken_38 rfl (lv_at hl 0 rfl) ?_
  refine gX4 S hw dX_addToken_39 ?_
  refine lv_aload_n hx hb dX_addToken_42 rfl (lv_at hl 0 rfl) ?_
  refine gX8 S hw dX_addToken_43 ?_
  refine kz_top (y := nI c0) h8 ?_
  refine lv_aload_n hx hb dX_addToken_46 rfl (lv_at hl 0 rfl) ?_
  refine gX12 S hw dX_addToken_47 ?_
  refine kz_top (y := L) h12 ?_
  refine stX4 S hw (vp_in_nI hc0 (by decide)) dX_addToken_50 (fun H locs hw => ?_)
  refine lv_aload_n hx hb dX_addToken_51 rfl (lv_at hl 0 rfl) ?_
  refine gX5 S hw dX_addToken_52 ?_
  refine lv_aload_n hx hb dX_addToken_55 rfl (lv_at hl 0 rfl) ?_
  refine gX8 S hw dX_addToken_56 ?_
  refine kz_top (y := nI c0) h8 ?_
  refine lv_iload_n hx hb dX_addToken_59 rfl (lv_at hl 3 rfl) ?_
  refine stX5 S hw (vp_in_nI hc0 (by decide)) dX_addToken_60 (fun H locs hw => ?_)
  refine lv_aload_n hx hb dX_addToken_61 rfl (lv_at hl 0 rfl) ?_
  refine gX6 S hw dX_addToken_62 ?_
  refine lv_aload_n hx hb dX_addToken_65 rfl (lv_at hl 0 rfl) ?_
  refine gX8 S hw dX_addToken_66 ?_
  refine kz_top (y := nI c0) h8 ?_
  refine lv_iload hx hb dX_addToken_69 (lv_at hl 4 rfl) ?_
  refine stX6 S hw (vp_in_nI hc0 (by decide)) dX_addToken_71 (fun H locs hw => ?_)
  refine lv_aload_n hx hb dX_addToken_72 rfl (lv_at hl 0 rfl) ?_
  refine gX7 S hw dX_addToken_73 ?_
  refine lv_aload_n hx hb dX_addToken_76 rfl (lv_at hl 0 rfl) ?_
  refine gX8 S hw dX_addToken_77 ?_
  refine kz_top (y := nI c0) h8 ?_
  refine lv_iload hx hb dX_addToken_80 (lv_at hl 5 rfl) ?_
  refine stX7 S hw (vp_in_nI hc0 (by decide)) dX_addToken_82 (fun H locs hw => ?_)
  refine lv_aload_n hx hb dX_addToken_83 rfl (lv_at hl 0 rfl) ?_
  refine lv_dup hx hb dX_addToken_84 rfl ?_
  refine gX8 S hw dX_addToken_85 ?_
  refine kz_top (y := nI c0) h8 ?_
  refine lv_iconst (v := 1) hx hb dX_addToken_88 (by decide) ?_
  refine lv_iadd hx hb dX_addToken_89 ?_
  refine kz_top (y := nI (c0 + 1)) (nI_add c0 1) ?_
  refine pX8 S hw dX_addToken_90 (fun H locs hw => ?_)
  exact MX.vret S hr hlk hw dX_addToken_93 ⟨rfl, rfl, by rw [hcl]; exact ⟨rfl, rfl, rfl, rfl, rfl, rfl, rfl, rfl⟩⟩
set_option maxHeartbeats 4000000 in
set_option maxRecDepth 100000 in
theorem tX_addSemicolon (l : Launch) (I : Nat → Int32) (F : Nat → Nat → Int32) (c0 e : Nat) (h8 : I 8 = nI c0) (hc0 : c0 < 1001) (h10 : I 10 = nI e) (he : e < 1000) (L : Int32) (h12 : I 12 = L) (p : Int32) : MX l yX_addSemicolon cX_addSemicolon 3 none ({ frames := 1, cells := 0, slots := 0, locals := 25 }) [.int p] I F (vR (fun I' F' => I' = upd (upd I 10 (nI (e + 1))) 8 (nI (c0 + 1)) ∧ addXP (va_up F 9 (upd (F 9) e 59)) c0 3 p L 0 (nI e) 1 F')) := by
  refine MX.mk (by decide) (fun _ => Nat.le_of_ble_eq_true rfl) ?_
  intro z D cA h a pg en s m below meth c ls S hr hlk hA hw hl
  have hx := S.1
  have hb := S.2.1
  have hl : lv_has ls 3 [(0, .ref h), (1, .int p)] := hl
  refine lv_aload_n hx hb dX_addSemicolon_0 rfl (lv_at hl 0 rfl) ?_
  refine gX10 S hw dX_addSemicolon_1 ?_
  refine kz_top (y := nI e) h10 ?_
  refine lv_istore_n (lv' := [(2, .int (nI e)), (0, .ref h), (1, .int p)]) hx hb dX_addSemicolon_4 rfl hl (by decide) rfl (fun ls hl => ?_)
  refine lv_aload_n hx hb dX_addSemicolon_5 rfl (lv_at hl 1 rfl) ?_
  refine lv_bipush (v := 59) hx hb dX_addSemicolon_6 (by decide) ?_
  refine kcXv (rest := []) S kX_153 rfl (tX_appendText l I F e h10 he 59) hw hA ⟨Nat.le_of_ble_eq_true rfl, Nat.le_of_ble_eq_true rfl⟩ rfl rfl ⟨Nat.zero_le _, Nat.zero_le _⟩ rfl hl.1 (Nat.le_of_ble_eq_true rfl) dX_addSemicolon_8 (fun I' F' H locs hq hw => ?_)
  obtain ⟨hr2, hr3⟩ := hq
  rw [hr2, hr3] at hw
  refine lv_aload_n hx hb dX_addSemicolon_11 rfl (lv_at hl 1 rfl) ?_
  refine lv_iconst (v := 3) hx hb dX_addSemicolon_12 (by decide) ?_
  refine lv_iload_n hx hb dX_addSemicolon_13 rfl (lv_at hl 2 rfl) ?_
  refine lv_iconst (v := 0) hx hb dX_addSemicolon_14 (by decide) ?_
  refine lv_iload_n hx hb dX_addSemicolon_15 rfl (lv_at hl 0 rfl) ?_
  refine lv_aload_n hx hb dX_addSemicolon_16 rfl (lv_at hl 1 rfl) ?_
  refine gX10 S hw dX_addSemicolon_17 ?_
  refine kz_top (y := nI (e + 1)) rfl ?_
  refine lv_iload_n hx hb dX_addSemicolon_20 rfl (lv_at hl 0 rfl) ?_
  refine lv_isub hx hb dX_addSemicolon_21 ?_
  refine kz_top (y := 1) ((pk_sub (a := e + 1) (b := e) (by omega)).trans (by rw [Nat.add_sub_cancel_left]; rfl)) ?_
  refine kcXv (rest := []) S kX_99 rfl (tX_addToken l (upd I 10 (nI (e + 1))) (va_up F 9 (upd (F 9) e 59)) c0 h8 hc0 L h12 3 p 0 (nI e) 1) hw hA ⟨Nat.le_of_ble_eq_true rfl, Nat.le_of_ble_eq_true rfl⟩ rfl rfl ⟨Nat.zero_le _, Nat.zero_le _⟩ rfl hl.1 (Nat.le_of_ble_eq_true rfl) dX_addSemicolon_22 (fun I' F' H locs hq hw => ?_)
  exact MX.vret S hr hlk hw dX_addSemicolon_25 ⟨rfl, hq⟩
