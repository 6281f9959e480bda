/-! ===== constant texts: length and charAt ===== -/
def chK (i k : Nat) : Int32 := (bytK.getD i []).getD k 0
theorem chK_ok : ∀ i, i < 12 → ∀ k, k < lenK.getD i 0 → (narrow .char (.int (chK i k)) = .int (chK i k) ∧ ((chK i k &&& 255).toUInt32 % 65536).toInt32 = chK i k) := by decide +kernel
theorem lenK_ok : ∀ i, i < 12 → lenK.getD i 0 < 1000 := by decide +kernel
set_option maxHeartbeats 4000000 in
set_option maxRecDepth 100000 in
theorem tS_coder (l : Launch) (z : kz_Z) (o : kz_O) (i : Nat) (hi : i < 12) : MS l yS_coder cS_coder 1 (some .byte) ({ frames := 0, cells := 0, slots := 0, locals := 0 }) [.ref (z.2.1 i)] z o (fun v => ∃ r, v = some (.int r) ∧ r = 0) := by
  refine MS.mk (by decide) (Nat.le_of_ble_eq_true rfl) ?_
  intro pg en s m below meth c ls S hr hlk hw hl
  have hA : ∀ q, s.heap.size ≤ q → (fun x => s.heap.size ≤ x) q := fun _ h => h
  have hx := S.1
  have hb := S.2.1
  have hl : lv_has ls 1 [(0, .ref (z.2.1 i))] := hl
  refine va_gets hx hb hw.2.1.2.2.1 hw.1 S.2.2.2.1 (S.2.2.2.2 _ (List.mem_cons_of_mem _ wfS_38)) (fun _ h9 => h9) dS_coder_0 ?_
  refine lv_if_eq (tgt := 13) hx hb dS_coder_3 (by decide) (fun c3 => absurd c3 (by decide)) (fun c3 => ?_)
  refine lv_aload_n hx hb dS_coder_6 rfl (lv_at hl 0 rfl) ?_
  refine vk_getf hx hb (hw.2.1.2.2.2.2.1 i hi).2.1 hw.1 S.2.2.2.1 (S.2.2.2.2 _ (List.mem_cons_of_mem _ wfS_15)) (fun _ h9 => h9) dS_coder_7 ?_
  refine lv_goto (tgt := 14) hx hb dS_coder_10 (by decide) ?_
  exact MS.iret S hr hlk hw dS_coder_14 (by first | rfl | decide) ⟨_, rfl, rfl⟩
set_option maxHeartbeats 4000000 in
set_option maxRecDepth 100000 in
theorem tS_isLatin1 (l : Launch) (z : kz_Z) (o : kz_O) (i : Nat) (hi : i < 12) : MS l yS_isLatin1 cS_isLatin1 1 (some .boolean) ({ frames := 0, cells := 0, slots := 0, locals := 0 }) [.ref (z.2.1 i)] z o (fun v => ∃ r, v = some (.int r) ∧ r = 1) := by
  refine MS.mk (by decide) (Nat.le_of_ble_eq_true rfl) ?_
  intro pg en s m below meth c ls S hr hlk hw hl
  have hA : ∀ q, s.heap.size ≤ q → (fun x => s.heap.size ≤ x) q := fun _ h => h
  have hx := S.1
  have hb := S.2.1
  have hl : lv_has ls 1 [(0, .ref (z.2.1 i))] := hl
  refine va_gets hx hb hw.2.1.2.2.1 hw.1 S.2.2.2.1 (S.2.2.2.2 _ (List.mem_cons_of_mem _ wfS_38)) (fun _ h9 => h9) dS_isLatin1_0 ?_
  refine lv_if_eq (tgt := 17) hx hb dS_isLatin1_3 (by decide) (fun c3 => absurd c3 (by decide)) (fun c3 => ?_)
  refine lv_aload_n hx hb dS_isLatin1_6 rfl (lv_at hl 0 rfl) ?_
  refine vk_getf hx hb (hw.2.1.2.2.2.2.1 i hi).2.1 hw.1 S.2.2.2.1 (S.2.2.2.2 _ (List.mem_cons_of_mem _ wfS_15)) (fun _ h9 => h9) dS_isLatin1_7 ?_
  refine lv_if_ne (tgt := 17) hx hb dS_isLatin1_10 (by decide) (fun c10 => absurd c10 (by decide)) (fun c10 => ?_)
  refine lv_iconst (v := 1) hx hb dS_isLatin1_13 (by decide) ?_
  refine lv_goto (tgt := 18) hx hb dS_isLatin1_14 (by decide) ?_
  exact MS.iret S hr hlk hw dS_isLatin1_18 (by first | rfl | decide) ⟨_, rfl, rfl⟩
set_option maxHeartbeats 4000000 in
set_option maxRecDepth 100000 in
theorem tS_length (l : Launch) (z : kz_Z) (o : kz_O) (i : Nat) (hi : i < 12) : MS l yS_length cS_length 1 (some .int) ({ frames := 1, cells := 0, slots := 0, locals := 20 }) [.ref (z.2.1 i)] z o (fun v => ∃ r, v = some (.int r) ∧ r = nI (lenK.getD i 0)) := by
  refine MS.mk (by decide) (Nat.le_of_ble_eq_true rfl) ?_
  intro pg en s m below meth c ls S hr hlk hw hl
  have hA : ∀ q, s.heap.size ≤ q → (fun x => s.heap.size ≤ x) q := fun _ h => h
  have hx := S.1
  have hb := S.2.1
  have hl : lv_has ls 1 [(0, .ref (z.2.1 i))] := hl
  refine lv_aload_n hx hb dS_length_0 rfl (lv_at hl 0 rfl) ?_
  refine vk_getf hx hb (hw.2.1.2.2.2.2.1 i hi).2.2.1 hw.1 S.2.2.2.1 (S.2.2.2.2 _ (List.mem_cons_of_mem _ wfS_9)) (fun _ h9 => h9) dS_length_1 ?_
  refine va_tlen hx hb (hw.2.1.2.2.2.2.1 i hi).2.2.2 hw.1 (v := nI (lenK.getD i 0)) rfl dS_length_4 ?_
  refine lv_aload_n hx hb dS_length_5 rfl (lv_at hl 0 rfl) ?_
  refine kcST (rest := [.int (nI (lenK.getD i 0))]) S kS_335 rfl hi (tS_coder l z none i hi) hw hA arNone ⟨Nat.le_of_ble_eq_true rfl, Nat.le_of_ble_eq_true rfl⟩ rfl rfl ⟨Nat.zero_le _, Nat.zero_le _⟩ rfl hl.1 (Nat.le_of_ble_eq_true rfl) dS_length_6 (fun r H locs hq hw => ?_)
  subst hq
  refine lv_ishr hx hb dS_length_9 ?_
  exact MS.iret S hr hlk hw dS_length_10 rfl ⟨_, rfl, sc_shr0 (by have := lenK_ok i hi; omega)⟩
set_option maxHeartbeats 4000000 in
set_option maxRecDepth 100000 in
theorem tP_checkIndex_n (l : Launch) (z : kz_Z) (o : kz_O) (x y : Int32) (h0 : ¬ x < 0) (h1 : x < y) : MS l yP_checkIndex cP_checkIndex 3 (some .int) ({ frames := 0, cells := 0, slots := 0, locals := 0 }) [.int x, .int y, .null] z o (fun v => ∃ r, v = some (.int r) ∧ r = x) := by
  refine MS.mk (by decide) (Nat.le_of_ble_eq_true rfl) ?_
  intro pg en s m below meth c ls S hr hlk hw hl
  have hA : ∀ q, s.heap.size ≤ q → (fun x => s.heap.size ≤ x) q := fun _ h => h
  have hx := S.1
  have hb := S.2.1
  have hl : lv_has ls 3 [(0, .int x), (1, .int y), (2, .null)] := hl
  refine lv_iload_n hx hb dP_checkIndex_0 rfl (lv_at hl 0 rfl) ?_
  refine lv_if_lt (tgt := 9) hx hb dP_checkIndex_1 (by decide) (fun c1 => absurd c1 h0) (fun c1 => ?_)
  refine lv_iload_n hx hb dP_checkIndex_4 rfl (lv_at hl 0 rfl) ?_
  refine lv_iload_n hx hb dP_checkIndex_5 rfl (lv_at hl 1 rfl) ?_
  refine lv_icmp_lt (tgt := 16) hx hb dP_checkIndex_6 (by decide) (fun c6 => ?_) (fun c6 => absurd h1 c6)
  refine lv_iload_n hx hb dP_checkIndex_16 rfl (lv_at hl 0 rfl) ?_
  exact MS.iret S hr hlk hw dP_checkIndex_17 rfl ⟨_, rfl, rfl⟩
set_option maxHeartbeats 4000000 in
set_option maxRecDepth 100000 in
theorem tP_checkIndex_r (l : Launch) (z : kz_Z) (o : kz_O) (x y : Int32) (h0 : ¬ x < 0) (h1 : x < y) (t : Nat) : MS l yP_checkIndex cP_checkIndex 3 (some .int) ({ frames := 0, cells := 0, slots := 0, locals := 0 }) [.int x, .int y, .ref t] z o (fun v => ∃ r, v = some (.int r) ∧ r = x) := by
  refine MS.mk (by decide) (Nat.le_of_ble_eq_true rfl) ?_
  intro pg en s m below meth c ls S hr hlk hw hl
  have hA : ∀ q, s.heap.size ≤ q → (fun x => s.heap.size ≤ x) q := fun _ h => h
  have hx := S.1
  have hb := S.2.1
  have hl : lv_has ls 3 [(0, .int x), (1, .int y), (2, .ref t)] := hl
  refine lv_iload_n hx hb dP_checkIndex_0 rfl (lv_at hl 0 rfl) ?_
  refine lv_if_lt (tgt := 9) hx hb dP_checkIndex_1 (by decide) (fun c1 => absurd c1 h0) (fun c1 => ?_)
  refine lv_iload_n hx hb dP_checkIndex_4 rfl (lv_at hl 0 rfl) ?_
  refine lv_iload_n hx hb dP_checkIndex_5 rfl (lv_at hl 1 rfl) ?_
  refine lv_icmp_lt (tgt := 16) hx hb dP_checkIndex_6 (by decide) (fun c6 => ?_) (fun c6 => absurd h1 c6)
  refine lv_iload_n hx hb dP_checkIndex_16 rfl (lv_at hl 0 rfl) ?_
  exact MS.iret S hr hlk hw dP_checkIndex_17 rfl ⟨_, rfl, rfl⟩
set_option maxHeartbeats 4000000 in
set_option maxRecDepth 100000 in
theorem tS_checkIndex (l : Launch) (z : kz_Z) (o : kz_O) (x y : Int32) (h0 : ¬ x < 0) (h1 : x < y) : MS l yS_checkIndex cS_checkIndex 2 none ({ frames := 1, cells := 0, slots := 0, locals := 22 }) [.int x, .int y] z o (fun v => v = none) := by
  refine MS.mk (by decide) (Nat.le_of_ble_eq_true rfl) ?_
  intro pg en s m below meth c ls S hr hlk hw hl
  have hA : ∀ q, s.heap.size ≤ q → (fun x => s.heap.size ≤ x) q := fun _ h => h
  have hx := S.1
  have hb := S.2.1
  have hl : lv_has ls 2 [(0, .int x), (1, .int y)] := hl
  refine lv_iload_n hx hb dS_checkIndex_0 rfl (lv_at hl 0 rfl) ?_
  refine lv_iload_n hx hb dS_checkIndex_1 rfl (lv_at hl 1 rfl) ?_
  rcases hw.2.1.2.2.2.1 with hz | ⟨t, hz⟩
  · skip
    refine va_gets hx hb hz hw.1 S.2.2.2.1 (S.2.2.2.2 _ (List.mem_cons_of_mem _ wfS_1053)) (fun _ h9 => h9) dS_checkIndex_2 ?_
    refine kcSS (rest := []) S kS_1059 (tP_checkIndex_n l z none x y h0 h1) hw hA arNone ⟨Nat.le_of_ble_eq_true rfl, Nat.le_of_ble_eq_true rfl⟩ rfl rfl ⟨Nat.zero_le _, Nat.zero_le _⟩ rfl hl.1 (Nat.le_of_ble_eq_true rfl) dS_checkIndex_5 (fun r H locs hq hw => ?_)
    subst hq
    refine lv_pop hx hb dS_checkIndex_8 rfl ?_
    exact MS.vret S hr hlk hw dS_checkIndex_9 rfl
  · skip
    refine va_gets hx hb hz hw.1 S.2.2.2.1 (S.2.2.2.2 _ (List.mem_cons_of_mem _ wfS_1053)) (fun _ h9 => h9) dS_checkIndex_2 ?_
    refine kcSS (rest := []) S kS_1059 (tP_checkIndex_r l z none x y h0 h1 t) hw hA arNone ⟨Nat.le_of_ble_eq_true rfl, Nat.le_of_ble_eq_true rfl⟩ rfl rfl ⟨Nat.zero_le _, Nat.zero_le _⟩ rfl hl.1 (Nat.le_of_ble_eq_true rfl) dS_checkIndex_5 (fun r H locs hq hw => ?_)
    subst hq
    refine lv_pop hx hb dS_checkIndex_8 rfl ?_
    exact MS.vret S hr hlk hw dS_checkIndex_9 rfl
set_option maxHeartbeats 4000000 in
set_option maxRecDepth 100000 in
theorem tL1_charAt (l : Launch) (z : kz_Z) (o : kz_O) (i : Nat) (hi : i < 12) (k : Nat) (hk : k < lenK.getD i 0) : MS l yL1_charAt cL1_charAt 2 (some .char) ({ frames := 2, cells := 0, slots := 0, locals := 43 }) [.ref (z.2.2 i), .int (nI k)] z o (fun v => ∃ r, v = some (.int r) ∧ r = chK i k) := by
  refine MS.mk (by decide) (Nat.le_of_ble_eq_true rfl) ?_
  intro pg en s m below meth c ls S hr hlk hw hl
  have hA : ∀ q, s.heap.size ≤ q → (fun x => s.heap.size ≤ x) q := fun _ h => h
  have hx := S.1
  have hb := S.2.1
  have hl : lv_has ls 2 [(0, .ref (z.2.2 i)), (1, .int (nI k))] := hl
  refine lv_iload_n hx hb dL1_charAt_0 rfl (lv_at hl 1 rfl) ?_
  refine lv_aload_n hx hb dL1_charAt_1 rfl (lv_at hl 0 rfl) ?_
  refine va_tlen hx hb (hw.2.1.2.2.2.2.1 i hi).2.2.2 hw.1 (v := nI (lenK.getD i 0)) rfl dL1_charAt_2 ?_
  refine kcSv (rest := []) S kL1_9 (tS_checkIndex l z none (nI k) (nI (lenK.getD i 0)) (nI_pos (by have := lenK_ok i hi; omega)) (nI_lt hk (by have := lenK_ok i hi; omega))) hw hA arNone ⟨Nat.le_of_ble_eq_true rfl, Nat.le_of_ble_eq_true rfl⟩ rfl rfl ⟨Nat.zero_le _, Nat.zero_le _⟩ rfl hl.1 (Nat.le_of_ble_eq_true rfl) dL1_charAt_3 (fun H locs hw => ?_)
  refine lv_aload_n hx hb dL1_charAt_6 rfl (lv_at hl 0 rfl) ?_
  refine lv_iload_n hx hb dL1_charAt_7 rfl (lv_at hl 1 rfl) ?_
  refine va_tb hx hb (hw.2.1.2.2.2.2.1 i hi).2.2.2 hw.1 (vp_in_nI hk (by have := lenK_ok i hi; omega)) (v := .int (chK i k)) (by rw [nI_clamp (by have := lenK_ok i hi; omega)]; rfl) dL1_charAt_8 ?_
  refine lv_sipush (v := 255) hx hb dL1_charAt_9 (by decide) ?_
  refine lv_iand hx hb dL1_charAt_12 ?_
  refine lv_i2c (v := (((chK i k) &&& 255).toUInt32 % 65536).toInt32) hx hb dL1_charAt_13 rfl ?_
  exact MS.iret S hr hlk hw dL1_charAt_14 (by rw [(chK_ok i hi k hk).2]; exact (chK_ok i hi k hk).1) ⟨_, rfl, (chK_ok i hi k hk).2⟩
set_option maxHeartbeats 4000000 in
set_option maxRecDepth 100000 in
theorem tS_charAt (l : Launch) (z : kz_Z) (o : kz_O) (i : Nat) (hi : i < 12) (k : Nat) (hk : k < lenK.getD i 0) : MS l yS_charAt cS_charAt 2 (some .char) ({ frames := 3, cells := 0, slots := 0, locals := 64 }) [.ref (z.2.1 i), .int (nI k)] z o (fun v => ∃ r, v = some (.int r) ∧ r = chK i k) := by
  refine MS.mk (by decide) (Nat.le_of_ble_eq_true rfl) ?_
  intro pg en s m below meth c ls S hr hlk hw hl
  have hA : ∀ q, s.heap.size ≤ q → (fun x => s.heap.size ≤ x) q := fun _ h => h
  have hx := S.1
  have hb := S.2.1
  have hl : lv_has ls 2 [(0, .ref (z.2.1 i)), (1, .int (nI k))] := hl
  refine lv_aload_n hx hb dS_charAt_0 rfl (lv_at hl 0 rfl) ?_
  refine kcST (rest := []) S kS_492 rfl hi (tS_isLatin1 l z none i hi) hw hA arNone ⟨Nat.le_of_ble_eq_true rfl, Nat.le_of_ble_eq_true rfl⟩ rfl rfl ⟨Nat.zero_le _, Nat.zero_le _⟩ rfl hl.1 (Nat.le_of_ble_eq_true rfl) dS_charAt_1 (fun r H locs hq hw => ?_)
  subst hq
  refine lv_if_eq (tgt := 16) hx hb dS_charAt_4 (by decide) (fun c4 => absurd c4 (by decide)) (fun c4 => ?_)
  refine lv_aload_n hx hb dS_charAt_7 rfl (lv_at hl 0 rfl) ?_
  refine vk_getf hx hb (hw.2.1.2.2.2.2.1 i hi).2.2.1 hw.1 S.2.2.2.1 (S.2.2.2.2 _ (List.mem_cons_of_mem _ wfS_9)) (fun _ h9 => h9) dS_charAt_8 ?_
  refine lv_iload_n hx hb dS_charAt_11 rfl (lv_at hl 1 rfl) ?_
  refine kcSS (rest := []) S kS_495 (tL1_charAt l z none i hi k hk) hw hA arNone ⟨Nat.le_of_ble_eq_true rfl, Nat.le_of_ble_eq_true rfl⟩ rfl rfl ⟨Nat.zero_le _, Nat.zero_le _⟩ rfl hl.1 (Nat.le_of_ble_eq_true rfl) dS_charAt_12 (fun r H locs hq hw => ?_)
  subst hq
  exact MS.iret S hr hlk hw dS_charAt_15 (chK_ok i hi k hk).1 ⟨_, rfl, rfl⟩
