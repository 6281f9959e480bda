/-! ===== the reference: its public methods ===== -/
def stM (T : Nat → Int32) (n : Nat) (ts : List kz_T) (I : Nat → Int32) (F : Nat → Nat → Int32) : Prop := tpM T n I F ∧ ∃ e, e ≤ 1001 ∧ repM ts e I F
theorem repM.of {ts : List kz_T} {e : Nat} {I I' : Nat → Int32} {F F' : Nat → Nat → Int32} (h : repM ts e I F) (h3 : I' 3 = I 3) (hF : ∀ k, k ≠ 1 → F' k = F k) : repM ts e I' F' := by
  refine ⟨h3.trans h.1, h.2.1, fun k t ht => ?_⟩
  have := h.2.2 k t ht
  unfold tokM at this ⊢
  rw [hF 4 (by decide), hF 5 (by decide), hF 6 (by decide), hF 7 (by decide), hF 8 (by decide), hF 9 (by decide), hF 10 (by decide)]
  exact this
set_option maxHeartbeats 4000000 in
set_option maxRecDepth 100000 in
theorem tM_feed (l : Launch) (I : Nat → Int32) (F : Nat → Nat → Int32) (T : Nat → Int32) (n : Nat) (ts : List kz_T) (hst : stM T n ts I F) (x1 x2 x3 x4 x5 : Int32) : MM l yM_feed cM_feed 6 (some .boolean) ({ frames := 1, cells := 0, slots := 0, locals := 22 }) [.int x1, .int x2, .int x3, .int x4, .int x5] I F (iR (fun r I' F' => (n + 20 ≤ 1000 → r = 1 ∧ stM (fedT T n x1 x2 x3 x4 x5) (n + 4 + 4 + 4 + 4 + 4) ts I' F') ∧ (¬ n + 20 ≤ 1000 → r = 0 ∧ I' = I ∧ F' = F))) := by
  refine MM.mk (by decide) (fun _ => Nat.le_of_ble_eq_true rfl) ?_
  intro z D cA h a pg en s m below meth c ls S hr hlk hA hw hl
  have hx := S.1
  have hb := S.2.1
  have hl : lv_has ls 6 [(0, .ref h), (1, .int x1), (2, .int x2), (3, .int x3), (4, .int x4), (5, .int x5)] := hl
  obtain ⟨hT, e0, he0, hrp⟩ := hst
  have hn := hT.2.1
  refine lv_aload_n hx hb dM_feed_0 rfl (lv_at hl 0 rfl) ?_
  refine gM2 S hw dM_feed_1 ?_
  refine kz_top (y := nI n) hT.1 ?_
  refine lv_bipush (v := 20) hx hb dM_feed_4 (by decide) ?_
  refine lv_iadd hx hb dM_feed_6 ?_
  refine kz_top (y := nI (n + 20)) (nI_add n 20) ?_
  refine lv_sipush (v := 1000) hx hb dM_feed_7 (by decide) ?_
  refine lv_icmp_le (tgt := 15) hx hb dM_feed_10 (by decide) (fun c10 => ?_) (fun c10 => ?_)
  · skip
    have hn20 : n + 20 ≤ 1000 := (nI_leI (a := n + 20) (b := 1000) (by omega) (by decide)).mp c10
    refine lv_aload_n hx hb dM_feed_15 rfl (lv_at hl 0 rfl) ?_
    refine lv_iload_n hx hb dM_feed_16 rfl (lv_at hl 1 rfl) ?_
    refine kcMv (rest := []) S kM_57 rfl (tM_put l I F _ _ hT (by omega) x1) hw hA ⟨Nat.le_of_ble_eq_true rfl, Nat.le_of_ble_eq_true rfl⟩ rfl rfl ⟨Nat.zero_le _, Nat.zero_le _⟩ rfl hl.1 (Nat.le_of_ble_eq_true rfl) dM_feed_17 (fun I1 F1 H locs hq1 hw => ?_)
    refine lv_aload_n hx hb dM_feed_20 rfl (lv_at hl 0 rfl) ?_
    refine lv_iload_n hx hb dM_feed_21 rfl (lv_at hl 2 rfl) ?_
    refine kcMv (rest := []) S kM_57 rfl (tM_put l I1 F1 _ _ hq1.1 (by omega) x2) hw hA ⟨Nat.le_of_ble_eq_true rfl, Nat.le_of_ble_eq_true rfl⟩ rfl rfl ⟨Nat.zero_le _, Nat.zero_le _⟩ rfl hl.1 (Nat.le_of_ble_eq_true rfl) dM_feed_22 (fun I2 F2 H locs hq2 hw => ?_)
    refine lv_aload_n hx hb dM_feed_25 rfl (lv_at hl 0 rfl) ?_
    refine lv_iload_n hx hb dM_feed_26 rfl (lv_at hl 3 rfl) ?_
    refine kcMv (rest := []) S kM_57 rfl (tM_put l I2 F2 _ _ hq2.1 (by omega) x3) hw hA ⟨Nat.le_of_ble_eq_true rfl, Nat.le_of_ble_eq_true rfl⟩ rfl rfl ⟨Nat.zero_le _, Nat.zero_le _⟩ rfl hl.1 (Nat.le_of_ble_eq_true rfl) dM_feed_27 (fun I3 F3 H locs hq3 hw => ?_)
    refine lv_aload_n hx hb dM_feed_30 rfl (lv_at hl 0 rfl) ?_
    refine lv_iload hx hb dM_feed_31 (lv_at hl 4 rfl) ?_
    refine kcMv (rest := []) S kM_57 rfl (tM_put l I3 F3 _ _ hq3.1 (by omega) x4) hw hA ⟨Nat.le_of_ble_eq_true rfl, Nat.le_of_ble_eq_true rfl⟩ rfl rfl ⟨Nat.zero_le _, Nat.zero_le _⟩ rfl hl.1 (Nat.le_of_ble_eq_true rfl) dM_feed_33 (fun I4 F4 H locs hq4 hw => ?_)
    refine lv_aload_n hx hb dM_feed_36 rfl (lv_at hl 0 rfl) ?_
    refine lv_iload hx hb dM_feed_37 (lv_at hl 5 rfl) ?_
    refine kcMv (rest := []) S kM_57 rfl (tM_put l I4 F4 _ _ hq4.1 (by omega) x5) hw hA ⟨Nat.le_of_ble_eq_true rfl, Nat.le_of_ble_eq_true rfl⟩ rfl rfl ⟨Nat.zero_le _, Nat.zero_le _⟩ rfl hl.1 (Nat.le_of_ble_eq_true rfl) dM_feed_39 (fun I5 F5 H locs hq5 hw => ?_)
    refine lv_iconst (v := 1) hx hb dM_feed_42 (by decide) ?_
    exact MM.iret S hr hlk hw dM_feed_43 (by first | rfl | decide) ⟨_, rfl, fun _ => ⟨rfl, hq5.1, e0, he0, ((((hrp.of (hq1.2.1 3 (by decide)) hq1.2.2).of (hq2.2.1 3 (by decide)) hq2.2.2).of (hq3.2.1 3 (by decide)) hq3.2.2).of (hq4.2.1 3 (by decide)) hq4.2.2).of (hq5.2.1 3 (by decide)) hq5.2.2⟩, fun q => absurd hn20 q⟩
  · skip
    refine lv_iconst (v := 0) hx hb dM_feed_13 (by decide) ?_
    exact MM.iret S hr hlk hw dM_feed_14 (by first | rfl | decide) ⟨_, rfl, fun q => absurd (show nI (n + 20) ≤ 1000 from nI_le (b := 1000) q (by decide)) c10, fun _ => ⟨rfl, rfl, rfl⟩⟩
set_option maxHeartbeats 4000000 in
set_option maxRecDepth 100000 in
theorem tM_end (l : Launch) (I : Nat → Int32) (F : Nat → Nat → Int32) (T : Nat → Int32) (n : Nat) (ts : List kz_T) (hst : stM T n ts I F) (x : Int32) : MM l yM_end cM_end 2 (some .boolean) ({ frames := 0, cells := 0, slots := 0, locals := 0 }) [.int x] I F (iR (fun r I' F' => (∀ j, j ≤ n → x = nI j → r = 1 ∧ stM T j ts I' F') ∧ (¬ (¬ x < 0 ∧ ¬ nI n < x) → r = 0 ∧ I' = I ∧ F' = F))) := by
  refine MM.mk (by decide) (fun _ => Nat.le_of_ble_eq_true rfl) ?_
  intro z D cA h a pg en s m below meth c ls S hr hlk hA hw hl
  have hx := S.1
  have hb := S.2.1
  have hl : lv_has ls 2 [(0, .ref h), (1, .int x)] := hl
  obtain ⟨hT, e0, he0, hrp⟩ := hst
  have hn := hT.2.1
  refine lv_iload_n hx hb dM_end_0 rfl (lv_at hl 1 rfl) ?_
  refine lv_if_lt (tgt := 12) hx hb dM_end_1 (by decide) (fun c1 => ?_) (fun c1 => ?_)
  · skip
    refine lv_iconst (v := 0) hx hb dM_end_12 (by decide) ?_
    exact MM.iret S hr hlk hw dM_end_13 (by first | rfl | decide) ⟨_, rfl, fun j hj e1 => absurd c1 (by rw [e1]; exact nI_pos (by omega)), fun _ => ⟨rfl, rfl, rfl⟩⟩
  · skip
    refine lv_iload_n hx hb dM_end_4 rfl (lv_at hl 1 rfl) ?_
    refine lv_aload_n hx hb dM_end_5 rfl (lv_at hl 0 rfl) ?_
    refine gM2 S hw dM_end_6 ?_
    refine kz_top (y := nI n) hT.1 ?_
    refine lv_icmp_le (tgt := 14) hx hb dM_end_9 (by decide) (fun c9 => ?_) (fun c9 => ?_)
    · skip
      refine lv_aload_n hx hb dM_end_14 rfl (lv_at hl 0 rfl) ?_
      refine lv_iload_n hx hb dM_end_15 rfl (lv_at hl 1 rfl) ?_
      refine pM2 S hw dM_end_16 (fun H locs hw => ?_)
      refine lv_iconst (v := 1) hx hb dM_end_19 (by decide) ?_
      exact MM.iret S hr hlk hw dM_end_20 (by first | rfl | decide) ⟨_, rfl, fun j _ e1 => by subst e1; exact ⟨rfl, ⟨rfl, by omega, fun i hi => hT.2.2.1 i (by omega), fun i hi => hT.2.2.2 i (by omega)⟩, e0, he0, hrp.of rfl (fun _ _ => rfl)⟩, fun q => absurd ⟨c1, fun z => Int32.not_lt.mpr c9 z⟩ q⟩
    · skip
      refine lv_iconst (v := 0) hx hb dM_end_12 (by decide) ?_
      exact MM.iret S hr hlk hw dM_end_13 (by first | rfl | decide) ⟨_, rfl, fun j hj e1 => absurd (by rw [e1]; exact nI_le hj (by omega)) c9, fun _ => ⟨rfl, rfl, rfl⟩⟩
set_option maxHeartbeats 4000000 in
set_option maxRecDepth 100000 in
theorem tM_isToken (l : Launch) (I : Nat → Int32) (F : Nat → Nat → Int32) (c0 : Nat) (h3 : I 3 = nI c0) (x : Int32) : MM l yM_isToken cM_isToken 2 (some .boolean) ({ frames := 0, cells := 0, slots := 0, locals := 0 }) [.int x] I F (iR (fun r I' F' => r = (if tokI x c0 then 1 else 0) ∧ I' = I ∧ F' = F)) := by
  refine MM.mk (by decide) (fun _ => Nat.le_of_ble_eq_true rfl) ?_
  intro z D cA h a pg en s m below meth c ls S hr hlk hA hw hl
  have hx := S.1
  have hb := S.2.1
  have hl : lv_has ls 2 [(0, .ref h), (1, .int x)] := hl
  refine lv_iload_n hx hb dM_isToken_0 rfl (lv_at hl 1 rfl) ?_
  refine lv_if_lt (tgt := 16) hx hb dM_isToken_1 (by decide) (fun c1 => ?_) (fun c1 => ?_)
  · skip
    refine lv_iconst (v := 0) hx hb dM_isToken_16 (by decide) ?_
    exact MM.iret S hr hlk hw dM_isToken_17 (by first | rfl | decide) ⟨_, rfl, by simp [tokI, c1], rfl, rfl⟩
  · skip
    refine lv_iload_n hx hb dM_isToken_4 rfl (lv_at hl 1 rfl) ?_
    refine lv_aload_n hx hb dM_isToken_5 rfl (lv_at hl 0 rfl) ?_
    refine gM3 S hw dM_isToken_6 ?_
    refine kz_top (y := nI c0) h3 ?_
    refine lv_icmp_ge (tgt := 16) hx hb dM_isToken_9 (by decide) (fun c9 => ?_) (fun c9 => ?_)
    · skip
      refine lv_iconst (v := 0) hx hb dM_isToken_16 (by decide) ?_
      exact MM.iret S hr hlk hw dM_isToken_17 (by first | rfl | decide) ⟨_, rfl, by simp [tokI, c1, c9], rfl, rfl⟩
    · skip
      refine lv_iconst (v := 1) hx hb dM_isToken_12 (by decide) ?_
      refine lv_goto (tgt := 17) hx hb dM_isToken_13 (by decide) ?_
      exact MM.iret S hr hlk hw dM_isToken_17 (by first | rfl | decide) ⟨_, rfl, by simp [tokI, c1, c9], rfl, rfl⟩
set_option maxHeartbeats 4000000 in
set_option maxRecDepth 100000 in
theorem tM_kind (l : Launch) (I : Nat → Int32) (F : Nat → Nat → Int32) (ts : List kz_T) (e0 : Nat) (he0 : e0 ≤ 1001) (hrp : repM ts e0 I F) (x : Int32) : MM l yM_kind cM_kind 2 (some .int) ({ frames := 1, cells := 0, slots := 0, locals := 21 }) [.int x] I F (iR (fun r I' F' => r = accT x ts (fun t => t.1) (-1) ∧ I' = I ∧ F' = F)) := by
  refine MM.mk (by decide) (fun _ => Nat.le_of_ble_eq_true rfl) ?_
  intro z D cA h a pg en s m below meth c ls S hr hlk hA hw hl
  have hx := S.1
  have hb := S.2.1
  have hl : lv_has ls 2 [(0, .ref h), (1, .int x)] := hl
  refine lv_aload_n hx hb dM_kind_0 rfl (lv_at hl 0 rfl) ?_
  refine lv_iload_n hx hb dM_kind_1 rfl (lv_at hl 1 rfl) ?_
  refine kcMi (rest := []) S kM_175 rfl (tM_isToken l I F ts.length hrp.1 x) hw hA ⟨Nat.le_of_ble_eq_true rfl, Nat.le_of_ble_eq_true rfl⟩ rfl rfl ⟨Nat.zero_le _, Nat.zero_le _⟩ rfl hl.1 (Nat.le_of_ble_eq_true rfl) dM_kind_2 (fun r I' F' H locs hq hw => ?_)
  obtain ⟨hr1, hr2, hr3⟩ := hq
  rw [hr2, hr3] at hw
  rcases bI hr1 with ⟨hB1, rfl⟩ | ⟨hB1, rfl⟩
  · skip
    refine lv_if_eq (tgt := 17) hx hb dM_kind_5 (by decide) (fun c5 => absurd c5 (by decide)) (fun c5 => ?_)
    refine lv_aload_n hx hb dM_kind_8 rfl (lv_at hl 0 rfl) ?_
    refine gM4 S hw dM_kind_9 ?_
    refine lv_iload_n hx hb dM_kind_12 rfl (lv_at hl 1 rfl) ?_
    refine ldM4 S hw (vin_le (vin_of hB1.1 hB1.2 (by have := hrp.2.1; omega)) (by have := hrp.2.1; omega)) dM_kind_13 ?_
    refine lv_goto (tgt := 18) hx hb dM_kind_14 (by decide) ?_
    exact MM.iret S hr hlk hw dM_kind_18 rfl ⟨_, rfl, by obtain ⟨t, ht, e⟩ := acc_in (fun t => t.1) (-1) hB1 (by have := hrp.2.1; omega); rw [e]; exact (hrp.2.2 _ t ht).1, rfl, rfl⟩
  · skip
    refine lv_if_eq (tgt := 17) hx hb dM_kind_5 (by decide) (fun c5 => ?_) (fun c5 => absurd c5 (by decide))
    refine lv_iconst (v := (-1)) hx hb dM_kind_17 (by decide) ?_
    exact MM.iret S hr hlk hw dM_kind_18 rfl ⟨_, rfl, (acc_out _ _ hB1).symm, rfl, rfl⟩
set_option maxHeartbeats 4000000 in
set_option maxRecDepth 100000 in
theorem tM_place (l : Launch) (I : Nat → Int32) (F : Nat → Nat → Int32) (ts : List kz_T) (e0 : Nat) (he0 : e0 ≤ 1001) (hrp : repM ts e0 I F) (x : Int32) : MM l yM_place cM_place 2 (some .int) ({ frames := 1, cells := 0, slots := 0, locals := 21 }) [.int x] I F (iR (fun r I' F' => r = accT x ts (fun t => nI t.2.1) (-1) ∧ I' = I ∧ F' = F)) := by
  refine MM.mk (by decide) (fun _ => Nat.le_of_ble_eq_true rfl) ?_
  intro z D cA h a pg en s m below meth c ls S hr hlk hA hw hl
  have hx := S.1
  have hb := S.2.1
  have hl : lv_has ls 2 [(0, .ref h), (1, .int x)] := hl
  refine lv_aload_n hx hb dM_place_0 rfl (lv_at hl 0 rfl) ?_
  refine lv_iload_n hx hb dM_place_1 rfl (lv_at hl 1 rfl) ?_
  refine kcMi (rest := []) S kM_175 rfl (tM_isToken l I F ts.length hrp.1 x) hw hA ⟨Nat.le_of_ble_eq_true rfl, Nat.le_of_ble_eq_true rfl⟩ rfl rfl ⟨Nat.zero_le _, Nat.zero_le _⟩ rfl hl.1 (Nat.le_of_ble_eq_true rfl) dM_place_2 (fun r I' F' H locs hq hw => ?_)
  obtain ⟨hr1, hr2, hr3⟩ := hq
  rw [hr2, hr3] at hw
  rcases bI hr1 with ⟨hB1, rfl⟩ | ⟨hB1, rfl⟩
  · skip
    refine lv_if_eq (tgt := 17) hx hb dM_place_5 (by decide) (fun c5 => absurd c5 (by decide)) (fun c5 => ?_)
    refine lv_aload_n hx hb dM_place_8 rfl (lv_at hl 0 rfl) ?_
    refine gM5 S hw dM_place_9 ?_
    refine lv_iload_n hx hb dM_place_12 rfl (lv_at hl 1 rfl) ?_
    refine ldM5 S hw (vin_le (vin_of hB1.1 hB1.2 (by have := hrp.2.1; omega)) (by have := hrp.2.1; omega)) dM_place_13 ?_
    refine lv_goto (tgt := 18) hx hb dM_place_14 (by decide) ?_
    exact MM.iret S hr hlk hw dM_place_18 rfl ⟨_, rfl, by obtain ⟨t, ht, e⟩ := acc_in (fun t => nI t.2.1) (-1) hB1 (by have := hrp.2.1; omega); rw [e]; exact (hrp.2.2 _ t ht).2.1, rfl, rfl⟩
  · skip
    refine lv_if_eq (tgt := 17) hx hb dM_place_5 (by decide) (fun c5 => ?_) (fun c5 => absurd c5 (by decide))
    refine lv_iconst (v := (-1)) hx hb dM_place_17 (by decide) ?_
    exact MM.iret S hr hlk hw dM_place_18 rfl ⟨_, rfl, (acc_out _ _ hB1).symm, rfl, rfl⟩
set_option maxHeartbeats 4000000 in
set_option maxRecDepth 100000 in
theorem tM_line (l : Launch) (I : Nat → Int32) (F : Nat → Nat → Int32) (ts : List kz_T) (e0 : Nat) (he0 : e0 ≤ 1001) (hrp : repM ts e0 I F) (x : Int32) : MM l yM_line cM_line 2 (some .int) ({ frames := 1, cells := 0, slots := 0, locals := 21 }) [.int x] I F (iR (fun r I' F' => r = accT x ts (fun t => nI t.2.2.1) (-1) ∧ I' = I ∧ F' = F)) := by
  refine MM.mk (by decide) (fun _ => Nat.le_of_ble_eq_true rfl) ?_
  intro z D cA h a pg en s m below meth c ls S hr hlk hA hw hl
  have hx := S.1
  have hb := S.2.1
  have hl : lv_has ls 2 [(0, .ref h), (1, .int x)] := hl
  refine lv_aload_n hx hb dM_line_0 rfl (lv_at hl 0 rfl) ?_
  refine lv_iload_n hx hb dM_line_1 rfl (lv_at hl 1 rfl) ?_
  refine kcMi (rest := []) S kM_175 rfl (tM_isToken l I F ts.length hrp.1 x) hw hA ⟨Nat.le_of_ble_eq_true rfl, Nat.le_of_ble_eq_true rfl⟩ rfl rfl ⟨Nat.zero_le _, Nat.zero_le _⟩ rfl hl.1 (Nat.le_of_ble_eq_true rfl) dM_line_2 (fun r I' F' H locs hq hw => ?_)
  obtain ⟨hr1, hr2, hr3⟩ := hq
  rw [hr2, hr3] at hw
  rcases bI hr1 with ⟨hB1, rfl⟩ | ⟨hB1, rfl⟩
  · skip
    refine lv_if_eq (tgt := 17) hx hb dM_line_5 (by decide) (fun c5 => absurd c5 (by decide)) (fun c5 => ?_)
    refine lv_aload_n hx hb dM_line_8 rfl (lv_at hl 0 rfl) ?_
    refine gM6 S hw dM_line_9 ?_
    refine lv_iload_n hx hb dM_line_12 rfl (lv_at hl 1 rfl) ?_
    refine ldM6 S hw (vin_le (vin_of hB1.1 hB1.2 (by have := hrp.2.1; omega)) (by have := hrp.2.1; omega)) dM_line_13 ?_
    refine lv_goto (tgt := 18) hx hb dM_line_14 (by decide) ?_
    exact MM.iret S hr hlk hw dM_line_18 rfl ⟨_, rfl, by obtain ⟨t, ht, e⟩ := acc_in (fun t => nI t.2.2.1) (-1) hB1 (by have := hrp.2.1; omega); rw [e]; exact (hrp.2.2 _ t ht).2.2.1, rfl, rfl⟩
  · skip
    refine lv_if_eq (tgt := 17) hx hb dM_line_5 (by decide) (fun c5 => ?_) (fun c5 => absurd c5 (by decide))
    refine lv_iconst (v := (-1)) hx hb dM_line_17 (by decide) ?_
    exact MM.iret S hr hlk hw dM_line_18 rfl ⟨_, rfl, (acc_out _ _ hB1).symm, rfl, rfl⟩
set_option maxHeartbeats 4000000 in
set_option maxRecDepth 100000 in
theorem tM_value (l : Launch) (I : Nat → Int32) (F : Nat → Nat → Int32) (ts : List kz_T) (e0 : Nat) (he0 : e0 ≤ 1001) (hrp : repM ts e0 I F) (x : Int32) : MM l yM_value cM_value 2 (some .int) ({ frames := 1, cells := 0, slots := 0, locals := 21 }) [.int x] I F (iR (fun r I' F' => r = accT x ts (fun t => t.2.2.2.1) (0) ∧ I' = I ∧ F' = F)) := by
  refine MM.mk (by decide) (fun _ => Nat.le_of_ble_eq_true rfl) ?_
  intro z D cA h a pg en s m below meth c ls S hr hlk hA hw hl
  have hx := S.1
  have hb := S.2.1
  have hl : lv_has ls 2 [(0, .ref h), (1, .int x)] := hl
  refine lv_aload_n hx hb dM_value_0 rfl (lv_at hl 0 rfl) ?_
  refine lv_iload_n hx hb dM_value_1 rfl (lv_at hl 1 rfl) ?_
  refine kcMi (rest := []) S kM_175 rfl (tM_isToken l I F ts.length hrp.1 x) hw hA ⟨Nat.le_of_ble_eq_true rfl, Nat.le_of_ble_eq_true rfl⟩ rfl rfl ⟨Nat.zero_le _, Nat.zero_le _⟩ rfl hl.1 (Nat.le_of_ble_eq_true rfl) dM_value_2 (fun r I' F' H locs hq hw => ?_)
  obtain ⟨hr1, hr2, hr3⟩ := hq
  rw [hr2, hr3] at hw
  rcases bI hr1 with ⟨hB1, rfl⟩ | ⟨hB1, rfl⟩
  · skip
    refine lv_if_eq (tgt := 17) hx hb dM_value_5 (by decide) (fun c5 => absurd c5 (by decide)) (fun c5 => ?_)
    refine lv_aload_n hx hb dM_value_8 rfl (lv_at hl 0 rfl) ?_
    refine gM7 S hw dM_value_9 ?_
    refine lv_iload_n hx hb dM_value_12 rfl (lv_at hl 1 rfl) ?_
    refine ldM7 S hw (vin_le (vin_of hB1.1 hB1.2 (by have := hrp.2.1; omega)) (by have := hrp.2.1; omega)) dM_value_13 ?_
    refine lv_goto (tgt := 18) hx hb dM_value_14 (by decide) ?_
    exact MM.iret S hr hlk hw dM_value_18 rfl ⟨_, rfl, by obtain ⟨t, ht, e⟩ := acc_in (fun t => t.2.2.2.1) (0) hB1 (by have := hrp.2.1; omega); rw [e]; exact (hrp.2.2 _ t ht).2.2.2.1, rfl, rfl⟩
  · skip
    refine lv_if_eq (tgt := 17) hx hb dM_value_5 (by decide) (fun c5 => ?_) (fun c5 => absurd c5 (by decide))
    refine lv_iconst (v := 0) hx hb dM_value_17 (by decide) ?_
    exact MM.iret S hr hlk hw dM_value_18 rfl ⟨_, rfl, (acc_out _ _ hB1).symm, rfl, rfl⟩
set_option maxHeartbeats 4000000 in
set_option maxRecDepth 100000 in
theorem tM_size (l : Launch) (I : Nat → Int32) (F : Nat → Nat → Int32) (ts : List kz_T) (e0 : Nat) (he0 : e0 ≤ 1001) (hrp : repM ts e0 I F) (x : Int32) : MM l yM_size cM_size 2 (some .int) ({ frames := 1, cells := 0, slots := 0, locals := 21 }) [.int x] I F (iR (fun r I' F' => r = accT x ts (fun t => nI t.2.2.2.2.length) (-1) ∧ I' = I ∧ F' = F)) := by
  refine MM.mk (by decide) (fun _ => Nat.le_of_ble_eq_true rfl) ?_
  intro z D cA h a pg en s m below meth c ls S hr hlk hA hw hl
  have hx := S.1
  have hb := S.2.1
  have hl : lv_has ls 2 [(0, .ref h), (1, .int x)] := hl
  refine lv_aload_n hx hb dM_size_0 rfl (lv_at hl 0 rfl) ?_
  refine lv_iload_n hx hb dM_size_1 rfl (lv_at hl 1 rfl) ?_
  refine kcMi (rest := []) S kM_175 rfl (tM_isToken l I F ts.length hrp.1 x) hw hA ⟨Nat.le_of_ble_eq_true rfl, Nat.le_of_ble_eq_true rfl⟩ rfl rfl ⟨Nat.zero_le _, Nat.zero_le _⟩ rfl hl.1 (Nat.le_of_ble_eq_true rfl) dM_size_2 (fun r I' F' H locs hq hw => ?_)
  obtain ⟨hr1, hr2, hr3⟩ := hq
  rw [hr2, hr3] at hw
  rcases bI hr1 with ⟨hB1, rfl⟩ | ⟨hB1, rfl⟩
  · skip
    refine lv_if_eq (tgt := 17) hx hb dM_size_5 (by decide) (fun c5 => absurd c5 (by decide)) (fun c5 => ?_)
    refine lv_aload_n hx hb dM_size_8 rfl (lv_at hl 0 rfl) ?_
    refine gM9 S hw dM_size_9 ?_
    refine lv_iload_n hx hb dM_size_12 rfl (lv_at hl 1 rfl) ?_
    refine ldM9 S hw (vin_le (vin_of hB1.1 hB1.2 (by have := hrp.2.1; omega)) (by have := hrp.2.1; omega)) dM_size_13 ?_
    refine lv_goto (tgt := 18) hx hb dM_size_14 (by decide) ?_
    exact MM.iret S hr hlk hw dM_size_18 rfl ⟨_, rfl, by obtain ⟨t, ht, e⟩ := acc_in (fun t => nI t.2.2.2.2.length) (-1) hB1 (by have := hrp.2.1; omega); rw [e]; obtain ⟨b, _, f7, _⟩ := (hrp.2.2 _ t ht).2.2.2.2.2; exact f7, rfl, rfl⟩
  · skip
    refine lv_if_eq (tgt := 17) hx hb dM_size_5 (by decide) (fun c5 => ?_) (fun c5 => absurd c5 (by decide))
    refine lv_iconst (v := (-1)) hx hb dM_size_17 (by decide) ?_
    exact MM.iret S hr hlk hw dM_size_18 rfl ⟨_, rfl, (acc_out _ _ hB1).symm, rfl, rfl⟩
