/-! ===== the reference: the tape is read ===== -/
def midM (T : Nat → Int32) (n : Nat) (ts : List kz_T) (p0 L0 e : Nat) (I : Nat → Int32) (F : Nat → Nat → Int32) : Prop := tpM T n I F ∧ repM ts e I F ∧ I 15 = nI (skp T n (n - p0) false p0 L0).1 ∧ I 16 = nI (skp T n (n - p0) false p0 L0).2 ∧ I 11 = nI e ∧ e ≤ p0 ∧ ts.length ≤ p0 ∧ p0 ≤ n ∧ L0 ≤ p0 ∧ allOK ts ∧ ∀ t, ts.getLast? = some t → t.2.2.1 = L0
theorem addT_len (ts : List kz_T) (p L : Nat) (q : kz_S) : (semT ts L q.1 q.2.2.2 = true → (addT ts p L q).length = ts.length + 2) ∧ (¬ semT ts L q.1 q.2.2.2 = true → (addT ts p L q).length = ts.length + 1) := by
  constructor
  · intro h; rw [addT_y h]; simp
  · intro h; rw [addT_n h]; simp
set_option maxHeartbeats 4000000 in
set_option maxRecDepth 100000 in
theorem tM_read (l : Launch) (I : Nat → Int32) (F : Nat → Nat → Int32) (T : Nat → Int32) (n : Nat) (ts : List kz_T) (hst : stM T n ts I F) : MM l yM_read cM_read 2 (some .int) ({ frames := 9, cells := 0, slots := 0, locals := 197 }) [] I F (iR (fun r I' F' => r = nI (allT T n).length ∧ stM T 0 (allT T n) I' F')) := by
  refine MM.mk (by decide) (fun _ => Nat.le_of_ble_eq_true rfl) ?_
  intro z D cA h a pg en s m below meth c ls S hr hlk hA hw hl
  have hx := S.1
  have hb := S.2.1
  have hl : lv_has ls 2 [(0, .ref h)] := hl
  obtain ⟨hT, e0, he0, hrp⟩ := hst
  have hn := hT.2.1
  have loop41 : ∀ (fu : Nat) (p0 L0 e mm : Nat) (tk : List kz_T) (I1 : Nat → Int32) (F1 : Nat → Nat → Int32) (H : Heap) (locs : List Loc) (ls : Array Slot), midM T n tk p0 L0 e I1 F1 → n + 1 ≤ p0 + mm → n + 1 ≤ p0 + fu → tokF T n mm p0 L0 tk = allT T n → sM z D cA h a (AM h a s.heap.size) s H locs I1 F1 → lv_has ls 2 [(0, .ref h), (1, .int (if (skp T n (n - p0) false p0 L0).1 < n then 1 else 0))] → W pg l en ({ frames := 9, cells := 0, slots := 0, locals := 197 }) s m ([.ref h] : List Value).toArray below meth c H locs 0 0 (MQ below (QM z D cA h a s.heap.size (iR (fun r I' F' => r = nI (allT T n).length ∧ stM T 0 (allT T n) I' F'))) ([.ref h] : List Value).toArray s 0 0 (AM h a s.heap.size)) (F0 m 41 ls []) := by
    intro fu
    induction fu with
    | zero => intro p0 L0 e mm  tk  I1  F1  H locs ls hi hm hf hR hw hl; have := hi.2.2.2.2.2.2.2.1; omega
    | succ fu ih =>
      intro p0 L0 e mm  tk  I1  F1  H locs ls hi hm hf hR hw hl
      obtain ⟨hT1, hrp1, h15, h16, h11, he, hc, hp0, hL0, hok, hla⟩ := hi
      obtain ⟨m1, rfl⟩ : ∃ m1, mm = m1 + 1 := ⟨mm - 1, by omega⟩
      obtain ⟨k1, k2, k3, k4⟩ := skp_le T n (n - p0) false p0 L0
      have hpn : (skp T n (n - p0) false p0 L0).1 ≤ n := by omega
      by_cases hlt : (skp T n (n - p0) false p0 L0).1 < n
      · skip
        rw [if_pos hlt] at hl
        refine lv_iload_n hx hb dM_read_41 rfl (lv_at hl 1 rfl) ?_
        refine lv_if_eq (tgt := 111) hx hb dM_read_42 (by decide) (fun c42 => absurd c42 (by decide)) (fun c42 => ?_)
        refine lv_aload_n hx hb dM_read_45 rfl (lv_at hl 0 rfl) ?_
        refine kcMv (rest := []) S kM_169 rfl (tM_readToken l I1 F1 T n hT1 (skp T n (n - p0) false p0 L0).1 h15 hlt) hw hA ⟨Nat.le_of_ble_eq_true rfl, Nat.le_of_ble_eq_true rfl⟩ rfl rfl ⟨Nat.zero_le _, Nat.zero_le _⟩ rfl hl.1 (Nat.le_of_ble_eq_true rfl) dM_read_46 (fun I2 F2 H locs hrk hw => ?_)
        obtain ⟨hF2, rI, r6, rn⟩ := hrk
        rw [hF2] at hw
        have hT2 : tpM T n I2 F1 := hT1.of (rI 2 (by decide) (by decide) (by decide)) rfl
        have hrp2 : repM tk e I2 F1 := hrp1.of (rI 3 (by decide) (by decide) (by decide)) (fun _ _ => rfl)
        have i15 : I2 15 = nI (skp T n (n - p0) false p0 L0).1 := (rI 15 (by decide) (by decide) (by decide)).trans h15
        have i16 : I2 16 = nI (skp T n (n - p0) false p0 L0).2 := (rI 16 (by decide) (by decide) (by decide)).trans h16
        have i11 : I2 11 = nI e := (rI 11 (by decide) (by decide) (by decide)).trans h11
        by_cases h6 : (scT T n (skp T n (n - p0) false p0 L0).1).1 = 6
        · skip
          have i17 : I2 17 = 6 := r6 h6
          refine lv_aload_n hx hb dM_read_49 rfl (lv_at hl 0 rfl) ?_
          refine gM17 S hw dM_read_50 ?_
          refine kz_top (y := 6) i17 ?_
          refine lv_bipush (v := 6) hx hb dM_read_53 (by decide) ?_
          refine lv_icmp_ne (tgt := 75) hx hb dM_read_55 (by decide) (fun c55 => absurd c55 (by decide)) (fun c55 => ?_)
          refine lv_aload_n hx hb dM_read_58 rfl (lv_at hl 0 rfl) ?_
          refine lv_bipush (v := 6) hx hb dM_read_59 (by decide) ?_
          refine lv_iconst (v := 0) hx hb dM_read_61 (by decide) ?_
          refine kcMv (rest := []) S kM_157 rfl (tM_add l I2 F1 tk e (skp T n (n - p0) false p0 L0).1 (skp T n (n - p0) false p0 L0).2 hrp2 (by omega) i11 i15 i16 (by omega) 6 0) hw hA ⟨Nat.le_of_ble_eq_true rfl, Nat.le_of_ble_eq_true rfl⟩ rfl rfl ⟨Nat.zero_le _, Nat.zero_le _⟩ rfl hl.1 (Nat.le_of_ble_eq_true rfl) dM_read_62 (fun I9 F9 H locs ha hw => ?_)
          obtain ⟨rfl, hcu, hF9⟩ := ha
          refine lv_aload_n hx hb dM_read_65 rfl (lv_at hl 0 rfl) ?_
          refine lv_iconst (v := 0) hx hb dM_read_66 (by decide) ?_
          refine pM2 S hw dM_read_67 (fun H locs hw => ?_)
          refine lv_aload_n hx hb dM_read_70 rfl (lv_at hl 0 rfl) ?_
          refine gM3 S hw dM_read_71 ?_
          refine kz_top (y := nI (tk.length + 1)) rfl ?_
          exact MM.iret S hr hlk hw dM_read_74 rfl ⟨_, rfl, by
            have e2 := tokF_bad (m := m1) hlt h6 (T := T) (L := L0) (ts := tk)
            rw [hR] at e2
            rw [e2]
            refine ⟨by rw [List.length_append]; rfl, ⟨rfl, by omega, fun j hj => absurd hj (Nat.not_lt_zero _), fun j hj => absurd hj (Nat.not_lt_zero _)⟩, e, by omega, ?_⟩
            exact hcu.rep.of rfl (fun _ _ => rfl)⟩
        · skip
          obtain ⟨i17, i19, i18⟩ := rn h6
          obtain ⟨o1, o2, o3, o4, o5⟩ := scT_ok (T := T) hlt h6
          have hne : ¬ I2 17 = 6 := by
            rw [i17]
            split
            · decide
            · exact h6
          refine lv_aload_n hx hb dM_read_49 rfl (lv_at hl 0 rfl) ?_
          refine gM17 S hw dM_read_50 ?_
          refine lv_bipush (v := 6) hx hb dM_read_53 (by decide) ?_
          refine lv_icmp_ne (tgt := 75) hx hb dM_read_55 (by decide) (fun c55 => ?_) (fun c55 => absurd c55 hne)
          refine lv_aload_n hx hb dM_read_75 rfl (lv_at hl 0 rfl) ?_
          refine kcMv (rest := []) S kM_172 rfl (tM_keep l I2 F1 T n hT2 tk e (skp T n (n - p0) false p0 L0).1 (skp T n (n - p0) false p0 L0).2 hrp2 i11 i15 i16 hlt (by omega) (by omega) hok _ rfl h6 i17 i19 i18 (by omega)) hw hA ⟨Nat.le_of_ble_eq_true rfl, Nat.le_of_ble_eq_true rfl⟩ rfl rfl ⟨Nat.zero_le _, Nat.zero_le _⟩ rfl hl.1 (Nat.le_of_ble_eq_true rfl) dM_read_76 (fun I3 F3 H locs hkp hw => ?_)
          obtain ⟨e1, hrp3, j11, js, jn, jI, jF⟩ := hkp
          have j19 : I3 19 = nI (scT T n (skp T n (n - p0) false p0 L0).1).2.2.1 := (jI 19 (by decide) (by decide)).trans i19
          refine lv_aload_n hx hb dM_read_79 rfl (lv_at hl 0 rfl) ?_
          refine lv_aload_n hx hb dM_read_80 rfl (lv_at hl 0 rfl) ?_
          refine gM19 S hw dM_read_81 ?_
          refine kz_top (y := nI (scT T n (skp T n (n - p0) false p0 L0).1).2.2.1) j19 ?_
          refine pM15 S hw dM_read_84 (fun H locs hw => ?_)
          refine lv_aload_n hx hb dM_read_87 rfl (lv_at hl 0 rfl) ?_
          have hT4 : tpM T n (upd I3 15 (nI (scT T n (skp T n (n - p0) false p0 L0).1).2.2.1)) F3 := hT2.of (jI 2 (by decide) (by decide)) jF
          refine kcMv (rest := []) S kM_166 rfl (tM_skip l (upd I3 15 (nI (scT T n (skp T n (n - p0) false p0 L0).1).2.2.1)) F3 T n hT4 (scT T n (skp T n (n - p0) false p0 L0).1).2.2.1 (skp T n (n - p0) false p0 L0).2 rfl ((jI 16 (by decide) (by decide)).trans i16) o2) hw hA ⟨Nat.le_of_ble_eq_true rfl, Nat.le_of_ble_eq_true rfl⟩ rfl rfl ⟨Nat.zero_le _, Nat.zero_le _⟩ rfl hl.1 (Nat.le_of_ble_eq_true rfl) dM_read_88 (fun I5 F5 H locs hsk hw => ?_)
          obtain ⟨s15, s16, sI, hF5⟩ := hsk
          rw [hF5] at hw
          have hbl := skp_le T n (n - (scT T n (skp T n (n - p0) false p0 L0).1).2.2.1) false (scT T n (skp T n (n - p0) false p0 L0).1).2.2.1 (skp T n (n - p0) false p0 L0).2
          have hi5 : midM T n (addT tk (skp T n (n - p0) false p0 L0).1 (skp T n (n - p0) false p0 L0).2 (scT T n (skp T n (n - p0) false p0 L0).1)) (scT T n (skp T n (n - p0) false p0 L0).1).2.2.1 (skp T n (n - p0) false p0 L0).2 e1 I5 F3 := by
            have hal := addT_len tk (skp T n (n - p0) false p0 L0).1 (skp T n (n - p0) false p0 L0).2 (scT T n (skp T n (n - p0) false p0 L0).1)
            refine ⟨hT4.of (sI 2 (by decide) (by decide)) rfl, hrp3.of (sI 3 (by decide) (by decide)) (fun _ _ => rfl), s15, s16, (sI 11 (by decide) (by decide)).trans j11, ?_, ?_, o2, by omega, addT_ok hok o4, addT_last _ _ _ _⟩
            · by_cases hs : semT tk (skp T n (n - p0) false p0 L0).2 (scT T n (skp T n (n - p0) false p0 L0).1).1 (scT T n (skp T n (n - p0) false p0 L0).1).2.2.2 = true
              · obtain ⟨tl, h1, h2⟩ := sem_line hs
                have := hla tl h1
                have := js hs
                omega
              · have := jn hs
                omega
            · by_cases hs : semT tk (skp T n (n - p0) false p0 L0).2 (scT T n (skp T n (n - p0) false p0 L0).1).1 (scT T n (skp T n (n - p0) false p0 L0).1).2.2.2 = true
              · obtain ⟨tl, h1, h2⟩ := sem_line hs
                have := hla tl h1
                have := hal.1 hs
                omega
              · have := hal.2 hs
                omega
          refine lv_aload_n hx hb dM_read_91 rfl (lv_at hl 0 rfl) ?_
          refine gM15 S hw dM_read_92 ?_
          refine kz_top (y := nI (skp T n (n - (scT T n (skp T n (n - p0) false p0 L0).1).2.2.1) false (scT T n (skp T n (n - p0) false p0 L0).1).2.2.1 (skp T n (n - p0) false p0 L0).2).1) s15 ?_
          refine lv_aload_n hx hb dM_read_95 rfl (lv_at hl 0 rfl) ?_
          refine gM2 S hw dM_read_96 ?_
          refine kz_top (y := nI n) hi5.1.1 ?_
          refine lv_icmp_ge (tgt := 106) hx hb dM_read_99 (by decide) (fun c99 => ?_) (fun c99 => ?_)
          · skip
            refine lv_iconst (v := 0) hx hb dM_read_106 (by decide) ?_
            refine lv_istore_n (lv' := [(1, .int 0), (0, .ref h)]) hx hb dM_read_107 rfl hl (by decide) rfl (fun ls hl => ?_)
            refine lv_goto (tgt := 41) hx hb dM_read_108 (by decide) ?_
            exact ih (scT T n (skp T n (n - p0) false p0 L0).1).2.2.1 (skp T n (n - p0) false p0 L0).2 e1 m1 _ I5 F3 H locs ls hi5 (by omega) (by omega) (by rw [← hR, tokF_go hlt h6]) hw (by rw [if_neg (fun z => absurd c99 (nI_ge z (by omega)))]; exact lv_sub hl [1, 0] rfl)
          · skip
            refine lv_iconst (v := 1) hx hb dM_read_102 (by decide) ?_
            refine lv_goto (tgt := 107) hx hb dM_read_103 (by decide) ?_
            refine lv_istore_n (lv' := [(1, .int 1), (0, .ref h)]) hx hb dM_read_107 rfl hl (by decide) rfl (fun ls hl => ?_)
            refine lv_goto (tgt := 41) hx hb dM_read_108 (by decide) ?_
            exact ih (scT T n (skp T n (n - p0) false p0 L0).1).2.2.1 (skp T n (n - p0) false p0 L0).2 e1 m1 _ I5 F3 H locs ls hi5 (by omega) (by omega) (by rw [← hR, tokF_go hlt h6]) hw (by rw [if_pos (Nat.lt_of_not_le (fun z => c99 (nI_le z (by omega))))]; exact lv_sub hl [1, 0] rfl)
      · skip
        rw [if_neg hlt] at hl
        refine lv_iload_n hx hb dM_read_41 rfl (lv_at hl 1 rfl) ?_
        refine lv_if_eq (tgt := 111) hx hb dM_read_42 (by decide) (fun c42 => ?_) (fun c42 => absurd c42 (by decide))
        refine lv_aload_n hx hb dM_read_111 rfl (lv_at hl 0 rfl) ?_
        refine lv_iconst (v := 5) hx hb dM_read_112 (by decide) ?_
        refine lv_iconst (v := 0) hx hb dM_read_113 (by decide) ?_
        refine kcMv (rest := []) S kM_157 rfl (tM_add l I1 F1 tk e (skp T n (n - p0) false p0 L0).1 (skp T n (n - p0) false p0 L0).2 hrp1 (by omega) h11 h15 h16 (by omega) 5 0) hw hA ⟨Nat.le_of_ble_eq_true rfl, Nat.le_of_ble_eq_true rfl⟩ rfl rfl ⟨Nat.zero_le _, Nat.zero_le _⟩ rfl hl.1 (Nat.le_of_ble_eq_true rfl) dM_read_114 (fun I9 F9 H locs ha hw => ?_)
        obtain ⟨rfl, hcu, hF9⟩ := ha
        refine lv_aload_n hx hb dM_read_117 rfl (lv_at hl 0 rfl) ?_
        refine lv_iconst (v := 0) hx hb dM_read_118 (by decide) ?_
        refine pM2 S hw dM_read_119 (fun H locs hw => ?_)
        refine lv_aload_n hx hb dM_read_122 rfl (lv_at hl 0 rfl) ?_
        refine gM3 S hw dM_read_123 ?_
        refine kz_top (y := nI (tk.length + 1)) rfl ?_
        exact MM.iret S hr hlk hw dM_read_126 rfl ⟨_, rfl, by
          have e2 := tokF_end (m := m1) hlt (T := T) (L := L0) (ts := tk)
          rw [hR] at e2
          rw [e2]
          refine ⟨by rw [List.length_append]; rfl, ⟨rfl, by omega, fun j hj => absurd hj (Nat.not_lt_zero _), fun j hj => absurd hj (Nat.not_lt_zero _)⟩, e, by omega, ?_⟩
          exact hcu.rep.of rfl (fun _ _ => rfl)⟩
  refine lv_aload_n hx hb dM_read_0 rfl (lv_at hl 0 rfl) ?_
  refine lv_iconst (v := 0) hx hb dM_read_1 (by decide) ?_
  refine pM3 S hw dM_read_2 (fun H locs hw => ?_)
  refine lv_aload_n hx hb dM_read_5 rfl (lv_at hl 0 rfl) ?_
  refine lv_iconst (v := 0) hx hb dM_read_6 (by decide) ?_
  refine pM11 S hw dM_read_7 (fun H locs hw => ?_)
  refine lv_aload_n hx hb dM_read_10 rfl (lv_at hl 0 rfl) ?_
  refine lv_iconst (v := 0) hx hb dM_read_11 (by decide) ?_
  refine pM15 S hw dM_read_12 (fun H locs hw => ?_)
  refine lv_aload_n hx hb dM_read_15 rfl (lv_at hl 0 rfl) ?_
  refine lv_iconst (v := 0) hx hb dM_read_16 (by decide) ?_
  refine pM16 S hw dM_read_17 (fun H locs hw => ?_)
  refine lv_aload_n hx hb dM_read_20 rfl (lv_at hl 0 rfl) ?_
  have hT0 : tpM T n (upd (upd (upd (upd I 3 0) 11 0) 15 0) 16 0) F := hT.of rfl rfl
  refine kcMv (rest := []) S kM_166 rfl (tM_skip l (upd (upd (upd (upd I 3 0) 11 0) 15 0) 16 0) F T n hT0 0 0 rfl rfl (Nat.zero_le _)) hw hA ⟨Nat.le_of_ble_eq_true rfl, Nat.le_of_ble_eq_true rfl⟩ rfl rfl ⟨Nat.zero_le _, Nat.zero_le _⟩ rfl hl.1 (Nat.le_of_ble_eq_true rfl) dM_read_21 (fun I5 F5 H locs hsk hw => ?_)
  obtain ⟨s15, s16, sI, hF5⟩ := hsk
  rw [hF5] at hw
  have hi5 : midM T n [] 0 0 0 I5 F := ⟨hT0.of (sI 2 (by decide) (by decide)) rfl, ⟨(sI 3 (by decide) (by decide)).trans rfl, by simp, fun k t ht => by simp at ht⟩, s15, s16, (sI 11 (by decide) (by decide)).trans rfl, Nat.le_refl _, Nat.le_refl _, Nat.zero_le _, Nat.le_refl _, (fun t ht => by cases ht), (fun t ht => by simp at ht)⟩
  have hbl := skp_le T n (n - 0) false 0 0
  refine lv_aload_n hx hb dM_read_24 rfl (lv_at hl 0 rfl) ?_
  refine gM15 S hw dM_read_25 ?_
  refine kz_top (y := nI (skp T n (n - 0) false 0 0).1) s15 ?_
  refine lv_aload_n hx hb dM_read_28 rfl (lv_at hl 0 rfl) ?_
  refine gM2 S hw dM_read_29 ?_
  refine kz_top (y := nI n) hi5.1.1 ?_
  refine lv_icmp_ge (tgt := 39) hx hb dM_read_32 (by decide) (fun c32 => ?_) (fun c32 => ?_)
  · skip
    refine lv_iconst (v := 0) hx hb dM_read_39 (by decide) ?_
    refine lv_istore_n (lv' := [(1, .int 0), (0, .ref h)]) hx hb dM_read_40 rfl hl (by decide) rfl (fun ls hl => ?_)
    exact loop41 (n + 1) 0 0 0 (n + 1) [] I5 F H locs ls hi5 (by omega) (by omega) rfl hw (by rw [if_neg (fun z => absurd c32 (nI_ge z (by omega)))]; exact lv_sub hl [1, 0] rfl)
  · skip
    refine lv_iconst (v := 1) hx hb dM_read_35 (by decide) ?_
    refine lv_goto (tgt := 40) hx hb dM_read_36 (by decide) ?_
    refine lv_istore_n (lv' := [(1, .int 1), (0, .ref h)]) hx hb dM_read_40 rfl hl (by decide) rfl (fun ls hl => ?_)
    exact loop41 (n + 1) 0 0 0 (n + 1) [] I5 F H locs ls hi5 (by omega) (by omega) rfl hw (by rw [if_pos (Nat.lt_of_not_le (fun z => c32 (nI_le z (by omega))))]; exact lv_sub hl [1, 0] rfl)
