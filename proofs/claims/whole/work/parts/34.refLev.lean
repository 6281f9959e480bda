set_option maxHeartbeats 4000000 in
set_option maxRecDepth 100000 in
theorem tM_textAt (l : Launch) (I : Nat → Int32) (F : Nat → Nat → Int32) (ts : List kz_T) (e0 : Nat) (he0 : e0 ≤ 1001) (hrp : repM ts e0 I F) (x y : Int32) : MM l yM_textAt cM_textAt 3 (some .int) ({ frames := 1, cells := 0, slots := 0, locals := 21 }) [.int x, .int y] I F (iR (fun r I' F' => r = accT x ts (txtT y) (-1) ∧ I' = I ∧ F' = F)) := by
  refine MM.mk (by decide) (fun _ => Nat.le_of_ble_eq_true rfl) ?_
  intro z D cA h a pg en s m below meth c ls S hr hlk hA hw hl
  have hx := S.1
  have hb := S.2.1
  have hl : lv_has ls 3 [(0, .ref h), (1, .int x), (2, .int y)] := hl
  refine lv_aload_n hx hb dM_textAt_0 rfl (lv_at hl 0 rfl) ?_
  refine lv_iload_n hx hb dM_textAt_1 rfl (lv_at hl 1 rfl) ?_
  refine kcMi (rest := []) S kM_175 rfl (tM_isToken l I F ts.length hrp.1 x) hw hA ⟨Nat.le_of_ble_eq_true rfl, Nat.le_of_ble_eq_true rfl⟩ rfl rfl ⟨Nat.zero_le _, Nat.zero_le _⟩ rfl hl.1 (Nat.le_of_ble_eq_true rfl) dM_textAt_2 (fun r I' F' H locs hq hw => ?_)
  obtain ⟨hr1, hr2, hr3⟩ := hq
  rw [hr2, hr3] at hw
  rcases bI hr1 with ⟨hB1, rfl⟩ | ⟨hB1, rfl⟩
  · skip
    have hlen := hrp.2.1
    obtain ⟨t, ht, ea⟩ := acc_in (txtT y) (-1) hB1 (by omega)
    obtain ⟨k, hk0, rfl⟩ := vp_in_of (vin_of hB1.1 hB1.2 (by omega)) (by omega)
    rw [nI_clamp (by omega)] at ht
    have ht := hrp.2.2 k t ht
    have hk : k < 2100 := by omega
    have hl : lv_has ls 3 [(0, .ref h), (1, .int (nI k)), (2, .int y)] := hl
    have ht0 := ht
    obtain ⟨f4, f5, f6, f7, fl, b0, f8, f9, fe, fx⟩ := ht0
    have hkc : (nI k).toNatClampNeg = k := nI_clamp (by omega)
    refine lv_if_eq (tgt := 38) hx hb dM_textAt_5 (by decide) (fun c5 => absurd c5 (by decide)) (fun c5 => ?_)
    refine lv_iload_n hx hb dM_textAt_8 rfl (lv_at hl 2 rfl) ?_
    refine lv_if_lt (tgt := 38) hx hb dM_textAt_9 (by decide) (fun c9 => ?_) (fun c9 => ?_)
    · skip
      refine lv_iconst (v := (-1)) hx hb dM_textAt_38 (by decide) ?_
      exact MM.iret S hr hlk hw dM_textAt_39 rfl ⟨_, rfl, by rw [ea]; unfold txtT; rw [if_pos c9], rfl, rfl⟩
    · skip
      refine lv_iload_n hx hb dM_textAt_12 rfl (lv_at hl 2 rfl) ?_
      refine lv_aload_n hx hb dM_textAt_13 rfl (lv_at hl 0 rfl) ?_
      refine gM9 S hw dM_textAt_14 ?_
      refine lv_iload_n hx hb dM_textAt_17 rfl (lv_at hl 1 rfl) ?_
      refine ldM9 S hw (vp_in_nI (by omega) (by decide)) dM_textAt_18 ?_
      refine kz_top (y := nI t.2.2.2.2.length) (by rw [hkc]; exact f9) ?_
      refine lv_icmp_ge (tgt := 38) hx hb dM_textAt_19 (by decide) (fun c19 => ?_) (fun c19 => ?_)
      · skip
        refine lv_iconst (v := (-1)) hx hb dM_textAt_38 (by decide) ?_
        exact MM.iret S hr hlk hw dM_textAt_39 rfl ⟨_, rfl, by rw [ea]; unfold txtT; rw [if_neg c9, if_pos c19], rfl, rfl⟩
      · skip
        refine lv_aload_n hx hb dM_textAt_22 rfl (lv_at hl 0 rfl) ?_
        refine gM10 S hw dM_textAt_23 ?_
        refine lv_aload_n hx hb dM_textAt_26 rfl (lv_at hl 0 rfl) ?_
        refine gM8 S hw dM_textAt_27 ?_
        refine lv_iload_n hx hb dM_textAt_30 rfl (lv_at hl 1 rfl) ?_
        refine ldM8 S hw (vp_in_nI (by omega) (by decide)) dM_textAt_31 ?_
        refine kz_top (y := nI b0) (by rw [hkc]; exact f8) ?_
        refine lv_iload_n hx hb dM_textAt_32 rfl (lv_at hl 2 rfl) ?_
        have hy : vp_in y t.2.2.2.2.length := vin_of c9 c19 (by omega)
        obtain ⟨jj, hjj, rfl⟩ := vp_in_of hy (by omega)
        refine lv_iadd hx hb dM_textAt_33 ?_
        refine kz_top (nI_add b0 jj) ?_
        refine ldM10 S hw (vp_in_nI (by omega) (by decide)) dM_textAt_34 ?_
        refine kz_top (y := F 10 (b0 + jj)) (by rw [nI_clamp (by omega)]) ?_
        refine lv_goto (tgt := 39) hx hb dM_textAt_35 (by decide) ?_
        exact MM.iret S hr hlk hw dM_textAt_39 rfl ⟨_, rfl, by rw [ea]; unfold txtT; rw [if_neg c9, if_neg c19, nI_clamp (by omega), List.getD_eq_getElem?_getD, List.getElem?_eq_getElem hjj]; exact fx jj _ (List.getElem?_eq_getElem hjj), rfl, rfl⟩
  · skip
    refine lv_if_eq (tgt := 38) hx hb dM_textAt_5 (by decide) (fun c5 => ?_) (fun c5 => absurd c5 (by decide))
    refine lv_iconst (v := (-1)) hx hb dM_textAt_38 (by decide) ?_
    exact MM.iret S hr hlk hw dM_textAt_39 rfl ⟨_, rfl, (acc_out _ _ hB1).symm, rfl, rfl⟩
def levM (t : kz_T) : Int32 := if t.1 = 4 then (if t.2.2.2.2 ∈ wK 10 then 0 else if t.2.2.2.2 ∈ wK 11 then 6 else -1) else if isT t 124 0 then 1 else if isT t 38 0 then 2 else if isT t 60 60 then 3 else if isT t 62 62 then 3 else if isT t 61 0 then 4 else if isT t 126 61 then 4 else if isT t 60 0 then 4 else if isT t 60 61 then 4 else if isT t 62 0 then 4 else if isT t 62 61 then 4 else if isT t 43 0 then 5 else if isT t 45 0 then 5 else if isT t 42 0 then 6 else if isT t 47 0 then 6 else -1
set_option maxHeartbeats 4000000 in
set_option maxRecDepth 100000 in
theorem tM_level (l : Launch) (I : Nat → Int32) (F : Nat → Nat → Int32) (ts : List kz_T) (e0 : Nat) (he0 : e0 ≤ 1001) (hrp : repM ts e0 I F) (hok : allOK ts) (x : Int32) : MM l yM_level cM_level 2 (some .int) ({ frames := 6, cells := 0, slots := 0, locals := 134 }) [.int x] I F (iR (fun r I' F' => r = accT x ts levM (-1) ∧ I' = I ∧ F' = F)) := by
  refine MM.mk (by decide) (fun _ => Nat.le_of_ble_eq_true rfl) ?_
  intro z D cA h a pg en s m below meth c ls S hr hlk hA hw hl
  have hx := S.1
  have hb := S.2.1
  have hl : lv_has ls 2 [(0, .ref h), (1, .int x)] := hl
  refine lv_aload_n hx hb dM_level_0 rfl (lv_at hl 0 rfl) ?_
  refine lv_iload_n hx hb dM_level_1 rfl (lv_at hl 1 rfl) ?_
  refine kcMi (rest := []) S kM_175 rfl (tM_isToken l I F ts.length hrp.1 x) hw hA ⟨Nat.le_of_ble_eq_true rfl, Nat.le_of_ble_eq_true rfl⟩ rfl rfl ⟨Nat.zero_le _, Nat.zero_le _⟩ rfl hl.1 (Nat.le_of_ble_eq_true rfl) dM_level_2 (fun r I' F' H locs hq hw => ?_)
  obtain ⟨hr1, hr2, hr3⟩ := hq
  rw [hr2, hr3] at hw
  rcases bI hr1 with ⟨hB1, rfl⟩ | ⟨hB1, rfl⟩
  · skip
    have hlen := hrp.2.1
    obtain ⟨t, ht, ea⟩ := acc_in levM (-1) hB1 (by omega)
    obtain ⟨k, hk0, rfl⟩ := vp_in_of (vin_of hB1.1 hB1.2 (by omega)) (by omega)
    rw [nI_clamp (by omega)] at ht
    have h32 := no32 (hok t (List.mem_of_getElem? ht))
    have ht := hrp.2.2 k t ht
    have hk : k < 2100 := by omega
    have hl : lv_has ls 2 [(0, .ref h), (1, .int (nI k))] := hl
    have ht0 := ht
    obtain ⟨f4, f5, f6, f7, fl, b0, f8, f9, fe, fx⟩ := ht0
    have hkc : (nI k).toNatClampNeg = k := nI_clamp (by omega)
    refine lv_if_ne (tgt := 10) hx hb dM_level_5 (by decide) (fun c5 => ?_) (fun c5 => absurd c5 (by decide))
    refine lv_aload_n hx hb dM_level_10 rfl (lv_at hl 0 rfl) ?_
    refine gM4 S hw dM_level_11 ?_
    refine lv_iload_n hx hb dM_level_14 rfl (lv_at hl 1 rfl) ?_
    refine ldM4 S hw (vp_in_nI (by omega) (by decide)) dM_level_15 ?_
    refine kz_top (y := t.1) (by rw [hkc]; exact f4) ?_
    refine lv_iconst (v := 4) hx hb dM_level_16 (by decide) ?_
    refine lv_icmp_ne (tgt := 51) hx hb dM_level_17 (by decide) (fun c17 => ?_) (fun c17 => ?_)
    · skip
      refine lv_aload_n hx hb dM_level_51 rfl (lv_at hl 0 rfl) ?_
      refine lv_iload_n hx hb dM_level_52 rfl (lv_at hl 1 rfl) ?_
      refine lv_bipush (v := 124) hx hb dM_level_53 (by decide) ?_
      refine lv_iconst (v := 0) hx hb dM_level_55 (by decide) ?_
      refine kcMi (rest := []) S kM_104 rfl (tM_is l I F k e0 t ht hk (by omega) 124 0) hw hA ⟨Nat.le_of_ble_eq_true rfl, Nat.le_of_ble_eq_true rfl⟩ rfl rfl ⟨Nat.zero_le _, Nat.zero_le _⟩ rfl hl.1 (Nat.le_of_ble_eq_true rfl) dM_level_56 (fun r I' F' H locs hq hw => ?_)
      obtain ⟨hr1, hr2, hr3⟩ := hq
      rw [hr2, hr3] at hw
      rcases hr1 with ⟨hB2, rfl⟩ | ⟨hB2, rfl⟩
      · skip
        refine lv_if_eq (tgt := 64) hx hb dM_level_59 (by decide) (fun c59 => absurd c59 (by decide)) (fun c59 => ?_)
        refine lv_iconst (v := 1) hx hb dM_level_62 (by decide) ?_
        exact MM.iret S hr hlk hw dM_level_63 rfl ⟨_, rfl, by rw [ea]; unfold levM; rw [if_neg c17, if_pos hB2], rfl, rfl⟩
      · skip
        refine lv_if_eq (tgt := 64) hx hb dM_level_59 (by decide) (fun c59 => ?_) (fun c59 => absurd c59 (by decide))
        refine lv_aload_n hx hb dM_level_64 rfl (lv_at hl 0 rfl) ?_
        refine lv_iload_n hx hb dM_level_65 rfl (lv_at hl 1 rfl) ?_
        refine lv_bipush (v := 38) hx hb dM_level_66 (by decide) ?_
        refine lv_iconst (v := 0) hx hb dM_level_68 (by decide) ?_
        refine kcMi (rest := []) S kM_104 rfl (tM_is l I F k e0 t ht hk (by omega) 38 0) hw hA ⟨Nat.le_of_ble_eq_true rfl, Nat.le_of_ble_eq_true rfl⟩ rfl rfl ⟨Nat.zero_le _, Nat.zero_le _⟩ rfl hl.1 (Nat.le_of_ble_eq_true rfl) dM_level_69 (fun r I' F' H locs hq hw => ?_)
        obtain ⟨hr1, hr2, hr3⟩ := hq
        rw [hr2, hr3] at hw
        rcases hr1 with ⟨hB3, rfl⟩ | ⟨hB3, rfl⟩
        · skip
          refine lv_if_eq (tgt := 77) hx hb dM_level_72 (by decide) (fun c72 => absurd c72 (by decide)) (fun c72 => ?_)
          refine lv_iconst (v := 2) hx hb dM_level_75 (by decide) ?_
          exact MM.iret S hr hlk hw dM_level_76 rfl ⟨_, rfl, by rw [ea]; unfold levM; rw [if_neg c17, if_neg hB2, if_pos hB3], rfl, rfl⟩
        · skip
          refine lv_if_eq (tgt := 77) hx hb dM_level_72 (by decide) (fun c72 => ?_) (fun c72 => absurd c72 (by decide))
          refine lv_aload_n hx hb dM_level_77 rfl (lv_at hl 0 rfl) ?_
          refine lv_iload_n hx hb dM_level_78 rfl (lv_at hl 1 rfl) ?_
          refine lv_bipush (v := 60) hx hb dM_level_79 (by decide) ?_
          refine lv_bipush (v := 60) hx hb dM_level_81 (by decide) ?_
          refine kcMi (rest := []) S kM_104 rfl (tM_is l I F k e0 t ht hk (by omega) 60 60) hw hA ⟨Nat.le_of_ble_eq_true rfl, Nat.le_of_ble_eq_true rfl⟩ rfl rfl ⟨Nat.zero_le _, Nat.zero_le _⟩ rfl hl.1 (Nat.le_of_ble_eq_true rfl) dM_level_83 (fun r I' F' H locs hq hw => ?_)
          obtain ⟨hr1, hr2, hr3⟩ := hq
          rw [hr2, hr3] at hw
          rcases hr1 with ⟨hB4, rfl⟩ | ⟨hB4, rfl⟩
          · skip
            refine lv_if_ne (tgt := 101) hx hb dM_level_86 (by decide) (fun c86 => ?_) (fun c86 => absurd c86 (by decide))
            refine lv_iconst (v := 3) hx hb dM_level_101 (by decide) ?_
            exact MM.iret S hr hlk hw dM_level_102 rfl ⟨_, rfl, by rw [ea]; unfold levM; rw [if_neg c17, if_neg hB2, if_neg hB3, if_pos hB4], rfl, rfl⟩
          · skip
            refine lv_if_ne (tgt := 101) hx hb dM_level_86 (by decide) (fun c86 => absurd c86 (by decide)) (fun c86 => ?_)
            refine lv_aload_n hx hb dM_level_89 rfl (lv_at hl 0 rfl) ?_
            refine lv_iload_n hx hb dM_level_90 rfl (lv_at hl 1 rfl) ?_
            refine lv_bipush (v := 62) hx hb dM_level_91 (by decide) ?_
            refine lv_bipush (v := 62) hx hb dM_level_93 (by decide) ?_
            refine kcMi (rest := []) S kM_104 rfl (tM_is l I F k e0 t ht hk (by omega) 62 62) hw hA ⟨Nat.le_of_ble_eq_true rfl, Nat.le_of_ble_eq_true rfl⟩ rfl rfl ⟨Nat.zero_le _, Nat.zero_le _⟩ rfl hl.1 (Nat.le_of_ble_eq_true rfl) dM_level_95 (fun r I' F' H locs hq hw => ?_)
            obtain ⟨hr1, hr2, hr3⟩ := hq
            rw [hr2, hr3] at hw
            rcases hr1 with ⟨hB5, rfl⟩ | ⟨hB5, rfl⟩
            · skip
              refine lv_if_eq (tgt := 103) hx hb dM_level_98 (by decide) (fun c98 => absurd c98 (by decide)) (fun c98 => ?_)
              refine lv_iconst (v := 3) hx hb dM_level_101 (by decide) ?_
              exact MM.iret S hr hlk hw dM_level_102 rfl ⟨_, rfl, by rw [ea]; unfold levM; rw [if_neg c17, if_neg hB2, if_neg hB3, if_neg hB4, if_pos hB5], rfl, rfl⟩
            · skip
              refine lv_if_eq (tgt := 103) hx hb dM_level_98 (by decide) (fun c98 => ?_) (fun c98 => absurd c98 (by decide))
              refine lv_aload_n hx hb dM_level_103 rfl (lv_at hl 0 rfl) ?_
              refine lv_iload_n hx hb dM_level_104 rfl (lv_at hl 1 rfl) ?_
              refine lv_bipush (v := 61) hx hb dM_level_105 (by decide) ?_
              refine lv_iconst (v := 0) hx hb dM_level_107 (by decide) ?_
              refine kcMi (rest := []) S kM_104 rfl (tM_is l I F k e0 t ht hk (by omega) 61 0) hw hA ⟨Nat.le_of_ble_eq_true rfl, Nat.le_of_ble_eq_true rfl⟩ rfl rfl ⟨Nat.zero_le _, Nat.zero_le _⟩ rfl hl.1 (Nat.le_of_ble_eq_true rfl) dM_level_108 (fun r I' F' H locs hq hw => ?_)
              obtain ⟨hr1, hr2, hr3⟩ := hq
              rw [hr2, hr3] at hw
              rcases hr1 with ⟨hB6, rfl⟩ | ⟨hB6, rfl⟩
              · skip
                refine lv_if_ne (tgt := 172) hx hb dM_level_111 (by decide) (fun c111 => ?_) (fun c111 => absurd c111 (by decide))
                refine lv_iconst (v := 4) hx hb dM_level_172 (by decide) ?_
                exact MM.iret S hr hlk hw dM_level_173 rfl ⟨_, rfl, by rw [ea]; unfold levM; rw [if_neg c17, if_neg hB2, if_neg hB3, if_neg hB4, if_neg hB5, if_pos hB6], rfl, rfl⟩
              · skip
                refine lv_if_ne (tgt := 172) hx hb dM_level_111 (by decide) (fun c111 => absurd c111 (by decide)) (fun c111 => ?_)
                refine lv_aload_n hx hb dM_level_114 rfl (lv_at hl 0 rfl) ?_
                refine lv_iload_n hx hb dM_level_115 rfl (lv_at hl 1 rfl) ?_
                refine lv_bipush (v := 126) hx hb dM_level_116 (by decide) ?_
                refine lv_bipush (v := 61) hx hb dM_level_118 (by decide) ?_
                refine kcMi (rest := []) S kM_104 rfl (tM_is l I F k e0 t ht hk (by omega) 126 61) hw hA ⟨Nat.le_of_ble_eq_true rfl, Nat.le_of_ble_eq_true rfl⟩ rfl rfl ⟨Nat.zero_le _, Nat.zero_le _⟩ rfl hl.1 (Nat.le_of_ble_eq_true rfl) dM_level_120 (fun r I' F' H locs hq hw => ?_)
                obtain ⟨hr1, hr2, hr3⟩ := hq
                rw [hr2, hr3] at hw
                rcases hr1 with ⟨hB7, rfl⟩ | ⟨hB7, rfl⟩
                · skip
                  refine lv_if_ne (tgt := 172) hx hb dM_level_123 (by decide) (fun c123 => ?_) (fun c123 => absurd c123 (by decide))
                  refine lv_iconst (v := 4) hx hb dM_level_172 (by decide) ?_
                  exact MM.iret S hr hlk hw dM_level_173 rfl ⟨_, rfl, by rw [ea]; unfold levM; rw [if_neg c17, if_neg hB2, if_neg hB3, if_neg hB4, if_neg hB5, if_neg hB6, if_pos hB7], rfl, rfl⟩
                · skip
                  refine lv_if_ne (tgt := 172) hx hb dM_level_123 (by decide) (fun c123 => absurd c123 (by decide)) (fun c123 => ?_)
                  refine lv_aload_n hx hb dM_level_126 rfl (lv_at hl 0 rfl) ?_
                  refine lv_iload_n hx hb dM_level_127 rfl (lv_at hl 1 rfl) ?_
                  refine lv_bipush (v := 60) hx hb dM_level_128 (by decide) ?_
                  refine lv_iconst (v := 0) hx hb dM_level_130 (by decide) ?_
                  refine kcMi (rest := []) S kM_104 rfl (tM_is l I F k e0 t ht hk (by omega) 60 0) hw hA ⟨Nat.le_of_ble_eq_true rfl, Nat.le_of_ble_eq_true rfl⟩ rfl rfl ⟨Nat.zero_le _, Nat.zero_le _⟩ rfl hl.1 (Nat.le_of_ble_eq_true rfl) dM_level_131 (fun r I' F' H locs hq hw => ?_)
                  obtain ⟨hr1, hr2, hr3⟩ := hq
                  rw [hr2, hr3] at hw
                  rcases hr1 with ⟨hB8, rfl⟩ | ⟨hB8, rfl⟩
                  · skip
                    refine lv_if_ne (tgt := 172) hx hb dM_level_134 (by decide) (fun c134 => ?_) (fun c134 => absurd c134 (by decide))
                    refine lv_iconst (v := 4) hx hb dM_level_172 (by decide) ?_
                    exact MM.iret S hr hlk hw dM_level_173 rfl ⟨_, rfl, by rw [ea]; unfold levM; rw [if_neg c17, if_neg hB2, if_neg hB3, if_neg hB4, if_neg hB5, if_neg hB6, if_neg hB7, if_pos hB8], rfl, rfl⟩
                  · skip
                    refine lv_if_ne (tgt := 172) hx hb dM_level_134 (by decide) (fun c134 => absurd c134 (by decide)) (fun c134 => ?_)
                    refine lv_aload_n hx hb dM_level_137 rfl (lv_at hl 0 rfl) ?_
                    refine lv_iload_n hx hb dM_level_138 rfl (lv_at hl 1 rfl) ?_
                    refine lv_bipush (v := 60) hx hb dM_level_139 (by decide) ?_
                    refine lv_bipush (v := 61) hx hb dM_level_141 (by decide) ?_
                    refine kcMi (rest := []) S kM_104 rfl (tM_is l I F k e0 t ht hk (by omega) 60 61) hw hA ⟨Nat.le_of_ble_eq_true rfl, Nat.le_of_ble_eq_true rfl⟩ rfl rfl ⟨Nat.zero_le _, Nat.zero_le _⟩ rfl hl.1 (Nat.le_of_ble_eq_true rfl) dM_level_143 (fun r I' F' H locs hq hw => ?_)
                    obtain ⟨hr1, hr2, hr3⟩ := hq
                    rw [hr2, hr3] at hw
                    rcases hr1 with ⟨hB9, rfl⟩ | ⟨hB9, rfl⟩
                    · skip
                      refine lv_if_ne (tgt := 172) hx hb dM_level_146 (by decide) (fun c146 => ?_) (fun c146 => absurd c146 (by decide))
                      refine lv_iconst (v := 4) hx hb dM_level_172 (by decide) ?_
                      exact MM.iret S hr hlk hw dM_level_173 rfl ⟨_, rfl, by rw [ea]; unfold levM; rw [if_neg c17, if_neg hB2, if_neg hB3, if_neg hB4, if_neg hB5, if_neg hB6, if_neg hB7, if_neg hB8, if_pos hB9], rfl, rfl⟩
                    · skip
                      refine lv_if_ne (tgt := 172) hx hb dM_level_146 (by decide) (fun c146 => absurd c146 (by decide)) (fun c146 => ?_)
                      refine lv_aload_n hx hb dM_level_149 rfl (lv_at hl 0 rfl) ?_
                      refine lv_iload_n hx hb dM_level_150 rfl (lv_at hl 1 rfl) ?_
                      refine lv_bipush (v := 62) hx hb dM_level_151 (by decide) ?_
                      refine lv_iconst (v := 0) hx hb dM_level_153 (by decide) ?_
                      refine kcMi (rest := []) S kM_104 rfl (tM_is l I F k e0 t ht hk (by omega) 62 0) hw hA ⟨Nat.le_of_ble_eq_true rfl, Nat.le_of_ble_eq_true rfl⟩ rfl rfl ⟨Nat.zero_le _, Nat.zero_le _⟩ rfl hl.1 (Nat.le_of_ble_eq_true rfl) dM_level_154 (fun r I' F' H locs hq hw => ?_)
                      obtain ⟨hr1, hr2, hr3⟩ := hq
                      rw [hr2, hr3] at hw
                      rcases hr1 with ⟨hB10, rfl⟩ | ⟨hB10, rfl⟩
                      · skip
                        refine lv_if_ne (tgt := 172) hx hb dM_level_157 (by decide) (fun c157 => ?_) (fun c157 => absurd c157 (by decide))
                        refine lv_iconst (v := 4) hx hb dM_level_172 (by decide) ?_
                        exact MM.iret S hr hlk hw dM_level_173 rfl ⟨_, rfl, by rw [ea]; unfold levM; rw [if_neg c17, if_neg hB2, if_neg hB3, if_neg hB4, if_neg hB5, if_neg hB6, if_neg hB7, if_neg hB8, if_neg hB9, if_pos hB10], rfl, rfl⟩
                      · skip
                        refine lv_if_ne (tgt := 172) hx hb dM_level_157 (by decide) (fun c157 => absurd c157 (by decide)) (fun c157 => ?_)
                        refine lv_aload_n hx hb dM_level_160 rfl (lv_at hl 0 rfl) ?_
                        refine lv_iload_n hx hb dM_level_161 rfl (lv_at hl 1 rfl) ?_
                        refine lv_bipush (v := 62) hx hb dM_level_162 (by decide) ?_
                        refine lv_bipush (v := 61) hx hb dM_level_164 (by decide) ?_
                        refine kcMi (rest := []) S kM_104 rfl (tM_is l I F k e0 t ht hk (by omega) 62 61) hw hA ⟨Nat.le_of_ble_eq_true rfl, Nat.le_of_ble_eq_true rfl⟩ rfl rfl ⟨Nat.zero_le _, Nat.zero_le _⟩ rfl hl.1 (Nat.le_of_ble_eq_true rfl) dM_level_166 (fun r I' F' H locs hq hw => ?_)
                        obtain ⟨hr1, hr2, hr3⟩ := hq
                        rw [hr2, hr3] at hw
                        rcases hr1 with ⟨hB11, rfl⟩ | ⟨hB11, rfl⟩
                        · skip
                          refine lv_if_eq (tgt := 174) hx hb dM_level_169 (by decide) (fun c169 => absurd c169 (by decide)) (fun c169 => ?_)
                          refine lv_iconst (v := 4) hx hb dM_level_172 (by decide) ?_
                          exact MM.iret S hr hlk hw dM_level_173 rfl ⟨_, rfl, by rw [ea]; unfold levM; rw [if_neg c17, if_neg hB2, if_neg hB3, if_neg hB4, if_neg hB5, if_neg hB6, if_neg hB7, if_neg hB8, if_neg hB9, if_neg hB10, if_pos hB11], rfl, rfl⟩
                        · skip
                          refine lv_if_eq (tgt := 174) hx hb dM_level_169 (by decide) (fun c169 => ?_) (fun c169 => absurd c169 (by decide))
                          refine lv_aload_n hx hb dM_level_174 rfl (lv_at hl 0 rfl) ?_
                          refine lv_iload_n hx hb dM_level_175 rfl (lv_at hl 1 rfl) ?_
                          refine lv_bipush (v := 43) hx hb dM_level_176 (by decide) ?_
                          refine lv_iconst (v := 0) hx hb dM_level_178 (by decide) ?_
                          refine kcMi (rest := []) S kM_104 rfl (tM_is l I F k e0 t ht hk (by omega) 43 0) hw hA ⟨Nat.le_of_ble_eq_true rfl, Nat.le_of_ble_eq_true rfl⟩ rfl rfl ⟨Nat.zero_le _, Nat.zero_le _⟩ rfl hl.1 (Nat.le_of_ble_eq_true rfl) dM_level_179 (fun r I' F' H locs hq hw => ?_)
                          obtain ⟨hr1, hr2, hr3⟩ := hq
                          rw [hr2, hr3] at hw
                          rcases hr1 with ⟨hB12, rfl⟩ | ⟨hB12, rfl⟩
                          · skip
                            refine lv_if_ne (tgt := 196) hx hb dM_level_182 (by decide) (fun c182 => ?_) (fun c182 => absurd c182 (by decide))
                            refine lv_iconst (v := 5) hx hb dM_level_196 (by decide) ?_
                            exact MM.iret S hr hlk hw dM_level_197 rfl ⟨_, rfl, by rw [ea]; unfold levM; rw [if_neg c17, if_neg hB2, if_neg hB3, if_neg hB4, if_neg hB5, if_neg hB6, if_neg hB7, if_neg hB8, if_neg hB9, if_neg hB10, if_neg hB11, if_pos hB12], rfl, rfl⟩
                          · skip
                            refine lv_if_ne (tgt := 196) hx hb dM_level_182 (by decide) (fun c182 => absurd c182 (by decide)) (fun c182 => ?_)
                            refine lv_aload_n hx hb dM_level_185 rfl (lv_at hl 0 rfl) ?_
                            refine lv_iload_n hx hb dM_level_186 rfl (lv_at hl 1 rfl) ?_
                            refine lv_bipush (v := 45) hx hb dM_level_187 (by decide) ?_
                            refine lv_iconst (v := 0) hx hb dM_level_189 (by decide) ?_
                            refine kcMi (rest := []) S kM_104 rfl (tM_is l I F k e0 t ht hk (by omega) 45 0) hw hA ⟨Nat.le_of_ble_eq_true rfl, Nat.le_of_ble_eq_true rfl⟩ rfl rfl ⟨Nat.zero_le _, Nat.zero_le _⟩ rfl hl.1 (Nat.le_of_ble_eq_true rfl) dM_level_190 (fun r I' F' H locs hq hw => ?_)
                            obtain ⟨hr1, hr2, hr3⟩ := hq
                            rw [hr2, hr3] at hw
                            rcases hr1 with ⟨hB13, rfl⟩ | ⟨hB13, rfl⟩
                            · skip
                              refine lv_if_eq (tgt := 198) hx hb dM_level_193 (by decide) (fun c193 => absurd c193 (by decide)) (fun c193 => ?_)
                              refine lv_iconst (v := 5) hx hb dM_level_196 (by decide) ?_
                              exact MM.iret S hr hlk hw dM_level_197 rfl ⟨_, rfl, by rw [ea]; unfold levM; rw [if_neg c17, if_neg hB2, if_neg hB3, if_neg hB4, if_neg hB5, if_neg hB6, if_neg hB7, if_neg hB8, if_neg hB9, if_neg hB10, if_neg hB11, if_neg hB12, if_pos hB13], rfl, rfl⟩
                            · skip
                              refine lv_if_eq (tgt := 198) hx hb dM_level_193 (by decide) (fun c193 => ?_) (fun c193 => absurd c193 (by decide))
                              refine lv_aload_n hx hb dM_level_198 rfl (lv_at hl 0 rfl) ?_
                              refine lv_iload_n hx hb dM_level_199 rfl (lv_at hl 1 rfl) ?_
                              refine lv_bipush (v := 42) hx hb dM_level_200 (by decide) ?_
                              refine lv_iconst (v := 0) hx hb dM_level_202 (by decide) ?_
                              refine kcMi (rest := []) S kM_104 rfl (tM_is l I F k e0 t ht hk (by omega) 42 0) hw hA ⟨Nat.le_of_ble_eq_true rfl, Nat.le_of_ble_eq_true rfl⟩ rfl rfl ⟨Nat.zero_le _, Nat.zero_le _⟩ rfl hl.1 (Nat.le_of_ble_eq_true rfl) dM_level_203 (fun r I' F' H locs hq hw => ?_)
                              obtain ⟨hr1, hr2, hr3⟩ := hq
                              rw [hr2, hr3] at hw
                              rcases hr1 with ⟨hB14, rfl⟩ | ⟨hB14, rfl⟩
                              · skip
                                refine lv_if_ne (tgt := 220) hx hb dM_level_206 (by decide) (fun c206 => ?_) (fun c206 => absurd c206 (by decide))
                                refine lv_bipush (v := 6) hx hb dM_level_220 (by decide) ?_
                                refine lv_goto (tgt := 226) hx hb dM_level_222 (by decide) ?_
                                exact MM.iret S hr hlk hw dM_level_226 rfl ⟨_, rfl, by rw [ea]; unfold levM; rw [if_neg c17, if_neg hB2, if_neg hB3, if_neg hB4, if_neg hB5, if_neg hB6, if_neg hB7, if_neg hB8, if_neg hB9, if_neg hB10, if_neg hB11, if_neg hB12, if_neg hB13, if_pos hB14], rfl, rfl⟩
                              · skip
                                refine lv_if_ne (tgt := 220) hx hb dM_level_206 (by decide) (fun c206 => absurd c206 (by decide)) (fun c206 => ?_)
                                refine lv_aload_n hx hb dM_level_209 rfl (lv_at hl 0 rfl) ?_
                                refine lv_iload_n hx hb dM_level_210 rfl (lv_at hl 1 rfl) ?_
                                refine lv_bipush (v := 47) hx hb dM_level_211 (by decide) ?_
                                refine lv_iconst (v := 0) hx hb dM_level_213 (by decide) ?_
                                refine kcMi (rest := []) S kM_104 rfl (tM_is l I F k e0 t ht hk (by omega) 47 0) hw hA ⟨Nat.le_of_ble_eq_true rfl, Nat.le_of_ble_eq_true rfl⟩ rfl rfl ⟨Nat.zero_le _, Nat.zero_le _⟩ rfl hl.1 (Nat.le_of_ble_eq_true rfl) dM_level_214 (fun r I' F' H locs hq hw => ?_)
                                obtain ⟨hr1, hr2, hr3⟩ := hq
                                rw [hr2, hr3] at hw
                                rcases hr1 with ⟨hB15, rfl⟩ | ⟨hB15, rfl⟩
                                · skip
                                  refine lv_if_eq (tgt := 225) hx hb dM_level_217 (by decide) (fun c217 => absurd c217 (by decide)) (fun c217 => ?_)
                                  refine lv_bipush (v := 6) hx hb dM_level_220 (by decide) ?_
                                  refine lv_goto (tgt := 226) hx hb dM_level_222 (by decide) ?_
                                  exact MM.iret S hr hlk hw dM_level_226 rfl ⟨_, rfl, by rw [ea]; unfold levM; rw [if_neg c17, if_neg hB2, if_neg hB3, if_neg hB4, if_neg hB5, if_neg hB6, if_neg hB7, if_neg hB8, if_neg hB9, if_neg hB10, if_neg hB11, if_neg hB12, if_neg hB13, if_neg hB14, if_pos hB15], rfl, rfl⟩
                                · skip
                                  refine lv_if_eq (tgt := 225) hx hb dM_level_217 (by decide) (fun c217 => ?_) (fun c217 => absurd c217 (by decide))
                                  refine lv_iconst (v := (-1)) hx hb dM_level_225 (by decide) ?_
                                  exact MM.iret S hr hlk hw dM_level_226 rfl ⟨_, rfl, by rw [ea]; unfold levM; rw [if_neg c17, if_neg hB2, if_neg hB3, if_neg hB4, if_neg hB5, if_neg hB6, if_neg hB7, if_neg hB8, if_neg hB9, if_neg hB10, if_neg hB11, if_neg hB12, if_neg hB13, if_neg hB14, if_neg hB15], rfl, rfl⟩
    · skip
      refine lv_aload_n hx hb dM_level_20 rfl (lv_at hl 0 rfl) ?_
      refine lv_iload_n hx hb dM_level_21 rfl (lv_at hl 1 rfl) ?_
      refine va_ldcS hx hb S.2.2.2.1 (rK_10 hw.2.2.2.2.2) dM_level_22 ?_
      refine kcMzi (rest := []) S kM_108 rfl (tM_isIn l z I F k e0 t ht hk (by omega) 10 (by decide)) hw hA ⟨Nat.le_of_ble_eq_true rfl, Nat.le_of_ble_eq_true rfl⟩ rfl rfl ⟨Nat.zero_le _, Nat.zero_le _⟩ rfl hl.1 (Nat.le_of_ble_eq_true rfl) dM_level_24 (fun r I' F' H locs hq hw => ?_)
      obtain ⟨hr1, hr2, hr3⟩ := hq
      rw [hr2, hr3] at hw
      rcases hr1 with ⟨hB16, rfl⟩ | ⟨hB16, rfl⟩
      · skip
        rw [in_iff (by decide) (by decide) (h32 c17)] at hB16
        refine lv_if_eq (tgt := 34) hx hb dM_level_27 (by decide) (fun c27 => absurd c27 (by decide)) (fun c27 => ?_)
        refine lv_iconst (v := 0) hx hb dM_level_30 (by decide) ?_
        refine lv_goto (tgt := 50) hx hb dM_level_31 (by decide) ?_
        exact MM.iret S hr hlk hw dM_level_50 rfl ⟨_, rfl, by rw [ea]; unfold levM; rw [if_pos c17, if_pos hB16], rfl, rfl⟩
      · skip
        rw [in_iff (by decide) (by decide) (h32 c17)] at hB16
        refine lv_if_eq (tgt := 34) hx hb dM_level_27 (by decide) (fun c27 => ?_) (fun c27 => absurd c27 (by decide))
        refine lv_aload_n hx hb dM_level_34 rfl (lv_at hl 0 rfl) ?_
        refine lv_iload_n hx hb dM_level_35 rfl (lv_at hl 1 rfl) ?_
        refine va_ldcS hx hb S.2.2.2.1 (rK_11 hw.2.2.2.2.2) dM_level_36 ?_
        refine kcMzi (rest := []) S kM_108 rfl (tM_isIn l z I F k e0 t ht hk (by omega) 11 (by decide)) hw hA ⟨Nat.le_of_ble_eq_true rfl, Nat.le_of_ble_eq_true rfl⟩ rfl rfl ⟨Nat.zero_le _, Nat.zero_le _⟩ rfl hl.1 (Nat.le_of_ble_eq_true rfl) dM_level_38 (fun r I' F' H locs hq hw => ?_)
        obtain ⟨hr1, hr2, hr3⟩ := hq
        rw [hr2, hr3] at hw
        rcases hr1 with ⟨hB17, rfl⟩ | ⟨hB17, rfl⟩
        · skip
          rw [in_iff (by decide) (by decide) (h32 c17)] at hB17
          refine lv_if_eq (tgt := 49) hx hb dM_level_41 (by decide) (fun c41 => absurd c41 (by decide)) (fun c41 => ?_)
          refine lv_bipush (v := 6) hx hb dM_level_44 (by decide) ?_
          refine lv_goto (tgt := 50) hx hb dM_level_46 (by decide) ?_
          exact MM.iret S hr hlk hw dM_level_50 rfl ⟨_, rfl, by rw [ea]; unfold levM; rw [if_pos c17, if_neg hB16, if_pos hB17], rfl, rfl⟩
        · skip
          rw [in_iff (by decide) (by decide) (h32 c17)] at hB17
          refine lv_if_eq (tgt := 49) hx hb dM_level_41 (by decide) (fun c41 => ?_) (fun c41 => absurd c41 (by decide))
          refine lv_iconst (v := (-1)) hx hb dM_level_49 (by decide) ?_
          exact MM.iret S hr hlk hw dM_level_50 rfl ⟨_, rfl, by rw [ea]; unfold levM; rw [if_pos c17, if_neg hB16, if_neg hB17], rfl, rfl⟩
  · skip
    refine lv_if_ne (tgt := 10) hx hb dM_level_5 (by decide) (fun c5 => absurd c5 (by decide)) (fun c5 => ?_)
    refine lv_iconst (v := (-1)) hx hb dM_level_8 (by decide) ?_
    exact MM.iret S hr hlk hw dM_level_9 rfl ⟨_, rfl, (acc_out _ _ hB1).symm, rfl, rfl⟩
theorem lev_eq {t : kz_T} (h : tokOK t.1 t.2.2.2.2) : levX t = levM t := by
  obtain ⟨k, p, L, v, tx⟩ := t
  by_cases h3 : k = 3
  · subst h3
    exact (by decide +kernel : ∀ w ∈ wK 3, levX (3, 0, 0, 0, w) = levM (3, 0, 0, 0, w)) tx (h.1 rfl)
  · by_cases h4 : k = 4
    · subst h4
      exact (by decide +kernel : ∀ w ∈ wK 7, levX (4, 0, 0, 0, w) = levM (4, 0, 0, 0, w)) tx (h.2 rfl)
    · simp [levX, levM, iSok, isT, h3, h4]
theorem acc_lev {ts : List kz_T} (hok : allOK ts) (x : Int32) : accT x ts levX (-1) = accT x ts levM (-1) := by
  unfold accT
  split
  · rfl
  · split
    · rfl
    · cases hx : ts[x.toNatClampNeg]? with
      | none => rfl
      | some t => exact lev_eq (hok t (List.mem_of_getElem? hx))
