set_option maxHeartbeats 4000000 in
set_option maxRecDepth 100000 in
theorem tM_keep (l : Launch) (I : Nat → Int32) (F : Nat → Nat → Int32) (T : Nat → Int32) (n : Nat) (hT : tpM T n I F) (ts : List kz_T) (e p L : Nat) (hrp : repM ts e I F) (h11 : I 11 = nI e) (h15 : I 15 = nI p) (h16 : I 16 = nI L) (hp : p < n) (hc : ts.length ≤ 1000) (hL : L ≤ 1000) (hok : allOK ts) (q : kz_S) (hq : scT T n p = q) (h6 : ¬ q.1 = 6) (h17 : I 17 = if q.1 = 4 then 0 else q.1) (h19 : I 19 = nI q.2.2.1) (h18 : q.1 = 1 → I 18 = q.2.1) (he : e + q.2.2.2.length ≤ 1000) : MM l yM_keep cM_keep 2 none ({ frames := 8, cells := 0, slots := 0, locals := 176 }) [] I F (vR (fun I' F' => kpP ts e p L q I F I' F')) := by
  refine MM.mk (by decide) (fun _ => Nat.le_of_ble_eq_true rfl) ?_
  intro z D cA h a pg en s m below meth c ls S hr hlk hA hw hl
  have hx := S.1
  have hb := S.2.1
  have hl : lv_has ls 2 [(0, .ref h)] := hl
  have hn := hT.2.1
  have hkd := scT_kind (T := T) hp
  obtain ⟨o1, o2, o3, o4, o5⟩ := (hq ▸ scT_ok (T := T) hp : okS n p q) h6
  rw [hq] at hkd
  obtain ⟨qk, qv, qb, qt⟩ := q
  have o1 : p < qb := o1
  have o2 : qb ≤ n := o2
  have o3 : p + qt.length ≤ qb := o3
  have he : e + qt.length ≤ 1000 := he
  rcases hkd h6 with ⟨kA, kB, kC, kD, kE⟩ | ⟨kA, kB⟩ | ⟨kA, kB, kC, kD⟩ | ⟨kA, kB, kC⟩
  · skip
    have hqv : qv = 0 := kB
    have hqt : qt = sliceT T p (qb - p) := kC
    have k17 : I 17 = 0 := by
      rw [h17]
      rcases kA with kA | kA
      · have kA : qk = 0 := kA
        subst kA; exact (by decide : (if (0 : Int32) = 4 then (0 : Int32) else 0) = 0)
      · have kA : qk = 4 := kA
        subst kA; exact (by decide : (if (4 : Int32) = 4 then (0 : Int32) else 4) = 0)
    subst hqv
    have loop44 : ∀ (fu j : Nat) (I1 : Nat → Int32) (F1 : Nat → Nat → Int32) (H : Heap) (locs : List Loc) (ls : Array Slot), p + j ≤ qb → qb + 1 ≤ p + j + fu → curM ts (0, p, L, 0, sliceT T p j) e I1 F1 → (∀ k, k ≠ 3 → k ≠ 11 → I1 k = I k) → F1 1 = F 1 → sM z D cA h a (AM h a s.heap.size) s H locs I1 F1 → lv_has ls 2 [(0, .ref h), (1, .int (nI (p + j)))] → W pg l en ({ frames := 8, cells := 0, slots := 0, locals := 176 }) s m ([.ref h] : List Value).toArray below meth c H locs 0 0 (MQ below (QM z D cA h a s.heap.size (vR (fun I' F' => kpP ts e p L (qk, 0, qb, qt) I F I' F'))) ([.ref h] : List Value).toArray s 0 0 (AM h a s.heap.size)) (F0 m 44 ls []) := by
      intro fu
      induction fu with
      | zero => intro j I1 F1 H locs ls hj hf hcu gI gF hw hl; omega
      | succ fu ih =>
        intro j I1 F1 H locs ls hj hf hcu gI gF hw hl
        have g19 : I1 19 = nI qb := (gI 19 (by decide) (by decide)).trans h19
        have g17 : I1 17 = 0 := (gI 17 (by decide) (by decide)).trans k17
        refine lv_iload_n hx hb dM_keep_44 rfl (lv_at hl 1 rfl) ?_
        refine lv_aload_n hx hb dM_keep_45 rfl (lv_at hl 0 rfl) ?_
        refine gM19 S hw dM_keep_46 ?_
        refine kz_top (y := nI qb) g19 ?_
        refine lv_icmp_ge (tgt := 68) hx hb dM_keep_49 (by decide) (fun c49 => ?_) (fun c49 => ?_)
        · skip
          have hje : p + j = qb := Nat.le_antisymm hj ((nI_leI (by omega) (by omega)).mp c49)
          have hqt2 : sliceT T p j = qt := by rw [hqt]; congr 1; omega
          rw [hqt2] at hcu
          refine lv_goto (tgt := 116) hx hb dM_keep_68 (by decide) ?_
          refine lv_aload_n hx hb dM_keep_116 rfl (lv_at hl 0 rfl) ?_
          refine gM17 S hw dM_keep_117 ?_
          refine kz_top (y := 0) g17 ?_
          refine lv_if_ne (tgt := 150) hx hb dM_keep_120 (by decide) (fun c120 => absurd c120 (by decide)) (fun c120 => ?_)
          refine lv_aload_n hx hb dM_keep_123 rfl (lv_at hl 0 rfl) ?_
          refine lv_aload_n hx hb dM_keep_124 rfl (lv_at hl 0 rfl) ?_
          refine gM3 S hw dM_keep_125 ?_
          refine kz_top (y := nI (ts.length + 1)) hcu.1 ?_
          refine lv_iconst (v := 1) hx hb dM_keep_128 (by decide) ?_
          refine lv_isub hx hb dM_keep_129 ?_
          refine kz_top (y := nI ts.length) (nI_pred _) ?_
          refine va_ldcS hx hb S.2.2.2.1 (rK_7 hw.2.2.2.2.2) dM_keep_130 ?_
          refine kcMzi (rest := []) S kM_108 rfl (tM_isIn l z I1 F1 ts.length (e + qt.length) _ hcu.tok (by omega) (by omega) 7 (by decide)) hw hA ⟨Nat.le_of_ble_eq_true rfl, Nat.le_of_ble_eq_true rfl⟩ rfl rfl ⟨Nat.zero_le _, Nat.zero_le _⟩ rfl hl.1 (Nat.le_of_ble_eq_true rfl) dM_keep_132 (fun r I' F' H locs hq' hw => ?_)
          obtain ⟨hr1, hr2, hr3⟩ := hq'
          rw [hr2, hr3] at hw
          rcases hr1 with ⟨hB1, rfl⟩ | ⟨hB1, rfl⟩
          · skip
            have hB1 : qt ∈ wK 7 := (in_iff (by decide) (by decide) kE).mp hB1
            have hqk : qk = 4 := kD.mpr hB1
            subst hqk
            refine lv_if_eq (tgt := 150) hx hb dM_keep_135 (by decide) (fun c135 => absurd c135 (by decide)) (fun c135 => ?_)
            refine lv_aload_n hx hb dM_keep_138 rfl (lv_at hl 0 rfl) ?_
            refine gM4 S hw dM_keep_139 ?_
            refine lv_aload_n hx hb dM_keep_142 rfl (lv_at hl 0 rfl) ?_
            refine gM3 S hw dM_keep_143 ?_
            refine kz_top (y := nI (ts.length + 1)) hcu.1 ?_
            refine lv_iconst (v := 1) hx hb dM_keep_146 (by decide) ?_
            refine lv_isub hx hb dM_keep_147 ?_
            refine kz_top (y := nI ts.length) (nI_pred _) ?_
            refine lv_iconst (v := 4) hx hb dM_keep_148 (by decide) ?_
            refine stM4 S hw (vp_in_nI (by omega) (by decide)) dM_keep_149 (fun H locs hw => ?_)
            refine lv_aload_n hx hb dM_keep_150 rfl (lv_at hl 0 rfl) ?_
            rw [cl_ _ (by omega)] at hw
            refine kcMv (rest := []) S kM_163 rfl (tM_understand l I1 (va_up F1 4 (upd (F1 4) ts.length 4)) ts _ e ((curM.kind hcu : curM ts (4, p, L, 0, qt) e I1 _)) hok o4 he) hw hA ⟨Nat.le_of_ble_eq_true rfl, Nat.le_of_ble_eq_true rfl⟩ rfl rfl ⟨Nat.zero_le _, Nat.zero_le _⟩ rfl hl.1 (Nat.le_of_ble_eq_true rfl) dM_keep_151 (fun I9 F9 H locs hu hw => ?_)
            exact MM.vret S hr hlk hw dM_keep_154 ⟨rfl, kpP.of hu gI gF⟩
          · skip
            have hB1 : ¬ qt ∈ wK 7 := fun z => hB1 ((in_iff (by decide) (by decide) kE).mpr z)
            have hqk : qk = 0 := by
              rcases kA with kA | kA
              · exact kA
              · exact absurd (kD.mp kA) hB1
            subst hqk
            refine lv_if_eq (tgt := 150) hx hb dM_keep_135 (by decide) (fun c135 => ?_) (fun c135 => absurd c135 (by decide))
            refine lv_aload_n hx hb dM_keep_150 rfl (lv_at hl 0 rfl) ?_
            refine kcMv (rest := []) S kM_163 rfl (tM_understand l I1 F1 ts _ e hcu hok o4 he) hw hA ⟨Nat.le_of_ble_eq_true rfl, Nat.le_of_ble_eq_true rfl⟩ rfl rfl ⟨Nat.zero_le _, Nat.zero_le _⟩ rfl hl.1 (Nat.le_of_ble_eq_true rfl) dM_keep_151 (fun I9 F9 H locs hu hw => ?_)
            exact MM.vret S hr hlk hw dM_keep_154 ⟨rfl, kpP.of hu gI gF⟩
        · skip
          refine lv_aload_n hx hb dM_keep_52 rfl (lv_at hl 0 rfl) ?_
          refine lv_aload_n hx hb dM_keep_53 rfl (lv_at hl 0 rfl) ?_
          refine gM1 S hw dM_keep_54 ?_
          refine lv_iload_n hx hb dM_keep_57 rfl (lv_at hl 1 rfl) ?_
          refine ldM1 S hw (vp_in_nI (by have hlt : p + j < qb := Nat.lt_of_not_le (fun z => c49 (nI_le z (by omega))); omega) (by decide)) dM_keep_58 ?_
          have hlt : p + j < qb := Nat.lt_of_not_le (fun z => c49 (nI_le z (by omega)))
          refine kz_top (y := T (p + j)) (by rw [cl_ _ (by omega), gF]; exact hT.2.2.1 _ (by omega)) ?_
          refine kcMv (rest := []) S kM_160 rfl (tM_say l I1 F1 ts _ e hcu (by show e + (sliceT T p j).length < 2000; rw [slice_len]; omega) (T (p + j))) hw hA ⟨Nat.le_of_ble_eq_true rfl, Nat.le_of_ble_eq_true rfl⟩ rfl rfl ⟨Nat.zero_le _, Nat.zero_le _⟩ rfl hl.1 (Nat.le_of_ble_eq_true rfl) dM_keep_59 (fun I3 F3 H locs hs hw => ?_)
          obtain ⟨hcu3, s3, s4⟩ := hs
          refine lv_iinc (v := nI (p + j + 1)) (lv' := [(1, .int (nI (p + j + 1))), (0, .ref h)]) hx hb dM_keep_62 hl (k := 1) rfl (nI_1 (p + j)) (by decide) rfl (fun ls hl => ?_)
          refine lv_goto (tgt := 44) hx hb dM_keep_65 (by decide) ?_
          exact ih (j + 1) I3 F3 H locs ls (by omega) (by omega) (by rw [slice_succ]; exact hcu3) (fun k a b => (s3 k b).trans (gI k a b)) (s4.trans gF) hw (lv_sub hl [1, 0] rfl)
    refine lv_aload_n hx hb dM_keep_0 rfl (lv_at hl 0 rfl) ?_
    refine lv_aload_n hx hb dM_keep_1 rfl (lv_at hl 0 rfl) ?_
    refine gM17 S hw dM_keep_2 ?_
    refine kz_top (y := 0) k17 ?_
    refine lv_aload_n hx hb dM_keep_5 rfl (lv_at hl 0 rfl) ?_
    refine gM17 S hw dM_keep_6 ?_
    refine kz_top (y := 0) k17 ?_
    refine lv_iconst (v := 1) hx hb dM_keep_9 (by decide) ?_
    refine lv_icmp_ne (tgt := 20) hx hb dM_keep_10 (by decide) (fun c10 => ?_) (fun c10 => absurd c10 (by decide))
    refine lv_iconst (v := 0) hx hb dM_keep_20 (by decide) ?_
    refine kcMv (rest := []) S kM_157 rfl (tM_add l I F ts e p L hrp hc h11 h15 h16 hL 0 0) hw hA ⟨Nat.le_of_ble_eq_true rfl, Nat.le_of_ble_eq_true rfl⟩ rfl rfl ⟨Nat.zero_le _, Nat.zero_le _⟩ rfl hl.1 (Nat.le_of_ble_eq_true rfl) dM_keep_21 (fun I2 F2 H locs ha hw => ?_)
    obtain ⟨rfl, hcu, hF2⟩ := ha
    refine lv_aload_n hx hb dM_keep_24 rfl (lv_at hl 0 rfl) ?_
    refine gM17 S hw dM_keep_25 ?_
    refine kz_top (y := 0) k17 ?_
    refine lv_if_eq (tgt := 39) hx hb dM_keep_28 (by decide) (fun c28 => ?_) (fun c28 => absurd c28 (by decide))
    refine lv_aload_n hx hb dM_keep_39 rfl (lv_at hl 0 rfl) ?_
    refine gM15 S hw dM_keep_40 ?_
    refine kz_top (y := nI p) h15 ?_
    refine lv_istore_n (lv' := [(1, .int (nI p)), (0, .ref h)]) hx hb dM_keep_43 rfl hl (by decide) rfl (fun ls hl => ?_)
    exact loop44 (qb - p + 1) 0 _ F2 H locs ls (by omega) (by omega) hcu (fun k a b => pk_un a) hF2 hw (lv_sub hl [1, 0] rfl)
  · skip
    have kA : qk = 1 := kA
    have kB : qt = [] := kB
    subst kA
    subst kB
    have k17 : I 17 = 1 := h17
    have k18 : I 18 = qv := h18 rfl
    refine lv_aload_n hx hb dM_keep_0 rfl (lv_at hl 0 rfl) ?_
    refine lv_aload_n hx hb dM_keep_1 rfl (lv_at hl 0 rfl) ?_
    refine gM17 S hw dM_keep_2 ?_
    refine kz_top (y := 1) k17 ?_
    refine lv_aload_n hx hb dM_keep_5 rfl (lv_at hl 0 rfl) ?_
    refine gM17 S hw dM_keep_6 ?_
    refine kz_top (y := 1) k17 ?_
    refine lv_iconst (v := 1) hx hb dM_keep_9 (by decide) ?_
    refine lv_icmp_ne (tgt := 20) hx hb dM_keep_10 (by decide) (fun c10 => absurd c10 (by decide)) (fun c10 => ?_)
    refine lv_aload_n hx hb dM_keep_13 rfl (lv_at hl 0 rfl) ?_
    refine gM18 S hw dM_keep_14 ?_
    refine kz_top (y := qv) k18 ?_
    refine lv_goto (tgt := 21) hx hb dM_keep_17 (by decide) ?_
    refine kcMv (rest := []) S kM_157 rfl (tM_add l I F ts e p L hrp hc h11 h15 h16 hL 1 qv) hw hA ⟨Nat.le_of_ble_eq_true rfl, Nat.le_of_ble_eq_true rfl⟩ rfl rfl ⟨Nat.zero_le _, Nat.zero_le _⟩ rfl hl.1 (Nat.le_of_ble_eq_true rfl) dM_keep_21 (fun I2 F2 H locs ha hw => ?_)
    obtain ⟨rfl, hcu, hF2⟩ := ha
    refine lv_aload_n hx hb dM_keep_24 rfl (lv_at hl 0 rfl) ?_
    refine gM17 S hw dM_keep_25 ?_
    refine kz_top (y := 1) k17 ?_
    refine lv_if_eq (tgt := 39) hx hb dM_keep_28 (by decide) (fun c28 => absurd c28 (by decide)) (fun c28 => ?_)
    refine lv_aload_n hx hb dM_keep_31 rfl (lv_at hl 0 rfl) ?_
    refine gM17 S hw dM_keep_32 ?_
    refine kz_top (y := 1) k17 ?_
    refine lv_iconst (v := 3) hx hb dM_keep_35 (by decide) ?_
    refine lv_icmp_ne (tgt := 71) hx hb dM_keep_36 (by decide) (fun c36 => ?_) (fun c36 => absurd c36 (by decide))
    refine lv_aload_n hx hb dM_keep_71 rfl (lv_at hl 0 rfl) ?_
    refine gM17 S hw dM_keep_72 ?_
    refine kz_top (y := 1) k17 ?_
    refine lv_iconst (v := 2) hx hb dM_keep_75 (by decide) ?_
    refine lv_icmp_ne (tgt := 116) hx hb dM_keep_76 (by decide) (fun c76 => ?_) (fun c76 => absurd c76 (by decide))
    refine lv_aload_n hx hb dM_keep_116 rfl (lv_at hl 0 rfl) ?_
    refine gM17 S hw dM_keep_117 ?_
    refine kz_top (y := 1) k17 ?_
    refine lv_if_ne (tgt := 150) hx hb dM_keep_120 (by decide) (fun c120 => ?_) (fun c120 => absurd c120 (by decide))
    refine lv_aload_n hx hb dM_keep_150 rfl (lv_at hl 0 rfl) ?_
    refine kcMv (rest := []) S kM_163 rfl (tM_understand l (upd I 3 (nI (ts.length + 1))) F2 ts _ e hcu hok o4 he) hw hA ⟨Nat.le_of_ble_eq_true rfl, Nat.le_of_ble_eq_true rfl⟩ rfl rfl ⟨Nat.zero_le _, Nat.zero_le _⟩ rfl hl.1 (Nat.le_of_ble_eq_true rfl) dM_keep_151 (fun I9 F9 H locs hu hw => ?_)
    exact MM.vret S hr hlk hw dM_keep_154 ⟨rfl, kpP.of hu (fun k a b => pk_un a) hF2⟩
  · skip
    have kA : qk = 2 := kA
    have kB : qv = 0 := kB
    have hC : qt = (sSc T n (n - p) (p + 1)).1 := kC
    have hD : qb = (sSc T n (n - p) (p + 1)).2 + 1 := kD
    subst kA
    subst kB
    have k17 : I 17 = 2 := h17
    have loop86 : ∀ (fu k mm : Nat) (dn : List Int32) (I1 : Nat → Int32) (F1 : Nat → Nat → Int32) (H : Heap) (locs : List Loc) (ls : Array Slot), p + 1 ≤ k → k ≤ n → n + 1 ≤ k + mm → n + 1 ≤ k + fu → qt = dn ++ (sSc T n mm k).1 → (sSc T n (n - p) (p + 1)).2 = (sSc T n mm k).2 → curM ts (2, p, L, 0, dn) e I1 F1 → (∀ k, k ≠ 3 → k ≠ 11 → I1 k = I k) → F1 1 = F 1 → sM z D cA h a (AM h a s.heap.size) s H locs I1 F1 → lv_has ls 2 [(0, .ref h), (1, .int (nI k))] → W pg l en ({ frames := 8, cells := 0, slots := 0, locals := 176 }) s m ([.ref h] : List Value).toArray below meth c H locs 0 0 (MQ below (QM z D cA h a s.heap.size (vR (fun I' F' => kpP ts e p L (2, 0, qb, qt) I F I' F'))) ([.ref h] : List Value).toArray s 0 0 (AM h a s.heap.size)) (F0 m 86 ls []) := by
      intro fu
      induction fu with
      | zero => intro k mm dn I1 F1 H locs ls hk1 hk2 hm hf hLs hE hcu gI gF hw hl; omega
      | succ fu ih =>
        intro k mm dn I1 F1 H locs ls hk1 hk2 hm hf hLs hE hcu gI gF hw hl
        obtain ⟨m1, rfl⟩ : ∃ m1, mm = m1 + 1 := ⟨mm - 1, by omega⟩
        have hT1 : tpM T n I1 F1 := hT.of (gI 2 (by decide) (by decide)) gF
        have g19 : I1 19 = nI qb := (gI 19 (by decide) (by decide)).trans h19
        have g17 : I1 17 = 2 := (gI 17 (by decide) (by decide)).trans k17
        have hsl := sSc_len T n (m1 + 1) k
        refine lv_iload_n hx hb dM_keep_86 rfl (lv_at hl 1 rfl) ?_
        refine lv_aload_n hx hb dM_keep_87 rfl (lv_at hl 0 rfl) ?_
        refine gM19 S hw dM_keep_88 ?_
        refine kz_top (y := nI qb) g19 ?_
        refine lv_iconst (v := 1) hx hb dM_keep_91 (by decide) ?_
        refine lv_isub hx hb dM_keep_92 ?_
        refine kz_top (y := nI (sSc T n (n - p) (p + 1)).2) (by rw [hD]; exact nI_pred _) ?_
        refine lv_icmp_ge (tgt := 116) hx hb dM_keep_93 (by decide) (fun c93 => ?_) (fun c93 => ?_)
        · skip
          have hke := (nI_leI (by omega) (by omega)).mp c93
          have hnil : (sSc T n (m1 + 1) k).1 = [] := List.length_eq_zero_iff.mp (by omega)
          rw [hnil, List.append_nil] at hLs
          rw [← hLs] at hcu
          refine lv_aload_n hx hb dM_keep_116 rfl (lv_at hl 0 rfl) ?_
          refine gM17 S hw dM_keep_117 ?_
          refine kz_top (y := 2) g17 ?_
          refine lv_if_ne (tgt := 150) hx hb dM_keep_120 (by decide) (fun c120 => ?_) (fun c120 => absurd c120 (by decide))
          refine lv_aload_n hx hb dM_keep_150 rfl (lv_at hl 0 rfl) ?_
          refine kcMv (rest := []) S kM_163 rfl (tM_understand l I1 F1 ts _ e hcu hok o4 he) hw hA ⟨Nat.le_of_ble_eq_true rfl, Nat.le_of_ble_eq_true rfl⟩ rfl rfl ⟨Nat.zero_le _, Nat.zero_le _⟩ rfl hl.1 (Nat.le_of_ble_eq_true rfl) dM_keep_151 (fun I9 F9 H locs hu hw => ?_)
          exact MM.vret S hr hlk hw dM_keep_154 ⟨rfl, kpP.of hu gI gF⟩
        · skip
          have hlt : k < (sSc T n (n - p) (p + 1)).2 := Nat.lt_of_not_le (fun z => c93 (nI_le z (by omega)))
          have h34 : ¬ seeT T n k = 34 := fun z => by rw [hE, sSc_q z] at hlt; exact absurd hlt (Nat.lt_irrefl _)
          have hmn : ¬ meanT T n k 34 = -1 := fun z => by rw [hE, sSc_b h34 z] at hlt; exact absurd hlt (Nat.lt_irrefl _)
          have hgo := sSc_go (m := m1) h34 hmn
          have hmi := mean_in hmn
          have hdl : dn.length + 1 ≤ qt.length := by rw [hLs, hgo]; simp
          refine lv_aload_n hx hb dM_keep_96 rfl (lv_at hl 0 rfl) ?_
          refine lv_aload_n hx hb dM_keep_97 rfl (lv_at hl 0 rfl) ?_
          refine lv_iload_n hx hb dM_keep_98 rfl (lv_at hl 1 rfl) ?_
          refine lv_bipush (v := 34) hx hb dM_keep_99 (by decide) ?_
          refine kcMi (rest := [.ref h]) S kM_134 rfl (tM_meaning l I1 F1 T n hT1 k (by omega) 34) hw hA ⟨Nat.le_of_ble_eq_true rfl, Nat.le_of_ble_eq_true rfl⟩ rfl rfl ⟨Nat.zero_le _, Nat.zero_le _⟩ rfl hl.1 (Nat.le_of_ble_eq_true rfl) dM_keep_101 (fun r I' F' H locs hq' hw => ?_)
          obtain ⟨hr1, hr2, hr3⟩ := hq'
          rw [hr2, hr3] at hw
          subst hr1
          refine kcMv (rest := []) S kM_160 rfl (tM_say l I1 F1 ts _ e hcu (by show e + dn.length < 2000; omega) (meanT T n k 34)) hw hA ⟨Nat.le_of_ble_eq_true rfl, Nat.le_of_ble_eq_true rfl⟩ rfl rfl ⟨Nat.zero_le _, Nat.zero_le _⟩ rfl hl.1 (Nat.le_of_ble_eq_true rfl) dM_keep_104 (fun I3 F3 H locs hs hw => ?_)
          obtain ⟨hcu3, s3, s4⟩ := hs
          have hT3 : tpM T n I3 F3 := hT1.of (s3 2 (by decide)) s4
          refine lv_aload_n hx hb dM_keep_107 rfl (lv_at hl 0 rfl) ?_
          refine lv_iload_n hx hb dM_keep_108 rfl (lv_at hl 1 rfl) ?_
          refine kcMi (rest := []) S kM_138 rfl (tM_next l I3 F3 T n hT3 k (by omega)) hw hA ⟨Nat.le_of_ble_eq_true rfl, Nat.le_of_ble_eq_true rfl⟩ rfl rfl ⟨Nat.zero_le _, Nat.zero_le _⟩ rfl hl.1 (Nat.le_of_ble_eq_true rfl) dM_keep_109 (fun r I' F' H locs hq' hw => ?_)
          obtain ⟨hr1, hr2, hr3⟩ := hq'
          rw [hr2, hr3] at hw
          subst hr1
          refine lv_istore_n (lv' := [(1, .int (nI (nextT T n k))), (0, .ref h)]) hx hb dM_keep_112 rfl hl (by decide) rfl (fun ls hl => ?_)
          refine lv_goto (tgt := 86) hx hb dM_keep_113 (by decide) ?_
          exact ih (nextT T n k) m1 (dn ++ [meanT T n k 34]) I3 F3 H locs ls (by omega) hmi.2.1 (by omega) (by omega) (by rw [hLs, hgo, List.append_assoc]; rfl) (by rw [hE, hgo]) hcu3 (fun k a b => (s3 k b).trans (gI k a b)) (s4.trans gF) hw (lv_sub hl [1, 0] rfl)
    refine lv_aload_n hx hb dM_keep_0 rfl (lv_at hl 0 rfl) ?_
    refine lv_aload_n hx hb dM_keep_1 rfl (lv_at hl 0 rfl) ?_
    refine gM17 S hw dM_keep_2 ?_
    refine kz_top (y := 2) k17 ?_
    refine lv_aload_n hx hb dM_keep_5 rfl (lv_at hl 0 rfl) ?_
    refine gM17 S hw dM_keep_6 ?_
    refine kz_top (y := 2) k17 ?_
    refine lv_iconst (v := 1) hx hb dM_keep_9 (by decide) ?_
    refine lv_icmp_ne (tgt := 20) hx hb dM_keep_10 (by decide) (fun c10 => ?_) (fun c10 => absurd c10 (by decide))
    refine lv_iconst (v := 0) hx hb dM_keep_20 (by decide) ?_
    refine kcMv (rest := []) S kM_157 rfl (tM_add l I F ts e p L hrp hc h11 h15 h16 hL 2 0) hw hA ⟨Nat.le_of_ble_eq_true rfl, Nat.le_of_ble_eq_true rfl⟩ rfl rfl ⟨Nat.zero_le _, Nat.zero_le _⟩ rfl hl.1 (Nat.le_of_ble_eq_true rfl) dM_keep_21 (fun I2 F2 H locs ha hw => ?_)
    obtain ⟨rfl, hcu, hF2⟩ := ha
    refine lv_aload_n hx hb dM_keep_24 rfl (lv_at hl 0 rfl) ?_
    refine gM17 S hw dM_keep_25 ?_
    refine kz_top (y := 2) k17 ?_
    refine lv_if_eq (tgt := 39) hx hb dM_keep_28 (by decide) (fun c28 => absurd c28 (by decide)) (fun c28 => ?_)
    refine lv_aload_n hx hb dM_keep_31 rfl (lv_at hl 0 rfl) ?_
    refine gM17 S hw dM_keep_32 ?_
    refine kz_top (y := 2) k17 ?_
    refine lv_iconst (v := 3) hx hb dM_keep_35 (by decide) ?_
    refine lv_icmp_ne (tgt := 71) hx hb dM_keep_36 (by decide) (fun c36 => ?_) (fun c36 => absurd c36 (by decide))
    refine lv_aload_n hx hb dM_keep_71 rfl (lv_at hl 0 rfl) ?_
    refine gM17 S hw dM_keep_72 ?_
    refine kz_top (y := 2) k17 ?_
    refine lv_iconst (v := 2) hx hb dM_keep_75 (by decide) ?_
    refine lv_icmp_ne (tgt := 116) hx hb dM_keep_76 (by decide) (fun c76 => absurd c76 (by decide)) (fun c76 => ?_)
    refine lv_aload_n hx hb dM_keep_79 rfl (lv_at hl 0 rfl) ?_
    refine gM15 S hw dM_keep_80 ?_
    refine kz_top (y := nI p) h15 ?_
    refine lv_iconst (v := 1) hx hb dM_keep_83 (by decide) ?_
    refine lv_iadd hx hb dM_keep_84 ?_
    refine kz_top (y := nI (p + 1)) (nI_add p 1) ?_
    refine lv_istore_n (lv' := [(1, .int (nI (p + 1))), (0, .ref h)]) hx hb dM_keep_85 rfl hl (by decide) rfl (fun ls hl => ?_)
    exact loop86 (n + 1) (p + 1) (n - p) [] _ F2 H locs ls (Nat.le_refl _) (by omega) (by omega) (by omega) hC rfl hcu (fun k a b => pk_un a) hF2 hw (lv_sub hl [1, 0] rfl)
  · skip
    have kA : qk = 3 := kA
    have hqv : qv = 0 := kB
    have hqt : qt = sliceT T p (qb - p) := kC
    subst kA
    have k17 : I 17 = 3 := h17
    subst hqv
    have loop44 : ∀ (fu j : Nat) (I1 : Nat → Int32) (F1 : Nat → Nat → Int32) (H : Heap) (locs : List Loc) (ls : Array Slot), p + j ≤ qb → qb + 1 ≤ p + j + fu → curM ts (3, p, L, 0, sliceT T p j) e I1 F1 → (∀ k, k ≠ 3 → k ≠ 11 → I1 k = I k) → F1 1 = F 1 → sM z D cA h a (AM h a s.heap.size) s H locs I1 F1 → lv_has ls 2 [(0, .ref h), (1, .int (nI (p + j)))] → W pg l en ({ frames := 8, cells := 0, slots := 0, locals := 176 }) s m ([.ref h] : List Value).toArray below meth c H locs 0 0 (MQ below (QM z D cA h a s.heap.size (vR (fun I' F' => kpP ts e p L (3, 0, qb, qt) I F I' F'))) ([.ref h] : List Value).toArray s 0 0 (AM h a s.heap.size)) (F0 m 44 ls []) := by
      intro fu
      induction fu with
      | zero => intro j I1 F1 H locs ls hj hf hcu gI gF hw hl; omega
      | succ fu ih =>
        intro j I1 F1 H locs ls hj hf hcu gI gF hw hl
        have g19 : I1 19 = nI qb := (gI 19 (by decide) (by decide)).trans h19
        have g17 : I1 17 = 3 := (gI 17 (by decide) (by decide)).trans k17
        refine lv_iload_n hx hb dM_keep_44 rfl (lv_at hl 1 rfl) ?_
        refine lv_aload_n hx hb dM_keep_45 rfl (lv_at hl 0 rfl) ?_
        refine gM19 S hw dM_keep_46 ?_
        refine kz_top (y := nI qb) g19 ?_
        refine lv_icmp_ge (tgt := 68) hx hb dM_keep_49 (by decide) (fun c49 => ?_) (fun c49 => ?_)
        · skip
          have hje : p + j = qb := Nat.le_antisymm hj ((nI_leI (by omega) (by omega)).mp c49)
          have hqt2 : sliceT T p j = qt := by rw [hqt]; congr 1; omega
          rw [hqt2] at hcu
          refine lv_goto (tgt := 116) hx hb dM_keep_68 (by decide) ?_
          refine lv_aload_n hx hb dM_keep_116 rfl (lv_at hl 0 rfl) ?_
          refine gM17 S hw dM_keep_117 ?_
          refine kz_top (y := 3) g17 ?_
          refine lv_if_ne (tgt := 150) hx hb dM_keep_120 (by decide) (fun c120 => ?_) (fun c120 => absurd c120 (by decide))
          refine lv_aload_n hx hb dM_keep_150 rfl (lv_at hl 0 rfl) ?_
          refine kcMv (rest := []) S kM_163 rfl (tM_understand l I1 F1 ts _ e hcu hok o4 he) hw hA ⟨Nat.le_of_ble_eq_true rfl, Nat.le_of_ble_eq_true rfl⟩ rfl rfl ⟨Nat.zero_le _, Nat.zero_le _⟩ rfl hl.1 (Nat.le_of_ble_eq_true rfl) dM_keep_151 (fun I9 F9 H locs hu hw => ?_)
          exact MM.vret S hr hlk hw dM_keep_154 ⟨rfl, kpP.of hu gI gF⟩
        · skip
          refine lv_aload_n hx hb dM_keep_52 rfl (lv_at hl 0 rfl) ?_
          refine lv_aload_n hx hb dM_keep_53 rfl (lv_at hl 0 rfl) ?_
          refine gM1 S hw dM_keep_54 ?_
          refine lv_iload_n hx hb dM_keep_57 rfl (lv_at hl 1 rfl) ?_
          refine ldM1 S hw (vp_in_nI (by have hlt : p + j < qb := Nat.lt_of_not_le (fun z => c49 (nI_le z (by omega))); omega) (by decide)) dM_keep_58 ?_
          have hlt : p + j < qb := Nat.lt_of_not_le (fun z => c49 (nI_le z (by omega)))
          refine kz_top (y := T (p + j)) (by rw [cl_ _ (by omega), gF]; exact hT.2.2.1 _ (by omega)) ?_
          refine kcMv (rest := []) S kM_160 rfl (tM_say l I1 F1 ts _ e hcu (by show e + (sliceT T p j).length < 2000; rw [slice_len]; omega) (T (p + j))) hw hA ⟨Nat.le_of_ble_eq_true rfl, Nat.le_of_ble_eq_true rfl⟩ rfl rfl ⟨Nat.zero_le _, Nat.zero_le _⟩ rfl hl.1 (Nat.le_of_ble_eq_true rfl) dM_keep_59 (fun I3 F3 H locs hs hw => ?_)
          obtain ⟨hcu3, s3, s4⟩ := hs
          refine lv_iinc (v := nI (p + j + 1)) (lv' := [(1, .int (nI (p + j + 1))), (0, .ref h)]) hx hb dM_keep_62 hl (k := 1) rfl (nI_1 (p + j)) (by decide) rfl (fun ls hl => ?_)
          refine lv_goto (tgt := 44) hx hb dM_keep_65 (by decide) ?_
          exact ih (j + 1) I3 F3 H locs ls (by omega) (by omega) (by rw [slice_succ]; exact hcu3) (fun k a b => (s3 k b).trans (gI k a b)) (s4.trans gF) hw (lv_sub hl [1, 0] rfl)
    refine lv_aload_n hx hb dM_keep_0 rfl (lv_at hl 0 rfl) ?_
    refine lv_aload_n hx hb dM_keep_1 rfl (lv_at hl 0 rfl) ?_
    refine gM17 S hw dM_keep_2 ?_
    refine kz_top (y := 3) k17 ?_
    refine lv_aload_n hx hb dM_keep_5 rfl (lv_at hl 0 rfl) ?_
    refine gM17 S hw dM_keep_6 ?_
    refine kz_top (y := 3) k17 ?_
    refine lv_iconst (v := 1) hx hb dM_keep_9 (by decide) ?_
    refine lv_icmp_ne (tgt := 20) hx hb dM_keep_10 (by decide) (fun c10 => ?_) (fun c10 => absurd c10 (by decide))
    refine lv_iconst (v := 0) hx hb dM_keep_20 (by decide) ?_
    refine kcMv (rest := []) S kM_157 rfl (tM_add l I F ts e p L hrp hc h11 h15 h16 hL 3 0) hw hA ⟨Nat.le_of_ble_eq_true rfl, Nat.le_of_ble_eq_true rfl⟩ rfl rfl ⟨Nat.zero_le _, Nat.zero_le _⟩ rfl hl.1 (Nat.le_of_ble_eq_true rfl) dM_keep_21 (fun I2 F2 H locs ha hw => ?_)
    obtain ⟨rfl, hcu, hF2⟩ := ha
    refine lv_aload_n hx hb dM_keep_24 rfl (lv_at hl 0 rfl) ?_
    refine gM17 S hw dM_keep_25 ?_
    refine kz_top (y := 3) k17 ?_
    refine lv_if_eq (tgt := 39) hx hb dM_keep_28 (by decide) (fun c28 => absurd c28 (by decide)) (fun c28 => ?_)
    refine lv_aload_n hx hb dM_keep_31 rfl (lv_at hl 0 rfl) ?_
    refine gM17 S hw dM_keep_32 ?_
    refine kz_top (y := 3) k17 ?_
    refine lv_iconst (v := 3) hx hb dM_keep_35 (by decide) ?_
    refine lv_icmp_ne (tgt := 71) hx hb dM_keep_36 (by decide) (fun c36 => absurd c36 (by decide)) (fun c36 => ?_)
    refine lv_aload_n hx hb dM_keep_39 rfl (lv_at hl 0 rfl) ?_
    refine gM15 S hw dM_keep_40 ?_
    refine kz_top (y := nI p) h15 ?_
    refine lv_istore_n (lv' := [(1, .int (nI p)), (0, .ref h)]) hx hb dM_keep_43 rfl hl (by decide) rfl (fun ls hl => ?_)
    exact loop44 (qb - p + 1) 0 _ F2 H locs ls (by omega) (by omega) hcu (fun k a b => pk_un a) hF2 hw (lv_sub hl [1, 0] rfl)
