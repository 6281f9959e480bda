theorem skp_nl {T : Nat → Int32} {n p L : Nat} {r : Bool} (h : p < n) (h1 : T p = 10) : skp T n (n - p) r p L = skp T n (n - (p + 1)) false (p + 1) (L + 1) := by
  rw [show n - p = (n - (p + 1)) + 1 by omega, skp, if_pos h1]
theorem skp_rm {T : Nat → Int32} {n p L : Nat} {r : Bool} (h : p < n) (h1 : ¬ T p = 10) (h2 : T p = 47) (h3 : seeT T n (p + 1) = 47) : skp T n (n - p) r p L = skp T n (n - (p + 1)) true (p + 1) L := by
  rw [show n - p = (n - (p + 1)) + 1 by omega, skp, if_neg h1, if_pos ⟨h2, h3⟩]
theorem skp_go {T : Nat → Int32} {n p L : Nat} {r : Bool} (h : p < n) (h1 : ¬ T p = 10) (h2 : ¬ (T p = 47 ∧ seeT T n (p + 1) = 47)) (h3 : r = true ∨ T p = 9 ∨ T p = 13 ∨ T p = 32) : skp T n (n - p) r p L = skp T n (n - (p + 1)) r (p + 1) L := by
  rw [show n - p = (n - (p + 1)) + 1 by omega, skp, if_neg h1, if_neg h2, if_neg]
  rintro ⟨e1, e2, e3, e4⟩
  rcases h3 with h | h | h | h
  · rw [e1] at h; cases h
  · exact e2 h
  · exact e3 h
  · exact e4 h
theorem skp_st {T : Nat → Int32} {n p L : Nat} (h : p < n) (h1 : ¬ T p = 10) (h2 : ¬ (T p = 47 ∧ seeT T n (p + 1) = 47)) (h3 : ¬ T p = 9) (h4 : ¬ T p = 13) (h5 : ¬ T p = 32) : skp T n (n - p) false p L = (p, L) := by
  rw [show n - p = (n - (p + 1)) + 1 by omega, skp, if_neg h1, if_neg h2, if_pos ⟨rfl, h3, h4, h5⟩]
theorem skp_end {T : Nat → Int32} {n p L : Nat} {r : Bool} (h : n ≤ p) : skp T n (n - p) r p L = (p, L) := by
  rw [show n - p = 0 by omega, skp]
set_option maxHeartbeats 4000000 in
set_option maxRecDepth 100000 in
theorem tX_takeText (l : Launch) (I : Nat → Int32) (F : Nat → Nat → Int32) (T : Nat → Int32) (n : Nat) (hT : tpX T n I F) (p e size : Nat) (h11 : I 11 = nI p) (h10 : I 10 = nI e) (hp : p + size ≤ n) (he : e + size ≤ 1000) : MX l yX_takeText cX_takeText 3 none ({ frames := 2, cells := 0, slots := 0, locals := 42 }) [.int (nI size)] I F (vR (fun I' F' => I' 10 = nI (e + size) ∧ I' 11 = nI (p + size) ∧ (∀ k, k ≠ 10 → k ≠ 11 → I' k = I k) ∧ (∀ k, k ≠ 9 → F' k = F k) ∧ (∀ j, j < size → F' 9 (e + j) = T (p + j)) ∧ ∀ j, j < e → F' 9 j = F 9 j)) := by
  refine MX.mk (by decide) (fun _ => Nat.le_of_ble_eq_true rfl) ?_
  intro z D cA h a pg en s m below meth c ls S hr hlk hA hw hl
  have hx := S.1
  have hb := S.2.1
  have hl : lv_has ls 3 [(0, .ref h), (1, .int (nI size))] := hl
  have hn := hT.2.1
  have loop2 : ∀ (fu : Nat) (j : Nat) (I1 : Nat → Int32) (F1 : Nat → Nat → Int32) (H : Heap) (locs : List Loc) (ls : Array Slot), j ≤ size → size + 1 ≤ j + fu → I1 10 = nI (e + j) → I1 11 = nI (p + j) → (∀ k, k ≠ 10 → k ≠ 11 → I1 k = I k) → (∀ k, k ≠ 9 → F1 k = F k) → (∀ i, i < j → F1 9 (e + i) = T (p + i)) → (∀ i, i < e → F1 9 i = F 9 i) → sX z D cA h a (AX h a s.heap.size) s H locs I1 F1 → lv_has ls 3 [(0, .ref h), (1, .int (nI size)), (2, .int (nI j))] → W pg l en ({ frames := 2, cells := 0, slots := 0, locals := 42 }) s m ([.ref h, .int (nI size)] : List Value).toArray below meth c H locs 0 0 (MQ below (QX z D cA h a s.heap.size (vR (fun I' F' => I' 10 = nI (e + size) ∧ I' 11 = nI (p + size) ∧ (∀ k, k ≠ 10 → k ≠ 11 → I' k = I k) ∧ (∀ k, k ≠ 9 → F' k = F k) ∧ (∀ j, j < size → F' 9 (e + j) = T (p + j)) ∧ ∀ j, j < e → F' 9 j = F 9 j))) ([.ref h, .int (nI size)] : List Value).toArray s 0 0 (AX h a s.heap.size)) (F0 m 2 ls []) := by
    intro fu
    induction fu with
    | zero => intro j  I1  F1  H locs ls hj hf g10 g11 gI gF gA gB hw hl; omega
    | succ fu ih =>
      intro j  I1  F1  H locs ls hj hf g10 g11 gI gF gA gB hw hl
      have hT1 : tpX T n I1 F1 := hT.of (gI 1 (by decide) (by decide)) (gF 0 (by decide))
      refine lv_iload_n hx hb dX_takeText_2 rfl (lv_at hl 2 rfl) ?_
      refine lv_iload_n hx hb dX_takeText_3 rfl (lv_at hl 1 rfl) ?_
      refine lv_icmp_ge (tgt := 35) hx hb dX_takeText_4 (by decide) (fun c4 => ?_) (fun c4 => ?_)
      · skip
        exact MX.vret S hr hlk hw dX_takeText_35 (by
          have e1 : j = size := Nat.le_antisymm hj ((nI_leI (by omega) (by omega)).mp c4)
          subst e1
          exact ⟨rfl, g10, g11, gI, gF, gA, gB⟩)
      · skip
        refine lv_aload_n hx hb dX_takeText_7 rfl (lv_at hl 0 rfl) ?_
        refine lv_aload_n hx hb dX_takeText_8 rfl (lv_at hl 0 rfl) ?_
        refine lv_aload_n hx hb dX_takeText_9 rfl (lv_at hl 0 rfl) ?_
        refine gX11 S hw dX_takeText_10 ?_
        refine kz_top (y := nI (p + j)) g11 ?_
        refine kcXi (rest := [.ref h]) S kX_81 rfl (tX_tapeByte l _ _ T n hT1 (p + j) (by omega)) hw hA ⟨Nat.le_of_ble_eq_true rfl, Nat.le_of_ble_eq_true rfl⟩ rfl rfl ⟨Nat.zero_le _, Nat.zero_le _⟩ rfl hl.1 (Nat.le_of_ble_eq_true rfl) dX_takeText_13 (fun r I' F' H locs hq hw => ?_)
        obtain ⟨hr1, hr2, hr3⟩ := hq
        rw [hr2, hr3] at hw
        subst hr1
        have hlt : j < size := Nat.lt_of_not_le (fun q => c4 (nI_le q (by omega)))
        refine kcXv (rest := []) S kX_153 rfl (tX_appendText l _ _ (e + j) g10 (by omega) (seeT T n (p + j))) hw hA ⟨Nat.le_of_ble_eq_true rfl, Nat.le_of_ble_eq_true rfl⟩ rfl rfl ⟨Nat.zero_le _, Nat.zero_le _⟩ rfl hl.1 (Nat.le_of_ble_eq_true rfl) dX_takeText_16 (fun I' F' H locs hq hw => ?_)
        obtain ⟨rfl, rfl⟩ := hq
        refine lv_aload_n hx hb dX_takeText_19 rfl (lv_at hl 0 rfl) ?_
        refine lv_dup hx hb dX_takeText_20 rfl ?_
        refine gX11 S hw dX_takeText_21 ?_
        refine kz_top (y := nI (p + j)) g11 ?_
        refine lv_iconst (v := 1) hx hb dX_takeText_24 (by decide) ?_
        refine lv_iadd hx hb dX_takeText_25 ?_
        refine kz_top (y := nI (p + j + 1)) (nI_add (p + j) 1) ?_
        refine pX11 S hw dX_takeText_26 (fun H locs hw => ?_)
        refine lv_iinc (v := nI (j + 1)) (lv' := [(2, .int (nI (j + 1))), (0, .ref h), (1, .int (nI size))]) hx hb dX_takeText_29 hl (k := 2) rfl (nI_1 j) (by decide) rfl (fun ls hl => ?_)
        refine lv_goto (tgt := 2) hx hb dX_takeText_32 (by decide) ?_
        exact ih (j + 1) _ _ H locs ls (by omega) (by omega) rfl rfl (fun k h1 h2 => (pk_un h2).trans ((pk_un h1).trans (gI k h1 h2))) (fun k h1 => (va_up_ne _ _ h1).trans (gF k h1)) (fun i hi => by
          show upd (F1 9) (e + j) _ (e + i) = _
          by_cases q : i = j
          · subst q
            rw [pk_us]
            exact see_in (by omega)
          · rw [pk_un (by omega)]
            exact gA i (by omega)) (fun i hi => by
          show upd (F1 9) (e + j) _ i = _
          rw [pk_un (by omega)]
          exact gB i hi) hw (lv_sub hl [1, 2, 0] rfl)
  refine lv_iconst (v := 0) hx hb dX_takeText_0 (by decide) ?_
  refine lv_istore_n (lv' := [(2, .int 0), (0, .ref h), (1, .int (nI size))]) hx hb dX_takeText_1 rfl hl (by decide) rfl (fun ls hl => ?_)
  exact loop2 (size + 1) 0 I F s.heap [] ls (Nat.zero_le _) (by omega) h10 h11 (fun _ _ _ => rfl) (fun _ _ => rfl) (fun _ hi => absurd hi (Nat.not_lt_zero _)) (fun _ _ => rfl) hw (lv_sub hl [1, 2, 0] rfl)
set_option maxHeartbeats 4000000 in
set_option maxRecDepth 100000 in
theorem tX_skipGap (l : Launch) (I : Nat → Int32) (F : Nat → Nat → Int32) (T : Nat → Int32) (n : Nat) (hT : tpX T n I F) (p L : Nat) (h11 : I 11 = nI p) (h12 : I 12 = nI L) (hp : p ≤ n) : MX l yX_skipGap cX_skipGap 3 none ({ frames := 2, cells := 0, slots := 0, locals := 42 }) [] I F (vR (fun I' F' => I' 11 = nI (skp T n (n - p) false p L).1 ∧ I' 12 = nI (skp T n (n - p) false p L).2 ∧ (∀ k, k ≠ 11 → k ≠ 12 → I' k = I k) ∧ F' = F)) := by
  refine MX.mk (by decide) (fun _ => Nat.le_of_ble_eq_true rfl) ?_
  intro z D cA h a pg en s m below meth c ls S hr hlk hA hw hl
  have hx := S.1
  have hb := S.2.1
  have hl : lv_has ls 3 [(0, .ref h)] := hl
  have hn := hT.2.1
  have loop2 : ∀ (fu : Nat) (q M : Nat) (rm : Bool) (I1 : Nat → Int32) (H : Heap) (locs : List Loc) (ls : Array Slot), q ≤ n → n + 1 ≤ q + fu → I1 11 = nI q → I1 12 = nI M → (∀ k, k ≠ 11 → k ≠ 12 → I1 k = I k) → skp T n (n - q) rm q M = skp T n (n - p) false p L → sX z D cA h a (AX h a s.heap.size) s H locs I1 F → lv_has ls 3 [(0, .ref h), (1, .int (if rm = true then 1 else 0))] → W pg l en ({ frames := 2, cells := 0, slots := 0, locals := 42 }) s m ([.ref h] : List Value).toArray below meth c H locs 0 0 (MQ below (QX z D cA h a s.heap.size (vR (fun I' F' => I' 11 = nI (skp T n (n - p) false p L).1 ∧ I' 12 = nI (skp T n (n - p) false p L).2 ∧ (∀ k, k ≠ 11 → k ≠ 12 → I' k = I k) ∧ F' = F))) ([.ref h] : List Value).toArray s 0 0 (AX h a s.heap.size)) (F0 m 2 ls []) := by
    intro fu
    induction fu with
    | zero => intro q M  rm  I1  H locs ls hq0 hf g11 g12 gI hR hw hl; omega
    | succ fu ih =>
      intro q M  rm  I1  H locs ls hq0 hf g11 g12 gI hR hw hl
      cases rm with
      | false =>
        have hT1 : tpX T n I1 F := hT.of (gI 1 (by decide) (by decide)) rfl
        have hl : lv_has ls 3 [(0, .ref h), (1, .int 0)] := hl
        refine lv_aload_n hx hb dX_skipGap_2 rfl (lv_at hl 0 rfl) ?_
        refine gX11 S hw dX_skipGap_3 ?_
        refine kz_top (y := nI q) g11 ?_
        refine lv_aload_n hx hb dX_skipGap_6 rfl (lv_at hl 0 rfl) ?_
        refine gX1 S hw dX_skipGap_7 ?_
        refine kz_top (y := nI n) hT1.1 ?_
        refine lv_icmp_ge (tgt := 105) hx hb dX_skipGap_10 (by decide) (fun c10 => ?_) (fun c10 => ?_)
        · skip
          exact MX.vret S hr hlk hw dX_skipGap_105 ⟨rfl, by rw [← hR, skp_end ((nI_leI (by omega) (by omega)).mp c10)]; exact g11, by rw [← hR, skp_end ((nI_leI (by omega) (by omega)).mp c10)]; exact g12, gI, rfl⟩
        · skip
          refine lv_aload_n hx hb dX_skipGap_13 rfl (lv_at hl 0 rfl) ?_
          refine lv_aload_n hx hb dX_skipGap_14 rfl (lv_at hl 0 rfl) ?_
          refine gX11 S hw dX_skipGap_15 ?_
          refine kz_top (y := nI q) g11 ?_
          have hlt : q < n := Nat.lt_of_not_le (fun x => c10 (nI_le x (by omega)))
          refine kcXi (rest := []) S kX_81 rfl (tX_tapeByte l _ _ T n hT1 q (by omega)) hw hA ⟨Nat.le_of_ble_eq_true rfl, Nat.le_of_ble_eq_true rfl⟩ rfl rfl ⟨Nat.zero_le _, Nat.zero_le _⟩ rfl hl.1 (Nat.le_of_ble_eq_true rfl) dX_skipGap_18 (fun r I' F' H locs hq hw => ?_)
          obtain ⟨hr1, hr2, hr3⟩ := hq
          rw [hr2, hr3] at hw
          subst hr1
          refine kz_top (see_in hlt) ?_
          refine lv_istore_n (lv' := [(2, .int (T q)), (0, .ref h), (1, .int 0)]) hx hb dX_skipGap_21 rfl hl (by decide) rfl (fun ls hl => ?_)
          refine lv_iload_n hx hb dX_skipGap_22 rfl (lv_at hl 0 rfl) ?_
          refine lv_bipush (v := 10) hx hb dX_skipGap_23 (by decide) ?_
          refine lv_icmp_ne (tgt := 43) hx hb dX_skipGap_25 (by decide) (fun c25 => ?_) (fun c25 => ?_)
          · skip
            refine lv_iload_n hx hb dX_skipGap_43 rfl (lv_at hl 0 rfl) ?_
            refine lv_bipush (v := 47) hx hb dX_skipGap_44 (by decide) ?_
            refine lv_icmp_ne (tgt := 69) hx hb dX_skipGap_46 (by decide) (fun c46 => ?_) (fun c46 => ?_)
            · skip
              refine lv_iload_n hx hb dX_skipGap_69 rfl (lv_at hl 2 rfl) ?_
              refine lv_if_ne (tgt := 92) hx hb dX_skipGap_70 (by decide) (fun c70 => absurd c70 (by decide)) (fun c70 => ?_)
              refine lv_iload_n hx hb dX_skipGap_73 rfl (lv_at hl 0 rfl) ?_
              refine lv_bipush (v := 9) hx hb dX_skipGap_74 (by decide) ?_
              refine lv_icmp_eq (tgt := 92) hx hb dX_skipGap_76 (by decide) (fun c76 => ?_) (fun c76 => ?_)
              · skip
                refine lv_aload_n hx hb dX_skipGap_92 rfl (lv_at hl 1 rfl) ?_
                refine lv_dup hx hb dX_skipGap_93 rfl ?_
                refine gX11 S hw dX_skipGap_94 ?_
                refine kz_top (y := nI q) g11 ?_
                refine lv_iconst (v := 1) hx hb dX_skipGap_97 (by decide) ?_
                refine lv_iadd hx hb dX_skipGap_98 ?_
                refine kz_top (y := nI (q + 1)) (nI_add q 1) ?_
                refine pX11 S hw dX_skipGap_99 (fun H locs hw => ?_)
                refine lv_goto (tgt := 2) hx hb dX_skipGap_102 (by decide) ?_
                rw [skp_go hlt c25 (fun q => c46 q.1) (Or.inr (Or.inl c76))] at hR
                exact ih (q + 1) (M) false (upd I1 11 (nI (q + 1))) H locs ls (by omega) (by omega) rfl g12 (fun k h1 h2 => (pk_un h1).trans (gI k h1 h2)) hR hw (lv_sub hl [1, 2] rfl)
              · skip
                refine lv_iload_n hx hb dX_skipGap_79 rfl (lv_at hl 0 rfl) ?_
                refine lv_bipush (v := 13) hx hb dX_skipGap_80 (by decide) ?_
                refine lv_icmp_eq (tgt := 92) hx hb dX_skipGap_82 (by decide) (fun c82 => ?_) (fun c82 => ?_)
                · skip
                  refine lv_aload_n hx hb dX_skipGap_92 rfl (lv_at hl 1 rfl) ?_
                  refine lv_dup hx hb dX_skipGap_93 rfl ?_
                  refine gX11 S hw dX_skipGap_94 ?_
                  refine kz_top (y := nI q) g11 ?_
                  refine lv_iconst (v := 1) hx hb dX_skipGap_97 (by decide) ?_
                  refine lv_iadd hx hb dX_skipGap_98 ?_
                  refine kz_top (y := nI (q + 1)) (nI_add q 1) ?_
                  refine pX11 S hw dX_skipGap_99 (fun H locs hw => ?_)
                  refine lv_goto (tgt := 2) hx hb dX_skipGap_102 (by decide) ?_
                  rw [skp_go hlt c25 (fun q => c46 q.1) (Or.inr (Or.inr (Or.inl c82)))] at hR
                  exact ih (q + 1) (M) false (upd I1 11 (nI (q + 1))) H locs ls (by omega) (by omega) rfl g12 (fun k h1 h2 => (pk_un h1).trans (gI k h1 h2)) hR hw (lv_sub hl [1, 2] rfl)
                · skip
                  refine lv_iload_n hx hb dX_skipGap_85 rfl (lv_at hl 0 rfl) ?_
                  refine lv_bipush (v := 32) hx hb dX_skipGap_86 (by decide) ?_
                  refine lv_icmp_eq (tgt := 92) hx hb dX_skipGap_88 (by decide) (fun c88 => ?_) (fun c88 => ?_)
                  · skip
                    refine lv_aload_n hx hb dX_skipGap_92 rfl (lv_at hl 1 rfl) ?_
                    refine lv_dup hx hb dX_skipGap_93 rfl ?_
                    refine gX11 S hw dX_skipGap_94 ?_
                    refine kz_top (y := nI q) g11 ?_
                    refine lv_iconst (v := 1) hx hb dX_skipGap_97 (by decide) ?_
                    refine lv_iadd hx hb dX_skipGap_98 ?_
                    refine kz_top (y := nI (q + 1)) (nI_add q 1) ?_
                    refine pX11 S hw dX_skipGap_99 (fun H locs hw => ?_)
                    refine lv_goto (tgt := 2) hx hb dX_skipGap_102 (by decide) ?_
                    rw [skp_go hlt c25 (fun q => c46 q.1) (Or.inr (Or.inr (Or.inr c88)))] at hR
                    exact ih (q + 1) (M) false (upd I1 11 (nI (q + 1))) H locs ls (by omega) (by omega) rfl g12 (fun k h1 h2 => (pk_un h1).trans (gI k h1 h2)) hR hw (lv_sub hl [1, 2] rfl)
                  · skip
                    exact MX.vret S hr hlk hw dX_skipGap_91 ⟨rfl, by rw [← hR, skp_st hlt c25 (fun q => c46 q.1) c76 c82 c88]; exact g11, by rw [← hR, skp_st hlt c25 (fun q => c46 q.1) c76 c82 c88]; exact g12, gI, rfl⟩
            · skip
              refine lv_aload_n hx hb dX_skipGap_49 rfl (lv_at hl 1 rfl) ?_
              refine lv_aload_n hx hb dX_skipGap_50 rfl (lv_at hl 1 rfl) ?_
              refine gX11 S hw dX_skipGap_51 ?_
              refine kz_top (y := nI q) g11 ?_
              refine lv_iconst (v := 1) hx hb dX_skipGap_54 (by decide) ?_
              refine lv_iadd hx hb dX_skipGap_55 ?_
              refine kz_top (y := nI (q + 1)) (nI_add q 1) ?_
              refine kcXi (rest := []) S kX_81 rfl (tX_tapeByte l _ _ T n hT1 (q + 1) (by omega)) hw hA ⟨Nat.le_of_ble_eq_true rfl, Nat.le_of_ble_eq_true rfl⟩ rfl rfl ⟨Nat.zero_le _, Nat.zero_le _⟩ rfl hl.1 (Nat.le_of_ble_eq_true rfl) dX_skipGap_56 (fun r I' F' H locs hq hw => ?_)
              obtain ⟨hr1, hr2, hr3⟩ := hq
              rw [hr2, hr3] at hw
              subst hr1
              refine lv_bipush (v := 47) hx hb dX_skipGap_59 (by decide) ?_
              refine lv_icmp_ne (tgt := 69) hx hb dX_skipGap_61 (by decide) (fun c61 => ?_) (fun c61 => ?_)
              · skip
                refine lv_iload_n hx hb dX_skipGap_69 rfl (lv_at hl 2 rfl) ?_
                refine lv_if_ne (tgt := 92) hx hb dX_skipGap_70 (by decide) (fun c70 => absurd c70 (by decide)) (fun c70 => ?_)
                refine lv_iload_n hx hb dX_skipGap_73 rfl (lv_at hl 0 rfl) ?_
                refine lv_bipush (v := 9) hx hb dX_skipGap_74 (by decide) ?_
                refine lv_icmp_eq (tgt := 92) hx hb dX_skipGap_76 (by decide) (fun c76 => ?_) (fun c76 => ?_)
                · skip
                  refine lv_aload_n hx hb dX_skipGap_92 rfl (lv_at hl 1 rfl) ?_
                  refine lv_dup hx hb dX_skipGap_93 rfl ?_
                  refine gX11 S hw dX_skipGap_94 ?_
                  refine kz_top (y := nI q) g11 ?_
                  refine lv_iconst (v := 1) hx hb dX_skipGap_97 (by decide) ?_
                  refine lv_iadd hx hb dX_skipGap_98 ?_
                  refine kz_top (y := nI (q + 1)) (nI_add q 1) ?_
                  refine pX11 S hw dX_skipGap_99 (fun H locs hw => ?_)
                  refine lv_goto (tgt := 2) hx hb dX_skipGap_102 (by decide) ?_
                  rw [skp_go hlt c25 (fun q => c61 q.2) (Or.inr (Or.inl c76))] at hR
                  exact ih (q + 1) (M) false (upd I1 11 (nI (q + 1))) H locs ls (by omega) (by omega) rfl g12 (fun k h1 h2 => (pk_un h1).trans (gI k h1 h2)) hR hw (lv_sub hl [1, 2] rfl)
                · skip
                  refine lv_iload_n hx hb dX_skipGap_79 rfl (lv_at hl 0 rfl) ?_
                  refine lv_bipush (v := 13) hx hb dX_skipGap_80 (by decide) ?_
                  refine lv_icmp_eq (tgt := 92) hx hb dX_skipGap_82 (by decide) (fun c82 => ?_) (fun c82 => ?_)
                  · skip
                    refine lv_aload_n hx hb dX_skipGap_92 rfl (lv_at hl 1 rfl) ?_
                    refine lv_dup hx hb dX_skipGap_93 rfl ?_
                    refine gX11 S hw dX_skipGap_94 ?_
                    refine kz_top (y := nI q) g11 ?_
                    refine lv_iconst (v := 1) hx hb dX_skipGap_97 (by decide) ?_
                    refine lv_iadd hx hb dX_skipGap_98 ?_
                    refine kz_top (y := nI (q + 1)) (nI_add q 1) ?_
                    refine pX11 S hw dX_skipGap_99 (fun H locs hw => ?_)
                    refine lv_goto (tgt := 2) hx hb dX_skipGap_102 (by decide) ?_
                    rw [skp_go hlt c25 (fun q => c61 q.2) (Or.inr (Or.inr (Or.inl c82)))] at hR
                    exact ih (q + 1) (M) false (upd I1 11 (nI (q + 1))) H locs ls (by omega) (by omega) rfl g12 (fun k h1 h2 => (pk_un h1).trans (gI k h1 h2)) hR hw (lv_sub hl [1, 2] rfl)
                  · skip
                    refine lv_iload_n hx hb dX_skipGap_85 rfl (lv_at hl 0 rfl) ?_
                    refine lv_bipush (v := 32) hx hb dX_skipGap_86 (by decide) ?_
                    refine lv_icmp_eq (tgt := 92) hx hb dX_skipGap_88 (by decide) (fun c88 => ?_) (fun c88 => ?_)
                    · skip
                      refine lv_aload_n hx hb dX_skipGap_92 rfl (lv_at hl 1 rfl) ?_
                      refine lv_dup hx hb dX_skipGap_93 rfl ?_
                      refine gX11 S hw dX_skipGap_94 ?_
                      refine kz_top (y := nI q) g11 ?_
                      refine lv_iconst (v := 1) hx hb dX_skipGap_97 (by decide) ?_
                      refine lv_iadd hx hb dX_skipGap_98 ?_
                      refine kz_top (y := nI (q + 1)) (nI_add q 1) ?_
                      refine pX11 S hw dX_skipGap_99 (fun H locs hw => ?_)
                      refine lv_goto (tgt := 2) hx hb dX_skipGap_102 (by decide) ?_
                      rw [skp_go hlt c25 (fun q => c61 q.2) (Or.inr (Or.inr (Or.inr c88)))] at hR
                      exact ih (q + 1) (M) false (upd I1 11 (nI (q + 1))) H locs ls (by omega) (by omega) rfl g12 (fun k h1 h2 => (pk_un h1).trans (gI k h1 h2)) hR hw (lv_sub hl [1, 2] rfl)
                    · skip
                      exact MX.vret S hr hlk hw dX_skipGap_91 ⟨rfl, by rw [← hR, skp_st hlt c25 (fun q => c61 q.2) c76 c82 c88]; exact g11, by rw [← hR, skp_st hlt c25 (fun q => c61 q.2) c76 c82 c88]; exact g12, gI, rfl⟩
              · skip
                refine lv_iconst (v := 1) hx hb dX_skipGap_64 (by decide) ?_
                refine lv_istore_n (lv' := [(1, .int 1), (2, .int (T q)), (0, .ref h)]) hx hb dX_skipGap_65 rfl hl (by decide) rfl (fun ls hl => ?_)
                refine lv_goto (tgt := 92) hx hb dX_skipGap_66 (by decide) ?_
                refine lv_aload_n hx hb dX_skipGap_92 rfl (lv_at hl 2 rfl) ?_
                refine lv_dup hx hb dX_skipGap_93 rfl ?_
                refine gX11 S hw dX_skipGap_94 ?_
                refine kz_top (y := nI q) g11 ?_
                refine lv_iconst (v := 1) hx hb dX_skipGap_97 (by decide) ?_
                refine lv_iadd hx hb dX_skipGap_98 ?_
                refine kz_top (y := nI (q + 1)) (nI_add q 1) ?_
                refine pX11 S hw dX_skipGap_99 (fun H locs hw => ?_)
                refine lv_goto (tgt := 2) hx hb dX_skipGap_102 (by decide) ?_
                rw [skp_rm hlt c25 c46 c61] at hR
                exact ih (q + 1) (M) true (upd I1 11 (nI (q + 1))) H locs ls (by omega) (by omega) rfl g12 (fun k h1 h2 => (pk_un h1).trans (gI k h1 h2)) hR hw (lv_sub hl [2, 0] rfl)
          · skip
            refine lv_aload_n hx hb dX_skipGap_28 rfl (lv_at hl 1 rfl) ?_
            refine lv_dup hx hb dX_skipGap_29 rfl ?_
            refine gX12 S hw dX_skipGap_30 ?_
            refine kz_top (y := nI M) g12 ?_
            refine lv_iconst (v := 1) hx hb dX_skipGap_33 (by decide) ?_
            refine lv_iadd hx hb dX_skipGap_34 ?_
            refine kz_top (y := nI (M + 1)) (nI_add M 1) ?_
            refine pX12 S hw dX_skipGap_35 (fun H locs hw => ?_)
            refine lv_iconst (v := 0) hx hb dX_skipGap_38 (by decide) ?_
            refine lv_istore_n (lv' := [(1, .int 0), (2, .int (T q)), (0, .ref h)]) hx hb dX_skipGap_39 rfl hl (by decide) rfl (fun ls hl => ?_)
            refine lv_goto (tgt := 92) hx hb dX_skipGap_40 (by decide) ?_
            refine lv_aload_n hx hb dX_skipGap_92 rfl (lv_at hl 2 rfl) ?_
            refine lv_dup hx hb dX_skipGap_93 rfl ?_
            refine gX11 S hw dX_skipGap_94 ?_
            refine kz_top (y := nI q) g11 ?_
            refine lv_iconst (v := 1) hx hb dX_skipGap_97 (by decide) ?_
            refine lv_iadd hx hb dX_skipGap_98 ?_
            refine kz_top (y := nI (q + 1)) (nI_add q 1) ?_
            refine pX11 S hw dX_skipGap_99 (fun H locs hw => ?_)
            refine lv_goto (tgt := 2) hx hb dX_skipGap_102 (by decide) ?_
            rw [skp_nl hlt c25] at hR
            exact ih (q + 1) (M + 1) false (upd (upd I1 12 (nI (M + 1))) 11 (nI (q + 1))) H locs ls (by omega) (by omega) rfl rfl (fun k h1 h2 => (pk_un h1).trans ((pk_un h2).trans (gI k h1 h2))) hR hw (lv_sub hl [2, 0] rfl)
      | true =>
        have hT1 : tpX T n I1 F := hT.of (gI 1 (by decide) (by decide)) rfl
        have hl : lv_has ls 3 [(0, .ref h), (1, .int 1)] := hl
        refine lv_aload_n hx hb dX_skipGap_2 rfl (lv_at hl 0 rfl) ?_
        refine gX11 S hw dX_skipGap_3 ?_
        refine kz_top (y := nI q) g11 ?_
        refine lv_aload_n hx hb dX_skipGap_6 rfl (lv_at hl 0 rfl) ?_
        refine gX1 S hw dX_skipGap_7 ?_
        refine kz_top (y := nI n) hT1.1 ?_
        refine lv_icmp_ge (tgt := 105) hx hb dX_skipGap_10 (by decide) (fun c10 => ?_) (fun c10 => ?_)
        · skip
          exact MX.vret S hr hlk hw dX_skipGap_105 ⟨rfl, by rw [← hR, skp_end ((nI_leI (by omega) (by omega)).mp c10)]; exact g11, by rw [← hR, skp_end ((nI_leI (by omega) (by omega)).mp c10)]; exact g12, gI, rfl⟩
        · skip
          refine lv_aload_n hx hb dX_skipGap_13 rfl (lv_at hl 0 rfl) ?_
          refine lv_aload_n hx hb dX_skipGap_14 rfl (lv_at hl 0 rfl) ?_
          refine gX11 S hw dX_skipGap_15 ?_
          refine kz_top (y := nI q) g11 ?_
          have hlt : q < n := Nat.lt_of_not_le (fun x => c10 (nI_le x (by omega)))
          refine kcXi (rest := []) S kX_81 rfl (tX_tapeByte l _ _ T n hT1 q (by omega)) hw hA ⟨Nat.le_of_ble_eq_true rfl, Nat.le_of_ble_eq_true rfl⟩ rfl rfl ⟨Nat.zero_le _, Nat.zero_le _⟩ rfl hl.1 (Nat.le_of_ble_eq_true rfl) dX_skipGap_18 (fun r I' F' H locs hq hw => ?_)
          obtain ⟨hr1, hr2, hr3⟩ := hq
          rw [hr2, hr3] at hw
          subst hr1
          refine kz_top (see_in hlt) ?_
          refine lv_istore_n (lv' := [(2, .int (T q)), (0, .ref h), (1, .int 1)]) hx hb dX_skipGap_21 rfl hl (by decide) rfl (fun ls hl => ?_)
          refine lv_iload_n hx hb dX_skipGap_22 rfl (lv_at hl 0 rfl) ?_
          refine lv_bipush (v := 10) hx hb dX_skipGap_23 (by decide) ?_
          refine lv_icmp_ne (tgt := 43) hx hb dX_skipGap_25 (by decide) (fun c25 => ?_) (fun c25 => ?_)
          · skip
            refine lv_iload_n hx hb dX_skipGap_43 rfl (lv_at hl 0 rfl) ?_
            refine lv_bipush (v := 47) hx hb dX_skipGap_44 (by decide) ?_
            refine lv_icmp_ne (tgt := 69) hx hb dX_skipGap_46 (by decide) (fun c46 => ?_) (fun c46 => ?_)
            · skip
              refine lv_iload_n hx hb dX_skipGap_69 rfl (lv_at hl 2 rfl) ?_
              refine lv_if_ne (tgt := 92) hx hb dX_skipGap_70 (by decide) (fun c70 => ?_) (fun c70 => absurd c70 (by decide))
              refine lv_aload_n hx hb dX_skipGap_92 rfl (lv_at hl 1 rfl) ?_
              refine lv_dup hx hb dX_skipGap_93 rfl ?_
              refine gX11 S hw dX_skipGap_94 ?_
              refine kz_top (y := nI q) g11 ?_
              refine lv_iconst (v := 1) hx hb dX_skipGap_97 (by decide) ?_
              refine lv_iadd hx hb dX_skipGap_98 ?_
              refine kz_top (y := nI (q + 1)) (nI_add q 1) ?_
              refine pX11 S hw dX_skipGap_99 (fun H locs hw => ?_)
              refine lv_goto (tgt := 2) hx hb dX_skipGap_102 (by decide) ?_
              rw [skp_go hlt c25 (fun q => c46 q.1) (Or.inl rfl)] at hR
              exact ih (q + 1) (M) true (upd I1 11 (nI (q + 1))) H locs ls (by omega) (by omega) rfl g12 (fun k h1 h2 => (pk_un h1).trans (gI k h1 h2)) hR hw (lv_sub hl [1, 2] rfl)
            · skip
              refine lv_aload_n hx hb dX_skipGap_49 rfl (lv_at hl 1 rfl) ?_
              refine lv_aload_n hx hb dX_skipGap_50 rfl (lv_at hl 1 rfl) ?_
              refine gX11 S hw dX_skipGap_51 ?_
              refine kz_top (y := nI q) g11 ?_
              refine lv_iconst (v := 1) hx hb dX_skipGap_54 (by decide) ?_
              refine lv_iadd hx hb dX_skipGap_55 ?_
              refine kz_top (y := nI (q + 1)) (nI_add q 1) ?_
              refine kcXi (rest := []) S kX_81 rfl (tX_tapeByte l _ _ T n hT1 (q + 1) (by omega)) hw hA ⟨Nat.le_of_ble_eq_true rfl, Nat.le_of_ble_eq_true rfl⟩ rfl rfl ⟨Nat.zero_le _, Nat.zero_le _⟩ rfl hl.1 (Nat.le_of_ble_eq_true rfl) dX_skipGap_56 (fun r I' F' H locs hq hw => ?_)
              obtain ⟨hr1, hr2, hr3⟩ := hq
              rw [hr2, hr3] at hw
              subst hr1
              refine lv_bipush (v := 47) hx hb dX_skipGap_59 (by decide) ?_
              refine lv_icmp_ne (tgt := 69) hx hb dX_skipGap_61 (by decide) (fun c61 => ?_) (fun c61 => ?_)
              · skip
                refine lv_iload_n hx hb dX_skipGap_69 rfl (lv_at hl 2 rfl) ?_
                refine lv_if_ne (tgt := 92) hx hb dX_skipGap_70 (by decide) (fun c70 => ?_) (fun c70 => absurd c70 (by decide))
                refine lv_aload_n hx hb dX_skipGap_92 rfl (lv_at hl 1 rfl) ?_
                refine lv_dup hx hb dX_skipGap_93 rfl ?_
                refine gX11 S hw dX_skipGap_94 ?_
                refine kz_top (y := nI q) g11 ?_
                refine lv_iconst (v := 1) hx hb dX_skipGap_97 (by decide) ?_
                refine lv_iadd hx hb dX_skipGap_98 ?_
                refine kz_top (y := nI (q + 1)) (nI_add q 1) ?_
                refine pX11 S hw dX_skipGap_99 (fun H locs hw => ?_)
                refine lv_goto (tgt := 2) hx hb dX_skipGap_102 (by decide) ?_
                rw [skp_go hlt c25 (fun q => c61 q.2) (Or.inl rfl)] at hR
                exact ih (q + 1) (M) true (upd I1 11 (nI (q + 1))) H locs ls (by omega) (by omega) rfl g12 (fun k h1 h2 => (pk_un h1).trans (gI k h1 h2)) hR hw (lv_sub hl [1, 2] rfl)
              · skip
                refine lv_iconst (v := 1) hx hb dX_skipGap_64 (by decide) ?_
                refine lv_istore_n (lv' := [(1, .int 1), (2, .int (T q)), (0, .ref h)]) hx hb dX_skipGap_65 rfl hl (by decide) rfl (fun ls hl => ?_)
                refine lv_goto (tgt := 92) hx hb dX_skipGap_66 (by decide) ?_
                refine lv_aload_n hx hb dX_skipGap_92 rfl (lv_at hl 2 rfl) ?_
                refine lv_dup hx hb dX_skipGap_93 rfl ?_
                refine gX11 S hw dX_skipGap_94 ?_
                refine kz_top (y := nI q) g11 ?_
                refine lv_iconst (v := 1) hx hb dX_skipGap_97 (by decide) ?_
                refine lv_iadd hx hb dX_skipGap_98 ?_
                refine kz_top (y := nI (q + 1)) (nI_add q 1) ?_
                refine pX11 S hw dX_skipGap_99 (fun H locs hw => ?_)
                refine lv_goto (tgt := 2) hx hb dX_skipGap_102 (by decide) ?_
                rw [skp_rm hlt c25 c46 c61] at hR
                exact ih (q + 1) (M) true (upd I1 11 (nI (q + 1))) H locs ls (by omega) (by omega) rfl g12 (fun k h1 h2 => (pk_un h1).trans (gI k h1 h2)) hR hw (lv_sub hl [2, 0] rfl)
          · skip
            refine lv_aload_n hx hb dX_skipGap_28 rfl (lv_at hl 1 rfl) ?_
            refine lv_dup hx hb dX_skipGap_29 rfl ?_
            refine gX12 S hw dX_skipGap_30 ?_
            refine kz_top (y := nI M) g12 ?_
            refine lv_iconst (v := 1) hx hb dX_skipGap_33 (by decide) ?_
            refine lv_iadd hx hb dX_skipGap_34 ?_
            refine kz_top (y := nI (M + 1)) (nI_add M 1) ?_
            refine pX12 S hw dX_skipGap_35 (fun H locs hw => ?_)
            refine lv_iconst (v := 0) hx hb dX_skipGap_38 (by decide) ?_
            refine lv_istore_n (lv' := [(1, .int 0), (2, .int (T q)), (0, .ref h)]) hx hb dX_skipGap_39 rfl hl (by decide) rfl (fun ls hl => ?_)
            refine lv_goto (tgt := 92) hx hb dX_skipGap_40 (by decide) ?_
            refine lv_aload_n hx hb dX_skipGap_92 rfl (lv_at hl 2 rfl) ?_
            refine lv_dup hx hb dX_skipGap_93 rfl ?_
            refine gX11 S hw dX_skipGap_94 ?_
            refine kz_top (y := nI q) g11 ?_
            refine lv_iconst (v := 1) hx hb dX_skipGap_97 (by decide) ?_
            refine lv_iadd hx hb dX_skipGap_98 ?_
            refine kz_top (y := nI (q + 1)) (nI_add q 1) ?_
            refine pX11 S hw dX_skipGap_99 (fun H locs hw => ?_)
            refine lv_goto (tgt := 2) hx hb dX_skipGap_102 (by decide) ?_
            rw [skp_nl hlt c25] at hR
            exact ih (q + 1) (M + 1) false (upd (upd I1 12 (nI (M + 1))) 11 (nI (q + 1))) H locs ls (by omega) (by omega) rfl rfl (fun k h1 h2 => (pk_un h1).trans ((pk_un h2).trans (gI k h1 h2))) hR hw (lv_sub hl [2, 0] rfl)
  refine lv_iconst (v := 0) hx hb dX_skipGap_0 (by decide) ?_
  refine lv_istore_n (lv' := [(1, .int 0), (0, .ref h)]) hx hb dX_skipGap_1 rfl hl (by decide) rfl (fun ls hl => ?_)
  exact loop2 (n - p + 1) p L false I s.heap [] ls hp (by omega) h11 h12 (fun _ _ _ => rfl) rfl hw (lv_sub hl [1, 0] rfl)
