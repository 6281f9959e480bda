/-! ===== strings; a token ===== -/
theorem mean_in {T : Nat → Int32} {n k : Nat} {mark : Int32} (h : ¬ meanT T n k mark = -1) : k < n ∧ nextT T n k ≤ n ∧ k < nextT T n k := by
  have hk : k < n := by
    rcases Nat.lt_or_ge k n with q | q
    · exact q
    · refine absurd ?_ h
      unfold meanT
      rw [see_out q, if_neg (by decide), if_neg (fun q => q.1 (by decide))]
  by_cases h1 : seeT T n k = 42
  · have e := mean_star (mark := mark) h1
    rw [e.2]
    refine ⟨hk, ?_, by omega⟩
    rcases Nat.lt_or_ge (k + 1) n with q | q
    · omega
    · refine absurd ?_ h
      rw [e.1, see_out q]
      decide
  · have e := mean_no (mark := mark) h1
    rw [e.2]
    omega
theorem sSc_q {T : Nat → Int32} {n m k : Nat} (h : seeT T n k = 34) : sSc T n (m + 1) k = ([], k) := by rw [sSc, if_pos h]
theorem sSc_b {T : Nat → Int32} {n m k : Nat} (h : ¬ seeT T n k = 34) (h1 : meanT T n k 34 = -1) : sSc T n (m + 1) k = ([], k) := by rw [sSc, if_neg h, if_pos h1]
theorem sSc_go {T : Nat → Int32} {n m k : Nat} (h : ¬ seeT T n k = 34) (h1 : ¬ meanT T n k 34 = -1) : sSc T n (m + 1) k = (meanT T n k 34 :: (sSc T n m (nextT T n k)).1, (sSc T n m (nextT T n k)).2) := by rw [sSc, if_neg h, if_neg h1]
set_option maxHeartbeats 4000000 in
set_option maxRecDepth 100000 in
theorem tX_takeString (l : Launch) (I : Nat → Int32) (F : Nat → Nat → Int32) (T : Nat → Int32) (n : Nat) (hT : tpX T n I F) (p e : Nat) (h11 : I 11 = nI p) (hp : p < n) (h10 : I 10 = nI e) (he : e ≤ p) (h13 : I 13 = 0) : MX l yX_takeString cX_takeString 3 (some .int) ({ frames := 3, cells := 0, slots := 0, locals := 65 }) [] I F (iR (fun r I' F' => tkP I F e (scS T n p) r I' F')) := by
  refine MX.mk (by decide) (fun _ => Nat.le_of_ble_eq_true rfl) ?_
  intro z D cA h a pg en s m below meth c ls S hr hlk hA hw hl
  have hx := S.1
  have hb := S.2.1
  have hl : lv_has ls 3 [(0, .ref h)] := hl
  have hn := hT.2.1
  have loop12 : ∀ (fu : Nat) (j k mm : Nat) (dn : List Int32) (I1 : Nat → Int32) (F1 : Nat → Nat → Int32) (H : Heap) (locs : List Loc) (ls : Array Slot), dn.length = j → j ≤ 201 → p + 1 + j ≤ k → k ≤ n → n + 1 ≤ k + mm → 202 ≤ j + fu → (sSc T n (n - p) (p + 1)).1 = dn ++ (sSc T n mm k).1 → (sSc T n (n - p) (p + 1)).2 = (sSc T n mm k).2 → I1 11 = nI k → I1 10 = nI (e + j) → (∀ k, k ≠ 10 → k ≠ 11 → I1 k = I k) → (∀ k, k ≠ 9 → F1 k = F k) → (∀ i x, dn[i]? = some x → F1 9 (e + i) = x) → (∀ i, i < e → F1 9 i = F 9 i) → sX z D cA h a (AX h a s.heap.size) s H locs I1 F1 → lv_has ls 3 [(0, .ref h), (1, .int (nI j))] → W pg l en ({ frames := 3, cells := 0, slots := 0, locals := 65 }) s m ([.ref h] : List Value).toArray below meth c H locs 0 0 (MQ below (QX z D cA h a s.heap.size (iR (fun r I' F' => tkP I F e (scS T n p) r I' F'))) ([.ref h] : List Value).toArray s 0 0 (AX h a s.heap.size)) (F0 m 12 ls []) := by
    intro fu
    induction fu with
    | zero => intro j k mm  dn  I1  F1  H locs ls hj hj2 hk1 hk2 hm hf hL hE g11 g10 gI gF gA gB hw hl; omega
    | succ fu ih =>
      intro j k mm  dn  I1  F1  H locs ls hj hj2 hk1 hk2 hm hf hL hE g11 g10 gI gF gA gB hw hl
      have hT1 : tpX T n I1 F1 := hT.of (gI 1 (by decide) (by decide)) (gF 0 (by decide))
      obtain ⟨m1, rfl⟩ : ∃ m1, mm = m1 + 1 := ⟨mm - 1, by omega⟩
      refine lv_iload_n hx hb dX_takeString_12 rfl (lv_at hl 1 rfl) ?_
      refine lv_sipush (v := 200) hx hb dX_takeString_13 (by decide) ?_
      refine lv_icmp_gt (tgt := 70) hx hb dX_takeString_16 (by decide) (fun c16 => ?_) (fun c16 => ?_)
      · skip
        refine lv_bipush (v := 6) hx hb dX_takeString_70 (by decide) ?_
        exact MX.iret S hr hlk hw dX_takeString_72 rfl ⟨_, rfl, tkP.bad (by
          unfold scS
          have hj3 : 200 < j := (nI_ltI (a := 200) (b := j) (by omega) (by omega)).mp c16
          rw [if_neg]
          intro q
          have := q.2
          rw [hL, List.length_append] at this
          omega) (fun k a b c => gI k a b) gF gB ((gI 13 (by decide) (by decide)).trans h13)⟩
      · skip
        refine lv_aload_n hx hb dX_takeString_19 rfl (lv_at hl 0 rfl) ?_
        refine lv_aload_n hx hb dX_takeString_20 rfl (lv_at hl 0 rfl) ?_
        refine gX11 S hw dX_takeString_21 ?_
        refine kz_top (y := nI k) g11 ?_
        refine kcXi (rest := []) S kX_81 rfl (tX_tapeByte l I1 F1 T n hT1 k (by omega)) hw hA ⟨Nat.le_of_ble_eq_true rfl, Nat.le_of_ble_eq_true rfl⟩ rfl rfl ⟨Nat.zero_le _, Nat.zero_le _⟩ rfl hl.1 (Nat.le_of_ble_eq_true rfl) dX_takeString_24 (fun r I' F' H locs hq hw => ?_)
        obtain ⟨hr1, hr2, hr3⟩ := hq
        rw [hr2, hr3] at hw
        subst hr1
        refine lv_bipush (v := 34) hx hb dX_takeString_27 (by decide) ?_
        refine lv_icmp_ne (tgt := 44) hx hb dX_takeString_29 (by decide) (fun c29 => ?_) (fun c29 => ?_)
        · skip
          refine lv_aload_n hx hb dX_takeString_44 rfl (lv_at hl 0 rfl) ?_
          refine lv_bipush (v := 34) hx hb dX_takeString_45 (by decide) ?_
          refine kcXi (rest := []) S kX_150 rfl (tX_takeMeantByte l I1 F1 T n hT1 k g11 (by omega) 34) hw hA ⟨Nat.le_of_ble_eq_true rfl, Nat.le_of_ble_eq_true rfl⟩ rfl rfl ⟨Nat.zero_le _, Nat.zero_le _⟩ rfl hl.1 (Nat.le_of_ble_eq_true rfl) dX_takeString_47 (fun r I' F' H locs hq hw => ?_)
          obtain ⟨hr1, hr2, hr3⟩ := hq
          rw [hr2, hr3] at hw
          subst hr1
          refine lv_istore_n (lv' := [(2, .int (meanT T n k 34)), (0, .ref h), (1, .int (nI j))]) hx hb dX_takeString_50 rfl hl (by decide) rfl (fun ls hl => ?_)
          refine lv_iload_n hx hb dX_takeString_51 rfl (lv_at hl 0 rfl) ?_
          refine lv_iconst (v := (-1)) hx hb dX_takeString_52 (by decide) ?_
          refine lv_icmp_ne (tgt := 59) hx hb dX_takeString_53 (by decide) (fun c53 => ?_) (fun c53 => ?_)
          · skip
            refine lv_aload_n hx hb dX_takeString_59 rfl (lv_at hl 1 rfl) ?_
            refine lv_iload_n hx hb dX_takeString_60 rfl (lv_at hl 0 rfl) ?_
            have hmi := mean_in c53
            have hj3 : j ≤ 200 := Nat.le_of_not_lt (fun q => c16 (nI_lt q (by omega)))
            refine kcXv (rest := []) S kX_153 rfl (tX_appendText l (upd I1 11 (nI (nextT T n k))) F1 (e + j) g10 (by omega) (meanT T n k 34)) hw hA ⟨Nat.le_of_ble_eq_true rfl, Nat.le_of_ble_eq_true rfl⟩ rfl rfl ⟨Nat.zero_le _, Nat.zero_le _⟩ rfl hl.1 (Nat.le_of_ble_eq_true rfl) dX_takeString_61 (fun I' F' H locs hq hw => ?_)
            obtain ⟨hr2, hr3⟩ := hq
            rw [hr2, hr3] at hw
            refine lv_iinc (v := nI (j + 1)) (lv' := [(1, .int (nI (j + 1))), (2, .int (meanT T n k 34)), (0, .ref h)]) hx hb dX_takeString_64 hl (k := 2) rfl (nI_1 j) (by decide) rfl (fun ls hl => ?_)
            refine lv_goto (tgt := 12) hx hb dX_takeString_67 (by decide) ?_
            exact ih (j + 1) (nextT T n k) m1 (dn ++ [meanT T n k 34]) _ _ H locs ls (by rw [List.length_append, hj]; rfl) (by omega) (by omega) hmi.2.1 (by omega) (by omega) (by rw [hL, sSc_go c29 c53, List.append_assoc]; rfl) (by rw [hE, sSc_go c29 c53]) rfl rfl (fun k a b => by simp [upd, a, b, gI k a b]) (fun k a => (va_up_ne _ _ a).trans (gF k a)) (fun i x hx => by
              show upd (F1 9) (e + j) _ (e + i) = x
              rcases Nat.lt_or_ge i j with q | q
              · rw [pk_un (by omega)]
                exact gA i x (by rwa [List.getElem?_append_left (by omega)] at hx)
              · rw [List.getElem?_append_right (by omega)] at hx
                have hz := (List.getElem?_eq_some_iff.mp hx).1
                simp only [List.length_singleton] at hz
                have e1 : i = j := by omega
                subst e1
                rw [hj, Nat.sub_self] at hx
                rw [pk_us]
                exact Option.some.inj hx) (fun i hi => by
              show upd (F1 9) (e + j) _ i = _
              rw [pk_un (by omega)]
              exact gB i hi) hw (lv_sub hl [2, 0] rfl)
          · skip
            refine lv_bipush (v := 6) hx hb dX_takeString_56 (by decide) ?_
            exact MX.iret S hr hlk hw dX_takeString_58 rfl ⟨_, rfl, tkP.bad (by
              unfold scS
              rw [hE, sSc_b c29 c53, if_neg (fun q => c29 q.1)]) (fun k a b c => by simp [upd, b, gI k a b]) gF gB ((gI 13 (by decide) (by decide)).trans h13)⟩
        · skip
          refine lv_aload_n hx hb dX_takeString_32 rfl (lv_at hl 0 rfl) ?_
          refine lv_dup hx hb dX_takeString_33 rfl ?_
          refine gX11 S hw dX_takeString_34 ?_
          refine kz_top (y := nI k) g11 ?_
          refine lv_iconst (v := 1) hx hb dX_takeString_37 (by decide) ?_
          refine lv_iadd hx hb dX_takeString_38 ?_
          refine kz_top (y := nI (k + 1)) (nI_add k 1) ?_
          refine pX11 S hw dX_takeString_39 (fun H locs hw => ?_)
          refine lv_iconst (v := 2) hx hb dX_takeString_42 (by decide) ?_
          exact MX.iret S hr hlk hw dX_takeString_43 rfl ⟨_, rfl, by
            rw [sSc_q c29] at hL hE
            rw [List.append_nil] at hL
            have hj3 : j ≤ 200 := Nat.le_of_not_lt (fun q => c16 (nI_lt q (by omega)))
            have eq : scS T n p = (2, 0, k + 1, dn) := by
              unfold scS
              rw [hL, hE, if_pos ⟨c29, by omega⟩]
            rw [eq]
            exact ⟨rfl, fun k a b c => by simp [upd, b, gI k a b], gF, gB, fun q => absurd (show (2 : Int32) = 6 from q) (by decide), fun _ => ⟨rfl, (gI 13 (by decide) (by decide)).trans h13, by rw [hj]; exact g10, gA⟩⟩⟩
  refine lv_aload_n hx hb dX_takeString_0 rfl (lv_at hl 0 rfl) ?_
  refine lv_dup hx hb dX_takeString_1 rfl ?_
  refine gX11 S hw dX_takeString_2 ?_
  refine kz_top (y := nI p) h11 ?_
  refine lv_iconst (v := 1) hx hb dX_takeString_5 (by decide) ?_
  refine lv_iadd hx hb dX_takeString_6 ?_
  refine kz_top (y := nI (p + 1)) (nI_add p 1) ?_
  refine pX11 S hw dX_takeString_7 (fun H locs hw => ?_)
  refine lv_iconst (v := 0) hx hb dX_takeString_10 (by decide) ?_
  refine lv_istore_n (lv' := [(1, .int 0), (0, .ref h)]) hx hb dX_takeString_11 rfl hl (by decide) rfl (fun ls hl => ?_)
  exact loop12 202 0 (p + 1) (n - p) [] (upd I 11 (nI (p + 1))) F H locs ls rfl (by omega) (by omega) (by omega) (by omega) (by omega) rfl rfl rfl h10 (fun k a b => by simp [upd, b]) (fun _ _ => rfl) (fun i x hx => by simp at hx) (fun _ _ => rfl) hw (lv_sub hl [1, 0] rfl)
set_option maxHeartbeats 4000000 in
set_option maxRecDepth 100000 in
theorem tX_takeToken (l : Launch) (I : Nat → Int32) (F : Nat → Nat → Int32) (T : Nat → Int32) (n : Nat) (hT : tpX T n I F) (p e : Nat) (h11 : I 11 = nI p) (hp : p ≤ n) (h10 : I 10 = nI e) (he : e ≤ p) (h13 : I 13 = 0) : MX l yX_takeToken cX_takeToken 2 (some .int) ({ frames := 7, cells := 0, slots := 0, locals := 157 }) [] I F (iR (fun r I' F' => (p = n → r = 5 ∧ I' = I ∧ F' = F) ∧ (p < n → tkP I F e (scT T n p) r I' F'))) := by
  refine MX.mk (by decide) (fun _ => Nat.le_of_ble_eq_true rfl) ?_
  intro z D cA h a pg en s m below meth c ls S hr hlk hA hw hl
  have hx := S.1
  have hb := S.2.1
  have hl : lv_has ls 2 [(0, .ref h)] := hl
  have hn := hT.2.1
  rcases Nat.lt_or_eq_of_le hp with hp | hp
  · skip
    refine lv_aload_n hx hb dX_takeToken_0 rfl (lv_at hl 0 rfl) ?_
    refine lv_aload_n hx hb dX_takeToken_1 rfl (lv_at hl 0 rfl) ?_
    refine gX11 S hw dX_takeToken_2 ?_
    refine kz_top (y := nI p) h11 ?_
    refine kcXi (rest := []) S kX_81 rfl (tX_tapeByte l I F T n hT p (by omega)) hw hA ⟨Nat.le_of_ble_eq_true rfl, Nat.le_of_ble_eq_true rfl⟩ rfl rfl ⟨Nat.zero_le _, Nat.zero_le _⟩ rfl hl.1 (Nat.le_of_ble_eq_true rfl) dX_takeToken_5 (fun r I' F' H locs hq hw => ?_)
    obtain ⟨hr1, hr2, hr3⟩ := hq
    rw [hr2, hr3] at hw
    subst hr1
    refine kz_top (see_in hp) ?_
    refine lv_istore_n (lv' := [(1, .int (T p)), (0, .ref h)]) hx hb dX_takeToken_8 rfl hl (by decide) rfl (fun ls hl => ?_)
    refine lv_iload_n hx hb dX_takeToken_9 rfl (lv_at hl 0 rfl) ?_
    refine lv_iconst (v := (-1)) hx hb dX_takeToken_10 (by decide) ?_
    refine lv_icmp_ne (tgt := 16) hx hb dX_takeToken_11 (by decide) (fun c11 => ?_) (fun c11 => absurd (show T p < 0 by rw [c11]; decide) (hT.2.2.2 p hp))
    refine lv_iload_n hx hb dX_takeToken_16 rfl (lv_at hl 0 rfl) ?_
    refine kcXS (rest := []) S kX_103 (tX_isLetter l z none (T p)) hw hA arNone ⟨Nat.le_of_ble_eq_true rfl, Nat.le_of_ble_eq_true rfl⟩ rfl rfl ⟨Nat.zero_le _, Nat.zero_le _⟩ rfl hl.1 (Nat.le_of_ble_eq_true rfl) dX_takeToken_17 (fun r H locs hq hw => ?_)
    rcases bI hq with ⟨hB1, rfl⟩ | ⟨hB1, rfl⟩
    · skip
      refine lv_if_eq (tgt := 28) hx hb dX_takeToken_20 (by decide) (fun c20 => absurd c20 (by decide)) (fun c20 => ?_)
      refine lv_aload_n hx hb dX_takeToken_23 rfl (lv_at hl 1 rfl) ?_
      refine kcXi (rest := []) S kX_106 rfl (tX_takeWord l I F T n hT p e h11 hp h10 he h13) hw hA ⟨Nat.le_of_ble_eq_true rfl, Nat.le_of_ble_eq_true rfl⟩ rfl rfl ⟨Nat.zero_le _, Nat.zero_le _⟩ rfl hl.1 (Nat.le_of_ble_eq_true rfl) dX_takeToken_24 (fun r I' F' H locs hq hw => ?_)
      exact MX.iret S hr hlk hw dX_takeToken_27 rfl ⟨_, rfl, fun q => absurd q (by omega), fun _ => by unfold scT; rw [if_pos hB1]; exact hq⟩
    · skip
      refine lv_if_eq (tgt := 28) hx hb dX_takeToken_20 (by decide) (fun c20 => ?_) (fun c20 => absurd c20 (by decide))
      refine lv_iload_n hx hb dX_takeToken_28 rfl (lv_at hl 0 rfl) ?_
      refine kcXS (rest := []) S kX_109 (tX_isDecimalDigit l z none (T p)) hw hA arNone ⟨Nat.le_of_ble_eq_true rfl, Nat.le_of_ble_eq_true rfl⟩ rfl rfl ⟨Nat.zero_le _, Nat.zero_le _⟩ rfl hl.1 (Nat.le_of_ble_eq_true rfl) dX_takeToken_29 (fun r H locs hq hw => ?_)
      rcases bI hq with ⟨hB2, rfl⟩ | ⟨hB2, rfl⟩
      · skip
        refine lv_if_eq (tgt := 42) hx hb dX_takeToken_32 (by decide) (fun c32 => absurd c32 (by decide)) (fun c32 => ?_)
        refine lv_aload_n hx hb dX_takeToken_35 rfl (lv_at hl 1 rfl) ?_
        refine lv_bipush (v := 10) hx hb dX_takeToken_36 (by decide) ?_
        refine kcXi (rest := []) S kX_112 rfl (tX_takeDigits l I F T n hT p e 10 h11 (by omega) h10 h13 (by decide)) hw hA ⟨Nat.le_of_ble_eq_true rfl, Nat.le_of_ble_eq_true rfl⟩ rfl rfl ⟨Nat.zero_le _, Nat.zero_le _⟩ rfl hl.1 (Nat.le_of_ble_eq_true rfl) dX_takeToken_38 (fun r I' F' H locs hq hw => ?_)
        exact MX.iret S hr hlk hw dX_takeToken_41 rfl ⟨_, rfl, fun q => absurd q (by omega), fun _ => by unfold scT; rw [if_neg hB1, if_pos hB2]; exact hq⟩
      · skip
        refine lv_if_eq (tgt := 42) hx hb dX_takeToken_32 (by decide) (fun c32 => ?_) (fun c32 => absurd c32 (by decide))
        refine lv_iload_n hx hb dX_takeToken_42 rfl (lv_at hl 0 rfl) ?_
        refine lv_bipush (v := 35) hx hb dX_takeToken_43 (by decide) ?_
        refine lv_icmp_ne (tgt := 53) hx hb dX_takeToken_45 (by decide) (fun c45 => ?_) (fun c45 => ?_)
        · skip
          refine lv_iload_n hx hb dX_takeToken_53 rfl (lv_at hl 0 rfl) ?_
          refine lv_bipush (v := 39) hx hb dX_takeToken_54 (by decide) ?_
          refine lv_icmp_ne (tgt := 64) hx hb dX_takeToken_56 (by decide) (fun c56 => ?_) (fun c56 => ?_)
          · skip
            refine lv_iload_n hx hb dX_takeToken_64 rfl (lv_at hl 0 rfl) ?_
            refine lv_bipush (v := 34) hx hb dX_takeToken_65 (by decide) ?_
            refine lv_icmp_ne (tgt := 77) hx hb dX_takeToken_67 (by decide) (fun c67 => ?_) (fun c67 => ?_)
            · skip
              refine lv_aload_n hx hb dX_takeToken_77 rfl (lv_at hl 1 rfl) ?_
              refine kcXi (rest := []) S kX_124 rfl (tX_takeSign l I F T n hT p e h11 hp h10 he h13) hw hA ⟨Nat.le_of_ble_eq_true rfl, Nat.le_of_ble_eq_true rfl⟩ rfl rfl ⟨Nat.zero_le _, Nat.zero_le _⟩ rfl hl.1 (Nat.le_of_ble_eq_true rfl) dX_takeToken_78 (fun r I' F' H locs hq hw => ?_)
              exact MX.iret S hr hlk hw dX_takeToken_81 rfl ⟨_, rfl, fun q => absurd q (by omega), fun _ => by unfold scT; rw [if_neg hB1, if_neg hB2, if_neg c45, if_neg c56, if_neg c67]; exact hq⟩
            · skip
              refine lv_aload_n hx hb dX_takeToken_70 rfl (lv_at hl 1 rfl) ?_
              refine kcXi (rest := []) S kX_121 rfl (tX_takeString l I F T n hT p e h11 hp h10 he h13) hw hA ⟨Nat.le_of_ble_eq_true rfl, Nat.le_of_ble_eq_true rfl⟩ rfl rfl ⟨Nat.zero_le _, Nat.zero_le _⟩ rfl hl.1 (Nat.le_of_ble_eq_true rfl) dX_takeToken_71 (fun r I' F' H locs hq hw => ?_)
              refine lv_goto (tgt := 81) hx hb dX_takeToken_74 (by decide) ?_
              exact MX.iret S hr hlk hw dX_takeToken_81 rfl ⟨_, rfl, fun q => absurd q (by omega), fun _ => by unfold scT; rw [if_neg hB1, if_neg hB2, if_neg c45, if_neg c56, if_pos c67]; exact hq⟩
          · skip
            refine lv_aload_n hx hb dX_takeToken_59 rfl (lv_at hl 1 rfl) ?_
            refine kcXi (rest := []) S kX_118 rfl (tX_takeCharacter l I F T n hT p e h11 hp h10 he h13) hw hA ⟨Nat.le_of_ble_eq_true rfl, Nat.le_of_ble_eq_true rfl⟩ rfl rfl ⟨Nat.zero_le _, Nat.zero_le _⟩ rfl hl.1 (Nat.le_of_ble_eq_true rfl) dX_takeToken_60 (fun r I' F' H locs hq hw => ?_)
            exact MX.iret S hr hlk hw dX_takeToken_63 rfl ⟨_, rfl, fun q => absurd q (by omega), fun _ => by unfold scT; rw [if_neg hB1, if_neg hB2, if_neg c45, if_pos c56]; exact hq⟩
        · skip
          refine lv_aload_n hx hb dX_takeToken_48 rfl (lv_at hl 1 rfl) ?_
          refine kcXi (rest := []) S kX_115 rfl (tX_takeNumberInBase l I F T n hT p e h11 hp h10 he h13) hw hA ⟨Nat.le_of_ble_eq_true rfl, Nat.le_of_ble_eq_true rfl⟩ rfl rfl ⟨Nat.zero_le _, Nat.zero_le _⟩ rfl hl.1 (Nat.le_of_ble_eq_true rfl) dX_takeToken_49 (fun r I' F' H locs hq hw => ?_)
          exact MX.iret S hr hlk hw dX_takeToken_52 rfl ⟨_, rfl, fun q => absurd q (by omega), fun _ => by unfold scT; rw [if_neg hB1, if_neg hB2, if_pos c45]; exact hq⟩
  · skip
    refine lv_aload_n hx hb dX_takeToken_0 rfl (lv_at hl 0 rfl) ?_
    refine lv_aload_n hx hb dX_takeToken_1 rfl (lv_at hl 0 rfl) ?_
    refine gX11 S hw dX_takeToken_2 ?_
    refine kz_top (y := nI p) h11 ?_
    refine kcXi (rest := []) S kX_81 rfl (tX_tapeByte l I F T n hT p (by omega)) hw hA ⟨Nat.le_of_ble_eq_true rfl, Nat.le_of_ble_eq_true rfl⟩ rfl rfl ⟨Nat.zero_le _, Nat.zero_le _⟩ rfl hl.1 (Nat.le_of_ble_eq_true rfl) dX_takeToken_5 (fun r I' F' H locs hq hw => ?_)
    obtain ⟨hr1, hr2, hr3⟩ := hq
    rw [hr2, hr3] at hw
    subst hr1
    refine kz_top (y := -1) (see_out (Nat.le_of_eq hp.symm)) ?_
    refine lv_istore_n (lv' := [(1, .int (-1)), (0, .ref h)]) hx hb dX_takeToken_8 rfl hl (by decide) rfl (fun ls hl => ?_)
    refine lv_iload_n hx hb dX_takeToken_9 rfl (lv_at hl 0 rfl) ?_
    refine lv_iconst (v := (-1)) hx hb dX_takeToken_10 (by decide) ?_
    refine lv_icmp_ne (tgt := 16) hx hb dX_takeToken_11 (by decide) (fun c11 => absurd c11 (by decide)) (fun c11 => ?_)
    refine lv_iconst (v := 5) hx hb dX_takeToken_14 (by decide) ?_
    exact MX.iret S hr hlk hw dX_takeToken_15 rfl ⟨_, rfl, fun _ => ⟨rfl, rfl, rfl⟩, fun q => absurd q (by omega)⟩
