set_option maxHeartbeats 4000000 in
set_option maxRecDepth 100000 in
theorem tM_readString (l : Launch) (I : Nat → Int32) (F : Nat → Nat → Int32) (T : Nat → Int32) (n : Nat) (hT : tpM T n I F) (p : Nat) (h15 : I 15 = nI p) (hp : p < n) : MM l yM_readString cM_readString 3 none ({ frames := 2, cells := 0, slots := 0, locals := 45 }) [] I F (vR (fun I' F' => rkP I F (scS T n p) I' F')) := by
  refine MM.mk (by decide) (fun _ => Nat.le_of_ble_eq_true rfl) ?_
  intro z D cA h a pg en s m below meth c ls S hr hlk hA hw hl
  have hx := S.1
  have hb := S.2.1
  have hl : lv_has ls 3 [(0, .ref h)] := hl
  have hn := hT.2.1
  have cont : ∀ (k j : Nat) (H : Heap) (locs : List Loc) (ls : Array Slot), k ≤ n → j ≤ 1000 → (sSc T n (n - p) (p + 1)).2 = k → (sSc T n (n - p) (p + 1)).1.length = j → sM z D cA h a (AM h a s.heap.size) s H locs I F → lv_has ls 3 [(0, .ref h), (1, .int (nI k)), (2, .int (nI j))] → W pg l en ({ frames := 2, cells := 0, slots := 0, locals := 45 }) s m ([.ref h] : List Value).toArray below meth c H locs 0 0 (MQ below (QM z D cA h a s.heap.size (vR (fun I' F' => rkP I F (scS T n p) I' F'))) ([.ref h] : List Value).toArray s 0 0 (AM h a s.heap.size)) (F0 m 41 ls []) := by
    intro k j H locs ls hk hj hE hL hw hl
    refine lv_aload_n hx hb dM_readString_41 rfl (lv_at hl 0 rfl) ?_
    refine lv_iload_n hx hb dM_readString_42 rfl (lv_at hl 1 rfl) ?_
    refine lv_iconst (v := 1) hx hb dM_readString_43 (by decide) ?_
    refine lv_iadd hx hb dM_readString_44 ?_
    refine kz_top (y := nI (k + 1)) (nI_add k 1) ?_
    refine pM19 S hw dM_readString_45 (fun H locs hw => ?_)
    refine lv_aload_n hx hb dM_readString_48 rfl (lv_at hl 0 rfl) ?_
    refine lv_aload_n hx hb dM_readString_49 rfl (lv_at hl 0 rfl) ?_
    refine lv_iload_n hx hb dM_readString_50 rfl (lv_at hl 1 rfl) ?_
    refine kcMi (rest := [.ref h]) S kM_74 rfl (tM_see l (upd I 19 (nI (k + 1))) F T n hT k (by omega)) hw hA ⟨Nat.le_of_ble_eq_true rfl, Nat.le_of_ble_eq_true rfl⟩ rfl rfl ⟨Nat.zero_le _, Nat.zero_le _⟩ rfl hl.1 (Nat.le_of_ble_eq_true rfl) dM_readString_51 (fun r I' F' H locs hq hw => ?_)
    obtain ⟨hr1, hr2, hr3⟩ := hq
    rw [hr2, hr3] at hw
    subst hr1
    refine lv_bipush (v := 34) hx hb dM_readString_54 (by decide) ?_
    refine lv_icmp_ne (tgt := 66) hx hb dM_readString_56 (by decide) (fun c56 => ?_) (fun c56 => ?_)
    · skip
      refine lv_bipush (v := 6) hx hb dM_readString_66 (by decide) ?_
      refine lv_goto (tgt := 72) hx hb dM_readString_68 (by decide) ?_
      refine pM17 S hw dM_readString_72 (fun H locs hw => ?_)
      exact MM.vret S hr hlk hw dM_readString_75 ⟨rfl, rkP.bad (by unfold scS; rw [if_neg (fun q => c56 (by rw [← hE]; exact q.1))]) (fun k a b c => by simp [upd, a, b, c]) rfl⟩
    · skip
      refine lv_iload_n hx hb dM_readString_59 rfl (lv_at hl 2 rfl) ?_
      refine lv_sipush (v := 200) hx hb dM_readString_60 (by decide) ?_
      refine lv_icmp_le (tgt := 71) hx hb dM_readString_63 (by decide) (fun c63 => ?_) (fun c63 => ?_)
      · skip
        refine lv_iconst (v := 2) hx hb dM_readString_71 (by decide) ?_
        refine pM17 S hw dM_readString_72 (fun H locs hw => ?_)
        exact MM.vret S hr hlk hw dM_readString_75 ⟨rfl, rkP.ok (k := 2) (v := 0) (b := k + 1) (tx := (sSc T n (n - p) (p + 1)).1) (by unfold scS; rw [if_pos ⟨by rw [hE]; exact c56, by rw [hL]; exact (nI_leI (a := j) (b := 200) (by omega) (by decide)).mp c63⟩, hE]) (by decide) (fun k a b c => by simp [upd, a, b, c]) rfl rfl (fun q => absurd q (by decide))⟩
      · skip
        refine lv_bipush (v := 6) hx hb dM_readString_66 (by decide) ?_
        refine lv_goto (tgt := 72) hx hb dM_readString_68 (by decide) ?_
        refine pM17 S hw dM_readString_72 (fun H locs hw => ?_)
        exact MM.vret S hr hlk hw dM_readString_75 ⟨rfl, rkP.bad (by unfold scS; rw [if_neg (fun q => by have := q.2; rw [hL] at this; exact c63 (nI_le this (by decide)))]) (fun k a b c => by simp [upd, a, b, c]) rfl⟩
  have loop9 : ∀ (fu : Nat) (j k mm : Nat) (H : Heap) (locs : List Loc) (ls : Array Slot), j + (sSc T n mm k).1.length = (sSc T n (n - p) (p + 1)).1.length → p + 1 + j ≤ k → k ≤ n → n + 1 ≤ k + mm → n + 1 ≤ k + fu → (sSc T n (n - p) (p + 1)).2 = (sSc T n mm k).2 → sM z D cA h a (AM h a s.heap.size) s H locs I F → lv_has ls 3 [(0, .ref h), (1, .int (nI k)), (2, .int (nI j))] → W pg l en ({ frames := 2, cells := 0, slots := 0, locals := 45 }) s m ([.ref h] : List Value).toArray below meth c H locs 0 0 (MQ below (QM z D cA h a s.heap.size (vR (fun I' F' => rkP I F (scS T n p) I' F'))) ([.ref h] : List Value).toArray s 0 0 (AM h a s.heap.size)) (F0 m 9 ls []) := by
    intro fu
    induction fu with
    | zero => intro j k mm  H locs ls hj hk1 hk2 hm hf hE hw hl; omega
    | succ fu ih =>
      intro j k mm  H locs ls hj hk1 hk2 hm hf hE hw hl
      obtain ⟨m1, rfl⟩ : ∃ m1, mm = m1 + 1 := ⟨mm - 1, by omega⟩
      refine lv_aload_n hx hb dM_readString_9 rfl (lv_at hl 0 rfl) ?_
      refine lv_iload_n hx hb dM_readString_10 rfl (lv_at hl 1 rfl) ?_
      refine kcMi (rest := []) S kM_74 rfl (tM_see l I F T n hT k (by omega)) hw hA ⟨Nat.le_of_ble_eq_true rfl, Nat.le_of_ble_eq_true rfl⟩ rfl rfl ⟨Nat.zero_le _, Nat.zero_le _⟩ rfl hl.1 (Nat.le_of_ble_eq_true rfl) dM_readString_11 (fun r I' F' H locs hq hw => ?_)
      obtain ⟨hr1, hr2, hr3⟩ := hq
      rw [hr2, hr3] at hw
      subst hr1
      refine lv_bipush (v := 34) hx hb dM_readString_14 (by decide) ?_
      refine lv_icmp_eq (tgt := 41) hx hb dM_readString_16 (by decide) (fun c16 => ?_) (fun c16 => ?_)
      · skip
        have hbb : sSc T n (m1 + 1) k = ([], k) := sSc_q c16
        rw [hbb] at hj hE
        exact cont k j H locs ls hk2 (by omega) hE (by rw [← hj]; simp) hw (lv_sub hl [0, 1, 2] rfl)
      · skip
        refine lv_aload_n hx hb dM_readString_19 rfl (lv_at hl 0 rfl) ?_
        refine lv_iload_n hx hb dM_readString_20 rfl (lv_at hl 1 rfl) ?_
        refine lv_bipush (v := 34) hx hb dM_readString_21 (by decide) ?_
        refine kcMi (rest := []) S kM_134 rfl (tM_meaning l I F T n hT k (by omega) 34) hw hA ⟨Nat.le_of_ble_eq_true rfl, Nat.le_of_ble_eq_true rfl⟩ rfl rfl ⟨Nat.zero_le _, Nat.zero_le _⟩ rfl hl.1 (Nat.le_of_ble_eq_true rfl) dM_readString_23 (fun r I' F' H locs hq hw => ?_)
        obtain ⟨hr1, hr2, hr3⟩ := hq
        rw [hr2, hr3] at hw
        subst hr1
        refine lv_if_lt (tgt := 41) hx hb dM_readString_26 (by decide) (fun c26 => ?_) (fun c26 => ?_)
        · skip
          have hbb : sSc T n (m1 + 1) k = ([], k) := sSc_b c16 (by
            by_cases q : meanT T n k 34 = -1
            · exact q
            · exact absurd c26 (mean_nn q))
          rw [hbb] at hj hE
          exact cont k j H locs ls hk2 (by omega) hE (by rw [← hj]; simp) hw (lv_sub hl [0, 1, 2] rfl)
        · skip
          have hmn : ¬ meanT T n k 34 = -1 := fun q => c26 (by rw [q]; decide)
          refine lv_aload_n hx hb dM_readString_29 rfl (lv_at hl 0 rfl) ?_
          refine lv_iload_n hx hb dM_readString_30 rfl (lv_at hl 1 rfl) ?_
          refine kcMi (rest := []) S kM_138 rfl (tM_next l I F T n hT k (by omega)) hw hA ⟨Nat.le_of_ble_eq_true rfl, Nat.le_of_ble_eq_true rfl⟩ rfl rfl ⟨Nat.zero_le _, Nat.zero_le _⟩ rfl hl.1 (Nat.le_of_ble_eq_true rfl) dM_readString_31 (fun r I' F' H locs hq hw => ?_)
          obtain ⟨hr1, hr2, hr3⟩ := hq
          rw [hr2, hr3] at hw
          subst hr1
          refine lv_istore_n (lv' := [(1, .int (nI (nextT T n k))), (0, .ref h), (2, .int (nI j))]) hx hb dM_readString_34 rfl hl (by decide) rfl (fun ls hl => ?_)
          refine lv_iinc (v := nI (j + 1)) (lv' := [(2, .int (nI (j + 1))), (1, .int (nI (nextT T n k))), (0, .ref h)]) hx hb dM_readString_35 hl (k := 2) rfl (nI_1 j) (by decide) rfl (fun ls hl => ?_)
          refine lv_goto (tgt := 9) hx hb dM_readString_38 (by decide) ?_
          have hmi := mean_in hmn
          exact ih (j + 1) (nextT T n k) m1 H locs ls (by rw [← hj, sSc_go c16 hmn]; simp only [List.length_cons]; omega) (by omega) hmi.2.1 (by omega) (by omega) (by rw [hE, sSc_go c16 hmn]) hw (lv_sub hl [2, 1, 0] rfl)
  refine lv_aload_n hx hb dM_readString_0 rfl (lv_at hl 0 rfl) ?_
  refine gM15 S hw dM_readString_1 ?_
  refine kz_top (y := nI p) h15 ?_
  refine lv_iconst (v := 1) hx hb dM_readString_4 (by decide) ?_
  refine lv_iadd hx hb dM_readString_5 ?_
  refine kz_top (y := nI (p + 1)) (nI_add p 1) ?_
  refine lv_istore_n (lv' := [(1, .int (nI (p + 1))), (0, .ref h)]) hx hb dM_readString_6 rfl hl (by decide) rfl (fun ls hl => ?_)
  refine lv_iconst (v := 0) hx hb dM_readString_7 (by decide) ?_
  refine lv_istore_n (lv' := [(2, .int 0), (1, .int (nI (p + 1))), (0, .ref h)]) hx hb dM_readString_8 rfl hl (by decide) rfl (fun ls hl => ?_)
  exact loop9 (n + 1) 0 (p + 1) (n - p) s.heap [] ls (Nat.zero_add _) (by omega) (by omega) (by omega) (by omega) rfl hw (lv_sub hl [2, 1, 0] rfl)
set_option maxHeartbeats 4000000 in
set_option maxRecDepth 100000 in
theorem tM_readToken (l : Launch) (I : Nat → Int32) (F : Nat → Nat → Int32) (T : Nat → Int32) (n : Nat) (hT : tpM T n I F) (p : Nat) (h15 : I 15 = nI p) (hp : p < n) : MM l yM_readToken cM_readToken 2 none ({ frames := 4, cells := 0, slots := 0, locals := 81 }) [] I F (vR (fun I' F' => rkP I F (scT T n p) I' F')) := by
  refine MM.mk (by decide) (fun _ => Nat.le_of_ble_eq_true rfl) ?_
  intro z D cA h a pg en s m below meth c ls S hr hlk hA hw hl
  have hx := S.1
  have hb := S.2.1
  have hl : lv_has ls 2 [(0, .ref h)] := hl
  have hn := hT.2.1
  refine lv_aload_n hx hb dM_readToken_0 rfl (lv_at hl 0 rfl) ?_
  refine lv_aload_n hx hb dM_readToken_1 rfl (lv_at hl 0 rfl) ?_
  refine gM15 S hw dM_readToken_2 ?_
  refine kz_top (y := nI p) h15 ?_
  refine kcMi (rest := []) S kM_74 rfl (tM_see l I F T n hT p (by omega)) hw hA ⟨Nat.le_of_ble_eq_true rfl, Nat.le_of_ble_eq_true rfl⟩ rfl rfl ⟨Nat.zero_le _, Nat.zero_le _⟩ rfl hl.1 (Nat.le_of_ble_eq_true rfl) dM_readToken_5 (fun r I' F' H locs hq hw => ?_)
  obtain ⟨hr1, hr2, hr3⟩ := hq
  rw [hr2, hr3] at hw
  subst hr1
  refine kz_top (see_in hp) ?_
  refine lv_istore_n (lv' := [(1, .int (T p)), (0, .ref h)]) hx hb dM_readToken_8 rfl hl (by decide) rfl (fun ls hl => ?_)
  refine lv_aload_n hx hb dM_readToken_9 rfl (lv_at hl 1 rfl) ?_
  refine lv_iconst (v := 0) hx hb dM_readToken_10 (by decide) ?_
  refine pM18 S hw dM_readToken_11 (fun H locs hw => ?_)
  refine lv_iload_n hx hb dM_readToken_14 rfl (lv_at hl 0 rfl) ?_
  refine kcMS (rest := []) S kM_65 (tM_isLetter l z none (T p)) hw hA arNone ⟨Nat.le_of_ble_eq_true rfl, Nat.le_of_ble_eq_true rfl⟩ rfl rfl ⟨Nat.zero_le _, Nat.zero_le _⟩ rfl hl.1 (Nat.le_of_ble_eq_true rfl) dM_readToken_15 (fun r H locs hq hw => ?_)
  rcases bI hq with ⟨hB1, rfl⟩ | ⟨hB1, rfl⟩
  · skip
    refine lv_if_eq (tgt := 28) hx hb dM_readToken_18 (by decide) (fun c18 => absurd c18 (by decide)) (fun c18 => ?_)
    refine lv_aload_n hx hb dM_readToken_21 rfl (lv_at hl 1 rfl) ?_
    refine kcMv (rest := []) S kM_141 rfl (tM_readName l (upd I 18 0) F T n hT p h15 hp) hw hA ⟨Nat.le_of_ble_eq_true rfl, Nat.le_of_ble_eq_true rfl⟩ rfl rfl ⟨Nat.zero_le _, Nat.zero_le _⟩ rfl hl.1 (Nat.le_of_ble_eq_true rfl) dM_readToken_22 (fun I' F' H locs hq hw => ?_)
    refine lv_goto (tgt := 135) hx hb dM_readToken_25 (by decide) ?_
    exact MM.vret S hr hlk hw dM_readToken_135 ⟨rfl, hq.base (fun k a b c => by simp [upd, b]) (by unfold scT; rw [if_pos hB1])⟩
  · skip
    refine lv_if_eq (tgt := 28) hx hb dM_readToken_18 (by decide) (fun c18 => ?_) (fun c18 => absurd c18 (by decide))
    refine lv_iload_n hx hb dM_readToken_28 rfl (lv_at hl 0 rfl) ?_
    refine kcMS (rest := []) S kM_68 (tM_isDigit l z none (T p)) hw hA arNone ⟨Nat.le_of_ble_eq_true rfl, Nat.le_of_ble_eq_true rfl⟩ rfl rfl ⟨Nat.zero_le _, Nat.zero_le _⟩ rfl hl.1 (Nat.le_of_ble_eq_true rfl) dM_readToken_29 (fun r H locs hq hw => ?_)
    rcases bI hq with ⟨hB2, rfl⟩ | ⟨hB2, rfl⟩
    · skip
      refine lv_if_eq (tgt := 48) hx hb dM_readToken_32 (by decide) (fun c32 => absurd c32 (by decide)) (fun c32 => ?_)
      refine lv_aload_n hx hb dM_readToken_35 rfl (lv_at hl 1 rfl) ?_
      refine lv_aload_n hx hb dM_readToken_36 rfl (lv_at hl 1 rfl) ?_
      refine gM15 S hw dM_readToken_37 ?_
      refine kz_top (y := nI p) h15 ?_
      refine lv_bipush (v := 10) hx hb dM_readToken_40 (by decide) ?_
      refine kcMv (rest := []) S kM_144 rfl (tM_readDigits l (upd I 18 0) F T n hT p 10 (by omega) (by decide) (by decide)) hw hA ⟨Nat.le_of_ble_eq_true rfl, Nat.le_of_ble_eq_true rfl⟩ rfl rfl ⟨Nat.zero_le _, Nat.zero_le _⟩ rfl hl.1 (Nat.le_of_ble_eq_true rfl) dM_readToken_42 (fun I' F' H locs hq hw => ?_)
      refine lv_goto (tgt := 135) hx hb dM_readToken_45 (by decide) ?_
      exact MM.vret S hr hlk hw dM_readToken_135 ⟨rfl, hq.base (fun k a b c => by simp [upd, b]) (by unfold scT; rw [if_neg hB1, if_pos hB2])⟩
    · skip
      refine lv_if_eq (tgt := 48) hx hb dM_readToken_32 (by decide) (fun c32 => ?_) (fun c32 => absurd c32 (by decide))
      refine lv_iload_n hx hb dM_readToken_48 rfl (lv_at hl 0 rfl) ?_
      refine lv_bipush (v := 35) hx hb dM_readToken_49 (by decide) ?_
      refine lv_icmp_ne (tgt := 84) hx hb dM_readToken_51 (by decide) (fun c51 => ?_) (fun c51 => ?_)
      · skip
        refine lv_iload_n hx hb dM_readToken_84 rfl (lv_at hl 0 rfl) ?_
        refine lv_bipush (v := 35) hx hb dM_readToken_85 (by decide) ?_
        refine lv_icmp_ne (tgt := 105) hx hb dM_readToken_87 (by decide) (fun c87 => ?_) (fun c87 => absurd c87 c51)
        refine lv_iload_n hx hb dM_readToken_105 rfl (lv_at hl 0 rfl) ?_
        refine lv_bipush (v := 39) hx hb dM_readToken_106 (by decide) ?_
        refine lv_icmp_ne (tgt := 118) hx hb dM_readToken_108 (by decide) (fun c108 => ?_) (fun c108 => ?_)
        · skip
          refine lv_iload_n hx hb dM_readToken_118 rfl (lv_at hl 0 rfl) ?_
          refine lv_bipush (v := 34) hx hb dM_readToken_119 (by decide) ?_
          refine lv_icmp_ne (tgt := 131) hx hb dM_readToken_121 (by decide) (fun c121 => ?_) (fun c121 => ?_)
          · skip
            refine lv_aload_n hx hb dM_readToken_131 rfl (lv_at hl 1 rfl) ?_
            refine kcMv (rest := []) S kM_154 rfl (tM_readSign l (upd I 18 0) F T n hT p h15 hp) hw hA ⟨Nat.le_of_ble_eq_true rfl, Nat.le_of_ble_eq_true rfl⟩ rfl rfl ⟨Nat.zero_le _, Nat.zero_le _⟩ rfl hl.1 (Nat.le_of_ble_eq_true rfl) dM_readToken_132 (fun I' F' H locs hq hw => ?_)
            exact MM.vret S hr hlk hw dM_readToken_135 ⟨rfl, hq.base (fun k a b c => by simp [upd, b]) (by unfold scT; rw [if_neg hB1, if_neg hB2, if_neg c51, if_neg c108, if_neg c121])⟩
          · skip
            refine lv_aload_n hx hb dM_readToken_124 rfl (lv_at hl 1 rfl) ?_
            refine kcMv (rest := []) S kM_151 rfl (tM_readString l (upd I 18 0) F T n hT p h15 hp) hw hA ⟨Nat.le_of_ble_eq_true rfl, Nat.le_of_ble_eq_true rfl⟩ rfl rfl ⟨Nat.zero_le _, Nat.zero_le _⟩ rfl hl.1 (Nat.le_of_ble_eq_true rfl) dM_readToken_125 (fun I' F' H locs hq hw => ?_)
            refine lv_goto (tgt := 135) hx hb dM_readToken_128 (by decide) ?_
            exact MM.vret S hr hlk hw dM_readToken_135 ⟨rfl, hq.base (fun k a b c => by simp [upd, b]) (by unfold scT; rw [if_neg hB1, if_neg hB2, if_neg c51, if_neg c108, if_pos c121])⟩
        · skip
          refine lv_aload_n hx hb dM_readToken_111 rfl (lv_at hl 1 rfl) ?_
          refine kcMv (rest := []) S kM_148 rfl (tM_readByte l (upd I 18 0) F T n hT p h15 hp) hw hA ⟨Nat.le_of_ble_eq_true rfl, Nat.le_of_ble_eq_true rfl⟩ rfl rfl ⟨Nat.zero_le _, Nat.zero_le _⟩ rfl hl.1 (Nat.le_of_ble_eq_true rfl) dM_readToken_112 (fun I' F' H locs hq hw => ?_)
          refine lv_goto (tgt := 135) hx hb dM_readToken_115 (by decide) ?_
          exact MM.vret S hr hlk hw dM_readToken_135 ⟨rfl, hq.base (fun k a b c => by simp [upd, b]) (by unfold scT; rw [if_neg hB1, if_neg hB2, if_neg c51, if_pos c108])⟩
      · skip
        refine lv_aload_n hx hb dM_readToken_54 rfl (lv_at hl 1 rfl) ?_
        refine lv_aload_n hx hb dM_readToken_55 rfl (lv_at hl 1 rfl) ?_
        refine gM15 S hw dM_readToken_56 ?_
        refine kz_top (y := nI p) h15 ?_
        refine lv_iconst (v := 1) hx hb dM_readToken_59 (by decide) ?_
        refine lv_iadd hx hb dM_readToken_60 ?_
        refine kz_top (y := nI (p + 1)) (nI_add p 1) ?_
        refine kcMi (rest := []) S kM_74 rfl (tM_see l (upd I 18 0) F T n hT (p + 1) (by omega)) hw hA ⟨Nat.le_of_ble_eq_true rfl, Nat.le_of_ble_eq_true rfl⟩ rfl rfl ⟨Nat.zero_le _, Nat.zero_le _⟩ rfl hl.1 (Nat.le_of_ble_eq_true rfl) dM_readToken_61 (fun r I' F' H locs hq hw => ?_)
        obtain ⟨hr1, hr2, hr3⟩ := hq
        rw [hr2, hr3] at hw
        subst hr1
        refine lv_bipush (v := 88) hx hb dM_readToken_64 (by decide) ?_
        refine lv_icmp_ne (tgt := 84) hx hb dM_readToken_66 (by decide) (fun c66 => ?_) (fun c66 => ?_)
        · skip
          refine lv_iload_n hx hb dM_readToken_84 rfl (lv_at hl 0 rfl) ?_
          refine lv_bipush (v := 35) hx hb dM_readToken_85 (by decide) ?_
          refine lv_icmp_ne (tgt := 105) hx hb dM_readToken_87 (by decide) (fun c87 => absurd c51 c87) (fun c87 => ?_)
          refine lv_aload_n hx hb dM_readToken_90 rfl (lv_at hl 1 rfl) ?_
          refine lv_aload_n hx hb dM_readToken_91 rfl (lv_at hl 1 rfl) ?_
          refine gM15 S hw dM_readToken_92 ?_
          refine kz_top (y := nI p) h15 ?_
          refine lv_iconst (v := 1) hx hb dM_readToken_95 (by decide) ?_
          refine lv_iadd hx hb dM_readToken_96 ?_
          refine kz_top (y := nI (p + 1)) (nI_add p 1) ?_
          refine lv_bipush (v := 8) hx hb dM_readToken_97 (by decide) ?_
          refine kcMv (rest := []) S kM_144 rfl (tM_readDigits l (upd I 18 0) F T n hT (p + 1) 8 (by omega) (by decide) (by decide)) hw hA ⟨Nat.le_of_ble_eq_true rfl, Nat.le_of_ble_eq_true rfl⟩ rfl rfl ⟨Nat.zero_le _, Nat.zero_le _⟩ rfl hl.1 (Nat.le_of_ble_eq_true rfl) dM_readToken_99 (fun I' F' H locs hq hw => ?_)
          refine lv_goto (tgt := 135) hx hb dM_readToken_102 (by decide) ?_
          exact MM.vret S hr hlk hw dM_readToken_135 ⟨rfl, hq.base (fun k a b c => by simp [upd, b]) (by unfold scT; rw [if_neg hB1, if_neg hB2, if_pos c51, if_neg c66])⟩
        · skip
          refine lv_aload_n hx hb dM_readToken_69 rfl (lv_at hl 1 rfl) ?_
          refine lv_aload_n hx hb dM_readToken_70 rfl (lv_at hl 1 rfl) ?_
          refine gM15 S hw dM_readToken_71 ?_
          refine kz_top (y := nI p) h15 ?_
          refine lv_iconst (v := 2) hx hb dM_readToken_74 (by decide) ?_
          refine lv_iadd hx hb dM_readToken_75 ?_
          refine kz_top (y := nI (p + 2)) (nI_add p 2) ?_
          refine lv_bipush (v := 16) hx hb dM_readToken_76 (by decide) ?_
          refine kcMv (rest := []) S kM_144 rfl (tM_readDigits l (upd I 18 0) F T n hT (p + 2) 16 (by omega) (by decide) (by decide)) hw hA ⟨Nat.le_of_ble_eq_true rfl, Nat.le_of_ble_eq_true rfl⟩ rfl rfl ⟨Nat.zero_le _, Nat.zero_le _⟩ rfl hl.1 (Nat.le_of_ble_eq_true rfl) dM_readToken_78 (fun I' F' H locs hq hw => ?_)
          refine lv_goto (tgt := 135) hx hb dM_readToken_81 (by decide) ?_
          exact MM.vret S hr hlk hw dM_readToken_135 ⟨rfl, hq.base (fun k a b c => by simp [upd, b]) (by unfold scT; rw [if_neg hB1, if_neg hB2, if_pos c51, if_pos c66])⟩
