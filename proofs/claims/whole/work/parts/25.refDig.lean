theorem dgM_out : dgM (-1) = 99 ∧ dgN (-1) = 99 := by decide
theorem cmp_lt0' {a : Nat} (ha : a < 2 ^ 62) : lg_cmp (lN a) 4294967296 < 0 ↔ a < 4294967296 := by
  unfold lg_cmp
  have e : lN a > (4294967296 : Int64) ↔ 4294967296 < a := pk_lLT (a := 4294967296) (b := a) (by decide) (by omega)
  have e2 : lN a = (4294967296 : Int64) ↔ a = 4294967296 := pk_lEQ (a := a) (b := 4294967296) (by omega) (by decide)
  by_cases h0 : 4294967296 < a
  · rw [if_pos (e.mpr h0)]
    exact ⟨fun q => absurd q (by decide), fun q => by omega⟩
  · rw [if_neg (fun q => h0 (e.mp q))]
    by_cases h : a = 4294967296
    · rw [if_pos (e2.mpr h)]; exact ⟨fun q => absurd q (by decide), fun q => by omega⟩
    · rw [if_neg (fun q => h (e2.mp q))]; exact ⟨fun _ => by omega, fun _ => by decide⟩
theorem acc_step {a ac base d : Nat} (h : min a 4294967296 = ac) (hb : 1 ≤ base) : min (if a < 4294967296 then a * base + d else a) 4294967296 = min (ac * base + d) 4294967296 := by
  by_cases q : a < 4294967296
  · rw [if_pos q]
    have : ac = a := by omega
    rw [this]
  · rw [if_neg q]
    have e : ac = 4294967296 := by omega
    rw [e]
    have : 4294967296 ≤ 4294967296 * base := Nat.le_mul_of_pos_right _ hb
    omega
set_option maxHeartbeats 4000000 in
set_option maxRecDepth 100000 in
theorem tM_readDigits (l : Launch) (I : Nat → Int32) (F : Nat → Nat → Int32) (T : Nat → Int32) (n : Nat) (hT : tpM T n I F) (k0 base : Nat) (hk : k0 ≤ 1002) (hb0 : base ≤ 16) (hb1 : 1 ≤ base) : MM l yM_readDigits cM_readDigits 7 none ({ frames := 2, cells := 0, slots := 0, locals := 40 }) [.int (nI k0), .int (nI base)] I F (vR (fun I' F' => rkP I F (scD T n k0 base) I' F')) := by
  refine MM.mk (by decide) (fun _ => Nat.le_of_ble_eq_true rfl) ?_
  intro z D cA h a pg en s m below meth c ls S hr hlk hA hw hl
  have hx := S.1
  have hb := S.2.1
  have hl : lv_has ls 7 [(0, .ref h), (1, .int (nI k0)), (2, .int (nI base))] := hl
  have hn := hT.2.1
  have loop16 : ∀ (fu : Nat) (k aa ac : Nat) (dd : Int32) (H : Heap) (locs : List Loc) (ls : Array Slot), k0 ≤ k → k ≤ n ∨ k = k0 → n + 1003 ≤ k + fu → min aa 4294967296 = ac → aa ≤ 4294967296 * 16 + 16 → dd = dgM (seeT T n k) → dSc T base (n - k) k ac = dSc T base (n - k0) k0 0 → sM z D cA h a (AM h a s.heap.size) s H locs I F → lv_has ls 7 [(0, .ref h), (1, .int (nI k0)), (2, .int (nI base)), (3, .long (lN aa)), (5, .int (nI k)), (6, .int dd)] → W pg l en ({ frames := 2, cells := 0, slots := 0, locals := 40 }) s m ([.ref h, .int (nI k0), .int (nI base)] : List Value).toArray below meth c H locs 0 0 (MQ below (QM z D cA h a s.heap.size (vR (fun I' F' => rkP I F (scD T n k0 base) I' F'))) ([.ref h, .int (nI k0), .int (nI base)] : List Value).toArray s 0 0 (AM h a s.heap.size)) (F0 m 16 ls []) := by
    intro fu
    induction fu with
    | zero => intro k aa ac  dd  H locs ls hk1 hk2 hf ha ha2 hd hR hw hl; omega
    | succ fu ih =>
      intro k aa ac  dd  H locs ls hk1 hk2 hf ha ha2 hd hR hw hl
      refine lv_iload hx hb dM_readDigits_16 (lv_at hl 5 rfl) ?_
      refine lv_iload_n hx hb dM_readDigits_18 rfl (lv_at hl 2 rfl) ?_
      refine lv_icmp_ge (tgt := 60) hx hb dM_readDigits_19 (by decide) (fun c19 => ?_) (fun c19 => ?_)
      · skip
        have hend : dSc T base (n - k) k ac = (k, ac) := by
          rcases Nat.lt_or_ge k n with q | q
          · refine dSc_st q (fun z => ?_)
            rw [hd, see_in q] at c19
            rcases dg_cases (T k) with ⟨e1, _, e3⟩ | ⟨e1, _, e3⟩
            · rw [e3] at c19
              exact absurd c19 (nI_ge z (by omega))
            · omega
          · exact dSc_end q
        rw [hend] at hR
        refine lv_aload_n hx hb dM_readDigits_60 rfl (lv_at hl 0 rfl) ?_
        refine lv_iload hx hb dM_readDigits_61 (lv_at hl 4 rfl) ?_
        refine lv_iload_n hx hb dM_readDigits_63 rfl (lv_at hl 1 rfl) ?_
        refine lv_icmp_eq (tgt := 75) hx hb dM_readDigits_64 (by decide) (fun c64 => ?_) (fun c64 => ?_)
        · skip
          refine lv_bipush (v := 6) hx hb dM_readDigits_75 (by decide) ?_
          refine lv_goto (tgt := 81) hx hb dM_readDigits_77 (by decide) ?_
          refine pM17 S hw dM_readDigits_81 (fun H locs hw => ?_)
          refine lv_aload_n hx hb dM_readDigits_84 rfl (lv_at hl 0 rfl) ?_
          refine lv_lload_n hx hb dM_readDigits_85 rfl (lv_at hl 3 rfl) ?_
          refine lv_l2i (v := (lN aa).toInt32) hx hb dM_readDigits_86 rfl ?_
          refine pM18 S hw dM_readDigits_87 (fun H locs hw => ?_)
          refine lv_aload_n hx hb dM_readDigits_90 rfl (lv_at hl 0 rfl) ?_
          refine lv_iload hx hb dM_readDigits_91 (lv_at hl 4 rfl) ?_
          refine pM19 S hw dM_readDigits_93 (fun H locs hw => ?_)
          exact MM.vret S hr hlk hw dM_readDigits_96 ⟨rfl, rkP.bad (by unfold scD; rw [← hR, if_pos (Or.inl ((nI_eq (by omega) (by omega)).mp c64))]) (fun k a b c => by simp [upd, a, b, c]) rfl⟩
        · skip
          refine lv_lload_n hx hb dM_readDigits_67 rfl (lv_at hl 3 rfl) ?_
          refine lv_ldc2 (v := 4294967296) hx hb S.2.2.2.1 (S.2.2.2.2 _ (List.mem_cons_of_mem _ wclM)) dM_readDigits_68 ?_
          refine W.lcmp hx hb dM_readDigits_71 ?_
          refine lv_if_lt (tgt := 80) hx hb dM_readDigits_72 (by decide) (fun c72 => ?_) (fun c72 => ?_)
          · skip
            refine lv_iconst (v := 1) hx hb dM_readDigits_80 (by decide) ?_
            refine pM17 S hw dM_readDigits_81 (fun H locs hw => ?_)
            refine lv_aload_n hx hb dM_readDigits_84 rfl (lv_at hl 0 rfl) ?_
            refine lv_lload_n hx hb dM_readDigits_85 rfl (lv_at hl 3 rfl) ?_
            refine lv_l2i (v := (lN aa).toInt32) hx hb dM_readDigits_86 rfl ?_
            refine pM18 S hw dM_readDigits_87 (fun H locs hw => ?_)
            refine lv_aload_n hx hb dM_readDigits_90 rfl (lv_at hl 0 rfl) ?_
            refine lv_iload hx hb dM_readDigits_91 (lv_at hl 4 rfl) ?_
            refine pM19 S hw dM_readDigits_93 (fun H locs hw => ?_)
            exact MM.vret S hr hlk hw dM_readDigits_96 ⟨rfl, by
              have hlt := (cmp_lt0' (by omega)).mp c72
              have e1 : ac = aa := by omega
              exact rkP.ok (k := 1) (v := (lN aa).toInt32) (b := k) (tx := []) (by unfold scD; rw [← hR, e1, if_neg]; exact fun q => q.elim (fun q => c64 (congrArg nI q)) (fun q => absurd hlt (by omega))) (by decide) (fun k a b c => by simp [upd, a, b, c]) rfl rfl (fun _ => rfl)⟩
          · skip
            refine lv_bipush (v := 6) hx hb dM_readDigits_75 (by decide) ?_
            refine lv_goto (tgt := 81) hx hb dM_readDigits_77 (by decide) ?_
            refine pM17 S hw dM_readDigits_81 (fun H locs hw => ?_)
            refine lv_aload_n hx hb dM_readDigits_84 rfl (lv_at hl 0 rfl) ?_
            refine lv_lload_n hx hb dM_readDigits_85 rfl (lv_at hl 3 rfl) ?_
            refine lv_l2i (v := (lN aa).toInt32) hx hb dM_readDigits_86 rfl ?_
            refine pM18 S hw dM_readDigits_87 (fun H locs hw => ?_)
            refine lv_aload_n hx hb dM_readDigits_90 rfl (lv_at hl 0 rfl) ?_
            refine lv_iload hx hb dM_readDigits_91 (lv_at hl 4 rfl) ?_
            refine pM19 S hw dM_readDigits_93 (fun H locs hw => ?_)
            exact MM.vret S hr hlk hw dM_readDigits_96 ⟨rfl, rkP.bad (by unfold scD; rw [← hR, if_pos (Or.inr (by have := c72; rw [cmp_lt0' (by omega)] at this; omega))]) (fun k a b c => by simp [upd, a, b, c]) rfl⟩
      · skip
        have hlt : k < n := by
          rcases Nat.lt_or_ge k n with q | q
          · exact q
          · rw [hd, see_out q, dgM_out.1] at c19
            exact absurd (nI_le (a := base) (b := 99) (by omega) (by decide)) c19
        rw [see_in hlt] at hd
        have hdg : dgN (T k) < 16 ∧ dgM (T k) = nI (dgN (T k)) := by
          rcases dg_cases (T k) with ⟨e1, _, e3⟩ | ⟨e1, _, e3⟩
          · exact ⟨e1, e3⟩
          · rw [hd, e3] at c19
            exact absurd (nI_le (a := base) (b := 99) (by omega) (by decide)) c19
        rw [hdg.2] at hd
        subst hd
        have hl : lv_has ls 7 [(0, .ref h), (1, .int (nI k0)), (2, .int (nI base)), (3, .long (lN aa)), (5, .int (nI k)), (6, .int (nI (dgN (T k))))] := hl
        have hdb : dgN (T k) < base := Nat.lt_of_not_le (fun q => c19 (nI_le q (by omega)))
        refine lv_lload_n hx hb dM_readDigits_22 rfl (lv_at hl 3 rfl) ?_
        refine lv_ldc2 (v := 4294967296) hx hb S.2.2.2.1 (S.2.2.2.2 _ (List.mem_cons_of_mem _ wclM)) dM_readDigits_23 ?_
        refine W.lcmp hx hb dM_readDigits_26 ?_
        refine lv_if_lt (tgt := 34) hx hb dM_readDigits_27 (by decide) (fun c27 => ?_) (fun c27 => ?_)
        · skip
          refine lv_lload_n hx hb dM_readDigits_34 rfl (lv_at hl 3 rfl) ?_
          refine lv_iload_n hx hb dM_readDigits_35 rfl (lv_at hl 2 rfl) ?_
          refine lv_i2l (v := (nI base).toInt64) hx hb dM_readDigits_36 rfl ?_
          refine lv_lmul hx hb dM_readDigits_37 ?_
          refine lv_iload hx hb dM_readDigits_38 (lv_at hl 5 rfl) ?_
          refine lv_i2l (v := (nI (dgN (T k))).toInt64) hx hb dM_readDigits_40 rfl ?_
          refine lv_ladd hx hb dM_readDigits_41 ?_
          refine kz_topl (y := lN (aa * base + dgN (T k))) (by rw [nI_l (by omega), nI_l (by omega), lN_mul, lN_add]) ?_
          refine lv_lstore_n (lv' := [(3, .long (lN (aa * base + dgN (T k)))), (0, .ref h), (1, .int (nI k0)), (2, .int (nI base)), (5, .int (nI k)), (6, .int (nI (dgN (T k))))]) hx hb dM_readDigits_42 rfl hl (by decide) rfl (fun ls hl => ?_)
          refine lv_iinc (v := nI (k + 1)) (lv' := [(5, .int (nI (k + 1))), (3, .long (lN (aa * base + dgN (T k)))), (0, .ref h), (1, .int (nI k0)), (2, .int (nI base)), (6, .int (nI (dgN (T k))))]) hx hb dM_readDigits_43 hl (k := 4) rfl (nI_1 k) (by decide) rfl (fun ls hl => ?_)
          refine lv_aload_n hx hb dM_readDigits_46 rfl (lv_at hl 2 rfl) ?_
          refine lv_iload hx hb dM_readDigits_47 (lv_at hl 0 rfl) ?_
          refine kcMi (rest := []) S kM_74 rfl (tM_see l I F T n hT (k + 1) (by omega)) hw hA ⟨Nat.le_of_ble_eq_true rfl, Nat.le_of_ble_eq_true rfl⟩ rfl rfl ⟨Nat.zero_le _, Nat.zero_le _⟩ rfl hl.1 (Nat.le_of_ble_eq_true rfl) dM_readDigits_49 (fun r I' F' H locs hq hw => ?_)
          obtain ⟨hr1, hr2, hr3⟩ := hq
          rw [hr2, hr3] at hw
          subst hr1
          refine kcMS (rest := []) S kM_126 (tM_digit l z none (seeT T n (k + 1))) hw hA arNone ⟨Nat.le_of_ble_eq_true rfl, Nat.le_of_ble_eq_true rfl⟩ rfl rfl ⟨Nat.zero_le _, Nat.zero_le _⟩ rfl hl.1 (Nat.le_of_ble_eq_true rfl) dM_readDigits_52 (fun r H locs hq hw => ?_)
          subst hq
          refine lv_istore (lv' := [(6, .int (dgM (seeT T n (k + 1)))), (5, .int (nI (k + 1))), (3, .long (lN (aa * base + dgN (T k)))), (0, .ref h), (1, .int (nI k0)), (2, .int (nI base))]) hx hb dM_readDigits_55 hl (by decide) rfl (fun ls hl => ?_)
          refine lv_goto (tgt := 16) hx hb dM_readDigits_57 (by decide) ?_
          rw [dSc_go hlt hdb, ← acc_step (d := dgN (T k)) ha hb1, if_pos ((cmp_lt0' (by omega)).mp c27)] at hR
          exact ih (k + 1) (aa * base + dgN (T k)) _ _ H locs ls (by omega) (by omega) (by omega) rfl (by have h1 := (cmp_lt0' (by omega)).mp c27; have h2 : aa * base ≤ 4294967296 * 16 := Nat.mul_le_mul (Nat.le_of_lt h1) hb0; omega) rfl hR hw (lv_sub hl [3, 4, 5, 2, 1, 0] rfl)
        · skip
          refine lv_lload_n hx hb dM_readDigits_30 rfl (lv_at hl 3 rfl) ?_
          refine lv_goto (tgt := 42) hx hb dM_readDigits_31 (by decide) ?_
          refine lv_lstore_n (lv' := [(3, .long (lN aa)), (0, .ref h), (1, .int (nI k0)), (2, .int (nI base)), (5, .int (nI k)), (6, .int (nI (dgN (T k))))]) hx hb dM_readDigits_42 rfl hl (by decide) rfl (fun ls hl => ?_)
          refine lv_iinc (v := nI (k + 1)) (lv' := [(5, .int (nI (k + 1))), (3, .long (lN aa)), (0, .ref h), (1, .int (nI k0)), (2, .int (nI base)), (6, .int (nI (dgN (T k))))]) hx hb dM_readDigits_43 hl (k := 4) rfl (nI_1 k) (by decide) rfl (fun ls hl => ?_)
          refine lv_aload_n hx hb dM_readDigits_46 rfl (lv_at hl 2 rfl) ?_
          refine lv_iload hx hb dM_readDigits_47 (lv_at hl 0 rfl) ?_
          refine kcMi (rest := []) S kM_74 rfl (tM_see l I F T n hT (k + 1) (by omega)) hw hA ⟨Nat.le_of_ble_eq_true rfl, Nat.le_of_ble_eq_true rfl⟩ rfl rfl ⟨Nat.zero_le _, Nat.zero_le _⟩ rfl hl.1 (Nat.le_of_ble_eq_true rfl) dM_readDigits_49 (fun r I' F' H locs hq hw => ?_)
          obtain ⟨hr1, hr2, hr3⟩ := hq
          rw [hr2, hr3] at hw
          subst hr1
          refine kcMS (rest := []) S kM_126 (tM_digit l z none (seeT T n (k + 1))) hw hA arNone ⟨Nat.le_of_ble_eq_true rfl, Nat.le_of_ble_eq_true rfl⟩ rfl rfl ⟨Nat.zero_le _, Nat.zero_le _⟩ rfl hl.1 (Nat.le_of_ble_eq_true rfl) dM_readDigits_52 (fun r H locs hq hw => ?_)
          subst hq
          refine lv_istore (lv' := [(6, .int (dgM (seeT T n (k + 1)))), (5, .int (nI (k + 1))), (3, .long (lN aa)), (0, .ref h), (1, .int (nI k0)), (2, .int (nI base))]) hx hb dM_readDigits_55 hl (by decide) rfl (fun ls hl => ?_)
          refine lv_goto (tgt := 16) hx hb dM_readDigits_57 (by decide) ?_
          rw [dSc_go hlt hdb, ← acc_step (d := dgN (T k)) ha hb1, if_neg (by have := c27; rw [cmp_lt0' (by omega)] at this; exact this)] at hR
          exact ih (k + 1) aa _ _ H locs ls (by omega) (by omega) (by omega) rfl (by omega) rfl hR hw (lv_sub hl [3, 4, 5, 2, 1, 0] rfl)
  refine lv_lconst (v := 0) hx hb dM_readDigits_0 (by decide) ?_
  refine lv_lstore_n (lv' := [(3, .long 0), (0, .ref h), (1, .int (nI k0)), (2, .int (nI base))]) hx hb dM_readDigits_1 rfl hl (by decide) rfl (fun ls hl => ?_)
  refine lv_iload_n hx hb dM_readDigits_2 rfl (lv_at hl 2 rfl) ?_
  refine lv_istore (lv' := [(5, .int (nI k0)), (3, .long 0), (0, .ref h), (1, .int (nI k0)), (2, .int (nI base))]) hx hb dM_readDigits_3 hl (by decide) rfl (fun ls hl => ?_)
  refine lv_aload_n hx hb dM_readDigits_5 rfl (lv_at hl 2 rfl) ?_
  refine lv_iload hx hb dM_readDigits_6 (lv_at hl 0 rfl) ?_
  refine kcMi (rest := []) S kM_74 rfl (tM_see l I F T n hT k0 (by omega)) hw hA ⟨Nat.le_of_ble_eq_true rfl, Nat.le_of_ble_eq_true rfl⟩ rfl rfl ⟨Nat.zero_le _, Nat.zero_le _⟩ rfl hl.1 (Nat.le_of_ble_eq_true rfl) dM_readDigits_8 (fun r I' F' H locs hq hw => ?_)
  obtain ⟨hr1, hr2, hr3⟩ := hq
  rw [hr2, hr3] at hw
  subst hr1
  refine kcMS (rest := []) S kM_126 (tM_digit l z none (seeT T n k0)) hw hA arNone ⟨Nat.le_of_ble_eq_true rfl, Nat.le_of_ble_eq_true rfl⟩ rfl rfl ⟨Nat.zero_le _, Nat.zero_le _⟩ rfl hl.1 (Nat.le_of_ble_eq_true rfl) dM_readDigits_11 (fun r H locs hq hw => ?_)
  subst hq
  refine lv_istore (lv' := [(6, .int (dgM (seeT T n k0))), (5, .int (nI k0)), (3, .long 0), (0, .ref h), (1, .int (nI k0)), (2, .int (nI base))]) hx hb dM_readDigits_14 hl (by decide) rfl (fun ls hl => ?_)
  exact loop16 (n + 1003) k0 0 0 _ H locs ls (Nat.le_refl _) (Or.inr rfl) (by omega) rfl (by omega) rfl rfl hw (lv_sub hl [3, 4, 5, 2, 1, 0] rfl)
set_option maxHeartbeats 4000000 in
set_option maxRecDepth 100000 in
theorem tM_readByte (l : Launch) (I : Nat → Int32) (F : Nat → Nat → Int32) (T : Nat → Int32) (n : Nat) (hT : tpM T n I F) (p : Nat) (h15 : I 15 = nI p) (hp : p < n) : MM l yM_readByte cM_readByte 1 none ({ frames := 2, cells := 0, slots := 0, locals := 45 }) [] I F (vR (fun I' F' => rkP I F (scC T n p) I' F')) := by
  refine MM.mk (by decide) (fun _ => Nat.le_of_ble_eq_true rfl) ?_
  intro z D cA h a pg en s m below meth c ls S hr hlk hA hw hl
  have hx := S.1
  have hb := S.2.1
  have hl : lv_has ls 1 [(0, .ref h)] := hl
  have hn := hT.2.1
  have hnx : nextT T n (p + 1) ≤ p + 3 := by unfold nextT; split <;> omega
  refine lv_aload_n hx hb dM_readByte_0 rfl (lv_at hl 0 rfl) ?_
  refine lv_aload_n hx hb dM_readByte_1 rfl (lv_at hl 0 rfl) ?_
  refine lv_aload_n hx hb dM_readByte_2 rfl (lv_at hl 0 rfl) ?_
  refine gM15 S hw dM_readByte_3 ?_
  refine kz_top (y := nI p) h15 ?_
  refine lv_iconst (v := 1) hx hb dM_readByte_6 (by decide) ?_
  refine lv_iadd hx hb dM_readByte_7 ?_
  refine kz_top (y := nI (p + 1)) (nI_add p 1) ?_
  refine lv_bipush (v := 39) hx hb dM_readByte_8 (by decide) ?_
  refine kcMi (rest := [.ref h]) S kM_134 rfl (tM_meaning l I F T n hT (p + 1) (by omega) 39) hw hA ⟨Nat.le_of_ble_eq_true rfl, Nat.le_of_ble_eq_true rfl⟩ rfl rfl ⟨Nat.zero_le _, Nat.zero_le _⟩ rfl hl.1 (Nat.le_of_ble_eq_true rfl) dM_readByte_10 (fun r I' F' H locs hq hw => ?_)
  obtain ⟨hr1, hr2, hr3⟩ := hq
  rw [hr2, hr3] at hw
  subst hr1
  refine pM18 S hw dM_readByte_13 (fun H locs hw => ?_)
  refine lv_aload_n hx hb dM_readByte_16 rfl (lv_at hl 0 rfl) ?_
  refine lv_aload_n hx hb dM_readByte_17 rfl (lv_at hl 0 rfl) ?_
  refine lv_aload_n hx hb dM_readByte_18 rfl (lv_at hl 0 rfl) ?_
  refine gM15 S hw dM_readByte_19 ?_
  refine kz_top (y := nI p) h15 ?_
  refine lv_iconst (v := 1) hx hb dM_readByte_22 (by decide) ?_
  refine lv_iadd hx hb dM_readByte_23 ?_
  refine kz_top (y := nI (p + 1)) (nI_add p 1) ?_
  refine kcMi (rest := [.ref h]) S kM_138 rfl (tM_next l (upd I 18 (meanT T n (p + 1) 39)) F T n hT (p + 1) (by omega)) hw hA ⟨Nat.le_of_ble_eq_true rfl, Nat.le_of_ble_eq_true rfl⟩ rfl rfl ⟨Nat.zero_le _, Nat.zero_le _⟩ rfl hl.1 (Nat.le_of_ble_eq_true rfl) dM_readByte_24 (fun r I' F' H locs hq hw => ?_)
  obtain ⟨hr1, hr2, hr3⟩ := hq
  rw [hr2, hr3] at hw
  subst hr1
  refine lv_iconst (v := 1) hx hb dM_readByte_27 (by decide) ?_
  refine lv_iadd hx hb dM_readByte_28 ?_
  refine kz_top (y := nI (nextT T n (p + 1) + 1)) (nI_add (nextT T n (p + 1)) 1) ?_
  refine pM19 S hw dM_readByte_29 (fun H locs hw => ?_)
  refine lv_aload_n hx hb dM_readByte_32 rfl (lv_at hl 0 rfl) ?_
  refine lv_aload_n hx hb dM_readByte_33 rfl (lv_at hl 0 rfl) ?_
  refine gM18 S hw dM_readByte_34 ?_
  refine kz_top (y := meanT T n (p + 1) 39) rfl ?_
  refine lv_if_lt (tgt := 59) hx hb dM_readByte_37 (by decide) (fun c37 => ?_) (fun c37 => ?_)
  · skip
    refine lv_bipush (v := 6) hx hb dM_readByte_59 (by decide) ?_
    refine pM17 S hw dM_readByte_61 (fun H locs hw => ?_)
    exact MM.vret S hr hlk hw dM_readByte_64 ⟨rfl, rkP.bad (by unfold scC; rw [if_neg (fun q => mean_nn q.1 c37)]) (fun k a b c => by simp [upd, a, b, c]) rfl⟩
  · skip
    refine lv_aload_n hx hb dM_readByte_40 rfl (lv_at hl 0 rfl) ?_
    refine lv_aload_n hx hb dM_readByte_41 rfl (lv_at hl 0 rfl) ?_
    refine gM19 S hw dM_readByte_42 ?_
    refine kz_top (y := nI (nextT T n (p + 1) + 1)) rfl ?_
    refine lv_iconst (v := 1) hx hb dM_readByte_45 (by decide) ?_
    refine lv_isub hx hb dM_readByte_46 ?_
    refine kz_top (y := nI (nextT T n (p + 1))) (nI_pred _) ?_
    refine kcMi (rest := [.ref h]) S kM_74 rfl (tM_see l (upd (upd I 18 (meanT T n (p + 1) 39)) 19 (nI (nextT T n (p + 1) + 1))) F T n hT (nextT T n (p + 1)) (by omega)) hw hA ⟨Nat.le_of_ble_eq_true rfl, Nat.le_of_ble_eq_true rfl⟩ rfl rfl ⟨Nat.zero_le _, Nat.zero_le _⟩ rfl hl.1 (Nat.le_of_ble_eq_true rfl) dM_readByte_47 (fun r I' F' H locs hq hw => ?_)
    obtain ⟨hr1, hr2, hr3⟩ := hq
    rw [hr2, hr3] at hw
    subst hr1
    refine lv_bipush (v := 39) hx hb dM_readByte_50 (by decide) ?_
    refine lv_icmp_ne (tgt := 59) hx hb dM_readByte_52 (by decide) (fun c52 => ?_) (fun c52 => ?_)
    · skip
      refine lv_bipush (v := 6) hx hb dM_readByte_59 (by decide) ?_
      refine pM17 S hw dM_readByte_61 (fun H locs hw => ?_)
      exact MM.vret S hr hlk hw dM_readByte_64 ⟨rfl, rkP.bad (by unfold scC; rw [if_neg (fun q => c52 q.2)]) (fun k a b c => by simp [upd, a, b, c]) rfl⟩
    · skip
      refine lv_iconst (v := 1) hx hb dM_readByte_55 (by decide) ?_
      refine lv_goto (tgt := 61) hx hb dM_readByte_56 (by decide) ?_
      refine pM17 S hw dM_readByte_61 (fun H locs hw => ?_)
      exact MM.vret S hr hlk hw dM_readByte_64 ⟨rfl, rkP.ok (k := 1) (v := meanT T n (p + 1) 39) (b := nextT T n (p + 1) + 1) (tx := []) (by unfold scC; rw [if_pos ⟨fun q => c37 (by rw [q]; decide), c52⟩]) (by decide) (fun k a b c => by simp [upd, a, b, c]) rfl rfl (fun _ => rfl)⟩
