/-! ===== the class: a token is read, the tape is read ===== -/
def midX (T : Nat → Int32) (n : Nat) (ts : List kz_T) (p e L : Nat) (I : Nat → Int32) (F : Nat → Nat → Int32) : Prop := tpX T n I F ∧ repX ts e I F ∧ I 11 = nI p ∧ p ≤ n ∧ I 10 = nI e ∧ e ≤ p ∧ ts.length ≤ p ∧ I 12 = nI L ∧ L ≤ p
def rdX (T : Nat → Int32) (n : Nat) (ts : List kz_T) (p L : Nat) (r : Int32) (I' : Nat → Int32) (F' : Nat → Nat → Int32) : Prop := tpX T n I' F' ∧ I' 12 = nI L ∧ (p = n → r = 0 ∧ ∃ e', e' ≤ 1000 ∧ repX (ts ++ [(5, p, L, 0, [])]) e' I' F') ∧ (p < n → (scT T n p).1 = 6 → r = 0 ∧ ∃ e', e' ≤ 1000 ∧ repX (ts ++ [(6, p, L, 0, [])]) e' I' F') ∧ (p < n → ¬ (scT T n p).1 = 6 → r = 1 ∧ ∃ e', repX (addT ts p L (scT T n p)) e' I' F' ∧ I' 10 = nI e' ∧ I' 11 = nI (scT T n p).2.2.1 ∧ e' ≤ (scT T n p).2.2.1 ∧ (addT ts p L (scT T n p)).length ≤ (scT T n p).2.2.1)
theorem addT_y {ts : List kz_T} {p L : Nat} {q : kz_S} (h : semT ts L q.1 q.2.2.2 = true) : addT ts p L q = (ts ++ [(3, p, L, 0, [59])]) ++ [(q.1, p, L, q.2.1, q.2.2.2)] := by unfold addT; rw [if_pos h]
theorem addT_n {ts : List kz_T} {p L : Nat} {q : kz_S} (h : ¬ semT ts L q.1 q.2.2.2 = true) : addT ts p L q = ts ++ [(q.1, p, L, q.2.1, q.2.2.2)] := by unfold addT; rw [if_neg h, List.append_nil]
set_option maxHeartbeats 4000000 in
set_option maxRecDepth 100000 in
theorem tX_readToken (l : Launch) (I : Nat → Int32) (F : Nat → Nat → Int32) (T : Nat → Int32) (n : Nat) (ts : List kz_T) (p e L : Nat) (hi : midX T n ts p e L I F) (hok : allOK ts) (hs : ∀ t, ts.getLast? = some t → t.2.2.1 < L → ts.length + 1 ≤ p ∧ e + 1 ≤ p) : MX l yX_readToken cX_readToken 5 (some .boolean) ({ frames := 8, cells := 0, slots := 0, locals := 178 }) [] I F (iR (fun r I' F' => rdX T n ts p L r I' F')) := by
  refine MX.mk (by decide) (fun _ => Nat.le_of_ble_eq_true rfl) ?_
  intro z D cA h a pg en s m below meth c ls S hr hlk hA hw hl
  have hx := S.1
  have hb := S.2.1
  have hl : lv_has ls 5 [(0, .ref h)] := hl
  obtain ⟨hT, hrp, h11, hp, h10, he, hc, h12, hL⟩ := hi
  have hn := hT.2.1
  refine lv_aload_n hx hb dX_readToken_0 rfl (lv_at hl 0 rfl) ?_
  refine gX11 S hw dX_readToken_1 ?_
  refine kz_top (y := nI p) h11 ?_
  refine lv_istore_n (lv' := [(1, .int (nI p)), (0, .ref h)]) hx hb dX_readToken_4 rfl hl (by decide) rfl (fun ls hl => ?_)
  refine lv_aload_n hx hb dX_readToken_5 rfl (lv_at hl 1 rfl) ?_
  refine gX10 S hw dX_readToken_6 ?_
  refine kz_top (y := nI e) h10 ?_
  refine lv_istore_n (lv' := [(2, .int (nI e)), (1, .int (nI p)), (0, .ref h)]) hx hb dX_readToken_9 rfl hl (by decide) rfl (fun ls hl => ?_)
  refine lv_aload_n hx hb dX_readToken_10 rfl (lv_at hl 2 rfl) ?_
  refine lv_iconst (v := 0) hx hb dX_readToken_11 (by decide) ?_
  refine pX13 S hw dX_readToken_12 (fun H locs hw => ?_)
  refine lv_aload_n hx hb dX_readToken_15 rfl (lv_at hl 2 rfl) ?_
  refine kcXi (rest := []) S kX_88 rfl (tX_takeToken l (upd I 13 0) F T n hT p e h11 hp h10 he rfl) hw hA ⟨Nat.le_of_ble_eq_true rfl, Nat.le_of_ble_eq_true rfl⟩ rfl rfl ⟨Nat.zero_le _, Nat.zero_le _⟩ rfl hl.1 (Nat.le_of_ble_eq_true rfl) dX_readToken_16 (fun r I1 F1 H locs hq hw => ?_)
  rcases Nat.lt_or_eq_of_le hp with hp | hp
  · skip
    have hq := hq.2 hp
    have hkk := scT_ok (T := T) hp
    rcases hse : scT T n p with ⟨k, v, b, tx⟩
    rw [hse] at hq hkk
    obtain ⟨hrk, qI, qF, qB, q6, qn⟩ := hq
    have hrk : k = r := hrk.symm
    subst hrk
    have hrp1 : repX ts e I1 F1 := hrp.frame (qI 8 (by decide) (by decide) (by decide)) qF qB
    have hT1 : tpX T n I1 F1 := hT.of (qI 1 (by decide) (by decide) (by decide)) (qF 0 (by decide))
    have g12 : I1 12 = nI L := (qI 12 (by decide) (by decide) (by decide)).trans h12
    by_cases hk6 : k = 6
    · skip
      subst hk6
      have g13 : I1 13 = 0 := q6 rfl
      refine lv_istore_n (lv' := [(3, .int 6), (2, .int (nI e)), (1, .int (nI p)), (0, .ref h)]) hx hb dX_readToken_19 rfl hl (by decide) rfl (fun ls hl => ?_)
      refine lv_iload_n hx hb dX_readToken_20 rfl (lv_at hl 0 rfl) ?_
      refine lv_bipush (v := 6) hx hb dX_readToken_21 (by decide) ?_
      refine lv_icmp_ne (tgt := 31) hx hb dX_readToken_23 (by decide) (fun c23 => absurd c23 (by decide)) (fun c23 => ?_)
      refine lv_aload_n hx hb dX_readToken_26 rfl (lv_at hl 3 rfl) ?_
      refine lv_iload_n hx hb dX_readToken_27 rfl (lv_at hl 1 rfl) ?_
      refine pX10 S hw dX_readToken_28 (fun H locs hw => ?_)
      refine lv_aload_n hx hb dX_readToken_31 rfl (lv_at hl 3 rfl) ?_
      refine gX10 S hw dX_readToken_32 ?_
      refine kz_top (y := nI e) rfl ?_
      refine lv_iload_n hx hb dX_readToken_35 rfl (lv_at hl 1 rfl) ?_
      refine lv_isub hx hb dX_readToken_36 ?_
      refine kz_top (y := nI ([] : List Int32).length) ((pk_sub (Nat.le_refl _)).trans (by rw [Nat.sub_self]; rfl)) ?_
      refine lv_istore (lv' := [(4, .int (nI ([] : List Int32).length)), (3, .int 6), (2, .int (nI e)), (1, .int (nI p)), (0, .ref h)]) hx hb dX_readToken_37 hl (by decide) rfl (fun ls hl => ?_)
      refine lv_aload_n hx hb dX_readToken_39 rfl (lv_at hl 4 rfl) ?_
      refine lv_iload_n hx hb dX_readToken_40 rfl (lv_at hl 1 rfl) ?_
      refine lv_iload_n hx hb dX_readToken_41 rfl (lv_at hl 2 rfl) ?_
      refine lv_iload hx hb dX_readToken_42 (lv_at hl 0 rfl) ?_
      refine kcXi (rest := []) S kX_92 rfl (tX_isSemicolonDue l (upd I1 10 (nI e)) F1 ts e L (hrp1.frame rfl (fun _ _ => rfl) (fun _ _ => rfl)) (by omega) g12 (by omega) 6 e [] (by simp only [List.length_nil]; omega) (fun j x hj => by simp at hj)) hw hA ⟨Nat.le_of_ble_eq_true rfl, Nat.le_of_ble_eq_true rfl⟩ rfl rfl ⟨Nat.zero_le _, Nat.zero_le _⟩ rfl hl.1 (Nat.le_of_ble_eq_true rfl) dX_readToken_44 (fun r I' F' H locs hq hw => ?_)
      obtain ⟨hr1, hr2, hr3⟩ := hq
      rw [hr2, hr3] at hw
      rw [if_neg (sem_56 (Or.inr rfl))] at hr1
      subst hr1
      refine lv_if_eq (tgt := 55) hx hb dX_readToken_47 (by decide) (fun c47 => ?_) (fun c47 => absurd c47 (by decide))
      refine lv_aload_n hx hb dX_readToken_55 rfl (lv_at hl 4 rfl) ?_
      refine lv_iload_n hx hb dX_readToken_56 rfl (lv_at hl 1 rfl) ?_
      refine lv_iload_n hx hb dX_readToken_57 rfl (lv_at hl 3 rfl) ?_
      refine lv_aload_n hx hb dX_readToken_58 rfl (lv_at hl 4 rfl) ?_
      refine gX13 S hw dX_readToken_59 ?_
      refine kz_top (y := 0) g13 ?_
      refine lv_iload_n hx hb dX_readToken_62 rfl (lv_at hl 2 rfl) ?_
      refine lv_iload hx hb dX_readToken_63 (lv_at hl 0 rfl) ?_
      refine kcXv (rest := []) S kX_99 rfl (tX_addToken l (upd I1 10 (nI e)) F1 ts.length hrp1.1 (by omega) (nI L) g12 6 (nI p) 0 (nI e) (nI ([] : List Int32).length)) hw hA ⟨Nat.le_of_ble_eq_true rfl, Nat.le_of_ble_eq_true rfl⟩ rfl rfl ⟨Nat.zero_le _, Nat.zero_le _⟩ rfl hl.1 (Nat.le_of_ble_eq_true rfl) dX_readToken_65 (fun I3 F3 H locs hs4 hw => ?_)
      obtain ⟨rfl, hA3⟩ := hs4
      refine lv_iload_n hx hb dX_readToken_68 rfl (lv_at hl 1 rfl) ?_
      refine lv_iconst (v := 5) hx hb dX_readToken_69 (by decide) ?_
      refine lv_icmp_eq (tgt := 83) hx hb dX_readToken_70 (by decide) (fun c70 => absurd c70 (by decide)) (fun c70 => ?_)
      refine lv_iload_n hx hb dX_readToken_73 rfl (lv_at hl 1 rfl) ?_
      refine lv_bipush (v := 6) hx hb dX_readToken_74 (by decide) ?_
      refine lv_icmp_eq (tgt := 83) hx hb dX_readToken_76 (by decide) (fun c76 => ?_) (fun c76 => absurd c76 (by decide))
      refine lv_iconst (v := 0) hx hb dX_readToken_83 (by decide) ?_
      exact MX.iret S hr hlk hw dX_readToken_84 (by first | rfl | decide) ⟨_, rfl, hT1.of rfl hA3.2.2.2.2.2.2.1, g12, fun q => absurd q (by omega), fun _ _ => ⟨rfl, e, by omega, (hrp1.frame rfl (fun _ _ => rfl) (fun _ _ => rfl)).add (by omega) hA3 rfl (fun j x hj => by simp at hj) (Nat.le_refl _) (by simp) (by omega)⟩, fun _ q => absurd (by rw [hse]) q⟩
    · skip
      obtain ⟨g11, g13, g10, gt⟩ := qn hk6
      obtain ⟨o1, o2, o3, o4, o5⟩ := hkk hk6
      have o1 : p < b := o1
      have o2 : b ≤ n := o2
      have o3 : p + tx.length ≤ b := o3
      refine lv_istore_n (lv' := [(3, .int k), (2, .int (nI e)), (1, .int (nI p)), (0, .ref h)]) hx hb dX_readToken_19 rfl hl (by decide) rfl (fun ls hl => ?_)
      refine lv_iload_n hx hb dX_readToken_20 rfl (lv_at hl 0 rfl) ?_
      refine lv_bipush (v := 6) hx hb dX_readToken_21 (by decide) ?_
      refine lv_icmp_ne (tgt := 31) hx hb dX_readToken_23 (by decide) (fun c23 => ?_) (fun c23 => absurd c23 hk6)
      refine lv_aload_n hx hb dX_readToken_31 rfl (lv_at hl 3 rfl) ?_
      refine gX10 S hw dX_readToken_32 ?_
      refine kz_top (y := nI (e + tx.length)) g10 ?_
      refine lv_iload_n hx hb dX_readToken_35 rfl (lv_at hl 1 rfl) ?_
      refine lv_isub hx hb dX_readToken_36 ?_
      refine kz_top (y := nI tx.length) ((pk_sub (Nat.le_add_right _ _)).trans (by rw [Nat.add_sub_cancel_left])) ?_
      refine lv_istore (lv' := [(4, .int (nI tx.length)), (3, .int k), (2, .int (nI e)), (1, .int (nI p)), (0, .ref h)]) hx hb dX_readToken_37 hl (by decide) rfl (fun ls hl => ?_)
      refine lv_aload_n hx hb dX_readToken_39 rfl (lv_at hl 4 rfl) ?_
      refine lv_iload_n hx hb dX_readToken_40 rfl (lv_at hl 1 rfl) ?_
      refine lv_iload_n hx hb dX_readToken_41 rfl (lv_at hl 2 rfl) ?_
      refine lv_iload hx hb dX_readToken_42 (lv_at hl 0 rfl) ?_
      refine kcXi (rest := []) S kX_92 rfl (tX_isSemicolonDue l I1 F1 ts e L (hrp1.frame rfl (fun _ _ => rfl) (fun _ _ => rfl)) (by omega) g12 (by omega) k e tx (by omega) gt) hw hA ⟨Nat.le_of_ble_eq_true rfl, Nat.le_of_ble_eq_true rfl⟩ rfl rfl ⟨Nat.zero_le _, Nat.zero_le _⟩ rfl hl.1 (Nat.le_of_ble_eq_true rfl) dX_readToken_44 (fun r I' F' H locs hq hw => ?_)
      obtain ⟨hr1, hr2, hr3⟩ := hq
      rw [hr2, hr3] at hw
      rw [sem_iff hok o4] at hr1
      rcases bI hr1 with ⟨hS, rfl⟩ | ⟨hS, rfl⟩
      · skip
        obtain ⟨tl, htl, hll⟩ := sem_line hS
        obtain ⟨hs1, hs2⟩ := hs tl htl hll
        refine lv_if_eq (tgt := 55) hx hb dX_readToken_47 (by decide) (fun c47 => absurd c47 (by decide)) (fun c47 => ?_)
        refine lv_aload_n hx hb dX_readToken_50 rfl (lv_at hl 4 rfl) ?_
        refine lv_iload_n hx hb dX_readToken_51 rfl (lv_at hl 3 rfl) ?_
        refine kcXv (rest := []) S kX_96 rfl (tX_addSemicolon l I1 F1 ts.length (e + tx.length) hrp1.1 (by omega) g10 (by omega) (nI L) g12 (nI p)) hw hA ⟨Nat.le_of_ble_eq_true rfl, Nat.le_of_ble_eq_true rfl⟩ rfl rfl ⟨Nat.zero_le _, Nat.zero_le _⟩ rfl hl.1 (Nat.le_of_ble_eq_true rfl) dX_readToken_52 (fun I2 F2 H locs hs3 hw => ?_)
        obtain ⟨rfl, hA2⟩ := hs3
        refine lv_aload_n hx hb dX_readToken_55 rfl (lv_at hl 4 rfl) ?_
        refine lv_iload_n hx hb dX_readToken_56 rfl (lv_at hl 1 rfl) ?_
        refine lv_iload_n hx hb dX_readToken_57 rfl (lv_at hl 3 rfl) ?_
        refine lv_aload_n hx hb dX_readToken_58 rfl (lv_at hl 4 rfl) ?_
        refine gX13 S hw dX_readToken_59 ?_
        refine kz_top (y := v) g13 ?_
        refine lv_iload_n hx hb dX_readToken_62 rfl (lv_at hl 2 rfl) ?_
        refine lv_iload hx hb dX_readToken_63 (lv_at hl 0 rfl) ?_
        refine kcXv (rest := []) S kX_99 rfl (tX_addToken l (upd (upd I1 10 (nI (e + tx.length + 1))) 8 (nI (ts.length + 1))) F2 (ts.length + 1) rfl (by omega) (nI L) g12 k (nI p) v (nI e) (nI tx.length)) hw hA ⟨Nat.le_of_ble_eq_true rfl, Nat.le_of_ble_eq_true rfl⟩ rfl rfl ⟨Nat.zero_le _, Nat.zero_le _⟩ rfl hl.1 (Nat.le_of_ble_eq_true rfl) dX_readToken_65 (fun I3 F3 H locs hs4 hw => ?_)
        obtain ⟨rfl, hA3⟩ := hs4
        refine lv_iload_n hx hb dX_readToken_68 rfl (lv_at hl 1 rfl) ?_
        refine lv_iconst (v := 5) hx hb dX_readToken_69 (by decide) ?_
        refine lv_icmp_eq (tgt := 83) hx hb dX_readToken_70 (by decide) (fun c70 => absurd c70 o5) (fun c70 => ?_)
        refine lv_iload_n hx hb dX_readToken_73 rfl (lv_at hl 1 rfl) ?_
        refine lv_bipush (v := 6) hx hb dX_readToken_74 (by decide) ?_
        refine lv_icmp_eq (tgt := 83) hx hb dX_readToken_76 (by decide) (fun c76 => absurd c76 hk6) (fun c76 => ?_)
        refine lv_iconst (v := 1) hx hb dX_readToken_79 (by decide) ?_
        refine lv_goto (tgt := 84) hx hb dX_readToken_80 (by decide) ?_
        exact MX.iret S hr hlk hw dX_readToken_84 (by first | rfl | decide) ⟨_, rfl, (hT1.of rfl (hA3.2.2.2.2.2.2.1.trans hA2.2.2.2.2.2.2.1)), g12, fun q => absurd q (by omega), fun _ q => absurd (show k = 6 by rw [hse] at q; exact q) hk6, fun _ _ => by
          rw [hse, addT_y hS]
          have hrpm : repX ts e I1 (va_up F1 9 (upd (F1 9) (e + tx.length) 59)) := hrp1.frame rfl (fun k hk => va_up_ne _ _ hk) (fun j hj => pk_un (by omega))
          have hrp2 := hrpm.add (e' := e + tx.length + 1) (p := p) (L := L) (b0 := e + tx.length) (k := 3) (v := 0) (tx := [59]) (I' := upd (upd I1 10 (nI (e + tx.length + 1))) 8 (nI (ts.length + 1))) (F' := F2) (by omega) hA2 rfl (fun j x hj => by
            have hz := (List.getElem?_eq_some_iff.mp hj).1
            simp only [List.length_singleton] at hz
            have e1 : j = 0 := by omega
            subst e1
            cases hj
            exact pk_us) (by omega) (by simp) (by omega)
          have hl2 : (ts ++ [((3 : Int32), p, L, (0 : Int32), [(59 : Int32)])]).length = ts.length + 1 := by rw [List.length_append]; rfl
          have hrp3 := hrp2.add (e' := e + tx.length + 1) (p := p) (L := L) (b0 := e) (k := k) (v := v) (tx := tx) (I' := upd (upd (upd I1 10 (nI (e + tx.length + 1))) 8 (nI (ts.length + 1))) 8 (nI (ts.length + 1 + 1))) (F' := F3) (by rw [hl2]; omega) (by rw [hl2]; exact hA3) (by rw [hl2]; rfl) (fun j x hj => by
            have hz := (List.getElem?_eq_some_iff.mp hj).1
            rw [hA2.2.2.2.2.2.2.2]
            show upd (F1 9) (e + tx.length) 59 (e + j) = x
            rw [pk_un (by omega)]
            exact gt j x hj) (Nat.le_refl _) (by omega) (by omega)
          refine ⟨rfl, e + tx.length + 1, hrp3, rfl, g11, ?_, ?_⟩
          · show e + tx.length + 1 ≤ b; omega
          · show ((ts ++ [_]) ++ [_]).length ≤ b
            rw [List.length_append, hl2]
            simp only [List.length_singleton]
            omega⟩
      · skip
        refine lv_if_eq (tgt := 55) hx hb dX_readToken_47 (by decide) (fun c47 => ?_) (fun c47 => absurd c47 (by decide))
        refine lv_aload_n hx hb dX_readToken_55 rfl (lv_at hl 4 rfl) ?_
        refine lv_iload_n hx hb dX_readToken_56 rfl (lv_at hl 1 rfl) ?_
        refine lv_iload_n hx hb dX_readToken_57 rfl (lv_at hl 3 rfl) ?_
        refine lv_aload_n hx hb dX_readToken_58 rfl (lv_at hl 4 rfl) ?_
        refine gX13 S hw dX_readToken_59 ?_
        refine kz_top (y := v) g13 ?_
        refine lv_iload_n hx hb dX_readToken_62 rfl (lv_at hl 2 rfl) ?_
        refine lv_iload hx hb dX_readToken_63 (lv_at hl 0 rfl) ?_
        refine kcXv (rest := []) S kX_99 rfl (tX_addToken l I1 F1 ts.length hrp1.1 (by omega) (nI L) g12 k (nI p) v (nI e) (nI tx.length)) hw hA ⟨Nat.le_of_ble_eq_true rfl, Nat.le_of_ble_eq_true rfl⟩ rfl rfl ⟨Nat.zero_le _, Nat.zero_le _⟩ rfl hl.1 (Nat.le_of_ble_eq_true rfl) dX_readToken_65 (fun I3 F3 H locs hs4 hw => ?_)
        obtain ⟨rfl, hA3⟩ := hs4
        refine lv_iload_n hx hb dX_readToken_68 rfl (lv_at hl 1 rfl) ?_
        refine lv_iconst (v := 5) hx hb dX_readToken_69 (by decide) ?_
        refine lv_icmp_eq (tgt := 83) hx hb dX_readToken_70 (by decide) (fun c70 => absurd c70 o5) (fun c70 => ?_)
        refine lv_iload_n hx hb dX_readToken_73 rfl (lv_at hl 1 rfl) ?_
        refine lv_bipush (v := 6) hx hb dX_readToken_74 (by decide) ?_
        refine lv_icmp_eq (tgt := 83) hx hb dX_readToken_76 (by decide) (fun c76 => absurd c76 hk6) (fun c76 => ?_)
        refine lv_iconst (v := 1) hx hb dX_readToken_79 (by decide) ?_
        refine lv_goto (tgt := 84) hx hb dX_readToken_80 (by decide) ?_
        exact MX.iret S hr hlk hw dX_readToken_84 (by first | rfl | decide) ⟨_, rfl, hT1.of rfl hA3.2.2.2.2.2.2.1, g12, fun q => absurd q (by omega), fun _ q => absurd (show k = 6 by rw [hse] at q; exact q) hk6, fun _ _ => by
          rw [hse, addT_n hS]
          refine ⟨rfl, e + tx.length, (hrp1.frame rfl (fun _ _ => rfl) (fun _ _ => rfl)).add (by omega) hA3 rfl gt (by omega) (Nat.le_refl _) (by omega), g10, g11, ?_, ?_⟩
          · show e + tx.length ≤ b; omega
          · show (ts ++ [_]).length ≤ b
            rw [List.length_append]
            simp only [List.length_singleton]
            omega⟩
  · skip
    obtain ⟨rfl, hI1, hF1⟩ := hq.1 hp
    rw [hI1, hF1] at hw
    refine lv_istore_n (lv' := [(3, .int 5), (2, .int (nI e)), (1, .int (nI p)), (0, .ref h)]) hx hb dX_readToken_19 rfl hl (by decide) rfl (fun ls hl => ?_)
    refine lv_iload_n hx hb dX_readToken_20 rfl (lv_at hl 0 rfl) ?_
    refine lv_bipush (v := 6) hx hb dX_readToken_21 (by decide) ?_
    refine lv_icmp_ne (tgt := 31) hx hb dX_readToken_23 (by decide) (fun c23 => ?_) (fun c23 => absurd c23 (by decide))
    refine lv_aload_n hx hb dX_readToken_31 rfl (lv_at hl 3 rfl) ?_
    refine gX10 S hw dX_readToken_32 ?_
    refine kz_top (y := nI e) h10 ?_
    refine lv_iload_n hx hb dX_readToken_35 rfl (lv_at hl 1 rfl) ?_
    refine lv_isub hx hb dX_readToken_36 ?_
    refine kz_top (y := nI ([] : List Int32).length) ((pk_sub (Nat.le_refl _)).trans (by rw [Nat.sub_self]; rfl)) ?_
    refine lv_istore (lv' := [(4, .int (nI ([] : List Int32).length)), (3, .int 5), (2, .int (nI e)), (1, .int (nI p)), (0, .ref h)]) hx hb dX_readToken_37 hl (by decide) rfl (fun ls hl => ?_)
    refine lv_aload_n hx hb dX_readToken_39 rfl (lv_at hl 4 rfl) ?_
    refine lv_iload_n hx hb dX_readToken_40 rfl (lv_at hl 1 rfl) ?_
    refine lv_iload_n hx hb dX_readToken_41 rfl (lv_at hl 2 rfl) ?_
    refine lv_iload hx hb dX_readToken_42 (lv_at hl 0 rfl) ?_
    refine kcXi (rest := []) S kX_92 rfl (tX_isSemicolonDue l (upd I 13 0) F ts e L (hrp.frame rfl (fun _ _ => rfl) (fun _ _ => rfl)) (by omega) h12 (by omega) 5 e [] (by simp only [List.length_nil]; omega) (fun j x hj => by simp at hj)) hw hA ⟨Nat.le_of_ble_eq_true rfl, Nat.le_of_ble_eq_true rfl⟩ rfl rfl ⟨Nat.zero_le _, Nat.zero_le _⟩ rfl hl.1 (Nat.le_of_ble_eq_true rfl) dX_readToken_44 (fun r I' F' H locs hq hw => ?_)
    obtain ⟨hr1, hr2, hr3⟩ := hq
    rw [hr2, hr3] at hw
    rw [if_neg (sem_56 (Or.inl rfl))] at hr1
    subst hr1
    refine lv_if_eq (tgt := 55) hx hb dX_readToken_47 (by decide) (fun c47 => ?_) (fun c47 => absurd c47 (by decide))
    refine lv_aload_n hx hb dX_readToken_55 rfl (lv_at hl 4 rfl) ?_
    refine lv_iload_n hx hb dX_readToken_56 rfl (lv_at hl 1 rfl) ?_
    refine lv_iload_n hx hb dX_readToken_57 rfl (lv_at hl 3 rfl) ?_
    refine lv_aload_n hx hb dX_readToken_58 rfl (lv_at hl 4 rfl) ?_
    refine gX13 S hw dX_readToken_59 ?_
    refine kz_top (y := 0) rfl ?_
    refine lv_iload_n hx hb dX_readToken_62 rfl (lv_at hl 2 rfl) ?_
    refine lv_iload hx hb dX_readToken_63 (lv_at hl 0 rfl) ?_
    refine kcXv (rest := []) S kX_99 rfl (tX_addToken l (upd I 13 0) F ts.length hrp.1 (by omega) (nI L) h12 5 (nI p) 0 (nI e) (nI ([] : List Int32).length)) hw hA ⟨Nat.le_of_ble_eq_true rfl, Nat.le_of_ble_eq_true rfl⟩ rfl rfl ⟨Nat.zero_le _, Nat.zero_le _⟩ rfl hl.1 (Nat.le_of_ble_eq_true rfl) dX_readToken_65 (fun I3 F3 H locs hs4 hw => ?_)
    obtain ⟨rfl, hA3⟩ := hs4
    refine lv_iload_n hx hb dX_readToken_68 rfl (lv_at hl 1 rfl) ?_
    refine lv_iconst (v := 5) hx hb dX_readToken_69 (by decide) ?_
    refine lv_icmp_eq (tgt := 83) hx hb dX_readToken_70 (by decide) (fun c70 => ?_) (fun c70 => absurd c70 (by decide))
    refine lv_iconst (v := 0) hx hb dX_readToken_83 (by decide) ?_
    exact MX.iret S hr hlk hw dX_readToken_84 (by first | rfl | decide) ⟨_, rfl, hT.of rfl hA3.2.2.2.2.2.2.1, h12, fun _ => ⟨rfl, e, by omega, (hrp.frame rfl (fun _ _ => rfl) (fun _ _ => rfl)).add (by omega) hA3 rfl (fun j x hj => by simp at hj) (Nat.le_refl _) (by simp) (by omega)⟩, fun q => absurd q (by omega), fun q => absurd q (by omega)⟩
