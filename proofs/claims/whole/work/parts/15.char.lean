theorem mean_star {T : Nat → Int32} {n k : Nat} {mark : Int32} (h : seeT T n k = 42) : meanT T n k mark = starB (seeT T n (k + 1)) ∧ nextT T n k = k + 2 := by
  unfold meanT nextT
  rw [if_pos h, if_pos h]; exact ⟨rfl, rfl⟩
theorem mean_no {T : Nat → Int32} {n k : Nat} {mark : Int32} (h : ¬ seeT T n k = 42) : meanT T n k mark = (if ¬ seeT T n k < 32 ∧ ¬ 126 < seeT T n k ∧ ¬ seeT T n k = mark then seeT T n k else -1) ∧ nextT T n k = k + 1 := by
  unfold meanT nextT
  rw [if_neg h, if_neg h]; exact ⟨rfl, rfl⟩
set_option maxHeartbeats 4000000 in
set_option maxRecDepth 100000 in
theorem tX_takeMeantByte (l : Launch) (I : Nat → Int32) (F : Nat → Nat → Int32) (T : Nat → Int32) (n : Nat) (hT : tpX T n I F) (p : Nat) (h11 : I 11 = nI p) (hp : p < 2000) (x : Int32) : MX l yX_takeMeantByte cX_takeMeantByte 4 (some .int) ({ frames := 2, cells := 0, slots := 0, locals := 42 }) [.int x] I F (iR (fun r I' F' => r = meanT T n p x ∧ I' = upd I 11 (nI (nextT T n p)) ∧ F' = F)) := by
  refine MX.mk (by decide) (fun _ => Nat.le_of_ble_eq_true rfl) ?_
  intro z D cA h a pg en s m below meth c ls S hr hlk hA hw hl
  have hx := S.1
  have hb := S.2.1
  have hl : lv_has ls 4 [(0, .ref h), (1, .int x)] := hl
  refine lv_aload_n hx hb dX_takeMeantByte_0 rfl (lv_at hl 0 rfl) ?_
  refine lv_aload_n hx hb dX_takeMeantByte_1 rfl (lv_at hl 0 rfl) ?_
  refine gX11 S hw dX_takeMeantByte_2 ?_
  refine kz_top (y := nI p) h11 ?_
  refine kcXi (rest := []) S kX_81 rfl (tX_tapeByte l I F T n hT p (by omega)) hw hA ⟨Nat.le_of_ble_eq_true rfl, Nat.le_of_ble_eq_true rfl⟩ rfl rfl ⟨Nat.zero_le _, Nat.zero_le _⟩ rfl hl.1 (Nat.le_of_ble_eq_true rfl) dX_takeMeantByte_5 (fun r I' F' H locs hq hw => ?_)
  obtain ⟨hr1, hr2, hr3⟩ := hq
  rw [hr2, hr3] at hw
  subst hr1
  refine lv_istore_n (lv' := [(2, .int (seeT T n p)), (0, .ref h), (1, .int x)]) hx hb dX_takeMeantByte_8 rfl hl (by decide) rfl (fun ls hl => ?_)
  refine lv_iload_n hx hb dX_takeMeantByte_9 rfl (lv_at hl 0 rfl) ?_
  refine lv_bipush (v := 42) hx hb dX_takeMeantByte_10 (by decide) ?_
  refine lv_icmp_ne (tgt := 41) hx hb dX_takeMeantByte_12 (by decide) (fun c12 => ?_) (fun c12 => ?_)
  · skip
    refine lv_aload_n hx hb dX_takeMeantByte_41 rfl (lv_at hl 1 rfl) ?_
    refine lv_dup hx hb dX_takeMeantByte_42 rfl ?_
    refine gX11 S hw dX_takeMeantByte_43 ?_
    refine kz_top (y := nI p) h11 ?_
    refine lv_iconst (v := 1) hx hb dX_takeMeantByte_46 (by decide) ?_
    refine lv_iadd hx hb dX_takeMeantByte_47 ?_
    refine kz_top (y := nI (p + 1)) (nI_add p 1) ?_
    refine pX11 S hw dX_takeMeantByte_48 (fun H locs hw => ?_)
    refine lv_iload_n hx hb dX_takeMeantByte_51 rfl (lv_at hl 0 rfl) ?_
    refine lv_bipush (v := 32) hx hb dX_takeMeantByte_52 (by decide) ?_
    refine lv_icmp_lt (tgt := 72) hx hb dX_takeMeantByte_54 (by decide) (fun c54 => ?_) (fun c54 => ?_)
    · skip
      refine lv_iconst (v := (-1)) hx hb dX_takeMeantByte_72 (by decide) ?_
      exact MX.iret S hr hlk hw dX_takeMeantByte_73 rfl ⟨_, rfl, by rw [(mean_no c12).1]; simp [c54], by rw [(mean_no (mark := x) c12).2], rfl⟩
    · skip
      refine lv_iload_n hx hb dX_takeMeantByte_57 rfl (lv_at hl 0 rfl) ?_
      refine lv_bipush (v := 126) hx hb dX_takeMeantByte_58 (by decide) ?_
      refine lv_icmp_gt (tgt := 72) hx hb dX_takeMeantByte_60 (by decide) (fun c60 => ?_) (fun c60 => ?_)
      · skip
        refine lv_iconst (v := (-1)) hx hb dX_takeMeantByte_72 (by decide) ?_
        exact MX.iret S hr hlk hw dX_takeMeantByte_73 rfl ⟨_, rfl, by rw [(mean_no c12).1]; simp [c54, c60], by rw [(mean_no (mark := x) c12).2], rfl⟩
      · skip
        refine lv_iload_n hx hb dX_takeMeantByte_63 rfl (lv_at hl 0 rfl) ?_
        refine lv_iload_n hx hb dX_takeMeantByte_64 rfl (lv_at hl 2 rfl) ?_
        refine lv_icmp_eq (tgt := 72) hx hb dX_takeMeantByte_65 (by decide) (fun c65 => ?_) (fun c65 => ?_)
        · skip
          refine lv_iconst (v := (-1)) hx hb dX_takeMeantByte_72 (by decide) ?_
          exact MX.iret S hr hlk hw dX_takeMeantByte_73 rfl ⟨_, rfl, by rw [(mean_no c12).1]; simp [c54, c60, c65], by rw [(mean_no (mark := x) c12).2], rfl⟩
        · skip
          refine lv_iload_n hx hb dX_takeMeantByte_68 rfl (lv_at hl 0 rfl) ?_
          refine lv_goto (tgt := 73) hx hb dX_takeMeantByte_69 (by decide) ?_
          exact MX.iret S hr hlk hw dX_takeMeantByte_73 rfl ⟨_, rfl, by rw [(mean_no c12).1]; simp [c54, c60, c65], by rw [(mean_no (mark := x) c12).2], rfl⟩
  · skip
    refine lv_aload_n hx hb dX_takeMeantByte_15 rfl (lv_at hl 1 rfl) ?_
    refine lv_aload_n hx hb dX_takeMeantByte_16 rfl (lv_at hl 1 rfl) ?_
    refine gX11 S hw dX_takeMeantByte_17 ?_
    refine kz_top (y := nI p) h11 ?_
    refine lv_iconst (v := 1) hx hb dX_takeMeantByte_20 (by decide) ?_
    refine lv_iadd hx hb dX_takeMeantByte_21 ?_
    refine kz_top (y := nI (p + 1)) (nI_add p 1) ?_
    refine kcXi (rest := []) S kX_81 rfl (tX_tapeByte l I F T n hT (p + 1) (by omega)) hw hA ⟨Nat.le_of_ble_eq_true rfl, Nat.le_of_ble_eq_true rfl⟩ rfl rfl ⟨Nat.zero_le _, Nat.zero_le _⟩ rfl hl.1 (Nat.le_of_ble_eq_true rfl) dX_takeMeantByte_22 (fun r I' F' H locs hq hw => ?_)
    obtain ⟨hr1, hr2, hr3⟩ := hq
    rw [hr2, hr3] at hw
    subst hr1
    refine kcXS (rest := []) S kX_156 (tX_meaningBehindStar l z none (seeT T n (p + 1))) hw hA arNone ⟨Nat.le_of_ble_eq_true rfl, Nat.le_of_ble_eq_true rfl⟩ rfl rfl ⟨Nat.zero_le _, Nat.zero_le _⟩ rfl hl.1 (Nat.le_of_ble_eq_true rfl) dX_takeMeantByte_25 (fun r H locs hq hw => ?_)
    subst hq
    refine lv_istore_n (lv' := [(3, .int (starB (seeT T n (p + 1)))), (2, .int (seeT T n p)), (0, .ref h), (1, .int x)]) hx hb dX_takeMeantByte_28 rfl hl (by decide) rfl (fun ls hl => ?_)
    refine lv_aload_n hx hb dX_takeMeantByte_29 rfl (lv_at hl 2 rfl) ?_
    refine lv_dup hx hb dX_takeMeantByte_30 rfl ?_
    refine gX11 S hw dX_takeMeantByte_31 ?_
    refine kz_top (y := nI p) h11 ?_
    refine lv_iconst (v := 2) hx hb dX_takeMeantByte_34 (by decide) ?_
    refine lv_iadd hx hb dX_takeMeantByte_35 ?_
    refine kz_top (y := nI (p + 2)) (nI_add p 2) ?_
    refine pX11 S hw dX_takeMeantByte_36 (fun H locs hw => ?_)
    refine lv_iload_n hx hb dX_takeMeantByte_39 rfl (lv_at hl 0 rfl) ?_
    exact MX.iret S hr hlk hw dX_takeMeantByte_40 rfl ⟨_, rfl, (mean_star c12).1.symm, by rw [(mean_star (mark := x) c12).2], rfl⟩
set_option maxHeartbeats 4000000 in
set_option maxRecDepth 100000 in
theorem tX_takeCharacter (l : Launch) (I : Nat → Int32) (F : Nat → Nat → Int32) (T : Nat → Int32) (n : Nat) (hT : tpX T n I F) (p e : Nat) (h11 : I 11 = nI p) (hp : p < n) (h10 : I 10 = nI e) (he : e ≤ p) (h13 : I 13 = 0) : MX l yX_takeCharacter cX_takeCharacter 2 (some .int) ({ frames := 3, cells := 0, slots := 0, locals := 65 }) [] I F (iR (fun r I' F' => tkP I F e (scC T n p) r I' F')) := by
  refine MX.mk (by decide) (fun _ => Nat.le_of_ble_eq_true rfl) ?_
  intro z D cA h a pg en s m below meth c ls S hr hlk hA hw hl
  have hx := S.1
  have hb := S.2.1
  have hl : lv_has ls 2 [(0, .ref h)] := hl
  have hn := hT.2.1
  have hnx : nextT T n (p + 1) ≤ p + 3 := by unfold nextT; split <;> omega
  refine lv_aload_n hx hb dX_takeCharacter_0 rfl (lv_at hl 0 rfl) ?_
  refine lv_dup hx hb dX_takeCharacter_1 rfl ?_
  refine gX11 S hw dX_takeCharacter_2 ?_
  refine kz_top (y := nI p) h11 ?_
  refine lv_iconst (v := 1) hx hb dX_takeCharacter_5 (by decide) ?_
  refine lv_iadd hx hb dX_takeCharacter_6 ?_
  refine kz_top (y := nI (p + 1)) (nI_add p 1) ?_
  refine pX11 S hw dX_takeCharacter_7 (fun H locs hw => ?_)
  refine lv_aload_n hx hb dX_takeCharacter_10 rfl (lv_at hl 0 rfl) ?_
  refine lv_bipush (v := 39) hx hb dX_takeCharacter_11 (by decide) ?_
  refine kcXi (rest := []) S kX_150 rfl (tX_takeMeantByte l (upd I 11 (nI (p + 1))) F T n hT (p + 1) rfl (by omega) 39) hw hA ⟨Nat.le_of_ble_eq_true rfl, Nat.le_of_ble_eq_true rfl⟩ rfl rfl ⟨Nat.zero_le _, Nat.zero_le _⟩ rfl hl.1 (Nat.le_of_ble_eq_true rfl) dX_takeCharacter_13 (fun r I' F' H locs hq hw => ?_)
  obtain ⟨hr1, hr2, hr3⟩ := hq
  rw [hr2, hr3] at hw
  subst hr1
  refine lv_istore_n (lv' := [(1, .int (meanT T n (p + 1) 39)), (0, .ref h)]) hx hb dX_takeCharacter_16 rfl hl (by decide) rfl (fun ls hl => ?_)
  refine lv_iload_n hx hb dX_takeCharacter_17 rfl (lv_at hl 0 rfl) ?_
  refine lv_iconst (v := (-1)) hx hb dX_takeCharacter_18 (by decide) ?_
  refine lv_icmp_eq (tgt := 35) hx hb dX_takeCharacter_19 (by decide) (fun c19 => ?_) (fun c19 => ?_)
  · skip
    refine lv_bipush (v := 6) hx hb dX_takeCharacter_35 (by decide) ?_
    exact MX.iret S hr hlk hw dX_takeCharacter_37 rfl ⟨_, rfl, tkP.bad (by unfold scC; rw [if_neg (fun q => q.1 c19)]) (fun k a b c => by simp [upd, a, b, c]) (fun _ _ => rfl) (fun _ _ => rfl) h13⟩
  · skip
    refine lv_aload_n hx hb dX_takeCharacter_22 rfl (lv_at hl 1 rfl) ?_
    refine lv_aload_n hx hb dX_takeCharacter_23 rfl (lv_at hl 1 rfl) ?_
    refine gX11 S hw dX_takeCharacter_24 ?_
    refine kz_top (y := nI (nextT T n (p + 1))) rfl ?_
    refine kcXi (rest := []) S kX_81 rfl (tX_tapeByte l (upd (upd I 11 (nI (p + 1))) 11 (nI (nextT T n (p + 1)))) F T n hT (nextT T n (p + 1)) (by omega)) hw hA ⟨Nat.le_of_ble_eq_true rfl, Nat.le_of_ble_eq_true rfl⟩ rfl rfl ⟨Nat.zero_le _, Nat.zero_le _⟩ rfl hl.1 (Nat.le_of_ble_eq_true rfl) dX_takeCharacter_27 (fun r I' F' H locs hq hw => ?_)
    obtain ⟨hr1, hr2, hr3⟩ := hq
    rw [hr2, hr3] at hw
    subst hr1
    refine lv_bipush (v := 39) hx hb dX_takeCharacter_30 (by decide) ?_
    refine lv_icmp_eq (tgt := 38) hx hb dX_takeCharacter_32 (by decide) (fun c32 => ?_) (fun c32 => ?_)
    · skip
      refine lv_aload_n hx hb dX_takeCharacter_38 rfl (lv_at hl 1 rfl) ?_
      refine lv_dup hx hb dX_takeCharacter_39 rfl ?_
      refine gX11 S hw dX_takeCharacter_40 ?_
      refine kz_top (y := nI (nextT T n (p + 1))) rfl ?_
      refine lv_iconst (v := 1) hx hb dX_takeCharacter_43 (by decide) ?_
      refine lv_iadd hx hb dX_takeCharacter_44 ?_
      refine kz_top (y := nI (nextT T n (p + 1) + 1)) (nI_add (nextT T n (p + 1)) 1) ?_
      refine pX11 S hw dX_takeCharacter_45 (fun H locs hw => ?_)
      refine lv_aload_n hx hb dX_takeCharacter_48 rfl (lv_at hl 1 rfl) ?_
      refine lv_iload_n hx hb dX_takeCharacter_49 rfl (lv_at hl 0 rfl) ?_
      refine pX13 S hw dX_takeCharacter_50 (fun H locs hw => ?_)
      refine lv_iconst (v := 1) hx hb dX_takeCharacter_53 (by decide) ?_
      exact MX.iret S hr hlk hw dX_takeCharacter_54 rfl ⟨_, rfl, tkP.num (v := meanT T n (p + 1) 39) (b := nextT T n (p + 1) + 1) (by unfold scC; rw [if_pos ⟨c19, c32⟩]) (fun k a b c => by simp [upd, a, b, c]) h10 rfl rfl⟩
    · skip
      refine lv_bipush (v := 6) hx hb dX_takeCharacter_35 (by decide) ?_
      exact MX.iret S hr hlk hw dX_takeCharacter_37 rfl ⟨_, rfl, tkP.bad (by unfold scC; rw [if_neg (fun q => c32 q.2)]) (fun k a b c => by simp [upd, a, b, c]) (fun _ _ => rfl) (fun _ _ => rfl) h13⟩
