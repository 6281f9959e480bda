set_option maxHeartbeats 4000000 in
set_option maxRecDepth 100000 in
theorem tX_takeWord (l : Launch) (I : Nat → Int32) (F : Nat → Nat → Int32) (T : Nat → Int32) (n : Nat) (hT : tpX T n I F) (p e : Nat) (h11 : I 11 = nI p) (hp : p < n) (h10 : I 10 = nI e) (he : e ≤ p) (h13 : I 13 = 0) : MX l yX_takeWord cX_takeWord 4 (some .int) ({ frames := 6, cells := 0, slots := 0, locals := 134 }) [] I F (iR (fun r I' F' => tkP I F e (scN T n p) r I' F')) := by
  refine MX.mk (by decide) (fun _ => Nat.le_of_ble_eq_true rfl) ?_
  intro z D cA h a pg en s m below meth c ls S hr hlk hA hw hl
  have hx := S.1
  have hb := S.2.1
  have hl : lv_has ls 4 [(0, .ref h)] := hl
  have hn := hT.2.1
  obtain ⟨hK1, hK2⟩ := nEnd_le T (n - p) p
  have cont : ∀ (H : Heap) (locs : List Loc) (ls : Array Slot), sX z D cA h a (AX h a s.heap.size) s H locs I F → lv_has ls 4 [(0, .ref h), (1, .int (nI (nEnd T (n - p) p)))] → W pg l en ({ frames := 6, cells := 0, slots := 0, locals := 134 }) s m ([.ref h] : List Value).toArray below meth c H locs 0 0 (MQ below (QX z D cA h a s.heap.size (iR (fun r I' F' => tkP I F e (scN T n p) r I' F'))) ([.ref h] : List Value).toArray s 0 0 (AX h a s.heap.size)) (F0 m 30 ls []) := by
    intro H locs ls hw hl
    refine lv_iload_n hx hb dX_takeWord_30 rfl (lv_at hl 1 rfl) ?_
    refine lv_aload_n hx hb dX_takeWord_31 rfl (lv_at hl 0 rfl) ?_
    refine gX11 S hw dX_takeWord_32 ?_
    refine kz_top (y := nI p) h11 ?_
    refine lv_isub hx hb dX_takeWord_35 ?_
    refine kz_top (pk_sub hK1) ?_
    refine lv_istore_n (lv' := [(2, .int (nI (nEnd T (n - p) p - p))), (0, .ref h), (1, .int (nI (nEnd T (n - p) p)))]) hx hb dX_takeWord_36 rfl hl (by decide) rfl (fun ls hl => ?_)
    refine lv_iload_n hx hb dX_takeWord_37 rfl (lv_at hl 0 rfl) ?_
    refine lv_bipush (v := 40) hx hb dX_takeWord_38 (by decide) ?_
    refine lv_icmp_le (tgt := 46) hx hb dX_takeWord_40 (by decide) (fun c40 => ?_) (fun c40 => ?_)
    · skip
      refine lv_aload_n hx hb dX_takeWord_46 rfl (lv_at hl 1 rfl) ?_
      refine lv_aload_n hx hb dX_takeWord_47 rfl (lv_at hl 1 rfl) ?_
      refine gX11 S hw dX_takeWord_48 ?_
      refine kz_top (y := nI p) h11 ?_
      refine lv_iload_n hx hb dX_takeWord_51 rfl (lv_at hl 0 rfl) ?_
      refine kcXi (rest := []) S kX_130 rfl (tX_isKeyword l _ _ T n hT p (nEnd T (n - p) p - p) (by omega)) hw hA ⟨Nat.le_of_ble_eq_true rfl, Nat.le_of_ble_eq_true rfl⟩ rfl rfl ⟨Nat.zero_le _, Nat.zero_le _⟩ rfl hl.1 (Nat.le_of_ble_eq_true rfl) dX_takeWord_52 (fun r I' F' H locs hq hw => ?_)
      obtain ⟨hr1, hr2, hr3⟩ := hq
      rw [hr2, hr3] at hw
      rcases bI hr1 with ⟨hB1, rfl⟩ | ⟨hB1, rfl⟩
      · skip
        refine lv_if_eq (tgt := 62) hx hb dX_takeWord_55 (by decide) (fun c55 => absurd c55 (by decide)) (fun c55 => ?_)
        refine lv_iconst (v := 4) hx hb dX_takeWord_58 (by decide) ?_
        refine lv_goto (tgt := 63) hx hb dX_takeWord_59 (by decide) ?_
        refine lv_istore_n (lv' := [(3, .int 4), (2, .int (nI (nEnd T (n - p) p - p))), (0, .ref h), (1, .int (nI (nEnd T (n - p) p)))]) hx hb dX_takeWord_63 rfl hl (by decide) rfl (fun ls hl => ?_)
        refine lv_aload_n hx hb dX_takeWord_64 rfl (lv_at hl 2 rfl) ?_
        refine lv_iload_n hx hb dX_takeWord_65 rfl (lv_at hl 1 rfl) ?_
        have hK3 : nEnd T (n - p) p - p ≤ 40 := (nI_leI (by omega) (by decide)).mp c40
        refine kcXv (rest := []) S kX_134 rfl (tX_takeText l _ _ T n hT p e (nEnd T (n - p) p - p) h11 h10 (by omega) (by omega)) hw hA ⟨Nat.le_of_ble_eq_true rfl, Nat.le_of_ble_eq_true rfl⟩ rfl rfl ⟨Nat.zero_le _, Nat.zero_le _⟩ rfl hl.1 (Nat.le_of_ble_eq_true rfl) dX_takeWord_66 (fun I' F' H locs hq hw => ?_)
        refine lv_iload_n hx hb dX_takeWord_69 rfl (lv_at hl 0 rfl) ?_
        exact MX.iret S hr hlk hw dX_takeWord_70 rfl ⟨_, rfl, tkP.txt (by unfold scN; rw [if_neg (by omega), if_pos hB1]) (by decide) h13 (by omega) hq⟩
      · skip
        refine lv_if_eq (tgt := 62) hx hb dX_takeWord_55 (by decide) (fun c55 => ?_) (fun c55 => absurd c55 (by decide))
        refine lv_iconst (v := 0) hx hb dX_takeWord_62 (by decide) ?_
        refine lv_istore_n (lv' := [(3, .int 0), (2, .int (nI (nEnd T (n - p) p - p))), (0, .ref h), (1, .int (nI (nEnd T (n - p) p)))]) hx hb dX_takeWord_63 rfl hl (by decide) rfl (fun ls hl => ?_)
        refine lv_aload_n hx hb dX_takeWord_64 rfl (lv_at hl 2 rfl) ?_
        refine lv_iload_n hx hb dX_takeWord_65 rfl (lv_at hl 1 rfl) ?_
        have hK3 : nEnd T (n - p) p - p ≤ 40 := (nI_leI (by omega) (by decide)).mp c40
        refine kcXv (rest := []) S kX_134 rfl (tX_takeText l _ _ T n hT p e (nEnd T (n - p) p - p) h11 h10 (by omega) (by omega)) hw hA ⟨Nat.le_of_ble_eq_true rfl, Nat.le_of_ble_eq_true rfl⟩ rfl rfl ⟨Nat.zero_le _, Nat.zero_le _⟩ rfl hl.1 (Nat.le_of_ble_eq_true rfl) dX_takeWord_66 (fun I' F' H locs hq hw => ?_)
        refine lv_iload_n hx hb dX_takeWord_69 rfl (lv_at hl 0 rfl) ?_
        exact MX.iret S hr hlk hw dX_takeWord_70 rfl ⟨_, rfl, tkP.txt (by unfold scN; rw [if_neg (by omega), if_neg hB1]) (by decide) h13 (by omega) hq⟩
    · skip
      refine lv_bipush (v := 6) hx hb dX_takeWord_43 (by decide) ?_
      exact MX.iret S hr hlk hw dX_takeWord_45 rfl ⟨_, rfl, tkP.bad (by unfold scN; rw [if_pos]; exact Nat.lt_of_not_le (fun q => c40 (nI_le q (by decide)))) (fun _ _ _ _ => rfl) (fun _ _ => rfl) (fun _ _ => rfl) h13⟩
  have loop5 : ∀ (fu : Nat) (k : Nat) (H : Heap) (locs : List Loc) (ls : Array Slot), p ≤ k → k ≤ n → n + 1 ≤ k + fu → nEnd T (n - k) k = nEnd T (n - p) p → sX z D cA h a (AX h a s.heap.size) s H locs I F → lv_has ls 4 [(0, .ref h), (1, .int (nI k))] → W pg l en ({ frames := 6, cells := 0, slots := 0, locals := 134 }) s m ([.ref h] : List Value).toArray below meth c H locs 0 0 (MQ below (QX z D cA h a s.heap.size (iR (fun r I' F' => tkP I F e (scN T n p) r I' F'))) ([.ref h] : List Value).toArray s 0 0 (AX h a s.heap.size)) (F0 m 5 ls []) := by
    intro fu
    induction fu with
    | zero => intro k  H locs ls hk1 hk2 hf hR hw hl; omega
    | succ fu ih =>
      intro k  H locs ls hk1 hk2 hf hR hw hl
      refine lv_iload_n hx hb dX_takeWord_5 rfl (lv_at hl 1 rfl) ?_
      refine lv_aload_n hx hb dX_takeWord_6 rfl (lv_at hl 0 rfl) ?_
      refine gX1 S hw dX_takeWord_7 ?_
      refine kz_top (y := nI n) hT.1 ?_
      refine lv_icmp_ge (tgt := 30) hx hb dX_takeWord_10 (by decide) (fun c10 => ?_) (fun c10 => ?_)
      · skip
        rw [nEnd_end ((nI_leI (by omega) (by omega)).mp c10)] at hR
        exact cont H locs ls hw (by rw [← hR]; exact lv_sub hl [0, 1] rfl)
      · skip
        refine lv_aload_n hx hb dX_takeWord_13 rfl (lv_at hl 0 rfl) ?_
        refine lv_iload_n hx hb dX_takeWord_14 rfl (lv_at hl 1 rfl) ?_
        have hlt : k < n := Nat.lt_of_not_le (fun x => c10 (nI_le x (by omega)))
        refine kcXi (rest := []) S kX_81 rfl (tX_tapeByte l I F T n hT k (by omega)) hw hA ⟨Nat.le_of_ble_eq_true rfl, Nat.le_of_ble_eq_true rfl⟩ rfl rfl ⟨Nat.zero_le _, Nat.zero_le _⟩ rfl hl.1 (Nat.le_of_ble_eq_true rfl) dX_takeWord_15 (fun r I' F' H locs hq hw => ?_)
        obtain ⟨hr1, hr2, hr3⟩ := hq
        rw [hr2, hr3] at hw
        subst hr1
        refine kz_top (see_in hlt) ?_
        refine kcXS (rest := []) S kX_127 (tX_isNameByte l z none (T k)) hw hA arNone ⟨Nat.le_of_ble_eq_true rfl, Nat.le_of_ble_eq_true rfl⟩ rfl rfl ⟨Nat.zero_le _, Nat.zero_le _⟩ rfl hl.1 (Nat.le_of_ble_eq_true rfl) dX_takeWord_18 (fun r H locs hq hw => ?_)
        rcases bI hq with ⟨hB1, rfl⟩ | ⟨hB1, rfl⟩
        · skip
          refine lv_if_eq (tgt := 30) hx hb dX_takeWord_21 (by decide) (fun c21 => absurd c21 (by decide)) (fun c21 => ?_)
          refine lv_iinc (v := nI (k + 1)) (lv' := [(1, .int (nI (k + 1))), (0, .ref h)]) hx hb dX_takeWord_24 hl (k := 1) rfl (nI_1 k) (by decide) rfl (fun ls hl => ?_)
          refine lv_goto (tgt := 5) hx hb dX_takeWord_27 (by decide) ?_
          rw [nEnd_go hlt hB1] at hR
          exact ih (k + 1) H locs ls (by omega) (by omega) (by omega) hR hw (lv_sub hl [1, 0] rfl)
        · skip
          refine lv_if_eq (tgt := 30) hx hb dX_takeWord_21 (by decide) (fun c21 => ?_) (fun c21 => absurd c21 (by decide))
          rw [nEnd_st hlt hB1] at hR
          exact cont H locs ls hw (by rw [← hR]; exact lv_sub hl [0, 1] rfl)
  refine lv_aload_n hx hb dX_takeWord_0 rfl (lv_at hl 0 rfl) ?_
  refine gX11 S hw dX_takeWord_1 ?_
  refine kz_top (y := nI p) h11 ?_
  refine lv_istore_n (lv' := [(1, .int (nI p)), (0, .ref h)]) hx hb dX_takeWord_4 rfl hl (by decide) rfl (fun ls hl => ?_)
  exact loop5 (n - p + 1) p s.heap [] ls (Nat.le_refl _) (by omega) (by omega) rfl hw (lv_sub hl [1, 0] rfl)
