theorem slice2 (T : Nat → Int32) (p : Nat) : sliceT T p 2 = [T p, T (p + 1)] := rfl
theorem slice1 (T : Nat → Int32) (p : Nat) : sliceT T p 1 = [T p] := rfl
theorem sgn_m1 (c : Int32) : [c, -1] ∉ wK 3 := fun h => (by decide +kernel : ∀ w ∈ wK 3, ∀ x ∈ w, ¬ x = -1) _ h (-1) (by simp) rfl
set_option maxHeartbeats 4000000 in
set_option maxRecDepth 100000 in
theorem tX_takeSign (l : Launch) (I : Nat → Int32) (F : Nat → Nat → Int32) (T : Nat → Int32) (n : Nat) (hT : tpX T n I F) (p e : Nat) (h11 : I 11 = nI p) (hp : p < n) (h10 : I 10 = nI e) (he : e ≤ p) (h13 : I 13 = 0) : MX l yX_takeSign cX_takeSign 2 (some .int) ({ frames := 5, cells := 0, slots := 0, locals := 112 }) [] I F (iR (fun r I' F' => tkP I F e (scG T n p) r I' F')) := by
  refine MX.mk (by decide) (fun _ => Nat.le_of_ble_eq_true rfl) ?_
  intro z D cA h a pg en s m below meth c ls S hr hlk hA hw hl
  have hx := S.1
  have hb := S.2.1
  have hl : lv_has ls 2 [(0, .ref h)] := hl
  have hn := hT.2.1
  refine lv_iconst (v := 2) hx hb dX_takeSign_0 (by decide) ?_
  refine lv_istore_n (lv' := [(1, .int 2), (0, .ref h)]) hx hb dX_takeSign_1 rfl hl (by decide) rfl (fun ls hl => ?_)
  refine lv_iload_n hx hb dX_takeSign_2 rfl (lv_at hl 0 rfl) ?_
  refine lv_if_le (tgt := 50) hx hb dX_takeSign_3 (by decide) (fun c3 => absurd c3 (by decide)) (fun c3 => ?_)
  refine lv_iload_n hx hb dX_takeSign_6 rfl (lv_at hl 0 rfl) ?_
  refine lv_aload_n hx hb dX_takeSign_7 rfl (lv_at hl 1 rfl) ?_
  refine gX1 S hw dX_takeSign_8 ?_
  refine kz_top (y := nI n) hT.1 ?_
  refine lv_aload_n hx hb dX_takeSign_11 rfl (lv_at hl 1 rfl) ?_
  refine gX11 S hw dX_takeSign_12 ?_
  refine kz_top (y := nI p) h11 ?_
  refine lv_isub hx hb dX_takeSign_15 ?_
  refine kz_top (pk_sub (Nat.le_of_lt hp)) ?_
  refine lv_icmp_gt (tgt := 44) hx hb dX_takeSign_16 (by decide) (fun c16 => ?_) (fun c16 => ?_)
  · skip
    refine lv_iinc (v := 1) (lv' := [(1, .int 1), (0, .ref h)]) hx hb dX_takeSign_44 hl (k := 0) rfl (by decide) (by decide) rfl (fun ls hl => ?_)
    refine lv_goto (tgt := 2) hx hb dX_takeSign_47 (by decide) ?_
    refine lv_iload_n hx hb dX_takeSign_2 rfl (lv_at hl 0 rfl) ?_
    refine lv_if_le (tgt := 50) hx hb dX_takeSign_3 (by decide) (fun c3 => absurd c3 (by decide)) (fun c3 => ?_)
    refine lv_iload_n hx hb dX_takeSign_6 rfl (lv_at hl 0 rfl) ?_
    refine lv_aload_n hx hb dX_takeSign_7 rfl (lv_at hl 1 rfl) ?_
    refine gX1 S hw dX_takeSign_8 ?_
    refine kz_top (y := nI n) hT.1 ?_
    refine lv_aload_n hx hb dX_takeSign_11 rfl (lv_at hl 1 rfl) ?_
    refine gX11 S hw dX_takeSign_12 ?_
    refine kz_top (y := nI p) h11 ?_
    refine lv_isub hx hb dX_takeSign_15 ?_
    refine kz_top (pk_sub (Nat.le_of_lt hp)) ?_
    refine lv_icmp_gt (tgt := 44) hx hb dX_takeSign_16 (by decide) (fun c16x => absurd c16x (fun q => absurd ((nI_ltI (a := n - p) (b := 1) (by omega) (by decide)).mp q) (by omega))) (fun c16x => ?_)
    refine va_ldcS hx hb S.2.2.2.1 (rK_3 hw.2.2.2.2.2) dX_takeSign_19 ?_
    refine lv_aload_n hx hb dX_takeSign_21 rfl (lv_at hl 1 rfl) ?_
    refine gX0 S hw dX_takeSign_22 ?_
    refine lv_aload_n hx hb dX_takeSign_25 rfl (lv_at hl 1 rfl) ?_
    refine gX11 S hw dX_takeSign_26 ?_
    refine kz_top (y := nI p) h11 ?_
    refine lv_iload_n hx hb dX_takeSign_29 rfl (lv_at hl 0 rfl) ?_
    refine kcXS (rest := []) S kX_73 (tX_numberInList l z 3 (by decide) (a 0) 1000 (F 0) (by decide) p 1 (by omega)) hw hA (arX0 hw) ⟨Nat.le_of_ble_eq_true rfl, Nat.le_of_ble_eq_true rfl⟩ rfl rfl ⟨Nat.zero_le _, Nat.zero_le _⟩ rfl hl.1 (Nat.le_of_ble_eq_true rfl) dX_takeSign_30 (fun r H locs hq hw => ?_)
    rw [nil_wK (by decide), key_tape hT (by omega), slice1] at hq
    subst hq
    refine lv_iconst (v := (-1)) hx hb dX_takeSign_33 (by decide) ?_
    refine lv_icmp_eq (tgt := 44) hx hb dX_takeSign_34 (by decide) (fun c34 => ?_) (fun c34 => ?_)
    · skip
      refine lv_iinc (v := 0) (lv' := [(1, .int 0), (0, .ref h)]) hx hb dX_takeSign_44 hl (k := 0) rfl (by decide) (by decide) rfl (fun ls hl => ?_)
      refine lv_goto (tgt := 2) hx hb dX_takeSign_47 (by decide) ?_
      refine lv_iload_n hx hb dX_takeSign_2 rfl (lv_at hl 0 rfl) ?_
      refine lv_if_le (tgt := 50) hx hb dX_takeSign_3 (by decide) (fun c3 => ?_) (fun c3 => absurd c3 (by decide))
      refine lv_bipush (v := 6) hx hb dX_takeSign_50 (by decide) ?_
      exact MX.iret S hr hlk hw dX_takeSign_52 rfl ⟨_, rfl, tkP.bad (by unfold scG; rw [see_out (by have := (nI_ltI (a := n - p) (b := 2) (by omega) (by decide)).mp c16; omega)]; rw [if_neg (fun q => sgn_m1 _ q), if_neg (fun q => (wixK_mem (by decide) _).mpr q c34)]) (fun _ _ _ _ => rfl) (fun _ _ => rfl) (fun _ _ => rfl) h13⟩
    · skip
      refine lv_aload_n hx hb dX_takeSign_37 rfl (lv_at hl 1 rfl) ?_
      refine lv_iload_n hx hb dX_takeSign_38 rfl (lv_at hl 0 rfl) ?_
      refine kcXv (rest := []) S kX_134 rfl (tX_takeText l _ _ T n hT p e 1 h11 h10 (by omega) (by omega)) hw hA ⟨Nat.le_of_ble_eq_true rfl, Nat.le_of_ble_eq_true rfl⟩ rfl rfl ⟨Nat.zero_le _, Nat.zero_le _⟩ rfl hl.1 (Nat.le_of_ble_eq_true rfl) dX_takeSign_39 (fun I' F' H locs hq hw => ?_)
      refine lv_iconst (v := 3) hx hb dX_takeSign_42 (by decide) ?_
      exact MX.iret S hr hlk hw dX_takeSign_43 rfl ⟨_, rfl, tkP.txt (by unfold scG; rw [see_out (by have := (nI_ltI (a := n - p) (b := 2) (by omega) (by decide)).mp c16; omega), if_neg (sgn_m1 _), if_pos ((wixK_mem (by decide) _).mp c34)]; rfl) (by decide) h13 rfl hq⟩
  · skip
    refine va_ldcS hx hb S.2.2.2.1 (rK_3 hw.2.2.2.2.2) dX_takeSign_19 ?_
    refine lv_aload_n hx hb dX_takeSign_21 rfl (lv_at hl 1 rfl) ?_
    refine gX0 S hw dX_takeSign_22 ?_
    refine lv_aload_n hx hb dX_takeSign_25 rfl (lv_at hl 1 rfl) ?_
    refine gX11 S hw dX_takeSign_26 ?_
    refine kz_top (y := nI p) h11 ?_
    refine lv_iload_n hx hb dX_takeSign_29 rfl (lv_at hl 0 rfl) ?_
    have hn2 : 2 ≤ n - p := Nat.le_of_not_lt (fun q => c16 (nI_lt q (by decide)))
    refine kcXS (rest := []) S kX_73 (tX_numberInList l z 3 (by decide) (a 0) 1000 (F 0) (by decide) p 2 (by omega)) hw hA (arX0 hw) ⟨Nat.le_of_ble_eq_true rfl, Nat.le_of_ble_eq_true rfl⟩ rfl rfl ⟨Nat.zero_le _, Nat.zero_le _⟩ rfl hl.1 (Nat.le_of_ble_eq_true rfl) dX_takeSign_30 (fun r H locs hq hw => ?_)
    rw [nil_wK (by decide), key_tape hT (by omega), slice2] at hq
    subst hq
    refine lv_iconst (v := (-1)) hx hb dX_takeSign_33 (by decide) ?_
    refine lv_icmp_eq (tgt := 44) hx hb dX_takeSign_34 (by decide) (fun c34 => ?_) (fun c34 => ?_)
    · skip
      refine lv_iinc (v := 1) (lv' := [(1, .int 1), (0, .ref h)]) hx hb dX_takeSign_44 hl (k := 0) rfl (by decide) (by decide) rfl (fun ls hl => ?_)
      refine lv_goto (tgt := 2) hx hb dX_takeSign_47 (by decide) ?_
      refine lv_iload_n hx hb dX_takeSign_2 rfl (lv_at hl 0 rfl) ?_
      refine lv_if_le (tgt := 50) hx hb dX_takeSign_3 (by decide) (fun c3 => absurd c3 (by decide)) (fun c3 => ?_)
      refine lv_iload_n hx hb dX_takeSign_6 rfl (lv_at hl 0 rfl) ?_
      refine lv_aload_n hx hb dX_takeSign_7 rfl (lv_at hl 1 rfl) ?_
      refine gX1 S hw dX_takeSign_8 ?_
      refine kz_top (y := nI n) hT.1 ?_
      refine lv_aload_n hx hb dX_takeSign_11 rfl (lv_at hl 1 rfl) ?_
      refine gX11 S hw dX_takeSign_12 ?_
      refine kz_top (y := nI p) h11 ?_
      refine lv_isub hx hb dX_takeSign_15 ?_
      refine kz_top (pk_sub (Nat.le_of_lt hp)) ?_
      refine lv_icmp_gt (tgt := 44) hx hb dX_takeSign_16 (by decide) (fun c16x => absurd c16x (fun q => absurd ((nI_ltI (a := n - p) (b := 1) (by omega) (by decide)).mp q) (by omega))) (fun c16x => ?_)
      refine va_ldcS hx hb S.2.2.2.1 (rK_3 hw.2.2.2.2.2) dX_takeSign_19 ?_
      refine lv_aload_n hx hb dX_takeSign_21 rfl (lv_at hl 1 rfl) ?_
      refine gX0 S hw dX_takeSign_22 ?_
      refine lv_aload_n hx hb dX_takeSign_25 rfl (lv_at hl 1 rfl) ?_
      refine gX11 S hw dX_takeSign_26 ?_
      refine kz_top (y := nI p) h11 ?_
      refine lv_iload_n hx hb dX_takeSign_29 rfl (lv_at hl 0 rfl) ?_
      refine kcXS (rest := []) S kX_73 (tX_numberInList l z 3 (by decide) (a 0) 1000 (F 0) (by decide) p 1 (by omega)) hw hA (arX0 hw) ⟨Nat.le_of_ble_eq_true rfl, Nat.le_of_ble_eq_true rfl⟩ rfl rfl ⟨Nat.zero_le _, Nat.zero_le _⟩ rfl hl.1 (Nat.le_of_ble_eq_true rfl) dX_takeSign_30 (fun r H locs hq hw => ?_)
      rw [nil_wK (by decide), key_tape hT (by omega), slice1] at hq
      subst hq
      refine lv_iconst (v := (-1)) hx hb dX_takeSign_33 (by decide) ?_
      refine lv_icmp_eq (tgt := 44) hx hb dX_takeSign_34 (by decide) (fun c34x => ?_) (fun c34x => ?_)
      · skip
        refine lv_iinc (v := 0) (lv' := [(1, .int 0), (0, .ref h)]) hx hb dX_takeSign_44 hl (k := 0) rfl (by decide) (by decide) rfl (fun ls hl => ?_)
        refine lv_goto (tgt := 2) hx hb dX_takeSign_47 (by decide) ?_
        refine lv_iload_n hx hb dX_takeSign_2 rfl (lv_at hl 0 rfl) ?_
        refine lv_if_le (tgt := 50) hx hb dX_takeSign_3 (by decide) (fun c3 => ?_) (fun c3 => absurd c3 (by decide))
        refine lv_bipush (v := 6) hx hb dX_takeSign_50 (by decide) ?_
        exact MX.iret S hr hlk hw dX_takeSign_52 rfl ⟨_, rfl, tkP.bad (by unfold scG; rw [see_in (show p + 1 < n by omega)]; rw [if_neg (fun q => (wixK_mem (by decide) _).mpr q c34), if_neg (fun q => (wixK_mem (by decide) _).mpr q c34x)]) (fun _ _ _ _ => rfl) (fun _ _ => rfl) (fun _ _ => rfl) h13⟩
      · skip
        refine lv_aload_n hx hb dX_takeSign_37 rfl (lv_at hl 1 rfl) ?_
        refine lv_iload_n hx hb dX_takeSign_38 rfl (lv_at hl 0 rfl) ?_
        refine kcXv (rest := []) S kX_134 rfl (tX_takeText l _ _ T n hT p e 1 h11 h10 (by omega) (by omega)) hw hA ⟨Nat.le_of_ble_eq_true rfl, Nat.le_of_ble_eq_true rfl⟩ rfl rfl ⟨Nat.zero_le _, Nat.zero_le _⟩ rfl hl.1 (Nat.le_of_ble_eq_true rfl) dX_takeSign_39 (fun I' F' H locs hq hw => ?_)
        refine lv_iconst (v := 3) hx hb dX_takeSign_42 (by decide) ?_
        exact MX.iret S hr hlk hw dX_takeSign_43 rfl ⟨_, rfl, tkP.txt (by unfold scG; rw [see_in (show p + 1 < n by omega), if_neg (fun q => (wixK_mem (by decide) _).mpr q c34), if_pos ((wixK_mem (by decide) _).mp c34x)]; rfl) (by decide) h13 rfl hq⟩
    · skip
      refine lv_aload_n hx hb dX_takeSign_37 rfl (lv_at hl 1 rfl) ?_
      refine lv_iload_n hx hb dX_takeSign_38 rfl (lv_at hl 0 rfl) ?_
      refine kcXv (rest := []) S kX_134 rfl (tX_takeText l _ _ T n hT p e 2 h11 h10 (by omega) (by omega)) hw hA ⟨Nat.le_of_ble_eq_true rfl, Nat.le_of_ble_eq_true rfl⟩ rfl rfl ⟨Nat.zero_le _, Nat.zero_le _⟩ rfl hl.1 (Nat.le_of_ble_eq_true rfl) dX_takeSign_39 (fun I' F' H locs hq hw => ?_)
      refine lv_iconst (v := 3) hx hb dX_takeSign_42 (by decide) ?_
      exact MX.iret S hr hlk hw dX_takeSign_43 rfl ⟨_, rfl, tkP.txt (by unfold scG; rw [see_in (show p + 1 < n by omega), if_pos ((wixK_mem (by decide) _).mp c34)]; rfl) (by decide) h13 rfl hq⟩
