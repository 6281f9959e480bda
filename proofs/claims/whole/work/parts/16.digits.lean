/-! ===== digits ===== -/
theorem dg_cases (c : Int32) : (dgN c < 16 ∧ dgX c = nI (dgN c) ∧ dgM c = nI (dgN c)) ∨ (dgN c = 99 ∧ dgX c = -1 ∧ dgM c = 99) := by
  unfold dgN dgX dgM
  by_cases h : iDig c
  · left
    rw [if_pos h, if_pos h]
    obtain ⟨h1, h2⟩ := h
    obtain ⟨j, hj, rfl⟩ := nI_of (x := c) (fun q => h1 (Int32.lt_of_lt_of_le q (by decide)))
    have a1 : 48 ≤ j := Nat.le_of_not_lt (fun q => h1 (nI_lt (a := j) (b := 48) q (by decide)))
    have a2 : j ≤ 57 := Nat.le_of_not_lt (fun q => h2 (nI_lt (a := 57) (b := j) q hj))
    have e : nI j - 48 = nI (j - 48) := pk_sub (a := j) (b := 48) a1
    rw [e, nI_clamp (by omega)]
    exact ⟨by omega, rfl, rfl⟩
  · rw [if_neg h, if_neg h]
    by_cases g : ¬ c < 65 ∧ ¬ 70 < c
    · left
      rw [if_pos g, if_pos g]
      obtain ⟨h1, h2⟩ := g
      obtain ⟨j, hj, rfl⟩ := nI_of (x := c) (fun q => h1 (Int32.lt_of_lt_of_le q (by decide)))
      have a1 : 65 ≤ j := Nat.le_of_not_lt (fun q => h1 (nI_lt (a := j) (b := 65) q (by decide)))
      have a2 : j ≤ 70 := Nat.le_of_not_lt (fun q => h2 (nI_lt (a := 70) (b := j) q hj))
      have e : nI j - 65 + 10 = nI (j - 65 + 10) := by
        rw [show nI j - 65 = nI (j - 65) from pk_sub (a := j) (b := 65) a1]
        exact nI_add (j - 65) 10
      rw [e, nI_clamp (by omega)]
      exact ⟨by omega, rfl, rfl⟩
    · right
      rw [if_neg g, if_neg g]
      exact ⟨by decide, rfl, rfl⟩
theorem dSc_go {T : Nat → Int32} {base n k a : Nat} (h : k < n) (h1 : dgN (T k) < base) : dSc T base (n - k) k a = dSc T base (n - (k + 1)) (k + 1) (min (a * base + dgN (T k)) 4294967296) := by
  rw [show n - k = (n - (k + 1)) + 1 by omega, dSc, if_pos h1]
theorem dSc_st {T : Nat → Int32} {base n k a : Nat} (h : k < n) (h1 : ¬ dgN (T k) < base) : dSc T base (n - k) k a = (k, a) := by
  rw [show n - k = (n - (k + 1)) + 1 by omega, dSc, if_neg h1]
theorem dSc_end {T : Nat → Int32} {base n k a : Nat} (h : n ≤ k) : dSc T base (n - k) k a = (k, a) := by
  rw [show n - k = 0 by omega, dSc]
theorem dSc_le (T : Nat → Int32) (base : Nat) : ∀ (m k a : Nat), a ≤ 4294967296 → k ≤ (dSc T base m k a).1 ∧ (dSc T base m k a).1 ≤ k + m ∧ (dSc T base m k a).2 ≤ 4294967296 := by
  intro m
  induction m with
  | zero => intro k a h; simp [dSc, h]
  | succ m ih =>
    intro k a h
    rw [dSc]
    split
    · have := ih (k + 1) (min (a * base + dgN (T k)) 4294967296) (Nat.min_le_right _ _); omega
    · exact ⟨Nat.le_refl _, by omega, h⟩
theorem dSc_min {a base d : Nat} (ha : a ≤ 4294967296) (hb : base ≤ 16) (hd : d < 16) : (if (4294967296 : Int64) < lN a * (nI base).toInt64 + (nI d).toInt64 then (4294967296 : Int64) else lN a * (nI base).toInt64 + (nI d).toInt64) = lN (min (a * base + d) 4294967296) := by
  rw [nI_l (by omega), nI_l (by omega), lN_mul, lN_add]
  have hm : a * base ≤ 4294967296 * 16 := Nat.mul_le_mul ha hb
  have e : (4294967296 : Int64) < lN (a * base + d) ↔ 4294967296 < a * base + d := pk_lLT (a := 4294967296) (b := a * base + d) (by decide) (by omega)
  by_cases h : 4294967296 < a * base + d
  · rw [if_pos (e.mpr h), Nat.min_eq_right (by omega)]; rfl
  · rw [if_neg (fun q => h (e.mp q)), Nat.min_eq_left (by omega)]
theorem cmp_lt0 {a : Nat} (ha : a ≤ 4294967296) : lg_cmp (lN a) 4294967296 < 0 ↔ a < 4294967296 := by
  unfold lg_cmp
  have e : lN a > (4294967296 : Int64) ↔ 4294967296 < a := pk_lLT (a := 4294967296) (b := a) (by decide) (by omega)
  have e2 : lN a = (4294967296 : Int64) ↔ a = 4294967296 := pk_lEQ (a := a) (b := 4294967296) (by omega) (by decide)
  rw [if_neg (by rw [e]; omega)]
  by_cases h : a = 4294967296
  · rw [if_pos (e2.mpr h)]; constructor
    · intro q; exact absurd q (by decide)
    · intro q; omega
  · rw [if_neg (fun q => h (e2.mp q))]; constructor
    · intro _; omega
    · intro _; decide
theorem wclX : Cond.constantLong "TokenRow" 142 4294967296 ∈ TT := tt_k 181 rfl rfl
theorem wclM : Cond.constantLong "TokenRowModel" 129 4294967296 ∈ TT := tt_k 393 rfl rfl
theorem wmin_l : Cond.methodLink "TokenRow" 144 Lib.MathLoose.min_long.x ∈ TT := tt_k 182 rfl rfl
theorem wmin_s : Cond.static Lib.MathLoose.min_long.x ∈ TT := tt_k 183 rfl rfl
theorem wmin_c : Cond.code Lib.MathLoose.min_long.x Lib.MathLoose.min_long.code 4 (some .long) ∈ TT := tt_k 184 rfl rfl
set_option maxHeartbeats 4000000 in
set_option maxRecDepth 100000 in
theorem tX_takeDigits (l : Launch) (I : Nat → Int32) (F : Nat → Nat → Int32) (T : Nat → Int32) (n : Nat) (hT : tpX T n I F) (k0 e base : Nat) (h11 : I 11 = nI k0) (hk : k0 ≤ 1002) (h10 : I 10 = nI e) (h13 : I 13 = 0) (hb0 : base ≤ 16) : MX l yX_takeDigits cX_takeDigits 6 (some .int) ({ frames := 2, cells := 0, slots := 0, locals := 42 }) [.int (nI base)] I F (iR (fun r I' F' => tkP I F e (scD T n k0 base) r I' F')) := by
  refine MX.mk (by decide) (fun _ => Nat.le_of_ble_eq_true rfl) ?_
  intro z D cA h a pg en s m below meth c ls S hr hlk hA hw hl
  have hx := S.1
  have hb := S.2.1
  have hl : lv_has ls 6 [(0, .ref h), (1, .int (nI base))] := hl
  have hn := hT.2.1
  obtain ⟨hd1, hd2, hd3⟩ := dSc_le T base (n - k0) k0 0 (by omega)
  have cont : ∀ (I1 : Nat → Int32) (H : Heap) (locs : List Loc) (ls : Array Slot), I1 11 = nI (dSc T base (n - k0) k0 0).1 → (∀ k, k ≠ 11 → I1 k = I k) → sX z D cA h a (AX h a s.heap.size) s H locs I1 F → lv_has ls 6 [(0, .ref h), (2, .int (nI k0)), (3, .long (lN (dSc T base (n - k0) k0 0).2))] → W pg l en ({ frames := 2, cells := 0, slots := 0, locals := 42 }) s m ([.ref h, .int (nI base)] : List Value).toArray below meth c H locs 0 0 (MQ below (QX z D cA h a s.heap.size (iR (fun r I' F' => tkP I F e (scD T n k0 base) r I' F'))) ([.ref h, .int (nI base)] : List Value).toArray s 0 0 (AX h a s.heap.size)) (F0 m 74 ls []) := by
    intro I1 H locs ls g11 gI hw hl
    refine lv_aload_n hx hb dX_takeDigits_74 rfl (lv_at hl 0 rfl) ?_
    refine gX11 S hw dX_takeDigits_75 ?_
    refine kz_top (y := nI (dSc T base (n - k0) k0 0).1) g11 ?_
    refine lv_iload_n hx hb dX_takeDigits_78 rfl (lv_at hl 1 rfl) ?_
    refine lv_icmp_eq (tgt := 90) hx hb dX_takeDigits_79 (by decide) (fun c79 => ?_) (fun c79 => ?_)
    · skip
      refine lv_bipush (v := 6) hx hb dX_takeDigits_90 (by decide) ?_
      exact MX.iret S hr hlk hw dX_takeDigits_92 rfl ⟨_, rfl, tkP.bad (by unfold scD; rw [if_pos (Or.inl ((nI_eq (by omega) (by omega)).mp c79))]) (fun k a b c => gI k b) (fun _ _ => rfl) (fun _ _ => rfl) ((gI 13 (by decide)).trans h13)⟩
    · skip
      refine lv_lload_n hx hb dX_takeDigits_82 rfl (lv_at hl 2 rfl) ?_
      refine lv_ldc2 (v := 4294967296) hx hb S.2.2.2.1 (S.2.2.2.2 _ (List.mem_cons_of_mem _ wclX)) dX_takeDigits_83 ?_
      refine W.lcmp hx hb dX_takeDigits_86 ?_
      refine lv_if_lt (tgt := 93) hx hb dX_takeDigits_87 (by decide) (fun c87 => ?_) (fun c87 => ?_)
      · skip
        refine lv_aload_n hx hb dX_takeDigits_93 rfl (lv_at hl 0 rfl) ?_
        refine lv_lload_n hx hb dX_takeDigits_94 rfl (lv_at hl 2 rfl) ?_
        refine lv_l2i (v := (lN (dSc T base (n - k0) k0 0).2).toInt32) hx hb dX_takeDigits_95 rfl ?_
        refine pX13 S hw dX_takeDigits_96 (fun H locs hw => ?_)
        refine lv_iconst (v := 1) hx hb dX_takeDigits_99 (by decide) ?_
        exact MX.iret S hr hlk hw dX_takeDigits_100 rfl ⟨_, rfl, tkP.num (v := (lN (dSc T base (n - k0) k0 0).2).toInt32) (b := (dSc T base (n - k0) k0 0).1) (by unfold scD; rw [if_neg]; exact fun q => q.elim (fun q => c79 (by rw [q])) (fun q => absurd ((cmp_lt0 hd3).mp c87) (by omega))) (fun k a b c => by simp [upd, c, gI k b]) ((gI 10 (by decide)).trans h10) g11 rfl⟩
      · skip
        refine lv_bipush (v := 6) hx hb dX_takeDigits_90 (by decide) ?_
        exact MX.iret S hr hlk hw dX_takeDigits_92 rfl ⟨_, rfl, tkP.bad (by unfold scD; rw [if_pos (Or.inr (Nat.le_of_not_lt (fun q => c87 ((cmp_lt0 hd3).mpr q))))]) (fun k a b c => gI k b) (fun _ _ => rfl) (fun _ _ => rfl) ((gI 13 (by decide)).trans h13)⟩
  have loop7 : ∀ (fu : Nat) (k ac : Nat) (I1 : Nat → Int32) (H : Heap) (locs : List Loc) (ls : Array Slot), k0 ≤ k → k ≤ n ∨ k = k0 → n + 1003 ≤ k + fu → ac ≤ 4294967296 → I1 11 = nI k → (∀ k, k ≠ 11 → I1 k = I k) → dSc T base (n - k) k ac = dSc T base (n - k0) k0 0 → sX z D cA h a (AX h a s.heap.size) s H locs I1 F → lv_has ls 6 [(0, .ref h), (1, .int (nI base)), (2, .int (nI k0)), (3, .long (lN ac))] → W pg l en ({ frames := 2, cells := 0, slots := 0, locals := 42 }) s m ([.ref h, .int (nI base)] : List Value).toArray below meth c H locs 0 0 (MQ below (QX z D cA h a s.heap.size (iR (fun r I' F' => tkP I F e (scD T n k0 base) r I' F'))) ([.ref h, .int (nI base)] : List Value).toArray s 0 0 (AX h a s.heap.size)) (F0 m 7 ls []) := by
    intro fu
    induction fu with
    | zero => intro k ac  I1  H locs ls hk1 hk2 hf ha g11 gI hR hw hl; omega
    | succ fu ih =>
      intro k ac  I1  H locs ls hk1 hk2 hf ha g11 gI hR hw hl
      have hT1 : tpX T n I1 F := hT.of (gI 1 (by decide)) rfl
      refine lv_aload_n hx hb dX_takeDigits_7 rfl (lv_at hl 0 rfl) ?_
      refine gX11 S hw dX_takeDigits_8 ?_
      refine kz_top (y := nI k) g11 ?_
      refine lv_aload_n hx hb dX_takeDigits_11 rfl (lv_at hl 0 rfl) ?_
      refine gX1 S hw dX_takeDigits_12 ?_
      refine kz_top (y := nI n) hT1.1 ?_
      refine lv_icmp_ge (tgt := 74) hx hb dX_takeDigits_15 (by decide) (fun c15 => ?_) (fun c15 => ?_)
      · skip
        rw [dSc_end ((nI_leI (by omega) (by omega)).mp c15)] at hR
        exact cont I1 H locs ls (by rw [← hR]; exact g11) gI hw (by rw [← hR]; exact lv_sub hl [0, 2, 3] rfl)
      · skip
        refine lv_aload_n hx hb dX_takeDigits_18 rfl (lv_at hl 0 rfl) ?_
        refine lv_aload_n hx hb dX_takeDigits_19 rfl (lv_at hl 0 rfl) ?_
        refine gX11 S hw dX_takeDigits_20 ?_
        refine kz_top (y := nI k) g11 ?_
        have hlt : k < n := Nat.lt_of_not_le (fun x => c15 (nI_le x (by omega)))
        refine kcXi (rest := []) S kX_81 rfl (tX_tapeByte l I1 F T n hT1 k (by omega)) hw hA ⟨Nat.le_of_ble_eq_true rfl, Nat.le_of_ble_eq_true rfl⟩ rfl rfl ⟨Nat.zero_le _, Nat.zero_le _⟩ rfl hl.1 (Nat.le_of_ble_eq_true rfl) dX_takeDigits_23 (fun r I' F' H locs hq hw => ?_)
        obtain ⟨hr1, hr2, hr3⟩ := hq
        rw [hr2, hr3] at hw
        subst hr1
        refine kz_top (see_in hlt) ?_
        refine kcXS (rest := []) S kX_139 (tX_digitOf l z none (T k)) hw hA arNone ⟨Nat.le_of_ble_eq_true rfl, Nat.le_of_ble_eq_true rfl⟩ rfl rfl ⟨Nat.zero_le _, Nat.zero_le _⟩ rfl hl.1 (Nat.le_of_ble_eq_true rfl) dX_takeDigits_26 (fun r H locs hq hw => ?_)
        subst hq
        rcases dg_cases (T k) with ⟨hd, hdx, hdm⟩ | ⟨hd, hdx, hdm⟩
        · skip
          refine kz_top hdx ?_
          refine lv_istore (lv' := [(5, .int (nI (dgN (T k)))), (0, .ref h), (1, .int (nI base)), (2, .int (nI k0)), (3, .long (lN ac))]) hx hb dX_takeDigits_29 hl (by decide) rfl (fun ls hl => ?_)
          refine lv_iload hx hb dX_takeDigits_31 (lv_at hl 0 rfl) ?_
          refine lv_iconst (v := (-1)) hx hb dX_takeDigits_33 (by decide) ?_
          refine lv_icmp_eq (tgt := 74) hx hb dX_takeDigits_34 (by decide) (fun c34 => absurd c34.symm (m1_ne (by omega))) (fun c34 => ?_)
          refine lv_iload hx hb dX_takeDigits_37 (lv_at hl 0 rfl) ?_
          refine lv_iload_n hx hb dX_takeDigits_39 rfl (lv_at hl 2 rfl) ?_
          refine lv_icmp_lt (tgt := 46) hx hb dX_takeDigits_40 (by decide) (fun c40 => ?_) (fun c40 => ?_)
          · skip
            refine lv_lload_n hx hb dX_takeDigits_46 rfl (lv_at hl 4 rfl) ?_
            refine lv_iload_n hx hb dX_takeDigits_47 rfl (lv_at hl 2 rfl) ?_
            refine lv_i2l (v := (nI base).toInt64) hx hb dX_takeDigits_48 rfl ?_
            refine lv_lmul hx hb dX_takeDigits_49 ?_
            refine lv_iload hx hb dX_takeDigits_50 (lv_at hl 0 rfl) ?_
            refine lv_i2l (v := (nI (dgN (T k))).toInt64) hx hb dX_takeDigits_52 rfl ?_
            refine lv_ladd hx hb dX_takeDigits_53 ?_
            refine lv_ldc2 (v := 4294967296) hx hb S.2.2.2.1 (S.2.2.2.2 _ (List.mem_cons_of_mem _ wclX)) dX_takeDigits_54 ?_
            have hdb : dgN (T k) < base := Nat.lt_of_not_le (fun q => absurd c40 (nI_nlt q (by omega)))
            refine va_mmin_long hx hb (S.2.2.1.trans hl.1.symm) S.2.2.2.1 (S.2.2.2.2 _ (List.mem_cons_of_mem _ wmin_l)) (S.2.2.2.2 _ (List.mem_cons_of_mem _ wmin_s)) (S.2.2.2.2 _ (List.mem_cons_of_mem _ wnMath)) (S.2.2.2.2 _ (List.mem_cons_of_mem _ wmin_c)) (Nat.le_of_ble_eq_true rfl) (Nat.le_of_ble_eq_true rfl) (Nat.zero_le _) (Nat.zero_le _) dX_takeDigits_57 ?_
            refine kz_topl (dSc_min ha hb0 hd) ?_
            refine lv_lstore_n (lv' := [(3, .long (lN (min (ac * base + dgN (T k)) 4294967296))), (5, .int (nI (dgN (T k)))), (0, .ref h), (1, .int (nI base)), (2, .int (nI k0))]) hx hb dX_takeDigits_60 rfl hl (by decide) rfl (fun ls hl => ?_)
            refine lv_aload_n hx hb dX_takeDigits_61 rfl (lv_at hl 2 rfl) ?_
            refine lv_dup hx hb dX_takeDigits_62 rfl ?_
            refine gX11 S hw dX_takeDigits_63 ?_
            refine kz_top (y := nI k) g11 ?_
            refine lv_iconst (v := 1) hx hb dX_takeDigits_66 (by decide) ?_
            refine lv_iadd hx hb dX_takeDigits_67 ?_
            refine kz_top (y := nI (k + 1)) (nI_add k 1) ?_
            refine pX11 S hw dX_takeDigits_68 (fun H locs hw => ?_)
            refine lv_goto (tgt := 7) hx hb dX_takeDigits_71 (by decide) ?_
            rw [dSc_go hlt hdb] at hR
            exact ih (k + 1) _ (upd I1 11 (nI (k + 1))) H locs ls (by omega) (by omega) (by omega) (Nat.min_le_right _ _) rfl (fun k h1 => (pk_un h1).trans (gI k h1)) hR hw (lv_sub hl [2, 3, 4, 0] rfl)
          · skip
            refine lv_goto (tgt := 74) hx hb dX_takeDigits_43 (by decide) ?_
            rw [dSc_st hlt (fun q => c40 (nI_lt q (by omega)))] at hR
            exact cont I1 H locs ls (by rw [← hR]; exact g11) gI hw (by rw [← hR]; exact lv_sub hl [1, 3, 4] rfl)
        · skip
          refine kz_top hdx ?_
          refine lv_istore (lv' := [(5, .int (-1)), (0, .ref h), (1, .int (nI base)), (2, .int (nI k0)), (3, .long (lN ac))]) hx hb dX_takeDigits_29 hl (by decide) rfl (fun ls hl => ?_)
          refine lv_iload hx hb dX_takeDigits_31 (lv_at hl 0 rfl) ?_
          refine lv_iconst (v := (-1)) hx hb dX_takeDigits_33 (by decide) ?_
          refine lv_icmp_eq (tgt := 74) hx hb dX_takeDigits_34 (by decide) (fun c34 => ?_) (fun c34 => absurd c34 (by decide))
          rw [dSc_st hlt (by rw [hd]; omega)] at hR
          exact cont I1 H locs ls (by rw [← hR]; exact g11) gI hw (by rw [← hR]; exact lv_sub hl [1, 3, 4] rfl)
  refine lv_aload_n hx hb dX_takeDigits_0 rfl (lv_at hl 0 rfl) ?_
  refine gX11 S hw dX_takeDigits_1 ?_
  refine kz_top (y := nI k0) h11 ?_
  refine lv_istore_n (lv' := [(2, .int (nI k0)), (0, .ref h), (1, .int (nI base))]) hx hb dX_takeDigits_4 rfl hl (by decide) rfl (fun ls hl => ?_)
  refine lv_lconst (v := 0) hx hb dX_takeDigits_5 (by decide) ?_
  refine lv_lstore_n (lv' := [(3, .long 0), (2, .int (nI k0)), (0, .ref h), (1, .int (nI base))]) hx hb dX_takeDigits_6 rfl hl (by decide) rfl (fun ls hl => ?_)
  exact loop7 (n + 1003) k0 0 I s.heap [] ls (Nat.le_refl _) (Or.inr rfl) (by omega) (Nat.zero_le _) h11 (fun _ _ => rfl) rfl hw (lv_sub hl [2, 3, 1, 0] rfl)
theorem tkP.base {I I1 I' : Nat → Int32} {F F' : Nat → Nat → Int32} {e : Nat} {q q' : kz_S} {r : Int32} (h : tkP I1 F e q r I' F') (hI : ∀ k, k ≠ 10 → k ≠ 11 → k ≠ 13 → I1 k = I k) (hq : q' = q) : tkP I F e q' r I' F' := by
  subst hq
  exact ⟨h.1, fun k a b c => (h.2.1 k a b c).trans (hI k a b c), h.2.2⟩
set_option maxHeartbeats 4000000 in
set_option maxRecDepth 100000 in
theorem tX_takeNumberInBase (l : Launch) (I : Nat → Int32) (F : Nat → Nat → Int32) (T : Nat → Int32) (n : Nat) (hT : tpX T n I F) (p e : Nat) (h11 : I 11 = nI p) (hp : p < n) (h10 : I 10 = nI e) (he : e ≤ p) (h13 : I 13 = 0) : MX l yX_takeNumberInBase cX_takeNumberInBase 1 (some .int) ({ frames := 3, cells := 0, slots := 0, locals := 67 }) [] I F (iR (fun r I' F' => tkP I F e (if seeT T n (p + 1) = 88 then scD T n (p + 2) 16 else scD T n (p + 1) 8) r I' F')) := by
  refine MX.mk (by decide) (fun _ => Nat.le_of_ble_eq_true rfl) ?_
  intro z D cA h a pg en s m below meth c ls S hr hlk hA hw hl
  have hx := S.1
  have hb := S.2.1
  have hl : lv_has ls 1 [(0, .ref h)] := hl
  have hn := hT.2.1
  refine lv_aload_n hx hb dX_takeNumberInBase_0 rfl (lv_at hl 0 rfl) ?_
  refine lv_dup hx hb dX_takeNumberInBase_1 rfl ?_
  refine gX11 S hw dX_takeNumberInBase_2 ?_
  refine kz_top (y := nI p) h11 ?_
  refine lv_iconst (v := 1) hx hb dX_takeNumberInBase_5 (by decide) ?_
  refine lv_iadd hx hb dX_takeNumberInBase_6 ?_
  refine kz_top (y := nI (p + 1)) (nI_add p 1) ?_
  refine pX11 S hw dX_takeNumberInBase_7 (fun H locs hw => ?_)
  refine lv_aload_n hx hb dX_takeNumberInBase_10 rfl (lv_at hl 0 rfl) ?_
  refine lv_aload_n hx hb dX_takeNumberInBase_11 rfl (lv_at hl 0 rfl) ?_
  refine gX11 S hw dX_takeNumberInBase_12 ?_
  refine kz_top (y := nI (p + 1)) rfl ?_
  refine kcXi (rest := []) S kX_81 rfl (tX_tapeByte l (upd I 11 (nI (p + 1))) F T n hT (p + 1) (by omega)) hw hA ⟨Nat.le_of_ble_eq_true rfl, Nat.le_of_ble_eq_true rfl⟩ rfl rfl ⟨Nat.zero_le _, Nat.zero_le _⟩ rfl hl.1 (Nat.le_of_ble_eq_true rfl) dX_takeNumberInBase_15 (fun r I' F' H locs hq hw => ?_)
  obtain ⟨hr1, hr2, hr3⟩ := hq
  rw [hr2, hr3] at hw
  subst hr1
  refine lv_bipush (v := 88) hx hb dX_takeNumberInBase_18 (by decide) ?_
  refine lv_icmp_eq (tgt := 30) hx hb dX_takeNumberInBase_20 (by decide) (fun c20 => ?_) (fun c20 => ?_)
  · skip
    refine lv_aload_n hx hb dX_takeNumberInBase_30 rfl (lv_at hl 0 rfl) ?_
    refine lv_dup hx hb dX_takeNumberInBase_31 rfl ?_
    refine gX11 S hw dX_takeNumberInBase_32 ?_
    refine kz_top (y := nI (p + 1)) rfl ?_
    refine lv_iconst (v := 1) hx hb dX_takeNumberInBase_35 (by decide) ?_
    refine lv_iadd hx hb dX_takeNumberInBase_36 ?_
    refine kz_top (y := nI (p + 1 + 1)) (nI_add (p + 1) 1) ?_
    refine pX11 S hw dX_takeNumberInBase_37 (fun H locs hw => ?_)
    refine lv_aload_n hx hb dX_takeNumberInBase_40 rfl (lv_at hl 0 rfl) ?_
    refine lv_bipush (v := 16) hx hb dX_takeNumberInBase_41 (by decide) ?_
    refine kcXi (rest := []) S kX_112 rfl (tX_takeDigits l (upd (upd I 11 (nI (p + 1))) 11 (nI (p + 1 + 1))) F T n hT (p + 1 + 1) e 16 rfl (by omega) h10 h13 (by decide)) hw hA ⟨Nat.le_of_ble_eq_true rfl, Nat.le_of_ble_eq_true rfl⟩ rfl rfl ⟨Nat.zero_le _, Nat.zero_le _⟩ rfl hl.1 (Nat.le_of_ble_eq_true rfl) dX_takeNumberInBase_43 (fun r I' F' H locs hq hw => ?_)
    exact MX.iret S hr hlk hw dX_takeNumberInBase_46 rfl ⟨_, rfl, hq.base (fun k a b c => by simp [upd, a, b, c]) (if_pos c20)⟩
  · skip
    refine lv_aload_n hx hb dX_takeNumberInBase_23 rfl (lv_at hl 0 rfl) ?_
    refine lv_bipush (v := 8) hx hb dX_takeNumberInBase_24 (by decide) ?_
    refine kcXi (rest := []) S kX_112 rfl (tX_takeDigits l (upd I 11 (nI (p + 1))) F T n hT (p + 1) e 8 rfl (by omega) h10 h13 (by decide)) hw hA ⟨Nat.le_of_ble_eq_true rfl, Nat.le_of_ble_eq_true rfl⟩ rfl rfl ⟨Nat.zero_le _, Nat.zero_le _⟩ rfl hl.1 (Nat.le_of_ble_eq_true rfl) dX_takeNumberInBase_26 (fun r I' F' H locs hq hw => ?_)
    exact MX.iret S hr hlk hw dX_takeNumberInBase_29 rfl ⟨_, rfl, hq.base (fun k a b c => by simp [upd, a, b, c]) (if_neg c20)⟩
