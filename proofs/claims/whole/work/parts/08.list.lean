/-! ===== words in a text: numberInList ===== -/
/-- the walk over a text: number is the word's place, same how many bytes are alike so far (none: not) -/
def nilF (b : Nat → Int32) (size : Nat) : List Int32 → Nat → Option Nat → Int32
  | [], _, _ => -1
  | ch :: cs, num, sm =>
    if ch = 32 then (if sm = some size then nI num else nilF b size cs (num + 1) (some 0))
    else match sm with
      | some k => if k < size ∧ b k = ch then nilF b size cs num (some (k + 1)) else nilF b size cs num none
      | none => nilF b size cs num none
theorem nil_sp1 {b : Nat → Int32} {size num : Nat} {ch : Int32} {cs : List Int32} (h : ch = 32) : nilF b size (ch :: cs) num (some size) = nI num := by simp [nilF, h]
theorem nil_sp2 {b : Nat → Int32} {size num : Nat} {ch : Int32} {cs : List Int32} {sm : Option Nat} (h : ch = 32) (hs : ¬ sm = some size) : nilF b size (ch :: cs) num sm = nilF b size cs (num + 1) (some 0) := by simp [nilF, h, hs]
theorem nil_ch1 {b : Nat → Int32} {size num k : Nat} {ch : Int32} {cs : List Int32} (h : ¬ ch = 32) (h1 : k < size) (h2 : b k = ch) : nilF b size (ch :: cs) num (some k) = nilF b size cs num (some (k + 1)) := by simp [nilF, h, h1, h2]
theorem nil_ch2 {b : Nat → Int32} {size num k : Nat} {ch : Int32} {cs : List Int32} (h : ¬ ch = 32) (h1 : ¬ (k < size ∧ b k = ch)) : nilF b size (ch :: cs) num (some k) = nilF b size cs num none := by
  rw [nilF, if_neg h]; simp only [if_neg h1]
theorem nil_ch3 {b : Nat → Int32} {size num : Nat} {ch : Int32} {cs : List Int32} (h : ¬ ch = 32) : nilF b size (ch :: cs) num none = nilF b size cs num none := by simp [nilF, h]
theorem txK_len : ∀ i, i < 12 → (bytK.getD i []).length = lenK.getD i 0 := by decide +kernel
theorem txK_drop {i j : Nat} (hi : i < 12) (hj : j < lenK.getD i 0) : (bytK.getD i []).drop j = chK i j :: (bytK.getD i []).drop (j + 1) := by
  have h : j < (bytK.getD i []).length := by rw [txK_len i hi]; exact hj
  unfold chK
  generalize bytK.getD i [] = L at h ⊢
  rw [List.drop_eq_getElem_cons h, List.getD_eq_getElem?_getD, List.getElem?_eq_getElem h]
  rfl
theorem txK_end {i j : Nat} (hi : i < 12) (hj : lenK.getD i 0 ≤ j) : (bytK.getD i []).drop j = [] := List.drop_eq_nil_of_le (by rw [txK_len i hi]; exact hj)
theorem elA_in {f : Nat → Int32} {N j : Nat} (h : j < N) (hN : N < 2 ^ 31) : elA f N (nI j) = f j := by
  rw [elA, if_neg (nI_pos (by omega)), if_neg (nI_ge h hN), nI_clamp (by omega)]
theorem m1_ne {n : Nat} (h : n < 2 ^ 31) : ¬ (-1 : Int32) = nI n := by
  intro e
  have := nI_toInt h
  rw [← e] at this
  have h2 : (-1 : Int32).toInt = -1 := by decide
  omega
theorem m1_lt : (-1 : Int32) < 0 := by decide
def encS (sm : Option Nat) : Int32 := match sm with
  | some k => nI k
  | none => -1
set_option maxHeartbeats 4000000 in
set_option maxRecDepth 100000 in
theorem tX_numberInList (l : Launch) (z : kz_Z) (i : Nat) (hi : i < 12) (q N : Nat) (f : Nat → Int32) (hN : N < 2 ^ 31) (st size : Nat) (hs : st + size ≤ N) : MS l yX_numberInList cX_numberInList 8 (some .int) ({ frames := 4, cells := 0, slots := 0, locals := 85 }) [.ref (z.2.1 i), .ref q, .int (nI st), .int (nI size)] z (some (q, N, f)) (fun v => ∃ r, v = some (.int r) ∧ r = nilF (fun k => f (st + k)) size (bytK.getD i []) 0 (some 0)) := by
  refine MS.mk (by decide) (Nat.le_of_ble_eq_true rfl) ?_
  intro pg en s m below meth c ls S hr hlk hw hl
  have hA : ∀ q, s.heap.size ≤ q → (fun x => s.heap.size ≤ x) q := fun _ h => h
  have hx := S.1
  have hb := S.2.1
  have hl : lv_has ls 8 [(0, .ref (z.2.1 i)), (1, .ref q), (2, .int (nI st)), (3, .int (nI size))] := hl
  have loop : ∀ (n j num : Nat) (sm : Option Nat) (H : Heap) (locs : List Loc) (ls : Array Slot), j ≤ lenK.getD i 0 → lenK.getD i 0 + 1 ≤ j + n → num ≤ j → (∀ k, sm = some k → k ≤ j) → nilF (fun k => f (st + k)) size ((bytK.getD i []).drop j) num sm = nilF (fun k => f (st + k)) size (bytK.getD i []) 0 (some 0) → sS z (some (q, N, f)) s H locs → lv_has ls 8 [(0, .ref (z.2.1 i)), (1, .ref q), (2, .int (nI st)), (3, .int (nI size)), (4, .int (nI num)), (5, .int (encS sm)), (6, .int (nI j))] → W pg l en ({ frames := 4, cells := 0, slots := 0, locals := 85 }) s m ([.ref (z.2.1 i), .ref q, .int (nI st), .int (nI size)] : List Value).toArray below meth c H locs 0 0 (MQ below (QS s.heap.size (fun v => ∃ r, v = some (.int r) ∧ r = nilF (fun k => f (st + k)) size (bytK.getD i []) 0 (some 0))) ([.ref (z.2.1 i), .ref q, .int (nI st), .int (nI size)] : List Value).toArray s 0 0 (fun x => s.heap.size ≤ x)) (F0 m 9 ls []) := by
    intro n
    induction n with
    | zero => intro j num sm H locs ls h1 h2; omega
    | succ n ih =>
      intro j num sm H locs ls h1 h2 h3 h4 hR hw hl
      have hLK := lenK_ok i hi
      cases sm with
      | none =>
          have hl : lv_has ls 8 [(0, .ref (z.2.1 i)), (1, .ref q), (2, .int (nI st)), (3, .int (nI size)), (4, .int (nI num)), (5, .int (-1)), (6, .int (nI j))] := hl
          refine lv_iload hx hb dX_numberInList_9 (lv_at hl 6 rfl) ?_
          refine lv_aload_n hx hb dX_numberInList_11 rfl (lv_at hl 0 rfl) ?_
          refine kcST (rest := [.int (nI j)]) S kX_165 rfl hi (tS_length l z none i hi) hw hA arNone ⟨Nat.le_of_ble_eq_true rfl, Nat.le_of_ble_eq_true rfl⟩ rfl rfl ⟨Nat.zero_le _, Nat.zero_le _⟩ rfl hl.1 (Nat.le_of_ble_eq_true rfl) dX_numberInList_12 (fun r H locs hq hw => ?_)
          subst hq
          refine lv_icmp_ge (tgt := 90) hx hb dX_numberInList_15 (by decide) (fun c15 => ?_) (fun c15 => ?_)
          · skip
            refine lv_iconst (v := (-1)) hx hb dX_numberInList_90 (by decide) ?_
            exact MS.iret S hr hlk hw dX_numberInList_91 rfl ⟨_, rfl, by rw [← hR, txK_end hi (Nat.le_of_not_lt (fun q => absurd c15 (nI_ge q (by omega))))]; rfl⟩
          · skip
            refine lv_aload_n hx hb dX_numberInList_18 rfl (lv_at hl 0 rfl) ?_
            refine lv_iload hx hb dX_numberInList_19 (lv_at hl 6 rfl) ?_
            have hj : j < lenK.getD i 0 := Nat.lt_of_not_le (fun q => c15 (nI_le q (by omega)))
            have hd := txK_drop hi hj
            refine kcST (rest := []) S kX_170 rfl hi (tS_charAt l z none i hi j hj) hw hA arNone ⟨Nat.le_of_ble_eq_true rfl, Nat.le_of_ble_eq_true rfl⟩ rfl rfl ⟨Nat.zero_le _, Nat.zero_le _⟩ rfl hl.1 (Nat.le_of_ble_eq_true rfl) dX_numberInList_21 (fun r H locs hq hw => ?_)
            subst hq
            refine lv_istore (lv' := [(7, .int (chK i j)), (0, .ref (z.2.1 i)), (1, .ref q), (2, .int (nI st)), (3, .int (nI size)), (4, .int (nI num)), (5, .int (-1)), (6, .int (nI j))]) hx hb dX_numberInList_24 hl (by decide) rfl (fun ls hl => ?_)
            refine lv_iload hx hb dX_numberInList_26 (lv_at hl 0 rfl) ?_
            refine lv_bipush (v := 32) hx hb dX_numberInList_28 (by decide) ?_
            refine lv_icmp_ne (tgt := 51) hx hb dX_numberInList_30 (by decide) (fun c30 => ?_) (fun c30 => ?_)
            · skip
              refine lv_iload hx hb dX_numberInList_51 (lv_at hl 6 rfl) ?_
              refine lv_if_lt (tgt := 81) hx hb dX_numberInList_53 (by decide) (fun c53 => ?_) (fun c53 => absurd c53 (by decide))
              refine lv_iconst (v := (-1)) hx hb dX_numberInList_81 (by decide) ?_
              refine lv_istore (lv' := [(5, .int (-1)), (7, .int (chK i j)), (0, .ref (z.2.1 i)), (1, .ref q), (2, .int (nI st)), (3, .int (nI size)), (4, .int (nI num)), (6, .int (nI j))]) hx hb dX_numberInList_82 hl (by decide) rfl (fun ls hl => ?_)
              refine lv_iinc (v := nI (j + 1)) (lv' := [(6, .int (nI (j + 1))), (5, .int (-1)), (7, .int (chK i j)), (0, .ref (z.2.1 i)), (1, .ref q), (2, .int (nI st)), (3, .int (nI size)), (4, .int (nI num))]) hx hb dX_numberInList_84 hl (k := 7) rfl (nI_1 j) (by decide) rfl (fun ls hl => ?_)
              refine lv_goto (tgt := 9) hx hb dX_numberInList_87 (by decide) ?_
              rw [hd, nil_ch3 c30] at hR
              exact ih (j + 1) (num) none H locs ls (by omega) (by omega) (by omega) (by intro k h; cases h) hR hw (lv_sub hl [3, 4, 5, 6, 7, 1, 0] rfl)
            · skip
              refine lv_iload hx hb dX_numberInList_33 (lv_at hl 6 rfl) ?_
              refine lv_iload_n hx hb dX_numberInList_35 rfl (lv_at hl 4 rfl) ?_
              refine lv_icmp_ne (tgt := 42) hx hb dX_numberInList_36 (by decide) (fun c36 => ?_) (fun c36 => absurd c36 (m1_ne (by omega)))
              refine lv_iinc (v := nI (num + 1)) (lv' := [(4, .int (nI (num + 1))), (7, .int (chK i j)), (0, .ref (z.2.1 i)), (1, .ref q), (2, .int (nI st)), (3, .int (nI size)), (5, .int (-1)), (6, .int (nI j))]) hx hb dX_numberInList_42 hl (k := 5) rfl (nI_1 num) (by decide) rfl (fun ls hl => ?_)
              refine lv_iconst (v := 0) hx hb dX_numberInList_45 (by decide) ?_
              refine lv_istore (lv' := [(5, .int 0), (4, .int (nI (num + 1))), (7, .int (chK i j)), (0, .ref (z.2.1 i)), (1, .ref q), (2, .int (nI st)), (3, .int (nI size)), (6, .int (nI j))]) hx hb dX_numberInList_46 hl (by decide) rfl (fun ls hl => ?_)
              refine lv_goto (tgt := 84) hx hb dX_numberInList_48 (by decide) ?_
              refine lv_iinc (v := nI (j + 1)) (lv' := [(6, .int (nI (j + 1))), (5, .int 0), (4, .int (nI (num + 1))), (7, .int (chK i j)), (0, .ref (z.2.1 i)), (1, .ref q), (2, .int (nI st)), (3, .int (nI size))]) hx hb dX_numberInList_84 hl (k := 7) rfl (nI_1 j) (by decide) rfl (fun ls hl => ?_)
              refine lv_goto (tgt := 9) hx hb dX_numberInList_87 (by decide) ?_
              rw [hd, nil_sp2 c30 (by simp)] at hR
              exact ih (j + 1) (num + 1) (some 0) H locs ls (by omega) (by omega) (by omega) (by intro k h; cases h; exact Nat.zero_le _) hR hw (lv_sub hl [4, 5, 6, 7, 2, 1, 0] rfl)
      | some k =>
          have hk4 := h4 k rfl
          have hl : lv_has ls 8 [(0, .ref (z.2.1 i)), (1, .ref q), (2, .int (nI st)), (3, .int (nI size)), (4, .int (nI num)), (5, .int (nI k)), (6, .int (nI j))] := hl
          refine lv_iload hx hb dX_numberInList_9 (lv_at hl 6 rfl) ?_
          refine lv_aload_n hx hb dX_numberInList_11 rfl (lv_at hl 0 rfl) ?_
          refine kcST (rest := [.int (nI j)]) S kX_165 rfl hi (tS_length l z none i hi) hw hA arNone ⟨Nat.le_of_ble_eq_true rfl, Nat.le_of_ble_eq_true rfl⟩ rfl rfl ⟨Nat.zero_le _, Nat.zero_le _⟩ rfl hl.1 (Nat.le_of_ble_eq_true rfl) dX_numberInList_12 (fun r H locs hq hw => ?_)
          subst hq
          refine lv_icmp_ge (tgt := 90) hx hb dX_numberInList_15 (by decide) (fun c15 => ?_) (fun c15 => ?_)
          · skip
            refine lv_iconst (v := (-1)) hx hb dX_numberInList_90 (by decide) ?_
            exact MS.iret S hr hlk hw dX_numberInList_91 rfl ⟨_, rfl, by rw [← hR, txK_end hi (Nat.le_of_not_lt (fun q => absurd c15 (nI_ge q (by omega))))]; rfl⟩
          · skip
            refine lv_aload_n hx hb dX_numberInList_18 rfl (lv_at hl 0 rfl) ?_
            refine lv_iload hx hb dX_numberInList_19 (lv_at hl 6 rfl) ?_
            have hj : j < lenK.getD i 0 := Nat.lt_of_not_le (fun q => c15 (nI_le q (by omega)))
            have hd := txK_drop hi hj
            refine kcST (rest := []) S kX_170 rfl hi (tS_charAt l z none i hi j hj) hw hA arNone ⟨Nat.le_of_ble_eq_true rfl, Nat.le_of_ble_eq_true rfl⟩ rfl rfl ⟨Nat.zero_le _, Nat.zero_le _⟩ rfl hl.1 (Nat.le_of_ble_eq_true rfl) dX_numberInList_21 (fun r H locs hq hw => ?_)
            subst hq
            refine lv_istore (lv' := [(7, .int (chK i j)), (0, .ref (z.2.1 i)), (1, .ref q), (2, .int (nI st)), (3, .int (nI size)), (4, .int (nI num)), (5, .int (nI k)), (6, .int (nI j))]) hx hb dX_numberInList_24 hl (by decide) rfl (fun ls hl => ?_)
            refine lv_iload hx hb dX_numberInList_26 (lv_at hl 0 rfl) ?_
            refine lv_bipush (v := 32) hx hb dX_numberInList_28 (by decide) ?_
            refine lv_icmp_ne (tgt := 51) hx hb dX_numberInList_30 (by decide) (fun c30 => ?_) (fun c30 => ?_)
            · skip
              refine lv_iload hx hb dX_numberInList_51 (lv_at hl 6 rfl) ?_
              refine lv_if_lt (tgt := 81) hx hb dX_numberInList_53 (by decide) (fun c53 => absurd c53 (nI_pos (by have := h4 k rfl; omega))) (fun c53 => ?_)
              refine lv_iload hx hb dX_numberInList_56 (lv_at hl 6 rfl) ?_
              refine lv_iload_n hx hb dX_numberInList_58 rfl (lv_at hl 4 rfl) ?_
              refine lv_icmp_ge (tgt := 81) hx hb dX_numberInList_59 (by decide) (fun c59 => ?_) (fun c59 => ?_)
              · skip
                refine lv_iconst (v := (-1)) hx hb dX_numberInList_81 (by decide) ?_
                refine lv_istore (lv' := [(5, .int (-1)), (7, .int (chK i j)), (0, .ref (z.2.1 i)), (1, .ref q), (2, .int (nI st)), (3, .int (nI size)), (4, .int (nI num)), (6, .int (nI j))]) hx hb dX_numberInList_82 hl (by decide) rfl (fun ls hl => ?_)
                refine lv_iinc (v := nI (j + 1)) (lv' := [(6, .int (nI (j + 1))), (5, .int (-1)), (7, .int (chK i j)), (0, .ref (z.2.1 i)), (1, .ref q), (2, .int (nI st)), (3, .int (nI size)), (4, .int (nI num))]) hx hb dX_numberInList_84 hl (k := 7) rfl (nI_1 j) (by decide) rfl (fun ls hl => ?_)
                refine lv_goto (tgt := 9) hx hb dX_numberInList_87 (by decide) ?_
                rw [hd, nil_ch2 (b := fun k => f (st + k)) c30 (fun q => absurd c59 (nI_ge q.1 (by omega)))] at hR
                exact ih (j + 1) (num) none H locs ls (by omega) (by omega) (by omega) (by intro k h; cases h) hR hw (lv_sub hl [3, 4, 5, 6, 7, 1, 0] rfl)
              · skip
                refine lv_aload_n hx hb dX_numberInList_62 rfl (lv_at hl 2 rfl) ?_
                refine lv_iload_n hx hb dX_numberInList_63 rfl (lv_at hl 3 rfl) ?_
                refine lv_iload hx hb dX_numberInList_64 (lv_at hl 6 rfl) ?_
                refine lv_iadd hx hb dX_numberInList_66 ?_
                have hks : k < size := Nat.lt_of_not_le (fun q => c59 (nI_le q (by omega)))
                refine kcSS (rest := []) S kX_77 (tX_elementAt l z q N f hN (nI st + nI k)) hw hA hw.ar ⟨Nat.le_of_ble_eq_true rfl, Nat.le_of_ble_eq_true rfl⟩ rfl rfl ⟨Nat.zero_le _, Nat.zero_le _⟩ rfl hl.1 (Nat.le_of_ble_eq_true rfl) dX_numberInList_67 (fun r H locs hq hw => ?_)
                rw [nI_add, elA_in (by omega) hN] at hq
                subst hq
                refine lv_iload hx hb dX_numberInList_70 (lv_at hl 0 rfl) ?_
                refine lv_icmp_ne (tgt := 81) hx hb dX_numberInList_72 (by decide) (fun c72 => ?_) (fun c72 => ?_)
                · skip
                  refine lv_iconst (v := (-1)) hx hb dX_numberInList_81 (by decide) ?_
                  refine lv_istore (lv' := [(5, .int (-1)), (7, .int (chK i j)), (0, .ref (z.2.1 i)), (1, .ref q), (2, .int (nI st)), (3, .int (nI size)), (4, .int (nI num)), (6, .int (nI j))]) hx hb dX_numberInList_82 hl (by decide) rfl (fun ls hl => ?_)
                  refine lv_iinc (v := nI (j + 1)) (lv' := [(6, .int (nI (j + 1))), (5, .int (-1)), (7, .int (chK i j)), (0, .ref (z.2.1 i)), (1, .ref q), (2, .int (nI st)), (3, .int (nI size)), (4, .int (nI num))]) hx hb dX_numberInList_84 hl (k := 7) rfl (nI_1 j) (by decide) rfl (fun ls hl => ?_)
                  refine lv_goto (tgt := 9) hx hb dX_numberInList_87 (by decide) ?_
                  rw [hd, nil_ch2 (b := fun k => f (st + k)) c30 (fun q => c72 q.2)] at hR
                  exact ih (j + 1) (num) none H locs ls (by omega) (by omega) (by omega) (by intro k h; cases h) hR hw (lv_sub hl [3, 4, 5, 6, 7, 1, 0] rfl)
                · skip
                  refine lv_iinc (v := nI (k + 1)) (lv' := [(5, .int (nI (k + 1))), (7, .int (chK i j)), (0, .ref (z.2.1 i)), (1, .ref q), (2, .int (nI st)), (3, .int (nI size)), (4, .int (nI num)), (6, .int (nI j))]) hx hb dX_numberInList_75 hl (k := 6) rfl (nI_1 k) (by decide) rfl (fun ls hl => ?_)
                  refine lv_goto (tgt := 84) hx hb dX_numberInList_78 (by decide) ?_
                  refine lv_iinc (v := nI (j + 1)) (lv' := [(6, .int (nI (j + 1))), (5, .int (nI (k + 1))), (7, .int (chK i j)), (0, .ref (z.2.1 i)), (1, .ref q), (2, .int (nI st)), (3, .int (nI size)), (4, .int (nI num))]) hx hb dX_numberInList_84 hl (k := 7) rfl (nI_1 j) (by decide) rfl (fun ls hl => ?_)
                  refine lv_goto (tgt := 9) hx hb dX_numberInList_87 (by decide) ?_
                  rw [hd, nil_ch1 (b := fun k => f (st + k)) c30 (Nat.lt_of_not_le (fun q => c59 (nI_le q (by omega)))) c72] at hR
                  exact ih (j + 1) (num) (some (k + 1)) H locs ls (by omega) (by omega) (by omega) (by intro k' h; cases h; have := h4 k rfl; omega) hR hw (lv_sub hl [3, 4, 5, 6, 7, 1, 0] rfl)
            · skip
              refine lv_iload hx hb dX_numberInList_33 (lv_at hl 6 rfl) ?_
              refine lv_iload_n hx hb dX_numberInList_35 rfl (lv_at hl 4 rfl) ?_
              refine lv_icmp_ne (tgt := 42) hx hb dX_numberInList_36 (by decide) (fun c36 => ?_) (fun c36 => ?_)
              · skip
                refine lv_iinc (v := nI (num + 1)) (lv' := [(4, .int (nI (num + 1))), (7, .int (chK i j)), (0, .ref (z.2.1 i)), (1, .ref q), (2, .int (nI st)), (3, .int (nI size)), (5, .int (nI k)), (6, .int (nI j))]) hx hb dX_numberInList_42 hl (k := 5) rfl (nI_1 num) (by decide) rfl (fun ls hl => ?_)
                refine lv_iconst (v := 0) hx hb dX_numberInList_45 (by decide) ?_
                refine lv_istore (lv' := [(5, .int 0), (4, .int (nI (num + 1))), (7, .int (chK i j)), (0, .ref (z.2.1 i)), (1, .ref q), (2, .int (nI st)), (3, .int (nI size)), (6, .int (nI j))]) hx hb dX_numberInList_46 hl (by decide) rfl (fun ls hl => ?_)
                refine lv_goto (tgt := 84) hx hb dX_numberInList_48 (by decide) ?_
                refine lv_iinc (v := nI (j + 1)) (lv' := [(6, .int (nI (j + 1))), (5, .int 0), (4, .int (nI (num + 1))), (7, .int (chK i j)), (0, .ref (z.2.1 i)), (1, .ref q), (2, .int (nI st)), (3, .int (nI size))]) hx hb dX_numberInList_84 hl (k := 7) rfl (nI_1 j) (by decide) rfl (fun ls hl => ?_)
                refine lv_goto (tgt := 9) hx hb dX_numberInList_87 (by decide) ?_
                rw [hd, nil_sp2 c30 (fun q => c36 (by rw [Option.some.inj q]))] at hR
                exact ih (j + 1) (num + 1) (some 0) H locs ls (by omega) (by omega) (by omega) (by intro k h; cases h; exact Nat.zero_le _) hR hw (lv_sub hl [4, 5, 6, 7, 2, 1, 0] rfl)
              · skip
                refine lv_iload hx hb dX_numberInList_39 (lv_at hl 5 rfl) ?_
                exact MS.iret S hr hlk hw dX_numberInList_41 rfl ⟨_, rfl, by rw [hd] at hR; have e := (nI_eq (by have := h4 k rfl; omega) (by omega)).mp c36; subst e; rw [nil_sp1 c30] at hR; exact hR⟩
  refine lv_iconst (v := 0) hx hb dX_numberInList_0 (by decide) ?_
  refine lv_istore (lv' := [(4, .int 0), (0, .ref (z.2.1 i)), (1, .ref q), (2, .int (nI st)), (3, .int (nI size))]) hx hb dX_numberInList_1 hl (by decide) rfl (fun ls hl => ?_)
  refine lv_iconst (v := 0) hx hb dX_numberInList_3 (by decide) ?_
  refine lv_istore (lv' := [(5, .int 0), (4, .int 0), (0, .ref (z.2.1 i)), (1, .ref q), (2, .int (nI st)), (3, .int (nI size))]) hx hb dX_numberInList_4 hl (by decide) rfl (fun ls hl => ?_)
  refine lv_iconst (v := 0) hx hb dX_numberInList_6 (by decide) ?_
  refine lv_istore (lv' := [(6, .int 0), (5, .int 0), (4, .int 0), (0, .ref (z.2.1 i)), (1, .ref q), (2, .int (nI st)), (3, .int (nI size))]) hx hb dX_numberInList_7 hl (by decide) rfl (fun ls hl => ?_)
  exact loop (lenK.getD i 0 + 1) 0 0 (some 0) s.heap [] ls (Nat.zero_le _) (by omega) (Nat.le_refl _) (by intro k h; cases h; exact Nat.le_refl _) rfl hw (lv_sub hl [3, 4, 5, 6, 2, 1, 0] rfl)
