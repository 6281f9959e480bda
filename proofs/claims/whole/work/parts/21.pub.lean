/-! ===== Int32 by its bits: bt x i ===== -/
def bt (x : Int32) (i : Nat) : Bool := x.toBitVec.getLsbD i
theorem b_ext {x y : Int32} (h : ∀ i, i < 32 → bt x i = bt y i) : x = y := Int32.toBitVec_inj.mp (BitVec.eq_of_getLsbD_eq (fun i hi => h i hi))
theorem b_or (x y : Int32) (i : Nat) : bt (x ||| y) i = (bt x i || bt y i) := by unfold bt; rw [Int32.toBitVec_or, BitVec.getLsbD_or]
theorem b_and (x y : Int32) (i : Nat) : bt (x &&& y) i = (bt x i && bt y i) := by unfold bt; rw [Int32.toBitVec_and, BitVec.getLsbD_and]
theorem b_xor (x y : Int32) (i : Nat) : bt (x ^^^ y) i = (bt x i ^^ bt y i) := by unfold bt; rw [Int32.toBitVec_xor, BitVec.getLsbD_xor]
theorem b_big {x : Int32} {i : Nat} (h : 32 ≤ i) : bt x i = false := BitVec.getLsbD_of_ge _ _ h
theorem b_255 (i : Nat) : bt 255 i = decide (i < 8) := by
  rcases Nat.lt_or_ge i 32 with h | h
  · exact (by decide +kernel : ∀ i, i < 32 → bt 255 i = decide (i < 8)) i h
  · rw [b_big h, decide_eq_false (by omega)]
theorem b_65535 (i : Nat) : bt 65535 i = decide (i < 16) := by
  rcases Nat.lt_or_ge i 32 with h | h
  · exact (by decide +kernel : ∀ i, i < 32 → bt 65535 i = decide (i < 16)) i h
  · rw [b_big h, decide_eq_false (by omega)]
theorem b_m1 : ∀ i, i < 32 → bt (-1) i = true := by decide +kernel
theorem b_0 (i : Nat) : bt 0 i = false := BitVec.getLsbD_zero
theorem s_l : ∀ n, n < 32 → ((nI n &&& 31).toBitVec.smod 32).toNat = n := by decide +kernel
theorem s_u : ∀ n, n < 32 → (((nI n).toUInt32 &&& Int32.toUInt32 31).toBitVec % 32).toNat = n := by decide +kernel
theorem b_shl (n : Nat) (hn : n < 32) (x : Int32) {i : Nat} (hi : i < 32) : bt (x <<< (nI n &&& 31)) i = (decide (n ≤ i) && bt x (i - n)) := by
  unfold bt
  rw [Int32.toBitVec_shiftLeft]
  show (x.toBitVec <<< ((nI n &&& 31).toBitVec.smod 32).toNat).getLsbD i = _
  rw [s_l n hn, BitVec.getLsbD_shiftLeft]
  rcases Nat.lt_or_ge i n with h | h
  · simp [h, Nat.not_le.mpr h]
  · simp [hi, h, Nat.not_lt.mpr h]
theorem b_ushr (n : Nat) (hn : n < 32) (x : Int32) (i : Nat) : bt ((x.toUInt32 >>> ((nI n).toUInt32 &&& Int32.toUInt32 31)).toInt32) i = bt x (n + i) := by
  show (x.toUInt32 >>> ((nI n).toUInt32 &&& Int32.toUInt32 31)).toBitVec.getLsbD i = x.toUInt32.toBitVec.getLsbD (n + i)
  rw [UInt32.toBitVec_shiftRight]
  show (x.toUInt32.toBitVec >>> (((nI n).toUInt32 &&& Int32.toUInt32 31).toBitVec % 32).toNat).getLsbD i = _
  rw [s_u n hn, BitVec.getLsbD_ushiftRight]
theorem b_sshr (n : Nat) (hn : n < 32) (x : Int32) {i : Nat} (hi : i < 32) : bt (x >>> (nI n &&& 31)) i = if n + i < 32 then bt x (n + i) else bt x 31 := by
  unfold bt
  rw [Int32.toBitVec_shiftRight]
  show (x.toBitVec.sshiftRight ((nI n &&& 31).toBitVec.smod 32).toNat).getLsbD i = _
  rw [s_l n hn, BitVec.getLsbD_sshiftRight, BitVec.msb_eq_getLsbD_last]
  simp [hi]

/-! ===== the class: its public methods ===== -/
def stX (T : Nat → Int32) (n : Nat) (ts : List kz_T) (I : Nat → Int32) (F : Nat → Nat → Int32) : Prop := tpX T n I F ∧ ∃ e, e ≤ 1000 ∧ repX ts e I F
def byteI (x : Int32) (s : Nat) : Int32 := (x.toUInt32 >>> ((nI s).toUInt32 &&& Int32.toUInt32 31)).toInt32 &&& 255
theorem byte_eq (x : Int32) {s : Nat} (hs : s ≤ 24) : (x >>> (nI s &&& 31)) &&& 255 = byteI x s := by
  apply b_ext
  intro i hi
  unfold byteI
  rw [b_and, b_and, b_255, b_ushr s (by omega), b_sshr s (by omega) x hi]
  by_cases h : i < 8
  · rw [if_pos (by omega)]
  · simp [h]
theorem byte_nn (x : Int32) (s : Nat) : ¬ byteI x s < 0 := by
  obtain ⟨j, hj, e⟩ := pk_andE (x.toUInt32 >>> ((nI s).toUInt32 &&& Int32.toUInt32 31)).toInt32 (m := 255) 8 (by decide)
  unfold byteI
  rw [e]
  exact nI_pos (by omega)
def putT (T : Nat → Int32) (n : Nat) (x : Int32) : Nat → Int32 := upd (upd (upd (upd T n (byteI x 24)) (n + 1) (byteI x 16)) (n + 2) (byteI x 8)) (n + 3) (byteI x 0)
theorem putT_at {T f : Nat → Int32} {n : Nat} {x : Int32} (h : ∀ j, j < n → f j = T j) : ∀ j, j < n + 4 → putT f n x j = putT T n x j := by
  intro j hj
  simp only [putT, upd]
  by_cases h1 : j = n + 3
  · simp [h1]
  · by_cases h2 : j = n + 2
    · simp [h2]
    · by_cases h3 : j = n + 1
      · simp [h3]
      · by_cases h4 : j = n
        · simp [h4]
        · simp [h1, h2, h3, h4, h j (by omega)]
theorem putT_nn {T : Nat → Int32} {n : Nat} {x : Int32} (h : ∀ j, j < n → ¬ T j < 0) : ∀ j, j < n + 4 → ¬ putT T n x j < 0 := by
  intro j hj
  simp only [putT, upd]
  split
  · exact byte_nn x 0
  · split
    · exact byte_nn x 8
    · split
      · exact byte_nn x 16
      · split
        · exact byte_nn x 24
        · exact h j (by omega)
theorem nI_ile {n : Nat} (h : n < 2 ^ 31) {x : Int32} (h0 : ¬ x < 0) (h1 : ¬ nI n < x) : ∃ j, j ≤ n ∧ x = nI j := by
  obtain ⟨j, hj, rfl⟩ := nI_of h0
  exact ⟨j, Nat.le_of_not_lt (fun q => h1 (nI_lt q hj)), rfl⟩
set_option maxHeartbeats 4000000 in
set_option maxRecDepth 100000 in
theorem tX_appendBytes (l : Launch) (I : Nat → Int32) (F : Nat → Nat → Int32) (T : Nat → Int32) (n : Nat) (hT : tpX T n I F) (hn4 : n + 4 ≤ 1000) (x : Int32) : MX l yX_appendBytes cX_appendBytes 3 none ({ frames := 0, cells := 0, slots := 0, locals := 0 }) [.int x] I F (vR (fun I' F' => tpX (putT T n x) (n + 4) I' F' ∧ (∀ k, k ≠ 1 → I' k = I k) ∧ ∀ k, k ≠ 0 → F' k = F k)) := by
  refine MX.mk (by decide) (fun _ => Nat.le_of_ble_eq_true rfl) ?_
  intro z D cA h a pg en s m below meth c ls S hr hlk hA hw hl
  have hx := S.1
  have hb := S.2.1
  have hl : lv_has ls 3 [(0, .ref h), (1, .int x)] := hl
  refine lv_bipush (v := 24) hx hb dX_appendBytes_0 (by decide) ?_
  refine lv_istore_n (lv' := [(2, .int 24), (0, .ref h), (1, .int x)]) hx hb dX_appendBytes_2 rfl hl (by decide) rfl (fun ls hl => ?_)
  refine lv_iload_n hx hb dX_appendBytes_3 rfl (lv_at hl 0 rfl) ?_
  refine lv_if_lt (tgt := 49) hx hb dX_appendBytes_4 (by decide) (fun c4 => absurd c4 (by decide)) (fun c4 => ?_)
  refine lv_aload_n hx hb dX_appendBytes_7 rfl (lv_at hl 1 rfl) ?_
  refine gX1 S hw dX_appendBytes_8 ?_
  refine kz_top (y := nI n) hT.1 ?_
  refine lv_sipush (v := 1000) hx hb dX_appendBytes_11 (by decide) ?_
  refine lv_icmp_ge (tgt := 49) hx hb dX_appendBytes_14 (by decide) (fun c14 => absurd c14 (nI_ge (a := n) (b := 1000) (by omega) (by decide))) (fun c14 => ?_)
  refine lv_aload_n hx hb dX_appendBytes_17 rfl (lv_at hl 1 rfl) ?_
  refine gX0 S hw dX_appendBytes_18 ?_
  refine lv_aload_n hx hb dX_appendBytes_21 rfl (lv_at hl 1 rfl) ?_
  refine gX1 S hw dX_appendBytes_22 ?_
  refine kz_top (y := nI n) hT.1 ?_
  refine lv_iload_n hx hb dX_appendBytes_25 rfl (lv_at hl 2 rfl) ?_
  refine lv_iload_n hx hb dX_appendBytes_26 rfl (lv_at hl 0 rfl) ?_
  refine lv_iushr (v := (x.toUInt32 >>> ((24 : Int32).toUInt32 &&& Int32.toUInt32 31)).toInt32) hx hb dX_appendBytes_27 rfl ?_
  refine lv_sipush (v := 255) hx hb dX_appendBytes_28 (by decide) ?_
  refine lv_iand hx hb dX_appendBytes_31 ?_
  refine stX0 S hw (vp_in_nI (by omega) (by decide)) dX_appendBytes_32 (fun H locs hw => ?_)
  refine lv_aload_n hx hb dX_appendBytes_33 rfl (lv_at hl 1 rfl) ?_
  refine lv_dup hx hb dX_appendBytes_34 rfl ?_
  refine gX1 S hw dX_appendBytes_35 ?_
  refine kz_top (y := nI n) hT.1 ?_
  refine lv_iconst (v := 1) hx hb dX_appendBytes_38 (by decide) ?_
  refine lv_iadd hx hb dX_appendBytes_39 ?_
  refine kz_top (y := nI (n + 1)) (nI_add n 1) ?_
  refine pX1 S hw dX_appendBytes_40 (fun H locs hw => ?_)
  refine lv_iinc (v := 16) (lv' := [(2, .int 16), (0, .ref h), (1, .int x)]) hx hb dX_appendBytes_43 hl (k := 0) rfl (by decide) (by decide) rfl (fun ls hl => ?_)
  refine lv_goto (tgt := 3) hx hb dX_appendBytes_46 (by decide) ?_
  refine lv_iload_n hx hb dX_appendBytes_3 rfl (lv_at hl 0 rfl) ?_
  refine lv_if_lt (tgt := 49) hx hb dX_appendBytes_4 (by decide) (fun c4 => absurd c4 (by decide)) (fun c4 => ?_)
  refine lv_aload_n hx hb dX_appendBytes_7 rfl (lv_at hl 1 rfl) ?_
  refine gX1 S hw dX_appendBytes_8 ?_
  refine kz_top (y := nI (n + 1)) rfl ?_
  refine lv_sipush (v := 1000) hx hb dX_appendBytes_11 (by decide) ?_
  refine lv_icmp_ge (tgt := 49) hx hb dX_appendBytes_14 (by decide) (fun c14 => absurd c14 (nI_ge (a := n + 1) (b := 1000) (by omega) (by decide))) (fun c14 => ?_)
  refine lv_aload_n hx hb dX_appendBytes_17 rfl (lv_at hl 1 rfl) ?_
  refine gX0 S hw dX_appendBytes_18 ?_
  refine lv_aload_n hx hb dX_appendBytes_21 rfl (lv_at hl 1 rfl) ?_
  refine gX1 S hw dX_appendBytes_22 ?_
  refine kz_top (y := nI (n + 1)) rfl ?_
  refine lv_iload_n hx hb dX_appendBytes_25 rfl (lv_at hl 2 rfl) ?_
  refine lv_iload_n hx hb dX_appendBytes_26 rfl (lv_at hl 0 rfl) ?_
  refine lv_iushr (v := (x.toUInt32 >>> ((16 : Int32).toUInt32 &&& Int32.toUInt32 31)).toInt32) hx hb dX_appendBytes_27 rfl ?_
  refine lv_sipush (v := 255) hx hb dX_appendBytes_28 (by decide) ?_
  refine lv_iand hx hb dX_appendBytes_31 ?_
  refine stX0 S hw (vp_in_nI (by omega) (by decide)) dX_appendBytes_32 (fun H locs hw => ?_)
  refine lv_aload_n hx hb dX_appendBytes_33 rfl (lv_at hl 1 rfl) ?_
  refine lv_dup hx hb dX_appendBytes_34 rfl ?_
  refine gX1 S hw dX_appendBytes_35 ?_
  refine kz_top (y := nI (n + 1)) rfl ?_
  refine lv_iconst (v := 1) hx hb dX_appendBytes_38 (by decide) ?_
  refine lv_iadd hx hb dX_appendBytes_39 ?_
  refine kz_top (y := nI (n + 1 + 1)) (nI_add (n + 1) 1) ?_
  refine pX1 S hw dX_appendBytes_40 (fun H locs hw => ?_)
  refine lv_iinc (v := 8) (lv' := [(2, .int 8), (0, .ref h), (1, .int x)]) hx hb dX_appendBytes_43 hl (k := 0) rfl (by decide) (by decide) rfl (fun ls hl => ?_)
  refine lv_goto (tgt := 3) hx hb dX_appendBytes_46 (by decide) ?_
  refine lv_iload_n hx hb dX_appendBytes_3 rfl (lv_at hl 0 rfl) ?_
  refine lv_if_lt (tgt := 49) hx hb dX_appendBytes_4 (by decide) (fun c4 => absurd c4 (by decide)) (fun c4 => ?_)
  refine lv_aload_n hx hb dX_appendBytes_7 rfl (lv_at hl 1 rfl) ?_
  refine gX1 S hw dX_appendBytes_8 ?_
  refine kz_top (y := nI (n + 1 + 1)) rfl ?_
  refine lv_sipush (v := 1000) hx hb dX_appendBytes_11 (by decide) ?_
  refine lv_icmp_ge (tgt := 49) hx hb dX_appendBytes_14 (by decide) (fun c14 => absurd c14 (nI_ge (a := n + 1 + 1) (b := 1000) (by omega) (by decide))) (fun c14 => ?_)
  refine lv_aload_n hx hb dX_appendBytes_17 rfl (lv_at hl 1 rfl) ?_
  refine gX0 S hw dX_appendBytes_18 ?_
  refine lv_aload_n hx hb dX_appendBytes_21 rfl (lv_at hl 1 rfl) ?_
  refine gX1 S hw dX_appendBytes_22 ?_
  refine kz_top (y := nI (n + 1 + 1)) rfl ?_
  refine lv_iload_n hx hb dX_appendBytes_25 rfl (lv_at hl 2 rfl) ?_
  refine lv_iload_n hx hb dX_appendBytes_26 rfl (lv_at hl 0 rfl) ?_
  refine lv_iushr (v := (x.toUInt32 >>> ((8 : Int32).toUInt32 &&& Int32.toUInt32 31)).toInt32) hx hb dX_appendBytes_27 rfl ?_
  refine lv_sipush (v := 255) hx hb dX_appendBytes_28 (by decide) ?_
  refine lv_iand hx hb dX_appendBytes_31 ?_
  refine stX0 S hw (vp_in_nI (by omega) (by decide)) dX_appendBytes_32 (fun H locs hw => ?_)
  refine lv_aload_n hx hb dX_appendBytes_33 rfl (lv_at hl 1 rfl) ?_
  refine lv_dup hx hb dX_appendBytes_34 rfl ?_
  refine gX1 S hw dX_appendBytes_35 ?_
  refine kz_top (y := nI (n + 1 + 1)) rfl ?_
  refine lv_iconst (v := 1) hx hb dX_appendBytes_38 (by decide) ?_
  refine lv_iadd hx hb dX_appendBytes_39 ?_
  refine kz_top (y := nI (n + 1 + 1 + 1)) (nI_add (n + 1 + 1) 1) ?_
  refine pX1 S hw dX_appendBytes_40 (fun H locs hw => ?_)
  refine lv_iinc (v := 0) (lv' := [(2, .int 0), (0, .ref h), (1, .int x)]) hx hb dX_appendBytes_43 hl (k := 0) rfl (by decide) (by decide) rfl (fun ls hl => ?_)
  refine lv_goto (tgt := 3) hx hb dX_appendBytes_46 (by decide) ?_
  refine lv_iload_n hx hb dX_appendBytes_3 rfl (lv_at hl 0 rfl) ?_
  refine lv_if_lt (tgt := 49) hx hb dX_appendBytes_4 (by decide) (fun c4 => absurd c4 (by decide)) (fun c4 => ?_)
  refine lv_aload_n hx hb dX_appendBytes_7 rfl (lv_at hl 1 rfl) ?_
  refine gX1 S hw dX_appendBytes_8 ?_
  refine kz_top (y := nI (n + 1 + 1 + 1)) rfl ?_
  refine lv_sipush (v := 1000) hx hb dX_appendBytes_11 (by decide) ?_
  refine lv_icmp_ge (tgt := 49) hx hb dX_appendBytes_14 (by decide) (fun c14 => absurd c14 (nI_ge (a := n + 1 + 1 + 1) (b := 1000) (by omega) (by decide))) (fun c14 => ?_)
  refine lv_aload_n hx hb dX_appendBytes_17 rfl (lv_at hl 1 rfl) ?_
  refine gX0 S hw dX_appendBytes_18 ?_
  refine lv_aload_n hx hb dX_appendBytes_21 rfl (lv_at hl 1 rfl) ?_
  refine gX1 S hw dX_appendBytes_22 ?_
  refine kz_top (y := nI (n + 1 + 1 + 1)) rfl ?_
  refine lv_iload_n hx hb dX_appendBytes_25 rfl (lv_at hl 2 rfl) ?_
  refine lv_iload_n hx hb dX_appendBytes_26 rfl (lv_at hl 0 rfl) ?_
  refine lv_iushr (v := (x.toUInt32 >>> ((0 : Int32).toUInt32 &&& Int32.toUInt32 31)).toInt32) hx hb dX_appendBytes_27 rfl ?_
  refine lv_sipush (v := 255) hx hb dX_appendBytes_28 (by decide) ?_
  refine lv_iand hx hb dX_appendBytes_31 ?_
  refine stX0 S hw (vp_in_nI (by omega) (by decide)) dX_appendBytes_32 (fun H locs hw => ?_)
  refine lv_aload_n hx hb dX_appendBytes_33 rfl (lv_at hl 1 rfl) ?_
  refine lv_dup hx hb dX_appendBytes_34 rfl ?_
  refine gX1 S hw dX_appendBytes_35 ?_
  refine kz_top (y := nI (n + 1 + 1 + 1)) rfl ?_
  refine lv_iconst (v := 1) hx hb dX_appendBytes_38 (by decide) ?_
  refine lv_iadd hx hb dX_appendBytes_39 ?_
  refine kz_top (y := nI (n + 1 + 1 + 1 + 1)) (nI_add (n + 1 + 1 + 1) 1) ?_
  refine pX1 S hw dX_appendBytes_40 (fun H locs hw => ?_)
  refine lv_iinc (v := (-8)) (lv' := [(2, .int (-8)), (0, .ref h), (1, .int x)]) hx hb dX_appendBytes_43 hl (k := 0) rfl (by decide) (by decide) rfl (fun ls hl => ?_)
  refine lv_goto (tgt := 3) hx hb dX_appendBytes_46 (by decide) ?_
  refine lv_iload_n hx hb dX_appendBytes_3 rfl (lv_at hl 0 rfl) ?_
  refine lv_if_lt (tgt := 49) hx hb dX_appendBytes_4 (by decide) (fun c4 => ?_) (fun c4 => absurd c4 (by decide))
  exact MX.vret S hr hlk hw dX_appendBytes_49 ⟨rfl, by
    refine ⟨⟨rfl, hn4, fun j hj => ?_, putT_nn hT.2.2.2⟩, fun k hk => ?_, fun k hk => ?_⟩
    · have e : putT (F 0) n x j = putT T n x j := putT_at hT.2.2.1 j hj
      rw [← e]
      show upd (upd (upd (upd (F 0) (nI n).toNatClampNeg _) (nI (n + 1)).toNatClampNeg _) (nI (n + 1 + 1)).toNatClampNeg _) (nI (n + 1 + 1 + 1)).toNatClampNeg _ j = _
      rw [nI_clamp (by omega), nI_clamp (by omega), nI_clamp (by omega), nI_clamp (by omega)]
      rfl
    · simp [upd, hk]
    · simp [va_up, hk]⟩
theorem repX.tape {ts : List kz_T} {e : Nat} {I I' : Nat → Int32} {F F' : Nat → Nat → Int32} (h : repX ts e I F) (h8 : I' 8 = I 8) (hF : ∀ k, k ≠ 0 → F' k = F k) : repX ts e I' F' := by
  refine ⟨h8.trans h.1, h.2.1, fun k t ht => ?_⟩
  rw [hF 2 (by decide), hF 3 (by decide), hF 4 (by decide), hF 5 (by decide), hF 6 (by decide), hF 7 (by decide), hF 9 (by decide)]
  exact h.2.2 k t ht
def fedT (T : Nat → Int32) (n : Nat) (x1 x2 x3 x4 x5 : Int32) : Nat → Int32 := putT (putT (putT (putT (putT T n x1) (n + 4) x2) (n + 4 + 4) x3) (n + 4 + 4 + 4) x4) (n + 4 + 4 + 4 + 4) x5
set_option maxHeartbeats 4000000 in
set_option maxRecDepth 100000 in
theorem tX_feed (l : Launch) (I : Nat → Int32) (F : Nat → Nat → Int32) (T : Nat → Int32) (n : Nat) (ts : List kz_T) (hst : stX T n ts I F) (x1 x2 x3 x4 x5 : Int32) : MX l yX_feed cX_feed 6 (some .boolean) ({ frames := 1, cells := 0, slots := 0, locals := 22 }) [.int x1, .int x2, .int x3, .int x4, .int x5] I F (iR (fun r I' F' => (n + 20 ≤ 1000 → r = 1 ∧ stX (fedT T n x1 x2 x3 x4 x5) (n + 4 + 4 + 4 + 4 + 4) ts I' F') ∧ (¬ n + 20 ≤ 1000 → r = 0 ∧ I' = I ∧ F' = F))) := by
  refine MX.mk (by decide) (fun _ => Nat.le_of_ble_eq_true rfl) ?_
  intro z D cA h a pg en s m below meth c ls S hr hlk hA hw hl
  have hx := S.1
  have hb := S.2.1
  have hl : lv_has ls 6 [(0, .ref h), (1, .int x1), (2, .int x2), (3, .int x3), (4, .int x4), (5, .int x5)] := hl
  obtain ⟨hT, e0, he0, hrp⟩ := hst
  have hn := hT.2.1
  refine lv_aload_n hx hb dX_feed_0 rfl (lv_at hl 0 rfl) ?_
  refine gX1 S hw dX_feed_1 ?_
  refine kz_top (y := nI n) hT.1 ?_
  refine lv_bipush (v := 20) hx hb dX_feed_4 (by decide) ?_
  refine lv_iadd hx hb dX_feed_6 ?_
  refine kz_top (y := nI (n + 20)) (nI_add n 20) ?_
  refine lv_sipush (v := 1000) hx hb dX_feed_7 (by decide) ?_
  refine lv_icmp_le (tgt := 15) hx hb dX_feed_10 (by decide) (fun c10 => ?_) (fun c10 => ?_)
  · skip
    have hn20 : n + 20 ≤ 1000 := (nI_leI (a := n + 20) (b := 1000) (by omega) (by decide)).mp c10
    refine lv_aload_n hx hb dX_feed_15 rfl (lv_at hl 0 rfl) ?_
    refine lv_iload_n hx hb dX_feed_16 rfl (lv_at hl 1 rfl) ?_
    refine kcXv (rest := []) S kX_38 rfl (tX_appendBytes l I F _ _ hT (by omega) x1) hw hA ⟨Nat.le_of_ble_eq_true rfl, Nat.le_of_ble_eq_true rfl⟩ rfl rfl ⟨Nat.zero_le _, Nat.zero_le _⟩ rfl hl.1 (Nat.le_of_ble_eq_true rfl) dX_feed_17 (fun I1 F1 H locs hq1 hw => ?_)
    refine lv_aload_n hx hb dX_feed_20 rfl (lv_at hl 0 rfl) ?_
    refine lv_iload_n hx hb dX_feed_21 rfl (lv_at hl 2 rfl) ?_
    refine kcXv (rest := []) S kX_38 rfl (tX_appendBytes l I1 F1 _ _ hq1.1 (by omega) x2) hw hA ⟨Nat.le_of_ble_eq_true rfl, Nat.le_of_ble_eq_true rfl⟩ rfl rfl ⟨Nat.zero_le _, Nat.zero_le _⟩ rfl hl.1 (Nat.le_of_ble_eq_true rfl) dX_feed_22 (fun I2 F2 H locs hq2 hw => ?_)
    refine lv_aload_n hx hb dX_feed_25 rfl (lv_at hl 0 rfl) ?_
    refine lv_iload_n hx hb dX_feed_26 rfl (lv_at hl 3 rfl) ?_
    refine kcXv (rest := []) S kX_38 rfl (tX_appendBytes l I2 F2 _ _ hq2.1 (by omega) x3) hw hA ⟨Nat.le_of_ble_eq_true rfl, Nat.le_of_ble_eq_true rfl⟩ rfl rfl ⟨Nat.zero_le _, Nat.zero_le _⟩ rfl hl.1 (Nat.le_of_ble_eq_true rfl) dX_feed_27 (fun I3 F3 H locs hq3 hw => ?_)
    refine lv_aload_n hx hb dX_feed_30 rfl (lv_at hl 0 rfl) ?_
    refine lv_iload hx hb dX_feed_31 (lv_at hl 4 rfl) ?_
    refine kcXv (rest := []) S kX_38 rfl (tX_appendBytes l I3 F3 _ _ hq3.1 (by omega) x4) hw hA ⟨Nat.le_of_ble_eq_true rfl, Nat.le_of_ble_eq_true rfl⟩ rfl rfl ⟨Nat.zero_le _, Nat.zero_le _⟩ rfl hl.1 (Nat.le_of_ble_eq_true rfl) dX_feed_33 (fun I4 F4 H locs hq4 hw => ?_)
    refine lv_aload_n hx hb dX_feed_36 rfl (lv_at hl 0 rfl) ?_
    refine lv_iload hx hb dX_feed_37 (lv_at hl 5 rfl) ?_
    refine kcXv (rest := []) S kX_38 rfl (tX_appendBytes l I4 F4 _ _ hq4.1 (by omega) x5) hw hA ⟨Nat.le_of_ble_eq_true rfl, Nat.le_of_ble_eq_true rfl⟩ rfl rfl ⟨Nat.zero_le _, Nat.zero_le _⟩ rfl hl.1 (Nat.le_of_ble_eq_true rfl) dX_feed_39 (fun I5 F5 H locs hq5 hw => ?_)
    refine lv_iconst (v := 1) hx hb dX_feed_42 (by decide) ?_
    exact MX.iret S hr hlk hw dX_feed_43 (by first | rfl | decide) ⟨_, rfl, fun _ => ⟨rfl, hq5.1, e0, he0, ((((hrp.tape (hq1.2.1 8 (by decide)) hq1.2.2).tape (hq2.2.1 8 (by decide)) hq2.2.2).tape (hq3.2.1 8 (by decide)) hq3.2.2).tape (hq4.2.1 8 (by decide)) hq4.2.2).tape (hq5.2.1 8 (by decide)) hq5.2.2⟩, fun q => absurd hn20 q⟩
  · skip
    refine lv_iconst (v := 0) hx hb dX_feed_13 (by decide) ?_
    exact MX.iret S hr hlk hw dX_feed_14 (by first | rfl | decide) ⟨_, rfl, fun q => absurd (show nI (n + 20) ≤ 1000 from nI_le (b := 1000) q (by decide)) c10, fun _ => ⟨rfl, rfl, rfl⟩⟩
set_option maxHeartbeats 4000000 in
set_option maxRecDepth 100000 in
theorem tX_end (l : Launch) (I : Nat → Int32) (F : Nat → Nat → Int32) (T : Nat → Int32) (n : Nat) (ts : List kz_T) (hst : stX T n ts I F) (x : Int32) : MX l yX_end cX_end 2 (some .boolean) ({ frames := 0, cells := 0, slots := 0, locals := 0 }) [.int x] I F (iR (fun r I' F' => (∀ j, j ≤ n → x = nI j → r = 1 ∧ stX T j ts I' F') ∧ (¬ (¬ x < 0 ∧ ¬ nI n < x) → r = 0 ∧ I' = I ∧ F' = F))) := by
  refine MX.mk (by decide) (fun _ => Nat.le_of_ble_eq_true rfl) ?_
  intro z D cA h a pg en s m below meth c ls S hr hlk hA hw hl
  have hx := S.1
  have hb := S.2.1
  have hl : lv_has ls 2 [(0, .ref h), (1, .int x)] := hl
  obtain ⟨hT, e0, he0, hrp⟩ := hst
  have hn := hT.2.1
  refine lv_iload_n hx hb dX_end_0 rfl (lv_at hl 1 rfl) ?_
  refine lv_if_lt (tgt := 12) hx hb dX_end_1 (by decide) (fun c1 => ?_) (fun c1 => ?_)
  · skip
    refine lv_iconst (v := 0) hx hb dX_end_12 (by decide) ?_
    exact MX.iret S hr hlk hw dX_end_13 (by first | rfl | decide) ⟨_, rfl, fun j hj e1 => absurd c1 (by rw [e1]; exact nI_pos (by omega)), fun _ => ⟨rfl, rfl, rfl⟩⟩
  · skip
    refine lv_iload_n hx hb dX_end_4 rfl (lv_at hl 1 rfl) ?_
    refine lv_aload_n hx hb dX_end_5 rfl (lv_at hl 0 rfl) ?_
    refine gX1 S hw dX_end_6 ?_
    refine kz_top (y := nI n) hT.1 ?_
    refine lv_icmp_le (tgt := 14) hx hb dX_end_9 (by decide) (fun c9 => ?_) (fun c9 => ?_)
    · skip
      refine lv_aload_n hx hb dX_end_14 rfl (lv_at hl 0 rfl) ?_
      refine lv_iload_n hx hb dX_end_15 rfl (lv_at hl 1 rfl) ?_
      refine pX1 S hw dX_end_16 (fun H locs hw => ?_)
      refine lv_iconst (v := 1) hx hb dX_end_19 (by decide) ?_
      exact MX.iret S hr hlk hw dX_end_20 (by first | rfl | decide) ⟨_, rfl, fun j _ e1 => by subst e1; exact ⟨rfl, ⟨rfl, by omega, fun i hi => hT.2.2.1 i (by omega), fun i hi => hT.2.2.2 i (by omega)⟩, e0, he0, hrp.tape rfl (fun _ _ => rfl)⟩, fun q => absurd ⟨c1, fun z => Int32.not_lt.mpr c9 z⟩ q⟩
    · skip
      refine lv_iconst (v := 0) hx hb dX_end_12 (by decide) ?_
      exact MX.iret S hr hlk hw dX_end_13 (by first | rfl | decide) ⟨_, rfl, fun j hj e1 => absurd (by rw [e1]; exact nI_le hj (by omega)) c9, fun _ => ⟨rfl, rfl, rfl⟩⟩
theorem tokF_end {T : Nat → Int32} {n m p L : Nat} {ts : List kz_T} (h : ¬ (skp T n (n - p) false p L).1 < n) : tokF T n (m + 1) p L ts = ts ++ [(5, (skp T n (n - p) false p L).1, (skp T n (n - p) false p L).2, 0, [])] := by
  rw [tokF, if_neg h]
theorem tokF_bad {T : Nat → Int32} {n m p L : Nat} {ts : List kz_T} (h : (skp T n (n - p) false p L).1 < n) (h6 : (scT T n (skp T n (n - p) false p L).1).1 = 6) : tokF T n (m + 1) p L ts = ts ++ [(6, (skp T n (n - p) false p L).1, (skp T n (n - p) false p L).2, 0, [])] := by
  rw [tokF, if_pos h, if_pos h6]
theorem tokF_go {T : Nat → Int32} {n m p L : Nat} {ts : List kz_T} (h : (skp T n (n - p) false p L).1 < n) (h6 : ¬ (scT T n (skp T n (n - p) false p L).1).1 = 6) : tokF T n (m + 1) p L ts = tokF T n m (scT T n (skp T n (n - p) false p L).1).2.2.1 (skp T n (n - p) false p L).2 (addT ts (skp T n (n - p) false p L).1 (skp T n (n - p) false p L).2 (scT T n (skp T n (n - p) false p L).1)) := by
  rw [tokF, if_pos h, if_neg h6]
theorem addT_last (ts : List kz_T) (p L : Nat) (q : kz_S) : ∀ t, (addT ts p L q).getLast? = some t → t.2.2.1 = L := by
  intro t h
  unfold addT at h
  rw [List.getLast?_concat] at h
  cases h
  rfl
def allT (T : Nat → Int32) (n : Nat) : List kz_T := tokF T n (n + 1) 0 0 []
set_option maxHeartbeats 4000000 in
set_option maxRecDepth 100000 in
theorem tX_read (l : Launch) (I : Nat → Int32) (F : Nat → Nat → Int32) (T : Nat → Int32) (n : Nat) (ts : List kz_T) (hst : stX T n ts I F) : MX l yX_read cX_read 3 (some .int) ({ frames := 9, cells := 0, slots := 0, locals := 202 }) [] I F (iR (fun r I' F' => r = nI (allT T n).length ∧ stX T 0 (allT T n) I' F')) := by
  refine MX.mk (by decide) (fun _ => Nat.le_of_ble_eq_true rfl) ?_
  intro z D cA h a pg en s m below meth c ls S hr hlk hA hw hl
  have hx := S.1
  have hb := S.2.1
  have hl : lv_has ls 3 [(0, .ref h)] := hl
  obtain ⟨hT, e0, he0, hrp⟩ := hst
  have hn := hT.2.1
  have loop24 : ∀ (fu : Nat) (p e L u mm : Nat) (tk : List kz_T) (I1 : Nat → Int32) (F1 : Nat → Nat → Int32) (H : Heap) (locs : List Loc) (ls : Array Slot), midX T n tk p e L I1 F1 → allOK tk → (∀ t, tk.getLast? = some t → t.2.2.1 = L) → u ≤ p → n + 1 ≤ p + mm → n + 1 ≤ p + fu → tokF T n mm p L tk = allT T n → sX z D cA h a (AX h a s.heap.size) s H locs I1 F1 → lv_has ls 3 [(0, .ref h), (1, .int 1), (2, .int (nI u))] → W pg l en ({ frames := 9, cells := 0, slots := 0, locals := 202 }) s m ([.ref h] : List Value).toArray below meth c H locs 0 0 (MQ below (QX z D cA h a s.heap.size (iR (fun r I' F' => r = nI (allT T n).length ∧ stX T 0 (allT T n) I' F'))) ([.ref h] : List Value).toArray s 0 0 (AX h a s.heap.size)) (F0 m 24 ls []) := by
    intro fu
    induction fu with
    | zero => intro p e L u mm  tk  I1  F1  H locs ls hi hok hla hu hm hf hR hw hl; have := hi.2.2.2.1; omega
    | succ fu ih =>
      intro p e L u mm  tk  I1  F1  H locs ls hi hok hla hu hm hf hR hw hl
      obtain ⟨hT1, hrp1, h11, hp, h10, he, hc, h12, hL⟩ := hi
      obtain ⟨m1, rfl⟩ : ∃ m1, mm = m1 + 1 := ⟨mm - 1, by omega⟩
      obtain ⟨k1, k2, k3, k4⟩ := skp_le T n (n - p) false p L
      refine lv_iload_n hx hb dX_read_24 rfl (lv_at hl 2 rfl) ?_
      refine lv_sipush (v := 1001) hx hb dX_read_25 (by decide) ?_
      refine lv_icmp_ge (tgt := 50) hx hb dX_read_28 (by decide) (fun c28 => absurd c28 (nI_ge (a := u) (b := 1001) (by omega) (by decide))) (fun c28 => ?_)
      refine lv_iload_n hx hb dX_read_31 rfl (lv_at hl 1 rfl) ?_
      refine lv_if_eq (tgt := 50) hx hb dX_read_32 (by decide) (fun c32 => absurd c32 (by decide)) (fun c32 => ?_)
      refine lv_aload_n hx hb dX_read_35 rfl (lv_at hl 0 rfl) ?_
      refine kcXv (rest := []) S kX_54 rfl (tX_skipGap l I1 F1 T n hT1 p L h11 h12 hp) hw hA ⟨Nat.le_of_ble_eq_true rfl, Nat.le_of_ble_eq_true rfl⟩ rfl rfl ⟨Nat.zero_le _, Nat.zero_le _⟩ rfl hl.1 (Nat.le_of_ble_eq_true rfl) dX_read_36 (fun I2 F2 H locs hq hw => ?_)
      obtain ⟨s11, s12, sI, hF2⟩ := hq
      rw [hF2] at hw
      have hi2 : midX T n tk (skp T n (n - p) false p L).1 e (skp T n (n - p) false p L).2 I2 F1 := ⟨hT1.of (sI 1 (by decide) (by decide)) rfl, hrp1.frame (sI 8 (by decide) (by decide)) (fun _ _ => rfl) (fun _ _ => rfl), s11, by omega, (sI 10 (by decide) (by decide)).trans h10, by omega, by omega, s12, by omega⟩
      refine lv_aload_n hx hb dX_read_39 rfl (lv_at hl 0 rfl) ?_
      refine kcXi (rest := []) S kX_57 rfl (tX_readToken l I2 F1 T n tk _ e _ hi2 hok (fun t a b => by have := hla t a; omega)) hw hA ⟨Nat.le_of_ble_eq_true rfl, Nat.le_of_ble_eq_true rfl⟩ rfl rfl ⟨Nat.zero_le _, Nat.zero_le _⟩ rfl hl.1 (Nat.le_of_ble_eq_true rfl) dX_read_40 (fun r I3 F3 H locs hq hw => ?_)
      obtain ⟨hT3, g12, qe, qb, qt⟩ := hq
      by_cases hlt : (skp T n (n - p) false p L).1 < n
      · skip
        by_cases h6 : (scT T n (skp T n (n - p) false p L).1).1 = 6
        · skip
          obtain ⟨rfl, e1, he1, hrp3⟩ := qb hlt h6
          rw [← tokF_bad (m := m1) hlt h6, hR] at hrp3
          refine lv_istore_n (lv' := [(1, .int 0), (0, .ref h), (2, .int (nI u))]) hx hb dX_read_43 rfl hl (by decide) rfl (fun ls hl => ?_)
          refine lv_iinc (v := nI (u + 1)) (lv' := [(2, .int (nI (u + 1))), (1, .int 0), (0, .ref h)]) hx hb dX_read_44 hl (k := 2) rfl (nI_1 u) (by decide) rfl (fun ls hl => ?_)
          refine lv_goto (tgt := 24) hx hb dX_read_47 (by decide) ?_
          refine lv_iload_n hx hb dX_read_24 rfl (lv_at hl 0 rfl) ?_
          refine lv_sipush (v := 1001) hx hb dX_read_25 (by decide) ?_
          refine lv_icmp_ge (tgt := 50) hx hb dX_read_28 (by decide) (fun c28 => ?_) (fun c28 => ?_)
          · skip
            refine lv_aload_n hx hb dX_read_50 rfl (lv_at hl 2 rfl) ?_
            refine lv_iconst (v := 0) hx hb dX_read_51 (by decide) ?_
            refine pX1 S hw dX_read_52 (fun H locs hw => ?_)
            refine lv_aload_n hx hb dX_read_55 rfl (lv_at hl 2 rfl) ?_
            refine gX8 S hw dX_read_56 ?_
            refine kz_top (y := nI (allT T n).length) hrp3.1 ?_
            exact MX.iret S hr hlk hw dX_read_59 rfl ⟨_, rfl, rfl, ⟨rfl, by omega, fun j hj => absurd hj (Nat.not_lt_zero _), fun j hj => absurd hj (Nat.not_lt_zero _)⟩, e1, he1, hrp3.frame rfl (fun _ _ => rfl) (fun _ _ => rfl)⟩
          · skip
            refine lv_iload_n hx hb dX_read_31 rfl (lv_at hl 1 rfl) ?_
            refine lv_if_eq (tgt := 50) hx hb dX_read_32 (by decide) (fun c32 => ?_) (fun c32 => absurd c32 (by decide))
            refine lv_aload_n hx hb dX_read_50 rfl (lv_at hl 2 rfl) ?_
            refine lv_iconst (v := 0) hx hb dX_read_51 (by decide) ?_
            refine pX1 S hw dX_read_52 (fun H locs hw => ?_)
            refine lv_aload_n hx hb dX_read_55 rfl (lv_at hl 2 rfl) ?_
            refine gX8 S hw dX_read_56 ?_
            refine kz_top (y := nI (allT T n).length) hrp3.1 ?_
            exact MX.iret S hr hlk hw dX_read_59 rfl ⟨_, rfl, rfl, ⟨rfl, by omega, fun j hj => absurd hj (Nat.not_lt_zero _), fun j hj => absurd hj (Nat.not_lt_zero _)⟩, e1, he1, hrp3.frame rfl (fun _ _ => rfl) (fun _ _ => rfl)⟩
        · skip
          obtain ⟨rfl, e1, hrp3, g10, g11, ge, gl⟩ := qt hlt h6
          obtain ⟨o1, o2, o3, o4, o5⟩ := scT_ok (T := T) hlt h6
          refine lv_istore_n (lv' := [(1, .int 1), (0, .ref h), (2, .int (nI u))]) hx hb dX_read_43 rfl hl (by decide) rfl (fun ls hl => ?_)
          refine lv_iinc (v := nI (u + 1)) (lv' := [(2, .int (nI (u + 1))), (1, .int 1), (0, .ref h)]) hx hb dX_read_44 hl (k := 2) rfl (nI_1 u) (by decide) rfl (fun ls hl => ?_)
          refine lv_goto (tgt := 24) hx hb dX_read_47 (by decide) ?_
          exact ih _ e1 _ (u + 1) m1 _ _ _ H locs ls ⟨hT3, hrp3, g11, o2, g10, ge, gl, g12, by omega⟩ (addT_ok hok o4) (addT_last _ _ _ _) (by omega) (by omega) (by omega) (by rw [← hR, tokF_go hlt h6]) hw (lv_sub hl [2, 1, 0] rfl)
      · skip
        obtain ⟨rfl, e1, he1, hrp3⟩ := qe (Nat.le_antisymm (Nat.le_trans k2 (Nat.le_of_eq (Nat.add_sub_cancel' hp))) (Nat.le_of_not_lt hlt))
        rw [← tokF_end (m := m1) hlt, hR] at hrp3
        refine lv_istore_n (lv' := [(1, .int 0), (0, .ref h), (2, .int (nI u))]) hx hb dX_read_43 rfl hl (by decide) rfl (fun ls hl => ?_)
        refine lv_iinc (v := nI (u + 1)) (lv' := [(2, .int (nI (u + 1))), (1, .int 0), (0, .ref h)]) hx hb dX_read_44 hl (k := 2) rfl (nI_1 u) (by decide) rfl (fun ls hl => ?_)
        refine lv_goto (tgt := 24) hx hb dX_read_47 (by decide) ?_
        refine lv_iload_n hx hb dX_read_24 rfl (lv_at hl 0 rfl) ?_
        refine lv_sipush (v := 1001) hx hb dX_read_25 (by decide) ?_
        refine lv_icmp_ge (tgt := 50) hx hb dX_read_28 (by decide) (fun c28 => ?_) (fun c28 => ?_)
        · skip
          refine lv_aload_n hx hb dX_read_50 rfl (lv_at hl 2 rfl) ?_
          refine lv_iconst (v := 0) hx hb dX_read_51 (by decide) ?_
          refine pX1 S hw dX_read_52 (fun H locs hw => ?_)
          refine lv_aload_n hx hb dX_read_55 rfl (lv_at hl 2 rfl) ?_
          refine gX8 S hw dX_read_56 ?_
          refine kz_top (y := nI (allT T n).length) hrp3.1 ?_
          exact MX.iret S hr hlk hw dX_read_59 rfl ⟨_, rfl, rfl, ⟨rfl, by omega, fun j hj => absurd hj (Nat.not_lt_zero _), fun j hj => absurd hj (Nat.not_lt_zero _)⟩, e1, he1, hrp3.frame rfl (fun _ _ => rfl) (fun _ _ => rfl)⟩
        · skip
          refine lv_iload_n hx hb dX_read_31 rfl (lv_at hl 1 rfl) ?_
          refine lv_if_eq (tgt := 50) hx hb dX_read_32 (by decide) (fun c32 => ?_) (fun c32 => absurd c32 (by decide))
          refine lv_aload_n hx hb dX_read_50 rfl (lv_at hl 2 rfl) ?_
          refine lv_iconst (v := 0) hx hb dX_read_51 (by decide) ?_
          refine pX1 S hw dX_read_52 (fun H locs hw => ?_)
          refine lv_aload_n hx hb dX_read_55 rfl (lv_at hl 2 rfl) ?_
          refine gX8 S hw dX_read_56 ?_
          refine kz_top (y := nI (allT T n).length) hrp3.1 ?_
          exact MX.iret S hr hlk hw dX_read_59 rfl ⟨_, rfl, rfl, ⟨rfl, by omega, fun j hj => absurd hj (Nat.not_lt_zero _), fun j hj => absurd hj (Nat.not_lt_zero _)⟩, e1, he1, hrp3.frame rfl (fun _ _ => rfl) (fun _ _ => rfl)⟩
  refine lv_aload_n hx hb dX_read_0 rfl (lv_at hl 0 rfl) ?_
  refine lv_iconst (v := 0) hx hb dX_read_1 (by decide) ?_
  refine pX8 S hw dX_read_2 (fun H locs hw => ?_)
  refine lv_aload_n hx hb dX_read_5 rfl (lv_at hl 0 rfl) ?_
  refine lv_iconst (v := 0) hx hb dX_read_6 (by decide) ?_
  refine pX10 S hw dX_read_7 (fun H locs hw => ?_)
  refine lv_aload_n hx hb dX_read_10 rfl (lv_at hl 0 rfl) ?_
  refine lv_iconst (v := 0) hx hb dX_read_11 (by decide) ?_
  refine pX11 S hw dX_read_12 (fun H locs hw => ?_)
  refine lv_aload_n hx hb dX_read_15 rfl (lv_at hl 0 rfl) ?_
  refine lv_iconst (v := 0) hx hb dX_read_16 (by decide) ?_
  refine pX12 S hw dX_read_17 (fun H locs hw => ?_)
  refine lv_iconst (v := 1) hx hb dX_read_20 (by decide) ?_
  refine lv_istore_n (lv' := [(1, .int 1), (0, .ref h)]) hx hb dX_read_21 rfl hl (by decide) rfl (fun ls hl => ?_)
  refine lv_iconst (v := 0) hx hb dX_read_22 (by decide) ?_
  refine lv_istore_n (lv' := [(2, .int 0), (1, .int 1), (0, .ref h)]) hx hb dX_read_23 rfl hl (by decide) rfl (fun ls hl => ?_)
  exact loop24 (n + 1) 0 0 0 0 (n + 1) [] (upd (upd (upd (upd I 8 0) 10 0) 11 0) 12 0) F H locs ls ⟨hT.of rfl rfl, ⟨rfl, by simp, fun k t ht => by simp at ht⟩, rfl, by omega, rfl, Nat.le_refl _, Nat.le_refl _, rfl, Nat.le_refl _⟩ (fun t ht => by cases ht) (fun t ht => by simp at ht) (Nat.le_refl _) (by omega) (by omega) rfl hw (lv_sub hl [2, 1, 0] rfl)
