set_option maxHeartbeats 4000000 in
set_option maxRecDepth 100000 in
theorem law_loop {pg : Program} {l : Launch} {en : Env} {s : State} {m : MethodId} {below : List Frame} {meth : Method} {c : Code} {b L : Nat} {xs : Nat → Int32} (hL : L ≤ 3072) (C0 : lw_At pg s m meth c b L xs) (z : kz_Z) (D : va_G) (cA1 cA2 : ClassId) (h1 h2 : Nat) (a1 a2 : Nat → Nat) (hd1 : ∀ x ∈ adM h2 a2, x ∉ adX h1 a1) (hd2 : ∀ x ∈ adX h1 a1, x ∉ adM h2 a2) :
    ∀ (fu i : Nat) (T : Nat → Int32) (n : Nat) (ts : List kz_T) (I I2 : Nat → Int32) (F F2 : Nat → Nat → Int32) (H : Heap) (locs : List Loc) (ls : Array Slot), i ≤ L + 6 → L + 1 ≤ i + fu → stX T n ts I F → stM T n ts I2 F2 → allOK ts → sX z D cA1 h1 a1 (fun q : Nat => s.heap.size ≤ q) s H locs I F → sM z D cA2 h2 a2 (fun q : Nat => s.heap.size ≤ q) s H locs I2 F2 → lv_has ls 4 [(0, .ref b), (1, .ref h1), (2, .ref h2), (3, .int (nI i))] → W pg l en room_1 s m #[Value.ref b] below meth c H locs 18 23740 (lw_Z below #[Value.ref b] s) (F0 m 18 ls []) := by
  obtain ⟨hx, hb, hr, hml, hown, hts, hX, hbl, hlocks, hgv⟩ := C0
  have hA : ∀ q : Nat, s.heap.size ≤ q → (fun q : Nat => s.heap.size ≤ q) q := fun _ h => h
  have hbA : ¬ (fun q : Nat => s.heap.size ≤ q) b := Nat.not_le.mpr hbl
  have S : CallFix pg m c code 4 s #[Value.ref b] (Cond.initialized "TokenRow" :: TT) "TokenRowLaw" := ⟨hx, hb, hml, hown, fun w hw => hts w (List.mem_filter.mp ((List.mem_cons.mp hw).elim (fun e => e ▸ wnX) id)).1⟩
  intro fu
  induction fu with
  | zero =>
    intro i T n ts I I2 F F2 H locs ls hi hf hsx hsm hok hw hm hl
    refine lv_iload_n hx hb dL_18 rfl (lv_at hl 3 rfl) ?_
    refine lv_aload_n hx hb dL_19 rfl (lv_at hl 0 rfl) ?_
    refine va_slen hx hb hX hbl hbA hw.2.2.2.1 dL_20 ?_
    refine lv_bipush (v := 6) hx hb dL_21 (by decide) ?_
    refine lv_isub hx hb dL_23 ?_
    refine lv_icmp_gt (tgt := 364) hx hb dL_24 (by decide) (fun c24 => ?_) (fun c24 => absurd (law_in hL (by omega) c24) (by omega))
    refine lv_iconst (v := 1) hx hb dL_364 (by decide) ?_
    refine va_forget (fun q hq => hw.2.2.2.1.2.2 q hq) ?_
    exact lw_ret hx hb hr hlocks dL_365
  | succ fu ih =>
    intro i T n ts I I2 F F2 H locs ls hi hf hsx hsm hok hw hm hl
    refine lv_iload_n hx hb dL_18 rfl (lv_at hl 3 rfl) ?_
    refine lv_aload_n hx hb dL_19 rfl (lv_at hl 0 rfl) ?_
    refine va_slen hx hb hX hbl hbA hw.2.2.2.1 dL_20 ?_
    refine lv_bipush (v := 6) hx hb dL_21 (by decide) ?_
    refine lv_isub hx hb dL_23 ?_
    refine lv_icmp_gt (tgt := 364) hx hb dL_24 (by decide) (fun c24 => ?_) (fun c24 => ?_)
    · skip
      refine lv_iconst (v := 1) hx hb dL_364 (by decide) ?_
      refine va_forget (fun q hq => hw.2.2.2.1.2.2 q hq) ?_
      exact lw_ret hx hb hr hlocks dL_365
    · skip
      refine lv_aload_n hx hb dL_27 rfl (lv_at hl 0 rfl) ?_
      refine lv_iload_n hx hb dL_28 rfl (lv_at hl 3 rfl) ?_
      have h6 : i + 6 ≤ L := law_in hL (by omega) c24
      refine va_sld hx hb hX hbl hbA hw.2.2.2.1 (i := nI i) (vp_in_nI (by omega) (by omega)) dL_29 ?_
      refine kz_top (y := xs i) (by rw [nI_clamp (by omega)]) ?_
      refine lv_bipush (v := 15) hx hb dL_30 (by decide) ?_
      refine lv_iand hx hb dL_32 ?_
      obtain ⟨dd, hdd, edd⟩ := pk_andE (xs i) (m := 15) 4 (by decide)
      refine kz_top edd ?_
      rcases (show dd = 0 ∨ dd = 1 ∨ dd = 2 ∨ dd = 3 ∨ dd = 4 ∨ dd = 5 ∨ dd = 6 ∨ dd = 7 ∨ dd = 8 ∨ dd = 9 ∨ 10 ≤ dd by omega) with rfl | rfl | rfl | rfl | rfl | rfl | rfl | rfl | rfl | rfl | hdd2
      · skip
        refine lv_tableIn (off := 55) (tgt := 88) hx hb dL_33 (by decide) (by decide) (by decide) (by decide) ?_
        refine lv_aload_n hx hb dL_88 rfl (lv_at hl 1 rfl) ?_
        refine lv_aload_n hx hb dL_89 rfl (lv_at hl 0 rfl) ?_
        refine lv_iload_n hx hb dL_90 rfl (lv_at hl 3 rfl) ?_
        refine lv_iconst (v := 1) hx hb dL_91 (by decide) ?_
        refine lv_iadd hx hb dL_92 ?_
        refine kz_top (y := nI (i + 1)) (nI_add i 1) ?_
        refine va_sld hx hb hX hbl hbA hw.2.2.2.1 (i := nI (i + 1)) (vp_in_nI (by omega) (by omega)) dL_93 ?_
        refine kz_top (y := xs (i + 1)) (by rw [nI_clamp (by omega)]) ?_
        refine lv_aload_n hx hb dL_94 rfl (lv_at hl 0 rfl) ?_
        refine lv_iload_n hx hb dL_95 rfl (lv_at hl 3 rfl) ?_
        refine lv_iconst (v := 2) hx hb dL_96 (by decide) ?_
        refine lv_iadd hx hb dL_97 ?_
        refine kz_top (y := nI (i + 2)) (nI_add i 2) ?_
        refine va_sld hx hb hX hbl hbA hw.2.2.2.1 (i := nI (i + 2)) (vp_in_nI (by omega) (by omega)) dL_98 ?_
        refine kz_top (y := xs (i + 2)) (by rw [nI_clamp (by omega)]) ?_
        refine lv_aload_n hx hb dL_99 rfl (lv_at hl 0 rfl) ?_
        refine lv_iload_n hx hb dL_100 rfl (lv_at hl 3 rfl) ?_
        refine lv_iconst (v := 3) hx hb dL_101 (by decide) ?_
        refine lv_iadd hx hb dL_102 ?_
        refine kz_top (y := nI (i + 3)) (nI_add i 3) ?_
        refine va_sld hx hb hX hbl hbA hw.2.2.2.1 (i := nI (i + 3)) (vp_in_nI (by omega) (by omega)) dL_103 ?_
        refine kz_top (y := xs (i + 3)) (by rw [nI_clamp (by omega)]) ?_
        refine lv_aload_n hx hb dL_104 rfl (lv_at hl 0 rfl) ?_
        refine lv_iload_n hx hb dL_105 rfl (lv_at hl 3 rfl) ?_
        refine lv_iconst (v := 4) hx hb dL_106 (by decide) ?_
        refine lv_iadd hx hb dL_107 ?_
        refine kz_top (y := nI (i + 4)) (nI_add i 4) ?_
        refine va_sld hx hb hX hbl hbA hw.2.2.2.1 (i := nI (i + 4)) (vp_in_nI (by omega) (by omega)) dL_108 ?_
        refine kz_top (y := xs (i + 4)) (by rw [nI_clamp (by omega)]) ?_
        refine lv_aload_n hx hb dL_109 rfl (lv_at hl 0 rfl) ?_
        refine lv_iload_n hx hb dL_110 rfl (lv_at hl 3 rfl) ?_
        refine lv_iconst (v := 5) hx hb dL_111 (by decide) ?_
        refine lv_iadd hx hb dL_112 ?_
        refine kz_top (y := nI (i + 5)) (nI_add i 5) ?_
        refine va_sld hx hb hX hbl hbA hw.2.2.2.1 (i := nI (i + 5)) (vp_in_nI (by omega) (by omega)) dL_113 ?_
        refine kz_top (y := xs (i + 5)) (by rw [nI_clamp (by omega)]) ?_
        refine kcXL (rest := []) S kL_13 rfl (tX_feed l I F T n ts hsx (xs (i + 1)) (xs (i + 2)) (xs (i + 3)) (xs (i + 4)) (xs (i + 5))) hw hm hd1 hA ⟨Nat.le_of_ble_eq_true rfl, Nat.le_of_ble_eq_true rfl⟩ rfl rfl ⟨Nat.le_of_ble_eq_true rfl, Nat.le_of_ble_eq_true rfl⟩ rfl hl.1 (Nat.le_of_ble_eq_true rfl) dL_114 (fun r1 I' F' H locs hq1 hw hm => ?_)
        refine lv_aload_n hx hb dL_117 rfl (lv_at hl 2 rfl) ?_
        refine lv_aload_n hx hb dL_118 rfl (lv_at hl 0 rfl) ?_
        refine lv_iload_n hx hb dL_119 rfl (lv_at hl 3 rfl) ?_
        refine lv_iconst (v := 1) hx hb dL_120 (by decide) ?_
        refine lv_iadd hx hb dL_121 ?_
        refine kz_top (y := nI (i + 1)) (nI_add i 1) ?_
        refine va_sld hx hb hX hbl hbA hw.2.2.2.1 (i := nI (i + 1)) (vp_in_nI (by omega) (by omega)) dL_122 ?_
        refine kz_top (y := xs (i + 1)) (by rw [nI_clamp (by omega)]) ?_
        refine lv_aload_n hx hb dL_123 rfl (lv_at hl 0 rfl) ?_
        refine lv_iload_n hx hb dL_124 rfl (lv_at hl 3 rfl) ?_
        refine lv_iconst (v := 2) hx hb dL_125 (by decide) ?_
        refine lv_iadd hx hb dL_126 ?_
        refine kz_top (y := nI (i + 2)) (nI_add i 2) ?_
        refine va_sld hx hb hX hbl hbA hw.2.2.2.1 (i := nI (i + 2)) (vp_in_nI (by omega) (by omega)) dL_127 ?_
        refine kz_top (y := xs (i + 2)) (by rw [nI_clamp (by omega)]) ?_
        refine lv_aload_n hx hb dL_128 rfl (lv_at hl 0 rfl) ?_
        refine lv_iload_n hx hb dL_129 rfl (lv_at hl 3 rfl) ?_
        refine lv_iconst (v := 3) hx hb dL_130 (by decide) ?_
        refine lv_iadd hx hb dL_131 ?_
        refine kz_top (y := nI (i + 3)) (nI_add i 3) ?_
        refine va_sld hx hb hX hbl hbA hw.2.2.2.1 (i := nI (i + 3)) (vp_in_nI (by omega) (by omega)) dL_132 ?_
        refine kz_top (y := xs (i + 3)) (by rw [nI_clamp (by omega)]) ?_
        refine lv_aload_n hx hb dL_133 rfl (lv_at hl 0 rfl) ?_
        refine lv_iload_n hx hb dL_134 rfl (lv_at hl 3 rfl) ?_
        refine lv_iconst (v := 4) hx hb dL_135 (by decide) ?_
        refine lv_iadd hx hb dL_136 ?_
        refine kz_top (y := nI (i + 4)) (nI_add i 4) ?_
        refine va_sld hx hb hX hbl hbA hw.2.2.2.1 (i := nI (i + 4)) (vp_in_nI (by omega) (by omega)) dL_137 ?_
        refine kz_top (y := xs (i + 4)) (by rw [nI_clamp (by omega)]) ?_
        refine lv_aload_n hx hb dL_138 rfl (lv_at hl 0 rfl) ?_
        refine lv_iload_n hx hb dL_139 rfl (lv_at hl 3 rfl) ?_
        refine lv_iconst (v := 5) hx hb dL_140 (by decide) ?_
        refine lv_iadd hx hb dL_141 ?_
        refine kz_top (y := nI (i + 5)) (nI_add i 5) ?_
        refine va_sld hx hb hX hbl hbA hw.2.2.2.1 (i := nI (i + 5)) (vp_in_nI (by omega) (by omega)) dL_142 ?_
        refine kz_top (y := xs (i + 5)) (by rw [nI_clamp (by omega)]) ?_
        refine kcML (rest := [.int r1]) S kL_17 rfl (tM_feed l I2 F2 T n ts hsm (xs (i + 1)) (xs (i + 2)) (xs (i + 3)) (xs (i + 4)) (xs (i + 5))) hm hw hd2 hA ⟨Nat.le_of_ble_eq_true rfl, Nat.le_of_ble_eq_true rfl⟩ rfl rfl ⟨Nat.le_of_ble_eq_true rfl, Nat.le_of_ble_eq_true rfl⟩ rfl hl.1 (Nat.le_of_ble_eq_true rfl) dL_143 (fun r2 I3 F3 H locs hq2 hm hw => ?_)
        by_cases h20 : n + 20 ≤ 1000
        · skip
          obtain ⟨rfl, g1⟩ := hq1.1 h20
          obtain ⟨rfl, g2⟩ := hq2.1 h20
          refine lv_icmp_eq (tgt := 358) hx hb dL_146 (by decide) (fun c146 => ?_) (fun c146 => absurd c146 (by decide))
          refine lv_iinc (v := nI (i + 6)) (lv' := [(3, .int (nI (i + 6))), (0, .ref b), (1, .ref h1), (2, .ref h2)]) hx hb dL_358 hl (k := 3) rfl (nI_add i 6) (by decide) rfl (fun ls hl => ?_)
          refine lv_goto (tgt := 18) hx hb dL_361 (by decide) ?_
          exact ih (i + 6) _ _ ts _ _ _ _ H locs ls (by omega) (by omega) g1 g2 hok hw hm (lv_sub hl [1, 2, 3, 0] rfl)
        · skip
          obtain ⟨rfl, gI, gF⟩ := hq1.2 h20
          obtain ⟨rfl, gI2, gF2⟩ := hq2.2 h20
          rw [gI, gF] at hw
          rw [gI2, gF2] at hm
          refine lv_icmp_eq (tgt := 358) hx hb dL_146 (by decide) (fun c146 => ?_) (fun c146 => absurd c146 (by decide))
          refine lv_iinc (v := nI (i + 6)) (lv' := [(3, .int (nI (i + 6))), (0, .ref b), (1, .ref h1), (2, .ref h2)]) hx hb dL_358 hl (k := 3) rfl (nI_add i 6) (by decide) rfl (fun ls hl => ?_)
          refine lv_goto (tgt := 18) hx hb dL_361 (by decide) ?_
          exact ih (i + 6) T n ts _ _ _ _ H locs ls (by omega) (by omega) hsx hsm hok hw hm (lv_sub hl [1, 2, 3, 0] rfl)
      · skip
        refine lv_tableIn (off := 118) (tgt := 151) hx hb dL_33 (by decide) (by decide) (by decide) (by decide) ?_
        refine lv_aload_n hx hb dL_151 rfl (lv_at hl 1 rfl) ?_
        refine lv_aload_n hx hb dL_152 rfl (lv_at hl 0 rfl) ?_
        refine lv_iload_n hx hb dL_153 rfl (lv_at hl 3 rfl) ?_
        refine lv_iconst (v := 1) hx hb dL_154 (by decide) ?_
        refine lv_iadd hx hb dL_155 ?_
        refine kz_top (y := nI (i + 1)) (nI_add i 1) ?_
        refine va_sld hx hb hX hbl hbA hw.2.2.2.1 (i := nI (i + 1)) (vp_in_nI (by omega) (by omega)) dL_156 ?_
        refine kz_top (y := xs (i + 1)) (by rw [nI_clamp (by omega)]) ?_
        refine kcXL (rest := []) S kL_18 rfl (tX_end l I F T n ts hsx (xs (i + 1))) hw hm hd1 hA ⟨Nat.le_of_ble_eq_true rfl, Nat.le_of_ble_eq_true rfl⟩ rfl rfl ⟨Nat.le_of_ble_eq_true rfl, Nat.le_of_ble_eq_true rfl⟩ rfl hl.1 (Nat.le_of_ble_eq_true rfl) dL_157 (fun r1 I' F' H locs hq1 hw hm => ?_)
        refine lv_aload_n hx hb dL_160 rfl (lv_at hl 2 rfl) ?_
        refine lv_aload_n hx hb dL_161 rfl (lv_at hl 0 rfl) ?_
        refine lv_iload_n hx hb dL_162 rfl (lv_at hl 3 rfl) ?_
        refine lv_iconst (v := 1) hx hb dL_163 (by decide) ?_
        refine lv_iadd hx hb dL_164 ?_
        refine kz_top (y := nI (i + 1)) (nI_add i 1) ?_
        refine va_sld hx hb hX hbl hbA hw.2.2.2.1 (i := nI (i + 1)) (vp_in_nI (by omega) (by omega)) dL_165 ?_
        refine kz_top (y := xs (i + 1)) (by rw [nI_clamp (by omega)]) ?_
        refine kcML (rest := [.int r1]) S kL_22 rfl (tM_end l I2 F2 T n ts hsm (xs (i + 1))) hm hw hd2 hA ⟨Nat.le_of_ble_eq_true rfl, Nat.le_of_ble_eq_true rfl⟩ rfl rfl ⟨Nat.le_of_ble_eq_true rfl, Nat.le_of_ble_eq_true rfl⟩ rfl hl.1 (Nat.le_of_ble_eq_true rfl) dL_166 (fun r2 I3 F3 H locs hq2 hm hw => ?_)
        by_cases hc : ¬ xs (i + 1) < 0 ∧ ¬ nI n < xs (i + 1)
        · skip
          obtain ⟨jj, hjj, hje⟩ := nI_ile (by have := hsx.1.2.1; omega) hc.1 hc.2
          obtain ⟨rfl, g1⟩ := hq1.1 jj hjj hje
          obtain ⟨rfl, g2⟩ := hq2.1 jj hjj hje
          refine lv_icmp_eq (tgt := 358) hx hb dL_169 (by decide) (fun c169 => ?_) (fun c169 => absurd c169 (by decide))
          refine lv_iinc (v := nI (i + 6)) (lv' := [(3, .int (nI (i + 6))), (0, .ref b), (1, .ref h1), (2, .ref h2)]) hx hb dL_358 hl (k := 3) rfl (nI_add i 6) (by decide) rfl (fun ls hl => ?_)
          refine lv_goto (tgt := 18) hx hb dL_361 (by decide) ?_
          exact ih (i + 6) T jj ts _ _ _ _ H locs ls (by omega) (by omega) g1 g2 hok hw hm (lv_sub hl [1, 2, 3, 0] rfl)
        · skip
          obtain ⟨rfl, gI, gF⟩ := hq1.2 hc
          obtain ⟨rfl, gI2, gF2⟩ := hq2.2 hc
          rw [gI, gF] at hw
          rw [gI2, gF2] at hm
          refine lv_icmp_eq (tgt := 358) hx hb dL_169 (by decide) (fun c169 => ?_) (fun c169 => absurd c169 (by decide))
          refine lv_iinc (v := nI (i + 6)) (lv' := [(3, .int (nI (i + 6))), (0, .ref b), (1, .ref h1), (2, .ref h2)]) hx hb dL_358 hl (k := 3) rfl (nI_add i 6) (by decide) rfl (fun ls hl => ?_)
          refine lv_goto (tgt := 18) hx hb dL_361 (by decide) ?_
          exact ih (i + 6) T n ts _ _ _ _ H locs ls (by omega) (by omega) hsx hsm hok hw hm (lv_sub hl [1, 2, 3, 0] rfl)
      · skip
        refine lv_tableIn (off := 141) (tgt := 174) hx hb dL_33 (by decide) (by decide) (by decide) (by decide) ?_
        refine lv_aload_n hx hb dL_174 rfl (lv_at hl 1 rfl) ?_
        refine kcXL (rest := []) S kL_23 rfl (tX_read l I F T n ts hsx) hw hm hd1 hA ⟨Nat.le_of_ble_eq_true rfl, Nat.le_of_ble_eq_true rfl⟩ rfl rfl ⟨Nat.le_of_ble_eq_true rfl, Nat.le_of_ble_eq_true rfl⟩ rfl hl.1 (Nat.le_of_ble_eq_true rfl) dL_175 (fun r1 I' F' H locs hq1 hw hm => ?_)
        refine lv_aload_n hx hb dL_178 rfl (lv_at hl 2 rfl) ?_
        refine kcML (rest := [.int r1]) S kL_27 rfl (tM_read l I2 F2 T n ts hsm) hm hw hd2 hA ⟨Nat.le_of_ble_eq_true rfl, Nat.le_of_ble_eq_true rfl⟩ rfl rfl ⟨Nat.le_of_ble_eq_true rfl, Nat.le_of_ble_eq_true rfl⟩ rfl hl.1 (Nat.le_of_ble_eq_true rfl) dL_179 (fun r2 I3 F3 H locs hq2 hm hw => ?_)
        obtain ⟨g1, g2⟩ := hq1
        obtain ⟨g3, g4⟩ := hq2
        refine lv_icmp_eq (tgt := 358) hx hb dL_182 (by decide) (fun c182 => ?_) (fun c182 => absurd (g1.trans g3.symm) c182)
        refine lv_iinc (v := nI (i + 6)) (lv' := [(3, .int (nI (i + 6))), (0, .ref b), (1, .ref h1), (2, .ref h2)]) hx hb dL_358 hl (k := 3) rfl (nI_add i 6) (by decide) rfl (fun ls hl => ?_)
        refine lv_goto (tgt := 18) hx hb dL_361 (by decide) ?_
        exact ih (i + 6) T 0 (allT T n) _ _ _ _ H locs ls (by omega) (by omega) g2 g4 (allT_ok T n) hw hm (lv_sub hl [1, 2, 3, 0] rfl)
      · skip
        refine lv_tableIn (off := 154) (tgt := 187) hx hb dL_33 (by decide) (by decide) (by decide) (by decide) ?_
        refine lv_aload_n hx hb dL_187 rfl (lv_at hl 1 rfl) ?_
        refine lv_aload_n hx hb dL_188 rfl (lv_at hl 0 rfl) ?_
        refine lv_iload_n hx hb dL_189 rfl (lv_at hl 3 rfl) ?_
        refine lv_iconst (v := 1) hx hb dL_190 (by decide) ?_
        refine lv_iadd hx hb dL_191 ?_
        refine kz_top (y := nI (i + 1)) (nI_add i 1) ?_
        refine va_sld hx hb hX hbl hbA hw.2.2.2.1 (i := nI (i + 1)) (vp_in_nI (by omega) (by omega)) dL_192 ?_
        refine kz_top (y := xs (i + 1)) (by rw [nI_clamp (by omega)]) ?_
        obtain ⟨e1, he1, hr1⟩ := hsx.2
        obtain ⟨e2, he2, hr2⟩ := hsm.2
        refine kcXL (rest := []) S kL_28 rfl (tX_kind l I F ts e1 he1 hr1 (xs (i + 1))) hw hm hd1 hA ⟨Nat.le_of_ble_eq_true rfl, Nat.le_of_ble_eq_true rfl⟩ rfl rfl ⟨Nat.le_of_ble_eq_true rfl, Nat.le_of_ble_eq_true rfl⟩ rfl hl.1 (Nat.le_of_ble_eq_true rfl) dL_193 (fun r1 I' F' H locs hq1 hw hm => ?_)
        refine lv_aload_n hx hb dL_196 rfl (lv_at hl 2 rfl) ?_
        refine lv_aload_n hx hb dL_197 rfl (lv_at hl 0 rfl) ?_
        refine lv_iload_n hx hb dL_198 rfl (lv_at hl 3 rfl) ?_
        refine lv_iconst (v := 1) hx hb dL_199 (by decide) ?_
        refine lv_iadd hx hb dL_200 ?_
        refine kz_top (y := nI (i + 1)) (nI_add i 1) ?_
        refine va_sld hx hb hX hbl hbA hw.2.2.2.1 (i := nI (i + 1)) (vp_in_nI (by omega) (by omega)) dL_201 ?_
        refine kz_top (y := xs (i + 1)) (by rw [nI_clamp (by omega)]) ?_
        refine kcML (rest := [.int r1]) S kL_32 rfl (tM_kind l I2 F2 ts e2 he2 hr2 (xs (i + 1))) hm hw hd2 hA ⟨Nat.le_of_ble_eq_true rfl, Nat.le_of_ble_eq_true rfl⟩ rfl rfl ⟨Nat.le_of_ble_eq_true rfl, Nat.le_of_ble_eq_true rfl⟩ rfl hl.1 (Nat.le_of_ble_eq_true rfl) dL_202 (fun r2 I3 F3 H locs hq2 hm hw => ?_)
        obtain ⟨g1, gI, gF⟩ := hq1
        obtain ⟨g3, gI2, gF2⟩ := hq2
        rw [gI, gF] at hw
        rw [gI2, gF2] at hm
        refine lv_icmp_eq (tgt := 358) hx hb dL_205 (by decide) (fun c205 => ?_) (fun c205 => absurd (g1.trans g3.symm) c205)
        refine lv_iinc (v := nI (i + 6)) (lv' := [(3, .int (nI (i + 6))), (0, .ref b), (1, .ref h1), (2, .ref h2)]) hx hb dL_358 hl (k := 3) rfl (nI_add i 6) (by decide) rfl (fun ls hl => ?_)
        refine lv_goto (tgt := 18) hx hb dL_361 (by decide) ?_
        exact ih (i + 6) T n ts _ _ _ _ H locs ls (by omega) (by omega) hsx hsm hok hw hm (lv_sub hl [1, 2, 3, 0] rfl)
      · skip
        refine lv_tableIn (off := 177) (tgt := 210) hx hb dL_33 (by decide) (by decide) (by decide) (by decide) ?_
        refine lv_aload_n hx hb dL_210 rfl (lv_at hl 1 rfl) ?_
        refine lv_aload_n hx hb dL_211 rfl (lv_at hl 0 rfl) ?_
        refine lv_iload_n hx hb dL_212 rfl (lv_at hl 3 rfl) ?_
        refine lv_iconst (v := 1) hx hb dL_213 (by decide) ?_
        refine lv_iadd hx hb dL_214 ?_
        refine kz_top (y := nI (i + 1)) (nI_add i 1) ?_
        refine va_sld hx hb hX hbl hbA hw.2.2.2.1 (i := nI (i + 1)) (vp_in_nI (by omega) (by omega)) dL_215 ?_
        refine kz_top (y := xs (i + 1)) (by rw [nI_clamp (by omega)]) ?_
        obtain ⟨e1, he1, hr1⟩ := hsx.2
        obtain ⟨e2, he2, hr2⟩ := hsm.2
        refine kcXL (rest := []) S kL_33 rfl (tX_place l I F ts e1 he1 hr1 (xs (i + 1))) hw hm hd1 hA ⟨Nat.le_of_ble_eq_true rfl, Nat.le_of_ble_eq_true rfl⟩ rfl rfl ⟨Nat.le_of_ble_eq_true rfl, Nat.le_of_ble_eq_true rfl⟩ rfl hl.1 (Nat.le_of_ble_eq_true rfl) dL_216 (fun r1 I' F' H locs hq1 hw hm => ?_)
        refine lv_aload_n hx hb dL_219 rfl (lv_at hl 2 rfl) ?_
        refine lv_aload_n hx hb dL_220 rfl (lv_at hl 0 rfl) ?_
        refine lv_iload_n hx hb dL_221 rfl (lv_at hl 3 rfl) ?_
        refine lv_iconst (v := 1) hx hb dL_222 (by decide) ?_
        refine lv_iadd hx hb dL_223 ?_
        refine kz_top (y := nI (i + 1)) (nI_add i 1) ?_
        refine va_sld hx hb hX hbl hbA hw.2.2.2.1 (i := nI (i + 1)) (vp_in_nI (by omega) (by omega)) dL_224 ?_
        refine kz_top (y := xs (i + 1)) (by rw [nI_clamp (by omega)]) ?_
        refine kcML (rest := [.int r1]) S kL_36 rfl (tM_place l I2 F2 ts e2 he2 hr2 (xs (i + 1))) hm hw hd2 hA ⟨Nat.le_of_ble_eq_true rfl, Nat.le_of_ble_eq_true rfl⟩ rfl rfl ⟨Nat.le_of_ble_eq_true rfl, Nat.le_of_ble_eq_true rfl⟩ rfl hl.1 (Nat.le_of_ble_eq_true rfl) dL_225 (fun r2 I3 F3 H locs hq2 hm hw => ?_)
        obtain ⟨g1, gI, gF⟩ := hq1
        obtain ⟨g3, gI2, gF2⟩ := hq2
        rw [gI, gF] at hw
        rw [gI2, gF2] at hm
        refine lv_icmp_eq (tgt := 358) hx hb dL_228 (by decide) (fun c228 => ?_) (fun c228 => absurd (g1.trans g3.symm) c228)
        refine lv_iinc (v := nI (i + 6)) (lv' := [(3, .int (nI (i + 6))), (0, .ref b), (1, .ref h1), (2, .ref h2)]) hx hb dL_358 hl (k := 3) rfl (nI_add i 6) (by decide) rfl (fun ls hl => ?_)
        refine lv_goto (tgt := 18) hx hb dL_361 (by decide) ?_
        exact ih (i + 6) T n ts _ _ _ _ H locs ls (by omega) (by omega) hsx hsm hok hw hm (lv_sub hl [1, 2, 3, 0] rfl)
      · skip
        refine lv_tableIn (off := 200) (tgt := 233) hx hb dL_33 (by decide) (by decide) (by decide) (by decide) ?_
        refine lv_aload_n hx hb dL_233 rfl (lv_at hl 1 rfl) ?_
        refine lv_aload_n hx hb dL_234 rfl (lv_at hl 0 rfl) ?_
        refine lv_iload_n hx hb dL_235 rfl (lv_at hl 3 rfl) ?_
        refine lv_iconst (v := 1) hx hb dL_236 (by decide) ?_
        refine lv_iadd hx hb dL_237 ?_
        refine kz_top (y := nI (i + 1)) (nI_add i 1) ?_
        refine va_sld hx hb hX hbl hbA hw.2.2.2.1 (i := nI (i + 1)) (vp_in_nI (by omega) (by omega)) dL_238 ?_
        refine kz_top (y := xs (i + 1)) (by rw [nI_clamp (by omega)]) ?_
        obtain ⟨e1, he1, hr1⟩ := hsx.2
        obtain ⟨e2, he2, hr2⟩ := hsm.2
        refine kcXL (rest := []) S kL_37 rfl (tX_line l I F ts e1 he1 hr1 (xs (i + 1))) hw hm hd1 hA ⟨Nat.le_of_ble_eq_true rfl, Nat.le_of_ble_eq_true rfl⟩ rfl rfl ⟨Nat.le_of_ble_eq_true rfl, Nat.le_of_ble_eq_true rfl⟩ rfl hl.1 (Nat.le_of_ble_eq_true rfl) dL_239 (fun r1 I' F' H locs hq1 hw hm => ?_)
        refine lv_aload_n hx hb dL_242 rfl (lv_at hl 2 rfl) ?_
        refine lv_aload_n hx hb dL_243 rfl (lv_at hl 0 rfl) ?_
        refine lv_iload_n hx hb dL_244 rfl (lv_at hl 3 rfl) ?_
        refine lv_iconst (v := 1) hx hb dL_245 (by decide) ?_
        refine lv_iadd hx hb dL_246 ?_
        refine kz_top (y := nI (i + 1)) (nI_add i 1) ?_
        refine va_sld hx hb hX hbl hbA hw.2.2.2.1 (i := nI (i + 1)) (vp_in_nI (by omega) (by omega)) dL_247 ?_
        refine kz_top (y := xs (i + 1)) (by rw [nI_clamp (by omega)]) ?_
        refine kcML (rest := [.int r1]) S kL_40 rfl (tM_line l I2 F2 ts e2 he2 hr2 (xs (i + 1))) hm hw hd2 hA ⟨Nat.le_of_ble_eq_true rfl, Nat.le_of_ble_eq_true rfl⟩ rfl rfl ⟨Nat.le_of_ble_eq_true rfl, Nat.le_of_ble_eq_true rfl⟩ rfl hl.1 (Nat.le_of_ble_eq_true rfl) dL_248 (fun r2 I3 F3 H locs hq2 hm hw => ?_)
        obtain ⟨g1, gI, gF⟩ := hq1
        obtain ⟨g3, gI2, gF2⟩ := hq2
        rw [gI, gF] at hw
        rw [gI2, gF2] at hm
        refine lv_icmp_eq (tgt := 358) hx hb dL_251 (by decide) (fun c251 => ?_) (fun c251 => absurd (g1.trans g3.symm) c251)
        refine lv_iinc (v := nI (i + 6)) (lv' := [(3, .int (nI (i + 6))), (0, .ref b), (1, .ref h1), (2, .ref h2)]) hx hb dL_358 hl (k := 3) rfl (nI_add i 6) (by decide) rfl (fun ls hl => ?_)
        refine lv_goto (tgt := 18) hx hb dL_361 (by decide) ?_
        exact ih (i + 6) T n ts _ _ _ _ H locs ls (by omega) (by omega) hsx hsm hok hw hm (lv_sub hl [1, 2, 3, 0] rfl)
      · skip
        refine lv_tableIn (off := 223) (tgt := 256) hx hb dL_33 (by decide) (by decide) (by decide) (by decide) ?_
        refine lv_aload_n hx hb dL_256 rfl (lv_at hl 1 rfl) ?_
        refine lv_aload_n hx hb dL_257 rfl (lv_at hl 0 rfl) ?_
        refine lv_iload_n hx hb dL_258 rfl (lv_at hl 3 rfl) ?_
        refine lv_iconst (v := 1) hx hb dL_259 (by decide) ?_
        refine lv_iadd hx hb dL_260 ?_
        refine kz_top (y := nI (i + 1)) (nI_add i 1) ?_
        refine va_sld hx hb hX hbl hbA hw.2.2.2.1 (i := nI (i + 1)) (vp_in_nI (by omega) (by omega)) dL_261 ?_
        refine kz_top (y := xs (i + 1)) (by rw [nI_clamp (by omega)]) ?_
        obtain ⟨e1, he1, hr1⟩ := hsx.2
        obtain ⟨e2, he2, hr2⟩ := hsm.2
        refine kcXL (rest := []) S kL_41 rfl (tX_value l I F ts e1 he1 hr1 (xs (i + 1))) hw hm hd1 hA ⟨Nat.le_of_ble_eq_true rfl, Nat.le_of_ble_eq_true rfl⟩ rfl rfl ⟨Nat.le_of_ble_eq_true rfl, Nat.le_of_ble_eq_true rfl⟩ rfl hl.1 (Nat.le_of_ble_eq_true rfl) dL_262 (fun r1 I' F' H locs hq1 hw hm => ?_)
        refine lv_aload_n hx hb dL_265 rfl (lv_at hl 2 rfl) ?_
        refine lv_aload_n hx hb dL_266 rfl (lv_at hl 0 rfl) ?_
        refine lv_iload_n hx hb dL_267 rfl (lv_at hl 3 rfl) ?_
        refine lv_iconst (v := 1) hx hb dL_268 (by decide) ?_
        refine lv_iadd hx hb dL_269 ?_
        refine kz_top (y := nI (i + 1)) (nI_add i 1) ?_
        refine va_sld hx hb hX hbl hbA hw.2.2.2.1 (i := nI (i + 1)) (vp_in_nI (by omega) (by omega)) dL_270 ?_
        refine kz_top (y := xs (i + 1)) (by rw [nI_clamp (by omega)]) ?_
        refine kcML (rest := [.int r1]) S kL_44 rfl (tM_value l I2 F2 ts e2 he2 hr2 (xs (i + 1))) hm hw hd2 hA ⟨Nat.le_of_ble_eq_true rfl, Nat.le_of_ble_eq_true rfl⟩ rfl rfl ⟨Nat.le_of_ble_eq_true rfl, Nat.le_of_ble_eq_true rfl⟩ rfl hl.1 (Nat.le_of_ble_eq_true rfl) dL_271 (fun r2 I3 F3 H locs hq2 hm hw => ?_)
        obtain ⟨g1, gI, gF⟩ := hq1
        obtain ⟨g3, gI2, gF2⟩ := hq2
        rw [gI, gF] at hw
        rw [gI2, gF2] at hm
        refine lv_icmp_eq (tgt := 358) hx hb dL_274 (by decide) (fun c274 => ?_) (fun c274 => absurd (g1.trans g3.symm) c274)
        refine lv_iinc (v := nI (i + 6)) (lv' := [(3, .int (nI (i + 6))), (0, .ref b), (1, .ref h1), (2, .ref h2)]) hx hb dL_358 hl (k := 3) rfl (nI_add i 6) (by decide) rfl (fun ls hl => ?_)
        refine lv_goto (tgt := 18) hx hb dL_361 (by decide) ?_
        exact ih (i + 6) T n ts _ _ _ _ H locs ls (by omega) (by omega) hsx hsm hok hw hm (lv_sub hl [1, 2, 3, 0] rfl)
      · skip
        refine lv_tableIn (off := 246) (tgt := 279) hx hb dL_33 (by decide) (by decide) (by decide) (by decide) ?_
        refine lv_aload_n hx hb dL_279 rfl (lv_at hl 1 rfl) ?_
        refine lv_aload_n hx hb dL_280 rfl (lv_at hl 0 rfl) ?_
        refine lv_iload_n hx hb dL_281 rfl (lv_at hl 3 rfl) ?_
        refine lv_iconst (v := 1) hx hb dL_282 (by decide) ?_
        refine lv_iadd hx hb dL_283 ?_
        refine kz_top (y := nI (i + 1)) (nI_add i 1) ?_
        refine va_sld hx hb hX hbl hbA hw.2.2.2.1 (i := nI (i + 1)) (vp_in_nI (by omega) (by omega)) dL_284 ?_
        refine kz_top (y := xs (i + 1)) (by rw [nI_clamp (by omega)]) ?_
        obtain ⟨e1, he1, hr1⟩ := hsx.2
        obtain ⟨e2, he2, hr2⟩ := hsm.2
        refine kcXL (rest := []) S kL_45 rfl (tX_level l I F ts e1 he1 hr1 (xs (i + 1))) hw hm hd1 hA ⟨Nat.le_of_ble_eq_true rfl, Nat.le_of_ble_eq_true rfl⟩ rfl rfl ⟨Nat.le_of_ble_eq_true rfl, Nat.le_of_ble_eq_true rfl⟩ rfl hl.1 (Nat.le_of_ble_eq_true rfl) dL_285 (fun r1 I' F' H locs hq1 hw hm => ?_)
        refine lv_aload_n hx hb dL_288 rfl (lv_at hl 2 rfl) ?_
        refine lv_aload_n hx hb dL_289 rfl (lv_at hl 0 rfl) ?_
        refine lv_iload_n hx hb dL_290 rfl (lv_at hl 3 rfl) ?_
        refine lv_iconst (v := 1) hx hb dL_291 (by decide) ?_
        refine lv_iadd hx hb dL_292 ?_
        refine kz_top (y := nI (i + 1)) (nI_add i 1) ?_
        refine va_sld hx hb hX hbl hbA hw.2.2.2.1 (i := nI (i + 1)) (vp_in_nI (by omega) (by omega)) dL_293 ?_
        refine kz_top (y := xs (i + 1)) (by rw [nI_clamp (by omega)]) ?_
        refine kcML (rest := [.int r1]) S kL_48 rfl (tM_level l I2 F2 ts e2 he2 hr2 hok (xs (i + 1))) hm hw hd2 hA ⟨Nat.le_of_ble_eq_true rfl, Nat.le_of_ble_eq_true rfl⟩ rfl rfl ⟨Nat.le_of_ble_eq_true rfl, Nat.le_of_ble_eq_true rfl⟩ rfl hl.1 (Nat.le_of_ble_eq_true rfl) dL_294 (fun r2 I3 F3 H locs hq2 hm hw => ?_)
        obtain ⟨g1, gI, gF⟩ := hq1
        obtain ⟨g3, gI2, gF2⟩ := hq2
        rw [gI, gF] at hw
        rw [gI2, gF2] at hm
        refine lv_icmp_eq (tgt := 358) hx hb dL_297 (by decide) (fun c297 => ?_) (fun c297 => absurd (g1.trans ((acc_lev hok _).trans g3.symm)) c297)
        refine lv_iinc (v := nI (i + 6)) (lv' := [(3, .int (nI (i + 6))), (0, .ref b), (1, .ref h1), (2, .ref h2)]) hx hb dL_358 hl (k := 3) rfl (nI_add i 6) (by decide) rfl (fun ls hl => ?_)
        refine lv_goto (tgt := 18) hx hb dL_361 (by decide) ?_
        exact ih (i + 6) T n ts _ _ _ _ H locs ls (by omega) (by omega) hsx hsm hok hw hm (lv_sub hl [1, 2, 3, 0] rfl)
      · skip
        refine lv_tableIn (off := 269) (tgt := 302) hx hb dL_33 (by decide) (by decide) (by decide) (by decide) ?_
        refine lv_aload_n hx hb dL_302 rfl (lv_at hl 1 rfl) ?_
        refine lv_aload_n hx hb dL_303 rfl (lv_at hl 0 rfl) ?_
        refine lv_iload_n hx hb dL_304 rfl (lv_at hl 3 rfl) ?_
        refine lv_iconst (v := 1) hx hb dL_305 (by decide) ?_
        refine lv_iadd hx hb dL_306 ?_
        refine kz_top (y := nI (i + 1)) (nI_add i 1) ?_
        refine va_sld hx hb hX hbl hbA hw.2.2.2.1 (i := nI (i + 1)) (vp_in_nI (by omega) (by omega)) dL_307 ?_
        refine kz_top (y := xs (i + 1)) (by rw [nI_clamp (by omega)]) ?_
        obtain ⟨e1, he1, hr1⟩ := hsx.2
        obtain ⟨e2, he2, hr2⟩ := hsm.2
        refine kcXL (rest := []) S kL_49 rfl (tX_size l I F ts e1 he1 hr1 (xs (i + 1))) hw hm hd1 hA ⟨Nat.le_of_ble_eq_true rfl, Nat.le_of_ble_eq_true rfl⟩ rfl rfl ⟨Nat.le_of_ble_eq_true rfl, Nat.le_of_ble_eq_true rfl⟩ rfl hl.1 (Nat.le_of_ble_eq_true rfl) dL_308 (fun r1 I' F' H locs hq1 hw hm => ?_)
        refine lv_aload_n hx hb dL_311 rfl (lv_at hl 2 rfl) ?_
        refine lv_aload_n hx hb dL_312 rfl (lv_at hl 0 rfl) ?_
        refine lv_iload_n hx hb dL_313 rfl (lv_at hl 3 rfl) ?_
        refine lv_iconst (v := 1) hx hb dL_314 (by decide) ?_
        refine lv_iadd hx hb dL_315 ?_
        refine kz_top (y := nI (i + 1)) (nI_add i 1) ?_
        refine va_sld hx hb hX hbl hbA hw.2.2.2.1 (i := nI (i + 1)) (vp_in_nI (by omega) (by omega)) dL_316 ?_
        refine kz_top (y := xs (i + 1)) (by rw [nI_clamp (by omega)]) ?_
        refine kcML (rest := [.int r1]) S kL_52 rfl (tM_size l I2 F2 ts e2 he2 hr2 (xs (i + 1))) hm hw hd2 hA ⟨Nat.le_of_ble_eq_true rfl, Nat.le_of_ble_eq_true rfl⟩ rfl rfl ⟨Nat.le_of_ble_eq_true rfl, Nat.le_of_ble_eq_true rfl⟩ rfl hl.1 (Nat.le_of_ble_eq_true rfl) dL_317 (fun r2 I3 F3 H locs hq2 hm hw => ?_)
        obtain ⟨g1, gI, gF⟩ := hq1
        obtain ⟨g3, gI2, gF2⟩ := hq2
        rw [gI, gF] at hw
        rw [gI2, gF2] at hm
        refine lv_icmp_eq (tgt := 358) hx hb dL_320 (by decide) (fun c320 => ?_) (fun c320 => absurd (g1.trans g3.symm) c320)
        refine lv_iinc (v := nI (i + 6)) (lv' := [(3, .int (nI (i + 6))), (0, .ref b), (1, .ref h1), (2, .ref h2)]) hx hb dL_358 hl (k := 3) rfl (nI_add i 6) (by decide) rfl (fun ls hl => ?_)
        refine lv_goto (tgt := 18) hx hb dL_361 (by decide) ?_
        exact ih (i + 6) T n ts _ _ _ _ H locs ls (by omega) (by omega) hsx hsm hok hw hm (lv_sub hl [1, 2, 3, 0] rfl)
      · skip
        refine lv_tableIn (off := 292) (tgt := 325) hx hb dL_33 (by decide) (by decide) (by decide) (by decide) ?_
        refine lv_aload_n hx hb dL_325 rfl (lv_at hl 1 rfl) ?_
        refine lv_aload_n hx hb dL_326 rfl (lv_at hl 0 rfl) ?_
        refine lv_iload_n hx hb dL_327 rfl (lv_at hl 3 rfl) ?_
        refine lv_iconst (v := 1) hx hb dL_328 (by decide) ?_
        refine lv_iadd hx hb dL_329 ?_
        refine kz_top (y := nI (i + 1)) (nI_add i 1) ?_
        refine va_sld hx hb hX hbl hbA hw.2.2.2.1 (i := nI (i + 1)) (vp_in_nI (by omega) (by omega)) dL_330 ?_
        refine kz_top (y := xs (i + 1)) (by rw [nI_clamp (by omega)]) ?_
        refine lv_aload_n hx hb dL_331 rfl (lv_at hl 0 rfl) ?_
        refine lv_iload_n hx hb dL_332 rfl (lv_at hl 3 rfl) ?_
        refine lv_iconst (v := 2) hx hb dL_333 (by decide) ?_
        refine lv_iadd hx hb dL_334 ?_
        refine kz_top (y := nI (i + 2)) (nI_add i 2) ?_
        refine va_sld hx hb hX hbl hbA hw.2.2.2.1 (i := nI (i + 2)) (vp_in_nI (by omega) (by omega)) dL_335 ?_
        refine kz_top (y := xs (i + 2)) (by rw [nI_clamp (by omega)]) ?_
        obtain ⟨e1, he1, hr1⟩ := hsx.2
        obtain ⟨e2, he2, hr2⟩ := hsm.2
        refine kcXL (rest := []) S kL_53 rfl (tX_textAt l I F ts e1 he1 hr1 (xs (i + 1)) (xs (i + 2))) hw hm hd1 hA ⟨Nat.le_of_ble_eq_true rfl, Nat.le_of_ble_eq_true rfl⟩ rfl rfl ⟨Nat.le_of_ble_eq_true rfl, Nat.le_of_ble_eq_true rfl⟩ rfl hl.1 (Nat.le_of_ble_eq_true rfl) dL_336 (fun r1 I' F' H locs hq1 hw hm => ?_)
        refine lv_aload_n hx hb dL_339 rfl (lv_at hl 2 rfl) ?_
        refine lv_aload_n hx hb dL_340 rfl (lv_at hl 0 rfl) ?_
        refine lv_iload_n hx hb dL_341 rfl (lv_at hl 3 rfl) ?_
        refine lv_iconst (v := 1) hx hb dL_342 (by decide) ?_
        refine lv_iadd hx hb dL_343 ?_
        refine kz_top (y := nI (i + 1)) (nI_add i 1) ?_
        refine va_sld hx hb hX hbl hbA hw.2.2.2.1 (i := nI (i + 1)) (vp_in_nI (by omega) (by omega)) dL_344 ?_
        refine kz_top (y := xs (i + 1)) (by rw [nI_clamp (by omega)]) ?_
        refine lv_aload_n hx hb dL_345 rfl (lv_at hl 0 rfl) ?_
        refine lv_iload_n hx hb dL_346 rfl (lv_at hl 3 rfl) ?_
        refine lv_iconst (v := 2) hx hb dL_347 (by decide) ?_
        refine lv_iadd hx hb dL_348 ?_
        refine kz_top (y := nI (i + 2)) (nI_add i 2) ?_
        refine va_sld hx hb hX hbl hbA hw.2.2.2.1 (i := nI (i + 2)) (vp_in_nI (by omega) (by omega)) dL_349 ?_
        refine kz_top (y := xs (i + 2)) (by rw [nI_clamp (by omega)]) ?_
        refine kcML (rest := [.int r1]) S kL_57 rfl (tM_textAt l I2 F2 ts e2 he2 hr2 (xs (i + 1)) (xs (i + 2))) hm hw hd2 hA ⟨Nat.le_of_ble_eq_true rfl, Nat.le_of_ble_eq_true rfl⟩ rfl rfl ⟨Nat.le_of_ble_eq_true rfl, Nat.le_of_ble_eq_true rfl⟩ rfl hl.1 (Nat.le_of_ble_eq_true rfl) dL_350 (fun r2 I3 F3 H locs hq2 hm hw => ?_)
        obtain ⟨g1, gI, gF⟩ := hq1
        obtain ⟨g3, gI2, gF2⟩ := hq2
        rw [gI, gF] at hw
        rw [gI2, gF2] at hm
        refine lv_icmp_eq (tgt := 358) hx hb dL_353 (by decide) (fun c353 => ?_) (fun c353 => absurd (g1.trans g3.symm) c353)
        refine lv_iinc (v := nI (i + 6)) (lv' := [(3, .int (nI (i + 6))), (0, .ref b), (1, .ref h1), (2, .ref h2)]) hx hb dL_358 hl (k := 3) rfl (nI_add i 6) (by decide) rfl (fun ls hl => ?_)
        refine lv_goto (tgt := 18) hx hb dL_361 (by decide) ?_
        exact ih (i + 6) T n ts _ _ _ _ H locs ls (by omega) (by omega) hsx hsm hok hw hm (lv_sub hl [1, 2, 3, 0] rfl)
      · skip
        refine lv_tableOut (tgt := 358) hx hb dL_33 (Or.inr (by rw [nI_toInt (by omega)]; omega)) (by decide) ?_
        refine lv_iinc (v := nI (i + 6)) (lv' := [(3, .int (nI (i + 6))), (0, .ref b), (1, .ref h1), (2, .ref h2)]) hx hb dL_358 hl (k := 3) rfl (nI_add i 6) (by decide) rfl (fun ls hl => ?_)
        refine lv_goto (tgt := 18) hx hb dL_361 (by decide) ?_
        exact ih (i + 6) T n ts _ _ _ _ H locs ls (by omega) (by omega) hsx hsm hok hw hm (lv_sub hl [1, 2, 3, 0] rfl)
