theorem fl_lv (j : Nat) (hj : j < 17) : Cond.eq (.elem (.static "TokenRow" "LEVELS" "[I") (.int (Int32.ofNat j))) (.int (levK.getD j 0)) ∈ flK := va_run (p := 12) (N := 17) (f := fun j => Cond.eq (.elem (.static "TokenRow" "LEVELS" "[I") (.int (Int32.ofNat j))) (.int (levK.getD j 0))) (by decide +kernel) j hj
theorem wls_lev : Cond.laysStatic "TokenRow" "LEVELS" "[I" ∈ lw_tbl := List.mem_append_right _ (List.mem_of_getElem? (i := 263) (by decide +kernel))
theorem wls_cs : Cond.laysStatic "java/lang/String" "COMPACT_STRINGS" "Z" ∈ lw_tbl := List.mem_append_right _ (List.mem_of_getElem? (i := 125) (by decide +kernel))
theorem wls_sf : Cond.laysStatic "jdk/internal/util/Preconditions" "SIOOBE_FORMATTER" "Ljava/util/function/BiFunction;" ∈ lw_tbl := List.mem_append_right _ (List.mem_of_getElem? (i := 141) (by decide +kernel))
theorem fl_cs : Cond.eq (.static "java/lang/String" "COMPACT_STRINGS" "Z") (.int 1) ∈ flK := List.mem_of_getElem? (i := 4) (by decide +kernel)
theorem fl_sf : Cond.isRef (.static "jdk/internal/util/Preconditions" "SIOOBE_FORMATTER" "Ljava/util/function/BiFunction;") ∈ flK := List.mem_of_getElem? (i := 5) (by decide +kernel)
theorem fl_la : Cond.arrayOf (.static "TokenRow" "LEVELS" "[I") .int ∈ flK := List.mem_of_getElem? (i := 10) (by decide +kernel)
theorem fl_ll : Cond.eq (.length (.static "TokenRow" "LEVELS" "[I")) (.int (Int32.ofNat 17)) ∈ flK := List.mem_of_getElem? (i := 11) (by decide +kernel)
theorem wsr_0 : Cond.stringRef "TokenRow" 159 "TRUE FALSE BREAK LOOP ENDCASE RETURN FINISH " ∈ lw_tbl := List.mem_append_right _ (List.mem_of_getElem? (i := 112) (by decide +kernel))
theorem wsr_1 : Cond.stringRef "TokenRow" 161 "VALOF TABLE IF UNLESS TEST WHILE UNTIL FOR SWITCHON CASE DEFAULT RESULTIS LET GLOBAL MANIFEST STATIC " ∈ lw_tbl := List.mem_append_right _ (List.mem_of_getElem? (i := 164) (by decide +kernel))
theorem wsr_2 : Cond.stringRef "TokenRow" 163 "REM EQV NEQV NOT AND BE VEC DO THEN OR ELSE TO BY INTO REPEAT REPEATWHILE REPEATUNTIL " ∈ lw_tbl := List.mem_append_right _ (List.mem_of_getElem? (i := 165) (by decide +kernel))
theorem wsr_3 : Cond.stringRef "TokenRow" 137 "$( $) ( ) , ; := : ! @ + - * / = ~= < <= > >= << >> ~ & | -> " ∈ lw_tbl := List.mem_append_right _ (List.mem_of_getElem? (i := 208) (by decide +kernel))
theorem wsr_4 : Cond.stringRef "TokenRow" 183 "$) ) " ∈ lw_tbl := List.mem_append_right _ (List.mem_of_getElem? (i := 227) (by decide +kernel))
theorem wsr_5 : Cond.stringRef "TokenRow" 185 "( ! @ $( " ∈ lw_tbl := List.mem_append_right _ (List.mem_of_getElem? (i := 232) (by decide +kernel))
theorem wsr_6 : Cond.stringRef "TokenRow" 71 "EQV NEQV | & << >> = ~= < <= > >= + - * / REM " ∈ lw_tbl := List.mem_append_right _ (List.mem_of_getElem? (i := 264) (by decide +kernel))
theorem wsr_7 : Cond.stringRef "TokenRowModel" 34 " TRUE FALSE REM EQV NEQV NOT VALOF TABLE IF UNLESS TEST WHILE UNTIL FOR SWITCHON CASE DEFAULT BREAK LOOP ENDCASE RETURN RESULTIS FINISH LET AND BE GLOBAL MANIFEST STATIC VEC DO THEN OR ELSE TO BY INTO REPEAT REPEATWHILE REPEATUNTIL " ∈ lw_tbl := List.mem_append_right _ (List.mem_of_getElem? (i := 279) (by decide +kernel))
theorem wsr_8 : Cond.stringRef "TokenRowModel" 40 " TRUE FALSE BREAK LOOP ENDCASE RETURN FINISH " ∈ lw_tbl := List.mem_append_right _ (List.mem_of_getElem? (i := 280) (by decide +kernel))
theorem wsr_9 : Cond.stringRef "TokenRowModel" 45 " TRUE FALSE VALOF TABLE IF UNLESS TEST WHILE UNTIL FOR SWITCHON CASE DEFAULT BREAK LOOP ENDCASE RETURN RESULTIS FINISH LET GLOBAL MANIFEST STATIC " ∈ lw_tbl := List.mem_append_right _ (List.mem_of_getElem? (i := 281) (by decide +kernel))
theorem wsr_10 : Cond.stringRef "TokenRowModel" 178 " EQV NEQV " ∈ lw_tbl := List.mem_append_right _ (List.mem_of_getElem? (i := 479) (by decide +kernel))
theorem wsr_11 : Cond.stringRef "TokenRowModel" 180 " REM " ∈ lw_tbl := List.mem_append_right _ (List.mem_of_getElem? (i := 480) (by decide +kernel))
theorem vk_of {own tx : String} {k a : Nat} {A : Array Value} {U : State} (h1 : (Cond.stringRef own k tx).before A U = true) (h2 : (Term.string own k).eval A U none [] U = some (.ref a)) : vk_R own k tx a U := ⟨by first | exact va_tabs rfl rfl h1 | exact h1, by first | exact h2 | (rw [Term.string_eval_of_vm (args := #[]) (rfl : U.vm = U.vm)]; exact h2)⟩
theorem start_S {s : State} {b : Nat} (hts : ∀ w ∈ lw_tbl, w.before #[Value.ref b] s = true) (hgv : (Jvm.Cond.and given_1 narrow_1).before #[Value.ref b] s = true) : ∃ z : kz_Z, tkS z (fun q : Nat => s.heap.size ≤ q) s s.heap ∧ tkR z s := by
  have hs := flat_of_before _ hgv
  have hA : ∀ a : Nat, a < s.heap.size → ¬ (fun q : Nat => s.heap.size ≤ q) a := fun a h => Nat.not_le.mpr h
  have up : ∀ {w : Cond}, w ∈ TT → w.before #[Value.ref b] s = true := fun h => hts _ (List.mem_filter.mp h).1
  obtain ⟨adK, adV, hS, hE⟩ := vk_Sof (N := 12) (tm := tmK) (len := lenK) (byt := bytK) (args := #[Value.ref b]) (s := s) (A := fun q : Nat => s.heap.size ≤ q) (fun i hi => by have := lenK_ok i hi; omega) (fun i hi => hs _ (fl_ex i hi)) (fun i hi => hs _ (fl_co i hi)) (fun i hi => hs _ (fl_ar i hi)) (fun i hi => hs _ (fl_le i hi))
    (fun i hi j hj => by
      rcases (show i = 0 ∨ i = 1 ∨ i = 2 ∨ i = 3 ∨ i = 4 ∨ i = 5 ∨ i = 6 ∨ i = 7 ∨ i = 8 ∨ i = 9 ∨ i = 10 ∨ i = 11 by omega) with rfl | rfl | rfl | rfl | rfl | rfl | rfl | rfl | rfl | rfl | rfl | rfl
      · exact hs _ (fl_el0 j hj)
      · exact hs _ (fl_el1 j hj)
      · exact hs _ (fl_el2 j hj)
      · exact hs _ (fl_el3 j hj)
      · exact hs _ (fl_el4 j hj)
      · exact hs _ (fl_el5 j hj)
      · exact hs _ (fl_el6 j hj)
      · exact hs _ (fl_el7 j hj)
      · exact hs _ (fl_el8 j hj)
      · exact hs _ (fl_el9 j hj)
      · exact hs _ (fl_el10 j hj)
      · exact hs _ (fl_el11 j hj)) (fun i j hi hj hij => (fl_ne i hi j hj hij).elim (fun q => Or.inl (hs _ q)) (fun q => Or.inr (hs _ q))) hA
  obtain ⟨tL, htL, hT⟩ := va_Tof (tm := .static "TokenRow" "LEVELS" "[I") (ty := .int) (N := 17) (f := fun j => .int (levK.getD j 0)) (A := fun q : Nat => s.heap.size ≤ q) (args := #[Value.ref b]) (s := s) (by decide) (hs _ fl_la) (va_eqt (hs _ fl_ll)) (fun j hj => va_eqt (hs _ (fl_lv j hj))) hA
  refine ⟨(tL, adK, adV), ⟨va_Zref (hts _ wls_lev) (up wnX) htL hA, hT, va_Zof (hts _ wls_cs) (up wnS) (va_eqi (hs _ fl_cs)) hA, va_Zqof (hts _ wls_sf) (up wnP) (hs _ fl_sf) hA, hS⟩, ?_⟩
  intro i r hr
  have hi : i < 12 := (List.getElem?_eq_some_iff.mp hr).1
  have he := hE i hi
  rcases (show i = 0 ∨ i = 1 ∨ i = 2 ∨ i = 3 ∨ i = 4 ∨ i = 5 ∨ i = 6 ∨ i = 7 ∨ i = 8 ∨ i = 9 ∨ i = 10 ∨ i = 11 by omega) with rfl | rfl | rfl | rfl | rfl | rfl | rfl | rfl | rfl | rfl | rfl | rfl
  · cases hr; exact vk_of (hts _ wsr_0) he
  · cases hr; exact vk_of (hts _ wsr_1) he
  · cases hr; exact vk_of (hts _ wsr_2) he
  · cases hr; exact vk_of (hts _ wsr_3) he
  · cases hr; exact vk_of (hts _ wsr_4) he
  · cases hr; exact vk_of (hts _ wsr_5) he
  · cases hr; exact vk_of (hts _ wsr_6) he
  · cases hr; exact vk_of (hts _ wsr_7) he
  · cases hr; exact vk_of (hts _ wsr_8) he
  · cases hr; exact vk_of (hts _ wsr_9) he
  · cases hr; exact vk_of (hts _ wsr_10) he
  · cases hr; exact vk_of (hts _ wsr_11) he
