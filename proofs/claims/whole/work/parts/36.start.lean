/-! ===== the start: what the Statement says of statics and texts ===== -/
abbrev flK : List Cond := flatC (Jvm.Cond.and given_1 narrow_1)
def tmK (i : Nat) : Term := Term.string (strK.getD i ("", 0, "")).1 (strK.getD i ("", 0, "")).2.1
theorem fl_ex : ∀ i, i < 12 → Cond.exactly (tmK i) "java/lang/String" ∈ flK := by decide +kernel
theorem fl_co : ∀ i, i < 12 → Cond.eq (.field (tmK i) "java/lang/String" "coder" "B") (.int 0) ∈ flK := by decide +kernel
theorem fl_ar : ∀ i, i < 12 → Cond.arrayOf (.field (tmK i) "java/lang/String" "value" "[B") .byte ∈ flK := by decide +kernel
theorem fl_le : ∀ i, i < 12 → Cond.eq (.length (.field (tmK i) "java/lang/String" "value" "[B")) (.int (Int32.ofNat (lenK.getD i 0))) ∈ flK := by decide +kernel
theorem fl_el0 (j : Nat) (hj : j < 44) : Cond.eq (.elem (.field (tmK 0) "java/lang/String" "value" "[B") (.int (Int32.ofNat j))) (.int ((bytK.getD 0 []).getD j 0)) ∈ flK := va_run (p := 33) (N := 44) (f := fun j => Cond.eq (.elem (.field (tmK 0) "java/lang/String" "value" "[B") (.int (Int32.ofNat j))) (.int ((bytK.getD 0 []).getD j 0))) (by decide +kernel) j hj
theorem fl_el1 (j : Nat) (hj : j < 101) : Cond.eq (.elem (.field (tmK 1) "java/lang/String" "value" "[B") (.int (Int32.ofNat j))) (.int ((bytK.getD 1 []).getD j 0)) ∈ flK := va_run (p := 81) (N := 101) (f := fun j => Cond.eq (.elem (.field (tmK 1) "java/lang/String" "value" "[B") (.int (Int32.ofNat j))) (.int ((bytK.getD 1 []).getD j 0))) (by decide +kernel) j hj
theorem fl_el2 (j : Nat) (hj : j < 86) : Cond.eq (.elem (.field (tmK 2) "java/lang/String" "value" "[B") (.int (Int32.ofNat j))) (.int ((bytK.getD 2 []).getD j 0)) ∈ flK := va_run (p := 187) (N := 86) (f := fun j => Cond.eq (.elem (.field (tmK 2) "java/lang/String" "value" "[B") (.int (Int32.ofNat j))) (.int ((bytK.getD 2 []).getD j 0))) (by decide +kernel) j hj
theorem fl_el3 (j : Nat) (hj : j < 61) : Cond.eq (.elem (.field (tmK 3) "java/lang/String" "value" "[B") (.int (Int32.ofNat j))) (.int ((bytK.getD 3 []).getD j 0)) ∈ flK := va_run (p := 279) (N := 61) (f := fun j => Cond.eq (.elem (.field (tmK 3) "java/lang/String" "value" "[B") (.int (Int32.ofNat j))) (.int ((bytK.getD 3 []).getD j 0))) (by decide +kernel) j hj
theorem fl_el4 (j : Nat) (hj : j < 5) : Cond.eq (.elem (.field (tmK 4) "java/lang/String" "value" "[B") (.int (Int32.ofNat j))) (.int ((bytK.getD 4 []).getD j 0)) ∈ flK := va_run (p := 347) (N := 5) (f := fun j => Cond.eq (.elem (.field (tmK 4) "java/lang/String" "value" "[B") (.int (Int32.ofNat j))) (.int ((bytK.getD 4 []).getD j 0))) (by decide +kernel) j hj
theorem fl_el5 (j : Nat) (hj : j < 9) : Cond.eq (.elem (.field (tmK 5) "java/lang/String" "value" "[B") (.int (Int32.ofNat j))) (.int ((bytK.getD 5 []).getD j 0)) ∈ flK := va_run (p := 360) (N := 9) (f := fun j => Cond.eq (.elem (.field (tmK 5) "java/lang/String" "value" "[B") (.int (Int32.ofNat j))) (.int ((bytK.getD 5 []).getD j 0))) (by decide +kernel) j hj
theorem fl_el6 (j : Nat) (hj : j < 46) : Cond.eq (.elem (.field (tmK 6) "java/lang/String" "value" "[B") (.int (Int32.ofNat j))) (.int ((bytK.getD 6 []).getD j 0)) ∈ flK := va_run (p := 378) (N := 46) (f := fun j => Cond.eq (.elem (.field (tmK 6) "java/lang/String" "value" "[B") (.int (Int32.ofNat j))) (.int ((bytK.getD 6 []).getD j 0))) (by decide +kernel) j hj
theorem fl_el7 (j : Nat) (hj : j < 232) : Cond.eq (.elem (.field (tmK 7) "java/lang/String" "value" "[B") (.int (Int32.ofNat j))) (.int ((bytK.getD 7 []).getD j 0)) ∈ flK := va_run (p := 434) (N := 232) (f := fun j => Cond.eq (.elem (.field (tmK 7) "java/lang/String" "value" "[B") (.int (Int32.ofNat j))) (.int ((bytK.getD 7 []).getD j 0))) (by decide +kernel) j hj
theorem fl_el8 (j : Nat) (hj : j < 45) : Cond.eq (.elem (.field (tmK 8) "java/lang/String" "value" "[B") (.int (Int32.ofNat j))) (.int ((bytK.getD 8 []).getD j 0)) ∈ flK := va_run (p := 677) (N := 45) (f := fun j => Cond.eq (.elem (.field (tmK 8) "java/lang/String" "value" "[B") (.int (Int32.ofNat j))) (.int ((bytK.getD 8 []).getD j 0))) (by decide +kernel) j hj
theorem fl_el9 (j : Nat) (hj : j < 146) : Cond.eq (.elem (.field (tmK 9) "java/lang/String" "value" "[B") (.int (Int32.ofNat j))) (.int ((bytK.getD 9 []).getD j 0)) ∈ flK := va_run (p := 734) (N := 146) (f := fun j => Cond.eq (.elem (.field (tmK 9) "java/lang/String" "value" "[B") (.int (Int32.ofNat j))) (.int ((bytK.getD 9 []).getD j 0))) (by decide +kernel) j hj
theorem fl_el10 (j : Nat) (hj : j < 10) : Cond.eq (.elem (.field (tmK 10) "java/lang/String" "value" "[B") (.int (Int32.ofNat j))) (.int ((bytK.getD 10 []).getD j 0)) ∈ flK := va_run (p := 893) (N := 10) (f := fun j => Cond.eq (.elem (.field (tmK 10) "java/lang/String" "value" "[B") (.int (Int32.ofNat j))) (.int ((bytK.getD 10 []).getD j 0))) (by decide +kernel) j hj
theorem fl_el11 (j : Nat) (hj : j < 5) : Cond.eq (.elem (.field (tmK 11) "java/lang/String" "value" "[B") (.int (Int32.ofNat j))) (.int ((bytK.getD 11 []).getD j 0)) ∈ flK := va_run (p := 917) (N := 5) (f := fun j => Cond.eq (.elem (.field (tmK 11) "java/lang/String" "value" "[B") (.int (Int32.ofNat j))) (.int ((bytK.getD 11 []).getD j 0))) (by decide +kernel) j hj
theorem fl_ne1 (i : Nat) (hi : i < 1) : Cond.not (Cond.eq (tmK i) (tmK 1)) ∈ flK := va_run (p := 182) (N := 1) (f := fun i => Cond.not (Cond.eq (tmK i) (tmK 1))) (by decide +kernel) i hi
theorem fl_ne2 (i : Nat) (hi : i < 2) : Cond.not (Cond.eq (tmK i) (tmK 2)) ∈ flK := va_run (p := 273) (N := 2) (f := fun i => Cond.not (Cond.eq (tmK i) (tmK 2))) (by decide +kernel) i hi
theorem fl_ne3 (i : Nat) (hi : i < 3) : Cond.not (Cond.eq (tmK i) (tmK 3)) ∈ flK := va_run (p := 340) (N := 3) (f := fun i => Cond.not (Cond.eq (tmK i) (tmK 3))) (by decide +kernel) i hi
theorem fl_ne4 (i : Nat) (hi : i < 4) : Cond.not (Cond.eq (tmK i) (tmK 4)) ∈ flK := va_run (p := 352) (N := 4) (f := fun i => Cond.not (Cond.eq (tmK i) (tmK 4))) (by decide +kernel) i hi
theorem fl_ne5 (i : Nat) (hi : i < 5) : Cond.not (Cond.eq (tmK i) (tmK 5)) ∈ flK := va_run (p := 369) (N := 5) (f := fun i => Cond.not (Cond.eq (tmK i) (tmK 5))) (by decide +kernel) i hi
theorem fl_ne6 (i : Nat) (hi : i < 6) : Cond.not (Cond.eq (tmK i) (tmK 6)) ∈ flK := va_run (p := 424) (N := 6) (f := fun i => Cond.not (Cond.eq (tmK i) (tmK 6))) (by decide +kernel) i hi
theorem fl_ne7 (i : Nat) (hi : i < 7) : Cond.not (Cond.eq (tmK i) (tmK 7)) ∈ flK := va_run (p := 666) (N := 7) (f := fun i => Cond.not (Cond.eq (tmK i) (tmK 7))) (by decide +kernel) i hi
theorem fl_ne8 (i : Nat) (hi : i < 8) : Cond.not (Cond.eq (tmK i) (tmK 8)) ∈ flK := va_run (p := 722) (N := 8) (f := fun i => Cond.not (Cond.eq (tmK i) (tmK 8))) (by decide +kernel) i hi
theorem fl_ne9 (i : Nat) (hi : i < 9) : Cond.not (Cond.eq (tmK i) (tmK 9)) ∈ flK := va_run (p := 880) (N := 9) (f := fun i => Cond.not (Cond.eq (tmK i) (tmK 9))) (by decide +kernel) i hi
theorem fl_ne10 (i : Nat) (hi : i < 10) : Cond.not (Cond.eq (tmK i) (tmK 10)) ∈ flK := va_run (p := 903) (N := 10) (f := fun i => Cond.not (Cond.eq (tmK i) (tmK 10))) (by decide +kernel) i hi
theorem fl_ne11 (i : Nat) (hi : i < 11) : Cond.not (Cond.eq (tmK i) (tmK 11)) ∈ flK := va_run (p := 922) (N := 11) (f := fun i => Cond.not (Cond.eq (tmK i) (tmK 11))) (by decide +kernel) i hi
theorem fl_lt (i j : Nat) (hij : i < j) (hj : j < 12) : Cond.not (Cond.eq (tmK i) (tmK j)) ∈ flK := by
  rcases (show j = 1 ∨ j = 2 ∨ j = 3 ∨ j = 4 ∨ j = 5 ∨ j = 6 ∨ j = 7 ∨ j = 8 ∨ j = 9 ∨ j = 10 ∨ j = 11 by omega) with rfl | rfl | rfl | rfl | rfl | rfl | rfl | rfl | rfl | rfl | rfl
  · exact fl_ne1 i hij
  · exact fl_ne2 i hij
  · exact fl_ne3 i hij
  · exact fl_ne4 i hij
  · exact fl_ne5 i hij
  · exact fl_ne6 i hij
  · exact fl_ne7 i hij
  · exact fl_ne8 i hij
  · exact fl_ne9 i hij
  · exact fl_ne10 i hij
  · exact fl_ne11 i hij
theorem fl_ne (i : Nat) (hi : i < 12) (j : Nat) (hj : j < 12) (hij : i ≠ j) : Cond.not (Cond.eq (tmK i) (tmK j)) ∈ flK ∨ Cond.not (Cond.eq (tmK j) (tmK i)) ∈ flK := by
  rcases Nat.lt_or_gt_of_ne hij with h | h
  · exact Or.inl (fl_lt i j h hj)
  · exact Or.inr (fl_lt j i h hi)
