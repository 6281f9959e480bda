theorem wins_X : Cond.instantiable "TokenRow" 14 ∈ TT := tt_k 9 rfl rfl
theorem wins_M : Cond.instantiable "TokenRowModel" 20 ∈ TT := tt_k 274 rfl rfl
theorem wcll_X : Cond.classLink "TokenRowLaw" 7 "TokenRow" ∈ TT := tt_k 8 rfl rfl
theorem wcll_M : Cond.classLink "TokenRowLaw" 10 "TokenRowModel" ∈ TT := tt_k 273 rfl rfl
set_option maxHeartbeats 4000000 in
set_option maxRecDepth 100000 in
/-- THE LAW, from its entry -/
theorem whole_start {p : Program} {e : Env} {s : State} {m : MethodId} {below : List Frame} {meth : Method} {c : Code} (l : Launch) {b L : Nat} {xs : Nat → Int32} (hL : L ≤ 3072) (C0 : lw_At p s m meth c b L xs) : W p l e room_1 s m #[Value.ref b] below meth c s.heap [] 0 0 (lw_Z below #[Value.ref b] s) (entryFrame m ([Value.ref b] : List Value).toArray 4) := by
  obtain ⟨hx, hb, hr, hml, hown, hts, hX, hbl, hlocks, hgv⟩ := id C0
  have up : ∀ {w : Cond}, w ∈ TT → w.before #[Value.ref b] s = true := fun h => hts _ (List.mem_filter.mp h).1
  have hA : ∀ q : Nat, s.heap.size ≤ q → (fun q : Nat => s.heap.size ≤ q) q := fun _ h => h
  have hbA : ¬ (fun q : Nat => s.heap.size ≤ q) b := Nat.not_le.mpr hbl
  obtain ⟨z, htk, htr⟩ := start_S hts hgv
  obtain ⟨c0, iS0, hKn0⟩ := u_known (C := RX) (T := TX) (N := 14) (n := 14) hts inlX (up wins_X)
  obtain ⟨c1, iS1, hKn1⟩ := u_known (C := RM) (T := TM) (N := 20) (n := 20) hts inlM (up wins_M)
  obtain ⟨D, hKc⟩ : ∃ (D : va_G), ∀ (k : Nat) (q : vw_C), clT[k]? = some q → u_Kn s q.1 q.2.1 q.2.2 (D.1 k) (D.2 k) := by
    refine ⟨(fun k => if k = 0 then c0 else c1, fun k => if k = 0 then iS0 else iS1), ?_⟩
    intro k q hq
    match k, hq with
    | 0, hq => cases hq; exact hKn0
    | 1, hq => cases hq; exact hKn1
    | k + 2, hq => simp [clT] at hq
  have hS : va_S (fun q : Nat => s.heap.size ≤ q) s.heap s.heap [] := va_S.rf
  have hK : va_K D clT [] s := ⟨hKc, fun k q h => by simp at h⟩
  have hP : va_P D clT [] s.heap := fun k q h => by simp at h
  have hD : va_D (fun q : Nat => s.heap.size ≤ q) [] := ⟨fun i j p q h => by simp at h, fun k q h => by simp at h⟩
  have hl := lv_entry ([.ref b]) (n := 4) (Nat.le_of_ble_eq_true rfl)
  rw [lg_entry_eq]
  generalize (lg_sl ([.ref b]) ++ List.replicate (4 - (lg_sl ([.ref b])).length) Slot.unset).toArray = ls at hl ⊢
  have hl : lv_has ls 4 [(0, .ref b)] := hl
  refine va_new (ci := 0) (fs := [.null, .int 0, .null, .null, .null, .null, .null, .null, .int 0, .null, .int 0, .int 0, .int 0, .int 0]) (C := RX) (T := TX) (N := 14) hx hb hts inlX tyX tyX_ok hown (up wcll_X) (up wins_X) (up wnX) hK hP hD hS hA rfl (fun j hj => by rcases (show j = 0 ∨ j = 1 ∨ j = 2 ∨ j = 3 ∨ j = 4 ∨ j = 5 ∨ j = 6 ∨ j = 7 ∨ j = 8 ∨ j = 9 ∨ j = 10 ∨ j = 11 ∨ j = 12 ∨ j = 13 by omega) with rfl | rfl | rfl | rfl | rfl | rfl | rfl | rfl | rfl | rfl | rfl | rfl | rfl | rfl <;> rfl) (Nat.le_of_ble_eq_true rfl) (Nat.le_of_ble_eq_true rfl) dL_0 (fun q0v H hP hD hS => ?_)
  have hP : va_P D clT [(q0v, .inr (0, [.null, .int 0, .null, .null, .null, .null, .null, .null, .int 0, .null, .int 0, .int 0, .int 0, .int 0]))] H := hP
  have hD : va_D (fun q : Nat => s.heap.size ≤ q) [(q0v, .inr (0, [.null, .int 0, .null, .null, .null, .null, .null, .null, .int 0, .null, .int 0, .int 0, .int 0, .int 0]))] := hD
  refine W.widen (k := 1) (n := 14) (by omega) (by omega) ?_
  refine lv_dup hx hb dL_3 rfl ?_
  have hFc := va_free (wc := [(q0v, .inr (0, [.null, .int 0, .null, .null, .null, .null, .null, .null, .int 0, .null, .int 0, .int 0, .int 0, .int 0]))]) hD hS hA [0] rfl
  refine va_callv (va_runI (As := []) (rest := [.ref q0v]) ⟨hx, hb, hml, hown, hts⟩ (tX_init l z D q0v H.size) (cwI 0 hts (tt_lw wcX_init) rfl rfl rfl (up wnX) (up wlL_9) (up wiX_init) rfl (by decide +kernel) ⟨Nat.le_of_ble_eq_true rfl, Nat.le_of_ble_eq_true rfl⟩) ⟨fun a U g mk q => by obtain ⟨q0, q1, qP, qK, qD, qR⟩ := q; exact ⟨q0, q1, qP, va_K.moved (u := U) (U := U.calling g mk a) (Vm.Alike.refl U.vm) qK, qD, qR.same rfl⟩, fun U hU hW => ⟨rfl, by rw [hU], by rw [hU]; exact hP, va_K.moved hW.alike hK, hD.weaken (fun _ _ _ _ => trivial), htr.warm hW⟩⟩ rfl rfl hl.1 rfl (lv_room (Nat.le_of_ble_eq_true rfl)) dL_4 ⟨Nat.le_of_ble_eq_true rfl, Nat.le_of_ble_eq_true rfl⟩) hS (fun q _ h => hFc q h) hFc (fun u t H1 locs ht hvm hw hB hz1 hk1 hS => ?_)
  obtain ⟨cA1, a1⟩ := u
  obtain ⟨hK1, hP1, hD1⟩ := hB
  dsimp only at hK1 hP1 hD1
  rw [ht] at hP1
  have hK1 := va_K.moved hvm.symm hK1
  obtain ⟨hP, hD⟩ := va_join (wr := []) (w1 := wX z cA1 q0v a1 (fun _ => 0) (fun _ _ => 0)) hP hD [0] [] rfl rfl (by decide) (by decide) hk1 hFc hP1 hD1
  generalize H1 = H at hP hS ⊢
  have hP : va_P D clT (wX z cA1 q0v a1 (fun _ => 0) (fun _ _ => 0)) H := hP
  have hD : va_D (fun q : Nat => s.heap.size ≤ q) (wX z cA1 q0v a1 (fun _ => 0) (fun _ _ => 0)) := hD
  refine W.widen (k := 9) (n := 8020) (by omega) (by omega) ?_
  refine lv_astore_n (lv' := [(1, .ref q0v), (0, .ref b)]) hx hb dL_7 rfl hl (by decide) rfl (fun ls hl => ?_)
  refine va_new (ci := 1) (fs := [.int 0, .null, .int 0, .int 0, .null, .null, .null, .null, .null, .null, .null, .int 0, .null, .null, .null, .int 0, .int 0, .int 0, .int 0, .int 0]) (C := RM) (T := TM) (N := 20) hx hb hts inlM tyM tyM_ok hown (up wcll_M) (up wins_M) (up wnM) hK hP hD hS hA rfl (fun j hj => by rcases (show j = 0 ∨ j = 1 ∨ j = 2 ∨ j = 3 ∨ j = 4 ∨ j = 5 ∨ j = 6 ∨ j = 7 ∨ j = 8 ∨ j = 9 ∨ j = 10 ∨ j = 11 ∨ j = 12 ∨ j = 13 ∨ j = 14 ∨ j = 15 ∨ j = 16 ∨ j = 17 ∨ j = 18 ∨ j = 19 by omega) with rfl | rfl | rfl | rfl | rfl | rfl | rfl | rfl | rfl | rfl | rfl | rfl | rfl | rfl | rfl | rfl | rfl | rfl | rfl | rfl <;> rfl) (Nat.le_of_ble_eq_true rfl) (Nat.le_of_ble_eq_true rfl) dL_8 (fun q1v H hP hD hS => ?_)
  refine W.widen (k := 10) (n := 8040) (by omega) (by omega) ?_
  refine lv_dup hx hb dL_11 rfl ?_
  have hPc : va_P D clT [(q1v, .inr (1, [.int 0, .null, .int 0, .int 0, .null, .null, .null, .null, .null, .null, .null, .int 0, .null, .null, .null, .int 0, .int 0, .int 0, .int 0, .int 0]))] H := hP.sub [9] rfl
  have hDc : va_D (fun q : Nat => s.heap.size ≤ q) [(q1v, .inr (1, [.int 0, .null, .int 0, .int 0, .null, .null, .null, .null, .null, .null, .null, .int 0, .null, .null, .null, .int 0, .int 0, .int 0, .int 0, .int 0]))] := hD.sub [9] (by decide) rfl
  have hFc := va_free (wc := [(q1v, .inr (1, [.int 0, .null, .int 0, .int 0, .null, .null, .null, .null, .null, .null, .null, .int 0, .null, .null, .null, .int 0, .int 0, .int 0, .int 0, .int 0]))]) hD hS hA [9] rfl
  refine va_callv (va_runI (As := []) (rest := [.ref q1v]) ⟨hx, hb, hml, hown, hts⟩ (tM_init l z D q1v H.size) (cwI 0 hts (tt_lw wcM_init) rfl rfl rfl (up wnM) (up wlL_12) (up wiM_init) rfl (by decide +kernel) ⟨Nat.le_of_ble_eq_true rfl, Nat.le_of_ble_eq_true rfl⟩) ⟨fun a U g mk q => by obtain ⟨q0, q1, qP, qK, qD, qR⟩ := q; exact ⟨q0, q1, qP, va_K.moved (u := U) (U := U.calling g mk a) (Vm.Alike.refl U.vm) qK, qD, qR.same rfl⟩, fun U hU hW => ⟨rfl, by rw [hU], by rw [hU]; exact hPc, va_K.moved hW.alike hK, hDc.weaken (fun _ _ _ _ => trivial), htr.warm hW⟩⟩ rfl rfl hl.1 rfl (lv_room (Nat.le_of_ble_eq_true rfl)) dL_12 ⟨Nat.le_of_ble_eq_true rfl, Nat.le_of_ble_eq_true rfl⟩) hS (fun q _ h => hFc q h) hFc (fun u t H1 locs ht hvm hw hB hz1 hk1 hS => ?_)
  obtain ⟨cA2, a2⟩ := u
  obtain ⟨hK2, hP2, hD2⟩ := hB
  dsimp only at hK2 hP2 hD2
  rw [ht] at hP2
  have hK2 := va_K.moved hvm.symm hK2
  obtain ⟨hP, hD⟩ := va_join (wr := wX z cA1 q0v a1 (fun _ => 0) (fun _ _ => 0)) (w1 := wM z cA2 q1v a2 (fun _ => 0) (fun _ _ => 0)) hP hD [9] [0, 1, 2, 3, 4, 5, 6, 7, 8] rfl rfl (by decide) (by decide) hk1 hFc hP2 hD2
  generalize H1 = H at hP hS ⊢
  refine W.widen (k := 18) (n := 23740) (by omega) (by omega) ?_
  refine lv_astore_n (lv' := [(2, .ref q1v), (1, .ref q0v), (0, .ref b)]) hx hb dL_15 rfl hl (by decide) rfl (fun ls hl => ?_)
  refine lv_iconst (v := 0) hx hb dL_16 (by decide) ?_
  refine lv_istore_n (lv' := [(3, .int 0), (2, .ref q1v), (1, .ref q0v), (0, .ref b)]) hx hb dL_17 rfl hl (by decide) rfl (fun ls hl => ?_)
  have hdis := kz_dis hD
  have hwx : sX z D cA1 q0v a1 (fun q : Nat => s.heap.size ≤ q) s H locs (fun _ => 0) (fun _ _ => 0) := ⟨hK1, hP.sub [0, 1, 2, 3, 4, 5, 6, 7, 8] rfl, hD.sub [0, 1, 2, 3, 4, 5, 6, 7, 8] (by decide) rfl, hS, htk, htr⟩
  have hwm : sM z D cA2 q1v a2 (fun q : Nat => s.heap.size ≤ q) s H locs (fun _ => 0) (fun _ _ => 0) := ⟨hK2, hP.sub [9, 10, 11, 12, 13, 14, 15, 16, 17] rfl, hD.sub [9, 10, 11, 12, 13, 14, 15, 16, 17] (by decide) rfl, hS, htk, htr⟩
  have hd2 : ∀ x ∈ adX q0v a1, x ∉ adM q1v a2 := hdis
  exact law_loop hL C0 z D cA1 cA2 q0v q1v a1 a2 (fun x h1 h2 => hd2 x h2 h1) hd2 (L + 1) 0 (fun _ => 0) 0 [] _ _ _ _ H locs ls (Nat.zero_le _) (by omega) ⟨⟨rfl, by omega, fun j hj => absurd hj (Nat.not_lt_zero _), fun j hj => absurd hj (Nat.not_lt_zero _)⟩, 0, by omega, rfl, by simp, fun k t ht => by simp at ht⟩ ⟨⟨rfl, by omega, fun j hj => absurd hj (Nat.not_lt_zero _), fun j hj => absurd hj (Nat.not_lt_zero _)⟩, 0, by omega, rfl, by simp, fun k t ht => by simp at ht⟩ (fun t ht => by cases ht) hwx hwm (lv_sub hl [3, 2, 1, 0] rfl)
