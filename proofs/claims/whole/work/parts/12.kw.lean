/-! ===== the class: a token is taken ===== -/
theorem key_tape {T : Nat → Int32} {n p size : Nat} {I : Nat → Int32} {F : Nat → Nat → Int32} (hT : tpX T n I F) (h : p + size ≤ n) : keyL (fun k => F 0 (p + k)) size = sliceT T p size := by
  unfold keyL sliceT
  refine List.map_congr_left (fun k hk => ?_)
  exact hT.2.2.1 _ (by have := List.mem_range.mp hk; omega)
theorem kwU (w : List Int32) : w ∈ wK 7 ↔ (w ∈ wK 0 ∨ w ∈ wK 1 ∨ w ∈ wK 2) := by
  constructor
  · intro h
    exact (by decide +kernel : ∀ w ∈ wK 7, w ∈ wK 0 ∨ w ∈ wK 1 ∨ w ∈ wK 2) w h
  · intro h
    rcases h with h | h | h
    · exact (by decide +kernel : ∀ w ∈ wK 0, w ∈ wK 7) w h
    · exact (by decide +kernel : ∀ w ∈ wK 1, w ∈ wK 7) w h
    · exact (by decide +kernel : ∀ w ∈ wK 2, w ∈ wK 7) w h
theorem slice_len (T : Nat → Int32) (p k : Nat) : (sliceT T p k).length = k := by simp [sliceT]
theorem slice_at {T : Nat → Int32} {p k j : Nat} {x : Int32} (h : (sliceT T p k)[j]? = some x) : j < k ∧ x = T (p + j) := by
  have hj : j < k := by
    have := (List.getElem?_eq_some_iff.mp h).1
    rwa [slice_len] at this
  refine ⟨hj, ?_⟩
  unfold sliceT at h
  rw [List.getElem?_map, List.getElem?_range hj] at h
  exact (Option.some.inj h).symm
theorem nEnd_le (T : Nat → Int32) : ∀ (m k : Nat), k ≤ nEnd T m k ∧ nEnd T m k ≤ k + m := by
  intro m
  induction m with
  | zero => intro k; simp [nEnd]
  | succ m ih =>
    intro k
    rw [nEnd]
    split
    · have := ih (k + 1); omega
    · omega
theorem nEnd_go {T : Nat → Int32} {n k : Nat} (h : k < n) (h1 : iNam (T k)) : nEnd T (n - k) k = nEnd T (n - (k + 1)) (k + 1) := by
  rw [show n - k = (n - (k + 1)) + 1 by omega, nEnd, if_pos h1]
theorem nEnd_st {T : Nat → Int32} {n k : Nat} (h : k < n) (h1 : ¬ iNam (T k)) : nEnd T (n - k) k = k := by
  rw [show n - k = (n - (k + 1)) + 1 by omega, nEnd, if_neg h1]
theorem nEnd_end {T : Nat → Int32} {n k : Nat} (h : n ≤ k) : nEnd T (n - k) k = k := by
  rw [show n - k = 0 by omega, nEnd]
/-- what a token that was taken leaves: q what stands there, e where the texts ended -/
def tkP (I : Nat → Int32) (F : Nat → Nat → Int32) (e : Nat) (q : kz_S) (r : Int32) (I' : Nat → Int32) (F' : Nat → Nat → Int32) : Prop :=
  r = q.1 ∧ (∀ k, k ≠ 10 → k ≠ 11 → k ≠ 13 → I' k = I k) ∧ (∀ k, k ≠ 9 → F' k = F k) ∧ (∀ j, j < e → F' 9 j = F 9 j) ∧ (q.1 = 6 → I' 13 = 0) ∧ (¬ q.1 = 6 → I' 11 = nI q.2.2.1 ∧ I' 13 = q.2.1 ∧ I' 10 = nI (e + q.2.2.2.length) ∧ ∀ j x, q.2.2.2[j]? = some x → F' 9 (e + j) = x)
theorem tkP.bad {I I' : Nat → Int32} {F F' : Nat → Nat → Int32} {e : Nat} {q : kz_S} (hq : q = badS) (h1 : ∀ k, k ≠ 10 → k ≠ 11 → k ≠ 13 → I' k = I k) (h2 : ∀ k, k ≠ 9 → F' k = F k) (h3 : ∀ j, j < e → F' 9 j = F 9 j) (h4 : I' 13 = 0) : tkP I F e q 6 I' F' := by
  subst hq
  exact ⟨rfl, h1, h2, h3, fun _ => h4, fun h => absurd rfl h⟩
theorem tkP.num {I I' : Nat → Int32} {F : Nat → Nat → Int32} {e b : Nat} {q : kz_S} {v : Int32} (hq : q = (1, v, b, [])) (h1 : ∀ k, k ≠ 10 → k ≠ 11 → k ≠ 13 → I' k = I k) (h10 : I' 10 = nI e) (h11 : I' 11 = nI b) (h13 : I' 13 = v) : tkP I F e q 1 I' F := by
  subst hq
  exact ⟨rfl, h1, fun _ _ => rfl, fun _ _ => rfl, fun h => absurd (show (1 : Int32) = 6 from h) (by decide), fun _ => ⟨h11, h13, h10, fun j x h => by simp at h⟩⟩
theorem tkP.txt {I I' : Nat → Int32} {F F' : Nat → Nat → Int32} {T : Nat → Int32} {e p size b : Nat} {k v : Int32} {q : kz_S} (hq : q = (k, v, b, sliceT T p size)) (hk : ¬ k = 6) (h13 : I 13 = v) (hb : p + size = b)
    (h : I' 10 = nI (e + size) ∧ I' 11 = nI (p + size) ∧ (∀ k, k ≠ 10 → k ≠ 11 → I' k = I k) ∧ (∀ k, k ≠ 9 → F' k = F k) ∧ (∀ j, j < size → F' 9 (e + j) = T (p + j)) ∧ ∀ j, j < e → F' 9 j = F 9 j) : tkP I F e q k I' F' := by
  subst hq
  obtain ⟨q10, q11, qI, qF, qA, qB⟩ := h
  refine ⟨rfl, fun k a b _ => qI k a b, qF, qB, fun h => absurd h hk, fun _ => ⟨by rw [q11, hb], (qI 13 (by decide) (by decide)).trans h13, by rw [q10, slice_len], fun j x hj => ?_⟩⟩
  obtain ⟨e1, e2⟩ := slice_at hj
  rw [e2]
  exact qA j e1
set_option maxHeartbeats 4000000 in
set_option maxRecDepth 100000 in
theorem tX_isKeyword (l : Launch) (I : Nat → Int32) (F : Nat → Nat → Int32) (T : Nat → Int32) (n : Nat) (hT : tpX T n I F) (p size : Nat) (hp : p + size ≤ n) : MX l yX_isKeyword cX_isKeyword 3 (some .boolean) ({ frames := 5, cells := 0, slots := 0, locals := 112 }) [.int (nI p), .int (nI size)] I F (iR (fun r I' F' => r = (if sliceT T p size ∈ wK 7 then 1 else 0) ∧ I' = I ∧ F' = F)) := by
  refine MX.mk (by decide) (fun _ => Nat.le_of_ble_eq_true rfl) ?_
  intro z D cA h a pg en s m below meth c ls S hr hlk hA hw hl
  have hx := S.1
  have hb := S.2.1
  have hl : lv_has ls 3 [(0, .ref h), (1, .int (nI p)), (2, .int (nI size))] := hl
  have hn := hT.2.1
  refine va_ldcS hx hb S.2.2.2.1 (rK_0 hw.2.2.2.2.2) dX_isKeyword_0 ?_
  refine lv_aload_n hx hb dX_isKeyword_2 rfl (lv_at hl 0 rfl) ?_
  refine gX0 S hw dX_isKeyword_3 ?_
  refine lv_iload_n hx hb dX_isKeyword_6 rfl (lv_at hl 1 rfl) ?_
  refine lv_iload_n hx hb dX_isKeyword_7 rfl (lv_at hl 2 rfl) ?_
  refine kcXS (rest := []) S kX_73 (tX_numberInList l z 0 (by decide) (a 0) 1000 (F 0) (by decide) p size (by omega)) hw hA (arX0 hw) ⟨Nat.le_of_ble_eq_true rfl, Nat.le_of_ble_eq_true rfl⟩ rfl rfl ⟨Nat.zero_le _, Nat.zero_le _⟩ rfl hl.1 (Nat.le_of_ble_eq_true rfl) dX_isKeyword_8 (fun r H locs hq hw => ?_)
  rw [nil_wK (by decide), key_tape hT (by omega)] at hq
  subst hq
  refine lv_iconst (v := (-1)) hx hb dX_isKeyword_11 (by decide) ?_
  refine lv_icmp_ne (tgt := 45) hx hb dX_isKeyword_12 (by decide) (fun c12 => ?_) (fun c12 => ?_)
  · skip
    refine lv_iconst (v := 1) hx hb dX_isKeyword_45 (by decide) ?_
    refine lv_goto (tgt := 50) hx hb dX_isKeyword_46 (by decide) ?_
    exact MX.iret S hr hlk hw dX_isKeyword_50 (by first | rfl | decide) ⟨_, rfl, by rw [if_pos ((kwU _).mpr (Or.inl ((wixK_mem (by decide) _).mp c12)))], rfl, rfl⟩
  · skip
    refine va_ldcS hx hb S.2.2.2.1 (rK_1 hw.2.2.2.2.2) dX_isKeyword_15 ?_
    refine lv_aload_n hx hb dX_isKeyword_17 rfl (lv_at hl 0 rfl) ?_
    refine gX0 S hw dX_isKeyword_18 ?_
    refine lv_iload_n hx hb dX_isKeyword_21 rfl (lv_at hl 1 rfl) ?_
    refine lv_iload_n hx hb dX_isKeyword_22 rfl (lv_at hl 2 rfl) ?_
    refine kcXS (rest := []) S kX_73 (tX_numberInList l z 1 (by decide) (a 0) 1000 (F 0) (by decide) p size (by omega)) hw hA (arX0 hw) ⟨Nat.le_of_ble_eq_true rfl, Nat.le_of_ble_eq_true rfl⟩ rfl rfl ⟨Nat.zero_le _, Nat.zero_le _⟩ rfl hl.1 (Nat.le_of_ble_eq_true rfl) dX_isKeyword_23 (fun r H locs hq hw => ?_)
    rw [nil_wK (by decide), key_tape hT (by omega)] at hq
    subst hq
    refine lv_iconst (v := (-1)) hx hb dX_isKeyword_26 (by decide) ?_
    refine lv_icmp_ne (tgt := 45) hx hb dX_isKeyword_27 (by decide) (fun c27 => ?_) (fun c27 => ?_)
    · skip
      refine lv_iconst (v := 1) hx hb dX_isKeyword_45 (by decide) ?_
      refine lv_goto (tgt := 50) hx hb dX_isKeyword_46 (by decide) ?_
      exact MX.iret S hr hlk hw dX_isKeyword_50 (by first | rfl | decide) ⟨_, rfl, by rw [if_pos ((kwU _).mpr (Or.inr (Or.inl ((wixK_mem (by decide) _).mp c27))))], rfl, rfl⟩
    · skip
      refine va_ldcS hx hb S.2.2.2.1 (rK_2 hw.2.2.2.2.2) dX_isKeyword_30 ?_
      refine lv_aload_n hx hb dX_isKeyword_32 rfl (lv_at hl 0 rfl) ?_
      refine gX0 S hw dX_isKeyword_33 ?_
      refine lv_iload_n hx hb dX_isKeyword_36 rfl (lv_at hl 1 rfl) ?_
      refine lv_iload_n hx hb dX_isKeyword_37 rfl (lv_at hl 2 rfl) ?_
      refine kcXS (rest := []) S kX_73 (tX_numberInList l z 2 (by decide) (a 0) 1000 (F 0) (by decide) p size (by omega)) hw hA (arX0 hw) ⟨Nat.le_of_ble_eq_true rfl, Nat.le_of_ble_eq_true rfl⟩ rfl rfl ⟨Nat.zero_le _, Nat.zero_le _⟩ rfl hl.1 (Nat.le_of_ble_eq_true rfl) dX_isKeyword_38 (fun r H locs hq hw => ?_)
      rw [nil_wK (by decide), key_tape hT (by omega)] at hq
      subst hq
      refine lv_iconst (v := (-1)) hx hb dX_isKeyword_41 (by decide) ?_
      refine lv_icmp_eq (tgt := 49) hx hb dX_isKeyword_42 (by decide) (fun c42 => ?_) (fun c42 => ?_)
      · skip
        refine lv_iconst (v := 0) hx hb dX_isKeyword_49 (by decide) ?_
        exact MX.iret S hr hlk hw dX_isKeyword_50 (by first | rfl | decide) ⟨_, rfl, by rw [if_neg (fun q => ((kwU _).mp q).elim (fun q => (wixK_mem (by decide) _).mpr q c12) (fun q => q.elim (fun q => (wixK_mem (by decide) _).mpr q c27) (fun q => (wixK_mem (by decide) _).mpr q c42)))], rfl, rfl⟩
      · skip
        refine lv_iconst (v := 1) hx hb dX_isKeyword_45 (by decide) ?_
        refine lv_goto (tgt := 50) hx hb dX_isKeyword_46 (by decide) ?_
        exact MX.iret S hr hlk hw dX_isKeyword_50 (by first | rfl | decide) ⟨_, rfl, by rw [if_pos ((kwU _).mpr (Or.inr (Or.inr ((wixK_mem (by decide) _).mp c42))))], rfl, rfl⟩
