/-! ===== the reference: what stands at a place ===== -/
def rkP (I : Nat → Int32) (F : Nat → Nat → Int32) (q : kz_S) (I' : Nat → Int32) (F' : Nat → Nat → Int32) : Prop := F' = F ∧ (∀ k, k ≠ 17 → k ≠ 18 → k ≠ 19 → I' k = I k) ∧ (q.1 = 6 → I' 17 = 6) ∧ (¬ q.1 = 6 → I' 17 = (if q.1 = 4 then 0 else q.1) ∧ I' 19 = nI q.2.2.1 ∧ (q.1 = 1 → I' 18 = q.2.1))
theorem rkP.bad {I I' : Nat → Int32} {F : Nat → Nat → Int32} {q : kz_S} (hq : q = badS) (h1 : ∀ k, k ≠ 17 → k ≠ 18 → k ≠ 19 → I' k = I k) (h2 : I' 17 = 6) : rkP I F q I' F := by
  subst hq; exact ⟨rfl, h1, fun _ => h2, fun h => absurd rfl h⟩
theorem rkP.ok {I I' : Nat → Int32} {F : Nat → Nat → Int32} {q : kz_S} {k v : Int32} {b : Nat} {tx : List Int32} (hq : q = (k, v, b, tx)) (hk : ¬ k = 6) (h1 : ∀ k, k ≠ 17 → k ≠ 18 → k ≠ 19 → I' k = I k) (h2 : I' 17 = if k = 4 then 0 else k) (h3 : I' 19 = nI b) (h4 : k = 1 → I' 18 = v) : rkP I F q I' F := by
  subst hq; exact ⟨rfl, h1, fun h => absurd h hk, fun _ => ⟨h2, h3, h4⟩⟩
theorem rkP.base {I I1 I' : Nat → Int32} {F F' : Nat → Nat → Int32} {q q' : kz_S} (h : rkP I1 F q I' F') (hI : ∀ k, k ≠ 17 → k ≠ 18 → k ≠ 19 → I1 k = I k) (hq : q' = q) : rkP I F q' I' F' := by
  subst hq; exact ⟨h.1, fun k a b c => (h.2.1 k a b c).trans (hI k a b c), h.2.2⟩
theorem two_iff (c d : Int32) : [c, d] ∈ wK 3 ↔ ((c = 36 ∧ d = 40) ∨ (c = 36 ∧ d = 41) ∨ (c = 58 ∧ d = 61) ∨ (c = 126 ∧ d = 61) ∨ (c = 60 ∧ d = 61) ∨ (c = 62 ∧ d = 61) ∨ (c = 60 ∧ d = 60) ∨ (c = 62 ∧ d = 62) ∨ (c = 45 ∧ d = 62)) := by
  show [c, d] ∈ ([[36, 40], [36, 41], [40], [41], [44], [59], [58, 61], [58], [33], [64], [43], [45], [42], [47], [61], [126, 61], [60], [60, 61], [62], [62, 61], [60, 60], [62, 62], [126], [38], [124], [45, 62]] : List (List Int32)) ↔ _
  simp
theorem one_iff (c : Int32) : [c] ∈ wK 3 ↔ (c = 40 ∨ c = 41 ∨ c = 44 ∨ c = 59 ∨ c = 58 ∨ c = 33 ∨ c = 64 ∨ c = 43 ∨ c = 45 ∨ c = 42 ∨ c = 47 ∨ c = 61 ∨ c = 60 ∨ c = 62 ∨ c = 126 ∨ c = 38 ∨ c = 124) := by
  show [c] ∈ ([[36, 40], [36, 41], [40], [41], [44], [59], [58, 61], [58], [33], [64], [43], [45], [42], [47], [61], [126, 61], [60], [60, 61], [62], [62, 61], [60, 60], [62, 62], [126], [38], [124], [45, 62]] : List (List Int32)) ↔ _
  simp
set_option maxHeartbeats 4000000 in
set_option maxRecDepth 100000 in
theorem tM_readName (l : Launch) (I : Nat → Int32) (F : Nat → Nat → Int32) (T : Nat → Int32) (n : Nat) (hT : tpM T n I F) (p : Nat) (h15 : I 15 = nI p) (hp : p < n) : MM l yM_readName cM_readName 2 none ({ frames := 3, cells := 0, slots := 0, locals := 60 }) [] I F (vR (fun I' F' => rkP I F (scN T n p) I' F')) := by
  refine MM.mk (by decide) (fun _ => Nat.le_of_ble_eq_true rfl) ?_
  intro z D cA h a pg en s m below meth c ls S hr hlk hA hw hl
  have hx := S.1
  have hb := S.2.1
  have hl : lv_has ls 2 [(0, .ref h)] := hl
  have hn := hT.2.1
  obtain ⟨hK1, hK2⟩ := nEnd_le T (n - p) p
  have cont : ∀ (H : Heap) (locs : List Loc) (ls : Array Slot), sM z D cA h a (AM h a s.heap.size) s H locs I F → lv_has ls 2 [(0, .ref h), (1, .int (nI (nEnd T (n - p) p)))] → W pg l en ({ frames := 3, cells := 0, slots := 0, locals := 60 }) s m ([.ref h] : List Value).toArray below meth c H locs 0 0 (MQ below (QM z D cA h a s.heap.size (vR (fun I' F' => rkP I F (scN T n p) I' F'))) ([.ref h] : List Value).toArray s 0 0 (AM h a s.heap.size)) (F0 m 22 ls []) := by
    intro H locs ls hw hl
    refine lv_aload_n hx hb dM_readName_22 rfl (lv_at hl 0 rfl) ?_
    refine lv_iload_n hx hb dM_readName_23 rfl (lv_at hl 1 rfl) ?_
    refine pM19 S hw dM_readName_24 (fun H locs hw => ?_)
    refine lv_aload_n hx hb dM_readName_27 rfl (lv_at hl 0 rfl) ?_
    refine lv_iload_n hx hb dM_readName_28 rfl (lv_at hl 1 rfl) ?_
    refine lv_aload_n hx hb dM_readName_29 rfl (lv_at hl 0 rfl) ?_
    refine gM15 S hw dM_readName_30 ?_
    refine kz_top (y := nI p) h15 ?_
    refine lv_isub hx hb dM_readName_33 ?_
    refine kz_top (pk_sub hK1) ?_
    refine lv_bipush (v := 40) hx hb dM_readName_34 (by decide) ?_
    refine lv_icmp_le (tgt := 44) hx hb dM_readName_36 (by decide) (fun c36 => ?_) (fun c36 => ?_)
    · skip
      refine lv_iconst (v := 0) hx hb dM_readName_44 (by decide) ?_
      refine pM17 S hw dM_readName_45 (fun H locs hw => ?_)
      exact MM.vret S hr hlk hw dM_readName_48 ⟨rfl, by
        have h40 : ¬ 40 < nEnd T (n - p) p - p := Nat.not_lt.mpr ((nI_leI (a := nEnd T (n - p) p - p) (b := 40) (by omega) (by decide)).mp c36)
        by_cases hm : sliceT T p (nEnd T (n - p) p - p) ∈ wK 7
        · exact rkP.ok (k := 4) (by unfold scN; rw [if_neg h40, if_pos hm]) (by decide) (fun k a b c => by simp [upd, a, b, c]) rfl rfl (fun q => absurd q (by decide))
        · exact rkP.ok (k := 0) (by unfold scN; rw [if_neg h40, if_neg hm]) (by decide) (fun k a b c => by simp [upd, a, b, c]) rfl rfl (fun q => absurd q (by decide))⟩
    · skip
      refine lv_bipush (v := 6) hx hb dM_readName_39 (by decide) ?_
      refine lv_goto (tgt := 45) hx hb dM_readName_41 (by decide) ?_
      refine pM17 S hw dM_readName_45 (fun H locs hw => ?_)
      exact MM.vret S hr hlk hw dM_readName_48 ⟨rfl, rkP.bad (by unfold scN; rw [if_pos]; exact Nat.lt_of_not_le (fun q => c36 (nI_le q (by decide)))) (fun k a b c => by simp [upd, a, b, c]) rfl⟩
  have loop5 : ∀ (fu : Nat) (k : Nat) (H : Heap) (locs : List Loc) (ls : Array Slot), p ≤ k → k ≤ n → n + 1 ≤ k + fu → nEnd T (n - k) k = nEnd T (n - p) p → sM z D cA h a (AM h a s.heap.size) s H locs I F → lv_has ls 2 [(0, .ref h), (1, .int (nI k))] → W pg l en ({ frames := 3, cells := 0, slots := 0, locals := 60 }) s m ([.ref h] : List Value).toArray below meth c H locs 0 0 (MQ below (QM z D cA h a s.heap.size (vR (fun I' F' => rkP I F (scN T n p) I' F'))) ([.ref h] : List Value).toArray s 0 0 (AM h a s.heap.size)) (F0 m 5 ls []) := by
    intro fu
    induction fu with
    | zero => intro k  H locs ls hk1 hk2 hf hR hw hl; omega
    | succ fu ih =>
      intro k  H locs ls hk1 hk2 hf hR hw hl
      rcases Nat.lt_or_eq_of_le hk2 with hlt | hke
      · skip
        refine lv_aload_n hx hb dM_readName_5 rfl (lv_at hl 0 rfl) ?_
        refine lv_iload_n hx hb dM_readName_6 rfl (lv_at hl 1 rfl) ?_
        refine kcMi (rest := []) S kM_74 rfl (tM_see l I F T n hT k (by omega)) hw hA ⟨Nat.le_of_ble_eq_true rfl, Nat.le_of_ble_eq_true rfl⟩ rfl rfl ⟨Nat.zero_le _, Nat.zero_le _⟩ rfl hl.1 (Nat.le_of_ble_eq_true rfl) dM_readName_7 (fun r I' F' H locs hq hw => ?_)
        obtain ⟨hr1, hr2, hr3⟩ := hq
        rw [hr2, hr3] at hw
        subst hr1
        refine kz_top (see_in hlt) ?_
        refine kcMS (rest := []) S kM_117 (tM_isNamed l z none (T k)) hw hA arNone ⟨Nat.le_of_ble_eq_true rfl, Nat.le_of_ble_eq_true rfl⟩ rfl rfl ⟨Nat.zero_le _, Nat.zero_le _⟩ rfl hl.1 (Nat.le_of_ble_eq_true rfl) dM_readName_10 (fun r H locs hq hw => ?_)
        rcases bI hq with ⟨hB1, rfl⟩ | ⟨hB1, rfl⟩
        · skip
          refine lv_if_eq (tgt := 22) hx hb dM_readName_13 (by decide) (fun c13 => absurd c13 (by decide)) (fun c13 => ?_)
          refine lv_iinc (v := nI (k + 1)) (lv' := [(1, .int (nI (k + 1))), (0, .ref h)]) hx hb dM_readName_16 hl (k := 1) rfl (nI_1 k) (by decide) rfl (fun ls hl => ?_)
          refine lv_goto (tgt := 5) hx hb dM_readName_19 (by decide) ?_
          rw [nEnd_go hlt hB1] at hR
          exact ih (k + 1) H locs ls (by omega) (by omega) (by omega) hR hw (lv_sub hl [1, 0] rfl)
        · skip
          refine lv_if_eq (tgt := 22) hx hb dM_readName_13 (by decide) (fun c13 => ?_) (fun c13 => absurd c13 (by decide))
          rw [nEnd_st hlt hB1] at hR
          exact cont H locs ls hw (by rw [← hR]; exact lv_sub hl [0, 1] rfl)
      · skip
        refine lv_aload_n hx hb dM_readName_5 rfl (lv_at hl 0 rfl) ?_
        refine lv_iload_n hx hb dM_readName_6 rfl (lv_at hl 1 rfl) ?_
        refine kcMi (rest := []) S kM_74 rfl (tM_see l I F T n hT k (by omega)) hw hA ⟨Nat.le_of_ble_eq_true rfl, Nat.le_of_ble_eq_true rfl⟩ rfl rfl ⟨Nat.zero_le _, Nat.zero_le _⟩ rfl hl.1 (Nat.le_of_ble_eq_true rfl) dM_readName_7 (fun r I' F' H locs hq hw => ?_)
        obtain ⟨hr1, hr2, hr3⟩ := hq
        rw [hr2, hr3] at hw
        subst hr1
        refine kz_top (y := -1) (see_out (Nat.le_of_eq hke.symm)) ?_
        refine kcMS (rest := []) S kM_117 (tM_isNamed l z none (-1)) hw hA arNone ⟨Nat.le_of_ble_eq_true rfl, Nat.le_of_ble_eq_true rfl⟩ rfl rfl ⟨Nat.zero_le _, Nat.zero_le _⟩ rfl hl.1 (Nat.le_of_ble_eq_true rfl) dM_readName_10 (fun r H locs hq hw => ?_)
        rw [if_neg (by decide)] at hq
        subst hq
        refine lv_if_eq (tgt := 22) hx hb dM_readName_13 (by decide) (fun c13 => ?_) (fun c13 => absurd c13 (by decide))
        rw [nEnd_end (Nat.le_of_eq hke.symm)] at hR
        exact cont H locs ls hw (by rw [← hR]; exact lv_sub hl [0, 1] rfl)
  refine lv_aload_n hx hb dM_readName_0 rfl (lv_at hl 0 rfl) ?_
  refine gM15 S hw dM_readName_1 ?_
  refine kz_top (y := nI p) h15 ?_
  refine lv_istore_n (lv' := [(1, .int (nI p)), (0, .ref h)]) hx hb dM_readName_4 rfl hl (by decide) rfl (fun ls hl => ?_)
  exact loop5 (n - p + 1) p s.heap [] ls (Nat.le_refl _) (by omega) (by omega) rfl hw (lv_sub hl [1, 0] rfl)
set_option maxHeartbeats 4000000 in
set_option maxRecDepth 100000 in
theorem tM_readSign (l : Launch) (I : Nat → Int32) (F : Nat → Nat → Int32) (T : Nat → Int32) (n : Nat) (hT : tpM T n I F) (p : Nat) (h15 : I 15 = nI p) (hp : p < n) : MM l yM_readSign cM_readSign 5 none ({ frames := 1, cells := 0, slots := 0, locals := 21 }) [] I F (vR (fun I' F' => rkP I F (scG T n p) I' F')) := by
  refine MM.mk (by decide) (fun _ => Nat.le_of_ble_eq_true rfl) ?_
  intro z D cA h a pg en s m below meth c ls S hr hlk hA hw hl
  have hx := S.1
  have hb := S.2.1
  have hl : lv_has ls 5 [(0, .ref h)] := hl
  have hn := hT.2.1
  have cont1 : ∀ (H : Heap) (locs : List Loc) (ls : Array Slot), [T p, seeT T n (p + 1)] ∈ wK 3 → sM z D cA h a (AM h a s.heap.size) s H locs I F → lv_has ls 5 [(0, .ref h), (1, .int (T p)), (3, .int 1)] → W pg l en ({ frames := 1, cells := 0, slots := 0, locals := 21 }) s m ([.ref h] : List Value).toArray below meth c H locs 0 0 (MQ below (QM z D cA h a s.heap.size (vR (fun I' F' => rkP I F (scG T n p) I' F'))) ([.ref h] : List Value).toArray s 0 0 (AM h a s.heap.size)) (F0 m 116 ls []) := by
    intro H locs ls h2 hw hl
    refine lv_iload_n hx hb dM_readSign_116 rfl (lv_at hl 1 rfl) ?_
    refine lv_bipush (v := 40) hx hb dM_readSign_117 (by decide) ?_
    refine lv_icmp_eq (tgt := 218) hx hb dM_readSign_119 (by decide) (fun c119 => ?_) (fun c119 => ?_)
    · skip
      refine lv_iconst (v := 1) hx hb dM_readSign_218 (by decide) ?_
      refine lv_goto (tgt := 223) hx hb dM_readSign_219 (by decide) ?_
      refine lv_istore (lv' := [(4, .int 1), (0, .ref h), (1, .int (T p)), (3, .int 1)]) hx hb dM_readSign_223 hl (by decide) rfl (fun ls hl => ?_)
      refine lv_aload_n hx hb dM_readSign_225 rfl (lv_at hl 1 rfl) ?_
      refine lv_iload hx hb dM_readSign_226 (lv_at hl 0 rfl) ?_
      refine lv_if_ne (tgt := 235) hx hb dM_readSign_228 (by decide) (fun c228 => ?_) (fun c228 => absurd c228 (by decide))
      refine lv_iconst (v := 3) hx hb dM_readSign_235 (by decide) ?_
      refine lv_goto (tgt := 241) hx hb dM_readSign_236 (by decide) ?_
      refine pM17 S hw dM_readSign_241 (fun H locs hw => ?_)
      refine lv_aload_n hx hb dM_readSign_244 rfl (lv_at hl 1 rfl) ?_
      refine lv_iload_n hx hb dM_readSign_245 rfl (lv_at hl 3 rfl) ?_
      refine lv_if_eq (tgt := 258) hx hb dM_readSign_246 (by decide) (fun c246 => absurd c246 (by decide)) (fun c246 => ?_)
      refine lv_aload_n hx hb dM_readSign_249 rfl (lv_at hl 1 rfl) ?_
      refine gM15 S hw dM_readSign_250 ?_
      refine kz_top (y := nI p) h15 ?_
      refine lv_iconst (v := 2) hx hb dM_readSign_253 (by decide) ?_
      refine lv_iadd hx hb dM_readSign_254 ?_
      refine kz_top (y := nI (p + 2)) (nI_add p 2) ?_
      refine lv_goto (tgt := 264) hx hb dM_readSign_255 (by decide) ?_
      refine pM19 S hw dM_readSign_264 (fun H locs hw => ?_)
      exact MM.vret S hr hlk hw dM_readSign_267 ⟨rfl, rkP.ok (k := 3) (by unfold scG; rw [if_pos h2]) (by decide) (fun k a b c => by simp [upd, a, b, c]) rfl rfl (fun q => absurd q (by decide))⟩
    · skip
      refine lv_iload_n hx hb dM_readSign_122 rfl (lv_at hl 1 rfl) ?_
      refine lv_bipush (v := 41) hx hb dM_readSign_123 (by decide) ?_
      refine lv_icmp_eq (tgt := 218) hx hb dM_readSign_125 (by decide) (fun c125 => ?_) (fun c125 => ?_)
      · skip
        refine lv_iconst (v := 1) hx hb dM_readSign_218 (by decide) ?_
        refine lv_goto (tgt := 223) hx hb dM_readSign_219 (by decide) ?_
        refine lv_istore (lv' := [(4, .int 1), (0, .ref h), (1, .int (T p)), (3, .int 1)]) hx hb dM_readSign_223 hl (by decide) rfl (fun ls hl => ?_)
        refine lv_aload_n hx hb dM_readSign_225 rfl (lv_at hl 1 rfl) ?_
        refine lv_iload hx hb dM_readSign_226 (lv_at hl 0 rfl) ?_
        refine lv_if_ne (tgt := 235) hx hb dM_readSign_228 (by decide) (fun c228 => ?_) (fun c228 => absurd c228 (by decide))
        refine lv_iconst (v := 3) hx hb dM_readSign_235 (by decide) ?_
        refine lv_goto (tgt := 241) hx hb dM_readSign_236 (by decide) ?_
        refine pM17 S hw dM_readSign_241 (fun H locs hw => ?_)
        refine lv_aload_n hx hb dM_readSign_244 rfl (lv_at hl 1 rfl) ?_
        refine lv_iload_n hx hb dM_readSign_245 rfl (lv_at hl 3 rfl) ?_
        refine lv_if_eq (tgt := 258) hx hb dM_readSign_246 (by decide) (fun c246 => absurd c246 (by decide)) (fun c246 => ?_)
        refine lv_aload_n hx hb dM_readSign_249 rfl (lv_at hl 1 rfl) ?_
        refine gM15 S hw dM_readSign_250 ?_
        refine kz_top (y := nI p) h15 ?_
        refine lv_iconst (v := 2) hx hb dM_readSign_253 (by decide) ?_
        refine lv_iadd hx hb dM_readSign_254 ?_
        refine kz_top (y := nI (p + 2)) (nI_add p 2) ?_
        refine lv_goto (tgt := 264) hx hb dM_readSign_255 (by decide) ?_
        refine pM19 S hw dM_readSign_264 (fun H locs hw => ?_)
        exact MM.vret S hr hlk hw dM_readSign_267 ⟨rfl, rkP.ok (k := 3) (by unfold scG; rw [if_pos h2]) (by decide) (fun k a b c => by simp [upd, a, b, c]) rfl rfl (fun q => absurd q (by decide))⟩
      · skip
        refine lv_iload_n hx hb dM_readSign_128 rfl (lv_at hl 1 rfl) ?_
        refine lv_bipush (v := 44) hx hb dM_readSign_129 (by decide) ?_
        refine lv_icmp_eq (tgt := 218) hx hb dM_readSign_131 (by decide) (fun c131 => ?_) (fun c131 => ?_)
        · skip
          refine lv_iconst (v := 1) hx hb dM_readSign_218 (by decide) ?_
          refine lv_goto (tgt := 223) hx hb dM_readSign_219 (by decide) ?_
          refine lv_istore (lv' := [(4, .int 1), (0, .ref h), (1, .int (T p)), (3, .int 1)]) hx hb dM_readSign_223 hl (by decide) rfl (fun ls hl => ?_)
          refine lv_aload_n hx hb dM_readSign_225 rfl (lv_at hl 1 rfl) ?_
          refine lv_iload hx hb dM_readSign_226 (lv_at hl 0 rfl) ?_
          refine lv_if_ne (tgt := 235) hx hb dM_readSign_228 (by decide) (fun c228 => ?_) (fun c228 => absurd c228 (by decide))
          refine lv_iconst (v := 3) hx hb dM_readSign_235 (by decide) ?_
          refine lv_goto (tgt := 241) hx hb dM_readSign_236 (by decide) ?_
          refine pM17 S hw dM_readSign_241 (fun H locs hw => ?_)
          refine lv_aload_n hx hb dM_readSign_244 rfl (lv_at hl 1 rfl) ?_
          refine lv_iload_n hx hb dM_readSign_245 rfl (lv_at hl 3 rfl) ?_
          refine lv_if_eq (tgt := 258) hx hb dM_readSign_246 (by decide) (fun c246 => absurd c246 (by decide)) (fun c246 => ?_)
          refine lv_aload_n hx hb dM_readSign_249 rfl (lv_at hl 1 rfl) ?_
          refine gM15 S hw dM_readSign_250 ?_
          refine kz_top (y := nI p) h15 ?_
          refine lv_iconst (v := 2) hx hb dM_readSign_253 (by decide) ?_
          refine lv_iadd hx hb dM_readSign_254 ?_
          refine kz_top (y := nI (p + 2)) (nI_add p 2) ?_
          refine lv_goto (tgt := 264) hx hb dM_readSign_255 (by decide) ?_
          refine pM19 S hw dM_readSign_264 (fun H locs hw => ?_)
          exact MM.vret S hr hlk hw dM_readSign_267 ⟨rfl, rkP.ok (k := 3) (by unfold scG; rw [if_pos h2]) (by decide) (fun k a b c => by simp [upd, a, b, c]) rfl rfl (fun q => absurd q (by decide))⟩
        · skip
          refine lv_iload_n hx hb dM_readSign_134 rfl (lv_at hl 1 rfl) ?_
          refine lv_bipush (v := 59) hx hb dM_readSign_135 (by decide) ?_
          refine lv_icmp_eq (tgt := 218) hx hb dM_readSign_137 (by decide) (fun c137 => ?_) (fun c137 => ?_)
          · skip
            refine lv_iconst (v := 1) hx hb dM_readSign_218 (by decide) ?_
            refine lv_goto (tgt := 223) hx hb dM_readSign_219 (by decide) ?_
            refine lv_istore (lv' := [(4, .int 1), (0, .ref h), (1, .int (T p)), (3, .int 1)]) hx hb dM_readSign_223 hl (by decide) rfl (fun ls hl => ?_)
            refine lv_aload_n hx hb dM_readSign_225 rfl (lv_at hl 1 rfl) ?_
            refine lv_iload hx hb dM_readSign_226 (lv_at hl 0 rfl) ?_
            refine lv_if_ne (tgt := 235) hx hb dM_readSign_228 (by decide) (fun c228 => ?_) (fun c228 => absurd c228 (by decide))
            refine lv_iconst (v := 3) hx hb dM_readSign_235 (by decide) ?_
            refine lv_goto (tgt := 241) hx hb dM_readSign_236 (by decide) ?_
            refine pM17 S hw dM_readSign_241 (fun H locs hw => ?_)
            refine lv_aload_n hx hb dM_readSign_244 rfl (lv_at hl 1 rfl) ?_
            refine lv_iload_n hx hb dM_readSign_245 rfl (lv_at hl 3 rfl) ?_
            refine lv_if_eq (tgt := 258) hx hb dM_readSign_246 (by decide) (fun c246 => absurd c246 (by decide)) (fun c246 => ?_)
            refine lv_aload_n hx hb dM_readSign_249 rfl (lv_at hl 1 rfl) ?_
            refine gM15 S hw dM_readSign_250 ?_
            refine kz_top (y := nI p) h15 ?_
            refine lv_iconst (v := 2) hx hb dM_readSign_253 (by decide) ?_
            refine lv_iadd hx hb dM_readSign_254 ?_
            refine kz_top (y := nI (p + 2)) (nI_add p 2) ?_
            refine lv_goto (tgt := 264) hx hb dM_readSign_255 (by decide) ?_
            refine pM19 S hw dM_readSign_264 (fun H locs hw => ?_)
            exact MM.vret S hr hlk hw dM_readSign_267 ⟨rfl, rkP.ok (k := 3) (by unfold scG; rw [if_pos h2]) (by decide) (fun k a b c => by simp [upd, a, b, c]) rfl rfl (fun q => absurd q (by decide))⟩
          · skip
            refine lv_iload_n hx hb dM_readSign_140 rfl (lv_at hl 1 rfl) ?_
            refine lv_bipush (v := 58) hx hb dM_readSign_141 (by decide) ?_
            refine lv_icmp_eq (tgt := 218) hx hb dM_readSign_143 (by decide) (fun c143 => ?_) (fun c143 => ?_)
            · skip
              refine lv_iconst (v := 1) hx hb dM_readSign_218 (by decide) ?_
              refine lv_goto (tgt := 223) hx hb dM_readSign_219 (by decide) ?_
              refine lv_istore (lv' := [(4, .int 1), (0, .ref h), (1, .int (T p)), (3, .int 1)]) hx hb dM_readSign_223 hl (by decide) rfl (fun ls hl => ?_)
              refine lv_aload_n hx hb dM_readSign_225 rfl (lv_at hl 1 rfl) ?_
              refine lv_iload hx hb dM_readSign_226 (lv_at hl 0 rfl) ?_
              refine lv_if_ne (tgt := 235) hx hb dM_readSign_228 (by decide) (fun c228 => ?_) (fun c228 => absurd c228 (by decide))
              refine lv_iconst (v := 3) hx hb dM_readSign_235 (by decide) ?_
              refine lv_goto (tgt := 241) hx hb dM_readSign_236 (by decide) ?_
              refine pM17 S hw dM_readSign_241 (fun H locs hw => ?_)
              refine lv_aload_n hx hb dM_readSign_244 rfl (lv_at hl 1 rfl) ?_
              refine lv_iload_n hx hb dM_readSign_245 rfl (lv_at hl 3 rfl) ?_
              refine lv_if_eq (tgt := 258) hx hb dM_readSign_246 (by decide) (fun c246 => absurd c246 (by decide)) (fun c246 => ?_)
              refine lv_aload_n hx hb dM_readSign_249 rfl (lv_at hl 1 rfl) ?_
              refine gM15 S hw dM_readSign_250 ?_
              refine kz_top (y := nI p) h15 ?_
              refine lv_iconst (v := 2) hx hb dM_readSign_253 (by decide) ?_
              refine lv_iadd hx hb dM_readSign_254 ?_
              refine kz_top (y := nI (p + 2)) (nI_add p 2) ?_
              refine lv_goto (tgt := 264) hx hb dM_readSign_255 (by decide) ?_
              refine pM19 S hw dM_readSign_264 (fun H locs hw => ?_)
              exact MM.vret S hr hlk hw dM_readSign_267 ⟨rfl, rkP.ok (k := 3) (by unfold scG; rw [if_pos h2]) (by decide) (fun k a b c => by simp [upd, a, b, c]) rfl rfl (fun q => absurd q (by decide))⟩
            · skip
              refine lv_iload_n hx hb dM_readSign_146 rfl (lv_at hl 1 rfl) ?_
              refine lv_bipush (v := 33) hx hb dM_readSign_147 (by decide) ?_
              refine lv_icmp_eq (tgt := 218) hx hb dM_readSign_149 (by decide) (fun c149 => ?_) (fun c149 => ?_)
              · skip
                refine lv_iconst (v := 1) hx hb dM_readSign_218 (by decide) ?_
                refine lv_goto (tgt := 223) hx hb dM_readSign_219 (by decide) ?_
                refine lv_istore (lv' := [(4, .int 1), (0, .ref h), (1, .int (T p)), (3, .int 1)]) hx hb dM_readSign_223 hl (by decide) rfl (fun ls hl => ?_)
                refine lv_aload_n hx hb dM_readSign_225 rfl (lv_at hl 1 rfl) ?_
                refine lv_iload hx hb dM_readSign_226 (lv_at hl 0 rfl) ?_
                refine lv_if_ne (tgt := 235) hx hb dM_readSign_228 (by decide) (fun c228 => ?_) (fun c228 => absurd c228 (by decide))
                refine lv_iconst (v := 3) hx hb dM_readSign_235 (by decide) ?_
                refine lv_goto (tgt := 241) hx hb dM_readSign_236 (by decide) ?_
                refine pM17 S hw dM_readSign_241 (fun H locs hw => ?_)
                refine lv_aload_n hx hb dM_readSign_244 rfl (lv_at hl 1 rfl) ?_
                refine lv_iload_n hx hb dM_readSign_245 rfl (lv_at hl 3 rfl) ?_
                refine lv_if_eq (tgt := 258) hx hb dM_readSign_246 (by decide) (fun c246 => absurd c246 (by decide)) (fun c246 => ?_)
                refine lv_aload_n hx hb dM_readSign_249 rfl (lv_at hl 1 rfl) ?_
                refine gM15 S hw dM_readSign_250 ?_
                refine kz_top (y := nI p) h15 ?_
                refine lv_iconst (v := 2) hx hb dM_readSign_253 (by decide) ?_
                refine lv_iadd hx hb dM_readSign_254 ?_
                refine kz_top (y := nI (p + 2)) (nI_add p 2) ?_
                refine lv_goto (tgt := 264) hx hb dM_readSign_255 (by decide) ?_
                refine pM19 S hw dM_readSign_264 (fun H locs hw => ?_)
                exact MM.vret S hr hlk hw dM_readSign_267 ⟨rfl, rkP.ok (k := 3) (by unfold scG; rw [if_pos h2]) (by decide) (fun k a b c => by simp [upd, a, b, c]) rfl rfl (fun q => absurd q (by decide))⟩
              · skip
                refine lv_iload_n hx hb dM_readSign_152 rfl (lv_at hl 1 rfl) ?_
                refine lv_bipush (v := 64) hx hb dM_readSign_153 (by decide) ?_
                refine lv_icmp_eq (tgt := 218) hx hb dM_readSign_155 (by decide) (fun c155 => ?_) (fun c155 => ?_)
                · skip
                  refine lv_iconst (v := 1) hx hb dM_readSign_218 (by decide) ?_
                  refine lv_goto (tgt := 223) hx hb dM_readSign_219 (by decide) ?_
                  refine lv_istore (lv' := [(4, .int 1), (0, .ref h), (1, .int (T p)), (3, .int 1)]) hx hb dM_readSign_223 hl (by decide) rfl (fun ls hl => ?_)
                  refine lv_aload_n hx hb dM_readSign_225 rfl (lv_at hl 1 rfl) ?_
                  refine lv_iload hx hb dM_readSign_226 (lv_at hl 0 rfl) ?_
                  refine lv_if_ne (tgt := 235) hx hb dM_readSign_228 (by decide) (fun c228 => ?_) (fun c228 => absurd c228 (by decide))
                  refine lv_iconst (v := 3) hx hb dM_readSign_235 (by decide) ?_
                  refine lv_goto (tgt := 241) hx hb dM_readSign_236 (by decide) ?_
                  refine pM17 S hw dM_readSign_241 (fun H locs hw => ?_)
                  refine lv_aload_n hx hb dM_readSign_244 rfl (lv_at hl 1 rfl) ?_
                  refine lv_iload_n hx hb dM_readSign_245 rfl (lv_at hl 3 rfl) ?_
                  refine lv_if_eq (tgt := 258) hx hb dM_readSign_246 (by decide) (fun c246 => absurd c246 (by decide)) (fun c246 => ?_)
                  refine lv_aload_n hx hb dM_readSign_249 rfl (lv_at hl 1 rfl) ?_
                  refine gM15 S hw dM_readSign_250 ?_
                  refine kz_top (y := nI p) h15 ?_
                  refine lv_iconst (v := 2) hx hb dM_readSign_253 (by decide) ?_
                  refine lv_iadd hx hb dM_readSign_254 ?_
                  refine kz_top (y := nI (p + 2)) (nI_add p 2) ?_
                  refine lv_goto (tgt := 264) hx hb dM_readSign_255 (by decide) ?_
                  refine pM19 S hw dM_readSign_264 (fun H locs hw => ?_)
                  exact MM.vret S hr hlk hw dM_readSign_267 ⟨rfl, rkP.ok (k := 3) (by unfold scG; rw [if_pos h2]) (by decide) (fun k a b c => by simp [upd, a, b, c]) rfl rfl (fun q => absurd q (by decide))⟩
                · skip
                  refine lv_iload_n hx hb dM_readSign_158 rfl (lv_at hl 1 rfl) ?_
                  refine lv_bipush (v := 43) hx hb dM_readSign_159 (by decide) ?_
                  refine lv_icmp_eq (tgt := 218) hx hb dM_readSign_161 (by decide) (fun c161 => ?_) (fun c161 => ?_)
                  · skip
                    refine lv_iconst (v := 1) hx hb dM_readSign_218 (by decide) ?_
                    refine lv_goto (tgt := 223) hx hb dM_readSign_219 (by decide) ?_
                    refine lv_istore (lv' := [(4, .int 1), (0, .ref h), (1, .int (T p)), (3, .int 1)]) hx hb dM_readSign_223 hl (by decide) rfl (fun ls hl => ?_)
                    refine lv_aload_n hx hb dM_readSign_225 rfl (lv_at hl 1 rfl) ?_
                    refine lv_iload hx hb dM_readSign_226 (lv_at hl 0 rfl) ?_
                    refine lv_if_ne (tgt := 235) hx hb dM_readSign_228 (by decide) (fun c228 => ?_) (fun c228 => absurd c228 (by decide))
                    refine lv_iconst (v := 3) hx hb dM_readSign_235 (by decide) ?_
                    refine lv_goto (tgt := 241) hx hb dM_readSign_236 (by decide) ?_
                    refine pM17 S hw dM_readSign_241 (fun H locs hw => ?_)
                    refine lv_aload_n hx hb dM_readSign_244 rfl (lv_at hl 1 rfl) ?_
                    refine lv_iload_n hx hb dM_readSign_245 rfl (lv_at hl 3 rfl) ?_
                    refine lv_if_eq (tgt := 258) hx hb dM_readSign_246 (by decide) (fun c246 => absurd c246 (by decide)) (fun c246 => ?_)
                    refine lv_aload_n hx hb dM_readSign_249 rfl (lv_at hl 1 rfl) ?_
                    refine gM15 S hw dM_readSign_250 ?_
                    refine kz_top (y := nI p) h15 ?_
                    refine lv_iconst (v := 2) hx hb dM_readSign_253 (by decide) ?_
                    refine lv_iadd hx hb dM_readSign_254 ?_
                    refine kz_top (y := nI (p + 2)) (nI_add p 2) ?_
                    refine lv_goto (tgt := 264) hx hb dM_readSign_255 (by decide) ?_
                    refine pM19 S hw dM_readSign_264 (fun H locs hw => ?_)
                    exact MM.vret S hr hlk hw dM_readSign_267 ⟨rfl, rkP.ok (k := 3) (by unfold scG; rw [if_pos h2]) (by decide) (fun k a b c => by simp [upd, a, b, c]) rfl rfl (fun q => absurd q (by decide))⟩
                  · skip
                    refine lv_iload_n hx hb dM_readSign_164 rfl (lv_at hl 1 rfl) ?_
                    refine lv_bipush (v := 45) hx hb dM_readSign_165 (by decide) ?_
                    refine lv_icmp_eq (tgt := 218) hx hb dM_readSign_167 (by decide) (fun c167 => ?_) (fun c167 => ?_)
                    · skip
                      refine lv_iconst (v := 1) hx hb dM_readSign_218 (by decide) ?_
                      refine lv_goto (tgt := 223) hx hb dM_readSign_219 (by decide) ?_
                      refine lv_istore (lv' := [(4, .int 1), (0, .ref h), (1, .int (T p)), (3, .int 1)]) hx hb dM_readSign_223 hl (by decide) rfl (fun ls hl => ?_)
                      refine lv_aload_n hx hb dM_readSign_225 rfl (lv_at hl 1 rfl) ?_
                      refine lv_iload hx hb dM_readSign_226 (lv_at hl 0 rfl) ?_
                      refine lv_if_ne (tgt := 235) hx hb dM_readSign_228 (by decide) (fun c228 => ?_) (fun c228 => absurd c228 (by decide))
                      refine lv_iconst (v := 3) hx hb dM_readSign_235 (by decide) ?_
                      refine lv_goto (tgt := 241) hx hb dM_readSign_236 (by decide) ?_
                      refine pM17 S hw dM_readSign_241 (fun H locs hw => ?_)
                      refine lv_aload_n hx hb dM_readSign_244 rfl (lv_at hl 1 rfl) ?_
                      refine lv_iload_n hx hb dM_readSign_245 rfl (lv_at hl 3 rfl) ?_
                      refine lv_if_eq (tgt := 258) hx hb dM_readSign_246 (by decide) (fun c246 => absurd c246 (by decide)) (fun c246 => ?_)
                      refine lv_aload_n hx hb dM_readSign_249 rfl (lv_at hl 1 rfl) ?_
                      refine gM15 S hw dM_readSign_250 ?_
                      refine kz_top (y := nI p) h15 ?_
                      refine lv_iconst (v := 2) hx hb dM_readSign_253 (by decide) ?_
                      refine lv_iadd hx hb dM_readSign_254 ?_
                      refine kz_top (y := nI (p + 2)) (nI_add p 2) ?_
                      refine lv_goto (tgt := 264) hx hb dM_readSign_255 (by decide) ?_
                      refine pM19 S hw dM_readSign_264 (fun H locs hw => ?_)
                      exact MM.vret S hr hlk hw dM_readSign_267 ⟨rfl, rkP.ok (k := 3) (by unfold scG; rw [if_pos h2]) (by decide) (fun k a b c => by simp [upd, a, b, c]) rfl rfl (fun q => absurd q (by decide))⟩
                    · skip
                      refine lv_iload_n hx hb dM_readSign_170 rfl (lv_at hl 1 rfl) ?_
                      refine lv_bipush (v := 42) hx hb dM_readSign_171 (by decide) ?_
                      refine lv_icmp_eq (tgt := 218) hx hb dM_readSign_173 (by decide) (fun c173 => ?_) (fun c173 => ?_)
                      · skip
                        refine lv_iconst (v := 1) hx hb dM_readSign_218 (by decide) ?_
                        refine lv_goto (tgt := 223) hx hb dM_readSign_219 (by decide) ?_
                        refine lv_istore (lv' := [(4, .int 1), (0, .ref h), (1, .int (T p)), (3, .int 1)]) hx hb dM_readSign_223 hl (by decide) rfl (fun ls hl => ?_)
                        refine lv_aload_n hx hb dM_readSign_225 rfl (lv_at hl 1 rfl) ?_
                        refine lv_iload hx hb dM_readSign_226 (lv_at hl 0 rfl) ?_
                        refine lv_if_ne (tgt := 235) hx hb dM_readSign_228 (by decide) (fun c228 => ?_) (fun c228 => absurd c228 (by decide))
                        refine lv_iconst (v := 3) hx hb dM_readSign_235 (by decide) ?_
                        refine lv_goto (tgt := 241) hx hb dM_readSign_236 (by decide) ?_
                        refine pM17 S hw dM_readSign_241 (fun H locs hw => ?_)
                        refine lv_aload_n hx hb dM_readSign_244 rfl (lv_at hl 1 rfl) ?_
                        refine lv_iload_n hx hb dM_readSign_245 rfl (lv_at hl 3 rfl) ?_
                        refine lv_if_eq (tgt := 258) hx hb dM_readSign_246 (by decide) (fun c246 => absurd c246 (by decide)) (fun c246 => ?_)
                        refine lv_aload_n hx hb dM_readSign_249 rfl (lv_at hl 1 rfl) ?_
                        refine gM15 S hw dM_readSign_250 ?_
                        refine kz_top (y := nI p) h15 ?_
                        refine lv_iconst (v := 2) hx hb dM_readSign_253 (by decide) ?_
                        refine lv_iadd hx hb dM_readSign_254 ?_
                        refine kz_top (y := nI (p + 2)) (nI_add p 2) ?_
                        refine lv_goto (tgt := 264) hx hb dM_readSign_255 (by decide) ?_
                        refine pM19 S hw dM_readSign_264 (fun H locs hw => ?_)
                        exact MM.vret S hr hlk hw dM_readSign_267 ⟨rfl, rkP.ok (k := 3) (by unfold scG; rw [if_pos h2]) (by decide) (fun k a b c => by simp [upd, a, b, c]) rfl rfl (fun q => absurd q (by decide))⟩
                      · skip
                        refine lv_iload_n hx hb dM_readSign_176 rfl (lv_at hl 1 rfl) ?_
                        refine lv_bipush (v := 47) hx hb dM_readSign_177 (by decide) ?_
                        refine lv_icmp_eq (tgt := 218) hx hb dM_readSign_179 (by decide) (fun c179 => ?_) (fun c179 => ?_)
                        · skip
                          refine lv_iconst (v := 1) hx hb dM_readSign_218 (by decide) ?_
                          refine lv_goto (tgt := 223) hx hb dM_readSign_219 (by decide) ?_
                          refine lv_istore (lv' := [(4, .int 1), (0, .ref h), (1, .int (T p)), (3, .int 1)]) hx hb dM_readSign_223 hl (by decide) rfl (fun ls hl => ?_)
                          refine lv_aload_n hx hb dM_readSign_225 rfl (lv_at hl 1 rfl) ?_
                          refine lv_iload hx hb dM_readSign_226 (lv_at hl 0 rfl) ?_
                          refine lv_if_ne (tgt := 235) hx hb dM_readSign_228 (by decide) (fun c228 => ?_) (fun c228 => absurd c228 (by decide))
                          refine lv_iconst (v := 3) hx hb dM_readSign_235 (by decide) ?_
                          refine lv_goto (tgt := 241) hx hb dM_readSign_236 (by decide) ?_
                          refine pM17 S hw dM_readSign_241 (fun H locs hw => ?_)
                          refine lv_aload_n hx hb dM_readSign_244 rfl (lv_at hl 1 rfl) ?_
                          refine lv_iload_n hx hb dM_readSign_245 rfl (lv_at hl 3 rfl) ?_
                          refine lv_if_eq (tgt := 258) hx hb dM_readSign_246 (by decide) (fun c246 => absurd c246 (by decide)) (fun c246 => ?_)
                          refine lv_aload_n hx hb dM_readSign_249 rfl (lv_at hl 1 rfl) ?_
                          refine gM15 S hw dM_readSign_250 ?_
                          refine kz_top (y := nI p) h15 ?_
                          refine lv_iconst (v := 2) hx hb dM_readSign_253 (by decide) ?_
                          refine lv_iadd hx hb dM_readSign_254 ?_
                          refine kz_top (y := nI (p + 2)) (nI_add p 2) ?_
                          refine lv_goto (tgt := 264) hx hb dM_readSign_255 (by decide) ?_
                          refine pM19 S hw dM_readSign_264 (fun H locs hw => ?_)
                          exact MM.vret S hr hlk hw dM_readSign_267 ⟨rfl, rkP.ok (k := 3) (by unfold scG; rw [if_pos h2]) (by decide) (fun k a b c => by simp [upd, a, b, c]) rfl rfl (fun q => absurd q (by decide))⟩
                        · skip
                          refine lv_iload_n hx hb dM_readSign_182 rfl (lv_at hl 1 rfl) ?_
                          refine lv_bipush (v := 61) hx hb dM_readSign_183 (by decide) ?_
                          refine lv_icmp_eq (tgt := 218) hx hb dM_readSign_185 (by decide) (fun c185 => ?_) (fun c185 => ?_)
                          · skip
                            refine lv_iconst (v := 1) hx hb dM_readSign_218 (by decide) ?_
                            refine lv_goto (tgt := 223) hx hb dM_readSign_219 (by decide) ?_
                            refine lv_istore (lv' := [(4, .int 1), (0, .ref h), (1, .int (T p)), (3, .int 1)]) hx hb dM_readSign_223 hl (by decide) rfl (fun ls hl => ?_)
                            refine lv_aload_n hx hb dM_readSign_225 rfl (lv_at hl 1 rfl) ?_
                            refine lv_iload hx hb dM_readSign_226 (lv_at hl 0 rfl) ?_
                            refine lv_if_ne (tgt := 235) hx hb dM_readSign_228 (by decide) (fun c228 => ?_) (fun c228 => absurd c228 (by decide))
                            refine lv_iconst (v := 3) hx hb dM_readSign_235 (by decide) ?_
                            refine lv_goto (tgt := 241) hx hb dM_readSign_236 (by decide) ?_
                            refine pM17 S hw dM_readSign_241 (fun H locs hw => ?_)
                            refine lv_aload_n hx hb dM_readSign_244 rfl (lv_at hl 1 rfl) ?_
                            refine lv_iload_n hx hb dM_readSign_245 rfl (lv_at hl 3 rfl) ?_
                            refine lv_if_eq (tgt := 258) hx hb dM_readSign_246 (by decide) (fun c246 => absurd c246 (by decide)) (fun c246 => ?_)
                            refine lv_aload_n hx hb dM_readSign_249 rfl (lv_at hl 1 rfl) ?_
                            refine gM15 S hw dM_readSign_250 ?_
                            refine kz_top (y := nI p) h15 ?_
                            refine lv_iconst (v := 2) hx hb dM_readSign_253 (by decide) ?_
                            refine lv_iadd hx hb dM_readSign_254 ?_
                            refine kz_top (y := nI (p + 2)) (nI_add p 2) ?_
                            refine lv_goto (tgt := 264) hx hb dM_readSign_255 (by decide) ?_
                            refine pM19 S hw dM_readSign_264 (fun H locs hw => ?_)
                            exact MM.vret S hr hlk hw dM_readSign_267 ⟨rfl, rkP.ok (k := 3) (by unfold scG; rw [if_pos h2]) (by decide) (fun k a b c => by simp [upd, a, b, c]) rfl rfl (fun q => absurd q (by decide))⟩
                          · skip
                            refine lv_iload_n hx hb dM_readSign_188 rfl (lv_at hl 1 rfl) ?_
                            refine lv_bipush (v := 60) hx hb dM_readSign_189 (by decide) ?_
                            refine lv_icmp_eq (tgt := 218) hx hb dM_readSign_191 (by decide) (fun c191 => ?_) (fun c191 => ?_)
                            · skip
                              refine lv_iconst (v := 1) hx hb dM_readSign_218 (by decide) ?_
                              refine lv_goto (tgt := 223) hx hb dM_readSign_219 (by decide) ?_
                              refine lv_istore (lv' := [(4, .int 1), (0, .ref h), (1, .int (T p)), (3, .int 1)]) hx hb dM_readSign_223 hl (by decide) rfl (fun ls hl => ?_)
                              refine lv_aload_n hx hb dM_readSign_225 rfl (lv_at hl 1 rfl) ?_
                              refine lv_iload hx hb dM_readSign_226 (lv_at hl 0 rfl) ?_
                              refine lv_if_ne (tgt := 235) hx hb dM_readSign_228 (by decide) (fun c228 => ?_) (fun c228 => absurd c228 (by decide))
                              refine lv_iconst (v := 3) hx hb dM_readSign_235 (by decide) ?_
                              refine lv_goto (tgt := 241) hx hb dM_readSign_236 (by decide) ?_
                              refine pM17 S hw dM_readSign_241 (fun H locs hw => ?_)
                              refine lv_aload_n hx hb dM_readSign_244 rfl (lv_at hl 1 rfl) ?_
                              refine lv_iload_n hx hb dM_readSign_245 rfl (lv_at hl 3 rfl) ?_
                              refine lv_if_eq (tgt := 258) hx hb dM_readSign_246 (by decide) (fun c246 => absurd c246 (by decide)) (fun c246 => ?_)
                              refine lv_aload_n hx hb dM_readSign_249 rfl (lv_at hl 1 rfl) ?_
                              refine gM15 S hw dM_readSign_250 ?_
                              refine kz_top (y := nI p) h15 ?_
                              refine lv_iconst (v := 2) hx hb dM_readSign_253 (by decide) ?_
                              refine lv_iadd hx hb dM_readSign_254 ?_
                              refine kz_top (y := nI (p + 2)) (nI_add p 2) ?_
                              refine lv_goto (tgt := 264) hx hb dM_readSign_255 (by decide) ?_
                              refine pM19 S hw dM_readSign_264 (fun H locs hw => ?_)
                              exact MM.vret S hr hlk hw dM_readSign_267 ⟨rfl, rkP.ok (k := 3) (by unfold scG; rw [if_pos h2]) (by decide) (fun k a b c => by simp [upd, a, b, c]) rfl rfl (fun q => absurd q (by decide))⟩
                            · skip
                              refine lv_iload_n hx hb dM_readSign_194 rfl (lv_at hl 1 rfl) ?_
                              refine lv_bipush (v := 62) hx hb dM_readSign_195 (by decide) ?_
                              refine lv_icmp_eq (tgt := 218) hx hb dM_readSign_197 (by decide) (fun c197 => ?_) (fun c197 => ?_)
                              · skip
                                refine lv_iconst (v := 1) hx hb dM_readSign_218 (by decide) ?_
                                refine lv_goto (tgt := 223) hx hb dM_readSign_219 (by decide) ?_
                                refine lv_istore (lv' := [(4, .int 1), (0, .ref h), (1, .int (T p)), (3, .int 1)]) hx hb dM_readSign_223 hl (by decide) rfl (fun ls hl => ?_)
                                refine lv_aload_n hx hb dM_readSign_225 rfl (lv_at hl 1 rfl) ?_
                                refine lv_iload hx hb dM_readSign_226 (lv_at hl 0 rfl) ?_
                                refine lv_if_ne (tgt := 235) hx hb dM_readSign_228 (by decide) (fun c228 => ?_) (fun c228 => absurd c228 (by decide))
                                refine lv_iconst (v := 3) hx hb dM_readSign_235 (by decide) ?_
                                refine lv_goto (tgt := 241) hx hb dM_readSign_236 (by decide) ?_
                                refine pM17 S hw dM_readSign_241 (fun H locs hw => ?_)
                                refine lv_aload_n hx hb dM_readSign_244 rfl (lv_at hl 1 rfl) ?_
                                refine lv_iload_n hx hb dM_readSign_245 rfl (lv_at hl 3 rfl) ?_
                                refine lv_if_eq (tgt := 258) hx hb dM_readSign_246 (by decide) (fun c246 => absurd c246 (by decide)) (fun c246 => ?_)
                                refine lv_aload_n hx hb dM_readSign_249 rfl (lv_at hl 1 rfl) ?_
                                refine gM15 S hw dM_readSign_250 ?_
                                refine kz_top (y := nI p) h15 ?_
                                refine lv_iconst (v := 2) hx hb dM_readSign_253 (by decide) ?_
                                refine lv_iadd hx hb dM_readSign_254 ?_
                                refine kz_top (y := nI (p + 2)) (nI_add p 2) ?_
                                refine lv_goto (tgt := 264) hx hb dM_readSign_255 (by decide) ?_
                                refine pM19 S hw dM_readSign_264 (fun H locs hw => ?_)
                                exact MM.vret S hr hlk hw dM_readSign_267 ⟨rfl, rkP.ok (k := 3) (by unfold scG; rw [if_pos h2]) (by decide) (fun k a b c => by simp [upd, a, b, c]) rfl rfl (fun q => absurd q (by decide))⟩
                              · skip
                                refine lv_iload_n hx hb dM_readSign_200 rfl (lv_at hl 1 rfl) ?_
                                refine lv_bipush (v := 126) hx hb dM_readSign_201 (by decide) ?_
                                refine lv_icmp_eq (tgt := 218) hx hb dM_readSign_203 (by decide) (fun c203 => ?_) (fun c203 => ?_)
                                · skip
                                  refine lv_iconst (v := 1) hx hb dM_readSign_218 (by decide) ?_
                                  refine lv_goto (tgt := 223) hx hb dM_readSign_219 (by decide) ?_
                                  refine lv_istore (lv' := [(4, .int 1), (0, .ref h), (1, .int (T p)), (3, .int 1)]) hx hb dM_readSign_223 hl (by decide) rfl (fun ls hl => ?_)
                                  refine lv_aload_n hx hb dM_readSign_225 rfl (lv_at hl 1 rfl) ?_
                                  refine lv_iload hx hb dM_readSign_226 (lv_at hl 0 rfl) ?_
                                  refine lv_if_ne (tgt := 235) hx hb dM_readSign_228 (by decide) (fun c228 => ?_) (fun c228 => absurd c228 (by decide))
                                  refine lv_iconst (v := 3) hx hb dM_readSign_235 (by decide) ?_
                                  refine lv_goto (tgt := 241) hx hb dM_readSign_236 (by decide) ?_
                                  refine pM17 S hw dM_readSign_241 (fun H locs hw => ?_)
                                  refine lv_aload_n hx hb dM_readSign_244 rfl (lv_at hl 1 rfl) ?_
                                  refine lv_iload_n hx hb dM_readSign_245 rfl (lv_at hl 3 rfl) ?_
                                  refine lv_if_eq (tgt := 258) hx hb dM_readSign_246 (by decide) (fun c246 => absurd c246 (by decide)) (fun c246 => ?_)
                                  refine lv_aload_n hx hb dM_readSign_249 rfl (lv_at hl 1 rfl) ?_
                                  refine gM15 S hw dM_readSign_250 ?_
                                  refine kz_top (y := nI p) h15 ?_
                                  refine lv_iconst (v := 2) hx hb dM_readSign_253 (by decide) ?_
                                  refine lv_iadd hx hb dM_readSign_254 ?_
                                  refine kz_top (y := nI (p + 2)) (nI_add p 2) ?_
                                  refine lv_goto (tgt := 264) hx hb dM_readSign_255 (by decide) ?_
                                  refine pM19 S hw dM_readSign_264 (fun H locs hw => ?_)
                                  exact MM.vret S hr hlk hw dM_readSign_267 ⟨rfl, rkP.ok (k := 3) (by unfold scG; rw [if_pos h2]) (by decide) (fun k a b c => by simp [upd, a, b, c]) rfl rfl (fun q => absurd q (by decide))⟩
                                · skip
                                  refine lv_iload_n hx hb dM_readSign_206 rfl (lv_at hl 1 rfl) ?_
                                  refine lv_bipush (v := 38) hx hb dM_readSign_207 (by decide) ?_
                                  refine lv_icmp_eq (tgt := 218) hx hb dM_readSign_209 (by decide) (fun c209 => ?_) (fun c209 => ?_)
                                  · skip
                                    refine lv_iconst (v := 1) hx hb dM_readSign_218 (by decide) ?_
                                    refine lv_goto (tgt := 223) hx hb dM_readSign_219 (by decide) ?_
                                    refine lv_istore (lv' := [(4, .int 1), (0, .ref h), (1, .int (T p)), (3, .int 1)]) hx hb dM_readSign_223 hl (by decide) rfl (fun ls hl => ?_)
                                    refine lv_aload_n hx hb dM_readSign_225 rfl (lv_at hl 1 rfl) ?_
                                    refine lv_iload hx hb dM_readSign_226 (lv_at hl 0 rfl) ?_
                                    refine lv_if_ne (tgt := 235) hx hb dM_readSign_228 (by decide) (fun c228 => ?_) (fun c228 => absurd c228 (by decide))
                                    refine lv_iconst (v := 3) hx hb dM_readSign_235 (by decide) ?_
                                    refine lv_goto (tgt := 241) hx hb dM_readSign_236 (by decide) ?_
                                    refine pM17 S hw dM_readSign_241 (fun H locs hw => ?_)
                                    refine lv_aload_n hx hb dM_readSign_244 rfl (lv_at hl 1 rfl) ?_
                                    refine lv_iload_n hx hb dM_readSign_245 rfl (lv_at hl 3 rfl) ?_
                                    refine lv_if_eq (tgt := 258) hx hb dM_readSign_246 (by decide) (fun c246 => absurd c246 (by decide)) (fun c246 => ?_)
                                    refine lv_aload_n hx hb dM_readSign_249 rfl (lv_at hl 1 rfl) ?_
                                    refine gM15 S hw dM_readSign_250 ?_
                                    refine kz_top (y := nI p) h15 ?_
                                    refine lv_iconst (v := 2) hx hb dM_readSign_253 (by decide) ?_
                                    refine lv_iadd hx hb dM_readSign_254 ?_
                                    refine kz_top (y := nI (p + 2)) (nI_add p 2) ?_
                                    refine lv_goto (tgt := 264) hx hb dM_readSign_255 (by decide) ?_
                                    refine pM19 S hw dM_readSign_264 (fun H locs hw => ?_)
                                    exact MM.vret S hr hlk hw dM_readSign_267 ⟨rfl, rkP.ok (k := 3) (by unfold scG; rw [if_pos h2]) (by decide) (fun k a b c => by simp [upd, a, b, c]) rfl rfl (fun q => absurd q (by decide))⟩
                                  · skip
                                    refine lv_iload_n hx hb dM_readSign_212 rfl (lv_at hl 1 rfl) ?_
                                    refine lv_bipush (v := 124) hx hb dM_readSign_213 (by decide) ?_
                                    refine lv_icmp_ne (tgt := 222) hx hb dM_readSign_215 (by decide) (fun c215 => ?_) (fun c215 => ?_)
                                    · skip
                                      refine lv_iconst (v := 0) hx hb dM_readSign_222 (by decide) ?_
                                      refine lv_istore (lv' := [(4, .int 0), (0, .ref h), (1, .int (T p)), (3, .int 1)]) hx hb dM_readSign_223 hl (by decide) rfl (fun ls hl => ?_)
                                      refine lv_aload_n hx hb dM_readSign_225 rfl (lv_at hl 1 rfl) ?_
                                      refine lv_iload hx hb dM_readSign_226 (lv_at hl 0 rfl) ?_
                                      refine lv_if_ne (tgt := 235) hx hb dM_readSign_228 (by decide) (fun c228 => absurd c228 (by decide)) (fun c228 => ?_)
                                      refine lv_iload_n hx hb dM_readSign_231 rfl (lv_at hl 3 rfl) ?_
                                      refine lv_if_eq (tgt := 239) hx hb dM_readSign_232 (by decide) (fun c232 => absurd c232 (by decide)) (fun c232 => ?_)
                                      refine lv_iconst (v := 3) hx hb dM_readSign_235 (by decide) ?_
                                      refine lv_goto (tgt := 241) hx hb dM_readSign_236 (by decide) ?_
                                      refine pM17 S hw dM_readSign_241 (fun H locs hw => ?_)
                                      refine lv_aload_n hx hb dM_readSign_244 rfl (lv_at hl 1 rfl) ?_
                                      refine lv_iload_n hx hb dM_readSign_245 rfl (lv_at hl 3 rfl) ?_
                                      refine lv_if_eq (tgt := 258) hx hb dM_readSign_246 (by decide) (fun c246 => absurd c246 (by decide)) (fun c246 => ?_)
                                      refine lv_aload_n hx hb dM_readSign_249 rfl (lv_at hl 1 rfl) ?_
                                      refine gM15 S hw dM_readSign_250 ?_
                                      refine kz_top (y := nI p) h15 ?_
                                      refine lv_iconst (v := 2) hx hb dM_readSign_253 (by decide) ?_
                                      refine lv_iadd hx hb dM_readSign_254 ?_
                                      refine kz_top (y := nI (p + 2)) (nI_add p 2) ?_
                                      refine lv_goto (tgt := 264) hx hb dM_readSign_255 (by decide) ?_
                                      refine pM19 S hw dM_readSign_264 (fun H locs hw => ?_)
                                      exact MM.vret S hr hlk hw dM_readSign_267 ⟨rfl, rkP.ok (k := 3) (by unfold scG; rw [if_pos h2]) (by decide) (fun k a b c => by simp [upd, a, b, c]) rfl rfl (fun q => absurd q (by decide))⟩
                                    · skip
                                      refine lv_iconst (v := 1) hx hb dM_readSign_218 (by decide) ?_
                                      refine lv_goto (tgt := 223) hx hb dM_readSign_219 (by decide) ?_
                                      refine lv_istore (lv' := [(4, .int 1), (0, .ref h), (1, .int (T p)), (3, .int 1)]) hx hb dM_readSign_223 hl (by decide) rfl (fun ls hl => ?_)
                                      refine lv_aload_n hx hb dM_readSign_225 rfl (lv_at hl 1 rfl) ?_
                                      refine lv_iload hx hb dM_readSign_226 (lv_at hl 0 rfl) ?_
                                      refine lv_if_ne (tgt := 235) hx hb dM_readSign_228 (by decide) (fun c228 => ?_) (fun c228 => absurd c228 (by decide))
                                      refine lv_iconst (v := 3) hx hb dM_readSign_235 (by decide) ?_
                                      refine lv_goto (tgt := 241) hx hb dM_readSign_236 (by decide) ?_
                                      refine pM17 S hw dM_readSign_241 (fun H locs hw => ?_)
                                      refine lv_aload_n hx hb dM_readSign_244 rfl (lv_at hl 1 rfl) ?_
                                      refine lv_iload_n hx hb dM_readSign_245 rfl (lv_at hl 3 rfl) ?_
                                      refine lv_if_eq (tgt := 258) hx hb dM_readSign_246 (by decide) (fun c246 => absurd c246 (by decide)) (fun c246 => ?_)
                                      refine lv_aload_n hx hb dM_readSign_249 rfl (lv_at hl 1 rfl) ?_
                                      refine gM15 S hw dM_readSign_250 ?_
                                      refine kz_top (y := nI p) h15 ?_
                                      refine lv_iconst (v := 2) hx hb dM_readSign_253 (by decide) ?_
                                      refine lv_iadd hx hb dM_readSign_254 ?_
                                      refine kz_top (y := nI (p + 2)) (nI_add p 2) ?_
                                      refine lv_goto (tgt := 264) hx hb dM_readSign_255 (by decide) ?_
                                      refine pM19 S hw dM_readSign_264 (fun H locs hw => ?_)
                                      exact MM.vret S hr hlk hw dM_readSign_267 ⟨rfl, rkP.ok (k := 3) (by unfold scG; rw [if_pos h2]) (by decide) (fun k a b c => by simp [upd, a, b, c]) rfl rfl (fun q => absurd q (by decide))⟩
  have cont0 : ∀ (H : Heap) (locs : List Loc) (ls : Array Slot), ¬ [T p, seeT T n (p + 1)] ∈ wK 3 → sM z D cA h a (AM h a s.heap.size) s H locs I F → lv_has ls 5 [(0, .ref h), (1, .int (T p)), (3, .int 0)] → W pg l en ({ frames := 1, cells := 0, slots := 0, locals := 21 }) s m ([.ref h] : List Value).toArray below meth c H locs 0 0 (MQ below (QM z D cA h a s.heap.size (vR (fun I' F' => rkP I F (scG T n p) I' F'))) ([.ref h] : List Value).toArray s 0 0 (AM h a s.heap.size)) (F0 m 116 ls []) := by
    intro H locs ls h2 hw hl
    refine lv_iload_n hx hb dM_readSign_116 rfl (lv_at hl 1 rfl) ?_
    refine lv_bipush (v := 40) hx hb dM_readSign_117 (by decide) ?_
    refine lv_icmp_eq (tgt := 218) hx hb dM_readSign_119 (by decide) (fun c119 => ?_) (fun c119 => ?_)
    · skip
      refine lv_iconst (v := 1) hx hb dM_readSign_218 (by decide) ?_
      refine lv_goto (tgt := 223) hx hb dM_readSign_219 (by decide) ?_
      refine lv_istore (lv' := [(4, .int 1), (0, .ref h), (1, .int (T p)), (3, .int 0)]) hx hb dM_readSign_223 hl (by decide) rfl (fun ls hl => ?_)
      refine lv_aload_n hx hb dM_readSign_225 rfl (lv_at hl 1 rfl) ?_
      refine lv_iload hx hb dM_readSign_226 (lv_at hl 0 rfl) ?_
      refine lv_if_ne (tgt := 235) hx hb dM_readSign_228 (by decide) (fun c228 => ?_) (fun c228 => absurd c228 (by decide))
      refine lv_iconst (v := 3) hx hb dM_readSign_235 (by decide) ?_
      refine lv_goto (tgt := 241) hx hb dM_readSign_236 (by decide) ?_
      refine pM17 S hw dM_readSign_241 (fun H locs hw => ?_)
      refine lv_aload_n hx hb dM_readSign_244 rfl (lv_at hl 1 rfl) ?_
      refine lv_iload_n hx hb dM_readSign_245 rfl (lv_at hl 3 rfl) ?_
      refine lv_if_eq (tgt := 258) hx hb dM_readSign_246 (by decide) (fun c246 => ?_) (fun c246 => absurd c246 (by decide))
      refine lv_aload_n hx hb dM_readSign_258 rfl (lv_at hl 1 rfl) ?_
      refine gM15 S hw dM_readSign_259 ?_
      refine kz_top (y := nI p) h15 ?_
      refine lv_iconst (v := 1) hx hb dM_readSign_262 (by decide) ?_
      refine lv_iadd hx hb dM_readSign_263 ?_
      refine kz_top (y := nI (p + 1)) (nI_add p 1) ?_
      refine pM19 S hw dM_readSign_264 (fun H locs hw => ?_)
      exact MM.vret S hr hlk hw dM_readSign_267 ⟨rfl, rkP.ok (k := 3) (by unfold scG; rw [if_neg h2, if_pos ((one_iff _).mpr (by simp [c119]))]) (by decide) (fun k a b c => by simp [upd, a, b, c]) rfl rfl (fun q => absurd q (by decide))⟩
    · skip
      refine lv_iload_n hx hb dM_readSign_122 rfl (lv_at hl 1 rfl) ?_
      refine lv_bipush (v := 41) hx hb dM_readSign_123 (by decide) ?_
      refine lv_icmp_eq (tgt := 218) hx hb dM_readSign_125 (by decide) (fun c125 => ?_) (fun c125 => ?_)
      · skip
        refine lv_iconst (v := 1) hx hb dM_readSign_218 (by decide) ?_
        refine lv_goto (tgt := 223) hx hb dM_readSign_219 (by decide) ?_
        refine lv_istore (lv' := [(4, .int 1), (0, .ref h), (1, .int (T p)), (3, .int 0)]) hx hb dM_readSign_223 hl (by decide) rfl (fun ls hl => ?_)
        refine lv_aload_n hx hb dM_readSign_225 rfl (lv_at hl 1 rfl) ?_
        refine lv_iload hx hb dM_readSign_226 (lv_at hl 0 rfl) ?_
        refine lv_if_ne (tgt := 235) hx hb dM_readSign_228 (by decide) (fun c228 => ?_) (fun c228 => absurd c228 (by decide))
        refine lv_iconst (v := 3) hx hb dM_readSign_235 (by decide) ?_
        refine lv_goto (tgt := 241) hx hb dM_readSign_236 (by decide) ?_
        refine pM17 S hw dM_readSign_241 (fun H locs hw => ?_)
        refine lv_aload_n hx hb dM_readSign_244 rfl (lv_at hl 1 rfl) ?_
        refine lv_iload_n hx hb dM_readSign_245 rfl (lv_at hl 3 rfl) ?_
        refine lv_if_eq (tgt := 258) hx hb dM_readSign_246 (by decide) (fun c246 => ?_) (fun c246 => absurd c246 (by decide))
        refine lv_aload_n hx hb dM_readSign_258 rfl (lv_at hl 1 rfl) ?_
        refine gM15 S hw dM_readSign_259 ?_
        refine kz_top (y := nI p) h15 ?_
        refine lv_iconst (v := 1) hx hb dM_readSign_262 (by decide) ?_
        refine lv_iadd hx hb dM_readSign_263 ?_
        refine kz_top (y := nI (p + 1)) (nI_add p 1) ?_
        refine pM19 S hw dM_readSign_264 (fun H locs hw => ?_)
        exact MM.vret S hr hlk hw dM_readSign_267 ⟨rfl, rkP.ok (k := 3) (by unfold scG; rw [if_neg h2, if_pos ((one_iff _).mpr (by simp [c125]))]) (by decide) (fun k a b c => by simp [upd, a, b, c]) rfl rfl (fun q => absurd q (by decide))⟩
      · skip
        refine lv_iload_n hx hb dM_readSign_128 rfl (lv_at hl 1 rfl) ?_
        refine lv_bipush (v := 44) hx hb dM_readSign_129 (by decide) ?_
        refine lv_icmp_eq (tgt := 218) hx hb dM_readSign_131 (by decide) (fun c131 => ?_) (fun c131 => ?_)
        · skip
          refine lv_iconst (v := 1) hx hb dM_readSign_218 (by decide) ?_
          refine lv_goto (tgt := 223) hx hb dM_readSign_219 (by decide) ?_
          refine lv_istore (lv' := [(4, .int 1), (0, .ref h), (1, .int (T p)), (3, .int 0)]) hx hb dM_readSign_223 hl (by decide) rfl (fun ls hl => ?_)
          refine lv_aload_n hx hb dM_readSign_225 rfl (lv_at hl 1 rfl) ?_
          refine lv_iload hx hb dM_readSign_226 (lv_at hl 0 rfl) ?_
          refine lv_if_ne (tgt := 235) hx hb dM_readSign_228 (by decide) (fun c228 => ?_) (fun c228 => absurd c228 (by decide))
          refine lv_iconst (v := 3) hx hb dM_readSign_235 (by decide) ?_
          refine lv_goto (tgt := 241) hx hb dM_readSign_236 (by decide) ?_
          refine pM17 S hw dM_readSign_241 (fun H locs hw => ?_)
          refine lv_aload_n hx hb dM_readSign_244 rfl (lv_at hl 1 rfl) ?_
          refine lv_iload_n hx hb dM_readSign_245 rfl (lv_at hl 3 rfl) ?_
          refine lv_if_eq (tgt := 258) hx hb dM_readSign_246 (by decide) (fun c246 => ?_) (fun c246 => absurd c246 (by decide))
          refine lv_aload_n hx hb dM_readSign_258 rfl (lv_at hl 1 rfl) ?_
          refine gM15 S hw dM_readSign_259 ?_
          refine kz_top (y := nI p) h15 ?_
          refine lv_iconst (v := 1) hx hb dM_readSign_262 (by decide) ?_
          refine lv_iadd hx hb dM_readSign_263 ?_
          refine kz_top (y := nI (p + 1)) (nI_add p 1) ?_
          refine pM19 S hw dM_readSign_264 (fun H locs hw => ?_)
          exact MM.vret S hr hlk hw dM_readSign_267 ⟨rfl, rkP.ok (k := 3) (by unfold scG; rw [if_neg h2, if_pos ((one_iff _).mpr (by simp [c131]))]) (by decide) (fun k a b c => by simp [upd, a, b, c]) rfl rfl (fun q => absurd q (by decide))⟩
        · skip
          refine lv_iload_n hx hb dM_readSign_134 rfl (lv_at hl 1 rfl) ?_
          refine lv_bipush (v := 59) hx hb dM_readSign_135 (by decide) ?_
          refine lv_icmp_eq (tgt := 218) hx hb dM_readSign_137 (by decide) (fun c137 => ?_) (fun c137 => ?_)
          · skip
            refine lv_iconst (v := 1) hx hb dM_readSign_218 (by decide) ?_
            refine lv_goto (tgt := 223) hx hb dM_readSign_219 (by decide) ?_
            refine lv_istore (lv' := [(4, .int 1), (0, .ref h), (1, .int (T p)), (3, .int 0)]) hx hb dM_readSign_223 hl (by decide) rfl (fun ls hl => ?_)
            refine lv_aload_n hx hb dM_readSign_225 rfl (lv_at hl 1 rfl) ?_
            refine lv_iload hx hb dM_readSign_226 (lv_at hl 0 rfl) ?_
            refine lv_if_ne (tgt := 235) hx hb dM_readSign_228 (by decide) (fun c228 => ?_) (fun c228 => absurd c228 (by decide))
            refine lv_iconst (v := 3) hx hb dM_readSign_235 (by decide) ?_
            refine lv_goto (tgt := 241) hx hb dM_readSign_236 (by decide) ?_
            refine pM17 S hw dM_readSign_241 (fun H locs hw => ?_)
            refine lv_aload_n hx hb dM_readSign_244 rfl (lv_at hl 1 rfl) ?_
            refine lv_iload_n hx hb dM_readSign_245 rfl (lv_at hl 3 rfl) ?_
            refine lv_if_eq (tgt := 258) hx hb dM_readSign_246 (by decide) (fun c246 => ?_) (fun c246 => absurd c246 (by decide))
            refine lv_aload_n hx hb dM_readSign_258 rfl (lv_at hl 1 rfl) ?_
            refine gM15 S hw dM_readSign_259 ?_
            refine kz_top (y := nI p) h15 ?_
            refine lv_iconst (v := 1) hx hb dM_readSign_262 (by decide) ?_
            refine lv_iadd hx hb dM_readSign_263 ?_
            refine kz_top (y := nI (p + 1)) (nI_add p 1) ?_
            refine pM19 S hw dM_readSign_264 (fun H locs hw => ?_)
            exact MM.vret S hr hlk hw dM_readSign_267 ⟨rfl, rkP.ok (k := 3) (by unfold scG; rw [if_neg h2, if_pos ((one_iff _).mpr (by simp [c137]))]) (by decide) (fun k a b c => by simp [upd, a, b, c]) rfl rfl (fun q => absurd q (by decide))⟩
          · skip
            refine lv_iload_n hx hb dM_readSign_140 rfl (lv_at hl 1 rfl) ?_
            refine lv_bipush (v := 58) hx hb dM_readSign_141 (by decide) ?_
            refine lv_icmp_eq (tgt := 218) hx hb dM_readSign_143 (by decide) (fun c143 => ?_) (fun c143 => ?_)
            · skip
              refine lv_iconst (v := 1) hx hb dM_readSign_218 (by decide) ?_
              refine lv_goto (tgt := 223) hx hb dM_readSign_219 (by decide) ?_
              refine lv_istore (lv' := [(4, .int 1), (0, .ref h), (1, .int (T p)), (3, .int 0)]) hx hb dM_readSign_223 hl (by decide) rfl (fun ls hl => ?_)
              refine lv_aload_n hx hb dM_readSign_225 rfl (lv_at hl 1 rfl) ?_
              refine lv_iload hx hb dM_readSign_226 (lv_at hl 0 rfl) ?_
              refine lv_if_ne (tgt := 235) hx hb dM_readSign_228 (by decide) (fun c228 => ?_) (fun c228 => absurd c228 (by decide))
              refine lv_iconst (v := 3) hx hb dM_readSign_235 (by decide) ?_
              refine lv_goto (tgt := 241) hx hb dM_readSign_236 (by decide) ?_
              refine pM17 S hw dM_readSign_241 (fun H locs hw => ?_)
              refine lv_aload_n hx hb dM_readSign_244 rfl (lv_at hl 1 rfl) ?_
              refine lv_iload_n hx hb dM_readSign_245 rfl (lv_at hl 3 rfl) ?_
              refine lv_if_eq (tgt := 258) hx hb dM_readSign_246 (by decide) (fun c246 => ?_) (fun c246 => absurd c246 (by decide))
              refine lv_aload_n hx hb dM_readSign_258 rfl (lv_at hl 1 rfl) ?_
              refine gM15 S hw dM_readSign_259 ?_
              refine kz_top (y := nI p) h15 ?_
              refine lv_iconst (v := 1) hx hb dM_readSign_262 (by decide) ?_
              refine lv_iadd hx hb dM_readSign_263 ?_
              refine kz_top (y := nI (p + 1)) (nI_add p 1) ?_
              refine pM19 S hw dM_readSign_264 (fun H locs hw => ?_)
              exact MM.vret S hr hlk hw dM_readSign_267 ⟨rfl, rkP.ok (k := 3) (by unfold scG; rw [if_neg h2, if_pos ((one_iff _).mpr (by simp [c143]))]) (by decide) (fun k a b c => by simp [upd, a, b, c]) rfl rfl (fun q => absurd q (by decide))⟩
            · skip
              refine lv_iload_n hx hb dM_readSign_146 rfl (lv_at hl 1 rfl) ?_
              refine lv_bipush (v := 33) hx hb dM_readSign_147 (by decide) ?_
              refine lv_icmp_eq (tgt := 218) hx hb dM_readSign_149 (by decide) (fun c149 => ?_) (fun c149 => ?_)
              · skip
                refine lv_iconst (v := 1) hx hb dM_readSign_218 (by decide) ?_
                refine lv_goto (tgt := 223) hx hb dM_readSign_219 (by decide) ?_
                refine lv_istore (lv' := [(4, .int 1), (0, .ref h), (1, .int (T p)), (3, .int 0)]) hx hb dM_readSign_223 hl (by decide) rfl (fun ls hl => ?_)
                refine lv_aload_n hx hb dM_readSign_225 rfl (lv_at hl 1 rfl) ?_
                refine lv_iload hx hb dM_readSign_226 (lv_at hl 0 rfl) ?_
                refine lv_if_ne (tgt := 235) hx hb dM_readSign_228 (by decide) (fun c228 => ?_) (fun c228 => absurd c228 (by decide))
                refine lv_iconst (v := 3) hx hb dM_readSign_235 (by decide) ?_
                refine lv_goto (tgt := 241) hx hb dM_readSign_236 (by decide) ?_
                refine pM17 S hw dM_readSign_241 (fun H locs hw => ?_)
                refine lv_aload_n hx hb dM_readSign_244 rfl (lv_at hl 1 rfl) ?_
                refine lv_iload_n hx hb dM_readSign_245 rfl (lv_at hl 3 rfl) ?_
                refine lv_if_eq (tgt := 258) hx hb dM_readSign_246 (by decide) (fun c246 => ?_) (fun c246 => absurd c246 (by decide))
                refine lv_aload_n hx hb dM_readSign_258 rfl (lv_at hl 1 rfl) ?_
                refine gM15 S hw dM_readSign_259 ?_
                refine kz_top (y := nI p) h15 ?_
                refine lv_iconst (v := 1) hx hb dM_readSign_262 (by decide) ?_
                refine lv_iadd hx hb dM_readSign_263 ?_
                refine kz_top (y := nI (p + 1)) (nI_add p 1) ?_
                refine pM19 S hw dM_readSign_264 (fun H locs hw => ?_)
                exact MM.vret S hr hlk hw dM_readSign_267 ⟨rfl, rkP.ok (k := 3) (by unfold scG; rw [if_neg h2, if_pos ((one_iff _).mpr (by simp [c149]))]) (by decide) (fun k a b c => by simp [upd, a, b, c]) rfl rfl (fun q => absurd q (by decide))⟩
              · skip
                refine lv_iload_n hx hb dM_readSign_152 rfl (lv_at hl 1 rfl) ?_
                refine lv_bipush (v := 64) hx hb dM_readSign_153 (by decide) ?_
                refine lv_icmp_eq (tgt := 218) hx hb dM_readSign_155 (by decide) (fun c155 => ?_) (fun c155 => ?_)
                · skip
                  refine lv_iconst (v := 1) hx hb dM_readSign_218 (by decide) ?_
                  refine lv_goto (tgt := 223) hx hb dM_readSign_219 (by decide) ?_
                  refine lv_istore (lv' := [(4, .int 1), (0, .ref h), (1, .int (T p)), (3, .int 0)]) hx hb dM_readSign_223 hl (by decide) rfl (fun ls hl => ?_)
                  refine lv_aload_n hx hb dM_readSign_225 rfl (lv_at hl 1 rfl) ?_
                  refine lv_iload hx hb dM_readSign_226 (lv_at hl 0 rfl) ?_
                  refine lv_if_ne (tgt := 235) hx hb dM_readSign_228 (by decide) (fun c228 => ?_) (fun c228 => absurd c228 (by decide))
                  refine lv_iconst (v := 3) hx hb dM_readSign_235 (by decide) ?_
                  refine lv_goto (tgt := 241) hx hb dM_readSign_236 (by decide) ?_
                  refine pM17 S hw dM_readSign_241 (fun H locs hw => ?_)
                  refine lv_aload_n hx hb dM_readSign_244 rfl (lv_at hl 1 rfl) ?_
                  refine lv_iload_n hx hb dM_readSign_245 rfl (lv_at hl 3 rfl) ?_
                  refine lv_if_eq (tgt := 258) hx hb dM_readSign_246 (by decide) (fun c246 => ?_) (fun c246 => absurd c246 (by decide))
                  refine lv_aload_n hx hb dM_readSign_258 rfl (lv_at hl 1 rfl) ?_
                  refine gM15 S hw dM_readSign_259 ?_
                  refine kz_top (y := nI p) h15 ?_
                  refine lv_iconst (v := 1) hx hb dM_readSign_262 (by decide) ?_
                  refine lv_iadd hx hb dM_readSign_263 ?_
                  refine kz_top (y := nI (p + 1)) (nI_add p 1) ?_
                  refine pM19 S hw dM_readSign_264 (fun H locs hw => ?_)
                  exact MM.vret S hr hlk hw dM_readSign_267 ⟨rfl, rkP.ok (k := 3) (by unfold scG; rw [if_neg h2, if_pos ((one_iff _).mpr (by simp [c155]))]) (by decide) (fun k a b c => by simp [upd, a, b, c]) rfl rfl (fun q => absurd q (by decide))⟩
                · skip
                  refine lv_iload_n hx hb dM_readSign_158 rfl (lv_at hl 1 rfl) ?_
                  refine lv_bipush (v := 43) hx hb dM_readSign_159 (by decide) ?_
                  refine lv_icmp_eq (tgt := 218) hx hb dM_readSign_161 (by decide) (fun c161 => ?_) (fun c161 => ?_)
                  · skip
                    refine lv_iconst (v := 1) hx hb dM_readSign_218 (by decide) ?_
                    refine lv_goto (tgt := 223) hx hb dM_readSign_219 (by decide) ?_
                    refine lv_istore (lv' := [(4, .int 1), (0, .ref h), (1, .int (T p)), (3, .int 0)]) hx hb dM_readSign_223 hl (by decide) rfl (fun ls hl => ?_)
                    refine lv_aload_n hx hb dM_readSign_225 rfl (lv_at hl 1 rfl) ?_
                    refine lv_iload hx hb dM_readSign_226 (lv_at hl 0 rfl) ?_
                    refine lv_if_ne (tgt := 235) hx hb dM_readSign_228 (by decide) (fun c228 => ?_) (fun c228 => absurd c228 (by decide))
                    refine lv_iconst (v := 3) hx hb dM_readSign_235 (by decide) ?_
                    refine lv_goto (tgt := 241) hx hb dM_readSign_236 (by decide) ?_
                    refine pM17 S hw dM_readSign_241 (fun H locs hw => ?_)
                    refine lv_aload_n hx hb dM_readSign_244 rfl (lv_at hl 1 rfl) ?_
                    refine lv_iload_n hx hb dM_readSign_245 rfl (lv_at hl 3 rfl) ?_
                    refine lv_if_eq (tgt := 258) hx hb dM_readSign_246 (by decide) (fun c246 => ?_) (fun c246 => absurd c246 (by decide))
                    refine lv_aload_n hx hb dM_readSign_258 rfl (lv_at hl 1 rfl) ?_
                    refine gM15 S hw dM_readSign_259 ?_
                    refine kz_top (y := nI p) h15 ?_
                    refine lv_iconst (v := 1) hx hb dM_readSign_262 (by decide) ?_
                    refine lv_iadd hx hb dM_readSign_263 ?_
                    refine kz_top (y := nI (p + 1)) (nI_add p 1) ?_
                    refine pM19 S hw dM_readSign_264 (fun H locs hw => ?_)
                    exact MM.vret S hr hlk hw dM_readSign_267 ⟨rfl, rkP.ok (k := 3) (by unfold scG; rw [if_neg h2, if_pos ((one_iff _).mpr (by simp [c161]))]) (by decide) (fun k a b c => by simp [upd, a, b, c]) rfl rfl (fun q => absurd q (by decide))⟩
                  · skip
                    refine lv_iload_n hx hb dM_readSign_164 rfl (lv_at hl 1 rfl) ?_
                    refine lv_bipush (v := 45) hx hb dM_readSign_165 (by decide) ?_
                    refine lv_icmp_eq (tgt := 218) hx hb dM_readSign_167 (by decide) (fun c167 => ?_) (fun c167 => ?_)
                    · skip
                      refine lv_iconst (v := 1) hx hb dM_readSign_218 (by decide) ?_
                      refine lv_goto (tgt := 223) hx hb dM_readSign_219 (by decide) ?_
                      refine lv_istore (lv' := [(4, .int 1), (0, .ref h), (1, .int (T p)), (3, .int 0)]) hx hb dM_readSign_223 hl (by decide) rfl (fun ls hl => ?_)
                      refine lv_aload_n hx hb dM_readSign_225 rfl (lv_at hl 1 rfl) ?_
                      refine lv_iload hx hb dM_readSign_226 (lv_at hl 0 rfl) ?_
                      refine lv_if_ne (tgt := 235) hx hb dM_readSign_228 (by decide) (fun c228 => ?_) (fun c228 => absurd c228 (by decide))
                      refine lv_iconst (v := 3) hx hb dM_readSign_235 (by decide) ?_
                      refine lv_goto (tgt := 241) hx hb dM_readSign_236 (by decide) ?_
                      refine pM17 S hw dM_readSign_241 (fun H locs hw => ?_)
                      refine lv_aload_n hx hb dM_readSign_244 rfl (lv_at hl 1 rfl) ?_
                      refine lv_iload_n hx hb dM_readSign_245 rfl (lv_at hl 3 rfl) ?_
                      refine lv_if_eq (tgt := 258) hx hb dM_readSign_246 (by decide) (fun c246 => ?_) (fun c246 => absurd c246 (by decide))
                      refine lv_aload_n hx hb dM_readSign_258 rfl (lv_at hl 1 rfl) ?_
                      refine gM15 S hw dM_readSign_259 ?_
                      refine kz_top (y := nI p) h15 ?_
                      refine lv_iconst (v := 1) hx hb dM_readSign_262 (by decide) ?_
                      refine lv_iadd hx hb dM_readSign_263 ?_
                      refine kz_top (y := nI (p + 1)) (nI_add p 1) ?_
                      refine pM19 S hw dM_readSign_264 (fun H locs hw => ?_)
                      exact MM.vret S hr hlk hw dM_readSign_267 ⟨rfl, rkP.ok (k := 3) (by unfold scG; rw [if_neg h2, if_pos ((one_iff _).mpr (by simp [c167]))]) (by decide) (fun k a b c => by simp [upd, a, b, c]) rfl rfl (fun q => absurd q (by decide))⟩
                    · skip
                      refine lv_iload_n hx hb dM_readSign_170 rfl (lv_at hl 1 rfl) ?_
                      refine lv_bipush (v := 42) hx hb dM_readSign_171 (by decide) ?_
                      refine lv_icmp_eq (tgt := 218) hx hb dM_readSign_173 (by decide) (fun c173 => ?_) (fun c173 => ?_)
                      · skip
                        refine lv_iconst (v := 1) hx hb dM_readSign_218 (by decide) ?_
                        refine lv_goto (tgt := 223) hx hb dM_readSign_219 (by decide) ?_
                        refine lv_istore (lv' := [(4, .int 1), (0, .ref h), (1, .int (T p)), (3, .int 0)]) hx hb dM_readSign_223 hl (by decide) rfl (fun ls hl => ?_)
                        refine lv_aload_n hx hb dM_readSign_225 rfl (lv_at hl 1 rfl) ?_
                        refine lv_iload hx hb dM_readSign_226 (lv_at hl 0 rfl) ?_
                        refine lv_if_ne (tgt := 235) hx hb dM_readSign_228 (by decide) (fun c228 => ?_) (fun c228 => absurd c228 (by decide))
                        refine lv_iconst (v := 3) hx hb dM_readSign_235 (by decide) ?_
                        refine lv_goto (tgt := 241) hx hb dM_readSign_236 (by decide) ?_
                        refine pM17 S hw dM_readSign_241 (fun H locs hw => ?_)
                        refine lv_aload_n hx hb dM_readSign_244 rfl (lv_at hl 1 rfl) ?_
                        refine lv_iload_n hx hb dM_readSign_245 rfl (lv_at hl 3 rfl) ?_
                        refine lv_if_eq (tgt := 258) hx hb dM_readSign_246 (by decide) (fun c246 => ?_) (fun c246 => absurd c246 (by decide))
                        refine lv_aload_n hx hb dM_readSign_258 rfl (lv_at hl 1 rfl) ?_
                        refine gM15 S hw dM_readSign_259 ?_
                        refine kz_top (y := nI p) h15 ?_
                        refine lv_iconst (v := 1) hx hb dM_readSign_262 (by decide) ?_
                        refine lv_iadd hx hb dM_readSign_263 ?_
                        refine kz_top (y := nI (p + 1)) (nI_add p 1) ?_
                        refine pM19 S hw dM_readSign_264 (fun H locs hw => ?_)
                        exact MM.vret S hr hlk hw dM_readSign_267 ⟨rfl, rkP.ok (k := 3) (by unfold scG; rw [if_neg h2, if_pos ((one_iff _).mpr (by simp [c173]))]) (by decide) (fun k a b c => by simp [upd, a, b, c]) rfl rfl (fun q => absurd q (by decide))⟩
                      · skip
                        refine lv_iload_n hx hb dM_readSign_176 rfl (lv_at hl 1 rfl) ?_
                        refine lv_bipush (v := 47) hx hb dM_readSign_177 (by decide) ?_
                        refine lv_icmp_eq (tgt := 218) hx hb dM_readSign_179 (by decide) (fun c179 => ?_) (fun c179 => ?_)
                        · skip
                          refine lv_iconst (v := 1) hx hb dM_readSign_218 (by decide) ?_
                          refine lv_goto (tgt := 223) hx hb dM_readSign_219 (by decide) ?_
                          refine lv_istore (lv' := [(4, .int 1), (0, .ref h), (1, .int (T p)), (3, .int 0)]) hx hb dM_readSign_223 hl (by decide) rfl (fun ls hl => ?_)
                          refine lv_aload_n hx hb dM_readSign_225 rfl (lv_at hl 1 rfl) ?_
                          refine lv_iload hx hb dM_readSign_226 (lv_at hl 0 rfl) ?_
                          refine lv_if_ne (tgt := 235) hx hb dM_readSign_228 (by decide) (fun c228 => ?_) (fun c228 => absurd c228 (by decide))
                          refine lv_iconst (v := 3) hx hb dM_readSign_235 (by decide) ?_
                          refine lv_goto (tgt := 241) hx hb dM_readSign_236 (by decide) ?_
                          refine pM17 S hw dM_readSign_241 (fun H locs hw => ?_)
                          refine lv_aload_n hx hb dM_readSign_244 rfl (lv_at hl 1 rfl) ?_
                          refine lv_iload_n hx hb dM_readSign_245 rfl (lv_at hl 3 rfl) ?_
                          refine lv_if_eq (tgt := 258) hx hb dM_readSign_246 (by decide) (fun c246 => ?_) (fun c246 => absurd c246 (by decide))
                          refine lv_aload_n hx hb dM_readSign_258 rfl (lv_at hl 1 rfl) ?_
                          refine gM15 S hw dM_readSign_259 ?_
                          refine kz_top (y := nI p) h15 ?_
                          refine lv_iconst (v := 1) hx hb dM_readSign_262 (by decide) ?_
                          refine lv_iadd hx hb dM_readSign_263 ?_
                          refine kz_top (y := nI (p + 1)) (nI_add p 1) ?_
                          refine pM19 S hw dM_readSign_264 (fun H locs hw => ?_)
                          exact MM.vret S hr hlk hw dM_readSign_267 ⟨rfl, rkP.ok (k := 3) (by unfold scG; rw [if_neg h2, if_pos ((one_iff _).mpr (by simp [c179]))]) (by decide) (fun k a b c => by simp [upd, a, b, c]) rfl rfl (fun q => absurd q (by decide))⟩
                        · skip
                          refine lv_iload_n hx hb dM_readSign_182 rfl (lv_at hl 1 rfl) ?_
                          refine lv_bipush (v := 61) hx hb dM_readSign_183 (by decide) ?_
                          refine lv_icmp_eq (tgt := 218) hx hb dM_readSign_185 (by decide) (fun c185 => ?_) (fun c185 => ?_)
                          · skip
                            refine lv_iconst (v := 1) hx hb dM_readSign_218 (by decide) ?_
                            refine lv_goto (tgt := 223) hx hb dM_readSign_219 (by decide) ?_
                            refine lv_istore (lv' := [(4, .int 1), (0, .ref h), (1, .int (T p)), (3, .int 0)]) hx hb dM_readSign_223 hl (by decide) rfl (fun ls hl => ?_)
                            refine lv_aload_n hx hb dM_readSign_225 rfl (lv_at hl 1 rfl) ?_
                            refine lv_iload hx hb dM_readSign_226 (lv_at hl 0 rfl) ?_
                            refine lv_if_ne (tgt := 235) hx hb dM_readSign_228 (by decide) (fun c228 => ?_) (fun c228 => absurd c228 (by decide))
                            refine lv_iconst (v := 3) hx hb dM_readSign_235 (by decide) ?_
                            refine lv_goto (tgt := 241) hx hb dM_readSign_236 (by decide) ?_
                            refine pM17 S hw dM_readSign_241 (fun H locs hw => ?_)
                            refine lv_aload_n hx hb dM_readSign_244 rfl (lv_at hl 1 rfl) ?_
                            refine lv_iload_n hx hb dM_readSign_245 rfl (lv_at hl 3 rfl) ?_
                            refine lv_if_eq (tgt := 258) hx hb dM_readSign_246 (by decide) (fun c246 => ?_) (fun c246 => absurd c246 (by decide))
                            refine lv_aload_n hx hb dM_readSign_258 rfl (lv_at hl 1 rfl) ?_
                            refine gM15 S hw dM_readSign_259 ?_
                            refine kz_top (y := nI p) h15 ?_
                            refine lv_iconst (v := 1) hx hb dM_readSign_262 (by decide) ?_
                            refine lv_iadd hx hb dM_readSign_263 ?_
                            refine kz_top (y := nI (p + 1)) (nI_add p 1) ?_
                            refine pM19 S hw dM_readSign_264 (fun H locs hw => ?_)
                            exact MM.vret S hr hlk hw dM_readSign_267 ⟨rfl, rkP.ok (k := 3) (by unfold scG; rw [if_neg h2, if_pos ((one_iff _).mpr (by simp [c185]))]) (by decide) (fun k a b c => by simp [upd, a, b, c]) rfl rfl (fun q => absurd q (by decide))⟩
                          · skip
                            refine lv_iload_n hx hb dM_readSign_188 rfl (lv_at hl 1 rfl) ?_
                            refine lv_bipush (v := 60) hx hb dM_readSign_189 (by decide) ?_
                            refine lv_icmp_eq (tgt := 218) hx hb dM_readSign_191 (by decide) (fun c191 => ?_) (fun c191 => ?_)
                            · skip
                              refine lv_iconst (v := 1) hx hb dM_readSign_218 (by decide) ?_
                              refine lv_goto (tgt := 223) hx hb dM_readSign_219 (by decide) ?_
                              refine lv_istore (lv' := [(4, .int 1), (0, .ref h), (1, .int (T p)), (3, .int 0)]) hx hb dM_readSign_223 hl (by decide) rfl (fun ls hl => ?_)
                              refine lv_aload_n hx hb dM_readSign_225 rfl (lv_at hl 1 rfl) ?_
                              refine lv_iload hx hb dM_readSign_226 (lv_at hl 0 rfl) ?_
                              refine lv_if_ne (tgt := 235) hx hb dM_readSign_228 (by decide) (fun c228 => ?_) (fun c228 => absurd c228 (by decide))
                              refine lv_iconst (v := 3) hx hb dM_readSign_235 (by decide) ?_
                              refine lv_goto (tgt := 241) hx hb dM_readSign_236 (by decide) ?_
                              refine pM17 S hw dM_readSign_241 (fun H locs hw => ?_)
                              refine lv_aload_n hx hb dM_readSign_244 rfl (lv_at hl 1 rfl) ?_
                              refine lv_iload_n hx hb dM_readSign_245 rfl (lv_at hl 3 rfl) ?_
                              refine lv_if_eq (tgt := 258) hx hb dM_readSign_246 (by decide) (fun c246 => ?_) (fun c246 => absurd c246 (by decide))
                              refine lv_aload_n hx hb dM_readSign_258 rfl (lv_at hl 1 rfl) ?_
                              refine gM15 S hw dM_readSign_259 ?_
                              refine kz_top (y := nI p) h15 ?_
                              refine lv_iconst (v := 1) hx hb dM_readSign_262 (by decide) ?_
                              refine lv_iadd hx hb dM_readSign_263 ?_
                              refine kz_top (y := nI (p + 1)) (nI_add p 1) ?_
                              refine pM19 S hw dM_readSign_264 (fun H locs hw => ?_)
                              exact MM.vret S hr hlk hw dM_readSign_267 ⟨rfl, rkP.ok (k := 3) (by unfold scG; rw [if_neg h2, if_pos ((one_iff _).mpr (by simp [c191]))]) (by decide) (fun k a b c => by simp [upd, a, b, c]) rfl rfl (fun q => absurd q (by decide))⟩
                            · skip
                              refine lv_iload_n hx hb dM_readSign_194 rfl (lv_at hl 1 rfl) ?_
                              refine lv_bipush (v := 62) hx hb dM_readSign_195 (by decide) ?_
                              refine lv_icmp_eq (tgt := 218) hx hb dM_readSign_197 (by decide) (fun c197 => ?_) (fun c197 => ?_)
                              · skip
                                refine lv_iconst (v := 1) hx hb dM_readSign_218 (by decide) ?_
                                refine lv_goto (tgt := 223) hx hb dM_readSign_219 (by decide) ?_
                                refine lv_istore (lv' := [(4, .int 1), (0, .ref h), (1, .int (T p)), (3, .int 0)]) hx hb dM_readSign_223 hl (by decide) rfl (fun ls hl => ?_)
                                refine lv_aload_n hx hb dM_readSign_225 rfl (lv_at hl 1 rfl) ?_
                                refine lv_iload hx hb dM_readSign_226 (lv_at hl 0 rfl) ?_
                                refine lv_if_ne (tgt := 235) hx hb dM_readSign_228 (by decide) (fun c228 => ?_) (fun c228 => absurd c228 (by decide))
                                refine lv_iconst (v := 3) hx hb dM_readSign_235 (by decide) ?_
                                refine lv_goto (tgt := 241) hx hb dM_readSign_236 (by decide) ?_
                                refine pM17 S hw dM_readSign_241 (fun H locs hw => ?_)
                                refine lv_aload_n hx hb dM_readSign_244 rfl (lv_at hl 1 rfl) ?_
                                refine lv_iload_n hx hb dM_readSign_245 rfl (lv_at hl 3 rfl) ?_
                                refine lv_if_eq (tgt := 258) hx hb dM_readSign_246 (by decide) (fun c246 => ?_) (fun c246 => absurd c246 (by decide))
                                refine lv_aload_n hx hb dM_readSign_258 rfl (lv_at hl 1 rfl) ?_
                                refine gM15 S hw dM_readSign_259 ?_
                                refine kz_top (y := nI p) h15 ?_
                                refine lv_iconst (v := 1) hx hb dM_readSign_262 (by decide) ?_
                                refine lv_iadd hx hb dM_readSign_263 ?_
                                refine kz_top (y := nI (p + 1)) (nI_add p 1) ?_
                                refine pM19 S hw dM_readSign_264 (fun H locs hw => ?_)
                                exact MM.vret S hr hlk hw dM_readSign_267 ⟨rfl, rkP.ok (k := 3) (by unfold scG; rw [if_neg h2, if_pos ((one_iff _).mpr (by simp [c197]))]) (by decide) (fun k a b c => by simp [upd, a, b, c]) rfl rfl (fun q => absurd q (by decide))⟩
                              · skip
                                refine lv_iload_n hx hb dM_readSign_200 rfl (lv_at hl 1 rfl) ?_
                                refine lv_bipush (v := 126) hx hb dM_readSign_201 (by decide) ?_
                                refine lv_icmp_eq (tgt := 218) hx hb dM_readSign_203 (by decide) (fun c203 => ?_) (fun c203 => ?_)
                                · skip
                                  refine lv_iconst (v := 1) hx hb dM_readSign_218 (by decide) ?_
                                  refine lv_goto (tgt := 223) hx hb dM_readSign_219 (by decide) ?_
                                  refine lv_istore (lv' := [(4, .int 1), (0, .ref h), (1, .int (T p)), (3, .int 0)]) hx hb dM_readSign_223 hl (by decide) rfl (fun ls hl => ?_)
                                  refine lv_aload_n hx hb dM_readSign_225 rfl (lv_at hl 1 rfl) ?_
                                  refine lv_iload hx hb dM_readSign_226 (lv_at hl 0 rfl) ?_
                                  refine lv_if_ne (tgt := 235) hx hb dM_readSign_228 (by decide) (fun c228 => ?_) (fun c228 => absurd c228 (by decide))
                                  refine lv_iconst (v := 3) hx hb dM_readSign_235 (by decide) ?_
                                  refine lv_goto (tgt := 241) hx hb dM_readSign_236 (by decide) ?_
                                  refine pM17 S hw dM_readSign_241 (fun H locs hw => ?_)
                                  refine lv_aload_n hx hb dM_readSign_244 rfl (lv_at hl 1 rfl) ?_
                                  refine lv_iload_n hx hb dM_readSign_245 rfl (lv_at hl 3 rfl) ?_
                                  refine lv_if_eq (tgt := 258) hx hb dM_readSign_246 (by decide) (fun c246 => ?_) (fun c246 => absurd c246 (by decide))
                                  refine lv_aload_n hx hb dM_readSign_258 rfl (lv_at hl 1 rfl) ?_
                                  refine gM15 S hw dM_readSign_259 ?_
                                  refine kz_top (y := nI p) h15 ?_
                                  refine lv_iconst (v := 1) hx hb dM_readSign_262 (by decide) ?_
                                  refine lv_iadd hx hb dM_readSign_263 ?_
                                  refine kz_top (y := nI (p + 1)) (nI_add p 1) ?_
                                  refine pM19 S hw dM_readSign_264 (fun H locs hw => ?_)
                                  exact MM.vret S hr hlk hw dM_readSign_267 ⟨rfl, rkP.ok (k := 3) (by unfold scG; rw [if_neg h2, if_pos ((one_iff _).mpr (by simp [c203]))]) (by decide) (fun k a b c => by simp [upd, a, b, c]) rfl rfl (fun q => absurd q (by decide))⟩
                                · skip
                                  refine lv_iload_n hx hb dM_readSign_206 rfl (lv_at hl 1 rfl) ?_
                                  refine lv_bipush (v := 38) hx hb dM_readSign_207 (by decide) ?_
                                  refine lv_icmp_eq (tgt := 218) hx hb dM_readSign_209 (by decide) (fun c209 => ?_) (fun c209 => ?_)
                                  · skip
                                    refine lv_iconst (v := 1) hx hb dM_readSign_218 (by decide) ?_
                                    refine lv_goto (tgt := 223) hx hb dM_readSign_219 (by decide) ?_
                                    refine lv_istore (lv' := [(4, .int 1), (0, .ref h), (1, .int (T p)), (3, .int 0)]) hx hb dM_readSign_223 hl (by decide) rfl (fun ls hl => ?_)
                                    refine lv_aload_n hx hb dM_readSign_225 rfl (lv_at hl 1 rfl) ?_
                                    refine lv_iload hx hb dM_readSign_226 (lv_at hl 0 rfl) ?_
                                    refine lv_if_ne (tgt := 235) hx hb dM_readSign_228 (by decide) (fun c228 => ?_) (fun c228 => absurd c228 (by decide))
                                    refine lv_iconst (v := 3) hx hb dM_readSign_235 (by decide) ?_
                                    refine lv_goto (tgt := 241) hx hb dM_readSign_236 (by decide) ?_
                                    refine pM17 S hw dM_readSign_241 (fun H locs hw => ?_)
                                    refine lv_aload_n hx hb dM_readSign_244 rfl (lv_at hl 1 rfl) ?_
                                    refine lv_iload_n hx hb dM_readSign_245 rfl (lv_at hl 3 rfl) ?_
                                    refine lv_if_eq (tgt := 258) hx hb dM_readSign_246 (by decide) (fun c246 => ?_) (fun c246 => absurd c246 (by decide))
                                    refine lv_aload_n hx hb dM_readSign_258 rfl (lv_at hl 1 rfl) ?_
                                    refine gM15 S hw dM_readSign_259 ?_
                                    refine kz_top (y := nI p) h15 ?_
                                    refine lv_iconst (v := 1) hx hb dM_readSign_262 (by decide) ?_
                                    refine lv_iadd hx hb dM_readSign_263 ?_
                                    refine kz_top (y := nI (p + 1)) (nI_add p 1) ?_
                                    refine pM19 S hw dM_readSign_264 (fun H locs hw => ?_)
                                    exact MM.vret S hr hlk hw dM_readSign_267 ⟨rfl, rkP.ok (k := 3) (by unfold scG; rw [if_neg h2, if_pos ((one_iff _).mpr (by simp [c209]))]) (by decide) (fun k a b c => by simp [upd, a, b, c]) rfl rfl (fun q => absurd q (by decide))⟩
                                  · skip
                                    refine lv_iload_n hx hb dM_readSign_212 rfl (lv_at hl 1 rfl) ?_
                                    refine lv_bipush (v := 124) hx hb dM_readSign_213 (by decide) ?_
                                    refine lv_icmp_ne (tgt := 222) hx hb dM_readSign_215 (by decide) (fun c215 => ?_) (fun c215 => ?_)
                                    · skip
                                      refine lv_iconst (v := 0) hx hb dM_readSign_222 (by decide) ?_
                                      refine lv_istore (lv' := [(4, .int 0), (0, .ref h), (1, .int (T p)), (3, .int 0)]) hx hb dM_readSign_223 hl (by decide) rfl (fun ls hl => ?_)
                                      refine lv_aload_n hx hb dM_readSign_225 rfl (lv_at hl 1 rfl) ?_
                                      refine lv_iload hx hb dM_readSign_226 (lv_at hl 0 rfl) ?_
                                      refine lv_if_ne (tgt := 235) hx hb dM_readSign_228 (by decide) (fun c228 => absurd c228 (by decide)) (fun c228 => ?_)
                                      refine lv_iload_n hx hb dM_readSign_231 rfl (lv_at hl 3 rfl) ?_
                                      refine lv_if_eq (tgt := 239) hx hb dM_readSign_232 (by decide) (fun c232 => ?_) (fun c232 => absurd c232 (by decide))
                                      refine lv_bipush (v := 6) hx hb dM_readSign_239 (by decide) ?_
                                      refine pM17 S hw dM_readSign_241 (fun H locs hw => ?_)
                                      refine lv_aload_n hx hb dM_readSign_244 rfl (lv_at hl 1 rfl) ?_
                                      refine lv_iload_n hx hb dM_readSign_245 rfl (lv_at hl 3 rfl) ?_
                                      refine lv_if_eq (tgt := 258) hx hb dM_readSign_246 (by decide) (fun c246 => ?_) (fun c246 => absurd c246 (by decide))
                                      refine lv_aload_n hx hb dM_readSign_258 rfl (lv_at hl 1 rfl) ?_
                                      refine gM15 S hw dM_readSign_259 ?_
                                      refine kz_top (y := nI p) h15 ?_
                                      refine lv_iconst (v := 1) hx hb dM_readSign_262 (by decide) ?_
                                      refine lv_iadd hx hb dM_readSign_263 ?_
                                      refine kz_top (y := nI (p + 1)) (nI_add p 1) ?_
                                      refine pM19 S hw dM_readSign_264 (fun H locs hw => ?_)
                                      exact MM.vret S hr hlk hw dM_readSign_267 ⟨rfl, rkP.bad (by unfold scG; rw [if_neg h2, if_neg (fun q => by have q := (one_iff _).mp q; simp [c119, c125, c131, c137, c143, c149, c155, c161, c167, c173, c179, c185, c191, c197, c203, c209, c215] at q)]) (fun k a b c => by simp [upd, a, b, c]) rfl⟩
                                    · skip
                                      refine lv_iconst (v := 1) hx hb dM_readSign_218 (by decide) ?_
                                      refine lv_goto (tgt := 223) hx hb dM_readSign_219 (by decide) ?_
                                      refine lv_istore (lv' := [(4, .int 1), (0, .ref h), (1, .int (T p)), (3, .int 0)]) hx hb dM_readSign_223 hl (by decide) rfl (fun ls hl => ?_)
                                      refine lv_aload_n hx hb dM_readSign_225 rfl (lv_at hl 1 rfl) ?_
                                      refine lv_iload hx hb dM_readSign_226 (lv_at hl 0 rfl) ?_
                                      refine lv_if_ne (tgt := 235) hx hb dM_readSign_228 (by decide) (fun c228 => ?_) (fun c228 => absurd c228 (by decide))
                                      refine lv_iconst (v := 3) hx hb dM_readSign_235 (by decide) ?_
                                      refine lv_goto (tgt := 241) hx hb dM_readSign_236 (by decide) ?_
                                      refine pM17 S hw dM_readSign_241 (fun H locs hw => ?_)
                                      refine lv_aload_n hx hb dM_readSign_244 rfl (lv_at hl 1 rfl) ?_
                                      refine lv_iload_n hx hb dM_readSign_245 rfl (lv_at hl 3 rfl) ?_
                                      refine lv_if_eq (tgt := 258) hx hb dM_readSign_246 (by decide) (fun c246 => ?_) (fun c246 => absurd c246 (by decide))
                                      refine lv_aload_n hx hb dM_readSign_258 rfl (lv_at hl 1 rfl) ?_
                                      refine gM15 S hw dM_readSign_259 ?_
                                      refine kz_top (y := nI p) h15 ?_
                                      refine lv_iconst (v := 1) hx hb dM_readSign_262 (by decide) ?_
                                      refine lv_iadd hx hb dM_readSign_263 ?_
                                      refine kz_top (y := nI (p + 1)) (nI_add p 1) ?_
                                      refine pM19 S hw dM_readSign_264 (fun H locs hw => ?_)
                                      exact MM.vret S hr hlk hw dM_readSign_267 ⟨rfl, rkP.ok (k := 3) (by unfold scG; rw [if_neg h2, if_pos ((one_iff _).mpr (by simp [c215]))]) (by decide) (fun k a b c => by simp [upd, a, b, c]) rfl rfl (fun q => absurd q (by decide))⟩
  refine lv_aload_n hx hb dM_readSign_0 rfl (lv_at hl 0 rfl) ?_
  refine lv_aload_n hx hb dM_readSign_1 rfl (lv_at hl 0 rfl) ?_
  refine gM15 S hw dM_readSign_2 ?_
  refine kz_top (y := nI p) h15 ?_
  refine kcMi (rest := []) S kM_74 rfl (tM_see l I F T n hT p (by omega)) hw hA ⟨Nat.le_of_ble_eq_true rfl, Nat.le_of_ble_eq_true rfl⟩ rfl rfl ⟨Nat.zero_le _, Nat.zero_le _⟩ rfl hl.1 (Nat.le_of_ble_eq_true rfl) dM_readSign_5 (fun r I' F' H locs hq hw => ?_)
  obtain ⟨hr1, hr2, hr3⟩ := hq
  rw [hr2, hr3] at hw
  subst hr1
  refine kz_top (see_in hp) ?_
  refine lv_istore_n (lv' := [(1, .int (T p)), (0, .ref h)]) hx hb dM_readSign_8 rfl hl (by decide) rfl (fun ls hl => ?_)
  refine lv_aload_n hx hb dM_readSign_9 rfl (lv_at hl 1 rfl) ?_
  refine lv_aload_n hx hb dM_readSign_10 rfl (lv_at hl 1 rfl) ?_
  refine gM15 S hw dM_readSign_11 ?_
  refine kz_top (y := nI p) h15 ?_
  refine lv_iconst (v := 1) hx hb dM_readSign_14 (by decide) ?_
  refine lv_iadd hx hb dM_readSign_15 ?_
  refine kz_top (y := nI (p + 1)) (nI_add p 1) ?_
  refine kcMi (rest := []) S kM_74 rfl (tM_see l I F T n hT (p + 1) (by omega)) hw hA ⟨Nat.le_of_ble_eq_true rfl, Nat.le_of_ble_eq_true rfl⟩ rfl rfl ⟨Nat.zero_le _, Nat.zero_le _⟩ rfl hl.1 (Nat.le_of_ble_eq_true rfl) dM_readSign_16 (fun r I' F' H locs hq hw => ?_)
  obtain ⟨hr1, hr2, hr3⟩ := hq
  rw [hr2, hr3] at hw
  subst hr1
  refine lv_istore_n (lv' := [(2, .int (seeT T n (p + 1))), (1, .int (T p)), (0, .ref h)]) hx hb dM_readSign_19 rfl hl (by decide) rfl (fun ls hl => ?_)
  refine lv_iload_n hx hb dM_readSign_20 rfl (lv_at hl 1 rfl) ?_
  refine lv_bipush (v := 36) hx hb dM_readSign_21 (by decide) ?_
  refine lv_icmp_ne (tgt := 38) hx hb dM_readSign_23 (by decide) (fun c23 => ?_) (fun c23 => ?_)
  · skip
    refine lv_iload_n hx hb dM_readSign_38 rfl (lv_at hl 1 rfl) ?_
    refine lv_bipush (v := 58) hx hb dM_readSign_39 (by decide) ?_
    refine lv_icmp_ne (tgt := 50) hx hb dM_readSign_41 (by decide) (fun c41 => ?_) (fun c41 => ?_)
    · skip
      refine lv_iload_n hx hb dM_readSign_50 rfl (lv_at hl 1 rfl) ?_
      refine lv_bipush (v := 126) hx hb dM_readSign_51 (by decide) ?_
      refine lv_icmp_ne (tgt := 62) hx hb dM_readSign_53 (by decide) (fun c53 => ?_) (fun c53 => ?_)
      · skip
        refine lv_iload_n hx hb dM_readSign_62 rfl (lv_at hl 1 rfl) ?_
        refine lv_bipush (v := 60) hx hb dM_readSign_63 (by decide) ?_
        refine lv_icmp_ne (tgt := 80) hx hb dM_readSign_65 (by decide) (fun c65 => ?_) (fun c65 => ?_)
        · skip
          refine lv_iload_n hx hb dM_readSign_80 rfl (lv_at hl 1 rfl) ?_
          refine lv_bipush (v := 62) hx hb dM_readSign_81 (by decide) ?_
          refine lv_icmp_ne (tgt := 98) hx hb dM_readSign_83 (by decide) (fun c83 => ?_) (fun c83 => ?_)
          · skip
            refine lv_iload_n hx hb dM_readSign_98 rfl (lv_at hl 1 rfl) ?_
            refine lv_bipush (v := 45) hx hb dM_readSign_99 (by decide) ?_
            refine lv_icmp_ne (tgt := 114) hx hb dM_readSign_101 (by decide) (fun c101 => ?_) (fun c101 => ?_)
            · skip
              refine lv_iconst (v := 0) hx hb dM_readSign_114 (by decide) ?_
              refine lv_istore_n (lv' := [(3, .int 0), (2, .int (seeT T n (p + 1))), (1, .int (T p)), (0, .ref h)]) hx hb dM_readSign_115 rfl hl (by decide) rfl (fun ls hl => ?_)
              exact cont0 H locs ls (fun q => by have q := (two_iff _ _).mp q; simp [c23, c41, c53, c65, c83, c101] at q) hw (lv_sub hl [3, 2, 0] rfl)
            · skip
              refine lv_iload_n hx hb dM_readSign_104 rfl (lv_at hl 0 rfl) ?_
              refine lv_bipush (v := 62) hx hb dM_readSign_105 (by decide) ?_
              refine lv_icmp_ne (tgt := 114) hx hb dM_readSign_107 (by decide) (fun c107 => ?_) (fun c107 => ?_)
              · skip
                refine lv_iconst (v := 0) hx hb dM_readSign_114 (by decide) ?_
                refine lv_istore_n (lv' := [(3, .int 0), (2, .int (seeT T n (p + 1))), (1, .int (T p)), (0, .ref h)]) hx hb dM_readSign_115 rfl hl (by decide) rfl (fun ls hl => ?_)
                exact cont0 H locs ls (fun q => by have q := (two_iff _ _).mp q; simp [c23, c41, c53, c65, c83, c101, c107] at q) hw (lv_sub hl [3, 2, 0] rfl)
              · skip
                refine lv_iconst (v := 1) hx hb dM_readSign_110 (by decide) ?_
                refine lv_goto (tgt := 115) hx hb dM_readSign_111 (by decide) ?_
                refine lv_istore_n (lv' := [(3, .int 1), (2, .int (seeT T n (p + 1))), (1, .int (T p)), (0, .ref h)]) hx hb dM_readSign_115 rfl hl (by decide) rfl (fun ls hl => ?_)
                exact cont1 H locs ls ((two_iff _ _).mpr (by simp [c23, c41, c53, c65, c83, c101, c107])) hw (lv_sub hl [3, 2, 0] rfl)
          · skip
            refine lv_iload_n hx hb dM_readSign_86 rfl (lv_at hl 0 rfl) ?_
            refine lv_bipush (v := 61) hx hb dM_readSign_87 (by decide) ?_
            refine lv_icmp_eq (tgt := 110) hx hb dM_readSign_89 (by decide) (fun c89 => ?_) (fun c89 => ?_)
            · skip
              refine lv_iconst (v := 1) hx hb dM_readSign_110 (by decide) ?_
              refine lv_goto (tgt := 115) hx hb dM_readSign_111 (by decide) ?_
              refine lv_istore_n (lv' := [(3, .int 1), (2, .int (seeT T n (p + 1))), (1, .int (T p)), (0, .ref h)]) hx hb dM_readSign_115 rfl hl (by decide) rfl (fun ls hl => ?_)
              exact cont1 H locs ls ((two_iff _ _).mpr (by simp [c23, c41, c53, c65, c83, c89])) hw (lv_sub hl [3, 2, 0] rfl)
            · skip
              refine lv_iload_n hx hb dM_readSign_92 rfl (lv_at hl 0 rfl) ?_
              refine lv_bipush (v := 62) hx hb dM_readSign_93 (by decide) ?_
              refine lv_icmp_eq (tgt := 110) hx hb dM_readSign_95 (by decide) (fun c95 => ?_) (fun c95 => ?_)
              · skip
                refine lv_iconst (v := 1) hx hb dM_readSign_110 (by decide) ?_
                refine lv_goto (tgt := 115) hx hb dM_readSign_111 (by decide) ?_
                refine lv_istore_n (lv' := [(3, .int 1), (2, .int (seeT T n (p + 1))), (1, .int (T p)), (0, .ref h)]) hx hb dM_readSign_115 rfl hl (by decide) rfl (fun ls hl => ?_)
                exact cont1 H locs ls ((two_iff _ _).mpr (by simp [c23, c41, c53, c65, c83, c89, c95])) hw (lv_sub hl [3, 2, 0] rfl)
              · skip
                refine lv_iload_n hx hb dM_readSign_98 rfl (lv_at hl 1 rfl) ?_
                refine lv_bipush (v := 45) hx hb dM_readSign_99 (by decide) ?_
                refine lv_icmp_ne (tgt := 114) hx hb dM_readSign_101 (by decide) (fun c101 => ?_) (fun c101 => absurd (c83.symm.trans c101) (by decide))
                refine lv_iconst (v := 0) hx hb dM_readSign_114 (by decide) ?_
                refine lv_istore_n (lv' := [(3, .int 0), (2, .int (seeT T n (p + 1))), (1, .int (T p)), (0, .ref h)]) hx hb dM_readSign_115 rfl hl (by decide) rfl (fun ls hl => ?_)
                exact cont0 H locs ls (fun q => by have q := (two_iff _ _).mp q; simp [c23, c41, c53, c65, c83, c89, c95] at q) hw (lv_sub hl [3, 2, 0] rfl)
        · skip
          refine lv_iload_n hx hb dM_readSign_68 rfl (lv_at hl 0 rfl) ?_
          refine lv_bipush (v := 61) hx hb dM_readSign_69 (by decide) ?_
          refine lv_icmp_eq (tgt := 110) hx hb dM_readSign_71 (by decide) (fun c71 => ?_) (fun c71 => ?_)
          · skip
            refine lv_iconst (v := 1) hx hb dM_readSign_110 (by decide) ?_
            refine lv_goto (tgt := 115) hx hb dM_readSign_111 (by decide) ?_
            refine lv_istore_n (lv' := [(3, .int 1), (2, .int (seeT T n (p + 1))), (1, .int (T p)), (0, .ref h)]) hx hb dM_readSign_115 rfl hl (by decide) rfl (fun ls hl => ?_)
            exact cont1 H locs ls ((two_iff _ _).mpr (by simp [c23, c41, c53, c65, c71])) hw (lv_sub hl [3, 2, 0] rfl)
          · skip
            refine lv_iload_n hx hb dM_readSign_74 rfl (lv_at hl 0 rfl) ?_
            refine lv_bipush (v := 60) hx hb dM_readSign_75 (by decide) ?_
            refine lv_icmp_eq (tgt := 110) hx hb dM_readSign_77 (by decide) (fun c77 => ?_) (fun c77 => ?_)
            · skip
              refine lv_iconst (v := 1) hx hb dM_readSign_110 (by decide) ?_
              refine lv_goto (tgt := 115) hx hb dM_readSign_111 (by decide) ?_
              refine lv_istore_n (lv' := [(3, .int 1), (2, .int (seeT T n (p + 1))), (1, .int (T p)), (0, .ref h)]) hx hb dM_readSign_115 rfl hl (by decide) rfl (fun ls hl => ?_)
              exact cont1 H locs ls ((two_iff _ _).mpr (by simp [c23, c41, c53, c65, c71, c77])) hw (lv_sub hl [3, 2, 0] rfl)
            · skip
              refine lv_iload_n hx hb dM_readSign_80 rfl (lv_at hl 1 rfl) ?_
              refine lv_bipush (v := 62) hx hb dM_readSign_81 (by decide) ?_
              refine lv_icmp_ne (tgt := 98) hx hb dM_readSign_83 (by decide) (fun c83 => ?_) (fun c83 => absurd (c65.symm.trans c83) (by decide))
              refine lv_iload_n hx hb dM_readSign_98 rfl (lv_at hl 1 rfl) ?_
              refine lv_bipush (v := 45) hx hb dM_readSign_99 (by decide) ?_
              refine lv_icmp_ne (tgt := 114) hx hb dM_readSign_101 (by decide) (fun c101 => ?_) (fun c101 => absurd (c65.symm.trans c101) (by decide))
              refine lv_iconst (v := 0) hx hb dM_readSign_114 (by decide) ?_
              refine lv_istore_n (lv' := [(3, .int 0), (2, .int (seeT T n (p + 1))), (1, .int (T p)), (0, .ref h)]) hx hb dM_readSign_115 rfl hl (by decide) rfl (fun ls hl => ?_)
              exact cont0 H locs ls (fun q => by have q := (two_iff _ _).mp q; simp [c23, c41, c53, c65, c71, c77] at q) hw (lv_sub hl [3, 2, 0] rfl)
      · skip
        refine lv_iload_n hx hb dM_readSign_56 rfl (lv_at hl 0 rfl) ?_
        refine lv_bipush (v := 61) hx hb dM_readSign_57 (by decide) ?_
        refine lv_icmp_eq (tgt := 110) hx hb dM_readSign_59 (by decide) (fun c59 => ?_) (fun c59 => ?_)
        · skip
          refine lv_iconst (v := 1) hx hb dM_readSign_110 (by decide) ?_
          refine lv_goto (tgt := 115) hx hb dM_readSign_111 (by decide) ?_
          refine lv_istore_n (lv' := [(3, .int 1), (2, .int (seeT T n (p + 1))), (1, .int (T p)), (0, .ref h)]) hx hb dM_readSign_115 rfl hl (by decide) rfl (fun ls hl => ?_)
          exact cont1 H locs ls ((two_iff _ _).mpr (by simp [c23, c41, c53, c59])) hw (lv_sub hl [3, 2, 0] rfl)
        · skip
          refine lv_iload_n hx hb dM_readSign_62 rfl (lv_at hl 1 rfl) ?_
          refine lv_bipush (v := 60) hx hb dM_readSign_63 (by decide) ?_
          refine lv_icmp_ne (tgt := 80) hx hb dM_readSign_65 (by decide) (fun c65 => ?_) (fun c65 => absurd (c53.symm.trans c65) (by decide))
          refine lv_iload_n hx hb dM_readSign_80 rfl (lv_at hl 1 rfl) ?_
          refine lv_bipush (v := 62) hx hb dM_readSign_81 (by decide) ?_
          refine lv_icmp_ne (tgt := 98) hx hb dM_readSign_83 (by decide) (fun c83 => ?_) (fun c83 => absurd (c53.symm.trans c83) (by decide))
          refine lv_iload_n hx hb dM_readSign_98 rfl (lv_at hl 1 rfl) ?_
          refine lv_bipush (v := 45) hx hb dM_readSign_99 (by decide) ?_
          refine lv_icmp_ne (tgt := 114) hx hb dM_readSign_101 (by decide) (fun c101 => ?_) (fun c101 => absurd (c53.symm.trans c101) (by decide))
          refine lv_iconst (v := 0) hx hb dM_readSign_114 (by decide) ?_
          refine lv_istore_n (lv' := [(3, .int 0), (2, .int (seeT T n (p + 1))), (1, .int (T p)), (0, .ref h)]) hx hb dM_readSign_115 rfl hl (by decide) rfl (fun ls hl => ?_)
          exact cont0 H locs ls (fun q => by have q := (two_iff _ _).mp q; simp [c23, c41, c53, c59] at q) hw (lv_sub hl [3, 2, 0] rfl)
    · skip
      refine lv_iload_n hx hb dM_readSign_44 rfl (lv_at hl 0 rfl) ?_
      refine lv_bipush (v := 61) hx hb dM_readSign_45 (by decide) ?_
      refine lv_icmp_eq (tgt := 110) hx hb dM_readSign_47 (by decide) (fun c47 => ?_) (fun c47 => ?_)
      · skip
        refine lv_iconst (v := 1) hx hb dM_readSign_110 (by decide) ?_
        refine lv_goto (tgt := 115) hx hb dM_readSign_111 (by decide) ?_
        refine lv_istore_n (lv' := [(3, .int 1), (2, .int (seeT T n (p + 1))), (1, .int (T p)), (0, .ref h)]) hx hb dM_readSign_115 rfl hl (by decide) rfl (fun ls hl => ?_)
        exact cont1 H locs ls ((two_iff _ _).mpr (by simp [c23, c41, c47])) hw (lv_sub hl [3, 2, 0] rfl)
      · skip
        refine lv_iload_n hx hb dM_readSign_50 rfl (lv_at hl 1 rfl) ?_
        refine lv_bipush (v := 126) hx hb dM_readSign_51 (by decide) ?_
        refine lv_icmp_ne (tgt := 62) hx hb dM_readSign_53 (by decide) (fun c53 => ?_) (fun c53 => absurd (c41.symm.trans c53) (by decide))
        refine lv_iload_n hx hb dM_readSign_62 rfl (lv_at hl 1 rfl) ?_
        refine lv_bipush (v := 60) hx hb dM_readSign_63 (by decide) ?_
        refine lv_icmp_ne (tgt := 80) hx hb dM_readSign_65 (by decide) (fun c65 => ?_) (fun c65 => absurd (c41.symm.trans c65) (by decide))
        refine lv_iload_n hx hb dM_readSign_80 rfl (lv_at hl 1 rfl) ?_
        refine lv_bipush (v := 62) hx hb dM_readSign_81 (by decide) ?_
        refine lv_icmp_ne (tgt := 98) hx hb dM_readSign_83 (by decide) (fun c83 => ?_) (fun c83 => absurd (c41.symm.trans c83) (by decide))
        refine lv_iload_n hx hb dM_readSign_98 rfl (lv_at hl 1 rfl) ?_
        refine lv_bipush (v := 45) hx hb dM_readSign_99 (by decide) ?_
        refine lv_icmp_ne (tgt := 114) hx hb dM_readSign_101 (by decide) (fun c101 => ?_) (fun c101 => absurd (c41.symm.trans c101) (by decide))
        refine lv_iconst (v := 0) hx hb dM_readSign_114 (by decide) ?_
        refine lv_istore_n (lv' := [(3, .int 0), (2, .int (seeT T n (p + 1))), (1, .int (T p)), (0, .ref h)]) hx hb dM_readSign_115 rfl hl (by decide) rfl (fun ls hl => ?_)
        exact cont0 H locs ls (fun q => by have q := (two_iff _ _).mp q; simp [c23, c41, c47] at q) hw (lv_sub hl [3, 2, 0] rfl)
  · skip
    refine lv_iload_n hx hb dM_readSign_26 rfl (lv_at hl 0 rfl) ?_
    refine lv_bipush (v := 40) hx hb dM_readSign_27 (by decide) ?_
    refine lv_icmp_eq (tgt := 110) hx hb dM_readSign_29 (by decide) (fun c29 => ?_) (fun c29 => ?_)
    · skip
      refine lv_iconst (v := 1) hx hb dM_readSign_110 (by decide) ?_
      refine lv_goto (tgt := 115) hx hb dM_readSign_111 (by decide) ?_
      refine lv_istore_n (lv' := [(3, .int 1), (2, .int (seeT T n (p + 1))), (1, .int (T p)), (0, .ref h)]) hx hb dM_readSign_115 rfl hl (by decide) rfl (fun ls hl => ?_)
      exact cont1 H locs ls ((two_iff _ _).mpr (by simp [c23, c29])) hw (lv_sub hl [3, 2, 0] rfl)
    · skip
      refine lv_iload_n hx hb dM_readSign_32 rfl (lv_at hl 0 rfl) ?_
      refine lv_bipush (v := 41) hx hb dM_readSign_33 (by decide) ?_
      refine lv_icmp_eq (tgt := 110) hx hb dM_readSign_35 (by decide) (fun c35 => ?_) (fun c35 => ?_)
      · skip
        refine lv_iconst (v := 1) hx hb dM_readSign_110 (by decide) ?_
        refine lv_goto (tgt := 115) hx hb dM_readSign_111 (by decide) ?_
        refine lv_istore_n (lv' := [(3, .int 1), (2, .int (seeT T n (p + 1))), (1, .int (T p)), (0, .ref h)]) hx hb dM_readSign_115 rfl hl (by decide) rfl (fun ls hl => ?_)
        exact cont1 H locs ls ((two_iff _ _).mpr (by simp [c23, c29, c35])) hw (lv_sub hl [3, 2, 0] rfl)
      · skip
        refine lv_iload_n hx hb dM_readSign_38 rfl (lv_at hl 1 rfl) ?_
        refine lv_bipush (v := 58) hx hb dM_readSign_39 (by decide) ?_
        refine lv_icmp_ne (tgt := 50) hx hb dM_readSign_41 (by decide) (fun c41 => ?_) (fun c41 => absurd (c23.symm.trans c41) (by decide))
        refine lv_iload_n hx hb dM_readSign_50 rfl (lv_at hl 1 rfl) ?_
        refine lv_bipush (v := 126) hx hb dM_readSign_51 (by decide) ?_
        refine lv_icmp_ne (tgt := 62) hx hb dM_readSign_53 (by decide) (fun c53 => ?_) (fun c53 => absurd (c23.symm.trans c53) (by decide))
        refine lv_iload_n hx hb dM_readSign_62 rfl (lv_at hl 1 rfl) ?_
        refine lv_bipush (v := 60) hx hb dM_readSign_63 (by decide) ?_
        refine lv_icmp_ne (tgt := 80) hx hb dM_readSign_65 (by decide) (fun c65 => ?_) (fun c65 => absurd (c23.symm.trans c65) (by decide))
        refine lv_iload_n hx hb dM_readSign_80 rfl (lv_at hl 1 rfl) ?_
        refine lv_bipush (v := 62) hx hb dM_readSign_81 (by decide) ?_
        refine lv_icmp_ne (tgt := 98) hx hb dM_readSign_83 (by decide) (fun c83 => ?_) (fun c83 => absurd (c23.symm.trans c83) (by decide))
        refine lv_iload_n hx hb dM_readSign_98 rfl (lv_at hl 1 rfl) ?_
        refine lv_bipush (v := 45) hx hb dM_readSign_99 (by decide) ?_
        refine lv_icmp_ne (tgt := 114) hx hb dM_readSign_101 (by decide) (fun c101 => ?_) (fun c101 => absurd (c23.symm.trans c101) (by decide))
        refine lv_iconst (v := 0) hx hb dM_readSign_114 (by decide) ?_
        refine lv_istore_n (lv' := [(3, .int 0), (2, .int (seeT T n (p + 1))), (1, .int (T p)), (0, .ref h)]) hx hb dM_readSign_115 rfl hl (by decide) rfl (fun ls hl => ?_)
        exact cont0 H locs ls (fun q => by have q := (two_iff _ _).mp q; simp [c23, c29, c35] at q) hw (lv_sub hl [3, 2, 0] rfl)
