/-! ===== the reference: its tape ===== -/
def tpM (T : Nat → Int32) (n : Nat) (I : Nat → Int32) (F : Nat → Nat → Int32) : Prop := I 2 = nI n ∧ n ≤ 1000 ∧ (∀ j, j < n → F 1 j = T j) ∧ ∀ j, j < n → ¬ T j < 0
theorem tpM.of {T : Nat → Int32} {n : Nat} {I I' : Nat → Int32} {F F' : Nat → Nat → Int32} (h : tpM T n I F) (e1 : I' 2 = I 2) (e2 : F' 1 = F 1) : tpM T n I' F' := ⟨e1.trans h.1, h.2.1, fun j hj => by rw [e2]; exact h.2.2.1 j hj, h.2.2.2⟩
theorem starB_nn {c : Int32} (h : ¬ starB c = -1) : ¬ starB c < 0 := by
  unfold starB at h ⊢
  split
  · rename_i q; rcases q with q | q | q <;> (rw [q]; decide)
  · split
    · decide
    · split
      · decide
      · split
        · decide
        · rename_i h1 h2 h3 h4
          rw [if_neg h1, if_neg h2, if_neg h3, if_neg h4] at h
          exact absurd rfl h
theorem mean_nn {T : Nat → Int32} {n k : Nat} {mark : Int32} (h : ¬ meanT T n k mark = -1) : ¬ meanT T n k mark < 0 := by
  unfold meanT at h ⊢
  split
  · rename_i q; rw [if_pos q] at h; exact starB_nn h
  · rename_i q
    rw [if_neg q] at h
    split
    · rename_i g
      exact fun z => g.1 (Int32.lt_of_lt_of_le z (by decide))
    · rename_i g; rw [if_neg g] at h; exact absurd rfl h
set_option maxHeartbeats 4000000 in
set_option maxRecDepth 100000 in
theorem tM_see (l : Launch) (I : Nat → Int32) (F : Nat → Nat → Int32) (T : Nat → Int32) (n : Nat) (hT : tpM T n I F) (p : Nat) (hp : p < 2 ^ 30) : MM l yM_see cM_see 2 (some .int) ({ frames := 0, cells := 0, slots := 0, locals := 0 }) [.int (nI p)] I F (iR (fun r I' F' => r = seeT T n p ∧ I' = I ∧ F' = F)) := by
  refine MM.mk (by decide) (fun _ => Nat.le_of_ble_eq_true rfl) ?_
  intro z D cA h a pg en s m below meth c ls S hr hlk hA hw hl
  have hx := S.1
  have hb := S.2.1
  have hl : lv_has ls 2 [(0, .ref h), (1, .int (nI p))] := hl
  refine lv_iload_n hx hb dM_see_0 rfl (lv_at hl 1 rfl) ?_
  refine lv_aload_n hx hb dM_see_1 rfl (lv_at hl 0 rfl) ?_
  refine gM2 S hw dM_see_2 ?_
  refine kz_top (y := nI n) hT.1 ?_
  refine lv_icmp_ge (tgt := 17) hx hb dM_see_5 (by decide) (fun c5 => ?_) (fun c5 => ?_)
  · skip
    refine lv_iconst (v := (-1)) hx hb dM_see_17 (by decide) ?_
    exact MM.iret S hr hlk hw dM_see_18 rfl ⟨_, rfl, by rw [see_out ((nI_leI (by have := hT.2.1; omega) (by omega)).mp c5)], rfl, rfl⟩
  · skip
    refine lv_aload_n hx hb dM_see_8 rfl (lv_at hl 0 rfl) ?_
    refine gM1 S hw dM_see_9 ?_
    refine lv_iload_n hx hb dM_see_12 rfl (lv_at hl 1 rfl) ?_
    refine ldM1 S hw (vp_in_nI (by have hlt : p < n := Nat.lt_of_not_le (fun q => c5 (nI_le q (by omega))); have := hT.2.1; omega) (by decide)) dM_see_13 ?_
    refine lv_goto (tgt := 18) hx hb dM_see_14 (by decide) ?_
    exact MM.iret S hr hlk hw dM_see_18 rfl ⟨_, rfl, by have hlt : p < n := Nat.lt_of_not_le (fun q => c5 (nI_le q (by omega))); rw [see_in hlt, nI_clamp (by omega)]; exact hT.2.2.1 p hlt, rfl, rfl⟩
set_option maxHeartbeats 4000000 in
set_option maxRecDepth 100000 in
theorem tM_meaning (l : Launch) (I : Nat → Int32) (F : Nat → Nat → Int32) (T : Nat → Int32) (n : Nat) (hT : tpM T n I F) (p : Nat) (hp : p < 2000) (x : Int32) : MM l yM_meaning cM_meaning 5 (some .int) ({ frames := 1, cells := 0, slots := 0, locals := 21 }) [.int (nI p), .int x] I F (iR (fun r I' F' => r = meanT T n p x ∧ I' = I ∧ F' = F)) := by
  refine MM.mk (by decide) (fun _ => Nat.le_of_ble_eq_true rfl) ?_
  intro z D cA h a pg en s m below meth c ls S hr hlk hA hw hl
  have hx := S.1
  have hb := S.2.1
  have hl : lv_has ls 5 [(0, .ref h), (1, .int (nI p)), (2, .int x)] := hl
  refine lv_aload_n hx hb dM_meaning_0 rfl (lv_at hl 0 rfl) ?_
  refine lv_iload_n hx hb dM_meaning_1 rfl (lv_at hl 1 rfl) ?_
  refine kcMi (rest := []) S kM_74 rfl (tM_see l I F T n hT p (by omega)) hw hA ⟨Nat.le_of_ble_eq_true rfl, Nat.le_of_ble_eq_true rfl⟩ rfl rfl ⟨Nat.zero_le _, Nat.zero_le _⟩ rfl hl.1 (Nat.le_of_ble_eq_true rfl) dM_meaning_2 (fun r I' F' H locs hq hw => ?_)
  obtain ⟨hr1, hr2, hr3⟩ := hq
  rw [hr2, hr3] at hw
  subst hr1
  refine lv_istore_n (lv' := [(3, .int (seeT T n p)), (0, .ref h), (1, .int (nI p)), (2, .int x)]) hx hb dM_meaning_5 rfl hl (by decide) rfl (fun ls hl => ?_)
  refine lv_iload_n hx hb dM_meaning_6 rfl (lv_at hl 0 rfl) ?_
  refine lv_bipush (v := 42) hx hb dM_meaning_7 (by decide) ?_
  refine lv_icmp_ne (tgt := 85) hx hb dM_meaning_9 (by decide) (fun c9 => ?_) (fun c9 => ?_)
  · skip
    refine lv_iload_n hx hb dM_meaning_85 rfl (lv_at hl 0 rfl) ?_
    refine lv_bipush (v := 32) hx hb dM_meaning_86 (by decide) ?_
    refine lv_icmp_lt (tgt := 106) hx hb dM_meaning_88 (by decide) (fun c88 => ?_) (fun c88 => ?_)
    · skip
      refine lv_iconst (v := (-1)) hx hb dM_meaning_106 (by decide) ?_
      exact MM.iret S hr hlk hw dM_meaning_107 rfl ⟨_, rfl, by rw [(mean_no c9).1]; simp [c88], rfl, rfl⟩
    · skip
      refine lv_iload_n hx hb dM_meaning_91 rfl (lv_at hl 0 rfl) ?_
      refine lv_bipush (v := 126) hx hb dM_meaning_92 (by decide) ?_
      refine lv_icmp_gt (tgt := 106) hx hb dM_meaning_94 (by decide) (fun c94 => ?_) (fun c94 => ?_)
      · skip
        refine lv_iconst (v := (-1)) hx hb dM_meaning_106 (by decide) ?_
        exact MM.iret S hr hlk hw dM_meaning_107 rfl ⟨_, rfl, by rw [(mean_no c9).1]; simp [c88, c94], rfl, rfl⟩
      · skip
        refine lv_iload_n hx hb dM_meaning_97 rfl (lv_at hl 0 rfl) ?_
        refine lv_iload_n hx hb dM_meaning_98 rfl (lv_at hl 3 rfl) ?_
        refine lv_icmp_eq (tgt := 106) hx hb dM_meaning_99 (by decide) (fun c99 => ?_) (fun c99 => ?_)
        · skip
          refine lv_iconst (v := (-1)) hx hb dM_meaning_106 (by decide) ?_
          exact MM.iret S hr hlk hw dM_meaning_107 rfl ⟨_, rfl, by rw [(mean_no c9).1]; simp [c88, c94, c99], rfl, rfl⟩
        · skip
          refine lv_iload_n hx hb dM_meaning_102 rfl (lv_at hl 0 rfl) ?_
          refine lv_goto (tgt := 107) hx hb dM_meaning_103 (by decide) ?_
          exact MM.iret S hr hlk hw dM_meaning_107 rfl ⟨_, rfl, by rw [(mean_no c9).1]; simp [c88, c94, c99], rfl, rfl⟩
  · skip
    refine lv_aload_n hx hb dM_meaning_12 rfl (lv_at hl 1 rfl) ?_
    refine lv_iload_n hx hb dM_meaning_13 rfl (lv_at hl 2 rfl) ?_
    refine lv_iconst (v := 1) hx hb dM_meaning_14 (by decide) ?_
    refine lv_iadd hx hb dM_meaning_15 ?_
    refine kz_top (y := nI (p + 1)) (nI_add p 1) ?_
    refine kcMi (rest := []) S kM_74 rfl (tM_see l I F T n hT (p + 1) (by omega)) hw hA ⟨Nat.le_of_ble_eq_true rfl, Nat.le_of_ble_eq_true rfl⟩ rfl rfl ⟨Nat.zero_le _, Nat.zero_le _⟩ rfl hl.1 (Nat.le_of_ble_eq_true rfl) dM_meaning_16 (fun r I' F' H locs hq hw => ?_)
    obtain ⟨hr1, hr2, hr3⟩ := hq
    rw [hr2, hr3] at hw
    subst hr1
    refine lv_istore (lv' := [(4, .int (seeT T n (p + 1))), (3, .int (seeT T n p)), (0, .ref h), (1, .int (nI p)), (2, .int x)]) hx hb dM_meaning_19 hl (by decide) rfl (fun ls hl => ?_)
    refine lv_iload hx hb dM_meaning_21 (lv_at hl 0 rfl) ?_
    refine lv_bipush (v := 78) hx hb dM_meaning_23 (by decide) ?_
    refine lv_icmp_ne (tgt := 33) hx hb dM_meaning_25 (by decide) (fun c25 => ?_) (fun c25 => ?_)
    · skip
      refine lv_iload hx hb dM_meaning_33 (lv_at hl 0 rfl) ?_
      refine lv_bipush (v := 83) hx hb dM_meaning_35 (by decide) ?_
      refine lv_icmp_ne (tgt := 45) hx hb dM_meaning_37 (by decide) (fun c37 => ?_) (fun c37 => ?_)
      · skip
        refine lv_iload hx hb dM_meaning_45 (lv_at hl 0 rfl) ?_
        refine lv_bipush (v := 84) hx hb dM_meaning_47 (by decide) ?_
        refine lv_icmp_ne (tgt := 57) hx hb dM_meaning_49 (by decide) (fun c49 => ?_) (fun c49 => ?_)
        · skip
          refine lv_iload hx hb dM_meaning_57 (lv_at hl 0 rfl) ?_
          refine lv_bipush (v := 39) hx hb dM_meaning_59 (by decide) ?_
          refine lv_icmp_eq (tgt := 78) hx hb dM_meaning_61 (by decide) (fun c61 => ?_) (fun c61 => ?_)
          · skip
            refine lv_iload hx hb dM_meaning_78 (lv_at hl 0 rfl) ?_
            refine lv_goto (tgt := 84) hx hb dM_meaning_80 (by decide) ?_
            exact MM.iret S hr hlk hw dM_meaning_84 rfl ⟨_, rfl, by rw [(mean_star c9).1]; simp [starB, c25, c37, c49, c61], rfl, rfl⟩
          · skip
            refine lv_iload hx hb dM_meaning_64 (lv_at hl 0 rfl) ?_
            refine lv_bipush (v := 34) hx hb dM_meaning_66 (by decide) ?_
            refine lv_icmp_eq (tgt := 78) hx hb dM_meaning_68 (by decide) (fun c68 => ?_) (fun c68 => ?_)
            · skip
              refine lv_iload hx hb dM_meaning_78 (lv_at hl 0 rfl) ?_
              refine lv_goto (tgt := 84) hx hb dM_meaning_80 (by decide) ?_
              exact MM.iret S hr hlk hw dM_meaning_84 rfl ⟨_, rfl, by rw [(mean_star c9).1]; simp [starB, c25, c37, c49, c61, c68], rfl, rfl⟩
            · skip
              refine lv_iload hx hb dM_meaning_71 (lv_at hl 0 rfl) ?_
              refine lv_bipush (v := 42) hx hb dM_meaning_73 (by decide) ?_
              refine lv_icmp_ne (tgt := 83) hx hb dM_meaning_75 (by decide) (fun c75 => ?_) (fun c75 => ?_)
              · skip
                refine lv_iconst (v := (-1)) hx hb dM_meaning_83 (by decide) ?_
                exact MM.iret S hr hlk hw dM_meaning_84 rfl ⟨_, rfl, by rw [(mean_star c9).1]; simp [starB, c25, c37, c49, c61, c68, c75], rfl, rfl⟩
              · skip
                refine lv_iload hx hb dM_meaning_78 (lv_at hl 0 rfl) ?_
                refine lv_goto (tgt := 84) hx hb dM_meaning_80 (by decide) ?_
                exact MM.iret S hr hlk hw dM_meaning_84 rfl ⟨_, rfl, by rw [(mean_star c9).1]; simp [starB, c25, c37, c49, c61, c68, c75], rfl, rfl⟩
        · skip
          refine lv_bipush (v := 9) hx hb dM_meaning_52 (by decide) ?_
          refine lv_goto (tgt := 84) hx hb dM_meaning_54 (by decide) ?_
          exact MM.iret S hr hlk hw dM_meaning_84 rfl ⟨_, rfl, by rw [(mean_star c9).1]; simp [starB, c25, c37, c49], rfl, rfl⟩
      · skip
        refine lv_bipush (v := 32) hx hb dM_meaning_40 (by decide) ?_
        refine lv_goto (tgt := 84) hx hb dM_meaning_42 (by decide) ?_
        exact MM.iret S hr hlk hw dM_meaning_84 rfl ⟨_, rfl, by rw [(mean_star c9).1]; simp [starB, c25, c37], rfl, rfl⟩
    · skip
      refine lv_bipush (v := 10) hx hb dM_meaning_28 (by decide) ?_
      refine lv_goto (tgt := 84) hx hb dM_meaning_30 (by decide) ?_
      exact MM.iret S hr hlk hw dM_meaning_84 rfl ⟨_, rfl, by rw [(mean_star c9).1]; simp [starB, c25], rfl, rfl⟩
set_option maxHeartbeats 4000000 in
set_option maxRecDepth 100000 in
theorem tM_next (l : Launch) (I : Nat → Int32) (F : Nat → Nat → Int32) (T : Nat → Int32) (n : Nat) (hT : tpM T n I F) (p : Nat) (hp : p < 2000) : MM l yM_next cM_next 2 (some .int) ({ frames := 1, cells := 0, slots := 0, locals := 21 }) [.int (nI p)] I F (iR (fun r I' F' => r = nI (nextT T n p) ∧ I' = I ∧ F' = F)) := by
  refine MM.mk (by decide) (fun _ => Nat.le_of_ble_eq_true rfl) ?_
  intro z D cA h a pg en s m below meth c ls S hr hlk hA hw hl
  have hx := S.1
  have hb := S.2.1
  have hl : lv_has ls 2 [(0, .ref h), (1, .int (nI p))] := hl
  refine lv_aload_n hx hb dM_next_0 rfl (lv_at hl 0 rfl) ?_
  refine lv_iload_n hx hb dM_next_1 rfl (lv_at hl 1 rfl) ?_
  refine kcMi (rest := []) S kM_74 rfl (tM_see l I F T n hT p (by omega)) hw hA ⟨Nat.le_of_ble_eq_true rfl, Nat.le_of_ble_eq_true rfl⟩ rfl rfl ⟨Nat.zero_le _, Nat.zero_le _⟩ rfl hl.1 (Nat.le_of_ble_eq_true rfl) dM_next_2 (fun r I' F' H locs hq hw => ?_)
  obtain ⟨hr1, hr2, hr3⟩ := hq
  rw [hr2, hr3] at hw
  subst hr1
  refine lv_bipush (v := 42) hx hb dM_next_5 (by decide) ?_
  refine lv_icmp_ne (tgt := 16) hx hb dM_next_7 (by decide) (fun c7 => ?_) (fun c7 => ?_)
  · skip
    refine lv_iload_n hx hb dM_next_16 rfl (lv_at hl 1 rfl) ?_
    refine lv_iconst (v := 1) hx hb dM_next_17 (by decide) ?_
    refine lv_iadd hx hb dM_next_18 ?_
    refine kz_top (y := nI (p + 1)) (nI_add p 1) ?_
    exact MM.iret S hr hlk hw dM_next_19 rfl ⟨_, rfl, by unfold nextT; rw [if_neg c7], rfl, rfl⟩
  · skip
    refine lv_iload_n hx hb dM_next_10 rfl (lv_at hl 1 rfl) ?_
    refine lv_iconst (v := 2) hx hb dM_next_11 (by decide) ?_
    refine lv_iadd hx hb dM_next_12 ?_
    refine kz_top (y := nI (p + 2)) (nI_add p 2) ?_
    refine lv_goto (tgt := 19) hx hb dM_next_13 (by decide) ?_
    exact MM.iret S hr hlk hw dM_next_19 rfl ⟨_, rfl, by unfold nextT; rw [if_pos c7], rfl, rfl⟩
set_option maxHeartbeats 4000000 in
set_option maxRecDepth 100000 in
theorem tM_put (l : Launch) (I : Nat → Int32) (F : Nat → Nat → Int32) (T : Nat → Int32) (n : Nat) (hT : tpM T n I F) (hn4 : n + 4 ≤ 1000) (x : Int32) : MM l yM_put cM_put 3 none ({ frames := 0, cells := 0, slots := 0, locals := 0 }) [.int x] I F (vR (fun I' F' => tpM (putT T n x) (n + 4) I' F' ∧ (∀ k, k ≠ 2 → I' k = I k) ∧ ∀ k, k ≠ 1 → F' k = F k)) := by
  refine MM.mk (by decide) (fun _ => Nat.le_of_ble_eq_true rfl) ?_
  intro z D cA h a pg en s m below meth c ls S hr hlk hA hw hl
  have hx := S.1
  have hb := S.2.1
  have hl : lv_has ls 3 [(0, .ref h), (1, .int x)] := hl
  refine lv_bipush (v := 24) hx hb dM_put_0 (by decide) ?_
  refine lv_istore_n (lv' := [(2, .int 24), (0, .ref h), (1, .int x)]) hx hb dM_put_2 rfl hl (by decide) rfl (fun ls hl => ?_)
  refine lv_iload_n hx hb dM_put_3 rfl (lv_at hl 0 rfl) ?_
  refine lv_if_lt (tgt := 39) hx hb dM_put_4 (by decide) (fun c4 => absurd c4 (by decide)) (fun c4 => ?_)
  refine lv_aload_n hx hb dM_put_7 rfl (lv_at hl 1 rfl) ?_
  refine gM1 S hw dM_put_8 ?_
  refine lv_aload_n hx hb dM_put_11 rfl (lv_at hl 1 rfl) ?_
  refine gM2 S hw dM_put_12 ?_
  refine kz_top (y := nI n) hT.1 ?_
  refine lv_iload_n hx hb dM_put_15 rfl (lv_at hl 2 rfl) ?_
  refine lv_iload_n hx hb dM_put_16 rfl (lv_at hl 0 rfl) ?_
  refine lv_ishr hx hb dM_put_17 ?_
  refine lv_sipush (v := 255) hx hb dM_put_18 (by decide) ?_
  refine lv_iand hx hb dM_put_21 ?_
  refine stM1 S hw (vp_in_nI (by omega) (by decide)) dM_put_22 (fun H locs hw => ?_)
  refine lv_aload_n hx hb dM_put_23 rfl (lv_at hl 1 rfl) ?_
  refine lv_dup hx hb dM_put_24 rfl ?_
  refine gM2 S hw dM_put_25 ?_
  refine kz_top (y := nI n) hT.1 ?_
  refine lv_iconst (v := 1) hx hb dM_put_28 (by decide) ?_
  refine lv_iadd hx hb dM_put_29 ?_
  refine kz_top (y := nI (n + 1)) (nI_add n 1) ?_
  refine pM2 S hw dM_put_30 (fun H locs hw => ?_)
  refine lv_iinc (v := 16) (lv' := [(2, .int 16), (0, .ref h), (1, .int x)]) hx hb dM_put_33 hl (k := 0) rfl (by decide) (by decide) rfl (fun ls hl => ?_)
  refine lv_goto (tgt := 3) hx hb dM_put_36 (by decide) ?_
  refine lv_iload_n hx hb dM_put_3 rfl (lv_at hl 0 rfl) ?_
  refine lv_if_lt (tgt := 39) hx hb dM_put_4 (by decide) (fun c4 => absurd c4 (by decide)) (fun c4 => ?_)
  refine lv_aload_n hx hb dM_put_7 rfl (lv_at hl 1 rfl) ?_
  refine gM1 S hw dM_put_8 ?_
  refine lv_aload_n hx hb dM_put_11 rfl (lv_at hl 1 rfl) ?_
  refine gM2 S hw dM_put_12 ?_
  refine kz_top (y := nI (n + 1)) rfl ?_
  refine lv_iload_n hx hb dM_put_15 rfl (lv_at hl 2 rfl) ?_
  refine lv_iload_n hx hb dM_put_16 rfl (lv_at hl 0 rfl) ?_
  refine lv_ishr hx hb dM_put_17 ?_
  refine lv_sipush (v := 255) hx hb dM_put_18 (by decide) ?_
  refine lv_iand hx hb dM_put_21 ?_
  refine stM1 S hw (vp_in_nI (by omega) (by decide)) dM_put_22 (fun H locs hw => ?_)
  refine lv_aload_n hx hb dM_put_23 rfl (lv_at hl 1 rfl) ?_
  refine lv_dup hx hb dM_put_24 rfl ?_
  refine gM2 S hw dM_put_25 ?_
  refine kz_top (y := nI (n + 1)) rfl ?_
  refine lv_iconst (v := 1) hx hb dM_put_28 (by decide) ?_
  refine lv_iadd hx hb dM_put_29 ?_
  refine kz_top (y := nI (n + 1 + 1)) (nI_add (n + 1) 1) ?_
  refine pM2 S hw dM_put_30 (fun H locs hw => ?_)
  refine lv_iinc (v := 8) (lv' := [(2, .int 8), (0, .ref h), (1, .int x)]) hx hb dM_put_33 hl (k := 0) rfl (by decide) (by decide) rfl (fun ls hl => ?_)
  refine lv_goto (tgt := 3) hx hb dM_put_36 (by decide) ?_
  refine lv_iload_n hx hb dM_put_3 rfl (lv_at hl 0 rfl) ?_
  refine lv_if_lt (tgt := 39) hx hb dM_put_4 (by decide) (fun c4 => absurd c4 (by decide)) (fun c4 => ?_)
  refine lv_aload_n hx hb dM_put_7 rfl (lv_at hl 1 rfl) ?_
  refine gM1 S hw dM_put_8 ?_
  refine lv_aload_n hx hb dM_put_11 rfl (lv_at hl 1 rfl) ?_
  refine gM2 S hw dM_put_12 ?_
  refine kz_top (y := nI (n + 1 + 1)) rfl ?_
  refine lv_iload_n hx hb dM_put_15 rfl (lv_at hl 2 rfl) ?_
  refine lv_iload_n hx hb dM_put_16 rfl (lv_at hl 0 rfl) ?_
  refine lv_ishr hx hb dM_put_17 ?_
  refine lv_sipush (v := 255) hx hb dM_put_18 (by decide) ?_
  refine lv_iand hx hb dM_put_21 ?_
  refine stM1 S hw (vp_in_nI (by omega) (by decide)) dM_put_22 (fun H locs hw => ?_)
  refine lv_aload_n hx hb dM_put_23 rfl (lv_at hl 1 rfl) ?_
  refine lv_dup hx hb dM_put_24 rfl ?_
  refine gM2 S hw dM_put_25 ?_
  refine kz_top (y := nI (n + 1 + 1)) rfl ?_
  refine lv_iconst (v := 1) hx hb dM_put_28 (by decide) ?_
  refine lv_iadd hx hb dM_put_29 ?_
  refine kz_top (y := nI (n + 1 + 1 + 1)) (nI_add (n + 1 + 1) 1) ?_
  refine pM2 S hw dM_put_30 (fun H locs hw => ?_)
  refine lv_iinc (v := 0) (lv' := [(2, .int 0), (0, .ref h), (1, .int x)]) hx hb dM_put_33 hl (k := 0) rfl (by decide) (by decide) rfl (fun ls hl => ?_)
  refine lv_goto (tgt := 3) hx hb dM_put_36 (by decide) ?_
  refine lv_iload_n hx hb dM_put_3 rfl (lv_at hl 0 rfl) ?_
  refine lv_if_lt (tgt := 39) hx hb dM_put_4 (by decide) (fun c4 => absurd c4 (by decide)) (fun c4 => ?_)
  refine lv_aload_n hx hb dM_put_7 rfl (lv_at hl 1 rfl) ?_
  refine gM1 S hw dM_put_8 ?_
  refine lv_aload_n hx hb dM_put_11 rfl (lv_at hl 1 rfl) ?_
  refine gM2 S hw dM_put_12 ?_
  refine kz_top (y := nI (n + 1 + 1 + 1)) rfl ?_
  refine lv_iload_n hx hb dM_put_15 rfl (lv_at hl 2 rfl) ?_
  refine lv_iload_n hx hb dM_put_16 rfl (lv_at hl 0 rfl) ?_
  refine lv_ishr hx hb dM_put_17 ?_
  refine lv_sipush (v := 255) hx hb dM_put_18 (by decide) ?_
  refine lv_iand hx hb dM_put_21 ?_
  refine stM1 S hw (vp_in_nI (by omega) (by decide)) dM_put_22 (fun H locs hw => ?_)
  refine lv_aload_n hx hb dM_put_23 rfl (lv_at hl 1 rfl) ?_
  refine lv_dup hx hb dM_put_24 rfl ?_
  refine gM2 S hw dM_put_25 ?_
  refine kz_top (y := nI (n + 1 + 1 + 1)) rfl ?_
  refine lv_iconst (v := 1) hx hb dM_put_28 (by decide) ?_
  refine lv_iadd hx hb dM_put_29 ?_
  refine kz_top (y := nI (n + 1 + 1 + 1 + 1)) (nI_add (n + 1 + 1 + 1) 1) ?_
  refine pM2 S hw dM_put_30 (fun H locs hw => ?_)
  refine lv_iinc (v := (-8)) (lv' := [(2, .int (-8)), (0, .ref h), (1, .int x)]) hx hb dM_put_33 hl (k := 0) rfl (by decide) (by decide) rfl (fun ls hl => ?_)
  refine lv_goto (tgt := 3) hx hb dM_put_36 (by decide) ?_
  refine lv_iload_n hx hb dM_put_3 rfl (lv_at hl 0 rfl) ?_
  refine lv_if_lt (tgt := 39) hx hb dM_put_4 (by decide) (fun c4 => ?_) (fun c4 => absurd c4 (by decide))
  exact MM.vret S hr hlk hw dM_put_39 ⟨rfl, by
    refine ⟨⟨rfl, hn4, fun j hj => ?_, putT_nn hT.2.2.2⟩, fun k hk => ?_, fun k hk => ?_⟩
    · have e : putT (F 1) n x j = putT T n x j := putT_at hT.2.2.1 j hj
      rw [← e]
      show upd (upd (upd (upd (F 1) (nI n).toNatClampNeg ((x >>> (nI 24 &&& 31)) &&& 255)) (nI (n + 1)).toNatClampNeg ((x >>> (nI 16 &&& 31)) &&& 255)) (nI (n + 1 + 1)).toNatClampNeg ((x >>> (nI 8 &&& 31)) &&& 255)) (nI (n + 1 + 1 + 1)).toNatClampNeg ((x >>> (nI 0 &&& 31)) &&& 255) j = _
      rw [nI_clamp (by omega), nI_clamp (by omega), nI_clamp (by omega), nI_clamp (by omega), byte_eq x (by omega), byte_eq x (by omega), byte_eq x (by omega), byte_eq x (by omega)]
      rfl
    · simp [upd, hk]
    · simp [va_up, hk]⟩
set_option maxHeartbeats 4000000 in
set_option maxRecDepth 100000 in
theorem tM_skip (l : Launch) (I : Nat → Int32) (F : Nat → Nat → Int32) (T : Nat → Int32) (n : Nat) (hT : tpM T n I F) (p L : Nat) (h15 : I 15 = nI p) (h16 : I 16 = nI L) (hp : p ≤ n) : MM l yM_skip cM_skip 4 none ({ frames := 1, cells := 0, slots := 0, locals := 21 }) [] I F (vR (fun I' F' => I' 15 = nI (skp T n (n - p) false p L).1 ∧ I' 16 = nI (skp T n (n - p) false p L).2 ∧ (∀ k, k ≠ 15 → k ≠ 16 → I' k = I k) ∧ F' = F)) := by
  refine MM.mk (by decide) (fun _ => Nat.le_of_ble_eq_true rfl) ?_
  intro z D cA h a pg en s m below meth c ls S hr hlk hA hw hl
  have hx := S.1
  have hb := S.2.1
  have hl : lv_has ls 4 [(0, .ref h)] := hl
  have hn := hT.2.1
  have loop2 : ∀ (fu : Nat) (q M : Nat) (I1 : Nat → Int32) (H : Heap) (locs : List Loc) (ls : Array Slot), q ≤ n → n + 1 ≤ q + fu → I1 15 = nI q → I1 16 = nI M → (∀ k, k ≠ 15 → k ≠ 16 → I1 k = I k) → skp T n (n - q) false q M = skp T n (n - p) false p L → sM z D cA h a (AM h a s.heap.size) s H locs I1 F → lv_has ls 4 [(0, .ref h), (1, .int 1)] → W pg l en ({ frames := 1, cells := 0, slots := 0, locals := 21 }) s m ([.ref h] : List Value).toArray below meth c H locs 0 0 (MQ below (QM z D cA h a s.heap.size (vR (fun I' F' => I' 15 = nI (skp T n (n - p) false p L).1 ∧ I' 16 = nI (skp T n (n - p) false p L).2 ∧ (∀ k, k ≠ 15 → k ≠ 16 → I' k = I k) ∧ F' = F))) ([.ref h] : List Value).toArray s 0 0 (AM h a s.heap.size)) (F0 m 2 ls []) := by
    intro fu
    induction fu with
    | zero => intro q M  I1  H locs ls hq0 hf g15 g16 gI hR hw hl; omega
    | succ fu ih =>
      intro q M  I1  H locs ls hq0 hf g15 g16 gI hR hw hl
      have hT1 : tpM T n I1 F := hT.of (gI 2 (by decide) (by decide)) rfl
      rcases Nat.lt_or_eq_of_le hq0 with hlt | hqe
      · skip
        refine lv_iload_n hx hb dM_skip_2 rfl (lv_at hl 1 rfl) ?_
        refine lv_if_eq (tgt := 161) hx hb dM_skip_3 (by decide) (fun c3 => absurd c3 (by decide)) (fun c3 => ?_)
        refine lv_aload_n hx hb dM_skip_6 rfl (lv_at hl 0 rfl) ?_
        refine lv_aload_n hx hb dM_skip_7 rfl (lv_at hl 0 rfl) ?_
        refine gM15 S hw dM_skip_8 ?_
        refine kz_top (y := nI q) g15 ?_
        refine kcMi (rest := []) S kM_74 rfl (tM_see l I1 F T n hT1 q (by omega)) hw hA ⟨Nat.le_of_ble_eq_true rfl, Nat.le_of_ble_eq_true rfl⟩ rfl rfl ⟨Nat.zero_le _, Nat.zero_le _⟩ rfl hl.1 (Nat.le_of_ble_eq_true rfl) dM_skip_11 (fun r I' F' H locs hq hw => ?_)
        obtain ⟨hr1, hr2, hr3⟩ := hq
        rw [hr2, hr3] at hw
        subst hr1
        refine kz_top (see_in hlt) ?_
        refine lv_istore_n (lv' := [(2, .int (T q)), (0, .ref h), (1, .int 1)]) hx hb dM_skip_14 rfl hl (by decide) rfl (fun ls hl => ?_)
        refine lv_iload_n hx hb dM_skip_15 rfl (lv_at hl 0 rfl) ?_
        refine lv_bipush (v := 47) hx hb dM_skip_16 (by decide) ?_
        refine lv_icmp_ne (tgt := 40) hx hb dM_skip_18 (by decide) (fun c18 => ?_) (fun c18 => ?_)
        · skip
          refine lv_iconst (v := 0) hx hb dM_skip_40 (by decide) ?_
          refine lv_istore_n (lv' := [(3, .int 0), (2, .int (T q)), (0, .ref h), (1, .int 1)]) hx hb dM_skip_41 rfl hl (by decide) rfl (fun ls hl => ?_)
          refine lv_iload_n hx hb dM_skip_42 rfl (lv_at hl 0 rfl) ?_
          refine lv_if_eq (tgt := 83) hx hb dM_skip_43 (by decide) (fun c43 => ?_) (fun c43 => absurd c43 (by decide))
          refine lv_iload_n hx hb dM_skip_83 rfl (lv_at hl 0 rfl) ?_
          refine lv_if_ne (tgt := 111) hx hb dM_skip_84 (by decide) (fun c84 => absurd c84 (by decide)) (fun c84 => ?_)
          refine lv_iload_n hx hb dM_skip_87 rfl (lv_at hl 1 rfl) ?_
          refine lv_bipush (v := 9) hx hb dM_skip_88 (by decide) ?_
          refine lv_icmp_eq (tgt := 111) hx hb dM_skip_90 (by decide) (fun c90 => ?_) (fun c90 => ?_)
          · skip
            refine lv_iconst (v := 1) hx hb dM_skip_111 (by decide) ?_
            refine lv_goto (tgt := 116) hx hb dM_skip_112 (by decide) ?_
            refine lv_istore_n (lv' := [(1, .int 1), (3, .int 0), (2, .int (T q)), (0, .ref h)]) hx hb dM_skip_116 rfl hl (by decide) rfl (fun ls hl => ?_)
            refine lv_iload_n hx hb dM_skip_117 rfl (lv_at hl 0 rfl) ?_
            refine lv_if_eq (tgt := 2) hx hb dM_skip_118 (by decide) (fun c118 => absurd c118 (by decide)) (fun c118 => ?_)
            refine lv_iload_n hx hb dM_skip_121 rfl (lv_at hl 1 rfl) ?_
            refine lv_if_eq (tgt := 128) hx hb dM_skip_122 (by decide) (fun c122 => ?_) (fun c122 => absurd c122 (by decide))
            refine lv_aload_n hx hb dM_skip_128 rfl (lv_at hl 3 rfl) ?_
            refine lv_dup hx hb dM_skip_129 rfl ?_
            refine gM16 S hw dM_skip_130 ?_
            refine kz_top (y := nI M) g16 ?_
            refine lv_iload_n hx hb dM_skip_133 rfl (lv_at hl 2 rfl) ?_
            refine lv_bipush (v := 10) hx hb dM_skip_134 (by decide) ?_
            refine lv_icmp_ne (tgt := 143) hx hb dM_skip_136 (by decide) (fun c136 => ?_) (fun c136 => absurd (c90.symm.trans c136) (by decide))
            refine lv_iconst (v := 0) hx hb dM_skip_143 (by decide) ?_
            refine lv_iadd hx hb dM_skip_144 ?_
            refine kz_top (y := nI M) (nI_add M 0) ?_
            refine pM16 S hw dM_skip_145 (fun H locs hw => ?_)
            refine lv_aload_n hx hb dM_skip_148 rfl (lv_at hl 3 rfl) ?_
            refine lv_dup hx hb dM_skip_149 rfl ?_
            refine gM15 S hw dM_skip_150 ?_
            refine kz_top (y := nI q) g15 ?_
            refine lv_iconst (v := 1) hx hb dM_skip_153 (by decide) ?_
            refine lv_iadd hx hb dM_skip_154 ?_
            refine kz_top (y := nI (q + 1)) (nI_add q 1) ?_
            refine pM15 S hw dM_skip_155 (fun H locs hw => ?_)
            refine lv_goto (tgt := 2) hx hb dM_skip_158 (by decide) ?_
            rw [skp_go hlt (by rw [c90]; decide) (fun q => c18 q.1) (Or.inr (Or.inl c90))] at hR
            exact ih (q + 1) (M) (upd (upd I1 16 (nI M)) 15 (nI (q + 1))) H locs ls (by omega) (by omega) rfl rfl (fun k h1 h2 => by simp [upd, h1, h2, gI k h1 h2]) hR hw (lv_sub hl [3, 0] rfl)
          · skip
            refine lv_iload_n hx hb dM_skip_93 rfl (lv_at hl 1 rfl) ?_
            refine lv_bipush (v := 10) hx hb dM_skip_94 (by decide) ?_
            refine lv_icmp_eq (tgt := 111) hx hb dM_skip_96 (by decide) (fun c96 => ?_) (fun c96 => ?_)
            · skip
              refine lv_iconst (v := 1) hx hb dM_skip_111 (by decide) ?_
              refine lv_goto (tgt := 116) hx hb dM_skip_112 (by decide) ?_
              refine lv_istore_n (lv' := [(1, .int 1), (3, .int 0), (2, .int (T q)), (0, .ref h)]) hx hb dM_skip_116 rfl hl (by decide) rfl (fun ls hl => ?_)
              refine lv_iload_n hx hb dM_skip_117 rfl (lv_at hl 0 rfl) ?_
              refine lv_if_eq (tgt := 2) hx hb dM_skip_118 (by decide) (fun c118 => absurd c118 (by decide)) (fun c118 => ?_)
              refine lv_iload_n hx hb dM_skip_121 rfl (lv_at hl 1 rfl) ?_
              refine lv_if_eq (tgt := 128) hx hb dM_skip_122 (by decide) (fun c122 => ?_) (fun c122 => absurd c122 (by decide))
              refine lv_aload_n hx hb dM_skip_128 rfl (lv_at hl 3 rfl) ?_
              refine lv_dup hx hb dM_skip_129 rfl ?_
              refine gM16 S hw dM_skip_130 ?_
              refine kz_top (y := nI M) g16 ?_
              refine lv_iload_n hx hb dM_skip_133 rfl (lv_at hl 2 rfl) ?_
              refine lv_bipush (v := 10) hx hb dM_skip_134 (by decide) ?_
              refine lv_icmp_ne (tgt := 143) hx hb dM_skip_136 (by decide) (fun c136 => absurd c96 c136) (fun c136 => ?_)
              refine lv_iconst (v := 1) hx hb dM_skip_139 (by decide) ?_
              refine lv_goto (tgt := 144) hx hb dM_skip_140 (by decide) ?_
              refine lv_iadd hx hb dM_skip_144 ?_
              refine kz_top (nI_1 M) ?_
              refine pM16 S hw dM_skip_145 (fun H locs hw => ?_)
              refine lv_aload_n hx hb dM_skip_148 rfl (lv_at hl 3 rfl) ?_
              refine lv_dup hx hb dM_skip_149 rfl ?_
              refine gM15 S hw dM_skip_150 ?_
              refine kz_top (y := nI q) g15 ?_
              refine lv_iconst (v := 1) hx hb dM_skip_153 (by decide) ?_
              refine lv_iadd hx hb dM_skip_154 ?_
              refine kz_top (y := nI (q + 1)) (nI_add q 1) ?_
              refine pM15 S hw dM_skip_155 (fun H locs hw => ?_)
              refine lv_goto (tgt := 2) hx hb dM_skip_158 (by decide) ?_
              rw [skp_nl hlt c96] at hR
              exact ih (q + 1) (M + 1) (upd (upd I1 16 (nI (M + 1))) 15 (nI (q + 1))) H locs ls (by omega) (by omega) rfl rfl (fun k h1 h2 => by simp [upd, h1, h2, gI k h1 h2]) hR hw (lv_sub hl [3, 0] rfl)
            · skip
              refine lv_iload_n hx hb dM_skip_99 rfl (lv_at hl 1 rfl) ?_
              refine lv_bipush (v := 13) hx hb dM_skip_100 (by decide) ?_
              refine lv_icmp_eq (tgt := 111) hx hb dM_skip_102 (by decide) (fun c102 => ?_) (fun c102 => ?_)
              · skip
                refine lv_iconst (v := 1) hx hb dM_skip_111 (by decide) ?_
                refine lv_goto (tgt := 116) hx hb dM_skip_112 (by decide) ?_
                refine lv_istore_n (lv' := [(1, .int 1), (3, .int 0), (2, .int (T q)), (0, .ref h)]) hx hb dM_skip_116 rfl hl (by decide) rfl (fun ls hl => ?_)
                refine lv_iload_n hx hb dM_skip_117 rfl (lv_at hl 0 rfl) ?_
                refine lv_if_eq (tgt := 2) hx hb dM_skip_118 (by decide) (fun c118 => absurd c118 (by decide)) (fun c118 => ?_)
                refine lv_iload_n hx hb dM_skip_121 rfl (lv_at hl 1 rfl) ?_
                refine lv_if_eq (tgt := 128) hx hb dM_skip_122 (by decide) (fun c122 => ?_) (fun c122 => absurd c122 (by decide))
                refine lv_aload_n hx hb dM_skip_128 rfl (lv_at hl 3 rfl) ?_
                refine lv_dup hx hb dM_skip_129 rfl ?_
                refine gM16 S hw dM_skip_130 ?_
                refine kz_top (y := nI M) g16 ?_
                refine lv_iload_n hx hb dM_skip_133 rfl (lv_at hl 2 rfl) ?_
                refine lv_bipush (v := 10) hx hb dM_skip_134 (by decide) ?_
                refine lv_icmp_ne (tgt := 143) hx hb dM_skip_136 (by decide) (fun c136 => ?_) (fun c136 => absurd c136 c96)
                refine lv_iconst (v := 0) hx hb dM_skip_143 (by decide) ?_
                refine lv_iadd hx hb dM_skip_144 ?_
                refine kz_top (y := nI M) (nI_add M 0) ?_
                refine pM16 S hw dM_skip_145 (fun H locs hw => ?_)
                refine lv_aload_n hx hb dM_skip_148 rfl (lv_at hl 3 rfl) ?_
                refine lv_dup hx hb dM_skip_149 rfl ?_
                refine gM15 S hw dM_skip_150 ?_
                refine kz_top (y := nI q) g15 ?_
                refine lv_iconst (v := 1) hx hb dM_skip_153 (by decide) ?_
                refine lv_iadd hx hb dM_skip_154 ?_
                refine kz_top (y := nI (q + 1)) (nI_add q 1) ?_
                refine pM15 S hw dM_skip_155 (fun H locs hw => ?_)
                refine lv_goto (tgt := 2) hx hb dM_skip_158 (by decide) ?_
                rw [skp_go hlt c96 (fun q => c18 q.1) (Or.inr (Or.inr (Or.inl c102)))] at hR
                exact ih (q + 1) (M) (upd (upd I1 16 (nI M)) 15 (nI (q + 1))) H locs ls (by omega) (by omega) rfl rfl (fun k h1 h2 => by simp [upd, h1, h2, gI k h1 h2]) hR hw (lv_sub hl [3, 0] rfl)
              · skip
                refine lv_iload_n hx hb dM_skip_105 rfl (lv_at hl 1 rfl) ?_
                refine lv_bipush (v := 32) hx hb dM_skip_106 (by decide) ?_
                refine lv_icmp_ne (tgt := 115) hx hb dM_skip_108 (by decide) (fun c108 => ?_) (fun c108 => ?_)
                · skip
                  refine lv_iconst (v := 0) hx hb dM_skip_115 (by decide) ?_
                  refine lv_istore_n (lv' := [(1, .int 0), (3, .int 0), (2, .int (T q)), (0, .ref h)]) hx hb dM_skip_116 rfl hl (by decide) rfl (fun ls hl => ?_)
                  refine lv_iload_n hx hb dM_skip_117 rfl (lv_at hl 0 rfl) ?_
                  refine lv_if_eq (tgt := 2) hx hb dM_skip_118 (by decide) (fun c118 => ?_) (fun c118 => absurd c118 (by decide))
                  refine lv_iload_n hx hb dM_skip_2 rfl (lv_at hl 0 rfl) ?_
                  refine lv_if_eq (tgt := 161) hx hb dM_skip_3 (by decide) (fun c3 => ?_) (fun c3 => absurd c3 (by decide))
                  exact MM.vret S hr hlk hw dM_skip_161 ⟨rfl, by rw [← hR, skp_st hlt c96 (fun q => c18 q.1) c90 c102 c108]; exact g15, by rw [← hR, skp_st hlt c96 (fun q => c18 q.1) c90 c102 c108]; exact g16, gI, rfl⟩
                · skip
                  refine lv_iconst (v := 1) hx hb dM_skip_111 (by decide) ?_
                  refine lv_goto (tgt := 116) hx hb dM_skip_112 (by decide) ?_
                  refine lv_istore_n (lv' := [(1, .int 1), (3, .int 0), (2, .int (T q)), (0, .ref h)]) hx hb dM_skip_116 rfl hl (by decide) rfl (fun ls hl => ?_)
                  refine lv_iload_n hx hb dM_skip_117 rfl (lv_at hl 0 rfl) ?_
                  refine lv_if_eq (tgt := 2) hx hb dM_skip_118 (by decide) (fun c118 => absurd c118 (by decide)) (fun c118 => ?_)
                  refine lv_iload_n hx hb dM_skip_121 rfl (lv_at hl 1 rfl) ?_
                  refine lv_if_eq (tgt := 128) hx hb dM_skip_122 (by decide) (fun c122 => ?_) (fun c122 => absurd c122 (by decide))
                  refine lv_aload_n hx hb dM_skip_128 rfl (lv_at hl 3 rfl) ?_
                  refine lv_dup hx hb dM_skip_129 rfl ?_
                  refine gM16 S hw dM_skip_130 ?_
                  refine kz_top (y := nI M) g16 ?_
                  refine lv_iload_n hx hb dM_skip_133 rfl (lv_at hl 2 rfl) ?_
                  refine lv_bipush (v := 10) hx hb dM_skip_134 (by decide) ?_
                  refine lv_icmp_ne (tgt := 143) hx hb dM_skip_136 (by decide) (fun c136 => ?_) (fun c136 => absurd c136 c96)
                  refine lv_iconst (v := 0) hx hb dM_skip_143 (by decide) ?_
                  refine lv_iadd hx hb dM_skip_144 ?_
                  refine kz_top (y := nI M) (nI_add M 0) ?_
                  refine pM16 S hw dM_skip_145 (fun H locs hw => ?_)
                  refine lv_aload_n hx hb dM_skip_148 rfl (lv_at hl 3 rfl) ?_
                  refine lv_dup hx hb dM_skip_149 rfl ?_
                  refine gM15 S hw dM_skip_150 ?_
                  refine kz_top (y := nI q) g15 ?_
                  refine lv_iconst (v := 1) hx hb dM_skip_153 (by decide) ?_
                  refine lv_iadd hx hb dM_skip_154 ?_
                  refine kz_top (y := nI (q + 1)) (nI_add q 1) ?_
                  refine pM15 S hw dM_skip_155 (fun H locs hw => ?_)
                  refine lv_goto (tgt := 2) hx hb dM_skip_158 (by decide) ?_
                  rw [skp_go hlt c96 (fun q => c18 q.1) (Or.inr (Or.inr (Or.inr c108)))] at hR
                  exact ih (q + 1) (M) (upd (upd I1 16 (nI M)) 15 (nI (q + 1))) H locs ls (by omega) (by omega) rfl rfl (fun k h1 h2 => by simp [upd, h1, h2, gI k h1 h2]) hR hw (lv_sub hl [3, 0] rfl)
        · skip
          refine lv_aload_n hx hb dM_skip_21 rfl (lv_at hl 1 rfl) ?_
          refine lv_aload_n hx hb dM_skip_22 rfl (lv_at hl 1 rfl) ?_
          refine gM15 S hw dM_skip_23 ?_
          refine kz_top (y := nI q) g15 ?_
          refine lv_iconst (v := 1) hx hb dM_skip_26 (by decide) ?_
          refine lv_iadd hx hb dM_skip_27 ?_
          refine kz_top (y := nI (q + 1)) (nI_add q 1) ?_
          refine kcMi (rest := []) S kM_74 rfl (tM_see l I1 F T n hT1 (q + 1) (by omega)) hw hA ⟨Nat.le_of_ble_eq_true rfl, Nat.le_of_ble_eq_true rfl⟩ rfl rfl ⟨Nat.zero_le _, Nat.zero_le _⟩ rfl hl.1 (Nat.le_of_ble_eq_true rfl) dM_skip_28 (fun r I' F' H locs hq hw => ?_)
          obtain ⟨hr1, hr2, hr3⟩ := hq
          rw [hr2, hr3] at hw
          subst hr1
          refine lv_bipush (v := 47) hx hb dM_skip_31 (by decide) ?_
          refine lv_icmp_ne (tgt := 40) hx hb dM_skip_33 (by decide) (fun c33 => ?_) (fun c33 => ?_)
          · skip
            refine lv_iconst (v := 0) hx hb dM_skip_40 (by decide) ?_
            refine lv_istore_n (lv' := [(3, .int 0), (2, .int (T q)), (0, .ref h), (1, .int 1)]) hx hb dM_skip_41 rfl hl (by decide) rfl (fun ls hl => ?_)
            refine lv_iload_n hx hb dM_skip_42 rfl (lv_at hl 0 rfl) ?_
            refine lv_if_eq (tgt := 83) hx hb dM_skip_43 (by decide) (fun c43 => ?_) (fun c43 => absurd c43 (by decide))
            refine lv_iload_n hx hb dM_skip_83 rfl (lv_at hl 0 rfl) ?_
            refine lv_if_ne (tgt := 111) hx hb dM_skip_84 (by decide) (fun c84 => absurd c84 (by decide)) (fun c84 => ?_)
            refine lv_iload_n hx hb dM_skip_87 rfl (lv_at hl 1 rfl) ?_
            refine lv_bipush (v := 9) hx hb dM_skip_88 (by decide) ?_
            refine lv_icmp_eq (tgt := 111) hx hb dM_skip_90 (by decide) (fun c90 => ?_) (fun c90 => ?_)
            · skip
              refine lv_iconst (v := 1) hx hb dM_skip_111 (by decide) ?_
              refine lv_goto (tgt := 116) hx hb dM_skip_112 (by decide) ?_
              refine lv_istore_n (lv' := [(1, .int 1), (3, .int 0), (2, .int (T q)), (0, .ref h)]) hx hb dM_skip_116 rfl hl (by decide) rfl (fun ls hl => ?_)
              refine lv_iload_n hx hb dM_skip_117 rfl (lv_at hl 0 rfl) ?_
              refine lv_if_eq (tgt := 2) hx hb dM_skip_118 (by decide) (fun c118 => absurd c118 (by decide)) (fun c118 => ?_)
              refine lv_iload_n hx hb dM_skip_121 rfl (lv_at hl 1 rfl) ?_
              refine lv_if_eq (tgt := 128) hx hb dM_skip_122 (by decide) (fun c122 => ?_) (fun c122 => absurd c122 (by decide))
              refine lv_aload_n hx hb dM_skip_128 rfl (lv_at hl 3 rfl) ?_
              refine lv_dup hx hb dM_skip_129 rfl ?_
              refine gM16 S hw dM_skip_130 ?_
              refine kz_top (y := nI M) g16 ?_
              refine lv_iload_n hx hb dM_skip_133 rfl (lv_at hl 2 rfl) ?_
              refine lv_bipush (v := 10) hx hb dM_skip_134 (by decide) ?_
              refine lv_icmp_ne (tgt := 143) hx hb dM_skip_136 (by decide) (fun c136 => ?_) (fun c136 => absurd (c90.symm.trans c136) (by decide))
              refine lv_iconst (v := 0) hx hb dM_skip_143 (by decide) ?_
              refine lv_iadd hx hb dM_skip_144 ?_
              refine kz_top (y := nI M) (nI_add M 0) ?_
              refine pM16 S hw dM_skip_145 (fun H locs hw => ?_)
              refine lv_aload_n hx hb dM_skip_148 rfl (lv_at hl 3 rfl) ?_
              refine lv_dup hx hb dM_skip_149 rfl ?_
              refine gM15 S hw dM_skip_150 ?_
              refine kz_top (y := nI q) g15 ?_
              refine lv_iconst (v := 1) hx hb dM_skip_153 (by decide) ?_
              refine lv_iadd hx hb dM_skip_154 ?_
              refine kz_top (y := nI (q + 1)) (nI_add q 1) ?_
              refine pM15 S hw dM_skip_155 (fun H locs hw => ?_)
              refine lv_goto (tgt := 2) hx hb dM_skip_158 (by decide) ?_
              rw [skp_go hlt (by rw [c90]; decide) (fun q => c33 q.2) (Or.inr (Or.inl c90))] at hR
              exact ih (q + 1) (M) (upd (upd I1 16 (nI M)) 15 (nI (q + 1))) H locs ls (by omega) (by omega) rfl rfl (fun k h1 h2 => by simp [upd, h1, h2, gI k h1 h2]) hR hw (lv_sub hl [3, 0] rfl)
            · skip
              refine lv_iload_n hx hb dM_skip_93 rfl (lv_at hl 1 rfl) ?_
              refine lv_bipush (v := 10) hx hb dM_skip_94 (by decide) ?_
              refine lv_icmp_eq (tgt := 111) hx hb dM_skip_96 (by decide) (fun c96 => ?_) (fun c96 => ?_)
              · skip
                refine lv_iconst (v := 1) hx hb dM_skip_111 (by decide) ?_
                refine lv_goto (tgt := 116) hx hb dM_skip_112 (by decide) ?_
                refine lv_istore_n (lv' := [(1, .int 1), (3, .int 0), (2, .int (T q)), (0, .ref h)]) hx hb dM_skip_116 rfl hl (by decide) rfl (fun ls hl => ?_)
                refine lv_iload_n hx hb dM_skip_117 rfl (lv_at hl 0 rfl) ?_
                refine lv_if_eq (tgt := 2) hx hb dM_skip_118 (by decide) (fun c118 => absurd c118 (by decide)) (fun c118 => ?_)
                refine lv_iload_n hx hb dM_skip_121 rfl (lv_at hl 1 rfl) ?_
                refine lv_if_eq (tgt := 128) hx hb dM_skip_122 (by decide) (fun c122 => ?_) (fun c122 => absurd c122 (by decide))
                refine lv_aload_n hx hb dM_skip_128 rfl (lv_at hl 3 rfl) ?_
                refine lv_dup hx hb dM_skip_129 rfl ?_
                refine gM16 S hw dM_skip_130 ?_
                refine kz_top (y := nI M) g16 ?_
                refine lv_iload_n hx hb dM_skip_133 rfl (lv_at hl 2 rfl) ?_
                refine lv_bipush (v := 10) hx hb dM_skip_134 (by decide) ?_
                refine lv_icmp_ne (tgt := 143) hx hb dM_skip_136 (by decide) (fun c136 => absurd c96 c136) (fun c136 => ?_)
                refine lv_iconst (v := 1) hx hb dM_skip_139 (by decide) ?_
                refine lv_goto (tgt := 144) hx hb dM_skip_140 (by decide) ?_
                refine lv_iadd hx hb dM_skip_144 ?_
                refine kz_top (nI_1 M) ?_
                refine pM16 S hw dM_skip_145 (fun H locs hw => ?_)
                refine lv_aload_n hx hb dM_skip_148 rfl (lv_at hl 3 rfl) ?_
                refine lv_dup hx hb dM_skip_149 rfl ?_
                refine gM15 S hw dM_skip_150 ?_
                refine kz_top (y := nI q) g15 ?_
                refine lv_iconst (v := 1) hx hb dM_skip_153 (by decide) ?_
                refine lv_iadd hx hb dM_skip_154 ?_
                refine kz_top (y := nI (q + 1)) (nI_add q 1) ?_
                refine pM15 S hw dM_skip_155 (fun H locs hw => ?_)
                refine lv_goto (tgt := 2) hx hb dM_skip_158 (by decide) ?_
                rw [skp_nl hlt c96] at hR
                exact ih (q + 1) (M + 1) (upd (upd I1 16 (nI (M + 1))) 15 (nI (q + 1))) H locs ls (by omega) (by omega) rfl rfl (fun k h1 h2 => by simp [upd, h1, h2, gI k h1 h2]) hR hw (lv_sub hl [3, 0] rfl)
              · skip
                refine lv_iload_n hx hb dM_skip_99 rfl (lv_at hl 1 rfl) ?_
                refine lv_bipush (v := 13) hx hb dM_skip_100 (by decide) ?_
                refine lv_icmp_eq (tgt := 111) hx hb dM_skip_102 (by decide) (fun c102 => ?_) (fun c102 => ?_)
                · skip
                  refine lv_iconst (v := 1) hx hb dM_skip_111 (by decide) ?_
                  refine lv_goto (tgt := 116) hx hb dM_skip_112 (by decide) ?_
                  refine lv_istore_n (lv' := [(1, .int 1), (3, .int 0), (2, .int (T q)), (0, .ref h)]) hx hb dM_skip_116 rfl hl (by decide) rfl (fun ls hl => ?_)
                  refine lv_iload_n hx hb dM_skip_117 rfl (lv_at hl 0 rfl) ?_
                  refine lv_if_eq (tgt := 2) hx hb dM_skip_118 (by decide) (fun c118 => absurd c118 (by decide)) (fun c118 => ?_)
                  refine lv_iload_n hx hb dM_skip_121 rfl (lv_at hl 1 rfl) ?_
                  refine lv_if_eq (tgt := 128) hx hb dM_skip_122 (by decide) (fun c122 => ?_) (fun c122 => absurd c122 (by decide))
                  refine lv_aload_n hx hb dM_skip_128 rfl (lv_at hl 3 rfl) ?_
                  refine lv_dup hx hb dM_skip_129 rfl ?_
                  refine gM16 S hw dM_skip_130 ?_
                  refine kz_top (y := nI M) g16 ?_
                  refine lv_iload_n hx hb dM_skip_133 rfl (lv_at hl 2 rfl) ?_
                  refine lv_bipush (v := 10) hx hb dM_skip_134 (by decide) ?_
                  refine lv_icmp_ne (tgt := 143) hx hb dM_skip_136 (by decide) (fun c136 => ?_) (fun c136 => absurd c136 c96)
                  refine lv_iconst (v := 0) hx hb dM_skip_143 (by decide) ?_
                  refine lv_iadd hx hb dM_skip_144 ?_
                  refine kz_top (y := nI M) (nI_add M 0) ?_
                  refine pM16 S hw dM_skip_145 (fun H locs hw => ?_)
                  refine lv_aload_n hx hb dM_skip_148 rfl (lv_at hl 3 rfl) ?_
                  refine lv_dup hx hb dM_skip_149 rfl ?_
                  refine gM15 S hw dM_skip_150 ?_
                  refine kz_top (y := nI q) g15 ?_
                  refine lv_iconst (v := 1) hx hb dM_skip_153 (by decide) ?_
                  refine lv_iadd hx hb dM_skip_154 ?_
                  refine kz_top (y := nI (q + 1)) (nI_add q 1) ?_
                  refine pM15 S hw dM_skip_155 (fun H locs hw => ?_)
                  refine lv_goto (tgt := 2) hx hb dM_skip_158 (by decide) ?_
                  rw [skp_go hlt c96 (fun q => c33 q.2) (Or.inr (Or.inr (Or.inl c102)))] at hR
                  exact ih (q + 1) (M) (upd (upd I1 16 (nI M)) 15 (nI (q + 1))) H locs ls (by omega) (by omega) rfl rfl (fun k h1 h2 => by simp [upd, h1, h2, gI k h1 h2]) hR hw (lv_sub hl [3, 0] rfl)
                · skip
                  refine lv_iload_n hx hb dM_skip_105 rfl (lv_at hl 1 rfl) ?_
                  refine lv_bipush (v := 32) hx hb dM_skip_106 (by decide) ?_
                  refine lv_icmp_ne (tgt := 115) hx hb dM_skip_108 (by decide) (fun c108 => ?_) (fun c108 => ?_)
                  · skip
                    refine lv_iconst (v := 0) hx hb dM_skip_115 (by decide) ?_
                    refine lv_istore_n (lv' := [(1, .int 0), (3, .int 0), (2, .int (T q)), (0, .ref h)]) hx hb dM_skip_116 rfl hl (by decide) rfl (fun ls hl => ?_)
                    refine lv_iload_n hx hb dM_skip_117 rfl (lv_at hl 0 rfl) ?_
                    refine lv_if_eq (tgt := 2) hx hb dM_skip_118 (by decide) (fun c118 => ?_) (fun c118 => absurd c118 (by decide))
                    refine lv_iload_n hx hb dM_skip_2 rfl (lv_at hl 0 rfl) ?_
                    refine lv_if_eq (tgt := 161) hx hb dM_skip_3 (by decide) (fun c3 => ?_) (fun c3 => absurd c3 (by decide))
                    exact MM.vret S hr hlk hw dM_skip_161 ⟨rfl, by rw [← hR, skp_st hlt c96 (fun q => c33 q.2) c90 c102 c108]; exact g15, by rw [← hR, skp_st hlt c96 (fun q => c33 q.2) c90 c102 c108]; exact g16, gI, rfl⟩
                  · skip
                    refine lv_iconst (v := 1) hx hb dM_skip_111 (by decide) ?_
                    refine lv_goto (tgt := 116) hx hb dM_skip_112 (by decide) ?_
                    refine lv_istore_n (lv' := [(1, .int 1), (3, .int 0), (2, .int (T q)), (0, .ref h)]) hx hb dM_skip_116 rfl hl (by decide) rfl (fun ls hl => ?_)
                    refine lv_iload_n hx hb dM_skip_117 rfl (lv_at hl 0 rfl) ?_
                    refine lv_if_eq (tgt := 2) hx hb dM_skip_118 (by decide) (fun c118 => absurd c118 (by decide)) (fun c118 => ?_)
                    refine lv_iload_n hx hb dM_skip_121 rfl (lv_at hl 1 rfl) ?_
                    refine lv_if_eq (tgt := 128) hx hb dM_skip_122 (by decide) (fun c122 => ?_) (fun c122 => absurd c122 (by decide))
                    refine lv_aload_n hx hb dM_skip_128 rfl (lv_at hl 3 rfl) ?_
                    refine lv_dup hx hb dM_skip_129 rfl ?_
                    refine gM16 S hw dM_skip_130 ?_
                    refine kz_top (y := nI M) g16 ?_
                    refine lv_iload_n hx hb dM_skip_133 rfl (lv_at hl 2 rfl) ?_
                    refine lv_bipush (v := 10) hx hb dM_skip_134 (by decide) ?_
                    refine lv_icmp_ne (tgt := 143) hx hb dM_skip_136 (by decide) (fun c136 => ?_) (fun c136 => absurd c136 c96)
                    refine lv_iconst (v := 0) hx hb dM_skip_143 (by decide) ?_
                    refine lv_iadd hx hb dM_skip_144 ?_
                    refine kz_top (y := nI M) (nI_add M 0) ?_
                    refine pM16 S hw dM_skip_145 (fun H locs hw => ?_)
                    refine lv_aload_n hx hb dM_skip_148 rfl (lv_at hl 3 rfl) ?_
                    refine lv_dup hx hb dM_skip_149 rfl ?_
                    refine gM15 S hw dM_skip_150 ?_
                    refine kz_top (y := nI q) g15 ?_
                    refine lv_iconst (v := 1) hx hb dM_skip_153 (by decide) ?_
                    refine lv_iadd hx hb dM_skip_154 ?_
                    refine kz_top (y := nI (q + 1)) (nI_add q 1) ?_
                    refine pM15 S hw dM_skip_155 (fun H locs hw => ?_)
                    refine lv_goto (tgt := 2) hx hb dM_skip_158 (by decide) ?_
                    rw [skp_go hlt c96 (fun q => c33 q.2) (Or.inr (Or.inr (Or.inr c108)))] at hR
                    exact ih (q + 1) (M) (upd (upd I1 16 (nI M)) 15 (nI (q + 1))) H locs ls (by omega) (by omega) rfl rfl (fun k h1 h2 => by simp [upd, h1, h2, gI k h1 h2]) hR hw (lv_sub hl [3, 0] rfl)
          · skip
            refine lv_iconst (v := 1) hx hb dM_skip_36 (by decide) ?_
            refine lv_goto (tgt := 41) hx hb dM_skip_37 (by decide) ?_
            refine lv_istore_n (lv' := [(3, .int 1), (2, .int (T q)), (0, .ref h), (1, .int 1)]) hx hb dM_skip_41 rfl hl (by decide) rfl (fun ls hl => ?_)
            have loop42 : ∀ (fv x : Nat) (I2 : Nat → Int32) (H : Heap) (locs : List Loc) (ls : Array Slot), q ≤ x → x ≤ n → n + 1 ≤ x + fv → I2 15 = nI x → I2 16 = nI M → (∀ k, k ≠ 15 → k ≠ 16 → I2 k = I k) → skp T n (n - x) true x M = skp T n (n - p) false p L → sM z D cA h a (AM h a s.heap.size) s H locs I2 F → lv_has ls 4 [(0, .ref h), (1, .int 1), (2, .int (T q)), (3, .int 1)] → W pg l en ({ frames := 1, cells := 0, slots := 0, locals := 21 }) s m ([.ref h] : List Value).toArray below meth c H locs 0 0 (MQ below (QM z D cA h a s.heap.size (vR (fun I' F' => I' 15 = nI (skp T n (n - p) false p L).1 ∧ I' 16 = nI (skp T n (n - p) false p L).2 ∧ (∀ k, k ≠ 15 → k ≠ 16 → I' k = I k) ∧ F' = F))) ([.ref h] : List Value).toArray s 0 0 (AM h a s.heap.size)) (F0 m 42 ls []) := by
              intro fv
              induction fv with
              | zero => intro x I2 H locs ls hx1 hx2 hf2 y15 y16 yI hRx hw hl; omega
              | succ fv ih2 =>
                intro x I2 H locs ls hx1 hx2 hf2 y15 y16 yI hRx hw hl
                have hT2 : tpM T n I2 F := hT.of (yI 2 (by decide) (by decide)) rfl
                refine lv_iload_n hx hb dM_skip_42 rfl (lv_at hl 3 rfl) ?_
                refine lv_if_eq (tgt := 83) hx hb dM_skip_43 (by decide) (fun c43 => absurd c43 (by decide)) (fun c43 => ?_)
                refine lv_aload_n hx hb dM_skip_46 rfl (lv_at hl 0 rfl) ?_
                refine gM15 S hw dM_skip_47 ?_
                refine kz_top (y := nI x) y15 ?_
                refine lv_aload_n hx hb dM_skip_50 rfl (lv_at hl 0 rfl) ?_
                refine gM2 S hw dM_skip_51 ?_
                refine kz_top (y := nI n) hT2.1 ?_
                refine lv_icmp_ge (tgt := 83) hx hb dM_skip_54 (by decide) (fun c54 => ?_) (fun c54 => ?_)
                · skip
                  have hRx : skp T n (n - x) false x M = skp T n (n - p) false p L := by rw [← hRx, skp_end ((nI_leI (by omega) (by omega)).mp c54), skp_end ((nI_leI (by omega) (by omega)).mp c54)]
                  have hxq : q < x := Nat.lt_of_lt_of_le hlt ((nI_leI (by omega) (by omega)).mp c54)
                  refine lv_iload_n hx hb dM_skip_83 rfl (lv_at hl 3 rfl) ?_
                  refine lv_if_ne (tgt := 111) hx hb dM_skip_84 (by decide) (fun c84 => ?_) (fun c84 => absurd c84 (by decide))
                  refine lv_iconst (v := 1) hx hb dM_skip_111 (by decide) ?_
                  refine lv_goto (tgt := 116) hx hb dM_skip_112 (by decide) ?_
                  refine lv_istore_n (lv' := [(1, .int 1), (0, .ref h), (2, .int (T q)), (3, .int 1)]) hx hb dM_skip_116 rfl hl (by decide) rfl (fun ls hl => ?_)
                  refine lv_iload_n hx hb dM_skip_117 rfl (lv_at hl 0 rfl) ?_
                  refine lv_if_eq (tgt := 2) hx hb dM_skip_118 (by decide) (fun c118 => absurd c118 (by decide)) (fun c118 => ?_)
                  refine lv_iload_n hx hb dM_skip_121 rfl (lv_at hl 3 rfl) ?_
                  refine lv_if_eq (tgt := 128) hx hb dM_skip_122 (by decide) (fun c122 => absurd c122 (by decide)) (fun c122 => ?_)
                  refine lv_goto (tgt := 2) hx hb dM_skip_125 (by decide) ?_
                  exact ih x M I2 H locs ls hx2 (by omega) y15 y16 (fun k a b => yI k a b) hRx hw (lv_sub hl [1, 0] rfl)
                · skip
                  refine lv_aload_n hx hb dM_skip_57 rfl (lv_at hl 0 rfl) ?_
                  refine lv_aload_n hx hb dM_skip_58 rfl (lv_at hl 0 rfl) ?_
                  refine gM15 S hw dM_skip_59 ?_
                  refine kz_top (y := nI x) y15 ?_
                  have hlx : x < n := Nat.lt_of_not_le (fun z => c54 (nI_le z (by omega)))
                  refine kcMi (rest := []) S kM_74 rfl (tM_see l I2 F T n hT2 x (by omega)) hw hA ⟨Nat.le_of_ble_eq_true rfl, Nat.le_of_ble_eq_true rfl⟩ rfl rfl ⟨Nat.zero_le _, Nat.zero_le _⟩ rfl hl.1 (Nat.le_of_ble_eq_true rfl) dM_skip_62 (fun r I' F' H locs hq hw => ?_)
                  obtain ⟨hr1, hr2, hr3⟩ := hq
                  rw [hr2, hr3] at hw
                  subst hr1
                  refine kz_top (see_in hlx) ?_
                  refine lv_bipush (v := 10) hx hb dM_skip_65 (by decide) ?_
                  refine lv_icmp_eq (tgt := 83) hx hb dM_skip_67 (by decide) (fun c67 => ?_) (fun c67 => ?_)
                  · skip
                    have hRx : skp T n (n - x) false x M = skp T n (n - p) false p L := by rw [← hRx, skp_nl hlx c67, skp_nl hlx c67]
                    have hxq : q < x := Nat.lt_of_le_of_ne hx1 (fun z => by rw [← z, c18] at c67; exact absurd c67 (by decide))
                    refine lv_iload_n hx hb dM_skip_83 rfl (lv_at hl 3 rfl) ?_
                    refine lv_if_ne (tgt := 111) hx hb dM_skip_84 (by decide) (fun c84 => ?_) (fun c84 => absurd c84 (by decide))
                    refine lv_iconst (v := 1) hx hb dM_skip_111 (by decide) ?_
                    refine lv_goto (tgt := 116) hx hb dM_skip_112 (by decide) ?_
                    refine lv_istore_n (lv' := [(1, .int 1), (0, .ref h), (2, .int (T q)), (3, .int 1)]) hx hb dM_skip_116 rfl hl (by decide) rfl (fun ls hl => ?_)
                    refine lv_iload_n hx hb dM_skip_117 rfl (lv_at hl 0 rfl) ?_
                    refine lv_if_eq (tgt := 2) hx hb dM_skip_118 (by decide) (fun c118 => absurd c118 (by decide)) (fun c118 => ?_)
                    refine lv_iload_n hx hb dM_skip_121 rfl (lv_at hl 3 rfl) ?_
                    refine lv_if_eq (tgt := 128) hx hb dM_skip_122 (by decide) (fun c122 => absurd c122 (by decide)) (fun c122 => ?_)
                    refine lv_goto (tgt := 2) hx hb dM_skip_125 (by decide) ?_
                    exact ih x M I2 H locs ls hx2 (by omega) y15 y16 (fun k a b => yI k a b) hRx hw (lv_sub hl [1, 0] rfl)
                  · skip
                    have hRx : skp T n (n - (x + 1)) true (x + 1) M = skp T n (n - p) false p L := by
                      by_cases z : T x = 47 ∧ seeT T n (x + 1) = 47
                      · rw [← hRx, skp_rm hlx c67 z.1 z.2]
                      · rw [← hRx, skp_go hlx c67 z (Or.inl rfl)]
                    refine lv_aload_n hx hb dM_skip_70 rfl (lv_at hl 0 rfl) ?_
                    refine lv_dup hx hb dM_skip_71 rfl ?_
                    refine gM15 S hw dM_skip_72 ?_
                    refine kz_top (y := nI x) y15 ?_
                    refine lv_iconst (v := 1) hx hb dM_skip_75 (by decide) ?_
                    refine lv_iadd hx hb dM_skip_76 ?_
                    refine kz_top (y := nI (x + 1)) (nI_add x 1) ?_
                    refine pM15 S hw dM_skip_77 (fun H locs hw => ?_)
                    refine lv_goto (tgt := 42) hx hb dM_skip_80 (by decide) ?_
                    exact ih2 (x + 1) (upd I2 15 (nI (x + 1))) H locs ls (by omega) (by omega) (by omega) rfl y16 (fun k a b => by simp [upd, a, yI k a b]) hRx hw (lv_sub hl [0, 1, 2, 3] rfl)
            exact loop42 (n - q + 1) q I1 H locs ls (Nat.le_refl _) hq0 (by omega) g15 g16 gI ((skp_rm hlt (by rw [c18]; decide) c18 c33).trans ((skp_rm hlt (by rw [c18]; decide) c18 c33).symm.trans hR)) hw (lv_sub hl [2, 3, 1, 0] rfl)
      · skip
        refine lv_iload_n hx hb dM_skip_2 rfl (lv_at hl 1 rfl) ?_
        refine lv_if_eq (tgt := 161) hx hb dM_skip_3 (by decide) (fun c3 => absurd c3 (by decide)) (fun c3 => ?_)
        refine lv_aload_n hx hb dM_skip_6 rfl (lv_at hl 0 rfl) ?_
        refine lv_aload_n hx hb dM_skip_7 rfl (lv_at hl 0 rfl) ?_
        refine gM15 S hw dM_skip_8 ?_
        refine kz_top (y := nI q) g15 ?_
        refine kcMi (rest := []) S kM_74 rfl (tM_see l I1 F T n hT1 q (by omega)) hw hA ⟨Nat.le_of_ble_eq_true rfl, Nat.le_of_ble_eq_true rfl⟩ rfl rfl ⟨Nat.zero_le _, Nat.zero_le _⟩ rfl hl.1 (Nat.le_of_ble_eq_true rfl) dM_skip_11 (fun r I' F' H locs hq hw => ?_)
        obtain ⟨hr1, hr2, hr3⟩ := hq
        rw [hr2, hr3] at hw
        subst hr1
        refine kz_top (y := -1) (see_out (Nat.le_of_eq hqe.symm)) ?_
        refine lv_istore_n (lv' := [(2, .int (-1)), (0, .ref h), (1, .int 1)]) hx hb dM_skip_14 rfl hl (by decide) rfl (fun ls hl => ?_)
        refine lv_iload_n hx hb dM_skip_15 rfl (lv_at hl 0 rfl) ?_
        refine lv_bipush (v := 47) hx hb dM_skip_16 (by decide) ?_
        refine lv_icmp_ne (tgt := 40) hx hb dM_skip_18 (by decide) (fun c18 => ?_) (fun c18 => absurd c18 (by decide))
        refine lv_iconst (v := 0) hx hb dM_skip_40 (by decide) ?_
        refine lv_istore_n (lv' := [(3, .int 0), (2, .int (-1)), (0, .ref h), (1, .int 1)]) hx hb dM_skip_41 rfl hl (by decide) rfl (fun ls hl => ?_)
        refine lv_iload_n hx hb dM_skip_42 rfl (lv_at hl 0 rfl) ?_
        refine lv_if_eq (tgt := 83) hx hb dM_skip_43 (by decide) (fun c43 => ?_) (fun c43 => absurd c43 (by decide))
        refine lv_iload_n hx hb dM_skip_83 rfl (lv_at hl 0 rfl) ?_
        refine lv_if_ne (tgt := 111) hx hb dM_skip_84 (by decide) (fun c84 => absurd c84 (by decide)) (fun c84 => ?_)
        refine lv_iload_n hx hb dM_skip_87 rfl (lv_at hl 1 rfl) ?_
        refine lv_bipush (v := 9) hx hb dM_skip_88 (by decide) ?_
        refine lv_icmp_eq (tgt := 111) hx hb dM_skip_90 (by decide) (fun c90 => absurd c90 (by decide)) (fun c90 => ?_)
        refine lv_iload_n hx hb dM_skip_93 rfl (lv_at hl 1 rfl) ?_
        refine lv_bipush (v := 10) hx hb dM_skip_94 (by decide) ?_
        refine lv_icmp_eq (tgt := 111) hx hb dM_skip_96 (by decide) (fun c96 => absurd c96 (by decide)) (fun c96 => ?_)
        refine lv_iload_n hx hb dM_skip_99 rfl (lv_at hl 1 rfl) ?_
        refine lv_bipush (v := 13) hx hb dM_skip_100 (by decide) ?_
        refine lv_icmp_eq (tgt := 111) hx hb dM_skip_102 (by decide) (fun c102 => absurd c102 (by decide)) (fun c102 => ?_)
        refine lv_iload_n hx hb dM_skip_105 rfl (lv_at hl 1 rfl) ?_
        refine lv_bipush (v := 32) hx hb dM_skip_106 (by decide) ?_
        refine lv_icmp_ne (tgt := 115) hx hb dM_skip_108 (by decide) (fun c108 => ?_) (fun c108 => absurd c108 (by decide))
        refine lv_iconst (v := 0) hx hb dM_skip_115 (by decide) ?_
        refine lv_istore_n (lv' := [(1, .int 0), (3, .int 0), (2, .int (-1)), (0, .ref h)]) hx hb dM_skip_116 rfl hl (by decide) rfl (fun ls hl => ?_)
        refine lv_iload_n hx hb dM_skip_117 rfl (lv_at hl 0 rfl) ?_
        refine lv_if_eq (tgt := 2) hx hb dM_skip_118 (by decide) (fun c118 => ?_) (fun c118 => absurd c118 (by decide))
        refine lv_iload_n hx hb dM_skip_2 rfl (lv_at hl 0 rfl) ?_
        refine lv_if_eq (tgt := 161) hx hb dM_skip_3 (by decide) (fun c3 => ?_) (fun c3 => absurd c3 (by decide))
        exact MM.vret S hr hlk hw dM_skip_161 ⟨rfl, by rw [← hR, skp_end (Nat.le_of_eq hqe.symm)]; exact g15, by rw [← hR, skp_end (Nat.le_of_eq hqe.symm)]; exact g16, gI, rfl⟩
  refine lv_iconst (v := 1) hx hb dM_skip_0 (by decide) ?_
  refine lv_istore_n (lv' := [(1, .int 1), (0, .ref h)]) hx hb dM_skip_1 rfl hl (by decide) rfl (fun ls hl => ?_)
  exact loop2 (n - p + 1) p L I s.heap [] ls hp (by omega) h15 h16 (fun _ _ _ => rfl) rfl hw (lv_sub hl [1, 0] rfl)
