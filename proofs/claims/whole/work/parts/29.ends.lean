/-! ===== the reference: a token is added, its text said ===== -/
/-- the tokens ts, and behind them t, whose text begins at e0 and ends where the texts end -/
def curM (ts : List kz_T) (t : kz_T) (e0 : Nat) (I : Nat → Int32) (F : Nat → Nat → Int32) : Prop := I 3 = nI (ts.length + 1) ∧ ts.length ≤ 1000 ∧ (∀ k u, ts[k]? = some u → tokM F e0 k u) ∧ F 4 ts.length = t.1 ∧ F 5 ts.length = nI t.2.1 ∧ F 6 ts.length = nI t.2.2.1 ∧ F 7 ts.length = t.2.2.2.1 ∧ t.2.2.1 ≤ 1000 ∧ F 8 ts.length = nI e0 ∧ F 9 ts.length = nI t.2.2.2.2.length ∧ I 11 = nI (e0 + t.2.2.2.2.length) ∧ ∀ j x, t.2.2.2.2[j]? = some x → F 10 (e0 + j) = x
theorem tokM.mono {F : Nat → Nat → Int32} {e e' k : Nat} {t : kz_T} (h : tokM F e k t) (he : e ≤ e') : tokM F e' k t := by
  obtain ⟨a4, a5, a6, a7, al, b, a8, a9, ae, ax⟩ := h
  exact ⟨a4, a5, a6, a7, al, b, a8, a9, by omega, ax⟩
/-- a token elsewhere stays -/
theorem tokM.keep {F F' : Nat → Nat → Int32} {e k : Nat} {t : kz_T} (h : tokM F e k t) (h4 : F' 4 k = F 4 k) (h5 : F' 5 k = F 5 k) (h6 : F' 6 k = F 6 k) (h7 : F' 7 k = F 7 k) (h8 : F' 8 k = F 8 k) (h9 : F' 9 k = F 9 k) (hx : ∀ j, j < e → F' 10 j = F 10 j) : tokM F' e k t := by
  obtain ⟨a4, a5, a6, a7, al, b, a8, a9, ae, ax⟩ := h
  refine ⟨h4.trans a4, h5.trans a5, h6.trans a6, h7.trans a7, al, b, h8.trans a8, h9.trans a9, ae, fun j x hj => ?_⟩
  have := (List.getElem?_eq_some_iff.mp hj).1
  rw [hx _ (by omega)]
  exact ax j x hj
theorem curM.tok {ts : List kz_T} {t : kz_T} {e0 : Nat} {I : Nat → Int32} {F : Nat → Nat → Int32} (h : curM ts t e0 I F) : tokM F (e0 + t.2.2.2.2.length) ts.length t := by
  obtain ⟨a1, a2, a3, a4, a5, a6, a7, al, a8, a9, a10, ax⟩ := h
  exact ⟨a4, a5, a6, a7, al, e0, a8, a9, Nat.le_refl _, ax⟩
theorem curM.rep {ts : List kz_T} {t : kz_T} {e0 : Nat} {I : Nat → Int32} {F : Nat → Nat → Int32} (h : curM ts t e0 I F) : repM (ts ++ [t]) (e0 + t.2.2.2.2.length) I F := by
  refine ⟨by rw [h.1, List.length_append]; rfl, by rw [List.length_append]; have := h.2.1; simp only [List.length_singleton]; omega, fun k u hu => ?_⟩
  rcases Nat.lt_or_ge k ts.length with q | q
  · rw [List.getElem?_append_left q] at hu
    exact (h.2.2.1 k u hu).mono (by omega)
  · rw [List.getElem?_append_right q] at hu
    have hz := (List.getElem?_eq_some_iff.mp hu).1
    simp only [List.length_singleton] at hz
    have e1 : k = ts.length := by omega
    subst e1
    rw [Nat.sub_self] at hu
    cases hu
    exact h.tok
theorem cl_ (c : Nat) (h : c ≤ 2000) : (nI c).toNatClampNeg = c := nI_clamp (by omega)
set_option maxHeartbeats 4000000 in
set_option maxRecDepth 100000 in
theorem tM_add (l : Launch) (I : Nat → Int32) (F : Nat → Nat → Int32) (ts : List kz_T) (e p L : Nat) (hrp : repM ts e I F) (hc : ts.length ≤ 1000) (h11 : I 11 = nI e) (h15 : I 15 = nI p) (h16 : I 16 = nI L) (hL : L ≤ 1000) (k v : Int32) : MM l yM_add cM_add 3 none ({ frames := 0, cells := 0, slots := 0, locals := 0 }) [.int k, .int v] I F (vR (fun I' F' => I' = upd I 3 (nI (ts.length + 1)) ∧ curM ts (k, p, L, v, []) e I' F' ∧ F' 1 = F 1)) := by
  refine MM.mk (by decide) (fun _ => Nat.le_of_ble_eq_true rfl) ?_
  intro z D cA h a pg en s m below meth c ls S hr hlk hA hw hl
  have hx := S.1
  have hb := S.2.1
  have hl : lv_has ls 3 [(0, .ref h), (1, .int k), (2, .int v)] := hl
  refine lv_aload_n hx hb dM_add_0 rfl (lv_at hl 0 rfl) ?_
  refine gM4 S hw dM_add_1 ?_
  refine lv_aload_n hx hb dM_add_4 rfl (lv_at hl 0 rfl) ?_
  refine gM3 S hw dM_add_5 ?_
  refine kz_top (y := nI ts.length) hrp.1 ?_
  refine lv_iload_n hx hb dM_add_8 rfl (lv_at hl 1 rfl) ?_
  refine stM4 S hw (vp_in_nI (by omega) (by decide)) dM_add_9 (fun H locs hw => ?_)
  refine lv_aload_n hx hb dM_add_10 rfl (lv_at hl 0 rfl) ?_
  refine gM5 S hw dM_add_11 ?_
  refine lv_aload_n hx hb dM_add_14 rfl (lv_at hl 0 rfl) ?_
  refine gM3 S hw dM_add_15 ?_
  refine kz_top (y := nI ts.length) hrp.1 ?_
  refine lv_aload_n hx hb dM_add_18 rfl (lv_at hl 0 rfl) ?_
  refine gM15 S hw dM_add_19 ?_
  refine kz_top (y := nI p) h15 ?_
  refine stM5 S hw (vp_in_nI (by omega) (by decide)) dM_add_22 (fun H locs hw => ?_)
  refine lv_aload_n hx hb dM_add_23 rfl (lv_at hl 0 rfl) ?_
  refine gM6 S hw dM_add_24 ?_
  refine lv_aload_n hx hb dM_add_27 rfl (lv_at hl 0 rfl) ?_
  refine gM3 S hw dM_add_28 ?_
  refine kz_top (y := nI ts.length) hrp.1 ?_
  refine lv_aload_n hx hb dM_add_31 rfl (lv_at hl 0 rfl) ?_
  refine gM16 S hw dM_add_32 ?_
  refine kz_top (y := nI L) h16 ?_
  refine stM6 S hw (vp_in_nI (by omega) (by decide)) dM_add_35 (fun H locs hw => ?_)
  refine lv_aload_n hx hb dM_add_36 rfl (lv_at hl 0 rfl) ?_
  refine gM7 S hw dM_add_37 ?_
  refine lv_aload_n hx hb dM_add_40 rfl (lv_at hl 0 rfl) ?_
  refine gM3 S hw dM_add_41 ?_
  refine kz_top (y := nI ts.length) hrp.1 ?_
  refine lv_iload_n hx hb dM_add_44 rfl (lv_at hl 2 rfl) ?_
  refine stM7 S hw (vp_in_nI (by omega) (by decide)) dM_add_45 (fun H locs hw => ?_)
  refine lv_aload_n hx hb dM_add_46 rfl (lv_at hl 0 rfl) ?_
  refine gM8 S hw dM_add_47 ?_
  refine lv_aload_n hx hb dM_add_50 rfl (lv_at hl 0 rfl) ?_
  refine gM3 S hw dM_add_51 ?_
  refine kz_top (y := nI ts.length) hrp.1 ?_
  refine lv_aload_n hx hb dM_add_54 rfl (lv_at hl 0 rfl) ?_
  refine gM11 S hw dM_add_55 ?_
  refine kz_top (y := nI e) h11 ?_
  refine stM8 S hw (vp_in_nI (by omega) (by decide)) dM_add_58 (fun H locs hw => ?_)
  refine lv_aload_n hx hb dM_add_59 rfl (lv_at hl 0 rfl) ?_
  refine gM9 S hw dM_add_60 ?_
  refine lv_aload_n hx hb dM_add_63 rfl (lv_at hl 0 rfl) ?_
  refine gM3 S hw dM_add_64 ?_
  refine kz_top (y := nI ts.length) hrp.1 ?_
  refine lv_iconst (v := 0) hx hb dM_add_67 (by decide) ?_
  refine stM9 S hw (vp_in_nI (by omega) (by decide)) dM_add_68 (fun H locs hw => ?_)
  refine lv_aload_n hx hb dM_add_69 rfl (lv_at hl 0 rfl) ?_
  refine lv_dup hx hb dM_add_70 rfl ?_
  refine gM3 S hw dM_add_71 ?_
  refine kz_top (y := nI ts.length) hrp.1 ?_
  refine lv_iconst (v := 1) hx hb dM_add_74 (by decide) ?_
  refine lv_iadd hx hb dM_add_75 ?_
  refine kz_top (y := nI (ts.length + 1)) (nI_add ts.length 1) ?_
  refine pM3 S hw dM_add_76 (fun H locs hw => ?_)
  exact MM.vret S hr hlk hw dM_add_79 ⟨rfl, by
    have hcl := cl_ ts.length (by omega)
    rw [hcl]
    refine ⟨rfl, ⟨rfl, hc, fun k u hu => ?_, pk_us, pk_us, pk_us, pk_us, hL, pk_us, pk_us, h11, fun j x hj => by simp at hj⟩, rfl⟩
    have hk := (List.getElem?_eq_some_iff.mp hu).1
    exact (hrp.2.2 k u hu).keep (pk_un (by omega)) (pk_un (by omega)) (pk_un (by omega)) (pk_un (by omega)) (pk_un (by omega)) (pk_un (by omega)) (fun _ _ => rfl)⟩
set_option maxHeartbeats 4000000 in
set_option maxRecDepth 100000 in
theorem tM_say (l : Launch) (I : Nat → Int32) (F : Nat → Nat → Int32) (ts : List kz_T) (t : kz_T) (e0 : Nat) (hcu : curM ts t e0 I F) (he : e0 + t.2.2.2.2.length < 2000) (x : Int32) : MM l yM_say cM_say 2 none ({ frames := 0, cells := 0, slots := 0, locals := 0 }) [.int x] I F (vR (fun I' F' => curM ts (t.1, t.2.1, t.2.2.1, t.2.2.2.1, t.2.2.2.2 ++ [x]) e0 I' F' ∧ (∀ k, k ≠ 11 → I' k = I k) ∧ F' 1 = F 1)) := by
  refine MM.mk (by decide) (fun _ => Nat.le_of_ble_eq_true rfl) ?_
  intro z D cA h a pg en s m below meth c ls S hr hlk hA hw hl
  have hx := S.1
  have hb := S.2.1
  have hl : lv_has ls 2 [(0, .ref h), (1, .int x)] := hl
  obtain ⟨a1, a2, a3, a4, a5, a6, a7, al, a8, a9, a10, ax⟩ := hcu
  refine lv_aload_n hx hb dM_say_0 rfl (lv_at hl 0 rfl) ?_
  refine gM10 S hw dM_say_1 ?_
  refine lv_aload_n hx hb dM_say_4 rfl (lv_at hl 0 rfl) ?_
  refine gM11 S hw dM_say_5 ?_
  refine kz_top (y := nI (e0 + t.2.2.2.2.length)) a10 ?_
  refine lv_iload_n hx hb dM_say_8 rfl (lv_at hl 1 rfl) ?_
  refine stM10 S hw (vp_in_nI (by omega) (by decide)) dM_say_9 (fun H locs hw => ?_)
  refine lv_aload_n hx hb dM_say_10 rfl (lv_at hl 0 rfl) ?_
  refine lv_dup hx hb dM_say_11 rfl ?_
  refine gM11 S hw dM_say_12 ?_
  refine kz_top (y := nI (e0 + t.2.2.2.2.length)) a10 ?_
  refine lv_iconst (v := 1) hx hb dM_say_15 (by decide) ?_
  refine lv_iadd hx hb dM_say_16 ?_
  refine kz_top (y := nI (e0 + t.2.2.2.2.length + 1)) (nI_add (e0 + t.2.2.2.2.length) 1) ?_
  refine pM11 S hw dM_say_17 (fun H locs hw => ?_)
  refine lv_aload_n hx hb dM_say_20 rfl (lv_at hl 0 rfl) ?_
  refine gM9 S hw dM_say_21 ?_
  refine lv_aload_n hx hb dM_say_24 rfl (lv_at hl 0 rfl) ?_
  refine gM3 S hw dM_say_25 ?_
  refine kz_top (y := nI (ts.length + 1)) a1 ?_
  refine lv_iconst (v := 1) hx hb dM_say_28 (by decide) ?_
  refine lv_isub hx hb dM_say_29 ?_
  refine kz_top (y := nI ts.length) (nI_pred _) ?_
  refine lv_dup2_11 hx hb dM_say_30 rfl rfl ?_
  refine ldM9 S hw (vp_in_nI (by omega) (by decide)) dM_say_31 ?_
  refine kz_top (y := nI t.2.2.2.2.length) (by show F 9 (nI ts.length).toNatClampNeg = _; rw [cl_ _ (by omega)]; exact a9) ?_
  refine lv_iconst (v := 1) hx hb dM_say_32 (by decide) ?_
  refine lv_iadd hx hb dM_say_33 ?_
  refine kz_top (y := nI (t.2.2.2.2.length + 1)) (nI_add t.2.2.2.2.length 1) ?_
  refine stM9 S hw (vp_in_nI (by omega) (by decide)) dM_say_34 (fun H locs hw => ?_)
  exact MM.vret S hr hlk hw dM_say_35 ⟨rfl, by
    have hcl := cl_ ts.length (by omega)
    have hcl2 := cl_ (e0 + t.2.2.2.2.length) (by omega)
    rw [hcl, hcl2]
    refine ⟨⟨a1, a2, fun k u hu => ?_, a4, a5, a6, a7, al, a8, ?_, ?_, fun j y hj => ?_⟩, fun k hk => pk_un hk, rfl⟩
    · have hk := (List.getElem?_eq_some_iff.mp hu).1
      exact (a3 k u hu).keep rfl rfl rfl rfl rfl (pk_un (by omega)) (fun j hj => pk_un (by omega))
    · show upd (F 9) ts.length _ ts.length = nI (t.2.2.2.2 ++ [x]).length
      rw [pk_us, List.length_append]
      rfl
    · show nI (e0 + t.2.2.2.2.length + 1) = nI (e0 + (t.2.2.2.2 ++ [x]).length)
      rw [List.length_append]
      rfl
    · show upd (F 10) (e0 + t.2.2.2.2.length) x (e0 + j) = y
      have hj : (t.2.2.2.2 ++ [x])[j]? = some y := hj
      rcases Nat.lt_or_ge j t.2.2.2.2.length with q | q
      · rw [List.getElem?_append_left q] at hj
        rw [pk_un (by omega)]
        exact ax j y hj
      · rw [List.getElem?_append_right q] at hj
        have hz := (List.getElem?_eq_some_iff.mp hj).1
        simp only [List.length_singleton] at hz
        have e1 : j = t.2.2.2.2.length := by omega
        subst e1
        rw [Nat.sub_self] at hj
        rw [pk_us]
        exact Option.some.inj hj⟩
set_option maxHeartbeats 4000000 in
set_option maxRecDepth 100000 in
theorem tM_ends (l : Launch) (I : Nat → Int32) (F : Nat → Nat → Int32) (k e : Nat) (t : kz_T) (ht : tokM F e k t) (hk : k < 2100) (he : e ≤ 2000) (h32 : t.1 = 4 → (32 : Int32) ∉ t.2.2.2.2) : MM l yM_ends cM_ends 2 (some .boolean) ({ frames := 6, cells := 0, slots := 0, locals := 134 }) [.int (nI k)] I F (iR (fun r I' F' => r = (if endT t.1 t.2.2.2.2 then 1 else 0) ∧ I' = I ∧ F' = F)) := by
  refine MM.mk (by decide) (fun _ => Nat.le_of_ble_eq_true rfl) ?_
  intro z D cA h a pg en s m below meth c ls S hr hlk hA hw hl
  have hx := S.1
  have hb := S.2.1
  have hl : lv_has ls 2 [(0, .ref h), (1, .int (nI k))] := hl
  have ht0 := ht
  obtain ⟨f4, f5, f6, f7, fl, b0, f8, f9, fe, fx⟩ := ht0
  have hkc : (nI k).toNatClampNeg = k := nI_clamp (by omega)
  refine lv_aload_n hx hb dM_ends_0 rfl (lv_at hl 0 rfl) ?_
  refine gM4 S hw dM_ends_1 ?_
  refine lv_iload_n hx hb dM_ends_4 rfl (lv_at hl 1 rfl) ?_
  refine ldM4 S hw (vp_in_nI (by omega) (by decide)) dM_ends_5 ?_
  refine kz_top (y := t.1) (by rw [hkc]; exact f4) ?_
  refine kcMS (rest := []) S kM_101 (tM_isPlain l z none t.1) hw hA arNone ⟨Nat.le_of_ble_eq_true rfl, Nat.le_of_ble_eq_true rfl⟩ rfl rfl ⟨Nat.zero_le _, Nat.zero_le _⟩ rfl hl.1 (Nat.le_of_ble_eq_true rfl) dM_ends_6 (fun r H locs hq hw => ?_)
  rcases bI hq with ⟨hB1, rfl⟩ | ⟨hB1, rfl⟩
  · skip
    refine lv_if_ne (tgt := 55) hx hb dM_ends_9 (by decide) (fun c9 => ?_) (fun c9 => absurd c9 (by decide))
    refine lv_iconst (v := 1) hx hb dM_ends_55 (by decide) ?_
    refine lv_goto (tgt := 60) hx hb dM_ends_56 (by decide) ?_
    exact MM.iret S hr hlk hw dM_ends_60 (by first | rfl | decide) ⟨_, rfl, by rw [if_pos (Or.inl hB1)], rfl, rfl⟩
  · skip
    refine lv_if_ne (tgt := 55) hx hb dM_ends_9 (by decide) (fun c9 => absurd c9 (by decide)) (fun c9 => ?_)
    refine lv_aload_n hx hb dM_ends_12 rfl (lv_at hl 0 rfl) ?_
    refine lv_iload_n hx hb dM_ends_13 rfl (lv_at hl 1 rfl) ?_
    refine lv_bipush (v := 36) hx hb dM_ends_14 (by decide) ?_
    refine lv_bipush (v := 41) hx hb dM_ends_16 (by decide) ?_
    refine kcMi (rest := []) S kM_104 rfl (tM_is l I F k e t ht hk he 36 41) hw hA ⟨Nat.le_of_ble_eq_true rfl, Nat.le_of_ble_eq_true rfl⟩ rfl rfl ⟨Nat.zero_le _, Nat.zero_le _⟩ rfl hl.1 (Nat.le_of_ble_eq_true rfl) dM_ends_18 (fun r I' F' H locs hq hw => ?_)
    obtain ⟨hr1, hr2, hr3⟩ := hq
    rw [hr2, hr3] at hw
    rcases hr1 with ⟨hB2, rfl⟩ | ⟨hB2, rfl⟩
    · skip
      refine lv_if_ne (tgt := 55) hx hb dM_ends_21 (by decide) (fun c21 => ?_) (fun c21 => absurd c21 (by decide))
      refine lv_iconst (v := 1) hx hb dM_ends_55 (by decide) ?_
      refine lv_goto (tgt := 60) hx hb dM_ends_56 (by decide) ?_
      exact MM.iret S hr hlk hw dM_ends_60 (by first | rfl | decide) ⟨_, rfl, by rw [if_pos (Or.inr (Or.inl ⟨hB2.1, by have q : t.2.2.2.2 = _ := hB2.2; rw [q]; simp⟩))], rfl, rfl⟩
    · skip
      refine lv_if_ne (tgt := 55) hx hb dM_ends_21 (by decide) (fun c21 => absurd c21 (by decide)) (fun c21 => ?_)
      refine lv_aload_n hx hb dM_ends_24 rfl (lv_at hl 0 rfl) ?_
      refine lv_iload_n hx hb dM_ends_25 rfl (lv_at hl 1 rfl) ?_
      refine lv_bipush (v := 41) hx hb dM_ends_26 (by decide) ?_
      refine lv_iconst (v := 0) hx hb dM_ends_28 (by decide) ?_
      refine kcMi (rest := []) S kM_104 rfl (tM_is l I F k e t ht hk he 41 0) hw hA ⟨Nat.le_of_ble_eq_true rfl, Nat.le_of_ble_eq_true rfl⟩ rfl rfl ⟨Nat.zero_le _, Nat.zero_le _⟩ rfl hl.1 (Nat.le_of_ble_eq_true rfl) dM_ends_29 (fun r I' F' H locs hq hw => ?_)
      obtain ⟨hr1, hr2, hr3⟩ := hq
      rw [hr2, hr3] at hw
      rcases hr1 with ⟨hB3, rfl⟩ | ⟨hB3, rfl⟩
      · skip
        refine lv_if_ne (tgt := 55) hx hb dM_ends_32 (by decide) (fun c32 => ?_) (fun c32 => absurd c32 (by decide))
        refine lv_iconst (v := 1) hx hb dM_ends_55 (by decide) ?_
        refine lv_goto (tgt := 60) hx hb dM_ends_56 (by decide) ?_
        exact MM.iret S hr hlk hw dM_ends_60 (by first | rfl | decide) ⟨_, rfl, by rw [if_pos (Or.inr (Or.inl ⟨hB3.1, by have q : t.2.2.2.2 = _ := hB3.2; rw [q]; simp⟩))], rfl, rfl⟩
      · skip
        refine lv_if_ne (tgt := 55) hx hb dM_ends_32 (by decide) (fun c32 => absurd c32 (by decide)) (fun c32 => ?_)
        refine lv_aload_n hx hb dM_ends_35 rfl (lv_at hl 0 rfl) ?_
        refine gM4 S hw dM_ends_36 ?_
        refine lv_iload_n hx hb dM_ends_39 rfl (lv_at hl 1 rfl) ?_
        refine ldM4 S hw (vp_in_nI (by omega) (by decide)) dM_ends_40 ?_
        refine kz_top (y := t.1) (by rw [hkc]; exact f4) ?_
        refine lv_iconst (v := 4) hx hb dM_ends_41 (by decide) ?_
        refine lv_icmp_ne (tgt := 59) hx hb dM_ends_42 (by decide) (fun c42 => ?_) (fun c42 => ?_)
        · skip
          refine lv_iconst (v := 0) hx hb dM_ends_59 (by decide) ?_
          exact MM.iret S hr hlk hw dM_ends_60 (by first | rfl | decide) ⟨_, rfl, by rw [if_neg (fun q => by
            rcases q with q | ⟨q3, q⟩ | ⟨q4, q⟩
            · exact hB1 q
            · rcases q with q | q
              · exact hB2 ⟨q3, by rw [q]; rfl⟩
              · exact hB3 ⟨q3, by rw [q]; rfl⟩
            · exact c42 q4)], rfl, rfl⟩
        · skip
          refine lv_aload_n hx hb dM_ends_45 rfl (lv_at hl 0 rfl) ?_
          refine lv_iload_n hx hb dM_ends_46 rfl (lv_at hl 1 rfl) ?_
          refine va_ldcS hx hb S.2.2.2.1 (rK_8 hw.2.2.2.2.2) dM_ends_47 ?_
          refine kcMzi (rest := []) S kM_108 rfl (tM_isIn l z I F k e t ht hk he 8 (by decide)) hw hA ⟨Nat.le_of_ble_eq_true rfl, Nat.le_of_ble_eq_true rfl⟩ rfl rfl ⟨Nat.zero_le _, Nat.zero_le _⟩ rfl hl.1 (Nat.le_of_ble_eq_true rfl) dM_ends_49 (fun r I' F' H locs hq hw => ?_)
          obtain ⟨hr1, hr2, hr3⟩ := hq
          rw [hr2, hr3] at hw
          rcases hr1 with ⟨hB4, rfl⟩ | ⟨hB4, rfl⟩
          · skip
            rw [in_iff (by decide) (by decide) (h32 c42)] at hB4
            refine lv_if_eq (tgt := 59) hx hb dM_ends_52 (by decide) (fun c52 => absurd c52 (by decide)) (fun c52 => ?_)
            refine lv_iconst (v := 1) hx hb dM_ends_55 (by decide) ?_
            refine lv_goto (tgt := 60) hx hb dM_ends_56 (by decide) ?_
            exact MM.iret S hr hlk hw dM_ends_60 (by first | rfl | decide) ⟨_, rfl, by rw [if_pos (Or.inr (Or.inr ⟨c42, hB4⟩))], rfl, rfl⟩
          · skip
            rw [in_iff (by decide) (by decide) (h32 c42)] at hB4
            refine lv_if_eq (tgt := 59) hx hb dM_ends_52 (by decide) (fun c52 => ?_) (fun c52 => absurd c52 (by decide))
            refine lv_iconst (v := 0) hx hb dM_ends_59 (by decide) ?_
            exact MM.iret S hr hlk hw dM_ends_60 (by first | rfl | decide) ⟨_, rfl, by rw [if_neg (fun q => by
              rcases q with q | ⟨q3, q⟩ | ⟨q4, q⟩
              · exact hB1 q
              · rcases q with q | q
                · exact hB2 ⟨q3, by rw [q]; rfl⟩
                · exact hB3 ⟨q3, by rw [q]; rfl⟩
              · exact hB4 q)], rfl, rfl⟩
set_option maxHeartbeats 4000000 in
set_option maxRecDepth 100000 in
theorem tM_begins (l : Launch) (I : Nat → Int32) (F : Nat → Nat → Int32) (k e : Nat) (t : kz_T) (ht : tokM F e k t) (hk : k < 2100) (he : e ≤ 2000) (h32 : t.1 = 4 → (32 : Int32) ∉ t.2.2.2.2) : MM l yM_begins cM_begins 2 (some .boolean) ({ frames := 6, cells := 0, slots := 0, locals := 134 }) [.int (nI k)] I F (iR (fun r I' F' => r = (if begT t.1 t.2.2.2.2 then 1 else 0) ∧ I' = I ∧ F' = F)) := by
  refine MM.mk (by decide) (fun _ => Nat.le_of_ble_eq_true rfl) ?_
  intro z D cA h a pg en s m below meth c ls S hr hlk hA hw hl
  have hx := S.1
  have hb := S.2.1
  have hl : lv_has ls 2 [(0, .ref h), (1, .int (nI k))] := hl
  have ht0 := ht
  obtain ⟨f4, f5, f6, f7, fl, b0, f8, f9, fe, fx⟩ := ht0
  have hkc : (nI k).toNatClampNeg = k := nI_clamp (by omega)
  refine lv_aload_n hx hb dM_begins_0 rfl (lv_at hl 0 rfl) ?_
  refine gM4 S hw dM_begins_1 ?_
  refine lv_iload_n hx hb dM_begins_4 rfl (lv_at hl 1 rfl) ?_
  refine ldM4 S hw (vp_in_nI (by omega) (by decide)) dM_begins_5 ?_
  refine kz_top (y := t.1) (by rw [hkc]; exact f4) ?_
  refine kcMS (rest := []) S kM_101 (tM_isPlain l z none t.1) hw hA arNone ⟨Nat.le_of_ble_eq_true rfl, Nat.le_of_ble_eq_true rfl⟩ rfl rfl ⟨Nat.zero_le _, Nat.zero_le _⟩ rfl hl.1 (Nat.le_of_ble_eq_true rfl) dM_begins_6 (fun r H locs hq hw => ?_)
  rcases bI hq with ⟨hB1, rfl⟩ | ⟨hB1, rfl⟩
  · skip
    refine lv_if_ne (tgt := 77) hx hb dM_begins_9 (by decide) (fun c9 => ?_) (fun c9 => absurd c9 (by decide))
    refine lv_iconst (v := 1) hx hb dM_begins_77 (by decide) ?_
    refine lv_goto (tgt := 82) hx hb dM_begins_78 (by decide) ?_
    exact MM.iret S hr hlk hw dM_begins_82 (by first | rfl | decide) ⟨_, rfl, by rw [if_pos (Or.inl hB1)], rfl, rfl⟩
  · skip
    refine lv_if_ne (tgt := 77) hx hb dM_begins_9 (by decide) (fun c9 => absurd c9 (by decide)) (fun c9 => ?_)
    refine lv_aload_n hx hb dM_begins_12 rfl (lv_at hl 0 rfl) ?_
    refine lv_iload_n hx hb dM_begins_13 rfl (lv_at hl 1 rfl) ?_
    refine lv_bipush (v := 40) hx hb dM_begins_14 (by decide) ?_
    refine lv_iconst (v := 0) hx hb dM_begins_16 (by decide) ?_
    refine kcMi (rest := []) S kM_104 rfl (tM_is l I F k e t ht hk he 40 0) hw hA ⟨Nat.le_of_ble_eq_true rfl, Nat.le_of_ble_eq_true rfl⟩ rfl rfl ⟨Nat.zero_le _, Nat.zero_le _⟩ rfl hl.1 (Nat.le_of_ble_eq_true rfl) dM_begins_17 (fun r I' F' H locs hq hw => ?_)
    obtain ⟨hr1, hr2, hr3⟩ := hq
    rw [hr2, hr3] at hw
    rcases hr1 with ⟨hB2, rfl⟩ | ⟨hB2, rfl⟩
    · skip
      refine lv_if_ne (tgt := 77) hx hb dM_begins_20 (by decide) (fun c20 => ?_) (fun c20 => absurd c20 (by decide))
      refine lv_iconst (v := 1) hx hb dM_begins_77 (by decide) ?_
      refine lv_goto (tgt := 82) hx hb dM_begins_78 (by decide) ?_
      exact MM.iret S hr hlk hw dM_begins_82 (by first | rfl | decide) ⟨_, rfl, by rw [if_pos (Or.inr (Or.inl ⟨hB2.1, by have q : t.2.2.2.2 = _ := hB2.2; rw [q]; simp⟩))], rfl, rfl⟩
    · skip
      refine lv_if_ne (tgt := 77) hx hb dM_begins_20 (by decide) (fun c20 => absurd c20 (by decide)) (fun c20 => ?_)
      refine lv_aload_n hx hb dM_begins_23 rfl (lv_at hl 0 rfl) ?_
      refine lv_iload_n hx hb dM_begins_24 rfl (lv_at hl 1 rfl) ?_
      refine lv_bipush (v := 33) hx hb dM_begins_25 (by decide) ?_
      refine lv_iconst (v := 0) hx hb dM_begins_27 (by decide) ?_
      refine kcMi (rest := []) S kM_104 rfl (tM_is l I F k e t ht hk he 33 0) hw hA ⟨Nat.le_of_ble_eq_true rfl, Nat.le_of_ble_eq_true rfl⟩ rfl rfl ⟨Nat.zero_le _, Nat.zero_le _⟩ rfl hl.1 (Nat.le_of_ble_eq_true rfl) dM_begins_28 (fun r I' F' H locs hq hw => ?_)
      obtain ⟨hr1, hr2, hr3⟩ := hq
      rw [hr2, hr3] at hw
      rcases hr1 with ⟨hB3, rfl⟩ | ⟨hB3, rfl⟩
      · skip
        refine lv_if_ne (tgt := 77) hx hb dM_begins_31 (by decide) (fun c31 => ?_) (fun c31 => absurd c31 (by decide))
        refine lv_iconst (v := 1) hx hb dM_begins_77 (by decide) ?_
        refine lv_goto (tgt := 82) hx hb dM_begins_78 (by decide) ?_
        exact MM.iret S hr hlk hw dM_begins_82 (by first | rfl | decide) ⟨_, rfl, by rw [if_pos (Or.inr (Or.inl ⟨hB3.1, by have q : t.2.2.2.2 = _ := hB3.2; rw [q]; simp⟩))], rfl, rfl⟩
      · skip
        refine lv_if_ne (tgt := 77) hx hb dM_begins_31 (by decide) (fun c31 => absurd c31 (by decide)) (fun c31 => ?_)
        refine lv_aload_n hx hb dM_begins_34 rfl (lv_at hl 0 rfl) ?_
        refine lv_iload_n hx hb dM_begins_35 rfl (lv_at hl 1 rfl) ?_
        refine lv_bipush (v := 64) hx hb dM_begins_36 (by decide) ?_
        refine lv_iconst (v := 0) hx hb dM_begins_38 (by decide) ?_
        refine kcMi (rest := []) S kM_104 rfl (tM_is l I F k e t ht hk he 64 0) hw hA ⟨Nat.le_of_ble_eq_true rfl, Nat.le_of_ble_eq_true rfl⟩ rfl rfl ⟨Nat.zero_le _, Nat.zero_le _⟩ rfl hl.1 (Nat.le_of_ble_eq_true rfl) dM_begins_39 (fun r I' F' H locs hq hw => ?_)
        obtain ⟨hr1, hr2, hr3⟩ := hq
        rw [hr2, hr3] at hw
        rcases hr1 with ⟨hB4, rfl⟩ | ⟨hB4, rfl⟩
        · skip
          refine lv_if_ne (tgt := 77) hx hb dM_begins_42 (by decide) (fun c42 => ?_) (fun c42 => absurd c42 (by decide))
          refine lv_iconst (v := 1) hx hb dM_begins_77 (by decide) ?_
          refine lv_goto (tgt := 82) hx hb dM_begins_78 (by decide) ?_
          exact MM.iret S hr hlk hw dM_begins_82 (by first | rfl | decide) ⟨_, rfl, by rw [if_pos (Or.inr (Or.inl ⟨hB4.1, by have q : t.2.2.2.2 = _ := hB4.2; rw [q]; simp⟩))], rfl, rfl⟩
        · skip
          refine lv_if_ne (tgt := 77) hx hb dM_begins_42 (by decide) (fun c42 => absurd c42 (by decide)) (fun c42 => ?_)
          refine lv_aload_n hx hb dM_begins_45 rfl (lv_at hl 0 rfl) ?_
          refine lv_iload_n hx hb dM_begins_46 rfl (lv_at hl 1 rfl) ?_
          refine lv_bipush (v := 36) hx hb dM_begins_47 (by decide) ?_
          refine lv_bipush (v := 40) hx hb dM_begins_49 (by decide) ?_
          refine kcMi (rest := []) S kM_104 rfl (tM_is l I F k e t ht hk he 36 40) hw hA ⟨Nat.le_of_ble_eq_true rfl, Nat.le_of_ble_eq_true rfl⟩ rfl rfl ⟨Nat.zero_le _, Nat.zero_le _⟩ rfl hl.1 (Nat.le_of_ble_eq_true rfl) dM_begins_51 (fun r I' F' H locs hq hw => ?_)
          obtain ⟨hr1, hr2, hr3⟩ := hq
          rw [hr2, hr3] at hw
          rcases hr1 with ⟨hB5, rfl⟩ | ⟨hB5, rfl⟩
          · skip
            refine lv_if_ne (tgt := 77) hx hb dM_begins_54 (by decide) (fun c54 => ?_) (fun c54 => absurd c54 (by decide))
            refine lv_iconst (v := 1) hx hb dM_begins_77 (by decide) ?_
            refine lv_goto (tgt := 82) hx hb dM_begins_78 (by decide) ?_
            exact MM.iret S hr hlk hw dM_begins_82 (by first | rfl | decide) ⟨_, rfl, by rw [if_pos (Or.inr (Or.inl ⟨hB5.1, by have q : t.2.2.2.2 = _ := hB5.2; rw [q]; simp⟩))], rfl, rfl⟩
          · skip
            refine lv_if_ne (tgt := 77) hx hb dM_begins_54 (by decide) (fun c54 => absurd c54 (by decide)) (fun c54 => ?_)
            refine lv_aload_n hx hb dM_begins_57 rfl (lv_at hl 0 rfl) ?_
            refine gM4 S hw dM_begins_58 ?_
            refine lv_iload_n hx hb dM_begins_61 rfl (lv_at hl 1 rfl) ?_
            refine ldM4 S hw (vp_in_nI (by omega) (by decide)) dM_begins_62 ?_
            refine kz_top (y := t.1) (by rw [hkc]; exact f4) ?_
            refine lv_iconst (v := 4) hx hb dM_begins_63 (by decide) ?_
            refine lv_icmp_ne (tgt := 81) hx hb dM_begins_64 (by decide) (fun c64 => ?_) (fun c64 => ?_)
            · skip
              refine lv_iconst (v := 0) hx hb dM_begins_81 (by decide) ?_
              exact MM.iret S hr hlk hw dM_begins_82 (by first | rfl | decide) ⟨_, rfl, by rw [if_neg (fun q => by
                rcases q with q | ⟨q3, q⟩ | ⟨q4, q⟩
                · exact hB1 q
                · rcases q with q | q | q | q
                  · exact hB2 ⟨q3, by rw [q]; rfl⟩
                  · exact hB3 ⟨q3, by rw [q]; rfl⟩
                  · exact hB4 ⟨q3, by rw [q]; rfl⟩
                  · exact hB5 ⟨q3, by rw [q]; rfl⟩
                · exact c64 q4)], rfl, rfl⟩
            · skip
              refine lv_aload_n hx hb dM_begins_67 rfl (lv_at hl 0 rfl) ?_
              refine lv_iload_n hx hb dM_begins_68 rfl (lv_at hl 1 rfl) ?_
              refine va_ldcS hx hb S.2.2.2.1 (rK_9 hw.2.2.2.2.2) dM_begins_69 ?_
              refine kcMzi (rest := []) S kM_108 rfl (tM_isIn l z I F k e t ht hk he 9 (by decide)) hw hA ⟨Nat.le_of_ble_eq_true rfl, Nat.le_of_ble_eq_true rfl⟩ rfl rfl ⟨Nat.zero_le _, Nat.zero_le _⟩ rfl hl.1 (Nat.le_of_ble_eq_true rfl) dM_begins_71 (fun r I' F' H locs hq hw => ?_)
              obtain ⟨hr1, hr2, hr3⟩ := hq
              rw [hr2, hr3] at hw
              rcases hr1 with ⟨hB6, rfl⟩ | ⟨hB6, rfl⟩
              · skip
                rw [in_iff (by decide) (by decide) (h32 c64)] at hB6
                refine lv_if_eq (tgt := 81) hx hb dM_begins_74 (by decide) (fun c74 => absurd c74 (by decide)) (fun c74 => ?_)
                refine lv_iconst (v := 1) hx hb dM_begins_77 (by decide) ?_
                refine lv_goto (tgt := 82) hx hb dM_begins_78 (by decide) ?_
                exact MM.iret S hr hlk hw dM_begins_82 (by first | rfl | decide) ⟨_, rfl, by rw [if_pos (Or.inr (Or.inr ⟨c64, hB6⟩))], rfl, rfl⟩
              · skip
                rw [in_iff (by decide) (by decide) (h32 c64)] at hB6
                refine lv_if_eq (tgt := 81) hx hb dM_begins_74 (by decide) (fun c74 => ?_) (fun c74 => absurd c74 (by decide))
                refine lv_iconst (v := 0) hx hb dM_begins_81 (by decide) ?_
                exact MM.iret S hr hlk hw dM_begins_82 (by first | rfl | decide) ⟨_, rfl, by rw [if_neg (fun q => by
                  rcases q with q | ⟨q3, q⟩ | ⟨q4, q⟩
                  · exact hB1 q
                  · rcases q with q | q | q | q
                    · exact hB2 ⟨q3, by rw [q]; rfl⟩
                    · exact hB3 ⟨q3, by rw [q]; rfl⟩
                    · exact hB4 ⟨q3, by rw [q]; rfl⟩
                    · exact hB5 ⟨q3, by rw [q]; rfl⟩
                  · exact hB6 q)], rfl, rfl⟩
