/-! ===== the reference: a ; is understood ===== -/
theorem no32 {k : Int32} {tx : List Int32} (h : tokOK k tx) : k = 4 → (32 : Int32) ∉ tx := fun q => (wK_no 7 (by decide) tx (h.2 q)).1
theorem und_rep {ts : List kz_T} {t : kz_T} {e0 : Nat} {I I' : Nat → Int32} {F F' : Nat → Nat → Int32} (h : curM ts t e0 I F) (h3 : I' 3 = nI (ts.length + 1 + 1))
    (g4 : F' 4 = upd (upd (F 4) (ts.length + 1) (F 4 ts.length)) ts.length 3) (g5 : F' 5 = upd (F 5) (ts.length + 1) (F 5 ts.length)) (g6 : F' 6 = upd (F 6) (ts.length + 1) (F 6 ts.length)) (g7 : F' 7 = upd (upd (F 7) (ts.length + 1) (F 7 ts.length)) ts.length 0)
    (g8 : F' 8 = upd (upd (F 8) (ts.length + 1) (F 8 ts.length)) ts.length (nI (e0 + t.2.2.2.2.length))) (g9 : F' 9 = upd (upd (F 9) (ts.length + 1) (F 9 ts.length)) ts.length 1) (g10 : F' 10 = upd (F 10) (e0 + t.2.2.2.2.length) 59) :
    repM ((ts ++ [((3 : Int32), t.2.1, t.2.2.1, (0 : Int32), [(59 : Int32)])]) ++ [t]) (e0 + t.2.2.2.2.length + 1) I' F' := by
  obtain ⟨a1, a2, a3, a4, a5, a6, a7, al, a8, a9, a10, ax⟩ := h
  have hl : ((ts ++ [((3 : Int32), t.2.1, t.2.2.1, (0 : Int32), [(59 : Int32)])]) ++ [t]).length = ts.length + 1 + 1 := by simp
  refine ⟨by rw [h3, hl], by rw [hl]; omega, fun k u hu => ?_⟩
  rcases Nat.lt_or_ge k ts.length with q | q
  · rw [List.append_assoc, List.getElem?_append_left q] at hu
    refine ((a3 k u hu).keep ?_ ?_ ?_ ?_ ?_ ?_ (fun j hj => ?_)).mono (by omega)
    · rw [g4, pk_un (by omega), pk_un (by omega)]
    · rw [g5, pk_un (by omega)]
    · rw [g6, pk_un (by omega)]
    · rw [g7, pk_un (by omega), pk_un (by omega)]
    · rw [g8, pk_un (by omega), pk_un (by omega)]
    · rw [g9, pk_un (by omega), pk_un (by omega)]
    · rw [g10, pk_un (by omega)]
  · rw [List.append_assoc, List.getElem?_append_right q] at hu
    have hz := (List.getElem?_eq_some_iff.mp hu).1
    simp only [List.length_append, List.length_singleton] at hz
    rcases Nat.eq_or_lt_of_le q with d | d
    · subst d
      rw [Nat.sub_self] at hu
      cases hu
      refine ⟨by rw [g4, pk_us], by rw [g5, pk_un (by omega)]; exact a5, by rw [g6, pk_un (by omega)]; exact a6, by rw [g7, pk_us], al, e0 + t.2.2.2.2.length, by rw [g8, pk_us], by rw [g9, pk_us]; rfl, Nat.le_refl _, fun j x hj => ?_⟩
      have hz := (List.getElem?_eq_some_iff.mp hj).1
      have hz : j < 1 := hz
      have e1 : j = 0 := by omega
      subst e1
      cases hj
      rw [g10]
      exact pk_us
    · have e1 : k = ts.length + 1 := by omega
      subst e1
      rw [show ts.length + 1 - ts.length = 1 by omega] at hu
      cases hu
      refine ⟨by rw [g4, pk_un (by omega), pk_us]; exact a4, by rw [g5, pk_us]; exact a5, by rw [g6, pk_us]; exact a6, by rw [g7, pk_un (by omega), pk_us]; exact a7, al, e0, by rw [g8, pk_un (by omega), pk_us]; exact a8, by rw [g9, pk_un (by omega), pk_us]; exact a9, by omega, fun j x hj => ?_⟩
      have hj2 := (List.getElem?_eq_some_iff.mp hj).1
      rw [g10, pk_un (by omega)]
      exact ax j x hj
theorem semT_c (ts0 : List kz_T) (u : kz_T) (L : Nat) (k : Int32) (tx : List Int32) : semT (ts0.concat u) L k tx = true ↔ (u.2.2.1 < L ∧ endT u.1 u.2.2.2.2 ∧ begT k tx) := by
  unfold semT
  rw [List.concat_eq_append, List.getLast?_concat]
  exact decide_eq_true_iff
set_option maxHeartbeats 4000000 in
set_option maxRecDepth 100000 in
theorem tM_understand (l : Launch) (I : Nat → Int32) (F : Nat → Nat → Int32) (ts : List kz_T) (t : kz_T) (e0 : Nat) (hcu : curM ts t e0 I F) (hok : allOK ts) (hot : tokOK t.1 t.2.2.2.2) (he : e0 + t.2.2.2.2.length ≤ 1000) : MM l yM_understand cM_understand 2 none ({ frames := 7, cells := 0, slots := 0, locals := 155 }) [] I F (vR (fun I' F' => (semT ts t.2.2.1 t.1 t.2.2.2.2 = true → repM ((ts ++ [((3 : Int32), t.2.1, t.2.2.1, (0 : Int32), [(59 : Int32)])]) ++ [t]) (e0 + t.2.2.2.2.length + 1) I' F' ∧ I' 11 = nI (e0 + t.2.2.2.2.length + 1)) ∧ (¬ semT ts t.2.2.1 t.1 t.2.2.2.2 = true → repM (ts ++ [t]) (e0 + t.2.2.2.2.length) I' F' ∧ I' 11 = nI (e0 + t.2.2.2.2.length)) ∧ (∀ k, k ≠ 3 → k ≠ 11 → I' k = I k) ∧ F' 1 = F 1)) := by
  refine MM.mk (by decide) (fun _ => Nat.le_of_ble_eq_true rfl) ?_
  intro z D cA h a pg en s m below meth c ls S hr hlk hA hw hl
  have hx := S.1
  have hb := S.2.1
  have hl : lv_has ls 2 [(0, .ref h)] := hl
  rcases List.eq_nil_or_concat ts with rfl | ⟨ts0, u, rfl⟩
  · skip
    obtain ⟨a1, a2, a3, a4, a5, a6, a7, al, a8, a9, a10, ax⟩ := id hcu
    refine lv_aload_n hx hb dM_understand_0 rfl (lv_at hl 0 rfl) ?_
    refine gM3 S hw dM_understand_1 ?_
    refine kz_top (y := nI (0 + 1)) a1 ?_
    refine lv_iconst (v := 1) hx hb dM_understand_4 (by decide) ?_
    refine lv_isub hx hb dM_understand_5 ?_
    refine kz_top (y := 0) (nI_pred 0) ?_
    refine lv_istore_n (lv' := [(1, .int 0), (0, .ref h)]) hx hb dM_understand_6 rfl hl (by decide) rfl (fun ls hl => ?_)
    refine lv_iload_n hx hb dM_understand_7 rfl (lv_at hl 0 rfl) ?_
    refine lv_iconst (v := 1) hx hb dM_understand_8 (by decide) ?_
    refine lv_icmp_lt (tgt := 47) hx hb dM_understand_9 (by decide) (fun c9 => ?_) (fun c9 => absurd c9 (by decide))
    exact MM.vret S hr hlk hw dM_understand_47 ⟨rfl, fun q => absurd q (by simp [semT]), fun _ => ⟨hcu.rep, a10⟩, fun _ _ _ => rfl, rfl⟩
  · skip
    obtain ⟨a1, a2, a3, a4, a5, a6, a7, al, a8, a9, a10, ax⟩ := id hcu
    have hlen : (ts0.concat u).length = ts0.length + 1 := by simp
    rw [hlen] at a1 a2 a4 a5 a6 a7 a8 a9
    have hu := a3 ts0.length u (by simp)
    have hcl0 := cl_ ts0.length (by omega)
    have hcl1 := cl_ (ts0.length + 1) (by omega)
    have hcl2 := cl_ (ts0.length + 1 + 1) (by omega)
    have hcl3 := cl_ (e0 + t.2.2.2.2.length) (by omega)
    have huo := hok u (by simp)
    refine lv_aload_n hx hb dM_understand_0 rfl (lv_at hl 0 rfl) ?_
    refine gM3 S hw dM_understand_1 ?_
    refine kz_top (y := nI (ts0.length + 1 + 1)) a1 ?_
    refine lv_iconst (v := 1) hx hb dM_understand_4 (by decide) ?_
    refine lv_isub hx hb dM_understand_5 ?_
    refine kz_top (y := nI (ts0.length + 1)) (nI_pred _) ?_
    refine lv_istore_n (lv' := [(1, .int (nI (ts0.length + 1))), (0, .ref h)]) hx hb dM_understand_6 rfl hl (by decide) rfl (fun ls hl => ?_)
    refine lv_iload_n hx hb dM_understand_7 rfl (lv_at hl 0 rfl) ?_
    refine lv_iconst (v := 1) hx hb dM_understand_8 (by decide) ?_
    refine lv_icmp_lt (tgt := 47) hx hb dM_understand_9 (by decide) (fun c9 => absurd c9 (nI_nlt (a := ts0.length + 1) (b := 1) (by omega) (by omega))) (fun c9 => ?_)
    refine lv_aload_n hx hb dM_understand_12 rfl (lv_at hl 1 rfl) ?_
    refine gM6 S hw dM_understand_13 ?_
    refine lv_iload_n hx hb dM_understand_16 rfl (lv_at hl 0 rfl) ?_
    refine lv_iconst (v := 1) hx hb dM_understand_17 (by decide) ?_
    refine lv_isub hx hb dM_understand_18 ?_
    refine kz_top (y := nI ts0.length) (nI_pred _) ?_
    refine ldM6 S hw (vp_in_nI (by omega) (by decide)) dM_understand_19 ?_
    refine kz_top (y := nI u.2.2.1) (by rw [hcl0]; exact hu.2.2.1) ?_
    refine lv_aload_n hx hb dM_understand_20 rfl (lv_at hl 1 rfl) ?_
    refine gM6 S hw dM_understand_21 ?_
    refine lv_iload_n hx hb dM_understand_24 rfl (lv_at hl 0 rfl) ?_
    refine ldM6 S hw (vp_in_nI (by omega) (by decide)) dM_understand_25 ?_
    refine kz_top (y := nI t.2.2.1) (by rw [hcl1]; exact a6) ?_
    refine lv_icmp_ge (tgt := 47) hx hb dM_understand_26 (by decide) (fun c26 => ?_) (fun c26 => ?_)
    · skip
      exact MM.vret S hr hlk hw dM_understand_47 ⟨rfl, fun q0 => (by have q := (semT_c _ _ _ _ _).mp q0; exact (show False from absurd ((nI_leI (by omega) (by have := hu.2.2.2.2.1; omega)).mp c26) (by have := q.1; omega)).elim), fun _ => ⟨hcu.rep, a10⟩, fun _ _ _ => rfl, rfl⟩
    · skip
      refine lv_aload_n hx hb dM_understand_29 rfl (lv_at hl 1 rfl) ?_
      refine lv_iload_n hx hb dM_understand_30 rfl (lv_at hl 0 rfl) ?_
      refine lv_iconst (v := 1) hx hb dM_understand_31 (by decide) ?_
      refine lv_isub hx hb dM_understand_32 ?_
      refine kz_top (y := nI ts0.length) (nI_pred _) ?_
      refine kcMi (rest := []) S kM_112 rfl (tM_ends l I F ts0.length e0 u hu (by omega) (by omega) (no32 huo)) hw hA ⟨Nat.le_of_ble_eq_true rfl, Nat.le_of_ble_eq_true rfl⟩ rfl rfl ⟨Nat.zero_le _, Nat.zero_le _⟩ rfl hl.1 (Nat.le_of_ble_eq_true rfl) dM_understand_33 (fun r I' F' H locs hq hw => ?_)
      obtain ⟨hr1, hr2, hr3⟩ := hq
      rw [hr2, hr3] at hw
      rcases bI hr1 with ⟨hB1, rfl⟩ | ⟨hB1, rfl⟩
      · skip
        refine lv_if_eq (tgt := 47) hx hb dM_understand_36 (by decide) (fun c36 => absurd c36 (by decide)) (fun c36 => ?_)
        refine lv_aload_n hx hb dM_understand_39 rfl (lv_at hl 1 rfl) ?_
        refine lv_iload_n hx hb dM_understand_40 rfl (lv_at hl 0 rfl) ?_
        refine kcMi (rest := []) S kM_115 rfl (tM_begins l I F (ts0.length + 1) (e0 + t.2.2.2.2.length) t (by have := hcu.tok; rw [hlen] at this; exact this) (by omega) (by omega) (no32 hot)) hw hA ⟨Nat.le_of_ble_eq_true rfl, Nat.le_of_ble_eq_true rfl⟩ rfl rfl ⟨Nat.zero_le _, Nat.zero_le _⟩ rfl hl.1 (Nat.le_of_ble_eq_true rfl) dM_understand_41 (fun r I' F' H locs hq hw => ?_)
        obtain ⟨hr1, hr2, hr3⟩ := hq
        rw [hr2, hr3] at hw
        rcases bI hr1 with ⟨hB2, rfl⟩ | ⟨hB2, rfl⟩
        · skip
          refine lv_if_ne (tgt := 48) hx hb dM_understand_44 (by decide) (fun c44 => ?_) (fun c44 => absurd c44 (by decide))
          refine lv_aload_n hx hb dM_understand_48 rfl (lv_at hl 1 rfl) ?_
          refine gM4 S hw dM_understand_49 ?_
          refine lv_aload_n hx hb dM_understand_52 rfl (lv_at hl 1 rfl) ?_
          refine gM3 S hw dM_understand_53 ?_
          refine kz_top (y := nI (ts0.length + 1 + 1)) a1 ?_
          refine lv_aload_n hx hb dM_understand_56 rfl (lv_at hl 1 rfl) ?_
          refine gM4 S hw dM_understand_57 ?_
          refine lv_iload_n hx hb dM_understand_60 rfl (lv_at hl 0 rfl) ?_
          refine ldM4 S hw (vp_in_nI (by omega) (by decide)) dM_understand_61 ?_
          refine stM4 S hw (vp_in_nI (by omega) (by decide)) dM_understand_62 (fun H locs hw => ?_)
          refine lv_aload_n hx hb dM_understand_63 rfl (lv_at hl 1 rfl) ?_
          refine gM5 S hw dM_understand_64 ?_
          refine lv_aload_n hx hb dM_understand_67 rfl (lv_at hl 1 rfl) ?_
          refine gM3 S hw dM_understand_68 ?_
          refine kz_top (y := nI (ts0.length + 1 + 1)) a1 ?_
          refine lv_aload_n hx hb dM_understand_71 rfl (lv_at hl 1 rfl) ?_
          refine gM5 S hw dM_understand_72 ?_
          refine lv_iload_n hx hb dM_understand_75 rfl (lv_at hl 0 rfl) ?_
          refine ldM5 S hw (vp_in_nI (by omega) (by decide)) dM_understand_76 ?_
          refine stM5 S hw (vp_in_nI (by omega) (by decide)) dM_understand_77 (fun H locs hw => ?_)
          refine lv_aload_n hx hb dM_understand_78 rfl (lv_at hl 1 rfl) ?_
          refine gM6 S hw dM_understand_79 ?_
          refine lv_aload_n hx hb dM_understand_82 rfl (lv_at hl 1 rfl) ?_
          refine gM3 S hw dM_understand_83 ?_
          refine kz_top (y := nI (ts0.length + 1 + 1)) a1 ?_
          refine lv_aload_n hx hb dM_understand_86 rfl (lv_at hl 1 rfl) ?_
          refine gM6 S hw dM_understand_87 ?_
          refine lv_iload_n hx hb dM_understand_90 rfl (lv_at hl 0 rfl) ?_
          refine ldM6 S hw (vp_in_nI (by omega) (by decide)) dM_understand_91 ?_
          refine stM6 S hw (vp_in_nI (by omega) (by decide)) dM_understand_92 (fun H locs hw => ?_)
          refine lv_aload_n hx hb dM_understand_93 rfl (lv_at hl 1 rfl) ?_
          refine gM7 S hw dM_understand_94 ?_
          refine lv_aload_n hx hb dM_understand_97 rfl (lv_at hl 1 rfl) ?_
          refine gM3 S hw dM_understand_98 ?_
          refine kz_top (y := nI (ts0.length + 1 + 1)) a1 ?_
          refine lv_aload_n hx hb dM_understand_101 rfl (lv_at hl 1 rfl) ?_
          refine gM7 S hw dM_understand_102 ?_
          refine lv_iload_n hx hb dM_understand_105 rfl (lv_at hl 0 rfl) ?_
          refine ldM7 S hw (vp_in_nI (by omega) (by decide)) dM_understand_106 ?_
          refine stM7 S hw (vp_in_nI (by omega) (by decide)) dM_understand_107 (fun H locs hw => ?_)
          refine lv_aload_n hx hb dM_understand_108 rfl (lv_at hl 1 rfl) ?_
          refine gM8 S hw dM_understand_109 ?_
          refine lv_aload_n hx hb dM_understand_112 rfl (lv_at hl 1 rfl) ?_
          refine gM3 S hw dM_understand_113 ?_
          refine kz_top (y := nI (ts0.length + 1 + 1)) a1 ?_
          refine lv_aload_n hx hb dM_understand_116 rfl (lv_at hl 1 rfl) ?_
          refine gM8 S hw dM_understand_117 ?_
          refine lv_iload_n hx hb dM_understand_120 rfl (lv_at hl 0 rfl) ?_
          refine ldM8 S hw (vp_in_nI (by omega) (by decide)) dM_understand_121 ?_
          refine stM8 S hw (vp_in_nI (by omega) (by decide)) dM_understand_122 (fun H locs hw => ?_)
          refine lv_aload_n hx hb dM_understand_123 rfl (lv_at hl 1 rfl) ?_
          refine gM9 S hw dM_understand_124 ?_
          refine lv_aload_n hx hb dM_understand_127 rfl (lv_at hl 1 rfl) ?_
          refine gM3 S hw dM_understand_128 ?_
          refine kz_top (y := nI (ts0.length + 1 + 1)) a1 ?_
          refine lv_aload_n hx hb dM_understand_131 rfl (lv_at hl 1 rfl) ?_
          refine gM9 S hw dM_understand_132 ?_
          refine lv_iload_n hx hb dM_understand_135 rfl (lv_at hl 0 rfl) ?_
          refine ldM9 S hw (vp_in_nI (by omega) (by decide)) dM_understand_136 ?_
          refine stM9 S hw (vp_in_nI (by omega) (by decide)) dM_understand_137 (fun H locs hw => ?_)
          refine lv_aload_n hx hb dM_understand_138 rfl (lv_at hl 1 rfl) ?_
          refine lv_dup hx hb dM_understand_139 rfl ?_
          refine gM3 S hw dM_understand_140 ?_
          refine kz_top (y := nI (ts0.length + 1 + 1)) a1 ?_
          refine lv_iconst (v := 1) hx hb dM_understand_143 (by decide) ?_
          refine lv_iadd hx hb dM_understand_144 ?_
          refine kz_top (y := nI (ts0.length + 1 + 1 + 1)) (nI_add (ts0.length + 1 + 1) 1) ?_
          refine pM3 S hw dM_understand_145 (fun H locs hw => ?_)
          refine lv_aload_n hx hb dM_understand_148 rfl (lv_at hl 1 rfl) ?_
          refine gM4 S hw dM_understand_149 ?_
          refine lv_iload_n hx hb dM_understand_152 rfl (lv_at hl 0 rfl) ?_
          refine lv_iconst (v := 3) hx hb dM_understand_153 (by decide) ?_
          refine stM4 S hw (vp_in_nI (by omega) (by decide)) dM_understand_154 (fun H locs hw => ?_)
          refine lv_aload_n hx hb dM_understand_155 rfl (lv_at hl 1 rfl) ?_
          refine gM7 S hw dM_understand_156 ?_
          refine lv_iload_n hx hb dM_understand_159 rfl (lv_at hl 0 rfl) ?_
          refine lv_iconst (v := 0) hx hb dM_understand_160 (by decide) ?_
          refine stM7 S hw (vp_in_nI (by omega) (by decide)) dM_understand_161 (fun H locs hw => ?_)
          refine lv_aload_n hx hb dM_understand_162 rfl (lv_at hl 1 rfl) ?_
          refine gM8 S hw dM_understand_163 ?_
          refine lv_iload_n hx hb dM_understand_166 rfl (lv_at hl 0 rfl) ?_
          refine lv_aload_n hx hb dM_understand_167 rfl (lv_at hl 1 rfl) ?_
          refine gM11 S hw dM_understand_168 ?_
          refine kz_top (y := nI (e0 + t.2.2.2.2.length)) a10 ?_
          refine stM8 S hw (vp_in_nI (by omega) (by decide)) dM_understand_171 (fun H locs hw => ?_)
          refine lv_aload_n hx hb dM_understand_172 rfl (lv_at hl 1 rfl) ?_
          refine gM9 S hw dM_understand_173 ?_
          refine lv_iload_n hx hb dM_understand_176 rfl (lv_at hl 0 rfl) ?_
          refine lv_iconst (v := 1) hx hb dM_understand_177 (by decide) ?_
          refine stM9 S hw (vp_in_nI (by omega) (by decide)) dM_understand_178 (fun H locs hw => ?_)
          refine lv_aload_n hx hb dM_understand_179 rfl (lv_at hl 1 rfl) ?_
          refine gM10 S hw dM_understand_180 ?_
          refine lv_aload_n hx hb dM_understand_183 rfl (lv_at hl 1 rfl) ?_
          refine gM11 S hw dM_understand_184 ?_
          refine kz_top (y := nI (e0 + t.2.2.2.2.length)) a10 ?_
          refine lv_bipush (v := 59) hx hb dM_understand_187 (by decide) ?_
          refine stM10 S hw (vp_in_nI (by omega) (by decide)) dM_understand_189 (fun H locs hw => ?_)
          refine lv_aload_n hx hb dM_understand_190 rfl (lv_at hl 1 rfl) ?_
          refine lv_dup hx hb dM_understand_191 rfl ?_
          refine gM11 S hw dM_understand_192 ?_
          refine kz_top (y := nI (e0 + t.2.2.2.2.length)) a10 ?_
          refine lv_iconst (v := 1) hx hb dM_understand_195 (by decide) ?_
          refine lv_iadd hx hb dM_understand_196 ?_
          refine kz_top (y := nI (e0 + t.2.2.2.2.length + 1)) (nI_add (e0 + t.2.2.2.2.length) 1) ?_
          refine pM11 S hw dM_understand_197 (fun H locs hw => ?_)
          exact MM.vret S hr hlk hw dM_understand_200 ⟨rfl, by
            have hs : semT (ts0.concat u) t.2.2.1 t.1 t.2.2.2.2 = true := (semT_c _ _ _ _ _).mpr ⟨Nat.lt_of_not_le (fun q => c26 (nI_le q (by have := hu.2.2.2.2.1; omega))), hB1, hB2⟩
            refine ⟨fun _ => ⟨?_, rfl⟩, fun q => absurd hs q, fun k h1 h2 => by simp [upd, h1, h2], rfl⟩
            rw [hcl1, hcl2, hcl3]
            refine und_rep hcu (by rw [hlen]; rfl) ?_ ?_ ?_ ?_ ?_ ?_ ?_ <;> (try rw [hlen]) <;> rfl⟩
        · skip
          refine lv_if_ne (tgt := 48) hx hb dM_understand_44 (by decide) (fun c44 => absurd c44 (by decide)) (fun c44 => ?_)
          exact MM.vret S hr hlk hw dM_understand_47 ⟨rfl, fun q0 => (by have q := (semT_c _ _ _ _ _).mp q0; exact (hB2 q.2.2).elim), fun _ => ⟨hcu.rep, a10⟩, fun _ _ _ => rfl, rfl⟩
      · skip
        refine lv_if_eq (tgt := 47) hx hb dM_understand_36 (by decide) (fun c36 => ?_) (fun c36 => absurd c36 (by decide))
        exact MM.vret S hr hlk hw dM_understand_47 ⟨rfl, fun q0 => (by have q := (semT_c _ _ _ _ _).mp q0; exact (hB1 q.2.1).elim), fun _ => ⟨hcu.rep, a10⟩, fun _ _ _ => rfl, rfl⟩
