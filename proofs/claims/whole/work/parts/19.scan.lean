/-! ===== what is scanned, where it ends ===== -/
abbrev tokOK (k : Int32) (tx : List Int32) : Prop := (k = 3 → tx ∈ wK 3) ∧ (k = 4 → tx ∈ wK 7)
theorem sSc_len (T : Nat → Int32) (n : Nat) : ∀ (m k : Nat), (sSc T n m k).1.length + k ≤ (sSc T n m k).2 := by
  intro m
  induction m with
  | zero => intro k; simp [sSc]
  | succ m ih =>
    intro k
    rw [sSc]
    split
    · simp
    · split
      · simp
      · have h1 := ih (nextT T n k)
        have h2 : k + 1 ≤ nextT T n k := by unfold nextT; split <;> omega
        simp only [List.length_cons]
        omega
theorem see_lt {T : Nat → Int32} {n p : Nat} (h : ¬ seeT T n p = -1) : p < n := by
  rcases Nat.lt_or_ge p n with q | q
  · exact q
  · exact absurd (see_out q) h
def okS (n p : Nat) (q : kz_S) : Prop := ¬ q.1 = 6 → p < q.2.2.1 ∧ q.2.2.1 ≤ n ∧ p + q.2.2.2.length ≤ q.2.2.1 ∧ tokOK q.1 q.2.2.2 ∧ ¬ q.1 = 5
theorem okS_bad (n p : Nat) : okS n p badS := fun h => absurd rfl h
theorem okS_D {T : Nat → Int32} {n p k base : Nat} (h : p ≤ k) : okS n p (scD T n k base) := by
  unfold scD
  split
  · exact okS_bad n p
  · rename_i h1
    intro _
    have h2 := dSc_le T base (n - k) k 0 (by omega)
    have h3 : ¬ (dSc T base (n - k) k 0).1 = k := fun q => h1 (Or.inl q)
    refine ⟨by show p < (dSc T base (n - k) k 0).1; omega, by show (dSc T base (n - k) k 0).1 ≤ n; omega, by show p + 0 ≤ (dSc T base (n - k) k 0).1; omega, ⟨fun q => absurd (show (1 : Int32) = 3 from q) (by decide), fun q => absurd (show (1 : Int32) = 4 from q) (by decide)⟩, fun q => absurd (show (1 : Int32) = 5 from q) (by decide)⟩
theorem scT_ok {T : Nat → Int32} {n p : Nat} (hp : p < n) : okS n p (scT T n p) := by
  unfold scT
  split
  · rename_i hl
    unfold scN
    split
    · exact okS_bad n p
    · intro _
      have h1 := nEnd_le T (n - (p + 1)) (p + 1)
      have h2 : nEnd T (n - p) p = nEnd T (n - (p + 1)) (p + 1) := nEnd_go hp (Or.inl hl)
      refine ⟨by show p < nEnd T (n - p) p; omega, by show nEnd T (n - p) p ≤ n; omega, by show p + (sliceT T p _).length ≤ nEnd T (n - p) p; rw [slice_len]; omega, ⟨fun q => ?_, fun q => ?_⟩, fun q => ?_⟩
      · exfalso
        revert q
        show (if _ then (4 : Int32) else 0) = 3 → False
        split <;> decide
      · show sliceT T p _ ∈ wK 7
        revert q
        show (if sliceT T p _ ∈ wK 7 then (4 : Int32) else 0) = 4 → _
        split
        · rename_i hm; intro _; exact hm
        · intro q; exact absurd q (by decide)
      · revert q
        show (if _ then (4 : Int32) else 0) = 5 → False
        split <;> decide
  · split
    · exact okS_D (Nat.le_refl _)
    · split
      · split
        · exact okS_D (by omega)
        · exact okS_D (by omega)
      · split
        · unfold scC
          split
          · rename_i h
            intro _
            have h1 := see_lt (show ¬ seeT T n (nextT T n (p + 1)) = -1 by rw [h.2]; decide)
            have h2 : p + 1 + 1 ≤ nextT T n (p + 1) := by unfold nextT; split <;> omega
            refine ⟨by show p < nextT T n (p + 1) + 1; omega, by show nextT T n (p + 1) + 1 ≤ n; omega, by show p + 0 ≤ nextT T n (p + 1) + 1; omega, ⟨fun q => absurd (show (1 : Int32) = 3 from q) (by decide), fun q => absurd (show (1 : Int32) = 4 from q) (by decide)⟩, fun q => absurd (show (1 : Int32) = 5 from q) (by decide)⟩
          · exact okS_bad n p
        · split
          · unfold scS
            split
            · rename_i h
              intro _
              have h1 := see_lt (show ¬ seeT T n (sSc T n (n - p) (p + 1)).2 = -1 by rw [h.1]; decide)
              have h2 := sSc_len T n (n - p) (p + 1)
              refine ⟨by show p < (sSc T n (n - p) (p + 1)).2 + 1; omega, by show (sSc T n (n - p) (p + 1)).2 + 1 ≤ n; omega, by show p + (sSc T n (n - p) (p + 1)).1.length ≤ (sSc T n (n - p) (p + 1)).2 + 1; omega, ⟨fun q => absurd (show (2 : Int32) = 3 from q) (by decide), fun q => absurd (show (2 : Int32) = 4 from q) (by decide)⟩, fun q => absurd (show (2 : Int32) = 5 from q) (by decide)⟩
            · exact okS_bad n p
          · unfold scG
            split
            · rename_i h
              intro _
              have h1 : p + 1 < n := by
                rcases Nat.lt_or_ge (p + 1) n with q | q
                · exact q
                · rw [see_out q] at h; exact absurd h (sgn_m1 _)
              exact ⟨by show p < p + 2; omega, by show p + 2 ≤ n; omega, Nat.le_refl _, ⟨fun _ => h, fun q => absurd (show (3 : Int32) = 4 from q) (by decide)⟩, fun q => absurd (show (3 : Int32) = 5 from q) (by decide)⟩
            · split
              · rename_i h
                intro _
                exact ⟨by show p < p + 1; omega, by show p + 1 ≤ n; omega, Nat.le_refl _, ⟨fun _ => h, fun q => absurd (show (3 : Int32) = 4 from q) (by decide)⟩, fun q => absurd (show (3 : Int32) = 5 from q) (by decide)⟩
              · exact okS_bad n p
theorem no_30 : ∀ w ∈ wK 3, w ∉ wK 0 ∧ w ∉ wK 1 := by decide +kernel
theorem no_74 : ∀ w ∈ wK 7, w ∉ wK 4 ∧ w ∉ wK 5 := by decide +kernel
theorem wK_08 : wK 8 = wK 0 := by decide +kernel
theorem wK_019 (w : List Int32) : w ∈ wK 9 ↔ (w ∈ wK 0 ∨ w ∈ wK 1) := by
  constructor
  · intro h
    exact (by decide +kernel : ∀ w ∈ wK 9, w ∈ wK 0 ∨ w ∈ wK 1) w h
  · intro h
    rcases h with h | h
    · exact (by decide +kernel : ∀ w ∈ wK 0, w ∈ wK 9) w h
    · exact (by decide +kernel : ∀ w ∈ wK 1, w ∈ wK 9) w h
theorem end_iff {k : Int32} {tx : List Int32} (h : tokOK k tx) : endX k tx ↔ endT k tx := by
  have e4 : tx ∈ wK 4 ↔ (tx = [36, 41] ∨ tx = [41]) := by
    show tx ∈ ([[36, 41], [41]] : List (List Int32)) ↔ _
    simp
  by_cases h3 : k = 3
  · subst h3
    have h0 := no_30 tx (h.1 rfl)
    simp [endX, endT, iSok, iOpd, e4, h0.1]
  · by_cases h4 : k = 4
    · subst h4
      have h0 := no_74 tx (h.2 rfl)
      simp [endX, endT, iSok, iOpd, h0.1, wK_08]
    · simp [endX, endT, iSok, h3, h4]
theorem beg_iff {k : Int32} {tx : List Int32} (h : tokOK k tx) : begX k tx ↔ begT k tx := by
  have e5 : tx ∈ wK 5 ↔ (tx = [40] ∨ tx = [33] ∨ tx = [64] ∨ tx = [36, 40]) := by
    show tx ∈ ([[40], [33], [64], [36, 40]] : List (List Int32)) ↔ _
    simp
  by_cases h3 : k = 3
  · subst h3
    have h0 := no_30 tx (h.1 rfl)
    simp [begX, begT, iSok, iOpd, e5, h0.1, h0.2]
  · by_cases h4 : k = 4
    · subst h4
      have h0 := no_74 tx (h.2 rfl)
      simp [begX, begT, iSok, iOpd, h0.2, wK_019]
    · simp [begX, begT, iSok, h3, h4]
def allOK (ts : List kz_T) : Prop := ∀ t ∈ ts, tokOK t.1 t.2.2.2.2
theorem sem_iff {ts : List kz_T} {L : Nat} {k : Int32} {tx : List Int32} (ha : allOK ts) (h : tokOK k tx) : semX ts L k tx = semT ts L k tx := by
  unfold semX semT
  cases hg : ts.getLast? with
  | none => rfl
  | some t =>
    have ht : t ∈ ts := List.mem_of_getLast? hg
    simp only [end_iff (ha t ht), beg_iff h]
theorem sem_line {ts : List kz_T} {L : Nat} {k : Int32} {tx : List Int32} (h : semT ts L k tx = true) : ∃ t, ts.getLast? = some t ∧ t.2.2.1 < L := by
  unfold semT at h
  cases hg : ts.getLast? with
  | none => rw [hg] at h; cases h
  | some t => rw [hg] at h; exact ⟨t, rfl, (decide_eq_true_iff.mp h).1⟩
theorem sem_56 {ts : List kz_T} {L : Nat} {k : Int32} (hk : k = 5 ∨ k = 6) : ¬ semX ts L k [] = true := by
  intro h
  unfold semX at h
  cases hg : ts.getLast? with
  | none => rw [hg] at h; cases h
  | some t =>
    rw [hg] at h
    have := (decide_eq_true_iff.mp h).2.2
    rcases hk with rfl | rfl
    · exact absurd this (by decide)
    · exact absurd this (by decide)
theorem addT_ok {ts : List kz_T} {p L : Nat} {q : kz_S} (ha : allOK ts) (h : tokOK q.1 q.2.2.2) : allOK (addT ts p L q) := by
  intro t ht
  unfold addT at ht
  rcases List.mem_append.mp ht with ht | ht
  · rcases List.mem_append.mp ht with ht | ht
    · exact ha t ht
    · split at ht
      · rw [List.mem_singleton.mp ht]
        exact ⟨fun _ => (by decide +kernel : ([59] : List Int32) ∈ wK 3), fun q => absurd (show (3 : Int32) = 4 from q) (by decide)⟩
      · cases ht
  · rw [List.mem_singleton.mp ht]; exact h
/-! the class's row under a change elsewhere, and with a token more -/
theorem repX.frame {ts : List kz_T} {e : Nat} {I I' : Nat → Int32} {F F' : Nat → Nat → Int32} (h : repX ts e I F) (h8 : I' 8 = I 8) (hF : ∀ k, k ≠ 9 → F' k = F k) (h9 : ∀ j, j < e → F' 9 j = F 9 j) : repX ts e I' F' := by
  refine ⟨h8.trans h.1, h.2.1, fun k t ht => ?_⟩
  obtain ⟨a2, a3, a4, a5, al, b, a6, a7, a8, a9⟩ := h.2.2 k t ht
  rw [hF 2 (by decide), hF 3 (by decide), hF 4 (by decide), hF 5 (by decide), hF 6 (by decide), hF 7 (by decide)]
  refine ⟨a2, a3, a4, a5, al, b, a6, a7, a8, fun j x hj => ?_⟩
  have := (List.getElem?_eq_some_iff.mp hj).1
  rw [h9 _ (by omega)]
  exact a9 j x hj
theorem repX.add {ts : List kz_T} {e e' p L b0 : Nat} {k v : Int32} {tx : List Int32} {I I' : Nat → Int32} {F F' : Nat → Nat → Int32} (h : repX ts e I F) (hc : ts.length < 1001) (hA : addXP F ts.length k (nI p) (nI L) v (nI b0) (nI tx.length) F') (h8 : I' 8 = nI (ts.length + 1)) (ht : ∀ j x, tx[j]? = some x → F 9 (b0 + j) = x) (he : e ≤ e') (hb : b0 + tx.length ≤ e') (hL : L ≤ 1000) : repX (ts ++ [(k, p, L, v, tx)]) e' I' F' := by
  obtain ⟨c2, c3, c4, c5, c6, c7, c0, c9⟩ := hA
  refine ⟨by rw [h8, List.length_append]; rfl, by rw [List.length_append]; exact hc, fun i t hi => ?_⟩
  rw [c2, c3, c4, c5, c6, c7, c9]
  rcases Nat.lt_or_ge i ts.length with q | q
  · rw [List.getElem?_append_left q] at hi
    obtain ⟨a2, a3, a4, a5, al, b, a6, a7, a8, a9⟩ := h.2.2 i t hi
    rw [pk_un (by omega), pk_un (by omega), pk_un (by omega), pk_un (by omega), pk_un (by omega), pk_un (by omega)]
    exact ⟨a2, a3, a4, a5, al, b, a6, a7, by omega, a9⟩
  · rw [List.getElem?_append_right q] at hi
    have hz := (List.getElem?_eq_some_iff.mp hi).1
    simp only [List.length_singleton] at hz
    have e1 : i = ts.length := by omega
    subst e1
    rw [Nat.sub_self] at hi
    cases hi
    rw [pk_us, pk_us, pk_us, pk_us, pk_us, pk_us]
    exact ⟨rfl, rfl, rfl, rfl, hL, b0, rfl, rfl, hb, ht⟩
