/-! ===== the reference: its row of tokens ===== -/
def tokM (F : Nat → Nat → Int32) (e k : Nat) (t : kz_T) : Prop := F 4 k = t.1 ∧ F 5 k = nI t.2.1 ∧ F 6 k = nI t.2.2.1 ∧ F 7 k = t.2.2.2.1 ∧ t.2.2.1 ≤ 1000 ∧ ∃ b : Nat, F 8 k = nI b ∧ F 9 k = nI t.2.2.2.2.length ∧ b + t.2.2.2.2.length ≤ e ∧ ∀ j x, t.2.2.2.2[j]? = some x → F 10 (b + j) = x
def repM (ts : List kz_T) (e : Nat) (I : Nat → Int32) (F : Nat → Nat → Int32) : Prop := I 3 = nI ts.length ∧ ts.length ≤ 1002 ∧ ∀ (k : Nat) (t : kz_T), ts[k]? = some t → tokM F e k t
/-- the bytes tx stand in text i from place f on, a space behind them -/
def stP (i f : Nat) (tx : List Int32) : Prop := 0 < tx.length ∧ f + tx.length < lenK.getD i 0 ∧ chK i (f + tx.length) = 32 ∧ ∀ j x, tx[j]? = some x → chK i (f + j) = x
def inP (i : Nat) (tx : List Int32) : Prop := ∃ q, q < lenK.getD i 0 ∧ chK i q = 32 ∧ stP i (q + 1) tx
/-- bytes between two spaces of a text of words -/
theorem occ_word : ∀ (ws : List (List Int32)) (tx pre suf : List Int32), (∀ w ∈ ws, (32 : Int32) ∉ w) → (32 : Int32) ∉ tx → 32 :: joinW ws = pre ++ 32 :: (tx ++ 32 :: suf) → tx ∈ ws := by
  intro ws
  induction ws with
  | nil =>
    intro tx pre suf _ _ h
    have := congrArg List.length h
    simp [joinW] at this
    omega
  | cons w ws ih =>
    intro tx pre suf hw ht h
    have e : joinW (w :: ws) = w ++ 32 :: joinW ws := by simp [joinW]
    rw [e] at h
    cases pre with
    | nil =>
      simp only [List.nil_append, List.cons.injEq, true_and] at h
      rcases List.append_eq_append_iff.mp h with ⟨a, h1, h2⟩ | ⟨a, h1, h2⟩
      · cases a with
        | nil => rw [List.append_nil] at h1; rw [h1]; exact List.mem_cons_self
        | cons c a =>
          simp only [List.cons_append, List.cons.injEq] at h2
          exact absurd (by rw [h1, ← h2.1]; simp) ht
      · cases a with
        | nil => rw [List.append_nil] at h1; rw [h1]; exact List.mem_cons_self
        | cons c a =>
          simp only [List.cons_append, List.cons.injEq] at h2
          exact absurd (by rw [h1, ← h2.1]; simp) (hw w List.mem_cons_self)
    | cons c pre =>
      simp only [List.cons_append, List.cons.injEq] at h
      obtain ⟨rfl, h⟩ := h
      have hn := hw w List.mem_cons_self
      rcases List.append_eq_append_iff.mp h with ⟨a, h1, h2⟩ | ⟨a, h1, h2⟩
      · exact List.mem_cons_of_mem _ (ih tx a suf (fun w hw' => hw w (List.mem_cons_of_mem _ hw')) ht h2)
      · cases a with
        | nil =>
          simp only [List.nil_append] at h2
          exact List.mem_cons_of_mem _ (ih tx [] suf (fun w hw' => hw w (List.mem_cons_of_mem _ hw')) ht h2.symm)
        | cons c a =>
          simp only [List.cons_append, List.cons.injEq] at h2
          exact absurd (by rw [h1, ← h2.1]; simp) hn
theorem word_occ (ws : List (List Int32)) (tx : List Int32) (h : tx ∈ ws) : ∃ pre suf, 32 :: joinW ws = pre ++ 32 :: (tx ++ 32 :: suf) := by
  induction ws with
  | nil => cases h
  | cons w ws ih =>
    have e : joinW (w :: ws) = w ++ 32 :: joinW ws := by simp [joinW]
    rcases List.mem_cons.mp h with h | h
    · subst h
      exact ⟨[], joinW ws, by rw [e]; rfl⟩
    · obtain ⟨pre, suf, h1⟩ := ih h
      exact ⟨32 :: w ++ pre, suf, by rw [e, h1]; simp⟩
theorem tx_eq {S tx pre suf : List Int32} : S = pre ++ 32 :: (tx ++ 32 :: suf) → (S.getD pre.length 0 = 32 ∧ S.getD (pre.length + 1 + tx.length) 0 = 32 ∧ pre.length + 1 + tx.length < S.length ∧ ∀ j x, tx[j]? = some x → S.getD (pre.length + 1 + j) 0 = x) := by
  intro h
  subst h
  refine ⟨by simp [List.getD_eq_getElem?_getD], ?_, by simp; omega, fun j x hj => ?_⟩
  · rw [List.getD_eq_getElem?_getD, List.getElem?_append_right (by omega), show pre.length + 1 + tx.length - pre.length = tx.length + 1 by omega, List.getElem?_cons_succ, List.getElem?_append_right (by omega), Nat.sub_self]
    rfl
  · have hl := (List.getElem?_eq_some_iff.mp hj).1
    rw [List.getD_eq_getElem?_getD, List.getElem?_append_right (by omega), show pre.length + 1 + j - pre.length = j + 1 by omega, List.getElem?_cons_succ, List.getElem?_append_left hl, hj]
    rfl
theorem eq_tx {S tx : List Int32} {q : Nat} (h1 : q + 1 + tx.length < S.length) (h2 : S.getD q 0 = 32) (h3 : S.getD (q + 1 + tx.length) 0 = 32) (h4 : ∀ j x, tx[j]? = some x → S.getD (q + 1 + j) 0 = x) : S = S.take q ++ 32 :: (tx ++ 32 :: S.drop (q + 1 + tx.length + 1)) := by
  apply List.ext_getElem?
  intro i
  have g : ∀ k, k < S.length → S[k]? = some (S.getD k 0) := fun k hk => by rw [List.getD_eq_getElem?_getD, List.getElem?_eq_getElem hk]; rfl
  rcases Nat.lt_or_ge i q with a | a
  · rw [List.getElem?_append_left (by rw [List.length_take]; omega), List.getElem?_take, if_pos a]
  · rw [List.getElem?_append_right (by rw [List.length_take]; omega), List.length_take, Nat.min_eq_left (by omega)]
    rcases Nat.eq_or_lt_of_le a with b | b
    · subst b
      rw [Nat.sub_self, List.getElem?_cons_zero, g _ (by omega), h2]
    · rw [show i - q = (i - q - 1) + 1 by omega, List.getElem?_cons_succ]
      rcases Nat.lt_or_ge (i - q - 1) tx.length with c | c
      · rw [List.getElem?_append_left c, List.getElem?_eq_getElem c, g i (by omega), ← h4 (i - q - 1) _ (List.getElem?_eq_getElem c), show q + 1 + (i - q - 1) = i by omega]
      · rw [List.getElem?_append_right c]
        rcases Nat.eq_or_lt_of_le c with d | d
        · rw [show i - q - 1 - tx.length = 0 by omega, List.getElem?_cons_zero, g i (by omega), show i = q + 1 + tx.length by omega, h3]
        · rw [show i - q - 1 - tx.length = (i - q - 1 - tx.length - 1) + 1 by omega, List.getElem?_cons_succ, List.getElem?_drop]
          congr 1
          omega
theorem in_iff {i : Nat} (h7 : 7 ≤ i) (h12 : i < 12) {tx : List Int32} (ht : (32 : Int32) ∉ tx) : inP i tx ↔ tx ∈ wK i := by
  have hS := txK_words2 i h7 h12
  have hlen := txK_len i h12
  constructor
  · rintro ⟨q, hq, h1, h2, h3, h4, h5⟩
    have e := eq_tx (S := bytK.getD i []) (tx := tx) (q := q) (by rw [hlen]; exact h3) h1 h4 h5
    rw [hS] at e
    exact occ_word _ tx _ _ (fun w hw => (wK_no i h12 w hw).1) ht e
  · intro h
    obtain ⟨pre, suf, e⟩ := word_occ _ tx h
    rw [← hS] at e
    obtain ⟨a1, a2, a3, a4⟩ := tx_eq e
    have hne := (wK_no i h12 tx h).2
    exact ⟨pre.length, by rw [← hlen]; omega, a1, by cases tx with | nil => exact absurd rfl hne | cons _ _ => simp, by rw [← hlen]; exact a3, a2, a4⟩
