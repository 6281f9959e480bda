/-! ===== the reference: a token is kept ===== -/
theorem nEnd_all (T : Nat → Int32) : ∀ (m k j : Nat), k ≤ j → j < nEnd T m k → iNam (T j) := by
  intro m
  induction m with
  | zero => intro k j h1 h2; rw [nEnd] at h2; omega
  | succ m ih =>
    intro k j h1 h2
    rw [nEnd] at h2
    split at h2
    · rename_i hn
      rcases Nat.eq_or_lt_of_le h1 with d | d
      · subst d; exact hn
      · exact ih (k + 1) j d h2
    · omega
theorem slice_32 {T : Nat → Int32} {p K : Nat} (h : ∀ j, p ≤ j → j < K → iNam (T j)) : (32 : Int32) ∉ sliceT T p (K - p) := by
  intro q
  obtain ⟨j, hj⟩ := List.getElem?_of_mem q
  obtain ⟨h1, h2⟩ := slice_at hj
  have := h (p + j) (by omega) (by omega)
  rw [← h2] at this
  exact absurd this (by decide)
theorem slice_succ (T : Nat → Int32) (p j : Nat) : sliceT T p (j + 1) = sliceT T p j ++ [T (p + j)] := by
  unfold sliceT
  rw [List.range_succ, List.map_append]
  rfl
def kdS (T : Nat → Int32) (n p : Nat) (q : kz_S) : Prop := ¬ q.1 = 6 →
  (((q.1 = 0 ∨ q.1 = 4) ∧ q.2.1 = 0 ∧ q.2.2.2 = sliceT T p (q.2.2.1 - p) ∧ (q.1 = 4 ↔ q.2.2.2 ∈ wK 7) ∧ (32 : Int32) ∉ q.2.2.2) ∨ (q.1 = 1 ∧ q.2.2.2 = []) ∨ (q.1 = 2 ∧ q.2.1 = 0 ∧ q.2.2.2 = (sSc T n (n - p) (p + 1)).1 ∧ q.2.2.1 = (sSc T n (n - p) (p + 1)).2 + 1) ∨ (q.1 = 3 ∧ q.2.1 = 0 ∧ q.2.2.2 = sliceT T p (q.2.2.1 - p)))
theorem kdS_bad (T : Nat → Int32) (n p : Nat) : kdS T n p badS := fun h => absurd rfl h
theorem kdS_D {T : Nat → Int32} {n p k base : Nat} : kdS T n p (scD T n k base) := by
  unfold scD
  split
  · exact kdS_bad T n p
  · exact fun _ => Or.inr (Or.inl ⟨rfl, rfl⟩)
theorem scT_kind {T : Nat → Int32} {n p : Nat} (hp : p < n) : kdS T n p (scT T n p) := by
  unfold scT
  split
  · unfold scN
    split
    · exact kdS_bad T n p
    · intro _
      left
      have h32 : (32 : Int32) ∉ sliceT T p (nEnd T (n - p) p - p) := slice_32 (fun j a b => nEnd_all T _ _ j a b)
      by_cases hm : sliceT T p (nEnd T (n - p) p - p) ∈ wK 7
      · refine ⟨Or.inr ?_, rfl, rfl, ⟨fun _ => hm, fun _ => ?_⟩, h32⟩
        · show (if _ then (4 : Int32) else 0) = 4; rw [if_pos hm]
        · show (if _ then (4 : Int32) else 0) = 4; rw [if_pos hm]
      · refine ⟨Or.inl ?_, rfl, rfl, ⟨fun q => ?_, fun q => absurd q hm⟩, h32⟩
        · show (if _ then (4 : Int32) else 0) = 0; rw [if_neg hm]
        · revert q
          show (if _ then (4 : Int32) else 0) = 4 → _
          rw [if_neg hm]; intro q; exact absurd q (by decide)
  · split
    · exact kdS_D
    · split
      · split
        · exact kdS_D
        · exact kdS_D
      · split
        · unfold scC
          split
          · exact fun _ => Or.inr (Or.inl ⟨rfl, rfl⟩)
          · exact kdS_bad T n p
        · split
          · unfold scS
            split
            · exact fun _ => Or.inr (Or.inr (Or.inl ⟨rfl, rfl, rfl, rfl⟩))
            · exact kdS_bad T n p
          · unfold scG
            split
            · rename_i h
              have h1 : p + 1 < n := by
                rcases Nat.lt_or_ge (p + 1) n with q | q
                · exact q
                · rw [see_out q] at h; exact absurd h (sgn_m1 _)
              refine fun _ => Or.inr (Or.inr (Or.inr ⟨rfl, rfl, ?_⟩))
              show [T p, seeT T n (p + 1)] = sliceT T p (p + 2 - p)
              rw [see_in h1, Nat.add_sub_cancel_left]
              rfl
            · split
              · refine fun _ => Or.inr (Or.inr (Or.inr ⟨rfl, rfl, ?_⟩))
                show [T p] = sliceT T p (p + 1 - p)
                rw [Nat.add_sub_cancel_left]
                rfl
              · exact kdS_bad T n p
theorem curM.kind {ts : List kz_T} {p L e0 : Nat} {k k' v : Int32} {tx : List Int32} {I : Nat → Int32} {F : Nat → Nat → Int32} (h : curM ts (k, p, L, v, tx) e0 I F) : curM ts (k', p, L, v, tx) e0 I (va_up F 4 (upd (F 4) ts.length k')) := by
  obtain ⟨a1, a2, a3, a4, a5, a6, a7, al, a8, a9, a10, ax⟩ := h
  refine ⟨a1, a2, fun j u hu => ?_, pk_us, a5, a6, a7, al, a8, a9, a10, ax⟩
  have hk := (List.getElem?_eq_some_iff.mp hu).1
  exact (a3 j u hu).keep (pk_un (by omega)) rfl rfl rfl rfl rfl (fun _ _ => rfl)
/-- what keep leaves -/
def kpP (ts : List kz_T) (e p L : Nat) (q : kz_S) (I : Nat → Int32) (F : Nat → Nat → Int32) (I' : Nat → Int32) (F' : Nat → Nat → Int32) : Prop := ∃ e', repM (addT ts p L q) e' I' F' ∧ I' 11 = nI e' ∧ (semT ts L q.1 q.2.2.2 = true → e' = e + q.2.2.2.length + 1) ∧ (¬ semT ts L q.1 q.2.2.2 = true → e' = e + q.2.2.2.length) ∧ (∀ k, k ≠ 3 → k ≠ 11 → I' k = I k) ∧ F' 1 = F 1
theorem kpP.of {ts : List kz_T} {e p L : Nat} {q : kz_S} {I I1 I' : Nat → Int32} {F F1 F' : Nat → Nat → Int32}
    (h : (semT ts L q.1 q.2.2.2 = true → repM ((ts ++ [((3 : Int32), p, L, (0 : Int32), [(59 : Int32)])]) ++ [(q.1, p, L, q.2.1, q.2.2.2)]) (e + q.2.2.2.length + 1) I' F' ∧ I' 11 = nI (e + q.2.2.2.length + 1)) ∧ (¬ semT ts L q.1 q.2.2.2 = true → repM (ts ++ [(q.1, p, L, q.2.1, q.2.2.2)]) (e + q.2.2.2.length) I' F' ∧ I' 11 = nI (e + q.2.2.2.length)) ∧ (∀ k, k ≠ 3 → k ≠ 11 → I' k = I1 k) ∧ F' 1 = F1 1)
    (hI : ∀ k, k ≠ 3 → k ≠ 11 → I1 k = I k) (hF : F1 1 = F 1) : kpP ts e p L q I F I' F' := by
  by_cases hs : semT ts L q.1 q.2.2.2 = true
  · exact ⟨_, by rw [addT_y hs]; exact (h.1 hs).1, (h.1 hs).2, fun _ => rfl, fun z => absurd hs z, fun k a b => (h.2.2.1 k a b).trans (hI k a b), h.2.2.2.trans hF⟩
  · exact ⟨_, by rw [addT_n hs]; exact (h.2.1 hs).1, (h.2.1 hs).2, fun z => absurd z hs, fun _ => rfl, fun k a b => (h.2.2.1 k a b).trans (hI k a b), h.2.2.2.trans hF⟩
