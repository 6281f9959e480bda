/-! ===== THE DOCUMENT'S WORDS, as functions of a tape: T its bytes, n its length ===== -/
def seeT (T : Nat → Int32) (n p : Nat) : Int32 := if p < n then T p else -1
def WK : List (List (List Int32)) := [[[84, 82, 85, 69], [70, 65, 76, 83, 69], [66, 82, 69, 65, 75], [76, 79, 79, 80], [69, 78, 68, 67, 65, 83, 69], [82, 69, 84, 85, 82, 78], [70, 73, 78, 73, 83, 72]],
  [[86, 65, 76, 79, 70], [84, 65, 66, 76, 69], [73, 70], [85, 78, 76, 69, 83, 83], [84, 69, 83, 84], [87, 72, 73, 76, 69], [85, 78, 84, 73, 76], [70, 79, 82], [83, 87, 73, 84, 67, 72, 79, 78], [67, 65, 83, 69], [68, 69, 70, 65, 85, 76, 84], [82, 69, 83, 85, 76, 84, 73, 83], [76, 69, 84], [71, 76, 79, 66, 65, 76], [77, 65, 78, 73, 70, 69, 83, 84], [83, 84, 65, 84, 73, 67]],
  [[82, 69, 77], [69, 81, 86], [78, 69, 81, 86], [78, 79, 84], [65, 78, 68], [66, 69], [86, 69, 67], [68, 79], [84, 72, 69, 78], [79, 82], [69, 76, 83, 69], [84, 79], [66, 89], [73, 78, 84, 79], [82, 69, 80, 69, 65, 84], [82, 69, 80, 69, 65, 84, 87, 72, 73, 76, 69], [82, 69, 80, 69, 65, 84, 85, 78, 84, 73, 76]],
  [[36, 40], [36, 41], [40], [41], [44], [59], [58, 61], [58], [33], [64], [43], [45], [42], [47], [61], [126, 61], [60], [60, 61], [62], [62, 61], [60, 60], [62, 62], [126], [38], [124], [45, 62]],
  [[36, 41], [41]],
  [[40], [33], [64], [36, 40]],
  [[69, 81, 86], [78, 69, 81, 86], [124], [38], [60, 60], [62, 62], [61], [126, 61], [60], [60, 61], [62], [62, 61], [43], [45], [42], [47], [82, 69, 77]],
  [[84, 82, 85, 69], [70, 65, 76, 83, 69], [82, 69, 77], [69, 81, 86], [78, 69, 81, 86], [78, 79, 84], [86, 65, 76, 79, 70], [84, 65, 66, 76, 69], [73, 70], [85, 78, 76, 69, 83, 83], [84, 69, 83, 84], [87, 72, 73, 76, 69], [85, 78, 84, 73, 76], [70, 79, 82], [83, 87, 73, 84, 67, 72, 79, 78], [67, 65, 83, 69], [68, 69, 70, 65, 85, 76, 84], [66, 82, 69, 65, 75], [76, 79, 79, 80], [69, 78, 68, 67, 65, 83, 69], [82, 69, 84, 85, 82, 78], [82, 69, 83, 85, 76, 84, 73, 83], [70, 73, 78, 73, 83, 72], [76, 69, 84], [65, 78, 68], [66, 69], [71, 76, 79, 66, 65, 76], [77, 65, 78, 73, 70, 69, 83, 84], [83, 84, 65, 84, 73, 67], [86, 69, 67], [68, 79], [84, 72, 69, 78], [79, 82], [69, 76, 83, 69], [84, 79], [66, 89], [73, 78, 84, 79], [82, 69, 80, 69, 65, 84], [82, 69, 80, 69, 65, 84, 87, 72, 73, 76, 69], [82, 69, 80, 69, 65, 84, 85, 78, 84, 73, 76]],
  [[84, 82, 85, 69], [70, 65, 76, 83, 69], [66, 82, 69, 65, 75], [76, 79, 79, 80], [69, 78, 68, 67, 65, 83, 69], [82, 69, 84, 85, 82, 78], [70, 73, 78, 73, 83, 72]],
  [[84, 82, 85, 69], [70, 65, 76, 83, 69], [86, 65, 76, 79, 70], [84, 65, 66, 76, 69], [73, 70], [85, 78, 76, 69, 83, 83], [84, 69, 83, 84], [87, 72, 73, 76, 69], [85, 78, 84, 73, 76], [70, 79, 82], [83, 87, 73, 84, 67, 72, 79, 78], [67, 65, 83, 69], [68, 69, 70, 65, 85, 76, 84], [66, 82, 69, 65, 75], [76, 79, 79, 80], [69, 78, 68, 67, 65, 83, 69], [82, 69, 84, 85, 82, 78], [82, 69, 83, 85, 76, 84, 73, 83], [70, 73, 78, 73, 83, 72], [76, 69, 84], [71, 76, 79, 66, 65, 76], [77, 65, 78, 73, 70, 69, 83, 84], [83, 84, 65, 84, 73, 67]],
  [[69, 81, 86], [78, 69, 81, 86]],
  [[82, 69, 77]]]
def wK (i : Nat) : List (List Int32) := WK.getD i []
def joinW (ws : List (List Int32)) : List Int32 := ws.flatMap (fun w => w ++ [32])
theorem txK_words : ∀ i, i < 7 → bytK.getD i [] = joinW (wK i) := by decide +kernel
theorem txK_words2 : ∀ i, 7 ≤ i → i < 12 → bytK.getD i [] = 32 :: joinW (wK i) := by
  intro i h1 h2
  have h : ∀ j, j < 5 → bytK.getD (7 + j) [] = 32 :: joinW (wK (7 + j)) := by decide +kernel
  have := h (i - 7) (by omega)
  rwa [show 7 + (i - 7) = i by omega] at this
theorem wK_no : ∀ i, i < 12 → ∀ w ∈ wK i, (32 : Int32) ∉ w ∧ w ≠ [] := by decide +kernel
def keyL (b : Nat → Int32) (size : Nat) : List Int32 := (List.range size).map b
def wixF : List (List Int32) → List Int32 → Nat → Int32
  | [], _, _ => -1
  | w :: ws, key, num => if w = key then nI num else wixF ws key (num + 1)
theorem nil_none (b : Nat → Int32) (size : Nat) : ∀ (w : List Int32) (rest : List Int32) (num : Nat), (32 : Int32) ∉ w → nilF b size (w ++ 32 :: rest) num none = nilF b size rest (num + 1) (some 0) := by
  intro w
  induction w with
  | nil => intro rest num _; exact nil_sp2 rfl (by simp)
  | cons c w ih =>
    intro rest num h
    rw [List.cons_append, nil_ch3 (fun e => h (by rw [e]; exact List.mem_cons_self))]
    exact ih rest num (fun q => h (List.mem_cons_of_mem _ q))
theorem nil_word (b : Nat → Int32) (size : Nat) : ∀ (w : List Int32) (rest : List Int32) (num k : Nat), (32 : Int32) ∉ w → ((k + w.length = size ∧ ∀ j x, w[j]? = some x → b (k + j) = x) → nilF b size (w ++ 32 :: rest) num (some k) = nI num) ∧ (¬ (k + w.length = size ∧ ∀ j x, w[j]? = some x → b (k + j) = x) → nilF b size (w ++ 32 :: rest) num (some k) = nilF b size rest (num + 1) (some 0)) := by
  intro w
  induction w with
  | nil =>
    intro rest num k _
    refine ⟨fun q => ?_, fun q => ?_⟩
    · have h : k = size := q.1
      subst h
      exact nil_sp1 rfl
    · exact nil_sp2 rfl (fun z => q ⟨Option.some.inj z, by intro j x h; simp at h⟩)
  | cons c w ih =>
    intro rest num k hn
    have hc : ¬ c = 32 := fun e => hn (by rw [e]; exact List.mem_cons_self)
    have hw : (32 : Int32) ∉ w := fun q => hn (List.mem_cons_of_mem _ q)
    rw [List.cons_append]
    by_cases h : k < size ∧ b k = c
    · rw [nil_ch1 hc h.1 h.2]
      have e : (k + 1 + w.length = size ∧ ∀ j x, w[j]? = some x → b (k + 1 + j) = x) ↔ (k + (c :: w).length = size ∧ ∀ j x, (c :: w)[j]? = some x → b (k + j) = x) := by
        constructor
        · rintro ⟨e1, e2⟩
          refine ⟨by simp only [List.length_cons]; omega, fun j x hj => ?_⟩
          cases j with
          | zero => simp at hj; rw [← hj]; exact h.2
          | succ j => rw [List.getElem?_cons_succ] at hj; rw [← e2 j x hj]; congr 1; omega
        · rintro ⟨e1, e2⟩
          refine ⟨by simp only [List.length_cons] at e1; omega, fun j x hj => ?_⟩
          have := e2 (j + 1) x (by rw [List.getElem?_cons_succ]; exact hj)
          rw [← this]; congr 1; omega
      have hi := ih rest num (k + 1) hw
      exact ⟨fun q => hi.1 (e.mpr q), fun q => hi.2 (fun z => q (e.mp z))⟩
    · rw [nil_ch2 hc h, nil_none b size w rest num hw]
      refine ⟨fun q => ?_, fun _ => rfl⟩
      obtain ⟨e1, e2⟩ := q
      exact absurd ⟨by simp only [List.length_cons] at e1; omega, e2 0 c rfl⟩ h
theorem key_iff (b : Nat → Int32) (size : Nat) (w : List Int32) : (0 + w.length = size ∧ ∀ j x, w[j]? = some x → b (0 + j) = x) ↔ w = keyL b size := by
  constructor
  · rintro ⟨e1, e2⟩
    apply List.ext_getElem?
    intro j
    unfold keyL
    rw [List.getElem?_map]
    by_cases h : j < w.length
    · have := e2 j _ (List.getElem?_eq_getElem h)
      rw [List.getElem?_eq_getElem h, List.getElem?_range (by omega), ← this]
      simp
    · rw [List.getElem?_eq_none (by omega), List.getElem?_eq_none (by simp; omega)]
      rfl
  · intro e
    subst e
    refine ⟨by simp [keyL], fun j x hj => ?_⟩
    unfold keyL at hj
    rw [List.getElem?_map] at hj
    by_cases h : j < size
    · rw [List.getElem?_range h] at hj
      simp at hj
      rw [Nat.zero_add]; exact hj
    · rw [List.getElem?_eq_none (by simp; omega)] at hj
      cases hj
theorem nil_words (b : Nat → Int32) (size : Nat) : ∀ (ws : List (List Int32)) (num : Nat), (∀ w ∈ ws, (32 : Int32) ∉ w) → nilF b size (joinW ws) num (some 0) = wixF ws (keyL b size) num := by
  intro ws
  induction ws with
  | nil => intro num _; rfl
  | cons w ws ih =>
    intro num h
    have e : joinW (w :: ws) = w ++ 32 :: joinW ws := by simp [joinW]
    have hw := nil_word b size w (joinW ws) num 0 (h w List.mem_cons_self)
    rw [e, wixF]
    by_cases q : w = keyL b size
    · rw [if_pos q]
      exact hw.1 ((key_iff b size w).mpr q)
    · rw [if_neg q, hw.2 (fun z => q ((key_iff b size w).mp z))]
      exact ih (num + 1) (fun w hw => h w (List.mem_cons_of_mem _ hw))
theorem nil_wK {b : Nat → Int32} {size i : Nat} (hi : i < 7) : nilF b size (bytK.getD i []) 0 (some 0) = wixF (wK i) (keyL b size) 0 := by
  rw [txK_words i hi]
  exact nil_words b size _ 0 (fun w hw => (wK_no i (by omega) w hw).1)
theorem wix_mem : ∀ (ws : List (List Int32)) (key : List Int32) (num : Nat), num + ws.length < 2 ^ 31 → (¬ wixF ws key num = -1 ↔ key ∈ ws) := by
  intro ws key
  induction ws with
  | nil => intro num _; simp [wixF]
  | cons w ws ih =>
    intro num hn
    simp only [List.length_cons] at hn
    rw [wixF]
    by_cases q : w = key
    · rw [if_pos q]
      subst q
      exact ⟨fun _ => List.mem_cons_self, fun _ e => m1_ne (by omega) e.symm⟩
    · rw [if_neg q, ih (num + 1) (by omega)]
      exact ⟨fun h => List.mem_cons_of_mem _ h, fun h => (List.mem_cons.mp h).elim (fun e => absurd e.symm q) id⟩
theorem wixK_mem {i : Nat} (hi : i < 7) (key : List Int32) : ¬ wixF (wK i) key 0 = -1 ↔ key ∈ wK i := wix_mem _ _ _ (by
  have : ∀ i, i < 7 → 0 + (wK i).length < 2 ^ 31 := by decide +kernel
  exact this i hi)
/-! the gap -/
def skp (T : Nat → Int32) (n : Nat) : Nat → Bool → Nat → Nat → Nat × Nat
  | 0, _, p, L => (p, L)
  | m + 1, r, p, L => if T p = 10 then skp T n m false (p + 1) (L + 1) else if T p = 47 ∧ seeT T n (p + 1) = 47 then skp T n m true (p + 1) L else if r = false ∧ ¬ T p = 9 ∧ ¬ T p = 13 ∧ ¬ T p = 32 then (p, L) else skp T n m r (p + 1) L
theorem skp_le (T : Nat → Int32) (n : Nat) : ∀ (m : Nat) (r : Bool) (p L : Nat), p ≤ (skp T n m r p L).1 ∧ (skp T n m r p L).1 ≤ p + m ∧ L ≤ (skp T n m r p L).2 ∧ (skp T n m r p L).2 - L ≤ (skp T n m r p L).1 - p := by
  intro m
  induction m with
  | zero => intro r p L; simp [skp]
  | succ m ih =>
    intro r p L
    rw [skp]
    split
    · have := ih false (p + 1) (L + 1); omega
    · split
      · have := ih true (p + 1) L; omega
      · split
        · simp
        · have := ih r (p + 1) L; omega
/-! what stands at a place -/
def nEnd (T : Nat → Int32) : Nat → Nat → Nat
  | 0, k => k
  | m + 1, k => if iNam (T k) then nEnd T m (k + 1) else k
def sliceT (T : Nat → Int32) (p k : Nat) : List Int32 := (List.range k).map (fun j => T (p + j))
def dgN (c : Int32) : Nat := (dgM c).toNatClampNeg
/-- digits: where they end, their number, never above 2^32 -/
def dSc (T : Nat → Int32) (base : Nat) : Nat → Nat → Nat → Nat × Nat
  | 0, k, a => (k, a)
  | m + 1, k, a => if dgN (T k) < base then dSc T base m (k + 1) (min (a * base + dgN (T k)) 4294967296) else (k, a)
def meanT (T : Nat → Int32) (n k : Nat) (mark : Int32) : Int32 := if seeT T n k = 42 then starB (seeT T n (k + 1)) else if ¬ seeT T n k < 32 ∧ ¬ 126 < seeT T n k ∧ ¬ seeT T n k = mark then seeT T n k else -1
def nextT (T : Nat → Int32) (n k : Nat) : Nat := if seeT T n k = 42 then k + 2 else k + 1
/-- a string's bytes from k on, and where they end -/
def sSc (T : Nat → Int32) (n : Nat) : Nat → Nat → List Int32 × Nat
  | 0, k => ([], k)
  | m + 1, k => if seeT T n k = 34 then ([], k) else if meanT T n k 34 = -1 then ([], k) else ((meanT T n k 34) :: (sSc T n m (nextT T n k)).1, (sSc T n m (nextT T n k)).2)
abbrev kz_S : Type := Int32 × Int32 × Nat × List Int32
def badS : kz_S := (6, 0, 0, [])
def scN (T : Nat → Int32) (n p : Nat) : kz_S := if 40 < nEnd T (n - p) p - p then badS else (if sliceT T p (nEnd T (n - p) p - p) ∈ wK 7 then 4 else 0, 0, nEnd T (n - p) p, sliceT T p (nEnd T (n - p) p - p))
def scD (T : Nat → Int32) (n k base : Nat) : kz_S := if (dSc T base (n - k) k 0).1 = k ∨ 4294967296 ≤ (dSc T base (n - k) k 0).2 then badS else (1, (lN (dSc T base (n - k) k 0).2).toInt32, (dSc T base (n - k) k 0).1, [])
def scC (T : Nat → Int32) (n p : Nat) : kz_S := if ¬ meanT T n (p + 1) 39 = -1 ∧ seeT T n (nextT T n (p + 1)) = 39 then (1, meanT T n (p + 1) 39, nextT T n (p + 1) + 1, []) else badS
def scS (T : Nat → Int32) (n p : Nat) : kz_S := if seeT T n (sSc T n (n - p) (p + 1)).2 = 34 ∧ (sSc T n (n - p) (p + 1)).1.length ≤ 200 then (2, 0, (sSc T n (n - p) (p + 1)).2 + 1, (sSc T n (n - p) (p + 1)).1) else badS
def scG (T : Nat → Int32) (n p : Nat) : kz_S := if [T p, seeT T n (p + 1)] ∈ wK 3 then (3, 0, p + 2, [T p, seeT T n (p + 1)]) else if [T p] ∈ wK 3 then (3, 0, p + 1, [T p]) else badS
def scT (T : Nat → Int32) (n p : Nat) : kz_S := if iLet (T p) then scN T n p else if iDig (T p) then scD T n p 10 else if T p = 35 then (if seeT T n (p + 1) = 88 then scD T n (p + 2) 16 else scD T n (p + 1) 8) else if T p = 39 then scC T n p else if T p = 34 then scS T n p else scG T n p
/-! tokens: kind, place, line, value, text -/
abbrev kz_T : Type := Int32 × Nat × Nat × Int32 × List Int32
abbrev endT (k : Int32) (tx : List Int32) : Prop := iOpd k ∨ (k = 3 ∧ (tx = [36, 41] ∨ tx = [41])) ∨ (k = 4 ∧ tx ∈ wK 8)
abbrev begT (k : Int32) (tx : List Int32) : Prop := iOpd k ∨ (k = 3 ∧ (tx = [40] ∨ tx = [33] ∨ tx = [64] ∨ tx = [36, 40])) ∨ (k = 4 ∧ tx ∈ wK 9)
/-- a ; is understood ahead of a token of kind k and text tx in line L -/
def semT (ts : List kz_T) (L : Nat) (k : Int32) (tx : List Int32) : Bool := match ts.getLast? with
  | none => false
  | some t => decide (t.2.2.1 < L ∧ endT t.1 t.2.2.2.2 ∧ begT k tx)
def addT (ts : List kz_T) (p L : Nat) (q : kz_S) : List kz_T := ts ++ (if semT ts L q.1 q.2.2.2 = true then [(3, p, L, 0, [59])] else []) ++ [(q.1, p, L, q.2.1, q.2.2.2)]
def tokF (T : Nat → Int32) (n : Nat) : Nat → Nat → Nat → List kz_T → List kz_T
  | 0, _, _, ts => ts
  | m + 1, p, L, ts => if (skp T n (n - p) false p L).1 < n then (if (scT T n (skp T n (n - p) false p L).1).1 = 6 then ts ++ [(6, (skp T n (n - p) false p L).1, (skp T n (n - p) false p L).2, 0, [])] else tokF T n m (scT T n (skp T n (n - p) false p L).1).2.2.1 (skp T n (n - p) false p L).2 (addT ts (skp T n (n - p) false p L).1 (skp T n (n - p) false p L).2 (scT T n (skp T n (n - p) false p L).1))) else ts ++ [(5, (skp T n (n - p) false p L).1, (skp T n (n - p) false p L).2, 0, [])]

