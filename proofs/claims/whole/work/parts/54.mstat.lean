/-! a word is one of the six just where its number is -/
theorem wdN_pos {tp : Nat → Nat} {a : Nat} : ∀ k, k ≤ 7 → 0 < k → 0 < wdN tp a k
  | 0, _, h => by omega
  | k + 1, hk, _ => by
    rw [wdN, if_pos (by omega)]
    by_cases e : k = 0
    · subst e; simp only [wdN]; omega
    · have := wdN_pos (tp := tp) (a := a) k (by omega) (by omega); omega
theorem wdN_peel {tp : Nat → Nat} {a k : Nat} {W : Int} (V r : Int) (hW : W = V * 27 + r + 1) (hr : 0 ≤ r ∧ r < 26) (hV : 0 ≤ V) (h : wdN tp a k = W) (hl : ∀ i, i < k → 97 ≤ tp (a + i) ∧ tp (a + i) ≤ 122) : ∃ j, k = j + 1 ∧ wdN tp a j = V ∧ (tp (a + j) : Int) = 97 + r := by
  cases k with
  | zero => rw [wdN] at h; omega
  | succ j =>
    rw [wdN] at h
    have h1 := hl j (by omega)
    split at h
    · exact ⟨j, rfl, by omega, by omega⟩
    · omega
theorem wdN_zero {tp : Nat → Nat} {a k : Nat} (h : wdN tp a k = 0) : k = 0 := by
  cases k with
  | zero => rfl
  | succ j =>
    by_cases c : j < 7
    · have := wdN_pos (tp := tp) (a := a) (j + 1) (by omega) (by omega); omega
    · rw [wdN, if_neg c] at h; cases h
def wK : Nat → Int := fun i => match i with | 0 => 46263 | 1 => 791347 | 2 => 14420 | 3 => 12001680 | 4 => 5616614 | _ => 9459316
theorem isW_0 {tp : Nat → Nat} {tl p : Nat} (hk : kd tp tl p = 1) : wdN tp (sk tp tl p) (en tp tl p - sk tp tl p) = 46263 ↔ isW tp tl p 0 = true := by
  obtain ⟨h1, h2⟩ := kd1_en hk
  have hl : ∀ i, i < en tp tl p - sk tp tl p → 97 ≤ tp (sk tp tl p + i) ∧ tp (sk tp tl p + i) ≤ 122 := fun i hi => rn_all (tl := tl) (p := sk tp tl p) (by omega) (by rw [← h2]; omega)
  unfold isW
  rw [Bool.and_eq_true, decide_eq_true_eq, List.all_eq_true]
  constructor
  · intro h
    generalize hK : en tp tl p - sk tp tl p = k0 at h hl
    obtain ⟨k1, rfl, h, e3⟩ := wdN_peel 1713 11 (by decide) (by decide) (by decide) h hl
    replace hl := fun i (hi : i < k1) => hl i (by omega)
    obtain ⟨k2, rfl, h, e2⟩ := wdN_peel 63 11 (by decide) (by decide) (by decide) h hl
    replace hl := fun i (hi : i < k2) => hl i (by omega)
    obtain ⟨k3, rfl, h, e1⟩ := wdN_peel 2 8 (by decide) (by decide) (by decide) h hl
    replace hl := fun i (hi : i < k3) => hl i (by omega)
    obtain ⟨k4, rfl, h, e0⟩ := wdN_peel 0 1 (by decide) (by decide) (by decide) h hl
    replace hl := fun i (hi : i < k4) => hl i (by omega)
    have e := wdN_zero h
    subst e
    refine ⟨⟨hk, rfl⟩, fun i hi => ?_⟩
    rw [List.mem_range] at hi
    have hi' : i < 4 := hi
    rw [decide_eq_true_eq]
    rcases (show i = 0 ∨ i = 1 ∨ i = 2 ∨ i = 3 by omega) with rfl | rfl | rfl | rfl
    · have e' : (tp (sk tp tl p + 0) : Int) = 98 := e0
      show tp (sk tp tl p + 0) = 98
      omega
    · have e' : (tp (sk tp tl p + 1) : Int) = 105 := e1
      show tp (sk tp tl p + 1) = 105
      omega
    · have e' : (tp (sk tp tl p + 2) : Int) = 108 := e2
      show tp (sk tp tl p + 2) = 108
      omega
    · have e' : (tp (sk tp tl p + 3) : Int) = 108 := e3
      show tp (sk tp tl p + 3) = 108
      omega
  · intro h
    obtain ⟨⟨-, h3⟩, h4⟩ := h
    have h3' : en tp tl p - sk tp tl p = 4 := h3
    have e0 : tp (sk tp tl p + 0) = 98 := of_decide_eq_true (h4 0 (List.mem_range.mpr (by decide)))
    have e1 : tp (sk tp tl p + 1) = 105 := of_decide_eq_true (h4 1 (List.mem_range.mpr (by decide)))
    have e2 : tp (sk tp tl p + 2) = 108 := of_decide_eq_true (h4 2 (List.mem_range.mpr (by decide)))
    have e3 : tp (sk tp tl p + 3) = 108 := of_decide_eq_true (h4 3 (List.mem_range.mpr (by decide)))
    rw [h3']
    simp only [wdN, e0, e1, e2, e3]
    decide
theorem isW_1 {tp : Nat → Nat} {tl p : Nat} (hk : kd tp tl p = 1) : wdN tp (sk tp tl p) (en tp tl p - sk tp tl p) = 791347 ↔ isW tp tl p 1 = true := by
  obtain ⟨h1, h2⟩ := kd1_en hk
  have hl : ∀ i, i < en tp tl p - sk tp tl p → 97 ≤ tp (sk tp tl p + i) ∧ tp (sk tp tl p + i) ≤ 122 := fun i hi => rn_all (tl := tl) (p := sk tp tl p) (by omega) (by rw [← h2]; omega)
  unfold isW
  rw [Bool.and_eq_true, decide_eq_true_eq, List.all_eq_true]
  constructor
  · intro h
    generalize hK : en tp tl p - sk tp tl p = k0 at h hl
    obtain ⟨k1, rfl, h, e4⟩ := wdN_peel 29309 3 (by decide) (by decide) (by decide) h hl
    replace hl := fun i (hi : i < k1) => hl i (by omega)
    obtain ⟨k2, rfl, h, e3⟩ := wdN_peel 1085 13 (by decide) (by decide) (by decide) h hl
    replace hl := fun i (hi : i < k2) => hl i (by omega)
    obtain ⟨k3, rfl, h, e2⟩ := wdN_peel 40 4 (by decide) (by decide) (by decide) h hl
    replace hl := fun i (hi : i < k3) => hl i (by omega)
    obtain ⟨k4, rfl, h, e1⟩ := wdN_peel 1 12 (by decide) (by decide) (by decide) h hl
    replace hl := fun i (hi : i < k4) => hl i (by omega)
    obtain ⟨k5, rfl, h, e0⟩ := wdN_peel 0 0 (by decide) (by decide) (by decide) h hl
    replace hl := fun i (hi : i < k5) => hl i (by omega)
    have e := wdN_zero h
    subst e
    refine ⟨⟨hk, rfl⟩, fun i hi => ?_⟩
    rw [List.mem_range] at hi
    have hi' : i < 5 := hi
    rw [decide_eq_true_eq]
    rcases (show i = 0 ∨ i = 1 ∨ i = 2 ∨ i = 3 ∨ i = 4 by omega) with rfl | rfl | rfl | rfl | rfl
    · have e' : (tp (sk tp tl p + 0) : Int) = 97 := e0
      show tp (sk tp tl p + 0) = 97
      omega
    · have e' : (tp (sk tp tl p + 1) : Int) = 109 := e1
      show tp (sk tp tl p + 1) = 109
      omega
    · have e' : (tp (sk tp tl p + 2) : Int) = 101 := e2
      show tp (sk tp tl p + 2) = 101
      omega
    · have e' : (tp (sk tp tl p + 3) : Int) = 110 := e3
      show tp (sk tp tl p + 3) = 110
      omega
    · have e' : (tp (sk tp tl p + 4) : Int) = 100 := e4
      show tp (sk tp tl p + 4) = 100
      omega
  · intro h
    obtain ⟨⟨-, h3⟩, h4⟩ := h
    have h3' : en tp tl p - sk tp tl p = 5 := h3
    have e0 : tp (sk tp tl p + 0) = 97 := of_decide_eq_true (h4 0 (List.mem_range.mpr (by decide)))
    have e1 : tp (sk tp tl p + 1) = 109 := of_decide_eq_true (h4 1 (List.mem_range.mpr (by decide)))
    have e2 : tp (sk tp tl p + 2) = 101 := of_decide_eq_true (h4 2 (List.mem_range.mpr (by decide)))
    have e3 : tp (sk tp tl p + 3) = 110 := of_decide_eq_true (h4 3 (List.mem_range.mpr (by decide)))
    have e4 : tp (sk tp tl p + 4) = 100 := of_decide_eq_true (h4 4 (List.mem_range.mpr (by decide)))
    rw [h3']
    simp only [wdN, e0, e1, e2, e3, e4]
    decide
theorem isW_2 {tp : Nat → Nat} {tl p : Nat} (hk : kd tp tl p = 1) : wdN tp (sk tp tl p) (en tp tl p - sk tp tl p) = 14420 ↔ isW tp tl p 2 = true := by
  obtain ⟨h1, h2⟩ := kd1_en hk
  have hl : ∀ i, i < en tp tl p - sk tp tl p → 97 ≤ tp (sk tp tl p + i) ∧ tp (sk tp tl p + i) ≤ 122 := fun i hi => rn_all (tl := tl) (p := sk tp tl p) (by omega) (by rw [← h2]; omega)
  unfold isW
  rw [Bool.and_eq_true, decide_eq_true_eq, List.all_eq_true]
  constructor
  · intro h
    generalize hK : en tp tl p - sk tp tl p = k0 at h hl
    obtain ⟨k1, rfl, h, e2⟩ := wdN_peel 534 1 (by decide) (by decide) (by decide) h hl
    replace hl := fun i (hi : i < k1) => hl i (by omega)
    obtain ⟨k2, rfl, h, e1⟩ := wdN_peel 19 20 (by decide) (by decide) (by decide) h hl
    replace hl := fun i (hi : i < k2) => hl i (by omega)
    obtain ⟨k3, rfl, h, e0⟩ := wdN_peel 0 18 (by decide) (by decide) (by decide) h hl
    replace hl := fun i (hi : i < k3) => hl i (by omega)
    have e := wdN_zero h
    subst e
    refine ⟨⟨hk, rfl⟩, fun i hi => ?_⟩
    rw [List.mem_range] at hi
    have hi' : i < 3 := hi
    rw [decide_eq_true_eq]
    rcases (show i = 0 ∨ i = 1 ∨ i = 2 by omega) with rfl | rfl | rfl
    · have e' : (tp (sk tp tl p + 0) : Int) = 115 := e0
      show tp (sk tp tl p + 0) = 115
      omega
    · have e' : (tp (sk tp tl p + 1) : Int) = 117 := e1
      show tp (sk tp tl p + 1) = 117
      omega
    · have e' : (tp (sk tp tl p + 2) : Int) = 98 := e2
      show tp (sk tp tl p + 2) = 98
      omega
  · intro h
    obtain ⟨⟨-, h3⟩, h4⟩ := h
    have h3' : en tp tl p - sk tp tl p = 3 := h3
    have e0 : tp (sk tp tl p + 0) = 115 := of_decide_eq_true (h4 0 (List.mem_range.mpr (by decide)))
    have e1 : tp (sk tp tl p + 1) = 117 := of_decide_eq_true (h4 1 (List.mem_range.mpr (by decide)))
    have e2 : tp (sk tp tl p + 2) = 98 := of_decide_eq_true (h4 2 (List.mem_range.mpr (by decide)))
    rw [h3']
    simp only [wdN, e0, e1, e2]
    decide
theorem isW_3 {tp : Nat → Nat} {tl p : Nat} (hk : kd tp tl p = 1) : wdN tp (sk tp tl p) (en tp tl p - sk tp tl p) = 12001680 ↔ isW tp tl p 3 = true := by
  obtain ⟨h1, h2⟩ := kd1_en hk
  have hl : ∀ i, i < en tp tl p - sk tp tl p → 97 ≤ tp (sk tp tl p + i) ∧ tp (sk tp tl p + i) ≤ 122 := fun i hi => rn_all (tl := tl) (p := sk tp tl p) (by omega) (by rw [← h2]; omega)
  unfold isW
  rw [Bool.and_eq_true, decide_eq_true_eq, List.all_eq_true]
  constructor
  · intro h
    generalize hK : en tp tl p - sk tp tl p = k0 at h hl
    obtain ⟨k1, rfl, h, e4⟩ := wdN_peel 444506 17 (by decide) (by decide) (by decide) h hl
    replace hl := fun i (hi : i < k1) => hl i (by omega)
    obtain ⟨k2, rfl, h, e3⟩ := wdN_peel 16463 4 (by decide) (by decide) (by decide) h hl
    replace hl := fun i (hi : i < k2) => hl i (by omega)
    obtain ⟨k3, rfl, h, e2⟩ := wdN_peel 609 19 (by decide) (by decide) (by decide) h hl
    replace hl := fun i (hi : i < k3) => hl i (by omega)
    obtain ⟨k4, rfl, h, e1⟩ := wdN_peel 22 14 (by decide) (by decide) (by decide) h hl
    replace hl := fun i (hi : i < k4) => hl i (by omega)
    obtain ⟨k5, rfl, h, e0⟩ := wdN_peel 0 21 (by decide) (by decide) (by decide) h hl
    replace hl := fun i (hi : i < k5) => hl i (by omega)
    have e := wdN_zero h
    subst e
    refine ⟨⟨hk, rfl⟩, fun i hi => ?_⟩
    rw [List.mem_range] at hi
    have hi' : i < 5 := hi
    rw [decide_eq_true_eq]
    rcases (show i = 0 ∨ i = 1 ∨ i = 2 ∨ i = 3 ∨ i = 4 by omega) with rfl | rfl | rfl | rfl | rfl
    · have e' : (tp (sk tp tl p + 0) : Int) = 118 := e0
      show tp (sk tp tl p + 0) = 118
      omega
    · have e' : (tp (sk tp tl p + 1) : Int) = 111 := e1
      show tp (sk tp tl p + 1) = 111
      omega
    · have e' : (tp (sk tp tl p + 2) : Int) = 116 := e2
      show tp (sk tp tl p + 2) = 116
      omega
    · have e' : (tp (sk tp tl p + 3) : Int) = 101 := e3
      show tp (sk tp tl p + 3) = 101
      omega
    · have e' : (tp (sk tp tl p + 4) : Int) = 114 := e4
      show tp (sk tp tl p + 4) = 114
      omega
  · intro h
    obtain ⟨⟨-, h3⟩, h4⟩ := h
    have h3' : en tp tl p - sk tp tl p = 5 := h3
    have e0 : tp (sk tp tl p + 0) = 118 := of_decide_eq_true (h4 0 (List.mem_range.mpr (by decide)))
    have e1 : tp (sk tp tl p + 1) = 111 := of_decide_eq_true (h4 1 (List.mem_range.mpr (by decide)))
    have e2 : tp (sk tp tl p + 2) = 116 := of_decide_eq_true (h4 2 (List.mem_range.mpr (by decide)))
    have e3 : tp (sk tp tl p + 3) = 101 := of_decide_eq_true (h4 3 (List.mem_range.mpr (by decide)))
    have e4 : tp (sk tp tl p + 4) = 114 := of_decide_eq_true (h4 4 (List.mem_range.mpr (by decide)))
    rw [h3']
    simp only [wdN, e0, e1, e2, e3, e4]
    decide
theorem isW_4 {tp : Nat → Nat} {tl p : Nat} (hk : kd tp tl p = 1) : wdN tp (sk tp tl p) (en tp tl p - sk tp tl p) = 5616614 ↔ isW tp tl p 4 = true := by
  obtain ⟨h1, h2⟩ := kd1_en hk
  have hl : ∀ i, i < en tp tl p - sk tp tl p → 97 ≤ tp (sk tp tl p + i) ∧ tp (sk tp tl p + i) ≤ 122 := fun i hi => rn_all (tl := tl) (p := sk tp tl p) (by omega) (by rw [← h2]; omega)
  unfold isW
  rw [Bool.and_eq_true, decide_eq_true_eq, List.all_eq_true]
  constructor
  · intro h
    generalize hK : en tp tl p - sk tp tl p = k0 at h hl
    obtain ⟨k1, rfl, h, e4⟩ := wdN_peel 208022 19 (by decide) (by decide) (by decide) h hl
    replace hl := fun i (hi : i < k1) => hl i (by omega)
    obtain ⟨k2, rfl, h, e3⟩ := wdN_peel 7704 13 (by decide) (by decide) (by decide) h hl
    replace hl := fun i (hi : i < k2) => hl i (by omega)
    obtain ⟨k3, rfl, h, e2⟩ := wdN_peel 285 8 (by decide) (by decide) (by decide) h hl
    replace hl := fun i (hi : i < k3) => hl i (by omega)
    obtain ⟨k4, rfl, h, e1⟩ := wdN_peel 10 14 (by decide) (by decide) (by decide) h hl
    replace hl := fun i (hi : i < k4) => hl i (by omega)
    obtain ⟨k5, rfl, h, e0⟩ := wdN_peel 0 9 (by decide) (by decide) (by decide) h hl
    replace hl := fun i (hi : i < k5) => hl i (by omega)
    have e := wdN_zero h
    subst e
    refine ⟨⟨hk, rfl⟩, fun i hi => ?_⟩
    rw [List.mem_range] at hi
    have hi' : i < 5 := hi
    rw [decide_eq_true_eq]
    rcases (show i = 0 ∨ i = 1 ∨ i = 2 ∨ i = 3 ∨ i = 4 by omega) with rfl | rfl | rfl | rfl | rfl
    · have e' : (tp (sk tp tl p + 0) : Int) = 106 := e0
      show tp (sk tp tl p + 0) = 106
      omega
    · have e' : (tp (sk tp tl p + 1) : Int) = 111 := e1
      show tp (sk tp tl p + 1) = 111
      omega
    · have e' : (tp (sk tp tl p + 2) : Int) = 105 := e2
      show tp (sk tp tl p + 2) = 105
      omega
    · have e' : (tp (sk tp tl p + 3) : Int) = 110 := e3
      show tp (sk tp tl p + 3) = 110
      omega
    · have e' : (tp (sk tp tl p + 4) : Int) = 116 := e4
      show tp (sk tp tl p + 4) = 116
      omega
  · intro h
    obtain ⟨⟨-, h3⟩, h4⟩ := h
    have h3' : en tp tl p - sk tp tl p = 5 := h3
    have e0 : tp (sk tp tl p + 0) = 106 := of_decide_eq_true (h4 0 (List.mem_range.mpr (by decide)))
    have e1 : tp (sk tp tl p + 1) = 111 := of_decide_eq_true (h4 1 (List.mem_range.mpr (by decide)))
    have e2 : tp (sk tp tl p + 2) = 105 := of_decide_eq_true (h4 2 (List.mem_range.mpr (by decide)))
    have e3 : tp (sk tp tl p + 3) = 110 := of_decide_eq_true (h4 3 (List.mem_range.mpr (by decide)))
    have e4 : tp (sk tp tl p + 4) = 116 := of_decide_eq_true (h4 4 (List.mem_range.mpr (by decide)))
    rw [h3']
    simp only [wdN, e0, e1, e2, e3, e4]
    decide
theorem isW_5 {tp : Nat → Nat} {tl p : Nat} (hk : kd tp tl p = 1) : wdN tp (sk tp tl p) (en tp tl p - sk tp tl p) = 9459316 ↔ isW tp tl p 5 = true := by
  obtain ⟨h1, h2⟩ := kd1_en hk
  have hl : ∀ i, i < en tp tl p - sk tp tl p → 97 ≤ tp (sk tp tl p + i) ∧ tp (sk tp tl p + i) ≤ 122 := fun i hi => rn_all (tl := tl) (p := sk tp tl p) (by omega) (by rw [← h2]; omega)
  unfold isW
  rw [Bool.and_eq_true, decide_eq_true_eq, List.all_eq_true]
  constructor
  · intro h
    generalize hK : en tp tl p - sk tp tl p = k0 at h hl
    obtain ⟨k1, rfl, h, e4⟩ := wdN_peel 350345 0 (by decide) (by decide) (by decide) h hl
    replace hl := fun i (hi : i < k1) => hl i (by omega)
    obtain ⟨k2, rfl, h, e3⟩ := wdN_peel 12975 19 (by decide) (by decide) (by decide) h hl
    replace hl := fun i (hi : i < k2) => hl i (by omega)
    obtain ⟨k3, rfl, h, e2⟩ := wdN_peel 480 14 (by decide) (by decide) (by decide) h hl
    replace hl := fun i (hi : i < k3) => hl i (by omega)
    obtain ⟨k4, rfl, h, e1⟩ := wdN_peel 17 20 (by decide) (by decide) (by decide) h hl
    replace hl := fun i (hi : i < k4) => hl i (by omega)
    obtain ⟨k5, rfl, h, e0⟩ := wdN_peel 0 16 (by decide) (by decide) (by decide) h hl
    replace hl := fun i (hi : i < k5) => hl i (by omega)
    have e := wdN_zero h
    subst e
    refine ⟨⟨hk, rfl⟩, fun i hi => ?_⟩
    rw [List.mem_range] at hi
    have hi' : i < 5 := hi
    rw [decide_eq_true_eq]
    rcases (show i = 0 ∨ i = 1 ∨ i = 2 ∨ i = 3 ∨ i = 4 by omega) with rfl | rfl | rfl | rfl | rfl
    · have e' : (tp (sk tp tl p + 0) : Int) = 113 := e0
      show tp (sk tp tl p + 0) = 113
      omega
    · have e' : (tp (sk tp tl p + 1) : Int) = 117 := e1
      show tp (sk tp tl p + 1) = 117
      omega
    · have e' : (tp (sk tp tl p + 2) : Int) = 111 := e2
      show tp (sk tp tl p + 2) = 111
      omega
    · have e' : (tp (sk tp tl p + 3) : Int) = 116 := e3
      show tp (sk tp tl p + 3) = 116
      omega
    · have e' : (tp (sk tp tl p + 4) : Int) = 97 := e4
      show tp (sk tp tl p + 4) = 97
      omega
  · intro h
    obtain ⟨⟨-, h3⟩, h4⟩ := h
    have h3' : en tp tl p - sk tp tl p = 5 := h3
    have e0 : tp (sk tp tl p + 0) = 113 := of_decide_eq_true (h4 0 (List.mem_range.mpr (by decide)))
    have e1 : tp (sk tp tl p + 1) = 117 := of_decide_eq_true (h4 1 (List.mem_range.mpr (by decide)))
    have e2 : tp (sk tp tl p + 2) = 111 := of_decide_eq_true (h4 2 (List.mem_range.mpr (by decide)))
    have e3 : tp (sk tp tl p + 3) = 116 := of_decide_eq_true (h4 3 (List.mem_range.mpr (by decide)))
    have e4 : tp (sk tp tl p + 4) = 97 := of_decide_eq_true (h4 4 (List.mem_range.mpr (by decide)))
    rw [h3']
    simp only [wdN, e0, e1, e2, e3, e4]
    decide
/-! the reference's draft -/
def HN (d : zD) (h : Hl) (b : Bool) : Prop := HNw d h ∧ d 37 30 = zb b ∧ Wf h
theorem HN.of {d d' : zD} {h : Hl} {b : Bool} (H : HN d h b) {ps : List Nat} (e : MR ps d d') (hp : 30 ∉ ps) : HN d' h b := ⟨HMg.of H.1 (fun p hp => e.1 p (by simp; omega)), by rw [e.2 30 hp]; exact H.2.1, H.2.2⟩
def okM (tp : Nat → Nat) (tl : Nat) (v : Nat × Hl × Bool) (d' : zD) : Prop := CU d' tp tl v.1 ∧ HN d' v.2.1 v.2.2
theorem t8_comes (l : Launch) {g : zG} (hg : zAmOk g) {d : zD} {h : Hl} (H : HNw d h) (w3 : hN h < 6) {so pl mi : Nat} {pa : Int} : zC l g mX8_comes 1 [zr g 37, zi (so : Int), zi pa, zi (pl : Int), zi (mi : Int)] d (fun r d' => r = none ∧ (zF [39, 44, 45, 46, 47] d d' ∧ HNw d' (addM h so pa pl mi))) := by
  obtain ⟨⟨h0, h1, h2, h3, h4, h5⟩, q2, q3, q4⟩ := id H
  refine zC_of (L := [(0, _), (1, _), (2, _), (3, _), (4, _)]) mk_X8_comes (Nat.le_of_ble_eq_true rfl) hg rfl (fun x => ?_)
  refine z_aload_n 0 dX8_comes_0 rfl rfl ?_
  refine z_getr fl_RX8_13 (by decide) rfl rfl dX8_comes_1 ?_
  refine z_iconst dX8_comes_4 ?_
  refine z_iald 1 (by decide) rfl rfl (by decide) (by decide) dX8_comes_5 ?_
  rw [h1]
  refine z_istore (L' := [(0, _), (1, _), (2, _), (3, _), (4, _), (5, _)]) dX8_comes_6 (by decide) rfl rfl ?_
  refine z_aload_n 0 dX8_comes_8 rfl rfl ?_
  refine z_getr fl_RX8_28 (by decide) rfl rfl dX8_comes_9 ?_
  refine z_iload 5 dX8_comes_12 rfl ?_
  refine z_iload_n 1 dX8_comes_14 rfl rfl ?_
  refine z_iast (hN h) (by decide) rfl rfl (by omega) (by decide) dX8_comes_15 ?_
  refine z_aload_n 0 dX8_comes_16 rfl rfl ?_
  refine z_getr fl_RX8_31 (by decide) rfl rfl dX8_comes_17 ?_
  refine z_iload 5 dX8_comes_20 rfl ?_
  refine z_iload_n 2 dX8_comes_22 rfl rfl ?_
  refine z_iast (hN h) (by decide) rfl rfl (by omega) (by decide) dX8_comes_23 ?_
  refine z_aload_n 0 dX8_comes_24 rfl rfl ?_
  refine z_getr fl_RX8_34 (by decide) rfl rfl dX8_comes_25 ?_
  refine z_iload 5 dX8_comes_28 rfl ?_
  refine z_iload_n 3 dX8_comes_30 rfl rfl ?_
  refine z_iast (hN h) (by decide) rfl rfl (by omega) (by decide) dX8_comes_31 ?_
  refine z_aload_n 0 dX8_comes_32 rfl rfl ?_
  refine z_getr fl_RX8_37 (by decide) rfl rfl dX8_comes_33 ?_
  refine z_iload 5 dX8_comes_36 rfl ?_
  refine z_iload 4 dX8_comes_38 rfl ?_
  refine z_iast (hN h) (by decide) rfl rfl (by omega) (by decide) dX8_comes_40 ?_
  refine z_aload_n 0 dX8_comes_41 rfl rfl ?_
  refine z_getr fl_RX8_13 (by decide) rfl rfl dX8_comes_42 ?_
  refine z_iconst dX8_comes_45 ?_
  refine z_dup2 dX8_comes_46 rfl rfl ?_
  refine z_iald 1 (by decide) rfl rfl (by decide) (by decide) dX8_comes_47 ?_
  refine z_iconst dX8_comes_48 ?_
  rw [zu_ne (by decide), zu_ne (by decide), zu_ne (by decide), zu_ne (by decide), h1]
  refine z_iadd dX8_comes_49 ?_
  refine z_iast 1 (by decide) rfl rfl (by decide) (by decide) dX8_comes_50 ?_
  generalize hd1 : zu (zu (zu (zu (zu d 44 (hN h) (so : Int)) 45 (hN h) pa) 46 (hN h) (pl : Int)) 47 (hN h) (mi : Int)) 39 1 ((hN h : Int) + 1) = d1
  have a44 : ∀ i, d1 44 i = if i = hN h then (so : Int) else d 44 i := fun i => by rw [← hd1]; simp [zu]
  have a45 : ∀ i, d1 45 i = if i = hN h then pa else d 45 i := fun i => by rw [← hd1]; simp [zu]
  have a46 : ∀ i, d1 46 i = if i = hN h then (pl : Int) else d 46 i := fun i => by rw [← hd1]; simp [zu]
  have a47 : ∀ i, d1 47 i = if i = hN h then (mi : Int) else d 47 i := fun i => by rw [← hd1]; simp [zu]
  have a39 : ∀ i, d1 39 i = if i = 1 then (hN h : Int) + 1 else d 39 i := fun i => by rw [← hd1]; simp [zu]
  have aF : zF [39, 44, 45, 46, 47] d d1 := by rw [← hd1]; exact ((((zF.rf.up (by decide)).up (by decide)).up (by decide)).up (by decide)).up (by decide)
  refine z_vret rfl dX8_comes_51 (⟨rfl, aF, ⟨by rw [a39]; exact h0, by rw [a39]; rfl, by rw [a39]; exact h2, by rw [a39]; exact h3, by rw [a39]; exact h4, by rw [a39]; exact h5⟩, fun i hi => ?_, fun i hi => by rw [aF 49 (by decide)]; exact q3 i hi, fun i hi => by rw [aF 53 (by decide), aF 54 (by decide), aF 55 (by decide)]; exact q4 i hi⟩)
  have hi' : i < hN h + 1 := hi
  show d1 44 i = ((if i = hN h then so else hso h i : Nat) : Int) ∧ d1 45 i = (if i = hN h then pa else hpa h i) ∧ d1 46 i = ((if i = hN h then pl else hpl h i : Nat) : Int) ∧ d1 47 i = ((if i = hN h then mi else hmi h i : Nat) : Int)
  rw [a44, a45, a46, a47]
  by_cases e : i = hN h
  · rw [if_pos e, if_pos e, if_pos e, if_pos e, if_pos e, if_pos e, if_pos e, if_pos e]; exact ⟨rfl, rfl, rfl, rfl⟩
  · rw [if_neg e, if_neg e, if_neg e, if_neg e, if_neg e, if_neg e, if_neg e, if_neg e]; exact q2 i (by omega)
theorem zF.MPF {ps : List Nat} {a b : zD} (h : zF ps a b) (hp : ∀ p ∈ ps, p ∈ [39, 44, 45, 46, 47, 49, 53, 54, 55]) : MPF a b := ⟨fun p hq => h p (fun z => hq (List.mem_cons_of_mem _ (hp p z))), fun i _ => by rw [h 37 (fun z => absurd (hp 37 z) (by decide))]⟩
theorem t8_readBill (l : Launch) {g : zG} (hg : zAmOk g) {d : zD} {tp : Nat → Nat} {tl p : Nat} {h : Hl} {b : Bool} (T : TM d tp tl) (C : CU d tp tl (en tp tl p)) (H : HN d h b) : zC l g mX8_readBill 4 [zr g 37, zi (sk tp tl p : Nat)] d (PM d (spBill tp tl h b p) (okM tp tl)) := by
  refine zC_of (L := [(0, _), (1, _)]) mk_X8_readBill (Nat.le_of_ble_eq_true rfl) hg rfl (fun x => ?_)
  refine z_aload_n 0 dX8_readBill_0 rfl rfl ?_
  refine z_geti fl_RX8_154 (by decide) rfl rfl dX8_readBill_1 ?_
  rw [H.2.1]
  refine z_if_eq_b 14 dX8_readBill_4 (by decide) (fun h_4 => ?_) (fun h_4 => ?_)
  · refine z_aload_n 0 dX8_readBill_14 rfl rfl ?_
    refine z_iconst dX8_readBill_15 ?_
    refine z_cv (t8_readSet l hg T C (least := 1) (by decide)) mk_X8_readSet mi_X8_readSet ml_RX8_158 (by omega) (by decide) rfl rfl rfl rfl (Nat.le_of_ble_eq_true rfl) dX8_readBill_16 (z_pm (fun f_16 d_16 e_16 a_16 b_16 => ?_) (fun v_16 d_16 e_16 a_16 b_16 c_16 => ?_))
    · refine z_if_ne 24 (by decide) dX8_readBill_19 (by decide) (fun h_19 => absurd h_19 (by decide)) (fun h_19 => ?_)
      refine z_iconst dX8_readBill_22 ?_
      exact z_bret (b := false) rfl dX8_readBill_23 (PM.f (by rw [spBill, if_neg (by rw [h_4]; decide), e_16]) a_16 b_16)
    · obtain ⟨c1, c2, c3⟩ := c_16
      have hse := spSet_ok (q := v_16.1) (s := v_16.2) C.1 e_16
      have H1 := H.of c1 (by decide)
      refine z_if_ne 24 (by decide) dX8_readBill_19 (by decide) (fun h_19 => ?_) (fun h_19 => absurd h_19 (by decide))
      refine z_aload_n 0 dX8_readBill_24 rfl rfl ?_
      refine z_iconst dX8_readBill_25 ?_
      refine z_putg fp_RX8_154 (by decide) rfl rfl (by decide +kernel) (by decide +kernel) dX8_readBill_26 ?_
      refine z_aload_n 0 dX8_readBill_29 rfl rfl ?_
      refine z_getr fl_RX8_13 (by decide) rfl rfl dX8_readBill_30 ?_
      refine z_iconst dX8_readBill_33 ?_
      refine z_aload_n 0 dX8_readBill_34 rfl rfl ?_
      refine z_geti fl_RX8_123 (by decide) rfl rfl dX8_readBill_35 ?_
      rw [zu_row, if_neg (by decide), c3]
      refine z_iast 0 (by decide) rfl rfl (by decide) (by decide) dX8_readBill_38 ?_
      refine z_iconst dX8_readBill_39 ?_
      have aF : zF [37, 39] d_16 (zu (zu d_16 37 30 1) 39 0 (v_16.2 : Int)) := (zF.rf.up (by decide)).up (by decide)
      obtain ⟨⟨⟨h0, h1, h2, h3, h4, h5⟩, q2, q3, q4⟩, r1, r2⟩ := H1
      exact z_bret (b := true) rfl dX8_readBill_40 (PM.t (v := (v_16.1, setB h v_16.2, true)) (by rw [spBill, if_neg (by rw [h_4]; decide), e_16]) ((a_16.up (by decide)).ups (by decide)) (by rw [zu_ne (by decide), zu_row, if_neg (by decide), b_16]) ⟨c2.of (by rw [zu_ne (by decide), zu_row, if_neg (by decide)]), ⟨⟨by simp [zu]; rfl, by simp [zu]; exact h1, by simp [zu]; exact h2, by simp [zu]; exact h3, by simp [zu]; exact h4, by simp [zu]; exact h5⟩, fun i hi => by rw [aF 44 (by decide), aF 45 (by decide), aF 46 (by decide), aF 47 (by decide)]; exact q2 i hi, fun i hi => by rw [aF 49 (by decide)]; exact q3 i hi, fun i hi => by rw [aF 53 (by decide), aF 54 (by decide), aF 55 (by decide)]; exact q4 i hi⟩, by simp [zu]; rfl, Wf_setB r2 hse.2.2⟩)
  · refine z_aload_n 0 dX8_readBill_7 rfl rfl ?_
    refine z_iconst dX8_readBill_8 ?_
    refine z_iload_n 1 dX8_readBill_9 rfl rfl ?_
    refine z_cv (t8_fails l hg d (k := 3) (s := sk tp tl p)) mk_X8_fails mi_X8_fails ml_RX8_137 (by omega) (by decide) rfl rfl rfl rfl (Nat.le_of_ble_eq_true rfl) dX8_readBill_10 (fun r_10 d_10 q_10 => ?_)
    obtain ⟨rfl, rfl⟩ := q_10
    show zV l x g mX8_readBill 4 _ _ _ [_] _
    exact z_bret rfl dX8_readBill_13 (PM.f (by rw [spBill, if_pos h_4]) (MPF.rf.up (by decide)) (zu_at _ _ _ _))
theorem t8_readSub (l : Launch) {g : zG} (hg : zAmOk g) {d : zD} {tp : Nat → Nat} {tl p : Nat} {h : Hl} {b : Bool} (T : TM d tp tl) (C : CU d tp tl (en tp tl p)) (H : HN d h b) : zC l g mX8_readSub 4 [zr g 37, zi (sk tp tl p : Nat)] d (PM d (spSub tp tl h b p) (okM tp tl)) := by
  have w3 := H.2.2.2.2.1
  have w6 := H.2.2.2.2.2.2.2.1
  obtain ⟨⟨h0, h1, h2, h3, h4, h5⟩, q2, q3, q4⟩ := id H.1
  refine zC_of (L := [(0, _), (1, _)]) mk_X8_readSub (Nat.le_of_ble_eq_true rfl) hg rfl (fun x => ?_)
  refine z_aload_n 0 dX8_readSub_0 rfl rfl ?_
  refine z_getr fl_RX8_13 (by decide) rfl rfl dX8_readSub_1 ?_
  refine z_iconst dX8_readSub_4 ?_
  refine z_iald 2 (by decide) rfl rfl (by decide) (by decide) dX8_readSub_5 ?_
  refine z_iconst dX8_readSub_6 ?_
  rw [h2]
  refine z_icmp_eq 17 (by omega) (by omega) dX8_readSub_7 (by decide) (fun h_7 => ?_) (fun h_7 => ?_)
  · refine z_aload_n 0 dX8_readSub_17 rfl rfl ?_
    refine z_getr fl_RX8_13 (by decide) rfl rfl dX8_readSub_18 ?_
    refine z_iconst dX8_readSub_21 ?_
    refine z_iald 1 (by decide) rfl rfl (by decide) (by decide) dX8_readSub_22 ?_
    refine z_bipush dX8_readSub_23 (by decide) ?_
    rw [h1]
    refine z_icmp_ne 35 (by omega) (by omega) dX8_readSub_25 (by decide) (fun h_25 => ?_) (fun h_25 => ?_)
    · refine z_aload_n 0 dX8_readSub_35 rfl rfl ?_
      refine z_iconst dX8_readSub_36 ?_
      refine z_cv (t8_readSet l hg T C (least := 1) (by decide)) mk_X8_readSet mi_X8_readSet ml_RX8_158 (by omega) (by decide) rfl rfl rfl rfl (Nat.le_of_ble_eq_true rfl) dX8_readSub_37 (z_pm (fun f_37 d_37 e_37 a_37 b_37 => ?_) (fun v_37 d_37 e_37 a_37 b_37 c_37 => ?_))
      · refine z_if_ne 45 (by decide) dX8_readSub_40 (by decide) (fun h_40 => absurd h_40 (by decide)) (fun h_40 => ?_)
        refine z_iconst dX8_readSub_43 ?_
        exact z_bret (b := false) rfl dX8_readSub_44 (PM.f (by rw [spSub, if_neg (by omega), if_neg (by omega), e_37]) a_37 b_37)
      · obtain ⟨c1, c2, c3⟩ := c_37
        have hse := spSet_ok (q := v_37.1) (s := v_37.2) C.1 e_37
        have H1 := H.of c1 (by decide)
        refine z_if_ne 45 (by decide) dX8_readSub_40 (by decide) (fun h_40 => ?_) (fun h_40 => absurd h_40 (by decide))
        refine z_aload_n 0 dX8_readSub_45 rfl rfl ?_
        refine z_getr fl_RX8_13 (by decide) rfl rfl dX8_readSub_46 ?_
        refine z_iconst dX8_readSub_49 ?_
        refine z_aload_n 0 dX8_readSub_50 rfl rfl ?_
        refine z_getr fl_RX8_13 (by decide) rfl rfl dX8_readSub_51 ?_
        refine z_iconst dX8_readSub_54 ?_
        refine z_iald 1 (by decide) rfl rfl (by decide) (by decide) dX8_readSub_55 ?_
        rw [H1.1.1.2.1]
        refine z_iast 2 (by decide) rfl rfl (by decide) (by decide) dX8_readSub_56 ?_
        refine z_aload_n 0 dX8_readSub_57 rfl rfl ?_
        refine z_iconst dX8_readSub_58 ?_
        refine z_iconst dX8_readSub_59 ?_
        refine z_aload_n 0 dX8_readSub_60 rfl rfl ?_
        refine z_geti fl_RX8_123 (by decide) rfl rfl dX8_readSub_61 ?_
        rw [zu_ne (by decide), c3]
        have aF : zF [39] d_37 (zu d_37 39 2 (hN h : Int)) := zF.rf.up (by decide)
        obtain ⟨⟨⟨h0, h1, h2, h3, h4, h5⟩, q2, q3, q4⟩, r1, r2⟩ := H1
        have H2 : HNw (zu d_37 39 2 (hN h : Int)) (setS h (hN h)) := ⟨⟨by simp [zu]; exact h0, by simp [zu]; exact h1, by simp [zu]; rfl, by simp [zu]; exact h3, by simp [zu]; exact h4, by simp [zu]; exact h5⟩, fun i hi => by rw [aF 44 (by decide), aF 45 (by decide), aF 46 (by decide), aF 47 (by decide)]; exact q2 i hi, fun i hi => by rw [aF 49 (by decide)]; exact q3 i hi, fun i hi => by rw [aF 53 (by decide), aF 54 (by decide), aF 55 (by decide)]; exact q4 i hi⟩
        refine z_iconst dX8_readSub_64 ?_
        refine z_cv (t8_comes l hg H2 (show hN h < 6 by omega) (so := 1) (pa := -1) (pl := v_37.2) (mi := 0)) mk_X8_comes mi_X8_comes ml_RX8_162 (by omega) (by decide) rfl rfl rfl rfl (Nat.le_of_ble_eq_true rfl) dX8_readSub_65 (zvoid fun d_65 q_65 => ?_)
        obtain ⟨s1, s2⟩ := q_65
        refine z_iconst dX8_readSub_68 ?_
        exact z_bret (b := true) rfl dX8_readSub_69 (PM.t (v := (v_37.1, addM (setS h (hN h)) 1 (-1) v_37.2 0, b)) (by rw [spSub, if_neg (by omega), if_neg (by omega), e_37]) ((a_37.ups (by decide)).tr (s1.MPF (by decide))) (by rw [s1 37 (by decide), aF 37 (by decide), b_37]) ⟨c2.of (by rw [s1 37 (by decide), aF 37 (by decide)]), s2, by rw [s1 37 (by decide), aF 37 (by decide)]; exact r1, Wf_sub r2 (by omega) (by omega) hse.2.2⟩)
    · refine z_aload_n 0 dX8_readSub_28 rfl rfl ?_
      refine z_iconst dX8_readSub_29 ?_
      refine z_iload_n 1 dX8_readSub_30 rfl rfl ?_
      refine z_cv (t8_fails l hg d (k := 4) (s := sk tp tl p)) mk_X8_fails mi_X8_fails ml_RX8_137 (by omega) (by decide) rfl rfl rfl rfl (Nat.le_of_ble_eq_true rfl) dX8_readSub_31 (fun r_31 d_31 q_31 => ?_)
      obtain ⟨rfl, rfl⟩ := q_31
      show zV l x g mX8_readSub 4 _ _ _ [_] _
      exact z_bret rfl dX8_readSub_34 (PM.f (by rw [spSub, if_neg (by omega), if_pos (by omega)]) (MPF.rf.up (by decide)) (zu_at _ _ _ _))
  · refine z_aload_n 0 dX8_readSub_10 rfl rfl ?_
    refine z_iconst dX8_readSub_11 ?_
    refine z_iload_n 1 dX8_readSub_12 rfl rfl ?_
    refine z_cv (t8_fails l hg d (k := 3) (s := sk tp tl p)) mk_X8_fails mi_X8_fails ml_RX8_137 (by omega) (by decide) rfl rfl rfl rfl (Nat.le_of_ble_eq_true rfl) dX8_readSub_13 (fun r_13 d_13 q_13 => ?_)
    obtain ⟨rfl, rfl⟩ := q_13
    show zV l x g mX8_readSub 4 _ _ _ [_] _
    exact z_bret rfl dX8_readSub_16 (PM.f (by rw [spSub, if_pos (by omega)]) (MPF.rf.up (by decide)) (zu_at _ _ _ _))
theorem t8_readQuota (l : Launch) {g : zG} (hg : zAmOk g) {d : zD} {tp : Nat → Nat} {tl p : Nat} {h : Hl} {b : Bool} (T : TM d tp tl) (C : CU d tp tl (en tp tl p)) (H : HN d h b) : zC l g mX8_readQuota 3 [zr g 37, zi (sk tp tl p : Nat)] d (PM d (spQuo tp tl h b p) (okM tp tl)) := by
  have w2 := H.2.2.2.1
  obtain ⟨⟨h0, h1, h2, h3, h4, h5⟩, q2, q3, q4⟩ := id H.1
  refine zC_of (L := [(0, _), (1, _)]) mk_X8_readQuota (Nat.le_of_ble_eq_true rfl) hg rfl (fun x => ?_)
  refine z_aload_n 0 dX8_readQuota_0 rfl rfl ?_
  refine z_getr fl_RX8_13 (by decide) rfl rfl dX8_readQuota_1 ?_
  refine z_iconst dX8_readQuota_4 ?_
  refine z_iald 5 (by decide) rfl rfl (by decide) (by decide) dX8_readQuota_5 ?_
  rw [h5]
  refine z_if_le 16 (by omega) dX8_readQuota_6 (by decide) (fun h_6 => ?_) (fun h_6 => ?_)
  · refine z_aload_n 0 dX8_readQuota_16 rfl rfl ?_
    refine z_iconst dX8_readQuota_17 ?_
    refine z_bipush dX8_readQuota_18 (by decide) ?_
    refine z_cv (t8_readNumber l hg T C (lo := 1) (hi := 9) (by decide) (by decide)) mk_X8_readNumber mi_X8_readNumber ml_RX8_151 (by omega) (by decide) rfl rfl rfl rfl (Nat.le_of_ble_eq_true rfl) dX8_readQuota_20 (z_pm (fun f_20 d_20 e_20 a_20 b_20 => ?_) (fun v_20 d_20 e_20 a_20 b_20 c_20 => ?_))
    · have hsp : spQuo tp tl h b p = .inl f_20 := by
        rw [spQuo, if_neg (by omega)]
        unfold spNum at e_20
        split at e_20
        · rename_i c; cases e_20; rw [if_pos c]
        · rename_i c
          rw [if_neg c]
          split at e_20
          · cases e_20
          · rename_i c2; cases e_20; rw [if_pos (by omega)]
      refine z_if_ne 28 (by decide) dX8_readQuota_23 (by decide) (fun h_23 => absurd h_23 (by decide)) (fun h_23 => ?_)
      refine z_iconst dX8_readQuota_26 ?_
      exact z_bret (b := false) rfl dX8_readQuota_27 (PM.f hsp a_20 b_20)
    · have hsp : spQuo tp tl h b p = .inr (v_20, setQ h (nv tp tl (en tp tl p)), b) ∧ nv tp tl (en tp tl p) ≤ 9 := by
        rw [spQuo, if_neg (by omega)]
        unfold spNum at e_20
        split at e_20
        · cases e_20
        · rename_i c
          rw [if_neg c]
          split at e_20
          · rename_i c2; cases e_20; rw [if_neg (by omega)]; exact ⟨rfl, by omega⟩
          · cases e_20
      obtain ⟨c1, c2, c3⟩ := c_20
      have H1 := H.of c1 (by decide)
      refine z_if_ne 28 (by decide) dX8_readQuota_23 (by decide) (fun h_23 => ?_) (fun h_23 => absurd h_23 (by decide))
      refine z_aload_n 0 dX8_readQuota_28 rfl rfl ?_
      refine z_getr fl_RX8_13 (by decide) rfl rfl dX8_readQuota_29 ?_
      refine z_iconst dX8_readQuota_32 ?_
      refine z_aload_n 0 dX8_readQuota_33 rfl rfl ?_
      refine z_geti fl_RX8_140 (by decide) rfl rfl dX8_readQuota_34 ?_
      rw [c3]
      refine z_iast 5 (by decide) rfl rfl (by decide) (by decide) dX8_readQuota_37 ?_
      refine z_iconst dX8_readQuota_38 ?_
      obtain ⟨⟨⟨h0, h1, h2, h3, h4, h5⟩, q2, q3, q4⟩, r1, r2⟩ := H1
      have aF : zF [39] d_20 (zu d_20 39 5 (nv tp tl (en tp tl p) : Int)) := zF.rf.up (by decide)
      exact z_bret (b := true) rfl dX8_readQuota_39 (PM.t hsp.1 (a_20.ups (by decide)) (by rw [zu_ne (by decide), b_20]) ⟨c2.of (by rw [zu_ne (by decide)]), ⟨⟨by simp [zu]; exact h0, by simp [zu]; exact h1, by simp [zu]; exact h2, by simp [zu]; exact h3, by simp [zu]; exact h4, by simp [zu]; rfl⟩, fun i hi => by rw [aF 44 (by decide), aF 45 (by decide), aF 46 (by decide), aF 47 (by decide)]; exact q2 i hi, fun i hi => by rw [aF 49 (by decide)]; exact q3 i hi, fun i hi => by rw [aF 53 (by decide), aF 54 (by decide), aF 55 (by decide)]; exact q4 i hi⟩, by rw [aF 37 (by decide)]; exact r1, Wf_setQ r2 hsp.2⟩)
  · refine z_aload_n 0 dX8_readQuota_9 rfl rfl ?_
    refine z_iconst dX8_readQuota_10 ?_
    refine z_iload_n 1 dX8_readQuota_11 rfl rfl ?_
    refine z_cv (t8_fails l hg d (k := 3) (s := sk tp tl p)) mk_X8_fails mi_X8_fails ml_RX8_137 (by omega) (by decide) rfl rfl rfl rfl (Nat.le_of_ble_eq_true rfl) dX8_readQuota_12 (fun r_12 d_12 q_12 => ?_)
    obtain ⟨rfl, rfl⟩ := q_12
    show zV l x g mX8_readQuota 3 _ _ _ [_] _
    exact z_bret rfl dX8_readQuota_15 (PM.f (by rw [spQuo, if_pos (by omega)]) (MPF.rf.up (by decide)) (zu_at _ _ _ _))
