/-! orders one after the other, and the orders that the class goes through: the same -/
def lexP : Nat → List Nat → List (List Nat)
  | 0, _ => [[]]
  | k + 1, xs => xs.flatMap (fun x => (lexP k (xs.erase x)).map (fun l => x :: l))
theorem mem_lexP : ∀ (k : Nat) (xs l : List Nat), xs.length = k → (l ∈ lexP k xs ↔ l.Perm xs)
  | 0, xs, l, h => by
    have e : xs = [] := List.eq_nil_of_length_eq_zero h
    subst e
    rw [lexP, List.mem_singleton]
    exact ⟨fun z => by rw [z], fun z => List.Perm.eq_nil z⟩
  | k + 1, xs, l, h => by
    rw [lexP, List.mem_flatMap]
    constructor
    · rintro ⟨x, hx, hl⟩
      obtain ⟨l', h1, rfl⟩ := List.mem_map.mp hl
      rw [List.cons_perm_iff_perm_erase]
      exact ⟨hx, (mem_lexP k _ _ (by rw [List.length_erase_of_mem hx, h]; rfl)).mp h1⟩
    · intro z
      cases l with
      | nil => have := z.length_eq; rw [h] at this; cases this
      | cons x l' =>
        rw [List.cons_perm_iff_perm_erase] at z
        exact ⟨x, z.1, List.mem_map.mpr ⟨l', (mem_lexP k _ _ (by rw [List.length_erase_of_mem z.1, h]; rfl)).mpr z.2, rfl⟩⟩
/-- all rows of n motions, the least first -/
def PL (n : Nat) : List (List Nat) := lexP n (List.range n)
theorem mem_PL {n : Nat} {l : List Nat} : l ∈ PL n ↔ l.Perm (List.range n) := mem_lexP n _ l (by simp)
def sw (f : Nat → Nat) (a b : Nat) : Nat → Nat := fun i => if i = b then f a else if i = a then f b else f i
def gK (f : Nat → Nat) : Nat → Option Nat
  | 0 => none
  | j + 1 => if f (j + 1) < f j then gK f j else some j
def gO (f : Nat → Nat) (c : Nat) : Nat → Nat
  | 0 => 0
  | o + 1 => if f (o + 1) < c then gO f c o else o + 1
def rv : Nat → (Nat → Nat) → Nat → Nat → (Nat → Nat)
  | 0, f, _, _ => f
  | u + 1, f, a, b => if a < b then rv u (sw f a b) (a + 1) (b - 1) else f
/-- the next row -/
def nxF (n : Nat) (f : Nat → Nat) : Option (Nat → Nat) := match gK f (n - 1) with
  | none => none
  | some k => some (rv n (sw f k (gO f (f k) (n - 1))) (k + 1) (n - 1))
def nxL (l : List Nat) : Option (List Nat) := (nxF l.length (fun i => l.getD i 0)).map (fun f => (List.range l.length).map f)
def lnkB : List (List Nat) → Bool
  | [] => true
  | [l] => decide (nxL l = none)
  | l :: m :: r => decide (nxL l = some m) && (decide (kyN l 0 < kyN m 0) && lnkB (m :: r))
theorem PL_lnk : ∀ n, n ≤ 6 → lnkB (PL n) = true ∧ (PL n).head? = some (List.range n) := by decide +kernel
theorem lnk_tail {l : List Nat} {r : List (List Nat)} (h : lnkB (l :: r) = true) : lnkB r = true ∧ nxL l = r.head? := by
  cases r with
  | nil => exact ⟨rfl, of_decide_eq_true h⟩
  | cons m r =>
    rw [lnkB, Bool.and_eq_true, Bool.and_eq_true] at h
    exact ⟨h.2.2, of_decide_eq_true h.1⟩
theorem lnk_pw : ∀ (r : List (List Nat)), lnkB r = true → r.Pairwise (fun a b => kyN a 0 < kyN b 0)
  | [], _ => List.Pairwise.nil
  | [l], _ => by simp
  | l :: m :: r, h => by
    rw [lnkB, Bool.and_eq_true, Bool.and_eq_true, decide_eq_true_eq, decide_eq_true_eq] at h
    have ih := lnk_pw (m :: r) h.2.2
    refine List.Pairwise.cons (fun x hx => ?_) ih
    rcases List.mem_cons.mp hx with e | e
    · rw [e]; exact h.2.1
    · exact Nat.lt_trans h.2.1 (List.rel_of_pairwise_cons ih e)
theorem PL_nodup {n : Nat} (hn : n ≤ 6) : (PL n).Nodup := by
  refine List.Pairwise.imp (fun {a b} h e => ?_) (lnk_pw _ (PL_lnk n hn).1)
  rw [e] at h
  exact Nat.lt_irrefl _ h
/-- each child stands ahead of its parent -/
def dG (h : Hl) (l : List Nat) : Prop := ∀ i k, i < l.length → k < l.length → hpa h (l.getD i 0) = (l.getD k 0 : Nat) → i < k
theorem gd_mem {l : List Nat} {i : Nat} (hi : i < l.length) : l.getD i 0 ∈ l := by
  rw [List.getD_eq_getElem?_getD, List.getElem?_eq_getElem hi]
  exact List.getElem_mem _
theorem mem_gd {l : List Nat} {m : Nat} (h : m ∈ l) : ∃ i, i < l.length ∧ l.getD i 0 = m := by
  obtain ⟨i, h1, h2⟩ := List.mem_iff_getElem.mp h
  exact ⟨i, h1, by rw [List.getD_eq_getElem?_getD, List.getElem?_eq_getElem h1]; exact h2⟩
theorem gd_inj {l : List Nat} (hn : l.Nodup) {i j : Nat} (hi : i < l.length) (hj : j < l.length) (e : l.getD i 0 = l.getD j 0) : i = j := by
  rw [List.getD_eq_getElem?_getD, List.getElem?_eq_getElem hi, List.getD_eq_getElem?_getD, List.getElem?_eq_getElem hj] at e
  have e' : l[i] = l[j] := e
  rw [← List.Nodup.idxOf_getElem hn i hi, e', List.Nodup.idxOf_getElem hn j hj]
theorem dG_app {h : Hl} {r : List Nat} {m : Nat} : dG h (r ++ [m]) ↔ dG h r ∧ ∀ q ∈ r ++ [m], hpa h m ≠ (q : Nat) := by
  have hlen : (r ++ [m]).length = r.length + 1 := by simp
  have hm : (r ++ [m]).getD r.length 0 = m := getD_r
  constructor
  · intro hd
    refine ⟨fun i k hi hk e => ?_, fun q hq e => ?_⟩
    · exact hd i k (by omega) (by omega) (by rw [getD_l hi, getD_l hk]; exact e)
    · obtain ⟨k, h1, h2⟩ := mem_gd hq
      have := hd r.length k (by omega) h1 (by rw [hm, h2]; exact e)
      omega
  · rintro ⟨h1, h2⟩ i k hi hk e
    rw [hlen] at hi hk
    by_cases ei : i = r.length
    · rw [ei, hm] at e
      exact absurd e (h2 _ (gd_mem (by rw [hlen]; omega)))
    · by_cases ek : k = r.length
      · omega
      · rw [getD_l (by omega), getD_l (by omega)] at e
        exact h1 i k (by omega) (by omega) e
theorem mem_dfs {h : Hl} (w : Wf h) : ∀ (n s : Nat) (r : List Nat), (r ∈ dfs h n s ∧ pcN s (hN h) = n ∧ s < 2 ^ hN h) ↔ (r.length = n ∧ r.Nodup ∧ (∀ i, s.testBit i = true ↔ i ∈ r) ∧ (∀ m ∈ r, m < hN h) ∧ dG h r)
  | 0, s, r => by
    rw [dfs, List.mem_singleton]
    constructor
    · rintro ⟨rfl, h2, h3⟩
      refine ⟨rfl, List.nodup_nil, fun i => ⟨fun hi => ?_, fun hi => absurd hi List.not_mem_nil⟩, fun m hm => absurd hm List.not_mem_nil, fun i k hi => absurd hi (Nat.not_lt_zero _)⟩
      exfalso
      by_cases c : i < hN h
      · have h4 := pcN_or (s := nd s (2 ^ i)) (m := i) (by rw [nd_pow_bit]; simp) (hN h)
        rw [nd_or hi, if_pos c] at h4
        omega
      · rw [bit_lt h3 (by omega)] at hi; cases hi
    · rintro ⟨h1, h2, h3, h4, h5⟩
      have e := List.eq_nil_of_length_eq_zero h1
      subst e
      have hs : s = 0 := by
        apply Nat.eq_of_testBit_eq
        intro i
        rw [Nat.zero_testBit, ← Bool.not_eq_true]
        intro z
        cases (h3 i).mp z
      subst hs
      exact ⟨rfl, pcN_zero _, Nat.two_pow_pos _⟩
  | n + 1, s, r => by
    rw [dfs, List.mem_flatMap]
    constructor
    · rintro ⟨⟨m, hm, hr⟩, h2, h3⟩
      rw [List.mem_range] at hm
      split at hr
      · rename_i hc
        obtain ⟨r', h4, rfl⟩ := List.mem_map.mp hr
        rw [clB, Bool.and_eq_true] at hc
        have h5 := nd_pc hc.1 hm
        have h6 := nd_less hc.1
        obtain ⟨a1, a2, a3, a4, a5⟩ := (mem_dfs w n (nd s (2 ^ m)) r').mp ⟨h4, by omega, by omega⟩
        have hmr : m ∉ r' := fun z => by have := (a3 m).mpr z; rw [nd_pow_bit] at this; simp at this
        have hbits : ∀ i, s.testBit i = true ↔ i ∈ r' ++ [m] := fun i => by
          rw [List.mem_append, ← a3 i, nd_pow_bit, List.mem_singleton]
          by_cases e : m = i
          · subst e; simp [hc.1]
          · simp [e, Ne.symm e]
        refine ⟨by simp [a1], ?_, hbits, ?_, dG_app.mpr ⟨a5, fun q hq e => ?_⟩⟩
        · rw [List.nodup_append]
          refine ⟨a2, by simp, fun x hx y hy e => ?_⟩
          rw [List.mem_singleton] at hy
          exact hmr (by rw [← hy, ← e]; exact hx)
        · intro x hx
          rcases List.mem_append.mp hx with hx | hx
          · exact a4 x hx
          · rw [List.mem_singleton.mp hx]; exact hm
        · rcases Bool.or_eq_true_iff.mp hc.2 with z | z
          · have := of_decide_eq_true z; omega
          · rw [e, Int.toNat_natCast, (hbits q).mpr hq] at z; cases z
      · cases hr
    · rintro ⟨h1, h2, h3, h4, h5⟩
      rcases List.eq_nil_or_concat r with e | ⟨r', m, e⟩
      · rw [e] at h1; cases h1
      · rw [List.concat_eq_append] at e
        subst e
        obtain ⟨g1, g2⟩ := dG_app.mp h5
        have hm : m < hN h := h4 m (by simp)
        have hms : s.testBit m = true := (h3 m).mpr (by simp)
        rw [List.nodup_append] at h2
        have hmr : m ∉ r' := fun z => h2.2.2 m z m (by simp) rfl
        have hlt : s < 2 ^ hN h := lt_of_bits (fun i hi => by rw [← Bool.not_eq_true]; intro z; have := h4 i ((h3 i).mp z); omega)
        have ih := (mem_dfs w n (nd s (2 ^ m)) r').mpr ⟨by simpa using h1, h2.1, fun i => by
          rw [nd_pow_bit]
          have := h3 i
          rw [List.mem_append, List.mem_singleton] at this
          by_cases e : m = i
          · subst e; simp [hmr]
          · rw [decide_eq_false e]; simp [this, Ne.symm e], fun x hx => h4 x (by simp [hx]), g1⟩
        have h7 := nd_pc hms hm
        refine ⟨⟨m, List.mem_range.mpr hm, ?_⟩, by omega, hlt⟩
        rw [if_pos]
        · exact List.mem_map.mpr ⟨r', ih.1, rfl⟩
        · rw [clB, hms, Bool.true_and, Bool.or_eq_true]
          have hp := w.pa hm
          rcases hp with hp | hp
          · exact Or.inl (decide_eq_true hp)
          · right
            rw [Bool.not_eq_true', ← Bool.not_eq_true]
            intro z
            exact g2 _ ((h3 _).mp z) (by omega)
theorem dfs_nodup {h : Hl} : ∀ (n s : Nat), (dfs h n s).Nodup
  | 0, s => by rw [dfs]; simp
  | n + 1, s => by
    rw [dfs]
    unfold List.Nodup
    rw [List.pairwise_flatMap]
    constructor
    · intro m hm
      split
      · rw [List.pairwise_map]
        exact List.Pairwise.imp (fun {a b} hab e => hab (List.append_cancel_right e)) (dfs_nodup n _)
      · exact List.Pairwise.nil
    · refine List.Pairwise.imp (fun {a b} hab x hx y hy e => ?_) (List.nodup_range (n := hN h))
      split at hx
      · split at hy
        · obtain ⟨x', -, rfl⟩ := List.mem_map.mp hx
          obtain ⟨y', -, rfl⟩ := List.mem_map.mp hy
          have := congrArg List.getLast? e
          rw [List.getLast?_append, List.getLast?_append] at this
          simp at this
          exact hab this
        · cases hy
      · cases hx
/-- a row as an order -/
abbrev lF (l : List Nat) : Nat → Nat := fun i => l.getD i 0
theorem goodO_iff {h : Hl} {f : Nat → Nat} : goodO h f = true ↔ ∀ k, k < hN h → f k < hN h ∧ (grN f k).testBit (f k) = false ∧ chF h (f k) (grN f k) = true := by
  constructor
  · intro hg k hk; exact goodN_at hk hg
  · intro hh
    have : ∀ k, k ≤ hN h → goodN h f k = true := by
      intro k
      induction k with
      | zero => intro _; rfl
      | succ k ih =>
        intro hk
        obtain ⟨a1, a2, a3⟩ := hh k (by omega)
        rw [goodN, ih (by omega), a2, a3, decide_eq_true a1]; rfl
    exact this _ (Nat.le_refl _)
theorem chF_iff {h : Hl} {m s : Nat} : chF h m s = true ↔ ∀ j, j < hN h → hpa h j = m → s.testBit j = true := by
  constructor
  · intro hc j hj e
    rw [← Bool.not_eq_false]
    intro z
    have := chN_false hj e z
    rw [chF, this] at hc
    cases hc
  · intro hh; exact chN_true _ hh
theorem perm_bits {n : Nat} {l : List Nat} (p : l.Perm (List.range n)) : l.length = n ∧ l.Nodup ∧ ∀ m, m ∈ l ↔ m < n :=
  ⟨by rw [p.length_eq]; simp, p.nodup_iff.mpr List.nodup_range, fun m => by rw [p.mem_iff, List.mem_range]⟩
theorem good_dG {h : Hl} (w : Wf h) {l : List Nat} (p : l.Perm (List.range (hN h))) : goodO h (lF l) = true ↔ dG h l := by
  obtain ⟨p1, p2, p3⟩ := perm_bits p
  rw [goodO_iff]
  constructor
  · intro hg i k hi hk e
    obtain ⟨a1, a2, a3⟩ := hg k (by omega)
    have h1 := chF_iff.mp a3 (l.getD i 0) ((p3 _).mp (gd_mem hi)) e
    obtain ⟨j, h2, h3⟩ := (grN_bit (lF l) _ k).mp h1
    have := gd_inj p2 (show j < l.length by omega) hi h3
    omega
  · intro hd k hk
    refine ⟨(p3 _).mp (gd_mem (by omega)), ?_, chF_iff.mpr (fun j hj e => ?_)⟩
    · rw [← Bool.not_eq_true]
      intro z
      obtain ⟨j, h2, h3⟩ := (grN_bit (lF l) _ k).mp z
      have := gd_inj p2 (show j < l.length by omega) (by omega) h3
      omega
    · obtain ⟨i, h2, h3⟩ := mem_gd ((p3 j).mpr hj)
      exact (grN_bit (lF l) _ k).mpr ⟨i, hd i k h2 (by omega) (by rw [h3]; exact e), h3⟩
/-- the good rows, the least first -/
def GL (h : Hl) : List (List Nat) := (PL (hN h)).filter (fun l => goodO h (lF l))
theorem full_bit (n i : Nat) : (2 ^ n - 1).testBit i = decide (i < n) := by rw [Nat.testBit_two_pow_sub_one]
theorem dfs_GL {h : Hl} (w : Wf h) : (dfs h (hN h) (2 ^ hN h - 1)).Perm (GL h) := by
  have w3 := w.2.2.1
  unfold GL
  rw [List.perm_ext_iff_of_nodup (dfs_nodup _ _) ((PL_nodup w3).filter _)]
  intro r
  have hp0 : 0 < 2 ^ hN h := Nat.two_pow_pos _
  have hpc : pcN (2 ^ hN h - 1) (hN h) = hN h := pcN_full _ (fun i hi => by rw [full_bit]; exact decide_eq_true hi)
  rw [List.mem_filter, mem_PL]
  constructor
  · intro hr
    obtain ⟨a1, a2, a3, a4, a5⟩ := (mem_dfs w _ _ r).mp ⟨hr, hpc, by omega⟩
    have p : r.Perm (List.range (hN h)) := by
      rw [List.perm_ext_iff_of_nodup a2 List.nodup_range]
      intro m
      rw [← a3 m, full_bit, decide_eq_true_eq, List.mem_range]
    exact ⟨p, (good_dG w p).mpr a5⟩
  · rintro ⟨p, hg⟩
    obtain ⟨p1, p2, p3⟩ := perm_bits p
    exact ((mem_dfs w (hN h) (2 ^ hN h - 1) r).mpr ⟨p1, p2, fun i => by rw [full_bit, decide_eq_true_eq, p3], fun m hm => (p3 m).mp hm, (good_dG w p).mp hg⟩).1
theorem wayC_GL {h : Hl} (w : Wf h) : wayC h (2 ^ hN h - 1) = (GL h).length := by
  have hpc : pcN (2 ^ hN h - 1) (hN h) = hN h := pcN_full _ (fun i hi => by rw [full_bit]; exact decide_eq_true hi)
  rw [wayC, hpc, (dfs_GL w).length_eq]
