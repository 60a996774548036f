/-! the agenda: orders -/
theorem z_topv {l : Launch} {x : zX} {g : zG} {M : zM} {n : Nat} {Q : Option Value → zD → Prop} {pc : Nat} {L : List (Nat × Value)} {st : List Value} {d : zD} {a : Value} (b : Value) (h : a = b) (k : zV l x g M n Q pc L (b :: st) d) : zV l x g M n Q pc L (a :: st) d := by subst h; exact k
theorem z_topv2 {l : Launch} {x : zX} {g : zG} {M : zM} {n : Nat} {Q : Option Value → zD → Prop} {pc : Nat} {L : List (Nat × Value)} {c : Value} {st : List Value} {d : zD} {a : Value} (b : Value) (h : a = b) (k : zV l x g M n Q pc L (c :: b :: st) d) : zV l x g M n Q pc L (c :: a :: st) d := by subst h; exact k
theorem zi_mod (a : Int) : zi a = zi (a % 4294967296) := by
  unfold zi
  congr 1
  rw [← Int32.toInt_inj, Int32.toInt_ofInt, Int32.toInt_ofInt]
  exact (Int.emod_bmod a 4294967296).symm
theorem z_if_eq_f {l : Launch} {x : zX} {g : zG} {M : zM} {n : Nat} {Q : Option Value → zD → Prop} {pc : Nat} {L : List (Nat × Value)} {st : List Value} {d : zD} {a : Int} {off : Int} (t : Nat) (hne : ¬ Int32.ofInt a = 0) (hd : decode M.2.2.1 pc = .ok (.ifCond .eq off, 3)) (ht : (pc : Int) + off = (t : Int)) (kf : zV l x g M n Q (pc + 3) L st d) : zV l x g M n Q pc L (zi a :: st) d := by
  obtain ⟨p, e, s, m, args, below, meth, c, A⟩ := x
  intro ok H locs ls hP hD hS hl
  exact lv_if_eq ok.1 ok.2.1 hd ht (fun hc => absurd hc hne) (fun hc => kf ok H locs ls hP hD hS hl)
theorem zne0 {v : Nat} (h : v ≠ 0) (hv : v < 4294967296) : ¬ Int32.ofInt (v : Int) = 0 := by
  intro e
  rw [zn] at e
  have h1 := pk_tn (n := v) (by omega)
  rw [e] at h1
  exact h h1.symm
def chN (h : Hl) (m s : Nat) : Nat → Bool
  | 0 => true
  | k + 1 => chN h m s k && (if hpa h k = m then s.testBit k else true)
/-- all that are of m stand in s -/
def chF (h : Hl) (m s : Nat) : Bool := chN h m s (hN h)
theorem chN_false {h : Hl} {m s : Nat} : ∀ {j k : Nat}, j < k → hpa h j = m → s.testBit j = false → chN h m s k = false
  | j, 0, hj, _, _ => absurd hj (by omega)
  | j, k + 1, hj, h1, h2 => by
    rw [chN]
    by_cases e : j = k
    · subst e; rw [if_pos h1, h2, Bool.and_false]
    · rw [chN_false (show j < k by omega) h1 h2]; rfl
theorem lp_areChildrenIn {l : Launch} {x : zX} {g : zG} {n : Nat} {Q : Option Value → zD → Prop} {d : zD} {h : Hl} {m s : Nat} (hg : zAmOk g) (w : Wf h) (H : HC 2 d h) (hm : m < hN h) (hs : s < 2147483648) (hn : 1 < n) (hQ : Q (some (zi (zb (chF h m s)))) d) : ∀ r k, chN h m s k = true → k ≤ hN h → hN h - k < r → zV l x g mX0_areChildrenIn n Q 2 [(0, zr g 21), (1, zi (m : Int)), (2, zi (s : Int)), (3, zi (k : Int))] [] d := by
  have w3 := w.2.2.1
  have h3 : d 2 3 = hN h := H.1.2.2.2.1
  intro r
  induction r with
  | zero => intro k hc hk hr; omega
  | succ r ih =>
    intro k hc hk hr
    refine z_iload_n 3 dX0_areChildrenIn_2 rfl rfl ?_
    refine z_aload_n 0 dX0_areChildrenIn_3 rfl rfl ?_
    refine z_getr fl_RX0_18 (by decide) rfl rfl dX0_areChildrenIn_4 ?_
    refine z_geti fl_RX0_22 (by decide) rfl rfl dX0_areChildrenIn_7 ?_
    rw [h3]
    refine z_icmp_ge 42 (by omega) (by omega) dX0_areChildrenIn_10 (by decide) (fun h_10 => ?_) (fun h_10 => ?_)
    · refine z_iconst dX0_areChildrenIn_42 ?_
      exact z_bret (b := true) rfl dX0_areChildrenIn_43 ((show chF h m s = true by rw [chF, ← show k = hN h by omega]; exact hc) ▸ hQ)
    · obtain ⟨e1, e2, e3, e4⟩ := H.m (show k < hN h by omega)
      have hpw := w.pa (show k < hN h by omega)
      refine z_aload_n 0 dX0_areChildrenIn_13 rfl rfl ?_
      refine z_getr fl_RX0_18 (by decide) rfl rfl dX0_areChildrenIn_14 ?_
      refine z_getr fl_RX0_39 (by decide) rfl rfl dX0_areChildrenIn_17 ?_
      refine z_iload_n 3 dX0_areChildrenIn_20 rfl rfl ?_
      refine z_iald _ (by decide) rfl rfl (by omega) (by decide) dX0_areChildrenIn_21 ?_
      refine z_iload_n 1 dX0_areChildrenIn_22 rfl rfl ?_
      rw [e2]
      refine z_icmp_ne 36 (by omega) (by omega) dX0_areChildrenIn_23 (by decide) (fun h_23 => ?_) (fun h_23 => ?_)
      · refine z_iinc 3 (L' := [(0, _), (1, _), (2, _), (3, _)]) dX0_areChildrenIn_36 (by decide) rfl rfl rfl ?_
        refine z_goto 2 dX0_areChildrenIn_39 (by decide) ?_
        exact ih (k + 1) (by rw [chN, hc, if_neg h_23]; rfl) (by omega) (by omega)
      · refine z_iload_n 3 dX0_areChildrenIn_26 rfl rfl ?_
        refine z_iload_n 2 dX0_areChildrenIn_27 rfl rfl ?_
        refine z_cs (t_isIn l hg d (m := k) (s := s) (by omega) hs) mk_X7_isIn ms_X7_isIn ml_RX0_32 (by omega) rfl rfl (Nat.le_of_ble_eq_true rfl) dX0_areChildrenIn_28 (zpure ?_)
        refine z_if_ne_b 36 dX0_areChildrenIn_31 (by decide) (fun h_31 => ?_) (fun h_31 => ?_)
        · refine z_iinc 3 (L' := [(0, _), (1, _), (2, _), (3, _)]) dX0_areChildrenIn_36 (by decide) rfl rfl rfl ?_
          refine z_goto 2 dX0_areChildrenIn_39 (by decide) ?_
          exact ih (k + 1) (by rw [chN, hc, if_pos h_23, h_31]; rfl) (by omega) (by omega)
        · refine z_iconst dX0_areChildrenIn_34 ?_
          exact z_bret (b := false) rfl dX0_areChildrenIn_35 ((show chF h m s = false from chN_false (show k < hN h by omega) h_23 h_31) ▸ hQ)
theorem t_areChildrenIn (l : Launch) {g : zG} (hg : zAmOk g) {d : zD} {h : Hl} (w : Wf h) (H : HC 2 d h) {m s : Nat} (hm : m < hN h) (hs : s < 2147483648) : zC l g mX0_areChildrenIn 2 [zr g 21, zi (m : Int), zi (s : Int)] d (zpu (zi (zb (chF h m s))) d) := by
  refine zC_of (L := [(0, _), (1, _), (2, _)]) mk_X0_areChildrenIn (Nat.le_of_ble_eq_true rfl) hg rfl (fun x => ?_)
  refine z_iconst dX0_areChildrenIn_0 ?_
  refine z_istore_n (L' := [(0, _), (1, _), (2, _), (3, _)]) dX0_areChildrenIn_1 rfl (by decide) rfl rfl ?_
  exact lp_areChildrenIn hg w H hm hs (by omega) ⟨rfl, rfl⟩ (hN h + 1) 0 rfl (by omega) (by omega)
def okB (h : Hl) (s m : Nat) : Bool := !s.testBit m && chF h m s
/-- m is the least motion that may stand next -/
def isLn (h : Hl) (s m : Nat) : Prop := m < hN h ∧ okB h s m = true ∧ ∀ j, j < m → okB h s j = false
theorem lp_leastNext {l : Launch} {x : zX} {g : zG} {n : Nat} {Q : Option Value → zD → Prop} {d : zD} {h : Hl} {s m : Nat} (hg : zAmOk g) (w : Wf h) (H : HC 2 d h) (hs : s < 2147483648) (hm : isLn h s m) (hn : 2 < n) (hQ : Q (some (zi (m : Int))) d) : ∀ r k, k ≤ m → m - k < r → zV l x g mX0_leastNext n Q 2 [(0, zr g 21), (1, zi (s : Int)), (2, zi (k : Int))] [] d := by
  have w3 := w.2.2.1
  have h3 : d 2 3 = hN h := H.1.2.2.2.1
  obtain ⟨m1, m2, m3⟩ := hm
  simp only [okB] at m2 m3
  have hne : ∀ k, okB h s k = false → k ≠ m := fun k hk e => by subst e; simp only [okB] at hk; rw [hk] at m2; cases m2
  intro r
  induction r with
  | zero => intro k hk hr; omega
  | succ r ih =>
    intro k hk hr
    refine z_iload_n 2 dX0_leastNext_2 rfl rfl ?_
    refine z_aload_n 0 dX0_leastNext_3 rfl rfl ?_
    refine z_getr fl_RX0_18 (by decide) rfl rfl dX0_leastNext_4 ?_
    refine z_geti fl_RX0_22 (by decide) rfl rfl dX0_leastNext_7 ?_
    rw [h3]
    refine z_icmp_ge 38 (by omega) (by omega) dX0_leastNext_10 (by decide) (fun h_10 => absurd h_10 (by omega)) (fun h_10 => ?_)
    refine z_iload_n 2 dX0_leastNext_13 rfl rfl ?_
    refine z_iload_n 1 dX0_leastNext_14 rfl rfl ?_
    refine z_cs (t_isIn l hg d (m := k) (s := s) (by omega) hs) mk_X7_isIn ms_X7_isIn ml_RX0_32 (by omega) rfl rfl (Nat.le_of_ble_eq_true rfl) dX0_leastNext_15 (zpure ?_)
    refine z_if_ne_b 32 dX0_leastNext_18 (by decide) (fun h_18 => ?_) (fun h_18 => ?_)
    · refine z_iinc 2 (L' := [(0, _), (1, _), (2, _)]) dX0_leastNext_32 (by decide) rfl rfl rfl ?_
      refine z_goto 2 dX0_leastNext_35 (by decide) ?_
      have hk2 : k ≠ m := hne k (by simp only [okB]; first | (rw [h_18]; rfl) | (rw [h_27, Bool.and_false]))
      exact ih (k + 1) (by omega) (by omega)
    · refine z_aload_n 0 dX0_leastNext_21 rfl rfl ?_
      refine z_iload_n 2 dX0_leastNext_22 rfl rfl ?_
      refine z_iload_n 1 dX0_leastNext_23 rfl rfl ?_
      refine z_cv (t_areChildrenIn l hg w H (m := k) (s := s) (by omega) hs) mk_X0_areChildrenIn mi_X0_areChildrenIn ml_RX0_36 (by omega) (by decide) rfl rfl rfl rfl (Nat.le_of_ble_eq_true rfl) dX0_leastNext_24 (zpure ?_)
      refine z_if_eq_b 32 dX0_leastNext_27 (by decide) (fun h_27 => ?_) (fun h_27 => ?_)
      · refine z_iinc 2 (L' := [(0, _), (1, _), (2, _)]) dX0_leastNext_32 (by decide) rfl rfl rfl ?_
        refine z_goto 2 dX0_leastNext_35 (by decide) ?_
        have hk2 : k ≠ m := hne k (by simp only [okB]; first | (rw [h_18]; rfl) | (rw [h_27, Bool.and_false]))
        exact ih (k + 1) (by omega) (by omega)
      · refine z_iload_n 2 dX0_leastNext_30 rfl rfl ?_
        have e : k = m := Classical.byContradiction fun e => by have := m3 k (by omega); rw [h_18, h_27] at this; cases this
        rw [e]
        exact z_iret rfl dX0_leastNext_31 (hQ)
theorem t_leastNext (l : Launch) {g : zG} (hg : zAmOk g) {d : zD} {h : Hl} (w : Wf h) (H : HC 2 d h) {s m : Nat} (hs : s < 2147483648) (hm : isLn h s m) : zC l g mX0_leastNext 3 [zr g 21, zi (s : Int)] d (zpu (zi (m : Int)) d) := by
  refine zC_of (L := [(0, _), (1, _)]) mk_X0_leastNext (Nat.le_of_ble_eq_true rfl) hg rfl (fun x => ?_)
  refine z_iconst dX0_leastNext_0 ?_
  refine z_istore_n (L' := [(0, _), (1, _), (2, _)]) dX0_leastNext_1 rfl (by decide) rfl rfl ?_
  exact lp_leastNext hg w H hs hm (by omega) ⟨rfl, rfl⟩ (m + 1) 0 (by omega) (by omega)
theorem pcN_or {s m : Nat} (hb : s.testBit m = false) : ∀ k, pcN (s ||| 2 ^ m) k = pcN s k + (if m < k then 1 else 0)
  | 0 => rfl
  | k + 1 => by
    rw [pcN, pcN, pcN_or hb k, or_bit1]
    by_cases e : m = k
    · subst e; rw [hb]; simp
    · rw [decide_eq_false e, Bool.or_false]
      by_cases e2 : m < k
      · rw [if_pos e2, if_pos (show m < k + 1 by omega)]; omega
      · rw [if_neg e2, if_neg (show ¬ m < k + 1 by omega)]; omega
theorem pcN_full {s : Nat} : ∀ k, (∀ i, i < k → s.testBit i = true) → pcN s k = k
  | 0, _ => rfl
  | k + 1, h => by rw [pcN, pcN_full k (fun i hi => h i (by omega)), h k (by omega)]; simp
theorem chN_true {h : Hl} {m s : Nat} : ∀ k, (∀ j, j < k → hpa h j = m → s.testBit j = true) → chN h m s k = true
  | 0, _ => rfl
  | k + 1, hh => by
    rw [chN, chN_true k (fun j hj => hh j (by omega))]
    split
    · rename_i e; rw [hh k (by omega) e]; rfl
    · rfl
theorem ln_ex {h : Hl} (w : Wf h) {s : Nat} (hp : pcN s (hN h) < hN h) : ∃ m, isLn h s m := by
  -- the greatest motion that is not in s may stand
  have h1 : ∀ k, k ≤ hN h → (∀ i, hN h - k ≤ i → i < hN h → s.testBit i = true) ∨ ∃ m, m < hN h ∧ s.testBit m = false ∧ ∀ j, m < j → j < hN h → s.testBit j = true := by
    intro k
    induction k with
    | zero => intro _; exact Or.inl (fun i h1 h2 => absurd h2 (by omega))
    | succ k ih =>
      intro hk
      rcases ih (by omega) with h1 | h1
      · cases hb : s.testBit (hN h - (k + 1)) with
        | true =>
          refine Or.inl (fun i h2 h3 => ?_)
          by_cases e : i = hN h - (k + 1)
          · rw [e]; exact hb
          · exact h1 i (by omega) h3
        | false => exact Or.inr ⟨hN h - (k + 1), by omega, hb, fun j h2 h3 => h1 j (by omega) h3⟩
      · exact Or.inr h1
  have h2 : ∃ m, m < hN h ∧ okB h s m = true := by
    rcases h1 (hN h) (Nat.le_refl _) with h1 | ⟨m, h1, h2, h3⟩
    · have := pcN_full (hN h) (s := s) (fun i hi => h1 i (by omega) hi); omega
    · refine ⟨m, h1, ?_⟩
      rw [okB, h2, chF, chN_true]
      · rfl
      · intro j hj hjm
        have := w.pa hj
        exact h3 j (by omega) hj
  obtain ⟨m, ⟨hm1, hm2⟩, hm3⟩ := pk_least (fun m => m < hN h ∧ okB h s m = true) h2
  exact ⟨m, hm1, hm2, fun j hj => by
    cases hc : okB h s j with
    | false => rfl
    | true => exact absurd ⟨by omega, hc⟩ (hm3 j hj)⟩
/-- the least motion that may stand next -/
noncomputable def lnF (h : Hl) (s : Nat) : Nat := Classical.epsilon (isLn h s)
theorem lnF_is {h : Hl} {s : Nat} (hp : ∃ m, isLn h s m) : isLn h s (lnF h s) := Classical.epsilon_spec hp
noncomputable def plN (h : Hl) : Nat → Nat
  | 0 => 0
  | k + 1 => plN h k ||| 2 ^ lnF h (plN h k)
/-- the least good order -/
noncomputable def leastO (h : Hl) (k : Nat) : Nat := lnF h (plN h k)
theorem pcN_zero : ∀ k, pcN 0 k = 0
  | 0 => rfl
  | k + 1 => by rw [pcN, pcN_zero k]; simp
theorem plN_pc {h : Hl} (w : Wf h) : ∀ k, k ≤ hN h → pcN (plN h k) (hN h) = k ∧ plN h k < 2 ^ hN h
  | 0, _ => ⟨by show pcN 0 (hN h) = 0; exact pcN_zero _, Nat.two_pow_pos _⟩
  | k + 1, hk => by
    obtain ⟨h1, h2⟩ := plN_pc w k (by omega)
    have h3 := lnF_is (ln_ex w (s := plN h k) (by omega))
    have h4 : (plN h k).testBit (lnF h (plN h k)) = false := by have := h3.2.1; rw [okB, Bool.and_eq_true] at this; simpa using this.1
    refine ⟨?_, or_lt64 h2 h3.1⟩
    rw [plN, pcN_or h4, h1, if_pos h3.1]
theorem least_is {h : Hl} (w : Wf h) {k : Nat} (hk : k < hN h) : isLn h (plN h k) (leastO h k) := lnF_is (ln_ex w (by rw [(plN_pc w k (by omega)).1]; exact hk))
theorem plN_bit (h : Hl) (m : Nat) : ∀ k, (plN h k).testBit m = true ↔ ∃ i, i < k ∧ leastO h i = m
  | 0 => by simp [plN]
  | k + 1 => by
    rw [plN, or_bit1, Bool.or_eq_true, plN_bit h m k, decide_eq_true_eq]
    constructor
    · rintro (⟨i, h1, h2⟩ | h1)
      · exact ⟨i, by omega, h2⟩
      · exact ⟨k, by omega, h1⟩
    · rintro ⟨i, h1, h2⟩
      by_cases e : i = k
      · subst e; exact Or.inr h2
      · exact Or.inl ⟨i, by omega, h2⟩
theorem least_lt {h : Hl} (w : Wf h) {i j : Nat} (hij : i < j) (hj : j < hN h) : leastO h i ≠ leastO h j := by
  intro e
  have h1 := (least_is w hj).2.1
  rw [okB, Bool.and_eq_true] at h1
  have h2 : (plN h j).testBit (leastO h j) = true := (plN_bit h _ j).mpr ⟨i, hij, e⟩
  rw [h2] at h1
  cases h1.1
theorem least_Ord {h : Hl} (w : Wf h) : Ord (hN h) (leastO h) := ⟨fun i hi => (least_is w hi).1, fun i j hi hj e => by
  rcases Nat.lt_trichotomy i j with h1 | h1 | h1
  · exact absurd e (least_lt w h1 hj)
  · exact h1
  · exact absurd e.symm (least_lt w h1 hi)⟩
theorem lp_takeLeast {l : Launch} {x : zX} {g : zG} {n : Nat} {Q : Option Value → zD → Prop} {d0 : zD} {h : Hl} (hg : zAmOk g) (w : Wf h) (H : HC 2 d0 h) (hn : 3 < n) (hQ : ∀ d, zF [22] d0 d → OR d h (leastO h) → Q none d) : ∀ r k d, zF [22] d0 d → (∀ i, i < k → d 22 i = leastO h i) → k ≤ hN h → hN h - k < r → zV l x g mX0_takeLeast n Q 4 [(0, zr g 21), (1, zi (plN h k : Nat)), (2, zi (k : Int))] [] d := by
  have w3 := w.2.2.1
  have hp2 := p64 w3
  intro r
  induction r with
  | zero => intro k d hf hd hk hr; omega
  | succ r ih =>
    intro k d hf hd hk hr
    have H' : HC 2 d h := hf.HC (by decide) H
    have h3 : d 2 3 = hN h := H'.1.2.2.2.1
    have hpl := (plN_pc w k hk).2
    refine z_iload_n 2 dX0_takeLeast_4 rfl rfl ?_
    refine z_aload_n 0 dX0_takeLeast_5 rfl rfl ?_
    refine z_getr fl_RX0_18 (by decide) rfl rfl dX0_takeLeast_6 ?_
    refine z_geti fl_RX0_22 (by decide) rfl rfl dX0_takeLeast_9 ?_
    rw [h3]
    refine z_icmp_ge 40 (by omega) (by omega) dX0_takeLeast_12 (by decide) (fun h_12 => ?_) (fun h_12 => ?_)
    · exact z_vret rfl dX0_takeLeast_40 (hQ d hf (fun i hi => hd i (by omega)))
    · have hl := least_is w (show k < hN h by omega)
      have hb := bit_le hl.1 w3
      refine z_aload_n 0 dX0_takeLeast_15 rfl rfl ?_
      refine z_iload_n 1 dX0_takeLeast_16 rfl rfl ?_
      refine z_cv (t_leastNext l hg w H' (s := plN h k) (by omega) hl) mk_X0_leastNext mi_X0_leastNext ml_RX0_28 (by omega) (by decide) rfl rfl rfl rfl (Nat.le_of_ble_eq_true rfl) dX0_takeLeast_17 (zpure ?_)
      refine z_istore_n (L' := [(0, _), (1, _), (2, _), (3, _)]) dX0_takeLeast_20 rfl (by decide) rfl rfl ?_
      refine z_aload_n 0 dX0_takeLeast_21 rfl rfl ?_
      refine z_getr fl_RX0_9 (by decide) rfl rfl dX0_takeLeast_22 ?_
      refine z_iload_n 2 dX0_takeLeast_25 rfl rfl ?_
      refine z_iload_n 3 dX0_takeLeast_26 rfl rfl ?_
      refine z_iast _ (by decide) rfl rfl (by omega) (by decide) dX0_takeLeast_27 ?_
      refine z_iload_n 1 dX0_takeLeast_28 rfl rfl ?_
      refine z_iconst dX0_takeLeast_29 ?_
      refine z_iload_n 3 dX0_takeLeast_30 rfl rfl ?_
      refine z_ishl _ (zshl (s := 1) (m := leastO h k) (by have := hl.1; omega) (by omega)) dX0_takeLeast_31 ?_
      rw [Nat.one_mul]
      refine z_ior _ (zor _ _) dX0_takeLeast_32 ?_
      refine z_istore_n (L' := [(0, _), (1, _), (2, _), (3, _)]) dX0_takeLeast_33 rfl (by decide) rfl rfl ?_
      refine z_iinc 2 (L' := [(0, _), (1, _), (2, _), (3, _)]) dX0_takeLeast_34 (by decide) rfl rfl rfl ?_
      refine z_goto 4 dX0_takeLeast_37 (by decide) ?_
      refine z_sub (L' := [(0, _), (1, _), (2, _)]) [0, 1, 2] rfl ?_
      refine ih (k + 1) _ (hf.up (by decide)) (fun i hi => ?_) (by omega) (by omega)
      rw [zu_row]
      split
      · rename_i e; rw [e]
      · exact hd i (by omega)
theorem t_takeLeast (l : Launch) {g : zG} (hg : zAmOk g) {d : zD} {h : Hl} (w : Wf h) (H : HC 2 d h) : zC l g mX0_takeLeast 4 [zr g 21] d (fun r d' => r = none ∧ (zF [22] d d' ∧ OR d' h (leastO h))) := by
  refine zC_of (L := [(0, _)]) mk_X0_takeLeast (Nat.le_of_ble_eq_true rfl) hg rfl (fun x => ?_)
  refine z_iconst dX0_takeLeast_0 ?_
  refine z_istore_n (L' := [(0, _), (1, _)]) dX0_takeLeast_1 rfl (by decide) rfl rfl ?_
  refine z_iconst dX0_takeLeast_2 ?_
  refine z_istore_n (L' := [(0, _), (1, _), (2, _)]) dX0_takeLeast_3 rfl (by decide) rfl rfl ?_
  exact lp_takeLeast hg w H (by omega) (fun d' h1 h2 => ⟨rfl, h1, h2⟩) (hN h + 1) 0 d zF.rf (fun i hi => absurd hi (by omega)) (by omega) (by omega)
/-- a digit of a row of four bits each -/
def dig (a k : Nat) : Nat := a / 2 ^ (4 * k) % 16
theorem and15 (a : Nat) : a &&& 15 = a % 16 := Nat.and_two_pow_sub_one_eq_mod a 4
def grN (f : Nat → Nat) : Nat → Nat
  | 0 => 0
  | k + 1 => grN f k ||| 2 ^ f k
def goodN (h : Hl) (f : Nat → Nat) : Nat → Bool
  | 0 => true
  | k + 1 => goodN h f k && (decide (f k < hN h) && (!(grN f k).testBit (f k) && chF h (f k) (grN f k)))
/-- f is a good order -/
def goodO (h : Hl) (f : Nat → Nat) : Bool := goodN h f (hN h)
theorem goodN_le {h : Hl} {f : Nat → Nat} : ∀ {k j : Nat}, k ≤ j → goodN h f j = true → goodN h f k = true
  | k, 0, hk, hj => by rw [show k = 0 by omega]; rfl
  | k, j + 1, hk, hj => by
    by_cases e : k = j + 1
    · rw [e]; exact hj
    · rw [goodN, Bool.and_eq_true] at hj
      exact goodN_le (show k ≤ j by omega) hj.1
theorem goodN_at {h : Hl} {f : Nat → Nat} {k : Nat} (hk : k < hN h) (hg : goodO h f = true) : f k < hN h ∧ (grN f k).testBit (f k) = false ∧ chF h (f k) (grN f k) = true := by
  have h1 : goodN h f (k + 1) = true := goodN_le (show k + 1 ≤ hN h by omega) hg
  rw [goodN, Bool.and_eq_true, Bool.and_eq_true, Bool.and_eq_true, decide_eq_true_eq] at h1
  exact ⟨h1.2.1, by simpa using h1.2.2.1, h1.2.2.2⟩
theorem grN_bit (f : Nat → Nat) (m : Nat) : ∀ k, (grN f k).testBit m = true ↔ ∃ i, i < k ∧ f i = m
  | 0 => by simp [grN]
  | k + 1 => by
    rw [grN, or_bit1, Bool.or_eq_true, grN_bit f m k, decide_eq_true_eq]
    constructor
    · rintro (⟨i, h1, h2⟩ | h1)
      · exact ⟨i, by omega, h2⟩
      · exact ⟨k, by omega, h1⟩
    · rintro ⟨i, h1, h2⟩
      by_cases e : i = k
      · subst e; exact Or.inr h2
      · exact Or.inl ⟨i, by omega, h2⟩
theorem grN_lt {f : Nat → Nat} {n : Nat} : ∀ k, (∀ i, i < k → f i < n) → grN f k < 2 ^ n
  | 0, _ => Nat.two_pow_pos _
  | k + 1, h => or_lt64 (grN_lt k (fun i hi => h i (by omega))) (h k (by omega))
theorem good_Ord {h : Hl} {f : Nat → Nat} (hg : goodO h f = true) : Ord (hN h) f := by
  have h1 : ∀ i j, i < j → j < hN h → f i ≠ f j := fun i j hij hj e => by
    have h2 := (goodN_at hj hg).2.1
    rw [(grN_bit f (f j) j).mpr ⟨i, hij, e⟩] at h2
    cases h2
  exact ⟨fun i hi => (goodN_at hi hg).1, fun i j hi hj e => by
    rcases Nat.lt_trichotomy i j with h2 | h2 | h2
    · exact absurd e (h1 i j h2 hj)
    · exact h2
    · exact absurd e.symm (h1 j i h2 hi)⟩
theorem lp_isGood {l : Launch} {x : zX} {g : zG} {n : Nat} {Q : Option Value → zD → Prop} {d : zD} {h : Hl} {a : Nat} (hg : zAmOk g) (w : Wf h) (H : HC 2 d h) (ha : a < 2147483648) (hn : 2 < n) (hQ : Q (some (zi (zb (goodO h (dig a))))) d) : ∀ r k, goodN h (dig a) k = true → k ≤ hN h → hN h - k < r → zV l x g mX0_isGood n Q 20 [(0, zr g 21), (1, zi (a : Int)), (2, zi (grN (dig a) k : Nat)), (3, zi (k : Int))] [] d := by
  have w3 := w.2.2.1
  have hp2 := p64 w3
  have h3 : d 2 3 = hN h := H.1.2.2.2.1
  intro r
  induction r with
  | zero => intro k hgd hk hr; omega
  | succ r ih =>
    intro k hgd hk hr
    have hlt : ∀ i, i < k → dig a i < hN h := fun i hi => by
      have h1 : goodN h (dig a) (i + 1) = true := goodN_le (show i + 1 ≤ k by omega) hgd
      rw [goodN, Bool.and_eq_true, Bool.and_eq_true, decide_eq_true_eq] at h1
      exact h1.2.1
    have hgl := grN_lt k hlt
    have hd16 : dig a k < 16 := Nat.mod_lt _ (by decide)
    have hno : ∀ b : Bool, (decide (dig a k < hN h) && (!(grN (dig a) k).testBit (dig a k) && chF h (dig a k) (grN (dig a) k))) = false → k < hN h → goodO h (dig a) = false := fun b hb hkN => by
      cases hc : goodO h (dig a) with
      | false => rfl
      | true =>
        have h1 : goodN h (dig a) (k + 1) = true := goodN_le (show k + 1 ≤ hN h by omega) hc
        rw [goodN, hgd, hb] at h1
        cases h1
    refine z_iload_n 3 dX0_isGood_20 rfl rfl ?_
    refine z_aload_n 0 dX0_isGood_21 rfl rfl ?_
    refine z_getr fl_RX0_18 (by decide) rfl rfl dX0_isGood_22 ?_
    refine z_geti fl_RX0_22 (by decide) rfl rfl dX0_isGood_25 ?_
    rw [h3]
    refine z_icmp_ge 87 (by omega) (by omega) dX0_isGood_28 (by decide) (fun h_28 => ?_) (fun h_28 => ?_)
    · refine z_iconst dX0_isGood_87 ?_
      exact z_bret (b := true) rfl dX0_isGood_88 ((show goodO h (dig a) = true by rw [goodO, ← show k = hN h by omega]; exact hgd) ▸ hQ)
    · refine z_iload_n 1 dX0_isGood_31 rfl rfl ?_
      refine z_iconst dX0_isGood_32 ?_
      refine z_iload_n 3 dX0_isGood_33 rfl rfl ?_
      refine z_imul dX0_isGood_34 ?_
      refine z_top ((4 * k : Nat) : Int) (by omega) ?_
      refine z_ishr _ (zshr (s := a) (m := 4 * k) ha (by omega)) dX0_isGood_35 ?_
      refine z_bipush dX0_isGood_36 (by decide) ?_
      refine z_iand _ (zand _ 15) dX0_isGood_38 ?_
      rw [and15, show a / 2 ^ (4 * k) % 16 = dig a k from rfl]
      refine z_istore (L' := [(0, _), (1, _), (2, _), (3, _), (4, _)]) dX0_isGood_39 (by decide) rfl rfl ?_
      refine z_aload_n 0 dX0_isGood_41 rfl rfl ?_
      refine z_getr fl_RX0_18 (by decide) rfl rfl dX0_isGood_42 ?_
      refine z_iload 4 dX0_isGood_45 rfl ?_
      refine z_cv (t_hasMotion_2 l hg d (a := (dig a k : Nat)) (by omega) (by omega)) mk_X2_hasMotion mi_X2_hasMotion ml_RX0_50 (by omega) (by decide) rfl rfl rfl rfl (Nat.le_of_ble_eq_true rfl) dX0_isGood_47 (zpure ?_)
      refine z_if_eq_b 72 dX0_isGood_50 (by decide) (fun h_50 => ?_) (fun h_50 => ?_)
      · rw [h3, decide_eq_false_iff_not] at h_50
        refine z_iconst dX0_isGood_72 ?_
        have hnn := hno true (by rw [decide_eq_false (by omega)]; rfl) (by omega)
        exact z_bret (b := false) rfl dX0_isGood_73 (hnn ▸ hQ)
      · rw [h3, decide_eq_true_eq] at h_50
        refine z_iload 4 dX0_isGood_53 rfl ?_
        refine z_iload_n 2 dX0_isGood_55 rfl rfl ?_
        refine z_cs (t_isIn l hg d (m := dig a k) (s := grN (dig a) k) (by omega) (by omega)) mk_X7_isIn ms_X7_isIn ml_RX0_32 (by omega) rfl rfl (Nat.le_of_ble_eq_true rfl) dX0_isGood_56 (zpure ?_)
        refine z_if_ne_b 72 dX0_isGood_59 (by decide) (fun h_59 => ?_) (fun h_59 => ?_)
        · refine z_iconst dX0_isGood_72 ?_
          have hnn := hno true (by rw [h_59]; simp) (by omega)
          exact z_bret (b := false) rfl dX0_isGood_73 (hnn ▸ hQ)
        · refine z_aload_n 0 dX0_isGood_62 rfl rfl ?_
          refine z_iload 4 dX0_isGood_63 rfl ?_
          refine z_iload_n 2 dX0_isGood_65 rfl rfl ?_
          refine z_cv (t_areChildrenIn l hg w H (m := dig a k) (s := grN (dig a) k) (by omega) (by omega)) mk_X0_areChildrenIn mi_X0_areChildrenIn ml_RX0_36 (by omega) (by decide) rfl rfl rfl rfl (Nat.le_of_ble_eq_true rfl) dX0_isGood_66 (zpure ?_)
          refine z_if_ne_b 74 dX0_isGood_69 (by decide) (fun h_69 => ?_) (fun h_69 => ?_)
          · refine z_iload_n 2 dX0_isGood_74 rfl rfl ?_
            refine z_iconst dX0_isGood_75 ?_
            refine z_iload 4 dX0_isGood_76 rfl ?_
            have hb := bit_le (show dig a k < hN h by omega) w3
            refine z_ishl _ (zshl (s := 1) (m := dig a k) (by omega) (by omega)) dX0_isGood_78 ?_
            rw [Nat.one_mul]
            refine z_ior _ (zor _ _) dX0_isGood_79 ?_
            refine z_istore_n (L' := [(0, _), (1, _), (2, _), (3, _), (4, _)]) dX0_isGood_80 rfl (by decide) rfl rfl ?_
            refine z_iinc 3 (L' := [(0, _), (1, _), (2, _), (3, _), (4, _)]) dX0_isGood_81 (by decide) rfl rfl rfl ?_
            refine z_goto 20 dX0_isGood_84 (by decide) ?_
            refine z_sub (L' := [(0, _), (1, _), (2, _), (3, _)]) [0, 1, 2, 3] rfl ?_
            exact ih (k + 1) (by rw [goodN, hgd, h_59, h_69, decide_eq_true (by omega)]; rfl) (by omega) (by omega)
          · refine z_iconst dX0_isGood_72 ?_
            have hnn := hno true (by rw [h_69, Bool.and_false, Bool.and_false]) (by omega)
            exact z_bret (b := false) rfl dX0_isGood_73 (hnn ▸ hQ)
/-- what order() takes: the row's number and whether it is a good one -/
def rowOk (h : Hl) (a : Int) : Bool := decide (0 ≤ a ∧ a < ((2 ^ (4 * hN h) : Nat) : Int)) && goodO h (dig a.toNat)
theorem t_isGood (l : Launch) {g : zG} (hg : zAmOk g) {d : zD} {h : Hl} (w : Wf h) (H : HC 2 d h) {a : Int} (ha : zin a) : zC l g mX0_isGood 3 [zr g 21, zi a] d (zpu (zi (zb (rowOk h a))) d) := by
  have w3 := w.2.2.1
  have h3 : d 2 3 = hN h := H.1.2.2.2.1
  have hpw : 2 ^ (4 * hN h) ≤ 16777216 := Nat.pow_le_pow_right (n := 2) (by decide) (show 4 * hN h ≤ 24 by omega)
  have hpo : 0 < 2 ^ (4 * hN h) := Nat.two_pow_pos _
  have hu : (((a % 4294967296).toNat : Nat) : Int) = a % 4294967296 := by omega
  have hdl : (a % 4294967296).toNat / 2 ^ (4 * hN h) ≤ (a % 4294967296).toNat := Nat.div_le_self _ _
  have hz : (a % 4294967296).toNat / 2 ^ (4 * hN h) = 0 ↔ (0 ≤ a ∧ a < ((2 ^ (4 * hN h) : Nat) : Int)) := by
    rw [Nat.div_eq_zero_iff]
    omega
  refine zC_of (L := [(0, _), (1, _)]) mk_X0_isGood (Nat.le_of_ble_eq_true rfl) hg rfl (fun x => ?_)
  refine z_iload_n 1 dX0_isGood_0 rfl rfl ?_
  refine z_iconst dX0_isGood_1 ?_
  refine z_aload_n 0 dX0_isGood_2 rfl rfl ?_
  refine z_getr fl_RX0_18 (by decide) rfl rfl dX0_isGood_3 ?_
  refine z_geti fl_RX0_22 (by decide) rfl rfl dX0_isGood_6 ?_
  refine z_imul dX0_isGood_9 ?_
  rw [h3]
  refine z_top ((4 * hN h : Nat) : Int) (by omega) ?_
  refine z_topv2 (zi (((a % 4294967296).toNat : Nat) : Int)) (by rw [hu]; exact zi_mod a) ?_
  refine z_iushr _ (zushr (s := (a % 4294967296).toNat) (m := 4 * hN h) (by omega) (by omega)) dX0_isGood_10 ?_
  by_cases hc : (0 ≤ a ∧ a < ((2 ^ (4 * hN h) : Nat) : Int))
  · rw [hz.mpr hc]
    refine z_if_eq 16 (by decide) dX0_isGood_11 (by decide) (fun _ => ?_) (fun hh => absurd rfl hh)
    refine z_iconst dX0_isGood_16 ?_
    refine z_istore_n (L' := [(0, _), (1, _), (2, _)]) dX0_isGood_17 rfl (by decide) rfl rfl ?_
    refine z_iconst dX0_isGood_18 ?_
    refine z_istore_n (L' := [(0, _), (1, _), (2, _), (3, _)]) dX0_isGood_19 rfl (by decide) rfl rfl ?_
    have ea : a = ((a.toNat : Nat) : Int) := by omega
    have hh := lp_isGood (l := l) (x := x) (n := 3) (Q := zpu (zi (zb (rowOk h a))) d) (a := a.toNat) hg w H (by omega) (by omega) ⟨by rw [rowOk, decide_eq_true hc, Bool.true_and], rfl⟩ (hN h + 1) 0 rfl (by omega) (by omega)
    rw [← ea] at hh
    exact hh
  · refine z_if_eq_f 16 (zne0 (fun z => hc (hz.mp z)) (by omega)) dX0_isGood_11 (by decide) ?_
    refine z_iconst dX0_isGood_14 ?_
    exact z_bret (b := false) rfl dX0_isGood_15 (zret_b (by rw [rowOk, decide_eq_false hc]; rfl))
def rowN (ord : Nat → Nat) : Nat → Nat
  | 0 => 0
  | k + 1 => rowN ord k ||| ord k * 2 ^ (4 * k)
theorem rowN_lt {ord : Nat → Nat} : ∀ k, (∀ i, i < k → ord i < 16) → rowN ord k < 2 ^ (4 * k)
  | 0, _ => Nat.zero_lt_one
  | k + 1, h => by
    have ih := rowN_lt k (fun i hi => h i (by omega))
    have e : 2 ^ (4 * (k + 1)) = 16 * 2 ^ (4 * k) := by rw [show 4 * (k + 1) = 4 * k + 4 by omega, Nat.pow_add]; omega
    have h1 : ord k * 2 ^ (4 * k) < 2 ^ (4 * (k + 1)) := by rw [e]; exact Nat.mul_lt_mul_of_pos_right (h k (by omega)) (Nat.two_pow_pos _)
    exact or_lt (Nat.lt_of_lt_of_le ih (Nat.pow_le_pow_right (by decide) (by omega))) h1
theorem lp_rowOfSequence {l : Launch} {x : zX} {g : zG} {n : Nat} {Q : Option Value → zD → Prop} {d : zD} {h : Hl} {ord : Nat → Nat} (hg : zAmOk g) (w : Wf h) (H : HC 2 d h) (O : OR d h ord) (ho : Ord (hN h) ord) (hQ : Q (some (zi (rowN ord (hN h) : Nat))) d) : ∀ r k, k ≤ hN h → hN h - k < r → zV l x g mX0_rowOfSequence n Q 4 [(0, zr g 21), (1, zi (rowN ord k : Nat)), (2, zi (k : Int))] [] d := by
  have w3 := w.2.2.1
  have h3 : d 2 3 = hN h := H.1.2.2.2.1
  intro r
  induction r with
  | zero => intro k hk hr; omega
  | succ r ih =>
    intro k hk hr
    refine z_iload_n 2 dX0_rowOfSequence_4 rfl rfl ?_
    refine z_aload_n 0 dX0_rowOfSequence_5 rfl rfl ?_
    refine z_getr fl_RX0_18 (by decide) rfl rfl dX0_rowOfSequence_6 ?_
    refine z_geti fl_RX0_22 (by decide) rfl rfl dX0_rowOfSequence_9 ?_
    rw [h3]
    refine z_icmp_ge 34 (by omega) (by omega) dX0_rowOfSequence_12 (by decide) (fun h_12 => ?_) (fun h_12 => ?_)
    · rw [show k = hN h by omega]
      refine z_iload_n 1 dX0_rowOfSequence_34 rfl rfl ?_
      exact z_iret rfl dX0_rowOfSequence_35 (hQ)
    · have e := O k (by omega)
      have ok := ho.1 k (by omega)
      have hpw : 2 ^ (4 * k) ≤ 1048576 := Nat.pow_le_pow_right (n := 2) (by decide) (show 4 * k ≤ 20 by omega)
      have hml : ord k * 2 ^ (4 * k) ≤ 5 * 1048576 := Nat.mul_le_mul (by omega) hpw
      refine z_iload_n 1 dX0_rowOfSequence_15 rfl rfl ?_
      refine z_aload_n 0 dX0_rowOfSequence_16 rfl rfl ?_
      refine z_getr fl_RX0_9 (by decide) rfl rfl dX0_rowOfSequence_17 ?_
      refine z_iload_n 2 dX0_rowOfSequence_20 rfl rfl ?_
      refine z_iald _ (by decide) rfl rfl (by omega) (by decide) dX0_rowOfSequence_21 ?_
      refine z_iconst dX0_rowOfSequence_22 ?_
      refine z_iload_n 2 dX0_rowOfSequence_23 rfl rfl ?_
      refine z_imul dX0_rowOfSequence_24 ?_
      rw [e]
      refine z_top ((4 * k : Nat) : Int) (by omega) ?_
      refine z_ishl _ (zshl (s := ord k) (m := 4 * k) (by omega) (by omega)) dX0_rowOfSequence_25 ?_
      refine z_ior _ (zor _ _) dX0_rowOfSequence_26 ?_
      refine z_istore_n (L' := [(0, _), (1, _), (2, _)]) dX0_rowOfSequence_27 rfl (by decide) rfl rfl ?_
      refine z_iinc 2 (L' := [(0, _), (1, _), (2, _)]) dX0_rowOfSequence_28 (by decide) rfl rfl rfl ?_
      refine z_goto 4 dX0_rowOfSequence_31 (by decide) ?_
      exact ih (k + 1) (by omega) (by omega)
theorem t_rowOfSequence (l : Launch) {g : zG} (hg : zAmOk g) {d : zD} {h : Hl} (w : Wf h) (H : HC 2 d h) {ord : Nat → Nat} (O : OR d h ord) (ho : Ord (hN h) ord) : zC l g mX0_rowOfSequence 1 [zr g 21] d (zpu (zi (rowN ord (hN h) : Nat)) d) := by
  refine zC_of (L := [(0, _)]) mk_X0_rowOfSequence (Nat.le_of_ble_eq_true rfl) hg rfl (fun x => ?_)
  refine z_iconst dX0_rowOfSequence_0 ?_
  refine z_istore_n (L' := [(0, _), (1, _)]) dX0_rowOfSequence_1 rfl (by decide) rfl rfl ?_
  refine z_iconst dX0_rowOfSequence_2 ?_
  refine z_istore_n (L' := [(0, _), (1, _), (2, _)]) dX0_rowOfSequence_3 rfl (by decide) rfl rfl ?_
  exact lp_rowOfSequence hg w H O ho ⟨rfl, rfl⟩ (hN h + 1) 0 (by omega) (by omega)
theorem lp_takeRow {l : Launch} {x : zX} {g : zG} {n : Nat} {Q : Option Value → zD → Prop} {d0 : zD} {h : Hl} {a : Nat} (hg : zAmOk g) (w : Wf h) (H : HC 2 d0 h) (ha : a < 2147483648) (hQ : ∀ d, zF [22] d0 d → OR d h (dig a) → Q (some (zi (zb true))) d) : ∀ r k d, zF [22] d0 d → (∀ i, i < k → d 22 i = dig a i) → k ≤ hN h → hN h - k < r → zV l x g mX0_takeRow n Q 20 [(0, zr g 21), (1, zi (a : Int)), (2, zi (k : Int))] [] d := by
  have w3 := w.2.2.1
  intro r
  induction r with
  | zero => intro k d hf hd hk hr; omega
  | succ r ih =>
    intro k d hf hd hk hr
    have H' : HC 2 d h := hf.HC (by decide) H
    have h3 : d 2 3 = hN h := H'.1.2.2.2.1
    refine z_iload_n 2 dX0_takeRow_20 rfl rfl ?_
    refine z_aload_n 0 dX0_takeRow_21 rfl rfl ?_
    refine z_getr fl_RX0_18 (by decide) rfl rfl dX0_takeRow_22 ?_
    refine z_geti fl_RX0_22 (by decide) rfl rfl dX0_takeRow_25 ?_
    rw [h3]
    refine z_icmp_ge 51 (by omega) (by omega) dX0_takeRow_28 (by decide) (fun h_28 => ?_) (fun h_28 => ?_)
    · refine z_iconst dX0_takeRow_51 ?_
      exact z_bret (b := true) rfl dX0_takeRow_52 (hQ d hf (fun i hi => hd i (by omega)))
    · refine z_aload_n 0 dX0_takeRow_31 rfl rfl ?_
      refine z_getr fl_RX0_9 (by decide) rfl rfl dX0_takeRow_32 ?_
      refine z_iload_n 2 dX0_takeRow_35 rfl rfl ?_
      refine z_iload_n 1 dX0_takeRow_36 rfl rfl ?_
      refine z_iconst dX0_takeRow_37 ?_
      refine z_iload_n 2 dX0_takeRow_38 rfl rfl ?_
      refine z_imul dX0_takeRow_39 ?_
      refine z_top ((4 * k : Nat) : Int) (by omega) ?_
      refine z_ishr _ (zshr (s := a) (m := 4 * k) ha (by omega)) dX0_takeRow_40 ?_
      refine z_bipush dX0_takeRow_41 (by decide) ?_
      refine z_iand _ (zand _ 15) dX0_takeRow_43 ?_
      rw [and15, show a / 2 ^ (4 * k) % 16 = dig a k from rfl]
      refine z_iast _ (by decide) rfl rfl (by omega) (by decide) dX0_takeRow_44 ?_
      refine z_iinc 2 (L' := [(0, _), (1, _), (2, _)]) dX0_takeRow_45 (by decide) rfl rfl rfl ?_
      refine z_goto 20 dX0_takeRow_48 (by decide) ?_
      refine ih (k + 1) _ (hf.up (by decide)) (fun i hi => ?_) (by omega) (by omega)
      rw [zu_row]
      split
      · rename_i e; rw [e]
      · exact hd i (by omega)
/-- is a row taken -/
def takesB (h : Hl) (ord : Nat → Nat) (a : Int) : Bool := !decide (a = ((rowN ord (hN h) : Nat) : Int)) && rowOk h a
theorem t_takeRow (l : Launch) {g : zG} (hg : zAmOk g) {d : zD} {h : Hl} (w : Wf h) (H : HC 2 d h) {ord : Nat → Nat} (O : OR d h ord) (ho : Ord (hN h) ord) {a : Int} (ha : zin a) : zC l g mX0_takeRow 4 [zr g 21, zi a] d (fun r d' => r = some (zi (zb (takesB h ord a))) ∧ zF [22] d d' ∧ OR d' h (if takesB h ord a = true then dig a.toNat else ord)) := by
  have w3 := w.2.2.1
  have hpw : 2 ^ (4 * hN h) ≤ 16777216 := Nat.pow_le_pow_right (n := 2) (by decide) (show 4 * hN h ≤ 24 by omega)
  have hrl := rowN_lt (hN h) (ord := ord) (fun i hi => by have := ho.1 i hi; omega)
  refine zC_of (L := [(0, _), (1, _)]) mk_X0_takeRow (Nat.le_of_ble_eq_true rfl) hg rfl (fun x => ?_)
  refine z_iload_n 1 dX0_takeRow_0 rfl rfl ?_
  refine z_aload_n 0 dX0_takeRow_1 rfl rfl ?_
  refine z_cv (t_rowOfSequence l hg w H O ho) mk_X0_rowOfSequence mi_X0_rowOfSequence ml_RX0_42 (by omega) (by decide) rfl rfl rfl rfl (Nat.le_of_ble_eq_true rfl) dX0_takeRow_2 (zpure ?_)
  refine z_icmp_eq 16 (by omega) (by omega) dX0_takeRow_5 (by decide) (fun h_5 => ?_) (fun h_5 => ?_)
  · refine z_iconst dX0_takeRow_16 ?_
    have ht : takesB h ord a = false := by rw [takesB, decide_eq_true h_5]; rfl
    exact z_bret (b := false) rfl dX0_takeRow_17 (⟨by rw [ht], zF.rf, by rw [ht]; exact O⟩)
  · refine z_aload_n 0 dX0_takeRow_8 rfl rfl ?_
    refine z_iload_n 1 dX0_takeRow_9 rfl rfl ?_
    refine z_cv (t_isGood l hg w H ha) mk_X0_isGood mi_X0_isGood ml_RX0_46 (by omega) (by decide) rfl rfl rfl rfl (Nat.le_of_ble_eq_true rfl) dX0_takeRow_10 (zpure ?_)
    refine z_if_ne_b 18 dX0_takeRow_13 (by decide) (fun h_13 => ?_) (fun h_13 => ?_)
    · refine z_iconst dX0_takeRow_18 ?_
      refine z_istore_n (L' := [(0, _), (1, _), (2, _)]) dX0_takeRow_19 rfl (by decide) rfl rfl ?_
      have ht : takesB h ord a = true := by rw [takesB, h_13, decide_eq_false h_5]; rfl
      have h13 := h_13
      rw [rowOk, Bool.and_eq_true, decide_eq_true_eq] at h13
      have ea : a = ((a.toNat : Nat) : Int) := by omega
      have hh := lp_takeRow (l := l) (x := x) (n := 4) (Q := fun r d' => r = some (zi (zb (takesB h ord a))) ∧ zF [22] d d' ∧ OR d' h (if takesB h ord a = true then dig a.toNat else ord)) (a := a.toNat) hg w H (by omega) (fun d' h1 h2 => ⟨by rw [ht], h1, by rw [if_pos ht]; exact h2⟩) (hN h + 1) 0 d zF.rf (fun i hi => absurd hi (by omega)) (by omega) (by omega)
      rw [← ea] at hh
      exact hh
    · refine z_iconst dX0_takeRow_16 ?_
      have ht : takesB h ord a = false := by rw [takesB, h_13, Bool.and_false]
      exact z_bret (b := false) rfl dX0_takeRow_17 (⟨by rw [ht], zF.rf, by rw [ht]; exact O⟩)
theorem lp_placeOf {l : Launch} {x : zX} {g : zG} {n : Nat} {Q : Option Value → zD → Prop} {d : zD} {h : Hl} {ord : Nat → Nat} {p : Nat} (hg : zAmOk g) (w : Wf h) (H : HC 2 d h) (O : OR d h ord) (ho : Ord (hN h) ord) (hp : p < hN h) (hQ : Q (some (zi (p : Int))) d) : ∀ r k, k ≤ p → p - k < r → zV l x g mX0_placeOf n Q 2 [(0, zr g 21), (1, zi (ord p : Int)), (2, zi (k : Int))] [] d := by
  have w3 := w.2.2.1
  have h3 : d 2 3 = hN h := H.1.2.2.2.1
  have op := ho.1 p hp
  intro r
  induction r with
  | zero => intro k hk hr; omega
  | succ r ih =>
    intro k hk hr
    have e := O k (by omega)
    have ok := ho.1 k (by omega)
    refine z_iload_n 2 dX0_placeOf_2 rfl rfl ?_
    refine z_aload_n 0 dX0_placeOf_3 rfl rfl ?_
    refine z_getr fl_RX0_18 (by decide) rfl rfl dX0_placeOf_4 ?_
    refine z_geti fl_RX0_22 (by decide) rfl rfl dX0_placeOf_7 ?_
    rw [h3]
    refine z_icmp_ge 31 (by omega) (by omega) dX0_placeOf_10 (by decide) (fun h_10 => absurd h_10 (by omega)) (fun h_10 => ?_)
    refine z_aload_n 0 dX0_placeOf_13 rfl rfl ?_
    refine z_getr fl_RX0_9 (by decide) rfl rfl dX0_placeOf_14 ?_
    refine z_iload_n 2 dX0_placeOf_17 rfl rfl ?_
    refine z_iald _ (by decide) rfl rfl (by omega) (by decide) dX0_placeOf_18 ?_
    refine z_iload_n 1 dX0_placeOf_19 rfl rfl ?_
    rw [e]
    refine z_icmp_ne 25 (by omega) (by omega) dX0_placeOf_20 (by decide) (fun h_20 => ?_) (fun h_20 => ?_)
    · refine z_iinc 2 (L' := [(0, _), (1, _), (2, _)]) dX0_placeOf_25 (by decide) rfl rfl rfl ?_
      refine z_goto 2 dX0_placeOf_28 (by decide) ?_
      have hk2 : k ≠ p := fun z => h_20 (by rw [z])
      exact ih (k + 1) (by omega) (by omega)
    · refine z_iload_n 2 dX0_placeOf_23 rfl rfl ?_
      rw [show k = p from ho.2 k p (by omega) hp (by omega)]
      exact z_iret rfl dX0_placeOf_24 (hQ)
theorem t_placeOf (l : Launch) {g : zG} (hg : zAmOk g) {d : zD} {h : Hl} (w : Wf h) (H : HC 2 d h) {ord : Nat → Nat} (O : OR d h ord) (ho : Ord (hN h) ord) {p : Nat} (hp : p < hN h) : zC l g mX0_placeOf 1 [zr g 21, zi (ord p : Int)] d (zpu (zi (p : Int)) d) := by
  refine zC_of (L := [(0, _), (1, _)]) mk_X0_placeOf (Nat.le_of_ble_eq_true rfl) hg rfl (fun x => ?_)
  refine z_iconst dX0_placeOf_0 ?_
  refine z_istore_n (L' := [(0, _), (1, _), (2, _)]) dX0_placeOf_1 rfl (by decide) rfl rfl ?_
  exact lp_placeOf hg w H O ho hp ⟨rfl, rfl⟩ (p + 1) 0 (by omega) (by omega)
/-- m may be the last of the set s -/
def clB (h : Hl) (m s : Nat) : Bool := s.testBit m && (decide (hpa h m = -1) || !s.testBit (hpa h m).toNat)
theorem t_canBeLast (l : Launch) {g : zG} (hg : zAmOk g) {d : zD} {h : Hl} (w : Wf h) (H : HC 2 d h) {m s : Nat} (hm : m < hN h) (hs : s < 2147483648) : zC l g mX0_canBeLast 2 [zr g 21, zi (m : Int), zi (s : Int)] d (zpu (zi (zb (clB h m s))) d) := by
  have w3 := w.2.2.1
  obtain ⟨e1, e2, e3, e4⟩ := H.m hm
  have hpw := w.pa hm
  refine zC_of (L := [(0, _), (1, _), (2, _)]) mk_X0_canBeLast (Nat.le_of_ble_eq_true rfl) hg rfl (fun x => ?_)
  refine z_aload_n 0 dX0_canBeLast_0 rfl rfl ?_
  refine z_getr fl_RX0_18 (by decide) rfl rfl dX0_canBeLast_1 ?_
  refine z_getr fl_RX0_39 (by decide) rfl rfl dX0_canBeLast_4 ?_
  refine z_iload_n 1 dX0_canBeLast_7 rfl rfl ?_
  refine z_iald _ (by decide) rfl rfl (by omega) (by decide) dX0_canBeLast_8 ?_
  rw [e2]
  refine z_istore_n (L' := [(0, _), (1, _), (2, _), (3, _)]) dX0_canBeLast_9 rfl (by decide) rfl rfl ?_
  refine z_iload_n 1 dX0_canBeLast_10 rfl rfl ?_
  refine z_iload_n 2 dX0_canBeLast_11 rfl rfl ?_
  refine z_cs (t_isIn l hg d (m := m) (s := s) (by omega) hs) mk_X7_isIn ms_X7_isIn ml_RX0_32 (by omega) rfl rfl (Nat.le_of_ble_eq_true rfl) dX0_canBeLast_12 (zpure ?_)
  refine z_if_eq_b 35 dX0_canBeLast_15 (by decide) (fun h_15 => ?_) (fun h_15 => ?_)
  · refine z_iconst dX0_canBeLast_35 ?_
    exact z_bret (b := false) rfl dX0_canBeLast_36 (zret_b (by rw [clB, h_15]; rfl))
  · refine z_iload_n 3 dX0_canBeLast_18 rfl rfl ?_
    refine z_iconst dX0_canBeLast_19 ?_
    refine z_icmp_eq 31 (by omega) (by omega) dX0_canBeLast_20 (by decide) (fun h_20 => ?_) (fun h_20 => ?_)
    · refine z_iconst dX0_canBeLast_31 ?_
      refine z_goto 36 dX0_canBeLast_32 (by decide) ?_
      exact z_bret (b := true) rfl dX0_canBeLast_36 (zret_b (by rw [clB, h_15, decide_eq_true h_20]; rfl))
    · refine z_iload_n 3 dX0_canBeLast_23 rfl rfl ?_
      refine z_iload_n 2 dX0_canBeLast_24 rfl rfl ?_
      refine z_top2 (((hpa h m).toNat : Nat) : Int) (by omega) ?_
      refine z_cs (t_isIn l hg d (m := (hpa h m).toNat) (s := s) (by omega) hs) mk_X7_isIn ms_X7_isIn ml_RX0_32 (by omega) rfl rfl (Nat.le_of_ble_eq_true rfl) dX0_canBeLast_25 (zpure ?_)
      refine z_if_ne_b 35 dX0_canBeLast_28 (by decide) (fun h_28 => ?_) (fun h_28 => ?_)
      · refine z_iconst dX0_canBeLast_35 ?_
        exact z_bret (b := false) rfl dX0_canBeLast_36 (zret_b (by rw [clB, h_15, h_28, decide_eq_false h_20]; rfl))
      · refine z_iconst dX0_canBeLast_31 ?_
        refine z_goto 36 dX0_canBeLast_32 (by decide) ?_
        exact z_bret (b := true) rfl dX0_canBeLast_36 (zret_b (by rw [clB, h_15, h_28]; simp))
/-- the good orders of the motions of s, n of them, the last motion first told -/
def dfs (h : Hl) : Nat → Nat → List (List Nat)
  | 0, _ => [[]]
  | n + 1, s => (List.range (hN h)).flatMap (fun m => if clB h m s = true then (dfs h n (nd s (2 ^ m))).map (fun r => r ++ [m]) else [])
def sumN (f : Nat → Nat) : Nat → Nat
  | 0 => 0
  | k + 1 => sumN f k + f k
theorem len_flat {α : Type} (f : Nat → List α) : ∀ k, ((List.range k).flatMap f).length = sumN (fun m => (f m).length) k
  | 0 => rfl
  | k + 1 => by rw [List.range_succ, List.flatMap_append, List.length_append, len_flat f k, sumN]; simp
theorem sumN_congr {f g : Nat → Nat} : ∀ k, (∀ i, i < k → f i = g i) → sumN f k = sumN g k
  | 0, _ => rfl
  | k + 1, h => by rw [sumN, sumN, sumN_congr k (fun i hi => h i (by omega)), h k (by omega)]
theorem dfs_len (h : Hl) (n s : Nat) : (dfs h (n + 1) s).length = sumN (fun m => if clB h m s = true then (dfs h n (nd s (2 ^ m))).length else 0) (hN h) := by
  rw [dfs, len_flat]
  refine sumN_congr _ (fun m hm => ?_)
  split
  · rw [List.length_map]
  · rfl
def wayC (h : Hl) (s : Nat) : Nat := (dfs h (pcN s (hN h)) s).length
theorem nd_pow_bit (s m i : Nat) : (nd s (2 ^ m)).testBit i = (s.testBit i && !decide (m = i)) := by rw [nd_bit, Nat.testBit_two_pow]
theorem nd_or {s m : Nat} (hb : s.testBit m = true) : nd s (2 ^ m) ||| 2 ^ m = s := by
  apply Nat.eq_of_testBit_eq
  intro i
  rw [or_bit1, nd_pow_bit]
  by_cases e : m = i
  · subst e; rw [hb]; simp
  · simp [e]
theorem nd_pc {s m n : Nat} (hb : s.testBit m = true) (hm : m < n) : pcN s n = pcN (nd s (2 ^ m)) n + 1 := by
  have h1 : (nd s (2 ^ m)).testBit m = false := by rw [nd_pow_bit]; simp
  have h2 := pcN_or h1 n
  rw [nd_or hb, if_pos hm] at h2
  exact h2
theorem nd_less {s m : Nat} (hb : s.testBit m = true) : nd s (2 ^ m) < s := by
  have h1 : (nd s (2 ^ m)).testBit m = false := by rw [nd_pow_bit]; simp
  have h2 : SB (nd s (2 ^ m)) s := fun i hi => by rw [nd_pow_bit, Bool.and_eq_true] at hi; exact hi.1
  rcases Nat.lt_or_ge (nd s (2 ^ m)) s with h3 | h3
  · exact h3
  · have := SB_le h2
    rw [show nd s (2 ^ m) = s by omega, hb] at h1
    cases h1
theorem wayC_step {h : Hl} {s : Nat} (hs : s ≠ 0) (hl : s < 2 ^ hN h) : wayC h s = sumN (fun m => if clB h m s = true then wayC h (nd s (2 ^ m)) else 0) (hN h) := by
  obtain ⟨m, hm⟩ : ∃ m, s.testBit m = true := Nat.exists_testBit_of_ne_zero hs
  have hmN : m < hN h := by
    rcases Nat.lt_or_ge m (hN h) with h1 | h1
    · exact h1
    · rw [bit_lt hl h1] at hm; cases hm
  have hp := nd_pc hm hmN
  unfold wayC
  rw [hp, dfs_len]
  refine sumN_congr _ (fun j hj => ?_)
  split
  · rename_i hc
    rw [clB, Bool.and_eq_true] at hc
    have := nd_pc hc.1 hj
    rw [show pcN (nd s (2 ^ m)) (hN h) = pcN (nd s (2 ^ j)) (hN h) by omega]
  · rfl
theorem lp2_countGood {l : Launch} {x : zX} {g : zG} {n : Nat} {Q : Option Value → zD → Prop} {d0 : zD} {h : Hl} {s : Nat} {a1 : Int} (hg : zAmOk g) (w : Wf h) (H : HC 2 d0 h) (hs : s ≠ 0) (hl : s < 2 ^ hN h) (hd0 : ∀ u, u < s → d0 23 u = wayC h u) (hn : 2 < n) (hQ : ∀ d, zF [23] d0 d → (∀ u, u < s + 1 → d 23 u = wayC h u) → zV l x g mX0_countGood n Q 80 [(0, zr g 21), (1, zi a1), (2, zi (s : Int))] [] d) : ∀ r k d, zF [23] d0 d → (∀ u, u < s → d 23 u = wayC h u) → d 23 s = sumN (fun m => if clB h m s = true then wayC h (nd s (2 ^ m)) else 0) k → k ≤ hN h → hN h - k < r → zV l x g mX0_countGood n Q 33 [(0, zr g 21), (1, zi a1), (2, zi (s : Int)), (3, zi (k : Int))] [] d := by
  have w3 := w.2.2.1
  have hp2 := p64 w3
  intro r
  induction r with
  | zero => intro k d hf hd hd2 hk hr; omega
  | succ r ih =>
    intro k d hf hd hd2 hk hr
    have H' : HC 2 d h := hf.HC (by decide) H
    have h3 : d 2 3 = hN h := H'.1.2.2.2.1
    refine z_iload_n 3 dX0_countGood_33 rfl rfl ?_
    refine z_aload_n 0 dX0_countGood_34 rfl rfl ?_
    refine z_getr fl_RX0_18 (by decide) rfl rfl dX0_countGood_35 ?_
    refine z_geti fl_RX0_22 (by decide) rfl rfl dX0_countGood_38 ?_
    rw [h3]
    refine z_icmp_ge 80 (by omega) (by omega) dX0_countGood_41 (by decide) (fun h_41 => ?_) (fun h_41 => ?_)
    · refine z_sub (L' := [(0, _), (1, _), (2, _)]) [0, 1, 2] rfl ?_
      refine hQ d hf (fun u hu => ?_)
      by_cases e : u = s
      · subst e; rw [hd2, wayC_step hs hl, show k = hN h by omega]
      · exact hd u (by omega)
    · have hb := bit_le (show k < hN h by omega) w3
      refine z_aload_n 0 dX0_countGood_44 rfl rfl ?_
      refine z_iload_n 3 dX0_countGood_45 rfl rfl ?_
      refine z_iload_n 2 dX0_countGood_46 rfl rfl ?_
      refine z_cv (t_canBeLast l hg w H' (m := k) (s := s) (by omega) (by omega)) mk_X0_canBeLast mi_X0_canBeLast ml_RX0_53 (by omega) (by decide) rfl rfl rfl rfl (Nat.le_of_ble_eq_true rfl) dX0_countGood_47 (zpure ?_)
      refine z_if_eq_b 74 dX0_countGood_50 (by decide) (fun h_50 => ?_) (fun h_50 => ?_)
      · refine z_iinc 3 (L' := [(0, _), (1, _), (2, _), (3, _)]) dX0_countGood_74 (by decide) rfl rfl rfl ?_
        refine z_goto 33 dX0_countGood_77 (by decide) ?_
        refine ih (k + 1) _ hf hd ?_ (by omega) (by omega)
        rw [hd2, sumN, if_neg (by rw [h_50]; decide)]; rfl
      · have hbit : s.testBit k = true := by rw [clB, Bool.and_eq_true] at h_50; exact h_50.1
        have hnl := nd_less hbit
        refine z_aload_n 0 dX0_countGood_53 rfl rfl ?_
        refine z_getr fl_RX0_15 (by decide) rfl rfl dX0_countGood_54 ?_
        refine z_iload_n 2 dX0_countGood_57 rfl rfl ?_
        refine z_dup2 dX0_countGood_58 rfl rfl ?_
        refine z_iald _ (by decide) rfl rfl (by omega) (by decide) dX0_countGood_59 ?_
        refine z_aload_n 0 dX0_countGood_60 rfl rfl ?_
        refine z_getr fl_RX0_15 (by decide) rfl rfl dX0_countGood_61 ?_
        refine z_iload_n 2 dX0_countGood_64 rfl rfl ?_
        refine z_iconst dX0_countGood_65 ?_
        refine z_iload_n 3 dX0_countGood_66 rfl rfl ?_
        refine z_ishl _ (zshl (s := 1) (m := k) (by omega) (by omega)) dX0_countGood_67 ?_
        rw [Nat.one_mul]
        refine z_iconst dX0_countGood_68 ?_
        refine z_ixor _ (zxorm _) dX0_countGood_69 ?_
        refine z_iand _ zandm dX0_countGood_70 ?_
        refine z_iald (nd s (2 ^ k)) (by decide) rfl rfl (by omega) (by decide) dX0_countGood_71 ?_
        rw [hd _ hnl, hd2]
        refine z_iadd dX0_countGood_72 ?_
        refine z_iast _ (by decide) rfl rfl (by omega) (by decide) dX0_countGood_73 ?_
        refine z_iinc 3 (L' := [(0, _), (1, _), (2, _), (3, _)]) dX0_countGood_74 (by decide) rfl rfl rfl ?_
        refine z_goto 33 dX0_countGood_77 (by decide) ?_
        refine ih (k + 1) _ (hf.up (by decide)) (fun u hu => by rw [zu_row, if_neg (by omega)]; exact hd u hu) ?_ (by omega) (by omega)
        rw [zu_at, sumN, if_pos h_50]; rfl
theorem lp_countGood {l : Launch} {x : zX} {g : zG} {n : Nat} {Q : Option Value → zD → Prop} {d0 : zD} {h : Hl} (hg : zAmOk g) (w : Wf h) (H : HC 2 d0 h) (hn : 2 < n) (hQ : ∀ d, zF [23] d0 d → Q (some (zi (wayC h (2 ^ hN h - 1) : Nat))) d) : ∀ r s d, zF [23] d0 d → (∀ u, u < s → d 23 u = wayC h u) → 1 ≤ s → s ≤ 2 ^ hN h → 2 ^ hN h - s < r → zV l x g mX0_countGood n Q 19 [(0, zr g 21), (1, zi ((2 ^ hN h : Nat) : Int)), (2, zi (s : Int))] [] d := by
  have w3 := w.2.2.1
  have hp2 := p64 w3
  have hp0 : 0 < 2 ^ hN h := Nat.two_pow_pos _
  intro r
  induction r with
  | zero => intro s d hf hd hs hk hr; omega
  | succ r ih =>
    intro s d hf hd hs hk hr
    have H' : HC 2 d h := hf.HC (by decide) H
    refine z_iload_n 2 dX0_countGood_19 rfl rfl ?_
    refine z_iload_n 1 dX0_countGood_20 rfl rfl ?_
    refine z_icmp_ge 86 (by omega) (by omega) dX0_countGood_21 (by decide) (fun h_21 => ?_) (fun h_21 => ?_)
    · refine z_aload_n 0 dX0_countGood_86 rfl rfl ?_
      refine z_getr fl_RX0_15 (by decide) rfl rfl dX0_countGood_87 ?_
      refine z_iload_n 1 dX0_countGood_90 rfl rfl ?_
      refine z_iconst dX0_countGood_91 ?_
      refine z_isub dX0_countGood_92 ?_
      refine z_iald (2 ^ hN h - 1) (by decide) rfl (by omega) (by omega) (by decide) dX0_countGood_93 ?_
      rw [hd _ (by omega)]
      exact z_iret rfl dX0_countGood_94 (hQ d hf)
    · refine z_aload_n 0 dX0_countGood_24 rfl rfl ?_
      refine z_getr fl_RX0_15 (by decide) rfl rfl dX0_countGood_25 ?_
      refine z_iload_n 2 dX0_countGood_28 rfl rfl ?_
      refine z_iconst dX0_countGood_29 ?_
      refine z_iast _ (by decide) rfl rfl (by omega) (by decide) dX0_countGood_30 ?_
      refine z_iconst dX0_countGood_31 ?_
      refine z_istore_n (L' := [(0, _), (1, _), (2, _), (3, _)]) dX0_countGood_32 rfl (by decide) rfl rfl ?_
      refine lp2_countGood (d0 := zu d 23 s 0) hg w (H'.of (fun p h1 h2 => zu_ne (by omega))) (by omega) (by omega) (fun u hu => by rw [zu_row, if_neg (by omega)]; exact hd u hu) hn (fun d' hf' hd' => ?_) (hN h + 1) 0 _ zF.rf (fun u hu => by rw [zu_row, if_neg (by omega)]; exact hd u hu) (by rw [zu_at]; rfl) (by omega) (by omega)
      refine z_iinc 2 (L' := [(0, _), (1, _), (2, _)]) dX0_countGood_80 (by decide) rfl rfl rfl ?_
      refine z_goto 19 dX0_countGood_83 (by decide) ?_
      exact ih (s + 1) d' ((hf.up (by decide)).tr hf') hd' (by omega) (by omega) (by omega)
theorem t_countGood (l : Launch) {g : zG} (hg : zAmOk g) {d : zD} {h : Hl} (w : Wf h) (H : HC 2 d h) : zC l g mX0_countGood 3 [zr g 21] d (fun r d' => r = some (zi (wayC h (2 ^ hN h - 1) : Nat)) ∧ zF [23] d d') := by
  have w3 := w.2.2.1
  have hp2 := p64 w3
  have hp0 : 0 < 2 ^ hN h := Nat.two_pow_pos _
  have h3 : d 2 3 = hN h := H.1.2.2.2.1
  refine zC_of (L := [(0, _)]) mk_X0_countGood (Nat.le_of_ble_eq_true rfl) hg rfl (fun x => ?_)
  refine z_iconst dX0_countGood_0 ?_
  refine z_aload_n 0 dX0_countGood_1 rfl rfl ?_
  refine z_getr fl_RX0_18 (by decide) rfl rfl dX0_countGood_2 ?_
  refine z_geti fl_RX0_22 (by decide) rfl rfl dX0_countGood_5 ?_
  rw [h3]
  refine z_ishl _ (zshl (s := 1) (m := hN h) (by omega) (by omega)) dX0_countGood_8 ?_
  rw [Nat.one_mul]
  refine z_istore_n (L' := [(0, _), (1, _)]) dX0_countGood_9 rfl (by decide) rfl rfl ?_
  refine z_aload_n 0 dX0_countGood_10 rfl rfl ?_
  refine z_getr fl_RX0_15 (by decide) rfl rfl dX0_countGood_11 ?_
  refine z_iconst dX0_countGood_14 ?_
  refine z_iconst dX0_countGood_15 ?_
  refine z_iast 0 (by decide) rfl rfl (by omega) (by decide) dX0_countGood_16 ?_
  refine z_iconst dX0_countGood_17 ?_
  refine z_istore_n (L' := [(0, _), (1, _), (2, _)]) dX0_countGood_18 rfl (by decide) rfl rfl ?_
  refine lp_countGood (d0 := d) (h := h) hg w H (by omega) (fun d' h1 => ⟨rfl, h1⟩) (2 ^ hN h + 1) 1 _ (zF.rf.up (by decide)) (fun u hu => ?_) (by omega) (by omega) (by omega)
  have e : u = 0 := by omega
  subst e
  rw [zu_at, wayC, pcN_zero]; rfl
