/-! the reference: votes by places of the row -/
def moN (ls : List Nat) (P : Nat) : Nat → Nat
  | 0 => 0
  | k + 1 => if P.testBit k = true then moN ls P k ||| 2 ^ ls.getD k 0 else moN ls P k
/-- the motions at places -/
def mo (ls : List Nat) (P : Nat) : Nat := moN ls P ls.length
theorem moN_bit (ls : List Nat) (P i : Nat) : ∀ k, (moN ls P k).testBit i = true ↔ ∃ j, j < k ∧ P.testBit j = true ∧ ls.getD j 0 = i
  | 0 => by simp [moN]
  | k + 1 => by
    rw [moN]
    by_cases c : P.testBit k = true
    · rw [if_pos c, or_bit1, Bool.or_eq_true, moN_bit ls P i k, decide_eq_true_eq]
      constructor
      · rintro (⟨j, h1, h2, h3⟩ | h1)
        · exact ⟨j, by omega, h2, h3⟩
        · exact ⟨k, by omega, c, h1⟩
      · rintro ⟨j, h1, h2, h3⟩
        by_cases e : j = k
        · subst e; exact Or.inr h3
        · exact Or.inl ⟨j, by omega, h2, h3⟩
    · rw [if_neg c, moN_bit ls P i k]
      constructor
      · rintro ⟨j, h1, h2, h3⟩; exact ⟨j, by omega, h2, h3⟩
      · rintro ⟨j, h1, h2, h3⟩
        by_cases e : j = k
        · subst e; exact absurd h2 c
        · exact ⟨j, by omega, h2, h3⟩
theorem b_eq {a b : Nat} (h : ∀ i, a.testBit i = true ↔ b.testBit i = true) : a = b := by
  apply Nat.eq_of_testBit_eq
  intro i
  have := h i
  cases h1 : a.testBit i <;> cases h2 : b.testBit i <;> simp_all
theorem mo_or {ls : List Nat} {P k : Nat} (hk : k < ls.length) : mo ls (P ||| 2 ^ k) = mo ls P ||| 2 ^ ls.getD k 0 := by
  apply b_eq
  intro i
  unfold mo
  rw [moN_bit, or_bit1, Bool.or_eq_true, moN_bit, decide_eq_true_eq]
  constructor
  · rintro ⟨j, h1, h2, h3⟩
    rw [or_bit1, Bool.or_eq_true, decide_eq_true_eq] at h2
    rcases h2 with h2 | h2
    · exact Or.inl ⟨j, h1, h2, h3⟩
    · subst h2; exact Or.inr h3
  · rintro (⟨j, h1, h2, h3⟩ | h1)
    · exact ⟨j, h1, by rw [or_bit1, h2]; rfl, h3⟩
    · exact ⟨k, hk, by rw [or_bit1, decide_eq_true rfl, Bool.or_true], h1⟩
theorem mo_zero (ls : List Nat) : mo ls 0 = 0 := by
  apply b_eq
  intro i
  unfold mo
  rw [moN_bit]
  simp
theorem moN_lt {ls : List Nat} {N : Nat} (h : ∀ m ∈ ls, m < N) (P : Nat) : ∀ k, k ≤ ls.length → moN ls P k < 2 ^ N
  | 0, _ => Nat.two_pow_pos _
  | k + 1, hk => by
    have ih := moN_lt h P k (by omega)
    rw [moN]
    split
    · refine or_lt ih (Nat.pow_lt_pow_right (by decide) (h _ ?_))
      rw [List.getD_eq_getElem?_getD, List.getElem?_eq_getElem (by omega)]
      exact List.getElem_mem _
    · exact ih
theorem getD_lt {ls : List Nat} {N k : Nat} (h : ∀ m ∈ ls, m < N) (hk : k < ls.length) : ls.getD k 0 < N := by
  apply h
  rw [List.getD_eq_getElem?_getD, List.getElem?_eq_getElem hk]
  exact List.getElem_mem _
/-- the row holds a list -/
def RLs (d : zD) (ls : List Nat) : Prop := ∀ i, i < ls.length → d 58 i = (ls.getD i 0 : Nat)
theorem RLs.of {d d' : zD} {ls : List Nat} (H : RLs d ls) (e : d' 58 = d 58) : RLs d' ls := fun i hi => by rw [e]; exact H i hi
def eM (h : Hl) (t : Nat) (ls : List Nat) (k P : Nat) : Nat := finF h t (ls.drop k) (mo ls P)
def yM (h : Hl) (t : Nat) (ls : List Nat) (k P : Nat) : Nat := if k = ls.length then prefF h (formF h (mo ls P)) 0 else yesAt h t ls k (mo ls P)
def EMf (d : zD) (h : Hl) (t : Nat) (ls : List Nat) (k0 : Nat) : Prop := ∀ k P, k0 ≤ k → k ≤ ls.length → P < 2 ^ k → d 60 (64 * k + P) = (eM h t ls k P : Nat) ∧ d 61 (64 * k + P) = (yM h t ls k P : Nat)
theorem t8_motionsOf (l : Launch) {g : zG} (hg : zAmOk g) {d : zD} {h : Hl} (w : Wf h) {ls : List Nat} (R : RLs d ls) (hl : ls.length ≤ 6) (hm : ∀ m ∈ ls, m < hN h) (e37 : d 37 37 = (ls.length : Nat)) {P : Nat} : zC l g mX8_motionsOf 2 [zr g 37, zi (P : Int)] d (zpu (zi (mo ls P : Nat)) d) := by
  have w3 := w.2.2.1
  have hp2 := p64 w3
  have key : ∀ (x : zX) (r k : Nat), k ≤ ls.length → ls.length - k < r → zV l x g mX8_motionsOf 2 (zpu (zi (mo ls P : Nat)) d) 4 [(0, zr g 37), (1, zi (P : Int)), (2, zi (moN ls P k : Nat)), (3, zi (k : Int))] [] d := by
    intro x r
    induction r with
    | zero => intro k hk hr; omega
    | succ r ih =>
      intro k hk hr
      have hml := moN_lt hm P k hk
      refine z_iload_n 3 dX8_motionsOf_4 rfl rfl ?_
      refine z_aload_n 0 dX8_motionsOf_5 rfl rfl ?_
      refine z_geti fl_RX8_253 (by decide) rfl rfl dX8_motionsOf_6 ?_
      rw [e37]
      refine z_icmp_ge 41 (by omega) (by omega) dX8_motionsOf_9 (by decide) (fun h_9 => ?_) (fun h_9 => ?_)
      · refine z_iload_n 2 dX8_motionsOf_41 rfl rfl ?_
        rw [show k = ls.length by omega]
        exact z_iret rfl dX8_motionsOf_42 (⟨rfl, rfl⟩)
      · have e := R k (by omega)
        have hgl := getD_lt hm (show k < ls.length by omega)
        have hb := bit_le hgl w3
        refine z_iload_n 2 dX8_motionsOf_12 rfl rfl ?_
        refine z_iload_n 1 dX8_motionsOf_13 rfl rfl ?_
        refine z_iload_n 3 dX8_motionsOf_14 rfl rfl ?_
        refine z_cs (t8_has l hg d (m := k) (s := P) (by omega)) mk_X8_has ms_X8_has ml_RX8_133 (by omega) rfl rfl (Nat.le_of_ble_eq_true rfl) dX8_motionsOf_15 (zpure ?_)
        refine z_if_eq_b 32 dX8_motionsOf_18 (by decide) (fun h_18 => ?_) (fun h_18 => ?_)
        · refine z_iconst dX8_motionsOf_32 ?_
          refine z_top ((0 : Nat) : Int) rfl ?_
          refine z_ior _ (zor _ _) dX8_motionsOf_33 ?_
          refine z_istore_n (L' := [(0, _), (1, _), (2, _), (3, _)]) dX8_motionsOf_34 rfl (by decide) rfl rfl ?_
          refine z_iinc 3 (L' := [(0, _), (1, _), (2, _), (3, _)]) dX8_motionsOf_35 (by decide) rfl rfl rfl ?_
          refine z_goto 4 dX8_motionsOf_38 (by decide) ?_
          refine z_LL _ ?_ (ih (k + 1) (by omega) (by omega))
          rw [moN, if_neg (by rw [h_18]; decide), Nat.or_zero]; rfl
        · refine z_iconst dX8_motionsOf_21 ?_
          refine z_aload_n 0 dX8_motionsOf_22 rfl rfl ?_
          refine z_getr fl_RX8_70 (by decide) rfl rfl dX8_motionsOf_23 ?_
          refine z_iload_n 3 dX8_motionsOf_26 rfl rfl ?_
          refine z_iald _ (by decide) rfl rfl (by omega) (by decide) dX8_motionsOf_27 ?_
          rw [e]
          refine z_ishl _ (zshl (s := 1) (m := ls.getD k 0) (by omega) (by omega)) dX8_motionsOf_28 ?_
          refine z_goto 33 dX8_motionsOf_29 (by decide) ?_
          rw [Nat.one_mul]
          refine z_ior _ (zor _ _) dX8_motionsOf_33 ?_
          refine z_istore_n (L' := [(0, _), (1, _), (2, _), (3, _)]) dX8_motionsOf_34 rfl (by decide) rfl rfl ?_
          refine z_iinc 3 (L' := [(0, _), (1, _), (2, _), (3, _)]) dX8_motionsOf_35 (by decide) rfl rfl rfl ?_
          refine z_goto 4 dX8_motionsOf_38 (by decide) ?_
          refine z_LL _ ?_ (ih (k + 1) (by omega) (by omega))
          rw [moN, if_pos h_18]; rfl
  refine zC_of (L := [(0, _), (1, _)]) mk_X8_motionsOf (Nat.le_of_ble_eq_true rfl) hg rfl (fun x => ?_)
  refine z_iconst dX8_motionsOf_0 ?_
  refine z_istore_n (L' := [(0, _), (1, _), (2, _)]) dX8_motionsOf_1 rfl (by decide) rfl rfl ?_
  refine z_iconst dX8_motionsOf_2 ?_
  refine z_istore_n (L' := [(0, _), (1, _), (2, _), (3, _)]) dX8_motionsOf_3 rfl (by decide) rfl rfl ?_
  exact key x (ls.length + 1) 0 (by omega) (by omega)
theorem t8_passes (l : Launch) {g : zG} (hg : zAmOk g) {d : zD} {h : Hl} (w : Wf h) (H : HM d h) (K : LKM d h) {ls : List Nat} (R : RLs d ls) (hl : ls.length ≤ 6) (hm : ∀ m ∈ ls, m < hN h) (e37 : d 37 37 = (ls.length : Nat)) {P t : Nat} (hP : P < 64) : zC l g mX8_passes 4 [zr g 37, zi (P : Int)] d (fun r d' => r = none ∧ d' = zu (zu d 61 (64 * ls.length + P) (yM h t ls ls.length P : Nat)) 60 (64 * ls.length + P) (eM h t ls ls.length P : Nat)) := by
  have hf := formF_lt w (mo ls P)
  have hq : quotaF h < 100 := by have := w.2.1; have := w.2.2.2.1; unfold quotaF; split <;> omega
  have hpl := prefN_le h (formF h (mo ls P)) 0 (hV h)
  have w4 := w.2.2.2.1
  have ey : yM h t ls ls.length P = prefF h (formF h (mo ls P)) 0 := by rw [yM, if_pos rfl]
  have ee : eM h t ls ls.length P = if passB h (mo ls P) = true then formF h (mo ls P) else 0 := by rw [eM, List.drop_length, finF]
  refine zC_of (L := [(0, _), (1, _)]) mk_X8_passes (Nat.le_of_ble_eq_true rfl) hg rfl (fun x => ?_)
  refine z_aload_n 0 dX8_passes_0 rfl rfl ?_
  refine z_aload_n 0 dX8_passes_1 rfl rfl ?_
  refine z_iload_n 1 dX8_passes_2 rfl rfl ?_
  refine z_cv (t8_motionsOf l hg w R hl hm e37 (P := P)) mk_X8_motionsOf mi_X8_motionsOf ml_RX8_256 (by omega) (by decide) rfl rfl rfl rfl (Nat.le_of_ble_eq_true rfl) dX8_passes_3 (zpure ?_)
  refine z_cv (t8_formOf l hg w H (s := mo ls P)) mk_X8_formOf mi_X8_formOf ml_RX8_243 (by omega) (by decide) rfl rfl rfl rfl (Nat.le_of_ble_eq_true rfl) dX8_passes_6 (zpure ?_)
  refine z_istore_n (L' := [(0, _), (1, _), (2, _)]) dX8_passes_9 rfl (by decide) rfl rfl ?_
  refine z_aload_n 0 dX8_passes_10 rfl rfl ?_
  refine z_iload_n 2 dX8_passes_11 rfl rfl ?_
  refine z_iconst dX8_passes_12 ?_
  refine z_top ((0 : Nat) : Int) rfl ?_
  refine z_cv (t8_preferring l hg w H K (f := formF h (mo ls P)) (o := 0) hf (by decide)) mk_X8_preferring mi_X8_preferring ml_RX8_259 (by omega) (by decide) rfl rfl rfl rfl (Nat.le_of_ble_eq_true rfl) dX8_passes_13 (zpure ?_)
  rw [← ey]
  refine z_istore_n (L' := [(0, _), (1, _), (2, _), (3, _)]) dX8_passes_16 rfl (by decide) rfl rfl ?_
  refine z_aload_n 0 dX8_passes_17 rfl rfl ?_
  refine z_getr fl_RX8_79 (by decide) rfl rfl dX8_passes_18 ?_
  refine z_bipush dX8_passes_21 (by decide) ?_
  refine z_aload_n 0 dX8_passes_23 rfl rfl ?_
  refine z_geti fl_RX8_253 (by decide) rfl rfl dX8_passes_24 ?_
  rw [e37]
  refine z_imul dX8_passes_27 ?_
  refine z_iload_n 1 dX8_passes_28 rfl rfl ?_
  refine z_iadd dX8_passes_29 ?_
  refine z_iload_n 3 dX8_passes_30 rfl rfl ?_
  refine z_iast (64 * ls.length + P) (by decide) rfl (by omega) (by omega) (by decide) dX8_passes_31 ?_
  refine z_aload_n 0 dX8_passes_32 rfl rfl ?_
  refine z_getr fl_RX8_76 (by decide) rfl rfl dX8_passes_33 ?_
  refine z_bipush dX8_passes_36 (by decide) ?_
  refine z_aload_n 0 dX8_passes_38 rfl rfl ?_
  refine z_geti fl_RX8_253 (by decide) rfl rfl dX8_passes_39 ?_
  rw [zu_ne (by decide), e37]
  refine z_imul dX8_passes_42 ?_
  refine z_iload_n 1 dX8_passes_43 rfl rfl ?_
  refine z_iadd dX8_passes_44 ?_
  refine z_iload_n 3 dX8_passes_45 rfl rfl ?_
  refine z_aload_n 0 dX8_passes_46 rfl rfl ?_
  refine z_cv (t8_quota l hg w (HM.of H (ps := [61]) (zF.rf.up (by decide)) (by decide))) mk_X8_quota mi_X8_quota ml_RX8_262 (by omega) (by decide) rfl rfl rfl rfl (Nat.le_of_ble_eq_true rfl) dX8_passes_47 (zpure ?_)
  refine z_icmp_lt 57 (by rw [ey]; unfold prefF; omega) (by omega) dX8_passes_50 (by decide) (fun h_50 => ?_) (fun h_50 => ?_)
  · refine z_iconst dX8_passes_57 ?_
    refine z_top ((eM h t ls ls.length P : Nat) : Int) (by rw [ee, if_neg (by rw [passB, decide_eq_true_eq, ← ey]; omega)]; rfl) ?_
    refine z_iast (64 * ls.length + P) (by decide) rfl (by omega) (by omega) (by decide) dX8_passes_58 ?_
    exact z_vret rfl dX8_passes_59 (⟨rfl, rfl⟩)
  · refine z_iload_n 2 dX8_passes_53 rfl rfl ?_
    refine z_goto 58 dX8_passes_54 (by decide) ?_
    refine z_top ((eM h t ls ls.length P : Nat) : Int) (by rw [ee, if_pos (by rw [passB, decide_eq_true_eq, ← ey]; omega)]) ?_
    refine z_iast (64 * ls.length + P) (by decide) rfl (by omega) (by omega) (by decide) dX8_passes_58 ?_
    exact z_vret rfl dX8_passes_59 (⟨rfl, rfl⟩)
theorem drop_c {ls : List Nat} {k : Nat} (hk : k < ls.length) : ls.drop k = ls.getD k 0 :: ls.drop (k + 1) := by
  rw [List.getD_eq_getElem?_getD, List.getElem?_eq_getElem hk, List.drop_eq_getElem_cons hk]; rfl
theorem t8_votesOn (l : Launch) {g : zG} (hg : zAmOk g) {d : zD} {h : Hl} (w : Wf h) (H : HM d h) (K : LKM d h) {ls : List Nat} (R : RLs d ls) (hl : ls.length ≤ 6) (hm : ∀ m ∈ ls, m < hN h) (e37 : d 37 37 = (ls.length : Nat)) {k P t : Nat} (hk : k < ls.length) (hP : P < 2 ^ k) (r1 : d 60 (64 * (k + 1) + (P ||| 2 ^ k)) = (eM h t ls (k + 1) (P ||| 2 ^ k) : Nat)) (r2 : d 60 (64 * (k + 1) + P) = (eM h t ls (k + 1) P : Nat)) : zC l g mX8_votesOn 4 [zr g 37, zi (k : Int), zi (P : Int), zi (t : Int)] d (fun r d' => r = none ∧ d' = zu (zu d 61 (64 * k + P) (yM h t ls k P : Nat)) 60 (64 * k + P) (eM h t ls k P : Nat)) := by
  have w4 := w.2.2.2.1
  have w3 := w.2.2.1
  have hpk : 2 ^ k ≤ 32 := bit_le hk hl
  have hP2 : P ||| 2 ^ k < 2 ^ (k + 1) := or_lt (Nat.lt_of_lt_of_le hP (Nat.pow_le_pow_right (by decide) (by omega))) (Nat.pow_lt_pow_right (by decide) (by omega))
  have hpk1 : 2 ^ (k + 1) = 2 ^ k + 2 ^ k := by rw [Nat.pow_succ]; omega
  have hmo : mo ls (P ||| 2 ^ k) = mo ls P ||| 2 ^ ls.getD k 0 := mo_or hk
  have ey : yM h t ls k P = yesF h t (ls.getD k 0) (mo ls P) (eM h t ls (k + 1) (P ||| 2 ^ k)) (eM h t ls (k + 1) P) := by rw [yM, if_neg (by omega), yesAt, eM, eM, hmo]
  have ee : eM h t ls k P = if carB h (yM h t ls k P) = true then eM h t ls (k + 1) (P ||| 2 ^ k) else eM h t ls (k + 1) P := by
    rw [ey, eM, drop_c hk, finF, eM, eM, hmo]
  have he1 : eM h t ls (k + 1) (P ||| 2 ^ k) < 256 := finF_lt w t _ _
  have he2 : eM h t ls (k + 1) P < 256 := finF_lt w t _ _
  have hy9 : yM h t ls k P ≤ hV h := by rw [ey]; exact yesN_le _ _ _ _ _ _ _
  have h3 : d 38 3 = hV h := H.1.2.2.2.1
  have key : ∀ (x : zX) (r v : Nat), v ≤ hV h → hV h - v < r → zV l x g mX8_votesOn 4 (fun r d' => r = none ∧ d' = zu (zu d 61 (64 * k + P) (yM h t ls k P : Nat)) 60 (64 * k + P) (eM h t ls k P : Nat)) 66 [(0, zr g 37), (1, zi (k : Int)), (2, zi (P : Int)), (3, zi (t : Int)), (4, zi (eM h t ls (k + 1) (P ||| 2 ^ k) : Nat)), (5, zi (eM h t ls (k + 1) P : Nat)), (6, zi (formF h (mo ls P) : Nat)), (7, zi (formF h (mo ls (P ||| 2 ^ k)) : Nat)), (8, zi (yesN h t (ls.getD k 0) (mo ls P) (eM h t ls (k + 1) (P ||| 2 ^ k)) (eM h t ls (k + 1) P) v : Nat)), (9, zi (v : Int))] [] d := by
    intro x r
    induction r with
    | zero => intro v hv hr; omega
    | succ r ih =>
      intro v hv hr
      have hyl := yesN_le h t (ls.getD k 0) (mo ls P) (eM h t ls (k + 1) (P ||| 2 ^ k)) (eM h t ls (k + 1) P) v
      refine z_iload 9 dX8_votesOn_66 rfl ?_
      refine z_aload_n 0 dX8_votesOn_68 rfl rfl ?_
      refine z_getr fl_RX8_7 (by decide) rfl rfl dX8_votesOn_69 ?_
      refine z_iconst dX8_votesOn_72 ?_
      refine z_iald 3 (by decide) rfl rfl (by decide) (by decide) dX8_votesOn_73 ?_
      rw [h3]
      refine z_icmp_ge 131 (by omega) (by omega) dX8_votesOn_74 (by decide) (fun h_74 => ?_) (fun h_74 => ?_)
      · have hv2 : v = hV h := by omega
        have eyN : yesN h t (ls.getD k 0) (mo ls P) (eM h t ls (k + 1) (P ||| 2 ^ k)) (eM h t ls (k + 1) P) v = yM h t ls k P := by rw [ey, yesF, hv2]
        rw [eyN]
        refine z_aload_n 0 dX8_votesOn_131 rfl rfl ?_
        refine z_getr fl_RX8_79 (by decide) rfl rfl dX8_votesOn_132 ?_
        refine z_bipush dX8_votesOn_135 (by decide) ?_
        refine z_iload_n 1 dX8_votesOn_137 rfl rfl ?_
        refine z_imul dX8_votesOn_138 ?_
        refine z_iload_n 2 dX8_votesOn_139 rfl rfl ?_
        refine z_iadd dX8_votesOn_140 ?_
        refine z_iload 8 dX8_votesOn_141 rfl ?_
        refine z_iast (64 * k + P) (by decide) rfl (by omega) (by omega) (by decide) dX8_votesOn_143 ?_
        refine z_aload_n 0 dX8_votesOn_144 rfl rfl ?_
        refine z_getr fl_RX8_76 (by decide) rfl rfl dX8_votesOn_145 ?_
        refine z_bipush dX8_votesOn_148 (by decide) ?_
        refine z_iload_n 1 dX8_votesOn_150 rfl rfl ?_
        refine z_imul dX8_votesOn_151 ?_
        refine z_iload_n 2 dX8_votesOn_152 rfl rfl ?_
        refine z_iadd dX8_votesOn_153 ?_
        refine z_iconst dX8_votesOn_154 ?_
        refine z_iload 8 dX8_votesOn_155 rfl ?_
        refine z_imul dX8_votesOn_157 ?_
        refine z_aload_n 0 dX8_votesOn_158 rfl rfl ?_
        refine z_getr fl_RX8_7 (by decide) rfl rfl dX8_votesOn_159 ?_
        refine z_iconst dX8_votesOn_162 ?_
        refine z_iald 3 (by decide) rfl rfl (by decide) (by decide) dX8_votesOn_163 ?_
        rw [zu_ne (by decide), h3]
        refine z_icmp_le 172 (by omega) (by omega) dX8_votesOn_164 (by decide) (fun h_164 => ?_) (fun h_164 => ?_)
        · refine z_iload 5 dX8_votesOn_172 rfl ?_
          rw [show eM h t ls (k + 1) P = eM h t ls k P by rw [ee, if_neg (by rw [carB, decide_eq_true_eq]; omega)]]
          refine z_iast (64 * k + P) (by decide) rfl (by omega) (by omega) (by decide) dX8_votesOn_174 ?_
          exact z_vret rfl dX8_votesOn_175 (⟨rfl, rfl⟩)
        · refine z_iload 4 dX8_votesOn_167 rfl ?_
          refine z_goto 174 dX8_votesOn_169 (by decide) ?_
          rw [show eM h t ls (k + 1) (P ||| 2 ^ k) = eM h t ls k P by rw [ee, if_pos (by rw [carB, decide_eq_true_eq]; omega)]]
          refine z_iast (64 * k + P) (by decide) rfl (by omega) (by omega) (by decide) dX8_votesOn_174 ?_
          exact z_vret rfl dX8_votesOn_175 (⟨rfl, rfl⟩)
      · refine z_iload 8 dX8_votesOn_77 rfl ?_
        refine z_iload_n 3 dX8_votesOn_79 rfl rfl ?_
        refine z_iload 9 dX8_votesOn_80 rfl ?_
        refine z_cs (t8_has l hg d (m := v) (s := t) (by omega)) mk_X8_has ms_X8_has ml_RX8_133 (by omega) rfl rfl (Nat.le_of_ble_eq_true rfl) dX8_votesOn_82 (zpure ?_)
        refine z_if_eq_b 104 dX8_votesOn_85 (by decide) (fun h_85 => ?_) (fun h_85 => ?_)
        · refine z_aload_n 0 dX8_votesOn_104 rfl rfl ?_
          refine z_iload 9 dX8_votesOn_105 rfl ?_
          refine z_iload 4 dX8_votesOn_107 rfl ?_
          refine z_iload 5 dX8_votesOn_109 rfl ?_
          refine z_cv (t8_isPreferred l hg w K (v := v) (f := eM h t ls (k + 1) (P ||| 2 ^ k)) (o := eM h t ls (k + 1) P) (by omega) he1 he2) mk_X8_isPreferred mi_X8_isPreferred ml_RX8_250 (by omega) (by decide) rfl rfl rfl rfl (Nat.le_of_ble_eq_true rfl) dX8_votesOn_111 (zpure ?_)
          refine z_if_eq_b 121 dX8_votesOn_114 (by decide) (fun h_114 => ?_) (fun h_114 => ?_)
          · refine z_iconst dX8_votesOn_121 ?_
            refine z_iadd dX8_votesOn_122 ?_
            refine z_istore (L' := [(0, _), (1, _), (2, _), (3, _), (4, _), (5, _), (6, _), (7, _), (8, _), (9, _)]) dX8_votesOn_123 (by decide) rfl rfl ?_
            refine z_iinc 9 (L' := [(0, _), (1, _), (2, _), (3, _), (4, _), (5, _), (6, _), (7, _), (8, _), (9, _)]) dX8_votesOn_125 (by decide) rfl rfl rfl ?_
            refine z_goto 66 dX8_votesOn_128 (by decide) ?_
            refine z_LL _ ?_ (ih (v + 1) (by omega) (by omega))
            have yb : yesB h t (ls.getD k 0) (mo ls P) (eM h t ls (k + 1) (P ||| 2 ^ k)) (eM h t ls (k + 1) P) v = false := by unfold yesB; rw [h_85]; exact h_114
            rw [yesN, if_neg (by rw [yb]; decide)]; rfl
          · refine z_iconst dX8_votesOn_117 ?_
            refine z_goto 122 dX8_votesOn_118 (by decide) ?_
            refine z_iadd dX8_votesOn_122 ?_
            refine z_istore (L' := [(0, _), (1, _), (2, _), (3, _), (4, _), (5, _), (6, _), (7, _), (8, _), (9, _)]) dX8_votesOn_123 (by decide) rfl rfl ?_
            refine z_iinc 9 (L' := [(0, _), (1, _), (2, _), (3, _), (4, _), (5, _), (6, _), (7, _), (8, _), (9, _)]) dX8_votesOn_125 (by decide) rfl rfl rfl ?_
            refine z_goto 66 dX8_votesOn_128 (by decide) ?_
            refine z_LL _ ?_ (ih (v + 1) (by omega) (by omega))
            have yb : yesB h t (ls.getD k 0) (mo ls P) (eM h t ls (k + 1) (P ||| 2 ^ k)) (eM h t ls (k + 1) P) v = true := by unfold yesB; rw [h_85]; exact h_114
            rw [yesN, if_pos yb]; rfl
        · refine z_aload_n 0 dX8_votesOn_88 rfl rfl ?_
          refine z_iload 9 dX8_votesOn_89 rfl ?_
          refine z_iload 7 dX8_votesOn_91 rfl ?_
          refine z_iload 6 dX8_votesOn_93 rfl ?_
          refine z_cv (t8_isPreferred l hg w K (v := v) (f := formF h (mo ls (P ||| 2 ^ k))) (o := formF h (mo ls P)) (by omega) (formF_lt w _) (formF_lt w _)) mk_X8_isPreferred mi_X8_isPreferred ml_RX8_250 (by omega) (by decide) rfl rfl rfl rfl (Nat.le_of_ble_eq_true rfl) dX8_votesOn_95 (zpure ?_)
          refine z_if_eq_b 121 dX8_votesOn_98 (by decide) (fun h_98 => ?_) (fun h_98 => ?_)
          · refine z_iconst dX8_votesOn_121 ?_
            refine z_iadd dX8_votesOn_122 ?_
            refine z_istore (L' := [(0, _), (1, _), (2, _), (3, _), (4, _), (5, _), (6, _), (7, _), (8, _), (9, _)]) dX8_votesOn_123 (by decide) rfl rfl ?_
            refine z_iinc 9 (L' := [(0, _), (1, _), (2, _), (3, _), (4, _), (5, _), (6, _), (7, _), (8, _), (9, _)]) dX8_votesOn_125 (by decide) rfl rfl rfl ?_
            refine z_goto 66 dX8_votesOn_128 (by decide) ?_
            refine z_LL _ ?_ (ih (v + 1) (by omega) (by omega))
            rw [yesN, yesB, if_pos h_85, ← hmo, if_neg (by rw [h_98]; decide)]; rfl
          · refine z_goto 117 dX8_votesOn_101 (by decide) ?_
            refine z_iconst dX8_votesOn_117 ?_
            refine z_goto 122 dX8_votesOn_118 (by decide) ?_
            refine z_iadd dX8_votesOn_122 ?_
            refine z_istore (L' := [(0, _), (1, _), (2, _), (3, _), (4, _), (5, _), (6, _), (7, _), (8, _), (9, _)]) dX8_votesOn_123 (by decide) rfl rfl ?_
            refine z_iinc 9 (L' := [(0, _), (1, _), (2, _), (3, _), (4, _), (5, _), (6, _), (7, _), (8, _), (9, _)]) dX8_votesOn_125 (by decide) rfl rfl rfl ?_
            refine z_goto 66 dX8_votesOn_128 (by decide) ?_
            refine z_LL _ ?_ (ih (v + 1) (by omega) (by omega))
            rw [yesN, yesB, if_pos h_85, ← hmo, if_pos h_98]; rfl
  refine zC_of (L := [(0, _), (1, _), (2, _), (3, _)]) mk_X8_votesOn (Nat.le_of_ble_eq_true rfl) hg rfl (fun x => ?_)
  refine z_aload_n 0 dX8_votesOn_0 rfl rfl ?_
  refine z_getr fl_RX8_76 (by decide) rfl rfl dX8_votesOn_1 ?_
  refine z_bipush dX8_votesOn_4 (by decide) ?_
  refine z_iload_n 1 dX8_votesOn_6 rfl rfl ?_
  refine z_iconst dX8_votesOn_7 ?_
  refine z_iadd dX8_votesOn_8 ?_
  refine z_imul dX8_votesOn_9 ?_
  refine z_iload_n 2 dX8_votesOn_10 rfl rfl ?_
  refine z_iconst dX8_votesOn_11 ?_
  refine z_iload_n 1 dX8_votesOn_12 rfl rfl ?_
  refine z_ishl _ (zshl (s := 1) (m := k) (by omega) (by omega)) dX8_votesOn_13 ?_
  rw [Nat.one_mul]
  refine z_ior _ (zor _ _) dX8_votesOn_14 ?_
  refine z_iadd dX8_votesOn_15 ?_
  refine z_iald (64 * (k + 1) + (P ||| 2 ^ k)) (by decide) rfl (by omega) (by omega) (by decide) dX8_votesOn_16 ?_
  rw [r1]
  refine z_istore (L' := [(0, _), (1, _), (2, _), (3, _), (4, _)]) dX8_votesOn_17 (by decide) rfl rfl ?_
  refine z_aload_n 0 dX8_votesOn_19 rfl rfl ?_
  refine z_getr fl_RX8_76 (by decide) rfl rfl dX8_votesOn_20 ?_
  refine z_bipush dX8_votesOn_23 (by decide) ?_
  refine z_iload_n 1 dX8_votesOn_25 rfl rfl ?_
  refine z_iconst dX8_votesOn_26 ?_
  refine z_iadd dX8_votesOn_27 ?_
  refine z_imul dX8_votesOn_28 ?_
  refine z_iload_n 2 dX8_votesOn_29 rfl rfl ?_
  refine z_iadd dX8_votesOn_30 ?_
  refine z_iald (64 * (k + 1) + P) (by decide) rfl (by omega) (by omega) (by decide) dX8_votesOn_31 ?_
  rw [r2]
  refine z_istore (L' := [(0, _), (1, _), (2, _), (3, _), (4, _), (5, _)]) dX8_votesOn_32 (by decide) rfl rfl ?_
  refine z_aload_n 0 dX8_votesOn_34 rfl rfl ?_
  refine z_aload_n 0 dX8_votesOn_35 rfl rfl ?_
  refine z_iload_n 2 dX8_votesOn_36 rfl rfl ?_
  refine z_cv (t8_motionsOf l hg w R hl hm e37 (P := P)) mk_X8_motionsOf mi_X8_motionsOf ml_RX8_256 (by omega) (by decide) rfl rfl rfl rfl (Nat.le_of_ble_eq_true rfl) dX8_votesOn_37 (zpure ?_)
  refine z_cv (t8_formOf l hg w H (s := mo ls P)) mk_X8_formOf mi_X8_formOf ml_RX8_243 (by omega) (by decide) rfl rfl rfl rfl (Nat.le_of_ble_eq_true rfl) dX8_votesOn_40 (zpure ?_)
  refine z_istore (L' := [(0, _), (1, _), (2, _), (3, _), (4, _), (5, _), (6, _)]) dX8_votesOn_43 (by decide) rfl rfl ?_
  refine z_aload_n 0 dX8_votesOn_45 rfl rfl ?_
  refine z_aload_n 0 dX8_votesOn_46 rfl rfl ?_
  refine z_iload_n 2 dX8_votesOn_47 rfl rfl ?_
  refine z_iconst dX8_votesOn_48 ?_
  refine z_iload_n 1 dX8_votesOn_49 rfl rfl ?_
  refine z_ishl _ (zshl (s := 1) (m := k) (by omega) (by omega)) dX8_votesOn_50 ?_
  rw [Nat.one_mul]
  refine z_ior _ (zor _ _) dX8_votesOn_51 ?_
  refine z_cv (t8_motionsOf l hg w R hl hm e37 (P := P ||| 2 ^ k)) mk_X8_motionsOf mi_X8_motionsOf ml_RX8_256 (by omega) (by decide) rfl rfl rfl rfl (Nat.le_of_ble_eq_true rfl) dX8_votesOn_52 (zpure ?_)
  refine z_cv (t8_formOf l hg w H (s := mo ls (P ||| 2 ^ k))) mk_X8_formOf mi_X8_formOf ml_RX8_243 (by omega) (by decide) rfl rfl rfl rfl (Nat.le_of_ble_eq_true rfl) dX8_votesOn_55 (zpure ?_)
  refine z_istore (L' := [(0, _), (1, _), (2, _), (3, _), (4, _), (5, _), (6, _), (7, _)]) dX8_votesOn_58 (by decide) rfl rfl ?_
  refine z_iconst dX8_votesOn_60 ?_
  refine z_istore (L' := [(0, _), (1, _), (2, _), (3, _), (4, _), (5, _), (6, _), (7, _), (8, _)]) dX8_votesOn_61 (by decide) rfl rfl ?_
  refine z_iconst dX8_votesOn_63 ?_
  refine z_istore (L' := [(0, _), (1, _), (2, _), (3, _), (4, _), (5, _), (6, _), (7, _), (8, _), (9, _)]) dX8_votesOn_64 (by decide) rfl rfl ?_
  exact key x (hV h + 1) 0 (by omega) (by omega)
theorem t8_worksOut (l : Launch) {g : zG} (hg : zAmOk g) {d : zD} {h : Hl} (w : Wf h) (H : HM d h) (K : LKM d h) {ls : List Nat} (R : RLs d ls) (hl : ls.length ≤ 6) (hm : ∀ m ∈ ls, m < hN h) {t : Nat} : zC l g mX8_worksOut 5 [zr g 37, zi (ls.length : Nat), zi (t : Int)] d (fun r d' => r = none ∧ (zF [37, 60, 61] d d' ∧ (∀ i, i ≠ 37 → d' 37 i = d 37 i) ∧ d' 37 37 = (ls.length : Nat) ∧ EMf d' h t ls 0)) := by
  have hpl := p64 hl
  have hpl0 : 0 < 2 ^ ls.length := Nat.two_pow_pos _
  have fr : ∀ d1, zF [37, 60, 61] d d1 → d1 37 37 = (ls.length : Nat) → HM d1 h ∧ LKM d1 h ∧ RLs d1 ls := fun d1 F e => ⟨HM.of H F (by decide), K.of (F 59 (by decide)), R.of (F 58 (by decide))⟩
  have key3 : ∀ (x : zX) (k : Nat) (Q : Option Value → zD → Prop), k < ls.length → (∀ d1, zF [37, 60, 61] d d1 → (∀ i, i ≠ 37 → d1 37 i = d 37 i) → d1 37 37 = (ls.length : Nat) → EMf d1 h t ls k → zV l x g mX8_worksOut 5 Q 58 [(0, zr g 37), (1, zi (ls.length : Nat)), (2, zi (t : Int)), (3, zi (k : Int))] [] d1) → ∀ (r j : Nat) (d1 : zD), zF [37, 60, 61] d d1 → (∀ i, i ≠ 37 → d1 37 i = d 37 i) → d1 37 37 = (ls.length : Nat) → EMf d1 h t ls (k + 1) → (∀ P, P < j → d1 60 (64 * k + P) = (eM h t ls k P : Nat) ∧ d1 61 (64 * k + P) = (yM h t ls k P : Nat)) → j ≤ 2 ^ k → 2 ^ k - j < r → zV l x g mX8_worksOut 5 Q 36 [(0, zr g 37), (1, zi (ls.length : Nat)), (2, zi (t : Int)), (3, zi (k : Int)), (4, zi (j : Int))] [] d1 := by
    intro x k Q hk kk r
    have hpk : 2 ^ k ≤ 32 := bit_le hk hl
    have hpk1 : 2 ^ (k + 1) = 2 ^ k + 2 ^ k := by rw [Nat.pow_succ]; omega
    induction r with
    | zero => intro j d1 a1 a2 a3 a4 a5 a6 hr; omega
    | succ r ih =>
      intro j d1 F e1 e37 E e2 hj hr
      obtain ⟨H1, K1, R1⟩ := fr d1 F e37
      refine z_iload 4 dX8_worksOut_36 rfl ?_
      refine z_iconst dX8_worksOut_38 ?_
      refine z_iload_n 3 dX8_worksOut_39 rfl rfl ?_
      refine z_ishl _ (zshl (s := 1) (m := k) (by omega) (by omega)) dX8_worksOut_40 ?_
      rw [Nat.one_mul]
      refine z_icmp_ge 58 (by omega) (by omega) dX8_worksOut_41 (by decide) (fun h_41 => ?_) (fun h_41 => ?_)
      · refine z_sub (L' := [(0, _), (1, _), (2, _), (3, _)]) [0, 1, 2, 3] rfl ?_
        refine kk d1 F e1 e37 (fun k2 P a1 a2 a3 => ?_)
        by_cases e : k2 = k
        · subst e; exact e2 P (by omega)
        · exact E k2 P (by omega) a2 a3
      · have hj2 : j < 2 ^ k := by omega
        have hP2 : j ||| 2 ^ k < 2 ^ (k + 1) := or_lt (Nat.lt_of_lt_of_le hj2 (Nat.pow_le_pow_right (by decide) (by omega))) (Nat.pow_lt_pow_right (by decide) (by omega))
        refine z_aload_n 0 dX8_worksOut_44 rfl rfl ?_
        refine z_iload_n 3 dX8_worksOut_45 rfl rfl ?_
        refine z_iload 4 dX8_worksOut_46 rfl ?_
        refine z_iload_n 2 dX8_worksOut_48 rfl rfl ?_
        refine z_cv (t8_votesOn l hg w H1 K1 R1 hl hm e37 (k := k) (P := j) (t := t) hk hj2 (E (k + 1) (j ||| 2 ^ k) (Nat.le_refl _) (by omega) hP2).1 (E (k + 1) j (Nat.le_refl _) (by omega) (by omega)).1) mk_X8_votesOn mi_X8_votesOn ml_RX8_268 (by omega) (by decide) rfl rfl rfl rfl (Nat.le_of_ble_eq_true rfl) dX8_worksOut_49 (fun r_49 d_49 q_49 => ?_)
        obtain ⟨rfl, rfl⟩ := q_49
        show zV l x g mX8_worksOut 5 _ _ _ [] _
        refine z_iinc 4 (L' := [(0, _), (1, _), (2, _), (3, _), (4, _)]) dX8_worksOut_52 (by decide) rfl rfl rfl ?_
        refine z_goto 36 dX8_worksOut_55 (by decide) ?_
        refine ih (j + 1) _ ((F.up (by decide)).up (by decide)) (fun i hi => by rw [zu_ne (by decide), zu_ne (by decide)]; exact e1 i hi) (by rw [zu_ne (by decide), zu_ne (by decide)]; exact e37) (fun k2 P a1 a2 a3 => ?_) (fun P hP => ?_) (by omega) (by omega)
        · have hk2 : 2 ^ k2 ≤ 64 := Nat.pow_le_pow_right (n := 2) (by decide) (show k2 ≤ 6 by omega)
          rw [zu_row, if_neg (by omega), zu_ne (by decide), zu_ne (by decide), zu_row, if_neg (by omega)]
          exact E k2 P a1 a2 a3
        · by_cases e : P = j
          · subst e; rw [zu_at, zu_ne (by decide), zu_at]; exact ⟨rfl, rfl⟩
          · rw [zu_row, if_neg (by omega), zu_ne (by decide), zu_ne (by decide), zu_row, if_neg (by omega)]
            exact e2 P (by omega)
  have key2 : ∀ (x : zX) (k : Nat) (d1 : zD), k ≤ ls.length → zF [37, 60, 61] d d1 → (∀ i, i ≠ 37 → d1 37 i = d 37 i) → d1 37 37 = (ls.length : Nat) → EMf d1 h t ls k → zV l x g mX8_worksOut 5 (fun r d' => r = none ∧ (zF [37, 60, 61] d d' ∧ (∀ i, i ≠ 37 → d' 37 i = d 37 i) ∧ d' 37 37 = (ls.length : Nat) ∧ EMf d' h t ls 0)) 29 [(0, zr g 37), (1, zi (ls.length : Nat)), (2, zi (t : Int)), (3, zi ((k : Int) - 1))] [] d1 := by
    intro x k
    induction k with
    | zero =>
      intro d1 hk F e1 e37 E
      refine z_iload_n 3 dX8_worksOut_29 rfl rfl ?_
      refine z_if_lt 64 (by omega) dX8_worksOut_30 (by decide) (fun h_30 => ?_) (fun h_30 => absurd h_30 (by omega))
      exact z_vret rfl dX8_worksOut_64 (⟨rfl, F, e1, e37, E⟩)
    | succ k ih =>
      intro d1 hk F e1 e37 E
      refine z_LL [(0, zr g 37), (1, zi (ls.length : Nat)), (2, zi (t : Int)), (3, zi (k : Int))] (by rw [show ((k + 1 : Nat) : Int) - 1 = (k : Int) by omega]) ?_
      refine z_iload_n 3 dX8_worksOut_29 rfl rfl ?_
      refine z_if_lt 64 (by omega) dX8_worksOut_30 (by decide) (fun h_30 => absurd h_30 (by omega)) (fun h_30 => ?_)
      refine z_iconst dX8_worksOut_33 ?_
      refine z_istore (L' := [(0, _), (1, _), (2, _), (3, _), (4, _)]) dX8_worksOut_34 (by decide) rfl rfl ?_
      have hp0 : 0 < 2 ^ k := Nat.two_pow_pos k
      refine key3 x k _ (by omega) (fun d2 F2 a1 a2 a3 => ?_) (2 ^ k + 1) 0 d1 F e1 e37 E (fun P hP => absurd hP (by omega)) (by omega) (by omega)
      refine z_iinc 3 (L' := [(0, _), (1, _), (2, _), (3, _)]) dX8_worksOut_58 (by decide) rfl rfl rfl ?_
      refine z_goto 29 dX8_worksOut_61 (by decide) ?_
      exact ih d2 (by omega) F2 a1 a2 a3
  have key1 : ∀ (x : zX) (r j : Nat) (d1 : zD), zF [37, 60, 61] d d1 → (∀ i, i ≠ 37 → d1 37 i = d 37 i) → d1 37 37 = (ls.length : Nat) → (∀ P, P < j → d1 60 (64 * ls.length + P) = (eM h t ls ls.length P : Nat) ∧ d1 61 (64 * ls.length + P) = (yM h t ls ls.length P : Nat)) → j ≤ 2 ^ ls.length → 2 ^ ls.length - j < r → zV l x g mX8_worksOut 5 (fun r d' => r = none ∧ (zF [37, 60, 61] d d' ∧ (∀ i, i ≠ 37 → d' 37 i = d 37 i) ∧ d' 37 37 = (ls.length : Nat) ∧ EMf d' h t ls 0)) 7 [(0, zr g 37), (1, zi (ls.length : Nat)), (2, zi (t : Int)), (3, zi (j : Int))] [] d1 := by
    intro x r
    induction r with
    | zero => intro j d1 a1 a2 a3 a4 a5 hr; omega
    | succ r ih =>
      intro j d1 F e1 e37 e2 hj hr
      obtain ⟨H1, K1, R1⟩ := fr d1 F e37
      refine z_iload_n 3 dX8_worksOut_7 rfl rfl ?_
      refine z_iconst dX8_worksOut_8 ?_
      refine z_iload_n 1 dX8_worksOut_9 rfl rfl ?_
      refine z_ishl _ (zshl (s := 1) (m := ls.length) (by omega) (by omega)) dX8_worksOut_10 ?_
      rw [Nat.one_mul]
      refine z_icmp_ge 25 (by omega) (by omega) dX8_worksOut_11 (by decide) (fun h_11 => ?_) (fun h_11 => ?_)
      · refine z_iload_n 1 dX8_worksOut_25 rfl rfl ?_
        refine z_iconst dX8_worksOut_26 ?_
        refine z_isub dX8_worksOut_27 ?_
        refine z_istore_n (L' := [(0, _), (1, _), (2, _), (3, _)]) dX8_worksOut_28 rfl (by decide) rfl rfl ?_
        refine key2 x ls.length d1 (Nat.le_refl _) F e1 e37 (fun k2 P a1 a2 a3 => ?_)
        have e : k2 = ls.length := by omega
        subst e
        exact e2 P (by omega)
      · refine z_aload_n 0 dX8_worksOut_14 rfl rfl ?_
        refine z_iload_n 3 dX8_worksOut_15 rfl rfl ?_
        refine z_cv (t8_passes l hg w H1 K1 R1 hl hm e37 (P := j) (t := t) (by omega)) mk_X8_passes mi_X8_passes ml_RX8_265 (by omega) (by decide) rfl rfl rfl rfl (Nat.le_of_ble_eq_true rfl) dX8_worksOut_16 (fun r_16 d_16 q_16 => ?_)
        obtain ⟨rfl, rfl⟩ := q_16
        show zV l x g mX8_worksOut 5 _ _ _ [] _
        refine z_iinc 3 (L' := [(0, _), (1, _), (2, _), (3, _)]) dX8_worksOut_19 (by decide) rfl rfl rfl ?_
        refine z_goto 7 dX8_worksOut_22 (by decide) ?_
        refine ih (j + 1) _ ((F.up (by decide)).up (by decide)) (fun i hi => by rw [zu_ne (by decide), zu_ne (by decide)]; exact e1 i hi) (by rw [zu_ne (by decide), zu_ne (by decide)]; exact e37) (fun P hP => ?_) (by omega) (by omega)
        by_cases e : P = j
        · subst e; rw [zu_at, zu_ne (by decide), zu_at]; exact ⟨rfl, rfl⟩
        · rw [zu_row, if_neg (by omega), zu_ne (by decide), zu_ne (by decide), zu_row, if_neg (by omega)]
          exact e2 P (by omega)
  refine zC_of (L := [(0, _), (1, _), (2, _)]) mk_X8_worksOut (Nat.le_of_ble_eq_true rfl) hg rfl (fun x => ?_)
  refine z_aload_n 0 dX8_worksOut_0 rfl rfl ?_
  refine z_iload_n 1 dX8_worksOut_1 rfl rfl ?_
  refine z_puti fp_RX8_253 (by decide) rfl rfl dX8_worksOut_2 ?_
  refine z_iconst dX8_worksOut_5 ?_
  refine z_istore_n (L' := [(0, _), (1, _), (2, _), (3, _)]) dX8_worksOut_6 rfl (by decide) rfl rfl ?_
  exact key1 x (2 ^ ls.length + 1) 0 _ (zF.rf.up (by decide)) (fun i hi => by rw [zu_row, if_neg hi]) (zu_at _ _ _ _) (fun P hP => absurd hP (by omega)) (by omega) (by omega)
