/-! the class: more calls -/
def bst (h : Hl) (v t : Nat) : Nat × Nat × Nat := fol h v t [] (0, 0, 0) (dfs h (hN h) (2 ^ hN h - 1))
def besS (h : Hl) (v a wh : Int) : Int := if vB h v = true ∧ tB h a = true ∧ 0 ≤ wh ∧ wh ≤ 2 then (if wh = 0 then ((bst h v.toNat a.toNat).1 : Int) else if wh = 1 then (rkN (bst h v.toNat a.toNat).2.2 (hN h) : Nat) else ((bst h v.toNat a.toNat).2.1 : Int)) else -1
theorem bst_ok {h : Hl} (w : Wf h) (v t : Nat) : BOk (bst h v t) (0 + (dfs h (hN h) (2 ^ hN h - 1)).length) := fol_ok w (fun m hm => by cases hm) _ _ _ (fun r hr m hm => by have := dfs_lt _ _ r hr m hm; have := w.2.2.1; omega) ⟨by decide, by decide, by decide⟩
theorem t_best (l : Launch) {g : zG} (hg : zAmOk g) {d : zD} {h : Hl} {ord : Nat → Nat} {tl : Nat} {tp : Nat → Nat} {fl : Int} (I : IC d h ord tl tp fl) {v a wh : Int} (hv : zin v) (ha : zin a) (hw : zin wh) : zC l g mX7_best 14 [zr g 0, zi v, zi a, zi wh] d (askQ d h ord tl tp fl (besS h v a wh)) := by
  obtain ⟨w, H, K, D, O, R, ho, i8⟩ := id I
  have hp9 := p512 w.2.2.2.1
  have w4 := w.2.2.2.1
  have h4 : d 2 4 = hV h := H.1.2.2.2.2.1
  refine zC_of (L := [(0, _), (1, _), (2, _), (3, _)]) mk_X7_best (Nat.le_of_ble_eq_true rfl) hg rfl (fun x => ?_)
  refine z_aload_n 0 dX7_best_0 rfl rfl ?_
  refine z_getr fl_RX7_16 (by decide) rfl rfl dX7_best_1 ?_
  refine z_iload_n 1 dX7_best_4 rfl rfl ?_
  refine z_cv (t_hasVoter_2 l hg d hv (by omega)) mk_X2_hasVoter mi_X2_hasVoter ml_RX7_97 (by omega) (by decide) rfl rfl rfl rfl (Nat.le_of_ble_eq_true rfl) dX7_best_5 (zpure ?_)
  refine z_if_eq_b 28 dX7_best_8 (by decide) (fun h_8 => ?_) (fun h_8 => ?_)
  · rw [h4] at h_8
    refine z_iconst dX7_best_28 ?_
    exact z_iret rfl dX7_best_29 (askQ.rf I (by rw [besS, if_neg (fun c => by have c2 := c.1; unfold vB at c2; rw [h_8] at c2; cases c2)]))
  · rw [h4] at h_8
    refine z_aload_n 0 dX7_best_11 rfl rfl ?_
    refine z_iload_n 2 dX7_best_12 rfl rfl ?_
    refine z_cv (t_areVoters l hg w H ha) mk_X7_areVoters mi_X7_areVoters ml_RX7_183 (by omega) (by decide) rfl rfl rfl rfl (Nat.le_of_ble_eq_true rfl) dX7_best_13 (zpure ?_)
    refine z_if_eq_b 28 dX7_best_16 (by decide) (fun h_16 => ?_) (fun h_16 => ?_)
    · refine z_iconst dX7_best_28 ?_
      exact z_iret rfl dX7_best_29 (askQ.rf I (by rw [besS, if_neg (fun c => by have c2 := c.2.1; unfold tB at c2; rw [h_16] at c2; cases c2)]))
    · refine z_iload_n 3 dX7_best_19 rfl rfl ?_
      refine z_if_lt 28 (by omega) dX7_best_20 (by decide) (fun h_20 => ?_) (fun h_20 => ?_)
      · refine z_iconst dX7_best_28 ?_
        exact z_iret rfl dX7_best_29 (askQ.rf I (by rw [besS, if_neg (fun c => by omega)]))
      · refine z_iload_n 3 dX7_best_23 rfl rfl ?_
        refine z_iconst dX7_best_24 ?_
        refine z_icmp_le 30 (by omega) (by omega) dX7_best_25 (by decide) (fun h_25 => ?_) (fun h_25 => ?_)
        · have h5 : 0 ≤ a ∧ a < ((2 ^ hV h : Nat) : Int) := of_decide_eq_true h_16
          have h6 : 0 ≤ v ∧ v < (hV h : Int) := of_decide_eq_true h_8
          obtain ⟨t, rfl⟩ := toN h5.1
          obtain ⟨k, rfl⟩ := toN h6.1
          have hc : vB h (k : Int) = true ∧ tB h (t : Int) = true ∧ 0 ≤ wh ∧ wh ≤ 2 := ⟨h_8, h_16, by omega, by omega⟩
          refine z_aload_n 0 dX7_best_30 rfl rfl ?_
          refine z_getr fl_RX7_62 (by decide) rfl rfl dX7_best_31 ?_
          refine z_iload_n 1 dX7_best_34 rfl rfl ?_
          refine z_iload_n 2 dX7_best_35 rfl rfl ?_
          refine z_cv (t_tryAll l hg w H K D (v := k) (t := t) (by omega) (by omega)) mk_X4_tryAll mi_X4_tryAll ml_RX7_204 (by omega) (by decide) rfl rfl rfl rfl (Nat.le_of_ble_eq_true rfl) dX7_best_36 (zvoid fun d_36 q_36 => ?_)
          obtain ⟨f1, s1, s2, s3, s4⟩ := q_36
          have H1 : HC 2 d_36 h := f1.HC (by decide) H
          refine z_iload_n 3 dX7_best_39 rfl rfl ?_
          refine z_if_ne 51 (by omega) dX7_best_40 (by decide) (fun h_40 => ?_) (fun h_40 => ?_)
          · refine z_iload_n 3 dX7_best_51 rfl rfl ?_
            refine z_iconst dX7_best_52 ?_
            refine z_icmp_ne 66 (by omega) (by omega) dX7_best_53 (by decide) (fun h_53 => ?_) (fun h_53 => ?_)
            · refine z_aload_n 0 dX7_best_66 rfl rfl ?_
              refine z_getr fl_RX7_62 (by decide) rfl rfl dX7_best_67 ?_
              refine z_geti fl_RX7_214 (by decide) rfl rfl dX7_best_70 ?_
              exact z_iret rfl dX7_best_73 (⟨by rw [besS, if_pos hc, if_neg h_40, if_neg h_53, s3]; rfl, CF.of f1 (by decide), I.of f1 (by decide)⟩)
            · refine z_aload_n 0 dX7_best_56 rfl rfl ?_
              refine z_getr fl_RX7_62 (by decide) rfl rfl dX7_best_57 ?_
              refine z_cv (t_bestRow l hg w H1 (key := (bst h k t).2.2) s4 (bst_ok w k t).2.2) mk_X4_bestRow mi_X4_bestRow ml_RX7_211 (by omega) (by decide) rfl rfl rfl rfl (Nat.le_of_ble_eq_true rfl) dX7_best_60 (zpure ?_)
              refine z_goto 73 dX7_best_63 (by decide) ?_
              exact z_iret rfl dX7_best_73 (⟨by rw [besS, if_pos hc, if_neg h_40, if_pos h_53]; rfl, CF.of f1 (by decide), I.of f1 (by decide)⟩)
          · refine z_aload_n 0 dX7_best_43 rfl rfl ?_
            refine z_getr fl_RX7_62 (by decide) rfl rfl dX7_best_44 ?_
            refine z_geti fl_RX7_208 (by decide) rfl rfl dX7_best_47 ?_
            exact z_iret rfl dX7_best_50 (⟨by rw [besS, if_pos hc, if_pos h_40, s2]; rfl, CF.of f1 (by decide), I.of f1 (by decide)⟩)
        · refine z_iconst dX7_best_28 ?_
          exact z_iret rfl dX7_best_29 (askQ.rf I (by rw [besS, if_neg (fun c => by omega)]))
def fB (a : Int) : Bool := decide (0 ≤ a ∧ a < 256)
def preS (h : Hl) (a b : Int) : Int := if fB a = true ∧ fB b = true then (prefF h a.toNat b.toNat : Nat) else -1
theorem t_prefers (l : Launch) {g : zG} (hg : zAmOk g) {d : zD} {h : Hl} {ord : Nat → Nat} {tl : Nat} {tp : Nat → Nat} {fl : Int} (I : IC d h ord tl tp fl) {a b : Int} (ha : zin a) (hb : zin b) : zC l g mX7_prefers 3 [zr g 0, zi a, zi b] d (askQ d h ord tl tp fl (preS h a b)) := by
  obtain ⟨w, H, K, D, O, R, ho, i8⟩ := id I
  refine zC_of (L := [(0, _), (1, _), (2, _)]) mk_X7_prefers (Nat.le_of_ble_eq_true rfl) hg rfl (fun x => ?_)
  refine z_iload_n 1 dX7_prefers_0 rfl rfl ?_
  refine z_cs (t_isForm l hg d ha) mk_X7_isForm ms_X7_isForm ml_RX7_167 (by omega) rfl rfl (Nat.le_of_ble_eq_true rfl) dX7_prefers_1 (zpure ?_)
  refine z_if_eq_b 26 dX7_prefers_4 (by decide) (fun h_4 => ?_) (fun h_4 => ?_)
  · refine z_iconst dX7_prefers_26 ?_
    exact z_iret rfl dX7_prefers_27 (askQ.rf I (by rw [preS, if_neg (fun c => by have c2 := c.1; unfold fB at c2; rw [h_4] at c2; cases c2)]))
  · refine z_iload_n 2 dX7_prefers_7 rfl rfl ?_
    refine z_cs (t_isForm l hg d hb) mk_X7_isForm ms_X7_isForm ml_RX7_167 (by omega) rfl rfl (Nat.le_of_ble_eq_true rfl) dX7_prefers_8 (zpure ?_)
    refine z_if_eq_b 26 dX7_prefers_11 (by decide) (fun h_11 => ?_) (fun h_11 => ?_)
    · refine z_iconst dX7_prefers_26 ?_
      exact z_iret rfl dX7_prefers_27 (askQ.rf I (by rw [preS, if_neg (fun c => by have c2 := c.2; unfold fB at c2; rw [h_11] at c2; cases c2)]))
    · have h5 : 0 ≤ a ∧ a < 256 := of_decide_eq_true h_4
      have h6 : 0 ≤ b ∧ b < 256 := of_decide_eq_true h_11
      obtain ⟨f, rfl⟩ := toN h5.1
      obtain ⟨o, rfl⟩ := toN h6.1
      refine z_aload_n 0 dX7_prefers_14 rfl rfl ?_
      refine z_getr fl_RX7_44 (by decide) rfl rfl dX7_prefers_15 ?_
      refine z_iload_n 1 dX7_prefers_18 rfl rfl ?_
      refine z_iload_n 2 dX7_prefers_19 rfl rfl ?_
      refine z_cv (t_countPreferring l hg w H K (f := f) (o := o) (by omega) (by omega)) mk_X5_countPreferring mi_X5_countPreferring ml_RX7_217 (by omega) (by decide) rfl rfl rfl rfl (Nat.le_of_ble_eq_true rfl) dX7_prefers_20 (zpure ?_)
      refine z_goto 27 dX7_prefers_23 (by decide) ?_
      exact z_iret rfl dX7_prefers_27 (askQ.rf I (by rw [preS, if_pos ⟨show fB (f : Int) = true from h_4, show fB (o : Int) = true from h_11⟩, Int.toNat_natCast, Int.toNat_natCast]))
def opnS (h : Hl) (a : Int) : Int := if 0 ≤ a ∧ a < ((openL h).length : Int) then (opG h a.toNat : Int) else -1
theorem t_open (l : Launch) {g : zG} (hg : zAmOk g) {d : zD} {h : Hl} {ord : Nat → Nat} {tl : Nat} {tp : Nat → Nat} {fl : Int} (I : IC d h ord tl tp fl) {a : Int} (ha : zin a) : zC l g mX7_open 1 [zr g 0, zi a] d (askQ d h ord tl tp fl (opnS h a)) := by
  obtain ⟨w, H, K, D, O, R, ho, i8⟩ := id I
  have hol2 : (openL h).length ≤ 65 := opL_len w 256
  refine zC_of (L := [(0, _), (1, _)]) mk_X7_open (Nat.le_of_ble_eq_true rfl) hg rfl (fun x => ?_)
  refine z_iload_n 1 dX7_open_0 rfl rfl ?_
  refine z_if_lt 27 (by omega) dX7_open_1 (by decide) (fun h_1 => ?_) (fun h_1 => ?_)
  · refine z_iconst dX7_open_27 ?_
    exact z_iret rfl dX7_open_28 (askQ.rf I (by rw [opnS, if_neg (by omega)]))
  · refine z_iload_n 1 dX7_open_4 rfl rfl ?_
    refine z_aload_n 0 dX7_open_5 rfl rfl ?_
    refine z_getr fl_RX7_69 (by decide) rfl rfl dX7_open_6 ?_
    refine z_geti fl_RX7_135 (by decide) rfl rfl dX7_open_9 ?_
    rw [O.1]
    refine z_icmp_ge 27 (by omega) (by omega) dX7_open_12 (by decide) (fun h_12 => ?_) (fun h_12 => ?_)
    · refine z_iconst dX7_open_27 ?_
      exact z_iret rfl dX7_open_28 (askQ.rf I (by rw [opnS, if_neg (by omega)]))
    · obtain ⟨k, rfl⟩ := toN h_1
      have e := O.2 k _ (opG_lt (show k < (openL h).length by omega)).2
      refine z_aload_n 0 dX7_open_15 rfl rfl ?_
      refine z_getr fl_RX7_69 (by decide) rfl rfl dX7_open_16 ?_
      refine z_getr fl_RX7_220 (by decide) rfl rfl dX7_open_19 ?_
      refine z_iload_n 1 dX7_open_22 rfl rfl ?_
      refine z_iald _ (by decide) rfl rfl (by omega) (by decide) dX7_open_23 ?_
      refine z_goto 28 dX7_open_24 (by decide) ?_
      exact z_iret rfl dX7_open_28 (askQ.rf I (by rw [opnS, if_pos ⟨by omega, by omega⟩, Int.toNat_natCast]; exact e))
noncomputable def winS (h : Hl) : Int := Classical.epsilon (fun v : Int => (∃ i, i < (openL h).length ∧ winB h i = true ∧ (∀ j, j < i → winB h j = false) ∧ v = (opG h i : Int)) ∨ ((∀ j, j < (openL h).length → winB h j = false) ∧ v = -1))
theorem winS_is {h : Hl} {v : Int} (hv : (∃ i, i < (openL h).length ∧ winB h i = true ∧ (∀ j, j < i → winB h j = false) ∧ v = (opG h i : Int)) ∨ ((∀ j, j < (openL h).length → winB h j = false) ∧ v = -1)) : v = winS h := by
  have h2 : (∃ i, i < (openL h).length ∧ winB h i = true ∧ (∀ j, j < i → winB h j = false) ∧ winS h = (opG h i : Int)) ∨ ((∀ j, j < (openL h).length → winB h j = false) ∧ winS h = -1) := Classical.epsilon_spec (p := fun v : Int => (∃ i, i < (openL h).length ∧ winB h i = true ∧ (∀ j, j < i → winB h j = false) ∧ v = (opG h i : Int)) ∨ ((∀ j, j < (openL h).length → winB h j = false) ∧ v = -1)) ⟨v, hv⟩
  rcases hv with ⟨i, a1, a2, a3, a4⟩ | ⟨a1, a2⟩ <;> rcases h2 with ⟨k, b1, b2, b3, b4⟩ | ⟨b1, b2⟩
  · rcases Nat.lt_trichotomy i k with e | e | e
    · rw [b3 i e] at a2; cases a2
    · rw [a4, b4, e]
    · rw [a3 k e] at b2; cases b2
  · rw [b1 i a1] at a2; cases a2
  · rw [a1 k b1] at b2; cases b2
  · rw [a2, b2]
theorem IC.know {d d' : zD} {h : Hl} {ord : Nat → Nat} {tl : Nat} {tp : Nat → Nat} {fl : Int} (I : IC d h ord tl tp fl) (e : zF [32, 35, 36] d d') (O : OP d' h) (h7 : d' 32 7 = 1) (B : BKn d' h) : IC d' h ord tl tp fl := by
  obtain ⟨i1, i2, i3, i4, i5, i6, i7, i8, ⟨j1, j2, j3⟩, j4⟩ := I
  exact ⟨i1, e.HC (by decide) i2, i3.of (e 25 (by decide)), i4.of (e 27 (by decide)), O, fun i hi => by rw [e 22 (by decide)]; exact i6 i hi, i7, ⟨true, h7, fun _ => B⟩, ⟨by rw [e 0 (by decide)]; exact j1, j2, fun i hi => by rw [e 1 (by decide)]; exact j3 i hi⟩, by rw [e 0 (by decide)]; exact j4⟩
theorem t_winner (l : Launch) {g : zG} (hg : zAmOk g) {d : zD} {h : Hl} {ord : Nat → Nat} {tl : Nat} {tp : Nat → Nat} {fl : Int} (I : IC d h ord tl tp fl) : zC l g mX7_winner 6 [zr g 0] d (askQ d h ord tl tp fl (winS h)) := by
  obtain ⟨w, H, K, D, O, R, ho, ⟨b, i8, i9⟩, i10⟩ := id I
  refine zC_of (L := [(0, _)]) mk_X7_winner (Nat.le_of_ble_eq_true rfl) hg rfl (fun x => ?_)
  refine z_aload_n 0 dX7_winner_0 rfl rfl ?_
  refine z_getr fl_RX7_69 (by decide) rfl rfl dX7_winner_1 ?_
  refine z_cv (t_learnBeaten l hg w H K O i8 i9) mk_X1_learnBeaten mi_X1_learnBeaten ml_RX7_223 (by omega) (by decide) rfl rfl rfl rfl (Nat.le_of_ble_eq_true rfl) dX7_winner_4 (zvoid fun d_4 q_4 => ?_)
  obtain ⟨f1, O1, f2, B1⟩ := q_4
  refine z_aload_n 0 dX7_winner_7 rfl rfl ?_
  refine z_getr fl_RX7_69 (by decide) rfl rfl dX7_winner_8 ?_
  refine z_cv (t_findWinner l hg w O1 B1.1) mk_X1_findWinner mi_X1_findWinner ml_RX7_226 (by omega) (by decide) rfl rfl rfl rfl (Nat.le_of_ble_eq_true rfl) dX7_winner_11 (fun r_11 d_11 q_11 => ?_)
  obtain ⟨q1, rfl⟩ := q_11
  have hr : r_11 = some (zi (winS h)) := by rcases q1 with ⟨i, a1, a2, a3, rfl⟩ | ⟨a1, rfl⟩; exact congrArg (fun v => some (zi v)) (winS_is (Or.inl ⟨i, a1, a2, a3, rfl⟩)); exact congrArg (fun v => some (zi v)) (winS_is (Or.inr ⟨a1, rfl⟩))
  subst hr
  show zV l x g mX7_winner 6 _ _ _ [_] _
  exact z_iret rfl dX7_winner_14 (⟨rfl, CF.of f1 (by decide), I.know f1 O1 f2 B1⟩)
/-- a set of open forms, by index, each of which beats each of the others -/
def domS (h : Hl) (P : Nat → Prop) : Prop := (∃ a, a < (openL h).length ∧ P a) ∧ ∀ a b, a < (openL h).length → b < (openL h).length → P a → ¬ P b → mtx h a b = true
def inTop (h : Hl) (i : Nat) : Prop := ∀ P, domS h P → P i
noncomputable def topB (h : Hl) (i : Nat) : Bool := @decide (inTop h i) (Classical.propDecidable _)
theorem cntB_mono {f g : Nat → Bool} : ∀ k, (∀ j, j < k → f j = true → g j = true) → cntB f k ≤ cntB g k
  | 0, _ => Nat.le_refl _
  | k + 1, h => by
    have ih := cntB_mono k (fun j hj => h j (by omega))
    rw [cntB, cntB]
    by_cases e : f k = true
    · rw [if_pos e, if_pos (h k (by omega) e)]; omega
    · rw [if_neg e]; split <;> omega
theorem cntB_lt {f g : Nat → Bool} : ∀ {k j : Nat}, (∀ j, j < k → f j = true → g j = true) → j < k → f j = false → g j = true → cntB f k < cntB g k
  | 0, j, _, hj, _, _ => absurd hj (by omega)
  | k + 1, j, h, hj, h1, h2 => by
    rw [cntB, cntB]
    by_cases e : j = k
    · subst e
      have := cntB_mono j (fun i hi => h i (by omega))
      rw [if_neg (by rw [h1]; decide), if_pos h2]; omega
    · have := cntB_lt (k := k) (j := j) (fun i hi => h i (by omega)) (by omega) h1 h2
      by_cases e2 : f k = true
      · rw [if_pos e2, if_pos (h k (by omega) e2)]; omega
      · rw [if_neg e2]; split <;> omega
theorem mtx_asym {h : Hl} {a b : Nat} (hm : mtx h a b = true) : mtx h b a = false := by
  unfold mtx at *
  rw [Bool.and_eq_true, Bool.and_eq_true] at hm
  rw [btF_asym hm.2.2, Bool.and_false, Bool.and_false]
theorem mtx_in {h : Hl} {a b : Nat} (hm : mtx h a b = true) : a < (openL h).length ∧ b < (openL h).length := by
  unfold mtx at hm
  rw [Bool.and_eq_true, Bool.and_eq_true, decide_eq_true_eq, decide_eq_true_eq] at hm
  exact ⟨hm.1, hm.2.1⟩
theorem top_clo {h : Hl} (w : Wf h) {c i : Nat} (hc : c < (openL h).length) (hm : ∀ i, i < (openL h).length → cntB (mtx h i) 96 ≤ cntB (mtx h c) 96) (hi : i < (openL h).length) : clo (mtx h) (openL h).length c i ↔ inTop h i := by
  have hol2 : (openL h).length ≤ 65 := opL_len w 256
  constructor
  · intro hcl P hP
    have hcP : P c := Classical.byContradiction fun z => by
      obtain ⟨⟨a, ha, haP⟩, h2⟩ := hP
      have h3 : cntB (mtx h c) 96 < cntB (mtx h a) 96 := by
        refine cntB_lt (j := c) (fun j hj hcj => ?_) (by omega) ?_ (h2 a c ha hc haP z)
        · obtain ⟨-, hjl⟩ := mtx_in hcj
          refine h2 a j ha hjl haP (fun hjP => ?_)
          have := mtx_asym (h2 j c hjl hc hjP z)
          rw [this] at hcj; cases hcj
        · unfold mtx; rw [btF_irr, Bool.and_false, Bool.and_false]
      have := hm a ha
      omega
    exact (hcl (fun x => x < (openL h).length ∧ P x) ⟨hc, hcP⟩ (fun a j ⟨ha, haP⟩ hj hmf => ⟨hj, Classical.byContradiction fun z => by rw [hP.2 a j ha hj haP z] at hmf; cases hmf⟩)).2
  · intro ht
    refine ht _ ⟨⟨c, hc, clo.rf⟩, fun a b ha hb hca hcb => ?_⟩
    cases hx : mtx h a b with
    | true => rfl
    | false => exact absurd (hca.st hb hx) hcb
noncomputable def staS (h : Hl) (a wh : Int) : Int := if (∃ f ∈ openL h, (f : Int) = a) ∧ 0 ≤ wh ∧ wh ≤ 2 then (if wh = 0 then zb (topB h ((openL h).idxOf a.toNat)) else if wh = 1 then zb (covN h ((openL h).idxOf a.toNat) (openL h).length) else (cntB (mtx h ((openL h).idxOf a.toNat)) 96 : Nat)) else -1
theorem openL_nodup (h : Hl) : (openL h).Nodup := opL_nodup h 256
theorem idx_of {h : Hl} {i f : Nat} (hf : (openL h)[i]? = some f) : (openL h).idxOf f = i := by
  obtain ⟨hl, he⟩ := List.getElem?_eq_some_iff.mp hf
  rw [← he]
  exact (openL_nodup h).idxOf_getElem i hl
theorem t_standing (l : Launch) {g : zG} (hg : zAmOk g) {d : zD} {h : Hl} {ord : Nat → Nat} {tl : Nat} {tp : Nat → Nat} {fl : Int} (I : IC d h ord tl tp fl) {a wh : Int} (ha : zin a) (hw : zin wh) : zC l g mX7_standing 6 [zr g 0, zi a, zi wh] d (askQ d h ord tl tp fl (staS h a wh)) := by
  obtain ⟨w, H, K, D, O, R, ho, ⟨b, i8, i9⟩, i10⟩ := id I
  have hol2 : (openL h).length ≤ 65 := opL_len w 256
  refine zC_of (L := [(0, _), (1, _), (2, _)]) mk_X7_standing (Nat.le_of_ble_eq_true rfl) hg rfl (fun x => ?_)
  refine z_aload_n 0 dX7_standing_0 rfl rfl ?_
  refine z_getr fl_RX7_69 (by decide) rfl rfl dX7_standing_1 ?_
  refine z_iload_n 1 dX7_standing_4 rfl rfl ?_
  refine z_cv (t_indexOf l hg w O ha) mk_X1_indexOf mi_X1_indexOf ml_RX7_229 (by omega) (by decide) rfl rfl rfl rfl (Nat.le_of_ble_eq_true rfl) dX7_standing_5 (fun r_5 d_5 q_5 => ?_)
  obtain ⟨q1, rfl⟩ := q_5
  rcases q1 with ⟨i, a1, a2, rfl⟩ | ⟨a1, rfl⟩
  rotate_left
  · show zV l x g mX7_standing 6 _ _ _ (zi (-1) :: []) _
    refine z_istore_n (L' := [(0, _), (1, _), (2, _), (3, _)]) dX7_standing_8 rfl (by decide) rfl rfl ?_
    refine z_iload_n 3 dX7_standing_9 rfl rfl ?_
    refine z_iconst dX7_standing_10 ?_
    refine z_icmp_ne 16 (by decide) (by decide) dX7_standing_11 (by decide) (fun hh => absurd rfl hh) (fun _ => ?_)
    refine z_iconst dX7_standing_14 ?_
    exact z_iret rfl dX7_standing_15 (askQ.rf I (by rw [staS, if_neg (fun c => by obtain ⟨⟨f, hf, e⟩, -⟩ := c; exact a1 f hf e)]))
  have hil := (List.getElem?_eq_some_iff.mp a1).1
  have hix := idx_of a1
  have hex : ∃ f ∈ openL h, (f : Int) = a := ⟨a.toNat, List.mem_of_getElem? a1, by omega⟩
  show zV l x g mX7_standing 6 _ _ _ (zi (i : Int) :: []) _
  refine z_istore_n (L' := [(0, _), (1, _), (2, _), (3, _)]) dX7_standing_8 rfl (by decide) rfl rfl ?_
  refine z_iload_n 3 dX7_standing_9 rfl rfl ?_
  refine z_iconst dX7_standing_10 ?_
  refine z_icmp_ne 16 (by omega) (by omega) dX7_standing_11 (by decide) (fun h_11 => ?_) (fun h_11 => absurd h_11 (by omega))
  refine z_aload_n 0 dX7_standing_16 rfl rfl ?_
  refine z_getr fl_RX7_69 (by decide) rfl rfl dX7_standing_17 ?_
  refine z_cv (t_learnBeaten l hg w H K O i8 i9) mk_X1_learnBeaten mi_X1_learnBeaten ml_RX7_223 (by omega) (by decide) rfl rfl rfl rfl (Nat.le_of_ble_eq_true rfl) dX7_standing_20 (zvoid fun d_20 q_20 => ?_)
  obtain ⟨f1, O1, f2, B1⟩ := q_20
  have I1 := I.know f1 O1 f2 B1
  obtain ⟨T, c, t1, t2, t3, t4⟩ := B1.2
  have htl := t2.len
  refine z_iload_n 2 dX7_standing_23 rfl rfl ?_
  by_cases hwr : 0 ≤ wh ∧ wh ≤ 2
  · rcases (show wh = 0 ∨ wh = 1 ∨ wh = 2 by omega) with rfl | rfl | rfl
    · refine z_tabIn 52 0 rfl (by decide) (by decide) (by decide) rfl (by decide) dX7_standing_24 ?_
      refine z_aload_n 0 dX7_standing_52 rfl rfl ?_
      refine z_getr fl_RX7_69 (by decide) rfl rfl dX7_standing_53 ?_
      refine z_iload_n 3 dX7_standing_56 rfl rfl ?_
      refine z_cv (t_isOfTop l hg t1 (by omega) (fun b hb => by have := (t2.2.2.1 b hb).1; omega) (i := i) (by omega)) mk_X1_isOfTop mi_X1_isOfTop ml_RX7_232 (by omega) (by decide) rfl rfl rfl rfl (Nat.le_of_ble_eq_true rfl) dX7_standing_57 (zpure ?_)
      refine z_if_eq_b 67 dX7_standing_60 (by decide) (fun h_60 => ?_) (fun h_60 => ?_)
      · refine z_iconst dX7_standing_67 ?_
        have et : decide (i ∈ T) = topB h i := by unfold topB; exact decide_eq_decide.mpr (Iff.trans (t2.fin (Nat.le_refl _) i) (top_clo w t3 t4 hil))
        exact z_iret rfl dX7_standing_68 (⟨by rw [staS, if_pos ⟨hex, by decide, by decide⟩, if_pos rfl, hix, ← et, h_60]; rfl, CF.of f1 (by decide), I1⟩)
      · refine z_iconst dX7_standing_63 ?_
        refine z_goto 68 dX7_standing_64 (by decide) ?_
        have et : decide (i ∈ T) = topB h i := by unfold topB; exact decide_eq_decide.mpr (Iff.trans (t2.fin (Nat.le_refl _) i) (top_clo w t3 t4 hil))
        exact z_iret rfl dX7_standing_68 (⟨by rw [staS, if_pos ⟨hex, by decide, by decide⟩, if_pos rfl, hix, ← et, h_60]; rfl, CF.of f1 (by decide), I1⟩)
    · refine z_tabIn 69 1 rfl (by decide) (by decide) (by decide) rfl (by decide) dX7_standing_24 ?_
      refine z_aload_n 0 dX7_standing_69 rfl rfl ?_
      refine z_getr fl_RX7_69 (by decide) rfl rfl dX7_standing_70 ?_
      refine z_iload_n 3 dX7_standing_73 rfl rfl ?_
      refine z_cv (t_isCovered l hg w O1 B1.1 hil) mk_X1_isCovered mi_X1_isCovered ml_RX7_235 (by omega) (by decide) rfl rfl rfl rfl (Nat.le_of_ble_eq_true rfl) dX7_standing_74 (zpure ?_)
      refine z_if_eq_b 84 dX7_standing_77 (by decide) (fun h_77 => ?_) (fun h_77 => ?_)
      · refine z_iconst dX7_standing_84 ?_
        exact z_iret rfl dX7_standing_85 (⟨by rw [staS, if_pos ⟨hex, by decide, by decide⟩, if_neg (by decide), if_pos rfl, hix, h_77]; rfl, CF.of f1 (by decide), I1⟩)
      · refine z_iconst dX7_standing_80 ?_
        refine z_goto 85 dX7_standing_81 (by decide) ?_
        exact z_iret rfl dX7_standing_85 (⟨by rw [staS, if_pos ⟨hex, by decide, by decide⟩, if_neg (by decide), if_pos rfl, hix, h_77]; rfl, CF.of f1 (by decide), I1⟩)
    · refine z_tabIn 86 2 rfl (by decide) (by decide) (by decide) rfl (by decide) dX7_standing_24 ?_
      refine z_aload_n 0 dX7_standing_86 rfl rfl ?_
      refine z_getr fl_RX7_69 (by decide) rfl rfl dX7_standing_87 ?_
      refine z_iload_n 3 dX7_standing_90 rfl rfl ?_
      refine z_cv (t_countBeaten l hg B1.1 (i := i) (by omega)) mk_X1_countBeaten mi_X1_countBeaten ml_RX7_238 (by omega) (by decide) rfl rfl rfl rfl (Nat.le_of_ble_eq_true rfl) dX7_standing_91 (zpure ?_)
      exact z_iret rfl dX7_standing_94 (⟨by rw [staS, if_pos ⟨hex, by decide, by decide⟩, if_neg (by decide), if_neg (by decide), hix], CF.of f1 (by decide), I1⟩)
  · refine z_tabOut 95 hw (by omega) (by decide) dX7_standing_24 ?_
    refine z_iconst dX7_standing_95 ?_
    exact z_iret rfl dX7_standing_96 (⟨by rw [staS, if_neg (fun c => hwr c.2)], CF.of f1 (by decide), I1⟩)
