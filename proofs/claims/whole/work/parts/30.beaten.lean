/-! forms against one another: Contest, who beats whom -/
def btF (h : Hl) (f o : Nat) : Bool := decide (prefF h o f < prefF h f o)
/-- the class's bits of a matrix -/
def BM (d : zD) (M : Nat → Nat → Bool) : Prop := ∀ i w, i < 65 → w < 3 → ∃ W : Nat, d 35 (3 * i + w) = W ∧ W < 4294967296 ∧ ∀ b, b < 32 → W.testBit b = M i (32 * w + b)
theorem BM.of {d d' : zD} {M : Nat → Nat → Bool} (H : BM d M) (e : d' 35 = d 35) : BM d' M := fun i w hi hw => by rw [e]; exact H i w hi hw
theorem BM.congr {d : zD} {M M' : Nat → Nat → Bool} (H : BM d M) (e : ∀ i j, i < 65 → j < 96 → M i j = M' i j) : BM d M' := fun i w hi hw => by
  obtain ⟨W, h1, h2, h3⟩ := H i w hi hw
  exact ⟨W, h1, h2, fun b hb => by rw [h3 b hb, e i _ hi (by omega)]⟩
theorem t_markBeaten (l : Launch) {g : zG} (hg : zAmOk g) {d : zD} {M : Nat → Nat → Bool} (B : BM d M) {i j : Nat} (hi : i < 65) (hj : j < 65) : zC l g mX1_markBeaten 1 [zr g 32, zi (i : Int), zi (j : Int)] d (fun r d' => r = none ∧ (zF [35] d d' ∧ BM d' (fun a b => M a b || (decide (i = a) && decide (j = b))))) := by
  obtain ⟨W, m1, m2, m3⟩ := B i (j / 32) hi (by omega)
  have hpw : 2 ^ (j % 32) ≤ 2147483648 := Nat.pow_le_pow_right (n := 2) (by decide) (show j % 32 ≤ 31 by omega)
  refine zC_of (L := [(0, _), (1, _), (2, _)]) mk_X1_markBeaten (Nat.le_of_ble_eq_true rfl) hg rfl (fun x => ?_)
  refine z_aload_n 0 dX1_markBeaten_0 rfl rfl ?_
  refine z_getr fl_RX1_18 (by decide) rfl rfl dX1_markBeaten_1 ?_
  refine z_iload_n 1 dX1_markBeaten_4 rfl rfl ?_
  refine z_iconst dX1_markBeaten_5 ?_
  refine z_imul dX1_markBeaten_6 ?_
  refine z_iload_n 2 dX1_markBeaten_7 rfl rfl ?_
  refine z_bipush dX1_markBeaten_8 (by decide) ?_
  refine z_idiv ((j / 32 : Nat) : Int) (by decide) (zdiv (a := j) (b := 32) (by omega) (by decide) (by decide)) dX1_markBeaten_10 ?_
  refine z_iadd dX1_markBeaten_11 ?_
  refine z_dup2 dX1_markBeaten_12 rfl rfl ?_
  refine z_iald (3 * i + j / 32) (by decide) rfl (by omega) (by omega) (by decide) dX1_markBeaten_13 ?_
  rw [m1]
  refine z_iconst dX1_markBeaten_14 ?_
  refine z_iload_n 2 dX1_markBeaten_15 rfl rfl ?_
  refine z_bipush dX1_markBeaten_16 (by decide) ?_
  refine z_irem ((j % 32 : Nat) : Int) (by decide) (zrem (a := j) (b := 32) (by omega) (by decide) (by decide)) dX1_markBeaten_18 ?_
  refine z_ishl _ (zshl (s := 1) (m := j % 32) (by omega) (by omega)) dX1_markBeaten_19 ?_
  rw [Nat.one_mul]
  refine z_ior _ (zor _ _) dX1_markBeaten_20 ?_
  refine z_iast (3 * i + j / 32) (by decide) rfl (by omega) (by omega) (by decide) dX1_markBeaten_21 ?_
  have hB : BM (zu d 35 (3 * i + j / 32) ((W ||| 2 ^ (j % 32) : Nat) : Int)) (fun a b => M a b || (decide (i = a) && decide (j = b))) := by
    intro a w ha hw
    obtain ⟨V, q1, q2, q3⟩ := B a w ha hw
    rw [zu_row]
    by_cases e : 3 * a + w = 3 * i + j / 32
    · have e1 : a = i := by omega
      have e2 : w = j / 32 := by omega
      subst e1; subst e2
      rw [if_pos rfl]
      have e3 : V = W := by omega
      subst e3
      refine ⟨_, rfl, or_lt (k := 32) q2 (Nat.pow_lt_pow_right (by decide) (Nat.mod_lt _ (by decide))), fun b hb => ?_⟩
      show _ = (M a (32 * (j / 32) + b) || (decide (a = a) && decide (j = 32 * (j / 32) + b)))
      rw [or_bit1, q3 b hb, decide_eq_true rfl, Bool.true_and]
      congr 1
      exact decide_eq_decide.mpr (by omega)
    · rw [if_neg e]
      refine ⟨V, q1, q2, fun b hb => ?_⟩
      show _ = (M a (32 * w + b) || (decide (i = a) && decide (j = 32 * w + b)))
      rw [q3 b hb]
      by_cases e1 : i = a
      · rw [decide_eq_false (show ¬ j = 32 * w + b by omega), Bool.and_false, Bool.or_false]
      · rw [decide_eq_false e1, Bool.false_and, Bool.or_false]
  exact z_vret rfl dX1_markBeaten_22 (⟨rfl, zF.rf.up (by decide), hB⟩)
theorem t_isBeaten (l : Launch) {g : zG} (hg : zAmOk g) {d : zD} {M : Nat → Nat → Bool} (B : BM d M) {i j : Nat} (hi : i < 65) (hj : j < 65) : zC l g mX1_isBeaten 2 [zr g 32, zi (i : Int), zi (j : Int)] d (zpu (zi (zb (M i j))) d) := by
  obtain ⟨W, m1, m2, m3⟩ := B i (j / 32) hi (by omega)
  have m4 := m3 (j % 32) (Nat.mod_lt _ (by decide))
  rw [show 32 * (j / 32) + j % 32 = j by omega] at m4
  refine zC_of (L := [(0, _), (1, _), (2, _)]) mk_X1_isBeaten (Nat.le_of_ble_eq_true rfl) hg rfl (fun x => ?_)
  refine z_iload_n 2 dX1_isBeaten_0 rfl rfl ?_
  refine z_bipush dX1_isBeaten_1 (by decide) ?_
  refine z_irem ((j % 32 : Nat) : Int) (by decide) (zrem (a := j) (b := 32) (by omega) (by decide) (by decide)) dX1_isBeaten_3 ?_
  refine z_aload_n 0 dX1_isBeaten_4 rfl rfl ?_
  refine z_getr fl_RX1_18 (by decide) rfl rfl dX1_isBeaten_5 ?_
  refine z_iload_n 1 dX1_isBeaten_8 rfl rfl ?_
  refine z_iconst dX1_isBeaten_9 ?_
  refine z_imul dX1_isBeaten_10 ?_
  refine z_iload_n 2 dX1_isBeaten_11 rfl rfl ?_
  refine z_bipush dX1_isBeaten_12 (by decide) ?_
  refine z_idiv ((j / 32 : Nat) : Int) (by decide) (zdiv (a := j) (b := 32) (by omega) (by decide) (by decide)) dX1_isBeaten_14 ?_
  refine z_iadd dX1_isBeaten_15 ?_
  refine z_iald (3 * i + j / 32) (by decide) rfl (by omega) (by omega) (by decide) dX1_isBeaten_16 ?_
  rw [m1]
  refine z_cs (t_isInU l hg d (m := j % 32) (s := W) (by omega)) mk_X7_isIn ms_X7_isIn ml_RX1_56 (by omega) rfl rfl (Nat.le_of_ble_eq_true rfl) dX1_isBeaten_17 (zpure ?_)
  exact z_bret rfl dX1_isBeaten_20 (zret_b m4)
def cntB (f : Nat → Bool) : Nat → Nat
  | 0 => 0
  | k + 1 => cntB f k + (if f k = true then 1 else 0)
theorem cntB_w {f : Nat → Bool} {W w : Nat} (h : ∀ b, b < 32 → W.testBit b = f (32 * w + b)) : ∀ k, k ≤ 32 → cntB f (32 * w + k) = cntB f (32 * w) + pcN W k
  | 0, _ => rfl
  | k + 1, hk => by rw [← Nat.add_assoc, cntB, cntB_w h k (by omega), pcN, h k (by omega)]; omega
theorem cntB_le (f : Nat → Bool) : ∀ k, cntB f k ≤ k
  | 0 => Nat.le_refl _
  | k + 1 => by have := cntB_le f k; rw [cntB]; split <;> omega
theorem lp_countBeaten {l : Launch} {x : zX} {g : zG} {n : Nat} {Q : Option Value → zD → Prop} {d : zD} {M : Nat → Nat → Bool} {i : Nat} (hg : zAmOk g) (B : BM d M) (hi : i < 65) (hn : 1 < n) (hQ : Q (some (zi (cntB (M i) 96 : Nat))) d) : ∀ r k, k ≤ 3 → 3 - k < r → zV l x g mX1_countBeaten n Q 4 [(0, zr g 32), (1, zi (i : Int)), (2, zi (cntB (M i) (32 * k) : Nat)), (3, zi (k : Int))] [] d := by
  intro r
  induction r with
  | zero => intro k hk hr; omega
  | succ r ih =>
    intro k hk hr
    refine z_iload_n 3 dX1_countBeaten_4 rfl rfl ?_
    refine z_iconst dX1_countBeaten_5 ?_
    refine z_icmp_ge 31 (by omega) (by omega) dX1_countBeaten_6 (by decide) (fun h_6 => ?_) (fun h_6 => ?_)
    · rw [show 32 * k = 96 by omega]
      refine z_iload_n 2 dX1_countBeaten_31 rfl rfl ?_
      exact z_iret rfl dX1_countBeaten_32 (hQ)
    · obtain ⟨W, m1, m2, m3⟩ := B i k hi (by omega)
      have e := cntB_w m3 32 (Nat.le_refl _)
      refine z_iload_n 2 dX1_countBeaten_9 rfl rfl ?_
      refine z_aload_n 0 dX1_countBeaten_10 rfl rfl ?_
      refine z_getr fl_RX1_18 (by decide) rfl rfl dX1_countBeaten_11 ?_
      refine z_iload_n 1 dX1_countBeaten_14 rfl rfl ?_
      refine z_iconst dX1_countBeaten_15 ?_
      refine z_imul dX1_countBeaten_16 ?_
      refine z_iload_n 3 dX1_countBeaten_17 rfl rfl ?_
      refine z_iadd dX1_countBeaten_18 ?_
      refine z_iald (3 * i + k) (by decide) rfl (by omega) (by omega) (by decide) dX1_countBeaten_19 ?_
      rw [m1]
      refine z_cs (t_bitCount l hg d (a := W) m2) mk_J6_bitCount_0f7a4 ms_J6_bitCount_0f7a4 ml_RX1_83 (by omega) rfl rfl (Nat.le_of_ble_eq_true rfl) dX1_countBeaten_20 (zpure ?_)
      refine z_iadd dX1_countBeaten_23 ?_
      refine z_istore_n (L' := [(0, _), (1, _), (2, _), (3, _)]) dX1_countBeaten_24 rfl (by decide) rfl rfl ?_
      refine z_iinc 3 (L' := [(0, _), (1, _), (2, _), (3, _)]) dX1_countBeaten_25 (by decide) rfl rfl rfl ?_
      refine z_goto 4 dX1_countBeaten_28 (by decide) ?_
      refine z_LL _ ?_ (ih (k + 1) (by omega) (by omega))
      rw [show 32 * (k + 1) = 32 * k + 32 by omega, e]; rfl
theorem t_countBeaten (l : Launch) {g : zG} (hg : zAmOk g) {d : zD} {M : Nat → Nat → Bool} (B : BM d M) {i : Nat} (hi : i < 65) : zC l g mX1_countBeaten 2 [zr g 32, zi (i : Int)] d (zpu (zi (cntB (M i) 96 : Nat)) d) := by
  refine zC_of (L := [(0, _), (1, _)]) mk_X1_countBeaten (Nat.le_of_ble_eq_true rfl) hg rfl (fun x => ?_)
  refine z_iconst dX1_countBeaten_0 ?_
  refine z_istore_n (L' := [(0, _), (1, _), (2, _)]) dX1_countBeaten_1 rfl (by decide) rfl rfl ?_
  refine z_iconst dX1_countBeaten_2 ?_
  refine z_istore_n (L' := [(0, _), (1, _), (2, _), (3, _)]) dX1_countBeaten_3 rfl (by decide) rfl rfl ?_
  exact lp_countBeaten hg B hi (by omega) ⟨rfl, rfl⟩ 4 0 (by omega) (by omega)
def allB (f g : Nat → Bool) (k : Nat) : Bool := (List.range k).all (fun j => !f j || g j)
theorem allB_iff {f g : Nat → Bool} {k : Nat} : allB f g k = true ↔ ∀ j, j < k → f j = true → g j = true := by
  unfold allB
  rw [List.all_eq_true]
  constructor
  · intro h j hj hf
    have := h j (List.mem_range.mpr hj)
    rw [hf] at this
    simpa using this
  · intro h j hj
    cases hf : f j
    · rfl
    · rw [h j (List.mem_range.mp hj) hf]; rfl
theorem lp_beatsAllOf {l : Launch} {x : zX} {g : zG} {n : Nat} {Q : Option Value → zD → Prop} {d : zD} {M : Nat → Nat → Bool} {i j : Nat} (hg : zAmOk g) (B : BM d M) (hi : i < 65) (hj : j < 65) (hQ : Q (some (zi (zb (allB (M j) (M i) 96)))) d) : ∀ r k : Nat, (∀ b, b < 32 * k → M j b = true → M i b = true) → k ≤ 3 → 3 - k < r → zV l x g mX1_beatsAllOf n Q 2 [(0, zr g 32), (1, zi (i : Int)), (2, zi (j : Int)), (3, zi (k : Int))] [] d := by
  intro r
  induction r with
  | zero => intro k hd hk hr; omega
  | succ r ih =>
    intro k hd hk hr
    refine z_iload_n 3 dX1_beatsAllOf_2 rfl rfl ?_
    refine z_iconst dX1_beatsAllOf_3 ?_
    refine z_icmp_ge 41 (by omega) (by omega) dX1_beatsAllOf_4 (by decide) (fun h_4 => ?_) (fun h_4 => ?_)
    · refine z_iconst dX1_beatsAllOf_41 ?_
      exact z_bret (b := true) rfl dX1_beatsAllOf_42 ((show allB (M j) (M i) 96 = true from allB_iff.mpr (fun b hb => hd b (by omega))) ▸ hQ)
    · obtain ⟨W, m1, m2, m3⟩ := B i k hi (by omega)
      obtain ⟨V, p1, p2, p3⟩ := B j k hj (by omega)
      have hnl : nd V W < 4294967296 := nd_lt (k := 32) p2
      refine z_aload_n 0 dX1_beatsAllOf_7 rfl rfl ?_
      refine z_getr fl_RX1_18 (by decide) rfl rfl dX1_beatsAllOf_8 ?_
      refine z_iload_n 2 dX1_beatsAllOf_11 rfl rfl ?_
      refine z_iconst dX1_beatsAllOf_12 ?_
      refine z_imul dX1_beatsAllOf_13 ?_
      refine z_iload_n 3 dX1_beatsAllOf_14 rfl rfl ?_
      refine z_iadd dX1_beatsAllOf_15 ?_
      refine z_iald (3 * j + k) (by decide) rfl (by omega) (by omega) (by decide) dX1_beatsAllOf_16 ?_
      rw [p1]
      refine z_aload_n 0 dX1_beatsAllOf_17 rfl rfl ?_
      refine z_getr fl_RX1_18 (by decide) rfl rfl dX1_beatsAllOf_18 ?_
      refine z_iload_n 1 dX1_beatsAllOf_21 rfl rfl ?_
      refine z_iconst dX1_beatsAllOf_22 ?_
      refine z_imul dX1_beatsAllOf_23 ?_
      refine z_iload_n 3 dX1_beatsAllOf_24 rfl rfl ?_
      refine z_iadd dX1_beatsAllOf_25 ?_
      refine z_iald (3 * i + k) (by decide) rfl (by omega) (by omega) (by decide) dX1_beatsAllOf_26 ?_
      rw [m1]
      refine z_iconst dX1_beatsAllOf_27 ?_
      refine z_ixor _ (zxorm _) dX1_beatsAllOf_28 ?_
      refine z_iand _ zandm dX1_beatsAllOf_29 ?_
      refine z_if_eq_u 35 hnl dX1_beatsAllOf_30 (by decide) (fun h_30 => ?_) (fun h_30 => ?_)
      · skip
        refine z_iinc 3 (L' := [(0, _), (1, _), (2, _), (3, _)]) dX1_beatsAllOf_35 (by decide) rfl rfl rfl ?_
        refine z_goto 2 dX1_beatsAllOf_38 (by decide) ?_
        refine ih (k + 1) (fun b hb hm => ?_) (by omega) (by omega)
        by_cases e : b < 32 * k
        · exact hd b e hm
        · have e2 : b = 32 * k + (b - 32 * k) := by omega
          rw [e2] at hm ⊢
          rw [← m3 _ (by omega)]
          rw [← p3 _ (by omega)] at hm
          exact SB_nd.mpr h_30 _ hm
      · skip
        refine z_iconst dX1_beatsAllOf_33 ?_
        have hno : allB (M j) (M i) 96 = false := by
          cases hc : allB (M j) (M i) 96 with
          | false => rfl
          | true =>
            refine absurd (SB_nd.mp (fun b hb => ?_)) h_30
            rcases Nat.lt_or_ge b 32 with hb2 | hb2
            · rw [p3 b hb2] at hb
              rw [m3 b hb2]
              exact allB_iff.mp hc _ (by omega) hb
            · rw [bit_lt (k := 32) p2 hb2] at hb; cases hb
        exact z_bret (b := false) rfl dX1_beatsAllOf_34 (hno ▸ hQ)
theorem t_beatsAllOf (l : Launch) {g : zG} (hg : zAmOk g) {d : zD} {M : Nat → Nat → Bool} (B : BM d M) {i j : Nat} (hi : i < 65) (hj : j < 65) : zC l g mX1_beatsAllOf 1 [zr g 32, zi (i : Int), zi (j : Int)] d (zpu (zi (zb (allB (M j) (M i) 96))) d) := by
  refine zC_of (L := [(0, _), (1, _), (2, _)]) mk_X1_beatsAllOf (Nat.le_of_ble_eq_true rfl) hg rfl (fun x => ?_)
  refine z_iconst dX1_beatsAllOf_0 ?_
  refine z_istore_n (L' := [(0, _), (1, _), (2, _), (3, _)]) dX1_beatsAllOf_1 rfl (by decide) rfl rfl ?_
  exact lp_beatsAllOf hg B hi hj ⟨rfl, rfl⟩ 4 0 (fun b hb => absurd hb (by omega)) (by omega) (by omega)
/-- who beats whom among the open forms, by index -/
def opG (h : Hl) (i : Nat) : Nat := (openL h).getD i 0
def mtx (h : Hl) (i j : Nat) : Bool := decide (i < (openL h).length) && (decide (j < (openL h).length) && btF h (opG h i) (opG h j))
def done (i j a b : Nat) : Bool := decide (a < i ∧ b < i) || (decide (a = i ∧ b < j) || decide (b = i ∧ a < j))
theorem opG_some {h : Hl} {i f : Nat} (hf : (openL h)[i]? = some f) : opG h i = f := by rw [opG, List.getD_eq_getElem?_getD, hf]; rfl
theorem opG_lt {h : Hl} {i : Nat} (hi : i < (openL h).length) : opG h i < 256 ∧ (openL h)[i]? = some (opG h i) := by
  have h1 := List.getElem?_eq_getElem hi
  have h2 := opG_some h1
  rw [h2]
  exact ⟨openL_lt (List.mem_of_getElem? h1), h1⟩
theorem btF_irr (h : Hl) (f : Nat) : btF h f f = false := by unfold btF; simp
theorem btF_asym {h : Hl} {f o : Nat} (hb : btF h f o = true) : btF h o f = false := by
  unfold btF at *
  rw [decide_eq_true_eq] at hb
  exact decide_eq_false (by omega)
theorem t_learnPair (l : Launch) {g : zG} (hg : zAmOk g) {d : zD} {h : Hl} (w : Wf h) (H : HC 2 d h) (K : LK d h) (O : OP d h) {M : Nat → Nat → Bool} (B : BM d M) {i j : Nat} (hi : i < (openL h).length) (hj : j < (openL h).length) : zC l g mX1_learnPair 3 [zr g 32, zi (i : Int), zi (j : Int)] d (fun r d' => r = none ∧ (zF [35] d d' ∧ BM d' (fun a b => M a b || (decide (i = a) && (decide (j = b) && btF h (opG h i) (opG h j))) || (decide (j = a) && (decide (i = b) && btF h (opG h j) (opG h i)))))) := by
  have hol2 : (openL h).length ≤ 65 := opL_len w 256
  obtain ⟨f1, f2⟩ := opG_lt hi
  obtain ⟨g1, g2⟩ := opG_lt hj
  have e1 := O.2 i _ f2
  have e2 := O.2 j _ g2
  have p1 := prefF_le w (opG h i) (opG h j)
  have p2 := prefF_le w (opG h j) (opG h i)
  refine zC_of (L := [(0, _), (1, _), (2, _)]) mk_X1_learnPair (Nat.le_of_ble_eq_true rfl) hg rfl (fun x => ?_)
  refine z_aload_n 0 dX1_learnPair_0 rfl rfl ?_
  refine z_getr fl_RX1_28 (by decide) rfl rfl dX1_learnPair_1 ?_
  refine z_aload_n 0 dX1_learnPair_4 rfl rfl ?_
  refine z_getr fl_RX1_9 (by decide) rfl rfl dX1_learnPair_5 ?_
  refine z_iload_n 1 dX1_learnPair_8 rfl rfl ?_
  refine z_iald _ (by decide) rfl rfl (by omega) (by decide) dX1_learnPair_9 ?_
  rw [e1]
  refine z_aload_n 0 dX1_learnPair_10 rfl rfl ?_
  refine z_getr fl_RX1_9 (by decide) rfl rfl dX1_learnPair_11 ?_
  refine z_iload_n 2 dX1_learnPair_14 rfl rfl ?_
  refine z_iald _ (by decide) rfl rfl (by omega) (by decide) dX1_learnPair_15 ?_
  rw [e2]
  refine z_cv (t_countPreferring l hg w H K f1 g1) mk_X5_countPreferring mi_X5_countPreferring ml_RX1_74 (by omega) (by decide) rfl rfl rfl rfl (Nat.le_of_ble_eq_true rfl) dX1_learnPair_16 (zpure ?_)
  refine z_aload_n 0 dX1_learnPair_19 rfl rfl ?_
  refine z_getr fl_RX1_28 (by decide) rfl rfl dX1_learnPair_20 ?_
  refine z_aload_n 0 dX1_learnPair_23 rfl rfl ?_
  refine z_getr fl_RX1_9 (by decide) rfl rfl dX1_learnPair_24 ?_
  refine z_iload_n 2 dX1_learnPair_27 rfl rfl ?_
  refine z_iald _ (by decide) rfl rfl (by omega) (by decide) dX1_learnPair_28 ?_
  rw [e2]
  refine z_aload_n 0 dX1_learnPair_29 rfl rfl ?_
  refine z_getr fl_RX1_9 (by decide) rfl rfl dX1_learnPair_30 ?_
  refine z_iload_n 1 dX1_learnPair_33 rfl rfl ?_
  refine z_iald _ (by decide) rfl rfl (by omega) (by decide) dX1_learnPair_34 ?_
  rw [e1]
  refine z_cv (t_countPreferring l hg w H K g1 f1) mk_X5_countPreferring mi_X5_countPreferring ml_RX1_74 (by omega) (by decide) rfl rfl rfl rfl (Nat.le_of_ble_eq_true rfl) dX1_learnPair_35 (zpure ?_)
  refine z_isub dX1_learnPair_38 ?_
  refine z_istore_n (L' := [(0, _), (1, _), (2, _), (3, _)]) dX1_learnPair_39 rfl (by decide) rfl rfl ?_
  refine z_iload_n 3 dX1_learnPair_40 rfl rfl ?_
  refine z_if_le 53 (by omega) dX1_learnPair_41 (by decide) (fun h_41 => ?_) (fun h_41 => ?_)
  · refine z_iload_n 3 dX1_learnPair_53 rfl rfl ?_
    refine z_if_ge 63 (by omega) dX1_learnPair_54 (by decide) (fun h_54 => ?_) (fun h_54 => ?_)
    · exact z_vret rfl dX1_learnPair_63 (⟨rfl, zF.rf, B.congr (fun a b _ _ => by have c1 : btF h (opG h i) (opG h j) = false := (decide_eq_false (by omega)); have c2 : btF h (opG h j) (opG h i) = false := (decide_eq_false (by omega)); rw [c1, c2]; simp)⟩)
    · refine z_aload_n 0 dX1_learnPair_57 rfl rfl ?_
      refine z_iload_n 2 dX1_learnPair_58 rfl rfl ?_
      refine z_iload_n 1 dX1_learnPair_59 rfl rfl ?_
      refine z_cv (t_markBeaten l hg B (i := j) (j := i) (by omega) (by omega)) mk_X1_markBeaten mi_X1_markBeaten ml_RX1_80 (by omega) (by decide) rfl rfl rfl rfl (Nat.le_of_ble_eq_true rfl) dX1_learnPair_60 (zvoid fun d_60 q_60 => ?_)
      exact z_vret rfl dX1_learnPair_63 (⟨rfl, q_60.1, q_60.2.congr (fun a b _ _ => by have c1 : btF h (opG h i) (opG h j) = false := (decide_eq_false (by omega)); have c2 : btF h (opG h j) (opG h i) = true := (decide_eq_true (by omega)); rw [c1, c2]; simp)⟩)
  · refine z_aload_n 0 dX1_learnPair_44 rfl rfl ?_
    refine z_iload_n 1 dX1_learnPair_45 rfl rfl ?_
    refine z_iload_n 2 dX1_learnPair_46 rfl rfl ?_
    refine z_cv (t_markBeaten l hg B (i := i) (j := j) (by omega) (by omega)) mk_X1_markBeaten mi_X1_markBeaten ml_RX1_80 (by omega) (by decide) rfl rfl rfl rfl (Nat.le_of_ble_eq_true rfl) dX1_learnPair_47 (zvoid fun d_47 q_47 => ?_)
    refine z_goto 63 dX1_learnPair_50 (by decide) ?_
    exact z_vret rfl dX1_learnPair_63 (⟨rfl, q_47.1, q_47.2.congr (fun a b _ _ => by have c1 : btF h (opG h i) (opG h j) = true := (decide_eq_true (by omega)); have c2 : btF h (opG h j) (opG h i) = false := (decide_eq_false (by omega)); rw [c1, c2]; simp)⟩)
/-- beats all the other open forms -/
def winB (h : Hl) (i : Nat) : Bool := decide (cntB (mtx h i) 96 = (openL h).length - 1)
theorem open_pos (h : Hl) : 0 < (openL h).length := List.length_pos_of_mem (opL_mem.mpr ⟨by decide, by simp [openB]⟩ : (0 : Nat) ∈ opL h 256)
theorem lp_findWinner {l : Launch} {x : zX} {g : zG} {n : Nat} {Q : Option Value → zD → Prop} {d : zD} {h : Hl} (hg : zAmOk g) (w : Wf h) (O : OP d h) (B : BM d (mtx h)) (hn : 2 < n) (hQ : ∀ i, i < (openL h).length → winB h i = true → (∀ j, j < i → winB h j = false) → Q (some (zi (opG h i : Int))) d) (hQ2 : (∀ j, j < (openL h).length → winB h j = false) → Q (some (zi (-1))) d) : ∀ r k, (∀ j, j < k → winB h j = false) → k ≤ (openL h).length → (openL h).length - k < r → zV l x g mX1_findWinner n Q 2 [(0, zr g 32), (1, zi (k : Int))] [] d := by
  have hol2 : (openL h).length ≤ 65 := opL_len w 256
  have hop := open_pos h
  intro r
  induction r with
  | zero => intro k hd hk hr; omega
  | succ r ih =>
    intro k hd hk hr
    have hcl := cntB_le (mtx h k) 96
    refine z_iload_n 1 dX1_findWinner_2 rfl rfl ?_
    refine z_aload_n 0 dX1_findWinner_3 rfl rfl ?_
    refine z_geti fl_RX1_53 (by decide) rfl rfl dX1_findWinner_4 ?_
    rw [O.1]
    refine z_icmp_ge 37 (by omega) (by omega) dX1_findWinner_7 (by decide) (fun h_7 => ?_) (fun h_7 => ?_)
    · refine z_iconst dX1_findWinner_37 ?_
      exact z_iret rfl dX1_findWinner_38 (hQ2 (fun j hj => hd j (by omega)))
    · obtain ⟨f1, f2⟩ := opG_lt (show k < (openL h).length by omega)
      have e1 := O.2 k _ f2
      refine z_aload_n 0 dX1_findWinner_10 rfl rfl ?_
      refine z_iload_n 1 dX1_findWinner_11 rfl rfl ?_
      refine z_cv (t_countBeaten l hg B (i := k) (by omega)) mk_X1_countBeaten mi_X1_countBeaten ml_RX1_89 (by omega) (by decide) rfl rfl rfl rfl (Nat.le_of_ble_eq_true rfl) dX1_findWinner_12 (zpure ?_)
      refine z_aload_n 0 dX1_findWinner_15 rfl rfl ?_
      refine z_geti fl_RX1_53 (by decide) rfl rfl dX1_findWinner_16 ?_
      refine z_iconst dX1_findWinner_19 ?_
      refine z_isub dX1_findWinner_20 ?_
      rw [O.1]
      refine z_icmp_ne 31 (by omega) (by omega) dX1_findWinner_21 (by decide) (fun h_21 => ?_) (fun h_21 => ?_)
      · refine z_iinc 1 (L' := [(0, _), (1, _)]) dX1_findWinner_31 (by decide) rfl rfl rfl ?_
        refine z_goto 2 dX1_findWinner_34 (by decide) ?_
        refine ih (k + 1) (fun j hj => ?_) (by omega) (by omega)
        by_cases e : j = k
        · subst e; exact decide_eq_false (by omega)
        · exact hd j (by omega)
      · refine z_aload_n 0 dX1_findWinner_24 rfl rfl ?_
        refine z_getr fl_RX1_9 (by decide) rfl rfl dX1_findWinner_25 ?_
        refine z_iload_n 1 dX1_findWinner_28 rfl rfl ?_
        refine z_iald _ (by decide) rfl rfl (by omega) (by decide) dX1_findWinner_29 ?_
        rw [e1]
        exact z_iret rfl dX1_findWinner_30 (hQ k (by omega) (decide_eq_true (by omega)) hd)
theorem t_findWinner (l : Launch) {g : zG} (hg : zAmOk g) {d : zD} {h : Hl} (w : Wf h) (O : OP d h) (B : BM d (mtx h)) : zC l g mX1_findWinner 3 [zr g 32] d (fun r d' => ((∃ i, i < (openL h).length ∧ winB h i = true ∧ (∀ j, j < i → winB h j = false) ∧ r = some (zi (opG h i : Int))) ∨ ((∀ j, j < (openL h).length → winB h j = false) ∧ r = some (zi (-1)))) ∧ d' = d) := by
  refine zC_of (L := [(0, _)]) mk_X1_findWinner (Nat.le_of_ble_eq_true rfl) hg rfl (fun x => ?_)
  refine z_iconst dX1_findWinner_0 ?_
  refine z_istore_n (L' := [(0, _), (1, _)]) dX1_findWinner_1 rfl (by decide) rfl rfl ?_
  exact lp_findWinner hg w O B (by omega) (fun i h1 h2 h3 => ⟨Or.inl ⟨i, h1, h2, h3, rfl⟩, rfl⟩) (fun h1 => ⟨Or.inr ⟨h1, rfl⟩, rfl⟩) ((openL h).length + 1) 0 (fun j hj => absurd hj (by omega)) (by omega) (by omega)
/-- index k covers index i -/
def covB (h : Hl) (i k : Nat) : Bool := mtx h k i && allB (mtx h i) (mtx h k) 96
def covN (h : Hl) (i : Nat) : Nat → Bool
  | 0 => false
  | k + 1 => covN h i k || covB h i k
theorem covN_ge {h : Hl} {i : Nat} : ∀ {k j : Nat}, k ≤ j → covN h i k = true → covN h i j = true
  | k, 0, hk, hc => by rw [show k = 0 by omega] at hc; exact hc
  | k, j + 1, hk, hc => by
    by_cases e : k = j + 1
    · rw [← e]; exact hc
    · rw [covN, covN_ge (show k ≤ j by omega) hc]; rfl
theorem lp_isCovered {l : Launch} {x : zX} {g : zG} {n : Nat} {Q : Option Value → zD → Prop} {d : zD} {h : Hl} {i : Nat} (hg : zAmOk g) (w : Wf h) (O : OP d h) (B : BM d (mtx h)) (hi : i < (openL h).length) (hn : 2 < n) (hQ : Q (some (zi (zb (covN h i (openL h).length)))) d) : ∀ r k, covN h i k = false → k ≤ (openL h).length → (openL h).length - k < r → zV l x g mX1_isCovered n Q 2 [(0, zr g 32), (1, zi (i : Int)), (2, zi (k : Int))] [] d := by
  have hol2 : (openL h).length ≤ 65 := opL_len w 256
  intro r
  induction r with
  | zero => intro k hd hk hr; omega
  | succ r ih =>
    intro k hd hk hr
    refine z_iload_n 2 dX1_isCovered_2 rfl rfl ?_
    refine z_aload_n 0 dX1_isCovered_3 rfl rfl ?_
    refine z_geti fl_RX1_53 (by decide) rfl rfl dX1_isCovered_4 ?_
    rw [O.1]
    refine z_icmp_ge 36 (by omega) (by omega) dX1_isCovered_7 (by decide) (fun h_7 => ?_) (fun h_7 => ?_)
    · refine z_iconst dX1_isCovered_36 ?_
      exact z_bret (b := false) rfl dX1_isCovered_37 ((show covN h i (openL h).length = false by rw [← show k = (openL h).length by omega]; exact hd) ▸ hQ)
    · refine z_aload_n 0 dX1_isCovered_10 rfl rfl ?_
      refine z_iload_n 2 dX1_isCovered_11 rfl rfl ?_
      refine z_iload_n 1 dX1_isCovered_12 rfl rfl ?_
      refine z_cv (t_isBeaten l hg B (i := k) (j := i) (by omega) (by omega)) mk_X1_isBeaten mi_X1_isBeaten ml_RX1_92 (by omega) (by decide) rfl rfl rfl rfl (Nat.le_of_ble_eq_true rfl) dX1_isCovered_13 (zpure ?_)
      refine z_if_eq_b 30 dX1_isCovered_16 (by decide) (fun h_16 => ?_) (fun h_16 => ?_)
      · refine z_iinc 2 (L' := [(0, _), (1, _), (2, _)]) dX1_isCovered_30 (by decide) rfl rfl rfl ?_
        refine z_goto 2 dX1_isCovered_33 (by decide) ?_
        exact ih (k + 1) (by rw [covN, hd, covB, h_16]; rfl) (by omega) (by omega)
      · refine z_aload_n 0 dX1_isCovered_19 rfl rfl ?_
        refine z_iload_n 2 dX1_isCovered_20 rfl rfl ?_
        refine z_iload_n 1 dX1_isCovered_21 rfl rfl ?_
        refine z_cv (t_beatsAllOf l hg B (i := k) (j := i) (by omega) (by omega)) mk_X1_beatsAllOf mi_X1_beatsAllOf ml_RX1_95 (by omega) (by decide) rfl rfl rfl rfl (Nat.le_of_ble_eq_true rfl) dX1_isCovered_22 (zpure ?_)
        refine z_if_eq_b 30 dX1_isCovered_25 (by decide) (fun h_25 => ?_) (fun h_25 => ?_)
        · refine z_iinc 2 (L' := [(0, _), (1, _), (2, _)]) dX1_isCovered_30 (by decide) rfl rfl rfl ?_
          refine z_goto 2 dX1_isCovered_33 (by decide) ?_
          exact ih (k + 1) (by rw [covN, hd, covB, h_16, h_25]; rfl) (by omega) (by omega)
        · refine z_iconst dX1_isCovered_28 ?_
          exact z_bret (b := true) rfl dX1_isCovered_29 ((show covN h i (openL h).length = true from covN_ge (show k + 1 ≤ (openL h).length by omega) (by rw [covN, hd, covB, h_16, h_25]; rfl)) ▸ hQ)
theorem t_isCovered (l : Launch) {g : zG} (hg : zAmOk g) {d : zD} {h : Hl} (w : Wf h) (O : OP d h) (B : BM d (mtx h)) {i : Nat} (hi : i < (openL h).length) : zC l g mX1_isCovered 3 [zr g 32, zi (i : Int)] d (zpu (zi (zb (covN h i (openL h).length))) d) := by
  refine zC_of (L := [(0, _), (1, _)]) mk_X1_isCovered (Nat.le_of_ble_eq_true rfl) hg rfl (fun x => ?_)
  refine z_iconst dX1_isCovered_0 ?_
  refine z_istore_n (L' := [(0, _), (1, _), (2, _)]) dX1_isCovered_1 rfl (by decide) rfl rfl ?_
  exact lp_isCovered hg w O B hi (by omega) ⟨rfl, rfl⟩ ((openL h).length + 1) 0 rfl (by omega) (by omega)
/-- a is reached from c: whom one that is reached does not beat, is reached -/
def clo (M : Nat → Nat → Bool) (sz c a : Nat) : Prop := ∀ P : Nat → Prop, P c → (∀ a i, P a → i < sz → M a i = false → P i) → P a
theorem clo.rf {M : Nat → Nat → Bool} {sz c : Nat} : clo M sz c c := fun _ h _ => h
theorem clo.st {M : Nat → Nat → Bool} {sz c a i : Nat} (h : clo M sz c a) (hi : i < sz) (hm : M a i = false) : clo M sz c i := fun P h1 h2 => h2 a i (h P h1 h2) hi hm
/-- the class's row of top -/
def TP (d : zD) (T : List Nat) : Prop := d 32 9 = T.length ∧ ∀ i a : Nat, T[i]? = some a → d 36 i = a
theorem lp_isOfTop {l : Launch} {x : zX} {g : zG} {n : Nat} {Q : Option Value → zD → Prop} {d : zD} {T : List Nat} {i : Nat} (hg : zAmOk g) (hT : TP d T) (hl : T.length ≤ 65) (hb : ∀ a ∈ T, a < 65) (hi : i < 65) (hQ : Q (some (zi (zb (decide (i ∈ T))))) d) : ∀ r k, (∀ j a : Nat, j < k → T[j]? = some a → a ≠ i) → k ≤ T.length → T.length - k < r → zV l x g mX1_isOfTop n Q 2 [(0, zr g 32), (1, zi (i : Int)), (2, zi (k : Int))] [] d := by
  intro r
  induction r with
  | zero => intro k hd hk hr; omega
  | succ r ih =>
    intro k hd hk hr
    refine z_iload_n 2 dX1_isOfTop_2 rfl rfl ?_
    refine z_aload_n 0 dX1_isOfTop_3 rfl rfl ?_
    refine z_geti fl_RX1_102 (by decide) rfl rfl dX1_isOfTop_4 ?_
    rw [hT.1]
    refine z_icmp_ge 28 (by omega) (by omega) dX1_isOfTop_7 (by decide) (fun h_7 => ?_) (fun h_7 => ?_)
    · refine z_iconst dX1_isOfTop_28 ?_
      exact z_bret (b := false) rfl dX1_isOfTop_29 ((show decide (i ∈ T) = false from decide_eq_false (fun z => by obtain ⟨j, hj⟩ := List.getElem?_of_mem z; have h2 := (List.getElem?_eq_some_iff.mp hj).1; exact hd j i (by omega) hj rfl)) ▸ hQ)
    · obtain ⟨a, ha⟩ : ∃ a, T[k]? = some a := ⟨_, List.getElem?_eq_getElem (show k < T.length by omega)⟩
      have hal := hb a (List.mem_of_getElem? ha)
      refine z_aload_n 0 dX1_isOfTop_10 rfl rfl ?_
      refine z_getr fl_RX1_21 (by decide) rfl rfl dX1_isOfTop_11 ?_
      refine z_iload_n 2 dX1_isOfTop_14 rfl rfl ?_
      refine z_iald _ (by decide) rfl rfl (by omega) (by decide) dX1_isOfTop_15 ?_
      rw [hT.2 k a ha]
      refine z_iload_n 1 dX1_isOfTop_16 rfl rfl ?_
      refine z_icmp_ne 22 (by omega) (by omega) dX1_isOfTop_17 (by decide) (fun h_17 => ?_) (fun h_17 => ?_)
      · refine z_iinc 2 (L' := [(0, _), (1, _), (2, _)]) dX1_isOfTop_22 (by decide) rfl rfl rfl ?_
        refine z_goto 2 dX1_isOfTop_25 (by decide) ?_
        refine ih (k + 1) (fun j b hj hb2 => ?_) (by omega) (by omega)
        by_cases e : j = k
        · subst e; rw [ha] at hb2; cases hb2; omega
        · exact hd j b (by omega) hb2
      · refine z_iconst dX1_isOfTop_20 ?_
        exact z_bret (b := true) rfl dX1_isOfTop_21 ((show decide (i ∈ T) = true from decide_eq_true (by rw [show i = a by omega]; exact List.mem_of_getElem? ha)) ▸ hQ)
theorem t_isOfTop (l : Launch) {g : zG} (hg : zAmOk g) {d : zD} {T : List Nat} {i : Nat} (hT : TP d T) (hl : T.length ≤ 65) (hb : ∀ a ∈ T, a < 65) (hi : i < 65) : zC l g mX1_isOfTop 1 [zr g 32, zi (i : Int)] d (zpu (zi (zb (decide (i ∈ T)))) d) := by
  refine zC_of (L := [(0, _), (1, _)]) mk_X1_isOfTop (Nat.le_of_ble_eq_true rfl) hg rfl (fun x => ?_)
  refine z_iconst dX1_isOfTop_0 ?_
  refine z_istore_n (L' := [(0, _), (1, _), (2, _)]) dX1_isOfTop_1 rfl (by decide) rfl rfl ?_
  exact lp_isOfTop hg hT hl hb hi ⟨rfl, rfl⟩ (T.length + 1) 0 (fun j a hj => absurd hj (by omega)) (by omega) (by omega)
theorem lp_indexOfMostBeating {l : Launch} {x : zX} {g : zG} {n : Nat} {Q : Option Value → zD → Prop} {d : zD} {h : Hl} (hg : zAmOk g) (w : Wf h) (O : OP d h) (B : BM d (mtx h)) (hn : 2 < n) (hQ : ∀ c, c < (openL h).length → (∀ i, i < (openL h).length → cntB (mtx h i) 96 ≤ cntB (mtx h c) 96) → Q (some (zi (c : Int))) d) : ∀ r k c, c < k → (∀ i, i < k → cntB (mtx h i) 96 ≤ cntB (mtx h c) 96) → k ≤ (openL h).length → (openL h).length - k < r → zV l x g mX1_indexOfMostBeating n Q 4 [(0, zr g 32), (1, zi (c : Int)), (2, zi (k : Int))] [] d := by
  have hol2 : (openL h).length ≤ 65 := opL_len w 256
  intro r
  induction r with
  | zero => intro k c hc hd hk hr; omega
  | succ r ih =>
    intro k c hc hd hk hr
    have l1 := cntB_le (mtx h k) 96
    have l2 := cntB_le (mtx h c) 96
    refine z_iload_n 2 dX1_indexOfMostBeating_4 rfl rfl ?_
    refine z_aload_n 0 dX1_indexOfMostBeating_5 rfl rfl ?_
    refine z_geti fl_RX1_53 (by decide) rfl rfl dX1_indexOfMostBeating_6 ?_
    rw [O.1]
    refine z_icmp_ge 33 (by omega) (by omega) dX1_indexOfMostBeating_9 (by decide) (fun h_9 => ?_) (fun h_9 => ?_)
    · refine z_iload_n 1 dX1_indexOfMostBeating_33 rfl rfl ?_
      exact z_iret rfl dX1_indexOfMostBeating_34 (hQ c (by omega) (fun i hi => hd i (by omega)))
    · refine z_aload_n 0 dX1_indexOfMostBeating_12 rfl rfl ?_
      refine z_iload_n 2 dX1_indexOfMostBeating_13 rfl rfl ?_
      refine z_cv (t_countBeaten l hg B (i := k) (by omega)) mk_X1_countBeaten mi_X1_countBeaten ml_RX1_89 (by omega) (by decide) rfl rfl rfl rfl (Nat.le_of_ble_eq_true rfl) dX1_indexOfMostBeating_14 (zpure ?_)
      refine z_aload_n 0 dX1_indexOfMostBeating_17 rfl rfl ?_
      refine z_iload_n 1 dX1_indexOfMostBeating_18 rfl rfl ?_
      refine z_cv (t_countBeaten l hg B (i := c) (by omega)) mk_X1_countBeaten mi_X1_countBeaten ml_RX1_89 (by omega) (by decide) rfl rfl rfl rfl (Nat.le_of_ble_eq_true rfl) dX1_indexOfMostBeating_19 (zpure ?_)
      refine z_icmp_le 27 (by omega) (by omega) dX1_indexOfMostBeating_22 (by decide) (fun h_22 => ?_) (fun h_22 => ?_)
      · refine z_iinc 2 (L' := [(0, _), (1, _), (2, _)]) dX1_indexOfMostBeating_27 (by decide) rfl rfl rfl ?_
        refine z_goto 4 dX1_indexOfMostBeating_30 (by decide) ?_
        refine ih (k + 1) c (by omega) (fun i hi => ?_) (by omega) (by omega)
        by_cases e : i = k
        · rw [e]; omega
        · exact hd i (by omega)
      · refine z_iload_n 2 dX1_indexOfMostBeating_25 rfl rfl ?_
        refine z_istore_n (L' := [(0, _), (1, _), (2, _)]) dX1_indexOfMostBeating_26 rfl (by decide) rfl rfl ?_
        refine z_iinc 2 (L' := [(0, _), (1, _), (2, _)]) dX1_indexOfMostBeating_27 (by decide) rfl rfl rfl ?_
        refine z_goto 4 dX1_indexOfMostBeating_30 (by decide) ?_
        refine ih (k + 1) k (by omega) (fun i hi => ?_) (by omega) (by omega)
        by_cases e : i = k
        · rw [e]; exact Nat.le_refl _
        · have := hd i (by omega); omega
theorem t_indexOfMostBeating (l : Launch) {g : zG} (hg : zAmOk g) {d : zD} {h : Hl} (w : Wf h) (O : OP d h) (B : BM d (mtx h)) : zC l g mX1_indexOfMostBeating 3 [zr g 32] d (fun r d' => (∃ c : Nat, c < (openL h).length ∧ (∀ i, i < (openL h).length → cntB (mtx h i) 96 ≤ cntB (mtx h c) 96) ∧ r = some (zi (c : Int))) ∧ d' = d) := by
  have hop := open_pos h
  refine zC_of (L := [(0, _)]) mk_X1_indexOfMostBeating (Nat.le_of_ble_eq_true rfl) hg rfl (fun x => ?_)
  refine z_iconst dX1_indexOfMostBeating_0 ?_
  refine z_istore_n (L' := [(0, _), (1, _)]) dX1_indexOfMostBeating_1 rfl (by decide) rfl rfl ?_
  refine z_iconst dX1_indexOfMostBeating_2 ?_
  refine z_istore_n (L' := [(0, _), (1, _), (2, _)]) dX1_indexOfMostBeating_3 rfl (by decide) rfl rfl ?_
  exact lp_indexOfMostBeating hg w O B (by omega) (fun c h1 h2 => ⟨⟨c, h1, h2, rfl⟩, rfl⟩) ((openL h).length + 1) 1 0 (by omega) (fun i hi => by rw [show i = 0 by omega]; exact Nat.le_refl _) (by omega) (by omega)
/-- the row of top while it grows: c first, each once, all reached, those ahead of k done -/
def Tok (h : Hl) (c : Nat) (T : List Nat) (k : Nat) : Prop := T.Nodup ∧ c ∈ T ∧ (∀ a ∈ T, a < (openL h).length ∧ clo (mtx h) (openL h).length c a) ∧ ∀ i a : Nat, i < k → T[i]? = some a → ∀ j, j < (openL h).length → mtx h a j = false → j ∈ T
theorem Tok.len {h : Hl} {c k : Nat} {T : List Nat} (H : Tok h c T k) : T.length ≤ (openL h).length := by
  have h1 := pig T (List.range (openL h).length) H.1 (fun x hx => List.mem_range.mpr (H.2.2.1 x hx).1)
  rwa [List.length_range] at h1
theorem Tok.fin {h : Hl} {c k : Nat} {T : List Nat} (H : Tok h c T k) (hk : T.length ≤ k) (a : Nat) : a ∈ T ↔ clo (mtx h) (openL h).length c a := by
  refine ⟨fun z => (H.2.2.1 a z).2, fun z => z (fun a => a ∈ T) H.2.1 (fun b i hb hi hm => ?_)⟩
  obtain ⟨j, hj⟩ := List.getElem?_of_mem hb
  have h2 := (List.getElem?_eq_some_iff.mp hj).1
  exact H.2.2.2 j b (by omega) hj i hi hm
theorem Tok.all {h : Hl} {c k : Nat} {T : List Nat} (H : Tok h c T k) (hl : (openL h).length ≤ T.length) (a : Nat) (ha : a < (openL h).length) : a ∈ T := by
  refine Classical.byContradiction fun z => ?_
  have h1 := pig (a :: T) (List.range (openL h).length) (List.nodup_cons.mpr ⟨z, H.1⟩) (fun x hx => by
    rcases List.mem_cons.mp hx with rfl | hx
    · exact List.mem_range.mpr ha
    · exact List.mem_range.mpr (H.2.2.1 x hx).1)
  rw [List.length_range, List.length_cons] at h1
  omega
theorem lp2_learnTop {l : Launch} {x : zX} {g : zG} {n : Nat} {Q : Option Value → zD → Prop} {d0 : zD} {h : Hl} {c k a : Nat} (hg : zAmOk g) (w : Wf h) (O : OP d0 h) (B : BM d0 (mtx h)) (hn : 2 < n) (hQ : ∀ d T, zF [32, 36] d0 d → (∀ i, i ≠ 9 → d 32 i = d0 32 i) → TP d T → k < T.length → Tok h c T (k + 1) → zV l x g mX1_learnTop n Q 98 [(0, zr g 32), (1, zi (k : Int))] [] d) : ∀ r m d T, zF [32, 36] d0 d → (∀ i, i ≠ 9 → d 32 i = d0 32 i) → TP d T → Tok h c T k → k < T.length → T[k]? = some a → (∀ j, j < m → mtx h a j = false → j ∈ T) → m ≤ (openL h).length → (openL h).length - m < r → zV l x g mX1_learnTop n Q 33 [(0, zr g 32), (1, zi (k : Int)), (2, zi (m : Int))] [] d := by
  have hol2 : (openL h).length ≤ 65 := opL_len w 256
  intro r
  induction r with
  | zero => intro m d T hf h32 hT hk hkl hka hd hm hr; omega
  | succ r ih =>
    intro m d T hf h32 hT hk hkl hka hd hm hr
    have O' : OP d h := ⟨by rw [h32 4 (by decide)]; exact O.1, fun i f hi => by rw [hf 33 (by decide)]; exact O.2 i f hi⟩
    have B' : BM d (mtx h) := B.of (hf 35 (by decide))
    have htl := hk.len
    have hal := (hk.2.2.1 a (List.mem_of_getElem? hka)).1
    have fin : (∀ j, j < (openL h).length → mtx h a j = false → j ∈ T) → Tok h c T (k + 1) := fun hd => ⟨hk.1, hk.2.1, hk.2.2.1, fun i b hi hb j hj hm => by
      by_cases e : i = k
      · subst e; rw [hka] at hb; cases hb; exact hd j hj hm
      · exact hk.2.2.2 i b (by omega) hb j hj hm⟩
    refine z_iload_n 2 dX1_learnTop_33 rfl rfl ?_
    refine z_aload_n 0 dX1_learnTop_34 rfl rfl ?_
    refine z_geti fl_RX1_53 (by decide) rfl rfl dX1_learnTop_35 ?_
    rw [O'.1]
    refine z_icmp_ge 98 (by omega) (by omega) dX1_learnTop_38 (by decide) (fun h_38 => ?_) (fun h_38 => ?_)
    · refine z_sub (L' := [(0, _), (1, _)]) [0, 1] rfl ?_
      exact hQ d T hf h32 hT hkl (fin (fun j hj hm2 => hd j (by omega) hm2))
    · refine z_aload_n 0 dX1_learnTop_41 rfl rfl ?_
      refine z_geti fl_RX1_102 (by decide) rfl rfl dX1_learnTop_42 ?_
      refine z_bipush dX1_learnTop_45 (by decide) ?_
      rw [hT.1]
      refine z_icmp_ge 98 (by omega) (by omega) dX1_learnTop_47 (by decide) (fun h_47 => ?_) (fun h_47 => ?_)
      · refine z_sub (L' := [(0, _), (1, _)]) [0, 1] rfl ?_
        exact hQ d T hf h32 hT hkl (fin (fun j hj _ => hk.all (by omega) j hj))
      · refine z_aload_n 0 dX1_learnTop_50 rfl rfl ?_
        refine z_aload_n 0 dX1_learnTop_51 rfl rfl ?_
        refine z_getr fl_RX1_21 (by decide) rfl rfl dX1_learnTop_52 ?_
        refine z_iload_n 1 dX1_learnTop_55 rfl rfl ?_
        refine z_iald _ (by decide) rfl rfl (by omega) (by decide) dX1_learnTop_56 ?_
        rw [hT.2 k a hka]
        refine z_iload_n 2 dX1_learnTop_57 rfl rfl ?_
        refine z_cv (t_isBeaten l hg B' (i := a) (j := m) (by omega) (by omega)) mk_X1_isBeaten mi_X1_isBeaten ml_RX1_92 (by omega) (by decide) rfl rfl rfl rfl (Nat.le_of_ble_eq_true rfl) dX1_learnTop_58 (zpure ?_)
        refine z_if_ne_b 92 dX1_learnTop_61 (by decide) (fun h_61 => ?_) (fun h_61 => ?_)
        · refine z_iinc 2 (L' := [(0, _), (1, _), (2, _)]) dX1_learnTop_92 (by decide) rfl rfl rfl ?_
          refine z_goto 33 dX1_learnTop_95 (by decide) ?_
          refine ih (m + 1) d T hf h32 hT hk hkl hka (fun j hj hm2 => ?_) (by omega) (by omega)
          by_cases e : j = m
          · subst e; first | (rw [h_61] at hm2; cases hm2; done) | (rw [decide_eq_true_eq] at h_69; exact h_69)
          · exact hd j (by omega) hm2
        · refine z_aload_n 0 dX1_learnTop_64 rfl rfl ?_
          refine z_iload_n 2 dX1_learnTop_65 rfl rfl ?_
          refine z_cv (t_isOfTop l hg hT (by omega) (fun b hb => by have := (hk.2.2.1 b hb).1; omega) (i := m) (by omega)) mk_X1_isOfTop mi_X1_isOfTop ml_RX1_105 (by omega) (by decide) rfl rfl rfl rfl (Nat.le_of_ble_eq_true rfl) dX1_learnTop_66 (zpure ?_)
          refine z_if_ne_b 92 dX1_learnTop_69 (by decide) (fun h_69 => ?_) (fun h_69 => ?_)
          · refine z_iinc 2 (L' := [(0, _), (1, _), (2, _)]) dX1_learnTop_92 (by decide) rfl rfl rfl ?_
            refine z_goto 33 dX1_learnTop_95 (by decide) ?_
            refine ih (m + 1) d T hf h32 hT hk hkl hka (fun j hj hm2 => ?_) (by omega) (by omega)
            by_cases e : j = m
            · subst e; first | (rw [h_61] at hm2; cases hm2; done) | (rw [decide_eq_true_eq] at h_69; exact h_69)
            · exact hd j (by omega) hm2
          · refine z_aload_n 0 dX1_learnTop_72 rfl rfl ?_
            refine z_getr fl_RX1_21 (by decide) rfl rfl dX1_learnTop_73 ?_
            refine z_aload_n 0 dX1_learnTop_76 rfl rfl ?_
            refine z_geti fl_RX1_102 (by decide) rfl rfl dX1_learnTop_77 ?_
            refine z_iload_n 2 dX1_learnTop_80 rfl rfl ?_
            rw [hT.1]
            refine z_iast T.length (by decide) rfl rfl (by omega) (by decide) dX1_learnTop_81 ?_
            refine z_aload_n 0 dX1_learnTop_82 rfl rfl ?_
            refine z_dup dX1_learnTop_83 rfl ?_
            refine z_geti fl_RX1_102 (by decide) rfl rfl dX1_learnTop_84 ?_
            rw [zu_ne (by decide), hT.1]
            refine z_iconst dX1_learnTop_87 ?_
            refine z_iadd dX1_learnTop_88 ?_
            refine z_puti fp_RX1_102 (by decide) rfl rfl dX1_learnTop_89 ?_
            refine z_iinc 2 (L' := [(0, _), (1, _), (2, _)]) dX1_learnTop_92 (by decide) rfl rfl rfl ?_
            refine z_goto 33 dX1_learnTop_95 (by decide) ?_
            rw [decide_eq_false_iff_not] at h_69
            refine ih (m + 1) _ (T ++ [m]) ((hf.up (by decide)).up (by decide)) (fun i hi => by rw [zu_row, if_neg hi, zu_ne (by decide)]; exact h32 i hi) ⟨by rw [zu_at, List.length_append]; rfl, fun i b hi => ?_⟩ ⟨?_, List.mem_append_left _ hk.2.1, fun b hb => ?_, fun i b hi hb j hj hm2 => ?_⟩ (by rw [List.length_append]; omega) (by rw [List.getElem?_append_left hkl]; exact hka) (fun j hj hm2 => ?_) (by omega) (by omega)
            · rw [zu_ne (by decide), zu_row]
              split
              · rename_i e2
                subst e2
                rw [List.getElem?_append_right (Nat.le_refl _), Nat.sub_self] at hi
                cases hi; rfl
              · rename_i e2
                have hi2 := (List.getElem?_eq_some_iff.mp hi).1
                rw [List.length_append, List.length_singleton] at hi2
                rw [List.getElem?_append_left (by omega)] at hi
                exact hT.2 i b hi
            · rw [List.nodup_append]
              exact ⟨hk.1, by simp, fun b hb b2 hb2 e => by rw [List.mem_singleton] at hb2; exact h_69 (by rw [← hb2, ← e]; exact hb)⟩
            · rcases List.mem_append.mp hb with hb | hb
              · exact hk.2.2.1 b hb
              · rw [List.mem_singleton] at hb
                subst hb
                exact ⟨by omega, (hk.2.2.1 a (List.mem_of_getElem? hka)).2.st (by omega) h_61⟩
            · rw [List.getElem?_append_left (by omega)] at hb
              exact List.mem_append_left _ (hk.2.2.2 i b hi hb j hj hm2)
            · by_cases e : j = m
              · subst e; exact List.mem_append_right _ (List.mem_singleton.mpr rfl)
              · exact List.mem_append_left _ (hd j (by omega) hm2)
theorem lp1_learnTop {l : Launch} {x : zX} {g : zG} {n : Nat} {Q : Option Value → zD → Prop} {d0 : zD} {h : Hl} {c : Nat} (hg : zAmOk g) (w : Wf h) (O : OP d0 h) (B : BM d0 (mtx h)) (hn : 2 < n) (hQ : ∀ d T, zF [32, 36] d0 d → (∀ i, i ≠ 9 → d 32 i = d0 32 i) → TP d T → Tok h c T T.length → Q none d) : ∀ r k d T, zF [32, 36] d0 d → (∀ i, i ≠ 9 → d 32 i = d0 32 i) → TP d T → Tok h c T k → k ≤ T.length → 66 - k < r → zV l x g mX1_learnTop n Q 17 [(0, zr g 32), (1, zi (k : Int))] [] d := by
  have hol2 : (openL h).length ≤ 65 := opL_len w 256
  intro r
  induction r with
  | zero => intro k d T hf h32 hT hk hkl hr; omega
  | succ r ih =>
    intro k d T hf h32 hT hk hkl hr
    have O' : OP d h := ⟨by rw [h32 4 (by decide)]; exact O.1, fun i f hi => by rw [hf 33 (by decide)]; exact O.2 i f hi⟩
    have B' : BM d (mtx h) := B.of (hf 35 (by decide))
    have htl := hk.len
    refine z_iload_n 1 dX1_learnTop_17 rfl rfl ?_
    refine z_aload_n 0 dX1_learnTop_18 rfl rfl ?_
    refine z_geti fl_RX1_102 (by decide) rfl rfl dX1_learnTop_19 ?_
    rw [hT.1]
    refine z_icmp_ge 104 (by omega) (by omega) dX1_learnTop_22 (by decide) (fun h_22 => ?_) (fun h_22 => ?_)
    · exact z_vret rfl dX1_learnTop_104 (hQ d T hf h32 hT (by rw [show k = T.length by omega] at hk; exact hk))
    · refine z_iload_n 1 dX1_learnTop_25 rfl rfl ?_
      refine z_bipush dX1_learnTop_26 (by decide) ?_
      refine z_icmp_ge 104 (by omega) (by omega) dX1_learnTop_28 (by decide) (fun h_28 => absurd h_28 (by omega)) (fun h_28 => ?_)
      refine z_iconst dX1_learnTop_31 ?_
      refine z_istore_n (L' := [(0, _), (1, _), (2, _)]) dX1_learnTop_32 rfl (by decide) rfl rfl ?_
      obtain ⟨a, ha⟩ : ∃ a, T[k]? = some a := ⟨_, List.getElem?_eq_getElem (show k < T.length by omega)⟩
      refine lp2_learnTop (d0 := d) (c := c) (k := k) (a := a) hg w O' B' hn (fun d' T' hf' h32' hT' hkl' hk' => ?_) ((openL h).length + 1) 0 d T zF.rf (fun _ _ => rfl) hT hk (by omega) ha (fun j hj => absurd hj (by omega)) (by omega) (by omega)
      refine z_iinc 1 (L' := [(0, _), (1, _)]) dX1_learnTop_98 (by decide) rfl rfl rfl ?_
      refine z_goto 17 dX1_learnTop_101 (by decide) ?_
      exact ih (k + 1) d' T' (hf.tr hf') (fun i hi => (h32' i hi).trans (h32 i hi)) hT' hk' (by omega) (by omega)
/-- what is known of who beats whom -/
def BKn (d : zD) (h : Hl) : Prop := BM d (mtx h) ∧ ∃ (T : List Nat) (c : Nat), TP d T ∧ Tok h c T T.length ∧ c < (openL h).length ∧ ∀ i, i < (openL h).length → cntB (mtx h i) 96 ≤ cntB (mtx h c) 96
theorem t_learnTop (l : Launch) {g : zG} (hg : zAmOk g) {d : zD} {h : Hl} (w : Wf h) (O : OP d h) (B : BM d (mtx h)) : zC l g mX1_learnTop 4 [zr g 32] d (fun r d' => r = none ∧ (zF [32, 36] d d' ∧ (∀ i, i ≠ 9 → d' 32 i = d 32 i) ∧ BKn d' h)) := by
  refine zC_of (L := [(0, _)]) mk_X1_learnTop (Nat.le_of_ble_eq_true rfl) hg rfl (fun x => ?_)
  refine z_aload_n 0 dX1_learnTop_0 rfl rfl ?_
  refine z_getr fl_RX1_21 (by decide) rfl rfl dX1_learnTop_1 ?_
  refine z_iconst dX1_learnTop_4 ?_
  refine z_aload_n 0 dX1_learnTop_5 rfl rfl ?_
  refine z_cv (t_indexOfMostBeating l hg w O B) mk_X1_indexOfMostBeating mi_X1_indexOfMostBeating ml_RX1_98 (by omega) (by decide) rfl rfl rfl rfl (Nat.le_of_ble_eq_true rfl) dX1_learnTop_6 (fun r_6 d_6 q_6 => ?_)
  obtain ⟨⟨c, c1, c2, rfl⟩, rfl⟩ := q_6
  show zV l x g mX1_learnTop 4 _ _ _ [_, _, _] _
  refine z_iast 0 (by decide) rfl rfl (by omega) (by decide) dX1_learnTop_9 ?_
  refine z_aload_n 0 dX1_learnTop_10 rfl rfl ?_
  refine z_iconst dX1_learnTop_11 ?_
  refine z_puti fp_RX1_102 (by decide) rfl rfl dX1_learnTop_12 ?_
  refine z_iconst dX1_learnTop_15 ?_
  refine z_istore_n (L' := [(0, _), (1, _)]) dX1_learnTop_16 rfl (by decide) rfl rfl ?_
  refine lp1_learnTop (d0 := zu (zu d_6 36 0 (c : Int)) 32 9 1) (c := c) hg w ⟨by rw [zu_row, if_neg (by decide), zu_ne (by decide)]; exact O.1, fun i f hi => by rw [zu_ne (by decide), zu_ne (by decide)]; exact O.2 i f hi⟩ (B.of (by rw [zu_ne (by decide), zu_ne (by decide)])) (by omega) (fun d' T hf' h32 hT hk => ?_) 67 0 _ [c] zF.rf (fun _ _ => rfl) ⟨by rw [zu_at]; rfl, fun i a hi => ?_⟩ ⟨by simp, by simp, fun a ha => by rw [List.mem_singleton] at ha; subst ha; exact ⟨c1, clo.rf⟩, fun i a hi => absurd hi (by omega)⟩ (by simp) (by omega)
  · refine ⟨rfl, fun p hp => ?_, fun i hi => ?_, B.of ?_, T, c, hT, hk, c1, c2⟩
    · rw [hf' p hp, zu_ne (fun z => hp (by simp_all)), zu_ne (fun z => hp (by simp_all))]
    · rw [h32 i hi, zu_row, if_neg hi, zu_ne (by decide)]
    · rw [hf' 35 (by decide), zu_ne (by decide), zu_ne (by decide)]
  · rw [zu_ne (by decide)]
    cases i with
    | zero => cases hi; exact zu_at _ _ _ _
    | succ i => simp at hi
def mtxD (h : Hl) (i j a b : Nat) : Bool := done i j a b && btF h (opG h a) (opG h b)
theorem mtxD_s (h : Hl) {i j : Nat} (hij : j < i) (a b : Nat) : (mtxD h i j a b || (decide (i = a) && (decide (j = b) && btF h (opG h i) (opG h j))) || (decide (j = a) && (decide (i = b) && btF h (opG h j) (opG h i)))) = mtxD h i (j + 1) a b := by
  unfold mtxD done
  by_cases e1 : a = i ∧ b = j
  · obtain ⟨rfl, rfl⟩ := e1
    rw [decide_eq_true (show a = a from rfl), decide_eq_true (show b = b from rfl), decide_eq_false (show ¬ b = a by omega)]
    have q : decide (a = a ∧ b < b + 1) = true := decide_eq_true ⟨rfl, by omega⟩
    rw [q]
    have q2 : (decide (a < a ∧ b < a) || (decide (a = a ∧ b < b) || decide (b = a ∧ a < b))) = false := by simp; omega
    rw [q2]
    simp
  · by_cases e2 : a = j ∧ b = i
    · obtain ⟨rfl, rfl⟩ := e2
      rw [decide_eq_true (show a = a from rfl), decide_eq_true (show b = b from rfl), decide_eq_false (show ¬ b = a by omega)]
      have q : decide (b = b ∧ a < a + 1) = true := decide_eq_true ⟨rfl, by omega⟩
      rw [q]
      have q2 : (decide (a < b ∧ b < b) || (decide (a = b ∧ b < a) || decide (b = b ∧ a < a))) = false := by simp; omega
      rw [q2]
      simp
    · have q1 : (decide (i = a) && (decide (j = b) && btF h (opG h i) (opG h j))) = false := by
        by_cases z : i = a
        · rw [decide_eq_false (show ¬ j = b by omega)]; simp
        · rw [decide_eq_false z]; rfl
      have q2 : (decide (j = a) && (decide (i = b) && btF h (opG h j) (opG h i))) = false := by
        by_cases z : j = a
        · rw [decide_eq_false (show ¬ i = b by omega)]; simp
        · rw [decide_eq_false z]; rfl
      rw [q1, q2, Bool.or_false, Bool.or_false]
      congr 1
      congr 1
      congr 1
      · exact decide_eq_decide.mpr (by omega)
      · exact decide_eq_decide.mpr (by omega)
theorem mtxD_n (h : Hl) (i a b : Nat) : mtxD h i i a b = mtxD h (i + 1) 0 a b := by
  unfold mtxD done
  by_cases e : a = i ∧ b = i
  · obtain ⟨rfl, rfl⟩ := e
    rw [btF_irr]; simp
  · congr 1
    have q1 : decide (a = i + 1 ∧ b < 0) = false := decide_eq_false (by omega)
    have q2 : decide (b = i + 1 ∧ a < 0) = false := decide_eq_false (by omega)
    rw [q1, q2, Bool.or_false, Bool.or_false]
    have q : (decide (a < i ∧ b < i) || (decide (a = i ∧ b < i) || decide (b = i ∧ a < i))) = decide ((a < i ∧ b < i) ∨ (a = i ∧ b < i) ∨ (b = i ∧ a < i)) := by simp
    rw [q]
    exact decide_eq_decide.mpr (by omega)
theorem mtxD_0 (h : Hl) (a b : Nat) : mtxD h 0 0 a b = false := by unfold mtxD done; simp
theorem mtxD_all (h : Hl) (a b : Nat) : mtxD h (openL h).length 0 a b = mtx h a b := by
  unfold mtxD done mtx
  have q1 : decide (a = (openL h).length ∧ b < 0) = false := decide_eq_false (by omega)
  have q2 : decide (b = (openL h).length ∧ a < 0) = false := decide_eq_false (by omega)
  rw [q1, q2, Bool.or_false, Bool.or_false]
  by_cases h1 : a < (openL h).length <;> by_cases h2 : b < (openL h).length <;> simp [h1, h2]
theorem lp2_learnBeaten {l : Launch} {x : zX} {g : zG} {n : Nat} {Q : Option Value → zD → Prop} {d0 : zD} {h : Hl} {i : Nat} (hg : zAmOk g) (w : Wf h) (H : HC 2 d0 h) (K : LK d0 h) (O : OP d0 h) (hi : i < (openL h).length) (hn : 3 < n) (hQ : ∀ d, zF [35] d0 d → BM d (mtxD h (i + 1) 0) → zV l x g mX1_learnBeaten n Q 45 [(0, zr g 32), (1, zi (i : Int))] [] d) : ∀ r j d, zF [35] d0 d → BM d (mtxD h i j) → j ≤ i → i - j < r → zV l x g mX1_learnBeaten n Q 28 [(0, zr g 32), (1, zi (i : Int)), (2, zi (j : Int))] [] d := by
  have hol2 : (openL h).length ≤ 65 := opL_len w 256
  intro r
  induction r with
  | zero => intro j d hf hB hj hr; omega
  | succ r ih =>
    intro j d hf hB hj hr
    have H' : HC 2 d h := hf.HC (by decide) H
    have K' : LK d h := K.of (hf 25 (by decide))
    have O' : OP d h := ⟨by rw [hf 32 (by decide)]; exact O.1, fun i f hi => by rw [hf 33 (by decide)]; exact O.2 i f hi⟩
    refine z_iload_n 2 dX1_learnBeaten_28 rfl rfl ?_
    refine z_iload_n 1 dX1_learnBeaten_29 rfl rfl ?_
    refine z_icmp_ge 45 (by omega) (by omega) dX1_learnBeaten_30 (by decide) (fun h_30 => ?_) (fun h_30 => ?_)
    · refine z_sub (L' := [(0, _), (1, _)]) [0, 1] rfl ?_
      refine hQ d hf (hB.congr (fun a b _ _ => ?_))
      rw [show j = i by omega, mtxD_n]
    · refine z_aload_n 0 dX1_learnBeaten_33 rfl rfl ?_
      refine z_iload_n 1 dX1_learnBeaten_34 rfl rfl ?_
      refine z_iload_n 2 dX1_learnBeaten_35 rfl rfl ?_
      refine z_cv (t_learnPair l hg w H' K' O' hB (i := i) (j := j) hi (by omega)) mk_X1_learnPair mi_X1_learnPair ml_RX1_67 (by omega) (by decide) rfl rfl rfl rfl (Nat.le_of_ble_eq_true rfl) dX1_learnBeaten_36 (zvoid fun d_36 q_36 => ?_)
      refine z_iinc 2 (L' := [(0, _), (1, _), (2, _)]) dX1_learnBeaten_39 (by decide) rfl rfl rfl ?_
      refine z_goto 28 dX1_learnBeaten_42 (by decide) ?_
      exact ih (j + 1) d_36 (hf.tr q_36.1) (q_36.2.congr (fun a b _ _ => mtxD_s h (by omega) a b)) (by omega) (by omega)
theorem lp1_learnBeaten {l : Launch} {x : zX} {g : zG} {n : Nat} {Q : Option Value → zD → Prop} {d0 : zD} {h : Hl} (hg : zAmOk g) (w : Wf h) (H : HC 2 d0 h) (K : LK d0 h) (O : OP d0 h) (hn : 3 < n) (hQ : ∀ d, zF [35] d0 d → BM d (mtx h) → zV l x g mX1_learnBeaten n Q 51 [(0, zr g 32)] [] d) : ∀ r i d, zF [35] d0 d → BM d (mtxD h i 0) → i ≤ (openL h).length → (openL h).length - i < r → zV l x g mX1_learnBeaten n Q 18 [(0, zr g 32), (1, zi (i : Int))] [] d := by
  have hol2 : (openL h).length ≤ 65 := opL_len w 256
  intro r
  induction r with
  | zero => intro i d hf hB hj hr; omega
  | succ r ih =>
    intro i d hf hB hj hr
    have H' : HC 2 d h := hf.HC (by decide) H
    have K' : LK d h := K.of (hf 25 (by decide))
    have O' : OP d h := ⟨by rw [hf 32 (by decide)]; exact O.1, fun i f hi => by rw [hf 33 (by decide)]; exact O.2 i f hi⟩
    refine z_iload_n 1 dX1_learnBeaten_18 rfl rfl ?_
    refine z_aload_n 0 dX1_learnBeaten_19 rfl rfl ?_
    refine z_geti fl_RX1_53 (by decide) rfl rfl dX1_learnBeaten_20 ?_
    rw [O'.1]
    refine z_icmp_ge 51 (by omega) (by omega) dX1_learnBeaten_23 (by decide) (fun h_23 => ?_) (fun h_23 => ?_)
    · refine z_sub (L' := [(0, _)]) [0] rfl ?_
      refine hQ d hf (hB.congr (fun a b _ _ => ?_))
      rw [show i = (openL h).length by omega, mtxD_all]
    · refine z_iconst dX1_learnBeaten_26 ?_
      refine z_istore_n (L' := [(0, _), (1, _), (2, _)]) dX1_learnBeaten_27 rfl (by decide) rfl rfl ?_
      refine lp2_learnBeaten (d0 := d) (i := i) hg w H' K' O' (by omega) hn (fun d' hf' hB' => ?_) (i + 1) 0 d zF.rf hB (by omega) (by omega)
      refine z_iinc 1 (L' := [(0, _), (1, _)]) dX1_learnBeaten_45 (by decide) rfl rfl rfl ?_
      refine z_goto 18 dX1_learnBeaten_48 (by decide) ?_
      exact ih (i + 1) d' (hf.tr hf') hB' (by omega) (by omega)
theorem t_learnBeaten (l : Launch) {g : zG} (hg : zAmOk g) {d : zD} {h : Hl} (w : Wf h) (H : HC 2 d h) (K : LK d h) (O : OP d h) {b : Bool} (hb : d 32 7 = zb b) (hk : b = true → BKn d h) : zC l g mX1_learnBeaten 5 [zr g 32] d (fun r d' => r = none ∧ (zF [32, 35, 36] d d' ∧ OP d' h ∧ d' 32 7 = 1 ∧ BKn d' h)) := by
  refine zC_of (L := [(0, _)]) mk_X1_learnBeaten (Nat.le_of_ble_eq_true rfl) hg rfl (fun x => ?_)
  refine z_aload_n 0 dX1_learnBeaten_0 rfl rfl ?_
  refine z_geti fl_RX1_63 (by decide) rfl rfl dX1_learnBeaten_1 ?_
  rw [hb]
  refine z_if_eq_b 8 dX1_learnBeaten_4 (by decide) (fun h_4 => ?_) (fun h_4 => ?_)
  · refine z_aload_n 0 dX1_learnBeaten_8 rfl rfl ?_
    refine z_getr fl_RX1_18 (by decide) rfl rfl dX1_learnBeaten_9 ?_
    refine z_iconst dX1_learnBeaten_12 ?_
    refine z_cs (t_fill_35 l hg d) mk_J7_fill_53178 ms_J7_fill_53178 ml_RX1_36 (by omega) rfl rfl (Nat.le_of_ble_eq_true rfl) dX1_learnBeaten_13 (zvoid fun d_13 q_13 => ?_)
    obtain ⟨f1, f2⟩ := q_13
    have H1 : HC 2 d_13 h := f1.HC (by decide) H
    have K1 : LK d_13 h := K.of (f1 25 (by decide))
    have O1 : OP d_13 h := ⟨by rw [f1 32 (by decide)]; exact O.1, fun i f hi => by rw [f1 33 (by decide)]; exact O.2 i f hi⟩
    refine z_iconst dX1_learnBeaten_16 ?_
    refine z_istore_n (L' := [(0, _), (1, _)]) dX1_learnBeaten_17 rfl (by decide) rfl rfl ?_
    refine lp1_learnBeaten (d0 := d_13) hg w H1 K1 O1 (by omega) (fun d1 hf1 hB1 => ?_) ((openL h).length + 1) 0 d_13 zF.rf (fun i w hi hw => ⟨0, f2 _ (by omega), by decide, fun b hb => by rw [mtxD_0, Nat.zero_testBit]⟩) (by omega) (by omega)
    have O2 : OP d1 h := ⟨by rw [hf1 32 (by decide)]; exact O1.1, fun i f hi => by rw [hf1 33 (by decide)]; exact O1.2 i f hi⟩
    refine z_aload_n 0 dX1_learnBeaten_51 rfl rfl ?_
    refine z_cv (t_learnTop l hg w O2 hB1) mk_X1_learnTop mi_X1_learnTop ml_RX1_71 (by omega) (by decide) rfl rfl rfl rfl (Nat.le_of_ble_eq_true rfl) dX1_learnBeaten_52 (zvoid fun d_52 q_52 => ?_)
    obtain ⟨t1, t2, t3, T, c, t4, t5⟩ := q_52
    refine z_aload_n 0 dX1_learnBeaten_55 rfl rfl ?_
    refine z_iconst dX1_learnBeaten_56 ?_
    refine z_putg fp_RX1_63 (by decide) rfl rfl (by decide +kernel) (by decide +kernel) dX1_learnBeaten_57 ?_
    exact z_vret rfl dX1_learnBeaten_60 (⟨rfl, fun p hp => by rw [zu_ne (fun z => hp (by simp_all)), t1 p (fun z => hp (by simp_all)), hf1 p (fun z => hp (by simp_all)), f1 p (fun z => hp (by simp_all))], ⟨by rw [zu_row, if_neg (by decide), t2 4 (by decide)]; exact O2.1, fun i f hi => by rw [zu_ne (by decide), t1 33 (by decide)]; exact O2.2 i f hi⟩, zu_at _ _ _ _, t3.of (zu_ne (by decide)), T, c, ⟨by rw [zu_row, if_neg (by decide)]; exact t4.1, fun i a hi => by rw [zu_ne (by decide)]; exact t4.2 i a hi⟩, t5⟩)
  · exact z_vret rfl dX1_learnBeaten_7 (⟨rfl, zF.rf, O, by rw [hb, h_4]; rfl, hk h_4⟩)
