/-! the reference: open forms, who beats whom -/
def oB (h : Hl) (f : Nat) : Bool := openB h (2 ^ hN h) f
theorem opL_so (h : Hl) (k : Nat) : opL h (k + 1) = opL h k ++ (if oB h k = true then [k] else []) := opL_s h k
def OM (d : zD) (h : Hl) : Prop := ∀ f, f < 256 → d 63 f = zb (oB h f)
theorem OM.of {d d' : zD} {h : Hl} (H : OM d h) (e : d' 63 = d 63) : OM d' h := fun f hf => by rw [e]; exact H f hf
theorem t8_laysOpen (l : Launch) {g : zG} (hg : zAmOk g) {d : zD} {h : Hl} (w : Wf h) (H : HM d h) : zC l g mX8_laysOpen 4 [zr g 37] d (fun r d' => r = some (zi ((openL h).length : Nat)) ∧ zF [59, 63] d d' ∧ LKM d' h ∧ OM d' h) := by
  have w3 := w.2.2.1
  have hp2 := p64 w3
  have hfr : ∀ d1, zF [63] d d1 → HM d1 h := fun d1 F => HM.of H F (by decide)
  have key3 : ∀ (x : zX) (r k : Nat) (d1 : zD), zF [63] d d1 → OM d1 h → k ≤ 256 → 256 - k < r → zV l x g mX8_laysOpen 4 (fun r d' => r = some (zi ((openL h).length : Nat)) ∧ zF [59, 63] d d' ∧ LKM d' h ∧ OM d' h) 65 [(0, zr g 37), (1, zi ((opL h k).length : Nat)), (2, zi (k : Int))] [] d1 := by
    intro x r
    induction r with
    | zero => intro k d1 a1 a2 a3 hr; omega
    | succ r ih =>
      intro k d1 F OO hk hr
      have hs := opL_so h k
      refine z_iload_n 2 dX8_laysOpen_65 rfl rfl ?_
      refine z_sipush dX8_laysOpen_66 (by decide) ?_
      refine z_icmp_ge 95 (by omega) (by omega) dX8_laysOpen_69 (by decide) (fun h_69 => ?_) (fun h_69 => ?_)
      · refine z_aload_n 0 dX8_laysOpen_95 rfl rfl ?_
        refine z_cv (t8_laysLikes l hg w (hfr d1 F)) mk_X8_laysLikes mi_X8_laysLikes ml_RX8_272 (by omega) (by decide) rfl rfl rfl rfl (Nat.le_of_ble_eq_true rfl) dX8_laysOpen_96 (zvoid fun d_96 q_96 => ?_)
        obtain ⟨s1, s2⟩ := q_96
        refine z_iload_n 1 dX8_laysOpen_99 rfl rfl ?_
        rw [show k = 256 by omega]
        exact z_iret rfl dX8_laysOpen_100 (⟨rfl, (zF.mono F (by decide)).tr (zF.mono s1 (by decide)), s2, OO.of (s1 63 (by decide))⟩)
      · refine z_iload_n 1 dX8_laysOpen_72 rfl rfl ?_
        refine z_aload_n 0 dX8_laysOpen_73 rfl rfl ?_
        refine z_getr fl_RX8_85 (by decide) rfl rfl dX8_laysOpen_74 ?_
        refine z_iload_n 2 dX8_laysOpen_77 rfl rfl ?_
        refine z_bald k (by decide) rfl rfl (by omega) (by decide) dX8_laysOpen_78 ?_
        rw [OO k (by omega)]
        refine z_if_eq_b 86 dX8_laysOpen_79 (by decide) (fun h_79 => ?_) (fun h_79 => ?_)
        · refine z_iconst dX8_laysOpen_86 ?_
          refine z_iadd dX8_laysOpen_87 ?_
          refine z_istore_n (L' := [(0, _), (1, _), (2, _)]) dX8_laysOpen_88 rfl (by decide) rfl rfl ?_
          refine z_iinc 2 (L' := [(0, _), (1, _), (2, _)]) dX8_laysOpen_89 (by decide) rfl rfl rfl ?_
          refine z_goto 65 dX8_laysOpen_92 (by decide) ?_
          have hs' : (opL h (k + 1)).length = (opL h k).length := by rw [hs, if_neg (by rw [h_79]; decide), List.append_nil]
          refine z_LL _ ?_ (ih (k + 1) d1 F OO (by omega) (by omega))
          rw [hs', show (((opL h k).length : Nat) : Int) = ((opL h k).length : Int) + 0 by omega]; rfl
        · refine z_iconst dX8_laysOpen_82 ?_
          refine z_goto 87 dX8_laysOpen_83 (by decide) ?_
          refine z_iadd dX8_laysOpen_87 ?_
          refine z_istore_n (L' := [(0, _), (1, _), (2, _)]) dX8_laysOpen_88 rfl (by decide) rfl rfl ?_
          refine z_iinc 2 (L' := [(0, _), (1, _), (2, _)]) dX8_laysOpen_89 (by decide) rfl rfl rfl ?_
          refine z_goto 65 dX8_laysOpen_92 (by decide) ?_
          have hs' : (opL h (k + 1)).length = (opL h k).length + 1 := by rw [hs, if_pos h_79, List.length_append]; rfl
          refine z_LL _ ?_ (ih (k + 1) d1 F OO (by omega) (by omega))
          rw [hs']; rfl
  have key2 : ∀ (x : zX) (r k : Nat) (d1 : zD), zF [63] d d1 → (∀ f, f < 256 → d1 63 f = zb (openB h k f)) → k ≤ 2 ^ hN h → 2 ^ hN h - k < r → zV l x g mX8_laysOpen 4 (fun r d' => r = some (zi ((openL h).length : Nat)) ∧ zF [59, 63] d d' ∧ LKM d' h ∧ OM d' h) 32 [(0, zr g 37), (1, zi (k : Int))] [] d1 := by
    intro x r
    induction r with
    | zero => intro k d1 a1 a2 a3 hr; omega
    | succ r ih =>
      intro k d1 F OO hk hr
      have H1 := hfr d1 F
      have h1 : d1 38 1 = hN h := H1.1.2.1
      have hf := formF_lt w k
      refine z_iload_n 1 dX8_laysOpen_32 rfl rfl ?_
      refine z_iconst dX8_laysOpen_33 ?_
      refine z_aload_n 0 dX8_laysOpen_34 rfl rfl ?_
      refine z_getr fl_RX8_7 (by decide) rfl rfl dX8_laysOpen_35 ?_
      refine z_iconst dX8_laysOpen_38 ?_
      refine z_iald 1 (by decide) rfl rfl (by decide) (by decide) dX8_laysOpen_39 ?_
      rw [h1]
      refine z_ishl _ (zshl (s := 1) (m := hN h) (by omega) (by omega)) dX8_laysOpen_40 ?_
      rw [Nat.one_mul]
      refine z_icmp_ge 61 (by omega) (by omega) dX8_laysOpen_41 (by decide) (fun h_41 => ?_) (fun h_41 => ?_)
      · refine z_iconst dX8_laysOpen_61 ?_
        refine z_istore_n (L' := [(0, _), (1, _)]) dX8_laysOpen_62 rfl (by decide) rfl rfl ?_
        refine z_iconst dX8_laysOpen_63 ?_
        refine z_istore_n (L' := [(0, _), (1, _), (2, _)]) dX8_laysOpen_64 rfl (by decide) rfl rfl ?_
        have e : k = 2 ^ hN h := by omega
        subst e
        exact key3 x 257 0 d1 F OO (by omega) (by omega)
      · refine z_aload_n 0 dX8_laysOpen_44 rfl rfl ?_
        refine z_getr fl_RX8_85 (by decide) rfl rfl dX8_laysOpen_45 ?_
        refine z_aload_n 0 dX8_laysOpen_48 rfl rfl ?_
        refine z_iload_n 1 dX8_laysOpen_49 rfl rfl ?_
        refine z_cv (t8_formOf l hg w H1 (s := k)) mk_X8_formOf mi_X8_formOf ml_RX8_243 (by omega) (by decide) rfl rfl rfl rfl (Nat.le_of_ble_eq_true rfl) dX8_laysOpen_50 (zpure ?_)
        refine z_iconst dX8_laysOpen_53 ?_
        refine z_top (zb true) rfl ?_
        refine z_bast (formF h k) (by decide) rfl rfl (by omega) (by decide) dX8_laysOpen_54 ?_
        refine z_iinc 1 (L' := [(0, _), (1, _)]) dX8_laysOpen_55 (by decide) rfl rfl rfl ?_
        refine z_goto 32 dX8_laysOpen_58 (by decide) ?_
        refine ih (k + 1) _ (F.up (by decide)) (fun f hf2 => ?_) (by omega) (by omega)
        rw [zu_row, openB_s]
        by_cases e : f = formF h k
        · rw [if_pos e, decide_eq_true e.symm, Bool.or_true]
        · rw [if_neg e, decide_eq_false (fun z => e z.symm), Bool.or_false]; exact OO f hf2
  have key1 : ∀ (x : zX) (r k : Nat) (d1 : zD), zF [63] d d1 → (∀ f, f < k → d1 63 f = zb (decide (f = 0))) → k ≤ 256 → 256 - k < r → zV l x g mX8_laysOpen 4 (fun r d' => r = some (zi ((openL h).length : Nat)) ∧ zF [59, 63] d d' ∧ LKM d' h ∧ OM d' h) 2 [(0, zr g 37), (1, zi (k : Int))] [] d1 := by
    intro x r
    induction r with
    | zero => intro k d1 a1 a2 a3 hr; omega
    | succ r ih =>
      intro k d1 F OO hk hr
      refine z_iload_n 1 dX8_laysOpen_2 rfl rfl ?_
      refine z_sipush dX8_laysOpen_3 (by decide) ?_
      refine z_icmp_ge 30 (by omega) (by omega) dX8_laysOpen_6 (by decide) (fun h_6 => ?_) (fun h_6 => ?_)
      · refine z_iconst dX8_laysOpen_30 ?_
        refine z_istore_n (L' := [(0, _), (1, _)]) dX8_laysOpen_31 rfl (by decide) rfl rfl ?_
        have h0 : 0 < 2 ^ hN h := Nat.two_pow_pos _
        exact key2 x (2 ^ hN h + 1) 0 d1 F (fun f hf => by rw [OO f (by omega)]; unfold openB; simp) (by omega) (by omega)
      · refine z_aload_n 0 dX8_laysOpen_9 rfl rfl ?_
        refine z_getr fl_RX8_85 (by decide) rfl rfl dX8_laysOpen_10 ?_
        refine z_iload_n 1 dX8_laysOpen_13 rfl rfl ?_
        refine z_iload_n 1 dX8_laysOpen_14 rfl rfl ?_
        refine z_if_ne 22 (by omega) dX8_laysOpen_15 (by decide) (fun h_15 => ?_) (fun h_15 => ?_)
        · refine z_iconst dX8_laysOpen_22 ?_
          refine z_top (zb (decide (k = 0))) (by rw [decide_eq_false (by omega)]; rfl) ?_
          refine z_bast k (by decide) rfl rfl (by omega) (by decide) dX8_laysOpen_23 ?_
          refine z_iinc 1 (L' := [(0, _), (1, _)]) dX8_laysOpen_24 (by decide) rfl rfl rfl ?_
          refine z_goto 2 dX8_laysOpen_27 (by decide) ?_
          refine ih (k + 1) _ (F.up (by decide)) (fun f hf => ?_) (by omega) (by omega)
          rw [zu_row]
          by_cases e : f = k
          · rw [if_pos e, e]
          · rw [if_neg e]; exact OO f (by omega)
        · refine z_iconst dX8_laysOpen_18 ?_
          refine z_goto 23 dX8_laysOpen_19 (by decide) ?_
          refine z_top (zb (decide (k = 0))) (by rw [decide_eq_true (by omega)]; rfl) ?_
          refine z_bast k (by decide) rfl rfl (by omega) (by decide) dX8_laysOpen_23 ?_
          refine z_iinc 1 (L' := [(0, _), (1, _)]) dX8_laysOpen_24 (by decide) rfl rfl rfl ?_
          refine z_goto 2 dX8_laysOpen_27 (by decide) ?_
          refine ih (k + 1) _ (F.up (by decide)) (fun f hf => ?_) (by omega) (by omega)
          rw [zu_row]
          by_cases e : f = k
          · rw [if_pos e, e]
          · rw [if_neg e]; exact OO f (by omega)
  refine zC_of (L := [(0, _)]) mk_X8_laysOpen (Nat.le_of_ble_eq_true rfl) hg rfl (fun x => ?_)
  refine z_iconst dX8_laysOpen_0 ?_
  refine z_istore_n (L' := [(0, _), (1, _)]) dX8_laysOpen_1 rfl (by decide) rfl rfl ?_
  exact key1 x 257 0 d zF.rf (fun f hf => absurd hf (by omega)) (by omega) (by omega)
theorem t8_beats (l : Launch) {g : zG} (hg : zAmOk g) {d : zD} {h : Hl} (w : Wf h) (H : HM d h) (K : LKM d h) {f o : Nat} (hf : f < 256) (ho : o < 256) : zC l g mX8_beats 3 [zr g 37, zi (f : Int), zi (o : Int)] d (zpu (zi (zb (btF h f o))) d) := by
  have a1 := prefF_le w f o
  have a2 := prefF_le w o f
  refine zC_of (L := [(0, _), (1, _), (2, _)]) mk_X8_beats (Nat.le_of_ble_eq_true rfl) hg rfl (fun x => ?_)
  refine z_aload_n 0 dX8_beats_0 rfl rfl ?_
  refine z_iload_n 1 dX8_beats_1 rfl rfl ?_
  refine z_iload_n 2 dX8_beats_2 rfl rfl ?_
  refine z_cv (t8_preferring l hg w H K hf ho) mk_X8_preferring mi_X8_preferring ml_RX8_259 (by omega) (by decide) rfl rfl rfl rfl (Nat.le_of_ble_eq_true rfl) dX8_beats_3 (zpure ?_)
  refine z_aload_n 0 dX8_beats_6 rfl rfl ?_
  refine z_iload_n 2 dX8_beats_7 rfl rfl ?_
  refine z_iload_n 1 dX8_beats_8 rfl rfl ?_
  refine z_cv (t8_preferring l hg w H K ho hf) mk_X8_preferring mi_X8_preferring ml_RX8_259 (by omega) (by decide) rfl rfl rfl rfl (Nat.le_of_ble_eq_true rfl) dX8_beats_9 (zpure ?_)
  refine z_icmp_le 19 (by omega) (by omega) dX8_beats_12 (by decide) (fun h_12 => ?_) (fun h_12 => ?_)
  · refine z_iconst dX8_beats_19 ?_
    exact z_bret (b := false) rfl dX8_beats_20 (zret_b (show false = btF h f o from (decide_eq_false (by omega)).symm))
  · refine z_iconst dX8_beats_15 ?_
    refine z_goto 20 dX8_beats_16 (by decide) ?_
    exact z_bret (b := true) rfl dX8_beats_20 (zret_b (show true = btF h f o from (decide_eq_true (by omega)).symm))
theorem t8_beaten (l : Launch) {g : zG} (hg : zAmOk g) {d : zD} {h : Hl} (w : Wf h) (H : HM d h) (K : LKM d h) (O : OM d h) {f : Nat} (hf : f < 256) : zC l g mX8_beaten 4 [zr g 37, zi (f : Int)] d (zpu (zi (cntB (fun o => oB h o && btF h f o) 256 : Nat)) d) := by
  have key : ∀ (x : zX) (r k : Nat), k ≤ 256 → 256 - k < r → zV l x g mX8_beaten 4 (zpu (zi (cntB (fun o => oB h o && btF h f o) 256 : Nat)) d) 4 [(0, zr g 37), (1, zi (f : Int)), (2, zi (cntB (fun o => oB h o && btF h f o) k : Nat)), (3, zi (k : Int))] [] d := by
    intro x r
    induction r with
    | zero => intro k a1 hr; omega
    | succ r ih =>
      intro k hk hr
      have hcl := cntB_le (fun o => oB h o && btF h f o) k
      refine z_iload_n 3 dX8_beaten_4 rfl rfl ?_
      refine z_sipush dX8_beaten_5 (by decide) ?_
      refine z_icmp_ge 43 (by omega) (by omega) dX8_beaten_8 (by decide) (fun h_8 => ?_) (fun h_8 => ?_)
      · refine z_iload_n 2 dX8_beaten_43 rfl rfl ?_
        rw [show k = 256 by omega]
        exact z_iret rfl dX8_beaten_44 (⟨rfl, rfl⟩)
      · refine z_iload_n 2 dX8_beaten_11 rfl rfl ?_
        refine z_aload_n 0 dX8_beaten_12 rfl rfl ?_
        refine z_getr fl_RX8_85 (by decide) rfl rfl dX8_beaten_13 ?_
        refine z_iload_n 3 dX8_beaten_16 rfl rfl ?_
        refine z_bald k (by decide) rfl rfl (by omega) (by decide) dX8_beaten_17 ?_
        rw [O k (by omega)]
        refine z_if_eq_b 34 dX8_beaten_18 (by decide) (fun h_18 => ?_) (fun h_18 => ?_)
        · refine z_iconst dX8_beaten_34 ?_
          refine z_iadd dX8_beaten_35 ?_
          refine z_istore_n (L' := [(0, _), (1, _), (2, _), (3, _)]) dX8_beaten_36 rfl (by decide) rfl rfl ?_
          refine z_iinc 3 (L' := [(0, _), (1, _), (2, _), (3, _)]) dX8_beaten_37 (by decide) rfl rfl rfl ?_
          refine z_goto 4 dX8_beaten_40 (by decide) ?_
          refine z_LL _ ?_ (ih (k + 1) (by omega) (by omega))
          rw [cntB, if_neg (by rw [h_18]; simp)]; rfl
        · refine z_aload_n 0 dX8_beaten_21 rfl rfl ?_
          refine z_iload_n 1 dX8_beaten_22 rfl rfl ?_
          refine z_iload_n 3 dX8_beaten_23 rfl rfl ?_
          refine z_cv (t8_beats l hg w H K (f := f) (o := k) hf (by omega)) mk_X8_beats mi_X8_beats ml_RX8_314 (by omega) (by decide) rfl rfl rfl rfl (Nat.le_of_ble_eq_true rfl) dX8_beaten_24 (zpure ?_)
          refine z_if_eq_b 34 dX8_beaten_27 (by decide) (fun h_27 => ?_) (fun h_27 => ?_)
          · refine z_iconst dX8_beaten_34 ?_
            refine z_iadd dX8_beaten_35 ?_
            refine z_istore_n (L' := [(0, _), (1, _), (2, _), (3, _)]) dX8_beaten_36 rfl (by decide) rfl rfl ?_
            refine z_iinc 3 (L' := [(0, _), (1, _), (2, _), (3, _)]) dX8_beaten_37 (by decide) rfl rfl rfl ?_
            refine z_goto 4 dX8_beaten_40 (by decide) ?_
            refine z_LL _ ?_ (ih (k + 1) (by omega) (by omega))
            rw [cntB, if_neg (by rw [h_18, h_27]; decide)]; rfl
          · refine z_iconst dX8_beaten_30 ?_
            refine z_goto 35 dX8_beaten_31 (by decide) ?_
            refine z_iadd dX8_beaten_35 ?_
            refine z_istore_n (L' := [(0, _), (1, _), (2, _), (3, _)]) dX8_beaten_36 rfl (by decide) rfl rfl ?_
            refine z_iinc 3 (L' := [(0, _), (1, _), (2, _), (3, _)]) dX8_beaten_37 (by decide) rfl rfl rfl ?_
            refine z_goto 4 dX8_beaten_40 (by decide) ?_
            refine z_LL _ ?_ (ih (k + 1) (by omega) (by omega))
            rw [cntB, if_pos (by rw [h_18, h_27]; rfl)]; rfl
  refine zC_of (L := [(0, _), (1, _)]) mk_X8_beaten (Nat.le_of_ble_eq_true rfl) hg rfl (fun x => ?_)
  refine z_iconst dX8_beaten_0 ?_
  refine z_istore_n (L' := [(0, _), (1, _), (2, _)]) dX8_beaten_1 rfl (by decide) rfl rfl ?_
  refine z_iconst dX8_beaten_2 ?_
  refine z_istore_n (L' := [(0, _), (1, _), (2, _), (3, _)]) dX8_beaten_3 rfl (by decide) rfl rfl ?_
  exact key x 257 0 (by omega) (by omega)
theorem op_at {h : Hl} {k : Nat} (hk : k < 256) (ho : oB h k = true) : (openL h)[(opL h k).length]? = some k := by
  obtain ⟨r, hr⟩ := opL_pre h (k + 1) (255 - k)
  have h2 := opL_so h k
  rw [if_pos ho] at h2
  rw [show k + 1 + (255 - k) = 256 by omega, h2] at hr
  rw [openL, hr, List.append_assoc, List.getElem?_append_right (Nat.le_refl _), Nat.sub_self]
  rfl
theorem opG_at {h : Hl} {k : Nat} (hk : k < 256) (ho : oB h k = true) : opG h (opL h k).length = k ∧ (opL h k).length < (openL h).length :=
  ⟨opG_some (op_at hk ho), (List.getElem?_eq_some_iff.mp (op_at hk ho)).1⟩
theorem cnt_take {L : List Nat} {P : Nat → Bool} : ∀ k, cntB (fun j => decide (j < L.length) && P (L.getD j 0)) k = ((L.take k).filter P).length
  | 0 => by rw [cntB]; simp
  | k + 1 => by
    rw [cntB, cnt_take k, List.take_succ, List.filter_append, List.length_append]
    congr 1
    by_cases c : k < L.length
    · rw [decide_eq_true c, Bool.true_and, List.getD_eq_getElem?_getD, List.getElem?_eq_getElem c]
      show (if P L[k] = true then 1 else 0) = ([L[k]].filter P).length
      rw [List.filter_cons]
      split <;> rfl
    · rw [decide_eq_false c, List.getElem?_eq_none (by omega)]; simp
theorem cnt_opL (h : Hl) (P : Nat → Bool) : ∀ k, cntB (fun o => oB h o && P o) k = ((opL h k).filter P).length
  | 0 => by rw [cntB]; simp [opL]
  | k + 1 => by
    rw [cntB, cnt_opL h P k, opL_s, List.filter_append, List.length_append]
    congr 1
    by_cases c : openB h (2 ^ hN h) k = true
    · rw [if_pos c, show oB h k = true from c, Bool.true_and, List.filter_cons]
      split <;> rfl
    · rw [if_neg c, show oB h k = false by rw [← Bool.not_eq_true]; exact c]; simp
theorem cnt_mtx {h : Hl} (w : Wf h) {i : Nat} (hi : i < (openL h).length) : cntB (mtx h i) 96 = cntB (fun o => oB h o && btF h (opG h i) o) 256 := by
  have hol2 : (openL h).length ≤ 65 := opL_len w 256
  have e : mtx h i = fun j => decide (j < (openL h).length) && btF h (opG h i) ((openL h).getD j 0) := by
    funext j
    unfold mtx
    rw [decide_eq_true hi, Bool.true_and]; rfl
  rw [e, cnt_take, List.take_of_length_le (by omega), cnt_opL]; rfl
theorem t8_open (l : Launch) {g : zG} (hg : zAmOk g) {d : zD} {h : Hl} {ord : Nat → Nat} {tl : Nat} {tp : Nat → Nat} {fl : Int} (I : IM d h ord tl tp fl) {a : Int} (ha : zin a) : zC l g mX8_open 5 [zr g 37, zi a] d (anM d h ord tl tp fl (opnS h a)) := by
  obtain ⟨w, H, Oo, T, hfl, ho⟩ := id (I.ra 0)
  have key : ∀ (x : zX) (d1 : zD), MF d d1 → IM d1 h ord tl tp fl → OM d1 h → ∀ (r k : Nat), ¬ (0 ≤ a ∧ a < ((opL h k).length : Int)) → k ≤ 256 → 256 - k < r → zV l x g mX8_open 5 (anM d h ord tl tp fl (opnS h a)) 14 [(0, zr g 37), (1, zi a), (2, zi ((opL h k).length : Nat)), (3, zi (k : Int))] [] d1 := by
    intro x d1 M1 I1 O r
    induction r with
    | zero => intro k a1 a2 hr; omega
    | succ r ih =>
      intro k hno hk hr
      have hs := opL_so h k
      have hol : (opL h k).length ≤ 65 := opL_len w k
      refine z_iload_n 3 dX8_open_14 rfl rfl ?_
      refine z_sipush dX8_open_15 (by decide) ?_
      refine z_icmp_ge 46 (by omega) (by omega) dX8_open_18 (by decide) (fun h_18 => ?_) (fun h_18 => ?_)
      · refine z_iconst dX8_open_46 ?_
        have e : k = 256 := by omega
        subst e
        exact z_iret rfl dX8_open_47 (anM.rf M1 I1 (by rw [opnS, if_neg (show ¬ (0 ≤ a ∧ a < ((openL h).length : Int)) from hno)]))
      · refine z_aload_n 0 dX8_open_21 rfl rfl ?_
        refine z_getr fl_RX8_85 (by decide) rfl rfl dX8_open_22 ?_
        refine z_iload_n 3 dX8_open_25 rfl rfl ?_
        refine z_bald k (by decide) rfl rfl (by omega) (by decide) dX8_open_26 ?_
        rw [O k (by omega)]
        refine z_if_eq_b 40 dX8_open_27 (by decide) (fun h_27 => ?_) (fun h_27 => ?_)
        · refine z_iinc 3 (L' := [(0, _), (1, _), (2, _), (3, _)]) dX8_open_40 (by decide) rfl rfl rfl ?_
          refine z_goto 14 dX8_open_43 (by decide) ?_
          have hs' : (opL h (k + 1)).length = (opL h k).length := by rw [hs, if_neg (by rw [h_27]; decide), List.append_nil]
          refine z_LL _ ?_ (ih (k + 1) (by omega) (by omega) (by omega))
          rw [hs']; rfl
        · refine z_iload_n 2 dX8_open_30 rfl rfl ?_
          refine z_iload_n 1 dX8_open_31 rfl rfl ?_
          refine z_icmp_ne 37 (by omega) (by omega) dX8_open_32 (by decide) (fun h_32 => ?_) (fun h_32 => ?_)
          · refine z_iinc 2 (L' := [(0, _), (1, _), (2, _), (3, _)]) dX8_open_37 (by decide) rfl rfl rfl ?_
            refine z_iinc 3 (L' := [(0, _), (1, _), (2, _), (3, _)]) dX8_open_40 (by decide) rfl rfl rfl ?_
            refine z_goto 14 dX8_open_43 (by decide) ?_
            have hs' : (opL h (k + 1)).length = (opL h k).length + 1 := by rw [hs, if_pos h_27, List.length_append]; rfl
            refine z_LL _ ?_ (ih (k + 1) (by omega) (by omega) (by omega))
            rw [hs']; rfl
          · refine z_iload_n 3 dX8_open_35 rfl rfl ?_
            have hat := opG_at (show k < 256 by omega) h_27
            exact z_iret rfl dX8_open_36 (anM.rf M1 I1 (by rw [opnS, if_pos (by omega), show a.toNat = (opL h k).length by omega, hat.1]))
  refine zC_of (L := [(0, _), (1, _)]) mk_X8_open (Nat.le_of_ble_eq_true rfl) hg rfl (fun x => ?_)
  refine z_aload_n 0 dX8_open_0 rfl rfl ?_
  refine z_iconst dX8_open_1 ?_
  refine z_puti fp_RX8_95 (by decide) rfl rfl dX8_open_2 ?_
  refine z_aload_n 0 dX8_open_5 rfl rfl ?_
  refine z_cv (t8_laysOpen l hg w H) mk_X8_laysOpen mi_X8_laysOpen ml_RX8_323 (by omega) (by decide) rfl rfl rfl rfl (Nat.le_of_ble_eq_true rfl) dX8_open_6 (fun r_6 d_6 q_6 => ?_)
  obtain ⟨rfl, s1, s2, s3⟩ := q_6
  show zV l x g mX8_open 5 _ _ _ [_] _
  refine z_pop dX8_open_9 rfl ?_
  refine z_iconst dX8_open_10 ?_
  refine z_istore_n (L' := [(0, _), (1, _), (2, _)]) dX8_open_11 rfl (by decide) rfl rfl ?_
  refine z_iconst dX8_open_12 ?_
  refine z_istore_n (L' := [(0, _), (1, _), (2, _), (3, _)]) dX8_open_13 rfl (by decide) rfl rfl ?_
  exact key x d_6 ((MF.ra 0).tr (MF.of s1 (by decide))) ((I.ra 0).of s1 (by decide) (by rw [s1 37 (by decide)]) (by rw [s1 37 (by decide)])) s3 257 0 (by show ¬ (0 ≤ a ∧ a < (0 : Int)); omega) (by omega) (by omega)
theorem t8_winner (l : Launch) {g : zG} (hg : zAmOk g) {d : zD} {h : Hl} {ord : Nat → Nat} {tl : Nat} {tp : Nat → Nat} {fl : Int} (I : IM d h ord tl tp fl) : zC l g mX8_winner 5 [zr g 37] d (anM d h ord tl tp fl (winS h)) := by
  obtain ⟨w, H, Oo, T, hfl, ho⟩ := id (I.ra 0)
  have hop := open_pos h
  have hol2 : (openL h).length ≤ 65 := opL_len w 256
  have key : ∀ (x : zX) (d1 : zD), MF d d1 → IM d1 h ord tl tp fl → LKM d1 h → OM d1 h → ∀ (r k : Nat), (∀ j, j < (opL h k).length → winB h j = false) → k ≤ 256 → 256 - k < r → zV l x g mX8_winner 5 (anM d h ord tl tp fl (winS h)) 12 [(0, zr g 37), (1, zi ((openL h).length : Nat)), (2, zi (k : Int))] [] d1 := by
    intro x d1 M1 I1 K1 O r
    induction r with
    | zero => intro k a1 a2 hr; omega
    | succ r ih =>
      intro k hno hk hr
      have hs := opL_so h k
      have hcl := cntB_le (fun o => oB h o && btF h k o) 256
      refine z_iload_n 2 dX8_winner_12 rfl rfl ?_
      refine z_sipush dX8_winner_13 (by decide) ?_
      refine z_icmp_ge 47 (by omega) (by omega) dX8_winner_16 (by decide) (fun h_16 => ?_) (fun h_16 => ?_)
      · refine z_iconst dX8_winner_47 ?_
        have e : k = 256 := by omega
        subst e
        exact z_iret rfl dX8_winner_48 (anM.rf M1 I1 (winS_is (Or.inr ⟨hno, rfl⟩)))
      · refine z_aload_n 0 dX8_winner_19 rfl rfl ?_
        refine z_getr fl_RX8_85 (by decide) rfl rfl dX8_winner_20 ?_
        refine z_iload_n 2 dX8_winner_23 rfl rfl ?_
        refine z_bald k (by decide) rfl rfl (by omega) (by decide) dX8_winner_24 ?_
        rw [O k (by omega)]
        refine z_if_eq_b 41 dX8_winner_25 (by decide) (fun h_25 => ?_) (fun h_25 => ?_)
        · refine z_iinc 2 (L' := [(0, _), (1, _), (2, _)]) dX8_winner_41 (by decide) rfl rfl rfl ?_
          refine z_goto 12 dX8_winner_44 (by decide) ?_
          have hs' : (opL h (k + 1)).length = (opL h k).length := by rw [hs, if_neg (by rw [h_25]; decide), List.append_nil]
          exact ih (k + 1) (fun j hj => hno j (by omega)) (by omega) (by omega)
        · have hat := opG_at (show k < 256 by omega) h_25
          have hcm := cnt_mtx w hat.2
          rw [hat.1] at hcm
          refine z_aload_n 0 dX8_winner_28 rfl rfl ?_
          refine z_iload_n 2 dX8_winner_29 rfl rfl ?_
          refine z_cv (t8_beaten l hg w I1.2.1 K1 O (f := k) (by omega)) mk_X8_beaten mi_X8_beaten ml_RX8_326 (by omega) (by decide) rfl rfl rfl rfl (Nat.le_of_ble_eq_true rfl) dX8_winner_30 (zpure ?_)
          refine z_iload_n 1 dX8_winner_33 rfl rfl ?_
          refine z_iconst dX8_winner_34 ?_
          refine z_isub dX8_winner_35 ?_
          refine z_icmp_ne 41 (by omega) (by omega) dX8_winner_36 (by decide) (fun h_36 => ?_) (fun h_36 => ?_)
          · refine z_iinc 2 (L' := [(0, _), (1, _), (2, _)]) dX8_winner_41 (by decide) rfl rfl rfl ?_
            refine z_goto 12 dX8_winner_44 (by decide) ?_
            have hs' : (opL h (k + 1)).length = (opL h k).length + 1 := by rw [hs, if_pos h_25, List.length_append]; rfl
            refine ih (k + 1) (fun j hj => ?_) (by omega) (by omega)
            by_cases e : j = (opL h k).length
            · rw [e]; exact decide_eq_false (by rw [hcm]; omega)
            · exact hno j (by omega)
          · refine z_iload_n 2 dX8_winner_39 rfl rfl ?_
            exact z_iret rfl dX8_winner_40 (anM.rf M1 I1 (winS_is (Or.inl ⟨(opL h k).length, hat.2, decide_eq_true (by rw [hcm]; omega), hno, by rw [hat.1]⟩)))
  refine zC_of (L := [(0, _)]) mk_X8_winner (Nat.le_of_ble_eq_true rfl) hg rfl (fun x => ?_)
  refine z_aload_n 0 dX8_winner_0 rfl rfl ?_
  refine z_iconst dX8_winner_1 ?_
  refine z_puti fp_RX8_95 (by decide) rfl rfl dX8_winner_2 ?_
  refine z_aload_n 0 dX8_winner_5 rfl rfl ?_
  refine z_cv (t8_laysOpen l hg w H) mk_X8_laysOpen mi_X8_laysOpen ml_RX8_323 (by omega) (by decide) rfl rfl rfl rfl (Nat.le_of_ble_eq_true rfl) dX8_winner_6 (fun r_6 d_6 q_6 => ?_)
  obtain ⟨rfl, s1, s2, s3⟩ := q_6
  show zV l x g mX8_winner 5 _ _ _ [_] _
  refine z_istore_n (L' := [(0, _), (1, _)]) dX8_winner_9 rfl (by decide) rfl rfl ?_
  refine z_iconst dX8_winner_10 ?_
  refine z_istore_n (L' := [(0, _), (1, _), (2, _)]) dX8_winner_11 rfl (by decide) rfl rfl ?_
  exact key x d_6 ((MF.ra 0).tr (MF.of s1 (by decide))) ((I.ra 0).of s1 (by decide) (by rw [s1 37 (by decide)]) (by rw [s1 37 (by decide)])) s2 s3 257 0 (fun j hj => absurd hj (by show ¬ j < 0; omega)) (by omega) (by omega)
theorem t8_count (l : Launch) {g : zG} (hg : zAmOk g) {d : zD} {h : Hl} {ord : Nat → Nat} {tl : Nat} {tp : Nat → Nat} {fl : Int} (I : IM d h ord tl tp fl) {a : Int} (ha : zin a) : zC l g mX8_count 5 [zr g 37, zi a] d (anM d h ord tl tp fl (cntS h tl a)) := by
  obtain ⟨w, H, Oo, T, hfl, ho⟩ := id (I.ra 0)
  obtain ⟨⟨h0, h1, h2, h3, h4, h5⟩, -⟩ := id H
  refine zC_of (L := [(0, _), (1, _)]) mk_X8_count (Nat.le_of_ble_eq_true rfl) hg rfl (fun x => ?_)
  refine z_aload_n 0 dX8_count_0 rfl rfl ?_
  refine z_iconst dX8_count_1 ?_
  refine z_puti fp_RX8_95 (by decide) rfl rfl dX8_count_2 ?_
  refine z_iload_n 1 dX8_count_5 rfl rfl ?_
  by_cases hr : 0 ≤ a ∧ a ≤ 7
  · rcases (show a = 0 ∨ a = 1 ∨ a = 2 ∨ a = 3 ∨ a = 4 ∨ a = 5 ∨ a = 6 ∨ a = 7 by omega) with rfl | rfl | rfl | rfl | rfl | rfl | rfl | rfl
    · refine z_tabIn 52 0 rfl (by decide) (by decide) (by decide) rfl (by decide) dX8_count_6 ?_
      refine z_aload_n 0 dX8_count_52 rfl rfl ?_
      refine z_getr fl_RX8_7 (by decide) rfl rfl dX8_count_53 ?_
      refine z_iconst dX8_count_56 ?_
      refine z_iald 1 (by decide) rfl rfl (by decide) (by decide) dX8_count_57 ?_
      exact z_iret rfl dX8_count_58 (anM.rf (MF.ra 0) (I.ra 0) h1)
    · refine z_tabIn 59 1 rfl (by decide) (by decide) (by decide) rfl (by decide) dX8_count_6 ?_
      refine z_aload_n 0 dX8_count_59 rfl rfl ?_
      refine z_getr fl_RX8_7 (by decide) rfl rfl dX8_count_60 ?_
      refine z_iconst dX8_count_63 ?_
      refine z_iald 3 (by decide) rfl rfl (by decide) (by decide) dX8_count_64 ?_
      exact z_iret rfl dX8_count_65 (anM.rf (MF.ra 0) (I.ra 0) h3)
    · refine z_tabIn 66 2 rfl (by decide) (by decide) (by decide) rfl (by decide) dX8_count_6 ?_
      refine z_aload_n 0 dX8_count_66 rfl rfl ?_
      refine z_getr fl_RX8_7 (by decide) rfl rfl dX8_count_67 ?_
      refine z_iconst dX8_count_70 ?_
      refine z_iald 4 (by decide) rfl rfl (by decide) (by decide) dX8_count_71 ?_
      exact z_iret rfl dX8_count_72 (anM.rf (MF.ra 0) (I.ra 0) h4)
    · refine z_tabIn 73 3 rfl (by decide) (by decide) (by decide) rfl (by decide) dX8_count_6 ?_
      refine z_aload_n 0 dX8_count_73 rfl rfl ?_
      refine z_cv (t8_quota l hg w H) mk_X8_quota mi_X8_quota ml_RX8_262 (by omega) (by decide) rfl rfl rfl rfl (Nat.le_of_ble_eq_true rfl) dX8_count_74 (zpure ?_)
      exact z_iret rfl dX8_count_77 (anM.rf (MF.ra 0) (I.ra 0) rfl)
    · refine z_tabIn 78 4 rfl (by decide) (by decide) (by decide) rfl (by decide) dX8_count_6 ?_
      refine z_aload_n 0 dX8_count_78 rfl rfl ?_
      refine z_getr fl_RX8_7 (by decide) rfl rfl dX8_count_79 ?_
      refine z_iconst dX8_count_82 ?_
      refine z_iald 0 (by decide) rfl rfl (by decide) (by decide) dX8_count_83 ?_
      exact z_iret rfl dX8_count_84 (anM.rf (MF.ra 0) (I.ra 0) h0)
    · refine z_tabIn 85 5 rfl (by decide) (by decide) (by decide) rfl (by decide) dX8_count_6 ?_
      refine z_aload_n 0 dX8_count_85 rfl rfl ?_
      refine z_cv (t8_goodOrders l hg w H) mk_X8_goodOrders mi_X8_goodOrders ml_RX8_335 (by omega) (by decide) rfl rfl rfl rfl (Nat.le_of_ble_eq_true rfl) dX8_count_86 (fun r_86 d_86 q_86 => ?_)
      obtain ⟨rfl, f1⟩ := q_86
      show zV l x g mX8_count 5 _ _ _ [_] _
      exact z_iret rfl dX8_count_89 (anM.rf ((MF.ra 0).tr (MF.of f1 (by decide))) ((I.ra 0).of f1 (by decide) (by rw [f1 37 (by decide)]) (by rw [f1 37 (by decide)])) rfl)
    · refine z_tabIn 90 6 rfl (by decide) (by decide) (by decide) rfl (by decide) dX8_count_6 ?_
      refine z_aload_n 0 dX8_count_90 rfl rfl ?_
      refine z_geti fl_RX8_99 (by decide) rfl rfl dX8_count_91 ?_
      exact z_iret rfl dX8_count_94 (anM.rf (MF.ra 0) (I.ra 0) T.1)
    · refine z_tabIn 95 7 rfl (by decide) (by decide) (by decide) rfl (by decide) dX8_count_6 ?_
      refine z_aload_n 0 dX8_count_95 rfl rfl ?_
      refine z_cv (t8_laysOpen l hg w H) mk_X8_laysOpen mi_X8_laysOpen ml_RX8_323 (by omega) (by decide) rfl rfl rfl rfl (Nat.le_of_ble_eq_true rfl) dX8_count_96 (fun r_96 d_96 q_96 => ?_)
      obtain ⟨rfl, s1, s2, s3⟩ := q_96
      show zV l x g mX8_count 5 _ _ _ [_] _
      exact z_iret rfl dX8_count_99 (anM.rf ((MF.ra 0).tr (MF.of s1 (by decide))) ((I.ra 0).of s1 (by decide) (by rw [s1 37 (by decide)]) (by rw [s1 37 (by decide)])) rfl)
  · refine z_tabOut 100 ha (by omega) (by decide) dX8_count_6 ?_
    refine z_iconst dX8_count_100 ?_
    exact z_iret rfl dX8_count_101 (anM.rf (MF.ra 0) (I.ra 0) (by unfold cntS; rw [if_neg (by omega), if_neg (by omega), if_neg (by omega), if_neg (by omega), if_neg (by omega), if_neg (by omega), if_neg (by omega), if_neg (by omega)]))
