/-! votes: from the last one back -/
def Rout (p : Nat) (d0 d : zD) : Prop := ∀ i, (i < 64 * p ∨ 64 * p + 64 ≤ i) → d 28 i = d0 28 i
theorem Rout.rf {p : Nat} {d : zD} : Rout p d d := fun _ _ => rfl
theorem Rout.up {p : Nat} {a b : zD} (h : Rout p a b) {i : Nat} {x : Int} (hi : 64 * p ≤ i ∧ i < 64 * p + 64) : Rout p a (zu b 28 i x) := fun j hj => by rw [zu_row, if_neg (by omega)]; exact h j hj
theorem prefF_le {h : Hl} (w : Wf h) (f o : Nat) : prefF h f o ≤ 9 := Nat.le_trans (prefN_le h f o _) w.2.2.2.1
theorem yesF_le {h : Hl} (w : Wf h) (t m s a b : Nat) : yesF h t m s a b ≤ 9 := Nat.le_trans (yesN_le h t m s a b _) w.2.2.2.1
theorem lp_startBack {l : Launch} {x : zX} {g : zG} {n : Nat} {Q : Option Value → zD → Prop} {d0 : zD} {h : Hl} {t p a : Nat} (hg : zAmOk g) (w : Wf h) (H : HC 2 d0 h) (K : LK d0 h) (D : MD d0 h) (ha : a < 2 ^ hN h) (hp : p ≤ 6) (hn : 3 < n) (hQ : ∀ d, zF [28] d0 d → Rout p d0 d → (∀ s, SB s a → d 28 (64 * p + s) = finF h t [] s) → Q none d) : ∀ r k d, zF [28] d0 d → Rout p d0 d → (∀ s, s < k → SB s a → d 28 (64 * p + s) = finF h t [] s) → k ≤ a + 1 → a + 1 - k < r → zV l x g mX6_startBack n Q 14 [(0, zr g 26), (1, zi (t : Int)), (2, zi (p : Int)), (3, zi (a : Int)), (4, zi ((p : Int) * 64)), (5, zi (k : Int))] [] d := by
  have hp2 := p64 w.2.2.1
  intro r
  induction r with
  | zero => intro k d hf hr0 hd hk hr; omega
  | succ r ih =>
    intro k d hf hr0 hd hk hr
    have H' : HC 2 d h := hf.HC (by decide) H
    have K' : LK d h := K.of (hf 25 (by decide))
    have D' : MD d h := D.of (hf 27 (by decide))
    have hpr := prefF_le w (formF h k) 0
    have hnd : nd k a < 4294967296 := Nat.lt_of_lt_of_le (nd_lt (k := 7) (show k < 2 ^ 7 by omega)) (by decide)
    have hnd2 : nd k a < 128 := nd_lt (k := 7) (show k < 2 ^ 7 by omega)
    refine z_iload 5 dX6_startBack_14 rfl ?_
    refine z_iload_n 3 dX6_startBack_16 rfl rfl ?_
    refine z_icmp_gt 69 (by omega) (by omega) dX6_startBack_17 (by decide) (fun h_17 => ?_) (fun h_17 => ?_)
    · exact z_vret rfl dX6_startBack_69 (hQ d hf hr0 (fun s hs => hd s (by have := SB_le hs; omega) hs))
    · refine z_iload 5 dX6_startBack_20 rfl ?_
      refine z_iload_n 3 dX6_startBack_22 rfl rfl ?_
      refine z_iconst dX6_startBack_23 ?_
      refine z_ixor _ (zxorm _) dX6_startBack_24 ?_
      refine z_iand _ zandm dX6_startBack_25 ?_
      refine z_if_ne 63 (by omega) dX6_startBack_26 (by decide) (fun h_26 => ?_) (fun h_26 => ?_)
      · refine z_iinc 5 (L' := [(0, _), (1, _), (2, _), (3, _), (4, _), (5, _)]) dX6_startBack_63 (by decide) rfl rfl rfl ?_
        refine z_goto 14 dX6_startBack_66 (by decide) ?_
        refine ih (k + 1) _ hf hr0 (fun s hs hsb => ?_) (by omega) (by omega)
        by_cases e : s = k
        · subst e; have := SB_nd.mp hsb; omega
        · exact hd s (by omega) hsb
      · refine z_aload_n 0 dX6_startBack_29 rfl rfl ?_
        refine z_getr fl_RX6_15 (by decide) rfl rfl dX6_startBack_30 ?_
        refine z_iload 4 dX6_startBack_33 rfl ?_
        refine z_iload 5 dX6_startBack_35 rfl ?_
        refine z_iadd dX6_startBack_37 ?_
        refine z_aload_n 0 dX6_startBack_38 rfl rfl ?_
        refine z_aload_n 0 dX6_startBack_39 rfl rfl ?_
        refine z_iload 5 dX6_startBack_40 rfl ?_
        refine z_cv (t_yesOnPassage l hg w H' K' D' (s := k) (by omega)) mk_X6_yesOnPassage mi_X6_yesOnPassage ml_RX6_65 (by omega) (by decide) rfl rfl rfl rfl (Nat.le_of_ble_eq_true rfl) dX6_startBack_42 (zpure ?_)
        refine z_cv (t_passes l hg w H' (y := prefF h (formF h k) 0) hpr) mk_X6_passes mi_X6_passes ml_RX6_68 (by omega) (by decide) rfl rfl rfl rfl (Nat.le_of_ble_eq_true rfl) dX6_startBack_45 (zpure ?_)
        refine z_if_eq_b 61 dX6_startBack_48 (by decide) (fun h_48 => ?_) (fun h_48 => ?_)
        · refine z_iconst dX6_startBack_61 ?_
          refine z_iast (64 * p + k) (by decide) rfl (by omega) (by omega) (by decide) dX6_startBack_62 ?_
          refine z_iinc 5 (L' := [(0, _), (1, _), (2, _), (3, _), (4, _), (5, _)]) dX6_startBack_63 (by decide) rfl rfl rfl ?_
          refine z_goto 14 dX6_startBack_66 (by decide) ?_
          refine ih (k + 1) _ (hf.up (by decide)) (hr0.up (by omega)) (fun s hs hsb => ?_) (by omega) (by omega)
          rw [zu_row]
          split
          · rename_i e0
            have e : s = k := by omega
            subst e
            rw [finF]
            first | (rw [if_pos (by unfold passB; exact h_48)]; done) | (rw [if_neg (by unfold passB; rw [h_48]; decide)]; rfl)
          · exact hd s (by omega) hsb
        · refine z_aload_n 0 dX6_startBack_51 rfl rfl ?_
          refine z_getr fl_RX6_9 (by decide) rfl rfl dX6_startBack_52 ?_
          refine z_iload 5 dX6_startBack_55 rfl ?_
          refine z_iald _ (by decide) rfl rfl (by omega) (by decide) dX6_startBack_57 ?_
          rw [D' k (by omega)]
          refine z_goto 62 dX6_startBack_58 (by decide) ?_
          refine z_iast (64 * p + k) (by decide) rfl (by omega) (by omega) (by decide) dX6_startBack_62 ?_
          refine z_iinc 5 (L' := [(0, _), (1, _), (2, _), (3, _), (4, _), (5, _)]) dX6_startBack_63 (by decide) rfl rfl rfl ?_
          refine z_goto 14 dX6_startBack_66 (by decide) ?_
          refine ih (k + 1) _ (hf.up (by decide)) (hr0.up (by omega)) (fun s hs hsb => ?_) (by omega) (by omega)
          rw [zu_row]
          split
          · rename_i e0
            have e : s = k := by omega
            subst e
            rw [finF]
            first | (rw [if_pos (by unfold passB; exact h_48)]; done) | (rw [if_neg (by unfold passB; rw [h_48]; decide)]; rfl)
          · exact hd s (by omega) hsb
theorem t_startBack (l : Launch) {g : zG} (hg : zAmOk g) {d : zD} {h : Hl} (w : Wf h) (H : HC 2 d h) (K : LK d h) (D : MD d h) {t p a : Nat} (ha : a < 2 ^ hN h) (hp : p ≤ 6) : zC l g mX6_startBack 4 [zr g 26, zi (t : Int), zi (p : Int), zi (a : Int)] d (fun r d' => r = none ∧ (zF [26, 28] d d' ∧ Rout p d d' ∧ d' 26 8 = t ∧ d' 26 7 = d 26 7 ∧ ∀ s, SB s a → d' 28 (64 * p + s) = finF h t [] s)) := by
  refine zC_of (L := [(0, _), (1, _), (2, _), (3, _)]) mk_X6_startBack (Nat.le_of_ble_eq_true rfl) hg rfl (fun x => ?_)
  refine z_aload_n 0 dX6_startBack_0 rfl rfl ?_
  refine z_iload_n 1 dX6_startBack_1 rfl rfl ?_
  refine z_puti fp_RX6_62 (by decide) rfl rfl dX6_startBack_2 ?_
  refine z_iload_n 2 dX6_startBack_5 rfl rfl ?_
  refine z_bipush dX6_startBack_6 (by decide) ?_
  refine z_imul dX6_startBack_8 ?_
  refine z_istore (L' := [(0, _), (1, _), (2, _), (3, _), (4, _)]) dX6_startBack_9 (by decide) rfl rfl ?_
  refine z_iconst dX6_startBack_11 ?_
  refine z_istore (L' := [(0, _), (1, _), (2, _), (3, _), (4, _), (5, _)]) dX6_startBack_12 (by decide) rfl rfl ?_
  refine lp_startBack (d0 := zu d 26 8 (t : Int)) hg w (HC.of H (fun q h1 h2 => zu_ne (by omega))) (K.of (zu_ne (by decide))) (D.of (zu_ne (by decide))) ha hp (by omega) ?_ (a + 2) 0 _ zF.rf Rout.rf (fun s hs => absurd hs (by omega)) (by omega) (by omega)
  intro d' h1 h2 h3
  have e : d' 26 = zu d 26 8 t 26 := h1 26 (by decide)
  refine ⟨rfl, fun q hq => ?_, fun i hi => ?_, by rw [e, zu_at], by rw [e, zu_row]; rfl, h3⟩
  · rw [h1 q (fun z => hq (by simp_all)), zu_ne (fun z => hq (by simp_all))]
  · rw [h2 i hi, zu_ne (by decide)]
def nxt (a s : Nat) : Nat := if s = 0 then a else (s - 1) &&& a
def visL (a : Nat) : Nat → Nat → List Nat
  | 0, _ => []
  | c + 1, s => s :: visL a c (nxt a s)
theorem vis_all : ∀ a, a < 64 → ∀ s, s < 64 → s &&& a = s → s ∈ visL a (2 ^ pcN a 32) a := by decide +kernel
theorem pc_le : ∀ a, a < 64 → pcN a 32 ≤ 6 := by decide +kernel
theorem nxt_SB (a s : Nat) : SB (nxt a s) a := by
  unfold nxt
  split
  · exact fun i h => h
  · intro i hi
    rw [Nat.testBit_and, Bool.and_eq_true] at hi
    exact hi.2
theorem znxt (a s : Nat) : Int32.ofInt ((s : Int) - 1) &&& Int32.ofInt (a : Int) = Int32.ofInt ((nxt a s : Nat) : Int) := by
  unfold nxt
  split
  · rename_i e
    subst e
    rw [show ((0 : Nat) : Int) - 1 = -1 by omega, zm1, Int32.neg_one_and]
  · rw [show (s : Int) - 1 = ((s - 1 : Nat) : Int) by omega, zand]
theorem lp_stepBack {l : Launch} {x : zX} {g : zG} {n : Nat} {Q : Option Value → zD → Prop} {d0 : zD} {h : Hl} {t p m a : Nat} {rest : List Nat} (hg : zAmOk g) (w : Wf h) (H : HC 2 d0 h) (K : LK d0 h) (D : MD d0 h) (hT : d0 26 8 = t) (ht : t < 512) (hm : m < hN h) (ha : a < 2 ^ hN h) (hp : p < 6) (hR : ∀ s, SB s (a ||| 2 ^ m) → d0 28 (64 * (p + 1) + s) = finF h t rest s) (hn : 2 < n) (hQ : ∀ d, zF [28] d0 d → Rout p d0 d → (∀ s, SB s a → d 28 (64 * p + s) = finF h t (m :: rest) s) → Q none d) : ∀ c s d, zF [28] d0 d → Rout p d0 d → SB s a → (∀ u, SB u a → u ∉ visL a c s → d 28 (64 * p + u) = finF h t (m :: rest) u) → c ≤ 64 → zV l x g mX6_stepBack n Q 17 [(0, zr g 26), (1, zi (p : Int)), (2, zi (m : Int)), (3, zi (a : Int)), (4, zi ((p : Int) * 64)), (5, zi (s : Int)), (6, zi (c : Int))] [] d := by
  have hp2 := p64 w.2.2.1
  have hb := bit_le hm w.2.2.1
  have w3 := w.2.2.1
  intro c
  induction c with
  | zero =>
    intro s d hf hr0 hs hd hc
    refine z_iload 6 dX6_stepBack_17 rfl ?_
    refine z_if_le 91 (by omega) dX6_stepBack_19 (by decide) (fun h_19 => ?_) (fun h_19 => absurd h_19 (by omega))
    exact z_vret rfl dX6_stepBack_91 (hQ d hf hr0 (fun u hu => hd u hu (by simp [visL])))
  | succ c ih =>
    intro s d hf hr0 hs hd hc
    have H' : HC 2 d h := hf.HC (by decide) H
    have K' : LK d h := K.of (hf 25 (by decide))
    have D' : MD d h := D.of (hf 27 (by decide))
    have hT' : d 26 8 = t := by rw [hf 26 (by decide)]; exact hT
    have hsl := SB_le hs
    have hs2 : s < 2 ^ hN h := by omega
    have hor := or_lt64 hs2 hm
    have r1 : d 28 (64 * (p + 1) + (s ||| 2 ^ m)) = finF h t rest (s ||| 2 ^ m) := by rw [hr0 _ (by omega)]; exact hR _ (SB_or m hs)
    have r2 : d 28 (64 * (p + 1) + s) = finF h t rest s := by rw [hr0 _ (by omega)]; exact hR _ (SB_up m hs)
    have f1 := finF_lt w t rest (s ||| 2 ^ m)
    have f2 := finF_lt w t rest s
    have fy := yesF_le w t m s (finF h t rest (s ||| 2 ^ m)) (finF h t rest s)
    refine z_iload 6 dX6_stepBack_17 rfl ?_
    refine z_if_le 91 (by omega) dX6_stepBack_19 (by decide) (fun h_19 => absurd h_19 (by omega)) (fun h_19 => ?_)
    refine z_aload_n 0 dX6_stepBack_22 rfl rfl ?_
    refine z_aload_n 0 dX6_stepBack_23 rfl rfl ?_
    refine z_iload_n 1 dX6_stepBack_24 rfl rfl ?_
    refine z_iload_n 2 dX6_stepBack_25 rfl rfl ?_
    refine z_iload 5 dX6_stepBack_26 rfl ?_
    refine z_cv (t_yesOnMotion l hg w H' K' D' hT' ht hm hs2 hp r1 f1 r2 f2) mk_X6_yesOnMotion mi_X6_yesOnMotion ml_RX6_77 (by omega) (by decide) rfl rfl rfl rfl (Nat.le_of_ble_eq_true rfl) dX6_stepBack_28 (zpure ?_)
    refine z_cv (t_carries l hg w H' fy) mk_X6_carries mi_X6_carries ml_RX6_81 (by omega) (by decide) rfl rfl rfl rfl (Nat.le_of_ble_eq_true rfl) dX6_stepBack_31 (zpure ?_)
    refine z_istore (L' := [(0, _), (1, _), (2, _), (3, _), (4, _), (5, _), (6, _), (7, _)]) dX6_stepBack_34 (by decide) rfl rfl ?_
    refine z_iload 7 dX6_stepBack_36 rfl ?_
    refine z_if_eq_b 50 dX6_stepBack_38 (by decide) (fun h_38 => ?_) (fun h_38 => ?_)
    · refine z_iload 5 dX6_stepBack_50 rfl ?_
      refine z_istore (L' := [(0, _), (1, _), (2, _), (3, _), (4, _), (5, _), (6, _), (7, _), (8, _)]) dX6_stepBack_52 (by decide) rfl rfl ?_
      refine z_aload_n 0 dX6_stepBack_54 rfl rfl ?_
      refine z_getr fl_RX6_15 (by decide) rfl rfl dX6_stepBack_55 ?_
      refine z_iload 4 dX6_stepBack_58 rfl ?_
      refine z_iload 5 dX6_stepBack_60 rfl ?_
      refine z_iadd dX6_stepBack_62 ?_
      refine z_aload_n 0 dX6_stepBack_63 rfl rfl ?_
      refine z_getr fl_RX6_15 (by decide) rfl rfl dX6_stepBack_64 ?_
      refine z_iload 4 dX6_stepBack_67 rfl ?_
      refine z_bipush dX6_stepBack_69 (by decide) ?_
      refine z_iadd dX6_stepBack_71 ?_
      refine z_iload 8 dX6_stepBack_72 rfl ?_
      refine z_iadd dX6_stepBack_74 ?_
      refine z_iald (64 * (p + 1) + s) (by decide) rfl (by omega) (by omega) (by decide) dX6_stepBack_75 ?_
      rw [r2]
      refine z_iast (64 * p + s) (by decide) rfl (by omega) (by omega) (by decide) dX6_stepBack_76 ?_
      refine z_iload 5 dX6_stepBack_77 rfl ?_
      refine z_iconst dX6_stepBack_79 ?_
      refine z_isub dX6_stepBack_80 ?_
      refine z_iload_n 3 dX6_stepBack_81 rfl rfl ?_
      refine z_iand _ (znxt a s) dX6_stepBack_82 ?_
      refine z_istore (L' := [(0, _), (1, _), (2, _), (3, _), (4, _), (5, _), (6, _), (7, _), (8, _)]) dX6_stepBack_83 (by decide) rfl rfl ?_
      refine z_iinc 6 (L' := [(0, _), (1, _), (2, _), (3, _), (4, _), (5, _), (6, _), (7, _), (8, _)]) dX6_stepBack_85 (by decide) rfl rfl rfl ?_
      refine z_goto 17 dX6_stepBack_88 (by decide) ?_
      refine z_sub (L' := [(0, _), (1, _), (2, _), (3, _), (4, _), (5, _), (6, _)]) [0, 1, 2, 3, 4, 5, 6] rfl ?_
      refine z_LL _ ?_ (ih (nxt a s) _ (hf.up (by decide)) (hr0.up (by omega)) (nxt_SB a s) (fun u hu hv => ?_) (by omega))
      · rw [show ((c + 1 : Nat) : Int) + -1 = (c : Int) by omega]
      · rw [zu_row]
        split
        · rename_i e0
          have e : u = s := by omega
          subst e
          rw [finF]
          first | (rw [if_pos h_38]; done) | (rw [if_neg (by rw [h_38]; decide)]; done)
        · rename_i e0
          exact hd u hu (by rw [visL]; exact fun z => (List.mem_cons.mp z).elim (fun z => e0 (by omega)) hv)
    · refine z_iload 5 dX6_stepBack_41 rfl ?_
      refine z_iconst dX6_stepBack_43 ?_
      refine z_iload_n 2 dX6_stepBack_44 rfl rfl ?_
      refine z_ishl _ (zshl (s := 1) (m := m) (by omega) (by omega)) dX6_stepBack_45 ?_
      rw [Nat.one_mul]
      refine z_ior _ (zor _ _) dX6_stepBack_46 ?_
      refine z_goto 52 dX6_stepBack_47 (by decide) ?_
      refine z_istore (L' := [(0, _), (1, _), (2, _), (3, _), (4, _), (5, _), (6, _), (7, _), (8, _)]) dX6_stepBack_52 (by decide) rfl rfl ?_
      refine z_aload_n 0 dX6_stepBack_54 rfl rfl ?_
      refine z_getr fl_RX6_15 (by decide) rfl rfl dX6_stepBack_55 ?_
      refine z_iload 4 dX6_stepBack_58 rfl ?_
      refine z_iload 5 dX6_stepBack_60 rfl ?_
      refine z_iadd dX6_stepBack_62 ?_
      refine z_aload_n 0 dX6_stepBack_63 rfl rfl ?_
      refine z_getr fl_RX6_15 (by decide) rfl rfl dX6_stepBack_64 ?_
      refine z_iload 4 dX6_stepBack_67 rfl ?_
      refine z_bipush dX6_stepBack_69 (by decide) ?_
      refine z_iadd dX6_stepBack_71 ?_
      refine z_iload 8 dX6_stepBack_72 rfl ?_
      refine z_iadd dX6_stepBack_74 ?_
      refine z_iald (64 * (p + 1) + (s ||| 2 ^ m)) (by decide) rfl (by omega) (by omega) (by decide) dX6_stepBack_75 ?_
      rw [r1]
      refine z_iast (64 * p + s) (by decide) rfl (by omega) (by omega) (by decide) dX6_stepBack_76 ?_
      refine z_iload 5 dX6_stepBack_77 rfl ?_
      refine z_iconst dX6_stepBack_79 ?_
      refine z_isub dX6_stepBack_80 ?_
      refine z_iload_n 3 dX6_stepBack_81 rfl rfl ?_
      refine z_iand _ (znxt a s) dX6_stepBack_82 ?_
      refine z_istore (L' := [(0, _), (1, _), (2, _), (3, _), (4, _), (5, _), (6, _), (7, _), (8, _)]) dX6_stepBack_83 (by decide) rfl rfl ?_
      refine z_iinc 6 (L' := [(0, _), (1, _), (2, _), (3, _), (4, _), (5, _), (6, _), (7, _), (8, _)]) dX6_stepBack_85 (by decide) rfl rfl rfl ?_
      refine z_goto 17 dX6_stepBack_88 (by decide) ?_
      refine z_sub (L' := [(0, _), (1, _), (2, _), (3, _), (4, _), (5, _), (6, _)]) [0, 1, 2, 3, 4, 5, 6] rfl ?_
      refine z_LL _ ?_ (ih (nxt a s) _ (hf.up (by decide)) (hr0.up (by omega)) (nxt_SB a s) (fun u hu hv => ?_) (by omega))
      · rw [show ((c + 1 : Nat) : Int) + -1 = (c : Int) by omega]
      · rw [zu_row]
        split
        · rename_i e0
          have e : u = s := by omega
          subst e
          rw [finF]
          first | (rw [if_pos h_38]; done) | (rw [if_neg (by rw [h_38]; decide)]; done)
        · rename_i e0
          exact hd u hu (by rw [visL]; exact fun z => (List.mem_cons.mp z).elim (fun z => e0 (by omega)) hv)
theorem t_stepBack (l : Launch) {g : zG} (hg : zAmOk g) {d : zD} {h : Hl} (w : Wf h) (H : HC 2 d h) (K : LK d h) (D : MD d h) {t p m a : Nat} {rest : List Nat} (hT : d 26 8 = t) (ht : t < 512) (hm : m < hN h) (ha : a < 2 ^ hN h) (hp : p < 6) (hR : ∀ s, SB s (a ||| 2 ^ m) → d 28 (64 * (p + 1) + s) = finF h t rest s) : zC l g mX6_stepBack 3 [zr g 26, zi (p : Int), zi (m : Int), zi (a : Int)] d (fun r d' => r = none ∧ (zF [28] d d' ∧ Rout p d d' ∧ ∀ s, SB s a → d' 28 (64 * p + s) = finF h t (m :: rest) s)) := by
  have hp2 := p64 w.2.2.1
  have hpc := pc_le a (by omega)
  have hpw : 2 ^ pcN a 32 ≤ 64 := p64 hpc
  refine zC_of (L := [(0, _), (1, _), (2, _), (3, _)]) mk_X6_stepBack (Nat.le_of_ble_eq_true rfl) hg rfl (fun x => ?_)
  refine z_iload_n 1 dX6_stepBack_0 rfl rfl ?_
  refine z_bipush dX6_stepBack_1 (by decide) ?_
  refine z_imul dX6_stepBack_3 ?_
  refine z_istore (L' := [(0, _), (1, _), (2, _), (3, _), (4, _)]) dX6_stepBack_4 (by decide) rfl rfl ?_
  refine z_iload_n 3 dX6_stepBack_6 rfl rfl ?_
  refine z_istore (L' := [(0, _), (1, _), (2, _), (3, _), (4, _), (5, _)]) dX6_stepBack_7 (by decide) rfl rfl ?_
  refine z_iconst dX6_stepBack_9 ?_
  refine z_iload_n 3 dX6_stepBack_10 rfl rfl ?_
  refine z_cs (t_bitCount l hg d (a := a) (by omega)) mk_J6_bitCount_0f7a4 ms_J6_bitCount_0f7a4 ml_RX6_72 (by omega) rfl rfl (Nat.le_of_ble_eq_true rfl) dX6_stepBack_11 (zpure ?_)
  refine z_ishl _ (zshl (s := 1) (m := pcN a 32) (by omega) (by omega)) dX6_stepBack_14 ?_
  rw [Nat.one_mul]
  refine z_istore (L' := [(0, _), (1, _), (2, _), (3, _), (4, _), (5, _), (6, _)]) dX6_stepBack_15 (by decide) rfl rfl ?_
  refine lp_stepBack hg w H K D hT ht hm ha hp hR (by omega) (fun d' h1 h2 h3 => ⟨rfl, h1, h2, h3⟩) (2 ^ pcN a 32) a d zF.rf Rout.rf (fun i hi => hi) (fun u hu hv => ?_) hpw
  have hul := SB_le hu
  exact absurd (vis_all a (by omega) u (by omega) (SB_and.mp hu)) hv
/-- the motions in their order but those in gone -/
def flL (ord : Nat → Nat) (gone k : Nat) : List Nat := ((List.range k).map ord).filter (fun m => !gone.testBit m)
theorem flL_s (ord : Nat → Nat) (gone k : Nat) : flL ord gone (k + 1) = flL ord gone k ++ (if gone.testBit (ord k) = true then [] else [ord k]) := by
  unfold flL
  rw [List.range_succ, List.map_append, List.filter_append]
  congr 1
  simp only [List.map_cons, List.map_nil, List.filter_cons, List.filter_nil]
  cases gone.testBit (ord k) <;> rfl
theorem flL_len (ord : Nat → Nat) (gone k : Nat) : (flL ord gone k).length ≤ k := by
  unfold flL
  exact Nat.le_trans (List.length_filter_le _ _) (by simp)
/-- an order: each motion once -/
def Ord (n : Nat) (ord : Nat → Nat) : Prop := (∀ i, i < n → ord i < n) ∧ ∀ i j, i < n → j < n → ord i = ord j → i = j
theorem flL_mem {ord : Nat → Nat} {gone k m : Nat} (h : m ∈ flL ord gone k) : ∃ i, i < k ∧ ord i = m ∧ gone.testBit m = false := by
  unfold flL at h
  obtain ⟨h1, h2⟩ := List.mem_filter.mp h
  obtain ⟨i, h3, h4⟩ := List.mem_map.mp h1
  exact ⟨i, List.mem_range.mp h3, h4, by simpa using h2⟩
theorem flL_nodup {n : Nat} {ord : Nat → Nat} (ho : Ord n ord) (gone : Nat) : ∀ k, k ≤ n → (flL ord gone k).Nodup
  | 0, _ => by simp [flL]
  | k + 1, hk => by
    rw [flL_s]
    split
    · rw [List.append_nil]; exact flL_nodup ho gone k (by omega)
    · rw [List.nodup_append]
      refine ⟨flL_nodup ho gone k (by omega), by simp, fun a ha b hb => ?_⟩
      rw [List.mem_singleton] at hb
      obtain ⟨i, h1, h2, -⟩ := flL_mem ha
      intro e
      have := ho.2 i k (by omega) (by omega) (by rw [h2, e, hb])
      omega
theorem flL_lt {n : Nat} {ord : Nat → Nat} (ho : Ord n ord) {gone k m : Nat} (hk : k ≤ n) (h : m ∈ flL ord gone k) : m < n := by
  obtain ⟨i, h1, h2, -⟩ := flL_mem h
  rw [← h2]; exact ho.1 i (by omega)
/-- the class's order -/
def OR (d : zD) (h : Hl) (ord : Nat → Nat) : Prop := ∀ i, i < hN h → d 22 i = ord i
/-- what outcome leaves: ends, steps, who is true -/
def EN (d : zD) (h : Hl) (t : Nat) (ls : List Nat) : Prop := (∀ p s, p ≤ ls.length → SB s (mask (ls.take p)) → d 28 (64 * p + s) = finF h t (ls.drop p) s) ∧ (∀ (i m : Nat), ls[i]? = some m → d 29 i = m) ∧ d 26 8 = t
theorem nd_mask {r : List Nat} {m : Nat} (h : m ∉ r) : nd (mask (r ++ [m])) (2 ^ m) = mask r := by
  apply Nat.eq_of_testBit_eq
  intro i
  rw [nd_bit, mask_bit, mask_bit, Nat.testBit_two_pow]
  by_cases h1 : i ∈ r <;> by_cases h2 : m = i <;> simp_all [eq_comm]
theorem mask_take_lt {k : Nat} {ls : List Nat} (h : ∀ m ∈ ls, m < k) (p : Nat) : mask (ls.take p) < 2 ^ k := mask_lt (fun m hm => h m (List.mem_of_mem_take hm))
theorem lp2_outcome {l : Launch} {x : zX} {g : zG} {n : Nat} {Q : Option Value → zD → Prop} {d0 : zD} {h : Hl} {t : Nat} {a2 : Int} {ls : List Nat} (hg : zAmOk g) (w : Wf h) (H : HC 2 d0 h) (K : LK d0 h) (D : MD d0 h) (hT : d0 26 8 = t) (ht : t < 512) (hls : ∀ m ∈ ls, m < hN h) (hnd : ls.Nodup) (hll : ls.length ≤ 6) (hst : ∀ (i m : Nat), ls[i]? = some m → d0 29 i = m) (hn : 3 < n) (hQ : ∀ d, zF [28] d0 d → EN d h t ls → Q (some (zi (finF h t ls 0 : Nat))) d) : ∀ j d, zF [28] d0 d → (∀ p s, j ≤ p → p ≤ ls.length → SB s (mask (ls.take p)) → d 28 (64 * p + s) = finF h t (ls.drop p) s) → j ≤ ls.length → zV l x g mX6_outcome n Q 80 [(0, zr g 26), (1, zi (t : Int)), (2, zi a2), (3, zi (ls.length : Int)), (4, zi (mask (ls.take j) : Nat)), (5, zi ((j : Int) - 1))] [] d := by
  have hp2 := p64 w.2.2.1
  have w3 := w.2.2.1
  intro j
  induction j with
  | zero =>
    intro d hf hd hj
    have e0 : d 28 0 = finF h t ls 0 := hd 0 0 (Nat.le_refl _) (Nat.zero_le _) (SB_zero _)
    refine z_iload 5 dX6_outcome_80 rfl ?_
    refine z_if_lt 122 (by omega) dX6_outcome_82 (by decide) (fun h_82 => ?_) (fun h_82 => absurd h_82 (by omega))
    refine z_aload_n 0 dX6_outcome_122 rfl rfl ?_
    refine z_getr fl_RX6_15 (by decide) rfl rfl dX6_outcome_123 ?_
    refine z_iconst dX6_outcome_126 ?_
    refine z_iald 0 (by decide) rfl rfl (by omega) (by decide) dX6_outcome_127 ?_
    rw [e0]
    exact z_iret rfl dX6_outcome_128 (hQ d hf ⟨fun p s hp hs => hd p s (Nat.zero_le _) hp hs, fun i m hi => by rw [hf 29 (by decide)]; exact hst i m hi, by rw [hf 26 (by decide)]; exact hT⟩)
  | succ j ih =>
    intro d hf hd hj
    have H' : HC 2 d h := hf.HC (by decide) H
    have K' : LK d h := K.of (hf 25 (by decide))
    have D' : MD d h := D.of (hf 27 (by decide))
    have hT' : d 26 8 = t := by rw [hf 26 (by decide)]; exact hT
    have hjl : j < ls.length := by omega
    obtain ⟨m, hm⟩ : ∃ m, ls[j]? = some m := ⟨_, List.getElem?_eq_getElem hjl⟩
    have hmm : m ∈ ls := List.mem_of_getElem? hm
    have hmN := hls m hmm
    have hb := bit_le hmN w3
    have e1 : d 29 j = m := by rw [hf 29 (by decide)]; exact hst j m hm
    have e2 : ls.take (j + 1) = ls.take j ++ [m] := by rw [List.take_succ, hm]; rfl
    have e3 : ls.drop j = m :: ls.drop (j + 1) := by rw [List.drop_eq_getElem_cons hjl]; congr 1; exact (List.getElem?_eq_some_iff.mp hm).2
    have hni : m ∉ ls.take j := by
      intro hc
      have h1 : (ls.take (j + 1)).Nodup := hnd.sublist (List.take_sublist _ _)
      rw [e2, List.nodup_append] at h1
      exact h1.2.2 m hc m (List.mem_singleton.mpr rfl) rfl
    have hml := mask_take_lt hls j
    have hR : ∀ s, SB s (mask (ls.take j) ||| 2 ^ m) → d 28 (64 * (j + 1) + s) = finF h t (ls.drop (j + 1)) s := fun s hs => hd (j + 1) s (Nat.le_refl _) hj (by rw [e2, mask_app]; exact hs)
    refine z_iload 5 dX6_outcome_80 rfl ?_
    refine z_if_lt 122 (by omega) dX6_outcome_82 (by decide) (fun h_82 => absurd h_82 (by omega)) (fun h_82 => ?_)
    refine z_iload 4 dX6_outcome_85 rfl ?_
    refine z_iconst dX6_outcome_87 ?_
    refine z_aload_n 0 dX6_outcome_88 rfl rfl ?_
    refine z_getr fl_RX6_18 (by decide) rfl rfl dX6_outcome_89 ?_
    refine z_iload 5 dX6_outcome_92 rfl ?_
    refine z_iald j (by decide) rfl (by omega) (by omega) (by decide) dX6_outcome_94 ?_
    rw [e1]
    refine z_ishl _ (zshl (s := 1) (m := m) (by omega) (by omega)) dX6_outcome_95 ?_
    rw [Nat.one_mul]
    refine z_iconst dX6_outcome_96 ?_
    refine z_ixor _ (zxorm _) dX6_outcome_97 ?_
    refine z_iand _ zandm dX6_outcome_98 ?_
    rw [e2, nd_mask hni]
    refine z_istore (L' := [(0, _), (1, _), (2, _), (3, _), (4, _), (5, _)]) dX6_outcome_99 (by decide) rfl rfl ?_
    refine z_aload_n 0 dX6_outcome_101 rfl rfl ?_
    refine z_iload 5 dX6_outcome_102 rfl ?_
    refine z_aload_n 0 dX6_outcome_104 rfl rfl ?_
    refine z_getr fl_RX6_18 (by decide) rfl rfl dX6_outcome_105 ?_
    refine z_iload 5 dX6_outcome_108 rfl ?_
    refine z_iald j (by decide) rfl (by omega) (by omega) (by decide) dX6_outcome_110 ?_
    rw [e1]
    refine z_iload 4 dX6_outcome_111 rfl ?_
    rw [show ((j + 1 : Nat) : Int) - 1 = (j : Int) by omega]
    refine z_cv (t_stepBack l hg w H' K' D' (p := j) (a := mask (ls.take j)) hT' ht hmN hml (by omega) hR) mk_X6_stepBack mi_X6_stepBack ml_RX6_59 (by omega) (by decide) rfl rfl rfl rfl (Nat.le_of_ble_eq_true rfl) dX6_outcome_113 (zvoid fun d_113 q_113 => ?_)
    refine z_iinc 5 (L' := [(0, _), (1, _), (2, _), (3, _), (4, _), (5, _)]) dX6_outcome_116 (by decide) rfl rfl rfl ?_
    refine z_goto 80 dX6_outcome_119 (by decide) ?_
    refine z_LL _ ?_ (ih d_113 (hf.tr q_113.1) (fun p s hp hpl hs => ?_) (by omega))
    · rfl
    · by_cases e : p = j
      · subst e; rw [e3]; exact q_113.2.2 s hs
      · have hsl := SB_le hs
        have hml2 := mask_take_lt hls p
        rw [q_113.2.1 _ (by omega)]; exact hd p s (by omega) hpl hs
theorem lp1_outcome {l : Launch} {x : zX} {g : zG} {n : Nat} {Q : Option Value → zD → Prop} {d0 : zD} {h : Hl} {t gone : Nat} {ord : Nat → Nat} (hg : zAmOk g) (w : Wf h) (H : HC 2 d0 h) (O : OR d0 h ord) (ho : Ord (hN h) ord) (hgo : gone < 64) (hn : 3 < n) (hQ : ∀ d, zF [29] d0 d → (∀ (i m : Nat), (flL ord gone (hN h))[i]? = some m → d 29 i = m) → zV l x g mX6_outcome n Q 67 [(0, zr g 26), (1, zi (t : Int)), (2, zi (gone : Int)), (3, zi ((flL ord gone (hN h)).length : Int)), (4, zi (mask (flL ord gone (hN h)) : Nat))] [] d) : ∀ r k d, zF [29] d0 d → (∀ (i m : Nat), (flL ord gone k)[i]? = some m → d 29 i = m) → k ≤ hN h → hN h - k < r → zV l x g mX6_outcome n Q 8 [(0, zr g 26), (1, zi (t : Int)), (2, zi (gone : Int)), (3, zi ((flL ord gone k).length : Int)), (4, zi (mask (flL ord gone k) : Nat)), (5, zi (k : Int))] [] d := by
  have w3 := w.2.2.1
  intro r
  induction r with
  | zero => intro k d hf hd hk hr; omega
  | succ r ih =>
    intro k d hf hd hk hr
    have H' : HC 2 d h := hf.HC (by decide) H
    have h3 : d 2 3 = hN h := H'.1.2.2.2.1
    have hle := flL_len ord gone k
    refine z_iload 5 dX6_outcome_8 rfl ?_
    refine z_aload_n 0 dX6_outcome_10 rfl rfl ?_
    refine z_getr fl_RX6_24 (by decide) rfl rfl dX6_outcome_11 ?_
    refine z_geti fl_RX6_36 (by decide) rfl rfl dX6_outcome_14 ?_
    rw [h3]
    refine z_icmp_ge 67 (by omega) (by omega) dX6_outcome_17 (by decide) (fun h_17 => ?_) (fun h_17 => ?_)
    · refine z_sub (L' := [(0, _), (1, _), (2, _), (3, _), (4, _)]) [0, 1, 2, 3, 4] rfl ?_
      have e : k = hN h := by omega
      subst e
      exact hQ d hf hd
    · have ek : d 22 k = ord k := by rw [hf 22 (by decide)]; exact O k (by omega)
      have ok := ho.1 k (by omega)
      have hb := bit_le ok w3
      refine z_aload_n 0 dX6_outcome_20 rfl rfl ?_
      refine z_getr fl_RX6_28 (by decide) rfl rfl dX6_outcome_21 ?_
      refine z_getr fl_RX6_46 (by decide) rfl rfl dX6_outcome_24 ?_
      refine z_iload 5 dX6_outcome_27 rfl ?_
      refine z_iald _ (by decide) rfl rfl (by omega) (by decide) dX6_outcome_29 ?_
      rw [ek]
      refine z_istore (L' := [(0, _), (1, _), (2, _), (3, _), (4, _), (5, _), (6, _)]) dX6_outcome_30 (by decide) rfl rfl ?_
      refine z_iload 6 dX6_outcome_32 rfl ?_
      refine z_iload_n 2 dX6_outcome_34 rfl rfl ?_
      refine z_cs (t_isIn l hg d (m := ord k) (s := gone) (by omega) (by omega)) mk_X7_isIn ms_X7_isIn ml_RX6_51 (by omega) rfl rfl (Nat.le_of_ble_eq_true rfl) dX6_outcome_35 (zpure ?_)
      refine z_if_ne_b 61 dX6_outcome_38 (by decide) (fun h_38 => ?_) (fun h_38 => ?_)
      · refine z_iinc 5 (L' := [(0, _), (1, _), (2, _), (3, _), (4, _), (5, _), (6, _)]) dX6_outcome_61 (by decide) rfl rfl rfl ?_
        refine z_goto 8 dX6_outcome_64 (by decide) ?_
        refine z_sub (L' := [(0, _), (1, _), (2, _), (3, _), (4, _), (5, _)]) [0, 1, 2, 3, 4, 5] rfl ?_
        have e : flL ord gone (k + 1) = flL ord gone k := by rw [flL_s, h_38]; simp
        refine z_LL _ ?_ (ih (k + 1) _ hf (fun i m hi => ?_) (by omega) (by omega))
        · rw [e]; rfl
        · rw [e] at hi; exact hd i m hi
      · refine z_aload_n 0 dX6_outcome_41 rfl rfl ?_
        refine z_getr fl_RX6_18 (by decide) rfl rfl dX6_outcome_42 ?_
        refine z_iload_n 3 dX6_outcome_45 rfl rfl ?_
        refine z_iload 6 dX6_outcome_46 rfl ?_
        refine z_iast _ (by decide) rfl rfl (by omega) (by decide) dX6_outcome_48 ?_
        refine z_iinc 3 (L' := [(0, _), (1, _), (2, _), (3, _), (4, _), (5, _), (6, _)]) dX6_outcome_49 (by decide) rfl rfl rfl ?_
        refine z_iload 4 dX6_outcome_52 rfl ?_
        refine z_iconst dX6_outcome_54 ?_
        refine z_iload 6 dX6_outcome_55 rfl ?_
        refine z_ishl _ (zshl (s := 1) (m := ord k) (by omega) (by omega)) dX6_outcome_57 ?_
        rw [Nat.one_mul]
        refine z_ior _ (zor _ _) dX6_outcome_58 ?_
        refine z_istore (L' := [(0, _), (1, _), (2, _), (3, _), (4, _), (5, _), (6, _)]) dX6_outcome_59 (by decide) rfl rfl ?_
        refine z_iinc 5 (L' := [(0, _), (1, _), (2, _), (3, _), (4, _), (5, _), (6, _)]) dX6_outcome_61 (by decide) rfl rfl rfl ?_
        refine z_goto 8 dX6_outcome_64 (by decide) ?_
        refine z_sub (L' := [(0, _), (1, _), (2, _), (3, _), (4, _), (5, _)]) [0, 1, 2, 3, 4, 5] rfl ?_
        have e : flL ord gone (k + 1) = flL ord gone k ++ [ord k] := by rw [flL_s, h_38]; rfl
        refine z_LL _ ?_ (ih (k + 1) _ (hf.up (by decide)) (fun i m hi => ?_) (by omega) (by omega))
        · rw [e, mask_app, List.length_append]; rfl
        · rw [e] at hi
          rw [zu_row]
          split
          · rename_i e2
            subst e2
            rw [List.getElem?_append_right (Nat.le_refl _), Nat.sub_self] at hi
            cases hi; rfl
          · rename_i e2
            have hi2 := (List.getElem?_eq_some_iff.mp hi).1
            rw [List.length_append, List.length_singleton] at hi2
            rw [List.getElem?_append_left (by omega)] at hi
            exact hd i m hi
theorem t_outcome (l : Launch) {g : zG} (hg : zAmOk g) {d : zD} {h : Hl} (w : Wf h) (H : HC 2 d h) (K : LK d h) (D : MD d h) {t gone : Nat} {ord : Nat → Nat} (O : OR d h ord) (ho : Ord (hN h) ord) (ht : t < 512) (hgo : gone < 64) : zC l g mX6_outcome 5 [zr g 26, zi (t : Int), zi (gone : Int)] d (fun r d' => r = some (zi (finF h t (flL ord gone (hN h)) 0 : Nat)) ∧ zF [26, 28, 29] d d' ∧ d' 26 7 = d 26 7 ∧ EN d' h t (flL ord gone (hN h))) := by
  have w3 := w.2.2.1
  have hll := flL_len ord gone (hN h)
  have hls : ∀ m ∈ flL ord gone (hN h), m < hN h := fun m hm => flL_lt ho (Nat.le_refl _) hm
  have hml := mask_lt hls
  refine zC_of (L := [(0, _), (1, _), (2, _)]) mk_X6_outcome (Nat.le_of_ble_eq_true rfl) hg rfl (fun x => ?_)
  refine z_iconst dX6_outcome_0 ?_
  refine z_istore_n (L' := [(0, _), (1, _), (2, _), (3, _)]) dX6_outcome_1 rfl (by decide) rfl rfl ?_
  refine z_iconst dX6_outcome_2 ?_
  refine z_istore (L' := [(0, _), (1, _), (2, _), (3, _), (4, _)]) dX6_outcome_3 (by decide) rfl rfl ?_
  refine z_iconst dX6_outcome_5 ?_
  refine z_istore (L' := [(0, _), (1, _), (2, _), (3, _), (4, _), (5, _)]) dX6_outcome_6 (by decide) rfl rfl ?_
  refine lp1_outcome hg w H O ho hgo (by omega) (fun d1 hf1 hs1 => ?_) (hN h + 1) 0 d zF.rf (fun i m hi => by simp [flL] at hi) (by omega) (by omega)
  have H1 : HC 2 d1 h := hf1.HC (by decide) H
  have K1 : LK d1 h := K.of (hf1 25 (by decide))
  have D1 : MD d1 h := D.of (hf1 27 (by decide))
  refine z_aload_n 0 dX6_outcome_67 rfl rfl ?_
  refine z_iload_n 1 dX6_outcome_68 rfl rfl ?_
  refine z_iload_n 3 dX6_outcome_69 rfl rfl ?_
  refine z_iload 4 dX6_outcome_70 rfl ?_
  refine z_cv (t_startBack l hg w H1 K1 D1 (t := t) (p := (flL ord gone (hN h)).length) (a := mask (flL ord gone (hN h))) hml (by omega)) mk_X6_startBack mi_X6_startBack ml_RX6_55 (by omega) (by decide) rfl rfl rfl rfl (Nat.le_of_ble_eq_true rfl) dX6_outcome_72 (zvoid fun d_72 q_72 => ?_)
  obtain ⟨s1, s2, s3, s4, s5⟩ := q_72
  have H2 : HC 2 d_72 h := s1.HC (by decide) H1
  have K2 : LK d_72 h := K1.of (s1 25 (by decide))
  have D2 : MD d_72 h := D1.of (s1 27 (by decide))
  refine z_iload_n 3 dX6_outcome_75 rfl rfl ?_
  refine z_iconst dX6_outcome_76 ?_
  refine z_isub dX6_outcome_77 ?_
  refine z_istore (L' := [(0, _), (1, _), (2, _), (3, _), (4, _), (5, _)]) dX6_outcome_78 (by decide) rfl rfl ?_
  have hh := lp2_outcome (l := l) (x := x) (n := 5) (Q := fun r d' => r = some (zi (finF h t (flL ord gone (hN h)) 0 : Nat)) ∧ zF [26, 28, 29] d d' ∧ d' 26 7 = d 26 7 ∧ EN d' h t (flL ord gone (hN h))) (a2 := gone) hg w H2 K2 D2 s3 ht hls (flL_nodup ho gone _ (Nat.le_refl _)) (by omega) (fun i m hi => by rw [s1 29 (by decide)]; exact hs1 i m hi) (by omega) (fun d' hf' he' => ⟨rfl, fun p hp => ?_, ?_, he'⟩) (flL ord gone (hN h)).length d_72 zF.rf (fun p s hp hpl hs => ?_) (Nat.le_refl _)
  · rw [List.take_length] at hh
    exact hh
  · rw [hf' p (fun z => hp (by simp_all)), s1 p (fun z => hp (by simp_all)), hf1 p (fun z => hp (by simp_all))]
  · rw [hf' 26 (by decide), s4, hf1 26 (by decide)]
  · have e : p = (flL ord gone (hN h)).length := by omega
    subst e
    rw [List.take_length] at hs
    rw [List.drop_length]
    exact s5 s hs
