/-! votes: the way, the minutes -/
def yesAt (h : Hl) (t : Nat) (ls : List Nat) (k s : Nat) : Nat := yesF h t (ls.getD k 0) s (finF h t (ls.drop (k + 1)) (s ||| 2 ^ ls.getD k 0)) (finF h t (ls.drop (k + 1)) s)
def wayS (h : Hl) (t : Nat) (ls : List Nat) : Nat → Nat
  | 0 => 0
  | k + 1 => if carB h (yesAt h t ls k (wayS h t ls k)) = true then wayS h t ls k ||| 2 ^ ls.getD k 0 else wayS h t ls k
theorem wayS_SB (h : Hl) (t : Nat) (ls : List Nat) : ∀ k, k ≤ ls.length → SB (wayS h t ls k) (mask (ls.take k))
  | 0, _ => SB_zero _
  | k + 1, hk => by
    have hl : k < ls.length := by omega
    have ih := wayS_SB h t ls k (by omega)
    have e : ls.take (k + 1) = ls.take k ++ [ls.getD k 0] := by rw [List.take_succ, List.getD_eq_getElem?_getD, List.getElem?_eq_getElem hl]; rfl
    rw [e, mask_app, wayS]
    split
    · exact SB_or _ ih
    · exact SB_up _ ih
/-- the whole order as a list -/
def ordL (h : Hl) (ord : Nat → Nat) : List Nat := flL ord 0 (hN h)
theorem ordL_eq (h : Hl) (ord : Nat → Nat) : ordL h ord = (List.range (hN h)).map ord := by unfold ordL flL; exact List.filter_eq_self.mpr (fun a _ => by simp)
theorem ordL_len (h : Hl) (ord : Nat → Nat) : (ordL h ord).length = hN h := by simp [ordL_eq]
theorem ordL_get (h : Hl) (ord : Nat → Nat) {k : Nat} (hk : k < hN h) : (ordL h ord)[k]? = some (ord k) := by simp [ordL_eq, hk]
theorem ordL_getD (h : Hl) (ord : Nat → Nat) {k : Nat} (hk : k < hN h) : (ordL h ord).getD k 0 = ord k := by rw [List.getD_eq_getElem?_getD, ordL_get h ord hk]; rfl
theorem ordL_lt {h : Hl} {ord : Nat → Nat} (ho : Ord (hN h) ord) : ∀ m ∈ ordL h ord, m < hN h := fun m hm => flL_lt ho (Nat.le_refl _) hm
theorem wayS_lt {h : Hl} {ord : Nat → Nat} (ho : Ord (hN h) ord) (t : Nat) {k : Nat} (hk : k ≤ hN h) : wayS h t (ordL h ord) k < 2 ^ hN h :=
  Nat.lt_of_le_of_lt (SB_le (wayS_SB h t (ordL h ord) k (by rw [ordL_len]; exact hk))) (mask_take_lt (ordL_lt ho) k)
theorem lp_walk {l : Launch} {x : zX} {g : zG} {n : Nat} {Q : Option Value → zD → Prop} {d0 : zD} {h : Hl} {t : Nat} {ord : Nat → Nat} (hg : zAmOk g) (w : Wf h) (H : HC 2 d0 h) (K : LK d0 h) (D : MD d0 h) (ho : Ord (hN h) ord) (E : EN d0 h t (ordL h ord)) (ht : t < 512) (hn : 3 < n) (hQ : ∀ d, zF [26, 30] d0 d → d 26 8 = t → d 26 7 = wayS h t (ordL h ord) (hN h) → (∀ i, i < hN h → d 30 i = yesAt h t (ordL h ord) i (wayS h t (ordL h ord) i)) → d 30 (hN h) = prefF h (formF h (wayS h t (ordL h ord) (hN h))) 0 → Q none d) : ∀ r k d, zF [26, 30] d0 d → d 26 8 = t → d 26 7 = wayS h t (ordL h ord) k → (∀ i, i < k → d 30 i = yesAt h t (ordL h ord) i (wayS h t (ordL h ord) i)) → k ≤ hN h → hN h - k < r → zV l x g mX6_walk n Q 14 [(0, zr g 26), (1, zi (t : Int)), (2, zi (k : Int))] [] d := by
  have w3 := w.2.2.1
  have hp2 := p64 w3
  intro r
  induction r with
  | zero => intro k d hf h8 h7 hd hk hr; omega
  | succ r ih =>
    intro k d hf h8 h7 hd hk hr
    have H' : HC 2 d h := hf.HC (by decide) H
    have K' : LK d h := K.of (hf 25 (by decide))
    have D' : MD d h := D.of (hf 27 (by decide))
    have h3 : d 2 3 = hN h := H'.1.2.2.2.1
    have hwl := wayS_lt ho t hk
    have hsb := wayS_SB h t (ordL h ord) k (by rw [ordL_len]; exact hk)
    refine z_iload_n 2 dX6_walk_14 rfl rfl ?_
    refine z_aload_n 0 dX6_walk_15 rfl rfl ?_
    refine z_getr fl_RX6_24 (by decide) rfl rfl dX6_walk_16 ?_
    refine z_geti fl_RX6_36 (by decide) rfl rfl dX6_walk_19 ?_
    rw [h3]
    refine z_icmp_ge 79 (by omega) (by omega) dX6_walk_22 (by decide) (fun h_22 => ?_) (fun h_22 => ?_)
    · refine z_aload_n 0 dX6_walk_79 rfl rfl ?_
      refine z_getr fl_RX6_21 (by decide) rfl rfl dX6_walk_80 ?_
      refine z_aload_n 0 dX6_walk_83 rfl rfl ?_
      refine z_getr fl_RX6_24 (by decide) rfl rfl dX6_walk_84 ?_
      refine z_geti fl_RX6_36 (by decide) rfl rfl dX6_walk_87 ?_
      refine z_aload_n 0 dX6_walk_90 rfl rfl ?_
      refine z_aload_n 0 dX6_walk_91 rfl rfl ?_
      refine z_geti fl_RX6_104 (by decide) rfl rfl dX6_walk_92 ?_
      rw [h7]
      refine z_cv (t_yesOnPassage l hg w H' K' D' (s := wayS h t (ordL h ord) k) hwl) mk_X6_yesOnPassage mi_X6_yesOnPassage ml_RX6_65 (by omega) (by decide) rfl rfl rfl rfl (Nat.le_of_ble_eq_true rfl) dX6_walk_95 (zpure ?_)
      rw [h3]
      refine z_iast (hN h) (by decide) rfl rfl (by omega) (by decide) dX6_walk_98 ?_
      exact z_vret rfl dX6_walk_99 (hQ _ (hf.up (by decide)) (by rw [zu_ne (by decide)]; exact h8) (by rw [zu_ne (by decide), h7, show k = hN h by omega]) (fun i hi => by rw [zu_row, if_neg (by omega)]; exact hd i (by omega)) (by rw [zu_at, show k = hN h by omega]))
    · have ek : d 29 k = ord k := by rw [hf 29 (by decide)]; exact E.2.1 k (ord k) (ordL_get h ord (by omega))
      have okk := ho.1 k (by omega)
      have hb := bit_le okk w3
      have eg := ordL_getD h ord (show k < hN h by omega)
      have etk : (ordL h ord).take (k + 1) = (ordL h ord).take k ++ [ord k] := by rw [List.take_succ, ordL_get h ord (by omega)]; rfl
      have r1 : d 28 (64 * (k + 1) + (wayS h t (ordL h ord) k ||| 2 ^ ord k)) = finF h t ((ordL h ord).drop (k + 1)) (wayS h t (ordL h ord) k ||| 2 ^ ord k) := by rw [hf 28 (by decide)]; exact E.1 (k + 1) _ (by rw [ordL_len]; omega) (by rw [etk, mask_app]; exact SB_or _ hsb)
      have r2 : d 28 (64 * (k + 1) + wayS h t (ordL h ord) k) = finF h t ((ordL h ord).drop (k + 1)) (wayS h t (ordL h ord) k) := by rw [hf 28 (by decide)]; exact E.1 (k + 1) _ (by rw [ordL_len]; omega) (by rw [etk, mask_app]; exact SB_up _ hsb)
      have ey : yesAt h t (ordL h ord) k (wayS h t (ordL h ord) k) = yesF h t (ord k) (wayS h t (ordL h ord) k) (finF h t ((ordL h ord).drop (k + 1)) (wayS h t (ordL h ord) k ||| 2 ^ ord k)) (finF h t ((ordL h ord).drop (k + 1)) (wayS h t (ordL h ord) k)) := by rw [yesAt, eg]
      have fy := yesF_le w t (ord k) (wayS h t (ordL h ord) k) (finF h t ((ordL h ord).drop (k + 1)) (wayS h t (ordL h ord) k ||| 2 ^ ord k)) (finF h t ((ordL h ord).drop (k + 1)) (wayS h t (ordL h ord) k))
      refine z_aload_n 0 dX6_walk_25 rfl rfl ?_
      refine z_getr fl_RX6_18 (by decide) rfl rfl dX6_walk_26 ?_
      refine z_iload_n 2 dX6_walk_29 rfl rfl ?_
      refine z_iald _ (by decide) rfl rfl (by omega) (by decide) dX6_walk_30 ?_
      rw [ek]
      refine z_istore_n (L' := [(0, _), (1, _), (2, _), (3, _)]) dX6_walk_31 rfl (by decide) rfl rfl ?_
      refine z_aload_n 0 dX6_walk_32 rfl rfl ?_
      refine z_getr fl_RX6_21 (by decide) rfl rfl dX6_walk_33 ?_
      refine z_iload_n 2 dX6_walk_36 rfl rfl ?_
      refine z_aload_n 0 dX6_walk_37 rfl rfl ?_
      refine z_iload_n 2 dX6_walk_38 rfl rfl ?_
      refine z_iload_n 3 dX6_walk_39 rfl rfl ?_
      refine z_aload_n 0 dX6_walk_40 rfl rfl ?_
      refine z_geti fl_RX6_104 (by decide) rfl rfl dX6_walk_41 ?_
      rw [h7]
      refine z_cv (t_yesOnMotion l hg w H' K' D' (p := k) (m := ord k) (s := wayS h t (ordL h ord) k) h8 ht okk hwl (by omega) r1 (finF_lt w t _ _) r2 (finF_lt w t _ _)) mk_X6_yesOnMotion mi_X6_yesOnMotion ml_RX6_77 (by omega) (by decide) rfl rfl rfl rfl (Nat.le_of_ble_eq_true rfl) dX6_walk_44 (zpure ?_)
      rw [← ey]
      refine z_iast _ (by decide) rfl rfl (by omega) (by decide) dX6_walk_47 ?_
      refine z_aload_n 0 dX6_walk_48 rfl rfl ?_
      refine z_aload_n 0 dX6_walk_49 rfl rfl ?_
      refine z_getr fl_RX6_21 (by decide) rfl rfl dX6_walk_50 ?_
      refine z_iload_n 2 dX6_walk_53 rfl rfl ?_
      refine z_iald _ (by decide) rfl rfl (by omega) (by decide) dX6_walk_54 ?_
      rw [zu_at]
      refine z_cv (t_carries l hg w (H'.of (fun p h1 h2 => zu_ne (by omega))) (y := yesAt h t (ordL h ord) k (wayS h t (ordL h ord) k)) (by rw [ey]; exact fy)) mk_X6_carries mi_X6_carries ml_RX6_81 (by omega) (by decide) rfl rfl rfl rfl (Nat.le_of_ble_eq_true rfl) dX6_walk_55 (zpure ?_)
      refine z_if_eq_b 73 dX6_walk_58 (by decide) (fun h_58 => ?_) (fun h_58 => ?_)
      · refine z_iinc 2 (L' := [(0, _), (1, _), (2, _), (3, _)]) dX6_walk_73 (by decide) rfl rfl rfl ?_
        refine z_goto 14 dX6_walk_76 (by decide) ?_
        refine z_sub (L' := [(0, _), (1, _), (2, _)]) [0, 1, 2] rfl ?_
        refine ih (k + 1) _ (hf.up (by decide)) (by rw [zu_ne (by decide)]; exact h8) (by rw [zu_ne (by decide), h7, wayS, if_neg (by rw [h_58]; decide)]) (fun i hi => ?_) (by omega) (by omega)
        rw [zu_row]
        split
        · rename_i e; rw [e]
        · exact hd i (by omega)
      · refine z_aload_n 0 dX6_walk_61 rfl rfl ?_
        refine z_dup dX6_walk_62 rfl ?_
        refine z_geti fl_RX6_104 (by decide) rfl rfl dX6_walk_63 ?_
        rw [zu_ne (by decide), h7]
        refine z_iconst dX6_walk_66 ?_
        refine z_iload_n 3 dX6_walk_67 rfl rfl ?_
        refine z_ishl _ (zshl (s := 1) (m := ord k) (by omega) (by omega)) dX6_walk_68 ?_
        rw [Nat.one_mul]
        refine z_ior _ (zor _ _) dX6_walk_69 ?_
        refine z_puti fp_RX6_104 (by decide) rfl rfl dX6_walk_70 ?_
        refine z_iinc 2 (L' := [(0, _), (1, _), (2, _), (3, _)]) dX6_walk_73 (by decide) rfl rfl rfl ?_
        refine z_goto 14 dX6_walk_76 (by decide) ?_
        refine z_sub (L' := [(0, _), (1, _), (2, _)]) [0, 1, 2] rfl ?_
        refine ih (k + 1) _ ((hf.up (by decide)).up (by decide)) (by rw [zu_row]; simp only [Nat.reduceEqDiff, if_false]; rw [zu_ne (by decide)]; exact h8) (by rw [zu_at, wayS, if_pos h_58, eg]) (fun i hi => ?_) (by omega) (by omega)
        rw [zu_ne (by decide), zu_row]
        split
        · rename_i e; rw [e]
        · exact hd i (by omega)
theorem t_walk (l : Launch) {g : zG} (hg : zAmOk g) {d : zD} {h : Hl} (w : Wf h) (H : HC 2 d h) (K : LK d h) (D : MD d h) {t : Nat} {ord : Nat → Nat} (O : OR d h ord) (ho : Ord (hN h) ord) (ht : t < 512) : zC l g mX6_walk 6 [zr g 26, zi (t : Int)] d (fun r d' => r = none ∧ (zF [26, 28, 29, 30] d d' ∧ d' 26 7 = wayS h t (ordL h ord) (hN h) ∧ (∀ i, i < hN h → d' 30 i = yesAt h t (ordL h ord) i (wayS h t (ordL h ord) i)) ∧ d' 30 (hN h) = prefF h (formF h (wayS h t (ordL h ord) (hN h))) 0 ∧ ∀ i, i < hN h → d' 29 i = ord i)) := by
  refine zC_of (L := [(0, _), (1, _)]) mk_X6_walk (Nat.le_of_ble_eq_true rfl) hg rfl (fun x => ?_)
  refine z_aload_n 0 dX6_walk_0 rfl rfl ?_
  refine z_iload_n 1 dX6_walk_1 rfl rfl ?_
  refine z_iconst dX6_walk_2 ?_
  refine z_cv (t_outcome l hg w H K D (t := t) (gone := 0) O ho ht (by omega)) mk_X6_outcome mi_X6_outcome ml_RX6_101 (by omega) (by decide) rfl rfl rfl rfl (Nat.le_of_ble_eq_true rfl) dX6_walk_3 (fun r_3 d_3 q_3 => ?_)
  obtain ⟨rfl, f1, f2, E⟩ := q_3
  have H1 : HC 2 d_3 h := f1.HC (by decide) H
  have K1 : LK d_3 h := K.of (f1 25 (by decide))
  have D1 : MD d_3 h := D.of (f1 27 (by decide))
  have e8 := E.2.2
  show zV l x g mX6_walk 6 _ _ _ [_] _
  refine z_pop dX6_walk_6 rfl ?_
  refine z_aload_n 0 dX6_walk_7 rfl rfl ?_
  refine z_iconst dX6_walk_8 ?_
  refine z_puti fp_RX6_104 (by decide) rfl rfl dX6_walk_9 ?_
  refine z_iconst dX6_walk_12 ?_
  refine z_istore_n (L' := [(0, _), (1, _), (2, _)]) dX6_walk_13 rfl (by decide) rfl rfl ?_
  refine lp_walk (d0 := zu d_3 26 7 0) (h := h) (t := t) (ord := ord) hg w (H1.of (fun p h1 h2 => zu_ne (by omega))) (K1.of (zu_ne (by decide))) (D1.of (zu_ne (by decide))) ho ⟨fun p s hp hs => by rw [zu_ne (by decide)]; exact E.1 p s hp hs, fun i m hi => by rw [zu_ne (by decide)]; exact E.2.1 i m hi, by rw [zu_row]; exact e8⟩ ht (by omega) (fun d' g1 g2 g3 g4 g5 => ⟨rfl, fun p hp => ?_, g3, g4, g5, fun i hi => ?_⟩) (hN h + 1) 0 _ zF.rf (by rw [zu_row]; exact e8) (by rw [zu_at]; rfl) (fun i hi => absurd hi (by omega)) (by omega) (by omega)
  · rw [g1 p (fun z => hp (by simp_all)), zu_ne (fun z => hp (by simp_all)), f1 p (fun z => hp (by simp_all))]
  · rw [g1 29 (by decide), zu_ne (by decide)]; exact E.2.1 i (ord i) (ordL_get h ord hi)
def minF (h : Hl) (ord : Nat → Nat) (p y c : Nat) : Int := match c with
  | 0 => if p = hN h then 112 else 48 + (ord p : Int)
  | 1 => 58
  | 2 => 48 + (y : Int)
  | 3 => 45
  | 4 => 48 + (hV h : Int) - (y : Int)
  | 5 => if (if p = hN h then decide (quotaF h ≤ y) else carB h y) = true then 43 else 46
  | _ => 59
theorem t_minuteByte (l : Launch) {g : zG} (hg : zAmOk g) {d : zD} {h : Hl} (w : Wf h) (H : HC 2 d h) {ord : Nat → Nat} {p y c : Nat} (hp : p ≤ hN h) (hy : d 30 p = y) (hy9 : y ≤ 9) (hc : c < 7) (hs : p < hN h → d 29 p = ord p) : zC l g mX6_minuteByte 3 [zr g 26, zi (p : Int), zi (c : Int)] d (zpu (zi (minF h ord p y c)) d) := by
  have w3 := w.2.2.1
  have h3 : d 2 3 = hN h := H.1.2.2.2.1
  have h4 : d 2 4 = hV h := H.1.2.2.2.2.1
  refine zC_of (L := [(0, _), (1, _), (2, _)]) mk_X6_minuteByte (Nat.le_of_ble_eq_true rfl) hg rfl (fun x => ?_)
  refine z_iload_n 1 dX6_minuteByte_0 rfl rfl ?_
  refine z_aload_n 0 dX6_minuteByte_1 rfl rfl ?_
  refine z_getr fl_RX6_24 (by decide) rfl rfl dX6_minuteByte_2 ?_
  refine z_geti fl_RX6_36 (by decide) rfl rfl dX6_minuteByte_5 ?_
  rw [h3]
  refine z_icmp_ne 15 (by omega) (by omega) dX6_minuteByte_8 (by decide) (fun h_8 => ?_) (fun h_8 => ?_)
  · refine z_iconst dX6_minuteByte_15 ?_
    refine z_istore_n (L' := [(0, _), (1, _), (2, _), (3, _)]) dX6_minuteByte_16 rfl (by decide) rfl rfl ?_
    refine z_aload_n 0 dX6_minuteByte_17 rfl rfl ?_
    refine z_getr fl_RX6_21 (by decide) rfl rfl dX6_minuteByte_18 ?_
    refine z_iload_n 1 dX6_minuteByte_21 rfl rfl ?_
    refine z_iald _ (by decide) rfl rfl (by omega) (by decide) dX6_minuteByte_22 ?_
    rw [hy]
    refine z_istore (L' := [(0, _), (1, _), (2, _), (3, _), (4, _)]) dX6_minuteByte_23 (by decide) rfl rfl ?_
    refine z_iload_n 2 dX6_minuteByte_25 rfl rfl ?_
    rcases (show c = 0 ∨ c = 1 ∨ c = 2 ∨ c = 3 ∨ c = 4 ∨ c = 5 ∨ c = 6 by omega) with rfl | rfl | rfl | rfl | rfl | rfl | rfl
    · refine z_tabIn 64 0 rfl (by decide) (by decide) (by decide) rfl (by decide) dX6_minuteByte_26 ?_
      refine z_iload_n 3 dX6_minuteByte_64 rfl rfl ?_
      refine z_if_eq 73 (by omega) dX6_minuteByte_65 (by decide) (fun h_65 => ?_) (fun h_65 => absurd h_65 (by decide))
      refine z_bipush dX6_minuteByte_73 (by decide) ?_
      refine z_aload_n 0 dX6_minuteByte_75 rfl rfl ?_
      refine z_getr fl_RX6_18 (by decide) rfl rfl dX6_minuteByte_76 ?_
      refine z_iload_n 1 dX6_minuteByte_79 rfl rfl ?_
      refine z_iald _ (by decide) rfl rfl (by omega) (by decide) dX6_minuteByte_80 ?_
      rw [hs (by omega)]
      refine z_iadd dX6_minuteByte_81 ?_
      exact z_iret rfl dX6_minuteByte_82 (zret_i (by simp only [minF]; rw [if_neg (by omega)]))
    · refine z_tabIn 83 1 rfl (by decide) (by decide) (by decide) rfl (by decide) dX6_minuteByte_26 ?_
      refine z_bipush dX6_minuteByte_83 (by decide) ?_
      exact z_iret rfl dX6_minuteByte_85 (zret_i rfl)
    · refine z_tabIn 86 2 rfl (by decide) (by decide) (by decide) rfl (by decide) dX6_minuteByte_26 ?_
      refine z_bipush dX6_minuteByte_86 (by decide) ?_
      refine z_iload 4 dX6_minuteByte_88 rfl ?_
      refine z_iadd dX6_minuteByte_90 ?_
      exact z_iret rfl dX6_minuteByte_91 (zret_i rfl)
    · refine z_tabIn 92 3 rfl (by decide) (by decide) (by decide) rfl (by decide) dX6_minuteByte_26 ?_
      refine z_bipush dX6_minuteByte_92 (by decide) ?_
      exact z_iret rfl dX6_minuteByte_94 (zret_i rfl)
    · refine z_tabIn 95 4 rfl (by decide) (by decide) (by decide) rfl (by decide) dX6_minuteByte_26 ?_
      refine z_bipush dX6_minuteByte_95 (by decide) ?_
      refine z_aload_n 0 dX6_minuteByte_97 rfl rfl ?_
      refine z_getr fl_RX6_24 (by decide) rfl rfl dX6_minuteByte_98 ?_
      refine z_geti fl_RX6_84 (by decide) rfl rfl dX6_minuteByte_101 ?_
      refine z_iadd dX6_minuteByte_104 ?_
      refine z_iload 4 dX6_minuteByte_105 rfl ?_
      rw [h4]
      refine z_isub dX6_minuteByte_107 ?_
      exact z_iret rfl dX6_minuteByte_108 (zret_i rfl)
    · refine z_tabIn 109 5 rfl (by decide) (by decide) (by decide) rfl (by decide) dX6_minuteByte_26 ?_
      refine z_iload_n 3 dX6_minuteByte_109 rfl rfl ?_
      refine z_if_eq 125 (by omega) dX6_minuteByte_110 (by decide) (fun h_110 => ?_) (fun h_110 => absurd h_110 (by decide))
      refine z_aload_n 0 dX6_minuteByte_125 rfl rfl ?_
      refine z_iload 4 dX6_minuteByte_126 rfl ?_
      refine z_cv (t_carries l hg w H hy9) mk_X6_carries mi_X6_carries ml_RX6_81 (by omega) (by decide) rfl rfl rfl rfl (Nat.le_of_ble_eq_true rfl) dX6_minuteByte_128 (zpure ?_)
      refine z_if_eq_b 139 dX6_minuteByte_131 (by decide) (fun h_131 => ?_) (fun h_131 => ?_)
      · refine z_bipush dX6_minuteByte_139 (by decide) ?_
        exact z_iret rfl dX6_minuteByte_141 (zret_i (by simp only [minF]; rw [if_neg (show ¬ p = hN h by omega), h_131]; rfl))
      · refine z_bipush dX6_minuteByte_134 (by decide) ?_
        refine z_goto 141 dX6_minuteByte_136 (by decide) ?_
        exact z_iret rfl dX6_minuteByte_141 (zret_i (by simp only [minF]; rw [if_neg (show ¬ p = hN h by omega), h_131]; rfl))
    · refine z_tabOut 142 (by decide) (by decide) (by decide) dX6_minuteByte_26 ?_
      refine z_bipush dX6_minuteByte_142 (by decide) ?_
      exact z_iret rfl dX6_minuteByte_144 (zret_i rfl)
  · refine z_iconst dX6_minuteByte_11 ?_
    refine z_goto 16 dX6_minuteByte_12 (by decide) ?_
    refine z_istore_n (L' := [(0, _), (1, _), (2, _), (3, _)]) dX6_minuteByte_16 rfl (by decide) rfl rfl ?_
    refine z_aload_n 0 dX6_minuteByte_17 rfl rfl ?_
    refine z_getr fl_RX6_21 (by decide) rfl rfl dX6_minuteByte_18 ?_
    refine z_iload_n 1 dX6_minuteByte_21 rfl rfl ?_
    refine z_iald _ (by decide) rfl rfl (by omega) (by decide) dX6_minuteByte_22 ?_
    rw [hy]
    refine z_istore (L' := [(0, _), (1, _), (2, _), (3, _), (4, _)]) dX6_minuteByte_23 (by decide) rfl rfl ?_
    refine z_iload_n 2 dX6_minuteByte_25 rfl rfl ?_
    rcases (show c = 0 ∨ c = 1 ∨ c = 2 ∨ c = 3 ∨ c = 4 ∨ c = 5 ∨ c = 6 by omega) with rfl | rfl | rfl | rfl | rfl | rfl | rfl
    · refine z_tabIn 64 0 rfl (by decide) (by decide) (by decide) rfl (by decide) dX6_minuteByte_26 ?_
      refine z_iload_n 3 dX6_minuteByte_64 rfl rfl ?_
      refine z_if_eq 73 (by omega) dX6_minuteByte_65 (by decide) (fun h_65 => absurd h_65 (by decide)) (fun h_65 => ?_)
      refine z_bipush dX6_minuteByte_68 (by decide) ?_
      refine z_goto 82 dX6_minuteByte_70 (by decide) ?_
      exact z_iret rfl dX6_minuteByte_82 (zret_i (by simp only [minF]; rw [if_pos (by omega)]))
    · refine z_tabIn 83 1 rfl (by decide) (by decide) (by decide) rfl (by decide) dX6_minuteByte_26 ?_
      refine z_bipush dX6_minuteByte_83 (by decide) ?_
      exact z_iret rfl dX6_minuteByte_85 (zret_i rfl)
    · refine z_tabIn 86 2 rfl (by decide) (by decide) (by decide) rfl (by decide) dX6_minuteByte_26 ?_
      refine z_bipush dX6_minuteByte_86 (by decide) ?_
      refine z_iload 4 dX6_minuteByte_88 rfl ?_
      refine z_iadd dX6_minuteByte_90 ?_
      exact z_iret rfl dX6_minuteByte_91 (zret_i rfl)
    · refine z_tabIn 92 3 rfl (by decide) (by decide) (by decide) rfl (by decide) dX6_minuteByte_26 ?_
      refine z_bipush dX6_minuteByte_92 (by decide) ?_
      exact z_iret rfl dX6_minuteByte_94 (zret_i rfl)
    · refine z_tabIn 95 4 rfl (by decide) (by decide) (by decide) rfl (by decide) dX6_minuteByte_26 ?_
      refine z_bipush dX6_minuteByte_95 (by decide) ?_
      refine z_aload_n 0 dX6_minuteByte_97 rfl rfl ?_
      refine z_getr fl_RX6_24 (by decide) rfl rfl dX6_minuteByte_98 ?_
      refine z_geti fl_RX6_84 (by decide) rfl rfl dX6_minuteByte_101 ?_
      refine z_iadd dX6_minuteByte_104 ?_
      refine z_iload 4 dX6_minuteByte_105 rfl ?_
      rw [h4]
      refine z_isub dX6_minuteByte_107 ?_
      exact z_iret rfl dX6_minuteByte_108 (zret_i rfl)
    · refine z_tabIn 109 5 rfl (by decide) (by decide) (by decide) rfl (by decide) dX6_minuteByte_26 ?_
      refine z_iload_n 3 dX6_minuteByte_109 rfl rfl ?_
      refine z_if_eq 125 (by omega) dX6_minuteByte_110 (by decide) (fun h_110 => absurd h_110 (by decide)) (fun h_110 => ?_)
      refine z_aload_n 0 dX6_minuteByte_113 rfl rfl ?_
      refine z_iload 4 dX6_minuteByte_114 rfl ?_
      refine z_cv (t_passes l hg w H hy9) mk_X6_passes mi_X6_passes ml_RX6_68 (by omega) (by decide) rfl rfl rfl rfl (Nat.le_of_ble_eq_true rfl) dX6_minuteByte_116 (zpure ?_)
      refine z_if_eq_b 139 dX6_minuteByte_119 (by decide) (fun h_119 => ?_) (fun h_119 => ?_)
      · refine z_bipush dX6_minuteByte_139 (by decide) ?_
        exact z_iret rfl dX6_minuteByte_141 (zret_i (by simp only [minF]; rw [if_pos (show p = hN h by omega), h_119]; rfl))
      · refine z_goto 134 dX6_minuteByte_122 (by decide) ?_
        refine z_bipush dX6_minuteByte_134 (by decide) ?_
        refine z_goto 141 dX6_minuteByte_136 (by decide) ?_
        exact z_iret rfl dX6_minuteByte_141 (zret_i (by simp only [minF]; rw [if_pos (show p = hN h by omega), h_119]; rfl))
    · refine z_tabOut 142 (by decide) (by decide) (by decide) dX6_minuteByte_26 ?_
      refine z_bipush dX6_minuteByte_142 (by decide) ?_
      exact z_iret rfl dX6_minuteByte_144 (zret_i rfl)
