/-! the reference reads numbers, sets, weights; a word and its number -/
theorem nvN_3 {tp : Nat → Nat} {a : Nat} : ∀ k, k ≤ 3 → (∀ i, i < k → 48 ≤ tp (a + i) ∧ tp (a + i) ≤ 57) → nvN tp a k < 10 ^ k
  | 0, _, _ => by simp [nvN]
  | k + 1, hk, h => by
    have ih := nvN_3 k (by omega) (fun i hi => h i (by omega))
    have h2 := h k (by omega)
    rw [nvN, Nat.pow_succ]
    omega
def spNum (tp : Nat → Nat) (tl p : Nat) (lo hi : Int) : Nat ⊕ Nat := if kd tp tl p ≠ 2 then .inl (1 + 8 * sk tp tl p) else if lo ≤ (nv tp tl p : Int) ∧ (nv tp tl p : Int) ≤ hi then .inr (en tp tl p) else .inl (2 + 8 * sk tp tl p)
def mN (k : Nat) : Nat := if k < 3 then k else 3
theorem t8_readNumber (l : Launch) {g : zG} (hg : zAmOk g) {d : zD} {tp : Nat → Nat} {tl p : Nat} (T : TM d tp tl) (C : CU d tp tl p) {lo hi : Int} (hlo : zin lo) (hhi : zin hi) : zC l g mX8_readNumber 2 [zr g 37, zi lo, zi hi] d (PM d (spNum tp tl p lo hi) (fun v d' => MR [23, 25] d d' ∧ CU d' tp tl v ∧ d' 37 25 = (nv tp tl p : Nat))) := by
  obtain ⟨t1, t2, t3⟩ := id T
  have hh := hvI_in tp (fun i hi => (t3 i hi).2) p
  have hp := C.1
  have hs := sk_le (tp := tp) hp
  have he := en_le (tp := tp) hp
  have key : ∀ (x : zX) (r k : Nat) (d1 : zD), (kd tp tl p = 2 ∨ kd tp tl p = 4) → MR [23, 25] d d1 → d1 37 23 = ((sk tp tl p + k : Nat) : Int) → d1 37 25 = (nvN tp (sk tp tl p) (mN k) : Nat) → sk tp tl p + k ≤ tl → rn tp tl 48 57 (sk tp tl p + k) = en tp tl p → (∀ i, i < k → 48 ≤ tp (sk tp tl p + i) ∧ tp (sk tp tl p + i) ≤ 57) → tl - (sk tp tl p + k) < r → zV l x g mX8_readNumber 2 (PM d (spNum tp tl p lo hi) (fun v d' => MR [23, 25] d d' ∧ CU d' tp tl v ∧ d' 37 25 = (nv tp tl p : Nat))) 34 [(0, zr g 37), (1, zi lo), (2, zi hi), (3, zi (sk tp tl p : Nat))] [] d1 := by
    intro x r
    induction r with
    | zero => intro k d1 hk h1 h2 h3 h4 h5 h6 hr; omega
    | succ r ih =>
      intro k d1 hkd F e23 e25 hk hrn hall hr
      obtain ⟨hd1, hd2, hd3⟩ := en_d hkd
      have e21 : d1 37 21 = tl := by rw [F.2 21 (by decide)]; exact t1
      have e57 : d1 57 = d 57 := F.1 57 (by decide)
      have hm3 : mN k ≤ 3 ∧ mN k ≤ k := by unfold mN; split <;> omega
      have hnv := nvN_3 (tp := tp) (a := sk tp tl p) (mN k) hm3.1 (fun i hi => hall i (by omega))
      have hnv2 : nvN tp (sk tp tl p) (mN k) < 1000 := Nat.lt_of_lt_of_le hnv (Nat.pow_le_pow_right (n := 10) (by decide) hm3.1)
      refine z_aload_n 0 dX8_readNumber_34 rfl rfl ?_
      refine z_geti fl_RX8_110 (by decide) rfl rfl dX8_readNumber_35 ?_
      refine z_aload_n 0 dX8_readNumber_38 rfl rfl ?_
      refine z_geti fl_RX8_99 (by decide) rfl rfl dX8_readNumber_39 ?_
      rw [e23, e21]
      refine z_icmp_ge 118 (by omega) (by omega) dX8_readNumber_42 (by decide) (fun h_42 => ?_) (fun h_42 => ?_)
      · have hend : en tp tl p = sk tp tl p + k := by rw [← hrn]; exact rn_f (fun z => by omega)
        refine z_aload_n 0 dX8_readNumber_118 rfl rfl ?_
        refine z_geti fl_RX8_110 (by decide) rfl rfl dX8_readNumber_119 ?_
        refine z_iload_n 3 dX8_readNumber_122 rfl rfl ?_
        rw [e23]
        refine z_isub dX8_readNumber_123 ?_
        refine z_iconst dX8_readNumber_124 ?_
        refine z_icmp_le 135 (by omega) (by omega) dX8_readNumber_125 (by decide) (fun h_125 => ?_) (fun h_125 => ?_)
        · have hk2 : kd tp tl p = 2 := by omega
          have hmk : mN k = k := by unfold mN; split <;> omega
          have e25' : d1 37 25 = (nv tp tl p : Nat) := by rw [e25, hmk, nv, show en tp tl p - sk tp tl p = k by omega]
          have hnv3 : nv tp tl p < 1000 := by rw [nv, show en tp tl p - sk tp tl p = k by omega, ← hmk]; exact hnv2
          refine z_aload_n 0 dX8_readNumber_135 rfl rfl ?_
          refine z_geti fl_RX8_140 (by decide) rfl rfl dX8_readNumber_136 ?_
          refine z_iload_n 1 dX8_readNumber_139 rfl rfl ?_
          refine z_iload_n 2 dX8_readNumber_140 rfl rfl ?_
          rw [e25']
          refine z_cs (t8_in l hg d1 (a := (nv tp tl p : Int)) (b := lo) (c := hi) (by omega) hlo hhi) mk_X8_in ms_X8_in ml_RX8_106 (by omega) rfl rfl (Nat.le_of_ble_eq_true rfl) dX8_readNumber_141 (zpure ?_)
          refine z_if_ne_b 156 dX8_readNumber_144 (by decide) (fun h_144 => ?_) (fun h_144 => ?_)
          · refine z_iconst dX8_readNumber_156 ?_
            refine z_goto 161 dX8_readNumber_157 (by decide) ?_
            exact z_bret (b := true) rfl dX8_readNumber_161 (PM.t (by rw [spNum, if_neg (by omega), if_pos (of_decide_eq_true h_144)]) (F.MPF (by decide)) (F.2 24 (by decide)) ⟨F, CU.at he.2 (by rw [hend]; exact e23), e25'⟩)
          · refine z_aload_n 0 dX8_readNumber_147 rfl rfl ?_
            refine z_iconst dX8_readNumber_148 ?_
            refine z_iload_n 3 dX8_readNumber_149 rfl rfl ?_
            refine z_cv (t8_fails l hg d1 (k := 2) (s := sk tp tl p)) mk_X8_fails mi_X8_fails ml_RX8_137 (by omega) (by decide) rfl rfl rfl rfl (Nat.le_of_ble_eq_true rfl) dX8_readNumber_150 (fun r_150 d_150 q_150 => ?_)
            obtain ⟨rfl, rfl⟩ := q_150
            show zV l x g mX8_readNumber 2 _ _ _ [_] _
            refine z_if_eq_b 160 dX8_readNumber_153 (by decide) (fun h_153 => ?_) (fun h_153 => absurd h_153 (by decide))
            refine z_iconst dX8_readNumber_160 ?_
            exact z_bret (b := false) rfl dX8_readNumber_161 (PM.f (by rw [spNum, if_neg (by omega), if_neg (of_decide_eq_false h_144)]) ((F.MPF (by decide)).up (by decide)) (zu_at _ _ _ _))
        · refine z_aload_n 0 dX8_readNumber_128 rfl rfl ?_
          refine z_iconst dX8_readNumber_129 ?_
          refine z_iload_n 3 dX8_readNumber_130 rfl rfl ?_
          refine z_cv (t8_fails l hg d1 (k := 1) (s := sk tp tl p)) mk_X8_fails mi_X8_fails ml_RX8_137 (by omega) (by decide) rfl rfl rfl rfl (Nat.le_of_ble_eq_true rfl) dX8_readNumber_131 (fun r_131 d_131 q_131 => ?_)
          obtain ⟨rfl, rfl⟩ := q_131
          show zV l x g mX8_readNumber 2 _ _ _ [_] _
          exact z_bret rfl dX8_readNumber_134 (PM.f (by rw [spNum, if_pos (by omega)]) ((F.MPF (by decide)).up (by decide)) (zu_at _ _ _ _))
      · obtain ⟨u1, u2⟩ := t3 (sk tp tl p + k) (by omega)
        refine z_aload_n 0 dX8_readNumber_45 rfl rfl ?_
        refine z_getr fl_RX8_67 (by decide) rfl rfl dX8_readNumber_46 ?_
        refine z_aload_n 0 dX8_readNumber_49 rfl rfl ?_
        refine z_geti fl_RX8_110 (by decide) rfl rfl dX8_readNumber_50 ?_
        rw [e23]
        refine z_iald (sk tp tl p + k) (by decide) rfl rfl (by omega) (by decide) dX8_readNumber_53 ?_
        rw [e57, u1]
        refine z_bipush dX8_readNumber_54 (by decide) ?_
        refine z_bipush dX8_readNumber_56 (by decide) ?_
        refine z_cs (t8_in l hg d1 (a := (tp (sk tp tl p + k) : Int)) (b := 48) (c := 57) (by omega) (by decide) (by decide)) mk_X8_in ms_X8_in ml_RX8_106 (by omega) rfl rfl (Nat.le_of_ble_eq_true rfl) dX8_readNumber_58 (zpure ?_)
        refine z_if_eq_b 118 dX8_readNumber_61 (by decide) (fun h_61 => ?_) (fun h_61 => ?_)
        · have hend : en tp tl p = sk tp tl p + k := by rw [← hrn]; exact rn_f (fun z => by have := of_decide_eq_false h_61; omega)
          refine z_aload_n 0 dX8_readNumber_118 rfl rfl ?_
          refine z_geti fl_RX8_110 (by decide) rfl rfl dX8_readNumber_119 ?_
          refine z_iload_n 3 dX8_readNumber_122 rfl rfl ?_
          rw [e23]
          refine z_isub dX8_readNumber_123 ?_
          refine z_iconst dX8_readNumber_124 ?_
          refine z_icmp_le 135 (by omega) (by omega) dX8_readNumber_125 (by decide) (fun h_125 => ?_) (fun h_125 => ?_)
          · have hk2 : kd tp tl p = 2 := by omega
            have hmk : mN k = k := by unfold mN; split <;> omega
            have e25' : d1 37 25 = (nv tp tl p : Nat) := by rw [e25, hmk, nv, show en tp tl p - sk tp tl p = k by omega]
            have hnv3 : nv tp tl p < 1000 := by rw [nv, show en tp tl p - sk tp tl p = k by omega, ← hmk]; exact hnv2
            refine z_aload_n 0 dX8_readNumber_135 rfl rfl ?_
            refine z_geti fl_RX8_140 (by decide) rfl rfl dX8_readNumber_136 ?_
            refine z_iload_n 1 dX8_readNumber_139 rfl rfl ?_
            refine z_iload_n 2 dX8_readNumber_140 rfl rfl ?_
            rw [e25']
            refine z_cs (t8_in l hg d1 (a := (nv tp tl p : Int)) (b := lo) (c := hi) (by omega) hlo hhi) mk_X8_in ms_X8_in ml_RX8_106 (by omega) rfl rfl (Nat.le_of_ble_eq_true rfl) dX8_readNumber_141 (zpure ?_)
            refine z_if_ne_b 156 dX8_readNumber_144 (by decide) (fun h_144 => ?_) (fun h_144 => ?_)
            · refine z_iconst dX8_readNumber_156 ?_
              refine z_goto 161 dX8_readNumber_157 (by decide) ?_
              exact z_bret (b := true) rfl dX8_readNumber_161 (PM.t (by rw [spNum, if_neg (by omega), if_pos (of_decide_eq_true h_144)]) (F.MPF (by decide)) (F.2 24 (by decide)) ⟨F, CU.at he.2 (by rw [hend]; exact e23), e25'⟩)
            · refine z_aload_n 0 dX8_readNumber_147 rfl rfl ?_
              refine z_iconst dX8_readNumber_148 ?_
              refine z_iload_n 3 dX8_readNumber_149 rfl rfl ?_
              refine z_cv (t8_fails l hg d1 (k := 2) (s := sk tp tl p)) mk_X8_fails mi_X8_fails ml_RX8_137 (by omega) (by decide) rfl rfl rfl rfl (Nat.le_of_ble_eq_true rfl) dX8_readNumber_150 (fun r_150 d_150 q_150 => ?_)
              obtain ⟨rfl, rfl⟩ := q_150
              show zV l x g mX8_readNumber 2 _ _ _ [_] _
              refine z_if_eq_b 160 dX8_readNumber_153 (by decide) (fun h_153 => ?_) (fun h_153 => absurd h_153 (by decide))
              refine z_iconst dX8_readNumber_160 ?_
              exact z_bret (b := false) rfl dX8_readNumber_161 (PM.f (by rw [spNum, if_neg (by omega), if_neg (of_decide_eq_false h_144)]) ((F.MPF (by decide)).up (by decide)) (zu_at _ _ _ _))
          · refine z_aload_n 0 dX8_readNumber_128 rfl rfl ?_
            refine z_iconst dX8_readNumber_129 ?_
            refine z_iload_n 3 dX8_readNumber_130 rfl rfl ?_
            refine z_cv (t8_fails l hg d1 (k := 1) (s := sk tp tl p)) mk_X8_fails mi_X8_fails ml_RX8_137 (by omega) (by decide) rfl rfl rfl rfl (Nat.le_of_ble_eq_true rfl) dX8_readNumber_131 (fun r_131 d_131 q_131 => ?_)
            obtain ⟨rfl, rfl⟩ := q_131
            show zV l x g mX8_readNumber 2 _ _ _ [_] _
            exact z_bret rfl dX8_readNumber_134 (PM.f (by rw [spNum, if_pos (by omega)]) ((F.MPF (by decide)).up (by decide)) (zu_at _ _ _ _))
        · have hl := of_decide_eq_true h_61
          have hrt : rn tp tl 48 57 (sk tp tl p + k) = rn tp tl 48 57 (sk tp tl p + (k + 1)) := rn_t ⟨by omega, by omega, by omega⟩
          refine z_aload_n 0 dX8_readNumber_64 rfl rfl ?_
          refine z_aload_n 0 dX8_readNumber_65 rfl rfl ?_
          refine z_geti fl_RX8_110 (by decide) rfl rfl dX8_readNumber_66 ?_
          refine z_iload_n 3 dX8_readNumber_69 rfl rfl ?_
          rw [e23]
          refine z_isub dX8_readNumber_70 ?_
          refine z_iconst dX8_readNumber_71 ?_
          refine z_icmp_ge 98 (by omega) (by omega) dX8_readNumber_72 (by decide) (fun h_72 => ?_) (fun h_72 => ?_)
          · refine z_aload_n 0 dX8_readNumber_98 rfl rfl ?_
            refine z_geti fl_RX8_140 (by decide) rfl rfl dX8_readNumber_99 ?_
            have hmk : mN (k + 1) = mN k := by unfold mN; rw [if_neg (by omega), if_neg (by omega)]
            rw [e25, ← hmk]
            refine z_puti fp_RX8_140 (by decide) rfl rfl dX8_readNumber_102 ?_
            refine z_aload_n 0 dX8_readNumber_105 rfl rfl ?_
            refine z_dup dX8_readNumber_106 rfl ?_
            refine z_geti fl_RX8_110 (by decide) rfl rfl dX8_readNumber_107 ?_
            rw [zu_row, if_neg (by decide), e23]
            refine z_iconst dX8_readNumber_110 ?_
            refine z_iadd dX8_readNumber_111 ?_
            refine z_puti fp_RX8_110 (by decide) rfl rfl dX8_readNumber_112 ?_
            refine z_goto 34 dX8_readNumber_115 (by decide) ?_
            exact ih (k + 1) _ hkd ((F.up (by decide)).up (by decide)) (by rw [zu_at]; omega) (by rw [zu_row, if_neg (by decide), zu_at]) (by omega) (by rw [← hrt, hrn]) (fun i hi => by by_cases e : i = k; (subst e; omega); exact hall i (by omega)) (by omega)
          · refine z_bipush dX8_readNumber_75 (by decide) ?_
            refine z_aload_n 0 dX8_readNumber_77 rfl rfl ?_
            refine z_geti fl_RX8_140 (by decide) rfl rfl dX8_readNumber_78 ?_
            rw [e25]
            refine z_imul dX8_readNumber_81 ?_
            refine z_aload_n 0 dX8_readNumber_82 rfl rfl ?_
            refine z_getr fl_RX8_67 (by decide) rfl rfl dX8_readNumber_83 ?_
            refine z_aload_n 0 dX8_readNumber_86 rfl rfl ?_
            refine z_geti fl_RX8_110 (by decide) rfl rfl dX8_readNumber_87 ?_
            rw [e23]
            refine z_iald (sk tp tl p + k) (by decide) rfl rfl (by omega) (by decide) dX8_readNumber_90 ?_
            rw [e57, u1]
            refine z_iadd dX8_readNumber_91 ?_
            refine z_bipush dX8_readNumber_92 (by decide) ?_
            refine z_isub dX8_readNumber_94 ?_
            refine z_goto 102 dX8_readNumber_95 (by decide) ?_
            have hmk : mN (k + 1) = k + 1 ∧ mN k = k := by unfold mN; constructor <;> split <;> omega
            refine z_top (nvN tp (sk tp tl p) (mN (k + 1)) : Nat) (by rw [hmk.1, hmk.2, nvN]; omega) ?_
            refine z_puti fp_RX8_140 (by decide) rfl rfl dX8_readNumber_102 ?_
            refine z_aload_n 0 dX8_readNumber_105 rfl rfl ?_
            refine z_dup dX8_readNumber_106 rfl ?_
            refine z_geti fl_RX8_110 (by decide) rfl rfl dX8_readNumber_107 ?_
            rw [zu_row, if_neg (by decide), e23]
            refine z_iconst dX8_readNumber_110 ?_
            refine z_iadd dX8_readNumber_111 ?_
            refine z_puti fp_RX8_110 (by decide) rfl rfl dX8_readNumber_112 ?_
            refine z_goto 34 dX8_readNumber_115 (by decide) ?_
            exact ih (k + 1) _ hkd ((F.up (by decide)).up (by decide)) (by rw [zu_at]; omega) (by rw [zu_row, if_neg (by decide), zu_at]) (by omega) (by rw [← hrt, hrn]) (fun i hi => by by_cases e : i = k; (subst e; omega); exact hall i (by omega)) (by omega)
  refine zC_of (L := [(0, _), (1, _), (2, _)]) mk_X8_readNumber (Nat.le_of_ble_eq_true rfl) hg rfl (fun x => ?_)
  refine z_aload_n 0 dX8_readNumber_0 rfl rfl ?_
  refine z_cv (t8_here l hg T C) mk_X8_here mi_X8_here ml_RX8_116 (by omega) (by decide) rfl rfl rfl rfl (Nat.le_of_ble_eq_true rfl) dX8_readNumber_1 (fun r_1 d_1 q_1 => ?_)
  obtain ⟨rfl, f1, f2⟩ := q_1
  show zV l x g mX8_readNumber 2 _ _ _ [_] _
  refine z_bipush dX8_readNumber_4 (by decide) ?_
  refine z_bipush dX8_readNumber_6 (by decide) ?_
  refine z_cs (t8_in l hg d_1 (a := hvI tp tl p) (b := 48) (c := 57) (by omega) (by decide) (by decide)) mk_X8_in ms_X8_in ml_RX8_106 (by omega) rfl rfl (Nat.le_of_ble_eq_true rfl) dX8_readNumber_8 (zpure ?_)
  refine z_if_ne_b 24 dX8_readNumber_11 (by decide) (fun h_11 => ?_) (fun h_11 => ?_)
  · refine z_aload_n 0 dX8_readNumber_24 rfl rfl ?_
    refine z_geti fl_RX8_110 (by decide) rfl rfl dX8_readNumber_25 ?_
    rw [f2]
    refine z_istore_n (L' := [(0, _), (1, _), (2, _), (3, _)]) dX8_readNumber_28 rfl (by decide) rfl rfl ?_
    refine z_aload_n 0 dX8_readNumber_29 rfl rfl ?_
    refine z_iconst dX8_readNumber_30 ?_
    refine z_puti fp_RX8_140 (by decide) rfl rfl dX8_readNumber_31 ?_
    exact key x (tl + 1) 0 _ ((hvI_d tp tl p).mp (of_decide_eq_true h_11)) ((f1.mono (by decide)).up (by decide)) (by rw [zu_row, if_neg (by decide)]; exact f2) (zu_at _ _ _ _) (by omega) (by rw [(en_d ((hvI_d tp tl p).mp (of_decide_eq_true h_11))).2.1]; rfl) (fun i hi => absurd hi (by omega)) (by omega)
  · refine z_aload_n 0 dX8_readNumber_14 rfl rfl ?_
    refine z_iconst dX8_readNumber_15 ?_
    refine z_aload_n 0 dX8_readNumber_16 rfl rfl ?_
    refine z_geti fl_RX8_110 (by decide) rfl rfl dX8_readNumber_17 ?_
    rw [f2]
    refine z_cv (t8_fails l hg d_1 (k := 1) (s := sk tp tl p)) mk_X8_fails mi_X8_fails ml_RX8_137 (by omega) (by decide) rfl rfl rfl rfl (Nat.le_of_ble_eq_true rfl) dX8_readNumber_20 (fun r_20 d_20 q_20 => ?_)
    obtain ⟨rfl, rfl⟩ := q_20
    show zV l x g mX8_readNumber 2 _ _ _ [_] _
    have hk2 : kd tp tl p ≠ 2 := fun z => of_decide_eq_false h_11 ((hvI_d tp tl p).mpr (Or.inl z))
    exact z_bret rfl dX8_readNumber_23 (PM.f (by rw [spNum, if_pos hk2]) ((f1.MPF (by decide)).up (by decide)) (zu_at _ _ _ _))
theorem t8_readSet (l : Launch) {g : zG} (hg : zAmOk g) {d : zD} {tp : Nat → Nat} {tl p least : Nat} (T : TM d tp tl) (C : CU d tp tl p) (hl : least < 9) : zC l g mX8_readSet 3 [zr g 37, zi (least : Int)] d (PM d (spSet tp tl p least) (fun v d' => MR [23, 26, 28, 29] d d' ∧ CU d' tp tl v.1 ∧ d' 37 28 = (v.2 : Int))) := by
  have hp := C.1
  have hs := sk_le (tp := tp) hp
  have he := en_le (tp := tp) hp
  have t2 := T.2.1
  refine zC_of (L := [(0, _), (1, _)]) mk_X8_readSet (Nat.le_of_ble_eq_true rfl) hg rfl (fun x => ?_)
  refine z_aload_n 0 dX8_readSet_0 rfl rfl ?_
  refine z_cv (t8_isWord l hg T C) mk_X8_isWord mi_X8_isWord ml_RX8_143 (by omega) (by decide) rfl rfl rfl rfl (Nat.le_of_ble_eq_true rfl) dX8_readSet_1 (fun r_1 d_1 q_1 => ?_)
  obtain ⟨rfl, f1, f2⟩ := q_1
  show zV l x g mX8_readSet 3 _ _ _ [_] _
  refine z_if_ne_b 17 dX8_readSet_4 (by decide) (fun h_4 => ?_) (fun h_4 => ?_)
  · have hk := of_decide_eq_true h_4
    have T1 : TM d_1 tp tl := (f1.MPF (by decide)).TM T
    refine z_aload_n 0 dX8_readSet_17 rfl rfl ?_
    refine z_cv (t8_readWord l hg T1 hp hk f2) mk_X8_readWord mi_X8_readWord ml_RX8_147 (by omega) (by decide) rfl rfl rfl rfl (Nat.le_of_ble_eq_true rfl) dX8_readSet_18 (fun r_18 d_18 q_18 => ?_)
    obtain ⟨rfl, c1, c2, c3, c4, c5⟩ := q_18
    have hF : MR [23, 26, 28, 29] d d_18 := (f1.mono (by decide)).tr c1
    show zV l x g mX8_readSet 3 _ _ _ [_] _
    refine z_pop2 dX8_readSet_21 rfl ?_
    refine z_aload_n 0 dX8_readSet_22 rfl rfl ?_
    refine z_geti fl_RX8_123 (by decide) rfl rfl dX8_readSet_23 ?_
    rw [c4]
    have hst : -1 ≤ stI (wsN tp (sk tp tl p) (en tp tl p - sk tp tl p)) ∧ stI (wsN tp (sk tp tl p) (en tp tl p - sk tp tl p)) < 256 := by
      cases hws : wsN tp (sk tp tl p) (en tp tl p - sk tp tl p) with
      | none => exact ⟨by decide, by decide⟩
      | some s => have := wsN_lt _ _ hws; exact ⟨by show -1 ≤ (s : Int); omega, by show (s : Int) < 256; omega⟩
    refine z_if_lt 37 (by omega) dX8_readSet_26 (by decide) (fun h_26 => ?_) (fun h_26 => ?_)
    · refine z_aload_n 0 dX8_readSet_37 rfl rfl ?_
      refine z_iconst dX8_readSet_38 ?_
      refine z_aload_n 0 dX8_readSet_39 rfl rfl ?_
      refine z_geti fl_RX8_126 (by decide) rfl rfl dX8_readSet_40 ?_
      rw [c3]
      refine z_cv (t8_fails l hg d_18 (k := 1) (s := sk tp tl p)) mk_X8_fails mi_X8_fails ml_RX8_137 (by omega) (by decide) rfl rfl rfl rfl (Nat.le_of_ble_eq_true rfl) dX8_readSet_43 (fun r_43 d_43 q_43 => ?_)
      obtain ⟨rfl, rfl⟩ := q_43
      show zV l x g mX8_readSet 3 _ _ _ [_] _
      refine z_if_eq_b 53 dX8_readSet_46 (by decide) (fun h_46 => ?_) (fun h_46 => absurd h_46 (by decide))
      refine z_iconst dX8_readSet_53 ?_
      exact z_bret (b := false) rfl dX8_readSet_54 (PM.f (by rw [spSet]; split; (cases hws : wsN tp (sk tp tl p) (en tp tl p - sk tp tl p) with | none => rfl | some s => rw [hws] at h_26; exact absurd h_26 (by show ¬ (s : Int) < 0; omega)); rfl) ((hF.MPF (by decide)).up (by decide)) (zu_at _ _ _ _))
    · refine z_aload_n 0 dX8_readSet_29 rfl rfl ?_
      refine z_geti fl_RX8_120 (by decide) rfl rfl dX8_readSet_30 ?_
      refine z_iload_n 1 dX8_readSet_33 rfl rfl ?_
      rw [c5]
      refine z_icmp_ge 49 (by omega) (by omega) dX8_readSet_34 (by decide) (fun h_34 => ?_) (fun h_34 => ?_)
      · obtain ⟨s, hws⟩ : ∃ s, wsN tp (sk tp tl p) (en tp tl p - sk tp tl p) = some s := by
          cases hws : wsN tp (sk tp tl p) (en tp tl p - sk tp tl p) with
          | none => rw [hws] at h_26; exact absurd h_26 (by decide)
          | some s => exact ⟨s, rfl⟩
        refine z_iconst dX8_readSet_49 ?_
        refine z_goto 54 dX8_readSet_50 (by decide) ?_
        exact z_bret (b := true) rfl dX8_readSet_54 (PM.t (v := (en tp tl p, s)) (by rw [spSet, if_pos ⟨hk, by omega⟩, hws]) (hF.MPF (by decide)) (hF.2 24 (by decide)) ⟨hF, CU.at he.2 c2, by rw [c4, hws]; rfl⟩)
      · refine z_aload_n 0 dX8_readSet_37 rfl rfl ?_
        refine z_iconst dX8_readSet_38 ?_
        refine z_aload_n 0 dX8_readSet_39 rfl rfl ?_
        refine z_geti fl_RX8_126 (by decide) rfl rfl dX8_readSet_40 ?_
        rw [c3]
        refine z_cv (t8_fails l hg d_18 (k := 1) (s := sk tp tl p)) mk_X8_fails mi_X8_fails ml_RX8_137 (by omega) (by decide) rfl rfl rfl rfl (Nat.le_of_ble_eq_true rfl) dX8_readSet_43 (fun r_43 d_43 q_43 => ?_)
        obtain ⟨rfl, rfl⟩ := q_43
        show zV l x g mX8_readSet 3 _ _ _ [_] _
        refine z_if_eq_b 53 dX8_readSet_46 (by decide) (fun h_46 => ?_) (fun h_46 => absurd h_46 (by decide))
        refine z_iconst dX8_readSet_53 ?_
        exact z_bret (b := false) rfl dX8_readSet_54 (PM.f (by rw [spSet, if_neg (fun z => by omega)]) ((hF.MPF (by decide)).up (by decide)) (zu_at _ _ _ _))
  · refine z_aload_n 0 dX8_readSet_7 rfl rfl ?_
    refine z_iconst dX8_readSet_8 ?_
    refine z_aload_n 0 dX8_readSet_9 rfl rfl ?_
    refine z_geti fl_RX8_110 (by decide) rfl rfl dX8_readSet_10 ?_
    rw [f2]
    refine z_cv (t8_fails l hg d_1 (k := 1) (s := sk tp tl p)) mk_X8_fails mi_X8_fails ml_RX8_137 (by omega) (by decide) rfl rfl rfl rfl (Nat.le_of_ble_eq_true rfl) dX8_readSet_13 (fun r_13 d_13 q_13 => ?_)
    obtain ⟨rfl, rfl⟩ := q_13
    show zV l x g mX8_readSet 3 _ _ _ [_] _
    exact z_bret rfl dX8_readSet_16 (PM.f (by rw [spSet, if_neg (fun z => of_decide_eq_false h_4 z.1)]) ((f1.MPF (by decide)).up (by decide)) (zu_at _ _ _ _))
theorem kd_sk (tp : Nat → Nat) (tl p : Nat) : kd tp tl (sk tp tl p) = kd tp tl p := by unfold kd; rw [sk_sk]
theorem en_sk (tp : Nat → Nat) (tl p : Nat) : en tp tl (sk tp tl p) = en tp tl p := by unfold en; rw [sk_sk]
theorem t8_readWeight (l : Launch) {g : zG} (hg : zAmOk g) {d : zD} {tp : Nat → Nat} {tl p : Nat} (T : TM d tp tl) (C : CU d tp tl p) : zC l g mX8_readWeight 3 [zr g 37] d (PM d (spWei tp tl p) (fun v d' => MR [23, 25] d d' ∧ CU d' tp tl v.1 ∧ d' 37 25 = v.2)) := by
  have hp := C.1
  have hs := sk_le (tp := tp) hp
  have he := en_le (tp := tp) hp
  have t2 := T.2.1
  have hh := hvI_in tp (fun i hi => (T.2.2 i hi).2) p
  have hsS := hvI_s tp tl p (c := 45) (by decide)
  have key : ∀ (x : zX) (d1 : zD) (b : Bool) (q : Nat), MR [23, 25] d d1 → CU d1 tp tl q → b = isS tp tl p 45 → q = (if isS tp tl p 45 = true then en tp tl p else p) → zV l x g mX8_readWeight 3 (PM d (spWei tp tl p) (fun v d' => MR [23, 25] d d' ∧ CU d' tp tl v.1 ∧ d' 37 25 = v.2)) 33 [(0, zr g 37), (1, zi (zb b))] [] d1 := by
    intro x d1 b q F C1 hb hq
    have T1 : TM d1 tp tl := (F.MPF (by decide)).TM T
    refine z_aload_n 0 dX8_readWeight_33 rfl rfl ?_
    refine z_iconst dX8_readWeight_34 ?_
    refine z_bipush dX8_readWeight_35 (by decide) ?_
    refine z_cv (t8_readNumber l hg T1 C1 (lo := 0) (hi := 9) (by decide) (by decide)) mk_X8_readNumber mi_X8_readNumber ml_RX8_151 (by omega) (by decide) rfl rfl rfl rfl (Nat.le_of_ble_eq_true rfl) dX8_readWeight_37 (z_pm (fun f_37 d_37 e_37 a_37 b_37 => ?_) (fun v_37 d_37 e_37 a_37 b_37 c_37 => ?_))
    · have hsp : spWei tp tl p = .inl f_37 := by
        rw [spWei, ← hq]
        unfold spNum at e_37
        split at e_37
        · rename_i c; cases e_37; rw [if_pos c]
        · rename_i c
          rw [if_neg c]
          split at e_37
          · cases e_37
          · rename_i c2; cases e_37; rw [if_pos (by omega)]
      refine z_if_ne 45 (by decide) dX8_readWeight_40 (by decide) (fun h_40 => absurd h_40 (by decide)) (fun h_40 => ?_)
      refine z_iconst dX8_readWeight_43 ?_
      exact z_bret (b := false) rfl dX8_readWeight_44 (PM.f hsp ((F.MPF (by decide)).tr a_37) b_37)
    · have hsp : spWei tp tl p = .inr (v_37, if isS tp tl p 45 = true then -(nv tp tl q : Int) else (nv tp tl q : Int)) := by
        rw [spWei, ← hq]
        unfold spNum at e_37
        split at e_37
        · cases e_37
        · rename_i c
          rw [if_neg c]
          split at e_37
          · rename_i c2; cases e_37; rw [if_neg (by omega)]
          · cases e_37
      obtain ⟨c1, c2, c3⟩ := c_37
      refine z_if_ne 45 (by decide) dX8_readWeight_40 (by decide) (fun h_40 => ?_) (fun h_40 => absurd h_40 (by decide))
      refine z_aload_n 0 dX8_readWeight_45 rfl rfl ?_
      refine z_iload_n 1 dX8_readWeight_46 rfl rfl ?_
      refine z_if_eq_b 58 dX8_readWeight_47 (by decide) (fun h_47 => ?_) (fun h_47 => ?_)
      · refine z_aload_n 0 dX8_readWeight_58 rfl rfl ?_
        refine z_geti fl_RX8_140 (by decide) rfl rfl dX8_readWeight_59 ?_
        rw [c3]
        refine z_puti fp_RX8_140 (by decide) rfl rfl dX8_readWeight_62 ?_
        refine z_iconst dX8_readWeight_65 ?_
        rw [if_neg (by rw [← hb, h_47]; decide)] at hsp
        exact z_bret (b := true) rfl dX8_readWeight_66 (PM.t hsp (((F.MPF (by decide)).tr a_37).up (by decide)) (by rw [zu_row, if_neg (by decide), b_37, F.2 24 (by decide)]) ⟨(F.tr c1).up (by decide), c2.of (by rw [zu_row, if_neg (by decide)]), zu_at _ _ _ _⟩)
      · refine z_aload_n 0 dX8_readWeight_50 rfl rfl ?_
        refine z_geti fl_RX8_140 (by decide) rfl rfl dX8_readWeight_51 ?_
        rw [c3]
        refine z_ineg dX8_readWeight_54 ?_
        refine z_goto 62 dX8_readWeight_55 (by decide) ?_
        refine z_puti fp_RX8_140 (by decide) rfl rfl dX8_readWeight_62 ?_
        refine z_iconst dX8_readWeight_65 ?_
        rw [if_pos (by rw [← hb]; exact h_47)] at hsp
        exact z_bret (b := true) rfl dX8_readWeight_66 (PM.t hsp (((F.MPF (by decide)).tr a_37).up (by decide)) (by rw [zu_row, if_neg (by decide), b_37, F.2 24 (by decide)]) ⟨(F.tr c1).up (by decide), c2.of (by rw [zu_row, if_neg (by decide)]), zu_at _ _ _ _⟩)
  refine zC_of (L := [(0, _)]) mk_X8_readWeight (Nat.le_of_ble_eq_true rfl) hg rfl (fun x => ?_)
  refine z_aload_n 0 dX8_readWeight_0 rfl rfl ?_
  refine z_cv (t8_here l hg T C) mk_X8_here mi_X8_here ml_RX8_116 (by omega) (by decide) rfl rfl rfl rfl (Nat.le_of_ble_eq_true rfl) dX8_readWeight_1 (fun r_1 d_1 q_1 => ?_)
  obtain ⟨rfl, f1, f2⟩ := q_1
  show zV l x g mX8_readWeight 3 _ _ _ [_] _
  refine z_bipush dX8_readWeight_4 (by decide) ?_
  refine z_icmp_ne 13 (by omega) (by omega) dX8_readWeight_6 (by decide) (fun h_6 => ?_) (fun h_6 => ?_)
  · refine z_iconst dX8_readWeight_13 ?_
    have h_s : isS tp tl p 45 = false := by rw [← Bool.not_eq_true]; exact fun z => h_6 (hsS.mpr z)
    refine z_istore_n (L' := [(0, _), (1, _)]) dX8_readWeight_14 rfl (by decide) rfl rfl ?_
    refine z_aload_n 0 dX8_readWeight_15 rfl rfl ?_
    refine z_dup dX8_readWeight_16 rfl ?_
    refine z_geti fl_RX8_110 (by decide) rfl rfl dX8_readWeight_17 ?_
    refine z_iload_n 1 dX8_readWeight_20 rfl rfl ?_
    refine z_if_eq 28 (by decide) dX8_readWeight_21 (by decide) (fun h_21 => ?_) (fun h_21 => absurd h_21 (by decide))
    refine z_iconst dX8_readWeight_28 ?_
    rw [f2]
    refine z_iadd dX8_readWeight_29 ?_
    refine z_puti fp_RX8_110 (by decide) rfl rfl dX8_readWeight_30 ?_
    exact key x _ false p ((f1.mono (by decide)).up (by decide)) (CU.sk hp (by rw [zu_at]; omega)) h_s.symm (by rw [if_neg (by rw [h_s]; decide)])
  · refine z_iconst dX8_readWeight_9 ?_
    refine z_goto 14 dX8_readWeight_10 (by decide) ?_
    have h_s : isS tp tl p 45 = true := hsS.mp h_6
    refine z_istore_n (L' := [(0, _), (1, _)]) dX8_readWeight_14 rfl (by decide) rfl rfl ?_
    refine z_aload_n 0 dX8_readWeight_15 rfl rfl ?_
    refine z_dup dX8_readWeight_16 rfl ?_
    refine z_geti fl_RX8_110 (by decide) rfl rfl dX8_readWeight_17 ?_
    refine z_iload_n 1 dX8_readWeight_20 rfl rfl ?_
    refine z_if_eq 28 (by decide) dX8_readWeight_21 (by decide) (fun h_21 => absurd h_21 (by decide)) (fun h_21 => ?_)
    refine z_iconst dX8_readWeight_24 ?_
    refine z_goto 29 dX8_readWeight_25 (by decide) ?_
    rw [f2]
    refine z_iadd dX8_readWeight_29 ?_
    refine z_puti fp_RX8_110 (by decide) rfl rfl dX8_readWeight_30 ?_
    exact key x _ true (en tp tl p) ((f1.mono (by decide)).up (by decide)) (CU.at he.2 (by rw [zu_at, (en_s h_s).1]; omega)) h_s.symm (by rw [if_pos h_s])
