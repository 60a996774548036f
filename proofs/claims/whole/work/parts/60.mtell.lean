/-! the reference: tell -/
def tellM (d : zD) (h : Hl) (ord : Nat → Nat) (tp : Nat → Nat) (R : Nat ⊕ (Nat × Hl)) : Option Value → zD → Prop := match R with
  | .inl f => anM d h ord 0 tp (f : Int) (-1)
  | .inr v => anM d v.2 (leastO v.2) 0 tp 0 (v.1 : Int)
theorem t8_tell (l : Launch) {g : zG} (hg : zAmOk g) {d0 : zD} {h : Hl} {ord : Nat → Nat} {tl : Nat} {tp : Nat → Nat} {fl : Int} (I : IM d0 h ord tl tp fl) : zC l g mX8_tell 7 [zr g 37] d0 (tellM d0 h ord tp (spAll tp tl)) := by
  have T := I.2.2.2.1
  have key3 : ∀ (x : zX) (v : Nat × Hl) (d : zD), spAll tp tl = .inr v → MF d0 d → HM d v.2 → Wf v.2 → d 37 21 = 0 → d 37 22 = 0 → d 37 27 = (v.1 : Int) → RW d (leastO v.2) (hN v.2) → ∀ (r k : Nat) (d1 : zD), zF [56] d d1 → (∀ i, i < k → d1 56 i = d 58 i) → k ≤ 6 → 6 - k < r → zV l x g mX8_tell 7 (tellM d0 h ord tp (spAll tp tl)) 171 [(0, zr g 37), (1, zi (zb true)), (2, zi (k : Int))] [] d1 := by
    intro x v d hR hMF H w e21 e22 e27 R r
    have w3 := w.2.2.1
    rw [hR]
    induction r with
    | zero => intro k d1 h1 h2 h3 hr; omega
    | succ r ih =>
      intro k d1 F e1 hk hr
      refine z_iload_n 2 dX8_tell_171 rfl rfl ?_
      refine z_bipush dX8_tell_172 (by decide) ?_
      refine z_icmp_ge 195 (by omega) (by omega) dX8_tell_174 (by decide) (fun h_174 => ?_) (fun h_174 => ?_)
      · refine z_aload_n 0 dX8_tell_195 rfl rfl ?_
        refine z_geti fl_RX8_208 (by decide) rfl rfl dX8_tell_196 ?_
        rw [F 37 (by decide), e27]
        exact z_iret rfl dX8_tell_199 (⟨rfl, hMF.tr (MF.of F (by decide)), w, HM.of H F (by decide), fun i hi => by rw [e1 i (by omega)]; exact R i hi, ⟨by rw [F 37 (by decide)]; exact e21, by omega, fun i hi => absurd hi (Nat.not_lt_zero i)⟩, by rw [F 37 (by decide)]; exact e22, least_Ord w⟩)
      · refine z_aload_n 0 dX8_tell_177 rfl rfl ?_
        refine z_getr fl_RX8_64 (by decide) rfl rfl dX8_tell_178 ?_
        refine z_iload_n 2 dX8_tell_181 rfl rfl ?_
        refine z_aload_n 0 dX8_tell_182 rfl rfl ?_
        refine z_getr fl_RX8_70 (by decide) rfl rfl dX8_tell_183 ?_
        refine z_iload_n 2 dX8_tell_186 rfl rfl ?_
        refine z_iald _ (by decide) rfl rfl (by omega) (by decide) dX8_tell_187 ?_
        rw [F 58 (by decide)]
        refine z_iast _ (by decide) rfl rfl (by omega) (by decide) dX8_tell_188 ?_
        refine z_iinc 2 (L' := [(0, _), (1, _), (2, _)]) dX8_tell_189 (by decide) rfl rfl rfl ?_
        refine z_goto 171 dX8_tell_192 (by decide) ?_
        refine ih (k + 1) _ (F.up (by decide)) (fun i hi => ?_) (by omega) (by omega)
        rw [zu_row]
        split
        · rename_i e; rw [e]
        · exact e1 i (by omega)
  have key2 : ∀ (x : zX) (v : Nat × Hl) (d : zD), spAll tp tl = .inr v → MF d0 d → HMg 38 40 49 50 d v.2 → Wf v.2 → d 37 21 = 0 → d 37 22 = 0 → d 37 27 = (v.1 : Int) → ∀ (r k : Nat) (d1 : zD), zF [48] d d1 → (∀ i, i < k → d1 48 i = d 49 i) → k ≤ 72 → 72 - k < r → zV l x g mX8_tell 7 (tellM d0 h ord tp (spAll tp tl)) 141 [(0, zr g 37), (1, zi (zb true)), (2, zi (k : Int))] [] d1 := by
    intro x v d hR hMF H w e21 e22 e27 r
    have w4 := w.2.2.2.1
    induction r with
    | zero => intro k d1 h1 h2 h3 hr; omega
    | succ r ih =>
      intro k d1 F e1 hk hr
      refine z_iload_n 2 dX8_tell_141 rfl rfl ?_
      refine z_bipush dX8_tell_142 (by decide) ?_
      refine z_icmp_ge 165 (by omega) (by omega) dX8_tell_144 (by decide) (fun h_144 => ?_) (fun h_144 => ?_)
      · refine z_aload_n 0 dX8_tell_165 rfl rfl ?_
        have H1 : HM d1 v.2 := ⟨by rw [F 38 (by decide)]; exact H.1, fun i hi => by rw [F 40 (by decide), F 41 (by decide), F 42 (by decide), F 43 (by decide)]; exact H.2.1 i hi, fun i hi => by rw [e1 i (by omega)]; exact H.2.2.1 i hi, fun i hi => by rw [F 50 (by decide), F 51 (by decide), F 52 (by decide)]; exact H.2.2.2 i hi⟩
        refine z_cv (t8_laysLeast l hg w H1) mk_X8_laysLeast mi_X8_laysLeast ml_RX8_220 (by omega) (by decide) rfl rfl rfl rfl (Nat.le_of_ble_eq_true rfl) dX8_tell_166 (zvoid fun d_166 q_166 => ?_)
        obtain ⟨s1, s2⟩ := q_166
        refine z_iconst dX8_tell_169 ?_
        refine z_istore_n (L' := [(0, _), (1, _), (2, _)]) dX8_tell_170 rfl (by decide) rfl rfl ?_
        exact key3 x v d_166 hR ((hMF.tr (MF.of F (by decide))).tr (MF.of s1 (by decide))) (HM.of H1 s1 (by decide)) w (by rw [s1 37 (by decide), F 37 (by decide)]; exact e21) (by rw [s1 37 (by decide), F 37 (by decide)]; exact e22) (by rw [s1 37 (by decide), F 37 (by decide)]; exact e27) s2 7 0 d_166 zF.rf (fun i hi => absurd hi (by omega)) (by omega) (by omega)
      · refine z_aload_n 0 dX8_tell_147 rfl rfl ?_
        refine z_getr fl_RX8_40 (by decide) rfl rfl dX8_tell_148 ?_
        refine z_iload_n 2 dX8_tell_151 rfl rfl ?_
        refine z_aload_n 0 dX8_tell_152 rfl rfl ?_
        refine z_getr fl_RX8_43 (by decide) rfl rfl dX8_tell_153 ?_
        refine z_iload_n 2 dX8_tell_156 rfl rfl ?_
        refine z_iald _ (by decide) rfl rfl (by omega) (by decide) dX8_tell_157 ?_
        rw [F 49 (by decide)]
        refine z_iast _ (by decide) rfl rfl (by omega) (by decide) dX8_tell_158 ?_
        refine z_iinc 2 (L' := [(0, _), (1, _), (2, _)]) dX8_tell_159 (by decide) rfl rfl rfl ?_
        refine z_goto 141 dX8_tell_162 (by decide) ?_
        refine ih (k + 1) _ (F.up (by decide)) (fun i hi => ?_) (by omega) (by omega)
        rw [zu_row]
        split
        · rename_i e; rw [e]
        · exact e1 i (by omega)
  have key1 : ∀ (x : zX) (v : Nat × Hl) (d : zD), spAll tp tl = .inr v → MF d0 d → HNw d v.2 → Wf v.2 → d 37 21 = 0 → d 37 22 = 0 → d 37 27 = (v.1 : Int) → ∀ (r k : Nat) (d1 : zD), zF [38, 40, 41, 42, 43, 50, 51, 52] d d1 → ((∀ i, i < k → d1 38 i = d 39 i) ∧ (∀ i, i < k → d1 40 i = d 44 i) ∧ (∀ i, i < k → d1 41 i = d 45 i) ∧ (∀ i, i < k → d1 42 i = d 46 i) ∧ (∀ i, i < k → d1 43 i = d 47 i) ∧ (∀ i, i < k → d1 50 i = d 53 i) ∧ (∀ i, i < k → d1 51 i = d 54 i) ∧ (∀ i, i < k → d1 52 i = d 55 i)) → k ≤ 6 → 6 - k < r → zV l x g mX8_tell 7 (tellM d0 h ord tp (spAll tp tl)) 31 [(0, zr g 37), (1, zi (zb true)), (2, zi (k : Int))] [] d1 := by
    intro x v d hR hMF H w e21 e22 e27 r
    have w3 := w.2.2.1
    have w5 := w.2.2.2.2.1
    induction r with
    | zero => intro k d1 h1 h2 h3 hr; omega
    | succ r ih =>
      intro k d1 F hc hk hr
      obtain ⟨c0, c1, c2, c3, c4, c5, c6, c7⟩ := hc
      refine z_iload_n 2 dX8_tell_31 rfl rfl ?_
      refine z_bipush dX8_tell_32 (by decide) ?_
      refine z_icmp_ge 139 (by omega) (by omega) dX8_tell_34 (by decide) (fun h_34 => ?_) (fun h_34 => ?_)
      · refine z_iconst dX8_tell_139 ?_
        refine z_istore_n (L' := [(0, _), (1, _), (2, _)]) dX8_tell_140 rfl (by decide) rfl rfl ?_
        exact key2 x v d1 hR (hMF.tr (MF.of F (by decide))) ⟨by rw [c0 0 (by omega), c0 1 (by omega), c0 2 (by omega), c0 3 (by omega), c0 4 (by omega), c0 5 (by omega)]; exact H.1, fun i hi => by show d1 40 i = _ ∧ d1 41 i = _ ∧ d1 42 i = _ ∧ d1 43 i = _; rw [c1 i (by omega), c2 i (by omega), c3 i (by omega), c4 i (by omega)]; exact H.2.1 i hi, fun i hi => by rw [F 49 (by decide)]; exact H.2.2.1 i hi, fun i hi => by show d1 50 i = _ ∧ d1 51 i = _ ∧ d1 52 i = _; rw [c5 i (by omega), c6 i (by omega), c7 i (by omega)]; exact H.2.2.2 i hi⟩ w (by rw [F 37 (by decide)]; exact e21) (by rw [F 37 (by decide)]; exact e22) (by rw [F 37 (by decide)]; exact e27) 73 0 d1 zF.rf (fun i hi => absurd hi (by omega)) (by omega) (by omega)
      · refine z_aload_n 0 dX8_tell_37 rfl rfl ?_
        refine z_getr fl_RX8_7 (by decide) rfl rfl dX8_tell_38 ?_
        refine z_iload_n 2 dX8_tell_41 rfl rfl ?_
        refine z_aload_n 0 dX8_tell_42 rfl rfl ?_
        refine z_getr fl_RX8_13 (by decide) rfl rfl dX8_tell_43 ?_
        refine z_iload_n 2 dX8_tell_46 rfl rfl ?_
        refine z_iald _ (by decide) rfl rfl (by omega) (by decide) dX8_tell_47 ?_
        rw [F 39 (by decide)]
        refine z_iast _ (by decide) rfl rfl (by omega) (by decide) dX8_tell_48 ?_
        refine z_aload_n 0 dX8_tell_49 rfl rfl ?_
        refine z_getr fl_RX8_16 (by decide) rfl rfl dX8_tell_50 ?_
        refine z_iload_n 2 dX8_tell_53 rfl rfl ?_
        refine z_aload_n 0 dX8_tell_54 rfl rfl ?_
        refine z_getr fl_RX8_28 (by decide) rfl rfl dX8_tell_55 ?_
        refine z_iload_n 2 dX8_tell_58 rfl rfl ?_
        refine z_iald _ (by decide) rfl rfl (by omega) (by decide) dX8_tell_59 ?_
        rw [zu_ne (by decide), F 44 (by decide)]
        refine z_iast _ (by decide) rfl rfl (by omega) (by decide) dX8_tell_60 ?_
        refine z_aload_n 0 dX8_tell_61 rfl rfl ?_
        refine z_getr fl_RX8_19 (by decide) rfl rfl dX8_tell_62 ?_
        refine z_iload_n 2 dX8_tell_65 rfl rfl ?_
        refine z_aload_n 0 dX8_tell_66 rfl rfl ?_
        refine z_getr fl_RX8_31 (by decide) rfl rfl dX8_tell_67 ?_
        refine z_iload_n 2 dX8_tell_70 rfl rfl ?_
        refine z_iald _ (by decide) rfl rfl (by omega) (by decide) dX8_tell_71 ?_
        rw [zu_ne (by decide), zu_ne (by decide), F 45 (by decide)]
        refine z_iast _ (by decide) rfl rfl (by omega) (by decide) dX8_tell_72 ?_
        refine z_aload_n 0 dX8_tell_73 rfl rfl ?_
        refine z_getr fl_RX8_22 (by decide) rfl rfl dX8_tell_74 ?_
        refine z_iload_n 2 dX8_tell_77 rfl rfl ?_
        refine z_aload_n 0 dX8_tell_78 rfl rfl ?_
        refine z_getr fl_RX8_34 (by decide) rfl rfl dX8_tell_79 ?_
        refine z_iload_n 2 dX8_tell_82 rfl rfl ?_
        refine z_iald _ (by decide) rfl rfl (by omega) (by decide) dX8_tell_83 ?_
        rw [zu_ne (by decide), zu_ne (by decide), zu_ne (by decide), F 46 (by decide)]
        refine z_iast _ (by decide) rfl rfl (by omega) (by decide) dX8_tell_84 ?_
        refine z_aload_n 0 dX8_tell_85 rfl rfl ?_
        refine z_getr fl_RX8_25 (by decide) rfl rfl dX8_tell_86 ?_
        refine z_iload_n 2 dX8_tell_89 rfl rfl ?_
        refine z_aload_n 0 dX8_tell_90 rfl rfl ?_
        refine z_getr fl_RX8_37 (by decide) rfl rfl dX8_tell_91 ?_
        refine z_iload_n 2 dX8_tell_94 rfl rfl ?_
        refine z_iald _ (by decide) rfl rfl (by omega) (by decide) dX8_tell_95 ?_
        rw [zu_ne (by decide), zu_ne (by decide), zu_ne (by decide), zu_ne (by decide), F 47 (by decide)]
        refine z_iast _ (by decide) rfl rfl (by omega) (by decide) dX8_tell_96 ?_
        refine z_aload_n 0 dX8_tell_97 rfl rfl ?_
        refine z_getr fl_RX8_46 (by decide) rfl rfl dX8_tell_98 ?_
        refine z_iload_n 2 dX8_tell_101 rfl rfl ?_
        refine z_aload_n 0 dX8_tell_102 rfl rfl ?_
        refine z_getr fl_RX8_55 (by decide) rfl rfl dX8_tell_103 ?_
        refine z_iload_n 2 dX8_tell_106 rfl rfl ?_
        refine z_iald _ (by decide) rfl rfl (by omega) (by decide) dX8_tell_107 ?_
        rw [zu_ne (by decide), zu_ne (by decide), zu_ne (by decide), zu_ne (by decide), zu_ne (by decide), F 53 (by decide)]
        refine z_iast _ (by decide) rfl rfl (by omega) (by decide) dX8_tell_108 ?_
        refine z_aload_n 0 dX8_tell_109 rfl rfl ?_
        refine z_getr fl_RX8_49 (by decide) rfl rfl dX8_tell_110 ?_
        refine z_iload_n 2 dX8_tell_113 rfl rfl ?_
        refine z_aload_n 0 dX8_tell_114 rfl rfl ?_
        refine z_getr fl_RX8_58 (by decide) rfl rfl dX8_tell_115 ?_
        refine z_iload_n 2 dX8_tell_118 rfl rfl ?_
        refine z_iald _ (by decide) rfl rfl (by omega) (by decide) dX8_tell_119 ?_
        rw [zu_ne (by decide), zu_ne (by decide), zu_ne (by decide), zu_ne (by decide), zu_ne (by decide), zu_ne (by decide), F 54 (by decide)]
        refine z_iast _ (by decide) rfl rfl (by omega) (by decide) dX8_tell_120 ?_
        refine z_aload_n 0 dX8_tell_121 rfl rfl ?_
        refine z_getr fl_RX8_52 (by decide) rfl rfl dX8_tell_122 ?_
        refine z_iload_n 2 dX8_tell_125 rfl rfl ?_
        refine z_aload_n 0 dX8_tell_126 rfl rfl ?_
        refine z_getr fl_RX8_61 (by decide) rfl rfl dX8_tell_127 ?_
        refine z_iload_n 2 dX8_tell_130 rfl rfl ?_
        refine z_iald _ (by decide) rfl rfl (by omega) (by decide) dX8_tell_131 ?_
        rw [zu_ne (by decide), zu_ne (by decide), zu_ne (by decide), zu_ne (by decide), zu_ne (by decide), zu_ne (by decide), zu_ne (by decide), F 55 (by decide)]
        refine z_iast _ (by decide) rfl rfl (by omega) (by decide) dX8_tell_132 ?_
        refine z_iinc 2 (L' := [(0, _), (1, _), (2, _)]) dX8_tell_133 (by decide) rfl rfl rfl ?_
        refine z_goto 31 dX8_tell_136 (by decide) ?_
        refine ih (k + 1) _ ((((((((F.up (by decide)).up (by decide)).up (by decide)).up (by decide)).up (by decide)).up (by decide)).up (by decide)).up (by decide)) ⟨?_, ?_, ?_, ?_, ?_, ?_, ?_, ?_⟩ (by omega) (by omega)
        · intro i hi; rw [zu_ne (by decide), zu_ne (by decide), zu_ne (by decide), zu_ne (by decide), zu_ne (by decide), zu_ne (by decide), zu_ne (by decide), zu_row]; split
          · rename_i e; rw [e]
          · exact c0 i (by omega)
        · intro i hi; rw [zu_ne (by decide), zu_ne (by decide), zu_ne (by decide), zu_ne (by decide), zu_ne (by decide), zu_ne (by decide), zu_row]; split
          · rename_i e; rw [e]
          · rw [zu_ne (by decide)]; exact c1 i (by omega)
        · intro i hi; rw [zu_ne (by decide), zu_ne (by decide), zu_ne (by decide), zu_ne (by decide), zu_ne (by decide), zu_row]; split
          · rename_i e; rw [e]
          · rw [zu_ne (by decide), zu_ne (by decide)]; exact c2 i (by omega)
        · intro i hi; rw [zu_ne (by decide), zu_ne (by decide), zu_ne (by decide), zu_ne (by decide), zu_row]; split
          · rename_i e; rw [e]
          · rw [zu_ne (by decide), zu_ne (by decide), zu_ne (by decide)]; exact c3 i (by omega)
        · intro i hi; rw [zu_ne (by decide), zu_ne (by decide), zu_ne (by decide), zu_row]; split
          · rename_i e; rw [e]
          · rw [zu_ne (by decide), zu_ne (by decide), zu_ne (by decide), zu_ne (by decide)]; exact c4 i (by omega)
        · intro i hi; rw [zu_ne (by decide), zu_ne (by decide), zu_row]; split
          · rename_i e; rw [e]
          · rw [zu_ne (by decide), zu_ne (by decide), zu_ne (by decide), zu_ne (by decide), zu_ne (by decide)]; exact c5 i (by omega)
        · intro i hi; rw [zu_ne (by decide), zu_row]; split
          · rename_i e; rw [e]
          · rw [zu_ne (by decide), zu_ne (by decide), zu_ne (by decide), zu_ne (by decide), zu_ne (by decide), zu_ne (by decide)]; exact c6 i (by omega)
        · intro i hi; rw [zu_row]; split
          · rename_i e; rw [e]
          · rw [zu_ne (by decide), zu_ne (by decide), zu_ne (by decide), zu_ne (by decide), zu_ne (by decide), zu_ne (by decide), zu_ne (by decide)]; exact c7 i (by omega)
  have kf : ∀ (x : zX) (d1 : zD) (f : Nat), spAll tp tl = .inl f → MPT (zu d0 37 0 0) d1 → d1 37 24 = (f : Int) → zV l x g mX8_tell 7 (tellM d0 h ord tp (spAll tp tl)) 9 [(0, zr g 37)] [zi (zb false)] d1 := by
    intro x d1 f hR F e4
    rw [hR]
    refine z_istore_n (L' := [(0, _), (1, _)]) dX8_tell_9 rfl (by decide) rfl rfl ?_
    refine z_aload_n 0 dX8_tell_10 rfl rfl ?_
    refine z_iconst dX8_tell_11 ?_
    refine z_puti fp_RX8_99 (by decide) rfl rfl dX8_tell_12 ?_
    refine z_aload_n 0 dX8_tell_15 rfl rfl ?_
    refine z_aload_n 0 dX8_tell_16 rfl rfl ?_
    refine z_geti fl_RX8_113 (by decide) rfl rfl dX8_tell_17 ?_
    rw [zu_row, if_neg (by decide), e4]
    refine z_puti fp_RX8_217 (by decide) rfl rfl dX8_tell_20 ?_
    refine z_iload_n 1 dX8_tell_23 rfl rfl ?_
    refine z_if_ne 29 (by decide) dX8_tell_24 (by decide) (fun h_24 => absurd h_24 (by decide)) (fun h_24 => ?_)
    refine z_iconst dX8_tell_27 ?_
    generalize hd2 : zu (zu d1 37 21 0) 37 22 (f : Int) = d2
    have a21 : d2 37 21 = 0 := by rw [← hd2]; simp [zu]
    have a22 : d2 37 22 = f := by rw [← hd2]; simp [zu]
    have aF : ∀ p, p ∉ [37, 39, 44, 45, 46, 47, 49, 53, 54, 55] → d2 p = d0 p := fun p hp => by
      have hp37 : p ≠ 37 := fun z => hp (by simp [z])
      rw [← hd2, zu_ne hp37, zu_ne hp37, F.1 p hp, zu_ne hp37]
    exact z_iret rfl dX8_tell_28 (⟨rfl, fun p hp => aF p (by simp; omega), I.1, HMg.of I.2.1 (fun p hp => aF p (by simp; omega)), fun i hi => by rw [aF 56 (by decide)]; exact I.2.2.1 i hi, ⟨a21, by omega, fun i hi => absurd hi (Nat.not_lt_zero i)⟩, a22, I.2.2.2.2.2⟩)
  have kt : ∀ (x : zX) (d1 : zD) (v : Nat × Hl), spAll tp tl = .inr v → MPT (zu d0 37 0 0) d1 → d1 37 24 = 0 → HNw d1 v.2 → Wf v.2 → d1 37 27 = (v.1 : Int) → zV l x g mX8_tell 7 (tellM d0 h ord tp (spAll tp tl)) 9 [(0, zr g 37)] [zi (zb true)] d1 := by
    intro x d1 v hR F e4 H w e27
    refine z_istore_n (L' := [(0, _), (1, _)]) dX8_tell_9 rfl (by decide) rfl rfl ?_
    refine z_aload_n 0 dX8_tell_10 rfl rfl ?_
    refine z_iconst dX8_tell_11 ?_
    refine z_puti fp_RX8_99 (by decide) rfl rfl dX8_tell_12 ?_
    refine z_aload_n 0 dX8_tell_15 rfl rfl ?_
    refine z_aload_n 0 dX8_tell_16 rfl rfl ?_
    refine z_geti fl_RX8_113 (by decide) rfl rfl dX8_tell_17 ?_
    rw [zu_row, if_neg (by decide), e4]
    refine z_puti fp_RX8_217 (by decide) rfl rfl dX8_tell_20 ?_
    refine z_iload_n 1 dX8_tell_23 rfl rfl ?_
    refine z_if_ne 29 (by decide) dX8_tell_24 (by decide) (fun h_24 => ?_) (fun h_24 => absurd h_24 (by decide))
    refine z_iconst dX8_tell_29 ?_
    refine z_istore_n (L' := [(0, _), (1, _), (2, _)]) dX8_tell_30 rfl (by decide) rfl rfl ?_
    generalize hd2 : zu (zu d1 37 21 0) 37 22 0 = d2
    have a21 : d2 37 21 = 0 := by rw [← hd2]; simp [zu]
    have a22 : d2 37 22 = 0 := by rw [← hd2]; simp [zu]
    have a27 : d2 37 27 = (v.1 : Int) := by rw [← hd2]; simp [zu, e27]
    have aF : ∀ p, p ≠ 37 → d2 p = d1 p := fun p hp => by rw [← hd2, zu_ne hp, zu_ne hp]
    have hMF : MF d0 d2 := fun p hp => by rw [aF p (by omega), F.1 p (by simp; omega), zu_ne (by omega)]
    exact key1 x v d2 hR hMF (HMg.of H (fun p hp => aF p (by omega))) w a21 a22 a27 7 0 d2 zF.rf ⟨fun i hi => absurd hi (by omega), fun i hi => absurd hi (by omega), fun i hi => absurd hi (by omega), fun i hi => absurd hi (by omega), fun i hi => absurd hi (by omega), fun i hi => absurd hi (by omega), fun i hi => absurd hi (by omega), fun i hi => absurd hi (by omega)⟩ (by omega) (by omega)
  refine zC_of (L := [(0, _)]) mk_X8_tell (Nat.le_of_ble_eq_true rfl) hg rfl (fun x => ?_)
  refine z_aload_n 0 dX8_tell_0 rfl rfl ?_
  refine z_iconst dX8_tell_1 ?_
  refine z_puti fp_RX8_95 (by decide) rfl rfl dX8_tell_2 ?_
  refine z_aload_n 0 dX8_tell_5 rfl rfl ?_
  refine z_cv (t8_readText l hg (T.of (d' := zu d0 37 0 0) (by rw [zu_row, if_neg (by decide)]) (zu_ne (by decide)))) mk_X8_readText mi_X8_readText ml_RX8_214 (by omega) (by decide) rfl rfl rfl rfl (Nat.le_of_ble_eq_true rfl) dX8_tell_6 (fun r_6 d_6 q_6 => ?_)
  obtain ⟨f1, f2⟩ := q_6
  revert f2
  cases hR : spAll tp tl with
  | inl f =>
    rintro ⟨rfl, f3⟩
    rw [← hR]
    exact kf x d_6 f hR f1 f3
  | inr v =>
    rintro ⟨rfl, f3, f4, f5, f6⟩
    rw [← hR]
    exact kt x d_6 v hR f1 f3 f4 f5 f6
