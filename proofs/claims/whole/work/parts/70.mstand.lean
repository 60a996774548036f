/-! the reference: the top laid out, standing -/
def TPM (d : zD) (T : Nat → Bool) : Prop := ∀ f, f < 256 → d 64 f = zb (T f)
theorem TPM.of {d d' : zD} {T : Nat → Bool} (H : TPM d T) (e : d' 64 = d 64) : TPM d' T := fun f hf => by rw [e]; exact H f hf
def mnF (h : Hl) (f : Nat) : Prop := f < 256 ∧ oB h f = true ∧ ∀ f', f' < 256 → oB h f' = true → cntB (clB2 h f) 256 ≤ cntB (clB2 h f') 256
theorem oB_0 (h : Hl) : oB h 0 = true := by unfold oB openB; simp
theorem t8_laysTop (l : Launch) {g : zG} (hg : zAmOk g) {d : zD} {h : Hl} (w : Wf h) (H : HM d h) (K : LKM d h) (O : OM d h) : zC l g mX8_laysTop 6 [zr g 37] d (fun r d' => r = none ∧ (zF [64, 65] d d' ∧ ∃ f, mnF h f ∧ TPM d' (clB2 h f))) := by
  have fr : ∀ d1, zF [64, 65] d d1 → HM d1 h ∧ LKM d1 h ∧ OM d1 h := fun d1 F => ⟨HM.of H F (by decide), K.of (F 59 (by decide)), O.of (F 63 (by decide))⟩
  have key2 : ∀ (x : zX) (Q : Option Value → zD → Prop) (T : Nat → Bool) (L1 n3 : Int) (k : Nat), (∀ d1, zF [64, 65] d d1 → TPM d1 T → zV l x g mX8_laysTop 6 Q 75 [(0, zr g 37), (1, zi L1), (2, zi (k : Int)), (3, zi n3)] [] d1) → ∀ (r j : Nat) (d1 : zD), zF [64, 65] d d1 → TRL d1 T → (∀ y, y < j → d1 64 y = zb (T y)) → j ≤ 256 → 256 - j < r → zV l x g mX8_laysTop 6 Q 47 [(0, zr g 37), (1, zi L1), (2, zi (k : Int)), (3, zi n3), (4, zi (j : Int))] [] d1 := by
    intro x Q T L1 n3 k kk r
    induction r with
    | zero => intro j d1 a1 a2 a3 a4 hr; omega
    | succ r ih =>
      intro j d1 F R T1 hj hr
      refine z_iload 4 dX8_laysTop_47 rfl ?_
      refine z_sipush dX8_laysTop_49 (by decide) ?_
      refine z_icmp_ge 75 (by omega) (by omega) dX8_laysTop_52 (by decide) (fun h_52 => ?_) (fun h_52 => ?_)
      · refine z_sub (L' := [(0, _), (1, _), (2, _), (3, _)]) [0, 1, 2, 3] rfl ?_
        exact kk d1 F (fun y hy => T1 y (by omega))
      · refine z_aload_n 0 dX8_laysTop_55 rfl rfl ?_
        refine z_getr fl_RX8_89 (by decide) rfl rfl dX8_laysTop_56 ?_
        refine z_iload 4 dX8_laysTop_59 rfl ?_
        refine z_aload_n 0 dX8_laysTop_61 rfl rfl ?_
        refine z_getr fl_RX8_92 (by decide) rfl rfl dX8_laysTop_62 ?_
        refine z_iload 4 dX8_laysTop_65 rfl ?_
        refine z_bald j (by decide) rfl rfl (by omega) (by decide) dX8_laysTop_67 ?_
        rw [R j (by omega)]
        refine z_bast j (by decide) rfl rfl (by omega) (by decide) dX8_laysTop_68 ?_
        refine z_iinc 4 (L' := [(0, _), (1, _), (2, _), (3, _), (4, _)]) dX8_laysTop_69 (by decide) rfl rfl rfl ?_
        refine z_goto 47 dX8_laysTop_72 (by decide) ?_
        refine ih (j + 1) _ (F.up (by decide)) (R.of (zu_ne (by decide))) (fun y hy => ?_) (by omega) (by omega)
        rw [zu_row]
        by_cases e : y = j
        · rw [if_pos e, e]
        · rw [if_neg e]; exact T1 y (by omega)
  have key1 : ∀ (x : zX) (r k : Nat) (L : Int) (d1 : zD), zF [64, 65] d d1 → ((L = -1 ∧ ∀ f, f < k → oB h f = false) ∨ ∃ f c : Nat, f < k ∧ oB h f = true ∧ L = (c : Int) ∧ c = cntB (clB2 h f) 256 ∧ TPM d1 (clB2 h f) ∧ ∀ f', f' < k → oB h f' = true → c ≤ cntB (clB2 h f') 256) → k ≤ 256 → 256 - k < r → zV l x g mX8_laysTop 6 (fun r d' => r = none ∧ (zF [64, 65] d d' ∧ ∃ f, mnF h f ∧ TPM d' (clB2 h f))) 4 [(0, zr g 37), (1, zi L), (2, zi (k : Int))] [] d1 := by
    intro x r
    induction r with
    | zero => intro k L d1 a1 a2 a3 hr; omega
    | succ r ih =>
      intro k L d1 F S hk hr
      obtain ⟨H1, K1, O1⟩ := fr d1 F
      have hL : -1 ≤ L ∧ L ≤ 256 := by
        rcases S with ⟨e, -⟩ | ⟨f, c, -, -, e, e2, -⟩
        · omega
        · have := cntB_le (clB2 h f) 256; omega
      refine z_iload_n 2 dX8_laysTop_4 rfl rfl ?_
      refine z_sipush dX8_laysTop_5 (by decide) ?_
      refine z_icmp_ge 81 (by omega) (by omega) dX8_laysTop_8 (by decide) (fun h_8 => ?_) (fun h_8 => ?_)
      · have hfin : ∃ f, mnF h f ∧ TPM d1 (clB2 h f) := by
          rcases S with ⟨e, hs⟩ | ⟨f, c, c1, c2, c3, c4, c5, hs⟩
          · have := hs 0 (by omega); rw [oB_0] at this; cases this
          · exact ⟨f, ⟨by omega, c2, fun f' hf' of' => by have := hs f' (by omega) of'; omega⟩, c5⟩
        exact z_vret rfl dX8_laysTop_81 (⟨rfl, F, hfin⟩)
      · refine z_aload_n 0 dX8_laysTop_11 rfl rfl ?_
        refine z_getr fl_RX8_85 (by decide) rfl rfl dX8_laysTop_12 ?_
        refine z_iload_n 2 dX8_laysTop_15 rfl rfl ?_
        refine z_bald k (by decide) rfl rfl (by omega) (by decide) dX8_laysTop_16 ?_
        rw [O1 k (by omega)]
        refine z_if_ne_b 23 dX8_laysTop_17 (by decide) (fun h_17 => ?_) (fun h_17 => ?_)
        · refine z_aload_n 0 dX8_laysTop_23 rfl rfl ?_
          refine z_iload_n 2 dX8_laysTop_24 rfl rfl ?_
          refine z_cv (t8_growsFrom l hg w H1 K1 O1 (f := k) (by omega) h_17) mk_X8_growsFrom mi_X8_growsFrom ml_RX8_317 (by omega) (by decide) rfl rfl rfl rfl (Nat.le_of_ble_eq_true rfl) dX8_laysTop_25 (fun r_25 d_25 q_25 => ?_)
          obtain ⟨rfl, s1, s2⟩ := q_25
          have hcl := cntB_le (clB2 h k) 256
          have F1 : zF [64, 65] d d_25 := F.tr (zF.mono s1 (by decide))
          show zV l x g mX8_laysTop 6 _ _ _ [_] _
          refine z_istore_n (L' := [(0, _), (1, _), (2, _), (3, _)]) dX8_laysTop_28 rfl (by decide) rfl rfl ?_
          refine z_iload_n 1 dX8_laysTop_29 rfl rfl ?_
          refine z_iconst dX8_laysTop_30 ?_
          refine z_icmp_eq 42 (by omega) (by omega) dX8_laysTop_31 (by decide) (fun h_31 => ?_) (fun h_31 => ?_)
          · have hmin : ∀ f', f' < k → oB h f' = true → cntB (clB2 h k) 256 ≤ cntB (clB2 h f') 256 := fun f' hf' of' => by
              rcases S with ⟨-, hs⟩ | ⟨f, c, -, -, e, -⟩
              · rw [hs f' hf'] at of'; cases of'
              · omega
            refine z_iload_n 3 dX8_laysTop_42 rfl rfl ?_
            refine z_istore_n (L' := [(0, _), (1, _), (2, _), (3, _)]) dX8_laysTop_43 rfl (by decide) rfl rfl ?_
            refine z_iconst dX8_laysTop_44 ?_
            refine z_istore (L' := [(0, _), (1, _), (2, _), (3, _), (4, _)]) dX8_laysTop_45 (by decide) rfl rfl ?_
            refine key2 x _ (clB2 h k) _ _ k (fun d2 F2 T2 => ?_) 257 0 d_25 F1 s2 (fun y hy => absurd hy (by omega)) (by omega) (by omega)
            refine z_iinc 2 (L' := [(0, _), (1, _), (2, _), (3, _)]) dX8_laysTop_75 (by decide) rfl rfl rfl ?_
            refine z_goto 4 dX8_laysTop_78 (by decide) ?_
            refine z_sub (L' := [(0, _), (1, _), (2, _)]) [0, 1, 2] rfl ?_
            refine ih (k + 1) _ d2 F2 (Or.inr ⟨k, cntB (clB2 h k) 256, by omega, h_17, rfl, rfl, T2, fun f' hf' of' => ?_⟩) (by omega) (by omega)
            by_cases e : f' = k
            · rw [e]; exact Nat.le_refl _
            · exact hmin f' (by omega) of'
          · refine z_iload_n 3 dX8_laysTop_34 rfl rfl ?_
            refine z_iload_n 1 dX8_laysTop_35 rfl rfl ?_
            refine z_icmp_lt 42 (by omega) (by omega) dX8_laysTop_36 (by decide) (fun h_36 => ?_) (fun h_36 => ?_)
            · have hmin : ∀ f', f' < k → oB h f' = true → cntB (clB2 h k) 256 ≤ cntB (clB2 h f') 256 := fun f' hf' of' => by
                rcases S with ⟨e, -⟩ | ⟨f, c, -, -, e, -, -, hs⟩
                · omega
                · have := hs f' hf' of'; omega
              refine z_iload_n 3 dX8_laysTop_42 rfl rfl ?_
              refine z_istore_n (L' := [(0, _), (1, _), (2, _), (3, _)]) dX8_laysTop_43 rfl (by decide) rfl rfl ?_
              refine z_iconst dX8_laysTop_44 ?_
              refine z_istore (L' := [(0, _), (1, _), (2, _), (3, _), (4, _)]) dX8_laysTop_45 (by decide) rfl rfl ?_
              refine key2 x _ (clB2 h k) _ _ k (fun d2 F2 T2 => ?_) 257 0 d_25 F1 s2 (fun y hy => absurd hy (by omega)) (by omega) (by omega)
              refine z_iinc 2 (L' := [(0, _), (1, _), (2, _), (3, _)]) dX8_laysTop_75 (by decide) rfl rfl rfl ?_
              refine z_goto 4 dX8_laysTop_78 (by decide) ?_
              refine z_sub (L' := [(0, _), (1, _), (2, _)]) [0, 1, 2] rfl ?_
              refine ih (k + 1) _ d2 F2 (Or.inr ⟨k, cntB (clB2 h k) 256, by omega, h_17, rfl, rfl, T2, fun f' hf' of' => ?_⟩) (by omega) (by omega)
              by_cases e : f' = k
              · rw [e]; exact Nat.le_refl _
              · exact hmin f' (by omega) of'
            · refine z_goto 75 dX8_laysTop_39 (by decide) ?_
              refine z_iinc 2 (L' := [(0, _), (1, _), (2, _), (3, _)]) dX8_laysTop_75 (by decide) rfl rfl rfl ?_
              refine z_goto 4 dX8_laysTop_78 (by decide) ?_
              refine z_sub (L' := [(0, _), (1, _), (2, _)]) [0, 1, 2] rfl ?_
              refine ih (k + 1) L d_25 F1 ?_ (by omega) (by omega)
              rcases S with ⟨e, -⟩ | ⟨f, c, c1, c2, c3, c4, c5, hs⟩
              · omega
              · refine Or.inr ⟨f, c, by omega, c2, c3, c4, c5.of (s1 64 (by decide)), fun f' hf' of' => ?_⟩
                by_cases e : f' = k
                · rw [e]; omega
                · exact hs f' (by omega) of'
        · refine z_goto 75 dX8_laysTop_20 (by decide) ?_
          refine z_iinc 2 (L' := [(0, _), (1, _), (2, _)]) dX8_laysTop_75 (by decide) rfl rfl rfl ?_
          refine z_goto 4 dX8_laysTop_78 (by decide) ?_
          refine ih (k + 1) L d1 F ?_ (by omega) (by omega)
          rcases S with ⟨e, hs⟩ | ⟨f, c, c1, c2, c3, c4, c5, hs⟩
          · refine Or.inl ⟨e, fun f hf => ?_⟩
            by_cases e : f = k
            · rw [e]; exact h_17
            · exact hs f (by omega)
          · refine Or.inr ⟨f, c, by omega, c2, c3, c4, c5, fun f' hf' of' => ?_⟩
            by_cases e : f' = k
            · rw [e, h_17] at of'; cases of'
            · exact hs f' (by omega) of'
  refine zC_of (L := [(0, _)]) mk_X8_laysTop (Nat.le_of_ble_eq_true rfl) hg rfl (fun x => ?_)
  refine z_iconst dX8_laysTop_0 ?_
  refine z_istore_n (L' := [(0, _), (1, _)]) dX8_laysTop_1 rfl (by decide) rfl rfl ?_
  refine z_iconst dX8_laysTop_2 ?_
  refine z_istore_n (L' := [(0, _), (1, _), (2, _)]) dX8_laysTop_3 rfl (by decide) rfl rfl ?_
  exact key1 x 257 0 (-1) d zF.rf (Or.inl ⟨rfl, fun f hf => absurd hf (by omega)⟩) (by omega) (by omega)
theorem oB_idx {h : Hl} {x : Nat} (hx : x < 256) (ho : oB h x = true) : ∃ j, j < (openL h).length ∧ opG h j = x := ⟨(opL h x).length, (opG_at hx ho).2, (opG_at hx ho).1⟩
theorem opG_o {h : Hl} {j : Nat} (hj : j < (openL h).length) : opG h j < 256 ∧ oB h (opG h j) = true := opL_mem.mp (List.mem_of_getElem? (opG_lt hj).2)
theorem mtx_bt {h : Hl} {a b : Nat} (ha : a < (openL h).length) (hb : b < (openL h).length) : mtx h a b = btF h (opG h a) (opG h b) := by
  unfold mtx
  rw [decide_eq_true ha, decide_eq_true hb]; rfl
theorem opG_inj {h : Hl} {i j : Nat} (hi : i < (openL h).length) (hj : j < (openL h).length) (e : opG h i = opG h j) : i = j := by
  have h1 := idx_of (opG_lt hi).2
  have h2 := idx_of (opG_lt hj).2
  rw [e] at h1
  omega
theorem dm_cl (h : Hl) (f : Nat) : dmF h (clF h f) := fun a b ha hb oa ob ca ncb => by
  cases hx : btF h a b with
  | true => rfl
  | false =>
    refine absurd ⟨ob, fun P hP hPf => Classical.byContradiction fun z => ?_⟩ ncb
    have := hP a b ha hb oa ob (ca.2 P hP hPf) z
    rw [hx] at this; cases this
theorem top_iff {h : Hl} {f : Nat} (hm : mnF h f) {i : Nat} (hi : i < (openL h).length) : clF h f (opG h i) ↔ inTop h i := by
  obtain ⟨m1, m2, m3⟩ := hm
  constructor
  · rintro hc P ⟨⟨a0, ha0, hPa0⟩, hdom⟩
    have hP' : dmF h (fun x => ∃ j, j < (openL h).length ∧ opG h j = x ∧ P j) := fun a b ha hb oa ob pa nb => by
      obtain ⟨ja, j1, j2, j3⟩ := pa
      obtain ⟨jb, k1, k2⟩ := oB_idx hb ob
      have := hdom ja jb j1 k1 j3 (fun z => nb ⟨jb, k1, k2, z⟩)
      rw [mtx_bt j1 k1, j2, k2] at this
      exact this
    have p0 : ∃ j, j < (openL h).length ∧ opG h j = opG h a0 ∧ P j := ⟨a0, ha0, rfl, hPa0⟩
    have hf' : ∃ j, j < (openL h).length ∧ opG h j = f ∧ P j := Classical.byContradiction fun z => by
      have hsub : ∀ x, x < 256 → clF h (opG h a0) x → clF h f x := fun x hx256 hx => by
        refine ⟨hx.1, fun R hR hRf => Classical.byContradiction fun nx => ?_⟩
        have b1 := hR f x m1 hx256 m2 hx.1 hRf nx
        have b2 := hP' x f hx256 m1 hx.1 m2 (hx.2 _ hP' p0) z
        rw [btF_asym b1] at b2; cases b2
      have hlt : cntB (clB2 h (opG h a0)) 256 < cntB (clB2 h f) 256 :=
        cntB_lt (j := f) (fun j hj hz => pB_t (hsub j hj (pB_iff.mp hz))) m1 (pB_f (fun hz => z (hz.2 _ hP' p0))) (pB_t ⟨m2, fun P _ hp => hp⟩)
      have := m3 _ (opG_o ha0).1 (opG_o ha0).2
      omega
    obtain ⟨j, j1, j2, j3⟩ := hc.2 _ hP' hf'
    rw [← opG_inj j1 hi j2]; exact j3
  · intro ht
    refine ht (fun j => clF h f (opG h j)) ⟨?_, fun a b ha hb ca ncb => ?_⟩
    · obtain ⟨af, a1, a2⟩ := oB_idx m1 m2
      exact ⟨af, a1, by show clF h f (opG h af); rw [a2]; exact ⟨m2, fun P _ hp => hp⟩⟩
    · rw [mtx_bt ha hb]
      exact dm_cl h f _ _ (opG_o ha).1 (opG_o hb).1 (opG_o ha).2 (opG_o hb).2 ca ncb
theorem top_eq {h : Hl} {f : Nat} (hm : mnF h f) {i : Nat} (hi : i < (openL h).length) : clB2 h f (opG h i) = topB h i := by
  show pB (clF h f (opG h i)) = pB (inTop h i)
  rw [propext (top_iff hm hi)]
theorem covN_iff {h : Hl} {i : Nat} : ∀ k, covN h i k = true ↔ ∃ j, j < k ∧ covB h i j = true
  | 0 => ⟨fun z => (by cases z), fun z => (by obtain ⟨j, hj, -⟩ := z; omega)⟩
  | k + 1 => by
    rw [covN, Bool.or_eq_true, covN_iff k]
    constructor
    · rintro (⟨j, h1, h2⟩ | h1)
      · exact ⟨j, by omega, h2⟩
      · exact ⟨k, by omega, h1⟩
    · rintro ⟨j, h1, h2⟩
      by_cases e : j = k
      · subst e; exact Or.inr h2
      · exact Or.inl ⟨j, by omega, h2⟩
theorem cov_eq {h : Hl} (w : Wf h) {i : Nat} (hi : i < (openL h).length) : pB (icP h (opG h i)) = covN h i (openL h).length := by
  have hol2 : (openL h).length ≤ 65 := opL_len w 256
  refine (pB_eq ?_).symm
  rw [covN_iff]
  constructor
  · rintro ⟨j, hj, hc⟩
    rw [covB, Bool.and_eq_true, allB_iff, mtx_bt hj hi] at hc
    obtain ⟨o1, o2⟩ := opG_o hj
    refine ⟨opG h j, o1, o2, fun e => ?_, hc.1, fun x hx ox hb => ?_⟩
    · have := hc.1; rw [e, btF_irr] at this; cases this
    · obtain ⟨jx, x1, x2⟩ := oB_idx hx ox
      have := hc.2 jx (by omega) (by rw [mtx_bt hi x1, x2]; exact hb)
      rw [mtx_bt hj x1, x2] at this
      exact this
  · rintro ⟨a, a1, a2, -, a4, a5⟩
    obtain ⟨ja, j1, j2⟩ := oB_idx a1 a2
    refine ⟨ja, j1, ?_⟩
    rw [covB, Bool.and_eq_true, allB_iff, mtx_bt j1 hi, j2]
    refine ⟨a4, fun j hj hm => ?_⟩
    have hjl := (mtx_in hm).2
    rw [mtx_bt hi hjl] at hm
    rw [mtx_bt j1 hjl, j2]
    exact a5 _ (opG_o hjl).1 (opG_o hjl).2 hm
theorem t8_standing (l : Launch) {g : zG} (hg : zAmOk g) {d : zD} {h : Hl} {ord : Nat → Nat} {tl : Nat} {tp : Nat → Nat} {fl : Int} (I : IM d h ord tl tp fl) {a wh : Int} (ha : zin a) (hw : zin wh) : zC l g mX8_standing 7 [zr g 37, zi a, zi wh] d (anM d h ord tl tp fl (staS h a wh)) := by
  obtain ⟨w, H, Oo, T, hfl, ho⟩ := id (I.ra 0)
  refine zC_of (L := [(0, _), (1, _), (2, _)]) mk_X8_standing (Nat.le_of_ble_eq_true rfl) hg rfl (fun x => ?_)
  refine z_aload_n 0 dX8_standing_0 rfl rfl ?_
  refine z_iconst dX8_standing_1 ?_
  refine z_puti fp_RX8_95 (by decide) rfl rfl dX8_standing_2 ?_
  refine z_aload_n 0 dX8_standing_5 rfl rfl ?_
  refine z_cv (t8_laysOpen l hg w H) mk_X8_laysOpen mi_X8_laysOpen ml_RX8_323 (by omega) (by decide) rfl rfl rfl rfl (Nat.le_of_ble_eq_true rfl) dX8_standing_6 (fun r_6 d_6 q_6 => ?_)
  obtain ⟨rfl, s1, s2, s3⟩ := q_6
  have M1 : MF d d_6 := (MF.ra 0).tr (MF.of s1 (by decide))
  have I1 : IM d_6 h ord tl tp fl := (I.ra 0).of s1 (by decide) (by rw [s1 37 (by decide)]) (by rw [s1 37 (by decide)])
  show zV l x g mX8_standing 7 _ _ _ [_] _
  refine z_pop dX8_standing_9 rfl ?_
  refine z_iload_n 1 dX8_standing_10 rfl rfl ?_
  refine z_iconst dX8_standing_11 ?_
  refine z_sipush dX8_standing_12 (by decide) ?_
  refine z_cs (t8_in l hg _ ha (by decide) (by decide)) mk_X8_in ms_X8_in ml_RX8_106 (by omega) rfl rfl (Nat.le_of_ble_eq_true rfl) dX8_standing_15 (zpure ?_)
  refine z_if_eq_b 39 dX8_standing_18 (by decide) (fun h_18 => ?_) (fun h_18 => ?_)
  · refine z_iconst dX8_standing_39 ?_
    have hno : ¬ ((∃ f ∈ openL h, (f : Int) = a) ∧ 0 ≤ wh ∧ wh ≤ 2) := fun z => by
      obtain ⟨⟨f, hf, e⟩, -⟩ := z
      have := (opL_mem.mp hf).1
      have := of_decide_eq_false h_18
      omega
    exact z_iret rfl dX8_standing_40 (anM.rf M1 I1 (by rw [staS, if_neg hno]))
  · have h18 := of_decide_eq_true h_18
    refine z_aload_n 0 dX8_standing_21 rfl rfl ?_
    refine z_getr fl_RX8_85 (by decide) rfl rfl dX8_standing_22 ?_
    refine z_iload_n 1 dX8_standing_25 rfl rfl ?_
    refine z_bald a.toNat (by decide) rfl (by omega) (by omega) (by decide) dX8_standing_26 ?_
    rw [s3 a.toNat (by omega)]
    refine z_if_eq_b 39 dX8_standing_27 (by decide) (fun h_27 => ?_) (fun h_27 => ?_)
    · refine z_iconst dX8_standing_39 ?_
      have hno : ¬ ((∃ f ∈ openL h, (f : Int) = a) ∧ 0 ≤ wh ∧ wh ≤ 2) := fun z => by
        obtain ⟨⟨f, hf, e⟩, -⟩ := z
        have := (opL_mem.mp hf).2
        rw [show a.toNat = f by omega] at h_27
        rw [show openB h (2 ^ hN h) f = false from h_27] at this
        cases this
      exact z_iret rfl dX8_standing_40 (anM.rf M1 I1 (by rw [staS, if_neg hno]))
    · refine z_iload_n 2 dX8_standing_30 rfl rfl ?_
      refine z_iconst dX8_standing_31 ?_
      refine z_iconst dX8_standing_32 ?_
      refine z_cs (t8_in l hg _ hw (by decide) (by decide)) mk_X8_in ms_X8_in ml_RX8_106 (by omega) rfl rfl (Nat.le_of_ble_eq_true rfl) dX8_standing_33 (zpure ?_)
      refine z_if_ne_b 41 dX8_standing_36 (by decide) (fun h_36 => ?_) (fun h_36 => ?_)
      · have h36 := of_decide_eq_true h_36
        have hat := op_at (show a.toNat < 256 by omega) h_27
        obtain ⟨hG, hi⟩ := opG_at (show a.toNat < 256 by omega) h_27
        have hix := idx_of hat
        have hyes : (∃ f ∈ openL h, (f : Int) = a) ∧ 0 ≤ wh ∧ wh ≤ 2 := ⟨⟨a.toNat, List.mem_of_getElem? hat, by omega⟩, h36⟩
        refine z_iload_n 2 dX8_standing_41 rfl rfl ?_
        refine z_if_ne 64 (by omega) dX8_standing_42 (by decide) (fun h_42 => ?_) (fun h_42 => ?_)
        · refine z_iload_n 2 dX8_standing_64 rfl rfl ?_
          refine z_iconst dX8_standing_65 ?_
          refine z_icmp_ne 85 (by omega) (by omega) dX8_standing_66 (by decide) (fun h_66 => ?_) (fun h_66 => ?_)
          · refine z_aload_n 0 dX8_standing_85 rfl rfl ?_
            refine z_iload_n 1 dX8_standing_86 rfl rfl ?_
            refine z_top ((a.toNat : Nat) : Int) (by omega) ?_
            refine z_cv (t8_beaten l hg w I1.2.1 s2 s3 (f := a.toNat) (by omega)) mk_X8_beaten mi_X8_beaten ml_RX8_326 (by omega) (by decide) rfl rfl rfl rfl (Nat.le_of_ble_eq_true rfl) dX8_standing_87 (zpure ?_)
            exact z_iret rfl dX8_standing_90 (anM.rf M1 I1 (by rw [staS, if_pos hyes, if_neg h_42, if_neg h_66, hix, cnt_mtx w hi, hG]))
          · refine z_aload_n 0 dX8_standing_69 rfl rfl ?_
            refine z_iload_n 1 dX8_standing_70 rfl rfl ?_
            refine z_top ((a.toNat : Nat) : Int) (by omega) ?_
            refine z_cv (t8_isCovered l hg w I1.2.1 s2 s3 (f := a.toNat) (by omega)) mk_X8_isCovered mi_X8_isCovered ml_RX8_332 (by omega) (by decide) rfl rfl rfl rfl (Nat.le_of_ble_eq_true rfl) dX8_standing_71 (zpure ?_)
            refine z_if_eq_b 81 dX8_standing_74 (by decide) (fun h_74 => ?_) (fun h_74 => ?_)
            · have hce := cov_eq w hi
              rw [hG] at hce
              refine z_iconst dX8_standing_81 ?_
              refine z_goto 90 dX8_standing_82 (by decide) ?_
              exact z_iret rfl dX8_standing_90 (anM.rf M1 I1 (by rw [staS, if_pos hyes, if_neg h_42, if_pos h_66, hix, ← hce, h_74]; rfl))
            · have hce := cov_eq w hi
              rw [hG] at hce
              refine z_iconst dX8_standing_77 ?_
              refine z_goto 90 dX8_standing_78 (by decide) ?_
              exact z_iret rfl dX8_standing_90 (anM.rf M1 I1 (by rw [staS, if_pos hyes, if_neg h_42, if_pos h_66, hix, ← hce, h_74]; rfl))
        · refine z_aload_n 0 dX8_standing_45 rfl rfl ?_
          refine z_cv (t8_laysTop l hg w I1.2.1 s2 s3) mk_X8_laysTop mi_X8_laysTop ml_RX8_329 (by omega) (by decide) rfl rfl rfl rfl (Nat.le_of_ble_eq_true rfl) dX8_standing_46 (zvoid fun d_46 q_46 => ?_)
          obtain ⟨t1, f0, t2, t3⟩ := q_46
          have hte := top_eq t2 hi
          rw [hG] at hte
          refine z_aload_n 0 dX8_standing_49 rfl rfl ?_
          refine z_getr fl_RX8_89 (by decide) rfl rfl dX8_standing_50 ?_
          refine z_iload_n 1 dX8_standing_53 rfl rfl ?_
          refine z_bald a.toNat (by decide) rfl (by omega) (by omega) (by decide) dX8_standing_54 ?_
          rw [t3 a.toNat (by omega)]
          refine z_if_eq_b 62 dX8_standing_55 (by decide) (fun h_55 => ?_) (fun h_55 => ?_)
          · refine z_iconst dX8_standing_62 ?_
            exact z_iret rfl dX8_standing_63 (anM.rf (M1.tr (MF.of t1 (by decide))) (I1.of t1 (by decide) (by rw [t1 37 (by decide)]) (by rw [t1 37 (by decide)])) (by rw [staS, if_pos hyes, if_pos h_42, hix, ← hte, h_55]; rfl))
          · refine z_iconst dX8_standing_58 ?_
            refine z_goto 63 dX8_standing_59 (by decide) ?_
            exact z_iret rfl dX8_standing_63 (anM.rf (M1.tr (MF.of t1 (by decide))) (I1.of t1 (by decide) (by rw [t1 37 (by decide)]) (by rw [t1 37 (by decide)])) (by rw [staS, if_pos hyes, if_pos h_42, hix, ← hte, h_55]; rfl))
      · refine z_iconst dX8_standing_39 ?_
        have hno : ¬ ((∃ f ∈ openL h, (f : Int) = a) ∧ 0 ≤ wh ∧ wh ≤ 2) := fun z => by have := of_decide_eq_false h_36; omega
        exact z_iret rfl dX8_standing_40 (anM.rf M1 I1 (by rw [staS, if_neg hno]))
