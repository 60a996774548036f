/-! how great a fault can be; tell -/
theorem spSet_f {tp : Nat → Nat} {tl p least f : Nat} (hp : p ≤ tl) (h : spSet tp tl p least = .inl f) : f ≤ 4 + 8 * tl := by
  have h2 := sk_le (tp := tp) hp
  unfold spSet at h
  split at h
  · split at h
    · cases h; omega
    · cases h
  · cases h; omega
theorem spWei_f {tp : Nat → Nat} {tl p f : Nat} (hp : p ≤ tl) (h : spWei tp tl p = .inl f) : f ≤ 4 + 8 * tl := by
  unfold spWei at h
  have h1 := en_le (tp := tp) hp
  have hq : (if isS tp tl p 45 = true then en tp tl p else p) ≤ tl := by split <;> omega
  generalize hg : (if isS tp tl p 45 = true then en tp tl p else p) = r at h hq
  have h2 := sk_le (tp := tp) hq
  split at h
  · cases h; omega
  · split at h
    · cases h; omega
    · cases h
theorem spSgn_f {tp : Nat → Nat} {tl p c f : Nat} (hp : p ≤ tl) (h : spSgn tp tl p c = .inl f) : f ≤ 4 + 8 * tl := by
  unfold spSgn at h
  have h1 := en_le (tp := tp) hp
  split at h
  · exact spSet_f h1.2 h
  · cases h
theorem spOf_f {tp : Nat → Nat} {tl : Nat} {h : Hl} {p f : Nat} (hp : p ≤ tl) (e : spOf tp tl h p = .inl f) : f ≤ 4 + 8 * tl := by
  have h2 := sk_le (tp := tp) hp
  unfold spOf at e
  split at e
  · cases e
  · split at e
    · split at e
      · cases e; omega
      · cases e
    · split at e
      · split at e
        · cases e
        · cases e; omega
      · cases e; omega
theorem spVo_f {tp : Nat → Nat} {tl : Nat} : ∀ (f p seen e : Nat) (wr : Nat → Int), p ≤ tl → spVo tp tl f p seen wr = .inl e → e ≤ 4 + 8 * tl
  | 0, p, seen, e, wr, hp, h => by cases h
  | f + 1, p, seen, e, wr, hp, h => by
    rw [spVo] at h
    have h1 := en_le (tp := tp) hp
    have h2 := sk_le (tp := tp) hp
    split at h
    · split at h
      · cases h; omega
      · split at h
        · cases h; omega
        · split at h
          · rename_i e' he; cases h; exact spWei_f h1.2 he
          · rename_i v hv
            obtain ⟨v1, v2⟩ := v
            exact spVo_f f v1 _ e _ (spWei_ok h1.2 hv).2.1 h
    · cases h
theorem spSt_f {tp : Nat → Nat} {tl : Nat} {h : Hl} {b : Bool} {p f : Nat} (hp : p ≤ tl) (e : spSt tp tl h b p = .inl f) : f ≤ 4 + 8 * tl := by
  have h1 := en_le (tp := tp) hp
  have h2 := sk_le (tp := tp) hp
  have h3 := sk_le (tp := tp) h1.2
  have h4 := en_le (tp := tp) h1.2
  unfold spSt at e
  split at e
  · unfold spBill at e
    split at e
    · cases e; omega
    · split at e
      · rename_i f' hf; cases e; exact spSet_f h1.2 hf
      · cases e
  · split at e
    · unfold spAm at e
      split at e
      · cases e; omega
      · split at e
        · rename_i f' hf; cases e; exact spOf_f h1.2 hf
        · rename_i o ho
          obtain ⟨o1, o2, o3⟩ := o
          obtain ⟨h5, h6⟩ := spOf_ok h1.2 ho
          have h7 : o1 ≤ tl := by omega
          have h8 := sk_le (tp := tp) h7
          split at e
          · cases e; dsimp only; omega
          · split at e
            · rename_i f' hf; cases e; exact spSgn_f h7 hf
            · rename_i u hu
              obtain ⟨u1, u2⟩ := u
              split at e
              · rename_i f' hf; cases e; exact spSgn_f (spSgn_ok h7 hu).2.1 hf
              · cases e
    · split at e
      · unfold spSub at e
        split at e
        · cases e; omega
        · split at e
          · cases e; omega
          · split at e
            · rename_i f' hf; cases e; exact spSet_f h1.2 hf
            · cases e
      · split at e
        · unfold spVot at e
          split at e
          · cases e; omega
          · split at e
            · rename_i f' hf; cases e; exact spVo_f _ _ _ _ _ h1.2 hf
            · cases e
        · split at e
          · unfold spJoi at e
            split at e
            · cases e; omega
            · split at e
              · cases e; omega
              · split at e
                · cases e; omega
                · split at e
                  · rename_i f' hf; cases e; exact spSet_f h4.2 hf
                  · rename_i u hu
                    obtain ⟨u1, u2⟩ := u
                    split at e
                    · rename_i f' hf; cases e; exact spWei_f (spSet_ok h4.2 hu).2.1 hf
                    · cases e
          · split at e
            · unfold spQuo at e
              split at e
              · cases e; omega
              · split at e
                · cases e; omega
                · split at e
                  · cases e; omega
                  · cases e
            · cases e; omega
theorem spTx_f {tp : Nat → Nat} {tl : Nat} : ∀ (f p n e : Nat) (h : Hl) (b : Bool), p ≤ tl → Wf h → spTx tp tl f p n h b = .inl e → e ≤ 4 + 8 * tl
  | 0, p, n, e, h, b, hp, w, hh => by cases hh; omega
  | f + 1, p, n, e, h, b, hp, w, hh => by
    rw [spTx] at hh
    split at hh
    · cases hh
    · unfold spSe at hh
      cases hst : spSt tp tl h b p with
      | inl f' =>
        rw [hst] at hh
        cases hh
        exact spSt_f hp hst
      | inr v =>
        obtain ⟨v1, v2, v3⟩ := v
        have ho := spSt_ok hp w hst
        have h1 := en_le (tp := tp) ho.2.1
        have h2 := sk_le (tp := tp) ho.2.1
        rw [hst] at hh
        dsimp only at hh
        by_cases c : isS tp tl v1 59 = true
        · rw [if_pos c] at hh
          exact spTx_f f _ _ e _ _ h1.2 ho.2.2 hh
        · rw [if_neg c] at hh
          cases hh
          omega
theorem spAll_f {tp : Nat → Nat} {tl f : Nat} (h : spAll tp tl = .inl f) : f ≤ 4 + 8 * tl := spTx_f _ _ _ _ _ _ (Nat.zero_le _) Wf_h0 h
theorem spTx_n {tp : Nat → Nat} {tl : Nat} : ∀ (f p n : Nat) (h : Hl) (b : Bool) (v : Nat × Hl), p ≤ tl → Wf h → spTx tp tl f p n h b = .inr v → v.1 ≤ n + f ∧ Wf v.2
  | 0, p, n, h, b, v, hp, w, hh => by cases hh
  | f + 1, p, n, h, b, v, hp, w, hh => by
    rw [spTx] at hh
    split at hh
    · cases hh; exact ⟨by omega, w⟩
    · unfold spSe at hh
      cases hst : spSt tp tl h b p with
      | inl f' =>
        rw [hst] at hh
        cases hh
      | inr v =>
        obtain ⟨v1, v2, v3⟩ := v
        have ho := spSt_ok hp w hst
        have h1 := en_le (tp := tp) ho.2.1
        rw [hst] at hh
        dsimp only at hh
        by_cases c : isS tp tl v1 59 = true
        · rw [if_pos c] at hh
          have := spTx_n f _ _ _ _ _ h1.2 ho.2.2 hh
          exact ⟨by omega, this.2⟩
        · rw [if_neg c] at hh
          cases hh
theorem spAll_n {tp : Nat → Nat} {tl : Nat} {v : Nat × Hl} (h : spAll tp tl = .inr v) : v.1 ≤ tl + 1 ∧ Wf v.2 := by
  have := spTx_n _ _ _ _ _ _ (Nat.zero_le _) Wf_h0 h
  exact ⟨by omega, this.2⟩
/-- what tell leaves: the answer, the hall, its order, the fault -/
def tellQ (d : zD) (h : Hl) (ord : Nat → Nat) (tp : Nat → Nat) (R : Nat ⊕ (Nat × Hl)) : Option Value → zD → Prop := match R with
  | .inl f => askQ d h ord 0 tp (f : Int) (-1)
  | .inr v => askQ d v.2 (leastO v.2) 0 tp 0 (v.1 : Int)
theorem IC.dr {d d' : zD} {h : Hl} {ord : Nat → Nat} {tl : Nat} {tp : Nat → Nat} {fl : Int} (I : IC d h ord tl tp fl) (e : ∀ p, p ≠ 0 → p < 11 ∨ 20 < p → d' p = d p) {tl' : Nat} {tp' : Nat → Nat} {fl' : Int} (t : TPE d' tl' tp') (f : d' 0 2 = fl' ∧ 0 ≤ fl' ∧ fl' < 10000) : IC d' h ord tl' tp' fl' := by
  obtain ⟨i1, i2, i3, i4, i5, i6, i7, ⟨b, i8, i9⟩, j3, j4⟩ := I
  refine ⟨i1, i2.of (fun p h1 h2 => e p (by omega) (by omega)), i3.of (e 25 (by decide) (by decide)), i4.of (e 27 (by decide) (by decide)), i5.of (e 32 (by decide) (by decide)) (e 33 (by decide) (by decide)), fun i hi => by rw [e 22 (by decide) (by decide)]; exact i6 i hi, i7, ⟨b, by rw [e 32 (by decide) (by decide)]; exact i8, fun hb => (i9 hb).of (e 32 (by decide) (by decide)) (e 35 (by decide) (by decide)) (e 36 (by decide) (by decide))⟩, t, f⟩
theorem t_tell (l : Launch) {g : zG} (hg : zAmOk g) {adK adV : Nat → Nat} (hs : zStr g adK adV) {d : zD} {h : Hl} {ord : Nat → Nat} {tl : Nat} {tp : Nat → Nat} {fl : Int} (I : IC d h ord tl tp fl) : zC l g mX7_tell 13 [zr g 0] d (tellQ d h ord tp (spAll tp tl)) := by
  obtain ⟨t1, t2, t3⟩ := I.2.2.2.2.2.2.2.2.1
  have kf : ∀ (x : zX) (d1 : zD) (f : Nat), spAll tp tl = .inl f → DF d d1 → d1 20 4 = (f : Int) → zV l x g mX7_tell 13 (tellQ d h ord tp (spAll tp tl)) 11 [(0, zr g 0)] [zi (-1)] d1 := by
    intro x d1 f hR F e4
    have hb := spAll_f hR
    rw [hR]
    refine z_istore_n (L' := [(0, _), (1, _)]) dX7_tell_11 rfl (by decide) rfl rfl ?_
    refine z_aload_n 0 dX7_tell_12 rfl rfl ?_
    refine z_iconst dX7_tell_13 ?_
    refine z_puti fp_RX7_76 (by decide) rfl rfl dX7_tell_14 ?_
    refine z_aload_n 0 dX7_tell_17 rfl rfl ?_
    refine z_aload_n 0 dX7_tell_18 rfl rfl ?_
    refine z_getr fl_RX7_28 (by decide) rfl rfl dX7_tell_19 ?_
    refine z_geti fl_RX7_88 (by decide) rfl rfl dX7_tell_22 ?_
    rw [zu_ne (by decide), e4]
    refine z_puti fp_RX7_91 (by decide) rfl rfl dX7_tell_25 ?_
    refine z_iload_n 1 dX7_tell_28 rfl rfl ?_
    refine z_iconst dX7_tell_29 ?_
    refine z_icmp_eq 48 (by decide) (by decide) dX7_tell_30 (by decide) (fun h_30 => ?_) (fun h_30 => absurd h_30 (by decide))
    refine z_iload_n 1 dX7_tell_48 rfl rfl ?_
    have aF : zF [0] d1 (zu (zu d1 0 1 0) 0 2 (f : Int)) := (zF.rf.up (by decide)).up (by decide)
    exact z_iret rfl dX7_tell_49 (⟨rfl, fun p hp => by rw [aF p (by simp; omega), F p (by omega)], I.dr (fun p h1 h2 => by rw [aF p (by simp; omega), F p (by omega)]) ⟨by rw [zu_row, if_neg (by decide), zu_at]; rfl, by omega, fun i hi => absurd hi (Nat.not_lt_zero i)⟩ ⟨zu_at _ _ _ _, by omega, by omega⟩⟩)
  have kt : ∀ (x : zX) (d1 : zD) (v : Nat × Hl), spAll tp tl = .inr v → DF d d1 → d1 20 4 = 0 → HC 11 d1 v.2 → zV l x g mX7_tell 13 (tellQ d h ord tp (spAll tp tl)) 11 [(0, zr g 0)] [zi (v.1 : Int)] d1 := by
    intro x d1 v hR F e4 H1
    obtain ⟨hb, hw⟩ := spAll_n hR
    rw [hR]
    refine z_istore_n (L' := [(0, _), (1, _)]) dX7_tell_11 rfl (by decide) rfl rfl ?_
    refine z_aload_n 0 dX7_tell_12 rfl rfl ?_
    refine z_iconst dX7_tell_13 ?_
    refine z_puti fp_RX7_76 (by decide) rfl rfl dX7_tell_14 ?_
    refine z_aload_n 0 dX7_tell_17 rfl rfl ?_
    refine z_aload_n 0 dX7_tell_18 rfl rfl ?_
    refine z_getr fl_RX7_28 (by decide) rfl rfl dX7_tell_19 ?_
    refine z_geti fl_RX7_88 (by decide) rfl rfl dX7_tell_22 ?_
    rw [zu_ne (by decide), e4]
    refine z_puti fp_RX7_91 (by decide) rfl rfl dX7_tell_25 ?_
    refine z_iload_n 1 dX7_tell_28 rfl rfl ?_
    refine z_iconst dX7_tell_29 ?_
    refine z_icmp_eq 48 (by omega) (by omega) dX7_tell_30 (by decide) (fun h_30 => absurd h_30 (by omega)) (fun h_30 => ?_)
    refine z_aload_n 0 dX7_tell_33 rfl rfl ?_
    refine z_getr fl_RX7_16 (by decide) rfl rfl dX7_tell_34 ?_
    refine z_aload_n 0 dX7_tell_37 rfl rfl ?_
    refine z_getr fl_RX7_20 (by decide) rfl rfl dX7_tell_38 ?_
    generalize hd2 : zu (zu d1 0 1 0) 0 2 0 = d2
    have aF : zF [0] d1 d2 := by rw [← hd2]; exact (zF.rf.up (by decide)).up (by decide)
    have a1 : d2 0 1 = 0 := by rw [← hd2]; simp [zu]
    have a2 : d2 0 2 = 0 := by rw [← hd2]; simp [zu]
    have H2 : HC 11 d2 v.2 := H1.of (fun p h1 h2 => aF p (by simp; omega))
    refine z_cv (t_copyFrom l hg H2 hw) mk_X2_copyFrom mi_X2_copyFrom ml_RX7_94 (by omega) (by decide) rfl rfl rfl rfl (Nat.le_of_ble_eq_true rfl) dX7_tell_41 (zvoid fun d_41 q_41 => ?_)
    obtain ⟨c1, c2⟩ := q_41
    refine z_aload_n 0 dX7_tell_44 rfl rfl ?_
    refine z_cv (t_takeTold l hg hw c2 (tl := 0) (tp := tp) (fl := 0) ⟨by rw [c1 0 (by decide)]; exact a1, by omega, fun i hi => absurd hi (Nat.not_lt_zero i)⟩ ⟨by rw [c1 0 (by decide)]; exact a2, by omega, by omega⟩) mk_X7_takeTold mi_X7_takeTold ml_RX7_73 (by omega) (by decide) rfl rfl rfl rfl (Nat.le_of_ble_eq_true rfl) dX7_tell_45 (zvoid fun d_45 q_45 => ?_)
    obtain ⟨u1, u2⟩ := q_45
    refine z_iload_n 1 dX7_tell_48 rfl rfl ?_
    exact z_iret rfl dX7_tell_49 (⟨rfl, fun p hp => by rw [u1 p hp, c1 p (by simp; omega), aF p (by simp; omega), F p (by omega)], u2⟩)
  refine zC_of (L := [(0, _)]) mk_X7_tell (Nat.le_of_ble_eq_true rfl) hg rfl (fun x => ?_)
  refine z_aload_n 0 dX7_tell_0 rfl rfl ?_
  refine z_getr fl_RX7_28 (by decide) rfl rfl dX7_tell_1 ?_
  refine z_aload_n 0 dX7_tell_4 rfl rfl ?_
  refine z_geti fl_RX7_76 (by decide) rfl rfl dX7_tell_5 ?_
  rw [t1]
  refine z_cv (t_readText l hg hs t2 t3) mk_X3_readText mi_X3_readText ml_RX7_84 (by omega) (by decide) rfl rfl rfl rfl (Nat.le_of_ble_eq_true rfl) dX7_tell_8 (fun r_8 d_8 q_8 => ?_)
  obtain ⟨f1, f2⟩ := q_8
  revert f2
  cases hR : spAll tp tl with
  | inl f =>
    rintro ⟨rfl, f3⟩
    rw [← hR]
    exact kf x d_8 f hR f1 f3
  | inr v =>
    rintro ⟨rfl, f3, f4, f5⟩
    rw [← hR]
    exact kt x d_8 v hR f1 f3 f4
