/-! the class's Reader: statements -/
def DF (d d' : zD) : Prop := ∀ p, p < 11 ∨ 20 < p → d' p = d p
theorem DF.rf {d : zD} : DF d d := fun _ _ => rfl
theorem DF.tr {a b c : zD} (h1 : DF a b) (h2 : DF b c) : DF a c := fun p hp => (h2 p hp).trans (h1 p hp)
theorem DF.up {a b : zD} (h1 : DF a b) {q i : Nat} {v : Int} (hq : 11 ≤ q ∧ q ≤ 20) : DF a (zu b q i v) := fun p hp => (zu_ne (by omega)).trans (h1 p hp)
theorem DF.of {ps : List Nat} {a b : zD} (h : zF ps a b) (hp : ∀ p ∈ ps, 11 ≤ p ∧ p ≤ 20) : DF a b := fun p hq => h p (fun z => by have := hp p z; omega)
def PQ {α : Type} (d : zD) (R : Nat ⊕ α) (ok : α → zD → Prop) : Option Value → zD → Prop := fun r d' => match R with
  | .inl f => r = some (zi (zb false)) ∧ DF d d' ∧ d' 20 4 = (f : Int)
  | .inr v => r = some (zi (zb true)) ∧ DF d d' ∧ d' 20 4 = d 20 4 ∧ ok v d'
theorem z_pq {l : Launch} {x : zX} {g : zG} {M : zM} {n : Nat} {Q : Option Value → zD → Prop} {pc : Nat} {L : List (Nat × Value)} {st : List Value} {d : zD} {α : Type} {R : Nat ⊕ α} {ok : α → zD → Prop} (kf : ∀ (f : Nat) (d' : zD), R = .inl f → DF d d' → d' 20 4 = (f : Int) → zV l x g M n Q pc L (zi (zb false) :: st) d') (kt : ∀ (v : α) (d' : zD), R = .inr v → DF d d' → d' 20 4 = d 20 4 → ok v d' → zV l x g M n Q pc L (zi (zb true) :: st) d') : ∀ (r : Option Value) (d' : zD), PQ d R ok r d' → zV l x g M n Q pc L (r.toList ++ st) d' := by
  intro r d' h
  cases R with
  | inl f => obtain ⟨rfl, h1, h2⟩ := h; exact kf f d' rfl h1 h2
  | inr v => obtain ⟨rfl, h1, h2, h3⟩ := h; exact kt v d' rfl h1 h2 h3
theorem PQ.f {α : Type} {d d' : zD} {R : Nat ⊕ α} {ok : α → zD → Prop} {f : Nat} (e : R = .inl f) (h1 : DF d d') (h2 : d' 20 4 = (f : Int)) : PQ d R ok (some (zi (zb false))) d' := by subst e; exact ⟨rfl, h1, h2⟩
theorem PQ.t {α : Type} {d d' : zD} {R : Nat ⊕ α} {ok : α → zD → Prop} {v : α} (e : R = .inr v) (h1 : DF d d') (h2 : d' 20 4 = d 20 4) (h3 : ok v d') : PQ d R ok (some (zi (zb true))) d' := by subst e; exact ⟨rfl, h1, h2, h3⟩
/-- only such fields of the reader are others -/
def RG (ps : List Nat) (d d' : zD) : Prop := zF [20] d d' ∧ ∀ i, i ∉ ps → d' 20 i = d 20 i
theorem RG.rf {ps : List Nat} {d : zD} : RG ps d d := ⟨zF.rf, fun _ _ => rfl⟩
theorem RG.tr {ps : List Nat} {a b c : zD} (h1 : RG ps a b) (h2 : RG ps b c) : RG ps a c := ⟨h1.1.tr h2.1, fun i hi => (h2.2 i hi).trans (h1.2 i hi)⟩
theorem RG.up {ps : List Nat} {a b : zD} (h : RG ps a b) {i : Nat} {v : Int} (hi : i ∈ ps) : RG ps a (zu b 20 i v) := ⟨h.1.up (by decide), fun j hj => by rw [zu_row, if_neg (fun z => hj (by rw [z]; exact hi))]; exact h.2 j hj⟩
theorem RG.mono {ps qs : List Nat} {a b : zD} (h : RG ps a b) (hq : ∀ p ∈ ps, p ∈ qs) : RG qs a b := ⟨h.1, fun i hi => h.2 i (fun z => hi (hq i z))⟩
theorem RF.RG {a b : zD} (h : RF a b) : RG [5, 6, 7, 8] a b := ⟨h.1, fun i hi => h.2 i (fun z => hi (by simp [z])) (fun z => hi (by simp [z])) (fun z => hi (by simp [z])) (fun z => hi (by simp [z]))⟩
theorem RG.DF {ps : List Nat} {a b : zD} (h : RG ps a b) : DF a b := DF.of h.1 (by decide)
theorem RG.TX {ps : List Nat} {d d' : zD} {tp : Nat → Nat} {tl : Nat} (h : RG ps d d') (hp : 2 ∉ ps) (T : TX d tp tl) : TX d' tp tl := T.of (h.2 2 hp) (h.1 1 (by decide))
/-- a change of the reader that no token sees -/
theorem TK.of {d d' : zD} {tp : Nat → Nat} {tl p : Nat} (K : TK d tp tl p) (e1 : d' 1 = d 1) (e : ∀ i, i = 2 ∨ (5 ≤ i ∧ i ≤ 8) → d' 20 i = d 20 i) : TK d' tp tl p := by
  obtain ⟨T, hp, k1, k2, k3, k4, k5⟩ := K
  exact ⟨T.of (e 2 (by omega)) e1, hp, by rw [e 5 (by omega)]; exact k1, by rw [e 6 (by omega)]; exact k2, by rw [e 7 (by omega)]; exact k3, by rw [e 8 (by omega)]; exact k4, by rw [e 8 (by omega)]; exact k5⟩
/-- the draft: a hall, whether the bill is told -/
def HD (d : zD) (h : Hl) (b : Bool) : Prop := HC 11 d h ∧ d 20 3 = zb b ∧ Wf h ∧ ∀ i, 8 * hV h ≤ i → i < 72 → d 16 i = 0
theorem HD.of {d d' : zD} {h : Hl} {b : Bool} (H : HD d h b) (e : zF [20] d d') (e3 : d' 20 3 = d 20 3) : HD d' h b := ⟨H.1.of (fun p h1 h2 => e p (by simp; omega)), by rw [e3]; exact H.2.1, H.2.2.1, fun i h1 h2 => by rw [e 16 (by decide)]; exact H.2.2.2 i h1 h2⟩
theorem lp_clauseSet {l : Launch} {x : zX} {g : zG} {n : Nat} {d : zD} {tp : Nat → Nat} {tl p least : Nat} (hg : zAmOk g) (K : TK d tp tl p) (hk1 : kd tp tl p = 1) (hle : least ≤ en tp tl p - sk tp tl p) (hn : 2 < n) : ∀ r k s, wsN tp (sk tp tl p) k = some s → sk tp tl p + k ≤ en tp tl p → en tp tl p - (sk tp tl p + k) < r → zV l x g mX3_clauseSet n (PQ d (spSet tp tl p least) (fun v d' => RG [5, 6, 7, 8, 9] d d' ∧ TK d' tp tl v.1 ∧ d' 20 9 = (v.2 : Int))) 34 [(0, zr g 20), (1, zi (least : Int)), (2, zi (s : Int)), (3, zi ((sk tp tl p + k : Nat) : Int))] [] d := by
  obtain ⟨T, hp, k1, k2, k3, k4, k5⟩ := id K
  have he := en_le (tp := tp) hp
  have t2 := T.2.1
  have hren : en tp tl p = rn tp tl 97 122 (sk tp tl p) := by
    unfold kd at hk1
    unfold en
    split at hk1
    · cases hk1
    · rename_i c
      rw [if_neg c]
      split at hk1
      · rename_i c2; rw [if_pos c2]
      · split at hk1
        · split at hk1 <;> cases hk1
        · cases hk1
  intro r
  induction r with
  | zero => intro k s hw hk hr; omega
  | succ r ih =>
    intro k s hw hk hr
    have hs8 := wsN_lt _ _ hw
    refine z_iload_n 3 dX3_clauseSet_34 rfl rfl ?_
    refine z_aload_n 0 dX3_clauseSet_35 rfl rfl ?_
    refine z_geti fl_RX3_44 (by decide) rfl rfl dX3_clauseSet_36 ?_
    rw [k3]
    refine z_icmp_ge 89 (by omega) (by omega) dX3_clauseSet_39 (by decide) (fun h_39 => ?_) (fun h_39 => ?_)
    · refine z_aload_n 0 dX3_clauseSet_89 rfl rfl ?_
      refine z_iload_n 2 dX3_clauseSet_90 rfl rfl ?_
      refine z_puti fp_RX3_101 (by decide) rfl rfl dX3_clauseSet_91 ?_
      refine z_aload_n 0 dX3_clauseSet_94 rfl rfl ?_
      refine z_cv (t_step l hg (T.of (d' := zu d 20 9 (s : Int)) (by simp [zu]) (zu_ne (by decide))) (q := en tp tl p) (by simp [zu, k3]) he.2) mk_X3_step mi_X3_step ml_RX3_47 (by omega) (by decide) rfl rfl rfl rfl (Nat.le_of_ble_eq_true rfl) dX3_clauseSet_95 (zvoid fun d_95 q_95 => ?_)
      obtain ⟨g1, g2⟩ := q_95
      have hsp : spSet tp tl p least = .inr (en tp tl p, s) := by rw [spSet, if_pos ⟨hk1, hle⟩, show en tp tl p - sk tp tl p = k by omega, hw]
      have hRG : RG [5, 6, 7, 8, 9] d d_95 := (RG.rf.up (i := 9) (by decide)).tr (g1.RG.mono (by decide))
      refine z_iconst dX3_clauseSet_98 ?_
      exact z_bret (b := true) rfl dX3_clauseSet_99 (PQ.t hsp hRG.DF (hRG.2 4 (by decide)) ⟨hRG, g2, by rw [g1.2 9 (by decide) (by decide) (by decide) (by decide), zu_at]⟩)
    · obtain ⟨e1, e2⟩ := T.2.2 (sk tp tl p + k) (by omega)
      have hlt := rn_all (tp := tp) (tl := tl) (lo := 97) (hi := 122) (p := sk tp tl p) (i := sk tp tl p + k) (by omega) (by rw [← hren]; omega)
      refine z_aload_n 0 dX3_clauseSet_42 rfl rfl ?_
      refine z_getr fl_RX3_9 (by decide) rfl rfl dX3_clauseSet_43 ?_
      refine z_iload_n 3 dX3_clauseSet_46 rfl rfl ?_
      refine z_iald _ (by decide) rfl rfl (by omega) (by decide) dX3_clauseSet_47 ?_
      rw [e1]
      refine z_bipush dX3_clauseSet_48 (by decide) ?_
      refine z_isub dX3_clauseSet_50 ?_
      refine z_top ((tp (sk tp tl p + k) - 97 : Nat) : Int) (by omega) ?_
      refine z_istore (L' := [(0, _), (1, _), (2, _), (3, _), (4, _)]) dX3_clauseSet_51 (by decide) rfl rfl ?_
      refine z_iload 4 dX3_clauseSet_53 rfl ?_
      refine z_cs (t_isClause l hg d (a := ((tp (sk tp tl p + k) - 97 : Nat) : Int)) (by omega)) mk_X7_isClause ms_X7_isClause ml_RX3_142 (by omega) rfl rfl (Nat.le_of_ble_eq_true rfl) dX3_clauseSet_55 (zpure ?_)
      refine z_if_eq_b 70 dX3_clauseSet_58 (by decide) (fun h_58 => ?_) (fun h_58 => ?_)
      · refine z_aload_n 0 dX3_clauseSet_70 rfl rfl ?_
        refine z_iconst dX3_clauseSet_71 ?_
        refine z_cv (t_refuse l hg (k := 1) (s := sk tp tl p) k2) mk_X3_refuse mi_X3_refuse ml_RX3_87 (by omega) (by decide) rfl rfl rfl rfl (Nat.le_of_ble_eq_true rfl) dX3_clauseSet_72 (fun r_72 d_72 q_72 => ?_)
        obtain ⟨rfl, rfl⟩ := q_72
        show zV l x g mX3_clauseSet n _ _ _ [_] _
        have hno : wsN tp (sk tp tl p) (k + 1) = none := by
          rw [wsN, hw]
          dsimp only
          rw [if_neg (fun c => by first | (have := of_decide_eq_false h_58; omega) | (rw [h_67] at c; cases c.2))]
        have hsp : spSet tp tl p least = .inl (1 + 8 * sk tp tl p) := by rw [spSet, if_pos ⟨hk1, hle⟩, wsN_none (show k + 1 ≤ en tp tl p - sk tp tl p by omega) hno]
        exact z_bret rfl dX3_clauseSet_75 (PQ.f hsp (DF.rf.up (by decide)) (zu_at _ _ _ _))
      · refine z_iload 4 dX3_clauseSet_61 rfl ?_
        refine z_iload_n 2 dX3_clauseSet_63 rfl rfl ?_
        have hc8 : tp (sk tp tl p + k) - 97 < 8 := by have := of_decide_eq_true h_58; omega
        refine z_cs (t_isIn l hg d (m := tp (sk tp tl p + k) - 97) (s := s) (by omega) (by omega)) mk_X7_isIn ms_X7_isIn ml_RX3_145 (by omega) rfl rfl (Nat.le_of_ble_eq_true rfl) dX3_clauseSet_64 (zpure ?_)
        refine z_if_eq_b 76 dX3_clauseSet_67 (by decide) (fun h_67 => ?_) (fun h_67 => ?_)
        · refine z_iload_n 2 dX3_clauseSet_76 rfl rfl ?_
          refine z_iconst dX3_clauseSet_77 ?_
          refine z_iload 4 dX3_clauseSet_78 rfl ?_
          have hpw : 2 ^ (tp (sk tp tl p + k) - 97) ≤ 128 := Nat.pow_le_pow_right (n := 2) (by decide) (show tp (sk tp tl p + k) - 97 ≤ 7 by omega)
          refine z_ishl _ (zshl (s := 1) (m := tp (sk tp tl p + k) - 97) (by omega) (by omega)) dX3_clauseSet_80 ?_
          rw [Nat.one_mul]
          refine z_ior _ (zor _ _) dX3_clauseSet_81 ?_
          refine z_istore_n (L' := [(0, _), (1, _), (2, _), (3, _), (4, _)]) dX3_clauseSet_82 rfl (by decide) rfl rfl ?_
          refine z_iinc 3 (L' := [(0, _), (1, _), (2, _), (3, _), (4, _)]) dX3_clauseSet_83 (by decide) rfl rfl rfl ?_
          refine z_goto 34 dX3_clauseSet_86 (by decide) ?_
          refine z_sub (L' := [(0, _), (1, _), (2, _), (3, _)]) [0, 1, 2, 3] rfl ?_
          refine z_LL _ ?_ (ih (k + 1) (s ||| 2 ^ (tp (sk tp tl p + k) - 97)) ?_ (by omega) (by omega))
          · rw [show ((sk tp tl p + k : Nat) : Int) + 1 = ((sk tp tl p + (k + 1) : Nat) : Int) by omega]
          · rw [wsN, hw]
            dsimp only
            rw [if_pos ⟨hc8, h_67⟩]
        · refine z_aload_n 0 dX3_clauseSet_70 rfl rfl ?_
          refine z_iconst dX3_clauseSet_71 ?_
          refine z_cv (t_refuse l hg (k := 1) (s := sk tp tl p) k2) mk_X3_refuse mi_X3_refuse ml_RX3_87 (by omega) (by decide) rfl rfl rfl rfl (Nat.le_of_ble_eq_true rfl) dX3_clauseSet_72 (fun r_72 d_72 q_72 => ?_)
          obtain ⟨rfl, rfl⟩ := q_72
          show zV l x g mX3_clauseSet n _ _ _ [_] _
          have hno : wsN tp (sk tp tl p) (k + 1) = none := by
            rw [wsN, hw]
            dsimp only
            rw [if_neg (fun c => by first | (have := of_decide_eq_false h_58; omega) | (rw [h_67] at c; cases c.2))]
          have hsp : spSet tp tl p least = .inl (1 + 8 * sk tp tl p) := by rw [spSet, if_pos ⟨hk1, hle⟩, wsN_none (show k + 1 ≤ en tp tl p - sk tp tl p by omega) hno]
          exact z_bret rfl dX3_clauseSet_75 (PQ.f hsp (DF.rf.up (by decide)) (zu_at _ _ _ _))
theorem t_clauseSet (l : Launch) {g : zG} (hg : zAmOk g) {d : zD} {tp : Nat → Nat} {tl p least : Nat} (K : TK d tp tl p) (hl : least < 9) : zC l g mX3_clauseSet 3 [zr g 20, zi (least : Int)] d (PQ d (spSet tp tl p least) (fun v d' => RG [5, 6, 7, 8, 9] d d' ∧ TK d' tp tl v.1 ∧ d' 20 9 = (v.2 : Int))) := by
  obtain ⟨T, hp, k1, k2, k3, k4, k5⟩ := id K
  have he := en_le (tp := tp) hp
  have t2 := T.2.1
  have hk4 := kd_le tp tl p
  refine zC_of (L := [(0, _), (1, _)]) mk_X3_clauseSet (Nat.le_of_ble_eq_true rfl) hg rfl (fun x => ?_)
  refine z_iconst dX3_clauseSet_0 ?_
  refine z_istore_n (L' := [(0, _), (1, _), (2, _)]) dX3_clauseSet_1 rfl (by decide) rfl rfl ?_
  refine z_aload_n 0 dX3_clauseSet_2 rfl rfl ?_
  refine z_geti fl_RX3_50 (by decide) rfl rfl dX3_clauseSet_3 ?_
  refine z_iconst dX3_clauseSet_6 ?_
  rw [k1]
  refine z_icmp_ne 23 (by omega) (by omega) dX3_clauseSet_7 (by decide) (fun h_7 => ?_) (fun h_7 => ?_)
  · refine z_aload_n 0 dX3_clauseSet_23 rfl rfl ?_
    refine z_iconst dX3_clauseSet_24 ?_
    refine z_cv (t_refuse l hg (k := 1) (s := sk tp tl p) k2) mk_X3_refuse mi_X3_refuse ml_RX3_87 (by omega) (by decide) rfl rfl rfl rfl (Nat.le_of_ble_eq_true rfl) dX3_clauseSet_25 (fun r_25 d_25 q_25 => ?_)
    obtain ⟨rfl, rfl⟩ := q_25
    show zV l x g mX3_clauseSet 3 _ _ _ [_] _
    exact z_bret rfl dX3_clauseSet_28 (PQ.f (by rw [spSet, if_neg (fun c => by omega)]) (DF.rf.up (by decide)) (zu_at _ _ _ _))
  · refine z_aload_n 0 dX3_clauseSet_10 rfl rfl ?_
    refine z_geti fl_RX3_44 (by decide) rfl rfl dX3_clauseSet_11 ?_
    refine z_aload_n 0 dX3_clauseSet_14 rfl rfl ?_
    refine z_geti fl_RX3_139 (by decide) rfl rfl dX3_clauseSet_15 ?_
    refine z_isub dX3_clauseSet_18 ?_
    refine z_iload_n 1 dX3_clauseSet_19 rfl rfl ?_
    rw [k3, k2]
    refine z_icmp_ge 29 (by omega) (by omega) dX3_clauseSet_20 (by decide) (fun h_20 => ?_) (fun h_20 => ?_)
    · refine z_aload_n 0 dX3_clauseSet_29 rfl rfl ?_
      refine z_geti fl_RX3_139 (by decide) rfl rfl dX3_clauseSet_30 ?_
      rw [k2]
      refine z_istore_n (L' := [(0, _), (1, _), (2, _), (3, _)]) dX3_clauseSet_33 rfl (by decide) rfl rfl ?_
      exact lp_clauseSet hg K (by omega) (by omega) (by omega) (tl + 1) 0 0 rfl (by omega) (by omega)
    · refine z_aload_n 0 dX3_clauseSet_23 rfl rfl ?_
      refine z_iconst dX3_clauseSet_24 ?_
      refine z_cv (t_refuse l hg (k := 1) (s := sk tp tl p) k2) mk_X3_refuse mi_X3_refuse ml_RX3_87 (by omega) (by decide) rfl rfl rfl rfl (Nat.le_of_ble_eq_true rfl) dX3_clauseSet_25 (fun r_25 d_25 q_25 => ?_)
      obtain ⟨rfl, rfl⟩ := q_25
      show zV l x g mX3_clauseSet 3 _ _ _ [_] _
      exact z_bret rfl dX3_clauseSet_28 (PQ.f (by rw [spSet, if_neg (fun c => by omega)]) (DF.rf.up (by decide)) (zu_at _ _ _ _))
theorem nvN_b {tp : Nat → Nat} {a : Nat} : ∀ k, (∀ i, i < k → tp (a + i) < 256) → nvN tp a k ≤ 300 * k * 10 ^ k
  | 0, _ => by simp [nvN]
  | k + 1, h => by
    have ih := nvN_b k (fun i hi => h i (by omega))
    have h2 := h k (by omega)
    have h3 : 0 < 10 ^ k := Nat.pow_pos (by decide)
    rw [nvN, Nat.pow_succ]
    have e : 300 * (k + 1) * (10 ^ k * 10) = 300 * k * 10 ^ k * 10 + 3000 * 10 ^ k := by
      generalize 10 ^ k = z
      rw [Nat.mul_add, Nat.add_mul]
      congr 1
      · rw [Nat.mul_assoc, Nat.mul_assoc, Nat.mul_assoc]
      · omega
    omega
theorem nvN_le {tp : Nat → Nat} {tl p : Nat} (h2 : kd tp tl p = 2) {d : zD} (T : TX d tp tl) : nv tp tl p ≤ 1000000 := by
  have hs : sk tp tl p < tl := by
    rcases Nat.lt_or_ge (sk tp tl p) tl with z | z
    · exact z
    · rw [kd, if_pos z] at h2; cases h2
  have h3 : en tp tl p - sk tp tl p ≤ 3 ∧ en tp tl p ≤ tl := by
    unfold kd at h2
    unfold en
    rw [if_neg (by omega)] at h2 ⊢
    split at h2
    · cases h2
    · rename_i c1
      split at h2
      · rename_i c2
        rw [if_neg c1, if_pos c2]
        split at h2
        · cases h2
        · exact ⟨by omega, (rn_le (by omega)).2⟩
      · cases h2
  unfold nv
  generalize hk : en tp tl p - sk tp tl p = k at h3
  have h4 := nvN_b (tp := tp) (a := sk tp tl p) k (fun i hi => (T.2.2 _ (by omega)).2)
  rcases (show k = 0 ∨ k = 1 ∨ k = 2 ∨ k = 3 by omega) with rfl | rfl | rfl | rfl <;> omega
theorem t_signedWeight (l : Launch) {g : zG} (hg : zAmOk g) {d : zD} {tp : Nat → Nat} {tl p : Nat} (K : TK d tp tl p) : zC l g mX3_signedWeight 3 [zr g 20] d (PQ d (spWei tp tl p) (fun v d' => RG [5, 6, 7, 8, 10] d d' ∧ TK d' tp tl v.1 ∧ d' 20 10 = v.2)) := by
  obtain ⟨T, hp, k1, k2, k3, k4, k5⟩ := id K
  have he := en_le (tp := tp) hp
  have t2 := T.2.1
  have key : ∀ (x : zX) (d1 : zD) (b : Bool) (q : Nat), RG [5, 6, 7, 8, 10] d d1 → TK d1 tp tl q → b = isS tp tl p 45 → q = (if isS tp tl p 45 = true then en tp tl p else p) → zV l x g mX3_signedWeight 3 (PQ d (spWei tp tl p) (fun v d' => RG [5, 6, 7, 8, 10] d d' ∧ TK d' tp tl v.1 ∧ d' 20 10 = v.2)) 15 [(0, zr g 20), (1, zi (zb b))] [] d1 := by
    intro x d1 b q hRG K1 hb hq
    obtain ⟨T1, hp1, a1, a2, a3, a4, a5⟩ := id K1
    have he1 := en_le (tp := tp) hp1
    have hk4 := kd_le tp tl q
    refine z_aload_n 0 dX3_signedWeight_15 rfl rfl ?_
    refine z_geti fl_RX3_50 (by decide) rfl rfl dX3_signedWeight_16 ?_
    refine z_iconst dX3_signedWeight_19 ?_
    rw [a1]
    refine z_icmp_eq 29 (by omega) (by omega) dX3_signedWeight_20 (by decide) (fun h_20 => ?_) (fun h_20 => ?_)
    · have h2 : kd tp tl q = 2 := by omega
      have hv3 := nvN_le (tp := tp) (tl := tl) (p := q) (by omega) T1
      refine z_aload_n 0 dX3_signedWeight_29 rfl rfl ?_
      refine z_geti fl_RX3_124 (by decide) rfl rfl dX3_signedWeight_30 ?_
      refine z_bipush dX3_signedWeight_33 (by decide) ?_
      rw [a4 h2]
      refine z_icmp_le 44 (by omega) (by omega) dX3_signedWeight_35 (by decide) (fun h_35 => ?_) (fun h_35 => ?_)
      · refine z_aload_n 0 dX3_signedWeight_44 rfl rfl ?_
        refine z_iload_n 1 dX3_signedWeight_45 rfl rfl ?_
        refine z_if_eq_b 57 dX3_signedWeight_46 (by decide) (fun h_46 => ?_) (fun h_46 => ?_)
        · refine z_aload_n 0 dX3_signedWeight_57 rfl rfl ?_
          refine z_geti fl_RX3_124 (by decide) rfl rfl dX3_signedWeight_58 ?_
          rw [a4 h2]
          refine z_puti fp_RX3_155 (by decide) rfl rfl dX3_signedWeight_61 ?_
          refine z_aload_n 0 dX3_signedWeight_64 rfl rfl ?_
          have hv : ((nv tp tl q : Nat) : Int) = (if isS tp tl p 45 = true then -(nv tp tl q : Int) else (nv tp tl q : Int)) := by rw [if_neg (by rw [← hb, h_46]; decide)]
          rw [hv]
          refine z_cv (t_step l hg (T1.of (d' := zu d1 20 10 (if isS tp tl p 45 = true then -(nv tp tl q : Int) else (nv tp tl q : Int))) (by simp [zu]) (zu_ne (by decide))) (q := en tp tl q) (by simp [zu, a3]) he1.2) mk_X3_step mi_X3_step ml_RX3_47 (by omega) (by decide) rfl rfl rfl rfl (Nat.le_of_ble_eq_true rfl) dX3_signedWeight_65 (zvoid fun d_65 q_65 => ?_)
          obtain ⟨g1, g2⟩ := q_65
          have hsp : spWei tp tl p = .inr (en tp tl q, if isS tp tl p 45 = true then -(nv tp tl q : Int) else (nv tp tl q : Int)) := by rw [spWei, ← hq, if_neg (by omega), if_neg (by omega)]
          have hRG2 : RG [5, 6, 7, 8, 10] d d_65 := (hRG.up (i := 10) (by decide)).tr (g1.RG.mono (by decide))
          refine z_iconst dX3_signedWeight_68 ?_
          exact z_bret (b := true) rfl dX3_signedWeight_69 (PQ.t hsp hRG2.DF (hRG2.2 4 (by decide)) ⟨hRG2, g2, by rw [g1.2 10 (by decide) (by decide) (by decide) (by decide), zu_at]⟩)
        · refine z_aload_n 0 dX3_signedWeight_49 rfl rfl ?_
          refine z_geti fl_RX3_124 (by decide) rfl rfl dX3_signedWeight_50 ?_
          rw [a4 h2]
          refine z_ineg dX3_signedWeight_53 ?_
          refine z_goto 61 dX3_signedWeight_54 (by decide) ?_
          refine z_puti fp_RX3_155 (by decide) rfl rfl dX3_signedWeight_61 ?_
          refine z_aload_n 0 dX3_signedWeight_64 rfl rfl ?_
          have hv : (-(nv tp tl q : Int)) = (if isS tp tl p 45 = true then -(nv tp tl q : Int) else (nv tp tl q : Int)) := by rw [if_pos (by rw [← hb]; exact h_46)]
          rw [hv]
          refine z_cv (t_step l hg (T1.of (d' := zu d1 20 10 (if isS tp tl p 45 = true then -(nv tp tl q : Int) else (nv tp tl q : Int))) (by simp [zu]) (zu_ne (by decide))) (q := en tp tl q) (by simp [zu, a3]) he1.2) mk_X3_step mi_X3_step ml_RX3_47 (by omega) (by decide) rfl rfl rfl rfl (Nat.le_of_ble_eq_true rfl) dX3_signedWeight_65 (zvoid fun d_65 q_65 => ?_)
          obtain ⟨g1, g2⟩ := q_65
          have hsp : spWei tp tl p = .inr (en tp tl q, if isS tp tl p 45 = true then -(nv tp tl q : Int) else (nv tp tl q : Int)) := by rw [spWei, ← hq, if_neg (by omega), if_neg (by omega)]
          have hRG2 : RG [5, 6, 7, 8, 10] d d_65 := (hRG.up (i := 10) (by decide)).tr (g1.RG.mono (by decide))
          refine z_iconst dX3_signedWeight_68 ?_
          exact z_bret (b := true) rfl dX3_signedWeight_69 (PQ.t hsp hRG2.DF (hRG2.2 4 (by decide)) ⟨hRG2, g2, by rw [g1.2 10 (by decide) (by decide) (by decide) (by decide), zu_at]⟩)
      · refine z_aload_n 0 dX3_signedWeight_38 rfl rfl ?_
        refine z_iconst dX3_signedWeight_39 ?_
        refine z_cv (t_refuse l hg (k := 2) (s := sk tp tl q) a2) mk_X3_refuse mi_X3_refuse ml_RX3_87 (by omega) (by decide) rfl rfl rfl rfl (Nat.le_of_ble_eq_true rfl) dX3_signedWeight_40 (fun r_40 d_40 q_40 => ?_)
        obtain ⟨rfl, rfl⟩ := q_40
        show zV l x g mX3_signedWeight 3 _ _ _ [_] _
        exact z_bret rfl dX3_signedWeight_43 (PQ.f (by rw [spWei, ← hq, if_neg (by omega), if_pos (by omega)]) (hRG.DF.up (by decide)) (zu_at _ _ _ _))
    · refine z_aload_n 0 dX3_signedWeight_23 rfl rfl ?_
      refine z_iconst dX3_signedWeight_24 ?_
      refine z_cv (t_refuse l hg (k := 1) (s := sk tp tl q) a2) mk_X3_refuse mi_X3_refuse ml_RX3_87 (by omega) (by decide) rfl rfl rfl rfl (Nat.le_of_ble_eq_true rfl) dX3_signedWeight_25 (fun r_25 d_25 q_25 => ?_)
      obtain ⟨rfl, rfl⟩ := q_25
      show zV l x g mX3_signedWeight 3 _ _ _ [_] _
      exact z_bret rfl dX3_signedWeight_28 (PQ.f (by rw [spWei, ← hq, if_pos (by omega)]) (hRG.DF.up (by decide)) (zu_at _ _ _ _))
  refine zC_of (L := [(0, _)]) mk_X3_signedWeight (Nat.le_of_ble_eq_true rfl) hg rfl (fun x => ?_)
  refine z_aload_n 0 dX3_signedWeight_0 rfl rfl ?_
  refine z_bipush dX3_signedWeight_1 (by decide) ?_
  refine z_cv (t_isSign l hg K (c := 45) (by decide)) mk_X3_isSign mi_X3_isSign ml_RX3_94 (by omega) (by decide) rfl rfl rfl rfl (Nat.le_of_ble_eq_true rfl) dX3_signedWeight_3 (zpure ?_)
  refine z_istore_n (L' := [(0, _), (1, _)]) dX3_signedWeight_6 rfl (by decide) rfl rfl ?_
  refine z_iload_n 1 dX3_signedWeight_7 rfl rfl ?_
  refine z_if_eq_b 15 dX3_signedWeight_8 (by decide) (fun h_8 => ?_) (fun h_8 => ?_)
  · exact key x d _ p RG.rf K rfl (by rw [if_neg (by rw [h_8]; decide)])
  · refine z_aload_n 0 dX3_signedWeight_11 rfl rfl ?_
    refine z_cv (t_step l hg T (q := en tp tl p) k3 he.2) mk_X3_step mi_X3_step ml_RX3_47 (by omega) (by decide) rfl rfl rfl rfl (Nat.le_of_ble_eq_true rfl) dX3_signedWeight_12 (zvoid fun d_12 q_12 => ?_)
    exact key x d_12 _ (en tp tl p) (q_12.1.RG.mono (by decide)) q_12.2 rfl (by rw [if_pos h_8])
theorem t_semicolon (l : Launch) {g : zG} (hg : zAmOk g) {d : zD} {tp : Nat → Nat} {tl p : Nat} (K : TK d tp tl p) : zC l g mX3_semicolon 3 [zr g 20] d (PQ d (if isS tp tl p 59 = true then Sum.inr (en tp tl p) else Sum.inl (1 + 8 * sk tp tl p)) (fun v d' => RG [5, 6, 7, 8] d d' ∧ TK d' tp tl v)) := by
  obtain ⟨T, hp, k1, k2, k3, k4, k5⟩ := id K
  have he := en_le (tp := tp) hp
  refine zC_of (L := [(0, _)]) mk_X3_semicolon (Nat.le_of_ble_eq_true rfl) hg rfl (fun x => ?_)
  refine z_aload_n 0 dX3_semicolon_0 rfl rfl ?_
  refine z_bipush dX3_semicolon_1 (by decide) ?_
  refine z_cv (t_isSign l hg K (c := 59) (by decide)) mk_X3_isSign mi_X3_isSign ml_RX3_94 (by omega) (by decide) rfl rfl rfl rfl (Nat.le_of_ble_eq_true rfl) dX3_semicolon_3 (zpure ?_)
  refine z_if_ne_b 15 dX3_semicolon_6 (by decide) (fun h_6 => ?_) (fun h_6 => ?_)
  · refine z_aload_n 0 dX3_semicolon_15 rfl rfl ?_
    refine z_cv (t_step l hg T (q := en tp tl p) k3 he.2) mk_X3_step mi_X3_step ml_RX3_47 (by omega) (by decide) rfl rfl rfl rfl (Nat.le_of_ble_eq_true rfl) dX3_semicolon_16 (zvoid fun d_16 q_16 => ?_)
    refine z_iconst dX3_semicolon_19 ?_
    exact z_bret (b := true) rfl dX3_semicolon_20 (PQ.t (by rw [if_pos h_6]) q_16.1.RG.DF (q_16.1.RG.2 4 (by decide)) ⟨q_16.1.RG, q_16.2⟩)
  · refine z_aload_n 0 dX3_semicolon_9 rfl rfl ?_
    refine z_iconst dX3_semicolon_10 ?_
    refine z_cv (t_refuse l hg (k := 1) (s := sk tp tl p) k2) mk_X3_refuse mi_X3_refuse ml_RX3_87 (by omega) (by decide) rfl rfl rfl rfl (Nat.le_of_ble_eq_true rfl) dX3_semicolon_11 (fun r_11 d_11 q_11 => ?_)
    obtain ⟨rfl, rfl⟩ := q_11
    show zV l x g mX3_semicolon 3 _ _ _ [_] _
    exact z_bret rfl dX3_semicolon_14 (PQ.f (by rw [if_neg (by rw [h_6]; decide)]) (DF.rf.up (by decide)) (zu_at _ _ _ _))
