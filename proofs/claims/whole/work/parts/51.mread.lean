/-! the reference reads: words, numbers, sets -/
/-- the cursor stands at p, but for blanks -/
def CU (d : zD) (tp : Nat → Nat) (tl p : Nat) : Prop := p ≤ tl ∧ ∃ q : Nat, d 37 23 = q ∧ q ≤ tl ∧ sk tp tl q = sk tp tl p
def hvI (tp : Nat → Nat) (tl p : Nat) : Int := if sk tp tl p < tl then (tp (sk tp tl p) : Int) else -1
theorem CU.of {d d' : zD} {tp : Nat → Nat} {tl p : Nat} (c : CU d tp tl p) (e : d' 37 23 = d 37 23) : CU d' tp tl p := ⟨c.1, by obtain ⟨q, h⟩ := c.2; exact ⟨q, by rw [e]; exact h⟩⟩
theorem CU.sk {d : zD} {tp : Nat → Nat} {tl p : Nat} (hp : p ≤ tl) (e : d 37 23 = (sk tp tl p : Nat)) : CU d tp tl p := ⟨hp, _, e, (sk_le hp).2, sk_sk tp tl p⟩
theorem CU.at {d : zD} {tp : Nat → Nat} {tl p : Nat} (hp : p ≤ tl) (e : d 37 23 = (p : Nat)) : CU d tp tl p := ⟨hp, _, e, hp, rfl⟩
/-- what reading may touch -/
def MPF (d d' : zD) : Prop := (∀ p, p ∉ [37, 39, 44, 45, 46, 47, 49, 53, 54, 55] → d' p = d p) ∧ ∀ i, i < 23 ∨ 32 < i ∨ i = 27 → d' 37 i = d 37 i
theorem MPF.rf {d : zD} : MPF d d := ⟨fun _ _ => rfl, fun _ _ => rfl⟩
theorem MPF.tr {a b c : zD} (h1 : MPF a b) (h2 : MPF b c) : MPF a c := ⟨fun p hp => (h2.1 p hp).trans (h1.1 p hp), fun p hp => (h2.2 p hp).trans (h1.2 p hp)⟩
theorem MPF.up {a b : zD} (h1 : MPF a b) {i : Nat} {v : Int} (hi : 23 ≤ i ∧ i ≤ 32 ∧ i ≠ 27) : MPF a (zu b 37 i v) := ⟨fun p hp => (zu_ne (fun z => hp (by simp [z]))).trans (h1.1 p hp), fun j hj => by rw [zu_row, if_neg (by omega)]; exact h1.2 j hj⟩
theorem MPF.ups {a b : zD} (h1 : MPF a b) {q i : Nat} {v : Int} (hq : q ∈ [39, 44, 45, 46, 47, 49, 53, 54, 55]) : MPF a (zu b q i v) := ⟨fun p hp => (zu_ne (fun z => hp (by rw [z]; exact List.mem_cons_of_mem _ hq))).trans (h1.1 p hp), fun j hj => by rw [zu_ne (fun z => by rw [← z] at hq; exact absurd hq (by decide))]; exact h1.2 j hj⟩
theorem MR.MPF {ps : List Nat} {a b : zD} (h : MR ps a b) (hp : ∀ p ∈ ps, 23 ≤ p ∧ p ≤ 32 ∧ p ≠ 27) : MPF a b := ⟨fun p hp => h.1 p (fun z => hp (by simp at z; simp [z])), fun i hi => h.2 i (fun z => by have := hp i z; omega)⟩
theorem MPF.TM {a b : zD} (h : MPF a b) {tp : Nat → Nat} {tl : Nat} (T : TM a tp tl) : TM b tp tl := T.of (h.2 21 (by decide)) (h.1 57 (by decide))
def MPT (d d' : zD) : Prop := (∀ p, p ∉ [37, 39, 44, 45, 46, 47, 49, 53, 54, 55] → d' p = d p) ∧ ∀ i, i < 23 ∨ 32 < i → d' 37 i = d 37 i
theorem MPT.rf {d : zD} : MPT d d := ⟨fun _ _ => rfl, fun _ _ => rfl⟩
theorem MPT.tr {a b c : zD} (h1 : MPT a b) (h2 : MPT b c) : MPT a c := ⟨fun p hp => (h2.1 p hp).trans (h1.1 p hp), fun p hp => (h2.2 p hp).trans (h1.2 p hp)⟩
theorem MPT.up {a b : zD} (h1 : MPT a b) {i : Nat} {v : Int} (hi : 23 ≤ i ∧ i ≤ 32) : MPT a (zu b 37 i v) := ⟨fun p hp => (zu_ne (fun z => hp (by simp [z]))).trans (h1.1 p hp), fun j hj => by rw [zu_row, if_neg (by omega)]; exact h1.2 j hj⟩
theorem MPT.ups {a b : zD} (h1 : MPT a b) {q i : Nat} {v : Int} (hq : q ∈ [39, 44, 45, 46, 47, 49, 53, 54, 55]) : MPT a (zu b q i v) := ⟨fun p hp => (zu_ne (fun z => hp (by rw [z]; exact List.mem_cons_of_mem _ hq))).trans (h1.1 p hp), fun j hj => by rw [zu_ne (fun z => by rw [← z] at hq; exact absurd hq (by decide))]; exact h1.2 j hj⟩
theorem MPF.T {a b : zD} (h : MPF a b) : MPT a b := ⟨h.1, fun i hi => h.2 i (by omega)⟩
theorem MPT.TM {a b : zD} (h : MPT a b) {tp : Nat → Nat} {tl : Nat} (T : TM a tp tl) : TM b tp tl := T.of (h.2 21 (by decide)) (h.1 57 (by decide))
def PM {α : Type} (d : zD) (R : Nat ⊕ α) (ok : α → zD → Prop) : Option Value → zD → Prop := fun r d' => match R with
  | .inl f => r = some (zi (zb false)) ∧ MPF d d' ∧ d' 37 24 = (f : Int)
  | .inr v => r = some (zi (zb true)) ∧ MPF d d' ∧ d' 37 24 = d 37 24 ∧ ok v d'
theorem z_pm {l : Launch} {x : zX} {g : zG} {M : zM} {n : Nat} {Q : Option Value → zD → Prop} {pc : Nat} {L : List (Nat × Value)} {st : List Value} {d : zD} {α : Type} {R : Nat ⊕ α} {ok : α → zD → Prop} (kf : ∀ (f : Nat) (d' : zD), R = .inl f → MPF d d' → d' 37 24 = (f : Int) → zV l x g M n Q pc L (zi (zb false) :: st) d') (kt : ∀ (v : α) (d' : zD), R = .inr v → MPF d d' → d' 37 24 = d 37 24 → ok v d' → zV l x g M n Q pc L (zi (zb true) :: st) d') : ∀ (r : Option Value) (d' : zD), PM d R ok r d' → zV l x g M n Q pc L (r.toList ++ st) d' := by
  intro r d' h
  cases R with
  | inl f => obtain ⟨rfl, h1, h2⟩ := h; exact kf f d' rfl h1 h2
  | inr v => obtain ⟨rfl, h1, h2, h3⟩ := h; exact kt v d' rfl h1 h2 h3
theorem PM.f {α : Type} {d d' : zD} {R : Nat ⊕ α} {ok : α → zD → Prop} {f : Nat} (e : R = .inl f) (h1 : MPF d d') (h2 : d' 37 24 = (f : Int)) : PM d R ok (some (zi (zb false))) d' := by subst e; exact ⟨rfl, h1, h2⟩
theorem PM.t {α : Type} {d d' : zD} {R : Nat ⊕ α} {ok : α → zD → Prop} {v : α} (e : R = .inr v) (h1 : MPF d d') (h2 : d' 37 24 = d 37 24) (h3 : ok v d') : PM d R ok (some (zi (zb true))) d' := by subst e; exact ⟨rfl, h1, h2, h3⟩
theorem lp8_here {l : Launch} {x : zX} {g : zG} {n : Nat} {d : zD} {tp : Nat → Nat} {tl p : Nat} (hg : zAmOk g) (T : TM d tp tl) : ∀ r q d1, MR [23] d d1 → d1 37 23 = (q : Nat) → q ≤ tl → sk tp tl q = sk tp tl p → tl - q < r → zV l x g mX8_here n (fun r d' => r = some (zi (hvI tp tl p)) ∧ MR [23] d d' ∧ d' 37 23 = (sk tp tl p : Nat)) 0 [(0, zr g 37)] [] d1 := by
  obtain ⟨t1, t2, t3⟩ := T
  intro r
  induction r with
  | zero => intro q d1 h1 h2 h3 h4 hr; omega
  | succ r ih =>
    intro q d1 F e23 hq hs hr
    have e21 : d1 37 21 = tl := by rw [F.2 21 (by decide)]; exact t1
    have e57 : d1 57 = d 57 := F.1 57 (by decide)
    refine z_aload_n 0 dX8_here_0 rfl rfl ?_
    refine z_geti fl_RX8_110 (by decide) rfl rfl dX8_here_1 ?_
    refine z_aload_n 0 dX8_here_4 rfl rfl ?_
    refine z_geti fl_RX8_99 (by decide) rfl rfl dX8_here_5 ?_
    rw [e23, e21]
    refine z_icmp_ge 52 (by omega) (by omega) dX8_here_8 (by decide) (fun h_8 => ?_) (fun h_8 => ?_)
    · refine z_aload_n 0 dX8_here_52 rfl rfl ?_
      refine z_geti fl_RX8_110 (by decide) rfl rfl dX8_here_53 ?_
      refine z_aload_n 0 dX8_here_56 rfl rfl ?_
      refine z_geti fl_RX8_99 (by decide) rfl rfl dX8_here_57 ?_
      rw [e23, e21]
      refine z_icmp_ge 75 (by omega) (by omega) dX8_here_60 (by decide) (fun h_60 => ?_) (fun h_60 => ?_)
      · have hsk : sk tp tl p = q := by rw [← hs]; exact sk_f (fun z => by omega)
        refine z_iconst dX8_here_75 ?_
        exact z_iret rfl dX8_here_76 (⟨by rw [hvI, hsk, if_neg (by omega)], F, by rw [hsk]; exact e23⟩)
      · obtain ⟨u1, u2⟩ := t3 q (by omega)
        have hsk : sk tp tl p = q := by rw [← hs]; exact sk_f (fun z => by have := of_decide_eq_true z.2; omega)
        refine z_aload_n 0 dX8_here_63 rfl rfl ?_
        refine z_getr fl_RX8_67 (by decide) rfl rfl dX8_here_64 ?_
        refine z_aload_n 0 dX8_here_67 rfl rfl ?_
        refine z_geti fl_RX8_110 (by decide) rfl rfl dX8_here_68 ?_
        rw [e23]
        refine z_iald q (by decide) rfl rfl (by omega) (by decide) dX8_here_71 ?_
        refine z_goto 76 dX8_here_72 (by decide) ?_
        rw [e57, u1]
        exact z_iret rfl dX8_here_76 (⟨by rw [hvI, hsk, if_pos (by omega)], F, by rw [hsk]; exact e23⟩)
    · obtain ⟨u1, u2⟩ := t3 q (by omega)
      refine z_aload_n 0 dX8_here_11 rfl rfl ?_
      refine z_getr fl_RX8_67 (by decide) rfl rfl dX8_here_12 ?_
      refine z_aload_n 0 dX8_here_15 rfl rfl ?_
      refine z_geti fl_RX8_110 (by decide) rfl rfl dX8_here_16 ?_
      rw [e23]
      refine z_iald q (by decide) rfl rfl (by omega) (by decide) dX8_here_19 ?_
      refine z_bipush dX8_here_20 (by decide) ?_
      rw [e57, u1]
      refine z_icmp_eq 39 (by omega) (by omega) dX8_here_22 (by decide) (fun h_22 => ?_) (fun h_22 => ?_)
      · refine z_aload_n 0 dX8_here_39 rfl rfl ?_
        refine z_dup dX8_here_40 rfl ?_
        refine z_geti fl_RX8_110 (by decide) rfl rfl dX8_here_41 ?_
        rw [e23]
        refine z_iconst dX8_here_44 ?_
        refine z_iadd dX8_here_45 ?_
        refine z_puti fp_RX8_110 (by decide) rfl rfl dX8_here_46 ?_
        refine z_goto 0 dX8_here_49 (by decide) ?_
        have hb : blk (tp q) = true := by unfold blk; exact decide_eq_true (by omega)
        exact ih (q + 1) _ (F.up (by decide)) (by rw [zu_at]; rfl) (by omega) (by rw [← sk_t (by omega) hb]; exact hs) (by omega)
      · refine z_aload_n 0 dX8_here_25 rfl rfl ?_
        refine z_getr fl_RX8_67 (by decide) rfl rfl dX8_here_26 ?_
        refine z_aload_n 0 dX8_here_29 rfl rfl ?_
        refine z_geti fl_RX8_110 (by decide) rfl rfl dX8_here_30 ?_
        rw [e23]
        refine z_iald q (by decide) rfl rfl (by omega) (by decide) dX8_here_33 ?_
        refine z_bipush dX8_here_34 (by decide) ?_
        rw [e57, u1]
        refine z_icmp_ne 52 (by omega) (by omega) dX8_here_36 (by decide) (fun h_36 => ?_) (fun h_36 => ?_)
        · refine z_aload_n 0 dX8_here_52 rfl rfl ?_
          refine z_geti fl_RX8_110 (by decide) rfl rfl dX8_here_53 ?_
          refine z_aload_n 0 dX8_here_56 rfl rfl ?_
          refine z_geti fl_RX8_99 (by decide) rfl rfl dX8_here_57 ?_
          rw [e23, e21]
          refine z_icmp_ge 75 (by omega) (by omega) dX8_here_60 (by decide) (fun h_60 => ?_) (fun h_60 => ?_)
          · have hsk : sk tp tl p = q := by rw [← hs]; exact sk_f (fun z => by omega)
            refine z_iconst dX8_here_75 ?_
            exact z_iret rfl dX8_here_76 (⟨by rw [hvI, hsk, if_neg (by omega)], F, by rw [hsk]; exact e23⟩)
          · obtain ⟨u1, u2⟩ := t3 q (by omega)
            have hsk : sk tp tl p = q := by rw [← hs]; exact sk_f (fun z => by have := of_decide_eq_true z.2; omega)
            refine z_aload_n 0 dX8_here_63 rfl rfl ?_
            refine z_getr fl_RX8_67 (by decide) rfl rfl dX8_here_64 ?_
            refine z_aload_n 0 dX8_here_67 rfl rfl ?_
            refine z_geti fl_RX8_110 (by decide) rfl rfl dX8_here_68 ?_
            rw [e23]
            refine z_iald q (by decide) rfl rfl (by omega) (by decide) dX8_here_71 ?_
            refine z_goto 76 dX8_here_72 (by decide) ?_
            rw [e57, u1]
            exact z_iret rfl dX8_here_76 (⟨by rw [hvI, hsk, if_pos (by omega)], F, by rw [hsk]; exact e23⟩)
        · refine z_aload_n 0 dX8_here_39 rfl rfl ?_
          refine z_dup dX8_here_40 rfl ?_
          refine z_geti fl_RX8_110 (by decide) rfl rfl dX8_here_41 ?_
          rw [e23]
          refine z_iconst dX8_here_44 ?_
          refine z_iadd dX8_here_45 ?_
          refine z_puti fp_RX8_110 (by decide) rfl rfl dX8_here_46 ?_
          refine z_goto 0 dX8_here_49 (by decide) ?_
          have hb : blk (tp q) = true := by unfold blk; exact decide_eq_true (by omega)
          exact ih (q + 1) _ (F.up (by decide)) (by rw [zu_at]; rfl) (by omega) (by rw [← sk_t (by omega) hb]; exact hs) (by omega)
theorem t8_here (l : Launch) {g : zG} (hg : zAmOk g) {d : zD} {tp : Nat → Nat} {tl p : Nat} (T : TM d tp tl) (C : CU d tp tl p) : zC l g mX8_here 1 [zr g 37] d (fun r d' => r = some (zi (hvI tp tl p)) ∧ MR [23] d d' ∧ d' 37 23 = (sk tp tl p : Nat)) := by
  obtain ⟨hp, q, h1, h2, h3⟩ := C
  refine zC_of (L := [(0, _)]) mk_X8_here (Nat.le_of_ble_eq_true rfl) hg rfl (fun x => ?_)
  exact lp8_here hg T (tl + 1) q d MR.rf h1 h2 h3 (by omega)
theorem t8_fails (l : Launch) {g : zG} (hg : zAmOk g) (d : zD) {k s : Nat} : zC l g mX8_fails 1 [zr g 37, zi (k : Int), zi (s : Int)] d (fun r d' => r = some (zi (zb false)) ∧ d' = zu d 37 24 ((k + 8 * s : Nat) : Int)) := by
  refine zC_of (L := [(0, _), (1, _), (2, _)]) mk_X8_fails (Nat.le_of_ble_eq_true rfl) hg rfl (fun x => ?_)
  refine z_aload_n 0 dX8_fails_0 rfl rfl ?_
  refine z_iload_n 1 dX8_fails_1 rfl rfl ?_
  refine z_bipush dX8_fails_2 (by decide) ?_
  refine z_iload_n 2 dX8_fails_4 rfl rfl ?_
  refine z_imul dX8_fails_5 ?_
  refine z_iadd dX8_fails_6 ?_
  refine z_top ((k + 8 * s : Nat) : Int) (by omega) ?_
  refine z_puti fp_RX8_113 (by decide) rfl rfl dX8_fails_7 ?_
  refine z_iconst dX8_fails_10 ?_
  exact z_bret (b := false) rfl dX8_fails_11 (⟨rfl, rfl⟩)
theorem hvI_in (tp : Nat → Nat) {tl : Nat} (ht : ∀ i, i < tl → tp i < 256) (p : Nat) : -1 ≤ hvI tp tl p ∧ hvI tp tl p < 256 := by
  unfold hvI
  split
  · rename_i c; have := ht _ c; omega
  · omega
theorem hvI_w (tp : Nat → Nat) (tl p : Nat) : (97 ≤ hvI tp tl p ∧ hvI tp tl p ≤ 122) ↔ kd tp tl p = 1 := by
  unfold hvI kd
  by_cases c : sk tp tl p < tl
  · rw [if_pos c, if_neg (by omega)]
    by_cases c2 : 97 ≤ tp (sk tp tl p) ∧ tp (sk tp tl p) ≤ 122
    · rw [if_pos c2]; exact ⟨fun _ => rfl, fun _ => by omega⟩
    · rw [if_neg c2]
      constructor
      · intro z; exact absurd z (by omega)
      · intro z; split at z
        · split at z <;> cases z
        · cases z
  · rw [if_neg c, if_pos (by omega)]
    exact ⟨fun z => by omega, fun z => by cases z⟩
theorem hvI_d (tp : Nat → Nat) (tl p : Nat) : (48 ≤ hvI tp tl p ∧ hvI tp tl p ≤ 57) ↔ (kd tp tl p = 2 ∨ kd tp tl p = 4) := by
  unfold hvI kd
  by_cases c : sk tp tl p < tl
  · rw [if_pos c, if_neg (by omega)]
    by_cases c2 : 97 ≤ tp (sk tp tl p) ∧ tp (sk tp tl p) ≤ 122
    · rw [if_pos c2]; exact ⟨fun z => by omega, fun z => by omega⟩
    · rw [if_neg c2]
      by_cases c3 : 48 ≤ tp (sk tp tl p) ∧ tp (sk tp tl p) ≤ 57
      · rw [if_pos c3]
        refine ⟨fun _ => ?_, fun _ => by omega⟩
        split
        · exact Or.inr rfl
        · exact Or.inl rfl
      · rw [if_neg c3]; exact ⟨fun z => by omega, fun z => by omega⟩
  · rw [if_neg c, if_pos (by omega)]
    exact ⟨fun z => by omega, fun z => by omega⟩
theorem hvI_s (tp : Nat → Nat) (tl p : Nat) {c : Nat} (hc : ¬ (97 ≤ c ∧ c ≤ 122) ∧ ¬ (48 ≤ c ∧ c ≤ 57)) : hvI tp tl p = (c : Int) ↔ isS tp tl p c = true := by
  unfold hvI isS kd
  rw [decide_eq_true_eq]
  by_cases k : sk tp tl p < tl
  · rw [if_pos k, if_neg (by omega)]
    by_cases c2 : 97 ≤ tp (sk tp tl p) ∧ tp (sk tp tl p) ≤ 122
    · rw [if_pos c2]; exact ⟨fun z => by omega, fun z => by omega⟩
    · rw [if_neg c2]
      by_cases c3 : 48 ≤ tp (sk tp tl p) ∧ tp (sk tp tl p) ≤ 57
      · rw [if_pos c3]
        refine ⟨fun z => by omega, fun z => ?_⟩
        obtain ⟨z1, z2⟩ := z
        omega
      · rw [if_neg c3]; exact ⟨fun z => ⟨rfl, by omega⟩, fun z => by omega⟩
  · rw [if_neg k, if_pos (by omega)]
    exact ⟨fun z => by omega, fun z => by omega⟩
theorem en_d {tp : Nat → Nat} {tl p : Nat} (h : kd tp tl p = 2 ∨ kd tp tl p = 4) : sk tp tl p < tl ∧ en tp tl p = rn tp tl 48 57 (sk tp tl p) ∧ (kd tp tl p = 4 ↔ 3 < en tp tl p - sk tp tl p) := by
  unfold kd at h ⊢
  unfold en
  by_cases k : tl ≤ sk tp tl p
  · rw [if_pos k] at h; omega
  · rw [if_neg k] at h ⊢
    by_cases c2 : 97 ≤ tp (sk tp tl p) ∧ tp (sk tp tl p) ≤ 122
    · rw [if_pos c2] at h; omega
    · rw [if_neg c2] at h ⊢
      by_cases c3 : 48 ≤ tp (sk tp tl p) ∧ tp (sk tp tl p) ≤ 57
      · rw [if_neg k, if_neg c2, if_pos c3, if_pos c3]
        refine ⟨by omega, rfl, ?_⟩
        split <;> omega
      · rw [if_neg c3] at h; omega
theorem en_s {tp : Nat → Nat} {tl p c : Nat} (h : isS tp tl p c = true) : en tp tl p = sk tp tl p + 1 ∧ sk tp tl p < tl := by
  unfold isS at h
  rw [decide_eq_true_eq] at h
  obtain ⟨h, -⟩ := h
  unfold kd at h
  unfold en
  by_cases k : tl ≤ sk tp tl p
  · rw [if_pos k] at h; cases h
  · rw [if_neg k] at h ⊢
    by_cases c2 : 97 ≤ tp (sk tp tl p) ∧ tp (sk tp tl p) ≤ 122
    · rw [if_pos c2] at h; cases h
    · rw [if_neg c2] at h ⊢
      by_cases c3 : 48 ≤ tp (sk tp tl p) ∧ tp (sk tp tl p) ≤ 57
      · rw [if_pos c3] at h; split at h <;> cases h
      · rw [if_neg c3]; exact ⟨rfl, by omega⟩
theorem t8_isWord (l : Launch) {g : zG} (hg : zAmOk g) {d : zD} {tp : Nat → Nat} {tl p : Nat} (T : TM d tp tl) (C : CU d tp tl p) : zC l g mX8_isWord 2 [zr g 37] d (fun r d' => r = some (zi (zb (decide (kd tp tl p = 1)))) ∧ MR [23] d d' ∧ d' 37 23 = (sk tp tl p : Nat)) := by
  have hh := hvI_in tp (fun i hi => (T.2.2 i hi).2) p
  refine zC_of (L := [(0, _)]) mk_X8_isWord (Nat.le_of_ble_eq_true rfl) hg rfl (fun x => ?_)
  refine z_aload_n 0 dX8_isWord_0 rfl rfl ?_
  refine z_cv (t8_here l hg T C) mk_X8_here mi_X8_here ml_RX8_116 (by omega) (by decide) rfl rfl rfl rfl (Nat.le_of_ble_eq_true rfl) dX8_isWord_1 (fun r_1 d_1 q_1 => ?_)
  obtain ⟨rfl, f1, f2⟩ := q_1
  show zV l x g mX8_isWord 2 _ _ _ [_] _
  refine z_bipush dX8_isWord_4 (by decide) ?_
  refine z_bipush dX8_isWord_6 (by decide) ?_
  refine z_cs (t8_in l hg d_1 (a := hvI tp tl p) (b := 97) (c := 122) (by omega) (by decide) (by decide)) mk_X8_in ms_X8_in ml_RX8_106 (by omega) rfl rfl (Nat.le_of_ble_eq_true rfl) dX8_isWord_8 (zpure ?_)
  exact z_bret rfl dX8_isWord_11 (⟨by rw [show decide (97 ≤ hvI tp tl p ∧ hvI tp tl p ≤ 122) = decide (kd tp tl p = 1) from decide_eq_decide.mpr (hvI_w tp tl p)], f1, f2⟩)
/-- a word as a number -/
def wdN (tp : Nat → Nat) (a : Nat) : Nat → Int
  | 0 => 0
  | k + 1 => if k < 7 then wdN tp a k * 27 + ((tp (a + k) - 97 : Nat) : Int) + 1 else -1
def stI : Option Nat → Int
  | none => -1
  | some s => (s : Int)
theorem wdN_in {tp : Nat → Nat} {a : Nat} : ∀ k, (∀ i, i < k → tp (a + i) ≤ 122) → -1 ≤ wdN tp a k ∧ wdN tp a k < 27 ^ 7 ∧ (k ≤ 7 → wdN tp a k < 27 ^ k ∧ 0 ≤ wdN tp a k)
  | 0, _ => by refine ⟨by simp [wdN], by simp [wdN], fun _ => by simp [wdN]⟩
  | k + 1, h => by
    have ih := wdN_in k (fun i hi => h i (by omega))
    have h2 := h k (by omega)
    rw [wdN]
    by_cases c : k < 7
    · rw [if_pos c]
      obtain ⟨i1, i2, i3⟩ := ih
      obtain ⟨i3, i4⟩ := i3 (by omega)
      have hp : (27 : Int) ^ (k + 1) = 27 ^ k * 27 := Int.pow_succ 27 k
      have hm : (27 : Int) ^ (k + 1) ≤ 27 ^ 7 := by
        have : (27 : Nat) ^ (k + 1) ≤ 27 ^ 7 := Nat.pow_le_pow_right (by decide) (by omega)
        exact_mod_cast this
      refine ⟨by omega, by omega, fun _ => by omega⟩
    · rw [if_neg c]; exact ⟨by omega, by decide, fun z => by omega⟩
