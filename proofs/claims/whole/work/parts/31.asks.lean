/-! the class: its state, and the calls that ask -/
def TPE (d : zD) (tl : Nat) (tp : Nat → Nat) : Prop := d 0 1 = tl ∧ tl ≤ 400 ∧ ∀ i, i < tl → d 1 i = tp i ∧ tp i < 256
/-- the class holds the hall h, the order, a tape, a fault -/
def IC (d : zD) (h : Hl) (ord : Nat → Nat) (tl : Nat) (tp : Nat → Nat) (fl : Int) : Prop := Wf h ∧ HC 2 d h ∧ LK d h ∧ MD d h ∧ OP d h ∧ OR d h ord ∧ Ord (hN h) ord ∧ (∃ b : Bool, d 32 7 = zb b ∧ (b = true → BKn d h)) ∧ TPE d tl tp ∧ (d 0 2 = fl ∧ 0 ≤ fl ∧ fl < 10000)
/-- the reference's cells are as they were -/
def CF (d d' : zD) : Prop := ∀ p, 37 ≤ p → d' p = d p
theorem CF.rf {d : zD} : CF d d := fun _ _ => rfl
theorem CF.tr {a b c : zD} (h1 : CF a b) (h2 : CF b c) : CF a c := fun p hp => (h2 p hp).trans (h1 p hp)
theorem CF.of {ps : List Nat} {a b : zD} (h : zF ps a b) (hp : ∀ p ∈ ps, p < 37) : CF a b := fun p hq => h p (fun z => by have := hp p z; omega)
theorem OP.of {d d' : zD} {h : Hl} (O : OP d h) (e : d' 32 = d 32) (e2 : d' 33 = d 33) : OP d' h := ⟨by rw [e]; exact O.1, fun i f hi => by rw [e2]; exact O.2 i f hi⟩
theorem BKn.of {d d' : zD} {h : Hl} (B : BKn d h) (e : d' 32 = d 32) (e2 : d' 35 = d 35) (e3 : d' 36 = d 36) : BKn d' h := by
  obtain ⟨b, T, c, ⟨t1, t2⟩, t3⟩ := B
  exact ⟨b.of e2, T, c, ⟨by rw [e]; exact t1, fun i a hi => by rw [e3]; exact t2 i a hi⟩, t3⟩
theorem IC.of {d d' : zD} {h : Hl} {ord : Nat → Nat} {tl : Nat} {tp : Nat → Nat} {fl : Int} (I : IC d h ord tl tp fl) {ps : List Nat} (e : zF ps d d') (hp : ∀ p ∈ ps, p = 23 ∨ p = 26 ∨ p = 28 ∨ p = 29 ∨ p = 30 ∨ p = 31 ∨ 36 < p) : IC d' h ord tl tp fl := by
  have q : ∀ p, p ≠ 23 → p ≠ 26 → p ≠ 28 → p ≠ 29 → p ≠ 30 → p ≠ 31 → p ≤ 36 → d' p = d p := fun p h1 h2 h3 h4 h5 h6 h7 => e p (fun z => by have := hp p z; omega)
  obtain ⟨i1, i2, i3, i4, i5, i6, i7, ⟨b, i8, i9⟩, ⟨j1, j2, j3⟩, j4⟩ := I
  refine ⟨i1, i2.of (fun p h1 h2 => q p (by omega) (by omega) (by omega) (by omega) (by omega) (by omega) (by omega)), i3.of (q 25 (by decide) (by decide) (by decide) (by decide) (by decide) (by decide) (by decide)), i4.of (q 27 (by decide) (by decide) (by decide) (by decide) (by decide) (by decide) (by decide)), i5.of (q 32 (by decide) (by decide) (by decide) (by decide) (by decide) (by decide) (by decide)) (q 33 (by decide) (by decide) (by decide) (by decide) (by decide) (by decide) (by decide)), fun i hi => by rw [q 22 (by decide) (by decide) (by decide) (by decide) (by decide) (by decide) (by decide)]; exact i6 i hi, i7, ⟨b, by rw [q 32 (by decide) (by decide) (by decide) (by decide) (by decide) (by decide) (by decide)]; exact i8, fun hb => (i9 hb).of (q 32 (by decide) (by decide) (by decide) (by decide) (by decide) (by decide) (by decide)) (q 35 (by decide) (by decide) (by decide) (by decide) (by decide) (by decide) (by decide)) (q 36 (by decide) (by decide) (by decide) (by decide) (by decide) (by decide) (by decide))⟩, ⟨by rw [q 0 (by decide) (by decide) (by decide) (by decide) (by decide) (by decide) (by decide)]; exact j1, j2, fun i hi => by rw [q 1 (by decide) (by decide) (by decide) (by decide) (by decide) (by decide) (by decide)]; exact j3 i hi⟩, by rw [q 0 (by decide) (by decide) (by decide) (by decide) (by decide) (by decide) (by decide)]; exact j4⟩
/-- what a call that only asks leaves: its answer v, the reference's cells, the class's state -/
def askQ (d : zD) (h : Hl) (ord : Nat → Nat) (tl : Nat) (tp : Nat → Nat) (fl : Int) (v : Int) : Option Value → zD → Prop := fun r d' => r = some (zi v) ∧ CF d d' ∧ IC d' h ord tl tp fl
theorem askQ.rf {d : zD} {h : Hl} {ord : Nat → Nat} {tl : Nat} {tp : Nat → Nat} {fl v u : Int} (I : IC d h ord tl tp fl) (e : u = v) : askQ d h ord tl tp fl v (some (zi u)) d := ⟨by rw [e], CF.rf, I⟩
theorem p512 {V : Nat} (h : V ≤ 9) : 2 ^ V ≤ 512 := Nat.pow_le_pow_right (n := 2) (by decide) h
def tB (h : Hl) (a : Int) : Bool := decide (0 ≤ a ∧ a < ((2 ^ hV h : Nat) : Int))
def mB (h : Hl) (a : Int) : Bool := decide (0 ≤ a ∧ a < (hN h : Int))
def vB (h : Hl) (a : Int) : Bool := decide (0 ≤ a ∧ a < (hV h : Int))
theorem toN {a : Int} (h : 0 ≤ a) : ∃ t : Nat, a = (t : Int) := ⟨a.toNat, by omega⟩
theorem t_fault (l : Launch) {g : zG} (hg : zAmOk g) {d : zD} {h : Hl} {ord : Nat → Nat} {tl : Nat} {tp : Nat → Nat} {fl : Int} (I : IC d h ord tl tp fl) : zC l g mX7_fault 1 [zr g 0] d (askQ d h ord tl tp fl fl) := by
  refine zC_of (L := [(0, _)]) mk_X7_fault (Nat.le_of_ble_eq_true rfl) hg rfl (fun x => ?_)
  refine z_aload_n 0 dX7_fault_0 rfl rfl ?_
  refine z_geti fl_RX7_91 (by decide) rfl rfl dX7_fault_1 ?_
  exact z_iret rfl dX7_fault_4 (askQ.rf I I.2.2.2.2.2.2.2.2.2.1)
def formS (h : Hl) (a : Int) : Int := if 0 ≤ a ∧ a < ((2 ^ hN h : Nat) : Int) then (formF h a.toNat : Nat) else -1
theorem t_form (l : Launch) {g : zG} (hg : zAmOk g) {d : zD} {h : Hl} {ord : Nat → Nat} {tl : Nat} {tp : Nat → Nat} {fl : Int} (I : IC d h ord tl tp fl) {a : Int} (ha : zin a) : zC l g mX7_form 2 [zr g 0, zi a] d (askQ d h ord tl tp fl (formS h a)) := by
  have w := I.1
  have w3 := w.2.2.1
  have h3 : d 2 3 = hN h := I.2.1.1.2.2.2.1
  have hp2 := p64 w3
  refine zC_of (L := [(0, _), (1, _)]) mk_X7_form (Nat.le_of_ble_eq_true rfl) hg rfl (fun x => ?_)
  refine z_iload_n 1 dX7_form_0 rfl rfl ?_
  refine z_aload_n 0 dX7_form_1 rfl rfl ?_
  refine z_getr fl_RX7_16 (by decide) rfl rfl dX7_form_2 ?_
  refine z_geti fl_RX7_116 (by decide) rfl rfl dX7_form_5 ?_
  rw [h3]
  refine z_cs (t_isSubset l hg d ha (by omega)) mk_X7_isSubset ms_X7_isSubset ml_RX7_176 (by omega) rfl rfl (Nat.le_of_ble_eq_true rfl) dX7_form_8 (zpure ?_)
  refine z_if_eq_b 26 dX7_form_11 (by decide) (fun h_11 => ?_) (fun h_11 => ?_)
  · rw [decide_eq_false_iff_not] at h_11
    refine z_iconst dX7_form_26 ?_
    exact z_iret rfl dX7_form_27 (askQ.rf I (by rw [formS, if_neg h_11]))
  · rw [decide_eq_true_eq] at h_11
    refine z_aload_n 0 dX7_form_14 rfl rfl ?_
    refine z_getr fl_RX7_53 (by decide) rfl rfl dX7_form_15 ?_
    refine z_getr fl_RX7_180 (by decide) rfl rfl dX7_form_18 ?_
    refine z_iload_n 1 dX7_form_21 rfl rfl ?_
    refine z_iald a.toNat (by decide) rfl (by omega) (by omega) (by decide) dX7_form_22 ?_
    refine z_goto 27 dX7_form_23 (by decide) ?_
    exact z_iret rfl dX7_form_27 (askQ.rf I (by rw [formS, if_pos h_11]; exact I.2.2.2.1 _ (by omega)))
def resS (h : Hl) (ord : Nat → Nat) (a : Int) : Int := if tB h a = true then (finF h a.toNat (ordL h ord) 0 : Nat) else -1
theorem t_result (l : Launch) {g : zG} (hg : zAmOk g) {d : zD} {h : Hl} {ord : Nat → Nat} {tl : Nat} {tp : Nat → Nat} {fl : Int} (I : IC d h ord tl tp fl) {a : Int} (ha : zin a) : zC l g mX7_result 6 [zr g 0, zi a] d (askQ d h ord tl tp fl (resS h ord a)) := by
  obtain ⟨w, H, K, D, O, R, ho, i8⟩ := id I
  have hp9 := p512 w.2.2.2.1
  refine zC_of (L := [(0, _), (1, _)]) mk_X7_result (Nat.le_of_ble_eq_true rfl) hg rfl (fun x => ?_)
  refine z_aload_n 0 dX7_result_0 rfl rfl ?_
  refine z_iload_n 1 dX7_result_1 rfl rfl ?_
  refine z_cv (t_areVoters l hg w H ha) mk_X7_areVoters mi_X7_areVoters ml_RX7_183 (by omega) (by decide) rfl rfl rfl rfl (Nat.le_of_ble_eq_true rfl) dX7_result_2 (zpure ?_)
  refine z_if_eq_b 20 dX7_result_5 (by decide) (fun h_5 => ?_) (fun h_5 => ?_)
  · refine z_iconst dX7_result_20 ?_
    exact z_iret rfl dX7_result_21 (askQ.rf I (by rw [resS, if_neg (show ¬ tB h a = true by unfold tB; rw [h_5]; decide)]))
  · have h5 : 0 ≤ a ∧ a < ((2 ^ hV h : Nat) : Int) := of_decide_eq_true h_5
    obtain ⟨t, rfl⟩ := toN h5.1
    refine z_aload_n 0 dX7_result_8 rfl rfl ?_
    refine z_getr fl_RX7_53 (by decide) rfl rfl dX7_result_9 ?_
    refine z_iload_n 1 dX7_result_12 rfl rfl ?_
    refine z_iconst dX7_result_13 ?_
    refine z_cv (t_outcome l hg w H K D (t := t) (gone := 0) R ho (by omega) (by omega)) mk_X6_outcome mi_X6_outcome ml_RX7_186 (by omega) (by decide) rfl rfl rfl rfl (Nat.le_of_ble_eq_true rfl) dX7_result_14 (fun r_14 d_14 q_14 => ?_)
    obtain ⟨rfl, f1, f2, E⟩ := q_14
    show zV l x g mX7_result 6 _ _ _ [_] _
    refine z_goto 21 dX7_result_17 (by decide) ?_
    exact z_iret rfl dX7_result_21 (⟨by rw [resS, if_pos (show tB h (t : Int) = true from h_5), Int.toNat_natCast]; rfl, CF.of f1 (by decide), I.of f1 (by decide)⟩)
def adoS (h : Hl) (ord : Nat → Nat) (a : Int) : Int := if tB h a = true then (wayS h a.toNat (ordL h ord) (hN h) : Nat) else -1
theorem t_adopted (l : Launch) {g : zG} (hg : zAmOk g) {d : zD} {h : Hl} {ord : Nat → Nat} {tl : Nat} {tp : Nat → Nat} {fl : Int} (I : IC d h ord tl tp fl) {a : Int} (ha : zin a) : zC l g mX7_adopted 7 [zr g 0, zi a] d (askQ d h ord tl tp fl (adoS h ord a)) := by
  obtain ⟨w, H, K, D, O, R, ho, i8⟩ := id I
  have hp9 := p512 w.2.2.2.1
  refine zC_of (L := [(0, _), (1, _)]) mk_X7_adopted (Nat.le_of_ble_eq_true rfl) hg rfl (fun x => ?_)
  refine z_aload_n 0 dX7_adopted_0 rfl rfl ?_
  refine z_iload_n 1 dX7_adopted_1 rfl rfl ?_
  refine z_cv (t_areVoters l hg w H ha) mk_X7_areVoters mi_X7_areVoters ml_RX7_183 (by omega) (by decide) rfl rfl rfl rfl (Nat.le_of_ble_eq_true rfl) dX7_adopted_2 (zpure ?_)
  refine z_if_ne_b 10 dX7_adopted_5 (by decide) (fun h_5 => ?_) (fun h_5 => ?_)
  · have h5 : 0 ≤ a ∧ a < ((2 ^ hV h : Nat) : Int) := of_decide_eq_true h_5
    obtain ⟨t, rfl⟩ := toN h5.1
    refine z_aload_n 0 dX7_adopted_10 rfl rfl ?_
    refine z_getr fl_RX7_53 (by decide) rfl rfl dX7_adopted_11 ?_
    refine z_iload_n 1 dX7_adopted_14 rfl rfl ?_
    refine z_cv (t_walk l hg w H K D (t := t) R ho (by omega)) mk_X6_walk mi_X6_walk ml_RX7_189 (by omega) (by decide) rfl rfl rfl rfl (Nat.le_of_ble_eq_true rfl) dX7_adopted_15 (zvoid fun d_15 q_15 => ?_)
    refine z_aload_n 0 dX7_adopted_18 rfl rfl ?_
    refine z_getr fl_RX7_53 (by decide) rfl rfl dX7_adopted_19 ?_
    refine z_geti fl_RX7_192 (by decide) rfl rfl dX7_adopted_22 ?_
    exact z_iret rfl dX7_adopted_25 (⟨by rw [adoS, if_pos (show tB h (t : Int) = true from h_5), Int.toNat_natCast, q_15.2.1], CF.of q_15.1 (by decide), I.of q_15.1 (by decide)⟩)
  · refine z_iconst dX7_adopted_8 ?_
    exact z_iret rfl dX7_adopted_9 (askQ.rf I (by rw [adoS, if_neg (show ¬ tB h a = true by unfold tB; rw [h_5]; decide)]))
/-- how many vote yes on the k-th of the votes -/
def yesW (h : Hl) (ord : Nat → Nat) (t k : Nat) : Nat := if k < hN h then yesAt h t (ordL h ord) k (wayS h t (ordL h ord) k) else prefF h (formF h (wayS h t (ordL h ord) (hN h))) 0
def yesS (h : Hl) (ord : Nat → Nat) (a b : Int) : Int := if tB h a = true ∧ 0 ≤ b ∧ b ≤ (hN h : Int) then (yesW h ord a.toNat b.toNat : Nat) else -1
theorem yesW_of {d' : zD} {h : Hl} {ord : Nat → Nat} {t k : Nat} (hk : k ≤ hN h) (h1 : ∀ i, i < hN h → d' 30 i = yesAt h t (ordL h ord) i (wayS h t (ordL h ord) i)) (h2 : d' 30 (hN h) = prefF h (formF h (wayS h t (ordL h ord) (hN h))) 0) : d' 30 k = yesW h ord t k := by
  unfold yesW
  split
  · rename_i e; exact h1 k e
  · rename_i e; rw [show k = hN h by omega]; exact h2
theorem t_yes (l : Launch) {g : zG} (hg : zAmOk g) {d : zD} {h : Hl} {ord : Nat → Nat} {tl : Nat} {tp : Nat → Nat} {fl : Int} (I : IC d h ord tl tp fl) {a b : Int} (ha : zin a) (hb : zin b) : zC l g mX7_yes 7 [zr g 0, zi a, zi b] d (askQ d h ord tl tp fl (yesS h ord a b)) := by
  obtain ⟨w, H, K, D, O, R, ho, i8⟩ := id I
  have hp9 := p512 w.2.2.2.1
  have w3 := w.2.2.1
  have h3 : d 2 3 = hN h := H.1.2.2.2.1
  refine zC_of (L := [(0, _), (1, _), (2, _)]) mk_X7_yes (Nat.le_of_ble_eq_true rfl) hg rfl (fun x => ?_)
  refine z_aload_n 0 dX7_yes_0 rfl rfl ?_
  refine z_iload_n 1 dX7_yes_1 rfl rfl ?_
  refine z_cv (t_areVoters l hg w H ha) mk_X7_areVoters mi_X7_areVoters ml_RX7_183 (by omega) (by decide) rfl rfl rfl rfl (Nat.le_of_ble_eq_true rfl) dX7_yes_2 (zpure ?_)
  refine z_if_eq_b 23 dX7_yes_5 (by decide) (fun h_5 => ?_) (fun h_5 => ?_)
  · refine z_iconst dX7_yes_23 ?_
    exact z_iret rfl dX7_yes_24 (askQ.rf I (by rw [yesS, if_neg (fun c => by obtain ⟨c1, c2, c3⟩ := c; first | omega | (unfold tB at c1; rw [h_5] at c1; cases c1))]))
  · refine z_iload_n 2 dX7_yes_8 rfl rfl ?_
    refine z_if_lt 23 (by omega) dX7_yes_9 (by decide) (fun h_9 => ?_) (fun h_9 => ?_)
    · refine z_iconst dX7_yes_23 ?_
      exact z_iret rfl dX7_yes_24 (askQ.rf I (by rw [yesS, if_neg (fun c => by obtain ⟨c1, c2, c3⟩ := c; first | omega | (unfold tB at c1; rw [h_5] at c1; cases c1))]))
    · refine z_iload_n 2 dX7_yes_12 rfl rfl ?_
      refine z_aload_n 0 dX7_yes_13 rfl rfl ?_
      refine z_getr fl_RX7_16 (by decide) rfl rfl dX7_yes_14 ?_
      refine z_geti fl_RX7_116 (by decide) rfl rfl dX7_yes_17 ?_
      rw [h3]
      refine z_icmp_le 25 (by omega) (by omega) dX7_yes_20 (by decide) (fun h_20 => ?_) (fun h_20 => ?_)
      · have h5 : 0 ≤ a ∧ a < ((2 ^ hV h : Nat) : Int) := of_decide_eq_true h_5
        obtain ⟨t, rfl⟩ := toN h5.1
        obtain ⟨k, rfl⟩ := toN h_9
        refine z_aload_n 0 dX7_yes_25 rfl rfl ?_
        refine z_getr fl_RX7_53 (by decide) rfl rfl dX7_yes_26 ?_
        refine z_iload_n 1 dX7_yes_29 rfl rfl ?_
        refine z_cv (t_walk l hg w H K D (t := t) R ho (by omega)) mk_X6_walk mi_X6_walk ml_RX7_189 (by omega) (by decide) rfl rfl rfl rfl (Nat.le_of_ble_eq_true rfl) dX7_yes_30 (zvoid fun d_30 q_30 => ?_)
        refine z_aload_n 0 dX7_yes_33 rfl rfl ?_
        refine z_getr fl_RX7_53 (by decide) rfl rfl dX7_yes_34 ?_
        refine z_getr fl_RX7_195 (by decide) rfl rfl dX7_yes_37 ?_
        refine z_iload_n 2 dX7_yes_40 rfl rfl ?_
        refine z_iald _ (by decide) rfl rfl (by omega) (by decide) dX7_yes_41 ?_
        exact z_iret rfl dX7_yes_42 (⟨by rw [yesS, if_pos ⟨show tB h (t : Int) = true from h_5, by omega, by omega⟩, Int.toNat_natCast, Int.toNat_natCast, yesW_of (by omega) q_30.2.2.1 q_30.2.2.2.1], CF.of q_30.1 (by decide), I.of q_30.1 (by decide)⟩)
      · refine z_iconst dX7_yes_23 ?_
        exact z_iret rfl dX7_yes_24 (askQ.rf I (by rw [yesS, if_neg (fun c => by obtain ⟨c1, c2, c3⟩ := c; first | omega | (unfold tB at c1; rw [h_5] at c1; cases c1))]))
def minS (h : Hl) (ord : Nat → Nat) (a b : Int) : Int := if tB h a = true ∧ -1 ≤ b ∧ b < 7 * ((hN h : Int) + 1) then (if b = -1 then 7 * ((hN h : Int) + 1) else minF h ord (b.toNat / 7) (yesW h ord a.toNat (b.toNat / 7)) (b.toNat % 7)) else -1
theorem yesW_le {h : Hl} (w : Wf h) (ord : Nat → Nat) (t k : Nat) : yesW h ord t k ≤ 9 := by
  unfold yesW
  split
  · exact yesF_le w _ _ _ _ _
  · exact prefF_le w _ _
theorem t_minutes (l : Launch) {g : zG} (hg : zAmOk g) {d : zD} {h : Hl} {ord : Nat → Nat} {tl : Nat} {tp : Nat → Nat} {fl : Int} (I : IC d h ord tl tp fl) {a b : Int} (ha : zin a) (hb : zin b) : zC l g mX7_minutes 7 [zr g 0, zi a, zi b] d (askQ d h ord tl tp fl (minS h ord a b)) := by
  obtain ⟨w, H, K, D, O, R, ho, i8⟩ := id I
  have hp9 := p512 w.2.2.2.1
  have w3 := w.2.2.1
  have h3 : d 2 3 = hN h := H.1.2.2.2.1
  refine zC_of (L := [(0, _), (1, _), (2, _)]) mk_X7_minutes (Nat.le_of_ble_eq_true rfl) hg rfl (fun x => ?_)
  refine z_aload_n 0 dX7_minutes_0 rfl rfl ?_
  refine z_getr fl_RX7_16 (by decide) rfl rfl dX7_minutes_1 ?_
  refine z_geti fl_RX7_116 (by decide) rfl rfl dX7_minutes_4 ?_
  rw [h3]
  refine z_iconst dX7_minutes_7 ?_
  refine z_iadd dX7_minutes_8 ?_
  refine z_bipush dX7_minutes_9 (by decide) ?_
  refine z_imul dX7_minutes_11 ?_
  refine z_istore_n (L' := [(0, _), (1, _), (2, _), (3, _)]) dX7_minutes_12 rfl (by decide) rfl rfl ?_
  refine z_aload_n 0 dX7_minutes_13 rfl rfl ?_
  refine z_iload_n 1 dX7_minutes_14 rfl rfl ?_
  refine z_cv (t_areVoters l hg w H ha) mk_X7_areVoters mi_X7_areVoters ml_RX7_183 (by omega) (by decide) rfl rfl rfl rfl (Nat.le_of_ble_eq_true rfl) dX7_minutes_15 (zpure ?_)
  refine z_if_eq_b 31 dX7_minutes_18 (by decide) (fun h_18 => ?_) (fun h_18 => ?_)
  · refine z_iconst dX7_minutes_31 ?_
    exact z_iret rfl dX7_minutes_32 (askQ.rf I (by rw [minS, if_neg (fun c => by obtain ⟨c1, c2, c3⟩ := c; first | omega | (unfold tB at c1; rw [h_18] at c1; cases c1))]))
  · refine z_iload_n 2 dX7_minutes_21 rfl rfl ?_
    refine z_iconst dX7_minutes_22 ?_
    refine z_icmp_lt 31 (by omega) (by omega) dX7_minutes_23 (by decide) (fun h_23 => ?_) (fun h_23 => ?_)
    · refine z_iconst dX7_minutes_31 ?_
      exact z_iret rfl dX7_minutes_32 (askQ.rf I (by rw [minS, if_neg (fun c => by obtain ⟨c1, c2, c3⟩ := c; first | omega | (unfold tB at c1; rw [h_18] at c1; cases c1))]))
    · refine z_iload_n 2 dX7_minutes_26 rfl rfl ?_
      refine z_iload_n 3 dX7_minutes_27 rfl rfl ?_
      refine z_icmp_lt 33 (by omega) (by omega) dX7_minutes_28 (by decide) (fun h_28 => ?_) (fun h_28 => ?_)
      · refine z_iload_n 2 dX7_minutes_33 rfl rfl ?_
        refine z_iconst dX7_minutes_34 ?_
        refine z_icmp_ne 40 (by omega) (by omega) dX7_minutes_35 (by decide) (fun h_35 => ?_) (fun h_35 => ?_)
        · have h5 : 0 ≤ a ∧ a < ((2 ^ hV h : Nat) : Int) := of_decide_eq_true h_18
          obtain ⟨t, rfl⟩ := toN h5.1
          obtain ⟨k, rfl⟩ := toN (show 0 ≤ b by omega)
          refine z_aload_n 0 dX7_minutes_40 rfl rfl ?_
          refine z_getr fl_RX7_53 (by decide) rfl rfl dX7_minutes_41 ?_
          refine z_iload_n 1 dX7_minutes_44 rfl rfl ?_
          refine z_cv (t_walk l hg w H K D (t := t) R ho (by omega)) mk_X6_walk mi_X6_walk ml_RX7_189 (by omega) (by decide) rfl rfl rfl rfl (Nat.le_of_ble_eq_true rfl) dX7_minutes_45 (zvoid fun d_45 q_45 => ?_)
          have H1 : HC 2 d_45 h := q_45.1.HC (by decide) H
          refine z_aload_n 0 dX7_minutes_48 rfl rfl ?_
          refine z_getr fl_RX7_53 (by decide) rfl rfl dX7_minutes_49 ?_
          refine z_iload_n 2 dX7_minutes_52 rfl rfl ?_
          refine z_bipush dX7_minutes_53 (by decide) ?_
          refine z_idiv ((k / 7 : Nat) : Int) (by decide) (zdiv (a := k) (b := 7) (by omega) (by decide) (by decide)) dX7_minutes_55 ?_
          refine z_iload_n 2 dX7_minutes_56 rfl rfl ?_
          refine z_bipush dX7_minutes_57 (by decide) ?_
          refine z_irem ((k % 7 : Nat) : Int) (by decide) (zrem (a := k) (b := 7) (by omega) (by decide) (by decide)) dX7_minutes_59 ?_
          refine z_cv (t_minuteByte l hg w H1 (ord := ord) (p := k / 7) (y := yesW h ord t (k / 7)) (c := k % 7) (by omega) (yesW_of (by omega) q_45.2.2.1 q_45.2.2.2.1) (yesW_le w _ _ _) (by omega) (fun hk => q_45.2.2.2.2 _ hk)) mk_X6_minuteByte mi_X6_minuteByte ml_RX7_198 (by omega) (by decide) rfl rfl rfl rfl (Nat.le_of_ble_eq_true rfl) dX7_minutes_60 (zpure ?_)
          exact z_iret rfl dX7_minutes_63 (⟨by rw [minS, if_pos ⟨show tB h (t : Int) = true from h_18, by omega, by omega⟩, if_neg (by omega), Int.toNat_natCast, Int.toNat_natCast], CF.of q_45.1 (by decide), I.of q_45.1 (by decide)⟩)
        · refine z_iload_n 3 dX7_minutes_38 rfl rfl ?_
          exact z_iret rfl dX7_minutes_39 (askQ.rf I (by rw [minS, if_pos ⟨show tB h a = true from h_18, by omega, by omega⟩, if_pos h_35]; omega))
      · refine z_iconst dX7_minutes_31 ?_
        exact z_iret rfl dX7_minutes_32 (askQ.rf I (by rw [minS, if_neg (fun c => by obtain ⟨c1, c2, c3⟩ := c; first | omega | (unfold tB at c1; rw [h_18] at c1; cases c1))]))
def wioS (h : Hl) (ord : Nat → Nat) (m a : Int) : Int := if mB h m = true ∧ tB h a = true then (finF h a.toNat (flL ord (goneF h m.toNat) (hN h)) 0 : Nat) else -1
theorem goneF_lt {h : Hl} (w : Wf h) {m : Nat} (hm : m < hN h) : goneF h m < 64 := Nat.lt_of_lt_of_le (goneN_lt _ hm (Nat.le_refl _)) (p64 w.2.2.1)
theorem t_without (l : Launch) {g : zG} (hg : zAmOk g) {d : zD} {h : Hl} {ord : Nat → Nat} {tl : Nat} {tp : Nat → Nat} {fl : Int} (I : IC d h ord tl tp fl) {m a : Int} (hm : zin m) (ha : zin a) : zC l g mX7_without 6 [zr g 0, zi m, zi a] d (askQ d h ord tl tp fl (wioS h ord m a)) := by
  obtain ⟨w, H, K, D, O, R, ho, i8⟩ := id I
  have hp9 := p512 w.2.2.2.1
  have w3 := w.2.2.1
  have h3 : d 2 3 = hN h := H.1.2.2.2.1
  refine zC_of (L := [(0, _), (1, _), (2, _)]) mk_X7_without (Nat.le_of_ble_eq_true rfl) hg rfl (fun x => ?_)
  refine z_aload_n 0 dX7_without_0 rfl rfl ?_
  refine z_getr fl_RX7_16 (by decide) rfl rfl dX7_without_1 ?_
  refine z_iload_n 1 dX7_without_4 rfl rfl ?_
  refine z_cv (t_hasMotion_2 l hg d hm (by omega)) mk_X2_hasMotion mi_X2_hasMotion ml_RX7_138 (by omega) (by decide) rfl rfl rfl rfl (Nat.le_of_ble_eq_true rfl) dX7_without_5 (zpure ?_)
  refine z_if_eq_b 19 dX7_without_8 (by decide) (fun h_8 => ?_) (fun h_8 => ?_)
  · rw [h3] at h_8
    refine z_iconst dX7_without_19 ?_
    exact z_iret rfl dX7_without_20 (askQ.rf I (by rw [wioS, if_neg (fun c => by have c2 := c.1; unfold mB at c2; rw [h_8] at c2; cases c2)]))
  · rw [h3] at h_8
    refine z_aload_n 0 dX7_without_11 rfl rfl ?_
    refine z_iload_n 2 dX7_without_12 rfl rfl ?_
    refine z_cv (t_areVoters l hg w H ha) mk_X7_areVoters mi_X7_areVoters ml_RX7_183 (by omega) (by decide) rfl rfl rfl rfl (Nat.le_of_ble_eq_true rfl) dX7_without_13 (zpure ?_)
    refine z_if_ne_b 21 dX7_without_16 (by decide) (fun h_16 => ?_) (fun h_16 => ?_)
    · have h5 : 0 ≤ a ∧ a < ((2 ^ hV h : Nat) : Int) := of_decide_eq_true h_16
      have h6 : 0 ≤ m ∧ m < (hN h : Int) := of_decide_eq_true h_8
      obtain ⟨t, rfl⟩ := toN h5.1
      obtain ⟨k, rfl⟩ := toN h6.1
      refine z_aload_n 0 dX7_without_21 rfl rfl ?_
      refine z_getr fl_RX7_53 (by decide) rfl rfl dX7_without_22 ?_
      refine z_iload_n 2 dX7_without_25 rfl rfl ?_
      refine z_aload_n 0 dX7_without_26 rfl rfl ?_
      refine z_getr fl_RX7_16 (by decide) rfl rfl dX7_without_27 ?_
      refine z_iload_n 1 dX7_without_30 rfl rfl ?_
      refine z_cv (t_goneWith l hg w H (m := k) (by omega)) mk_X2_goneWith mi_X2_goneWith ml_RX7_201 (by omega) (by decide) rfl rfl rfl rfl (Nat.le_of_ble_eq_true rfl) dX7_without_31 (zpure ?_)
      refine z_cv (t_outcome l hg w H K D (t := t) (gone := goneF h k) R ho (by omega) (goneF_lt w (by omega))) mk_X6_outcome mi_X6_outcome ml_RX7_186 (by omega) (by decide) rfl rfl rfl rfl (Nat.le_of_ble_eq_true rfl) dX7_without_34 (fun r_34 d_34 q_34 => ?_)
      obtain ⟨rfl, f1, f2, E⟩ := q_34
      show zV l x g mX7_without 6 _ _ _ [_] _
      exact z_iret rfl dX7_without_37 (⟨by rw [wioS, if_pos ⟨show mB h (k : Int) = true from h_8, show tB h (t : Int) = true from h_16⟩, Int.toNat_natCast, Int.toNat_natCast], CF.of f1 (by decide), I.of f1 (by decide)⟩)
    · refine z_iconst dX7_without_19 ?_
      exact z_iret rfl dX7_without_20 (askQ.rf I (by rw [wioS, if_neg (fun c => by have c2 := c.2; unfold tB at c2; rw [h_16] at c2; cases c2)]))
def klN (h : Hl) (ord : Nat → Nat) (t : Nat) : Nat → Nat
  | 0 => 0
  | k + 1 => if finF h t (flL ord (goneF h k) (hN h)) 0 ≠ 0 then klN h ord t k ||| 2 ^ k else klN h ord t k
def kilS (h : Hl) (ord : Nat → Nat) (a : Int) : Int := if tB h a = true then (if finF h a.toNat (ordL h ord) 0 = 0 then (klN h ord a.toNat (hN h) : Nat) else 0) else -1
theorem lp_killers {l : Launch} {x : zX} {g : zG} {n : Nat} {Q : Option Value → zD → Prop} {d0 : zD} {h : Hl} {ord : Nat → Nat} {tl : Nat} {tp : Nat → Nat} {fl : Int} {t : Nat} (hg : zAmOk g) (I0 : IC d0 h ord tl tp fl) (ht : t < 512) (hn : 5 < n) (hQ : ∀ d, CF d0 d → IC d h ord tl tp fl → Q (some (zi (klN h ord t (hN h) : Nat))) d) : ∀ r k d, CF d0 d → IC d h ord tl tp fl → k ≤ hN h → hN h - k < r → zV l x g mX7_killers n Q 26 [(0, zr g 0), (1, zi (t : Int)), (2, zi (klN h ord t k : Nat)), (3, zi (k : Int))] [] d := by
  intro r
  induction r with
  | zero => intro k d hf I hk hr; omega
  | succ r ih =>
    intro k d hf I hk hr
    obtain ⟨w, H, K, D, O, R, ho, i8⟩ := id I
    have w3 := w.2.2.1
    have h3 : d 2 3 = hN h := H.1.2.2.2.1
    refine z_iload_n 3 dX7_killers_26 rfl rfl ?_
    refine z_aload_n 0 dX7_killers_27 rfl rfl ?_
    refine z_getr fl_RX7_16 (by decide) rfl rfl dX7_killers_28 ?_
    refine z_geti fl_RX7_116 (by decide) rfl rfl dX7_killers_31 ?_
    rw [h3]
    refine z_icmp_ge 68 (by omega) (by omega) dX7_killers_34 (by decide) (fun h_34 => ?_) (fun h_34 => ?_)
    · rw [show k = hN h by omega]
      refine z_iload_n 2 dX7_killers_68 rfl rfl ?_
      exact z_iret rfl dX7_killers_69 (hQ d hf I)
    · have hb := bit_le (show k < hN h by omega) w3
      have hfl := finF_lt w t (flL ord (goneF h k) (hN h)) 0
      refine z_aload_n 0 dX7_killers_37 rfl rfl ?_
      refine z_getr fl_RX7_53 (by decide) rfl rfl dX7_killers_38 ?_
      refine z_iload_n 1 dX7_killers_41 rfl rfl ?_
      refine z_aload_n 0 dX7_killers_42 rfl rfl ?_
      refine z_getr fl_RX7_16 (by decide) rfl rfl dX7_killers_43 ?_
      refine z_iload_n 3 dX7_killers_46 rfl rfl ?_
      refine z_cv (t_goneWith l hg w H (m := k) (by omega)) mk_X2_goneWith mi_X2_goneWith ml_RX7_201 (by omega) (by decide) rfl rfl rfl rfl (Nat.le_of_ble_eq_true rfl) dX7_killers_47 (zpure ?_)
      refine z_cv (t_outcome l hg w H K D (t := t) (gone := goneF h k) R ho (by omega) (goneF_lt w (by omega))) mk_X6_outcome mi_X6_outcome ml_RX7_186 (by omega) (by decide) rfl rfl rfl rfl (Nat.le_of_ble_eq_true rfl) dX7_killers_50 (fun r_50 d_50 q_50 => ?_)
      obtain ⟨rfl, f1, f2, E⟩ := q_50
      show zV l x g mX7_killers n Q _ _ [_] _
      refine z_if_eq 62 (by omega) dX7_killers_53 (by decide) (fun h_53 => ?_) (fun h_53 => ?_)
      · refine z_iinc 3 (L' := [(0, _), (1, _), (2, _), (3, _)]) dX7_killers_62 (by decide) rfl rfl rfl ?_
        refine z_goto 26 dX7_killers_65 (by decide) ?_
        refine z_LL _ ?_ (ih (k + 1) d_50 (hf.tr (CF.of f1 (by decide))) (I.of f1 (by decide)) (by omega) (by omega))
        rw [klN]
        first | (rw [if_neg (by omega)]; rfl) | (rw [if_pos (by omega)]; rfl)
      · refine z_iload_n 2 dX7_killers_56 rfl rfl ?_
        refine z_iconst dX7_killers_57 ?_
        refine z_iload_n 3 dX7_killers_58 rfl rfl ?_
        refine z_ishl _ (zshl (s := 1) (m := k) (by omega) (by omega)) dX7_killers_59 ?_
        rw [Nat.one_mul]
        refine z_ior _ (zor _ _) dX7_killers_60 ?_
        refine z_istore_n (L' := [(0, _), (1, _), (2, _), (3, _)]) dX7_killers_61 rfl (by decide) rfl rfl ?_
        refine z_iinc 3 (L' := [(0, _), (1, _), (2, _), (3, _)]) dX7_killers_62 (by decide) rfl rfl rfl ?_
        refine z_goto 26 dX7_killers_65 (by decide) ?_
        refine z_LL _ ?_ (ih (k + 1) d_50 (hf.tr (CF.of f1 (by decide))) (I.of f1 (by decide)) (by omega) (by omega))
        rw [klN]
        first | (rw [if_neg (by omega)]; rfl) | (rw [if_pos (by omega)]; rfl)
theorem t_killers (l : Launch) {g : zG} (hg : zAmOk g) {d : zD} {h : Hl} {ord : Nat → Nat} {tl : Nat} {tp : Nat → Nat} {fl : Int} (I : IC d h ord tl tp fl) {a : Int} (ha : zin a) : zC l g mX7_killers 6 [zr g 0, zi a] d (askQ d h ord tl tp fl (kilS h ord a)) := by
  obtain ⟨w, H, K, D, O, R, ho, i8⟩ := id I
  have hp9 := p512 w.2.2.2.1
  refine zC_of (L := [(0, _), (1, _)]) mk_X7_killers (Nat.le_of_ble_eq_true rfl) hg rfl (fun x => ?_)
  refine z_aload_n 0 dX7_killers_0 rfl rfl ?_
  refine z_iload_n 1 dX7_killers_1 rfl rfl ?_
  refine z_cv (t_areVoters l hg w H ha) mk_X7_areVoters mi_X7_areVoters ml_RX7_183 (by omega) (by decide) rfl rfl rfl rfl (Nat.le_of_ble_eq_true rfl) dX7_killers_2 (zpure ?_)
  refine z_if_ne_b 10 dX7_killers_5 (by decide) (fun h_5 => ?_) (fun h_5 => ?_)
  · have h5 : 0 ≤ a ∧ a < ((2 ^ hV h : Nat) : Int) := of_decide_eq_true h_5
    obtain ⟨t, rfl⟩ := toN h5.1
    have hfl := finF_lt w t (ordL h ord) 0
    refine z_iconst dX7_killers_10 ?_
    refine z_istore_n (L' := [(0, _), (1, _), (2, _)]) dX7_killers_11 rfl (by decide) rfl rfl ?_
    refine z_aload_n 0 dX7_killers_12 rfl rfl ?_
    refine z_getr fl_RX7_53 (by decide) rfl rfl dX7_killers_13 ?_
    refine z_iload_n 1 dX7_killers_16 rfl rfl ?_
    refine z_iconst dX7_killers_17 ?_
    refine z_cv (t_outcome l hg w H K D (t := t) (gone := 0) R ho (by omega) (by omega)) mk_X6_outcome mi_X6_outcome ml_RX7_186 (by omega) (by decide) rfl rfl rfl rfl (Nat.le_of_ble_eq_true rfl) dX7_killers_18 (fun r_18 d_18 q_18 => ?_)
    obtain ⟨rfl, f1, f2, E⟩ := q_18
    show zV l x g mX7_killers 6 _ _ _ (zi ((finF h t (ordL h ord) 0 : Nat) : Int) :: []) _
    refine z_if_ne 68 (by omega) dX7_killers_21 (by decide) (fun h_21 => ?_) (fun h_21 => ?_)
    · refine z_iload_n 2 dX7_killers_68 rfl rfl ?_
      exact z_iret rfl dX7_killers_69 (⟨by rw [kilS, if_pos (show tB h (t : Int) = true from h_5), Int.toNat_natCast, if_neg (by omega)], CF.of f1 (by decide), I.of f1 (by decide)⟩)
    · refine z_iconst dX7_killers_24 ?_
      refine z_istore_n (L' := [(0, _), (1, _), (2, _), (3, _)]) dX7_killers_25 rfl (by decide) rfl rfl ?_
      exact lp_killers (d0 := d) hg I (by omega) (by omega) (fun d' g1 g2 => ⟨by rw [kilS, if_pos (show tB h (t : Int) = true from h_5), Int.toNat_natCast, if_pos (by omega)], g1, g2⟩) (hN h + 1) 0 d_18 (CF.of f1 (by decide)) (I.of f1 (by decide)) (by omega) (by omega)
  · refine z_iconst dX7_killers_8 ?_
    exact z_iret rfl dX7_killers_9 (askQ.rf I (by rw [kilS, if_neg (show ¬ tB h a = true by unfold tB; rw [h_5]; decide)]))
