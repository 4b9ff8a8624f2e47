/-! feed; assignments: value, model, alike: the specification and the reference's -/
/-- byte k of v, from the lowest on, with its sign -/
def sp_by (v : Int64) (k : Nat) : Int32 := (v >>> ((nI (8 * k)).toInt64 &&& 63)).toInt32.toInt8.toInt32
/-- the m lowest bytes, the highest first, behind the text -/
def sp_fb (v : Int64) : Nat → sp_X → sp_X
  | 0, x => x
  | m + 1, x => sp_fb v m (upd x.1 x.2 (sp_by v m), x.2 + 1)
theorem sp_fb_n (v : Int64) : ∀ (m : Nat) (x : sp_X), (sp_fb v m x).2 = x.2 + m := by
  intro m
  induction m with
  | zero => intro x; rfl
  | succ m ih => intro x; unfold sp_fb; rw [ih]; show x.2 + 1 + m = x.2 + (m + 1); omega
def sp_feed (w : sp_W) (v : Int64) (n : Int32) : Int32 × sp_W := if n < 0 ∨ 8 < n then (-2, w) else if n = 0 then (0, (w.1, w.2.1, (w.2.2.1.1, 0), w.2.2.2)) else if 3000 < w.2.2.1.2 + n.toNatClampNeg then (-4, w) else (nI (w.2.2.1.2 + n.toNatClampNeg), (w.1, w.2.1, sp_fb v n.toNatClampNeg w.2.2.1, w.2.2.2))
def sp_bx (c : sp_C) (n : Nat) (f : Nat → Bool) (v : Nat) : Bool := if cK c v = 1 then n.testBit (cA c v) else if cK c v = 2 then f (cA c v) && f (cB c v) else !(xor (f (cA c v)) (f (cB c v)))
/-- the literals' values by an assignment, of the first m variables -/
def sp_as (c : sp_C) (n : Nat) : Nat → Nat → Bool
  | 0 => fun _ => false
  | m + 1 => if m = 0 then (fun l => l == 0) else fun l => if l = 2 * m then sp_bx c n (sp_as c n m) m else if l = 2 * m + 1 then !sp_bx c n (sp_as c n m) m else sp_as c n m l
def sp_vl (c : sp_C) (n l : Nat) : Bool := sp_as c n (cN c) l
def sp_value (w : sp_W) (x n : Int32) : Int32 := match sp_lit (cN w.1) x with
  | some l => if n < 0 ∨ 2 ^ cI w.1 ≤ n.toNatClampNeg then -2 else sp_zb (sp_vl w.1 n.toNatClampNeg l)
  | none => -1
def sp_model (w : sp_W) (x : Int32) : Int32 := match sp_lit (cN w.1) x with
  | some l => if 14 < cI w.1 then -4 else match sp_fd (fun n => !sp_vl w.1 n l) 0 (2 ^ cI w.1) with
    | some r => nI r
    | none => -7
  | none => -1
def sp_alike (w : sp_W) (x y : Int32) : Int32 := match sp_lit (cN w.1) x, sp_lit (cN w.1) y with
  | some p, some q => if 14 < cI w.1 then -4 else match sp_fd (fun n => sp_vl w.1 n p != sp_vl w.1 n q) 0 (2 ^ cI w.1) with
    | some _ => 0
    | none => 1
  | _, _ => -1
theorem sh_k : ∀ k, k < 32 → ((nI k &&& 31).toBitVec.smod 32).toNat = k := by decide
theorem sh_1 {k : Nat} (h : k < 31) : (1 : Int32) <<< (nI k &&& 31) = nI (2 ^ k) := by
  have h2 : 2 ^ k ≤ 2 ^ 30 := Nat.pow_le_pow_right (by decide) (by omega)
  have := pk_shlN (n := 1) (nI k &&& 31) k (sh_k k (by omega)) (by omega)
  rw [Nat.one_mul] at this
  exact this
theorem sh_b {n k : Nat} (hn : n < 2 ^ 31) (hk : k < 32) : nI n >>> (nI k &&& 31) &&& 1 = sp_zb (n.testBit k) := by
  have h2 : n / 2 ^ k ≤ n := Nat.div_le_self _ _
  rw [pk_shrN hn (nI k &&& 31) k (sh_k k hk), pk_andN (by omega) (m := 1) 1 (by decide)]
  rw [Nat.testBit_eq_decide_div_mod_eq]
  have : n / 2 ^ k % 2 ^ 1 = 0 ∨ n / 2 ^ k % 2 ^ 1 = 1 := by omega
  rcases this with e | e
  · rw [e]; rfl
  · rw [e]; rfl
theorem zb_and (a b : Bool) : sp_zb a &&& sp_zb b = sp_zb (a && b) := by cases a <;> cases b <;> decide
theorem zb_same (a b : Bool) : (1 : Int32) ^^^ sp_zb a ^^^ sp_zb b = sp_zb (!(xor a b)) := by cases a <;> cases b <;> decide
theorem zb_not (a : Bool) : sp_zb a ^^^ 1 = sp_zb (!a) := by cases a <;> decide
theorem zb_inj (a b : Bool) : (sp_zb a = sp_zb b) = (a = b) := by cases a <;> cases b <;> decide
def md_wo (σ : md_S) (o : Nat → Int32) : md_S := (σ.1, va_up σ.2 40 o)
theorem md_wo_1 (σ : md_S) (o : Nat → Int32) : (md_wo σ o).1 = σ.1 := rfl
theorem md_wo_2 (σ : md_S) (o : Nat → Int32) (q : Nat) : (md_wo σ o).2 q = if q = 40 then o else σ.2 q := rfl
theorem md_wo_s (σ : md_S) (o : Nat → Int32) (j : Nat) (v : Int32) : md_sa (md_wo σ o) 40 j v = md_wo σ (upd o j v) := by
  refine Prod.ext rfl (funext fun q => ?_)
  show va_up (va_up σ.2 40 o) 40 (upd (va_up σ.2 40 o 40) j v) q = va_up σ.2 40 (upd o j v) q
  rw [va_up_self]
  by_cases h : q = 40
  · subst h; rw [va_up_self, va_up_self]
  · rw [va_up_ne _ _ h, va_up_ne _ _ h, va_up_ne _ _ h]
theorem md_wo_eq (σ : md_S) : md_wo σ (σ.2 40) = σ := by
  refine Prod.ext rfl (funext fun q => ?_)
  show va_up σ.2 40 (σ.2 40) q = σ.2 q
  by_cases h : q = 40
  · subst h; rw [va_up_self]
  · rw [va_up_ne _ _ h]
theorem md_wo_R {σ : md_S} {w : sp_W} (h : md_R σ w) (o : Nat → Int32) : md_R (md_wo σ o) w := ⟨⟨⟨h.1.1.1, h.1.1.2.1, h.1.1.2.2.1, fun v hv => h.1.1.2.2.2 v hv⟩, h.1.2.1, fun i hi => h.1.2.2 i hi⟩, ⟨fun l hl => h.2.1.1 l hl, h.2.1.2⟩, ⟨h.2.2.1.1, fun j hj => h.2.2.1.2 j hj⟩, h.2.2.2.1, h.2.2.2.2⟩
theorem md_wo_wo (σ : md_S) (o o2 : Nat → Int32) : md_wo (md_wo σ o) o2 = md_wo σ o2 := by
  refine Prod.ext rfl (funext fun q => ?_)
  show va_up (va_up σ.2 40 o) 40 o2 q = va_up σ.2 40 o2 q
  by_cases h : q = 40
  · subst h; rw [va_up_self, va_up_self]
  · rw [va_up_ne _ _ h, va_up_ne _ _ h, va_up_ne _ _ h]
section M18
variable {X : xo_X} {d B : Nat} {σ : md_S} {g : xo_G} {Q : Option Value → xo_G → Prop} {w : sp_W}
theorem c_feed_loop {v : Int64} {l3 : Option Value} (o3 : ev_ok l3 = true) : ∀ (m : Nat) (w : sp_W) (σ : md_S), md_R σ w → w.2.2.1.2 + m ≤ 3000 → m ≤ 8 → (∀ σ2, md_R σ2 (w.1, w.2.1, sp_fb v m w.2.2.1, w.2.2.2) → Q (some (.int (nI (w.2.2.1.2 + m)))) (md_put B σ2 g)) → ev_R X d m_Md_feed 42 [some (.ref B), some (.long v), none, l3, some (.int (nI m + (-1)))] [] (md_put B σ g) Q := by
  intro m
  induction m with
  | zero =>
    intro w σ hR _ _ hQ
    have hneg : nI 0 + (-1) < 0 := by decide
    have h11 := hR.2.2.1.1
    simp (disch := first | exact ev_ok_i _ | exact ev_ok_r _ | exact ev_ok_n | omega | assumption) only [e_Md_feed_42, e_Md_feed_44, e_Md_feed_81, e_Md_feed_82, e_Md_feed_85, ev_rm_n, ev_rm_i, ev_rm_r, ev_rm_l, ev_ok_n, ev_ok_i, ev_ok_r, Option.toList_some, Option.toList_none, List.cons_append, List.nil_append, true_and, and_true, true_or, or_true, reduceIte, Nat.reduceEqDiff, if_true, if_false, md_rc, md_si_1, md_si_2, md_sa_1, md_sa_2, mg_kind, mr_kind, mw_kind, mg_one, mr_one, mw_one, mg_two, mr_two, mw_two, mg_variables, mp_variables, mg_inputs, mp_inputs, mg_inputOf, mr_inputOf, mw_inputOf, mg_nameSign, mr_nameSign, mw_nameSign, mg_nameSize, mr_nameSize, mw_nameSize, mg_label, mr_label, mw_label, mg_isContrary, mp_isContrary, mg_text, mr_text, mw_text, mg_textSize, mp_textSize, mg_at, mp_at, mg_token, mp_token, mg_tokenAt, mp_tokenAt, mg_tokenSize, mp_tokenSize, mg_scanned, mp_scanned, mg_fault, mp_fault, mg_faultAt, mp_faultAt, mg_place, mp_place, mg_open, mp_open, mg_level, mr_level, mw_level, mg_stage, mr_stage, mw_stage, mg_held, mr_held, mw_held, mg_signPlace, mr_signPlace, mw_signPlace, mg_value, mp_value, mg_row, mr_row, mw_row, mg_contrary, mr_contrary, mw_contrary, mg_firstRow, mr_firstRow, mw_firstRow, mg_firstContrary, mr_firstContrary, mw_firstContrary, mg_depthOf, mr_depthOf, mw_depthOf, mg_phase, mr_phase, mw_phase, mg_tried, mr_tried, mw_tried, mg_before, mr_before, mw_before, mg_old, mr_old, mw_old, mg_steps, mp_steps, mg_mostSteps, mp_mostSteps, mg_rounds, mp_rounds, mg_passes, mp_passes, mg_branches, mp_branches, mg_worth, mr_worth, mw_worth, hneg, h11]
    exact hQ σ hR
  | succ m ih =>
    intro w σ hR h3 h8 hQ
    rw [pk_m1]
    have h0 : ¬ nI m < 0 := nI_pos (by omega)
    have h11 := hR.2.2.1.1
    have e8 : (8 : Int32) * nI m = nI (8 * m) := pk_mul 8 m
    simp (disch := first | exact ev_ok_i _ | exact ev_ok_r _ | exact ev_ok_n | omega | assumption) only [e_Md_feed_42, e_Md_feed_44, e_Md_feed_47, e_Md_feed_48, e_Md_feed_51, e_Md_feed_52, e_Md_feed_55, e_Md_feed_56, e_Md_feed_58, e_Md_feed_60, e_Md_feed_61, e_Md_feed_62, e_Md_feed_63, e_Md_feed_64, e_Md_feed_65, e_Md_feed_66, e_Md_feed_67, e_Md_feed_70, e_Md_feed_71, e_Md_feed_72, e_Md_feed_75, ev_rm_n, ev_rm_i, ev_rm_r, ev_rm_l, ev_ok_n, ev_ok_i, ev_ok_r, Option.toList_some, Option.toList_none, List.cons_append, List.nil_append, true_and, and_true, true_or, or_true, reduceIte, Nat.reduceEqDiff, if_true, if_false, md_rc, md_si_1, md_si_2, md_sa_1, md_sa_2, mg_kind, mr_kind, mw_kind, mg_one, mr_one, mw_one, mg_two, mr_two, mw_two, mg_variables, mp_variables, mg_inputs, mp_inputs, mg_inputOf, mr_inputOf, mw_inputOf, mg_nameSign, mr_nameSign, mw_nameSign, mg_nameSize, mr_nameSize, mw_nameSize, mg_label, mr_label, mw_label, mg_isContrary, mp_isContrary, mg_text, mr_text, mw_text, mg_textSize, mp_textSize, mg_at, mp_at, mg_token, mp_token, mg_tokenAt, mp_tokenAt, mg_tokenSize, mp_tokenSize, mg_scanned, mp_scanned, mg_fault, mp_fault, mg_faultAt, mp_faultAt, mg_place, mp_place, mg_open, mp_open, mg_level, mr_level, mw_level, mg_stage, mr_stage, mw_stage, mg_held, mr_held, mw_held, mg_signPlace, mr_signPlace, mw_signPlace, mg_value, mp_value, mg_row, mr_row, mw_row, mg_contrary, mr_contrary, mw_contrary, mg_firstRow, mr_firstRow, mw_firstRow, mg_firstContrary, mr_firstContrary, mw_firstContrary, mg_depthOf, mr_depthOf, mw_depthOf, mg_phase, mr_phase, mw_phase, mg_tried, mr_tried, mw_tried, mg_before, mr_before, mw_before, mg_old, mr_old, mw_old, mg_steps, mp_steps, mg_mostSteps, mp_mostSteps, mg_rounds, mp_rounds, mg_passes, mp_passes, mg_branches, mp_branches, mg_worth, mr_worth, mw_worth, h0, h11, xo_in, nI_clamp, nI_1, e8]
    rw [e_Md_feed_78]
    refine ih (w.1, w.2.1, (upd w.2.2.1.1 w.2.2.1.2 (sp_by v m), w.2.2.1.2 + 1), w.2.2.2) _ ⟨⟨⟨hR.1.1.1, hR.1.1.2.1, hR.1.1.2.2.1, fun v hv => hR.1.1.2.2.2 v hv⟩, hR.1.2.1, fun i hi => hR.1.2.2 i hi⟩, ⟨fun l hl => hR.2.1.1 l hl, hR.2.1.2⟩, ⟨rfl, fun j hj => ?_⟩, hR.2.2.2.1, hR.2.2.2.2⟩ (by show w.2.2.1.2 + 1 + m ≤ 3000; omega) (by omega) (fun σ2 h => ?_)
    · show upd (σ.2 10) w.2.2.1.2 (sp_by v m) j = upd w.2.2.1.1 w.2.2.1.2 (sp_by v m) j
      by_cases e : j = w.2.2.1.2
      · rw [e, pk_us, pk_us]
      · have hj2 : j < w.2.2.1.2 + 1 := hj
        rw [pk_un e, pk_un e]
        exact hR.2.2.1.2 j (by omega)
    · have := hQ σ2 h
      rw [show w.2.2.1.2 + (m + 1) = w.2.2.1.2 + 1 + m by omega] at this
      exact this
theorem c_feed (hR : md_R σ w) (hw : sp_wok w) (v : Int64) (n : Int32) (hQ : ∀ σ2, md_R σ2 (sp_feed w v n).2 → Q (some (.int (sp_feed w v n).1)) (md_put B σ2 g)) : ev_C X d m_Md_feed [.ref B, .long v, .int n] (md_put B σ g) Q := by
  show ev_R X d m_Md_feed 0 [some (.ref B), some (.long v), none, some (.int n), none] [] (md_put B σ g) Q
  unfold sp_feed at hQ
  have h11 := hR.2.2.1.1
  have ht := hw.2.2
  simp (disch := first | exact ev_ok_i _ | exact ev_ok_r _ | exact ev_ok_n | omega | assumption) only [e_Md_feed_0, e_Md_feed_1, e_Md_feed_4, e_Md_feed_5, e_Md_feed_7, ev_rm_n, ev_rm_i, ev_rm_r, ev_rm_l, ev_ok_n, ev_ok_i, ev_ok_r, Option.toList_some, Option.toList_none, List.cons_append, List.nil_append, true_and, and_true, true_or, or_true, reduceIte, Nat.reduceEqDiff, if_true, if_false]
  by_cases n0 : n < 0
  · rw [if_pos (Or.inl n0)] at hQ
    simp (disch := first | exact ev_ok_i _ | exact ev_ok_r _ | exact ev_ok_n | omega | assumption) only [n0, e_Md_feed_10, e_Md_feed_12, ev_rm_n, ev_rm_i, ev_rm_r, ev_rm_l, ev_ok_n, ev_ok_i, ev_ok_r, Option.toList_some, Option.toList_none, List.cons_append, List.nil_append, true_and, and_true, true_or, or_true, reduceIte, Nat.reduceEqDiff, if_true, if_false]
    exact hQ σ hR
  · by_cases n8 : 8 < n
    · have n9 : ¬ n ≤ 8 := Int32.not_le.mpr n8
      rw [if_pos (Or.inr n8)] at hQ
      simp (disch := first | exact ev_ok_i _ | exact ev_ok_r _ | exact ev_ok_n | omega | assumption) only [n0, n9, e_Md_feed_10, e_Md_feed_12, ev_rm_n, ev_rm_i, ev_rm_r, ev_rm_l, ev_ok_n, ev_ok_i, ev_ok_r, Option.toList_some, Option.toList_none, List.cons_append, List.nil_append, true_and, and_true, true_or, or_true, reduceIte, Nat.reduceEqDiff, if_true, if_false]
      exact hQ σ hR
    · have n9 : n ≤ 8 := Int32.not_lt.mp n8
      rw [if_neg (fun z => z.elim n0 n8)] at hQ
      obtain ⟨j, hj, rfl⟩ := nI_of2 (x := n) (M := 8) (n := 8) rfl n0 n9
      simp (disch := first | exact ev_ok_i _ | exact ev_ok_r _ | exact ev_ok_n | omega | assumption) only [n0, n9, e_Md_feed_13, e_Md_feed_14, ev_rm_n, ev_rm_i, ev_rm_r, ev_rm_l, ev_ok_n, ev_ok_i, ev_ok_r, Option.toList_some, Option.toList_none, List.cons_append, List.nil_append, true_and, and_true, true_or, or_true, reduceIte, Nat.reduceEqDiff, if_true, if_false, nE_0]
      by_cases hj0 : j = 0
      · rw [if_pos ((nE_0 (by omega)).mpr hj0)] at hQ
        subst hj0
        have e0 : nI 0 + nI 0 = 0 := rfl
        have hm : (nI 0 - 1) = nI 0 + (-1) := sb1 _
        have hle : nI 0 ≤ 3000 := by decide
        have hneg : nI 0 + (-1) < 0 := by decide
        have ez : (0 : Int32) + nI 0 = nI 0 := rfl
        have hR2 : md_R (md_si σ 11 0) (w.1, w.2.1, (w.2.2.1.1, 0), w.2.2.2) := ⟨⟨⟨hR.1.1.1, hR.1.1.2.1, hR.1.1.2.2.1, fun v hv => hR.1.1.2.2.2 v hv⟩, hR.1.2.1, fun i hi => hR.1.2.2 i hi⟩, ⟨fun l hl => hR.2.1.1 l hl, hR.2.1.2⟩, ⟨rfl, fun j hj => absurd hj (Nat.not_lt_zero j)⟩, hR.2.2.2.1, hR.2.2.2.2⟩
        simp (disch := first | exact ev_ok_i _ | exact ev_ok_r _ | exact ev_ok_n | omega | assumption) only [not_true_eq_false, e_Md_feed_17, e_Md_feed_18, e_Md_feed_19, e_Md_feed_22, e_Md_feed_23, e_Md_feed_26, e_Md_feed_27, e_Md_feed_28, e_Md_feed_31, e_Md_feed_34, e_Md_feed_36, e_Md_feed_37, e_Md_feed_38, e_Md_feed_39, e_Md_feed_40, e_Md_feed_42, e_Md_feed_44, e_Md_feed_81, e_Md_feed_82, e_Md_feed_85, ev_rm_n, ev_rm_i, ev_rm_r, ev_rm_l, ev_ok_n, ev_ok_i, ev_ok_r, Option.toList_some, Option.toList_none, List.cons_append, List.nil_append, true_and, and_true, true_or, or_true, reduceIte, Nat.reduceEqDiff, if_true, if_false, md_rc, md_si_1, md_si_2, md_sa_1, md_sa_2, mg_kind, mr_kind, mw_kind, mg_one, mr_one, mw_one, mg_two, mr_two, mw_two, mg_variables, mp_variables, mg_inputs, mp_inputs, mg_inputOf, mr_inputOf, mw_inputOf, mg_nameSign, mr_nameSign, mw_nameSign, mg_nameSize, mr_nameSize, mw_nameSize, mg_label, mr_label, mw_label, mg_isContrary, mp_isContrary, mg_text, mr_text, mw_text, mg_textSize, mp_textSize, mg_at, mp_at, mg_token, mp_token, mg_tokenAt, mp_tokenAt, mg_tokenSize, mp_tokenSize, mg_scanned, mp_scanned, mg_fault, mp_fault, mg_faultAt, mp_faultAt, mg_place, mp_place, mg_open, mp_open, mg_level, mr_level, mw_level, mg_stage, mr_stage, mw_stage, mg_held, mr_held, mw_held, mg_signPlace, mr_signPlace, mw_signPlace, mg_value, mp_value, mg_row, mr_row, mw_row, mg_contrary, mr_contrary, mw_contrary, mg_firstRow, mr_firstRow, mw_firstRow, mg_firstContrary, mr_firstContrary, mw_firstContrary, mg_depthOf, mr_depthOf, mw_depthOf, mg_phase, mr_phase, mw_phase, mg_tried, mr_tried, mw_tried, mg_before, mr_before, mw_before, mg_old, mr_old, mw_old, mg_steps, mp_steps, mg_mostSteps, mp_mostSteps, mg_rounds, mp_rounds, mg_passes, mp_passes, mg_branches, mp_branches, mg_worth, mr_worth, mw_worth, ez, hle, hm, hneg]
        exact hQ _ hR2
      · have hz : ¬ nI j = 0 := fun z => hj0 ((nE_0 (by omega)).mp z)
        rw [if_neg hz, nI_clamp (by omega)] at hQ
        have e3 : (3000 : Int32) = nI 3000 := rfl
        have hm : (nI j - 1) = nI j + (-1) := sb1 _
        simp (disch := first | exact ev_ok_i _ | exact ev_ok_r _ | exact ev_ok_n | omega | assumption) only [hj0, not_false_eq_true, e_Md_feed_22, e_Md_feed_23, e_Md_feed_26, e_Md_feed_27, e_Md_feed_28, e_Md_feed_31, ev_rm_n, ev_rm_i, ev_rm_r, ev_rm_l, ev_ok_n, ev_ok_i, ev_ok_r, Option.toList_some, Option.toList_none, List.cons_append, List.nil_append, true_and, and_true, true_or, or_true, reduceIte, Nat.reduceEqDiff, if_true, if_false, md_rc, md_si_1, md_si_2, md_sa_1, md_sa_2, mg_kind, mr_kind, mw_kind, mg_one, mr_one, mw_one, mg_two, mr_two, mw_two, mg_variables, mp_variables, mg_inputs, mp_inputs, mg_inputOf, mr_inputOf, mw_inputOf, mg_nameSign, mr_nameSign, mw_nameSign, mg_nameSize, mr_nameSize, mw_nameSize, mg_label, mr_label, mw_label, mg_isContrary, mp_isContrary, mg_text, mr_text, mw_text, mg_textSize, mp_textSize, mg_at, mp_at, mg_token, mp_token, mg_tokenAt, mp_tokenAt, mg_tokenSize, mp_tokenSize, mg_scanned, mp_scanned, mg_fault, mp_fault, mg_faultAt, mp_faultAt, mg_place, mp_place, mg_open, mp_open, mg_level, mr_level, mw_level, mg_stage, mr_stage, mw_stage, mg_held, mr_held, mw_held, mg_signPlace, mr_signPlace, mw_signPlace, mg_value, mp_value, mg_row, mr_row, mw_row, mg_contrary, mr_contrary, mw_contrary, mg_firstRow, mr_firstRow, mw_firstRow, mg_firstContrary, mr_firstContrary, mw_firstContrary, mg_depthOf, mr_depthOf, mw_depthOf, mg_phase, mr_phase, mw_phase, mg_tried, mr_tried, mw_tried, mg_before, mr_before, mw_before, mg_old, mr_old, mw_old, mg_steps, mp_steps, mg_mostSteps, mp_mostSteps, mg_rounds, mp_rounds, mg_passes, mp_passes, mg_branches, mp_branches, mg_worth, mr_worth, mw_worth, h11, nI_add]
        have hl3 : (nI (w.2.2.1.2 + j) ≤ 3000) ↔ w.2.2.1.2 + j ≤ 3000 := by rw [e3]; exact nI_leI (by omega) (by decide)
        simp only [hl3]
        by_cases hle : w.2.2.1.2 + j ≤ 3000
        · rw [if_neg (by omega)] at hQ
          simp (disch := first | exact ev_ok_i _ | exact ev_ok_r _ | exact ev_ok_n | omega | assumption) only [hle, e_Md_feed_37, e_Md_feed_38, e_Md_feed_39, e_Md_feed_40, ev_rm_n, ev_rm_i, ev_rm_r, ev_rm_l, ev_ok_n, ev_ok_i, ev_ok_r, Option.toList_some, Option.toList_none, List.cons_append, List.nil_append, true_and, and_true, true_or, or_true, reduceIte, Nat.reduceEqDiff, if_true, if_false, hm]
          exact c_feed_loop rfl j w σ hR hle (by omega) hQ
        · rw [if_pos (by omega)] at hQ
          simp (disch := first | exact ev_ok_i _ | exact ev_ok_r _ | exact ev_ok_n | omega | assumption) only [hle, e_Md_feed_34, e_Md_feed_36, ev_rm_n, ev_rm_i, ev_rm_r, ev_rm_l, ev_ok_n, ev_ok_i, ev_ok_r, Option.toList_some, Option.toList_none, List.cons_append, List.nil_append, true_and, and_true, true_or, or_true, reduceIte, Nat.reduceEqDiff, if_true, if_false]
          exact hQ σ hR
theorem c_assign_loop {c : sp_C} {n : Nat} (hc : md_cR σ c) (hok : sp_cok c) (hn : n < 2 ^ 31) : ∀ (m v : Nat) (o : Nat → Int32) (l3 : Option Value), v + m = cN c → 1 ≤ v → (∀ l, l < 2 * v → o l = sp_zb (sp_as c n v l)) → (∀ o, (∀ l, l < 2 * cN c → o l = sp_zb (sp_vl c n l)) → Q none (md_put B (md_wo σ o) g)) → ev_R X d m_Md_assign 16 [some (.ref B), some (.int (nI n)), some (.int (nI v)), l3] [] (md_put B (md_wo σ o) g) Q := by
  intro m
  have h3 := hc.1.1
  have hN := hok.1.2.1
  induction m with
  | zero =>
    intro v o l3 hv _ ho hQ
    have e : v = cN c := by omega
    subst e
    simp (disch := first | exact ev_ok_i _ | exact ev_ok_r _ | exact ev_ok_n | omega | assumption) only [e_Md_assign_16, e_Md_assign_17, e_Md_assign_18, e_Md_assign_21, e_Md_assign_137, ev_rm_n, ev_rm_i, ev_rm_r, ev_rm_l, ev_ok_n, ev_ok_i, ev_ok_r, Option.toList_some, Option.toList_none, List.cons_append, List.nil_append, true_and, and_true, true_or, or_true, reduceIte, Nat.reduceEqDiff, if_true, if_false, md_rc, md_si_1, md_si_2, md_sa_1, md_sa_2, mg_kind, mr_kind, mw_kind, mg_one, mr_one, mw_one, mg_two, mr_two, mw_two, mg_variables, mp_variables, mg_inputs, mp_inputs, mg_inputOf, mr_inputOf, mw_inputOf, mg_nameSign, mr_nameSign, mw_nameSign, mg_nameSize, mr_nameSize, mw_nameSize, mg_label, mr_label, mw_label, mg_isContrary, mp_isContrary, mg_text, mr_text, mw_text, mg_textSize, mp_textSize, mg_at, mp_at, mg_token, mp_token, mg_tokenAt, mp_tokenAt, mg_tokenSize, mp_tokenSize, mg_scanned, mp_scanned, mg_fault, mp_fault, mg_faultAt, mp_faultAt, mg_place, mp_place, mg_open, mp_open, mg_level, mr_level, mw_level, mg_stage, mr_stage, mw_stage, mg_held, mr_held, mw_held, mg_signPlace, mr_signPlace, mw_signPlace, mg_value, mp_value, mg_row, mr_row, mw_row, mg_contrary, mr_contrary, mw_contrary, mg_firstRow, mr_firstRow, mw_firstRow, mg_firstContrary, mr_firstContrary, mw_firstContrary, mg_depthOf, mr_depthOf, mw_depthOf, mg_phase, mr_phase, mw_phase, mg_tried, mr_tried, mw_tried, mg_before, mr_before, mw_before, mg_old, mr_old, mw_old, mg_steps, mp_steps, mg_mostSteps, mp_mostSteps, mg_rounds, mp_rounds, mg_passes, mp_passes, mg_branches, mp_branches, mg_worth, mr_worth, mw_worth, md_wo_1, h3, nI_leI, Nat.le_refl]
    exact hQ o ho
  | succ m ih =>
    intro v o l3 hv hv1 ho hQ
    have hlt : ¬ cN c ≤ v := by omega
    have hlt2 : v < cN c := by omega
    obtain ⟨k0, k1, k2, b0, b1, b2⟩ := hc.1.2.2.2 v hlt2
    have key : ∀ x : Bool, x = sp_bx c n (sp_as c n v) v → ev_R X d m_Md_assign 108 [some (.ref B), some (.int (nI n)), some (.int (nI v)), l3] [.int (sp_zb x)] (md_put B (md_wo σ o) g) Q := by
      intro x hx
      simp (disch := first | exact ev_ok_i _ | exact ev_ok_r _ | exact ev_ok_n | omega | assumption) only [e_Md_assign_108, e_Md_assign_109, e_Md_assign_110, e_Md_assign_113, e_Md_assign_114, e_Md_assign_115, e_Md_assign_116, e_Md_assign_117, e_Md_assign_118, e_Md_assign_119, e_Md_assign_122, e_Md_assign_123, e_Md_assign_124, e_Md_assign_125, e_Md_assign_126, e_Md_assign_127, e_Md_assign_128, e_Md_assign_129, e_Md_assign_130, e_Md_assign_131, ev_rm_n, ev_rm_i, ev_rm_r, ev_rm_l, ev_ok_n, ev_ok_i, ev_ok_r, Option.toList_some, Option.toList_none, List.cons_append, List.nil_append, true_and, and_true, true_or, or_true, reduceIte, Nat.reduceEqDiff, if_true, if_false, md_rc, md_si_1, md_si_2, md_sa_1, md_sa_2, mg_kind, mr_kind, mw_kind, mg_one, mr_one, mw_one, mg_two, mr_two, mw_two, mg_variables, mp_variables, mg_inputs, mp_inputs, mg_inputOf, mr_inputOf, mw_inputOf, mg_nameSign, mr_nameSign, mw_nameSign, mg_nameSize, mr_nameSize, mw_nameSize, mg_label, mr_label, mw_label, mg_isContrary, mp_isContrary, mg_text, mr_text, mw_text, mg_textSize, mp_textSize, mg_at, mp_at, mg_token, mp_token, mg_tokenAt, mp_tokenAt, mg_tokenSize, mp_tokenSize, mg_scanned, mp_scanned, mg_fault, mp_fault, mg_faultAt, mp_faultAt, mg_place, mp_place, mg_open, mp_open, mg_level, mr_level, mw_level, mg_stage, mr_stage, mw_stage, mg_held, mr_held, mw_held, mg_signPlace, mr_signPlace, mw_signPlace, mg_value, mp_value, mg_row, mr_row, mw_row, mg_contrary, mr_contrary, mw_contrary, mg_firstRow, mr_firstRow, mw_firstRow, mg_firstContrary, mr_firstContrary, mw_firstContrary, mg_depthOf, mr_depthOf, mw_depthOf, mg_phase, mr_phase, mw_phase, mg_tried, mr_tried, mw_tried, mg_before, mr_before, mw_before, mg_old, mr_old, mw_old, mg_steps, mp_steps, mg_mostSteps, mp_mostSteps, mg_rounds, mp_rounds, mg_passes, mp_passes, mg_branches, mp_branches, mg_worth, mr_worth, mw_worth, md_wo_s, nL_2, nI_1, xo_in, nI_clamp, zb_not]
      rw [e_Md_assign_134]
      refine ih (v + 1) _ _ (by omega) (by omega) (fun l hl => ?_) hQ
      unfold sp_as
      rw [if_neg (by omega), ← hx]
      by_cases l1 : l = 2 * v + 1
      · subst l1
        rw [pk_us, if_neg (by omega), if_pos rfl]
      · rw [pk_un l1, if_neg l1]
        by_cases l2 : l = 2 * v
        · subst l2
          rw [pk_us, if_pos rfl]
        · rw [pk_un l2, if_neg l2]
          exact ho l (by omega)
    have w0 : (md_wo σ o).2 0 = σ.2 0 := rfl
    have w1 : (md_wo σ o).2 1 = σ.2 1 := rfl
    have w2 : (md_wo σ o).2 2 = σ.2 2 := rfl
    have w40 : (md_wo σ o).2 40 = o := rfl
    simp (disch := first | exact ev_ok_i _ | exact ev_ok_r _ | exact ev_ok_n | omega | assumption) only [e_Md_assign_16, e_Md_assign_17, e_Md_assign_18, e_Md_assign_21, e_Md_assign_24, e_Md_assign_25, e_Md_assign_28, e_Md_assign_29, e_Md_assign_30, e_Md_assign_31, ev_rm_n, ev_rm_i, ev_rm_r, ev_rm_l, ev_ok_n, ev_ok_i, ev_ok_r, Option.toList_some, Option.toList_none, List.cons_append, List.nil_append, true_and, and_true, true_or, or_true, reduceIte, Nat.reduceEqDiff, if_true, if_false, md_rc, md_si_1, md_si_2, md_sa_1, md_sa_2, mg_kind, mr_kind, mw_kind, mg_one, mr_one, mw_one, mg_two, mr_two, mw_two, mg_variables, mp_variables, mg_inputs, mp_inputs, mg_inputOf, mr_inputOf, mw_inputOf, mg_nameSign, mr_nameSign, mw_nameSign, mg_nameSize, mr_nameSize, mw_nameSize, mg_label, mr_label, mw_label, mg_isContrary, mp_isContrary, mg_text, mr_text, mw_text, mg_textSize, mp_textSize, mg_at, mp_at, mg_token, mp_token, mg_tokenAt, mp_tokenAt, mg_tokenSize, mp_tokenSize, mg_scanned, mp_scanned, mg_fault, mp_fault, mg_faultAt, mp_faultAt, mg_place, mp_place, mg_open, mp_open, mg_level, mr_level, mw_level, mg_stage, mr_stage, mw_stage, mg_held, mr_held, mw_held, mg_signPlace, mr_signPlace, mw_signPlace, mg_value, mp_value, mg_row, mr_row, mw_row, mg_contrary, mr_contrary, mw_contrary, mg_firstRow, mr_firstRow, mw_firstRow, mg_firstContrary, mr_firstContrary, mw_firstContrary, mg_depthOf, mr_depthOf, mw_depthOf, mg_phase, mr_phase, mw_phase, mg_tried, mr_tried, mw_tried, mg_before, mr_before, mw_before, mg_old, mr_old, mw_old, mg_steps, mp_steps, mg_mostSteps, mp_mostSteps, mg_rounds, mp_rounds, mg_passes, mp_passes, mg_branches, mp_branches, mg_worth, mr_worth, mw_worth, md_wo_1, h3, nI_leI, hlt, w0, xo_in, nI_clamp, k0, nE_1]
    have hcase := hok.2.1 v hv1 hlt2
    by_cases c1 : cK c v = 1
    · have hA : cA c v < cI c := by
        rcases hcase with h | h
        · exact h.2.1
        · omega
      have h24 := hok.1.2.2
      simp (disch := first | exact ev_ok_i _ | exact ev_ok_r _ | exact ev_ok_n | omega | assumption) only [c1, not_true_eq_false, e_Md_assign_34, e_Md_assign_35, e_Md_assign_36, e_Md_assign_39, e_Md_assign_40, e_Md_assign_41, e_Md_assign_42, e_Md_assign_43, e_Md_assign_44, ev_rm_n, ev_rm_i, ev_rm_r, ev_rm_l, ev_ok_n, ev_ok_i, ev_ok_r, Option.toList_some, Option.toList_none, List.cons_append, List.nil_append, true_and, and_true, true_or, or_true, reduceIte, Nat.reduceEqDiff, if_true, if_false, md_rc, md_si_1, md_si_2, md_sa_1, md_sa_2, mg_kind, mr_kind, mw_kind, mg_one, mr_one, mw_one, mg_two, mr_two, mw_two, mg_variables, mp_variables, mg_inputs, mp_inputs, mg_inputOf, mr_inputOf, mw_inputOf, mg_nameSign, mr_nameSign, mw_nameSign, mg_nameSize, mr_nameSize, mw_nameSize, mg_label, mr_label, mw_label, mg_isContrary, mp_isContrary, mg_text, mr_text, mw_text, mg_textSize, mp_textSize, mg_at, mp_at, mg_token, mp_token, mg_tokenAt, mp_tokenAt, mg_tokenSize, mp_tokenSize, mg_scanned, mp_scanned, mg_fault, mp_fault, mg_faultAt, mp_faultAt, mg_place, mp_place, mg_open, mp_open, mg_level, mr_level, mw_level, mg_stage, mr_stage, mw_stage, mg_held, mr_held, mw_held, mg_signPlace, mr_signPlace, mw_signPlace, mg_value, mp_value, mg_row, mr_row, mw_row, mg_contrary, mr_contrary, mw_contrary, mg_firstRow, mr_firstRow, mw_firstRow, mg_firstContrary, mr_firstContrary, mw_firstContrary, mg_depthOf, mr_depthOf, mw_depthOf, mg_phase, mr_phase, mw_phase, mg_tried, mr_tried, mw_tried, mg_before, mr_before, mw_before, mg_old, mr_old, mw_old, mg_steps, mp_steps, mg_mostSteps, mp_mostSteps, mg_rounds, mp_rounds, mg_passes, mp_passes, mg_branches, mp_branches, mg_worth, mr_worth, mw_worth, w1, xo_in, nI_clamp, k1, sh_b]
      exact key _ (by unfold sp_bx; rw [if_pos c1])
    · obtain ⟨hk, hA, hB⟩ : (cK c v = 2 ∨ cK c v = 3) ∧ cA c v < 2 * v ∧ cB c v < 2 * v := by
        rcases hcase with h | h
        · exact absurd h.1 c1
        · exact h
      have oA := ho _ hA
      have oB := ho _ hB
      simp (disch := first | exact ev_ok_i _ | exact ev_ok_r _ | exact ev_ok_n | omega | assumption) only [c1, not_false_eq_true, e_Md_assign_47, e_Md_assign_48, e_Md_assign_51, e_Md_assign_52, e_Md_assign_53, e_Md_assign_54, ev_rm_n, ev_rm_i, ev_rm_r, ev_rm_l, ev_ok_n, ev_ok_i, ev_ok_r, Option.toList_some, Option.toList_none, List.cons_append, List.nil_append, true_and, and_true, true_or, or_true, reduceIte, Nat.reduceEqDiff, if_true, if_false, md_rc, md_si_1, md_si_2, md_sa_1, md_sa_2, mg_kind, mr_kind, mw_kind, mg_one, mr_one, mw_one, mg_two, mr_two, mw_two, mg_variables, mp_variables, mg_inputs, mp_inputs, mg_inputOf, mr_inputOf, mw_inputOf, mg_nameSign, mr_nameSign, mw_nameSign, mg_nameSize, mr_nameSize, mw_nameSize, mg_label, mr_label, mw_label, mg_isContrary, mp_isContrary, mg_text, mr_text, mw_text, mg_textSize, mp_textSize, mg_at, mp_at, mg_token, mp_token, mg_tokenAt, mp_tokenAt, mg_tokenSize, mp_tokenSize, mg_scanned, mp_scanned, mg_fault, mp_fault, mg_faultAt, mp_faultAt, mg_place, mp_place, mg_open, mp_open, mg_level, mr_level, mw_level, mg_stage, mr_stage, mw_stage, mg_held, mr_held, mw_held, mg_signPlace, mr_signPlace, mw_signPlace, mg_value, mp_value, mg_row, mr_row, mw_row, mg_contrary, mr_contrary, mw_contrary, mg_firstRow, mr_firstRow, mw_firstRow, mg_firstContrary, mr_firstContrary, mw_firstContrary, mg_depthOf, mr_depthOf, mw_depthOf, mg_phase, mr_phase, mw_phase, mg_tried, mr_tried, mw_tried, mg_before, mr_before, mw_before, mg_old, mr_old, mw_old, mg_steps, mp_steps, mg_mostSteps, mp_mostSteps, mg_rounds, mp_rounds, mg_passes, mp_passes, mg_branches, mp_branches, mg_worth, mr_worth, mw_worth, w0, xo_in, nI_clamp, k0, nE_2]
      by_cases c2 : cK c v = 2
      · simp (disch := first | exact ev_ok_i _ | exact ev_ok_r _ | exact ev_ok_n | omega | assumption) only [c2, not_true_eq_false, e_Md_assign_57, e_Md_assign_58, e_Md_assign_61, e_Md_assign_62, e_Md_assign_65, e_Md_assign_66, e_Md_assign_67, e_Md_assign_68, e_Md_assign_69, e_Md_assign_72, e_Md_assign_73, e_Md_assign_76, e_Md_assign_77, e_Md_assign_78, e_Md_assign_79, e_Md_assign_80, ev_rm_n, ev_rm_i, ev_rm_r, ev_rm_l, ev_ok_n, ev_ok_i, ev_ok_r, Option.toList_some, Option.toList_none, List.cons_append, List.nil_append, true_and, and_true, true_or, or_true, reduceIte, Nat.reduceEqDiff, if_true, if_false, md_rc, md_si_1, md_si_2, md_sa_1, md_sa_2, mg_kind, mr_kind, mw_kind, mg_one, mr_one, mw_one, mg_two, mr_two, mw_two, mg_variables, mp_variables, mg_inputs, mp_inputs, mg_inputOf, mr_inputOf, mw_inputOf, mg_nameSign, mr_nameSign, mw_nameSign, mg_nameSize, mr_nameSize, mw_nameSize, mg_label, mr_label, mw_label, mg_isContrary, mp_isContrary, mg_text, mr_text, mw_text, mg_textSize, mp_textSize, mg_at, mp_at, mg_token, mp_token, mg_tokenAt, mp_tokenAt, mg_tokenSize, mp_tokenSize, mg_scanned, mp_scanned, mg_fault, mp_fault, mg_faultAt, mp_faultAt, mg_place, mp_place, mg_open, mp_open, mg_level, mr_level, mw_level, mg_stage, mr_stage, mw_stage, mg_held, mr_held, mw_held, mg_signPlace, mr_signPlace, mw_signPlace, mg_value, mp_value, mg_row, mr_row, mw_row, mg_contrary, mr_contrary, mw_contrary, mg_firstRow, mr_firstRow, mw_firstRow, mg_firstContrary, mr_firstContrary, mw_firstContrary, mg_depthOf, mr_depthOf, mw_depthOf, mg_phase, mr_phase, mw_phase, mg_tried, mr_tried, mw_tried, mg_before, mr_before, mw_before, mg_old, mr_old, mw_old, mg_steps, mp_steps, mg_mostSteps, mp_mostSteps, mg_rounds, mp_rounds, mg_passes, mp_passes, mg_branches, mp_branches, mg_worth, mr_worth, mw_worth, w1, w2, w40, xo_in, nI_clamp, k1, k2, oA, oB, zb_and]
        exact key _ (by unfold sp_bx; rw [if_neg c1, if_pos c2])
      · simp (disch := first | exact ev_ok_i _ | exact ev_ok_r _ | exact ev_ok_n | omega | assumption) only [c2, not_false_eq_true, e_Md_assign_83, e_Md_assign_84, e_Md_assign_85, e_Md_assign_88, e_Md_assign_89, e_Md_assign_92, e_Md_assign_93, e_Md_assign_94, e_Md_assign_95, e_Md_assign_96, e_Md_assign_97, e_Md_assign_100, e_Md_assign_101, e_Md_assign_104, e_Md_assign_105, e_Md_assign_106, e_Md_assign_107, ev_rm_n, ev_rm_i, ev_rm_r, ev_rm_l, ev_ok_n, ev_ok_i, ev_ok_r, Option.toList_some, Option.toList_none, List.cons_append, List.nil_append, true_and, and_true, true_or, or_true, reduceIte, Nat.reduceEqDiff, if_true, if_false, md_rc, md_si_1, md_si_2, md_sa_1, md_sa_2, mg_kind, mr_kind, mw_kind, mg_one, mr_one, mw_one, mg_two, mr_two, mw_two, mg_variables, mp_variables, mg_inputs, mp_inputs, mg_inputOf, mr_inputOf, mw_inputOf, mg_nameSign, mr_nameSign, mw_nameSign, mg_nameSize, mr_nameSize, mw_nameSize, mg_label, mr_label, mw_label, mg_isContrary, mp_isContrary, mg_text, mr_text, mw_text, mg_textSize, mp_textSize, mg_at, mp_at, mg_token, mp_token, mg_tokenAt, mp_tokenAt, mg_tokenSize, mp_tokenSize, mg_scanned, mp_scanned, mg_fault, mp_fault, mg_faultAt, mp_faultAt, mg_place, mp_place, mg_open, mp_open, mg_level, mr_level, mw_level, mg_stage, mr_stage, mw_stage, mg_held, mr_held, mw_held, mg_signPlace, mr_signPlace, mw_signPlace, mg_value, mp_value, mg_row, mr_row, mw_row, mg_contrary, mr_contrary, mw_contrary, mg_firstRow, mr_firstRow, mw_firstRow, mg_firstContrary, mr_firstContrary, mw_firstContrary, mg_depthOf, mr_depthOf, mw_depthOf, mg_phase, mr_phase, mw_phase, mg_tried, mr_tried, mw_tried, mg_before, mr_before, mw_before, mg_old, mr_old, mw_old, mg_steps, mp_steps, mg_mostSteps, mp_mostSteps, mg_rounds, mp_rounds, mg_passes, mp_passes, mg_branches, mp_branches, mg_worth, mr_worth, mw_worth, w1, w2, w40, xo_in, nI_clamp, k1, k2, oA, oB, zb_same]
        exact key _ (by unfold sp_bx; rw [if_neg c1, if_neg c2])
theorem c_assign {c : sp_C} {n : Nat} (hc : md_cR σ c) (hok : sp_cok c) (hn : n < 2 ^ 31) (hQ : ∀ o, (∀ l, l < 2 * cN c → o l = sp_zb (sp_vl c n l)) → Q none (md_put B (md_wo σ o) g)) : ev_C X d m_Md_assign [.ref B, .int (nI n)] (md_put B σ g) Q := by
  show ev_R X d m_Md_assign 0 [some (.ref B), some (.int (nI n)), none, none] [] (md_put B σ g) Q
  have h00 : (0 : Int32).toNatClampNeg = 0 := rfl
  have h01 : (1 : Int32).toNatClampNeg = 1 := rfl
  have e1 : (1 : Int32) = nI 1 := rfl
  have o1 : xo_out 1 240 = false := by decide
  have es : md_sa (md_sa σ 40 0 1) 40 1 0 = md_wo σ (upd (upd (σ.2 40) 0 1) 1 0) := by
    conv => lhs; rw [← md_wo_eq σ]
    rw [md_wo_s, md_wo_s]
  simp (disch := first | exact ev_ok_i _ | exact ev_ok_r _ | exact ev_ok_n | omega | assumption) only [e_Md_assign_0, e_Md_assign_1, e_Md_assign_4, e_Md_assign_5, e_Md_assign_6, e_Md_assign_7, e_Md_assign_8, e_Md_assign_11, e_Md_assign_12, e_Md_assign_13, e_Md_assign_14, e_Md_assign_15, ev_rm_n, ev_rm_i, ev_rm_r, ev_rm_l, ev_ok_n, ev_ok_i, ev_ok_r, Option.toList_some, Option.toList_none, List.cons_append, List.nil_append, true_and, and_true, true_or, or_true, reduceIte, Nat.reduceEqDiff, if_true, if_false, md_rc, md_si_1, md_si_2, md_sa_1, md_sa_2, mg_kind, mr_kind, mw_kind, mg_one, mr_one, mw_one, mg_two, mr_two, mw_two, mg_variables, mp_variables, mg_inputs, mp_inputs, mg_inputOf, mr_inputOf, mw_inputOf, mg_nameSign, mr_nameSign, mw_nameSign, mg_nameSize, mr_nameSize, mw_nameSize, mg_label, mr_label, mw_label, mg_isContrary, mp_isContrary, mg_text, mr_text, mw_text, mg_textSize, mp_textSize, mg_at, mp_at, mg_token, mp_token, mg_tokenAt, mp_tokenAt, mg_tokenSize, mp_tokenSize, mg_scanned, mp_scanned, mg_fault, mp_fault, mg_faultAt, mp_faultAt, mg_place, mp_place, mg_open, mp_open, mg_level, mr_level, mw_level, mg_stage, mr_stage, mw_stage, mg_held, mr_held, mw_held, mg_signPlace, mr_signPlace, mw_signPlace, mg_value, mp_value, mg_row, mr_row, mw_row, mg_contrary, mr_contrary, mw_contrary, mg_firstRow, mr_firstRow, mw_firstRow, mg_firstContrary, mr_firstContrary, mw_firstContrary, mg_depthOf, mr_depthOf, mw_depthOf, mg_phase, mr_phase, mw_phase, mg_tried, mr_tried, mw_tried, mg_before, mr_before, mw_before, mg_old, mr_old, mw_old, mg_steps, mp_steps, mg_mostSteps, mp_mostSteps, mg_rounds, mp_rounds, mg_passes, mp_passes, mg_branches, mp_branches, mg_worth, mr_worth, mw_worth, xo_o0, h00, h01, o1]
  rw [es, e1]
  refine c_assign_loop hc hok hn (cN c - 1) 1 _ none (by have := hok.1.1; omega) (Nat.le_refl 1) (fun l hl => ?_) hQ
  have : l = 0 ∨ l = 1 := by omega
  rcases this with rfl | rfl
  · rfl
  · rfl
end M18
