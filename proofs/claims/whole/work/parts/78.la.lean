/-! THE LAW: its loop, every call answered alike (printed by wip/gen/la.py) -/
theorem hp_sw (B : Nat) (τ : cl_S) (σ : md_S) (g : xo_G) : cl_put B τ (md_put (B + 63) σ g) = md_put (B + 63) σ (cl_put B τ g) := by
  refine Prod.ext (funext fun a => ?_) rfl
  show (if B ≤ a ∧ a < B + 63 then some (cl_cell B τ (a - B)) else (if B + 63 ≤ a ∧ a < B + 63 + 23 then some (md_cell (B + 63) σ (a - (B + 63))) else g.1 a)) = (if B + 63 ≤ a ∧ a < B + 63 + 23 then some (md_cell (B + 63) σ (a - (B + 63))) else (if B ≤ a ∧ a < B + 63 then some (cl_cell B τ (a - B)) else g.1 a))
  by_cases h1 : B ≤ a ∧ a < B + 63
  · rw [if_pos h1, if_neg (by omega), if_pos h1]
  · rw [if_neg h1, if_neg h1]
theorem cl_TX_md {X : xo_X} {B : Nat} {σ : md_S} {g : xo_G} (h : cl_TX X B g) (hk : ∀ k, X.2.2.2.2.2 k < B) (hb : ∀ a F, X.2.2.2.1 a = some F → ∀ b, F.2 0 = .ref b → b < B) : cl_TX X B (md_put (B + 63) σ g) := by
  have key : ∀ a, a < B → g.1 a = none → (md_put (B + 63) σ g).1 a = none := fun a ha hg => by
    show (if B + 63 ≤ a ∧ a < B + 63 + 23 then some (md_cell (B + 63) σ (a - (B + 63))) else g.1 a) = none
    rw [if_neg (by omega), hg]
  have one : ∀ k s, cl_tx X B g k s → cl_tx X B (md_put (B + 63) σ g) k s := fun k s ht => by
    obtain ⟨⟨o1, o2⟩, F, b, f1, f2, f3, ⟨p1, p2, p3⟩, p4, p5⟩ := ht
    exact ⟨⟨o1, key _ (hk k) o2⟩, F, b, f1, f2, f3, ⟨p1, key b (hb _ _ f1 b f2) p2, p3⟩, p4, p5⟩
  exact ⟨h.1, one _ _ h.2.1, one _ _ h.2.2.1, one _ _ h.2.2.2.1, one _ _ h.2.2.2.2⟩
theorem cl_WX_md {X : xo_X} {B : Nat} {σ : md_S} {g : xo_G} (h : cl_WX X B g) (hk : ∀ a, X.2.2.2.2.1 0 = .ref a → a < B) : cl_WX X B (md_put (B + 63) σ g) := by
  obtain ⟨a, h1, ⟨h2, h3⟩, h4⟩ := h
  refine ⟨a, h1, ⟨h2, ?_⟩, h4⟩
  show (if B + 63 ≤ a ∧ a < B + 63 + 23 then some (md_cell (B + 63) σ (a - (B + 63))) else g.1 a) = none
  have hlt : a < B := hk a h1
  rw [if_neg (fun z => absurd (Nat.lt_of_lt_of_le hlt (Nat.le_trans (Nat.le_add_right B 63) z.1)) (Nat.lt_irrefl a)), h3]
/-- what is read all along: the script at b, the texts, the patterns -/
def la_X (X : xo_X) (B b L : Nat) (xs : Nat → Int32) (g : xo_G) : Prop := (X.1 b = some (L, xs) ∧ b < B ∧ g.1 b = none ∧ L ≤ 2048) ∧ (∀ σ, cl_TX X B (md_put (B + 63) σ g)) ∧ ∀ σ, cl_WX X B (md_put (B + 63) σ g)
theorem ite_cases {c p q : Prop} [Decidable c] (h : c → p) (h2 : ¬ c → q) : (if c then p else q) := by
  split
  · exact h (by assumption)
  · exact h2 (by assumption)
section LA
variable {X : xo_X} {d B b L : Nat} {xs : Nat → Int32} {g : xo_G} {Q : Option Value → xo_G → Prop}
theorem la_none {τ : cl_S} {σ : md_S} (h : la_X X B b L xs g) : (cl_put B τ (md_put (B + 63) σ g)).1 b = none := by
  show (if B ≤ b ∧ b < B + 63 then some (cl_cell B τ (b - B)) else (if B + 63 ≤ b ∧ b < B + 63 + 23 then some (md_cell (B + 63) σ (b - (B + 63))) else g.1 b)) = none
  have h1 := h.1.2.1
  rw [if_neg (by omega), if_neg (by omega)]
  exact h.1.2.2.1
theorem la_ia {τ : cl_S} {σ : md_S} {u : Nat} {K : Int32 → Prop} (h : la_X X B b L xs g) (hu : u < L) : ev_ia X (cl_put B τ (md_put (B + 63) σ g)) b (nI u) K ↔ K (xs u) := by
  unfold ev_ia xo_ri
  rw [la_none h]
  have h1 := h.1.2.2.2
  simp only [h.1.1]
  rw [xo_in hu (by omega), nI_clamp (by omega)]
  simp
theorem la_al {τ : cl_S} {σ : md_S} {K : Int32 → Prop} (h : la_X X B b L xs g) : ev_al X (cl_put B τ (md_put (B + 63) σ g)) b K ↔ K (nI L) := by
  unfold ev_al xo_al
  rw [la_none h]
  simp only [h.1.1]
  rfl
theorem la_rc {τ : cl_S} {σ : md_S} {P : Prop} : ev_rc X (cl_put B τ (md_put (B + 63) σ g)) (B + 63) 7 P ↔ P := by
  rw [hp_sw]
  exact md_rc
/-- both stand in one world -/
def la_I (τ : cl_S) (σ : md_S) : Prop := ∃ w, sp_wok w ∧ cl_R τ w ∧ md_R σ w
/-- the loop's head -/
abbrev la_H (X : xo_X) (d B b : Nat) (g : xo_G) (Q : Option Value → xo_G → Prop) (i : Nat) (τ : cl_S) (σ : md_S) : Prop := ev_R X (d + 260) m_La_law 18 [some (.ref b), some (.ref B), some (.ref (B + 63)), some (.int (nI i))] [] (cl_put B τ (md_put (B + 63) σ g)) Q
/-- one call, its two answers equal: on to the next -/
theorem la_nx {i : Nat} {τ : cl_S} {σ : md_S} (h : la_H X d B b g Q (i + 4) τ σ) : ev_R X (d + 260) m_La_law 607 [some (.ref b), some (.ref B), some (.ref (B + 63)), some (.int (nI i))] [] (cl_put B τ (md_put (B + 63) σ g)) Q := by
  have e : nI i + 4 = nI (i + 4) := nI_add i 4
  simp (disch := first | exact ev_ok_i _ | exact ev_ok_r _ | exact ev_ok_n | omega | assumption | decide) only [e_La_law_607, ev_rm_n, ev_rm_i, ev_rm_r, ev_rm_l, ev_ok_n, ev_ok_i, ev_ok_r, Option.toList_some, Option.toList_none, List.cons_append, List.nil_append, true_and, and_true, true_or, or_true, reduceIte, Nat.reduceEqDiff, if_true, if_false, e]
  rw [e_La_law_610]
  exact h
theorem la_feed {i : Nat} {τ : cl_S} {σ : md_S} {w : sp_W} (hX : la_X X B b L xs g) (hi : i + 4 ≤ L) (hw : sp_wok w) (hR : cl_R τ w) (hM : md_R σ w) (hn : ∀ τ2 σ2, la_I τ2 σ2 → la_H X d B b g Q (i + 4) τ2 σ2) : ev_R X (d + 260) m_La_law 116 [some (.ref b), some (.ref B), some (.ref (B + 63)), some (.int (nI i))] [] (cl_put B τ (md_put (B + 63) σ g)) Q := by
  have e2 : nI i + 2 = nI (i + 2) := nI_add i 2
  have e3 : nI i + 3 = nI (i + 3) := nI_add i 3
  have i1 : ∀ (τ : cl_S) (σ : md_S) (K : Int32 → Prop), ev_ia X (cl_put B τ (md_put (B + 63) σ g)) b (nI (i + 1)) K ↔ K (xs (i + 1)) := fun τ σ K => la_ia hX (by omega)
  have i2 : ∀ (τ : cl_S) (σ : md_S) (K : Int32 → Prop), ev_ia X (cl_put B τ (md_put (B + 63) σ g)) b (nI (i + 2)) K ↔ K (xs (i + 2)) := fun τ σ K => la_ia hX (by omega)
  have i3 : ∀ (τ : cl_S) (σ : md_S) (K : Int32 → Prop), ev_ia X (cl_put B τ (md_put (B + 63) σ g)) b (nI (i + 3)) K ↔ K (xs (i + 3)) := fun τ σ K => la_ia hX (by omega)
  simp (disch := first | exact ev_ok_i _ | exact ev_ok_r _ | exact ev_ok_n | omega | assumption | decide) only [e_La_law_116, e_La_law_117, e_La_law_118, e_La_law_119, e_La_law_120, e_La_law_121, e_La_law_122, e_La_law_123, e_La_law_125, e_La_law_126, e_La_law_127, e_La_law_128, e_La_law_129, e_La_law_130, e_La_law_131, e_La_law_132, e_La_law_135, e_La_law_136, e_La_law_137, e_La_law_138, e_La_law_139, e_La_law_140, e_La_law_141, ev_rm_n, ev_rm_i, ev_rm_r, ev_rm_l, ev_ok_n, ev_ok_i, ev_ok_r, Option.toList_some, Option.toList_none, List.cons_append, List.nil_append, true_and, and_true, true_or, or_true, reduceIte, Nat.reduceEqDiff, if_true, if_false, nI_1, e2, e3, i1, i2, i3]
  rw [e_La_law_142]
  simp (disch := first | exact ev_ok_i _ | exact ev_ok_r _ | exact ev_ok_n | omega | assumption | decide) only [ev_rm_n, ev_rm_i, ev_rm_r, ev_rm_l, ev_ok_n, ev_ok_i, ev_ok_r, Option.toList_some, Option.toList_none, List.cons_append, List.nil_append, true_and, and_true, true_or, or_true, reduceIte, Nat.reduceEqDiff, if_true, if_false, cg_Dp_rc, cg_Dp_text, cg_Dp_circuit, cg_Dp_reader, cg_Dp_current, cg_Dp_working, cg_Dp_saturator, cg_Dp_table, cg_Te_rc, cg_Te_bytes, cg_Te_length, cp_Te_length, cg_Ci_rc, cg_Ci_kinds, cg_Ci_firsts, cg_Ci_seconds, cg_Ci_inputVariables, cg_Ci_names, cg_Ci_nameLengths, cg_Ci_size, cp_Ci_size, cg_Ci_inputs, cp_Ci_inputs, cg_Re_rc, cg_Re_text, cg_Re_circuit, cg_Re_token, cp_Re_token, cg_Re_start, cp_Re_start, cg_Re_next, cp_Re_next, cg_Re_open, cp_Re_open, cg_Re_fault, cp_Re_fault, cg_Re_faultPlace, cp_Re_faultPlace, cg_Sa_rc, cg_Sa_circuit, cg_Sa_before, cg_Sa_trueBranches, cg_Sa_falseBranches, cg_Sa_tallies, cg_Sa_mostSteps, cp_Sa_mostSteps, cg_Sa_spent, cp_Sa_spent, cg_Ta_rc, cg_Ta_circuit, cg_Ta_words, cr_kinds, cw_kinds, cr_firsts, cw_firsts, cr_seconds, cw_seconds, cr_inputVariables, cw_inputVariables, cr_nameLengths, cw_nameLengths, cr_tallies, cw_tallies, cr_bytes, cw_bytes, cr_words, cw_words, cl_tallies, cr_names, cr_trueB, cr_falseB, cr_name, cw_name, cq_rc, cq_st, cq_size, cq_classes, cq_contradiction, cqp_size, cqp_classes, cqp_contradiction, cq_rd, cq_wr, cq_copy, cl_s_1, cl_s_2, cl_ar_1, cl_ar_2, cl_w_1, cl_w_2]
  refine c_dpFeed hR hw _ _ (fun τ2 r => ?_)
  simp (disch := first | exact ev_ok_i _ | exact ev_ok_r _ | exact ev_ok_n | omega | assumption | decide) only [e_La_law_145, e_La_law_146, e_La_law_147, e_La_law_148, e_La_law_149, e_La_law_150, e_La_law_151, e_La_law_152, e_La_law_154, e_La_law_155, e_La_law_156, e_La_law_157, e_La_law_158, e_La_law_159, e_La_law_160, e_La_law_161, e_La_law_164, e_La_law_165, e_La_law_166, e_La_law_167, e_La_law_168, e_La_law_169, e_La_law_170, ev_rm_n, ev_rm_i, ev_rm_r, ev_rm_l, ev_ok_n, ev_ok_i, ev_ok_r, Option.toList_some, Option.toList_none, List.cons_append, List.nil_append, true_and, and_true, true_or, or_true, reduceIte, Nat.reduceEqDiff, if_true, if_false, nI_1, e2, e3, i1, i2, i3]
  rw [e_La_law_171]
  simp (disch := first | exact ev_ok_i _ | exact ev_ok_r _ | exact ev_ok_n | omega | assumption | decide) only [ev_rm_n, ev_rm_i, ev_rm_r, ev_rm_l, ev_ok_n, ev_ok_i, ev_ok_r, Option.toList_some, Option.toList_none, List.cons_append, List.nil_append, true_and, and_true, true_or, or_true, reduceIte, Nat.reduceEqDiff, if_true, if_false, la_rc]
  rw [hp_sw]
  refine c_feed hM hw _ _ (fun σ2 q => ?_)
  simp (disch := first | exact ev_ok_i _ | exact ev_ok_r _ | exact ev_ok_n | omega | assumption | decide) only [e_La_law_174, ev_rm_n, ev_rm_i, ev_rm_r, ev_rm_l, ev_ok_n, ev_ok_i, ev_ok_r, Option.toList_some, Option.toList_none, List.cons_append, List.nil_append, true_and, and_true, true_or, or_true, reduceIte, Nat.reduceEqDiff, if_true, if_false]
  rw [← hp_sw]
  exact la_nx (hn _ _ ⟨_, ok_feed hw _ _, r, q⟩)
theorem la_read {i : Nat} {τ : cl_S} {σ : md_S} {w : sp_W} (hX : la_X X B b L xs g) (hi : i + 4 ≤ L) (hw : sp_wok w) (hR : cl_R τ w) (hM : md_R σ w) (hn : ∀ τ2 σ2, la_I τ2 σ2 → la_H X d B b g Q (i + 4) τ2 σ2) : ev_R X (d + 260) m_La_law 179 [some (.ref b), some (.ref B), some (.ref (B + 63)), some (.int (nI i))] [] (cl_put B τ (md_put (B + 63) σ g)) Q := by
  have e2 : nI i + 2 = nI (i + 2) := nI_add i 2
  have e3 : nI i + 3 = nI (i + 3) := nI_add i 3
  have i1 : ∀ (τ : cl_S) (σ : md_S) (K : Int32 → Prop), ev_ia X (cl_put B τ (md_put (B + 63) σ g)) b (nI (i + 1)) K ↔ K (xs (i + 1)) := fun τ σ K => la_ia hX (by omega)
  have i2 : ∀ (τ : cl_S) (σ : md_S) (K : Int32 → Prop), ev_ia X (cl_put B τ (md_put (B + 63) σ g)) b (nI (i + 2)) K ↔ K (xs (i + 2)) := fun τ σ K => la_ia hX (by omega)
  have i3 : ∀ (τ : cl_S) (σ : md_S) (K : Int32 → Prop), ev_ia X (cl_put B τ (md_put (B + 63) σ g)) b (nI (i + 3)) K ↔ K (xs (i + 3)) := fun τ σ K => la_ia hX (by omega)
  simp (disch := first | exact ev_ok_i _ | exact ev_ok_r _ | exact ev_ok_n | omega | assumption | decide) only [e_La_law_179, ev_rm_n, ev_rm_i, ev_rm_r, ev_rm_l, ev_ok_n, ev_ok_i, ev_ok_r, Option.toList_some, Option.toList_none, List.cons_append, List.nil_append, true_and, and_true, true_or, or_true, reduceIte, Nat.reduceEqDiff, if_true, if_false, nI_1, e2, e3, i1, i2, i3]
  rw [e_La_law_180]
  simp (disch := first | exact ev_ok_i _ | exact ev_ok_r _ | exact ev_ok_n | omega | assumption | decide) only [ev_rm_n, ev_rm_i, ev_rm_r, ev_rm_l, ev_ok_n, ev_ok_i, ev_ok_r, Option.toList_some, Option.toList_none, List.cons_append, List.nil_append, true_and, and_true, true_or, or_true, reduceIte, Nat.reduceEqDiff, if_true, if_false, cg_Dp_rc, cg_Dp_text, cg_Dp_circuit, cg_Dp_reader, cg_Dp_current, cg_Dp_working, cg_Dp_saturator, cg_Dp_table, cg_Te_rc, cg_Te_bytes, cg_Te_length, cp_Te_length, cg_Ci_rc, cg_Ci_kinds, cg_Ci_firsts, cg_Ci_seconds, cg_Ci_inputVariables, cg_Ci_names, cg_Ci_nameLengths, cg_Ci_size, cp_Ci_size, cg_Ci_inputs, cp_Ci_inputs, cg_Re_rc, cg_Re_text, cg_Re_circuit, cg_Re_token, cp_Re_token, cg_Re_start, cp_Re_start, cg_Re_next, cp_Re_next, cg_Re_open, cp_Re_open, cg_Re_fault, cp_Re_fault, cg_Re_faultPlace, cp_Re_faultPlace, cg_Sa_rc, cg_Sa_circuit, cg_Sa_before, cg_Sa_trueBranches, cg_Sa_falseBranches, cg_Sa_tallies, cg_Sa_mostSteps, cp_Sa_mostSteps, cg_Sa_spent, cp_Sa_spent, cg_Ta_rc, cg_Ta_circuit, cg_Ta_words, cr_kinds, cw_kinds, cr_firsts, cw_firsts, cr_seconds, cw_seconds, cr_inputVariables, cw_inputVariables, cr_nameLengths, cw_nameLengths, cr_tallies, cw_tallies, cr_bytes, cw_bytes, cr_words, cw_words, cl_tallies, cr_names, cr_trueB, cr_falseB, cr_name, cw_name, cq_rc, cq_st, cq_size, cq_classes, cq_contradiction, cqp_size, cqp_classes, cqp_contradiction, cq_rd, cq_wr, cq_copy, cl_s_1, cl_s_2, cl_ar_1, cl_ar_2, cl_w_1, cl_w_2]
  refine c_dpRead (hX.2.1 σ) (Nat.le_refl 24007) hR hw  (fun τ2 r => ?_)
  simp (disch := first | exact ev_ok_i _ | exact ev_ok_r _ | exact ev_ok_n | omega | assumption | decide) only [e_La_law_183, ev_rm_n, ev_rm_i, ev_rm_r, ev_rm_l, ev_ok_n, ev_ok_i, ev_ok_r, Option.toList_some, Option.toList_none, List.cons_append, List.nil_append, true_and, and_true, true_or, or_true, reduceIte, Nat.reduceEqDiff, if_true, if_false, nI_1, e2, e3, i1, i2, i3]
  rw [e_La_law_184]
  simp (disch := first | exact ev_ok_i _ | exact ev_ok_r _ | exact ev_ok_n | omega | assumption | decide) only [ev_rm_n, ev_rm_i, ev_rm_r, ev_rm_l, ev_ok_n, ev_ok_i, ev_ok_r, Option.toList_some, Option.toList_none, List.cons_append, List.nil_append, true_and, and_true, true_or, or_true, reduceIte, Nat.reduceEqDiff, if_true, if_false, la_rc]
  rw [hp_sw]
  refine c_mdRead (Nat.le_refl 24007) hM hw  (fun σ2 q => ?_)
  simp (disch := first | exact ev_ok_i _ | exact ev_ok_r _ | exact ev_ok_n | omega | assumption | decide) only [e_La_law_187, ev_rm_n, ev_rm_i, ev_rm_r, ev_rm_l, ev_ok_n, ev_ok_i, ev_ok_r, Option.toList_some, Option.toList_none, List.cons_append, List.nil_append, true_and, and_true, true_or, or_true, reduceIte, Nat.reduceEqDiff, if_true, if_false]
  rw [← hp_sw]
  exact la_nx (hn _ _ ⟨_, ok_read (Nat.le_refl 24007) hw, r, q⟩)
theorem la_place {i : Nat} {τ : cl_S} {σ : md_S} {w : sp_W} (hX : la_X X B b L xs g) (hi : i + 4 ≤ L) (hw : sp_wok w) (hR : cl_R τ w) (hM : md_R σ w) (hn : ∀ τ2 σ2, la_I τ2 σ2 → la_H X d B b g Q (i + 4) τ2 σ2) : ev_R X (d + 260) m_La_law 192 [some (.ref b), some (.ref B), some (.ref (B + 63)), some (.int (nI i))] [] (cl_put B τ (md_put (B + 63) σ g)) Q := by
  have e2 : nI i + 2 = nI (i + 2) := nI_add i 2
  have e3 : nI i + 3 = nI (i + 3) := nI_add i 3
  have i1 : ∀ (τ : cl_S) (σ : md_S) (K : Int32 → Prop), ev_ia X (cl_put B τ (md_put (B + 63) σ g)) b (nI (i + 1)) K ↔ K (xs (i + 1)) := fun τ σ K => la_ia hX (by omega)
  have i2 : ∀ (τ : cl_S) (σ : md_S) (K : Int32 → Prop), ev_ia X (cl_put B τ (md_put (B + 63) σ g)) b (nI (i + 2)) K ↔ K (xs (i + 2)) := fun τ σ K => la_ia hX (by omega)
  have i3 : ∀ (τ : cl_S) (σ : md_S) (K : Int32 → Prop), ev_ia X (cl_put B τ (md_put (B + 63) σ g)) b (nI (i + 3)) K ↔ K (xs (i + 3)) := fun τ σ K => la_ia hX (by omega)
  simp (disch := first | exact ev_ok_i _ | exact ev_ok_r _ | exact ev_ok_n | omega | assumption | decide) only [e_La_law_192, ev_rm_n, ev_rm_i, ev_rm_r, ev_rm_l, ev_ok_n, ev_ok_i, ev_ok_r, Option.toList_some, Option.toList_none, List.cons_append, List.nil_append, true_and, and_true, true_or, or_true, reduceIte, Nat.reduceEqDiff, if_true, if_false, nI_1, e2, e3, i1, i2, i3]
  rw [e_La_law_193]
  simp (disch := first | exact ev_ok_i _ | exact ev_ok_r _ | exact ev_ok_n | omega | assumption | decide) only [ev_rm_n, ev_rm_i, ev_rm_r, ev_rm_l, ev_ok_n, ev_ok_i, ev_ok_r, Option.toList_some, Option.toList_none, List.cons_append, List.nil_append, true_and, and_true, true_or, or_true, reduceIte, Nat.reduceEqDiff, if_true, if_false, cg_Dp_rc, cg_Dp_text, cg_Dp_circuit, cg_Dp_reader, cg_Dp_current, cg_Dp_working, cg_Dp_saturator, cg_Dp_table, cg_Te_rc, cg_Te_bytes, cg_Te_length, cp_Te_length, cg_Ci_rc, cg_Ci_kinds, cg_Ci_firsts, cg_Ci_seconds, cg_Ci_inputVariables, cg_Ci_names, cg_Ci_nameLengths, cg_Ci_size, cp_Ci_size, cg_Ci_inputs, cp_Ci_inputs, cg_Re_rc, cg_Re_text, cg_Re_circuit, cg_Re_token, cp_Re_token, cg_Re_start, cp_Re_start, cg_Re_next, cp_Re_next, cg_Re_open, cp_Re_open, cg_Re_fault, cp_Re_fault, cg_Re_faultPlace, cp_Re_faultPlace, cg_Sa_rc, cg_Sa_circuit, cg_Sa_before, cg_Sa_trueBranches, cg_Sa_falseBranches, cg_Sa_tallies, cg_Sa_mostSteps, cp_Sa_mostSteps, cg_Sa_spent, cp_Sa_spent, cg_Ta_rc, cg_Ta_circuit, cg_Ta_words, cr_kinds, cw_kinds, cr_firsts, cw_firsts, cr_seconds, cw_seconds, cr_inputVariables, cw_inputVariables, cr_nameLengths, cw_nameLengths, cr_tallies, cw_tallies, cr_bytes, cw_bytes, cr_words, cw_words, cl_tallies, cr_names, cr_trueB, cr_falseB, cr_name, cw_name, cq_rc, cq_st, cq_size, cq_classes, cq_contradiction, cqp_size, cqp_classes, cqp_contradiction, cq_rd, cq_wr, cq_copy, cl_s_1, cl_s_2, cl_ar_1, cl_ar_2, cl_w_1, cl_w_2]
  refine (c_dpPlace hR ).mpr ?_
  simp (disch := first | exact ev_ok_i _ | exact ev_ok_r _ | exact ev_ok_n | omega | assumption | decide) only [e_La_law_196, ev_rm_n, ev_rm_i, ev_rm_r, ev_rm_l, ev_ok_n, ev_ok_i, ev_ok_r, Option.toList_some, Option.toList_none, List.cons_append, List.nil_append, true_and, and_true, true_or, or_true, reduceIte, Nat.reduceEqDiff, if_true, if_false, nI_1, e2, e3, i1, i2, i3]
  rw [e_La_law_197]
  simp (disch := first | exact ev_ok_i _ | exact ev_ok_r _ | exact ev_ok_n | omega | assumption | decide) only [ev_rm_n, ev_rm_i, ev_rm_r, ev_rm_l, ev_ok_n, ev_ok_i, ev_ok_r, Option.toList_some, Option.toList_none, List.cons_append, List.nil_append, true_and, and_true, true_or, or_true, reduceIte, Nat.reduceEqDiff, if_true, if_false, la_rc]
  rw [hp_sw]
  refine (c_place hM ).mpr ?_
  simp (disch := first | exact ev_ok_i _ | exact ev_ok_r _ | exact ev_ok_n | omega | assumption | decide) only [e_La_law_200, ev_rm_n, ev_rm_i, ev_rm_r, ev_rm_l, ev_ok_n, ev_ok_i, ev_ok_r, Option.toList_some, Option.toList_none, List.cons_append, List.nil_append, true_and, and_true, true_or, or_true, reduceIte, Nat.reduceEqDiff, if_true, if_false]
  rw [← hp_sw]
  exact la_nx (hn _ _ ⟨w, hw, hR, hM⟩)
theorem la_count {i : Nat} {τ : cl_S} {σ : md_S} {w : sp_W} (hX : la_X X B b L xs g) (hi : i + 4 ≤ L) (hw : sp_wok w) (hR : cl_R τ w) (hM : md_R σ w) (hn : ∀ τ2 σ2, la_I τ2 σ2 → la_H X d B b g Q (i + 4) τ2 σ2) : ev_R X (d + 260) m_La_law 205 [some (.ref b), some (.ref B), some (.ref (B + 63)), some (.int (nI i))] [] (cl_put B τ (md_put (B + 63) σ g)) Q := by
  have e2 : nI i + 2 = nI (i + 2) := nI_add i 2
  have e3 : nI i + 3 = nI (i + 3) := nI_add i 3
  have i1 : ∀ (τ : cl_S) (σ : md_S) (K : Int32 → Prop), ev_ia X (cl_put B τ (md_put (B + 63) σ g)) b (nI (i + 1)) K ↔ K (xs (i + 1)) := fun τ σ K => la_ia hX (by omega)
  have i2 : ∀ (τ : cl_S) (σ : md_S) (K : Int32 → Prop), ev_ia X (cl_put B τ (md_put (B + 63) σ g)) b (nI (i + 2)) K ↔ K (xs (i + 2)) := fun τ σ K => la_ia hX (by omega)
  have i3 : ∀ (τ : cl_S) (σ : md_S) (K : Int32 → Prop), ev_ia X (cl_put B τ (md_put (B + 63) σ g)) b (nI (i + 3)) K ↔ K (xs (i + 3)) := fun τ σ K => la_ia hX (by omega)
  simp (disch := first | exact ev_ok_i _ | exact ev_ok_r _ | exact ev_ok_n | omega | assumption | decide) only [e_La_law_205, e_La_law_206, e_La_law_207, e_La_law_208, e_La_law_209, e_La_law_210, ev_rm_n, ev_rm_i, ev_rm_r, ev_rm_l, ev_ok_n, ev_ok_i, ev_ok_r, Option.toList_some, Option.toList_none, List.cons_append, List.nil_append, true_and, and_true, true_or, or_true, reduceIte, Nat.reduceEqDiff, if_true, if_false, nI_1, e2, e3, i1, i2, i3]
  rw [e_La_law_211]
  simp (disch := first | exact ev_ok_i _ | exact ev_ok_r _ | exact ev_ok_n | omega | assumption | decide) only [ev_rm_n, ev_rm_i, ev_rm_r, ev_rm_l, ev_ok_n, ev_ok_i, ev_ok_r, Option.toList_some, Option.toList_none, List.cons_append, List.nil_append, true_and, and_true, true_or, or_true, reduceIte, Nat.reduceEqDiff, if_true, if_false, cg_Dp_rc, cg_Dp_text, cg_Dp_circuit, cg_Dp_reader, cg_Dp_current, cg_Dp_working, cg_Dp_saturator, cg_Dp_table, cg_Te_rc, cg_Te_bytes, cg_Te_length, cp_Te_length, cg_Ci_rc, cg_Ci_kinds, cg_Ci_firsts, cg_Ci_seconds, cg_Ci_inputVariables, cg_Ci_names, cg_Ci_nameLengths, cg_Ci_size, cp_Ci_size, cg_Ci_inputs, cp_Ci_inputs, cg_Re_rc, cg_Re_text, cg_Re_circuit, cg_Re_token, cp_Re_token, cg_Re_start, cp_Re_start, cg_Re_next, cp_Re_next, cg_Re_open, cp_Re_open, cg_Re_fault, cp_Re_fault, cg_Re_faultPlace, cp_Re_faultPlace, cg_Sa_rc, cg_Sa_circuit, cg_Sa_before, cg_Sa_trueBranches, cg_Sa_falseBranches, cg_Sa_tallies, cg_Sa_mostSteps, cp_Sa_mostSteps, cg_Sa_spent, cp_Sa_spent, cg_Ta_rc, cg_Ta_circuit, cg_Ta_words, cr_kinds, cw_kinds, cr_firsts, cw_firsts, cr_seconds, cw_seconds, cr_inputVariables, cw_inputVariables, cr_nameLengths, cw_nameLengths, cr_tallies, cw_tallies, cr_bytes, cw_bytes, cr_words, cw_words, cl_tallies, cr_names, cr_trueB, cr_falseB, cr_name, cw_name, cq_rc, cq_st, cq_size, cq_classes, cq_contradiction, cqp_size, cqp_classes, cqp_contradiction, cq_rd, cq_wr, cq_copy, cl_s_1, cl_s_2, cl_ar_1, cl_ar_2, cl_w_1, cl_w_2]
  refine (c_dpCount hR _).mpr ?_
  simp (disch := first | exact ev_ok_i _ | exact ev_ok_r _ | exact ev_ok_n | omega | assumption | decide) only [e_La_law_214, e_La_law_215, e_La_law_216, e_La_law_217, e_La_law_218, e_La_law_219, ev_rm_n, ev_rm_i, ev_rm_r, ev_rm_l, ev_ok_n, ev_ok_i, ev_ok_r, Option.toList_some, Option.toList_none, List.cons_append, List.nil_append, true_and, and_true, true_or, or_true, reduceIte, Nat.reduceEqDiff, if_true, if_false, nI_1, e2, e3, i1, i2, i3]
  rw [e_La_law_220]
  simp (disch := first | exact ev_ok_i _ | exact ev_ok_r _ | exact ev_ok_n | omega | assumption | decide) only [ev_rm_n, ev_rm_i, ev_rm_r, ev_rm_l, ev_ok_n, ev_ok_i, ev_ok_r, Option.toList_some, Option.toList_none, List.cons_append, List.nil_append, true_and, and_true, true_or, or_true, reduceIte, Nat.reduceEqDiff, if_true, if_false, la_rc]
  rw [hp_sw]
  refine (c_count hM hw _).mpr ?_
  simp (disch := first | exact ev_ok_i _ | exact ev_ok_r _ | exact ev_ok_n | omega | assumption | decide) only [e_La_law_223, ev_rm_n, ev_rm_i, ev_rm_r, ev_rm_l, ev_ok_n, ev_ok_i, ev_ok_r, Option.toList_some, Option.toList_none, List.cons_append, List.nil_append, true_and, and_true, true_or, or_true, reduceIte, Nat.reduceEqDiff, if_true, if_false]
  rw [← hp_sw]
  exact la_nx (hn _ _ ⟨w, hw, hR, hM⟩)
theorem la_variable {i : Nat} {τ : cl_S} {σ : md_S} {w : sp_W} (hX : la_X X B b L xs g) (hi : i + 4 ≤ L) (hw : sp_wok w) (hR : cl_R τ w) (hM : md_R σ w) (hn : ∀ τ2 σ2, la_I τ2 σ2 → la_H X d B b g Q (i + 4) τ2 σ2) : ev_R X (d + 260) m_La_law 228 [some (.ref b), some (.ref B), some (.ref (B + 63)), some (.int (nI i))] [] (cl_put B τ (md_put (B + 63) σ g)) Q := by
  have e2 : nI i + 2 = nI (i + 2) := nI_add i 2
  have e3 : nI i + 3 = nI (i + 3) := nI_add i 3
  have i1 : ∀ (τ : cl_S) (σ : md_S) (K : Int32 → Prop), ev_ia X (cl_put B τ (md_put (B + 63) σ g)) b (nI (i + 1)) K ↔ K (xs (i + 1)) := fun τ σ K => la_ia hX (by omega)
  have i2 : ∀ (τ : cl_S) (σ : md_S) (K : Int32 → Prop), ev_ia X (cl_put B τ (md_put (B + 63) σ g)) b (nI (i + 2)) K ↔ K (xs (i + 2)) := fun τ σ K => la_ia hX (by omega)
  have i3 : ∀ (τ : cl_S) (σ : md_S) (K : Int32 → Prop), ev_ia X (cl_put B τ (md_put (B + 63) σ g)) b (nI (i + 3)) K ↔ K (xs (i + 3)) := fun τ σ K => la_ia hX (by omega)
  simp (disch := first | exact ev_ok_i _ | exact ev_ok_r _ | exact ev_ok_n | omega | assumption | decide) only [e_La_law_228, e_La_law_229, e_La_law_230, e_La_law_231, e_La_law_232, e_La_law_233, e_La_law_234, e_La_law_235, e_La_law_236, e_La_law_237, e_La_law_238, ev_rm_n, ev_rm_i, ev_rm_r, ev_rm_l, ev_ok_n, ev_ok_i, ev_ok_r, Option.toList_some, Option.toList_none, List.cons_append, List.nil_append, true_and, and_true, true_or, or_true, reduceIte, Nat.reduceEqDiff, if_true, if_false, nI_1, e2, e3, i1, i2, i3]
  rw [e_La_law_239]
  simp (disch := first | exact ev_ok_i _ | exact ev_ok_r _ | exact ev_ok_n | omega | assumption | decide) only [ev_rm_n, ev_rm_i, ev_rm_r, ev_rm_l, ev_ok_n, ev_ok_i, ev_ok_r, Option.toList_some, Option.toList_none, List.cons_append, List.nil_append, true_and, and_true, true_or, or_true, reduceIte, Nat.reduceEqDiff, if_true, if_false, cg_Dp_rc, cg_Dp_text, cg_Dp_circuit, cg_Dp_reader, cg_Dp_current, cg_Dp_working, cg_Dp_saturator, cg_Dp_table, cg_Te_rc, cg_Te_bytes, cg_Te_length, cp_Te_length, cg_Ci_rc, cg_Ci_kinds, cg_Ci_firsts, cg_Ci_seconds, cg_Ci_inputVariables, cg_Ci_names, cg_Ci_nameLengths, cg_Ci_size, cp_Ci_size, cg_Ci_inputs, cp_Ci_inputs, cg_Re_rc, cg_Re_text, cg_Re_circuit, cg_Re_token, cp_Re_token, cg_Re_start, cp_Re_start, cg_Re_next, cp_Re_next, cg_Re_open, cp_Re_open, cg_Re_fault, cp_Re_fault, cg_Re_faultPlace, cp_Re_faultPlace, cg_Sa_rc, cg_Sa_circuit, cg_Sa_before, cg_Sa_trueBranches, cg_Sa_falseBranches, cg_Sa_tallies, cg_Sa_mostSteps, cp_Sa_mostSteps, cg_Sa_spent, cp_Sa_spent, cg_Ta_rc, cg_Ta_circuit, cg_Ta_words, cr_kinds, cw_kinds, cr_firsts, cw_firsts, cr_seconds, cw_seconds, cr_inputVariables, cw_inputVariables, cr_nameLengths, cw_nameLengths, cr_tallies, cw_tallies, cr_bytes, cw_bytes, cr_words, cw_words, cl_tallies, cr_names, cr_trueB, cr_falseB, cr_name, cw_name, cq_rc, cq_st, cq_size, cq_classes, cq_contradiction, cqp_size, cqp_classes, cqp_contradiction, cq_rd, cq_wr, cq_copy, cl_s_1, cl_s_2, cl_ar_1, cl_ar_2, cl_w_1, cl_w_2]
  refine (c_dpVariable hR hw _ _).mpr ?_
  simp (disch := first | exact ev_ok_i _ | exact ev_ok_r _ | exact ev_ok_n | omega | assumption | decide) only [e_La_law_242, e_La_law_243, e_La_law_244, e_La_law_245, e_La_law_246, e_La_law_247, e_La_law_248, e_La_law_249, e_La_law_250, e_La_law_251, e_La_law_252, ev_rm_n, ev_rm_i, ev_rm_r, ev_rm_l, ev_ok_n, ev_ok_i, ev_ok_r, Option.toList_some, Option.toList_none, List.cons_append, List.nil_append, true_and, and_true, true_or, or_true, reduceIte, Nat.reduceEqDiff, if_true, if_false, nI_1, e2, e3, i1, i2, i3]
  rw [e_La_law_253]
  simp (disch := first | exact ev_ok_i _ | exact ev_ok_r _ | exact ev_ok_n | omega | assumption | decide) only [ev_rm_n, ev_rm_i, ev_rm_r, ev_rm_l, ev_ok_n, ev_ok_i, ev_ok_r, Option.toList_some, Option.toList_none, List.cons_append, List.nil_append, true_and, and_true, true_or, or_true, reduceIte, Nat.reduceEqDiff, if_true, if_false, la_rc]
  rw [hp_sw]
  refine (c_variable hM hw _ _).mpr ?_
  simp (disch := first | exact ev_ok_i _ | exact ev_ok_r _ | exact ev_ok_n | omega | assumption | decide) only [e_La_law_256, ev_rm_n, ev_rm_i, ev_rm_r, ev_rm_l, ev_ok_n, ev_ok_i, ev_ok_r, Option.toList_some, Option.toList_none, List.cons_append, List.nil_append, true_and, and_true, true_or, or_true, reduceIte, Nat.reduceEqDiff, if_true, if_false]
  rw [← hp_sw]
  exact la_nx (hn _ _ ⟨w, hw, hR, hM⟩)
theorem la_gate {i : Nat} {τ : cl_S} {σ : md_S} {w : sp_W} (hX : la_X X B b L xs g) (hi : i + 4 ≤ L) (hw : sp_wok w) (hR : cl_R τ w) (hM : md_R σ w) (hn : ∀ τ2 σ2, la_I τ2 σ2 → la_H X d B b g Q (i + 4) τ2 σ2) : ev_R X (d + 260) m_La_law 261 [some (.ref b), some (.ref B), some (.ref (B + 63)), some (.int (nI i))] [] (cl_put B τ (md_put (B + 63) σ g)) Q := by
  have e2 : nI i + 2 = nI (i + 2) := nI_add i 2
  have e3 : nI i + 3 = nI (i + 3) := nI_add i 3
  have i1 : ∀ (τ : cl_S) (σ : md_S) (K : Int32 → Prop), ev_ia X (cl_put B τ (md_put (B + 63) σ g)) b (nI (i + 1)) K ↔ K (xs (i + 1)) := fun τ σ K => la_ia hX (by omega)
  have i2 : ∀ (τ : cl_S) (σ : md_S) (K : Int32 → Prop), ev_ia X (cl_put B τ (md_put (B + 63) σ g)) b (nI (i + 2)) K ↔ K (xs (i + 2)) := fun τ σ K => la_ia hX (by omega)
  have i3 : ∀ (τ : cl_S) (σ : md_S) (K : Int32 → Prop), ev_ia X (cl_put B τ (md_put (B + 63) σ g)) b (nI (i + 3)) K ↔ K (xs (i + 3)) := fun τ σ K => la_ia hX (by omega)
  simp (disch := first | exact ev_ok_i _ | exact ev_ok_r _ | exact ev_ok_n | omega | assumption | decide) only [e_La_law_261, e_La_law_262, e_La_law_263, e_La_law_264, e_La_law_265, e_La_law_266, e_La_law_267, e_La_law_268, e_La_law_269, e_La_law_270, e_La_law_271, e_La_law_272, e_La_law_273, e_La_law_274, e_La_law_275, e_La_law_276, ev_rm_n, ev_rm_i, ev_rm_r, ev_rm_l, ev_ok_n, ev_ok_i, ev_ok_r, Option.toList_some, Option.toList_none, List.cons_append, List.nil_append, true_and, and_true, true_or, or_true, reduceIte, Nat.reduceEqDiff, if_true, if_false, nI_1, e2, e3, i1, i2, i3]
  rw [e_La_law_277]
  simp (disch := first | exact ev_ok_i _ | exact ev_ok_r _ | exact ev_ok_n | omega | assumption | decide) only [ev_rm_n, ev_rm_i, ev_rm_r, ev_rm_l, ev_ok_n, ev_ok_i, ev_ok_r, Option.toList_some, Option.toList_none, List.cons_append, List.nil_append, true_and, and_true, true_or, or_true, reduceIte, Nat.reduceEqDiff, if_true, if_false, cg_Dp_rc, cg_Dp_text, cg_Dp_circuit, cg_Dp_reader, cg_Dp_current, cg_Dp_working, cg_Dp_saturator, cg_Dp_table, cg_Te_rc, cg_Te_bytes, cg_Te_length, cp_Te_length, cg_Ci_rc, cg_Ci_kinds, cg_Ci_firsts, cg_Ci_seconds, cg_Ci_inputVariables, cg_Ci_names, cg_Ci_nameLengths, cg_Ci_size, cp_Ci_size, cg_Ci_inputs, cp_Ci_inputs, cg_Re_rc, cg_Re_text, cg_Re_circuit, cg_Re_token, cp_Re_token, cg_Re_start, cp_Re_start, cg_Re_next, cp_Re_next, cg_Re_open, cp_Re_open, cg_Re_fault, cp_Re_fault, cg_Re_faultPlace, cp_Re_faultPlace, cg_Sa_rc, cg_Sa_circuit, cg_Sa_before, cg_Sa_trueBranches, cg_Sa_falseBranches, cg_Sa_tallies, cg_Sa_mostSteps, cp_Sa_mostSteps, cg_Sa_spent, cp_Sa_spent, cg_Ta_rc, cg_Ta_circuit, cg_Ta_words, cr_kinds, cw_kinds, cr_firsts, cw_firsts, cr_seconds, cw_seconds, cr_inputVariables, cw_inputVariables, cr_nameLengths, cw_nameLengths, cr_tallies, cw_tallies, cr_bytes, cw_bytes, cr_words, cw_words, cl_tallies, cr_names, cr_trueB, cr_falseB, cr_name, cw_name, cq_rc, cq_st, cq_size, cq_classes, cq_contradiction, cqp_size, cqp_classes, cqp_contradiction, cq_rd, cq_wr, cq_copy, cl_s_1, cl_s_2, cl_ar_1, cl_ar_2, cl_w_1, cl_w_2]
  refine c_dpGate hR hw _ _ _ (fun τ2 r => ?_)
  simp (disch := first | exact ev_ok_i _ | exact ev_ok_r _ | exact ev_ok_n | omega | assumption | decide) only [e_La_law_280, e_La_law_281, e_La_law_282, e_La_law_283, e_La_law_284, e_La_law_285, e_La_law_286, e_La_law_287, e_La_law_288, e_La_law_289, e_La_law_290, e_La_law_291, e_La_law_292, e_La_law_293, e_La_law_294, e_La_law_295, ev_rm_n, ev_rm_i, ev_rm_r, ev_rm_l, ev_ok_n, ev_ok_i, ev_ok_r, Option.toList_some, Option.toList_none, List.cons_append, List.nil_append, true_and, and_true, true_or, or_true, reduceIte, Nat.reduceEqDiff, if_true, if_false, nI_1, e2, e3, i1, i2, i3]
  rw [e_La_law_296]
  simp (disch := first | exact ev_ok_i _ | exact ev_ok_r _ | exact ev_ok_n | omega | assumption | decide) only [ev_rm_n, ev_rm_i, ev_rm_r, ev_rm_l, ev_ok_n, ev_ok_i, ev_ok_r, Option.toList_some, Option.toList_none, List.cons_append, List.nil_append, true_and, and_true, true_or, or_true, reduceIte, Nat.reduceEqDiff, if_true, if_false, la_rc]
  rw [hp_sw]
  refine c_gate hM hw _ _ _ (fun σ2 q => ?_)
  simp (disch := first | exact ev_ok_i _ | exact ev_ok_r _ | exact ev_ok_n | omega | assumption | decide) only [e_La_law_299, ev_rm_n, ev_rm_i, ev_rm_r, ev_rm_l, ev_ok_n, ev_ok_i, ev_ok_r, Option.toList_some, Option.toList_none, List.cons_append, List.nil_append, true_and, and_true, true_or, or_true, reduceIte, Nat.reduceEqDiff, if_true, if_false]
  rw [← hp_sw]
  exact la_nx (hn _ _ ⟨_, ok_gate hw _ _ _, r, q⟩)
theorem la_sign {i : Nat} {τ : cl_S} {σ : md_S} {w : sp_W} (hX : la_X X B b L xs g) (hi : i + 4 ≤ L) (hw : sp_wok w) (hR : cl_R τ w) (hM : md_R σ w) (hn : ∀ τ2 σ2, la_I τ2 σ2 → la_H X d B b g Q (i + 4) τ2 σ2) : ev_R X (d + 260) m_La_law 304 [some (.ref b), some (.ref B), some (.ref (B + 63)), some (.int (nI i))] [] (cl_put B τ (md_put (B + 63) σ g)) Q := by
  have e2 : nI i + 2 = nI (i + 2) := nI_add i 2
  have e3 : nI i + 3 = nI (i + 3) := nI_add i 3
  have i1 : ∀ (τ : cl_S) (σ : md_S) (K : Int32 → Prop), ev_ia X (cl_put B τ (md_put (B + 63) σ g)) b (nI (i + 1)) K ↔ K (xs (i + 1)) := fun τ σ K => la_ia hX (by omega)
  have i2 : ∀ (τ : cl_S) (σ : md_S) (K : Int32 → Prop), ev_ia X (cl_put B τ (md_put (B + 63) σ g)) b (nI (i + 2)) K ↔ K (xs (i + 2)) := fun τ σ K => la_ia hX (by omega)
  have i3 : ∀ (τ : cl_S) (σ : md_S) (K : Int32 → Prop), ev_ia X (cl_put B τ (md_put (B + 63) σ g)) b (nI (i + 3)) K ↔ K (xs (i + 3)) := fun τ σ K => la_ia hX (by omega)
  simp (disch := first | exact ev_ok_i _ | exact ev_ok_r _ | exact ev_ok_n | omega | assumption | decide) only [e_La_law_304, e_La_law_305, e_La_law_306, e_La_law_307, e_La_law_308, e_La_law_309, e_La_law_310, e_La_law_311, e_La_law_312, e_La_law_313, e_La_law_314, ev_rm_n, ev_rm_i, ev_rm_r, ev_rm_l, ev_ok_n, ev_ok_i, ev_ok_r, Option.toList_some, Option.toList_none, List.cons_append, List.nil_append, true_and, and_true, true_or, or_true, reduceIte, Nat.reduceEqDiff, if_true, if_false, nI_1, e2, e3, i1, i2, i3]
  rw [e_La_law_315]
  simp (disch := first | exact ev_ok_i _ | exact ev_ok_r _ | exact ev_ok_n | omega | assumption | decide) only [ev_rm_n, ev_rm_i, ev_rm_r, ev_rm_l, ev_ok_n, ev_ok_i, ev_ok_r, Option.toList_some, Option.toList_none, List.cons_append, List.nil_append, true_and, and_true, true_or, or_true, reduceIte, Nat.reduceEqDiff, if_true, if_false, cg_Dp_rc, cg_Dp_text, cg_Dp_circuit, cg_Dp_reader, cg_Dp_current, cg_Dp_working, cg_Dp_saturator, cg_Dp_table, cg_Te_rc, cg_Te_bytes, cg_Te_length, cp_Te_length, cg_Ci_rc, cg_Ci_kinds, cg_Ci_firsts, cg_Ci_seconds, cg_Ci_inputVariables, cg_Ci_names, cg_Ci_nameLengths, cg_Ci_size, cp_Ci_size, cg_Ci_inputs, cp_Ci_inputs, cg_Re_rc, cg_Re_text, cg_Re_circuit, cg_Re_token, cp_Re_token, cg_Re_start, cp_Re_start, cg_Re_next, cp_Re_next, cg_Re_open, cp_Re_open, cg_Re_fault, cp_Re_fault, cg_Re_faultPlace, cp_Re_faultPlace, cg_Sa_rc, cg_Sa_circuit, cg_Sa_before, cg_Sa_trueBranches, cg_Sa_falseBranches, cg_Sa_tallies, cg_Sa_mostSteps, cp_Sa_mostSteps, cg_Sa_spent, cp_Sa_spent, cg_Ta_rc, cg_Ta_circuit, cg_Ta_words, cr_kinds, cw_kinds, cr_firsts, cw_firsts, cr_seconds, cw_seconds, cr_inputVariables, cw_inputVariables, cr_nameLengths, cw_nameLengths, cr_tallies, cw_tallies, cr_bytes, cw_bytes, cr_words, cw_words, cl_tallies, cr_names, cr_trueB, cr_falseB, cr_name, cw_name, cq_rc, cq_st, cq_size, cq_classes, cq_contradiction, cqp_size, cqp_classes, cqp_contradiction, cq_rd, cq_wr, cq_copy, cl_s_1, cl_s_2, cl_ar_1, cl_ar_2, cl_w_1, cl_w_2]
  refine (c_dpSign hR hw _ _).mpr ?_
  simp (disch := first | exact ev_ok_i _ | exact ev_ok_r _ | exact ev_ok_n | omega | assumption | decide) only [e_La_law_318, e_La_law_319, e_La_law_320, e_La_law_321, e_La_law_322, e_La_law_323, e_La_law_324, e_La_law_325, e_La_law_326, e_La_law_327, e_La_law_328, ev_rm_n, ev_rm_i, ev_rm_r, ev_rm_l, ev_ok_n, ev_ok_i, ev_ok_r, Option.toList_some, Option.toList_none, List.cons_append, List.nil_append, true_and, and_true, true_or, or_true, reduceIte, Nat.reduceEqDiff, if_true, if_false, nI_1, e2, e3, i1, i2, i3]
  rw [e_La_law_329]
  simp (disch := first | exact ev_ok_i _ | exact ev_ok_r _ | exact ev_ok_n | omega | assumption | decide) only [ev_rm_n, ev_rm_i, ev_rm_r, ev_rm_l, ev_ok_n, ev_ok_i, ev_ok_r, Option.toList_some, Option.toList_none, List.cons_append, List.nil_append, true_and, and_true, true_or, or_true, reduceIte, Nat.reduceEqDiff, if_true, if_false, la_rc]
  rw [hp_sw]
  refine (c_sign hM hw _ _).mpr ?_
  simp (disch := first | exact ev_ok_i _ | exact ev_ok_r _ | exact ev_ok_n | omega | assumption | decide) only [e_La_law_332, ev_rm_n, ev_rm_i, ev_rm_r, ev_rm_l, ev_ok_n, ev_ok_i, ev_ok_r, Option.toList_some, Option.toList_none, List.cons_append, List.nil_append, true_and, and_true, true_or, or_true, reduceIte, Nat.reduceEqDiff, if_true, if_false]
  rw [← hp_sw]
  exact la_nx (hn _ _ ⟨w, hw, hR, hM⟩)
theorem la_clear {i : Nat} {τ : cl_S} {σ : md_S} {w : sp_W} (hX : la_X X B b L xs g) (hi : i + 4 ≤ L) (hw : sp_wok w) (hR : cl_R τ w) (hM : md_R σ w) (hn : ∀ τ2 σ2, la_I τ2 σ2 → la_H X d B b g Q (i + 4) τ2 σ2) : ev_R X (d + 260) m_La_law 337 [some (.ref b), some (.ref B), some (.ref (B + 63)), some (.int (nI i))] [] (cl_put B τ (md_put (B + 63) σ g)) Q := by
  have e2 : nI i + 2 = nI (i + 2) := nI_add i 2
  have e3 : nI i + 3 = nI (i + 3) := nI_add i 3
  have i1 : ∀ (τ : cl_S) (σ : md_S) (K : Int32 → Prop), ev_ia X (cl_put B τ (md_put (B + 63) σ g)) b (nI (i + 1)) K ↔ K (xs (i + 1)) := fun τ σ K => la_ia hX (by omega)
  have i2 : ∀ (τ : cl_S) (σ : md_S) (K : Int32 → Prop), ev_ia X (cl_put B τ (md_put (B + 63) σ g)) b (nI (i + 2)) K ↔ K (xs (i + 2)) := fun τ σ K => la_ia hX (by omega)
  have i3 : ∀ (τ : cl_S) (σ : md_S) (K : Int32 → Prop), ev_ia X (cl_put B τ (md_put (B + 63) σ g)) b (nI (i + 3)) K ↔ K (xs (i + 3)) := fun τ σ K => la_ia hX (by omega)
  simp (disch := first | exact ev_ok_i _ | exact ev_ok_r _ | exact ev_ok_n | omega | assumption | decide) only [e_La_law_337, ev_rm_n, ev_rm_i, ev_rm_r, ev_rm_l, ev_ok_n, ev_ok_i, ev_ok_r, Option.toList_some, Option.toList_none, List.cons_append, List.nil_append, true_and, and_true, true_or, or_true, reduceIte, Nat.reduceEqDiff, if_true, if_false, nI_1, e2, e3, i1, i2, i3]
  rw [e_La_law_338]
  simp (disch := first | exact ev_ok_i _ | exact ev_ok_r _ | exact ev_ok_n | omega | assumption | decide) only [ev_rm_n, ev_rm_i, ev_rm_r, ev_rm_l, ev_ok_n, ev_ok_i, ev_ok_r, Option.toList_some, Option.toList_none, List.cons_append, List.nil_append, true_and, and_true, true_or, or_true, reduceIte, Nat.reduceEqDiff, if_true, if_false, cg_Dp_rc, cg_Dp_text, cg_Dp_circuit, cg_Dp_reader, cg_Dp_current, cg_Dp_working, cg_Dp_saturator, cg_Dp_table, cg_Te_rc, cg_Te_bytes, cg_Te_length, cp_Te_length, cg_Ci_rc, cg_Ci_kinds, cg_Ci_firsts, cg_Ci_seconds, cg_Ci_inputVariables, cg_Ci_names, cg_Ci_nameLengths, cg_Ci_size, cp_Ci_size, cg_Ci_inputs, cp_Ci_inputs, cg_Re_rc, cg_Re_text, cg_Re_circuit, cg_Re_token, cp_Re_token, cg_Re_start, cp_Re_start, cg_Re_next, cp_Re_next, cg_Re_open, cp_Re_open, cg_Re_fault, cp_Re_fault, cg_Re_faultPlace, cp_Re_faultPlace, cg_Sa_rc, cg_Sa_circuit, cg_Sa_before, cg_Sa_trueBranches, cg_Sa_falseBranches, cg_Sa_tallies, cg_Sa_mostSteps, cp_Sa_mostSteps, cg_Sa_spent, cp_Sa_spent, cg_Ta_rc, cg_Ta_circuit, cg_Ta_words, cr_kinds, cw_kinds, cr_firsts, cw_firsts, cr_seconds, cw_seconds, cr_inputVariables, cw_inputVariables, cr_nameLengths, cw_nameLengths, cr_tallies, cw_tallies, cr_bytes, cw_bytes, cr_words, cw_words, cl_tallies, cr_names, cr_trueB, cr_falseB, cr_name, cw_name, cq_rc, cq_st, cq_size, cq_classes, cq_contradiction, cqp_size, cqp_classes, cqp_contradiction, cq_rd, cq_wr, cq_copy, cl_s_1, cl_s_2, cl_ar_1, cl_ar_2, cl_w_1, cl_w_2]
  refine c_dpClear hR hw  (fun τ2 r => ?_)
  simp (disch := first | exact ev_ok_i _ | exact ev_ok_r _ | exact ev_ok_n | omega | assumption | decide) only [e_La_law_341, ev_rm_n, ev_rm_i, ev_rm_r, ev_rm_l, ev_ok_n, ev_ok_i, ev_ok_r, Option.toList_some, Option.toList_none, List.cons_append, List.nil_append, true_and, and_true, true_or, or_true, reduceIte, Nat.reduceEqDiff, if_true, if_false, nI_1, e2, e3, i1, i2, i3]
  rw [e_La_law_342]
  simp (disch := first | exact ev_ok_i _ | exact ev_ok_r _ | exact ev_ok_n | omega | assumption | decide) only [ev_rm_n, ev_rm_i, ev_rm_r, ev_rm_l, ev_ok_n, ev_ok_i, ev_ok_r, Option.toList_some, Option.toList_none, List.cons_append, List.nil_append, true_and, and_true, true_or, or_true, reduceIte, Nat.reduceEqDiff, if_true, if_false, la_rc]
  rw [hp_sw]
  refine c_clear hM hw  (fun σ2 q => ?_)
  simp (disch := first | exact ev_ok_i _ | exact ev_ok_r _ | exact ev_ok_n | omega | assumption | decide) only [e_La_law_345, ev_rm_n, ev_rm_i, ev_rm_r, ev_rm_l, ev_ok_n, ev_ok_i, ev_ok_r, Option.toList_some, Option.toList_none, List.cons_append, List.nil_append, true_and, and_true, true_or, or_true, reduceIte, Nat.reduceEqDiff, if_true, if_false]
  rw [← hp_sw]
  exact la_nx (hn _ _ ⟨_, ok_clear hw , r, q⟩)
theorem la_forget {i : Nat} {τ : cl_S} {σ : md_S} {w : sp_W} (hX : la_X X B b L xs g) (hi : i + 4 ≤ L) (hw : sp_wok w) (hR : cl_R τ w) (hM : md_R σ w) (hn : ∀ τ2 σ2, la_I τ2 σ2 → la_H X d B b g Q (i + 4) τ2 σ2) : ev_R X (d + 260) m_La_law 350 [some (.ref b), some (.ref B), some (.ref (B + 63)), some (.int (nI i))] [] (cl_put B τ (md_put (B + 63) σ g)) Q := by
  have e2 : nI i + 2 = nI (i + 2) := nI_add i 2
  have e3 : nI i + 3 = nI (i + 3) := nI_add i 3
  have i1 : ∀ (τ : cl_S) (σ : md_S) (K : Int32 → Prop), ev_ia X (cl_put B τ (md_put (B + 63) σ g)) b (nI (i + 1)) K ↔ K (xs (i + 1)) := fun τ σ K => la_ia hX (by omega)
  have i2 : ∀ (τ : cl_S) (σ : md_S) (K : Int32 → Prop), ev_ia X (cl_put B τ (md_put (B + 63) σ g)) b (nI (i + 2)) K ↔ K (xs (i + 2)) := fun τ σ K => la_ia hX (by omega)
  have i3 : ∀ (τ : cl_S) (σ : md_S) (K : Int32 → Prop), ev_ia X (cl_put B τ (md_put (B + 63) σ g)) b (nI (i + 3)) K ↔ K (xs (i + 3)) := fun τ σ K => la_ia hX (by omega)
  simp (disch := first | exact ev_ok_i _ | exact ev_ok_r _ | exact ev_ok_n | omega | assumption | decide) only [e_La_law_350, ev_rm_n, ev_rm_i, ev_rm_r, ev_rm_l, ev_ok_n, ev_ok_i, ev_ok_r, Option.toList_some, Option.toList_none, List.cons_append, List.nil_append, true_and, and_true, true_or, or_true, reduceIte, Nat.reduceEqDiff, if_true, if_false, nI_1, e2, e3, i1, i2, i3]
  rw [e_La_law_351]
  simp (disch := first | exact ev_ok_i _ | exact ev_ok_r _ | exact ev_ok_n | omega | assumption | decide) only [ev_rm_n, ev_rm_i, ev_rm_r, ev_rm_l, ev_ok_n, ev_ok_i, ev_ok_r, Option.toList_some, Option.toList_none, List.cons_append, List.nil_append, true_and, and_true, true_or, or_true, reduceIte, Nat.reduceEqDiff, if_true, if_false, cg_Dp_rc, cg_Dp_text, cg_Dp_circuit, cg_Dp_reader, cg_Dp_current, cg_Dp_working, cg_Dp_saturator, cg_Dp_table, cg_Te_rc, cg_Te_bytes, cg_Te_length, cp_Te_length, cg_Ci_rc, cg_Ci_kinds, cg_Ci_firsts, cg_Ci_seconds, cg_Ci_inputVariables, cg_Ci_names, cg_Ci_nameLengths, cg_Ci_size, cp_Ci_size, cg_Ci_inputs, cp_Ci_inputs, cg_Re_rc, cg_Re_text, cg_Re_circuit, cg_Re_token, cp_Re_token, cg_Re_start, cp_Re_start, cg_Re_next, cp_Re_next, cg_Re_open, cp_Re_open, cg_Re_fault, cp_Re_fault, cg_Re_faultPlace, cp_Re_faultPlace, cg_Sa_rc, cg_Sa_circuit, cg_Sa_before, cg_Sa_trueBranches, cg_Sa_falseBranches, cg_Sa_tallies, cg_Sa_mostSteps, cp_Sa_mostSteps, cg_Sa_spent, cp_Sa_spent, cg_Ta_rc, cg_Ta_circuit, cg_Ta_words, cr_kinds, cw_kinds, cr_firsts, cw_firsts, cr_seconds, cw_seconds, cr_inputVariables, cw_inputVariables, cr_nameLengths, cw_nameLengths, cr_tallies, cw_tallies, cr_bytes, cw_bytes, cr_words, cw_words, cl_tallies, cr_names, cr_trueB, cr_falseB, cr_name, cw_name, cq_rc, cq_st, cq_size, cq_classes, cq_contradiction, cqp_size, cqp_classes, cqp_contradiction, cq_rd, cq_wr, cq_copy, cl_s_1, cl_s_2, cl_ar_1, cl_ar_2, cl_w_1, cl_w_2]
  refine c_dpForget hR hw  (fun τ2 r => ?_)
  simp (disch := first | exact ev_ok_i _ | exact ev_ok_r _ | exact ev_ok_n | omega | assumption | decide) only [e_La_law_354, ev_rm_n, ev_rm_i, ev_rm_r, ev_rm_l, ev_ok_n, ev_ok_i, ev_ok_r, Option.toList_some, Option.toList_none, List.cons_append, List.nil_append, true_and, and_true, true_or, or_true, reduceIte, Nat.reduceEqDiff, if_true, if_false, nI_1, e2, e3, i1, i2, i3]
  rw [e_La_law_355]
  simp (disch := first | exact ev_ok_i _ | exact ev_ok_r _ | exact ev_ok_n | omega | assumption | decide) only [ev_rm_n, ev_rm_i, ev_rm_r, ev_rm_l, ev_ok_n, ev_ok_i, ev_ok_r, Option.toList_some, Option.toList_none, List.cons_append, List.nil_append, true_and, and_true, true_or, or_true, reduceIte, Nat.reduceEqDiff, if_true, if_false, la_rc]
  rw [hp_sw]
  refine c_forget hM hw  (fun σ2 q => ?_)
  simp (disch := first | exact ev_ok_i _ | exact ev_ok_r _ | exact ev_ok_n | omega | assumption | decide) only [e_La_law_358, ev_rm_n, ev_rm_i, ev_rm_r, ev_rm_l, ev_ok_n, ev_ok_i, ev_ok_r, Option.toList_some, Option.toList_none, List.cons_append, List.nil_append, true_and, and_true, true_or, or_true, reduceIte, Nat.reduceEqDiff, if_true, if_false]
  rw [← hp_sw]
  exact la_nx (hn _ _ ⟨_, ok_forget hw , r, q⟩)
theorem la_join {i : Nat} {τ : cl_S} {σ : md_S} {w : sp_W} (hX : la_X X B b L xs g) (hi : i + 4 ≤ L) (hw : sp_wok w) (hR : cl_R τ w) (hM : md_R σ w) (hn : ∀ τ2 σ2, la_I τ2 σ2 → la_H X d B b g Q (i + 4) τ2 σ2) : ev_R X (d + 260) m_La_law 363 [some (.ref b), some (.ref B), some (.ref (B + 63)), some (.int (nI i))] [] (cl_put B τ (md_put (B + 63) σ g)) Q := by
  have e2 : nI i + 2 = nI (i + 2) := nI_add i 2
  have e3 : nI i + 3 = nI (i + 3) := nI_add i 3
  have i1 : ∀ (τ : cl_S) (σ : md_S) (K : Int32 → Prop), ev_ia X (cl_put B τ (md_put (B + 63) σ g)) b (nI (i + 1)) K ↔ K (xs (i + 1)) := fun τ σ K => la_ia hX (by omega)
  have i2 : ∀ (τ : cl_S) (σ : md_S) (K : Int32 → Prop), ev_ia X (cl_put B τ (md_put (B + 63) σ g)) b (nI (i + 2)) K ↔ K (xs (i + 2)) := fun τ σ K => la_ia hX (by omega)
  have i3 : ∀ (τ : cl_S) (σ : md_S) (K : Int32 → Prop), ev_ia X (cl_put B τ (md_put (B + 63) σ g)) b (nI (i + 3)) K ↔ K (xs (i + 3)) := fun τ σ K => la_ia hX (by omega)
  simp (disch := first | exact ev_ok_i _ | exact ev_ok_r _ | exact ev_ok_n | omega | assumption | decide) only [e_La_law_363, e_La_law_364, e_La_law_365, e_La_law_366, e_La_law_367, e_La_law_368, e_La_law_369, e_La_law_370, e_La_law_371, e_La_law_372, e_La_law_373, ev_rm_n, ev_rm_i, ev_rm_r, ev_rm_l, ev_ok_n, ev_ok_i, ev_ok_r, Option.toList_some, Option.toList_none, List.cons_append, List.nil_append, true_and, and_true, true_or, or_true, reduceIte, Nat.reduceEqDiff, if_true, if_false, nI_1, e2, e3, i1, i2, i3]
  rw [e_La_law_374]
  simp (disch := first | exact ev_ok_i _ | exact ev_ok_r _ | exact ev_ok_n | omega | assumption | decide) only [ev_rm_n, ev_rm_i, ev_rm_r, ev_rm_l, ev_ok_n, ev_ok_i, ev_ok_r, Option.toList_some, Option.toList_none, List.cons_append, List.nil_append, true_and, and_true, true_or, or_true, reduceIte, Nat.reduceEqDiff, if_true, if_false, cg_Dp_rc, cg_Dp_text, cg_Dp_circuit, cg_Dp_reader, cg_Dp_current, cg_Dp_working, cg_Dp_saturator, cg_Dp_table, cg_Te_rc, cg_Te_bytes, cg_Te_length, cp_Te_length, cg_Ci_rc, cg_Ci_kinds, cg_Ci_firsts, cg_Ci_seconds, cg_Ci_inputVariables, cg_Ci_names, cg_Ci_nameLengths, cg_Ci_size, cp_Ci_size, cg_Ci_inputs, cp_Ci_inputs, cg_Re_rc, cg_Re_text, cg_Re_circuit, cg_Re_token, cp_Re_token, cg_Re_start, cp_Re_start, cg_Re_next, cp_Re_next, cg_Re_open, cp_Re_open, cg_Re_fault, cp_Re_fault, cg_Re_faultPlace, cp_Re_faultPlace, cg_Sa_rc, cg_Sa_circuit, cg_Sa_before, cg_Sa_trueBranches, cg_Sa_falseBranches, cg_Sa_tallies, cg_Sa_mostSteps, cp_Sa_mostSteps, cg_Sa_spent, cp_Sa_spent, cg_Ta_rc, cg_Ta_circuit, cg_Ta_words, cr_kinds, cw_kinds, cr_firsts, cw_firsts, cr_seconds, cw_seconds, cr_inputVariables, cw_inputVariables, cr_nameLengths, cw_nameLengths, cr_tallies, cw_tallies, cr_bytes, cw_bytes, cr_words, cw_words, cl_tallies, cr_names, cr_trueB, cr_falseB, cr_name, cw_name, cq_rc, cq_st, cq_size, cq_classes, cq_contradiction, cqp_size, cqp_classes, cqp_contradiction, cq_rd, cq_wr, cq_copy, cl_s_1, cl_s_2, cl_ar_1, cl_ar_2, cl_w_1, cl_w_2]
  refine c_dpJoin hR hw _ _ (fun τ2 r => ?_)
  simp (disch := first | exact ev_ok_i _ | exact ev_ok_r _ | exact ev_ok_n | omega | assumption | decide) only [e_La_law_377, e_La_law_378, e_La_law_379, e_La_law_380, e_La_law_381, e_La_law_382, e_La_law_383, e_La_law_384, e_La_law_385, e_La_law_386, e_La_law_387, ev_rm_n, ev_rm_i, ev_rm_r, ev_rm_l, ev_ok_n, ev_ok_i, ev_ok_r, Option.toList_some, Option.toList_none, List.cons_append, List.nil_append, true_and, and_true, true_or, or_true, reduceIte, Nat.reduceEqDiff, if_true, if_false, nI_1, e2, e3, i1, i2, i3]
  rw [e_La_law_388]
  simp (disch := first | exact ev_ok_i _ | exact ev_ok_r _ | exact ev_ok_n | omega | assumption | decide) only [ev_rm_n, ev_rm_i, ev_rm_r, ev_rm_l, ev_ok_n, ev_ok_i, ev_ok_r, Option.toList_some, Option.toList_none, List.cons_append, List.nil_append, true_and, and_true, true_or, or_true, reduceIte, Nat.reduceEqDiff, if_true, if_false, la_rc]
  rw [hp_sw]
  refine c_mdjoin hM hw _ _ (fun σ2 q => ?_)
  simp (disch := first | exact ev_ok_i _ | exact ev_ok_r _ | exact ev_ok_n | omega | assumption | decide) only [e_La_law_391, ev_rm_n, ev_rm_i, ev_rm_r, ev_rm_l, ev_ok_n, ev_ok_i, ev_ok_r, Option.toList_some, Option.toList_none, List.cons_append, List.nil_append, true_and, and_true, true_or, or_true, reduceIte, Nat.reduceEqDiff, if_true, if_false]
  rw [← hp_sw]
  exact la_nx (hn _ _ ⟨_, ok_join hw _ _, r, q⟩)
theorem la_stands {i : Nat} {τ : cl_S} {σ : md_S} {w : sp_W} (hX : la_X X B b L xs g) (hi : i + 4 ≤ L) (hw : sp_wok w) (hR : cl_R τ w) (hM : md_R σ w) (hn : ∀ τ2 σ2, la_I τ2 σ2 → la_H X d B b g Q (i + 4) τ2 σ2) : ev_R X (d + 260) m_La_law 396 [some (.ref b), some (.ref B), some (.ref (B + 63)), some (.int (nI i))] [] (cl_put B τ (md_put (B + 63) σ g)) Q := by
  have e2 : nI i + 2 = nI (i + 2) := nI_add i 2
  have e3 : nI i + 3 = nI (i + 3) := nI_add i 3
  have i1 : ∀ (τ : cl_S) (σ : md_S) (K : Int32 → Prop), ev_ia X (cl_put B τ (md_put (B + 63) σ g)) b (nI (i + 1)) K ↔ K (xs (i + 1)) := fun τ σ K => la_ia hX (by omega)
  have i2 : ∀ (τ : cl_S) (σ : md_S) (K : Int32 → Prop), ev_ia X (cl_put B τ (md_put (B + 63) σ g)) b (nI (i + 2)) K ↔ K (xs (i + 2)) := fun τ σ K => la_ia hX (by omega)
  have i3 : ∀ (τ : cl_S) (σ : md_S) (K : Int32 → Prop), ev_ia X (cl_put B τ (md_put (B + 63) σ g)) b (nI (i + 3)) K ↔ K (xs (i + 3)) := fun τ σ K => la_ia hX (by omega)
  simp (disch := first | exact ev_ok_i _ | exact ev_ok_r _ | exact ev_ok_n | omega | assumption | decide) only [e_La_law_396, e_La_law_397, e_La_law_398, e_La_law_399, e_La_law_400, e_La_law_401, ev_rm_n, ev_rm_i, ev_rm_r, ev_rm_l, ev_ok_n, ev_ok_i, ev_ok_r, Option.toList_some, Option.toList_none, List.cons_append, List.nil_append, true_and, and_true, true_or, or_true, reduceIte, Nat.reduceEqDiff, if_true, if_false, nI_1, e2, e3, i1, i2, i3]
  rw [e_La_law_402]
  simp (disch := first | exact ev_ok_i _ | exact ev_ok_r _ | exact ev_ok_n | omega | assumption | decide) only [ev_rm_n, ev_rm_i, ev_rm_r, ev_rm_l, ev_ok_n, ev_ok_i, ev_ok_r, Option.toList_some, Option.toList_none, List.cons_append, List.nil_append, true_and, and_true, true_or, or_true, reduceIte, Nat.reduceEqDiff, if_true, if_false, cg_Dp_rc, cg_Dp_text, cg_Dp_circuit, cg_Dp_reader, cg_Dp_current, cg_Dp_working, cg_Dp_saturator, cg_Dp_table, cg_Te_rc, cg_Te_bytes, cg_Te_length, cp_Te_length, cg_Ci_rc, cg_Ci_kinds, cg_Ci_firsts, cg_Ci_seconds, cg_Ci_inputVariables, cg_Ci_names, cg_Ci_nameLengths, cg_Ci_size, cp_Ci_size, cg_Ci_inputs, cp_Ci_inputs, cg_Re_rc, cg_Re_text, cg_Re_circuit, cg_Re_token, cp_Re_token, cg_Re_start, cp_Re_start, cg_Re_next, cp_Re_next, cg_Re_open, cp_Re_open, cg_Re_fault, cp_Re_fault, cg_Re_faultPlace, cp_Re_faultPlace, cg_Sa_rc, cg_Sa_circuit, cg_Sa_before, cg_Sa_trueBranches, cg_Sa_falseBranches, cg_Sa_tallies, cg_Sa_mostSteps, cp_Sa_mostSteps, cg_Sa_spent, cp_Sa_spent, cg_Ta_rc, cg_Ta_circuit, cg_Ta_words, cr_kinds, cw_kinds, cr_firsts, cw_firsts, cr_seconds, cw_seconds, cr_inputVariables, cw_inputVariables, cr_nameLengths, cw_nameLengths, cr_tallies, cw_tallies, cr_bytes, cw_bytes, cr_words, cw_words, cl_tallies, cr_names, cr_trueB, cr_falseB, cr_name, cw_name, cq_rc, cq_st, cq_size, cq_classes, cq_contradiction, cqp_size, cqp_classes, cqp_contradiction, cq_rd, cq_wr, cq_copy, cl_s_1, cl_s_2, cl_ar_1, cl_ar_2, cl_w_1, cl_w_2]
  refine (c_dpStands hR hw _).mpr ?_
  simp (disch := first | exact ev_ok_i _ | exact ev_ok_r _ | exact ev_ok_n | omega | assumption | decide) only [e_La_law_405, e_La_law_406, e_La_law_407, e_La_law_408, e_La_law_409, e_La_law_410, ev_rm_n, ev_rm_i, ev_rm_r, ev_rm_l, ev_ok_n, ev_ok_i, ev_ok_r, Option.toList_some, Option.toList_none, List.cons_append, List.nil_append, true_and, and_true, true_or, or_true, reduceIte, Nat.reduceEqDiff, if_true, if_false, nI_1, e2, e3, i1, i2, i3]
  rw [e_La_law_411]
  simp (disch := first | exact ev_ok_i _ | exact ev_ok_r _ | exact ev_ok_n | omega | assumption | decide) only [ev_rm_n, ev_rm_i, ev_rm_r, ev_rm_l, ev_ok_n, ev_ok_i, ev_ok_r, Option.toList_some, Option.toList_none, List.cons_append, List.nil_append, true_and, and_true, true_or, or_true, reduceIte, Nat.reduceEqDiff, if_true, if_false, la_rc]
  rw [hp_sw]
  refine (c_stands hM hw _).mpr ?_
  simp (disch := first | exact ev_ok_i _ | exact ev_ok_r _ | exact ev_ok_n | omega | assumption | decide) only [e_La_law_414, ev_rm_n, ev_rm_i, ev_rm_r, ev_rm_l, ev_ok_n, ev_ok_i, ev_ok_r, Option.toList_some, Option.toList_none, List.cons_append, List.nil_append, true_and, and_true, true_or, or_true, reduceIte, Nat.reduceEqDiff, if_true, if_false]
  rw [← hp_sw]
  exact la_nx (hn _ _ ⟨w, hw, hR, hM⟩)
theorem la_saturate {i : Nat} {τ : cl_S} {σ : md_S} {w : sp_W} (hX : la_X X B b L xs g) (hi : i + 4 ≤ L) (hw : sp_wok w) (hR : cl_R τ w) (hM : md_R σ w) (hn : ∀ τ2 σ2, la_I τ2 σ2 → la_H X d B b g Q (i + 4) τ2 σ2) : ev_R X (d + 260) m_La_law 419 [some (.ref b), some (.ref B), some (.ref (B + 63)), some (.int (nI i))] [] (cl_put B τ (md_put (B + 63) σ g)) Q := by
  have e2 : nI i + 2 = nI (i + 2) := nI_add i 2
  have e3 : nI i + 3 = nI (i + 3) := nI_add i 3
  have i1 : ∀ (τ : cl_S) (σ : md_S) (K : Int32 → Prop), ev_ia X (cl_put B τ (md_put (B + 63) σ g)) b (nI (i + 1)) K ↔ K (xs (i + 1)) := fun τ σ K => la_ia hX (by omega)
  have i2 : ∀ (τ : cl_S) (σ : md_S) (K : Int32 → Prop), ev_ia X (cl_put B τ (md_put (B + 63) σ g)) b (nI (i + 2)) K ↔ K (xs (i + 2)) := fun τ σ K => la_ia hX (by omega)
  have i3 : ∀ (τ : cl_S) (σ : md_S) (K : Int32 → Prop), ev_ia X (cl_put B τ (md_put (B + 63) σ g)) b (nI (i + 3)) K ↔ K (xs (i + 3)) := fun τ σ K => la_ia hX (by omega)
  simp (disch := first | exact ev_ok_i _ | exact ev_ok_r _ | exact ev_ok_n | omega | assumption | decide) only [e_La_law_419, e_La_law_420, e_La_law_421, e_La_law_422, e_La_law_423, e_La_law_424, e_La_law_425, e_La_law_426, e_La_law_427, e_La_law_428, e_La_law_429, ev_rm_n, ev_rm_i, ev_rm_r, ev_rm_l, ev_ok_n, ev_ok_i, ev_ok_r, Option.toList_some, Option.toList_none, List.cons_append, List.nil_append, true_and, and_true, true_or, or_true, reduceIte, Nat.reduceEqDiff, if_true, if_false, nI_1, e2, e3, i1, i2, i3]
  rw [e_La_law_430]
  simp (disch := first | exact ev_ok_i _ | exact ev_ok_r _ | exact ev_ok_n | omega | assumption | decide) only [ev_rm_n, ev_rm_i, ev_rm_r, ev_rm_l, ev_ok_n, ev_ok_i, ev_ok_r, Option.toList_some, Option.toList_none, List.cons_append, List.nil_append, true_and, and_true, true_or, or_true, reduceIte, Nat.reduceEqDiff, if_true, if_false, cg_Dp_rc, cg_Dp_text, cg_Dp_circuit, cg_Dp_reader, cg_Dp_current, cg_Dp_working, cg_Dp_saturator, cg_Dp_table, cg_Te_rc, cg_Te_bytes, cg_Te_length, cp_Te_length, cg_Ci_rc, cg_Ci_kinds, cg_Ci_firsts, cg_Ci_seconds, cg_Ci_inputVariables, cg_Ci_names, cg_Ci_nameLengths, cg_Ci_size, cp_Ci_size, cg_Ci_inputs, cp_Ci_inputs, cg_Re_rc, cg_Re_text, cg_Re_circuit, cg_Re_token, cp_Re_token, cg_Re_start, cp_Re_start, cg_Re_next, cp_Re_next, cg_Re_open, cp_Re_open, cg_Re_fault, cp_Re_fault, cg_Re_faultPlace, cp_Re_faultPlace, cg_Sa_rc, cg_Sa_circuit, cg_Sa_before, cg_Sa_trueBranches, cg_Sa_falseBranches, cg_Sa_tallies, cg_Sa_mostSteps, cp_Sa_mostSteps, cg_Sa_spent, cp_Sa_spent, cg_Ta_rc, cg_Ta_circuit, cg_Ta_words, cr_kinds, cw_kinds, cr_firsts, cw_firsts, cr_seconds, cw_seconds, cr_inputVariables, cw_inputVariables, cr_nameLengths, cw_nameLengths, cr_tallies, cw_tallies, cr_bytes, cw_bytes, cr_words, cw_words, cl_tallies, cr_names, cr_trueB, cr_falseB, cr_name, cw_name, cq_rc, cq_st, cq_size, cq_classes, cq_contradiction, cqp_size, cqp_classes, cqp_contradiction, cq_rd, cq_wr, cq_copy, cl_s_1, cl_s_2, cl_ar_1, cl_ar_2, cl_w_1, cl_w_2]
  refine c_dpSaturate hR hw _ _ (fun τ2 r => ?_)
  simp (disch := first | exact ev_ok_i _ | exact ev_ok_r _ | exact ev_ok_n | omega | assumption | decide) only [e_La_law_433, e_La_law_434, e_La_law_435, e_La_law_436, e_La_law_437, e_La_law_438, e_La_law_439, e_La_law_440, e_La_law_441, e_La_law_442, e_La_law_443, ev_rm_n, ev_rm_i, ev_rm_r, ev_rm_l, ev_ok_n, ev_ok_i, ev_ok_r, Option.toList_some, Option.toList_none, List.cons_append, List.nil_append, true_and, and_true, true_or, or_true, reduceIte, Nat.reduceEqDiff, if_true, if_false, nI_1, e2, e3, i1, i2, i3]
  rw [e_La_law_444]
  simp (disch := first | exact ev_ok_i _ | exact ev_ok_r _ | exact ev_ok_n | omega | assumption | decide) only [ev_rm_n, ev_rm_i, ev_rm_r, ev_rm_l, ev_ok_n, ev_ok_i, ev_ok_r, Option.toList_some, Option.toList_none, List.cons_append, List.nil_append, true_and, and_true, true_or, or_true, reduceIte, Nat.reduceEqDiff, if_true, if_false, la_rc]
  rw [hp_sw]
  refine c_saturate hM hw _ _ (fun σ2 q => ?_)
  simp (disch := first | exact ev_ok_i _ | exact ev_ok_r _ | exact ev_ok_n | omega | assumption | decide) only [e_La_law_447, ev_rm_n, ev_rm_i, ev_rm_r, ev_rm_l, ev_ok_n, ev_ok_i, ev_ok_r, Option.toList_some, Option.toList_none, List.cons_append, List.nil_append, true_and, and_true, true_or, or_true, reduceIte, Nat.reduceEqDiff, if_true, if_false]
  rw [← hp_sw]
  exact la_nx (hn _ _ ⟨_, ok_satu hw _ _, r, q⟩)
theorem la_prove {i : Nat} {τ : cl_S} {σ : md_S} {w : sp_W} (hX : la_X X B b L xs g) (hi : i + 4 ≤ L) (hw : sp_wok w) (hR : cl_R τ w) (hM : md_R σ w) (hn : ∀ τ2 σ2, la_I τ2 σ2 → la_H X d B b g Q (i + 4) τ2 σ2) : ev_R X (d + 260) m_La_law 452 [some (.ref b), some (.ref B), some (.ref (B + 63)), some (.int (nI i))] [] (cl_put B τ (md_put (B + 63) σ g)) Q := by
  have e2 : nI i + 2 = nI (i + 2) := nI_add i 2
  have e3 : nI i + 3 = nI (i + 3) := nI_add i 3
  have i1 : ∀ (τ : cl_S) (σ : md_S) (K : Int32 → Prop), ev_ia X (cl_put B τ (md_put (B + 63) σ g)) b (nI (i + 1)) K ↔ K (xs (i + 1)) := fun τ σ K => la_ia hX (by omega)
  have i2 : ∀ (τ : cl_S) (σ : md_S) (K : Int32 → Prop), ev_ia X (cl_put B τ (md_put (B + 63) σ g)) b (nI (i + 2)) K ↔ K (xs (i + 2)) := fun τ σ K => la_ia hX (by omega)
  have i3 : ∀ (τ : cl_S) (σ : md_S) (K : Int32 → Prop), ev_ia X (cl_put B τ (md_put (B + 63) σ g)) b (nI (i + 3)) K ↔ K (xs (i + 3)) := fun τ σ K => la_ia hX (by omega)
  simp (disch := first | exact ev_ok_i _ | exact ev_ok_r _ | exact ev_ok_n | omega | assumption | decide) only [e_La_law_452, e_La_law_453, e_La_law_454, e_La_law_455, e_La_law_456, e_La_law_457, e_La_law_458, e_La_law_459, e_La_law_460, e_La_law_461, e_La_law_462, e_La_law_463, e_La_law_464, e_La_law_465, e_La_law_466, e_La_law_467, ev_rm_n, ev_rm_i, ev_rm_r, ev_rm_l, ev_ok_n, ev_ok_i, ev_ok_r, Option.toList_some, Option.toList_none, List.cons_append, List.nil_append, true_and, and_true, true_or, or_true, reduceIte, Nat.reduceEqDiff, if_true, if_false, nI_1, e2, e3, i1, i2, i3]
  rw [e_La_law_468]
  simp (disch := first | exact ev_ok_i _ | exact ev_ok_r _ | exact ev_ok_n | omega | assumption | decide) only [ev_rm_n, ev_rm_i, ev_rm_r, ev_rm_l, ev_ok_n, ev_ok_i, ev_ok_r, Option.toList_some, Option.toList_none, List.cons_append, List.nil_append, true_and, and_true, true_or, or_true, reduceIte, Nat.reduceEqDiff, if_true, if_false, cg_Dp_rc, cg_Dp_text, cg_Dp_circuit, cg_Dp_reader, cg_Dp_current, cg_Dp_working, cg_Dp_saturator, cg_Dp_table, cg_Te_rc, cg_Te_bytes, cg_Te_length, cp_Te_length, cg_Ci_rc, cg_Ci_kinds, cg_Ci_firsts, cg_Ci_seconds, cg_Ci_inputVariables, cg_Ci_names, cg_Ci_nameLengths, cg_Ci_size, cp_Ci_size, cg_Ci_inputs, cp_Ci_inputs, cg_Re_rc, cg_Re_text, cg_Re_circuit, cg_Re_token, cp_Re_token, cg_Re_start, cp_Re_start, cg_Re_next, cp_Re_next, cg_Re_open, cp_Re_open, cg_Re_fault, cp_Re_fault, cg_Re_faultPlace, cp_Re_faultPlace, cg_Sa_rc, cg_Sa_circuit, cg_Sa_before, cg_Sa_trueBranches, cg_Sa_falseBranches, cg_Sa_tallies, cg_Sa_mostSteps, cp_Sa_mostSteps, cg_Sa_spent, cp_Sa_spent, cg_Ta_rc, cg_Ta_circuit, cg_Ta_words, cr_kinds, cw_kinds, cr_firsts, cw_firsts, cr_seconds, cw_seconds, cr_inputVariables, cw_inputVariables, cr_nameLengths, cw_nameLengths, cr_tallies, cw_tallies, cr_bytes, cw_bytes, cr_words, cw_words, cl_tallies, cr_names, cr_trueB, cr_falseB, cr_name, cw_name, cq_rc, cq_st, cq_size, cq_classes, cq_contradiction, cqp_size, cqp_classes, cqp_contradiction, cq_rd, cq_wr, cq_copy, cl_s_1, cl_s_2, cl_ar_1, cl_ar_2, cl_w_1, cl_w_2]
  refine c_dpProve hR hw _ _ _ (fun τ2 r => ?_)
  simp (disch := first | exact ev_ok_i _ | exact ev_ok_r _ | exact ev_ok_n | omega | assumption | decide) only [e_La_law_471, e_La_law_472, e_La_law_473, e_La_law_474, e_La_law_475, e_La_law_476, e_La_law_477, e_La_law_478, e_La_law_479, e_La_law_480, e_La_law_481, e_La_law_482, e_La_law_483, e_La_law_484, e_La_law_485, e_La_law_486, ev_rm_n, ev_rm_i, ev_rm_r, ev_rm_l, ev_ok_n, ev_ok_i, ev_ok_r, Option.toList_some, Option.toList_none, List.cons_append, List.nil_append, true_and, and_true, true_or, or_true, reduceIte, Nat.reduceEqDiff, if_true, if_false, nI_1, e2, e3, i1, i2, i3]
  rw [e_La_law_487]
  simp (disch := first | exact ev_ok_i _ | exact ev_ok_r _ | exact ev_ok_n | omega | assumption | decide) only [ev_rm_n, ev_rm_i, ev_rm_r, ev_rm_l, ev_ok_n, ev_ok_i, ev_ok_r, Option.toList_some, Option.toList_none, List.cons_append, List.nil_append, true_and, and_true, true_or, or_true, reduceIte, Nat.reduceEqDiff, if_true, if_false, la_rc]
  rw [hp_sw]
  refine c_prove hM hw _ _ _ (fun σ2 q => ?_)
  simp (disch := first | exact ev_ok_i _ | exact ev_ok_r _ | exact ev_ok_n | omega | assumption | decide) only [e_La_law_490, ev_rm_n, ev_rm_i, ev_rm_r, ev_rm_l, ev_ok_n, ev_ok_i, ev_ok_r, Option.toList_some, Option.toList_none, List.cons_append, List.nil_append, true_and, and_true, true_or, or_true, reduceIte, Nat.reduceEqDiff, if_true, if_false]
  rw [← hp_sw]
  exact la_nx (hn _ _ ⟨_, ok_prove hw _ _ _, r, q⟩)
theorem la_told {i : Nat} {τ : cl_S} {σ : md_S} {w : sp_W} (hX : la_X X B b L xs g) (hi : i + 4 ≤ L) (hw : sp_wok w) (hR : cl_R τ w) (hM : md_R σ w) (hn : ∀ τ2 σ2, la_I τ2 σ2 → la_H X d B b g Q (i + 4) τ2 σ2) : ev_R X (d + 260) m_La_law 495 [some (.ref b), some (.ref B), some (.ref (B + 63)), some (.int (nI i))] [] (cl_put B τ (md_put (B + 63) σ g)) Q := by
  have e2 : nI i + 2 = nI (i + 2) := nI_add i 2
  have e3 : nI i + 3 = nI (i + 3) := nI_add i 3
  have i1 : ∀ (τ : cl_S) (σ : md_S) (K : Int32 → Prop), ev_ia X (cl_put B τ (md_put (B + 63) σ g)) b (nI (i + 1)) K ↔ K (xs (i + 1)) := fun τ σ K => la_ia hX (by omega)
  have i2 : ∀ (τ : cl_S) (σ : md_S) (K : Int32 → Prop), ev_ia X (cl_put B τ (md_put (B + 63) σ g)) b (nI (i + 2)) K ↔ K (xs (i + 2)) := fun τ σ K => la_ia hX (by omega)
  have i3 : ∀ (τ : cl_S) (σ : md_S) (K : Int32 → Prop), ev_ia X (cl_put B τ (md_put (B + 63) σ g)) b (nI (i + 3)) K ↔ K (xs (i + 3)) := fun τ σ K => la_ia hX (by omega)
  simp (disch := first | exact ev_ok_i _ | exact ev_ok_r _ | exact ev_ok_n | omega | assumption | decide) only [e_La_law_495, e_La_law_496, e_La_law_497, e_La_law_498, e_La_law_499, e_La_law_500, ev_rm_n, ev_rm_i, ev_rm_r, ev_rm_l, ev_ok_n, ev_ok_i, ev_ok_r, Option.toList_some, Option.toList_none, List.cons_append, List.nil_append, true_and, and_true, true_or, or_true, reduceIte, Nat.reduceEqDiff, if_true, if_false, nI_1, e2, e3, i1, i2, i3]
  rw [e_La_law_501]
  simp (disch := first | exact ev_ok_i _ | exact ev_ok_r _ | exact ev_ok_n | omega | assumption | decide) only [ev_rm_n, ev_rm_i, ev_rm_r, ev_rm_l, ev_ok_n, ev_ok_i, ev_ok_r, Option.toList_some, Option.toList_none, List.cons_append, List.nil_append, true_and, and_true, true_or, or_true, reduceIte, Nat.reduceEqDiff, if_true, if_false, cg_Dp_rc, cg_Dp_text, cg_Dp_circuit, cg_Dp_reader, cg_Dp_current, cg_Dp_working, cg_Dp_saturator, cg_Dp_table, cg_Te_rc, cg_Te_bytes, cg_Te_length, cp_Te_length, cg_Ci_rc, cg_Ci_kinds, cg_Ci_firsts, cg_Ci_seconds, cg_Ci_inputVariables, cg_Ci_names, cg_Ci_nameLengths, cg_Ci_size, cp_Ci_size, cg_Ci_inputs, cp_Ci_inputs, cg_Re_rc, cg_Re_text, cg_Re_circuit, cg_Re_token, cp_Re_token, cg_Re_start, cp_Re_start, cg_Re_next, cp_Re_next, cg_Re_open, cp_Re_open, cg_Re_fault, cp_Re_fault, cg_Re_faultPlace, cp_Re_faultPlace, cg_Sa_rc, cg_Sa_circuit, cg_Sa_before, cg_Sa_trueBranches, cg_Sa_falseBranches, cg_Sa_tallies, cg_Sa_mostSteps, cp_Sa_mostSteps, cg_Sa_spent, cp_Sa_spent, cg_Ta_rc, cg_Ta_circuit, cg_Ta_words, cr_kinds, cw_kinds, cr_firsts, cw_firsts, cr_seconds, cw_seconds, cr_inputVariables, cw_inputVariables, cr_nameLengths, cw_nameLengths, cr_tallies, cw_tallies, cr_bytes, cw_bytes, cr_words, cw_words, cl_tallies, cr_names, cr_trueB, cr_falseB, cr_name, cw_name, cq_rc, cq_st, cq_size, cq_classes, cq_contradiction, cqp_size, cqp_classes, cqp_contradiction, cq_rd, cq_wr, cq_copy, cl_s_1, cl_s_2, cl_ar_1, cl_ar_2, cl_w_1, cl_w_2]
  refine (c_dpTold hR _).mpr ?_
  simp (disch := first | exact ev_ok_i _ | exact ev_ok_r _ | exact ev_ok_n | omega | assumption | decide) only [e_La_law_504, e_La_law_505, e_La_law_506, e_La_law_507, e_La_law_508, e_La_law_509, ev_rm_n, ev_rm_i, ev_rm_r, ev_rm_l, ev_ok_n, ev_ok_i, ev_ok_r, Option.toList_some, Option.toList_none, List.cons_append, List.nil_append, true_and, and_true, true_or, or_true, reduceIte, Nat.reduceEqDiff, if_true, if_false, nI_1, e2, e3, i1, i2, i3]
  rw [e_La_law_510]
  simp (disch := first | exact ev_ok_i _ | exact ev_ok_r _ | exact ev_ok_n | omega | assumption | decide) only [ev_rm_n, ev_rm_i, ev_rm_r, ev_rm_l, ev_ok_n, ev_ok_i, ev_ok_r, Option.toList_some, Option.toList_none, List.cons_append, List.nil_append, true_and, and_true, true_or, or_true, reduceIte, Nat.reduceEqDiff, if_true, if_false, la_rc]
  rw [hp_sw]
  refine (c_told hM _).mpr ?_
  simp (disch := first | exact ev_ok_i _ | exact ev_ok_r _ | exact ev_ok_n | omega | assumption | decide) only [e_La_law_513, ev_rm_n, ev_rm_i, ev_rm_r, ev_rm_l, ev_ok_n, ev_ok_i, ev_ok_r, Option.toList_some, Option.toList_none, List.cons_append, List.nil_append, true_and, and_true, true_or, or_true, reduceIte, Nat.reduceEqDiff, if_true, if_false]
  rw [← hp_sw]
  exact la_nx (hn _ _ ⟨w, hw, hR, hM⟩)
theorem la_value {i : Nat} {τ : cl_S} {σ : md_S} {w : sp_W} (hX : la_X X B b L xs g) (hi : i + 4 ≤ L) (hw : sp_wok w) (hR : cl_R τ w) (hM : md_R σ w) (hn : ∀ τ2 σ2, la_I τ2 σ2 → la_H X d B b g Q (i + 4) τ2 σ2) : ev_R X (d + 260) m_La_law 518 [some (.ref b), some (.ref B), some (.ref (B + 63)), some (.int (nI i))] [] (cl_put B τ (md_put (B + 63) σ g)) Q := by
  have e2 : nI i + 2 = nI (i + 2) := nI_add i 2
  have e3 : nI i + 3 = nI (i + 3) := nI_add i 3
  have i1 : ∀ (τ : cl_S) (σ : md_S) (K : Int32 → Prop), ev_ia X (cl_put B τ (md_put (B + 63) σ g)) b (nI (i + 1)) K ↔ K (xs (i + 1)) := fun τ σ K => la_ia hX (by omega)
  have i2 : ∀ (τ : cl_S) (σ : md_S) (K : Int32 → Prop), ev_ia X (cl_put B τ (md_put (B + 63) σ g)) b (nI (i + 2)) K ↔ K (xs (i + 2)) := fun τ σ K => la_ia hX (by omega)
  have i3 : ∀ (τ : cl_S) (σ : md_S) (K : Int32 → Prop), ev_ia X (cl_put B τ (md_put (B + 63) σ g)) b (nI (i + 3)) K ↔ K (xs (i + 3)) := fun τ σ K => la_ia hX (by omega)
  simp (disch := first | exact ev_ok_i _ | exact ev_ok_r _ | exact ev_ok_n | omega | assumption | decide) only [e_La_law_518, e_La_law_519, e_La_law_520, e_La_law_521, e_La_law_522, e_La_law_523, e_La_law_524, e_La_law_525, e_La_law_526, e_La_law_527, e_La_law_528, ev_rm_n, ev_rm_i, ev_rm_r, ev_rm_l, ev_ok_n, ev_ok_i, ev_ok_r, Option.toList_some, Option.toList_none, List.cons_append, List.nil_append, true_and, and_true, true_or, or_true, reduceIte, Nat.reduceEqDiff, if_true, if_false, nI_1, e2, e3, i1, i2, i3]
  rw [e_La_law_529]
  simp (disch := first | exact ev_ok_i _ | exact ev_ok_r _ | exact ev_ok_n | omega | assumption | decide) only [ev_rm_n, ev_rm_i, ev_rm_r, ev_rm_l, ev_ok_n, ev_ok_i, ev_ok_r, Option.toList_some, Option.toList_none, List.cons_append, List.nil_append, true_and, and_true, true_or, or_true, reduceIte, Nat.reduceEqDiff, if_true, if_false, cg_Dp_rc, cg_Dp_text, cg_Dp_circuit, cg_Dp_reader, cg_Dp_current, cg_Dp_working, cg_Dp_saturator, cg_Dp_table, cg_Te_rc, cg_Te_bytes, cg_Te_length, cp_Te_length, cg_Ci_rc, cg_Ci_kinds, cg_Ci_firsts, cg_Ci_seconds, cg_Ci_inputVariables, cg_Ci_names, cg_Ci_nameLengths, cg_Ci_size, cp_Ci_size, cg_Ci_inputs, cp_Ci_inputs, cg_Re_rc, cg_Re_text, cg_Re_circuit, cg_Re_token, cp_Re_token, cg_Re_start, cp_Re_start, cg_Re_next, cp_Re_next, cg_Re_open, cp_Re_open, cg_Re_fault, cp_Re_fault, cg_Re_faultPlace, cp_Re_faultPlace, cg_Sa_rc, cg_Sa_circuit, cg_Sa_before, cg_Sa_trueBranches, cg_Sa_falseBranches, cg_Sa_tallies, cg_Sa_mostSteps, cp_Sa_mostSteps, cg_Sa_spent, cp_Sa_spent, cg_Ta_rc, cg_Ta_circuit, cg_Ta_words, cr_kinds, cw_kinds, cr_firsts, cw_firsts, cr_seconds, cw_seconds, cr_inputVariables, cw_inputVariables, cr_nameLengths, cw_nameLengths, cr_tallies, cw_tallies, cr_bytes, cw_bytes, cr_words, cw_words, cl_tallies, cr_names, cr_trueB, cr_falseB, cr_name, cw_name, cq_rc, cq_st, cq_size, cq_classes, cq_contradiction, cqp_size, cqp_classes, cqp_contradiction, cq_rd, cq_wr, cq_copy, cl_s_1, cl_s_2, cl_ar_1, cl_ar_2, cl_w_1, cl_w_2]
  refine c_dpValue (hX.2.2 σ) hR hw _ _ (fun τ2 r => ?_)
  simp (disch := first | exact ev_ok_i _ | exact ev_ok_r _ | exact ev_ok_n | omega | assumption | decide) only [e_La_law_532, e_La_law_533, e_La_law_534, e_La_law_535, e_La_law_536, e_La_law_537, e_La_law_538, e_La_law_539, e_La_law_540, e_La_law_541, e_La_law_542, ev_rm_n, ev_rm_i, ev_rm_r, ev_rm_l, ev_ok_n, ev_ok_i, ev_ok_r, Option.toList_some, Option.toList_none, List.cons_append, List.nil_append, true_and, and_true, true_or, or_true, reduceIte, Nat.reduceEqDiff, if_true, if_false, nI_1, e2, e3, i1, i2, i3]
  rw [e_La_law_543]
  simp (disch := first | exact ev_ok_i _ | exact ev_ok_r _ | exact ev_ok_n | omega | assumption | decide) only [ev_rm_n, ev_rm_i, ev_rm_r, ev_rm_l, ev_ok_n, ev_ok_i, ev_ok_r, Option.toList_some, Option.toList_none, List.cons_append, List.nil_append, true_and, and_true, true_or, or_true, reduceIte, Nat.reduceEqDiff, if_true, if_false, la_rc]
  rw [hp_sw]
  refine c_value hM hw _ _ (fun σ2 q => ?_)
  simp (disch := first | exact ev_ok_i _ | exact ev_ok_r _ | exact ev_ok_n | omega | assumption | decide) only [e_La_law_546, ev_rm_n, ev_rm_i, ev_rm_r, ev_rm_l, ev_ok_n, ev_ok_i, ev_ok_r, Option.toList_some, Option.toList_none, List.cons_append, List.nil_append, true_and, and_true, true_or, or_true, reduceIte, Nat.reduceEqDiff, if_true, if_false]
  rw [← hp_sw]
  exact la_nx (hn _ _ ⟨w, hw, r, q⟩)
theorem la_model {i : Nat} {τ : cl_S} {σ : md_S} {w : sp_W} (hX : la_X X B b L xs g) (hi : i + 4 ≤ L) (hw : sp_wok w) (hR : cl_R τ w) (hM : md_R σ w) (hn : ∀ τ2 σ2, la_I τ2 σ2 → la_H X d B b g Q (i + 4) τ2 σ2) : ev_R X (d + 260) m_La_law 551 [some (.ref b), some (.ref B), some (.ref (B + 63)), some (.int (nI i))] [] (cl_put B τ (md_put (B + 63) σ g)) Q := by
  have e2 : nI i + 2 = nI (i + 2) := nI_add i 2
  have e3 : nI i + 3 = nI (i + 3) := nI_add i 3
  have i1 : ∀ (τ : cl_S) (σ : md_S) (K : Int32 → Prop), ev_ia X (cl_put B τ (md_put (B + 63) σ g)) b (nI (i + 1)) K ↔ K (xs (i + 1)) := fun τ σ K => la_ia hX (by omega)
  have i2 : ∀ (τ : cl_S) (σ : md_S) (K : Int32 → Prop), ev_ia X (cl_put B τ (md_put (B + 63) σ g)) b (nI (i + 2)) K ↔ K (xs (i + 2)) := fun τ σ K => la_ia hX (by omega)
  have i3 : ∀ (τ : cl_S) (σ : md_S) (K : Int32 → Prop), ev_ia X (cl_put B τ (md_put (B + 63) σ g)) b (nI (i + 3)) K ↔ K (xs (i + 3)) := fun τ σ K => la_ia hX (by omega)
  simp (disch := first | exact ev_ok_i _ | exact ev_ok_r _ | exact ev_ok_n | omega | assumption | decide) only [e_La_law_551, e_La_law_552, e_La_law_553, e_La_law_554, e_La_law_555, e_La_law_556, ev_rm_n, ev_rm_i, ev_rm_r, ev_rm_l, ev_ok_n, ev_ok_i, ev_ok_r, Option.toList_some, Option.toList_none, List.cons_append, List.nil_append, true_and, and_true, true_or, or_true, reduceIte, Nat.reduceEqDiff, if_true, if_false, nI_1, e2, e3, i1, i2, i3]
  rw [e_La_law_557]
  simp (disch := first | exact ev_ok_i _ | exact ev_ok_r _ | exact ev_ok_n | omega | assumption | decide) only [ev_rm_n, ev_rm_i, ev_rm_r, ev_rm_l, ev_ok_n, ev_ok_i, ev_ok_r, Option.toList_some, Option.toList_none, List.cons_append, List.nil_append, true_and, and_true, true_or, or_true, reduceIte, Nat.reduceEqDiff, if_true, if_false, cg_Dp_rc, cg_Dp_text, cg_Dp_circuit, cg_Dp_reader, cg_Dp_current, cg_Dp_working, cg_Dp_saturator, cg_Dp_table, cg_Te_rc, cg_Te_bytes, cg_Te_length, cp_Te_length, cg_Ci_rc, cg_Ci_kinds, cg_Ci_firsts, cg_Ci_seconds, cg_Ci_inputVariables, cg_Ci_names, cg_Ci_nameLengths, cg_Ci_size, cp_Ci_size, cg_Ci_inputs, cp_Ci_inputs, cg_Re_rc, cg_Re_text, cg_Re_circuit, cg_Re_token, cp_Re_token, cg_Re_start, cp_Re_start, cg_Re_next, cp_Re_next, cg_Re_open, cp_Re_open, cg_Re_fault, cp_Re_fault, cg_Re_faultPlace, cp_Re_faultPlace, cg_Sa_rc, cg_Sa_circuit, cg_Sa_before, cg_Sa_trueBranches, cg_Sa_falseBranches, cg_Sa_tallies, cg_Sa_mostSteps, cp_Sa_mostSteps, cg_Sa_spent, cp_Sa_spent, cg_Ta_rc, cg_Ta_circuit, cg_Ta_words, cr_kinds, cw_kinds, cr_firsts, cw_firsts, cr_seconds, cw_seconds, cr_inputVariables, cw_inputVariables, cr_nameLengths, cw_nameLengths, cr_tallies, cw_tallies, cr_bytes, cw_bytes, cr_words, cw_words, cl_tallies, cr_names, cr_trueB, cr_falseB, cr_name, cw_name, cq_rc, cq_st, cq_size, cq_classes, cq_contradiction, cqp_size, cqp_classes, cqp_contradiction, cq_rd, cq_wr, cq_copy, cl_s_1, cl_s_2, cl_ar_1, cl_ar_2, cl_w_1, cl_w_2]
  refine c_dpModel (hX.2.2 σ) hR hw _ (fun τ2 r => ?_)
  simp (disch := first | exact ev_ok_i _ | exact ev_ok_r _ | exact ev_ok_n | omega | assumption | decide) only [e_La_law_560, e_La_law_561, e_La_law_562, e_La_law_563, e_La_law_564, e_La_law_565, ev_rm_n, ev_rm_i, ev_rm_r, ev_rm_l, ev_ok_n, ev_ok_i, ev_ok_r, Option.toList_some, Option.toList_none, List.cons_append, List.nil_append, true_and, and_true, true_or, or_true, reduceIte, Nat.reduceEqDiff, if_true, if_false, nI_1, e2, e3, i1, i2, i3]
  rw [e_La_law_566]
  simp (disch := first | exact ev_ok_i _ | exact ev_ok_r _ | exact ev_ok_n | omega | assumption | decide) only [ev_rm_n, ev_rm_i, ev_rm_r, ev_rm_l, ev_ok_n, ev_ok_i, ev_ok_r, Option.toList_some, Option.toList_none, List.cons_append, List.nil_append, true_and, and_true, true_or, or_true, reduceIte, Nat.reduceEqDiff, if_true, if_false, la_rc]
  rw [hp_sw]
  refine c_model hM hw _ (fun σ2 q => ?_)
  simp (disch := first | exact ev_ok_i _ | exact ev_ok_r _ | exact ev_ok_n | omega | assumption | decide) only [e_La_law_569, ev_rm_n, ev_rm_i, ev_rm_r, ev_rm_l, ev_ok_n, ev_ok_i, ev_ok_r, Option.toList_some, Option.toList_none, List.cons_append, List.nil_append, true_and, and_true, true_or, or_true, reduceIte, Nat.reduceEqDiff, if_true, if_false]
  rw [← hp_sw]
  exact la_nx (hn _ _ ⟨w, hw, r, q⟩)
theorem la_alike {i : Nat} {τ : cl_S} {σ : md_S} {w : sp_W} (hX : la_X X B b L xs g) (hi : i + 4 ≤ L) (hw : sp_wok w) (hR : cl_R τ w) (hM : md_R σ w) (hn : ∀ τ2 σ2, la_I τ2 σ2 → la_H X d B b g Q (i + 4) τ2 σ2) : ev_R X (d + 260) m_La_law 574 [some (.ref b), some (.ref B), some (.ref (B + 63)), some (.int (nI i))] [] (cl_put B τ (md_put (B + 63) σ g)) Q := by
  have e2 : nI i + 2 = nI (i + 2) := nI_add i 2
  have e3 : nI i + 3 = nI (i + 3) := nI_add i 3
  have i1 : ∀ (τ : cl_S) (σ : md_S) (K : Int32 → Prop), ev_ia X (cl_put B τ (md_put (B + 63) σ g)) b (nI (i + 1)) K ↔ K (xs (i + 1)) := fun τ σ K => la_ia hX (by omega)
  have i2 : ∀ (τ : cl_S) (σ : md_S) (K : Int32 → Prop), ev_ia X (cl_put B τ (md_put (B + 63) σ g)) b (nI (i + 2)) K ↔ K (xs (i + 2)) := fun τ σ K => la_ia hX (by omega)
  have i3 : ∀ (τ : cl_S) (σ : md_S) (K : Int32 → Prop), ev_ia X (cl_put B τ (md_put (B + 63) σ g)) b (nI (i + 3)) K ↔ K (xs (i + 3)) := fun τ σ K => la_ia hX (by omega)
  simp (disch := first | exact ev_ok_i _ | exact ev_ok_r _ | exact ev_ok_n | omega | assumption | decide) only [e_La_law_574, e_La_law_575, e_La_law_576, e_La_law_577, e_La_law_578, e_La_law_579, e_La_law_580, e_La_law_581, e_La_law_582, e_La_law_583, e_La_law_584, ev_rm_n, ev_rm_i, ev_rm_r, ev_rm_l, ev_ok_n, ev_ok_i, ev_ok_r, Option.toList_some, Option.toList_none, List.cons_append, List.nil_append, true_and, and_true, true_or, or_true, reduceIte, Nat.reduceEqDiff, if_true, if_false, nI_1, e2, e3, i1, i2, i3]
  rw [e_La_law_585]
  simp (disch := first | exact ev_ok_i _ | exact ev_ok_r _ | exact ev_ok_n | omega | assumption | decide) only [ev_rm_n, ev_rm_i, ev_rm_r, ev_rm_l, ev_ok_n, ev_ok_i, ev_ok_r, Option.toList_some, Option.toList_none, List.cons_append, List.nil_append, true_and, and_true, true_or, or_true, reduceIte, Nat.reduceEqDiff, if_true, if_false, cg_Dp_rc, cg_Dp_text, cg_Dp_circuit, cg_Dp_reader, cg_Dp_current, cg_Dp_working, cg_Dp_saturator, cg_Dp_table, cg_Te_rc, cg_Te_bytes, cg_Te_length, cp_Te_length, cg_Ci_rc, cg_Ci_kinds, cg_Ci_firsts, cg_Ci_seconds, cg_Ci_inputVariables, cg_Ci_names, cg_Ci_nameLengths, cg_Ci_size, cp_Ci_size, cg_Ci_inputs, cp_Ci_inputs, cg_Re_rc, cg_Re_text, cg_Re_circuit, cg_Re_token, cp_Re_token, cg_Re_start, cp_Re_start, cg_Re_next, cp_Re_next, cg_Re_open, cp_Re_open, cg_Re_fault, cp_Re_fault, cg_Re_faultPlace, cp_Re_faultPlace, cg_Sa_rc, cg_Sa_circuit, cg_Sa_before, cg_Sa_trueBranches, cg_Sa_falseBranches, cg_Sa_tallies, cg_Sa_mostSteps, cp_Sa_mostSteps, cg_Sa_spent, cp_Sa_spent, cg_Ta_rc, cg_Ta_circuit, cg_Ta_words, cr_kinds, cw_kinds, cr_firsts, cw_firsts, cr_seconds, cw_seconds, cr_inputVariables, cw_inputVariables, cr_nameLengths, cw_nameLengths, cr_tallies, cw_tallies, cr_bytes, cw_bytes, cr_words, cw_words, cl_tallies, cr_names, cr_trueB, cr_falseB, cr_name, cw_name, cq_rc, cq_st, cq_size, cq_classes, cq_contradiction, cqp_size, cqp_classes, cqp_contradiction, cq_rd, cq_wr, cq_copy, cl_s_1, cl_s_2, cl_ar_1, cl_ar_2, cl_w_1, cl_w_2]
  refine c_dpAlike (hX.2.2 σ) hR hw _ _ (fun τ2 r => ?_)
  simp (disch := first | exact ev_ok_i _ | exact ev_ok_r _ | exact ev_ok_n | omega | assumption | decide) only [e_La_law_588, e_La_law_589, e_La_law_590, e_La_law_591, e_La_law_592, e_La_law_593, e_La_law_594, e_La_law_595, e_La_law_596, e_La_law_597, e_La_law_598, ev_rm_n, ev_rm_i, ev_rm_r, ev_rm_l, ev_ok_n, ev_ok_i, ev_ok_r, Option.toList_some, Option.toList_none, List.cons_append, List.nil_append, true_and, and_true, true_or, or_true, reduceIte, Nat.reduceEqDiff, if_true, if_false, nI_1, e2, e3, i1, i2, i3]
  rw [e_La_law_599]
  simp (disch := first | exact ev_ok_i _ | exact ev_ok_r _ | exact ev_ok_n | omega | assumption | decide) only [ev_rm_n, ev_rm_i, ev_rm_r, ev_rm_l, ev_ok_n, ev_ok_i, ev_ok_r, Option.toList_some, Option.toList_none, List.cons_append, List.nil_append, true_and, and_true, true_or, or_true, reduceIte, Nat.reduceEqDiff, if_true, if_false, la_rc]
  rw [hp_sw]
  refine c_alike hM hw _ _ (fun σ2 q => ?_)
  simp (disch := first | exact ev_ok_i _ | exact ev_ok_r _ | exact ev_ok_n | omega | assumption | decide) only [e_La_law_602, ev_rm_n, ev_rm_i, ev_rm_r, ev_rm_l, ev_ok_n, ev_ok_i, ev_ok_r, Option.toList_some, Option.toList_none, List.cons_append, List.nil_append, true_and, and_true, true_or, or_true, reduceIte, Nat.reduceEqDiff, if_true, if_false]
  rw [← hp_sw]
  exact la_nx (hn _ _ ⟨w, hw, r, q⟩)
theorem la_loop (hX : la_X X B b L xs g) (hQ : ∀ τ σ, Q (some (.int 1)) (cl_put B τ (md_put (B + 63) σ g))) : ∀ (n i : Nat) (τ : cl_S) (σ : md_S), L ≤ i + n → i ≤ 2048 → la_I τ σ → la_H X d B b g Q i τ σ := by
  have hL := hX.1.2.2.2
  have al : ∀ (τ : cl_S) (σ : md_S) (K : Int32 → Prop), ev_al X (cl_put B τ (md_put (B + 63) σ g)) b K ↔ K (nI L) := fun τ σ K => la_al hX
  intro n
  induction n using Nat.strongRecOn with
  | _ n ih =>
    intro i τ σ hn hi hI
    have cmp : nI L - 4 < nI i ↔ ¬ i + 4 ≤ L := by
      by_cases h4 : 4 ≤ L
      · have sub : nI L - 4 = nI (L - 4) := nL_sub (b := 4) h4
        rw [sub, nI_ltI (by omega) (by omega)]
        omega
      · have hneg : nI L - 4 < 0 := pk_sneg (b := 4) (by decide) (by omega)
        have hp : (0 : Int32) ≤ nI i := nI_pos' (by omega)
        exact ⟨fun _ => by omega, fun _ => Int32.lt_of_lt_of_le hneg hp⟩
    show ev_R X (d + 260) m_La_law 18 [some (.ref b), some (.ref B), some (.ref (B + 63)), some (.int (nI i))] [] (cl_put B τ (md_put (B + 63) σ g)) Q
    simp (disch := first | exact ev_ok_i _ | exact ev_ok_r _ | exact ev_ok_n | omega | assumption | decide) only [e_La_law_18, e_La_law_19, e_La_law_20, e_La_law_21, e_La_law_22, e_La_law_23, ev_rm_n, ev_rm_i, ev_rm_r, ev_rm_l, ev_ok_n, ev_ok_i, ev_ok_r, Option.toList_some, Option.toList_none, List.cons_append, List.nil_append, true_and, and_true, true_or, or_true, reduceIte, Nat.reduceEqDiff, if_true, if_false, al, cmp]
    by_cases c : i + 4 ≤ L
    · rw [if_neg (fun z => z c)]
      have i0 : ∀ (τ : cl_S) (σ : md_S) (K : Int32 → Prop), ev_ia X (cl_put B τ (md_put (B + 63) σ g)) b (nI i) K ↔ K (xs i) := fun τ σ K => la_ia hX (by omega)
      simp (disch := first | exact ev_ok_i _ | exact ev_ok_r _ | exact ev_ok_n | omega | assumption | decide) only [e_La_law_26, e_La_law_27, e_La_law_28, e_La_law_29, e_La_law_31, ev_rm_n, ev_rm_i, ev_rm_r, ev_rm_l, ev_ok_n, ev_ok_i, ev_ok_r, Option.toList_some, Option.toList_none, List.cons_append, List.nil_append, true_and, and_true, true_or, or_true, reduceIte, Nat.reduceEqDiff, if_true, if_false, i0]
      rw [e_La_law_32]
      have hnx : ∀ τ2 σ2, la_I τ2 σ2 → la_H X d B b g Q (i + 4) τ2 σ2 := fun τ2 σ2 h2 => by
        by_cases n4 : n < 4
        · exact ih 0 (by omega) (i + 4) τ2 σ2 (by omega) (by omega) h2
        · exact ih (n - 4) (by omega) (i + 4) τ2 σ2 (by omega) (by omega) h2
      obtain ⟨w, hw, hR, hM⟩ := hI
      refine ite_cases (fun _ => la_feed hX c hw hR hM hnx) (fun _ => ?_)
      refine ite_cases (fun _ => la_read hX c hw hR hM hnx) (fun _ => ?_)
      refine ite_cases (fun _ => la_place hX c hw hR hM hnx) (fun _ => ?_)
      refine ite_cases (fun _ => la_count hX c hw hR hM hnx) (fun _ => ?_)
      refine ite_cases (fun _ => la_variable hX c hw hR hM hnx) (fun _ => ?_)
      refine ite_cases (fun _ => la_gate hX c hw hR hM hnx) (fun _ => ?_)
      refine ite_cases (fun _ => la_sign hX c hw hR hM hnx) (fun _ => ?_)
      refine ite_cases (fun _ => la_clear hX c hw hR hM hnx) (fun _ => ?_)
      refine ite_cases (fun _ => la_forget hX c hw hR hM hnx) (fun _ => ?_)
      refine ite_cases (fun _ => la_join hX c hw hR hM hnx) (fun _ => ?_)
      refine ite_cases (fun _ => la_stands hX c hw hR hM hnx) (fun _ => ?_)
      refine ite_cases (fun _ => la_saturate hX c hw hR hM hnx) (fun _ => ?_)
      refine ite_cases (fun _ => la_prove hX c hw hR hM hnx) (fun _ => ?_)
      refine ite_cases (fun _ => la_told hX c hw hR hM hnx) (fun _ => ?_)
      refine ite_cases (fun _ => la_value hX c hw hR hM hnx) (fun _ => ?_)
      refine ite_cases (fun _ => la_model hX c hw hR hM hnx) (fun _ => ?_)
      refine ite_cases (fun _ => la_alike hX c hw hR hM hnx) (fun _ => ?_)
      exact la_nx (hnx _ _ ⟨w, hw, hR, hM⟩)
    · rw [if_pos c]
      simp (disch := first | exact ev_ok_i _ | exact ev_ok_r _ | exact ev_ok_n | omega | assumption | decide) only [e_La_law_613, e_La_law_614, ev_rm_n, ev_rm_i, ev_rm_r, ev_rm_l, ev_ok_n, ev_ok_i, ev_ok_r, Option.toList_some, Option.toList_none, List.cons_append, List.nil_append, true_and, and_true, true_or, or_true, reduceIte, Nat.reduceEqDiff, if_true, if_false]
      exact hQ τ σ
end LA
