/-! the rules of SAME, rounds -/
theorem nL_x (a b : Nat) : nI a ^^^ nI b = nI (a ^^^ b) := by
  apply Int32.toBitVec_inj.mp
  show BitVec.ofNat 32 a ^^^ BitVec.ofNat 32 b = BitVec.ofNat 32 (a ^^^ b)
  apply BitVec.eq_of_toNat_eq
  simp [BitVec.toNat_xor, BitVec.toNat_ofNat]
theorem xort_lt {a t n : Nat} (h : a < 2 * n) (ht : t < 2) : a ^^^ t < 2 * n := by
  have h1 : t = 0 ∨ t = 1 := by omega
  rcases h1 with rfl | rfl
  · simpa using h
  · exact xor1_lt h
/-- the rules of SAME for one value t -/
def sp_sam1 (ol : Nat → Nat) (E : sp_E) (x a b t : Nat) : sp_E :=
  let E1 := if ol a = ol t then sp_j E x (b ^^^ t) else E
  let E2 := if ol b = ol t then sp_j E1 x (a ^^^ t) else E1
  let E3 := if ol x = ol t then sp_j E2 a (b ^^^ t) else E2
  let E4 := if ol a = ol (b ^^^ t) then sp_j E3 x t else E3
  let E5 := if ol x = ol (a ^^^ t) then sp_j E4 b t else E4
  if ol x = ol (b ^^^ t) then sp_j E5 a t else E5
def sp_same (ol : Nat → Nat) (E : sp_E) (x a b : Nat) : sp_E := sp_sam1 ol (sp_sam1 ol E x a b 0) x a b 1
section M4
variable {X : xo_X} {d B : Nat} {σ : md_S} {g : xo_G} {Q : Option Value → xo_G → Prop}
theorem sp_sam1_bd {n x a b t : Nat} {ol : Nat → Nat} {E : sp_E} (hE : sp_bd n E) (hx : x < 2 * n) (ha : a < 2 * n) (hb : b < 2 * n) (ht : t < 2) (h0 : 1 ≤ n) : sp_bd n (sp_sam1 ol E x a b t) := by
  have ha1 := xort_lt ha ht
  have hb1 := xort_lt hb ht
  have htn : t < 2 * n := by omega
  unfold sp_sam1
  have b1 := sp_if_bd (c := ol a = ol t) (sp_j_bd hE hx hb1) hE
  have b2 := sp_if_bd (c := ol b = ol t) (sp_j_bd b1 hx ha1) b1
  have b3 := sp_if_bd (c := ol x = ol t) (sp_j_bd b2 ha hb1) b2
  have b4 := sp_if_bd (c := ol a = ol (b ^^^ t)) (sp_j_bd b3 hx htn) b3
  have b5 := sp_if_bd (c := ol x = ol (a ^^^ t)) (sp_j_bd b4 hb htn) b4
  exact sp_if_bd (c := ol x = ol (b ^^^ t)) (sp_j_bd b5 ha htn) b5
theorem sp_and_bd {n x a b : Nat} {ol : Nat → Nat} {E : sp_E} (hE : sp_bd n E) (hx : x < 2 * n) (ha : a < 2 * n) (hb : b < 2 * n) (h0 : 1 ≤ n) : sp_bd n (sp_and ol E x a b) := by
  have z0 : 0 < 2 * n := by omega
  have z1 : 1 < 2 * n := by omega
  unfold sp_and
  have b1 := sp_if_bd (c := ol a = ol 0) (sp_j_bd hE hx hb) hE
  have b2 := sp_if_bd (c := ol b = ol 0) (sp_j_bd b1 hx ha) b1
  have b3 := sp_if_bd (c := ol a = ol 1 ∨ ol b = ol 1 ∨ ol a = ol (b ^^^ 1)) (sp_j_bd b2 hx z1) b2
  have b4 := sp_if_bd (c := ol a = ol b) (sp_j_bd b3 hx ha) b3
  have b5 := sp_if_bd (c := ol x = ol 0) (sp_j_bd (sp_j_bd b4 ha z0) hb z0) b4
  have b6 := sp_if_bd (c := ol x = ol (a ^^^ 1)) (sp_j_bd (sp_j_bd b5 ha z0) hb z1) b5
  exact sp_if_bd (c := ol x = ol (b ^^^ 1)) (sp_j_bd (sp_j_bd b6 hb z0) ha z1) b6
set_option maxHeartbeats 2000000 in
theorem c_same1 {n f x a b t : Nat} (h1 : σ.1 3 = nI n) (h0 : 1 ≤ n) (hn : n ≤ 120) (hf : f < 6) {ol : Nat → Nat} (ho : ∀ l, l < 2 * n → σ.2 34 l = nI (ol l) ∧ ol l < 2 ^ 31) (hx : x < 2 * n) (ha : a < 2 * n) (hb : b < 2 * n) (ht : t < 2) {E : sp_E} (hE : sp_bd n E) : ev_R X (d + 2) m_Md_sameRules 9 [some (.ref B), some (.int (nI f)), some (.int (nI x)), some (.int (nI a)), some (.int (nI b)), some (.int (nI t))] [] (md_put B (md_wr σ n f E) g) Q ↔ ev_R X (d + 2) m_Md_sameRules 135 [some (.ref B), some (.int (nI f)), some (.int (nI x)), some (.int (nI a)), some (.int (nI b)), some (.int (nI t))] [] (md_put B (md_wr σ n f (sp_sam1 ol E x a b t)) g) Q := by
  have ha1 := xort_lt ha ht
  have hb1 := xort_lt hb ht
  have htn : t < 2 * n := by omega
  have hi : ∀ (E : sp_E) (Q : Option Value → xo_G → Prop) (u v : Nat), u < 2 * n → v < 2 * n → (ev_C X (d + 1) m_Md_is [.ref B, .int (nI u), .int (nI v)] (md_put B (md_wr σ n f E) g) Q ↔ Q (some (.int (zi (ol u = ol v)))) (md_put B (md_wr σ n f E) g)) := fun E Q u v hu hv => c_is (fun l hl => by rw [md_wr_2 σ n f E (by decide) (by decide)]; exact ho l hl) hn hu hv
  have hj : ∀ (E : sp_E) (Q : Option Value → xo_G → Prop) (u v : Nat), sp_bd n E → u < 2 * n → v < 2 * n → (ev_C X (d + 1) m_Md_join2 [.ref B, .int (nI f), .int (nI u), .int (nI v)] (md_put B (md_wr σ n f E) g) Q ↔ Q none (md_put B (md_wr σ n f (sp_j E u v)) g)) := fun E Q u v hE hu hv => c_join2 h1 hn hf hE hu hv
  have s1 : ∀ E : sp_E, sp_bd n E → (ev_R X (d + 2) m_Md_sameRules 9 [some (.ref B), some (.int (nI f)), some (.int (nI x)), some (.int (nI a)), some (.int (nI b)), some (.int (nI t))] [] (md_put B (md_wr σ n f E) g) Q ↔ ev_R X (d + 2) m_Md_sameRules 30 [some (.ref B), some (.int (nI f)), some (.int (nI x)), some (.int (nI a)), some (.int (nI b)), some (.int (nI t))] [] (md_put B (md_wr σ n f (if ol a = ol t then sp_j E x (b ^^^ t) else E)) g) Q) := fun E hE => by
    simp (disch := first | exact ev_ok_i _ | exact ev_ok_r _ | exact ev_ok_n | omega | assumption) only [e_Md_sameRules_9, e_Md_sameRules_10, e_Md_sameRules_11, e_Md_sameRules_13, e_Md_sameRules_16, e_Md_sameRules_19, e_Md_sameRules_20, e_Md_sameRules_21, e_Md_sameRules_22, e_Md_sameRules_24, e_Md_sameRules_26, e_Md_sameRules_27, ev_rm_n, ev_rm_i, ev_rm_r, ev_rm_l, ev_ok_n, ev_ok_i, ev_ok_r, Option.toList_some, Option.toList_none, List.cons_append, List.nil_append, true_and, and_true, true_or, or_true, reduceIte, Nat.reduceEqDiff, if_true, if_false, md_rc, hi, hj, zi_0, nL_x]
    by_cases c : ol a = ol t <;> simp [c]
  have s2 : ∀ E : sp_E, sp_bd n E → (ev_R X (d + 2) m_Md_sameRules 30 [some (.ref B), some (.int (nI f)), some (.int (nI x)), some (.int (nI a)), some (.int (nI b)), some (.int (nI t))] [] (md_put B (md_wr σ n f E) g) Q ↔ ev_R X (d + 2) m_Md_sameRules 51 [some (.ref B), some (.int (nI f)), some (.int (nI x)), some (.int (nI a)), some (.int (nI b)), some (.int (nI t))] [] (md_put B (md_wr σ n f (if ol b = ol t then sp_j E x (a ^^^ t) else E)) g) Q) := fun E hE => by
    simp (disch := first | exact ev_ok_i _ | exact ev_ok_r _ | exact ev_ok_n | omega | assumption) only [e_Md_sameRules_30, e_Md_sameRules_31, e_Md_sameRules_33, e_Md_sameRules_35, e_Md_sameRules_38, e_Md_sameRules_41, e_Md_sameRules_42, e_Md_sameRules_43, e_Md_sameRules_44, e_Md_sameRules_45, e_Md_sameRules_47, e_Md_sameRules_48, ev_rm_n, ev_rm_i, ev_rm_r, ev_rm_l, ev_ok_n, ev_ok_i, ev_ok_r, Option.toList_some, Option.toList_none, List.cons_append, List.nil_append, true_and, and_true, true_or, or_true, reduceIte, Nat.reduceEqDiff, if_true, if_false, md_rc, hi, hj, zi_0, nL_x]
    by_cases c : ol b = ol t <;> simp [c]
  have s3 : ∀ E : sp_E, sp_bd n E → (ev_R X (d + 2) m_Md_sameRules 51 [some (.ref B), some (.int (nI f)), some (.int (nI x)), some (.int (nI a)), some (.int (nI b)), some (.int (nI t))] [] (md_put B (md_wr σ n f E) g) Q ↔ ev_R X (d + 2) m_Md_sameRules 72 [some (.ref B), some (.int (nI f)), some (.int (nI x)), some (.int (nI a)), some (.int (nI b)), some (.int (nI t))] [] (md_put B (md_wr σ n f (if ol x = ol t then sp_j E a (b ^^^ t) else E)) g) Q) := fun E hE => by
    simp (disch := first | exact ev_ok_i _ | exact ev_ok_r _ | exact ev_ok_n | omega | assumption) only [e_Md_sameRules_51, e_Md_sameRules_52, e_Md_sameRules_53, e_Md_sameRules_55, e_Md_sameRules_58, e_Md_sameRules_61, e_Md_sameRules_62, e_Md_sameRules_63, e_Md_sameRules_64, e_Md_sameRules_66, e_Md_sameRules_68, e_Md_sameRules_69, ev_rm_n, ev_rm_i, ev_rm_r, ev_rm_l, ev_ok_n, ev_ok_i, ev_ok_r, Option.toList_some, Option.toList_none, List.cons_append, List.nil_append, true_and, and_true, true_or, or_true, reduceIte, Nat.reduceEqDiff, if_true, if_false, md_rc, hi, hj, zi_0, nL_x]
    by_cases c : ol x = ol t <;> simp [c]
  have s4 : ∀ E : sp_E, sp_bd n E → (ev_R X (d + 2) m_Md_sameRules 72 [some (.ref B), some (.int (nI f)), some (.int (nI x)), some (.int (nI a)), some (.int (nI b)), some (.int (nI t))] [] (md_put B (md_wr σ n f E) g) Q ↔ ev_R X (d + 2) m_Md_sameRules 93 [some (.ref B), some (.int (nI f)), some (.int (nI x)), some (.int (nI a)), some (.int (nI b)), some (.int (nI t))] [] (md_put B (md_wr σ n f (if ol a = ol (b ^^^ t) then sp_j E x t else E)) g) Q) := fun E hE => by
    simp (disch := first | exact ev_ok_i _ | exact ev_ok_r _ | exact ev_ok_n | omega | assumption) only [e_Md_sameRules_72, e_Md_sameRules_73, e_Md_sameRules_74, e_Md_sameRules_76, e_Md_sameRules_78, e_Md_sameRules_79, e_Md_sameRules_82, e_Md_sameRules_85, e_Md_sameRules_86, e_Md_sameRules_87, e_Md_sameRules_88, e_Md_sameRules_90, ev_rm_n, ev_rm_i, ev_rm_r, ev_rm_l, ev_ok_n, ev_ok_i, ev_ok_r, Option.toList_some, Option.toList_none, List.cons_append, List.nil_append, true_and, and_true, true_or, or_true, reduceIte, Nat.reduceEqDiff, if_true, if_false, md_rc, hi, hj, zi_0, nL_x]
    by_cases c : ol a = ol (b ^^^ t) <;> simp [c]
  have s5 : ∀ E : sp_E, sp_bd n E → (ev_R X (d + 2) m_Md_sameRules 93 [some (.ref B), some (.int (nI f)), some (.int (nI x)), some (.int (nI a)), some (.int (nI b)), some (.int (nI t))] [] (md_put B (md_wr σ n f E) g) Q ↔ ev_R X (d + 2) m_Md_sameRules 114 [some (.ref B), some (.int (nI f)), some (.int (nI x)), some (.int (nI a)), some (.int (nI b)), some (.int (nI t))] [] (md_put B (md_wr σ n f (if ol x = ol (a ^^^ t) then sp_j E b t else E)) g) Q) := fun E hE => by
    simp (disch := first | exact ev_ok_i _ | exact ev_ok_r _ | exact ev_ok_n | omega | assumption) only [e_Md_sameRules_93, e_Md_sameRules_94, e_Md_sameRules_95, e_Md_sameRules_96, e_Md_sameRules_98, e_Md_sameRules_99, e_Md_sameRules_102, e_Md_sameRules_105, e_Md_sameRules_106, e_Md_sameRules_107, e_Md_sameRules_109, e_Md_sameRules_111, ev_rm_n, ev_rm_i, ev_rm_r, ev_rm_l, ev_ok_n, ev_ok_i, ev_ok_r, Option.toList_some, Option.toList_none, List.cons_append, List.nil_append, true_and, and_true, true_or, or_true, reduceIte, Nat.reduceEqDiff, if_true, if_false, md_rc, hi, hj, zi_0, nL_x]
    by_cases c : ol x = ol (a ^^^ t) <;> simp [c]
  have s6 : ∀ E : sp_E, sp_bd n E → (ev_R X (d + 2) m_Md_sameRules 114 [some (.ref B), some (.int (nI f)), some (.int (nI x)), some (.int (nI a)), some (.int (nI b)), some (.int (nI t))] [] (md_put B (md_wr σ n f E) g) Q ↔ ev_R X (d + 2) m_Md_sameRules 135 [some (.ref B), some (.int (nI f)), some (.int (nI x)), some (.int (nI a)), some (.int (nI b)), some (.int (nI t))] [] (md_put B (md_wr σ n f (if ol x = ol (b ^^^ t) then sp_j E a t else E)) g) Q) := fun E hE => by
    simp (disch := first | exact ev_ok_i _ | exact ev_ok_r _ | exact ev_ok_n | omega | assumption) only [e_Md_sameRules_114, e_Md_sameRules_115, e_Md_sameRules_116, e_Md_sameRules_118, e_Md_sameRules_120, e_Md_sameRules_121, e_Md_sameRules_124, e_Md_sameRules_127, e_Md_sameRules_128, e_Md_sameRules_129, e_Md_sameRules_130, e_Md_sameRules_132, ev_rm_n, ev_rm_i, ev_rm_r, ev_rm_l, ev_ok_n, ev_ok_i, ev_ok_r, Option.toList_some, Option.toList_none, List.cons_append, List.nil_append, true_and, and_true, true_or, or_true, reduceIte, Nat.reduceEqDiff, if_true, if_false, md_rc, hi, hj, zi_0, nL_x]
    by_cases c : ol x = ol (b ^^^ t) <;> simp [c]
  have b1 := sp_if_bd (c := ol a = ol t) (sp_j_bd hE hx hb1) hE
  have b2 := sp_if_bd (c := ol b = ol t) (sp_j_bd b1 hx ha1) b1
  have b3 := sp_if_bd (c := ol x = ol t) (sp_j_bd b2 ha hb1) b2
  have b4 := sp_if_bd (c := ol a = ol (b ^^^ t)) (sp_j_bd b3 hx htn) b3
  have b5 := sp_if_bd (c := ol x = ol (a ^^^ t)) (sp_j_bd b4 hb htn) b4
  rw [s1 _ hE, s2 _ b1, s3 _ b2, s4 _ b3, s5 _ b4, s6 _ b5]
  rfl
theorem c_sameRules {n f x a b : Nat} (h1 : σ.1 3 = nI n) (h0 : 1 ≤ n) (hn : n ≤ 120) (hf : f < 6) {ol : Nat → Nat} (ho : ∀ l, l < 2 * n → σ.2 34 l = nI (ol l) ∧ ol l < 2 ^ 31) (hx : x < 2 * n) (ha : a < 2 * n) (hb : b < 2 * n) {E : sp_E} (hE : sp_bd n E) : ev_C X (d + 2) m_Md_sameRules [.ref B, .int (nI f), .int (nI x), .int (nI a), .int (nI b)] (md_put B (md_wr σ n f E) g) Q ↔ Q none (md_put B (md_wr σ n f (sp_same ol E x a b)) g) := by
  show ev_R X (d + 2) m_Md_sameRules 0 [some (.ref B), some (.int (nI f)), some (.int (nI x)), some (.int (nI a)), some (.int (nI b)), none] [] (md_put B (md_wr σ n f E) g) Q ↔ _
  have e0 : (0 : Int32) = nI 0 := rfl
  have e2 : (2 : Int32) = nI 2 := rfl
  have k0 := fun E (hE : sp_bd n E) => c_same1 (X := X) (d := d) (B := B) (g := g) (Q := Q) (t := 0) h1 h0 hn hf ho hx ha hb (by decide) hE
  have k1 := fun E (hE : sp_bd n E) => c_same1 (X := X) (d := d) (B := B) (g := g) (Q := Q) (t := 1) h1 h0 hn hf ho hx ha hb (by decide) hE
  simp (disch := first | exact ev_ok_i _ | exact ev_ok_r _ | exact ev_ok_n | omega | assumption) only [e_Md_sameRules_0, e_Md_sameRules_1, ev_rm_n, ev_rm_i, ev_rm_r, ev_rm_l, ev_ok_n, ev_ok_i, ev_ok_r, Option.toList_some, Option.toList_none, List.cons_append, List.nil_append, true_and, and_true, true_or, or_true, reduceIte, Nat.reduceEqDiff, if_true, if_false]
  rw [e0]
  simp (disch := first | exact ev_ok_i _ | exact ev_ok_r _ | exact ev_ok_n | omega | assumption) only [e_Md_sameRules_3, e_Md_sameRules_5, e_Md_sameRules_6, ev_rm_n, ev_rm_i, ev_rm_r, ev_rm_l, ev_ok_n, ev_ok_i, ev_ok_r, Option.toList_some, Option.toList_none, List.cons_append, List.nil_append, true_and, and_true, true_or, or_true, reduceIte, Nat.reduceEqDiff, if_true, if_false, e2, nI_leI, Nat.reduceLeDiff]
  rw [k0 _ hE]
  simp (disch := first | exact ev_ok_i _ | exact ev_ok_r _ | exact ev_ok_n | omega | assumption) only [e_Md_sameRules_135, ev_rm_n, ev_rm_i, ev_rm_r, ev_rm_l, ev_ok_n, ev_ok_i, ev_ok_r, Option.toList_some, Option.toList_none, List.cons_append, List.nil_append, true_and, and_true, true_or, or_true, reduceIte, Nat.reduceEqDiff, if_true, if_false, nI_1, Nat.reduceAdd]
  rw [e_Md_sameRules_138]
  simp (disch := first | exact ev_ok_i _ | exact ev_ok_r _ | exact ev_ok_n | omega | assumption) only [e_Md_sameRules_3, e_Md_sameRules_5, e_Md_sameRules_6, ev_rm_n, ev_rm_i, ev_rm_r, ev_rm_l, ev_ok_n, ev_ok_i, ev_ok_r, Option.toList_some, Option.toList_none, List.cons_append, List.nil_append, true_and, and_true, true_or, or_true, reduceIte, Nat.reduceEqDiff, if_true, if_false, e2, nI_leI, Nat.reduceLeDiff]
  rw [k1 _ (sp_sam1_bd hE hx ha hb (by decide) h0)]
  simp (disch := first | exact ev_ok_i _ | exact ev_ok_r _ | exact ev_ok_n | omega | assumption) only [e_Md_sameRules_135, ev_rm_n, ev_rm_i, ev_rm_r, ev_rm_l, ev_ok_n, ev_ok_i, ev_ok_r, Option.toList_some, Option.toList_none, List.cons_append, List.nil_append, true_and, and_true, true_or, or_true, reduceIte, Nat.reduceEqDiff, if_true, if_false, nI_1, Nat.reduceAdd]
  rw [e_Md_sameRules_138]
  simp (disch := first | exact ev_ok_i _ | exact ev_ok_r _ | exact ev_ok_n | omega | assumption) only [e_Md_sameRules_3, e_Md_sameRules_5, e_Md_sameRules_6, ev_rm_n, ev_rm_i, ev_rm_r, ev_rm_l, ev_ok_n, ev_ok_i, ev_ok_r, Option.toList_some, Option.toList_none, List.cons_append, List.nil_append, true_and, and_true, true_or, or_true, reduceIte, Nat.reduceEqDiff, if_true, if_false, e2, nI_leI, Nat.reduceLeDiff, e_Md_sameRules_141]
  rfl
end M4
