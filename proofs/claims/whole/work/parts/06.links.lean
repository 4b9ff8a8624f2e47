/-! facts on links, fields, makings -/
def xf_ck (q : Nat × Nat × Nat × Nat) : Bool := xf_at q.2.2.2 (.methodLink (xp_R q.1) q.2.1 (xp_nm q.2.2.1)) && decide (0 < q.2.2.1) && decide (q.2.2.1 < 179)
set_option maxRecDepth 100000 in
theorem xf_c_0 : ∀ q ∈ (xp_cl.drop 0).take 30, xf_ck q = true := by decide +kernel
set_option maxRecDepth 100000 in
theorem xf_c_30 : ∀ q ∈ (xp_cl.drop 30).take 30, xf_ck q = true := by decide +kernel
set_option maxRecDepth 100000 in
theorem xf_c_60 : ∀ q ∈ (xp_cl.drop 60).take 30, xf_ck q = true := by decide +kernel
set_option maxRecDepth 100000 in
theorem xf_c_90 : ∀ q ∈ (xp_cl.drop 90).take 30, xf_ck q = true := by decide +kernel
set_option maxRecDepth 100000 in
theorem xf_c_120 : ∀ q ∈ (xp_cl.drop 120).take 30, xf_ck q = true := by decide +kernel
set_option maxRecDepth 100000 in
theorem xf_c_150 : ∀ q ∈ (xp_cl.drop 150).take 30, xf_ck q = true := by decide +kernel
set_option maxRecDepth 100000 in
theorem xf_c_180 : ∀ q ∈ (xp_cl.drop 180).take 30, xf_ck q = true := by decide +kernel
theorem xf_cl {q : Nat × Nat × Nat × Nat} (h : q ∈ xp_cl) : xf_ck q = true := by
  have e : xp_cl = (xp_cl.drop 0).take 30 ++ ((xp_cl.drop 30).take 30 ++ ((xp_cl.drop 60).take 30 ++ ((xp_cl.drop 90).take 30 ++ ((xp_cl.drop 120).take 30 ++ ((xp_cl.drop 150).take 30 ++ ((xp_cl.drop 180).take 30)))))) := by decide +kernel
  rw [e] at h
  simp only [List.mem_append] at h
  rcases h with h | h | h | h | h | h | h
  · exact xf_c_0 q h
  · exact xf_c_30 q h
  · exact xf_c_60 q h
  · exact xf_c_90 q h
  · exact xf_c_120 q h
  · exact xf_c_150 q h
  · exact xf_c_180 q h
def xf_fk (q : Nat × Nat × Nat × Nat × Nat) : Bool := xf_at q.2.2.2.2 (.fieldLink (xp_R q.1) q.2.1 (xp_R q.2.2.1) (xp_T q.2.2.1 q.2.2.2.1).2.1 (xp_T q.2.2.1 q.2.2.2.1).2.2.1) && decide (q.2.2.1 < 8) && decide (q.2.2.2.1 < xp_N q.2.2.1) && ((xp_T q.2.2.1 q.2.2.2.1).1 == xp_R q.2.2.1)
set_option maxRecDepth 100000 in
theorem xf_f_0 : ∀ q ∈ (xp_fl.drop 0).take 30, xf_fk q = true := by decide +kernel
set_option maxRecDepth 100000 in
theorem xf_f_30 : ∀ q ∈ (xp_fl.drop 30).take 30, xf_fk q = true := by decide +kernel
set_option maxRecDepth 100000 in
theorem xf_f_60 : ∀ q ∈ (xp_fl.drop 60).take 30, xf_fk q = true := by decide +kernel
theorem xf_fl {q : Nat × Nat × Nat × Nat × Nat} (h : q ∈ xp_fl) : xf_fk q = true := by
  have e : xp_fl = (xp_fl.drop 0).take 30 ++ ((xp_fl.drop 30).take 30 ++ ((xp_fl.drop 60).take 30)) := by decide +kernel
  rw [e] at h
  simp only [List.mem_append] at h
  rcases h with h | h | h
  · exact xf_f_0 q h
  · exact xf_f_30 q h
  · exact xf_f_60 q h
def xf_nk (q : Nat × Nat × Nat × Nat × Nat × Nat) : Bool := xf_at q.2.2.2.1 (.classLink (xp_R q.1) q.2.1 (xp_R q.2.2.1)) && decide (q.2.2.1 < 8) && xf_at q.2.2.2.2.1 (.instantiable (xp_R q.2.2.1) (xp_N q.2.2.1)) && xf_at q.2.2.2.2.2 (.initialized (xp_R q.2.2.1))
set_option maxRecDepth 100000 in
theorem xf_nl : ∀ q ∈ xp_nl, xf_nk q = true := by decide +kernel
def xf_uk (ci k : Nat) : Bool := xf_at ((xp_ui.getD ci []).getD k 0) (u_lay (xp_R ci) (xp_T ci) k)
set_option maxRecDepth 100000 in
theorem xf_u6 : ∀ ci, ci < 7 → ∀ k, k < xp_N ci → xf_uk ci k = true := by decide +kernel
set_option maxRecDepth 100000 in
theorem xf_u7 : ∀ k, k < 41 → xf_uk 7 k = true := by decide +kernel
set_option maxRecDepth 100000 in
theorem xf_oi : ∀ q ∈ xp_oi, xf_at q.2.2 (.methodLink (xp_R q.1) q.2.1 objectInit) = true := by decide +kernel
theorem xf_vw : ∀ ci, ci < 8 → vwCl[ci]? = some (xp_R ci, xp_T ci, xp_N ci) := fun ci h => by
  match ci, h with
  | 0, _ => rfl
  | 1, _ => rfl
  | 2, _ => rfl
  | 3, _ => rfl
  | 4, _ => rfl
  | 5, _ => rfl
  | 6, _ => rfl
  | 7, _ => rfl
theorem xf_pd : ∀ ci, ci < 8 → ∀ k, k < xp_N ci → parseFieldDescriptor (xp_T ci k).2.2.1 = some (xp_ty ci k) := by decide +kernel
theorem xf_df : ∀ ci, ci < 8 → ∀ k, k < xp_N ci → defaultValue (xp_ty ci k) = xo_df (xp_ty ci k) := by decide +kernel
theorem xf_nm : ∀ ci, ci < 8 → ∀ a, a < xp_N ci → ∀ b, b < xp_N ci → a ≠ b → (xp_T ci a).2.1 ≠ (xp_T ci b).2.1 := fun ci h => by
  match ci, h with
  | 0, _ => exact nmX0
  | 1, _ => exact nmX1
  | 2, _ => exact nmX2
  | 3, _ => exact nmX3
  | 4, _ => exact nmX4
  | 5, _ => exact nmX5
  | 6, _ => exact nmX6
  | 7, _ => exact nmX7
theorem xf_ob : xf_at 98 (.instanceMethod objectInit) = true := by decide +kernel
theorem xf_mx : ∀ q ∈ xp_mx, xf_at q.2.2.2 (.methodLink (xp_R q.1) q.2.1 (if q.2.2.1 = 0 then Lib.Math.min.name else Lib.Math.max.name)) = true ∧ (q.2.2.1 = 0 ∨ q.2.2.1 = 1) := by decide +kernel
theorem xf_mw : xf_at 472 (.static Lib.Math.min.name) = true ∧ xf_at 475 (.static Lib.Math.max.name) = true ∧ xf_at 88 (.initialized "java/lang/Math") = true := by decide +kernel
theorem xf_mc : Cond.code Lib.Math.min.name Lib.Math.min.code 2 (some .int) ∈ xp_tw ∧ Cond.code Lib.Math.max.name Lib.Math.max.code 2 (some .int) ∈ xp_tw := ⟨xp_tw_in (List.mem_of_getElem? (i := 473) rfl) rfl, xp_tw_in (List.mem_of_getElem? (i := 476) rfl) rfl⟩
theorem xf_oc : Cond.code objectInit ⟨#[0xb1]⟩ 1 none ∈ xp_tw := xp_tw_in (List.mem_of_getElem? (i := 99) rfl) rfl
theorem xf_arc : xf_at 602 (.methodLink "DilemmaProver$Equivalence" 30 arraycopyName) = true ∧ xf_at 604 (.native arraycopyName) = true ∧ xf_at 603 (.static arraycopyName) = true := by decide +kernel
set_option maxRecDepth 100000 in
theorem xin_1 : ∀ k, k < 26 → xp_st (1 + k) = false → (xp_nm (1 + k)).name = "<init>" → xp_rt (1 + k) = none := by decide +kernel
set_option maxRecDepth 100000 in
theorem xin_27 : ∀ k, k < 26 → xp_st (27 + k) = false → (xp_nm (27 + k)).name = "<init>" → xp_rt (27 + k) = none := by decide +kernel
set_option maxRecDepth 100000 in
theorem xin_53 : ∀ k, k < 26 → xp_st (53 + k) = false → (xp_nm (53 + k)).name = "<init>" → xp_rt (53 + k) = none := by decide +kernel
set_option maxRecDepth 100000 in
theorem xin_79 : ∀ k, k < 26 → xp_st (79 + k) = false → (xp_nm (79 + k)).name = "<init>" → xp_rt (79 + k) = none := by decide +kernel
set_option maxRecDepth 100000 in
theorem xin_105 : ∀ k, k < 26 → xp_st (105 + k) = false → (xp_nm (105 + k)).name = "<init>" → xp_rt (105 + k) = none := by decide +kernel
set_option maxRecDepth 100000 in
theorem xin_131 : ∀ k, k < 26 → xp_st (131 + k) = false → (xp_nm (131 + k)).name = "<init>" → xp_rt (131 + k) = none := by decide +kernel
set_option maxRecDepth 100000 in
theorem xin_157 : ∀ k, k < 22 → xp_st (157 + k) = false → (xp_nm (157 + k)).name = "<init>" → xp_rt (157 + k) = none := by decide +kernel
theorem xf_init {k : Nat} (h0 : 0 < k) (h : k < 179) (hs : xp_st k = false) (hn : (xp_nm k).name = "<init>") : xp_rt k = none := by
  by_cases h1 : k < 27
  · have e : k = 1 + (k - 1) := by omega
    rw [e] at hs hn ⊢; exact xin_1 _ (by omega) hs hn
  by_cases h27 : k < 53
  · have e : k = 27 + (k - 27) := by omega
    rw [e] at hs hn ⊢; exact xin_27 _ (by omega) hs hn
  by_cases h53 : k < 79
  · have e : k = 53 + (k - 53) := by omega
    rw [e] at hs hn ⊢; exact xin_53 _ (by omega) hs hn
  by_cases h79 : k < 105
  · have e : k = 79 + (k - 79) := by omega
    rw [e] at hs hn ⊢; exact xin_79 _ (by omega) hs hn
  by_cases h105 : k < 131
  · have e : k = 105 + (k - 105) := by omega
    rw [e] at hs hn ⊢; exact xin_105 _ (by omega) hs hn
  by_cases h131 : k < 157
  · have e : k = 131 + (k - 131) := by omega
    rw [e] at hs hn ⊢; exact xin_131 _ (by omega) hs hn
  have e : k = 157 + (k - 157) := by omega
  rw [e] at hs hn ⊢; exact xin_157 _ (by omega) hs hn
