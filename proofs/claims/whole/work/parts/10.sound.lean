/-! CALLS; and soundness of all runs -/
theorem xp_call_spec {own k q : Nat} (h : xp_call own k = some q) : 0 < q ∧ q < 179 ∧ Cond.methodLink (xp_R own) k (xp_nm q) ∈ xp_tw := by
  obtain ⟨⟨a, b, c, d⟩, h1, h2, h3⟩ := xp_find2 h
  simp only [Bool.and_eq_true, beq_iff_eq] at h2
  dsimp only at h3
  obtain ⟨rfl, rfl⟩ := h2
  subst h3
  have h4 := xf_cl h1
  simp only [xf_ck, Bool.and_eq_true, decide_eq_true_eq] at h4
  exact ⟨h4.1.2, h4.2, xf_in h4.1.1⟩
theorem xp_ncall_spec {own k q : Nat} (h : xp_ncall own k = some q) : 0 < q ∧ q < 179 ∧ own = 6 ∧ (Cond.methodLinkNest (xp_R own) k (xp_nm q) "DilemmaProver" = xe_n1 ∨ Cond.methodLinkNest (xp_R own) k (xp_nm q) "DilemmaProver" = xe_n2) := by
  obtain ⟨⟨a, b, c⟩, h1, h2, h3⟩ := xp_find2 h
  simp only [Bool.and_eq_true, beq_iff_eq] at h2
  dsimp only at h3
  obtain ⟨rfl, rfl⟩ := h2
  subst h3
  have hm : (a, b, c) = (6, 9, 77) ∨ (a, b, c) = (6, 18, 78) := by simpa [xp_nc] using h1
  rcases hm with h | h <;> cases h
  · exact ⟨by decide, by decide, rfl, Or.inl rfl⟩
  · exact ⟨by decide, by decide, rfl, Or.inr rfl⟩
theorem xo_ob_recv {cy : FieldType → ClassId} {D : va_G} {X : xo_X} {s : State} {A : Nat → Prop} {g : xo_G} {H : Heap} {locs : List Loc} {ws : va_W} {b ci : Nat} {F : Nat → Value} (hE : xe_E cy D X A s s.heap) (w1 : xo_W cy g.1 ws) (w2 : va_P D vwCl ws H) (w4 : va_S A s.heap H locs) (h : xo_ob X g b = some (ci, F)) : ∃ cell : Cell, H[b]? = some cell ∧ cell.vm.isStatics = false ∧ s.vm.findClass (xp_R ci) = some cell.cls := by
  unfold xo_ob at h
  split at h
  · rename_i o hg
    cases h
    obtain ⟨k, hk⟩ := w1 _ _ hg
    obtain ⟨r, hr, -⟩ := w2 k _ hk
    have hci : ci < 8 := (List.getElem?_eq_some_iff.mp hr).1
    exact va_recv hE.1 w2 (xf_vw ci hci) hk
  · cases h
  · obtain ⟨e1, e2, -⟩ := hE.2.2.2.2.2.2.2.1 b _ h
    dsimp only at e1
    subst e1
    obtain ⟨cell, h1, h2, h3, -⟩ := e2.kept w4.2.1
    exact ⟨cell, h1, h2, h3⟩
set_option maxHeartbeats 4000000 in
theorem xo_sound (cy : FieldType → ClassId) (D : va_G) (X : xo_X) (l : Launch) : ∀ n : Nat, xo_Snd cy D X l n := by
  intro n
  induction n with
  | zero => intro d mid pc L st g r g' h; simp [xo_exec] at h
  | succ n ih =>
    intro d mid pc L st g r g' h p e R s m args below meth c A C hfr hlo H locs cells slots Q ls hw hl hL hcl hsl kret
    unfold xo_exec at h
    split at h
    · rename_i i len hd
      rw [Bool.cond_eq_ite] at h
      split at h
      · rename_i hlen
        split at h
        · rename_i r0 hrt
          cases h
          have hst := xo_rt_stack hrt
          subst hst
          have h1 : len = 1 := by
            unfold xo_rt at hrt
            split at hrt
            · simpa [xo_len] using hlen
            · simpa [xo_len] using hlen
            · simpa [xo_len] using hlen
            · cases hrt
          subst h1
          exact kret H locs cells slots pc ls i hd hrt hw rfl
        · split at h
          · rename_i q as rest hinv
            split at h
            · cases h
            · rename_i d1
              split at h
              · rename_i hslen
                split at h
                · rename_i r1 g1 hrun
                  obtain ⟨m1, m2⟩ := xo_exec_mono _ _ _ _ _ _ _ _ _ hrun
                  obtain ⟨n1, n2⟩ := xo_exec_mono _ _ _ _ _ _ _ _ _ h
                  obtain ⟨hx, hb, hml, hown, hts, hA, hE, hini, hf1, hl1⟩ := id C
                  obtain ⟨ws, w1, w2, w3, w4, w5, w6⟩ := hw
                  have hB : ∀ z, va_A ws g.2.1 z → A z := fun z hz => by
                    rcases hz with ⟨k, ee, hk⟩ | hz
                    · exact w3.2 k _ hk
                    · exact hA z (by omega)
                  have hpre : ∀ U : State, U.heap = H → s.WarmedH U.vm → xo_Pc cy D X ws as g as.toArray U := fun U hU hW => ⟨rfl, by rw [hU]; exact w5, by rw [hU]; exact w2, w3.weaken (fun _ _ _ _ => trivial), by rw [hU]; exact hE.go w4.2.1 hW hB⟩
                  have hroom : ∀ q, 0 < q → q < 179 → (xo_rm d1 (g1.2.1 - g.2.1) (g1.2.2 - g.2.2)).frames + 1 ≤ R.frames ∧ 8 + (xp_ml q + 11) + (xo_rm d1 (g1.2.1 - g.2.1) (g1.2.2 - g.2.2)).locals ≤ R.locals := fun q hq0 hq1 => by
                    have := (xf_v hq0 hq1).1
                    dsimp only [xo_rm]
                    exact ⟨by omega, by omega⟩
                  have hfit : cells + (g1.2.1 - g.2.1) ≤ R.cells ∧ slots + (g1.2.2 - g.2.2) ≤ R.slots := ⟨by omega, by omega⟩
                  have hgo : ∀ (H1 : Heap) (locs1 : List Loc), xo_wd cy D s A g1 H1 locs1 (cells + (g1.2.1 - g.2.1)) → W p l e R s m args below meth c H1 locs1 (cells + (g1.2.1 - g.2.1)) (slots + (g1.2.2 - g.2.2)) Q (F0 m (pc + 3) ls (r1.toList ++ rest)) := fun H1 locs1 hw1 =>
                    ih (d1 + 1) mid (pc + 3) L (r1.toList ++ rest) g1 r g' h C hfr hlo hw1 hl hL (by omega) (by omega) (fun H2 locs2 cells2 slots2 pc2 ls2 ins k1 k2 k3 k4 => kret H2 locs2 cells2 slots2 pc2 ls2 ins k1 k2 k3 (by omega))
                  have hw6 : s.heap.size + (cells + (g1.2.1 - g.2.1)) = g1.2.1 := by omega
                  have hsize : ls.size = xp_ml mid := hl.1.trans hL
                  unfold xo_inv at hinv
                  split at hinv
                  · simp only [xo_len, beq_iff_eq] at hlen
                    subst hlen
                    split at hinv
                    · rename_i q0 hcall
                      obtain ⟨c0, c1, c2⟩ := xp_call_spec hcall
                      split at hinv
                      · rename_i hst
                        split at hinv
                        · rename_i b rr hdrop
                          split at hinv
                          · rename_i ci F hob
                            split at hinv
                            · rename_i hci
                              cases hinv
                              have hW := xf_w c0 c1
                              have hV := xf_v c0 c1
                              have hrecv := xo_ob_recv hE w1 w2 w4 hob
                              rw [hci.1, hV.2.2.1] at hrecv
                              have hlt : xp_np q < st.length := by
                                have := congrArg List.length hdrop
                                simp at this
                                omega
                              refine xo_after (ws := ws) (g := g) (va_runV (C := (xp_nm q).cls) (As := (st.take (xp_np q)).reverse) (rest := rest) ⟨hx, hb, hml, hown, hts⟩ (xo_met ih c0 c1 hslen hrun w1) (cwV (xp_np q) hts (xp_good (fun w hw => ?_)) rfl rfl rfl ⟨rfl, hV.2.2.2⟩ (hroom q c0 c1)) ⟨xo_blind, hrecv, fun U hU hWm => hpre U hU hWm⟩ rfl (by simp; omega) hsize ?_ (lv_room hci.2) hd hfit) w4 hB hw6 hgo
                              · rcases List.mem_append.mp hw with hw | hw
                                · simp only [List.mem_cons, List.not_mem_nil, or_false] at hw
                                  rcases hw with rfl | rfl | rfl | rfl
                                  · exact c2
                                  · exact hW.2.2.2.1 hst.1
                                  · exact hW.2.2.2.2 hst.1 hst.2
                                  · exact hW.2.1
                                · exact xp_ws_in hW w hw
                              · show st = _
                                rw [List.reverse_reverse, ← hdrop, List.take_append_drop]
                            · cases hinv
                          · cases hinv
                        · cases hinv
                      · cases hinv
                    · cases hinv
                  · simp only [xo_len, beq_iff_eq] at hlen
                    subst hlen
                    split at hinv
                    · rename_i q0 hcall
                      obtain ⟨c0, c1, c2⟩ := xp_call_spec hcall
                      split at hinv
                      · rename_i hst
                        cases hinv
                        have hW := xf_w c0 c1
                        have hV := xf_v c0 c1
                        refine xo_after (ws := ws) (g := g) (va_runS (As := (st.take (xp_np q)).reverse) (rest := st.drop (xp_np q)) ⟨hx, hb, hml, hown, hts⟩ (xo_met ih c0 c1 hslen hrun w1) (va_cwS (xp_np q) hts (xp_good (fun w hw => ?_)) rfl rfl rfl hV.2.2.2 (hroom q c0 c1)) ⟨xo_blind, fun U hU hWm => hpre U hU hWm⟩ rfl (by simp; omega) hsize ?_ (lv_room hst.2.2) hd hfit) w4 hB hw6 hgo
                        · rcases List.mem_append.mp hw with hw | hw
                          · simp only [List.mem_cons, List.not_mem_nil, or_false] at hw
                            rcases hw with rfl | rfl | rfl
                            · exact c2
                            · exact hW.2.2.1 hst.1
                            · exact hW.2.1
                          · exact xp_ws_in hW w hw
                        · show st = _
                          rw [List.reverse_reverse, List.take_append_drop]
                      · cases hinv
                    · cases hinv
                  · rename_i k0 _
                    simp only [xo_len, beq_iff_eq] at hlen
                    subst hlen
                    split at hinv
                    · rename_i q0 hcall
                      split at hinv
                      · rename_i hst
                        split at hinv
                        · rename_i b rr hdrop
                          split at hinv
                          · rename_i hci
                            cases hinv
                            have hlt : xp_np q < st.length := by
                              have := congrArg List.length hdrop
                              simp at this
                              omega
                            have hstk : st = (st.take (xp_np q)).reverse.reverse ++ .ref b :: rest := by rw [List.reverse_reverse, ← hdrop, List.take_append_drop]
                            cases hc1 : xp_call (xp_own mid) k0 with
                            | some q1 =>
                              rw [hc1] at hcall
                              cases hcall
                              obtain ⟨c0, c1, c2⟩ := xp_call_spec hc1
                              have hW := xf_w c0 c1
                              have hV := xf_v c0 c1
                              have hmet := xo_met ih c0 c1 hslen hrun w1
                              have hrn : xp_rt q = none := xf_init c0 c1 hst.1 hst.2
                              exact xo_after (ws := ws) (g := g) (va_runI (As := (st.take (xp_np q)).reverse) (rest := rest) ⟨hx, hb, hml, hown, hts⟩ hmet (cwI (xp_np q) hts (xp_good (xp_ws_in hW)) (by unfold xp_ws; rw [hrn]) rfl rfl (hts _ hW.2.1) (hts _ c2) (hts _ (hW.2.2.2.1 hst.1)) hst.2 hV.2.2.2 (hroom q c0 c1)) ⟨xo_blind, fun U hU hWm => hpre U hU hWm⟩ rfl (by simp; omega) hsize hstk (lv_room hci) hd hfit) w4 hB hw6 hgo
                            | none =>
                              rw [hc1] at hcall
                              have hcall : xp_ncall (xp_own mid) k0 = some q := hcall
                              obtain ⟨c0, c1, c2, c3⟩ := xp_ncall_spec hcall
                              have hW := xf_w c0 c1
                              have hV := xf_v c0 c1
                              have hmet := xo_met ih c0 c1 hslen hrun w1
                              have hrn : xp_rt q = none := xf_init c0 c1 hst.1 hst.2
                              have hnw : va_Nw (Cond.methodLinkNest (xp_R (xp_own mid)) k0 (xp_nm q) "DilemmaProver") s := by
                                rcases c3 with c3 | c3
                                · rw [c3]; exact hE.2.2.1
                                · rw [c3]; exact hE.2.2.2.1
                              exact xo_after (ws := ws) (g := g) (va_runIN (As := (st.take (xp_np q)).reverse) (rest := rest) ⟨hx, hb, hml, hown, hts⟩ hmet ⟨va_cnB (xp_np q) hts (xp_good (xp_ws_in hW)) (by unfold xp_ws; rw [hrn]) rfl rfl hnw (hts _ hW.2.1) hV.2.2.2 (hroom q c0 c1), hst.2, hts _ (hW.2.2.2.1 hst.1)⟩ ⟨xo_blind, fun U hU hWm => hpre U hU hWm⟩ rfl (by simp; omega) hsize hstk (lv_room hci) hd hfit) w4 hB hw6 hgo
                          · cases hinv
                        · cases hinv
                      · cases hinv
                    · cases hinv
                  · cases hinv
                · cases h
              · cases h
          · split at h
            · rename_i k hs
              obtain ⟨m1, m2⟩ := xo_stp_mono hs
              obtain ⟨n1, n2⟩ := xo_exec_mono _ _ _ _ _ _ _ _ _ h
              exact xo_stp_ok C hd hlen hs hw hl hL (by omega) (by omega) (fun H1 locs1 cells1 slots1 ls1 k1 k2 k3 => by
                have h6 : s.heap.size + cells = g.2.1 := hw.choose_spec.2.2.2.2.2
                have h7 : s.heap.size + cells1 = k.2.2.2.2.1 := k1.choose_spec.2.2.2.2.2
                exact ih d mid k.1 k.2.1 k.2.2.1 k.2.2.2 r g' h C hfr hlo k1 k2 ((xo_stp_len hs).trans hL) (by omega) (by omega) (fun H2 locs2 cells2 slots2 pc2 ls2 ins q1 q2 q3 q4 => kret H2 locs2 cells2 slots2 pc2 ls2 ins q1 q2 q3 (by omega)))
            · cases h
      · cases h
    · cases h
