/-! READING: the reference's machine of frames reads as the grammar says -/
section P3
variable {X : xo_X} {d B : Nat} {g : xo_G} {x : sp_X} {E : sp_E} {n0 : Nat}
def md_PK (X : xo_X) (d B : Nat) (g : xo_G) (x : sp_X) (E : sp_E) (n0 f : Nat) : Prop := ∀ (lv dd : Nat) (s : sp_P) (σ : md_S) (l2 : Option Value) (Q : Option Value → xo_G → Prop), sp_pok x n0 s → pF s = 0 → lv ≤ 5 → 8 * (x.2 - s.1) + 7 - lv ≤ f → dd + (5 - lv) + 6 * (40 - pO s) ≤ 245 → md_P σ x E n0 s → σ.2 21 dd = nI lv → σ.2 22 dd = 0 →
  (¬ pF (sp_pr x f lv none s).2 = 0 → ∀ σ2, md_P σ2 x E n0 (sp_pr x f lv none s).2 → md_pf σ σ2 dd → Q (some (.int (-1))) (md_put B σ2 g)) →
  (pF (sp_pr x f lv none s).2 = 0 → ∀ σ2, md_P σ2 x E n0 (sp_pr x f lv none s).2 → md_pf σ σ2 dd → σ2.1 25 = nI (sp_pr x f lv none s).1 → md_r70 X d B g Q dd (-1) σ2) → md_rA X d B g Q dd l2 σ
def md_KK (X : xo_X) (d B : Nat) (Q : Option Value → xo_G → Prop) (dd : Nat) (K : Option Value → xo_G → Prop) : Prop := ∀ (u : Int32) (g1 : xo_G), K (some (.int u)) g1 ↔ ev_R X (d + 6) m_Md_readFormula 70 [some (.ref B), some (.int (nI dd)), some (.int u)] [] g1 Q
def md_SS (X : xo_X) (d B : Nat) (g : xo_G) (x : sp_X) (E : sp_E) (n0 f : Nat) : Prop := ∀ (lv dd v : Nat) (s : sp_P) (σ : md_S) (Q K : Option Value → xo_G → Prop), sp_pok x n0 s → pF s = 0 → lv < 5 → ¬ lv = 1 → v < 2 * cN (pC s) → 8 * (x.2 - s.1) + 7 ≤ f → dd + (5 - lv) + 6 * (40 - pO s) ≤ 245 → md_P σ x E n0 s → σ.2 21 dd = nI lv → md_KK X d B Q dd K →
  (¬ pF (sp_pr x f lv (some v) s).2 = 0 → ∀ σ2, md_P σ2 x E n0 (sp_pr x f lv (some v) s).2 → md_pf σ σ2 dd → Q (some (.int (-1))) (md_put B σ2 g)) →
  (pF (sp_pr x f lv (some v) s).2 = 0 → ∀ σ2, md_P σ2 x E n0 (sp_pr x f lv (some v) s).2 → md_pf σ σ2 dd → σ2.1 25 = nI (sp_pr x f lv (some v) s).1 → md_r70 X d B g Q dd (-1) σ2) → ev_C X (d + 4) m_Md_series [.ref B, .int (nI dd), .int (nI v), .int (sp_sgv lv)] (md_put B σ g) K
def md_S1 (X : xo_X) (d B : Nat) (g : xo_G) (x : sp_X) (E : sp_E) (n0 f : Nat) : Prop := ∀ (dd v : Nat) (h w : Int32) (s : sp_P) (σ : md_S) (Q K : Option Value → xo_G → Prop), sp_pok x n0 s → pF s = 0 → v < 2 * cN (pC s) → 8 * (x.2 - s.1) + 7 ≤ f → dd + 4 + 6 * (40 - pO s) ≤ 245 → md_P σ x E n0 s → σ.2 21 dd = nI 1 → md_KK X d B Q dd K →
  (¬ pF (sp_pr x f 1 (some v) s).2 = 0 → ∀ σ2, md_P σ2 x E n0 (sp_pr x f 1 (some v) s).2 → md_pf σ σ2 dd → Q (some (.int (-1))) (md_put B σ2 g)) →
  (pF (sp_pr x f 1 (some v) s).2 = 0 → ∀ σ2, md_P σ2 x E n0 (sp_pr x f 1 (some v) s).2 → md_pf σ σ2 dd → σ2.1 25 = nI (sp_pr x f 1 (some v) s).1 → md_r70 X d B g Q dd (-1) σ2) → ev_R X (d + 5) m_Md_goOn 206 [some (.ref B), some (.int (nI dd)), some (.int (nI v)), some (.int h), some (.int w), some (.int 0), none] [] (md_put B σ g) K
theorem md_F17 {σ : md_S} {s : sp_P} (hP : md_P σ x E n0 s) (h : ¬ pF s = 0) (hlt : pF s < 6) : ¬ σ.1 17 = 0 := by
  rw [hP.2.1]
  exact nI_ne0 (by omega) (by omega)
/-- faults are small numbers -/
def sp_fl (s : sp_P) : Prop := pF s < 6
theorem sp_fail_fl {s : sp_P} (h : sp_fl s) {k a : Nat} (hk : k < 6) : sp_fl (sp_fail s k a) := by
  unfold sp_fail sp_fl at *
  split
  · exact hk
  · exact h
theorem sp_look_fl {s : sp_P} (h : sp_fl s) : sp_fl (sp_look x s) := by
  unfold sp_look
  split
  · exact sp_fail_fl h (by decide)
  · exact h
theorem sp_cb_fl {s : sp_P} (h : sp_fl s) (k a b t at' : Nat) : sp_fl (sp_cb k a b t at' s).2 := by
  unfold sp_cb
  split
  · exact h
  · exact sp_fail_fl (s := (s.1, s.2.1, pO s, (sp_gt (pC s) k a b).2)) h (by decide)
theorem sp_cmb_fl {s : sp_P} (h : sp_fl s) (lv v w a : Nat) : sp_fl (sp_cmb lv v w a s).2 := by
  unfold sp_cmb
  split
  · exact sp_cb_fl h _ _ _ _ _
  · split
    · exact sp_cb_fl h _ _ _ _ _
    · split
      · exact sp_cb_fl h _ _ _ _ _
      · split <;> exact sp_cb_fl h _ _ _ _ _
theorem sp_name_fl {s : sp_P} (h : sp_fl s) : sp_fl (sp_name x s).2 := by
  unfold sp_name
  split
  · exact h
  · split
    · exact sp_fail_fl h (by decide)
    · split
      · exact sp_fail_fl h (by decide)
      · exact h
theorem sp_pr_fl : ∀ (f lv : Nat) (m : Option Nat) (s : sp_P), sp_fl s → sp_fl (sp_pr x f lv m s).2 := by
  intro f
  induction f with
  | zero => intro lv m s h; exact h
  | succ f ih =>
    intro lv m s h
    cases m with
    | none =>
      unfold sp_pr
      split
      · split
        · exact sp_look_fl h
        · split
          · split
            · exact sp_fail_fl h (by decide)
            · exact ih 5 none (sp_opn x s) h
          · split
            · split
              · exact sp_fail_fl h (by decide)
              · split
                · exact ih 0 none (sp_opn x s) h
                · split
                  · exact sp_look_fl (ih 0 none (sp_opn x s) h)
                  · split
                    · exact ih 0 none (sp_opn x s) h
                    · exact sp_fail_fl (ih 0 none (sp_opn x s) h) (by decide)
            · split
              · exact sp_name_fl h
              · split
                · exact h
                · split
                  · exact h
                  · exact sp_fail_fl h (by decide)
      · split
        · exact ih _ _ _ h
        · exact ih _ _ _ (ih _ _ _ h)
    | some v =>
      unfold sp_pr
      split
      · exact sp_look_fl h
      · split
        · split
          · split
            · exact sp_fail_fl h (by decide)
            · split
              · exact ih 1 none (sp_opn x s) h
              · exact sp_cmb_fl (s := sp_cls1 (sp_pr x f 1 none (sp_opn x s)).2) (ih 1 none (sp_opn x s) h) _ _ _ _
          · exact h
        · split
          · split
            · exact ih _ none (sp_pass x s) h
            · split
              · exact sp_cmb_fl (ih _ none (sp_pass x s) h) _ _ _ _
              · exact ih _ _ _ (sp_cmb_fl (ih _ none (sp_pass x s) h) _ _ _ _)
          · exact h
theorem sp_fl_0 {s : sp_P} (h : pF s = 0) : sp_fl s := by unfold sp_fl; omega
/-- one less is open -/
theorem md_P_cls {σ : md_S} {s : sp_P} {u : Int32} (hP : md_P σ x E n0 s) (h0 : pF s = 0) (ho : 1 ≤ pO s) : md_P (md_si σ 20 (nI (pO s - 1))) x E n0 (sp_cls1 s) := by
  refine ⟨md_P_base hP.1 (fun j hj => by rw [md_si_1, if_neg (by omega)]) (fun _ _ => rfl), hP.2.1, fun z => absurd h0 z, fun _ => ⟨rfl, ?_⟩⟩
  exact (hP.2.2.2 h0).2
theorem md_pf_si20 (σ : md_S) (v : Int32) (dd : Nat) : md_pf σ (md_si σ 20 v) dd := md_ph_pf (md_ph_si σ v (by omega)) dd
/-- series, by a shorter fuel -/
theorem md_SS_s {f : Nat} (ihP : md_PK X d B g x E n0 f) (ihS : md_SS X d B g x E n0 f) : md_SS X d B g x E n0 (f + 1) := by
  intro lv dd v s σ Q K hok h0 hlv h1 hv hf hdd hP h21 hK hF hO
  have hfl := sp_fl_0 h0
  unfold sp_pr at hF hO
  refine c_series (d := d) (by omega) hlv hP hok h0 h21 (fun hl σ2 p1 p2 => ?_) (fun hl ht σ2 p1 p2 => ?_) (fun hl ht σ1 σ2 p1 p2 p3 => ?_)
  · rw [if_pos hl] at hF
    rw [hK]
    have hpf := md_pf_tr (md_pf_si25 σ (nI v) dd) (md_ph_pf p2 dd) (Nat.le_refl dd)
    exact (c_rF (md_F17 p1 hl (sp_look_fl hfl)) (by omega)).mpr (hF hl σ2 p1 hpf)
  · rw [if_neg (fun z => z hl), if_neg h1, if_neg ht] at hO
    rw [hK]
    have hpf := md_pf_tr (md_pf_si25 σ (nI v) dd) (md_ph_pf p2 dd) (Nat.le_refl dd)
    exact hO h0 σ2 p1 hpf (by rw [p2.1 25 (by decide) (by decide) (by decide) (by decide)]; rfl)
  · rw [if_neg (fun z => z hl), if_neg h1, if_pos ht] at hF hO
    rw [hK]
    have hok2 : sp_pok x n0 (sp_pass x s) := sp_pass_ok hok
    have hne : ¬ sp_sgv lv = 256 := by
      unfold sp_sgv
      split
      · decide
      · split
        · decide
        · split <;> decide
    have hm := sp_tok_lt hok (by rw [ht]; exact hne)
    have htl : tS x s + tZ x s ≤ x.2 := (sp_tw_sz (sp_ts_le hok.2.2.1).2).1
    have z17 : σ2.1 17 = 0 := by rw [p1.2.1]; show nI (pF s) = 0; rw [h0]; rfl
    have hpf2 : md_pf σ σ2 dd := by
      refine md_pf_tr (md_pf_tr (md_pf_si25 σ (nI v) dd) (md_ph_pf p2 dd) (Nat.le_refl dd)) ?_ (Nat.le_refl dd)
      refine md_pf_tr ?_ (md_ph_pf p3 dd) (Nat.le_refl dd)
      refine md_pf_tr (md_pf_tr (md_pf_sa σ1 _ (by decide) (by decide) (Nat.le_refl dd)) (md_pf_sa _ _ (by decide) (by decide) (Nat.le_refl dd)) (Nat.le_refl dd)) (md_pf_sa _ _ (by decide) (by decide) (Nat.le_refl dd)) (Nat.le_refl dd)
    have k21 : σ2.2 21 dd = nI lv := by
      rw [p3.2 21 (by decide)]
      simp only [md_sa_2, Nat.reduceEqDiff, if_false]
      rw [p2.2 21 (by decide)]
      exact h21
    have k22 : σ2.2 22 dd = 1 := by rw [p3.2 22 (by decide), md_sa_2, if_pos rfl, pk_us]
    have k23 : σ2.2 23 dd = nI v := by
      rw [p3.2 23 (by decide)]
      simp only [md_sa_2, Nat.reduceEqDiff, if_false, if_true]
      rw [pk_us]
    have k24 : σ2.2 24 dd = nI (tS x s) := by
      rw [p3.2 24 (by decide)]
      simp only [md_sa_2, Nat.reduceEqDiff, if_false, if_true]
      rw [pk_us]
    show md_r70 X d B g Q dd (nI (lv + 1)) σ2
    rw [c_rN z17 (by omega) (by omega)]
    have hPc : md_P (md_sa (md_sa σ2 21 (dd + 1) (nI (lv + 1))) 22 (dd + 1) 0) x E n0 (sp_pass x s) := md_P_sa (md_P_sa p1 (by decide)) (by decide)
    have hpf3 : md_pf σ2 (md_sa (md_sa σ2 21 (dd + 1) (nI (lv + 1))) 22 (dd + 1) 0) (dd + 1) := md_pf_tr (md_pf_sa σ2 _ (by decide) (by decide) (Nat.le_refl _)) (md_pf_sa _ _ (by decide) (by decide) (Nat.le_refl _)) (Nat.le_refl _)
    have hr := sp_pr_ok x n0 f (lv + 1) none (sp_pass x s) hok2 h0 (by omega) (fun _ => by show 8 * (x.2 - (tS x s + tZ x s)) + 7 - (lv + 1) ≤ f; omega) (fun v hv => by cases hv)
    have hrf : sp_fl (sp_pr x f (lv + 1) none (sp_pass x s)).2 := sp_pr_fl f (lv + 1) none (sp_pass x s) hfl
    refine ihP (lv + 1) (dd + 1) (sp_pass x s) _ _ Q hok2 h0 (by omega) (by show 8 * (x.2 - (tS x s + tZ x s)) + 7 - (lv + 1) ≤ f; omega) (by show dd + 1 + (5 - (lv + 1)) + 6 * (40 - pO s) ≤ 245; omega) hPc (by simp only [md_sa_2, Nat.reduceEqDiff, if_false, if_true]; rw [pk_us]) (by rw [md_sa_2, if_pos rfl, pk_us]) (fun hz σ3 q1 q2 => ?_) (fun hz σ3 q1 q2 q3 => ?_)
    · rw [if_pos hz] at hF
      exact hF hz σ3 q1 (md_pf_tr hpf2 (md_pf_tr hpf3 q2 (Nat.le_refl _)) (by omega))
    · rw [if_neg (fun z => z hz)] at hF hO
      obtain ⟨r1, r2, r3⟩ := hr
      obtain ⟨w1, w2, w3, w4⟩ := r3 hz
      generalize sp_pr x f (lv + 1) none (sp_pass x s) = r at *
      have hpf4 := md_pf_tr hpf3 q2 (Nat.le_refl _)
      have j21 : σ3.2 21 dd = nI lv := by rw [hpf4.2.2 21 dd (by decide) (by decide) (Nat.lt_succ_self dd)]; exact k21
      have j22 : σ3.2 22 dd = 1 := by rw [hpf4.2.2 22 dd (by decide) (by decide) (Nat.lt_succ_self dd)]; exact k22
      have j23 : σ3.2 23 dd = nI v := by rw [hpf4.2.2 23 dd (by decide) (by decide) (Nat.lt_succ_self dd)]; exact k23
      have j24 : σ3.2 24 dd = nI (tS x s) := by rw [hpf4.2.2 24 dd (by decide) (by decide) (Nat.lt_succ_self dd)]; exact k24
      have y17 : σ3.1 17 = 0 := by rw [q1.2.1, hz]; rfl
      rw [c_rPop y17 (by omega), c_goOn (by omega) (by omega) q3 j21 j22 j23 j24]
      have hzi : zi ((1 : Int32) = 1) = 1 := rfl
      rw [hzi]
      have r2' : cN (pC s) ≤ cN (pC r.2) := r2
      have hcm := sp_cmb_ok (lv := lv) (v := v) (w := r.1) (a := tS x s) r1 hz (by omega) w1
      refine c_goOn_both (d := d) hlv h1 q1 r1 hz (by omega) w1 (fun σ4 u t1 t2 t3 K2 hK2 => ?_)
      have hK3 : md_KK X d B Q dd K2 := fun u g1 => by
        rw [hK2]
        exact c_r93
      have hpf5 : md_pf σ σ4 dd := md_pf_tr hpf2 (md_pf_tr hpf4 (md_ph_pf t3 (dd + 1)) (Nat.le_refl _)) (by omega)
      obtain ⟨m1, m2, m3⟩ := hcm
      by_cases hcz : pF (sp_cmb lv v r.1 (tS x s) r.2).2 = 0
      · rw [if_neg (fun z => z hcz)] at hF hO
        obtain ⟨n1, n2, n3⟩ := m3 hcz
        have w5 : tS x s + tZ x s ≤ r.2.1 := w3
        have w6 := m1.2.2.1
        rw [t2 hcz]
        refine ihS lv dd _ _ σ4 Q K2 m1 hcz hlv h1 n1 (by omega) (by rw [n2, w2]; exact hdd) t1 (by rw [t3.2 21 (by decide)]; exact j21) hK3 (fun hz2 σ5 a1 a2 => hF hz2 σ5 a1 (md_pf_tr hpf5 a2 (Nat.le_refl dd))) (fun hz2 σ5 a1 a2 a3 => hO hz2 σ5 a1 (md_pf_tr hpf5 a2 (Nat.le_refl dd)) a3)
      · rw [if_pos hcz] at hF
        have x17 : ¬ σ4.1 17 = 0 := md_F17 t1 hcz (sp_cmb_fl hrf _ _ _ _)
        rw [c_series_f x17, hK3]
        have x17b : ¬ (md_si σ4 25 u).1 17 = 0 := x17
        exact (c_rF x17b (by omega)).mpr (hF hcz _ (md_P_si t1) (md_pf_tr hpf5 (md_pf_si25 σ4 u dd) (Nat.le_refl dd)))
end P3
