theorem rm_put {w : cd_Wd} {m : Nat} {B : Nat → Nat} {σ : cd_S} {g : Nat → Bool} (h : RepM w m B σ g) {d o f : Nat} (ho : o < 12) (hf : f < 3) {t : Int32 × Option Nat × Option Nat} (hlk : ∀ z, t.2.1 = some z → z < 12) (hcp : ∀ c, t.2.2 = some c → c < sC σ) : RepM (cd_wI (cd_wI w (mtg 5) (B 5) ((d * 12 + o) * 3 + f) (fS t)) (mtg 6) (B 6) ((d * 12 + o) * 3 + f) (fV t)) m B (setF σ d o f t) g := by
  have hw : rp_w (setF σ d o f t) := by
    obtain ⟨g1, g2, g3, g4⟩ := h.wf
    refine ⟨g1, fun d' o' f' c hd ho hf hc => ?_, fun d' o' f' z hd ho hf hz => ?_, g4⟩
    · rw [sF_setF] at hc
      split at hc
      · exact hcp c hc
      · exact g2 d' o' f' c hd ho hf hc
    · rw [sF_setF] at hz
      split at hz
      · exact hlk z hz
      · exact g3 d' o' f' z hd ho hf hz
  have hc := h.V.F d ho hf t
  obtain ⟨a1, a2, a3, a4, a5, a6, a7⟩ := h
  have hmB : ∀ k, 3 ≤ k → k ≤ 16 → ¬ m = B k := fun k h1 h2 e => by
    have := (a1.2.1 k h1 h2).2.1
    rw [← e, a1.1] at this
    unfold mk_k at this
    split at this <;> cases this
  have a1' : shM (cd_wI w (mtg 5) (B 5) ((d * 12 + o) * 3 + f) (fS t)) m B := ⟨a1.1, a1.2.1, a1.2.2⟩
  refine ⟨⟨a1.1, a1.2.1, a1.2.2⟩, ?_, ?_, a4, a5, hc.cg fun k' j' h3 h4 => ?_, hw⟩
  · rw [I_wI, if_neg (fun z => hmB 6 (by omega) (by omega) z.2.1), I_wI, if_neg (fun z => hmB 5 (by omega) (by omega) z.2.1)]; exact a2
  · rw [I_wI, if_neg (fun z => hmB 6 (by omega) (by omega) z.2.1), I_wI, if_neg (fun z => hmB 5 (by omega) (by omega) z.2.1)]; exact a3
  · rw [mV_w a1' (by omega) (by omega) h3 h4]
    show (if _ then _ else _) = (if _ then _ else _)
    rw [mV_w a1 (by omega) (by omega) h3 h4]
set_option maxHeartbeats 4000000 in
set_option maxRecDepth 100000 in
theorem ct_Mo_put {G : cd_Gl} {l : Launch} {w : cd_Wd} {Q : cd_Out → cd_Wd → Prop} {m : Nat} {B : Nat → Nat} {σ : cd_S} {g : Nat → Bool} (hM : RepM w m B σ g) {d o f : Nat} {a s' v' : Int32} {t : Int32 × Option Nat × Option Nat} (hd : d < 6) (ho : o < 12) (hf : f < 3) (ha : a = nI ((d * 12 + o) * 3 + f)) (hs : s' = fS t) (hv : v' = fV t) (hlk : ∀ z, t.2.1 = some z → z < 12) (hcp : ∀ c, t.2.2 = some c → c < sC σ) (h : ∀ w', RepM w' m B (setF σ d o f t) g → cd_Fr w w' (fun y => y = B 5 ∨ y = B 6) → Q (.inl none) w') : cd_Ct G l y_Mo_put 0 0 0 [.ref m, .int a, .int s', .int v'] w Q := by
  refine cd_ofW cw_Mo_put (by simp [Value.category, cat_rf]) (Nat.le_of_ble_eq_true rfl) fun C O => ?_
  change cd_Go G l C _ 0 0 w 0 [some (.ref m), some (.int a), some (.int s'), some (.int v')] []
  subst ha hs hv
  first | refine g_aload_n O 0 d_Mo_put_0 rfl rfl ?_ | refine g_aload_nq O 0 d_Mo_put_0 rfl rfl ?_
  refine g_getS O c_Mo 5 (by decide) rfl hM.km lk_Mo_26 d_Mo_put_1 (hM.a 5 (by omega) (by omega)).1 ?_
  refine g_iload_n O 1 d_Mo_put_4 rfl rfl ?_
  refine g_iload_n O 2 d_Mo_put_5 rfl rfl ?_
  refine g_iast O 0 rfl rfl (hM.a 5 (by omega) (by omega)).2.1 (by (try simp only [ln_wI]); rw [(hM.a 5 (by omega) (by omega)).2.2]; exact ix_in (n := 216) (show (d * 12 + o) * 3 + f < 216 from by omega) (by omega)) d_Mo_put_6 ?_
  first | refine g_aload_n O 0 d_Mo_put_7 rfl rfl ?_ | refine g_aload_nq O 0 d_Mo_put_7 rfl rfl ?_
  refine g_getS O c_Mo 6 (by decide) rfl hM.km lk_Mo_30 d_Mo_put_8 (hM.a 6 (by omega) (by omega)).1 ?_
  refine g_iload_n O 1 d_Mo_put_11 rfl rfl ?_
  refine g_iload_n O 3 d_Mo_put_12 rfl rfl ?_
  refine g_iast O 0 rfl rfl (hM.a 6 (by omega) (by omega)).2.1 (by (try simp only [ln_wI]); rw [(hM.a 6 (by omega) (by omega)).2.2]; exact ix_in (n := 216) (show (d * 12 + o) * 3 + f < 216 from by omega) (by omega)) d_Mo_put_13 ?_
  refine g_ret O d_Mo_put_14 (Nat.le_of_ble_eq_true rfl) (Nat.le_of_ble_eq_true rfl) ?_
  rw [cl_nI (show (d * 12 + o) * 3 + f < 2 ^ 31 by omega)]
  exact h _ (rm_put hM ho hf hlk hcp) ((cd_Fr.wI (Or.inl rfl)).tr (cd_Fr.wI (Or.inr rfl)))
theorem rp_w_setU {σ : cd_S} (h : rp_w σ) (c : Nat) (u : Int32) : rp_w (setU σ c u) := by
  obtain ⟨g1, g2, g3, g4⟩ := h
  refine ⟨g1, g2, g3, fun c' hc' => ?_⟩
  have q := g4 c' hc'
  simp only [setU, kH_setK, kT_setK, kP_setK]
  by_cases e : c' = c
  · subst e; simpa [sD_setK0] using q
  · simpa [e, sD_setK0] using q
set_option maxHeartbeats 4000000 in
set_option maxRecDepth 100000 in
theorem ct_Mo_use {G : cd_Gl} {l : Launch} {w : cd_Wd} {Q : cd_Out → cd_Wd → Prop} {m : Nat} {B : Nat → Nat} {σ : cd_S} {g : Nat → Bool} (hM : RepM w m B σ g) {c : Nat} (hc : c < sC σ) (h : ∀ w', RepM w' m B (spend σ c) g → cd_Fr w w' (fun y => y = B 10) → Q (.inl none) w') : cd_Ct G l y_Mo_use 0 0 0 [.ref m, .int (nI c)] w Q := by
  refine cd_ofW cw_Mo_use (by simp [Value.category, cat_rf]) (Nat.le_of_ble_eq_true rfl) fun C O => ?_
  change cd_Go G l C _ 0 0 w 0 [some (.ref m), some (.int (nI c)), none, none] []
  have loop : ∀ (n : Nat) (w : cd_Wd) (σ : cd_S), RepM w m B σ g → ∀ c i, c < n → c < sC σ → c + i < 40 → (∀ w', RepM w' m B (spendL σ (anc σ c)) g → cd_Fr w w' (fun y => y = B 10) → Q (.inl none) w') → ∀ a0, cd_Go G l C (cd_MQ G (cx_s C) (cx_b C) 0 0 Q) 0 0 w 4 [some (.ref m), a0, some (.int (nI c)), some (.int (nI i))] [] := by
    intro n
    induction n with
    | zero => intro w σ hM c i h; omega
    | succ n ih =>
      intro w σ hM c i hn hc hci h a0
      have hC := hM.C40
      have hpar : ∀ c, c < sC σ → ∀ q, kP σ c = some q → q < c := fun c hc => (hM.hw hc).2.2.2
      rw [anc_eq hpar hc] at h
      have tail : ∀ w1, RepM w1 m B (spend1 σ c) g → cd_Fr w w1 (fun y => y = B 10) → cd_Go G l C (cd_MQ G (cx_s C) (cx_b C) 0 0 Q) 0 0 w1 33 [some (.ref m), a0, some (.int (nI c)), some (.int (nI i))] [] := by
        intro w1 hM1 hF1
        obtain ⟨z1, z2, z3, -⟩ := spend1_D σ c
        have hc1 : c < sC (spend1 σ c) := by rw [z2]; exact hc
        have q := (hM1.K hc1).2.2.2
        rw [z3 c] at q
        cases hp : kP σ c with
        | none =>
          rw [hp] at h q
          first | refine g_aload_n O 0 d_Mo_use_33 rfl rfl ?_ | refine g_aload_nq O 0 d_Mo_use_33 rfl rfl ?_
          refine g_getS O c_Mo 11 (by decide) rfl hM1.km lk_Mo_45 d_Mo_use_34 (hM1.a 11 (by omega) (by omega)).1 ?_
          refine g_iload_n O 2 d_Mo_use_37 rfl rfl ?_
          refine g_ialdV O 0 rfl rfl (hM1.a 11 (by omega) (by omega)).2.1 (by (try simp only [ln_wI]); rw [(hM1.a 11 (by omega) (by omega)).2.2]; exact ix_in (n := 40) (show c < 40 from by omega) (by omega)) d_Mo_use_38 (Eq.trans (congrArg (cd_I _ (1000 + 0) (B 11)) (cl_nI (j := c) (by omega))) (q)) ?_
          refine g_istore_n O 2 d_Mo_use_39 rfl (Nat.le_of_ble_eq_true rfl) ?_
          first | refine g_iinc O d_Mo_use_40 rfl (ic1 _) ?_ | refine g_iinc O d_Mo_use_40 rfl rfl ?_
          refine g_goto O 4 d_Mo_use_43 (by decide) ?_
          refine g_iload_n O 3 d_Mo_use_4 rfl rfl ?_
          refine g_bipush (v := 41) O d_Mo_use_5 (by decide) ?_
          refine g_icmp_ge  O 46 d_Mo_use_7 (by decide) (fun c7 => ?_) (fun c7 => ?_)
          · exact absurd c7 (nI_ge (b := 41) (by omega) (by omega))
          · refine g_iload_n O 2 d_Mo_use_10 rfl rfl ?_
            refine g_if_lt  O 46 d_Mo_use_11 (by decide) (fun c11 => ?_) (fun c11 => ?_)
            · refine g_ret O d_Mo_use_46 (Nat.le_of_ble_eq_true rfl) (Nat.le_of_ble_eq_true rfl) ?_
              exact h w1 hM1 hF1
            · exact absurd (by decide : (-1 : Int32) < 0) c11
        | some p =>
          rw [hp] at h q
          have hpc := hpar c hc p hp
          first | refine g_aload_n O 0 d_Mo_use_33 rfl rfl ?_ | refine g_aload_nq O 0 d_Mo_use_33 rfl rfl ?_
          refine g_getS O c_Mo 11 (by decide) rfl hM1.km lk_Mo_45 d_Mo_use_34 (hM1.a 11 (by omega) (by omega)).1 ?_
          refine g_iload_n O 2 d_Mo_use_37 rfl rfl ?_
          refine g_ialdV O 0 rfl rfl (hM1.a 11 (by omega) (by omega)).2.1 (by (try simp only [ln_wI]); rw [(hM1.a 11 (by omega) (by omega)).2.2]; exact ix_in (n := 40) (show c < 40 from by omega) (by omega)) d_Mo_use_38 (Eq.trans (congrArg (cd_I _ (1000 + 0) (B 11)) (cl_nI (j := c) (by omega))) (q)) ?_
          refine g_istore_n O 2 d_Mo_use_39 rfl (Nat.le_of_ble_eq_true rfl) ?_
          first | refine g_iinc O d_Mo_use_40 rfl (ic1 _) ?_ | refine g_iinc O d_Mo_use_40 rfl rfl ?_
          refine g_goto O 4 d_Mo_use_43 (by decide) ?_
          refine ih w1 (spend1 σ c) hM1 p (i + 1) (by omega) (by rw [z2]; omega) (by omega) (fun w2 hM2 hF2 => ?_) a0
          rw [anc_cg z3] at hM2
          exact h w2 hM2 (hF1.tr hF2)
      refine g_iload_n O 3 d_Mo_use_4 rfl rfl ?_
      refine g_bipush (v := 41) O d_Mo_use_5 (by decide) ?_
      refine g_icmp_ge  O 46 d_Mo_use_7 (by decide) (fun c7 => ?_) (fun c7 => ?_)
      · exact absurd c7 (nI_ge (b := 41) (by omega) (by omega))
      · refine g_iload_n O 2 d_Mo_use_10 rfl rfl ?_
        refine g_if_lt  O 46 d_Mo_use_11 (by decide) (fun c11 => ?_) (fun c11 => ?_)
        · exact absurd c11 (nI_pos (by omega))
        · first | refine g_aload_n O 0 d_Mo_use_14 rfl rfl ?_ | refine g_aload_nq O 0 d_Mo_use_14 rfl rfl ?_
          refine g_getS O c_Mo 10 (by decide) rfl hM.km lk_Mo_42 d_Mo_use_15 (hM.a 10 (by omega) (by omega)).1 ?_
          refine g_iload_n O 2 d_Mo_use_18 rfl rfl ?_
          refine g_ialdV O 0 rfl rfl (hM.a 10 (by omega) (by omega)).2.1 (by (try simp only [ln_wI]); rw [(hM.a 10 (by omega) (by omega)).2.2]; exact ix_in (n := 40) (show c < 40 from by omega) (by omega)) d_Mo_use_19 (Eq.trans (congrArg (cd_I _ (1000 + 0) (B 10)) (cl_nI (j := c) (by omega))) ((hM.K hc).2.2.1)) ?_
          refine g_if_le  O 33 d_Mo_use_20 (by decide) (fun c20 => ?_) (fun c20 => ?_)
          · exact tail w (by unfold spend1; rw [if_neg (Int32.not_lt.mpr c20)]; exact hM) cd_Fr.rf
          · first | refine g_aload_n O 0 d_Mo_use_23 rfl rfl ?_ | refine g_aload_nq O 0 d_Mo_use_23 rfl rfl ?_
            refine g_getS O c_Mo 10 (by decide) rfl hM.km lk_Mo_42 d_Mo_use_24 (hM.a 10 (by omega) (by omega)).1 ?_
            refine g_iload_n O 2 d_Mo_use_27 rfl rfl ?_
            refine g_dup2 O d_Mo_use_28 rfl rfl ?_
            refine g_ialdV O 0 rfl rfl (hM.a 10 (by omega) (by omega)).2.1 (by (try simp only [ln_wI]); rw [(hM.a 10 (by omega) (by omega)).2.2]; exact ix_in (n := 40) (show c < 40 from by omega) (by omega)) d_Mo_use_29 (Eq.trans (congrArg (cd_I _ (1000 + 0) (B 10)) (cl_nI (j := c) (by omega))) ((hM.K hc).2.2.1)) ?_
            refine g_iconst (v := 1) O d_Mo_use_30 (by decide) ?_
            refine g_isub O d_Mo_use_31 ?_
            refine g_iast O 0 rfl rfl (hM.a 10 (by omega) (by omega)).2.1 (by (try simp only [ln_wI]); rw [(hM.a 10 (by omega) (by omega)).2.2]; exact ix_in (n := 40) (show c < 40 from by omega) (by omega)) d_Mo_use_32 ?_
            rw [cl_nI (show c < 2 ^ 31 by omega)]
            refine tail _ ?_ (cd_Fr.wI rfl)
            unfold spend1
            rw [if_pos (Int32.not_le.mp c20)]
            exact rm_w hM (k := 10) (by omega) (by omega) ⟨rfl, rfl⟩ (hM.V.U c _) (rp_w_setU hM.wf c _)
  refine g_iload_n O 1 d_Mo_use_0 rfl rfl ?_
  refine g_istore_n O 2 d_Mo_use_1 rfl (Nat.le_of_ble_eq_true rfl) ?_
  refine g_iconst (v := 0) O d_Mo_use_2 (by decide) ?_
  refine g_istore_n O 3 d_Mo_use_3 rfl (Nat.le_of_ble_eq_true rfl) ?_
  exact loop (c + 1) w σ hM c 0 (by omega) hc (by have := hM.C40; omega) h _
set_option maxHeartbeats 4000000 in
set_option maxRecDepth 100000 in
theorem ct_Mo_objects {G : cd_Gl} {l : Launch} {w : cd_Wd} {Q : cd_Out → cd_Wd → Prop} {m : Nat} {B : Nat → Nat} {σ : cd_S} {g : Nat → Bool} (hM : RepM w m B σ g) {d : Nat} (hd : d < 6) (h : Q (.inl (some (.int (nI (cnt (sT σ d) 12))))) w) : cd_Ct G l y_Mo_objects 0 0 0 [.ref m, .int (nI d)] w Q := by
  refine cd_ofW cw_Mo_objects (by simp [Value.category, cat_rf]) (Nat.le_of_ble_eq_true rfl) fun C O => ?_
  change cd_Go G l C _ 0 0 w 0 [some (.ref m), some (.int (nI d)), none, none] []
  have loop : ∀ (j : Nat) (v : cd_Wd), j ≤ 12 → (v = w) → cd_Go G l C (cd_MQ G (cx_s C) (cx_b C) 0 0 Q) (0) (0) v 4 [some (.ref m), some (.int (nI d)), some (.int (nI (cnt (sT σ d) j))), some (.int (nI j))] [] := by
    refine lp (12) (P := fun j v => v = w) (g := fun j v => cd_Go G l C (cd_MQ G (cx_s C) (cx_b C) 0 0 Q) (0) (0) v 4 [some (.ref m), some (.int (nI d)), some (.int (nI (cnt (sT σ d) j))), some (.int (nI j))] []) (fun v hP => ?_) (fun j v hj hP ih => ?_)
    · skip
      subst hP
      refine g_iload_n O 3 d_Mo_objects_4 rfl rfl ?_
      refine g_bipush (v := 12) O d_Mo_objects_5 (by decide) ?_
      refine g_icmp_ge  O 33 d_Mo_objects_7 (by decide) (fun c7 => ?_) (fun c7 => ?_)
      · refine g_iload_n O 2 d_Mo_objects_33 rfl rfl ?_
        refine g_iret O d_Mo_objects_34 (Nat.le_of_ble_eq_true rfl) (Nat.le_of_ble_eq_true rfl) ?_
        exact h
      · exact absurd (show (12 : Int32) ≤ nI 12 from by decide) c7
    · skip
      subst hP
      refine g_iload_n O 3 d_Mo_objects_4 rfl rfl ?_
      refine g_bipush (v := 12) O d_Mo_objects_5 (by decide) ?_
      refine g_icmp_ge  O 33 d_Mo_objects_7 (by decide) (fun c7 => ?_) (fun c7 => ?_)
      · exact absurd c7 (nI_ge (b := 12) hj (by omega))
      · first | refine g_aload_n O 0 d_Mo_objects_10 rfl rfl ?_ | refine g_aload_nq O 0 d_Mo_objects_10 rfl rfl ?_
        refine g_getS O c_Mo 4 (by decide) rfl hM.km lk_Mo_23 d_Mo_objects_11 (hM.a 4 (by omega) (by omega)).1 ?_
        refine g_iload_n O 1 d_Mo_objects_14 rfl rfl ?_
        refine g_bipush (v := 12) O d_Mo_objects_15 (by decide) ?_
        refine g_imul O d_Mo_objects_17 ?_
        refine g_iload_n O 3 d_Mo_objects_18 rfl rfl ?_
        refine g_iadd O d_Mo_objects_19 ?_
        rw [m12, nI_add]
        refine g_zaldV O 1 rfl rfl (hM.a 4 (by omega) (by omega)).2.1 (by (try simp only [ln_wI]); rw [(hM.a 4 (by omega) (by omega)).2.2]; exact ix_in (n := 72) (show d * 12 + j < 72 from by omega) (by omega)) d_Mo_objects_20 (Eq.trans (congrArg (cd_I _ (1000 + 1) (B 4)) (cl_nI (j := d * 12 + j) (by omega))) (hM.T hd hj)) ?_
        refine g_if_eq  O 27 d_Mo_objects_21 (by decide) (fun c21 => ?_) (fun c21 => ?_)
        · have e1 := cnt_f (cd_b_eq.mp c21)
          first | refine g_iinc O d_Mo_objects_27 rfl (ic1 _) ?_ | refine g_iinc O d_Mo_objects_27 rfl rfl ?_
          refine g_goto O 4 d_Mo_objects_30 (by decide) ?_
          have e := ih v rfl
          rw [e1] at e
          exact e
        · have e1 := cnt_t (cd_b_ne.mp c21)
          first | refine g_iinc O d_Mo_objects_24 rfl (ic1 _) ?_ | refine g_iinc O d_Mo_objects_24 rfl rfl ?_
          first | refine g_iinc O d_Mo_objects_27 rfl (ic1 _) ?_ | refine g_iinc O d_Mo_objects_27 rfl rfl ?_
          refine g_goto O 4 d_Mo_objects_30 (by decide) ?_
          have e := ih v rfl
          rw [e1] at e
          exact e
  refine g_iconst (v := 0) O d_Mo_objects_0 (by decide) ?_
  refine g_istore_n O 2 d_Mo_objects_1 rfl (Nat.le_of_ble_eq_true rfl) ?_
  refine g_iconst (v := 0) O d_Mo_objects_2 (by decide) ?_
  refine g_istore_n O 3 d_Mo_objects_3 rfl (Nat.le_of_ble_eq_true rfl) ?_
  exact loop 0 _ (by omega) rfl
