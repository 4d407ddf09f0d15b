/-- the cells that the making of objects of d writes -/
def cpW (A : cd_A) (d : Nat) (y : Nat) : Prop := (∃ o, o < 12 ∧ y = A 4 d o 0) ∨ ∃ o f, o < 12 ∧ f < 3 ∧ y = A 6 d o f
theorem cpW_ow {x : Nat} {A : cd_A} {σ : cd_S} {d y : Nat} (hd : d < sD σ) (h : cpW A d y) : cd_ow x A σ y := by
  rcases h with ⟨o, ho, rfl⟩ | ⟨o, f, ho, hf, rfl⟩
  · exact ow_at (k := 4) ⟨hd, ho, rfl⟩
  · exact ow_at (k := 6) ⟨hd, ho, hf⟩
theorem cpW_no {w : cd_Wd} {x : Nat} {A : cd_A} {σ : cd_S} (hR : cd_Rep w x A σ) {d k : Nat} (hd : d < sD σ) (hv : cd_va σ k 0 0 0) (hk : 7 ≤ k) : ¬ cpW A d (A k 0 0 0) := by
  rintro (⟨o, ho, e⟩ | ⟨o, f, ho, hf, e⟩)
  · have := (hR.i k 0 0 0 4 d o 0 hv ⟨hd, ho, rfl⟩ e).1; omega
  · have := (hR.i k 0 0 0 6 d o f hv ⟨hd, ho, hf⟩ e).1; omega
set_option maxHeartbeats 4000000 in
set_option maxRecDepth 100000 in
theorem ct_Ob_begin2 {G : cd_Gl} {l : Launch} {w : cd_Wd} {Q : cd_Out → cd_Wd → Prop} {x : Nat} {A : cd_A} {σ : cd_S} (hR : cd_Rep w x A σ) {d o : Nat} (hd : d < sD σ) (ho : o < 12) (h : ∀ w', cd_Rep w' x A (newO σ d o) → cd_Fr w w' (cpW A d) → Q (.inl none) w') : cd_Ct G l y_Ob_begin 1 0 0 [.ref (A 4 d o 0)] w Q := by
  refine cd_ofW cw_Ob_begin (by simp [Value.category, cat_rf]) (Nat.le_of_ble_eq_true rfl) fun C O => ?_
  change cd_Go G l C _ 0 0 w 0 [some (.ref (A 4 d o 0)), none] []
  have loop : ∀ (j : Nat) (v : cd_Wd), j ≤ 3 → (cd_Rep v x A (itr (fun τ f => setF τ d o f zF) (setT σ d o true) j) ∧ cd_Fr w v (cpW A d)) → cd_Go G l C (cd_MQ G (cx_s C) (cx_b C) 0 0 Q) (0) (0) v 7 [some (.ref (A 4 d o 0)), some (.int (nI j))] [] := by
    refine lp (3) (P := fun j v => cd_Rep v x A (itr (fun τ f => setF τ d o f zF) (setT σ d o true) j) ∧ cd_Fr w v (cpW A d)) (g := fun j v => cd_Go G l C (cd_MQ G (cx_s C) (cx_b C) 0 0 Q) (0) (0) v 7 [some (.ref (A 4 d o 0)), some (.int (nI j))] []) (fun v hP => ?_) (fun j v hj hP ih => ?_)
    · skip
      refine g_iload_n O 1 d_Ob_begin_7 rfl rfl ?_
      refine g_iconst (v := 3) O d_Ob_begin_8 (by decide) ?_
      refine g_icmp_ge  O 28 d_Ob_begin_9 (by decide) (fun c9 => ?_) (fun c9 => ?_)
      · refine g_ret O d_Ob_begin_28 (Nat.le_of_ble_eq_true rfl) (Nat.le_of_ble_eq_true rfl) ?_
        exact h v hP.1 hP.2
      · exact absurd (show (3 : Int32) ≤ nI 3 from by decide) c9
    · skip
      obtain ⟨hR, hF⟩ := hP
      have hd1 : d < sD (itr (fun τ f => setF τ d o f zF) (setT σ d o true) j) := by rw [(setF_DC j).1]; exact hd
      refine g_iload_n O 1 d_Ob_begin_7 rfl rfl ?_
      refine g_iconst (v := 3) O d_Ob_begin_8 (by decide) ?_
      refine g_icmp_ge  O 28 d_Ob_begin_9 (by decide) (fun c9 => ?_) (fun c9 => ?_)
      · exact absurd c9 (nI_ge (b := 3) hj (by omega))
      · first | refine g_aload_n O 0 d_Ob_begin_12 rfl rfl ?_ | refine g_aload_nq O 0 d_Ob_begin_12 rfl rfl ?_
        refine g_getS O c_Ob 1 (by decide) rfl (hR.o hd1 ho).2.1 lk_Ob_11 d_Ob_begin_13 (hR.o hd1 ho).2.2.2.1 ?_
        refine g_iload_n O 1 d_Ob_begin_16 rfl rfl ?_
        refine g_aaldS O 5 rfl rfl (hR.o hd1 ho).2.2.2.2.1 (by rw [(hR.o hd1 ho).2.2.2.2.2]; exact ix_in hj (by omega)) d_Ob_begin_17 (by rw [cl_nI (by omega)]; exact (hR.f hd1 ho hj).1) ?_
        refine g_iconst (v := 0) O d_Ob_begin_18 (by decide) ?_
        refine g_callv (N := 0) (mc := 0) (ms := 0) (av := [_]) O (Or.inl ⟨_, _, cw_Fi_becomeNumber⟩) pl_Fi (ci := 3) (q := q_Fi) rfl (hR.f hd1 ho hj).2.1 ml_Ob_22 im_Fi_becomeNumber se_Fi_becomeNumber rfl d_Ob_begin_19 rfl (Nat.le_of_ble_eq_true rfl) (Nat.le_of_ble_eq_true rfl) (Nat.le_of_ble_eq_true rfl) (Nat.le_of_ble_eq_true rfl) ?_
        refine ct_Fi_becomeNumber (hR.f hd1 ho hj).2.1 ?_
        change cd_Go _ _ _ _ _ _ _ _ _ _
        first | refine g_iinc O d_Ob_begin_22 rfl (ic1 _) ?_ | refine g_iinc O d_Ob_begin_22 rfl rfl ?_
        refine g_goto O 7 d_Ob_begin_25 (by decide) ?_
        exact ih _ ⟨rep_fN hR hd1 ho hj 0, hF.tr (fr_fN (Or.inr ⟨o, j, ho, hj, rfl⟩))⟩
  first | refine g_aload_n O 0 d_Ob_begin_0 rfl rfl ?_ | refine g_aload_nq O 0 d_Ob_begin_0 rfl rfl ?_
  refine g_iconst (v := 1) O d_Ob_begin_1 (by decide) ?_
  refine g_putI O c_Ob 0 (by decide) rfl (hR.o hd ho).2.1 (Or.inr (by first | exact Or.inl rfl | exact Or.inr rfl | assumption)) (Or.inl rfl) lk_Ob_18 d_Ob_begin_2 ?_
  refine g_iconst (v := 0) O d_Ob_begin_5 (by decide) ?_
  refine g_istore_n O 1 d_Ob_begin_6 rfl (Nat.le_of_ble_eq_true rfl) ?_
  exact loop 0 _ (by omega) ⟨rep_T hR hd ho true, cd_Fr.wI (Or.inl ⟨o, ho, rfl⟩)⟩
set_option maxHeartbeats 4000000 in
set_option maxRecDepth 100000 in
theorem ct_Do_makeObject2 {G : cd_Gl} {l : Launch} {w : cd_Wd} {Q : cd_Out → cd_Wd → Prop} {x : Nat} {A : cd_A} {σ : cd_S} (hR : cd_Rep w x A σ) {d : Nat} (hd : d < sD σ) (h1 : ∀ o, o < 12 → sT σ d o = false → (∀ i, i < o → sT σ d i = true) → ∀ w', cd_Rep w' x A (newO σ d o) → cd_Fr w w' (cpW A d) → Q (.inl (some (.int (nI o)))) w') (h2 : (∀ i, i < 12 → sT σ d i = true) → Q (.inl (some (.int (-1)))) w) : cd_Ct G l y_Do_makeObject 2 0 0 [.ref (A 1 d 0 0)] w Q := by
  refine cd_ofW cw_Do_makeObject (by simp [Value.category, cat_rf]) (Nat.le_of_ble_eq_true rfl) fun C O => ?_
  change cd_Go G l C _ 0 0 w 0 [some (.ref (A 1 d 0 0)), none] []
  have loop : ∀ (j : Nat) (v : cd_Wd), j ≤ 12 → (v = w ∧ ∀ i, i < j → sT σ d i = true) → cd_Go G l C (cd_MQ G (cx_s C) (cx_b C) 0 0 Q) (0) (0) v 2 [some (.ref (A 1 d 0 0)), some (.int (nI j))] [] := by
    refine lp (12) (P := fun j v => v = w ∧ ∀ i, i < j → sT σ d i = true) (g := fun j v => cd_Go G l C (cd_MQ G (cx_s C) (cx_b C) 0 0 Q) (0) (0) v 2 [some (.ref (A 1 d 0 0)), some (.int (nI j))] []) (fun v hP => ?_) (fun j v hj hP ih => ?_)
    · skip
      obtain ⟨rfl, hP⟩ := hP
      refine g_iload_n O 1 d_Do_makeObject_2 rfl rfl ?_
      refine g_bipush (v := 12) O d_Do_makeObject_3 (by decide) ?_
      refine g_icmp_ge  O 37 d_Do_makeObject_5 (by decide) (fun c5 => ?_) (fun c5 => ?_)
      · refine g_iconst (v := -1) O d_Do_makeObject_37 (by decide) ?_
        refine g_iret O d_Do_makeObject_38 (Nat.le_of_ble_eq_true rfl) (Nat.le_of_ble_eq_true rfl) ?_
        exact h2 hP
      · exact absurd (show (12 : Int32) ≤ nI 12 from by decide) c5
    · skip
      obtain ⟨rfl, hP⟩ := hP
      have hP := And.intro True.intro hP
      refine g_iload_n O 1 d_Do_makeObject_2 rfl rfl ?_
      refine g_bipush (v := 12) O d_Do_makeObject_3 (by decide) ?_
      refine g_icmp_ge  O 37 d_Do_makeObject_5 (by decide) (fun c5 => ?_) (fun c5 => ?_)
      · exact absurd c5 (nI_ge (b := 12) hj (by omega))
      · first | refine g_aload_n O 0 d_Do_makeObject_8 rfl rfl ?_ | refine g_aload_nq O 0 d_Do_makeObject_8 rfl rfl ?_
        refine g_getS O c_Do 1 (by decide) rfl (hR.d hd).2.1 lk_Do_11 d_Do_makeObject_9 (hR.d hd).2.2.1 ?_
        refine g_iload_n O 1 d_Do_makeObject_12 rfl rfl ?_
        refine g_aaldS O 4 rfl rfl (hR.d hd).2.2.2.1 (by rw [(hR.d hd).2.2.2.2.1]; exact ix_in hj (by omega)) d_Do_makeObject_13 (by rw [cl_nI (by omega)]; exact (hR.o hd hj).1) ?_
        refine g_getV O c_Ob 0 (by decide) rfl (hR.o hd hj).2.1 lk_Do_24 d_Do_makeObject_14 (hR.o hd hj).2.2.1 ?_
        refine g_if_ne  O 31 d_Do_makeObject_17 (by decide) (fun c17 => ?_) (fun c17 => ?_)
        · first | refine g_iinc O d_Do_makeObject_31 rfl (ic1 _) ?_ | refine g_iinc O d_Do_makeObject_31 rfl rfl ?_
          refine g_goto O 2 d_Do_makeObject_34 (by decide) ?_
          refine ih v ⟨rfl, fun i hi => ?_⟩
          by_cases e : i = j
          · subst e; exact cd_b_ne.mp c17
          · exact hP.2 i (by omega)
        · have h1 := h1 j hj (cd_b_eq.mp c17) hP.2
          first | refine g_aload_n O 0 d_Do_makeObject_20 rfl rfl ?_ | refine g_aload_nq O 0 d_Do_makeObject_20 rfl rfl ?_
          refine g_getS O c_Do 1 (by decide) rfl (hR.d hd).2.1 lk_Do_11 d_Do_makeObject_21 (hR.d hd).2.2.1 ?_
          refine g_iload_n O 1 d_Do_makeObject_24 rfl rfl ?_
          refine g_aaldS O 4 rfl rfl (hR.d hd).2.2.2.1 (by rw [(hR.d hd).2.2.2.2.1]; exact ix_in hj (by omega)) d_Do_makeObject_25 (by rw [cl_nI (by omega)]; exact (hR.o hd hj).1) ?_
          refine g_callv (N := 1) (mc := 0) (ms := 0) (av := []) O (Or.inl ⟨_, _, cw_Ob_begin⟩) pl_Ob (ci := 2) (q := q_Ob) rfl (hR.o hd hj).2.1 ml_Do_28 im_Ob_begin se_Ob_begin rfl d_Do_makeObject_26 rfl (Nat.le_of_ble_eq_true rfl) (Nat.le_of_ble_eq_true rfl) (Nat.le_of_ble_eq_true rfl) (Nat.le_of_ble_eq_true rfl) ?_
          refine ct_Ob_begin2 hR hd hj (fun w' hR' hF' => ?_)
          change cd_Go _ _ _ _ _ _ _ _ _ _
          refine g_iload_n O 1 d_Do_makeObject_29 rfl rfl ?_
          refine g_iret O d_Do_makeObject_30 (Nat.le_of_ble_eq_true rfl) (Nat.le_of_ble_eq_true rfl) ?_
          exact h1 w' hR' hF'
  refine g_iconst (v := 0) O d_Do_makeObject_0 (by decide) ?_
  refine g_istore_n O 1 d_Do_makeObject_1 rfl (Nat.le_of_ble_eq_true rfl) ?_
  exact loop 0 _ (by omega) ⟨rfl, fun i hi => by omega⟩
def Rch (w : cd_Wd) (A : cd_A) (acc : List Nat) (d : Nat) : Prop := cd_I w 160 (A 9 0 0 0) 0 = nI acc.length ∧ cd_O w 164 (A 9 0 0 0) 0 = some (A 1 d 0 0) ∧ (∀ i, i < acc.length → cd_I w 1000 (A 11 0 0 0) i = nI (acc.getD i 0)) ∧ ∀ o, o < 12 → cd_I w 1001 (A 12 0 0 0) o = cd_b (decide (o ∈ acc))
theorem Rch.add {w : cd_Wd} {A : cd_A} {acc : List Nat} {d o : Nat} (h : Rch w A acc d) (ho : o < 12) : Rch (cd_wI (cd_wI (cd_wI w 1001 (A 12 0 0 0) o 1) 1000 (A 11 0 0 0) acc.length (nI o)) 160 (A 9 0 0 0) 0 (nI (acc.length + 1))) A (acc ++ [o]) d := by
  obtain ⟨h1, h2, h3, h4⟩ := h
  refine ⟨?_, ?_, fun i hi => ?_, fun y hy => ?_⟩
  · simp [I_wI]
  · simpa [O_wI] using h2
  · simp only [List.length_append, List.length_cons, List.length_nil] at hi
    by_cases e : i = acc.length
    · subst e
      simp [I_wI]
    · have h5 := h3 i (by omega)
      rw [List.getD_eq_getElem?_getD, List.getElem?_append_left (by omega), ← List.getD_eq_getElem?_getD]
      simpa [I_wI, e] using h5
  · by_cases e : y = o
    · subst e
      simp [I_wI, cd_b]
    · have h5 := h4 y hy
      simpa [I_wI, e] using h5
theorem Rch.fr {w v : cd_Wd} {x : Nat} {A : cd_A} {σ : cd_S} {acc : List Nat} {d : Nat} {P : Nat → Prop} (h : Rch w A acc d) (hR : cd_Rep w x A σ) (hF : cd_Fr w v P) (h9 : ¬ P (A 9 0 0 0)) (h11 : ¬ P (A 11 0 0 0)) (h12 : ¬ P (A 12 0 0 0)) : Rch v A acc d := by
  obtain ⟨h1, h2, h3, h4⟩ := h
  have e9 := rep_ex hR (k := 9) (d := 0) (o := 0) (f := 0) ⟨rfl, rfl, rfl⟩
  have e11 := rep_ex hR (k := 11) (d := 0) (o := 0) (f := 0) ⟨rfl, rfl, rfl⟩
  have e12 := rep_ex hR (k := 12) (d := 0) (o := 0) (f := 0) ⟨rfl, rfl, rfl⟩
  exact ⟨(hF.I e9 h9 _ _).trans h1, (hF.O e9 h9 _ _).trans h2, fun i hi => (hF.I e11 h11 _ _).trans (h3 i hi), fun y hy => (hF.I e12 h12 _ _).trans (h4 y hy)⟩
set_option maxHeartbeats 4000000 in
set_option maxRecDepth 100000 in
theorem ct_Re_comeTo {G : cd_Gl} {l : Launch} {x : Nat} {A : cd_A} {σ : cd_S} {d : Nat} (hd : d < sD σ) : ∀ (n : Nat), n ≤ 12 → ∀ {w : cd_Wd} {Q : cd_Out → cd_Wd → Prop} {acc : List Nat} {o : Int32}, cd_Rep w x A σ → Rch w A acc d → WfA acc → (∀ w', cd_Rep w' x A σ → Rch w' A (come σ d n o acc) d → cd_Fr w w' (cd_ow x A σ) → Q (.inl none) w') → cd_Ct G l y_Re_comeTo (n + 1) 0 0 [.ref (A 9 0 0 0), .int o, .int (nI (12 - n))] w Q := by
  intro n
  induction n with
  | zero =>
    intro _ w Q acc o hR hC hW h
    refine cd_ofW cw_Re_comeTo (by simp [Value.category, cat_rf]) (Nat.le_of_ble_eq_true rfl) fun C O => ?_
    change cd_Go G l C _ 0 0 w 0 [some (.ref (A 9 0 0 0)), some (.int o), some (.int (nI 12)), none] []
    refine g_iload_n O 2 d_Re_comeTo_0 rfl rfl ?_
    refine g_bipush (v := 12) O d_Re_comeTo_1 (by decide) ?_
    refine g_icmp_ge  O 26 d_Re_comeTo_3 (by decide) (fun c3 => ?_) (fun c3 => ?_)
    · refine g_ret O d_Re_comeTo_26 (Nat.le_of_ble_eq_true rfl) (Nat.le_of_ble_eq_true rfl) ?_
      exact h w hR hC cd_Fr.rf
    · exact absurd (show (12 : Int32) ≤ nI 12 from by decide) c3
  | succ n IH =>
    intro hn w Q acc o hR hC hW h
    have IH := @IH (by omega)
    refine cd_ofW cw_Re_comeTo (by simp [Value.category, cat_rf]) (Nat.le_of_ble_eq_true rfl) fun C O => ?_
    change cd_Go G l C _ 0 0 w 0 [some (.ref (A 9 0 0 0)), some (.int o), some (.int (nI (12 - (n + 1)))), none] []
    refine g_iload_n O 2 d_Re_comeTo_0 rfl rfl ?_
    refine g_bipush (v := 12) O d_Re_comeTo_1 (by decide) ?_
    refine g_icmp_ge  O 26 d_Re_comeTo_3 (by decide) (fun c3 => ?_) (fun c3 => ?_)
    · exact absurd c3 (nI_ge (b := 12) (by omega) (by omega))
    · first | refine g_aload_n O 0 d_Re_comeTo_6 rfl rfl ?_ | refine g_aload_nq O 0 d_Re_comeTo_6 rfl rfl ?_
      refine g_getS O c_Re 4 (by decide) rfl hR.top.2.2.2.2.2.2.2.2.1 lk_Re_22 d_Re_comeTo_7 hC.2.1 ?_
      refine g_iload_n O 1 d_Re_comeTo_10 rfl rfl ?_
      refine g_callv (N := 0) (mc := 0) (ms := 0) (av := [_]) O (Or.inl ⟨_, _, cw_Do_hasObject⟩) pl_Do (ci := 1) (q := q_Do) rfl (hR.d hd).2.1 ml_Re_34 im_Do_hasObject se_Do_hasObject rfl d_Re_comeTo_11 rfl (by show 0 + 1 ≤ n + 1 + 1; omega) (by show 0 + (2 + 11) + 64 * 0 ≤ 64 * (n + 1 + 1); omega) (Nat.le_of_ble_eq_true rfl) (Nat.le_of_ble_eq_true rfl) ?_
      refine ct_Do_hasObject hR hd ?_
      change cd_Go _ _ _ _ _ _ _ _ _ _
      refine g_if_eq  O 26 d_Re_comeTo_14 (by decide) (fun c14 => ?_) (fun c14 => ?_)
      · rw [come_no (fun z => by rw [cd_b_eq.mp c14] at z; exact absurd z.1 (by decide))] at h
        refine g_ret O d_Re_comeTo_26 (Nat.le_of_ble_eq_true rfl) (Nat.le_of_ble_eq_true rfl) ?_
        exact h w hR hC cd_Fr.rf
      · obtain ⟨i, hi, rfl, hti⟩ := hasO_of (cd_b_ne.mp c14)
        have hcl : (nI i).toNatClampNeg = i := nI_clamp (by omega)
        first | refine g_aload_n O 0 d_Re_comeTo_17 rfl rfl ?_ | refine g_aload_nq O 0 d_Re_comeTo_17 rfl rfl ?_
        refine g_getS O c_Re 3 (by decide) rfl hR.top.2.2.2.2.2.2.2.2.1 lk_Re_18 d_Re_comeTo_18 hR.top.2.2.2.2.2.2.2.2.2.2.2.2.2.2.2.1 ?_
        refine g_iload_n O 1 d_Re_comeTo_21 rfl rfl ?_
        refine g_zaldV O 1 rfl rfl hR.top.2.2.2.2.2.2.2.2.2.2.2.2.2.2.2.2.1 (by rw [hR.top.2.2.2.2.2.2.2.2.2.2.2.2.2.2.2.2.2.1]; exact ix_in hi (by omega)) d_Re_comeTo_22 (show cd_I w (1000 + 1) (A 12 0 0 0) (nI i).toNatClampNeg = cd_b (decide (i ∈ acc)) from by rw [hcl]; exact hC.2.2.2 i hi) ?_
        refine g_if_eq  O 27 d_Re_comeTo_23 (by decide) (fun c23 => ?_) (fun c23 => ?_)
        · have hni : i ∉ acc := of_decide_eq_false (cd_b_eq.mp c23)
          have hlen := hW.lt hi hni
          rw [come, if_pos ⟨by rw [hasO_nI hi]; exact hti, by rw [hcl]; exact hni⟩, hcl] at h
          first | refine g_aload_n O 0 d_Re_comeTo_27 rfl rfl ?_ | refine g_aload_nq O 0 d_Re_comeTo_27 rfl rfl ?_
          refine g_getS O c_Re 3 (by decide) rfl hR.top.2.2.2.2.2.2.2.2.1 lk_Re_18 d_Re_comeTo_28 hR.top.2.2.2.2.2.2.2.2.2.2.2.2.2.2.2.1 ?_
          refine g_iload_n O 1 d_Re_comeTo_31 rfl rfl ?_
          refine g_iconst (v := 1) O d_Re_comeTo_32 (by decide) ?_
          refine g_zast O 1 rfl rfl hR.top.2.2.2.2.2.2.2.2.2.2.2.2.2.2.2.2.1 (by rw [hR.top.2.2.2.2.2.2.2.2.2.2.2.2.2.2.2.2.2.1]; exact ix_in hi (by omega)) (by first | exact Or.inl rfl | exact Or.inr rfl | assumption) d_Re_comeTo_33 ?_
          first | refine g_aload_n O 0 d_Re_comeTo_34 rfl rfl ?_ | refine g_aload_nq O 0 d_Re_comeTo_34 rfl rfl ?_
          rw [hcl]
          have hR1 : cd_Rep (cd_wI w (1000 + 1) (A 12 0 0 0) i 1) x A σ := rep_keepI hR (by decide)
          refine g_getS O c_Re 2 (by decide) rfl hR1.top.2.2.2.2.2.2.2.2.1 lk_Re_15 d_Re_comeTo_35 hR1.top.2.2.2.2.2.2.2.2.2.2.2.2.1 ?_
          first | refine g_aload_n O 0 d_Re_comeTo_38 rfl rfl ?_ | refine g_aload_nq O 0 d_Re_comeTo_38 rfl rfl ?_
          refine g_getV O c_Re 0 (by decide) rfl hR1.top.2.2.2.2.2.2.2.2.1 lk_Re_26 d_Re_comeTo_39 (show cd_I _ 160 (A 9 0 0 0) 0 = nI acc.length from by rw [I_wI, if_neg (by simp)]; exact hC.1) ?_
          refine g_iload_n O 1 d_Re_comeTo_42 rfl rfl ?_
          refine g_iast O 0 rfl rfl hR1.top.2.2.2.2.2.2.2.2.2.2.2.2.2.1 (by rw [hR1.top.2.2.2.2.2.2.2.2.2.2.2.2.2.2.1]; exact ix_in hlen (by omega)) d_Re_comeTo_43 ?_
          rw [cl_nI (by omega)]
          have hR2 : cd_Rep (cd_wI (cd_wI w (1000 + 1) (A 12 0 0 0) i 1) (1000 + 0) (A 11 0 0 0) acc.length (nI i)) x A σ := rep_keepI hR1 (by decide)
          first | refine g_aload_n O 0 d_Re_comeTo_44 rfl rfl ?_ | refine g_aload_nq O 0 d_Re_comeTo_44 rfl rfl ?_
          refine g_dup O d_Re_comeTo_45 (by first | rfl | exact cat_rf _) ?_
          refine g_getV O c_Re 0 (by decide) rfl hR2.top.2.2.2.2.2.2.2.2.1 lk_Re_26 d_Re_comeTo_46 (show cd_I _ 160 (A 9 0 0 0) 0 = nI acc.length from by rw [I_wI, if_neg (by simp), I_wI, if_neg (by simp)]; exact hC.1) ?_
          refine g_iconst (v := 1) O d_Re_comeTo_49 (by decide) ?_
          refine g_iadd O d_Re_comeTo_50 ?_
          rw [nI_1]
          refine g_putI O c_Re 0 (by decide) rfl hR2.top.2.2.2.2.2.2.2.2.1 (Or.inl rfl) (Or.inl rfl) lk_Re_26 d_Re_comeTo_51 ?_
          have hR3 : cd_Rep (cd_wI (cd_wI (cd_wI w (1000 + 1) (A 12 0 0 0) i 1) (1000 + 0) (A 11 0 0 0) acc.length (nI i)) (32 * 5 + 0) (A 9 0 0 0) 0 (nI (acc.length + 1))) x A σ := rep_keepI hR2 (by decide)
          have hC3 := hC.add hi
          have hF3 : cd_Fr w (cd_wI (cd_wI (cd_wI w (1000 + 1) (A 12 0 0 0) i 1) (1000 + 0) (A 11 0 0 0) acc.length (nI i)) (32 * 5 + 0) (A 9 0 0 0) 0 (nI (acc.length + 1))) (cd_ow x A σ) := cd_Fr.tr (cd_Fr.tr (cd_Fr.wI (ow_at (k := 12) ⟨rfl, rfl, rfl⟩)) (cd_Fr.wI (ow_at (k := 11) ⟨rfl, rfl, rfl⟩))) (cd_Fr.wI (ow_at (k := 9) ⟨rfl, rfl, rfl⟩))
          refine g_iconst (v := 0) O d_Re_comeTo_54 (by decide) ?_
          refine g_istore_n O 3 d_Re_comeTo_55 rfl (Nat.le_of_ble_eq_true rfl) ?_
          have loop : ∀ (j : Nat) (v : cd_Wd), j ≤ 3 → (cd_Rep v x A σ ∧ Rch v A (itr (fun a f => come σ d n (lkI σ d i f) a) (acc ++ [i]) j) d ∧ cd_Fr w v (cd_ow x A σ) ∧ WfA (itr (fun a f => come σ d n (lkI σ d i f) a) (acc ++ [i]) j)) → cd_Go G l C (cd_MQ G (cx_s C) (cx_b C) 0 0 Q) (0) (0) v 56 [some (.ref (A 9 0 0 0)), some (.int (nI i)), some (.int (nI (12 - (n + 1)))), some (.int (nI j))] [] := by
            refine lp (3) (P := fun j v => cd_Rep v x A σ ∧ Rch v A (itr (fun a f => come σ d n (lkI σ d i f) a) (acc ++ [i]) j) d ∧ cd_Fr w v (cd_ow x A σ) ∧ WfA (itr (fun a f => come σ d n (lkI σ d i f) a) (acc ++ [i]) j)) (g := fun j v => cd_Go G l C (cd_MQ G (cx_s C) (cx_b C) 0 0 Q) (0) (0) v 56 [some (.ref (A 9 0 0 0)), some (.int (nI i)), some (.int (nI (12 - (n + 1)))), some (.int (nI j))] []) (fun v hP => ?_) (fun j v hj hP ih => ?_)
            · skip
              refine g_iload_n O 3 d_Re_comeTo_56 rfl rfl ?_
              refine g_iconst (v := 3) O d_Re_comeTo_57 (by decide) ?_
              refine g_icmp_ge  O 91 d_Re_comeTo_58 (by decide) (fun c58 => ?_) (fun c58 => ?_)
              · refine g_ret O d_Re_comeTo_91 (Nat.le_of_ble_eq_true rfl) (Nat.le_of_ble_eq_true rfl) ?_
                exact h v hP.1 hP.2.1 hP.2.2.1
              · exact absurd (show (3 : Int32) ≤ nI 3 from by decide) c58
            · skip
              obtain ⟨hR, hC, hF, hW⟩ := hP
              refine g_iload_n O 3 d_Re_comeTo_56 rfl rfl ?_
              refine g_iconst (v := 3) O d_Re_comeTo_57 (by decide) ?_
              refine g_icmp_ge  O 91 d_Re_comeTo_58 (by decide) (fun c58 => ?_) (fun c58 => ?_)
              · exact absurd c58 (nI_ge (b := 3) hj (by omega))
              · first | refine g_aload_n O 0 d_Re_comeTo_61 rfl rfl ?_ | refine g_aload_nq O 0 d_Re_comeTo_61 rfl rfl ?_
                first | refine g_aload_n O 0 d_Re_comeTo_62 rfl rfl ?_ | refine g_aload_nq O 0 d_Re_comeTo_62 rfl rfl ?_
                refine g_getS O c_Re 4 (by decide) rfl hR.top.2.2.2.2.2.2.2.2.1 lk_Re_22 d_Re_comeTo_63 hC.2.1 ?_
                refine g_getS O c_Do 1 (by decide) rfl (hR.d hd).2.1 lk_Re_40 d_Re_comeTo_66 (hR.d hd).2.2.1 ?_
                refine g_iload_n O 1 d_Re_comeTo_69 rfl rfl ?_
                refine g_aaldS O 4 rfl rfl (hR.d hd).2.2.2.1 (by rw [(hR.d hd).2.2.2.2.1]; exact ix_in hi (by omega)) d_Re_comeTo_70 (by rw [hcl]; exact (hR.o hd hi).1) ?_
                refine g_getS O c_Ob 1 (by decide) rfl (hR.o hd hi).2.1 lk_Re_44 d_Re_comeTo_71 (hR.o hd hi).2.2.2.1 ?_
                refine g_iload_n O 3 d_Re_comeTo_74 rfl rfl ?_
                refine g_aaldS O 5 rfl rfl (hR.o hd hi).2.2.2.2.1 (by rw [(hR.o hd hi).2.2.2.2.2]; exact ix_in hj (by omega)) d_Re_comeTo_75 (by rw [cl_nI (by omega)]; exact (hR.f hd hi hj).1) ?_
                refine g_getV O c_Fi 1 (by decide) rfl (hR.f hd hi hj).2.1 lk_Re_50 d_Re_comeTo_76 (hR.f hd hi hj).2.2.2.1 ?_
                refine g_iload_n O 2 d_Re_comeTo_79 rfl rfl ?_
                refine g_iconst (v := 1) O d_Re_comeTo_80 (by decide) ?_
                refine g_iadd O d_Re_comeTo_81 ?_
                rw [show nI (12 - (n + 1)) + 1 = nI (12 - n) from by rw [nI_1]; congr 1; omega]
                refine g_callv (N := (n + 1)) (mc := 0) (ms := 0) (av := [_, _]) O (Or.inl ⟨_, _, cw_Re_comeTo⟩) pl_Re (ci := 5) (q := q_Re) rfl hR.top.2.2.2.2.2.2.2.2.1 ml_Re_30 im_Re_comeTo se_Re_comeTo rfl d_Re_comeTo_82 rfl (by show n + 1 + 1 ≤ n + 1 + 1; omega) (by show 0 + (4 + 11) + 64 * (n + 1) ≤ 64 * (n + 1 + 1); omega) (Nat.le_of_ble_eq_true rfl) (Nat.le_of_ble_eq_true rfl) ?_
                refine IH hR hC hW (fun w2 hR2 hC2 hF2 => ?_)
                change cd_Go _ _ _ _ _ _ _ _ _ _
                first | refine g_iinc O d_Re_comeTo_85 rfl (ic1 _) ?_ | refine g_iinc O d_Re_comeTo_85 rfl rfl ?_
                refine g_goto O 56 d_Re_comeTo_88 (by decide) ?_
                exact ih _ ⟨hR2, hC2, hF.tr hF2, (come_ok n _ _ hW).1⟩
          exact loop 0 _ (by omega) ⟨hR3, hC3, hF3, hW.add hi hni⟩
        · rw [come_no (fun z => by rw [hcl] at z; exact z.2 (of_decide_eq_true (cd_b_ne.mp c23)))] at h
          refine g_ret O d_Re_comeTo_26 (Nat.le_of_ble_eq_true rfl) (Nat.le_of_ble_eq_true rfl) ?_
          exact h w hR hC cd_Fr.rf
set_option maxHeartbeats 4000000 in
set_option maxRecDepth 100000 in
theorem ct_Re_start {G : cd_Gl} {l : Launch} {w : cd_Wd} {Q : cd_Out → cd_Wd → Prop} {x : Nat} {A : cd_A} {σ : cd_S} (hR : cd_Rep w x A σ) {d : Nat} {o : Int32} (hd : d < sD σ) (h : ∀ w', cd_Rep w' x A σ → Rch w' A (come σ d 12 o []) d → cd_Fr w w' (cd_ow x A σ) → Q (.inl none) w') : cd_Ct G l y_Re_start 14 0 0 [.ref (A 9 0 0 0), .ref (A 1 d 0 0), .int o] w Q := by
  refine cd_ofW cw_Re_start (by simp [Value.category, cat_rf]) (Nat.le_of_ble_eq_true rfl) fun C O => ?_
  change cd_Go G l C _ 0 0 w 0 [some (.ref (A 9 0 0 0)), some (.ref (A 1 d 0 0)), some (.int o), none] []
  have loop : ∀ (j : Nat) (v : cd_Wd), j ≤ 12 → (cd_Rep v x A σ ∧ cd_I v 160 (A 9 0 0 0) 0 = 0 ∧ cd_O v 164 (A 9 0 0 0) 0 = some (A 1 d 0 0) ∧ (∀ y, y < j → cd_I v 1001 (A 12 0 0 0) y = 0) ∧ cd_Fr w v (cd_ow x A σ)) → cd_Go G l C (cd_MQ G (cx_s C) (cx_b C) 0 0 Q) (0) (0) v 12 [some (.ref (A 9 0 0 0)), some (.ref (A 1 d 0 0)), some (.int o), some (.int (nI j))] [] := by
    refine lp (12) (P := fun j v => cd_Rep v x A σ ∧ cd_I v 160 (A 9 0 0 0) 0 = 0 ∧ cd_O v 164 (A 9 0 0 0) 0 = some (A 1 d 0 0) ∧ (∀ y, y < j → cd_I v 1001 (A 12 0 0 0) y = 0) ∧ cd_Fr w v (cd_ow x A σ)) (g := fun j v => cd_Go G l C (cd_MQ G (cx_s C) (cx_b C) 0 0 Q) (0) (0) v 12 [some (.ref (A 9 0 0 0)), some (.ref (A 1 d 0 0)), some (.int o), some (.int (nI j))] []) (fun v hP => ?_) (fun j v hj hP ih => ?_)
    · skip
      refine g_iload_n O 3 d_Re_start_12 rfl rfl ?_
      refine g_bipush (v := 12) O d_Re_start_13 (by decide) ?_
      refine g_icmp_ge  O 31 d_Re_start_15 (by decide) (fun c15 => ?_) (fun c15 => ?_)
      · first | refine g_aload_n O 0 d_Re_start_31 rfl rfl ?_ | refine g_aload_nq O 0 d_Re_start_31 rfl rfl ?_
        refine g_iload_n O 2 d_Re_start_32 rfl rfl ?_
        refine g_iconst (v := 0) O d_Re_start_33 (by decide) ?_
        refine g_callv (N := 13) (mc := 0) (ms := 0) (av := [_, _]) O (Or.inl ⟨_, _, cw_Re_comeTo⟩) pl_Re (ci := 5) (q := q_Re) rfl hP.1.top.2.2.2.2.2.2.2.2.1 ml_Re_30 im_Re_comeTo se_Re_comeTo rfl d_Re_start_34 rfl (Nat.le_of_ble_eq_true rfl) (Nat.le_of_ble_eq_true rfl) (Nat.le_of_ble_eq_true rfl) (Nat.le_of_ble_eq_true rfl) ?_
        refine ct_Re_comeTo hd 12 (by omega) (acc := []) hP.1 ⟨hP.2.1, hP.2.2.1, fun i hi => absurd hi (Nat.not_lt_zero i), fun y hy => (hP.2.2.2.1 y hy).trans (by simp [cd_b])⟩ ⟨List.nodup_nil, fun y hy => by cases hy⟩ (fun w2 hR2 hC2 hF2 => ?_)
        change cd_Go _ _ _ _ _ _ _ _ _ _
        refine g_ret O d_Re_start_37 (Nat.le_of_ble_eq_true rfl) (Nat.le_of_ble_eq_true rfl) ?_
        exact h w2 hR2 hC2 (hP.2.2.2.2.tr hF2)
      · exact absurd (show (12 : Int32) ≤ nI 12 from by decide) c15
    · skip
      obtain ⟨hR, hP1, hP2, hP3, hF⟩ := hP
      refine g_iload_n O 3 d_Re_start_12 rfl rfl ?_
      refine g_bipush (v := 12) O d_Re_start_13 (by decide) ?_
      refine g_icmp_ge  O 31 d_Re_start_15 (by decide) (fun c15 => ?_) (fun c15 => ?_)
      · exact absurd c15 (nI_ge (b := 12) hj (by omega))
      · first | refine g_aload_n O 0 d_Re_start_18 rfl rfl ?_ | refine g_aload_nq O 0 d_Re_start_18 rfl rfl ?_
        refine g_getS O c_Re 3 (by decide) rfl hR.top.2.2.2.2.2.2.2.2.1 lk_Re_18 d_Re_start_19 hR.top.2.2.2.2.2.2.2.2.2.2.2.2.2.2.2.1 ?_
        refine g_iload_n O 3 d_Re_start_22 rfl rfl ?_
        refine g_iconst (v := 0) O d_Re_start_23 (by decide) ?_
        refine g_zast O 1 rfl rfl hR.top.2.2.2.2.2.2.2.2.2.2.2.2.2.2.2.2.1 (by rw [hR.top.2.2.2.2.2.2.2.2.2.2.2.2.2.2.2.2.2.1]; exact ix_in hj (by omega)) (by first | exact Or.inl rfl | exact Or.inr rfl | assumption) d_Re_start_24 ?_
        first | refine g_iinc O d_Re_start_25 rfl (ic1 _) ?_ | refine g_iinc O d_Re_start_25 rfl rfl ?_
        refine g_goto O 12 d_Re_start_28 (by decide) ?_
        refine ih _ ⟨rep_keepI hR (by decide), ?_, ?_, fun y hy => ?_, hF.tr (cd_Fr.wI (ow_at (k := 12) ⟨rfl, rfl, rfl⟩))⟩
        · rw [I_wI, if_neg (by simp)]; exact hP1
        · rw [O_wI]; exact hP2
        · rw [I_wI, cl_nI (by omega)]
          split
          · rfl
          · next e => exact hP3 y (by simp at e; omega)
  first | refine g_aload_n O 0 d_Re_start_0 rfl rfl ?_ | refine g_aload_nq O 0 d_Re_start_0 rfl rfl ?_
  first | refine g_aload_n O 1 d_Re_start_1 rfl rfl ?_ | refine g_aload_nq O 1 d_Re_start_1 rfl rfl ?_
  first | refine g_putS O c_Re 4 (by decide) rfl hR.top.2.2.2.2.2.2.2.2.1 (Or.inl rfl) lk_Re_22 d_Re_start_2 ?_ | refine g_putO O c_Re 4 (by decide) rfl hR.top.2.2.2.2.2.2.2.2.1 (Or.inl rfl) lk_Re_22 d_Re_start_2 ?_
  first | refine g_aload_n O 0 d_Re_start_5 rfl rfl ?_ | refine g_aload_nq O 0 d_Re_start_5 rfl rfl ?_
  refine g_iconst (v := 0) O d_Re_start_6 (by decide) ?_
  refine g_putI O c_Re 0 (by decide) rfl hR.top.2.2.2.2.2.2.2.2.1 (Or.inl rfl) (Or.inl rfl) lk_Re_26 d_Re_start_7 ?_
  refine g_iconst (v := 0) O d_Re_start_10 (by decide) ?_
  refine g_istore_n O 3 d_Re_start_11 rfl (Nat.le_of_ble_eq_true rfl) ?_
  refine loop 0 _ (by omega) ⟨rep_keepI (rep_keepO hR (by decide)) (by decide), ?_, ?_, fun y hy => absurd hy (Nat.not_lt_zero y), (cd_Fr.wO (ow_at (k := 9) ⟨rfl, rfl, rfl⟩)).tr (cd_Fr.wI (ow_at (k := 9) ⟨rfl, rfl, rfl⟩))⟩
  · rw [I_wI, if_pos ⟨rfl, rfl, rfl⟩]
  · rw [O_wI, O_wO, if_pos ⟨rfl, rfl, rfl⟩]
theorem cp1_DC (d h : Nat) (cn : Nat → Nat) (s c : Nat) (τ : cd_S) (n : Nat) : sDC τ (itr (cp1 d h cn s c) τ n) := itr_inv (s := cp1 d h cn s c) (fun q => sDC τ q) ⟨rfl, rfl⟩ (fun _ _ z => z) n
theorem cp1_F (d h : Nat) (cn : Nat → Nat) (s c : Nat) (τ : cd_S) (n d' o' f' : Nat) (hne : ¬ (d' = h ∧ o' = c)) : sF (itr (cp1 d h cn s c) τ n) d' o' f' = sF τ d' o' f' := by
  refine itr_inv (s := cp1 d h cn s c) (a := τ) (fun q => sF q d' o' f' = sF τ d' o' f') rfl (fun q j hq => ?_) n
  rw [cp1, sF_setF, if_neg (fun z => hne ⟨z.1, z.2.1⟩)]
  exact hq
theorem cp1_T (d h : Nat) (cn : Nat → Nat) (s c : Nat) (τ : cd_S) (n d' o' : Nat) : sT (itr (cp1 d h cn s c) τ n) d' o' = sT τ d' o' := itr_inv (s := cp1 d h cn s c) (fun q => sT q d' o' = sT τ d' o') rfl (fun _ _ z => z) n
theorem cpF_l {cn : Nat → Nat} {v : Int32} {z : Nat} {cp : Option Nat} : cpF cn (v, some z, cp) = (0, some (cn z), none) := rfl
theorem cpF_c {cn : Nat → Nat} {v : Int32} {c : Nat} : cpF cn (v, none, some c) = (0, none, some c) := rfl
theorem cpF_n {cn : Nat → Nat} {v : Int32} : cpF cn (v, none, none) = (v, none, none) := rfl
set_option maxHeartbeats 4000000 in
set_option maxRecDepth 100000 in
theorem ct_Re_copyFields {G : cd_Gl} {l : Launch} {w : cd_Wd} {Q : cd_Out → cd_Wd → Prop} {x : Nat} {A : cd_A} {σ : cd_S} (hR : cd_Rep w x A σ) {d s h' c : Nat} {cn : Nat → Nat} (hd : d < sD σ) (hs : s < 12) (hh : h' < sD σ) (hc : c < 12) (hne : ¬ (d = h' ∧ s = c)) (hcn : ∀ f t, f < 3 → (sF σ d s f).2.1 = some t → cn t < 12 ∧ cd_I w 1000 (A 10 0 0 0) t = nI (cn t)) (h : ∀ w', cd_Rep w' x A (itr (cp1 d h' cn s c) σ 3) → cd_Fr w w' (cpW A h') → Q (.inl none) w') : cd_Ct G l y_Re_copyFields 1 0 0 [.ref (A 9 0 0 0), .ref (A 4 d s 0), .ref (A 4 h' c 0)] w Q := by
  refine cd_ofW cw_Re_copyFields (by simp [Value.category, cat_rf]) (Nat.le_of_ble_eq_true rfl) fun C O => ?_
  change cd_Go G l C _ 0 0 w 0 [some (.ref (A 9 0 0 0)), some (.ref (A 4 d s 0)), some (.ref (A 4 h' c 0)), none, none] []
  have loop : ∀ (j : Nat) (v : cd_Wd), j ≤ 3 → (cd_Rep v x A (itr (cp1 d h' cn s c) σ j) ∧ cd_Fr w v (cpW A h')) → cd_Go G l C (cd_MQ G (cx_s C) (cx_b C) 0 0 Q) (0) (0) v 2 [some (.ref (A 9 0 0 0)), some (.ref (A 4 d s 0)), some (.ref (A 4 h' c 0)), some (.int (nI j)), none] [] := by
    refine lp (3) (P := fun j v => cd_Rep v x A (itr (cp1 d h' cn s c) σ j) ∧ cd_Fr w v (cpW A h')) (g := fun j v => cd_Go G l C (cd_MQ G (cx_s C) (cx_b C) 0 0 Q) (0) (0) v 2 [some (.ref (A 9 0 0 0)), some (.ref (A 4 d s 0)), some (.ref (A 4 h' c 0)), some (.int (nI j)), none] []) (fun v hP => ?_) (fun j v hj hP ih => ?_)
    · skip
      refine g_iload_n O 3 d_Re_copyFields_2 rfl rfl ?_
      refine g_iconst (v := 3) O d_Re_copyFields_3 (by decide) ?_
      refine g_icmp_ge  O 90 d_Re_copyFields_4 (by decide) (fun c4 => ?_) (fun c4 => ?_)
      · refine g_ret O d_Re_copyFields_90 (Nat.le_of_ble_eq_true rfl) (Nat.le_of_ble_eq_true rfl) ?_
        exact h v hP.1 hP.2
      · exact absurd (show (3 : Int32) ≤ nI 3 from by decide) c4
    · skip
      obtain ⟨hR0, hF⟩ := hP
      have hR' := hR0
      have hDC := cp1_DC d h' cn s c σ j
      have hd1 : d < sD (itr (cp1 d h' cn s c) σ j) := by rw [hDC.1]; exact hd
      have hh1 : h' < sD (itr (cp1 d h' cn s c) σ j) := by rw [hDC.1]; exact hh
      have eF := cp1_F d h' cn s c σ j d s j hne
      have hcn := fun t => hcn j t hj
      have qs := hR'.f hd1 hs hj
      have qd := hR'.f hh1 hc hj
      have hlk := fun z => hR'.wf.2.2.1 d s j z hd1 hs hj
      have hcw := fun z => hR'.wf.2.1 d s j z hd1 hs hj
      have e1 : itr (cp1 d h' cn s c) σ (j + 1) = setF (itr (cp1 d h' cn s c) σ j) h' c j (cpF cn (sF (itr (cp1 d h' cn s c) σ j) d s j)) := rfl
      rw [eF] at qs hlk hcw e1
      have h10 : ∀ i, cd_I v 1000 (A 10 0 0 0) i = cd_I w 1000 (A 10 0 0 0) i := fun i => hF.I (rep_ex hR (k := 10) ⟨rfl, rfl, rfl⟩) (cpW_no hR hh (k := 10) ⟨rfl, rfl, rfl⟩ (by omega)) _ _
      simp only [← h10] at hcn
      generalize sF σ d s j = tt at qs hlk hcw e1 hcn
      obtain ⟨nm, lk, cp⟩ := tt
      simp only at qs hlk hcw hcn
      have hR := hR'
      refine g_iload_n O 3 d_Re_copyFields_2 rfl rfl ?_
      refine g_iconst (v := 3) O d_Re_copyFields_3 (by decide) ?_
      refine g_icmp_ge  O 90 d_Re_copyFields_4 (by decide) (fun c4 => ?_) (fun c4 => ?_)
      · exact absurd c4 (nI_ge (b := 3) hj (by omega))
      · first | refine g_aload_n O 1 d_Re_copyFields_7 rfl rfl ?_ | refine g_aload_nq O 1 d_Re_copyFields_7 rfl rfl ?_
        refine g_getS O c_Ob 1 (by decide) rfl (hR.o hd1 hs).2.1 lk_Re_44 d_Re_copyFields_8 (hR.o hd1 hs).2.2.2.1 ?_
        refine g_iload_n O 3 d_Re_copyFields_11 rfl rfl ?_
        refine g_aaldS O 5 rfl rfl (hR.o hd1 hs).2.2.2.2.1 (by rw [(hR.o hd1 hs).2.2.2.2.2]; exact ix_in hj (by omega)) d_Re_copyFields_12 (by rw [cl_nI (by omega)]; exact (hR.f hd1 hs hj).1) ?_
        first | refine g_astore O d_Re_copyFields_13 (Nat.le_of_ble_eq_true rfl) ?_ | refine g_astoreq O d_Re_copyFields_13 (Nat.le_of_ble_eq_true rfl) ?_
        first | refine g_aload O d_Re_copyFields_15 rfl ?_ | refine g_aloadq O d_Re_copyFields_15 rfl ?_
        refine g_callv (N := 0) (mc := 0) (ms := 0) (av := []) O (Or.inl ⟨_, _, cw_Fi_isLink⟩) pl_Fi (ci := 3) (q := q_Fi) rfl qs.2.1 ml_Re_63 im_Fi_isLink se_Fi_isLink rfl d_Re_copyFields_17 rfl (Nat.le_of_ble_eq_true rfl) (Nat.le_of_ble_eq_true rfl) (Nat.le_of_ble_eq_true rfl) (Nat.le_of_ble_eq_true rfl) ?_
        refine ct_Fi_isLink qs.2.1 ?_
        rw [qs.2.2.2.1]
        change cd_Go _ _ _ _ _ _ _ _ _ _
        refine g_if_eq  O 45 d_Re_copyFields_20 (by decide) (fun c20 => ?_) (fun c20 => ?_)
        · have hz : lk = none := by cases lk with
            | none => rfl
            | some z => exact absurd c20 (by simp only [cd_bi]; rw [if_pos (fun e => by have := (cd_l_eq hlk).mp e; cases this)]; decide)
          subst hz
          first | refine g_aload O d_Re_copyFields_45 rfl ?_ | refine g_aloadq O d_Re_copyFields_45 rfl ?_
          refine g_getOV O c_Fi 2 (by decide) rfl qs.2.1 lk_Re_71 d_Re_copyFields_47 qs.2.2.2.2 ?_
          refine g_ifnull O 70 d_Re_copyFields_50 (by decide) (fun c50 => ?_) (fun x50 c50 => ?_)
          · have hz : cp = none := by cases cp with
              | none => rfl
              | some z => cases c50
            subst hz
            rw [cpF_n] at e1
            first | refine g_aload_n O 2 d_Re_copyFields_70 rfl rfl ?_ | refine g_aload_nq O 2 d_Re_copyFields_70 rfl rfl ?_
            refine g_getS O c_Ob 1 (by decide) rfl (hR.o hh1 hc).2.1 lk_Re_44 d_Re_copyFields_71 (hR.o hh1 hc).2.2.2.1 ?_
            refine g_iload_n O 3 d_Re_copyFields_74 rfl rfl ?_
            refine g_aaldS O 5 rfl rfl (hR.o hh1 hc).2.2.2.2.1 (by rw [(hR.o hh1 hc).2.2.2.2.2]; exact ix_in hj (by omega)) d_Re_copyFields_75 (by rw [cl_nI (by omega)]; exact qd.1) ?_
            first | refine g_aload O d_Re_copyFields_76 rfl ?_ | refine g_aloadq O d_Re_copyFields_76 rfl ?_
            refine g_getV O c_Fi 0 (by decide) rfl qs.2.1 lk_Re_79 d_Re_copyFields_78 qs.2.2.1 ?_
            refine g_callv (N := 0) (mc := 0) (ms := 0) (av := [_]) O (Or.inl ⟨_, _, cw_Fi_becomeNumber⟩) pl_Fi (ci := 3) (q := q_Fi) rfl qd.2.1 ml_Re_82 im_Fi_becomeNumber se_Fi_becomeNumber rfl d_Re_copyFields_81 rfl (Nat.le_of_ble_eq_true rfl) (Nat.le_of_ble_eq_true rfl) (Nat.le_of_ble_eq_true rfl) (Nat.le_of_ble_eq_true rfl) ?_
            refine ct_Fi_becomeNumber qd.2.1 ?_
            have hw9 := rep_fN hR hh1 hc hj nm
            change cd_Go _ _ _ _ _ _ _ _ _ _
            refine g_fg 4 ?_
            rw [← e1] at hw9
            first | refine g_iinc O d_Re_copyFields_84 rfl (ic1 _) ?_ | refine g_iinc O d_Re_copyFields_84 rfl rfl ?_
            refine g_goto O 2 d_Re_copyFields_87 (by decide) ?_
            exact ih _ ⟨hw9, hF.tr (by first | exact fr_fL (Or.inr ⟨c, j, hc, hj, rfl⟩) | exact fr_fC (Or.inr ⟨c, j, hc, hj, rfl⟩) | exact fr_fN (Or.inr ⟨c, j, hc, hj, rfl⟩))⟩
          · obtain ⟨z, hz⟩ : ∃ z, cp = some z := by cases cp with
              | none => cases c50
              | some z => exact ⟨z, rfl⟩
            subst hz
            rw [cpF_c] at e1
            have hzc : z < sC (itr (cp1 d h' cn s c) σ j) := hcw z rfl
            first | refine g_aload_n O 2 d_Re_copyFields_53 rfl rfl ?_ | refine g_aload_nq O 2 d_Re_copyFields_53 rfl rfl ?_
            refine g_getS O c_Ob 1 (by decide) rfl (hR.o hh1 hc).2.1 lk_Re_44 d_Re_copyFields_54 (hR.o hh1 hc).2.2.2.1 ?_
            refine g_iload_n O 3 d_Re_copyFields_57 rfl rfl ?_
            refine g_aaldS O 5 rfl rfl (hR.o hh1 hc).2.2.2.2.1 (by rw [(hR.o hh1 hc).2.2.2.2.2]; exact ix_in hj (by omega)) d_Re_copyFields_58 (by rw [cl_nI (by omega)]; exact qd.1) ?_
            first | refine g_aload O d_Re_copyFields_59 rfl ?_ | refine g_aloadq O d_Re_copyFields_59 rfl ?_
            refine g_getS O c_Fi 2 (by decide) rfl qs.2.1 lk_Re_71 d_Re_copyFields_61 (show cd_O v 98 _ 0 = some (A 8 z 0 0) from qs.2.2.2.2) ?_
            refine g_callv (N := 0) (mc := 0) (ms := 0) (av := [_]) O (Or.inl ⟨_, _, cw_Fi_becomeCapability⟩) pl_Fi (ci := 3) (q := q_Fi) rfl qd.2.1 ml_Re_75 im_Fi_becomeCapability se_Fi_becomeCapability rfl d_Re_copyFields_64 rfl (Nat.le_of_ble_eq_true rfl) (Nat.le_of_ble_eq_true rfl) (Nat.le_of_ble_eq_true rfl) (Nat.le_of_ble_eq_true rfl) ?_
            refine ct_Fi_becomeCapability qd.2.1 ?_
            have hw9 := rep_fC hR hh1 hc hj hzc
            change cd_Go _ _ _ _ _ _ _ _ _ _
            refine g_goto O 84 d_Re_copyFields_67 (by decide) ?_
            refine g_fg 4 ?_
            rw [← e1] at hw9
            first | refine g_iinc O d_Re_copyFields_84 rfl (ic1 _) ?_ | refine g_iinc O d_Re_copyFields_84 rfl rfl ?_
            refine g_goto O 2 d_Re_copyFields_87 (by decide) ?_
            exact ih _ ⟨hw9, hF.tr (by first | exact fr_fL (Or.inr ⟨c, j, hc, hj, rfl⟩) | exact fr_fC (Or.inr ⟨c, j, hc, hj, rfl⟩) | exact fr_fN (Or.inr ⟨c, j, hc, hj, rfl⟩))⟩
        · obtain ⟨z, hz⟩ : ∃ z, lk = some z := by cases lk with
            | none => exact absurd (by simp [cd_bi, cd_l]) c20
            | some z => exact ⟨z, rfl⟩
          subst hz
          obtain ⟨hz12, hzI⟩ := hcn z rfl
          have hzl : z < 12 := hlk z rfl
          rw [cpF_l] at e1
          first | refine g_aload_n O 2 d_Re_copyFields_23 rfl rfl ?_ | refine g_aload_nq O 2 d_Re_copyFields_23 rfl rfl ?_
          refine g_getS O c_Ob 1 (by decide) rfl (hR.o hh1 hc).2.1 lk_Re_44 d_Re_copyFields_24 (hR.o hh1 hc).2.2.2.1 ?_
          refine g_iload_n O 3 d_Re_copyFields_27 rfl rfl ?_
          refine g_aaldS O 5 rfl rfl (hR.o hh1 hc).2.2.2.2.1 (by rw [(hR.o hh1 hc).2.2.2.2.2]; exact ix_in hj (by omega)) d_Re_copyFields_28 (by rw [cl_nI (by omega)]; exact qd.1) ?_
          first | refine g_aload_n O 0 d_Re_copyFields_29 rfl rfl ?_ | refine g_aload_nq O 0 d_Re_copyFields_29 rfl rfl ?_
          refine g_getS O c_Re 1 (by decide) rfl hR.top.2.2.2.2.2.2.2.2.1 lk_Re_9 d_Re_copyFields_30 hR.top.2.2.2.2.2.2.2.2.2.1 ?_
          first | refine g_aload O d_Re_copyFields_33 rfl ?_ | refine g_aloadq O d_Re_copyFields_33 rfl ?_
          refine g_getV O c_Fi 1 (by decide) rfl qs.2.1 lk_Re_50 d_Re_copyFields_35 (show cd_I v 97 _ 0 = nI z from qs.2.2.2.1) ?_
          refine g_ialdV O 0 rfl rfl hR.top.2.2.2.2.2.2.2.2.2.2.1 (by rw [hR.top.2.2.2.2.2.2.2.2.2.2.2.1]; exact ix_in hzl (by omega)) d_Re_copyFields_38 (show cd_I v (1000 + 0) (A 10 0 0 0) (nI z).toNatClampNeg = nI (cn z) from by rw [cl_nI (by omega)]; exact hzI) ?_
          refine g_callv (N := 0) (mc := 0) (ms := 0) (av := [_]) O (Or.inl ⟨_, _, cw_Fi_becomeLink⟩) pl_Fi (ci := 3) (q := q_Fi) rfl qd.2.1 ml_Re_67 im_Fi_becomeLink se_Fi_becomeLink rfl d_Re_copyFields_39 rfl (Nat.le_of_ble_eq_true rfl) (Nat.le_of_ble_eq_true rfl) (Nat.le_of_ble_eq_true rfl) (Nat.le_of_ble_eq_true rfl) ?_
          refine ct_Fi_becomeLink qd.2.1 ?_
          have hw9 := rep_fL hR hh1 hc hj hz12
          change cd_Go _ _ _ _ _ _ _ _ _ _
          refine g_goto O 84 d_Re_copyFields_42 (by decide) ?_
          refine g_fg 4 ?_
          rw [← e1] at hw9
          first | refine g_iinc O d_Re_copyFields_84 rfl (ic1 _) ?_ | refine g_iinc O d_Re_copyFields_84 rfl rfl ?_
          refine g_goto O 2 d_Re_copyFields_87 (by decide) ?_
          exact ih _ ⟨hw9, hF.tr (by first | exact fr_fL (Or.inr ⟨c, j, hc, hj, rfl⟩) | exact fr_fC (Or.inr ⟨c, j, hc, hj, rfl⟩) | exact fr_fN (Or.inr ⟨c, j, hc, hj, rfl⟩))⟩
  refine g_iconst (v := 0) O d_Re_copyFields_0 (by decide) ?_
  refine g_istore_n O 3 d_Re_copyFields_1 rfl (Nat.le_of_ble_eq_true rfl) ?_
  exact loop 0 _ (by omega) ⟨hR, cd_Fr.rf⟩
theorem gD {L : List Nat} {i : Nat} (h : i < L.length) : L.getD i 0 ∈ L := by
  rw [List.getD_eq_getElem?_getD, List.getElem?_eq_getElem h]
  exact List.getElem_mem h
theorem gD_of {L : List Nat} {y : Nat} (h : y ∈ L) : ∃ i, i < L.length ∧ L.getD i 0 = y := by
  obtain ⟨i, hi, e⟩ := List.getElem_of_mem h
  exact ⟨i, hi, by rw [List.getD_eq_getElem?_getD, List.getElem?_eq_getElem hi]; exact e⟩
theorem cpA_F {σ τ : cd_S} {d h : Nat} {L : List Nat} {cn : Nat → Nat} (hf : ∀ k, k < L.length → sT σ h (cn (L.getD k 0)) = false) {n : Nat} (hn : n ≤ L.length) {d' o' f' : Nat} (ht : sT σ d' o' = true) : sF (cpA d h L cn τ n) d' o' f' = sF τ d' o' f' := by
  refine itr_invL (s := cpO d h L cn) (a := τ) L.length (fun _ q => sF q d' o' f' = sF τ d' o' f') rfl (fun q j hj hq => ?_) n hn
  rw [cpO, cp1_F _ _ _ _ _ _ _ _ _ _ (fun z => by
    obtain ⟨rfl, rfl⟩ := z
    rw [hf j hj] at ht; cases ht)]
  exact hq
theorem cpA_DC (d h : Nat) (L : List Nat) (cn : Nat → Nat) (τ : cd_S) (n : Nat) : sDC τ (cpA d h L cn τ n) := itr_inv (s := cpO d h L cn) (fun q => sDC τ q) ⟨rfl, rfl⟩ (fun q j z => z.tr (cp1_DC _ _ _ _ _ _ _)) n
set_option maxHeartbeats 4000000 in
set_option maxRecDepth 100000 in
theorem ct_Re_copyInto {G : cd_Gl} {l : Launch} {w : cd_Wd} {Q : cd_Out → cd_Wd → Prop} {x : Nat} {A : cd_A} {σ : cd_S} (hR : cd_Rep w x A σ) {d h' : Nat} {L : List Nat} (hd : d < sD σ) (hh : h' < sD σ) (hC : Rch w A L d) (hW : WfA L) (hth : ∀ y ∈ L, sT σ d y = true) (hcl : ∀ y ∈ L, ∀ f t, f < 3 → (sF σ d y f).2.1 = some t → t ∈ L) (hcnt : cnt (sT σ h') 12 + L.length ≤ 12) (h : ∀ w', cd_Rep w' x A (cpA d h' L (mkA σ h' L L.length).2 (mkA σ h' L L.length).1 L.length) → Rch w' A L d → (∀ y ∈ L, cd_I w' 1000 (A 10 0 0 0) y = nI ((mkA σ h' L L.length).2 y)) → cd_Fr w w' (fun y => cpW A h' y ∨ y = A 10 0 0 0) → Q (.inl none) w') : cd_Ct G l y_Re_copyInto 3 0 0 [.ref (A 9 0 0 0), .ref (A 1 h' 0 0)] w Q := by
  refine cd_ofW cw_Re_copyInto (by simp [Value.category, cat_rf]) (Nat.le_of_ble_eq_true rfl) fun C O => ?_
  change cd_Go G l C _ 0 0 w 0 [some (.ref (A 9 0 0 0)), some (.ref (A 1 h' 0 0)), none] []
  have hL12 : L.length ≤ 12 := by omega
  have mok := mkA_ok (σ := σ) (h := h') hW.1 hcnt
  have no : ∀ kk, 7 ≤ kk → ¬ kk = 10 → cd_va σ kk 0 0 0 → ¬ (cpW A h' (A kk 0 0 0) ∨ A kk 0 0 0 = A 10 0 0 0) := by
    rintro kk h7 hk hv (z | z)
    · exact cpW_no hR hh hv h7 z
    · exact hk (hR.i kk 0 0 0 10 0 0 0 hv ⟨rfl, rfl, rfl⟩ z).1
  have RF : ∀ v, cd_Fr w v (fun y => cpW A h' y ∨ y = A 10 0 0 0) → Rch v A L d := fun v hF => hC.fr hR hF (no 9 (by omega) (by omega) ⟨rfl, rfl, rfl⟩) (no 11 (by omega) (by omega) ⟨rfl, rfl, rfl⟩) (no 12 (by omega) (by omega) ⟨rfl, rfl, rfl⟩)
  have hex10 : cd_kd w (A 10 0 0 0) ≠ 0 := rep_ex hR (k := 10) ⟨rfl, rfl, rfl⟩
  have loop2 : ∀ (j : Nat) (v : cd_Wd), j ≤ L.length → (cd_Rep v x A (cpA d h' L (mkA σ h' L L.length).2 (mkA σ h' L L.length).1 j) ∧ cd_Fr w v (fun y => cpW A h' y ∨ y = A 10 0 0 0) ∧ ∀ y ∈ L, cd_I v 1000 (A 10 0 0 0) y = nI ((mkA σ h' L L.length).2 y)) → cd_Go G l C (cd_MQ G (cx_s C) (cx_b C) 0 0 Q) (0) (0) v 33 [some (.ref (A 9 0 0 0)), some (.ref (A 1 h' 0 0)), some (.int (nI j))] [] := by
    refine lp (L.length) (P := fun j v => cd_Rep v x A (cpA d h' L (mkA σ h' L L.length).2 (mkA σ h' L L.length).1 j) ∧ cd_Fr w v (fun y => cpW A h' y ∨ y = A 10 0 0 0) ∧ ∀ y ∈ L, cd_I v 1000 (A 10 0 0 0) y = nI ((mkA σ h' L L.length).2 y)) (g := fun j v => cd_Go G l C (cd_MQ G (cx_s C) (cx_b C) 0 0 Q) (0) (0) v 33 [some (.ref (A 9 0 0 0)), some (.ref (A 1 h' 0 0)), some (.int (nI j))] []) (fun v hP => ?_) (fun j v hj hP ih => ?_)
    · skip
      refine g_iload_n O 2 d_Re_copyInto_33 rfl rfl ?_
      first | refine g_aload_n O 0 d_Re_copyInto_34 rfl rfl ?_ | refine g_aload_nq O 0 d_Re_copyInto_34 rfl rfl ?_
      refine g_getV O c_Re 0 (by decide) rfl hP.1.top.2.2.2.2.2.2.2.2.1 lk_Re_26 d_Re_copyInto_35 (RF v hP.2.1).1 ?_
      refine g_icmp_ge  O 81 d_Re_copyInto_38 (by decide) (fun c38 => ?_) (fun c38 => ?_)
      · refine g_ret O d_Re_copyInto_81 (Nat.le_of_ble_eq_true rfl) (Nat.le_of_ble_eq_true rfl) ?_
        exact h v hP.1 (RF v hP.2.1) hP.2.2 hP.2.1
      · exact absurd (Int32.le_refl _) c38
    · skip
      obtain ⟨hR, hF, hcn⟩ := hP
      have hC := RF v hF
      have hDC := ((mok L.length (Nat.le_refl _)).1).tr (cpA_DC d h' L (mkA σ h' L L.length).2 (mkA σ h' L L.length).1 j)
      have hd1 : d < sD (cpA d h' L (mkA σ h' L L.length).2 (mkA σ h' L L.length).1 j) := by rw [hDC.1]; exact hd
      have hh1 : h' < sD (cpA d h' L (mkA σ h' L L.length).2 (mkA σ h' L L.length).1 j) := by rw [hDC.1]; exact hh
      have hL : (L.getD j 0) < 12 := hW.2 _ (gD hj)
      have hcj := (mok L.length (Nat.le_refl _)).2.2.2.2 j hj
      have hne : ¬ (d = h' ∧ (L.getD j 0) = (mkA σ h' L L.length).2 (L.getD j 0)) := fun z => by
        obtain ⟨rfl, z⟩ := z
        have h1 := hth _ (gD hj)
        rw [z, hcj.2.1] at h1; cases h1
      have eF : ∀ y ∈ L, ∀ f, sF (cpA d h' L (mkA σ h' L L.length).2 (mkA σ h' L L.length).1 j) d y f = sF σ d y f := fun y hy f => (cpA_F (fun k hk => ((mok L.length (Nat.le_refl _)).2.2.2.2 k hk).2.1) (by omega) (hth y hy)).trans (((mok L.length (Nat.le_refl _)).2.2.1 d y (hth y hy)).2 f)
      refine g_iload_n O 2 d_Re_copyInto_33 rfl rfl ?_
      first | refine g_aload_n O 0 d_Re_copyInto_34 rfl rfl ?_ | refine g_aload_nq O 0 d_Re_copyInto_34 rfl rfl ?_
      refine g_getV O c_Re 0 (by decide) rfl hR.top.2.2.2.2.2.2.2.2.1 lk_Re_26 d_Re_copyInto_35 hC.1 ?_
      refine g_icmp_ge  O 81 d_Re_copyInto_38 (by decide) (fun c38 => ?_) (fun c38 => ?_)
      · exact absurd c38 (nI_ge (b := L.length) hj (by omega))
      · first | refine g_aload_n O 0 d_Re_copyInto_41 rfl rfl ?_ | refine g_aload_nq O 0 d_Re_copyInto_41 rfl rfl ?_
        first | refine g_aload_n O 0 d_Re_copyInto_42 rfl rfl ?_ | refine g_aload_nq O 0 d_Re_copyInto_42 rfl rfl ?_
        refine g_getS O c_Re 4 (by decide) rfl hR.top.2.2.2.2.2.2.2.2.1 lk_Re_22 d_Re_copyInto_43 hC.2.1 ?_
        refine g_getS O c_Do 1 (by decide) rfl (hR.d hd1).2.1 lk_Re_40 d_Re_copyInto_46 (hR.d hd1).2.2.1 ?_
        first | refine g_aload_n O 0 d_Re_copyInto_49 rfl rfl ?_ | refine g_aload_nq O 0 d_Re_copyInto_49 rfl rfl ?_
        refine g_getS O c_Re 2 (by decide) rfl hR.top.2.2.2.2.2.2.2.2.1 lk_Re_15 d_Re_copyInto_50 hR.top.2.2.2.2.2.2.2.2.2.2.2.2.1 ?_
        refine g_iload_n O 2 d_Re_copyInto_53 rfl rfl ?_
        refine g_ialdV O 0 rfl rfl hR.top.2.2.2.2.2.2.2.2.2.2.2.2.2.1 (by rw [hR.top.2.2.2.2.2.2.2.2.2.2.2.2.2.2.1]; exact ix_in (show j < 12 by omega) (by omega)) d_Re_copyInto_54 (show cd_I _ (1000 + 0) (A 11 0 0 0) (nI j).toNatClampNeg = nI (L.getD j 0) from by rw [cl_nI (by omega)]; exact hC.2.2.1 j hj) ?_
        refine g_aaldS O 4 rfl rfl (hR.d hd1).2.2.2.1 (by rw [(hR.d hd1).2.2.2.2.1]; exact ix_in hL (by omega)) d_Re_copyInto_55 (by rw [cl_nI (by omega)]; exact (hR.o hd1 hL).1) ?_
        first | refine g_aload_n O 1 d_Re_copyInto_56 rfl rfl ?_ | refine g_aload_nq O 1 d_Re_copyInto_56 rfl rfl ?_
        refine g_getS O c_Do 1 (by decide) rfl (hR.d hh1).2.1 lk_Re_40 d_Re_copyInto_57 (hR.d hh1).2.2.1 ?_
        first | refine g_aload_n O 0 d_Re_copyInto_60 rfl rfl ?_ | refine g_aload_nq O 0 d_Re_copyInto_60 rfl rfl ?_
        refine g_getS O c_Re 1 (by decide) rfl hR.top.2.2.2.2.2.2.2.2.1 lk_Re_9 d_Re_copyInto_61 hR.top.2.2.2.2.2.2.2.2.2.1 ?_
        first | refine g_aload_n O 0 d_Re_copyInto_64 rfl rfl ?_ | refine g_aload_nq O 0 d_Re_copyInto_64 rfl rfl ?_
        refine g_getS O c_Re 2 (by decide) rfl hR.top.2.2.2.2.2.2.2.2.1 lk_Re_15 d_Re_copyInto_65 hR.top.2.2.2.2.2.2.2.2.2.2.2.2.1 ?_
        refine g_iload_n O 2 d_Re_copyInto_68 rfl rfl ?_
        refine g_ialdV O 0 rfl rfl hR.top.2.2.2.2.2.2.2.2.2.2.2.2.2.1 (by rw [hR.top.2.2.2.2.2.2.2.2.2.2.2.2.2.2.1]; exact ix_in (show j < 12 by omega) (by omega)) d_Re_copyInto_69 (show cd_I _ (1000 + 0) (A 11 0 0 0) (nI j).toNatClampNeg = nI (L.getD j 0) from by rw [cl_nI (by omega)]; exact hC.2.2.1 j hj) ?_
        refine g_ialdV O 0 rfl rfl hR.top.2.2.2.2.2.2.2.2.2.2.1 (by rw [hR.top.2.2.2.2.2.2.2.2.2.2.2.1]; exact ix_in hL (by omega)) d_Re_copyInto_70 (show cd_I _ (1000 + 0) (A 10 0 0 0) (nI (L.getD j 0)).toNatClampNeg = nI ((mkA σ h' L L.length).2 (L.getD j 0)) from by rw [cl_nI (by omega)]; exact hcn _ (gD hj)) ?_
        refine g_aaldS O 4 rfl rfl (hR.d hh1).2.2.2.1 (by rw [(hR.d hh1).2.2.2.2.1]; exact ix_in hcj.1 (by omega)) d_Re_copyInto_71 (by rw [cl_nI (by omega)]; exact (hR.o hh1 hcj.1).1) ?_
        refine g_callv (N := 1) (mc := 0) (ms := 0) (av := [_, _]) O (Or.inl ⟨_, _, cw_Re_copyFields⟩) pl_Re (ci := 5) (q := q_Re) rfl hR.top.2.2.2.2.2.2.2.2.1 ml_Re_59 im_Re_copyFields se_Re_copyFields rfl d_Re_copyInto_72 rfl (Nat.le_of_ble_eq_true rfl) (Nat.le_of_ble_eq_true rfl) (Nat.le_of_ble_eq_true rfl) (Nat.le_of_ble_eq_true rfl) ?_
        refine ct_Re_copyFields (cn := (mkA σ h' L L.length).2) hR hd1 hL hh1 hcj.1 hne (fun f t hf ht => ?_) (fun w2 hR2 hF2 => ?_)
        · rw [eF _ (gD hj) f] at ht
          have htL := hcl _ (gD hj) f t hf ht
          obtain ⟨i, hi, ei⟩ := gD_of htL
          have := (mok L.length (Nat.le_refl _)).2.2.2.2 i hi
          rw [ei] at this
          exact ⟨this.1, hcn t htL⟩
        change cd_Go _ _ _ _ _ _ _ _ _ _
        first | refine g_iinc O d_Re_copyInto_75 rfl (ic1 _) ?_ | refine g_iinc O d_Re_copyInto_75 rfl rfl ?_
        refine g_goto O 33 d_Re_copyInto_78 (by decide) ?_
        exact ih w2 ⟨hR2, hF.tr (hF2.up fun _ _ z => Or.inl z), fun y hy => (hF2.I (rep_ex hR (k := 10) ⟨rfl, rfl, rfl⟩) (cpW_no hR hh1 (k := 10) ⟨rfl, rfl, rfl⟩ (by omega)) _ _).trans (hcn y hy)⟩
  have loop : ∀ (j : Nat) (v : cd_Wd), j ≤ L.length → (cd_Rep v x A (mkA σ h' L j).1 ∧ cd_Fr w v (fun y => cpW A h' y ∨ y = A 10 0 0 0) ∧ ∀ i, i < j → cd_I v 1000 (A 10 0 0 0) (L.getD i 0) = nI ((mkA σ h' L j).2 (L.getD i 0))) → cd_Go G l C (cd_MQ G (cx_s C) (cx_b C) 0 0 Q) (0) (0) v 2 [some (.ref (A 9 0 0 0)), some (.ref (A 1 h' 0 0)), some (.int (nI j))] [] := by
    refine lp (L.length) (P := fun j v => cd_Rep v x A (mkA σ h' L j).1 ∧ cd_Fr w v (fun y => cpW A h' y ∨ y = A 10 0 0 0) ∧ ∀ i, i < j → cd_I v 1000 (A 10 0 0 0) (L.getD i 0) = nI ((mkA σ h' L j).2 (L.getD i 0))) (g := fun j v => cd_Go G l C (cd_MQ G (cx_s C) (cx_b C) 0 0 Q) (0) (0) v 2 [some (.ref (A 9 0 0 0)), some (.ref (A 1 h' 0 0)), some (.int (nI j))] []) (fun v hP => ?_) (fun j v hj hP ih => ?_)
    · skip
      refine g_iload_n O 2 d_Re_copyInto_2 rfl rfl ?_
      first | refine g_aload_n O 0 d_Re_copyInto_3 rfl rfl ?_ | refine g_aload_nq O 0 d_Re_copyInto_3 rfl rfl ?_
      refine g_getV O c_Re 0 (by decide) rfl hP.1.top.2.2.2.2.2.2.2.2.1 lk_Re_26 d_Re_copyInto_4 (RF v hP.2.1).1 ?_
      refine g_icmp_ge  O 31 d_Re_copyInto_7 (by decide) (fun c7 => ?_) (fun c7 => ?_)
      · refine g_iconst (v := 0) O d_Re_copyInto_31 (by decide) ?_
        refine g_istore_n O 2 d_Re_copyInto_32 rfl (Nat.le_of_ble_eq_true rfl) ?_
        exact loop2 0 v (by omega) ⟨hP.1, hP.2.1, fun y hy => by
          obtain ⟨i, hi, rfl⟩ := gD_of hy
          exact hP.2.2 i hi⟩
      · exact absurd (Int32.le_refl _) c7
    · skip
      obtain ⟨hR, hF, hcn⟩ := hP
      have hC := RF v hF
      obtain ⟨m1, m2, m3, m4, m5⟩ := mok j (by omega)
      have hh1 : h' < sD (mkA σ h' L j).1 := by rw [m1.1]; exact hh
      have hL : (L.getD j 0) < 12 := hW.2 _ (gD hj)
      refine g_iload_n O 2 d_Re_copyInto_2 rfl rfl ?_
      first | refine g_aload_n O 0 d_Re_copyInto_3 rfl rfl ?_ | refine g_aload_nq O 0 d_Re_copyInto_3 rfl rfl ?_
      refine g_getV O c_Re 0 (by decide) rfl hR.top.2.2.2.2.2.2.2.2.1 lk_Re_26 d_Re_copyInto_4 hC.1 ?_
      refine g_icmp_ge  O 31 d_Re_copyInto_7 (by decide) (fun c7 => ?_) (fun c7 => ?_)
      · exact absurd c7 (nI_ge (b := L.length) hj (by omega))
      · first | refine g_aload_n O 0 d_Re_copyInto_10 rfl rfl ?_ | refine g_aload_nq O 0 d_Re_copyInto_10 rfl rfl ?_
        refine g_getS O c_Re 1 (by decide) rfl hR.top.2.2.2.2.2.2.2.2.1 lk_Re_9 d_Re_copyInto_11 hR.top.2.2.2.2.2.2.2.2.2.1 ?_
        first | refine g_aload_n O 0 d_Re_copyInto_14 rfl rfl ?_ | refine g_aload_nq O 0 d_Re_copyInto_14 rfl rfl ?_
        refine g_getS O c_Re 2 (by decide) rfl hR.top.2.2.2.2.2.2.2.2.1 lk_Re_15 d_Re_copyInto_15 hR.top.2.2.2.2.2.2.2.2.2.2.2.2.1 ?_
        refine g_iload_n O 2 d_Re_copyInto_18 rfl rfl ?_
        refine g_ialdV O 0 rfl rfl hR.top.2.2.2.2.2.2.2.2.2.2.2.2.2.1 (by rw [hR.top.2.2.2.2.2.2.2.2.2.2.2.2.2.2.1]; exact ix_in (show j < 12 by omega) (by omega)) d_Re_copyInto_19 (show cd_I _ (1000 + 0) (A 11 0 0 0) (nI j).toNatClampNeg = nI (L.getD j 0) from by rw [cl_nI (by omega)]; exact hC.2.2.1 j hj) ?_
        first | refine g_aload_n O 1 d_Re_copyInto_20 rfl rfl ?_ | refine g_aload_nq O 1 d_Re_copyInto_20 rfl rfl ?_
        refine g_callv (N := 2) (mc := 0) (ms := 0) (av := []) O (Or.inl ⟨_, _, cw_Do_makeObject⟩) pl_Do (ci := 1) (q := q_Do) rfl (hR.d hh1).2.1 ml_Re_55 im_Do_makeObject se_Do_makeObject rfl d_Re_copyInto_21 rfl (Nat.le_of_ble_eq_true rfl) (Nat.le_of_ble_eq_true rfl) (Nat.le_of_ble_eq_true rfl) (Nat.le_of_ble_eq_true rfl) ?_
        refine ct_Do_makeObject2 hR hh1 (fun o ho hf hl w2 hR2 hF2 => ?_) (fun hall => absurd (cnt_full.mpr hall) (by omega))
        obtain rfl : fo (mkA σ h' L j).1 h' = o := ffr_eq ho hf hl
        change cd_Go _ _ _ _ _ _ _ _ _ _
        refine g_iast O 0 rfl rfl hR2.top.2.2.2.2.2.2.2.2.2.2.1 (by rw [hR2.top.2.2.2.2.2.2.2.2.2.2.2.1]; exact ix_in hL (by omega)) d_Re_copyInto_24 ?_
        first | refine g_iinc O d_Re_copyInto_25 rfl (ic1 _) ?_ | refine g_iinc O d_Re_copyInto_25 rfl rfl ?_
        refine g_goto O 2 d_Re_copyInto_28 (by decide) ?_
        refine ih _ ⟨?_, ?_, fun i hi => ?_⟩
        · exact rep_keepI hR2 (by decide)
        · exact hF.tr ((hF2.up fun _ _ z => Or.inl z).tr (cd_Fr.wI (Or.inr rfl)))
        · rw [I_wI, cl_nI (by omega)]
          show _ = nI ((mk1 h' L (mkA σ h' L j) j).2 (L.getD i 0))
          simp only [mk1]
          by_cases e : L.getD i 0 = L.getD j 0
          · simp only [e, and_self, if_true]
          · rw [if_neg (fun z => e z.2.2), if_neg e]
            have hij : i < j := by
              rcases Nat.lt_or_ge i j with q | q
              · exact q
              · obtain rfl : i = j := by omega
                exact absurd rfl e
            exact (hF2.I (rep_ex hR (k := 10) ⟨rfl, rfl, rfl⟩) (cpW_no hR hh1 (k := 10) ⟨rfl, rfl, rfl⟩ (by omega)) _ _).trans (hcn i hij)
  refine g_iconst (v := 0) O d_Re_copyInto_0 (by decide) ?_
  refine g_istore_n O 2 d_Re_copyInto_1 rfl (Nat.le_of_ble_eq_true rfl) ?_
  exact loop 0 _ (by omega) ⟨hR, cd_Fr.rf, fun i hi => absurd hi (Nat.not_lt_zero i)⟩
