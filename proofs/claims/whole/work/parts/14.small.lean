theorem cd_l_nI {lk : Option Nat} {t : Nat} (h : ∀ t', lk = some t' → t' < 12) (ht : t < 12) : cd_l lk = nI t ↔ lk = some t := by
  cases lk with
  | none =>
    refine ⟨fun e => ?_, fun e => by cases e⟩
    exfalso
    have e3 : (nI t).toInt = (-1 : Int32).toInt := by rw [← show cd_l none = -1 from rfl, e]
    rw [nI_toInt (by omega)] at e3
    have h4 : (-1 : Int32).toInt = -1 := by decide
    omega
  | some u =>
    have hu := h u rfl
    exact ⟨fun e => by rw [(nI_eq (a := u) (b := t) (by omega) (by omega)).mp e], fun e => by cases e; rfl⟩
theorem ulF_add (d t o : Nat) (σ : cd_S) (n j : Nat) : itr (ulF d t o) (σ, n) j = ((itr (ulF d t o) (σ, 0) j).1, n + (itr (ulF d t o) (σ, 0) j).2) := by
  induction j with
  | zero => rfl
  | succ j ih =>
    rw [itr_s, itr_s, ih]
    simp only [ulF]
    split <;> simp [Nat.add_assoc]
theorem ulF_DC (d t o : Nat) (p : cd_S × Nat) (n : Nat) : sDC p.1 (itr (ulF d t o) p n).1 := by
  refine itr_inv (fun q : cd_S × Nat => sDC p.1 q.1) ⟨rfl, rfl⟩ (fun b j h => ?_) n
  unfold ulF
  split
  · exact h
  · exact h
theorem setF_DC {σ : cd_S} {d o : Nat} (n : Nat) : sDC σ (itr (fun τ f => setF τ d o f zF) σ n) := itr_inv (s := fun τ f => setF τ d o f zF) (fun q => sDC σ q) ⟨rfl, rfl⟩ (fun _ _ h => h) n
theorem setT_DC {σ : cd_S} {d : Nat} {b : Bool} (n : Nat) : sDC σ (itr (fun τ o => setT τ d o b) σ n) := itr_inv (s := fun τ o => setT τ d o b) (fun q => sDC σ q) ⟨rfl, rfl⟩ (fun _ _ h => h) n
theorem setS_DC {σ : cd_S} {d : Nat} {b : Option Nat} (n : Nat) : sDC σ (itr (fun τ o => setS τ d o b) σ n) := itr_inv (s := fun τ o => setS τ d o b) (fun q => sDC σ q) ⟨rfl, rfl⟩ (fun _ _ h => h) n
theorem newO_DC (σ : cd_S) (d o : Nat) : sDC σ (newO σ d o) := setF_DC 3
theorem finD_DC (σ : cd_S) (d : Nat) : sDC σ (finD σ d) := by
  obtain ⟨h1, h2⟩ := setS_DC (σ := itr (fun τ o => setT τ d o false) (setE σ d true) 12) (d := d) (b := none) 8
  obtain ⟨h3, h4⟩ := setT_DC (σ := setE σ d true) (d := d) (b := false) 12
  exact ⟨h1.trans h3, h2.trans h4⟩
theorem fr_fN {w : cd_Wd} {P : Nat → Prop} {a : Nat} {v : Int32} (h : P a) : cd_Fr w (cd_fN w a v) P := (cd_Fr.wI h).tr ((cd_Fr.wI h).tr (cd_Fr.wO h))
theorem fr_fL {w : cd_Wd} {P : Nat → Prop} {a : Nat} {v : Int32} (h : P a) : cd_Fr w (cd_fL w a v) P := (cd_Fr.wI h).tr ((cd_Fr.wI h).tr (cd_Fr.wO h))
theorem fr_fC {w : cd_Wd} {P : Nat → Prop} {a c : Nat} (h : P a) : cd_Fr w (cd_fC w a c) P := (cd_Fr.wI h).tr ((cd_Fr.wI h).tr (cd_Fr.wO h))
theorem rep_fN {w : cd_Wd} {x : Nat} {A : cd_A} {σ : cd_S} (h : cd_Rep w x A σ) {d o f : Nat} (hd : d < sD σ) (ho : o < 12) (hf : f < 3) (v : Int32) : cd_Rep (cd_fN w (A 6 d o f) v) x A (setF σ d o f (v, none, none)) := rep_F h hd ho hf (lk := none) (cp := none) (fun _ h => by cases h) (fun _ h => by cases h)
theorem rep_fL {w : cd_Wd} {x : Nat} {A : cd_A} {σ : cd_S} (h : cd_Rep w x A σ) {d o f : Nat} (hd : d < sD σ) (ho : o < 12) (hf : f < 3) {t : Nat} (ht : t < 12) : cd_Rep (cd_fL w (A 6 d o f) (nI t)) x A (setF σ d o f (0, some t, none)) := rep_F h hd ho hf (lk := some t) (cp := none) (fun _ h => by cases h; exact ht) (fun _ h => by cases h)
theorem rep_fC {w : cd_Wd} {x : Nat} {A : cd_A} {σ : cd_S} (h : cd_Rep w x A σ) {d o f : Nat} (hd : d < sD σ) (ho : o < 12) (hf : f < 3) {c : Nat} (hc : c < sC σ) : cd_Rep (cd_fC w (A 6 d o f) (A 8 c 0 0)) x A (setF σ d o f (0, none, some c)) := rep_F h hd ho hf (lk := none) (cp := some c) (fun _ h => by cases h) (fun _ h => by cases h; exact hc)
set_option maxHeartbeats 4000000 in
set_option maxRecDepth 100000 in
theorem ct_Ob_begin {G : cd_Gl} {l : Launch} {w : cd_Wd} {Q : cd_Out → cd_Wd → Prop} {x : Nat} {A : cd_A} {σ : cd_S} (hR : cd_Rep w x A σ) {d o : Nat} (hd : d < sD σ) (ho : o < 12) (h : ∀ w', cd_Rep w' x A (newO σ d o) → cd_Fr w w' (cd_ow x A σ) → Q (.inl none) w') : cd_Ct G l y_Ob_begin 1 0 0 [.ref (A 4 d o 0)] w Q := by
  refine cd_ofW cw_Ob_begin (by simp [Value.category, cat_rf]) (Nat.le_of_ble_eq_true rfl) fun C O => ?_
  change cd_Go G l C _ 0 0 w 0 [some (.ref (A 4 d o 0)), none] []
  have loop : ∀ (j : Nat) (v : cd_Wd), j ≤ 3 → (cd_Rep v x A (itr (fun τ f => setF τ d o f zF) (setT σ d o true) j) ∧ cd_Fr w v (cd_ow x A σ)) → cd_Go G l C (cd_MQ G (cx_s C) (cx_b C) 0 0 Q) (0) (0) v 7 [some (.ref (A 4 d o 0)), some (.int (nI j))] [] := by
    refine lp (3) (P := fun j v => cd_Rep v x A (itr (fun τ f => setF τ d o f zF) (setT σ d o true) j) ∧ cd_Fr w v (cd_ow x A σ)) (g := fun j v => cd_Go G l C (cd_MQ G (cx_s C) (cx_b C) 0 0 Q) (0) (0) v 7 [some (.ref (A 4 d o 0)), some (.int (nI j))] []) (fun v hP => ?_) (fun j v hj hP ih => ?_)
    · skip
      refine g_iload_n O 1 d_Ob_begin_7 rfl rfl ?_
      refine g_iconst (v := 3) O d_Ob_begin_8 (by decide) ?_
      refine g_icmp_ge O 28 d_Ob_begin_9 (by decide) (fun c9 => ?_) (fun c9 => ?_)
      · refine g_ret O d_Ob_begin_28 (Nat.le_of_ble_eq_true rfl) (Nat.le_of_ble_eq_true rfl) ?_
        exact h v hP.1 hP.2
      · exact absurd (show (3 : Int32) ≤ nI 3 from by decide) c9
    · skip
      obtain ⟨hR, hF⟩ := hP
      have hd1 : d < sD (itr (fun τ f => setF τ d o f zF) (setT σ d o true) j) := by rw [(setF_DC j).1]; exact hd
      refine g_iload_n O 1 d_Ob_begin_7 rfl rfl ?_
      refine g_iconst (v := 3) O d_Ob_begin_8 (by decide) ?_
      refine g_icmp_ge O 28 d_Ob_begin_9 (by decide) (fun c9 => ?_) (fun c9 => ?_)
      · exact absurd c9 (nI_ge (b := 3) hj (by omega))
      · first | refine g_aload_n O 0 d_Ob_begin_12 rfl rfl ?_ | refine g_aload_nq O 0 d_Ob_begin_12 rfl rfl ?_
        refine g_getS O c_Ob 1 (by decide) rfl (hR.o hd1 ho).2.1 lk_Ob_11 d_Ob_begin_13 (hR.o hd1 ho).2.2.2.1 ?_
        refine g_iload_n O 1 d_Ob_begin_16 rfl rfl ?_
        refine g_aaldS O 5 rfl rfl (hR.o hd1 ho).2.2.2.2.1 (by rw [(hR.o hd1 ho).2.2.2.2.2]; exact ix_in hj (by omega)) d_Ob_begin_17 (by rw [cl_nI (by omega)]; exact (hR.f hd1 ho hj).1) ?_
        refine g_iconst (v := 0) O d_Ob_begin_18 (by decide) ?_
        refine g_callv (N := 0) (mc := 0) (ms := 0) (av := [_]) O (Or.inl ⟨_, _, cw_Fi_becomeNumber⟩) pl_Fi (ci := 3) (q := q_Fi) rfl (hR.f hd1 ho hj).2.1 ml_Ob_22 im_Fi_becomeNumber se_Fi_becomeNumber rfl d_Ob_begin_19 rfl (Nat.le_of_ble_eq_true rfl) (Nat.le_of_ble_eq_true rfl) (Nat.le_of_ble_eq_true rfl) (Nat.le_of_ble_eq_true rfl) ?_
        refine ct_Fi_becomeNumber (hR.f hd1 ho hj).2.1 ?_
        change cd_Go _ _ _ _ _ _ _ _ _ _
        first | refine g_iinc O d_Ob_begin_22 rfl (ic1 _) ?_ | refine g_iinc O d_Ob_begin_22 rfl rfl ?_
        refine g_goto O 7 d_Ob_begin_25 (by decide) ?_
        exact ih _ ⟨rep_fN hR hd1 ho hj 0, hF.tr (fr_fN (ow_at (k := 6) ⟨hd, ho, hj⟩))⟩
  first | refine g_aload_n O 0 d_Ob_begin_0 rfl rfl ?_ | refine g_aload_nq O 0 d_Ob_begin_0 rfl rfl ?_
  refine g_iconst (v := 1) O d_Ob_begin_1 (by decide) ?_
  refine g_putI O c_Ob 0 (by decide) rfl (hR.o hd ho).2.1 (Or.inr (by first | exact Or.inl rfl | exact Or.inr rfl | assumption)) (Or.inl rfl) lk_Ob_18 d_Ob_begin_2 ?_
  refine g_iconst (v := 0) O d_Ob_begin_5 (by decide) ?_
  refine g_istore_n O 1 d_Ob_begin_6 rfl (Nat.le_of_ble_eq_true rfl) ?_
  exact loop 0 _ (by omega) ⟨rep_T hR hd ho true, cd_Fr.wI (ow_at (k := 4) ⟨hd, ho, rfl⟩)⟩
set_option maxHeartbeats 4000000 in
set_option maxRecDepth 100000 in
theorem ct_Ob_unlink {G : cd_Gl} {l : Launch} {w : cd_Wd} {Q : cd_Out → cd_Wd → Prop} {x : Nat} {A : cd_A} {σ : cd_S} (hR : cd_Rep w x A σ) {d o t : Nat} (hd : d < sD σ) (ho : o < 12) (ht : t < 12) (h : ∀ w', cd_Rep w' x A (itr (ulF d t o) (σ, 0) 3).1 → cd_Fr w w' (cd_ow x A σ) → Q (.inl (some (.int (nI (itr (ulF d t o) (σ, 0) 3).2)))) w') : cd_Ct G l y_Ob_unlink 1 0 0 [.ref (A 4 d o 0), .int (nI t)] w Q := by
  refine cd_ofW cw_Ob_unlink (by simp [Value.category, cat_rf]) (Nat.le_of_ble_eq_true rfl) fun C O => ?_
  change cd_Go G l C _ 0 0 w 0 [some (.ref (A 4 d o 0)), some (.int (nI t)), none, none] []
  have loop : ∀ (j : Nat) (v : cd_Wd), j ≤ 3 → (cd_Rep v x A (itr (ulF d t o) (σ, 0) j).1 ∧ cd_Fr w v (cd_ow x A σ)) → cd_Go G l C (cd_MQ G (cx_s C) (cx_b C) 0 0 Q) (0) (0) v 4 [some (.ref (A 4 d o 0)), some (.int (nI t)), some (.int (nI (itr (ulF d t o) (σ, 0) j).2)), some (.int (nI j))] [] := by
    refine lp (3) (P := fun j v => cd_Rep v x A (itr (ulF d t o) (σ, 0) j).1 ∧ cd_Fr w v (cd_ow x A σ)) (g := fun j v => cd_Go G l C (cd_MQ G (cx_s C) (cx_b C) 0 0 Q) (0) (0) v 4 [some (.ref (A 4 d o 0)), some (.int (nI t)), some (.int (nI (itr (ulF d t o) (σ, 0) j).2)), some (.int (nI j))] []) (fun v hP => ?_) (fun j v hj hP ih => ?_)
    · skip
      refine g_iload_n O 3 d_Ob_unlink_4 rfl rfl ?_
      refine g_iconst (v := 3) O d_Ob_unlink_5 (by decide) ?_
      refine g_icmp_ge O 41 d_Ob_unlink_6 (by decide) (fun c6 => ?_) (fun c6 => ?_)
      · refine g_iload_n O 2 d_Ob_unlink_41 rfl rfl ?_
        refine g_iret O d_Ob_unlink_42 (Nat.le_of_ble_eq_true rfl) (Nat.le_of_ble_eq_true rfl) ?_
        exact h v hP.1 hP.2
      · exact absurd (show (3 : Int32) ≤ nI 3 from by decide) c6
    · skip
      obtain ⟨hR, hF⟩ := hP
      have hd1 : d < sD (itr (ulF d t o) (σ, 0) j).1 := by rw [(ulF_DC d t o (σ, 0) j).1]; exact hd
      have hlk : ∀ t', (sF (itr (ulF d t o) (σ, 0) j).1 d o j).2.1 = some t' → t' < 12 := fun t' => hR.wf.2.2.1 d o j t' hd1 ho hj
      refine g_iload_n O 3 d_Ob_unlink_4 rfl rfl ?_
      refine g_iconst (v := 3) O d_Ob_unlink_5 (by decide) ?_
      refine g_icmp_ge O 41 d_Ob_unlink_6 (by decide) (fun c6 => ?_) (fun c6 => ?_)
      · exact absurd c6 (nI_ge (b := 3) hj (by omega))
      · first | refine g_aload_n O 0 d_Ob_unlink_9 rfl rfl ?_ | refine g_aload_nq O 0 d_Ob_unlink_9 rfl rfl ?_
        refine g_getS O c_Ob 1 (by decide) rfl (hR.o hd1 ho).2.1 lk_Ob_11 d_Ob_unlink_10 (hR.o hd1 ho).2.2.2.1 ?_
        refine g_iload_n O 3 d_Ob_unlink_13 rfl rfl ?_
        refine g_aaldS O 5 rfl rfl (hR.o hd1 ho).2.2.2.2.1 (by rw [(hR.o hd1 ho).2.2.2.2.2]; exact ix_in hj (by omega)) d_Ob_unlink_14 (by rw [cl_nI (by omega)]; exact (hR.f hd1 ho hj).1) ?_
        refine g_getV O c_Fi 1 (by decide) rfl (hR.f hd1 ho hj).2.1 lk_Ob_26 d_Ob_unlink_15 (hR.f hd1 ho hj).2.2.2.1 ?_
        refine g_iload_n O 1 d_Ob_unlink_18 rfl rfl ?_
        refine g_icmp_ne O 35 d_Ob_unlink_19 (by decide) (fun c19 => ?_) (fun c19 => ?_)
        · have hne : ¬ (sF (itr (ulF d t o) (σ, 0) j).1 d o j).2.1 = some t := fun z => c19 ((cd_l_nI hlk ht).mpr z)
          have e1 : itr (ulF d t o) (σ, 0) (j + 1) = itr (ulF d t o) (σ, 0) j := by rw [itr_s]; exact if_neg hne
          first | refine g_iinc O d_Ob_unlink_35 rfl (ic1 _) ?_ | refine g_iinc O d_Ob_unlink_35 rfl rfl ?_
          refine g_goto O 4 d_Ob_unlink_38 (by decide) ?_
          first
            | (have e := ih _ ⟨by rw [e1]; exact hR, hF⟩
               rw [e1] at e
               exact e)
            | (have e := ih _ ⟨by rw [e1]; exact rep_fN hR hd1 ho hj 0, hF.tr (fr_fN (ow_at (k := 6) ⟨hd, ho, hj⟩))⟩
               rw [e1] at e
               exact e)
        · have hne : (sF (itr (ulF d t o) (σ, 0) j).1 d o j).2.1 = some t := (cd_l_nI hlk ht).mp c19
          have e1 : itr (ulF d t o) (σ, 0) (j + 1) = (setF (itr (ulF d t o) (σ, 0) j).1 d o j zF, (itr (ulF d t o) (σ, 0) j).2 + 1) := by rw [itr_s]; exact if_pos hne
          first | refine g_aload_n O 0 d_Ob_unlink_22 rfl rfl ?_ | refine g_aload_nq O 0 d_Ob_unlink_22 rfl rfl ?_
          refine g_getS O c_Ob 1 (by decide) rfl (hR.o hd1 ho).2.1 lk_Ob_11 d_Ob_unlink_23 (hR.o hd1 ho).2.2.2.1 ?_
          refine g_iload_n O 3 d_Ob_unlink_26 rfl rfl ?_
          refine g_aaldS O 5 rfl rfl (hR.o hd1 ho).2.2.2.2.1 (by rw [(hR.o hd1 ho).2.2.2.2.2]; exact ix_in hj (by omega)) d_Ob_unlink_27 (by rw [cl_nI (by omega)]; exact (hR.f hd1 ho hj).1) ?_
          refine g_iconst (v := 0) O d_Ob_unlink_28 (by decide) ?_
          refine g_callv (N := 0) (mc := 0) (ms := 0) (av := [_]) O (Or.inl ⟨_, _, cw_Fi_becomeNumber⟩) pl_Fi (ci := 3) (q := q_Fi) rfl (hR.f hd1 ho hj).2.1 ml_Ob_22 im_Fi_becomeNumber se_Fi_becomeNumber rfl d_Ob_unlink_29 rfl (Nat.le_of_ble_eq_true rfl) (Nat.le_of_ble_eq_true rfl) (Nat.le_of_ble_eq_true rfl) (Nat.le_of_ble_eq_true rfl) ?_
          refine ct_Fi_becomeNumber (hR.f hd1 ho hj).2.1 ?_
          change cd_Go _ _ _ _ _ _ _ _ _ _
          first | refine g_iinc O d_Ob_unlink_32 rfl (ic1 _) ?_ | refine g_iinc O d_Ob_unlink_32 rfl rfl ?_
          first | refine g_iinc O d_Ob_unlink_35 rfl (ic1 _) ?_ | refine g_iinc O d_Ob_unlink_35 rfl rfl ?_
          refine g_goto O 4 d_Ob_unlink_38 (by decide) ?_
          first
            | (have e := ih _ ⟨by rw [e1]; exact hR, hF⟩
               rw [e1] at e
               exact e)
            | (have e := ih _ ⟨by rw [e1]; exact rep_fN hR hd1 ho hj 0, hF.tr (fr_fN (ow_at (k := 6) ⟨hd, ho, hj⟩))⟩
               rw [e1] at e
               exact e)
  refine g_iconst (v := 0) O d_Ob_unlink_0 (by decide) ?_
  refine g_istore_n O 2 d_Ob_unlink_1 rfl (Nat.le_of_ble_eq_true rfl) ?_
  refine g_iconst (v := 0) O d_Ob_unlink_2 (by decide) ?_
  refine g_istore_n O 3 d_Ob_unlink_3 rfl (Nat.le_of_ble_eq_true rfl) ?_
  exact loop 0 _ (by omega) ⟨hR, cd_Fr.rf⟩
set_option maxHeartbeats 4000000 in
set_option maxRecDepth 100000 in
theorem ct_Do_objectCount {G : cd_Gl} {l : Launch} {w : cd_Wd} {Q : cd_Out → cd_Wd → Prop} {x : Nat} {A : cd_A} {σ : cd_S} (hR : cd_Rep w x A σ) {d : Nat} (hd : d < sD σ) (h : Q (.inl (some (.int (nI (cnt (sT σ d) 12))))) w) : cd_Ct G l y_Do_objectCount 0 0 0 [.ref (A 1 d 0 0)] w Q := by
  refine cd_ofW cw_Do_objectCount (by simp [Value.category, cat_rf]) (Nat.le_of_ble_eq_true rfl) fun C O => ?_
  change cd_Go G l C _ 0 0 w 0 [some (.ref (A 1 d 0 0)), none, none] []
  have loop : ∀ (j : Nat) (v : cd_Wd), j ≤ 12 → (v = w) → cd_Go G l C (cd_MQ G (cx_s C) (cx_b C) 0 0 Q) (0) (0) v 4 [some (.ref (A 1 d 0 0)), some (.int (nI (cnt (sT σ d) j))), some (.int (nI j))] [] := by
    refine lp (12) (P := fun j v => v = w) (g := fun j v => cd_Go G l C (cd_MQ G (cx_s C) (cx_b C) 0 0 Q) (0) (0) v 4 [some (.ref (A 1 d 0 0)), some (.int (nI (cnt (sT σ d) j))), some (.int (nI j))] []) (fun v hP => ?_) (fun j v hj hP ih => ?_)
    · skip
      subst hP
      refine g_iload_n O 2 d_Do_objectCount_4 rfl rfl ?_
      refine g_bipush (v := 12) O d_Do_objectCount_5 (by decide) ?_
      refine g_icmp_ge O 31 d_Do_objectCount_7 (by decide) (fun c7 => ?_) (fun c7 => ?_)
      · refine g_iload_n O 1 d_Do_objectCount_31 rfl rfl ?_
        refine g_iret O d_Do_objectCount_32 (Nat.le_of_ble_eq_true rfl) (Nat.le_of_ble_eq_true rfl) ?_
        exact h
      · exact absurd (show (12 : Int32) ≤ nI 12 from by decide) c7
    · skip
      subst hP
      refine g_iload_n O 2 d_Do_objectCount_4 rfl rfl ?_
      refine g_bipush (v := 12) O d_Do_objectCount_5 (by decide) ?_
      refine g_icmp_ge O 31 d_Do_objectCount_7 (by decide) (fun c7 => ?_) (fun c7 => ?_)
      · exact absurd c7 (nI_ge (b := 12) hj (by omega))
      · first | refine g_aload_n O 0 d_Do_objectCount_10 rfl rfl ?_ | refine g_aload_nq O 0 d_Do_objectCount_10 rfl rfl ?_
        refine g_getS O c_Do 1 (by decide) rfl (hR.d hd).2.1 lk_Do_11 d_Do_objectCount_11 (hR.d hd).2.2.1 ?_
        refine g_iload_n O 2 d_Do_objectCount_14 rfl rfl ?_
        refine g_aaldS O 4 rfl rfl (hR.d hd).2.2.2.1 (by rw [(hR.d hd).2.2.2.2.1]; exact ix_in hj (by omega)) d_Do_objectCount_15 (by rw [cl_nI (by omega)]; exact (hR.o hd hj).1) ?_
        refine g_getV O c_Ob 0 (by decide) rfl (hR.o hd hj).2.1 lk_Do_24 d_Do_objectCount_16 (hR.o hd hj).2.2.1 ?_
        refine g_if_eq O 25 d_Do_objectCount_19 (by decide) (fun c19 => ?_) (fun c19 => ?_)
        · have e1 := cnt_f (cd_b_eq.mp c19)
          first | refine g_iinc O d_Do_objectCount_25 rfl (ic1 _) ?_ | refine g_iinc O d_Do_objectCount_25 rfl rfl ?_
          refine g_goto O 4 d_Do_objectCount_28 (by decide) ?_
          have e := ih v rfl
          rw [e1] at e
          exact e
        · have e1 := cnt_t (cd_b_ne.mp c19)
          first | refine g_iinc O d_Do_objectCount_22 rfl (ic1 _) ?_ | refine g_iinc O d_Do_objectCount_22 rfl rfl ?_
          first | refine g_iinc O d_Do_objectCount_25 rfl (ic1 _) ?_ | refine g_iinc O d_Do_objectCount_25 rfl rfl ?_
          refine g_goto O 4 d_Do_objectCount_28 (by decide) ?_
          have e := ih v rfl
          rw [e1] at e
          exact e
  refine g_iconst (v := 0) O d_Do_objectCount_0 (by decide) ?_
  refine g_istore_n O 1 d_Do_objectCount_1 rfl (Nat.le_of_ble_eq_true rfl) ?_
  refine g_iconst (v := 0) O d_Do_objectCount_2 (by decide) ?_
  refine g_istore_n O 2 d_Do_objectCount_3 rfl (Nat.le_of_ble_eq_true rfl) ?_
  exact loop 0 _ (by omega) rfl
set_option maxHeartbeats 4000000 in
set_option maxRecDepth 100000 in
theorem ct_Do_makeObject {G : cd_Gl} {l : Launch} {w : cd_Wd} {Q : cd_Out → cd_Wd → Prop} {x : Nat} {A : cd_A} {σ : cd_S} (hR : cd_Rep w x A σ) {d : Nat} (hd : d < sD σ) (h1 : ∀ o, o < 12 → sT σ d o = false → (∀ i, i < o → sT σ d i = true) → ∀ w', cd_Rep w' x A (newO σ d o) → cd_Fr w w' (cd_ow x A σ) → Q (.inl (some (.int (nI o)))) w') (h2 : (∀ i, i < 12 → sT σ d i = true) → Q (.inl (some (.int (-1)))) w) : cd_Ct G l y_Do_makeObject 2 0 0 [.ref (A 1 d 0 0)] w Q := by
  refine cd_ofW cw_Do_makeObject (by simp [Value.category, cat_rf]) (Nat.le_of_ble_eq_true rfl) fun C O => ?_
  change cd_Go G l C _ 0 0 w 0 [some (.ref (A 1 d 0 0)), none] []
  have loop : ∀ (j : Nat) (v : cd_Wd), j ≤ 12 → (v = w ∧ ∀ i, i < j → sT σ d i = true) → cd_Go G l C (cd_MQ G (cx_s C) (cx_b C) 0 0 Q) (0) (0) v 2 [some (.ref (A 1 d 0 0)), some (.int (nI j))] [] := by
    refine lp (12) (P := fun j v => v = w ∧ ∀ i, i < j → sT σ d i = true) (g := fun j v => cd_Go G l C (cd_MQ G (cx_s C) (cx_b C) 0 0 Q) (0) (0) v 2 [some (.ref (A 1 d 0 0)), some (.int (nI j))] []) (fun v hP => ?_) (fun j v hj hP ih => ?_)
    · skip
      obtain ⟨rfl, hP⟩ := hP
      refine g_iload_n O 1 d_Do_makeObject_2 rfl rfl ?_
      refine g_bipush (v := 12) O d_Do_makeObject_3 (by decide) ?_
      refine g_icmp_ge O 37 d_Do_makeObject_5 (by decide) (fun c5 => ?_) (fun c5 => ?_)
      · refine g_iconst (v := -1) O d_Do_makeObject_37 (by decide) ?_
        refine g_iret O d_Do_makeObject_38 (Nat.le_of_ble_eq_true rfl) (Nat.le_of_ble_eq_true rfl) ?_
        exact h2 hP
      · exact absurd (show (12 : Int32) ≤ nI 12 from by decide) c5
    · skip
      obtain ⟨rfl, hP⟩ := hP
      have hP := And.intro True.intro hP
      refine g_iload_n O 1 d_Do_makeObject_2 rfl rfl ?_
      refine g_bipush (v := 12) O d_Do_makeObject_3 (by decide) ?_
      refine g_icmp_ge O 37 d_Do_makeObject_5 (by decide) (fun c5 => ?_) (fun c5 => ?_)
      · exact absurd c5 (nI_ge (b := 12) hj (by omega))
      · first | refine g_aload_n O 0 d_Do_makeObject_8 rfl rfl ?_ | refine g_aload_nq O 0 d_Do_makeObject_8 rfl rfl ?_
        refine g_getS O c_Do 1 (by decide) rfl (hR.d hd).2.1 lk_Do_11 d_Do_makeObject_9 (hR.d hd).2.2.1 ?_
        refine g_iload_n O 1 d_Do_makeObject_12 rfl rfl ?_
        refine g_aaldS O 4 rfl rfl (hR.d hd).2.2.2.1 (by rw [(hR.d hd).2.2.2.2.1]; exact ix_in hj (by omega)) d_Do_makeObject_13 (by rw [cl_nI (by omega)]; exact (hR.o hd hj).1) ?_
        refine g_getV O c_Ob 0 (by decide) rfl (hR.o hd hj).2.1 lk_Do_24 d_Do_makeObject_14 (hR.o hd hj).2.2.1 ?_
        refine g_if_ne O 31 d_Do_makeObject_17 (by decide) (fun c17 => ?_) (fun c17 => ?_)
        · first | refine g_iinc O d_Do_makeObject_31 rfl (ic1 _) ?_ | refine g_iinc O d_Do_makeObject_31 rfl rfl ?_
          refine g_goto O 2 d_Do_makeObject_34 (by decide) ?_
          refine ih v ⟨rfl, fun i hi => ?_⟩
          by_cases e : i = j
          · subst e; exact cd_b_ne.mp c17
          · exact hP.2 i (by omega)
        · have h1 := h1 j hj (cd_b_eq.mp c17) hP.2
          first | refine g_aload_n O 0 d_Do_makeObject_20 rfl rfl ?_ | refine g_aload_nq O 0 d_Do_makeObject_20 rfl rfl ?_
          refine g_getS O c_Do 1 (by decide) rfl (hR.d hd).2.1 lk_Do_11 d_Do_makeObject_21 (hR.d hd).2.2.1 ?_
          refine g_iload_n O 1 d_Do_makeObject_24 rfl rfl ?_
          refine g_aaldS O 4 rfl rfl (hR.d hd).2.2.2.1 (by rw [(hR.d hd).2.2.2.2.1]; exact ix_in hj (by omega)) d_Do_makeObject_25 (by rw [cl_nI (by omega)]; exact (hR.o hd hj).1) ?_
          refine g_callv (N := 1) (mc := 0) (ms := 0) (av := []) O (Or.inl ⟨_, _, cw_Ob_begin⟩) pl_Ob (ci := 2) (q := q_Ob) rfl (hR.o hd hj).2.1 ml_Do_28 im_Ob_begin se_Ob_begin rfl d_Do_makeObject_26 rfl (Nat.le_of_ble_eq_true rfl) (Nat.le_of_ble_eq_true rfl) (Nat.le_of_ble_eq_true rfl) (Nat.le_of_ble_eq_true rfl) ?_
          refine ct_Ob_begin hR hd hj (fun w' hR' hF' => ?_)
          change cd_Go _ _ _ _ _ _ _ _ _ _
          refine g_iload_n O 1 d_Do_makeObject_29 rfl rfl ?_
          refine g_iret O d_Do_makeObject_30 (Nat.le_of_ble_eq_true rfl) (Nat.le_of_ble_eq_true rfl) ?_
          exact h1 w' hR' hF'
  refine g_iconst (v := 0) O d_Do_makeObject_0 (by decide) ?_
  refine g_istore_n O 1 d_Do_makeObject_1 rfl (Nat.le_of_ble_eq_true rfl) ?_
  exact loop 0 _ (by omega) ⟨rfl, fun i hi => by omega⟩
theorem ulO_t {d t j : Nat} {p : cd_S × Nat} (h : sT p.1 d j = true) : ulO d t p j = ((itr (ulF d t j) (p.1, 0) 3).1, p.2 + (itr (ulF d t j) (p.1, 0) 3).2) := by
  unfold ulO
  rw [if_pos h]
  exact ulF_add d t j p.1 p.2 3
set_option maxHeartbeats 4000000 in
set_option maxRecDepth 100000 in
theorem ct_Do_removeObject {G : cd_Gl} {l : Launch} {w : cd_Wd} {Q : cd_Out → cd_Wd → Prop} {x : Nat} {A : cd_A} {σ : cd_S} (hR : cd_Rep w x A σ) {d t : Nat} (hd : d < sD σ) (ht : t < 12) (h : ∀ w', cd_Rep w' x A (remO σ d t).1 → cd_Fr w w' (cd_ow x A σ) → Q (.inl (some (.int (nI (remO σ d t).2)))) w') : cd_Ct G l y_Do_removeObject 2 0 0 [.ref (A 1 d 0 0), .int (nI t)] w Q := by
  refine cd_ofW cw_Do_removeObject (by simp [Value.category, cat_rf]) (Nat.le_of_ble_eq_true rfl) fun C O => ?_
  change cd_Go G l C _ 0 0 w 0 [some (.ref (A 1 d 0 0)), some (.int (nI t)), none, none] []
  have loop : ∀ (j : Nat) (v : cd_Wd), j ≤ 12 → (cd_Rep v x A (itr (ulO d t) (setT σ d t false, 0) j).1 ∧ cd_Fr w v (cd_ow x A σ)) → cd_Go G l C (cd_MQ G (cx_s C) (cx_b C) 0 0 Q) (0) (0) v 14 [some (.ref (A 1 d 0 0)), some (.int (nI t)), some (.int (nI (itr (ulO d t) (setT σ d t false, 0) j).2)), some (.int (nI j))] [] := by
    refine lp (12) (P := fun j v => cd_Rep v x A (itr (ulO d t) (setT σ d t false, 0) j).1 ∧ cd_Fr w v (cd_ow x A σ)) (g := fun j v => cd_Go G l C (cd_MQ G (cx_s C) (cx_b C) 0 0 Q) (0) (0) v 14 [some (.ref (A 1 d 0 0)), some (.int (nI t)), some (.int (nI (itr (ulO d t) (setT σ d t false, 0) j).2)), some (.int (nI j))] []) (fun v hP => ?_) (fun j v hj hP ih => ?_)
    · skip
      refine g_iload_n O 3 d_Do_removeObject_14 rfl rfl ?_
      refine g_bipush (v := 12) O d_Do_removeObject_15 (by decide) ?_
      refine g_icmp_ge O 51 d_Do_removeObject_17 (by decide) (fun c17 => ?_) (fun c17 => ?_)
      · refine g_iload_n O 2 d_Do_removeObject_51 rfl rfl ?_
        refine g_iret O d_Do_removeObject_52 (Nat.le_of_ble_eq_true rfl) (Nat.le_of_ble_eq_true rfl) ?_
        exact h v hP.1 hP.2
      · exact absurd (show (12 : Int32) ≤ nI 12 from by decide) c17
    · skip
      obtain ⟨hR, hF⟩ := hP
      have hDC := remO_DC σ d t j
      have hd1 : d < sD (itr (ulO d t) (setT σ d t false, 0) j).1 := by rw [hDC.1]; exact hd
      refine g_iload_n O 3 d_Do_removeObject_14 rfl rfl ?_
      refine g_bipush (v := 12) O d_Do_removeObject_15 (by decide) ?_
      refine g_icmp_ge O 51 d_Do_removeObject_17 (by decide) (fun c17 => ?_) (fun c17 => ?_)
      · exact absurd c17 (nI_ge (b := 12) hj (by omega))
      · first | refine g_aload_n O 0 d_Do_removeObject_20 rfl rfl ?_ | refine g_aload_nq O 0 d_Do_removeObject_20 rfl rfl ?_
        refine g_getS O c_Do 1 (by decide) rfl (hR.d hd1).2.1 lk_Do_11 d_Do_removeObject_21 (hR.d hd1).2.2.1 ?_
        refine g_iload_n O 3 d_Do_removeObject_24 rfl rfl ?_
        refine g_aaldS O 4 rfl rfl (hR.d hd1).2.2.2.1 (by rw [(hR.d hd1).2.2.2.2.1]; exact ix_in hj (by omega)) d_Do_removeObject_25 (by rw [cl_nI (by omega)]; exact (hR.o hd1 hj).1) ?_
        refine g_getV O c_Ob 0 (by decide) rfl (hR.o hd1 hj).2.1 lk_Do_24 d_Do_removeObject_26 (hR.o hd1 hj).2.2.1 ?_
        refine g_if_eq O 45 d_Do_removeObject_29 (by decide) (fun c29 => ?_) (fun c29 => ?_)
        · have e1 : itr (ulO d t) (setT σ d t false, 0) (j + 1) = (itr (ulO d t) (setT σ d t false, 0) j) := by rw [itr_s]; exact if_neg (by rw [cd_b_eq.mp c29]; decide)
          first | refine g_iinc O d_Do_removeObject_45 rfl (ic1 _) ?_ | refine g_iinc O d_Do_removeObject_45 rfl rfl ?_
          refine g_goto O 14 d_Do_removeObject_48 (by decide) ?_
          first
            | (have e := ih _ ⟨by rw [e1]; exact hR, hF⟩
               rw [e1] at e
               exact e)
            | (have e := ih _ ⟨by rw [e1]; exact hR', hF.tr (fr_cg hDC hF')⟩
               rw [e1] at e
               exact e)
        · have e1 : itr (ulO d t) (setT σ d t false, 0) (j + 1) = ((itr (ulF d t j) ((itr (ulO d t) (setT σ d t false, 0) j).1, 0) 3).1, (itr (ulO d t) (setT σ d t false, 0) j).2 + (itr (ulF d t j) ((itr (ulO d t) (setT σ d t false, 0) j).1, 0) 3).2) := ulO_t (cd_b_ne.mp c29)
          refine g_iload_n O 2 d_Do_removeObject_32 rfl rfl ?_
          first | refine g_aload_n O 0 d_Do_removeObject_33 rfl rfl ?_ | refine g_aload_nq O 0 d_Do_removeObject_33 rfl rfl ?_
          refine g_getS O c_Do 1 (by decide) rfl (hR.d hd1).2.1 lk_Do_11 d_Do_removeObject_34 (hR.d hd1).2.2.1 ?_
          refine g_iload_n O 3 d_Do_removeObject_37 rfl rfl ?_
          refine g_aaldS O 4 rfl rfl (hR.d hd1).2.2.2.1 (by rw [(hR.d hd1).2.2.2.2.1]; exact ix_in hj (by omega)) d_Do_removeObject_38 (by rw [cl_nI (by omega)]; exact (hR.o hd1 hj).1) ?_
          refine g_iload_n O 1 d_Do_removeObject_39 rfl rfl ?_
          refine g_callv (N := 1) (mc := 0) (ms := 0) (av := [_]) O (Or.inl ⟨_, _, cw_Ob_unlink⟩) pl_Ob (ci := 2) (q := q_Ob) rfl (hR.o hd1 hj).2.1 ml_Do_31 im_Ob_unlink se_Ob_unlink rfl d_Do_removeObject_40 rfl (Nat.le_of_ble_eq_true rfl) (Nat.le_of_ble_eq_true rfl) (Nat.le_of_ble_eq_true rfl) (Nat.le_of_ble_eq_true rfl) ?_
          refine ct_Ob_unlink hR hd1 hj ht (fun w' hR' hF' => ?_)
          change cd_Go _ _ _ _ _ _ _ _ _ _
          refine g_iadd O d_Do_removeObject_43 ?_
          rw [nI_add]
          refine g_istore_n O 2 d_Do_removeObject_44 rfl (Nat.le_of_ble_eq_true rfl) ?_
          first | refine g_iinc O d_Do_removeObject_45 rfl (ic1 _) ?_ | refine g_iinc O d_Do_removeObject_45 rfl rfl ?_
          refine g_goto O 14 d_Do_removeObject_48 (by decide) ?_
          first
            | (have e := ih _ ⟨by rw [e1]; exact hR, hF⟩
               rw [e1] at e
               exact e)
            | (have e := ih _ ⟨by rw [e1]; exact hR', hF.tr (fr_cg hDC hF')⟩
               rw [e1] at e
               exact e)
  first | refine g_aload_n O 0 d_Do_removeObject_0 rfl rfl ?_ | refine g_aload_nq O 0 d_Do_removeObject_0 rfl rfl ?_
  refine g_getS O c_Do 1 (by decide) rfl (hR.d hd).2.1 lk_Do_11 d_Do_removeObject_1 (hR.d hd).2.2.1 ?_
  refine g_iload_n O 1 d_Do_removeObject_4 rfl rfl ?_
  refine g_aaldS O 4 rfl rfl (hR.d hd).2.2.2.1 (by rw [(hR.d hd).2.2.2.2.1]; exact ix_in ht (by omega)) d_Do_removeObject_5 (by rw [cl_nI (by omega)]; exact (hR.o hd ht).1) ?_
  refine g_iconst (v := 0) O d_Do_removeObject_6 (by decide) ?_
  refine g_putI O c_Ob 0 (by decide) rfl (hR.o hd ht).2.1 (Or.inr (by first | exact Or.inl rfl | exact Or.inr rfl | assumption)) (Or.inl rfl) lk_Do_24 d_Do_removeObject_7 ?_
  refine g_iconst (v := 0) O d_Do_removeObject_10 (by decide) ?_
  refine g_istore_n O 2 d_Do_removeObject_11 rfl (Nat.le_of_ble_eq_true rfl) ?_
  refine g_iconst (v := 0) O d_Do_removeObject_12 (by decide) ?_
  refine g_istore_n O 3 d_Do_removeObject_13 rfl (Nat.le_of_ble_eq_true rfl) ?_
  exact loop 0 _ (by omega) ⟨rep_T hR hd ht false, cd_Fr.wI (ow_at (k := 4) ⟨hd, ht, rfl⟩)⟩
set_option maxHeartbeats 4000000 in
set_option maxRecDepth 100000 in
theorem ct_Do_replaceSlot {G : cd_Gl} {l : Launch} {w : cd_Wd} {Q : cd_Out → cd_Wd → Prop} {x : Nat} {A : cd_A} {σ : cd_S} (hR : cd_Rep w x A σ) {d i c : Nat} (hd : d < sD σ) (hi : i < 8) (hc : c < sC σ) (h : ∀ w', cd_Rep w' x A (setS σ d i (some c)) → cd_Fr w w' (cd_ow x A σ) → Q (.inl (some (.int (cd_b (sS σ d i).isSome)))) w') : cd_Ct G l y_Do_replaceSlot 0 0 0 [.ref (A 1 d 0 0), .int (nI i), .ref (A 8 c 0 0)] w Q := by
  refine cd_ofW cw_Do_replaceSlot (by simp [Value.category, cat_rf]) (Nat.le_of_ble_eq_true rfl) fun C O => ?_
  change cd_Go G l C _ 0 0 w 0 [some (.ref (A 1 d 0 0)), some (.int (nI i)), some (.ref (A 8 c 0 0)), none] []
  first | refine g_aload_n O 0 d_Do_replaceSlot_0 rfl rfl ?_ | refine g_aload_nq O 0 d_Do_replaceSlot_0 rfl rfl ?_
  refine g_getS O c_Do 2 (by decide) rfl (hR.d hd).2.1 lk_Do_20 d_Do_replaceSlot_1 (hR.d hd).2.2.2.2.2.1 ?_
  refine g_iload_n O 1 d_Do_replaceSlot_4 rfl rfl ?_
  refine g_aaldV O 6 rfl rfl (hR.d hd).2.2.2.2.2.2.1 (by rw [(hR.d hd).2.2.2.2.2.2.2.1]; exact ix_in hi (by omega)) d_Do_replaceSlot_5 (show cd_O w (1000 + 6) (A 3 d 0 0) (nI i).toNatClampNeg = (sS σ d i).map (fun c => A 8 c 0 0) from by rw [nI_clamp (by omega)]; exact hR.s hd hi) ?_
  refine g_ifnonnull O 13 d_Do_replaceSlot_6 (by decide) (fun x6 c6 => ?_) (fun c6 => ?_)
  · have e1 : (sS σ d i).isSome = true := by cases hz : sS σ d i with
      | none => rw [hz] at c6; cases c6
      | some c => rfl
    rw [e1] at h
    refine g_iconst (v := 1) O d_Do_replaceSlot_13 (by decide) ?_
    refine g_istore_n O 3 d_Do_replaceSlot_14 rfl (Nat.le_of_ble_eq_true rfl) ?_
    first | refine g_aload_n O 0 d_Do_replaceSlot_15 rfl rfl ?_ | refine g_aload_nq O 0 d_Do_replaceSlot_15 rfl rfl ?_
    refine g_getS O c_Do 2 (by decide) rfl (hR.d hd).2.1 lk_Do_20 d_Do_replaceSlot_16 (hR.d hd).2.2.2.2.2.1 ?_
    refine g_iload_n O 1 d_Do_replaceSlot_19 rfl rfl ?_
    first | refine g_aload_n O 2 d_Do_replaceSlot_20 rfl rfl ?_ | refine g_aload_nq O 2 d_Do_replaceSlot_20 rfl rfl ?_
    first | refine g_aast (q := q_Ca) O 6 4 rfl rfl rfl (hR.d hd).2.2.2.2.2.2.1 (hR.c hc).2.1 (by rw [(hR.d hd).2.2.2.2.2.2.2.1]; exact ix_in hi (by omega)) d_Do_replaceSlot_21 ?_ | refine g_aastN (D := "CapabilityDomains$Capability") O 6 rfl rfl (hR.d hd).2.2.2.2.2.2.1 (by rw [(hR.d hd).2.2.2.2.2.2.2.1]; exact ix_in hi (by omega)) d_Do_replaceSlot_21 ?_ | refine g_aastq (q := q_Ca) O 6 4 rfl rfl rfl (hR.d hd).2.2.2.2.2.2.1 (hR.c hc).2.1 (by rw [(hR.d hd).2.2.2.2.2.2.2.1]; exact ix_in hi (by omega)) d_Do_replaceSlot_21 ?_
    refine g_iload_n O 3 d_Do_replaceSlot_22 rfl rfl ?_
    refine g_iret O d_Do_replaceSlot_23 (Nat.le_of_ble_eq_true rfl) (Nat.le_of_ble_eq_true rfl) ?_
    refine h _ ?_ ?_
    · have q := rep_S hR hd hi (r := some c) (fun z hz => by cases hz; exact hc)
      rw [nI_clamp (by omega)]
      exact q
    · exact cd_Fr.wO (ow_at (k := 3) ⟨hd, rfl, rfl⟩)
  · have e1 : (sS σ d i).isSome = false := by cases hz : sS σ d i with
      | none => rfl
      | some c => rw [hz] at c6; cases c6
    rw [e1] at h
    refine g_iconst (v := 0) O d_Do_replaceSlot_9 (by decide) ?_
    refine g_goto O 14 d_Do_replaceSlot_10 (by decide) ?_
    refine g_istore_n O 3 d_Do_replaceSlot_14 rfl (Nat.le_of_ble_eq_true rfl) ?_
    first | refine g_aload_n O 0 d_Do_replaceSlot_15 rfl rfl ?_ | refine g_aload_nq O 0 d_Do_replaceSlot_15 rfl rfl ?_
    refine g_getS O c_Do 2 (by decide) rfl (hR.d hd).2.1 lk_Do_20 d_Do_replaceSlot_16 (hR.d hd).2.2.2.2.2.1 ?_
    refine g_iload_n O 1 d_Do_replaceSlot_19 rfl rfl ?_
    first | refine g_aload_n O 2 d_Do_replaceSlot_20 rfl rfl ?_ | refine g_aload_nq O 2 d_Do_replaceSlot_20 rfl rfl ?_
    first | refine g_aast (q := q_Ca) O 6 4 rfl rfl rfl (hR.d hd).2.2.2.2.2.2.1 (hR.c hc).2.1 (by rw [(hR.d hd).2.2.2.2.2.2.2.1]; exact ix_in hi (by omega)) d_Do_replaceSlot_21 ?_ | refine g_aastN (D := "CapabilityDomains$Capability") O 6 rfl rfl (hR.d hd).2.2.2.2.2.2.1 (by rw [(hR.d hd).2.2.2.2.2.2.2.1]; exact ix_in hi (by omega)) d_Do_replaceSlot_21 ?_ | refine g_aastq (q := q_Ca) O 6 4 rfl rfl rfl (hR.d hd).2.2.2.2.2.2.1 (hR.c hc).2.1 (by rw [(hR.d hd).2.2.2.2.2.2.2.1]; exact ix_in hi (by omega)) d_Do_replaceSlot_21 ?_
    refine g_iload_n O 3 d_Do_replaceSlot_22 rfl rfl ?_
    refine g_iret O d_Do_replaceSlot_23 (Nat.le_of_ble_eq_true rfl) (Nat.le_of_ble_eq_true rfl) ?_
    refine h _ ?_ ?_
    · have q := rep_S hR hd hi (r := some c) (fun z hz => by cases hz; exact hc)
      rw [nI_clamp (by omega)]
      exact q
    · exact cd_Fr.wO (ow_at (k := 3) ⟨hd, rfl, rfl⟩)
set_option maxHeartbeats 4000000 in
set_option maxRecDepth 100000 in
theorem ct_Do_finish {G : cd_Gl} {l : Launch} {w : cd_Wd} {Q : cd_Out → cd_Wd → Prop} {x : Nat} {A : cd_A} {σ : cd_S} (hR : cd_Rep w x A σ) {d : Nat} (hd : d < sD σ) (h : ∀ w', cd_Rep w' x A (finD σ d) → cd_Fr w w' (cd_ow x A σ) → Q (.inl none) w') : cd_Ct G l y_Do_finish 0 0 0 [.ref (A 1 d 0 0)] w Q := by
  refine cd_ofW cw_Do_finish (by simp [Value.category, cat_rf]) (Nat.le_of_ble_eq_true rfl) fun C O => ?_
  change cd_Go G l C _ 0 0 w 0 [some (.ref (A 1 d 0 0)), none] []
  have loop2 : ∀ (j : Nat) (v : cd_Wd), j ≤ 8 → (cd_Rep v x A (itr (fun τ i => setS τ d i none) (itr (fun τ o => setT τ d o false) (setE σ d true) 12) j) ∧ cd_Fr w v (cd_ow x A σ)) → cd_Go G l C (cd_MQ G (cx_s C) (cx_b C) 0 0 Q) (0) (0) v 31 [some (.ref (A 1 d 0 0)), some (.int (nI j))] [] := by
    refine lp (8) (P := fun j v => cd_Rep v x A (itr (fun τ i => setS τ d i none) (itr (fun τ o => setT τ d o false) (setE σ d true) 12) j) ∧ cd_Fr w v (cd_ow x A σ)) (g := fun j v => cd_Go G l C (cd_MQ G (cx_s C) (cx_b C) 0 0 Q) (0) (0) v 31 [some (.ref (A 1 d 0 0)), some (.int (nI j))] []) (fun v hP => ?_) (fun j v hj hP ih => ?_)
    · skip
      refine g_iload_n O 1 d_Do_finish_31 rfl rfl ?_
      refine g_bipush (v := 8) O d_Do_finish_32 (by decide) ?_
      refine g_icmp_ge O 50 d_Do_finish_34 (by decide) (fun c34 => ?_) (fun c34 => ?_)
      · refine g_ret O d_Do_finish_50 (Nat.le_of_ble_eq_true rfl) (Nat.le_of_ble_eq_true rfl) ?_
        exact h v hP.1 hP.2
      · exact absurd (show (8 : Int32) ≤ nI 8 from by decide) c34
    · skip
      obtain ⟨hR, hF⟩ := hP
      have hd1 : d < sD (itr (fun τ i => setS τ d i none) (itr (fun τ o => setT τ d o false) (setE σ d true) 12) j) := by rw [(setS_DC j).1, (setT_DC 12).1]; exact hd
      refine g_iload_n O 1 d_Do_finish_31 rfl rfl ?_
      refine g_bipush (v := 8) O d_Do_finish_32 (by decide) ?_
      refine g_icmp_ge O 50 d_Do_finish_34 (by decide) (fun c34 => ?_) (fun c34 => ?_)
      · exact absurd c34 (nI_ge (b := 8) hj (by omega))
      · first | refine g_aload_n O 0 d_Do_finish_37 rfl rfl ?_ | refine g_aload_nq O 0 d_Do_finish_37 rfl rfl ?_
        refine g_getS O c_Do 2 (by decide) rfl (hR.d hd1).2.1 lk_Do_20 d_Do_finish_38 (hR.d hd1).2.2.2.2.2.1 ?_
        refine g_iload_n O 1 d_Do_finish_41 rfl rfl ?_
        refine g_null O d_Do_finish_42 ?_
        first | refine g_aast (q := q_Ca) O 6 4 rfl rfl rfl (hR.d hd1).2.2.2.2.2.2.1 (by assumption) (by rw [(hR.d hd1).2.2.2.2.2.2.2.1]; exact ix_in hj (by omega)) d_Do_finish_43 ?_ | refine g_aastN (D := "CapabilityDomains$Capability") O 6 rfl rfl (hR.d hd1).2.2.2.2.2.2.1 (by rw [(hR.d hd1).2.2.2.2.2.2.2.1]; exact ix_in hj (by omega)) d_Do_finish_43 ?_ | refine g_aastq (q := q_Ca) O 6 4 rfl rfl rfl (hR.d hd1).2.2.2.2.2.2.1 (by assumption) (by rw [(hR.d hd1).2.2.2.2.2.2.2.1]; exact ix_in hj (by omega)) d_Do_finish_43 ?_
        first | refine g_iinc O d_Do_finish_44 rfl (ic1 _) ?_ | refine g_iinc O d_Do_finish_44 rfl rfl ?_
        refine g_goto O 31 d_Do_finish_47 (by decide) ?_
        refine ih _ ⟨?_, hF.tr (cd_Fr.wO (ow_at (k := 3) ⟨hd, rfl, rfl⟩))⟩
        rw [nI_clamp (by omega)]
        exact rep_S hR hd1 hj (r := none) (fun z hz => by cases hz)
  have loop : ∀ (j : Nat) (v : cd_Wd), j ≤ 12 → (cd_Rep v x A (itr (fun τ o => setT τ d o false) (setE σ d true) j) ∧ cd_Fr w v (cd_ow x A σ)) → cd_Go G l C (cd_MQ G (cx_s C) (cx_b C) 0 0 Q) (0) (0) v 7 [some (.ref (A 1 d 0 0)), some (.int (nI j))] [] := by
    refine lp (12) (P := fun j v => cd_Rep v x A (itr (fun τ o => setT τ d o false) (setE σ d true) j) ∧ cd_Fr w v (cd_ow x A σ)) (g := fun j v => cd_Go G l C (cd_MQ G (cx_s C) (cx_b C) 0 0 Q) (0) (0) v 7 [some (.ref (A 1 d 0 0)), some (.int (nI j))] []) (fun v hP => ?_) (fun j v hj hP ih => ?_)
    · skip
      refine g_iload_n O 1 d_Do_finish_7 rfl rfl ?_
      refine g_bipush (v := 12) O d_Do_finish_8 (by decide) ?_
      refine g_icmp_ge O 29 d_Do_finish_10 (by decide) (fun c10 => ?_) (fun c10 => ?_)
      · refine g_iconst (v := 0) O d_Do_finish_29 (by decide) ?_
        refine g_istore_n O 1 d_Do_finish_30 rfl (Nat.le_of_ble_eq_true rfl) ?_
        exact loop2 0 _ (by omega) hP
      · exact absurd (show (12 : Int32) ≤ nI 12 from by decide) c10
    · skip
      obtain ⟨hR, hF⟩ := hP
      have hd1 : d < sD (itr (fun τ o => setT τ d o false) (setE σ d true) j) := by rw [(setT_DC j).1]; exact hd
      refine g_iload_n O 1 d_Do_finish_7 rfl rfl ?_
      refine g_bipush (v := 12) O d_Do_finish_8 (by decide) ?_
      refine g_icmp_ge O 29 d_Do_finish_10 (by decide) (fun c10 => ?_) (fun c10 => ?_)
      · exact absurd c10 (nI_ge (b := 12) hj (by omega))
      · first | refine g_aload_n O 0 d_Do_finish_13 rfl rfl ?_ | refine g_aload_nq O 0 d_Do_finish_13 rfl rfl ?_
        refine g_getS O c_Do 1 (by decide) rfl (hR.d hd1).2.1 lk_Do_11 d_Do_finish_14 (hR.d hd1).2.2.1 ?_
        refine g_iload_n O 1 d_Do_finish_17 rfl rfl ?_
        refine g_aaldS O 4 rfl rfl (hR.d hd1).2.2.2.1 (by rw [(hR.d hd1).2.2.2.2.1]; exact ix_in hj (by omega)) d_Do_finish_18 (by rw [cl_nI (by omega)]; exact (hR.o hd1 hj).1) ?_
        refine g_iconst (v := 0) O d_Do_finish_19 (by decide) ?_
        refine g_putI O c_Ob 0 (by decide) rfl (hR.o hd1 hj).2.1 (Or.inr (by first | exact Or.inl rfl | exact Or.inr rfl | assumption)) (Or.inl rfl) lk_Do_24 d_Do_finish_20 ?_
        first | refine g_iinc O d_Do_finish_23 rfl (ic1 _) ?_ | refine g_iinc O d_Do_finish_23 rfl rfl ?_
        refine g_goto O 7 d_Do_finish_26 (by decide) ?_
        exact ih _ ⟨rep_T hR hd1 hj false, hF.tr (cd_Fr.wI (ow_at (k := 4) ⟨hd, hj, rfl⟩))⟩
  first | refine g_aload_n O 0 d_Do_finish_0 rfl rfl ?_ | refine g_aload_nq O 0 d_Do_finish_0 rfl rfl ?_
  refine g_iconst (v := 1) O d_Do_finish_1 (by decide) ?_
  refine g_putI O c_Do 0 (by decide) rfl (hR.d hd).2.1 (Or.inr (by first | exact Or.inl rfl | exact Or.inr rfl | assumption)) (Or.inl rfl) lk_Do_35 d_Do_finish_2 ?_
  refine g_iconst (v := 0) O d_Do_finish_5 (by decide) ?_
  refine g_istore_n O 1 d_Do_finish_6 rfl (Nat.le_of_ble_eq_true rfl) ?_
  exact loop 0 _ (by omega) ⟨rep_E hR hd true, cd_Fr.wI (ow_at (k := 1) ⟨hd, rfl, rfl⟩)⟩
set_option maxHeartbeats 4000000 in
set_option maxRecDepth 100000 in
theorem ct_Cd_livingDomains {G : cd_Gl} {l : Launch} {w : cd_Wd} {Q : cd_Out → cd_Wd → Prop} {x : Nat} {A : cd_A} {σ : cd_S} (hR : cd_Rep w x A σ) (h : Q (.inl (some (.int (nI (cnt (fun d => !sE σ d) (sD σ)))))) w) : cd_Ct G l y_Cd_livingDomains 0 0 0 [.ref x] w Q := by
  refine cd_ofW cw_Cd_livingDomains (by simp [Value.category, cat_rf]) (Nat.le_of_ble_eq_true rfl) fun C O => ?_
  change cd_Go G l C _ 0 0 w 0 [some (.ref x), none, none] []
  have hD6 := hR.top.2.2.2.2.2.2.2.2.2.2.2.2.2.2.2.2.2.2.2.1
  have loop : ∀ (j : Nat) (v : cd_Wd), j ≤ sD σ → (v = w) → cd_Go G l C (cd_MQ G (cx_s C) (cx_b C) 0 0 Q) (0) (0) v 4 [some (.ref x), some (.int (nI (cnt (fun d => !sE σ d) j))), some (.int (nI j))] [] := by
    refine lp (sD σ) (P := fun j v => v = w) (g := fun j v => cd_Go G l C (cd_MQ G (cx_s C) (cx_b C) 0 0 Q) (0) (0) v 4 [some (.ref x), some (.int (nI (cnt (fun d => !sE σ d) j))), some (.int (nI j))] []) (fun v hP => ?_) (fun j v hj hP ih => ?_)
    · skip
      subst hP
      refine g_iload_n O 2 d_Cd_livingDomains_4 rfl rfl ?_
      first | refine g_aload_n O 0 d_Cd_livingDomains_5 rfl rfl ?_ | refine g_aload_nq O 0 d_Cd_livingDomains_5 rfl rfl ?_
      refine g_getV O c_Cd 1 (by decide) rfl hR.top.1 lk_Cd_28 d_Cd_livingDomains_6 hR.top.2.2.2.2.2.2.2.2.2.2.2.2.2.2.2.2.2.2.1 ?_
      refine g_icmp_ge O 33 d_Cd_livingDomains_9 (by decide) (fun c9 => ?_) (fun c9 => ?_)
      · refine g_iload_n O 1 d_Cd_livingDomains_33 rfl rfl ?_
        refine g_iret O d_Cd_livingDomains_34 (Nat.le_of_ble_eq_true rfl) (Nat.le_of_ble_eq_true rfl) ?_
        exact h
      · exact absurd (Int32.le_refl _) c9
    · skip
      subst hP
      refine g_iload_n O 2 d_Cd_livingDomains_4 rfl rfl ?_
      first | refine g_aload_n O 0 d_Cd_livingDomains_5 rfl rfl ?_ | refine g_aload_nq O 0 d_Cd_livingDomains_5 rfl rfl ?_
      refine g_getV O c_Cd 1 (by decide) rfl hR.top.1 lk_Cd_28 d_Cd_livingDomains_6 hR.top.2.2.2.2.2.2.2.2.2.2.2.2.2.2.2.2.2.2.1 ?_
      refine g_icmp_ge O 33 d_Cd_livingDomains_9 (by decide) (fun c9 => ?_) (fun c9 => ?_)
      · exact absurd c9 (nI_ge (b := sD σ) hj (by omega))
      · first | refine g_aload_n O 0 d_Cd_livingDomains_12 rfl rfl ?_ | refine g_aload_nq O 0 d_Cd_livingDomains_12 rfl rfl ?_
        refine g_getS O c_Cd 0 (by decide) rfl hR.top.1 lk_Cd_11 d_Cd_livingDomains_13 hR.top.2.1 ?_
        refine g_iload_n O 2 d_Cd_livingDomains_16 rfl rfl ?_
        refine g_aaldS O 3 rfl rfl hR.top.2.2.1 (by rw [hR.top.2.2.2.1]; exact ix_in (Nat.lt_of_lt_of_le hj hR.top.2.2.2.2.2.2.2.2.2.2.2.2.2.2.2.2.2.2.2.1) (by omega)) d_Cd_livingDomains_17 (by rw [cl_nI (by omega)]; exact (hR.d hj).1) ?_
        refine g_getV O c_Do 0 (by decide) rfl (hR.d hj).2.1 lk_Cd_224 d_Cd_livingDomains_18 (hR.d hj).2.2.2.2.2.2.2.2 ?_
        refine g_if_ne O 27 d_Cd_livingDomains_21 (by decide) (fun c21 => ?_) (fun c21 => ?_)
        · have e1 := cnt_f (p := fun d => !sE σ d) (j := j) (by simp [cd_b_ne.mp c21])
          first | refine g_iinc O d_Cd_livingDomains_27 rfl (ic1 _) ?_ | refine g_iinc O d_Cd_livingDomains_27 rfl rfl ?_
          refine g_goto O 4 d_Cd_livingDomains_30 (by decide) ?_
          have e := ih v rfl
          rw [e1] at e
          exact e
        · have e1 := cnt_t (p := fun d => !sE σ d) (j := j) (by simp [cd_b_eq.mp c21])
          first | refine g_iinc O d_Cd_livingDomains_24 rfl (ic1 _) ?_ | refine g_iinc O d_Cd_livingDomains_24 rfl rfl ?_
          first | refine g_iinc O d_Cd_livingDomains_27 rfl (ic1 _) ?_ | refine g_iinc O d_Cd_livingDomains_27 rfl rfl ?_
          refine g_goto O 4 d_Cd_livingDomains_30 (by decide) ?_
          have e := ih v rfl
          rw [e1] at e
          exact e
  refine g_iconst (v := 0) O d_Cd_livingDomains_0 (by decide) ?_
  refine g_istore_n O 1 d_Cd_livingDomains_1 rfl (Nat.le_of_ble_eq_true rfl) ?_
  refine g_iconst (v := 0) O d_Cd_livingDomains_2 (by decide) ?_
  refine g_istore_n O 2 d_Cd_livingDomains_3 rfl (Nat.le_of_ble_eq_true rfl) ?_
  exact loop 0 _ (by omega) rfl
set_option maxHeartbeats 4000000 in
set_option maxRecDepth 100000 in
theorem ct_Cd_livingCapabilities {G : cd_Gl} {l : Launch} {w : cd_Wd} {Q : cd_Out → cd_Wd → Prop} {x : Nat} {A : cd_A} {σ : cd_S} (hR : cd_Rep w x A σ) (h : Q (.inl (some (.int (nI (cnt (fun c => !kX σ c) (sC σ)))))) w) : cd_Ct G l y_Cd_livingCapabilities 0 0 0 [.ref x] w Q := by
  refine cd_ofW cw_Cd_livingCapabilities (by simp [Value.category, cat_rf]) (Nat.le_of_ble_eq_true rfl) fun C O => ?_
  change cd_Go G l C _ 0 0 w 0 [some (.ref x), none, none] []
  have hC40 := hR.top.2.2.2.2.2.2.2.2.2.2.2.2.2.2.2.2.2.2.2.2.2
  have loop : ∀ (j : Nat) (v : cd_Wd), j ≤ sC σ → (v = w) → cd_Go G l C (cd_MQ G (cx_s C) (cx_b C) 0 0 Q) (0) (0) v 4 [some (.ref x), some (.int (nI (cnt (fun c => !kX σ c) j))), some (.int (nI j))] [] := by
    refine lp (sC σ) (P := fun j v => v = w) (g := fun j v => cd_Go G l C (cd_MQ G (cx_s C) (cx_b C) 0 0 Q) (0) (0) v 4 [some (.ref x), some (.int (nI (cnt (fun c => !kX σ c) j))), some (.int (nI j))] []) (fun v hP => ?_) (fun j v hj hP ih => ?_)
    · skip
      subst hP
      refine g_iload_n O 2 d_Cd_livingCapabilities_4 rfl rfl ?_
      first | refine g_aload_n O 0 d_Cd_livingCapabilities_5 rfl rfl ?_ | refine g_aload_nq O 0 d_Cd_livingCapabilities_5 rfl rfl ?_
      refine g_getV O c_Cd 3 (by decide) rfl hR.top.1 lk_Cd_233 d_Cd_livingCapabilities_6 hR.top.2.2.2.2.2.2.2.2.2.2.2.2.2.2.2.2.2.2.2.2.1 ?_
      refine g_icmp_ge O 33 d_Cd_livingCapabilities_9 (by decide) (fun c9 => ?_) (fun c9 => ?_)
      · refine g_iload_n O 1 d_Cd_livingCapabilities_33 rfl rfl ?_
        refine g_iret O d_Cd_livingCapabilities_34 (Nat.le_of_ble_eq_true rfl) (Nat.le_of_ble_eq_true rfl) ?_
        exact h
      · exact absurd (Int32.le_refl _) c9
    · skip
      subst hP
      refine g_iload_n O 2 d_Cd_livingCapabilities_4 rfl rfl ?_
      first | refine g_aload_n O 0 d_Cd_livingCapabilities_5 rfl rfl ?_ | refine g_aload_nq O 0 d_Cd_livingCapabilities_5 rfl rfl ?_
      refine g_getV O c_Cd 3 (by decide) rfl hR.top.1 lk_Cd_233 d_Cd_livingCapabilities_6 hR.top.2.2.2.2.2.2.2.2.2.2.2.2.2.2.2.2.2.2.2.2.1 ?_
      refine g_icmp_ge O 33 d_Cd_livingCapabilities_9 (by decide) (fun c9 => ?_) (fun c9 => ?_)
      · exact absurd c9 (nI_ge (b := sC σ) hj (by omega))
      · first | refine g_aload_n O 0 d_Cd_livingCapabilities_12 rfl rfl ?_ | refine g_aload_nq O 0 d_Cd_livingCapabilities_12 rfl rfl ?_
        refine g_getS O c_Cd 2 (by decide) rfl hR.top.1 lk_Cd_17 d_Cd_livingCapabilities_13 hR.top.2.2.2.2.1 ?_
        refine g_iload_n O 2 d_Cd_livingCapabilities_16 rfl rfl ?_
        refine g_aaldS O 6 rfl rfl hR.top.2.2.2.2.2.1 (by rw [hR.top.2.2.2.2.2.2.1]; exact ix_in (Nat.lt_of_lt_of_le hj hR.top.2.2.2.2.2.2.2.2.2.2.2.2.2.2.2.2.2.2.2.2.2) (by omega)) d_Cd_livingCapabilities_17 (by rw [cl_nI (by omega)]; exact (hR.c hj).1) ?_
        refine g_getV O c_Ca 6 (by decide) rfl (hR.c hj).2.1 lk_Cd_116 d_Cd_livingCapabilities_18 (hR.c hj).2.2.2.2.2.2.2.2 ?_
        refine g_if_ne O 27 d_Cd_livingCapabilities_21 (by decide) (fun c21 => ?_) (fun c21 => ?_)
        · have e1 := cnt_f (p := fun c => !kX σ c) (j := j) (by simp [cd_b_ne.mp c21])
          first | refine g_iinc O d_Cd_livingCapabilities_27 rfl (ic1 _) ?_ | refine g_iinc O d_Cd_livingCapabilities_27 rfl rfl ?_
          refine g_goto O 4 d_Cd_livingCapabilities_30 (by decide) ?_
          have e := ih v rfl
          rw [e1] at e
          exact e
        · have e1 := cnt_t (p := fun c => !kX σ c) (j := j) (by simp [cd_b_eq.mp c21])
          first | refine g_iinc O d_Cd_livingCapabilities_24 rfl (ic1 _) ?_ | refine g_iinc O d_Cd_livingCapabilities_24 rfl rfl ?_
          first | refine g_iinc O d_Cd_livingCapabilities_27 rfl (ic1 _) ?_ | refine g_iinc O d_Cd_livingCapabilities_27 rfl rfl ?_
          refine g_goto O 4 d_Cd_livingCapabilities_30 (by decide) ?_
          have e := ih v rfl
          rw [e1] at e
          exact e
  refine g_iconst (v := 0) O d_Cd_livingCapabilities_0 (by decide) ?_
  refine g_istore_n O 1 d_Cd_livingCapabilities_1 rfl (Nat.le_of_ble_eq_true rfl) ?_
  refine g_iconst (v := 0) O d_Cd_livingCapabilities_2 (by decide) ?_
  refine g_istore_n O 2 d_Cd_livingCapabilities_3 rfl (Nat.le_of_ble_eq_true rfl) ?_
  exact loop 0 _ (by omega) rfl
set_option maxHeartbeats 4000000 in
set_option maxRecDepth 100000 in
theorem ct_Cd_objectsOf {G : cd_Gl} {l : Launch} {w : cd_Wd} {Q : cd_Out → cd_Wd → Prop} {x : Nat} {A : cd_A} {σ : cd_S} (hR : cd_Rep w x A σ) {d : Int32} (h : Q (.inl (some (.int (if isD σ d = true then nI (cnt (sT σ d.toNatClampNeg) 12) else 0)))) w) : cd_Ct G l y_Cd_objectsOf 1 0 0 [.ref x, .int d] w Q := by
  refine cd_ofW cw_Cd_objectsOf (by simp [Value.category, cat_rf]) (Nat.le_of_ble_eq_true rfl) fun C O => ?_
  change cd_Go G l C _ 0 0 w 0 [some (.ref x), some (.int d)] []
  first | refine g_aload_n O 0 d_Cd_objectsOf_0 rfl rfl ?_ | refine g_aload_nq O 0 d_Cd_objectsOf_0 rfl rfl ?_
  refine g_iload_n O 1 d_Cd_objectsOf_1 rfl rfl ?_
  refine g_callv (N := 0) (mc := 0) (ms := 0) (av := [_]) O (Or.inl ⟨_, _, cw_Cd_isDomain⟩) pl_Cd (ci := 0) (q := q_Cd) rfl hR.top.1 ml_Cd_221 im_Cd_isDomain se_Cd_isDomain rfl d_Cd_objectsOf_2 rfl (Nat.le_of_ble_eq_true rfl) (Nat.le_of_ble_eq_true rfl) (Nat.le_of_ble_eq_true rfl) (Nat.le_of_ble_eq_true rfl) ?_
  refine ct_Cd_isDomain hR ?_
  change cd_Go _ _ _ _ _ _ _ _ _ _
  refine g_if_eq O 20 d_Cd_objectsOf_5 (by decide) (fun c5 => ?_) (fun c5 => ?_)
  · rw [if_neg (by rw [cd_b_eq.mp c5]; decide)] at h
    refine g_iconst (v := 0) O d_Cd_objectsOf_20 (by decide) ?_
    refine g_iret O d_Cd_objectsOf_21 (Nat.le_of_ble_eq_true rfl) (Nat.le_of_ble_eq_true rfl) ?_
    exact h
  · rw [if_pos (cd_b_ne.mp c5)] at h
    obtain ⟨j, hj, rfl⟩ := isD_of hR.top.2.2.2.2.2.2.2.2.2.2.2.2.2.2.2.2.2.2.2.1 (cd_b_ne.mp c5)
    have hcl : (nI j).toNatClampNeg = j := nI_clamp (by have := hR.top.2.2.2.2.2.2.2.2.2.2.2.2.2.2.2.2.2.2.2.1; omega)
    rw [hcl] at h
    first | refine g_aload_n O 0 d_Cd_objectsOf_8 rfl rfl ?_ | refine g_aload_nq O 0 d_Cd_objectsOf_8 rfl rfl ?_
    refine g_getS O c_Cd 0 (by decide) rfl hR.top.1 lk_Cd_11 d_Cd_objectsOf_9 hR.top.2.1 ?_
    refine g_iload_n O 1 d_Cd_objectsOf_12 rfl rfl ?_
    refine g_aaldS O 3 rfl rfl hR.top.2.2.1 (by rw [hR.top.2.2.2.1]; exact ix_in (Nat.lt_of_lt_of_le hj hR.top.2.2.2.2.2.2.2.2.2.2.2.2.2.2.2.2.2.2.2.1) (by omega)) d_Cd_objectsOf_13 (by rw [hcl]; exact (hR.d hj).1) ?_
    refine g_callv (N := 0) (mc := 0) (ms := 0) (av := []) O (Or.inl ⟨_, _, cw_Do_objectCount⟩) pl_Do (ci := 1) (q := q_Do) rfl (hR.d hj).2.1 ml_Cd_44 im_Do_objectCount se_Do_objectCount rfl d_Cd_objectsOf_14 rfl (Nat.le_of_ble_eq_true rfl) (Nat.le_of_ble_eq_true rfl) (Nat.le_of_ble_eq_true rfl) (Nat.le_of_ble_eq_true rfl) ?_
    refine ct_Do_objectCount hR hj ?_
    change cd_Go _ _ _ _ _ _ _ _ _ _
    refine g_goto O 21 d_Cd_objectsOf_17 (by decide) ?_
    refine g_iret O d_Cd_objectsOf_21 (Nat.le_of_ble_eq_true rfl) (Nat.le_of_ble_eq_true rfl) ?_
    exact h
set_option maxHeartbeats 4000000 in
set_option maxRecDepth 100000 in
theorem ct_Cd_spreadDeath {G : cd_Gl} {l : Launch} {w : cd_Wd} {Q : cd_Out → cd_Wd → Prop} {x : Nat} {A : cd_A} {σ : cd_S} (hR : cd_Rep w x A σ) (h : ∀ w', cd_Rep w' x A (sprd σ).1 → cd_Fr w w' (cd_ow x A σ) → Q (.inl (some (.int (nI (sprd σ).2)))) w') : cd_Ct G l y_Cd_spreadDeath 2 0 0 [.ref x] w Q := by
  refine cd_ofW cw_Cd_spreadDeath (by simp [Value.category, cat_rf]) (Nat.le_of_ble_eq_true rfl) fun C O => ?_
  change cd_Go G l C _ 0 0 w 0 [some (.ref x), none, none, none] []
  have hC40 := hR.top.2.2.2.2.2.2.2.2.2.2.2.2.2.2.2.2.2.2.2.2.2
  have loop : ∀ (j : Nat) (v : cd_Wd), j ≤ sC σ → (cd_Rep v x A (itr sp1 (σ, 0) j).1 ∧ cd_Fr w v (cd_ow x A σ)) → cd_Go G l C (cd_MQ G (cx_s C) (cx_b C) 0 0 Q) (0) (0) v 4 [some (.ref x), some (.int (nI (itr sp1 (σ, 0) j).2)), some (.int (nI j)), none] [] := by
    refine lp (sC σ) (P := fun j v => cd_Rep v x A (itr sp1 (σ, 0) j).1 ∧ cd_Fr w v (cd_ow x A σ)) (g := fun j v => cd_Go G l C (cd_MQ G (cx_s C) (cx_b C) 0 0 Q) (0) (0) v 4 [some (.ref x), some (.int (nI (itr sp1 (σ, 0) j).2)), some (.int (nI j)), none] []) (fun v hP => ?_) (fun j v hj hP ih => ?_)
    · skip
      refine g_iload_n O 2 d_Cd_spreadDeath_4 rfl rfl ?_
      first | refine g_aload_n O 0 d_Cd_spreadDeath_5 rfl rfl ?_ | refine g_aload_nq O 0 d_Cd_spreadDeath_5 rfl rfl ?_
      refine g_getV O c_Cd 3 (by decide) rfl hP.1.top.1 lk_Cd_233 d_Cd_spreadDeath_6 (show cd_I v 3 x 0 = nI (sC σ) from by rw [← (sprd_DC σ (sC σ)).2]; exact hP.1.top.2.2.2.2.2.2.2.2.2.2.2.2.2.2.2.2.2.2.2.2.1) ?_
      refine g_icmp_ge O 47 d_Cd_spreadDeath_9 (by decide) (fun c9 => ?_) (fun c9 => ?_)
      · refine g_iload_n O 1 d_Cd_spreadDeath_47 rfl rfl ?_
        refine g_iret O d_Cd_spreadDeath_48 (Nat.le_of_ble_eq_true rfl) (Nat.le_of_ble_eq_true rfl) ?_
        exact h v hP.1 hP.2
      · exact absurd (Int32.le_refl _) c9
    · skip
      obtain ⟨hR, hF⟩ := hP
      have hDC := sprd_DC σ j
      have hj1 : j < sC (itr sp1 (σ, 0) j).1 := by rw [hDC.2]; exact hj
      refine g_iload_n O 2 d_Cd_spreadDeath_4 rfl rfl ?_
      first | refine g_aload_n O 0 d_Cd_spreadDeath_5 rfl rfl ?_ | refine g_aload_nq O 0 d_Cd_spreadDeath_5 rfl rfl ?_
      refine g_getV O c_Cd 3 (by decide) rfl hR.top.1 lk_Cd_233 d_Cd_spreadDeath_6 (show cd_I v 3 x 0 = nI (sC σ) from by rw [← hDC.2]; exact hR.top.2.2.2.2.2.2.2.2.2.2.2.2.2.2.2.2.2.2.2.2.1) ?_
      refine g_icmp_ge O 47 d_Cd_spreadDeath_9 (by decide) (fun c9 => ?_) (fun c9 => ?_)
      · exact absurd c9 (nI_ge (b := sC σ) hj (by omega))
      · first | refine g_aload_n O 0 d_Cd_spreadDeath_12 rfl rfl ?_ | refine g_aload_nq O 0 d_Cd_spreadDeath_12 rfl rfl ?_
        refine g_getS O c_Cd 2 (by decide) rfl hR.top.1 lk_Cd_17 d_Cd_spreadDeath_13 hR.top.2.2.2.2.1 ?_
        refine g_iload_n O 2 d_Cd_spreadDeath_16 rfl rfl ?_
        refine g_aaldS O 6 rfl rfl hR.top.2.2.2.2.2.1 (by rw [hR.top.2.2.2.2.2.2.1]; exact ix_in (show j < 40 by omega) (by omega)) d_Cd_spreadDeath_17 (by rw [cl_nI (by omega)]; exact (hR.c hj1).1) ?_
        first | refine g_astore_n O 3 d_Cd_spreadDeath_18 rfl (Nat.le_of_ble_eq_true rfl) ?_ | refine g_astore_nq O 3 d_Cd_spreadDeath_18 rfl (Nat.le_of_ble_eq_true rfl) ?_
        first | refine g_aload_n O 3 d_Cd_spreadDeath_19 rfl rfl ?_ | refine g_aload_nq O 3 d_Cd_spreadDeath_19 rfl rfl ?_
        refine g_getV O c_Ca 6 (by decide) rfl (hR.c hj1).2.1 lk_Cd_116 d_Cd_spreadDeath_20 (hR.c hj1).2.2.2.2.2.2.2.2 ?_
        refine g_if_ne O 41 d_Cd_spreadDeath_23 (by decide) (fun c23 => ?_) (fun c23 => ?_)
        · have e1 : itr sp1 (σ, 0) (j + 1) = (itr sp1 (σ, 0) j) := by rw [itr_s]; exact if_neg (fun z => by rw [cd_b_ne.mp c23] at z; exact absurd z.1 (by decide))
          refine g_fg 3 ?_
          first | refine g_iinc O d_Cd_spreadDeath_41 rfl (ic1 _) ?_ | refine g_iinc O d_Cd_spreadDeath_41 rfl rfl ?_
          refine g_goto O 4 d_Cd_spreadDeath_44 (by decide) ?_
          first
            | (have e := ih _ ⟨by rw [e1]; exact hR, hF⟩
               rw [e1] at e
               exact e)
            | (have e := ih _ ⟨by rw [e1]; exact rep_X hR hj1 true, hF.tr (cd_Fr.wI (ow_at (k := 8) ⟨hj, rfl, rfl⟩))⟩
               rw [e1] at e
               exact e)
        · first | refine g_aload_n O 3 d_Cd_spreadDeath_26 rfl rfl ?_ | refine g_aload_nq O 3 d_Cd_spreadDeath_26 rfl rfl ?_
          refine g_callv (N := 1) (mc := 0) (ms := 0) (av := []) O (Or.inl ⟨_, _, cw_Ca_mustDie⟩) pl_Ca (ci := 4) (q := q_Ca) rfl (hR.c hj1).2.1 ml_Cd_266 im_Ca_mustDie se_Ca_mustDie rfl d_Cd_spreadDeath_27 rfl (Nat.le_of_ble_eq_true rfl) (Nat.le_of_ble_eq_true rfl) (Nat.le_of_ble_eq_true rfl) (Nat.le_of_ble_eq_true rfl) ?_
          refine ct_Ca_mustDie hR hj1 ?_
          change cd_Go _ _ _ _ _ _ _ _ _ _
          refine g_if_eq O 41 d_Cd_spreadDeath_30 (by decide) (fun c30 => ?_) (fun c30 => ?_)
          · have e1 : itr sp1 (σ, 0) (j + 1) = (itr sp1 (σ, 0) j) := by rw [itr_s]; exact if_neg (fun z => by rw [cd_b_eq.mp c30] at z; exact absurd z.2 (by decide))
            refine g_fg 3 ?_
            first | refine g_iinc O d_Cd_spreadDeath_41 rfl (ic1 _) ?_ | refine g_iinc O d_Cd_spreadDeath_41 rfl rfl ?_
            refine g_goto O 4 d_Cd_spreadDeath_44 (by decide) ?_
            first
              | (have e := ih _ ⟨by rw [e1]; exact hR, hF⟩
                 rw [e1] at e
                 exact e)
              | (have e := ih _ ⟨by rw [e1]; exact rep_X hR hj1 true, hF.tr (cd_Fr.wI (ow_at (k := 8) ⟨hj, rfl, rfl⟩))⟩
                 rw [e1] at e
                 exact e)
          · have e1 : itr sp1 (σ, 0) (j + 1) = (setX (itr sp1 (σ, 0) j).1 j true, (itr sp1 (σ, 0) j).2 + 1) := by rw [itr_s]; exact if_pos ⟨cd_b_eq.mp c23, cd_b_ne.mp c30⟩
            first | refine g_aload_n O 3 d_Cd_spreadDeath_33 rfl rfl ?_ | refine g_aload_nq O 3 d_Cd_spreadDeath_33 rfl rfl ?_
            refine g_iconst (v := 1) O d_Cd_spreadDeath_34 (by decide) ?_
            refine g_putI O c_Ca 6 (by decide) rfl (hR.c hj1).2.1 (Or.inr (by first | exact Or.inl rfl | exact Or.inr rfl | assumption)) (Or.inl rfl) lk_Cd_116 d_Cd_spreadDeath_35 ?_
            first | refine g_iinc O d_Cd_spreadDeath_38 rfl (ic1 _) ?_ | refine g_iinc O d_Cd_spreadDeath_38 rfl rfl ?_
            refine g_fg 3 ?_
            first | refine g_iinc O d_Cd_spreadDeath_41 rfl (ic1 _) ?_ | refine g_iinc O d_Cd_spreadDeath_41 rfl rfl ?_
            refine g_goto O 4 d_Cd_spreadDeath_44 (by decide) ?_
            first
              | (have e := ih _ ⟨by rw [e1]; exact hR, hF⟩
                 rw [e1] at e
                 exact e)
              | (have e := ih _ ⟨by rw [e1]; exact rep_X hR hj1 true, hF.tr (cd_Fr.wI (ow_at (k := 8) ⟨hj, rfl, rfl⟩))⟩
                 rw [e1] at e
                 exact e)
  refine g_iconst (v := 0) O d_Cd_spreadDeath_0 (by decide) ?_
  refine g_istore_n O 1 d_Cd_spreadDeath_1 rfl (Nat.le_of_ble_eq_true rfl) ?_
  refine g_iconst (v := 0) O d_Cd_spreadDeath_2 (by decide) ?_
  refine g_istore_n O 2 d_Cd_spreadDeath_3 rfl (Nat.le_of_ble_eq_true rfl) ?_
  exact loop 0 _ (by omega) ⟨hR, cd_Fr.rf⟩
