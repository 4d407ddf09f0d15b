/-- what is so after the law's own call -/
def LC (w : cd_Wd) (x : Nat) (A : cd_A) (σ : cd_S) (ou : Nat) (r : cd_R) (Q : cd_Out → cd_Wd → Prop) : Prop := ∀ w' A', cd_Rep w' x A' r.2.2 → cd_Fr w w' (fun y => cd_ow x A σ y ∨ y = ou) → (∀ a, cd_ow x A' r.2.2 a → cd_ow x A σ a ∨ cd_kd w a = 0) → (r.1 = 0 → cd_J w' ou 0 = r.2.1.toInt64) → Q (.inl (some (.int (nI r.1)))) w'
theorem LC.fail {w w2 : cd_Wd} {x : Nat} {A A2 : cd_A} {σ τ : cd_S} {ou c : Nat} {a : Int32} {Q : cd_Out → cd_Wd → Prop} (h : LC w x A σ ou (c, a, τ) Q) (hc : c ≠ 0) (hCO : CO w x A σ w2 A2 τ) : Q (.inl (some (.int (nI c)))) w2 :=
  h w2 A2 hCO.1 (hCO.2.1.up fun _ _ z => Or.inl z) hCO.2.2 (fun z => absurd z hc)
theorem LC.ok {w w2 : cd_Wd} {x : Nat} {A A2 : cd_A} {σ τ : cd_S} {ou : Nat} {a : Int32} {Q : cd_Out → cd_Wd → Prop} (h : LC w x A σ ou (0, a, τ) Q) (hk : cd_kd w ou = 5) (hou : ¬ cd_ow x A σ ou) (hCO : CO w x A σ w2 A2 τ) : Q (.inl (some (.int 0))) (cd_wJ w2 ou (0 : Int32).toNatClampNeg a.toInt64) := by
  have h0 : (0 : Int32).toNatClampNeg = 0 := by decide
  rw [h0]
  refine h _ A2 (rep_fr hCO.1 (cd_Fr.wJ (P := fun y => y = ou) rfl) fun y hy e => ?_) ((hCO.2.1.up fun _ _ z => Or.inl z).tr (cd_Fr.wJ (Or.inr rfl))) hCO.2.2 (fun _ => by rw [J_wJ, if_pos ⟨rfl, rfl⟩])
  subst e
  rcases hCO.2.2 y hy with z | z
  · exact hou z
  · rw [hk] at z; cases z
theorem CO.ou {w w2 : cd_Wd} {x : Nat} {A A2 : cd_A} {σ τ : cd_S} {ou : Nat} (hk : cd_kd w ou = 5) (hl : cd_ln w ou = 1) (hCO : CO w x A σ w2 A2 τ) : cd_kd w2 ou = 5 ∧ cd_ln w2 ou = 1 := ⟨(hCO.2.1.k (by rw [hk]; decide)).trans hk, (hCO.2.1.l (by rw [hk]; decide)).trans hl⟩
theorem vin0 {w : cd_Wd} {a : Nat} (e : cd_ln w a = 1) : vp_in 0 (cd_ln w a) := by rw [e]; exact ix_in (j := 0) (n := 1) (by omega) (by omega)
theorem cdn_domain (σ : cd_S) : (sp_domain σ).1 ≤ 1 := by
  simp only [sp_domain]
  repeat' split
  all_goals exact Nat.le_of_ble_eq_true rfl
set_option maxHeartbeats 4000000 in
set_option maxRecDepth 100000 in
theorem lw_domain {G : cd_Gl} {l : Launch} {w : cd_Wd} {Q : cd_Out → cd_Wd → Prop} (hst : l.stackTraces = false) {x ou : Nat} {A : cd_A} {σ : cd_S} (hR : cd_Rep w x A σ) (hI : cd_Iv σ) (hk : cd_kd w ou = 5) (hl1 : cd_ln w ou = 1) (hou : ¬ cd_ow x A σ ou) {r : cd_R} (hr : sp_domain σ = r) (h : LC w x A σ ou r Q) : cd_Ct G l y_La_domain 7 64 200 [.ref x, .ref ou] w Q := by
  refine cd_ofWX cw_La_domain (by simp [Value.category, cat_rf]) (Nat.le_of_ble_eq_true rfl) fun C O => ?_
  change cd_Go G l C _ 0 0 w 0 [some (.ref x), some (.ref ou), none] []
  first | refine g_aload_n O 1 d_La_domain_0 rfl rfl ?_ | refine g_aload_nq O 1 d_La_domain_0 rfl rfl ?_
  refine g_iconst (v := 0) O d_La_domain_1 (by decide) ?_
  first | refine g_aload_n O 0 d_La_domain_2 rfl rfl ?_ | refine g_aload_nq O 0 d_La_domain_2 rfl rfl ?_
  refine g_callv (N := 6) (mc := 64) (ms := 200) (av := []) O (Or.inl ⟨_, _, cw_Cd_domain⟩) pl_Cd (ci := 0) (q := q_Cd) rfl hR.top.1 ml_La_7 im_Cd_domain se_Cd_domain rfl d_La_domain_3 rfl (Nat.le_of_ble_eq_true rfl) (Nat.le_of_ble_eq_true rfl) (Nat.le_of_ble_eq_true rfl) (Nat.le_of_ble_eq_true rfl) ?_
  refine op_domain hst hR hI hr (fun w2 A2 hCO => ?_)
  have hle := cdn_domain σ
  rw [hr] at hle
  obtain ⟨c, a, τ⟩ := r
  simp only at hCO hle
  have hcase : c = 0 ∨ c = 1 := by omega
  obtain ⟨hk2, hl2⟩ := CO.ou hk hl1 hCO
  rcases hcase with rfl | rfl
  · change cd_Go _ _ _ _ _ _ _ _ _ _
    refine g_i2l O d_La_domain_6 rfl ?_
    refine g_last O 2 rfl rfl hk2 (vin0 hl2) d_La_domain_7 ?_
    refine g_goto O 14 d_La_domain_8 (by decide) ?_
    refine g_iconst (v := 0) O d_La_domain_14 (by decide) ?_
    refine g_iret O d_La_domain_15 (Nat.le_of_ble_eq_true rfl) (Nat.le_of_ble_eq_true rfl) ?_
    exact h.ok hk hou hCO
  · refine gx_catch (E := 2) O 11 (fun th hth pl hpl => sk_hit hpl O (nm := cd_ex 2) hth (by decide) (by decide) kl_La_13 ca_IllegalStateException) (fun xx => ?_)
    first | refine g_astore_n O 2 d_La_domain_11 rfl (Nat.le_of_ble_eq_true rfl) ?_ | refine g_astore_nq O 2 d_La_domain_11 rfl (Nat.le_of_ble_eq_true rfl) ?_
    refine g_iconst (v := 1) O d_La_domain_12 (by decide) ?_
    refine g_iret O d_La_domain_13 (Nat.le_of_ble_eq_true rfl) (Nat.le_of_ble_eq_true rfl) ?_
    exact h.fail (by decide) hCO
theorem cdn_object (σ : cd_S) (d : Int32) : (sp_object σ d).1 ≤ 3 := by
  simp only [sp_object, rD]
  repeat' split
  all_goals exact Nat.le_of_ble_eq_true rfl
set_option maxHeartbeats 4000000 in
set_option maxRecDepth 100000 in
theorem lw_object {G : cd_Gl} {l : Launch} {w : cd_Wd} {Q : cd_Out → cd_Wd → Prop} (hst : l.stackTraces = false) {x ou : Nat} {A : cd_A} {σ : cd_S} (hR : cd_Rep w x A σ) (hI : cd_Iv σ) (hk : cd_kd w ou = 5) (hl1 : cd_ln w ou = 1) (hou : ¬ cd_ow x A σ ou) {d : Int32} {r : cd_R} (hr : sp_object σ d = r) (h : LC w x A σ ou r Q) : cd_Ct G l y_La_object 8 2 12 [.ref x, .int d, .ref ou] w Q := by
  refine cd_ofWX cw_La_object (by simp [Value.category, cat_rf]) (Nat.le_of_ble_eq_true rfl) fun C O => ?_
  change cd_Go G l C _ 0 0 w 0 [some (.ref x), some (.int d), some (.ref ou), none] []
  first | refine g_aload_n O 2 d_La_object_0 rfl rfl ?_ | refine g_aload_nq O 2 d_La_object_0 rfl rfl ?_
  refine g_iconst (v := 0) O d_La_object_1 (by decide) ?_
  first | refine g_aload_n O 0 d_La_object_2 rfl rfl ?_ | refine g_aload_nq O 0 d_La_object_2 rfl rfl ?_
  refine g_iload_n O 1 d_La_object_3 rfl rfl ?_
  refine g_callv (N := 7) (mc := 2) (ms := 12) (av := [_]) O (Or.inl ⟨_, _, cw_Cd_object⟩) pl_Cd (ci := 0) (q := q_Cd) rfl hR.top.1 ml_La_15 im_Cd_object se_Cd_object rfl d_La_object_4 rfl (Nat.le_of_ble_eq_true rfl) (Nat.le_of_ble_eq_true rfl) (Nat.le_of_ble_eq_true rfl) (Nat.le_of_ble_eq_true rfl) ?_
  refine op_object hst hR hr (fun w2 A2 hCO => ?_)
  have hle := cdn_object σ d
  rw [hr] at hle
  obtain ⟨c, a, τ⟩ := r
  simp only at hCO hle
  have hcase : c = 0 ∨ c = 1 ∨ c = 2 ∨ c = 3 := by omega
  obtain ⟨hk2, hl2⟩ := CO.ou hk hl1 hCO
  rcases hcase with rfl | rfl | rfl | rfl
  · change cd_Go _ _ _ _ _ _ _ _ _ _
    refine g_i2l O d_La_object_7 rfl ?_
    refine g_last O 2 rfl rfl hk2 (vin0 hl2) d_La_object_8 ?_
    refine g_goto O 21 d_La_object_9 (by decide) ?_
    refine g_iconst (v := 0) O d_La_object_21 (by decide) ?_
    refine g_iret O d_La_object_22 (Nat.le_of_ble_eq_true rfl) (Nat.le_of_ble_eq_true rfl) ?_
    exact h.ok hk hou hCO
  · refine gx_catch (E := 1) O 12 (fun th hth pl hpl => sk_hit hpl O (nm := cd_ex 1) hth (by decide) (by decide) kl_La_19 ca_IllegalArgumentException) (fun xx => ?_)
    first | refine g_astore_n O 3 d_La_object_12 rfl (Nat.le_of_ble_eq_true rfl) ?_ | refine g_astore_nq O 3 d_La_object_12 rfl (Nat.le_of_ble_eq_true rfl) ?_
    refine g_iconst (v := 1) O d_La_object_13 (by decide) ?_
    refine g_iret O d_La_object_14 (Nat.le_of_ble_eq_true rfl) (Nat.le_of_ble_eq_true rfl) ?_
    exact h.fail (by decide) hCO
  · refine gx_catch (E := 2) O 15 (fun th hth pl hpl => sk_pass hpl O (nm := cd_ex 2) (nm' := cd_ex 1) hth (by decide) (by decide) kl_La_19 (O.2.2.2.2.2.2.2.1.2.2.2.2.2.2 2 1 (by omega) (by omega) (by omega) (by omega) (by omega)) (sk_hit hpl O (nm := cd_ex 2) hth (by decide) (by decide) kl_La_13 ca_IllegalStateException)) (fun xx => ?_)
    first | refine g_astore_n O 3 d_La_object_15 rfl (Nat.le_of_ble_eq_true rfl) ?_ | refine g_astore_nq O 3 d_La_object_15 rfl (Nat.le_of_ble_eq_true rfl) ?_
    refine g_iconst (v := 2) O d_La_object_16 (by decide) ?_
    refine g_iret O d_La_object_17 (Nat.le_of_ble_eq_true rfl) (Nat.le_of_ble_eq_true rfl) ?_
    exact h.fail (by decide) hCO
  · refine gx_catch (E := 6) O 18 (fun th hth pl hpl => sk_pass hpl O (nm := cd_ex 6) (nm' := cd_ex 1) hth (by decide) (by decide) kl_La_19 (O.2.2.2.2.2.2.2.1.2.2.2.2.2.2 6 1 (by omega) (by omega) (by omega) (by omega) (by omega)) (sk_pass hpl O (nm := cd_ex 6) (nm' := cd_ex 2) hth (by decide) (by decide) kl_La_13 (O.2.2.2.2.2.2.2.1.2.2.2.2.2.2 6 2 (by omega) (by omega) (by omega) (by omega) (by omega)) (sk_hit hpl O (nm := cd_ex 6) hth (by decide) (by decide) kl_La_21 ca_ArithmeticException))) (fun xx => ?_)
    first | refine g_astore_n O 3 d_La_object_18 rfl (Nat.le_of_ble_eq_true rfl) ?_ | refine g_astore_nq O 3 d_La_object_18 rfl (Nat.le_of_ble_eq_true rfl) ?_
    refine g_iconst (v := 3) O d_La_object_19 (by decide) ?_
    refine g_iret O d_La_object_20 (Nat.le_of_ble_eq_true rfl) (Nat.le_of_ble_eq_true rfl) ?_
    exact h.fail (by decide) hCO
theorem cdn_set (σ : cd_S) (d o f v : Int32) : (sp_set σ d o f v).1 ≤ 4 := by
  simp only [sp_set, rD, rF]
  repeat' split
  all_goals exact Nat.le_of_ble_eq_true rfl
set_option maxHeartbeats 4000000 in
set_option maxRecDepth 100000 in
theorem lw_set {G : cd_Gl} {l : Launch} {w : cd_Wd} {Q : cd_Out → cd_Wd → Prop} (hst : l.stackTraces = false) {x ou : Nat} {A : cd_A} {σ : cd_S} (hR : cd_Rep w x A σ) (hI : cd_Iv σ) (hk : cd_kd w ou = 5) (hl1 : cd_ln w ou = 1) (hou : ¬ cd_ow x A σ ou) {d o f v : Int32} {r : cd_R} (hr : sp_set σ d o f v = r) (h : LC w x A σ ou r Q) : cd_Ct G l y_La_set 8 2 12 [.ref x, .int d, .int o, .int f, .int v, .ref ou] w Q := by
  refine cd_ofWX cw_La_set (by simp [Value.category, cat_rf]) (Nat.le_of_ble_eq_true rfl) fun C O => ?_
  change cd_Go G l C _ 0 0 w 0 [some (.ref x), some (.int d), some (.int o), some (.int f), some (.int v), some (.ref ou), none] []
  first | refine g_aload O d_La_set_0 rfl ?_ | refine g_aloadq O d_La_set_0 rfl ?_
  refine g_iconst (v := 0) O d_La_set_2 (by decide) ?_
  first | refine g_aload_n O 0 d_La_set_3 rfl rfl ?_ | refine g_aload_nq O 0 d_La_set_3 rfl rfl ?_
  refine g_iload_n O 1 d_La_set_4 rfl rfl ?_
  refine g_iload_n O 2 d_La_set_5 rfl rfl ?_
  refine g_iload_n O 3 d_La_set_6 rfl rfl ?_
  refine g_iload O d_La_set_7 rfl ?_
  refine g_callv (N := 7) (mc := 2) (ms := 12) (av := [_, _, _, _]) O (Or.inl ⟨_, _, cw_Cd_set⟩) pl_Cd (ci := 0) (q := q_Cd) rfl hR.top.1 ml_La_23 im_Cd_set se_Cd_set rfl d_La_set_9 rfl (Nat.le_of_ble_eq_true rfl) (Nat.le_of_ble_eq_true rfl) (Nat.le_of_ble_eq_true rfl) (Nat.le_of_ble_eq_true rfl) ?_
  refine op_set hst hR hr (fun w2 A2 hCO => ?_)
  have hle := cdn_set σ d o f v
  rw [hr] at hle
  obtain ⟨c, a, τ⟩ := r
  simp only at hCO hle
  have hcase : c = 0 ∨ c = 1 ∨ c = 2 ∨ c = 3 ∨ c = 4 := by omega
  obtain ⟨hk2, hl2⟩ := CO.ou hk hl1 hCO
  rcases hcase with rfl | rfl | rfl | rfl | rfl
  · change cd_Go _ _ _ _ _ _ _ _ _ _
    refine g_i2l O d_La_set_12 rfl ?_
    refine g_last O 2 rfl rfl hk2 (vin0 hl2) d_La_set_13 ?_
    refine g_goto O 33 d_La_set_14 (by decide) ?_
    refine g_iconst (v := 0) O d_La_set_33 (by decide) ?_
    refine g_iret O d_La_set_34 (Nat.le_of_ble_eq_true rfl) (Nat.le_of_ble_eq_true rfl) ?_
    exact h.ok hk hou hCO
  · refine gx_catch (E := 1) O 17 (fun th hth pl hpl => sk_hit hpl O (nm := cd_ex 1) hth (by decide) (by decide) kl_La_19 ca_IllegalArgumentException) (fun xx => ?_)
    first | refine g_astore O d_La_set_17 (Nat.le_of_ble_eq_true rfl) ?_ | refine g_astoreq O d_La_set_17 (Nat.le_of_ble_eq_true rfl) ?_
    refine g_iconst (v := 1) O d_La_set_19 (by decide) ?_
    refine g_iret O d_La_set_20 (Nat.le_of_ble_eq_true rfl) (Nat.le_of_ble_eq_true rfl) ?_
    exact h.fail (by decide) hCO
  · refine gx_catch (E := 2) O 21 (fun th hth pl hpl => sk_pass hpl O (nm := cd_ex 2) (nm' := cd_ex 1) hth (by decide) (by decide) kl_La_19 (O.2.2.2.2.2.2.2.1.2.2.2.2.2.2 2 1 (by omega) (by omega) (by omega) (by omega) (by omega)) (sk_hit hpl O (nm := cd_ex 2) hth (by decide) (by decide) kl_La_13 ca_IllegalStateException)) (fun xx => ?_)
    first | refine g_astore O d_La_set_21 (Nat.le_of_ble_eq_true rfl) ?_ | refine g_astoreq O d_La_set_21 (Nat.le_of_ble_eq_true rfl) ?_
    refine g_iconst (v := 2) O d_La_set_23 (by decide) ?_
    refine g_iret O d_La_set_24 (Nat.le_of_ble_eq_true rfl) (Nat.le_of_ble_eq_true rfl) ?_
    exact h.fail (by decide) hCO
  · refine gx_catch (E := 3) O 25 (fun th hth pl hpl => sk_pass hpl O (nm := cd_ex 3) (nm' := cd_ex 1) hth (by decide) (by decide) kl_La_19 (O.2.2.2.2.2.2.2.1.2.2.2.2.2.2 3 1 (by omega) (by omega) (by omega) (by omega) (by omega)) (sk_pass hpl O (nm := cd_ex 3) (nm' := cd_ex 2) hth (by decide) (by decide) kl_La_13 (O.2.2.2.2.2.2.2.1.2.2.2.2.2.2 3 2 (by omega) (by omega) (by omega) (by omega) (by omega)) (sk_hit hpl O (nm := cd_ex 3) hth (by decide) (by decide) kl_La_27 ca_NoSuchElementException))) (fun xx => ?_)
    first | refine g_astore O d_La_set_25 (Nat.le_of_ble_eq_true rfl) ?_ | refine g_astoreq O d_La_set_25 (Nat.le_of_ble_eq_true rfl) ?_
    refine g_iconst (v := 3) O d_La_set_27 (by decide) ?_
    refine g_iret O d_La_set_28 (Nat.le_of_ble_eq_true rfl) (Nat.le_of_ble_eq_true rfl) ?_
    exact h.fail (by decide) hCO
  · refine gx_catch (E := 5) O 29 (fun th hth pl hpl => sk_pass hpl O (nm := cd_ex 5) (nm' := cd_ex 1) hth (by decide) (by decide) kl_La_19 (O.2.2.2.2.2.2.2.1.2.2.2.2.2.2 5 1 (by omega) (by omega) (by omega) (by omega) (by omega)) (sk_pass hpl O (nm := cd_ex 5) (nm' := cd_ex 2) hth (by decide) (by decide) kl_La_13 (O.2.2.2.2.2.2.2.1.2.2.2.2.2.2 5 2 (by omega) (by omega) (by omega) (by omega) (by omega)) (sk_pass hpl O (nm := cd_ex 5) (nm' := cd_ex 3) hth (by decide) (by decide) kl_La_27 (O.2.2.2.2.2.2.2.1.2.2.2.2.2.2 5 3 (by omega) (by omega) (by omega) (by omega) (by omega)) (sk_hit hpl O (nm := cd_ex 5) hth (by decide) (by decide) kl_La_29 ca_IndexOutOfBoundsException)))) (fun xx => ?_)
    first | refine g_astore O d_La_set_29 (Nat.le_of_ble_eq_true rfl) ?_ | refine g_astoreq O d_La_set_29 (Nat.le_of_ble_eq_true rfl) ?_
    refine g_iconst (v := 4) O d_La_set_31 (by decide) ?_
    refine g_iret O d_La_set_32 (Nat.le_of_ble_eq_true rfl) (Nat.le_of_ble_eq_true rfl) ?_
    exact h.fail (by decide) hCO
theorem cdn_link (σ : cd_S) (d o f t : Int32) : (sp_link σ d o f t).1 ≤ 4 := by
  simp only [sp_link, rD, rF]
  repeat' split
  all_goals exact Nat.le_of_ble_eq_true rfl
set_option maxHeartbeats 4000000 in
set_option maxRecDepth 100000 in
theorem lw_link {G : cd_Gl} {l : Launch} {w : cd_Wd} {Q : cd_Out → cd_Wd → Prop} (hst : l.stackTraces = false) {x ou : Nat} {A : cd_A} {σ : cd_S} (hR : cd_Rep w x A σ) (hI : cd_Iv σ) (hk : cd_kd w ou = 5) (hl1 : cd_ln w ou = 1) (hou : ¬ cd_ow x A σ ou) {d o f t : Int32} {r : cd_R} (hr : sp_link σ d o f t = r) (h : LC w x A σ ou r Q) : cd_Ct G l y_La_link 8 3 18 [.ref x, .int d, .int o, .int f, .int t, .ref ou] w Q := by
  refine cd_ofWX cw_La_link (by simp [Value.category, cat_rf]) (Nat.le_of_ble_eq_true rfl) fun C O => ?_
  change cd_Go G l C _ 0 0 w 0 [some (.ref x), some (.int d), some (.int o), some (.int f), some (.int t), some (.ref ou), none] []
  first | refine g_aload O d_La_link_0 rfl ?_ | refine g_aloadq O d_La_link_0 rfl ?_
  refine g_iconst (v := 0) O d_La_link_2 (by decide) ?_
  first | refine g_aload_n O 0 d_La_link_3 rfl rfl ?_ | refine g_aload_nq O 0 d_La_link_3 rfl rfl ?_
  refine g_iload_n O 1 d_La_link_4 rfl rfl ?_
  refine g_iload_n O 2 d_La_link_5 rfl rfl ?_
  refine g_iload_n O 3 d_La_link_6 rfl rfl ?_
  refine g_iload O d_La_link_7 rfl ?_
  refine g_callv (N := 7) (mc := 3) (ms := 18) (av := [_, _, _, _]) O (Or.inl ⟨_, _, cw_Cd_link⟩) pl_Cd (ci := 0) (q := q_Cd) rfl hR.top.1 ml_La_31 im_Cd_link se_Cd_link rfl d_La_link_9 rfl (Nat.le_of_ble_eq_true rfl) (Nat.le_of_ble_eq_true rfl) (Nat.le_of_ble_eq_true rfl) (Nat.le_of_ble_eq_true rfl) ?_
  refine op_link hst hR hr (fun w2 A2 hCO => ?_)
  have hle := cdn_link σ d o f t
  rw [hr] at hle
  obtain ⟨c, a, τ⟩ := r
  simp only at hCO hle
  have hcase : c = 0 ∨ c = 1 ∨ c = 2 ∨ c = 3 ∨ c = 4 := by omega
  obtain ⟨hk2, hl2⟩ := CO.ou hk hl1 hCO
  rcases hcase with rfl | rfl | rfl | rfl | rfl
  · change cd_Go _ _ _ _ _ _ _ _ _ _
    refine g_i2l O d_La_link_12 rfl ?_
    refine g_last O 2 rfl rfl hk2 (vin0 hl2) d_La_link_13 ?_
    refine g_goto O 33 d_La_link_14 (by decide) ?_
    refine g_iconst (v := 0) O d_La_link_33 (by decide) ?_
    refine g_iret O d_La_link_34 (Nat.le_of_ble_eq_true rfl) (Nat.le_of_ble_eq_true rfl) ?_
    exact h.ok hk hou hCO
  · refine gx_catch (E := 1) O 17 (fun th hth pl hpl => sk_hit hpl O (nm := cd_ex 1) hth (by decide) (by decide) kl_La_19 ca_IllegalArgumentException) (fun xx => ?_)
    first | refine g_astore O d_La_link_17 (Nat.le_of_ble_eq_true rfl) ?_ | refine g_astoreq O d_La_link_17 (Nat.le_of_ble_eq_true rfl) ?_
    refine g_iconst (v := 1) O d_La_link_19 (by decide) ?_
    refine g_iret O d_La_link_20 (Nat.le_of_ble_eq_true rfl) (Nat.le_of_ble_eq_true rfl) ?_
    exact h.fail (by decide) hCO
  · refine gx_catch (E := 2) O 21 (fun th hth pl hpl => sk_pass hpl O (nm := cd_ex 2) (nm' := cd_ex 1) hth (by decide) (by decide) kl_La_19 (O.2.2.2.2.2.2.2.1.2.2.2.2.2.2 2 1 (by omega) (by omega) (by omega) (by omega) (by omega)) (sk_hit hpl O (nm := cd_ex 2) hth (by decide) (by decide) kl_La_13 ca_IllegalStateException)) (fun xx => ?_)
    first | refine g_astore O d_La_link_21 (Nat.le_of_ble_eq_true rfl) ?_ | refine g_astoreq O d_La_link_21 (Nat.le_of_ble_eq_true rfl) ?_
    refine g_iconst (v := 2) O d_La_link_23 (by decide) ?_
    refine g_iret O d_La_link_24 (Nat.le_of_ble_eq_true rfl) (Nat.le_of_ble_eq_true rfl) ?_
    exact h.fail (by decide) hCO
  · refine gx_catch (E := 3) O 25 (fun th hth pl hpl => sk_pass hpl O (nm := cd_ex 3) (nm' := cd_ex 1) hth (by decide) (by decide) kl_La_19 (O.2.2.2.2.2.2.2.1.2.2.2.2.2.2 3 1 (by omega) (by omega) (by omega) (by omega) (by omega)) (sk_pass hpl O (nm := cd_ex 3) (nm' := cd_ex 2) hth (by decide) (by decide) kl_La_13 (O.2.2.2.2.2.2.2.1.2.2.2.2.2.2 3 2 (by omega) (by omega) (by omega) (by omega) (by omega)) (sk_hit hpl O (nm := cd_ex 3) hth (by decide) (by decide) kl_La_27 ca_NoSuchElementException))) (fun xx => ?_)
    first | refine g_astore O d_La_link_25 (Nat.le_of_ble_eq_true rfl) ?_ | refine g_astoreq O d_La_link_25 (Nat.le_of_ble_eq_true rfl) ?_
    refine g_iconst (v := 3) O d_La_link_27 (by decide) ?_
    refine g_iret O d_La_link_28 (Nat.le_of_ble_eq_true rfl) (Nat.le_of_ble_eq_true rfl) ?_
    exact h.fail (by decide) hCO
  · refine gx_catch (E := 5) O 29 (fun th hth pl hpl => sk_pass hpl O (nm := cd_ex 5) (nm' := cd_ex 1) hth (by decide) (by decide) kl_La_19 (O.2.2.2.2.2.2.2.1.2.2.2.2.2.2 5 1 (by omega) (by omega) (by omega) (by omega) (by omega)) (sk_pass hpl O (nm := cd_ex 5) (nm' := cd_ex 2) hth (by decide) (by decide) kl_La_13 (O.2.2.2.2.2.2.2.1.2.2.2.2.2.2 5 2 (by omega) (by omega) (by omega) (by omega) (by omega)) (sk_pass hpl O (nm := cd_ex 5) (nm' := cd_ex 3) hth (by decide) (by decide) kl_La_27 (O.2.2.2.2.2.2.2.1.2.2.2.2.2.2 5 3 (by omega) (by omega) (by omega) (by omega) (by omega)) (sk_hit hpl O (nm := cd_ex 5) hth (by decide) (by decide) kl_La_29 ca_IndexOutOfBoundsException)))) (fun xx => ?_)
    first | refine g_astore O d_La_link_29 (Nat.le_of_ble_eq_true rfl) ?_ | refine g_astoreq O d_La_link_29 (Nat.le_of_ble_eq_true rfl) ?_
    refine g_iconst (v := 4) O d_La_link_31 (by decide) ?_
    refine g_iret O d_La_link_32 (Nat.le_of_ble_eq_true rfl) (Nat.le_of_ble_eq_true rfl) ?_
    exact h.fail (by decide) hCO
theorem cdn_hold (σ : cd_S) (d o f s : Int32) : (sp_hold σ d o f s).1 ≤ 4 := by
  simp only [sp_hold, rD, rF]
  repeat' split
  all_goals exact Nat.le_of_ble_eq_true rfl
set_option maxHeartbeats 4000000 in
set_option maxRecDepth 100000 in
theorem lw_hold {G : cd_Gl} {l : Launch} {w : cd_Wd} {Q : cd_Out → cd_Wd → Prop} (hst : l.stackTraces = false) {x ou : Nat} {A : cd_A} {σ : cd_S} (hR : cd_Rep w x A σ) (hI : cd_Iv σ) (hk : cd_kd w ou = 5) (hl1 : cd_ln w ou = 1) (hou : ¬ cd_ow x A σ ou) {d o f s : Int32} {r : cd_R} (hr : sp_hold σ d o f s = r) (h : LC w x A σ ou r Q) : cd_Ct G l y_La_hold 8 4 24 [.ref x, .int d, .int o, .int f, .int s, .ref ou] w Q := by
  refine cd_ofWX cw_La_hold (by simp [Value.category, cat_rf]) (Nat.le_of_ble_eq_true rfl) fun C O => ?_
  change cd_Go G l C _ 0 0 w 0 [some (.ref x), some (.int d), some (.int o), some (.int f), some (.int s), some (.ref ou), none] []
  first | refine g_aload O d_La_hold_0 rfl ?_ | refine g_aloadq O d_La_hold_0 rfl ?_
  refine g_iconst (v := 0) O d_La_hold_2 (by decide) ?_
  first | refine g_aload_n O 0 d_La_hold_3 rfl rfl ?_ | refine g_aload_nq O 0 d_La_hold_3 rfl rfl ?_
  refine g_iload_n O 1 d_La_hold_4 rfl rfl ?_
  refine g_iload_n O 2 d_La_hold_5 rfl rfl ?_
  refine g_iload_n O 3 d_La_hold_6 rfl rfl ?_
  refine g_iload O d_La_hold_7 rfl ?_
  refine g_callv (N := 7) (mc := 4) (ms := 24) (av := [_, _, _, _]) O (Or.inl ⟨_, _, cw_Cd_hold⟩) pl_Cd (ci := 0) (q := q_Cd) rfl hR.top.1 ml_La_34 im_Cd_hold se_Cd_hold rfl d_La_hold_9 rfl (Nat.le_of_ble_eq_true rfl) (Nat.le_of_ble_eq_true rfl) (Nat.le_of_ble_eq_true rfl) (Nat.le_of_ble_eq_true rfl) ?_
  refine op_hold hst hR hr (fun w2 A2 hCO => ?_)
  have hle := cdn_hold σ d o f s
  rw [hr] at hle
  obtain ⟨c, a, τ⟩ := r
  simp only at hCO hle
  have hcase : c = 0 ∨ c = 1 ∨ c = 2 ∨ c = 3 ∨ c = 4 := by omega
  obtain ⟨hk2, hl2⟩ := CO.ou hk hl1 hCO
  rcases hcase with rfl | rfl | rfl | rfl | rfl
  · change cd_Go _ _ _ _ _ _ _ _ _ _
    refine g_i2l O d_La_hold_12 rfl ?_
    refine g_last O 2 rfl rfl hk2 (vin0 hl2) d_La_hold_13 ?_
    refine g_goto O 33 d_La_hold_14 (by decide) ?_
    refine g_iconst (v := 0) O d_La_hold_33 (by decide) ?_
    refine g_iret O d_La_hold_34 (Nat.le_of_ble_eq_true rfl) (Nat.le_of_ble_eq_true rfl) ?_
    exact h.ok hk hou hCO
  · refine gx_catch (E := 1) O 17 (fun th hth pl hpl => sk_hit hpl O (nm := cd_ex 1) hth (by decide) (by decide) kl_La_19 ca_IllegalArgumentException) (fun xx => ?_)
    first | refine g_astore O d_La_hold_17 (Nat.le_of_ble_eq_true rfl) ?_ | refine g_astoreq O d_La_hold_17 (Nat.le_of_ble_eq_true rfl) ?_
    refine g_iconst (v := 1) O d_La_hold_19 (by decide) ?_
    refine g_iret O d_La_hold_20 (Nat.le_of_ble_eq_true rfl) (Nat.le_of_ble_eq_true rfl) ?_
    exact h.fail (by decide) hCO
  · refine gx_catch (E := 2) O 21 (fun th hth pl hpl => sk_pass hpl O (nm := cd_ex 2) (nm' := cd_ex 1) hth (by decide) (by decide) kl_La_19 (O.2.2.2.2.2.2.2.1.2.2.2.2.2.2 2 1 (by omega) (by omega) (by omega) (by omega) (by omega)) (sk_hit hpl O (nm := cd_ex 2) hth (by decide) (by decide) kl_La_13 ca_IllegalStateException)) (fun xx => ?_)
    first | refine g_astore O d_La_hold_21 (Nat.le_of_ble_eq_true rfl) ?_ | refine g_astoreq O d_La_hold_21 (Nat.le_of_ble_eq_true rfl) ?_
    refine g_iconst (v := 2) O d_La_hold_23 (by decide) ?_
    refine g_iret O d_La_hold_24 (Nat.le_of_ble_eq_true rfl) (Nat.le_of_ble_eq_true rfl) ?_
    exact h.fail (by decide) hCO
  · refine gx_catch (E := 3) O 25 (fun th hth pl hpl => sk_pass hpl O (nm := cd_ex 3) (nm' := cd_ex 1) hth (by decide) (by decide) kl_La_19 (O.2.2.2.2.2.2.2.1.2.2.2.2.2.2 3 1 (by omega) (by omega) (by omega) (by omega) (by omega)) (sk_pass hpl O (nm := cd_ex 3) (nm' := cd_ex 2) hth (by decide) (by decide) kl_La_13 (O.2.2.2.2.2.2.2.1.2.2.2.2.2.2 3 2 (by omega) (by omega) (by omega) (by omega) (by omega)) (sk_hit hpl O (nm := cd_ex 3) hth (by decide) (by decide) kl_La_27 ca_NoSuchElementException))) (fun xx => ?_)
    first | refine g_astore O d_La_hold_25 (Nat.le_of_ble_eq_true rfl) ?_ | refine g_astoreq O d_La_hold_25 (Nat.le_of_ble_eq_true rfl) ?_
    refine g_iconst (v := 3) O d_La_hold_27 (by decide) ?_
    refine g_iret O d_La_hold_28 (Nat.le_of_ble_eq_true rfl) (Nat.le_of_ble_eq_true rfl) ?_
    exact h.fail (by decide) hCO
  · refine gx_catch (E := 5) O 29 (fun th hth pl hpl => sk_pass hpl O (nm := cd_ex 5) (nm' := cd_ex 1) hth (by decide) (by decide) kl_La_19 (O.2.2.2.2.2.2.2.1.2.2.2.2.2.2 5 1 (by omega) (by omega) (by omega) (by omega) (by omega)) (sk_pass hpl O (nm := cd_ex 5) (nm' := cd_ex 2) hth (by decide) (by decide) kl_La_13 (O.2.2.2.2.2.2.2.1.2.2.2.2.2.2 5 2 (by omega) (by omega) (by omega) (by omega) (by omega)) (sk_pass hpl O (nm := cd_ex 5) (nm' := cd_ex 3) hth (by decide) (by decide) kl_La_27 (O.2.2.2.2.2.2.2.1.2.2.2.2.2.2 5 3 (by omega) (by omega) (by omega) (by omega) (by omega)) (sk_hit hpl O (nm := cd_ex 5) hth (by decide) (by decide) kl_La_29 ca_IndexOutOfBoundsException)))) (fun xx => ?_)
    first | refine g_astore O d_La_hold_29 (Nat.le_of_ble_eq_true rfl) ?_ | refine g_astoreq O d_La_hold_29 (Nat.le_of_ble_eq_true rfl) ?_
    refine g_iconst (v := 4) O d_La_hold_31 (by decide) ?_
    refine g_iret O d_La_hold_32 (Nat.le_of_ble_eq_true rfl) (Nat.le_of_ble_eq_true rfl) ?_
    exact h.fail (by decide) hCO
theorem cdn_export (σ : cd_S) (d o s r' u : Int32) : (sp_export σ d o s r' u).1 ≤ 4 := by
  simp only [sp_export, rD]
  repeat' split
  all_goals exact Nat.le_of_ble_eq_true rfl
set_option maxHeartbeats 4000000 in
set_option maxRecDepth 100000 in
theorem lw_export {G : cd_Gl} {l : Launch} {w : cd_Wd} {Q : cd_Out → cd_Wd → Prop} (hst : l.stackTraces = false) {x ou : Nat} {A : cd_A} {σ : cd_S} (hR : cd_Rep w x A σ) (hI : cd_Iv σ) (hk : cd_kd w ou = 5) (hl1 : cd_ln w ou = 1) (hou : ¬ cd_ow x A σ ou) {d o s r' u : Int32} {r : cd_R} (hr : sp_export σ d o s r' u = r) (h : LC w x A σ ou r Q) : cd_Ct G l y_La_export 8 6 37 [.ref x, .int d, .int o, .int s, .int r', .int u, .ref ou] w Q := by
  refine cd_ofWX cw_La_export (by simp [Value.category, cat_rf]) (Nat.le_of_ble_eq_true rfl) fun C O => ?_
  change cd_Go G l C _ 0 0 w 0 [some (.ref x), some (.int d), some (.int o), some (.int s), some (.int r'), some (.int u), some (.ref ou), none] []
  first | refine g_aload O d_La_export_0 rfl ?_ | refine g_aloadq O d_La_export_0 rfl ?_
  refine g_iconst (v := 0) O d_La_export_2 (by decide) ?_
  first | refine g_aload_n O 0 d_La_export_3 rfl rfl ?_ | refine g_aload_nq O 0 d_La_export_3 rfl rfl ?_
  refine g_iload_n O 1 d_La_export_4 rfl rfl ?_
  refine g_iload_n O 2 d_La_export_5 rfl rfl ?_
  refine g_iload_n O 3 d_La_export_6 rfl rfl ?_
  refine g_iload O d_La_export_7 rfl ?_
  refine g_iload O d_La_export_9 rfl ?_
  refine g_callv (N := 7) (mc := 6) (ms := 37) (av := [_, _, _, _, _]) O (Or.inl ⟨_, _, cw_Cd_export⟩) pl_Cd (ci := 0) (q := q_Cd) rfl hR.top.1 ml_La_37 im_Cd_export se_Cd_export rfl d_La_export_11 rfl (Nat.le_of_ble_eq_true rfl) (Nat.le_of_ble_eq_true rfl) (Nat.le_of_ble_eq_true rfl) (Nat.le_of_ble_eq_true rfl) ?_
  refine op_export hst hR hr (fun w2 A2 hCO => ?_)
  have hle := cdn_export σ d o s r' u
  rw [hr] at hle
  obtain ⟨c, a, τ⟩ := r
  simp only at hCO hle
  have hcase : c = 0 ∨ c = 1 ∨ c = 2 ∨ c = 3 ∨ c = 4 := by omega
  obtain ⟨hk2, hl2⟩ := CO.ou hk hl1 hCO
  rcases hcase with rfl | rfl | rfl | rfl | rfl
  · change cd_Go _ _ _ _ _ _ _ _ _ _
    refine g_i2l O d_La_export_14 rfl ?_
    refine g_last O 2 rfl rfl hk2 (vin0 hl2) d_La_export_15 ?_
    refine g_goto O 35 d_La_export_16 (by decide) ?_
    refine g_iconst (v := 0) O d_La_export_35 (by decide) ?_
    refine g_iret O d_La_export_36 (Nat.le_of_ble_eq_true rfl) (Nat.le_of_ble_eq_true rfl) ?_
    exact h.ok hk hou hCO
  · refine gx_catch (E := 1) O 19 (fun th hth pl hpl => sk_hit hpl O (nm := cd_ex 1) hth (by decide) (by decide) kl_La_19 ca_IllegalArgumentException) (fun xx => ?_)
    first | refine g_astore O d_La_export_19 (Nat.le_of_ble_eq_true rfl) ?_ | refine g_astoreq O d_La_export_19 (Nat.le_of_ble_eq_true rfl) ?_
    refine g_iconst (v := 1) O d_La_export_21 (by decide) ?_
    refine g_iret O d_La_export_22 (Nat.le_of_ble_eq_true rfl) (Nat.le_of_ble_eq_true rfl) ?_
    exact h.fail (by decide) hCO
  · refine gx_catch (E := 2) O 23 (fun th hth pl hpl => sk_pass hpl O (nm := cd_ex 2) (nm' := cd_ex 1) hth (by decide) (by decide) kl_La_19 (O.2.2.2.2.2.2.2.1.2.2.2.2.2.2 2 1 (by omega) (by omega) (by omega) (by omega) (by omega)) (sk_hit hpl O (nm := cd_ex 2) hth (by decide) (by decide) kl_La_13 ca_IllegalStateException)) (fun xx => ?_)
    first | refine g_astore O d_La_export_23 (Nat.le_of_ble_eq_true rfl) ?_ | refine g_astoreq O d_La_export_23 (Nat.le_of_ble_eq_true rfl) ?_
    refine g_iconst (v := 2) O d_La_export_25 (by decide) ?_
    refine g_iret O d_La_export_26 (Nat.le_of_ble_eq_true rfl) (Nat.le_of_ble_eq_true rfl) ?_
    exact h.fail (by decide) hCO
  · refine gx_catch (E := 3) O 27 (fun th hth pl hpl => sk_pass hpl O (nm := cd_ex 3) (nm' := cd_ex 1) hth (by decide) (by decide) kl_La_19 (O.2.2.2.2.2.2.2.1.2.2.2.2.2.2 3 1 (by omega) (by omega) (by omega) (by omega) (by omega)) (sk_pass hpl O (nm := cd_ex 3) (nm' := cd_ex 2) hth (by decide) (by decide) kl_La_13 (O.2.2.2.2.2.2.2.1.2.2.2.2.2.2 3 2 (by omega) (by omega) (by omega) (by omega) (by omega)) (sk_hit hpl O (nm := cd_ex 3) hth (by decide) (by decide) kl_La_27 ca_NoSuchElementException))) (fun xx => ?_)
    first | refine g_astore O d_La_export_27 (Nat.le_of_ble_eq_true rfl) ?_ | refine g_astoreq O d_La_export_27 (Nat.le_of_ble_eq_true rfl) ?_
    refine g_iconst (v := 3) O d_La_export_29 (by decide) ?_
    refine g_iret O d_La_export_30 (Nat.le_of_ble_eq_true rfl) (Nat.le_of_ble_eq_true rfl) ?_
    exact h.fail (by decide) hCO
  · refine gx_catch (E := 6) O 31 (fun th hth pl hpl => sk_pass hpl O (nm := cd_ex 6) (nm' := cd_ex 1) hth (by decide) (by decide) kl_La_19 (O.2.2.2.2.2.2.2.1.2.2.2.2.2.2 6 1 (by omega) (by omega) (by omega) (by omega) (by omega)) (sk_pass hpl O (nm := cd_ex 6) (nm' := cd_ex 2) hth (by decide) (by decide) kl_La_13 (O.2.2.2.2.2.2.2.1.2.2.2.2.2.2 6 2 (by omega) (by omega) (by omega) (by omega) (by omega)) (sk_pass hpl O (nm := cd_ex 6) (nm' := cd_ex 3) hth (by decide) (by decide) kl_La_27 (O.2.2.2.2.2.2.2.1.2.2.2.2.2.2 6 3 (by omega) (by omega) (by omega) (by omega) (by omega)) (sk_hit hpl O (nm := cd_ex 6) hth (by decide) (by decide) kl_La_21 ca_ArithmeticException)))) (fun xx => ?_)
    first | refine g_astore O d_La_export_31 (Nat.le_of_ble_eq_true rfl) ?_ | refine g_astoreq O d_La_export_31 (Nat.le_of_ble_eq_true rfl) ?_
    refine g_iconst (v := 4) O d_La_export_33 (by decide) ?_
    refine g_iret O d_La_export_34 (Nat.le_of_ble_eq_true rfl) (Nat.le_of_ble_eq_true rfl) ?_
    exact h.fail (by decide) hCO
theorem cdn_narrow (σ : cd_S) (d s r' u : Int32) : (sp_narrow σ d s r' u).1 ≤ 5 := by
  simp only [sp_narrow, rD, rS]
  repeat' split
  all_goals exact Nat.le_of_ble_eq_true rfl
set_option maxHeartbeats 4000000 in
set_option maxRecDepth 100000 in
theorem lw_narrow {G : cd_Gl} {l : Launch} {w : cd_Wd} {Q : cd_Out → cd_Wd → Prop} (hst : l.stackTraces = false) {x ou : Nat} {A : cd_A} {σ : cd_S} (hR : cd_Rep w x A σ) (hI : cd_Iv σ) (hk : cd_kd w ou = 5) (hl1 : cd_ln w ou = 1) (hou : ¬ cd_ow x A σ ou) {d s r' u : Int32} {r : cd_R} (hr : sp_narrow σ d s r' u = r) (h : LC w x A σ ou r Q) : cd_Ct G l y_La_narrow 8 6 37 [.ref x, .int d, .int s, .int r', .int u, .ref ou] w Q := by
  refine cd_ofWX cw_La_narrow (by simp [Value.category, cat_rf]) (Nat.le_of_ble_eq_true rfl) fun C O => ?_
  change cd_Go G l C _ 0 0 w 0 [some (.ref x), some (.int d), some (.int s), some (.int r'), some (.int u), some (.ref ou), none] []
  first | refine g_aload O d_La_narrow_0 rfl ?_ | refine g_aloadq O d_La_narrow_0 rfl ?_
  refine g_iconst (v := 0) O d_La_narrow_2 (by decide) ?_
  first | refine g_aload_n O 0 d_La_narrow_3 rfl rfl ?_ | refine g_aload_nq O 0 d_La_narrow_3 rfl rfl ?_
  refine g_iload_n O 1 d_La_narrow_4 rfl rfl ?_
  refine g_iload_n O 2 d_La_narrow_5 rfl rfl ?_
  refine g_iload_n O 3 d_La_narrow_6 rfl rfl ?_
  refine g_iload O d_La_narrow_7 rfl ?_
  refine g_callv (N := 7) (mc := 6) (ms := 37) (av := [_, _, _, _]) O (Or.inl ⟨_, _, cw_Cd_narrow⟩) pl_Cd (ci := 0) (q := q_Cd) rfl hR.top.1 ml_La_41 im_Cd_narrow se_Cd_narrow rfl d_La_narrow_9 rfl (Nat.le_of_ble_eq_true rfl) (Nat.le_of_ble_eq_true rfl) (Nat.le_of_ble_eq_true rfl) (Nat.le_of_ble_eq_true rfl) ?_
  refine op_narrow hst hR hr (fun w2 A2 hCO => ?_)
  have hle := cdn_narrow σ d s r' u
  rw [hr] at hle
  obtain ⟨c, a, τ⟩ := r
  simp only at hCO hle
  have hcase : c = 0 ∨ c = 1 ∨ c = 2 ∨ c = 3 ∨ c = 4 ∨ c = 5 := by omega
  obtain ⟨hk2, hl2⟩ := CO.ou hk hl1 hCO
  rcases hcase with rfl | rfl | rfl | rfl | rfl | rfl
  · change cd_Go _ _ _ _ _ _ _ _ _ _
    refine g_i2l O d_La_narrow_12 rfl ?_
    refine g_last O 2 rfl rfl hk2 (vin0 hl2) d_La_narrow_13 ?_
    refine g_goto O 37 d_La_narrow_14 (by decide) ?_
    refine g_iconst (v := 0) O d_La_narrow_37 (by decide) ?_
    refine g_iret O d_La_narrow_38 (Nat.le_of_ble_eq_true rfl) (Nat.le_of_ble_eq_true rfl) ?_
    exact h.ok hk hou hCO
  · refine gx_catch (E := 1) O 17 (fun th hth pl hpl => sk_hit hpl O (nm := cd_ex 1) hth (by decide) (by decide) kl_La_19 ca_IllegalArgumentException) (fun xx => ?_)
    first | refine g_astore O d_La_narrow_17 (Nat.le_of_ble_eq_true rfl) ?_ | refine g_astoreq O d_La_narrow_17 (Nat.le_of_ble_eq_true rfl) ?_
    refine g_iconst (v := 1) O d_La_narrow_19 (by decide) ?_
    refine g_iret O d_La_narrow_20 (Nat.le_of_ble_eq_true rfl) (Nat.le_of_ble_eq_true rfl) ?_
    exact h.fail (by decide) hCO
  · refine gx_catch (E := 2) O 21 (fun th hth pl hpl => sk_pass hpl O (nm := cd_ex 2) (nm' := cd_ex 1) hth (by decide) (by decide) kl_La_19 (O.2.2.2.2.2.2.2.1.2.2.2.2.2.2 2 1 (by omega) (by omega) (by omega) (by omega) (by omega)) (sk_hit hpl O (nm := cd_ex 2) hth (by decide) (by decide) kl_La_13 ca_IllegalStateException)) (fun xx => ?_)
    first | refine g_astore O d_La_narrow_21 (Nat.le_of_ble_eq_true rfl) ?_ | refine g_astoreq O d_La_narrow_21 (Nat.le_of_ble_eq_true rfl) ?_
    refine g_iconst (v := 2) O d_La_narrow_23 (by decide) ?_
    refine g_iret O d_La_narrow_24 (Nat.le_of_ble_eq_true rfl) (Nat.le_of_ble_eq_true rfl) ?_
    exact h.fail (by decide) hCO
  · refine gx_catch (E := 3) O 25 (fun th hth pl hpl => sk_pass hpl O (nm := cd_ex 3) (nm' := cd_ex 1) hth (by decide) (by decide) kl_La_19 (O.2.2.2.2.2.2.2.1.2.2.2.2.2.2 3 1 (by omega) (by omega) (by omega) (by omega) (by omega)) (sk_pass hpl O (nm := cd_ex 3) (nm' := cd_ex 2) hth (by decide) (by decide) kl_La_13 (O.2.2.2.2.2.2.2.1.2.2.2.2.2.2 3 2 (by omega) (by omega) (by omega) (by omega) (by omega)) (sk_hit hpl O (nm := cd_ex 3) hth (by decide) (by decide) kl_La_27 ca_NoSuchElementException))) (fun xx => ?_)
    first | refine g_astore O d_La_narrow_25 (Nat.le_of_ble_eq_true rfl) ?_ | refine g_astoreq O d_La_narrow_25 (Nat.le_of_ble_eq_true rfl) ?_
    refine g_iconst (v := 3) O d_La_narrow_27 (by decide) ?_
    refine g_iret O d_La_narrow_28 (Nat.le_of_ble_eq_true rfl) (Nat.le_of_ble_eq_true rfl) ?_
    exact h.fail (by decide) hCO
  · refine gx_catch (E := 4) O 29 (fun th hth pl hpl => sk_pass hpl O (nm := cd_ex 4) (nm' := cd_ex 1) hth (by decide) (by decide) kl_La_19 (O.2.2.2.2.2.2.2.1.2.2.2.2.2.2 4 1 (by omega) (by omega) (by omega) (by omega) (by omega)) (sk_pass hpl O (nm := cd_ex 4) (nm' := cd_ex 2) hth (by decide) (by decide) kl_La_13 (O.2.2.2.2.2.2.2.1.2.2.2.2.2.2 4 2 (by omega) (by omega) (by omega) (by omega) (by omega)) (sk_pass hpl O (nm := cd_ex 4) (nm' := cd_ex 3) hth (by decide) (by decide) kl_La_27 (O.2.2.2.2.2.2.2.1.2.2.2.2.2.2 4 3 (by omega) (by omega) (by omega) (by omega) (by omega)) (sk_hit hpl O (nm := cd_ex 4) hth (by decide) (by decide) kl_La_44 ca_UnsupportedOperationException)))) (fun xx => ?_)
    first | refine g_astore O d_La_narrow_29 (Nat.le_of_ble_eq_true rfl) ?_ | refine g_astoreq O d_La_narrow_29 (Nat.le_of_ble_eq_true rfl) ?_
    refine g_iconst (v := 4) O d_La_narrow_31 (by decide) ?_
    refine g_iret O d_La_narrow_32 (Nat.le_of_ble_eq_true rfl) (Nat.le_of_ble_eq_true rfl) ?_
    exact h.fail (by decide) hCO
  · refine gx_catch (E := 6) O 33 (fun th hth pl hpl => sk_pass hpl O (nm := cd_ex 6) (nm' := cd_ex 1) hth (by decide) (by decide) kl_La_19 (O.2.2.2.2.2.2.2.1.2.2.2.2.2.2 6 1 (by omega) (by omega) (by omega) (by omega) (by omega)) (sk_pass hpl O (nm := cd_ex 6) (nm' := cd_ex 2) hth (by decide) (by decide) kl_La_13 (O.2.2.2.2.2.2.2.1.2.2.2.2.2.2 6 2 (by omega) (by omega) (by omega) (by omega) (by omega)) (sk_pass hpl O (nm := cd_ex 6) (nm' := cd_ex 3) hth (by decide) (by decide) kl_La_27 (O.2.2.2.2.2.2.2.1.2.2.2.2.2.2 6 3 (by omega) (by omega) (by omega) (by omega) (by omega)) (sk_pass hpl O (nm := cd_ex 6) (nm' := cd_ex 4) hth (by decide) (by decide) kl_La_44 (O.2.2.2.2.2.2.2.1.2.2.2.2.2.2 6 4 (by omega) (by omega) (by omega) (by omega) (by omega)) (sk_hit hpl O (nm := cd_ex 6) hth (by decide) (by decide) kl_La_21 ca_ArithmeticException))))) (fun xx => ?_)
    first | refine g_astore O d_La_narrow_33 (Nat.le_of_ble_eq_true rfl) ?_ | refine g_astoreq O d_La_narrow_33 (Nat.le_of_ble_eq_true rfl) ?_
    refine g_iconst (v := 5) O d_La_narrow_35 (by decide) ?_
    refine g_iret O d_La_narrow_36 (Nat.le_of_ble_eq_true rfl) (Nat.le_of_ble_eq_true rfl) ?_
    exact h.fail (by decide) hCO
theorem cdn_give (σ : cd_S) (d s e' t' : Int32) : (sp_give σ d s e' t').1 ≤ 3 := by
  simp only [sp_give, rD, rS]
  repeat' split
  all_goals exact Nat.le_of_ble_eq_true rfl
set_option maxHeartbeats 4000000 in
set_option maxRecDepth 100000 in
theorem lw_give {G : cd_Gl} {l : Launch} {w : cd_Wd} {Q : cd_Out → cd_Wd → Prop} (hst : l.stackTraces = false) {x ou : Nat} {A : cd_A} {σ : cd_S} (hR : cd_Rep w x A σ) (hI : cd_Iv σ) (hk : cd_kd w ou = 5) (hl1 : cd_ln w ou = 1) (hou : ¬ cd_ow x A σ ou) {d s e' t' : Int32} {r : cd_R} (hr : sp_give σ d s e' t' = r) (h : LC w x A σ ou r Q) : cd_Ct G l y_La_give 8 5 30 [.ref x, .int d, .int s, .int e', .int t', .ref ou] w Q := by
  refine cd_ofWX cw_La_give (by simp [Value.category, cat_rf]) (Nat.le_of_ble_eq_true rfl) fun C O => ?_
  change cd_Go G l C _ 0 0 w 0 [some (.ref x), some (.int d), some (.int s), some (.int e'), some (.int t'), some (.ref ou), none] []
  first | refine g_aload O d_La_give_0 rfl ?_ | refine g_aloadq O d_La_give_0 rfl ?_
  refine g_iconst (v := 0) O d_La_give_2 (by decide) ?_
  first | refine g_aload_n O 0 d_La_give_3 rfl rfl ?_ | refine g_aload_nq O 0 d_La_give_3 rfl rfl ?_
  refine g_iload_n O 1 d_La_give_4 rfl rfl ?_
  refine g_iload_n O 2 d_La_give_5 rfl rfl ?_
  refine g_iload_n O 3 d_La_give_6 rfl rfl ?_
  refine g_iload O d_La_give_7 rfl ?_
  refine g_callv (N := 7) (mc := 5) (ms := 30) (av := [_, _, _, _]) O (Or.inl ⟨_, _, cw_Cd_give⟩) pl_Cd (ci := 0) (q := q_Cd) rfl hR.top.1 ml_La_46 im_Cd_give se_Cd_give rfl d_La_give_9 rfl (Nat.le_of_ble_eq_true rfl) (Nat.le_of_ble_eq_true rfl) (Nat.le_of_ble_eq_true rfl) (Nat.le_of_ble_eq_true rfl) ?_
  refine op_give hst hR hr (fun w2 A2 hCO => ?_)
  have hle := cdn_give σ d s e' t'
  rw [hr] at hle
  obtain ⟨c, a, τ⟩ := r
  simp only at hCO hle
  have hcase : c = 0 ∨ c = 1 ∨ c = 2 ∨ c = 3 := by omega
  obtain ⟨hk2, hl2⟩ := CO.ou hk hl1 hCO
  rcases hcase with rfl | rfl | rfl | rfl
  · change cd_Go _ _ _ _ _ _ _ _ _ _
    refine g_i2l O d_La_give_12 rfl ?_
    refine g_last O 2 rfl rfl hk2 (vin0 hl2) d_La_give_13 ?_
    refine g_goto O 29 d_La_give_14 (by decide) ?_
    refine g_iconst (v := 0) O d_La_give_29 (by decide) ?_
    refine g_iret O d_La_give_30 (Nat.le_of_ble_eq_true rfl) (Nat.le_of_ble_eq_true rfl) ?_
    exact h.ok hk hou hCO
  · refine gx_catch (E := 1) O 17 (fun th hth pl hpl => sk_hit hpl O (nm := cd_ex 1) hth (by decide) (by decide) kl_La_19 ca_IllegalArgumentException) (fun xx => ?_)
    first | refine g_astore O d_La_give_17 (Nat.le_of_ble_eq_true rfl) ?_ | refine g_astoreq O d_La_give_17 (Nat.le_of_ble_eq_true rfl) ?_
    refine g_iconst (v := 1) O d_La_give_19 (by decide) ?_
    refine g_iret O d_La_give_20 (Nat.le_of_ble_eq_true rfl) (Nat.le_of_ble_eq_true rfl) ?_
    exact h.fail (by decide) hCO
  · refine gx_catch (E := 2) O 21 (fun th hth pl hpl => sk_pass hpl O (nm := cd_ex 2) (nm' := cd_ex 1) hth (by decide) (by decide) kl_La_19 (O.2.2.2.2.2.2.2.1.2.2.2.2.2.2 2 1 (by omega) (by omega) (by omega) (by omega) (by omega)) (sk_hit hpl O (nm := cd_ex 2) hth (by decide) (by decide) kl_La_13 ca_IllegalStateException)) (fun xx => ?_)
    first | refine g_astore O d_La_give_21 (Nat.le_of_ble_eq_true rfl) ?_ | refine g_astoreq O d_La_give_21 (Nat.le_of_ble_eq_true rfl) ?_
    refine g_iconst (v := 2) O d_La_give_23 (by decide) ?_
    refine g_iret O d_La_give_24 (Nat.le_of_ble_eq_true rfl) (Nat.le_of_ble_eq_true rfl) ?_
    exact h.fail (by decide) hCO
  · refine gx_catch (E := 3) O 25 (fun th hth pl hpl => sk_pass hpl O (nm := cd_ex 3) (nm' := cd_ex 1) hth (by decide) (by decide) kl_La_19 (O.2.2.2.2.2.2.2.1.2.2.2.2.2.2 3 1 (by omega) (by omega) (by omega) (by omega) (by omega)) (sk_pass hpl O (nm := cd_ex 3) (nm' := cd_ex 2) hth (by decide) (by decide) kl_La_13 (O.2.2.2.2.2.2.2.1.2.2.2.2.2.2 3 2 (by omega) (by omega) (by omega) (by omega) (by omega)) (sk_hit hpl O (nm := cd_ex 3) hth (by decide) (by decide) kl_La_27 ca_NoSuchElementException))) (fun xx => ?_)
    first | refine g_astore O d_La_give_25 (Nat.le_of_ble_eq_true rfl) ?_ | refine g_astoreq O d_La_give_25 (Nat.le_of_ble_eq_true rfl) ?_
    refine g_iconst (v := 3) O d_La_give_27 (by decide) ?_
    refine g_iret O d_La_give_28 (Nat.le_of_ble_eq_true rfl) (Nat.le_of_ble_eq_true rfl) ?_
    exact h.fail (by decide) hCO
theorem cdn_revoke (σ : cd_S) (d s : Int32) : (sp_revoke σ d s).1 ≤ 4 := by
  simp only [sp_revoke, rD, rS]
  repeat' split
  all_goals exact Nat.le_of_ble_eq_true rfl
set_option maxHeartbeats 4000000 in
set_option maxRecDepth 100000 in
theorem lw_revoke {G : cd_Gl} {l : Launch} {w : cd_Wd} {Q : cd_Out → cd_Wd → Prop} (hst : l.stackTraces = false) {x ou : Nat} {A : cd_A} {σ : cd_S} (hR : cd_Rep w x A σ) (hI : cd_Iv σ) (hk : cd_kd w ou = 5) (hl1 : cd_ln w ou = 1) (hou : ¬ cd_ow x A σ ou) {d s : Int32} {r : cd_R} (hr : sp_revoke σ d s = r) (h : LC w x A σ ou r Q) : cd_Ct G l y_La_revoke 8 4 24 [.ref x, .int d, .int s, .ref ou] w Q := by
  refine cd_ofWX cw_La_revoke (by simp [Value.category, cat_rf]) (Nat.le_of_ble_eq_true rfl) fun C O => ?_
  change cd_Go G l C _ 0 0 w 0 [some (.ref x), some (.int d), some (.int s), some (.ref ou), none] []
  first | refine g_aload_n O 3 d_La_revoke_0 rfl rfl ?_ | refine g_aload_nq O 3 d_La_revoke_0 rfl rfl ?_
  refine g_iconst (v := 0) O d_La_revoke_1 (by decide) ?_
  first | refine g_aload_n O 0 d_La_revoke_2 rfl rfl ?_ | refine g_aload_nq O 0 d_La_revoke_2 rfl rfl ?_
  refine g_iload_n O 1 d_La_revoke_3 rfl rfl ?_
  refine g_iload_n O 2 d_La_revoke_4 rfl rfl ?_
  refine g_callv (N := 7) (mc := 4) (ms := 24) (av := [_, _]) O (Or.inl ⟨_, _, cw_Cd_revoke⟩) pl_Cd (ci := 0) (q := q_Cd) rfl hR.top.1 ml_La_49 im_Cd_revoke se_Cd_revoke rfl d_La_revoke_5 rfl (Nat.le_of_ble_eq_true rfl) (Nat.le_of_ble_eq_true rfl) (Nat.le_of_ble_eq_true rfl) (Nat.le_of_ble_eq_true rfl) ?_
  refine op_revoke hst hR hr (fun w2 A2 hCO => ?_)
  have hle := cdn_revoke σ d s
  rw [hr] at hle
  obtain ⟨c, a, τ⟩ := r
  simp only at hCO hle
  have hcase : c = 0 ∨ c = 1 ∨ c = 2 ∨ c = 3 ∨ c = 4 := by omega
  obtain ⟨hk2, hl2⟩ := CO.ou hk hl1 hCO
  rcases hcase with rfl | rfl | rfl | rfl | rfl
  · change cd_Go _ _ _ _ _ _ _ _ _ _
    refine g_i2l O d_La_revoke_8 rfl ?_
    refine g_last O 2 rfl rfl hk2 (vin0 hl2) d_La_revoke_9 ?_
    refine g_goto O 29 d_La_revoke_10 (by decide) ?_
    refine g_iconst (v := 0) O d_La_revoke_29 (by decide) ?_
    refine g_iret O d_La_revoke_30 (Nat.le_of_ble_eq_true rfl) (Nat.le_of_ble_eq_true rfl) ?_
    exact h.ok hk hou hCO
  · refine gx_catch (E := 1) O 13 (fun th hth pl hpl => sk_hit hpl O (nm := cd_ex 1) hth (by decide) (by decide) kl_La_19 ca_IllegalArgumentException) (fun xx => ?_)
    first | refine g_astore O d_La_revoke_13 (Nat.le_of_ble_eq_true rfl) ?_ | refine g_astoreq O d_La_revoke_13 (Nat.le_of_ble_eq_true rfl) ?_
    refine g_iconst (v := 1) O d_La_revoke_15 (by decide) ?_
    refine g_iret O d_La_revoke_16 (Nat.le_of_ble_eq_true rfl) (Nat.le_of_ble_eq_true rfl) ?_
    exact h.fail (by decide) hCO
  · refine gx_catch (E := 2) O 17 (fun th hth pl hpl => sk_pass hpl O (nm := cd_ex 2) (nm' := cd_ex 1) hth (by decide) (by decide) kl_La_19 (O.2.2.2.2.2.2.2.1.2.2.2.2.2.2 2 1 (by omega) (by omega) (by omega) (by omega) (by omega)) (sk_hit hpl O (nm := cd_ex 2) hth (by decide) (by decide) kl_La_13 ca_IllegalStateException)) (fun xx => ?_)
    first | refine g_astore O d_La_revoke_17 (Nat.le_of_ble_eq_true rfl) ?_ | refine g_astoreq O d_La_revoke_17 (Nat.le_of_ble_eq_true rfl) ?_
    refine g_iconst (v := 2) O d_La_revoke_19 (by decide) ?_
    refine g_iret O d_La_revoke_20 (Nat.le_of_ble_eq_true rfl) (Nat.le_of_ble_eq_true rfl) ?_
    exact h.fail (by decide) hCO
  · refine gx_catch (E := 3) O 21 (fun th hth pl hpl => sk_pass hpl O (nm := cd_ex 3) (nm' := cd_ex 1) hth (by decide) (by decide) kl_La_19 (O.2.2.2.2.2.2.2.1.2.2.2.2.2.2 3 1 (by omega) (by omega) (by omega) (by omega) (by omega)) (sk_pass hpl O (nm := cd_ex 3) (nm' := cd_ex 2) hth (by decide) (by decide) kl_La_13 (O.2.2.2.2.2.2.2.1.2.2.2.2.2.2 3 2 (by omega) (by omega) (by omega) (by omega) (by omega)) (sk_hit hpl O (nm := cd_ex 3) hth (by decide) (by decide) kl_La_27 ca_NoSuchElementException))) (fun xx => ?_)
    first | refine g_astore O d_La_revoke_21 (Nat.le_of_ble_eq_true rfl) ?_ | refine g_astoreq O d_La_revoke_21 (Nat.le_of_ble_eq_true rfl) ?_
    refine g_iconst (v := 3) O d_La_revoke_23 (by decide) ?_
    refine g_iret O d_La_revoke_24 (Nat.le_of_ble_eq_true rfl) (Nat.le_of_ble_eq_true rfl) ?_
    exact h.fail (by decide) hCO
  · refine gx_catch (E := 4) O 25 (fun th hth pl hpl => sk_pass hpl O (nm := cd_ex 4) (nm' := cd_ex 1) hth (by decide) (by decide) kl_La_19 (O.2.2.2.2.2.2.2.1.2.2.2.2.2.2 4 1 (by omega) (by omega) (by omega) (by omega) (by omega)) (sk_pass hpl O (nm := cd_ex 4) (nm' := cd_ex 2) hth (by decide) (by decide) kl_La_13 (O.2.2.2.2.2.2.2.1.2.2.2.2.2.2 4 2 (by omega) (by omega) (by omega) (by omega) (by omega)) (sk_pass hpl O (nm := cd_ex 4) (nm' := cd_ex 3) hth (by decide) (by decide) kl_La_27 (O.2.2.2.2.2.2.2.1.2.2.2.2.2.2 4 3 (by omega) (by omega) (by omega) (by omega) (by omega)) (sk_hit hpl O (nm := cd_ex 4) hth (by decide) (by decide) kl_La_44 ca_UnsupportedOperationException)))) (fun xx => ?_)
    first | refine g_astore O d_La_revoke_25 (Nat.le_of_ble_eq_true rfl) ?_ | refine g_astoreq O d_La_revoke_25 (Nat.le_of_ble_eq_true rfl) ?_
    refine g_iconst (v := 4) O d_La_revoke_27 (by decide) ?_
    refine g_iret O d_La_revoke_28 (Nat.le_of_ble_eq_true rfl) (Nat.le_of_ble_eq_true rfl) ?_
    exact h.fail (by decide) hCO
theorem cdn_read (σ : cd_S) (d s f : Int32) : (sp_read σ d s f).1 ≤ 6 := by
  simp only [sp_read, rU, rD, rS]
  repeat' split
  all_goals exact Nat.le_of_ble_eq_true rfl
set_option maxHeartbeats 4000000 in
set_option maxRecDepth 100000 in
theorem lw_read {G : cd_Gl} {l : Launch} {w : cd_Wd} {Q : cd_Out → cd_Wd → Prop} (hst : l.stackTraces = false) {x ou : Nat} {A : cd_A} {σ : cd_S} (hR : cd_Rep w x A σ) (hI : cd_Iv σ) (hk : cd_kd w ou = 5) (hl1 : cd_ln w ou = 1) (hou : ¬ cd_ow x A σ ou) {d s f : Int32} {r : cd_R} (hr : sp_read σ d s f = r) (h : LC w x A σ ou r Q) : cd_Ct G l y_La_read 9 6 36 [.ref x, .int d, .int s, .int f, .ref ou] w Q := by
  refine cd_ofWX cw_La_read (by simp [Value.category, cat_rf]) (Nat.le_of_ble_eq_true rfl) fun C O => ?_
  change cd_Go G l C _ 0 0 w 0 [some (.ref x), some (.int d), some (.int s), some (.int f), some (.ref ou), none] []
  first | refine g_aload O d_La_read_0 rfl ?_ | refine g_aloadq O d_La_read_0 rfl ?_
  refine g_iconst (v := 0) O d_La_read_2 (by decide) ?_
  first | refine g_aload_n O 0 d_La_read_3 rfl rfl ?_ | refine g_aload_nq O 0 d_La_read_3 rfl rfl ?_
  refine g_iload_n O 1 d_La_read_4 rfl rfl ?_
  refine g_iload_n O 2 d_La_read_5 rfl rfl ?_
  refine g_iload_n O 3 d_La_read_6 rfl rfl ?_
  refine g_callv (N := 8) (mc := 6) (ms := 36) (av := [_, _, _]) O (Or.inl ⟨_, _, cw_Cd_read⟩) pl_Cd (ci := 0) (q := q_Cd) rfl hR.top.1 ml_La_53 im_Cd_read se_Cd_read rfl d_La_read_7 rfl (Nat.le_of_ble_eq_true rfl) (Nat.le_of_ble_eq_true rfl) (Nat.le_of_ble_eq_true rfl) (Nat.le_of_ble_eq_true rfl) ?_
  refine op_read hst hR hI hr (fun w2 A2 hCO => ?_)
  have hle := cdn_read σ d s f
  rw [hr] at hle
  obtain ⟨c, a, τ⟩ := r
  simp only at hCO hle
  have hcase : c = 0 ∨ c = 1 ∨ c = 2 ∨ c = 3 ∨ c = 4 ∨ c = 5 ∨ c = 6 := by omega
  obtain ⟨hk2, hl2⟩ := CO.ou hk hl1 hCO
  rcases hcase with rfl | rfl | rfl | rfl | rfl | rfl | rfl
  · change cd_Go _ _ _ _ _ _ _ _ _ _
    refine g_i2l O d_La_read_10 rfl ?_
    refine g_last O 2 rfl rfl hk2 (vin0 hl2) d_La_read_11 ?_
    refine g_goto O 40 d_La_read_12 (by decide) ?_
    refine g_iconst (v := 0) O d_La_read_40 (by decide) ?_
    refine g_iret O d_La_read_41 (Nat.le_of_ble_eq_true rfl) (Nat.le_of_ble_eq_true rfl) ?_
    exact h.ok hk hou hCO
  · refine gx_catch (E := 1) O 15 (fun th hth pl hpl => sk_hit hpl O (nm := cd_ex 1) hth (by decide) (by decide) kl_La_19 ca_IllegalArgumentException) (fun xx => ?_)
    first | refine g_astore O d_La_read_15 (Nat.le_of_ble_eq_true rfl) ?_ | refine g_astoreq O d_La_read_15 (Nat.le_of_ble_eq_true rfl) ?_
    refine g_iconst (v := 1) O d_La_read_17 (by decide) ?_
    refine g_iret O d_La_read_18 (Nat.le_of_ble_eq_true rfl) (Nat.le_of_ble_eq_true rfl) ?_
    exact h.fail (by decide) hCO
  · refine gx_catch (E := 2) O 19 (fun th hth pl hpl => sk_pass hpl O (nm := cd_ex 2) (nm' := cd_ex 1) hth (by decide) (by decide) kl_La_19 (O.2.2.2.2.2.2.2.1.2.2.2.2.2.2 2 1 (by omega) (by omega) (by omega) (by omega) (by omega)) (sk_hit hpl O (nm := cd_ex 2) hth (by decide) (by decide) kl_La_13 ca_IllegalStateException)) (fun xx => ?_)
    first | refine g_astore O d_La_read_19 (Nat.le_of_ble_eq_true rfl) ?_ | refine g_astoreq O d_La_read_19 (Nat.le_of_ble_eq_true rfl) ?_
    refine g_iconst (v := 2) O d_La_read_21 (by decide) ?_
    refine g_iret O d_La_read_22 (Nat.le_of_ble_eq_true rfl) (Nat.le_of_ble_eq_true rfl) ?_
    exact h.fail (by decide) hCO
  · refine gx_catch (E := 3) O 23 (fun th hth pl hpl => sk_pass hpl O (nm := cd_ex 3) (nm' := cd_ex 1) hth (by decide) (by decide) kl_La_19 (O.2.2.2.2.2.2.2.1.2.2.2.2.2.2 3 1 (by omega) (by omega) (by omega) (by omega) (by omega)) (sk_pass hpl O (nm := cd_ex 3) (nm' := cd_ex 2) hth (by decide) (by decide) kl_La_13 (O.2.2.2.2.2.2.2.1.2.2.2.2.2.2 3 2 (by omega) (by omega) (by omega) (by omega) (by omega)) (sk_hit hpl O (nm := cd_ex 3) hth (by decide) (by decide) kl_La_27 ca_NoSuchElementException))) (fun xx => ?_)
    first | refine g_astore O d_La_read_23 (Nat.le_of_ble_eq_true rfl) ?_ | refine g_astoreq O d_La_read_23 (Nat.le_of_ble_eq_true rfl) ?_
    refine g_iconst (v := 3) O d_La_read_25 (by decide) ?_
    refine g_iret O d_La_read_26 (Nat.le_of_ble_eq_true rfl) (Nat.le_of_ble_eq_true rfl) ?_
    exact h.fail (by decide) hCO
  · refine gx_catch (E := 4) O 27 (fun th hth pl hpl => sk_pass hpl O (nm := cd_ex 4) (nm' := cd_ex 1) hth (by decide) (by decide) kl_La_19 (O.2.2.2.2.2.2.2.1.2.2.2.2.2.2 4 1 (by omega) (by omega) (by omega) (by omega) (by omega)) (sk_pass hpl O (nm := cd_ex 4) (nm' := cd_ex 2) hth (by decide) (by decide) kl_La_13 (O.2.2.2.2.2.2.2.1.2.2.2.2.2.2 4 2 (by omega) (by omega) (by omega) (by omega) (by omega)) (sk_pass hpl O (nm := cd_ex 4) (nm' := cd_ex 3) hth (by decide) (by decide) kl_La_27 (O.2.2.2.2.2.2.2.1.2.2.2.2.2.2 4 3 (by omega) (by omega) (by omega) (by omega) (by omega)) (sk_hit hpl O (nm := cd_ex 4) hth (by decide) (by decide) kl_La_44 ca_UnsupportedOperationException)))) (fun xx => ?_)
    first | refine g_astore O d_La_read_27 (Nat.le_of_ble_eq_true rfl) ?_ | refine g_astoreq O d_La_read_27 (Nat.le_of_ble_eq_true rfl) ?_
    refine g_iconst (v := 4) O d_La_read_29 (by decide) ?_
    refine g_iret O d_La_read_30 (Nat.le_of_ble_eq_true rfl) (Nat.le_of_ble_eq_true rfl) ?_
    exact h.fail (by decide) hCO
  · refine gx_catch (E := 5) O 31 (fun th hth pl hpl => sk_pass hpl O (nm := cd_ex 5) (nm' := cd_ex 1) hth (by decide) (by decide) kl_La_19 (O.2.2.2.2.2.2.2.1.2.2.2.2.2.2 5 1 (by omega) (by omega) (by omega) (by omega) (by omega)) (sk_pass hpl O (nm := cd_ex 5) (nm' := cd_ex 2) hth (by decide) (by decide) kl_La_13 (O.2.2.2.2.2.2.2.1.2.2.2.2.2.2 5 2 (by omega) (by omega) (by omega) (by omega) (by omega)) (sk_pass hpl O (nm := cd_ex 5) (nm' := cd_ex 3) hth (by decide) (by decide) kl_La_27 (O.2.2.2.2.2.2.2.1.2.2.2.2.2.2 5 3 (by omega) (by omega) (by omega) (by omega) (by omega)) (sk_pass hpl O (nm := cd_ex 5) (nm' := cd_ex 4) hth (by decide) (by decide) kl_La_44 (O.2.2.2.2.2.2.2.1.2.2.2.2.2.2 5 4 (by omega) (by omega) (by omega) (by omega) (by omega)) (sk_hit hpl O (nm := cd_ex 5) hth (by decide) (by decide) kl_La_29 ca_IndexOutOfBoundsException))))) (fun xx => ?_)
    first | refine g_astore O d_La_read_31 (Nat.le_of_ble_eq_true rfl) ?_ | refine g_astoreq O d_La_read_31 (Nat.le_of_ble_eq_true rfl) ?_
    refine g_iconst (v := 5) O d_La_read_33 (by decide) ?_
    refine g_iret O d_La_read_34 (Nat.le_of_ble_eq_true rfl) (Nat.le_of_ble_eq_true rfl) ?_
    exact h.fail (by decide) hCO
  · refine gx_catch (E := 6) O 35 (fun th hth pl hpl => sk_pass hpl O (nm := cd_ex 6) (nm' := cd_ex 1) hth (by decide) (by decide) kl_La_19 (O.2.2.2.2.2.2.2.1.2.2.2.2.2.2 6 1 (by omega) (by omega) (by omega) (by omega) (by omega)) (sk_pass hpl O (nm := cd_ex 6) (nm' := cd_ex 2) hth (by decide) (by decide) kl_La_13 (O.2.2.2.2.2.2.2.1.2.2.2.2.2.2 6 2 (by omega) (by omega) (by omega) (by omega) (by omega)) (sk_pass hpl O (nm := cd_ex 6) (nm' := cd_ex 3) hth (by decide) (by decide) kl_La_27 (O.2.2.2.2.2.2.2.1.2.2.2.2.2.2 6 3 (by omega) (by omega) (by omega) (by omega) (by omega)) (sk_pass hpl O (nm := cd_ex 6) (nm' := cd_ex 4) hth (by decide) (by decide) kl_La_44 (O.2.2.2.2.2.2.2.1.2.2.2.2.2.2 6 4 (by omega) (by omega) (by omega) (by omega) (by omega)) (sk_pass hpl O (nm := cd_ex 6) (nm' := cd_ex 5) hth (by decide) (by decide) kl_La_29 (O.2.2.2.2.2.2.2.1.2.2.2.2.2.2 6 5 (by omega) (by omega) (by omega) (by omega) (by omega)) (sk_hit hpl O (nm := cd_ex 6) hth (by decide) (by decide) kl_La_21 ca_ArithmeticException)))))) (fun xx => ?_)
    first | refine g_astore O d_La_read_35 (Nat.le_of_ble_eq_true rfl) ?_ | refine g_astoreq O d_La_read_35 (Nat.le_of_ble_eq_true rfl) ?_
    refine g_bipush (v := 6) O d_La_read_37 (by decide) ?_
    refine g_iret O d_La_read_39 (Nat.le_of_ble_eq_true rfl) (Nat.le_of_ble_eq_true rfl) ?_
    exact h.fail (by decide) hCO
theorem cdn_write (σ : cd_S) (d s f v : Int32) : (sp_write σ d s f v).1 ≤ 5 := by
  simp only [sp_write, rU, rD, rS]
  repeat' split
  all_goals exact Nat.le_of_ble_eq_true rfl
set_option maxHeartbeats 4000000 in
set_option maxRecDepth 100000 in
theorem lw_write {G : cd_Gl} {l : Launch} {w : cd_Wd} {Q : cd_Out → cd_Wd → Prop} (hst : l.stackTraces = false) {x ou : Nat} {A : cd_A} {σ : cd_S} (hR : cd_Rep w x A σ) (hI : cd_Iv σ) (hk : cd_kd w ou = 5) (hl1 : cd_ln w ou = 1) (hou : ¬ cd_ow x A σ ou) {d s f v : Int32} {r : cd_R} (hr : sp_write σ d s f v = r) (h : LC w x A σ ou r Q) : cd_Ct G l y_La_write 9 5 30 [.ref x, .int d, .int s, .int f, .int v, .ref ou] w Q := by
  refine cd_ofWX cw_La_write (by simp [Value.category, cat_rf]) (Nat.le_of_ble_eq_true rfl) fun C O => ?_
  change cd_Go G l C _ 0 0 w 0 [some (.ref x), some (.int d), some (.int s), some (.int f), some (.int v), some (.ref ou), none] []
  first | refine g_aload O d_La_write_0 rfl ?_ | refine g_aloadq O d_La_write_0 rfl ?_
  refine g_iconst (v := 0) O d_La_write_2 (by decide) ?_
  first | refine g_aload_n O 0 d_La_write_3 rfl rfl ?_ | refine g_aload_nq O 0 d_La_write_3 rfl rfl ?_
  refine g_iload_n O 1 d_La_write_4 rfl rfl ?_
  refine g_iload_n O 2 d_La_write_5 rfl rfl ?_
  refine g_iload_n O 3 d_La_write_6 rfl rfl ?_
  refine g_iload O d_La_write_7 rfl ?_
  refine g_callv (N := 8) (mc := 5) (ms := 30) (av := [_, _, _, _]) O (Or.inl ⟨_, _, cw_Cd_write⟩) pl_Cd (ci := 0) (q := q_Cd) rfl hR.top.1 ml_La_57 im_Cd_write se_Cd_write rfl d_La_write_9 rfl (Nat.le_of_ble_eq_true rfl) (Nat.le_of_ble_eq_true rfl) (Nat.le_of_ble_eq_true rfl) (Nat.le_of_ble_eq_true rfl) ?_
  refine op_write hst hR hI hr (fun w2 A2 hCO => ?_)
  have hle := cdn_write σ d s f v
  rw [hr] at hle
  obtain ⟨c, a, τ⟩ := r
  simp only at hCO hle
  have hcase : c = 0 ∨ c = 1 ∨ c = 2 ∨ c = 3 ∨ c = 4 ∨ c = 5 := by omega
  obtain ⟨hk2, hl2⟩ := CO.ou hk hl1 hCO
  rcases hcase with rfl | rfl | rfl | rfl | rfl | rfl
  · change cd_Go _ _ _ _ _ _ _ _ _ _
    refine g_i2l O d_La_write_12 rfl ?_
    refine g_last O 2 rfl rfl hk2 (vin0 hl2) d_La_write_13 ?_
    refine g_goto O 37 d_La_write_14 (by decide) ?_
    refine g_iconst (v := 0) O d_La_write_37 (by decide) ?_
    refine g_iret O d_La_write_38 (Nat.le_of_ble_eq_true rfl) (Nat.le_of_ble_eq_true rfl) ?_
    exact h.ok hk hou hCO
  · refine gx_catch (E := 1) O 17 (fun th hth pl hpl => sk_hit hpl O (nm := cd_ex 1) hth (by decide) (by decide) kl_La_19 ca_IllegalArgumentException) (fun xx => ?_)
    first | refine g_astore O d_La_write_17 (Nat.le_of_ble_eq_true rfl) ?_ | refine g_astoreq O d_La_write_17 (Nat.le_of_ble_eq_true rfl) ?_
    refine g_iconst (v := 1) O d_La_write_19 (by decide) ?_
    refine g_iret O d_La_write_20 (Nat.le_of_ble_eq_true rfl) (Nat.le_of_ble_eq_true rfl) ?_
    exact h.fail (by decide) hCO
  · refine gx_catch (E := 2) O 21 (fun th hth pl hpl => sk_pass hpl O (nm := cd_ex 2) (nm' := cd_ex 1) hth (by decide) (by decide) kl_La_19 (O.2.2.2.2.2.2.2.1.2.2.2.2.2.2 2 1 (by omega) (by omega) (by omega) (by omega) (by omega)) (sk_hit hpl O (nm := cd_ex 2) hth (by decide) (by decide) kl_La_13 ca_IllegalStateException)) (fun xx => ?_)
    first | refine g_astore O d_La_write_21 (Nat.le_of_ble_eq_true rfl) ?_ | refine g_astoreq O d_La_write_21 (Nat.le_of_ble_eq_true rfl) ?_
    refine g_iconst (v := 2) O d_La_write_23 (by decide) ?_
    refine g_iret O d_La_write_24 (Nat.le_of_ble_eq_true rfl) (Nat.le_of_ble_eq_true rfl) ?_
    exact h.fail (by decide) hCO
  · refine gx_catch (E := 3) O 25 (fun th hth pl hpl => sk_pass hpl O (nm := cd_ex 3) (nm' := cd_ex 1) hth (by decide) (by decide) kl_La_19 (O.2.2.2.2.2.2.2.1.2.2.2.2.2.2 3 1 (by omega) (by omega) (by omega) (by omega) (by omega)) (sk_pass hpl O (nm := cd_ex 3) (nm' := cd_ex 2) hth (by decide) (by decide) kl_La_13 (O.2.2.2.2.2.2.2.1.2.2.2.2.2.2 3 2 (by omega) (by omega) (by omega) (by omega) (by omega)) (sk_hit hpl O (nm := cd_ex 3) hth (by decide) (by decide) kl_La_27 ca_NoSuchElementException))) (fun xx => ?_)
    first | refine g_astore O d_La_write_25 (Nat.le_of_ble_eq_true rfl) ?_ | refine g_astoreq O d_La_write_25 (Nat.le_of_ble_eq_true rfl) ?_
    refine g_iconst (v := 3) O d_La_write_27 (by decide) ?_
    refine g_iret O d_La_write_28 (Nat.le_of_ble_eq_true rfl) (Nat.le_of_ble_eq_true rfl) ?_
    exact h.fail (by decide) hCO
  · refine gx_catch (E := 4) O 29 (fun th hth pl hpl => sk_pass hpl O (nm := cd_ex 4) (nm' := cd_ex 1) hth (by decide) (by decide) kl_La_19 (O.2.2.2.2.2.2.2.1.2.2.2.2.2.2 4 1 (by omega) (by omega) (by omega) (by omega) (by omega)) (sk_pass hpl O (nm := cd_ex 4) (nm' := cd_ex 2) hth (by decide) (by decide) kl_La_13 (O.2.2.2.2.2.2.2.1.2.2.2.2.2.2 4 2 (by omega) (by omega) (by omega) (by omega) (by omega)) (sk_pass hpl O (nm := cd_ex 4) (nm' := cd_ex 3) hth (by decide) (by decide) kl_La_27 (O.2.2.2.2.2.2.2.1.2.2.2.2.2.2 4 3 (by omega) (by omega) (by omega) (by omega) (by omega)) (sk_hit hpl O (nm := cd_ex 4) hth (by decide) (by decide) kl_La_44 ca_UnsupportedOperationException)))) (fun xx => ?_)
    first | refine g_astore O d_La_write_29 (Nat.le_of_ble_eq_true rfl) ?_ | refine g_astoreq O d_La_write_29 (Nat.le_of_ble_eq_true rfl) ?_
    refine g_iconst (v := 4) O d_La_write_31 (by decide) ?_
    refine g_iret O d_La_write_32 (Nat.le_of_ble_eq_true rfl) (Nat.le_of_ble_eq_true rfl) ?_
    exact h.fail (by decide) hCO
  · refine gx_catch (E := 5) O 33 (fun th hth pl hpl => sk_pass hpl O (nm := cd_ex 5) (nm' := cd_ex 1) hth (by decide) (by decide) kl_La_19 (O.2.2.2.2.2.2.2.1.2.2.2.2.2.2 5 1 (by omega) (by omega) (by omega) (by omega) (by omega)) (sk_pass hpl O (nm := cd_ex 5) (nm' := cd_ex 2) hth (by decide) (by decide) kl_La_13 (O.2.2.2.2.2.2.2.1.2.2.2.2.2.2 5 2 (by omega) (by omega) (by omega) (by omega) (by omega)) (sk_pass hpl O (nm := cd_ex 5) (nm' := cd_ex 3) hth (by decide) (by decide) kl_La_27 (O.2.2.2.2.2.2.2.1.2.2.2.2.2.2 5 3 (by omega) (by omega) (by omega) (by omega) (by omega)) (sk_pass hpl O (nm := cd_ex 5) (nm' := cd_ex 4) hth (by decide) (by decide) kl_La_44 (O.2.2.2.2.2.2.2.1.2.2.2.2.2.2 5 4 (by omega) (by omega) (by omega) (by omega) (by omega)) (sk_hit hpl O (nm := cd_ex 5) hth (by decide) (by decide) kl_La_29 ca_IndexOutOfBoundsException))))) (fun xx => ?_)
    first | refine g_astore O d_La_write_33 (Nat.le_of_ble_eq_true rfl) ?_ | refine g_astoreq O d_La_write_33 (Nat.le_of_ble_eq_true rfl) ?_
    refine g_iconst (v := 5) O d_La_write_35 (by decide) ?_
    refine g_iret O d_La_write_36 (Nat.le_of_ble_eq_true rfl) (Nat.le_of_ble_eq_true rfl) ?_
    exact h.fail (by decide) hCO
theorem cdn_pass (σ : cd_S) (d s f o : Int32) : (sp_pass σ d s f o).1 ≤ 6 := by
  simp only [sp_pass, rU, rD, rS]
  repeat' split
  all_goals exact Nat.le_of_ble_eq_true rfl
set_option maxHeartbeats 4000000 in
set_option maxRecDepth 100000 in
theorem lw_pass {G : cd_Gl} {l : Launch} {w : cd_Wd} {Q : cd_Out → cd_Wd → Prop} (hst : l.stackTraces = false) {x ou : Nat} {A : cd_A} {σ : cd_S} (hR : cd_Rep w x A σ) (hI : cd_Iv σ) (hk : cd_kd w ou = 5) (hl1 : cd_ln w ou = 1) (hou : ¬ cd_ow x A σ ou) {d s f o : Int32} {r : cd_R} (hr : sp_pass σ d s f o = r) (h : LC w x A σ ou r Q) : cd_Ct G l y_La_pass 16 7 42 [.ref x, .int d, .int s, .int f, .int o, .ref ou] w Q := by
  refine cd_ofWX cw_La_pass (by simp [Value.category, cat_rf]) (Nat.le_of_ble_eq_true rfl) fun C O => ?_
  change cd_Go G l C _ 0 0 w 0 [some (.ref x), some (.int d), some (.int s), some (.int f), some (.int o), some (.ref ou), none] []
  first | refine g_aload O d_La_pass_0 rfl ?_ | refine g_aloadq O d_La_pass_0 rfl ?_
  refine g_iconst (v := 0) O d_La_pass_2 (by decide) ?_
  first | refine g_aload_n O 0 d_La_pass_3 rfl rfl ?_ | refine g_aload_nq O 0 d_La_pass_3 rfl rfl ?_
  refine g_iload_n O 1 d_La_pass_4 rfl rfl ?_
  refine g_iload_n O 2 d_La_pass_5 rfl rfl ?_
  refine g_iload_n O 3 d_La_pass_6 rfl rfl ?_
  refine g_iload O d_La_pass_7 rfl ?_
  refine g_callv (N := 15) (mc := 7) (ms := 42) (av := [_, _, _, _]) O (Or.inl ⟨_, _, cw_Cd_pass⟩) pl_Cd (ci := 0) (q := q_Cd) rfl hR.top.1 ml_La_60 im_Cd_pass se_Cd_pass rfl d_La_pass_9 rfl (Nat.le_of_ble_eq_true rfl) (Nat.le_of_ble_eq_true rfl) (Nat.le_of_ble_eq_true rfl) (Nat.le_of_ble_eq_true rfl) ?_
  refine op_pass hst hR hI hr (fun w2 A2 hCO => ?_)
  have hle := cdn_pass σ d s f o
  rw [hr] at hle
  obtain ⟨c, a, τ⟩ := r
  simp only at hCO hle
  have hcase : c = 0 ∨ c = 1 ∨ c = 2 ∨ c = 3 ∨ c = 4 ∨ c = 5 ∨ c = 6 := by omega
  obtain ⟨hk2, hl2⟩ := CO.ou hk hl1 hCO
  rcases hcase with rfl | rfl | rfl | rfl | rfl | rfl | rfl
  · change cd_Go _ _ _ _ _ _ _ _ _ _
    refine g_i2l O d_La_pass_12 rfl ?_
    refine g_last O 2 rfl rfl hk2 (vin0 hl2) d_La_pass_13 ?_
    refine g_goto O 42 d_La_pass_14 (by decide) ?_
    refine g_iconst (v := 0) O d_La_pass_42 (by decide) ?_
    refine g_iret O d_La_pass_43 (Nat.le_of_ble_eq_true rfl) (Nat.le_of_ble_eq_true rfl) ?_
    exact h.ok hk hou hCO
  · refine gx_catch (E := 1) O 17 (fun th hth pl hpl => sk_hit hpl O (nm := cd_ex 1) hth (by decide) (by decide) kl_La_19 ca_IllegalArgumentException) (fun xx => ?_)
    first | refine g_astore O d_La_pass_17 (Nat.le_of_ble_eq_true rfl) ?_ | refine g_astoreq O d_La_pass_17 (Nat.le_of_ble_eq_true rfl) ?_
    refine g_iconst (v := 1) O d_La_pass_19 (by decide) ?_
    refine g_iret O d_La_pass_20 (Nat.le_of_ble_eq_true rfl) (Nat.le_of_ble_eq_true rfl) ?_
    exact h.fail (by decide) hCO
  · refine gx_catch (E := 2) O 21 (fun th hth pl hpl => sk_pass hpl O (nm := cd_ex 2) (nm' := cd_ex 1) hth (by decide) (by decide) kl_La_19 (O.2.2.2.2.2.2.2.1.2.2.2.2.2.2 2 1 (by omega) (by omega) (by omega) (by omega) (by omega)) (sk_hit hpl O (nm := cd_ex 2) hth (by decide) (by decide) kl_La_13 ca_IllegalStateException)) (fun xx => ?_)
    first | refine g_astore O d_La_pass_21 (Nat.le_of_ble_eq_true rfl) ?_ | refine g_astoreq O d_La_pass_21 (Nat.le_of_ble_eq_true rfl) ?_
    refine g_iconst (v := 2) O d_La_pass_23 (by decide) ?_
    refine g_iret O d_La_pass_24 (Nat.le_of_ble_eq_true rfl) (Nat.le_of_ble_eq_true rfl) ?_
    exact h.fail (by decide) hCO
  · refine gx_catch (E := 3) O 25 (fun th hth pl hpl => sk_pass hpl O (nm := cd_ex 3) (nm' := cd_ex 1) hth (by decide) (by decide) kl_La_19 (O.2.2.2.2.2.2.2.1.2.2.2.2.2.2 3 1 (by omega) (by omega) (by omega) (by omega) (by omega)) (sk_pass hpl O (nm := cd_ex 3) (nm' := cd_ex 2) hth (by decide) (by decide) kl_La_13 (O.2.2.2.2.2.2.2.1.2.2.2.2.2.2 3 2 (by omega) (by omega) (by omega) (by omega) (by omega)) (sk_hit hpl O (nm := cd_ex 3) hth (by decide) (by decide) kl_La_27 ca_NoSuchElementException))) (fun xx => ?_)
    first | refine g_astore O d_La_pass_25 (Nat.le_of_ble_eq_true rfl) ?_ | refine g_astoreq O d_La_pass_25 (Nat.le_of_ble_eq_true rfl) ?_
    refine g_iconst (v := 3) O d_La_pass_27 (by decide) ?_
    refine g_iret O d_La_pass_28 (Nat.le_of_ble_eq_true rfl) (Nat.le_of_ble_eq_true rfl) ?_
    exact h.fail (by decide) hCO
  · refine gx_catch (E := 4) O 29 (fun th hth pl hpl => sk_pass hpl O (nm := cd_ex 4) (nm' := cd_ex 1) hth (by decide) (by decide) kl_La_19 (O.2.2.2.2.2.2.2.1.2.2.2.2.2.2 4 1 (by omega) (by omega) (by omega) (by omega) (by omega)) (sk_pass hpl O (nm := cd_ex 4) (nm' := cd_ex 2) hth (by decide) (by decide) kl_La_13 (O.2.2.2.2.2.2.2.1.2.2.2.2.2.2 4 2 (by omega) (by omega) (by omega) (by omega) (by omega)) (sk_pass hpl O (nm := cd_ex 4) (nm' := cd_ex 3) hth (by decide) (by decide) kl_La_27 (O.2.2.2.2.2.2.2.1.2.2.2.2.2.2 4 3 (by omega) (by omega) (by omega) (by omega) (by omega)) (sk_hit hpl O (nm := cd_ex 4) hth (by decide) (by decide) kl_La_44 ca_UnsupportedOperationException)))) (fun xx => ?_)
    first | refine g_astore O d_La_pass_29 (Nat.le_of_ble_eq_true rfl) ?_ | refine g_astoreq O d_La_pass_29 (Nat.le_of_ble_eq_true rfl) ?_
    refine g_iconst (v := 4) O d_La_pass_31 (by decide) ?_
    refine g_iret O d_La_pass_32 (Nat.le_of_ble_eq_true rfl) (Nat.le_of_ble_eq_true rfl) ?_
    exact h.fail (by decide) hCO
  · refine gx_catch (E := 5) O 33 (fun th hth pl hpl => sk_pass hpl O (nm := cd_ex 5) (nm' := cd_ex 1) hth (by decide) (by decide) kl_La_19 (O.2.2.2.2.2.2.2.1.2.2.2.2.2.2 5 1 (by omega) (by omega) (by omega) (by omega) (by omega)) (sk_pass hpl O (nm := cd_ex 5) (nm' := cd_ex 2) hth (by decide) (by decide) kl_La_13 (O.2.2.2.2.2.2.2.1.2.2.2.2.2.2 5 2 (by omega) (by omega) (by omega) (by omega) (by omega)) (sk_pass hpl O (nm := cd_ex 5) (nm' := cd_ex 3) hth (by decide) (by decide) kl_La_27 (O.2.2.2.2.2.2.2.1.2.2.2.2.2.2 5 3 (by omega) (by omega) (by omega) (by omega) (by omega)) (sk_pass hpl O (nm := cd_ex 5) (nm' := cd_ex 4) hth (by decide) (by decide) kl_La_44 (O.2.2.2.2.2.2.2.1.2.2.2.2.2.2 5 4 (by omega) (by omega) (by omega) (by omega) (by omega)) (sk_hit hpl O (nm := cd_ex 5) hth (by decide) (by decide) kl_La_29 ca_IndexOutOfBoundsException))))) (fun xx => ?_)
    first | refine g_astore O d_La_pass_33 (Nat.le_of_ble_eq_true rfl) ?_ | refine g_astoreq O d_La_pass_33 (Nat.le_of_ble_eq_true rfl) ?_
    refine g_iconst (v := 5) O d_La_pass_35 (by decide) ?_
    refine g_iret O d_La_pass_36 (Nat.le_of_ble_eq_true rfl) (Nat.le_of_ble_eq_true rfl) ?_
    exact h.fail (by decide) hCO
  · refine gx_catch (E := 6) O 37 (fun th hth pl hpl => sk_pass hpl O (nm := cd_ex 6) (nm' := cd_ex 1) hth (by decide) (by decide) kl_La_19 (O.2.2.2.2.2.2.2.1.2.2.2.2.2.2 6 1 (by omega) (by omega) (by omega) (by omega) (by omega)) (sk_pass hpl O (nm := cd_ex 6) (nm' := cd_ex 2) hth (by decide) (by decide) kl_La_13 (O.2.2.2.2.2.2.2.1.2.2.2.2.2.2 6 2 (by omega) (by omega) (by omega) (by omega) (by omega)) (sk_pass hpl O (nm := cd_ex 6) (nm' := cd_ex 3) hth (by decide) (by decide) kl_La_27 (O.2.2.2.2.2.2.2.1.2.2.2.2.2.2 6 3 (by omega) (by omega) (by omega) (by omega) (by omega)) (sk_pass hpl O (nm := cd_ex 6) (nm' := cd_ex 4) hth (by decide) (by decide) kl_La_44 (O.2.2.2.2.2.2.2.1.2.2.2.2.2.2 6 4 (by omega) (by omega) (by omega) (by omega) (by omega)) (sk_pass hpl O (nm := cd_ex 6) (nm' := cd_ex 5) hth (by decide) (by decide) kl_La_29 (O.2.2.2.2.2.2.2.1.2.2.2.2.2.2 6 5 (by omega) (by omega) (by omega) (by omega) (by omega)) (sk_hit hpl O (nm := cd_ex 6) hth (by decide) (by decide) kl_La_21 ca_ArithmeticException)))))) (fun xx => ?_)
    first | refine g_astore O d_La_pass_37 (Nat.le_of_ble_eq_true rfl) ?_ | refine g_astoreq O d_La_pass_37 (Nat.le_of_ble_eq_true rfl) ?_
    refine g_bipush (v := 6) O d_La_pass_39 (by decide) ?_
    refine g_iret O d_La_pass_41 (Nat.le_of_ble_eq_true rfl) (Nat.le_of_ble_eq_true rfl) ?_
    exact h.fail (by decide) hCO
theorem cdn_take (σ : cd_S) (d s f t' : Int32) : (sp_take σ d s f t').1 ≤ 6 := by
  simp only [sp_take, rU, rD, rS]
  repeat' split
  all_goals exact Nat.le_of_ble_eq_true rfl
set_option maxHeartbeats 4000000 in
set_option maxRecDepth 100000 in
theorem lw_take {G : cd_Gl} {l : Launch} {w : cd_Wd} {Q : cd_Out → cd_Wd → Prop} (hst : l.stackTraces = false) {x ou : Nat} {A : cd_A} {σ : cd_S} (hR : cd_Rep w x A σ) (hI : cd_Iv σ) (hk : cd_kd w ou = 5) (hl1 : cd_ln w ou = 1) (hou : ¬ cd_ow x A σ ou) {d s f t' : Int32} {r : cd_R} (hr : sp_take σ d s f t' = r) (h : LC w x A σ ou r Q) : cd_Ct G l y_La_take 9 6 36 [.ref x, .int d, .int s, .int f, .int t', .ref ou] w Q := by
  refine cd_ofWX cw_La_take (by simp [Value.category, cat_rf]) (Nat.le_of_ble_eq_true rfl) fun C O => ?_
  change cd_Go G l C _ 0 0 w 0 [some (.ref x), some (.int d), some (.int s), some (.int f), some (.int t'), some (.ref ou), none] []
  first | refine g_aload O d_La_take_0 rfl ?_ | refine g_aloadq O d_La_take_0 rfl ?_
  refine g_iconst (v := 0) O d_La_take_2 (by decide) ?_
  first | refine g_aload_n O 0 d_La_take_3 rfl rfl ?_ | refine g_aload_nq O 0 d_La_take_3 rfl rfl ?_
  refine g_iload_n O 1 d_La_take_4 rfl rfl ?_
  refine g_iload_n O 2 d_La_take_5 rfl rfl ?_
  refine g_iload_n O 3 d_La_take_6 rfl rfl ?_
  refine g_iload O d_La_take_7 rfl ?_
  refine g_callv (N := 8) (mc := 6) (ms := 36) (av := [_, _, _, _]) O (Or.inl ⟨_, _, cw_Cd_take⟩) pl_Cd (ci := 0) (q := q_Cd) rfl hR.top.1 ml_La_63 im_Cd_take se_Cd_take rfl d_La_take_9 rfl (Nat.le_of_ble_eq_true rfl) (Nat.le_of_ble_eq_true rfl) (Nat.le_of_ble_eq_true rfl) (Nat.le_of_ble_eq_true rfl) ?_
  refine op_take hst hR hI hr (fun w2 A2 hCO => ?_)
  have hle := cdn_take σ d s f t'
  rw [hr] at hle
  obtain ⟨c, a, τ⟩ := r
  simp only at hCO hle
  have hcase : c = 0 ∨ c = 1 ∨ c = 2 ∨ c = 3 ∨ c = 4 ∨ c = 5 ∨ c = 6 := by omega
  obtain ⟨hk2, hl2⟩ := CO.ou hk hl1 hCO
  rcases hcase with rfl | rfl | rfl | rfl | rfl | rfl | rfl
  · change cd_Go _ _ _ _ _ _ _ _ _ _
    refine g_i2l O d_La_take_12 rfl ?_
    refine g_last O 2 rfl rfl hk2 (vin0 hl2) d_La_take_13 ?_
    refine g_goto O 42 d_La_take_14 (by decide) ?_
    refine g_iconst (v := 0) O d_La_take_42 (by decide) ?_
    refine g_iret O d_La_take_43 (Nat.le_of_ble_eq_true rfl) (Nat.le_of_ble_eq_true rfl) ?_
    exact h.ok hk hou hCO
  · refine gx_catch (E := 1) O 17 (fun th hth pl hpl => sk_hit hpl O (nm := cd_ex 1) hth (by decide) (by decide) kl_La_19 ca_IllegalArgumentException) (fun xx => ?_)
    first | refine g_astore O d_La_take_17 (Nat.le_of_ble_eq_true rfl) ?_ | refine g_astoreq O d_La_take_17 (Nat.le_of_ble_eq_true rfl) ?_
    refine g_iconst (v := 1) O d_La_take_19 (by decide) ?_
    refine g_iret O d_La_take_20 (Nat.le_of_ble_eq_true rfl) (Nat.le_of_ble_eq_true rfl) ?_
    exact h.fail (by decide) hCO
  · refine gx_catch (E := 2) O 21 (fun th hth pl hpl => sk_pass hpl O (nm := cd_ex 2) (nm' := cd_ex 1) hth (by decide) (by decide) kl_La_19 (O.2.2.2.2.2.2.2.1.2.2.2.2.2.2 2 1 (by omega) (by omega) (by omega) (by omega) (by omega)) (sk_hit hpl O (nm := cd_ex 2) hth (by decide) (by decide) kl_La_13 ca_IllegalStateException)) (fun xx => ?_)
    first | refine g_astore O d_La_take_21 (Nat.le_of_ble_eq_true rfl) ?_ | refine g_astoreq O d_La_take_21 (Nat.le_of_ble_eq_true rfl) ?_
    refine g_iconst (v := 2) O d_La_take_23 (by decide) ?_
    refine g_iret O d_La_take_24 (Nat.le_of_ble_eq_true rfl) (Nat.le_of_ble_eq_true rfl) ?_
    exact h.fail (by decide) hCO
  · refine gx_catch (E := 3) O 25 (fun th hth pl hpl => sk_pass hpl O (nm := cd_ex 3) (nm' := cd_ex 1) hth (by decide) (by decide) kl_La_19 (O.2.2.2.2.2.2.2.1.2.2.2.2.2.2 3 1 (by omega) (by omega) (by omega) (by omega) (by omega)) (sk_pass hpl O (nm := cd_ex 3) (nm' := cd_ex 2) hth (by decide) (by decide) kl_La_13 (O.2.2.2.2.2.2.2.1.2.2.2.2.2.2 3 2 (by omega) (by omega) (by omega) (by omega) (by omega)) (sk_hit hpl O (nm := cd_ex 3) hth (by decide) (by decide) kl_La_27 ca_NoSuchElementException))) (fun xx => ?_)
    first | refine g_astore O d_La_take_25 (Nat.le_of_ble_eq_true rfl) ?_ | refine g_astoreq O d_La_take_25 (Nat.le_of_ble_eq_true rfl) ?_
    refine g_iconst (v := 3) O d_La_take_27 (by decide) ?_
    refine g_iret O d_La_take_28 (Nat.le_of_ble_eq_true rfl) (Nat.le_of_ble_eq_true rfl) ?_
    exact h.fail (by decide) hCO
  · refine gx_catch (E := 4) O 29 (fun th hth pl hpl => sk_pass hpl O (nm := cd_ex 4) (nm' := cd_ex 1) hth (by decide) (by decide) kl_La_19 (O.2.2.2.2.2.2.2.1.2.2.2.2.2.2 4 1 (by omega) (by omega) (by omega) (by omega) (by omega)) (sk_pass hpl O (nm := cd_ex 4) (nm' := cd_ex 2) hth (by decide) (by decide) kl_La_13 (O.2.2.2.2.2.2.2.1.2.2.2.2.2.2 4 2 (by omega) (by omega) (by omega) (by omega) (by omega)) (sk_pass hpl O (nm := cd_ex 4) (nm' := cd_ex 3) hth (by decide) (by decide) kl_La_27 (O.2.2.2.2.2.2.2.1.2.2.2.2.2.2 4 3 (by omega) (by omega) (by omega) (by omega) (by omega)) (sk_hit hpl O (nm := cd_ex 4) hth (by decide) (by decide) kl_La_44 ca_UnsupportedOperationException)))) (fun xx => ?_)
    first | refine g_astore O d_La_take_29 (Nat.le_of_ble_eq_true rfl) ?_ | refine g_astoreq O d_La_take_29 (Nat.le_of_ble_eq_true rfl) ?_
    refine g_iconst (v := 4) O d_La_take_31 (by decide) ?_
    refine g_iret O d_La_take_32 (Nat.le_of_ble_eq_true rfl) (Nat.le_of_ble_eq_true rfl) ?_
    exact h.fail (by decide) hCO
  · refine gx_catch (E := 5) O 33 (fun th hth pl hpl => sk_pass hpl O (nm := cd_ex 5) (nm' := cd_ex 1) hth (by decide) (by decide) kl_La_19 (O.2.2.2.2.2.2.2.1.2.2.2.2.2.2 5 1 (by omega) (by omega) (by omega) (by omega) (by omega)) (sk_pass hpl O (nm := cd_ex 5) (nm' := cd_ex 2) hth (by decide) (by decide) kl_La_13 (O.2.2.2.2.2.2.2.1.2.2.2.2.2.2 5 2 (by omega) (by omega) (by omega) (by omega) (by omega)) (sk_pass hpl O (nm := cd_ex 5) (nm' := cd_ex 3) hth (by decide) (by decide) kl_La_27 (O.2.2.2.2.2.2.2.1.2.2.2.2.2.2 5 3 (by omega) (by omega) (by omega) (by omega) (by omega)) (sk_pass hpl O (nm := cd_ex 5) (nm' := cd_ex 4) hth (by decide) (by decide) kl_La_44 (O.2.2.2.2.2.2.2.1.2.2.2.2.2.2 5 4 (by omega) (by omega) (by omega) (by omega) (by omega)) (sk_hit hpl O (nm := cd_ex 5) hth (by decide) (by decide) kl_La_29 ca_IndexOutOfBoundsException))))) (fun xx => ?_)
    first | refine g_astore O d_La_take_33 (Nat.le_of_ble_eq_true rfl) ?_ | refine g_astoreq O d_La_take_33 (Nat.le_of_ble_eq_true rfl) ?_
    refine g_iconst (v := 5) O d_La_take_35 (by decide) ?_
    refine g_iret O d_La_take_36 (Nat.le_of_ble_eq_true rfl) (Nat.le_of_ble_eq_true rfl) ?_
    exact h.fail (by decide) hCO
  · refine gx_catch (E := 6) O 37 (fun th hth pl hpl => sk_pass hpl O (nm := cd_ex 6) (nm' := cd_ex 1) hth (by decide) (by decide) kl_La_19 (O.2.2.2.2.2.2.2.1.2.2.2.2.2.2 6 1 (by omega) (by omega) (by omega) (by omega) (by omega)) (sk_pass hpl O (nm := cd_ex 6) (nm' := cd_ex 2) hth (by decide) (by decide) kl_La_13 (O.2.2.2.2.2.2.2.1.2.2.2.2.2.2 6 2 (by omega) (by omega) (by omega) (by omega) (by omega)) (sk_pass hpl O (nm := cd_ex 6) (nm' := cd_ex 3) hth (by decide) (by decide) kl_La_27 (O.2.2.2.2.2.2.2.1.2.2.2.2.2.2 6 3 (by omega) (by omega) (by omega) (by omega) (by omega)) (sk_pass hpl O (nm := cd_ex 6) (nm' := cd_ex 4) hth (by decide) (by decide) kl_La_44 (O.2.2.2.2.2.2.2.1.2.2.2.2.2.2 6 4 (by omega) (by omega) (by omega) (by omega) (by omega)) (sk_pass hpl O (nm := cd_ex 6) (nm' := cd_ex 5) hth (by decide) (by decide) kl_La_29 (O.2.2.2.2.2.2.2.1.2.2.2.2.2.2 6 5 (by omega) (by omega) (by omega) (by omega) (by omega)) (sk_hit hpl O (nm := cd_ex 6) hth (by decide) (by decide) kl_La_21 ca_ArithmeticException)))))) (fun xx => ?_)
    first | refine g_astore O d_La_take_37 (Nat.le_of_ble_eq_true rfl) ?_ | refine g_astoreq O d_La_take_37 (Nat.le_of_ble_eq_true rfl) ?_
    refine g_bipush (v := 6) O d_La_take_39 (by decide) ?_
    refine g_iret O d_La_take_41 (Nat.le_of_ble_eq_true rfl) (Nat.le_of_ble_eq_true rfl) ?_
    exact h.fail (by decide) hCO
theorem cdn_free (σ : cd_S) (d s : Int32) : (sp_free σ d s).1 ≤ 4 := by
  simp only [sp_free, rU, rD, rS]
  repeat' split
  all_goals exact Nat.le_of_ble_eq_true rfl
set_option maxHeartbeats 4000000 in
set_option maxRecDepth 100000 in
theorem lw_free {G : cd_Gl} {l : Launch} {w : cd_Wd} {Q : cd_Out → cd_Wd → Prop} (hst : l.stackTraces = false) {x ou : Nat} {A : cd_A} {σ : cd_S} (hR : cd_Rep w x A σ) (hI : cd_Iv σ) (hk : cd_kd w ou = 5) (hl1 : cd_ln w ou = 1) (hou : ¬ cd_ow x A σ ou) {d s : Int32} {r : cd_R} (hr : sp_free σ d s = r) (h : LC w x A σ ou r Q) : cd_Ct G l y_La_free 9 4 24 [.ref x, .int d, .int s, .ref ou] w Q := by
  refine cd_ofWX cw_La_free (by simp [Value.category, cat_rf]) (Nat.le_of_ble_eq_true rfl) fun C O => ?_
  change cd_Go G l C _ 0 0 w 0 [some (.ref x), some (.int d), some (.int s), some (.ref ou), none] []
  first | refine g_aload_n O 3 d_La_free_0 rfl rfl ?_ | refine g_aload_nq O 3 d_La_free_0 rfl rfl ?_
  refine g_iconst (v := 0) O d_La_free_1 (by decide) ?_
  first | refine g_aload_n O 0 d_La_free_2 rfl rfl ?_ | refine g_aload_nq O 0 d_La_free_2 rfl rfl ?_
  refine g_iload_n O 1 d_La_free_3 rfl rfl ?_
  refine g_iload_n O 2 d_La_free_4 rfl rfl ?_
  refine g_callv (N := 8) (mc := 4) (ms := 24) (av := [_, _]) O (Or.inl ⟨_, _, cw_Cd_free⟩) pl_Cd (ci := 0) (q := q_Cd) rfl hR.top.1 ml_La_66 im_Cd_free se_Cd_free rfl d_La_free_5 rfl (Nat.le_of_ble_eq_true rfl) (Nat.le_of_ble_eq_true rfl) (Nat.le_of_ble_eq_true rfl) (Nat.le_of_ble_eq_true rfl) ?_
  refine op_free hst hR hI hr (fun w2 A2 hCO => ?_)
  have hle := cdn_free σ d s
  rw [hr] at hle
  obtain ⟨c, a, τ⟩ := r
  simp only at hCO hle
  have hcase : c = 0 ∨ c = 1 ∨ c = 2 ∨ c = 3 ∨ c = 4 := by omega
  obtain ⟨hk2, hl2⟩ := CO.ou hk hl1 hCO
  rcases hcase with rfl | rfl | rfl | rfl | rfl
  · change cd_Go _ _ _ _ _ _ _ _ _ _
    refine g_i2l O d_La_free_8 rfl ?_
    refine g_last O 2 rfl rfl hk2 (vin0 hl2) d_La_free_9 ?_
    refine g_goto O 29 d_La_free_10 (by decide) ?_
    refine g_iconst (v := 0) O d_La_free_29 (by decide) ?_
    refine g_iret O d_La_free_30 (Nat.le_of_ble_eq_true rfl) (Nat.le_of_ble_eq_true rfl) ?_
    exact h.ok hk hou hCO
  · refine gx_catch (E := 1) O 13 (fun th hth pl hpl => sk_hit hpl O (nm := cd_ex 1) hth (by decide) (by decide) kl_La_19 ca_IllegalArgumentException) (fun xx => ?_)
    first | refine g_astore O d_La_free_13 (Nat.le_of_ble_eq_true rfl) ?_ | refine g_astoreq O d_La_free_13 (Nat.le_of_ble_eq_true rfl) ?_
    refine g_iconst (v := 1) O d_La_free_15 (by decide) ?_
    refine g_iret O d_La_free_16 (Nat.le_of_ble_eq_true rfl) (Nat.le_of_ble_eq_true rfl) ?_
    exact h.fail (by decide) hCO
  · refine gx_catch (E := 2) O 17 (fun th hth pl hpl => sk_pass hpl O (nm := cd_ex 2) (nm' := cd_ex 1) hth (by decide) (by decide) kl_La_19 (O.2.2.2.2.2.2.2.1.2.2.2.2.2.2 2 1 (by omega) (by omega) (by omega) (by omega) (by omega)) (sk_hit hpl O (nm := cd_ex 2) hth (by decide) (by decide) kl_La_13 ca_IllegalStateException)) (fun xx => ?_)
    first | refine g_astore O d_La_free_17 (Nat.le_of_ble_eq_true rfl) ?_ | refine g_astoreq O d_La_free_17 (Nat.le_of_ble_eq_true rfl) ?_
    refine g_iconst (v := 2) O d_La_free_19 (by decide) ?_
    refine g_iret O d_La_free_20 (Nat.le_of_ble_eq_true rfl) (Nat.le_of_ble_eq_true rfl) ?_
    exact h.fail (by decide) hCO
  · refine gx_catch (E := 3) O 21 (fun th hth pl hpl => sk_pass hpl O (nm := cd_ex 3) (nm' := cd_ex 1) hth (by decide) (by decide) kl_La_19 (O.2.2.2.2.2.2.2.1.2.2.2.2.2.2 3 1 (by omega) (by omega) (by omega) (by omega) (by omega)) (sk_pass hpl O (nm := cd_ex 3) (nm' := cd_ex 2) hth (by decide) (by decide) kl_La_13 (O.2.2.2.2.2.2.2.1.2.2.2.2.2.2 3 2 (by omega) (by omega) (by omega) (by omega) (by omega)) (sk_hit hpl O (nm := cd_ex 3) hth (by decide) (by decide) kl_La_27 ca_NoSuchElementException))) (fun xx => ?_)
    first | refine g_astore O d_La_free_21 (Nat.le_of_ble_eq_true rfl) ?_ | refine g_astoreq O d_La_free_21 (Nat.le_of_ble_eq_true rfl) ?_
    refine g_iconst (v := 3) O d_La_free_23 (by decide) ?_
    refine g_iret O d_La_free_24 (Nat.le_of_ble_eq_true rfl) (Nat.le_of_ble_eq_true rfl) ?_
    exact h.fail (by decide) hCO
  · refine gx_catch (E := 4) O 25 (fun th hth pl hpl => sk_pass hpl O (nm := cd_ex 4) (nm' := cd_ex 1) hth (by decide) (by decide) kl_La_19 (O.2.2.2.2.2.2.2.1.2.2.2.2.2.2 4 1 (by omega) (by omega) (by omega) (by omega) (by omega)) (sk_pass hpl O (nm := cd_ex 4) (nm' := cd_ex 2) hth (by decide) (by decide) kl_La_13 (O.2.2.2.2.2.2.2.1.2.2.2.2.2.2 4 2 (by omega) (by omega) (by omega) (by omega) (by omega)) (sk_pass hpl O (nm := cd_ex 4) (nm' := cd_ex 3) hth (by decide) (by decide) kl_La_27 (O.2.2.2.2.2.2.2.1.2.2.2.2.2.2 4 3 (by omega) (by omega) (by omega) (by omega) (by omega)) (sk_hit hpl O (nm := cd_ex 4) hth (by decide) (by decide) kl_La_44 ca_UnsupportedOperationException)))) (fun xx => ?_)
    first | refine g_astore O d_La_free_25 (Nat.le_of_ble_eq_true rfl) ?_ | refine g_astoreq O d_La_free_25 (Nat.le_of_ble_eq_true rfl) ?_
    refine g_iconst (v := 4) O d_La_free_27 (by decide) ?_
    refine g_iret O d_La_free_28 (Nat.le_of_ble_eq_true rfl) (Nat.le_of_ble_eq_true rfl) ?_
    exact h.fail (by decide) hCO
theorem cdn_end (σ : cd_S) (d : Int32) : (sp_end σ d).1 ≤ 2 := by
  simp only [sp_end, rD]
  repeat' split
  all_goals exact Nat.le_of_ble_eq_true rfl
set_option maxHeartbeats 4000000 in
set_option maxRecDepth 100000 in
theorem lw_end {G : cd_Gl} {l : Launch} {w : cd_Wd} {Q : cd_Out → cd_Wd → Prop} (hst : l.stackTraces = false) {x ou : Nat} {A : cd_A} {σ : cd_S} (hR : cd_Rep w x A σ) (hI : cd_Iv σ) (hk : cd_kd w ou = 5) (hl1 : cd_ln w ou = 1) (hou : ¬ cd_ow x A σ ou) {d : Int32} {r : cd_R} (hr : sp_end σ d = r) (h : LC w x A σ ou r Q) : cd_Ct G l y_La_end 8 1 6 [.ref x, .int d, .ref ou] w Q := by
  refine cd_ofWX cw_La_end (by simp [Value.category, cat_rf]) (Nat.le_of_ble_eq_true rfl) fun C O => ?_
  change cd_Go G l C _ 0 0 w 0 [some (.ref x), some (.int d), some (.ref ou), none] []
  first | refine g_aload_n O 2 d_La_end_0 rfl rfl ?_ | refine g_aload_nq O 2 d_La_end_0 rfl rfl ?_
  refine g_iconst (v := 0) O d_La_end_1 (by decide) ?_
  first | refine g_aload_n O 0 d_La_end_2 rfl rfl ?_ | refine g_aload_nq O 0 d_La_end_2 rfl rfl ?_
  refine g_iload_n O 1 d_La_end_3 rfl rfl ?_
  refine g_callv (N := 7) (mc := 1) (ms := 6) (av := [_]) O (Or.inl ⟨_, _, cw_Cd_end⟩) pl_Cd (ci := 0) (q := q_Cd) rfl hR.top.1 ml_La_69 im_Cd_end se_Cd_end rfl d_La_end_4 rfl (Nat.le_of_ble_eq_true rfl) (Nat.le_of_ble_eq_true rfl) (Nat.le_of_ble_eq_true rfl) (Nat.le_of_ble_eq_true rfl) ?_
  refine op_end hst hR hr (fun w2 A2 hCO => ?_)
  have hle := cdn_end σ d
  rw [hr] at hle
  obtain ⟨c, a, τ⟩ := r
  simp only at hCO hle
  have hcase : c = 0 ∨ c = 1 ∨ c = 2 := by omega
  obtain ⟨hk2, hl2⟩ := CO.ou hk hl1 hCO
  rcases hcase with rfl | rfl | rfl
  · change cd_Go _ _ _ _ _ _ _ _ _ _
    refine g_i2l O d_La_end_7 rfl ?_
    refine g_last O 2 rfl rfl hk2 (vin0 hl2) d_La_end_8 ?_
    refine g_goto O 18 d_La_end_9 (by decide) ?_
    refine g_iconst (v := 0) O d_La_end_18 (by decide) ?_
    refine g_iret O d_La_end_19 (Nat.le_of_ble_eq_true rfl) (Nat.le_of_ble_eq_true rfl) ?_
    exact h.ok hk hou hCO
  · refine gx_catch (E := 1) O 12 (fun th hth pl hpl => sk_hit hpl O (nm := cd_ex 1) hth (by decide) (by decide) kl_La_19 ca_IllegalArgumentException) (fun xx => ?_)
    first | refine g_astore_n O 3 d_La_end_12 rfl (Nat.le_of_ble_eq_true rfl) ?_ | refine g_astore_nq O 3 d_La_end_12 rfl (Nat.le_of_ble_eq_true rfl) ?_
    refine g_iconst (v := 1) O d_La_end_13 (by decide) ?_
    refine g_iret O d_La_end_14 (Nat.le_of_ble_eq_true rfl) (Nat.le_of_ble_eq_true rfl) ?_
    exact h.fail (by decide) hCO
  · refine gx_catch (E := 2) O 15 (fun th hth pl hpl => sk_pass hpl O (nm := cd_ex 2) (nm' := cd_ex 1) hth (by decide) (by decide) kl_La_19 (O.2.2.2.2.2.2.2.1.2.2.2.2.2.2 2 1 (by omega) (by omega) (by omega) (by omega) (by omega)) (sk_hit hpl O (nm := cd_ex 2) hth (by decide) (by decide) kl_La_13 ca_IllegalStateException)) (fun xx => ?_)
    first | refine g_astore_n O 3 d_La_end_15 rfl (Nat.le_of_ble_eq_true rfl) ?_ | refine g_astore_nq O 3 d_La_end_15 rfl (Nat.le_of_ble_eq_true rfl) ?_
    refine g_iconst (v := 2) O d_La_end_16 (by decide) ?_
    refine g_iret O d_La_end_17 (Nat.le_of_ble_eq_true rfl) (Nat.le_of_ble_eq_true rfl) ?_
    exact h.fail (by decide) hCO
