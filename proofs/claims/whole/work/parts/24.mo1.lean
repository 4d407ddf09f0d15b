theorem cd_lt {lk : Option Nat} (h : ∀ t, lk = some t → t < 40) : cd_l lk < 0 ↔ lk = none := by
  cases lk with
  | none => exact ⟨fun _ => rfl, fun _ => by decide⟩
  | some t => exact ⟨fun e => absurd e (nI_pos (by have := h t rfl; omega)), fun e => by cases e⟩
theorem cd_nb (b : Bool) : cd_b (!b) = 0 ↔ b = true := by cases b <;> decide
theorem cd_nbn (b : Bool) : ¬ cd_b (!b) = 0 ↔ b = false := by cases b <;> decide
/-- within 0 .. lim - 1 -/
def inL (v lim : Int32) : Bool := decide (¬ v < 0) && decide (¬ lim ≤ v)
set_option maxHeartbeats 4000000 in
set_option maxRecDepth 100000 in
theorem ct_Mo_thrown {G : cd_Gl} {l : Launch} {w : cd_Wd} {Q : cd_Out → cd_Wd → Prop} {m : Nat} (hm : cd_kd w m = 14) (h : Q (.inl (some (.int (cd_I w 194 m 0)))) w) : cd_Ct G l y_Mo_thrown 0 0 0 [.ref m] w Q := by
  refine cd_ofW cw_Mo_thrown (by simp [Value.category, cat_rf]) (Nat.le_of_ble_eq_true rfl) fun C O => ?_
  change cd_Go G l C _ 0 0 w 0 [some (.ref m)] []
  first | refine g_aload_n O 0 d_Mo_thrown_0 rfl rfl ?_ | refine g_aload_nq O 0 d_Mo_thrown_0 rfl rfl ?_
  refine g_getI O c_Mo 2 (by decide) rfl hm lk_Mo_16 d_Mo_thrown_1 ?_
  refine g_iret O d_Mo_thrown_4 (Nat.le_of_ble_eq_true rfl) (Nat.le_of_ble_eq_true rfl) ?_
  exact h
set_option maxHeartbeats 4000000 in
set_option maxRecDepth 100000 in
theorem ct_Mo_fail {G : cd_Gl} {l : Launch} {w : cd_Wd} {Q : cd_Out → cd_Wd → Prop} {m : Nat} {c : Int32} (hm : cd_kd w m = 14) (h : Q (.inl (some (.int 0))) (cd_wI w 194 m 0 c)) : cd_Ct G l y_Mo_fail 0 0 0 [.ref m, .int c] w Q := by
  refine cd_ofW cw_Mo_fail (by simp [Value.category, cat_rf]) (Nat.le_of_ble_eq_true rfl) fun C O => ?_
  change cd_Go G l C _ 0 0 w 0 [some (.ref m), some (.int c)] []
  first | refine g_aload_n O 0 d_Mo_fail_0 rfl rfl ?_ | refine g_aload_nq O 0 d_Mo_fail_0 rfl rfl ?_
  refine g_iload_n O 1 d_Mo_fail_1 rfl rfl ?_
  refine g_putI O c_Mo 2 (by decide) rfl hm (Or.inl rfl) (Or.inl rfl) lk_Mo_16 d_Mo_fail_2 ?_
  refine g_iconst (v := 0) O d_Mo_fail_5 (by decide) ?_
  refine g_iret O d_Mo_fail_6 (Nat.le_of_ble_eq_true rfl) (Nat.le_of_ble_eq_true rfl) ?_
  exact h
set_option maxHeartbeats 4000000 in
set_option maxRecDepth 100000 in
theorem ct_Mo_fine {G : cd_Gl} {l : Launch} {w : cd_Wd} {Q : cd_Out → cd_Wd → Prop} {m : Nat} {a : Int32} (hm : cd_kd w m = 14) (h : Q (.inl (some (.int a))) (cd_wI w 194 m 0 0)) : cd_Ct G l y_Mo_fine 0 0 0 [.ref m, .int a] w Q := by
  refine cd_ofW cw_Mo_fine (by simp [Value.category, cat_rf]) (Nat.le_of_ble_eq_true rfl) fun C O => ?_
  change cd_Go G l C _ 0 0 w 0 [some (.ref m), some (.int a)] []
  first | refine g_aload_n O 0 d_Mo_fine_0 rfl rfl ?_ | refine g_aload_nq O 0 d_Mo_fine_0 rfl rfl ?_
  refine g_iconst (v := 0) O d_Mo_fine_1 (by decide) ?_
  refine g_putI O c_Mo 2 (by decide) rfl hm (Or.inl rfl) (Or.inl rfl) lk_Mo_16 d_Mo_fine_2 ?_
  refine g_iload_n O 1 d_Mo_fine_5 rfl rfl ?_
  refine g_iret O d_Mo_fine_6 (Nat.le_of_ble_eq_true rfl) (Nat.le_of_ble_eq_true rfl) ?_
  exact h
set_option maxHeartbeats 4000000 in
set_option maxRecDepth 100000 in
theorem ct_Mo_out {G : cd_Gl} {l : Launch} {w : cd_Wd} {Q : cd_Out → cd_Wd → Prop} {m : Nat} {v lim : Int32} (h : Q (.inl (some (.int (cd_b (!inL v lim))))) w) : cd_Ct G l y_Mo_out 0 0 0 [.ref m, .int v, .int lim] w Q := by
  refine cd_ofW cw_Mo_out (by simp [Value.category, cat_rf]) (Nat.le_of_ble_eq_true rfl) fun C O => ?_
  change cd_Go G l C _ 0 0 w 0 [some (.ref m), some (.int v), some (.int lim)] []
  refine g_iload_n O 1 d_Mo_out_0 rfl rfl ?_
  refine g_if_lt  O 9 d_Mo_out_1 (by decide) (fun c1 => ?_) (fun c1 => ?_)
  · rw [show inL v lim = false from by simp [inL, c1]] at h
    refine g_iconst (v := 1) O d_Mo_out_9 (by decide) ?_
    refine g_goto O 14 d_Mo_out_10 (by decide) ?_
    refine g_zret O d_Mo_out_14 (by first | exact Or.inl rfl | exact Or.inr rfl | assumption) (Nat.le_of_ble_eq_true rfl) (Nat.le_of_ble_eq_true rfl) ?_
    exact h
  · refine g_iload_n O 1 d_Mo_out_4 rfl rfl ?_
    refine g_iload_n O 2 d_Mo_out_5 rfl rfl ?_
    refine g_icmp_lt  O 13 d_Mo_out_6 (by decide) (fun c6 => ?_) (fun c6 => ?_)
    · rw [show inL v lim = true from by simp [inL, c1, c6]] at h
      refine g_iconst (v := 0) O d_Mo_out_13 (by decide) ?_
      refine g_zret O d_Mo_out_14 (by first | exact Or.inl rfl | exact Or.inr rfl | assumption) (Nat.le_of_ble_eq_true rfl) (Nat.le_of_ble_eq_true rfl) ?_
      exact h
    · rw [show inL v lim = false from by simp [inL]; intro _; exact Int32.not_lt.mp c6] at h
      refine g_iconst (v := 1) O d_Mo_out_9 (by decide) ?_
      refine g_goto O 14 d_Mo_out_10 (by decide) ?_
      refine g_zret O d_Mo_out_14 (by first | exact Or.inl rfl | exact Or.inr rfl | assumption) (Nat.le_of_ble_eq_true rfl) (Nat.le_of_ble_eq_true rfl) ?_
      exact h
set_option maxHeartbeats 4000000 in
set_option maxRecDepth 100000 in
theorem ct_Mo_noDomain {G : cd_Gl} {l : Launch} {w : cd_Wd} {Q : cd_Out → cd_Wd → Prop} {m : Nat} {B : Nat → Nat} {σ : cd_S} {g : Nat → Bool} (hM : RepM w m B σ g) {d : Int32} (h : Q (.inl (some (.int (cd_b (!isD σ d))))) w) : cd_Ct G l y_Mo_noDomain 0 0 0 [.ref m, .int d] w Q := by
  refine cd_ofW cw_Mo_noDomain (by simp [Value.category, cat_rf]) (Nat.le_of_ble_eq_true rfl) fun C O => ?_
  change cd_Go G l C _ 0 0 w 0 [some (.ref m), some (.int d)] []
  refine g_iload_n O 1 d_Mo_noDomain_0 rfl rfl ?_
  refine g_if_lt  O 12 d_Mo_noDomain_1 (by decide) (fun c1 => ?_) (fun c1 => ?_)
  · rw [show isD σ d = false from by simp [isD, c1]] at h
    refine g_iconst (v := 1) O d_Mo_noDomain_12 (by decide) ?_
    refine g_goto O 17 d_Mo_noDomain_13 (by decide) ?_
    refine g_zret O d_Mo_noDomain_17 (by first | exact Or.inl rfl | exact Or.inr rfl | assumption) (Nat.le_of_ble_eq_true rfl) (Nat.le_of_ble_eq_true rfl) ?_
    exact h
  · refine g_iload_n O 1 d_Mo_noDomain_4 rfl rfl ?_
    first | refine g_aload_n O 0 d_Mo_noDomain_5 rfl rfl ?_ | refine g_aload_nq O 0 d_Mo_noDomain_5 rfl rfl ?_
    refine g_getV O c_Mo 0 (by decide) rfl hM.km lk_Mo_7 d_Mo_noDomain_6 hM.D ?_
    refine g_icmp_lt  O 16 d_Mo_noDomain_9 (by decide) (fun c9 => ?_) (fun c9 => ?_)
    · rw [show isD σ d = true from by simp [isD, c1, c9]] at h
      refine g_iconst (v := 0) O d_Mo_noDomain_16 (by decide) ?_
      refine g_zret O d_Mo_noDomain_17 (by first | exact Or.inl rfl | exact Or.inr rfl | assumption) (Nat.le_of_ble_eq_true rfl) (Nat.le_of_ble_eq_true rfl) ?_
      exact h
    · rw [show isD σ d = false from by simp [isD]; intro _; exact Int32.not_lt.mp c9] at h
      refine g_iconst (v := 1) O d_Mo_noDomain_12 (by decide) ?_
      refine g_goto O 17 d_Mo_noDomain_13 (by decide) ?_
      refine g_zret O d_Mo_noDomain_17 (by first | exact Or.inl rfl | exact Or.inr rfl | assumption) (Nat.le_of_ble_eq_true rfl) (Nat.le_of_ble_eq_true rfl) ?_
      exact h
set_option maxHeartbeats 4000000 in
set_option maxRecDepth 100000 in
theorem ct_Mo_none {G : cd_Gl} {l : Launch} {w : cd_Wd} {Q : cd_Out → cd_Wd → Prop} {m : Nat} {B : Nat → Nat} {σ : cd_S} {g : Nat → Bool} (hM : RepM w m B σ g) {d : Nat} {o : Int32} (hd : d < 6) (h : Q (.inl (some (.int (cd_b (!hasO σ d o))))) w) : cd_Ct G l y_Mo_none 1 0 0 [.ref m, .int (nI d), .int o] w Q := by
  refine cd_ofW cw_Mo_none (by simp [Value.category, cat_rf]) (Nat.le_of_ble_eq_true rfl) fun C O => ?_
  change cd_Go G l C _ 0 0 w 0 [some (.ref m), some (.int (nI d)), some (.int o)] []
  first | refine g_aload_n O 0 d_Mo_none_0 rfl rfl ?_ | refine g_aload_nq O 0 d_Mo_none_0 rfl rfl ?_
  refine g_iload_n O 2 d_Mo_none_1 rfl rfl ?_
  refine g_bipush (v := 12) O d_Mo_none_2 (by decide) ?_
  refine g_callv (N := 0) (mc := 0) (ms := 0) (av := [_, _]) O (Or.inl ⟨_, _, cw_Mo_out⟩) pl_Mo (ci := 6) (q := q_Mo) rfl hM.km ml_Mo_66 im_Mo_out se_Mo_out rfl d_Mo_none_4 rfl (Nat.le_of_ble_eq_true rfl) (Nat.le_of_ble_eq_true rfl) (Nat.le_of_ble_eq_true rfl) (Nat.le_of_ble_eq_true rfl) ?_
  refine ct_Mo_out ?_
  change cd_Go _ _ _ _ _ _ _ _ _ _
  refine g_if_ne  O 24 d_Mo_none_7 (by decide) (fun c7 => ?_) (fun c7 => ?_)
  · rw [show hasO σ d o = false from by have q := (cd_nbn _).mp c7; simp only [inL] at q; simp only [hasO]; rw [show decide (¬ nI 12 ≤ o) = decide (¬ (12 : Int32) ≤ o) from rfl, q]; rfl] at h
    refine g_iconst (v := 1) O d_Mo_none_24 (by decide) ?_
    refine g_goto O 29 d_Mo_none_25 (by decide) ?_
    refine g_zret O d_Mo_none_29 (by first | exact Or.inl rfl | exact Or.inr rfl | assumption) (Nat.le_of_ble_eq_true rfl) (Nat.le_of_ble_eq_true rfl) ?_
    exact h
  · have q := (cd_nb _).mp c7
    simp only [inL, Bool.and_eq_true, decide_eq_true_eq] at q
    obtain ⟨j, hj, rfl⟩ := ix_of (n := 12) (by omega) q.1 q.2
    rw [hasO_nI hj] at h
    first | refine g_aload_n O 0 d_Mo_none_10 rfl rfl ?_ | refine g_aload_nq O 0 d_Mo_none_10 rfl rfl ?_
    refine g_getS O c_Mo 4 (by decide) rfl hM.km lk_Mo_23 d_Mo_none_11 (hM.a 4 (by omega) (by omega)).1 ?_
    refine g_iload_n O 1 d_Mo_none_14 rfl rfl ?_
    refine g_bipush (v := 12) O d_Mo_none_15 (by decide) ?_
    refine g_imul O d_Mo_none_17 ?_
    refine g_iload_n O 2 d_Mo_none_18 rfl rfl ?_
    refine g_iadd O d_Mo_none_19 ?_
    rw [m12, nI_add]
    refine g_zaldV O 1 rfl rfl (hM.a 4 (by omega) (by omega)).2.1 (by (try simp only [ln_wI]); rw [(hM.a 4 (by omega) (by omega)).2.2]; exact ix_in (n := 72) (show d * 12 + j < 72 from by omega) (by omega)) d_Mo_none_20 (Eq.trans (congrArg (cd_I _ (1000 + 1) (B 4)) (cl_nI (j := d * 12 + j) (by omega))) (hM.T hd hj)) ?_
    refine g_if_ne  O 28 d_Mo_none_21 (by decide) (fun c21 => ?_) (fun c21 => ?_)
    · rw [cd_b_ne.mp c21] at h
      refine g_iconst (v := 0) O d_Mo_none_28 (by decide) ?_
      refine g_zret O d_Mo_none_29 (by first | exact Or.inl rfl | exact Or.inr rfl | assumption) (Nat.le_of_ble_eq_true rfl) (Nat.le_of_ble_eq_true rfl) ?_
      exact h
    · rw [cd_b_eq.mp c21] at h
      refine g_iconst (v := 1) O d_Mo_none_24 (by decide) ?_
      refine g_goto O 29 d_Mo_none_25 (by decide) ?_
      refine g_zret O d_Mo_none_29 (by first | exact Or.inl rfl | exact Or.inr rfl | assumption) (Nat.le_of_ble_eq_true rfl) (Nat.le_of_ble_eq_true rfl) ?_
      exact h
set_option maxHeartbeats 4000000 in
set_option maxRecDepth 100000 in
theorem ct_Mo_home {G : cd_Gl} {l : Launch} {w : cd_Wd} {Q : cd_Out → cd_Wd → Prop} {m : Nat} {B : Nat → Nat} {σ : cd_S} {g : Nat → Bool} (hM : RepM w m B σ g) {c : Nat} (hc : c < sC σ) (h : Q (.inl (some (.int (nI (kH σ c))))) w) : cd_Ct G l y_Mo_home 0 0 0 [.ref m, .int (nI c)] w Q := by
  refine cd_ofW cw_Mo_home (by simp [Value.category, cat_rf]) (Nat.le_of_ble_eq_true rfl) fun C O => ?_
  change cd_Go G l C _ 0 0 w 0 [some (.ref m), some (.int (nI c))] []
  have hC := hM.C40
  have hw := hM.hw hc
  first | refine g_aload_n O 0 d_Mo_home_0 rfl rfl ?_ | refine g_aload_nq O 0 d_Mo_home_0 rfl rfl ?_
  refine g_getS O c_Mo 8 (by decide) rfl hM.km lk_Mo_36 d_Mo_home_1 (hM.a 8 (by omega) (by omega)).1 ?_
  refine g_iload_n O 1 d_Mo_home_4 rfl rfl ?_
  refine g_ialdV O 0 rfl rfl (hM.a 8 (by omega) (by omega)).2.1 (by (try simp only [ln_wI]); rw [(hM.a 8 (by omega) (by omega)).2.2]; exact ix_in (n := 40) (show c < 40 from by omega) (by omega)) d_Mo_home_5 (Eq.trans (congrArg (cd_I _ (1000 + 0) (B 8)) (cl_nI (j := c) (by omega))) ((hM.K hc).1)) ?_
  refine g_bipush (v := 12) O d_Mo_home_6 (by decide) ?_
  refine g_idiv O d_Mo_home_8 (by decide) ?_
  rw [d12 hw.1 hw.2.2.1]
  refine g_iret O d_Mo_home_9 (Nat.le_of_ble_eq_true rfl) (Nat.le_of_ble_eq_true rfl) ?_
  exact h
theorem rd_eq {σ : cd_S} {g : Nat → Bool} (hp : ∀ c, c < sC σ → ∀ q, kP σ c = some q → q < c) {c : Nat} (hc : c < sC σ) : rd σ g c = (g c || sE σ (kH σ c) || (match kP σ c with
    | some p => rd σ g p
    | none => false)) := by
  rw [rd, anc_eq hp hc, List.any_cons]
  congr 1
  cases hk : kP σ c with
  | none => rfl
  | some p => rfl
set_option maxHeartbeats 4000000 in
set_option maxRecDepth 100000 in
theorem ct_Mo_dead {G : cd_Gl} {l : Launch} {w : cd_Wd} {Q : cd_Out → cd_Wd → Prop} {m : Nat} {B : Nat → Nat} {σ : cd_S} {g : Nat → Bool} (hM : RepM w m B σ g) {c : Nat} (hc : c < sC σ) (h : Q (.inl (some (.int (cd_b (rd σ g c))))) w) : cd_Ct G l y_Mo_dead 1 0 0 [.ref m, .int (nI c)] w Q := by
  refine cd_ofW cw_Mo_dead (by simp [Value.category, cat_rf]) (Nat.le_of_ble_eq_true rfl) fun C O => ?_
  change cd_Go G l C _ 0 0 w 0 [some (.ref m), some (.int (nI c)), none, none] []
  have hC := hM.C40
  have hpar : ∀ c, c < sC σ → ∀ q, kP σ c = some q → q < c := fun c hc => (hM.hw hc).2.2.2
  have loop : ∀ (n c i : Nat), c < n → c < sC σ → c + i < 40 → Q (.inl (some (.int (cd_b (rd σ g c))))) w → ∀ a0, cd_Go G l C (cd_MQ G (cx_s C) (cx_b C) 0 0 Q) 0 0 w 4 [some (.ref m), a0, some (.int (nI c)), some (.int (nI i))] [] := by
    intro n
    induction n with
    | zero => intro c i h; omega
    | succ n ih =>
      intro c i hn hc hci h a0
      have hw := hM.hw hc
      rw [rd_eq hpar hc] at h
      refine g_iload_n O 3 d_Mo_dead_4 rfl rfl ?_
      refine g_bipush (v := 41) O d_Mo_dead_5 (by decide) ?_
      refine g_icmp_ge  O 51 d_Mo_dead_7 (by decide) (fun c7 => ?_) (fun c7 => ?_)
      · exact absurd c7 (nI_ge (b := 41) (by omega) (by omega))
      · refine g_iload_n O 2 d_Mo_dead_10 rfl rfl ?_
        refine g_if_lt  O 51 d_Mo_dead_11 (by decide) (fun c11 => ?_) (fun c11 => ?_)
        · exact absurd c11 (nI_pos (by omega))
        · first | refine g_aload_n O 0 d_Mo_dead_14 rfl rfl ?_ | refine g_aload_nq O 0 d_Mo_dead_14 rfl rfl ?_
          refine g_getS O c_Mo 12 (by decide) rfl hM.km lk_Mo_48 d_Mo_dead_15 (hM.a 12 (by omega) (by omega)).1 ?_
          refine g_iload_n O 2 d_Mo_dead_18 rfl rfl ?_
          refine g_zaldV O 1 rfl rfl (hM.a 12 (by omega) (by omega)).2.1 (by (try simp only [ln_wI]); rw [(hM.a 12 (by omega) (by omega)).2.2]; exact ix_in (n := 40) (show c < 40 from by omega) (by omega)) d_Mo_dead_19 (Eq.trans (congrArg (cd_I _ (1000 + 1) (B 12)) (cl_nI (j := c) (by omega))) (hM.G (show c < 40 by omega))) ?_
          refine g_if_ne  O 36 d_Mo_dead_20 (by decide) (fun c20 => ?_) (fun c20 => ?_)
          · rw [cd_b_ne.mp c20] at h
            refine g_iconst (v := 1) O d_Mo_dead_36 (by decide) ?_
            refine g_zret O d_Mo_dead_37 (by first | exact Or.inl rfl | exact Or.inr rfl | assumption) (Nat.le_of_ble_eq_true rfl) (Nat.le_of_ble_eq_true rfl) ?_
            simpa [cd_b] using h
          · first | refine g_aload_n O 0 d_Mo_dead_23 rfl rfl ?_ | refine g_aload_nq O 0 d_Mo_dead_23 rfl rfl ?_
            refine g_getS O c_Mo 3 (by decide) rfl hM.km lk_Mo_19 d_Mo_dead_24 (hM.a 3 (by omega) (by omega)).1 ?_
            first | refine g_aload_n O 0 d_Mo_dead_27 rfl rfl ?_ | refine g_aload_nq O 0 d_Mo_dead_27 rfl rfl ?_
            refine g_iload_n O 2 d_Mo_dead_28 rfl rfl ?_
            refine g_callv (N := 0) (mc := 0) (ms := 0) (av := [_]) O (Or.inl ⟨_, _, cw_Mo_home⟩) pl_Mo (ci := 6) (q := q_Mo) rfl hM.km ml_Mo_70 im_Mo_home se_Mo_home rfl d_Mo_dead_29 rfl (Nat.le_of_ble_eq_true rfl) (Nat.le_of_ble_eq_true rfl) (Nat.le_of_ble_eq_true rfl) (Nat.le_of_ble_eq_true rfl) ?_
            refine ct_Mo_home hM hc ?_
            change cd_Go _ _ _ _ _ _ _ _ _ _
            refine g_zaldV O 1 rfl rfl (hM.a 3 (by omega) (by omega)).2.1 (by (try simp only [ln_wI]); rw [(hM.a 3 (by omega) (by omega)).2.2]; exact ix_in (n := 6) (show kH σ c < 6 from hw.1) (by omega)) d_Mo_dead_32 (Eq.trans (congrArg (cd_I _ (1000 + 1) (B 3)) (cl_nI (j := kH σ c) (by omega))) (hM.E hw.1)) ?_
            refine g_if_eq  O 38 d_Mo_dead_33 (by decide) (fun c33 => ?_) (fun c33 => ?_)
            · rw [cd_b_eq.mp c20, cd_b_eq.mp c33] at h
              cases hp : kP σ c with
              | none =>
                rw [hp] at h
                have hpv : cd_I w 1000 (B 11) c = -1 := by rw [(hM.K hc).2.2.2, hp]; rfl
                first | refine g_aload_n O 0 d_Mo_dead_38 rfl rfl ?_ | refine g_aload_nq O 0 d_Mo_dead_38 rfl rfl ?_
                refine g_getS O c_Mo 11 (by decide) rfl hM.km lk_Mo_45 d_Mo_dead_39 (hM.a 11 (by omega) (by omega)).1 ?_
                refine g_iload_n O 2 d_Mo_dead_42 rfl rfl ?_
                refine g_ialdV O 0 rfl rfl (hM.a 11 (by omega) (by omega)).2.1 (by (try simp only [ln_wI]); rw [(hM.a 11 (by omega) (by omega)).2.2]; exact ix_in (n := 40) (show c < 40 from by omega) (by omega)) d_Mo_dead_43 (Eq.trans (congrArg (cd_I _ (1000 + 0) (B 11)) (cl_nI (j := c) (by omega))) (hpv)) ?_
                refine g_istore_n O 2 d_Mo_dead_44 rfl (Nat.le_of_ble_eq_true rfl) ?_
                first | refine g_iinc O d_Mo_dead_45 rfl (ic1 _) ?_ | refine g_iinc O d_Mo_dead_45 rfl rfl ?_
                refine g_goto O 4 d_Mo_dead_48 (by decide) ?_
                refine g_iload_n O 3 d_Mo_dead_4 rfl rfl ?_
                refine g_bipush (v := 41) O d_Mo_dead_5 (by decide) ?_
                refine g_icmp_ge  O 51 d_Mo_dead_7 (by decide) (fun c7 => ?_) (fun c7 => ?_)
                · exact absurd c7 (nI_ge (b := 41) (by omega) (by omega))
                · refine g_iload_n O 2 d_Mo_dead_10 rfl rfl ?_
                  refine g_if_lt  O 51 d_Mo_dead_11 (by decide) (fun c11 => ?_) (fun c11 => ?_)
                  · refine g_iconst (v := 0) O d_Mo_dead_51 (by decide) ?_
                    refine g_zret O d_Mo_dead_52 (by first | exact Or.inl rfl | exact Or.inr rfl | assumption) (Nat.le_of_ble_eq_true rfl) (Nat.le_of_ble_eq_true rfl) ?_
                    exact h
                  · exact absurd (by decide : (-1 : Int32) < 0) c11
              | some p =>
                rw [hp] at h
                have hpc := hpar c hc p hp
                have hpv : cd_I w 1000 (B 11) c = nI p := by rw [(hM.K hc).2.2.2, hp]; rfl
                first | refine g_aload_n O 0 d_Mo_dead_38 rfl rfl ?_ | refine g_aload_nq O 0 d_Mo_dead_38 rfl rfl ?_
                refine g_getS O c_Mo 11 (by decide) rfl hM.km lk_Mo_45 d_Mo_dead_39 (hM.a 11 (by omega) (by omega)).1 ?_
                refine g_iload_n O 2 d_Mo_dead_42 rfl rfl ?_
                refine g_ialdV O 0 rfl rfl (hM.a 11 (by omega) (by omega)).2.1 (by (try simp only [ln_wI]); rw [(hM.a 11 (by omega) (by omega)).2.2]; exact ix_in (n := 40) (show c < 40 from by omega) (by omega)) d_Mo_dead_43 (Eq.trans (congrArg (cd_I _ (1000 + 0) (B 11)) (cl_nI (j := c) (by omega))) (hpv)) ?_
                refine g_istore_n O 2 d_Mo_dead_44 rfl (Nat.le_of_ble_eq_true rfl) ?_
                first | refine g_iinc O d_Mo_dead_45 rfl (ic1 _) ?_ | refine g_iinc O d_Mo_dead_45 rfl rfl ?_
                refine g_goto O 4 d_Mo_dead_48 (by decide) ?_
                exact ih p (i + 1) (by omega) (by omega) (by omega) (by simpa using h) a0
            · rw [cd_b_ne.mp c33, Bool.or_true] at h
              refine g_iconst (v := 1) O d_Mo_dead_36 (by decide) ?_
              refine g_zret O d_Mo_dead_37 (by first | exact Or.inl rfl | exact Or.inr rfl | assumption) (Nat.le_of_ble_eq_true rfl) (Nat.le_of_ble_eq_true rfl) ?_
              simpa [cd_b] using h
  refine g_iload_n O 1 d_Mo_dead_0 rfl rfl ?_
  refine g_istore_n O 2 d_Mo_dead_1 rfl (Nat.le_of_ble_eq_true rfl) ?_
  refine g_iconst (v := 0) O d_Mo_dead_2 (by decide) ?_
  refine g_istore_n O 3 d_Mo_dead_3 rfl (Nat.le_of_ble_eq_true rfl) ?_
  exact loop (c + 1) c 0 (by omega) hc (by omega) h _
set_option maxHeartbeats 4000000 in
set_option maxRecDepth 100000 in
theorem ct_Mo_usedUp {G : cd_Gl} {l : Launch} {w : cd_Wd} {Q : cd_Out → cd_Wd → Prop} {m : Nat} {B : Nat → Nat} {σ : cd_S} {g : Nat → Bool} (hM : RepM w m B σ g) {c : Nat} (hc : c < sC σ) (h : Q (.inl (some (.int (cd_b (upB σ c))))) w) : cd_Ct G l y_Mo_usedUp 0 0 0 [.ref m, .int (nI c)] w Q := by
  refine cd_ofW cw_Mo_usedUp (by simp [Value.category, cat_rf]) (Nat.le_of_ble_eq_true rfl) fun C O => ?_
  change cd_Go G l C _ 0 0 w 0 [some (.ref m), some (.int (nI c)), none, none] []
  have hC := hM.C40
  have hpar : ∀ c, c < sC σ → ∀ q, kP σ c = some q → q < c := fun c hc => (hM.hw hc).2.2.2
  have loop : ∀ (n c i : Nat), c < n → c < sC σ → c + i < 40 → Q (.inl (some (.int (cd_b (upB σ c))))) w → ∀ a0, cd_Go G l C (cd_MQ G (cx_s C) (cx_b C) 0 0 Q) 0 0 w 4 [some (.ref m), a0, some (.int (nI c)), some (.int (nI i))] [] := by
    intro n
    induction n with
    | zero => intro c i h; omega
    | succ n ih =>
      intro c i hn hc hci h a0
      have hw := hM.hw hc
      rw [upB_eq hpar hc] at h
      refine g_iload_n O 3 d_Mo_usedUp_4 rfl rfl ?_
      refine g_bipush (v := 41) O d_Mo_usedUp_5 (by decide) ?_
      refine g_icmp_ge  O 38 d_Mo_usedUp_7 (by decide) (fun c7 => ?_) (fun c7 => ?_)
      · exact absurd c7 (nI_ge (b := 41) (by omega) (by omega))
      · refine g_iload_n O 2 d_Mo_usedUp_10 rfl rfl ?_
        refine g_if_lt  O 38 d_Mo_usedUp_11 (by decide) (fun c11 => ?_) (fun c11 => ?_)
        · exact absurd c11 (nI_pos (by omega))
        · first | refine g_aload_n O 0 d_Mo_usedUp_14 rfl rfl ?_ | refine g_aload_nq O 0 d_Mo_usedUp_14 rfl rfl ?_
          refine g_getS O c_Mo 10 (by decide) rfl hM.km lk_Mo_42 d_Mo_usedUp_15 (hM.a 10 (by omega) (by omega)).1 ?_
          refine g_iload_n O 2 d_Mo_usedUp_18 rfl rfl ?_
          refine g_ialdV O 0 rfl rfl (hM.a 10 (by omega) (by omega)).2.1 (by (try simp only [ln_wI]); rw [(hM.a 10 (by omega) (by omega)).2.2]; exact ix_in (n := 40) (show c < 40 from by omega) (by omega)) d_Mo_usedUp_19 (Eq.trans (congrArg (cd_I _ (1000 + 0) (B 10)) (cl_nI (j := c) (by omega))) ((hM.K hc).2.2.1)) ?_
          refine g_if_ne  O 25 d_Mo_usedUp_20 (by decide) (fun c20 => ?_) (fun c20 => ?_)
          · rw [decide_eq_false c20] at h
            cases hp : kP σ c with
            | none =>
              rw [hp] at h
              have hpv : cd_I w 1000 (B 11) c = -1 := by rw [(hM.K hc).2.2.2, hp]; rfl
              first | refine g_aload_n O 0 d_Mo_usedUp_25 rfl rfl ?_ | refine g_aload_nq O 0 d_Mo_usedUp_25 rfl rfl ?_
              refine g_getS O c_Mo 11 (by decide) rfl hM.km lk_Mo_45 d_Mo_usedUp_26 (hM.a 11 (by omega) (by omega)).1 ?_
              refine g_iload_n O 2 d_Mo_usedUp_29 rfl rfl ?_
              refine g_ialdV O 0 rfl rfl (hM.a 11 (by omega) (by omega)).2.1 (by (try simp only [ln_wI]); rw [(hM.a 11 (by omega) (by omega)).2.2]; exact ix_in (n := 40) (show c < 40 from by omega) (by omega)) d_Mo_usedUp_30 (Eq.trans (congrArg (cd_I _ (1000 + 0) (B 11)) (cl_nI (j := c) (by omega))) (hpv)) ?_
              refine g_istore_n O 2 d_Mo_usedUp_31 rfl (Nat.le_of_ble_eq_true rfl) ?_
              first | refine g_iinc O d_Mo_usedUp_32 rfl (ic1 _) ?_ | refine g_iinc O d_Mo_usedUp_32 rfl rfl ?_
              refine g_goto O 4 d_Mo_usedUp_35 (by decide) ?_
              refine g_iload_n O 3 d_Mo_usedUp_4 rfl rfl ?_
              refine g_bipush (v := 41) O d_Mo_usedUp_5 (by decide) ?_
              refine g_icmp_ge  O 38 d_Mo_usedUp_7 (by decide) (fun c7 => ?_) (fun c7 => ?_)
              · exact absurd c7 (nI_ge (b := 41) (by omega) (by omega))
              · refine g_iload_n O 2 d_Mo_usedUp_10 rfl rfl ?_
                refine g_if_lt  O 38 d_Mo_usedUp_11 (by decide) (fun c11 => ?_) (fun c11 => ?_)
                · refine g_iconst (v := 0) O d_Mo_usedUp_38 (by decide) ?_
                  refine g_zret O d_Mo_usedUp_39 (by first | exact Or.inl rfl | exact Or.inr rfl | assumption) (Nat.le_of_ble_eq_true rfl) (Nat.le_of_ble_eq_true rfl) ?_
                  exact h
                · exact absurd (by decide : (-1 : Int32) < 0) c11
            | some p =>
              rw [hp] at h
              have hpc := hpar c hc p hp
              have hpv : cd_I w 1000 (B 11) c = nI p := by rw [(hM.K hc).2.2.2, hp]; rfl
              first | refine g_aload_n O 0 d_Mo_usedUp_25 rfl rfl ?_ | refine g_aload_nq O 0 d_Mo_usedUp_25 rfl rfl ?_
              refine g_getS O c_Mo 11 (by decide) rfl hM.km lk_Mo_45 d_Mo_usedUp_26 (hM.a 11 (by omega) (by omega)).1 ?_
              refine g_iload_n O 2 d_Mo_usedUp_29 rfl rfl ?_
              refine g_ialdV O 0 rfl rfl (hM.a 11 (by omega) (by omega)).2.1 (by (try simp only [ln_wI]); rw [(hM.a 11 (by omega) (by omega)).2.2]; exact ix_in (n := 40) (show c < 40 from by omega) (by omega)) d_Mo_usedUp_30 (Eq.trans (congrArg (cd_I _ (1000 + 0) (B 11)) (cl_nI (j := c) (by omega))) (hpv)) ?_
              refine g_istore_n O 2 d_Mo_usedUp_31 rfl (Nat.le_of_ble_eq_true rfl) ?_
              first | refine g_iinc O d_Mo_usedUp_32 rfl (ic1 _) ?_ | refine g_iinc O d_Mo_usedUp_32 rfl rfl ?_
              refine g_goto O 4 d_Mo_usedUp_35 (by decide) ?_
              exact ih p (i + 1) (by omega) (by omega) (by omega) (by simpa using h) a0
          · rw [decide_eq_true c20] at h
            refine g_iconst (v := 1) O d_Mo_usedUp_23 (by decide) ?_
            refine g_zret O d_Mo_usedUp_24 (by first | exact Or.inl rfl | exact Or.inr rfl | assumption) (Nat.le_of_ble_eq_true rfl) (Nat.le_of_ble_eq_true rfl) ?_
            simpa [cd_b] using h
  refine g_iload_n O 1 d_Mo_usedUp_0 rfl rfl ?_
  refine g_istore_n O 2 d_Mo_usedUp_1 rfl (Nat.le_of_ble_eq_true rfl) ?_
  refine g_iconst (v := 0) O d_Mo_usedUp_2 (by decide) ?_
  refine g_istore_n O 3 d_Mo_usedUp_3 rfl (Nat.le_of_ble_eq_true rfl) ?_
  exact loop (c + 1) c 0 (by omega) hc (by omega) h _
set_option maxHeartbeats 4000000 in
set_option maxRecDepth 100000 in
theorem ct_Mo_alive {G : cd_Gl} {l : Launch} {w : cd_Wd} {Q : cd_Out → cd_Wd → Prop} {m : Nat} {B : Nat → Nat} {σ : cd_S} {g : Nat → Bool} (hM : RepM w m B σ g) (h : Q (.inl (some (.int (nI (cnt (fun c => !rd σ g c) (sC σ)))))) w) : cd_Ct G l y_Mo_alive 2 0 0 [.ref m] w Q := by
  refine cd_ofW cw_Mo_alive (by simp [Value.category, cat_rf]) (Nat.le_of_ble_eq_true rfl) fun C O => ?_
  change cd_Go G l C _ 0 0 w 0 [some (.ref m), none, none] []
  have hC := hM.C40
  have loop : ∀ (j : Nat) (v : cd_Wd), j ≤ sC σ → (v = w) → cd_Go G l C (cd_MQ G (cx_s C) (cx_b C) 0 0 Q) (0) (0) v 4 [some (.ref m), some (.int (nI (cnt (fun c => !rd σ g c) j))), some (.int (nI j))] [] := by
    refine lp (sC σ) (P := fun j v => v = w) (g := fun j v => cd_Go G l C (cd_MQ G (cx_s C) (cx_b C) 0 0 Q) (0) (0) v 4 [some (.ref m), some (.int (nI (cnt (fun c => !rd σ g c) j))), some (.int (nI j))] []) (fun v hP => ?_) (fun j v hj hP ih => ?_)
    · skip
      subst hP
      refine g_iload_n O 2 d_Mo_alive_4 rfl rfl ?_
      first | refine g_aload_n O 0 d_Mo_alive_5 rfl rfl ?_ | refine g_aload_nq O 0 d_Mo_alive_5 rfl rfl ?_
      refine g_getV O c_Mo 1 (by decide) rfl hM.km lk_Mo_13 d_Mo_alive_6 hM.C ?_
      refine g_icmp_ge  O 29 d_Mo_alive_9 (by decide) (fun c9 => ?_) (fun c9 => ?_)
      · refine g_iload_n O 1 d_Mo_alive_29 rfl rfl ?_
        refine g_iret O d_Mo_alive_30 (Nat.le_of_ble_eq_true rfl) (Nat.le_of_ble_eq_true rfl) ?_
        exact h
      · exact absurd (Int32.le_refl _) c9
    · skip
      subst hP
      refine g_iload_n O 2 d_Mo_alive_4 rfl rfl ?_
      first | refine g_aload_n O 0 d_Mo_alive_5 rfl rfl ?_ | refine g_aload_nq O 0 d_Mo_alive_5 rfl rfl ?_
      refine g_getV O c_Mo 1 (by decide) rfl hM.km lk_Mo_13 d_Mo_alive_6 hM.C ?_
      refine g_icmp_ge  O 29 d_Mo_alive_9 (by decide) (fun c9 => ?_) (fun c9 => ?_)
      · exact absurd c9 (nI_ge (b := sC σ) hj (by omega))
      · first | refine g_aload_n O 0 d_Mo_alive_12 rfl rfl ?_ | refine g_aload_nq O 0 d_Mo_alive_12 rfl rfl ?_
        refine g_iload_n O 2 d_Mo_alive_13 rfl rfl ?_
        refine g_callv (N := 1) (mc := 0) (ms := 0) (av := [_]) O (Or.inl ⟨_, _, cw_Mo_dead⟩) pl_Mo (ci := 6) (q := q_Mo) rfl hM.km ml_Mo_74 im_Mo_dead se_Mo_dead rfl d_Mo_alive_14 rfl (Nat.le_of_ble_eq_true rfl) (Nat.le_of_ble_eq_true rfl) (Nat.le_of_ble_eq_true rfl) (Nat.le_of_ble_eq_true rfl) ?_
        refine ct_Mo_dead hM hj ?_
        change cd_Go _ _ _ _ _ _ _ _ _ _
        refine g_if_ne  O 23 d_Mo_alive_17 (by decide) (fun c17 => ?_) (fun c17 => ?_)
        · have e1 := cnt_f (p := fun c => !rd σ g c) (j := j) (by simp [cd_b_ne.mp c17])
          first | refine g_iinc O d_Mo_alive_23 rfl (ic1 _) ?_ | refine g_iinc O d_Mo_alive_23 rfl rfl ?_
          refine g_goto O 4 d_Mo_alive_26 (by decide) ?_
          have e := ih v rfl
          rw [e1] at e
          exact e
        · have e1 := cnt_t (p := fun c => !rd σ g c) (j := j) (by simp [cd_b_eq.mp c17])
          first | refine g_iinc O d_Mo_alive_20 rfl (ic1 _) ?_ | refine g_iinc O d_Mo_alive_20 rfl rfl ?_
          first | refine g_iinc O d_Mo_alive_23 rfl (ic1 _) ?_ | refine g_iinc O d_Mo_alive_23 rfl rfl ?_
          refine g_goto O 4 d_Mo_alive_26 (by decide) ?_
          have e := ih v rfl
          rw [e1] at e
          exact e
  refine g_iconst (v := 0) O d_Mo_alive_0 (by decide) ?_
  refine g_istore_n O 1 d_Mo_alive_1 rfl (Nat.le_of_ble_eq_true rfl) ?_
  refine g_iconst (v := 0) O d_Mo_alive_2 (by decide) ?_
  refine g_istore_n O 2 d_Mo_alive_3 rfl (Nat.le_of_ble_eq_true rfl) ?_
  exact loop 0 _ (by omega) rfl
