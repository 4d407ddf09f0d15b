def MC (w : cd_Wd) (m : Nat) (B : Nat → Nat) (r : cd_R) (Q : cd_Out → cd_Wd → Prop) : Prop := ∀ (w' : cd_Wd) (g' : Nat → Bool) (v : Int32), RepM w' m B r.2.2 g' → Rel r.2.2 g' → cd_Fr w w' (mow m B) → cd_I w' 194 m 0 = nI r.1 → (r.1 = 0 → v = r.2.1) → Q (.inl (some (.int v))) w'
theorem MC.fail {w w1 : cd_Wd} {m : Nat} {B : Nat → Nat} {σ : cd_S} {g : Nat → Bool} {Q : cd_Out → cd_Wd → Prop} {c : Nat} (hc : c ≠ 0) (hM : RepM w1 m B σ g) (hL : Rel σ g) (hF : cd_Fr w w1 (mow m B)) (h : MC w m B (c, 0, σ) Q) : Q (.inl (some (.int 0))) (cd_wI w1 194 m 0 (nI c)) :=
  h _ g 0 (rm_km hM (by decide) (by decide) (by decide) (by decide)) hL (hF.tr (cd_Fr.wI (Or.inl rfl))) (by rw [I_wI, if_pos ⟨rfl, rfl, rfl⟩]) (fun z => absurd z hc)
theorem MC.fine {w w1 : cd_Wd} {m : Nat} {B : Nat → Nat} {σ : cd_S} {g : Nat → Bool} {Q : cd_Out → cd_Wd → Prop} {a : Int32} (hM : RepM w1 m B σ g) (hL : Rel σ g) (hF : cd_Fr w w1 (mow m B)) (h : MC w m B (0, a, σ) Q) : Q (.inl (some (.int a))) (cd_wI w1 194 m 0 0) :=
  h _ g a (rm_km hM (by decide) (by decide) (by decide) (by decide)) hL (hF.tr (cd_Fr.wI (Or.inl rfl))) (by rw [I_wI, if_pos ⟨rfl, rfl, rfl⟩]; exact nI_0.symm) (fun _ => rfl)
theorem fS_0 {t : Int32 × Option Nat × Option Nat} : fS t = 0 ↔ isNm t = true := by
  obtain ⟨n, lk, cp⟩ := t
  cases lk <;> cases cp <;> simp [fS, isNm]
theorem fV_0 {t : Int32 × Option Nat × Option Nat} (h : fS t = 0) : fV t = t.1 := by
  obtain ⟨n, lk, cp⟩ := t
  cases lk <;> cases cp <;> simp [fS, fV] at h ⊢
theorem fV_n {t : Int32 × Option Nat × Option Nat} (ho : fOk t) (h : ¬ fS t = 0) : t.1 = 0 := by
  obtain ⟨n, lk, cp⟩ := t
  cases lk with
  | some z => exact (ho.1 (fun e => by cases e)).1
  | none =>
    cases cp with
    | some c => exact ho.2 (fun e => by cases e)
    | none => exact absurd rfl h
theorem fS_1 {t : Int32 × Option Nat × Option Nat} (ho : fOk t) (h : fS t = 1) : ∃ z, t = (0, some z, none) := by
  obtain ⟨n, lk, cp⟩ := t
  cases lk with
  | none => cases cp <;> simp [fS] at h
  | some z =>
    have := ho.1 (fun e => by cases e)
    simp only at this
    exact ⟨z, by rw [this.1, this.2]⟩
theorem fS_n1 {t : Int32 × Option Nat × Option Nat} (ho : fOk t) (h : ¬ fS t = 1) : t.2.1 = none := by
  obtain ⟨n, lk, cp⟩ := t
  cases lk with
  | none => rfl
  | some z =>
    have := ho.1 (fun e => by cases e)
    simp only at this
    rw [this.2] at h
    exact absurd rfl h
theorem fS_2 {t : Int32 × Option Nat × Option Nat} (h : fS t = 2) : ∃ c, t.2.2 = some c ∧ fV t = nI c := by
  obtain ⟨n, lk, cp⟩ := t
  cases cp with
  | none => cases lk <;> simp [fS] at h
  | some c => exact ⟨c, rfl, by cases lk <;> rfl⟩
theorem fS_n2 {t : Int32 × Option Nat × Option Nat} (h : ¬ fS t = 2) : t.2.2 = none := by
  obtain ⟨n, lk, cp⟩ := t
  cases cp with
  | none => rfl
  | some c => exact absurd (by cases lk <;> rfl) h
theorem inL_32 (r : Int32) : inL r 32 = (decide (¬ r < 0) && decide (¬ (31 : Int32) < r)) := by
  rw [inL]
  congr 1
theorem rm_eq {w : cd_Wd} {m : Nat} {B : Nat → Nat} {σ τ : cd_S} {g : Nat → Bool} (h : RepM w m B σ g) (hd : sDC σ τ) (h1 : ∀ d, sE τ d = sE σ d) (h2 : ∀ d o, sT τ d o = sT σ d o) (h3 : ∀ d o f, sF τ d o f = sF σ d o f) (h4 : ∀ d i, sS τ d i = sS σ d i) (h6 : ∀ c, kH τ c = kH σ c ∧ kT τ c = kT σ c ∧ kP τ c = kP σ c ∧ kR τ c = kR σ c ∧ kU τ c = kU σ c) : RepM w m B τ g := by
  obtain ⟨a1, a2, a3, a4, a5, a6, a7⟩ := h
  refine ⟨a1, by rw [hd.1]; exact a2, by rw [hd.2]; exact a3, by rw [hd.1]; exact a4, by rw [hd.2]; exact a5, a6.eq h1 h2 h3 h4 hd.2 h6, ?_⟩
  obtain ⟨g1, g2, g3, g4⟩ := a7
  refine ⟨fun d i c hx hi hc => ?_, fun d o f c hx ho hf hc => ?_, fun d o f t hx ho hf ht => ?_, fun c hc => ?_⟩
  · rw [hd.2]; rw [h4] at hc; exact g1 d i c (hd.1 ▸ hx) hi hc
  · rw [hd.2]; rw [h3] at hc; exact g2 d o f c (hd.1 ▸ hx) ho hf hc
  · rw [h3] at ht; exact g3 d o f t (hd.1 ▸ hx) ho hf ht
  · obtain ⟨e1, e2, e3, -⟩ := h6 c
    rw [e1, e2, e3, hd.1]
    exact g4 c (hd.2 ▸ hc)
theorem eqX.rm {w : cd_Wd} {m : Nat} {B : Nat → Nat} {σ τ : cd_S} {g : Nat → Bool} (e : eqX σ τ) (h : RepM w m B σ g) : RepM w m B τ g := by
  obtain ⟨a1, a2, a3, a4, a5, a6⟩ := e
  exact rm_eq h a1 a2 a3 a4 a5 fun c => ⟨(a6 c).1, (a6 c).2.1, (a6 c).2.2.1, (a6 c).2.2.2.1, (a6 c).2.2.2.2.1⟩
theorem rm_V {w : cd_Wd} {m : Nat} {B : Nat → Nat} {σ : cd_S} {g : Nat → Bool} (h : RepM w m B σ g) (c : Nat) (b : Bool) : RepM w m B (setV σ c b) g := by
  refine rm_eq h ⟨rfl, rfl⟩ (fun _ => rfl) (fun _ _ => rfl) (fun _ _ _ => rfl) (fun _ _ => rfl) fun k => ?_
  simp only [setV, kH_setK, kT_setK, kP_setK, kR_setK, kU_setK]
  by_cases e : k = c
  · subst e; simp
  · simp [e]
/-- how many died: the reference's way to count -/
theorem died {σ σ1 : cd_S} {g g' : Nat → Bool} (h : Spr σ σ1 g g') : nI (cnt (fun c => !rd σ g c) (sC σ)) - nI (cnt (fun c => !rd (sprd σ1).1 g' c) (sC (sprd σ1).1)) = nI (sprd σ1).2 := by
  obtain ⟨h1, h2, h3, h4, -⟩ := spr_ok h
  have e1 : cnt (fun c => !rd σ g c) (sC σ) = cnt (fun c => !kX σ c) (sC σ) := cnt_cg fun j hj => by rw [h.rel.1 j hj]
  have hC : sC (sprd σ1).1 = sC σ := h4.1.2.trans h.c
  have e2 : cnt (fun c => !rd (sprd σ1).1 g' c) (sC (sprd σ1).1) = cnt (fun c => !(kX σ c || kX (sprd σ1).1 c)) (sC σ) := by
    rw [hC]
    refine cnt_cg fun j hj => ?_
    rw [h1.1 j (by rw [hC]; exact hj)]
    cases hx : kX σ j with
    | false => rfl
    | true => rw [← h1.1 j (by rw [hC]; exact hj), h2 j hj hx]; rfl
  have e3 := cnt_split (p := kX σ) (q := fun c => kX σ c || kX (sprd σ1).1 c) (fun c hc => by simp [hc]) (sC σ)
  have e4 : cnt (fun c => !kX σ c && (kX σ c || kX (sprd σ1).1 c)) (sC σ) = (sprd σ1).2 := by
    rw [h3]
    exact cnt_cg fun j _ => by cases kX σ j <;> simp
  rw [e1, e2, e3, e4, nI_sub (Nat.le_add_right _ _)]
  congr 1
  omega
theorem alw1 {k r : Int32} {b : Nat} (hr : r.toBitVec = BitVec.twoPow 32 b) (hb : b < 32) : k &&& r = 0 ↔ ¬ (r &&& (k ^^^ (-1))) = 0 := by
  have h1 : (k &&& r).toBitVec = if k.toBitVec.getLsbD b then BitVec.twoPow 32 b else 0#32 := by rw [Int32.toBitVec_and, hr, BitVec.and_twoPow]
  have h2 : (r &&& (k ^^^ (-1))).toBitVec = if !k.toBitVec.getLsbD b then BitVec.twoPow 32 b else 0#32 := by
    rw [Int32.toBitVec_and, Int32.toBitVec_xor, hr, BitVec.and_comm, BitVec.and_twoPow, BitVec.getLsbD_xor]
    have : ((-1 : Int32).toBitVec).getLsbD b = true := by
      have e : (-1 : Int32).toBitVec = BitVec.allOnes 32 := by decide
      rw [e, BitVec.getLsbD_allOnes]; exact decide_eq_true hb
    rw [this, Bool.xor_true]
  have hne : ¬ BitVec.twoPow 32 b = 0#32 := fun e => by
    have := congrArg (fun z => z.getLsbD b) e
    simp [BitVec.getLsbD_twoPow, hb] at this
  have e0 : ∀ x : Int32, x = 0 ↔ x.toBitVec = 0#32 := fun x => ⟨fun e => by rw [e]; rfl, fun e => Int32.toBitVec_inj.mp e⟩
  rw [e0, e0, h1, h2]
  cases k.toBitVec.getLsbD b <;> simp [hne]
theorem alwR {k r : Int32} (hr : r = 1 ∨ r = 2 ∨ r = 4 ∨ r = 8 ∨ r = 16) : k &&& r = 0 ↔ ¬ (r &&& (k ^^^ (-1))) = 0 := by
  rcases hr with rfl | rfl | rfl | rfl | rfl
  · exact alw1 (b := 0) (by decide) (by omega)
  · exact alw1 (b := 1) (by decide) (by omega)
  · exact alw1 (b := 2) (by decide) (by omega)
  · exact alw1 (b := 3) (by decide) (by omega)
  · exact alw1 (b := 4) (by decide) (by omega)
theorem sl_ge {lk : Option Nat} (h : ∀ c, lk = some c → c < 40) (hz : 0 ≤ cd_l lk) : ∃ c, lk = some c := by
  cases lk with
  | none => exact absurd hz (by decide)
  | some c => exact ⟨c, rfl⟩
theorem sl_lt {lk : Option Nat} (h : ∀ c, lk = some c → c < 40) (hz : ¬ 0 ≤ cd_l lk) : lk = none := by
  cases lk with
  | none => rfl
  | some c => exact absurd (nI_pos' (by have := h c rfl; omega)) hz
set_option maxHeartbeats 4000000 in
set_option maxRecDepth 100000 in
theorem ct_Mo_useFails {G : cd_Gl} {l : Launch} {w : cd_Wd} {Q : cd_Out → cd_Wd → Prop} {m : Nat} {B : Nat → Nat} {σ : cd_S} {g : Nat → Bool} (hM : RepM w m B σ g) (hL : Rel σ g) {d s r : Int32} (hrr : r = 1 ∨ r = 2 ∨ r = 4 ∨ r = 8 ∨ r = 16) (h1 : (isD σ d && isSl s) = false → Q (.inl (some (.int 1))) w) (h2 : ∀ j i, j < sD σ → d = nI j → i < 8 → s = nI i → sE σ j = true → Q (.inl (some (.int 2))) w) (h3 : ∀ j i, j < sD σ → d = nI j → i < 8 → s = nI i → sE σ j = false → sS σ j i = none → Q (.inl (some (.int 3))) w) (h4 : ∀ j i c, j < sD σ → d = nI j → i < 8 → s = nI i → sE σ j = false → sS σ j i = some c → c < sC σ → (kX σ c || upB σ c) = true → Q (.inl (some (.int 2))) w) (h5 : ∀ j i c, j < sD σ → d = nI j → i < 8 → s = nI i → sE σ j = false → sS σ j i = some c → c < sC σ → (kX σ c || upB σ c) = false → alw σ c r = false → Q (.inl (some (.int 4))) w) (h6 : ∀ j i c, j < sD σ → d = nI j → i < 8 → s = nI i → sE σ j = false → sS σ j i = some c → c < sC σ → (kX σ c || upB σ c) = false → alw σ c r = true → Q (.inl (some (.int 0))) w) : cd_Ct G l y_Mo_useFails 2 0 0 [.ref m, .int d, .int s, .int r] w Q := by
  refine cd_ofW cw_Mo_useFails (by simp [Value.category, cat_rf]) (Nat.le_of_ble_eq_true rfl) fun C O => ?_
  change cd_Go G l C _ 0 0 w 0 [some (.ref m), some (.int d), some (.int s), some (.int r), none] []
  first | refine g_aload_n O 0 d_Mo_useFails_0 rfl rfl ?_ | refine g_aload_nq O 0 d_Mo_useFails_0 rfl rfl ?_
  refine g_iload_n O 1 d_Mo_useFails_1 rfl rfl ?_
  refine g_callv (N := 0) (mc := 0) (ms := 0) (av := [_]) O (Or.inl ⟨_, _, cw_Mo_noDomain⟩) pl_Mo (ci := 6) (q := q_Mo) rfl hM.km ml_Mo_78 im_Mo_noDomain se_Mo_noDomain rfl d_Mo_useFails_2 rfl (Nat.le_of_ble_eq_true rfl) (Nat.le_of_ble_eq_true rfl) (Nat.le_of_ble_eq_true rfl) (Nat.le_of_ble_eq_true rfl) ?_
  refine ct_Mo_noDomain hM ?_
  change cd_Go _ _ _ _ _ _ _ _ _ _
  refine g_if_ne  O 18 d_Mo_useFails_5 (by decide) (fun c5 => ?_) (fun c5 => ?_)
  · have e := h1 (by rw [(cd_nbn _).mp c5]; rfl)
    refine g_iconst (v := 1) O d_Mo_useFails_18 (by decide) ?_
    refine g_iret O d_Mo_useFails_19 (Nat.le_of_ble_eq_true rfl) (Nat.le_of_ble_eq_true rfl) ?_
    exact e
  · have hDj := (cd_nb _).mp c5
    obtain ⟨j, hjj, rfl⟩ := isD_of hM.D6 hDj
    have h6j : j < 6 := Nat.lt_of_lt_of_le hjj hM.D6
    have hclj : (nI j).toNatClampNeg = j := nI_clamp (by omega)
    first | refine g_aload_n O 0 d_Mo_useFails_8 rfl rfl ?_ | refine g_aload_nq O 0 d_Mo_useFails_8 rfl rfl ?_
    refine g_iload_n O 2 d_Mo_useFails_9 rfl rfl ?_
    refine g_bipush (v := 8) O d_Mo_useFails_10 (by decide) ?_
    refine g_callv (N := 0) (mc := 0) (ms := 0) (av := [_, _]) O (Or.inl ⟨_, _, cw_Mo_out⟩) pl_Mo (ci := 6) (q := q_Mo) rfl hM.km ml_Mo_66 im_Mo_out se_Mo_out rfl d_Mo_useFails_12 rfl (Nat.le_of_ble_eq_true rfl) (Nat.le_of_ble_eq_true rfl) (Nat.le_of_ble_eq_true rfl) (Nat.le_of_ble_eq_true rfl) ?_
    refine ct_Mo_out ?_
    change cd_Go _ _ _ _ _ _ _ _ _ _
    refine g_if_eq  O 20 d_Mo_useFails_15 (by decide) (fun c15 => ?_) (fun c15 => ?_)
    · have hSi : isSl _ = true := (cd_nb _).mp c15
      obtain ⟨i, hii, rfl⟩ := isSl_of hSi
      have hcli : (nI i).toNatClampNeg = i := nI_clamp (by omega)
      first | refine g_aload_n O 0 d_Mo_useFails_20 rfl rfl ?_ | refine g_aload_nq O 0 d_Mo_useFails_20 rfl rfl ?_
      refine g_getS O c_Mo 3 (by decide) rfl hM.km lk_Mo_19 d_Mo_useFails_21 (hM.a 3 (by omega) (by omega)).1 ?_
      refine g_iload_n O 1 d_Mo_useFails_24 rfl rfl ?_
      refine g_zaldV O 1 rfl rfl (hM.a 3 (by omega) (by omega)).2.1 (by (try simp only [ln_wI]); rw [(hM.a 3 (by omega) (by omega)).2.2]; exact ix_in (n := 6) (show j < 6 from by omega) (by omega)) d_Mo_useFails_25 (Eq.trans (congrArg (cd_I _ (1000 + 1) (B 3)) (cl_nI (j := j) (by omega))) (hM.E h6j)) ?_
      refine g_if_eq  O 31 d_Mo_useFails_26 (by decide) (fun c26 => ?_) (fun c26 => ?_)
      · have hej := cd_b_eq.mp c26
        first | refine g_aload_n O 0 d_Mo_useFails_31 rfl rfl ?_ | refine g_aload_nq O 0 d_Mo_useFails_31 rfl rfl ?_
        refine g_getS O c_Mo 7 (by decide) rfl hM.km lk_Mo_33 d_Mo_useFails_32 (hM.a 7 (by omega) (by omega)).1 ?_
        refine g_iload_n O 1 d_Mo_useFails_35 rfl rfl ?_
        refine g_bipush (v := 8) O d_Mo_useFails_36 (by decide) ?_
        refine g_imul O d_Mo_useFails_38 ?_
        refine g_iload_n O 2 d_Mo_useFails_39 rfl rfl ?_
        refine g_iadd O d_Mo_useFails_40 ?_
        rw [m8, nI_add]
        refine g_ialdV O 0 rfl rfl (hM.a 7 (by omega) (by omega)).2.1 (by (try simp only [ln_wI]); rw [(hM.a 7 (by omega) (by omega)).2.2]; exact ix_in (n := 48) (show j * 8 + i < 48 from by omega) (by omega)) d_Mo_useFails_41 (Eq.trans (congrArg (cd_I _ (1000 + 0) (B 7)) (cl_nI (j := j * 8 + i) (by omega))) (hM.S h6j hii)) ?_
        refine g_istore O d_Mo_useFails_42 (Nat.le_of_ble_eq_true rfl) ?_
        refine g_iload O d_Mo_useFails_44 rfl ?_
        refine g_if_ge  O 51 d_Mo_useFails_46 (by decide) (fun c46 => ?_) (fun c46 => ?_)
        · obtain ⟨c, hs⟩ := sl_ge (fun c hc => Nat.lt_of_lt_of_le (hM.wf.1 j i c hjj hii hc) hM.C40) c46
          have hc := hM.wf.1 j i c hjj hii hs
          have hC := hM.C40
          rw [hs]
          change cd_Go G l C _ _ _ _ _ [some (.ref m), some (.int (nI j)), some (.int (nI i)), some (.int r), some (.int (nI c))] []
          first | refine g_aload_n O 0 d_Mo_useFails_51 rfl rfl ?_ | refine g_aload_nq O 0 d_Mo_useFails_51 rfl rfl ?_
          refine g_iload O d_Mo_useFails_52 rfl ?_
          refine g_callv (N := 1) (mc := 0) (ms := 0) (av := [_]) O (Or.inl ⟨_, _, cw_Mo_dead⟩) pl_Mo (ci := 6) (q := q_Mo) rfl hM.km ml_Mo_74 im_Mo_dead se_Mo_dead rfl d_Mo_useFails_54 rfl (Nat.le_of_ble_eq_true rfl) (Nat.le_of_ble_eq_true rfl) (Nat.le_of_ble_eq_true rfl) (Nat.le_of_ble_eq_true rfl) ?_
          refine ct_Mo_dead hM hc ?_
          rw [← hL.1 c hc]
          change cd_Go _ _ _ _ _ _ _ _ _ _
          refine g_if_ne  O 69 d_Mo_useFails_57 (by decide) (fun c57 => ?_) (fun c57 => ?_)
          · have e := h4 j i c hjj rfl hii rfl hej hs hc (by rw [cd_b_ne.mp c57]; rfl)
            refine g_iconst (v := 2) O d_Mo_useFails_69 (by decide) ?_
            refine g_iret O d_Mo_useFails_70 (Nat.le_of_ble_eq_true rfl) (Nat.le_of_ble_eq_true rfl) ?_
            exact e
          · first | refine g_aload_n O 0 d_Mo_useFails_60 rfl rfl ?_ | refine g_aload_nq O 0 d_Mo_useFails_60 rfl rfl ?_
            refine g_iload O d_Mo_useFails_61 rfl ?_
            refine g_callv (N := 0) (mc := 0) (ms := 0) (av := [_]) O (Or.inl ⟨_, _, cw_Mo_usedUp⟩) pl_Mo (ci := 6) (q := q_Mo) rfl hM.km ml_Mo_81 im_Mo_usedUp se_Mo_usedUp rfl d_Mo_useFails_63 rfl (Nat.le_of_ble_eq_true rfl) (Nat.le_of_ble_eq_true rfl) (Nat.le_of_ble_eq_true rfl) (Nat.le_of_ble_eq_true rfl) ?_
            refine ct_Mo_usedUp hM hc ?_
            change cd_Go _ _ _ _ _ _ _ _ _ _
            refine g_if_eq  O 71 d_Mo_useFails_66 (by decide) (fun c66 => ?_) (fun c66 => ?_)
            · have hxu : (kX σ c || upB σ c) = false := by rw [cd_b_eq.mp c57, cd_b_eq.mp c66]; rfl
              first | refine g_aload_n O 0 d_Mo_useFails_71 rfl rfl ?_ | refine g_aload_nq O 0 d_Mo_useFails_71 rfl rfl ?_
              refine g_getS O c_Mo 9 (by decide) rfl hM.km lk_Mo_39 d_Mo_useFails_72 (hM.a 9 (by omega) (by omega)).1 ?_
              refine g_iload O d_Mo_useFails_75 rfl ?_
              refine g_ialdV O 0 rfl rfl (hM.a 9 (by omega) (by omega)).2.1 (by (try simp only [ln_wI]); rw [(hM.a 9 (by omega) (by omega)).2.2]; exact ix_in (n := 40) (show c < 40 from by omega) (by omega)) d_Mo_useFails_77 (Eq.trans (congrArg (cd_I _ (1000 + 0) (B 9)) (cl_nI (j := c) (by omega))) ((hM.K hc).2.1)) ?_
              refine g_iload_n O 3 d_Mo_useFails_78 rfl rfl ?_
              refine g_iand O d_Mo_useFails_79 ?_
              refine g_if_ne  O 87 d_Mo_useFails_80 (by decide) (fun c80 => ?_) (fun c80 => ?_)
              · have e := h6 j i c hjj rfl hii rfl hej hs hc hxu (decide_eq_true (Decidable.byContradiction fun z => c80 ((alwR hrr).mpr z)))
                refine g_iconst (v := 0) O d_Mo_useFails_87 (by decide) ?_
                refine g_iret O d_Mo_useFails_88 (Nat.le_of_ble_eq_true rfl) (Nat.le_of_ble_eq_true rfl) ?_
                exact e
              · have e := h5 j i c hjj rfl hii rfl hej hs hc hxu (decide_eq_false ((alwR hrr).mp c80))
                refine g_iconst (v := 4) O d_Mo_useFails_83 (by decide) ?_
                refine g_goto O 88 d_Mo_useFails_84 (by decide) ?_
                refine g_iret O d_Mo_useFails_88 (Nat.le_of_ble_eq_true rfl) (Nat.le_of_ble_eq_true rfl) ?_
                exact e
            · have e := h4 j i c hjj rfl hii rfl hej hs hc (by rw [cd_b_ne.mp c66, Bool.or_true])
              refine g_iconst (v := 2) O d_Mo_useFails_69 (by decide) ?_
              refine g_iret O d_Mo_useFails_70 (Nat.le_of_ble_eq_true rfl) (Nat.le_of_ble_eq_true rfl) ?_
              exact e
        · have e := h3 j i hjj rfl hii rfl hej (sl_lt (fun c hc => Nat.lt_of_lt_of_le (hM.wf.1 j i c hjj hii hc) hM.C40) c46)
          refine g_iconst (v := 3) O d_Mo_useFails_49 (by decide) ?_
          refine g_iret O d_Mo_useFails_50 (Nat.le_of_ble_eq_true rfl) (Nat.le_of_ble_eq_true rfl) ?_
          exact e
      · have e := h2 j i hjj rfl hii rfl (cd_b_ne.mp c26)
        refine g_iconst (v := 2) O d_Mo_useFails_29 (by decide) ?_
        refine g_iret O d_Mo_useFails_30 (Nat.le_of_ble_eq_true rfl) (Nat.le_of_ble_eq_true rfl) ?_
        exact e
    · have e := h1 (by rw [show isSl s = false from (cd_nbn _).mp c15, Bool.and_false])
      refine g_iconst (v := 1) O d_Mo_useFails_18 (by decide) ?_
      refine g_iret O d_Mo_useFails_19 (Nat.le_of_ble_eq_true rfl) (Nat.le_of_ble_eq_true rfl) ?_
      exact e
