/-! LUNCH texts: the end; both sides. -/
def zd_g (E : zE) : Prop := ¬ E.2.2.1 = [] ∧ ((zd_l E.2.2.1).Nodup ∧ ∀ c ∈ zd_l E.2.2.1, c < E.2.1 0 * E.2.1 1) ∧ (zd_l E.2.2.2.1).Nodup ∧ ∀ c ∈ zd_l E.2.2.2.1, c < E.2.1 0 * E.2.1 1
def zd_set (I : am_I) (u : Nat) (E : zE) : Prop := I 9 u 4 = nI (E.2.1 0 * E.2.1 1) ∧ bs_at I u (E.2.1 0 * E.2.1 1) (sp_B (E.2.1 0) (E.2.1 1))
theorem wh_of {E : zE} (hE : zd_ok E) : 1 ≤ E.2.1 0 ∧ E.2.1 0 ≤ 5 ∧ 1 ≤ E.2.1 1 ∧ E.2.1 1 ≤ 5 ∧ 1 ≤ E.2.1 0 * E.2.1 1 ∧ E.2.1 0 * E.2.1 1 ≤ 25 := by
  have h0 : 1 ≤ E.2.1 0 ∧ E.2.1 0 ≤ 5 := hE.1 0 (by decide)
  have h1 : 1 ≤ E.2.1 1 ∧ E.2.1 1 ≤ 5 := hE.1 1 (by decide)
  exact ⟨h0.1, h0.2, h1.1, h1.2, Nat.mul_le_mul h0.1 h1.1, Nat.mul_le_mul h0.2 h1.2⟩
theorem zap_iff {I : am_I} {x e n : Nat} {l : List (Nat → Nat)} (hm : ∀ i (h : i < l.length), I x 0 (e * i) = nI (l[i] 0)) (hl : ∀ f ∈ l, f 0 < 2 ^ 31) (hn : n < 2 ^ 31) : zap I x e l.length (nI n) ↔ (zd_l l).Nodup ∧ ∀ c ∈ zd_l l, c < n := by
  have hlen : (zd_l l).length = l.length := List.length_map _
  have get : ∀ i (h : i < l.length), (zd_l l)[i]'(by rw [hlen]; exact h) = l[i] 0 := fun i h => List.getElem_map _
  have bd : ∀ i (h : i < l.length), l[i] 0 < 2 ^ 31 := fun i h => hl _ (List.getElem_mem h)
  constructor
  · intro h
    refine ⟨List.pairwise_iff_getElem.mpr fun i j hi hj hij => ?_, fun c hc => ?_⟩
    · rw [hlen] at hi hj
      rw [get i hi, get j hj]
      intro w
      refine (h j hj).2 i hij ?_
      rw [hm i hi, hm j hj, w]
    · obtain ⟨f, hf, rfl⟩ := List.mem_map.mp hc
      obtain ⟨i, hi, rfl⟩ := List.mem_iff_getElem.mp hf
      have := (h i hi).1
      rw [hm i hi, nI_lt2 (bd i hi) hn] at this
      exact this
  · intro ⟨h1, h2⟩ i hi
    refine ⟨?_, fun o ho w => ?_⟩
    · rw [hm i hi, nI_lt2 (bd i hi) hn]
      exact h2 _ (List.mem_map.mpr ⟨l[i], List.getElem_mem hi, rfl⟩)
    · rw [hm i hi, hm o (by omega), nI_eq2 (bd o (by omega)) (bd i hi)] at w
      have := List.pairwise_iff_getElem.mp h1 o i (by rw [hlen]; omega) (by rw [hlen]; exact hi) ho
      rw [get i hi, get o (by omega)] at this
      exact this w
section
variable {d u L a a' : Nat} {I : am_I} {R : am_R} {Q : am_Q} {B : Nat → Nat} {E : zE}
theorem c_lend (hr : ze_R R u) (hk : tp_ok L B) (h : zs_at I L B a) (haL : a ≤ L) (hend : ¬ a < L) (ho : zd_o I E) (hc : zd_c I u E) (hE : zd_ok E) (l1 l2 : Value) {w : Int32} (hw1 : zd_g E → w = -nI 1) (hw2 : ¬ zd_g E → w = nI a) : ∃ J, am_ev (d + 4) 59 50 [.ref (am_mk 7 0), l1, l2] [] I R Q = some (some (.int w), J, R, Q) ∧ am_fr (zL_S u) I J ∧ zd_c J u E ∧ zd_set J u E := by
  obtain ⟨-, r0, r1, r2, r3, r4, r5, q0, q1, q2, q3, q4, q6, hp⟩ := id hr
  obtain ⟨w1, w5, h1, h5, n1, n25⟩ := wh_of hE
  have ov0 := hc.1 0 (by decide)
  have ov1 := hc.1 1 (by decide)
  obtain ⟨J, g, f, c4, hb⟩ := c_settle (d := d + 2) (Q := Q) hr ov0 ov1 w1 w5 h1 h5
  have hcJ := c_fr hc f (fun a j w v => by omega) (fun j v => by omega) (fun v => by omega) (fun j _ v => by omega)
  have tJ : tc_at J L B := tc_fr h.1 f (by omega) (fun j => by omega)
  have aJ : J 10 0 2 = nI a := (f _ _ _ (by omega)).trans h.2.2.2
  have s0 : sp_sk L B a = a := sk_e (by omega)
  obtain ⟨J2, g2, f2, a2⟩ := c_sign (d := d + 2) (Q := Q) hr.1 hk tJ aJ haL
  rw [s0] at g2 a2
  have hr0 : sp_hr L B a = 0 := (hr_0 hk).mpr hend
  rw [hr0] at g2
  have f02 : am_fr (zL_S u) I J := fr_mo f fun a b j w => by
    rcases w with ⟨rfl, rfl⟩ | ⟨rfl, rfl, rfl⟩
    · exact Or.inl (Or.inr ⟨rfl, rfl⟩)
    · exact Or.inr (Or.inl ⟨rfl, rfl, rfl⟩)
  have f22 : am_fr (zL_S u) J J2 := fr_mo f2 fun a b j w => by obtain ⟨rfl, rfl⟩ := w; exact zL_10
  have hc2 := c_fr hcJ f2 (fun a j w v => by unfold tc_S at v; omega) (fun j v => by unfold tc_S at v; omega) (fun v => by unfold tc_S at v; omega) (fun j _ v => by unfold tc_S at v; omega)
  have set2 : zd_set J2 u E := ⟨(f2 _ _ _ (fun v => by unfold tc_S at v; omega)).trans c4, bs_fr hb f2 (fun j v => by unfold tc_S at v; omega)⟩
  have setJ : zd_set J u E := ⟨c4, hb⟩
  have o1 : J 23 0 1 = nI E.2.2.1.length := (f _ _ _ (by omega)).trans (ho 1 (by decide))
  obtain ⟨tw, x, fx, x25, xa, xb⟩ := hcJ.2.2.2.2
  have hlen : E.2.2.1.length ≤ 12 := hE.2.2.2.2.1
  have hne : ((nI 1 : Int32) = 0) = False := by decide
  by_cases k0 : E.2.2.1 = []
  · have e0 : E.2.2.1.length = 0 := by rw [k0]; rfl
    have hng : ¬ zd_g E := fun v => v.1 k0
    rw [e0] at o1
    refine ⟨J, ?_, f02, hcJ, setJ⟩
    rw [hw2 hng]
    simp (disch := first | omega | assumption) only [s59_0, s59_1, s59_4, s59_5, s59_6, s59_7, s59_9, s59_12, s59_13, s59_16, s59_19, s59_20, s59_23, s59_26, s59_27, s59_30, s59_33, s59_34, s59_35, s59_38, s59_40, s59_43, s59_44, s59_47, s59_50, s59_51, s59_54, s59_57, s59_58, s59_61, s59_62, s59_63, s59_66, s59_67, s59_70, s59_73, s59_74, s59_77, s59_78, s59_81, s59_84, s59_87, s59_90, s59_91, s59_94, s59_95, s59_96, s59_97, s59_100, s59_101, s59_104, s59_107, s59_110, s59_111, s59_114, s59_115, s59_118, s59_121, nI_le2, nI_lt2, nI_eq2, nI_lt0, nI_0le, nI_0lt, nI_le0, nI_eq0, nI_clamp, nI_add, bu_nI, bb_0, bb_1, rf_s, rf_n, tl_s, tl_n, am_th_some, if_true, if_false, sI_eq, uI_eq, and_self, true_and, and_true, not_false_eq_true, not_true_eq_false, Nat.reduceEqDiff, Nat.reduceLeDiff, Nat.reduceLT, Nat.reduceAdd, Nat.reduceMul, Nat.reduceSub, Nat.zero_add, r0, r1, r2, g, o1, aJ]
  · have e0 : ¬ E.2.2.1.length = 0 := fun v => k0 (List.length_eq_zero_iff.mp v)
    by_cases k1 : (zd_l E.2.2.1).Nodup ∧ (zd_l E.2.2.2.1).Nodup
    · rw [if_pos k1] at tw
      by_cases k2 : x < E.2.1 0 * E.2.1 1
      · have hg : zd_g E := ⟨k0, ⟨k1.1, fun c hc => Nat.lt_of_le_of_lt (xa c (Or.inl hc)) k2⟩, k1.2, fun c hc => Nat.lt_of_le_of_lt (xa c (Or.inr hc)) k2⟩
        have k2' : ¬ E.2.1 0 * E.2.1 1 ≤ x := by omega
        refine ⟨J2, ?_, fr_tr f02 f22, hc2, set2⟩
        rw [hw1 hg]
        simp (disch := first | omega | assumption) only [s59_0, s59_1, s59_4, s59_5, s59_6, s59_7, s59_9, s59_12, s59_13, s59_16, s59_19, s59_20, s59_23, s59_26, s59_27, s59_30, s59_33, s59_34, s59_35, s59_38, s59_40, s59_43, s59_44, s59_47, s59_50, s59_51, s59_54, s59_57, s59_58, s59_61, s59_62, s59_63, s59_66, s59_67, s59_70, s59_73, s59_74, s59_77, s59_78, s59_81, s59_84, s59_87, s59_90, s59_91, s59_94, s59_95, s59_96, s59_97, s59_100, s59_101, s59_104, s59_107, s59_110, s59_111, s59_114, s59_115, s59_118, s59_121, nI_le2, nI_lt2, nI_eq2, nI_lt0, nI_0le, nI_0lt, nI_le0, nI_eq0, nI_clamp, nI_add, bu_nI, bb_0, bb_1, rf_s, rf_n, tl_s, tl_n, am_th_some, if_true, if_false, sI_eq, uI_eq, and_self, true_and, and_true, not_false_eq_true, not_true_eq_false, Nat.reduceEqDiff, Nat.reduceLeDiff, Nat.reduceLT, Nat.reduceAdd, Nat.reduceMul, Nat.reduceSub, Nat.zero_add, r0, r1, r2, q6, g, o1, e0, tw, fx, c4, k2', hne, g2]
      · have hng : ¬ zd_g E := fun v => by
          rcases xb with xb | xb | xb
          · omega
          · exact k2 (v.2.1.2 x xb)
          · exact k2 (v.2.2.2 x xb)
        have k2' : E.2.1 0 * E.2.1 1 ≤ x := by omega
        refine ⟨J, ?_, f02, hcJ, setJ⟩
        rw [hw2 hng]
        simp (disch := first | omega | assumption) only [s59_0, s59_1, s59_4, s59_5, s59_6, s59_7, s59_9, s59_12, s59_13, s59_16, s59_19, s59_20, s59_23, s59_26, s59_27, s59_30, s59_33, s59_34, s59_35, s59_38, s59_40, s59_43, s59_44, s59_47, s59_50, s59_51, s59_54, s59_57, s59_58, s59_61, s59_62, s59_63, s59_66, s59_67, s59_70, s59_73, s59_74, s59_77, s59_78, s59_81, s59_84, s59_87, s59_90, s59_91, s59_94, s59_95, s59_96, s59_97, s59_100, s59_101, s59_104, s59_107, s59_110, s59_111, s59_114, s59_115, s59_118, s59_121, nI_le2, nI_lt2, nI_eq2, nI_lt0, nI_0le, nI_0lt, nI_le0, nI_eq0, nI_clamp, nI_add, bu_nI, bb_0, bb_1, rf_s, rf_n, tl_s, tl_n, am_th_some, if_true, if_false, sI_eq, uI_eq, and_self, true_and, and_true, not_false_eq_true, not_true_eq_false, Nat.reduceEqDiff, Nat.reduceLeDiff, Nat.reduceLT, Nat.reduceAdd, Nat.reduceMul, Nat.reduceSub, Nat.zero_add, r0, r1, r2, q6, g, o1, e0, tw, fx, c4, k2', aJ]
    · rw [if_neg k1] at tw
      have hng : ¬ zd_g E := fun v => k1 ⟨v.2.1.1, v.2.2.1⟩
      refine ⟨J, ?_, f02, hcJ, setJ⟩
      rw [hw2 hng]
      simp (disch := first | omega | assumption) only [s59_0, s59_1, s59_4, s59_5, s59_6, s59_7, s59_9, s59_12, s59_13, s59_16, s59_19, s59_20, s59_23, s59_26, s59_27, s59_30, s59_33, s59_34, s59_35, s59_38, s59_40, s59_43, s59_44, s59_47, s59_50, s59_51, s59_54, s59_57, s59_58, s59_61, s59_62, s59_63, s59_66, s59_67, s59_70, s59_73, s59_74, s59_77, s59_78, s59_81, s59_84, s59_87, s59_90, s59_91, s59_94, s59_95, s59_96, s59_97, s59_100, s59_101, s59_104, s59_107, s59_110, s59_111, s59_114, s59_115, s59_118, s59_121, nI_le2, nI_lt2, nI_eq2, nI_lt0, nI_0le, nI_0lt, nI_le0, nI_eq0, nI_clamp, nI_add, bu_nI, bb_0, bb_1, rf_s, rf_n, tl_s, tl_n, am_th_some, if_true, if_false, sI_eq, uI_eq, and_self, true_and, and_true, not_false_eq_true, not_true_eq_false, Nat.reduceEqDiff, Nat.reduceLeDiff, Nat.reduceLT, Nat.reduceAdd, Nat.reduceMul, Nat.reduceSub, Nat.zero_add, r0, r1, r2, q6, g, o1, e0, tw, hne, aJ]
/-- is all of it whole? the model -/
theorem m_211 (hr : mm_R R) (hk : zd_k I) : ∃ b : Bool, (∀ l1 l2 l3 l4 : Value, ∃ l3' : Value, am_ev (d + 1) 197 211 [.ref (am_mk 12 0), l1, l2, l3, l4] [] I R Q = am_ev (d + 1) 197 271 [.ref (am_mk 12 0), l1, l2, l3', .int (if b = true then nI 1 else nI 0)] [] I R Q) ∧ (∀ E : zE, zd_m I E → zd_ok E → (b = true ↔ zd_g E)) := by
  obtain ⟨⟨k1, b1, e1⟩, ⟨k2, b2, e2⟩, -⟩ := hk
  have r17 := mr17 hr
  have r18 := mr18 hr
  have r19 := mr19 hr
  have hne : ((nI 1 : Int32) = 0) = False := by decide
  obtain ⟨c1, i1, g1⟩ := m_areApart (d := d) (I := I) (R := R) (Q := Q) (k := 1) (e := 4) (n := k1) (al := I 52 0 0 * I 52 0 1) (by decide) (by decide) b1 (fun i hi => by show 4 * i < 48; omega)
  obtain ⟨c2, i2, g2⟩ := m_areApart (d := d) (I := I) (R := R) (Q := Q) (k := 2) (e := 2) (n := k2) (al := I 52 0 0 * I 52 0 1) (by decide) (by decide) (by omega) (fun i hi => by show 2 * i < 12; omega)
  have g1 : am_cal d 195 [.ref (am_mk 53 0), .int (nI k1), .int (nI 4), .int (I 52 0 0 * I 52 0 1)] I R Q = _ := g1
  have g2 : am_cal d 195 [.ref (am_mk 54 0), .int (nI k2), .int (nI 2), .int (I 52 0 0 * I 52 0 1)] I R Q = _ := g2
  have key : ∀ E : zE, zd_m I E → zd_ok E → ((¬ k1 = 0 ∧ c1 = true ∧ c2 = true) ↔ zd_g E) := fun E hm hE => by
    obtain ⟨m1, m2, m3, m4, m5, m6, m7⟩ := hm
    obtain ⟨w1, w5, h1, h5, n1, n25⟩ := wh_of hE
    have l1 : E.2.2.1.length ≤ 12 := hE.2.2.2.2.1
    have l2 : E.2.2.2.1.length ≤ 6 := hE.2.2.2.2.2.1
    rw [e1, nI_eq2 (by omega) (by omega)] at m1
    rw [e2, nI_eq2 (by omega) (by omega)] at m2
    have eal : I 52 0 0 * I 52 0 1 = nI (E.2.1 0 * E.2.1 1) := by rw [m4 0 (by decide), m4 1 (by decide), nI_mul]
    rw [eal, m1] at i1
    rw [eal, m2] at i2
    have bf : ∀ f ∈ E.2.2.1, f 0 < 2 ^ 31 := fun f hf => by have : zLo 6 ≤ f 0 ∧ f 0 ≤ 24 := hE.2.1 f hf 0 (by decide); omega
    have bm : ∀ f ∈ E.2.2.2.1, f 0 < 2 ^ 31 := fun f hf => by have : zLo 10 ≤ f 0 ∧ f 0 ≤ 24 := hE.2.2.1 f hf 0 (by decide); omega
    have z1 := zap_iff (I := I) (x := 53) (e := 4) (n := E.2.1 0 * E.2.1 1) (fun i h => by have := m5 i h 0 (by decide); rwa [Nat.add_zero] at this) bf (by omega)
    have z2 := zap_iff (I := I) (x := 54) (e := 2) (n := E.2.1 0 * E.2.1 1) (fun i h => by have := m6 i h 0 (by decide); rwa [Nat.add_zero] at this) bm (by omega)
    rw [i1, i2, z1, z2]
    constructor
    · intro ⟨v1, v2, v3⟩
      exact ⟨fun v => v1 (by rw [m1, v]; rfl), v2, v3⟩
    · intro ⟨v1, v2, v3⟩
      exact ⟨fun v => v1 (List.length_eq_zero_iff.mp (by omega)), v2, v3⟩
  by_cases k0 : k1 = 0
  · refine ⟨false, fun l1 l2 l3 l4 => ⟨.int (I 52 0 0 * I 52 0 1), ?_⟩, fun E hm hE => ⟨fun w => (by cases w), fun w => absurd k0 ((key E hm hE).mpr w).1⟩⟩
    have k0 := eq_true k0
    simp (disch := first | omega | assumption) only [s197_0, s197_1, s197_2, s197_5, s197_6, s197_7, s197_10, s197_11, s197_12, s197_15, s197_16, s197_17, s197_20, s197_21, s197_22, s197_25, s197_26, s197_27, s197_28, s197_30, s197_32, s197_35, s197_36, s197_39, s197_40, s197_42, s197_43, s197_46, s197_47, s197_50, s197_53, s197_54, s197_56, s197_59, s197_60, s197_63, s197_64, s197_67, s197_68, s197_71, s197_72, s197_73, s197_75, s197_78, s197_79, s197_82, s197_83, s197_85, s197_88, s197_89, s197_92, s197_94, s197_97, s197_98, s197_100, s197_103, s197_104, s197_107, s197_109, s197_112, s197_113, s197_115, s197_118, s197_119, s197_122, s197_124, s197_127, s197_128, s197_131, s197_132, s197_134, s197_136, s197_139, s197_140, s197_143, s197_144, s197_146, s197_149, s197_150, s197_153, s197_154, s197_155, s197_156, s197_157, s197_160, s197_163, s197_164, s197_167, s197_168, s197_171, s197_172, s197_175, s197_176, s197_179, s197_181, s197_184, s197_185, s197_188, s197_189, s197_190, s197_191, s197_192, s197_195, s197_196, s197_199, s197_200, s197_203, s197_204, s197_205, s197_208, s197_211, s197_212, s197_215, s197_216, s197_217, s197_218, s197_221, s197_222, s197_223, s197_224, s197_225, s197_226, s197_229, s197_232, s197_233, s197_236, s197_237, s197_240, s197_241, s197_242, s197_245, s197_248, s197_249, s197_252, s197_253, s197_256, s197_257, s197_258, s197_261, s197_264, s197_265, s197_268, s197_269, s197_272, s197_275, s197_276, s197_279, s197_280, s197_283, s197_284, s197_287, s197_289, s197_292, s197_293, s197_296, s197_297, s197_300, nI_le2, nI_lt2, nI_eq2, nI_lt0, nI_0le, nI_0lt, nI_le0, nI_eq0, nI_clamp, nI_add, bu_nI, bb_0, bb_1, rf_s, rf_n, tl_s, tl_n, am_th_some, if_true, if_false, sI_eq, uI_eq, and_self, true_and, and_true, not_false_eq_true, not_true_eq_false, Nat.reduceEqDiff, Nat.reduceLeDiff, Nat.reduceLT, Nat.reduceAdd, Nat.reduceMul, Nat.reduceSub, Nat.zero_add, r17, e1, k0, Bool.false_eq_true]
  · cases c1
    · refine ⟨false, fun l1 l2 l3 l4 => ⟨.int (I 52 0 0 * I 52 0 1), ?_⟩, fun E hm hE => ⟨fun w => (by cases w), fun w => absurd ((key E hm hE).mpr w).2.1 (by decide)⟩⟩
      rw [if_neg (by decide)] at g1
      simp (disch := first | omega | assumption) only [s197_0, s197_1, s197_2, s197_5, s197_6, s197_7, s197_10, s197_11, s197_12, s197_15, s197_16, s197_17, s197_20, s197_21, s197_22, s197_25, s197_26, s197_27, s197_28, s197_30, s197_32, s197_35, s197_36, s197_39, s197_40, s197_42, s197_43, s197_46, s197_47, s197_50, s197_53, s197_54, s197_56, s197_59, s197_60, s197_63, s197_64, s197_67, s197_68, s197_71, s197_72, s197_73, s197_75, s197_78, s197_79, s197_82, s197_83, s197_85, s197_88, s197_89, s197_92, s197_94, s197_97, s197_98, s197_100, s197_103, s197_104, s197_107, s197_109, s197_112, s197_113, s197_115, s197_118, s197_119, s197_122, s197_124, s197_127, s197_128, s197_131, s197_132, s197_134, s197_136, s197_139, s197_140, s197_143, s197_144, s197_146, s197_149, s197_150, s197_153, s197_154, s197_155, s197_156, s197_157, s197_160, s197_163, s197_164, s197_167, s197_168, s197_171, s197_172, s197_175, s197_176, s197_179, s197_181, s197_184, s197_185, s197_188, s197_189, s197_190, s197_191, s197_192, s197_195, s197_196, s197_199, s197_200, s197_203, s197_204, s197_205, s197_208, s197_211, s197_212, s197_215, s197_216, s197_217, s197_218, s197_221, s197_222, s197_223, s197_224, s197_225, s197_226, s197_229, s197_232, s197_233, s197_236, s197_237, s197_240, s197_241, s197_242, s197_245, s197_248, s197_249, s197_252, s197_253, s197_256, s197_257, s197_258, s197_261, s197_264, s197_265, s197_268, s197_269, s197_272, s197_275, s197_276, s197_279, s197_280, s197_283, s197_284, s197_287, s197_289, s197_292, s197_293, s197_296, s197_297, s197_300, nI_le2, nI_lt2, nI_eq2, nI_lt0, nI_0le, nI_0lt, nI_le0, nI_eq0, nI_clamp, nI_add, bu_nI, bb_0, bb_1, rf_s, rf_n, tl_s, tl_n, am_th_some, if_true, if_false, sI_eq, uI_eq, and_self, true_and, and_true, not_false_eq_true, not_true_eq_false, Nat.reduceEqDiff, Nat.reduceLeDiff, Nat.reduceLT, Nat.reduceAdd, Nat.reduceMul, Nat.reduceSub, Nat.zero_add, r17, r18, e1, k0, g1, Bool.false_eq_true]
    · rw [if_pos rfl] at g1
      cases c2
      · refine ⟨false, fun l1 l2 l3 l4 => ⟨.int (I 52 0 0 * I 52 0 1), ?_⟩, fun E hm hE => ⟨fun w => (by cases w), fun w => absurd ((key E hm hE).mpr w).2.2 (by decide)⟩⟩
        rw [if_neg (by decide)] at g2
        simp (disch := first | omega | assumption) only [s197_0, s197_1, s197_2, s197_5, s197_6, s197_7, s197_10, s197_11, s197_12, s197_15, s197_16, s197_17, s197_20, s197_21, s197_22, s197_25, s197_26, s197_27, s197_28, s197_30, s197_32, s197_35, s197_36, s197_39, s197_40, s197_42, s197_43, s197_46, s197_47, s197_50, s197_53, s197_54, s197_56, s197_59, s197_60, s197_63, s197_64, s197_67, s197_68, s197_71, s197_72, s197_73, s197_75, s197_78, s197_79, s197_82, s197_83, s197_85, s197_88, s197_89, s197_92, s197_94, s197_97, s197_98, s197_100, s197_103, s197_104, s197_107, s197_109, s197_112, s197_113, s197_115, s197_118, s197_119, s197_122, s197_124, s197_127, s197_128, s197_131, s197_132, s197_134, s197_136, s197_139, s197_140, s197_143, s197_144, s197_146, s197_149, s197_150, s197_153, s197_154, s197_155, s197_156, s197_157, s197_160, s197_163, s197_164, s197_167, s197_168, s197_171, s197_172, s197_175, s197_176, s197_179, s197_181, s197_184, s197_185, s197_188, s197_189, s197_190, s197_191, s197_192, s197_195, s197_196, s197_199, s197_200, s197_203, s197_204, s197_205, s197_208, s197_211, s197_212, s197_215, s197_216, s197_217, s197_218, s197_221, s197_222, s197_223, s197_224, s197_225, s197_226, s197_229, s197_232, s197_233, s197_236, s197_237, s197_240, s197_241, s197_242, s197_245, s197_248, s197_249, s197_252, s197_253, s197_256, s197_257, s197_258, s197_261, s197_264, s197_265, s197_268, s197_269, s197_272, s197_275, s197_276, s197_279, s197_280, s197_283, s197_284, s197_287, s197_289, s197_292, s197_293, s197_296, s197_297, s197_300, nI_le2, nI_lt2, nI_eq2, nI_lt0, nI_0le, nI_0lt, nI_le0, nI_eq0, nI_clamp, nI_add, bu_nI, bb_0, bb_1, rf_s, rf_n, tl_s, tl_n, am_th_some, if_true, if_false, sI_eq, uI_eq, and_self, true_and, and_true, not_false_eq_true, not_true_eq_false, Nat.reduceEqDiff, Nat.reduceLeDiff, Nat.reduceLT, Nat.reduceAdd, Nat.reduceMul, Nat.reduceSub, Nat.zero_add, r17, r18, r19, e1, e2, k0, g1, g2, hne, Bool.false_eq_true]
      · refine ⟨true, fun l1 l2 l3 l4 => ⟨.int (I 52 0 0 * I 52 0 1), ?_⟩, fun E hm hE => ⟨fun _ => (key E hm hE).mp ⟨k0, rfl, rfl⟩, fun _ => rfl⟩⟩
        rw [if_pos rfl] at g2
        simp (disch := first | omega | assumption) only [s197_0, s197_1, s197_2, s197_5, s197_6, s197_7, s197_10, s197_11, s197_12, s197_15, s197_16, s197_17, s197_20, s197_21, s197_22, s197_25, s197_26, s197_27, s197_28, s197_30, s197_32, s197_35, s197_36, s197_39, s197_40, s197_42, s197_43, s197_46, s197_47, s197_50, s197_53, s197_54, s197_56, s197_59, s197_60, s197_63, s197_64, s197_67, s197_68, s197_71, s197_72, s197_73, s197_75, s197_78, s197_79, s197_82, s197_83, s197_85, s197_88, s197_89, s197_92, s197_94, s197_97, s197_98, s197_100, s197_103, s197_104, s197_107, s197_109, s197_112, s197_113, s197_115, s197_118, s197_119, s197_122, s197_124, s197_127, s197_128, s197_131, s197_132, s197_134, s197_136, s197_139, s197_140, s197_143, s197_144, s197_146, s197_149, s197_150, s197_153, s197_154, s197_155, s197_156, s197_157, s197_160, s197_163, s197_164, s197_167, s197_168, s197_171, s197_172, s197_175, s197_176, s197_179, s197_181, s197_184, s197_185, s197_188, s197_189, s197_190, s197_191, s197_192, s197_195, s197_196, s197_199, s197_200, s197_203, s197_204, s197_205, s197_208, s197_211, s197_212, s197_215, s197_216, s197_217, s197_218, s197_221, s197_222, s197_223, s197_224, s197_225, s197_226, s197_229, s197_232, s197_233, s197_236, s197_237, s197_240, s197_241, s197_242, s197_245, s197_248, s197_249, s197_252, s197_253, s197_256, s197_257, s197_258, s197_261, s197_264, s197_265, s197_268, s197_269, s197_272, s197_275, s197_276, s197_279, s197_280, s197_283, s197_284, s197_287, s197_289, s197_292, s197_293, s197_296, s197_297, s197_300, nI_le2, nI_lt2, nI_eq2, nI_lt0, nI_0le, nI_0lt, nI_le0, nI_eq0, nI_clamp, nI_add, bu_nI, bb_0, bb_1, rf_s, rf_n, tl_s, tl_n, am_th_some, if_true, if_false, sI_eq, uI_eq, and_self, true_and, and_true, not_false_eq_true, not_true_eq_false, Nat.reduceEqDiff, Nat.reduceLeDiff, Nat.reduceLT, Nat.reduceAdd, Nat.reduceMul, Nat.reduceSub, Nat.zero_add, r17, r18, r19, e1, e2, k0, g1, g2, hne]
theorem m_lend (hr : mm_R R) (hk : tp_ok L B) (haL : a ≤ L) (hend : ¬ a < L) (ht : tm_at I L B) (ha : I 12 0 3 = nI a) (hw : I 12 0 4 = -nI 1) (hm : zd_m I E) (hE : zd_ok E) (l1 l2 l3 l4 : Value) {w : Int32} (hw1 : zd_g E → w = -nI 1) (hw2 : ¬ zd_g E → w = nI a) : ∃ J, am_ev (d + 3) 197 211 [.ref (am_mk 12 0), l1, l2, l3, l4] [] I R Q = some (some (.int w), J, R, Q) ∧ am_fr zct_S I J ∧ zd_m J E := by
  obtain ⟨b, g, hb⟩ := m_211 (d := d + 2) (Q := Q) hr (zd_k_of hm hE)
  have hb := hb E hm hE
  obtain ⟨l3', g⟩ := g l1 l2 l3 l4
  obtain ⟨J1, g1, f1, a1⟩ := m_look (d := d + 1) (Q := Q) hr hk ht ha haL
  have s0 : sp_sk L B a = a := sk_e (by omega)
  rw [s0] at g1 a1
  have tS : ∀ (a b j : Nat), tm_S a b j → a = 12 ∧ j = 3 := fun a b j w => w
  have w1 : J1 12 0 4 = -nI 1 := (f1 _ _ _ (fun w => by have := tS _ _ _ w; omega)).trans hw
  have hm1 := zd_m_fr hm f1 (fun j _ w => by have := tS _ _ _ w; omega) (fun a j _ _ w => by have := tS _ _ _ w; omega)
  have q := (hm_m1 (a := a) hk).trans (eq_true hend)
  have hne : ((nI 1 : Int32) = 0) = False := by decide
  have f1' : am_fr zct_S I J1 := fr_mo f1 fun a b j w => Or.inl ⟨(tS _ _ _ w).1, Or.inl (tS _ _ _ w).2⟩
  cases b
  · have hng : ¬ zd_g E := fun v => by have := hb.mpr v; cases this
    obtain ⟨J2, g2, f2, b2⟩ := m_bad (d := d + 2) (R := R) (Q := Q) a1 w1
    rw [sp_bad, if_pos rfl] at b2
    refine ⟨J2, ?_, fr_tr f1' (fr_mo f2 fun a b j w => Or.inl ⟨w.1, Or.inr (Or.inl w.2)⟩), zd_m_fr hm1 f2 (fun j _ => by omega) (fun a j _ _ => by omega)⟩
    rw [hw2 hng]
    refine g.trans ?_
    simp (disch := first | omega | assumption) only [s197_0, s197_1, s197_2, s197_5, s197_6, s197_7, s197_10, s197_11, s197_12, s197_15, s197_16, s197_17, s197_20, s197_21, s197_22, s197_25, s197_26, s197_27, s197_28, s197_30, s197_32, s197_35, s197_36, s197_39, s197_40, s197_42, s197_43, s197_46, s197_47, s197_50, s197_53, s197_54, s197_56, s197_59, s197_60, s197_63, s197_64, s197_67, s197_68, s197_71, s197_72, s197_73, s197_75, s197_78, s197_79, s197_82, s197_83, s197_85, s197_88, s197_89, s197_92, s197_94, s197_97, s197_98, s197_100, s197_103, s197_104, s197_107, s197_109, s197_112, s197_113, s197_115, s197_118, s197_119, s197_122, s197_124, s197_127, s197_128, s197_131, s197_132, s197_134, s197_136, s197_139, s197_140, s197_143, s197_144, s197_146, s197_149, s197_150, s197_153, s197_154, s197_155, s197_156, s197_157, s197_160, s197_163, s197_164, s197_167, s197_168, s197_171, s197_172, s197_175, s197_176, s197_179, s197_181, s197_184, s197_185, s197_188, s197_189, s197_190, s197_191, s197_192, s197_195, s197_196, s197_199, s197_200, s197_203, s197_204, s197_205, s197_208, s197_211, s197_212, s197_215, s197_216, s197_217, s197_218, s197_221, s197_222, s197_223, s197_224, s197_225, s197_226, s197_229, s197_232, s197_233, s197_236, s197_237, s197_240, s197_241, s197_242, s197_245, s197_248, s197_249, s197_252, s197_253, s197_256, s197_257, s197_258, s197_261, s197_264, s197_265, s197_268, s197_269, s197_271, s197_272, s197_275, s197_276, s197_279, s197_280, s197_283, s197_284, s197_287, s197_289, s197_292, s197_293, s197_296, s197_297, s197_300, nI_le2, nI_lt2, nI_eq2, nI_lt0, nI_0le, nI_0lt, nI_le0, nI_eq0, nI_clamp, nI_add, bu_nI, bb_0, bb_1, rf_s, rf_n, tl_s, tl_n, am_th_some, if_true, if_false, sI_eq, uI_eq, and_self, true_and, and_true, not_false_eq_true, not_true_eq_false, Nat.reduceEqDiff, Nat.reduceLeDiff, Nat.reduceLT, Nat.reduceAdd, Nat.reduceMul, Nat.reduceSub, Nat.zero_add, hw, g1, q, g2, b2, Bool.false_eq_true]
  · have hg := hb.mp rfl
    refine ⟨J1, ?_, f1', hm1⟩
    rw [hw1 hg]
    refine g.trans ?_
    simp (disch := first | omega | assumption) only [s197_0, s197_1, s197_2, s197_5, s197_6, s197_7, s197_10, s197_11, s197_12, s197_15, s197_16, s197_17, s197_20, s197_21, s197_22, s197_25, s197_26, s197_27, s197_28, s197_30, s197_32, s197_35, s197_36, s197_39, s197_40, s197_42, s197_43, s197_46, s197_47, s197_50, s197_53, s197_54, s197_56, s197_59, s197_60, s197_63, s197_64, s197_67, s197_68, s197_71, s197_72, s197_73, s197_75, s197_78, s197_79, s197_82, s197_83, s197_85, s197_88, s197_89, s197_92, s197_94, s197_97, s197_98, s197_100, s197_103, s197_104, s197_107, s197_109, s197_112, s197_113, s197_115, s197_118, s197_119, s197_122, s197_124, s197_127, s197_128, s197_131, s197_132, s197_134, s197_136, s197_139, s197_140, s197_143, s197_144, s197_146, s197_149, s197_150, s197_153, s197_154, s197_155, s197_156, s197_157, s197_160, s197_163, s197_164, s197_167, s197_168, s197_171, s197_172, s197_175, s197_176, s197_179, s197_181, s197_184, s197_185, s197_188, s197_189, s197_190, s197_191, s197_192, s197_195, s197_196, s197_199, s197_200, s197_203, s197_204, s197_205, s197_208, s197_211, s197_212, s197_215, s197_216, s197_217, s197_218, s197_221, s197_222, s197_223, s197_224, s197_225, s197_226, s197_229, s197_232, s197_233, s197_236, s197_237, s197_240, s197_241, s197_242, s197_245, s197_248, s197_249, s197_252, s197_253, s197_256, s197_257, s197_258, s197_261, s197_264, s197_265, s197_268, s197_269, s197_271, s197_272, s197_275, s197_276, s197_279, s197_280, s197_283, s197_284, s197_287, s197_289, s197_292, s197_293, s197_296, s197_297, s197_300, nI_le2, nI_lt2, nI_eq2, nI_lt0, nI_0le, nI_0lt, nI_le0, nI_eq0, nI_clamp, nI_add, bu_nI, bb_0, bb_1, rf_s, rf_n, tl_s, tl_n, am_th_some, if_true, if_false, sI_eq, uI_eq, and_self, true_and, and_true, not_false_eq_true, not_true_eq_false, Nat.reduceEqDiff, Nat.reduceLeDiff, Nat.reduceLT, Nat.reduceAdd, Nat.reduceMul, Nat.reduceSub, Nat.zero_add, hw, g1, q, w1, hne]
theorem m_lbad (hr : mm_R R) (hk : tp_ok L B) (haL : a ≤ L) (ht : tm_at I L B) (hz : zui_bad L B I a) (hkk : zd_k I) (l1 l2 l3 l4 : Value) : ∃ J, am_ev (d + 3) 197 211 [.ref (am_mk 12 0), l1, l2, l3, l4] [] I R Q = some (some (.int (nI a)), J, R, Q) ∧ am_fr zct_S I J := by
  have hL := hk.1
  obtain ⟨b, g, -⟩ := m_211 (d := d + 2) (Q := Q) hr hkk
  obtain ⟨l3', g⟩ := g l1 l2 l3 l4
  rcases hz with hz | ⟨hw, ha, hlt, -, s0⟩
  · have hne : ¬ nI a = -nI 1 := m1_ne (by omega)
    refine ⟨I, ?_, fr_rf⟩
    refine g.trans ?_
    simp (disch := first | omega | assumption) only [s197_0, s197_1, s197_2, s197_5, s197_6, s197_7, s197_10, s197_11, s197_12, s197_15, s197_16, s197_17, s197_20, s197_21, s197_22, s197_25, s197_26, s197_27, s197_28, s197_30, s197_32, s197_35, s197_36, s197_39, s197_40, s197_42, s197_43, s197_46, s197_47, s197_50, s197_53, s197_54, s197_56, s197_59, s197_60, s197_63, s197_64, s197_67, s197_68, s197_71, s197_72, s197_73, s197_75, s197_78, s197_79, s197_82, s197_83, s197_85, s197_88, s197_89, s197_92, s197_94, s197_97, s197_98, s197_100, s197_103, s197_104, s197_107, s197_109, s197_112, s197_113, s197_115, s197_118, s197_119, s197_122, s197_124, s197_127, s197_128, s197_131, s197_132, s197_134, s197_136, s197_139, s197_140, s197_143, s197_144, s197_146, s197_149, s197_150, s197_153, s197_154, s197_155, s197_156, s197_157, s197_160, s197_163, s197_164, s197_167, s197_168, s197_171, s197_172, s197_175, s197_176, s197_179, s197_181, s197_184, s197_185, s197_188, s197_189, s197_190, s197_191, s197_192, s197_195, s197_196, s197_199, s197_200, s197_203, s197_204, s197_205, s197_208, s197_211, s197_212, s197_215, s197_216, s197_217, s197_218, s197_221, s197_222, s197_223, s197_224, s197_225, s197_226, s197_229, s197_232, s197_233, s197_236, s197_237, s197_240, s197_241, s197_242, s197_245, s197_248, s197_249, s197_252, s197_253, s197_256, s197_257, s197_258, s197_261, s197_264, s197_265, s197_268, s197_269, s197_271, s197_272, s197_275, s197_276, s197_279, s197_280, s197_283, s197_284, s197_287, s197_289, s197_292, s197_293, s197_296, s197_297, s197_300, nI_le2, nI_lt2, nI_eq2, nI_lt0, nI_0le, nI_0lt, nI_le0, nI_eq0, nI_clamp, nI_add, bu_nI, bb_0, bb_1, rf_s, rf_n, tl_s, tl_n, am_th_some, if_true, if_false, sI_eq, uI_eq, and_self, true_and, and_true, not_false_eq_true, not_true_eq_false, Nat.reduceEqDiff, Nat.reduceLeDiff, Nat.reduceLT, Nat.reduceAdd, Nat.reduceMul, Nat.reduceSub, Nat.zero_add, hz, hne]
  · obtain ⟨J1, g1, f1, a1⟩ := m_look (d := d + 1) (Q := Q) hr hk ht ha haL
    rw [s0] at g1 a1
    have tS : ∀ (a b j : Nat), tm_S a b j → a = 12 ∧ j = 3 := fun a b j w => w
    have w1 : J1 12 0 4 = -nI 1 := (f1 _ _ _ (fun w => by have := tS _ _ _ w; omega)).trans hw
    obtain ⟨J2, g2, f2, b2⟩ := m_bad (d := d + 2) (R := R) (Q := Q) a1 w1
    rw [sp_bad, if_pos rfl] at b2
    have q := (hm_m1 (a := a) hk).trans (eq_false (fun v => v hlt))
    refine ⟨J2, ?_, fr_tr (fr_mo f1 fun a b j w => Or.inl ⟨(tS _ _ _ w).1, Or.inl (tS _ _ _ w).2⟩) (fr_mo f2 fun a b j w => Or.inl ⟨w.1, Or.inr (Or.inl w.2)⟩)⟩
    refine g.trans ?_
    simp (disch := first | omega | assumption) only [s197_0, s197_1, s197_2, s197_5, s197_6, s197_7, s197_10, s197_11, s197_12, s197_15, s197_16, s197_17, s197_20, s197_21, s197_22, s197_25, s197_26, s197_27, s197_28, s197_30, s197_32, s197_35, s197_36, s197_39, s197_40, s197_42, s197_43, s197_46, s197_47, s197_50, s197_53, s197_54, s197_56, s197_59, s197_60, s197_63, s197_64, s197_67, s197_68, s197_71, s197_72, s197_73, s197_75, s197_78, s197_79, s197_82, s197_83, s197_85, s197_88, s197_89, s197_92, s197_94, s197_97, s197_98, s197_100, s197_103, s197_104, s197_107, s197_109, s197_112, s197_113, s197_115, s197_118, s197_119, s197_122, s197_124, s197_127, s197_128, s197_131, s197_132, s197_134, s197_136, s197_139, s197_140, s197_143, s197_144, s197_146, s197_149, s197_150, s197_153, s197_154, s197_155, s197_156, s197_157, s197_160, s197_163, s197_164, s197_167, s197_168, s197_171, s197_172, s197_175, s197_176, s197_179, s197_181, s197_184, s197_185, s197_188, s197_189, s197_190, s197_191, s197_192, s197_195, s197_196, s197_199, s197_200, s197_203, s197_204, s197_205, s197_208, s197_211, s197_212, s197_215, s197_216, s197_217, s197_218, s197_221, s197_222, s197_223, s197_224, s197_225, s197_226, s197_229, s197_232, s197_233, s197_236, s197_237, s197_240, s197_241, s197_242, s197_245, s197_248, s197_249, s197_252, s197_253, s197_256, s197_257, s197_258, s197_261, s197_264, s197_265, s197_268, s197_269, s197_271, s197_272, s197_275, s197_276, s197_279, s197_280, s197_283, s197_284, s197_287, s197_289, s197_292, s197_293, s197_296, s197_297, s197_300, nI_le2, nI_lt2, nI_eq2, nI_lt0, nI_0le, nI_0lt, nI_le0, nI_eq0, nI_clamp, nI_add, bu_nI, bb_0, bb_1, rf_s, rf_n, tl_s, tl_n, am_th_some, if_true, if_false, sI_eq, uI_eq, and_self, true_and, and_true, not_false_eq_true, not_true_eq_false, Nat.reduceEqDiff, Nat.reduceLeDiff, Nat.reduceLT, Nat.reduceAdd, Nat.reduceMul, Nat.reduceSub, Nat.zero_add, hw, g1, q, g2, b2]
end
