/-- Bite.look -/
def lookM (im : Nat → Nat → Nat → Int) (w p g : Nat) : Nat → Nat → Nat → Int := up (up (up (up (up (up (up im 16 0 2 (im 21 (5 * w + p) 0)) 16 0 3 (im 23 (5 * w + p) g)) 16 0 4 (im 18 w 4)) 17 0 0 (im 22 (5 * w + p) g)) 17 0 1 0) 17 0 3 (im 21 (5 * w + p) 1)) 17 0 4 g

set_option maxHeartbeats 4000000 in
theorem c_X0_look (l : Launch) (G : GS) (im : Nat → Nat → Nat → Int) (bt rt : Nat) (lm : Nat → Nat → Nat → Int) (w : Nat) (man gap : Int) (hw : w < 3) (h0 : 0 ≤ man) (h1 : man < 5) (g0 : 0 ≤ gap) (g1 : gap < 10) (r0 : 0 ≤ im 18 w 7) (r1 : im 18 w 7 < 6) : Cn l (XC G) yX0_look Y_X0_look [vR 16 0, vR 18 w, vI man, vI gap] (im, rs bt rt, lm) (pV fun m' => m' = (lookM im w man.toNat gap.toNat, rs (im 18 w 7).toNat rt, lm)) := by
  refine cn_of (by decide) (okC G) rfl (Nat.le_of_ble_eq_true rfl) ?_
  intro M ad hMl F
  subst hMl
  refine wp_pad 1 ?_
  show Wp M (XC G) ad Y_X0_look _ 0 [some (vR 16 0), some (vR 18 w), some (vI man), some (vI gap), none] [] (im, rs bt rt, lm)
  refine q_aload_n F dX0_look_0 rfl rfl rfl ?_
  refine g_X0_19 F dX0_look_1 rfl (by omega) rfl ?_
  refine q_iload_n F dX0_look_4 rfl rfl rfl ?_
  refine wp_aald F dX0_look_5 rfl (by decide) (by decide) (by decide) (m_19 (by omega)) (by omega) (by omega) rfl rfl ?_
  refine q_astore F dX0_look_6 (by decide) rfl rfl ?_
  refine q_aload_n F dX0_look_8 rfl rfl rfl ?_
  refine q_aload_n F dX0_look_9 rfl rfl rfl ?_
  refine g_X0_25 F dX0_look_10 rfl (by omega) rfl ?_
  refine q_aload_n F dX0_look_13 rfl rfl rfl ?_
  refine g_X0_29 F dX0_look_14 rfl (by omega) rfl ?_
  refine wp_aald F dX0_look_17 rfl (by decide) (by decide) (by decide) (m_1 (by omega)) (by omega) (by omega) rfl rfl ?_
  refine p_X0_15 F dX0_look_18 rfl rfl ?_
  refine q_aload_n F dX0_look_21 rfl rfl rfl ?_
  refine q_aload F dX0_look_22 rfl rfl ?_
  refine g_X0_33 F dX0_look_24 rfl (by omega) rfl ?_
  try simp only [up_app, and_true, true_and, and_false, false_and, if_true, if_false, and_self]
  refine p_X0_38 F dX0_look_27 rfl rfl ?_
  refine q_aload_n F dX0_look_30 rfl rfl rfl ?_
  refine q_aload F dX0_look_31 rfl rfl ?_
  refine g_X0_39 F dX0_look_33 rfl (by omega) rfl ?_
  refine q_iload_n F dX0_look_36 rfl rfl rfl ?_
  refine wp_iald F dX0_look_37 rfl (by decide) (m_23 (by omega)) (by omega) (by omega) rfl ?_
  try simp only [up_app, and_true, true_and, and_false, false_and, if_true, if_false, and_self]
  refine p_X0_42 F dX0_look_38 rfl rfl ?_
  refine q_aload_n F dX0_look_41 rfl rfl rfl ?_
  refine q_aload_n F dX0_look_42 rfl rfl rfl ?_
  refine g_X0_44 F dX0_look_43 rfl (by omega) rfl ?_
  try simp only [up_app, and_true, true_and, and_false, false_and, if_true, if_false, and_self]
  refine p_X0_47 F dX0_look_46 rfl rfl ?_
  refine q_aload_n F dX0_look_49 rfl rfl rfl ?_
  refine g_X0_9 F dX0_look_50 rfl rfl ?_
  refine q_iconst F dX0_look_53 rfl ?_
  refine q_aload F dX0_look_54 rfl rfl ?_
  refine g_X0_48 F dX0_look_56 rfl (by omega) rfl ?_
  refine q_iload_n F dX0_look_59 rfl rfl rfl ?_
  refine wp_iald F dX0_look_60 rfl (by decide) (m_22 (by omega)) (by omega) (by omega) rfl ?_
  try simp only [up_app, and_true, true_and, and_false, false_and, if_true, if_false, and_self]
  refine wp_iast F dX0_look_61 rfl (by decide) (m_17 (by omega)) (by omega) (by omega) rfl ?_
  refine q_aload_n F dX0_look_62 rfl rfl rfl ?_
  refine g_X0_9 F dX0_look_63 rfl rfl ?_
  refine q_iconst F dX0_look_66 rfl ?_
  refine q_iconst F dX0_look_67 rfl ?_
  refine wp_iast F dX0_look_68 rfl (by decide) (m_17 (by omega)) (by omega) (by omega) rfl ?_
  refine q_aload_n F dX0_look_69 rfl rfl rfl ?_
  refine g_X0_9 F dX0_look_70 rfl rfl ?_
  refine q_iconst F dX0_look_73 rfl ?_
  refine q_aload F dX0_look_74 rfl rfl ?_
  refine g_X0_51 F dX0_look_76 rfl (by omega) rfl ?_
  try simp only [up_app, and_true, true_and, and_false, false_and, if_true, if_false, and_self]
  refine wp_iast F dX0_look_79 rfl (by decide) (m_17 (by omega)) (by omega) (by omega) rfl ?_
  refine q_aload_n F dX0_look_80 rfl rfl rfl ?_
  refine g_X0_9 F dX0_look_81 rfl rfl ?_
  refine q_iconst F dX0_look_84 rfl ?_
  refine q_iload_n F dX0_look_85 rfl rfl rfl ?_
  refine wp_iast F dX0_look_86 rfl (by decide) (m_17 (by omega)) (by omega) (by omega) rfl ?_
  refine q_vret F dX0_look_87 rfl ?_
  exact ⟨rfl, rfl⟩

