/-! THE TIE: exceptions made and thrown: the words -/
def zt_thL : List ((Nat × Nat) × (Nat × Nat) × List Nat) := [((2, 81), (83, 12), [78, 684, 693, 697, 700, 702, 685, 686, 99, 100, 687, 692, 698, 776, 674, 777, 676, 778, 678, 688, 9999, 690, 9999, 680, 1088, 1089, 1090, 1091, 665, 1091, 1092, 1093, 1094, 667, 1094, 1095, 1096, 685, 669, 1087, 1079, 1080, 1081, 695, 1082, 1083, 1084, 1085, 9999, 9999, 683, 682, 1086]), ((2, 87), (89, 13), [78, 684, 693, 697, 700, 702, 685, 686, 99, 100, 687, 692, 698, 776, 674, 777, 676, 778, 678, 688, 9999, 690, 9999, 680, 1172, 1173, 1174, 1091, 665, 1091, 1092, 1093, 1094, 667, 1094, 1095, 1096, 685, 669, 1171, 663, 664, 671, 672, 673, 675, 677, 679, 9999, 9999, 683, 682, 681]), ((2, 130), (132, 14), [78, 684, 693, 697, 700, 702, 685, 686, 99, 100, 687, 692, 698, 776, 674, 777, 676, 778, 678, 688, 9999, 690, 9999, 680, 1205, 1206, 1207, 1091, 665, 1091, 1092, 1093, 1094, 667, 1094, 1095, 1096, 685, 669, 1204, 1196, 1197, 1198, 696, 1199, 1200, 1201, 1202, 9999, 9999, 683, 682, 1203])]
def zt_sup : List String := ["java/lang/RuntimeException", "java/lang/Exception"]
def zt_4w : List Cond := [.laysStatic Bundle.tN "UNASSIGNED_STACK" Bundle.steD, .laysStatic Bundle.tN "SUPPRESSED_SENTINEL" Bundle.listD, .isRef (.static Bundle.tN "UNASSIGNED_STACK" Bundle.steD), .isRef (.static Bundle.tN "SUPPRESSED_SENTINEL" Bundle.listD)]
def zt_al : List Cond → List Nat → Bool
  | [], _ => true
  | _ :: _, [] => false
  | w :: ws, k :: ks => (if k = 9999 then decide (w ∈ zt_4w) else decide (lw_tbl[k]? = some w) && !z_ls w) && zt_al ws ks
theorem zt_al_spec : ∀ (ws : List Cond) (ks : List Nat), zt_al ws ks = true → ∀ w ∈ ws, w ∈ z_wl ∨ w ∈ zt_4w := by
  intro ws
  induction ws with
  | nil => intro ks _ w hw; cases hw
  | cons a r ih =>
    intro ks h w hw
    cases ks with
    | nil => cases h
    | cons k ks =>
      simp only [zt_al, Bool.and_eq_true] at h
      rcases List.mem_cons.mp hw with rfl | hw
      · split at h
        · exact Or.inr (of_decide_eq_true h.1)
        · simp only [Bool.and_eq_true, decide_eq_true_eq, Bool.not_eq_true'] at h
          exact Or.inl (z_wl_at h.1.1 h.1.2)
      · exact ih ks h.2 w hw
theorem zt_th0 : zt_al (Bundle.ownAtoms0 (zt_cn 2) 83 "java/lang/IllegalStateException" zt_sup) ((zt_thL.getD 0 ((0, 0), (0, 0), [])).2.2) = true := by decide +kernel
theorem zt_th1 : zt_al (Bundle.ownAtoms0 (zt_cn 2) 89 "java/lang/IllegalArgumentException" zt_sup) ((zt_thL.getD 1 ((0, 0), (0, 0), [])).2.2) = true := by decide +kernel
theorem zt_th2 : zt_al (Bundle.ownAtoms0 (zt_cn 2) 132 "java/util/NoSuchElementException" zt_sup) ((zt_thL.getD 2 ((0, 0), (0, 0), [])).2.2) = true := by decide +kernel
