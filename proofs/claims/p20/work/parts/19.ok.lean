/-! The check, computed. -/
def ck_m (j : Nat) : Bool := match ac_L[j]?, ax_N[j]? with
  | some M, some N => ck_w ax_cd j (.code N.1 N.2.1 M.2 N.2.2.1) && (ck_w ax_in j (.initialized N.1.cls) && (decide (N.1.cls ≠ "java/lang/invoke/MethodHandle") && (decide (N.1.cls ≠ "java/lang/invoke/VarHandle") && plainName N.1.cls)))
  | _, _ => false
set_option maxRecDepth 1000000 in
theorem okm_a : (List.range' 0 3).all ck_m = true := by decide +kernel
set_option maxRecDepth 1000000 in
theorem okj_a : (List.range' 0 3).all ck_j = true := by decide +kernel
