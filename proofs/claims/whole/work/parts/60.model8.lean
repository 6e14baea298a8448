def cf_X6_spread_i2_s10_4 (fu : Nat) (k_2 : Int32 → Int32 → (Nat → Int32) → (Nat → Int32) → (Nat → Int32) → Int32 → Int32 → (Nat → Int32)) (m_o : Int32) (m_f : Int32) (g_F : Nat → Int32) (g_C : Nat → Int32) (g_M : Nat → Int32) (x1 : Int32) (x2 : Int32) : (Nat → Int32) :=
  k_2 m_o m_f g_F g_C g_M x1 x2
def vc_X6_spread_i2_s10_4 (fu : Nat) (v_2 : Int32 → Int32 → (Nat → Int32) → (Nat → Int32) → (Nat → Int32) → Int32 → Int32 → Prop) (m_o : Int32) (m_f : Int32) (g_F : Nat → Int32) (g_C : Nat → Int32) (g_M : Nat → Int32) (x1 : Int32) (x2 : Int32) : Prop :=
  v_2 m_o m_f g_F g_C g_M x1 x2
def cf_X6_spread_i2_s100_3 (fu : Nat) (k_2 : Int32 → Int32 → (Nat → Int32) → (Nat → Int32) → (Nat → Int32) → Int32 → Int32 → (Nat → Int32)) (m_o : Int32) (m_f : Int32) (g_F : Nat → Int32) (g_C : Nat → Int32) (g_M : Nat → Int32) (x1 : Int32) (x2 : Int32) : (Nat → Int32) :=
  cf_X6_spread_i2_s10_4 fu k_2 m_o m_f g_F g_C g_M x1 x2
def vc_X6_spread_i2_s100_3 (fu : Nat) (v_2 : Int32 → Int32 → (Nat → Int32) → (Nat → Int32) → (Nat → Int32) → Int32 → Int32 → Prop) (m_o : Int32) (m_f : Int32) (g_F : Nat → Int32) (g_C : Nat → Int32) (g_M : Nat → Int32) (x1 : Int32) (x2 : Int32) : Prop :=
  vc_X6_spread_i2_s10_4 fu v_2 m_o m_f g_F g_C g_M x1 x2
def cf_X6_spread_i2_s21_3_2 (fu : Nat) (k_2 : Int32 → Int32 → (Nat → Int32) → (Nat → Int32) → (Nat → Int32) → Int32 → Int32 → (Nat → Int32)) (m_o : Int32) (m_f : Int32) (g_F : Nat → Int32) (g_C : Nat → Int32) (g_M : Nat → Int32) (x1 : Int32) (x2 : Int32) : (Nat → Int32) :=
  cf_X6_spread_i2_s100_3 fu k_2 m_o m_f g_F g_C g_M x1 x2
def vc_X6_spread_i2_s21_3_2 (fu : Nat) (v_2 : Int32 → Int32 → (Nat → Int32) → (Nat → Int32) → (Nat → Int32) → Int32 → Int32 → Prop) (m_o : Int32) (m_f : Int32) (g_F : Nat → Int32) (g_C : Nat → Int32) (g_M : Nat → Int32) (x1 : Int32) (x2 : Int32) : Prop :=
  vc_X6_spread_i2_s100_3 fu v_2 m_o m_f g_F g_C g_M x1 x2
def cf_X6_spread_i2_s94_3_1 (fu : Nat) (k_2 : Int32 → Int32 → (Nat → Int32) → (Nat → Int32) → (Nat → Int32) → Int32 → Int32 → (Nat → Int32)) (m_o : Int32) (m_f : Int32) (g_F : Nat → Int32) (g_C : Nat → Int32) (g_M : Nat → Int32) (x1 : Int32) (x2 : Int32) : (Nat → Int32) :=
  cf_X6_spread_i2_s21_3_2 fu k_2 m_o m_f g_F g_C g_M x1 x2
def vc_X6_spread_i2_s94_3_1 (fu : Nat) (v_2 : Int32 → Int32 → (Nat → Int32) → (Nat → Int32) → (Nat → Int32) → Int32 → Int32 → Prop) (m_o : Int32) (m_f : Int32) (g_F : Nat → Int32) (g_C : Nat → Int32) (g_M : Nat → Int32) (x1 : Int32) (x2 : Int32) : Prop :=
  vc_X6_spread_i2_s21_3_2 fu v_2 m_o m_f g_F g_C g_M x1 x2
def cf_X6_spread_i2_s84_3_1 (fu : Nat) (k_2 : Int32 → Int32 → (Nat → Int32) → (Nat → Int32) → (Nat → Int32) → Int32 → Int32 → (Nat → Int32)) (m_o : Int32) (m_f : Int32) (g_F : Nat → Int32) (g_C : Nat → Int32) (g_M : Nat → Int32) (x1 : Int32) (x5 : Int32) : (Nat → Int32) :=
  cf_X6_spread_i2_s94_3_1 fu k_2 m_o m_f g_F g_C (upd g_M (x5).toNatClampNeg (vp_nar .boolean (1 : Int32))) x1 (1 : Int32)
def vc_X6_spread_i2_s84_3_1 (fu : Nat) (v_2 : Int32 → Int32 → (Nat → Int32) → (Nat → Int32) → (Nat → Int32) → Int32 → Int32 → Prop) (m_o : Int32) (m_f : Int32) (g_F : Nat → Int32) (g_C : Nat → Int32) (g_M : Nat → Int32) (x1 : Int32) (x5 : Int32) : Prop :=
  (vp_in x5 4 ∧ vc_X6_spread_i2_s94_3_1 fu v_2 m_o m_f g_F g_C (upd g_M (x5).toNatClampNeg (vp_nar .boolean (1 : Int32))) x1 (1 : Int32))
def cf_X6_spread_i2_s21_3_1 (fu : Nat) (k_2 : Int32 → Int32 → (Nat → Int32) → (Nat → Int32) → (Nat → Int32) → Int32 → Int32 → (Nat → Int32)) (m_o : Int32) (m_f : Int32) (g_F : Nat → Int32) (g_C : Nat → Int32) (g_M : Nat → Int32) (x1 : Int32) (x2 : Int32) : (Nat → Int32) :=
  (if m_f ≤ (1 : Int32) then cf_X6_spread_i2_s100_3 fu k_2 m_o m_f g_F g_C g_M x1 x2 else (if (g_M ((3 : Int32)).toNatClampNeg) = 0 then cf_X6_spread_i2_s100_3 fu k_2 m_o m_f g_F g_C g_M x1 x2 else (if (g_F ((7 : Int32)).toNatClampNeg) < 0 then cf_X6_spread_i2_s94_3_1 fu k_2 m_o m_f g_F g_C g_M x1 x2 else (if (g_M ((g_F ((7 : Int32)).toNatClampNeg)).toNatClampNeg) = 0 then (if x1 = 0 then cf_X6_spread_i2_s84_3_1 fu k_2 m_o m_f g_F g_C g_M x1 (g_F ((7 : Int32)).toNatClampNeg) else (if (g_C ((g_F ((7 : Int32)).toNatClampNeg)).toNatClampNeg) = 0 then cf_X6_spread_i2_s84_3_1 fu k_2 m_o m_f g_F g_C g_M x1 (g_F ((7 : Int32)).toNatClampNeg) else cf_X6_spread_i2_s94_3_1 fu k_2 m_o m_f g_F g_C g_M x1 x2)) else cf_X6_spread_i2_s94_3_1 fu k_2 m_o m_f g_F g_C g_M x1 x2))))
def vc_X6_spread_i2_s21_3_1 (fu : Nat) (v_2 : Int32 → Int32 → (Nat → Int32) → (Nat → Int32) → (Nat → Int32) → Int32 → Int32 → Prop) (m_o : Int32) (m_f : Int32) (g_F : Nat → Int32) (g_C : Nat → Int32) (g_M : Nat → Int32) (x1 : Int32) (x2 : Int32) : Prop :=
  ((m_f ≤ (1 : Int32) → vc_X6_spread_i2_s100_3 fu v_2 m_o m_f g_F g_C g_M x1 x2) ∧ (¬ m_f ≤ (1 : Int32) → (((g_M ((3 : Int32)).toNatClampNeg) = 0 → vc_X6_spread_i2_s100_3 fu v_2 m_o m_f g_F g_C g_M x1 x2) ∧ (¬ (g_M ((3 : Int32)).toNatClampNeg) = 0 → (((g_F ((7 : Int32)).toNatClampNeg) < 0 → vc_X6_spread_i2_s94_3_1 fu v_2 m_o m_f g_F g_C g_M x1 x2) ∧ (¬ (g_F ((7 : Int32)).toNatClampNeg) < 0 → (vp_in (g_F ((7 : Int32)).toNatClampNeg) 4 ∧ (((g_M ((g_F ((7 : Int32)).toNatClampNeg)).toNatClampNeg) = 0 → ((x1 = 0 → vc_X6_spread_i2_s84_3_1 fu v_2 m_o m_f g_F g_C g_M x1 (g_F ((7 : Int32)).toNatClampNeg)) ∧ (¬ x1 = 0 → (vp_in (g_F ((7 : Int32)).toNatClampNeg) 4 ∧ (((g_C ((g_F ((7 : Int32)).toNatClampNeg)).toNatClampNeg) = 0 → vc_X6_spread_i2_s84_3_1 fu v_2 m_o m_f g_F g_C g_M x1 (g_F ((7 : Int32)).toNatClampNeg)) ∧ (¬ (g_C ((g_F ((7 : Int32)).toNatClampNeg)).toNatClampNeg) = 0 → vc_X6_spread_i2_s94_3_1 fu v_2 m_o m_f g_F g_C g_M x1 x2)))))) ∧ (¬ (g_M ((g_F ((7 : Int32)).toNatClampNeg)).toNatClampNeg) = 0 → vc_X6_spread_i2_s94_3_1 fu v_2 m_o m_f g_F g_C g_M x1 x2)))))))))
def cf_X6_spread_i2_s94_3_0 (fu : Nat) (k_2 : Int32 → Int32 → (Nat → Int32) → (Nat → Int32) → (Nat → Int32) → Int32 → Int32 → (Nat → Int32)) (m_o : Int32) (m_f : Int32) (g_F : Nat → Int32) (g_C : Nat → Int32) (g_M : Nat → Int32) (x1 : Int32) (x2 : Int32) : (Nat → Int32) :=
  cf_X6_spread_i2_s21_3_1 fu k_2 m_o m_f g_F g_C g_M x1 x2
def vc_X6_spread_i2_s94_3_0 (fu : Nat) (v_2 : Int32 → Int32 → (Nat → Int32) → (Nat → Int32) → (Nat → Int32) → Int32 → Int32 → Prop) (m_o : Int32) (m_f : Int32) (g_F : Nat → Int32) (g_C : Nat → Int32) (g_M : Nat → Int32) (x1 : Int32) (x2 : Int32) : Prop :=
  vc_X6_spread_i2_s21_3_1 fu v_2 m_o m_f g_F g_C g_M x1 x2
def cf_X6_spread_i2_s84_3_0 (fu : Nat) (k_2 : Int32 → Int32 → (Nat → Int32) → (Nat → Int32) → (Nat → Int32) → Int32 → Int32 → (Nat → Int32)) (m_o : Int32) (m_f : Int32) (g_F : Nat → Int32) (g_C : Nat → Int32) (g_M : Nat → Int32) (x1 : Int32) (x5 : Int32) : (Nat → Int32) :=
  cf_X6_spread_i2_s94_3_0 fu k_2 m_o m_f g_F g_C (upd g_M (x5).toNatClampNeg (vp_nar .boolean (1 : Int32))) x1 (1 : Int32)
def vc_X6_spread_i2_s84_3_0 (fu : Nat) (v_2 : Int32 → Int32 → (Nat → Int32) → (Nat → Int32) → (Nat → Int32) → Int32 → Int32 → Prop) (m_o : Int32) (m_f : Int32) (g_F : Nat → Int32) (g_C : Nat → Int32) (g_M : Nat → Int32) (x1 : Int32) (x5 : Int32) : Prop :=
  (vp_in x5 4 ∧ vc_X6_spread_i2_s94_3_0 fu v_2 m_o m_f g_F g_C (upd g_M (x5).toNatClampNeg (vp_nar .boolean (1 : Int32))) x1 (1 : Int32))
def cf_X6_spread_i2_s21_3_0 (fu : Nat) (k_2 : Int32 → Int32 → (Nat → Int32) → (Nat → Int32) → (Nat → Int32) → Int32 → Int32 → (Nat → Int32)) (m_o : Int32) (m_f : Int32) (g_F : Nat → Int32) (g_C : Nat → Int32) (g_M : Nat → Int32) (x1 : Int32) (x2 : Int32) : (Nat → Int32) :=
  (if m_f ≤ (0 : Int32) then cf_X6_spread_i2_s100_3 fu k_2 m_o m_f g_F g_C g_M x1 x2 else (if (g_M ((3 : Int32)).toNatClampNeg) = 0 then cf_X6_spread_i2_s100_3 fu k_2 m_o m_f g_F g_C g_M x1 x2 else (if (g_F ((6 : Int32)).toNatClampNeg) < 0 then cf_X6_spread_i2_s94_3_0 fu k_2 m_o m_f g_F g_C g_M x1 x2 else (if (g_M ((g_F ((6 : Int32)).toNatClampNeg)).toNatClampNeg) = 0 then (if x1 = 0 then cf_X6_spread_i2_s84_3_0 fu k_2 m_o m_f g_F g_C g_M x1 (g_F ((6 : Int32)).toNatClampNeg) else (if (g_C ((g_F ((6 : Int32)).toNatClampNeg)).toNatClampNeg) = 0 then cf_X6_spread_i2_s84_3_0 fu k_2 m_o m_f g_F g_C g_M x1 (g_F ((6 : Int32)).toNatClampNeg) else cf_X6_spread_i2_s94_3_0 fu k_2 m_o m_f g_F g_C g_M x1 x2)) else cf_X6_spread_i2_s94_3_0 fu k_2 m_o m_f g_F g_C g_M x1 x2))))
def vc_X6_spread_i2_s21_3_0 (fu : Nat) (v_2 : Int32 → Int32 → (Nat → Int32) → (Nat → Int32) → (Nat → Int32) → Int32 → Int32 → Prop) (m_o : Int32) (m_f : Int32) (g_F : Nat → Int32) (g_C : Nat → Int32) (g_M : Nat → Int32) (x1 : Int32) (x2 : Int32) : Prop :=
  ((m_f ≤ (0 : Int32) → vc_X6_spread_i2_s100_3 fu v_2 m_o m_f g_F g_C g_M x1 x2) ∧ (¬ m_f ≤ (0 : Int32) → (((g_M ((3 : Int32)).toNatClampNeg) = 0 → vc_X6_spread_i2_s100_3 fu v_2 m_o m_f g_F g_C g_M x1 x2) ∧ (¬ (g_M ((3 : Int32)).toNatClampNeg) = 0 → (((g_F ((6 : Int32)).toNatClampNeg) < 0 → vc_X6_spread_i2_s94_3_0 fu v_2 m_o m_f g_F g_C g_M x1 x2) ∧ (¬ (g_F ((6 : Int32)).toNatClampNeg) < 0 → (vp_in (g_F ((6 : Int32)).toNatClampNeg) 4 ∧ (((g_M ((g_F ((6 : Int32)).toNatClampNeg)).toNatClampNeg) = 0 → ((x1 = 0 → vc_X6_spread_i2_s84_3_0 fu v_2 m_o m_f g_F g_C g_M x1 (g_F ((6 : Int32)).toNatClampNeg)) ∧ (¬ x1 = 0 → (vp_in (g_F ((6 : Int32)).toNatClampNeg) 4 ∧ (((g_C ((g_F ((6 : Int32)).toNatClampNeg)).toNatClampNeg) = 0 → vc_X6_spread_i2_s84_3_0 fu v_2 m_o m_f g_F g_C g_M x1 (g_F ((6 : Int32)).toNatClampNeg)) ∧ (¬ (g_C ((g_F ((6 : Int32)).toNatClampNeg)).toNatClampNeg) = 0 → vc_X6_spread_i2_s94_3_0 fu v_2 m_o m_f g_F g_C g_M x1 x2)))))) ∧ (¬ (g_M ((g_F ((6 : Int32)).toNatClampNeg)).toNatClampNeg) = 0 → vc_X6_spread_i2_s94_3_0 fu v_2 m_o m_f g_F g_C g_M x1 x2)))))))))
def cf_X6_spread_i2_s10_3 (fu : Nat) (k_2 : Int32 → Int32 → (Nat → Int32) → (Nat → Int32) → (Nat → Int32) → Int32 → Int32 → (Nat → Int32)) (m_o : Int32) (m_f : Int32) (g_F : Nat → Int32) (g_C : Nat → Int32) (g_M : Nat → Int32) (x1 : Int32) (x2 : Int32) : (Nat → Int32) :=
  (if m_o ≤ (3 : Int32) then k_2 m_o m_f g_F g_C g_M x1 x2 else cf_X6_spread_i2_s21_3_0 fu k_2 m_o m_f g_F g_C g_M x1 x2)
def vc_X6_spread_i2_s10_3 (fu : Nat) (v_2 : Int32 → Int32 → (Nat → Int32) → (Nat → Int32) → (Nat → Int32) → Int32 → Int32 → Prop) (m_o : Int32) (m_f : Int32) (g_F : Nat → Int32) (g_C : Nat → Int32) (g_M : Nat → Int32) (x1 : Int32) (x2 : Int32) : Prop :=
  ((m_o ≤ (3 : Int32) → v_2 m_o m_f g_F g_C g_M x1 x2) ∧ (¬ m_o ≤ (3 : Int32) → vc_X6_spread_i2_s21_3_0 fu v_2 m_o m_f g_F g_C g_M x1 x2))
def cf_X6_spread_i2_s100_2 (fu : Nat) (k_2 : Int32 → Int32 → (Nat → Int32) → (Nat → Int32) → (Nat → Int32) → Int32 → Int32 → (Nat → Int32)) (m_o : Int32) (m_f : Int32) (g_F : Nat → Int32) (g_C : Nat → Int32) (g_M : Nat → Int32) (x1 : Int32) (x2 : Int32) : (Nat → Int32) :=
  cf_X6_spread_i2_s10_3 fu k_2 m_o m_f g_F g_C g_M x1 x2
def vc_X6_spread_i2_s100_2 (fu : Nat) (v_2 : Int32 → Int32 → (Nat → Int32) → (Nat → Int32) → (Nat → Int32) → Int32 → Int32 → Prop) (m_o : Int32) (m_f : Int32) (g_F : Nat → Int32) (g_C : Nat → Int32) (g_M : Nat → Int32) (x1 : Int32) (x2 : Int32) : Prop :=
  vc_X6_spread_i2_s10_3 fu v_2 m_o m_f g_F g_C g_M x1 x2
def cf_X6_spread_i2_s21_2_2 (fu : Nat) (k_2 : Int32 → Int32 → (Nat → Int32) → (Nat → Int32) → (Nat → Int32) → Int32 → Int32 → (Nat → Int32)) (m_o : Int32) (m_f : Int32) (g_F : Nat → Int32) (g_C : Nat → Int32) (g_M : Nat → Int32) (x1 : Int32) (x2 : Int32) : (Nat → Int32) :=
  cf_X6_spread_i2_s100_2 fu k_2 m_o m_f g_F g_C g_M x1 x2
def vc_X6_spread_i2_s21_2_2 (fu : Nat) (v_2 : Int32 → Int32 → (Nat → Int32) → (Nat → Int32) → (Nat → Int32) → Int32 → Int32 → Prop) (m_o : Int32) (m_f : Int32) (g_F : Nat → Int32) (g_C : Nat → Int32) (g_M : Nat → Int32) (x1 : Int32) (x2 : Int32) : Prop :=
  vc_X6_spread_i2_s100_2 fu v_2 m_o m_f g_F g_C g_M x1 x2
def cf_X6_spread_i2_s94_2_1 (fu : Nat) (k_2 : Int32 → Int32 → (Nat → Int32) → (Nat → Int32) → (Nat → Int32) → Int32 → Int32 → (Nat → Int32)) (m_o : Int32) (m_f : Int32) (g_F : Nat → Int32) (g_C : Nat → Int32) (g_M : Nat → Int32) (x1 : Int32) (x2 : Int32) : (Nat → Int32) :=
  cf_X6_spread_i2_s21_2_2 fu k_2 m_o m_f g_F g_C g_M x1 x2
def vc_X6_spread_i2_s94_2_1 (fu : Nat) (v_2 : Int32 → Int32 → (Nat → Int32) → (Nat → Int32) → (Nat → Int32) → Int32 → Int32 → Prop) (m_o : Int32) (m_f : Int32) (g_F : Nat → Int32) (g_C : Nat → Int32) (g_M : Nat → Int32) (x1 : Int32) (x2 : Int32) : Prop :=
  vc_X6_spread_i2_s21_2_2 fu v_2 m_o m_f g_F g_C g_M x1 x2
def cf_X6_spread_i2_s84_2_1 (fu : Nat) (k_2 : Int32 → Int32 → (Nat → Int32) → (Nat → Int32) → (Nat → Int32) → Int32 → Int32 → (Nat → Int32)) (m_o : Int32) (m_f : Int32) (g_F : Nat → Int32) (g_C : Nat → Int32) (g_M : Nat → Int32) (x1 : Int32) (x5 : Int32) : (Nat → Int32) :=
  cf_X6_spread_i2_s94_2_1 fu k_2 m_o m_f g_F g_C (upd g_M (x5).toNatClampNeg (vp_nar .boolean (1 : Int32))) x1 (1 : Int32)
def vc_X6_spread_i2_s84_2_1 (fu : Nat) (v_2 : Int32 → Int32 → (Nat → Int32) → (Nat → Int32) → (Nat → Int32) → Int32 → Int32 → Prop) (m_o : Int32) (m_f : Int32) (g_F : Nat → Int32) (g_C : Nat → Int32) (g_M : Nat → Int32) (x1 : Int32) (x5 : Int32) : Prop :=
  (vp_in x5 4 ∧ vc_X6_spread_i2_s94_2_1 fu v_2 m_o m_f g_F g_C (upd g_M (x5).toNatClampNeg (vp_nar .boolean (1 : Int32))) x1 (1 : Int32))
def cf_X6_spread_i2_s21_2_1 (fu : Nat) (k_2 : Int32 → Int32 → (Nat → Int32) → (Nat → Int32) → (Nat → Int32) → Int32 → Int32 → (Nat → Int32)) (m_o : Int32) (m_f : Int32) (g_F : Nat → Int32) (g_C : Nat → Int32) (g_M : Nat → Int32) (x1 : Int32) (x2 : Int32) : (Nat → Int32) :=
  (if m_f ≤ (1 : Int32) then cf_X6_spread_i2_s100_2 fu k_2 m_o m_f g_F g_C g_M x1 x2 else (if (g_M ((2 : Int32)).toNatClampNeg) = 0 then cf_X6_spread_i2_s100_2 fu k_2 m_o m_f g_F g_C g_M x1 x2 else (if (g_F ((5 : Int32)).toNatClampNeg) < 0 then cf_X6_spread_i2_s94_2_1 fu k_2 m_o m_f g_F g_C g_M x1 x2 else (if (g_M ((g_F ((5 : Int32)).toNatClampNeg)).toNatClampNeg) = 0 then (if x1 = 0 then cf_X6_spread_i2_s84_2_1 fu k_2 m_o m_f g_F g_C g_M x1 (g_F ((5 : Int32)).toNatClampNeg) else (if (g_C ((g_F ((5 : Int32)).toNatClampNeg)).toNatClampNeg) = 0 then cf_X6_spread_i2_s84_2_1 fu k_2 m_o m_f g_F g_C g_M x1 (g_F ((5 : Int32)).toNatClampNeg) else cf_X6_spread_i2_s94_2_1 fu k_2 m_o m_f g_F g_C g_M x1 x2)) else cf_X6_spread_i2_s94_2_1 fu k_2 m_o m_f g_F g_C g_M x1 x2))))
def vc_X6_spread_i2_s21_2_1 (fu : Nat) (v_2 : Int32 → Int32 → (Nat → Int32) → (Nat → Int32) → (Nat → Int32) → Int32 → Int32 → Prop) (m_o : Int32) (m_f : Int32) (g_F : Nat → Int32) (g_C : Nat → Int32) (g_M : Nat → Int32) (x1 : Int32) (x2 : Int32) : Prop :=
  ((m_f ≤ (1 : Int32) → vc_X6_spread_i2_s100_2 fu v_2 m_o m_f g_F g_C g_M x1 x2) ∧ (¬ m_f ≤ (1 : Int32) → (((g_M ((2 : Int32)).toNatClampNeg) = 0 → vc_X6_spread_i2_s100_2 fu v_2 m_o m_f g_F g_C g_M x1 x2) ∧ (¬ (g_M ((2 : Int32)).toNatClampNeg) = 0 → (((g_F ((5 : Int32)).toNatClampNeg) < 0 → vc_X6_spread_i2_s94_2_1 fu v_2 m_o m_f g_F g_C g_M x1 x2) ∧ (¬ (g_F ((5 : Int32)).toNatClampNeg) < 0 → (vp_in (g_F ((5 : Int32)).toNatClampNeg) 4 ∧ (((g_M ((g_F ((5 : Int32)).toNatClampNeg)).toNatClampNeg) = 0 → ((x1 = 0 → vc_X6_spread_i2_s84_2_1 fu v_2 m_o m_f g_F g_C g_M x1 (g_F ((5 : Int32)).toNatClampNeg)) ∧ (¬ x1 = 0 → (vp_in (g_F ((5 : Int32)).toNatClampNeg) 4 ∧ (((g_C ((g_F ((5 : Int32)).toNatClampNeg)).toNatClampNeg) = 0 → vc_X6_spread_i2_s84_2_1 fu v_2 m_o m_f g_F g_C g_M x1 (g_F ((5 : Int32)).toNatClampNeg)) ∧ (¬ (g_C ((g_F ((5 : Int32)).toNatClampNeg)).toNatClampNeg) = 0 → vc_X6_spread_i2_s94_2_1 fu v_2 m_o m_f g_F g_C g_M x1 x2)))))) ∧ (¬ (g_M ((g_F ((5 : Int32)).toNatClampNeg)).toNatClampNeg) = 0 → vc_X6_spread_i2_s94_2_1 fu v_2 m_o m_f g_F g_C g_M x1 x2)))))))))
def cf_X6_spread_i2_s94_2_0 (fu : Nat) (k_2 : Int32 → Int32 → (Nat → Int32) → (Nat → Int32) → (Nat → Int32) → Int32 → Int32 → (Nat → Int32)) (m_o : Int32) (m_f : Int32) (g_F : Nat → Int32) (g_C : Nat → Int32) (g_M : Nat → Int32) (x1 : Int32) (x2 : Int32) : (Nat → Int32) :=
  cf_X6_spread_i2_s21_2_1 fu k_2 m_o m_f g_F g_C g_M x1 x2
def vc_X6_spread_i2_s94_2_0 (fu : Nat) (v_2 : Int32 → Int32 → (Nat → Int32) → (Nat → Int32) → (Nat → Int32) → Int32 → Int32 → Prop) (m_o : Int32) (m_f : Int32) (g_F : Nat → Int32) (g_C : Nat → Int32) (g_M : Nat → Int32) (x1 : Int32) (x2 : Int32) : Prop :=
  vc_X6_spread_i2_s21_2_1 fu v_2 m_o m_f g_F g_C g_M x1 x2
def cf_X6_spread_i2_s84_2_0 (fu : Nat) (k_2 : Int32 → Int32 → (Nat → Int32) → (Nat → Int32) → (Nat → Int32) → Int32 → Int32 → (Nat → Int32)) (m_o : Int32) (m_f : Int32) (g_F : Nat → Int32) (g_C : Nat → Int32) (g_M : Nat → Int32) (x1 : Int32) (x5 : Int32) : (Nat → Int32) :=
  cf_X6_spread_i2_s94_2_0 fu k_2 m_o m_f g_F g_C (upd g_M (x5).toNatClampNeg (vp_nar .boolean (1 : Int32))) x1 (1 : Int32)
def vc_X6_spread_i2_s84_2_0 (fu : Nat) (v_2 : Int32 → Int32 → (Nat → Int32) → (Nat → Int32) → (Nat → Int32) → Int32 → Int32 → Prop) (m_o : Int32) (m_f : Int32) (g_F : Nat → Int32) (g_C : Nat → Int32) (g_M : Nat → Int32) (x1 : Int32) (x5 : Int32) : Prop :=
  (vp_in x5 4 ∧ vc_X6_spread_i2_s94_2_0 fu v_2 m_o m_f g_F g_C (upd g_M (x5).toNatClampNeg (vp_nar .boolean (1 : Int32))) x1 (1 : Int32))
def cf_X6_spread_i2_s21_2_0 (fu : Nat) (k_2 : Int32 → Int32 → (Nat → Int32) → (Nat → Int32) → (Nat → Int32) → Int32 → Int32 → (Nat → Int32)) (m_o : Int32) (m_f : Int32) (g_F : Nat → Int32) (g_C : Nat → Int32) (g_M : Nat → Int32) (x1 : Int32) (x2 : Int32) : (Nat → Int32) :=
  (if m_f ≤ (0 : Int32) then cf_X6_spread_i2_s100_2 fu k_2 m_o m_f g_F g_C g_M x1 x2 else (if (g_M ((2 : Int32)).toNatClampNeg) = 0 then cf_X6_spread_i2_s100_2 fu k_2 m_o m_f g_F g_C g_M x1 x2 else (if (g_F ((4 : Int32)).toNatClampNeg) < 0 then cf_X6_spread_i2_s94_2_0 fu k_2 m_o m_f g_F g_C g_M x1 x2 else (if (g_M ((g_F ((4 : Int32)).toNatClampNeg)).toNatClampNeg) = 0 then (if x1 = 0 then cf_X6_spread_i2_s84_2_0 fu k_2 m_o m_f g_F g_C g_M x1 (g_F ((4 : Int32)).toNatClampNeg) else (if (g_C ((g_F ((4 : Int32)).toNatClampNeg)).toNatClampNeg) = 0 then cf_X6_spread_i2_s84_2_0 fu k_2 m_o m_f g_F g_C g_M x1 (g_F ((4 : Int32)).toNatClampNeg) else cf_X6_spread_i2_s94_2_0 fu k_2 m_o m_f g_F g_C g_M x1 x2)) else cf_X6_spread_i2_s94_2_0 fu k_2 m_o m_f g_F g_C g_M x1 x2))))
def vc_X6_spread_i2_s21_2_0 (fu : Nat) (v_2 : Int32 → Int32 → (Nat → Int32) → (Nat → Int32) → (Nat → Int32) → Int32 → Int32 → Prop) (m_o : Int32) (m_f : Int32) (g_F : Nat → Int32) (g_C : Nat → Int32) (g_M : Nat → Int32) (x1 : Int32) (x2 : Int32) : Prop :=
  ((m_f ≤ (0 : Int32) → vc_X6_spread_i2_s100_2 fu v_2 m_o m_f g_F g_C g_M x1 x2) ∧ (¬ m_f ≤ (0 : Int32) → (((g_M ((2 : Int32)).toNatClampNeg) = 0 → vc_X6_spread_i2_s100_2 fu v_2 m_o m_f g_F g_C g_M x1 x2) ∧ (¬ (g_M ((2 : Int32)).toNatClampNeg) = 0 → (((g_F ((4 : Int32)).toNatClampNeg) < 0 → vc_X6_spread_i2_s94_2_0 fu v_2 m_o m_f g_F g_C g_M x1 x2) ∧ (¬ (g_F ((4 : Int32)).toNatClampNeg) < 0 → (vp_in (g_F ((4 : Int32)).toNatClampNeg) 4 ∧ (((g_M ((g_F ((4 : Int32)).toNatClampNeg)).toNatClampNeg) = 0 → ((x1 = 0 → vc_X6_spread_i2_s84_2_0 fu v_2 m_o m_f g_F g_C g_M x1 (g_F ((4 : Int32)).toNatClampNeg)) ∧ (¬ x1 = 0 → (vp_in (g_F ((4 : Int32)).toNatClampNeg) 4 ∧ (((g_C ((g_F ((4 : Int32)).toNatClampNeg)).toNatClampNeg) = 0 → vc_X6_spread_i2_s84_2_0 fu v_2 m_o m_f g_F g_C g_M x1 (g_F ((4 : Int32)).toNatClampNeg)) ∧ (¬ (g_C ((g_F ((4 : Int32)).toNatClampNeg)).toNatClampNeg) = 0 → vc_X6_spread_i2_s94_2_0 fu v_2 m_o m_f g_F g_C g_M x1 x2)))))) ∧ (¬ (g_M ((g_F ((4 : Int32)).toNatClampNeg)).toNatClampNeg) = 0 → vc_X6_spread_i2_s94_2_0 fu v_2 m_o m_f g_F g_C g_M x1 x2)))))))))
def cf_X6_spread_i2_s10_2 (fu : Nat) (k_2 : Int32 → Int32 → (Nat → Int32) → (Nat → Int32) → (Nat → Int32) → Int32 → Int32 → (Nat → Int32)) (m_o : Int32) (m_f : Int32) (g_F : Nat → Int32) (g_C : Nat → Int32) (g_M : Nat → Int32) (x1 : Int32) (x2 : Int32) : (Nat → Int32) :=
  (if m_o ≤ (2 : Int32) then k_2 m_o m_f g_F g_C g_M x1 x2 else cf_X6_spread_i2_s21_2_0 fu k_2 m_o m_f g_F g_C g_M x1 x2)
def vc_X6_spread_i2_s10_2 (fu : Nat) (v_2 : Int32 → Int32 → (Nat → Int32) → (Nat → Int32) → (Nat → Int32) → Int32 → Int32 → Prop) (m_o : Int32) (m_f : Int32) (g_F : Nat → Int32) (g_C : Nat → Int32) (g_M : Nat → Int32) (x1 : Int32) (x2 : Int32) : Prop :=
  ((m_o ≤ (2 : Int32) → v_2 m_o m_f g_F g_C g_M x1 x2) ∧ (¬ m_o ≤ (2 : Int32) → vc_X6_spread_i2_s21_2_0 fu v_2 m_o m_f g_F g_C g_M x1 x2))
def cf_X6_spread_i2_s100_1 (fu : Nat) (k_2 : Int32 → Int32 → (Nat → Int32) → (Nat → Int32) → (Nat → Int32) → Int32 → Int32 → (Nat → Int32)) (m_o : Int32) (m_f : Int32) (g_F : Nat → Int32) (g_C : Nat → Int32) (g_M : Nat → Int32) (x1 : Int32) (x2 : Int32) : (Nat → Int32) :=
  cf_X6_spread_i2_s10_2 fu k_2 m_o m_f g_F g_C g_M x1 x2
def vc_X6_spread_i2_s100_1 (fu : Nat) (v_2 : Int32 → Int32 → (Nat → Int32) → (Nat → Int32) → (Nat → Int32) → Int32 → Int32 → Prop) (m_o : Int32) (m_f : Int32) (g_F : Nat → Int32) (g_C : Nat → Int32) (g_M : Nat → Int32) (x1 : Int32) (x2 : Int32) : Prop :=
  vc_X6_spread_i2_s10_2 fu v_2 m_o m_f g_F g_C g_M x1 x2
def cf_X6_spread_i2_s21_1_2 (fu : Nat) (k_2 : Int32 → Int32 → (Nat → Int32) → (Nat → Int32) → (Nat → Int32) → Int32 → Int32 → (Nat → Int32)) (m_o : Int32) (m_f : Int32) (g_F : Nat → Int32) (g_C : Nat → Int32) (g_M : Nat → Int32) (x1 : Int32) (x2 : Int32) : (Nat → Int32) :=
  cf_X6_spread_i2_s100_1 fu k_2 m_o m_f g_F g_C g_M x1 x2
def vc_X6_spread_i2_s21_1_2 (fu : Nat) (v_2 : Int32 → Int32 → (Nat → Int32) → (Nat → Int32) → (Nat → Int32) → Int32 → Int32 → Prop) (m_o : Int32) (m_f : Int32) (g_F : Nat → Int32) (g_C : Nat → Int32) (g_M : Nat → Int32) (x1 : Int32) (x2 : Int32) : Prop :=
  vc_X6_spread_i2_s100_1 fu v_2 m_o m_f g_F g_C g_M x1 x2
def cf_X6_spread_i2_s94_1_1 (fu : Nat) (k_2 : Int32 → Int32 → (Nat → Int32) → (Nat → Int32) → (Nat → Int32) → Int32 → Int32 → (Nat → Int32)) (m_o : Int32) (m_f : Int32) (g_F : Nat → Int32) (g_C : Nat → Int32) (g_M : Nat → Int32) (x1 : Int32) (x2 : Int32) : (Nat → Int32) :=
  cf_X6_spread_i2_s21_1_2 fu k_2 m_o m_f g_F g_C g_M x1 x2
def vc_X6_spread_i2_s94_1_1 (fu : Nat) (v_2 : Int32 → Int32 → (Nat → Int32) → (Nat → Int32) → (Nat → Int32) → Int32 → Int32 → Prop) (m_o : Int32) (m_f : Int32) (g_F : Nat → Int32) (g_C : Nat → Int32) (g_M : Nat → Int32) (x1 : Int32) (x2 : Int32) : Prop :=
  vc_X6_spread_i2_s21_1_2 fu v_2 m_o m_f g_F g_C g_M x1 x2
def cf_X6_spread_i2_s84_1_1 (fu : Nat) (k_2 : Int32 → Int32 → (Nat → Int32) → (Nat → Int32) → (Nat → Int32) → Int32 → Int32 → (Nat → Int32)) (m_o : Int32) (m_f : Int32) (g_F : Nat → Int32) (g_C : Nat → Int32) (g_M : Nat → Int32) (x1 : Int32) (x5 : Int32) : (Nat → Int32) :=
  cf_X6_spread_i2_s94_1_1 fu k_2 m_o m_f g_F g_C (upd g_M (x5).toNatClampNeg (vp_nar .boolean (1 : Int32))) x1 (1 : Int32)
def vc_X6_spread_i2_s84_1_1 (fu : Nat) (v_2 : Int32 → Int32 → (Nat → Int32) → (Nat → Int32) → (Nat → Int32) → Int32 → Int32 → Prop) (m_o : Int32) (m_f : Int32) (g_F : Nat → Int32) (g_C : Nat → Int32) (g_M : Nat → Int32) (x1 : Int32) (x5 : Int32) : Prop :=
  (vp_in x5 4 ∧ vc_X6_spread_i2_s94_1_1 fu v_2 m_o m_f g_F g_C (upd g_M (x5).toNatClampNeg (vp_nar .boolean (1 : Int32))) x1 (1 : Int32))
def cf_X6_spread_i2_s21_1_1 (fu : Nat) (k_2 : Int32 → Int32 → (Nat → Int32) → (Nat → Int32) → (Nat → Int32) → Int32 → Int32 → (Nat → Int32)) (m_o : Int32) (m_f : Int32) (g_F : Nat → Int32) (g_C : Nat → Int32) (g_M : Nat → Int32) (x1 : Int32) (x2 : Int32) : (Nat → Int32) :=
  (if m_f ≤ (1 : Int32) then cf_X6_spread_i2_s100_1 fu k_2 m_o m_f g_F g_C g_M x1 x2 else (if (g_M ((1 : Int32)).toNatClampNeg) = 0 then cf_X6_spread_i2_s100_1 fu k_2 m_o m_f g_F g_C g_M x1 x2 else (if (g_F ((3 : Int32)).toNatClampNeg) < 0 then cf_X6_spread_i2_s94_1_1 fu k_2 m_o m_f g_F g_C g_M x1 x2 else (if (g_M ((g_F ((3 : Int32)).toNatClampNeg)).toNatClampNeg) = 0 then (if x1 = 0 then cf_X6_spread_i2_s84_1_1 fu k_2 m_o m_f g_F g_C g_M x1 (g_F ((3 : Int32)).toNatClampNeg) else (if (g_C ((g_F ((3 : Int32)).toNatClampNeg)).toNatClampNeg) = 0 then cf_X6_spread_i2_s84_1_1 fu k_2 m_o m_f g_F g_C g_M x1 (g_F ((3 : Int32)).toNatClampNeg) else cf_X6_spread_i2_s94_1_1 fu k_2 m_o m_f g_F g_C g_M x1 x2)) else cf_X6_spread_i2_s94_1_1 fu k_2 m_o m_f g_F g_C g_M x1 x2))))
def vc_X6_spread_i2_s21_1_1 (fu : Nat) (v_2 : Int32 → Int32 → (Nat → Int32) → (Nat → Int32) → (Nat → Int32) → Int32 → Int32 → Prop) (m_o : Int32) (m_f : Int32) (g_F : Nat → Int32) (g_C : Nat → Int32) (g_M : Nat → Int32) (x1 : Int32) (x2 : Int32) : Prop :=
  ((m_f ≤ (1 : Int32) → vc_X6_spread_i2_s100_1 fu v_2 m_o m_f g_F g_C g_M x1 x2) ∧ (¬ m_f ≤ (1 : Int32) → (((g_M ((1 : Int32)).toNatClampNeg) = 0 → vc_X6_spread_i2_s100_1 fu v_2 m_o m_f g_F g_C g_M x1 x2) ∧ (¬ (g_M ((1 : Int32)).toNatClampNeg) = 0 → (((g_F ((3 : Int32)).toNatClampNeg) < 0 → vc_X6_spread_i2_s94_1_1 fu v_2 m_o m_f g_F g_C g_M x1 x2) ∧ (¬ (g_F ((3 : Int32)).toNatClampNeg) < 0 → (vp_in (g_F ((3 : Int32)).toNatClampNeg) 4 ∧ (((g_M ((g_F ((3 : Int32)).toNatClampNeg)).toNatClampNeg) = 0 → ((x1 = 0 → vc_X6_spread_i2_s84_1_1 fu v_2 m_o m_f g_F g_C g_M x1 (g_F ((3 : Int32)).toNatClampNeg)) ∧ (¬ x1 = 0 → (vp_in (g_F ((3 : Int32)).toNatClampNeg) 4 ∧ (((g_C ((g_F ((3 : Int32)).toNatClampNeg)).toNatClampNeg) = 0 → vc_X6_spread_i2_s84_1_1 fu v_2 m_o m_f g_F g_C g_M x1 (g_F ((3 : Int32)).toNatClampNeg)) ∧ (¬ (g_C ((g_F ((3 : Int32)).toNatClampNeg)).toNatClampNeg) = 0 → vc_X6_spread_i2_s94_1_1 fu v_2 m_o m_f g_F g_C g_M x1 x2)))))) ∧ (¬ (g_M ((g_F ((3 : Int32)).toNatClampNeg)).toNatClampNeg) = 0 → vc_X6_spread_i2_s94_1_1 fu v_2 m_o m_f g_F g_C g_M x1 x2)))))))))
def cf_X6_spread_i2_s94_1_0 (fu : Nat) (k_2 : Int32 → Int32 → (Nat → Int32) → (Nat → Int32) → (Nat → Int32) → Int32 → Int32 → (Nat → Int32)) (m_o : Int32) (m_f : Int32) (g_F : Nat → Int32) (g_C : Nat → Int32) (g_M : Nat → Int32) (x1 : Int32) (x2 : Int32) : (Nat → Int32) :=
  cf_X6_spread_i2_s21_1_1 fu k_2 m_o m_f g_F g_C g_M x1 x2
def vc_X6_spread_i2_s94_1_0 (fu : Nat) (v_2 : Int32 → Int32 → (Nat → Int32) → (Nat → Int32) → (Nat → Int32) → Int32 → Int32 → Prop) (m_o : Int32) (m_f : Int32) (g_F : Nat → Int32) (g_C : Nat → Int32) (g_M : Nat → Int32) (x1 : Int32) (x2 : Int32) : Prop :=
  vc_X6_spread_i2_s21_1_1 fu v_2 m_o m_f g_F g_C g_M x1 x2
def cf_X6_spread_i2_s84_1_0 (fu : Nat) (k_2 : Int32 → Int32 → (Nat → Int32) → (Nat → Int32) → (Nat → Int32) → Int32 → Int32 → (Nat → Int32)) (m_o : Int32) (m_f : Int32) (g_F : Nat → Int32) (g_C : Nat → Int32) (g_M : Nat → Int32) (x1 : Int32) (x5 : Int32) : (Nat → Int32) :=
  cf_X6_spread_i2_s94_1_0 fu k_2 m_o m_f g_F g_C (upd g_M (x5).toNatClampNeg (vp_nar .boolean (1 : Int32))) x1 (1 : Int32)
def vc_X6_spread_i2_s84_1_0 (fu : Nat) (v_2 : Int32 → Int32 → (Nat → Int32) → (Nat → Int32) → (Nat → Int32) → Int32 → Int32 → Prop) (m_o : Int32) (m_f : Int32) (g_F : Nat → Int32) (g_C : Nat → Int32) (g_M : Nat → Int32) (x1 : Int32) (x5 : Int32) : Prop :=
  (vp_in x5 4 ∧ vc_X6_spread_i2_s94_1_0 fu v_2 m_o m_f g_F g_C (upd g_M (x5).toNatClampNeg (vp_nar .boolean (1 : Int32))) x1 (1 : Int32))
def cf_X6_spread_i2_s21_1_0 (fu : Nat) (k_2 : Int32 → Int32 → (Nat → Int32) → (Nat → Int32) → (Nat → Int32) → Int32 → Int32 → (Nat → Int32)) (m_o : Int32) (m_f : Int32) (g_F : Nat → Int32) (g_C : Nat → Int32) (g_M : Nat → Int32) (x1 : Int32) (x2 : Int32) : (Nat → Int32) :=
  (if m_f ≤ (0 : Int32) then cf_X6_spread_i2_s100_1 fu k_2 m_o m_f g_F g_C g_M x1 x2 else (if (g_M ((1 : Int32)).toNatClampNeg) = 0 then cf_X6_spread_i2_s100_1 fu k_2 m_o m_f g_F g_C g_M x1 x2 else (if (g_F ((2 : Int32)).toNatClampNeg) < 0 then cf_X6_spread_i2_s94_1_0 fu k_2 m_o m_f g_F g_C g_M x1 x2 else (if (g_M ((g_F ((2 : Int32)).toNatClampNeg)).toNatClampNeg) = 0 then (if x1 = 0 then cf_X6_spread_i2_s84_1_0 fu k_2 m_o m_f g_F g_C g_M x1 (g_F ((2 : Int32)).toNatClampNeg) else (if (g_C ((g_F ((2 : Int32)).toNatClampNeg)).toNatClampNeg) = 0 then cf_X6_spread_i2_s84_1_0 fu k_2 m_o m_f g_F g_C g_M x1 (g_F ((2 : Int32)).toNatClampNeg) else cf_X6_spread_i2_s94_1_0 fu k_2 m_o m_f g_F g_C g_M x1 x2)) else cf_X6_spread_i2_s94_1_0 fu k_2 m_o m_f g_F g_C g_M x1 x2))))
def vc_X6_spread_i2_s21_1_0 (fu : Nat) (v_2 : Int32 → Int32 → (Nat → Int32) → (Nat → Int32) → (Nat → Int32) → Int32 → Int32 → Prop) (m_o : Int32) (m_f : Int32) (g_F : Nat → Int32) (g_C : Nat → Int32) (g_M : Nat → Int32) (x1 : Int32) (x2 : Int32) : Prop :=
  ((m_f ≤ (0 : Int32) → vc_X6_spread_i2_s100_1 fu v_2 m_o m_f g_F g_C g_M x1 x2) ∧ (¬ m_f ≤ (0 : Int32) → (((g_M ((1 : Int32)).toNatClampNeg) = 0 → vc_X6_spread_i2_s100_1 fu v_2 m_o m_f g_F g_C g_M x1 x2) ∧ (¬ (g_M ((1 : Int32)).toNatClampNeg) = 0 → (((g_F ((2 : Int32)).toNatClampNeg) < 0 → vc_X6_spread_i2_s94_1_0 fu v_2 m_o m_f g_F g_C g_M x1 x2) ∧ (¬ (g_F ((2 : Int32)).toNatClampNeg) < 0 → (vp_in (g_F ((2 : Int32)).toNatClampNeg) 4 ∧ (((g_M ((g_F ((2 : Int32)).toNatClampNeg)).toNatClampNeg) = 0 → ((x1 = 0 → vc_X6_spread_i2_s84_1_0 fu v_2 m_o m_f g_F g_C g_M x1 (g_F ((2 : Int32)).toNatClampNeg)) ∧ (¬ x1 = 0 → (vp_in (g_F ((2 : Int32)).toNatClampNeg) 4 ∧ (((g_C ((g_F ((2 : Int32)).toNatClampNeg)).toNatClampNeg) = 0 → vc_X6_spread_i2_s84_1_0 fu v_2 m_o m_f g_F g_C g_M x1 (g_F ((2 : Int32)).toNatClampNeg)) ∧ (¬ (g_C ((g_F ((2 : Int32)).toNatClampNeg)).toNatClampNeg) = 0 → vc_X6_spread_i2_s94_1_0 fu v_2 m_o m_f g_F g_C g_M x1 x2)))))) ∧ (¬ (g_M ((g_F ((2 : Int32)).toNatClampNeg)).toNatClampNeg) = 0 → vc_X6_spread_i2_s94_1_0 fu v_2 m_o m_f g_F g_C g_M x1 x2)))))))))
def cf_X6_spread_i2_s10_1 (fu : Nat) (k_2 : Int32 → Int32 → (Nat → Int32) → (Nat → Int32) → (Nat → Int32) → Int32 → Int32 → (Nat → Int32)) (m_o : Int32) (m_f : Int32) (g_F : Nat → Int32) (g_C : Nat → Int32) (g_M : Nat → Int32) (x1 : Int32) (x2 : Int32) : (Nat → Int32) :=
  (if m_o ≤ (1 : Int32) then k_2 m_o m_f g_F g_C g_M x1 x2 else cf_X6_spread_i2_s21_1_0 fu k_2 m_o m_f g_F g_C g_M x1 x2)
def vc_X6_spread_i2_s10_1 (fu : Nat) (v_2 : Int32 → Int32 → (Nat → Int32) → (Nat → Int32) → (Nat → Int32) → Int32 → Int32 → Prop) (m_o : Int32) (m_f : Int32) (g_F : Nat → Int32) (g_C : Nat → Int32) (g_M : Nat → Int32) (x1 : Int32) (x2 : Int32) : Prop :=
  ((m_o ≤ (1 : Int32) → v_2 m_o m_f g_F g_C g_M x1 x2) ∧ (¬ m_o ≤ (1 : Int32) → vc_X6_spread_i2_s21_1_0 fu v_2 m_o m_f g_F g_C g_M x1 x2))
def cf_X6_spread_i2_s100_0 (fu : Nat) (k_2 : Int32 → Int32 → (Nat → Int32) → (Nat → Int32) → (Nat → Int32) → Int32 → Int32 → (Nat → Int32)) (m_o : Int32) (m_f : Int32) (g_F : Nat → Int32) (g_C : Nat → Int32) (g_M : Nat → Int32) (x1 : Int32) (x2 : Int32) : (Nat → Int32) :=
  cf_X6_spread_i2_s10_1 fu k_2 m_o m_f g_F g_C g_M x1 x2
def vc_X6_spread_i2_s100_0 (fu : Nat) (v_2 : Int32 → Int32 → (Nat → Int32) → (Nat → Int32) → (Nat → Int32) → Int32 → Int32 → Prop) (m_o : Int32) (m_f : Int32) (g_F : Nat → Int32) (g_C : Nat → Int32) (g_M : Nat → Int32) (x1 : Int32) (x2 : Int32) : Prop :=
  vc_X6_spread_i2_s10_1 fu v_2 m_o m_f g_F g_C g_M x1 x2
def cf_X6_spread_i2_s21_0_2 (fu : Nat) (k_2 : Int32 → Int32 → (Nat → Int32) → (Nat → Int32) → (Nat → Int32) → Int32 → Int32 → (Nat → Int32)) (m_o : Int32) (m_f : Int32) (g_F : Nat → Int32) (g_C : Nat → Int32) (g_M : Nat → Int32) (x1 : Int32) (x2 : Int32) : (Nat → Int32) :=
  cf_X6_spread_i2_s100_0 fu k_2 m_o m_f g_F g_C g_M x1 x2
def vc_X6_spread_i2_s21_0_2 (fu : Nat) (v_2 : Int32 → Int32 → (Nat → Int32) → (Nat → Int32) → (Nat → Int32) → Int32 → Int32 → Prop) (m_o : Int32) (m_f : Int32) (g_F : Nat → Int32) (g_C : Nat → Int32) (g_M : Nat → Int32) (x1 : Int32) (x2 : Int32) : Prop :=
  vc_X6_spread_i2_s100_0 fu v_2 m_o m_f g_F g_C g_M x1 x2
def cf_X6_spread_i2_s94_0_1 (fu : Nat) (k_2 : Int32 → Int32 → (Nat → Int32) → (Nat → Int32) → (Nat → Int32) → Int32 → Int32 → (Nat → Int32)) (m_o : Int32) (m_f : Int32) (g_F : Nat → Int32) (g_C : Nat → Int32) (g_M : Nat → Int32) (x1 : Int32) (x2 : Int32) : (Nat → Int32) :=
  cf_X6_spread_i2_s21_0_2 fu k_2 m_o m_f g_F g_C g_M x1 x2
def vc_X6_spread_i2_s94_0_1 (fu : Nat) (v_2 : Int32 → Int32 → (Nat → Int32) → (Nat → Int32) → (Nat → Int32) → Int32 → Int32 → Prop) (m_o : Int32) (m_f : Int32) (g_F : Nat → Int32) (g_C : Nat → Int32) (g_M : Nat → Int32) (x1 : Int32) (x2 : Int32) : Prop :=
  vc_X6_spread_i2_s21_0_2 fu v_2 m_o m_f g_F g_C g_M x1 x2
def cf_X6_spread_i2_s84_0_1 (fu : Nat) (k_2 : Int32 → Int32 → (Nat → Int32) → (Nat → Int32) → (Nat → Int32) → Int32 → Int32 → (Nat → Int32)) (m_o : Int32) (m_f : Int32) (g_F : Nat → Int32) (g_C : Nat → Int32) (g_M : Nat → Int32) (x1 : Int32) (x5 : Int32) : (Nat → Int32) :=
  cf_X6_spread_i2_s94_0_1 fu k_2 m_o m_f g_F g_C (upd g_M (x5).toNatClampNeg (vp_nar .boolean (1 : Int32))) x1 (1 : Int32)
def vc_X6_spread_i2_s84_0_1 (fu : Nat) (v_2 : Int32 → Int32 → (Nat → Int32) → (Nat → Int32) → (Nat → Int32) → Int32 → Int32 → Prop) (m_o : Int32) (m_f : Int32) (g_F : Nat → Int32) (g_C : Nat → Int32) (g_M : Nat → Int32) (x1 : Int32) (x5 : Int32) : Prop :=
  (vp_in x5 4 ∧ vc_X6_spread_i2_s94_0_1 fu v_2 m_o m_f g_F g_C (upd g_M (x5).toNatClampNeg (vp_nar .boolean (1 : Int32))) x1 (1 : Int32))
def cf_X6_spread_i2_s21_0_1 (fu : Nat) (k_2 : Int32 → Int32 → (Nat → Int32) → (Nat → Int32) → (Nat → Int32) → Int32 → Int32 → (Nat → Int32)) (m_o : Int32) (m_f : Int32) (g_F : Nat → Int32) (g_C : Nat → Int32) (g_M : Nat → Int32) (x1 : Int32) (x2 : Int32) : (Nat → Int32) :=
  (if m_f ≤ (1 : Int32) then cf_X6_spread_i2_s100_0 fu k_2 m_o m_f g_F g_C g_M x1 x2 else (if (g_M ((0 : Int32)).toNatClampNeg) = 0 then cf_X6_spread_i2_s100_0 fu k_2 m_o m_f g_F g_C g_M x1 x2 else (if (g_F ((1 : Int32)).toNatClampNeg) < 0 then cf_X6_spread_i2_s94_0_1 fu k_2 m_o m_f g_F g_C g_M x1 x2 else (if (g_M ((g_F ((1 : Int32)).toNatClampNeg)).toNatClampNeg) = 0 then (if x1 = 0 then cf_X6_spread_i2_s84_0_1 fu k_2 m_o m_f g_F g_C g_M x1 (g_F ((1 : Int32)).toNatClampNeg) else (if (g_C ((g_F ((1 : Int32)).toNatClampNeg)).toNatClampNeg) = 0 then cf_X6_spread_i2_s84_0_1 fu k_2 m_o m_f g_F g_C g_M x1 (g_F ((1 : Int32)).toNatClampNeg) else cf_X6_spread_i2_s94_0_1 fu k_2 m_o m_f g_F g_C g_M x1 x2)) else cf_X6_spread_i2_s94_0_1 fu k_2 m_o m_f g_F g_C g_M x1 x2))))
def vc_X6_spread_i2_s21_0_1 (fu : Nat) (v_2 : Int32 → Int32 → (Nat → Int32) → (Nat → Int32) → (Nat → Int32) → Int32 → Int32 → Prop) (m_o : Int32) (m_f : Int32) (g_F : Nat → Int32) (g_C : Nat → Int32) (g_M : Nat → Int32) (x1 : Int32) (x2 : Int32) : Prop :=
  ((m_f ≤ (1 : Int32) → vc_X6_spread_i2_s100_0 fu v_2 m_o m_f g_F g_C g_M x1 x2) ∧ (¬ m_f ≤ (1 : Int32) → (((g_M ((0 : Int32)).toNatClampNeg) = 0 → vc_X6_spread_i2_s100_0 fu v_2 m_o m_f g_F g_C g_M x1 x2) ∧ (¬ (g_M ((0 : Int32)).toNatClampNeg) = 0 → (((g_F ((1 : Int32)).toNatClampNeg) < 0 → vc_X6_spread_i2_s94_0_1 fu v_2 m_o m_f g_F g_C g_M x1 x2) ∧ (¬ (g_F ((1 : Int32)).toNatClampNeg) < 0 → (vp_in (g_F ((1 : Int32)).toNatClampNeg) 4 ∧ (((g_M ((g_F ((1 : Int32)).toNatClampNeg)).toNatClampNeg) = 0 → ((x1 = 0 → vc_X6_spread_i2_s84_0_1 fu v_2 m_o m_f g_F g_C g_M x1 (g_F ((1 : Int32)).toNatClampNeg)) ∧ (¬ x1 = 0 → (vp_in (g_F ((1 : Int32)).toNatClampNeg) 4 ∧ (((g_C ((g_F ((1 : Int32)).toNatClampNeg)).toNatClampNeg) = 0 → vc_X6_spread_i2_s84_0_1 fu v_2 m_o m_f g_F g_C g_M x1 (g_F ((1 : Int32)).toNatClampNeg)) ∧ (¬ (g_C ((g_F ((1 : Int32)).toNatClampNeg)).toNatClampNeg) = 0 → vc_X6_spread_i2_s94_0_1 fu v_2 m_o m_f g_F g_C g_M x1 x2)))))) ∧ (¬ (g_M ((g_F ((1 : Int32)).toNatClampNeg)).toNatClampNeg) = 0 → vc_X6_spread_i2_s94_0_1 fu v_2 m_o m_f g_F g_C g_M x1 x2)))))))))
def cf_X6_spread_i2_s94_0_0 (fu : Nat) (k_2 : Int32 → Int32 → (Nat → Int32) → (Nat → Int32) → (Nat → Int32) → Int32 → Int32 → (Nat → Int32)) (m_o : Int32) (m_f : Int32) (g_F : Nat → Int32) (g_C : Nat → Int32) (g_M : Nat → Int32) (x1 : Int32) (x2 : Int32) : (Nat → Int32) :=
  cf_X6_spread_i2_s21_0_1 fu k_2 m_o m_f g_F g_C g_M x1 x2
def vc_X6_spread_i2_s94_0_0 (fu : Nat) (v_2 : Int32 → Int32 → (Nat → Int32) → (Nat → Int32) → (Nat → Int32) → Int32 → Int32 → Prop) (m_o : Int32) (m_f : Int32) (g_F : Nat → Int32) (g_C : Nat → Int32) (g_M : Nat → Int32) (x1 : Int32) (x2 : Int32) : Prop :=
  vc_X6_spread_i2_s21_0_1 fu v_2 m_o m_f g_F g_C g_M x1 x2
def cf_X6_spread_i2_s84_0_0 (fu : Nat) (k_2 : Int32 → Int32 → (Nat → Int32) → (Nat → Int32) → (Nat → Int32) → Int32 → Int32 → (Nat → Int32)) (m_o : Int32) (m_f : Int32) (g_F : Nat → Int32) (g_C : Nat → Int32) (g_M : Nat → Int32) (x1 : Int32) (x5 : Int32) : (Nat → Int32) :=
  cf_X6_spread_i2_s94_0_0 fu k_2 m_o m_f g_F g_C (upd g_M (x5).toNatClampNeg (vp_nar .boolean (1 : Int32))) x1 (1 : Int32)
def vc_X6_spread_i2_s84_0_0 (fu : Nat) (v_2 : Int32 → Int32 → (Nat → Int32) → (Nat → Int32) → (Nat → Int32) → Int32 → Int32 → Prop) (m_o : Int32) (m_f : Int32) (g_F : Nat → Int32) (g_C : Nat → Int32) (g_M : Nat → Int32) (x1 : Int32) (x5 : Int32) : Prop :=
  (vp_in x5 4 ∧ vc_X6_spread_i2_s94_0_0 fu v_2 m_o m_f g_F g_C (upd g_M (x5).toNatClampNeg (vp_nar .boolean (1 : Int32))) x1 (1 : Int32))
def cf_X6_spread_i2_s21_0_0 (fu : Nat) (k_2 : Int32 → Int32 → (Nat → Int32) → (Nat → Int32) → (Nat → Int32) → Int32 → Int32 → (Nat → Int32)) (m_o : Int32) (m_f : Int32) (g_F : Nat → Int32) (g_C : Nat → Int32) (g_M : Nat → Int32) (x1 : Int32) (x2 : Int32) : (Nat → Int32) :=
  (if m_f ≤ (0 : Int32) then cf_X6_spread_i2_s100_0 fu k_2 m_o m_f g_F g_C g_M x1 x2 else (if (g_M ((0 : Int32)).toNatClampNeg) = 0 then cf_X6_spread_i2_s100_0 fu k_2 m_o m_f g_F g_C g_M x1 x2 else (if (g_F ((0 : Int32)).toNatClampNeg) < 0 then cf_X6_spread_i2_s94_0_0 fu k_2 m_o m_f g_F g_C g_M x1 x2 else (if (g_M ((g_F ((0 : Int32)).toNatClampNeg)).toNatClampNeg) = 0 then (if x1 = 0 then cf_X6_spread_i2_s84_0_0 fu k_2 m_o m_f g_F g_C g_M x1 (g_F ((0 : Int32)).toNatClampNeg) else (if (g_C ((g_F ((0 : Int32)).toNatClampNeg)).toNatClampNeg) = 0 then cf_X6_spread_i2_s84_0_0 fu k_2 m_o m_f g_F g_C g_M x1 (g_F ((0 : Int32)).toNatClampNeg) else cf_X6_spread_i2_s94_0_0 fu k_2 m_o m_f g_F g_C g_M x1 x2)) else cf_X6_spread_i2_s94_0_0 fu k_2 m_o m_f g_F g_C g_M x1 x2))))
def vc_X6_spread_i2_s21_0_0 (fu : Nat) (v_2 : Int32 → Int32 → (Nat → Int32) → (Nat → Int32) → (Nat → Int32) → Int32 → Int32 → Prop) (m_o : Int32) (m_f : Int32) (g_F : Nat → Int32) (g_C : Nat → Int32) (g_M : Nat → Int32) (x1 : Int32) (x2 : Int32) : Prop :=
  ((m_f ≤ (0 : Int32) → vc_X6_spread_i2_s100_0 fu v_2 m_o m_f g_F g_C g_M x1 x2) ∧ (¬ m_f ≤ (0 : Int32) → (((g_M ((0 : Int32)).toNatClampNeg) = 0 → vc_X6_spread_i2_s100_0 fu v_2 m_o m_f g_F g_C g_M x1 x2) ∧ (¬ (g_M ((0 : Int32)).toNatClampNeg) = 0 → (((g_F ((0 : Int32)).toNatClampNeg) < 0 → vc_X6_spread_i2_s94_0_0 fu v_2 m_o m_f g_F g_C g_M x1 x2) ∧ (¬ (g_F ((0 : Int32)).toNatClampNeg) < 0 → (vp_in (g_F ((0 : Int32)).toNatClampNeg) 4 ∧ (((g_M ((g_F ((0 : Int32)).toNatClampNeg)).toNatClampNeg) = 0 → ((x1 = 0 → vc_X6_spread_i2_s84_0_0 fu v_2 m_o m_f g_F g_C g_M x1 (g_F ((0 : Int32)).toNatClampNeg)) ∧ (¬ x1 = 0 → (vp_in (g_F ((0 : Int32)).toNatClampNeg) 4 ∧ (((g_C ((g_F ((0 : Int32)).toNatClampNeg)).toNatClampNeg) = 0 → vc_X6_spread_i2_s84_0_0 fu v_2 m_o m_f g_F g_C g_M x1 (g_F ((0 : Int32)).toNatClampNeg)) ∧ (¬ (g_C ((g_F ((0 : Int32)).toNatClampNeg)).toNatClampNeg) = 0 → vc_X6_spread_i2_s94_0_0 fu v_2 m_o m_f g_F g_C g_M x1 x2)))))) ∧ (¬ (g_M ((g_F ((0 : Int32)).toNatClampNeg)).toNatClampNeg) = 0 → vc_X6_spread_i2_s94_0_0 fu v_2 m_o m_f g_F g_C g_M x1 x2)))))))))
def cf_X6_spread_i2_s10_0 (fu : Nat) (k_2 : Int32 → Int32 → (Nat → Int32) → (Nat → Int32) → (Nat → Int32) → Int32 → Int32 → (Nat → Int32)) (m_o : Int32) (m_f : Int32) (g_F : Nat → Int32) (g_C : Nat → Int32) (g_M : Nat → Int32) (x1 : Int32) (x2 : Int32) : (Nat → Int32) :=
  (if m_o ≤ (0 : Int32) then k_2 m_o m_f g_F g_C g_M x1 x2 else cf_X6_spread_i2_s21_0_0 fu k_2 m_o m_f g_F g_C g_M x1 x2)
def vc_X6_spread_i2_s10_0 (fu : Nat) (v_2 : Int32 → Int32 → (Nat → Int32) → (Nat → Int32) → (Nat → Int32) → Int32 → Int32 → Prop) (m_o : Int32) (m_f : Int32) (g_F : Nat → Int32) (g_C : Nat → Int32) (g_M : Nat → Int32) (x1 : Int32) (x2 : Int32) : Prop :=
  ((m_o ≤ (0 : Int32) → v_2 m_o m_f g_F g_C g_M x1 x2) ∧ (¬ m_o ≤ (0 : Int32) → vc_X6_spread_i2_s21_0_0 fu v_2 m_o m_f g_F g_C g_M x1 x2))
def cf_X6_spread_L2 (fu : Nat)  : Nat → Int32 → Int32 → (Nat → Int32) → (Nat → Int32) → (Nat → Int32) → Int32 → Int32 → (Nat → Int32)
  | 0, _, _, _, _, g_M, _, _ => g_M
  | n + 1, m_o, m_f, g_F, g_C, g_M, x1, x2 => (if x2 = 0 then g_M else cf_X6_spread_i2_s10_0 fu (cf_X6_spread_L2 fu n) m_o m_f g_F g_C g_M x1 (0 : Int32))
def vc_X6_spread_L2 (fu : Nat)  : Nat → Int32 → Int32 → (Nat → Int32) → (Nat → Int32) → (Nat → Int32) → Int32 → Int32 → Prop
  | 0, _, _, _, _, _, _, _ => False
  | n + 1, m_o, m_f, g_F, g_C, g_M, x1, x2 => ((x2 = 0 → True) ∧ (¬ x2 = 0 → vc_X6_spread_i2_s10_0 fu (vc_X6_spread_L2 fu n) m_o m_f g_F g_C g_M x1 (0 : Int32)))
def cf_X6_spread (fu : Nat) (m_o : Int32) (m_f : Int32) (g_F : Nat → Int32) (g_C : Nat → Int32) (g_M : Nat → Int32) (a0 : Int32) : (Nat → Int32) :=
  cf_X6_spread_L2 fu  fu m_o m_f g_F g_C g_M a0 (1 : Int32)
def vc_X6_spread (fu : Nat) (m_o : Int32) (m_f : Int32) (g_F : Nat → Int32) (g_C : Nat → Int32) (g_M : Nat → Int32) (a0 : Int32) : Prop :=
  vc_X6_spread_L2 fu  fu m_o m_f g_F g_C g_M a0 (1 : Int32)
set_option maxHeartbeats 4000000 in
set_option maxRecDepth 100000 in
theorem c_X6_spread (l : Launch) (dC : Nat → ClassId) (dI : Nat → Nat → Nat) (q6 qA qB qF qR qC qL qS qO qY qH qW qM : Nat) (cyI cyJ cyZ : ClassId) (m_th : Int32) (m_o : Int32) (m_f : Int32) (m_r : Int32) (m_b : Int32) (m_a : Int32) (u_F : Nat → Int32) (u_R : Nat → Int32) (g_F : Nat → Int32) (g_R : Nat → Int32) (g_C : Nat → Int32) (g_L : Nat → Int32) (m_rl : Int32) (m_lf : Int32) (m_ov : Int32) (m_pl : Int64) (g_S : Nat → Int64) (g_O : Nat → Int32) (g_Y : Nat → Int32) (g_H : Nat → Int32) (m_st : Int32) (g_W : Nat → Int32) (m_rm : Int32) (m_fs : Int32) (g_M : Nat → Int32) (sz : Nat) (fu : Nat) (a0 : Int32) (hm_o : m_o ≤ 4) (hm_f : m_f ≤ 2) (hV : vc_X6_spread fu m_o m_f g_F g_C g_M a0) : Met l yX6_spread wsX6_spread ({ frames := 0, cells := 0, slots := 0, locals := 0 }) (mu_P [.ref q6, .int a0] sz (dC, dI) kcl (mo_W q6 qA qB qF qR qC qL qS qO qY qH qW qM cyI cyJ cyZ m_th m_o m_f m_r m_b m_a u_F u_R g_F g_R g_C g_L m_rl m_lf m_ov m_pl g_S g_O g_Y g_H m_st g_W m_rm m_fs g_M) [(cyI, .int), (cyJ, .long), (cyZ, .boolean)]) (mu_Q none (dC, dI) kcl (mo_W q6 qA qB qF qR qC qL qS qO qY qH qW qM cyI cyJ cyZ m_th m_o m_f m_r m_b m_a u_F u_R g_F g_R g_C g_L m_rl m_lf m_ov m_pl g_S g_O g_Y g_H m_st g_W m_rm m_fs (cf_X6_spread fu m_o m_f g_F g_C g_M a0)) (va_A (mo_W q6 qA qB qF qR qC qL qS qO qY qH qW qM cyI cyJ cyZ m_th m_o m_f m_r m_b m_a u_F u_R g_F g_R g_C g_L m_rl m_lf m_ov m_pl g_S g_O g_Y g_H m_st g_W m_rm m_fs g_M) sz)) 0 0 (va_A (mo_W q6 qA qB qF qR qC qL qS qO qY qH qW qM cyI cyJ cyZ m_th m_o m_f m_r m_b m_a u_F u_R g_F g_R g_C g_L m_rl m_lf m_ov m_pl g_S g_O g_Y g_H m_st g_W m_rm m_fs g_M) sz) := by
  refine Met.ofW (cc := cX6_spread) (maxL := 6) (ret := none) (by decide) rfl ?_
  intro p e s m args below meth c s₁ B hml hv
  obtain ⟨rfl, hsz, hP, hK, hD0⟩ := hv
  have hx := B.exec
  have hb := B.bytes
  have hr := B.returns
  have hts := atoms_spec (ws := wsX6_spread) B.pre
  have hown : s.vm.findClass RX6 = some m.cls := findClass_of_methodNamed B.named
  have hlocks := B.notSynchronized
  subst hsz
  have hD := hD0.self (sz := s.heap.size)
  generalize hAe : va_A (mo_W q6 qA qB qF qR qC qL qS qO qY qH qW qM cyI cyJ cyZ m_th m_o m_f m_r m_b m_a u_F u_R g_F g_R g_C g_L m_rl m_lf m_ov m_pl g_S g_O g_Y g_H m_st g_W m_rm m_fs g_M) s.heap.size = A at hD ⊢
  have hA : ∀ q : Nat, s.heap.size ≤ q → A q := fun q h => by rw [← hAe]; exact Or.inr h
  have hP : va_P (dC, dI) kcl (mo_W q6 qA qB qF qR qC qL qS qO qY qH qW qM cyI cyJ cyZ m_th m_o m_f m_r m_b m_a u_F u_R g_F g_R g_C g_L m_rl m_lf m_ov m_pl g_S g_O g_Y g_H m_st g_W m_rm m_fs g_M) s.heap := hP
  have h0_ : (Cond.fieldLink RX6 13 "ColourTrierModel" "objects" "I").before _ s = true := hts _ (by decide +kernel)
  have h1_ : ∀ w ∈ u_ws RX6 TX6 25, w ∈ wsX6_spread := fun w h => List.mem_cons_of_mem _ (List.mem_append_right _ h)
  have h2_ : (Cond.fieldLink RX6 16 "ColourTrierModel" "fields" "I").before _ s = true := hts _ (by decide +kernel)
  have h3_ : (Cond.fieldLink RX6 58 "ColourTrierModel" "mark" "[Z").before _ s = true := hts _ (by decide +kernel)
  have h4_ : (Cond.fieldLink RX6 29 "ColourTrierModel" "field" "[I").before _ s = true := hts _ (by decide +kernel)
  have h5_ : (Cond.fieldLink RX6 35 "ColourTrierModel" "colour" "[I").before _ s = true := hts _ (by decide +kernel)
  generalize hR : (cf_X6_spread fu m_o m_f g_F g_C g_M a0) = R
  have Ki2_s10_4 : ∀ (k_2 : Int32 → Int32 → (Nat → Int32) → (Nat → Int32) → (Nat → Int32) → Int32 → Int32 → (Nat → Int32)) (v_2 : Int32 → Int32 → (Nat → Int32) → (Nat → Int32) → (Nat → Int32) → Int32 → Int32 → Prop) (H_2 : ∀ (g_M : Nat → Int32) (x1 : Int32) (x2 : Int32) (H : Heap) (locs : List Loc) (ls : Array Slot), va_P (dC, dI) kcl (mo_W q6 qA qB qF qR qC qL qS qO qY qH qW qM cyI cyJ cyZ m_th m_o m_f m_r m_b m_a u_F u_R g_F g_R g_C g_L m_rl m_lf m_ov m_pl g_S g_O g_Y g_H m_st g_W m_rm m_fs g_M) H → va_D A (mo_W q6 qA qB qF qR qC qL qS qO qY qH qW qM cyI cyJ cyZ m_th m_o m_f m_r m_b m_a u_F u_R g_F g_R g_C g_L m_rl m_lf m_ov m_pl g_S g_O g_Y g_H m_st g_W m_rm m_fs g_M) → va_S A s.heap H locs → lv_has ls 6 [(0, .ref q6), (1, .int x1), (2, .int x2)] → v_2 m_o m_f g_F g_C g_M x1 x2 → k_2 m_o m_f g_F g_C g_M x1 x2 = R → W p l e (headSpec wsX6_spread ({ frames := 0, cells := 0, slots := 0, locals := 0 })).room s m ([.ref q6, .int a0] : List Value).toArray below meth c H locs 0 0 (MQ below (mu_Q none (dC, dI) kcl (mo_W q6 qA qB qF qR qC qL qS qO qY qH qW qM cyI cyJ cyZ m_th m_o m_f m_r m_b m_a u_F u_R g_F g_R g_C g_L m_rl m_lf m_ov m_pl g_S g_O g_Y g_H m_st g_W m_rm m_fs R) A) ([.ref q6, .int a0] : List Value).toArray s 0 0 A) (F0 m 2 ls [])) (g_M : Nat → Int32) (x1 : Int32) (x2 : Int32) (H : Heap) (locs : List Loc) (ls : Array Slot), va_P (dC, dI) kcl (mo_W q6 qA qB qF qR qC qL qS qO qY qH qW qM cyI cyJ cyZ m_th m_o m_f m_r m_b m_a u_F u_R g_F g_R g_C g_L m_rl m_lf m_ov m_pl g_S g_O g_Y g_H m_st g_W m_rm m_fs g_M) H → va_D A (mo_W q6 qA qB qF qR qC qL qS qO qY qH qW qM cyI cyJ cyZ m_th m_o m_f m_r m_b m_a u_F u_R g_F g_R g_C g_L m_rl m_lf m_ov m_pl g_S g_O g_Y g_H m_st g_W m_rm m_fs g_M) → va_S A s.heap H locs → lv_has ls 6 [(0, .ref q6), (1, .int x1), (2, .int x2), (3, .int (4 : Int32))] → vc_X6_spread_i2_s10_4 fu v_2 m_o m_f g_F g_C g_M x1 x2 → cf_X6_spread_i2_s10_4 fu k_2 m_o m_f g_F g_C g_M x1 x2 = R → W p l e (headSpec wsX6_spread ({ frames := 0, cells := 0, slots := 0, locals := 0 })).room s m ([.ref q6, .int a0] : List Value).toArray below meth c H locs 0 0 (MQ below (mu_Q none (dC, dI) kcl (mo_W q6 qA qB qF qR qC qL qS qO qY qH qW qM cyI cyJ cyZ m_th m_o m_f m_r m_b m_a u_F u_R g_F g_R g_C g_L m_rl m_lf m_ov m_pl g_S g_O g_Y g_H m_st g_W m_rm m_fs R) A) ([.ref q6, .int a0] : List Value).toArray s 0 0 A) (F0 m 10 ls []) := by
    intro k_2 v_2 H_2 g_M x1 x2 H locs ls hP hD hS hl hV hR
    unfold cf_X6_spread_i2_s10_4 at hR
    unfold vc_X6_spread_i2_s10_4 at hV
    refine lv_iload_n hx hb dX6_spread_10 rfl (lv_at hl 3 rfl) ?_
    refine lv_aload_n hx hb dX6_spread_11 rfl (lv_at hl 0 rfl) ?_
    refine va_get (D := (dC, dI)) (ci := 4) (v := .int m_o) (C := RX6) (T := TX6) (N := 25) hx hb hts h1_ hown hK hP 0 rfl rfl 1 (by decide) h0_ (fun _ h9 => h9) rfl dX6_spread_12 ?_
    refine lv_icmp_ge (tgt := 106) hx hb dX6_spread_15 (by decide) (fun _ => ?_) (fun c_0 => absurd hm_o c_0)
    refine lv_goto (tgt := 2) hx hb dX6_spread_106 (by decide) ?_
    exact H_2 g_M x1 x2 H locs ls hP hD hS (lv_sub hl [0, 1, 2] rfl) hV hR
  have Ki2_s100_3 : ∀ (k_2 : Int32 → Int32 → (Nat → Int32) → (Nat → Int32) → (Nat → Int32) → Int32 → Int32 → (Nat → Int32)) (v_2 : Int32 → Int32 → (Nat → Int32) → (Nat → Int32) → (Nat → Int32) → Int32 → Int32 → Prop) (H_2 : ∀ (g_M : Nat → Int32) (x1 : Int32) (x2 : Int32) (H : Heap) (locs : List Loc) (ls : Array Slot), va_P (dC, dI) kcl (mo_W q6 qA qB qF qR qC qL qS qO qY qH qW qM cyI cyJ cyZ m_th m_o m_f m_r m_b m_a u_F u_R g_F g_R g_C g_L m_rl m_lf m_ov m_pl g_S g_O g_Y g_H m_st g_W m_rm m_fs g_M) H → va_D A (mo_W q6 qA qB qF qR qC qL qS qO qY qH qW qM cyI cyJ cyZ m_th m_o m_f m_r m_b m_a u_F u_R g_F g_R g_C g_L m_rl m_lf m_ov m_pl g_S g_O g_Y g_H m_st g_W m_rm m_fs g_M) → va_S A s.heap H locs → lv_has ls 6 [(0, .ref q6), (1, .int x1), (2, .int x2)] → v_2 m_o m_f g_F g_C g_M x1 x2 → k_2 m_o m_f g_F g_C g_M x1 x2 = R → W p l e (headSpec wsX6_spread ({ frames := 0, cells := 0, slots := 0, locals := 0 })).room s m ([.ref q6, .int a0] : List Value).toArray below meth c H locs 0 0 (MQ below (mu_Q none (dC, dI) kcl (mo_W q6 qA qB qF qR qC qL qS qO qY qH qW qM cyI cyJ cyZ m_th m_o m_f m_r m_b m_a u_F u_R g_F g_R g_C g_L m_rl m_lf m_ov m_pl g_S g_O g_Y g_H m_st g_W m_rm m_fs R) A) ([.ref q6, .int a0] : List Value).toArray s 0 0 A) (F0 m 2 ls [])) (g_M : Nat → Int32) (x1 : Int32) (x2 : Int32) (H : Heap) (locs : List Loc) (ls : Array Slot), va_P (dC, dI) kcl (mo_W q6 qA qB qF qR qC qL qS qO qY qH qW qM cyI cyJ cyZ m_th m_o m_f m_r m_b m_a u_F u_R g_F g_R g_C g_L m_rl m_lf m_ov m_pl g_S g_O g_Y g_H m_st g_W m_rm m_fs g_M) H → va_D A (mo_W q6 qA qB qF qR qC qL qS qO qY qH qW qM cyI cyJ cyZ m_th m_o m_f m_r m_b m_a u_F u_R g_F g_R g_C g_L m_rl m_lf m_ov m_pl g_S g_O g_Y g_H m_st g_W m_rm m_fs g_M) → va_S A s.heap H locs → lv_has ls 6 [(0, .ref q6), (1, .int x1), (2, .int x2), (3, .int (3 : Int32))] → vc_X6_spread_i2_s100_3 fu v_2 m_o m_f g_F g_C g_M x1 x2 → cf_X6_spread_i2_s100_3 fu k_2 m_o m_f g_F g_C g_M x1 x2 = R → W p l e (headSpec wsX6_spread ({ frames := 0, cells := 0, slots := 0, locals := 0 })).room s m ([.ref q6, .int a0] : List Value).toArray below meth c H locs 0 0 (MQ below (mu_Q none (dC, dI) kcl (mo_W q6 qA qB qF qR qC qL qS qO qY qH qW qM cyI cyJ cyZ m_th m_o m_f m_r m_b m_a u_F u_R g_F g_R g_C g_L m_rl m_lf m_ov m_pl g_S g_O g_Y g_H m_st g_W m_rm m_fs R) A) ([.ref q6, .int a0] : List Value).toArray s 0 0 A) (F0 m 100 ls []) := by
    intro k_2 v_2 H_2 g_M x1 x2 H locs ls hP hD hS hl hV hR
    unfold cf_X6_spread_i2_s100_3 at hR
    unfold vc_X6_spread_i2_s100_3 at hV
    refine lv_iinc (v := (4 : Int32)) (lv' := [(3, .int (4 : Int32)), (0, .ref q6), (1, .int x1), (2, .int x2)]) hx hb dX6_spread_100 hl (k := 3) rfl (by decide +kernel) (by decide) rfl (fun ls hl => ?_)
    refine lv_goto (tgt := 10) hx hb dX6_spread_103 (by decide) ?_
    exact Ki2_s10_4 k_2 v_2 H_2 g_M x1 x2 H locs ls hP hD hS (lv_sub hl [1, 2, 3, 0] rfl) hV hR
  have Ki2_s21_3_2 : ∀ (k_2 : Int32 → Int32 → (Nat → Int32) → (Nat → Int32) → (Nat → Int32) → Int32 → Int32 → (Nat → Int32)) (v_2 : Int32 → Int32 → (Nat → Int32) → (Nat → Int32) → (Nat → Int32) → Int32 → Int32 → Prop) (H_2 : ∀ (g_M : Nat → Int32) (x1 : Int32) (x2 : Int32) (H : Heap) (locs : List Loc) (ls : Array Slot), va_P (dC, dI) kcl (mo_W q6 qA qB qF qR qC qL qS qO qY qH qW qM cyI cyJ cyZ m_th m_o m_f m_r m_b m_a u_F u_R g_F g_R g_C g_L m_rl m_lf m_ov m_pl g_S g_O g_Y g_H m_st g_W m_rm m_fs g_M) H → va_D A (mo_W q6 qA qB qF qR qC qL qS qO qY qH qW qM cyI cyJ cyZ m_th m_o m_f m_r m_b m_a u_F u_R g_F g_R g_C g_L m_rl m_lf m_ov m_pl g_S g_O g_Y g_H m_st g_W m_rm m_fs g_M) → va_S A s.heap H locs → lv_has ls 6 [(0, .ref q6), (1, .int x1), (2, .int x2)] → v_2 m_o m_f g_F g_C g_M x1 x2 → k_2 m_o m_f g_F g_C g_M x1 x2 = R → W p l e (headSpec wsX6_spread ({ frames := 0, cells := 0, slots := 0, locals := 0 })).room s m ([.ref q6, .int a0] : List Value).toArray below meth c H locs 0 0 (MQ below (mu_Q none (dC, dI) kcl (mo_W q6 qA qB qF qR qC qL qS qO qY qH qW qM cyI cyJ cyZ m_th m_o m_f m_r m_b m_a u_F u_R g_F g_R g_C g_L m_rl m_lf m_ov m_pl g_S g_O g_Y g_H m_st g_W m_rm m_fs R) A) ([.ref q6, .int a0] : List Value).toArray s 0 0 A) (F0 m 2 ls [])) (g_M : Nat → Int32) (x1 : Int32) (x2 : Int32) (H : Heap) (locs : List Loc) (ls : Array Slot), va_P (dC, dI) kcl (mo_W q6 qA qB qF qR qC qL qS qO qY qH qW qM cyI cyJ cyZ m_th m_o m_f m_r m_b m_a u_F u_R g_F g_R g_C g_L m_rl m_lf m_ov m_pl g_S g_O g_Y g_H m_st g_W m_rm m_fs g_M) H → va_D A (mo_W q6 qA qB qF qR qC qL qS qO qY qH qW qM cyI cyJ cyZ m_th m_o m_f m_r m_b m_a u_F u_R g_F g_R g_C g_L m_rl m_lf m_ov m_pl g_S g_O g_Y g_H m_st g_W m_rm m_fs g_M) → va_S A s.heap H locs → lv_has ls 6 [(0, .ref q6), (1, .int x1), (2, .int x2), (3, .int (3 : Int32)), (4, .int (2 : Int32))] → vc_X6_spread_i2_s21_3_2 fu v_2 m_o m_f g_F g_C g_M x1 x2 → cf_X6_spread_i2_s21_3_2 fu k_2 m_o m_f g_F g_C g_M x1 x2 = R → W p l e (headSpec wsX6_spread ({ frames := 0, cells := 0, slots := 0, locals := 0 })).room s m ([.ref q6, .int a0] : List Value).toArray below meth c H locs 0 0 (MQ below (mu_Q none (dC, dI) kcl (mo_W q6 qA qB qF qR qC qL qS qO qY qH qW qM cyI cyJ cyZ m_th m_o m_f m_r m_b m_a u_F u_R g_F g_R g_C g_L m_rl m_lf m_ov m_pl g_S g_O g_Y g_H m_st g_W m_rm m_fs R) A) ([.ref q6, .int a0] : List Value).toArray s 0 0 A) (F0 m 21 ls []) := by
    intro k_2 v_2 H_2 g_M x1 x2 H locs ls hP hD hS hl hV hR
    unfold cf_X6_spread_i2_s21_3_2 at hR
    unfold vc_X6_spread_i2_s21_3_2 at hV
    refine lv_iload hx hb dX6_spread_21 (lv_at hl 4 rfl) ?_
    refine lv_aload_n hx hb dX6_spread_23 rfl (lv_at hl 0 rfl) ?_
    refine va_get (D := (dC, dI)) (ci := 4) (v := .int m_f) (C := RX6) (T := TX6) (N := 25) hx hb hts h1_ hown hK hP 0 rfl rfl 2 (by decide) h2_ (fun _ h9 => h9) rfl dX6_spread_24 ?_
    refine lv_icmp_ge (tgt := 100) hx hb dX6_spread_27 (by decide) (fun _ => ?_) (fun c_0 => absurd hm_f c_0)
    exact Ki2_s100_3 k_2 v_2 H_2 g_M x1 x2 H locs ls hP hD hS (lv_sub hl [0, 1, 2, 3] rfl) hV hR
  have Ki2_s94_3_1 : ∀ (k_2 : Int32 → Int32 → (Nat → Int32) → (Nat → Int32) → (Nat → Int32) → Int32 → Int32 → (Nat → Int32)) (v_2 : Int32 → Int32 → (Nat → Int32) → (Nat → Int32) → (Nat → Int32) → Int32 → Int32 → Prop) (H_2 : ∀ (g_M : Nat → Int32) (x1 : Int32) (x2 : Int32) (H : Heap) (locs : List Loc) (ls : Array Slot), va_P (dC, dI) kcl (mo_W q6 qA qB qF qR qC qL qS qO qY qH qW qM cyI cyJ cyZ m_th m_o m_f m_r m_b m_a u_F u_R g_F g_R g_C g_L m_rl m_lf m_ov m_pl g_S g_O g_Y g_H m_st g_W m_rm m_fs g_M) H → va_D A (mo_W q6 qA qB qF qR qC qL qS qO qY qH qW qM cyI cyJ cyZ m_th m_o m_f m_r m_b m_a u_F u_R g_F g_R g_C g_L m_rl m_lf m_ov m_pl g_S g_O g_Y g_H m_st g_W m_rm m_fs g_M) → va_S A s.heap H locs → lv_has ls 6 [(0, .ref q6), (1, .int x1), (2, .int x2)] → v_2 m_o m_f g_F g_C g_M x1 x2 → k_2 m_o m_f g_F g_C g_M x1 x2 = R → W p l e (headSpec wsX6_spread ({ frames := 0, cells := 0, slots := 0, locals := 0 })).room s m ([.ref q6, .int a0] : List Value).toArray below meth c H locs 0 0 (MQ below (mu_Q none (dC, dI) kcl (mo_W q6 qA qB qF qR qC qL qS qO qY qH qW qM cyI cyJ cyZ m_th m_o m_f m_r m_b m_a u_F u_R g_F g_R g_C g_L m_rl m_lf m_ov m_pl g_S g_O g_Y g_H m_st g_W m_rm m_fs R) A) ([.ref q6, .int a0] : List Value).toArray s 0 0 A) (F0 m 2 ls [])) (g_M : Nat → Int32) (x1 : Int32) (x2 : Int32) (H : Heap) (locs : List Loc) (ls : Array Slot), va_P (dC, dI) kcl (mo_W q6 qA qB qF qR qC qL qS qO qY qH qW qM cyI cyJ cyZ m_th m_o m_f m_r m_b m_a u_F u_R g_F g_R g_C g_L m_rl m_lf m_ov m_pl g_S g_O g_Y g_H m_st g_W m_rm m_fs g_M) H → va_D A (mo_W q6 qA qB qF qR qC qL qS qO qY qH qW qM cyI cyJ cyZ m_th m_o m_f m_r m_b m_a u_F u_R g_F g_R g_C g_L m_rl m_lf m_ov m_pl g_S g_O g_Y g_H m_st g_W m_rm m_fs g_M) → va_S A s.heap H locs → lv_has ls 6 [(0, .ref q6), (1, .int x1), (2, .int x2), (3, .int (3 : Int32)), (4, .int (1 : Int32))] → vc_X6_spread_i2_s94_3_1 fu v_2 m_o m_f g_F g_C g_M x1 x2 → cf_X6_spread_i2_s94_3_1 fu k_2 m_o m_f g_F g_C g_M x1 x2 = R → W p l e (headSpec wsX6_spread ({ frames := 0, cells := 0, slots := 0, locals := 0 })).room s m ([.ref q6, .int a0] : List Value).toArray below meth c H locs 0 0 (MQ below (mu_Q none (dC, dI) kcl (mo_W q6 qA qB qF qR qC qL qS qO qY qH qW qM cyI cyJ cyZ m_th m_o m_f m_r m_b m_a u_F u_R g_F g_R g_C g_L m_rl m_lf m_ov m_pl g_S g_O g_Y g_H m_st g_W m_rm m_fs R) A) ([.ref q6, .int a0] : List Value).toArray s 0 0 A) (F0 m 94 ls []) := by
    intro k_2 v_2 H_2 g_M x1 x2 H locs ls hP hD hS hl hV hR
    unfold cf_X6_spread_i2_s94_3_1 at hR
    unfold vc_X6_spread_i2_s94_3_1 at hV
    refine lv_iinc (v := (2 : Int32)) (lv' := [(4, .int (2 : Int32)), (0, .ref q6), (1, .int x1), (2, .int x2), (3, .int (3 : Int32))]) hx hb dX6_spread_94 hl (k := 4) rfl (by decide +kernel) (by decide) rfl (fun ls hl => ?_)
    refine lv_goto (tgt := 21) hx hb dX6_spread_97 (by decide) ?_
    exact Ki2_s21_3_2 k_2 v_2 H_2 g_M x1 x2 H locs ls hP hD hS (lv_sub hl [1, 2, 3, 4, 0] rfl) hV hR
  have Ki2_s84_3_1 : ∀ (k_2 : Int32 → Int32 → (Nat → Int32) → (Nat → Int32) → (Nat → Int32) → Int32 → Int32 → (Nat → Int32)) (v_2 : Int32 → Int32 → (Nat → Int32) → (Nat → Int32) → (Nat → Int32) → Int32 → Int32 → Prop) (H_2 : ∀ (g_M : Nat → Int32) (x1 : Int32) (x2 : Int32) (H : Heap) (locs : List Loc) (ls : Array Slot), va_P (dC, dI) kcl (mo_W q6 qA qB qF qR qC qL qS qO qY qH qW qM cyI cyJ cyZ m_th m_o m_f m_r m_b m_a u_F u_R g_F g_R g_C g_L m_rl m_lf m_ov m_pl g_S g_O g_Y g_H m_st g_W m_rm m_fs g_M) H → va_D A (mo_W q6 qA qB qF qR qC qL qS qO qY qH qW qM cyI cyJ cyZ m_th m_o m_f m_r m_b m_a u_F u_R g_F g_R g_C g_L m_rl m_lf m_ov m_pl g_S g_O g_Y g_H m_st g_W m_rm m_fs g_M) → va_S A s.heap H locs → lv_has ls 6 [(0, .ref q6), (1, .int x1), (2, .int x2)] → v_2 m_o m_f g_F g_C g_M x1 x2 → k_2 m_o m_f g_F g_C g_M x1 x2 = R → W p l e (headSpec wsX6_spread ({ frames := 0, cells := 0, slots := 0, locals := 0 })).room s m ([.ref q6, .int a0] : List Value).toArray below meth c H locs 0 0 (MQ below (mu_Q none (dC, dI) kcl (mo_W q6 qA qB qF qR qC qL qS qO qY qH qW qM cyI cyJ cyZ m_th m_o m_f m_r m_b m_a u_F u_R g_F g_R g_C g_L m_rl m_lf m_ov m_pl g_S g_O g_Y g_H m_st g_W m_rm m_fs R) A) ([.ref q6, .int a0] : List Value).toArray s 0 0 A) (F0 m 2 ls [])) (g_M : Nat → Int32) (x1 : Int32) (x5 : Int32) (H : Heap) (locs : List Loc) (ls : Array Slot), va_P (dC, dI) kcl (mo_W q6 qA qB qF qR qC qL qS qO qY qH qW qM cyI cyJ cyZ m_th m_o m_f m_r m_b m_a u_F u_R g_F g_R g_C g_L m_rl m_lf m_ov m_pl g_S g_O g_Y g_H m_st g_W m_rm m_fs g_M) H → va_D A (mo_W q6 qA qB qF qR qC qL qS qO qY qH qW qM cyI cyJ cyZ m_th m_o m_f m_r m_b m_a u_F u_R g_F g_R g_C g_L m_rl m_lf m_ov m_pl g_S g_O g_Y g_H m_st g_W m_rm m_fs g_M) → va_S A s.heap H locs → lv_has ls 6 [(0, .ref q6), (1, .int x1), (3, .int (3 : Int32)), (4, .int (1 : Int32)), (5, .int x5)] → vc_X6_spread_i2_s84_3_1 fu v_2 m_o m_f g_F g_C g_M x1 x5 → cf_X6_spread_i2_s84_3_1 fu k_2 m_o m_f g_F g_C g_M x1 x5 = R → W p l e (headSpec wsX6_spread ({ frames := 0, cells := 0, slots := 0, locals := 0 })).room s m ([.ref q6, .int a0] : List Value).toArray below meth c H locs 0 0 (MQ below (mu_Q none (dC, dI) kcl (mo_W q6 qA qB qF qR qC qL qS qO qY qH qW qM cyI cyJ cyZ m_th m_o m_f m_r m_b m_a u_F u_R g_F g_R g_C g_L m_rl m_lf m_ov m_pl g_S g_O g_Y g_H m_st g_W m_rm m_fs R) A) ([.ref q6, .int a0] : List Value).toArray s 0 0 A) (F0 m 84 ls []) := by
    intro k_2 v_2 H_2 g_M x1 x5 H locs ls hP hD hS hl hV hR
    unfold cf_X6_spread_i2_s84_3_1 at hR
    unfold vc_X6_spread_i2_s84_3_1 at hV
    refine lv_aload_n hx hb dX6_spread_84 rfl (lv_at hl 0 rfl) ?_
    refine va_get (D := (dC, dI)) (ci := 4) (v := .ref qM) (C := RX6) (T := TX6) (N := 25) hx hb hts h1_ hown hK hP 0 rfl rfl 24 (by decide) h3_ (fun _ h9 => h9) rfl dX6_spread_85 ?_
    refine lv_iload hx hb dX6_spread_88 (lv_at hl 4 rfl) ?_
    refine lv_iconst (v := (1 : Int32)) hx hb dX6_spread_90 (by decide +kernel) ?_
    obtain ⟨hi18, hV⟩ := hV
    refine va_zast hx hb hK hP hD hS 12 2 rfl rfl hi18 dX6_spread_91 (fun H locs hP hD hS => ?_)
    have hP : va_P (dC, dI) kcl (mo_W q6 qA qB qF qR qC qL qS qO qY qH qW qM cyI cyJ cyZ m_th m_o m_f m_r m_b m_a u_F u_R g_F g_R g_C g_L m_rl m_lf m_ov m_pl g_S g_O g_Y g_H m_st g_W m_rm m_fs (upd g_M (x5).toNatClampNeg (vp_nar .boolean (1 : Int32)))) H := hP
    have hD : va_D A (mo_W q6 qA qB qF qR qC qL qS qO qY qH qW qM cyI cyJ cyZ m_th m_o m_f m_r m_b m_a u_F u_R g_F g_R g_C g_L m_rl m_lf m_ov m_pl g_S g_O g_Y g_H m_st g_W m_rm m_fs (upd g_M (x5).toNatClampNeg (vp_nar .boolean (1 : Int32)))) := hD
    refine lv_iconst (v := (1 : Int32)) hx hb dX6_spread_92 (by decide +kernel) ?_
    refine lv_istore_n (lv' := [(2, .int (1 : Int32)), (0, .ref q6), (1, .int x1), (3, .int (3 : Int32)), (4, .int (1 : Int32)), (5, .int x5)]) hx hb dX6_spread_93 rfl hl (by decide) rfl (fun ls hl => ?_)
    exact Ki2_s94_3_1 k_2 v_2 H_2 (upd g_M (x5).toNatClampNeg (vp_nar .boolean (1 : Int32))) x1 (1 : Int32) H locs ls hP hD hS (lv_sub hl [1, 2, 0, 3, 4] rfl) hV hR
  have Ki2_s21_3_1 : ∀ (k_2 : Int32 → Int32 → (Nat → Int32) → (Nat → Int32) → (Nat → Int32) → Int32 → Int32 → (Nat → Int32)) (v_2 : Int32 → Int32 → (Nat → Int32) → (Nat → Int32) → (Nat → Int32) → Int32 → Int32 → Prop) (H_2 : ∀ (g_M : Nat → Int32) (x1 : Int32) (x2 : Int32) (H : Heap) (locs : List Loc) (ls : Array Slot), va_P (dC, dI) kcl (mo_W q6 qA qB qF qR qC qL qS qO qY qH qW qM cyI cyJ cyZ m_th m_o m_f m_r m_b m_a u_F u_R g_F g_R g_C g_L m_rl m_lf m_ov m_pl g_S g_O g_Y g_H m_st g_W m_rm m_fs g_M) H → va_D A (mo_W q6 qA qB qF qR qC qL qS qO qY qH qW qM cyI cyJ cyZ m_th m_o m_f m_r m_b m_a u_F u_R g_F g_R g_C g_L m_rl m_lf m_ov m_pl g_S g_O g_Y g_H m_st g_W m_rm m_fs g_M) → va_S A s.heap H locs → lv_has ls 6 [(0, .ref q6), (1, .int x1), (2, .int x2)] → v_2 m_o m_f g_F g_C g_M x1 x2 → k_2 m_o m_f g_F g_C g_M x1 x2 = R → W p l e (headSpec wsX6_spread ({ frames := 0, cells := 0, slots := 0, locals := 0 })).room s m ([.ref q6, .int a0] : List Value).toArray below meth c H locs 0 0 (MQ below (mu_Q none (dC, dI) kcl (mo_W q6 qA qB qF qR qC qL qS qO qY qH qW qM cyI cyJ cyZ m_th m_o m_f m_r m_b m_a u_F u_R g_F g_R g_C g_L m_rl m_lf m_ov m_pl g_S g_O g_Y g_H m_st g_W m_rm m_fs R) A) ([.ref q6, .int a0] : List Value).toArray s 0 0 A) (F0 m 2 ls [])) (g_M : Nat → Int32) (x1 : Int32) (x2 : Int32) (H : Heap) (locs : List Loc) (ls : Array Slot), va_P (dC, dI) kcl (mo_W q6 qA qB qF qR qC qL qS qO qY qH qW qM cyI cyJ cyZ m_th m_o m_f m_r m_b m_a u_F u_R g_F g_R g_C g_L m_rl m_lf m_ov m_pl g_S g_O g_Y g_H m_st g_W m_rm m_fs g_M) H → va_D A (mo_W q6 qA qB qF qR qC qL qS qO qY qH qW qM cyI cyJ cyZ m_th m_o m_f m_r m_b m_a u_F u_R g_F g_R g_C g_L m_rl m_lf m_ov m_pl g_S g_O g_Y g_H m_st g_W m_rm m_fs g_M) → va_S A s.heap H locs → lv_has ls 6 [(0, .ref q6), (1, .int x1), (2, .int x2), (3, .int (3 : Int32)), (4, .int (1 : Int32))] → vc_X6_spread_i2_s21_3_1 fu v_2 m_o m_f g_F g_C g_M x1 x2 → cf_X6_spread_i2_s21_3_1 fu k_2 m_o m_f g_F g_C g_M x1 x2 = R → W p l e (headSpec wsX6_spread ({ frames := 0, cells := 0, slots := 0, locals := 0 })).room s m ([.ref q6, .int a0] : List Value).toArray below meth c H locs 0 0 (MQ below (mu_Q none (dC, dI) kcl (mo_W q6 qA qB qF qR qC qL qS qO qY qH qW qM cyI cyJ cyZ m_th m_o m_f m_r m_b m_a u_F u_R g_F g_R g_C g_L m_rl m_lf m_ov m_pl g_S g_O g_Y g_H m_st g_W m_rm m_fs R) A) ([.ref q6, .int a0] : List Value).toArray s 0 0 A) (F0 m 21 ls []) := by
    intro k_2 v_2 H_2 g_M x1 x2 H locs ls hP hD hS hl hV hR
    unfold cf_X6_spread_i2_s21_3_1 at hR
    unfold vc_X6_spread_i2_s21_3_1 at hV
    refine lv_iload hx hb dX6_spread_21 (lv_at hl 4 rfl) ?_
    refine lv_aload_n hx hb dX6_spread_23 rfl (lv_at hl 0 rfl) ?_
    refine va_get (D := (dC, dI)) (ci := 4) (v := .int m_f) (C := RX6) (T := TX6) (N := 25) hx hb hts h1_ hown hK hP 0 rfl rfl 2 (by decide) h2_ (fun _ h9 => h9) rfl dX6_spread_24 ?_
    refine lv_icmp_ge (tgt := 100) hx hb dX6_spread_27 (by decide) (fun c_12 => ?_) (fun c_12 => ?_)
    · rw [if_pos c_12] at hR
      have hV := hV.1 c_12
      exact Ki2_s100_3 k_2 v_2 H_2 g_M x1 x2 H locs ls hP hD hS (lv_sub hl [0, 1, 2, 3] rfl) hV hR
    · rw [if_neg c_12] at hR
      have hV := hV.2 c_12
      refine lv_aload_n hx hb dX6_spread_30 rfl (lv_at hl 0 rfl) ?_
      refine va_get (D := (dC, dI)) (ci := 4) (v := .ref qM) (C := RX6) (T := TX6) (N := 25) hx hb hts h1_ hown hK hP 0 rfl rfl 24 (by decide) h3_ (fun _ h9 => h9) rfl dX6_spread_31 ?_
      refine lv_iload_n hx hb dX6_spread_34 rfl (lv_at hl 3 rfl) ?_
      refine va_zald hx hb hK hP 12 2 rfl rfl (by unfold vp_in; decide +kernel) dX6_spread_35 ?_
      refine lv_if_eq (tgt := 100) hx hb dX6_spread_36 (by decide) (fun c_13 => ?_) (fun c_13 => ?_)
      · rw [if_pos c_13] at hR
        have hV := hV.1 c_13
        exact Ki2_s100_3 k_2 v_2 H_2 g_M x1 x2 H locs ls hP hD hS (lv_sub hl [0, 1, 2, 3] rfl) hV hR
      · rw [if_neg c_13] at hR
        have hV := hV.2 c_13
        refine lv_aload_n hx hb dX6_spread_39 rfl (lv_at hl 0 rfl) ?_
        refine va_get (D := (dC, dI)) (ci := 4) (v := .ref qF) (C := RX6) (T := TX6) (N := 25) hx hb hts h1_ hown hK hP 0 rfl rfl 8 (by decide) h4_ (fun _ h9 => h9) rfl dX6_spread_40 ?_
        refine lv_iconst (v := (2 : Int32)) hx hb dX6_spread_43 (by decide +kernel) ?_
        refine lv_iload_n hx hb dX6_spread_44 rfl (lv_at hl 3 rfl) ?_
        refine lv_imul hx hb dX6_spread_45 ?_
        refine ek_v (P := fun z => W p l e (headSpec wsX6_spread ({ frames := 0, cells := 0, slots := 0, locals := 0 })).room s m ([.ref q6, .int a0] : List Value).toArray below meth c H locs 0 0 _ (F0 m 46 ls (.int z :: [.ref qF]))) (b := (6 : Int32)) (by decide +kernel) ?_
        refine lv_iload hx hb dX6_spread_46 (lv_at hl 4 rfl) ?_
        refine lv_iadd hx hb dX6_spread_48 ?_
        refine ek_v (P := fun z => W p l e (headSpec wsX6_spread ({ frames := 0, cells := 0, slots := 0, locals := 0 })).room s m ([.ref q6, .int a0] : List Value).toArray below meth c H locs 0 0 _ (F0 m 49 ls (.int z :: [.ref qF]))) (b := (7 : Int32)) (by decide +kernel) ?_
        refine va_iald hx hb hK hP 3 0 rfl rfl (by unfold vp_in; decide +kernel) dX6_spread_49 ?_
        refine lv_istore (lv' := [(5, .int (g_F ((7 : Int32)).toNatClampNeg)), (0, .ref q6), (1, .int x1), (2, .int x2), (3, .int (3 : Int32)), (4, .int (1 : Int32))]) hx hb dX6_spread_50 hl (by decide) rfl (fun ls hl => ?_)
        refine lv_iload hx hb dX6_spread_52 (lv_at hl 0 rfl) ?_
        refine lv_if_lt (tgt := 94) hx hb dX6_spread_54 (by decide) (fun c_14 => ?_) (fun c_14 => ?_)
        · rw [if_pos c_14] at hR
          have hV := hV.1 c_14
          exact Ki2_s94_3_1 k_2 v_2 H_2 g_M x1 x2 H locs ls hP hD hS (lv_sub hl [1, 2, 3, 4, 5] rfl) hV hR
        · rw [if_neg c_14] at hR
          have hV := hV.2 c_14
          refine lv_aload_n hx hb dX6_spread_57 rfl (lv_at hl 1 rfl) ?_
          refine va_get (D := (dC, dI)) (ci := 4) (v := .ref qM) (C := RX6) (T := TX6) (N := 25) hx hb hts h1_ hown hK hP 0 rfl rfl 24 (by decide) h3_ (fun _ h9 => h9) rfl dX6_spread_58 ?_
          refine lv_iload hx hb dX6_spread_61 (lv_at hl 0 rfl) ?_
          obtain ⟨hi15, hV⟩ := hV
          refine va_zald hx hb hK hP 12 2 rfl rfl hi15 dX6_spread_63 ?_
          refine lv_if_ne (tgt := 94) hx hb dX6_spread_64 (by decide) (fun c_16 => ?_) (fun c_16 => ?_)
          · rw [if_neg c_16] at hR
            have hV := hV.2 c_16
            exact Ki2_s94_3_1 k_2 v_2 H_2 g_M x1 x2 H locs ls hP hD hS (lv_sub hl [1, 2, 3, 4, 5] rfl) hV hR
          · rw [if_pos c_16] at hR
            have hV := hV.1 c_16
            refine lv_iload_n hx hb dX6_spread_67 rfl (lv_at hl 2 rfl) ?_
            refine lv_if_eq (tgt := 84) hx hb dX6_spread_68 (by decide) (fun c_17 => ?_) (fun c_17 => ?_)
            · rw [if_pos c_17] at hR
              have hV := hV.1 c_17
              exact Ki2_s84_3_1 k_2 v_2 H_2 g_M x1 (g_F ((7 : Int32)).toNatClampNeg) H locs ls hP hD hS (lv_sub hl [1, 2, 4, 5, 0] rfl) hV hR
            · rw [if_neg c_17] at hR
              have hV := hV.2 c_17
              refine lv_aload_n hx hb dX6_spread_71 rfl (lv_at hl 1 rfl) ?_
              refine va_get (D := (dC, dI)) (ci := 4) (v := .ref qC) (C := RX6) (T := TX6) (N := 25) hx hb hts h1_ hown hK hP 0 rfl rfl 10 (by decide) h5_ (fun _ h9 => h9) rfl dX6_spread_72 ?_
              refine lv_iload hx hb dX6_spread_75 (lv_at hl 0 rfl) ?_
              obtain ⟨hi19, hV⟩ := hV
              refine va_iald hx hb hK hP 5 0 rfl rfl hi19 dX6_spread_77 ?_
              refine lv_if_eq (tgt := 84) hx hb dX6_spread_78 (by decide) (fun c_20 => ?_) (fun c_20 => ?_)
              · rw [if_pos c_20] at hR
                have hV := hV.1 c_20
                exact Ki2_s84_3_1 k_2 v_2 H_2 g_M x1 (g_F ((7 : Int32)).toNatClampNeg) H locs ls hP hD hS (lv_sub hl [1, 2, 4, 5, 0] rfl) hV hR
              · rw [if_neg c_20] at hR
                have hV := hV.2 c_20
                refine lv_goto (tgt := 94) hx hb dX6_spread_81 (by decide) ?_
                exact Ki2_s94_3_1 k_2 v_2 H_2 g_M x1 x2 H locs ls hP hD hS (lv_sub hl [1, 2, 3, 4, 5] rfl) hV hR
  have Ki2_s94_3_0 : ∀ (k_2 : Int32 → Int32 → (Nat → Int32) → (Nat → Int32) → (Nat → Int32) → Int32 → Int32 → (Nat → Int32)) (v_2 : Int32 → Int32 → (Nat → Int32) → (Nat → Int32) → (Nat → Int32) → Int32 → Int32 → Prop) (H_2 : ∀ (g_M : Nat → Int32) (x1 : Int32) (x2 : Int32) (H : Heap) (locs : List Loc) (ls : Array Slot), va_P (dC, dI) kcl (mo_W q6 qA qB qF qR qC qL qS qO qY qH qW qM cyI cyJ cyZ m_th m_o m_f m_r m_b m_a u_F u_R g_F g_R g_C g_L m_rl m_lf m_ov m_pl g_S g_O g_Y g_H m_st g_W m_rm m_fs g_M) H → va_D A (mo_W q6 qA qB qF qR qC qL qS qO qY qH qW qM cyI cyJ cyZ m_th m_o m_f m_r m_b m_a u_F u_R g_F g_R g_C g_L m_rl m_lf m_ov m_pl g_S g_O g_Y g_H m_st g_W m_rm m_fs g_M) → va_S A s.heap H locs → lv_has ls 6 [(0, .ref q6), (1, .int x1), (2, .int x2)] → v_2 m_o m_f g_F g_C g_M x1 x2 → k_2 m_o m_f g_F g_C g_M x1 x2 = R → W p l e (headSpec wsX6_spread ({ frames := 0, cells := 0, slots := 0, locals := 0 })).room s m ([.ref q6, .int a0] : List Value).toArray below meth c H locs 0 0 (MQ below (mu_Q none (dC, dI) kcl (mo_W q6 qA qB qF qR qC qL qS qO qY qH qW qM cyI cyJ cyZ m_th m_o m_f m_r m_b m_a u_F u_R g_F g_R g_C g_L m_rl m_lf m_ov m_pl g_S g_O g_Y g_H m_st g_W m_rm m_fs R) A) ([.ref q6, .int a0] : List Value).toArray s 0 0 A) (F0 m 2 ls [])) (g_M : Nat → Int32) (x1 : Int32) (x2 : Int32) (H : Heap) (locs : List Loc) (ls : Array Slot), va_P (dC, dI) kcl (mo_W q6 qA qB qF qR qC qL qS qO qY qH qW qM cyI cyJ cyZ m_th m_o m_f m_r m_b m_a u_F u_R g_F g_R g_C g_L m_rl m_lf m_ov m_pl g_S g_O g_Y g_H m_st g_W m_rm m_fs g_M) H → va_D A (mo_W q6 qA qB qF qR qC qL qS qO qY qH qW qM cyI cyJ cyZ m_th m_o m_f m_r m_b m_a u_F u_R g_F g_R g_C g_L m_rl m_lf m_ov m_pl g_S g_O g_Y g_H m_st g_W m_rm m_fs g_M) → va_S A s.heap H locs → lv_has ls 6 [(0, .ref q6), (1, .int x1), (2, .int x2), (3, .int (3 : Int32)), (4, .int (0 : Int32))] → vc_X6_spread_i2_s94_3_0 fu v_2 m_o m_f g_F g_C g_M x1 x2 → cf_X6_spread_i2_s94_3_0 fu k_2 m_o m_f g_F g_C g_M x1 x2 = R → W p l e (headSpec wsX6_spread ({ frames := 0, cells := 0, slots := 0, locals := 0 })).room s m ([.ref q6, .int a0] : List Value).toArray below meth c H locs 0 0 (MQ below (mu_Q none (dC, dI) kcl (mo_W q6 qA qB qF qR qC qL qS qO qY qH qW qM cyI cyJ cyZ m_th m_o m_f m_r m_b m_a u_F u_R g_F g_R g_C g_L m_rl m_lf m_ov m_pl g_S g_O g_Y g_H m_st g_W m_rm m_fs R) A) ([.ref q6, .int a0] : List Value).toArray s 0 0 A) (F0 m 94 ls []) := by
    intro k_2 v_2 H_2 g_M x1 x2 H locs ls hP hD hS hl hV hR
    unfold cf_X6_spread_i2_s94_3_0 at hR
    unfold vc_X6_spread_i2_s94_3_0 at hV
    refine lv_iinc (v := (1 : Int32)) (lv' := [(4, .int (1 : Int32)), (0, .ref q6), (1, .int x1), (2, .int x2), (3, .int (3 : Int32))]) hx hb dX6_spread_94 hl (k := 4) rfl (by decide +kernel) (by decide) rfl (fun ls hl => ?_)
    refine lv_goto (tgt := 21) hx hb dX6_spread_97 (by decide) ?_
    exact Ki2_s21_3_1 k_2 v_2 H_2 g_M x1 x2 H locs ls hP hD hS (lv_sub hl [1, 2, 3, 4, 0] rfl) hV hR
  have Ki2_s84_3_0 : ∀ (k_2 : Int32 → Int32 → (Nat → Int32) → (Nat → Int32) → (Nat → Int32) → Int32 → Int32 → (Nat → Int32)) (v_2 : Int32 → Int32 → (Nat → Int32) → (Nat → Int32) → (Nat → Int32) → Int32 → Int32 → Prop) (H_2 : ∀ (g_M : Nat → Int32) (x1 : Int32) (x2 : Int32) (H : Heap) (locs : List Loc) (ls : Array Slot), va_P (dC, dI) kcl (mo_W q6 qA qB qF qR qC qL qS qO qY qH qW qM cyI cyJ cyZ m_th m_o m_f m_r m_b m_a u_F u_R g_F g_R g_C g_L m_rl m_lf m_ov m_pl g_S g_O g_Y g_H m_st g_W m_rm m_fs g_M) H → va_D A (mo_W q6 qA qB qF qR qC qL qS qO qY qH qW qM cyI cyJ cyZ m_th m_o m_f m_r m_b m_a u_F u_R g_F g_R g_C g_L m_rl m_lf m_ov m_pl g_S g_O g_Y g_H m_st g_W m_rm m_fs g_M) → va_S A s.heap H locs → lv_has ls 6 [(0, .ref q6), (1, .int x1), (2, .int x2)] → v_2 m_o m_f g_F g_C g_M x1 x2 → k_2 m_o m_f g_F g_C g_M x1 x2 = R → W p l e (headSpec wsX6_spread ({ frames := 0, cells := 0, slots := 0, locals := 0 })).room s m ([.ref q6, .int a0] : List Value).toArray below meth c H locs 0 0 (MQ below (mu_Q none (dC, dI) kcl (mo_W q6 qA qB qF qR qC qL qS qO qY qH qW qM cyI cyJ cyZ m_th m_o m_f m_r m_b m_a u_F u_R g_F g_R g_C g_L m_rl m_lf m_ov m_pl g_S g_O g_Y g_H m_st g_W m_rm m_fs R) A) ([.ref q6, .int a0] : List Value).toArray s 0 0 A) (F0 m 2 ls [])) (g_M : Nat → Int32) (x1 : Int32) (x5 : Int32) (H : Heap) (locs : List Loc) (ls : Array Slot), va_P (dC, dI) kcl (mo_W q6 qA qB qF qR qC qL qS qO qY qH qW qM cyI cyJ cyZ m_th m_o m_f m_r m_b m_a u_F u_R g_F g_R g_C g_L m_rl m_lf m_ov m_pl g_S g_O g_Y g_H m_st g_W m_rm m_fs g_M) H → va_D A (mo_W q6 qA qB qF qR qC qL qS qO qY qH qW qM cyI cyJ cyZ m_th m_o m_f m_r m_b m_a u_F u_R g_F g_R g_C g_L m_rl m_lf m_ov m_pl g_S g_O g_Y g_H m_st g_W m_rm m_fs g_M) → va_S A s.heap H locs → lv_has ls 6 [(0, .ref q6), (1, .int x1), (3, .int (3 : Int32)), (4, .int (0 : Int32)), (5, .int x5)] → vc_X6_spread_i2_s84_3_0 fu v_2 m_o m_f g_F g_C g_M x1 x5 → cf_X6_spread_i2_s84_3_0 fu k_2 m_o m_f g_F g_C g_M x1 x5 = R → W p l e (headSpec wsX6_spread ({ frames := 0, cells := 0, slots := 0, locals := 0 })).room s m ([.ref q6, .int a0] : List Value).toArray below meth c H locs 0 0 (MQ below (mu_Q none (dC, dI) kcl (mo_W q6 qA qB qF qR qC qL qS qO qY qH qW qM cyI cyJ cyZ m_th m_o m_f m_r m_b m_a u_F u_R g_F g_R g_C g_L m_rl m_lf m_ov m_pl g_S g_O g_Y g_H m_st g_W m_rm m_fs R) A) ([.ref q6, .int a0] : List Value).toArray s 0 0 A) (F0 m 84 ls []) := by
    intro k_2 v_2 H_2 g_M x1 x5 H locs ls hP hD hS hl hV hR
    unfold cf_X6_spread_i2_s84_3_0 at hR
    unfold vc_X6_spread_i2_s84_3_0 at hV
    refine lv_aload_n hx hb dX6_spread_84 rfl (lv_at hl 0 rfl) ?_
    refine va_get (D := (dC, dI)) (ci := 4) (v := .ref qM) (C := RX6) (T := TX6) (N := 25) hx hb hts h1_ hown hK hP 0 rfl rfl 24 (by decide) h3_ (fun _ h9 => h9) rfl dX6_spread_85 ?_
    refine lv_iload hx hb dX6_spread_88 (lv_at hl 4 rfl) ?_
    refine lv_iconst (v := (1 : Int32)) hx hb dX6_spread_90 (by decide +kernel) ?_
    obtain ⟨hi24, hV⟩ := hV
    refine va_zast hx hb hK hP hD hS 12 2 rfl rfl hi24 dX6_spread_91 (fun H locs hP hD hS => ?_)
    have hP : va_P (dC, dI) kcl (mo_W q6 qA qB qF qR qC qL qS qO qY qH qW qM cyI cyJ cyZ m_th m_o m_f m_r m_b m_a u_F u_R g_F g_R g_C g_L m_rl m_lf m_ov m_pl g_S g_O g_Y g_H m_st g_W m_rm m_fs (upd g_M (x5).toNatClampNeg (vp_nar .boolean (1 : Int32)))) H := hP
    have hD : va_D A (mo_W q6 qA qB qF qR qC qL qS qO qY qH qW qM cyI cyJ cyZ m_th m_o m_f m_r m_b m_a u_F u_R g_F g_R g_C g_L m_rl m_lf m_ov m_pl g_S g_O g_Y g_H m_st g_W m_rm m_fs (upd g_M (x5).toNatClampNeg (vp_nar .boolean (1 : Int32)))) := hD
    refine lv_iconst (v := (1 : Int32)) hx hb dX6_spread_92 (by decide +kernel) ?_
    refine lv_istore_n (lv' := [(2, .int (1 : Int32)), (0, .ref q6), (1, .int x1), (3, .int (3 : Int32)), (4, .int (0 : Int32)), (5, .int x5)]) hx hb dX6_spread_93 rfl hl (by decide) rfl (fun ls hl => ?_)
    exact Ki2_s94_3_0 k_2 v_2 H_2 (upd g_M (x5).toNatClampNeg (vp_nar .boolean (1 : Int32))) x1 (1 : Int32) H locs ls hP hD hS (lv_sub hl [1, 2, 0, 3, 4] rfl) hV hR
  have Ki2_s21_3_0 : ∀ (k_2 : Int32 → Int32 → (Nat → Int32) → (Nat → Int32) → (Nat → Int32) → Int32 → Int32 → (Nat → Int32)) (v_2 : Int32 → Int32 → (Nat → Int32) → (Nat → Int32) → (Nat → Int32) → Int32 → Int32 → Prop) (H_2 : ∀ (g_M : Nat → Int32) (x1 : Int32) (x2 : Int32) (H : Heap) (locs : List Loc) (ls : Array Slot), va_P (dC, dI) kcl (mo_W q6 qA qB qF qR qC qL qS qO qY qH qW qM cyI cyJ cyZ m_th m_o m_f m_r m_b m_a u_F u_R g_F g_R g_C g_L m_rl m_lf m_ov m_pl g_S g_O g_Y g_H m_st g_W m_rm m_fs g_M) H → va_D A (mo_W q6 qA qB qF qR qC qL qS qO qY qH qW qM cyI cyJ cyZ m_th m_o m_f m_r m_b m_a u_F u_R g_F g_R g_C g_L m_rl m_lf m_ov m_pl g_S g_O g_Y g_H m_st g_W m_rm m_fs g_M) → va_S A s.heap H locs → lv_has ls 6 [(0, .ref q6), (1, .int x1), (2, .int x2)] → v_2 m_o m_f g_F g_C g_M x1 x2 → k_2 m_o m_f g_F g_C g_M x1 x2 = R → W p l e (headSpec wsX6_spread ({ frames := 0, cells := 0, slots := 0, locals := 0 })).room s m ([.ref q6, .int a0] : List Value).toArray below meth c H locs 0 0 (MQ below (mu_Q none (dC, dI) kcl (mo_W q6 qA qB qF qR qC qL qS qO qY qH qW qM cyI cyJ cyZ m_th m_o m_f m_r m_b m_a u_F u_R g_F g_R g_C g_L m_rl m_lf m_ov m_pl g_S g_O g_Y g_H m_st g_W m_rm m_fs R) A) ([.ref q6, .int a0] : List Value).toArray s 0 0 A) (F0 m 2 ls [])) (g_M : Nat → Int32) (x1 : Int32) (x2 : Int32) (H : Heap) (locs : List Loc) (ls : Array Slot), va_P (dC, dI) kcl (mo_W q6 qA qB qF qR qC qL qS qO qY qH qW qM cyI cyJ cyZ m_th m_o m_f m_r m_b m_a u_F u_R g_F g_R g_C g_L m_rl m_lf m_ov m_pl g_S g_O g_Y g_H m_st g_W m_rm m_fs g_M) H → va_D A (mo_W q6 qA qB qF qR qC qL qS qO qY qH qW qM cyI cyJ cyZ m_th m_o m_f m_r m_b m_a u_F u_R g_F g_R g_C g_L m_rl m_lf m_ov m_pl g_S g_O g_Y g_H m_st g_W m_rm m_fs g_M) → va_S A s.heap H locs → lv_has ls 6 [(0, .ref q6), (1, .int x1), (2, .int x2), (3, .int (3 : Int32)), (4, .int (0 : Int32))] → vc_X6_spread_i2_s21_3_0 fu v_2 m_o m_f g_F g_C g_M x1 x2 → cf_X6_spread_i2_s21_3_0 fu k_2 m_o m_f g_F g_C g_M x1 x2 = R → W p l e (headSpec wsX6_spread ({ frames := 0, cells := 0, slots := 0, locals := 0 })).room s m ([.ref q6, .int a0] : List Value).toArray below meth c H locs 0 0 (MQ below (mu_Q none (dC, dI) kcl (mo_W q6 qA qB qF qR qC qL qS qO qY qH qW qM cyI cyJ cyZ m_th m_o m_f m_r m_b m_a u_F u_R g_F g_R g_C g_L m_rl m_lf m_ov m_pl g_S g_O g_Y g_H m_st g_W m_rm m_fs R) A) ([.ref q6, .int a0] : List Value).toArray s 0 0 A) (F0 m 21 ls []) := by
    intro k_2 v_2 H_2 g_M x1 x2 H locs ls hP hD hS hl hV hR
    unfold cf_X6_spread_i2_s21_3_0 at hR
    unfold vc_X6_spread_i2_s21_3_0 at hV
    refine lv_iload hx hb dX6_spread_21 (lv_at hl 4 rfl) ?_
    refine lv_aload_n hx hb dX6_spread_23 rfl (lv_at hl 0 rfl) ?_
    refine va_get (D := (dC, dI)) (ci := 4) (v := .int m_f) (C := RX6) (T := TX6) (N := 25) hx hb hts h1_ hown hK hP 0 rfl rfl 2 (by decide) h2_ (fun _ h9 => h9) rfl dX6_spread_24 ?_
    refine lv_icmp_ge (tgt := 100) hx hb dX6_spread_27 (by decide) (fun c_9 => ?_) (fun c_9 => ?_)
    · rw [if_pos c_9] at hR
      have hV := hV.1 c_9
      exact Ki2_s100_3 k_2 v_2 H_2 g_M x1 x2 H locs ls hP hD hS (lv_sub hl [0, 1, 2, 3] rfl) hV hR
    · rw [if_neg c_9] at hR
      have hV := hV.2 c_9
      refine lv_aload_n hx hb dX6_spread_30 rfl (lv_at hl 0 rfl) ?_
      refine va_get (D := (dC, dI)) (ci := 4) (v := .ref qM) (C := RX6) (T := TX6) (N := 25) hx hb hts h1_ hown hK hP 0 rfl rfl 24 (by decide) h3_ (fun _ h9 => h9) rfl dX6_spread_31 ?_
      refine lv_iload_n hx hb dX6_spread_34 rfl (lv_at hl 3 rfl) ?_
      refine va_zald hx hb hK hP 12 2 rfl rfl (by unfold vp_in; decide +kernel) dX6_spread_35 ?_
      refine lv_if_eq (tgt := 100) hx hb dX6_spread_36 (by decide) (fun c_10 => ?_) (fun c_10 => ?_)
      · rw [if_pos c_10] at hR
        have hV := hV.1 c_10
        exact Ki2_s100_3 k_2 v_2 H_2 g_M x1 x2 H locs ls hP hD hS (lv_sub hl [0, 1, 2, 3] rfl) hV hR
      · rw [if_neg c_10] at hR
        have hV := hV.2 c_10
        refine lv_aload_n hx hb dX6_spread_39 rfl (lv_at hl 0 rfl) ?_
        refine va_get (D := (dC, dI)) (ci := 4) (v := .ref qF) (C := RX6) (T := TX6) (N := 25) hx hb hts h1_ hown hK hP 0 rfl rfl 8 (by decide) h4_ (fun _ h9 => h9) rfl dX6_spread_40 ?_
        refine lv_iconst (v := (2 : Int32)) hx hb dX6_spread_43 (by decide +kernel) ?_
        refine lv_iload_n hx hb dX6_spread_44 rfl (lv_at hl 3 rfl) ?_
        refine lv_imul hx hb dX6_spread_45 ?_
        refine ek_v (P := fun z => W p l e (headSpec wsX6_spread ({ frames := 0, cells := 0, slots := 0, locals := 0 })).room s m ([.ref q6, .int a0] : List Value).toArray below meth c H locs 0 0 _ (F0 m 46 ls (.int z :: [.ref qF]))) (b := (6 : Int32)) (by decide +kernel) ?_
        refine lv_iload hx hb dX6_spread_46 (lv_at hl 4 rfl) ?_
        refine lv_iadd hx hb dX6_spread_48 ?_
        refine ek_v (P := fun z => W p l e (headSpec wsX6_spread ({ frames := 0, cells := 0, slots := 0, locals := 0 })).room s m ([.ref q6, .int a0] : List Value).toArray below meth c H locs 0 0 _ (F0 m 49 ls (.int z :: [.ref qF]))) (b := (6 : Int32)) (by decide +kernel) ?_
        refine va_iald hx hb hK hP 3 0 rfl rfl (by unfold vp_in; decide +kernel) dX6_spread_49 ?_
        refine lv_istore (lv' := [(5, .int (g_F ((6 : Int32)).toNatClampNeg)), (0, .ref q6), (1, .int x1), (2, .int x2), (3, .int (3 : Int32)), (4, .int (0 : Int32))]) hx hb dX6_spread_50 hl (by decide) rfl (fun ls hl => ?_)
        refine lv_iload hx hb dX6_spread_52 (lv_at hl 0 rfl) ?_
        refine lv_if_lt (tgt := 94) hx hb dX6_spread_54 (by decide) (fun c_11 => ?_) (fun c_11 => ?_)
        · rw [if_pos c_11] at hR
          have hV := hV.1 c_11
          exact Ki2_s94_3_0 k_2 v_2 H_2 g_M x1 x2 H locs ls hP hD hS (lv_sub hl [1, 2, 3, 4, 5] rfl) hV hR
        · rw [if_neg c_11] at hR
          have hV := hV.2 c_11
          refine lv_aload_n hx hb dX6_spread_57 rfl (lv_at hl 1 rfl) ?_
          refine va_get (D := (dC, dI)) (ci := 4) (v := .ref qM) (C := RX6) (T := TX6) (N := 25) hx hb hts h1_ hown hK hP 0 rfl rfl 24 (by decide) h3_ (fun _ h9 => h9) rfl dX6_spread_58 ?_
          refine lv_iload hx hb dX6_spread_61 (lv_at hl 0 rfl) ?_
          obtain ⟨hi21, hV⟩ := hV
          refine va_zald hx hb hK hP 12 2 rfl rfl hi21 dX6_spread_63 ?_
          refine lv_if_ne (tgt := 94) hx hb dX6_spread_64 (by decide) (fun c_22 => ?_) (fun c_22 => ?_)
          · rw [if_neg c_22] at hR
            have hV := hV.2 c_22
            exact Ki2_s94_3_0 k_2 v_2 H_2 g_M x1 x2 H locs ls hP hD hS (lv_sub hl [1, 2, 3, 4, 5] rfl) hV hR
          · rw [if_pos c_22] at hR
            have hV := hV.1 c_22
            refine lv_iload_n hx hb dX6_spread_67 rfl (lv_at hl 2 rfl) ?_
            refine lv_if_eq (tgt := 84) hx hb dX6_spread_68 (by decide) (fun c_23 => ?_) (fun c_23 => ?_)
            · rw [if_pos c_23] at hR
              have hV := hV.1 c_23
              exact Ki2_s84_3_0 k_2 v_2 H_2 g_M x1 (g_F ((6 : Int32)).toNatClampNeg) H locs ls hP hD hS (lv_sub hl [1, 2, 4, 5, 0] rfl) hV hR
            · rw [if_neg c_23] at hR
              have hV := hV.2 c_23
              refine lv_aload_n hx hb dX6_spread_71 rfl (lv_at hl 1 rfl) ?_
              refine va_get (D := (dC, dI)) (ci := 4) (v := .ref qC) (C := RX6) (T := TX6) (N := 25) hx hb hts h1_ hown hK hP 0 rfl rfl 10 (by decide) h5_ (fun _ h9 => h9) rfl dX6_spread_72 ?_
              refine lv_iload hx hb dX6_spread_75 (lv_at hl 0 rfl) ?_
              obtain ⟨hi25, hV⟩ := hV
              refine va_iald hx hb hK hP 5 0 rfl rfl hi25 dX6_spread_77 ?_
              refine lv_if_eq (tgt := 84) hx hb dX6_spread_78 (by decide) (fun c_26 => ?_) (fun c_26 => ?_)
              · rw [if_pos c_26] at hR
                have hV := hV.1 c_26
                exact Ki2_s84_3_0 k_2 v_2 H_2 g_M x1 (g_F ((6 : Int32)).toNatClampNeg) H locs ls hP hD hS (lv_sub hl [1, 2, 4, 5, 0] rfl) hV hR
              · rw [if_neg c_26] at hR
                have hV := hV.2 c_26
                refine lv_goto (tgt := 94) hx hb dX6_spread_81 (by decide) ?_
                exact Ki2_s94_3_0 k_2 v_2 H_2 g_M x1 x2 H locs ls hP hD hS (lv_sub hl [1, 2, 3, 4, 5] rfl) hV hR
  have Ki2_s10_3 : ∀ (k_2 : Int32 → Int32 → (Nat → Int32) → (Nat → Int32) → (Nat → Int32) → Int32 → Int32 → (Nat → Int32)) (v_2 : Int32 → Int32 → (Nat → Int32) → (Nat → Int32) → (Nat → Int32) → Int32 → Int32 → Prop) (H_2 : ∀ (g_M : Nat → Int32) (x1 : Int32) (x2 : Int32) (H : Heap) (locs : List Loc) (ls : Array Slot), va_P (dC, dI) kcl (mo_W q6 qA qB qF qR qC qL qS qO qY qH qW qM cyI cyJ cyZ m_th m_o m_f m_r m_b m_a u_F u_R g_F g_R g_C g_L m_rl m_lf m_ov m_pl g_S g_O g_Y g_H m_st g_W m_rm m_fs g_M) H → va_D A (mo_W q6 qA qB qF qR qC qL qS qO qY qH qW qM cyI cyJ cyZ m_th m_o m_f m_r m_b m_a u_F u_R g_F g_R g_C g_L m_rl m_lf m_ov m_pl g_S g_O g_Y g_H m_st g_W m_rm m_fs g_M) → va_S A s.heap H locs → lv_has ls 6 [(0, .ref q6), (1, .int x1), (2, .int x2)] → v_2 m_o m_f g_F g_C g_M x1 x2 → k_2 m_o m_f g_F g_C g_M x1 x2 = R → W p l e (headSpec wsX6_spread ({ frames := 0, cells := 0, slots := 0, locals := 0 })).room s m ([.ref q6, .int a0] : List Value).toArray below meth c H locs 0 0 (MQ below (mu_Q none (dC, dI) kcl (mo_W q6 qA qB qF qR qC qL qS qO qY qH qW qM cyI cyJ cyZ m_th m_o m_f m_r m_b m_a u_F u_R g_F g_R g_C g_L m_rl m_lf m_ov m_pl g_S g_O g_Y g_H m_st g_W m_rm m_fs R) A) ([.ref q6, .int a0] : List Value).toArray s 0 0 A) (F0 m 2 ls [])) (g_M : Nat → Int32) (x1 : Int32) (x2 : Int32) (H : Heap) (locs : List Loc) (ls : Array Slot), va_P (dC, dI) kcl (mo_W q6 qA qB qF qR qC qL qS qO qY qH qW qM cyI cyJ cyZ m_th m_o m_f m_r m_b m_a u_F u_R g_F g_R g_C g_L m_rl m_lf m_ov m_pl g_S g_O g_Y g_H m_st g_W m_rm m_fs g_M) H → va_D A (mo_W q6 qA qB qF qR qC qL qS qO qY qH qW qM cyI cyJ cyZ m_th m_o m_f m_r m_b m_a u_F u_R g_F g_R g_C g_L m_rl m_lf m_ov m_pl g_S g_O g_Y g_H m_st g_W m_rm m_fs g_M) → va_S A s.heap H locs → lv_has ls 6 [(0, .ref q6), (1, .int x1), (2, .int x2), (3, .int (3 : Int32))] → vc_X6_spread_i2_s10_3 fu v_2 m_o m_f g_F g_C g_M x1 x2 → cf_X6_spread_i2_s10_3 fu k_2 m_o m_f g_F g_C g_M x1 x2 = R → W p l e (headSpec wsX6_spread ({ frames := 0, cells := 0, slots := 0, locals := 0 })).room s m ([.ref q6, .int a0] : List Value).toArray below meth c H locs 0 0 (MQ below (mu_Q none (dC, dI) kcl (mo_W q6 qA qB qF qR qC qL qS qO qY qH qW qM cyI cyJ cyZ m_th m_o m_f m_r m_b m_a u_F u_R g_F g_R g_C g_L m_rl m_lf m_ov m_pl g_S g_O g_Y g_H m_st g_W m_rm m_fs R) A) ([.ref q6, .int a0] : List Value).toArray s 0 0 A) (F0 m 10 ls []) := by
    intro k_2 v_2 H_2 g_M x1 x2 H locs ls hP hD hS hl hV hR
    unfold cf_X6_spread_i2_s10_3 at hR
    unfold vc_X6_spread_i2_s10_3 at hV
    refine lv_iload_n hx hb dX6_spread_10 rfl (lv_at hl 3 rfl) ?_
    refine lv_aload_n hx hb dX6_spread_11 rfl (lv_at hl 0 rfl) ?_
    refine va_get (D := (dC, dI)) (ci := 4) (v := .int m_o) (C := RX6) (T := TX6) (N := 25) hx hb hts h1_ hown hK hP 0 rfl rfl 1 (by decide) h0_ (fun _ h9 => h9) rfl dX6_spread_12 ?_
    refine lv_icmp_ge (tgt := 106) hx hb dX6_spread_15 (by decide) (fun c_8 => ?_) (fun c_8 => ?_)
    · rw [if_pos c_8] at hR
      have hV := hV.1 c_8
      refine lv_goto (tgt := 2) hx hb dX6_spread_106 (by decide) ?_
      exact H_2 g_M x1 x2 H locs ls hP hD hS (lv_sub hl [0, 1, 2] rfl) hV hR
    · rw [if_neg c_8] at hR
      have hV := hV.2 c_8
      refine lv_iconst (v := (0 : Int32)) hx hb dX6_spread_18 (by decide +kernel) ?_
      refine lv_istore (lv' := [(4, .int (0 : Int32)), (0, .ref q6), (1, .int x1), (2, .int x2), (3, .int (3 : Int32))]) hx hb dX6_spread_19 hl (by decide) rfl (fun ls hl => ?_)
      exact Ki2_s21_3_0 k_2 v_2 H_2 g_M x1 x2 H locs ls hP hD hS (lv_sub hl [1, 2, 3, 4, 0] rfl) hV hR
  have Ki2_s100_2 : ∀ (k_2 : Int32 → Int32 → (Nat → Int32) → (Nat → Int32) → (Nat → Int32) → Int32 → Int32 → (Nat → Int32)) (v_2 : Int32 → Int32 → (Nat → Int32) → (Nat → Int32) → (Nat → Int32) → Int32 → Int32 → Prop) (H_2 : ∀ (g_M : Nat → Int32) (x1 : Int32) (x2 : Int32) (H : Heap) (locs : List Loc) (ls : Array Slot), va_P (dC, dI) kcl (mo_W q6 qA qB qF qR qC qL qS qO qY qH qW qM cyI cyJ cyZ m_th m_o m_f m_r m_b m_a u_F u_R g_F g_R g_C g_L m_rl m_lf m_ov m_pl g_S g_O g_Y g_H m_st g_W m_rm m_fs g_M) H → va_D A (mo_W q6 qA qB qF qR qC qL qS qO qY qH qW qM cyI cyJ cyZ m_th m_o m_f m_r m_b m_a u_F u_R g_F g_R g_C g_L m_rl m_lf m_ov m_pl g_S g_O g_Y g_H m_st g_W m_rm m_fs g_M) → va_S A s.heap H locs → lv_has ls 6 [(0, .ref q6), (1, .int x1), (2, .int x2)] → v_2 m_o m_f g_F g_C g_M x1 x2 → k_2 m_o m_f g_F g_C g_M x1 x2 = R → W p l e (headSpec wsX6_spread ({ frames := 0, cells := 0, slots := 0, locals := 0 })).room s m ([.ref q6, .int a0] : List Value).toArray below meth c H locs 0 0 (MQ below (mu_Q none (dC, dI) kcl (mo_W q6 qA qB qF qR qC qL qS qO qY qH qW qM cyI cyJ cyZ m_th m_o m_f m_r m_b m_a u_F u_R g_F g_R g_C g_L m_rl m_lf m_ov m_pl g_S g_O g_Y g_H m_st g_W m_rm m_fs R) A) ([.ref q6, .int a0] : List Value).toArray s 0 0 A) (F0 m 2 ls [])) (g_M : Nat → Int32) (x1 : Int32) (x2 : Int32) (H : Heap) (locs : List Loc) (ls : Array Slot), va_P (dC, dI) kcl (mo_W q6 qA qB qF qR qC qL qS qO qY qH qW qM cyI cyJ cyZ m_th m_o m_f m_r m_b m_a u_F u_R g_F g_R g_C g_L m_rl m_lf m_ov m_pl g_S g_O g_Y g_H m_st g_W m_rm m_fs g_M) H → va_D A (mo_W q6 qA qB qF qR qC qL qS qO qY qH qW qM cyI cyJ cyZ m_th m_o m_f m_r m_b m_a u_F u_R g_F g_R g_C g_L m_rl m_lf m_ov m_pl g_S g_O g_Y g_H m_st g_W m_rm m_fs g_M) → va_S A s.heap H locs → lv_has ls 6 [(0, .ref q6), (1, .int x1), (2, .int x2), (3, .int (2 : Int32))] → vc_X6_spread_i2_s100_2 fu v_2 m_o m_f g_F g_C g_M x1 x2 → cf_X6_spread_i2_s100_2 fu k_2 m_o m_f g_F g_C g_M x1 x2 = R → W p l e (headSpec wsX6_spread ({ frames := 0, cells := 0, slots := 0, locals := 0 })).room s m ([.ref q6, .int a0] : List Value).toArray below meth c H locs 0 0 (MQ below (mu_Q none (dC, dI) kcl (mo_W q6 qA qB qF qR qC qL qS qO qY qH qW qM cyI cyJ cyZ m_th m_o m_f m_r m_b m_a u_F u_R g_F g_R g_C g_L m_rl m_lf m_ov m_pl g_S g_O g_Y g_H m_st g_W m_rm m_fs R) A) ([.ref q6, .int a0] : List Value).toArray s 0 0 A) (F0 m 100 ls []) := by
    intro k_2 v_2 H_2 g_M x1 x2 H locs ls hP hD hS hl hV hR
    unfold cf_X6_spread_i2_s100_2 at hR
    unfold vc_X6_spread_i2_s100_2 at hV
    refine lv_iinc (v := (3 : Int32)) (lv' := [(3, .int (3 : Int32)), (0, .ref q6), (1, .int x1), (2, .int x2)]) hx hb dX6_spread_100 hl (k := 3) rfl (by decide +kernel) (by decide) rfl (fun ls hl => ?_)
    refine lv_goto (tgt := 10) hx hb dX6_spread_103 (by decide) ?_
    exact Ki2_s10_3 k_2 v_2 H_2 g_M x1 x2 H locs ls hP hD hS (lv_sub hl [1, 2, 3, 0] rfl) hV hR
  have Ki2_s21_2_2 : ∀ (k_2 : Int32 → Int32 → (Nat → Int32) → (Nat → Int32) → (Nat → Int32) → Int32 → Int32 → (Nat → Int32)) (v_2 : Int32 → Int32 → (Nat → Int32) → (Nat → Int32) → (Nat → Int32) → Int32 → Int32 → Prop) (H_2 : ∀ (g_M : Nat → Int32) (x1 : Int32) (x2 : Int32) (H : Heap) (locs : List Loc) (ls : Array Slot), va_P (dC, dI) kcl (mo_W q6 qA qB qF qR qC qL qS qO qY qH qW qM cyI cyJ cyZ m_th m_o m_f m_r m_b m_a u_F u_R g_F g_R g_C g_L m_rl m_lf m_ov m_pl g_S g_O g_Y g_H m_st g_W m_rm m_fs g_M) H → va_D A (mo_W q6 qA qB qF qR qC qL qS qO qY qH qW qM cyI cyJ cyZ m_th m_o m_f m_r m_b m_a u_F u_R g_F g_R g_C g_L m_rl m_lf m_ov m_pl g_S g_O g_Y g_H m_st g_W m_rm m_fs g_M) → va_S A s.heap H locs → lv_has ls 6 [(0, .ref q6), (1, .int x1), (2, .int x2)] → v_2 m_o m_f g_F g_C g_M x1 x2 → k_2 m_o m_f g_F g_C g_M x1 x2 = R → W p l e (headSpec wsX6_spread ({ frames := 0, cells := 0, slots := 0, locals := 0 })).room s m ([.ref q6, .int a0] : List Value).toArray below meth c H locs 0 0 (MQ below (mu_Q none (dC, dI) kcl (mo_W q6 qA qB qF qR qC qL qS qO qY qH qW qM cyI cyJ cyZ m_th m_o m_f m_r m_b m_a u_F u_R g_F g_R g_C g_L m_rl m_lf m_ov m_pl g_S g_O g_Y g_H m_st g_W m_rm m_fs R) A) ([.ref q6, .int a0] : List Value).toArray s 0 0 A) (F0 m 2 ls [])) (g_M : Nat → Int32) (x1 : Int32) (x2 : Int32) (H : Heap) (locs : List Loc) (ls : Array Slot), va_P (dC, dI) kcl (mo_W q6 qA qB qF qR qC qL qS qO qY qH qW qM cyI cyJ cyZ m_th m_o m_f m_r m_b m_a u_F u_R g_F g_R g_C g_L m_rl m_lf m_ov m_pl g_S g_O g_Y g_H m_st g_W m_rm m_fs g_M) H → va_D A (mo_W q6 qA qB qF qR qC qL qS qO qY qH qW qM cyI cyJ cyZ m_th m_o m_f m_r m_b m_a u_F u_R g_F g_R g_C g_L m_rl m_lf m_ov m_pl g_S g_O g_Y g_H m_st g_W m_rm m_fs g_M) → va_S A s.heap H locs → lv_has ls 6 [(0, .ref q6), (1, .int x1), (2, .int x2), (3, .int (2 : Int32)), (4, .int (2 : Int32))] → vc_X6_spread_i2_s21_2_2 fu v_2 m_o m_f g_F g_C g_M x1 x2 → cf_X6_spread_i2_s21_2_2 fu k_2 m_o m_f g_F g_C g_M x1 x2 = R → W p l e (headSpec wsX6_spread ({ frames := 0, cells := 0, slots := 0, locals := 0 })).room s m ([.ref q6, .int a0] : List Value).toArray below meth c H locs 0 0 (MQ below (mu_Q none (dC, dI) kcl (mo_W q6 qA qB qF qR qC qL qS qO qY qH qW qM cyI cyJ cyZ m_th m_o m_f m_r m_b m_a u_F u_R g_F g_R g_C g_L m_rl m_lf m_ov m_pl g_S g_O g_Y g_H m_st g_W m_rm m_fs R) A) ([.ref q6, .int a0] : List Value).toArray s 0 0 A) (F0 m 21 ls []) := by
    intro k_2 v_2 H_2 g_M x1 x2 H locs ls hP hD hS hl hV hR
    unfold cf_X6_spread_i2_s21_2_2 at hR
    unfold vc_X6_spread_i2_s21_2_2 at hV
    refine lv_iload hx hb dX6_spread_21 (lv_at hl 4 rfl) ?_
    refine lv_aload_n hx hb dX6_spread_23 rfl (lv_at hl 0 rfl) ?_
    refine va_get (D := (dC, dI)) (ci := 4) (v := .int m_f) (C := RX6) (T := TX6) (N := 25) hx hb hts h1_ hown hK hP 0 rfl rfl 2 (by decide) h2_ (fun _ h9 => h9) rfl dX6_spread_24 ?_
    refine lv_icmp_ge (tgt := 100) hx hb dX6_spread_27 (by decide) (fun _ => ?_) (fun c_0 => absurd hm_f c_0)
    exact Ki2_s100_2 k_2 v_2 H_2 g_M x1 x2 H locs ls hP hD hS (lv_sub hl [0, 1, 2, 3] rfl) hV hR
  have Ki2_s94_2_1 : ∀ (k_2 : Int32 → Int32 → (Nat → Int32) → (Nat → Int32) → (Nat → Int32) → Int32 → Int32 → (Nat → Int32)) (v_2 : Int32 → Int32 → (Nat → Int32) → (Nat → Int32) → (Nat → Int32) → Int32 → Int32 → Prop) (H_2 : ∀ (g_M : Nat → Int32) (x1 : Int32) (x2 : Int32) (H : Heap) (locs : List Loc) (ls : Array Slot), va_P (dC, dI) kcl (mo_W q6 qA qB qF qR qC qL qS qO qY qH qW qM cyI cyJ cyZ m_th m_o m_f m_r m_b m_a u_F u_R g_F g_R g_C g_L m_rl m_lf m_ov m_pl g_S g_O g_Y g_H m_st g_W m_rm m_fs g_M) H → va_D A (mo_W q6 qA qB qF qR qC qL qS qO qY qH qW qM cyI cyJ cyZ m_th m_o m_f m_r m_b m_a u_F u_R g_F g_R g_C g_L m_rl m_lf m_ov m_pl g_S g_O g_Y g_H m_st g_W m_rm m_fs g_M) → va_S A s.heap H locs → lv_has ls 6 [(0, .ref q6), (1, .int x1), (2, .int x2)] → v_2 m_o m_f g_F g_C g_M x1 x2 → k_2 m_o m_f g_F g_C g_M x1 x2 = R → W p l e (headSpec wsX6_spread ({ frames := 0, cells := 0, slots := 0, locals := 0 })).room s m ([.ref q6, .int a0] : List Value).toArray below meth c H locs 0 0 (MQ below (mu_Q none (dC, dI) kcl (mo_W q6 qA qB qF qR qC qL qS qO qY qH qW qM cyI cyJ cyZ m_th m_o m_f m_r m_b m_a u_F u_R g_F g_R g_C g_L m_rl m_lf m_ov m_pl g_S g_O g_Y g_H m_st g_W m_rm m_fs R) A) ([.ref q6, .int a0] : List Value).toArray s 0 0 A) (F0 m 2 ls [])) (g_M : Nat → Int32) (x1 : Int32) (x2 : Int32) (H : Heap) (locs : List Loc) (ls : Array Slot), va_P (dC, dI) kcl (mo_W q6 qA qB qF qR qC qL qS qO qY qH qW qM cyI cyJ cyZ m_th m_o m_f m_r m_b m_a u_F u_R g_F g_R g_C g_L m_rl m_lf m_ov m_pl g_S g_O g_Y g_H m_st g_W m_rm m_fs g_M) H → va_D A (mo_W q6 qA qB qF qR qC qL qS qO qY qH qW qM cyI cyJ cyZ m_th m_o m_f m_r m_b m_a u_F u_R g_F g_R g_C g_L m_rl m_lf m_ov m_pl g_S g_O g_Y g_H m_st g_W m_rm m_fs g_M) → va_S A s.heap H locs → lv_has ls 6 [(0, .ref q6), (1, .int x1), (2, .int x2), (3, .int (2 : Int32)), (4, .int (1 : Int32))] → vc_X6_spread_i2_s94_2_1 fu v_2 m_o m_f g_F g_C g_M x1 x2 → cf_X6_spread_i2_s94_2_1 fu k_2 m_o m_f g_F g_C g_M x1 x2 = R → W p l e (headSpec wsX6_spread ({ frames := 0, cells := 0, slots := 0, locals := 0 })).room s m ([.ref q6, .int a0] : List Value).toArray below meth c H locs 0 0 (MQ below (mu_Q none (dC, dI) kcl (mo_W q6 qA qB qF qR qC qL qS qO qY qH qW qM cyI cyJ cyZ m_th m_o m_f m_r m_b m_a u_F u_R g_F g_R g_C g_L m_rl m_lf m_ov m_pl g_S g_O g_Y g_H m_st g_W m_rm m_fs R) A) ([.ref q6, .int a0] : List Value).toArray s 0 0 A) (F0 m 94 ls []) := by
    intro k_2 v_2 H_2 g_M x1 x2 H locs ls hP hD hS hl hV hR
    unfold cf_X6_spread_i2_s94_2_1 at hR
    unfold vc_X6_spread_i2_s94_2_1 at hV
    refine lv_iinc (v := (2 : Int32)) (lv' := [(4, .int (2 : Int32)), (0, .ref q6), (1, .int x1), (2, .int x2), (3, .int (2 : Int32))]) hx hb dX6_spread_94 hl (k := 4) rfl (by decide +kernel) (by decide) rfl (fun ls hl => ?_)
    refine lv_goto (tgt := 21) hx hb dX6_spread_97 (by decide) ?_
    exact Ki2_s21_2_2 k_2 v_2 H_2 g_M x1 x2 H locs ls hP hD hS (lv_sub hl [1, 2, 3, 4, 0] rfl) hV hR
  have Ki2_s84_2_1 : ∀ (k_2 : Int32 → Int32 → (Nat → Int32) → (Nat → Int32) → (Nat → Int32) → Int32 → Int32 → (Nat → Int32)) (v_2 : Int32 → Int32 → (Nat → Int32) → (Nat → Int32) → (Nat → Int32) → Int32 → Int32 → Prop) (H_2 : ∀ (g_M : Nat → Int32) (x1 : Int32) (x2 : Int32) (H : Heap) (locs : List Loc) (ls : Array Slot), va_P (dC, dI) kcl (mo_W q6 qA qB qF qR qC qL qS qO qY qH qW qM cyI cyJ cyZ m_th m_o m_f m_r m_b m_a u_F u_R g_F g_R g_C g_L m_rl m_lf m_ov m_pl g_S g_O g_Y g_H m_st g_W m_rm m_fs g_M) H → va_D A (mo_W q6 qA qB qF qR qC qL qS qO qY qH qW qM cyI cyJ cyZ m_th m_o m_f m_r m_b m_a u_F u_R g_F g_R g_C g_L m_rl m_lf m_ov m_pl g_S g_O g_Y g_H m_st g_W m_rm m_fs g_M) → va_S A s.heap H locs → lv_has ls 6 [(0, .ref q6), (1, .int x1), (2, .int x2)] → v_2 m_o m_f g_F g_C g_M x1 x2 → k_2 m_o m_f g_F g_C g_M x1 x2 = R → W p l e (headSpec wsX6_spread ({ frames := 0, cells := 0, slots := 0, locals := 0 })).room s m ([.ref q6, .int a0] : List Value).toArray below meth c H locs 0 0 (MQ below (mu_Q none (dC, dI) kcl (mo_W q6 qA qB qF qR qC qL qS qO qY qH qW qM cyI cyJ cyZ m_th m_o m_f m_r m_b m_a u_F u_R g_F g_R g_C g_L m_rl m_lf m_ov m_pl g_S g_O g_Y g_H m_st g_W m_rm m_fs R) A) ([.ref q6, .int a0] : List Value).toArray s 0 0 A) (F0 m 2 ls [])) (g_M : Nat → Int32) (x1 : Int32) (x5 : Int32) (H : Heap) (locs : List Loc) (ls : Array Slot), va_P (dC, dI) kcl (mo_W q6 qA qB qF qR qC qL qS qO qY qH qW qM cyI cyJ cyZ m_th m_o m_f m_r m_b m_a u_F u_R g_F g_R g_C g_L m_rl m_lf m_ov m_pl g_S g_O g_Y g_H m_st g_W m_rm m_fs g_M) H → va_D A (mo_W q6 qA qB qF qR qC qL qS qO qY qH qW qM cyI cyJ cyZ m_th m_o m_f m_r m_b m_a u_F u_R g_F g_R g_C g_L m_rl m_lf m_ov m_pl g_S g_O g_Y g_H m_st g_W m_rm m_fs g_M) → va_S A s.heap H locs → lv_has ls 6 [(0, .ref q6), (1, .int x1), (3, .int (2 : Int32)), (4, .int (1 : Int32)), (5, .int x5)] → vc_X6_spread_i2_s84_2_1 fu v_2 m_o m_f g_F g_C g_M x1 x5 → cf_X6_spread_i2_s84_2_1 fu k_2 m_o m_f g_F g_C g_M x1 x5 = R → W p l e (headSpec wsX6_spread ({ frames := 0, cells := 0, slots := 0, locals := 0 })).room s m ([.ref q6, .int a0] : List Value).toArray below meth c H locs 0 0 (MQ below (mu_Q none (dC, dI) kcl (mo_W q6 qA qB qF qR qC qL qS qO qY qH qW qM cyI cyJ cyZ m_th m_o m_f m_r m_b m_a u_F u_R g_F g_R g_C g_L m_rl m_lf m_ov m_pl g_S g_O g_Y g_H m_st g_W m_rm m_fs R) A) ([.ref q6, .int a0] : List Value).toArray s 0 0 A) (F0 m 84 ls []) := by
    intro k_2 v_2 H_2 g_M x1 x5 H locs ls hP hD hS hl hV hR
    unfold cf_X6_spread_i2_s84_2_1 at hR
    unfold vc_X6_spread_i2_s84_2_1 at hV
    refine lv_aload_n hx hb dX6_spread_84 rfl (lv_at hl 0 rfl) ?_
    refine va_get (D := (dC, dI)) (ci := 4) (v := .ref qM) (C := RX6) (T := TX6) (N := 25) hx hb hts h1_ hown hK hP 0 rfl rfl 24 (by decide) h3_ (fun _ h9 => h9) rfl dX6_spread_85 ?_
    refine lv_iload hx hb dX6_spread_88 (lv_at hl 4 rfl) ?_
    refine lv_iconst (v := (1 : Int32)) hx hb dX6_spread_90 (by decide +kernel) ?_
    obtain ⟨hi35, hV⟩ := hV
    refine va_zast hx hb hK hP hD hS 12 2 rfl rfl hi35 dX6_spread_91 (fun H locs hP hD hS => ?_)
    have hP : va_P (dC, dI) kcl (mo_W q6 qA qB qF qR qC qL qS qO qY qH qW qM cyI cyJ cyZ m_th m_o m_f m_r m_b m_a u_F u_R g_F g_R g_C g_L m_rl m_lf m_ov m_pl g_S g_O g_Y g_H m_st g_W m_rm m_fs (upd g_M (x5).toNatClampNeg (vp_nar .boolean (1 : Int32)))) H := hP
    have hD : va_D A (mo_W q6 qA qB qF qR qC qL qS qO qY qH qW qM cyI cyJ cyZ m_th m_o m_f m_r m_b m_a u_F u_R g_F g_R g_C g_L m_rl m_lf m_ov m_pl g_S g_O g_Y g_H m_st g_W m_rm m_fs (upd g_M (x5).toNatClampNeg (vp_nar .boolean (1 : Int32)))) := hD
    refine lv_iconst (v := (1 : Int32)) hx hb dX6_spread_92 (by decide +kernel) ?_
    refine lv_istore_n (lv' := [(2, .int (1 : Int32)), (0, .ref q6), (1, .int x1), (3, .int (2 : Int32)), (4, .int (1 : Int32)), (5, .int x5)]) hx hb dX6_spread_93 rfl hl (by decide) rfl (fun ls hl => ?_)
    exact Ki2_s94_2_1 k_2 v_2 H_2 (upd g_M (x5).toNatClampNeg (vp_nar .boolean (1 : Int32))) x1 (1 : Int32) H locs ls hP hD hS (lv_sub hl [1, 2, 0, 3, 4] rfl) hV hR
  have Ki2_s21_2_1 : ∀ (k_2 : Int32 → Int32 → (Nat → Int32) → (Nat → Int32) → (Nat → Int32) → Int32 → Int32 → (Nat → Int32)) (v_2 : Int32 → Int32 → (Nat → Int32) → (Nat → Int32) → (Nat → Int32) → Int32 → Int32 → Prop) (H_2 : ∀ (g_M : Nat → Int32) (x1 : Int32) (x2 : Int32) (H : Heap) (locs : List Loc) (ls : Array Slot), va_P (dC, dI) kcl (mo_W q6 qA qB qF qR qC qL qS qO qY qH qW qM cyI cyJ cyZ m_th m_o m_f m_r m_b m_a u_F u_R g_F g_R g_C g_L m_rl m_lf m_ov m_pl g_S g_O g_Y g_H m_st g_W m_rm m_fs g_M) H → va_D A (mo_W q6 qA qB qF qR qC qL qS qO qY qH qW qM cyI cyJ cyZ m_th m_o m_f m_r m_b m_a u_F u_R g_F g_R g_C g_L m_rl m_lf m_ov m_pl g_S g_O g_Y g_H m_st g_W m_rm m_fs g_M) → va_S A s.heap H locs → lv_has ls 6 [(0, .ref q6), (1, .int x1), (2, .int x2)] → v_2 m_o m_f g_F g_C g_M x1 x2 → k_2 m_o m_f g_F g_C g_M x1 x2 = R → W p l e (headSpec wsX6_spread ({ frames := 0, cells := 0, slots := 0, locals := 0 })).room s m ([.ref q6, .int a0] : List Value).toArray below meth c H locs 0 0 (MQ below (mu_Q none (dC, dI) kcl (mo_W q6 qA qB qF qR qC qL qS qO qY qH qW qM cyI cyJ cyZ m_th m_o m_f m_r m_b m_a u_F u_R g_F g_R g_C g_L m_rl m_lf m_ov m_pl g_S g_O g_Y g_H m_st g_W m_rm m_fs R) A) ([.ref q6, .int a0] : List Value).toArray s 0 0 A) (F0 m 2 ls [])) (g_M : Nat → Int32) (x1 : Int32) (x2 : Int32) (H : Heap) (locs : List Loc) (ls : Array Slot), va_P (dC, dI) kcl (mo_W q6 qA qB qF qR qC qL qS qO qY qH qW qM cyI cyJ cyZ m_th m_o m_f m_r m_b m_a u_F u_R g_F g_R g_C g_L m_rl m_lf m_ov m_pl g_S g_O g_Y g_H m_st g_W m_rm m_fs g_M) H → va_D A (mo_W q6 qA qB qF qR qC qL qS qO qY qH qW qM cyI cyJ cyZ m_th m_o m_f m_r m_b m_a u_F u_R g_F g_R g_C g_L m_rl m_lf m_ov m_pl g_S g_O g_Y g_H m_st g_W m_rm m_fs g_M) → va_S A s.heap H locs → lv_has ls 6 [(0, .ref q6), (1, .int x1), (2, .int x2), (3, .int (2 : Int32)), (4, .int (1 : Int32))] → vc_X6_spread_i2_s21_2_1 fu v_2 m_o m_f g_F g_C g_M x1 x2 → cf_X6_spread_i2_s21_2_1 fu k_2 m_o m_f g_F g_C g_M x1 x2 = R → W p l e (headSpec wsX6_spread ({ frames := 0, cells := 0, slots := 0, locals := 0 })).room s m ([.ref q6, .int a0] : List Value).toArray below meth c H locs 0 0 (MQ below (mu_Q none (dC, dI) kcl (mo_W q6 qA qB qF qR qC qL qS qO qY qH qW qM cyI cyJ cyZ m_th m_o m_f m_r m_b m_a u_F u_R g_F g_R g_C g_L m_rl m_lf m_ov m_pl g_S g_O g_Y g_H m_st g_W m_rm m_fs R) A) ([.ref q6, .int a0] : List Value).toArray s 0 0 A) (F0 m 21 ls []) := by
    intro k_2 v_2 H_2 g_M x1 x2 H locs ls hP hD hS hl hV hR
    unfold cf_X6_spread_i2_s21_2_1 at hR
    unfold vc_X6_spread_i2_s21_2_1 at hV
    refine lv_iload hx hb dX6_spread_21 (lv_at hl 4 rfl) ?_
    refine lv_aload_n hx hb dX6_spread_23 rfl (lv_at hl 0 rfl) ?_
    refine va_get (D := (dC, dI)) (ci := 4) (v := .int m_f) (C := RX6) (T := TX6) (N := 25) hx hb hts h1_ hown hK hP 0 rfl rfl 2 (by decide) h2_ (fun _ h9 => h9) rfl dX6_spread_24 ?_
    refine lv_icmp_ge (tgt := 100) hx hb dX6_spread_27 (by decide) (fun c_29 => ?_) (fun c_29 => ?_)
    · rw [if_pos c_29] at hR
      have hV := hV.1 c_29
      exact Ki2_s100_2 k_2 v_2 H_2 g_M x1 x2 H locs ls hP hD hS (lv_sub hl [0, 1, 2, 3] rfl) hV hR
    · rw [if_neg c_29] at hR
      have hV := hV.2 c_29
      refine lv_aload_n hx hb dX6_spread_30 rfl (lv_at hl 0 rfl) ?_
      refine va_get (D := (dC, dI)) (ci := 4) (v := .ref qM) (C := RX6) (T := TX6) (N := 25) hx hb hts h1_ hown hK hP 0 rfl rfl 24 (by decide) h3_ (fun _ h9 => h9) rfl dX6_spread_31 ?_
      refine lv_iload_n hx hb dX6_spread_34 rfl (lv_at hl 3 rfl) ?_
      refine va_zald hx hb hK hP 12 2 rfl rfl (by unfold vp_in; decide +kernel) dX6_spread_35 ?_
      refine lv_if_eq (tgt := 100) hx hb dX6_spread_36 (by decide) (fun c_30 => ?_) (fun c_30 => ?_)
      · rw [if_pos c_30] at hR
        have hV := hV.1 c_30
        exact Ki2_s100_2 k_2 v_2 H_2 g_M x1 x2 H locs ls hP hD hS (lv_sub hl [0, 1, 2, 3] rfl) hV hR
      · rw [if_neg c_30] at hR
        have hV := hV.2 c_30
        refine lv_aload_n hx hb dX6_spread_39 rfl (lv_at hl 0 rfl) ?_
        refine va_get (D := (dC, dI)) (ci := 4) (v := .ref qF) (C := RX6) (T := TX6) (N := 25) hx hb hts h1_ hown hK hP 0 rfl rfl 8 (by decide) h4_ (fun _ h9 => h9) rfl dX6_spread_40 ?_
        refine lv_iconst (v := (2 : Int32)) hx hb dX6_spread_43 (by decide +kernel) ?_
        refine lv_iload_n hx hb dX6_spread_44 rfl (lv_at hl 3 rfl) ?_
        refine lv_imul hx hb dX6_spread_45 ?_
        refine ek_v (P := fun z => W p l e (headSpec wsX6_spread ({ frames := 0, cells := 0, slots := 0, locals := 0 })).room s m ([.ref q6, .int a0] : List Value).toArray below meth c H locs 0 0 _ (F0 m 46 ls (.int z :: [.ref qF]))) (b := (4 : Int32)) (by decide +kernel) ?_
        refine lv_iload hx hb dX6_spread_46 (lv_at hl 4 rfl) ?_
        refine lv_iadd hx hb dX6_spread_48 ?_
        refine ek_v (P := fun z => W p l e (headSpec wsX6_spread ({ frames := 0, cells := 0, slots := 0, locals := 0 })).room s m ([.ref q6, .int a0] : List Value).toArray below meth c H locs 0 0 _ (F0 m 49 ls (.int z :: [.ref qF]))) (b := (5 : Int32)) (by decide +kernel) ?_
        refine va_iald hx hb hK hP 3 0 rfl rfl (by unfold vp_in; decide +kernel) dX6_spread_49 ?_
        refine lv_istore (lv' := [(5, .int (g_F ((5 : Int32)).toNatClampNeg)), (0, .ref q6), (1, .int x1), (2, .int x2), (3, .int (2 : Int32)), (4, .int (1 : Int32))]) hx hb dX6_spread_50 hl (by decide) rfl (fun ls hl => ?_)
        refine lv_iload hx hb dX6_spread_52 (lv_at hl 0 rfl) ?_
        refine lv_if_lt (tgt := 94) hx hb dX6_spread_54 (by decide) (fun c_31 => ?_) (fun c_31 => ?_)
        · rw [if_pos c_31] at hR
          have hV := hV.1 c_31
          exact Ki2_s94_2_1 k_2 v_2 H_2 g_M x1 x2 H locs ls hP hD hS (lv_sub hl [1, 2, 3, 4, 5] rfl) hV hR
        · rw [if_neg c_31] at hR
          have hV := hV.2 c_31
          refine lv_aload_n hx hb dX6_spread_57 rfl (lv_at hl 1 rfl) ?_
          refine va_get (D := (dC, dI)) (ci := 4) (v := .ref qM) (C := RX6) (T := TX6) (N := 25) hx hb hts h1_ hown hK hP 0 rfl rfl 24 (by decide) h3_ (fun _ h9 => h9) rfl dX6_spread_58 ?_
          refine lv_iload hx hb dX6_spread_61 (lv_at hl 0 rfl) ?_
          obtain ⟨hi32, hV⟩ := hV
          refine va_zald hx hb hK hP 12 2 rfl rfl hi32 dX6_spread_63 ?_
          refine lv_if_ne (tgt := 94) hx hb dX6_spread_64 (by decide) (fun c_33 => ?_) (fun c_33 => ?_)
          · rw [if_neg c_33] at hR
            have hV := hV.2 c_33
            exact Ki2_s94_2_1 k_2 v_2 H_2 g_M x1 x2 H locs ls hP hD hS (lv_sub hl [1, 2, 3, 4, 5] rfl) hV hR
          · rw [if_pos c_33] at hR
            have hV := hV.1 c_33
            refine lv_iload_n hx hb dX6_spread_67 rfl (lv_at hl 2 rfl) ?_
            refine lv_if_eq (tgt := 84) hx hb dX6_spread_68 (by decide) (fun c_34 => ?_) (fun c_34 => ?_)
            · rw [if_pos c_34] at hR
              have hV := hV.1 c_34
              exact Ki2_s84_2_1 k_2 v_2 H_2 g_M x1 (g_F ((5 : Int32)).toNatClampNeg) H locs ls hP hD hS (lv_sub hl [1, 2, 4, 5, 0] rfl) hV hR
            · rw [if_neg c_34] at hR
              have hV := hV.2 c_34
              refine lv_aload_n hx hb dX6_spread_71 rfl (lv_at hl 1 rfl) ?_
              refine va_get (D := (dC, dI)) (ci := 4) (v := .ref qC) (C := RX6) (T := TX6) (N := 25) hx hb hts h1_ hown hK hP 0 rfl rfl 10 (by decide) h5_ (fun _ h9 => h9) rfl dX6_spread_72 ?_
              refine lv_iload hx hb dX6_spread_75 (lv_at hl 0 rfl) ?_
              obtain ⟨hi36, hV⟩ := hV
              refine va_iald hx hb hK hP 5 0 rfl rfl hi36 dX6_spread_77 ?_
              refine lv_if_eq (tgt := 84) hx hb dX6_spread_78 (by decide) (fun c_37 => ?_) (fun c_37 => ?_)
              · rw [if_pos c_37] at hR
                have hV := hV.1 c_37
                exact Ki2_s84_2_1 k_2 v_2 H_2 g_M x1 (g_F ((5 : Int32)).toNatClampNeg) H locs ls hP hD hS (lv_sub hl [1, 2, 4, 5, 0] rfl) hV hR
              · rw [if_neg c_37] at hR
                have hV := hV.2 c_37
                refine lv_goto (tgt := 94) hx hb dX6_spread_81 (by decide) ?_
                exact Ki2_s94_2_1 k_2 v_2 H_2 g_M x1 x2 H locs ls hP hD hS (lv_sub hl [1, 2, 3, 4, 5] rfl) hV hR
  have Ki2_s94_2_0 : ∀ (k_2 : Int32 → Int32 → (Nat → Int32) → (Nat → Int32) → (Nat → Int32) → Int32 → Int32 → (Nat → Int32)) (v_2 : Int32 → Int32 → (Nat → Int32) → (Nat → Int32) → (Nat → Int32) → Int32 → Int32 → Prop) (H_2 : ∀ (g_M : Nat → Int32) (x1 : Int32) (x2 : Int32) (H : Heap) (locs : List Loc) (ls : Array Slot), va_P (dC, dI) kcl (mo_W q6 qA qB qF qR qC qL qS qO qY qH qW qM cyI cyJ cyZ m_th m_o m_f m_r m_b m_a u_F u_R g_F g_R g_C g_L m_rl m_lf m_ov m_pl g_S g_O g_Y g_H m_st g_W m_rm m_fs g_M) H → va_D A (mo_W q6 qA qB qF qR qC qL qS qO qY qH qW qM cyI cyJ cyZ m_th m_o m_f m_r m_b m_a u_F u_R g_F g_R g_C g_L m_rl m_lf m_ov m_pl g_S g_O g_Y g_H m_st g_W m_rm m_fs g_M) → va_S A s.heap H locs → lv_has ls 6 [(0, .ref q6), (1, .int x1), (2, .int x2)] → v_2 m_o m_f g_F g_C g_M x1 x2 → k_2 m_o m_f g_F g_C g_M x1 x2 = R → W p l e (headSpec wsX6_spread ({ frames := 0, cells := 0, slots := 0, locals := 0 })).room s m ([.ref q6, .int a0] : List Value).toArray below meth c H locs 0 0 (MQ below (mu_Q none (dC, dI) kcl (mo_W q6 qA qB qF qR qC qL qS qO qY qH qW qM cyI cyJ cyZ m_th m_o m_f m_r m_b m_a u_F u_R g_F g_R g_C g_L m_rl m_lf m_ov m_pl g_S g_O g_Y g_H m_st g_W m_rm m_fs R) A) ([.ref q6, .int a0] : List Value).toArray s 0 0 A) (F0 m 2 ls [])) (g_M : Nat → Int32) (x1 : Int32) (x2 : Int32) (H : Heap) (locs : List Loc) (ls : Array Slot), va_P (dC, dI) kcl (mo_W q6 qA qB qF qR qC qL qS qO qY qH qW qM cyI cyJ cyZ m_th m_o m_f m_r m_b m_a u_F u_R g_F g_R g_C g_L m_rl m_lf m_ov m_pl g_S g_O g_Y g_H m_st g_W m_rm m_fs g_M) H → va_D A (mo_W q6 qA qB qF qR qC qL qS qO qY qH qW qM cyI cyJ cyZ m_th m_o m_f m_r m_b m_a u_F u_R g_F g_R g_C g_L m_rl m_lf m_ov m_pl g_S g_O g_Y g_H m_st g_W m_rm m_fs g_M) → va_S A s.heap H locs → lv_has ls 6 [(0, .ref q6), (1, .int x1), (2, .int x2), (3, .int (2 : Int32)), (4, .int (0 : Int32))] → vc_X6_spread_i2_s94_2_0 fu v_2 m_o m_f g_F g_C g_M x1 x2 → cf_X6_spread_i2_s94_2_0 fu k_2 m_o m_f g_F g_C g_M x1 x2 = R → W p l e (headSpec wsX6_spread ({ frames := 0, cells := 0, slots := 0, locals := 0 })).room s m ([.ref q6, .int a0] : List Value).toArray below meth c H locs 0 0 (MQ below (mu_Q none (dC, dI) kcl (mo_W q6 qA qB qF qR qC qL qS qO qY qH qW qM cyI cyJ cyZ m_th m_o m_f m_r m_b m_a u_F u_R g_F g_R g_C g_L m_rl m_lf m_ov m_pl g_S g_O g_Y g_H m_st g_W m_rm m_fs R) A) ([.ref q6, .int a0] : List Value).toArray s 0 0 A) (F0 m 94 ls []) := by
    intro k_2 v_2 H_2 g_M x1 x2 H locs ls hP hD hS hl hV hR
    unfold cf_X6_spread_i2_s94_2_0 at hR
    unfold vc_X6_spread_i2_s94_2_0 at hV
    refine lv_iinc (v := (1 : Int32)) (lv' := [(4, .int (1 : Int32)), (0, .ref q6), (1, .int x1), (2, .int x2), (3, .int (2 : Int32))]) hx hb dX6_spread_94 hl (k := 4) rfl (by decide +kernel) (by decide) rfl (fun ls hl => ?_)
    refine lv_goto (tgt := 21) hx hb dX6_spread_97 (by decide) ?_
    exact Ki2_s21_2_1 k_2 v_2 H_2 g_M x1 x2 H locs ls hP hD hS (lv_sub hl [1, 2, 3, 4, 0] rfl) hV hR
  have Ki2_s84_2_0 : ∀ (k_2 : Int32 → Int32 → (Nat → Int32) → (Nat → Int32) → (Nat → Int32) → Int32 → Int32 → (Nat → Int32)) (v_2 : Int32 → Int32 → (Nat → Int32) → (Nat → Int32) → (Nat → Int32) → Int32 → Int32 → Prop) (H_2 : ∀ (g_M : Nat → Int32) (x1 : Int32) (x2 : Int32) (H : Heap) (locs : List Loc) (ls : Array Slot), va_P (dC, dI) kcl (mo_W q6 qA qB qF qR qC qL qS qO qY qH qW qM cyI cyJ cyZ m_th m_o m_f m_r m_b m_a u_F u_R g_F g_R g_C g_L m_rl m_lf m_ov m_pl g_S g_O g_Y g_H m_st g_W m_rm m_fs g_M) H → va_D A (mo_W q6 qA qB qF qR qC qL qS qO qY qH qW qM cyI cyJ cyZ m_th m_o m_f m_r m_b m_a u_F u_R g_F g_R g_C g_L m_rl m_lf m_ov m_pl g_S g_O g_Y g_H m_st g_W m_rm m_fs g_M) → va_S A s.heap H locs → lv_has ls 6 [(0, .ref q6), (1, .int x1), (2, .int x2)] → v_2 m_o m_f g_F g_C g_M x1 x2 → k_2 m_o m_f g_F g_C g_M x1 x2 = R → W p l e (headSpec wsX6_spread ({ frames := 0, cells := 0, slots := 0, locals := 0 })).room s m ([.ref q6, .int a0] : List Value).toArray below meth c H locs 0 0 (MQ below (mu_Q none (dC, dI) kcl (mo_W q6 qA qB qF qR qC qL qS qO qY qH qW qM cyI cyJ cyZ m_th m_o m_f m_r m_b m_a u_F u_R g_F g_R g_C g_L m_rl m_lf m_ov m_pl g_S g_O g_Y g_H m_st g_W m_rm m_fs R) A) ([.ref q6, .int a0] : List Value).toArray s 0 0 A) (F0 m 2 ls [])) (g_M : Nat → Int32) (x1 : Int32) (x5 : Int32) (H : Heap) (locs : List Loc) (ls : Array Slot), va_P (dC, dI) kcl (mo_W q6 qA qB qF qR qC qL qS qO qY qH qW qM cyI cyJ cyZ m_th m_o m_f m_r m_b m_a u_F u_R g_F g_R g_C g_L m_rl m_lf m_ov m_pl g_S g_O g_Y g_H m_st g_W m_rm m_fs g_M) H → va_D A (mo_W q6 qA qB qF qR qC qL qS qO qY qH qW qM cyI cyJ cyZ m_th m_o m_f m_r m_b m_a u_F u_R g_F g_R g_C g_L m_rl m_lf m_ov m_pl g_S g_O g_Y g_H m_st g_W m_rm m_fs g_M) → va_S A s.heap H locs → lv_has ls 6 [(0, .ref q6), (1, .int x1), (3, .int (2 : Int32)), (4, .int (0 : Int32)), (5, .int x5)] → vc_X6_spread_i2_s84_2_0 fu v_2 m_o m_f g_F g_C g_M x1 x5 → cf_X6_spread_i2_s84_2_0 fu k_2 m_o m_f g_F g_C g_M x1 x5 = R → W p l e (headSpec wsX6_spread ({ frames := 0, cells := 0, slots := 0, locals := 0 })).room s m ([.ref q6, .int a0] : List Value).toArray below meth c H locs 0 0 (MQ below (mu_Q none (dC, dI) kcl (mo_W q6 qA qB qF qR qC qL qS qO qY qH qW qM cyI cyJ cyZ m_th m_o m_f m_r m_b m_a u_F u_R g_F g_R g_C g_L m_rl m_lf m_ov m_pl g_S g_O g_Y g_H m_st g_W m_rm m_fs R) A) ([.ref q6, .int a0] : List Value).toArray s 0 0 A) (F0 m 84 ls []) := by
    intro k_2 v_2 H_2 g_M x1 x5 H locs ls hP hD hS hl hV hR
    unfold cf_X6_spread_i2_s84_2_0 at hR
    unfold vc_X6_spread_i2_s84_2_0 at hV
    refine lv_aload_n hx hb dX6_spread_84 rfl (lv_at hl 0 rfl) ?_
    refine va_get (D := (dC, dI)) (ci := 4) (v := .ref qM) (C := RX6) (T := TX6) (N := 25) hx hb hts h1_ hown hK hP 0 rfl rfl 24 (by decide) h3_ (fun _ h9 => h9) rfl dX6_spread_85 ?_
    refine lv_iload hx hb dX6_spread_88 (lv_at hl 4 rfl) ?_
    refine lv_iconst (v := (1 : Int32)) hx hb dX6_spread_90 (by decide +kernel) ?_
    obtain ⟨hi41, hV⟩ := hV
    refine va_zast hx hb hK hP hD hS 12 2 rfl rfl hi41 dX6_spread_91 (fun H locs hP hD hS => ?_)
    have hP : va_P (dC, dI) kcl (mo_W q6 qA qB qF qR qC qL qS qO qY qH qW qM cyI cyJ cyZ m_th m_o m_f m_r m_b m_a u_F u_R g_F g_R g_C g_L m_rl m_lf m_ov m_pl g_S g_O g_Y g_H m_st g_W m_rm m_fs (upd g_M (x5).toNatClampNeg (vp_nar .boolean (1 : Int32)))) H := hP
    have hD : va_D A (mo_W q6 qA qB qF qR qC qL qS qO qY qH qW qM cyI cyJ cyZ m_th m_o m_f m_r m_b m_a u_F u_R g_F g_R g_C g_L m_rl m_lf m_ov m_pl g_S g_O g_Y g_H m_st g_W m_rm m_fs (upd g_M (x5).toNatClampNeg (vp_nar .boolean (1 : Int32)))) := hD
    refine lv_iconst (v := (1 : Int32)) hx hb dX6_spread_92 (by decide +kernel) ?_
    refine lv_istore_n (lv' := [(2, .int (1 : Int32)), (0, .ref q6), (1, .int x1), (3, .int (2 : Int32)), (4, .int (0 : Int32)), (5, .int x5)]) hx hb dX6_spread_93 rfl hl (by decide) rfl (fun ls hl => ?_)
    exact Ki2_s94_2_0 k_2 v_2 H_2 (upd g_M (x5).toNatClampNeg (vp_nar .boolean (1 : Int32))) x1 (1 : Int32) H locs ls hP hD hS (lv_sub hl [1, 2, 0, 3, 4] rfl) hV hR
  have Ki2_s21_2_0 : ∀ (k_2 : Int32 → Int32 → (Nat → Int32) → (Nat → Int32) → (Nat → Int32) → Int32 → Int32 → (Nat → Int32)) (v_2 : Int32 → Int32 → (Nat → Int32) → (Nat → Int32) → (Nat → Int32) → Int32 → Int32 → Prop) (H_2 : ∀ (g_M : Nat → Int32) (x1 : Int32) (x2 : Int32) (H : Heap) (locs : List Loc) (ls : Array Slot), va_P (dC, dI) kcl (mo_W q6 qA qB qF qR qC qL qS qO qY qH qW qM cyI cyJ cyZ m_th m_o m_f m_r m_b m_a u_F u_R g_F g_R g_C g_L m_rl m_lf m_ov m_pl g_S g_O g_Y g_H m_st g_W m_rm m_fs g_M) H → va_D A (mo_W q6 qA qB qF qR qC qL qS qO qY qH qW qM cyI cyJ cyZ m_th m_o m_f m_r m_b m_a u_F u_R g_F g_R g_C g_L m_rl m_lf m_ov m_pl g_S g_O g_Y g_H m_st g_W m_rm m_fs g_M) → va_S A s.heap H locs → lv_has ls 6 [(0, .ref q6), (1, .int x1), (2, .int x2)] → v_2 m_o m_f g_F g_C g_M x1 x2 → k_2 m_o m_f g_F g_C g_M x1 x2 = R → W p l e (headSpec wsX6_spread ({ frames := 0, cells := 0, slots := 0, locals := 0 })).room s m ([.ref q6, .int a0] : List Value).toArray below meth c H locs 0 0 (MQ below (mu_Q none (dC, dI) kcl (mo_W q6 qA qB qF qR qC qL qS qO qY qH qW qM cyI cyJ cyZ m_th m_o m_f m_r m_b m_a u_F u_R g_F g_R g_C g_L m_rl m_lf m_ov m_pl g_S g_O g_Y g_H m_st g_W m_rm m_fs R) A) ([.ref q6, .int a0] : List Value).toArray s 0 0 A) (F0 m 2 ls [])) (g_M : Nat → Int32) (x1 : Int32) (x2 : Int32) (H : Heap) (locs : List Loc) (ls : Array Slot), va_P (dC, dI) kcl (mo_W q6 qA qB qF qR qC qL qS qO qY qH qW qM cyI cyJ cyZ m_th m_o m_f m_r m_b m_a u_F u_R g_F g_R g_C g_L m_rl m_lf m_ov m_pl g_S g_O g_Y g_H m_st g_W m_rm m_fs g_M) H → va_D A (mo_W q6 qA qB qF qR qC qL qS qO qY qH qW qM cyI cyJ cyZ m_th m_o m_f m_r m_b m_a u_F u_R g_F g_R g_C g_L m_rl m_lf m_ov m_pl g_S g_O g_Y g_H m_st g_W m_rm m_fs g_M) → va_S A s.heap H locs → lv_has ls 6 [(0, .ref q6), (1, .int x1), (2, .int x2), (3, .int (2 : Int32)), (4, .int (0 : Int32))] → vc_X6_spread_i2_s21_2_0 fu v_2 m_o m_f g_F g_C g_M x1 x2 → cf_X6_spread_i2_s21_2_0 fu k_2 m_o m_f g_F g_C g_M x1 x2 = R → W p l e (headSpec wsX6_spread ({ frames := 0, cells := 0, slots := 0, locals := 0 })).room s m ([.ref q6, .int a0] : List Value).toArray below meth c H locs 0 0 (MQ below (mu_Q none (dC, dI) kcl (mo_W q6 qA qB qF qR qC qL qS qO qY qH qW qM cyI cyJ cyZ m_th m_o m_f m_r m_b m_a u_F u_R g_F g_R g_C g_L m_rl m_lf m_ov m_pl g_S g_O g_Y g_H m_st g_W m_rm m_fs R) A) ([.ref q6, .int a0] : List Value).toArray s 0 0 A) (F0 m 21 ls []) := by
    intro k_2 v_2 H_2 g_M x1 x2 H locs ls hP hD hS hl hV hR
    unfold cf_X6_spread_i2_s21_2_0 at hR
    unfold vc_X6_spread_i2_s21_2_0 at hV
    refine lv_iload hx hb dX6_spread_21 (lv_at hl 4 rfl) ?_
    refine lv_aload_n hx hb dX6_spread_23 rfl (lv_at hl 0 rfl) ?_
    refine va_get (D := (dC, dI)) (ci := 4) (v := .int m_f) (C := RX6) (T := TX6) (N := 25) hx hb hts h1_ hown hK hP 0 rfl rfl 2 (by decide) h2_ (fun _ h9 => h9) rfl dX6_spread_24 ?_
    refine lv_icmp_ge (tgt := 100) hx hb dX6_spread_27 (by decide) (fun c_7 => ?_) (fun c_7 => ?_)
    · rw [if_pos c_7] at hR
      have hV := hV.1 c_7
      exact Ki2_s100_2 k_2 v_2 H_2 g_M x1 x2 H locs ls hP hD hS (lv_sub hl [0, 1, 2, 3] rfl) hV hR
    · rw [if_neg c_7] at hR
      have hV := hV.2 c_7
      refine lv_aload_n hx hb dX6_spread_30 rfl (lv_at hl 0 rfl) ?_
      refine va_get (D := (dC, dI)) (ci := 4) (v := .ref qM) (C := RX6) (T := TX6) (N := 25) hx hb hts h1_ hown hK hP 0 rfl rfl 24 (by decide) h3_ (fun _ h9 => h9) rfl dX6_spread_31 ?_
      refine lv_iload_n hx hb dX6_spread_34 rfl (lv_at hl 3 rfl) ?_
      refine va_zald hx hb hK hP 12 2 rfl rfl (by unfold vp_in; decide +kernel) dX6_spread_35 ?_
      refine lv_if_eq (tgt := 100) hx hb dX6_spread_36 (by decide) (fun c_27 => ?_) (fun c_27 => ?_)
      · rw [if_pos c_27] at hR
        have hV := hV.1 c_27
        exact Ki2_s100_2 k_2 v_2 H_2 g_M x1 x2 H locs ls hP hD hS (lv_sub hl [0, 1, 2, 3] rfl) hV hR
      · rw [if_neg c_27] at hR
        have hV := hV.2 c_27
        refine lv_aload_n hx hb dX6_spread_39 rfl (lv_at hl 0 rfl) ?_
        refine va_get (D := (dC, dI)) (ci := 4) (v := .ref qF) (C := RX6) (T := TX6) (N := 25) hx hb hts h1_ hown hK hP 0 rfl rfl 8 (by decide) h4_ (fun _ h9 => h9) rfl dX6_spread_40 ?_
        refine lv_iconst (v := (2 : Int32)) hx hb dX6_spread_43 (by decide +kernel) ?_
        refine lv_iload_n hx hb dX6_spread_44 rfl (lv_at hl 3 rfl) ?_
        refine lv_imul hx hb dX6_spread_45 ?_
        refine ek_v (P := fun z => W p l e (headSpec wsX6_spread ({ frames := 0, cells := 0, slots := 0, locals := 0 })).room s m ([.ref q6, .int a0] : List Value).toArray below meth c H locs 0 0 _ (F0 m 46 ls (.int z :: [.ref qF]))) (b := (4 : Int32)) (by decide +kernel) ?_
        refine lv_iload hx hb dX6_spread_46 (lv_at hl 4 rfl) ?_
        refine lv_iadd hx hb dX6_spread_48 ?_
        refine ek_v (P := fun z => W p l e (headSpec wsX6_spread ({ frames := 0, cells := 0, slots := 0, locals := 0 })).room s m ([.ref q6, .int a0] : List Value).toArray below meth c H locs 0 0 _ (F0 m 49 ls (.int z :: [.ref qF]))) (b := (4 : Int32)) (by decide +kernel) ?_
        refine va_iald hx hb hK hP 3 0 rfl rfl (by unfold vp_in; decide +kernel) dX6_spread_49 ?_
        refine lv_istore (lv' := [(5, .int (g_F ((4 : Int32)).toNatClampNeg)), (0, .ref q6), (1, .int x1), (2, .int x2), (3, .int (2 : Int32)), (4, .int (0 : Int32))]) hx hb dX6_spread_50 hl (by decide) rfl (fun ls hl => ?_)
        refine lv_iload hx hb dX6_spread_52 (lv_at hl 0 rfl) ?_
        refine lv_if_lt (tgt := 94) hx hb dX6_spread_54 (by decide) (fun c_28 => ?_) (fun c_28 => ?_)
        · rw [if_pos c_28] at hR
          have hV := hV.1 c_28
          exact Ki2_s94_2_0 k_2 v_2 H_2 g_M x1 x2 H locs ls hP hD hS (lv_sub hl [1, 2, 3, 4, 5] rfl) hV hR
        · rw [if_neg c_28] at hR
          have hV := hV.2 c_28
          refine lv_aload_n hx hb dX6_spread_57 rfl (lv_at hl 1 rfl) ?_
          refine va_get (D := (dC, dI)) (ci := 4) (v := .ref qM) (C := RX6) (T := TX6) (N := 25) hx hb hts h1_ hown hK hP 0 rfl rfl 24 (by decide) h3_ (fun _ h9 => h9) rfl dX6_spread_58 ?_
          refine lv_iload hx hb dX6_spread_61 (lv_at hl 0 rfl) ?_
          obtain ⟨hi38, hV⟩ := hV
          refine va_zald hx hb hK hP 12 2 rfl rfl hi38 dX6_spread_63 ?_
          refine lv_if_ne (tgt := 94) hx hb dX6_spread_64 (by decide) (fun c_39 => ?_) (fun c_39 => ?_)
          · rw [if_neg c_39] at hR
            have hV := hV.2 c_39
            exact Ki2_s94_2_0 k_2 v_2 H_2 g_M x1 x2 H locs ls hP hD hS (lv_sub hl [1, 2, 3, 4, 5] rfl) hV hR
          · rw [if_pos c_39] at hR
            have hV := hV.1 c_39
            refine lv_iload_n hx hb dX6_spread_67 rfl (lv_at hl 2 rfl) ?_
            refine lv_if_eq (tgt := 84) hx hb dX6_spread_68 (by decide) (fun c_40 => ?_) (fun c_40 => ?_)
            · rw [if_pos c_40] at hR
              have hV := hV.1 c_40
              exact Ki2_s84_2_0 k_2 v_2 H_2 g_M x1 (g_F ((4 : Int32)).toNatClampNeg) H locs ls hP hD hS (lv_sub hl [1, 2, 4, 5, 0] rfl) hV hR
            · rw [if_neg c_40] at hR
              have hV := hV.2 c_40
              refine lv_aload_n hx hb dX6_spread_71 rfl (lv_at hl 1 rfl) ?_
              refine va_get (D := (dC, dI)) (ci := 4) (v := .ref qC) (C := RX6) (T := TX6) (N := 25) hx hb hts h1_ hown hK hP 0 rfl rfl 10 (by decide) h5_ (fun _ h9 => h9) rfl dX6_spread_72 ?_
              refine lv_iload hx hb dX6_spread_75 (lv_at hl 0 rfl) ?_
              obtain ⟨hi42, hV⟩ := hV
              refine va_iald hx hb hK hP 5 0 rfl rfl hi42 dX6_spread_77 ?_
              refine lv_if_eq (tgt := 84) hx hb dX6_spread_78 (by decide) (fun c_43 => ?_) (fun c_43 => ?_)
              · rw [if_pos c_43] at hR
                have hV := hV.1 c_43
                exact Ki2_s84_2_0 k_2 v_2 H_2 g_M x1 (g_F ((4 : Int32)).toNatClampNeg) H locs ls hP hD hS (lv_sub hl [1, 2, 4, 5, 0] rfl) hV hR
              · rw [if_neg c_43] at hR
                have hV := hV.2 c_43
                refine lv_goto (tgt := 94) hx hb dX6_spread_81 (by decide) ?_
                exact Ki2_s94_2_0 k_2 v_2 H_2 g_M x1 x2 H locs ls hP hD hS (lv_sub hl [1, 2, 3, 4, 5] rfl) hV hR
  have Ki2_s10_2 : ∀ (k_2 : Int32 → Int32 → (Nat → Int32) → (Nat → Int32) → (Nat → Int32) → Int32 → Int32 → (Nat → Int32)) (v_2 : Int32 → Int32 → (Nat → Int32) → (Nat → Int32) → (Nat → Int32) → Int32 → Int32 → Prop) (H_2 : ∀ (g_M : Nat → Int32) (x1 : Int32) (x2 : Int32) (H : Heap) (locs : List Loc) (ls : Array Slot), va_P (dC, dI) kcl (mo_W q6 qA qB qF qR qC qL qS qO qY qH qW qM cyI cyJ cyZ m_th m_o m_f m_r m_b m_a u_F u_R g_F g_R g_C g_L m_rl m_lf m_ov m_pl g_S g_O g_Y g_H m_st g_W m_rm m_fs g_M) H → va_D A (mo_W q6 qA qB qF qR qC qL qS qO qY qH qW qM cyI cyJ cyZ m_th m_o m_f m_r m_b m_a u_F u_R g_F g_R g_C g_L m_rl m_lf m_ov m_pl g_S g_O g_Y g_H m_st g_W m_rm m_fs g_M) → va_S A s.heap H locs → lv_has ls 6 [(0, .ref q6), (1, .int x1), (2, .int x2)] → v_2 m_o m_f g_F g_C g_M x1 x2 → k_2 m_o m_f g_F g_C g_M x1 x2 = R → W p l e (headSpec wsX6_spread ({ frames := 0, cells := 0, slots := 0, locals := 0 })).room s m ([.ref q6, .int a0] : List Value).toArray below meth c H locs 0 0 (MQ below (mu_Q none (dC, dI) kcl (mo_W q6 qA qB qF qR qC qL qS qO qY qH qW qM cyI cyJ cyZ m_th m_o m_f m_r m_b m_a u_F u_R g_F g_R g_C g_L m_rl m_lf m_ov m_pl g_S g_O g_Y g_H m_st g_W m_rm m_fs R) A) ([.ref q6, .int a0] : List Value).toArray s 0 0 A) (F0 m 2 ls [])) (g_M : Nat → Int32) (x1 : Int32) (x2 : Int32) (H : Heap) (locs : List Loc) (ls : Array Slot), va_P (dC, dI) kcl (mo_W q6 qA qB qF qR qC qL qS qO qY qH qW qM cyI cyJ cyZ m_th m_o m_f m_r m_b m_a u_F u_R g_F g_R g_C g_L m_rl m_lf m_ov m_pl g_S g_O g_Y g_H m_st g_W m_rm m_fs g_M) H → va_D A (mo_W q6 qA qB qF qR qC qL qS qO qY qH qW qM cyI cyJ cyZ m_th m_o m_f m_r m_b m_a u_F u_R g_F g_R g_C g_L m_rl m_lf m_ov m_pl g_S g_O g_Y g_H m_st g_W m_rm m_fs g_M) → va_S A s.heap H locs → lv_has ls 6 [(0, .ref q6), (1, .int x1), (2, .int x2), (3, .int (2 : Int32))] → vc_X6_spread_i2_s10_2 fu v_2 m_o m_f g_F g_C g_M x1 x2 → cf_X6_spread_i2_s10_2 fu k_2 m_o m_f g_F g_C g_M x1 x2 = R → W p l e (headSpec wsX6_spread ({ frames := 0, cells := 0, slots := 0, locals := 0 })).room s m ([.ref q6, .int a0] : List Value).toArray below meth c H locs 0 0 (MQ below (mu_Q none (dC, dI) kcl (mo_W q6 qA qB qF qR qC qL qS qO qY qH qW qM cyI cyJ cyZ m_th m_o m_f m_r m_b m_a u_F u_R g_F g_R g_C g_L m_rl m_lf m_ov m_pl g_S g_O g_Y g_H m_st g_W m_rm m_fs R) A) ([.ref q6, .int a0] : List Value).toArray s 0 0 A) (F0 m 10 ls []) := by
    intro k_2 v_2 H_2 g_M x1 x2 H locs ls hP hD hS hl hV hR
    unfold cf_X6_spread_i2_s10_2 at hR
    unfold vc_X6_spread_i2_s10_2 at hV
    refine lv_iload_n hx hb dX6_spread_10 rfl (lv_at hl 3 rfl) ?_
    refine lv_aload_n hx hb dX6_spread_11 rfl (lv_at hl 0 rfl) ?_
    refine va_get (D := (dC, dI)) (ci := 4) (v := .int m_o) (C := RX6) (T := TX6) (N := 25) hx hb hts h1_ hown hK hP 0 rfl rfl 1 (by decide) h0_ (fun _ h9 => h9) rfl dX6_spread_12 ?_
    refine lv_icmp_ge (tgt := 106) hx hb dX6_spread_15 (by decide) (fun c_6 => ?_) (fun c_6 => ?_)
    · rw [if_pos c_6] at hR
      have hV := hV.1 c_6
      refine lv_goto (tgt := 2) hx hb dX6_spread_106 (by decide) ?_
      exact H_2 g_M x1 x2 H locs ls hP hD hS (lv_sub hl [0, 1, 2] rfl) hV hR
    · rw [if_neg c_6] at hR
      have hV := hV.2 c_6
      refine lv_iconst (v := (0 : Int32)) hx hb dX6_spread_18 (by decide +kernel) ?_
      refine lv_istore (lv' := [(4, .int (0 : Int32)), (0, .ref q6), (1, .int x1), (2, .int x2), (3, .int (2 : Int32))]) hx hb dX6_spread_19 hl (by decide) rfl (fun ls hl => ?_)
      exact Ki2_s21_2_0 k_2 v_2 H_2 g_M x1 x2 H locs ls hP hD hS (lv_sub hl [1, 2, 3, 4, 0] rfl) hV hR
  have Ki2_s100_1 : ∀ (k_2 : Int32 → Int32 → (Nat → Int32) → (Nat → Int32) → (Nat → Int32) → Int32 → Int32 → (Nat → Int32)) (v_2 : Int32 → Int32 → (Nat → Int32) → (Nat → Int32) → (Nat → Int32) → Int32 → Int32 → Prop) (H_2 : ∀ (g_M : Nat → Int32) (x1 : Int32) (x2 : Int32) (H : Heap) (locs : List Loc) (ls : Array Slot), va_P (dC, dI) kcl (mo_W q6 qA qB qF qR qC qL qS qO qY qH qW qM cyI cyJ cyZ m_th m_o m_f m_r m_b m_a u_F u_R g_F g_R g_C g_L m_rl m_lf m_ov m_pl g_S g_O g_Y g_H m_st g_W m_rm m_fs g_M) H → va_D A (mo_W q6 qA qB qF qR qC qL qS qO qY qH qW qM cyI cyJ cyZ m_th m_o m_f m_r m_b m_a u_F u_R g_F g_R g_C g_L m_rl m_lf m_ov m_pl g_S g_O g_Y g_H m_st g_W m_rm m_fs g_M) → va_S A s.heap H locs → lv_has ls 6 [(0, .ref q6), (1, .int x1), (2, .int x2)] → v_2 m_o m_f g_F g_C g_M x1 x2 → k_2 m_o m_f g_F g_C g_M x1 x2 = R → W p l e (headSpec wsX6_spread ({ frames := 0, cells := 0, slots := 0, locals := 0 })).room s m ([.ref q6, .int a0] : List Value).toArray below meth c H locs 0 0 (MQ below (mu_Q none (dC, dI) kcl (mo_W q6 qA qB qF qR qC qL qS qO qY qH qW qM cyI cyJ cyZ m_th m_o m_f m_r m_b m_a u_F u_R g_F g_R g_C g_L m_rl m_lf m_ov m_pl g_S g_O g_Y g_H m_st g_W m_rm m_fs R) A) ([.ref q6, .int a0] : List Value).toArray s 0 0 A) (F0 m 2 ls [])) (g_M : Nat → Int32) (x1 : Int32) (x2 : Int32) (H : Heap) (locs : List Loc) (ls : Array Slot), va_P (dC, dI) kcl (mo_W q6 qA qB qF qR qC qL qS qO qY qH qW qM cyI cyJ cyZ m_th m_o m_f m_r m_b m_a u_F u_R g_F g_R g_C g_L m_rl m_lf m_ov m_pl g_S g_O g_Y g_H m_st g_W m_rm m_fs g_M) H → va_D A (mo_W q6 qA qB qF qR qC qL qS qO qY qH qW qM cyI cyJ cyZ m_th m_o m_f m_r m_b m_a u_F u_R g_F g_R g_C g_L m_rl m_lf m_ov m_pl g_S g_O g_Y g_H m_st g_W m_rm m_fs g_M) → va_S A s.heap H locs → lv_has ls 6 [(0, .ref q6), (1, .int x1), (2, .int x2), (3, .int (1 : Int32))] → vc_X6_spread_i2_s100_1 fu v_2 m_o m_f g_F g_C g_M x1 x2 → cf_X6_spread_i2_s100_1 fu k_2 m_o m_f g_F g_C g_M x1 x2 = R → W p l e (headSpec wsX6_spread ({ frames := 0, cells := 0, slots := 0, locals := 0 })).room s m ([.ref q6, .int a0] : List Value).toArray below meth c H locs 0 0 (MQ below (mu_Q none (dC, dI) kcl (mo_W q6 qA qB qF qR qC qL qS qO qY qH qW qM cyI cyJ cyZ m_th m_o m_f m_r m_b m_a u_F u_R g_F g_R g_C g_L m_rl m_lf m_ov m_pl g_S g_O g_Y g_H m_st g_W m_rm m_fs R) A) ([.ref q6, .int a0] : List Value).toArray s 0 0 A) (F0 m 100 ls []) := by
    intro k_2 v_2 H_2 g_M x1 x2 H locs ls hP hD hS hl hV hR
    unfold cf_X6_spread_i2_s100_1 at hR
    unfold vc_X6_spread_i2_s100_1 at hV
    refine lv_iinc (v := (2 : Int32)) (lv' := [(3, .int (2 : Int32)), (0, .ref q6), (1, .int x1), (2, .int x2)]) hx hb dX6_spread_100 hl (k := 3) rfl (by decide +kernel) (by decide) rfl (fun ls hl => ?_)
    refine lv_goto (tgt := 10) hx hb dX6_spread_103 (by decide) ?_
    exact Ki2_s10_2 k_2 v_2 H_2 g_M x1 x2 H locs ls hP hD hS (lv_sub hl [1, 2, 3, 0] rfl) hV hR
  have Ki2_s21_1_2 : ∀ (k_2 : Int32 → Int32 → (Nat → Int32) → (Nat → Int32) → (Nat → Int32) → Int32 → Int32 → (Nat → Int32)) (v_2 : Int32 → Int32 → (Nat → Int32) → (Nat → Int32) → (Nat → Int32) → Int32 → Int32 → Prop) (H_2 : ∀ (g_M : Nat → Int32) (x1 : Int32) (x2 : Int32) (H : Heap) (locs : List Loc) (ls : Array Slot), va_P (dC, dI) kcl (mo_W q6 qA qB qF qR qC qL qS qO qY qH qW qM cyI cyJ cyZ m_th m_o m_f m_r m_b m_a u_F u_R g_F g_R g_C g_L m_rl m_lf m_ov m_pl g_S g_O g_Y g_H m_st g_W m_rm m_fs g_M) H → va_D A (mo_W q6 qA qB qF qR qC qL qS qO qY qH qW qM cyI cyJ cyZ m_th m_o m_f m_r m_b m_a u_F u_R g_F g_R g_C g_L m_rl m_lf m_ov m_pl g_S g_O g_Y g_H m_st g_W m_rm m_fs g_M) → va_S A s.heap H locs → lv_has ls 6 [(0, .ref q6), (1, .int x1), (2, .int x2)] → v_2 m_o m_f g_F g_C g_M x1 x2 → k_2 m_o m_f g_F g_C g_M x1 x2 = R → W p l e (headSpec wsX6_spread ({ frames := 0, cells := 0, slots := 0, locals := 0 })).room s m ([.ref q6, .int a0] : List Value).toArray below meth c H locs 0 0 (MQ below (mu_Q none (dC, dI) kcl (mo_W q6 qA qB qF qR qC qL qS qO qY qH qW qM cyI cyJ cyZ m_th m_o m_f m_r m_b m_a u_F u_R g_F g_R g_C g_L m_rl m_lf m_ov m_pl g_S g_O g_Y g_H m_st g_W m_rm m_fs R) A) ([.ref q6, .int a0] : List Value).toArray s 0 0 A) (F0 m 2 ls [])) (g_M : Nat → Int32) (x1 : Int32) (x2 : Int32) (H : Heap) (locs : List Loc) (ls : Array Slot), va_P (dC, dI) kcl (mo_W q6 qA qB qF qR qC qL qS qO qY qH qW qM cyI cyJ cyZ m_th m_o m_f m_r m_b m_a u_F u_R g_F g_R g_C g_L m_rl m_lf m_ov m_pl g_S g_O g_Y g_H m_st g_W m_rm m_fs g_M) H → va_D A (mo_W q6 qA qB qF qR qC qL qS qO qY qH qW qM cyI cyJ cyZ m_th m_o m_f m_r m_b m_a u_F u_R g_F g_R g_C g_L m_rl m_lf m_ov m_pl g_S g_O g_Y g_H m_st g_W m_rm m_fs g_M) → va_S A s.heap H locs → lv_has ls 6 [(0, .ref q6), (1, .int x1), (2, .int x2), (3, .int (1 : Int32)), (4, .int (2 : Int32))] → vc_X6_spread_i2_s21_1_2 fu v_2 m_o m_f g_F g_C g_M x1 x2 → cf_X6_spread_i2_s21_1_2 fu k_2 m_o m_f g_F g_C g_M x1 x2 = R → W p l e (headSpec wsX6_spread ({ frames := 0, cells := 0, slots := 0, locals := 0 })).room s m ([.ref q6, .int a0] : List Value).toArray below meth c H locs 0 0 (MQ below (mu_Q none (dC, dI) kcl (mo_W q6 qA qB qF qR qC qL qS qO qY qH qW qM cyI cyJ cyZ m_th m_o m_f m_r m_b m_a u_F u_R g_F g_R g_C g_L m_rl m_lf m_ov m_pl g_S g_O g_Y g_H m_st g_W m_rm m_fs R) A) ([.ref q6, .int a0] : List Value).toArray s 0 0 A) (F0 m 21 ls []) := by
    intro k_2 v_2 H_2 g_M x1 x2 H locs ls hP hD hS hl hV hR
    unfold cf_X6_spread_i2_s21_1_2 at hR
    unfold vc_X6_spread_i2_s21_1_2 at hV
    refine lv_iload hx hb dX6_spread_21 (lv_at hl 4 rfl) ?_
    refine lv_aload_n hx hb dX6_spread_23 rfl (lv_at hl 0 rfl) ?_
    refine va_get (D := (dC, dI)) (ci := 4) (v := .int m_f) (C := RX6) (T := TX6) (N := 25) hx hb hts h1_ hown hK hP 0 rfl rfl 2 (by decide) h2_ (fun _ h9 => h9) rfl dX6_spread_24 ?_
    refine lv_icmp_ge (tgt := 100) hx hb dX6_spread_27 (by decide) (fun _ => ?_) (fun c_0 => absurd hm_f c_0)
    exact Ki2_s100_1 k_2 v_2 H_2 g_M x1 x2 H locs ls hP hD hS (lv_sub hl [0, 1, 2, 3] rfl) hV hR
  have Ki2_s94_1_1 : ∀ (k_2 : Int32 → Int32 → (Nat → Int32) → (Nat → Int32) → (Nat → Int32) → Int32 → Int32 → (Nat → Int32)) (v_2 : Int32 → Int32 → (Nat → Int32) → (Nat → Int32) → (Nat → Int32) → Int32 → Int32 → Prop) (H_2 : ∀ (g_M : Nat → Int32) (x1 : Int32) (x2 : Int32) (H : Heap) (locs : List Loc) (ls : Array Slot), va_P (dC, dI) kcl (mo_W q6 qA qB qF qR qC qL qS qO qY qH qW qM cyI cyJ cyZ m_th m_o m_f m_r m_b m_a u_F u_R g_F g_R g_C g_L m_rl m_lf m_ov m_pl g_S g_O g_Y g_H m_st g_W m_rm m_fs g_M) H → va_D A (mo_W q6 qA qB qF qR qC qL qS qO qY qH qW qM cyI cyJ cyZ m_th m_o m_f m_r m_b m_a u_F u_R g_F g_R g_C g_L m_rl m_lf m_ov m_pl g_S g_O g_Y g_H m_st g_W m_rm m_fs g_M) → va_S A s.heap H locs → lv_has ls 6 [(0, .ref q6), (1, .int x1), (2, .int x2)] → v_2 m_o m_f g_F g_C g_M x1 x2 → k_2 m_o m_f g_F g_C g_M x1 x2 = R → W p l e (headSpec wsX6_spread ({ frames := 0, cells := 0, slots := 0, locals := 0 })).room s m ([.ref q6, .int a0] : List Value).toArray below meth c H locs 0 0 (MQ below (mu_Q none (dC, dI) kcl (mo_W q6 qA qB qF qR qC qL qS qO qY qH qW qM cyI cyJ cyZ m_th m_o m_f m_r m_b m_a u_F u_R g_F g_R g_C g_L m_rl m_lf m_ov m_pl g_S g_O g_Y g_H m_st g_W m_rm m_fs R) A) ([.ref q6, .int a0] : List Value).toArray s 0 0 A) (F0 m 2 ls [])) (g_M : Nat → Int32) (x1 : Int32) (x2 : Int32) (H : Heap) (locs : List Loc) (ls : Array Slot), va_P (dC, dI) kcl (mo_W q6 qA qB qF qR qC qL qS qO qY qH qW qM cyI cyJ cyZ m_th m_o m_f m_r m_b m_a u_F u_R g_F g_R g_C g_L m_rl m_lf m_ov m_pl g_S g_O g_Y g_H m_st g_W m_rm m_fs g_M) H → va_D A (mo_W q6 qA qB qF qR qC qL qS qO qY qH qW qM cyI cyJ cyZ m_th m_o m_f m_r m_b m_a u_F u_R g_F g_R g_C g_L m_rl m_lf m_ov m_pl g_S g_O g_Y g_H m_st g_W m_rm m_fs g_M) → va_S A s.heap H locs → lv_has ls 6 [(0, .ref q6), (1, .int x1), (2, .int x2), (3, .int (1 : Int32)), (4, .int (1 : Int32))] → vc_X6_spread_i2_s94_1_1 fu v_2 m_o m_f g_F g_C g_M x1 x2 → cf_X6_spread_i2_s94_1_1 fu k_2 m_o m_f g_F g_C g_M x1 x2 = R → W p l e (headSpec wsX6_spread ({ frames := 0, cells := 0, slots := 0, locals := 0 })).room s m ([.ref q6, .int a0] : List Value).toArray below meth c H locs 0 0 (MQ below (mu_Q none (dC, dI) kcl (mo_W q6 qA qB qF qR qC qL qS qO qY qH qW qM cyI cyJ cyZ m_th m_o m_f m_r m_b m_a u_F u_R g_F g_R g_C g_L m_rl m_lf m_ov m_pl g_S g_O g_Y g_H m_st g_W m_rm m_fs R) A) ([.ref q6, .int a0] : List Value).toArray s 0 0 A) (F0 m 94 ls []) := by
    intro k_2 v_2 H_2 g_M x1 x2 H locs ls hP hD hS hl hV hR
    unfold cf_X6_spread_i2_s94_1_1 at hR
    unfold vc_X6_spread_i2_s94_1_1 at hV
    refine lv_iinc (v := (2 : Int32)) (lv' := [(4, .int (2 : Int32)), (0, .ref q6), (1, .int x1), (2, .int x2), (3, .int (1 : Int32))]) hx hb dX6_spread_94 hl (k := 4) rfl (by decide +kernel) (by decide) rfl (fun ls hl => ?_)
    refine lv_goto (tgt := 21) hx hb dX6_spread_97 (by decide) ?_
    exact Ki2_s21_1_2 k_2 v_2 H_2 g_M x1 x2 H locs ls hP hD hS (lv_sub hl [1, 2, 3, 4, 0] rfl) hV hR
  have Ki2_s84_1_1 : ∀ (k_2 : Int32 → Int32 → (Nat → Int32) → (Nat → Int32) → (Nat → Int32) → Int32 → Int32 → (Nat → Int32)) (v_2 : Int32 → Int32 → (Nat → Int32) → (Nat → Int32) → (Nat → Int32) → Int32 → Int32 → Prop) (H_2 : ∀ (g_M : Nat → Int32) (x1 : Int32) (x2 : Int32) (H : Heap) (locs : List Loc) (ls : Array Slot), va_P (dC, dI) kcl (mo_W q6 qA qB qF qR qC qL qS qO qY qH qW qM cyI cyJ cyZ m_th m_o m_f m_r m_b m_a u_F u_R g_F g_R g_C g_L m_rl m_lf m_ov m_pl g_S g_O g_Y g_H m_st g_W m_rm m_fs g_M) H → va_D A (mo_W q6 qA qB qF qR qC qL qS qO qY qH qW qM cyI cyJ cyZ m_th m_o m_f m_r m_b m_a u_F u_R g_F g_R g_C g_L m_rl m_lf m_ov m_pl g_S g_O g_Y g_H m_st g_W m_rm m_fs g_M) → va_S A s.heap H locs → lv_has ls 6 [(0, .ref q6), (1, .int x1), (2, .int x2)] → v_2 m_o m_f g_F g_C g_M x1 x2 → k_2 m_o m_f g_F g_C g_M x1 x2 = R → W p l e (headSpec wsX6_spread ({ frames := 0, cells := 0, slots := 0, locals := 0 })).room s m ([.ref q6, .int a0] : List Value).toArray below meth c H locs 0 0 (MQ below (mu_Q none (dC, dI) kcl (mo_W q6 qA qB qF qR qC qL qS qO qY qH qW qM cyI cyJ cyZ m_th m_o m_f m_r m_b m_a u_F u_R g_F g_R g_C g_L m_rl m_lf m_ov m_pl g_S g_O g_Y g_H m_st g_W m_rm m_fs R) A) ([.ref q6, .int a0] : List Value).toArray s 0 0 A) (F0 m 2 ls [])) (g_M : Nat → Int32) (x1 : Int32) (x5 : Int32) (H : Heap) (locs : List Loc) (ls : Array Slot), va_P (dC, dI) kcl (mo_W q6 qA qB qF qR qC qL qS qO qY qH qW qM cyI cyJ cyZ m_th m_o m_f m_r m_b m_a u_F u_R g_F g_R g_C g_L m_rl m_lf m_ov m_pl g_S g_O g_Y g_H m_st g_W m_rm m_fs g_M) H → va_D A (mo_W q6 qA qB qF qR qC qL qS qO qY qH qW qM cyI cyJ cyZ m_th m_o m_f m_r m_b m_a u_F u_R g_F g_R g_C g_L m_rl m_lf m_ov m_pl g_S g_O g_Y g_H m_st g_W m_rm m_fs g_M) → va_S A s.heap H locs → lv_has ls 6 [(0, .ref q6), (1, .int x1), (3, .int (1 : Int32)), (4, .int (1 : Int32)), (5, .int x5)] → vc_X6_spread_i2_s84_1_1 fu v_2 m_o m_f g_F g_C g_M x1 x5 → cf_X6_spread_i2_s84_1_1 fu k_2 m_o m_f g_F g_C g_M x1 x5 = R → W p l e (headSpec wsX6_spread ({ frames := 0, cells := 0, slots := 0, locals := 0 })).room s m ([.ref q6, .int a0] : List Value).toArray below meth c H locs 0 0 (MQ below (mu_Q none (dC, dI) kcl (mo_W q6 qA qB qF qR qC qL qS qO qY qH qW qM cyI cyJ cyZ m_th m_o m_f m_r m_b m_a u_F u_R g_F g_R g_C g_L m_rl m_lf m_ov m_pl g_S g_O g_Y g_H m_st g_W m_rm m_fs R) A) ([.ref q6, .int a0] : List Value).toArray s 0 0 A) (F0 m 84 ls []) := by
    intro k_2 v_2 H_2 g_M x1 x5 H locs ls hP hD hS hl hV hR
    unfold cf_X6_spread_i2_s84_1_1 at hR
    unfold vc_X6_spread_i2_s84_1_1 at hV
    refine lv_aload_n hx hb dX6_spread_84 rfl (lv_at hl 0 rfl) ?_
    refine va_get (D := (dC, dI)) (ci := 4) (v := .ref qM) (C := RX6) (T := TX6) (N := 25) hx hb hts h1_ hown hK hP 0 rfl rfl 24 (by decide) h3_ (fun _ h9 => h9) rfl dX6_spread_85 ?_
    refine lv_iload hx hb dX6_spread_88 (lv_at hl 4 rfl) ?_
    refine lv_iconst (v := (1 : Int32)) hx hb dX6_spread_90 (by decide +kernel) ?_
    obtain ⟨hi52, hV⟩ := hV
    refine va_zast hx hb hK hP hD hS 12 2 rfl rfl hi52 dX6_spread_91 (fun H locs hP hD hS => ?_)
    have hP : va_P (dC, dI) kcl (mo_W q6 qA qB qF qR qC qL qS qO qY qH qW qM cyI cyJ cyZ m_th m_o m_f m_r m_b m_a u_F u_R g_F g_R g_C g_L m_rl m_lf m_ov m_pl g_S g_O g_Y g_H m_st g_W m_rm m_fs (upd g_M (x5).toNatClampNeg (vp_nar .boolean (1 : Int32)))) H := hP
    have hD : va_D A (mo_W q6 qA qB qF qR qC qL qS qO qY qH qW qM cyI cyJ cyZ m_th m_o m_f m_r m_b m_a u_F u_R g_F g_R g_C g_L m_rl m_lf m_ov m_pl g_S g_O g_Y g_H m_st g_W m_rm m_fs (upd g_M (x5).toNatClampNeg (vp_nar .boolean (1 : Int32)))) := hD
    refine lv_iconst (v := (1 : Int32)) hx hb dX6_spread_92 (by decide +kernel) ?_
    refine lv_istore_n (lv' := [(2, .int (1 : Int32)), (0, .ref q6), (1, .int x1), (3, .int (1 : Int32)), (4, .int (1 : Int32)), (5, .int x5)]) hx hb dX6_spread_93 rfl hl (by decide) rfl (fun ls hl => ?_)
    exact Ki2_s94_1_1 k_2 v_2 H_2 (upd g_M (x5).toNatClampNeg (vp_nar .boolean (1 : Int32))) x1 (1 : Int32) H locs ls hP hD hS (lv_sub hl [1, 2, 0, 3, 4] rfl) hV hR
  have Ki2_s21_1_1 : ∀ (k_2 : Int32 → Int32 → (Nat → Int32) → (Nat → Int32) → (Nat → Int32) → Int32 → Int32 → (Nat → Int32)) (v_2 : Int32 → Int32 → (Nat → Int32) → (Nat → Int32) → (Nat → Int32) → Int32 → Int32 → Prop) (H_2 : ∀ (g_M : Nat → Int32) (x1 : Int32) (x2 : Int32) (H : Heap) (locs : List Loc) (ls : Array Slot), va_P (dC, dI) kcl (mo_W q6 qA qB qF qR qC qL qS qO qY qH qW qM cyI cyJ cyZ m_th m_o m_f m_r m_b m_a u_F u_R g_F g_R g_C g_L m_rl m_lf m_ov m_pl g_S g_O g_Y g_H m_st g_W m_rm m_fs g_M) H → va_D A (mo_W q6 qA qB qF qR qC qL qS qO qY qH qW qM cyI cyJ cyZ m_th m_o m_f m_r m_b m_a u_F u_R g_F g_R g_C g_L m_rl m_lf m_ov m_pl g_S g_O g_Y g_H m_st g_W m_rm m_fs g_M) → va_S A s.heap H locs → lv_has ls 6 [(0, .ref q6), (1, .int x1), (2, .int x2)] → v_2 m_o m_f g_F g_C g_M x1 x2 → k_2 m_o m_f g_F g_C g_M x1 x2 = R → W p l e (headSpec wsX6_spread ({ frames := 0, cells := 0, slots := 0, locals := 0 })).room s m ([.ref q6, .int a0] : List Value).toArray below meth c H locs 0 0 (MQ below (mu_Q none (dC, dI) kcl (mo_W q6 qA qB qF qR qC qL qS qO qY qH qW qM cyI cyJ cyZ m_th m_o m_f m_r m_b m_a u_F u_R g_F g_R g_C g_L m_rl m_lf m_ov m_pl g_S g_O g_Y g_H m_st g_W m_rm m_fs R) A) ([.ref q6, .int a0] : List Value).toArray s 0 0 A) (F0 m 2 ls [])) (g_M : Nat → Int32) (x1 : Int32) (x2 : Int32) (H : Heap) (locs : List Loc) (ls : Array Slot), va_P (dC, dI) kcl (mo_W q6 qA qB qF qR qC qL qS qO qY qH qW qM cyI cyJ cyZ m_th m_o m_f m_r m_b m_a u_F u_R g_F g_R g_C g_L m_rl m_lf m_ov m_pl g_S g_O g_Y g_H m_st g_W m_rm m_fs g_M) H → va_D A (mo_W q6 qA qB qF qR qC qL qS qO qY qH qW qM cyI cyJ cyZ m_th m_o m_f m_r m_b m_a u_F u_R g_F g_R g_C g_L m_rl m_lf m_ov m_pl g_S g_O g_Y g_H m_st g_W m_rm m_fs g_M) → va_S A s.heap H locs → lv_has ls 6 [(0, .ref q6), (1, .int x1), (2, .int x2), (3, .int (1 : Int32)), (4, .int (1 : Int32))] → vc_X6_spread_i2_s21_1_1 fu v_2 m_o m_f g_F g_C g_M x1 x2 → cf_X6_spread_i2_s21_1_1 fu k_2 m_o m_f g_F g_C g_M x1 x2 = R → W p l e (headSpec wsX6_spread ({ frames := 0, cells := 0, slots := 0, locals := 0 })).room s m ([.ref q6, .int a0] : List Value).toArray below meth c H locs 0 0 (MQ below (mu_Q none (dC, dI) kcl (mo_W q6 qA qB qF qR qC qL qS qO qY qH qW qM cyI cyJ cyZ m_th m_o m_f m_r m_b m_a u_F u_R g_F g_R g_C g_L m_rl m_lf m_ov m_pl g_S g_O g_Y g_H m_st g_W m_rm m_fs R) A) ([.ref q6, .int a0] : List Value).toArray s 0 0 A) (F0 m 21 ls []) := by
    intro k_2 v_2 H_2 g_M x1 x2 H locs ls hP hD hS hl hV hR
    unfold cf_X6_spread_i2_s21_1_1 at hR
    unfold vc_X6_spread_i2_s21_1_1 at hV
    refine lv_iload hx hb dX6_spread_21 (lv_at hl 4 rfl) ?_
    refine lv_aload_n hx hb dX6_spread_23 rfl (lv_at hl 0 rfl) ?_
    refine va_get (D := (dC, dI)) (ci := 4) (v := .int m_f) (C := RX6) (T := TX6) (N := 25) hx hb hts h1_ hown hK hP 0 rfl rfl 2 (by decide) h2_ (fun _ h9 => h9) rfl dX6_spread_24 ?_
    refine lv_icmp_ge (tgt := 100) hx hb dX6_spread_27 (by decide) (fun c_46 => ?_) (fun c_46 => ?_)
    · rw [if_pos c_46] at hR
      have hV := hV.1 c_46
      exact Ki2_s100_1 k_2 v_2 H_2 g_M x1 x2 H locs ls hP hD hS (lv_sub hl [0, 1, 2, 3] rfl) hV hR
    · rw [if_neg c_46] at hR
      have hV := hV.2 c_46
      refine lv_aload_n hx hb dX6_spread_30 rfl (lv_at hl 0 rfl) ?_
      refine va_get (D := (dC, dI)) (ci := 4) (v := .ref qM) (C := RX6) (T := TX6) (N := 25) hx hb hts h1_ hown hK hP 0 rfl rfl 24 (by decide) h3_ (fun _ h9 => h9) rfl dX6_spread_31 ?_
      refine lv_iload_n hx hb dX6_spread_34 rfl (lv_at hl 3 rfl) ?_
      refine va_zald hx hb hK hP 12 2 rfl rfl (by unfold vp_in; decide +kernel) dX6_spread_35 ?_
      refine lv_if_eq (tgt := 100) hx hb dX6_spread_36 (by decide) (fun c_47 => ?_) (fun c_47 => ?_)
      · rw [if_pos c_47] at hR
        have hV := hV.1 c_47
        exact Ki2_s100_1 k_2 v_2 H_2 g_M x1 x2 H locs ls hP hD hS (lv_sub hl [0, 1, 2, 3] rfl) hV hR
      · rw [if_neg c_47] at hR
        have hV := hV.2 c_47
        refine lv_aload_n hx hb dX6_spread_39 rfl (lv_at hl 0 rfl) ?_
        refine va_get (D := (dC, dI)) (ci := 4) (v := .ref qF) (C := RX6) (T := TX6) (N := 25) hx hb hts h1_ hown hK hP 0 rfl rfl 8 (by decide) h4_ (fun _ h9 => h9) rfl dX6_spread_40 ?_
        refine lv_iconst (v := (2 : Int32)) hx hb dX6_spread_43 (by decide +kernel) ?_
        refine lv_iload_n hx hb dX6_spread_44 rfl (lv_at hl 3 rfl) ?_
        refine lv_imul hx hb dX6_spread_45 ?_
        refine ek_v (P := fun z => W p l e (headSpec wsX6_spread ({ frames := 0, cells := 0, slots := 0, locals := 0 })).room s m ([.ref q6, .int a0] : List Value).toArray below meth c H locs 0 0 _ (F0 m 46 ls (.int z :: [.ref qF]))) (b := (2 : Int32)) (by decide +kernel) ?_
        refine lv_iload hx hb dX6_spread_46 (lv_at hl 4 rfl) ?_
        refine lv_iadd hx hb dX6_spread_48 ?_
        refine ek_v (P := fun z => W p l e (headSpec wsX6_spread ({ frames := 0, cells := 0, slots := 0, locals := 0 })).room s m ([.ref q6, .int a0] : List Value).toArray below meth c H locs 0 0 _ (F0 m 49 ls (.int z :: [.ref qF]))) (b := (3 : Int32)) (by decide +kernel) ?_
        refine va_iald hx hb hK hP 3 0 rfl rfl (by unfold vp_in; decide +kernel) dX6_spread_49 ?_
        refine lv_istore (lv' := [(5, .int (g_F ((3 : Int32)).toNatClampNeg)), (0, .ref q6), (1, .int x1), (2, .int x2), (3, .int (1 : Int32)), (4, .int (1 : Int32))]) hx hb dX6_spread_50 hl (by decide) rfl (fun ls hl => ?_)
        refine lv_iload hx hb dX6_spread_52 (lv_at hl 0 rfl) ?_
        refine lv_if_lt (tgt := 94) hx hb dX6_spread_54 (by decide) (fun c_48 => ?_) (fun c_48 => ?_)
        · rw [if_pos c_48] at hR
          have hV := hV.1 c_48
          exact Ki2_s94_1_1 k_2 v_2 H_2 g_M x1 x2 H locs ls hP hD hS (lv_sub hl [1, 2, 3, 4, 5] rfl) hV hR
        · rw [if_neg c_48] at hR
          have hV := hV.2 c_48
          refine lv_aload_n hx hb dX6_spread_57 rfl (lv_at hl 1 rfl) ?_
          refine va_get (D := (dC, dI)) (ci := 4) (v := .ref qM) (C := RX6) (T := TX6) (N := 25) hx hb hts h1_ hown hK hP 0 rfl rfl 24 (by decide) h3_ (fun _ h9 => h9) rfl dX6_spread_58 ?_
          refine lv_iload hx hb dX6_spread_61 (lv_at hl 0 rfl) ?_
          obtain ⟨hi49, hV⟩ := hV
          refine va_zald hx hb hK hP 12 2 rfl rfl hi49 dX6_spread_63 ?_
          refine lv_if_ne (tgt := 94) hx hb dX6_spread_64 (by decide) (fun c_50 => ?_) (fun c_50 => ?_)
          · rw [if_neg c_50] at hR
            have hV := hV.2 c_50
            exact Ki2_s94_1_1 k_2 v_2 H_2 g_M x1 x2 H locs ls hP hD hS (lv_sub hl [1, 2, 3, 4, 5] rfl) hV hR
          · rw [if_pos c_50] at hR
            have hV := hV.1 c_50
            refine lv_iload_n hx hb dX6_spread_67 rfl (lv_at hl 2 rfl) ?_
            refine lv_if_eq (tgt := 84) hx hb dX6_spread_68 (by decide) (fun c_51 => ?_) (fun c_51 => ?_)
            · rw [if_pos c_51] at hR
              have hV := hV.1 c_51
              exact Ki2_s84_1_1 k_2 v_2 H_2 g_M x1 (g_F ((3 : Int32)).toNatClampNeg) H locs ls hP hD hS (lv_sub hl [1, 2, 4, 5, 0] rfl) hV hR
            · rw [if_neg c_51] at hR
              have hV := hV.2 c_51
              refine lv_aload_n hx hb dX6_spread_71 rfl (lv_at hl 1 rfl) ?_
              refine va_get (D := (dC, dI)) (ci := 4) (v := .ref qC) (C := RX6) (T := TX6) (N := 25) hx hb hts h1_ hown hK hP 0 rfl rfl 10 (by decide) h5_ (fun _ h9 => h9) rfl dX6_spread_72 ?_
              refine lv_iload hx hb dX6_spread_75 (lv_at hl 0 rfl) ?_
              obtain ⟨hi53, hV⟩ := hV
              refine va_iald hx hb hK hP 5 0 rfl rfl hi53 dX6_spread_77 ?_
              refine lv_if_eq (tgt := 84) hx hb dX6_spread_78 (by decide) (fun c_54 => ?_) (fun c_54 => ?_)
              · rw [if_pos c_54] at hR
                have hV := hV.1 c_54
                exact Ki2_s84_1_1 k_2 v_2 H_2 g_M x1 (g_F ((3 : Int32)).toNatClampNeg) H locs ls hP hD hS (lv_sub hl [1, 2, 4, 5, 0] rfl) hV hR
              · rw [if_neg c_54] at hR
                have hV := hV.2 c_54
                refine lv_goto (tgt := 94) hx hb dX6_spread_81 (by decide) ?_
                exact Ki2_s94_1_1 k_2 v_2 H_2 g_M x1 x2 H locs ls hP hD hS (lv_sub hl [1, 2, 3, 4, 5] rfl) hV hR
  have Ki2_s94_1_0 : ∀ (k_2 : Int32 → Int32 → (Nat → Int32) → (Nat → Int32) → (Nat → Int32) → Int32 → Int32 → (Nat → Int32)) (v_2 : Int32 → Int32 → (Nat → Int32) → (Nat → Int32) → (Nat → Int32) → Int32 → Int32 → Prop) (H_2 : ∀ (g_M : Nat → Int32) (x1 : Int32) (x2 : Int32) (H : Heap) (locs : List Loc) (ls : Array Slot), va_P (dC, dI) kcl (mo_W q6 qA qB qF qR qC qL qS qO qY qH qW qM cyI cyJ cyZ m_th m_o m_f m_r m_b m_a u_F u_R g_F g_R g_C g_L m_rl m_lf m_ov m_pl g_S g_O g_Y g_H m_st g_W m_rm m_fs g_M) H → va_D A (mo_W q6 qA qB qF qR qC qL qS qO qY qH qW qM cyI cyJ cyZ m_th m_o m_f m_r m_b m_a u_F u_R g_F g_R g_C g_L m_rl m_lf m_ov m_pl g_S g_O g_Y g_H m_st g_W m_rm m_fs g_M) → va_S A s.heap H locs → lv_has ls 6 [(0, .ref q6), (1, .int x1), (2, .int x2)] → v_2 m_o m_f g_F g_C g_M x1 x2 → k_2 m_o m_f g_F g_C g_M x1 x2 = R → W p l e (headSpec wsX6_spread ({ frames := 0, cells := 0, slots := 0, locals := 0 })).room s m ([.ref q6, .int a0] : List Value).toArray below meth c H locs 0 0 (MQ below (mu_Q none (dC, dI) kcl (mo_W q6 qA qB qF qR qC qL qS qO qY qH qW qM cyI cyJ cyZ m_th m_o m_f m_r m_b m_a u_F u_R g_F g_R g_C g_L m_rl m_lf m_ov m_pl g_S g_O g_Y g_H m_st g_W m_rm m_fs R) A) ([.ref q6, .int a0] : List Value).toArray s 0 0 A) (F0 m 2 ls [])) (g_M : Nat → Int32) (x1 : Int32) (x2 : Int32) (H : Heap) (locs : List Loc) (ls : Array Slot), va_P (dC, dI) kcl (mo_W q6 qA qB qF qR qC qL qS qO qY qH qW qM cyI cyJ cyZ m_th m_o m_f m_r m_b m_a u_F u_R g_F g_R g_C g_L m_rl m_lf m_ov m_pl g_S g_O g_Y g_H m_st g_W m_rm m_fs g_M) H → va_D A (mo_W q6 qA qB qF qR qC qL qS qO qY qH qW qM cyI cyJ cyZ m_th m_o m_f m_r m_b m_a u_F u_R g_F g_R g_C g_L m_rl m_lf m_ov m_pl g_S g_O g_Y g_H m_st g_W m_rm m_fs g_M) → va_S A s.heap H locs → lv_has ls 6 [(0, .ref q6), (1, .int x1), (2, .int x2), (3, .int (1 : Int32)), (4, .int (0 : Int32))] → vc_X6_spread_i2_s94_1_0 fu v_2 m_o m_f g_F g_C g_M x1 x2 → cf_X6_spread_i2_s94_1_0 fu k_2 m_o m_f g_F g_C g_M x1 x2 = R → W p l e (headSpec wsX6_spread ({ frames := 0, cells := 0, slots := 0, locals := 0 })).room s m ([.ref q6, .int a0] : List Value).toArray below meth c H locs 0 0 (MQ below (mu_Q none (dC, dI) kcl (mo_W q6 qA qB qF qR qC qL qS qO qY qH qW qM cyI cyJ cyZ m_th m_o m_f m_r m_b m_a u_F u_R g_F g_R g_C g_L m_rl m_lf m_ov m_pl g_S g_O g_Y g_H m_st g_W m_rm m_fs R) A) ([.ref q6, .int a0] : List Value).toArray s 0 0 A) (F0 m 94 ls []) := by
    intro k_2 v_2 H_2 g_M x1 x2 H locs ls hP hD hS hl hV hR
    unfold cf_X6_spread_i2_s94_1_0 at hR
    unfold vc_X6_spread_i2_s94_1_0 at hV
    refine lv_iinc (v := (1 : Int32)) (lv' := [(4, .int (1 : Int32)), (0, .ref q6), (1, .int x1), (2, .int x2), (3, .int (1 : Int32))]) hx hb dX6_spread_94 hl (k := 4) rfl (by decide +kernel) (by decide) rfl (fun ls hl => ?_)
    refine lv_goto (tgt := 21) hx hb dX6_spread_97 (by decide) ?_
    exact Ki2_s21_1_1 k_2 v_2 H_2 g_M x1 x2 H locs ls hP hD hS (lv_sub hl [1, 2, 3, 4, 0] rfl) hV hR
  have Ki2_s84_1_0 : ∀ (k_2 : Int32 → Int32 → (Nat → Int32) → (Nat → Int32) → (Nat → Int32) → Int32 → Int32 → (Nat → Int32)) (v_2 : Int32 → Int32 → (Nat → Int32) → (Nat → Int32) → (Nat → Int32) → Int32 → Int32 → Prop) (H_2 : ∀ (g_M : Nat → Int32) (x1 : Int32) (x2 : Int32) (H : Heap) (locs : List Loc) (ls : Array Slot), va_P (dC, dI) kcl (mo_W q6 qA qB qF qR qC qL qS qO qY qH qW qM cyI cyJ cyZ m_th m_o m_f m_r m_b m_a u_F u_R g_F g_R g_C g_L m_rl m_lf m_ov m_pl g_S g_O g_Y g_H m_st g_W m_rm m_fs g_M) H → va_D A (mo_W q6 qA qB qF qR qC qL qS qO qY qH qW qM cyI cyJ cyZ m_th m_o m_f m_r m_b m_a u_F u_R g_F g_R g_C g_L m_rl m_lf m_ov m_pl g_S g_O g_Y g_H m_st g_W m_rm m_fs g_M) → va_S A s.heap H locs → lv_has ls 6 [(0, .ref q6), (1, .int x1), (2, .int x2)] → v_2 m_o m_f g_F g_C g_M x1 x2 → k_2 m_o m_f g_F g_C g_M x1 x2 = R → W p l e (headSpec wsX6_spread ({ frames := 0, cells := 0, slots := 0, locals := 0 })).room s m ([.ref q6, .int a0] : List Value).toArray below meth c H locs 0 0 (MQ below (mu_Q none (dC, dI) kcl (mo_W q6 qA qB qF qR qC qL qS qO qY qH qW qM cyI cyJ cyZ m_th m_o m_f m_r m_b m_a u_F u_R g_F g_R g_C g_L m_rl m_lf m_ov m_pl g_S g_O g_Y g_H m_st g_W m_rm m_fs R) A) ([.ref q6, .int a0] : List Value).toArray s 0 0 A) (F0 m 2 ls [])) (g_M : Nat → Int32) (x1 : Int32) (x5 : Int32) (H : Heap) (locs : List Loc) (ls : Array Slot), va_P (dC, dI) kcl (mo_W q6 qA qB qF qR qC qL qS qO qY qH qW qM cyI cyJ cyZ m_th m_o m_f m_r m_b m_a u_F u_R g_F g_R g_C g_L m_rl m_lf m_ov m_pl g_S g_O g_Y g_H m_st g_W m_rm m_fs g_M) H → va_D A (mo_W q6 qA qB qF qR qC qL qS qO qY qH qW qM cyI cyJ cyZ m_th m_o m_f m_r m_b m_a u_F u_R g_F g_R g_C g_L m_rl m_lf m_ov m_pl g_S g_O g_Y g_H m_st g_W m_rm m_fs g_M) → va_S A s.heap H locs → lv_has ls 6 [(0, .ref q6), (1, .int x1), (3, .int (1 : Int32)), (4, .int (0 : Int32)), (5, .int x5)] → vc_X6_spread_i2_s84_1_0 fu v_2 m_o m_f g_F g_C g_M x1 x5 → cf_X6_spread_i2_s84_1_0 fu k_2 m_o m_f g_F g_C g_M x1 x5 = R → W p l e (headSpec wsX6_spread ({ frames := 0, cells := 0, slots := 0, locals := 0 })).room s m ([.ref q6, .int a0] : List Value).toArray below meth c H locs 0 0 (MQ below (mu_Q none (dC, dI) kcl (mo_W q6 qA qB qF qR qC qL qS qO qY qH qW qM cyI cyJ cyZ m_th m_o m_f m_r m_b m_a u_F u_R g_F g_R g_C g_L m_rl m_lf m_ov m_pl g_S g_O g_Y g_H m_st g_W m_rm m_fs R) A) ([.ref q6, .int a0] : List Value).toArray s 0 0 A) (F0 m 84 ls []) := by
    intro k_2 v_2 H_2 g_M x1 x5 H locs ls hP hD hS hl hV hR
    unfold cf_X6_spread_i2_s84_1_0 at hR
    unfold vc_X6_spread_i2_s84_1_0 at hV
    refine lv_aload_n hx hb dX6_spread_84 rfl (lv_at hl 0 rfl) ?_
    refine va_get (D := (dC, dI)) (ci := 4) (v := .ref qM) (C := RX6) (T := TX6) (N := 25) hx hb hts h1_ hown hK hP 0 rfl rfl 24 (by decide) h3_ (fun _ h9 => h9) rfl dX6_spread_85 ?_
    refine lv_iload hx hb dX6_spread_88 (lv_at hl 4 rfl) ?_
    refine lv_iconst (v := (1 : Int32)) hx hb dX6_spread_90 (by decide +kernel) ?_
    obtain ⟨hi58, hV⟩ := hV
    refine va_zast hx hb hK hP hD hS 12 2 rfl rfl hi58 dX6_spread_91 (fun H locs hP hD hS => ?_)
    have hP : va_P (dC, dI) kcl (mo_W q6 qA qB qF qR qC qL qS qO qY qH qW qM cyI cyJ cyZ m_th m_o m_f m_r m_b m_a u_F u_R g_F g_R g_C g_L m_rl m_lf m_ov m_pl g_S g_O g_Y g_H m_st g_W m_rm m_fs (upd g_M (x5).toNatClampNeg (vp_nar .boolean (1 : Int32)))) H := hP
    have hD : va_D A (mo_W q6 qA qB qF qR qC qL qS qO qY qH qW qM cyI cyJ cyZ m_th m_o m_f m_r m_b m_a u_F u_R g_F g_R g_C g_L m_rl m_lf m_ov m_pl g_S g_O g_Y g_H m_st g_W m_rm m_fs (upd g_M (x5).toNatClampNeg (vp_nar .boolean (1 : Int32)))) := hD
    refine lv_iconst (v := (1 : Int32)) hx hb dX6_spread_92 (by decide +kernel) ?_
    refine lv_istore_n (lv' := [(2, .int (1 : Int32)), (0, .ref q6), (1, .int x1), (3, .int (1 : Int32)), (4, .int (0 : Int32)), (5, .int x5)]) hx hb dX6_spread_93 rfl hl (by decide) rfl (fun ls hl => ?_)
    exact Ki2_s94_1_0 k_2 v_2 H_2 (upd g_M (x5).toNatClampNeg (vp_nar .boolean (1 : Int32))) x1 (1 : Int32) H locs ls hP hD hS (lv_sub hl [1, 2, 0, 3, 4] rfl) hV hR
  have Ki2_s21_1_0 : ∀ (k_2 : Int32 → Int32 → (Nat → Int32) → (Nat → Int32) → (Nat → Int32) → Int32 → Int32 → (Nat → Int32)) (v_2 : Int32 → Int32 → (Nat → Int32) → (Nat → Int32) → (Nat → Int32) → Int32 → Int32 → Prop) (H_2 : ∀ (g_M : Nat → Int32) (x1 : Int32) (x2 : Int32) (H : Heap) (locs : List Loc) (ls : Array Slot), va_P (dC, dI) kcl (mo_W q6 qA qB qF qR qC qL qS qO qY qH qW qM cyI cyJ cyZ m_th m_o m_f m_r m_b m_a u_F u_R g_F g_R g_C g_L m_rl m_lf m_ov m_pl g_S g_O g_Y g_H m_st g_W m_rm m_fs g_M) H → va_D A (mo_W q6 qA qB qF qR qC qL qS qO qY qH qW qM cyI cyJ cyZ m_th m_o m_f m_r m_b m_a u_F u_R g_F g_R g_C g_L m_rl m_lf m_ov m_pl g_S g_O g_Y g_H m_st g_W m_rm m_fs g_M) → va_S A s.heap H locs → lv_has ls 6 [(0, .ref q6), (1, .int x1), (2, .int x2)] → v_2 m_o m_f g_F g_C g_M x1 x2 → k_2 m_o m_f g_F g_C g_M x1 x2 = R → W p l e (headSpec wsX6_spread ({ frames := 0, cells := 0, slots := 0, locals := 0 })).room s m ([.ref q6, .int a0] : List Value).toArray below meth c H locs 0 0 (MQ below (mu_Q none (dC, dI) kcl (mo_W q6 qA qB qF qR qC qL qS qO qY qH qW qM cyI cyJ cyZ m_th m_o m_f m_r m_b m_a u_F u_R g_F g_R g_C g_L m_rl m_lf m_ov m_pl g_S g_O g_Y g_H m_st g_W m_rm m_fs R) A) ([.ref q6, .int a0] : List Value).toArray s 0 0 A) (F0 m 2 ls [])) (g_M : Nat → Int32) (x1 : Int32) (x2 : Int32) (H : Heap) (locs : List Loc) (ls : Array Slot), va_P (dC, dI) kcl (mo_W q6 qA qB qF qR qC qL qS qO qY qH qW qM cyI cyJ cyZ m_th m_o m_f m_r m_b m_a u_F u_R g_F g_R g_C g_L m_rl m_lf m_ov m_pl g_S g_O g_Y g_H m_st g_W m_rm m_fs g_M) H → va_D A (mo_W q6 qA qB qF qR qC qL qS qO qY qH qW qM cyI cyJ cyZ m_th m_o m_f m_r m_b m_a u_F u_R g_F g_R g_C g_L m_rl m_lf m_ov m_pl g_S g_O g_Y g_H m_st g_W m_rm m_fs g_M) → va_S A s.heap H locs → lv_has ls 6 [(0, .ref q6), (1, .int x1), (2, .int x2), (3, .int (1 : Int32)), (4, .int (0 : Int32))] → vc_X6_spread_i2_s21_1_0 fu v_2 m_o m_f g_F g_C g_M x1 x2 → cf_X6_spread_i2_s21_1_0 fu k_2 m_o m_f g_F g_C g_M x1 x2 = R → W p l e (headSpec wsX6_spread ({ frames := 0, cells := 0, slots := 0, locals := 0 })).room s m ([.ref q6, .int a0] : List Value).toArray below meth c H locs 0 0 (MQ below (mu_Q none (dC, dI) kcl (mo_W q6 qA qB qF qR qC qL qS qO qY qH qW qM cyI cyJ cyZ m_th m_o m_f m_r m_b m_a u_F u_R g_F g_R g_C g_L m_rl m_lf m_ov m_pl g_S g_O g_Y g_H m_st g_W m_rm m_fs R) A) ([.ref q6, .int a0] : List Value).toArray s 0 0 A) (F0 m 21 ls []) := by
    intro k_2 v_2 H_2 g_M x1 x2 H locs ls hP hD hS hl hV hR
    unfold cf_X6_spread_i2_s21_1_0 at hR
    unfold vc_X6_spread_i2_s21_1_0 at hV
    refine lv_iload hx hb dX6_spread_21 (lv_at hl 4 rfl) ?_
    refine lv_aload_n hx hb dX6_spread_23 rfl (lv_at hl 0 rfl) ?_
    refine va_get (D := (dC, dI)) (ci := 4) (v := .int m_f) (C := RX6) (T := TX6) (N := 25) hx hb hts h1_ hown hK hP 0 rfl rfl 2 (by decide) h2_ (fun _ h9 => h9) rfl dX6_spread_24 ?_
    refine lv_icmp_ge (tgt := 100) hx hb dX6_spread_27 (by decide) (fun c_5 => ?_) (fun c_5 => ?_)
    · rw [if_pos c_5] at hR
      have hV := hV.1 c_5
      exact Ki2_s100_1 k_2 v_2 H_2 g_M x1 x2 H locs ls hP hD hS (lv_sub hl [0, 1, 2, 3] rfl) hV hR
    · rw [if_neg c_5] at hR
      have hV := hV.2 c_5
      refine lv_aload_n hx hb dX6_spread_30 rfl (lv_at hl 0 rfl) ?_
      refine va_get (D := (dC, dI)) (ci := 4) (v := .ref qM) (C := RX6) (T := TX6) (N := 25) hx hb hts h1_ hown hK hP 0 rfl rfl 24 (by decide) h3_ (fun _ h9 => h9) rfl dX6_spread_31 ?_
      refine lv_iload_n hx hb dX6_spread_34 rfl (lv_at hl 3 rfl) ?_
      refine va_zald hx hb hK hP 12 2 rfl rfl (by unfold vp_in; decide +kernel) dX6_spread_35 ?_
      refine lv_if_eq (tgt := 100) hx hb dX6_spread_36 (by decide) (fun c_44 => ?_) (fun c_44 => ?_)
      · rw [if_pos c_44] at hR
        have hV := hV.1 c_44
        exact Ki2_s100_1 k_2 v_2 H_2 g_M x1 x2 H locs ls hP hD hS (lv_sub hl [0, 1, 2, 3] rfl) hV hR
      · rw [if_neg c_44] at hR
        have hV := hV.2 c_44
        refine lv_aload_n hx hb dX6_spread_39 rfl (lv_at hl 0 rfl) ?_
        refine va_get (D := (dC, dI)) (ci := 4) (v := .ref qF) (C := RX6) (T := TX6) (N := 25) hx hb hts h1_ hown hK hP 0 rfl rfl 8 (by decide) h4_ (fun _ h9 => h9) rfl dX6_spread_40 ?_
        refine lv_iconst (v := (2 : Int32)) hx hb dX6_spread_43 (by decide +kernel) ?_
        refine lv_iload_n hx hb dX6_spread_44 rfl (lv_at hl 3 rfl) ?_
        refine lv_imul hx hb dX6_spread_45 ?_
        refine ek_v (P := fun z => W p l e (headSpec wsX6_spread ({ frames := 0, cells := 0, slots := 0, locals := 0 })).room s m ([.ref q6, .int a0] : List Value).toArray below meth c H locs 0 0 _ (F0 m 46 ls (.int z :: [.ref qF]))) (b := (2 : Int32)) (by decide +kernel) ?_
        refine lv_iload hx hb dX6_spread_46 (lv_at hl 4 rfl) ?_
        refine lv_iadd hx hb dX6_spread_48 ?_
        refine ek_v (P := fun z => W p l e (headSpec wsX6_spread ({ frames := 0, cells := 0, slots := 0, locals := 0 })).room s m ([.ref q6, .int a0] : List Value).toArray below meth c H locs 0 0 _ (F0 m 49 ls (.int z :: [.ref qF]))) (b := (2 : Int32)) (by decide +kernel) ?_
        refine va_iald hx hb hK hP 3 0 rfl rfl (by unfold vp_in; decide +kernel) dX6_spread_49 ?_
        refine lv_istore (lv' := [(5, .int (g_F ((2 : Int32)).toNatClampNeg)), (0, .ref q6), (1, .int x1), (2, .int x2), (3, .int (1 : Int32)), (4, .int (0 : Int32))]) hx hb dX6_spread_50 hl (by decide) rfl (fun ls hl => ?_)
        refine lv_iload hx hb dX6_spread_52 (lv_at hl 0 rfl) ?_
        refine lv_if_lt (tgt := 94) hx hb dX6_spread_54 (by decide) (fun c_45 => ?_) (fun c_45 => ?_)
        · rw [if_pos c_45] at hR
          have hV := hV.1 c_45
          exact Ki2_s94_1_0 k_2 v_2 H_2 g_M x1 x2 H locs ls hP hD hS (lv_sub hl [1, 2, 3, 4, 5] rfl) hV hR
        · rw [if_neg c_45] at hR
          have hV := hV.2 c_45
          refine lv_aload_n hx hb dX6_spread_57 rfl (lv_at hl 1 rfl) ?_
          refine va_get (D := (dC, dI)) (ci := 4) (v := .ref qM) (C := RX6) (T := TX6) (N := 25) hx hb hts h1_ hown hK hP 0 rfl rfl 24 (by decide) h3_ (fun _ h9 => h9) rfl dX6_spread_58 ?_
          refine lv_iload hx hb dX6_spread_61 (lv_at hl 0 rfl) ?_
          obtain ⟨hi55, hV⟩ := hV
          refine va_zald hx hb hK hP 12 2 rfl rfl hi55 dX6_spread_63 ?_
          refine lv_if_ne (tgt := 94) hx hb dX6_spread_64 (by decide) (fun c_56 => ?_) (fun c_56 => ?_)
          · rw [if_neg c_56] at hR
            have hV := hV.2 c_56
            exact Ki2_s94_1_0 k_2 v_2 H_2 g_M x1 x2 H locs ls hP hD hS (lv_sub hl [1, 2, 3, 4, 5] rfl) hV hR
          · rw [if_pos c_56] at hR
            have hV := hV.1 c_56
            refine lv_iload_n hx hb dX6_spread_67 rfl (lv_at hl 2 rfl) ?_
            refine lv_if_eq (tgt := 84) hx hb dX6_spread_68 (by decide) (fun c_57 => ?_) (fun c_57 => ?_)
            · rw [if_pos c_57] at hR
              have hV := hV.1 c_57
              exact Ki2_s84_1_0 k_2 v_2 H_2 g_M x1 (g_F ((2 : Int32)).toNatClampNeg) H locs ls hP hD hS (lv_sub hl [1, 2, 4, 5, 0] rfl) hV hR
            · rw [if_neg c_57] at hR
              have hV := hV.2 c_57
              refine lv_aload_n hx hb dX6_spread_71 rfl (lv_at hl 1 rfl) ?_
              refine va_get (D := (dC, dI)) (ci := 4) (v := .ref qC) (C := RX6) (T := TX6) (N := 25) hx hb hts h1_ hown hK hP 0 rfl rfl 10 (by decide) h5_ (fun _ h9 => h9) rfl dX6_spread_72 ?_
              refine lv_iload hx hb dX6_spread_75 (lv_at hl 0 rfl) ?_
              obtain ⟨hi59, hV⟩ := hV
              refine va_iald hx hb hK hP 5 0 rfl rfl hi59 dX6_spread_77 ?_
              refine lv_if_eq (tgt := 84) hx hb dX6_spread_78 (by decide) (fun c_60 => ?_) (fun c_60 => ?_)
              · rw [if_pos c_60] at hR
                have hV := hV.1 c_60
                exact Ki2_s84_1_0 k_2 v_2 H_2 g_M x1 (g_F ((2 : Int32)).toNatClampNeg) H locs ls hP hD hS (lv_sub hl [1, 2, 4, 5, 0] rfl) hV hR
              · rw [if_neg c_60] at hR
                have hV := hV.2 c_60
                refine lv_goto (tgt := 94) hx hb dX6_spread_81 (by decide) ?_
                exact Ki2_s94_1_0 k_2 v_2 H_2 g_M x1 x2 H locs ls hP hD hS (lv_sub hl [1, 2, 3, 4, 5] rfl) hV hR
  have Ki2_s10_1 : ∀ (k_2 : Int32 → Int32 → (Nat → Int32) → (Nat → Int32) → (Nat → Int32) → Int32 → Int32 → (Nat → Int32)) (v_2 : Int32 → Int32 → (Nat → Int32) → (Nat → Int32) → (Nat → Int32) → Int32 → Int32 → Prop) (H_2 : ∀ (g_M : Nat → Int32) (x1 : Int32) (x2 : Int32) (H : Heap) (locs : List Loc) (ls : Array Slot), va_P (dC, dI) kcl (mo_W q6 qA qB qF qR qC qL qS qO qY qH qW qM cyI cyJ cyZ m_th m_o m_f m_r m_b m_a u_F u_R g_F g_R g_C g_L m_rl m_lf m_ov m_pl g_S g_O g_Y g_H m_st g_W m_rm m_fs g_M) H → va_D A (mo_W q6 qA qB qF qR qC qL qS qO qY qH qW qM cyI cyJ cyZ m_th m_o m_f m_r m_b m_a u_F u_R g_F g_R g_C g_L m_rl m_lf m_ov m_pl g_S g_O g_Y g_H m_st g_W m_rm m_fs g_M) → va_S A s.heap H locs → lv_has ls 6 [(0, .ref q6), (1, .int x1), (2, .int x2)] → v_2 m_o m_f g_F g_C g_M x1 x2 → k_2 m_o m_f g_F g_C g_M x1 x2 = R → W p l e (headSpec wsX6_spread ({ frames := 0, cells := 0, slots := 0, locals := 0 })).room s m ([.ref q6, .int a0] : List Value).toArray below meth c H locs 0 0 (MQ below (mu_Q none (dC, dI) kcl (mo_W q6 qA qB qF qR qC qL qS qO qY qH qW qM cyI cyJ cyZ m_th m_o m_f m_r m_b m_a u_F u_R g_F g_R g_C g_L m_rl m_lf m_ov m_pl g_S g_O g_Y g_H m_st g_W m_rm m_fs R) A) ([.ref q6, .int a0] : List Value).toArray s 0 0 A) (F0 m 2 ls [])) (g_M : Nat → Int32) (x1 : Int32) (x2 : Int32) (H : Heap) (locs : List Loc) (ls : Array Slot), va_P (dC, dI) kcl (mo_W q6 qA qB qF qR qC qL qS qO qY qH qW qM cyI cyJ cyZ m_th m_o m_f m_r m_b m_a u_F u_R g_F g_R g_C g_L m_rl m_lf m_ov m_pl g_S g_O g_Y g_H m_st g_W m_rm m_fs g_M) H → va_D A (mo_W q6 qA qB qF qR qC qL qS qO qY qH qW qM cyI cyJ cyZ m_th m_o m_f m_r m_b m_a u_F u_R g_F g_R g_C g_L m_rl m_lf m_ov m_pl g_S g_O g_Y g_H m_st g_W m_rm m_fs g_M) → va_S A s.heap H locs → lv_has ls 6 [(0, .ref q6), (1, .int x1), (2, .int x2), (3, .int (1 : Int32))] → vc_X6_spread_i2_s10_1 fu v_2 m_o m_f g_F g_C g_M x1 x2 → cf_X6_spread_i2_s10_1 fu k_2 m_o m_f g_F g_C g_M x1 x2 = R → W p l e (headSpec wsX6_spread ({ frames := 0, cells := 0, slots := 0, locals := 0 })).room s m ([.ref q6, .int a0] : List Value).toArray below meth c H locs 0 0 (MQ below (mu_Q none (dC, dI) kcl (mo_W q6 qA qB qF qR qC qL qS qO qY qH qW qM cyI cyJ cyZ m_th m_o m_f m_r m_b m_a u_F u_R g_F g_R g_C g_L m_rl m_lf m_ov m_pl g_S g_O g_Y g_H m_st g_W m_rm m_fs R) A) ([.ref q6, .int a0] : List Value).toArray s 0 0 A) (F0 m 10 ls []) := by
    intro k_2 v_2 H_2 g_M x1 x2 H locs ls hP hD hS hl hV hR
    unfold cf_X6_spread_i2_s10_1 at hR
    unfold vc_X6_spread_i2_s10_1 at hV
    refine lv_iload_n hx hb dX6_spread_10 rfl (lv_at hl 3 rfl) ?_
    refine lv_aload_n hx hb dX6_spread_11 rfl (lv_at hl 0 rfl) ?_
    refine va_get (D := (dC, dI)) (ci := 4) (v := .int m_o) (C := RX6) (T := TX6) (N := 25) hx hb hts h1_ hown hK hP 0 rfl rfl 1 (by decide) h0_ (fun _ h9 => h9) rfl dX6_spread_12 ?_
    refine lv_icmp_ge (tgt := 106) hx hb dX6_spread_15 (by decide) (fun c_4 => ?_) (fun c_4 => ?_)
    · rw [if_pos c_4] at hR
      have hV := hV.1 c_4
      refine lv_goto (tgt := 2) hx hb dX6_spread_106 (by decide) ?_
      exact H_2 g_M x1 x2 H locs ls hP hD hS (lv_sub hl [0, 1, 2] rfl) hV hR
    · rw [if_neg c_4] at hR
      have hV := hV.2 c_4
      refine lv_iconst (v := (0 : Int32)) hx hb dX6_spread_18 (by decide +kernel) ?_
      refine lv_istore (lv' := [(4, .int (0 : Int32)), (0, .ref q6), (1, .int x1), (2, .int x2), (3, .int (1 : Int32))]) hx hb dX6_spread_19 hl (by decide) rfl (fun ls hl => ?_)
      exact Ki2_s21_1_0 k_2 v_2 H_2 g_M x1 x2 H locs ls hP hD hS (lv_sub hl [1, 2, 3, 4, 0] rfl) hV hR
  have Ki2_s100_0 : ∀ (k_2 : Int32 → Int32 → (Nat → Int32) → (Nat → Int32) → (Nat → Int32) → Int32 → Int32 → (Nat → Int32)) (v_2 : Int32 → Int32 → (Nat → Int32) → (Nat → Int32) → (Nat → Int32) → Int32 → Int32 → Prop) (H_2 : ∀ (g_M : Nat → Int32) (x1 : Int32) (x2 : Int32) (H : Heap) (locs : List Loc) (ls : Array Slot), va_P (dC, dI) kcl (mo_W q6 qA qB qF qR qC qL qS qO qY qH qW qM cyI cyJ cyZ m_th m_o m_f m_r m_b m_a u_F u_R g_F g_R g_C g_L m_rl m_lf m_ov m_pl g_S g_O g_Y g_H m_st g_W m_rm m_fs g_M) H → va_D A (mo_W q6 qA qB qF qR qC qL qS qO qY qH qW qM cyI cyJ cyZ m_th m_o m_f m_r m_b m_a u_F u_R g_F g_R g_C g_L m_rl m_lf m_ov m_pl g_S g_O g_Y g_H m_st g_W m_rm m_fs g_M) → va_S A s.heap H locs → lv_has ls 6 [(0, .ref q6), (1, .int x1), (2, .int x2)] → v_2 m_o m_f g_F g_C g_M x1 x2 → k_2 m_o m_f g_F g_C g_M x1 x2 = R → W p l e (headSpec wsX6_spread ({ frames := 0, cells := 0, slots := 0, locals := 0 })).room s m ([.ref q6, .int a0] : List Value).toArray below meth c H locs 0 0 (MQ below (mu_Q none (dC, dI) kcl (mo_W q6 qA qB qF qR qC qL qS qO qY qH qW qM cyI cyJ cyZ m_th m_o m_f m_r m_b m_a u_F u_R g_F g_R g_C g_L m_rl m_lf m_ov m_pl g_S g_O g_Y g_H m_st g_W m_rm m_fs R) A) ([.ref q6, .int a0] : List Value).toArray s 0 0 A) (F0 m 2 ls [])) (g_M : Nat → Int32) (x1 : Int32) (x2 : Int32) (H : Heap) (locs : List Loc) (ls : Array Slot), va_P (dC, dI) kcl (mo_W q6 qA qB qF qR qC qL qS qO qY qH qW qM cyI cyJ cyZ m_th m_o m_f m_r m_b m_a u_F u_R g_F g_R g_C g_L m_rl m_lf m_ov m_pl g_S g_O g_Y g_H m_st g_W m_rm m_fs g_M) H → va_D A (mo_W q6 qA qB qF qR qC qL qS qO qY qH qW qM cyI cyJ cyZ m_th m_o m_f m_r m_b m_a u_F u_R g_F g_R g_C g_L m_rl m_lf m_ov m_pl g_S g_O g_Y g_H m_st g_W m_rm m_fs g_M) → va_S A s.heap H locs → lv_has ls 6 [(0, .ref q6), (1, .int x1), (2, .int x2), (3, .int (0 : Int32))] → vc_X6_spread_i2_s100_0 fu v_2 m_o m_f g_F g_C g_M x1 x2 → cf_X6_spread_i2_s100_0 fu k_2 m_o m_f g_F g_C g_M x1 x2 = R → W p l e (headSpec wsX6_spread ({ frames := 0, cells := 0, slots := 0, locals := 0 })).room s m ([.ref q6, .int a0] : List Value).toArray below meth c H locs 0 0 (MQ below (mu_Q none (dC, dI) kcl (mo_W q6 qA qB qF qR qC qL qS qO qY qH qW qM cyI cyJ cyZ m_th m_o m_f m_r m_b m_a u_F u_R g_F g_R g_C g_L m_rl m_lf m_ov m_pl g_S g_O g_Y g_H m_st g_W m_rm m_fs R) A) ([.ref q6, .int a0] : List Value).toArray s 0 0 A) (F0 m 100 ls []) := by
    intro k_2 v_2 H_2 g_M x1 x2 H locs ls hP hD hS hl hV hR
    unfold cf_X6_spread_i2_s100_0 at hR
    unfold vc_X6_spread_i2_s100_0 at hV
    refine lv_iinc (v := (1 : Int32)) (lv' := [(3, .int (1 : Int32)), (0, .ref q6), (1, .int x1), (2, .int x2)]) hx hb dX6_spread_100 hl (k := 3) rfl (by decide +kernel) (by decide) rfl (fun ls hl => ?_)
    refine lv_goto (tgt := 10) hx hb dX6_spread_103 (by decide) ?_
    exact Ki2_s10_1 k_2 v_2 H_2 g_M x1 x2 H locs ls hP hD hS (lv_sub hl [1, 2, 3, 0] rfl) hV hR
  have Ki2_s21_0_2 : ∀ (k_2 : Int32 → Int32 → (Nat → Int32) → (Nat → Int32) → (Nat → Int32) → Int32 → Int32 → (Nat → Int32)) (v_2 : Int32 → Int32 → (Nat → Int32) → (Nat → Int32) → (Nat → Int32) → Int32 → Int32 → Prop) (H_2 : ∀ (g_M : Nat → Int32) (x1 : Int32) (x2 : Int32) (H : Heap) (locs : List Loc) (ls : Array Slot), va_P (dC, dI) kcl (mo_W q6 qA qB qF qR qC qL qS qO qY qH qW qM cyI cyJ cyZ m_th m_o m_f m_r m_b m_a u_F u_R g_F g_R g_C g_L m_rl m_lf m_ov m_pl g_S g_O g_Y g_H m_st g_W m_rm m_fs g_M) H → va_D A (mo_W q6 qA qB qF qR qC qL qS qO qY qH qW qM cyI cyJ cyZ m_th m_o m_f m_r m_b m_a u_F u_R g_F g_R g_C g_L m_rl m_lf m_ov m_pl g_S g_O g_Y g_H m_st g_W m_rm m_fs g_M) → va_S A s.heap H locs → lv_has ls 6 [(0, .ref q6), (1, .int x1), (2, .int x2)] → v_2 m_o m_f g_F g_C g_M x1 x2 → k_2 m_o m_f g_F g_C g_M x1 x2 = R → W p l e (headSpec wsX6_spread ({ frames := 0, cells := 0, slots := 0, locals := 0 })).room s m ([.ref q6, .int a0] : List Value).toArray below meth c H locs 0 0 (MQ below (mu_Q none (dC, dI) kcl (mo_W q6 qA qB qF qR qC qL qS qO qY qH qW qM cyI cyJ cyZ m_th m_o m_f m_r m_b m_a u_F u_R g_F g_R g_C g_L m_rl m_lf m_ov m_pl g_S g_O g_Y g_H m_st g_W m_rm m_fs R) A) ([.ref q6, .int a0] : List Value).toArray s 0 0 A) (F0 m 2 ls [])) (g_M : Nat → Int32) (x1 : Int32) (x2 : Int32) (H : Heap) (locs : List Loc) (ls : Array Slot), va_P (dC, dI) kcl (mo_W q6 qA qB qF qR qC qL qS qO qY qH qW qM cyI cyJ cyZ m_th m_o m_f m_r m_b m_a u_F u_R g_F g_R g_C g_L m_rl m_lf m_ov m_pl g_S g_O g_Y g_H m_st g_W m_rm m_fs g_M) H → va_D A (mo_W q6 qA qB qF qR qC qL qS qO qY qH qW qM cyI cyJ cyZ m_th m_o m_f m_r m_b m_a u_F u_R g_F g_R g_C g_L m_rl m_lf m_ov m_pl g_S g_O g_Y g_H m_st g_W m_rm m_fs g_M) → va_S A s.heap H locs → lv_has ls 6 [(0, .ref q6), (1, .int x1), (2, .int x2), (3, .int (0 : Int32)), (4, .int (2 : Int32))] → vc_X6_spread_i2_s21_0_2 fu v_2 m_o m_f g_F g_C g_M x1 x2 → cf_X6_spread_i2_s21_0_2 fu k_2 m_o m_f g_F g_C g_M x1 x2 = R → W p l e (headSpec wsX6_spread ({ frames := 0, cells := 0, slots := 0, locals := 0 })).room s m ([.ref q6, .int a0] : List Value).toArray below meth c H locs 0 0 (MQ below (mu_Q none (dC, dI) kcl (mo_W q6 qA qB qF qR qC qL qS qO qY qH qW qM cyI cyJ cyZ m_th m_o m_f m_r m_b m_a u_F u_R g_F g_R g_C g_L m_rl m_lf m_ov m_pl g_S g_O g_Y g_H m_st g_W m_rm m_fs R) A) ([.ref q6, .int a0] : List Value).toArray s 0 0 A) (F0 m 21 ls []) := by
    intro k_2 v_2 H_2 g_M x1 x2 H locs ls hP hD hS hl hV hR
    unfold cf_X6_spread_i2_s21_0_2 at hR
    unfold vc_X6_spread_i2_s21_0_2 at hV
    refine lv_iload hx hb dX6_spread_21 (lv_at hl 4 rfl) ?_
    refine lv_aload_n hx hb dX6_spread_23 rfl (lv_at hl 0 rfl) ?_
    refine va_get (D := (dC, dI)) (ci := 4) (v := .int m_f) (C := RX6) (T := TX6) (N := 25) hx hb hts h1_ hown hK hP 0 rfl rfl 2 (by decide) h2_ (fun _ h9 => h9) rfl dX6_spread_24 ?_
    refine lv_icmp_ge (tgt := 100) hx hb dX6_spread_27 (by decide) (fun _ => ?_) (fun c_0 => absurd hm_f c_0)
    exact Ki2_s100_0 k_2 v_2 H_2 g_M x1 x2 H locs ls hP hD hS (lv_sub hl [0, 1, 2, 3] rfl) hV hR
  have Ki2_s94_0_1 : ∀ (k_2 : Int32 → Int32 → (Nat → Int32) → (Nat → Int32) → (Nat → Int32) → Int32 → Int32 → (Nat → Int32)) (v_2 : Int32 → Int32 → (Nat → Int32) → (Nat → Int32) → (Nat → Int32) → Int32 → Int32 → Prop) (H_2 : ∀ (g_M : Nat → Int32) (x1 : Int32) (x2 : Int32) (H : Heap) (locs : List Loc) (ls : Array Slot), va_P (dC, dI) kcl (mo_W q6 qA qB qF qR qC qL qS qO qY qH qW qM cyI cyJ cyZ m_th m_o m_f m_r m_b m_a u_F u_R g_F g_R g_C g_L m_rl m_lf m_ov m_pl g_S g_O g_Y g_H m_st g_W m_rm m_fs g_M) H → va_D A (mo_W q6 qA qB qF qR qC qL qS qO qY qH qW qM cyI cyJ cyZ m_th m_o m_f m_r m_b m_a u_F u_R g_F g_R g_C g_L m_rl m_lf m_ov m_pl g_S g_O g_Y g_H m_st g_W m_rm m_fs g_M) → va_S A s.heap H locs → lv_has ls 6 [(0, .ref q6), (1, .int x1), (2, .int x2)] → v_2 m_o m_f g_F g_C g_M x1 x2 → k_2 m_o m_f g_F g_C g_M x1 x2 = R → W p l e (headSpec wsX6_spread ({ frames := 0, cells := 0, slots := 0, locals := 0 })).room s m ([.ref q6, .int a0] : List Value).toArray below meth c H locs 0 0 (MQ below (mu_Q none (dC, dI) kcl (mo_W q6 qA qB qF qR qC qL qS qO qY qH qW qM cyI cyJ cyZ m_th m_o m_f m_r m_b m_a u_F u_R g_F g_R g_C g_L m_rl m_lf m_ov m_pl g_S g_O g_Y g_H m_st g_W m_rm m_fs R) A) ([.ref q6, .int a0] : List Value).toArray s 0 0 A) (F0 m 2 ls [])) (g_M : Nat → Int32) (x1 : Int32) (x2 : Int32) (H : Heap) (locs : List Loc) (ls : Array Slot), va_P (dC, dI) kcl (mo_W q6 qA qB qF qR qC qL qS qO qY qH qW qM cyI cyJ cyZ m_th m_o m_f m_r m_b m_a u_F u_R g_F g_R g_C g_L m_rl m_lf m_ov m_pl g_S g_O g_Y g_H m_st g_W m_rm m_fs g_M) H → va_D A (mo_W q6 qA qB qF qR qC qL qS qO qY qH qW qM cyI cyJ cyZ m_th m_o m_f m_r m_b m_a u_F u_R g_F g_R g_C g_L m_rl m_lf m_ov m_pl g_S g_O g_Y g_H m_st g_W m_rm m_fs g_M) → va_S A s.heap H locs → lv_has ls 6 [(0, .ref q6), (1, .int x1), (2, .int x2), (3, .int (0 : Int32)), (4, .int (1 : Int32))] → vc_X6_spread_i2_s94_0_1 fu v_2 m_o m_f g_F g_C g_M x1 x2 → cf_X6_spread_i2_s94_0_1 fu k_2 m_o m_f g_F g_C g_M x1 x2 = R → W p l e (headSpec wsX6_spread ({ frames := 0, cells := 0, slots := 0, locals := 0 })).room s m ([.ref q6, .int a0] : List Value).toArray below meth c H locs 0 0 (MQ below (mu_Q none (dC, dI) kcl (mo_W q6 qA qB qF qR qC qL qS qO qY qH qW qM cyI cyJ cyZ m_th m_o m_f m_r m_b m_a u_F u_R g_F g_R g_C g_L m_rl m_lf m_ov m_pl g_S g_O g_Y g_H m_st g_W m_rm m_fs R) A) ([.ref q6, .int a0] : List Value).toArray s 0 0 A) (F0 m 94 ls []) := by
    intro k_2 v_2 H_2 g_M x1 x2 H locs ls hP hD hS hl hV hR
    unfold cf_X6_spread_i2_s94_0_1 at hR
    unfold vc_X6_spread_i2_s94_0_1 at hV
    refine lv_iinc (v := (2 : Int32)) (lv' := [(4, .int (2 : Int32)), (0, .ref q6), (1, .int x1), (2, .int x2), (3, .int (0 : Int32))]) hx hb dX6_spread_94 hl (k := 4) rfl (by decide +kernel) (by decide) rfl (fun ls hl => ?_)
    refine lv_goto (tgt := 21) hx hb dX6_spread_97 (by decide) ?_
    exact Ki2_s21_0_2 k_2 v_2 H_2 g_M x1 x2 H locs ls hP hD hS (lv_sub hl [1, 2, 3, 4, 0] rfl) hV hR
  have Ki2_s84_0_1 : ∀ (k_2 : Int32 → Int32 → (Nat → Int32) → (Nat → Int32) → (Nat → Int32) → Int32 → Int32 → (Nat → Int32)) (v_2 : Int32 → Int32 → (Nat → Int32) → (Nat → Int32) → (Nat → Int32) → Int32 → Int32 → Prop) (H_2 : ∀ (g_M : Nat → Int32) (x1 : Int32) (x2 : Int32) (H : Heap) (locs : List Loc) (ls : Array Slot), va_P (dC, dI) kcl (mo_W q6 qA qB qF qR qC qL qS qO qY qH qW qM cyI cyJ cyZ m_th m_o m_f m_r m_b m_a u_F u_R g_F g_R g_C g_L m_rl m_lf m_ov m_pl g_S g_O g_Y g_H m_st g_W m_rm m_fs g_M) H → va_D A (mo_W q6 qA qB qF qR qC qL qS qO qY qH qW qM cyI cyJ cyZ m_th m_o m_f m_r m_b m_a u_F u_R g_F g_R g_C g_L m_rl m_lf m_ov m_pl g_S g_O g_Y g_H m_st g_W m_rm m_fs g_M) → va_S A s.heap H locs → lv_has ls 6 [(0, .ref q6), (1, .int x1), (2, .int x2)] → v_2 m_o m_f g_F g_C g_M x1 x2 → k_2 m_o m_f g_F g_C g_M x1 x2 = R → W p l e (headSpec wsX6_spread ({ frames := 0, cells := 0, slots := 0, locals := 0 })).room s m ([.ref q6, .int a0] : List Value).toArray below meth c H locs 0 0 (MQ below (mu_Q none (dC, dI) kcl (mo_W q6 qA qB qF qR qC qL qS qO qY qH qW qM cyI cyJ cyZ m_th m_o m_f m_r m_b m_a u_F u_R g_F g_R g_C g_L m_rl m_lf m_ov m_pl g_S g_O g_Y g_H m_st g_W m_rm m_fs R) A) ([.ref q6, .int a0] : List Value).toArray s 0 0 A) (F0 m 2 ls [])) (g_M : Nat → Int32) (x1 : Int32) (x5 : Int32) (H : Heap) (locs : List Loc) (ls : Array Slot), va_P (dC, dI) kcl (mo_W q6 qA qB qF qR qC qL qS qO qY qH qW qM cyI cyJ cyZ m_th m_o m_f m_r m_b m_a u_F u_R g_F g_R g_C g_L m_rl m_lf m_ov m_pl g_S g_O g_Y g_H m_st g_W m_rm m_fs g_M) H → va_D A (mo_W q6 qA qB qF qR qC qL qS qO qY qH qW qM cyI cyJ cyZ m_th m_o m_f m_r m_b m_a u_F u_R g_F g_R g_C g_L m_rl m_lf m_ov m_pl g_S g_O g_Y g_H m_st g_W m_rm m_fs g_M) → va_S A s.heap H locs → lv_has ls 6 [(0, .ref q6), (1, .int x1), (3, .int (0 : Int32)), (4, .int (1 : Int32)), (5, .int x5)] → vc_X6_spread_i2_s84_0_1 fu v_2 m_o m_f g_F g_C g_M x1 x5 → cf_X6_spread_i2_s84_0_1 fu k_2 m_o m_f g_F g_C g_M x1 x5 = R → W p l e (headSpec wsX6_spread ({ frames := 0, cells := 0, slots := 0, locals := 0 })).room s m ([.ref q6, .int a0] : List Value).toArray below meth c H locs 0 0 (MQ below (mu_Q none (dC, dI) kcl (mo_W q6 qA qB qF qR qC qL qS qO qY qH qW qM cyI cyJ cyZ m_th m_o m_f m_r m_b m_a u_F u_R g_F g_R g_C g_L m_rl m_lf m_ov m_pl g_S g_O g_Y g_H m_st g_W m_rm m_fs R) A) ([.ref q6, .int a0] : List Value).toArray s 0 0 A) (F0 m 84 ls []) := by
    intro k_2 v_2 H_2 g_M x1 x5 H locs ls hP hD hS hl hV hR
    unfold cf_X6_spread_i2_s84_0_1 at hR
    unfold vc_X6_spread_i2_s84_0_1 at hV
    refine lv_aload_n hx hb dX6_spread_84 rfl (lv_at hl 0 rfl) ?_
    refine va_get (D := (dC, dI)) (ci := 4) (v := .ref qM) (C := RX6) (T := TX6) (N := 25) hx hb hts h1_ hown hK hP 0 rfl rfl 24 (by decide) h3_ (fun _ h9 => h9) rfl dX6_spread_85 ?_
    refine lv_iload hx hb dX6_spread_88 (lv_at hl 4 rfl) ?_
    refine lv_iconst (v := (1 : Int32)) hx hb dX6_spread_90 (by decide +kernel) ?_
    obtain ⟨hi69, hV⟩ := hV
    refine va_zast hx hb hK hP hD hS 12 2 rfl rfl hi69 dX6_spread_91 (fun H locs hP hD hS => ?_)
    have hP : va_P (dC, dI) kcl (mo_W q6 qA qB qF qR qC qL qS qO qY qH qW qM cyI cyJ cyZ m_th m_o m_f m_r m_b m_a u_F u_R g_F g_R g_C g_L m_rl m_lf m_ov m_pl g_S g_O g_Y g_H m_st g_W m_rm m_fs (upd g_M (x5).toNatClampNeg (vp_nar .boolean (1 : Int32)))) H := hP
    have hD : va_D A (mo_W q6 qA qB qF qR qC qL qS qO qY qH qW qM cyI cyJ cyZ m_th m_o m_f m_r m_b m_a u_F u_R g_F g_R g_C g_L m_rl m_lf m_ov m_pl g_S g_O g_Y g_H m_st g_W m_rm m_fs (upd g_M (x5).toNatClampNeg (vp_nar .boolean (1 : Int32)))) := hD
    refine lv_iconst (v := (1 : Int32)) hx hb dX6_spread_92 (by decide +kernel) ?_
    refine lv_istore_n (lv' := [(2, .int (1 : Int32)), (0, .ref q6), (1, .int x1), (3, .int (0 : Int32)), (4, .int (1 : Int32)), (5, .int x5)]) hx hb dX6_spread_93 rfl hl (by decide) rfl (fun ls hl => ?_)
    exact Ki2_s94_0_1 k_2 v_2 H_2 (upd g_M (x5).toNatClampNeg (vp_nar .boolean (1 : Int32))) x1 (1 : Int32) H locs ls hP hD hS (lv_sub hl [1, 2, 0, 3, 4] rfl) hV hR
  have Ki2_s21_0_1 : ∀ (k_2 : Int32 → Int32 → (Nat → Int32) → (Nat → Int32) → (Nat → Int32) → Int32 → Int32 → (Nat → Int32)) (v_2 : Int32 → Int32 → (Nat → Int32) → (Nat → Int32) → (Nat → Int32) → Int32 → Int32 → Prop) (H_2 : ∀ (g_M : Nat → Int32) (x1 : Int32) (x2 : Int32) (H : Heap) (locs : List Loc) (ls : Array Slot), va_P (dC, dI) kcl (mo_W q6 qA qB qF qR qC qL qS qO qY qH qW qM cyI cyJ cyZ m_th m_o m_f m_r m_b m_a u_F u_R g_F g_R g_C g_L m_rl m_lf m_ov m_pl g_S g_O g_Y g_H m_st g_W m_rm m_fs g_M) H → va_D A (mo_W q6 qA qB qF qR qC qL qS qO qY qH qW qM cyI cyJ cyZ m_th m_o m_f m_r m_b m_a u_F u_R g_F g_R g_C g_L m_rl m_lf m_ov m_pl g_S g_O g_Y g_H m_st g_W m_rm m_fs g_M) → va_S A s.heap H locs → lv_has ls 6 [(0, .ref q6), (1, .int x1), (2, .int x2)] → v_2 m_o m_f g_F g_C g_M x1 x2 → k_2 m_o m_f g_F g_C g_M x1 x2 = R → W p l e (headSpec wsX6_spread ({ frames := 0, cells := 0, slots := 0, locals := 0 })).room s m ([.ref q6, .int a0] : List Value).toArray below meth c H locs 0 0 (MQ below (mu_Q none (dC, dI) kcl (mo_W q6 qA qB qF qR qC qL qS qO qY qH qW qM cyI cyJ cyZ m_th m_o m_f m_r m_b m_a u_F u_R g_F g_R g_C g_L m_rl m_lf m_ov m_pl g_S g_O g_Y g_H m_st g_W m_rm m_fs R) A) ([.ref q6, .int a0] : List Value).toArray s 0 0 A) (F0 m 2 ls [])) (g_M : Nat → Int32) (x1 : Int32) (x2 : Int32) (H : Heap) (locs : List Loc) (ls : Array Slot), va_P (dC, dI) kcl (mo_W q6 qA qB qF qR qC qL qS qO qY qH qW qM cyI cyJ cyZ m_th m_o m_f m_r m_b m_a u_F u_R g_F g_R g_C g_L m_rl m_lf m_ov m_pl g_S g_O g_Y g_H m_st g_W m_rm m_fs g_M) H → va_D A (mo_W q6 qA qB qF qR qC qL qS qO qY qH qW qM cyI cyJ cyZ m_th m_o m_f m_r m_b m_a u_F u_R g_F g_R g_C g_L m_rl m_lf m_ov m_pl g_S g_O g_Y g_H m_st g_W m_rm m_fs g_M) → va_S A s.heap H locs → lv_has ls 6 [(0, .ref q6), (1, .int x1), (2, .int x2), (3, .int (0 : Int32)), (4, .int (1 : Int32))] → vc_X6_spread_i2_s21_0_1 fu v_2 m_o m_f g_F g_C g_M x1 x2 → cf_X6_spread_i2_s21_0_1 fu k_2 m_o m_f g_F g_C g_M x1 x2 = R → W p l e (headSpec wsX6_spread ({ frames := 0, cells := 0, slots := 0, locals := 0 })).room s m ([.ref q6, .int a0] : List Value).toArray below meth c H locs 0 0 (MQ below (mu_Q none (dC, dI) kcl (mo_W q6 qA qB qF qR qC qL qS qO qY qH qW qM cyI cyJ cyZ m_th m_o m_f m_r m_b m_a u_F u_R g_F g_R g_C g_L m_rl m_lf m_ov m_pl g_S g_O g_Y g_H m_st g_W m_rm m_fs R) A) ([.ref q6, .int a0] : List Value).toArray s 0 0 A) (F0 m 21 ls []) := by
    intro k_2 v_2 H_2 g_M x1 x2 H locs ls hP hD hS hl hV hR
    unfold cf_X6_spread_i2_s21_0_1 at hR
    unfold vc_X6_spread_i2_s21_0_1 at hV
    refine lv_iload hx hb dX6_spread_21 (lv_at hl 4 rfl) ?_
    refine lv_aload_n hx hb dX6_spread_23 rfl (lv_at hl 0 rfl) ?_
    refine va_get (D := (dC, dI)) (ci := 4) (v := .int m_f) (C := RX6) (T := TX6) (N := 25) hx hb hts h1_ hown hK hP 0 rfl rfl 2 (by decide) h2_ (fun _ h9 => h9) rfl dX6_spread_24 ?_
    refine lv_icmp_ge (tgt := 100) hx hb dX6_spread_27 (by decide) (fun c_63 => ?_) (fun c_63 => ?_)
    · rw [if_pos c_63] at hR
      have hV := hV.1 c_63
      exact Ki2_s100_0 k_2 v_2 H_2 g_M x1 x2 H locs ls hP hD hS (lv_sub hl [0, 1, 2, 3] rfl) hV hR
    · rw [if_neg c_63] at hR
      have hV := hV.2 c_63
      refine lv_aload_n hx hb dX6_spread_30 rfl (lv_at hl 0 rfl) ?_
      refine va_get (D := (dC, dI)) (ci := 4) (v := .ref qM) (C := RX6) (T := TX6) (N := 25) hx hb hts h1_ hown hK hP 0 rfl rfl 24 (by decide) h3_ (fun _ h9 => h9) rfl dX6_spread_31 ?_
      refine lv_iload_n hx hb dX6_spread_34 rfl (lv_at hl 3 rfl) ?_
      refine va_zald hx hb hK hP 12 2 rfl rfl (by unfold vp_in; decide +kernel) dX6_spread_35 ?_
      refine lv_if_eq (tgt := 100) hx hb dX6_spread_36 (by decide) (fun c_64 => ?_) (fun c_64 => ?_)
      · rw [if_pos c_64] at hR
        have hV := hV.1 c_64
        exact Ki2_s100_0 k_2 v_2 H_2 g_M x1 x2 H locs ls hP hD hS (lv_sub hl [0, 1, 2, 3] rfl) hV hR
      · rw [if_neg c_64] at hR
        have hV := hV.2 c_64
        refine lv_aload_n hx hb dX6_spread_39 rfl (lv_at hl 0 rfl) ?_
        refine va_get (D := (dC, dI)) (ci := 4) (v := .ref qF) (C := RX6) (T := TX6) (N := 25) hx hb hts h1_ hown hK hP 0 rfl rfl 8 (by decide) h4_ (fun _ h9 => h9) rfl dX6_spread_40 ?_
        refine lv_iconst (v := (2 : Int32)) hx hb dX6_spread_43 (by decide +kernel) ?_
        refine lv_iload_n hx hb dX6_spread_44 rfl (lv_at hl 3 rfl) ?_
        refine lv_imul hx hb dX6_spread_45 ?_
        refine ek_v (P := fun z => W p l e (headSpec wsX6_spread ({ frames := 0, cells := 0, slots := 0, locals := 0 })).room s m ([.ref q6, .int a0] : List Value).toArray below meth c H locs 0 0 _ (F0 m 46 ls (.int z :: [.ref qF]))) (b := (0 : Int32)) (by decide +kernel) ?_
        refine lv_iload hx hb dX6_spread_46 (lv_at hl 4 rfl) ?_
        refine lv_iadd hx hb dX6_spread_48 ?_
        refine ek_v (P := fun z => W p l e (headSpec wsX6_spread ({ frames := 0, cells := 0, slots := 0, locals := 0 })).room s m ([.ref q6, .int a0] : List Value).toArray below meth c H locs 0 0 _ (F0 m 49 ls (.int z :: [.ref qF]))) (b := (1 : Int32)) (by decide +kernel) ?_
        refine va_iald hx hb hK hP 3 0 rfl rfl (by unfold vp_in; decide +kernel) dX6_spread_49 ?_
        refine lv_istore (lv' := [(5, .int (g_F ((1 : Int32)).toNatClampNeg)), (0, .ref q6), (1, .int x1), (2, .int x2), (3, .int (0 : Int32)), (4, .int (1 : Int32))]) hx hb dX6_spread_50 hl (by decide) rfl (fun ls hl => ?_)
        refine lv_iload hx hb dX6_spread_52 (lv_at hl 0 rfl) ?_
        refine lv_if_lt (tgt := 94) hx hb dX6_spread_54 (by decide) (fun c_65 => ?_) (fun c_65 => ?_)
        · rw [if_pos c_65] at hR
          have hV := hV.1 c_65
          exact Ki2_s94_0_1 k_2 v_2 H_2 g_M x1 x2 H locs ls hP hD hS (lv_sub hl [1, 2, 3, 4, 5] rfl) hV hR
        · rw [if_neg c_65] at hR
          have hV := hV.2 c_65
          refine lv_aload_n hx hb dX6_spread_57 rfl (lv_at hl 1 rfl) ?_
          refine va_get (D := (dC, dI)) (ci := 4) (v := .ref qM) (C := RX6) (T := TX6) (N := 25) hx hb hts h1_ hown hK hP 0 rfl rfl 24 (by decide) h3_ (fun _ h9 => h9) rfl dX6_spread_58 ?_
          refine lv_iload hx hb dX6_spread_61 (lv_at hl 0 rfl) ?_
          obtain ⟨hi66, hV⟩ := hV
          refine va_zald hx hb hK hP 12 2 rfl rfl hi66 dX6_spread_63 ?_
          refine lv_if_ne (tgt := 94) hx hb dX6_spread_64 (by decide) (fun c_67 => ?_) (fun c_67 => ?_)
          · rw [if_neg c_67] at hR
            have hV := hV.2 c_67
            exact Ki2_s94_0_1 k_2 v_2 H_2 g_M x1 x2 H locs ls hP hD hS (lv_sub hl [1, 2, 3, 4, 5] rfl) hV hR
          · rw [if_pos c_67] at hR
            have hV := hV.1 c_67
            refine lv_iload_n hx hb dX6_spread_67 rfl (lv_at hl 2 rfl) ?_
            refine lv_if_eq (tgt := 84) hx hb dX6_spread_68 (by decide) (fun c_68 => ?_) (fun c_68 => ?_)
            · rw [if_pos c_68] at hR
              have hV := hV.1 c_68
              exact Ki2_s84_0_1 k_2 v_2 H_2 g_M x1 (g_F ((1 : Int32)).toNatClampNeg) H locs ls hP hD hS (lv_sub hl [1, 2, 4, 5, 0] rfl) hV hR
            · rw [if_neg c_68] at hR
              have hV := hV.2 c_68
              refine lv_aload_n hx hb dX6_spread_71 rfl (lv_at hl 1 rfl) ?_
              refine va_get (D := (dC, dI)) (ci := 4) (v := .ref qC) (C := RX6) (T := TX6) (N := 25) hx hb hts h1_ hown hK hP 0 rfl rfl 10 (by decide) h5_ (fun _ h9 => h9) rfl dX6_spread_72 ?_
              refine lv_iload hx hb dX6_spread_75 (lv_at hl 0 rfl) ?_
              obtain ⟨hi70, hV⟩ := hV
              refine va_iald hx hb hK hP 5 0 rfl rfl hi70 dX6_spread_77 ?_
              refine lv_if_eq (tgt := 84) hx hb dX6_spread_78 (by decide) (fun c_71 => ?_) (fun c_71 => ?_)
              · rw [if_pos c_71] at hR
                have hV := hV.1 c_71
                exact Ki2_s84_0_1 k_2 v_2 H_2 g_M x1 (g_F ((1 : Int32)).toNatClampNeg) H locs ls hP hD hS (lv_sub hl [1, 2, 4, 5, 0] rfl) hV hR
              · rw [if_neg c_71] at hR
                have hV := hV.2 c_71
                refine lv_goto (tgt := 94) hx hb dX6_spread_81 (by decide) ?_
                exact Ki2_s94_0_1 k_2 v_2 H_2 g_M x1 x2 H locs ls hP hD hS (lv_sub hl [1, 2, 3, 4, 5] rfl) hV hR
  have Ki2_s94_0_0 : ∀ (k_2 : Int32 → Int32 → (Nat → Int32) → (Nat → Int32) → (Nat → Int32) → Int32 → Int32 → (Nat → Int32)) (v_2 : Int32 → Int32 → (Nat → Int32) → (Nat → Int32) → (Nat → Int32) → Int32 → Int32 → Prop) (H_2 : ∀ (g_M : Nat → Int32) (x1 : Int32) (x2 : Int32) (H : Heap) (locs : List Loc) (ls : Array Slot), va_P (dC, dI) kcl (mo_W q6 qA qB qF qR qC qL qS qO qY qH qW qM cyI cyJ cyZ m_th m_o m_f m_r m_b m_a u_F u_R g_F g_R g_C g_L m_rl m_lf m_ov m_pl g_S g_O g_Y g_H m_st g_W m_rm m_fs g_M) H → va_D A (mo_W q6 qA qB qF qR qC qL qS qO qY qH qW qM cyI cyJ cyZ m_th m_o m_f m_r m_b m_a u_F u_R g_F g_R g_C g_L m_rl m_lf m_ov m_pl g_S g_O g_Y g_H m_st g_W m_rm m_fs g_M) → va_S A s.heap H locs → lv_has ls 6 [(0, .ref q6), (1, .int x1), (2, .int x2)] → v_2 m_o m_f g_F g_C g_M x1 x2 → k_2 m_o m_f g_F g_C g_M x1 x2 = R → W p l e (headSpec wsX6_spread ({ frames := 0, cells := 0, slots := 0, locals := 0 })).room s m ([.ref q6, .int a0] : List Value).toArray below meth c H locs 0 0 (MQ below (mu_Q none (dC, dI) kcl (mo_W q6 qA qB qF qR qC qL qS qO qY qH qW qM cyI cyJ cyZ m_th m_o m_f m_r m_b m_a u_F u_R g_F g_R g_C g_L m_rl m_lf m_ov m_pl g_S g_O g_Y g_H m_st g_W m_rm m_fs R) A) ([.ref q6, .int a0] : List Value).toArray s 0 0 A) (F0 m 2 ls [])) (g_M : Nat → Int32) (x1 : Int32) (x2 : Int32) (H : Heap) (locs : List Loc) (ls : Array Slot), va_P (dC, dI) kcl (mo_W q6 qA qB qF qR qC qL qS qO qY qH qW qM cyI cyJ cyZ m_th m_o m_f m_r m_b m_a u_F u_R g_F g_R g_C g_L m_rl m_lf m_ov m_pl g_S g_O g_Y g_H m_st g_W m_rm m_fs g_M) H → va_D A (mo_W q6 qA qB qF qR qC qL qS qO qY qH qW qM cyI cyJ cyZ m_th m_o m_f m_r m_b m_a u_F u_R g_F g_R g_C g_L m_rl m_lf m_ov m_pl g_S g_O g_Y g_H m_st g_W m_rm m_fs g_M) → va_S A s.heap H locs → lv_has ls 6 [(0, .ref q6), (1, .int x1), (2, .int x2), (3, .int (0 : Int32)), (4, .int (0 : Int32))] → vc_X6_spread_i2_s94_0_0 fu v_2 m_o m_f g_F g_C g_M x1 x2 → cf_X6_spread_i2_s94_0_0 fu k_2 m_o m_f g_F g_C g_M x1 x2 = R → W p l e (headSpec wsX6_spread ({ frames := 0, cells := 0, slots := 0, locals := 0 })).room s m ([.ref q6, .int a0] : List Value).toArray below meth c H locs 0 0 (MQ below (mu_Q none (dC, dI) kcl (mo_W q6 qA qB qF qR qC qL qS qO qY qH qW qM cyI cyJ cyZ m_th m_o m_f m_r m_b m_a u_F u_R g_F g_R g_C g_L m_rl m_lf m_ov m_pl g_S g_O g_Y g_H m_st g_W m_rm m_fs R) A) ([.ref q6, .int a0] : List Value).toArray s 0 0 A) (F0 m 94 ls []) := by
    intro k_2 v_2 H_2 g_M x1 x2 H locs ls hP hD hS hl hV hR
    unfold cf_X6_spread_i2_s94_0_0 at hR
    unfold vc_X6_spread_i2_s94_0_0 at hV
    refine lv_iinc (v := (1 : Int32)) (lv' := [(4, .int (1 : Int32)), (0, .ref q6), (1, .int x1), (2, .int x2), (3, .int (0 : Int32))]) hx hb dX6_spread_94 hl (k := 4) rfl (by decide +kernel) (by decide) rfl (fun ls hl => ?_)
    refine lv_goto (tgt := 21) hx hb dX6_spread_97 (by decide) ?_
    exact Ki2_s21_0_1 k_2 v_2 H_2 g_M x1 x2 H locs ls hP hD hS (lv_sub hl [1, 2, 3, 4, 0] rfl) hV hR
  have Ki2_s84_0_0 : ∀ (k_2 : Int32 → Int32 → (Nat → Int32) → (Nat → Int32) → (Nat → Int32) → Int32 → Int32 → (Nat → Int32)) (v_2 : Int32 → Int32 → (Nat → Int32) → (Nat → Int32) → (Nat → Int32) → Int32 → Int32 → Prop) (H_2 : ∀ (g_M : Nat → Int32) (x1 : Int32) (x2 : Int32) (H : Heap) (locs : List Loc) (ls : Array Slot), va_P (dC, dI) kcl (mo_W q6 qA qB qF qR qC qL qS qO qY qH qW qM cyI cyJ cyZ m_th m_o m_f m_r m_b m_a u_F u_R g_F g_R g_C g_L m_rl m_lf m_ov m_pl g_S g_O g_Y g_H m_st g_W m_rm m_fs g_M) H → va_D A (mo_W q6 qA qB qF qR qC qL qS qO qY qH qW qM cyI cyJ cyZ m_th m_o m_f m_r m_b m_a u_F u_R g_F g_R g_C g_L m_rl m_lf m_ov m_pl g_S g_O g_Y g_H m_st g_W m_rm m_fs g_M) → va_S A s.heap H locs → lv_has ls 6 [(0, .ref q6), (1, .int x1), (2, .int x2)] → v_2 m_o m_f g_F g_C g_M x1 x2 → k_2 m_o m_f g_F g_C g_M x1 x2 = R → W p l e (headSpec wsX6_spread ({ frames := 0, cells := 0, slots := 0, locals := 0 })).room s m ([.ref q6, .int a0] : List Value).toArray below meth c H locs 0 0 (MQ below (mu_Q none (dC, dI) kcl (mo_W q6 qA qB qF qR qC qL qS qO qY qH qW qM cyI cyJ cyZ m_th m_o m_f m_r m_b m_a u_F u_R g_F g_R g_C g_L m_rl m_lf m_ov m_pl g_S g_O g_Y g_H m_st g_W m_rm m_fs R) A) ([.ref q6, .int a0] : List Value).toArray s 0 0 A) (F0 m 2 ls [])) (g_M : Nat → Int32) (x1 : Int32) (x5 : Int32) (H : Heap) (locs : List Loc) (ls : Array Slot), va_P (dC, dI) kcl (mo_W q6 qA qB qF qR qC qL qS qO qY qH qW qM cyI cyJ cyZ m_th m_o m_f m_r m_b m_a u_F u_R g_F g_R g_C g_L m_rl m_lf m_ov m_pl g_S g_O g_Y g_H m_st g_W m_rm m_fs g_M) H → va_D A (mo_W q6 qA qB qF qR qC qL qS qO qY qH qW qM cyI cyJ cyZ m_th m_o m_f m_r m_b m_a u_F u_R g_F g_R g_C g_L m_rl m_lf m_ov m_pl g_S g_O g_Y g_H m_st g_W m_rm m_fs g_M) → va_S A s.heap H locs → lv_has ls 6 [(0, .ref q6), (1, .int x1), (3, .int (0 : Int32)), (4, .int (0 : Int32)), (5, .int x5)] → vc_X6_spread_i2_s84_0_0 fu v_2 m_o m_f g_F g_C g_M x1 x5 → cf_X6_spread_i2_s84_0_0 fu k_2 m_o m_f g_F g_C g_M x1 x5 = R → W p l e (headSpec wsX6_spread ({ frames := 0, cells := 0, slots := 0, locals := 0 })).room s m ([.ref q6, .int a0] : List Value).toArray below meth c H locs 0 0 (MQ below (mu_Q none (dC, dI) kcl (mo_W q6 qA qB qF qR qC qL qS qO qY qH qW qM cyI cyJ cyZ m_th m_o m_f m_r m_b m_a u_F u_R g_F g_R g_C g_L m_rl m_lf m_ov m_pl g_S g_O g_Y g_H m_st g_W m_rm m_fs R) A) ([.ref q6, .int a0] : List Value).toArray s 0 0 A) (F0 m 84 ls []) := by
    intro k_2 v_2 H_2 g_M x1 x5 H locs ls hP hD hS hl hV hR
    unfold cf_X6_spread_i2_s84_0_0 at hR
    unfold vc_X6_spread_i2_s84_0_0 at hV
    refine lv_aload_n hx hb dX6_spread_84 rfl (lv_at hl 0 rfl) ?_
    refine va_get (D := (dC, dI)) (ci := 4) (v := .ref qM) (C := RX6) (T := TX6) (N := 25) hx hb hts h1_ hown hK hP 0 rfl rfl 24 (by decide) h3_ (fun _ h9 => h9) rfl dX6_spread_85 ?_
    refine lv_iload hx hb dX6_spread_88 (lv_at hl 4 rfl) ?_
    refine lv_iconst (v := (1 : Int32)) hx hb dX6_spread_90 (by decide +kernel) ?_
    obtain ⟨hi75, hV⟩ := hV
    refine va_zast hx hb hK hP hD hS 12 2 rfl rfl hi75 dX6_spread_91 (fun H locs hP hD hS => ?_)
    have hP : va_P (dC, dI) kcl (mo_W q6 qA qB qF qR qC qL qS qO qY qH qW qM cyI cyJ cyZ m_th m_o m_f m_r m_b m_a u_F u_R g_F g_R g_C g_L m_rl m_lf m_ov m_pl g_S g_O g_Y g_H m_st g_W m_rm m_fs (upd g_M (x5).toNatClampNeg (vp_nar .boolean (1 : Int32)))) H := hP
    have hD : va_D A (mo_W q6 qA qB qF qR qC qL qS qO qY qH qW qM cyI cyJ cyZ m_th m_o m_f m_r m_b m_a u_F u_R g_F g_R g_C g_L m_rl m_lf m_ov m_pl g_S g_O g_Y g_H m_st g_W m_rm m_fs (upd g_M (x5).toNatClampNeg (vp_nar .boolean (1 : Int32)))) := hD
    refine lv_iconst (v := (1 : Int32)) hx hb dX6_spread_92 (by decide +kernel) ?_
    refine lv_istore_n (lv' := [(2, .int (1 : Int32)), (0, .ref q6), (1, .int x1), (3, .int (0 : Int32)), (4, .int (0 : Int32)), (5, .int x5)]) hx hb dX6_spread_93 rfl hl (by decide) rfl (fun ls hl => ?_)
    exact Ki2_s94_0_0 k_2 v_2 H_2 (upd g_M (x5).toNatClampNeg (vp_nar .boolean (1 : Int32))) x1 (1 : Int32) H locs ls hP hD hS (lv_sub hl [1, 2, 0, 3, 4] rfl) hV hR
  have Ki2_s21_0_0 : ∀ (k_2 : Int32 → Int32 → (Nat → Int32) → (Nat → Int32) → (Nat → Int32) → Int32 → Int32 → (Nat → Int32)) (v_2 : Int32 → Int32 → (Nat → Int32) → (Nat → Int32) → (Nat → Int32) → Int32 → Int32 → Prop) (H_2 : ∀ (g_M : Nat → Int32) (x1 : Int32) (x2 : Int32) (H : Heap) (locs : List Loc) (ls : Array Slot), va_P (dC, dI) kcl (mo_W q6 qA qB qF qR qC qL qS qO qY qH qW qM cyI cyJ cyZ m_th m_o m_f m_r m_b m_a u_F u_R g_F g_R g_C g_L m_rl m_lf m_ov m_pl g_S g_O g_Y g_H m_st g_W m_rm m_fs g_M) H → va_D A (mo_W q6 qA qB qF qR qC qL qS qO qY qH qW qM cyI cyJ cyZ m_th m_o m_f m_r m_b m_a u_F u_R g_F g_R g_C g_L m_rl m_lf m_ov m_pl g_S g_O g_Y g_H m_st g_W m_rm m_fs g_M) → va_S A s.heap H locs → lv_has ls 6 [(0, .ref q6), (1, .int x1), (2, .int x2)] → v_2 m_o m_f g_F g_C g_M x1 x2 → k_2 m_o m_f g_F g_C g_M x1 x2 = R → W p l e (headSpec wsX6_spread ({ frames := 0, cells := 0, slots := 0, locals := 0 })).room s m ([.ref q6, .int a0] : List Value).toArray below meth c H locs 0 0 (MQ below (mu_Q none (dC, dI) kcl (mo_W q6 qA qB qF qR qC qL qS qO qY qH qW qM cyI cyJ cyZ m_th m_o m_f m_r m_b m_a u_F u_R g_F g_R g_C g_L m_rl m_lf m_ov m_pl g_S g_O g_Y g_H m_st g_W m_rm m_fs R) A) ([.ref q6, .int a0] : List Value).toArray s 0 0 A) (F0 m 2 ls [])) (g_M : Nat → Int32) (x1 : Int32) (x2 : Int32) (H : Heap) (locs : List Loc) (ls : Array Slot), va_P (dC, dI) kcl (mo_W q6 qA qB qF qR qC qL qS qO qY qH qW qM cyI cyJ cyZ m_th m_o m_f m_r m_b m_a u_F u_R g_F g_R g_C g_L m_rl m_lf m_ov m_pl g_S g_O g_Y g_H m_st g_W m_rm m_fs g_M) H → va_D A (mo_W q6 qA qB qF qR qC qL qS qO qY qH qW qM cyI cyJ cyZ m_th m_o m_f m_r m_b m_a u_F u_R g_F g_R g_C g_L m_rl m_lf m_ov m_pl g_S g_O g_Y g_H m_st g_W m_rm m_fs g_M) → va_S A s.heap H locs → lv_has ls 6 [(0, .ref q6), (1, .int x1), (2, .int x2), (3, .int (0 : Int32)), (4, .int (0 : Int32))] → vc_X6_spread_i2_s21_0_0 fu v_2 m_o m_f g_F g_C g_M x1 x2 → cf_X6_spread_i2_s21_0_0 fu k_2 m_o m_f g_F g_C g_M x1 x2 = R → W p l e (headSpec wsX6_spread ({ frames := 0, cells := 0, slots := 0, locals := 0 })).room s m ([.ref q6, .int a0] : List Value).toArray below meth c H locs 0 0 (MQ below (mu_Q none (dC, dI) kcl (mo_W q6 qA qB qF qR qC qL qS qO qY qH qW qM cyI cyJ cyZ m_th m_o m_f m_r m_b m_a u_F u_R g_F g_R g_C g_L m_rl m_lf m_ov m_pl g_S g_O g_Y g_H m_st g_W m_rm m_fs R) A) ([.ref q6, .int a0] : List Value).toArray s 0 0 A) (F0 m 21 ls []) := by
    intro k_2 v_2 H_2 g_M x1 x2 H locs ls hP hD hS hl hV hR
    unfold cf_X6_spread_i2_s21_0_0 at hR
    unfold vc_X6_spread_i2_s21_0_0 at hV
    refine lv_iload hx hb dX6_spread_21 (lv_at hl 4 rfl) ?_
    refine lv_aload_n hx hb dX6_spread_23 rfl (lv_at hl 0 rfl) ?_
    refine va_get (D := (dC, dI)) (ci := 4) (v := .int m_f) (C := RX6) (T := TX6) (N := 25) hx hb hts h1_ hown hK hP 0 rfl rfl 2 (by decide) h2_ (fun _ h9 => h9) rfl dX6_spread_24 ?_
    refine lv_icmp_ge (tgt := 100) hx hb dX6_spread_27 (by decide) (fun c_3 => ?_) (fun c_3 => ?_)
    · rw [if_pos c_3] at hR
      have hV := hV.1 c_3
      exact Ki2_s100_0 k_2 v_2 H_2 g_M x1 x2 H locs ls hP hD hS (lv_sub hl [0, 1, 2, 3] rfl) hV hR
    · rw [if_neg c_3] at hR
      have hV := hV.2 c_3
      refine lv_aload_n hx hb dX6_spread_30 rfl (lv_at hl 0 rfl) ?_
      refine va_get (D := (dC, dI)) (ci := 4) (v := .ref qM) (C := RX6) (T := TX6) (N := 25) hx hb hts h1_ hown hK hP 0 rfl rfl 24 (by decide) h3_ (fun _ h9 => h9) rfl dX6_spread_31 ?_
      refine lv_iload_n hx hb dX6_spread_34 rfl (lv_at hl 3 rfl) ?_
      refine va_zald hx hb hK hP 12 2 rfl rfl (by unfold vp_in; decide +kernel) dX6_spread_35 ?_
      refine lv_if_eq (tgt := 100) hx hb dX6_spread_36 (by decide) (fun c_61 => ?_) (fun c_61 => ?_)
      · rw [if_pos c_61] at hR
        have hV := hV.1 c_61
        exact Ki2_s100_0 k_2 v_2 H_2 g_M x1 x2 H locs ls hP hD hS (lv_sub hl [0, 1, 2, 3] rfl) hV hR
      · rw [if_neg c_61] at hR
        have hV := hV.2 c_61
        refine lv_aload_n hx hb dX6_spread_39 rfl (lv_at hl 0 rfl) ?_
        refine va_get (D := (dC, dI)) (ci := 4) (v := .ref qF) (C := RX6) (T := TX6) (N := 25) hx hb hts h1_ hown hK hP 0 rfl rfl 8 (by decide) h4_ (fun _ h9 => h9) rfl dX6_spread_40 ?_
        refine lv_iconst (v := (2 : Int32)) hx hb dX6_spread_43 (by decide +kernel) ?_
        refine lv_iload_n hx hb dX6_spread_44 rfl (lv_at hl 3 rfl) ?_
        refine lv_imul hx hb dX6_spread_45 ?_
        refine ek_v (P := fun z => W p l e (headSpec wsX6_spread ({ frames := 0, cells := 0, slots := 0, locals := 0 })).room s m ([.ref q6, .int a0] : List Value).toArray below meth c H locs 0 0 _ (F0 m 46 ls (.int z :: [.ref qF]))) (b := (0 : Int32)) (by decide +kernel) ?_
        refine lv_iload hx hb dX6_spread_46 (lv_at hl 4 rfl) ?_
        refine lv_iadd hx hb dX6_spread_48 ?_
        refine ek_v (P := fun z => W p l e (headSpec wsX6_spread ({ frames := 0, cells := 0, slots := 0, locals := 0 })).room s m ([.ref q6, .int a0] : List Value).toArray below meth c H locs 0 0 _ (F0 m 49 ls (.int z :: [.ref qF]))) (b := (0 : Int32)) (by decide +kernel) ?_
        refine va_iald hx hb hK hP 3 0 rfl rfl (by unfold vp_in; decide +kernel) dX6_spread_49 ?_
        refine lv_istore (lv' := [(5, .int (g_F ((0 : Int32)).toNatClampNeg)), (0, .ref q6), (1, .int x1), (2, .int x2), (3, .int (0 : Int32)), (4, .int (0 : Int32))]) hx hb dX6_spread_50 hl (by decide) rfl (fun ls hl => ?_)
        refine lv_iload hx hb dX6_spread_52 (lv_at hl 0 rfl) ?_
        refine lv_if_lt (tgt := 94) hx hb dX6_spread_54 (by decide) (fun c_62 => ?_) (fun c_62 => ?_)
        · rw [if_pos c_62] at hR
          have hV := hV.1 c_62
          exact Ki2_s94_0_0 k_2 v_2 H_2 g_M x1 x2 H locs ls hP hD hS (lv_sub hl [1, 2, 3, 4, 5] rfl) hV hR
        · rw [if_neg c_62] at hR
          have hV := hV.2 c_62
          refine lv_aload_n hx hb dX6_spread_57 rfl (lv_at hl 1 rfl) ?_
          refine va_get (D := (dC, dI)) (ci := 4) (v := .ref qM) (C := RX6) (T := TX6) (N := 25) hx hb hts h1_ hown hK hP 0 rfl rfl 24 (by decide) h3_ (fun _ h9 => h9) rfl dX6_spread_58 ?_
          refine lv_iload hx hb dX6_spread_61 (lv_at hl 0 rfl) ?_
          obtain ⟨hi72, hV⟩ := hV
          refine va_zald hx hb hK hP 12 2 rfl rfl hi72 dX6_spread_63 ?_
          refine lv_if_ne (tgt := 94) hx hb dX6_spread_64 (by decide) (fun c_73 => ?_) (fun c_73 => ?_)
          · rw [if_neg c_73] at hR
            have hV := hV.2 c_73
            exact Ki2_s94_0_0 k_2 v_2 H_2 g_M x1 x2 H locs ls hP hD hS (lv_sub hl [1, 2, 3, 4, 5] rfl) hV hR
          · rw [if_pos c_73] at hR
            have hV := hV.1 c_73
            refine lv_iload_n hx hb dX6_spread_67 rfl (lv_at hl 2 rfl) ?_
            refine lv_if_eq (tgt := 84) hx hb dX6_spread_68 (by decide) (fun c_74 => ?_) (fun c_74 => ?_)
            · rw [if_pos c_74] at hR
              have hV := hV.1 c_74
              exact Ki2_s84_0_0 k_2 v_2 H_2 g_M x1 (g_F ((0 : Int32)).toNatClampNeg) H locs ls hP hD hS (lv_sub hl [1, 2, 4, 5, 0] rfl) hV hR
            · rw [if_neg c_74] at hR
              have hV := hV.2 c_74
              refine lv_aload_n hx hb dX6_spread_71 rfl (lv_at hl 1 rfl) ?_
              refine va_get (D := (dC, dI)) (ci := 4) (v := .ref qC) (C := RX6) (T := TX6) (N := 25) hx hb hts h1_ hown hK hP 0 rfl rfl 10 (by decide) h5_ (fun _ h9 => h9) rfl dX6_spread_72 ?_
              refine lv_iload hx hb dX6_spread_75 (lv_at hl 0 rfl) ?_
              obtain ⟨hi76, hV⟩ := hV
              refine va_iald hx hb hK hP 5 0 rfl rfl hi76 dX6_spread_77 ?_
              refine lv_if_eq (tgt := 84) hx hb dX6_spread_78 (by decide) (fun c_77 => ?_) (fun c_77 => ?_)
              · rw [if_pos c_77] at hR
                have hV := hV.1 c_77
                exact Ki2_s84_0_0 k_2 v_2 H_2 g_M x1 (g_F ((0 : Int32)).toNatClampNeg) H locs ls hP hD hS (lv_sub hl [1, 2, 4, 5, 0] rfl) hV hR
              · rw [if_neg c_77] at hR
                have hV := hV.2 c_77
                refine lv_goto (tgt := 94) hx hb dX6_spread_81 (by decide) ?_
                exact Ki2_s94_0_0 k_2 v_2 H_2 g_M x1 x2 H locs ls hP hD hS (lv_sub hl [1, 2, 3, 4, 5] rfl) hV hR
  have Ki2_s10_0 : ∀ (k_2 : Int32 → Int32 → (Nat → Int32) → (Nat → Int32) → (Nat → Int32) → Int32 → Int32 → (Nat → Int32)) (v_2 : Int32 → Int32 → (Nat → Int32) → (Nat → Int32) → (Nat → Int32) → Int32 → Int32 → Prop) (H_2 : ∀ (g_M : Nat → Int32) (x1 : Int32) (x2 : Int32) (H : Heap) (locs : List Loc) (ls : Array Slot), va_P (dC, dI) kcl (mo_W q6 qA qB qF qR qC qL qS qO qY qH qW qM cyI cyJ cyZ m_th m_o m_f m_r m_b m_a u_F u_R g_F g_R g_C g_L m_rl m_lf m_ov m_pl g_S g_O g_Y g_H m_st g_W m_rm m_fs g_M) H → va_D A (mo_W q6 qA qB qF qR qC qL qS qO qY qH qW qM cyI cyJ cyZ m_th m_o m_f m_r m_b m_a u_F u_R g_F g_R g_C g_L m_rl m_lf m_ov m_pl g_S g_O g_Y g_H m_st g_W m_rm m_fs g_M) → va_S A s.heap H locs → lv_has ls 6 [(0, .ref q6), (1, .int x1), (2, .int x2)] → v_2 m_o m_f g_F g_C g_M x1 x2 → k_2 m_o m_f g_F g_C g_M x1 x2 = R → W p l e (headSpec wsX6_spread ({ frames := 0, cells := 0, slots := 0, locals := 0 })).room s m ([.ref q6, .int a0] : List Value).toArray below meth c H locs 0 0 (MQ below (mu_Q none (dC, dI) kcl (mo_W q6 qA qB qF qR qC qL qS qO qY qH qW qM cyI cyJ cyZ m_th m_o m_f m_r m_b m_a u_F u_R g_F g_R g_C g_L m_rl m_lf m_ov m_pl g_S g_O g_Y g_H m_st g_W m_rm m_fs R) A) ([.ref q6, .int a0] : List Value).toArray s 0 0 A) (F0 m 2 ls [])) (g_M : Nat → Int32) (x1 : Int32) (x2 : Int32) (H : Heap) (locs : List Loc) (ls : Array Slot), va_P (dC, dI) kcl (mo_W q6 qA qB qF qR qC qL qS qO qY qH qW qM cyI cyJ cyZ m_th m_o m_f m_r m_b m_a u_F u_R g_F g_R g_C g_L m_rl m_lf m_ov m_pl g_S g_O g_Y g_H m_st g_W m_rm m_fs g_M) H → va_D A (mo_W q6 qA qB qF qR qC qL qS qO qY qH qW qM cyI cyJ cyZ m_th m_o m_f m_r m_b m_a u_F u_R g_F g_R g_C g_L m_rl m_lf m_ov m_pl g_S g_O g_Y g_H m_st g_W m_rm m_fs g_M) → va_S A s.heap H locs → lv_has ls 6 [(0, .ref q6), (1, .int x1), (2, .int x2), (3, .int (0 : Int32))] → vc_X6_spread_i2_s10_0 fu v_2 m_o m_f g_F g_C g_M x1 x2 → cf_X6_spread_i2_s10_0 fu k_2 m_o m_f g_F g_C g_M x1 x2 = R → W p l e (headSpec wsX6_spread ({ frames := 0, cells := 0, slots := 0, locals := 0 })).room s m ([.ref q6, .int a0] : List Value).toArray below meth c H locs 0 0 (MQ below (mu_Q none (dC, dI) kcl (mo_W q6 qA qB qF qR qC qL qS qO qY qH qW qM cyI cyJ cyZ m_th m_o m_f m_r m_b m_a u_F u_R g_F g_R g_C g_L m_rl m_lf m_ov m_pl g_S g_O g_Y g_H m_st g_W m_rm m_fs R) A) ([.ref q6, .int a0] : List Value).toArray s 0 0 A) (F0 m 10 ls []) := by
    intro k_2 v_2 H_2 g_M x1 x2 H locs ls hP hD hS hl hV hR
    unfold cf_X6_spread_i2_s10_0 at hR
    unfold vc_X6_spread_i2_s10_0 at hV
    refine lv_iload_n hx hb dX6_spread_10 rfl (lv_at hl 3 rfl) ?_
    refine lv_aload_n hx hb dX6_spread_11 rfl (lv_at hl 0 rfl) ?_
    refine va_get (D := (dC, dI)) (ci := 4) (v := .int m_o) (C := RX6) (T := TX6) (N := 25) hx hb hts h1_ hown hK hP 0 rfl rfl 1 (by decide) h0_ (fun _ h9 => h9) rfl dX6_spread_12 ?_
    refine lv_icmp_ge (tgt := 106) hx hb dX6_spread_15 (by decide) (fun c_2 => ?_) (fun c_2 => ?_)
    · rw [if_pos c_2] at hR
      have hV := hV.1 c_2
      refine lv_goto (tgt := 2) hx hb dX6_spread_106 (by decide) ?_
      exact H_2 g_M x1 x2 H locs ls hP hD hS (lv_sub hl [0, 1, 2] rfl) hV hR
    · rw [if_neg c_2] at hR
      have hV := hV.2 c_2
      refine lv_iconst (v := (0 : Int32)) hx hb dX6_spread_18 (by decide +kernel) ?_
      refine lv_istore (lv' := [(4, .int (0 : Int32)), (0, .ref q6), (1, .int x1), (2, .int x2), (3, .int (0 : Int32))]) hx hb dX6_spread_19 hl (by decide) rfl (fun ls hl => ?_)
      exact Ki2_s21_0_0 k_2 v_2 H_2 g_M x1 x2 H locs ls hP hD hS (lv_sub hl [1, 2, 3, 4, 0] rfl) hV hR
  have KL2 : ∀ (n : Nat), ∀ (g_M : Nat → Int32) (x1 : Int32) (x2 : Int32) (H : Heap) (locs : List Loc) (ls : Array Slot), va_P (dC, dI) kcl (mo_W q6 qA qB qF qR qC qL qS qO qY qH qW qM cyI cyJ cyZ m_th m_o m_f m_r m_b m_a u_F u_R g_F g_R g_C g_L m_rl m_lf m_ov m_pl g_S g_O g_Y g_H m_st g_W m_rm m_fs g_M) H → va_D A (mo_W q6 qA qB qF qR qC qL qS qO qY qH qW qM cyI cyJ cyZ m_th m_o m_f m_r m_b m_a u_F u_R g_F g_R g_C g_L m_rl m_lf m_ov m_pl g_S g_O g_Y g_H m_st g_W m_rm m_fs g_M) → va_S A s.heap H locs → lv_has ls 6 [(0, .ref q6), (1, .int x1), (2, .int x2)] → vc_X6_spread_L2 fu  n m_o m_f g_F g_C g_M x1 x2 → cf_X6_spread_L2 fu  n m_o m_f g_F g_C g_M x1 x2 = R → W p l e (headSpec wsX6_spread ({ frames := 0, cells := 0, slots := 0, locals := 0 })).room s m ([.ref q6, .int a0] : List Value).toArray below meth c H locs 0 0 (MQ below (mu_Q none (dC, dI) kcl (mo_W q6 qA qB qF qR qC qL qS qO qY qH qW qM cyI cyJ cyZ m_th m_o m_f m_r m_b m_a u_F u_R g_F g_R g_C g_L m_rl m_lf m_ov m_pl g_S g_O g_Y g_H m_st g_W m_rm m_fs R) A) ([.ref q6, .int a0] : List Value).toArray s 0 0 A) (F0 m 2 ls []) := by
    intro n
    induction n with
    | zero =>
      intro g_M x1 x2 H locs ls hP hD hS hl hV hR
      exact absurd hV id
    | succ n ih =>
      intro g_M x1 x2 H locs ls hP hD hS hl hV hR
      have hR : (if x2 = 0 then g_M else cf_X6_spread_i2_s10_0 fu (cf_X6_spread_L2 fu n) m_o m_f g_F g_C g_M x1 (0 : Int32)) = R := hR
      have hV : ((x2 = 0 → True) ∧ (¬ x2 = 0 → vc_X6_spread_i2_s10_0 fu (vc_X6_spread_L2 fu n) m_o m_f g_F g_C g_M x1 (0 : Int32))) := hV
      refine lv_iload_n hx hb dX6_spread_2 rfl (lv_at hl 2 rfl) ?_
      refine lv_if_eq (tgt := 109) hx hb dX6_spread_3 (by decide) (fun c_1 => ?_) (fun c_1 => ?_)
      · rw [if_pos c_1] at hR
        rw [← hR]
        exact W.vret hx hb hr (fun t ht _ => ⟨rfl, by rw [ht]; exact hP, hS.F ht⟩) hS.2.2 dX6_spread_109
      · rw [if_neg c_1] at hR
        have hV := hV.2 c_1
        refine lv_iconst (v := (0 : Int32)) hx hb dX6_spread_6 (by decide +kernel) ?_
        refine lv_istore_n (lv' := [(2, .int (0 : Int32)), (0, .ref q6), (1, .int x1)]) hx hb dX6_spread_7 rfl hl (by decide) rfl (fun ls hl => ?_)
        refine lv_iconst (v := (0 : Int32)) hx hb dX6_spread_8 (by decide +kernel) ?_
        refine lv_istore_n (lv' := [(3, .int (0 : Int32)), (2, .int (0 : Int32)), (0, .ref q6), (1, .int x1)]) hx hb dX6_spread_9 rfl hl (by decide) rfl (fun ls hl => ?_)
        exact Ki2_s10_0 (cf_X6_spread_L2 fu n) (vc_X6_spread_L2 fu n) ih g_M x1 (0 : Int32) H locs ls hP hD hS (lv_sub hl [2, 3, 1, 0] rfl) hV hR
  have hl := lv_entry ([.ref q6, .int a0]) (n := 6) (Nat.le_of_ble_eq_true rfl)
  rw [lg_entry_eq]
  generalize (lg_sl ([.ref q6, .int a0]) ++ List.replicate (6 - (lg_sl ([.ref q6, .int a0])).length) Slot.unset).toArray = ls at hl ⊢
  have hl : lv_has ls 6 [(0, .ref q6), (1, .int a0)] := hl
  unfold cf_X6_spread at hR
  unfold vc_X6_spread at hV
  refine mu_start (A := A) (fun H locs hP hS => ?_) hP
  refine lv_iconst (v := (1 : Int32)) hx hb dX6_spread_0 (by decide +kernel) ?_
  refine lv_istore_n (lv' := [(2, .int (1 : Int32)), (0, .ref q6), (1, .int a0)]) hx hb dX6_spread_1 rfl hl (by decide) rfl (fun ls hl => ?_)
  exact KL2  fu g_M a0 (1 : Int32) H locs ls hP hD hS (lv_sub hl [1, 2, 0] rfl) hV hR
def cf_X6_markReached_s22_3 (fu : Nat)  (m_o : Int32) (m_f : Int32) (m_r : Int32) (g_F : Nat → Int32) (g_R : Nat → Int32) (g_C : Nat → Int32) (g_M : Nat → Int32)  : (Nat → Int32) :=
  (cf_X6_spread fu m_o m_f g_F g_C g_M (0 : Int32))
def vc_X6_markReached_s22_3 (fu : Nat)  (m_o : Int32) (m_f : Int32) (m_r : Int32) (g_F : Nat → Int32) (g_R : Nat → Int32) (g_C : Nat → Int32) (g_M : Nat → Int32)  : Prop :=
  (vc_X6_spread fu m_o m_f g_F g_C g_M (0 : Int32) ∧ True)
def cf_X6_markReached_s51_2 (fu : Nat)  (m_o : Int32) (m_f : Int32) (m_r : Int32) (g_F : Nat → Int32) (g_R : Nat → Int32) (g_C : Nat → Int32) (g_M : Nat → Int32)  : (Nat → Int32) :=
  cf_X6_markReached_s22_3 fu  m_o m_f m_r g_F g_R g_C g_M 
def vc_X6_markReached_s51_2 (fu : Nat)  (m_o : Int32) (m_f : Int32) (m_r : Int32) (g_F : Nat → Int32) (g_R : Nat → Int32) (g_C : Nat → Int32) (g_M : Nat → Int32)  : Prop :=
  vc_X6_markReached_s22_3 fu  m_o m_f m_r g_F g_R g_C g_M 
def cf_X6_markReached_s22_2 (fu : Nat)  (m_o : Int32) (m_f : Int32) (m_r : Int32) (g_F : Nat → Int32) (g_R : Nat → Int32) (g_C : Nat → Int32) (g_M : Nat → Int32)  : (Nat → Int32) :=
  (if m_r ≤ (2 : Int32) then (cf_X6_spread fu m_o m_f g_F g_C g_M (0 : Int32)) else (if (g_R ((2 : Int32)).toNatClampNeg) < 0 then cf_X6_markReached_s51_2 fu  m_o m_f m_r g_F g_R g_C g_M  else cf_X6_markReached_s51_2 fu  m_o m_f m_r g_F g_R g_C (upd g_M ((g_R ((2 : Int32)).toNatClampNeg)).toNatClampNeg (vp_nar .boolean (1 : Int32))) ))
def vc_X6_markReached_s22_2 (fu : Nat)  (m_o : Int32) (m_f : Int32) (m_r : Int32) (g_F : Nat → Int32) (g_R : Nat → Int32) (g_C : Nat → Int32) (g_M : Nat → Int32)  : Prop :=
  ((m_r ≤ (2 : Int32) → (vc_X6_spread fu m_o m_f g_F g_C g_M (0 : Int32) ∧ True)) ∧ (¬ m_r ≤ (2 : Int32) → (((g_R ((2 : Int32)).toNatClampNeg) < 0 → vc_X6_markReached_s51_2 fu  m_o m_f m_r g_F g_R g_C g_M ) ∧ (¬ (g_R ((2 : Int32)).toNatClampNeg) < 0 → (vp_in (g_R ((2 : Int32)).toNatClampNeg) 4 ∧ vc_X6_markReached_s51_2 fu  m_o m_f m_r g_F g_R g_C (upd g_M ((g_R ((2 : Int32)).toNatClampNeg)).toNatClampNeg (vp_nar .boolean (1 : Int32))) )))))
def cf_X6_markReached_s51_1 (fu : Nat)  (m_o : Int32) (m_f : Int32) (m_r : Int32) (g_F : Nat → Int32) (g_R : Nat → Int32) (g_C : Nat → Int32) (g_M : Nat → Int32)  : (Nat → Int32) :=
  cf_X6_markReached_s22_2 fu  m_o m_f m_r g_F g_R g_C g_M 
def vc_X6_markReached_s51_1 (fu : Nat)  (m_o : Int32) (m_f : Int32) (m_r : Int32) (g_F : Nat → Int32) (g_R : Nat → Int32) (g_C : Nat → Int32) (g_M : Nat → Int32)  : Prop :=
  vc_X6_markReached_s22_2 fu  m_o m_f m_r g_F g_R g_C g_M 
def cf_X6_markReached_s22_1 (fu : Nat)  (m_o : Int32) (m_f : Int32) (m_r : Int32) (g_F : Nat → Int32) (g_R : Nat → Int32) (g_C : Nat → Int32) (g_M : Nat → Int32)  : (Nat → Int32) :=
  (if m_r ≤ (1 : Int32) then (cf_X6_spread fu m_o m_f g_F g_C g_M (0 : Int32)) else (if (g_R ((1 : Int32)).toNatClampNeg) < 0 then cf_X6_markReached_s51_1 fu  m_o m_f m_r g_F g_R g_C g_M  else cf_X6_markReached_s51_1 fu  m_o m_f m_r g_F g_R g_C (upd g_M ((g_R ((1 : Int32)).toNatClampNeg)).toNatClampNeg (vp_nar .boolean (1 : Int32))) ))
def vc_X6_markReached_s22_1 (fu : Nat)  (m_o : Int32) (m_f : Int32) (m_r : Int32) (g_F : Nat → Int32) (g_R : Nat → Int32) (g_C : Nat → Int32) (g_M : Nat → Int32)  : Prop :=
  ((m_r ≤ (1 : Int32) → (vc_X6_spread fu m_o m_f g_F g_C g_M (0 : Int32) ∧ True)) ∧ (¬ m_r ≤ (1 : Int32) → (((g_R ((1 : Int32)).toNatClampNeg) < 0 → vc_X6_markReached_s51_1 fu  m_o m_f m_r g_F g_R g_C g_M ) ∧ (¬ (g_R ((1 : Int32)).toNatClampNeg) < 0 → (vp_in (g_R ((1 : Int32)).toNatClampNeg) 4 ∧ vc_X6_markReached_s51_1 fu  m_o m_f m_r g_F g_R g_C (upd g_M ((g_R ((1 : Int32)).toNatClampNeg)).toNatClampNeg (vp_nar .boolean (1 : Int32))) )))))
def cf_X6_markReached_s51_0 (fu : Nat)  (m_o : Int32) (m_f : Int32) (m_r : Int32) (g_F : Nat → Int32) (g_R : Nat → Int32) (g_C : Nat → Int32) (g_M : Nat → Int32)  : (Nat → Int32) :=
  cf_X6_markReached_s22_1 fu  m_o m_f m_r g_F g_R g_C g_M 
def vc_X6_markReached_s51_0 (fu : Nat)  (m_o : Int32) (m_f : Int32) (m_r : Int32) (g_F : Nat → Int32) (g_R : Nat → Int32) (g_C : Nat → Int32) (g_M : Nat → Int32)  : Prop :=
  vc_X6_markReached_s22_1 fu  m_o m_f m_r g_F g_R g_C g_M 
def cf_X6_markReached_s22_0 (fu : Nat)  (m_o : Int32) (m_f : Int32) (m_r : Int32) (g_F : Nat → Int32) (g_R : Nat → Int32) (g_C : Nat → Int32) (g_M : Nat → Int32)  : (Nat → Int32) :=
  (if m_r ≤ (0 : Int32) then (cf_X6_spread fu m_o m_f g_F g_C g_M (0 : Int32)) else (if (g_R ((0 : Int32)).toNatClampNeg) < 0 then cf_X6_markReached_s51_0 fu  m_o m_f m_r g_F g_R g_C g_M  else cf_X6_markReached_s51_0 fu  m_o m_f m_r g_F g_R g_C (upd g_M ((g_R ((0 : Int32)).toNatClampNeg)).toNatClampNeg (vp_nar .boolean (1 : Int32))) ))
def vc_X6_markReached_s22_0 (fu : Nat)  (m_o : Int32) (m_f : Int32) (m_r : Int32) (g_F : Nat → Int32) (g_R : Nat → Int32) (g_C : Nat → Int32) (g_M : Nat → Int32)  : Prop :=
  ((m_r ≤ (0 : Int32) → (vc_X6_spread fu m_o m_f g_F g_C g_M (0 : Int32) ∧ True)) ∧ (¬ m_r ≤ (0 : Int32) → (((g_R ((0 : Int32)).toNatClampNeg) < 0 → vc_X6_markReached_s51_0 fu  m_o m_f m_r g_F g_R g_C g_M ) ∧ (¬ (g_R ((0 : Int32)).toNatClampNeg) < 0 → (vp_in (g_R ((0 : Int32)).toNatClampNeg) 4 ∧ vc_X6_markReached_s51_0 fu  m_o m_f m_r g_F g_R g_C (upd g_M ((g_R ((0 : Int32)).toNatClampNeg)).toNatClampNeg (vp_nar .boolean (1 : Int32))) )))))
def cf_X6_markReached_s2_4 (fu : Nat)  (m_o : Int32) (m_f : Int32) (m_r : Int32) (g_F : Nat → Int32) (g_R : Nat → Int32) (g_C : Nat → Int32) (g_M : Nat → Int32)  : (Nat → Int32) :=
  cf_X6_markReached_s22_0 fu  m_o m_f m_r g_F g_R g_C g_M 
def vc_X6_markReached_s2_4 (fu : Nat)  (m_o : Int32) (m_f : Int32) (m_r : Int32) (g_F : Nat → Int32) (g_R : Nat → Int32) (g_C : Nat → Int32) (g_M : Nat → Int32)  : Prop :=
  vc_X6_markReached_s22_0 fu  m_o m_f m_r g_F g_R g_C g_M 
def cf_X6_markReached_s2_3 (fu : Nat)  (m_o : Int32) (m_f : Int32) (m_r : Int32) (g_F : Nat → Int32) (g_R : Nat → Int32) (g_C : Nat → Int32) (g_M : Nat → Int32)  : (Nat → Int32) :=
  cf_X6_markReached_s2_4 fu  m_o m_f m_r g_F g_R g_C (upd g_M ((3 : Int32)).toNatClampNeg (vp_nar .boolean (0 : Int32))) 
def vc_X6_markReached_s2_3 (fu : Nat)  (m_o : Int32) (m_f : Int32) (m_r : Int32) (g_F : Nat → Int32) (g_R : Nat → Int32) (g_C : Nat → Int32) (g_M : Nat → Int32)  : Prop :=
  vc_X6_markReached_s2_4 fu  m_o m_f m_r g_F g_R g_C (upd g_M ((3 : Int32)).toNatClampNeg (vp_nar .boolean (0 : Int32))) 
def cf_X6_markReached_s2_2 (fu : Nat)  (m_o : Int32) (m_f : Int32) (m_r : Int32) (g_F : Nat → Int32) (g_R : Nat → Int32) (g_C : Nat → Int32) (g_M : Nat → Int32)  : (Nat → Int32) :=
  cf_X6_markReached_s2_3 fu  m_o m_f m_r g_F g_R g_C (upd g_M ((2 : Int32)).toNatClampNeg (vp_nar .boolean (0 : Int32))) 
def vc_X6_markReached_s2_2 (fu : Nat)  (m_o : Int32) (m_f : Int32) (m_r : Int32) (g_F : Nat → Int32) (g_R : Nat → Int32) (g_C : Nat → Int32) (g_M : Nat → Int32)  : Prop :=
  vc_X6_markReached_s2_3 fu  m_o m_f m_r g_F g_R g_C (upd g_M ((2 : Int32)).toNatClampNeg (vp_nar .boolean (0 : Int32))) 
def cf_X6_markReached_s2_1 (fu : Nat)  (m_o : Int32) (m_f : Int32) (m_r : Int32) (g_F : Nat → Int32) (g_R : Nat → Int32) (g_C : Nat → Int32) (g_M : Nat → Int32)  : (Nat → Int32) :=
  cf_X6_markReached_s2_2 fu  m_o m_f m_r g_F g_R g_C (upd g_M ((1 : Int32)).toNatClampNeg (vp_nar .boolean (0 : Int32))) 
def vc_X6_markReached_s2_1 (fu : Nat)  (m_o : Int32) (m_f : Int32) (m_r : Int32) (g_F : Nat → Int32) (g_R : Nat → Int32) (g_C : Nat → Int32) (g_M : Nat → Int32)  : Prop :=
  vc_X6_markReached_s2_2 fu  m_o m_f m_r g_F g_R g_C (upd g_M ((1 : Int32)).toNatClampNeg (vp_nar .boolean (0 : Int32))) 
def cf_X6_markReached_s2_0 (fu : Nat)  (m_o : Int32) (m_f : Int32) (m_r : Int32) (g_F : Nat → Int32) (g_R : Nat → Int32) (g_C : Nat → Int32) (g_M : Nat → Int32)  : (Nat → Int32) :=
  cf_X6_markReached_s2_1 fu  m_o m_f m_r g_F g_R g_C (upd g_M ((0 : Int32)).toNatClampNeg (vp_nar .boolean (0 : Int32))) 
def vc_X6_markReached_s2_0 (fu : Nat)  (m_o : Int32) (m_f : Int32) (m_r : Int32) (g_F : Nat → Int32) (g_R : Nat → Int32) (g_C : Nat → Int32) (g_M : Nat → Int32)  : Prop :=
  vc_X6_markReached_s2_1 fu  m_o m_f m_r g_F g_R g_C (upd g_M ((0 : Int32)).toNatClampNeg (vp_nar .boolean (0 : Int32))) 
def cf_X6_markReached (fu : Nat) (m_o : Int32) (m_f : Int32) (m_r : Int32) (g_F : Nat → Int32) (g_R : Nat → Int32) (g_C : Nat → Int32) (g_M : Nat → Int32)  : (Nat → Int32) :=
  cf_X6_markReached_s2_0 fu  m_o m_f m_r g_F g_R g_C g_M 
def vc_X6_markReached (fu : Nat) (m_o : Int32) (m_f : Int32) (m_r : Int32) (g_F : Nat → Int32) (g_R : Nat → Int32) (g_C : Nat → Int32) (g_M : Nat → Int32)  : Prop :=
  vc_X6_markReached_s2_0 fu  m_o m_f m_r g_F g_R g_C g_M 
set_option maxHeartbeats 4000000 in
set_option maxRecDepth 100000 in
theorem c_X6_markReached (l : Launch) (dC : Nat → ClassId) (dI : Nat → Nat → Nat) (q6 qA qB qF qR qC qL qS qO qY qH qW qM : Nat) (cyI cyJ cyZ : ClassId) (m_th : Int32) (m_o : Int32) (m_f : Int32) (m_r : Int32) (m_b : Int32) (m_a : Int32) (u_F : Nat → Int32) (u_R : Nat → Int32) (g_F : Nat → Int32) (g_R : Nat → Int32) (g_C : Nat → Int32) (g_L : Nat → Int32) (m_rl : Int32) (m_lf : Int32) (m_ov : Int32) (m_pl : Int64) (g_S : Nat → Int64) (g_O : Nat → Int32) (g_Y : Nat → Int32) (g_H : Nat → Int32) (m_st : Int32) (g_W : Nat → Int32) (m_rm : Int32) (m_fs : Int32) (g_M : Nat → Int32) (sz : Nat) (fu : Nat)  (hm_o : m_o ≤ 4) (hm_f : m_f ≤ 2) (hm_r : m_r ≤ 3) (hV : vc_X6_markReached fu m_o m_f m_r g_F g_R g_C g_M ) : Met l yX6_markReached wsX6_markReached ({ frames := 1, cells := 0, slots := 0, locals := 25 }) (mu_P [.ref q6] sz (dC, dI) kcl (mo_W q6 qA qB qF qR qC qL qS qO qY qH qW qM cyI cyJ cyZ m_th m_o m_f m_r m_b m_a u_F u_R g_F g_R g_C g_L m_rl m_lf m_ov m_pl g_S g_O g_Y g_H m_st g_W m_rm m_fs g_M) [(cyI, .int), (cyJ, .long), (cyZ, .boolean)]) (mu_Q none (dC, dI) kcl (mo_W q6 qA qB qF qR qC qL qS qO qY qH qW qM cyI cyJ cyZ m_th m_o m_f m_r m_b m_a u_F u_R g_F g_R g_C g_L m_rl m_lf m_ov m_pl g_S g_O g_Y g_H m_st g_W m_rm m_fs (cf_X6_markReached fu m_o m_f m_r g_F g_R g_C g_M )) (va_A (mo_W q6 qA qB qF qR qC qL qS qO qY qH qW qM cyI cyJ cyZ m_th m_o m_f m_r m_b m_a u_F u_R g_F g_R g_C g_L m_rl m_lf m_ov m_pl g_S g_O g_Y g_H m_st g_W m_rm m_fs g_M) sz)) 0 0 (va_A (mo_W q6 qA qB qF qR qC qL qS qO qY qH qW qM cyI cyJ cyZ m_th m_o m_f m_r m_b m_a u_F u_R g_F g_R g_C g_L m_rl m_lf m_ov m_pl g_S g_O g_Y g_H m_st g_W m_rm m_fs g_M) sz) := by
  refine Met.ofW (cc := cX6_markReached) (maxL := 2) (ret := none) (by decide) rfl ?_
  intro p e s m args below meth c s₁ B hml hv
  obtain ⟨rfl, hsz, hP, hK, hD0⟩ := hv
  have hx := B.exec
  have hb := B.bytes
  have hr := B.returns
  have hts := atoms_spec (ws := wsX6_markReached) B.pre
  have hown : s.vm.findClass RX6 = some m.cls := findClass_of_methodNamed B.named
  have hlocks := B.notSynchronized
  subst hsz
  have hD := hD0.self (sz := s.heap.size)
  generalize hAe : va_A (mo_W q6 qA qB qF qR qC qL qS qO qY qH qW qM cyI cyJ cyZ m_th m_o m_f m_r m_b m_a u_F u_R g_F g_R g_C g_L m_rl m_lf m_ov m_pl g_S g_O g_Y g_H m_st g_W m_rm m_fs g_M) s.heap.size = A at hD ⊢
  have hA : ∀ q : Nat, s.heap.size ≤ q → A q := fun q h => by rw [← hAe]; exact Or.inr h
  have hP : va_P (dC, dI) kcl (mo_W q6 qA qB qF qR qC qL qS qO qY qH qW qM cyI cyJ cyZ m_th m_o m_f m_r m_b m_a u_F u_R g_F g_R g_C g_L m_rl m_lf m_ov m_pl g_S g_O g_Y g_H m_st g_W m_rm m_fs g_M) s.heap := hP
  have h0_ : (Cond.fieldLink RX6 58 "ColourTrierModel" "mark" "[Z").before _ s = true := hts _ (by decide +kernel)
  have h1_ : ∀ w ∈ u_ws RX6 TX6 25, w ∈ wsX6_markReached := fun w h => List.mem_cons_of_mem _ (List.mem_append_right _ h)
  have h2_ : (Cond.fieldLink RX6 19 "ColourTrierModel" "roots" "I").before _ s = true := hts _ (by decide +kernel)
  have h3_ : (Cond.fieldLink RX6 32 "ColourTrierModel" "root" "[I").before _ s = true := hts _ (by decide +kernel)
  generalize hR : (cf_X6_markReached fu m_o m_f m_r g_F g_R g_C g_M ) = R
  have Ks22_3 : ∀  (g_M : Nat → Int32)  (H : Heap) (locs : List Loc) (ls : Array Slot), va_P (dC, dI) kcl (mo_W q6 qA qB qF qR qC qL qS qO qY qH qW qM cyI cyJ cyZ m_th m_o m_f m_r m_b m_a u_F u_R g_F g_R g_C g_L m_rl m_lf m_ov m_pl g_S g_O g_Y g_H m_st g_W m_rm m_fs g_M) H → va_D A (mo_W q6 qA qB qF qR qC qL qS qO qY qH qW qM cyI cyJ cyZ m_th m_o m_f m_r m_b m_a u_F u_R g_F g_R g_C g_L m_rl m_lf m_ov m_pl g_S g_O g_Y g_H m_st g_W m_rm m_fs g_M) → va_S A s.heap H locs → lv_has ls 2 [(0, .ref q6), (1, .int (3 : Int32))] → vc_X6_markReached_s22_3 fu  m_o m_f m_r g_F g_R g_C g_M  → cf_X6_markReached_s22_3 fu  m_o m_f m_r g_F g_R g_C g_M  = R → W p l e (headSpec wsX6_markReached ({ frames := 1, cells := 0, slots := 0, locals := 25 })).room s m ([.ref q6] : List Value).toArray below meth c H locs 0 0 (MQ below (mu_Q none (dC, dI) kcl (mo_W q6 qA qB qF qR qC qL qS qO qY qH qW qM cyI cyJ cyZ m_th m_o m_f m_r m_b m_a u_F u_R g_F g_R g_C g_L m_rl m_lf m_ov m_pl g_S g_O g_Y g_H m_st g_W m_rm m_fs R) A) ([.ref q6] : List Value).toArray s 0 0 A) (F0 m 22 ls []) := by
    intro  g_M  H locs ls hP hD hS hl hV hR
    unfold cf_X6_markReached_s22_3 at hR
    unfold vc_X6_markReached_s22_3 at hV
    refine lv_iload_n hx hb dX6_markReached_22 rfl (lv_at hl 1 rfl) ?_
    refine lv_aload_n hx hb dX6_markReached_23 rfl (lv_at hl 0 rfl) ?_
    refine va_get (D := (dC, dI)) (ci := 4) (v := .int m_r) (C := RX6) (T := TX6) (N := 25) hx hb hts h1_ hown hK hP 0 rfl rfl 3 (by decide) h2_ (fun _ h9 => h9) rfl dX6_markReached_24 ?_
    refine lv_icmp_ge (tgt := 57) hx hb dX6_markReached_27 (by decide) (fun _ => ?_) (fun c_0 => absurd hm_r c_0)
    refine lv_aload_n hx hb dX6_markReached_57 rfl (lv_at hl 0 rfl) ?_
    refine lv_iconst (v := (0 : Int32)) hx hb dX6_markReached_58 (by decide +kernel) ?_
    obtain ⟨hv10, hV⟩ := hV
    refine mu_call (ws' := (mo_W q6 qA qB qF qR qC qL qS qO qY qH qW qM cyI cyJ cyZ m_th m_o m_f m_r m_b m_a u_F u_R g_F g_R g_C g_L m_rl m_lf m_ov m_pl g_S g_O g_Y g_H m_st g_W m_rm m_fs (cf_X6_spread fu m_o m_f g_F g_C g_M (0 : Int32)))) (wr := []) (va_runV (As := [.int (0 : Int32)]) (rest := []) ⟨hx, hb, hml, hown, hts⟩ (c_X6_spread l dC dI q6 qA qB qF qR qC qL qS qO qY qH qW qM cyI cyJ cyZ m_th m_o m_f m_r m_b m_a u_F u_R g_F g_R g_C g_L m_rl m_lf m_ov m_pl g_S g_O g_Y g_H m_st g_W m_rm m_fs g_M H.size fu (0 : Int32) hm_o hm_f hv10) (cwV 1 hts gX6_markReached_X6_spread rfl rfl rfl (by decide +kernel) ⟨Nat.le_of_ble_eq_true rfl, Nat.le_of_ble_eq_true rfl⟩) ⟨mu_blind, va_recv hK hP (ci := 4) (q0 := 0) rfl rfl, fun U hU hW => ⟨rfl, by rw [hU], by rw [hU]; exact hP, va_K.moved hW.alike (hK.sub [0, 1, 2] rfl), hD.weaken (fun _ _ _ _ => trivial)⟩⟩ rfl rfl hl.1 rfl (lv_room (Nat.le_of_ble_eq_true rfl)) dX6_markReached_59 ⟨Nat.le_refl _, Nat.le_refl _⟩) hP hD hS hA [0, 1, 2, 3, 4, 5, 6, 7, 8, 9, 10, 11, 12] [] [0, 1, 2, 3, 4, 5, 6, 7, 8, 9, 10, 11, 12] rfl rfl (by decide) (by decide) (by decide) rfl (by decide) rfl (fun H locs hP hD hS => ?_)
    refine W.eq (g2 := F0 m 62 ls []) rfl ?_
    rw [← hR]
    exact W.vret hx hb hr (fun t ht _ => ⟨rfl, by rw [ht]; exact hP, hS.F ht⟩) hS.2.2 dX6_markReached_62
  have Ks51_2 : ∀  (g_M : Nat → Int32)  (H : Heap) (locs : List Loc) (ls : Array Slot), va_P (dC, dI) kcl (mo_W q6 qA qB qF qR qC qL qS qO qY qH qW qM cyI cyJ cyZ m_th m_o m_f m_r m_b m_a u_F u_R g_F g_R g_C g_L m_rl m_lf m_ov m_pl g_S g_O g_Y g_H m_st g_W m_rm m_fs g_M) H → va_D A (mo_W q6 qA qB qF qR qC qL qS qO qY qH qW qM cyI cyJ cyZ m_th m_o m_f m_r m_b m_a u_F u_R g_F g_R g_C g_L m_rl m_lf m_ov m_pl g_S g_O g_Y g_H m_st g_W m_rm m_fs g_M) → va_S A s.heap H locs → lv_has ls 2 [(0, .ref q6), (1, .int (2 : Int32))] → vc_X6_markReached_s51_2 fu  m_o m_f m_r g_F g_R g_C g_M  → cf_X6_markReached_s51_2 fu  m_o m_f m_r g_F g_R g_C g_M  = R → W p l e (headSpec wsX6_markReached ({ frames := 1, cells := 0, slots := 0, locals := 25 })).room s m ([.ref q6] : List Value).toArray below meth c H locs 0 0 (MQ below (mu_Q none (dC, dI) kcl (mo_W q6 qA qB qF qR qC qL qS qO qY qH qW qM cyI cyJ cyZ m_th m_o m_f m_r m_b m_a u_F u_R g_F g_R g_C g_L m_rl m_lf m_ov m_pl g_S g_O g_Y g_H m_st g_W m_rm m_fs R) A) ([.ref q6] : List Value).toArray s 0 0 A) (F0 m 51 ls []) := by
    intro  g_M  H locs ls hP hD hS hl hV hR
    unfold cf_X6_markReached_s51_2 at hR
    unfold vc_X6_markReached_s51_2 at hV
    refine lv_iinc (v := (3 : Int32)) (lv' := [(1, .int (3 : Int32)), (0, .ref q6)]) hx hb dX6_markReached_51 hl (k := 1) rfl (by decide +kernel) (by decide) rfl (fun ls hl => ?_)
    refine lv_goto (tgt := 22) hx hb dX6_markReached_54 (by decide) ?_
    exact Ks22_3  g_M  H locs ls hP hD hS (lv_sub hl [1, 0] rfl) hV hR
  have Ks22_2 : ∀  (g_M : Nat → Int32)  (H : Heap) (locs : List Loc) (ls : Array Slot), va_P (dC, dI) kcl (mo_W q6 qA qB qF qR qC qL qS qO qY qH qW qM cyI cyJ cyZ m_th m_o m_f m_r m_b m_a u_F u_R g_F g_R g_C g_L m_rl m_lf m_ov m_pl g_S g_O g_Y g_H m_st g_W m_rm m_fs g_M) H → va_D A (mo_W q6 qA qB qF qR qC qL qS qO qY qH qW qM cyI cyJ cyZ m_th m_o m_f m_r m_b m_a u_F u_R g_F g_R g_C g_L m_rl m_lf m_ov m_pl g_S g_O g_Y g_H m_st g_W m_rm m_fs g_M) → va_S A s.heap H locs → lv_has ls 2 [(0, .ref q6), (1, .int (2 : Int32))] → vc_X6_markReached_s22_2 fu  m_o m_f m_r g_F g_R g_C g_M  → cf_X6_markReached_s22_2 fu  m_o m_f m_r g_F g_R g_C g_M  = R → W p l e (headSpec wsX6_markReached ({ frames := 1, cells := 0, slots := 0, locals := 25 })).room s m ([.ref q6] : List Value).toArray below meth c H locs 0 0 (MQ below (mu_Q none (dC, dI) kcl (mo_W q6 qA qB qF qR qC qL qS qO qY qH qW qM cyI cyJ cyZ m_th m_o m_f m_r m_b m_a u_F u_R g_F g_R g_C g_L m_rl m_lf m_ov m_pl g_S g_O g_Y g_H m_st g_W m_rm m_fs R) A) ([.ref q6] : List Value).toArray s 0 0 A) (F0 m 22 ls []) := by
    intro  g_M  H locs ls hP hD hS hl hV hR
    unfold cf_X6_markReached_s22_2 at hR
    unfold vc_X6_markReached_s22_2 at hV
    refine lv_iload_n hx hb dX6_markReached_22 rfl (lv_at hl 1 rfl) ?_
    refine lv_aload_n hx hb dX6_markReached_23 rfl (lv_at hl 0 rfl) ?_
    refine va_get (D := (dC, dI)) (ci := 4) (v := .int m_r) (C := RX6) (T := TX6) (N := 25) hx hb hts h1_ hown hK hP 0 rfl rfl 3 (by decide) h2_ (fun _ h9 => h9) rfl dX6_markReached_24 ?_
    refine lv_icmp_ge (tgt := 57) hx hb dX6_markReached_27 (by decide) (fun c_7 => ?_) (fun c_7 => ?_)
    · rw [if_pos c_7] at hR
      have hV := hV.1 c_7
      refine lv_aload_n hx hb dX6_markReached_57 rfl (lv_at hl 0 rfl) ?_
      refine lv_iconst (v := (0 : Int32)) hx hb dX6_markReached_58 (by decide +kernel) ?_
      obtain ⟨hv8, hV⟩ := hV
      refine mu_call (ws' := (mo_W q6 qA qB qF qR qC qL qS qO qY qH qW qM cyI cyJ cyZ m_th m_o m_f m_r m_b m_a u_F u_R g_F g_R g_C g_L m_rl m_lf m_ov m_pl g_S g_O g_Y g_H m_st g_W m_rm m_fs (cf_X6_spread fu m_o m_f g_F g_C g_M (0 : Int32)))) (wr := []) (va_runV (As := [.int (0 : Int32)]) (rest := []) ⟨hx, hb, hml, hown, hts⟩ (c_X6_spread l dC dI q6 qA qB qF qR qC qL qS qO qY qH qW qM cyI cyJ cyZ m_th m_o m_f m_r m_b m_a u_F u_R g_F g_R g_C g_L m_rl m_lf m_ov m_pl g_S g_O g_Y g_H m_st g_W m_rm m_fs g_M H.size fu (0 : Int32) hm_o hm_f hv8) (cwV 1 hts gX6_markReached_X6_spread rfl rfl rfl (by decide +kernel) ⟨Nat.le_of_ble_eq_true rfl, Nat.le_of_ble_eq_true rfl⟩) ⟨mu_blind, va_recv hK hP (ci := 4) (q0 := 0) rfl rfl, fun U hU hW => ⟨rfl, by rw [hU], by rw [hU]; exact hP, va_K.moved hW.alike (hK.sub [0, 1, 2] rfl), hD.weaken (fun _ _ _ _ => trivial)⟩⟩ rfl rfl hl.1 rfl (lv_room (Nat.le_of_ble_eq_true rfl)) dX6_markReached_59 ⟨Nat.le_refl _, Nat.le_refl _⟩) hP hD hS hA [0, 1, 2, 3, 4, 5, 6, 7, 8, 9, 10, 11, 12] [] [0, 1, 2, 3, 4, 5, 6, 7, 8, 9, 10, 11, 12] rfl rfl (by decide) (by decide) (by decide) rfl (by decide) rfl (fun H locs hP hD hS => ?_)
      refine W.eq (g2 := F0 m 62 ls []) rfl ?_
      rw [← hR]
      exact W.vret hx hb hr (fun t ht _ => ⟨rfl, by rw [ht]; exact hP, hS.F ht⟩) hS.2.2 dX6_markReached_62
    · rw [if_neg c_7] at hR
      have hV := hV.2 c_7
      refine lv_aload_n hx hb dX6_markReached_30 rfl (lv_at hl 0 rfl) ?_
      refine va_get (D := (dC, dI)) (ci := 4) (v := .ref qR) (C := RX6) (T := TX6) (N := 25) hx hb hts h1_ hown hK hP 0 rfl rfl 9 (by decide) h3_ (fun _ h9 => h9) rfl dX6_markReached_31 ?_
      refine lv_iload_n hx hb dX6_markReached_34 rfl (lv_at hl 1 rfl) ?_
      refine va_iald hx hb hK hP 4 0 rfl rfl (by unfold vp_in; decide +kernel) dX6_markReached_35 ?_
      refine lv_if_lt (tgt := 51) hx hb dX6_markReached_36 (by decide) (fun c_9 => ?_) (fun c_9 => ?_)
      · rw [if_pos c_9] at hR
        have hV := hV.1 c_9
        exact Ks51_2  g_M  H locs ls hP hD hS (lv_sub hl [0, 1] rfl) hV hR
      · rw [if_neg c_9] at hR
        have hV := hV.2 c_9
        refine lv_aload_n hx hb dX6_markReached_39 rfl (lv_at hl 0 rfl) ?_
        refine va_get (D := (dC, dI)) (ci := 4) (v := .ref qM) (C := RX6) (T := TX6) (N := 25) hx hb hts h1_ hown hK hP 0 rfl rfl 24 (by decide) h0_ (fun _ h9 => h9) rfl dX6_markReached_40 ?_
        refine lv_aload_n hx hb dX6_markReached_43 rfl (lv_at hl 0 rfl) ?_
        refine va_get (D := (dC, dI)) (ci := 4) (v := .ref qR) (C := RX6) (T := TX6) (N := 25) hx hb hts h1_ hown hK hP 0 rfl rfl 9 (by decide) h3_ (fun _ h9 => h9) rfl dX6_markReached_44 ?_
        refine lv_iload_n hx hb dX6_markReached_47 rfl (lv_at hl 1 rfl) ?_
        refine va_iald hx hb hK hP 4 0 rfl rfl (by unfold vp_in; decide +kernel) dX6_markReached_48 ?_
        refine lv_iconst (v := (1 : Int32)) hx hb dX6_markReached_49 (by decide +kernel) ?_
        obtain ⟨hi11, hV⟩ := hV
        refine va_zast hx hb hK hP hD hS 12 2 rfl rfl hi11 dX6_markReached_50 (fun H locs hP hD hS => ?_)
        have hP : va_P (dC, dI) kcl (mo_W q6 qA qB qF qR qC qL qS qO qY qH qW qM cyI cyJ cyZ m_th m_o m_f m_r m_b m_a u_F u_R g_F g_R g_C g_L m_rl m_lf m_ov m_pl g_S g_O g_Y g_H m_st g_W m_rm m_fs (upd g_M ((g_R ((2 : Int32)).toNatClampNeg)).toNatClampNeg (vp_nar .boolean (1 : Int32)))) H := hP
        have hD : va_D A (mo_W q6 qA qB qF qR qC qL qS qO qY qH qW qM cyI cyJ cyZ m_th m_o m_f m_r m_b m_a u_F u_R g_F g_R g_C g_L m_rl m_lf m_ov m_pl g_S g_O g_Y g_H m_st g_W m_rm m_fs (upd g_M ((g_R ((2 : Int32)).toNatClampNeg)).toNatClampNeg (vp_nar .boolean (1 : Int32)))) := hD
        exact Ks51_2  (upd g_M ((g_R ((2 : Int32)).toNatClampNeg)).toNatClampNeg (vp_nar .boolean (1 : Int32)))  H locs ls hP hD hS (lv_sub hl [0, 1] rfl) hV hR
  have Ks51_1 : ∀  (g_M : Nat → Int32)  (H : Heap) (locs : List Loc) (ls : Array Slot), va_P (dC, dI) kcl (mo_W q6 qA qB qF qR qC qL qS qO qY qH qW qM cyI cyJ cyZ m_th m_o m_f m_r m_b m_a u_F u_R g_F g_R g_C g_L m_rl m_lf m_ov m_pl g_S g_O g_Y g_H m_st g_W m_rm m_fs g_M) H → va_D A (mo_W q6 qA qB qF qR qC qL qS qO qY qH qW qM cyI cyJ cyZ m_th m_o m_f m_r m_b m_a u_F u_R g_F g_R g_C g_L m_rl m_lf m_ov m_pl g_S g_O g_Y g_H m_st g_W m_rm m_fs g_M) → va_S A s.heap H locs → lv_has ls 2 [(0, .ref q6), (1, .int (1 : Int32))] → vc_X6_markReached_s51_1 fu  m_o m_f m_r g_F g_R g_C g_M  → cf_X6_markReached_s51_1 fu  m_o m_f m_r g_F g_R g_C g_M  = R → W p l e (headSpec wsX6_markReached ({ frames := 1, cells := 0, slots := 0, locals := 25 })).room s m ([.ref q6] : List Value).toArray below meth c H locs 0 0 (MQ below (mu_Q none (dC, dI) kcl (mo_W q6 qA qB qF qR qC qL qS qO qY qH qW qM cyI cyJ cyZ m_th m_o m_f m_r m_b m_a u_F u_R g_F g_R g_C g_L m_rl m_lf m_ov m_pl g_S g_O g_Y g_H m_st g_W m_rm m_fs R) A) ([.ref q6] : List Value).toArray s 0 0 A) (F0 m 51 ls []) := by
    intro  g_M  H locs ls hP hD hS hl hV hR
    unfold cf_X6_markReached_s51_1 at hR
    unfold vc_X6_markReached_s51_1 at hV
    refine lv_iinc (v := (2 : Int32)) (lv' := [(1, .int (2 : Int32)), (0, .ref q6)]) hx hb dX6_markReached_51 hl (k := 1) rfl (by decide +kernel) (by decide) rfl (fun ls hl => ?_)
    refine lv_goto (tgt := 22) hx hb dX6_markReached_54 (by decide) ?_
    exact Ks22_2  g_M  H locs ls hP hD hS (lv_sub hl [1, 0] rfl) hV hR
  have Ks22_1 : ∀  (g_M : Nat → Int32)  (H : Heap) (locs : List Loc) (ls : Array Slot), va_P (dC, dI) kcl (mo_W q6 qA qB qF qR qC qL qS qO qY qH qW qM cyI cyJ cyZ m_th m_o m_f m_r m_b m_a u_F u_R g_F g_R g_C g_L m_rl m_lf m_ov m_pl g_S g_O g_Y g_H m_st g_W m_rm m_fs g_M) H → va_D A (mo_W q6 qA qB qF qR qC qL qS qO qY qH qW qM cyI cyJ cyZ m_th m_o m_f m_r m_b m_a u_F u_R g_F g_R g_C g_L m_rl m_lf m_ov m_pl g_S g_O g_Y g_H m_st g_W m_rm m_fs g_M) → va_S A s.heap H locs → lv_has ls 2 [(0, .ref q6), (1, .int (1 : Int32))] → vc_X6_markReached_s22_1 fu  m_o m_f m_r g_F g_R g_C g_M  → cf_X6_markReached_s22_1 fu  m_o m_f m_r g_F g_R g_C g_M  = R → W p l e (headSpec wsX6_markReached ({ frames := 1, cells := 0, slots := 0, locals := 25 })).room s m ([.ref q6] : List Value).toArray below meth c H locs 0 0 (MQ below (mu_Q none (dC, dI) kcl (mo_W q6 qA qB qF qR qC qL qS qO qY qH qW qM cyI cyJ cyZ m_th m_o m_f m_r m_b m_a u_F u_R g_F g_R g_C g_L m_rl m_lf m_ov m_pl g_S g_O g_Y g_H m_st g_W m_rm m_fs R) A) ([.ref q6] : List Value).toArray s 0 0 A) (F0 m 22 ls []) := by
    intro  g_M  H locs ls hP hD hS hl hV hR
    unfold cf_X6_markReached_s22_1 at hR
    unfold vc_X6_markReached_s22_1 at hV
    refine lv_iload_n hx hb dX6_markReached_22 rfl (lv_at hl 1 rfl) ?_
    refine lv_aload_n hx hb dX6_markReached_23 rfl (lv_at hl 0 rfl) ?_
    refine va_get (D := (dC, dI)) (ci := 4) (v := .int m_r) (C := RX6) (T := TX6) (N := 25) hx hb hts h1_ hown hK hP 0 rfl rfl 3 (by decide) h2_ (fun _ h9 => h9) rfl dX6_markReached_24 ?_
    refine lv_icmp_ge (tgt := 57) hx hb dX6_markReached_27 (by decide) (fun c_4 => ?_) (fun c_4 => ?_)
    · rw [if_pos c_4] at hR
      have hV := hV.1 c_4
      refine lv_aload_n hx hb dX6_markReached_57 rfl (lv_at hl 0 rfl) ?_
      refine lv_iconst (v := (0 : Int32)) hx hb dX6_markReached_58 (by decide +kernel) ?_
      obtain ⟨hv5, hV⟩ := hV
      refine mu_call (ws' := (mo_W q6 qA qB qF qR qC qL qS qO qY qH qW qM cyI cyJ cyZ m_th m_o m_f m_r m_b m_a u_F u_R g_F g_R g_C g_L m_rl m_lf m_ov m_pl g_S g_O g_Y g_H m_st g_W m_rm m_fs (cf_X6_spread fu m_o m_f g_F g_C g_M (0 : Int32)))) (wr := []) (va_runV (As := [.int (0 : Int32)]) (rest := []) ⟨hx, hb, hml, hown, hts⟩ (c_X6_spread l dC dI q6 qA qB qF qR qC qL qS qO qY qH qW qM cyI cyJ cyZ m_th m_o m_f m_r m_b m_a u_F u_R g_F g_R g_C g_L m_rl m_lf m_ov m_pl g_S g_O g_Y g_H m_st g_W m_rm m_fs g_M H.size fu (0 : Int32) hm_o hm_f hv5) (cwV 1 hts gX6_markReached_X6_spread rfl rfl rfl (by decide +kernel) ⟨Nat.le_of_ble_eq_true rfl, Nat.le_of_ble_eq_true rfl⟩) ⟨mu_blind, va_recv hK hP (ci := 4) (q0 := 0) rfl rfl, fun U hU hW => ⟨rfl, by rw [hU], by rw [hU]; exact hP, va_K.moved hW.alike (hK.sub [0, 1, 2] rfl), hD.weaken (fun _ _ _ _ => trivial)⟩⟩ rfl rfl hl.1 rfl (lv_room (Nat.le_of_ble_eq_true rfl)) dX6_markReached_59 ⟨Nat.le_refl _, Nat.le_refl _⟩) hP hD hS hA [0, 1, 2, 3, 4, 5, 6, 7, 8, 9, 10, 11, 12] [] [0, 1, 2, 3, 4, 5, 6, 7, 8, 9, 10, 11, 12] rfl rfl (by decide) (by decide) (by decide) rfl (by decide) rfl (fun H locs hP hD hS => ?_)
      refine W.eq (g2 := F0 m 62 ls []) rfl ?_
      rw [← hR]
      exact W.vret hx hb hr (fun t ht _ => ⟨rfl, by rw [ht]; exact hP, hS.F ht⟩) hS.2.2 dX6_markReached_62
    · rw [if_neg c_4] at hR
      have hV := hV.2 c_4
      refine lv_aload_n hx hb dX6_markReached_30 rfl (lv_at hl 0 rfl) ?_
      refine va_get (D := (dC, dI)) (ci := 4) (v := .ref qR) (C := RX6) (T := TX6) (N := 25) hx hb hts h1_ hown hK hP 0 rfl rfl 9 (by decide) h3_ (fun _ h9 => h9) rfl dX6_markReached_31 ?_
      refine lv_iload_n hx hb dX6_markReached_34 rfl (lv_at hl 1 rfl) ?_
      refine va_iald hx hb hK hP 4 0 rfl rfl (by unfold vp_in; decide +kernel) dX6_markReached_35 ?_
      refine lv_if_lt (tgt := 51) hx hb dX6_markReached_36 (by decide) (fun c_6 => ?_) (fun c_6 => ?_)
      · rw [if_pos c_6] at hR
        have hV := hV.1 c_6
        exact Ks51_1  g_M  H locs ls hP hD hS (lv_sub hl [0, 1] rfl) hV hR
      · rw [if_neg c_6] at hR
        have hV := hV.2 c_6
        refine lv_aload_n hx hb dX6_markReached_39 rfl (lv_at hl 0 rfl) ?_
        refine va_get (D := (dC, dI)) (ci := 4) (v := .ref qM) (C := RX6) (T := TX6) (N := 25) hx hb hts h1_ hown hK hP 0 rfl rfl 24 (by decide) h0_ (fun _ h9 => h9) rfl dX6_markReached_40 ?_
        refine lv_aload_n hx hb dX6_markReached_43 rfl (lv_at hl 0 rfl) ?_
        refine va_get (D := (dC, dI)) (ci := 4) (v := .ref qR) (C := RX6) (T := TX6) (N := 25) hx hb hts h1_ hown hK hP 0 rfl rfl 9 (by decide) h3_ (fun _ h9 => h9) rfl dX6_markReached_44 ?_
        refine lv_iload_n hx hb dX6_markReached_47 rfl (lv_at hl 1 rfl) ?_
        refine va_iald hx hb hK hP 4 0 rfl rfl (by unfold vp_in; decide +kernel) dX6_markReached_48 ?_
        refine lv_iconst (v := (1 : Int32)) hx hb dX6_markReached_49 (by decide +kernel) ?_
        obtain ⟨hi12, hV⟩ := hV
        refine va_zast hx hb hK hP hD hS 12 2 rfl rfl hi12 dX6_markReached_50 (fun H locs hP hD hS => ?_)
        have hP : va_P (dC, dI) kcl (mo_W q6 qA qB qF qR qC qL qS qO qY qH qW qM cyI cyJ cyZ m_th m_o m_f m_r m_b m_a u_F u_R g_F g_R g_C g_L m_rl m_lf m_ov m_pl g_S g_O g_Y g_H m_st g_W m_rm m_fs (upd g_M ((g_R ((1 : Int32)).toNatClampNeg)).toNatClampNeg (vp_nar .boolean (1 : Int32)))) H := hP
        have hD : va_D A (mo_W q6 qA qB qF qR qC qL qS qO qY qH qW qM cyI cyJ cyZ m_th m_o m_f m_r m_b m_a u_F u_R g_F g_R g_C g_L m_rl m_lf m_ov m_pl g_S g_O g_Y g_H m_st g_W m_rm m_fs (upd g_M ((g_R ((1 : Int32)).toNatClampNeg)).toNatClampNeg (vp_nar .boolean (1 : Int32)))) := hD
        exact Ks51_1  (upd g_M ((g_R ((1 : Int32)).toNatClampNeg)).toNatClampNeg (vp_nar .boolean (1 : Int32)))  H locs ls hP hD hS (lv_sub hl [0, 1] rfl) hV hR
  have Ks51_0 : ∀  (g_M : Nat → Int32)  (H : Heap) (locs : List Loc) (ls : Array Slot), va_P (dC, dI) kcl (mo_W q6 qA qB qF qR qC qL qS qO qY qH qW qM cyI cyJ cyZ m_th m_o m_f m_r m_b m_a u_F u_R g_F g_R g_C g_L m_rl m_lf m_ov m_pl g_S g_O g_Y g_H m_st g_W m_rm m_fs g_M) H → va_D A (mo_W q6 qA qB qF qR qC qL qS qO qY qH qW qM cyI cyJ cyZ m_th m_o m_f m_r m_b m_a u_F u_R g_F g_R g_C g_L m_rl m_lf m_ov m_pl g_S g_O g_Y g_H m_st g_W m_rm m_fs g_M) → va_S A s.heap H locs → lv_has ls 2 [(0, .ref q6), (1, .int (0 : Int32))] → vc_X6_markReached_s51_0 fu  m_o m_f m_r g_F g_R g_C g_M  → cf_X6_markReached_s51_0 fu  m_o m_f m_r g_F g_R g_C g_M  = R → W p l e (headSpec wsX6_markReached ({ frames := 1, cells := 0, slots := 0, locals := 25 })).room s m ([.ref q6] : List Value).toArray below meth c H locs 0 0 (MQ below (mu_Q none (dC, dI) kcl (mo_W q6 qA qB qF qR qC qL qS qO qY qH qW qM cyI cyJ cyZ m_th m_o m_f m_r m_b m_a u_F u_R g_F g_R g_C g_L m_rl m_lf m_ov m_pl g_S g_O g_Y g_H m_st g_W m_rm m_fs R) A) ([.ref q6] : List Value).toArray s 0 0 A) (F0 m 51 ls []) := by
    intro  g_M  H locs ls hP hD hS hl hV hR
    unfold cf_X6_markReached_s51_0 at hR
    unfold vc_X6_markReached_s51_0 at hV
    refine lv_iinc (v := (1 : Int32)) (lv' := [(1, .int (1 : Int32)), (0, .ref q6)]) hx hb dX6_markReached_51 hl (k := 1) rfl (by decide +kernel) (by decide) rfl (fun ls hl => ?_)
    refine lv_goto (tgt := 22) hx hb dX6_markReached_54 (by decide) ?_
    exact Ks22_1  g_M  H locs ls hP hD hS (lv_sub hl [1, 0] rfl) hV hR
  have Ks22_0 : ∀  (g_M : Nat → Int32)  (H : Heap) (locs : List Loc) (ls : Array Slot), va_P (dC, dI) kcl (mo_W q6 qA qB qF qR qC qL qS qO qY qH qW qM cyI cyJ cyZ m_th m_o m_f m_r m_b m_a u_F u_R g_F g_R g_C g_L m_rl m_lf m_ov m_pl g_S g_O g_Y g_H m_st g_W m_rm m_fs g_M) H → va_D A (mo_W q6 qA qB qF qR qC qL qS qO qY qH qW qM cyI cyJ cyZ m_th m_o m_f m_r m_b m_a u_F u_R g_F g_R g_C g_L m_rl m_lf m_ov m_pl g_S g_O g_Y g_H m_st g_W m_rm m_fs g_M) → va_S A s.heap H locs → lv_has ls 2 [(0, .ref q6), (1, .int (0 : Int32))] → vc_X6_markReached_s22_0 fu  m_o m_f m_r g_F g_R g_C g_M  → cf_X6_markReached_s22_0 fu  m_o m_f m_r g_F g_R g_C g_M  = R → W p l e (headSpec wsX6_markReached ({ frames := 1, cells := 0, slots := 0, locals := 25 })).room s m ([.ref q6] : List Value).toArray below meth c H locs 0 0 (MQ below (mu_Q none (dC, dI) kcl (mo_W q6 qA qB qF qR qC qL qS qO qY qH qW qM cyI cyJ cyZ m_th m_o m_f m_r m_b m_a u_F u_R g_F g_R g_C g_L m_rl m_lf m_ov m_pl g_S g_O g_Y g_H m_st g_W m_rm m_fs R) A) ([.ref q6] : List Value).toArray s 0 0 A) (F0 m 22 ls []) := by
    intro  g_M  H locs ls hP hD hS hl hV hR
    unfold cf_X6_markReached_s22_0 at hR
    unfold vc_X6_markReached_s22_0 at hV
    refine lv_iload_n hx hb dX6_markReached_22 rfl (lv_at hl 1 rfl) ?_
    refine lv_aload_n hx hb dX6_markReached_23 rfl (lv_at hl 0 rfl) ?_
    refine va_get (D := (dC, dI)) (ci := 4) (v := .int m_r) (C := RX6) (T := TX6) (N := 25) hx hb hts h1_ hown hK hP 0 rfl rfl 3 (by decide) h2_ (fun _ h9 => h9) rfl dX6_markReached_24 ?_
    refine lv_icmp_ge (tgt := 57) hx hb dX6_markReached_27 (by decide) (fun c_1 => ?_) (fun c_1 => ?_)
    · rw [if_pos c_1] at hR
      have hV := hV.1 c_1
      refine lv_aload_n hx hb dX6_markReached_57 rfl (lv_at hl 0 rfl) ?_
      refine lv_iconst (v := (0 : Int32)) hx hb dX6_markReached_58 (by decide +kernel) ?_
      obtain ⟨hv2, hV⟩ := hV
      refine mu_call (ws' := (mo_W q6 qA qB qF qR qC qL qS qO qY qH qW qM cyI cyJ cyZ m_th m_o m_f m_r m_b m_a u_F u_R g_F g_R g_C g_L m_rl m_lf m_ov m_pl g_S g_O g_Y g_H m_st g_W m_rm m_fs (cf_X6_spread fu m_o m_f g_F g_C g_M (0 : Int32)))) (wr := []) (va_runV (As := [.int (0 : Int32)]) (rest := []) ⟨hx, hb, hml, hown, hts⟩ (c_X6_spread l dC dI q6 qA qB qF qR qC qL qS qO qY qH qW qM cyI cyJ cyZ m_th m_o m_f m_r m_b m_a u_F u_R g_F g_R g_C g_L m_rl m_lf m_ov m_pl g_S g_O g_Y g_H m_st g_W m_rm m_fs g_M H.size fu (0 : Int32) hm_o hm_f hv2) (cwV 1 hts gX6_markReached_X6_spread rfl rfl rfl (by decide +kernel) ⟨Nat.le_of_ble_eq_true rfl, Nat.le_of_ble_eq_true rfl⟩) ⟨mu_blind, va_recv hK hP (ci := 4) (q0 := 0) rfl rfl, fun U hU hW => ⟨rfl, by rw [hU], by rw [hU]; exact hP, va_K.moved hW.alike (hK.sub [0, 1, 2] rfl), hD.weaken (fun _ _ _ _ => trivial)⟩⟩ rfl rfl hl.1 rfl (lv_room (Nat.le_of_ble_eq_true rfl)) dX6_markReached_59 ⟨Nat.le_refl _, Nat.le_refl _⟩) hP hD hS hA [0, 1, 2, 3, 4, 5, 6, 7, 8, 9, 10, 11, 12] [] [0, 1, 2, 3, 4, 5, 6, 7, 8, 9, 10, 11, 12] rfl rfl (by decide) (by decide) (by decide) rfl (by decide) rfl (fun H locs hP hD hS => ?_)
      refine W.eq (g2 := F0 m 62 ls []) rfl ?_
      rw [← hR]
      exact W.vret hx hb hr (fun t ht _ => ⟨rfl, by rw [ht]; exact hP, hS.F ht⟩) hS.2.2 dX6_markReached_62
    · rw [if_neg c_1] at hR
      have hV := hV.2 c_1
      refine lv_aload_n hx hb dX6_markReached_30 rfl (lv_at hl 0 rfl) ?_
      refine va_get (D := (dC, dI)) (ci := 4) (v := .ref qR) (C := RX6) (T := TX6) (N := 25) hx hb hts h1_ hown hK hP 0 rfl rfl 9 (by decide) h3_ (fun _ h9 => h9) rfl dX6_markReached_31 ?_
      refine lv_iload_n hx hb dX6_markReached_34 rfl (lv_at hl 1 rfl) ?_
      refine va_iald hx hb hK hP 4 0 rfl rfl (by unfold vp_in; decide +kernel) dX6_markReached_35 ?_
      refine lv_if_lt (tgt := 51) hx hb dX6_markReached_36 (by decide) (fun c_3 => ?_) (fun c_3 => ?_)
      · rw [if_pos c_3] at hR
        have hV := hV.1 c_3
        exact Ks51_0  g_M  H locs ls hP hD hS (lv_sub hl [0, 1] rfl) hV hR
      · rw [if_neg c_3] at hR
        have hV := hV.2 c_3
        refine lv_aload_n hx hb dX6_markReached_39 rfl (lv_at hl 0 rfl) ?_
        refine va_get (D := (dC, dI)) (ci := 4) (v := .ref qM) (C := RX6) (T := TX6) (N := 25) hx hb hts h1_ hown hK hP 0 rfl rfl 24 (by decide) h0_ (fun _ h9 => h9) rfl dX6_markReached_40 ?_
        refine lv_aload_n hx hb dX6_markReached_43 rfl (lv_at hl 0 rfl) ?_
        refine va_get (D := (dC, dI)) (ci := 4) (v := .ref qR) (C := RX6) (T := TX6) (N := 25) hx hb hts h1_ hown hK hP 0 rfl rfl 9 (by decide) h3_ (fun _ h9 => h9) rfl dX6_markReached_44 ?_
        refine lv_iload_n hx hb dX6_markReached_47 rfl (lv_at hl 1 rfl) ?_
        refine va_iald hx hb hK hP 4 0 rfl rfl (by unfold vp_in; decide +kernel) dX6_markReached_48 ?_
        refine lv_iconst (v := (1 : Int32)) hx hb dX6_markReached_49 (by decide +kernel) ?_
        obtain ⟨hi13, hV⟩ := hV
        refine va_zast hx hb hK hP hD hS 12 2 rfl rfl hi13 dX6_markReached_50 (fun H locs hP hD hS => ?_)
        have hP : va_P (dC, dI) kcl (mo_W q6 qA qB qF qR qC qL qS qO qY qH qW qM cyI cyJ cyZ m_th m_o m_f m_r m_b m_a u_F u_R g_F g_R g_C g_L m_rl m_lf m_ov m_pl g_S g_O g_Y g_H m_st g_W m_rm m_fs (upd g_M ((g_R ((0 : Int32)).toNatClampNeg)).toNatClampNeg (vp_nar .boolean (1 : Int32)))) H := hP
        have hD : va_D A (mo_W q6 qA qB qF qR qC qL qS qO qY qH qW qM cyI cyJ cyZ m_th m_o m_f m_r m_b m_a u_F u_R g_F g_R g_C g_L m_rl m_lf m_ov m_pl g_S g_O g_Y g_H m_st g_W m_rm m_fs (upd g_M ((g_R ((0 : Int32)).toNatClampNeg)).toNatClampNeg (vp_nar .boolean (1 : Int32)))) := hD
        exact Ks51_0  (upd g_M ((g_R ((0 : Int32)).toNatClampNeg)).toNatClampNeg (vp_nar .boolean (1 : Int32)))  H locs ls hP hD hS (lv_sub hl [0, 1] rfl) hV hR
  have Ks2_4 : ∀  (g_M : Nat → Int32)  (H : Heap) (locs : List Loc) (ls : Array Slot), va_P (dC, dI) kcl (mo_W q6 qA qB qF qR qC qL qS qO qY qH qW qM cyI cyJ cyZ m_th m_o m_f m_r m_b m_a u_F u_R g_F g_R g_C g_L m_rl m_lf m_ov m_pl g_S g_O g_Y g_H m_st g_W m_rm m_fs g_M) H → va_D A (mo_W q6 qA qB qF qR qC qL qS qO qY qH qW qM cyI cyJ cyZ m_th m_o m_f m_r m_b m_a u_F u_R g_F g_R g_C g_L m_rl m_lf m_ov m_pl g_S g_O g_Y g_H m_st g_W m_rm m_fs g_M) → va_S A s.heap H locs → lv_has ls 2 [(0, .ref q6), (1, .int (4 : Int32))] → vc_X6_markReached_s2_4 fu  m_o m_f m_r g_F g_R g_C g_M  → cf_X6_markReached_s2_4 fu  m_o m_f m_r g_F g_R g_C g_M  = R → W p l e (headSpec wsX6_markReached ({ frames := 1, cells := 0, slots := 0, locals := 25 })).room s m ([.ref q6] : List Value).toArray below meth c H locs 0 0 (MQ below (mu_Q none (dC, dI) kcl (mo_W q6 qA qB qF qR qC qL qS qO qY qH qW qM cyI cyJ cyZ m_th m_o m_f m_r m_b m_a u_F u_R g_F g_R g_C g_L m_rl m_lf m_ov m_pl g_S g_O g_Y g_H m_st g_W m_rm m_fs R) A) ([.ref q6] : List Value).toArray s 0 0 A) (F0 m 2 ls []) := by
    intro  g_M  H locs ls hP hD hS hl hV hR
    unfold cf_X6_markReached_s2_4 at hR
    unfold vc_X6_markReached_s2_4 at hV
    refine lv_iload_n hx hb dX6_markReached_2 rfl (lv_at hl 1 rfl) ?_
    refine lv_iconst (v := (4 : Int32)) hx hb dX6_markReached_3 (by decide +kernel) ?_
    refine lv_icmp_ge (tgt := 20) hx hb dX6_markReached_4 (by decide) (fun _ => ?_) (fun c_0 => absurd c_0 (by decide +kernel))
    refine lv_iconst (v := (0 : Int32)) hx hb dX6_markReached_20 (by decide +kernel) ?_
    refine lv_istore_n (lv' := [(1, .int (0 : Int32)), (0, .ref q6)]) hx hb dX6_markReached_21 rfl hl (by decide) rfl (fun ls hl => ?_)
    exact Ks22_0  g_M  H locs ls hP hD hS (lv_sub hl [1, 0] rfl) hV hR
  have Ks2_3 : ∀  (g_M : Nat → Int32)  (H : Heap) (locs : List Loc) (ls : Array Slot), va_P (dC, dI) kcl (mo_W q6 qA qB qF qR qC qL qS qO qY qH qW qM cyI cyJ cyZ m_th m_o m_f m_r m_b m_a u_F u_R g_F g_R g_C g_L m_rl m_lf m_ov m_pl g_S g_O g_Y g_H m_st g_W m_rm m_fs g_M) H → va_D A (mo_W q6 qA qB qF qR qC qL qS qO qY qH qW qM cyI cyJ cyZ m_th m_o m_f m_r m_b m_a u_F u_R g_F g_R g_C g_L m_rl m_lf m_ov m_pl g_S g_O g_Y g_H m_st g_W m_rm m_fs g_M) → va_S A s.heap H locs → lv_has ls 2 [(0, .ref q6), (1, .int (3 : Int32))] → vc_X6_markReached_s2_3 fu  m_o m_f m_r g_F g_R g_C g_M  → cf_X6_markReached_s2_3 fu  m_o m_f m_r g_F g_R g_C g_M  = R → W p l e (headSpec wsX6_markReached ({ frames := 1, cells := 0, slots := 0, locals := 25 })).room s m ([.ref q6] : List Value).toArray below meth c H locs 0 0 (MQ below (mu_Q none (dC, dI) kcl (mo_W q6 qA qB qF qR qC qL qS qO qY qH qW qM cyI cyJ cyZ m_th m_o m_f m_r m_b m_a u_F u_R g_F g_R g_C g_L m_rl m_lf m_ov m_pl g_S g_O g_Y g_H m_st g_W m_rm m_fs R) A) ([.ref q6] : List Value).toArray s 0 0 A) (F0 m 2 ls []) := by
    intro  g_M  H locs ls hP hD hS hl hV hR
    unfold cf_X6_markReached_s2_3 at hR
    unfold vc_X6_markReached_s2_3 at hV
    refine lv_iload_n hx hb dX6_markReached_2 rfl (lv_at hl 1 rfl) ?_
    refine lv_iconst (v := (4 : Int32)) hx hb dX6_markReached_3 (by decide +kernel) ?_
    refine lv_icmp_ge (tgt := 20) hx hb dX6_markReached_4 (by decide) (fun c_0 => absurd c_0 (by decide +kernel)) (fun _ => ?_)
    refine lv_aload_n hx hb dX6_markReached_7 rfl (lv_at hl 0 rfl) ?_
    refine va_get (D := (dC, dI)) (ci := 4) (v := .ref qM) (C := RX6) (T := TX6) (N := 25) hx hb hts h1_ hown hK hP 0 rfl rfl 24 (by decide) h0_ (fun _ h9 => h9) rfl dX6_markReached_8 ?_
    refine lv_iload_n hx hb dX6_markReached_11 rfl (lv_at hl 1 rfl) ?_
    refine lv_iconst (v := (0 : Int32)) hx hb dX6_markReached_12 (by decide +kernel) ?_
    refine va_zast hx hb hK hP hD hS 12 2 rfl rfl (by unfold vp_in; decide +kernel) dX6_markReached_13 (fun H locs hP hD hS => ?_)
    have hP : va_P (dC, dI) kcl (mo_W q6 qA qB qF qR qC qL qS qO qY qH qW qM cyI cyJ cyZ m_th m_o m_f m_r m_b m_a u_F u_R g_F g_R g_C g_L m_rl m_lf m_ov m_pl g_S g_O g_Y g_H m_st g_W m_rm m_fs (upd g_M ((3 : Int32)).toNatClampNeg (vp_nar .boolean (0 : Int32)))) H := hP
    have hD : va_D A (mo_W q6 qA qB qF qR qC qL qS qO qY qH qW qM cyI cyJ cyZ m_th m_o m_f m_r m_b m_a u_F u_R g_F g_R g_C g_L m_rl m_lf m_ov m_pl g_S g_O g_Y g_H m_st g_W m_rm m_fs (upd g_M ((3 : Int32)).toNatClampNeg (vp_nar .boolean (0 : Int32)))) := hD
    refine lv_iinc (v := (4 : Int32)) (lv' := [(1, .int (4 : Int32)), (0, .ref q6)]) hx hb dX6_markReached_14 hl (k := 1) rfl (by decide +kernel) (by decide) rfl (fun ls hl => ?_)
    refine lv_goto (tgt := 2) hx hb dX6_markReached_17 (by decide) ?_
    exact Ks2_4  (upd g_M ((3 : Int32)).toNatClampNeg (vp_nar .boolean (0 : Int32)))  H locs ls hP hD hS (lv_sub hl [1, 0] rfl) hV hR
  have Ks2_2 : ∀  (g_M : Nat → Int32)  (H : Heap) (locs : List Loc) (ls : Array Slot), va_P (dC, dI) kcl (mo_W q6 qA qB qF qR qC qL qS qO qY qH qW qM cyI cyJ cyZ m_th m_o m_f m_r m_b m_a u_F u_R g_F g_R g_C g_L m_rl m_lf m_ov m_pl g_S g_O g_Y g_H m_st g_W m_rm m_fs g_M) H → va_D A (mo_W q6 qA qB qF qR qC qL qS qO qY qH qW qM cyI cyJ cyZ m_th m_o m_f m_r m_b m_a u_F u_R g_F g_R g_C g_L m_rl m_lf m_ov m_pl g_S g_O g_Y g_H m_st g_W m_rm m_fs g_M) → va_S A s.heap H locs → lv_has ls 2 [(0, .ref q6), (1, .int (2 : Int32))] → vc_X6_markReached_s2_2 fu  m_o m_f m_r g_F g_R g_C g_M  → cf_X6_markReached_s2_2 fu  m_o m_f m_r g_F g_R g_C g_M  = R → W p l e (headSpec wsX6_markReached ({ frames := 1, cells := 0, slots := 0, locals := 25 })).room s m ([.ref q6] : List Value).toArray below meth c H locs 0 0 (MQ below (mu_Q none (dC, dI) kcl (mo_W q6 qA qB qF qR qC qL qS qO qY qH qW qM cyI cyJ cyZ m_th m_o m_f m_r m_b m_a u_F u_R g_F g_R g_C g_L m_rl m_lf m_ov m_pl g_S g_O g_Y g_H m_st g_W m_rm m_fs R) A) ([.ref q6] : List Value).toArray s 0 0 A) (F0 m 2 ls []) := by
    intro  g_M  H locs ls hP hD hS hl hV hR
    unfold cf_X6_markReached_s2_2 at hR
    unfold vc_X6_markReached_s2_2 at hV
    refine lv_iload_n hx hb dX6_markReached_2 rfl (lv_at hl 1 rfl) ?_
    refine lv_iconst (v := (4 : Int32)) hx hb dX6_markReached_3 (by decide +kernel) ?_
    refine lv_icmp_ge (tgt := 20) hx hb dX6_markReached_4 (by decide) (fun c_0 => absurd c_0 (by decide +kernel)) (fun _ => ?_)
    refine lv_aload_n hx hb dX6_markReached_7 rfl (lv_at hl 0 rfl) ?_
    refine va_get (D := (dC, dI)) (ci := 4) (v := .ref qM) (C := RX6) (T := TX6) (N := 25) hx hb hts h1_ hown hK hP 0 rfl rfl 24 (by decide) h0_ (fun _ h9 => h9) rfl dX6_markReached_8 ?_
    refine lv_iload_n hx hb dX6_markReached_11 rfl (lv_at hl 1 rfl) ?_
    refine lv_iconst (v := (0 : Int32)) hx hb dX6_markReached_12 (by decide +kernel) ?_
    refine va_zast hx hb hK hP hD hS 12 2 rfl rfl (by unfold vp_in; decide +kernel) dX6_markReached_13 (fun H locs hP hD hS => ?_)
    have hP : va_P (dC, dI) kcl (mo_W q6 qA qB qF qR qC qL qS qO qY qH qW qM cyI cyJ cyZ m_th m_o m_f m_r m_b m_a u_F u_R g_F g_R g_C g_L m_rl m_lf m_ov m_pl g_S g_O g_Y g_H m_st g_W m_rm m_fs (upd g_M ((2 : Int32)).toNatClampNeg (vp_nar .boolean (0 : Int32)))) H := hP
    have hD : va_D A (mo_W q6 qA qB qF qR qC qL qS qO qY qH qW qM cyI cyJ cyZ m_th m_o m_f m_r m_b m_a u_F u_R g_F g_R g_C g_L m_rl m_lf m_ov m_pl g_S g_O g_Y g_H m_st g_W m_rm m_fs (upd g_M ((2 : Int32)).toNatClampNeg (vp_nar .boolean (0 : Int32)))) := hD
    refine lv_iinc (v := (3 : Int32)) (lv' := [(1, .int (3 : Int32)), (0, .ref q6)]) hx hb dX6_markReached_14 hl (k := 1) rfl (by decide +kernel) (by decide) rfl (fun ls hl => ?_)
    refine lv_goto (tgt := 2) hx hb dX6_markReached_17 (by decide) ?_
    exact Ks2_3  (upd g_M ((2 : Int32)).toNatClampNeg (vp_nar .boolean (0 : Int32)))  H locs ls hP hD hS (lv_sub hl [1, 0] rfl) hV hR
  have Ks2_1 : ∀  (g_M : Nat → Int32)  (H : Heap) (locs : List Loc) (ls : Array Slot), va_P (dC, dI) kcl (mo_W q6 qA qB qF qR qC qL qS qO qY qH qW qM cyI cyJ cyZ m_th m_o m_f m_r m_b m_a u_F u_R g_F g_R g_C g_L m_rl m_lf m_ov m_pl g_S g_O g_Y g_H m_st g_W m_rm m_fs g_M) H → va_D A (mo_W q6 qA qB qF qR qC qL qS qO qY qH qW qM cyI cyJ cyZ m_th m_o m_f m_r m_b m_a u_F u_R g_F g_R g_C g_L m_rl m_lf m_ov m_pl g_S g_O g_Y g_H m_st g_W m_rm m_fs g_M) → va_S A s.heap H locs → lv_has ls 2 [(0, .ref q6), (1, .int (1 : Int32))] → vc_X6_markReached_s2_1 fu  m_o m_f m_r g_F g_R g_C g_M  → cf_X6_markReached_s2_1 fu  m_o m_f m_r g_F g_R g_C g_M  = R → W p l e (headSpec wsX6_markReached ({ frames := 1, cells := 0, slots := 0, locals := 25 })).room s m ([.ref q6] : List Value).toArray below meth c H locs 0 0 (MQ below (mu_Q none (dC, dI) kcl (mo_W q6 qA qB qF qR qC qL qS qO qY qH qW qM cyI cyJ cyZ m_th m_o m_f m_r m_b m_a u_F u_R g_F g_R g_C g_L m_rl m_lf m_ov m_pl g_S g_O g_Y g_H m_st g_W m_rm m_fs R) A) ([.ref q6] : List Value).toArray s 0 0 A) (F0 m 2 ls []) := by
    intro  g_M  H locs ls hP hD hS hl hV hR
    unfold cf_X6_markReached_s2_1 at hR
    unfold vc_X6_markReached_s2_1 at hV
    refine lv_iload_n hx hb dX6_markReached_2 rfl (lv_at hl 1 rfl) ?_
    refine lv_iconst (v := (4 : Int32)) hx hb dX6_markReached_3 (by decide +kernel) ?_
    refine lv_icmp_ge (tgt := 20) hx hb dX6_markReached_4 (by decide) (fun c_0 => absurd c_0 (by decide +kernel)) (fun _ => ?_)
    refine lv_aload_n hx hb dX6_markReached_7 rfl (lv_at hl 0 rfl) ?_
    refine va_get (D := (dC, dI)) (ci := 4) (v := .ref qM) (C := RX6) (T := TX6) (N := 25) hx hb hts h1_ hown hK hP 0 rfl rfl 24 (by decide) h0_ (fun _ h9 => h9) rfl dX6_markReached_8 ?_
    refine lv_iload_n hx hb dX6_markReached_11 rfl (lv_at hl 1 rfl) ?_
    refine lv_iconst (v := (0 : Int32)) hx hb dX6_markReached_12 (by decide +kernel) ?_
    refine va_zast hx hb hK hP hD hS 12 2 rfl rfl (by unfold vp_in; decide +kernel) dX6_markReached_13 (fun H locs hP hD hS => ?_)
    have hP : va_P (dC, dI) kcl (mo_W q6 qA qB qF qR qC qL qS qO qY qH qW qM cyI cyJ cyZ m_th m_o m_f m_r m_b m_a u_F u_R g_F g_R g_C g_L m_rl m_lf m_ov m_pl g_S g_O g_Y g_H m_st g_W m_rm m_fs (upd g_M ((1 : Int32)).toNatClampNeg (vp_nar .boolean (0 : Int32)))) H := hP
    have hD : va_D A (mo_W q6 qA qB qF qR qC qL qS qO qY qH qW qM cyI cyJ cyZ m_th m_o m_f m_r m_b m_a u_F u_R g_F g_R g_C g_L m_rl m_lf m_ov m_pl g_S g_O g_Y g_H m_st g_W m_rm m_fs (upd g_M ((1 : Int32)).toNatClampNeg (vp_nar .boolean (0 : Int32)))) := hD
    refine lv_iinc (v := (2 : Int32)) (lv' := [(1, .int (2 : Int32)), (0, .ref q6)]) hx hb dX6_markReached_14 hl (k := 1) rfl (by decide +kernel) (by decide) rfl (fun ls hl => ?_)
    refine lv_goto (tgt := 2) hx hb dX6_markReached_17 (by decide) ?_
    exact Ks2_2  (upd g_M ((1 : Int32)).toNatClampNeg (vp_nar .boolean (0 : Int32)))  H locs ls hP hD hS (lv_sub hl [1, 0] rfl) hV hR
  have Ks2_0 : ∀  (g_M : Nat → Int32)  (H : Heap) (locs : List Loc) (ls : Array Slot), va_P (dC, dI) kcl (mo_W q6 qA qB qF qR qC qL qS qO qY qH qW qM cyI cyJ cyZ m_th m_o m_f m_r m_b m_a u_F u_R g_F g_R g_C g_L m_rl m_lf m_ov m_pl g_S g_O g_Y g_H m_st g_W m_rm m_fs g_M) H → va_D A (mo_W q6 qA qB qF qR qC qL qS qO qY qH qW qM cyI cyJ cyZ m_th m_o m_f m_r m_b m_a u_F u_R g_F g_R g_C g_L m_rl m_lf m_ov m_pl g_S g_O g_Y g_H m_st g_W m_rm m_fs g_M) → va_S A s.heap H locs → lv_has ls 2 [(0, .ref q6), (1, .int (0 : Int32))] → vc_X6_markReached_s2_0 fu  m_o m_f m_r g_F g_R g_C g_M  → cf_X6_markReached_s2_0 fu  m_o m_f m_r g_F g_R g_C g_M  = R → W p l e (headSpec wsX6_markReached ({ frames := 1, cells := 0, slots := 0, locals := 25 })).room s m ([.ref q6] : List Value).toArray below meth c H locs 0 0 (MQ below (mu_Q none (dC, dI) kcl (mo_W q6 qA qB qF qR qC qL qS qO qY qH qW qM cyI cyJ cyZ m_th m_o m_f m_r m_b m_a u_F u_R g_F g_R g_C g_L m_rl m_lf m_ov m_pl g_S g_O g_Y g_H m_st g_W m_rm m_fs R) A) ([.ref q6] : List Value).toArray s 0 0 A) (F0 m 2 ls []) := by
    intro  g_M  H locs ls hP hD hS hl hV hR
    unfold cf_X6_markReached_s2_0 at hR
    unfold vc_X6_markReached_s2_0 at hV
    refine lv_iload_n hx hb dX6_markReached_2 rfl (lv_at hl 1 rfl) ?_
    refine lv_iconst (v := (4 : Int32)) hx hb dX6_markReached_3 (by decide +kernel) ?_
    refine lv_icmp_ge (tgt := 20) hx hb dX6_markReached_4 (by decide) (fun c_0 => absurd c_0 (by decide +kernel)) (fun _ => ?_)
    refine lv_aload_n hx hb dX6_markReached_7 rfl (lv_at hl 0 rfl) ?_
    refine va_get (D := (dC, dI)) (ci := 4) (v := .ref qM) (C := RX6) (T := TX6) (N := 25) hx hb hts h1_ hown hK hP 0 rfl rfl 24 (by decide) h0_ (fun _ h9 => h9) rfl dX6_markReached_8 ?_
    refine lv_iload_n hx hb dX6_markReached_11 rfl (lv_at hl 1 rfl) ?_
    refine lv_iconst (v := (0 : Int32)) hx hb dX6_markReached_12 (by decide +kernel) ?_
    refine va_zast hx hb hK hP hD hS 12 2 rfl rfl (by unfold vp_in; decide +kernel) dX6_markReached_13 (fun H locs hP hD hS => ?_)
    have hP : va_P (dC, dI) kcl (mo_W q6 qA qB qF qR qC qL qS qO qY qH qW qM cyI cyJ cyZ m_th m_o m_f m_r m_b m_a u_F u_R g_F g_R g_C g_L m_rl m_lf m_ov m_pl g_S g_O g_Y g_H m_st g_W m_rm m_fs (upd g_M ((0 : Int32)).toNatClampNeg (vp_nar .boolean (0 : Int32)))) H := hP
    have hD : va_D A (mo_W q6 qA qB qF qR qC qL qS qO qY qH qW qM cyI cyJ cyZ m_th m_o m_f m_r m_b m_a u_F u_R g_F g_R g_C g_L m_rl m_lf m_ov m_pl g_S g_O g_Y g_H m_st g_W m_rm m_fs (upd g_M ((0 : Int32)).toNatClampNeg (vp_nar .boolean (0 : Int32)))) := hD
    refine lv_iinc (v := (1 : Int32)) (lv' := [(1, .int (1 : Int32)), (0, .ref q6)]) hx hb dX6_markReached_14 hl (k := 1) rfl (by decide +kernel) (by decide) rfl (fun ls hl => ?_)
    refine lv_goto (tgt := 2) hx hb dX6_markReached_17 (by decide) ?_
    exact Ks2_1  (upd g_M ((0 : Int32)).toNatClampNeg (vp_nar .boolean (0 : Int32)))  H locs ls hP hD hS (lv_sub hl [1, 0] rfl) hV hR
  have hl := lv_entry ([.ref q6]) (n := 2) (Nat.le_of_ble_eq_true rfl)
  rw [lg_entry_eq]
  generalize (lg_sl ([.ref q6]) ++ List.replicate (2 - (lg_sl ([.ref q6])).length) Slot.unset).toArray = ls at hl ⊢
  have hl : lv_has ls 2 [(0, .ref q6)] := hl
  unfold cf_X6_markReached at hR
  unfold vc_X6_markReached at hV
  refine mu_start (A := A) (fun H locs hP hS => ?_) hP
  refine lv_iconst (v := (0 : Int32)) hx hb dX6_markReached_0 (by decide +kernel) ?_
  refine lv_istore_n (lv' := [(1, .int (0 : Int32)), (0, .ref q6)]) hx hb dX6_markReached_1 rfl hl (by decide) rfl (fun ls hl => ?_)
  exact Ks2_0  g_M  H locs ls hP hD hS (lv_sub hl [1, 0] rfl) hV hR
